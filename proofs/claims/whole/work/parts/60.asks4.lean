set_option maxHeartbeats 4000000 in
set_option maxRecDepth 100000 in
theorem m_X11_told (G : GG) (ro : va_W) (x : Nat) (r1 r2 r3 r4 r5 d b1 b2 b3 : Nat → Nat) (hi : Int32) (S tk le T tk3 le3 : Nat → Int32) (os os3 : Nat → Option Nat) (t t3 : Nat) (wa st3 wa3 : Int32) (w : Int32) (hW : WF S 9999 9999) (hO : MoOK G ro (r5 0) S os t)  : Mth G M_X11_told 8 0 0 [.ref x, .int w] (List.flatten [SP x r1 r2 r3 r4 r5 d b1 b2 b3 hi, MO G b1 (vwn S 2 6) tk os (vwn S 14 6) (vwn S 20 6) (vwn S 26 6) (vwn S 51 24) le (S 32) (bitF S) (S 0) (S 1) t (S 33) (-1) wa]) ro (fun r ws' ro' => r = some (.int (toldR S w)) ∧ ws' = (List.flatten [SP x r1 r2 r3 r4 r5 d b1 b2 b3 hi, MO G b1 (vwn S 2 6) tk os (vwn S 14 6) (vwn S 20 6) (vwn S 26 6) (vwn S 51 24) le (S 32) (bitF S) (S 0) (S 1) t (S 33) (-1) wa]) ∧ ro = ro') := by
  refine mth_of (by decide +kernel) (Nat.le_of_ble_eq_true rfl) (fun X hC hR => ?_)
  have b32 := hW.peo.le
  obtain ⟨ta1, ta2, ta3, hTr, -, -, -⟩ := id hO.2.2
  show Ev G X 0 0 0 [(0, .ref x), (1, .int w)] [] (List.flatten [SP x r1 r2 r3 r4 r5 d b1 b2 b3 hi, MO G b1 (vwn S 2 6) tk os (vwn S 14 6) (vwn S 20 6) (vwn S 26 6) (vwn S 51 24) le (S 32) (bitF S) (S 0) (S 1) t (S 33) (-1) wa]) ro
  refine ev_iload_n hC dX11_told_0 rfl 1 rfl ?_
  by_cases w_1_0 : w = nI 0
  · subst w_1_0
    refine ev_tabIn (off := 43) (tgt := 44) hC dX11_told_1 (by decide) (by decide) (by decide) (by decide) ?_
    refine ev_aload_n hC dX11_told_44 rfl 0 rfl ?_
    refine ev_get hC fl_X11_58_11 (mw 0 rfl) rfl dX11_told_45 ?_
    refine ev_get hC fl_X11_145_3 (mw 1 rfl) rfl dX11_told_48 ?_
    refine ev_iret hC hR rfl dX11_told_51 ?_
    have er : toldR S (nI 0) = (S 0) := by rw [toldR, if_pos rfl]
    exact ⟨by rw [er], rfl, rfl⟩
  by_cases w_1_1 : w = nI 1
  · subst w_1_1
    refine ev_tabIn (off := 51) (tgt := 52) hC dX11_told_1 (by decide) (by decide) (by decide) (by decide) ?_
    refine ev_aload_n hC dX11_told_52 rfl 0 rfl ?_
    refine ev_get hC fl_X11_58_11 (mw 0 rfl) rfl dX11_told_53 ?_
    refine ev_get hC fl_X11_96_3 (mw 1 rfl) rfl dX11_told_56 ?_
    refine ev_get hC fl_X11_167_10 (mr hTr) rfl dX11_told_59 ?_
    refine ev_iret hC hR rfl dX11_told_62 ?_
    have er : toldR S (nI 1) = (rainF S) := by rw [toldR, if_neg (by decide), if_pos rfl]
    exact ⟨by rw [er], rfl, rfl⟩
  by_cases w_1_2 : w = nI 2
  · subst w_1_2
    refine ev_tabIn (off := 62) (tgt := 63) hC dX11_told_1 (by decide) (by decide) (by decide) (by decide) ?_
    refine ev_aload_n hC dX11_told_63 rfl 0 rfl ?_
    refine ev_get hC fl_X11_58_11 (mw 0 rfl) rfl dX11_told_64 ?_
    refine ev_get hC fl_X11_96_3 (mw 1 rfl) rfl dX11_told_67 ?_
    refine ev_get hC fl_X11_170_10 (mr hTr) rfl dX11_told_70 ?_
    refine ev_iret hC hR rfl dX11_told_73 ?_
    have er : toldR S (nI 2) = (needF S) := by rw [toldR, if_neg (by decide), if_neg (by decide), if_pos rfl]
    exact ⟨by rw [er], rfl, rfl⟩
  by_cases w_1_3 : w = nI 3
  · subst w_1_3
    refine ev_tabIn (off := 73) (tgt := 74) hC dX11_told_1 (by decide) (by decide) (by decide) (by decide) ?_
    refine ev_aload_n hC dX11_told_74 rfl 0 rfl ?_
    refine ev_get hC fl_X11_58_11 (mw 0 rfl) rfl dX11_told_75 ?_
    refine ev_get hC fl_X11_173_3 (mw 1 rfl) rfl dX11_told_78 ?_
    have bk_2 : NB S 1 _ := hW.war
    have k_2 := bk_2.eq
    have lk_2 := bk_2.le
    have mk_2 := bk_2.lt
    refine ev_top (y := (nI (sn S 1))) k_2 ?_
    refine ev_if_eqN (tgt := 88) hC dX11_told_81 (by decide) (by omega) (fun c_3 => ?_) (fun c_3 => ?_)
    · refine ev_iconst (v := (nI 0)) hC dX11_told_88 (by decide) ?_
      refine ev_iret hC hR rfl dX11_told_89 ?_
      have e1 : S 1 = (nI 0) := by have := hW.war.le; rw [hW.war.eq, show sn S 1 = 0 by omega]
      have er : toldR S (nI 3) = (nI 0) := by rw [toldR, if_neg (by decide), if_neg (by decide), if_neg (by decide), if_pos rfl, e1]
      exact ⟨by rw [er], rfl, rfl⟩
    · refine ev_iconst (v := (nI 1)) hC dX11_told_84 (by decide) ?_
      refine ev_goto (tgt := 89) hC dX11_told_85 (by decide) ?_
      refine ev_iret hC hR rfl dX11_told_89 ?_
      have e1 : S 1 = (nI 1) := by have := hW.war.le; rw [hW.war.eq, show sn S 1 = 1 by omega]
      have er : toldR S (nI 3) = (nI 1) := by rw [toldR, if_neg (by decide), if_neg (by decide), if_neg (by decide), if_pos rfl, e1]
      exact ⟨by rw [er], rfl, rfl⟩
  by_cases w_1_4 : w = nI 4
  · subst w_1_4
    refine ev_tabIn (off := 89) (tgt := 90) hC dX11_told_1 (by decide) (by decide) (by decide) (by decide) ?_
    refine ev_aload_n hC dX11_told_90 rfl 0 rfl ?_
    refine ev_get hC fl_X11_58_11 (mw 0 rfl) rfl dX11_told_91 ?_
    refine ev_callV (As := []) (st := []) (wf := (List.flatten [SP x r1 r2 r3 r4 r5 d b1 b2 b3 hi])) hC cv_X11_176 (m_X3_allSalt G ro b1 S tk le os t (r5 0) (-1) wa  hW) (by omega) rfl rfl (Nat.le_of_ble_eq_true rfl) (perm_sg (n := 2) [1, 0] rfl rfl (by decide)) (mw 1 rfl) rfl dX11_told_94 (by omega) (by omega) ?_
    rintro _ _ _ ⟨rfl, rfl, rfl⟩
    show Ev G X 0 0 97 [(0, .ref x), (1, .int (nI 4))] [.int (sum6 S 2)] (List.flatten [MO G b1 (vwn S 2 6) tk os (vwn S 14 6) (vwn S 20 6) (vwn S 26 6) (vwn S 51 24) le (S 32) (bitF S) (S 0) (S 1) t (S 33) (-1) wa, SP x r1 r2 r3 r4 r5 d b1 b2 b3 hi]) ro
    refine ev_perm (ws' := (List.flatten [SP x r1 r2 r3 r4 r5 d b1 b2 b3 hi, MO G b1 (vwn S 2 6) tk os (vwn S 14 6) (vwn S 20 6) (vwn S 26 6) (vwn S 51 24) le (S 32) (bitF S) (S 0) (S 1) t (S 33) (-1) wa])) (perm_sg2 (n := 2) [1, 0] rfl rfl (by decide)) ?_
    refine ev_iret hC hR rfl dX11_told_97 ?_
    have er : toldR S (nI 4) = (sum6 S 2) := by rw [toldR, if_neg (by decide), if_neg (by decide), if_neg (by decide), if_neg (by decide), if_pos rfl]
    exact ⟨by rw [er], rfl, rfl⟩
  by_cases w_1_5 : w = nI 5
  · subst w_1_5
    refine ev_tabIn (off := 97) (tgt := 98) hC dX11_told_1 (by decide) (by decide) (by decide) (by decide) ?_
    refine ev_aload_n hC dX11_told_98 rfl 0 rfl ?_
    refine ev_get hC fl_X11_58_11 (mw 0 rfl) rfl dX11_told_99 ?_
    refine ev_callV (As := []) (st := []) (wf := (List.flatten [SP x r1 r2 r3 r4 r5 d b1 b2 b3 hi])) hC cv_X11_179 (m_X3_allGrudge G ro b1 S tk le os t (r5 0) (-1) wa  hW) (by omega) rfl rfl (Nat.le_of_ble_eq_true rfl) (perm_sg (n := 2) [1, 0] rfl rfl (by decide)) (mw 1 rfl) rfl dX11_told_102 (by omega) (by omega) ?_
    rintro _ _ _ ⟨rfl, rfl, rfl⟩
    show Ev G X 0 0 105 [(0, .ref x), (1, .int (nI 5))] [.int (gruF S (sn S 32))] (List.flatten [MO G b1 (vwn S 2 6) tk os (vwn S 14 6) (vwn S 20 6) (vwn S 26 6) (vwn S 51 24) le (S 32) (bitF S) (S 0) (S 1) t (S 33) (-1) wa, SP x r1 r2 r3 r4 r5 d b1 b2 b3 hi]) ro
    refine ev_perm (ws' := (List.flatten [SP x r1 r2 r3 r4 r5 d b1 b2 b3 hi, MO G b1 (vwn S 2 6) tk os (vwn S 14 6) (vwn S 20 6) (vwn S 26 6) (vwn S 51 24) le (S 32) (bitF S) (S 0) (S 1) t (S 33) (-1) wa])) (perm_sg2 (n := 2) [1, 0] rfl rfl (by decide)) ?_
    refine ev_iret hC hR rfl dX11_told_105 ?_
    have er : toldR S (nI 5) = (gruF S (sn S 32)) := by rw [toldR, if_neg (by decide), if_neg (by decide), if_neg (by decide), if_neg (by decide), if_neg (by decide), if_pos rfl]
    exact ⟨by rw [er], rfl, rfl⟩
  by_cases w_1_6 : w = nI 6
  · subst w_1_6
    refine ev_tabIn (off := 105) (tgt := 106) hC dX11_told_1 (by decide) (by decide) (by decide) (by decide) ?_
    refine ev_aload_n hC dX11_told_106 rfl 0 rfl ?_
    refine ev_get hC fl_X11_58_11 (mw 0 rfl) rfl dX11_told_107 ?_
    refine ev_get hC fl_X11_164_3 (mw 1 rfl) rfl dX11_told_110 ?_
    refine ev_iret hC hR rfl dX11_told_113 ?_
    have er : toldR S (nI 6) = (bitF S) := by rw [toldR, if_neg (by decide), if_neg (by decide), if_neg (by decide), if_neg (by decide), if_neg (by decide), if_neg (by decide), if_pos rfl]
    exact ⟨by rw [er], rfl, rfl⟩
  refine ev_tabOut (tgt := 114) hC dX11_told_1 (sw_out (lo := 0) (hi := 6) (fun j h1 h2 => ?_)) (by decide) ?_
  · intro e
    have hj : j = 0 ∨ j = 1 ∨ j = 2 ∨ j = 3 ∨ j = 4 ∨ j = 5 ∨ j = 6 := by omega
    rcases hj with rfl | rfl | rfl | rfl | rfl | rfl | rfl
    · exact w_1_0 (Int32.toInt_inj.mp (e.trans (by decide)))
    · exact w_1_1 (Int32.toInt_inj.mp (e.trans (by decide)))
    · exact w_1_2 (Int32.toInt_inj.mp (e.trans (by decide)))
    · exact w_1_3 (Int32.toInt_inj.mp (e.trans (by decide)))
    · exact w_1_4 (Int32.toInt_inj.mp (e.trans (by decide)))
    · exact w_1_5 (Int32.toInt_inj.mp (e.trans (by decide)))
    · exact w_1_6 (Int32.toInt_inj.mp (e.trans (by decide)))
  refine ev_iload_n hC dX11_told_114 rfl 1 rfl ?_
  refine ev_bipush (v := (nI 10)) hC dX11_told_115 (by decide) ?_
  refine ev_isub hC dX11_told_117 ?_
  refine ev_callS (As := [.int (w - (nI 10))]) (st := []) (wc := []) (wf := (List.flatten [SP x r1 r2 r3 r4 r5 d b1 b2 b3 hi, MO G b1 (vwn S 2 6) tk os (vwn S 14 6) (vwn S 20 6) (vwn S 26 6) (vwn S 51 24) le (S 32) (bitF S) (S 0) (S 1) t (S 33) (-1) wa])) hC ct_X11_104 (m_X11_isSide G ro (w - (nI 10))) (by omega) rfl rfl (Nat.le_of_ble_eq_true rfl) (List.Perm.refl _) dX11_told_118 (by omega) (by omega) ?_
  rintro _ _ _ ⟨rfl, rfl, rfl⟩
  refine ev_ws (List.nil_append _) ?_
  show Ev G X 0 0 121 [(0, .ref x), (1, .int w)] [.int (bI ((nI 0) ≤ (w - (nI 10)) ∧ (w - (nI 10)) ≤ (nI 5)))] (List.flatten [SP x r1 r2 r3 r4 r5 d b1 b2 b3 hi, MO G b1 (vwn S 2 6) tk os (vwn S 14 6) (vwn S 20 6) (vwn S 26 6) (vwn S 51 24) le (S 32) (bitF S) (S 0) (S 1) t (S 33) (-1) wa]) ro
  refine ev_if_eqB (tgt := 139) hC dX11_told_121 (by decide) (fun c_4 => ?_) (fun c_4 => ?_)
  · refine ev_iconst (v := (-1)) hC dX11_told_139 (by decide) ?_
    refine ev_iret hC hR rfl dX11_told_140 ?_
    have er : toldR S w = (-1) := by rw [toldR, if_neg (by assumption), if_neg (by assumption), if_neg (by assumption), if_neg (by assumption), if_neg (by assumption), if_neg (by assumption), if_neg (by assumption), if_neg (by assumption)]
    exact ⟨by rw [er], rfl, rfl⟩
  · refine ev_aload_n hC dX11_told_124 rfl 0 rfl ?_
    refine ev_get hC fl_X11_58_11 (mw 0 rfl) rfl dX11_told_125 ?_
    refine ev_get hC fl_X11_158_3 (mw 1 rfl) rfl dX11_told_128 ?_
    refine ev_iload_n hC dX11_told_131 rfl 1 rfl ?_
    refine ev_bipush (v := (nI 10)) hC dX11_told_132 (by decide) ?_
    refine ev_isub hC dX11_told_134 ?_
    obtain ⟨k, hk, hke⟩ := inN (m := 5) (by omega) (by assumption : nI 0 ≤ w - nI 10 ∧ w - nI 10 ≤ nI 5)
    have hpk : pn (w - nI 10) = k := by rw [hke]; exact nI_clamp (by omega)
    refine ev_top (y := (nI k)) hke ?_
    refine ev_ialdN (i := k) hC (mw 2 rfl) (by omega) (by omega) dX11_told_135 ?_
    refine ev_top (y := (S (2 + k))) (vwn_at (by omega)) ?_
    refine ev_goto (tgt := 140) hC dX11_told_136 (by decide) ?_
    refine ev_iret hC hR rfl dX11_told_140 ?_
    have er : toldR S w = (S (2 + k)) := by rw [toldR, if_neg (by assumption), if_neg (by assumption), if_neg (by assumption), if_neg (by assumption), if_neg (by assumption), if_neg (by assumption), if_neg (by assumption), if_pos (by assumption), hpk]
    exact ⟨by rw [er], rfl, rfl⟩

set_option maxHeartbeats 4000000 in
set_option maxRecDepth 100000 in
theorem m_X11_trace (G : GG) (ro : va_W) (x : Nat) (r1 r2 r3 r4 r5 d b1 b2 b3 : Nat → Nat) (hi : Int32) (S tk le T tk3 le3 : Nat → Int32) (os os3 : Nat → Option Nat) (t t3 : Nat) (wa st3 wa3 : Int32)  (D q2 q3 g1 g2 g3 : Nat → Int32) (gc : Int32) (rn : Nat) (y : Int32) (hW : WF S 9999 9999) (hO : MoOK G ro (r5 0) S os t) (hrn : rn ≤ 20) : Mth G M_X11_trace 8 0 0 [.ref x, .int y] (List.flatten [SP x r1 r2 r3 r4 r5 d b1 b2 b3 hi, RW G r5 20 D q2 q3 (nI rn) g1 g2 g3 gc, MO G b1 (vwn S 2 6) tk os (vwn S 14 6) (vwn S 20 6) (vwn S 26 6) (vwn S 51 24) le (S 32) (bitF S) (S 0) (S 1) t (S 33) (-1) wa]) ro (fun r ws' ro' => r = some (.int (traceR D rn y)) ∧ ws' = (List.flatten [SP x r1 r2 r3 r4 r5 d b1 b2 b3 hi, RW G r5 20 D q2 q3 (nI rn) g1 g2 g3 gc, MO G b1 (vwn S 2 6) tk os (vwn S 14 6) (vwn S 20 6) (vwn S 26 6) (vwn S 51 24) le (S 32) (bitF S) (S 0) (S 1) t (S 33) (-1) wa]) ∧ ro = ro') := by
  refine mth_of (by decide +kernel) (Nat.le_of_ble_eq_true rfl) (fun X hC hR => ?_)
  have b32 := hW.peo.le
  show Ev G X 0 0 0 [(0, .ref x), (1, .int y)] [] (List.flatten [SP x r1 r2 r3 r4 r5 d b1 b2 b3 hi, RW G r5 20 D q2 q3 (nI rn) g1 g2 g3 gc, MO G b1 (vwn S 2 6) tk os (vwn S 14 6) (vwn S 20 6) (vwn S 26 6) (vwn S 51 24) le (S 32) (bitF S) (S 0) (S 1) t (S 33) (-1) wa]) ro
  refine ev_iload_n hC dX11_trace_0 rfl 1 rfl ?_
  refine ev_iconst (v := (nI 0)) hC dX11_trace_1 (by decide) ?_
  refine ev_aload_n hC dX11_trace_2 rfl 0 rfl ?_
  refine ev_get hC fl_X11_29_11 (mw 0 rfl) rfl dX11_trace_3 ?_
  refine ev_callV (As := []) (st := [.int (nI 0), .int y]) (wf := (List.flatten [SP x r1 r2 r3 r4 r5 d b1 b2 b3 hi, MO G b1 (vwn S 2 6) tk os (vwn S 14 6) (vwn S 20 6) (vwn S 26 6) (vwn S 51 24) le (S 32) (bitF S) (S 0) (S 1) t (S 33) (-1) wa])) hC cv_X11_242 (m_X7_kept G ro r5 20 rn D q2 q3 g1 g2 g3 gc (by omega) (by omega)) (by omega) rfl rfl (Nat.le_of_ble_eq_true rfl) (perm_sg (n := 3) [1, 0, 2] rfl rfl (by decide)) (mw 1 rfl) rfl dX11_trace_6 (by omega) (by omega) ?_
  rintro _ _ _ ⟨rfl, rfl, rfl⟩
  show Ev G X 0 0 9 [(0, .ref x), (1, .int y)] [.int (nI (min rn 20)), .int (nI 0), .int y] (List.flatten [RW G r5 20 D q2 q3 (nI rn) g1 g2 g3 gc, SP x r1 r2 r3 r4 r5 d b1 b2 b3 hi, MO G b1 (vwn S 2 6) tk os (vwn S 14 6) (vwn S 20 6) (vwn S 26 6) (vwn S 51 24) le (S 32) (bitF S) (S 0) (S 1) t (S 33) (-1) wa]) ro
  refine ev_perm (ws' := (List.flatten [SP x r1 r2 r3 r4 r5 d b1 b2 b3 hi, RW G r5 20 D q2 q3 (nI rn) g1 g2 g3 gc, MO G b1 (vwn S 2 6) tk os (vwn S 14 6) (vwn S 20 6) (vwn S 26 6) (vwn S 51 24) le (S 32) (bitF S) (S 0) (S 1) t (S 33) (-1) wa])) (perm_sg2 (n := 3) [1, 0, 2] rfl rfl (by decide)) ?_
  refine ev_top (y := (nI rn)) (congrArg nI (by omega)) ?_
  refine ev_iconst (v := (nI 1)) hC dX11_trace_9 (by decide) ?_
  refine ev_isub hC dX11_trace_10 ?_
  refine ev_callS (As := [.int y, .int (nI 0), .int ((nI rn) - (nI 1))]) (st := []) (wc := []) (wf := (List.flatten [SP x r1 r2 r3 r4 r5 d b1 b2 b3 hi, RW G r5 20 D q2 q3 (nI rn) g1 g2 g3 gc, MO G b1 (vwn S 2 6) tk os (vwn S 14 6) (vwn S 20 6) (vwn S 26 6) (vwn S 51 24) le (S 32) (bitF S) (S 0) (S 1) t (S 33) (-1) wa])) hC ct_X11_68 (m_X11_isWithin G ro y (nI 0) ((nI rn) - (nI 1))) (by omega) rfl rfl (Nat.le_of_ble_eq_true rfl) (List.Perm.refl _) dX11_trace_11 (by omega) (by omega) ?_
  rintro _ _ _ ⟨rfl, rfl, rfl⟩
  refine ev_ws (List.nil_append _) ?_
  show Ev G X 0 0 14 [(0, .ref x), (1, .int y)] [.int (bI ((nI 0) ≤ y ∧ y ≤ ((nI rn) - (nI 1))))] (List.flatten [SP x r1 r2 r3 r4 r5 d b1 b2 b3 hi, RW G r5 20 D q2 q3 (nI rn) g1 g2 g3 gc, MO G b1 (vwn S 2 6) tk os (vwn S 14 6) (vwn S 20 6) (vwn S 26 6) (vwn S 51 24) le (S 32) (bitF S) (S 0) (S 1) t (S 33) (-1) wa]) ro
  refine ev_if_eqB (tgt := 29) hC dX11_trace_14 (by decide) (fun c_1 => ?_) (fun c_1 => ?_)
  · refine ev_iconst (v := (-1)) hC dX11_trace_29 (by decide) ?_
    refine ev_iret hC hR rfl dX11_trace_30 ?_
    have er : traceR D rn y = (-1) := by rw [traceR, if_neg (by assumption)]
    exact ⟨by rw [er], rfl, rfl⟩
  · obtain ⟨j, hj, rfl⟩ := inR (r := rn) (by omega) (by assumption)
    have hpj : pn (nI j) = j := nI_clamp (by omega)
    refine ev_aload_n hC dX11_trace_17 rfl 0 rfl ?_
    refine ev_get hC fl_X11_29_11 (mw 0 rfl) rfl dX11_trace_18 ?_
    refine ev_get hC fl_X11_244_7 (mw 1 rfl) rfl dX11_trace_21 ?_
    refine ev_iload_n hC dX11_trace_24 rfl 1 rfl ?_
    refine ev_ialdN (i := j) hC (mw 2 rfl) (by omega) (by omega) dX11_trace_25 ?_
    refine ev_goto (tgt := 30) hC dX11_trace_26 (by decide) ?_
    refine ev_iret hC hR rfl dX11_trace_30 ?_
    have er : traceR D rn (nI j) = (D j) := by rw [traceR, if_pos (by assumption), hpj]
    exact ⟨by rw [er], rfl, rfl⟩

set_option maxHeartbeats 4000000 in
set_option maxRecDepth 100000 in
theorem m_X11_count (G : GG) (ro : va_W) (x : Nat) (r1 r2 r3 r4 r5 d b1 b2 b3 : Nat → Nat) (hi : Int32) (S tk le T tk3 le3 : Nat → Int32) (os os3 : Nat → Option Nat) (t t3 : Nat) (wa st3 wa3 : Int32)  (a2 a3 ag1 ag2 ag3 : Nat → Int32) (agc : Int32) (s1 s2 s3 : Nat → Int32) (sc : Int32) (p3 pg1 pg2 pg3 : Nat → Int32) (pgc : Int32) (k3 bg1 bg2 bg3 : Nat → Int32) (bgc : Int32) (D q2 q3 g1 g2 g3 : Nat → Int32) (gc : Int32) (rn : Nat) (y : Int32) (hW : WF S 9999 9999) (hO : MoOK G ro (r5 0) S os t)  : Mth G M_X11_count 8 0 0 [.ref x, .int y] (List.flatten [SP x r1 r2 r3 r4 r5 d b1 b2 b3 hi, RW G r1 100 (vwn S 122 100) a2 a3 (nI (sn S 37)) ag1 ag2 ag3 agc, RW G r2 5 (vwn S 75 5) (vwn S 80 5) (vwn S 85 5) (nI (sn S 34)) s1 s2 s3 sc, RW G r3 8 (vwn S 90 8) (vwn S 98 8) p3 (nI (sn S 35)) pg1 pg2 pg3 pgc, RW G r4 8 (vwn S 106 8) (vwn S 114 8) k3 (nI (sn S 36)) bg1 bg2 bg3 bgc, RW G r5 20 D q2 q3 (nI rn) g1 g2 g3 gc, MO G b1 (vwn S 2 6) tk os (vwn S 14 6) (vwn S 20 6) (vwn S 26 6) (vwn S 51 24) le (S 32) (bitF S) (S 0) (S 1) t (S 33) (-1) wa]) ro (fun r ws' ro' => r = some (.int (countR S (nI rn) y)) ∧ ws' = (List.flatten [SP x r1 r2 r3 r4 r5 d b1 b2 b3 hi, RW G r1 100 (vwn S 122 100) a2 a3 (nI (sn S 37)) ag1 ag2 ag3 agc, RW G r2 5 (vwn S 75 5) (vwn S 80 5) (vwn S 85 5) (nI (sn S 34)) s1 s2 s3 sc, RW G r3 8 (vwn S 90 8) (vwn S 98 8) p3 (nI (sn S 35)) pg1 pg2 pg3 pgc, RW G r4 8 (vwn S 106 8) (vwn S 114 8) k3 (nI (sn S 36)) bg1 bg2 bg3 bgc, RW G r5 20 D q2 q3 (nI rn) g1 g2 g3 gc, MO G b1 (vwn S 2 6) tk os (vwn S 14 6) (vwn S 20 6) (vwn S 26 6) (vwn S 51 24) le (S 32) (bitF S) (S 0) (S 1) t (S 33) (-1) wa]) ∧ ro = ro') := by
  refine mth_of (by decide +kernel) (Nat.le_of_ble_eq_true rfl) (fun X hC hR => ?_)
  have b32 := hW.peo.le
  show Ev G X 0 0 0 [(0, .ref x), (1, .int y)] [] (List.flatten [SP x r1 r2 r3 r4 r5 d b1 b2 b3 hi, RW G r1 100 (vwn S 122 100) a2 a3 (nI (sn S 37)) ag1 ag2 ag3 agc, RW G r2 5 (vwn S 75 5) (vwn S 80 5) (vwn S 85 5) (nI (sn S 34)) s1 s2 s3 sc, RW G r3 8 (vwn S 90 8) (vwn S 98 8) p3 (nI (sn S 35)) pg1 pg2 pg3 pgc, RW G r4 8 (vwn S 106 8) (vwn S 114 8) k3 (nI (sn S 36)) bg1 bg2 bg3 bgc, RW G r5 20 D q2 q3 (nI rn) g1 g2 g3 gc, MO G b1 (vwn S 2 6) tk os (vwn S 14 6) (vwn S 20 6) (vwn S 26 6) (vwn S 51 24) le (S 32) (bitF S) (S 0) (S 1) t (S 33) (-1) wa]) ro
  refine ev_iload_n hC dX11_count_0 rfl 1 rfl ?_
  by_cases w_1_0 : y = nI 0
  · subst w_1_0
    refine ev_tabIn (off := 43) (tgt := 44) hC dX11_count_1 (by decide) (by decide) (by decide) (by decide) ?_
    refine ev_aload_n hC dX11_count_44 rfl 0 rfl ?_
    refine ev_get hC fl_X11_58_11 (mw 0 rfl) rfl dX11_count_45 ?_
    refine ev_get hC fl_X11_107_3 (mw 36 rfl) rfl dX11_count_48 ?_
    refine ev_iret hC hR rfl dX11_count_51 ?_
    have er : countR S (nI rn) (nI 0) = (S 32) := by rw [countR, if_neg (by decide), if_pos (by decide), show pn (nI 0) = 0 from rfl]
    exact ⟨by rw [er], rfl, rfl⟩
  by_cases w_1_1 : y = nI 1
  · subst w_1_1
    refine ev_tabIn (off := 51) (tgt := 52) hC dX11_count_1 (by decide) (by decide) (by decide) (by decide) ?_
    refine ev_aload_n hC dX11_count_52 rfl 0 rfl ?_
    refine ev_get hC fl_X11_58_11 (mw 0 rfl) rfl dX11_count_53 ?_
    refine ev_get hC fl_X11_80_3 (mw 36 rfl) rfl dX11_count_56 ?_
    refine ev_iret hC hR rfl dX11_count_59 ?_
    have er : countR S (nI rn) (nI 1) = (S 33) := by rw [countR, if_neg (by decide), if_pos (by decide), show pn (nI 1) = 1 from rfl]
    exact ⟨by rw [er], rfl, rfl⟩
  by_cases w_1_2 : y = nI 2
  · subst w_1_2
    refine ev_tabIn (off := 59) (tgt := 60) hC dX11_count_1 (by decide) (by decide) (by decide) (by decide) ?_
    refine ev_aload_n hC dX11_count_60 rfl 0 rfl ?_
    refine ev_get hC fl_X11_20_11 (mw 0 rfl) rfl dX11_count_61 ?_
    refine ev_get hC fl_X11_280_7 (mw 8 rfl) rfl dX11_count_64 ?_
    refine ev_iret hC hR rfl dX11_count_67 ?_
    have er : countR S (nI rn) (nI 2) = (nI (sn S 34)) := by rw [countR, if_neg (by decide), if_pos (by decide), show pn (nI 2) = 2 from rfl]; exact hW.seen.eq
    exact ⟨by rw [er], rfl, rfl⟩
  by_cases w_1_3 : y = nI 3
  · subst w_1_3
    refine ev_tabIn (off := 67) (tgt := 68) hC dX11_count_1 (by decide) (by decide) (by decide) (by decide) ?_
    refine ev_aload_n hC dX11_count_68 rfl 0 rfl ?_
    refine ev_get hC fl_X11_23_11 (mw 0 rfl) rfl dX11_count_69 ?_
    refine ev_get hC fl_X11_280_7 (mw 15 rfl) rfl dX11_count_72 ?_
    refine ev_iret hC hR rfl dX11_count_75 ?_
    have er : countR S (nI rn) (nI 3) = (nI (sn S 35)) := by rw [countR, if_neg (by decide), if_pos (by decide), show pn (nI 3) = 3 from rfl]; exact hW.plan.eq
    exact ⟨by rw [er], rfl, rfl⟩
  by_cases w_1_4 : y = nI 4
  · subst w_1_4
    refine ev_tabIn (off := 75) (tgt := 76) hC dX11_count_1 (by decide) (by decide) (by decide) (by decide) ?_
    refine ev_aload_n hC dX11_count_76 rfl 0 rfl ?_
    refine ev_get hC fl_X11_26_11 (mw 0 rfl) rfl dX11_count_77 ?_
    refine ev_get hC fl_X11_280_7 (mw 22 rfl) rfl dX11_count_80 ?_
    refine ev_iret hC hR rfl dX11_count_83 ?_
    have er : countR S (nI rn) (nI 4) = (nI (sn S 36)) := by rw [countR, if_neg (by decide), if_pos (by decide), show pn (nI 4) = 4 from rfl]; exact hW.book.eq
    exact ⟨by rw [er], rfl, rfl⟩
  by_cases w_1_5 : y = nI 5
  · subst w_1_5
    refine ev_tabIn (off := 83) (tgt := 84) hC dX11_count_1 (by decide) (by decide) (by decide) (by decide) ?_
    refine ev_aload_n hC dX11_count_84 rfl 0 rfl ?_
    refine ev_get hC fl_X11_16_11 (mw 0 rfl) rfl dX11_count_85 ?_
    refine ev_get hC fl_X11_280_7 (mw 1 rfl) rfl dX11_count_88 ?_
    refine ev_iret hC hR rfl dX11_count_91 ?_
    have er : countR S (nI rn) (nI 5) = (nI (sn S 37)) := by rw [countR, if_neg (by decide), if_pos (by decide), show pn (nI 5) = 5 from rfl]; exact hW.tape.eq
    exact ⟨by rw [er], rfl, rfl⟩
  by_cases w_1_6 : y = nI 6
  · subst w_1_6
    refine ev_tabIn (off := 91) (tgt := 92) hC dX11_count_1 (by decide) (by decide) (by decide) (by decide) ?_
    refine ev_aload_n hC dX11_count_92 rfl 0 rfl ?_
    refine ev_get hC fl_X11_29_11 (mw 0 rfl) rfl dX11_count_93 ?_
    refine ev_get hC fl_X11_280_7 (mw 29 rfl) rfl dX11_count_96 ?_
    refine ev_iret hC hR rfl dX11_count_99 ?_
    have er : countR S (nI rn) (nI 6) = nI rn := if_pos rfl
    exact ⟨by rw [er], rfl, rfl⟩
  refine ev_tabOut (tgt := 100) hC dX11_count_1 (sw_out (lo := 0) (hi := 6) (fun j h1 h2 => ?_)) (by decide) ?_
  · intro e
    have hj : j = 0 ∨ j = 1 ∨ j = 2 ∨ j = 3 ∨ j = 4 ∨ j = 5 ∨ j = 6 := by omega
    rcases hj with rfl | rfl | rfl | rfl | rfl | rfl | rfl
    · exact w_1_0 (Int32.toInt_inj.mp (e.trans (by decide)))
    · exact w_1_1 (Int32.toInt_inj.mp (e.trans (by decide)))
    · exact w_1_2 (Int32.toInt_inj.mp (e.trans (by decide)))
    · exact w_1_3 (Int32.toInt_inj.mp (e.trans (by decide)))
    · exact w_1_4 (Int32.toInt_inj.mp (e.trans (by decide)))
    · exact w_1_5 (Int32.toInt_inj.mp (e.trans (by decide)))
    · exact w_1_6 (Int32.toInt_inj.mp (e.trans (by decide)))
  refine ev_iconst (v := (-1)) hC dX11_count_100 (by decide) ?_
  refine ev_iret hC hR rfl dX11_count_101 ?_
  have er : countR S (nI rn) y = -1 := by
    rw [countR, if_neg (by assumption)]
    refine if_neg (fun z => ?_)
    obtain ⟨k, hk, rfl⟩ := inN (m := 5) (by omega) z
    rcases (show k = 0 ∨ k = 1 ∨ k = 2 ∨ k = 3 ∨ k = 4 ∨ k = 5 by omega) with rfl | rfl | rfl | rfl | rfl | rfl <;> contradiction
  exact ⟨by rw [er], rfl, rfl⟩

set_option maxHeartbeats 4000000 in
set_option maxRecDepth 100000 in
theorem m_X11_isOfKind_k0 (G : GG) (ro : va_W) (r tr : Nat) (p v kk : Nat) (he : (r, ob 4 [.int (nI 0), .int (nI p), .int (nI v), .ref tr]) ∈ ro) (hkk : kk ≤ 6) : Mth G M_X11_isOfKind 0 0 0 [.ref r, .int (nI kk)] [] ro (fun r ws' ro' => r = some (.int (bI (undF 0 kk))) ∧ ws' = [] ∧ ro = ro') := by
  refine mth_of (by decide +kernel) (Nat.le_of_ble_eq_true rfl) (fun X hC hR => ?_)
  show Ev G X 0 0 0 [(0, .ref r), (1, .int (nI kk))] [] [] ro
  refine ev_iload_n hC dX11_isOfKind_0 rfl 1 rfl ?_
  rcases (show kk = 0 ∨ kk = 1 ∨ kk = 2 ∨ kk = 3 ∨ kk = 4 ∨ kk = 5 ∨ kk = 6 by omega) with rfl | rfl | rfl | rfl | rfl | rfl | rfl
  · refine ev_tabOut (tgt := 70) hC dX11_isOfKind_1 (by decide) (by decide) ?_
    refine ev_iconst (v := (nI 1)) hC dX11_isOfKind_70 (by decide) ?_
    refine ev_zret hC hR rfl (by rfl) dX11_isOfKind_71 ?_
    exact ⟨rfl, rfl, rfl⟩
  · refine ev_tabIn (off := 39) (tgt := 40) hC dX11_isOfKind_1 (by decide) (by decide) (by decide) (by decide) ?_
    refine ev_aload_n hC dX11_isOfKind_40 rfl 0 rfl ?_
    refine ev_inst (v := nI 0) (nm := "SaltPeace$Gentle") hC (ft_in 575 (by decide +kernel) rfl) (mr he) rfl (Or.inr ⟨rfl, by decide +kernel⟩) dX11_isOfKind_41 ?_
    refine ev_zret hC hR rfl (by rfl) dX11_isOfKind_44 ?_
    exact ⟨rfl, rfl, rfl⟩
  · refine ev_tabIn (off := 44) (tgt := 45) hC dX11_isOfKind_1 (by decide) (by decide) (by decide) (by decide) ?_
    refine ev_aload_n hC dX11_isOfKind_45 rfl 0 rfl ?_
    refine ev_inst (v := nI 0) (nm := "SaltPeace$Bitter") hC (ft_in 586 (by decide +kernel) rfl) (mr he) rfl (Or.inr ⟨rfl, by decide +kernel⟩) dX11_isOfKind_46 ?_
    refine ev_zret hC hR rfl (by rfl) dX11_isOfKind_49 ?_
    exact ⟨rfl, rfl, rfl⟩
  · refine ev_tabIn (off := 49) (tgt := 50) hC dX11_isOfKind_1 (by decide) (by decide) (by decide) (by decide) ?_
    refine ev_aload_n hC dX11_isOfKind_50 rfl 0 rfl ?_
    refine ev_inst (v := nI 0) (nm := "SaltPeace$Sly") hC (ft_in 597 (by decide +kernel) rfl) (mr he) rfl (Or.inr ⟨rfl, by decide +kernel⟩) dX11_isOfKind_51 ?_
    refine ev_zret hC hR rfl (by rfl) dX11_isOfKind_54 ?_
    exact ⟨rfl, rfl, rfl⟩
  · refine ev_tabIn (off := 54) (tgt := 55) hC dX11_isOfKind_1 (by decide) (by decide) (by decide) (by decide) ?_
    refine ev_aload_n hC dX11_isOfKind_55 rfl 0 rfl ?_
    refine ev_inst (v := nI 0) (nm := "SaltPeace$Meek") hC (ft_in 608 (by decide +kernel) rfl) (mr he) rfl (Or.inr ⟨rfl, by decide +kernel⟩) dX11_isOfKind_56 ?_
    refine ev_zret hC hR rfl (by rfl) dX11_isOfKind_59 ?_
    exact ⟨rfl, rfl, rfl⟩
  · refine ev_tabIn (off := 59) (tgt := 60) hC dX11_isOfKind_1 (by decide) (by decide) (by decide) (by decide) ?_
    refine ev_aload_n hC dX11_isOfKind_60 rfl 0 rfl ?_
    refine ev_inst (v := nI 0) (nm := "SaltPeace$Proud") hC (ft_in 619 (by decide +kernel) rfl) (mr he) rfl (Or.inr ⟨rfl, by decide +kernel⟩) dX11_isOfKind_61 ?_
    refine ev_zret hC hR rfl (by rfl) dX11_isOfKind_64 ?_
    exact ⟨rfl, rfl, rfl⟩
  · refine ev_tabIn (off := 64) (tgt := 65) hC dX11_isOfKind_1 (by decide) (by decide) (by decide) (by decide) ?_
    refine ev_aload_n hC dX11_isOfKind_65 rfl 0 rfl ?_
    refine ev_inst (v := nI 0) (nm := "SaltPeace$Told") hC (ft_in 630 (by decide +kernel) rfl) (mr he) rfl (Or.inr ⟨rfl, by decide +kernel⟩) dX11_isOfKind_66 ?_
    refine ev_zret hC hR rfl (by rfl) dX11_isOfKind_69 ?_
    exact ⟨rfl, rfl, rfl⟩

set_option maxHeartbeats 4000000 in
set_option maxRecDepth 100000 in
theorem m_X11_isOfKind_k1 (G : GG) (ro : va_W) (r tr : Nat) (p v kk : Nat) (he : (r, ob 1 [.int (nI 1), .int (nI p), .int (nI v), .ref tr]) ∈ ro) (hkk : kk ≤ 6) : Mth G M_X11_isOfKind 0 0 0 [.ref r, .int (nI kk)] [] ro (fun r ws' ro' => r = some (.int (bI (undF 1 kk))) ∧ ws' = [] ∧ ro = ro') := by
  refine mth_of (by decide +kernel) (Nat.le_of_ble_eq_true rfl) (fun X hC hR => ?_)
  show Ev G X 0 0 0 [(0, .ref r), (1, .int (nI kk))] [] [] ro
  refine ev_iload_n hC dX11_isOfKind_0 rfl 1 rfl ?_
  rcases (show kk = 0 ∨ kk = 1 ∨ kk = 2 ∨ kk = 3 ∨ kk = 4 ∨ kk = 5 ∨ kk = 6 by omega) with rfl | rfl | rfl | rfl | rfl | rfl | rfl
  · refine ev_tabOut (tgt := 70) hC dX11_isOfKind_1 (by decide) (by decide) ?_
    refine ev_iconst (v := (nI 1)) hC dX11_isOfKind_70 (by decide) ?_
    refine ev_zret hC hR rfl (by rfl) dX11_isOfKind_71 ?_
    exact ⟨rfl, rfl, rfl⟩
  · refine ev_tabIn (off := 39) (tgt := 40) hC dX11_isOfKind_1 (by decide) (by decide) (by decide) (by decide) ?_
    refine ev_aload_n hC dX11_isOfKind_40 rfl 0 rfl ?_
    refine ev_inst (v := nI 1) (nm := "SaltPeace$Gentle") hC (ft_in 575 (by decide +kernel) rfl) (mr he) rfl (Or.inl ⟨rfl, Or.inr rfl⟩) dX11_isOfKind_41 ?_
    refine ev_zret hC hR rfl (by rfl) dX11_isOfKind_44 ?_
    exact ⟨rfl, rfl, rfl⟩
  · refine ev_tabIn (off := 44) (tgt := 45) hC dX11_isOfKind_1 (by decide) (by decide) (by decide) (by decide) ?_
    refine ev_aload_n hC dX11_isOfKind_45 rfl 0 rfl ?_
    refine ev_inst (v := nI 0) (nm := "SaltPeace$Bitter") hC (ft_in 586 (by decide +kernel) rfl) (mr he) rfl (Or.inr ⟨rfl, by decide +kernel⟩) dX11_isOfKind_46 ?_
    refine ev_zret hC hR rfl (by rfl) dX11_isOfKind_49 ?_
    exact ⟨rfl, rfl, rfl⟩
  · refine ev_tabIn (off := 49) (tgt := 50) hC dX11_isOfKind_1 (by decide) (by decide) (by decide) (by decide) ?_
    refine ev_aload_n hC dX11_isOfKind_50 rfl 0 rfl ?_
    refine ev_inst (v := nI 0) (nm := "SaltPeace$Sly") hC (ft_in 597 (by decide +kernel) rfl) (mr he) rfl (Or.inr ⟨rfl, by decide +kernel⟩) dX11_isOfKind_51 ?_
    refine ev_zret hC hR rfl (by rfl) dX11_isOfKind_54 ?_
    exact ⟨rfl, rfl, rfl⟩
  · refine ev_tabIn (off := 54) (tgt := 55) hC dX11_isOfKind_1 (by decide) (by decide) (by decide) (by decide) ?_
    refine ev_aload_n hC dX11_isOfKind_55 rfl 0 rfl ?_
    refine ev_inst (v := nI 0) (nm := "SaltPeace$Meek") hC (ft_in 608 (by decide +kernel) rfl) (mr he) rfl (Or.inr ⟨rfl, by decide +kernel⟩) dX11_isOfKind_56 ?_
    refine ev_zret hC hR rfl (by rfl) dX11_isOfKind_59 ?_
    exact ⟨rfl, rfl, rfl⟩
  · refine ev_tabIn (off := 59) (tgt := 60) hC dX11_isOfKind_1 (by decide) (by decide) (by decide) (by decide) ?_
    refine ev_aload_n hC dX11_isOfKind_60 rfl 0 rfl ?_
    refine ev_inst (v := nI 0) (nm := "SaltPeace$Proud") hC (ft_in 619 (by decide +kernel) rfl) (mr he) rfl (Or.inr ⟨rfl, by decide +kernel⟩) dX11_isOfKind_61 ?_
    refine ev_zret hC hR rfl (by rfl) dX11_isOfKind_64 ?_
    exact ⟨rfl, rfl, rfl⟩
  · refine ev_tabIn (off := 64) (tgt := 65) hC dX11_isOfKind_1 (by decide) (by decide) (by decide) (by decide) ?_
    refine ev_aload_n hC dX11_isOfKind_65 rfl 0 rfl ?_
    refine ev_inst (v := nI 0) (nm := "SaltPeace$Told") hC (ft_in 630 (by decide +kernel) rfl) (mr he) rfl (Or.inr ⟨rfl, by decide +kernel⟩) dX11_isOfKind_66 ?_
    refine ev_zret hC hR rfl (by rfl) dX11_isOfKind_69 ?_
    exact ⟨rfl, rfl, rfl⟩

set_option maxHeartbeats 4000000 in
set_option maxRecDepth 100000 in
theorem m_X11_isOfKind_k2 (G : GG) (ro : va_W) (r tr : Nat) (p v kk : Nat) (he : (r, ob 0 [.int (nI 2), .int (nI p), .int (nI v), .ref tr]) ∈ ro) (hkk : kk ≤ 6) : Mth G M_X11_isOfKind 0 0 0 [.ref r, .int (nI kk)] [] ro (fun r ws' ro' => r = some (.int (bI (undF 2 kk))) ∧ ws' = [] ∧ ro = ro') := by
  refine mth_of (by decide +kernel) (Nat.le_of_ble_eq_true rfl) (fun X hC hR => ?_)
  show Ev G X 0 0 0 [(0, .ref r), (1, .int (nI kk))] [] [] ro
  refine ev_iload_n hC dX11_isOfKind_0 rfl 1 rfl ?_
  rcases (show kk = 0 ∨ kk = 1 ∨ kk = 2 ∨ kk = 3 ∨ kk = 4 ∨ kk = 5 ∨ kk = 6 by omega) with rfl | rfl | rfl | rfl | rfl | rfl | rfl
  · refine ev_tabOut (tgt := 70) hC dX11_isOfKind_1 (by decide) (by decide) ?_
    refine ev_iconst (v := (nI 1)) hC dX11_isOfKind_70 (by decide) ?_
    refine ev_zret hC hR rfl (by rfl) dX11_isOfKind_71 ?_
    exact ⟨rfl, rfl, rfl⟩
  · refine ev_tabIn (off := 39) (tgt := 40) hC dX11_isOfKind_1 (by decide) (by decide) (by decide) (by decide) ?_
    refine ev_aload_n hC dX11_isOfKind_40 rfl 0 rfl ?_
    refine ev_inst (v := nI 0) (nm := "SaltPeace$Gentle") hC (ft_in 575 (by decide +kernel) rfl) (mr he) rfl (Or.inr ⟨rfl, by decide +kernel⟩) dX11_isOfKind_41 ?_
    refine ev_zret hC hR rfl (by rfl) dX11_isOfKind_44 ?_
    exact ⟨rfl, rfl, rfl⟩
  · refine ev_tabIn (off := 44) (tgt := 45) hC dX11_isOfKind_1 (by decide) (by decide) (by decide) (by decide) ?_
    refine ev_aload_n hC dX11_isOfKind_45 rfl 0 rfl ?_
    refine ev_inst (v := nI 1) (nm := "SaltPeace$Bitter") hC (ft_in 586 (by decide +kernel) rfl) (mr he) rfl (Or.inl ⟨rfl, Or.inr rfl⟩) dX11_isOfKind_46 ?_
    refine ev_zret hC hR rfl (by rfl) dX11_isOfKind_49 ?_
    exact ⟨rfl, rfl, rfl⟩
  · refine ev_tabIn (off := 49) (tgt := 50) hC dX11_isOfKind_1 (by decide) (by decide) (by decide) (by decide) ?_
    refine ev_aload_n hC dX11_isOfKind_50 rfl 0 rfl ?_
    refine ev_inst (v := nI 0) (nm := "SaltPeace$Sly") hC (ft_in 597 (by decide +kernel) rfl) (mr he) rfl (Or.inr ⟨rfl, by decide +kernel⟩) dX11_isOfKind_51 ?_
    refine ev_zret hC hR rfl (by rfl) dX11_isOfKind_54 ?_
    exact ⟨rfl, rfl, rfl⟩
  · refine ev_tabIn (off := 54) (tgt := 55) hC dX11_isOfKind_1 (by decide) (by decide) (by decide) (by decide) ?_
    refine ev_aload_n hC dX11_isOfKind_55 rfl 0 rfl ?_
    refine ev_inst (v := nI 0) (nm := "SaltPeace$Meek") hC (ft_in 608 (by decide +kernel) rfl) (mr he) rfl (Or.inr ⟨rfl, by decide +kernel⟩) dX11_isOfKind_56 ?_
    refine ev_zret hC hR rfl (by rfl) dX11_isOfKind_59 ?_
    exact ⟨rfl, rfl, rfl⟩
  · refine ev_tabIn (off := 59) (tgt := 60) hC dX11_isOfKind_1 (by decide) (by decide) (by decide) (by decide) ?_
    refine ev_aload_n hC dX11_isOfKind_60 rfl 0 rfl ?_
    refine ev_inst (v := nI 0) (nm := "SaltPeace$Proud") hC (ft_in 619 (by decide +kernel) rfl) (mr he) rfl (Or.inr ⟨rfl, by decide +kernel⟩) dX11_isOfKind_61 ?_
    refine ev_zret hC hR rfl (by rfl) dX11_isOfKind_64 ?_
    exact ⟨rfl, rfl, rfl⟩
  · refine ev_tabIn (off := 64) (tgt := 65) hC dX11_isOfKind_1 (by decide) (by decide) (by decide) (by decide) ?_
    refine ev_aload_n hC dX11_isOfKind_65 rfl 0 rfl ?_
    refine ev_inst (v := nI 0) (nm := "SaltPeace$Told") hC (ft_in 630 (by decide +kernel) rfl) (mr he) rfl (Or.inr ⟨rfl, by decide +kernel⟩) dX11_isOfKind_66 ?_
    refine ev_zret hC hR rfl (by rfl) dX11_isOfKind_69 ?_
    exact ⟨rfl, rfl, rfl⟩

set_option maxHeartbeats 4000000 in
set_option maxRecDepth 100000 in
theorem m_X11_isOfKind_k3 (G : GG) (ro : va_W) (r tr : Nat) (p v kk : Nat) (he : (r, ob 8 [.int (nI 3), .int (nI p), .int (nI v), .ref tr]) ∈ ro) (hkk : kk ≤ 6) : Mth G M_X11_isOfKind 0 0 0 [.ref r, .int (nI kk)] [] ro (fun r ws' ro' => r = some (.int (bI (undF 3 kk))) ∧ ws' = [] ∧ ro = ro') := by
  refine mth_of (by decide +kernel) (Nat.le_of_ble_eq_true rfl) (fun X hC hR => ?_)
  show Ev G X 0 0 0 [(0, .ref r), (1, .int (nI kk))] [] [] ro
  refine ev_iload_n hC dX11_isOfKind_0 rfl 1 rfl ?_
  rcases (show kk = 0 ∨ kk = 1 ∨ kk = 2 ∨ kk = 3 ∨ kk = 4 ∨ kk = 5 ∨ kk = 6 by omega) with rfl | rfl | rfl | rfl | rfl | rfl | rfl
  · refine ev_tabOut (tgt := 70) hC dX11_isOfKind_1 (by decide) (by decide) ?_
    refine ev_iconst (v := (nI 1)) hC dX11_isOfKind_70 (by decide) ?_
    refine ev_zret hC hR rfl (by rfl) dX11_isOfKind_71 ?_
    exact ⟨rfl, rfl, rfl⟩
  · refine ev_tabIn (off := 39) (tgt := 40) hC dX11_isOfKind_1 (by decide) (by decide) (by decide) (by decide) ?_
    refine ev_aload_n hC dX11_isOfKind_40 rfl 0 rfl ?_
    refine ev_inst (v := nI 0) (nm := "SaltPeace$Gentle") hC (ft_in 575 (by decide +kernel) rfl) (mr he) rfl (Or.inr ⟨rfl, by decide +kernel⟩) dX11_isOfKind_41 ?_
    refine ev_zret hC hR rfl (by rfl) dX11_isOfKind_44 ?_
    exact ⟨rfl, rfl, rfl⟩
  · refine ev_tabIn (off := 44) (tgt := 45) hC dX11_isOfKind_1 (by decide) (by decide) (by decide) (by decide) ?_
    refine ev_aload_n hC dX11_isOfKind_45 rfl 0 rfl ?_
    refine ev_inst (v := nI 0) (nm := "SaltPeace$Bitter") hC (ft_in 586 (by decide +kernel) rfl) (mr he) rfl (Or.inr ⟨rfl, by decide +kernel⟩) dX11_isOfKind_46 ?_
    refine ev_zret hC hR rfl (by rfl) dX11_isOfKind_49 ?_
    exact ⟨rfl, rfl, rfl⟩
  · refine ev_tabIn (off := 49) (tgt := 50) hC dX11_isOfKind_1 (by decide) (by decide) (by decide) (by decide) ?_
    refine ev_aload_n hC dX11_isOfKind_50 rfl 0 rfl ?_
    refine ev_inst (v := nI 1) (nm := "SaltPeace$Sly") hC (ft_in 597 (by decide +kernel) rfl) (mr he) rfl (Or.inl ⟨rfl, Or.inr rfl⟩) dX11_isOfKind_51 ?_
    refine ev_zret hC hR rfl (by rfl) dX11_isOfKind_54 ?_
    exact ⟨rfl, rfl, rfl⟩
  · refine ev_tabIn (off := 54) (tgt := 55) hC dX11_isOfKind_1 (by decide) (by decide) (by decide) (by decide) ?_
    refine ev_aload_n hC dX11_isOfKind_55 rfl 0 rfl ?_
    refine ev_inst (v := nI 0) (nm := "SaltPeace$Meek") hC (ft_in 608 (by decide +kernel) rfl) (mr he) rfl (Or.inr ⟨rfl, by decide +kernel⟩) dX11_isOfKind_56 ?_
    refine ev_zret hC hR rfl (by rfl) dX11_isOfKind_59 ?_
    exact ⟨rfl, rfl, rfl⟩
  · refine ev_tabIn (off := 59) (tgt := 60) hC dX11_isOfKind_1 (by decide) (by decide) (by decide) (by decide) ?_
    refine ev_aload_n hC dX11_isOfKind_60 rfl 0 rfl ?_
    refine ev_inst (v := nI 0) (nm := "SaltPeace$Proud") hC (ft_in 619 (by decide +kernel) rfl) (mr he) rfl (Or.inr ⟨rfl, by decide +kernel⟩) dX11_isOfKind_61 ?_
    refine ev_zret hC hR rfl (by rfl) dX11_isOfKind_64 ?_
    exact ⟨rfl, rfl, rfl⟩
  · refine ev_tabIn (off := 64) (tgt := 65) hC dX11_isOfKind_1 (by decide) (by decide) (by decide) (by decide) ?_
    refine ev_aload_n hC dX11_isOfKind_65 rfl 0 rfl ?_
    refine ev_inst (v := nI 0) (nm := "SaltPeace$Told") hC (ft_in 630 (by decide +kernel) rfl) (mr he) rfl (Or.inr ⟨rfl, by decide +kernel⟩) dX11_isOfKind_66 ?_
    refine ev_zret hC hR rfl (by rfl) dX11_isOfKind_69 ?_
    exact ⟨rfl, rfl, rfl⟩

set_option maxHeartbeats 4000000 in
set_option maxRecDepth 100000 in
theorem m_X11_isOfKind_k4 (G : GG) (ro : va_W) (r tr : Nat) (p v kk : Nat) (he : (r, ob 2 [.int (nI 4), .int (nI p), .int (nI v), .ref tr]) ∈ ro) (hkk : kk ≤ 6) : Mth G M_X11_isOfKind 0 0 0 [.ref r, .int (nI kk)] [] ro (fun r ws' ro' => r = some (.int (bI (undF 4 kk))) ∧ ws' = [] ∧ ro = ro') := by
  refine mth_of (by decide +kernel) (Nat.le_of_ble_eq_true rfl) (fun X hC hR => ?_)
  show Ev G X 0 0 0 [(0, .ref r), (1, .int (nI kk))] [] [] ro
  refine ev_iload_n hC dX11_isOfKind_0 rfl 1 rfl ?_
  rcases (show kk = 0 ∨ kk = 1 ∨ kk = 2 ∨ kk = 3 ∨ kk = 4 ∨ kk = 5 ∨ kk = 6 by omega) with rfl | rfl | rfl | rfl | rfl | rfl | rfl
  · refine ev_tabOut (tgt := 70) hC dX11_isOfKind_1 (by decide) (by decide) ?_
    refine ev_iconst (v := (nI 1)) hC dX11_isOfKind_70 (by decide) ?_
    refine ev_zret hC hR rfl (by rfl) dX11_isOfKind_71 ?_
    exact ⟨rfl, rfl, rfl⟩
  · refine ev_tabIn (off := 39) (tgt := 40) hC dX11_isOfKind_1 (by decide) (by decide) (by decide) (by decide) ?_
    refine ev_aload_n hC dX11_isOfKind_40 rfl 0 rfl ?_
    refine ev_inst (v := nI 1) (nm := "SaltPeace$Gentle") hC (ft_in 575 (by decide +kernel) rfl) (mr he) rfl (Or.inl ⟨rfl, Or.inl (by decide +kernel)⟩) dX11_isOfKind_41 ?_
    refine ev_zret hC hR rfl (by rfl) dX11_isOfKind_44 ?_
    exact ⟨rfl, rfl, rfl⟩
  · refine ev_tabIn (off := 44) (tgt := 45) hC dX11_isOfKind_1 (by decide) (by decide) (by decide) (by decide) ?_
    refine ev_aload_n hC dX11_isOfKind_45 rfl 0 rfl ?_
    refine ev_inst (v := nI 0) (nm := "SaltPeace$Bitter") hC (ft_in 586 (by decide +kernel) rfl) (mr he) rfl (Or.inr ⟨rfl, by decide +kernel⟩) dX11_isOfKind_46 ?_
    refine ev_zret hC hR rfl (by rfl) dX11_isOfKind_49 ?_
    exact ⟨rfl, rfl, rfl⟩
  · refine ev_tabIn (off := 49) (tgt := 50) hC dX11_isOfKind_1 (by decide) (by decide) (by decide) (by decide) ?_
    refine ev_aload_n hC dX11_isOfKind_50 rfl 0 rfl ?_
    refine ev_inst (v := nI 0) (nm := "SaltPeace$Sly") hC (ft_in 597 (by decide +kernel) rfl) (mr he) rfl (Or.inr ⟨rfl, by decide +kernel⟩) dX11_isOfKind_51 ?_
    refine ev_zret hC hR rfl (by rfl) dX11_isOfKind_54 ?_
    exact ⟨rfl, rfl, rfl⟩
  · refine ev_tabIn (off := 54) (tgt := 55) hC dX11_isOfKind_1 (by decide) (by decide) (by decide) (by decide) ?_
    refine ev_aload_n hC dX11_isOfKind_55 rfl 0 rfl ?_
    refine ev_inst (v := nI 1) (nm := "SaltPeace$Meek") hC (ft_in 608 (by decide +kernel) rfl) (mr he) rfl (Or.inl ⟨rfl, Or.inr rfl⟩) dX11_isOfKind_56 ?_
    refine ev_zret hC hR rfl (by rfl) dX11_isOfKind_59 ?_
    exact ⟨rfl, rfl, rfl⟩
  · refine ev_tabIn (off := 59) (tgt := 60) hC dX11_isOfKind_1 (by decide) (by decide) (by decide) (by decide) ?_
    refine ev_aload_n hC dX11_isOfKind_60 rfl 0 rfl ?_
    refine ev_inst (v := nI 0) (nm := "SaltPeace$Proud") hC (ft_in 619 (by decide +kernel) rfl) (mr he) rfl (Or.inr ⟨rfl, by decide +kernel⟩) dX11_isOfKind_61 ?_
    refine ev_zret hC hR rfl (by rfl) dX11_isOfKind_64 ?_
    exact ⟨rfl, rfl, rfl⟩
  · refine ev_tabIn (off := 64) (tgt := 65) hC dX11_isOfKind_1 (by decide) (by decide) (by decide) (by decide) ?_
    refine ev_aload_n hC dX11_isOfKind_65 rfl 0 rfl ?_
    refine ev_inst (v := nI 0) (nm := "SaltPeace$Told") hC (ft_in 630 (by decide +kernel) rfl) (mr he) rfl (Or.inr ⟨rfl, by decide +kernel⟩) dX11_isOfKind_66 ?_
    refine ev_zret hC hR rfl (by rfl) dX11_isOfKind_69 ?_
    exact ⟨rfl, rfl, rfl⟩

set_option maxHeartbeats 4000000 in
set_option maxRecDepth 100000 in
theorem m_X11_isOfKind_k5 (G : GG) (ro : va_W) (r tr : Nat) (p v kk : Nat) (he : (r, ob 5 [.int (nI 5), .int (nI p), .int (nI v), .ref tr]) ∈ ro) (hkk : kk ≤ 6) : Mth G M_X11_isOfKind 0 0 0 [.ref r, .int (nI kk)] [] ro (fun r ws' ro' => r = some (.int (bI (undF 5 kk))) ∧ ws' = [] ∧ ro = ro') := by
  refine mth_of (by decide +kernel) (Nat.le_of_ble_eq_true rfl) (fun X hC hR => ?_)
  show Ev G X 0 0 0 [(0, .ref r), (1, .int (nI kk))] [] [] ro
  refine ev_iload_n hC dX11_isOfKind_0 rfl 1 rfl ?_
  rcases (show kk = 0 ∨ kk = 1 ∨ kk = 2 ∨ kk = 3 ∨ kk = 4 ∨ kk = 5 ∨ kk = 6 by omega) with rfl | rfl | rfl | rfl | rfl | rfl | rfl
  · refine ev_tabOut (tgt := 70) hC dX11_isOfKind_1 (by decide) (by decide) ?_
    refine ev_iconst (v := (nI 1)) hC dX11_isOfKind_70 (by decide) ?_
    refine ev_zret hC hR rfl (by rfl) dX11_isOfKind_71 ?_
    exact ⟨rfl, rfl, rfl⟩
  · refine ev_tabIn (off := 39) (tgt := 40) hC dX11_isOfKind_1 (by decide) (by decide) (by decide) (by decide) ?_
    refine ev_aload_n hC dX11_isOfKind_40 rfl 0 rfl ?_
    refine ev_inst (v := nI 0) (nm := "SaltPeace$Gentle") hC (ft_in 575 (by decide +kernel) rfl) (mr he) rfl (Or.inr ⟨rfl, by decide +kernel⟩) dX11_isOfKind_41 ?_
    refine ev_zret hC hR rfl (by rfl) dX11_isOfKind_44 ?_
    exact ⟨rfl, rfl, rfl⟩
  · refine ev_tabIn (off := 44) (tgt := 45) hC dX11_isOfKind_1 (by decide) (by decide) (by decide) (by decide) ?_
    refine ev_aload_n hC dX11_isOfKind_45 rfl 0 rfl ?_
    refine ev_inst (v := nI 1) (nm := "SaltPeace$Bitter") hC (ft_in 586 (by decide +kernel) rfl) (mr he) rfl (Or.inl ⟨rfl, Or.inl (by decide +kernel)⟩) dX11_isOfKind_46 ?_
    refine ev_zret hC hR rfl (by rfl) dX11_isOfKind_49 ?_
    exact ⟨rfl, rfl, rfl⟩
  · refine ev_tabIn (off := 49) (tgt := 50) hC dX11_isOfKind_1 (by decide) (by decide) (by decide) (by decide) ?_
    refine ev_aload_n hC dX11_isOfKind_50 rfl 0 rfl ?_
    refine ev_inst (v := nI 0) (nm := "SaltPeace$Sly") hC (ft_in 597 (by decide +kernel) rfl) (mr he) rfl (Or.inr ⟨rfl, by decide +kernel⟩) dX11_isOfKind_51 ?_
    refine ev_zret hC hR rfl (by rfl) dX11_isOfKind_54 ?_
    exact ⟨rfl, rfl, rfl⟩
  · refine ev_tabIn (off := 54) (tgt := 55) hC dX11_isOfKind_1 (by decide) (by decide) (by decide) (by decide) ?_
    refine ev_aload_n hC dX11_isOfKind_55 rfl 0 rfl ?_
    refine ev_inst (v := nI 0) (nm := "SaltPeace$Meek") hC (ft_in 608 (by decide +kernel) rfl) (mr he) rfl (Or.inr ⟨rfl, by decide +kernel⟩) dX11_isOfKind_56 ?_
    refine ev_zret hC hR rfl (by rfl) dX11_isOfKind_59 ?_
    exact ⟨rfl, rfl, rfl⟩
  · refine ev_tabIn (off := 59) (tgt := 60) hC dX11_isOfKind_1 (by decide) (by decide) (by decide) (by decide) ?_
    refine ev_aload_n hC dX11_isOfKind_60 rfl 0 rfl ?_
    refine ev_inst (v := nI 1) (nm := "SaltPeace$Proud") hC (ft_in 619 (by decide +kernel) rfl) (mr he) rfl (Or.inl ⟨rfl, Or.inr rfl⟩) dX11_isOfKind_61 ?_
    refine ev_zret hC hR rfl (by rfl) dX11_isOfKind_64 ?_
    exact ⟨rfl, rfl, rfl⟩
  · refine ev_tabIn (off := 64) (tgt := 65) hC dX11_isOfKind_1 (by decide) (by decide) (by decide) (by decide) ?_
    refine ev_aload_n hC dX11_isOfKind_65 rfl 0 rfl ?_
    refine ev_inst (v := nI 0) (nm := "SaltPeace$Told") hC (ft_in 630 (by decide +kernel) rfl) (mr he) rfl (Or.inr ⟨rfl, by decide +kernel⟩) dX11_isOfKind_66 ?_
    refine ev_zret hC hR rfl (by rfl) dX11_isOfKind_69 ?_
    exact ⟨rfl, rfl, rfl⟩

set_option maxHeartbeats 4000000 in
set_option maxRecDepth 100000 in
theorem m_X11_isOfKind_k6 (G : GG) (ro : va_W) (r tr : Nat) (p v kk : Nat) (he : (r, ob 9 [.int (nI 6), .int (nI p), .int (nI v), .ref tr]) ∈ ro) (hkk : kk ≤ 6) : Mth G M_X11_isOfKind 0 0 0 [.ref r, .int (nI kk)] [] ro (fun r ws' ro' => r = some (.int (bI (undF 6 kk))) ∧ ws' = [] ∧ ro = ro') := by
  refine mth_of (by decide +kernel) (Nat.le_of_ble_eq_true rfl) (fun X hC hR => ?_)
  show Ev G X 0 0 0 [(0, .ref r), (1, .int (nI kk))] [] [] ro
  refine ev_iload_n hC dX11_isOfKind_0 rfl 1 rfl ?_
  rcases (show kk = 0 ∨ kk = 1 ∨ kk = 2 ∨ kk = 3 ∨ kk = 4 ∨ kk = 5 ∨ kk = 6 by omega) with rfl | rfl | rfl | rfl | rfl | rfl | rfl
  · refine ev_tabOut (tgt := 70) hC dX11_isOfKind_1 (by decide) (by decide) ?_
    refine ev_iconst (v := (nI 1)) hC dX11_isOfKind_70 (by decide) ?_
    refine ev_zret hC hR rfl (by rfl) dX11_isOfKind_71 ?_
    exact ⟨rfl, rfl, rfl⟩
  · refine ev_tabIn (off := 39) (tgt := 40) hC dX11_isOfKind_1 (by decide) (by decide) (by decide) (by decide) ?_
    refine ev_aload_n hC dX11_isOfKind_40 rfl 0 rfl ?_
    refine ev_inst (v := nI 0) (nm := "SaltPeace$Gentle") hC (ft_in 575 (by decide +kernel) rfl) (mr he) rfl (Or.inr ⟨rfl, by decide +kernel⟩) dX11_isOfKind_41 ?_
    refine ev_zret hC hR rfl (by rfl) dX11_isOfKind_44 ?_
    exact ⟨rfl, rfl, rfl⟩
  · refine ev_tabIn (off := 44) (tgt := 45) hC dX11_isOfKind_1 (by decide) (by decide) (by decide) (by decide) ?_
    refine ev_aload_n hC dX11_isOfKind_45 rfl 0 rfl ?_
    refine ev_inst (v := nI 0) (nm := "SaltPeace$Bitter") hC (ft_in 586 (by decide +kernel) rfl) (mr he) rfl (Or.inr ⟨rfl, by decide +kernel⟩) dX11_isOfKind_46 ?_
    refine ev_zret hC hR rfl (by rfl) dX11_isOfKind_49 ?_
    exact ⟨rfl, rfl, rfl⟩
  · refine ev_tabIn (off := 49) (tgt := 50) hC dX11_isOfKind_1 (by decide) (by decide) (by decide) (by decide) ?_
    refine ev_aload_n hC dX11_isOfKind_50 rfl 0 rfl ?_
    refine ev_inst (v := nI 1) (nm := "SaltPeace$Sly") hC (ft_in 597 (by decide +kernel) rfl) (mr he) rfl (Or.inl ⟨rfl, Or.inl (by decide +kernel)⟩) dX11_isOfKind_51 ?_
    refine ev_zret hC hR rfl (by rfl) dX11_isOfKind_54 ?_
    exact ⟨rfl, rfl, rfl⟩
  · refine ev_tabIn (off := 54) (tgt := 55) hC dX11_isOfKind_1 (by decide) (by decide) (by decide) (by decide) ?_
    refine ev_aload_n hC dX11_isOfKind_55 rfl 0 rfl ?_
    refine ev_inst (v := nI 0) (nm := "SaltPeace$Meek") hC (ft_in 608 (by decide +kernel) rfl) (mr he) rfl (Or.inr ⟨rfl, by decide +kernel⟩) dX11_isOfKind_56 ?_
    refine ev_zret hC hR rfl (by rfl) dX11_isOfKind_59 ?_
    exact ⟨rfl, rfl, rfl⟩
  · refine ev_tabIn (off := 59) (tgt := 60) hC dX11_isOfKind_1 (by decide) (by decide) (by decide) (by decide) ?_
    refine ev_aload_n hC dX11_isOfKind_60 rfl 0 rfl ?_
    refine ev_inst (v := nI 0) (nm := "SaltPeace$Proud") hC (ft_in 619 (by decide +kernel) rfl) (mr he) rfl (Or.inr ⟨rfl, by decide +kernel⟩) dX11_isOfKind_61 ?_
    refine ev_zret hC hR rfl (by rfl) dX11_isOfKind_64 ?_
    exact ⟨rfl, rfl, rfl⟩
  · refine ev_tabIn (off := 64) (tgt := 65) hC dX11_isOfKind_1 (by decide) (by decide) (by decide) (by decide) ?_
    refine ev_aload_n hC dX11_isOfKind_65 rfl 0 rfl ?_
    refine ev_inst (v := nI 1) (nm := "SaltPeace$Told") hC (ft_in 630 (by decide +kernel) rfl) (mr he) rfl (Or.inl ⟨rfl, Or.inr rfl⟩) dX11_isOfKind_66 ?_
    refine ev_zret hC hR rfl (by rfl) dX11_isOfKind_69 ?_
    exact ⟨rfl, rfl, rfl⟩

set_option maxHeartbeats 4000000 in
set_option maxRecDepth 100000 in
theorem m_X11_as (G : GG) (ro : va_W) (x : Nat) (r1 r2 r3 r4 r5 d b1 b2 b3 : Nat → Nat) (hi : Int32) (S tk le T tk3 le3 : Nat → Int32) (os os3 : Nat → Option Nat) (t t3 : Nat) (wa st3 wa3 : Int32) (y z : Int32) (hW : WF S 9999 9999) (hO : MoOK G ro (r5 0) S os t)  : Mth G M_X11_as 8 0 0 [.ref x, .int y, .int z] (List.flatten [SP x r1 r2 r3 r4 r5 d b1 b2 b3 hi, MO G b1 (vwn S 2 6) tk os (vwn S 14 6) (vwn S 20 6) (vwn S 26 6) (vwn S 51 24) le (S 32) (bitF S) (S 0) (S 1) t (S 33) (-1) wa]) ro (fun r ws' ro' => r = some (.int (asR S y z)) ∧ ws' = (List.flatten [SP x r1 r2 r3 r4 r5 d b1 b2 b3 hi, MO G b1 (vwn S 2 6) tk os (vwn S 14 6) (vwn S 20 6) (vwn S 26 6) (vwn S 51 24) le (S 32) (bitF S) (S 0) (S 1) t (S 33) (-1) wa]) ∧ ro = ro') := by
  refine mth_of (by decide +kernel) (Nat.le_of_ble_eq_true rfl) (fun X hC hR => ?_)
  have b32 := hW.peo.le
  show Ev G X 0 0 0 [(0, .ref x), (1, .int y), (2, .int z)] [] (List.flatten [SP x r1 r2 r3 r4 r5 d b1 b2 b3 hi, MO G b1 (vwn S 2 6) tk os (vwn S 14 6) (vwn S 20 6) (vwn S 26 6) (vwn S 51 24) le (S 32) (bitF S) (S 0) (S 1) t (S 33) (-1) wa]) ro
  refine ev_aload_n hC dX11_as_0 rfl 0 rfl ?_
  refine ev_iload_n hC dX11_as_1 rfl 1 rfl ?_
  refine ev_callV (As := [.int y]) (st := []) (wf := (List.flatten [])) hC cv_X11_118 (m_X11_isPerson G ro x r1 r2 r3 r4 r5 d b1 b2 b3 hi S tk le os t (-1) wa y) (by omega) rfl rfl (Nat.le_of_ble_eq_true rfl) (perm_sg (n := 2) [0, 1] rfl rfl (by decide)) (mw 0 rfl) rfl dX11_as_2 (by omega) (by omega) ?_
  rintro _ _ _ ⟨rfl, rfl, rfl⟩
  show Ev G X 0 0 5 [(0, .ref x), (1, .int y), (2, .int z)] [.int (bI ((nI 0) ≤ y ∧ y ≤ (S 32 - nI 1)))] (List.flatten [SP x r1 r2 r3 r4 r5 d b1 b2 b3 hi, MO G b1 (vwn S 2 6) tk os (vwn S 14 6) (vwn S 20 6) (vwn S 26 6) (vwn S 51 24) le (S 32) (bitF S) (S 0) (S 1) t (S 33) (-1) wa]) ro
  refine ev_if_eqB (tgt := 15) hC dX11_as_5 (by decide) (fun c_1 => ?_) (fun c_1 => ?_)
  · refine ev_iconst (v := (-1)) hC dX11_as_15 (by decide) ?_
    refine ev_iret hC hR rfl dX11_as_16 ?_
    have er : asR S y z = -1 := by rw [asR, if_neg (fun h => by first | exact absurd h.1 (by assumption) | exact absurd h.2 (by assumption))]
    exact ⟨by rw [er], rfl, rfl⟩
  · refine ev_iload_n hC dX11_as_8 rfl 2 rfl ?_
    refine ev_callS (As := [.int z]) (st := []) (wc := []) (wf := (List.flatten [SP x r1 r2 r3 r4 r5 d b1 b2 b3 hi, MO G b1 (vwn S 2 6) tk os (vwn S 14 6) (vwn S 20 6) (vwn S 26 6) (vwn S 51 24) le (S 32) (bitF S) (S 0) (S 1) t (S 33) (-1) wa])) hC ct_X11_100 (m_X11_isKind G ro z) (by omega) rfl rfl (Nat.le_of_ble_eq_true rfl) (List.Perm.refl _) dX11_as_9 (by omega) (by omega) ?_
    rintro _ _ _ ⟨rfl, rfl, rfl⟩
    refine ev_ws (List.nil_append _) ?_
    show Ev G X 0 0 12 [(0, .ref x), (1, .int y), (2, .int z)] [.int (bI ((nI 0) ≤ z ∧ z ≤ (nI 6)))] (List.flatten [SP x r1 r2 r3 r4 r5 d b1 b2 b3 hi, MO G b1 (vwn S 2 6) tk os (vwn S 14 6) (vwn S 20 6) (vwn S 26 6) (vwn S 51 24) le (S 32) (bitF S) (S 0) (S 1) t (S 33) (-1) wa]) ro
    refine ev_if_neB (tgt := 17) hC dX11_as_12 (by decide) (fun c_2 => ?_) (fun c_2 => ?_)
    · obtain ⟨pp, hpp, rfl⟩ := isP hW (by assumption)
      have hpn_pp : pn (nI pp) = pp := nI_clamp (by omega)
      obtain ⟨kk, hkk, rfl⟩ := inN (m := 6) (by omega) (by assumption)
      have hpn_kk : pn (nI kk) = kk := nI_clamp (by omega)
      refine ev_aload_n hC dX11_as_17 rfl 0 rfl ?_
      refine ev_get hC fl_X11_58_11 (mw 0 rfl) rfl dX11_as_18 ?_
      refine ev_get hC fl_X11_121_3 (mw 1 rfl) rfl dX11_as_21 ?_
      refine ev_iload_n hC dX11_as_24 rfl 1 rfl ?_
      obtain ⟨r, hr1, hr2⟩ := hO.1 pp (by omega)
      obtain ⟨kd, hkd⟩ : ∃ kd, kd = sn S (39 + pp) := ⟨_, rfl⟩
      rw [← hkd] at hr2
      have hk6 : kd ≤ 6 := by rw [hkd]; exact (hW.kind pp (by omega)).le
      have hv9 := (hW.v pp (by omega)).le
      rcases (show kd = 0 ∨ kd = 1 ∨ kd = 2 ∨ kd = 3 ∨ kd = 4 ∨ kd = 5 ∨ kd = 6 by omega) with rfl | rfl | rfl | rfl | rfl | rfl | rfl
      · have he : (r, ob 4 [.int (nI 0), .int (nI pp), .int (nI (sn S (45 + pp))), .ref (r5 0)]) ∈ ro := hr2
        refine ev_aaldN (i := pp) (r := r) hC (mw 4 rfl) (by omega) (by omega) hr1 dX11_as_25 ?_
        refine ev_iload_n hC dX11_as_26 rfl 2 rfl ?_
        refine ev_callS (As := [.ref r, .int (nI kk)]) (st := []) (wc := []) (wf := (List.flatten [SP x r1 r2 r3 r4 r5 d b1 b2 b3 hi, MO G b1 (vwn S 2 6) tk os (vwn S 14 6) (vwn S 20 6) (vwn S 26 6) (vwn S 51 24) le (S 32) (bitF S) (S 0) (S 1) t (S 33) (-1) wa])) hC ct_X11_266 (m_X11_isOfKind_k0 G ro r (r5 0) pp (sn S (45 + pp)) kk he (by omega)) (by omega) rfl rfl (Nat.le_of_ble_eq_true rfl) (List.Perm.refl _) dX11_as_27 (by omega) (by omega) ?_
        rintro _ _ _ ⟨rfl, rfl, rfl⟩
        refine ev_ws (List.nil_append _) ?_
        show Ev G X 0 0 30 [(0, .ref x), (1, .int (nI pp)), (2, .int (nI kk))] [.int (bI (undF 0 kk))] (List.flatten [SP x r1 r2 r3 r4 r5 d b1 b2 b3 hi, MO G b1 (vwn S 2 6) tk os (vwn S 14 6) (vwn S 20 6) (vwn S 26 6) (vwn S 51 24) le (S 32) (bitF S) (S 0) (S 1) t (S 33) (-1) wa]) ro
        refine ev_if_eqB (tgt := 48) hC dX11_as_30 (by decide) (fun c_3 => ?_) (fun c_3 => ?_)
        · refine ev_bipush (v := (-6)) hC dX11_as_48 (by decide) ?_
          refine ev_iret hC hR rfl dX11_as_50 ?_
          have er : asR S (nI pp) (nI kk) = (-6) := by rw [asR, if_pos ⟨by assumption, by assumption⟩, hpn_pp, hpn_kk, ← hkd, if_neg (by assumption)]
          exact ⟨by rw [er], rfl, rfl⟩
        · refine ev_aload_n hC dX11_as_33 rfl 0 rfl ?_
          refine ev_get hC fl_X11_58_11 (mw 0 rfl) rfl dX11_as_34 ?_
          refine ev_get hC fl_X11_121_3 (mw 1 rfl) rfl dX11_as_37 ?_
          refine ev_iload_n hC dX11_as_40 rfl 1 rfl ?_
          refine ev_aaldN (i := pp) (r := r) hC (mw 4 rfl) (by omega) (by omega) hr1 dX11_as_41 ?_
          refine ev_get hC fl_X11_128_4 (mr he) rfl dX11_as_42 ?_
          refine ev_goto (tgt := 50) hC dX11_as_45 (by decide) ?_
          refine ev_iret hC hR rfl dX11_as_50 ?_
          have er : asR S (nI pp) (nI kk) = (nI (sn S (45 + pp))) := by rw [asR, if_pos ⟨by assumption, by assumption⟩, hpn_pp, hpn_kk, ← hkd, if_pos (by assumption)]; exact (hW.v pp (by omega)).eq
          exact ⟨by rw [er], rfl, rfl⟩
      · have he : (r, ob 1 [.int (nI 1), .int (nI pp), .int (nI (sn S (45 + pp))), .ref (r5 0)]) ∈ ro := hr2
        refine ev_aaldN (i := pp) (r := r) hC (mw 4 rfl) (by omega) (by omega) hr1 dX11_as_25 ?_
        refine ev_iload_n hC dX11_as_26 rfl 2 rfl ?_
        refine ev_callS (As := [.ref r, .int (nI kk)]) (st := []) (wc := []) (wf := (List.flatten [SP x r1 r2 r3 r4 r5 d b1 b2 b3 hi, MO G b1 (vwn S 2 6) tk os (vwn S 14 6) (vwn S 20 6) (vwn S 26 6) (vwn S 51 24) le (S 32) (bitF S) (S 0) (S 1) t (S 33) (-1) wa])) hC ct_X11_266 (m_X11_isOfKind_k1 G ro r (r5 0) pp (sn S (45 + pp)) kk he (by omega)) (by omega) rfl rfl (Nat.le_of_ble_eq_true rfl) (List.Perm.refl _) dX11_as_27 (by omega) (by omega) ?_
        rintro _ _ _ ⟨rfl, rfl, rfl⟩
        refine ev_ws (List.nil_append _) ?_
        show Ev G X 0 0 30 [(0, .ref x), (1, .int (nI pp)), (2, .int (nI kk))] [.int (bI (undF 1 kk))] (List.flatten [SP x r1 r2 r3 r4 r5 d b1 b2 b3 hi, MO G b1 (vwn S 2 6) tk os (vwn S 14 6) (vwn S 20 6) (vwn S 26 6) (vwn S 51 24) le (S 32) (bitF S) (S 0) (S 1) t (S 33) (-1) wa]) ro
        refine ev_if_eqB (tgt := 48) hC dX11_as_30 (by decide) (fun c_4 => ?_) (fun c_4 => ?_)
        · refine ev_bipush (v := (-6)) hC dX11_as_48 (by decide) ?_
          refine ev_iret hC hR rfl dX11_as_50 ?_
          have er : asR S (nI pp) (nI kk) = (-6) := by rw [asR, if_pos ⟨by assumption, by assumption⟩, hpn_pp, hpn_kk, ← hkd, if_neg (by assumption)]
          exact ⟨by rw [er], rfl, rfl⟩
        · refine ev_aload_n hC dX11_as_33 rfl 0 rfl ?_
          refine ev_get hC fl_X11_58_11 (mw 0 rfl) rfl dX11_as_34 ?_
          refine ev_get hC fl_X11_121_3 (mw 1 rfl) rfl dX11_as_37 ?_
          refine ev_iload_n hC dX11_as_40 rfl 1 rfl ?_
          refine ev_aaldN (i := pp) (r := r) hC (mw 4 rfl) (by omega) (by omega) hr1 dX11_as_41 ?_
          refine ev_get hC fl_X11_128_1 (mr he) rfl dX11_as_42 ?_
          refine ev_goto (tgt := 50) hC dX11_as_45 (by decide) ?_
          refine ev_iret hC hR rfl dX11_as_50 ?_
          have er : asR S (nI pp) (nI kk) = (nI (sn S (45 + pp))) := by rw [asR, if_pos ⟨by assumption, by assumption⟩, hpn_pp, hpn_kk, ← hkd, if_pos (by assumption)]; exact (hW.v pp (by omega)).eq
          exact ⟨by rw [er], rfl, rfl⟩
      · have he : (r, ob 0 [.int (nI 2), .int (nI pp), .int (nI (sn S (45 + pp))), .ref (r5 0)]) ∈ ro := hr2
        refine ev_aaldN (i := pp) (r := r) hC (mw 4 rfl) (by omega) (by omega) hr1 dX11_as_25 ?_
        refine ev_iload_n hC dX11_as_26 rfl 2 rfl ?_
        refine ev_callS (As := [.ref r, .int (nI kk)]) (st := []) (wc := []) (wf := (List.flatten [SP x r1 r2 r3 r4 r5 d b1 b2 b3 hi, MO G b1 (vwn S 2 6) tk os (vwn S 14 6) (vwn S 20 6) (vwn S 26 6) (vwn S 51 24) le (S 32) (bitF S) (S 0) (S 1) t (S 33) (-1) wa])) hC ct_X11_266 (m_X11_isOfKind_k2 G ro r (r5 0) pp (sn S (45 + pp)) kk he (by omega)) (by omega) rfl rfl (Nat.le_of_ble_eq_true rfl) (List.Perm.refl _) dX11_as_27 (by omega) (by omega) ?_
        rintro _ _ _ ⟨rfl, rfl, rfl⟩
        refine ev_ws (List.nil_append _) ?_
        show Ev G X 0 0 30 [(0, .ref x), (1, .int (nI pp)), (2, .int (nI kk))] [.int (bI (undF 2 kk))] (List.flatten [SP x r1 r2 r3 r4 r5 d b1 b2 b3 hi, MO G b1 (vwn S 2 6) tk os (vwn S 14 6) (vwn S 20 6) (vwn S 26 6) (vwn S 51 24) le (S 32) (bitF S) (S 0) (S 1) t (S 33) (-1) wa]) ro
        refine ev_if_eqB (tgt := 48) hC dX11_as_30 (by decide) (fun c_5 => ?_) (fun c_5 => ?_)
        · refine ev_bipush (v := (-6)) hC dX11_as_48 (by decide) ?_
          refine ev_iret hC hR rfl dX11_as_50 ?_
          have er : asR S (nI pp) (nI kk) = (-6) := by rw [asR, if_pos ⟨by assumption, by assumption⟩, hpn_pp, hpn_kk, ← hkd, if_neg (by assumption)]
          exact ⟨by rw [er], rfl, rfl⟩
        · refine ev_aload_n hC dX11_as_33 rfl 0 rfl ?_
          refine ev_get hC fl_X11_58_11 (mw 0 rfl) rfl dX11_as_34 ?_
          refine ev_get hC fl_X11_121_3 (mw 1 rfl) rfl dX11_as_37 ?_
          refine ev_iload_n hC dX11_as_40 rfl 1 rfl ?_
          refine ev_aaldN (i := pp) (r := r) hC (mw 4 rfl) (by omega) (by omega) hr1 dX11_as_41 ?_
          refine ev_get hC fl_X11_128_0 (mr he) rfl dX11_as_42 ?_
          refine ev_goto (tgt := 50) hC dX11_as_45 (by decide) ?_
          refine ev_iret hC hR rfl dX11_as_50 ?_
          have er : asR S (nI pp) (nI kk) = (nI (sn S (45 + pp))) := by rw [asR, if_pos ⟨by assumption, by assumption⟩, hpn_pp, hpn_kk, ← hkd, if_pos (by assumption)]; exact (hW.v pp (by omega)).eq
          exact ⟨by rw [er], rfl, rfl⟩
      · have he : (r, ob 8 [.int (nI 3), .int (nI pp), .int (nI (sn S (45 + pp))), .ref (r5 0)]) ∈ ro := hr2
        refine ev_aaldN (i := pp) (r := r) hC (mw 4 rfl) (by omega) (by omega) hr1 dX11_as_25 ?_
        refine ev_iload_n hC dX11_as_26 rfl 2 rfl ?_
        refine ev_callS (As := [.ref r, .int (nI kk)]) (st := []) (wc := []) (wf := (List.flatten [SP x r1 r2 r3 r4 r5 d b1 b2 b3 hi, MO G b1 (vwn S 2 6) tk os (vwn S 14 6) (vwn S 20 6) (vwn S 26 6) (vwn S 51 24) le (S 32) (bitF S) (S 0) (S 1) t (S 33) (-1) wa])) hC ct_X11_266 (m_X11_isOfKind_k3 G ro r (r5 0) pp (sn S (45 + pp)) kk he (by omega)) (by omega) rfl rfl (Nat.le_of_ble_eq_true rfl) (List.Perm.refl _) dX11_as_27 (by omega) (by omega) ?_
        rintro _ _ _ ⟨rfl, rfl, rfl⟩
        refine ev_ws (List.nil_append _) ?_
        show Ev G X 0 0 30 [(0, .ref x), (1, .int (nI pp)), (2, .int (nI kk))] [.int (bI (undF 3 kk))] (List.flatten [SP x r1 r2 r3 r4 r5 d b1 b2 b3 hi, MO G b1 (vwn S 2 6) tk os (vwn S 14 6) (vwn S 20 6) (vwn S 26 6) (vwn S 51 24) le (S 32) (bitF S) (S 0) (S 1) t (S 33) (-1) wa]) ro
        refine ev_if_eqB (tgt := 48) hC dX11_as_30 (by decide) (fun c_6 => ?_) (fun c_6 => ?_)
        · refine ev_bipush (v := (-6)) hC dX11_as_48 (by decide) ?_
          refine ev_iret hC hR rfl dX11_as_50 ?_
          have er : asR S (nI pp) (nI kk) = (-6) := by rw [asR, if_pos ⟨by assumption, by assumption⟩, hpn_pp, hpn_kk, ← hkd, if_neg (by assumption)]
          exact ⟨by rw [er], rfl, rfl⟩
        · refine ev_aload_n hC dX11_as_33 rfl 0 rfl ?_
          refine ev_get hC fl_X11_58_11 (mw 0 rfl) rfl dX11_as_34 ?_
          refine ev_get hC fl_X11_121_3 (mw 1 rfl) rfl dX11_as_37 ?_
          refine ev_iload_n hC dX11_as_40 rfl 1 rfl ?_
          refine ev_aaldN (i := pp) (r := r) hC (mw 4 rfl) (by omega) (by omega) hr1 dX11_as_41 ?_
          refine ev_get hC fl_X11_128_8 (mr he) rfl dX11_as_42 ?_
          refine ev_goto (tgt := 50) hC dX11_as_45 (by decide) ?_
          refine ev_iret hC hR rfl dX11_as_50 ?_
          have er : asR S (nI pp) (nI kk) = (nI (sn S (45 + pp))) := by rw [asR, if_pos ⟨by assumption, by assumption⟩, hpn_pp, hpn_kk, ← hkd, if_pos (by assumption)]; exact (hW.v pp (by omega)).eq
          exact ⟨by rw [er], rfl, rfl⟩
      · have he : (r, ob 2 [.int (nI 4), .int (nI pp), .int (nI (sn S (45 + pp))), .ref (r5 0)]) ∈ ro := hr2
        refine ev_aaldN (i := pp) (r := r) hC (mw 4 rfl) (by omega) (by omega) hr1 dX11_as_25 ?_
        refine ev_iload_n hC dX11_as_26 rfl 2 rfl ?_
        refine ev_callS (As := [.ref r, .int (nI kk)]) (st := []) (wc := []) (wf := (List.flatten [SP x r1 r2 r3 r4 r5 d b1 b2 b3 hi, MO G b1 (vwn S 2 6) tk os (vwn S 14 6) (vwn S 20 6) (vwn S 26 6) (vwn S 51 24) le (S 32) (bitF S) (S 0) (S 1) t (S 33) (-1) wa])) hC ct_X11_266 (m_X11_isOfKind_k4 G ro r (r5 0) pp (sn S (45 + pp)) kk he (by omega)) (by omega) rfl rfl (Nat.le_of_ble_eq_true rfl) (List.Perm.refl _) dX11_as_27 (by omega) (by omega) ?_
        rintro _ _ _ ⟨rfl, rfl, rfl⟩
        refine ev_ws (List.nil_append _) ?_
        show Ev G X 0 0 30 [(0, .ref x), (1, .int (nI pp)), (2, .int (nI kk))] [.int (bI (undF 4 kk))] (List.flatten [SP x r1 r2 r3 r4 r5 d b1 b2 b3 hi, MO G b1 (vwn S 2 6) tk os (vwn S 14 6) (vwn S 20 6) (vwn S 26 6) (vwn S 51 24) le (S 32) (bitF S) (S 0) (S 1) t (S 33) (-1) wa]) ro
        refine ev_if_eqB (tgt := 48) hC dX11_as_30 (by decide) (fun c_7 => ?_) (fun c_7 => ?_)
        · refine ev_bipush (v := (-6)) hC dX11_as_48 (by decide) ?_
          refine ev_iret hC hR rfl dX11_as_50 ?_
          have er : asR S (nI pp) (nI kk) = (-6) := by rw [asR, if_pos ⟨by assumption, by assumption⟩, hpn_pp, hpn_kk, ← hkd, if_neg (by assumption)]
          exact ⟨by rw [er], rfl, rfl⟩
        · refine ev_aload_n hC dX11_as_33 rfl 0 rfl ?_
          refine ev_get hC fl_X11_58_11 (mw 0 rfl) rfl dX11_as_34 ?_
          refine ev_get hC fl_X11_121_3 (mw 1 rfl) rfl dX11_as_37 ?_
          refine ev_iload_n hC dX11_as_40 rfl 1 rfl ?_
          refine ev_aaldN (i := pp) (r := r) hC (mw 4 rfl) (by omega) (by omega) hr1 dX11_as_41 ?_
          refine ev_get hC fl_X11_128_2 (mr he) rfl dX11_as_42 ?_
          refine ev_goto (tgt := 50) hC dX11_as_45 (by decide) ?_
          refine ev_iret hC hR rfl dX11_as_50 ?_
          have er : asR S (nI pp) (nI kk) = (nI (sn S (45 + pp))) := by rw [asR, if_pos ⟨by assumption, by assumption⟩, hpn_pp, hpn_kk, ← hkd, if_pos (by assumption)]; exact (hW.v pp (by omega)).eq
          exact ⟨by rw [er], rfl, rfl⟩
      · have he : (r, ob 5 [.int (nI 5), .int (nI pp), .int (nI (sn S (45 + pp))), .ref (r5 0)]) ∈ ro := hr2
        refine ev_aaldN (i := pp) (r := r) hC (mw 4 rfl) (by omega) (by omega) hr1 dX11_as_25 ?_
        refine ev_iload_n hC dX11_as_26 rfl 2 rfl ?_
        refine ev_callS (As := [.ref r, .int (nI kk)]) (st := []) (wc := []) (wf := (List.flatten [SP x r1 r2 r3 r4 r5 d b1 b2 b3 hi, MO G b1 (vwn S 2 6) tk os (vwn S 14 6) (vwn S 20 6) (vwn S 26 6) (vwn S 51 24) le (S 32) (bitF S) (S 0) (S 1) t (S 33) (-1) wa])) hC ct_X11_266 (m_X11_isOfKind_k5 G ro r (r5 0) pp (sn S (45 + pp)) kk he (by omega)) (by omega) rfl rfl (Nat.le_of_ble_eq_true rfl) (List.Perm.refl _) dX11_as_27 (by omega) (by omega) ?_
        rintro _ _ _ ⟨rfl, rfl, rfl⟩
        refine ev_ws (List.nil_append _) ?_
        show Ev G X 0 0 30 [(0, .ref x), (1, .int (nI pp)), (2, .int (nI kk))] [.int (bI (undF 5 kk))] (List.flatten [SP x r1 r2 r3 r4 r5 d b1 b2 b3 hi, MO G b1 (vwn S 2 6) tk os (vwn S 14 6) (vwn S 20 6) (vwn S 26 6) (vwn S 51 24) le (S 32) (bitF S) (S 0) (S 1) t (S 33) (-1) wa]) ro
        refine ev_if_eqB (tgt := 48) hC dX11_as_30 (by decide) (fun c_8 => ?_) (fun c_8 => ?_)
        · refine ev_bipush (v := (-6)) hC dX11_as_48 (by decide) ?_
          refine ev_iret hC hR rfl dX11_as_50 ?_
          have er : asR S (nI pp) (nI kk) = (-6) := by rw [asR, if_pos ⟨by assumption, by assumption⟩, hpn_pp, hpn_kk, ← hkd, if_neg (by assumption)]
          exact ⟨by rw [er], rfl, rfl⟩
        · refine ev_aload_n hC dX11_as_33 rfl 0 rfl ?_
          refine ev_get hC fl_X11_58_11 (mw 0 rfl) rfl dX11_as_34 ?_
          refine ev_get hC fl_X11_121_3 (mw 1 rfl) rfl dX11_as_37 ?_
          refine ev_iload_n hC dX11_as_40 rfl 1 rfl ?_
          refine ev_aaldN (i := pp) (r := r) hC (mw 4 rfl) (by omega) (by omega) hr1 dX11_as_41 ?_
          refine ev_get hC fl_X11_128_5 (mr he) rfl dX11_as_42 ?_
          refine ev_goto (tgt := 50) hC dX11_as_45 (by decide) ?_
          refine ev_iret hC hR rfl dX11_as_50 ?_
          have er : asR S (nI pp) (nI kk) = (nI (sn S (45 + pp))) := by rw [asR, if_pos ⟨by assumption, by assumption⟩, hpn_pp, hpn_kk, ← hkd, if_pos (by assumption)]; exact (hW.v pp (by omega)).eq
          exact ⟨by rw [er], rfl, rfl⟩
      · have he : (r, ob 9 [.int (nI 6), .int (nI pp), .int (nI (sn S (45 + pp))), .ref (r5 0)]) ∈ ro := hr2
        refine ev_aaldN (i := pp) (r := r) hC (mw 4 rfl) (by omega) (by omega) hr1 dX11_as_25 ?_
        refine ev_iload_n hC dX11_as_26 rfl 2 rfl ?_
        refine ev_callS (As := [.ref r, .int (nI kk)]) (st := []) (wc := []) (wf := (List.flatten [SP x r1 r2 r3 r4 r5 d b1 b2 b3 hi, MO G b1 (vwn S 2 6) tk os (vwn S 14 6) (vwn S 20 6) (vwn S 26 6) (vwn S 51 24) le (S 32) (bitF S) (S 0) (S 1) t (S 33) (-1) wa])) hC ct_X11_266 (m_X11_isOfKind_k6 G ro r (r5 0) pp (sn S (45 + pp)) kk he (by omega)) (by omega) rfl rfl (Nat.le_of_ble_eq_true rfl) (List.Perm.refl _) dX11_as_27 (by omega) (by omega) ?_
        rintro _ _ _ ⟨rfl, rfl, rfl⟩
        refine ev_ws (List.nil_append _) ?_
        show Ev G X 0 0 30 [(0, .ref x), (1, .int (nI pp)), (2, .int (nI kk))] [.int (bI (undF 6 kk))] (List.flatten [SP x r1 r2 r3 r4 r5 d b1 b2 b3 hi, MO G b1 (vwn S 2 6) tk os (vwn S 14 6) (vwn S 20 6) (vwn S 26 6) (vwn S 51 24) le (S 32) (bitF S) (S 0) (S 1) t (S 33) (-1) wa]) ro
        refine ev_if_eqB (tgt := 48) hC dX11_as_30 (by decide) (fun c_9 => ?_) (fun c_9 => ?_)
        · refine ev_bipush (v := (-6)) hC dX11_as_48 (by decide) ?_
          refine ev_iret hC hR rfl dX11_as_50 ?_
          have er : asR S (nI pp) (nI kk) = (-6) := by rw [asR, if_pos ⟨by assumption, by assumption⟩, hpn_pp, hpn_kk, ← hkd, if_neg (by assumption)]
          exact ⟨by rw [er], rfl, rfl⟩
        · refine ev_aload_n hC dX11_as_33 rfl 0 rfl ?_
          refine ev_get hC fl_X11_58_11 (mw 0 rfl) rfl dX11_as_34 ?_
          refine ev_get hC fl_X11_121_3 (mw 1 rfl) rfl dX11_as_37 ?_
          refine ev_iload_n hC dX11_as_40 rfl 1 rfl ?_
          refine ev_aaldN (i := pp) (r := r) hC (mw 4 rfl) (by omega) (by omega) hr1 dX11_as_41 ?_
          refine ev_get hC fl_X11_128_9 (mr he) rfl dX11_as_42 ?_
          refine ev_goto (tgt := 50) hC dX11_as_45 (by decide) ?_
          refine ev_iret hC hR rfl dX11_as_50 ?_
          have er : asR S (nI pp) (nI kk) = (nI (sn S (45 + pp))) := by rw [asR, if_pos ⟨by assumption, by assumption⟩, hpn_pp, hpn_kk, ← hkd, if_pos (by assumption)]; exact (hW.v pp (by omega)).eq
          exact ⟨by rw [er], rfl, rfl⟩
    · refine ev_iconst (v := (-1)) hC dX11_as_15 (by decide) ?_
      refine ev_iret hC hR rfl dX11_as_16 ?_
      have er : asR S y z = -1 := by rw [asR, if_neg (fun h => by first | exact absurd h.1 (by assumption) | exact absurd h.2 (by assumption))]
      exact ⟨by rw [er], rfl, rfl⟩

theorem nI_no {k : Nat} (hk : k < 2 ^ 31) : ¬ nI k = -1 := by
  intro e
  have h := nI_toInt hk
  rw [e, show (-1 : Int32).toInt = -1 from by decide] at h
  omega

set_option maxHeartbeats 4000000 in
set_option maxRecDepth 100000 in
theorem m_X11_of (G : GG) (ro : va_W) (x : Nat) (r1 r2 r3 r4 r5 d b1 b2 b3 : Nat → Nat) (hi : Int32) (S tk le T tk3 le3 : Nat → Int32) (os os3 : Nat → Option Nat) (t t3 : Nat) (wa st3 wa3 : Int32) (y z : Int32) (hW : WF S 9999 9999) (hO : MoOK G ro (r5 0) S os t)  : Mth G M_X11_of 8 0 0 [.ref x, .int y, .int z] (List.flatten [SP x r1 r2 r3 r4 r5 d b1 b2 b3 hi, MO G b1 (vwn S 2 6) tk os (vwn S 14 6) (vwn S 20 6) (vwn S 26 6) (vwn S 51 24) le (S 32) (bitF S) (S 0) (S 1) t (S 33) (-1) wa]) ro (fun r ws' ro' => ∃ (le' : Nat → Int32), r = some (.int (ofR S y z)) ∧ ws' = (List.flatten [SP x r1 r2 r3 r4 r5 d b1 b2 b3 hi, MO G b1 (vwn S 2 6) tk os (vwn S 14 6) (vwn S 20 6) (vwn S 26 6) (vwn S 51 24) le' (S 32) (bitF S) (S 0) (S 1) t (S 33) (-1) wa]) ∧ ro = ro') := by
  refine mth_of (by decide +kernel) (Nat.le_of_ble_eq_true rfl) (fun X hC hR => ?_)
  have b32 := hW.peo.le
  show Ev G X 0 0 0 [(0, .ref x), (1, .int y), (2, .int z)] [] (List.flatten [SP x r1 r2 r3 r4 r5 d b1 b2 b3 hi, MO G b1 (vwn S 2 6) tk os (vwn S 14 6) (vwn S 20 6) (vwn S 26 6) (vwn S 51 24) le (S 32) (bitF S) (S 0) (S 1) t (S 33) (-1) wa]) ro
  refine ev_aload_n hC dX11_of_0 rfl 0 rfl ?_
  refine ev_iload_n hC dX11_of_1 rfl 1 rfl ?_
  refine ev_callV (As := [.int y]) (st := []) (wf := (List.flatten [])) hC cv_X11_118 (m_X11_isPerson G ro x r1 r2 r3 r4 r5 d b1 b2 b3 hi S tk le os t (-1) wa y) (by omega) rfl rfl (Nat.le_of_ble_eq_true rfl) (perm_sg (n := 2) [0, 1] rfl rfl (by decide)) (mw 0 rfl) rfl dX11_of_2 (by omega) (by omega) ?_
  rintro _ _ _ ⟨rfl, rfl, rfl⟩
  show Ev G X 0 0 5 [(0, .ref x), (1, .int y), (2, .int z)] [.int (bI ((nI 0) ≤ y ∧ y ≤ (S 32 - nI 1)))] (List.flatten [SP x r1 r2 r3 r4 r5 d b1 b2 b3 hi, MO G b1 (vwn S 2 6) tk os (vwn S 14 6) (vwn S 20 6) (vwn S 26 6) (vwn S 51 24) le (S 32) (bitF S) (S 0) (S 1) t (S 33) (-1) wa]) ro
  refine ev_if_neB (tgt := 12) hC dX11_of_5 (by decide) (fun c_1 => ?_) (fun c_1 => ?_)
  · obtain ⟨pp, hpp, rfl⟩ := isP hW (by assumption)
    have hpn_pp : pn (nI pp) = pp := nI_clamp (by omega)
    refine ev_iload_n hC dX11_of_12 rfl 2 rfl ?_
    by_cases w_2_0 : z = nI 0
    · subst w_2_0
      refine ev_tabIn (off := 47) (tgt := 60) hC dX11_of_13 (by decide) (by decide) (by decide) (by decide) ?_
      refine ev_aload_n hC dX11_of_60 rfl 0 rfl ?_
      refine ev_get hC fl_X11_58_11 (mw 0 rfl) rfl dX11_of_61 ?_
      refine ev_get hC fl_X11_121_3 (mw 1 rfl) rfl dX11_of_64 ?_
      refine ev_iload_n hC dX11_of_67 rfl 1 rfl ?_
      obtain ⟨r, hr1, hr2⟩ := hO.1 pp (by omega)
      obtain ⟨kd, hkd⟩ : ∃ kd, kd = sn S (39 + pp) := ⟨_, rfl⟩
      rw [← hkd] at hr2
      have hk6 : kd ≤ 6 := by rw [hkd]; exact (hW.kind pp (by omega)).le
      have hv9 := (hW.v pp (by omega)).le
      rcases (show kd = 0 ∨ kd = 1 ∨ kd = 2 ∨ kd = 3 ∨ kd = 4 ∨ kd = 5 ∨ kd = 6 by omega) with rfl | rfl | rfl | rfl | rfl | rfl | rfl
      · have he : (r, ob 4 [.int (nI 0), .int (nI pp), .int (nI (sn S (45 + pp))), .ref (r5 0)]) ∈ ro := hr2
        refine ev_aaldN (i := pp) (r := r) hC (mw 4 rfl) (by omega) (by omega) hr1 dX11_of_68 ?_
        refine ev_get hC fl_X11_125_4 (mr he) rfl dX11_of_69 ?_
        refine ev_iret hC hR rfl dX11_of_72 ?_
        have er : ofR S (nI pp) (nI 0) = (nI 0) := by rw [ofR, if_pos ⟨by assumption, by decide⟩, hpn_pp, if_pos rfl]; exact hkd ▸ (hW.kind pp (by omega)).eq
        exact ⟨_, by rw [er], rfl, rfl⟩
      · have he : (r, ob 1 [.int (nI 1), .int (nI pp), .int (nI (sn S (45 + pp))), .ref (r5 0)]) ∈ ro := hr2
        refine ev_aaldN (i := pp) (r := r) hC (mw 4 rfl) (by omega) (by omega) hr1 dX11_of_68 ?_
        refine ev_get hC fl_X11_125_1 (mr he) rfl dX11_of_69 ?_
        refine ev_iret hC hR rfl dX11_of_72 ?_
        have er : ofR S (nI pp) (nI 0) = (nI 1) := by rw [ofR, if_pos ⟨by assumption, by decide⟩, hpn_pp, if_pos rfl]; exact hkd ▸ (hW.kind pp (by omega)).eq
        exact ⟨_, by rw [er], rfl, rfl⟩
      · have he : (r, ob 0 [.int (nI 2), .int (nI pp), .int (nI (sn S (45 + pp))), .ref (r5 0)]) ∈ ro := hr2
        refine ev_aaldN (i := pp) (r := r) hC (mw 4 rfl) (by omega) (by omega) hr1 dX11_of_68 ?_
        refine ev_get hC fl_X11_125_0 (mr he) rfl dX11_of_69 ?_
        refine ev_iret hC hR rfl dX11_of_72 ?_
        have er : ofR S (nI pp) (nI 0) = (nI 2) := by rw [ofR, if_pos ⟨by assumption, by decide⟩, hpn_pp, if_pos rfl]; exact hkd ▸ (hW.kind pp (by omega)).eq
        exact ⟨_, by rw [er], rfl, rfl⟩
      · have he : (r, ob 8 [.int (nI 3), .int (nI pp), .int (nI (sn S (45 + pp))), .ref (r5 0)]) ∈ ro := hr2
        refine ev_aaldN (i := pp) (r := r) hC (mw 4 rfl) (by omega) (by omega) hr1 dX11_of_68 ?_
        refine ev_get hC fl_X11_125_8 (mr he) rfl dX11_of_69 ?_
        refine ev_iret hC hR rfl dX11_of_72 ?_
        have er : ofR S (nI pp) (nI 0) = (nI 3) := by rw [ofR, if_pos ⟨by assumption, by decide⟩, hpn_pp, if_pos rfl]; exact hkd ▸ (hW.kind pp (by omega)).eq
        exact ⟨_, by rw [er], rfl, rfl⟩
      · have he : (r, ob 2 [.int (nI 4), .int (nI pp), .int (nI (sn S (45 + pp))), .ref (r5 0)]) ∈ ro := hr2
        refine ev_aaldN (i := pp) (r := r) hC (mw 4 rfl) (by omega) (by omega) hr1 dX11_of_68 ?_
        refine ev_get hC fl_X11_125_2 (mr he) rfl dX11_of_69 ?_
        refine ev_iret hC hR rfl dX11_of_72 ?_
        have er : ofR S (nI pp) (nI 0) = (nI 4) := by rw [ofR, if_pos ⟨by assumption, by decide⟩, hpn_pp, if_pos rfl]; exact hkd ▸ (hW.kind pp (by omega)).eq
        exact ⟨_, by rw [er], rfl, rfl⟩
      · have he : (r, ob 5 [.int (nI 5), .int (nI pp), .int (nI (sn S (45 + pp))), .ref (r5 0)]) ∈ ro := hr2
        refine ev_aaldN (i := pp) (r := r) hC (mw 4 rfl) (by omega) (by omega) hr1 dX11_of_68 ?_
        refine ev_get hC fl_X11_125_5 (mr he) rfl dX11_of_69 ?_
        refine ev_iret hC hR rfl dX11_of_72 ?_
        have er : ofR S (nI pp) (nI 0) = (nI 5) := by rw [ofR, if_pos ⟨by assumption, by decide⟩, hpn_pp, if_pos rfl]; exact hkd ▸ (hW.kind pp (by omega)).eq
        exact ⟨_, by rw [er], rfl, rfl⟩
      · have he : (r, ob 9 [.int (nI 6), .int (nI pp), .int (nI (sn S (45 + pp))), .ref (r5 0)]) ∈ ro := hr2
        refine ev_aaldN (i := pp) (r := r) hC (mw 4 rfl) (by omega) (by omega) hr1 dX11_of_68 ?_
        refine ev_get hC fl_X11_125_9 (mr he) rfl dX11_of_69 ?_
        refine ev_iret hC hR rfl dX11_of_72 ?_
        have er : ofR S (nI pp) (nI 0) = (nI 6) := by rw [ofR, if_pos ⟨by assumption, by decide⟩, hpn_pp, if_pos rfl]; exact hkd ▸ (hW.kind pp (by omega)).eq
        exact ⟨_, by rw [er], rfl, rfl⟩
    by_cases w_2_1 : z = nI 1
    · subst w_2_1
      refine ev_tabIn (off := 60) (tgt := 73) hC dX11_of_13 (by decide) (by decide) (by decide) (by decide) ?_
      refine ev_aload_n hC dX11_of_73 rfl 0 rfl ?_
      refine ev_get hC fl_X11_58_11 (mw 0 rfl) rfl dX11_of_74 ?_
      refine ev_get hC fl_X11_121_3 (mw 1 rfl) rfl dX11_of_77 ?_
      refine ev_iload_n hC dX11_of_80 rfl 1 rfl ?_
      obtain ⟨r, hr1, hr2⟩ := hO.1 pp (by omega)
      obtain ⟨kd, hkd⟩ : ∃ kd, kd = sn S (39 + pp) := ⟨_, rfl⟩
      rw [← hkd] at hr2
      have hk6 : kd ≤ 6 := by rw [hkd]; exact (hW.kind pp (by omega)).le
      have hv9 := (hW.v pp (by omega)).le
      rcases (show kd = 0 ∨ kd = 1 ∨ kd = 2 ∨ kd = 3 ∨ kd = 4 ∨ kd = 5 ∨ kd = 6 by omega) with rfl | rfl | rfl | rfl | rfl | rfl | rfl
      · have he : (r, ob 4 [.int (nI 0), .int (nI pp), .int (nI (sn S (45 + pp))), .ref (r5 0)]) ∈ ro := hr2
        refine ev_aaldN (i := pp) (r := r) hC (mw 4 rfl) (by omega) (by omega) hr1 dX11_of_81 ?_
        refine ev_get hC fl_X11_128_4 (mr he) rfl dX11_of_82 ?_
        refine ev_iret hC hR rfl dX11_of_85 ?_
        have er : ofR S (nI pp) (nI 1) = (nI (sn S (45 + pp))) := by rw [ofR, if_pos ⟨by assumption, by decide⟩, hpn_pp, if_neg (by decide), if_pos rfl]; exact (hW.v pp (by omega)).eq
        exact ⟨_, by rw [er], rfl, rfl⟩
      · have he : (r, ob 1 [.int (nI 1), .int (nI pp), .int (nI (sn S (45 + pp))), .ref (r5 0)]) ∈ ro := hr2
        refine ev_aaldN (i := pp) (r := r) hC (mw 4 rfl) (by omega) (by omega) hr1 dX11_of_81 ?_
        refine ev_get hC fl_X11_128_1 (mr he) rfl dX11_of_82 ?_
        refine ev_iret hC hR rfl dX11_of_85 ?_
        have er : ofR S (nI pp) (nI 1) = (nI (sn S (45 + pp))) := by rw [ofR, if_pos ⟨by assumption, by decide⟩, hpn_pp, if_neg (by decide), if_pos rfl]; exact (hW.v pp (by omega)).eq
        exact ⟨_, by rw [er], rfl, rfl⟩
      · have he : (r, ob 0 [.int (nI 2), .int (nI pp), .int (nI (sn S (45 + pp))), .ref (r5 0)]) ∈ ro := hr2
        refine ev_aaldN (i := pp) (r := r) hC (mw 4 rfl) (by omega) (by omega) hr1 dX11_of_81 ?_
        refine ev_get hC fl_X11_128_0 (mr he) rfl dX11_of_82 ?_
        refine ev_iret hC hR rfl dX11_of_85 ?_
        have er : ofR S (nI pp) (nI 1) = (nI (sn S (45 + pp))) := by rw [ofR, if_pos ⟨by assumption, by decide⟩, hpn_pp, if_neg (by decide), if_pos rfl]; exact (hW.v pp (by omega)).eq
        exact ⟨_, by rw [er], rfl, rfl⟩
      · have he : (r, ob 8 [.int (nI 3), .int (nI pp), .int (nI (sn S (45 + pp))), .ref (r5 0)]) ∈ ro := hr2
        refine ev_aaldN (i := pp) (r := r) hC (mw 4 rfl) (by omega) (by omega) hr1 dX11_of_81 ?_
        refine ev_get hC fl_X11_128_8 (mr he) rfl dX11_of_82 ?_
        refine ev_iret hC hR rfl dX11_of_85 ?_
        have er : ofR S (nI pp) (nI 1) = (nI (sn S (45 + pp))) := by rw [ofR, if_pos ⟨by assumption, by decide⟩, hpn_pp, if_neg (by decide), if_pos rfl]; exact (hW.v pp (by omega)).eq
        exact ⟨_, by rw [er], rfl, rfl⟩
      · have he : (r, ob 2 [.int (nI 4), .int (nI pp), .int (nI (sn S (45 + pp))), .ref (r5 0)]) ∈ ro := hr2
        refine ev_aaldN (i := pp) (r := r) hC (mw 4 rfl) (by omega) (by omega) hr1 dX11_of_81 ?_
        refine ev_get hC fl_X11_128_2 (mr he) rfl dX11_of_82 ?_
        refine ev_iret hC hR rfl dX11_of_85 ?_
        have er : ofR S (nI pp) (nI 1) = (nI (sn S (45 + pp))) := by rw [ofR, if_pos ⟨by assumption, by decide⟩, hpn_pp, if_neg (by decide), if_pos rfl]; exact (hW.v pp (by omega)).eq
        exact ⟨_, by rw [er], rfl, rfl⟩
      · have he : (r, ob 5 [.int (nI 5), .int (nI pp), .int (nI (sn S (45 + pp))), .ref (r5 0)]) ∈ ro := hr2
        refine ev_aaldN (i := pp) (r := r) hC (mw 4 rfl) (by omega) (by omega) hr1 dX11_of_81 ?_
        refine ev_get hC fl_X11_128_5 (mr he) rfl dX11_of_82 ?_
        refine ev_iret hC hR rfl dX11_of_85 ?_
        have er : ofR S (nI pp) (nI 1) = (nI (sn S (45 + pp))) := by rw [ofR, if_pos ⟨by assumption, by decide⟩, hpn_pp, if_neg (by decide), if_pos rfl]; exact (hW.v pp (by omega)).eq
        exact ⟨_, by rw [er], rfl, rfl⟩
      · have he : (r, ob 9 [.int (nI 6), .int (nI pp), .int (nI (sn S (45 + pp))), .ref (r5 0)]) ∈ ro := hr2
        refine ev_aaldN (i := pp) (r := r) hC (mw 4 rfl) (by omega) (by omega) hr1 dX11_of_81 ?_
        refine ev_get hC fl_X11_128_9 (mr he) rfl dX11_of_82 ?_
        refine ev_iret hC hR rfl dX11_of_85 ?_
        have er : ofR S (nI pp) (nI 1) = (nI (sn S (45 + pp))) := by rw [ofR, if_pos ⟨by assumption, by decide⟩, hpn_pp, if_neg (by decide), if_pos rfl]; exact (hW.v pp (by omega)).eq
        exact ⟨_, by rw [er], rfl, rfl⟩
    by_cases w_2_2 : z = nI 2
    · subst w_2_2
      refine ev_tabIn (off := 73) (tgt := 86) hC dX11_of_13 (by decide) (by decide) (by decide) (by decide) ?_
      refine ev_aload_n hC dX11_of_86 rfl 0 rfl ?_
      refine ev_get hC fl_X11_58_11 (mw 0 rfl) rfl dX11_of_87 ?_
      refine ev_get hC fl_X11_131_3 (mw 1 rfl) rfl dX11_of_90 ?_
      refine ev_iload_n hC dX11_of_93 rfl 1 rfl ?_
      refine ev_ialdN (i := pp) hC (mw 5 rfl) (by omega) (by omega) dX11_of_94 ?_
      refine ev_top (y := (S (14 + pp))) (vwn_at (by omega)) ?_
      refine ev_iret hC hR rfl dX11_of_95 ?_
      have er : ofR S (nI pp) (nI 2) = (S (14 + pp)) := by rw [ofR, if_pos ⟨by assumption, by decide⟩, hpn_pp, if_neg (by decide), if_neg (by decide), if_neg (by decide), if_neg (by decide), if_neg (by decide), show 14 + 6 * (pn (nI 2) - 2) + pp = 14 + pp from rfl]
      exact ⟨_, by rw [er], rfl, rfl⟩
    by_cases w_2_3 : z = nI 3
    · subst w_2_3
      refine ev_tabIn (off := 83) (tgt := 96) hC dX11_of_13 (by decide) (by decide) (by decide) (by decide) ?_
      refine ev_aload_n hC dX11_of_96 rfl 0 rfl ?_
      refine ev_get hC fl_X11_58_11 (mw 0 rfl) rfl dX11_of_97 ?_
      refine ev_get hC fl_X11_135_3 (mw 1 rfl) rfl dX11_of_100 ?_
      refine ev_iload_n hC dX11_of_103 rfl 1 rfl ?_
      refine ev_ialdN (i := pp) hC (mw 6 rfl) (by omega) (by omega) dX11_of_104 ?_
      refine ev_top (y := (S (20 + pp))) (vwn_at (by omega)) ?_
      refine ev_iret hC hR rfl dX11_of_105 ?_
      have er : ofR S (nI pp) (nI 3) = (S (20 + pp)) := by rw [ofR, if_pos ⟨by assumption, by decide⟩, hpn_pp, if_neg (by decide), if_neg (by decide), if_neg (by decide), if_neg (by decide), if_neg (by decide), show 14 + 6 * (pn (nI 3) - 2) + pp = 20 + pp from rfl]
      exact ⟨_, by rw [er], rfl, rfl⟩
    by_cases w_2_4 : z = nI 4
    · subst w_2_4
      refine ev_tabIn (off := 93) (tgt := 106) hC dX11_of_13 (by decide) (by decide) (by decide) (by decide) ?_
      refine ev_aload_n hC dX11_of_106 rfl 0 rfl ?_
      refine ev_get hC fl_X11_58_11 (mw 0 rfl) rfl dX11_of_107 ?_
      refine ev_get hC fl_X11_138_3 (mw 1 rfl) rfl dX11_of_110 ?_
      refine ev_iload_n hC dX11_of_113 rfl 1 rfl ?_
      refine ev_ialdN (i := pp) hC (mw 7 rfl) (by omega) (by omega) dX11_of_114 ?_
      refine ev_top (y := (S (26 + pp))) (vwn_at (by omega)) ?_
      refine ev_iret hC hR rfl dX11_of_115 ?_
      have er : ofR S (nI pp) (nI 4) = (S (26 + pp)) := by rw [ofR, if_pos ⟨by assumption, by decide⟩, hpn_pp, if_neg (by decide), if_neg (by decide), if_neg (by decide), if_neg (by decide), if_neg (by decide), show 14 + 6 * (pn (nI 4) - 2) + pp = 26 + pp from rfl]
      exact ⟨_, by rw [er], rfl, rfl⟩
    by_cases w_2_5 : z = nI 5
    · subst w_2_5
      refine ev_tabIn (off := 103) (tgt := 116) hC dX11_of_13 (by decide) (by decide) (by decide) (by decide) ?_
      refine ev_aload_n hC dX11_of_116 rfl 0 rfl ?_
      refine ev_get hC fl_X11_58_11 (mw 0 rfl) rfl dX11_of_117 ?_
      refine ev_iload_n hC dX11_of_120 rfl 1 rfl ?_
      refine ev_callV (As := [.int (nI pp)]) (st := []) (wf := (List.flatten [SP x r1 r2 r3 r4 r5 d b1 b2 b3 hi])) hC cv_X11_141 (m_X3_risesOf G ro b1 S tk le os t (r5 0) (-1) wa pp  hW hO (by omega)) (by omega) rfl rfl (Nat.le_of_ble_eq_true rfl) (perm_sg (n := 2) [1, 0] rfl rfl (by decide)) (mw 1 rfl) rfl dX11_of_121 (by omega) (by omega) ?_
      rintro _ _ _ ⟨rfl, rfl, rfl⟩
      show Ev G X 0 0 124 [(0, .ref x), (1, .int (nI pp)), (2, .int (nI 5))] [.int (risF S pp)] (List.flatten [MO G b1 (vwn S 2 6) tk os (vwn S 14 6) (vwn S 20 6) (vwn S 26 6) (vwn S 51 24) (byF S pp) (S 32) (bitF S) (S 0) (S 1) t (S 33) (-1) wa, SP x r1 r2 r3 r4 r5 d b1 b2 b3 hi]) ro
      refine ev_perm (ws' := (List.flatten [SP x r1 r2 r3 r4 r5 d b1 b2 b3 hi, MO G b1 (vwn S 2 6) tk os (vwn S 14 6) (vwn S 20 6) (vwn S 26 6) (vwn S 51 24) (byF S pp) (S 32) (bitF S) (S 0) (S 1) t (S 33) (-1) wa])) (perm_sg2 (n := 2) [1, 0] rfl rfl (by decide)) ?_
      refine ev_iret hC hR rfl dX11_of_124 ?_
      have er : ofR S (nI pp) (nI 5) = (risF S pp) := by rw [ofR, if_pos ⟨by assumption, by decide⟩, hpn_pp, if_neg (by decide), if_neg (by decide), if_pos rfl]
      exact ⟨_, by rw [er], rfl, rfl⟩
    by_cases w_2_6 : z = nI 6
    · subst w_2_6
      refine ev_tabIn (off := 112) (tgt := 125) hC dX11_of_13 (by decide) (by decide) (by decide) (by decide) ?_
      refine ev_aload_n hC dX11_of_125 rfl 0 rfl ?_
      refine ev_get hC fl_X11_58_11 (mw 0 rfl) rfl dX11_of_126 ?_
      refine ev_get hC fl_X11_121_3 (mw 1 rfl) rfl dX11_of_129 ?_
      refine ev_iload_n hC dX11_of_132 rfl 1 rfl ?_
      obtain ⟨r, hr1, hr2⟩ := hO.1 pp (by omega)
      obtain ⟨kd, hkd⟩ : ∃ kd, kd = sn S (39 + pp) := ⟨_, rfl⟩
      rw [← hkd] at hr2
      have hk6 : kd ≤ 6 := by rw [hkd]; exact (hW.kind pp (by omega)).le
      have hv9 := (hW.v pp (by omega)).le
      rcases (show kd = 0 ∨ kd = 1 ∨ kd = 2 ∨ kd = 3 ∨ kd = 4 ∨ kd = 5 ∨ kd = 6 by omega) with rfl | rfl | rfl | rfl | rfl | rfl | rfl
      · have he : (r, ob 4 [.int (nI 0), .int (nI pp), .int (nI (sn S (45 + pp))), .ref (r5 0)]) ∈ ro := hr2
        refine ev_aaldN (i := pp) (r := r) hC (mw 4 rfl) (by omega) (by omega) hr1 dX11_of_133 ?_
        refine ev_aload_n hC dX11_of_134 rfl 0 rfl ?_
        refine ev_get hC fl_X11_58_11 (mw 0 rfl) rfl dX11_of_135 ?_
        refine ev_get hC fl_X11_135_3 (mw 1 rfl) rfl dX11_of_138 ?_
        refine ev_iload_n hC dX11_of_141 rfl 1 rfl ?_
        refine ev_ialdN (i := pp) hC (mw 6 rfl) (by omega) (by omega) dX11_of_142 ?_
        refine ev_top (y := (S (20 + pp))) (vwn_at (by omega)) ?_
        have bgl := (hW.grudge pp (by omega)).le
        refine ev_top (y := (nI (sn S (20 + pp)))) (hW.grudge pp (by omega)).eq ?_
        refine ev_aload_n hC dX11_of_143 rfl 0 rfl ?_
        refine ev_get hC fl_X11_58_11 (mw 0 rfl) rfl dX11_of_144 ?_
        refine ev_get hC fl_X11_145_3 (mw 1 rfl) rfl dX11_of_147 ?_
        have bdl := hW.day.lt
        refine ev_top (y := (nI (sn S 0))) hW.day.eq ?_
        refine ev_callU (As := [.int (nI (sn S (20 + pp))), .int (nI (sn S 0))]) (st := []) (wc := []) (wf := (List.flatten [SP x r1 r2 r3 r4 r5 d b1 b2 b3 hi, MO G b1 (vwn S 2 6) tk os (vwn S 14 6) (vwn S 20 6) (vwn S 26 6) (vwn S 51 24) le (S 32) (bitF S) (S 0) (S 1) t (S 33) (-1) wa])) hC cu_X11_148_4 (m_X4_mostLicked_k0 G ro r (r5 0) pp (sn S (45 + pp)) he (by omega) (sn S (20 + pp)) (sn S 0) (by omega) (by omega)) (by omega) rfl rfl (Nat.le_of_ble_eq_true rfl) (List.Perm.refl _) (mr he) rfl dX11_of_150 (by omega) (by omega) ?_
        rintro _ _ _ ⟨rfl, rfl, rfl⟩
        refine ev_ws (List.nil_append _) ?_
        show Ev G X 0 0 153 [(0, .ref x), (1, .int (nI pp)), (2, .int (nI 6))] [.int (nI 10)] (List.flatten [SP x r1 r2 r3 r4 r5 d b1 b2 b3 hi, MO G b1 (vwn S 2 6) tk os (vwn S 14 6) (vwn S 20 6) (vwn S 26 6) (vwn S 51 24) le (S 32) (bitF S) (S 0) (S 1) t (S 33) (-1) wa]) ro
        refine ev_iret hC hR rfl dX11_of_153 ?_
        have er : ofR S (nI pp) (nI 6) = (nI 10) := by rw [ofR, if_pos ⟨by assumption, by decide⟩, hpn_pp, if_neg (by decide), if_neg (by decide), if_neg (by decide), if_pos rfl]; unfold licF; rw [← hkd, if_neg (by omega), if_neg (by omega), if_neg (by omega), if_neg (by omega), if_neg (by omega), if_neg (by omega)]; try (first | rfl | (unfold odW; split <;> rfl) | (split <;> rfl))
        exact ⟨_, by rw [er], rfl, rfl⟩
      · have he : (r, ob 1 [.int (nI 1), .int (nI pp), .int (nI (sn S (45 + pp))), .ref (r5 0)]) ∈ ro := hr2
        refine ev_aaldN (i := pp) (r := r) hC (mw 4 rfl) (by omega) (by omega) hr1 dX11_of_133 ?_
        refine ev_aload_n hC dX11_of_134 rfl 0 rfl ?_
        refine ev_get hC fl_X11_58_11 (mw 0 rfl) rfl dX11_of_135 ?_
        refine ev_get hC fl_X11_135_3 (mw 1 rfl) rfl dX11_of_138 ?_
        refine ev_iload_n hC dX11_of_141 rfl 1 rfl ?_
        refine ev_ialdN (i := pp) hC (mw 6 rfl) (by omega) (by omega) dX11_of_142 ?_
        refine ev_top (y := (S (20 + pp))) (vwn_at (by omega)) ?_
        have bgl := (hW.grudge pp (by omega)).le
        refine ev_top (y := (nI (sn S (20 + pp)))) (hW.grudge pp (by omega)).eq ?_
        refine ev_aload_n hC dX11_of_143 rfl 0 rfl ?_
        refine ev_get hC fl_X11_58_11 (mw 0 rfl) rfl dX11_of_144 ?_
        refine ev_get hC fl_X11_145_3 (mw 1 rfl) rfl dX11_of_147 ?_
        have bdl := hW.day.lt
        refine ev_top (y := (nI (sn S 0))) hW.day.eq ?_
        refine ev_callU (As := [.int (nI (sn S (20 + pp))), .int (nI (sn S 0))]) (st := []) (wc := []) (wf := (List.flatten [SP x r1 r2 r3 r4 r5 d b1 b2 b3 hi, MO G b1 (vwn S 2 6) tk os (vwn S 14 6) (vwn S 20 6) (vwn S 26 6) (vwn S 51 24) le (S 32) (bitF S) (S 0) (S 1) t (S 33) (-1) wa])) hC cu_X11_148_1 (m_X1_mostLicked_k1 G ro r (r5 0) pp (sn S (45 + pp)) he (by omega) (sn S (20 + pp)) (sn S 0) (by omega) (by omega)) (by omega) rfl rfl (Nat.le_of_ble_eq_true rfl) (List.Perm.refl _) (mr he) rfl dX11_of_150 (by omega) (by omega) ?_
        rintro _ _ _ ⟨rfl, rfl, rfl⟩
        refine ev_ws (List.nil_append _) ?_
        show Ev G X 0 0 153 [(0, .ref x), (1, .int (nI pp)), (2, .int (nI 6))] [.int (nI 4)] (List.flatten [SP x r1 r2 r3 r4 r5 d b1 b2 b3 hi, MO G b1 (vwn S 2 6) tk os (vwn S 14 6) (vwn S 20 6) (vwn S 26 6) (vwn S 51 24) le (S 32) (bitF S) (S 0) (S 1) t (S 33) (-1) wa]) ro
        refine ev_iret hC hR rfl dX11_of_153 ?_
        have er : ofR S (nI pp) (nI 6) = (nI 4) := by rw [ofR, if_pos ⟨by assumption, by decide⟩, hpn_pp, if_neg (by decide), if_neg (by decide), if_neg (by decide), if_pos rfl]; unfold licF; rw [← hkd, if_pos rfl]; try (first | rfl | (unfold odW; split <;> rfl) | (split <;> rfl))
        exact ⟨_, by rw [er], rfl, rfl⟩
      · have he : (r, ob 0 [.int (nI 2), .int (nI pp), .int (nI (sn S (45 + pp))), .ref (r5 0)]) ∈ ro := hr2
        refine ev_aaldN (i := pp) (r := r) hC (mw 4 rfl) (by omega) (by omega) hr1 dX11_of_133 ?_
        refine ev_aload_n hC dX11_of_134 rfl 0 rfl ?_
        refine ev_get hC fl_X11_58_11 (mw 0 rfl) rfl dX11_of_135 ?_
        refine ev_get hC fl_X11_135_3 (mw 1 rfl) rfl dX11_of_138 ?_
        refine ev_iload_n hC dX11_of_141 rfl 1 rfl ?_
        refine ev_ialdN (i := pp) hC (mw 6 rfl) (by omega) (by omega) dX11_of_142 ?_
        refine ev_top (y := (S (20 + pp))) (vwn_at (by omega)) ?_
        have bgl := (hW.grudge pp (by omega)).le
        refine ev_top (y := (nI (sn S (20 + pp)))) (hW.grudge pp (by omega)).eq ?_
        refine ev_aload_n hC dX11_of_143 rfl 0 rfl ?_
        refine ev_get hC fl_X11_58_11 (mw 0 rfl) rfl dX11_of_144 ?_
        refine ev_get hC fl_X11_145_3 (mw 1 rfl) rfl dX11_of_147 ?_
        have bdl := hW.day.lt
        refine ev_top (y := (nI (sn S 0))) hW.day.eq ?_
        refine ev_callU (As := [.int (nI (sn S (20 + pp))), .int (nI (sn S 0))]) (st := []) (wc := []) (wf := (List.flatten [SP x r1 r2 r3 r4 r5 d b1 b2 b3 hi, MO G b1 (vwn S 2 6) tk os (vwn S 14 6) (vwn S 20 6) (vwn S 26 6) (vwn S 51 24) le (S 32) (bitF S) (S 0) (S 1) t (S 33) (-1) wa])) hC cu_X11_148_0 (m_X0_mostLicked_k2 G ro r (r5 0) pp (sn S (45 + pp)) he (by omega) (sn S (20 + pp)) (sn S 0) (by omega) (by omega)) (by omega) rfl rfl (Nat.le_of_ble_eq_true rfl) (List.Perm.refl _) (mr he) rfl dX11_of_150 (by omega) (by omega) ?_
        rintro _ _ _ ⟨rfl, rfl, rfl⟩
        refine ev_ws (List.nil_append _) ?_
        show Ev G X 0 0 153 [(0, .ref x), (1, .int (nI pp)), (2, .int (nI 6))] [.int (nI (10 + 2 * (sn S (45 + pp))))] (List.flatten [SP x r1 r2 r3 r4 r5 d b1 b2 b3 hi, MO G b1 (vwn S 2 6) tk os (vwn S 14 6) (vwn S 20 6) (vwn S 26 6) (vwn S 51 24) le (S 32) (bitF S) (S 0) (S 1) t (S 33) (-1) wa]) ro
        refine ev_iret hC hR rfl dX11_of_153 ?_
        have er : ofR S (nI pp) (nI 6) = (nI (10 + 2 * (sn S (45 + pp)))) := by rw [ofR, if_pos ⟨by assumption, by decide⟩, hpn_pp, if_neg (by decide), if_neg (by decide), if_neg (by decide), if_pos rfl]; unfold licF; rw [← hkd, if_neg (by omega), if_pos rfl]; try (first | rfl | (unfold odW; split <;> rfl) | (split <;> rfl))
        exact ⟨_, by rw [er], rfl, rfl⟩
      · have he : (r, ob 8 [.int (nI 3), .int (nI pp), .int (nI (sn S (45 + pp))), .ref (r5 0)]) ∈ ro := hr2
        refine ev_aaldN (i := pp) (r := r) hC (mw 4 rfl) (by omega) (by omega) hr1 dX11_of_133 ?_
        refine ev_aload_n hC dX11_of_134 rfl 0 rfl ?_
        refine ev_get hC fl_X11_58_11 (mw 0 rfl) rfl dX11_of_135 ?_
        refine ev_get hC fl_X11_135_3 (mw 1 rfl) rfl dX11_of_138 ?_
        refine ev_iload_n hC dX11_of_141 rfl 1 rfl ?_
        refine ev_ialdN (i := pp) hC (mw 6 rfl) (by omega) (by omega) dX11_of_142 ?_
        refine ev_top (y := (S (20 + pp))) (vwn_at (by omega)) ?_
        have bgl := (hW.grudge pp (by omega)).le
        refine ev_top (y := (nI (sn S (20 + pp)))) (hW.grudge pp (by omega)).eq ?_
        refine ev_aload_n hC dX11_of_143 rfl 0 rfl ?_
        refine ev_get hC fl_X11_58_11 (mw 0 rfl) rfl dX11_of_144 ?_
        refine ev_get hC fl_X11_145_3 (mw 1 rfl) rfl dX11_of_147 ?_
        have bdl := hW.day.lt
        refine ev_top (y := (nI (sn S 0))) hW.day.eq ?_
        refine ev_callU (As := [.int (nI (sn S (20 + pp))), .int (nI (sn S 0))]) (st := []) (wc := []) (wf := (List.flatten [SP x r1 r2 r3 r4 r5 d b1 b2 b3 hi, MO G b1 (vwn S 2 6) tk os (vwn S 14 6) (vwn S 20 6) (vwn S 26 6) (vwn S 51 24) le (S 32) (bitF S) (S 0) (S 1) t (S 33) (-1) wa])) hC cu_X11_148_8 (m_X8_mostLicked_k3 G ro r (r5 0) pp (sn S (45 + pp)) he (by omega) (sn S (20 + pp)) (sn S 0) (by omega) (by omega)) (by omega) rfl rfl (Nat.le_of_ble_eq_true rfl) (List.Perm.refl _) (mr he) rfl dX11_of_150 (by omega) (by omega) ?_
        rintro _ _ _ ⟨rfl, rfl, rfl⟩
        refine ev_ws (List.nil_append _) ?_
        show Ev G X 0 0 153 [(0, .ref x), (1, .int (nI pp)), (2, .int (nI 6))] [.int (nI (odW (sn S 0)))] (List.flatten [SP x r1 r2 r3 r4 r5 d b1 b2 b3 hi, MO G b1 (vwn S 2 6) tk os (vwn S 14 6) (vwn S 20 6) (vwn S 26 6) (vwn S 51 24) le (S 32) (bitF S) (S 0) (S 1) t (S 33) (-1) wa]) ro
        refine ev_iret hC hR rfl dX11_of_153 ?_
        have er : ofR S (nI pp) (nI 6) = (nI (odW (sn S 0))) := by rw [ofR, if_pos ⟨by assumption, by decide⟩, hpn_pp, if_neg (by decide), if_neg (by decide), if_neg (by decide), if_pos rfl]; unfold licF; rw [← hkd, if_neg (by omega), if_neg (by omega), if_pos rfl]; try (first | rfl | (unfold odW; split <;> rfl) | (split <;> rfl))
        exact ⟨_, by rw [er], rfl, rfl⟩
      · have he : (r, ob 2 [.int (nI 4), .int (nI pp), .int (nI (sn S (45 + pp))), .ref (r5 0)]) ∈ ro := hr2
        refine ev_aaldN (i := pp) (r := r) hC (mw 4 rfl) (by omega) (by omega) hr1 dX11_of_133 ?_
        refine ev_aload_n hC dX11_of_134 rfl 0 rfl ?_
        refine ev_get hC fl_X11_58_11 (mw 0 rfl) rfl dX11_of_135 ?_
        refine ev_get hC fl_X11_135_3 (mw 1 rfl) rfl dX11_of_138 ?_
        refine ev_iload_n hC dX11_of_141 rfl 1 rfl ?_
        refine ev_ialdN (i := pp) hC (mw 6 rfl) (by omega) (by omega) dX11_of_142 ?_
        refine ev_top (y := (S (20 + pp))) (vwn_at (by omega)) ?_
        have bgl := (hW.grudge pp (by omega)).le
        refine ev_top (y := (nI (sn S (20 + pp)))) (hW.grudge pp (by omega)).eq ?_
        refine ev_aload_n hC dX11_of_143 rfl 0 rfl ?_
        refine ev_get hC fl_X11_58_11 (mw 0 rfl) rfl dX11_of_144 ?_
        refine ev_get hC fl_X11_145_3 (mw 1 rfl) rfl dX11_of_147 ?_
        have bdl := hW.day.lt
        refine ev_top (y := (nI (sn S 0))) hW.day.eq ?_
        refine ev_callU (As := [.int (nI (sn S (20 + pp))), .int (nI (sn S 0))]) (st := []) (wc := []) (wf := (List.flatten [SP x r1 r2 r3 r4 r5 d b1 b2 b3 hi, MO G b1 (vwn S 2 6) tk os (vwn S 14 6) (vwn S 20 6) (vwn S 26 6) (vwn S 51 24) le (S 32) (bitF S) (S 0) (S 1) t (S 33) (-1) wa])) hC cu_X11_148_2 (m_X2_mostLicked_k4 G ro r (r5 0) pp (sn S (45 + pp)) he (by omega) (sn S (20 + pp)) (sn S 0) (by omega) (by omega)) (by omega) rfl rfl (Nat.le_of_ble_eq_true rfl) (List.Perm.refl _) (mr he) rfl dX11_of_150 (by omega) (by omega) ?_
        rintro _ _ _ ⟨rfl, rfl, rfl⟩
        refine ev_ws (List.nil_append _) ?_
        show Ev G X 0 0 153 [(0, .ref x), (1, .int (nI pp)), (2, .int (nI 6))] [.int (nI 0)] (List.flatten [SP x r1 r2 r3 r4 r5 d b1 b2 b3 hi, MO G b1 (vwn S 2 6) tk os (vwn S 14 6) (vwn S 20 6) (vwn S 26 6) (vwn S 51 24) le (S 32) (bitF S) (S 0) (S 1) t (S 33) (-1) wa]) ro
        refine ev_iret hC hR rfl dX11_of_153 ?_
        have er : ofR S (nI pp) (nI 6) = (nI 0) := by rw [ofR, if_pos ⟨by assumption, by decide⟩, hpn_pp, if_neg (by decide), if_neg (by decide), if_neg (by decide), if_pos rfl]; unfold licF; rw [← hkd, if_neg (by omega), if_neg (by omega), if_neg (by omega), if_pos rfl]; try (first | rfl | (unfold odW; split <;> rfl) | (split <;> rfl))
        exact ⟨_, by rw [er], rfl, rfl⟩
      · have he : (r, ob 5 [.int (nI 5), .int (nI pp), .int (nI (sn S (45 + pp))), .ref (r5 0)]) ∈ ro := hr2
        refine ev_aaldN (i := pp) (r := r) hC (mw 4 rfl) (by omega) (by omega) hr1 dX11_of_133 ?_
        refine ev_aload_n hC dX11_of_134 rfl 0 rfl ?_
        refine ev_get hC fl_X11_58_11 (mw 0 rfl) rfl dX11_of_135 ?_
        refine ev_get hC fl_X11_135_3 (mw 1 rfl) rfl dX11_of_138 ?_
        refine ev_iload_n hC dX11_of_141 rfl 1 rfl ?_
        refine ev_ialdN (i := pp) hC (mw 6 rfl) (by omega) (by omega) dX11_of_142 ?_
        refine ev_top (y := (S (20 + pp))) (vwn_at (by omega)) ?_
        have bgl := (hW.grudge pp (by omega)).le
        refine ev_top (y := (nI (sn S (20 + pp)))) (hW.grudge pp (by omega)).eq ?_
        refine ev_aload_n hC dX11_of_143 rfl 0 rfl ?_
        refine ev_get hC fl_X11_58_11 (mw 0 rfl) rfl dX11_of_144 ?_
        refine ev_get hC fl_X11_145_3 (mw 1 rfl) rfl dX11_of_147 ?_
        have bdl := hW.day.lt
        refine ev_top (y := (nI (sn S 0))) hW.day.eq ?_
        refine ev_callU (As := [.int (nI (sn S (20 + pp))), .int (nI (sn S 0))]) (st := []) (wc := []) (wf := (List.flatten [SP x r1 r2 r3 r4 r5 d b1 b2 b3 hi, MO G b1 (vwn S 2 6) tk os (vwn S 14 6) (vwn S 20 6) (vwn S 26 6) (vwn S 51 24) le (S 32) (bitF S) (S 0) (S 1) t (S 33) (-1) wa])) hC cu_X11_148_5 (m_X5_mostLicked_k5 G ro r (r5 0) pp (sn S (45 + pp)) he (by omega) (sn S (20 + pp)) (sn S 0) (by omega) (by omega)) (by omega) rfl rfl (Nat.le_of_ble_eq_true rfl) (List.Perm.refl _) (mr he) rfl dX11_of_150 (by omega) (by omega) ?_
        rintro _ _ _ ⟨rfl, rfl, rfl⟩
        refine ev_ws (List.nil_append _) ?_
        show Ev G X 0 0 153 [(0, .ref x), (1, .int (nI pp)), (2, .int (nI 6))] [.int (nI (if 80 < (sn S (20 + pp)) then 0 else 10 + 2 * (sn S (45 + pp))))] (List.flatten [SP x r1 r2 r3 r4 r5 d b1 b2 b3 hi, MO G b1 (vwn S 2 6) tk os (vwn S 14 6) (vwn S 20 6) (vwn S 26 6) (vwn S 51 24) le (S 32) (bitF S) (S 0) (S 1) t (S 33) (-1) wa]) ro
        refine ev_iret hC hR rfl dX11_of_153 ?_
        have er : ofR S (nI pp) (nI 6) = (nI (if 80 < (sn S (20 + pp)) then 0 else 10 + 2 * (sn S (45 + pp)))) := by rw [ofR, if_pos ⟨by assumption, by decide⟩, hpn_pp, if_neg (by decide), if_neg (by decide), if_neg (by decide), if_pos rfl]; unfold licF; rw [← hkd, if_neg (by omega), if_neg (by omega), if_neg (by omega), if_neg (by omega), if_pos rfl]; try (first | rfl | (unfold odW; split <;> rfl) | (split <;> rfl))
        exact ⟨_, by rw [er], rfl, rfl⟩
      · have he : (r, ob 9 [.int (nI 6), .int (nI pp), .int (nI (sn S (45 + pp))), .ref (r5 0)]) ∈ ro := hr2
        refine ev_aaldN (i := pp) (r := r) hC (mw 4 rfl) (by omega) (by omega) hr1 dX11_of_133 ?_
        refine ev_aload_n hC dX11_of_134 rfl 0 rfl ?_
        refine ev_get hC fl_X11_58_11 (mw 0 rfl) rfl dX11_of_135 ?_
        refine ev_get hC fl_X11_135_3 (mw 1 rfl) rfl dX11_of_138 ?_
        refine ev_iload_n hC dX11_of_141 rfl 1 rfl ?_
        refine ev_ialdN (i := pp) hC (mw 6 rfl) (by omega) (by omega) dX11_of_142 ?_
        refine ev_top (y := (S (20 + pp))) (vwn_at (by omega)) ?_
        have bgl := (hW.grudge pp (by omega)).le
        refine ev_top (y := (nI (sn S (20 + pp)))) (hW.grudge pp (by omega)).eq ?_
        refine ev_aload_n hC dX11_of_143 rfl 0 rfl ?_
        refine ev_get hC fl_X11_58_11 (mw 0 rfl) rfl dX11_of_144 ?_
        refine ev_get hC fl_X11_145_3 (mw 1 rfl) rfl dX11_of_147 ?_
        have bdl := hW.day.lt
        refine ev_top (y := (nI (sn S 0))) hW.day.eq ?_
        refine ev_callU (As := [.int (nI (sn S (20 + pp))), .int (nI (sn S 0))]) (st := []) (wc := []) (wf := (List.flatten [SP x r1 r2 r3 r4 r5 d b1 b2 b3 hi, MO G b1 (vwn S 2 6) tk os (vwn S 14 6) (vwn S 20 6) (vwn S 26 6) (vwn S 51 24) le (S 32) (bitF S) (S 0) (S 1) t (S 33) (-1) wa])) hC cu_X11_148_9 (m_X8_mostLicked_k6 G ro r (r5 0) pp (sn S (45 + pp)) he (by omega) (sn S (20 + pp)) (sn S 0) (by omega) (by omega)) (by omega) rfl rfl (Nat.le_of_ble_eq_true rfl) (List.Perm.refl _) (mr he) rfl dX11_of_150 (by omega) (by omega) ?_
        rintro _ _ _ ⟨rfl, rfl, rfl⟩
        refine ev_ws (List.nil_append _) ?_
        show Ev G X 0 0 153 [(0, .ref x), (1, .int (nI pp)), (2, .int (nI 6))] [.int (nI (odW (sn S 0)))] (List.flatten [SP x r1 r2 r3 r4 r5 d b1 b2 b3 hi, MO G b1 (vwn S 2 6) tk os (vwn S 14 6) (vwn S 20 6) (vwn S 26 6) (vwn S 51 24) le (S 32) (bitF S) (S 0) (S 1) t (S 33) (-1) wa]) ro
        refine ev_iret hC hR rfl dX11_of_153 ?_
        have er : ofR S (nI pp) (nI 6) = (nI (odW (sn S 0))) := by rw [ofR, if_pos ⟨by assumption, by decide⟩, hpn_pp, if_neg (by decide), if_neg (by decide), if_neg (by decide), if_pos rfl]; unfold licF; rw [← hkd, if_neg (by omega), if_neg (by omega), if_neg (by omega), if_neg (by omega), if_neg (by omega), if_pos rfl]; try (first | rfl | (unfold odW; split <;> rfl) | (split <;> rfl))
        exact ⟨_, by rw [er], rfl, rfl⟩
    by_cases w_2_7 : z = nI 7
    · subst w_2_7
      refine ev_tabIn (off := 141) (tgt := 154) hC dX11_of_13 (by decide) (by decide) (by decide) (by decide) ?_
      refine ev_aload_n hC dX11_of_154 rfl 0 rfl ?_
      refine ev_get hC fl_X11_58_11 (mw 0 rfl) rfl dX11_of_155 ?_
      refine ev_iload_n hC dX11_of_158 rfl 1 rfl ?_
      refine ev_callV (As := [.int (nI pp)]) (st := []) (wf := (List.flatten [SP x r1 r2 r3 r4 r5 d b1 b2 b3 hi])) hC cv_X11_152 (m_X3_takesNow G ro b1 S tk le os t (r5 0) (-1) wa pp hW hO (by omega)) (by omega) rfl rfl (Nat.le_of_ble_eq_true rfl) (perm_sg (n := 2) [1, 0] rfl rfl (by decide)) (mw 1 rfl) rfl dX11_of_159 (by omega) (by omega) ?_
      rintro _ _ _ ⟨rfl, rfl, rfl⟩
      show Ev G X 0 0 162 [(0, .ref x), (1, .int (nI pp)), (2, .int (nI 7))] [.int (tkF (-1) S pp)] (List.flatten [MO G b1 (vwn S 2 6) tk os (vwn S 14 6) (vwn S 20 6) (vwn S 26 6) (vwn S 51 24) le (S 32) (bitF S) (S 0) (S 1) t (S 33) (-1) wa, SP x r1 r2 r3 r4 r5 d b1 b2 b3 hi]) ro
      refine ev_perm (ws' := (List.flatten [SP x r1 r2 r3 r4 r5 d b1 b2 b3 hi, MO G b1 (vwn S 2 6) tk os (vwn S 14 6) (vwn S 20 6) (vwn S 26 6) (vwn S 51 24) le (S 32) (bitF S) (S 0) (S 1) t (S 33) (-1) wa])) (perm_sg2 (n := 2) [1, 0] rfl rfl (by decide)) ?_
      refine ev_iret hC hR rfl dX11_of_162 ?_
      have er : ofR S (nI pp) (nI 7) = (tkF (-1) S pp) := by rw [ofR, if_pos ⟨by assumption, by decide⟩, hpn_pp, if_neg (by decide), if_neg (by decide), if_neg (by decide), if_neg (by decide), if_pos rfl]; exact (if_neg (nI_no (by omega))).symm
      exact ⟨_, by rw [er], rfl, rfl⟩
    refine ev_tabOut (tgt := 163) hC dX11_of_13 (sw_out (lo := 0) (hi := 7) (fun j h1 h2 => ?_)) (by decide) ?_
    · intro e
      have hj : j = 0 ∨ j = 1 ∨ j = 2 ∨ j = 3 ∨ j = 4 ∨ j = 5 ∨ j = 6 ∨ j = 7 := by omega
      rcases hj with rfl | rfl | rfl | rfl | rfl | rfl | rfl | rfl
      · exact w_2_0 (Int32.toInt_inj.mp (e.trans (by decide)))
      · exact w_2_1 (Int32.toInt_inj.mp (e.trans (by decide)))
      · exact w_2_2 (Int32.toInt_inj.mp (e.trans (by decide)))
      · exact w_2_3 (Int32.toInt_inj.mp (e.trans (by decide)))
      · exact w_2_4 (Int32.toInt_inj.mp (e.trans (by decide)))
      · exact w_2_5 (Int32.toInt_inj.mp (e.trans (by decide)))
      · exact w_2_6 (Int32.toInt_inj.mp (e.trans (by decide)))
      · exact w_2_7 (Int32.toInt_inj.mp (e.trans (by decide)))
    refine ev_sipush (v := (-10001)) hC dX11_of_163 (by decide) ?_
    refine ev_iret hC hR rfl dX11_of_166 ?_
    have er : ofR S (nI pp) z = -10001 := by
      rw [ofR]
      refine if_neg (fun z => ?_)
      obtain ⟨k, hk, rfl⟩ := inN (m := 7) (by omega) z.2
      rcases (show k = 0 ∨ k = 1 ∨ k = 2 ∨ k = 3 ∨ k = 4 ∨ k = 5 ∨ k = 6 ∨ k = 7 by omega) with rfl | rfl | rfl | rfl | rfl | rfl | rfl | rfl <;> contradiction
    exact ⟨_, by rw [er], rfl, rfl⟩
  · refine ev_sipush (v := (-10001)) hC dX11_of_8 (by decide) ?_
    refine ev_iret hC hR rfl dX11_of_11 ?_
    have er : ofR S y z = -10001 := by
      rw [ofR]
      refine if_neg (fun z => ?_)
      exact absurd z.1 (by assumption)
    exact ⟨_, by rw [er], rfl, rfl⟩
