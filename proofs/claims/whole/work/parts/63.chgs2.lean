set_option maxHeartbeats 4000000 in
set_option maxRecDepth 100000 in
theorem m_X11_salt (G : GG) (ro : va_W) (x : Nat) (r1 r2 r3 r4 r5 d b1 b2 b3 : Nat → Nat) (hi : Int32) (S tk le T tk3 le3 : Nat → Int32) (os os3 : Nat → Option Nat) (t t3 : Nat) (wa st3 wa3 : Int32) (y z : Int32) (hW : WF S 9999 9999) (hO : MoOK G ro (r5 0) S os t)  : Mth G M_X11_salt 8 0 0 [.ref x, .int y, .int z] (List.flatten [SP x r1 r2 r3 r4 r5 d b1 b2 b3 hi, MO G b1 (vwn S 2 6) tk os (vwn S 14 6) (vwn S 20 6) (vwn S 26 6) (vwn S 51 24) le (S 32) (bitF S) (S 0) (S 1) t (S 33) (-1) wa]) ro (fun r ws' ro' => r = some (.int (saltR S y z)) ∧ ws' = (List.flatten [SP x r1 r2 r3 r4 r5 d b1 b2 b3 hi, MO G b1 (vwn (saltT S y z) 2 6) tk os (vwn (saltT S y z) 14 6) (vwn (saltT S y z) 20 6) (vwn (saltT S y z) 26 6) (vwn (saltT S y z) 51 24) le ((saltT S y z) 32) (bitF (saltT S y z)) ((saltT S y z) 0) ((saltT S y z) 1) t ((saltT S y z) 33) (-1) wa]) ∧ ro = ro') := by
  refine mth_of (by decide +kernel) (Nat.le_of_ble_eq_true rfl) (fun X hC hR => ?_)
  have b32 := hW.peo.le
  show Ev G X 0 0 0 [(0, .ref x), (1, .int y), (2, .int z)] [] (List.flatten [SP x r1 r2 r3 r4 r5 d b1 b2 b3 hi, MO G b1 (vwn S 2 6) tk os (vwn S 14 6) (vwn S 20 6) (vwn S 26 6) (vwn S 51 24) le (S 32) (bitF S) (S 0) (S 1) t (S 33) (-1) wa]) ro
  refine ev_iload_n hC dX11_salt_0 rfl 1 rfl ?_
  refine ev_callS (As := [.int y]) (st := []) (wc := []) (wf := (List.flatten [SP x r1 r2 r3 r4 r5 d b1 b2 b3 hi, MO G b1 (vwn S 2 6) tk os (vwn S 14 6) (vwn S 20 6) (vwn S 26 6) (vwn S 51 24) le (S 32) (bitF S) (S 0) (S 1) t (S 33) (-1) wa])) hC ct_X11_104 (m_X11_isSide G ro y) (by omega) rfl rfl (Nat.le_of_ble_eq_true rfl) (List.Perm.refl _) dX11_salt_1 (by omega) (by omega) ?_
  rintro _ _ _ ⟨rfl, rfl, rfl⟩
  refine ev_ws (List.nil_append _) ?_
  show Ev G X 0 0 4 [(0, .ref x), (1, .int y), (2, .int z)] [.int (bI ((nI 0) ≤ y ∧ y ≤ (nI 5)))] (List.flatten [SP x r1 r2 r3 r4 r5 d b1 b2 b3 hi, MO G b1 (vwn S 2 6) tk os (vwn S 14 6) (vwn S 20 6) (vwn S 26 6) (vwn S 51 24) le (S 32) (bitF S) (S 0) (S 1) t (S 33) (-1) wa]) ro
  refine ev_if_neB (tgt := 9) hC dX11_salt_4 (by decide) (fun c_1 => ?_) (fun c_1 => ?_)
  · refine ev_iload_n hC dX11_salt_9 rfl 2 rfl ?_
    refine ev_iconst (v := (nI 0)) hC dX11_salt_10 (by decide) ?_
    refine ev_sipush (v := (nI 999)) hC dX11_salt_11 (by decide) ?_
    refine ev_callS (As := [.int z, .int (nI 0), .int (nI 999)]) (st := []) (wc := []) (wf := (List.flatten [SP x r1 r2 r3 r4 r5 d b1 b2 b3 hi, MO G b1 (vwn S 2 6) tk os (vwn S 14 6) (vwn S 20 6) (vwn S 26 6) (vwn S 51 24) le (S 32) (bitF S) (S 0) (S 1) t (S 33) (-1) wa])) hC ct_X11_68 (m_X11_isWithin G ro z (nI 0) (nI 999)) (by omega) rfl rfl (Nat.le_of_ble_eq_true rfl) (List.Perm.refl _) dX11_salt_14 (by omega) (by omega) ?_
    rintro _ _ _ ⟨rfl, rfl, rfl⟩
    refine ev_ws (List.nil_append _) ?_
    show Ev G X 0 0 17 [(0, .ref x), (1, .int y), (2, .int z)] [.int (bI ((nI 0) ≤ z ∧ z ≤ (nI 999)))] (List.flatten [SP x r1 r2 r3 r4 r5 d b1 b2 b3 hi, MO G b1 (vwn S 2 6) tk os (vwn S 14 6) (vwn S 20 6) (vwn S 26 6) (vwn S 51 24) le (S 32) (bitF S) (S 0) (S 1) t (S 33) (-1) wa]) ro
    refine ev_if_neB (tgt := 23) hC dX11_salt_17 (by decide) (fun c_2 => ?_) (fun c_2 => ?_)
    · obtain ⟨kk, hkk, rfl⟩ := inN (m := 5) (by omega) (by assumption)
      have hpn_kk : pn (nI kk) = kk := nI_clamp (by omega)
      refine ev_aload_n hC dX11_salt_23 rfl 0 rfl ?_
      refine ev_get hC fl_X11_58_11 (mw 0 rfl) rfl dX11_salt_24 ?_
      refine ev_get hC fl_X11_158_3 (mw 1 rfl) rfl dX11_salt_27 ?_
      refine ev_iload_n hC dX11_salt_30 rfl 1 rfl ?_
      refine ev_ialdN (i := kk) hC (mw 2 rfl) (by omega) (by omega) dX11_salt_31 ?_
      refine ev_top (y := (S (2 + kk))) (vwn_at (by omega)) ?_
      refine ev_istore_n (lv' := [(3, .int (S (2 + kk))), (0, .ref x), (1, .int (nI kk)), (2, .int z)]) hC dX11_salt_32 rfl (by decide) rfl ?_
      refine ev_aload_n hC dX11_salt_33 rfl 1 rfl ?_
      refine ev_get hC fl_X11_58_11 (mw 0 rfl) rfl dX11_salt_34 ?_
      refine ev_get hC fl_X11_158_3 (mw 1 rfl) rfl dX11_salt_37 ?_
      refine ev_iload_n hC dX11_salt_40 rfl 2 rfl ?_
      refine ev_iload_n hC dX11_salt_41 rfl 3 rfl ?_
      refine ev_iastN (i := kk) (ws' := (List.flatten [SP x r1 r2 r3 r4 r5 d b1 b2 b3 hi, MO G b1 (upd (vwn S 2 6) kk z) tk os (vwn S 14 6) (vwn S 20 6) (vwn S 26 6) (vwn S 51 24) le (S 32) (bitF S) (S 0) (S 1) t (S 33) (-1) wa])) (q0 := 2) hC rfl (by omega) (by omega) rfl dX11_salt_42 ?_
      refine ev_ws (ws' := (List.flatten [SP x r1 r2 r3 r4 r5 d b1 b2 b3 hi, MO G b1 (vwn (upd S (2 + kk) z) 2 6) tk os (vwn (upd S (2 + kk) z) 14 6) (vwn (upd S (2 + kk) z) 20 6) (vwn (upd S (2 + kk) z) 26 6) (vwn (upd S (2 + kk) z) 51 24) le ((upd S (2 + kk) z) 32) (bitF (upd S (2 + kk) z)) ((upd S (2 + kk) z) 0) ((upd S (2 + kk) z) 1) t ((upd S (2 + kk) z) 33) (-1) wa])) (by rw [show (MO G b1 (upd (vwn S 2 6) kk z) tk os (vwn S 14 6) (vwn S 20 6) (vwn S 26 6) (vwn S 51 24) le (S 32) (bitF S) (S 0) (S 1) t (S 33) (-1) wa) = (MO G b1 (vwn (upd S (2 + kk) z) 2 6) tk os (vwn (upd S (2 + kk) z) 14 6) (vwn (upd S (2 + kk) z) 20 6) (vwn (upd S (2 + kk) z) 26 6) (vwn (upd S (2 + kk) z) 51 24) le ((upd S (2 + kk) z) 32) (bitF (upd S (2 + kk) z)) ((upd S (2 + kk) z) 0) ((upd S (2 + kk) z) 1) t ((upd S (2 + kk) z) 33) (-1) wa) from mo_eq (by rw [← vwn_upd (by omega)]) rfl rfl (by rw [vwn_ne (o := 14) (n := 6) (by omega)]) (by rw [vwn_ne (o := 20) (n := 6) (by omega)]) (by rw [vwn_ne (o := 26) (n := 6) (by omega)]) (by rw [vwn_ne (o := 51) (n := 24) (by omega)]) rfl (by rw [upd_ne _ _ (by omega)]) (by rw [bitF_ne (by omega)]) (by rw [upd_ne _ _ (by omega)]) (by rw [upd_ne _ _ (by omega)]) (by rw [upd_ne _ _ (by omega)]) rfl rfl]) ?_
      refine ev_iload_n hC dX11_salt_43 rfl 0 rfl ?_
      refine ev_iret hC hR rfl dX11_salt_44 ?_
      have eR : saltR S (nI kk) z = (S (2 + kk)) := by rw [saltR, if_pos (by assumption), if_pos (by assumption), hpn_kk]
      have eT : saltT S (nI kk) z = upd S (2 + kk) z := by rw [saltT, if_pos (by assumption), if_pos (by assumption), hpn_kk]
      exact ⟨by rw [eR], by rw [eT], rfl⟩
    · refine ev_bipush (v := (-2)) hC dX11_salt_20 (by decide) ?_
      refine ev_iret hC hR rfl dX11_salt_22 ?_
      have eR : saltR S y z = (-2) := by rw [saltR, if_pos (by assumption), if_neg (by assumption)]
      have eT : saltT S y z = S := by rw [saltT, if_pos (by assumption), if_neg (by assumption)]
      exact ⟨by rw [eR], by rw [eT], rfl⟩
  · refine ev_iconst (v := (-1)) hC dX11_salt_7 (by decide) ?_
    refine ev_iret hC hR rfl dX11_salt_8 ?_
    have eR : saltR S y z = (-1) := by rw [saltR, if_neg (by assumption)]
    have eT : saltT S y z = S := by rw [saltT, if_neg (by assumption)]
    exact ⟨by rw [eR], by rw [eT], rfl⟩

set_option maxHeartbeats 4000000 in
set_option maxRecDepth 100000 in
theorem m_X11_set (G : GG) (ro : va_W) (x : Nat) (r1 r2 r3 r4 r5 d b1 b2 b3 : Nat → Nat) (hi : Int32) (S tk le T tk3 le3 : Nat → Int32) (os os3 : Nat → Option Nat) (t t3 : Nat) (wa st3 wa3 : Int32) (y w z : Int32) (hW : WF S 9999 9999) (hO : MoOK G ro (r5 0) S os t)  : Mth G M_X11_set 8 0 0 [.ref x, .int y, .int w, .int z] (List.flatten [SP x r1 r2 r3 r4 r5 d b1 b2 b3 hi, MO G b1 (vwn S 2 6) tk os (vwn S 14 6) (vwn S 20 6) (vwn S 26 6) (vwn S 51 24) le (S 32) (bitF S) (S 0) (S 1) t (S 33) (-1) wa]) ro (fun r ws' ro' => r = some (.int (setR S y w z)) ∧ ws' = (List.flatten [SP x r1 r2 r3 r4 r5 d b1 b2 b3 hi, MO G b1 (vwn (setT S y w z) 2 6) tk os (vwn (setT S y w z) 14 6) (vwn (setT S y w z) 20 6) (vwn (setT S y w z) 26 6) (vwn (setT S y w z) 51 24) le ((setT S y w z) 32) (bitF (setT S y w z)) ((setT S y w z) 0) ((setT S y w z) 1) t ((setT S y w z) 33) (-1) wa]) ∧ ro = ro') := by
  refine mth_of (by decide +kernel) (Nat.le_of_ble_eq_true rfl) (fun X hC hR => ?_)
  have b32 := hW.peo.le
  show Ev G X 0 0 0 [(0, .ref x), (1, .int y), (2, .int w), (3, .int z)] [] (List.flatten [SP x r1 r2 r3 r4 r5 d b1 b2 b3 hi, MO G b1 (vwn S 2 6) tk os (vwn S 14 6) (vwn S 20 6) (vwn S 26 6) (vwn S 51 24) le (S 32) (bitF S) (S 0) (S 1) t (S 33) (-1) wa]) ro
  refine ev_aload_n hC dX11_set_0 rfl 0 rfl ?_
  refine ev_iload_n hC dX11_set_1 rfl 1 rfl ?_
  refine ev_callV (As := [.int y]) (st := []) (wf := (List.flatten [])) hC cv_X11_118 (m_X11_isPerson G ro x r1 r2 r3 r4 r5 d b1 b2 b3 hi S tk le os t (-1) wa y) (by omega) rfl rfl (Nat.le_of_ble_eq_true rfl) (perm_sg (n := 2) [0, 1] rfl rfl (by decide)) (mw 0 rfl) rfl dX11_set_2 (by omega) (by omega) ?_
  rintro _ _ _ ⟨rfl, rfl, rfl⟩
  show Ev G X 0 0 5 [(0, .ref x), (1, .int y), (2, .int w), (3, .int z)] [.int (bI ((nI 0) ≤ y ∧ y ≤ (S 32 - nI 1)))] (List.flatten [SP x r1 r2 r3 r4 r5 d b1 b2 b3 hi, MO G b1 (vwn S 2 6) tk os (vwn S 14 6) (vwn S 20 6) (vwn S 26 6) (vwn S 51 24) le (S 32) (bitF S) (S 0) (S 1) t (S 33) (-1) wa]) ro
  refine ev_if_eqB (tgt := 17) hC dX11_set_5 (by decide) (fun c_1 => ?_) (fun c_1 => ?_)
  · refine ev_iconst (v := (-1)) hC dX11_set_17 (by decide) ?_
    refine ev_iret hC hR rfl dX11_set_18 ?_
    have eR : setR S y w z = (-1) := by rw [setR, if_neg (fun h => by first | exact absurd h.1 (by assumption) | exact absurd h.2 (by assumption))]
    have eT : setT S y w z = S := by rw [setT, if_neg (fun h => by first | exact absurd h.1 (by assumption) | exact absurd h.2 (by assumption))]
    exact ⟨by rw [eR], by rw [eT], rfl⟩
  · refine ev_iload_n hC dX11_set_8 rfl 2 rfl ?_
    refine ev_iconst (v := (nI 0)) hC dX11_set_9 (by decide) ?_
    refine ev_iconst (v := (nI 1)) hC dX11_set_10 (by decide) ?_
    refine ev_callS (As := [.int w, .int (nI 0), .int (nI 1)]) (st := []) (wc := []) (wf := (List.flatten [SP x r1 r2 r3 r4 r5 d b1 b2 b3 hi, MO G b1 (vwn S 2 6) tk os (vwn S 14 6) (vwn S 20 6) (vwn S 26 6) (vwn S 51 24) le (S 32) (bitF S) (S 0) (S 1) t (S 33) (-1) wa])) hC ct_X11_68 (m_X11_isWithin G ro w (nI 0) (nI 1)) (by omega) rfl rfl (Nat.le_of_ble_eq_true rfl) (List.Perm.refl _) dX11_set_11 (by omega) (by omega) ?_
    rintro _ _ _ ⟨rfl, rfl, rfl⟩
    refine ev_ws (List.nil_append _) ?_
    show Ev G X 0 0 14 [(0, .ref x), (1, .int y), (2, .int w), (3, .int z)] [.int (bI ((nI 0) ≤ w ∧ w ≤ (nI 1)))] (List.flatten [SP x r1 r2 r3 r4 r5 d b1 b2 b3 hi, MO G b1 (vwn S 2 6) tk os (vwn S 14 6) (vwn S 20 6) (vwn S 26 6) (vwn S 51 24) le (S 32) (bitF S) (S 0) (S 1) t (S 33) (-1) wa]) ro
    refine ev_if_neB (tgt := 19) hC dX11_set_14 (by decide) (fun c_2 => ?_) (fun c_2 => ?_)
    · obtain ⟨pp, hpp, rfl⟩ := isP hW (by assumption)
      have hpn_pp : pn (nI pp) = pp := nI_clamp (by omega)
      obtain ⟨wk, hwk, rfl⟩ := inN (m := 1) (by omega) (by assumption)
      rcases (show wk = 0 ∨ wk = 1 by omega) with rfl | rfl
      · refine ev_iload_n hC dX11_set_19 rfl 3 rfl ?_
        refine ev_iconst (v := (nI 0)) hC dX11_set_20 (by decide) ?_
        refine ev_iload_n hC dX11_set_21 rfl 2 rfl ?_
        refine ev_if_neN (tgt := 29) hC dX11_set_22 (by decide) (by omega) (fun c_3 => absurd c_3 (by omega)) (fun c_3 => ?_)
        refine ev_iconst (v := (nI 5)) hC dX11_set_25 (by decide) ?_
        refine ev_goto (tgt := 31) hC dX11_set_26 (by decide) ?_
        refine ev_callS (As := [.int z, .int (nI 0), .int (nI 5)]) (st := []) (wc := []) (wf := (List.flatten [SP x r1 r2 r3 r4 r5 d b1 b2 b3 hi, MO G b1 (vwn S 2 6) tk os (vwn S 14 6) (vwn S 20 6) (vwn S 26 6) (vwn S 51 24) le (S 32) (bitF S) (S 0) (S 1) t (S 33) (-1) wa])) hC ct_X11_68 (m_X11_isWithin G ro z (nI 0) (nI 5)) (by omega) rfl rfl (Nat.le_of_ble_eq_true rfl) (List.Perm.refl _) dX11_set_31 (by omega) (by omega) ?_
        rintro _ _ _ ⟨rfl, rfl, rfl⟩
        refine ev_ws (List.nil_append _) ?_
        show Ev G X 0 0 34 [(0, .ref x), (1, .int (nI pp)), (2, .int (nI 0)), (3, .int z)] [.int (bI ((nI 0) ≤ z ∧ z ≤ (nI 5)))] (List.flatten [SP x r1 r2 r3 r4 r5 d b1 b2 b3 hi, MO G b1 (vwn S 2 6) tk os (vwn S 14 6) (vwn S 20 6) (vwn S 26 6) (vwn S 51 24) le (S 32) (bitF S) (S 0) (S 1) t (S 33) (-1) wa]) ro
        refine ev_if_neB (tgt := 40) hC dX11_set_34 (by decide) (fun c_4 => ?_) (fun c_4 => ?_)
        · refine ev_iload_n hC dX11_set_40 rfl 2 rfl ?_
          refine ev_if_neN (tgt := 54) hC dX11_set_41 (by decide) (by omega) (fun c_5 => absurd c_5 (by omega)) (fun c_5 => ?_)
          refine ev_aload_n hC dX11_set_44 rfl 0 rfl ?_
          refine ev_get hC fl_X11_58_11 (mw 0 rfl) rfl dX11_set_45 ?_
          refine ev_get hC fl_X11_131_3 (mw 1 rfl) rfl dX11_set_48 ?_
          refine ev_goto (tgt := 61) hC dX11_set_51 (by decide) ?_
          refine ev_astore (lv' := [(4, .ref (b1 4)), (0, .ref x), (1, .int (nI pp)), (2, .int (nI 0)), (3, .int z)]) hC dX11_set_61 (by decide) rfl ?_
          refine ev_aload hC dX11_set_63 0 rfl ?_
          refine ev_iload_n hC dX11_set_65 rfl 2 rfl ?_
          refine ev_ialdN (i := pp) hC (mw 5 rfl) (by omega) (by omega) dX11_set_66 ?_
          refine ev_top (y := (S (14 + pp))) (vwn_at (by omega)) ?_
          refine ev_istore (lv' := [(5, .int (S (14 + pp))), (4, .ref (b1 4)), (0, .ref x), (1, .int (nI pp)), (2, .int (nI 0)), (3, .int z)]) hC dX11_set_67 (by decide) rfl ?_
          refine ev_aload hC dX11_set_69 1 rfl ?_
          refine ev_iload_n hC dX11_set_71 rfl 3 rfl ?_
          refine ev_iload_n hC dX11_set_72 rfl 5 rfl ?_
          refine ev_iastN (i := pp) (ws' := (List.flatten [SP x r1 r2 r3 r4 r5 d b1 b2 b3 hi, MO G b1 (vwn S 2 6) tk os (upd (vwn S 14 6) pp z) (vwn S 20 6) (vwn S 26 6) (vwn S 51 24) le (S 32) (bitF S) (S 0) (S 1) t (S 33) (-1) wa])) (q0 := 5) hC rfl (by omega) (by omega) rfl dX11_set_73 ?_
          refine ev_ws (ws' := (List.flatten [SP x r1 r2 r3 r4 r5 d b1 b2 b3 hi, MO G b1 (vwn (upd S (14 + pp) z) 2 6) tk os (vwn (upd S (14 + pp) z) 14 6) (vwn (upd S (14 + pp) z) 20 6) (vwn (upd S (14 + pp) z) 26 6) (vwn (upd S (14 + pp) z) 51 24) le ((upd S (14 + pp) z) 32) (bitF (upd S (14 + pp) z)) ((upd S (14 + pp) z) 0) ((upd S (14 + pp) z) 1) t ((upd S (14 + pp) z) 33) (-1) wa])) (by rw [show (MO G b1 (vwn S 2 6) tk os (upd (vwn S 14 6) pp z) (vwn S 20 6) (vwn S 26 6) (vwn S 51 24) le (S 32) (bitF S) (S 0) (S 1) t (S 33) (-1) wa) = (MO G b1 (vwn (upd S (14 + pp) z) 2 6) tk os (vwn (upd S (14 + pp) z) 14 6) (vwn (upd S (14 + pp) z) 20 6) (vwn (upd S (14 + pp) z) 26 6) (vwn (upd S (14 + pp) z) 51 24) le ((upd S (14 + pp) z) 32) (bitF (upd S (14 + pp) z)) ((upd S (14 + pp) z) 0) ((upd S (14 + pp) z) 1) t ((upd S (14 + pp) z) 33) (-1) wa) from mo_eq (by rw [vwn_ne (o := 2) (n := 6) (by omega)]) rfl rfl (by rw [← vwn_upd (by omega)]) (by rw [vwn_ne (o := 20) (n := 6) (by omega)]) (by rw [vwn_ne (o := 26) (n := 6) (by omega)]) (by rw [vwn_ne (o := 51) (n := 24) (by omega)]) rfl (by rw [upd_ne _ _ (by omega)]) (by rw [bitF_ne (by omega)]) (by rw [upd_ne _ _ (by omega)]) (by rw [upd_ne _ _ (by omega)]) (by rw [upd_ne _ _ (by omega)]) rfl rfl]) ?_
          refine ev_iload hC dX11_set_74 0 rfl ?_
          refine ev_iret hC hR rfl dX11_set_76 ?_
          have eR : setR S (nI pp) (nI 0) z = (S (14 + pp)) := by rw [setR, if_pos ⟨by assumption, by assumption⟩, show (if nI 0 = nI 0 then nI 5 else nI 99) = nI 5 from if_pos rfl, if_pos (by assumption), hpn_pp, show 14 + 6 * pn (nI 0) + pp = 14 + pp by rw [show pn (nI 0) = 0 from rfl]]
          have eT : setT S (nI pp) (nI 0) z = upd S (14 + pp) z := by rw [setT, if_pos ⟨by assumption, by assumption⟩, show (if nI 0 = nI 0 then nI 5 else nI 99) = nI 5 from if_pos rfl, if_pos (by assumption), hpn_pp, show 14 + 6 * pn (nI 0) + pp = 14 + pp by rw [show pn (nI 0) = 0 from rfl]]
          exact ⟨by rw [eR], by rw [eT], rfl⟩
        · refine ev_bipush (v := (-2)) hC dX11_set_37 (by decide) ?_
          refine ev_iret hC hR rfl dX11_set_39 ?_
          have eR : setR S (nI pp) (nI 0) z = (-2) := by rw [setR, if_pos ⟨by assumption, by assumption⟩, show (if nI 0 = nI 0 then nI 5 else nI 99) = nI 5 from if_pos rfl, if_neg (by assumption)]
          have eT : setT S (nI pp) (nI 0) z = S := by rw [setT, if_pos ⟨by assumption, by assumption⟩, show (if nI 0 = nI 0 then nI 5 else nI 99) = nI 5 from if_pos rfl, if_neg (by assumption)]
          exact ⟨by rw [eR], by rw [eT], rfl⟩
      · refine ev_iload_n hC dX11_set_19 rfl 3 rfl ?_
        refine ev_iconst (v := (nI 0)) hC dX11_set_20 (by decide) ?_
        refine ev_iload_n hC dX11_set_21 rfl 2 rfl ?_
        refine ev_if_neN (tgt := 29) hC dX11_set_22 (by decide) (by omega) (fun c_6 => ?_) (fun c_6 => absurd c_6 (by omega))
        refine ev_bipush (v := (nI 99)) hC dX11_set_29 (by decide) ?_
        refine ev_callS (As := [.int z, .int (nI 0), .int (nI 99)]) (st := []) (wc := []) (wf := (List.flatten [SP x r1 r2 r3 r4 r5 d b1 b2 b3 hi, MO G b1 (vwn S 2 6) tk os (vwn S 14 6) (vwn S 20 6) (vwn S 26 6) (vwn S 51 24) le (S 32) (bitF S) (S 0) (S 1) t (S 33) (-1) wa])) hC ct_X11_68 (m_X11_isWithin G ro z (nI 0) (nI 99)) (by omega) rfl rfl (Nat.le_of_ble_eq_true rfl) (List.Perm.refl _) dX11_set_31 (by omega) (by omega) ?_
        rintro _ _ _ ⟨rfl, rfl, rfl⟩
        refine ev_ws (List.nil_append _) ?_
        show Ev G X 0 0 34 [(0, .ref x), (1, .int (nI pp)), (2, .int (nI 1)), (3, .int z)] [.int (bI ((nI 0) ≤ z ∧ z ≤ (nI 99)))] (List.flatten [SP x r1 r2 r3 r4 r5 d b1 b2 b3 hi, MO G b1 (vwn S 2 6) tk os (vwn S 14 6) (vwn S 20 6) (vwn S 26 6) (vwn S 51 24) le (S 32) (bitF S) (S 0) (S 1) t (S 33) (-1) wa]) ro
        refine ev_if_neB (tgt := 40) hC dX11_set_34 (by decide) (fun c_7 => ?_) (fun c_7 => ?_)
        · refine ev_iload_n hC dX11_set_40 rfl 2 rfl ?_
          refine ev_if_neN (tgt := 54) hC dX11_set_41 (by decide) (by omega) (fun c_8 => ?_) (fun c_8 => absurd c_8 (by omega))
          refine ev_aload_n hC dX11_set_54 rfl 0 rfl ?_
          refine ev_get hC fl_X11_58_11 (mw 0 rfl) rfl dX11_set_55 ?_
          refine ev_get hC fl_X11_135_3 (mw 1 rfl) rfl dX11_set_58 ?_
          refine ev_astore (lv' := [(4, .ref (b1 5)), (0, .ref x), (1, .int (nI pp)), (2, .int (nI 1)), (3, .int z)]) hC dX11_set_61 (by decide) rfl ?_
          refine ev_aload hC dX11_set_63 0 rfl ?_
          refine ev_iload_n hC dX11_set_65 rfl 2 rfl ?_
          refine ev_ialdN (i := pp) hC (mw 6 rfl) (by omega) (by omega) dX11_set_66 ?_
          refine ev_top (y := (S (20 + pp))) (vwn_at (by omega)) ?_
          refine ev_istore (lv' := [(5, .int (S (20 + pp))), (4, .ref (b1 5)), (0, .ref x), (1, .int (nI pp)), (2, .int (nI 1)), (3, .int z)]) hC dX11_set_67 (by decide) rfl ?_
          refine ev_aload hC dX11_set_69 1 rfl ?_
          refine ev_iload_n hC dX11_set_71 rfl 3 rfl ?_
          refine ev_iload_n hC dX11_set_72 rfl 5 rfl ?_
          refine ev_iastN (i := pp) (ws' := (List.flatten [SP x r1 r2 r3 r4 r5 d b1 b2 b3 hi, MO G b1 (vwn S 2 6) tk os (vwn S 14 6) (upd (vwn S 20 6) pp z) (vwn S 26 6) (vwn S 51 24) le (S 32) (bitF S) (S 0) (S 1) t (S 33) (-1) wa])) (q0 := 6) hC rfl (by omega) (by omega) rfl dX11_set_73 ?_
          refine ev_ws (ws' := (List.flatten [SP x r1 r2 r3 r4 r5 d b1 b2 b3 hi, MO G b1 (vwn (upd S (20 + pp) z) 2 6) tk os (vwn (upd S (20 + pp) z) 14 6) (vwn (upd S (20 + pp) z) 20 6) (vwn (upd S (20 + pp) z) 26 6) (vwn (upd S (20 + pp) z) 51 24) le ((upd S (20 + pp) z) 32) (bitF (upd S (20 + pp) z)) ((upd S (20 + pp) z) 0) ((upd S (20 + pp) z) 1) t ((upd S (20 + pp) z) 33) (-1) wa])) (by rw [show (MO G b1 (vwn S 2 6) tk os (vwn S 14 6) (upd (vwn S 20 6) pp z) (vwn S 26 6) (vwn S 51 24) le (S 32) (bitF S) (S 0) (S 1) t (S 33) (-1) wa) = (MO G b1 (vwn (upd S (20 + pp) z) 2 6) tk os (vwn (upd S (20 + pp) z) 14 6) (vwn (upd S (20 + pp) z) 20 6) (vwn (upd S (20 + pp) z) 26 6) (vwn (upd S (20 + pp) z) 51 24) le ((upd S (20 + pp) z) 32) (bitF (upd S (20 + pp) z)) ((upd S (20 + pp) z) 0) ((upd S (20 + pp) z) 1) t ((upd S (20 + pp) z) 33) (-1) wa) from mo_eq (by rw [vwn_ne (o := 2) (n := 6) (by omega)]) rfl rfl (by rw [vwn_ne (o := 14) (n := 6) (by omega)]) (by rw [← vwn_upd (by omega)]) (by rw [vwn_ne (o := 26) (n := 6) (by omega)]) (by rw [vwn_ne (o := 51) (n := 24) (by omega)]) rfl (by rw [upd_ne _ _ (by omega)]) (by rw [bitF_ne (by omega)]) (by rw [upd_ne _ _ (by omega)]) (by rw [upd_ne _ _ (by omega)]) (by rw [upd_ne _ _ (by omega)]) rfl rfl]) ?_
          refine ev_iload hC dX11_set_74 0 rfl ?_
          refine ev_iret hC hR rfl dX11_set_76 ?_
          have eR : setR S (nI pp) (nI 1) z = (S (20 + pp)) := by rw [setR, if_pos ⟨by assumption, by assumption⟩, show (if nI 1 = nI 0 then nI 5 else nI 99) = nI 99 from if_neg (by decide), if_pos (by assumption), hpn_pp, show 14 + 6 * pn (nI 1) + pp = 20 + pp by rw [show pn (nI 1) = 1 from rfl]]
          have eT : setT S (nI pp) (nI 1) z = upd S (20 + pp) z := by rw [setT, if_pos ⟨by assumption, by assumption⟩, show (if nI 1 = nI 0 then nI 5 else nI 99) = nI 99 from if_neg (by decide), if_pos (by assumption), hpn_pp, show 14 + 6 * pn (nI 1) + pp = 20 + pp by rw [show pn (nI 1) = 1 from rfl]]
          exact ⟨by rw [eR], by rw [eT], rfl⟩
        · refine ev_bipush (v := (-2)) hC dX11_set_37 (by decide) ?_
          refine ev_iret hC hR rfl dX11_set_39 ?_
          have eR : setR S (nI pp) (nI 1) z = (-2) := by rw [setR, if_pos ⟨by assumption, by assumption⟩, show (if nI 1 = nI 0 then nI 5 else nI 99) = nI 99 from if_neg (by decide), if_neg (by assumption)]
          have eT : setT S (nI pp) (nI 1) z = S := by rw [setT, if_pos ⟨by assumption, by assumption⟩, show (if nI 1 = nI 0 then nI 5 else nI 99) = nI 99 from if_neg (by decide), if_neg (by assumption)]
          exact ⟨by rw [eR], by rw [eT], rfl⟩
    · refine ev_iconst (v := (-1)) hC dX11_set_17 (by decide) ?_
      refine ev_iret hC hR rfl dX11_set_18 ?_
      have eR : setR S y w z = (-1) := by rw [setR, if_neg (fun h => by first | exact absurd h.1 (by assumption) | exact absurd h.2 (by assumption))]
      have eT : setT S y w z = S := by rw [setT, if_neg (fun h => by first | exact absurd h.1 (by assumption) | exact absurd h.2 (by assumption))]
      exact ⟨by rw [eR], by rw [eT], rfl⟩

set_option maxHeartbeats 4000000 in
set_option maxRecDepth 100000 in
theorem m_X11_row (G : GG) (ro : va_W) (x : Nat) (r1 r2 r3 r4 r5 d b1 b2 b3 : Nat → Nat) (hi : Int32) (S tk le T tk3 le3 : Nat → Int32) (os os3 : Nat → Option Nat) (t t3 : Nat) (wa st3 wa3 : Int32) (y w z : Int32) (hW : WF S 9999 9999) (hO : MoOK G ro (r5 0) S os t)  : Mth G M_X11_row 8 0 0 [.ref x, .int y, .int w, .int z] (List.flatten [SP x r1 r2 r3 r4 r5 d b1 b2 b3 hi, MO G b1 (vwn S 2 6) tk os (vwn S 14 6) (vwn S 20 6) (vwn S 26 6) (vwn S 51 24) le (S 32) (bitF S) (S 0) (S 1) t (S 33) (-1) wa]) ro (fun r ws' ro' => r = some (.int (rowR S y w z)) ∧ ws' = (List.flatten [SP x r1 r2 r3 r4 r5 d b1 b2 b3 hi, MO G b1 (vwn (rowT S y w z) 2 6) tk os (vwn (rowT S y w z) 14 6) (vwn (rowT S y w z) 20 6) (vwn (rowT S y w z) 26 6) (vwn (rowT S y w z) 51 24) le ((rowT S y w z) 32) (bitF (rowT S y w z)) ((rowT S y w z) 0) ((rowT S y w z) 1) t ((rowT S y w z) 33) (-1) wa]) ∧ ro = ro') := by
  refine mth_of (by decide +kernel) (Nat.le_of_ble_eq_true rfl) (fun X hC hR => ?_)
  have b32 := hW.peo.le
  show Ev G X 0 0 0 [(0, .ref x), (1, .int y), (2, .int w), (3, .int z)] [] (List.flatten [SP x r1 r2 r3 r4 r5 d b1 b2 b3 hi, MO G b1 (vwn S 2 6) tk os (vwn S 14 6) (vwn S 20 6) (vwn S 26 6) (vwn S 51 24) le (S 32) (bitF S) (S 0) (S 1) t (S 33) (-1) wa]) ro
  refine ev_aload_n hC dX11_row_0 rfl 0 rfl ?_
  refine ev_iload_n hC dX11_row_1 rfl 1 rfl ?_
  refine ev_callV (As := [.int y]) (st := []) (wf := (List.flatten [])) hC cv_X11_118 (m_X11_isPerson G ro x r1 r2 r3 r4 r5 d b1 b2 b3 hi S tk le os t (-1) wa y) (by omega) rfl rfl (Nat.le_of_ble_eq_true rfl) (perm_sg (n := 2) [0, 1] rfl rfl (by decide)) (mw 0 rfl) rfl dX11_row_2 (by omega) (by omega) ?_
  rintro _ _ _ ⟨rfl, rfl, rfl⟩
  show Ev G X 0 0 5 [(0, .ref x), (1, .int y), (2, .int w), (3, .int z)] [.int (bI ((nI 0) ≤ y ∧ y ≤ (S 32 - nI 1)))] (List.flatten [SP x r1 r2 r3 r4 r5 d b1 b2 b3 hi, MO G b1 (vwn S 2 6) tk os (vwn S 14 6) (vwn S 20 6) (vwn S 26 6) (vwn S 51 24) le (S 32) (bitF S) (S 0) (S 1) t (S 33) (-1) wa]) ro
  refine ev_if_eqB (tgt := 17) hC dX11_row_5 (by decide) (fun c_1 => ?_) (fun c_1 => ?_)
  · refine ev_iconst (v := (-1)) hC dX11_row_17 (by decide) ?_
    refine ev_iret hC hR rfl dX11_row_18 ?_
    have eR : rowR S y w z = (-1) := by rw [rowR, if_neg (fun h => by first | exact absurd h.1 (by assumption) | exact absurd h.2 (by assumption))]
    have eT : rowT S y w z = S := by rw [rowT, if_neg (fun h => by first | exact absurd h.1 (by assumption) | exact absurd h.2 (by assumption))]
    exact ⟨by rw [eR], by rw [eT], rfl⟩
  · refine ev_iload_n hC dX11_row_8 rfl 2 rfl ?_
    refine ev_iconst (v := (nI 0)) hC dX11_row_9 (by decide) ?_
    refine ev_iconst (v := (nI 3)) hC dX11_row_10 (by decide) ?_
    refine ev_callS (As := [.int w, .int (nI 0), .int (nI 3)]) (st := []) (wc := []) (wf := (List.flatten [SP x r1 r2 r3 r4 r5 d b1 b2 b3 hi, MO G b1 (vwn S 2 6) tk os (vwn S 14 6) (vwn S 20 6) (vwn S 26 6) (vwn S 51 24) le (S 32) (bitF S) (S 0) (S 1) t (S 33) (-1) wa])) hC ct_X11_68 (m_X11_isWithin G ro w (nI 0) (nI 3)) (by omega) rfl rfl (Nat.le_of_ble_eq_true rfl) (List.Perm.refl _) dX11_row_11 (by omega) (by omega) ?_
    rintro _ _ _ ⟨rfl, rfl, rfl⟩
    refine ev_ws (List.nil_append _) ?_
    show Ev G X 0 0 14 [(0, .ref x), (1, .int y), (2, .int w), (3, .int z)] [.int (bI ((nI 0) ≤ w ∧ w ≤ (nI 3)))] (List.flatten [SP x r1 r2 r3 r4 r5 d b1 b2 b3 hi, MO G b1 (vwn S 2 6) tk os (vwn S 14 6) (vwn S 20 6) (vwn S 26 6) (vwn S 51 24) le (S 32) (bitF S) (S 0) (S 1) t (S 33) (-1) wa]) ro
    refine ev_if_neB (tgt := 19) hC dX11_row_14 (by decide) (fun c_2 => ?_) (fun c_2 => ?_)
    · refine ev_iload_n hC dX11_row_19 rfl 3 rfl ?_
      refine ev_iconst (v := (nI 0)) hC dX11_row_20 (by decide) ?_
      refine ev_bipush (v := (nI 9)) hC dX11_row_21 (by decide) ?_
      refine ev_callS (As := [.int z, .int (nI 0), .int (nI 9)]) (st := []) (wc := []) (wf := (List.flatten [SP x r1 r2 r3 r4 r5 d b1 b2 b3 hi, MO G b1 (vwn S 2 6) tk os (vwn S 14 6) (vwn S 20 6) (vwn S 26 6) (vwn S 51 24) le (S 32) (bitF S) (S 0) (S 1) t (S 33) (-1) wa])) hC ct_X11_68 (m_X11_isWithin G ro z (nI 0) (nI 9)) (by omega) rfl rfl (Nat.le_of_ble_eq_true rfl) (List.Perm.refl _) dX11_row_23 (by omega) (by omega) ?_
      rintro _ _ _ ⟨rfl, rfl, rfl⟩
      refine ev_ws (List.nil_append _) ?_
      show Ev G X 0 0 26 [(0, .ref x), (1, .int y), (2, .int w), (3, .int z)] [.int (bI ((nI 0) ≤ z ∧ z ≤ (nI 9)))] (List.flatten [SP x r1 r2 r3 r4 r5 d b1 b2 b3 hi, MO G b1 (vwn S 2 6) tk os (vwn S 14 6) (vwn S 20 6) (vwn S 26 6) (vwn S 51 24) le (S 32) (bitF S) (S 0) (S 1) t (S 33) (-1) wa]) ro
      refine ev_if_neB (tgt := 32) hC dX11_row_26 (by decide) (fun c_3 => ?_) (fun c_3 => ?_)
      · obtain ⟨pp, hpp, rfl⟩ := isP hW (by assumption)
        have hpn_pp : pn (nI pp) = pp := nI_clamp (by omega)
        obtain ⟨kk, hkk, rfl⟩ := inN (m := 3) (by omega) (by assumption)
        have hpn_kk : pn (nI kk) = kk := nI_clamp (by omega)
        refine ev_aload_n hC dX11_row_32 rfl 0 rfl ?_
        refine ev_get hC fl_X11_58_11 (mw 0 rfl) rfl dX11_row_33 ?_
        refine ev_get hC fl_X11_121_3 (mw 1 rfl) rfl dX11_row_36 ?_
        refine ev_iload_n hC dX11_row_39 rfl 1 rfl ?_
        obtain ⟨r, hr1, hr2⟩ := hO.1 pp (by omega)
        obtain ⟨kd, hkd⟩ : ∃ kd, kd = sn S (39 + pp) := ⟨_, rfl⟩
        rw [← hkd] at hr2
        have hk6 : kd ≤ 6 := by rw [hkd]; exact (hW.kind pp (by omega)).le
        have hv9 := (hW.v pp (by omega)).le
        rcases (show kd = 0 ∨ kd = 1 ∨ kd = 2 ∨ kd = 3 ∨ kd = 4 ∨ kd = 5 ∨ kd = 6 by omega) with rfl | rfl | rfl | rfl | rfl | rfl | rfl
        · have he : (r, ob 4 [.int (nI 0), .int (nI pp), .int (nI (sn S (45 + pp))), .ref (r5 0)]) ∈ ro := hr2
          refine ev_aaldN (i := pp) (r := r) hC (mw 4 rfl) (by omega) (by omega) hr1 dX11_row_40 ?_
          refine ev_get hC fl_X11_125_4 (mr he) rfl dX11_row_41 ?_
          refine ev_bipush (v := (nI 6)) hC dX11_row_44 (by decide) ?_
          refine ev_icmp_eqN (tgt := 52) hC dX11_row_46 (by decide) (by omega) (by omega) (fun c_4 => absurd c_4 (by omega)) (fun c_4 => ?_)
          refine ev_bipush (v := (-3)) hC dX11_row_49 (by decide) ?_
          refine ev_iret hC hR rfl dX11_row_51 ?_
          have eR : rowR S (nI pp) (nI kk) z = (-3) := by rw [rowR, if_pos ⟨by assumption, by assumption⟩, if_pos (by assumption), hpn_pp, if_neg (by omega)]
          have eT : rowT S (nI pp) (nI kk) z = S := by rw [rowT, if_pos ⟨by assumption, by assumption⟩, if_pos (by assumption), hpn_pp, if_neg (by omega)]
          exact ⟨by rw [eR], by rw [eT], rfl⟩
        · have he : (r, ob 1 [.int (nI 1), .int (nI pp), .int (nI (sn S (45 + pp))), .ref (r5 0)]) ∈ ro := hr2
          refine ev_aaldN (i := pp) (r := r) hC (mw 4 rfl) (by omega) (by omega) hr1 dX11_row_40 ?_
          refine ev_get hC fl_X11_125_1 (mr he) rfl dX11_row_41 ?_
          refine ev_bipush (v := (nI 6)) hC dX11_row_44 (by decide) ?_
          refine ev_icmp_eqN (tgt := 52) hC dX11_row_46 (by decide) (by omega) (by omega) (fun c_5 => absurd c_5 (by omega)) (fun c_5 => ?_)
          refine ev_bipush (v := (-3)) hC dX11_row_49 (by decide) ?_
          refine ev_iret hC hR rfl dX11_row_51 ?_
          have eR : rowR S (nI pp) (nI kk) z = (-3) := by rw [rowR, if_pos ⟨by assumption, by assumption⟩, if_pos (by assumption), hpn_pp, if_neg (by omega)]
          have eT : rowT S (nI pp) (nI kk) z = S := by rw [rowT, if_pos ⟨by assumption, by assumption⟩, if_pos (by assumption), hpn_pp, if_neg (by omega)]
          exact ⟨by rw [eR], by rw [eT], rfl⟩
        · have he : (r, ob 0 [.int (nI 2), .int (nI pp), .int (nI (sn S (45 + pp))), .ref (r5 0)]) ∈ ro := hr2
          refine ev_aaldN (i := pp) (r := r) hC (mw 4 rfl) (by omega) (by omega) hr1 dX11_row_40 ?_
          refine ev_get hC fl_X11_125_0 (mr he) rfl dX11_row_41 ?_
          refine ev_bipush (v := (nI 6)) hC dX11_row_44 (by decide) ?_
          refine ev_icmp_eqN (tgt := 52) hC dX11_row_46 (by decide) (by omega) (by omega) (fun c_6 => absurd c_6 (by omega)) (fun c_6 => ?_)
          refine ev_bipush (v := (-3)) hC dX11_row_49 (by decide) ?_
          refine ev_iret hC hR rfl dX11_row_51 ?_
          have eR : rowR S (nI pp) (nI kk) z = (-3) := by rw [rowR, if_pos ⟨by assumption, by assumption⟩, if_pos (by assumption), hpn_pp, if_neg (by omega)]
          have eT : rowT S (nI pp) (nI kk) z = S := by rw [rowT, if_pos ⟨by assumption, by assumption⟩, if_pos (by assumption), hpn_pp, if_neg (by omega)]
          exact ⟨by rw [eR], by rw [eT], rfl⟩
        · have he : (r, ob 8 [.int (nI 3), .int (nI pp), .int (nI (sn S (45 + pp))), .ref (r5 0)]) ∈ ro := hr2
          refine ev_aaldN (i := pp) (r := r) hC (mw 4 rfl) (by omega) (by omega) hr1 dX11_row_40 ?_
          refine ev_get hC fl_X11_125_8 (mr he) rfl dX11_row_41 ?_
          refine ev_bipush (v := (nI 6)) hC dX11_row_44 (by decide) ?_
          refine ev_icmp_eqN (tgt := 52) hC dX11_row_46 (by decide) (by omega) (by omega) (fun c_7 => absurd c_7 (by omega)) (fun c_7 => ?_)
          refine ev_bipush (v := (-3)) hC dX11_row_49 (by decide) ?_
          refine ev_iret hC hR rfl dX11_row_51 ?_
          have eR : rowR S (nI pp) (nI kk) z = (-3) := by rw [rowR, if_pos ⟨by assumption, by assumption⟩, if_pos (by assumption), hpn_pp, if_neg (by omega)]
          have eT : rowT S (nI pp) (nI kk) z = S := by rw [rowT, if_pos ⟨by assumption, by assumption⟩, if_pos (by assumption), hpn_pp, if_neg (by omega)]
          exact ⟨by rw [eR], by rw [eT], rfl⟩
        · have he : (r, ob 2 [.int (nI 4), .int (nI pp), .int (nI (sn S (45 + pp))), .ref (r5 0)]) ∈ ro := hr2
          refine ev_aaldN (i := pp) (r := r) hC (mw 4 rfl) (by omega) (by omega) hr1 dX11_row_40 ?_
          refine ev_get hC fl_X11_125_2 (mr he) rfl dX11_row_41 ?_
          refine ev_bipush (v := (nI 6)) hC dX11_row_44 (by decide) ?_
          refine ev_icmp_eqN (tgt := 52) hC dX11_row_46 (by decide) (by omega) (by omega) (fun c_8 => absurd c_8 (by omega)) (fun c_8 => ?_)
          refine ev_bipush (v := (-3)) hC dX11_row_49 (by decide) ?_
          refine ev_iret hC hR rfl dX11_row_51 ?_
          have eR : rowR S (nI pp) (nI kk) z = (-3) := by rw [rowR, if_pos ⟨by assumption, by assumption⟩, if_pos (by assumption), hpn_pp, if_neg (by omega)]
          have eT : rowT S (nI pp) (nI kk) z = S := by rw [rowT, if_pos ⟨by assumption, by assumption⟩, if_pos (by assumption), hpn_pp, if_neg (by omega)]
          exact ⟨by rw [eR], by rw [eT], rfl⟩
        · have he : (r, ob 5 [.int (nI 5), .int (nI pp), .int (nI (sn S (45 + pp))), .ref (r5 0)]) ∈ ro := hr2
          refine ev_aaldN (i := pp) (r := r) hC (mw 4 rfl) (by omega) (by omega) hr1 dX11_row_40 ?_
          refine ev_get hC fl_X11_125_5 (mr he) rfl dX11_row_41 ?_
          refine ev_bipush (v := (nI 6)) hC dX11_row_44 (by decide) ?_
          refine ev_icmp_eqN (tgt := 52) hC dX11_row_46 (by decide) (by omega) (by omega) (fun c_9 => absurd c_9 (by omega)) (fun c_9 => ?_)
          refine ev_bipush (v := (-3)) hC dX11_row_49 (by decide) ?_
          refine ev_iret hC hR rfl dX11_row_51 ?_
          have eR : rowR S (nI pp) (nI kk) z = (-3) := by rw [rowR, if_pos ⟨by assumption, by assumption⟩, if_pos (by assumption), hpn_pp, if_neg (by omega)]
          have eT : rowT S (nI pp) (nI kk) z = S := by rw [rowT, if_pos ⟨by assumption, by assumption⟩, if_pos (by assumption), hpn_pp, if_neg (by omega)]
          exact ⟨by rw [eR], by rw [eT], rfl⟩
        · have he : (r, ob 9 [.int (nI 6), .int (nI pp), .int (nI (sn S (45 + pp))), .ref (r5 0)]) ∈ ro := hr2
          refine ev_aaldN (i := pp) (r := r) hC (mw 4 rfl) (by omega) (by omega) hr1 dX11_row_40 ?_
          refine ev_get hC fl_X11_125_9 (mr he) rfl dX11_row_41 ?_
          refine ev_bipush (v := (nI 6)) hC dX11_row_44 (by decide) ?_
          refine ev_icmp_eqN (tgt := 52) hC dX11_row_46 (by decide) (by omega) (by omega) (fun c_10 => ?_) (fun c_10 => absurd c_10 (by omega))
          refine ev_aload_n hC dX11_row_52 rfl 0 rfl ?_
          refine ev_get hC fl_X11_58_11 (mw 0 rfl) rfl dX11_row_53 ?_
          refine ev_get hC fl_X11_155_3 (mw 1 rfl) rfl dX11_row_56 ?_
          refine ev_iload_n hC dX11_row_59 rfl 1 rfl ?_
          refine ev_iconst (v := (nI 4)) hC dX11_row_60 (by decide) ?_
          refine ev_imul hC dX11_row_61 ?_
          refine ev_top (y := (nI (pp * 4))) (pk_mul _ _) ?_
          refine ev_iload_n hC dX11_row_62 rfl 2 rfl ?_
          refine ev_iadd hC dX11_row_63 ?_
          refine ev_top (y := (nI ((pp * 4) + kk))) ((nI_add _ _).trans (congrArg nI (by omega))) ?_
          refine ev_ialdN (i := (pp * 4) + kk) hC (mw 8 rfl) (by omega) (by omega) dX11_row_64 ?_
          refine ev_top (y := (S (51 + ((pp * 4) + kk)))) (vwn_at (by omega)) ?_
          refine ev_istore (lv' := [(4, .int (S (51 + ((pp * 4) + kk)))), (0, .ref x), (1, .int (nI pp)), (2, .int (nI kk)), (3, .int z)]) hC dX11_row_65 (by decide) rfl ?_
          refine ev_aload_n hC dX11_row_67 rfl 1 rfl ?_
          refine ev_get hC fl_X11_58_11 (mw 0 rfl) rfl dX11_row_68 ?_
          refine ev_get hC fl_X11_155_3 (mw 1 rfl) rfl dX11_row_71 ?_
          refine ev_iload_n hC dX11_row_74 rfl 2 rfl ?_
          refine ev_iconst (v := (nI 4)) hC dX11_row_75 (by decide) ?_
          refine ev_imul hC dX11_row_76 ?_
          refine ev_top (y := (nI (pp * 4))) (pk_mul _ _) ?_
          refine ev_iload_n hC dX11_row_77 rfl 3 rfl ?_
          refine ev_iadd hC dX11_row_78 ?_
          refine ev_top (y := (nI ((pp * 4) + kk))) ((nI_add _ _).trans (congrArg nI (by omega))) ?_
          refine ev_iload_n hC dX11_row_79 rfl 4 rfl ?_
          refine ev_iastN (i := (pp * 4) + kk) (ws' := (List.flatten [SP x r1 r2 r3 r4 r5 d b1 b2 b3 hi, MO G b1 (vwn S 2 6) tk os (vwn S 14 6) (vwn S 20 6) (vwn S 26 6) (upd (vwn S 51 24) ((pp * 4) + kk) z) le (S 32) (bitF S) (S 0) (S 1) t (S 33) (-1) wa])) (q0 := 8) hC rfl (by omega) (by omega) rfl dX11_row_80 ?_
          refine ev_ws (ws' := (List.flatten [SP x r1 r2 r3 r4 r5 d b1 b2 b3 hi, MO G b1 (vwn (upd S (51 + 4 * pp + kk) z) 2 6) tk os (vwn (upd S (51 + 4 * pp + kk) z) 14 6) (vwn (upd S (51 + 4 * pp + kk) z) 20 6) (vwn (upd S (51 + 4 * pp + kk) z) 26 6) (vwn (upd S (51 + 4 * pp + kk) z) 51 24) le ((upd S (51 + 4 * pp + kk) z) 32) (bitF (upd S (51 + 4 * pp + kk) z)) ((upd S (51 + 4 * pp + kk) z) 0) ((upd S (51 + 4 * pp + kk) z) 1) t ((upd S (51 + 4 * pp + kk) z) 33) (-1) wa])) (by rw [show (MO G b1 (vwn S 2 6) tk os (vwn S 14 6) (vwn S 20 6) (vwn S 26 6) (upd (vwn S 51 24) ((pp * 4) + kk) z) le (S 32) (bitF S) (S 0) (S 1) t (S 33) (-1) wa) = (MO G b1 (vwn (upd S (51 + 4 * pp + kk) z) 2 6) tk os (vwn (upd S (51 + 4 * pp + kk) z) 14 6) (vwn (upd S (51 + 4 * pp + kk) z) 20 6) (vwn (upd S (51 + 4 * pp + kk) z) 26 6) (vwn (upd S (51 + 4 * pp + kk) z) 51 24) le ((upd S (51 + 4 * pp + kk) z) 32) (bitF (upd S (51 + 4 * pp + kk) z)) ((upd S (51 + 4 * pp + kk) z) 0) ((upd S (51 + 4 * pp + kk) z) 1) t ((upd S (51 + 4 * pp + kk) z) 33) (-1) wa) from mo_eq (by rw [vwn_ne (o := 2) (n := 6) (by omega)]) rfl rfl (by rw [vwn_ne (o := 14) (n := 6) (by omega)]) (by rw [vwn_ne (o := 20) (n := 6) (by omega)]) (by rw [vwn_ne (o := 26) (n := 6) (by omega)]) (by rw [vwn_upd (by omega), show 51 + (pp * 4 + kk) = 51 + 4 * pp + kk by omega]) rfl (by rw [upd_ne _ _ (by omega)]) (by rw [bitF_ne (by omega)]) (by rw [upd_ne _ _ (by omega)]) (by rw [upd_ne _ _ (by omega)]) (by rw [upd_ne _ _ (by omega)]) rfl rfl]) ?_
          refine ev_iload hC dX11_row_81 0 rfl ?_
          refine ev_iret hC hR rfl dX11_row_83 ?_
          have eR : rowR S (nI pp) (nI kk) z = (S (51 + ((pp * 4) + kk))) := by rw [rowR, if_pos ⟨by assumption, by assumption⟩, if_pos (by assumption), hpn_pp, if_pos (by omega), hpn_kk, show 51 + 4 * pp + kk = 51 + (pp * 4 + kk) by omega]
          have eT : rowT S (nI pp) (nI kk) z = upd S (51 + 4 * pp + kk) z := by rw [rowT, if_pos ⟨by assumption, by assumption⟩, if_pos (by assumption), hpn_pp, if_pos (by omega), hpn_kk]
          exact ⟨by rw [eR], by rw [eT], rfl⟩
      · refine ev_bipush (v := (-2)) hC dX11_row_29 (by decide) ?_
        refine ev_iret hC hR rfl dX11_row_31 ?_
        have eR : rowR S y w z = (-2) := by rw [rowR, if_pos ⟨by assumption, by assumption⟩, if_neg (by assumption)]
        have eT : rowT S y w z = S := by rw [rowT, if_pos ⟨by assumption, by assumption⟩, if_neg (by assumption)]
        exact ⟨by rw [eR], by rw [eT], rfl⟩
    · refine ev_iconst (v := (-1)) hC dX11_row_17 (by decide) ?_
      refine ev_iret hC hR rfl dX11_row_18 ?_
      have eR : rowR S y w z = (-1) := by rw [rowR, if_neg (fun h => by first | exact absurd h.1 (by assumption) | exact absurd h.2 (by assumption))]
      have eT : rowT S y w z = S := by rw [rowT, if_neg (fun h => by first | exact absurd h.1 (by assumption) | exact absurd h.2 (by assumption))]
      exact ⟨by rw [eR], by rw [eT], rfl⟩

theorem roof01 {S : Nat → Int32} {D E k : Nat} (h : WF S D E) (hk : k < 6) (c : ¬ S (8 + k) = nI 1) : S (8 + k) = nI 0 := by
  have h1 := (h.roof k hk).eq
  have h2 := (h.roof k hk).le
  rcases (show sn S (8 + k) = 0 ∨ sn S (8 + k) = 1 by omega) with q | q
  · rw [q] at h1
    exact h1
  · rw [q] at h1
    exact absurd h1 c

set_option maxHeartbeats 4000000 in
set_option maxRecDepth 100000 in
theorem m_X11_roof (G : GG) (ro : va_W) (x : Nat) (r1 r2 r3 r4 r5 d b1 b2 b3 : Nat → Nat) (hi : Int32) (S tk le T tk3 le3 : Nat → Int32) (os os3 : Nat → Option Nat) (t t3 : Nat) (wa st3 wa3 : Int32) (y z : Int32) (hW : WF S 9999 9999) (hO : MoOK G ro (r5 0) S os t)  : Mth G M_X11_roof 8 0 0 [.ref x, .int y, .int z] (List.flatten [SP x r1 r2 r3 r4 r5 d b1 b2 b3 hi, MO G b1 (vwn S 2 6) tk os (vwn S 14 6) (vwn S 20 6) (vwn S 26 6) (vwn S 51 24) le (S 32) (bitF S) (S 0) (S 1) t (S 33) (-1) wa]) ro (fun r ws' ro' => r = some (.int (roofR S y)) ∧ ws' = (List.flatten [SP x r1 r2 r3 r4 r5 d b1 b2 b3 hi, MO G b1 (vwn (roofT S y z) 2 6) tk os (vwn (roofT S y z) 14 6) (vwn (roofT S y z) 20 6) (vwn (roofT S y z) 26 6) (vwn (roofT S y z) 51 24) le ((roofT S y z) 32) (bitF (roofT S y z)) ((roofT S y z) 0) ((roofT S y z) 1) t ((roofT S y z) 33) (-1) wa]) ∧ ro = ro') := by
  refine mth_of (by decide +kernel) (Nat.le_of_ble_eq_true rfl) (fun X hC hR => ?_)
  have b32 := hW.peo.le
  show Ev G X 0 0 0 [(0, .ref x), (1, .int y), (2, .int z)] [] (List.flatten [SP x r1 r2 r3 r4 r5 d b1 b2 b3 hi, MO G b1 (vwn S 2 6) tk os (vwn S 14 6) (vwn S 20 6) (vwn S 26 6) (vwn S 51 24) le (S 32) (bitF S) (S 0) (S 1) t (S 33) (-1) wa]) ro
  refine ev_iload_n hC dX11_roof_0 rfl 1 rfl ?_
  refine ev_callS (As := [.int y]) (st := []) (wc := []) (wf := (List.flatten [SP x r1 r2 r3 r4 r5 d b1 b2 b3 hi, MO G b1 (vwn S 2 6) tk os (vwn S 14 6) (vwn S 20 6) (vwn S 26 6) (vwn S 51 24) le (S 32) (bitF S) (S 0) (S 1) t (S 33) (-1) wa])) hC ct_X11_104 (m_X11_isSide G ro y) (by omega) rfl rfl (Nat.le_of_ble_eq_true rfl) (List.Perm.refl _) dX11_roof_1 (by omega) (by omega) ?_
  rintro _ _ _ ⟨rfl, rfl, rfl⟩
  refine ev_ws (List.nil_append _) ?_
  show Ev G X 0 0 4 [(0, .ref x), (1, .int y), (2, .int z)] [.int (bI ((nI 0) ≤ y ∧ y ≤ (nI 5)))] (List.flatten [SP x r1 r2 r3 r4 r5 d b1 b2 b3 hi, MO G b1 (vwn S 2 6) tk os (vwn S 14 6) (vwn S 20 6) (vwn S 26 6) (vwn S 51 24) le (S 32) (bitF S) (S 0) (S 1) t (S 33) (-1) wa]) ro
  refine ev_if_neB (tgt := 9) hC dX11_roof_4 (by decide) (fun c_1 => ?_) (fun c_1 => ?_)
  · obtain ⟨kk, hkk, rfl⟩ := inN (m := 5) (by omega) (by assumption)
    have hpn_kk : pn (nI kk) = kk := nI_clamp (by omega)
    refine ev_aload_n hC dX11_roof_9 rfl 0 rfl ?_
    refine ev_get hC fl_X11_58_11 (mw 0 rfl) rfl dX11_roof_10 ?_
    refine ev_iload_n hC dX11_roof_13 rfl 1 rfl ?_
    refine ev_callV (As := [.int (nI kk)]) (st := []) (wf := (List.flatten [SP x r1 r2 r3 r4 r5 d b1 b2 b3 hi])) hC cv_X11_161 (m_X3_hasRoof G ro b1 S tk le os t (r5 0) (-1) wa kk  hW (by omega)) (by omega) rfl rfl (Nat.le_of_ble_eq_true rfl) (perm_sg (n := 2) [1, 0] rfl rfl (by decide)) (mw 1 rfl) rfl dX11_roof_14 (by omega) (by omega) ?_
    rintro _ _ _ ⟨rfl, rfl, rfl⟩
    show Ev G X 0 0 17 [(0, .ref x), (1, .int (nI kk)), (2, .int z)] [.int (bI (S (8 + kk) = nI 1))] (List.flatten [MO G b1 (vwn S 2 6) tk os (vwn S 14 6) (vwn S 20 6) (vwn S 26 6) (vwn S 51 24) le (S 32) (bitF S) (S 0) (S 1) t (S 33) (-1) wa, SP x r1 r2 r3 r4 r5 d b1 b2 b3 hi]) ro
    refine ev_perm (ws' := (List.flatten [SP x r1 r2 r3 r4 r5 d b1 b2 b3 hi, MO G b1 (vwn S 2 6) tk os (vwn S 14 6) (vwn S 20 6) (vwn S 26 6) (vwn S 51 24) le (S 32) (bitF S) (S 0) (S 1) t (S 33) (-1) wa])) (perm_sg2 (n := 2) [1, 0] rfl rfl (by decide)) ?_
    refine ev_if_eqB (tgt := 24) hC dX11_roof_17 (by decide) (fun c_2 => ?_) (fun c_2 => ?_)
    · refine ev_iconst (v := (nI 0)) hC dX11_roof_24 (by decide) ?_
      refine ev_istore_n (lv' := [(3, .int (nI 0)), (0, .ref x), (1, .int (nI kk)), (2, .int z)]) hC dX11_roof_25 rfl (by decide) rfl ?_
      refine ev_aload_n hC dX11_roof_26 rfl 1 rfl ?_
      refine ev_get hC fl_X11_58_11 (mw 0 rfl) rfl dX11_roof_27 ?_
      refine ev_iload_n hC dX11_roof_30 rfl 3 rfl ?_
      refine ev_if_eq (tgt := 48) hC dX11_roof_31 (by decide) (fun c_3 => ?_) (fun c_3 => ?_)
      · refine ev_aload_n hC dX11_roof_48 rfl 1 rfl ?_
        refine ev_get hC fl_X11_58_11 (mw 0 rfl) rfl dX11_roof_49 ?_
        refine ev_get hC fl_X11_164_3 (mw 1 rfl) rfl dX11_roof_52 ?_
        refine ev_iconst (v := (nI 1)) hC dX11_roof_55 (by decide) ?_
        refine ev_iload_n hC dX11_roof_56 rfl 2 rfl ?_
        refine ev_ishl hC dX11_roof_57 ?_
        refine ev_iconst (v := (-1)) hC dX11_roof_58 (by decide) ?_
        refine ev_ixor hC dX11_roof_59 ?_
        refine ev_iand hC dX11_roof_60 ?_
        refine ev_put (ws' := (List.flatten [SP x r1 r2 r3 r4 r5 d b1 b2 b3 hi, MO G b1 (vwn S 2 6) tk os (vwn S 14 6) (vwn S 20 6) (vwn S 26 6) (vwn S 51 24) le (S 32) ((bitF S) &&& (((nI 1) <<< ((nI kk) &&& 31)) ^^^ (-1))) (S 0) (S 1) t (S 33) (-1) wa])) (q0 := 1) hC fp_X11_164_3 rfl (Nat.le_of_ble_eq_true rfl) rfl rfl rfl dX11_roof_61 ?_
        refine ev_ws (ws' := (List.flatten [SP x r1 r2 r3 r4 r5 d b1 b2 b3 hi, MO G b1 (vwn (upd S (8 + kk) (nI 0)) 2 6) tk os (vwn (upd S (8 + kk) (nI 0)) 14 6) (vwn (upd S (8 + kk) (nI 0)) 20 6) (vwn (upd S (8 + kk) (nI 0)) 26 6) (vwn (upd S (8 + kk) (nI 0)) 51 24) le ((upd S (8 + kk) (nI 0)) 32) (bitF (upd S (8 + kk) (nI 0))) ((upd S (8 + kk) (nI 0)) 0) ((upd S (8 + kk) (nI 0)) 1) t ((upd S (8 + kk) (nI 0)) 33) (-1) wa])) (by rw [show (MO G b1 (vwn S 2 6) tk os (vwn S 14 6) (vwn S 20 6) (vwn S 26 6) (vwn S 51 24) le (S 32) ((bitF S) &&& (((nI 1) <<< ((nI kk) &&& 31)) ^^^ (-1))) (S 0) (S 1) t (S 33) (-1) wa) = (MO G b1 (vwn (upd S (8 + kk) (nI 0)) 2 6) tk os (vwn (upd S (8 + kk) (nI 0)) 14 6) (vwn (upd S (8 + kk) (nI 0)) 20 6) (vwn (upd S (8 + kk) (nI 0)) 26 6) (vwn (upd S (8 + kk) (nI 0)) 51 24) le ((upd S (8 + kk) (nI 0)) 32) (bitF (upd S (8 + kk) (nI 0))) ((upd S (8 + kk) (nI 0)) 0) ((upd S (8 + kk) (nI 0)) 1) t ((upd S (8 + kk) (nI 0)) 33) (-1) wa) from mo_eq (by rw [vwn_ne (o := 2) (n := 6) (by omega)]) rfl rfl (by rw [vwn_ne (o := 14) (n := 6) (by omega)]) (by rw [vwn_ne (o := 20) (n := 6) (by omega)]) (by rw [vwn_ne (o := 26) (n := 6) (by omega)]) (by rw [vwn_ne (o := 51) (n := 24) (by omega)]) rfl (by rw [upd_ne _ _ (by omega)]) (bitF_clr hW (by omega)).symm (by rw [upd_ne _ _ (by omega)]) (by rw [upd_ne _ _ (by omega)]) (by rw [upd_ne _ _ (by omega)]) rfl rfl]) ?_
        refine ev_iload_n hC dX11_roof_64 rfl 0 rfl ?_
        refine ev_iret hC hR rfl dX11_roof_65 ?_
        have hrl := (hW.roof kk (by omega)).le
        have e8 : S (8 + kk) = (nI 0) := by first | assumption | exact roof01 hW (by omega) (by assumption)
        have eR : roofR S (nI kk) = (nI 0) := by rw [roofR, if_pos (by assumption), hpn_kk, e8]
        have eT : roofT S (nI kk) z = upd S (8 + kk) (nI 0) := by rw [roofT, if_pos (by assumption), hpn_kk, if_pos (by assumption)]
        exact ⟨by rw [eR], by rw [eT], rfl⟩
      · refine ev_aload_n hC dX11_roof_34 rfl 1 rfl ?_
        refine ev_get hC fl_X11_58_11 (mw 0 rfl) rfl dX11_roof_35 ?_
        refine ev_get hC fl_X11_164_3 (mw 1 rfl) rfl dX11_roof_38 ?_
        refine ev_iconst (v := (nI 1)) hC dX11_roof_41 (by decide) ?_
        refine ev_iload_n hC dX11_roof_42 rfl 2 rfl ?_
        refine ev_ishl hC dX11_roof_43 ?_
        refine ev_ior hC dX11_roof_44 ?_
        refine ev_goto (tgt := 61) hC dX11_roof_45 (by decide) ?_
        refine ev_put (ws' := (List.flatten [SP x r1 r2 r3 r4 r5 d b1 b2 b3 hi, MO G b1 (vwn S 2 6) tk os (vwn S 14 6) (vwn S 20 6) (vwn S 26 6) (vwn S 51 24) le (S 32) ((bitF S) ||| ((nI 1) <<< ((nI kk) &&& 31))) (S 0) (S 1) t (S 33) (-1) wa])) (q0 := 1) hC fp_X11_164_3 rfl (Nat.le_of_ble_eq_true rfl) rfl rfl rfl dX11_roof_61 ?_
        refine ev_ws (ws' := (List.flatten [SP x r1 r2 r3 r4 r5 d b1 b2 b3 hi, MO G b1 (vwn (upd S (8 + kk) (nI 1)) 2 6) tk os (vwn (upd S (8 + kk) (nI 1)) 14 6) (vwn (upd S (8 + kk) (nI 1)) 20 6) (vwn (upd S (8 + kk) (nI 1)) 26 6) (vwn (upd S (8 + kk) (nI 1)) 51 24) le ((upd S (8 + kk) (nI 1)) 32) (bitF (upd S (8 + kk) (nI 1))) ((upd S (8 + kk) (nI 1)) 0) ((upd S (8 + kk) (nI 1)) 1) t ((upd S (8 + kk) (nI 1)) 33) (-1) wa])) (by rw [show (MO G b1 (vwn S 2 6) tk os (vwn S 14 6) (vwn S 20 6) (vwn S 26 6) (vwn S 51 24) le (S 32) ((bitF S) ||| ((nI 1) <<< ((nI kk) &&& 31))) (S 0) (S 1) t (S 33) (-1) wa) = (MO G b1 (vwn (upd S (8 + kk) (nI 1)) 2 6) tk os (vwn (upd S (8 + kk) (nI 1)) 14 6) (vwn (upd S (8 + kk) (nI 1)) 20 6) (vwn (upd S (8 + kk) (nI 1)) 26 6) (vwn (upd S (8 + kk) (nI 1)) 51 24) le ((upd S (8 + kk) (nI 1)) 32) (bitF (upd S (8 + kk) (nI 1))) ((upd S (8 + kk) (nI 1)) 0) ((upd S (8 + kk) (nI 1)) 1) t ((upd S (8 + kk) (nI 1)) 33) (-1) wa) from mo_eq (by rw [vwn_ne (o := 2) (n := 6) (by omega)]) rfl rfl (by rw [vwn_ne (o := 14) (n := 6) (by omega)]) (by rw [vwn_ne (o := 20) (n := 6) (by omega)]) (by rw [vwn_ne (o := 26) (n := 6) (by omega)]) (by rw [vwn_ne (o := 51) (n := 24) (by omega)]) rfl (by rw [upd_ne _ _ (by omega)]) (bitF_set hW (by omega)).symm (by rw [upd_ne _ _ (by omega)]) (by rw [upd_ne _ _ (by omega)]) (by rw [upd_ne _ _ (by omega)]) rfl rfl]) ?_
        refine ev_iload_n hC dX11_roof_64 rfl 0 rfl ?_
        refine ev_iret hC hR rfl dX11_roof_65 ?_
        have hrl := (hW.roof kk (by omega)).le
        have e8 : S (8 + kk) = (nI 0) := by first | assumption | exact roof01 hW (by omega) (by assumption)
        have eR : roofR S (nI kk) = (nI 0) := by rw [roofR, if_pos (by assumption), hpn_kk, e8]
        have eT : roofT S (nI kk) z = upd S (8 + kk) (nI 1) := by rw [roofT, if_pos (by assumption), hpn_kk, if_neg (by assumption)]
        exact ⟨by rw [eR], by rw [eT], rfl⟩
    · refine ev_iconst (v := (nI 1)) hC dX11_roof_20 (by decide) ?_
      refine ev_goto (tgt := 25) hC dX11_roof_21 (by decide) ?_
      refine ev_istore_n (lv' := [(3, .int (nI 1)), (0, .ref x), (1, .int (nI kk)), (2, .int z)]) hC dX11_roof_25 rfl (by decide) rfl ?_
      refine ev_aload_n hC dX11_roof_26 rfl 1 rfl ?_
      refine ev_get hC fl_X11_58_11 (mw 0 rfl) rfl dX11_roof_27 ?_
      refine ev_iload_n hC dX11_roof_30 rfl 3 rfl ?_
      refine ev_if_eq (tgt := 48) hC dX11_roof_31 (by decide) (fun c_4 => ?_) (fun c_4 => ?_)
      · refine ev_aload_n hC dX11_roof_48 rfl 1 rfl ?_
        refine ev_get hC fl_X11_58_11 (mw 0 rfl) rfl dX11_roof_49 ?_
        refine ev_get hC fl_X11_164_3 (mw 1 rfl) rfl dX11_roof_52 ?_
        refine ev_iconst (v := (nI 1)) hC dX11_roof_55 (by decide) ?_
        refine ev_iload_n hC dX11_roof_56 rfl 2 rfl ?_
        refine ev_ishl hC dX11_roof_57 ?_
        refine ev_iconst (v := (-1)) hC dX11_roof_58 (by decide) ?_
        refine ev_ixor hC dX11_roof_59 ?_
        refine ev_iand hC dX11_roof_60 ?_
        refine ev_put (ws' := (List.flatten [SP x r1 r2 r3 r4 r5 d b1 b2 b3 hi, MO G b1 (vwn S 2 6) tk os (vwn S 14 6) (vwn S 20 6) (vwn S 26 6) (vwn S 51 24) le (S 32) ((bitF S) &&& (((nI 1) <<< ((nI kk) &&& 31)) ^^^ (-1))) (S 0) (S 1) t (S 33) (-1) wa])) (q0 := 1) hC fp_X11_164_3 rfl (Nat.le_of_ble_eq_true rfl) rfl rfl rfl dX11_roof_61 ?_
        refine ev_ws (ws' := (List.flatten [SP x r1 r2 r3 r4 r5 d b1 b2 b3 hi, MO G b1 (vwn (upd S (8 + kk) (nI 0)) 2 6) tk os (vwn (upd S (8 + kk) (nI 0)) 14 6) (vwn (upd S (8 + kk) (nI 0)) 20 6) (vwn (upd S (8 + kk) (nI 0)) 26 6) (vwn (upd S (8 + kk) (nI 0)) 51 24) le ((upd S (8 + kk) (nI 0)) 32) (bitF (upd S (8 + kk) (nI 0))) ((upd S (8 + kk) (nI 0)) 0) ((upd S (8 + kk) (nI 0)) 1) t ((upd S (8 + kk) (nI 0)) 33) (-1) wa])) (by rw [show (MO G b1 (vwn S 2 6) tk os (vwn S 14 6) (vwn S 20 6) (vwn S 26 6) (vwn S 51 24) le (S 32) ((bitF S) &&& (((nI 1) <<< ((nI kk) &&& 31)) ^^^ (-1))) (S 0) (S 1) t (S 33) (-1) wa) = (MO G b1 (vwn (upd S (8 + kk) (nI 0)) 2 6) tk os (vwn (upd S (8 + kk) (nI 0)) 14 6) (vwn (upd S (8 + kk) (nI 0)) 20 6) (vwn (upd S (8 + kk) (nI 0)) 26 6) (vwn (upd S (8 + kk) (nI 0)) 51 24) le ((upd S (8 + kk) (nI 0)) 32) (bitF (upd S (8 + kk) (nI 0))) ((upd S (8 + kk) (nI 0)) 0) ((upd S (8 + kk) (nI 0)) 1) t ((upd S (8 + kk) (nI 0)) 33) (-1) wa) from mo_eq (by rw [vwn_ne (o := 2) (n := 6) (by omega)]) rfl rfl (by rw [vwn_ne (o := 14) (n := 6) (by omega)]) (by rw [vwn_ne (o := 20) (n := 6) (by omega)]) (by rw [vwn_ne (o := 26) (n := 6) (by omega)]) (by rw [vwn_ne (o := 51) (n := 24) (by omega)]) rfl (by rw [upd_ne _ _ (by omega)]) (bitF_clr hW (by omega)).symm (by rw [upd_ne _ _ (by omega)]) (by rw [upd_ne _ _ (by omega)]) (by rw [upd_ne _ _ (by omega)]) rfl rfl]) ?_
        refine ev_iload_n hC dX11_roof_64 rfl 0 rfl ?_
        refine ev_iret hC hR rfl dX11_roof_65 ?_
        have hrl := (hW.roof kk (by omega)).le
        have e8 : S (8 + kk) = (nI 1) := by first | assumption | exact roof01 hW (by omega) (by assumption)
        have eR : roofR S (nI kk) = (nI 1) := by rw [roofR, if_pos (by assumption), hpn_kk, e8]
        have eT : roofT S (nI kk) z = upd S (8 + kk) (nI 0) := by rw [roofT, if_pos (by assumption), hpn_kk, if_pos (by assumption)]
        exact ⟨by rw [eR], by rw [eT], rfl⟩
      · refine ev_aload_n hC dX11_roof_34 rfl 1 rfl ?_
        refine ev_get hC fl_X11_58_11 (mw 0 rfl) rfl dX11_roof_35 ?_
        refine ev_get hC fl_X11_164_3 (mw 1 rfl) rfl dX11_roof_38 ?_
        refine ev_iconst (v := (nI 1)) hC dX11_roof_41 (by decide) ?_
        refine ev_iload_n hC dX11_roof_42 rfl 2 rfl ?_
        refine ev_ishl hC dX11_roof_43 ?_
        refine ev_ior hC dX11_roof_44 ?_
        refine ev_goto (tgt := 61) hC dX11_roof_45 (by decide) ?_
        refine ev_put (ws' := (List.flatten [SP x r1 r2 r3 r4 r5 d b1 b2 b3 hi, MO G b1 (vwn S 2 6) tk os (vwn S 14 6) (vwn S 20 6) (vwn S 26 6) (vwn S 51 24) le (S 32) ((bitF S) ||| ((nI 1) <<< ((nI kk) &&& 31))) (S 0) (S 1) t (S 33) (-1) wa])) (q0 := 1) hC fp_X11_164_3 rfl (Nat.le_of_ble_eq_true rfl) rfl rfl rfl dX11_roof_61 ?_
        refine ev_ws (ws' := (List.flatten [SP x r1 r2 r3 r4 r5 d b1 b2 b3 hi, MO G b1 (vwn (upd S (8 + kk) (nI 1)) 2 6) tk os (vwn (upd S (8 + kk) (nI 1)) 14 6) (vwn (upd S (8 + kk) (nI 1)) 20 6) (vwn (upd S (8 + kk) (nI 1)) 26 6) (vwn (upd S (8 + kk) (nI 1)) 51 24) le ((upd S (8 + kk) (nI 1)) 32) (bitF (upd S (8 + kk) (nI 1))) ((upd S (8 + kk) (nI 1)) 0) ((upd S (8 + kk) (nI 1)) 1) t ((upd S (8 + kk) (nI 1)) 33) (-1) wa])) (by rw [show (MO G b1 (vwn S 2 6) tk os (vwn S 14 6) (vwn S 20 6) (vwn S 26 6) (vwn S 51 24) le (S 32) ((bitF S) ||| ((nI 1) <<< ((nI kk) &&& 31))) (S 0) (S 1) t (S 33) (-1) wa) = (MO G b1 (vwn (upd S (8 + kk) (nI 1)) 2 6) tk os (vwn (upd S (8 + kk) (nI 1)) 14 6) (vwn (upd S (8 + kk) (nI 1)) 20 6) (vwn (upd S (8 + kk) (nI 1)) 26 6) (vwn (upd S (8 + kk) (nI 1)) 51 24) le ((upd S (8 + kk) (nI 1)) 32) (bitF (upd S (8 + kk) (nI 1))) ((upd S (8 + kk) (nI 1)) 0) ((upd S (8 + kk) (nI 1)) 1) t ((upd S (8 + kk) (nI 1)) 33) (-1) wa) from mo_eq (by rw [vwn_ne (o := 2) (n := 6) (by omega)]) rfl rfl (by rw [vwn_ne (o := 14) (n := 6) (by omega)]) (by rw [vwn_ne (o := 20) (n := 6) (by omega)]) (by rw [vwn_ne (o := 26) (n := 6) (by omega)]) (by rw [vwn_ne (o := 51) (n := 24) (by omega)]) rfl (by rw [upd_ne _ _ (by omega)]) (bitF_set hW (by omega)).symm (by rw [upd_ne _ _ (by omega)]) (by rw [upd_ne _ _ (by omega)]) (by rw [upd_ne _ _ (by omega)]) rfl rfl]) ?_
        refine ev_iload_n hC dX11_roof_64 rfl 0 rfl ?_
        refine ev_iret hC hR rfl dX11_roof_65 ?_
        have hrl := (hW.roof kk (by omega)).le
        have e8 : S (8 + kk) = (nI 1) := by first | assumption | exact roof01 hW (by omega) (by assumption)
        have eR : roofR S (nI kk) = (nI 1) := by rw [roofR, if_pos (by assumption), hpn_kk, e8]
        have eT : roofT S (nI kk) z = upd S (8 + kk) (nI 1) := by rw [roofT, if_pos (by assumption), hpn_kk, if_neg (by assumption)]
        exact ⟨by rw [eR], by rw [eT], rfl⟩
  · refine ev_iconst (v := (-1)) hC dX11_roof_7 (by decide) ?_
    refine ev_iret hC hR rfl dX11_roof_8 ?_
    have eR : roofR S y = (-1) := by rw [roofR, if_neg (by assumption)]
    have eT : roofT S y z = S := by rw [roofT, if_neg (by assumption)]
    exact ⟨by rw [eR], by rw [eT], rfl⟩

set_option maxHeartbeats 4000000 in
set_option maxRecDepth 100000 in
theorem m_X11_pass (G : GG) (ro : va_W) (x : Nat) (r1 r2 r3 r4 r5 d b1 b2 b3 : Nat → Nat) (hi : Int32) (S tk le T tk3 le3 : Nat → Int32) (os os3 : Nat → Option Nat) (t t3 : Nat) (wa st3 wa3 : Int32) (y : Int32) (hW : WF S 9999 9999) (hO : MoOK G ro (r5 0) S os t)  : Mth G M_X11_pass 8 0 0 [.ref x, .int y] (List.flatten [SP x r1 r2 r3 r4 r5 d b1 b2 b3 hi, MO G b1 (vwn S 2 6) tk os (vwn S 14 6) (vwn S 20 6) (vwn S 26 6) (vwn S 51 24) le (S 32) (bitF S) (S 0) (S 1) t (S 33) (-1) wa]) ro (fun r ws' ro' => ∃ (tk' : Nat → Int32), ∃ (le' : Nat → Int32), ∃ (wa' : Int32), r = some (.int (passR S y)) ∧ ws' = (List.flatten [SP x r1 r2 r3 r4 r5 d b1 b2 b3 hi, MO G b1 (vwn (passT S y) 2 6) tk' os (vwn (passT S y) 14 6) (vwn (passT S y) 20 6) (vwn (passT S y) 26 6) (vwn (passT S y) 51 24) le' ((passT S y) 32) (bitF (passT S y)) ((passT S y) 0) ((passT S y) 1) t ((passT S y) 33) (-1) wa']) ∧ ro = ro') := by
  refine mth_of (by decide +kernel) (Nat.le_of_ble_eq_true rfl) (fun X hC hR => ?_)
  have b32 := hW.peo.le
  show Ev G X 0 0 0 [(0, .ref x), (1, .int y)] [] (List.flatten [SP x r1 r2 r3 r4 r5 d b1 b2 b3 hi, MO G b1 (vwn S 2 6) tk os (vwn S 14 6) (vwn S 20 6) (vwn S 26 6) (vwn S 51 24) le (S 32) (bitF S) (S 0) (S 1) t (S 33) (-1) wa]) ro
  refine ev_iload_n hC dX11_pass_0 rfl 1 rfl ?_
  refine ev_iconst (v := (nI 0)) hC dX11_pass_1 (by decide) ?_
  refine ev_bipush (v := (nI 60)) hC dX11_pass_2 (by decide) ?_
  refine ev_callS (As := [.int y, .int (nI 0), .int (nI 60)]) (st := []) (wc := []) (wf := (List.flatten [SP x r1 r2 r3 r4 r5 d b1 b2 b3 hi, MO G b1 (vwn S 2 6) tk os (vwn S 14 6) (vwn S 20 6) (vwn S 26 6) (vwn S 51 24) le (S 32) (bitF S) (S 0) (S 1) t (S 33) (-1) wa])) hC ct_X11_68 (m_X11_isWithin G ro y (nI 0) (nI 60)) (by omega) rfl rfl (Nat.le_of_ble_eq_true rfl) (List.Perm.refl _) dX11_pass_4 (by omega) (by omega) ?_
  rintro _ _ _ ⟨rfl, rfl, rfl⟩
  refine ev_ws (List.nil_append _) ?_
  show Ev G X 0 0 7 [(0, .ref x), (1, .int y)] [.int (bI ((nI 0) ≤ y ∧ y ≤ (nI 60)))] (List.flatten [SP x r1 r2 r3 r4 r5 d b1 b2 b3 hi, MO G b1 (vwn S 2 6) tk os (vwn S 14 6) (vwn S 20 6) (vwn S 26 6) (vwn S 51 24) le (S 32) (bitF S) (S 0) (S 1) t (S 33) (-1) wa]) ro
  refine ev_if_neB (tgt := 13) hC dX11_pass_7 (by decide) (fun c_1 => ?_) (fun c_1 => ?_)
  · obtain ⟨kk, hkk, rfl⟩ := inN (m := 60) (by omega) (by assumption)
    have hpn_kk : pn (nI kk) = kk := nI_clamp (by omega)
    refine ev_aload_n hC dX11_pass_13 rfl 0 rfl ?_
    refine ev_get hC fl_X11_58_11 (mw 0 rfl) rfl dX11_pass_14 ?_
    refine ev_get hC fl_X11_145_3 (mw 1 rfl) rfl dX11_pass_17 ?_
    have bk_2 : NB S 0 _ := hW.day
    have k_2 := bk_2.eq
    have lk_2 := bk_2.le
    have mk_2 := bk_2.lt
    refine ev_top (y := (nI (sn S 0))) k_2 ?_
    refine ev_iload_n hC dX11_pass_20 rfl 1 rfl ?_
    refine ev_iadd hC dX11_pass_21 ?_
    refine ev_top (y := (nI (sn S 0 + kk))) ((nI_add _ _).trans (congrArg nI (by omega))) ?_
    refine ev_sipush (v := (nI 9999)) hC dX11_pass_22 (by decide) ?_
    refine ev_icmp_leN (tgt := 31) hC dX11_pass_25 (by decide) (by omega) (by omega) (fun c_3 => ?_) (fun c_3 => ?_)
    · refine ev_aload_n hC dX11_pass_31 rfl 0 rfl ?_
      refine ev_get hC fl_X11_58_11 (mw 0 rfl) rfl dX11_pass_32 ?_
      refine ev_iload_n hC dX11_pass_35 rfl 1 rfl ?_
      refine ev_callV (As := [.int (nI kk)]) (st := []) (wf := (List.flatten [SP x r1 r2 r3 r4 r5 d b1 b2 b3 hi])) hC cv_X11_182 (m_X3_goDays G ro b1 S tk le os t (r5 0) (-1) wa kk hW hO (by omega) (by omega) (by omega)) (by omega) rfl rfl (Nat.le_of_ble_eq_true rfl) (perm_sg (n := 2) [1, 0] rfl rfl (by decide)) (mw 1 rfl) rfl dX11_pass_36 (by omega) (by omega) ?_
      rintro _ _ _ ⟨tk_4, le_5, hK_6, rfl, rfl, rfl⟩
      show Ev G X 0 0 39 [(0, .ref x), (1, .int (nI kk))] [] (List.flatten [MO G b1 (vwn (gosF (-1) S kk) 2 6) tk_4 os (vwn (gosF (-1) S kk) 14 6) (vwn (gosF (-1) S kk) 20 6) (vwn (gosF (-1) S kk) 26 6) (vwn (gosF (-1) S kk) 51 24) le_5 ((gosF (-1) S kk) 32) (bitF (gosF (-1) S kk)) ((gosF (-1) S kk) 0) ((gosF (-1) S kk) 1) t ((gosF (-1) S kk) 33) (-1) (raF (-1) S wa kk), SP x r1 r2 r3 r4 r5 d b1 b2 b3 hi]) ro
      refine ev_perm (ws' := (List.flatten [SP x r1 r2 r3 r4 r5 d b1 b2 b3 hi, MO G b1 (vwn (gosF (-1) S kk) 2 6) tk_4 os (vwn (gosF (-1) S kk) 14 6) (vwn (gosF (-1) S kk) 20 6) (vwn (gosF (-1) S kk) 26 6) (vwn (gosF (-1) S kk) 51 24) le_5 ((gosF (-1) S kk) 32) (bitF (gosF (-1) S kk)) ((gosF (-1) S kk) 0) ((gosF (-1) S kk) 1) t ((gosF (-1) S kk) 33) (-1) (raF (-1) S wa kk)])) (perm_sg2 (n := 2) [1, 0] rfl rfl (by decide)) ?_
      refine ev_aload_n hC dX11_pass_39 rfl 0 rfl ?_
      refine ev_get hC fl_X11_58_11 (mw 0 rfl) rfl dX11_pass_40 ?_
      refine ev_callV (As := []) (st := []) (wf := (List.flatten [SP x r1 r2 r3 r4 r5 d b1 b2 b3 hi])) hC cv_X11_185 (m_X3_capEaten G ro b1 (gosF (-1) S kk) tk_4 le_5 os t (r5 0) (-1) (raF (-1) S wa kk)  ((gosF_wf (-1) hW kk (by omega) (by omega)).1)) (by omega) rfl rfl (Nat.le_of_ble_eq_true rfl) (perm_sg (n := 2) [1, 0] rfl rfl (by decide)) (mw 1 rfl) rfl dX11_pass_43 (by omega) (by omega) ?_
      rintro _ _ _ ⟨rfl, rfl, rfl⟩
      show Ev G X 0 0 46 [(0, .ref x), (1, .int (nI kk))] [] (List.flatten [MO G b1 (vwn (capF (gosF (-1) S kk) (sn (gosF (-1) S kk) 32)) 2 6) tk_4 os (vwn (capF (gosF (-1) S kk) (sn (gosF (-1) S kk) 32)) 14 6) (vwn (capF (gosF (-1) S kk) (sn (gosF (-1) S kk) 32)) 20 6) (vwn (capF (gosF (-1) S kk) (sn (gosF (-1) S kk) 32)) 26 6) (vwn (capF (gosF (-1) S kk) (sn (gosF (-1) S kk) 32)) 51 24) le_5 ((capF (gosF (-1) S kk) (sn (gosF (-1) S kk) 32)) 32) (bitF (capF (gosF (-1) S kk) (sn (gosF (-1) S kk) 32))) ((capF (gosF (-1) S kk) (sn (gosF (-1) S kk) 32)) 0) ((capF (gosF (-1) S kk) (sn (gosF (-1) S kk) 32)) 1) t ((capF (gosF (-1) S kk) (sn (gosF (-1) S kk) 32)) 33) (-1) (raF (-1) S wa kk), SP x r1 r2 r3 r4 r5 d b1 b2 b3 hi]) ro
      refine ev_perm (ws' := (List.flatten [SP x r1 r2 r3 r4 r5 d b1 b2 b3 hi, MO G b1 (vwn (capF (gosF (-1) S kk) (sn (gosF (-1) S kk) 32)) 2 6) tk_4 os (vwn (capF (gosF (-1) S kk) (sn (gosF (-1) S kk) 32)) 14 6) (vwn (capF (gosF (-1) S kk) (sn (gosF (-1) S kk) 32)) 20 6) (vwn (capF (gosF (-1) S kk) (sn (gosF (-1) S kk) 32)) 26 6) (vwn (capF (gosF (-1) S kk) (sn (gosF (-1) S kk) 32)) 51 24) le_5 ((capF (gosF (-1) S kk) (sn (gosF (-1) S kk) 32)) 32) (bitF (capF (gosF (-1) S kk) (sn (gosF (-1) S kk) 32))) ((capF (gosF (-1) S kk) (sn (gosF (-1) S kk) 32)) 0) ((capF (gosF (-1) S kk) (sn (gosF (-1) S kk) 32)) 1) t ((capF (gosF (-1) S kk) (sn (gosF (-1) S kk) 32)) 33) (-1) (raF (-1) S wa kk)])) (perm_sg2 (n := 2) [1, 0] rfl rfl (by decide)) ?_
      have e32 : sn (gosF (-1) S kk) 32 = sn S 32 := (gosF_wf (-1) hW kk (by omega) (by omega)).2.sn (by omega)
      have eP : pasF S kk = capF (gosF (-1) S kk) (sn (gosF (-1) S kk) 32) := by rw [e32]; exact pas_gos hW kk (by omega) (by omega) (fun p hp => (hW.eaten p hp).le)
      have hWc : WF (capF (gosF (-1) S kk) (sn (gosF (-1) S kk) 32)) (9999 + kk) 9999 := by rw [← eP]; exact (pasF_wf hW (by omega) (by omega) kk (by omega)).1
      refine ev_aload_n hC dX11_pass_46 rfl 0 rfl ?_
      refine ev_get hC fl_X11_58_11 (mw 0 rfl) rfl dX11_pass_47 ?_
      refine ev_callV (As := []) (st := []) (wf := (List.flatten [SP x r1 r2 r3 r4 r5 d b1 b2 b3 hi])) hC cv_X11_176 (m_X3_allSalt G ro b1 (capF (gosF (-1) S kk) (sn (gosF (-1) S kk) 32)) tk_4 le_5 os t (r5 0) (-1) (raF (-1) S wa kk)  hWc) (by omega) rfl rfl (Nat.le_of_ble_eq_true rfl) (perm_sg (n := 2) [1, 0] rfl rfl (by decide)) (mw 1 rfl) rfl dX11_pass_50 (by omega) (by omega) ?_
      rintro _ _ _ ⟨rfl, rfl, rfl⟩
      show Ev G X 0 0 53 [(0, .ref x), (1, .int (nI kk))] [.int (sum6 (capF (gosF (-1) S kk) (sn (gosF (-1) S kk) 32)) 2)] (List.flatten [MO G b1 (vwn (capF (gosF (-1) S kk) (sn (gosF (-1) S kk) 32)) 2 6) tk_4 os (vwn (capF (gosF (-1) S kk) (sn (gosF (-1) S kk) 32)) 14 6) (vwn (capF (gosF (-1) S kk) (sn (gosF (-1) S kk) 32)) 20 6) (vwn (capF (gosF (-1) S kk) (sn (gosF (-1) S kk) 32)) 26 6) (vwn (capF (gosF (-1) S kk) (sn (gosF (-1) S kk) 32)) 51 24) le_5 ((capF (gosF (-1) S kk) (sn (gosF (-1) S kk) 32)) 32) (bitF (capF (gosF (-1) S kk) (sn (gosF (-1) S kk) 32))) ((capF (gosF (-1) S kk) (sn (gosF (-1) S kk) 32)) 0) ((capF (gosF (-1) S kk) (sn (gosF (-1) S kk) 32)) 1) t ((capF (gosF (-1) S kk) (sn (gosF (-1) S kk) 32)) 33) (-1) (raF (-1) S wa kk), SP x r1 r2 r3 r4 r5 d b1 b2 b3 hi]) ro
      refine ev_perm (ws' := (List.flatten [SP x r1 r2 r3 r4 r5 d b1 b2 b3 hi, MO G b1 (vwn (capF (gosF (-1) S kk) (sn (gosF (-1) S kk) 32)) 2 6) tk_4 os (vwn (capF (gosF (-1) S kk) (sn (gosF (-1) S kk) 32)) 14 6) (vwn (capF (gosF (-1) S kk) (sn (gosF (-1) S kk) 32)) 20 6) (vwn (capF (gosF (-1) S kk) (sn (gosF (-1) S kk) 32)) 26 6) (vwn (capF (gosF (-1) S kk) (sn (gosF (-1) S kk) 32)) 51 24) le_5 ((capF (gosF (-1) S kk) (sn (gosF (-1) S kk) 32)) 32) (bitF (capF (gosF (-1) S kk) (sn (gosF (-1) S kk) 32))) ((capF (gosF (-1) S kk) (sn (gosF (-1) S kk) 32)) 0) ((capF (gosF (-1) S kk) (sn (gosF (-1) S kk) 32)) 1) t ((capF (gosF (-1) S kk) (sn (gosF (-1) S kk) 32)) 33) (-1) (raF (-1) S wa kk)])) (perm_sg2 (n := 2) [1, 0] rfl rfl (by decide)) ?_
      refine ev_iret hC hR rfl dX11_pass_53 ?_
      have eR : passR S (nI kk) = (sum6 (capF (gosF (-1) S kk) (sn (gosF (-1) S kk) 32)) 2) := by rw [passR, if_pos (by assumption), hpn_kk, if_pos (by omega), eP]
      have eT : passT S (nI kk) = capF (gosF (-1) S kk) (sn (gosF (-1) S kk) 32) := by rw [passT, if_pos (by assumption), hpn_kk, if_pos (by omega), eP]
      exact ⟨tk_4, le_5, (raF (-1) S wa kk), by rw [eR], by rw [eT], rfl⟩
    · refine ev_bipush (v := (-3)) hC dX11_pass_28 (by decide) ?_
      refine ev_iret hC hR rfl dX11_pass_30 ?_
      have eR : passR S (nI kk) = (-3) := by rw [passR, if_pos (by assumption), hpn_kk, if_neg (by omega)]
      have eT : passT S (nI kk) = S := by rw [passT, if_pos (by assumption), hpn_kk, if_neg (by omega)]
      exact ⟨tk, le, wa, by rw [eR], by rw [eT], rfl⟩
  · refine ev_bipush (v := (-2)) hC dX11_pass_10 (by decide) ?_
    refine ev_iret hC hR rfl dX11_pass_12 ?_
    have eR : passR S y = (-2) := by rw [passR, if_neg (by assumption)]
    have eT : passT S y = S := by rw [passT, if_neg (by assumption)]
    exact ⟨tk, le, wa, by rw [eR], by rw [eT], rfl⟩
