set_option maxHeartbeats 4000000 in
set_option maxRecDepth 100000 in
theorem m_X11_isPerson (G : GG) (ro : va_W) (x : Nat) (r1 r2 r3 r4 r5 d b1 b2 b3 : Nat → Nat) (hi : Int32) (S tk le : Nat → Int32) (os : Nat → Option Nat) (t : Nat) (mu wa y : Int32)  : Mth G M_X11_isPerson 1 0 0 [.ref x, .int y] (List.flatten [SP x r1 r2 r3 r4 r5 d b1 b2 b3 hi, MO G b1 (vwn S 2 6) tk os (vwn S 14 6) (vwn S 20 6) (vwn S 26 6) (vwn S 51 24) le (S 32) (bitF S) (S 0) (S 1) t (S 33) mu wa]) ro (fun r ws' ro' => r = some (.int (bI ((nI 0) ≤ y ∧ y ≤ (S 32 - nI 1)))) ∧ ws' = (List.flatten [SP x r1 r2 r3 r4 r5 d b1 b2 b3 hi, MO G b1 (vwn S 2 6) tk os (vwn S 14 6) (vwn S 20 6) (vwn S 26 6) (vwn S 51 24) le (S 32) (bitF S) (S 0) (S 1) t (S 33) mu wa]) ∧ ro = ro') := by
  refine mth_of (by decide +kernel) (Nat.le_of_ble_eq_true rfl) (fun X hC hR => ?_)
  show Ev G X 0 0 0 [(0, .ref x), (1, .int y)] [] (List.flatten [SP x r1 r2 r3 r4 r5 d b1 b2 b3 hi, MO G b1 (vwn S 2 6) tk os (vwn S 14 6) (vwn S 20 6) (vwn S 26 6) (vwn S 51 24) le (S 32) (bitF S) (S 0) (S 1) t (S 33) mu wa]) ro
  refine ev_iload_n hC dX11_isPerson_0 rfl 1 rfl ?_
  refine ev_iconst (v := (nI 0)) hC dX11_isPerson_1 (by decide) ?_
  refine ev_aload_n hC dX11_isPerson_2 rfl 0 rfl ?_
  refine ev_get hC fl_X11_58_11 (mw 0 rfl) rfl dX11_isPerson_3 ?_
  refine ev_get hC fl_X11_107_3 (mw 1 rfl) rfl dX11_isPerson_6 ?_
  refine ev_iconst (v := (nI 1)) hC dX11_isPerson_9 (by decide) ?_
  refine ev_isub hC dX11_isPerson_10 ?_
  refine ev_callS (As := [.int y, .int (nI 0), .int ((S 32) - (nI 1))]) (st := []) (wc := []) (wf := (List.flatten [SP x r1 r2 r3 r4 r5 d b1 b2 b3 hi, MO G b1 (vwn S 2 6) tk os (vwn S 14 6) (vwn S 20 6) (vwn S 26 6) (vwn S 51 24) le (S 32) (bitF S) (S 0) (S 1) t (S 33) mu wa])) hC ct_X11_68 (m_X11_isWithin G ro y (nI 0) ((S 32) - (nI 1))) (by omega) rfl rfl (Nat.le_of_ble_eq_true rfl) (List.Perm.refl _) dX11_isPerson_11 (by omega) (by omega) ?_
  rintro _ _ _ ⟨rfl, rfl, rfl⟩
  refine ev_ws (List.nil_append _) ?_
  show Ev G X 0 0 14 [(0, .ref x), (1, .int y)] [.int (bI ((nI 0) ≤ y ∧ y ≤ ((S 32) - (nI 1))))] (List.flatten [SP x r1 r2 r3 r4 r5 d b1 b2 b3 hi, MO G b1 (vwn S 2 6) tk os (vwn S 14 6) (vwn S 20 6) (vwn S 26 6) (vwn S 51 24) le (S 32) (bitF S) (S 0) (S 1) t (S 33) mu wa]) ro
  refine ev_zret hC hR rfl (bI_nar _) dX11_isPerson_14 ?_
  exact ⟨rfl, rfl, rfl⟩

set_option maxHeartbeats 4000000 in
set_option maxRecDepth 100000 in
theorem m_X11_lasts (G : GG) (ro : va_W) (x : Nat) (r1 r2 r3 r4 r5 d b1 b2 b3 : Nat → Nat) (hi : Int32) (S tk le T tk3 le3 : Nat → Int32) (os os3 : Nat → Option Nat) (t t3 : Nat) (wa st3 wa3 : Int32)  (hW : WF S 9999 9999) (hO : MoOK G ro (r5 0) S os t)  : Mth G M_X11_lasts 8 0 0 [.ref x] (List.flatten [SP x r1 r2 r3 r4 r5 d b1 b2 b3 hi, MO G b1 (vwn S 2 6) tk os (vwn S 14 6) (vwn S 20 6) (vwn S 26 6) (vwn S 51 24) le (S 32) (bitF S) (S 0) (S 1) t (S 33) (-1) wa, MO G b3 (vwn T 2 6) tk3 os3 (vwn T 14 6) (vwn T 20 6) (vwn T 26 6) (vwn T 51 24) le3 (T 32) (bitF T) (T 0) (T 1) t3 (T 33) st3 wa3]) ro (fun r ws' ro' => ∃ (T' : Nat → Int32), ∃ (tk3' : Nat → Int32), ∃ (le3' : Nat → Int32), ∃ (os3' : Nat → Option Nat), ∃ (t3' : Nat), ∃ (st3' : Int32), ∃ (wa3' : Int32), r = some (.int (lastsR S)) ∧ ws' = (List.flatten [SP x r1 r2 r3 r4 r5 d b1 b2 b3 hi, MO G b1 (vwn S 2 6) tk os (vwn S 14 6) (vwn S 20 6) (vwn S 26 6) (vwn S 51 24) le (S 32) (bitF S) (S 0) (S 1) t (S 33) (-1) wa, MO G b3 (vwn T' 2 6) tk3' os3' (vwn T' 14 6) (vwn T' 20 6) (vwn T' 26 6) (vwn T' 51 24) le3' (T' 32) (bitF T') (T' 0) (T' 1) t3' (T' 33) st3' wa3']) ∧ ro = ro') := by
  refine mth_of (by decide +kernel) (Nat.le_of_ble_eq_true rfl) (fun X hC hR => ?_)
  have b32 := hW.peo.le
  show Ev G X 0 0 0 [(0, .ref x)] [] (List.flatten [SP x r1 r2 r3 r4 r5 d b1 b2 b3 hi, MO G b1 (vwn S 2 6) tk os (vwn S 14 6) (vwn S 20 6) (vwn S 26 6) (vwn S 51 24) le (S 32) (bitF S) (S 0) (S 1) t (S 33) (-1) wa, MO G b3 (vwn T 2 6) tk3 os3 (vwn T 14 6) (vwn T 20 6) (vwn T 26 6) (vwn T 51 24) le3 (T 32) (bitF T) (T 0) (T 1) t3 (T 33) st3 wa3]) ro
  refine ev_aload_n hC dX11_lasts_0 rfl 0 rfl ?_
  refine ev_callV (As := []) (st := []) (wf := (List.flatten [])) hC cv_X11_192 (m_X11_asItIs G ro x r1 r2 r3 r4 r5 d b1 b2 b3 hi S tk le T tk3 le3 os os3 t t3 wa st3 wa3 hW hO ) (by omega) rfl rfl (Nat.le_of_ble_eq_true rfl) (perm_sg (n := 3) [0, 1, 2] rfl rfl (by decide)) (mw 0 rfl) rfl dX11_lasts_1 (by omega) (by omega) ?_
  rintro _ _ _ ⟨rfl, rfl, rfl⟩
  show Ev G X 0 0 4 [(0, .ref x)] [.ref (b3 0)] (List.flatten [SP x r1 r2 r3 r4 r5 d b1 b2 b3 hi, MO G b1 (vwn S 2 6) tk os (vwn S 14 6) (vwn S 20 6) (vwn S 26 6) (vwn S 51 24) le (S 32) (bitF S) (S 0) (S 1) t (S 33) (-1) wa, MO G b3 (vwn S 2 6) tk3 (cpO 6 os os3) (vwn S 14 6) (vwn S 20 6) (vwn S 26 6) (vwn S 51 24) le3 (S 32) (bitF S) (S 0) (S 1) t (S 33) (-1) (nI 0)]) ro
  have hO_1 := hO.os hW (os' := cpO 6 os os3) (fun p hp => if_pos hp)
  have wl_6 := warF_le (-1) S
  refine ev_callS (As := [.ref (b3 0)]) (st := []) (wf := (List.flatten [SP x r1 r2 r3 r4 r5 d b1 b2 b3 hi, MO G b1 (vwn S 2 6) tk os (vwn S 14 6) (vwn S 20 6) (vwn S 26 6) (vwn S 51 24) le (S 32) (bitF S) (S 0) (S 1) t (S 33) (-1) wa])) hC ct_X11_196 (m_X11_daysLasting G ro b3 S tk3 le3 (cpO 6 os os3) t (r5 0) (-1) (nI 0) hW hO_1 (by omega) (by omega)) (by omega) rfl rfl (Nat.le_of_ble_eq_true rfl) (perm_sg (n := 3) [2, 0, 1] rfl rfl (by decide)) dX11_lasts_4 (by omega) (by omega) ?_
  rintro _ _ _ ⟨S_2, tk_3, le_4, wa_5, rfl, rfl, rfl⟩
  show Ev G X 0 0 7 [(0, .ref x)] [.int (nI (warF (-1) S))] (List.flatten [MO G b3 (vwn S_2 2 6) tk_3 (cpO 6 os os3) (vwn S_2 14 6) (vwn S_2 20 6) (vwn S_2 26 6) (vwn S_2 51 24) le_4 (S_2 32) (bitF S_2) (S_2 0) (S_2 1) t (S_2 33) (-1) wa_5, SP x r1 r2 r3 r4 r5 d b1 b2 b3 hi, MO G b1 (vwn S 2 6) tk os (vwn S 14 6) (vwn S 20 6) (vwn S 26 6) (vwn S 51 24) le (S 32) (bitF S) (S 0) (S 1) t (S 33) (-1) wa]) ro
  refine ev_perm (ws' := (List.flatten [SP x r1 r2 r3 r4 r5 d b1 b2 b3 hi, MO G b1 (vwn S 2 6) tk os (vwn S 14 6) (vwn S 20 6) (vwn S 26 6) (vwn S 51 24) le (S 32) (bitF S) (S 0) (S 1) t (S 33) (-1) wa, MO G b3 (vwn S_2 2 6) tk_3 (cpO 6 os os3) (vwn S_2 14 6) (vwn S_2 20 6) (vwn S_2 26 6) (vwn S_2 51 24) le_4 (S_2 32) (bitF S_2) (S_2 0) (S_2 1) t (S_2 33) (-1) wa_5])) (perm_sg2 (n := 3) [1, 2, 0] rfl rfl (by decide)) ?_
  refine ev_istore_n (lv' := [(1, .int (nI (warF (-1) S))), (0, .ref x)]) hC dX11_lasts_7 rfl (by decide) rfl ?_
  refine ev_iload_n hC dX11_lasts_8 rfl 0 rfl ?_
  refine ev_bipush (v := (nI 99)) hC dX11_lasts_9 (by decide) ?_
  refine ev_icmp_leN (tgt := 19) hC dX11_lasts_11 (by decide) (by omega) (by omega) (fun c_7 => ?_) (fun c_7 => ?_)
  · refine ev_iload_n hC dX11_lasts_19 rfl 0 rfl ?_
    refine ev_iret hC hR rfl dX11_lasts_20 ?_
    have er : lastsR S = (nI (warF (-1) S)) := by rw [lastsR, if_neg (by omega)]
    exact ⟨_, _, _, _, _, _, _, by rw [er], rfl, rfl⟩
  · refine ev_bipush (v := (-5)) hC dX11_lasts_14 (by decide) ?_
    refine ev_goto (tgt := 20) hC dX11_lasts_16 (by decide) ?_
    refine ev_iret hC hR rfl dX11_lasts_20 ?_
    have er : lastsR S = (-5) := by rw [lastsR, if_pos (by omega)]
    exact ⟨_, _, _, _, _, _, _, by rw [er], rfl, rfl⟩

set_option maxHeartbeats 4000000 in
set_option maxRecDepth 100000 in
theorem m_X11_hollow (G : GG) (ro : va_W) (x : Nat) (r1 r2 r3 r4 r5 d b1 b2 b3 : Nat → Nat) (hi : Int32) (S tk le T tk3 le3 : Nat → Int32) (os os3 : Nat → Option Nat) (t t3 : Nat) (wa st3 wa3 : Int32)  (hW : WF S 9999 9999) (hO : MoOK G ro (r5 0) S os t)  : Mth G M_X11_hollow 8 0 0 [.ref x] (List.flatten [SP x r1 r2 r3 r4 r5 d b1 b2 b3 hi, MO G b1 (vwn S 2 6) tk os (vwn S 14 6) (vwn S 20 6) (vwn S 26 6) (vwn S 51 24) le (S 32) (bitF S) (S 0) (S 1) t (S 33) (-1) wa]) ro (fun r ws' ro' => r = some (.int (nI (thinF S 5))) ∧ ws' = (List.flatten [SP x r1 r2 r3 r4 r5 d b1 b2 b3 hi, MO G b1 (vwn S 2 6) tk os (vwn S 14 6) (vwn S 20 6) (vwn S 26 6) (vwn S 51 24) le (S 32) (bitF S) (S 0) (S 1) t (S 33) (-1) wa]) ∧ ro = ro') := by
  refine mth_of (by decide +kernel) (Nat.le_of_ble_eq_true rfl) (fun X hC hR => ?_)
  have b32 := hW.peo.le
  show Ev G X 0 0 0 [(0, .ref x)] [] (List.flatten [SP x r1 r2 r3 r4 r5 d b1 b2 b3 hi, MO G b1 (vwn S 2 6) tk os (vwn S 14 6) (vwn S 20 6) (vwn S 26 6) (vwn S 51 24) le (S 32) (bitF S) (S 0) (S 1) t (S 33) (-1) wa]) ro
  refine ev_aload_n hC dX11_hollow_0 rfl 0 rfl ?_
  refine ev_get hC fl_X11_58_11 (mw 0 rfl) rfl dX11_hollow_1 ?_
  refine ev_callV (As := []) (st := []) (wf := (List.flatten [SP x r1 r2 r3 r4 r5 d b1 b2 b3 hi])) hC cv_X11_200 (m_X3_thinnestSide G ro b1 S tk le os t (r5 0) (-1) wa  hW) (by omega) rfl rfl (Nat.le_of_ble_eq_true rfl) (perm_sg (n := 2) [1, 0] rfl rfl (by decide)) (mw 1 rfl) rfl dX11_hollow_4 (by omega) (by omega) ?_
  rintro _ _ _ ⟨rfl, rfl, rfl⟩
  show Ev G X 0 0 7 [(0, .ref x)] [.int (nI (thinF S 5))] (List.flatten [MO G b1 (vwn S 2 6) tk os (vwn S 14 6) (vwn S 20 6) (vwn S 26 6) (vwn S 51 24) le (S 32) (bitF S) (S 0) (S 1) t (S 33) (-1) wa, SP x r1 r2 r3 r4 r5 d b1 b2 b3 hi]) ro
  refine ev_perm (ws' := (List.flatten [SP x r1 r2 r3 r4 r5 d b1 b2 b3 hi, MO G b1 (vwn S 2 6) tk os (vwn S 14 6) (vwn S 20 6) (vwn S 26 6) (vwn S 51 24) le (S 32) (bitF S) (S 0) (S 1) t (S 33) (-1) wa])) (perm_sg2 (n := 2) [1, 0] rfl rfl (by decide)) ?_
  refine ev_iret hC hR rfl dX11_hollow_7 ?_
  exact ⟨rfl, rfl, rfl⟩

set_option maxHeartbeats 4000000 in
set_option maxRecDepth 100000 in
theorem m_X11_thinnest (G : GG) (ro : va_W) (x : Nat) (r1 r2 r3 r4 r5 d b1 b2 b3 : Nat → Nat) (hi : Int32) (S tk le T tk3 le3 : Nat → Int32) (os os3 : Nat → Option Nat) (t t3 : Nat) (wa st3 wa3 : Int32) (y w : Int32) (hW : WF S 9999 9999) (hO : MoOK G ro (r5 0) S os t)  : Mth G M_X11_thinnest 8 0 0 [.ref x, .int y, .int w] (List.flatten [SP x r1 r2 r3 r4 r5 d b1 b2 b3 hi, MO G b1 (vwn S 2 6) tk os (vwn S 14 6) (vwn S 20 6) (vwn S 26 6) (vwn S 51 24) le (S 32) (bitF S) (S 0) (S 1) t (S 33) (-1) wa, MO G b3 (vwn T 2 6) tk3 os3 (vwn T 14 6) (vwn T 20 6) (vwn T 26 6) (vwn T 51 24) le3 (T 32) (bitF T) (T 0) (T 1) t3 (T 33) st3 wa3]) ro (fun r ws' ro' => ∃ (T' : Nat → Int32), ∃ (tk3' : Nat → Int32), ∃ (le3' : Nat → Int32), ∃ (os3' : Nat → Option Nat), ∃ (t3' : Nat), ∃ (st3' : Int32), ∃ (wa3' : Int32), r = some (.int (thinnestR S y w)) ∧ ws' = (List.flatten [SP x r1 r2 r3 r4 r5 d b1 b2 b3 hi, MO G b1 (vwn S 2 6) tk os (vwn S 14 6) (vwn S 20 6) (vwn S 26 6) (vwn S 51 24) le (S 32) (bitF S) (S 0) (S 1) t (S 33) (-1) wa, MO G b3 (vwn T' 2 6) tk3' os3' (vwn T' 14 6) (vwn T' 20 6) (vwn T' 26 6) (vwn T' 51 24) le3' (T' 32) (bitF T') (T' 0) (T' 1) t3' (T' 33) st3' wa3']) ∧ ro = ro') := by
  refine mth_of (by decide +kernel) (Nat.le_of_ble_eq_true rfl) (fun X hC hR => ?_)
  have b32 := hW.peo.le
  show Ev G X 0 0 0 [(0, .ref x), (1, .int y), (2, .int w)] [] (List.flatten [SP x r1 r2 r3 r4 r5 d b1 b2 b3 hi, MO G b1 (vwn S 2 6) tk os (vwn S 14 6) (vwn S 20 6) (vwn S 26 6) (vwn S 51 24) le (S 32) (bitF S) (S 0) (S 1) t (S 33) (-1) wa, MO G b3 (vwn T 2 6) tk3 os3 (vwn T 14 6) (vwn T 20 6) (vwn T 26 6) (vwn T 51 24) le3 (T 32) (bitF T) (T 0) (T 1) t3 (T 33) st3 wa3]) ro
  refine ev_iload_n hC dX11_thinnest_0 rfl 2 rfl ?_
  refine ev_iconst (v := (nI 0)) hC dX11_thinnest_1 (by decide) ?_
  refine ev_iconst (v := (nI 1)) hC dX11_thinnest_2 (by decide) ?_
  refine ev_callS (As := [.int w, .int (nI 0), .int (nI 1)]) (st := []) (wc := []) (wf := (List.flatten [SP x r1 r2 r3 r4 r5 d b1 b2 b3 hi, MO G b1 (vwn S 2 6) tk os (vwn S 14 6) (vwn S 20 6) (vwn S 26 6) (vwn S 51 24) le (S 32) (bitF S) (S 0) (S 1) t (S 33) (-1) wa, MO G b3 (vwn T 2 6) tk3 os3 (vwn T 14 6) (vwn T 20 6) (vwn T 26 6) (vwn T 51 24) le3 (T 32) (bitF T) (T 0) (T 1) t3 (T 33) st3 wa3])) hC ct_X11_68 (m_X11_isWithin G ro w (nI 0) (nI 1)) (by omega) rfl rfl (Nat.le_of_ble_eq_true rfl) (List.Perm.refl _) dX11_thinnest_3 (by omega) (by omega) ?_
  rintro _ _ _ ⟨rfl, rfl, rfl⟩
  refine ev_ws (List.nil_append _) ?_
  show Ev G X 0 0 6 [(0, .ref x), (1, .int y), (2, .int w)] [.int (bI ((nI 0) ≤ w ∧ w ≤ (nI 1)))] (List.flatten [SP x r1 r2 r3 r4 r5 d b1 b2 b3 hi, MO G b1 (vwn S 2 6) tk os (vwn S 14 6) (vwn S 20 6) (vwn S 26 6) (vwn S 51 24) le (S 32) (bitF S) (S 0) (S 1) t (S 33) (-1) wa, MO G b3 (vwn T 2 6) tk3 os3 (vwn T 14 6) (vwn T 20 6) (vwn T 26 6) (vwn T 51 24) le3 (T 32) (bitF T) (T 0) (T 1) t3 (T 33) st3 wa3]) ro
  refine ev_if_neB (tgt := 11) hC dX11_thinnest_6 (by decide) (fun c_1 => ?_) (fun c_1 => ?_)
  · obtain ⟨wk, hwk, rfl⟩ := inN (m := 1) (by omega) (by assumption)
    rcases (show wk = 0 ∨ wk = 1 by omega) with rfl | rfl
    · refine ev_iload_n hC dX11_thinnest_11 rfl 1 rfl ?_
      refine ev_iconst (v := (nI 0)) hC dX11_thinnest_12 (by decide) ?_
      refine ev_bipush (v := (nI 60)) hC dX11_thinnest_13 (by decide) ?_
      refine ev_callS (As := [.int y, .int (nI 0), .int (nI 60)]) (st := []) (wc := []) (wf := (List.flatten [SP x r1 r2 r3 r4 r5 d b1 b2 b3 hi, MO G b1 (vwn S 2 6) tk os (vwn S 14 6) (vwn S 20 6) (vwn S 26 6) (vwn S 51 24) le (S 32) (bitF S) (S 0) (S 1) t (S 33) (-1) wa, MO G b3 (vwn T 2 6) tk3 os3 (vwn T 14 6) (vwn T 20 6) (vwn T 26 6) (vwn T 51 24) le3 (T 32) (bitF T) (T 0) (T 1) t3 (T 33) st3 wa3])) hC ct_X11_68 (m_X11_isWithin G ro y (nI 0) (nI 60)) (by omega) rfl rfl (Nat.le_of_ble_eq_true rfl) (List.Perm.refl _) dX11_thinnest_15 (by omega) (by omega) ?_
      rintro _ _ _ ⟨rfl, rfl, rfl⟩
      refine ev_ws (List.nil_append _) ?_
      show Ev G X 0 0 18 [(0, .ref x), (1, .int y), (2, .int (nI 0))] [.int (bI ((nI 0) ≤ y ∧ y ≤ (nI 60)))] (List.flatten [SP x r1 r2 r3 r4 r5 d b1 b2 b3 hi, MO G b1 (vwn S 2 6) tk os (vwn S 14 6) (vwn S 20 6) (vwn S 26 6) (vwn S 51 24) le (S 32) (bitF S) (S 0) (S 1) t (S 33) (-1) wa, MO G b3 (vwn T 2 6) tk3 os3 (vwn T 14 6) (vwn T 20 6) (vwn T 26 6) (vwn T 51 24) le3 (T 32) (bitF T) (T 0) (T 1) t3 (T 33) st3 wa3]) ro
      refine ev_if_neB (tgt := 24) hC dX11_thinnest_18 (by decide) (fun c_2 => ?_) (fun c_2 => ?_)
      · obtain ⟨kk, hkk, rfl⟩ := inN (m := 60) (by omega) (by assumption)
        have hpn_kk : pn (nI kk) = kk := nI_clamp (by omega)
        refine ev_aload_n hC dX11_thinnest_24 rfl 0 rfl ?_
        refine ev_iload_n hC dX11_thinnest_25 rfl 1 rfl ?_
        refine ev_callV (As := [.int (nI kk)]) (st := []) (wf := (List.flatten [])) hC cv_X11_188 (m_X11_after G ro x r1 r2 r3 r4 r5 d b1 b2 b3 hi S tk le T tk3 le3 os os3 t t3 wa st3 wa3 kk hW hO (by omega) (by omega) (by omega)) (by omega) rfl rfl (Nat.le_of_ble_eq_true rfl) (perm_sg (n := 3) [0, 1, 2] rfl rfl (by decide)) (mw 0 rfl) rfl dX11_thinnest_26 (by omega) (by omega) ?_
        rintro _ _ _ ⟨tk_3, le_4, hK_5, rfl, rfl, rfl⟩
        show Ev G X 0 0 29 [(0, .ref x), (1, .int (nI kk)), (2, .int (nI 0))] [.ref (b3 0)] (List.flatten [SP x r1 r2 r3 r4 r5 d b1 b2 b3 hi, MO G b1 (vwn S 2 6) tk os (vwn S 14 6) (vwn S 20 6) (vwn S 26 6) (vwn S 51 24) le (S 32) (bitF S) (S 0) (S 1) t (S 33) (-1) wa, MO G b3 (vwn (gosF (-1) S kk) 2 6) tk_3 (cpO 6 os os3) (vwn (gosF (-1) S kk) 14 6) (vwn (gosF (-1) S kk) 20 6) (vwn (gosF (-1) S kk) 26 6) (vwn (gosF (-1) S kk) 51 24) le_4 ((gosF (-1) S kk) 32) (bitF (gosF (-1) S kk)) ((gosF (-1) S kk) 0) ((gosF (-1) S kk) 1) t ((gosF (-1) S kk) 33) (-1) (raF (-1) S (nI 0) kk)]) ro
        have hO_6 := hO.os hW (os' := cpO 6 os os3) (fun p hp => if_pos hp)
        refine ev_astore_n (lv' := [(3, .ref (b3 0)), (0, .ref x), (1, .int (nI kk)), (2, .int (nI 0))]) hC dX11_thinnest_29 rfl (by decide) rfl ?_
        refine ev_aload_n hC dX11_thinnest_30 rfl 0 rfl ?_
        refine ev_callV (As := []) (st := []) (wf := (List.flatten [SP x r1 r2 r3 r4 r5 d b1 b2 b3 hi, MO G b1 (vwn S 2 6) tk os (vwn S 14 6) (vwn S 20 6) (vwn S 26 6) (vwn S 51 24) le (S 32) (bitF S) (S 0) (S 1) t (S 33) (-1) wa])) hC cv_X11_200 (m_X3_thinnestSide G ro b3 (gosF (-1) S kk) tk_3 le_4 (cpO 6 os os3) t (r5 0) (-1) (raF (-1) S (nI 0) kk)  ((gosF_wf (-1) hW kk (by omega) (by omega)).1)) (by omega) rfl rfl (Nat.le_of_ble_eq_true rfl) (perm_sg (n := 3) [2, 0, 1] rfl rfl (by decide)) (mw 10 rfl) rfl dX11_thinnest_31 (by omega) (by omega) ?_
        rintro _ _ _ ⟨rfl, rfl, rfl⟩
        show Ev G X 0 0 34 [(3, .ref (b3 0)), (0, .ref x), (1, .int (nI kk)), (2, .int (nI 0))] [.int (nI (thinF (gosF (-1) S kk) 5))] (List.flatten [MO G b3 (vwn (gosF (-1) S kk) 2 6) tk_3 (cpO 6 os os3) (vwn (gosF (-1) S kk) 14 6) (vwn (gosF (-1) S kk) 20 6) (vwn (gosF (-1) S kk) 26 6) (vwn (gosF (-1) S kk) 51 24) le_4 ((gosF (-1) S kk) 32) (bitF (gosF (-1) S kk)) ((gosF (-1) S kk) 0) ((gosF (-1) S kk) 1) t ((gosF (-1) S kk) 33) (-1) (raF (-1) S (nI 0) kk), SP x r1 r2 r3 r4 r5 d b1 b2 b3 hi, MO G b1 (vwn S 2 6) tk os (vwn S 14 6) (vwn S 20 6) (vwn S 26 6) (vwn S 51 24) le (S 32) (bitF S) (S 0) (S 1) t (S 33) (-1) wa]) ro
        refine ev_perm (ws' := (List.flatten [SP x r1 r2 r3 r4 r5 d b1 b2 b3 hi, MO G b1 (vwn S 2 6) tk os (vwn S 14 6) (vwn S 20 6) (vwn S 26 6) (vwn S 51 24) le (S 32) (bitF S) (S 0) (S 1) t (S 33) (-1) wa, MO G b3 (vwn (gosF (-1) S kk) 2 6) tk_3 (cpO 6 os os3) (vwn (gosF (-1) S kk) 14 6) (vwn (gosF (-1) S kk) 20 6) (vwn (gosF (-1) S kk) 26 6) (vwn (gosF (-1) S kk) 51 24) le_4 ((gosF (-1) S kk) 32) (bitF (gosF (-1) S kk)) ((gosF (-1) S kk) 0) ((gosF (-1) S kk) 1) t ((gosF (-1) S kk) 33) (-1) (raF (-1) S (nI 0) kk)])) (perm_sg2 (n := 3) [1, 2, 0] rfl rfl (by decide)) ?_
        have htl := thinF_le (gosF (-1) S kk) 5
        refine ev_istore (lv' := [(4, .int (nI (thinF (gosF (-1) S kk) 5))), (3, .ref (b3 0)), (0, .ref x), (1, .int (nI kk)), (2, .int (nI 0))]) hC dX11_thinnest_34 (by decide) rfl ?_
        refine ev_iload_n hC dX11_thinnest_36 rfl 4 rfl ?_
        refine ev_if_neN (tgt := 45) hC dX11_thinnest_37 (by decide) (by omega) (fun c_7 => absurd c_7 (by omega)) (fun c_7 => ?_)
        refine ev_iload hC dX11_thinnest_40 0 rfl ?_
        refine ev_goto (tgt := 52) hC dX11_thinnest_42 (by decide) ?_
        refine ev_iret hC hR rfl dX11_thinnest_52 ?_
        have er : thinnestR S (nI kk) (nI 0) = (nI (thinF (gosF (-1) S kk) 5)) := by rw [thinnestR, if_pos (by assumption), if_pos (by assumption), hpn_kk, if_pos rfl]
        exact ⟨_, _, _, _, _, _, _, by rw [er], rfl, rfl⟩
      · refine ev_bipush (v := (-2)) hC dX11_thinnest_21 (by decide) ?_
        refine ev_iret hC hR rfl dX11_thinnest_23 ?_
        have er : thinnestR S y (nI 0) = (-2) := by rw [thinnestR, if_pos (by assumption), if_neg (by assumption)]
        exact ⟨_, _, _, _, _, _, _, by rw [er], rfl, rfl⟩
    · refine ev_iload_n hC dX11_thinnest_11 rfl 1 rfl ?_
      refine ev_iconst (v := (nI 0)) hC dX11_thinnest_12 (by decide) ?_
      refine ev_bipush (v := (nI 60)) hC dX11_thinnest_13 (by decide) ?_
      refine ev_callS (As := [.int y, .int (nI 0), .int (nI 60)]) (st := []) (wc := []) (wf := (List.flatten [SP x r1 r2 r3 r4 r5 d b1 b2 b3 hi, MO G b1 (vwn S 2 6) tk os (vwn S 14 6) (vwn S 20 6) (vwn S 26 6) (vwn S 51 24) le (S 32) (bitF S) (S 0) (S 1) t (S 33) (-1) wa, MO G b3 (vwn T 2 6) tk3 os3 (vwn T 14 6) (vwn T 20 6) (vwn T 26 6) (vwn T 51 24) le3 (T 32) (bitF T) (T 0) (T 1) t3 (T 33) st3 wa3])) hC ct_X11_68 (m_X11_isWithin G ro y (nI 0) (nI 60)) (by omega) rfl rfl (Nat.le_of_ble_eq_true rfl) (List.Perm.refl _) dX11_thinnest_15 (by omega) (by omega) ?_
      rintro _ _ _ ⟨rfl, rfl, rfl⟩
      refine ev_ws (List.nil_append _) ?_
      show Ev G X 0 0 18 [(0, .ref x), (1, .int y), (2, .int (nI 1))] [.int (bI ((nI 0) ≤ y ∧ y ≤ (nI 60)))] (List.flatten [SP x r1 r2 r3 r4 r5 d b1 b2 b3 hi, MO G b1 (vwn S 2 6) tk os (vwn S 14 6) (vwn S 20 6) (vwn S 26 6) (vwn S 51 24) le (S 32) (bitF S) (S 0) (S 1) t (S 33) (-1) wa, MO G b3 (vwn T 2 6) tk3 os3 (vwn T 14 6) (vwn T 20 6) (vwn T 26 6) (vwn T 51 24) le3 (T 32) (bitF T) (T 0) (T 1) t3 (T 33) st3 wa3]) ro
      refine ev_if_neB (tgt := 24) hC dX11_thinnest_18 (by decide) (fun c_8 => ?_) (fun c_8 => ?_)
      · obtain ⟨kk, hkk, rfl⟩ := inN (m := 60) (by omega) (by assumption)
        have hpn_kk : pn (nI kk) = kk := nI_clamp (by omega)
        refine ev_aload_n hC dX11_thinnest_24 rfl 0 rfl ?_
        refine ev_iload_n hC dX11_thinnest_25 rfl 1 rfl ?_
        refine ev_callV (As := [.int (nI kk)]) (st := []) (wf := (List.flatten [])) hC cv_X11_188 (m_X11_after G ro x r1 r2 r3 r4 r5 d b1 b2 b3 hi S tk le T tk3 le3 os os3 t t3 wa st3 wa3 kk hW hO (by omega) (by omega) (by omega)) (by omega) rfl rfl (Nat.le_of_ble_eq_true rfl) (perm_sg (n := 3) [0, 1, 2] rfl rfl (by decide)) (mw 0 rfl) rfl dX11_thinnest_26 (by omega) (by omega) ?_
        rintro _ _ _ ⟨tk_9, le_10, hK_11, rfl, rfl, rfl⟩
        show Ev G X 0 0 29 [(0, .ref x), (1, .int (nI kk)), (2, .int (nI 1))] [.ref (b3 0)] (List.flatten [SP x r1 r2 r3 r4 r5 d b1 b2 b3 hi, MO G b1 (vwn S 2 6) tk os (vwn S 14 6) (vwn S 20 6) (vwn S 26 6) (vwn S 51 24) le (S 32) (bitF S) (S 0) (S 1) t (S 33) (-1) wa, MO G b3 (vwn (gosF (-1) S kk) 2 6) tk_9 (cpO 6 os os3) (vwn (gosF (-1) S kk) 14 6) (vwn (gosF (-1) S kk) 20 6) (vwn (gosF (-1) S kk) 26 6) (vwn (gosF (-1) S kk) 51 24) le_10 ((gosF (-1) S kk) 32) (bitF (gosF (-1) S kk)) ((gosF (-1) S kk) 0) ((gosF (-1) S kk) 1) t ((gosF (-1) S kk) 33) (-1) (raF (-1) S (nI 0) kk)]) ro
        have hO_12 := hO.os hW (os' := cpO 6 os os3) (fun p hp => if_pos hp)
        refine ev_astore_n (lv' := [(3, .ref (b3 0)), (0, .ref x), (1, .int (nI kk)), (2, .int (nI 1))]) hC dX11_thinnest_29 rfl (by decide) rfl ?_
        refine ev_aload_n hC dX11_thinnest_30 rfl 0 rfl ?_
        refine ev_callV (As := []) (st := []) (wf := (List.flatten [SP x r1 r2 r3 r4 r5 d b1 b2 b3 hi, MO G b1 (vwn S 2 6) tk os (vwn S 14 6) (vwn S 20 6) (vwn S 26 6) (vwn S 51 24) le (S 32) (bitF S) (S 0) (S 1) t (S 33) (-1) wa])) hC cv_X11_200 (m_X3_thinnestSide G ro b3 (gosF (-1) S kk) tk_9 le_10 (cpO 6 os os3) t (r5 0) (-1) (raF (-1) S (nI 0) kk)  ((gosF_wf (-1) hW kk (by omega) (by omega)).1)) (by omega) rfl rfl (Nat.le_of_ble_eq_true rfl) (perm_sg (n := 3) [2, 0, 1] rfl rfl (by decide)) (mw 10 rfl) rfl dX11_thinnest_31 (by omega) (by omega) ?_
        rintro _ _ _ ⟨rfl, rfl, rfl⟩
        show Ev G X 0 0 34 [(3, .ref (b3 0)), (0, .ref x), (1, .int (nI kk)), (2, .int (nI 1))] [.int (nI (thinF (gosF (-1) S kk) 5))] (List.flatten [MO G b3 (vwn (gosF (-1) S kk) 2 6) tk_9 (cpO 6 os os3) (vwn (gosF (-1) S kk) 14 6) (vwn (gosF (-1) S kk) 20 6) (vwn (gosF (-1) S kk) 26 6) (vwn (gosF (-1) S kk) 51 24) le_10 ((gosF (-1) S kk) 32) (bitF (gosF (-1) S kk)) ((gosF (-1) S kk) 0) ((gosF (-1) S kk) 1) t ((gosF (-1) S kk) 33) (-1) (raF (-1) S (nI 0) kk), SP x r1 r2 r3 r4 r5 d b1 b2 b3 hi, MO G b1 (vwn S 2 6) tk os (vwn S 14 6) (vwn S 20 6) (vwn S 26 6) (vwn S 51 24) le (S 32) (bitF S) (S 0) (S 1) t (S 33) (-1) wa]) ro
        refine ev_perm (ws' := (List.flatten [SP x r1 r2 r3 r4 r5 d b1 b2 b3 hi, MO G b1 (vwn S 2 6) tk os (vwn S 14 6) (vwn S 20 6) (vwn S 26 6) (vwn S 51 24) le (S 32) (bitF S) (S 0) (S 1) t (S 33) (-1) wa, MO G b3 (vwn (gosF (-1) S kk) 2 6) tk_9 (cpO 6 os os3) (vwn (gosF (-1) S kk) 14 6) (vwn (gosF (-1) S kk) 20 6) (vwn (gosF (-1) S kk) 26 6) (vwn (gosF (-1) S kk) 51 24) le_10 ((gosF (-1) S kk) 32) (bitF (gosF (-1) S kk)) ((gosF (-1) S kk) 0) ((gosF (-1) S kk) 1) t ((gosF (-1) S kk) 33) (-1) (raF (-1) S (nI 0) kk)])) (perm_sg2 (n := 3) [1, 2, 0] rfl rfl (by decide)) ?_
        have htl := thinF_le (gosF (-1) S kk) 5
        refine ev_istore (lv' := [(4, .int (nI (thinF (gosF (-1) S kk) 5))), (3, .ref (b3 0)), (0, .ref x), (1, .int (nI kk)), (2, .int (nI 1))]) hC dX11_thinnest_34 (by decide) rfl ?_
        refine ev_iload_n hC dX11_thinnest_36 rfl 4 rfl ?_
        refine ev_if_neN (tgt := 45) hC dX11_thinnest_37 (by decide) (by omega) (fun c_13 => ?_) (fun c_13 => absurd c_13 (by omega))
        refine ev_aload_n hC dX11_thinnest_45 rfl 1 rfl ?_
        refine ev_get hC fl_X11_158_3 (mw 10 rfl) rfl dX11_thinnest_46 ?_
        refine ev_iload hC dX11_thinnest_49 0 rfl ?_
        refine ev_ialdN (i := thinF (gosF (-1) S kk) 5) hC (mw 11 rfl) (by have := thinF_le (gosF (-1) S kk) 5; omega) (by omega) dX11_thinnest_51 ?_
        refine ev_top (y := ((gosF (-1) S kk) (2 + thinF (gosF (-1) S kk) 5))) (vwn_at (by omega)) ?_
        refine ev_iret hC hR rfl dX11_thinnest_52 ?_
        have er : thinnestR S (nI kk) (nI 1) = ((gosF (-1) S kk) (2 + thinF (gosF (-1) S kk) 5)) := by rw [thinnestR, if_pos (by assumption), if_pos (by assumption), hpn_kk, if_neg (by decide)]
        exact ⟨_, _, _, _, _, _, _, by rw [er], rfl, rfl⟩
      · refine ev_bipush (v := (-2)) hC dX11_thinnest_21 (by decide) ?_
        refine ev_iret hC hR rfl dX11_thinnest_23 ?_
        have er : thinnestR S y (nI 1) = (-2) := by rw [thinnestR, if_pos (by assumption), if_neg (by assumption)]
        exact ⟨_, _, _, _, _, _, _, by rw [er], rfl, rfl⟩
  · refine ev_iconst (v := (-1)) hC dX11_thinnest_9 (by decide) ?_
    refine ev_iret hC hR rfl dX11_thinnest_10 ?_
    have er : thinnestR S y w = (-1) := by rw [thinnestR, if_neg (by assumption)]
    exact ⟨_, _, _, _, _, _, _, by rw [er], rfl, rfl⟩

set_option maxHeartbeats 4000000 in
set_option maxRecDepth 100000 in
theorem m_X11_greediest (G : GG) (ro : va_W) (x : Nat) (r1 r2 r3 r4 r5 d b1 b2 b3 : Nat → Nat) (hi : Int32) (S tk le T tk3 le3 : Nat → Int32) (os os3 : Nat → Option Nat) (t t3 : Nat) (wa st3 wa3 : Int32) (y : Int32) (hW : WF S 9999 9999) (hO : MoOK G ro (r5 0) S os t)  : Mth G M_X11_greediest 8 0 0 [.ref x, .int y] (List.flatten [SP x r1 r2 r3 r4 r5 d b1 b2 b3 hi, MO G b1 (vwn S 2 6) tk os (vwn S 14 6) (vwn S 20 6) (vwn S 26 6) (vwn S 51 24) le (S 32) (bitF S) (S 0) (S 1) t (S 33) (-1) wa, MO G b3 (vwn T 2 6) tk3 os3 (vwn T 14 6) (vwn T 20 6) (vwn T 26 6) (vwn T 51 24) le3 (T 32) (bitF T) (T 0) (T 1) t3 (T 33) st3 wa3]) ro (fun r ws' ro' => ∃ (T' : Nat → Int32), ∃ (tk3' : Nat → Int32), ∃ (le3' : Nat → Int32), ∃ (os3' : Nat → Option Nat), ∃ (t3' : Nat), ∃ (st3' : Int32), ∃ (wa3' : Int32), r = some (.int (greediestR S y)) ∧ ws' = (List.flatten [SP x r1 r2 r3 r4 r5 d b1 b2 b3 hi, MO G b1 (vwn S 2 6) tk os (vwn S 14 6) (vwn S 20 6) (vwn S 26 6) (vwn S 51 24) le (S 32) (bitF S) (S 0) (S 1) t (S 33) (-1) wa, MO G b3 (vwn T' 2 6) tk3' os3' (vwn T' 14 6) (vwn T' 20 6) (vwn T' 26 6) (vwn T' 51 24) le3' (T' 32) (bitF T') (T' 0) (T' 1) t3' (T' 33) st3' wa3']) ∧ ro = ro') := by
  refine mth_of (by decide +kernel) (Nat.le_of_ble_eq_true rfl) (fun X hC hR => ?_)
  have b32 := hW.peo.le
  show Ev G X 0 0 0 [(0, .ref x), (1, .int y)] [] (List.flatten [SP x r1 r2 r3 r4 r5 d b1 b2 b3 hi, MO G b1 (vwn S 2 6) tk os (vwn S 14 6) (vwn S 20 6) (vwn S 26 6) (vwn S 51 24) le (S 32) (bitF S) (S 0) (S 1) t (S 33) (-1) wa, MO G b3 (vwn T 2 6) tk3 os3 (vwn T 14 6) (vwn T 20 6) (vwn T 26 6) (vwn T 51 24) le3 (T 32) (bitF T) (T 0) (T 1) t3 (T 33) st3 wa3]) ro
  refine ev_iload_n hC dX11_greediest_0 rfl 1 rfl ?_
  refine ev_iconst (v := (nI 1)) hC dX11_greediest_1 (by decide) ?_
  refine ev_bipush (v := (nI 60)) hC dX11_greediest_2 (by decide) ?_
  refine ev_callS (As := [.int y, .int (nI 1), .int (nI 60)]) (st := []) (wc := []) (wf := (List.flatten [SP x r1 r2 r3 r4 r5 d b1 b2 b3 hi, MO G b1 (vwn S 2 6) tk os (vwn S 14 6) (vwn S 20 6) (vwn S 26 6) (vwn S 51 24) le (S 32) (bitF S) (S 0) (S 1) t (S 33) (-1) wa, MO G b3 (vwn T 2 6) tk3 os3 (vwn T 14 6) (vwn T 20 6) (vwn T 26 6) (vwn T 51 24) le3 (T 32) (bitF T) (T 0) (T 1) t3 (T 33) st3 wa3])) hC ct_X11_68 (m_X11_isWithin G ro y (nI 1) (nI 60)) (by omega) rfl rfl (Nat.le_of_ble_eq_true rfl) (List.Perm.refl _) dX11_greediest_4 (by omega) (by omega) ?_
  rintro _ _ _ ⟨rfl, rfl, rfl⟩
  refine ev_ws (List.nil_append _) ?_
  show Ev G X 0 0 7 [(0, .ref x), (1, .int y)] [.int (bI ((nI 1) ≤ y ∧ y ≤ (nI 60)))] (List.flatten [SP x r1 r2 r3 r4 r5 d b1 b2 b3 hi, MO G b1 (vwn S 2 6) tk os (vwn S 14 6) (vwn S 20 6) (vwn S 26 6) (vwn S 51 24) le (S 32) (bitF S) (S 0) (S 1) t (S 33) (-1) wa, MO G b3 (vwn T 2 6) tk3 os3 (vwn T 14 6) (vwn T 20 6) (vwn T 26 6) (vwn T 51 24) le3 (T 32) (bitF T) (T 0) (T 1) t3 (T 33) st3 wa3]) ro
  refine ev_if_neB (tgt := 13) hC dX11_greediest_7 (by decide) (fun c_1 => ?_) (fun c_1 => ?_)
  · obtain ⟨kk, hkk, rfl⟩ := inN (m := 60) (by omega) ⟨Int32.le_trans (by decide) (And.left (by assumption : nI 1 ≤ y ∧ y ≤ nI 60)), And.right (by assumption : nI 1 ≤ y ∧ y ≤ nI 60)⟩
    have hpn_kk : pn (nI kk) = kk := nI_clamp (by omega)
    have h1_kk : 1 ≤ kk := (nI_leI (by omega) (by omega)).mp (And.left (by assumption : nI 1 ≤ nI kk ∧ nI kk ≤ nI 60))
    refine ev_aload_n hC dX11_greediest_13 rfl 0 rfl ?_
    refine ev_iload_n hC dX11_greediest_14 rfl 1 rfl ?_
    refine ev_callV (As := [.int (nI kk)]) (st := []) (wf := (List.flatten [])) hC cv_X11_188 (m_X11_after G ro x r1 r2 r3 r4 r5 d b1 b2 b3 hi S tk le T tk3 le3 os os3 t t3 wa st3 wa3 kk hW hO (by omega) (by omega) (by omega)) (by omega) rfl rfl (Nat.le_of_ble_eq_true rfl) (perm_sg (n := 3) [0, 1, 2] rfl rfl (by decide)) (mw 0 rfl) rfl dX11_greediest_15 (by omega) (by omega) ?_
    rintro _ _ _ ⟨tk_2, le_3, hK_4, rfl, rfl, rfl⟩
    show Ev G X 0 0 18 [(0, .ref x), (1, .int (nI kk))] [.ref (b3 0)] (List.flatten [SP x r1 r2 r3 r4 r5 d b1 b2 b3 hi, MO G b1 (vwn S 2 6) tk os (vwn S 14 6) (vwn S 20 6) (vwn S 26 6) (vwn S 51 24) le (S 32) (bitF S) (S 0) (S 1) t (S 33) (-1) wa, MO G b3 (vwn (gosF (-1) S kk) 2 6) tk_2 (cpO 6 os os3) (vwn (gosF (-1) S kk) 14 6) (vwn (gosF (-1) S kk) 20 6) (vwn (gosF (-1) S kk) 26 6) (vwn (gosF (-1) S kk) 51 24) le_3 ((gosF (-1) S kk) 32) (bitF (gosF (-1) S kk)) ((gosF (-1) S kk) 0) ((gosF (-1) S kk) 1) t ((gosF (-1) S kk) 33) (-1) (raF (-1) S (nI 0) kk)]) ro
    have hO_5 := hO.os hW (os' := cpO 6 os os3) (fun p hp => if_pos hp)
    refine ev_astore_n (lv' := [(2, .ref (b3 0)), (0, .ref x), (1, .int (nI kk))]) hC dX11_greediest_18 rfl (by decide) rfl ?_
    refine ev_bipush (v := (-5)) hC dX11_greediest_19 (by decide) ?_
    refine ev_istore_n (lv' := [(3, .int (-5)), (2, .ref (b3 0)), (0, .ref x), (1, .int (nI kk))]) hC dX11_greediest_21 rfl (by decide) rfl ?_
    refine ev_iconst (v := (-1)) hC dX11_greediest_22 (by decide) ?_
    refine ev_istore (lv' := [(4, .int (-1)), (3, .int (-5)), (2, .ref (b3 0)), (0, .ref x), (1, .int (nI kk))]) hC dX11_greediest_23 (by decide) rfl ?_
    refine ev_iconst (v := (nI 0)) hC dX11_greediest_25 (by decide) ?_
    refine ev_istore (lv' := [(5, .int (nI 0)), (4, .int (-1)), (3, .int (-5)), (2, .ref (b3 0)), (0, .ref x), (1, .int (nI kk))]) hC dX11_greediest_26 (by decide) rfl ?_
    have lp_28 : ∀ (fu_28 : Nat) (i : Nat) (g : Int32) (m : Int32) (hii : i ≤ sn S 32) (hb : grdF (gosF (-1) S kk) S i = (g, m)) (hn : sn S 32 - i < fu_28), Ev G X 0 0 28 [(0, .ref x), (1, .int (nI kk)), (2, .ref (b3 0)), (3, .int g), (4, .int m), (5, .int (nI i))] [] (List.flatten [SP x r1 r2 r3 r4 r5 d b1 b2 b3 hi, MO G b1 (vwn S 2 6) tk os (vwn S 14 6) (vwn S 20 6) (vwn S 26 6) (vwn S 51 24) le (S 32) (bitF S) (S 0) (S 1) t (S 33) (-1) wa, MO G b3 (vwn (gosF (-1) S kk) 2 6) tk_2 (cpO 6 os os3) (vwn (gosF (-1) S kk) 14 6) (vwn (gosF (-1) S kk) 20 6) (vwn (gosF (-1) S kk) 26 6) (vwn (gosF (-1) S kk) 51 24) le_3 ((gosF (-1) S kk) 32) (bitF (gosF (-1) S kk)) ((gosF (-1) S kk) 0) ((gosF (-1) S kk) 1) t ((gosF (-1) S kk) 33) (-1) (raF (-1) S (nI 0) kk)]) ro := by
      intro fu_28
      induction fu_28 with
      | zero => intro i g m hii hb hn; exact absurd hn (Nat.not_lt_zero _)
      | succ fu_28 ih =>
        intro i g m hii hb hn
        refine ev_iload hC dX11_greediest_28 5 rfl ?_
        refine ev_aload_n hC dX11_greediest_30 rfl 0 rfl ?_
        refine ev_get hC fl_X11_58_11 (mw 0 rfl) rfl dX11_greediest_31 ?_
        refine ev_get hC fl_X11_107_3 (mw 1 rfl) rfl dX11_greediest_34 ?_
        have bk_6 : NB S 32 _ := hW.peo
        have k_6 := bk_6.eq
        have lk_6 := bk_6.le
        have mk_6 := bk_6.lt
        refine ev_top (y := (nI (sn S 32))) k_6 ?_
        refine ev_icmp_geN (tgt := 80) hC dX11_greediest_37 (by decide) (by omega) (by omega) (fun c_7 => ?_) (fun c_7 => ?_)
        · refine ev_iload_n hC dX11_greediest_80 rfl 3 rfl ?_
          refine ev_iret hC hR rfl dX11_greediest_81 ?_
          obtain rfl : i = sn S 32 := by omega
          have er : greediestR S (nI kk) = g := by rw [greediestR, if_pos (by assumption), hpn_kk, hb]
          exact ⟨_, _, _, _, _, _, _, by rw [er], rfl, rfl⟩
        · refine ev_aload_n hC dX11_greediest_40 rfl 2 rfl ?_
          refine ev_get hC fl_X11_138_3 (mw 10 rfl) rfl dX11_greediest_41 ?_
          refine ev_iload hC dX11_greediest_44 5 rfl ?_
          refine ev_ialdN (i := i) hC (mw 16 rfl) (by omega) (by omega) dX11_greediest_46 ?_
          refine ev_top (y := ((gosF (-1) S kk) (26 + i))) (vwn_at (by omega)) ?_
          refine ev_aload_n hC dX11_greediest_47 rfl 0 rfl ?_
          refine ev_get hC fl_X11_58_11 (mw 0 rfl) rfl dX11_greediest_48 ?_
          refine ev_get hC fl_X11_138_3 (mw 1 rfl) rfl dX11_greediest_51 ?_
          refine ev_iload hC dX11_greediest_54 5 rfl ?_
          refine ev_ialdN (i := i) hC (mw 7 rfl) (by omega) (by omega) dX11_greediest_56 ?_
          refine ev_top (y := (S (26 + i))) (vwn_at (by omega)) ?_
          refine ev_isub hC dX11_greediest_57 ?_
          refine ev_istore (lv' := [(6, .int (((gosF (-1) S kk) (26 + i)) - (S (26 + i)))), (0, .ref x), (1, .int (nI kk)), (2, .ref (b3 0)), (3, .int g), (4, .int m), (5, .int (nI i))]) hC dX11_greediest_58 (by decide) rfl ?_
          refine ev_iload hC dX11_greediest_60 0 rfl ?_
          refine ev_iload hC dX11_greediest_62 5 rfl ?_
          refine ev_icmp_le (tgt := 74) hC dX11_greediest_64 (by decide) (fun c_8 => ?_) (fun c_8 => ?_)
          · refine ev_iinc (v := (nI (i + 1))) (lv' := [(5, .int (nI (i + 1))), (6, .int (((gosF (-1) S kk) (26 + i)) - (S (26 + i)))), (0, .ref x), (1, .int (nI kk)), (2, .ref (b3 0)), (3, .int g), (4, .int m)]) hC dX11_greediest_74 (q := 6) rfl (nI_k _ _ 1 (by decide)) (by decide) rfl ?_
            refine ev_goto (tgt := 28) hC dX11_greediest_77 (by decide) ?_
            refine ev_lv [2, 3, 4, 5, 6, 0] rfl ?_
            exact ih (i + 1) g m (by omega) (by first | (rw [grdF, hb, if_pos (Int32.not_le.mp (by assumption))]) | (rw [grdF, hb, if_neg (Int32.not_lt.mpr (by assumption))])) (by omega)
          · refine ev_iload hC dX11_greediest_67 0 rfl ?_
            refine ev_istore (lv' := [(4, .int (((gosF (-1) S kk) (26 + i)) - (S (26 + i)))), (6, .int (((gosF (-1) S kk) (26 + i)) - (S (26 + i)))), (0, .ref x), (1, .int (nI kk)), (2, .ref (b3 0)), (3, .int g), (5, .int (nI i))]) hC dX11_greediest_69 (by decide) rfl ?_
            refine ev_iload hC dX11_greediest_71 6 rfl ?_
            refine ev_istore_n (lv' := [(3, .int (nI i)), (4, .int (((gosF (-1) S kk) (26 + i)) - (S (26 + i)))), (6, .int (((gosF (-1) S kk) (26 + i)) - (S (26 + i)))), (0, .ref x), (1, .int (nI kk)), (2, .ref (b3 0)), (5, .int (nI i))]) hC dX11_greediest_73 rfl (by decide) rfl ?_
            refine ev_iinc (v := (nI (i + 1))) (lv' := [(5, .int (nI (i + 1))), (3, .int (nI i)), (4, .int (((gosF (-1) S kk) (26 + i)) - (S (26 + i)))), (6, .int (((gosF (-1) S kk) (26 + i)) - (S (26 + i)))), (0, .ref x), (1, .int (nI kk)), (2, .ref (b3 0))]) hC dX11_greediest_74 (q := 6) rfl (nI_k _ _ 1 (by decide)) (by decide) rfl ?_
            refine ev_goto (tgt := 28) hC dX11_greediest_77 (by decide) ?_
            refine ev_lv [4, 5, 6, 1, 2, 0] rfl ?_
            exact ih (i + 1) (nI i) (((gosF (-1) S kk) (26 + i)) - (S (26 + i))) (by omega) (by first | (rw [grdF, hb, if_pos (Int32.not_le.mp (by assumption))]) | (rw [grdF, hb, if_neg (Int32.not_lt.mpr (by assumption))])) (by omega)
    refine ev_lv [4, 5, 3, 2, 1, 0] rfl ?_
    exact lp_28 (sn S 32 - 0 + 1) 0 (-5) (-1) (by omega) rfl (Nat.lt_succ_self _)
  · refine ev_bipush (v := (-2)) hC dX11_greediest_10 (by decide) ?_
    refine ev_iret hC hR rfl dX11_greediest_12 ?_
    have er : greediestR S y = (-2) := by rw [greediestR, if_neg (by assumption)]
    exact ⟨_, _, _, _, _, _, _, by rw [er], rfl, rfl⟩

set_option maxHeartbeats 4000000 in
set_option maxRecDepth 100000 in
theorem m_X11_forgive (G : GG) (ro : va_W) (x : Nat) (r1 r2 r3 r4 r5 d b1 b2 b3 : Nat → Nat) (hi : Int32) (S tk le T tk3 le3 : Nat → Int32) (os os3 : Nat → Option Nat) (t t3 : Nat) (wa st3 wa3 : Int32)  (hW : WF S 9999 9999) (hO : MoOK G ro (r5 0) S os t)  : Mth G M_X11_forgive 8 0 0 [.ref x] (List.flatten [SP x r1 r2 r3 r4 r5 d b1 b2 b3 hi, MO G b1 (vwn S 2 6) tk os (vwn S 14 6) (vwn S 20 6) (vwn S 26 6) (vwn S 51 24) le (S 32) (bitF S) (S 0) (S 1) t (S 33) (-1) wa, MO G b3 (vwn T 2 6) tk3 os3 (vwn T 14 6) (vwn T 20 6) (vwn T 26 6) (vwn T 51 24) le3 (T 32) (bitF T) (T 0) (T 1) t3 (T 33) st3 wa3]) ro (fun r ws' ro' => ∃ (T' : Nat → Int32), ∃ (tk3' : Nat → Int32), ∃ (le3' : Nat → Int32), ∃ (os3' : Nat → Option Nat), ∃ (t3' : Nat), ∃ (st3' : Int32), ∃ (wa3' : Int32), r = some (.int (forgiveR S)) ∧ ws' = (List.flatten [SP x r1 r2 r3 r4 r5 d b1 b2 b3 hi, MO G b1 (vwn S 2 6) tk os (vwn S 14 6) (vwn S 20 6) (vwn S 26 6) (vwn S 51 24) le (S 32) (bitF S) (S 0) (S 1) t (S 33) (-1) wa, MO G b3 (vwn T' 2 6) tk3' os3' (vwn T' 14 6) (vwn T' 20 6) (vwn T' 26 6) (vwn T' 51 24) le3' (T' 32) (bitF T') (T' 0) (T' 1) t3' (T' 33) st3' wa3']) ∧ ro = ro') := by
  refine mth_of (by decide +kernel) (Nat.le_of_ble_eq_true rfl) (fun X hC hR => ?_)
  have b32 := hW.peo.le
  show Ev G X 0 0 0 [(0, .ref x)] [] (List.flatten [SP x r1 r2 r3 r4 r5 d b1 b2 b3 hi, MO G b1 (vwn S 2 6) tk os (vwn S 14 6) (vwn S 20 6) (vwn S 26 6) (vwn S 51 24) le (S 32) (bitF S) (S 0) (S 1) t (S 33) (-1) wa, MO G b3 (vwn T 2 6) tk3 os3 (vwn T 14 6) (vwn T 20 6) (vwn T 26 6) (vwn T 51 24) le3 (T 32) (bitF T) (T 0) (T 1) t3 (T 33) st3 wa3]) ro
  refine ev_bipush (v := (-5)) hC dX11_forgive_0 (by decide) ?_
  refine ev_istore_n (lv' := [(1, .int (-5)), (0, .ref x)]) hC dX11_forgive_2 rfl (by decide) rfl ?_
  refine ev_aload_n hC dX11_forgive_3 rfl 1 rfl ?_
  refine ev_callV (As := []) (st := []) (wf := (List.flatten [])) hC cv_X11_192 (m_X11_asItIs G ro x r1 r2 r3 r4 r5 d b1 b2 b3 hi S tk le T tk3 le3 os os3 t t3 wa st3 wa3 hW hO ) (by omega) rfl rfl (Nat.le_of_ble_eq_true rfl) (perm_sg (n := 3) [0, 1, 2] rfl rfl (by decide)) (mw 0 rfl) rfl dX11_forgive_4 (by omega) (by omega) ?_
  rintro _ _ _ ⟨rfl, rfl, rfl⟩
  show Ev G X 0 0 7 [(1, .int (-5)), (0, .ref x)] [.ref (b3 0)] (List.flatten [SP x r1 r2 r3 r4 r5 d b1 b2 b3 hi, MO G b1 (vwn S 2 6) tk os (vwn S 14 6) (vwn S 20 6) (vwn S 26 6) (vwn S 51 24) le (S 32) (bitF S) (S 0) (S 1) t (S 33) (-1) wa, MO G b3 (vwn S 2 6) tk3 (cpO 6 os os3) (vwn S 14 6) (vwn S 20 6) (vwn S 26 6) (vwn S 51 24) le3 (S 32) (bitF S) (S 0) (S 1) t (S 33) (-1) (nI 0)]) ro
  have hO_1 := hO.os hW (os' := cpO 6 os os3) (fun p hp => if_pos hp)
  have wl_6 := warF_le (-1) S
  refine ev_callS (As := [.ref (b3 0)]) (st := []) (wf := (List.flatten [SP x r1 r2 r3 r4 r5 d b1 b2 b3 hi, MO G b1 (vwn S 2 6) tk os (vwn S 14 6) (vwn S 20 6) (vwn S 26 6) (vwn S 51 24) le (S 32) (bitF S) (S 0) (S 1) t (S 33) (-1) wa])) hC ct_X11_196 (m_X11_daysLasting G ro b3 S tk3 le3 (cpO 6 os os3) t (r5 0) (-1) (nI 0) hW hO_1 (by omega) (by omega)) (by omega) rfl rfl (Nat.le_of_ble_eq_true rfl) (perm_sg (n := 3) [2, 0, 1] rfl rfl (by decide)) dX11_forgive_7 (by omega) (by omega) ?_
  rintro _ _ _ ⟨S_2, tk_3, le_4, wa_5, rfl, rfl, rfl⟩
  show Ev G X 0 0 10 [(1, .int (-5)), (0, .ref x)] [.int (nI (warF (-1) S))] (List.flatten [MO G b3 (vwn S_2 2 6) tk_3 (cpO 6 os os3) (vwn S_2 14 6) (vwn S_2 20 6) (vwn S_2 26 6) (vwn S_2 51 24) le_4 (S_2 32) (bitF S_2) (S_2 0) (S_2 1) t (S_2 33) (-1) wa_5, SP x r1 r2 r3 r4 r5 d b1 b2 b3 hi, MO G b1 (vwn S 2 6) tk os (vwn S 14 6) (vwn S 20 6) (vwn S 26 6) (vwn S 51 24) le (S 32) (bitF S) (S 0) (S 1) t (S 33) (-1) wa]) ro
  refine ev_perm (ws' := (List.flatten [SP x r1 r2 r3 r4 r5 d b1 b2 b3 hi, MO G b1 (vwn S 2 6) tk os (vwn S 14 6) (vwn S 20 6) (vwn S 26 6) (vwn S 51 24) le (S 32) (bitF S) (S 0) (S 1) t (S 33) (-1) wa, MO G b3 (vwn S_2 2 6) tk_3 (cpO 6 os os3) (vwn S_2 14 6) (vwn S_2 20 6) (vwn S_2 26 6) (vwn S_2 51 24) le_4 (S_2 32) (bitF S_2) (S_2 0) (S_2 1) t (S_2 33) (-1) wa_5])) (perm_sg2 (n := 3) [1, 2, 0] rfl rfl (by decide)) ?_
  refine ev_istore_n (lv' := [(2, .int (nI (warF (-1) S))), (1, .int (-5)), (0, .ref x)]) hC dX11_forgive_10 rfl (by decide) rfl ?_
  refine ev_iconst (v := (nI 0)) hC dX11_forgive_11 (by decide) ?_
  refine ev_istore_n (lv' := [(3, .int (nI 0)), (2, .int (nI (warF (-1) S))), (1, .int (-5)), (0, .ref x)]) hC dX11_forgive_12 rfl (by decide) rfl ?_
  have lp_13 : ∀ (fu_13 : Nat) (i : Nat) (g : Int32) (m : Int32) (T : Nat → Int32) (tk3 : Nat → Int32) (le3 : Nat → Int32) (os3 : Nat → Option Nat) (t3 : Nat) (st3 : Int32) (wa3 : Int32) (hii : i ≤ sn S 32) (hb : bestF (fun p => warF (nI p) S) (-5) (nI (warF (-1) S)) i = (g, m)) (hn : sn S 32 - i < fu_13), Ev G X 0 0 13 [(0, .ref x), (1, .int g), (2, .int m), (3, .int (nI i))] [] (List.flatten [SP x r1 r2 r3 r4 r5 d b1 b2 b3 hi, MO G b1 (vwn S 2 6) tk os (vwn S 14 6) (vwn S 20 6) (vwn S 26 6) (vwn S 51 24) le (S 32) (bitF S) (S 0) (S 1) t (S 33) (-1) wa, MO G b3 (vwn T 2 6) tk3 os3 (vwn T 14 6) (vwn T 20 6) (vwn T 26 6) (vwn T 51 24) le3 (T 32) (bitF T) (T 0) (T 1) t3 (T 33) st3 wa3]) ro := by
    intro fu_13
    induction fu_13 with
    | zero => intro i g m T tk3 le3 os3 t3 st3 wa3 hii hb hn; exact absurd hn (Nat.not_lt_zero _)
    | succ fu_13 ih =>
      intro i g m T tk3 le3 os3 t3 st3 wa3 hii hb hn
      refine ev_iload_n hC dX11_forgive_13 rfl 3 rfl ?_
      refine ev_aload_n hC dX11_forgive_14 rfl 0 rfl ?_
      refine ev_get hC fl_X11_58_11 (mw 0 rfl) rfl dX11_forgive_15 ?_
      refine ev_get hC fl_X11_107_3 (mw 1 rfl) rfl dX11_forgive_18 ?_
      have bk_7 : NB S 32 _ := hW.peo
      have k_7 := bk_7.eq
      have lk_7 := bk_7.le
      have mk_7 := bk_7.lt
      refine ev_top (y := (nI (sn S 32))) k_7 ?_
      refine ev_icmp_geN (tgt := 51) hC dX11_forgive_21 (by decide) (by omega) (by omega) (fun c_8 => ?_) (fun c_8 => ?_)
      · refine ev_iload_n hC dX11_forgive_51 rfl 1 rfl ?_
        refine ev_iret hC hR rfl dX11_forgive_52 ?_
        obtain rfl : i = sn S 32 := by omega
        have er : forgiveR S = g := by rw [forgiveR, hb]
        exact ⟨_, _, _, _, _, _, _, by rw [er], rfl, rfl⟩
      · refine ev_aload_n hC dX11_forgive_24 rfl 0 rfl ?_
        refine ev_iload_n hC dX11_forgive_25 rfl 3 rfl ?_
        refine ev_callV (As := [.int (nI i)]) (st := []) (wf := (List.flatten [])) hC cv_X11_203 (m_X11_asIfStill G ro x r1 r2 r3 r4 r5 d b1 b2 b3 hi S tk le T tk3 le3 os os3 t t3 wa st3 wa3 i hW hO ) (by omega) rfl rfl (Nat.le_of_ble_eq_true rfl) (perm_sg (n := 3) [0, 1, 2] rfl rfl (by decide)) (mw 0 rfl) rfl dX11_forgive_26 (by omega) (by omega) ?_
        rintro _ _ _ ⟨rfl, rfl, rfl⟩
        show Ev G X 0 0 29 [(0, .ref x), (1, .int g), (2, .int m), (3, .int (nI i))] [.ref (b3 0)] (List.flatten [SP x r1 r2 r3 r4 r5 d b1 b2 b3 hi, MO G b1 (vwn S 2 6) tk os (vwn S 14 6) (vwn S 20 6) (vwn S 26 6) (vwn S 51 24) le (S 32) (bitF S) (S 0) (S 1) t (S 33) (-1) wa, MO G b3 (vwn S 2 6) tk3 (cpO 6 os os3) (vwn S 14 6) (vwn S 20 6) (vwn S 26 6) (vwn S 51 24) le3 (S 32) (bitF S) (S 0) (S 1) t (S 33) (nI i) (nI 0)]) ro
        have hO_9 := hO.os hW (os' := cpO 6 os os3) (fun p hp => if_pos hp)
        have wl_14 := warF_le (nI i) S
        refine ev_callS (As := [.ref (b3 0)]) (st := []) (wf := (List.flatten [SP x r1 r2 r3 r4 r5 d b1 b2 b3 hi, MO G b1 (vwn S 2 6) tk os (vwn S 14 6) (vwn S 20 6) (vwn S 26 6) (vwn S 51 24) le (S 32) (bitF S) (S 0) (S 1) t (S 33) (-1) wa])) hC ct_X11_196 (m_X11_daysLasting G ro b3 S tk3 le3 (cpO 6 os os3) t (r5 0) (nI i) (nI 0) hW hO_9 (by omega) (by omega)) (by omega) rfl rfl (Nat.le_of_ble_eq_true rfl) (perm_sg (n := 3) [2, 0, 1] rfl rfl (by decide)) dX11_forgive_29 (by omega) (by omega) ?_
        rintro _ _ _ ⟨S_10, tk_11, le_12, wa_13, rfl, rfl, rfl⟩
        show Ev G X 0 0 32 [(0, .ref x), (1, .int g), (2, .int m), (3, .int (nI i))] [.int (nI (warF (nI i) S))] (List.flatten [MO G b3 (vwn S_10 2 6) tk_11 (cpO 6 os os3) (vwn S_10 14 6) (vwn S_10 20 6) (vwn S_10 26 6) (vwn S_10 51 24) le_12 (S_10 32) (bitF S_10) (S_10 0) (S_10 1) t (S_10 33) (nI i) wa_13, SP x r1 r2 r3 r4 r5 d b1 b2 b3 hi, MO G b1 (vwn S 2 6) tk os (vwn S 14 6) (vwn S 20 6) (vwn S 26 6) (vwn S 51 24) le (S 32) (bitF S) (S 0) (S 1) t (S 33) (-1) wa]) ro
        refine ev_perm (ws' := (List.flatten [SP x r1 r2 r3 r4 r5 d b1 b2 b3 hi, MO G b1 (vwn S 2 6) tk os (vwn S 14 6) (vwn S 20 6) (vwn S 26 6) (vwn S 51 24) le (S 32) (bitF S) (S 0) (S 1) t (S 33) (-1) wa, MO G b3 (vwn S_10 2 6) tk_11 (cpO 6 os os3) (vwn S_10 14 6) (vwn S_10 20 6) (vwn S_10 26 6) (vwn S_10 51 24) le_12 (S_10 32) (bitF S_10) (S_10 0) (S_10 1) t (S_10 33) (nI i) wa_13])) (perm_sg2 (n := 3) [1, 2, 0] rfl rfl (by decide)) ?_
        refine ev_istore (lv' := [(4, .int (nI (warF (nI i) S))), (0, .ref x), (1, .int g), (2, .int m), (3, .int (nI i))]) hC dX11_forgive_32 (by decide) rfl ?_
        refine ev_iload hC dX11_forgive_34 0 rfl ?_
        refine ev_iload_n hC dX11_forgive_36 rfl 3 rfl ?_
        refine ev_icmp_le (tgt := 45) hC dX11_forgive_37 (by decide) (fun c_15 => ?_) (fun c_15 => ?_)
        · refine ev_iinc (v := (nI (i + 1))) (lv' := [(3, .int (nI (i + 1))), (4, .int (nI (warF (nI i) S))), (0, .ref x), (1, .int g), (2, .int m)]) hC dX11_forgive_45 (q := 4) rfl (nI_k _ _ 1 (by decide)) (by decide) rfl ?_
          refine ev_goto (tgt := 13) hC dX11_forgive_48 (by decide) ?_
          refine ev_lv [2, 3, 4, 0] rfl ?_
          exact ih (i + 1) g m S_10 tk_11 le_12 (cpO 6 os os3) t (nI i) wa_13 (by omega) (by first | exact bestF_t hb (by assumption) | exact bestF_f hb (by assumption)) (by omega)
        · refine ev_iload hC dX11_forgive_40 0 rfl ?_
          refine ev_istore_n (lv' := [(2, .int (nI (warF (nI i) S))), (4, .int (nI (warF (nI i) S))), (0, .ref x), (1, .int g), (3, .int (nI i))]) hC dX11_forgive_42 rfl (by decide) rfl ?_
          refine ev_iload_n hC dX11_forgive_43 rfl 4 rfl ?_
          refine ev_istore_n (lv' := [(1, .int (nI i)), (2, .int (nI (warF (nI i) S))), (4, .int (nI (warF (nI i) S))), (0, .ref x), (3, .int (nI i))]) hC dX11_forgive_44 rfl (by decide) rfl ?_
          refine ev_iinc (v := (nI (i + 1))) (lv' := [(3, .int (nI (i + 1))), (1, .int (nI i)), (2, .int (nI (warF (nI i) S))), (4, .int (nI (warF (nI i) S))), (0, .ref x)]) hC dX11_forgive_45 (q := 4) rfl (nI_k _ _ 1 (by decide)) (by decide) rfl ?_
          refine ev_goto (tgt := 13) hC dX11_forgive_48 (by decide) ?_
          refine ev_lv [4, 1, 2, 0] rfl ?_
          exact ih (i + 1) (nI i) (nI (warF (nI i) S)) S_10 tk_11 le_12 (cpO 6 os os3) t (nI i) wa_13 (by omega) (by first | exact bestF_t hb (by assumption) | exact bestF_f hb (by assumption)) (by omega)
  refine ev_lv [3, 2, 1, 0] rfl ?_
  exact lp_13 (sn S 32 - 0 + 1) 0 (-5) (nI (warF (-1) S)) S_2 tk_3 le_4 (cpO 6 os os3) t (-1) wa_5 (by omega) rfl (Nat.lt_succ_self _)

theorem best_one (f : Nat → Nat) (hf : ∀ k, f k ≤ 100) (b0 : Int32) : bestF f b0 (-1) 1 = (nI 0, nI (f 0)) := by
  rw [bestF, bestF]
  have h1 : (-1 : Int32) < nI (f 0) := by
    rw [Int32.lt_iff_toInt_lt, nI_toInt (by have := hf 0; omega), show (-1 : Int32).toInt = -1 from by decide]
    omega
  exact if_pos h1
theorem best_s {f : Nat → Nat} {a b l : Int32} : ∀ n, bestF f a l 1 = bestF f b l 1 → bestF f a l (n + 1) = bestF f b l (n + 1)
  | 0, h => h
  | n + 1, h => by
    have e := best_s n h
    show (if (bestF f a l (n + 1)).2 < nI (f (n + 1)) then (nI (n + 1), nI (f (n + 1))) else bestF f a l (n + 1)) = (if (bestF f b l (n + 1)).2 < nI (f (n + 1)) then (nI (n + 1), nI (f (n + 1))) else bestF f b l (n + 1))
    rw [e]
theorem best_any (f : Nat → Nat) (b0 b1 : Int32) : (∀ k, f k ≤ 100) → bestF f b0 (-1) 6 = bestF f b1 (-1) 6 := fun hf => best_s 5 ((best_one f hf b0).trans (best_one f hf b1).symm)

theorem WF.side_upd {S : Nat → Int32} {D E p k : Nat} (h : WF S D E) (hp : p < 6) (hk : k ≤ 5) : WF (Jvm.Pilot.CSaltPeaceLaw_law_r9810_aa630b.upd S (14 + p) (nI k)) D E := h.upd (by omega) (by omega) (by omega) (by omega) (by omega) (by omega) (by omega)

set_option maxHeartbeats 4000000 in
set_option maxRecDepth 100000 in
theorem m_X11_move (G : GG) (ro : va_W) (x : Nat) (r1 r2 r3 r4 r5 d b1 b2 b3 : Nat → Nat) (hi : Int32) (S tk le T tk3 le3 : Nat → Int32) (os os3 : Nat → Option Nat) (t t3 : Nat) (wa st3 wa3 : Int32) (y : Int32) (hW : WF S 9999 9999) (hO : MoOK G ro (r5 0) S os t)  : Mth G M_X11_move 8 0 0 [.ref x, .int y] (List.flatten [SP x r1 r2 r3 r4 r5 d b1 b2 b3 hi, MO G b1 (vwn S 2 6) tk os (vwn S 14 6) (vwn S 20 6) (vwn S 26 6) (vwn S 51 24) le (S 32) (bitF S) (S 0) (S 1) t (S 33) (-1) wa, MO G b3 (vwn T 2 6) tk3 os3 (vwn T 14 6) (vwn T 20 6) (vwn T 26 6) (vwn T 51 24) le3 (T 32) (bitF T) (T 0) (T 1) t3 (T 33) st3 wa3]) ro (fun r ws' ro' => ∃ (T' : Nat → Int32), ∃ (tk3' : Nat → Int32), ∃ (le3' : Nat → Int32), ∃ (os3' : Nat → Option Nat), ∃ (t3' : Nat), ∃ (st3' : Int32), ∃ (wa3' : Int32), r = some (.int (moveR S y)) ∧ ws' = (List.flatten [SP x r1 r2 r3 r4 r5 d b1 b2 b3 hi, MO G b1 (vwn S 2 6) tk os (vwn S 14 6) (vwn S 20 6) (vwn S 26 6) (vwn S 51 24) le (S 32) (bitF S) (S 0) (S 1) t (S 33) (-1) wa, MO G b3 (vwn T' 2 6) tk3' os3' (vwn T' 14 6) (vwn T' 20 6) (vwn T' 26 6) (vwn T' 51 24) le3' (T' 32) (bitF T') (T' 0) (T' 1) t3' (T' 33) st3' wa3']) ∧ ro = ro') := by
  refine mth_of (by decide +kernel) (Nat.le_of_ble_eq_true rfl) (fun X hC hR => ?_)
  have b32 := hW.peo.le
  show Ev G X 0 0 0 [(0, .ref x), (1, .int y)] [] (List.flatten [SP x r1 r2 r3 r4 r5 d b1 b2 b3 hi, MO G b1 (vwn S 2 6) tk os (vwn S 14 6) (vwn S 20 6) (vwn S 26 6) (vwn S 51 24) le (S 32) (bitF S) (S 0) (S 1) t (S 33) (-1) wa, MO G b3 (vwn T 2 6) tk3 os3 (vwn T 14 6) (vwn T 20 6) (vwn T 26 6) (vwn T 51 24) le3 (T 32) (bitF T) (T 0) (T 1) t3 (T 33) st3 wa3]) ro
  refine ev_aload_n hC dX11_move_0 rfl 0 rfl ?_
  refine ev_iload_n hC dX11_move_1 rfl 1 rfl ?_
  refine ev_callV (As := [.int y]) (st := []) (wf := (List.flatten [MO G b3 (vwn T 2 6) tk3 os3 (vwn T 14 6) (vwn T 20 6) (vwn T 26 6) (vwn T 51 24) le3 (T 32) (bitF T) (T 0) (T 1) t3 (T 33) st3 wa3])) hC cv_X11_118 (m_X11_isPerson G ro x r1 r2 r3 r4 r5 d b1 b2 b3 hi S tk le os t (-1) wa y) (by omega) rfl rfl (Nat.le_of_ble_eq_true rfl) (perm_sg (n := 3) [0, 1, 2] rfl rfl (by decide)) (mw 0 rfl) rfl dX11_move_2 (by omega) (by omega) ?_
  rintro _ _ _ ⟨rfl, rfl, rfl⟩
  show Ev G X 0 0 5 [(0, .ref x), (1, .int y)] [.int (bI ((nI 0) ≤ y ∧ y ≤ (S 32 - nI 1)))] (List.flatten [SP x r1 r2 r3 r4 r5 d b1 b2 b3 hi, MO G b1 (vwn S 2 6) tk os (vwn S 14 6) (vwn S 20 6) (vwn S 26 6) (vwn S 51 24) le (S 32) (bitF S) (S 0) (S 1) t (S 33) (-1) wa, MO G b3 (vwn T 2 6) tk3 os3 (vwn T 14 6) (vwn T 20 6) (vwn T 26 6) (vwn T 51 24) le3 (T 32) (bitF T) (T 0) (T 1) t3 (T 33) st3 wa3]) ro
  refine ev_if_neB (tgt := 10) hC dX11_move_5 (by decide) (fun c_1 => ?_) (fun c_1 => ?_)
  · obtain ⟨pp, hpp, rfl⟩ := isP hW (by assumption)
    have hpn_pp : pn (nI pp) = pp := nI_clamp (by omega)
    refine ev_iconst (v := (nI 0)) hC dX11_move_10 (by decide) ?_
    refine ev_istore_n (lv' := [(2, .int (nI 0)), (0, .ref x), (1, .int (nI pp))]) hC dX11_move_11 rfl (by decide) rfl ?_
    refine ev_iconst (v := (-1)) hC dX11_move_12 (by decide) ?_
    refine ev_istore_n (lv' := [(3, .int (-1)), (2, .int (nI 0)), (0, .ref x), (1, .int (nI pp))]) hC dX11_move_13 rfl (by decide) rfl ?_
    refine ev_iconst (v := (nI 0)) hC dX11_move_14 (by decide) ?_
    refine ev_istore (lv' := [(4, .int (nI 0)), (3, .int (-1)), (2, .int (nI 0)), (0, .ref x), (1, .int (nI pp))]) hC dX11_move_15 (by decide) rfl ?_
    have lp_17 : ∀ (fu_17 : Nat) (i : Nat) (g : Int32) (m : Int32) (T : Nat → Int32) (tk3 : Nat → Int32) (le3 : Nat → Int32) (os3 : Nat → Option Nat) (t3 : Nat) (st3 : Int32) (wa3 : Int32) (hii : i ≤ 6) (hb : bestF (fun k => warF (-1) (upd S (14 + pp) (nI k))) (nI 0) (-1) i = (g, m)) (hn : 6 - i < fu_17), Ev G X 0 0 17 [(0, .ref x), (1, .int (nI pp)), (2, .int g), (3, .int m), (4, .int (nI i))] [] (List.flatten [SP x r1 r2 r3 r4 r5 d b1 b2 b3 hi, MO G b1 (vwn S 2 6) tk os (vwn S 14 6) (vwn S 20 6) (vwn S 26 6) (vwn S 51 24) le (S 32) (bitF S) (S 0) (S 1) t (S 33) (-1) wa, MO G b3 (vwn T 2 6) tk3 os3 (vwn T 14 6) (vwn T 20 6) (vwn T 26 6) (vwn T 51 24) le3 (T 32) (bitF T) (T 0) (T 1) t3 (T 33) st3 wa3]) ro := by
      intro fu_17
      induction fu_17 with
      | zero => intro i g m T tk3 le3 os3 t3 st3 wa3 hii hb hn; exact absurd hn (Nat.not_lt_zero _)
      | succ fu_17 ih =>
        intro i g m T tk3 le3 os3 t3 st3 wa3 hii hb hn
        refine ev_iload hC dX11_move_17 4 rfl ?_
        refine ev_bipush (v := (nI 6)) hC dX11_move_19 (by decide) ?_
        refine ev_icmp_geN (tgt := 54) hC dX11_move_21 (by decide) (by omega) (by omega) (fun c_2 => ?_) (fun c_2 => ?_)
        · refine ev_iload_n hC dX11_move_54 rfl 2 rfl ?_
          refine ev_iret hC hR rfl dX11_move_55 ?_
          obtain rfl : i = 6 := by omega
          have h6 := (best_any (fun k => warF (-1) (upd S (14 + pp) (nI k))) (-1) (nI 0) (fun k => warF_le _ _)).trans hb
          have er : moveR S (nI pp) = g := by rw [moveR, if_pos (by assumption), hpn_pp, h6]
          exact ⟨_, _, _, _, _, _, _, by rw [er], rfl, rfl⟩
        · have hWi := WF.side_upd hW (p := pp) (k := i) (by omega) (by omega)
          refine ev_aload_n hC dX11_move_24 rfl 0 rfl ?_
          refine ev_iload_n hC dX11_move_25 rfl 1 rfl ?_
          refine ev_iload hC dX11_move_26 4 rfl ?_
          refine ev_callV (As := [.int (nI pp), .int (nI i)]) (st := []) (wf := (List.flatten [])) hC cv_X11_206 (m_X11_asIfAt G ro x r1 r2 r3 r4 r5 d b1 b2 b3 hi S tk le T tk3 le3 os os3 t t3 wa st3 wa3 pp i hW hO (by omega)) (by omega) rfl rfl (Nat.le_of_ble_eq_true rfl) (perm_sg (n := 3) [0, 1, 2] rfl rfl (by decide)) (mw 0 rfl) rfl dX11_move_28 (by omega) (by omega) ?_
          rintro _ _ _ ⟨rfl, rfl, rfl⟩
          show Ev G X 0 0 31 [(0, .ref x), (1, .int (nI pp)), (2, .int g), (3, .int m), (4, .int (nI i))] [.ref (b3 0)] (List.flatten [SP x r1 r2 r3 r4 r5 d b1 b2 b3 hi, MO G b1 (vwn S 2 6) tk os (vwn S 14 6) (vwn S 20 6) (vwn S 26 6) (vwn S 51 24) le (S 32) (bitF S) (S 0) (S 1) t (S 33) (-1) wa, MO G b3 (vwn (upd S (14 + pp) (nI i)) 2 6) tk3 (cpO 6 os os3) (vwn (upd S (14 + pp) (nI i)) 14 6) (vwn (upd S (14 + pp) (nI i)) 20 6) (vwn (upd S (14 + pp) (nI i)) 26 6) (vwn (upd S (14 + pp) (nI i)) 51 24) le3 ((upd S (14 + pp) (nI i)) 32) (bitF (upd S (14 + pp) (nI i))) ((upd S (14 + pp) (nI i)) 0) ((upd S (14 + pp) (nI i)) 1) t ((upd S (14 + pp) (nI i)) 33) (-1) (nI 0)]) ro
          have hO_3 := hO.os hW (os' := cpO 6 os os3) (fun p hp => if_pos hp)
          have wl_8 := warF_le (-1) (upd S (14 + pp) (nI i))
          refine ev_callS (As := [.ref (b3 0)]) (st := []) (wf := (List.flatten [SP x r1 r2 r3 r4 r5 d b1 b2 b3 hi, MO G b1 (vwn S 2 6) tk os (vwn S 14 6) (vwn S 20 6) (vwn S 26 6) (vwn S 51 24) le (S 32) (bitF S) (S 0) (S 1) t (S 33) (-1) wa])) hC ct_X11_196 (m_X11_daysLasting G ro b3 (upd S (14 + pp) (nI i)) tk3 le3 (cpO 6 os os3) t (r5 0) (-1) (nI 0) hWi (MoOK.hi hO_3 (Hi.upd Hi.rf (by omega) _)) (by omega) (by omega)) (by omega) rfl rfl (Nat.le_of_ble_eq_true rfl) (perm_sg (n := 3) [2, 0, 1] rfl rfl (by decide)) dX11_move_31 (by omega) (by omega) ?_
          rintro _ _ _ ⟨S_4, tk_5, le_6, wa_7, rfl, rfl, rfl⟩
          show Ev G X 0 0 34 [(0, .ref x), (1, .int (nI pp)), (2, .int g), (3, .int m), (4, .int (nI i))] [.int (nI (warF (-1) (upd S (14 + pp) (nI i))))] (List.flatten [MO G b3 (vwn S_4 2 6) tk_5 (cpO 6 os os3) (vwn S_4 14 6) (vwn S_4 20 6) (vwn S_4 26 6) (vwn S_4 51 24) le_6 (S_4 32) (bitF S_4) (S_4 0) (S_4 1) t (S_4 33) (-1) wa_7, SP x r1 r2 r3 r4 r5 d b1 b2 b3 hi, MO G b1 (vwn S 2 6) tk os (vwn S 14 6) (vwn S 20 6) (vwn S 26 6) (vwn S 51 24) le (S 32) (bitF S) (S 0) (S 1) t (S 33) (-1) wa]) ro
          refine ev_perm (ws' := (List.flatten [SP x r1 r2 r3 r4 r5 d b1 b2 b3 hi, MO G b1 (vwn S 2 6) tk os (vwn S 14 6) (vwn S 20 6) (vwn S 26 6) (vwn S 51 24) le (S 32) (bitF S) (S 0) (S 1) t (S 33) (-1) wa, MO G b3 (vwn S_4 2 6) tk_5 (cpO 6 os os3) (vwn S_4 14 6) (vwn S_4 20 6) (vwn S_4 26 6) (vwn S_4 51 24) le_6 (S_4 32) (bitF S_4) (S_4 0) (S_4 1) t (S_4 33) (-1) wa_7])) (perm_sg2 (n := 3) [1, 2, 0] rfl rfl (by decide)) ?_
          refine ev_istore (lv' := [(5, .int (nI (warF (-1) (upd S (14 + pp) (nI i))))), (0, .ref x), (1, .int (nI pp)), (2, .int g), (3, .int m), (4, .int (nI i))]) hC dX11_move_34 (by decide) rfl ?_
          refine ev_iload hC dX11_move_36 0 rfl ?_
          refine ev_iload_n hC dX11_move_38 rfl 4 rfl ?_
          refine ev_icmp_le (tgt := 48) hC dX11_move_39 (by decide) (fun c_9 => ?_) (fun c_9 => ?_)
          · refine ev_iinc (v := (nI (i + 1))) (lv' := [(4, .int (nI (i + 1))), (5, .int (nI (warF (-1) (upd S (14 + pp) (nI i))))), (0, .ref x), (1, .int (nI pp)), (2, .int g), (3, .int m)]) hC dX11_move_48 (q := 5) rfl (nI_k _ _ 1 (by decide)) (by decide) rfl ?_
            refine ev_goto (tgt := 17) hC dX11_move_51 (by decide) ?_
            refine ev_lv [2, 3, 4, 5, 0] rfl ?_
            exact ih (i + 1) g m S_4 tk_5 le_6 (cpO 6 os os3) t (-1) wa_7 (by omega) (by first | exact bestF_t hb (by assumption) | exact bestF_f hb (by assumption)) (by omega)
          · refine ev_iload hC dX11_move_42 0 rfl ?_
            refine ev_istore_n (lv' := [(3, .int (nI (warF (-1) (upd S (14 + pp) (nI i))))), (5, .int (nI (warF (-1) (upd S (14 + pp) (nI i))))), (0, .ref x), (1, .int (nI pp)), (2, .int g), (4, .int (nI i))]) hC dX11_move_44 rfl (by decide) rfl ?_
            refine ev_iload hC dX11_move_45 5 rfl ?_
            refine ev_istore_n (lv' := [(2, .int (nI i)), (3, .int (nI (warF (-1) (upd S (14 + pp) (nI i))))), (5, .int (nI (warF (-1) (upd S (14 + pp) (nI i))))), (0, .ref x), (1, .int (nI pp)), (4, .int (nI i))]) hC dX11_move_47 rfl (by decide) rfl ?_
            refine ev_iinc (v := (nI (i + 1))) (lv' := [(4, .int (nI (i + 1))), (2, .int (nI i)), (3, .int (nI (warF (-1) (upd S (14 + pp) (nI i))))), (5, .int (nI (warF (-1) (upd S (14 + pp) (nI i))))), (0, .ref x), (1, .int (nI pp))]) hC dX11_move_48 (q := 5) rfl (nI_k _ _ 1 (by decide)) (by decide) rfl ?_
            refine ev_goto (tgt := 17) hC dX11_move_51 (by decide) ?_
            refine ev_lv [4, 5, 1, 2, 0] rfl ?_
            exact ih (i + 1) (nI i) (nI (warF (-1) (upd S (14 + pp) (nI i)))) S_4 tk_5 le_6 (cpO 6 os os3) t (-1) wa_7 (by omega) (by first | exact bestF_t hb (by assumption) | exact bestF_f hb (by assumption)) (by omega)
    refine ev_lv [3, 4, 2, 1, 0] rfl ?_
    exact lp_17 (6 - 0 + 1) 0 (nI 0) (-1) T tk3 le3 os3 t3 st3 wa3 (by omega) rfl (Nat.lt_succ_self _)
  · refine ev_iconst (v := (-1)) hC dX11_move_8 (by decide) ?_
    refine ev_iret hC hR rfl dX11_move_9 ?_
    have er : moveR S y = (-1) := by rw [moveR, if_neg (by assumption)]
    exact ⟨_, _, _, _, _, _, _, by rw [er], rfl, rfl⟩

theorem WF.roof_upd {S : Nat → Int32} {D E k : Nat} (h : WF S D E) (hk : k < 6) : WF (Jvm.Pilot.CSaltPeaceLaw_law_r9810_aa630b.upd S (8 + k) (nI 1)) D E := h.upd (by omega) (by omega) (by omega) (by omega) (by omega) (by omega) (by omega)
theorem roofs_t {S : Nat → Int32} {D E i : Nat} {g m : Int32} (h : WF S D E) (hi : i < 6) (hb : bestC (fun k => S (8 + k) = nI 0) (fun _ => inferInstance) (fun k => warF (-1) (upd S (8 + k) (nI 1))) (-5) (nI (warF (-1) S)) i = (g, m)) (hm : nI (warF (-1) S) ≤ m) (c : ¬ nI (warF (-1) (upd S (8 + i) (nI 1))) ≤ m) : bestC (fun k => S (8 + k) = nI 0) (fun _ => inferInstance) (fun k => warF (-1) (upd S (8 + k) (nI 1))) (-5) (nI (warF (-1) S)) (i + 1) = (nI i, nI (warF (-1) (upd S (8 + i) (nI 1)))) ∧ nI (warF (-1) S) ≤ nI (warF (-1) (upd S (8 + i) (nI 1))) := by
  have h0 : S (8 + i) = nI 0 := by
    have hr := h.roof i hi
    have hl := hr.le
    rcases (show sn S (8 + i) = 0 ∨ sn S (8 + i) = 1 by omega) with e | e
    · rw [hr.eq, e]
    · exfalso
      have e1 : S (8 + i) = nI 1 := by rw [hr.eq, e]
      rw [← e1, upd_self] at c
      exact c hm
  refine ⟨?_, Int32.le_trans hm (Int32.le_of_lt (Int32.not_le.mp c))⟩
  rw [bestC, hb, if_pos ⟨h0, Int32.not_le.mp c⟩]
theorem roofs_f {S : Nat → Int32} {i : Nat} {g m : Int32} (hb : bestC (fun k => S (8 + k) = nI 0) (fun _ => inferInstance) (fun k => warF (-1) (upd S (8 + k) (nI 1))) (-5) (nI (warF (-1) S)) i = (g, m)) (c : nI (warF (-1) (upd S (8 + i) (nI 1))) ≤ m) : bestC (fun k => S (8 + k) = nI 0) (fun _ => inferInstance) (fun k => warF (-1) (upd S (8 + k) (nI 1))) (-5) (nI (warF (-1) S)) (i + 1) = (g, m) := by
  rw [bestC, hb, if_neg (fun z => Int32.not_lt.mpr c z.2)]

set_option maxHeartbeats 4000000 in
set_option maxRecDepth 100000 in
theorem m_X11_roofs (G : GG) (ro : va_W) (x : Nat) (r1 r2 r3 r4 r5 d b1 b2 b3 : Nat → Nat) (hi : Int32) (S tk le T tk3 le3 : Nat → Int32) (os os3 : Nat → Option Nat) (t t3 : Nat) (wa st3 wa3 : Int32)  (hW : WF S 9999 9999) (hO : MoOK G ro (r5 0) S os t)  : Mth G M_X11_roofs 8 0 0 [.ref x] (List.flatten [SP x r1 r2 r3 r4 r5 d b1 b2 b3 hi, MO G b1 (vwn S 2 6) tk os (vwn S 14 6) (vwn S 20 6) (vwn S 26 6) (vwn S 51 24) le (S 32) (bitF S) (S 0) (S 1) t (S 33) (-1) wa, MO G b3 (vwn T 2 6) tk3 os3 (vwn T 14 6) (vwn T 20 6) (vwn T 26 6) (vwn T 51 24) le3 (T 32) (bitF T) (T 0) (T 1) t3 (T 33) st3 wa3]) ro (fun r ws' ro' => ∃ (T' : Nat → Int32), ∃ (tk3' : Nat → Int32), ∃ (le3' : Nat → Int32), ∃ (os3' : Nat → Option Nat), ∃ (t3' : Nat), ∃ (st3' : Int32), ∃ (wa3' : Int32), r = some (.int (roofsR S)) ∧ ws' = (List.flatten [SP x r1 r2 r3 r4 r5 d b1 b2 b3 hi, MO G b1 (vwn S 2 6) tk os (vwn S 14 6) (vwn S 20 6) (vwn S 26 6) (vwn S 51 24) le (S 32) (bitF S) (S 0) (S 1) t (S 33) (-1) wa, MO G b3 (vwn T' 2 6) tk3' os3' (vwn T' 14 6) (vwn T' 20 6) (vwn T' 26 6) (vwn T' 51 24) le3' (T' 32) (bitF T') (T' 0) (T' 1) t3' (T' 33) st3' wa3']) ∧ ro = ro') := by
  refine mth_of (by decide +kernel) (Nat.le_of_ble_eq_true rfl) (fun X hC hR => ?_)
  have b32 := hW.peo.le
  show Ev G X 0 0 0 [(0, .ref x)] [] (List.flatten [SP x r1 r2 r3 r4 r5 d b1 b2 b3 hi, MO G b1 (vwn S 2 6) tk os (vwn S 14 6) (vwn S 20 6) (vwn S 26 6) (vwn S 51 24) le (S 32) (bitF S) (S 0) (S 1) t (S 33) (-1) wa, MO G b3 (vwn T 2 6) tk3 os3 (vwn T 14 6) (vwn T 20 6) (vwn T 26 6) (vwn T 51 24) le3 (T 32) (bitF T) (T 0) (T 1) t3 (T 33) st3 wa3]) ro
  refine ev_bipush (v := (-5)) hC dX11_roofs_0 (by decide) ?_
  refine ev_istore_n (lv' := [(1, .int (-5)), (0, .ref x)]) hC dX11_roofs_2 rfl (by decide) rfl ?_
  refine ev_aload_n hC dX11_roofs_3 rfl 1 rfl ?_
  refine ev_callV (As := []) (st := []) (wf := (List.flatten [])) hC cv_X11_192 (m_X11_asItIs G ro x r1 r2 r3 r4 r5 d b1 b2 b3 hi S tk le T tk3 le3 os os3 t t3 wa st3 wa3 hW hO ) (by omega) rfl rfl (Nat.le_of_ble_eq_true rfl) (perm_sg (n := 3) [0, 1, 2] rfl rfl (by decide)) (mw 0 rfl) rfl dX11_roofs_4 (by omega) (by omega) ?_
  rintro _ _ _ ⟨rfl, rfl, rfl⟩
  show Ev G X 0 0 7 [(1, .int (-5)), (0, .ref x)] [.ref (b3 0)] (List.flatten [SP x r1 r2 r3 r4 r5 d b1 b2 b3 hi, MO G b1 (vwn S 2 6) tk os (vwn S 14 6) (vwn S 20 6) (vwn S 26 6) (vwn S 51 24) le (S 32) (bitF S) (S 0) (S 1) t (S 33) (-1) wa, MO G b3 (vwn S 2 6) tk3 (cpO 6 os os3) (vwn S 14 6) (vwn S 20 6) (vwn S 26 6) (vwn S 51 24) le3 (S 32) (bitF S) (S 0) (S 1) t (S 33) (-1) (nI 0)]) ro
  have hO_1 := hO.os hW (os' := cpO 6 os os3) (fun p hp => if_pos hp)
  have wl_6 := warF_le (-1) S
  refine ev_callS (As := [.ref (b3 0)]) (st := []) (wf := (List.flatten [SP x r1 r2 r3 r4 r5 d b1 b2 b3 hi, MO G b1 (vwn S 2 6) tk os (vwn S 14 6) (vwn S 20 6) (vwn S 26 6) (vwn S 51 24) le (S 32) (bitF S) (S 0) (S 1) t (S 33) (-1) wa])) hC ct_X11_196 (m_X11_daysLasting G ro b3 S tk3 le3 (cpO 6 os os3) t (r5 0) (-1) (nI 0) hW hO_1 (by omega) (by omega)) (by omega) rfl rfl (Nat.le_of_ble_eq_true rfl) (perm_sg (n := 3) [2, 0, 1] rfl rfl (by decide)) dX11_roofs_7 (by omega) (by omega) ?_
  rintro _ _ _ ⟨S_2, tk_3, le_4, wa_5, rfl, rfl, rfl⟩
  show Ev G X 0 0 10 [(1, .int (-5)), (0, .ref x)] [.int (nI (warF (-1) S))] (List.flatten [MO G b3 (vwn S_2 2 6) tk_3 (cpO 6 os os3) (vwn S_2 14 6) (vwn S_2 20 6) (vwn S_2 26 6) (vwn S_2 51 24) le_4 (S_2 32) (bitF S_2) (S_2 0) (S_2 1) t (S_2 33) (-1) wa_5, SP x r1 r2 r3 r4 r5 d b1 b2 b3 hi, MO G b1 (vwn S 2 6) tk os (vwn S 14 6) (vwn S 20 6) (vwn S 26 6) (vwn S 51 24) le (S 32) (bitF S) (S 0) (S 1) t (S 33) (-1) wa]) ro
  refine ev_perm (ws' := (List.flatten [SP x r1 r2 r3 r4 r5 d b1 b2 b3 hi, MO G b1 (vwn S 2 6) tk os (vwn S 14 6) (vwn S 20 6) (vwn S 26 6) (vwn S 51 24) le (S 32) (bitF S) (S 0) (S 1) t (S 33) (-1) wa, MO G b3 (vwn S_2 2 6) tk_3 (cpO 6 os os3) (vwn S_2 14 6) (vwn S_2 20 6) (vwn S_2 26 6) (vwn S_2 51 24) le_4 (S_2 32) (bitF S_2) (S_2 0) (S_2 1) t (S_2 33) (-1) wa_5])) (perm_sg2 (n := 3) [1, 2, 0] rfl rfl (by decide)) ?_
  refine ev_istore_n (lv' := [(2, .int (nI (warF (-1) S))), (1, .int (-5)), (0, .ref x)]) hC dX11_roofs_10 rfl (by decide) rfl ?_
  refine ev_iconst (v := (nI 0)) hC dX11_roofs_11 (by decide) ?_
  refine ev_istore_n (lv' := [(3, .int (nI 0)), (2, .int (nI (warF (-1) S))), (1, .int (-5)), (0, .ref x)]) hC dX11_roofs_12 rfl (by decide) rfl ?_
  have lp_13 : ∀ (fu_13 : Nat) (i : Nat) (g : Int32) (m : Int32) (T : Nat → Int32) (tk3 : Nat → Int32) (le3 : Nat → Int32) (os3 : Nat → Option Nat) (t3 : Nat) (st3 : Int32) (wa3 : Int32) (hii : i ≤ 6) (hb : bestC (fun k => S (8 + k) = nI 0) (fun _ => inferInstance) (fun k => warF (-1) (upd S (8 + k) (nI 1))) (-5) (nI (warF (-1) S)) i = (g, m)) (hm : nI (warF (-1) S) ≤ m) (hn : 6 - i < fu_13), Ev G X 0 0 13 [(0, .ref x), (1, .int g), (2, .int m), (3, .int (nI i))] [] (List.flatten [SP x r1 r2 r3 r4 r5 d b1 b2 b3 hi, MO G b1 (vwn S 2 6) tk os (vwn S 14 6) (vwn S 20 6) (vwn S 26 6) (vwn S 51 24) le (S 32) (bitF S) (S 0) (S 1) t (S 33) (-1) wa, MO G b3 (vwn T 2 6) tk3 os3 (vwn T 14 6) (vwn T 20 6) (vwn T 26 6) (vwn T 51 24) le3 (T 32) (bitF T) (T 0) (T 1) t3 (T 33) st3 wa3]) ro := by
    intro fu_13
    induction fu_13 with
    | zero => intro i g m T tk3 le3 os3 t3 st3 wa3 hii hb hm hn; exact absurd hn (Nat.not_lt_zero _)
    | succ fu_13 ih =>
      intro i g m T tk3 le3 os3 t3 st3 wa3 hii hb hm hn
      refine ev_iload_n hC dX11_roofs_13 rfl 3 rfl ?_
      refine ev_bipush (v := (nI 6)) hC dX11_roofs_14 (by decide) ?_
      refine ev_icmp_geN (tgt := 62) hC dX11_roofs_16 (by decide) (by omega) (by omega) (fun c_7 => ?_) (fun c_7 => ?_)
      · refine ev_iload_n hC dX11_roofs_62 rfl 1 rfl ?_
        refine ev_iret hC hR rfl dX11_roofs_63 ?_
        obtain rfl : i = 6 := by omega
        have er : roofsR S = g := by rw [roofsR, hb]
        exact ⟨_, _, _, _, _, _, _, by rw [er], rfl, rfl⟩
      · refine ev_aload_n hC dX11_roofs_19 rfl 0 rfl ?_
        refine ev_callV (As := []) (st := []) (wf := (List.flatten [])) hC cv_X11_192 (m_X11_asItIs G ro x r1 r2 r3 r4 r5 d b1 b2 b3 hi S tk le T tk3 le3 os os3 t t3 wa st3 wa3 hW hO ) (by omega) rfl rfl (Nat.le_of_ble_eq_true rfl) (perm_sg (n := 3) [0, 1, 2] rfl rfl (by decide)) (mw 0 rfl) rfl dX11_roofs_20 (by omega) (by omega) ?_
        rintro _ _ _ ⟨rfl, rfl, rfl⟩
        show Ev G X 0 0 23 [(0, .ref x), (1, .int g), (2, .int m), (3, .int (nI i))] [.ref (b3 0)] (List.flatten [SP x r1 r2 r3 r4 r5 d b1 b2 b3 hi, MO G b1 (vwn S 2 6) tk os (vwn S 14 6) (vwn S 20 6) (vwn S 26 6) (vwn S 51 24) le (S 32) (bitF S) (S 0) (S 1) t (S 33) (-1) wa, MO G b3 (vwn S 2 6) tk3 (cpO 6 os os3) (vwn S 14 6) (vwn S 20 6) (vwn S 26 6) (vwn S 51 24) le3 (S 32) (bitF S) (S 0) (S 1) t (S 33) (-1) (nI 0)]) ro
        have hO_8 := hO.os hW (os' := cpO 6 os os3) (fun p hp => if_pos hp)
        refine ev_astore (lv' := [(4, .ref (b3 0)), (0, .ref x), (1, .int g), (2, .int m), (3, .int (nI i))]) hC dX11_roofs_23 (by decide) rfl ?_
        refine ev_aload hC dX11_roofs_25 0 rfl ?_
        refine ev_dup hC dX11_roofs_27 rfl ?_
        refine ev_get hC fl_X11_164_3 (mw 10 rfl) rfl dX11_roofs_28 ?_
        refine ev_iconst (v := (nI 1)) hC dX11_roofs_31 (by decide) ?_
        refine ev_iload_n hC dX11_roofs_32 rfl 4 rfl ?_
        refine ev_ishl hC dX11_roofs_33 ?_
        refine ev_ior hC dX11_roofs_34 ?_
        refine ev_put (ws' := (List.flatten [SP x r1 r2 r3 r4 r5 d b1 b2 b3 hi, MO G b1 (vwn S 2 6) tk os (vwn S 14 6) (vwn S 20 6) (vwn S 26 6) (vwn S 51 24) le (S 32) (bitF S) (S 0) (S 1) t (S 33) (-1) wa, MO G b3 (vwn S 2 6) tk3 (cpO 6 os os3) (vwn S 14 6) (vwn S 20 6) (vwn S 26 6) (vwn S 51 24) le3 (S 32) ((bitF S) ||| ((nI 1) <<< ((nI i) &&& 31))) (S 0) (S 1) t (S 33) (-1) (nI 0)])) (q0 := 10) hC fp_X11_164_3 rfl (Nat.le_of_ble_eq_true rfl) rfl rfl rfl dX11_roofs_35 ?_
        have hWr := WF.roof_upd hW (k := i) (by omega)
        refine ev_ws (ws' := (List.flatten [SP x r1 r2 r3 r4 r5 d b1 b2 b3 hi, MO G b1 (vwn S 2 6) tk os (vwn S 14 6) (vwn S 20 6) (vwn S 26 6) (vwn S 51 24) le (S 32) (bitF S) (S 0) (S 1) t (S 33) (-1) wa, MO G b3 (vwn (upd S (8 + i) (nI 1)) 2 6) tk3 (cpO 6 os os3) (vwn (upd S (8 + i) (nI 1)) 14 6) (vwn (upd S (8 + i) (nI 1)) 20 6) (vwn (upd S (8 + i) (nI 1)) 26 6) (vwn (upd S (8 + i) (nI 1)) 51 24) le3 ((upd S (8 + i) (nI 1)) 32) (bitF (upd S (8 + i) (nI 1))) ((upd S (8 + i) (nI 1)) 0) ((upd S (8 + i) (nI 1)) 1) t ((upd S (8 + i) (nI 1)) 33) (-1) (nI 0)])) (by rw [show (MO G b3 (vwn S 2 6) tk3 (cpO 6 os os3) (vwn S 14 6) (vwn S 20 6) (vwn S 26 6) (vwn S 51 24) le3 (S 32) ((bitF S) ||| ((nI 1) <<< ((nI i) &&& 31))) (S 0) (S 1) t (S 33) (-1) (nI 0)) = (MO G b3 (vwn (upd S (8 + i) (nI 1)) 2 6) tk3 (cpO 6 os os3) (vwn (upd S (8 + i) (nI 1)) 14 6) (vwn (upd S (8 + i) (nI 1)) 20 6) (vwn (upd S (8 + i) (nI 1)) 26 6) (vwn (upd S (8 + i) (nI 1)) 51 24) le3 ((upd S (8 + i) (nI 1)) 32) (bitF (upd S (8 + i) (nI 1))) ((upd S (8 + i) (nI 1)) 0) ((upd S (8 + i) (nI 1)) 1) t ((upd S (8 + i) (nI 1)) 33) (-1) (nI 0)) from mo_eq (by rw [vwn_ne (o := 2) (n := 6) (by omega)]) rfl rfl (by rw [vwn_ne (o := 14) (n := 6) (by omega)]) (by rw [vwn_ne (o := 20) (n := 6) (by omega)]) (by rw [vwn_ne (o := 26) (n := 6) (by omega)]) (by rw [vwn_ne (o := 51) (n := 24) (by omega)]) rfl (by rw [upd_ne _ _ (by omega)]) (bitF_set hW (by omega)).symm (by rw [upd_ne _ _ (by omega)]) (by rw [upd_ne _ _ (by omega)]) (by rw [upd_ne _ _ (by omega)]) rfl rfl]) ?_
        refine ev_aload hC dX11_roofs_38 0 rfl ?_
        have wl_13 := warF_le (-1) (upd S (8 + i) (nI 1))
        refine ev_callS (As := [.ref (b3 0)]) (st := []) (wf := (List.flatten [SP x r1 r2 r3 r4 r5 d b1 b2 b3 hi, MO G b1 (vwn S 2 6) tk os (vwn S 14 6) (vwn S 20 6) (vwn S 26 6) (vwn S 51 24) le (S 32) (bitF S) (S 0) (S 1) t (S 33) (-1) wa])) hC ct_X11_196 (m_X11_daysLasting G ro b3 (upd S (8 + i) (nI 1)) tk3 le3 (cpO 6 os os3) t (r5 0) (-1) (nI 0) hWr (MoOK.hi hO_8 (Hi.upd Hi.rf (by omega) _)) (by omega) (by omega)) (by omega) rfl rfl (Nat.le_of_ble_eq_true rfl) (perm_sg (n := 3) [2, 0, 1] rfl rfl (by decide)) dX11_roofs_40 (by omega) (by omega) ?_
        rintro _ _ _ ⟨S_9, tk_10, le_11, wa_12, rfl, rfl, rfl⟩
        show Ev G X 0 0 43 [(4, .ref (b3 0)), (0, .ref x), (1, .int g), (2, .int m), (3, .int (nI i))] [.int (nI (warF (-1) (upd S (8 + i) (nI 1))))] (List.flatten [MO G b3 (vwn S_9 2 6) tk_10 (cpO 6 os os3) (vwn S_9 14 6) (vwn S_9 20 6) (vwn S_9 26 6) (vwn S_9 51 24) le_11 (S_9 32) (bitF S_9) (S_9 0) (S_9 1) t (S_9 33) (-1) wa_12, SP x r1 r2 r3 r4 r5 d b1 b2 b3 hi, MO G b1 (vwn S 2 6) tk os (vwn S 14 6) (vwn S 20 6) (vwn S 26 6) (vwn S 51 24) le (S 32) (bitF S) (S 0) (S 1) t (S 33) (-1) wa]) ro
        refine ev_perm (ws' := (List.flatten [SP x r1 r2 r3 r4 r5 d b1 b2 b3 hi, MO G b1 (vwn S 2 6) tk os (vwn S 14 6) (vwn S 20 6) (vwn S 26 6) (vwn S 51 24) le (S 32) (bitF S) (S 0) (S 1) t (S 33) (-1) wa, MO G b3 (vwn S_9 2 6) tk_10 (cpO 6 os os3) (vwn S_9 14 6) (vwn S_9 20 6) (vwn S_9 26 6) (vwn S_9 51 24) le_11 (S_9 32) (bitF S_9) (S_9 0) (S_9 1) t (S_9 33) (-1) wa_12])) (perm_sg2 (n := 3) [1, 2, 0] rfl rfl (by decide)) ?_
        refine ev_istore (lv' := [(5, .int (nI (warF (-1) (upd S (8 + i) (nI 1))))), (4, .ref (b3 0)), (0, .ref x), (1, .int g), (2, .int m), (3, .int (nI i))]) hC dX11_roofs_43 (by decide) rfl ?_
        refine ev_iload hC dX11_roofs_45 0 rfl ?_
        refine ev_iload_n hC dX11_roofs_47 rfl 4 rfl ?_
        refine ev_icmp_le (tgt := 56) hC dX11_roofs_48 (by decide) (fun c_14 => ?_) (fun c_14 => ?_)
        · refine ev_iinc (v := (nI (i + 1))) (lv' := [(3, .int (nI (i + 1))), (5, .int (nI (warF (-1) (upd S (8 + i) (nI 1))))), (4, .ref (b3 0)), (0, .ref x), (1, .int g), (2, .int m)]) hC dX11_roofs_56 (q := 5) rfl (nI_k _ _ 1 (by decide)) (by decide) rfl ?_
          refine ev_goto (tgt := 13) hC dX11_roofs_59 (by decide) ?_
          refine ev_lv [3, 4, 5, 0] rfl ?_
          exact ih (i + 1) g m S_9 tk_10 le_11 (cpO 6 os os3) t (-1) wa_12 (by omega) (by first | exact (roofs_t hW (by omega) hb hm (by assumption)).1 | exact roofs_f hb (by assumption)) (by first | assumption | exact (roofs_t hW (by omega) hb hm (by assumption)).2) (by omega)
        · refine ev_iload hC dX11_roofs_51 0 rfl ?_
          refine ev_istore_n (lv' := [(2, .int (nI (warF (-1) (upd S (8 + i) (nI 1))))), (5, .int (nI (warF (-1) (upd S (8 + i) (nI 1))))), (4, .ref (b3 0)), (0, .ref x), (1, .int g), (3, .int (nI i))]) hC dX11_roofs_53 rfl (by decide) rfl ?_
          refine ev_iload_n hC dX11_roofs_54 rfl 5 rfl ?_
          refine ev_istore_n (lv' := [(1, .int (nI i)), (2, .int (nI (warF (-1) (upd S (8 + i) (nI 1))))), (5, .int (nI (warF (-1) (upd S (8 + i) (nI 1))))), (4, .ref (b3 0)), (0, .ref x), (3, .int (nI i))]) hC dX11_roofs_55 rfl (by decide) rfl ?_
          refine ev_iinc (v := (nI (i + 1))) (lv' := [(3, .int (nI (i + 1))), (1, .int (nI i)), (2, .int (nI (warF (-1) (upd S (8 + i) (nI 1))))), (5, .int (nI (warF (-1) (upd S (8 + i) (nI 1))))), (4, .ref (b3 0)), (0, .ref x)]) hC dX11_roofs_56 (q := 5) rfl (nI_k _ _ 1 (by decide)) (by decide) rfl ?_
          refine ev_goto (tgt := 13) hC dX11_roofs_59 (by decide) ?_
          refine ev_lv [5, 1, 2, 0] rfl ?_
          exact ih (i + 1) (nI i) (nI (warF (-1) (upd S (8 + i) (nI 1)))) S_9 tk_10 le_11 (cpO 6 os os3) t (-1) wa_12 (by omega) (by first | exact (roofs_t hW (by omega) hb hm (by assumption)).1 | exact roofs_f hb (by assumption)) (by first | assumption | exact (roofs_t hW (by omega) hb hm (by assumption)).2) (by omega)
  refine ev_lv [3, 2, 1, 0] rfl ?_
  exact lp_13 (6 - 0 + 1) 0 (-5) (nI (warF (-1) S)) S_2 tk_3 le_4 (cpO 6 os os3) t (-1) wa_5 (by omega) rfl (Int32.le_refl _) (Nat.lt_succ_self _)
