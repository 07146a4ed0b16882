set_option maxHeartbeats 4000000 in
set_option maxRecDepth 100000 in
theorem m_X11_on (G : GG) (ro : va_W) (x : Nat) (r1 r2 r3 r4 r5 d b1 b2 b3 : Nat → Nat) (hi : Int32) (S tk le T tk3 le3 : Nat → Int32) (os os3 : Nat → Option Nat) (t t3 : Nat) (wa st3 wa3 : Int32) (x2 w : Int32) (hW : WF S 9999 9999) (hO : MoOK G ro (r5 0) S os t)  : Mth G M_X11_on 8 0 0 [.ref x, .int x2, .int w] (List.flatten [SP x r1 r2 r3 r4 r5 d b1 b2 b3 hi, MO G b1 (vwn S 2 6) tk os (vwn S 14 6) (vwn S 20 6) (vwn S 26 6) (vwn S 51 24) le (S 32) (bitF S) (S 0) (S 1) t (S 33) (-1) wa, MO G b3 (vwn T 2 6) tk3 os3 (vwn T 14 6) (vwn T 20 6) (vwn T 26 6) (vwn T 51 24) le3 (T 32) (bitF T) (T 0) (T 1) t3 (T 33) st3 wa3]) ro (fun r ws' ro' => ∃ (T' : Nat → Int32), ∃ (tk3' : Nat → Int32), ∃ (le3' : Nat → Int32), ∃ (os3' : Nat → Option Nat), ∃ (t3' : Nat), ∃ (st3' : Int32), ∃ (wa3' : Int32), r = some (.int (onR S x2 w)) ∧ ws' = (List.flatten [SP x r1 r2 r3 r4 r5 d b1 b2 b3 hi, MO G b1 (vwn S 2 6) tk os (vwn S 14 6) (vwn S 20 6) (vwn S 26 6) (vwn S 51 24) le (S 32) (bitF S) (S 0) (S 1) t (S 33) (-1) wa, MO G b3 (vwn T' 2 6) tk3' os3' (vwn T' 14 6) (vwn T' 20 6) (vwn T' 26 6) (vwn T' 51 24) le3' (T' 32) (bitF T') (T' 0) (T' 1) t3' (T' 33) st3' wa3']) ∧ ro = ro') := by
  refine mth_of (by decide +kernel) (Nat.le_of_ble_eq_true rfl) (fun X hC hR => ?_)
  have b32 := hW.peo.le
  show Ev G X 0 0 0 [(0, .ref x), (1, .int x2), (2, .int w)] [] (List.flatten [SP x r1 r2 r3 r4 r5 d b1 b2 b3 hi, MO G b1 (vwn S 2 6) tk os (vwn S 14 6) (vwn S 20 6) (vwn S 26 6) (vwn S 51 24) le (S 32) (bitF S) (S 0) (S 1) t (S 33) (-1) wa, MO G b3 (vwn T 2 6) tk3 os3 (vwn T 14 6) (vwn T 20 6) (vwn T 26 6) (vwn T 51 24) le3 (T 32) (bitF T) (T 0) (T 1) t3 (T 33) st3 wa3]) ro
  refine ev_iload_n hC dX11_on_0 rfl 2 rfl ?_
  refine ev_iconst (v := (nI 0)) hC dX11_on_1 (by decide) ?_
  refine ev_iconst (v := (nI 1)) hC dX11_on_2 (by decide) ?_
  refine ev_callS (As := [.int w, .int (nI 0), .int (nI 1)]) (st := []) (wc := []) (wf := (List.flatten [SP x r1 r2 r3 r4 r5 d b1 b2 b3 hi, MO G b1 (vwn S 2 6) tk os (vwn S 14 6) (vwn S 20 6) (vwn S 26 6) (vwn S 51 24) le (S 32) (bitF S) (S 0) (S 1) t (S 33) (-1) wa, MO G b3 (vwn T 2 6) tk3 os3 (vwn T 14 6) (vwn T 20 6) (vwn T 26 6) (vwn T 51 24) le3 (T 32) (bitF T) (T 0) (T 1) t3 (T 33) st3 wa3])) hC ct_X11_68 (m_X11_isWithin G ro w (nI 0) (nI 1)) (by omega) rfl rfl (Nat.le_of_ble_eq_true rfl) (List.Perm.refl _) dX11_on_3 (by omega) (by omega) ?_
  rintro _ _ _ ⟨rfl, rfl, rfl⟩
  refine ev_ws (List.nil_append _) ?_
  show Ev G X 0 0 6 [(0, .ref x), (1, .int x2), (2, .int w)] [.int (bI ((nI 0) ≤ w ∧ w ≤ (nI 1)))] (List.flatten [SP x r1 r2 r3 r4 r5 d b1 b2 b3 hi, MO G b1 (vwn S 2 6) tk os (vwn S 14 6) (vwn S 20 6) (vwn S 26 6) (vwn S 51 24) le (S 32) (bitF S) (S 0) (S 1) t (S 33) (-1) wa, MO G b3 (vwn T 2 6) tk3 os3 (vwn T 14 6) (vwn T 20 6) (vwn T 26 6) (vwn T 51 24) le3 (T 32) (bitF T) (T 0) (T 1) t3 (T 33) st3 wa3]) ro
  refine ev_istore_n (lv' := [(3, .int (bI ((nI 0) ≤ w ∧ w ≤ (nI 1)))), (0, .ref x), (1, .int x2), (2, .int w)]) hC dX11_on_6 rfl (by decide) rfl ?_
  refine ev_iload_n hC dX11_on_7 rfl 0 rfl ?_
  refine ev_if_neB (tgt := 45) hC dX11_on_8 (by decide) (fun c_1 => ?_) (fun c_1 => ?_)
  · obtain ⟨wk, hwk, rfl⟩ := inN (m := 1) (by omega) (by assumption)
    rcases (show wk = 0 ∨ wk = 1 by omega) with rfl | rfl
    · refine ev_iload_n hC dX11_on_45 rfl 2 rfl ?_
      refine ev_iconst (v := (nI 0)) hC dX11_on_46 (by decide) ?_
      refine ev_bipush (v := (nI 60)) hC dX11_on_47 (by decide) ?_
      refine ev_callS (As := [.int x2, .int (nI 0), .int (nI 60)]) (st := []) (wc := []) (wf := (List.flatten [SP x r1 r2 r3 r4 r5 d b1 b2 b3 hi, MO G b1 (vwn S 2 6) tk os (vwn S 14 6) (vwn S 20 6) (vwn S 26 6) (vwn S 51 24) le (S 32) (bitF S) (S 0) (S 1) t (S 33) (-1) wa, MO G b3 (vwn T 2 6) tk3 os3 (vwn T 14 6) (vwn T 20 6) (vwn T 26 6) (vwn T 51 24) le3 (T 32) (bitF T) (T 0) (T 1) t3 (T 33) st3 wa3])) hC ct_X11_68 (m_X11_isWithin G ro x2 (nI 0) (nI 60)) (by omega) rfl rfl (Nat.le_of_ble_eq_true rfl) (List.Perm.refl _) dX11_on_49 (by omega) (by omega) ?_
      rintro _ _ _ ⟨rfl, rfl, rfl⟩
      refine ev_ws (List.nil_append _) ?_
      show Ev G X 0 0 52 [(3, .int (bI ((nI 0) ≤ (nI 0) ∧ (nI 0) ≤ (nI 1)))), (0, .ref x), (1, .int x2), (2, .int (nI 0))] [.int (bI ((nI 0) ≤ x2 ∧ x2 ≤ (nI 60)))] (List.flatten [SP x r1 r2 r3 r4 r5 d b1 b2 b3 hi, MO G b1 (vwn S 2 6) tk os (vwn S 14 6) (vwn S 20 6) (vwn S 26 6) (vwn S 51 24) le (S 32) (bitF S) (S 0) (S 1) t (S 33) (-1) wa, MO G b3 (vwn T 2 6) tk3 os3 (vwn T 14 6) (vwn T 20 6) (vwn T 26 6) (vwn T 51 24) le3 (T 32) (bitF T) (T 0) (T 1) t3 (T 33) st3 wa3]) ro
      refine ev_if_neB (tgt := 58) hC dX11_on_52 (by decide) (fun c_2 => ?_) (fun c_2 => ?_)
      · obtain ⟨kk, hkk, rfl⟩ := inN (m := 60) (by omega) (by assumption)
        have hpn_kk : pn (nI kk) = kk := nI_clamp (by omega)
        refine ev_aload_n hC dX11_on_58 rfl 1 rfl ?_
        refine ev_iload_n hC dX11_on_59 rfl 2 rfl ?_
        refine ev_callV (As := [.int (nI kk)]) (st := []) (wf := (List.flatten [])) hC cv_X11_188 (m_X11_after G ro x r1 r2 r3 r4 r5 d b1 b2 b3 hi S tk le T tk3 le3 os os3 t t3 wa st3 wa3 kk hW hO (by omega) (by omega) (by omega)) (by omega) rfl rfl (Nat.le_of_ble_eq_true rfl) (perm_sg (n := 3) [0, 1, 2] rfl rfl (by decide)) (mw 0 rfl) rfl dX11_on_60 (by omega) (by omega) ?_
        rintro _ _ _ ⟨tk_3, le_4, hK_5, rfl, rfl, rfl⟩
        show Ev G X 0 0 63 [(3, .int (bI ((nI 0) ≤ (nI 0) ∧ (nI 0) ≤ (nI 1)))), (0, .ref x), (1, .int (nI kk)), (2, .int (nI 0))] [.ref (b3 0)] (List.flatten [SP x r1 r2 r3 r4 r5 d b1 b2 b3 hi, MO G b1 (vwn S 2 6) tk os (vwn S 14 6) (vwn S 20 6) (vwn S 26 6) (vwn S 51 24) le (S 32) (bitF S) (S 0) (S 1) t (S 33) (-1) wa, MO G b3 (vwn (gosF (-1) S kk) 2 6) tk_3 (cpO 6 os os3) (vwn (gosF (-1) S kk) 14 6) (vwn (gosF (-1) S kk) 20 6) (vwn (gosF (-1) S kk) 26 6) (vwn (gosF (-1) S kk) 51 24) le_4 ((gosF (-1) S kk) 32) (bitF (gosF (-1) S kk)) ((gosF (-1) S kk) 0) ((gosF (-1) S kk) 1) t ((gosF (-1) S kk) 33) (-1) (raF (-1) S (nI 0) kk)]) ro
        have hO_6 := hO.os hW (os' := cpO 6 os os3) (fun p hp => if_pos hp)
        refine ev_astore (lv' := [(4, .ref (b3 0)), (3, .int (bI ((nI 0) ≤ (nI 0) ∧ (nI 0) ≤ (nI 1)))), (0, .ref x), (1, .int (nI kk)), (2, .int (nI 0))]) hC dX11_on_63 (by decide) rfl ?_
        refine ev_iload_n hC dX11_on_65 rfl 1 rfl ?_
        refine ev_if_eqB (tgt := 87) hC dX11_on_66 (by decide) (fun c_7 => absurd c_7 (fun z => z (by decide))) (fun c_7 => ?_)
        refine ev_iload_n hC dX11_on_69 rfl 4 rfl ?_
        refine ev_if_neN (tgt := 81) hC dX11_on_70 (by decide) (by omega) (fun c_8 => absurd c_8 (by omega)) (fun c_8 => ?_)
        refine ev_aload hC dX11_on_73 0 rfl ?_
        refine ev_callV (As := []) (st := []) (wf := (List.flatten [SP x r1 r2 r3 r4 r5 d b1 b2 b3 hi, MO G b1 (vwn S 2 6) tk os (vwn S 14 6) (vwn S 20 6) (vwn S 26 6) (vwn S 51 24) le (S 32) (bitF S) (S 0) (S 1) t (S 33) (-1) wa])) hC cv_X11_176 (m_X3_allSalt G ro b3 (gosF (-1) S kk) tk_3 le_4 (cpO 6 os os3) t (r5 0) (-1) (raF (-1) S (nI 0) kk)  ((gosF_wf (-1) hW kk (by omega) (by omega)).1)) (by omega) rfl rfl (Nat.le_of_ble_eq_true rfl) (perm_sg (n := 3) [2, 0, 1] rfl rfl (by decide)) (mw 10 rfl) rfl dX11_on_75 (by omega) (by omega) ?_
        rintro _ _ _ ⟨rfl, rfl, rfl⟩
        show Ev G X 0 0 78 [(4, .ref (b3 0)), (3, .int (bI ((nI 0) ≤ (nI 0) ∧ (nI 0) ≤ (nI 1)))), (0, .ref x), (1, .int (nI kk)), (2, .int (nI 0))] [.int (sum6 (gosF (-1) S kk) 2)] (List.flatten [MO G b3 (vwn (gosF (-1) S kk) 2 6) tk_3 (cpO 6 os os3) (vwn (gosF (-1) S kk) 14 6) (vwn (gosF (-1) S kk) 20 6) (vwn (gosF (-1) S kk) 26 6) (vwn (gosF (-1) S kk) 51 24) le_4 ((gosF (-1) S kk) 32) (bitF (gosF (-1) S kk)) ((gosF (-1) S kk) 0) ((gosF (-1) S kk) 1) t ((gosF (-1) S kk) 33) (-1) (raF (-1) S (nI 0) kk), SP x r1 r2 r3 r4 r5 d b1 b2 b3 hi, MO G b1 (vwn S 2 6) tk os (vwn S 14 6) (vwn S 20 6) (vwn S 26 6) (vwn S 51 24) le (S 32) (bitF S) (S 0) (S 1) t (S 33) (-1) wa]) ro
        refine ev_perm (ws' := (List.flatten [SP x r1 r2 r3 r4 r5 d b1 b2 b3 hi, MO G b1 (vwn S 2 6) tk os (vwn S 14 6) (vwn S 20 6) (vwn S 26 6) (vwn S 51 24) le (S 32) (bitF S) (S 0) (S 1) t (S 33) (-1) wa, MO G b3 (vwn (gosF (-1) S kk) 2 6) tk_3 (cpO 6 os os3) (vwn (gosF (-1) S kk) 14 6) (vwn (gosF (-1) S kk) 20 6) (vwn (gosF (-1) S kk) 26 6) (vwn (gosF (-1) S kk) 51 24) le_4 ((gosF (-1) S kk) 32) (bitF (gosF (-1) S kk)) ((gosF (-1) S kk) 0) ((gosF (-1) S kk) 1) t ((gosF (-1) S kk) 33) (-1) (raF (-1) S (nI 0) kk)])) (perm_sg2 (n := 3) [1, 2, 0] rfl rfl (by decide)) ?_
        refine ev_goto (tgt := 86) hC dX11_on_78 (by decide) ?_
        refine ev_iret hC hR rfl dX11_on_86 ?_
        have hs32 : sn (gosF (-1) S kk) 32 = sn S 32 := (gosF_wf (-1) hW kk (by omega) (by omega)).2.sn (by omega)
        have er : onR S (nI kk) (nI 0) = (sum6 (gosF (-1) S kk) 2) := by rw [onR, if_pos (by first | exact Or.inl (by assumption) | exact Or.inr (Or.inl (by assumption)) | exact Or.inr (Or.inr (Or.inl (by assumption))) | exact Or.inr (Or.inr (Or.inr (by assumption)))), if_pos (by assumption), hpn_kk, if_pos rfl]
        exact ⟨_, _, _, _, _, _, _, by rw [er], rfl, rfl⟩
      · refine ev_bipush (v := (-2)) hC dX11_on_55 (by decide) ?_
        refine ev_iret hC hR rfl dX11_on_57 ?_
        have er : onR S x2 (nI 0) = (-2) := by rw [onR, if_pos (by first | exact Or.inl (by assumption) | exact Or.inr (Or.inl (by assumption)) | exact Or.inr (Or.inr (Or.inl (by assumption))) | exact Or.inr (Or.inr (Or.inr (by assumption)))), if_neg (by assumption)]
        exact ⟨_, _, _, _, _, _, _, by rw [er], rfl, rfl⟩
    · refine ev_iload_n hC dX11_on_45 rfl 2 rfl ?_
      refine ev_iconst (v := (nI 0)) hC dX11_on_46 (by decide) ?_
      refine ev_bipush (v := (nI 60)) hC dX11_on_47 (by decide) ?_
      refine ev_callS (As := [.int x2, .int (nI 0), .int (nI 60)]) (st := []) (wc := []) (wf := (List.flatten [SP x r1 r2 r3 r4 r5 d b1 b2 b3 hi, MO G b1 (vwn S 2 6) tk os (vwn S 14 6) (vwn S 20 6) (vwn S 26 6) (vwn S 51 24) le (S 32) (bitF S) (S 0) (S 1) t (S 33) (-1) wa, MO G b3 (vwn T 2 6) tk3 os3 (vwn T 14 6) (vwn T 20 6) (vwn T 26 6) (vwn T 51 24) le3 (T 32) (bitF T) (T 0) (T 1) t3 (T 33) st3 wa3])) hC ct_X11_68 (m_X11_isWithin G ro x2 (nI 0) (nI 60)) (by omega) rfl rfl (Nat.le_of_ble_eq_true rfl) (List.Perm.refl _) dX11_on_49 (by omega) (by omega) ?_
      rintro _ _ _ ⟨rfl, rfl, rfl⟩
      refine ev_ws (List.nil_append _) ?_
      show Ev G X 0 0 52 [(3, .int (bI ((nI 0) ≤ (nI 1) ∧ (nI 1) ≤ (nI 1)))), (0, .ref x), (1, .int x2), (2, .int (nI 1))] [.int (bI ((nI 0) ≤ x2 ∧ x2 ≤ (nI 60)))] (List.flatten [SP x r1 r2 r3 r4 r5 d b1 b2 b3 hi, MO G b1 (vwn S 2 6) tk os (vwn S 14 6) (vwn S 20 6) (vwn S 26 6) (vwn S 51 24) le (S 32) (bitF S) (S 0) (S 1) t (S 33) (-1) wa, MO G b3 (vwn T 2 6) tk3 os3 (vwn T 14 6) (vwn T 20 6) (vwn T 26 6) (vwn T 51 24) le3 (T 32) (bitF T) (T 0) (T 1) t3 (T 33) st3 wa3]) ro
      refine ev_if_neB (tgt := 58) hC dX11_on_52 (by decide) (fun c_9 => ?_) (fun c_9 => ?_)
      · obtain ⟨kk, hkk, rfl⟩ := inN (m := 60) (by omega) (by assumption)
        have hpn_kk : pn (nI kk) = kk := nI_clamp (by omega)
        refine ev_aload_n hC dX11_on_58 rfl 1 rfl ?_
        refine ev_iload_n hC dX11_on_59 rfl 2 rfl ?_
        refine ev_callV (As := [.int (nI kk)]) (st := []) (wf := (List.flatten [])) hC cv_X11_188 (m_X11_after G ro x r1 r2 r3 r4 r5 d b1 b2 b3 hi S tk le T tk3 le3 os os3 t t3 wa st3 wa3 kk hW hO (by omega) (by omega) (by omega)) (by omega) rfl rfl (Nat.le_of_ble_eq_true rfl) (perm_sg (n := 3) [0, 1, 2] rfl rfl (by decide)) (mw 0 rfl) rfl dX11_on_60 (by omega) (by omega) ?_
        rintro _ _ _ ⟨tk_10, le_11, hK_12, rfl, rfl, rfl⟩
        show Ev G X 0 0 63 [(3, .int (bI ((nI 0) ≤ (nI 1) ∧ (nI 1) ≤ (nI 1)))), (0, .ref x), (1, .int (nI kk)), (2, .int (nI 1))] [.ref (b3 0)] (List.flatten [SP x r1 r2 r3 r4 r5 d b1 b2 b3 hi, MO G b1 (vwn S 2 6) tk os (vwn S 14 6) (vwn S 20 6) (vwn S 26 6) (vwn S 51 24) le (S 32) (bitF S) (S 0) (S 1) t (S 33) (-1) wa, MO G b3 (vwn (gosF (-1) S kk) 2 6) tk_10 (cpO 6 os os3) (vwn (gosF (-1) S kk) 14 6) (vwn (gosF (-1) S kk) 20 6) (vwn (gosF (-1) S kk) 26 6) (vwn (gosF (-1) S kk) 51 24) le_11 ((gosF (-1) S kk) 32) (bitF (gosF (-1) S kk)) ((gosF (-1) S kk) 0) ((gosF (-1) S kk) 1) t ((gosF (-1) S kk) 33) (-1) (raF (-1) S (nI 0) kk)]) ro
        have hO_13 := hO.os hW (os' := cpO 6 os os3) (fun p hp => if_pos hp)
        refine ev_astore (lv' := [(4, .ref (b3 0)), (3, .int (bI ((nI 0) ≤ (nI 1) ∧ (nI 1) ≤ (nI 1)))), (0, .ref x), (1, .int (nI kk)), (2, .int (nI 1))]) hC dX11_on_63 (by decide) rfl ?_
        refine ev_iload_n hC dX11_on_65 rfl 1 rfl ?_
        refine ev_if_eqB (tgt := 87) hC dX11_on_66 (by decide) (fun c_14 => absurd c_14 (fun z => z (by decide))) (fun c_14 => ?_)
        refine ev_iload_n hC dX11_on_69 rfl 4 rfl ?_
        refine ev_if_neN (tgt := 81) hC dX11_on_70 (by decide) (by omega) (fun c_15 => ?_) (fun c_15 => absurd c_15 (by omega))
        refine ev_aload hC dX11_on_81 0 rfl ?_
        refine ev_callV (As := []) (st := []) (wf := (List.flatten [SP x r1 r2 r3 r4 r5 d b1 b2 b3 hi, MO G b1 (vwn S 2 6) tk os (vwn S 14 6) (vwn S 20 6) (vwn S 26 6) (vwn S 51 24) le (S 32) (bitF S) (S 0) (S 1) t (S 33) (-1) wa])) hC cv_X11_179 (m_X3_allGrudge G ro b3 (gosF (-1) S kk) tk_10 le_11 (cpO 6 os os3) t (r5 0) (-1) (raF (-1) S (nI 0) kk)  ((gosF_wf (-1) hW kk (by omega) (by omega)).1)) (by omega) rfl rfl (Nat.le_of_ble_eq_true rfl) (perm_sg (n := 3) [2, 0, 1] rfl rfl (by decide)) (mw 10 rfl) rfl dX11_on_83 (by omega) (by omega) ?_
        rintro _ _ _ ⟨rfl, rfl, rfl⟩
        show Ev G X 0 0 86 [(4, .ref (b3 0)), (3, .int (bI ((nI 0) ≤ (nI 1) ∧ (nI 1) ≤ (nI 1)))), (0, .ref x), (1, .int (nI kk)), (2, .int (nI 1))] [.int (gruF (gosF (-1) S kk) (sn (gosF (-1) S kk) 32))] (List.flatten [MO G b3 (vwn (gosF (-1) S kk) 2 6) tk_10 (cpO 6 os os3) (vwn (gosF (-1) S kk) 14 6) (vwn (gosF (-1) S kk) 20 6) (vwn (gosF (-1) S kk) 26 6) (vwn (gosF (-1) S kk) 51 24) le_11 ((gosF (-1) S kk) 32) (bitF (gosF (-1) S kk)) ((gosF (-1) S kk) 0) ((gosF (-1) S kk) 1) t ((gosF (-1) S kk) 33) (-1) (raF (-1) S (nI 0) kk), SP x r1 r2 r3 r4 r5 d b1 b2 b3 hi, MO G b1 (vwn S 2 6) tk os (vwn S 14 6) (vwn S 20 6) (vwn S 26 6) (vwn S 51 24) le (S 32) (bitF S) (S 0) (S 1) t (S 33) (-1) wa]) ro
        refine ev_perm (ws' := (List.flatten [SP x r1 r2 r3 r4 r5 d b1 b2 b3 hi, MO G b1 (vwn S 2 6) tk os (vwn S 14 6) (vwn S 20 6) (vwn S 26 6) (vwn S 51 24) le (S 32) (bitF S) (S 0) (S 1) t (S 33) (-1) wa, MO G b3 (vwn (gosF (-1) S kk) 2 6) tk_10 (cpO 6 os os3) (vwn (gosF (-1) S kk) 14 6) (vwn (gosF (-1) S kk) 20 6) (vwn (gosF (-1) S kk) 26 6) (vwn (gosF (-1) S kk) 51 24) le_11 ((gosF (-1) S kk) 32) (bitF (gosF (-1) S kk)) ((gosF (-1) S kk) 0) ((gosF (-1) S kk) 1) t ((gosF (-1) S kk) 33) (-1) (raF (-1) S (nI 0) kk)])) (perm_sg2 (n := 3) [1, 2, 0] rfl rfl (by decide)) ?_
        refine ev_iret hC hR rfl dX11_on_86 ?_
        have hs32 : sn (gosF (-1) S kk) 32 = sn S 32 := (gosF_wf (-1) hW kk (by omega) (by omega)).2.sn (by omega)
        have er : onR S (nI kk) (nI 1) = (gruF (gosF (-1) S kk) (sn (gosF (-1) S kk) 32)) := by rw [onR, if_pos (by first | exact Or.inl (by assumption) | exact Or.inr (Or.inl (by assumption)) | exact Or.inr (Or.inr (Or.inl (by assumption))) | exact Or.inr (Or.inr (Or.inr (by assumption)))), if_pos (by assumption), hpn_kk, if_neg (by decide), if_pos rfl, hs32]
        exact ⟨_, _, _, _, _, _, _, by rw [er], rfl, rfl⟩
      · refine ev_bipush (v := (-2)) hC dX11_on_55 (by decide) ?_
        refine ev_iret hC hR rfl dX11_on_57 ?_
        have er : onR S x2 (nI 1) = (-2) := by rw [onR, if_pos (by first | exact Or.inl (by assumption) | exact Or.inr (Or.inl (by assumption)) | exact Or.inr (Or.inr (Or.inl (by assumption))) | exact Or.inr (Or.inr (Or.inr (by assumption)))), if_neg (by assumption)]
        exact ⟨_, _, _, _, _, _, _, by rw [er], rfl, rfl⟩
  · refine ev_iload_n hC dX11_on_11 rfl 3 rfl ?_
    refine ev_bipush (v := (nI 10)) hC dX11_on_12 (by decide) ?_
    refine ev_isub hC dX11_on_14 ?_
    refine ev_callS (As := [.int (w - (nI 10))]) (st := []) (wc := []) (wf := (List.flatten [SP x r1 r2 r3 r4 r5 d b1 b2 b3 hi, MO G b1 (vwn S 2 6) tk os (vwn S 14 6) (vwn S 20 6) (vwn S 26 6) (vwn S 51 24) le (S 32) (bitF S) (S 0) (S 1) t (S 33) (-1) wa, MO G b3 (vwn T 2 6) tk3 os3 (vwn T 14 6) (vwn T 20 6) (vwn T 26 6) (vwn T 51 24) le3 (T 32) (bitF T) (T 0) (T 1) t3 (T 33) st3 wa3])) hC ct_X11_104 (m_X11_isSide G ro (w - (nI 10))) (by omega) rfl rfl (Nat.le_of_ble_eq_true rfl) (List.Perm.refl _) dX11_on_15 (by omega) (by omega) ?_
    rintro _ _ _ ⟨rfl, rfl, rfl⟩
    refine ev_ws (List.nil_append _) ?_
    show Ev G X 0 0 18 [(3, .int (bI ((nI 0) ≤ w ∧ w ≤ (nI 1)))), (0, .ref x), (1, .int x2), (2, .int w)] [.int (bI ((nI 0) ≤ (w - (nI 10)) ∧ (w - (nI 10)) ≤ (nI 5)))] (List.flatten [SP x r1 r2 r3 r4 r5 d b1 b2 b3 hi, MO G b1 (vwn S 2 6) tk os (vwn S 14 6) (vwn S 20 6) (vwn S 26 6) (vwn S 51 24) le (S 32) (bitF S) (S 0) (S 1) t (S 33) (-1) wa, MO G b3 (vwn T 2 6) tk3 os3 (vwn T 14 6) (vwn T 20 6) (vwn T 26 6) (vwn T 51 24) le3 (T 32) (bitF T) (T 0) (T 1) t3 (T 33) st3 wa3]) ro
    refine ev_if_neB (tgt := 45) hC dX11_on_18 (by decide) (fun c_16 => ?_) (fun c_16 => ?_)
    · obtain ⟨k, hk, hke⟩ := inN (m := 5) (by omega) (by assumption : nI 0 ≤ w - nI 10 ∧ w - nI 10 ≤ nI 5)
      obtain rfl : w = nI (k + 10) := by rw [← nI_add, ← hke, Int32.sub_add_cancel]
      refine ev_iload_n hC dX11_on_45 rfl 2 rfl ?_
      refine ev_iconst (v := (nI 0)) hC dX11_on_46 (by decide) ?_
      refine ev_bipush (v := (nI 60)) hC dX11_on_47 (by decide) ?_
      refine ev_callS (As := [.int x2, .int (nI 0), .int (nI 60)]) (st := []) (wc := []) (wf := (List.flatten [SP x r1 r2 r3 r4 r5 d b1 b2 b3 hi, MO G b1 (vwn S 2 6) tk os (vwn S 14 6) (vwn S 20 6) (vwn S 26 6) (vwn S 51 24) le (S 32) (bitF S) (S 0) (S 1) t (S 33) (-1) wa, MO G b3 (vwn T 2 6) tk3 os3 (vwn T 14 6) (vwn T 20 6) (vwn T 26 6) (vwn T 51 24) le3 (T 32) (bitF T) (T 0) (T 1) t3 (T 33) st3 wa3])) hC ct_X11_68 (m_X11_isWithin G ro x2 (nI 0) (nI 60)) (by omega) rfl rfl (Nat.le_of_ble_eq_true rfl) (List.Perm.refl _) dX11_on_49 (by omega) (by omega) ?_
      rintro _ _ _ ⟨rfl, rfl, rfl⟩
      refine ev_ws (List.nil_append _) ?_
      show Ev G X 0 0 52 [(3, .int (bI ((nI 0) ≤ (nI (k + 10)) ∧ (nI (k + 10)) ≤ (nI 1)))), (0, .ref x), (1, .int x2), (2, .int (nI (k + 10)))] [.int (bI ((nI 0) ≤ x2 ∧ x2 ≤ (nI 60)))] (List.flatten [SP x r1 r2 r3 r4 r5 d b1 b2 b3 hi, MO G b1 (vwn S 2 6) tk os (vwn S 14 6) (vwn S 20 6) (vwn S 26 6) (vwn S 51 24) le (S 32) (bitF S) (S 0) (S 1) t (S 33) (-1) wa, MO G b3 (vwn T 2 6) tk3 os3 (vwn T 14 6) (vwn T 20 6) (vwn T 26 6) (vwn T 51 24) le3 (T 32) (bitF T) (T 0) (T 1) t3 (T 33) st3 wa3]) ro
      refine ev_if_neB (tgt := 58) hC dX11_on_52 (by decide) (fun c_17 => ?_) (fun c_17 => ?_)
      · obtain ⟨kk, hkk, rfl⟩ := inN (m := 60) (by omega) (by assumption)
        have hpn_kk : pn (nI kk) = kk := nI_clamp (by omega)
        refine ev_aload_n hC dX11_on_58 rfl 1 rfl ?_
        refine ev_iload_n hC dX11_on_59 rfl 2 rfl ?_
        refine ev_callV (As := [.int (nI kk)]) (st := []) (wf := (List.flatten [])) hC cv_X11_188 (m_X11_after G ro x r1 r2 r3 r4 r5 d b1 b2 b3 hi S tk le T tk3 le3 os os3 t t3 wa st3 wa3 kk hW hO (by omega) (by omega) (by omega)) (by omega) rfl rfl (Nat.le_of_ble_eq_true rfl) (perm_sg (n := 3) [0, 1, 2] rfl rfl (by decide)) (mw 0 rfl) rfl dX11_on_60 (by omega) (by omega) ?_
        rintro _ _ _ ⟨tk_18, le_19, hK_20, rfl, rfl, rfl⟩
        show Ev G X 0 0 63 [(3, .int (bI ((nI 0) ≤ (nI (k + 10)) ∧ (nI (k + 10)) ≤ (nI 1)))), (0, .ref x), (1, .int (nI kk)), (2, .int (nI (k + 10)))] [.ref (b3 0)] (List.flatten [SP x r1 r2 r3 r4 r5 d b1 b2 b3 hi, MO G b1 (vwn S 2 6) tk os (vwn S 14 6) (vwn S 20 6) (vwn S 26 6) (vwn S 51 24) le (S 32) (bitF S) (S 0) (S 1) t (S 33) (-1) wa, MO G b3 (vwn (gosF (-1) S kk) 2 6) tk_18 (cpO 6 os os3) (vwn (gosF (-1) S kk) 14 6) (vwn (gosF (-1) S kk) 20 6) (vwn (gosF (-1) S kk) 26 6) (vwn (gosF (-1) S kk) 51 24) le_19 ((gosF (-1) S kk) 32) (bitF (gosF (-1) S kk)) ((gosF (-1) S kk) 0) ((gosF (-1) S kk) 1) t ((gosF (-1) S kk) 33) (-1) (raF (-1) S (nI 0) kk)]) ro
        have hO_21 := hO.os hW (os' := cpO 6 os os3) (fun p hp => if_pos hp)
        refine ev_astore (lv' := [(4, .ref (b3 0)), (3, .int (bI ((nI 0) ≤ (nI (k + 10)) ∧ (nI (k + 10)) ≤ (nI 1)))), (0, .ref x), (1, .int (nI kk)), (2, .int (nI (k + 10)))]) hC dX11_on_63 (by decide) rfl ?_
        refine ev_iload_n hC dX11_on_65 rfl 1 rfl ?_
        refine ev_if_eqB (tgt := 87) hC dX11_on_66 (by decide) (fun c_22 => ?_) (fun c_22 => absurd c_22 (by assumption))
        refine ev_iload_n hC dX11_on_87 rfl 4 rfl ?_
        refine ev_bipush (v := (nI 10)) hC dX11_on_88 (by decide) ?_
        refine ev_isub hC dX11_on_90 ?_
        refine ev_top (y := (nI k)) ((pk_sub (by omega)).trans (congrArg nI (by omega))) ?_
        refine ev_callS (As := [.int (nI k)]) (st := []) (wc := []) (wf := (List.flatten [SP x r1 r2 r3 r4 r5 d b1 b2 b3 hi, MO G b1 (vwn S 2 6) tk os (vwn S 14 6) (vwn S 20 6) (vwn S 26 6) (vwn S 51 24) le (S 32) (bitF S) (S 0) (S 1) t (S 33) (-1) wa, MO G b3 (vwn (gosF (-1) S kk) 2 6) tk_18 (cpO 6 os os3) (vwn (gosF (-1) S kk) 14 6) (vwn (gosF (-1) S kk) 20 6) (vwn (gosF (-1) S kk) 26 6) (vwn (gosF (-1) S kk) 51 24) le_19 ((gosF (-1) S kk) 32) (bitF (gosF (-1) S kk)) ((gosF (-1) S kk) 0) ((gosF (-1) S kk) 1) t ((gosF (-1) S kk) 33) (-1) (raF (-1) S (nI 0) kk)])) hC ct_X11_104 (m_X11_isSide G ro (nI k)) (by omega) rfl rfl (Nat.le_of_ble_eq_true rfl) (List.Perm.refl _) dX11_on_91 (by omega) (by omega) ?_
        rintro _ _ _ ⟨rfl, rfl, rfl⟩
        refine ev_ws (List.nil_append _) ?_
        show Ev G X 0 0 94 [(4, .ref (b3 0)), (3, .int (bI ((nI 0) ≤ (nI (k + 10)) ∧ (nI (k + 10)) ≤ (nI 1)))), (0, .ref x), (1, .int (nI kk)), (2, .int (nI (k + 10)))] [.int (bI ((nI 0) ≤ (nI k) ∧ (nI k) ≤ (nI 5)))] (List.flatten [SP x r1 r2 r3 r4 r5 d b1 b2 b3 hi, MO G b1 (vwn S 2 6) tk os (vwn S 14 6) (vwn S 20 6) (vwn S 26 6) (vwn S 51 24) le (S 32) (bitF S) (S 0) (S 1) t (S 33) (-1) wa, MO G b3 (vwn (gosF (-1) S kk) 2 6) tk_18 (cpO 6 os os3) (vwn (gosF (-1) S kk) 14 6) (vwn (gosF (-1) S kk) 20 6) (vwn (gosF (-1) S kk) 26 6) (vwn (gosF (-1) S kk) 51 24) le_19 ((gosF (-1) S kk) 32) (bitF (gosF (-1) S kk)) ((gosF (-1) S kk) 0) ((gosF (-1) S kk) 1) t ((gosF (-1) S kk) 33) (-1) (raF (-1) S (nI 0) kk)]) ro
        refine ev_if_eqB (tgt := 108) hC dX11_on_94 (by decide) (fun c_23 => absurd c_23 (fun z => z ⟨(nI_leI (by omega) (by omega)).mpr (by omega), (nI_leI (by omega) (by omega)).mpr (by omega)⟩)) (fun c_23 => ?_)
        refine ev_aload hC dX11_on_97 0 rfl ?_
        refine ev_get hC fl_X11_158_3 (mw 10 rfl) rfl dX11_on_99 ?_
        refine ev_iload_n hC dX11_on_102 rfl 4 rfl ?_
        refine ev_bipush (v := (nI 10)) hC dX11_on_103 (by decide) ?_
        refine ev_isub hC dX11_on_105 ?_
        refine ev_top (y := (nI k)) ((pk_sub (by omega)).trans (congrArg nI (by omega))) ?_
        refine ev_ialdN (i := k) hC (mw 11 rfl) (by omega) (by omega) dX11_on_106 ?_
        refine ev_top (y := ((gosF (-1) S kk) (2 + k))) (vwn_at (by omega)) ?_
        refine ev_iret hC hR rfl dX11_on_107 ?_
        have hpn : pn (nI k) = k := nI_clamp (by omega)
        have hs32 : sn (gosF (-1) S kk) 32 = sn S 32 := (gosF_wf (-1) hW kk (by omega) (by omega)).2.sn (by omega)
        have er : onR S (nI kk) (nI (k + 10)) = ((gosF (-1) S kk) (2 + k)) := by rw [onR, if_pos (by first | exact Or.inl (by assumption) | exact Or.inr (Or.inl (by assumption)) | exact Or.inr (Or.inr (Or.inl (by assumption))) | exact Or.inr (Or.inr (Or.inr (by assumption)))), if_pos (by assumption), hpn_kk, if_neg (fun h => absurd ((nI_eq (by omega) (by omega)).mp h) (by omega)), if_neg (fun h => absurd ((nI_eq (by omega) (by omega)).mp h) (by omega)), if_pos ((nI_ltI (by omega) (by omega)).mpr (by omega)), pk_sub (by omega), show k + 10 - 10 = k by omega, hpn]
        exact ⟨_, _, _, _, _, _, _, by rw [er], rfl, rfl⟩
      · refine ev_bipush (v := (-2)) hC dX11_on_55 (by decide) ?_
        refine ev_iret hC hR rfl dX11_on_57 ?_
        have er : onR S x2 (nI (k + 10)) = (-2) := by rw [onR, if_pos (by first | exact Or.inl (by assumption) | exact Or.inr (Or.inl (by assumption)) | exact Or.inr (Or.inr (Or.inl (by assumption))) | exact Or.inr (Or.inr (Or.inr (by assumption)))), if_neg (by assumption)]
        exact ⟨_, _, _, _, _, _, _, by rw [er], rfl, rfl⟩
    · refine ev_aload_n hC dX11_on_21 rfl 1 rfl ?_
      refine ev_iload_n hC dX11_on_22 rfl 3 rfl ?_
      refine ev_bipush (v := (nI 20)) hC dX11_on_23 (by decide) ?_
      refine ev_isub hC dX11_on_25 ?_
      refine ev_callV (As := [.int (w - (nI 20))]) (st := []) (wf := (List.flatten [MO G b3 (vwn T 2 6) tk3 os3 (vwn T 14 6) (vwn T 20 6) (vwn T 26 6) (vwn T 51 24) le3 (T 32) (bitF T) (T 0) (T 1) t3 (T 33) st3 wa3])) hC cv_X11_118 (m_X11_isPerson G ro x r1 r2 r3 r4 r5 d b1 b2 b3 hi S tk le os t (-1) wa (w - (nI 20))) (by omega) rfl rfl (Nat.le_of_ble_eq_true rfl) (perm_sg (n := 3) [0, 1, 2] rfl rfl (by decide)) (mw 0 rfl) rfl dX11_on_26 (by omega) (by omega) ?_
      rintro _ _ _ ⟨rfl, rfl, rfl⟩
      show Ev G X 0 0 29 [(3, .int (bI ((nI 0) ≤ w ∧ w ≤ (nI 1)))), (0, .ref x), (1, .int x2), (2, .int w)] [.int (bI ((nI 0) ≤ (w - (nI 20)) ∧ (w - (nI 20)) ≤ (S 32 - nI 1)))] (List.flatten [SP x r1 r2 r3 r4 r5 d b1 b2 b3 hi, MO G b1 (vwn S 2 6) tk os (vwn S 14 6) (vwn S 20 6) (vwn S 26 6) (vwn S 51 24) le (S 32) (bitF S) (S 0) (S 1) t (S 33) (-1) wa, MO G b3 (vwn T 2 6) tk3 os3 (vwn T 14 6) (vwn T 20 6) (vwn T 26 6) (vwn T 51 24) le3 (T 32) (bitF T) (T 0) (T 1) t3 (T 33) st3 wa3]) ro
      refine ev_if_neB (tgt := 45) hC dX11_on_29 (by decide) (fun c_24 => ?_) (fun c_24 => ?_)
      · obtain ⟨k, hk, hke⟩ := isP hW (by assumption : nI 0 ≤ w - nI 20 ∧ w - nI 20 ≤ S 32 - nI 1)
        obtain rfl : w = nI (k + 20) := by rw [← nI_add, ← hke, Int32.sub_add_cancel]
        refine ev_iload_n hC dX11_on_45 rfl 2 rfl ?_
        refine ev_iconst (v := (nI 0)) hC dX11_on_46 (by decide) ?_
        refine ev_bipush (v := (nI 60)) hC dX11_on_47 (by decide) ?_
        refine ev_callS (As := [.int x2, .int (nI 0), .int (nI 60)]) (st := []) (wc := []) (wf := (List.flatten [SP x r1 r2 r3 r4 r5 d b1 b2 b3 hi, MO G b1 (vwn S 2 6) tk os (vwn S 14 6) (vwn S 20 6) (vwn S 26 6) (vwn S 51 24) le (S 32) (bitF S) (S 0) (S 1) t (S 33) (-1) wa, MO G b3 (vwn T 2 6) tk3 os3 (vwn T 14 6) (vwn T 20 6) (vwn T 26 6) (vwn T 51 24) le3 (T 32) (bitF T) (T 0) (T 1) t3 (T 33) st3 wa3])) hC ct_X11_68 (m_X11_isWithin G ro x2 (nI 0) (nI 60)) (by omega) rfl rfl (Nat.le_of_ble_eq_true rfl) (List.Perm.refl _) dX11_on_49 (by omega) (by omega) ?_
        rintro _ _ _ ⟨rfl, rfl, rfl⟩
        refine ev_ws (List.nil_append _) ?_
        show Ev G X 0 0 52 [(3, .int (bI ((nI 0) ≤ (nI (k + 20)) ∧ (nI (k + 20)) ≤ (nI 1)))), (0, .ref x), (1, .int x2), (2, .int (nI (k + 20)))] [.int (bI ((nI 0) ≤ x2 ∧ x2 ≤ (nI 60)))] (List.flatten [SP x r1 r2 r3 r4 r5 d b1 b2 b3 hi, MO G b1 (vwn S 2 6) tk os (vwn S 14 6) (vwn S 20 6) (vwn S 26 6) (vwn S 51 24) le (S 32) (bitF S) (S 0) (S 1) t (S 33) (-1) wa, MO G b3 (vwn T 2 6) tk3 os3 (vwn T 14 6) (vwn T 20 6) (vwn T 26 6) (vwn T 51 24) le3 (T 32) (bitF T) (T 0) (T 1) t3 (T 33) st3 wa3]) ro
        refine ev_if_neB (tgt := 58) hC dX11_on_52 (by decide) (fun c_25 => ?_) (fun c_25 => ?_)
        · obtain ⟨kk, hkk, rfl⟩ := inN (m := 60) (by omega) (by assumption)
          have hpn_kk : pn (nI kk) = kk := nI_clamp (by omega)
          refine ev_aload_n hC dX11_on_58 rfl 1 rfl ?_
          refine ev_iload_n hC dX11_on_59 rfl 2 rfl ?_
          refine ev_callV (As := [.int (nI kk)]) (st := []) (wf := (List.flatten [])) hC cv_X11_188 (m_X11_after G ro x r1 r2 r3 r4 r5 d b1 b2 b3 hi S tk le T tk3 le3 os os3 t t3 wa st3 wa3 kk hW hO (by omega) (by omega) (by omega)) (by omega) rfl rfl (Nat.le_of_ble_eq_true rfl) (perm_sg (n := 3) [0, 1, 2] rfl rfl (by decide)) (mw 0 rfl) rfl dX11_on_60 (by omega) (by omega) ?_
          rintro _ _ _ ⟨tk_26, le_27, hK_28, rfl, rfl, rfl⟩
          show Ev G X 0 0 63 [(3, .int (bI ((nI 0) ≤ (nI (k + 20)) ∧ (nI (k + 20)) ≤ (nI 1)))), (0, .ref x), (1, .int (nI kk)), (2, .int (nI (k + 20)))] [.ref (b3 0)] (List.flatten [SP x r1 r2 r3 r4 r5 d b1 b2 b3 hi, MO G b1 (vwn S 2 6) tk os (vwn S 14 6) (vwn S 20 6) (vwn S 26 6) (vwn S 51 24) le (S 32) (bitF S) (S 0) (S 1) t (S 33) (-1) wa, MO G b3 (vwn (gosF (-1) S kk) 2 6) tk_26 (cpO 6 os os3) (vwn (gosF (-1) S kk) 14 6) (vwn (gosF (-1) S kk) 20 6) (vwn (gosF (-1) S kk) 26 6) (vwn (gosF (-1) S kk) 51 24) le_27 ((gosF (-1) S kk) 32) (bitF (gosF (-1) S kk)) ((gosF (-1) S kk) 0) ((gosF (-1) S kk) 1) t ((gosF (-1) S kk) 33) (-1) (raF (-1) S (nI 0) kk)]) ro
          have hO_29 := hO.os hW (os' := cpO 6 os os3) (fun p hp => if_pos hp)
          refine ev_astore (lv' := [(4, .ref (b3 0)), (3, .int (bI ((nI 0) ≤ (nI (k + 20)) ∧ (nI (k + 20)) ≤ (nI 1)))), (0, .ref x), (1, .int (nI kk)), (2, .int (nI (k + 20)))]) hC dX11_on_63 (by decide) rfl ?_
          refine ev_iload_n hC dX11_on_65 rfl 1 rfl ?_
          refine ev_if_eqB (tgt := 87) hC dX11_on_66 (by decide) (fun c_30 => ?_) (fun c_30 => absurd c_30 (by assumption))
          refine ev_iload_n hC dX11_on_87 rfl 4 rfl ?_
          refine ev_bipush (v := (nI 10)) hC dX11_on_88 (by decide) ?_
          refine ev_isub hC dX11_on_90 ?_
          refine ev_top (y := (nI (k + 10))) ((pk_sub (by omega)).trans (congrArg nI (by omega))) ?_
          refine ev_callS (As := [.int (nI (k + 10))]) (st := []) (wc := []) (wf := (List.flatten [SP x r1 r2 r3 r4 r5 d b1 b2 b3 hi, MO G b1 (vwn S 2 6) tk os (vwn S 14 6) (vwn S 20 6) (vwn S 26 6) (vwn S 51 24) le (S 32) (bitF S) (S 0) (S 1) t (S 33) (-1) wa, MO G b3 (vwn (gosF (-1) S kk) 2 6) tk_26 (cpO 6 os os3) (vwn (gosF (-1) S kk) 14 6) (vwn (gosF (-1) S kk) 20 6) (vwn (gosF (-1) S kk) 26 6) (vwn (gosF (-1) S kk) 51 24) le_27 ((gosF (-1) S kk) 32) (bitF (gosF (-1) S kk)) ((gosF (-1) S kk) 0) ((gosF (-1) S kk) 1) t ((gosF (-1) S kk) 33) (-1) (raF (-1) S (nI 0) kk)])) hC ct_X11_104 (m_X11_isSide G ro (nI (k + 10))) (by omega) rfl rfl (Nat.le_of_ble_eq_true rfl) (List.Perm.refl _) dX11_on_91 (by omega) (by omega) ?_
          rintro _ _ _ ⟨rfl, rfl, rfl⟩
          refine ev_ws (List.nil_append _) ?_
          show Ev G X 0 0 94 [(4, .ref (b3 0)), (3, .int (bI ((nI 0) ≤ (nI (k + 20)) ∧ (nI (k + 20)) ≤ (nI 1)))), (0, .ref x), (1, .int (nI kk)), (2, .int (nI (k + 20)))] [.int (bI ((nI 0) ≤ (nI (k + 10)) ∧ (nI (k + 10)) ≤ (nI 5)))] (List.flatten [SP x r1 r2 r3 r4 r5 d b1 b2 b3 hi, MO G b1 (vwn S 2 6) tk os (vwn S 14 6) (vwn S 20 6) (vwn S 26 6) (vwn S 51 24) le (S 32) (bitF S) (S 0) (S 1) t (S 33) (-1) wa, MO G b3 (vwn (gosF (-1) S kk) 2 6) tk_26 (cpO 6 os os3) (vwn (gosF (-1) S kk) 14 6) (vwn (gosF (-1) S kk) 20 6) (vwn (gosF (-1) S kk) 26 6) (vwn (gosF (-1) S kk) 51 24) le_27 ((gosF (-1) S kk) 32) (bitF (gosF (-1) S kk)) ((gosF (-1) S kk) 0) ((gosF (-1) S kk) 1) t ((gosF (-1) S kk) 33) (-1) (raF (-1) S (nI 0) kk)]) ro
          refine ev_if_eqB (tgt := 108) hC dX11_on_94 (by decide) (fun c_31 => ?_) (fun c_31 => absurd c_31 (fun z => by have := (nI_leI (by omega) (by omega)).mp z.2; omega))
          refine ev_aload_n hC dX11_on_108 rfl 2 rfl ?_
          refine ev_iload_n hC dX11_on_109 rfl 4 rfl ?_
          refine ev_bipush (v := (nI 20)) hC dX11_on_110 (by decide) ?_
          refine ev_isub hC dX11_on_112 ?_
          refine ev_top (y := (nI k)) ((pk_sub (by omega)).trans (congrArg nI (by omega))) ?_
          refine ev_callV (As := [.int (nI k)]) (st := []) (wf := (List.flatten [MO G b3 (vwn (gosF (-1) S kk) 2 6) tk_26 (cpO 6 os os3) (vwn (gosF (-1) S kk) 14 6) (vwn (gosF (-1) S kk) 20 6) (vwn (gosF (-1) S kk) 26 6) (vwn (gosF (-1) S kk) 51 24) le_27 ((gosF (-1) S kk) 32) (bitF (gosF (-1) S kk)) ((gosF (-1) S kk) 0) ((gosF (-1) S kk) 1) t ((gosF (-1) S kk) 33) (-1) (raF (-1) S (nI 0) kk)])) hC cv_X11_118 (m_X11_isPerson G ro x r1 r2 r3 r4 r5 d b1 b2 b3 hi S tk le os t (-1) wa (nI k)) (by omega) rfl rfl (Nat.le_of_ble_eq_true rfl) (perm_sg (n := 3) [0, 1, 2] rfl rfl (by decide)) (mw 0 rfl) rfl dX11_on_113 (by omega) (by omega) ?_
          rintro _ _ _ ⟨rfl, rfl, rfl⟩
          show Ev G X 0 0 116 [(4, .ref (b3 0)), (3, .int (bI ((nI 0) ≤ (nI (k + 20)) ∧ (nI (k + 20)) ≤ (nI 1)))), (0, .ref x), (1, .int (nI kk)), (2, .int (nI (k + 20)))] [.int (bI ((nI 0) ≤ (nI k) ∧ (nI k) ≤ (S 32 - nI 1)))] (List.flatten [SP x r1 r2 r3 r4 r5 d b1 b2 b3 hi, MO G b1 (vwn S 2 6) tk os (vwn S 14 6) (vwn S 20 6) (vwn S 26 6) (vwn S 51 24) le (S 32) (bitF S) (S 0) (S 1) t (S 33) (-1) wa, MO G b3 (vwn (gosF (-1) S kk) 2 6) tk_26 (cpO 6 os os3) (vwn (gosF (-1) S kk) 14 6) (vwn (gosF (-1) S kk) 20 6) (vwn (gosF (-1) S kk) 26 6) (vwn (gosF (-1) S kk) 51 24) le_27 ((gosF (-1) S kk) 32) (bitF (gosF (-1) S kk)) ((gosF (-1) S kk) 0) ((gosF (-1) S kk) 1) t ((gosF (-1) S kk) 33) (-1) (raF (-1) S (nI 0) kk)]) ro
          refine ev_if_eqB (tgt := 132) hC dX11_on_116 (by decide) (fun c_32 => absurd c_32 (fun z => z (isP_of hW (by omega)))) (fun c_32 => ?_)
          refine ev_aload hC dX11_on_119 0 rfl ?_
          refine ev_get hC fl_X11_135_3 (mw 10 rfl) rfl dX11_on_121 ?_
          refine ev_iload_n hC dX11_on_124 rfl 4 rfl ?_
          refine ev_bipush (v := (nI 20)) hC dX11_on_125 (by decide) ?_
          refine ev_isub hC dX11_on_127 ?_
          refine ev_top (y := (nI k)) ((pk_sub (by omega)).trans (congrArg nI (by omega))) ?_
          refine ev_ialdN (i := k) hC (mw 15 rfl) (by omega) (by omega) dX11_on_128 ?_
          refine ev_top (y := ((gosF (-1) S kk) (20 + k))) (vwn_at (by omega)) ?_
          refine ev_goto (tgt := 142) hC dX11_on_129 (by decide) ?_
          refine ev_iret hC hR rfl dX11_on_142 ?_
          have hpn : pn (nI k) = k := nI_clamp (by omega)
          have hs32 : sn (gosF (-1) S kk) 32 = sn S 32 := (gosF_wf (-1) hW kk (by omega) (by omega)).2.sn (by omega)
          have er : onR S (nI kk) (nI (k + 20)) = ((gosF (-1) S kk) (20 + k)) := by rw [onR, if_pos (by first | exact Or.inl (by assumption) | exact Or.inr (Or.inl (by assumption)) | exact Or.inr (Or.inr (Or.inl (by assumption))) | exact Or.inr (Or.inr (Or.inr (by assumption)))), if_pos (by assumption), hpn_kk, if_neg (fun h => absurd ((nI_eq (by omega) (by omega)).mp h) (by omega)), if_neg (fun h => absurd ((nI_eq (by omega) (by omega)).mp h) (by omega)), if_neg (fun h => absurd ((nI_ltI (by omega) (by omega)).mp h) (by omega)), if_pos ((nI_ltI (by omega) (by omega)).mpr (by omega)), pk_sub (by omega), show k + 20 - 20 = k by omega, hpn]
          exact ⟨_, _, _, _, _, _, _, by rw [er], rfl, rfl⟩
        · refine ev_bipush (v := (-2)) hC dX11_on_55 (by decide) ?_
          refine ev_iret hC hR rfl dX11_on_57 ?_
          have er : onR S x2 (nI (k + 20)) = (-2) := by rw [onR, if_pos (by first | exact Or.inl (by assumption) | exact Or.inr (Or.inl (by assumption)) | exact Or.inr (Or.inr (Or.inl (by assumption))) | exact Or.inr (Or.inr (Or.inr (by assumption)))), if_neg (by assumption)]
          exact ⟨_, _, _, _, _, _, _, by rw [er], rfl, rfl⟩
      · refine ev_aload_n hC dX11_on_32 rfl 1 rfl ?_
        refine ev_iload_n hC dX11_on_33 rfl 3 rfl ?_
        refine ev_bipush (v := (nI 30)) hC dX11_on_34 (by decide) ?_
        refine ev_isub hC dX11_on_36 ?_
        refine ev_callV (As := [.int (w - (nI 30))]) (st := []) (wf := (List.flatten [MO G b3 (vwn T 2 6) tk3 os3 (vwn T 14 6) (vwn T 20 6) (vwn T 26 6) (vwn T 51 24) le3 (T 32) (bitF T) (T 0) (T 1) t3 (T 33) st3 wa3])) hC cv_X11_118 (m_X11_isPerson G ro x r1 r2 r3 r4 r5 d b1 b2 b3 hi S tk le os t (-1) wa (w - (nI 30))) (by omega) rfl rfl (Nat.le_of_ble_eq_true rfl) (perm_sg (n := 3) [0, 1, 2] rfl rfl (by decide)) (mw 0 rfl) rfl dX11_on_37 (by omega) (by omega) ?_
        rintro _ _ _ ⟨rfl, rfl, rfl⟩
        show Ev G X 0 0 40 [(3, .int (bI ((nI 0) ≤ w ∧ w ≤ (nI 1)))), (0, .ref x), (1, .int x2), (2, .int w)] [.int (bI ((nI 0) ≤ (w - (nI 30)) ∧ (w - (nI 30)) ≤ (S 32 - nI 1)))] (List.flatten [SP x r1 r2 r3 r4 r5 d b1 b2 b3 hi, MO G b1 (vwn S 2 6) tk os (vwn S 14 6) (vwn S 20 6) (vwn S 26 6) (vwn S 51 24) le (S 32) (bitF S) (S 0) (S 1) t (S 33) (-1) wa, MO G b3 (vwn T 2 6) tk3 os3 (vwn T 14 6) (vwn T 20 6) (vwn T 26 6) (vwn T 51 24) le3 (T 32) (bitF T) (T 0) (T 1) t3 (T 33) st3 wa3]) ro
        refine ev_if_neB (tgt := 45) hC dX11_on_40 (by decide) (fun c_33 => ?_) (fun c_33 => ?_)
        · obtain ⟨k, hk, hke⟩ := isP hW (by assumption : nI 0 ≤ w - nI 30 ∧ w - nI 30 ≤ S 32 - nI 1)
          obtain rfl : w = nI (k + 30) := by rw [← nI_add, ← hke, Int32.sub_add_cancel]
          refine ev_iload_n hC dX11_on_45 rfl 2 rfl ?_
          refine ev_iconst (v := (nI 0)) hC dX11_on_46 (by decide) ?_
          refine ev_bipush (v := (nI 60)) hC dX11_on_47 (by decide) ?_
          refine ev_callS (As := [.int x2, .int (nI 0), .int (nI 60)]) (st := []) (wc := []) (wf := (List.flatten [SP x r1 r2 r3 r4 r5 d b1 b2 b3 hi, MO G b1 (vwn S 2 6) tk os (vwn S 14 6) (vwn S 20 6) (vwn S 26 6) (vwn S 51 24) le (S 32) (bitF S) (S 0) (S 1) t (S 33) (-1) wa, MO G b3 (vwn T 2 6) tk3 os3 (vwn T 14 6) (vwn T 20 6) (vwn T 26 6) (vwn T 51 24) le3 (T 32) (bitF T) (T 0) (T 1) t3 (T 33) st3 wa3])) hC ct_X11_68 (m_X11_isWithin G ro x2 (nI 0) (nI 60)) (by omega) rfl rfl (Nat.le_of_ble_eq_true rfl) (List.Perm.refl _) dX11_on_49 (by omega) (by omega) ?_
          rintro _ _ _ ⟨rfl, rfl, rfl⟩
          refine ev_ws (List.nil_append _) ?_
          show Ev G X 0 0 52 [(3, .int (bI ((nI 0) ≤ (nI (k + 30)) ∧ (nI (k + 30)) ≤ (nI 1)))), (0, .ref x), (1, .int x2), (2, .int (nI (k + 30)))] [.int (bI ((nI 0) ≤ x2 ∧ x2 ≤ (nI 60)))] (List.flatten [SP x r1 r2 r3 r4 r5 d b1 b2 b3 hi, MO G b1 (vwn S 2 6) tk os (vwn S 14 6) (vwn S 20 6) (vwn S 26 6) (vwn S 51 24) le (S 32) (bitF S) (S 0) (S 1) t (S 33) (-1) wa, MO G b3 (vwn T 2 6) tk3 os3 (vwn T 14 6) (vwn T 20 6) (vwn T 26 6) (vwn T 51 24) le3 (T 32) (bitF T) (T 0) (T 1) t3 (T 33) st3 wa3]) ro
          refine ev_if_neB (tgt := 58) hC dX11_on_52 (by decide) (fun c_34 => ?_) (fun c_34 => ?_)
          · obtain ⟨kk, hkk, rfl⟩ := inN (m := 60) (by omega) (by assumption)
            have hpn_kk : pn (nI kk) = kk := nI_clamp (by omega)
            refine ev_aload_n hC dX11_on_58 rfl 1 rfl ?_
            refine ev_iload_n hC dX11_on_59 rfl 2 rfl ?_
            refine ev_callV (As := [.int (nI kk)]) (st := []) (wf := (List.flatten [])) hC cv_X11_188 (m_X11_after G ro x r1 r2 r3 r4 r5 d b1 b2 b3 hi S tk le T tk3 le3 os os3 t t3 wa st3 wa3 kk hW hO (by omega) (by omega) (by omega)) (by omega) rfl rfl (Nat.le_of_ble_eq_true rfl) (perm_sg (n := 3) [0, 1, 2] rfl rfl (by decide)) (mw 0 rfl) rfl dX11_on_60 (by omega) (by omega) ?_
            rintro _ _ _ ⟨tk_35, le_36, hK_37, rfl, rfl, rfl⟩
            show Ev G X 0 0 63 [(3, .int (bI ((nI 0) ≤ (nI (k + 30)) ∧ (nI (k + 30)) ≤ (nI 1)))), (0, .ref x), (1, .int (nI kk)), (2, .int (nI (k + 30)))] [.ref (b3 0)] (List.flatten [SP x r1 r2 r3 r4 r5 d b1 b2 b3 hi, MO G b1 (vwn S 2 6) tk os (vwn S 14 6) (vwn S 20 6) (vwn S 26 6) (vwn S 51 24) le (S 32) (bitF S) (S 0) (S 1) t (S 33) (-1) wa, MO G b3 (vwn (gosF (-1) S kk) 2 6) tk_35 (cpO 6 os os3) (vwn (gosF (-1) S kk) 14 6) (vwn (gosF (-1) S kk) 20 6) (vwn (gosF (-1) S kk) 26 6) (vwn (gosF (-1) S kk) 51 24) le_36 ((gosF (-1) S kk) 32) (bitF (gosF (-1) S kk)) ((gosF (-1) S kk) 0) ((gosF (-1) S kk) 1) t ((gosF (-1) S kk) 33) (-1) (raF (-1) S (nI 0) kk)]) ro
            have hO_38 := hO.os hW (os' := cpO 6 os os3) (fun p hp => if_pos hp)
            refine ev_astore (lv' := [(4, .ref (b3 0)), (3, .int (bI ((nI 0) ≤ (nI (k + 30)) ∧ (nI (k + 30)) ≤ (nI 1)))), (0, .ref x), (1, .int (nI kk)), (2, .int (nI (k + 30)))]) hC dX11_on_63 (by decide) rfl ?_
            refine ev_iload_n hC dX11_on_65 rfl 1 rfl ?_
            refine ev_if_eqB (tgt := 87) hC dX11_on_66 (by decide) (fun c_39 => ?_) (fun c_39 => absurd c_39 (by assumption))
            refine ev_iload_n hC dX11_on_87 rfl 4 rfl ?_
            refine ev_bipush (v := (nI 10)) hC dX11_on_88 (by decide) ?_
            refine ev_isub hC dX11_on_90 ?_
            refine ev_top (y := (nI (k + 20))) ((pk_sub (by omega)).trans (congrArg nI (by omega))) ?_
            refine ev_callS (As := [.int (nI (k + 20))]) (st := []) (wc := []) (wf := (List.flatten [SP x r1 r2 r3 r4 r5 d b1 b2 b3 hi, MO G b1 (vwn S 2 6) tk os (vwn S 14 6) (vwn S 20 6) (vwn S 26 6) (vwn S 51 24) le (S 32) (bitF S) (S 0) (S 1) t (S 33) (-1) wa, MO G b3 (vwn (gosF (-1) S kk) 2 6) tk_35 (cpO 6 os os3) (vwn (gosF (-1) S kk) 14 6) (vwn (gosF (-1) S kk) 20 6) (vwn (gosF (-1) S kk) 26 6) (vwn (gosF (-1) S kk) 51 24) le_36 ((gosF (-1) S kk) 32) (bitF (gosF (-1) S kk)) ((gosF (-1) S kk) 0) ((gosF (-1) S kk) 1) t ((gosF (-1) S kk) 33) (-1) (raF (-1) S (nI 0) kk)])) hC ct_X11_104 (m_X11_isSide G ro (nI (k + 20))) (by omega) rfl rfl (Nat.le_of_ble_eq_true rfl) (List.Perm.refl _) dX11_on_91 (by omega) (by omega) ?_
            rintro _ _ _ ⟨rfl, rfl, rfl⟩
            refine ev_ws (List.nil_append _) ?_
            show Ev G X 0 0 94 [(4, .ref (b3 0)), (3, .int (bI ((nI 0) ≤ (nI (k + 30)) ∧ (nI (k + 30)) ≤ (nI 1)))), (0, .ref x), (1, .int (nI kk)), (2, .int (nI (k + 30)))] [.int (bI ((nI 0) ≤ (nI (k + 20)) ∧ (nI (k + 20)) ≤ (nI 5)))] (List.flatten [SP x r1 r2 r3 r4 r5 d b1 b2 b3 hi, MO G b1 (vwn S 2 6) tk os (vwn S 14 6) (vwn S 20 6) (vwn S 26 6) (vwn S 51 24) le (S 32) (bitF S) (S 0) (S 1) t (S 33) (-1) wa, MO G b3 (vwn (gosF (-1) S kk) 2 6) tk_35 (cpO 6 os os3) (vwn (gosF (-1) S kk) 14 6) (vwn (gosF (-1) S kk) 20 6) (vwn (gosF (-1) S kk) 26 6) (vwn (gosF (-1) S kk) 51 24) le_36 ((gosF (-1) S kk) 32) (bitF (gosF (-1) S kk)) ((gosF (-1) S kk) 0) ((gosF (-1) S kk) 1) t ((gosF (-1) S kk) 33) (-1) (raF (-1) S (nI 0) kk)]) ro
            refine ev_if_eqB (tgt := 108) hC dX11_on_94 (by decide) (fun c_40 => ?_) (fun c_40 => absurd c_40 (fun z => by have := (nI_leI (by omega) (by omega)).mp z.2; omega))
            refine ev_aload_n hC dX11_on_108 rfl 2 rfl ?_
            refine ev_iload_n hC dX11_on_109 rfl 4 rfl ?_
            refine ev_bipush (v := (nI 20)) hC dX11_on_110 (by decide) ?_
            refine ev_isub hC dX11_on_112 ?_
            refine ev_top (y := (nI (k + 10))) ((pk_sub (by omega)).trans (congrArg nI (by omega))) ?_
            refine ev_callV (As := [.int (nI (k + 10))]) (st := []) (wf := (List.flatten [MO G b3 (vwn (gosF (-1) S kk) 2 6) tk_35 (cpO 6 os os3) (vwn (gosF (-1) S kk) 14 6) (vwn (gosF (-1) S kk) 20 6) (vwn (gosF (-1) S kk) 26 6) (vwn (gosF (-1) S kk) 51 24) le_36 ((gosF (-1) S kk) 32) (bitF (gosF (-1) S kk)) ((gosF (-1) S kk) 0) ((gosF (-1) S kk) 1) t ((gosF (-1) S kk) 33) (-1) (raF (-1) S (nI 0) kk)])) hC cv_X11_118 (m_X11_isPerson G ro x r1 r2 r3 r4 r5 d b1 b2 b3 hi S tk le os t (-1) wa (nI (k + 10))) (by omega) rfl rfl (Nat.le_of_ble_eq_true rfl) (perm_sg (n := 3) [0, 1, 2] rfl rfl (by decide)) (mw 0 rfl) rfl dX11_on_113 (by omega) (by omega) ?_
            rintro _ _ _ ⟨rfl, rfl, rfl⟩
            show Ev G X 0 0 116 [(4, .ref (b3 0)), (3, .int (bI ((nI 0) ≤ (nI (k + 30)) ∧ (nI (k + 30)) ≤ (nI 1)))), (0, .ref x), (1, .int (nI kk)), (2, .int (nI (k + 30)))] [.int (bI ((nI 0) ≤ (nI (k + 10)) ∧ (nI (k + 10)) ≤ (S 32 - nI 1)))] (List.flatten [SP x r1 r2 r3 r4 r5 d b1 b2 b3 hi, MO G b1 (vwn S 2 6) tk os (vwn S 14 6) (vwn S 20 6) (vwn S 26 6) (vwn S 51 24) le (S 32) (bitF S) (S 0) (S 1) t (S 33) (-1) wa, MO G b3 (vwn (gosF (-1) S kk) 2 6) tk_35 (cpO 6 os os3) (vwn (gosF (-1) S kk) 14 6) (vwn (gosF (-1) S kk) 20 6) (vwn (gosF (-1) S kk) 26 6) (vwn (gosF (-1) S kk) 51 24) le_36 ((gosF (-1) S kk) 32) (bitF (gosF (-1) S kk)) ((gosF (-1) S kk) 0) ((gosF (-1) S kk) 1) t ((gosF (-1) S kk) 33) (-1) (raF (-1) S (nI 0) kk)]) ro
            refine ev_if_eqB (tgt := 132) hC dX11_on_116 (by decide) (fun c_41 => ?_) (fun c_41 => absurd c_41 (fun z => by obtain ⟨j, hj, e⟩ := isP hW z; have := nI_inj (by omega) (by omega) e; omega))
            refine ev_aload hC dX11_on_132 0 rfl ?_
            refine ev_get hC fl_X11_138_3 (mw 10 rfl) rfl dX11_on_134 ?_
            refine ev_iload_n hC dX11_on_137 rfl 4 rfl ?_
            refine ev_bipush (v := (nI 30)) hC dX11_on_138 (by decide) ?_
            refine ev_isub hC dX11_on_140 ?_
            refine ev_top (y := (nI k)) ((pk_sub (by omega)).trans (congrArg nI (by omega))) ?_
            refine ev_ialdN (i := k) hC (mw 16 rfl) (by omega) (by omega) dX11_on_141 ?_
            refine ev_top (y := ((gosF (-1) S kk) (26 + k))) (vwn_at (by omega)) ?_
            refine ev_iret hC hR rfl dX11_on_142 ?_
            have hpn : pn (nI k) = k := nI_clamp (by omega)
            have hs32 : sn (gosF (-1) S kk) 32 = sn S 32 := (gosF_wf (-1) hW kk (by omega) (by omega)).2.sn (by omega)
            have er : onR S (nI kk) (nI (k + 30)) = ((gosF (-1) S kk) (26 + k)) := by rw [onR, if_pos (by first | exact Or.inl (by assumption) | exact Or.inr (Or.inl (by assumption)) | exact Or.inr (Or.inr (Or.inl (by assumption))) | exact Or.inr (Or.inr (Or.inr (by assumption)))), if_pos (by assumption), hpn_kk, if_neg (fun h => absurd ((nI_eq (by omega) (by omega)).mp h) (by omega)), if_neg (fun h => absurd ((nI_eq (by omega) (by omega)).mp h) (by omega)), if_neg (fun h => absurd ((nI_ltI (by omega) (by omega)).mp h) (by omega)), if_neg (fun h => absurd ((nI_ltI (by omega) (by omega)).mp h) (by omega)), pk_sub (by omega), show k + 30 - 30 = k by omega, hpn]
            exact ⟨_, _, _, _, _, _, _, by rw [er], rfl, rfl⟩
          · refine ev_bipush (v := (-2)) hC dX11_on_55 (by decide) ?_
            refine ev_iret hC hR rfl dX11_on_57 ?_
            have er : onR S x2 (nI (k + 30)) = (-2) := by rw [onR, if_pos (by first | exact Or.inl (by assumption) | exact Or.inr (Or.inl (by assumption)) | exact Or.inr (Or.inr (Or.inl (by assumption))) | exact Or.inr (Or.inr (Or.inr (by assumption)))), if_neg (by assumption)]
            exact ⟨_, _, _, _, _, _, _, by rw [er], rfl, rfl⟩
        · refine ev_iconst (v := (-1)) hC dX11_on_43 (by decide) ?_
          refine ev_iret hC hR rfl dX11_on_44 ?_
          have er : onR S x2 w = (-1) := by rw [onR, if_neg (by rintro (h | h | h | h) <;> contradiction)]
          exact ⟨_, _, _, _, _, _, _, by rw [er], rfl, rfl⟩

set_option maxHeartbeats 4000000 in
set_option maxRecDepth 100000 in
theorem m_X11_doRow0 (G : GG) (ro : va_W) (b : Nat → Nat) (S tk le : Nat → Int32) (os : Nat → Option Nat) (t tc : Nat) (mu wa : Int32) (x : Int32) {DD EE : Nat} (hW : WF S DD EE) (hO : MoOK G ro tc S os t) (hD : DD + 1 < 2 ^ 31) (hE : EE + 168 * 1 < 2 ^ 31) : Mth G M_X11_doRow 6 0 0 [.ref (b 0), .int (nI 0), .int x] (MO G b (vwn S 2 6) tk os (vwn S 14 6) (vwn S 20 6) (vwn S 26 6) (vwn S 51 24) le (S 32) (bitF S) (S 0) (S 1) t (S 33) mu wa) ro (fun r ws' ro' => ∃ (tk' : Nat → Int32), ∃ (le' : Nat → Int32), ∃ (wa' : Int32), r = none ∧ ws' = (MO G b (vwn (goF mu S) 2 6) tk' os (vwn (goF mu S) 14 6) (vwn (goF mu S) 20 6) (vwn (goF mu S) 26 6) (vwn (goF mu S) 51 24) le' ((goF mu S) 32) (bitF (goF mu S)) ((goF mu S) 0) ((goF mu S) 1) t ((goF mu S) 33) mu wa') ∧ ro = ro') := by
  refine mth_of (by decide +kernel) (Nat.le_of_ble_eq_true rfl) (fun X hC hR => ?_)
  have b32 := hW.peo.le
  have b32 := hW.peo.le
  show Ev G X 0 0 0 [(0, .ref (b 0)), (1, .int (nI 0)), (2, .int x)] [] (MO G b (vwn S 2 6) tk os (vwn S 14 6) (vwn S 20 6) (vwn S 26 6) (vwn S 51 24) le (S 32) (bitF S) (S 0) (S 1) t (S 33) mu wa) ro
  refine ev_iload_n hC dX11_doRow_0 rfl 1 rfl ?_
  refine ev_tabIn (off := 27) (tgt := 28) hC dX11_doRow_1 (by decide) (by decide) (by decide) (by decide) ?_
  refine ev_aload_n hC dX11_doRow_28 rfl 0 rfl ?_
  refine ev_callV (As := []) (st := []) (wf := []) hC cv_X11_216 (m_X3_goDay G ro b S tk le os t tc mu wa hW hO (by omega) (by omega)) (by omega) rfl rfl (Nat.le_of_ble_eq_true rfl) (List.Perm.of_eq (List.append_nil _).symm) (mw 0 rfl) rfl dX11_doRow_29 (by omega) (by omega) ?_
  rintro _ _ _ ⟨tk_1, le_2, hK_3, rfl, rfl, rfl⟩
  refine ev_ws (List.append_nil _) ?_
  show Ev G X 0 0 32 [(0, .ref (b 0)), (1, .int (nI 0)), (2, .int x)] [] (MO G b (vwn (goF mu S) 2 6) tk_1 os (vwn (goF mu S) 14 6) (vwn (goF mu S) 20 6) (vwn (goF mu S) 26 6) (vwn (goF mu S) 51 24) le_2 ((goF mu S) 32) (bitF (goF mu S)) ((goF mu S) 0) ((goF mu S) 1) t ((goF mu S) 33) mu (rsF (alF mu S) wa 6)) ro
  refine ev_goto (tgt := 65) hC dX11_doRow_32 (by decide) ?_
  refine ev_vret hC hR rfl dX11_doRow_65 ?_
  exact ⟨_, _, _, rfl, rfl, rfl⟩

set_option maxHeartbeats 4000000 in
set_option maxRecDepth 100000 in
theorem m_X11_doRow1 (G : GG) (ro : va_W) (b : Nat → Nat) (S tk le : Nat → Int32) (os : Nat → Option Nat) (t tc : Nat) (mu wa : Int32) (j : Nat) (hj : j < 6) {DD EE : Nat} (hW : WF S DD EE) (hO : MoOK G ro tc S os t) (hD : DD + 1 < 2 ^ 31) (hE : EE + 168 * 1 < 2 ^ 31) : Mth G M_X11_doRow 6 0 0 [.ref (b 0), .int (nI 1), .int (nI j)] (MO G b (vwn S 2 6) tk os (vwn S 14 6) (vwn S 20 6) (vwn S 26 6) (vwn S 51 24) le (S 32) (bitF S) (S 0) (S 1) t (S 33) mu wa) ro (fun r ws' ro' => ∃ (tk' : Nat → Int32), ∃ (le' : Nat → Int32), ∃ (wa' : Int32), r = none ∧ ws' = (MO G b (vwn (upd S (8 + j) (nI 1)) 2 6) tk' os (vwn (upd S (8 + j) (nI 1)) 14 6) (vwn (upd S (8 + j) (nI 1)) 20 6) (vwn (upd S (8 + j) (nI 1)) 26 6) (vwn (upd S (8 + j) (nI 1)) 51 24) le' ((upd S (8 + j) (nI 1)) 32) (bitF (upd S (8 + j) (nI 1))) ((upd S (8 + j) (nI 1)) 0) ((upd S (8 + j) (nI 1)) 1) t ((upd S (8 + j) (nI 1)) 33) mu wa') ∧ ro = ro') := by
  refine mth_of (by decide +kernel) (Nat.le_of_ble_eq_true rfl) (fun X hC hR => ?_)
  have b32 := hW.peo.le
  have b32 := hW.peo.le
  show Ev G X 0 0 0 [(0, .ref (b 0)), (1, .int (nI 1)), (2, .int (nI j))] [] (MO G b (vwn S 2 6) tk os (vwn S 14 6) (vwn S 20 6) (vwn S 26 6) (vwn S 51 24) le (S 32) (bitF S) (S 0) (S 1) t (S 33) mu wa) ro
  refine ev_iload_n hC dX11_doRow_0 rfl 1 rfl ?_
  refine ev_tabIn (off := 34) (tgt := 35) hC dX11_doRow_1 (by decide) (by decide) (by decide) (by decide) ?_
  refine ev_aload_n hC dX11_doRow_35 rfl 0 rfl ?_
  refine ev_dup hC dX11_doRow_36 rfl ?_
  refine ev_get hC fl_X11_164_3 (mw 0 rfl) rfl dX11_doRow_37 ?_
  refine ev_iconst (v := (nI 1)) hC dX11_doRow_40 (by decide) ?_
  refine ev_iload_n hC dX11_doRow_41 rfl 2 rfl ?_
  refine ev_ishl hC dX11_doRow_42 ?_
  refine ev_ior hC dX11_doRow_43 ?_
  refine ev_put (ws' := (MO G b (vwn S 2 6) tk os (vwn S 14 6) (vwn S 20 6) (vwn S 26 6) (vwn S 51 24) le (S 32) ((bitF S) ||| ((nI 1) <<< ((nI j) &&& 31))) (S 0) (S 1) t (S 33) mu wa)) (q0 := 0) hC fp_X11_164_3 rfl (Nat.le_of_ble_eq_true rfl) rfl rfl rfl dX11_doRow_44 ?_
  refine ev_goto (tgt := 65) hC dX11_doRow_47 (by decide) ?_
  refine ev_ws (ws' := (MO G b (vwn (upd S (8 + j) (nI 1)) 2 6) tk os (vwn (upd S (8 + j) (nI 1)) 14 6) (vwn (upd S (8 + j) (nI 1)) 20 6) (vwn (upd S (8 + j) (nI 1)) 26 6) (vwn (upd S (8 + j) (nI 1)) 51 24) le ((upd S (8 + j) (nI 1)) 32) (bitF (upd S (8 + j) (nI 1))) ((upd S (8 + j) (nI 1)) 0) ((upd S (8 + j) (nI 1)) 1) t ((upd S (8 + j) (nI 1)) 33) mu wa)) (mo_eq (by rw [vwn_ne (o := 2) (n := 6) (by omega)]) rfl rfl (by rw [vwn_ne (o := 14) (n := 6) (by omega)]) (by rw [vwn_ne (o := 20) (n := 6) (by omega)]) (by rw [vwn_ne (o := 26) (n := 6) (by omega)]) (by rw [vwn_ne (o := 51) (n := 24) (by omega)]) rfl (by rw [upd_ne _ _ (by omega)]) (bitF_set hW (by omega)).symm (by rw [upd_ne _ _ (by omega)]) (by rw [upd_ne _ _ (by omega)]) (by rw [upd_ne _ _ (by omega)]) rfl rfl) ?_
  refine ev_vret hC hR rfl dX11_doRow_65 ?_
  exact ⟨_, _, _, rfl, rfl, rfl⟩

set_option maxHeartbeats 4000000 in
set_option maxRecDepth 100000 in
theorem m_X11_doRow2 (G : GG) (ro : va_W) (b : Nat → Nat) (S tk le : Nat → Int32) (os : Nat → Option Nat) (t tc : Nat) (mu wa : Int32) (j : Nat) (hj : j < 6) {DD EE : Nat} (hW : WF S DD EE) (hO : MoOK G ro tc S os t) (hD : DD + 1 < 2 ^ 31) (hE : EE + 168 * 1 < 2 ^ 31) : Mth G M_X11_doRow 6 0 0 [.ref (b 0), .int (nI 2), .int (nI j)] (MO G b (vwn S 2 6) tk os (vwn S 14 6) (vwn S 20 6) (vwn S 26 6) (vwn S 51 24) le (S 32) (bitF S) (S 0) (S 1) t (S 33) mu wa) ro (fun r ws' ro' => ∃ (tk' : Nat → Int32), ∃ (le' : Nat → Int32), ∃ (wa' : Int32), r = none ∧ ws' = (MO G b (vwn (moreF S j 20) 2 6) tk' os (vwn (moreF S j 20) 14 6) (vwn (moreF S j 20) 20 6) (vwn (moreF S j 20) 26 6) (vwn (moreF S j 20) 51 24) le' ((moreF S j 20) 32) (bitF (moreF S j 20)) ((moreF S j 20) 0) ((moreF S j 20) 1) t ((moreF S j 20) 33) mu wa') ∧ ro = ro') := by
  refine mth_of (by decide +kernel) (Nat.le_of_ble_eq_true rfl) (fun X hC hR => ?_)
  have b32 := hW.peo.le
  have b32 := hW.peo.le
  show Ev G X 0 0 0 [(0, .ref (b 0)), (1, .int (nI 2)), (2, .int (nI j))] [] (MO G b (vwn S 2 6) tk os (vwn S 14 6) (vwn S 20 6) (vwn S 26 6) (vwn S 51 24) le (S 32) (bitF S) (S 0) (S 1) t (S 33) mu wa) ro
  refine ev_iload_n hC dX11_doRow_0 rfl 1 rfl ?_
  refine ev_tabIn (off := 49) (tgt := 50) hC dX11_doRow_1 (by decide) (by decide) (by decide) (by decide) ?_
  refine ev_aload_n hC dX11_doRow_50 rfl 0 rfl ?_
  refine ev_iload_n hC dX11_doRow_51 rfl 2 rfl ?_
  refine ev_bipush (v := (nI 20)) hC dX11_doRow_52 (by decide) ?_
  refine ev_callV (As := [.int (nI j), .int (nI 20)]) (st := []) (wf := []) hC cv_X11_227 (m_X3_addSalt G ro b S tk le os t tc mu wa j 20  hW (by omega) (by omega)) (by omega) rfl rfl (Nat.le_of_ble_eq_true rfl) (List.Perm.of_eq (List.append_nil _).symm) (mw 0 rfl) rfl dX11_doRow_54 (by omega) (by omega) ?_
  rintro _ _ _ ⟨rfl, rfl, rfl⟩
  refine ev_ws (List.append_nil _) ?_
  show Ev G X 0 0 57 [(0, .ref (b 0)), (1, .int (nI 2)), (2, .int (nI j))] [] (MO G b (vwn (moreF S j 20) 2 6) tk os (vwn (moreF S j 20) 14 6) (vwn (moreF S j 20) 20 6) (vwn (moreF S j 20) 26 6) (vwn (moreF S j 20) 51 24) le ((moreF S j 20) 32) (bitF (moreF S j 20)) ((moreF S j 20) 0) ((moreF S j 20) 1) t ((moreF S j 20) 33) mu wa) ro
  refine ev_goto (tgt := 65) hC dX11_doRow_57 (by decide) ?_
  refine ev_vret hC hR rfl dX11_doRow_65 ?_
  exact ⟨_, _, _, rfl, rfl, rfl⟩

set_option maxHeartbeats 4000000 in
set_option maxRecDepth 100000 in
theorem m_X11_doRow3 (G : GG) (ro : va_W) (b : Nat → Nat) (S tk le : Nat → Int32) (os : Nat → Option Nat) (t tc : Nat) (mu wa : Int32) (j : Nat) (hj : j < sn S 32) {DD EE : Nat} (hW : WF S DD EE) (hO : MoOK G ro tc S os t) (hD : DD + 1 < 2 ^ 31) (hE : EE + 168 * 1 < 2 ^ 31) : Mth G M_X11_doRow 6 0 0 [.ref (b 0), .int (nI 3), .int (nI j)] (MO G b (vwn S 2 6) tk os (vwn S 14 6) (vwn S 20 6) (vwn S 26 6) (vwn S 51 24) le (S 32) (bitF S) (S 0) (S 1) t (S 33) mu wa) ro (fun r ws' ro' => ∃ (tk' : Nat → Int32), ∃ (le' : Nat → Int32), ∃ (wa' : Int32), r = none ∧ ws' = (MO G b (vwn (upd S (20 + j) (nI 0)) 2 6) tk' os (vwn (upd S (20 + j) (nI 0)) 14 6) (vwn (upd S (20 + j) (nI 0)) 20 6) (vwn (upd S (20 + j) (nI 0)) 26 6) (vwn (upd S (20 + j) (nI 0)) 51 24) le' ((upd S (20 + j) (nI 0)) 32) (bitF (upd S (20 + j) (nI 0))) ((upd S (20 + j) (nI 0)) 0) ((upd S (20 + j) (nI 0)) 1) t ((upd S (20 + j) (nI 0)) 33) mu wa') ∧ ro = ro') := by
  refine mth_of (by decide +kernel) (Nat.le_of_ble_eq_true rfl) (fun X hC hR => ?_)
  have b32 := hW.peo.le
  have b32 := hW.peo.le
  show Ev G X 0 0 0 [(0, .ref (b 0)), (1, .int (nI 3)), (2, .int (nI j))] [] (MO G b (vwn S 2 6) tk os (vwn S 14 6) (vwn S 20 6) (vwn S 26 6) (vwn S 51 24) le (S 32) (bitF S) (S 0) (S 1) t (S 33) mu wa) ro
  refine ev_iload_n hC dX11_doRow_0 rfl 1 rfl ?_
  refine ev_tabOut (tgt := 60) hC dX11_doRow_1 (by decide) (by decide) ?_
  refine ev_aload_n hC dX11_doRow_60 rfl 0 rfl ?_
  refine ev_iload_n hC dX11_doRow_61 rfl 2 rfl ?_
  refine ev_callV (As := [.int (nI j)]) (st := []) (wf := []) hC cv_X11_293 (m_X3_forgets G ro b S tk le os t tc mu wa j  hW (by omega)) (by omega) rfl rfl (Nat.le_of_ble_eq_true rfl) (List.Perm.of_eq (List.append_nil _).symm) (mw 0 rfl) rfl dX11_doRow_62 (by omega) (by omega) ?_
  rintro _ _ _ ⟨rfl, rfl, rfl⟩
  refine ev_ws (List.append_nil _) ?_
  show Ev G X 0 0 65 [(0, .ref (b 0)), (1, .int (nI 3)), (2, .int (nI j))] [] (MO G b (vwn (upd S (20 + j) (nI 0)) 2 6) tk os (vwn (upd S (20 + j) (nI 0)) 14 6) (vwn (upd S (20 + j) (nI 0)) 20 6) (vwn (upd S (20 + j) (nI 0)) 26 6) (vwn (upd S (20 + j) (nI 0)) 51 24) le ((upd S (20 + j) (nI 0)) 32) (bitF (upd S (20 + j) (nI 0))) ((upd S (20 + j) (nI 0)) 0) ((upd S (20 + j) (nI 0)) 1) t ((upd S (20 + j) (nI 0)) 33) mu wa) ro
  refine ev_vret hC hR rfl dX11_doRow_65 ?_
  exact ⟨_, _, _, rfl, rfl, rfl⟩

theorem m_X11_doRow (G : GG) (ro : va_W) (b : Nat → Nat) (S tk le : Nat → Int32) (os : Nat → Option Nat) (t tc : Nat) (mu wa : Int32) (w : Nat) (x : Int32) {DD EE : Nat} (hW : WF S DD EE) (hO : MoOK G ro tc S os t) (hmu : mu = -1) (hw : w ≤ 3) (hx : ¬ w = 0 → ∃ j, j < 6 ∧ (w = 3 → j < sn S 32) ∧ x = nI j) (hD : DD + 1 < 2 ^ 31) (hE : EE + 168 * 1 < 2 ^ 31) : Mth G M_X11_doRow 6 0 0 [.ref (b 0), .int (nI w), .int x] (MO G b (vwn S 2 6) tk os (vwn S 14 6) (vwn S 20 6) (vwn S 26 6) (vwn S 51 24) le (S 32) (bitF S) (S 0) (S 1) t (S 33) mu wa) ro (fun r ws' ro' => ∃ (tk' : Nat → Int32), ∃ (le' : Nat → Int32), ∃ (wa' : Int32), r = none ∧ ws' = (MO G b (vwn (doesF S (nI w) x) 2 6) tk' os (vwn (doesF S (nI w) x) 14 6) (vwn (doesF S (nI w) x) 20 6) (vwn (doesF S (nI w) x) 26 6) (vwn (doesF S (nI w) x) 51 24) le' ((doesF S (nI w) x) 32) (bitF (doesF S (nI w) x)) ((doesF S (nI w) x) 0) ((doesF S (nI w) x) 1) t ((doesF S (nI w) x) 33) mu wa') ∧ ro = ro') := by
  have n1 : ∀ {a b : Nat}, a < 4 → b < 4 → a ≠ b → ¬ nI a = nI b := fun ha hb hab q => hab ((nI_eq (by omega) (by omega)).mp q)
  rcases (show w = 0 ∨ w = 1 ∨ w = 2 ∨ w = 3 by omega) with rfl | rfl | rfl | rfl
  · rw [doesF, if_pos rfl, ← hmu]
    exact m_X11_doRow0 G ro b S tk le os t tc mu wa x hW hO hD hE
  · obtain ⟨j, hj, -, rfl⟩ := hx (by omega)
    rw [doesF, if_neg (n1 (by omega) (by omega) (by omega)), if_pos rfl, show pn (nI j) = j from nI_clamp (by omega)]
    exact m_X11_doRow1 G ro b S tk le os t tc mu wa j hj hW hO hD hE
  · obtain ⟨j, hj, -, rfl⟩ := hx (by omega)
    rw [doesF, if_neg (n1 (by omega) (by omega) (by omega)), if_neg (n1 (by omega) (by omega) (by omega)), if_pos rfl, show pn (nI j) = j from nI_clamp (by omega)]
    exact m_X11_doRow2 G ro b S tk le os t tc mu wa j hj hW hO hD hE
  · obtain ⟨j, hj, h3, rfl⟩ := hx (by omega)
    rw [doesF, if_neg (n1 (by omega) (by omega) (by omega)), if_neg (n1 (by omega) (by omega) (by omega)), if_neg (n1 (by omega) (by omega) (by omega)), show pn (nI j) = j from nI_clamp (by omega)]
    exact m_X11_doRow3 G ro b S tk le os t tc mu wa j (h3 rfl) hW hO hD hE
theorem plan_num3 {S : Nat → Int32} {D E k : Nat} (h : WF S D E) (hk : k < sn S 35) : ¬ sn S (90 + k) = 0 → ∃ j, j < 6 ∧ (sn S (90 + k) = 3 → j < sn S 32) ∧ S (98 + k) = nI j := by
  intro h0
  obtain ⟨j, hj, e⟩ := plan_num h hk h0
  refine ⟨j, hj, fun h3 => ?_, e⟩
  have b8 := h.plan.le
  have hw := (h.pwhat k (by omega)).eq
  rw [h3] at hw
  have hn := ((h.pnum k (by omega)).2 hw hk).2
  have : sn S (98 + k) = j := sn_of (by omega) e
  omega

set_option maxHeartbeats 4000000 in
set_option maxRecDepth 100000 in
theorem m_X11_done (G : GG) (ro : va_W) (x : Nat) (r1 r2 r3 r4 r5 d b1 b2 b3 : Nat → Nat) (hi : Int32) (S tk le T tk3 le3 : Nat → Int32) (os os3 : Nat → Option Nat) (t t3 : Nat) (wa st3 wa3 : Int32) (w : Int32) (p3 pg1 pg2 pg3 : Nat → Int32) (pgc : Int32) (hW : WF S 9999 9999) (hO : MoOK G ro (r5 0) S os t)  : Mth G M_X11_done 8 0 0 [.ref x, .int w] (List.flatten [SP x r1 r2 r3 r4 r5 d b1 b2 b3 hi, RW G r3 8 (vwn S 90 8) (vwn S 98 8) p3 (nI (sn S 35)) pg1 pg2 pg3 pgc, MO G b1 (vwn S 2 6) tk os (vwn S 14 6) (vwn S 20 6) (vwn S 26 6) (vwn S 51 24) le (S 32) (bitF S) (S 0) (S 1) t (S 33) (-1) wa, MO G b3 (vwn T 2 6) tk3 os3 (vwn T 14 6) (vwn T 20 6) (vwn T 26 6) (vwn T 51 24) le3 (T 32) (bitF T) (T 0) (T 1) t3 (T 33) st3 wa3]) ro (fun r ws' ro' => ∃ (T' : Nat → Int32), ∃ (tk3' : Nat → Int32), ∃ (le3' : Nat → Int32), ∃ (os3' : Nat → Option Nat), ∃ (t3' : Nat), ∃ (st3' : Int32), ∃ (wa3' : Int32), r = some (.int (doneR S w)) ∧ ws' = (List.flatten [SP x r1 r2 r3 r4 r5 d b1 b2 b3 hi, RW G r3 8 (vwn S 90 8) (vwn S 98 8) p3 (nI (sn S 35)) pg1 pg2 pg3 pgc, MO G b1 (vwn S 2 6) tk os (vwn S 14 6) (vwn S 20 6) (vwn S 26 6) (vwn S 51 24) le (S 32) (bitF S) (S 0) (S 1) t (S 33) (-1) wa, MO G b3 (vwn T' 2 6) tk3' os3' (vwn T' 14 6) (vwn T' 20 6) (vwn T' 26 6) (vwn T' 51 24) le3' (T' 32) (bitF T') (T' 0) (T' 1) t3' (T' 33) st3' wa3']) ∧ ro = ro') := by
  refine mth_of (by decide +kernel) (Nat.le_of_ble_eq_true rfl) (fun X hC hR => ?_)
  have b32 := hW.peo.le
  have b35 := hW.plan.le
  have hO3 := hO.os hW (os' := cpO 6 os os3) (fun p hp => if_pos hp)
  show Ev G X 0 0 0 [(0, .ref x), (1, .int w)] [] (List.flatten [SP x r1 r2 r3 r4 r5 d b1 b2 b3 hi, RW G r3 8 (vwn S 90 8) (vwn S 98 8) p3 (nI (sn S 35)) pg1 pg2 pg3 pgc, MO G b1 (vwn S 2 6) tk os (vwn S 14 6) (vwn S 20 6) (vwn S 26 6) (vwn S 51 24) le (S 32) (bitF S) (S 0) (S 1) t (S 33) (-1) wa, MO G b3 (vwn T 2 6) tk3 os3 (vwn T 14 6) (vwn T 20 6) (vwn T 26 6) (vwn T 51 24) le3 (T 32) (bitF T) (T 0) (T 1) t3 (T 33) st3 wa3]) ro
  refine ev_iload_n hC dX11_done_0 rfl 1 rfl ?_
  refine ev_iconst (v := (nI 0)) hC dX11_done_1 (by decide) ?_
  refine ev_iconst (v := (nI 1)) hC dX11_done_2 (by decide) ?_
  refine ev_callS (As := [.int w, .int (nI 0), .int (nI 1)]) (st := []) (wc := []) (wf := (List.flatten [SP x r1 r2 r3 r4 r5 d b1 b2 b3 hi, RW G r3 8 (vwn S 90 8) (vwn S 98 8) p3 (nI (sn S 35)) pg1 pg2 pg3 pgc, MO G b1 (vwn S 2 6) tk os (vwn S 14 6) (vwn S 20 6) (vwn S 26 6) (vwn S 51 24) le (S 32) (bitF S) (S 0) (S 1) t (S 33) (-1) wa, MO G b3 (vwn T 2 6) tk3 os3 (vwn T 14 6) (vwn T 20 6) (vwn T 26 6) (vwn T 51 24) le3 (T 32) (bitF T) (T 0) (T 1) t3 (T 33) st3 wa3])) hC ct_X11_68 (m_X11_isWithin G ro w (nI 0) (nI 1)) (by omega) rfl rfl (Nat.le_of_ble_eq_true rfl) (List.Perm.refl _) dX11_done_3 (by omega) (by omega) ?_
  rintro _ _ _ ⟨rfl, rfl, rfl⟩
  refine ev_ws (List.nil_append _) ?_
  show Ev G X 0 0 6 [(0, .ref x), (1, .int w)] [.int (bI ((nI 0) ≤ w ∧ w ≤ (nI 1)))] (List.flatten [SP x r1 r2 r3 r4 r5 d b1 b2 b3 hi, RW G r3 8 (vwn S 90 8) (vwn S 98 8) p3 (nI (sn S 35)) pg1 pg2 pg3 pgc, MO G b1 (vwn S 2 6) tk os (vwn S 14 6) (vwn S 20 6) (vwn S 26 6) (vwn S 51 24) le (S 32) (bitF S) (S 0) (S 1) t (S 33) (-1) wa, MO G b3 (vwn T 2 6) tk3 os3 (vwn T 14 6) (vwn T 20 6) (vwn T 26 6) (vwn T 51 24) le3 (T 32) (bitF T) (T 0) (T 1) t3 (T 33) st3 wa3]) ro
  refine ev_if_neB (tgt := 11) hC dX11_done_6 (by decide) (fun c_1 => ?_) (fun c_1 => ?_)
  · obtain ⟨wk, hwk, rfl⟩ := inN (m := 1) (by omega) (by assumption)
    rcases (show wk = 0 ∨ wk = 1 by omega) with rfl | rfl
    · refine ev_aload_n hC dX11_done_11 rfl 0 rfl ?_
      refine ev_callV (As := []) (st := []) (wf := (List.flatten [RW G r3 8 (vwn S 90 8) (vwn S 98 8) p3 (nI (sn S 35)) pg1 pg2 pg3 pgc])) hC cv_X11_192 (m_X11_asItIs G ro x r1 r2 r3 r4 r5 d b1 b2 b3 hi S tk le T tk3 le3 os os3 t t3 wa st3 wa3 hW hO ) (by omega) rfl rfl (Nat.le_of_ble_eq_true rfl) (perm_sg (n := 4) [0, 2, 3, 1] rfl rfl (by decide)) (mw 0 rfl) rfl dX11_done_12 (by omega) (by omega) ?_
      rintro _ _ _ ⟨rfl, rfl, rfl⟩
      show Ev G X 0 0 15 [(0, .ref x), (1, .int (nI 0))] [.ref (b3 0)] (List.flatten [SP x r1 r2 r3 r4 r5 d b1 b2 b3 hi, MO G b1 (vwn S 2 6) tk os (vwn S 14 6) (vwn S 20 6) (vwn S 26 6) (vwn S 51 24) le (S 32) (bitF S) (S 0) (S 1) t (S 33) (-1) wa, MO G b3 (vwn S 2 6) tk3 (cpO 6 os os3) (vwn S 14 6) (vwn S 20 6) (vwn S 26 6) (vwn S 51 24) le3 (S 32) (bitF S) (S 0) (S 1) t (S 33) (-1) (nI 0), RW G r3 8 (vwn S 90 8) (vwn S 98 8) p3 (nI (sn S 35)) pg1 pg2 pg3 pgc]) ro
      refine ev_perm (ws' := (List.flatten [SP x r1 r2 r3 r4 r5 d b1 b2 b3 hi, RW G r3 8 (vwn S 90 8) (vwn S 98 8) p3 (nI (sn S 35)) pg1 pg2 pg3 pgc, MO G b1 (vwn S 2 6) tk os (vwn S 14 6) (vwn S 20 6) (vwn S 26 6) (vwn S 51 24) le (S 32) (bitF S) (S 0) (S 1) t (S 33) (-1) wa, MO G b3 (vwn S 2 6) tk3 (cpO 6 os os3) (vwn S 14 6) (vwn S 20 6) (vwn S 26 6) (vwn S 51 24) le3 (S 32) (bitF S) (S 0) (S 1) t (S 33) (-1) (nI 0)])) (perm_sg2 (n := 4) [0, 3, 1, 2] rfl rfl (by decide)) ?_
      have hO_2 := hO.os hW (os' := cpO 6 os os3) (fun p hp => if_pos hp)
      refine ev_astore_n (lv' := [(2, .ref (b3 0)), (0, .ref x), (1, .int (nI 0))]) hC dX11_done_15 rfl (by decide) rfl ?_
      refine ev_iconst (v := (nI 0)) hC dX11_done_16 (by decide) ?_
      refine ev_istore_n (lv' := [(3, .int (nI 0)), (2, .ref (b3 0)), (0, .ref x), (1, .int (nI 0))]) hC dX11_done_17 rfl (by decide) rfl ?_
      have lp_18 : ∀ (fu_18 : Nat) (k : Nat) (tk5 : Nat → Int32) (le5 : Nat → Int32) (wa5 : Int32) (hk : k ≤ sn S 35) (hn : sn S 35 - k < fu_18), Ev G X 0 0 18 [(0, .ref x), (1, .int (nI 0)), (2, .ref (b3 0)), (3, .int (nI k))] [] (List.flatten [SP x r1 r2 r3 r4 r5 d b1 b2 b3 hi, RW G r3 8 (vwn S 90 8) (vwn S 98 8) p3 (nI (sn S 35)) pg1 pg2 pg3 pgc, MO G b1 (vwn S 2 6) tk os (vwn S 14 6) (vwn S 20 6) (vwn S 26 6) (vwn S 51 24) le (S 32) (bitF S) (S 0) (S 1) t (S 33) (-1) wa, MO G b3 (vwn (planF S k) 2 6) tk5 (cpO 6 os os3) (vwn (planF S k) 14 6) (vwn (planF S k) 20 6) (vwn (planF S k) 26 6) (vwn (planF S k) 51 24) le5 ((planF S k) 32) (bitF (planF S k)) ((planF S k) 0) ((planF S k) 1) t ((planF S k) 33) (-1) wa5]) ro := by
        intro fu_18
        induction fu_18 with
        | zero => intro k tk5 le5 wa5 hk hn; exact absurd hn (Nat.not_lt_zero _)
        | succ fu_18 ih =>
          intro k tk5 le5 wa5 hk hn
          have hPF := planF_wf hW k (by omega) (by omega) (by omega)
          refine ev_iload_n hC dX11_done_18 rfl 3 rfl ?_
          refine ev_aload_n hC dX11_done_19 rfl 0 rfl ?_
          refine ev_get hC fl_X11_23_11 (mw 0 rfl) rfl dX11_done_20 ?_
          refine ev_callV (As := []) (st := [.int (nI k)]) (wf := (List.flatten [SP x r1 r2 r3 r4 r5 d b1 b2 b3 hi, MO G b1 (vwn S 2 6) tk os (vwn S 14 6) (vwn S 20 6) (vwn S 26 6) (vwn S 51 24) le (S 32) (bitF S) (S 0) (S 1) t (S 33) (-1) wa, MO G b3 (vwn (planF S k) 2 6) tk5 (cpO 6 os os3) (vwn (planF S k) 14 6) (vwn (planF S k) 20 6) (vwn (planF S k) 26 6) (vwn (planF S k) 51 24) le5 ((planF S k) 32) (bitF (planF S k)) ((planF S k) 0) ((planF S k) 1) t ((planF S k) 33) (-1) wa5])) hC cv_X11_242 (m_X7_kept G ro r3 8 (sn S 35) (vwn S 90 8) (vwn S 98 8) p3 pg1 pg2 pg3 pgc (by omega) (by omega)) (by omega) rfl rfl (Nat.le_of_ble_eq_true rfl) (perm_sg (n := 4) [1, 0, 2, 3] rfl rfl (by decide)) (mw 1 rfl) rfl dX11_done_23 (by omega) (by omega) ?_
          rintro _ _ _ ⟨rfl, rfl, rfl⟩
          show Ev G X 0 0 26 [(0, .ref x), (1, .int (nI 0)), (2, .ref (b3 0)), (3, .int (nI k))] [.int (nI (min (sn S 35) 8)), .int (nI k)] (List.flatten [RW G r3 8 (vwn S 90 8) (vwn S 98 8) p3 (nI (sn S 35)) pg1 pg2 pg3 pgc, SP x r1 r2 r3 r4 r5 d b1 b2 b3 hi, MO G b1 (vwn S 2 6) tk os (vwn S 14 6) (vwn S 20 6) (vwn S 26 6) (vwn S 51 24) le (S 32) (bitF S) (S 0) (S 1) t (S 33) (-1) wa, MO G b3 (vwn (planF S k) 2 6) tk5 (cpO 6 os os3) (vwn (planF S k) 14 6) (vwn (planF S k) 20 6) (vwn (planF S k) 26 6) (vwn (planF S k) 51 24) le5 ((planF S k) 32) (bitF (planF S k)) ((planF S k) 0) ((planF S k) 1) t ((planF S k) 33) (-1) wa5]) ro
          refine ev_perm (ws' := (List.flatten [SP x r1 r2 r3 r4 r5 d b1 b2 b3 hi, RW G r3 8 (vwn S 90 8) (vwn S 98 8) p3 (nI (sn S 35)) pg1 pg2 pg3 pgc, MO G b1 (vwn S 2 6) tk os (vwn S 14 6) (vwn S 20 6) (vwn S 26 6) (vwn S 51 24) le (S 32) (bitF S) (S 0) (S 1) t (S 33) (-1) wa, MO G b3 (vwn (planF S k) 2 6) tk5 (cpO 6 os os3) (vwn (planF S k) 14 6) (vwn (planF S k) 20 6) (vwn (planF S k) 26 6) (vwn (planF S k) 51 24) le5 ((planF S k) 32) (bitF (planF S k)) ((planF S k) 0) ((planF S k) 1) t ((planF S k) 33) (-1) wa5])) (perm_sg2 (n := 4) [1, 0, 2, 3] rfl rfl (by decide)) ?_
          refine ev_top (y := (nI (sn S 35))) (congrArg nI (by omega)) ?_
          refine ev_icmp_geN (tgt := 57) hC dX11_done_26 (by decide) (by omega) (by omega) (fun c_3 => ?_) (fun c_3 => ?_)
          · obtain rfl : k = sn S 35 := by omega
            have hs32 : sn (planF S (sn S 35)) 32 = sn S 32 := (planF_wf hW (sn S 35) (by omega) (by omega) (by omega)).2.sn (by omega)
            refine ev_iload_n hC dX11_done_57 rfl 1 rfl ?_
            refine ev_if_neN (tgt := 68) hC dX11_done_58 (by decide) (by omega) (fun c_4 => absurd c_4 (by omega)) (fun c_4 => ?_)
            refine ev_aload_n hC dX11_done_61 rfl 2 rfl ?_
            refine ev_callV (As := []) (st := []) (wf := (List.flatten [SP x r1 r2 r3 r4 r5 d b1 b2 b3 hi, RW G r3 8 (vwn S 90 8) (vwn S 98 8) p3 (nI (sn S 35)) pg1 pg2 pg3 pgc, MO G b1 (vwn S 2 6) tk os (vwn S 14 6) (vwn S 20 6) (vwn S 26 6) (vwn S 51 24) le (S 32) (bitF S) (S 0) (S 1) t (S 33) (-1) wa])) hC cv_X11_176 (m_X3_allSalt G ro b3 (planF S (sn S 35)) tk5 le5 (cpO 6 os os3) t (r5 0) (-1) wa5  (hPF.1)) (by omega) rfl rfl (Nat.le_of_ble_eq_true rfl) (perm_sg (n := 4) [3, 0, 1, 2] rfl rfl (by decide)) (mw 17 rfl) rfl dX11_done_62 (by omega) (by omega) ?_
            rintro _ _ _ ⟨rfl, rfl, rfl⟩
            show Ev G X 0 0 65 [(0, .ref x), (1, .int (nI 0)), (2, .ref (b3 0)), (3, .int (nI (sn S 35)))] [.int (sum6 (planF S (sn S 35)) 2)] (List.flatten [MO G b3 (vwn (planF S (sn S 35)) 2 6) tk5 (cpO 6 os os3) (vwn (planF S (sn S 35)) 14 6) (vwn (planF S (sn S 35)) 20 6) (vwn (planF S (sn S 35)) 26 6) (vwn (planF S (sn S 35)) 51 24) le5 ((planF S (sn S 35)) 32) (bitF (planF S (sn S 35))) ((planF S (sn S 35)) 0) ((planF S (sn S 35)) 1) t ((planF S (sn S 35)) 33) (-1) wa5, SP x r1 r2 r3 r4 r5 d b1 b2 b3 hi, RW G r3 8 (vwn S 90 8) (vwn S 98 8) p3 (nI (sn S 35)) pg1 pg2 pg3 pgc, MO G b1 (vwn S 2 6) tk os (vwn S 14 6) (vwn S 20 6) (vwn S 26 6) (vwn S 51 24) le (S 32) (bitF S) (S 0) (S 1) t (S 33) (-1) wa]) ro
            refine ev_perm (ws' := (List.flatten [SP x r1 r2 r3 r4 r5 d b1 b2 b3 hi, RW G r3 8 (vwn S 90 8) (vwn S 98 8) p3 (nI (sn S 35)) pg1 pg2 pg3 pgc, MO G b1 (vwn S 2 6) tk os (vwn S 14 6) (vwn S 20 6) (vwn S 26 6) (vwn S 51 24) le (S 32) (bitF S) (S 0) (S 1) t (S 33) (-1) wa, MO G b3 (vwn (planF S (sn S 35)) 2 6) tk5 (cpO 6 os os3) (vwn (planF S (sn S 35)) 14 6) (vwn (planF S (sn S 35)) 20 6) (vwn (planF S (sn S 35)) 26 6) (vwn (planF S (sn S 35)) 51 24) le5 ((planF S (sn S 35)) 32) (bitF (planF S (sn S 35))) ((planF S (sn S 35)) 0) ((planF S (sn S 35)) 1) t ((planF S (sn S 35)) 33) (-1) wa5])) (perm_sg2 (n := 4) [1, 2, 3, 0] rfl rfl (by decide)) ?_
            refine ev_goto (tgt := 72) hC dX11_done_65 (by decide) ?_
            refine ev_iret hC hR rfl dX11_done_72 ?_
            have er : doneR S (nI 0) = (sum6 (planF S (sn S 35)) 2) := by rw [doneR, if_pos (by assumption), if_pos rfl]
            exact ⟨_, _, _, _, _, _, _, by rw [er], rfl, rfl⟩
          · have hw90 := (hW.pwhat k (by omega)).eq
            refine ev_aload_n hC dX11_done_29 rfl 2 rfl ?_
            refine ev_aload_n hC dX11_done_30 rfl 0 rfl ?_
            refine ev_get hC fl_X11_23_11 (mw 0 rfl) rfl dX11_done_31 ?_
            refine ev_get hC fl_X11_244_7 (mw 1 rfl) rfl dX11_done_34 ?_
            refine ev_iload_n hC dX11_done_37 rfl 3 rfl ?_
            refine ev_ialdN (i := k) hC (mw 2 rfl) (by omega) (by omega) dX11_done_38 ?_
            refine ev_top (y := (S (90 + k))) (vwn_at (by omega)) ?_
            refine ev_top (y := (nI (sn S (90 + k)))) (hW.pwhat k (by omega)).eq ?_
            refine ev_aload_n hC dX11_done_39 rfl 0 rfl ?_
            refine ev_get hC fl_X11_23_11 (mw 0 rfl) rfl dX11_done_40 ?_
            refine ev_get hC fl_X11_247_7 (mw 1 rfl) rfl dX11_done_43 ?_
            refine ev_iload_n hC dX11_done_46 rfl 3 rfl ?_
            refine ev_ialdN (i := k) hC (mw 3 rfl) (by omega) (by omega) dX11_done_47 ?_
            refine ev_top (y := (S (98 + k))) (vwn_at (by omega)) ?_
            have hx3 : ¬ sn S (90 + k) = 0 → ∃ j, j < 6 ∧ (sn S (90 + k) = 3 → j < sn (planF S k) 32) ∧ S (98 + k) = nI j := by rw [hPF.2.sn (by omega)]; exact plan_num3 hW (by omega)
            refine ev_callS (As := [.ref (b3 0), .int (nI (sn S (90 + k))), .int (S (98 + k))]) (st := []) (wf := (List.flatten [SP x r1 r2 r3 r4 r5 d b1 b2 b3 hi, RW G r3 8 (vwn S 90 8) (vwn S 98 8) p3 (nI (sn S 35)) pg1 pg2 pg3 pgc, MO G b1 (vwn S 2 6) tk os (vwn S 14 6) (vwn S 20 6) (vwn S 26 6) (vwn S 51 24) le (S 32) (bitF S) (S 0) (S 1) t (S 33) (-1) wa])) hC ct_X11_250 (m_X11_doRow G ro b3 (planF S k) tk5 le5 (cpO 6 os os3) t (r5 0) (-1) wa5 (sn S (90 + k)) (S (98 + k)) (hPF.1) (MoOK.hi hO_2 (hPF.2)) rfl (hW.pwhat k (by omega)).le hx3 (by omega) (by omega)) (by omega) rfl rfl (Nat.le_of_ble_eq_true rfl) (perm_sg (n := 4) [3, 0, 1, 2] rfl rfl (by decide)) dX11_done_48 (by omega) (by omega) ?_
            rintro _ _ _ ⟨tk_5, le_6, wa_7, rfl, rfl, rfl⟩
            show Ev G X 0 0 51 [(0, .ref x), (1, .int (nI 0)), (2, .ref (b3 0)), (3, .int (nI k))] [] (List.flatten [MO G b3 (vwn (doesF (planF S k) (nI (sn S (90 + k))) (S (98 + k))) 2 6) tk_5 (cpO 6 os os3) (vwn (doesF (planF S k) (nI (sn S (90 + k))) (S (98 + k))) 14 6) (vwn (doesF (planF S k) (nI (sn S (90 + k))) (S (98 + k))) 20 6) (vwn (doesF (planF S k) (nI (sn S (90 + k))) (S (98 + k))) 26 6) (vwn (doesF (planF S k) (nI (sn S (90 + k))) (S (98 + k))) 51 24) le_6 ((doesF (planF S k) (nI (sn S (90 + k))) (S (98 + k))) 32) (bitF (doesF (planF S k) (nI (sn S (90 + k))) (S (98 + k)))) ((doesF (planF S k) (nI (sn S (90 + k))) (S (98 + k))) 0) ((doesF (planF S k) (nI (sn S (90 + k))) (S (98 + k))) 1) t ((doesF (planF S k) (nI (sn S (90 + k))) (S (98 + k))) 33) (-1) wa_7, SP x r1 r2 r3 r4 r5 d b1 b2 b3 hi, RW G r3 8 (vwn S 90 8) (vwn S 98 8) p3 (nI (sn S 35)) pg1 pg2 pg3 pgc, MO G b1 (vwn S 2 6) tk os (vwn S 14 6) (vwn S 20 6) (vwn S 26 6) (vwn S 51 24) le (S 32) (bitF S) (S 0) (S 1) t (S 33) (-1) wa]) ro
            refine ev_perm (ws' := (List.flatten [SP x r1 r2 r3 r4 r5 d b1 b2 b3 hi, RW G r3 8 (vwn S 90 8) (vwn S 98 8) p3 (nI (sn S 35)) pg1 pg2 pg3 pgc, MO G b1 (vwn S 2 6) tk os (vwn S 14 6) (vwn S 20 6) (vwn S 26 6) (vwn S 51 24) le (S 32) (bitF S) (S 0) (S 1) t (S 33) (-1) wa, MO G b3 (vwn (doesF (planF S k) (nI (sn S (90 + k))) (S (98 + k))) 2 6) tk_5 (cpO 6 os os3) (vwn (doesF (planF S k) (nI (sn S (90 + k))) (S (98 + k))) 14 6) (vwn (doesF (planF S k) (nI (sn S (90 + k))) (S (98 + k))) 20 6) (vwn (doesF (planF S k) (nI (sn S (90 + k))) (S (98 + k))) 26 6) (vwn (doesF (planF S k) (nI (sn S (90 + k))) (S (98 + k))) 51 24) le_6 ((doesF (planF S k) (nI (sn S (90 + k))) (S (98 + k))) 32) (bitF (doesF (planF S k) (nI (sn S (90 + k))) (S (98 + k)))) ((doesF (planF S k) (nI (sn S (90 + k))) (S (98 + k))) 0) ((doesF (planF S k) (nI (sn S (90 + k))) (S (98 + k))) 1) t ((doesF (planF S k) (nI (sn S (90 + k))) (S (98 + k))) 33) (-1) wa_7])) (perm_sg2 (n := 4) [1, 2, 3, 0] rfl rfl (by decide)) ?_
            refine ev_iinc (v := (nI (k + 1))) (lv' := [(3, .int (nI (k + 1))), (0, .ref x), (1, .int (nI 0)), (2, .ref (b3 0))]) hC dX11_done_51 (q := 3) rfl (nI_k _ _ 1 (by decide)) (by decide) rfl ?_
            refine ev_goto (tgt := 18) hC dX11_done_54 (by decide) ?_
            refine ev_lv [1, 2, 3, 0] rfl ?_
            refine ev_ws (ws' := (List.flatten [SP x r1 r2 r3 r4 r5 d b1 b2 b3 hi, RW G r3 8 (vwn S 90 8) (vwn S 98 8) p3 (nI (sn S 35)) pg1 pg2 pg3 pgc, MO G b1 (vwn S 2 6) tk os (vwn S 14 6) (vwn S 20 6) (vwn S 26 6) (vwn S 51 24) le (S 32) (bitF S) (S 0) (S 1) t (S 33) (-1) wa, MO G b3 (vwn (planF S (k + 1)) 2 6) tk_5 (cpO 6 os os3) (vwn (planF S (k + 1)) 14 6) (vwn (planF S (k + 1)) 20 6) (vwn (planF S (k + 1)) 26 6) (vwn (planF S (k + 1)) 51 24) le_6 ((planF S (k + 1)) 32) (bitF (planF S (k + 1))) ((planF S (k + 1)) 0) ((planF S (k + 1)) 1) t ((planF S (k + 1)) 33) (-1) wa_7])) (by rw [show (MO G b3 (vwn (doesF (planF S k) (nI (sn S (90 + k))) (S (98 + k))) 2 6) tk_5 (cpO 6 os os3) (vwn (doesF (planF S k) (nI (sn S (90 + k))) (S (98 + k))) 14 6) (vwn (doesF (planF S k) (nI (sn S (90 + k))) (S (98 + k))) 20 6) (vwn (doesF (planF S k) (nI (sn S (90 + k))) (S (98 + k))) 26 6) (vwn (doesF (planF S k) (nI (sn S (90 + k))) (S (98 + k))) 51 24) le_6 ((doesF (planF S k) (nI (sn S (90 + k))) (S (98 + k))) 32) (bitF (doesF (planF S k) (nI (sn S (90 + k))) (S (98 + k)))) ((doesF (planF S k) (nI (sn S (90 + k))) (S (98 + k))) 0) ((doesF (planF S k) (nI (sn S (90 + k))) (S (98 + k))) 1) t ((doesF (planF S k) (nI (sn S (90 + k))) (S (98 + k))) 33) (-1) wa_7) = (MO G b3 (vwn (planF S (k + 1)) 2 6) tk_5 (cpO 6 os os3) (vwn (planF S (k + 1)) 14 6) (vwn (planF S (k + 1)) 20 6) (vwn (planF S (k + 1)) 26 6) (vwn (planF S (k + 1)) 51 24) le_6 ((planF S (k + 1)) 32) (bitF (planF S (k + 1))) ((planF S (k + 1)) 0) ((planF S (k + 1)) 1) t ((planF S (k + 1)) 33) (-1) wa_7) from mo_eq (by rw [planF, hw90]) rfl rfl (by rw [planF, hw90]) (by rw [planF, hw90]) (by rw [planF, hw90]) (by rw [planF, hw90]) rfl (by rw [planF, hw90]) (by rw [planF, hw90]) (by rw [planF, hw90]) (by rw [planF, hw90]) (by rw [planF, hw90]) rfl rfl]) ?_
            exact ih (k + 1) tk_5 le_6 wa_7 (by omega) (by omega)
      refine ev_ws (ws' := (List.flatten [SP x r1 r2 r3 r4 r5 d b1 b2 b3 hi, RW G r3 8 (vwn S 90 8) (vwn S 98 8) p3 (nI (sn S 35)) pg1 pg2 pg3 pgc, MO G b1 (vwn S 2 6) tk os (vwn S 14 6) (vwn S 20 6) (vwn S 26 6) (vwn S 51 24) le (S 32) (bitF S) (S 0) (S 1) t (S 33) (-1) wa, MO G b3 (vwn (planF S 0) 2 6) tk3 (cpO 6 os os3) (vwn (planF S 0) 14 6) (vwn (planF S 0) 20 6) (vwn (planF S 0) 26 6) (vwn (planF S 0) 51 24) le3 ((planF S 0) 32) (bitF (planF S 0)) ((planF S 0) 0) ((planF S 0) 1) t ((planF S 0) 33) (-1) (nI 0)])) (by rw [show (MO G b3 (vwn S 2 6) tk3 (cpO 6 os os3) (vwn S 14 6) (vwn S 20 6) (vwn S 26 6) (vwn S 51 24) le3 (S 32) (bitF S) (S 0) (S 1) t (S 33) (-1) (nI 0)) = (MO G b3 (vwn (planF S 0) 2 6) tk3 (cpO 6 os os3) (vwn (planF S 0) 14 6) (vwn (planF S 0) 20 6) (vwn (planF S 0) 26 6) (vwn (planF S 0) 51 24) le3 ((planF S 0) 32) (bitF (planF S 0)) ((planF S 0) 0) ((planF S 0) 1) t ((planF S 0) 33) (-1) (nI 0)) from mo_eq rfl rfl rfl rfl rfl rfl rfl rfl rfl rfl rfl rfl rfl rfl rfl]) ?_
      refine ev_lv [2, 3, 1, 0] rfl ?_
      exact lp_18 (sn S 35 - 0 + 1) 0 tk3 le3 (nI 0) (by omega) (Nat.lt_succ_self _)
    · refine ev_aload_n hC dX11_done_11 rfl 0 rfl ?_
      refine ev_callV (As := []) (st := []) (wf := (List.flatten [RW G r3 8 (vwn S 90 8) (vwn S 98 8) p3 (nI (sn S 35)) pg1 pg2 pg3 pgc])) hC cv_X11_192 (m_X11_asItIs G ro x r1 r2 r3 r4 r5 d b1 b2 b3 hi S tk le T tk3 le3 os os3 t t3 wa st3 wa3 hW hO ) (by omega) rfl rfl (Nat.le_of_ble_eq_true rfl) (perm_sg (n := 4) [0, 2, 3, 1] rfl rfl (by decide)) (mw 0 rfl) rfl dX11_done_12 (by omega) (by omega) ?_
      rintro _ _ _ ⟨rfl, rfl, rfl⟩
      show Ev G X 0 0 15 [(0, .ref x), (1, .int (nI 1))] [.ref (b3 0)] (List.flatten [SP x r1 r2 r3 r4 r5 d b1 b2 b3 hi, MO G b1 (vwn S 2 6) tk os (vwn S 14 6) (vwn S 20 6) (vwn S 26 6) (vwn S 51 24) le (S 32) (bitF S) (S 0) (S 1) t (S 33) (-1) wa, MO G b3 (vwn S 2 6) tk3 (cpO 6 os os3) (vwn S 14 6) (vwn S 20 6) (vwn S 26 6) (vwn S 51 24) le3 (S 32) (bitF S) (S 0) (S 1) t (S 33) (-1) (nI 0), RW G r3 8 (vwn S 90 8) (vwn S 98 8) p3 (nI (sn S 35)) pg1 pg2 pg3 pgc]) ro
      refine ev_perm (ws' := (List.flatten [SP x r1 r2 r3 r4 r5 d b1 b2 b3 hi, RW G r3 8 (vwn S 90 8) (vwn S 98 8) p3 (nI (sn S 35)) pg1 pg2 pg3 pgc, MO G b1 (vwn S 2 6) tk os (vwn S 14 6) (vwn S 20 6) (vwn S 26 6) (vwn S 51 24) le (S 32) (bitF S) (S 0) (S 1) t (S 33) (-1) wa, MO G b3 (vwn S 2 6) tk3 (cpO 6 os os3) (vwn S 14 6) (vwn S 20 6) (vwn S 26 6) (vwn S 51 24) le3 (S 32) (bitF S) (S 0) (S 1) t (S 33) (-1) (nI 0)])) (perm_sg2 (n := 4) [0, 3, 1, 2] rfl rfl (by decide)) ?_
      have hO_8 := hO.os hW (os' := cpO 6 os os3) (fun p hp => if_pos hp)
      refine ev_astore_n (lv' := [(2, .ref (b3 0)), (0, .ref x), (1, .int (nI 1))]) hC dX11_done_15 rfl (by decide) rfl ?_
      refine ev_iconst (v := (nI 0)) hC dX11_done_16 (by decide) ?_
      refine ev_istore_n (lv' := [(3, .int (nI 0)), (2, .ref (b3 0)), (0, .ref x), (1, .int (nI 1))]) hC dX11_done_17 rfl (by decide) rfl ?_
      have lp_18 : ∀ (fu_18 : Nat) (k : Nat) (tk5 : Nat → Int32) (le5 : Nat → Int32) (wa5 : Int32) (hk : k ≤ sn S 35) (hn : sn S 35 - k < fu_18), Ev G X 0 0 18 [(0, .ref x), (1, .int (nI 1)), (2, .ref (b3 0)), (3, .int (nI k))] [] (List.flatten [SP x r1 r2 r3 r4 r5 d b1 b2 b3 hi, RW G r3 8 (vwn S 90 8) (vwn S 98 8) p3 (nI (sn S 35)) pg1 pg2 pg3 pgc, MO G b1 (vwn S 2 6) tk os (vwn S 14 6) (vwn S 20 6) (vwn S 26 6) (vwn S 51 24) le (S 32) (bitF S) (S 0) (S 1) t (S 33) (-1) wa, MO G b3 (vwn (planF S k) 2 6) tk5 (cpO 6 os os3) (vwn (planF S k) 14 6) (vwn (planF S k) 20 6) (vwn (planF S k) 26 6) (vwn (planF S k) 51 24) le5 ((planF S k) 32) (bitF (planF S k)) ((planF S k) 0) ((planF S k) 1) t ((planF S k) 33) (-1) wa5]) ro := by
        intro fu_18
        induction fu_18 with
        | zero => intro k tk5 le5 wa5 hk hn; exact absurd hn (Nat.not_lt_zero _)
        | succ fu_18 ih =>
          intro k tk5 le5 wa5 hk hn
          have hPF := planF_wf hW k (by omega) (by omega) (by omega)
          refine ev_iload_n hC dX11_done_18 rfl 3 rfl ?_
          refine ev_aload_n hC dX11_done_19 rfl 0 rfl ?_
          refine ev_get hC fl_X11_23_11 (mw 0 rfl) rfl dX11_done_20 ?_
          refine ev_callV (As := []) (st := [.int (nI k)]) (wf := (List.flatten [SP x r1 r2 r3 r4 r5 d b1 b2 b3 hi, MO G b1 (vwn S 2 6) tk os (vwn S 14 6) (vwn S 20 6) (vwn S 26 6) (vwn S 51 24) le (S 32) (bitF S) (S 0) (S 1) t (S 33) (-1) wa, MO G b3 (vwn (planF S k) 2 6) tk5 (cpO 6 os os3) (vwn (planF S k) 14 6) (vwn (planF S k) 20 6) (vwn (planF S k) 26 6) (vwn (planF S k) 51 24) le5 ((planF S k) 32) (bitF (planF S k)) ((planF S k) 0) ((planF S k) 1) t ((planF S k) 33) (-1) wa5])) hC cv_X11_242 (m_X7_kept G ro r3 8 (sn S 35) (vwn S 90 8) (vwn S 98 8) p3 pg1 pg2 pg3 pgc (by omega) (by omega)) (by omega) rfl rfl (Nat.le_of_ble_eq_true rfl) (perm_sg (n := 4) [1, 0, 2, 3] rfl rfl (by decide)) (mw 1 rfl) rfl dX11_done_23 (by omega) (by omega) ?_
          rintro _ _ _ ⟨rfl, rfl, rfl⟩
          show Ev G X 0 0 26 [(0, .ref x), (1, .int (nI 1)), (2, .ref (b3 0)), (3, .int (nI k))] [.int (nI (min (sn S 35) 8)), .int (nI k)] (List.flatten [RW G r3 8 (vwn S 90 8) (vwn S 98 8) p3 (nI (sn S 35)) pg1 pg2 pg3 pgc, SP x r1 r2 r3 r4 r5 d b1 b2 b3 hi, MO G b1 (vwn S 2 6) tk os (vwn S 14 6) (vwn S 20 6) (vwn S 26 6) (vwn S 51 24) le (S 32) (bitF S) (S 0) (S 1) t (S 33) (-1) wa, MO G b3 (vwn (planF S k) 2 6) tk5 (cpO 6 os os3) (vwn (planF S k) 14 6) (vwn (planF S k) 20 6) (vwn (planF S k) 26 6) (vwn (planF S k) 51 24) le5 ((planF S k) 32) (bitF (planF S k)) ((planF S k) 0) ((planF S k) 1) t ((planF S k) 33) (-1) wa5]) ro
          refine ev_perm (ws' := (List.flatten [SP x r1 r2 r3 r4 r5 d b1 b2 b3 hi, RW G r3 8 (vwn S 90 8) (vwn S 98 8) p3 (nI (sn S 35)) pg1 pg2 pg3 pgc, MO G b1 (vwn S 2 6) tk os (vwn S 14 6) (vwn S 20 6) (vwn S 26 6) (vwn S 51 24) le (S 32) (bitF S) (S 0) (S 1) t (S 33) (-1) wa, MO G b3 (vwn (planF S k) 2 6) tk5 (cpO 6 os os3) (vwn (planF S k) 14 6) (vwn (planF S k) 20 6) (vwn (planF S k) 26 6) (vwn (planF S k) 51 24) le5 ((planF S k) 32) (bitF (planF S k)) ((planF S k) 0) ((planF S k) 1) t ((planF S k) 33) (-1) wa5])) (perm_sg2 (n := 4) [1, 0, 2, 3] rfl rfl (by decide)) ?_
          refine ev_top (y := (nI (sn S 35))) (congrArg nI (by omega)) ?_
          refine ev_icmp_geN (tgt := 57) hC dX11_done_26 (by decide) (by omega) (by omega) (fun c_9 => ?_) (fun c_9 => ?_)
          · obtain rfl : k = sn S 35 := by omega
            have hs32 : sn (planF S (sn S 35)) 32 = sn S 32 := (planF_wf hW (sn S 35) (by omega) (by omega) (by omega)).2.sn (by omega)
            refine ev_iload_n hC dX11_done_57 rfl 1 rfl ?_
            refine ev_if_neN (tgt := 68) hC dX11_done_58 (by decide) (by omega) (fun c_10 => ?_) (fun c_10 => absurd c_10 (by omega))
            refine ev_aload_n hC dX11_done_68 rfl 2 rfl ?_
            refine ev_callV (As := []) (st := []) (wf := (List.flatten [SP x r1 r2 r3 r4 r5 d b1 b2 b3 hi, RW G r3 8 (vwn S 90 8) (vwn S 98 8) p3 (nI (sn S 35)) pg1 pg2 pg3 pgc, MO G b1 (vwn S 2 6) tk os (vwn S 14 6) (vwn S 20 6) (vwn S 26 6) (vwn S 51 24) le (S 32) (bitF S) (S 0) (S 1) t (S 33) (-1) wa])) hC cv_X11_179 (m_X3_allGrudge G ro b3 (planF S (sn S 35)) tk5 le5 (cpO 6 os os3) t (r5 0) (-1) wa5  (hPF.1)) (by omega) rfl rfl (Nat.le_of_ble_eq_true rfl) (perm_sg (n := 4) [3, 0, 1, 2] rfl rfl (by decide)) (mw 17 rfl) rfl dX11_done_69 (by omega) (by omega) ?_
            rintro _ _ _ ⟨rfl, rfl, rfl⟩
            show Ev G X 0 0 72 [(0, .ref x), (1, .int (nI 1)), (2, .ref (b3 0)), (3, .int (nI (sn S 35)))] [.int (gruF (planF S (sn S 35)) (sn (planF S (sn S 35)) 32))] (List.flatten [MO G b3 (vwn (planF S (sn S 35)) 2 6) tk5 (cpO 6 os os3) (vwn (planF S (sn S 35)) 14 6) (vwn (planF S (sn S 35)) 20 6) (vwn (planF S (sn S 35)) 26 6) (vwn (planF S (sn S 35)) 51 24) le5 ((planF S (sn S 35)) 32) (bitF (planF S (sn S 35))) ((planF S (sn S 35)) 0) ((planF S (sn S 35)) 1) t ((planF S (sn S 35)) 33) (-1) wa5, SP x r1 r2 r3 r4 r5 d b1 b2 b3 hi, RW G r3 8 (vwn S 90 8) (vwn S 98 8) p3 (nI (sn S 35)) pg1 pg2 pg3 pgc, MO G b1 (vwn S 2 6) tk os (vwn S 14 6) (vwn S 20 6) (vwn S 26 6) (vwn S 51 24) le (S 32) (bitF S) (S 0) (S 1) t (S 33) (-1) wa]) ro
            refine ev_perm (ws' := (List.flatten [SP x r1 r2 r3 r4 r5 d b1 b2 b3 hi, RW G r3 8 (vwn S 90 8) (vwn S 98 8) p3 (nI (sn S 35)) pg1 pg2 pg3 pgc, MO G b1 (vwn S 2 6) tk os (vwn S 14 6) (vwn S 20 6) (vwn S 26 6) (vwn S 51 24) le (S 32) (bitF S) (S 0) (S 1) t (S 33) (-1) wa, MO G b3 (vwn (planF S (sn S 35)) 2 6) tk5 (cpO 6 os os3) (vwn (planF S (sn S 35)) 14 6) (vwn (planF S (sn S 35)) 20 6) (vwn (planF S (sn S 35)) 26 6) (vwn (planF S (sn S 35)) 51 24) le5 ((planF S (sn S 35)) 32) (bitF (planF S (sn S 35))) ((planF S (sn S 35)) 0) ((planF S (sn S 35)) 1) t ((planF S (sn S 35)) 33) (-1) wa5])) (perm_sg2 (n := 4) [1, 2, 3, 0] rfl rfl (by decide)) ?_
            refine ev_iret hC hR rfl dX11_done_72 ?_
            have er : doneR S (nI 1) = (gruF (planF S (sn S 35)) (sn (planF S (sn S 35)) 32)) := by rw [doneR, if_pos (by assumption), if_neg (by decide), hs32]
            exact ⟨_, _, _, _, _, _, _, by rw [er], rfl, rfl⟩
          · have hw90 := (hW.pwhat k (by omega)).eq
            refine ev_aload_n hC dX11_done_29 rfl 2 rfl ?_
            refine ev_aload_n hC dX11_done_30 rfl 0 rfl ?_
            refine ev_get hC fl_X11_23_11 (mw 0 rfl) rfl dX11_done_31 ?_
            refine ev_get hC fl_X11_244_7 (mw 1 rfl) rfl dX11_done_34 ?_
            refine ev_iload_n hC dX11_done_37 rfl 3 rfl ?_
            refine ev_ialdN (i := k) hC (mw 2 rfl) (by omega) (by omega) dX11_done_38 ?_
            refine ev_top (y := (S (90 + k))) (vwn_at (by omega)) ?_
            refine ev_top (y := (nI (sn S (90 + k)))) (hW.pwhat k (by omega)).eq ?_
            refine ev_aload_n hC dX11_done_39 rfl 0 rfl ?_
            refine ev_get hC fl_X11_23_11 (mw 0 rfl) rfl dX11_done_40 ?_
            refine ev_get hC fl_X11_247_7 (mw 1 rfl) rfl dX11_done_43 ?_
            refine ev_iload_n hC dX11_done_46 rfl 3 rfl ?_
            refine ev_ialdN (i := k) hC (mw 3 rfl) (by omega) (by omega) dX11_done_47 ?_
            refine ev_top (y := (S (98 + k))) (vwn_at (by omega)) ?_
            have hx3 : ¬ sn S (90 + k) = 0 → ∃ j, j < 6 ∧ (sn S (90 + k) = 3 → j < sn (planF S k) 32) ∧ S (98 + k) = nI j := by rw [hPF.2.sn (by omega)]; exact plan_num3 hW (by omega)
            refine ev_callS (As := [.ref (b3 0), .int (nI (sn S (90 + k))), .int (S (98 + k))]) (st := []) (wf := (List.flatten [SP x r1 r2 r3 r4 r5 d b1 b2 b3 hi, RW G r3 8 (vwn S 90 8) (vwn S 98 8) p3 (nI (sn S 35)) pg1 pg2 pg3 pgc, MO G b1 (vwn S 2 6) tk os (vwn S 14 6) (vwn S 20 6) (vwn S 26 6) (vwn S 51 24) le (S 32) (bitF S) (S 0) (S 1) t (S 33) (-1) wa])) hC ct_X11_250 (m_X11_doRow G ro b3 (planF S k) tk5 le5 (cpO 6 os os3) t (r5 0) (-1) wa5 (sn S (90 + k)) (S (98 + k)) (hPF.1) (MoOK.hi hO_8 (hPF.2)) rfl (hW.pwhat k (by omega)).le hx3 (by omega) (by omega)) (by omega) rfl rfl (Nat.le_of_ble_eq_true rfl) (perm_sg (n := 4) [3, 0, 1, 2] rfl rfl (by decide)) dX11_done_48 (by omega) (by omega) ?_
            rintro _ _ _ ⟨tk_11, le_12, wa_13, rfl, rfl, rfl⟩
            show Ev G X 0 0 51 [(0, .ref x), (1, .int (nI 1)), (2, .ref (b3 0)), (3, .int (nI k))] [] (List.flatten [MO G b3 (vwn (doesF (planF S k) (nI (sn S (90 + k))) (S (98 + k))) 2 6) tk_11 (cpO 6 os os3) (vwn (doesF (planF S k) (nI (sn S (90 + k))) (S (98 + k))) 14 6) (vwn (doesF (planF S k) (nI (sn S (90 + k))) (S (98 + k))) 20 6) (vwn (doesF (planF S k) (nI (sn S (90 + k))) (S (98 + k))) 26 6) (vwn (doesF (planF S k) (nI (sn S (90 + k))) (S (98 + k))) 51 24) le_12 ((doesF (planF S k) (nI (sn S (90 + k))) (S (98 + k))) 32) (bitF (doesF (planF S k) (nI (sn S (90 + k))) (S (98 + k)))) ((doesF (planF S k) (nI (sn S (90 + k))) (S (98 + k))) 0) ((doesF (planF S k) (nI (sn S (90 + k))) (S (98 + k))) 1) t ((doesF (planF S k) (nI (sn S (90 + k))) (S (98 + k))) 33) (-1) wa_13, SP x r1 r2 r3 r4 r5 d b1 b2 b3 hi, RW G r3 8 (vwn S 90 8) (vwn S 98 8) p3 (nI (sn S 35)) pg1 pg2 pg3 pgc, MO G b1 (vwn S 2 6) tk os (vwn S 14 6) (vwn S 20 6) (vwn S 26 6) (vwn S 51 24) le (S 32) (bitF S) (S 0) (S 1) t (S 33) (-1) wa]) ro
            refine ev_perm (ws' := (List.flatten [SP x r1 r2 r3 r4 r5 d b1 b2 b3 hi, RW G r3 8 (vwn S 90 8) (vwn S 98 8) p3 (nI (sn S 35)) pg1 pg2 pg3 pgc, MO G b1 (vwn S 2 6) tk os (vwn S 14 6) (vwn S 20 6) (vwn S 26 6) (vwn S 51 24) le (S 32) (bitF S) (S 0) (S 1) t (S 33) (-1) wa, MO G b3 (vwn (doesF (planF S k) (nI (sn S (90 + k))) (S (98 + k))) 2 6) tk_11 (cpO 6 os os3) (vwn (doesF (planF S k) (nI (sn S (90 + k))) (S (98 + k))) 14 6) (vwn (doesF (planF S k) (nI (sn S (90 + k))) (S (98 + k))) 20 6) (vwn (doesF (planF S k) (nI (sn S (90 + k))) (S (98 + k))) 26 6) (vwn (doesF (planF S k) (nI (sn S (90 + k))) (S (98 + k))) 51 24) le_12 ((doesF (planF S k) (nI (sn S (90 + k))) (S (98 + k))) 32) (bitF (doesF (planF S k) (nI (sn S (90 + k))) (S (98 + k)))) ((doesF (planF S k) (nI (sn S (90 + k))) (S (98 + k))) 0) ((doesF (planF S k) (nI (sn S (90 + k))) (S (98 + k))) 1) t ((doesF (planF S k) (nI (sn S (90 + k))) (S (98 + k))) 33) (-1) wa_13])) (perm_sg2 (n := 4) [1, 2, 3, 0] rfl rfl (by decide)) ?_
            refine ev_iinc (v := (nI (k + 1))) (lv' := [(3, .int (nI (k + 1))), (0, .ref x), (1, .int (nI 1)), (2, .ref (b3 0))]) hC dX11_done_51 (q := 3) rfl (nI_k _ _ 1 (by decide)) (by decide) rfl ?_
            refine ev_goto (tgt := 18) hC dX11_done_54 (by decide) ?_
            refine ev_lv [1, 2, 3, 0] rfl ?_
            refine ev_ws (ws' := (List.flatten [SP x r1 r2 r3 r4 r5 d b1 b2 b3 hi, RW G r3 8 (vwn S 90 8) (vwn S 98 8) p3 (nI (sn S 35)) pg1 pg2 pg3 pgc, MO G b1 (vwn S 2 6) tk os (vwn S 14 6) (vwn S 20 6) (vwn S 26 6) (vwn S 51 24) le (S 32) (bitF S) (S 0) (S 1) t (S 33) (-1) wa, MO G b3 (vwn (planF S (k + 1)) 2 6) tk_11 (cpO 6 os os3) (vwn (planF S (k + 1)) 14 6) (vwn (planF S (k + 1)) 20 6) (vwn (planF S (k + 1)) 26 6) (vwn (planF S (k + 1)) 51 24) le_12 ((planF S (k + 1)) 32) (bitF (planF S (k + 1))) ((planF S (k + 1)) 0) ((planF S (k + 1)) 1) t ((planF S (k + 1)) 33) (-1) wa_13])) (by rw [show (MO G b3 (vwn (doesF (planF S k) (nI (sn S (90 + k))) (S (98 + k))) 2 6) tk_11 (cpO 6 os os3) (vwn (doesF (planF S k) (nI (sn S (90 + k))) (S (98 + k))) 14 6) (vwn (doesF (planF S k) (nI (sn S (90 + k))) (S (98 + k))) 20 6) (vwn (doesF (planF S k) (nI (sn S (90 + k))) (S (98 + k))) 26 6) (vwn (doesF (planF S k) (nI (sn S (90 + k))) (S (98 + k))) 51 24) le_12 ((doesF (planF S k) (nI (sn S (90 + k))) (S (98 + k))) 32) (bitF (doesF (planF S k) (nI (sn S (90 + k))) (S (98 + k)))) ((doesF (planF S k) (nI (sn S (90 + k))) (S (98 + k))) 0) ((doesF (planF S k) (nI (sn S (90 + k))) (S (98 + k))) 1) t ((doesF (planF S k) (nI (sn S (90 + k))) (S (98 + k))) 33) (-1) wa_13) = (MO G b3 (vwn (planF S (k + 1)) 2 6) tk_11 (cpO 6 os os3) (vwn (planF S (k + 1)) 14 6) (vwn (planF S (k + 1)) 20 6) (vwn (planF S (k + 1)) 26 6) (vwn (planF S (k + 1)) 51 24) le_12 ((planF S (k + 1)) 32) (bitF (planF S (k + 1))) ((planF S (k + 1)) 0) ((planF S (k + 1)) 1) t ((planF S (k + 1)) 33) (-1) wa_13) from mo_eq (by rw [planF, hw90]) rfl rfl (by rw [planF, hw90]) (by rw [planF, hw90]) (by rw [planF, hw90]) (by rw [planF, hw90]) rfl (by rw [planF, hw90]) (by rw [planF, hw90]) (by rw [planF, hw90]) (by rw [planF, hw90]) (by rw [planF, hw90]) rfl rfl]) ?_
            exact ih (k + 1) tk_11 le_12 wa_13 (by omega) (by omega)
      refine ev_ws (ws' := (List.flatten [SP x r1 r2 r3 r4 r5 d b1 b2 b3 hi, RW G r3 8 (vwn S 90 8) (vwn S 98 8) p3 (nI (sn S 35)) pg1 pg2 pg3 pgc, MO G b1 (vwn S 2 6) tk os (vwn S 14 6) (vwn S 20 6) (vwn S 26 6) (vwn S 51 24) le (S 32) (bitF S) (S 0) (S 1) t (S 33) (-1) wa, MO G b3 (vwn (planF S 0) 2 6) tk3 (cpO 6 os os3) (vwn (planF S 0) 14 6) (vwn (planF S 0) 20 6) (vwn (planF S 0) 26 6) (vwn (planF S 0) 51 24) le3 ((planF S 0) 32) (bitF (planF S 0)) ((planF S 0) 0) ((planF S 0) 1) t ((planF S 0) 33) (-1) (nI 0)])) (by rw [show (MO G b3 (vwn S 2 6) tk3 (cpO 6 os os3) (vwn S 14 6) (vwn S 20 6) (vwn S 26 6) (vwn S 51 24) le3 (S 32) (bitF S) (S 0) (S 1) t (S 33) (-1) (nI 0)) = (MO G b3 (vwn (planF S 0) 2 6) tk3 (cpO 6 os os3) (vwn (planF S 0) 14 6) (vwn (planF S 0) 20 6) (vwn (planF S 0) 26 6) (vwn (planF S 0) 51 24) le3 ((planF S 0) 32) (bitF (planF S 0)) ((planF S 0) 0) ((planF S 0) 1) t ((planF S 0) 33) (-1) (nI 0)) from mo_eq rfl rfl rfl rfl rfl rfl rfl rfl rfl rfl rfl rfl rfl rfl rfl]) ?_
      refine ev_lv [2, 3, 1, 0] rfl ?_
      exact lp_18 (sn S 35 - 0 + 1) 0 tk3 le3 (nI 0) (by omega) (Nat.lt_succ_self _)
  · refine ev_iconst (v := (-1)) hC dX11_done_9 (by decide) ?_
    refine ev_iret hC hR rfl dX11_done_10 ?_
    have er : doneR S w = (-1) := by rw [doneR, if_neg (by assumption)]
    exact ⟨_, _, _, _, _, _, _, by rw [er], rfl, rfl⟩
