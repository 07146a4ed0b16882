set_option maxHeartbeats 4000000 in
set_option maxRecDepth 100000 in
theorem m_X11_asItIs (G : GG) (ro : va_W) (x : Nat) (r1 r2 r3 r4 r5 d b1 b2 b3 : Nat → Nat) (hi : Int32) (S tk le T tk3 le3 : Nat → Int32) (os os3 : Nat → Option Nat) (t t3 : Nat) (wa st3 wa3 : Int32) {DD EE : Nat} (hW : WF S DD EE) (hO : MoOK G ro (r5 0) S os t) : Mth G M_X11_asItIs 2 0 0 [.ref x] (List.flatten [SP x r1 r2 r3 r4 r5 d b1 b2 b3 hi, MO G b1 (vwn S 2 6) tk os (vwn S 14 6) (vwn S 20 6) (vwn S 26 6) (vwn S 51 24) le (S 32) (bitF S) (S 0) (S 1) t (S 33) (-1) wa, MO G b3 (vwn T 2 6) tk3 os3 (vwn T 14 6) (vwn T 20 6) (vwn T 26 6) (vwn T 51 24) le3 (T 32) (bitF T) (T 0) (T 1) t3 (T 33) st3 wa3]) ro (fun r ws' ro' => r = some (.ref (b3 0)) ∧ ws' = (List.flatten [SP x r1 r2 r3 r4 r5 d b1 b2 b3 hi, MO G b1 (vwn S 2 6) tk os (vwn S 14 6) (vwn S 20 6) (vwn S 26 6) (vwn S 51 24) le (S 32) (bitF S) (S 0) (S 1) t (S 33) (-1) wa, MO G b3 (vwn S 2 6) tk3 (cpO 6 os os3) (vwn S 14 6) (vwn S 20 6) (vwn S 26 6) (vwn S 51 24) le3 (S 32) (bitF S) (S 0) (S 1) t (S 33) (-1) (nI 0)]) ∧ ro = ro') := by
  refine mth_of (by decide +kernel) (Nat.le_of_ble_eq_true rfl) (fun X hC hR => ?_)
  have b32 := hW.peo.le
  show Ev G X 0 0 0 [(0, .ref x)] [] (List.flatten [SP x r1 r2 r3 r4 r5 d b1 b2 b3 hi, MO G b1 (vwn S 2 6) tk os (vwn S 14 6) (vwn S 20 6) (vwn S 26 6) (vwn S 51 24) le (S 32) (bitF S) (S 0) (S 1) t (S 33) (-1) wa, MO G b3 (vwn T 2 6) tk3 os3 (vwn T 14 6) (vwn T 20 6) (vwn T 26 6) (vwn T 51 24) le3 (T 32) (bitF T) (T 0) (T 1) t3 (T 33) st3 wa3]) ro
  refine ev_aload_n hC dX11_asItIs_0 rfl 0 rfl ?_
  refine ev_get hC fl_X11_65_11 (mw 0 rfl) rfl dX11_asItIs_1 ?_
  refine ev_aload_n hC dX11_asItIs_4 rfl 0 rfl ?_
  refine ev_get hC fl_X11_58_11 (mw 0 rfl) rfl dX11_asItIs_5 ?_
  refine ev_callV (As := [.ref (b1 0)]) (st := []) (wf := (List.flatten [SP x r1 r2 r3 r4 r5 d b1 b2 b3 hi])) hC cv_X11_270 (m_X3_copyFrom G ro b3 b1 T S tk3 le3 tk le os3 os t3 t (r5 0) st3 wa3 (-1) wa hW hO) (by omega) rfl rfl (Nat.le_of_ble_eq_true rfl) (perm_sg (n := 3) [2, 1, 0] rfl rfl (by decide)) (mw 10 rfl) rfl dX11_asItIs_8 (by omega) (by omega) ?_
  rintro _ _ _ ⟨rfl, rfl, rfl⟩
  show Ev G X 0 0 11 [(0, .ref x)] [] (List.flatten [MO G b3 (vwn S 2 6) tk3 (cpO 6 os os3) (vwn S 14 6) (vwn S 20 6) (vwn S 26 6) (vwn S 51 24) le3 (S 32) (bitF S) (S 0) (S 1) t (S 33) (-1) (nI 0), MO G b1 (vwn S 2 6) tk os (vwn S 14 6) (vwn S 20 6) (vwn S 26 6) (vwn S 51 24) le (S 32) (bitF S) (S 0) (S 1) t (S 33) (-1) wa, SP x r1 r2 r3 r4 r5 d b1 b2 b3 hi]) ro
  refine ev_perm (ws' := (List.flatten [SP x r1 r2 r3 r4 r5 d b1 b2 b3 hi, MO G b1 (vwn S 2 6) tk os (vwn S 14 6) (vwn S 20 6) (vwn S 26 6) (vwn S 51 24) le (S 32) (bitF S) (S 0) (S 1) t (S 33) (-1) wa, MO G b3 (vwn S 2 6) tk3 (cpO 6 os os3) (vwn S 14 6) (vwn S 20 6) (vwn S 26 6) (vwn S 51 24) le3 (S 32) (bitF S) (S 0) (S 1) t (S 33) (-1) (nI 0)])) (perm_sg2 (n := 3) [2, 1, 0] rfl rfl (by decide)) ?_
  refine ev_aload_n hC dX11_asItIs_11 rfl 0 rfl ?_
  refine ev_get hC fl_X11_65_11 (mw 0 rfl) rfl dX11_asItIs_12 ?_
  refine ev_aret hC hR rfl (by first | exact Or.inl ⟨_, rfl⟩ | exact Or.inr ⟨_, rfl⟩) dX11_asItIs_15 ?_
  exact ⟨rfl, rfl, rfl⟩

set_option maxHeartbeats 4000000 in
set_option maxRecDepth 100000 in
theorem m_X11_asIfStill (G : GG) (ro : va_W) (x : Nat) (r1 r2 r3 r4 r5 d b1 b2 b3 : Nat → Nat) (hi : Int32) (S tk le T tk3 le3 : Nat → Int32) (os os3 : Nat → Option Nat) (t t3 : Nat) (wa st3 wa3 : Int32) (p : Nat) {DD EE : Nat} (hW : WF S DD EE) (hO : MoOK G ro (r5 0) S os t) : Mth G M_X11_asIfStill 2 0 0 [.ref x, .int (nI p)] (List.flatten [SP x r1 r2 r3 r4 r5 d b1 b2 b3 hi, MO G b1 (vwn S 2 6) tk os (vwn S 14 6) (vwn S 20 6) (vwn S 26 6) (vwn S 51 24) le (S 32) (bitF S) (S 0) (S 1) t (S 33) (-1) wa, MO G b3 (vwn T 2 6) tk3 os3 (vwn T 14 6) (vwn T 20 6) (vwn T 26 6) (vwn T 51 24) le3 (T 32) (bitF T) (T 0) (T 1) t3 (T 33) st3 wa3]) ro (fun r ws' ro' => r = some (.ref (b3 0)) ∧ ws' = (List.flatten [SP x r1 r2 r3 r4 r5 d b1 b2 b3 hi, MO G b1 (vwn S 2 6) tk os (vwn S 14 6) (vwn S 20 6) (vwn S 26 6) (vwn S 51 24) le (S 32) (bitF S) (S 0) (S 1) t (S 33) (-1) wa, MO G b3 (vwn S 2 6) tk3 (cpO 6 os os3) (vwn S 14 6) (vwn S 20 6) (vwn S 26 6) (vwn S 51 24) le3 (S 32) (bitF S) (S 0) (S 1) t (S 33) (nI p) (nI 0)]) ∧ ro = ro') := by
  refine mth_of (by decide +kernel) (Nat.le_of_ble_eq_true rfl) (fun X hC hR => ?_)
  have b32 := hW.peo.le
  show Ev G X 0 0 0 [(0, .ref x), (1, .int (nI p))] [] (List.flatten [SP x r1 r2 r3 r4 r5 d b1 b2 b3 hi, MO G b1 (vwn S 2 6) tk os (vwn S 14 6) (vwn S 20 6) (vwn S 26 6) (vwn S 51 24) le (S 32) (bitF S) (S 0) (S 1) t (S 33) (-1) wa, MO G b3 (vwn T 2 6) tk3 os3 (vwn T 14 6) (vwn T 20 6) (vwn T 26 6) (vwn T 51 24) le3 (T 32) (bitF T) (T 0) (T 1) t3 (T 33) st3 wa3]) ro
  refine ev_aload_n hC dX11_asIfStill_0 rfl 0 rfl ?_
  refine ev_get hC fl_X11_65_11 (mw 0 rfl) rfl dX11_asIfStill_1 ?_
  refine ev_aload_n hC dX11_asIfStill_4 rfl 0 rfl ?_
  refine ev_get hC fl_X11_58_11 (mw 0 rfl) rfl dX11_asIfStill_5 ?_
  refine ev_callV (As := [.ref (b1 0)]) (st := []) (wf := (List.flatten [SP x r1 r2 r3 r4 r5 d b1 b2 b3 hi])) hC cv_X11_270 (m_X3_copyFrom G ro b3 b1 T S tk3 le3 tk le os3 os t3 t (r5 0) st3 wa3 (-1) wa hW hO) (by omega) rfl rfl (Nat.le_of_ble_eq_true rfl) (perm_sg (n := 3) [2, 1, 0] rfl rfl (by decide)) (mw 10 rfl) rfl dX11_asIfStill_8 (by omega) (by omega) ?_
  rintro _ _ _ ⟨rfl, rfl, rfl⟩
  show Ev G X 0 0 11 [(0, .ref x), (1, .int (nI p))] [] (List.flatten [MO G b3 (vwn S 2 6) tk3 (cpO 6 os os3) (vwn S 14 6) (vwn S 20 6) (vwn S 26 6) (vwn S 51 24) le3 (S 32) (bitF S) (S 0) (S 1) t (S 33) (-1) (nI 0), MO G b1 (vwn S 2 6) tk os (vwn S 14 6) (vwn S 20 6) (vwn S 26 6) (vwn S 51 24) le (S 32) (bitF S) (S 0) (S 1) t (S 33) (-1) wa, SP x r1 r2 r3 r4 r5 d b1 b2 b3 hi]) ro
  refine ev_perm (ws' := (List.flatten [SP x r1 r2 r3 r4 r5 d b1 b2 b3 hi, MO G b1 (vwn S 2 6) tk os (vwn S 14 6) (vwn S 20 6) (vwn S 26 6) (vwn S 51 24) le (S 32) (bitF S) (S 0) (S 1) t (S 33) (-1) wa, MO G b3 (vwn S 2 6) tk3 (cpO 6 os os3) (vwn S 14 6) (vwn S 20 6) (vwn S 26 6) (vwn S 51 24) le3 (S 32) (bitF S) (S 0) (S 1) t (S 33) (-1) (nI 0)])) (perm_sg2 (n := 3) [2, 1, 0] rfl rfl (by decide)) ?_
  refine ev_aload_n hC dX11_asIfStill_11 rfl 0 rfl ?_
  refine ev_get hC fl_X11_65_11 (mw 0 rfl) rfl dX11_asIfStill_12 ?_
  refine ev_iload_n hC dX11_asIfStill_15 rfl 1 rfl ?_
  refine ev_put (ws' := (List.flatten [SP x r1 r2 r3 r4 r5 d b1 b2 b3 hi, MO G b1 (vwn S 2 6) tk os (vwn S 14 6) (vwn S 20 6) (vwn S 26 6) (vwn S 51 24) le (S 32) (bitF S) (S 0) (S 1) t (S 33) (-1) wa, MO G b3 (vwn S 2 6) tk3 (cpO 6 os os3) (vwn S 14 6) (vwn S 20 6) (vwn S 26 6) (vwn S 51 24) le3 (S 32) (bitF S) (S 0) (S 1) t (S 33) (nI p) (nI 0)])) (q0 := 10) hC fp_X11_283_3 rfl (Nat.le_of_ble_eq_true rfl) rfl rfl rfl dX11_asIfStill_16 ?_
  refine ev_aload_n hC dX11_asIfStill_19 rfl 0 rfl ?_
  refine ev_get hC fl_X11_65_11 (mw 0 rfl) rfl dX11_asIfStill_20 ?_
  refine ev_aret hC hR rfl (by first | exact Or.inl ⟨_, rfl⟩ | exact Or.inr ⟨_, rfl⟩) dX11_asIfStill_23 ?_
  exact ⟨rfl, rfl, rfl⟩

set_option maxHeartbeats 4000000 in
set_option maxRecDepth 100000 in
theorem m_X11_asIfAt (G : GG) (ro : va_W) (x : Nat) (r1 r2 r3 r4 r5 d b1 b2 b3 : Nat → Nat) (hi : Int32) (S tk le T tk3 le3 : Nat → Int32) (os os3 : Nat → Option Nat) (t t3 : Nat) (wa st3 wa3 : Int32) (p k : Nat) {DD EE : Nat} (hW : WF S DD EE) (hO : MoOK G ro (r5 0) S os t) (hp : p < 6) : Mth G M_X11_asIfAt 2 0 0 [.ref x, .int (nI p), .int (nI k)] (List.flatten [SP x r1 r2 r3 r4 r5 d b1 b2 b3 hi, MO G b1 (vwn S 2 6) tk os (vwn S 14 6) (vwn S 20 6) (vwn S 26 6) (vwn S 51 24) le (S 32) (bitF S) (S 0) (S 1) t (S 33) (-1) wa, MO G b3 (vwn T 2 6) tk3 os3 (vwn T 14 6) (vwn T 20 6) (vwn T 26 6) (vwn T 51 24) le3 (T 32) (bitF T) (T 0) (T 1) t3 (T 33) st3 wa3]) ro (fun r ws' ro' => r = some (.ref (b3 0)) ∧ ws' = (List.flatten [SP x r1 r2 r3 r4 r5 d b1 b2 b3 hi, MO G b1 (vwn S 2 6) tk os (vwn S 14 6) (vwn S 20 6) (vwn S 26 6) (vwn S 51 24) le (S 32) (bitF S) (S 0) (S 1) t (S 33) (-1) wa, MO G b3 (vwn (upd S (14 + p) (nI k)) 2 6) tk3 (cpO 6 os os3) (vwn (upd S (14 + p) (nI k)) 14 6) (vwn (upd S (14 + p) (nI k)) 20 6) (vwn (upd S (14 + p) (nI k)) 26 6) (vwn (upd S (14 + p) (nI k)) 51 24) le3 ((upd S (14 + p) (nI k)) 32) (bitF (upd S (14 + p) (nI k))) ((upd S (14 + p) (nI k)) 0) ((upd S (14 + p) (nI k)) 1) t ((upd S (14 + p) (nI k)) 33) (-1) (nI 0)]) ∧ ro = ro') := by
  refine mth_of (by decide +kernel) (Nat.le_of_ble_eq_true rfl) (fun X hC hR => ?_)
  have b32 := hW.peo.le
  show Ev G X 0 0 0 [(0, .ref x), (1, .int (nI p)), (2, .int (nI k))] [] (List.flatten [SP x r1 r2 r3 r4 r5 d b1 b2 b3 hi, MO G b1 (vwn S 2 6) tk os (vwn S 14 6) (vwn S 20 6) (vwn S 26 6) (vwn S 51 24) le (S 32) (bitF S) (S 0) (S 1) t (S 33) (-1) wa, MO G b3 (vwn T 2 6) tk3 os3 (vwn T 14 6) (vwn T 20 6) (vwn T 26 6) (vwn T 51 24) le3 (T 32) (bitF T) (T 0) (T 1) t3 (T 33) st3 wa3]) ro
  refine ev_aload_n hC dX11_asIfAt_0 rfl 0 rfl ?_
  refine ev_get hC fl_X11_65_11 (mw 0 rfl) rfl dX11_asIfAt_1 ?_
  refine ev_aload_n hC dX11_asIfAt_4 rfl 0 rfl ?_
  refine ev_get hC fl_X11_58_11 (mw 0 rfl) rfl dX11_asIfAt_5 ?_
  refine ev_callV (As := [.ref (b1 0)]) (st := []) (wf := (List.flatten [SP x r1 r2 r3 r4 r5 d b1 b2 b3 hi])) hC cv_X11_270 (m_X3_copyFrom G ro b3 b1 T S tk3 le3 tk le os3 os t3 t (r5 0) st3 wa3 (-1) wa hW hO) (by omega) rfl rfl (Nat.le_of_ble_eq_true rfl) (perm_sg (n := 3) [2, 1, 0] rfl rfl (by decide)) (mw 10 rfl) rfl dX11_asIfAt_8 (by omega) (by omega) ?_
  rintro _ _ _ ⟨rfl, rfl, rfl⟩
  show Ev G X 0 0 11 [(0, .ref x), (1, .int (nI p)), (2, .int (nI k))] [] (List.flatten [MO G b3 (vwn S 2 6) tk3 (cpO 6 os os3) (vwn S 14 6) (vwn S 20 6) (vwn S 26 6) (vwn S 51 24) le3 (S 32) (bitF S) (S 0) (S 1) t (S 33) (-1) (nI 0), MO G b1 (vwn S 2 6) tk os (vwn S 14 6) (vwn S 20 6) (vwn S 26 6) (vwn S 51 24) le (S 32) (bitF S) (S 0) (S 1) t (S 33) (-1) wa, SP x r1 r2 r3 r4 r5 d b1 b2 b3 hi]) ro
  refine ev_perm (ws' := (List.flatten [SP x r1 r2 r3 r4 r5 d b1 b2 b3 hi, MO G b1 (vwn S 2 6) tk os (vwn S 14 6) (vwn S 20 6) (vwn S 26 6) (vwn S 51 24) le (S 32) (bitF S) (S 0) (S 1) t (S 33) (-1) wa, MO G b3 (vwn S 2 6) tk3 (cpO 6 os os3) (vwn S 14 6) (vwn S 20 6) (vwn S 26 6) (vwn S 51 24) le3 (S 32) (bitF S) (S 0) (S 1) t (S 33) (-1) (nI 0)])) (perm_sg2 (n := 3) [2, 1, 0] rfl rfl (by decide)) ?_
  refine ev_aload_n hC dX11_asIfAt_11 rfl 0 rfl ?_
  refine ev_get hC fl_X11_65_11 (mw 0 rfl) rfl dX11_asIfAt_12 ?_
  refine ev_get hC fl_X11_131_3 (mw 10 rfl) rfl dX11_asIfAt_15 ?_
  refine ev_iload_n hC dX11_asIfAt_18 rfl 1 rfl ?_
  refine ev_iload_n hC dX11_asIfAt_19 rfl 2 rfl ?_
  refine ev_iastN (i := p) (ws' := (List.flatten [SP x r1 r2 r3 r4 r5 d b1 b2 b3 hi, MO G b1 (vwn S 2 6) tk os (vwn S 14 6) (vwn S 20 6) (vwn S 26 6) (vwn S 51 24) le (S 32) (bitF S) (S 0) (S 1) t (S 33) (-1) wa, MO G b3 (vwn S 2 6) tk3 (cpO 6 os os3) (upd (vwn S 14 6) p (nI k)) (vwn S 20 6) (vwn S 26 6) (vwn S 51 24) le3 (S 32) (bitF S) (S 0) (S 1) t (S 33) (-1) (nI 0)])) (q0 := 14) hC rfl (by omega) (by omega) rfl dX11_asIfAt_20 ?_
  refine ev_ws (ws' := (List.flatten [SP x r1 r2 r3 r4 r5 d b1 b2 b3 hi, MO G b1 (vwn S 2 6) tk os (vwn S 14 6) (vwn S 20 6) (vwn S 26 6) (vwn S 51 24) le (S 32) (bitF S) (S 0) (S 1) t (S 33) (-1) wa, MO G b3 (vwn (upd S (14 + p) (nI k)) 2 6) tk3 (cpO 6 os os3) (vwn (upd S (14 + p) (nI k)) 14 6) (vwn (upd S (14 + p) (nI k)) 20 6) (vwn (upd S (14 + p) (nI k)) 26 6) (vwn (upd S (14 + p) (nI k)) 51 24) le3 ((upd S (14 + p) (nI k)) 32) (bitF (upd S (14 + p) (nI k))) ((upd S (14 + p) (nI k)) 0) ((upd S (14 + p) (nI k)) 1) t ((upd S (14 + p) (nI k)) 33) (-1) (nI 0)])) (by rw [show (MO G b3 (vwn S 2 6) tk3 (cpO 6 os os3) (upd (vwn S 14 6) p (nI k)) (vwn S 20 6) (vwn S 26 6) (vwn S 51 24) le3 (S 32) (bitF S) (S 0) (S 1) t (S 33) (-1) (nI 0)) = (MO G b3 (vwn (upd S (14 + p) (nI k)) 2 6) tk3 (cpO 6 os os3) (vwn (upd S (14 + p) (nI k)) 14 6) (vwn (upd S (14 + p) (nI k)) 20 6) (vwn (upd S (14 + p) (nI k)) 26 6) (vwn (upd S (14 + p) (nI k)) 51 24) le3 ((upd S (14 + p) (nI k)) 32) (bitF (upd S (14 + p) (nI k))) ((upd S (14 + p) (nI k)) 0) ((upd S (14 + p) (nI k)) 1) t ((upd S (14 + p) (nI k)) 33) (-1) (nI 0)) from mo_eq (by rw [vwn_ne (o := 2) (n := 6) (by omega)]) rfl rfl (by rw [← vwn_upd (by omega)]) (by rw [vwn_ne (o := 20) (n := 6) (by omega)]) (by rw [vwn_ne (o := 26) (n := 6) (by omega)]) (by rw [vwn_ne (o := 51) (n := 24) (by omega)]) rfl (by rw [upd_ne _ _ (by omega)]) (by rw [bitF_ne (by omega)]) (by rw [upd_ne _ _ (by omega)]) (by rw [upd_ne _ _ (by omega)]) (by rw [upd_ne _ _ (by omega)]) rfl rfl]) ?_
  refine ev_aload_n hC dX11_asIfAt_21 rfl 0 rfl ?_
  refine ev_get hC fl_X11_65_11 (mw 0 rfl) rfl dX11_asIfAt_22 ?_
  refine ev_aret hC hR rfl (by first | exact Or.inl ⟨_, rfl⟩ | exact Or.inr ⟨_, rfl⟩) dX11_asIfAt_25 ?_
  exact ⟨rfl, rfl, rfl⟩

set_option maxHeartbeats 4000000 in
set_option maxRecDepth 100000 in
theorem m_X11_after (G : GG) (ro : va_W) (x : Nat) (r1 r2 r3 r4 r5 d b1 b2 b3 : Nat → Nat) (hi : Int32) (S tk le T tk3 le3 : Nat → Int32) (os os3 : Nat → Option Nat) (t t3 : Nat) (wa st3 wa3 : Int32) (n : Nat) {DD EE : Nat} (hW : WF S DD EE) (hO : MoOK G ro (r5 0) S os t) (hD : DD + n < 2 ^ 31) (hE : EE + 168 * n < 2 ^ 31) (hn0 : n ≤ 1000) : Mth G M_X11_after 7 0 0 [.ref x, .int (nI n)] (List.flatten [SP x r1 r2 r3 r4 r5 d b1 b2 b3 hi, MO G b1 (vwn S 2 6) tk os (vwn S 14 6) (vwn S 20 6) (vwn S 26 6) (vwn S 51 24) le (S 32) (bitF S) (S 0) (S 1) t (S 33) (-1) wa, MO G b3 (vwn T 2 6) tk3 os3 (vwn T 14 6) (vwn T 20 6) (vwn T 26 6) (vwn T 51 24) le3 (T 32) (bitF T) (T 0) (T 1) t3 (T 33) st3 wa3]) ro (fun r ws' ro' => ∃ (tk' : Nat → Int32), ∃ (le' : Nat → Int32), (n = 1 → ∀ j, j < 6 → tk' j = taF (-1) (g1F S (sn S 32)) (sn S 32) j) ∧ r = some (.ref (b3 0)) ∧ ws' = (List.flatten [SP x r1 r2 r3 r4 r5 d b1 b2 b3 hi, MO G b1 (vwn S 2 6) tk os (vwn S 14 6) (vwn S 20 6) (vwn S 26 6) (vwn S 51 24) le (S 32) (bitF S) (S 0) (S 1) t (S 33) (-1) wa, MO G b3 (vwn (gosF (-1) S n) 2 6) tk' (cpO 6 os os3) (vwn (gosF (-1) S n) 14 6) (vwn (gosF (-1) S n) 20 6) (vwn (gosF (-1) S n) 26 6) (vwn (gosF (-1) S n) 51 24) le' ((gosF (-1) S n) 32) (bitF (gosF (-1) S n)) ((gosF (-1) S n) 0) ((gosF (-1) S n) 1) t ((gosF (-1) S n) 33) (-1) (raF (-1) S (nI 0) n)]) ∧ ro = ro') := by
  refine mth_of (by decide +kernel) (Nat.le_of_ble_eq_true rfl) (fun X hC hR => ?_)
  have b32 := hW.peo.le
  have hO3 := hO.os hW (os' := cpO 6 os os3) (fun p hp => if_pos hp)
  show Ev G X 0 0 0 [(0, .ref x), (1, .int (nI n))] [] (List.flatten [SP x r1 r2 r3 r4 r5 d b1 b2 b3 hi, MO G b1 (vwn S 2 6) tk os (vwn S 14 6) (vwn S 20 6) (vwn S 26 6) (vwn S 51 24) le (S 32) (bitF S) (S 0) (S 1) t (S 33) (-1) wa, MO G b3 (vwn T 2 6) tk3 os3 (vwn T 14 6) (vwn T 20 6) (vwn T 26 6) (vwn T 51 24) le3 (T 32) (bitF T) (T 0) (T 1) t3 (T 33) st3 wa3]) ro
  refine ev_aload_n hC dX11_after_0 rfl 0 rfl ?_
  refine ev_get hC fl_X11_65_11 (mw 0 rfl) rfl dX11_after_1 ?_
  refine ev_aload_n hC dX11_after_4 rfl 0 rfl ?_
  refine ev_get hC fl_X11_58_11 (mw 0 rfl) rfl dX11_after_5 ?_
  refine ev_callV (As := [.ref (b1 0)]) (st := []) (wf := (List.flatten [SP x r1 r2 r3 r4 r5 d b1 b2 b3 hi])) hC cv_X11_270 (m_X3_copyFrom G ro b3 b1 T S tk3 le3 tk le os3 os t3 t (r5 0) st3 wa3 (-1) wa hW hO) (by omega) rfl rfl (Nat.le_of_ble_eq_true rfl) (perm_sg (n := 3) [2, 1, 0] rfl rfl (by decide)) (mw 10 rfl) rfl dX11_after_8 (by omega) (by omega) ?_
  rintro _ _ _ ⟨rfl, rfl, rfl⟩
  show Ev G X 0 0 11 [(0, .ref x), (1, .int (nI n))] [] (List.flatten [MO G b3 (vwn S 2 6) tk3 (cpO 6 os os3) (vwn S 14 6) (vwn S 20 6) (vwn S 26 6) (vwn S 51 24) le3 (S 32) (bitF S) (S 0) (S 1) t (S 33) (-1) (nI 0), MO G b1 (vwn S 2 6) tk os (vwn S 14 6) (vwn S 20 6) (vwn S 26 6) (vwn S 51 24) le (S 32) (bitF S) (S 0) (S 1) t (S 33) (-1) wa, SP x r1 r2 r3 r4 r5 d b1 b2 b3 hi]) ro
  refine ev_perm (ws' := (List.flatten [SP x r1 r2 r3 r4 r5 d b1 b2 b3 hi, MO G b1 (vwn S 2 6) tk os (vwn S 14 6) (vwn S 20 6) (vwn S 26 6) (vwn S 51 24) le (S 32) (bitF S) (S 0) (S 1) t (S 33) (-1) wa, MO G b3 (vwn S 2 6) tk3 (cpO 6 os os3) (vwn S 14 6) (vwn S 20 6) (vwn S 26 6) (vwn S 51 24) le3 (S 32) (bitF S) (S 0) (S 1) t (S 33) (-1) (nI 0)])) (perm_sg2 (n := 3) [2, 1, 0] rfl rfl (by decide)) ?_
  refine ev_aload_n hC dX11_after_11 rfl 0 rfl ?_
  refine ev_get hC fl_X11_65_11 (mw 0 rfl) rfl dX11_after_12 ?_
  refine ev_iload_n hC dX11_after_15 rfl 1 rfl ?_
  refine ev_callV (As := [.int (nI n)]) (st := []) (wf := (List.flatten [SP x r1 r2 r3 r4 r5 d b1 b2 b3 hi, MO G b1 (vwn S 2 6) tk os (vwn S 14 6) (vwn S 20 6) (vwn S 26 6) (vwn S 51 24) le (S 32) (bitF S) (S 0) (S 1) t (S 33) (-1) wa])) hC cv_X11_182 (m_X3_goDays G ro b3 S tk3 le3 (cpO 6 os os3) t (r5 0) (-1) (nI 0) n hW hO3 (by omega) (by omega) (by omega)) (by omega) rfl rfl (Nat.le_of_ble_eq_true rfl) (perm_sg (n := 3) [2, 0, 1] rfl rfl (by decide)) (mw 10 rfl) rfl dX11_after_16 (by omega) (by omega) ?_
  rintro _ _ _ ⟨tk_1, le_2, hK_3, rfl, rfl, rfl⟩
  show Ev G X 0 0 19 [(0, .ref x), (1, .int (nI n))] [] (List.flatten [MO G b3 (vwn (gosF (-1) S n) 2 6) tk_1 (cpO 6 os os3) (vwn (gosF (-1) S n) 14 6) (vwn (gosF (-1) S n) 20 6) (vwn (gosF (-1) S n) 26 6) (vwn (gosF (-1) S n) 51 24) le_2 ((gosF (-1) S n) 32) (bitF (gosF (-1) S n)) ((gosF (-1) S n) 0) ((gosF (-1) S n) 1) t ((gosF (-1) S n) 33) (-1) (raF (-1) S (nI 0) n), SP x r1 r2 r3 r4 r5 d b1 b2 b3 hi, MO G b1 (vwn S 2 6) tk os (vwn S 14 6) (vwn S 20 6) (vwn S 26 6) (vwn S 51 24) le (S 32) (bitF S) (S 0) (S 1) t (S 33) (-1) wa]) ro
  refine ev_perm (ws' := (List.flatten [SP x r1 r2 r3 r4 r5 d b1 b2 b3 hi, MO G b1 (vwn S 2 6) tk os (vwn S 14 6) (vwn S 20 6) (vwn S 26 6) (vwn S 51 24) le (S 32) (bitF S) (S 0) (S 1) t (S 33) (-1) wa, MO G b3 (vwn (gosF (-1) S n) 2 6) tk_1 (cpO 6 os os3) (vwn (gosF (-1) S n) 14 6) (vwn (gosF (-1) S n) 20 6) (vwn (gosF (-1) S n) 26 6) (vwn (gosF (-1) S n) 51 24) le_2 ((gosF (-1) S n) 32) (bitF (gosF (-1) S n)) ((gosF (-1) S n) 0) ((gosF (-1) S n) 1) t ((gosF (-1) S n) 33) (-1) (raF (-1) S (nI 0) n)])) (perm_sg2 (n := 3) [1, 2, 0] rfl rfl (by decide)) ?_
  refine ev_aload_n hC dX11_after_19 rfl 0 rfl ?_
  refine ev_get hC fl_X11_65_11 (mw 0 rfl) rfl dX11_after_20 ?_
  refine ev_aret hC hR rfl (by first | exact Or.inl ⟨_, rfl⟩ | exact Or.inr ⟨_, rfl⟩) dX11_after_23 ?_
  exact ⟨_, _, hK_3, rfl, rfl, rfl⟩

set_option maxHeartbeats 4000000 in
set_option maxRecDepth 100000 in
theorem m_X11_daysLasting (G : GG) (ro : va_W) (b : Nat → Nat) (S tk le : Nat → Int32) (os : Nat → Option Nat) (t tc : Nat) (mu wa : Int32)  {DD EE : Nat} (hW : WF S DD EE) (hO : MoOK G ro tc S os t) (hD : DD + 100 < 2 ^ 31) (hE : EE + 168 * 100 < 2 ^ 31) : Mth G M_X11_daysLasting 6 0 0 [.ref (b 0)] (MO G b (vwn S 2 6) tk os (vwn S 14 6) (vwn S 20 6) (vwn S 26 6) (vwn S 51 24) le (S 32) (bitF S) (S 0) (S 1) t (S 33) mu wa) ro (fun r ws' ro' => ∃ (S' : Nat → Int32), ∃ (tk' : Nat → Int32), ∃ (le' : Nat → Int32), ∃ (wa' : Int32), r = some (.int (nI (warF mu S))) ∧ ws' = (MO G b (vwn S' 2 6) tk' os (vwn S' 14 6) (vwn S' 20 6) (vwn S' 26 6) (vwn S' 51 24) le' (S' 32) (bitF S') (S' 0) (S' 1) t (S' 33) mu wa') ∧ ro = ro') := by
  refine mth_of (by decide +kernel) (Nat.le_of_ble_eq_true rfl) (fun X hC hR => ?_)
  have b32 := hW.peo.le
  show Ev G X 0 0 0 [(0, .ref (b 0))] [] (MO G b (vwn S 2 6) tk os (vwn S 14 6) (vwn S 20 6) (vwn S 26 6) (vwn S 51 24) le (S 32) (bitF S) (S 0) (S 1) t (S 33) mu wa) ro
  refine ev_iconst (v := (nI 0)) hC dX11_daysLasting_0 (by decide) ?_
  refine ev_istore_n (lv' := [(1, .int (nI 0)), (0, .ref (b 0))]) hC dX11_daysLasting_1 rfl (by decide) rfl ?_
  have lp_2 : ∀ (fu_2 : Nat) (n : Nat) (tk : Nat → Int32) (le : Nat → Int32) (wa : Int32) (hn1 : n ≤ 100) (hw : warN mu S 100 = n + warN mu (gosF mu S n) (100 - n)) (hn : 101 - n < fu_2), Ev G X 0 0 2 [(0, .ref (b 0)), (1, .int (nI n))] [] (MO G b (vwn (gosF mu S n) 2 6) tk os (vwn (gosF mu S n) 14 6) (vwn (gosF mu S n) 20 6) (vwn (gosF mu S n) 26 6) (vwn (gosF mu S n) 51 24) le ((gosF mu S n) 32) (bitF (gosF mu S n)) ((gosF mu S n) 0) ((gosF mu S n) 1) t ((gosF mu S n) 33) mu wa) ro := by
    intro fu_2
    induction fu_2 with
    | zero => intro n tk le wa hn1 hw hn; exact absurd hn (Nat.not_lt_zero _)
    | succ fu_2 ih =>
      intro n tk le wa hn1 hw hn
      refine ev_iload_n hC dX11_daysLasting_2 rfl 1 rfl ?_
      refine ev_bipush (v := (nI 99)) hC dX11_daysLasting_3 (by decide) ?_
      refine ev_icmp_gtN (tgt := 27) hC dX11_daysLasting_5 (by decide) (by omega) (by omega) (fun c_1 => ?_) (fun c_1 => ?_)
      · refine ev_bipush (v := (nI 100)) hC dX11_daysLasting_27 (by decide) ?_
        refine ev_iret hC hR rfl dX11_daysLasting_29 ?_
        obtain rfl : n = 100 := by omega
        have e1 : warF mu S = 100 := hw
        exact ⟨_, _, _, _, by rw [e1], rfl, rfl⟩
      · refine ev_aload_n hC dX11_daysLasting_8 rfl 0 rfl ?_
        refine ev_get hC fl_X11_173_3 (mw 0 rfl) rfl dX11_daysLasting_9 ?_
        refine ev_if_eq (tgt := 17) hC dX11_daysLasting_12 (by decide) (fun c_2 => ?_) (fun c_2 => ?_)
        · refine ev_aload_n hC dX11_daysLasting_17 rfl 0 rfl ?_
          refine ev_callV (As := []) (st := []) (wf := []) hC cv_X11_216 (m_X3_goDay G ro b (gosF mu S n) tk le os t tc mu wa ((gosF_wf mu hW n (by omega) (by omega)).1) (MoOK.hi hO (Hi.tr Hi.rf (gosF_wf mu hW n (by omega) (by omega)).2)) (by omega) (by omega)) (by omega) rfl rfl (Nat.le_of_ble_eq_true rfl) (List.Perm.of_eq (List.append_nil _).symm) (mw 0 rfl) rfl dX11_daysLasting_18 (by omega) (by omega) ?_
          rintro _ _ _ ⟨tk_3, le_4, hK_5, rfl, rfl, rfl⟩
          refine ev_ws (List.append_nil _) ?_
          show Ev G X 0 0 21 [(0, .ref (b 0)), (1, .int (nI n))] [] (MO G b (vwn (goF mu (gosF mu S n)) 2 6) tk_3 os (vwn (goF mu (gosF mu S n)) 14 6) (vwn (goF mu (gosF mu S n)) 20 6) (vwn (goF mu (gosF mu S n)) 26 6) (vwn (goF mu (gosF mu S n)) 51 24) le_4 ((goF mu (gosF mu S n)) 32) (bitF (goF mu (gosF mu S n))) ((goF mu (gosF mu S n)) 0) ((goF mu (gosF mu S n)) 1) t ((goF mu (gosF mu S n)) 33) mu (rsF (alF mu (gosF mu S n)) wa 6)) ro
          refine ev_iinc (v := (nI (n + 1))) (lv' := [(1, .int (nI (n + 1))), (0, .ref (b 0))]) hC dX11_daysLasting_21 (q := 1) rfl (nI_k _ _ 1 (by decide)) (by decide) rfl ?_
          refine ev_goto (tgt := 2) hC dX11_daysLasting_24 (by decide) ?_
          refine ev_lv [1, 0] rfl ?_
          refine ev_ws (ws' := (MO G b (vwn (gosF mu S (n + 1)) 2 6) tk_3 os (vwn (gosF mu S (n + 1)) 14 6) (vwn (gosF mu S (n + 1)) 20 6) (vwn (gosF mu S (n + 1)) 26 6) (vwn (gosF mu S (n + 1)) 51 24) le_4 ((gosF mu S (n + 1)) 32) (bitF (gosF mu S (n + 1))) ((gosF mu S (n + 1)) 0) ((gosF mu S (n + 1)) 1) t ((gosF mu S (n + 1)) 33) mu (rsF (alF mu (gosF mu S n)) wa 6))) (mo_eq rfl rfl rfl rfl rfl rfl rfl rfl rfl rfl rfl rfl rfl rfl rfl) ?_
          exact ih (n + 1) tk_3 le_4 (rsF (alF mu (gosF mu S n)) wa 6) (by omega) (by rw [hw, warN_go (by assumption) (by omega), gosF, show 100 - (n + 1) = 100 - n - 1 by omega]; omega) (by omega)
        · refine ev_iload_n hC dX11_daysLasting_15 rfl 1 rfl ?_
          refine ev_iret hC hR rfl dX11_daysLasting_16 ?_
          have e1 : warF mu S = n := by
            unfold warF
            rw [hw]
            first
            | rw [warN_stop (by assumption)]; rfl
            | (rw [show 100 - n = 0 by omega]; rfl)
          exact ⟨_, _, _, _, by rw [e1], rfl, rfl⟩
  refine ev_ws (ws' := (MO G b (vwn (gosF mu S 0) 2 6) tk os (vwn (gosF mu S 0) 14 6) (vwn (gosF mu S 0) 20 6) (vwn (gosF mu S 0) 26 6) (vwn (gosF mu S 0) 51 24) le ((gosF mu S 0) 32) (bitF (gosF mu S 0)) ((gosF mu S 0) 0) ((gosF mu S 0) 1) t ((gosF mu S 0) 33) mu wa)) (mo_eq rfl rfl rfl rfl rfl rfl rfl rfl rfl rfl rfl rfl rfl rfl rfl) ?_
  refine ev_lv [1, 0] rfl ?_
  exact lp_2 (101 - 0 + 1) 0 tk le wa (by omega) (Nat.zero_add _).symm (Nat.lt_succ_self _)

theorem seenF_f {S : Nat → Int32} {n m : Nat} (h : ¬ seenF S n m = true) : ∀ k, m ≤ k → ¬ seenF S n k = true
  | 0, hm => by obtain rfl : m = 0 := by omega
                exact h
  | k + 1, hm => by
    rcases Nat.lt_or_ge k m with c | c
    · obtain rfl : m = k + 1 := by omega
      exact h
    · rw [seenF]
      intro e
      exact seenF_f h k c (Bool.and_eq_true_iff.mp e).1

set_option maxHeartbeats 4000000 in
set_option maxRecDepth 100000 in
theorem m_X11_isSeenAfter (G : GG) (ro : va_W) (x : Nat) (r1 r2 r3 r4 r5 d b1 b2 b3 : Nat → Nat) (hi : Int32) (b : Nat → Nat) (S Q tk le g1 g2 g3 : Nat → Int32) (os : Nat → Option Nat) (t : Nat) (mu wa gc : Int32) (n : Nat) {DD EE : Nat} (hW : WF S DD EE) (hQ : ∀ j, 75 ≤ j → j < 90 → Q j = S j) (hQ4 : Q 34 = S 34) (hn31 : n < 2 ^ 31) : Mth G M_X11_isSeenAfter 2 0 0 [.ref x, .ref (b 0), .int (nI n)] (List.flatten [SP x r1 r2 r3 r4 r5 d b1 b2 b3 hi, RW G r2 5 (vwn Q 75 5) (vwn Q 80 5) (vwn Q 85 5) (nI (sn Q 34)) g1 g2 g3 gc, MO G b (vwn S 2 6) tk os (vwn S 14 6) (vwn S 20 6) (vwn S 26 6) (vwn S 51 24) le (S 32) (bitF S) (S 0) (S 1) t (S 33) mu wa]) ro (fun r ws' ro' => r = some (.int (bI (seenF S n (sn S 34) = true))) ∧ ws' = (List.flatten [SP x r1 r2 r3 r4 r5 d b1 b2 b3 hi, RW G r2 5 (vwn Q 75 5) (vwn Q 80 5) (vwn Q 85 5) (nI (sn Q 34)) g1 g2 g3 gc, MO G b (vwn S 2 6) tk os (vwn S 14 6) (vwn S 20 6) (vwn S 26 6) (vwn S 51 24) le (S 32) (bitF S) (S 0) (S 1) t (S 33) mu wa]) ∧ ro = ro') := by
  refine mth_of (by decide +kernel) (Nat.le_of_ble_eq_true rfl) (fun X hC hR => ?_)
  have b32 := hW.peo.le
  have b34 := hW.seen.le
  have q34 : sn Q 34 = sn S 34 := sn_congr hQ4
  show Ev G X 0 0 0 [(0, .ref x), (1, .ref (b 0)), (2, .int (nI n))] [] (List.flatten [SP x r1 r2 r3 r4 r5 d b1 b2 b3 hi, RW G r2 5 (vwn Q 75 5) (vwn Q 80 5) (vwn Q 85 5) (nI (sn Q 34)) g1 g2 g3 gc, MO G b (vwn S 2 6) tk os (vwn S 14 6) (vwn S 20 6) (vwn S 26 6) (vwn S 51 24) le (S 32) (bitF S) (S 0) (S 1) t (S 33) mu wa]) ro
  refine ev_iconst (v := (nI 0)) hC dX11_isSeenAfter_0 (by decide) ?_
  refine ev_istore_n (lv' := [(3, .int (nI 0)), (0, .ref x), (1, .ref (b 0)), (2, .int (nI n))]) hC dX11_isSeenAfter_1 rfl (by decide) rfl ?_
  have lp_2 : ∀ (fu_2 : Nat) (k : Nat) (hk : k ≤ sn S 34) (hs : seenF S n k = true) (hn : sn S 34 - k < fu_2), Ev G X 0 0 2 [(0, .ref x), (1, .ref (b 0)), (2, .int (nI n)), (3, .int (nI k))] [] (List.flatten [SP x r1 r2 r3 r4 r5 d b1 b2 b3 hi, RW G r2 5 (vwn Q 75 5) (vwn Q 80 5) (vwn Q 85 5) (nI (sn Q 34)) g1 g2 g3 gc, MO G b (vwn S 2 6) tk os (vwn S 14 6) (vwn S 20 6) (vwn S 26 6) (vwn S 51 24) le (S 32) (bitF S) (S 0) (S 1) t (S 33) mu wa]) ro := by
    intro fu_2
    induction fu_2 with
    | zero => intro k hk hs hn; exact absurd hn (Nat.not_lt_zero _)
    | succ fu_2 ih =>
      intro k hk hs hn
      refine ev_iload_n hC dX11_isSeenAfter_2 rfl 3 rfl ?_
      refine ev_aload_n hC dX11_isSeenAfter_3 rfl 0 rfl ?_
      refine ev_get hC fl_X11_20_11 (mw 0 rfl) rfl dX11_isSeenAfter_4 ?_
      refine ev_callV (As := []) (st := [.int (nI k)]) (wf := (List.flatten [SP x r1 r2 r3 r4 r5 d b1 b2 b3 hi, MO G b (vwn S 2 6) tk os (vwn S 14 6) (vwn S 20 6) (vwn S 26 6) (vwn S 51 24) le (S 32) (bitF S) (S 0) (S 1) t (S 33) mu wa])) hC cv_X11_242 (m_X7_kept G ro r2 5 (sn Q 34) (vwn Q 75 5) (vwn Q 80 5) (vwn Q 85 5) g1 g2 g3 gc (by omega) (by omega)) (by omega) rfl rfl (Nat.le_of_ble_eq_true rfl) (perm_sg (n := 3) [1, 0, 2] rfl rfl (by decide)) (mw 1 rfl) rfl dX11_isSeenAfter_7 (by omega) (by omega) ?_
      rintro _ _ _ ⟨rfl, rfl, rfl⟩
      show Ev G X 0 0 10 [(0, .ref x), (1, .ref (b 0)), (2, .int (nI n)), (3, .int (nI k))] [.int (nI (min (sn Q 34) 5)), .int (nI k)] (List.flatten [RW G r2 5 (vwn Q 75 5) (vwn Q 80 5) (vwn Q 85 5) (nI (sn Q 34)) g1 g2 g3 gc, SP x r1 r2 r3 r4 r5 d b1 b2 b3 hi, MO G b (vwn S 2 6) tk os (vwn S 14 6) (vwn S 20 6) (vwn S 26 6) (vwn S 51 24) le (S 32) (bitF S) (S 0) (S 1) t (S 33) mu wa]) ro
      refine ev_perm (ws' := (List.flatten [SP x r1 r2 r3 r4 r5 d b1 b2 b3 hi, RW G r2 5 (vwn Q 75 5) (vwn Q 80 5) (vwn Q 85 5) (nI (sn Q 34)) g1 g2 g3 gc, MO G b (vwn S 2 6) tk os (vwn S 14 6) (vwn S 20 6) (vwn S 26 6) (vwn S 51 24) le (S 32) (bitF S) (S 0) (S 1) t (S 33) mu wa])) (perm_sg2 (n := 3) [1, 0, 2] rfl rfl (by decide)) ?_
      refine ev_top (y := (nI (sn S 34))) (congrArg nI (by omega)) ?_
      refine ev_icmp_geN (tgt := 59) hC dX11_isSeenAfter_10 (by decide) (by omega) (by omega) (fun c_1 => ?_) (fun c_1 => ?_)
      · refine ev_iconst (v := (nI 1)) hC dX11_isSeenAfter_59 (by decide) ?_
        refine ev_zret hC hR rfl (by rfl) dX11_isSeenAfter_60 ?_
        obtain rfl : k = sn S 34 := by omega
        exact ⟨by rw [show bI (seenF S n (sn S 34) = true) = nI 1 from if_pos hs], rfl, rfl⟩
      · refine ev_aload_n hC dX11_isSeenAfter_13 rfl 0 rfl ?_
        refine ev_get hC fl_X11_20_11 (mw 0 rfl) rfl dX11_isSeenAfter_14 ?_
        refine ev_get hC fl_X11_290_7 (mw 1 rfl) rfl dX11_isSeenAfter_17 ?_
        refine ev_iload_n hC dX11_isSeenAfter_20 rfl 3 rfl ?_
        refine ev_ialdN (i := k) hC (mw 4 rfl) (by omega) (by omega) dX11_isSeenAfter_21 ?_
        refine ev_top (y := (Q (85 + k))) (vwn_at (by omega)) ?_
        refine ev_top (y := (S (85 + k))) (hQ _ (by omega) (by omega)) ?_
        have bk_2 : NB S (85 + k) _ := (hW.sdays k (by omega))
        have k_2 := bk_2.eq
        have lk_2 := bk_2.le
        have mk_2 := bk_2.lt
        refine ev_top (y := (nI (sn S (85 + k)))) k_2 ?_
        refine ev_iload_n hC dX11_isSeenAfter_22 rfl 2 rfl ?_
        refine ev_icmp_neN (tgt := 53) hC dX11_isSeenAfter_23 (by decide) (by omega) (by omega) (fun c_3 => ?_) (fun c_3 => ?_)
        · refine ev_iinc (v := (nI (k + 1))) (lv' := [(3, .int (nI (k + 1))), (0, .ref x), (1, .ref (b 0)), (2, .int (nI n))]) hC dX11_isSeenAfter_53 (q := 3) rfl (nI_k _ _ 1 (by decide)) (by decide) rfl ?_
          refine ev_goto (tgt := 2) hC dX11_isSeenAfter_56 (by decide) ?_
          refine ev_lv [1, 2, 3, 0] rfl ?_
          exact ih (k + 1) (by omega) (by simp [seenF, *]) (by omega)
        · refine ev_aload_n hC dX11_isSeenAfter_26 rfl 1 rfl ?_
          refine ev_aload_n hC dX11_isSeenAfter_27 rfl 0 rfl ?_
          refine ev_get hC fl_X11_20_11 (mw 0 rfl) rfl dX11_isSeenAfter_28 ?_
          refine ev_get hC fl_X11_244_7 (mw 1 rfl) rfl dX11_isSeenAfter_31 ?_
          refine ev_iload_n hC dX11_isSeenAfter_34 rfl 3 rfl ?_
          refine ev_ialdN (i := k) hC (mw 2 rfl) (by omega) (by omega) dX11_isSeenAfter_35 ?_
          refine ev_top (y := (Q (75 + k))) (vwn_at (by omega)) ?_
          refine ev_top (y := (S (75 + k))) (hQ _ (by omega) (by omega)) ?_
          have bk_4 : NB S (75 + k) _ := (hW.sside k (by omega))
          have k_4 := bk_4.eq
          have lk_4 := bk_4.le
          have mk_4 := bk_4.lt
          refine ev_top (y := (nI (sn S (75 + k)))) k_4 ?_
          have hside := (hW.sside k (by omega)).le
          refine ev_callV (As := [.int (nI (sn S (75 + k)))]) (st := []) (wf := (List.flatten [SP x r1 r2 r3 r4 r5 d b1 b2 b3 hi, RW G r2 5 (vwn Q 75 5) (vwn Q 80 5) (vwn Q 85 5) (nI (sn Q 34)) g1 g2 g3 gc])) hC cv_X11_254 (m_X3_saltAt G ro b S tk le os t 0 mu wa (sn S (75 + k))  hW (by omega)) (by omega) rfl rfl (Nat.le_of_ble_eq_true rfl) (perm_sg (n := 3) [2, 0, 1] rfl rfl (by decide)) (mw 8 rfl) rfl dX11_isSeenAfter_36 (by omega) (by omega) ?_
          rintro _ _ _ ⟨rfl, rfl, rfl⟩
          show Ev G X 0 0 39 [(0, .ref x), (1, .ref (b 0)), (2, .int (nI n)), (3, .int (nI k))] [.int (S (2 + sn S (75 + k)))] (List.flatten [MO G b (vwn S 2 6) tk os (vwn S 14 6) (vwn S 20 6) (vwn S 26 6) (vwn S 51 24) le (S 32) (bitF S) (S 0) (S 1) t (S 33) mu wa, SP x r1 r2 r3 r4 r5 d b1 b2 b3 hi, RW G r2 5 (vwn Q 75 5) (vwn Q 80 5) (vwn Q 85 5) (nI (sn Q 34)) g1 g2 g3 gc]) ro
          refine ev_perm (ws' := (List.flatten [SP x r1 r2 r3 r4 r5 d b1 b2 b3 hi, RW G r2 5 (vwn Q 75 5) (vwn Q 80 5) (vwn Q 85 5) (nI (sn Q 34)) g1 g2 g3 gc, MO G b (vwn S 2 6) tk os (vwn S 14 6) (vwn S 20 6) (vwn S 26 6) (vwn S 51 24) le (S 32) (bitF S) (S 0) (S 1) t (S 33) mu wa])) (perm_sg2 (n := 3) [1, 2, 0] rfl rfl (by decide)) ?_
          have bk_5 : NB S (2 + sn S (75 + k)) _ := ((hW.salt (sn S (75 + k)) (by omega)).congr (congrArg S (by omega)))
          have k_5 := bk_5.eq
          have lk_5 := bk_5.le
          have mk_5 := bk_5.lt
          refine ev_top (y := (nI (sn S (2 + sn S (75 + k))))) k_5 ?_
          refine ev_aload_n hC dX11_isSeenAfter_39 rfl 0 rfl ?_
          refine ev_get hC fl_X11_20_11 (mw 0 rfl) rfl dX11_isSeenAfter_40 ?_
          refine ev_get hC fl_X11_247_7 (mw 1 rfl) rfl dX11_isSeenAfter_43 ?_
          refine ev_iload_n hC dX11_isSeenAfter_46 rfl 3 rfl ?_
          refine ev_ialdN (i := k) hC (mw 3 rfl) (by omega) (by omega) dX11_isSeenAfter_47 ?_
          refine ev_top (y := (Q (80 + k))) (vwn_at (by omega)) ?_
          refine ev_top (y := (S (80 + k))) (hQ _ (by omega) (by omega)) ?_
          have bk_6 : NB S (80 + k) _ := (hW.ssalt k (by omega))
          have k_6 := bk_6.eq
          have lk_6 := bk_6.le
          have mk_6 := bk_6.lt
          refine ev_top (y := (nI (sn S (80 + k)))) k_6 ?_
          refine ev_icmp_eqN (tgt := 53) hC dX11_isSeenAfter_48 (by decide) (by omega) (by omega) (fun c_7 => ?_) (fun c_7 => ?_)
          · refine ev_iinc (v := (nI (k + 1))) (lv' := [(3, .int (nI (k + 1))), (0, .ref x), (1, .ref (b 0)), (2, .int (nI n))]) hC dX11_isSeenAfter_53 (q := 3) rfl (nI_k _ _ 1 (by decide)) (by decide) rfl ?_
            refine ev_goto (tgt := 2) hC dX11_isSeenAfter_56 (by decide) ?_
            refine ev_lv [1, 2, 3, 0] rfl ?_
            exact ih (k + 1) (by omega) (by simp [seenF, *]) (by omega)
          · refine ev_iconst (v := (nI 0)) hC dX11_isSeenAfter_51 (by decide) ?_
            refine ev_zret hC hR rfl (by rfl) dX11_isSeenAfter_52 ?_
            have h1 : ¬ seenF S n (k + 1) = true := by simp [seenF, *]
            exact ⟨by rw [show bI (seenF S n (sn S 34) = true) = nI 0 from if_neg (seenF_f h1 _ (by omega))], rfl, rfl⟩
  refine ev_lv [1, 2, 3, 0] rfl ?_
  exact lp_2 (sn S 34 - 0 + 1) 0 (by omega) rfl (Nat.lt_succ_self _)

set_option maxHeartbeats 4000000 in
set_option maxRecDepth 100000 in
theorem m_X11_isAllSeen (G : GG) (ro : va_W) (x : Nat) (r1 r2 r3 r4 r5 d b1 b2 b3 : Nat → Nat) (hi : Int32) (b : Nat → Nat) (S Q tk le g1 g2 g3 : Nat → Int32) (os : Nat → Option Nat) (t : Nat) (mu wa gc : Int32) {DD EE : Nat} (hW : WF S DD EE) (hQ : ∀ j, 75 ≤ j → j < 90 → Q j = S j) (hQ4 : Q 34 = S 34) (hO : MoOK G ro (r5 0) S os t) (hD : DD + 21 < 2 ^ 31) (hE : EE + 168 * 21 < 2 ^ 31) : Mth G M_X11_isAllSeen 6 0 0 [.ref x, .ref (b 0)] (List.flatten [SP x r1 r2 r3 r4 r5 d b1 b2 b3 hi, RW G r2 5 (vwn Q 75 5) (vwn Q 80 5) (vwn Q 85 5) (nI (sn Q 34)) g1 g2 g3 gc, MO G b (vwn S 2 6) tk os (vwn S 14 6) (vwn S 20 6) (vwn S 26 6) (vwn S 51 24) le (S 32) (bitF S) (S 0) (S 1) t (S 33) mu wa]) ro (fun r ws' ro' => ∃ (S' : Nat → Int32), ∃ (tk' : Nat → Int32), ∃ (le' : Nat → Int32), ∃ (wa' : Int32), r = some (.int (bI (asSeen mu S))) ∧ ws' = (List.flatten [SP x r1 r2 r3 r4 r5 d b1 b2 b3 hi, RW G r2 5 (vwn Q 75 5) (vwn Q 80 5) (vwn Q 85 5) (nI (sn Q 34)) g1 g2 g3 gc, MO G b (vwn S' 2 6) tk' os (vwn S' 14 6) (vwn S' 20 6) (vwn S' 26 6) (vwn S' 51 24) le' (S' 32) (bitF S') (S' 0) (S' 1) t (S' 33) mu wa']) ∧ ro = ro') := by
  refine mth_of (by decide +kernel) (Nat.le_of_ble_eq_true rfl) (fun X hC hR => ?_)
  have b32 := hW.peo.le
  have b34 := hW.seen.le
  show Ev G X 0 0 0 [(0, .ref x), (1, .ref (b 0))] [] (List.flatten [SP x r1 r2 r3 r4 r5 d b1 b2 b3 hi, RW G r2 5 (vwn Q 75 5) (vwn Q 80 5) (vwn Q 85 5) (nI (sn Q 34)) g1 g2 g3 gc, MO G b (vwn S 2 6) tk os (vwn S 14 6) (vwn S 20 6) (vwn S 26 6) (vwn S 51 24) le (S 32) (bitF S) (S 0) (S 1) t (S 33) mu wa]) ro
  refine ev_iconst (v := (nI 0)) hC dX11_isAllSeen_0 (by decide) ?_
  refine ev_istore_n (lv' := [(2, .int (nI 0)), (0, .ref x), (1, .ref (b 0))]) hC dX11_isAllSeen_1 rfl (by decide) rfl ?_
  have lp_2 : ∀ (fu_2 : Nat) (n : Nat) (tk : Nat → Int32) (le : Nat → Int32) (wa : Int32) (hn21 : n ≤ 21) (hs : allF mu S n = true) (hn : 21 - n < fu_2), Ev G X 0 0 2 [(0, .ref x), (1, .ref (b 0)), (2, .int (nI n))] [] (List.flatten [SP x r1 r2 r3 r4 r5 d b1 b2 b3 hi, RW G r2 5 (vwn Q 75 5) (vwn Q 80 5) (vwn Q 85 5) (nI (sn Q 34)) g1 g2 g3 gc, MO G b (vwn (gosF mu S n) 2 6) tk os (vwn (gosF mu S n) 14 6) (vwn (gosF mu S n) 20 6) (vwn (gosF mu S n) 26 6) (vwn (gosF mu S n) 51 24) le ((gosF mu S n) 32) (bitF (gosF mu S n)) ((gosF mu S n) 0) ((gosF mu S n) 1) t ((gosF mu S n) 33) mu wa]) ro := by
    intro fu_2
    induction fu_2 with
    | zero => intro n tk le wa hn21 hs hn; exact absurd hn (Nat.not_lt_zero _)
    | succ fu_2 ih =>
      intro n tk le wa hn21 hs hn
      refine ev_iload_n hC dX11_isAllSeen_2 rfl 2 rfl ?_
      refine ev_bipush (v := (nI 20)) hC dX11_isAllSeen_3 (by decide) ?_
      refine ev_icmp_gtN (tgt := 29) hC dX11_isAllSeen_5 (by decide) (by omega) (by omega) (fun c_1 => ?_) (fun c_1 => ?_)
      · refine ev_iconst (v := (nI 1)) hC dX11_isAllSeen_29 (by decide) ?_
        refine ev_zret hC hR rfl (by rfl) dX11_isAllSeen_30 ?_
        obtain rfl : n = 21 := by omega
        have er : bI (asSeen mu S) = nI 1 := if_pos hs
        exact ⟨(gosF mu S 21), tk, le, wa, by rw [er], rfl, rfl⟩
      · refine ev_aload_n hC dX11_isAllSeen_8 rfl 0 rfl ?_
        refine ev_aload_n hC dX11_isAllSeen_9 rfl 1 rfl ?_
        refine ev_iload_n hC dX11_isAllSeen_10 rfl 2 rfl ?_
        refine ev_callV (As := [.ref (b 0), .int (nI n)]) (st := []) (wf := (List.flatten [])) hC cv_X11_286 (m_X11_isSeenAfter G ro x r1 r2 r3 r4 r5 d b1 b2 b3 hi b (gosF mu S n) Q tk le g1 g2 g3 os t mu wa gc n ((gosF_wf mu hW n (by omega) (by omega)).1) (fun j h1 h2 => (hQ j h1 h2).trans ((Hi.tr Hi.rf (gosF_wf mu hW n (by omega) (by omega)).2) j (by omega)).symm) (hQ4.trans ((Hi.tr Hi.rf (gosF_wf mu hW n (by omega) (by omega)).2) 34 (by omega)).symm) (by omega)) (by omega) rfl rfl (Nat.le_of_ble_eq_true rfl) (perm_sg (n := 3) [0, 1, 2] rfl rfl (by decide)) (mw 0 rfl) rfl dX11_isAllSeen_11 (by omega) (by omega) ?_
        rintro _ _ _ ⟨rfl, rfl, rfl⟩
        show Ev G X 0 0 14 [(0, .ref x), (1, .ref (b 0)), (2, .int (nI n))] [.int (bI (seenF (gosF mu S n) n (sn (gosF mu S n) 34) = true))] (List.flatten [SP x r1 r2 r3 r4 r5 d b1 b2 b3 hi, RW G r2 5 (vwn Q 75 5) (vwn Q 80 5) (vwn Q 85 5) (nI (sn Q 34)) g1 g2 g3 gc, MO G b (vwn (gosF mu S n) 2 6) tk os (vwn (gosF mu S n) 14 6) (vwn (gosF mu S n) 20 6) (vwn (gosF mu S n) 26 6) (vwn (gosF mu S n) 51 24) le ((gosF mu S n) 32) (bitF (gosF mu S n)) ((gosF mu S n) 0) ((gosF mu S n) 1) t ((gosF mu S n) 33) mu wa]) ro
        refine ev_top (y := (bI (allF mu S (n + 1) = true))) (as_step ((gosF_wf mu hW n (by omega) (by omega)).2.sn (by omega)) hs) ?_
        refine ev_if_neB (tgt := 19) hC dX11_isAllSeen_14 (by decide) (fun c_2 => ?_) (fun c_2 => ?_)
        · refine ev_aload_n hC dX11_isAllSeen_19 rfl 1 rfl ?_
          refine ev_callV (As := []) (st := []) (wf := (List.flatten [SP x r1 r2 r3 r4 r5 d b1 b2 b3 hi, RW G r2 5 (vwn Q 75 5) (vwn Q 80 5) (vwn Q 85 5) (nI (sn Q 34)) g1 g2 g3 gc])) hC cv_X11_216 (m_X3_goDay G ro b (gosF mu S n) tk le os t (r5 0) mu wa ((gosF_wf mu hW n (by omega) (by omega)).1) (MoOK.hi hO (Hi.tr Hi.rf (gosF_wf mu hW n (by omega) (by omega)).2)) (by omega) (by omega)) (by omega) rfl rfl (Nat.le_of_ble_eq_true rfl) (perm_sg (n := 3) [2, 0, 1] rfl rfl (by decide)) (mw 8 rfl) rfl dX11_isAllSeen_20 (by omega) (by omega) ?_
          rintro _ _ _ ⟨tk_3, le_4, hK_5, rfl, rfl, rfl⟩
          show Ev G X 0 0 23 [(0, .ref x), (1, .ref (b 0)), (2, .int (nI n))] [] (List.flatten [MO G b (vwn (goF mu (gosF mu S n)) 2 6) tk_3 os (vwn (goF mu (gosF mu S n)) 14 6) (vwn (goF mu (gosF mu S n)) 20 6) (vwn (goF mu (gosF mu S n)) 26 6) (vwn (goF mu (gosF mu S n)) 51 24) le_4 ((goF mu (gosF mu S n)) 32) (bitF (goF mu (gosF mu S n))) ((goF mu (gosF mu S n)) 0) ((goF mu (gosF mu S n)) 1) t ((goF mu (gosF mu S n)) 33) mu (rsF (alF mu (gosF mu S n)) wa 6), SP x r1 r2 r3 r4 r5 d b1 b2 b3 hi, RW G r2 5 (vwn Q 75 5) (vwn Q 80 5) (vwn Q 85 5) (nI (sn Q 34)) g1 g2 g3 gc]) ro
          refine ev_perm (ws' := (List.flatten [SP x r1 r2 r3 r4 r5 d b1 b2 b3 hi, RW G r2 5 (vwn Q 75 5) (vwn Q 80 5) (vwn Q 85 5) (nI (sn Q 34)) g1 g2 g3 gc, MO G b (vwn (goF mu (gosF mu S n)) 2 6) tk_3 os (vwn (goF mu (gosF mu S n)) 14 6) (vwn (goF mu (gosF mu S n)) 20 6) (vwn (goF mu (gosF mu S n)) 26 6) (vwn (goF mu (gosF mu S n)) 51 24) le_4 ((goF mu (gosF mu S n)) 32) (bitF (goF mu (gosF mu S n))) ((goF mu (gosF mu S n)) 0) ((goF mu (gosF mu S n)) 1) t ((goF mu (gosF mu S n)) 33) mu (rsF (alF mu (gosF mu S n)) wa 6)])) (perm_sg2 (n := 3) [1, 2, 0] rfl rfl (by decide)) ?_
          refine ev_iinc (v := (nI (n + 1))) (lv' := [(2, .int (nI (n + 1))), (0, .ref x), (1, .ref (b 0))]) hC dX11_isAllSeen_23 (q := 2) rfl (nI_k _ _ 1 (by decide)) (by decide) rfl ?_
          refine ev_goto (tgt := 2) hC dX11_isAllSeen_26 (by decide) ?_
          refine ev_lv [1, 2, 0] rfl ?_
          refine ev_ws (ws' := (List.flatten [SP x r1 r2 r3 r4 r5 d b1 b2 b3 hi, RW G r2 5 (vwn Q 75 5) (vwn Q 80 5) (vwn Q 85 5) (nI (sn Q 34)) g1 g2 g3 gc, MO G b (vwn (gosF mu S (n + 1)) 2 6) tk_3 os (vwn (gosF mu S (n + 1)) 14 6) (vwn (gosF mu S (n + 1)) 20 6) (vwn (gosF mu S (n + 1)) 26 6) (vwn (gosF mu S (n + 1)) 51 24) le_4 ((gosF mu S (n + 1)) 32) (bitF (gosF mu S (n + 1))) ((gosF mu S (n + 1)) 0) ((gosF mu S (n + 1)) 1) t ((gosF mu S (n + 1)) 33) mu (rsF (alF mu (gosF mu S n)) wa 6)])) (by rw [show (MO G b (vwn (goF mu (gosF mu S n)) 2 6) tk_3 os (vwn (goF mu (gosF mu S n)) 14 6) (vwn (goF mu (gosF mu S n)) 20 6) (vwn (goF mu (gosF mu S n)) 26 6) (vwn (goF mu (gosF mu S n)) 51 24) le_4 ((goF mu (gosF mu S n)) 32) (bitF (goF mu (gosF mu S n))) ((goF mu (gosF mu S n)) 0) ((goF mu (gosF mu S n)) 1) t ((goF mu (gosF mu S n)) 33) mu (rsF (alF mu (gosF mu S n)) wa 6)) = (MO G b (vwn (gosF mu S (n + 1)) 2 6) tk_3 os (vwn (gosF mu S (n + 1)) 14 6) (vwn (gosF mu S (n + 1)) 20 6) (vwn (gosF mu S (n + 1)) 26 6) (vwn (gosF mu S (n + 1)) 51 24) le_4 ((gosF mu S (n + 1)) 32) (bitF (gosF mu S (n + 1))) ((gosF mu S (n + 1)) 0) ((gosF mu S (n + 1)) 1) t ((gosF mu S (n + 1)) 33) mu (rsF (alF mu (gosF mu S n)) wa 6)) from mo_eq rfl rfl rfl rfl rfl rfl rfl rfl rfl rfl rfl rfl rfl rfl rfl]) ?_
          exact ih (n + 1) tk_3 le_4 (rsF (alF mu (gosF mu S n)) wa 6) (by omega) (by assumption) (by omega)
        · refine ev_iconst (v := (nI 0)) hC dX11_isAllSeen_17 (by decide) ?_
          refine ev_zret hC hR rfl (by rfl) dX11_isAllSeen_18 ?_
          have er : bI (asSeen mu S) = nI 0 := if_neg (allF_f (m := n + 1) (by assumption) 21 (by omega))
          exact ⟨(gosF mu S n), tk, le, wa, by rw [er], rfl, rfl⟩
  refine ev_ws (ws' := (List.flatten [SP x r1 r2 r3 r4 r5 d b1 b2 b3 hi, RW G r2 5 (vwn Q 75 5) (vwn Q 80 5) (vwn Q 85 5) (nI (sn Q 34)) g1 g2 g3 gc, MO G b (vwn (gosF mu S 0) 2 6) tk os (vwn (gosF mu S 0) 14 6) (vwn (gosF mu S 0) 20 6) (vwn (gosF mu S 0) 26 6) (vwn (gosF mu S 0) 51 24) le ((gosF mu S 0) 32) (bitF (gosF mu S 0)) ((gosF mu S 0) 0) ((gosF mu S 0) 1) t ((gosF mu S 0) 33) mu wa])) (by rw [show (MO G b (vwn S 2 6) tk os (vwn S 14 6) (vwn S 20 6) (vwn S 26 6) (vwn S 51 24) le (S 32) (bitF S) (S 0) (S 1) t (S 33) mu wa) = (MO G b (vwn (gosF mu S 0) 2 6) tk os (vwn (gosF mu S 0) 14 6) (vwn (gosF mu S 0) 20 6) (vwn (gosF mu S 0) 26 6) (vwn (gosF mu S 0) 51 24) le ((gosF mu S 0) 32) (bitF (gosF mu S 0)) ((gosF mu S 0) 0) ((gosF mu S 0) 1) t ((gosF mu S 0) 33) mu wa) from mo_eq rfl rfl rfl rfl rfl rfl rfl rfl rfl rfl rfl rfl rfl rfl rfl]) ?_
  refine ev_lv [1, 2, 0] rfl ?_
  exact lp_2 (21 - 0 + 1) 0 tk le wa (by omega) rfl (Nat.lt_succ_self _)
