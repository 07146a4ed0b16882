set_option maxHeartbeats 4000000 in
set_option maxRecDepth 100000 in
theorem m_X3_goDays (G : GG) (ro : va_W) (b : Nat → Nat) (S tk le : Nat → Int32) (os : Nat → Option Nat) (t tc : Nat) (mu wa : Int32) (n : Nat) {DD EE : Nat} (hW : WF S DD EE) (hO : MoOK G ro tc S os t) (hD : DD + n < 2 ^ 31) (hE : EE + 168 * n < 2 ^ 31) (hn0 : n ≤ 1000) : Mth G M_X3_goDays 6 0 0 [.ref (b 0), .int (nI n)] (MO G b (vwn S 2 6) tk os (vwn S 14 6) (vwn S 20 6) (vwn S 26 6) (vwn S 51 24) le (S 32) (bitF S) (S 0) (S 1) t (S 33) mu wa) ro (fun r ws' ro' => ∃ (tk' : Nat → Int32), ∃ (le' : Nat → Int32), (n = 1 → ∀ j, j < 6 → tk' j = taF mu (g1F S (sn S 32)) (sn S 32) j) ∧ r = none ∧ ws' = (MO G b (vwn (gosF mu S n) 2 6) tk' os (vwn (gosF mu S n) 14 6) (vwn (gosF mu S n) 20 6) (vwn (gosF mu S n) 26 6) (vwn (gosF mu S n) 51 24) le' ((gosF mu S n) 32) (bitF (gosF mu S n)) ((gosF mu S n) 0) ((gosF mu S n) 1) t ((gosF mu S n) 33) mu (raF mu S wa n)) ∧ ro = ro') := by
  refine mth_of (by decide +kernel) (Nat.le_of_ble_eq_true rfl) (fun X hC hR => ?_)
  have b32 := hW.peo.le
  show Ev G X 0 0 0 [(0, .ref (b 0)), (1, .int (nI n))] [] (MO G b (vwn S 2 6) tk os (vwn S 14 6) (vwn S 20 6) (vwn S 26 6) (vwn S 51 24) le (S 32) (bitF S) (S 0) (S 1) t (S 33) mu wa) ro
  refine ev_iconst (v := (nI 0)) hC dX3_goDays_0 (by decide) ?_
  refine ev_istore_n (lv' := [(2, .int (nI 0)), (0, .ref (b 0)), (1, .int (nI n))]) hC dX3_goDays_1 rfl (by decide) rfl ?_
  have lp_2 : ∀ (fu_2 : Nat) (k : Nat) (tk : Nat → Int32) (le : Nat → Int32) (hk : k ≤ n) (hK : k = 1 → ∀ j, j < 6 → tk j = taF mu (g1F S (sn S 32)) (sn S 32) j) (hn : n - k < fu_2), Ev G X 0 0 2 [(0, .ref (b 0)), (1, .int (nI n)), (2, .int (nI k))] [] (MO G b (vwn (gosF mu S k) 2 6) tk os (vwn (gosF mu S k) 14 6) (vwn (gosF mu S k) 20 6) (vwn (gosF mu S k) 26 6) (vwn (gosF mu S k) 51 24) le ((gosF mu S k) 32) (bitF (gosF mu S k)) ((gosF mu S k) 0) ((gosF mu S k) 1) t ((gosF mu S k) 33) mu (raF mu S wa k)) ro := by
    intro fu_2
    induction fu_2 with
    | zero => intro k tk le hk hK hn; exact absurd hn (Nat.not_lt_zero _)
    | succ fu_2 ih =>
      intro k tk le hk hK hn
      refine ev_iload_n hC dX3_goDays_2 rfl 2 rfl ?_
      refine ev_iload_n hC dX3_goDays_3 rfl 1 rfl ?_
      refine ev_icmp_geN (tgt := 17) hC dX3_goDays_4 (by decide) (by omega) (by omega) (fun c_1 => ?_) (fun c_1 => ?_)
      · refine ev_vret hC hR rfl dX3_goDays_17 ?_
        obtain rfl : k = n := by omega
        exact ⟨_, _, hK, rfl, rfl, rfl⟩
      · refine ev_aload_n hC dX3_goDays_7 rfl 0 rfl ?_
        refine ev_callV (As := []) (st := []) (wf := []) hC cv_X3_121 (m_X3_goDay G ro b (gosF mu S k) tk le os t tc mu (raF mu S wa k) ((gosF_wf mu hW k (by omega) (by omega)).1) (MoOK.hi hO (Hi.tr Hi.rf (gosF_wf mu hW k (by omega) (by omega)).2)) (by omega) (by omega)) (by omega) rfl rfl (Nat.le_of_ble_eq_true rfl) (List.Perm.of_eq (List.append_nil _).symm) (mw 0 rfl) rfl dX3_goDays_8 (by omega) (by omega) ?_
        rintro _ _ _ ⟨tk_2, le_3, hK_4, rfl, rfl, rfl⟩
        refine ev_ws (List.append_nil _) ?_
        show Ev G X 0 0 11 [(0, .ref (b 0)), (1, .int (nI n)), (2, .int (nI k))] [] (MO G b (vwn (goF mu (gosF mu S k)) 2 6) tk_2 os (vwn (goF mu (gosF mu S k)) 14 6) (vwn (goF mu (gosF mu S k)) 20 6) (vwn (goF mu (gosF mu S k)) 26 6) (vwn (goF mu (gosF mu S k)) 51 24) le_3 ((goF mu (gosF mu S k)) 32) (bitF (goF mu (gosF mu S k))) ((goF mu (gosF mu S k)) 0) ((goF mu (gosF mu S k)) 1) t ((goF mu (gosF mu S k)) 33) mu (rsF (alF mu (gosF mu S k)) (raF mu S wa k) 6)) ro
        refine ev_iinc (v := (nI (k + 1))) (lv' := [(2, .int (nI (k + 1))), (0, .ref (b 0)), (1, .int (nI n))]) hC dX3_goDays_11 (q := 2) rfl (nI_k _ _ 1 (by decide)) (by decide) rfl ?_
        refine ev_goto (tgt := 2) hC dX3_goDays_14 (by decide) ?_
        refine ev_lv [1, 2, 0] rfl ?_
        refine ev_ws (ws' := (MO G b (vwn (gosF mu S (k + 1)) 2 6) tk_2 os (vwn (gosF mu S (k + 1)) 14 6) (vwn (gosF mu S (k + 1)) 20 6) (vwn (gosF mu S (k + 1)) 26 6) (vwn (gosF mu S (k + 1)) 51 24) le_3 ((gosF mu S (k + 1)) 32) (bitF (gosF mu S (k + 1))) ((gosF mu S (k + 1)) 0) ((gosF mu S (k + 1)) 1) t ((gosF mu S (k + 1)) 33) mu (raF mu S wa (k + 1)))) (mo_eq rfl rfl rfl rfl rfl rfl rfl rfl rfl rfl rfl rfl rfl rfl rfl) ?_
        exact ih (k + 1) tk_2 le_3 (by omega) (fun z => by obtain rfl : k = 0 := (by omega); exact hK_4) (by omega)
  refine ev_ws (ws' := (MO G b (vwn (gosF mu S 0) 2 6) tk os (vwn (gosF mu S 0) 14 6) (vwn (gosF mu S 0) 20 6) (vwn (gosF mu S 0) 26 6) (vwn (gosF mu S 0) 51 24) le ((gosF mu S 0) 32) (bitF (gosF mu S 0)) ((gosF mu S 0) 0) ((gosF mu S 0) 1) t ((gosF mu S 0) 33) mu (raF mu S wa 0))) (mo_eq rfl rfl rfl rfl rfl rfl rfl rfl rfl rfl rfl rfl rfl rfl rfl) ?_
  refine ev_lv [1, 2, 0] rfl ?_
  exact lp_2 (n - 0 + 1) 0 tk le (by omega) (fun z => absurd z (by omega)) (Nat.lt_succ_self _)

set_option maxHeartbeats 4000000 in
set_option maxRecDepth 100000 in
theorem m_X3_copyFrom (G : GG) (ro : va_W) (b c : Nat → Nat) (T S tk1 le1 tk le : Nat → Int32) (os1 os : Nat → Option Nat) (t1 t tc : Nat) (st1 wa1 mu wa : Int32) {DD EE : Nat} (hW : WF S DD EE) (hO : MoOK G ro tc S os t) : Mth G M_X3_copyFrom 1 0 0 [.ref (b 0), .ref (c 0)] (List.flatten [MO G b (vwn T 2 6) tk1 os1 (vwn T 14 6) (vwn T 20 6) (vwn T 26 6) (vwn T 51 24) le1 (T 32) (bitF T) (T 0) (T 1) t1 (T 33) st1 wa1, MO G c (vwn S 2 6) tk os (vwn S 14 6) (vwn S 20 6) (vwn S 26 6) (vwn S 51 24) le (S 32) (bitF S) (S 0) (S 1) t (S 33) mu wa]) ro (fun r ws' ro' => r = none ∧ ws' = (List.flatten [MO G b (vwn S 2 6) tk1 (cpO 6 os os1) (vwn S 14 6) (vwn S 20 6) (vwn S 26 6) (vwn S 51 24) le1 (S 32) (bitF S) (S 0) (S 1) t (S 33) (-1) (nI 0), MO G c (vwn S 2 6) tk os (vwn S 14 6) (vwn S 20 6) (vwn S 26 6) (vwn S 51 24) le (S 32) (bitF S) (S 0) (S 1) t (S 33) mu wa]) ∧ ro = ro') := by
  refine mth_of (by decide +kernel) (Nat.le_of_ble_eq_true rfl) (fun X hC hR => ?_)
  have hwar : S 1 = 0 ∨ S 1 = 1 := by have h1 := hW.war; have h2 := h1.le; rw [h1.eq]; rcases (show sn S 1 = 0 ∨ sn S 1 = 1 by omega) with e | e <;> rw [e]; exact Or.inl rfl; exact Or.inr rfl
  show Ev G X 0 0 0 [(0, .ref (b 0)), (1, .ref (c 0))] [] (List.flatten [MO G b (vwn T 2 6) tk1 os1 (vwn T 14 6) (vwn T 20 6) (vwn T 26 6) (vwn T 51 24) le1 (T 32) (bitF T) (T 0) (T 1) t1 (T 33) st1 wa1, MO G c (vwn S 2 6) tk os (vwn S 14 6) (vwn S 20 6) (vwn S 26 6) (vwn S 51 24) le (S 32) (bitF S) (S 0) (S 1) t (S 33) mu wa]) ro
  refine ev_aload_n hC dX3_copyFrom_0 rfl 1 rfl ?_
  refine ev_get hC fl_X3_9_3 (mw 9 rfl) rfl dX3_copyFrom_1 ?_
  refine ev_iconst (v := (nI 0)) hC dX3_copyFrom_4 (by decide) ?_
  refine ev_aload_n hC dX3_copyFrom_5 rfl 0 rfl ?_
  refine ev_get hC fl_X3_9_3 (mw 0 rfl) rfl dX3_copyFrom_6 ?_
  refine ev_iconst (v := (nI 0)) hC dX3_copyFrom_9 (by decide) ?_
  refine ev_bipush (v := (nI 6)) hC dX3_copyFrom_10 (by decide) ?_
  refine ev_copy0 (ws' := (List.flatten [MO G b (cpF 6 (vwn S 2 6) (vwn T 2 6)) tk1 os1 (vwn T 14 6) (vwn T 20 6) (vwn T 26 6) (vwn T 51 24) le1 (T 32) (bitF T) (T 0) (T 1) t1 (T 33) st1 wa1, MO G c (vwn S 2 6) tk os (vwn S 14 6) (vwn S 20 6) (vwn S 26 6) (vwn S 51 24) le (S 32) (bitF S) (S 0) (S 1) t (S 33) mu wa])) (n := 6) (q0 := 10) (q1 := 1) hC (⟨(ft_in 808 (by decide +kernel) rfl), (ft_in 387 (by decide +kernel) rfl), (ft_in 386 (by decide +kernel) rfl), (ft_in 75 (by decide +kernel) rfl)⟩) rfl rfl (by omega) (by omega) (by omega) (by omega) (Nat.le_of_ble_eq_true rfl) rfl dX3_copyFrom_12 ?_
  refine ev_aload_n hC dX3_copyFrom_15 rfl 1 rfl ?_
  refine ev_get hC fl_X3_24_3 (mw 9 rfl) rfl dX3_copyFrom_16 ?_
  refine ev_iconst (v := (nI 0)) hC dX3_copyFrom_19 (by decide) ?_
  refine ev_aload_n hC dX3_copyFrom_20 rfl 0 rfl ?_
  refine ev_get hC fl_X3_24_3 (mw 0 rfl) rfl dX3_copyFrom_21 ?_
  refine ev_iconst (v := (nI 0)) hC dX3_copyFrom_24 (by decide) ?_
  refine ev_bipush (v := (nI 6)) hC dX3_copyFrom_25 (by decide) ?_
  refine ev_copy0 (ws' := (List.flatten [MO G b (cpF 6 (vwn S 2 6) (vwn T 2 6)) tk1 os1 (cpF 6 (vwn S 14 6) (vwn T 14 6)) (vwn T 20 6) (vwn T 26 6) (vwn T 51 24) le1 (T 32) (bitF T) (T 0) (T 1) t1 (T 33) st1 wa1, MO G c (vwn S 2 6) tk os (vwn S 14 6) (vwn S 20 6) (vwn S 26 6) (vwn S 51 24) le (S 32) (bitF S) (S 0) (S 1) t (S 33) mu wa])) (n := 6) (q0 := 13) (q1 := 4) hC (⟨(ft_in 808 (by decide +kernel) rfl), (ft_in 387 (by decide +kernel) rfl), (ft_in 386 (by decide +kernel) rfl), (ft_in 75 (by decide +kernel) rfl)⟩) rfl rfl (by omega) (by omega) (by omega) (by omega) (Nat.le_of_ble_eq_true rfl) rfl dX3_copyFrom_27 ?_
  refine ev_aload_n hC dX3_copyFrom_30 rfl 1 rfl ?_
  refine ev_get hC fl_X3_27_3 (mw 9 rfl) rfl dX3_copyFrom_31 ?_
  refine ev_iconst (v := (nI 0)) hC dX3_copyFrom_34 (by decide) ?_
  refine ev_aload_n hC dX3_copyFrom_35 rfl 0 rfl ?_
  refine ev_get hC fl_X3_27_3 (mw 0 rfl) rfl dX3_copyFrom_36 ?_
  refine ev_iconst (v := (nI 0)) hC dX3_copyFrom_39 (by decide) ?_
  refine ev_bipush (v := (nI 6)) hC dX3_copyFrom_40 (by decide) ?_
  refine ev_copy0 (ws' := (List.flatten [MO G b (cpF 6 (vwn S 2 6) (vwn T 2 6)) tk1 os1 (cpF 6 (vwn S 14 6) (vwn T 14 6)) (cpF 6 (vwn S 20 6) (vwn T 20 6)) (vwn T 26 6) (vwn T 51 24) le1 (T 32) (bitF T) (T 0) (T 1) t1 (T 33) st1 wa1, MO G c (vwn S 2 6) tk os (vwn S 14 6) (vwn S 20 6) (vwn S 26 6) (vwn S 51 24) le (S 32) (bitF S) (S 0) (S 1) t (S 33) mu wa])) (n := 6) (q0 := 14) (q1 := 5) hC (⟨(ft_in 808 (by decide +kernel) rfl), (ft_in 387 (by decide +kernel) rfl), (ft_in 386 (by decide +kernel) rfl), (ft_in 75 (by decide +kernel) rfl)⟩) rfl rfl (by omega) (by omega) (by omega) (by omega) (Nat.le_of_ble_eq_true rfl) rfl dX3_copyFrom_42 ?_
  refine ev_aload_n hC dX3_copyFrom_45 rfl 1 rfl ?_
  refine ev_get hC fl_X3_30_3 (mw 9 rfl) rfl dX3_copyFrom_46 ?_
  refine ev_iconst (v := (nI 0)) hC dX3_copyFrom_49 (by decide) ?_
  refine ev_aload_n hC dX3_copyFrom_50 rfl 0 rfl ?_
  refine ev_get hC fl_X3_30_3 (mw 0 rfl) rfl dX3_copyFrom_51 ?_
  refine ev_iconst (v := (nI 0)) hC dX3_copyFrom_54 (by decide) ?_
  refine ev_bipush (v := (nI 6)) hC dX3_copyFrom_55 (by decide) ?_
  refine ev_copy0 (ws' := (List.flatten [MO G b (cpF 6 (vwn S 2 6) (vwn T 2 6)) tk1 os1 (cpF 6 (vwn S 14 6) (vwn T 14 6)) (cpF 6 (vwn S 20 6) (vwn T 20 6)) (cpF 6 (vwn S 26 6) (vwn T 26 6)) (vwn T 51 24) le1 (T 32) (bitF T) (T 0) (T 1) t1 (T 33) st1 wa1, MO G c (vwn S 2 6) tk os (vwn S 14 6) (vwn S 20 6) (vwn S 26 6) (vwn S 51 24) le (S 32) (bitF S) (S 0) (S 1) t (S 33) mu wa])) (n := 6) (q0 := 15) (q1 := 6) hC (⟨(ft_in 808 (by decide +kernel) rfl), (ft_in 387 (by decide +kernel) rfl), (ft_in 386 (by decide +kernel) rfl), (ft_in 75 (by decide +kernel) rfl)⟩) rfl rfl (by omega) (by omega) (by omega) (by omega) (Nat.le_of_ble_eq_true rfl) rfl dX3_copyFrom_57 ?_
  refine ev_aload_n hC dX3_copyFrom_60 rfl 1 rfl ?_
  refine ev_get hC fl_X3_33_3 (mw 9 rfl) rfl dX3_copyFrom_61 ?_
  refine ev_iconst (v := (nI 0)) hC dX3_copyFrom_64 (by decide) ?_
  refine ev_aload_n hC dX3_copyFrom_65 rfl 0 rfl ?_
  refine ev_get hC fl_X3_33_3 (mw 0 rfl) rfl dX3_copyFrom_66 ?_
  refine ev_iconst (v := (nI 0)) hC dX3_copyFrom_69 (by decide) ?_
  refine ev_bipush (v := (nI 24)) hC dX3_copyFrom_70 (by decide) ?_
  refine ev_copy0 (ws' := (List.flatten [MO G b (cpF 6 (vwn S 2 6) (vwn T 2 6)) tk1 os1 (cpF 6 (vwn S 14 6) (vwn T 14 6)) (cpF 6 (vwn S 20 6) (vwn T 20 6)) (cpF 6 (vwn S 26 6) (vwn T 26 6)) (cpF 24 (vwn S 51 24) (vwn T 51 24)) le1 (T 32) (bitF T) (T 0) (T 1) t1 (T 33) st1 wa1, MO G c (vwn S 2 6) tk os (vwn S 14 6) (vwn S 20 6) (vwn S 26 6) (vwn S 51 24) le (S 32) (bitF S) (S 0) (S 1) t (S 33) mu wa])) (n := 24) (q0 := 16) (q1 := 7) hC (⟨(ft_in 808 (by decide +kernel) rfl), (ft_in 387 (by decide +kernel) rfl), (ft_in 386 (by decide +kernel) rfl), (ft_in 75 (by decide +kernel) rfl)⟩) rfl rfl (by omega) (by omega) (by omega) (by omega) (Nat.le_of_ble_eq_true rfl) rfl dX3_copyFrom_72 ?_
  refine ev_iconst (v := (nI 0)) hC dX3_copyFrom_75 (by decide) ?_
  refine ev_istore_n (lv' := [(2, .int (nI 0)), (0, .ref (b 0)), (1, .ref (c 0))]) hC dX3_copyFrom_76 rfl (by decide) rfl ?_
  have lp_77 : ∀ (fu_77 : Nat) (i : Nat) (hi : i ≤ 6) (hn : 6 - i < fu_77), Ev G X 0 0 77 [(0, .ref (b 0)), (1, .ref (c 0)), (2, .int (nI i))] [] (List.flatten [MO G b (cpF 6 (vwn S 2 6) (vwn T 2 6)) tk1 (cpO i os os1) (cpF 6 (vwn S 14 6) (vwn T 14 6)) (cpF 6 (vwn S 20 6) (vwn T 20 6)) (cpF 6 (vwn S 26 6) (vwn T 26 6)) (cpF 24 (vwn S 51 24) (vwn T 51 24)) le1 (T 32) (bitF T) (T 0) (T 1) t1 (T 33) st1 wa1, MO G c (vwn S 2 6) tk os (vwn S 14 6) (vwn S 20 6) (vwn S 26 6) (vwn S 51 24) le (S 32) (bitF S) (S 0) (S 1) t (S 33) mu wa]) ro := by
    intro fu_77
    induction fu_77 with
    | zero => intro i hi hn; exact absurd hn (Nat.not_lt_zero _)
    | succ fu_77 ih =>
      intro i hi hn
      refine ev_iload_n hC dX3_copyFrom_77 rfl 2 rfl ?_
      refine ev_bipush (v := (nI 6)) hC dX3_copyFrom_78 (by decide) ?_
      refine ev_icmp_geN (tgt := 101) hC dX3_copyFrom_80 (by decide) (by omega) (by omega) (fun c_1 => ?_) (fun c_1 => ?_)
      · obtain rfl : i = 6 := by omega
        show Ev G X 0 0 101 [(0, .ref (b 0)), (1, .ref (c 0)), (2, .int (nI 6))] [] (List.flatten [MO G b (cpF 6 (vwn S 2 6) (vwn T 2 6)) tk1 (cpO 6 os os1) (cpF 6 (vwn S 14 6) (vwn T 14 6)) (cpF 6 (vwn S 20 6) (vwn T 20 6)) (cpF 6 (vwn S 26 6) (vwn T 26 6)) (cpF 24 (vwn S 51 24) (vwn T 51 24)) le1 (T 32) (bitF T) (T 0) (T 1) t1 (T 33) st1 wa1, MO G c (vwn S 2 6) tk os (vwn S 14 6) (vwn S 20 6) (vwn S 26 6) (vwn S 51 24) le (S 32) (bitF S) (S 0) (S 1) t (S 33) mu wa]) ro
        refine ev_aload_n hC dX3_copyFrom_101 rfl 0 rfl ?_
        refine ev_aload_n hC dX3_copyFrom_102 rfl 1 rfl ?_
        refine ev_get hC fl_X3_41_3 (mw 9 rfl) rfl dX3_copyFrom_103 ?_
        refine ev_put (ws' := (List.flatten [MO G b (cpF 6 (vwn S 2 6) (vwn T 2 6)) tk1 (cpO 6 os os1) (cpF 6 (vwn S 14 6) (vwn T 14 6)) (cpF 6 (vwn S 20 6) (vwn T 20 6)) (cpF 6 (vwn S 26 6) (vwn T 26 6)) (cpF 24 (vwn S 51 24) (vwn T 51 24)) le1 (S 32) (bitF T) (T 0) (T 1) t1 (T 33) st1 wa1, MO G c (vwn S 2 6) tk os (vwn S 14 6) (vwn S 20 6) (vwn S 26 6) (vwn S 51 24) le (S 32) (bitF S) (S 0) (S 1) t (S 33) mu wa])) (q0 := 0) hC fp_X3_41_3 rfl (Nat.le_of_ble_eq_true rfl) rfl rfl rfl dX3_copyFrom_106 ?_
        refine ev_aload_n hC dX3_copyFrom_109 rfl 0 rfl ?_
        refine ev_aload_n hC dX3_copyFrom_110 rfl 1 rfl ?_
        refine ev_get hC fl_X3_45_3 (mw 9 rfl) rfl dX3_copyFrom_111 ?_
        refine ev_put (ws' := (List.flatten [MO G b (cpF 6 (vwn S 2 6) (vwn T 2 6)) tk1 (cpO 6 os os1) (cpF 6 (vwn S 14 6) (vwn T 14 6)) (cpF 6 (vwn S 20 6) (vwn T 20 6)) (cpF 6 (vwn S 26 6) (vwn T 26 6)) (cpF 24 (vwn S 51 24) (vwn T 51 24)) le1 (S 32) (bitF S) (T 0) (T 1) t1 (T 33) st1 wa1, MO G c (vwn S 2 6) tk os (vwn S 14 6) (vwn S 20 6) (vwn S 26 6) (vwn S 51 24) le (S 32) (bitF S) (S 0) (S 1) t (S 33) mu wa])) (q0 := 0) hC fp_X3_45_3 rfl (Nat.le_of_ble_eq_true rfl) rfl rfl rfl dX3_copyFrom_114 ?_
        refine ev_aload_n hC dX3_copyFrom_117 rfl 0 rfl ?_
        refine ev_aload_n hC dX3_copyFrom_118 rfl 1 rfl ?_
        refine ev_get hC fl_X3_48_3 (mw 9 rfl) rfl dX3_copyFrom_119 ?_
        refine ev_put (ws' := (List.flatten [MO G b (cpF 6 (vwn S 2 6) (vwn T 2 6)) tk1 (cpO 6 os os1) (cpF 6 (vwn S 14 6) (vwn T 14 6)) (cpF 6 (vwn S 20 6) (vwn T 20 6)) (cpF 6 (vwn S 26 6) (vwn T 26 6)) (cpF 24 (vwn S 51 24) (vwn T 51 24)) le1 (S 32) (bitF S) (S 0) (T 1) t1 (T 33) st1 wa1, MO G c (vwn S 2 6) tk os (vwn S 14 6) (vwn S 20 6) (vwn S 26 6) (vwn S 51 24) le (S 32) (bitF S) (S 0) (S 1) t (S 33) mu wa])) (q0 := 0) hC fp_X3_48_3 rfl (Nat.le_of_ble_eq_true rfl) rfl rfl rfl dX3_copyFrom_122 ?_
        refine ev_aload_n hC dX3_copyFrom_125 rfl 0 rfl ?_
        refine ev_aload_n hC dX3_copyFrom_126 rfl 1 rfl ?_
        refine ev_get hC fl_X3_51_3 (mw 9 rfl) rfl dX3_copyFrom_127 ?_
        refine ev_put (ws' := (List.flatten [MO G b (cpF 6 (vwn S 2 6) (vwn T 2 6)) tk1 (cpO 6 os os1) (cpF 6 (vwn S 14 6) (vwn T 14 6)) (cpF 6 (vwn S 20 6) (vwn T 20 6)) (cpF 6 (vwn S 26 6) (vwn T 26 6)) (cpF 24 (vwn S 51 24) (vwn T 51 24)) le1 (S 32) (bitF S) (S 0) (S 1) t1 (T 33) st1 wa1, MO G c (vwn S 2 6) tk os (vwn S 14 6) (vwn S 20 6) (vwn S 26 6) (vwn S 51 24) le (S 32) (bitF S) (S 0) (S 1) t (S 33) mu wa])) (q0 := 0) hC fp_X3_51_3 rfl (Nat.le_of_ble_eq_true rfl) (nar_01 hwar).1 (nar_01 hwar).2.1 rfl dX3_copyFrom_130 ?_
        refine ev_aload_n hC dX3_copyFrom_133 rfl 0 rfl ?_
        refine ev_aload_n hC dX3_copyFrom_134 rfl 1 rfl ?_
        refine ev_get hC fl_X3_64_3 (mw 9 rfl) rfl dX3_copyFrom_135 ?_
        refine ev_put (ws' := (List.flatten [MO G b (cpF 6 (vwn S 2 6) (vwn T 2 6)) tk1 (cpO 6 os os1) (cpF 6 (vwn S 14 6) (vwn T 14 6)) (cpF 6 (vwn S 20 6) (vwn T 20 6)) (cpF 6 (vwn S 26 6) (vwn T 26 6)) (cpF 24 (vwn S 51 24) (vwn T 51 24)) le1 (S 32) (bitF S) (S 0) (S 1) t (T 33) st1 wa1, MO G c (vwn S 2 6) tk os (vwn S 14 6) (vwn S 20 6) (vwn S 26 6) (vwn S 51 24) le (S 32) (bitF S) (S 0) (S 1) t (S 33) mu wa])) (q0 := 0) hC fp_X3_64_3 rfl (Nat.le_of_ble_eq_true rfl) rfl rfl rfl dX3_copyFrom_138 ?_
        refine ev_aload_n hC dX3_copyFrom_141 rfl 0 rfl ?_
        refine ev_aload_n hC dX3_copyFrom_142 rfl 1 rfl ?_
        refine ev_get hC fl_X3_55_3 (mw 9 rfl) rfl dX3_copyFrom_143 ?_
        refine ev_put (ws' := (List.flatten [MO G b (cpF 6 (vwn S 2 6) (vwn T 2 6)) tk1 (cpO 6 os os1) (cpF 6 (vwn S 14 6) (vwn T 14 6)) (cpF 6 (vwn S 20 6) (vwn T 20 6)) (cpF 6 (vwn S 26 6) (vwn T 26 6)) (cpF 24 (vwn S 51 24) (vwn T 51 24)) le1 (S 32) (bitF S) (S 0) (S 1) t (S 33) st1 wa1, MO G c (vwn S 2 6) tk os (vwn S 14 6) (vwn S 20 6) (vwn S 26 6) (vwn S 51 24) le (S 32) (bitF S) (S 0) (S 1) t (S 33) mu wa])) (q0 := 0) hC fp_X3_55_3 rfl (Nat.le_of_ble_eq_true rfl) rfl rfl rfl dX3_copyFrom_146 ?_
        refine ev_aload_n hC dX3_copyFrom_149 rfl 0 rfl ?_
        refine ev_iconst (v := (-1)) hC dX3_copyFrom_150 (by decide) ?_
        refine ev_put (ws' := (List.flatten [MO G b (cpF 6 (vwn S 2 6) (vwn T 2 6)) tk1 (cpO 6 os os1) (cpF 6 (vwn S 14 6) (vwn T 14 6)) (cpF 6 (vwn S 20 6) (vwn T 20 6)) (cpF 6 (vwn S 26 6) (vwn T 26 6)) (cpF 24 (vwn S 51 24) (vwn T 51 24)) le1 (S 32) (bitF S) (S 0) (S 1) t (S 33) (-1) wa1, MO G c (vwn S 2 6) tk os (vwn S 14 6) (vwn S 20 6) (vwn S 26 6) (vwn S 51 24) le (S 32) (bitF S) (S 0) (S 1) t (S 33) mu wa])) (q0 := 0) hC fp_X3_58_3 rfl (Nat.le_of_ble_eq_true rfl) rfl rfl rfl dX3_copyFrom_151 ?_
        refine ev_aload_n hC dX3_copyFrom_154 rfl 0 rfl ?_
        refine ev_iconst (v := (nI 0)) hC dX3_copyFrom_155 (by decide) ?_
        refine ev_put (ws' := (List.flatten [MO G b (cpF 6 (vwn S 2 6) (vwn T 2 6)) tk1 (cpO 6 os os1) (cpF 6 (vwn S 14 6) (vwn T 14 6)) (cpF 6 (vwn S 20 6) (vwn T 20 6)) (cpF 6 (vwn S 26 6) (vwn T 26 6)) (cpF 24 (vwn S 51 24) (vwn T 51 24)) le1 (S 32) (bitF S) (S 0) (S 1) t (S 33) (-1) (nI 0), MO G c (vwn S 2 6) tk os (vwn S 14 6) (vwn S 20 6) (vwn S 26 6) (vwn S 51 24) le (S 32) (bitF S) (S 0) (S 1) t (S 33) mu wa])) (q0 := 0) hC fp_X3_61_3 rfl (Nat.le_of_ble_eq_true rfl) rfl rfl rfl dX3_copyFrom_156 ?_
        refine ev_ws (ws' := (List.flatten [MO G b (vwn S 2 6) tk1 (cpO 6 os os1) (vwn S 14 6) (vwn S 20 6) (vwn S 26 6) (vwn S 51 24) le1 (S 32) (bitF S) (S 0) (S 1) t (S 33) (-1) (nI 0), MO G c (vwn S 2 6) tk os (vwn S 14 6) (vwn S 20 6) (vwn S 26 6) (vwn S 51 24) le (S 32) (bitF S) (S 0) (S 1) t (S 33) mu wa])) (by rw [show (MO G b (cpF 6 (vwn S 2 6) (vwn T 2 6)) tk1 (cpO 6 os os1) (cpF 6 (vwn S 14 6) (vwn T 14 6)) (cpF 6 (vwn S 20 6) (vwn T 20 6)) (cpF 6 (vwn S 26 6) (vwn T 26 6)) (cpF 24 (vwn S 51 24) (vwn T 51 24)) le1 (S 32) (bitF S) (S 0) (S 1) t (S 33) (-1) (nI 0)) = (MO G b (vwn S 2 6) tk1 (cpO 6 os os1) (vwn S 14 6) (vwn S 20 6) (vwn S 26 6) (vwn S 51 24) le1 (S 32) (bitF S) (S 0) (S 1) t (S 33) (-1) (nI 0)) from mo_eq cpF_vwn rfl rfl cpF_vwn cpF_vwn cpF_vwn cpF_vwn rfl rfl rfl rfl rfl rfl rfl rfl]) ?_
        refine ev_vret hC hR rfl dX3_copyFrom_159 ?_
        exact ⟨rfl, rfl, rfl⟩
      · obtain ⟨r, ci, fs, hr, hm, hpe⟩ := hO.2.1 i (by omega)
        refine ev_aload_n hC dX3_copyFrom_83 rfl 0 rfl ?_
        refine ev_get hC fl_X3_20_3 (mw 0 rfl) rfl dX3_copyFrom_84 ?_
        refine ev_iload_n hC dX3_copyFrom_87 rfl 2 rfl ?_
        refine ev_aload_n hC dX3_copyFrom_88 rfl 1 rfl ?_
        refine ev_get hC fl_X3_20_3 (mw 9 rfl) rfl dX3_copyFrom_89 ?_
        refine ev_iload_n hC dX3_copyFrom_92 rfl 2 rfl ?_
        refine ev_aaldN (i := i) (r := r) hC (mw 12 rfl) (by omega) (by omega) hr dX3_copyFrom_93 ?_
        refine ev_aastN (i := i) (ws' := (List.flatten [MO G b (cpF 6 (vwn S 2 6) (vwn T 2 6)) tk1 (va_up (cpO i os os1) i (some r)) (cpF 6 (vwn S 14 6) (vwn T 14 6)) (cpF 6 (vwn S 20 6) (vwn T 20 6)) (cpF 6 (vwn S 26 6) (vwn T 26 6)) (cpF 24 (vwn S 51 24) (vwn T 51 24)) le1 (T 32) (bitF T) (T 0) (T 1) t1 (T 33) st1 wa1, MO G c (vwn S 2 6) tk os (vwn S 14 6) (vwn S 20 6) (vwn S 26 6) (vwn S 51 24) le (S 32) (bitF S) (S 0) (S 1) t (S 33) mu wa])) (q0 := 3) hC rfl (mr hm) hpe (by omega) (by omega) rfl dX3_copyFrom_94 ?_
        refine ev_iinc (v := (nI (i + 1))) (lv' := [(2, .int (nI (i + 1))), (0, .ref (b 0)), (1, .ref (c 0))]) hC dX3_copyFrom_95 (q := 2) rfl (nI_k _ _ 1 (by decide)) (by decide) rfl ?_
        refine ev_goto (tgt := 77) hC dX3_copyFrom_98 (by decide) ?_
        refine ev_lv [1, 2, 0] rfl ?_
        refine ev_ws (ws' := (List.flatten [MO G b (cpF 6 (vwn S 2 6) (vwn T 2 6)) tk1 (cpO (i + 1) os os1) (cpF 6 (vwn S 14 6) (vwn T 14 6)) (cpF 6 (vwn S 20 6) (vwn T 20 6)) (cpF 6 (vwn S 26 6) (vwn T 26 6)) (cpF 24 (vwn S 51 24) (vwn T 51 24)) le1 (T 32) (bitF T) (T 0) (T 1) t1 (T 33) st1 wa1, MO G c (vwn S 2 6) tk os (vwn S 14 6) (vwn S 20 6) (vwn S 26 6) (vwn S 51 24) le (S 32) (bitF S) (S 0) (S 1) t (S 33) mu wa])) (by rw [cpO_s hr]) ?_
        exact ih (i + 1) (by omega) (by omega)
  refine ev_ws (ws' := (List.flatten [MO G b (cpF 6 (vwn S 2 6) (vwn T 2 6)) tk1 (cpO 0 os os1) (cpF 6 (vwn S 14 6) (vwn T 14 6)) (cpF 6 (vwn S 20 6) (vwn T 20 6)) (cpF 6 (vwn S 26 6) (vwn T 26 6)) (cpF 24 (vwn S 51 24) (vwn T 51 24)) le1 (T 32) (bitF T) (T 0) (T 1) t1 (T 33) st1 wa1, MO G c (vwn S 2 6) tk os (vwn S 14 6) (vwn S 20 6) (vwn S 26 6) (vwn S 51 24) le (S 32) (bitF S) (S 0) (S 1) t (S 33) mu wa])) (by rw [cpO_0]) ?_
  refine ev_lv [1, 2, 0] rfl ?_
  exact lp_77 (6 - 0 + 1) 0 (by omega) (Nat.lt_succ_self _)

set_option maxHeartbeats 4000000 in
set_option maxRecDepth 100000 in
theorem m_X3_comes (G : GG) (ro : va_W) (b : Nat → Nat) (S tk le : Nat → Int32) (os : Nat → Option Nat) (t tc : Nat) (mu wa : Int32) (q k v sd : Nat) {DD EE : Nat} (hW : WF S DD EE) (hlt : sn S 32 < 6) {ci : Nat} {fs : List Value} (hq : (q, ob ci fs) ∈ ro) (hpe : isPe ci) : Mth G M_X3_comes 2 0 0 [.ref (b 0), .ref q, .int (nI sd)] (MO G b (vwn S 2 6) tk os (vwn S 14 6) (vwn S 20 6) (vwn S 26 6) (vwn S 51 24) le (S 32) (bitF S) (S 0) (S 1) t (S 33) mu wa) ro (fun r ws' ro' => r = some (.int (nI (sn S 32))) ∧ ws' = (MO G b (vwn (comesF S (sn S 32) (nI k) (nI v) (nI sd)) 2 6) tk (va_up os (sn S 32) (some q)) (vwn (comesF S (sn S 32) (nI k) (nI v) (nI sd)) 14 6) (vwn (comesF S (sn S 32) (nI k) (nI v) (nI sd)) 20 6) (vwn (comesF S (sn S 32) (nI k) (nI v) (nI sd)) 26 6) (vwn (comesF S (sn S 32) (nI k) (nI v) (nI sd)) 51 24) le ((comesF S (sn S 32) (nI k) (nI v) (nI sd)) 32) (bitF (comesF S (sn S 32) (nI k) (nI v) (nI sd))) ((comesF S (sn S 32) (nI k) (nI v) (nI sd)) 0) ((comesF S (sn S 32) (nI k) (nI v) (nI sd)) 1) t ((comesF S (sn S 32) (nI k) (nI v) (nI sd)) 33) mu wa) ∧ ro = ro') := by
  refine mth_of (by decide +kernel) (Nat.le_of_ble_eq_true rfl) (fun X hC hR => ?_)
  have b32 := hW.peo.le
  show Ev G X 0 0 0 [(0, .ref (b 0)), (1, .ref q), (2, .int (nI sd))] [] (MO G b (vwn S 2 6) tk os (vwn S 14 6) (vwn S 20 6) (vwn S 26 6) (vwn S 51 24) le (S 32) (bitF S) (S 0) (S 1) t (S 33) mu wa) ro
  refine ev_aload_n hC dX3_comes_0 rfl 0 rfl ?_
  refine ev_get hC fl_X3_41_3 (mw 0 rfl) rfl dX3_comes_1 ?_
  have bk_1 : NB S 32 _ := hW.peo
  have k_1 := bk_1.eq
  have lk_1 := bk_1.le
  have mk_1 := bk_1.lt
  refine ev_top (y := (nI (sn S 32))) k_1 ?_
  refine ev_bipush (v := (nI 6)) hC dX3_comes_4 (by decide) ?_
  refine ev_icmp_ltN (tgt := 12) hC dX3_comes_6 (by decide) (by omega) (by omega) (fun c_2 => ?_) (fun c_2 => absurd c_2 (by omega))
  refine ev_aload_n hC dX3_comes_12 rfl 0 rfl ?_
  refine ev_get hC fl_X3_41_3 (mw 0 rfl) rfl dX3_comes_13 ?_
  have bk_3 : NB S 32 _ := hW.peo
  have k_3 := bk_3.eq
  have lk_3 := bk_3.le
  have mk_3 := bk_3.lt
  refine ev_top (y := (nI (sn S 32))) k_3 ?_
  refine ev_istore_n (lv' := [(3, .int (nI (sn S 32))), (0, .ref (b 0)), (1, .ref q), (2, .int (nI sd))]) hC dX3_comes_16 rfl (by decide) rfl ?_
  refine ev_aload_n hC dX3_comes_17 rfl 1 rfl ?_
  refine ev_get hC fl_X3_20_3 (mw 0 rfl) rfl dX3_comes_18 ?_
  refine ev_iload_n hC dX3_comes_21 rfl 0 rfl ?_
  refine ev_aload_n hC dX3_comes_22 rfl 2 rfl ?_
  refine ev_aastN (i := sn S 32) (ws' := (MO G b (vwn S 2 6) tk (va_up os (sn S 32) (some q)) (vwn S 14 6) (vwn S 20 6) (vwn S 26 6) (vwn S 51 24) le (S 32) (bitF S) (S 0) (S 1) t (S 33) mu wa)) (q0 := 3) hC rfl (mr hq) hpe (by omega) (by omega) rfl dX3_comes_23 ?_
  refine ev_aload_n hC dX3_comes_24 rfl 1 rfl ?_
  refine ev_get hC fl_X3_24_3 (mw 0 rfl) rfl dX3_comes_25 ?_
  refine ev_iload_n hC dX3_comes_28 rfl 0 rfl ?_
  refine ev_iload_n hC dX3_comes_29 rfl 3 rfl ?_
  refine ev_iastN (i := sn S 32) (ws' := (MO G b (vwn S 2 6) tk (va_up os (sn S 32) (some q)) (upd (vwn S 14 6) (sn S 32) (nI sd)) (vwn S 20 6) (vwn S 26 6) (vwn S 51 24) le (S 32) (bitF S) (S 0) (S 1) t (S 33) mu wa)) (q0 := 4) hC rfl (by omega) (by omega) rfl dX3_comes_30 ?_
  refine ev_aload_n hC dX3_comes_31 rfl 1 rfl ?_
  refine ev_get hC fl_X3_27_3 (mw 0 rfl) rfl dX3_comes_32 ?_
  refine ev_iload_n hC dX3_comes_35 rfl 0 rfl ?_
  refine ev_iconst (v := (nI 0)) hC dX3_comes_36 (by decide) ?_
  refine ev_iastN (i := sn S 32) (ws' := (MO G b (vwn S 2 6) tk (va_up os (sn S 32) (some q)) (upd (vwn S 14 6) (sn S 32) (nI sd)) (upd (vwn S 20 6) (sn S 32) (nI 0)) (vwn S 26 6) (vwn S 51 24) le (S 32) (bitF S) (S 0) (S 1) t (S 33) mu wa)) (q0 := 5) hC rfl (by omega) (by omega) rfl dX3_comes_37 ?_
  refine ev_aload_n hC dX3_comes_38 rfl 1 rfl ?_
  refine ev_get hC fl_X3_30_3 (mw 0 rfl) rfl dX3_comes_39 ?_
  refine ev_iload_n hC dX3_comes_42 rfl 0 rfl ?_
  refine ev_iconst (v := (nI 0)) hC dX3_comes_43 (by decide) ?_
  refine ev_iastN (i := sn S 32) (ws' := (MO G b (vwn S 2 6) tk (va_up os (sn S 32) (some q)) (upd (vwn S 14 6) (sn S 32) (nI sd)) (upd (vwn S 20 6) (sn S 32) (nI 0)) (upd (vwn S 26 6) (sn S 32) (nI 0)) (vwn S 51 24) le (S 32) (bitF S) (S 0) (S 1) t (S 33) mu wa)) (q0 := 6) hC rfl (by omega) (by omega) rfl dX3_comes_44 ?_
  refine ev_aload_n hC dX3_comes_45 rfl 1 rfl ?_
  refine ev_get hC fl_X3_33_3 (mw 0 rfl) rfl dX3_comes_46 ?_
  refine ev_iload_n hC dX3_comes_49 rfl 0 rfl ?_
  refine ev_iconst (v := (nI 4)) hC dX3_comes_50 (by decide) ?_
  refine ev_imul hC dX3_comes_51 ?_
  refine ev_top (y := (nI ((sn S 32) * 4))) (pk_mul _ _) ?_
  refine ev_iload_n hC dX3_comes_52 rfl 0 rfl ?_
  refine ev_iconst (v := (nI 1)) hC dX3_comes_53 (by decide) ?_
  refine ev_iadd hC dX3_comes_54 ?_
  refine ev_top (y := (nI (sn S 32 + 1))) ((nI_add _ _).trans (congrArg nI (by omega))) ?_
  refine ev_iconst (v := (nI 4)) hC dX3_comes_55 (by decide) ?_
  refine ev_imul hC dX3_comes_56 ?_
  refine ev_top (y := (nI ((sn S 32 + 1) * 4))) (pk_mul _ _) ?_
  refine ev_iconst (v := (nI 0)) hC dX3_comes_57 (by decide) ?_
  refine ev_callS (As := [.ref (b 7), .int (nI ((sn S 32) * 4)), .int (nI ((sn S 32 + 1) * 4)), .int (nI 0)]) (st := []) (wc := [((b 7), ia G 24 (vwn S 51 24))]) (wf := [((b 0), ob 3 [.ref (b 1), .ref (b 2), .ref (b 3), .ref (b 4), .ref (b 5), .ref (b 6), .ref (b 7), .ref (b 8), .int (S 32), .int (bitF S), .int (S 0), .int (S 1), .ref t, .int (S 33), .int mu, .int wa]), ((b 1), ia G 6 (vwn S 2 6)), ((b 2), ia G 6 tk), ((b 3), pa G 6 (va_up os (sn S 32) (some q))), ((b 4), ia G 6 (upd (vwn S 14 6) (sn S 32) (nI sd))), ((b 5), ia G 6 (upd (vwn S 20 6) (sn S 32) (nI 0))), ((b 6), ia G 6 (upd (vwn S 26 6) (sn S 32) (nI 0))), ((b 8), ia G 6 le)]) hC ct_X3_80 (m_J7_fill_fda19 G ro (b 7) 24 ((sn S 32) * 4) ((sn S 32 + 1) * 4) (vwn S 51 24) (nI 0) (by omega) (by omega) (by omega)) (by omega) rfl rfl (Nat.le_of_ble_eq_true rfl) (perm_ks [7, 0, 1, 2, 3, 4, 5, 6, 8] (show List.Perm _ (List.range 9) by decide) rfl) dX3_comes_58 (by omega) (by omega) ?_
  rintro _ _ _ ⟨rfl, rfl, rfl⟩
  refine ev_perm (ws' := (MO G b (vwn S 2 6) tk (va_up os (sn S 32) (some q)) (upd (vwn S 14 6) (sn S 32) (nI sd)) (upd (vwn S 20 6) (sn S 32) (nI 0)) (upd (vwn S 26 6) (sn S 32) (nI 0)) (flF (vwn S 51 24) ((sn S 32) * 4) ((sn S 32 + 1) * 4) (nI 0)) le (S 32) (bitF S) (S 0) (S 1) t (S 33) mu wa)) (perm_ks [1, 2, 3, 4, 5, 6, 7, 0, 8] (show List.Perm _ (List.range 9) by decide) rfl) ?_
  show Ev G X 0 0 61 [(3, .int (nI (sn S 32))), (0, .ref (b 0)), (1, .ref q), (2, .int (nI sd))] [] (MO G b (vwn S 2 6) tk (va_up os (sn S 32) (some q)) (upd (vwn S 14 6) (sn S 32) (nI sd)) (upd (vwn S 20 6) (sn S 32) (nI 0)) (upd (vwn S 26 6) (sn S 32) (nI 0)) (flF (vwn S 51 24) ((sn S 32) * 4) ((sn S 32 + 1) * 4) (nI 0)) le (S 32) (bitF S) (S 0) (S 1) t (S 33) mu wa) ro
  refine ev_aload_n hC dX3_comes_61 rfl 1 rfl ?_
  refine ev_dup hC dX3_comes_62 rfl ?_
  refine ev_get hC fl_X3_41_3 (mw 0 rfl) rfl dX3_comes_63 ?_
  have bk_4 : NB S 32 _ := hW.peo
  have k_4 := bk_4.eq
  have lk_4 := bk_4.le
  have mk_4 := bk_4.lt
  refine ev_top (y := (nI (sn S 32))) k_4 ?_
  refine ev_iconst (v := (nI 1)) hC dX3_comes_66 (by decide) ?_
  refine ev_iadd hC dX3_comes_67 ?_
  refine ev_top (y := (nI (sn S 32 + 1))) ((nI_add _ _).trans (congrArg nI (by omega))) ?_
  refine ev_put (ws' := (MO G b (vwn S 2 6) tk (va_up os (sn S 32) (some q)) (upd (vwn S 14 6) (sn S 32) (nI sd)) (upd (vwn S 20 6) (sn S 32) (nI 0)) (upd (vwn S 26 6) (sn S 32) (nI 0)) (flF (vwn S 51 24) ((sn S 32) * 4) ((sn S 32 + 1) * 4) (nI 0)) le (nI (sn S 32 + 1)) (bitF S) (S 0) (S 1) t (S 33) mu wa)) (q0 := 0) hC fp_X3_41_3 rfl (Nat.le_of_ble_eq_true rfl) rfl rfl rfl dX3_comes_68 ?_
  refine ev_ws (ws' := (MO G b (vwn (upd (upd (upd (upd (upd (upd (upd (upd (upd (upd S (39 + sn S 32) (nI k)) (45 + sn S 32) (nI v)) (14 + sn S 32) (nI sd)) (20 + sn S 32) (nI 0)) (26 + sn S 32) (nI 0)) (51 + 4 * sn S 32) (nI 0)) (51 + 4 * sn S 32 + 1) (nI 0)) (51 + 4 * sn S 32 + 2) (nI 0)) (51 + 4 * sn S 32 + 3) (nI 0)) 32 (nI (sn S 32 + 1))) 2 6) tk (va_up os (sn S 32) (some q)) (vwn (upd (upd (upd (upd (upd (upd (upd (upd (upd (upd S (39 + sn S 32) (nI k)) (45 + sn S 32) (nI v)) (14 + sn S 32) (nI sd)) (20 + sn S 32) (nI 0)) (26 + sn S 32) (nI 0)) (51 + 4 * sn S 32) (nI 0)) (51 + 4 * sn S 32 + 1) (nI 0)) (51 + 4 * sn S 32 + 2) (nI 0)) (51 + 4 * sn S 32 + 3) (nI 0)) 32 (nI (sn S 32 + 1))) 14 6) (vwn (upd (upd (upd (upd (upd (upd (upd (upd (upd (upd S (39 + sn S 32) (nI k)) (45 + sn S 32) (nI v)) (14 + sn S 32) (nI sd)) (20 + sn S 32) (nI 0)) (26 + sn S 32) (nI 0)) (51 + 4 * sn S 32) (nI 0)) (51 + 4 * sn S 32 + 1) (nI 0)) (51 + 4 * sn S 32 + 2) (nI 0)) (51 + 4 * sn S 32 + 3) (nI 0)) 32 (nI (sn S 32 + 1))) 20 6) (vwn (upd (upd (upd (upd (upd (upd (upd (upd (upd (upd S (39 + sn S 32) (nI k)) (45 + sn S 32) (nI v)) (14 + sn S 32) (nI sd)) (20 + sn S 32) (nI 0)) (26 + sn S 32) (nI 0)) (51 + 4 * sn S 32) (nI 0)) (51 + 4 * sn S 32 + 1) (nI 0)) (51 + 4 * sn S 32 + 2) (nI 0)) (51 + 4 * sn S 32 + 3) (nI 0)) 32 (nI (sn S 32 + 1))) 26 6) (vwn (upd (upd (upd (upd (upd (upd (upd (upd (upd (upd S (39 + sn S 32) (nI k)) (45 + sn S 32) (nI v)) (14 + sn S 32) (nI sd)) (20 + sn S 32) (nI 0)) (26 + sn S 32) (nI 0)) (51 + 4 * sn S 32) (nI 0)) (51 + 4 * sn S 32 + 1) (nI 0)) (51 + 4 * sn S 32 + 2) (nI 0)) (51 + 4 * sn S 32 + 3) (nI 0)) 32 (nI (sn S 32 + 1))) 51 24) le ((upd (upd (upd (upd (upd (upd (upd (upd (upd (upd S (39 + sn S 32) (nI k)) (45 + sn S 32) (nI v)) (14 + sn S 32) (nI sd)) (20 + sn S 32) (nI 0)) (26 + sn S 32) (nI 0)) (51 + 4 * sn S 32) (nI 0)) (51 + 4 * sn S 32 + 1) (nI 0)) (51 + 4 * sn S 32 + 2) (nI 0)) (51 + 4 * sn S 32 + 3) (nI 0)) 32 (nI (sn S 32 + 1))) 32) (bitF (upd (upd (upd (upd (upd (upd (upd (upd (upd (upd S (39 + sn S 32) (nI k)) (45 + sn S 32) (nI v)) (14 + sn S 32) (nI sd)) (20 + sn S 32) (nI 0)) (26 + sn S 32) (nI 0)) (51 + 4 * sn S 32) (nI 0)) (51 + 4 * sn S 32 + 1) (nI 0)) (51 + 4 * sn S 32 + 2) (nI 0)) (51 + 4 * sn S 32 + 3) (nI 0)) 32 (nI (sn S 32 + 1)))) ((upd (upd (upd (upd (upd (upd (upd (upd (upd (upd S (39 + sn S 32) (nI k)) (45 + sn S 32) (nI v)) (14 + sn S 32) (nI sd)) (20 + sn S 32) (nI 0)) (26 + sn S 32) (nI 0)) (51 + 4 * sn S 32) (nI 0)) (51 + 4 * sn S 32 + 1) (nI 0)) (51 + 4 * sn S 32 + 2) (nI 0)) (51 + 4 * sn S 32 + 3) (nI 0)) 32 (nI (sn S 32 + 1))) 0) ((upd (upd (upd (upd (upd (upd (upd (upd (upd (upd S (39 + sn S 32) (nI k)) (45 + sn S 32) (nI v)) (14 + sn S 32) (nI sd)) (20 + sn S 32) (nI 0)) (26 + sn S 32) (nI 0)) (51 + 4 * sn S 32) (nI 0)) (51 + 4 * sn S 32 + 1) (nI 0)) (51 + 4 * sn S 32 + 2) (nI 0)) (51 + 4 * sn S 32 + 3) (nI 0)) 32 (nI (sn S 32 + 1))) 1) t ((upd (upd (upd (upd (upd (upd (upd (upd (upd (upd S (39 + sn S 32) (nI k)) (45 + sn S 32) (nI v)) (14 + sn S 32) (nI sd)) (20 + sn S 32) (nI 0)) (26 + sn S 32) (nI 0)) (51 + 4 * sn S 32) (nI 0)) (51 + 4 * sn S 32 + 1) (nI 0)) (51 + 4 * sn S 32 + 2) (nI 0)) (51 + 4 * sn S 32 + 3) (nI 0)) 32 (nI (sn S 32 + 1))) 33) mu wa)) (mo_eq (by rw [vwn_ne (o := 2) (n := 6) (by omega), vwn_ne (o := 2) (n := 6) (by omega), vwn_ne (o := 2) (n := 6) (by omega), vwn_ne (o := 2) (n := 6) (by omega), vwn_ne (o := 2) (n := 6) (by omega), vwn_ne (o := 2) (n := 6) (by omega), vwn_ne (o := 2) (n := 6) (by omega), vwn_ne (o := 2) (n := 6) (by omega), vwn_ne (o := 2) (n := 6) (by omega), vwn_ne (o := 2) (n := 6) (by omega)]) rfl rfl (by rw [vwn_ne (o := 14) (n := 6) (by omega), vwn_ne (o := 14) (n := 6) (by omega), vwn_ne (o := 14) (n := 6) (by omega), vwn_ne (o := 14) (n := 6) (by omega), vwn_ne (o := 14) (n := 6) (by omega), vwn_ne (o := 14) (n := 6) (by omega), vwn_ne (o := 14) (n := 6) (by omega), ← vwn_upd (by omega), vwn_ne (o := 14) (n := 6) (by omega), vwn_ne (o := 14) (n := 6) (by omega)]) (by rw [vwn_ne (o := 20) (n := 6) (by omega), vwn_ne (o := 20) (n := 6) (by omega), vwn_ne (o := 20) (n := 6) (by omega), vwn_ne (o := 20) (n := 6) (by omega), vwn_ne (o := 20) (n := 6) (by omega), vwn_ne (o := 20) (n := 6) (by omega), ← vwn_upd (by omega), vwn_ne (o := 20) (n := 6) (by omega), vwn_ne (o := 20) (n := 6) (by omega), vwn_ne (o := 20) (n := 6) (by omega)]) (by rw [vwn_ne (o := 26) (n := 6) (by omega), vwn_ne (o := 26) (n := 6) (by omega), vwn_ne (o := 26) (n := 6) (by omega), vwn_ne (o := 26) (n := 6) (by omega), vwn_ne (o := 26) (n := 6) (by omega), ← vwn_upd (by omega), vwn_ne (o := 26) (n := 6) (by omega), vwn_ne (o := 26) (n := 6) (by omega), vwn_ne (o := 26) (n := 6) (by omega), vwn_ne (o := 26) (n := 6) (by omega)]) (com_rw hlt) rfl (by rw [upd_eq]) (by rw [bitF_ne (by omega), bitF_ne (by omega), bitF_ne (by omega), bitF_ne (by omega), bitF_ne (by omega), bitF_ne (by omega), bitF_ne (by omega), bitF_ne (by omega), bitF_ne (by omega), bitF_ne (by omega)]) (by rw [upd_ne _ _ (by omega), upd_ne _ _ (by omega), upd_ne _ _ (by omega), upd_ne _ _ (by omega), upd_ne _ _ (by omega), upd_ne _ _ (by omega), upd_ne _ _ (by omega), upd_ne _ _ (by omega), upd_ne _ _ (by omega), upd_ne _ _ (by omega)]) (by rw [upd_ne _ _ (by omega), upd_ne _ _ (by omega), upd_ne _ _ (by omega), upd_ne _ _ (by omega), upd_ne _ _ (by omega), upd_ne _ _ (by omega), upd_ne _ _ (by omega), upd_ne _ _ (by omega), upd_ne _ _ (by omega), upd_ne _ _ (by omega)]) (by rw [upd_ne _ _ (by omega), upd_ne _ _ (by omega), upd_ne _ _ (by omega), upd_ne _ _ (by omega), upd_ne _ _ (by omega), upd_ne _ _ (by omega), upd_ne _ _ (by omega), upd_ne _ _ (by omega), upd_ne _ _ (by omega), upd_ne _ _ (by omega)]) rfl rfl) ?_
  refine ev_iload_n hC dX3_comes_71 rfl 0 rfl ?_
  refine ev_iret hC hR rfl dX3_comes_72 ?_
  exact ⟨rfl, rfl, rfl⟩
