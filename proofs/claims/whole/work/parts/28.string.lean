set_option maxHeartbeats 4000000 in
set_option maxRecDepth 100000 in
theorem m_J3_ckn (G : GG) (ro : va_W) (i n : Nat)  (hi : i < n) (hn : n < 2 ^ 31) : Mth G M_J3_checkIndex_8e157 0 0 0 [.int (nI i), .int (nI n), .null] [] ro (fun r ws' ro' => r = some (.int (nI i)) ∧ ws' = [] ∧ ro = ro') := by
  refine mth_of (by decide +kernel) (Nat.le_of_ble_eq_true rfl) (fun X hC hR => ?_)
  show Ev G X 0 0 0 [(0, .int (nI i)), (1, .int (nI n)), (2, .null)] [] [] ro
  refine ev_iload_n hC dJ3_checkIndex_8e157_0 rfl 0 rfl ?_
  refine ev_if_ltN (tgt := 9) hC dJ3_checkIndex_8e157_1 (by omega) ?_ (by decide)
  refine ev_iload_n hC dJ3_checkIndex_8e157_4 rfl 0 rfl ?_
  refine ev_iload_n hC dJ3_checkIndex_8e157_5 rfl 1 rfl ?_
  refine ev_icmp_ltN (tgt := 16) hC dJ3_checkIndex_8e157_6 (by decide) (by omega) (by omega) (fun c_1 => ?_) (fun c_1 => absurd c_1 (by omega))
  refine ev_iload_n hC dJ3_checkIndex_8e157_16 rfl 0 rfl ?_
  refine ev_iret hC hR rfl dJ3_checkIndex_8e157_17 ?_
  exact ⟨rfl, rfl, rfl⟩

set_option maxHeartbeats 4000000 in
set_option maxRecDepth 100000 in
theorem m_J3_ckr (G : GG) (ro : va_W) (i n : Nat) (t : Nat) (hi : i < n) (hn : n < 2 ^ 31) : Mth G M_J3_checkIndex_8e157 0 0 0 [.int (nI i), .int (nI n), .ref t] [] ro (fun r ws' ro' => r = some (.int (nI i)) ∧ ws' = [] ∧ ro = ro') := by
  refine mth_of (by decide +kernel) (Nat.le_of_ble_eq_true rfl) (fun X hC hR => ?_)
  show Ev G X 0 0 0 [(0, .int (nI i)), (1, .int (nI n)), (2, .ref t)] [] [] ro
  refine ev_iload_n hC dJ3_checkIndex_8e157_0 rfl 0 rfl ?_
  refine ev_if_ltN (tgt := 9) hC dJ3_checkIndex_8e157_1 (by omega) ?_ (by decide)
  refine ev_iload_n hC dJ3_checkIndex_8e157_4 rfl 0 rfl ?_
  refine ev_iload_n hC dJ3_checkIndex_8e157_5 rfl 1 rfl ?_
  refine ev_icmp_ltN (tgt := 16) hC dJ3_checkIndex_8e157_6 (by decide) (by omega) (by omega) (fun c_1 => ?_) (fun c_1 => absurd c_1 (by omega))
  refine ev_iload_n hC dJ3_checkIndex_8e157_16 rfl 0 rfl ?_
  refine ev_iret hC hR rfl dJ3_checkIndex_8e157_17 ?_
  exact ⟨rfl, rfl, rfl⟩

theorem m_J3_checkIndex_8e157 (G : GG) (ro : va_W) (i n : Nat) (v : Value) (hv : v = .null ∨ ∃ t : Nat, v = .ref t) (hi : i < n) (hn : n < 2 ^ 31) : Mth G M_J3_checkIndex_8e157 0 0 0 [.int (nI i), .int (nI n), v] [] ro (fun r ws' ro' => r = some (.int (nI i)) ∧ ws' = [] ∧ ro = ro') := by
  rcases hv with rfl | ⟨t, rfl⟩
  · exact m_J3_ckn G ro i n hi hn
  · exact m_J3_ckr G ro i n t hi hn

set_option maxHeartbeats 4000000 in
set_option maxRecDepth 100000 in
theorem m_J0_checkIndex_df160 (G : GG) (ro : va_W) (i n : Nat) (hi : i < n) (hn : n < 2 ^ 31) : Mth G M_J0_checkIndex_df160 1 0 0 [.int (nI i), .int (nI n)] [] ro (fun r ws' ro' => r = none ∧ ws' = [] ∧ ro = ro') := by
  refine mth_of (by decide +kernel) (Nat.le_of_ble_eq_true rfl) (fun X hC hR => ?_)
  show Ev G X 0 0 0 [(0, .int (nI i)), (1, .int (nI n))] [] [] ro
  refine ev_iload_n hC dJ0_checkIndex_df160_0 rfl 0 rfl ?_
  refine ev_iload_n hC dJ0_checkIndex_df160_1 rfl 1 rfl ?_
  refine ev_getsQ hC (ft_in 448 (by decide +kernel) rfl) dJ0_checkIndex_df160_2 (fun v_1 hv_1 => ?_)
  refine ev_callS (As := [.int (nI i), .int (nI n), v_1]) (st := []) (wc := []) (wf := []) hC ct_J0_1059 (m_J3_checkIndex_8e157 G ro i n v_1 hv_1 (by omega) (by omega)) (by decide) rfl rfl (Nat.le_of_ble_eq_true rfl) (List.Perm.refl _) dJ0_checkIndex_df160_5 (by decide) (by decide) ?_
  rintro _ _ _ ⟨rfl, rfl, rfl⟩
  refine ev_ws (List.nil_append _) ?_
  show Ev G X 0 0 8 [(0, .int (nI i)), (1, .int (nI n))] [.int (nI i)] [] ro
  refine ev_pop hC dJ0_checkIndex_df160_8 rfl ?_
  refine ev_vret hC hR rfl dJ0_checkIndex_df160_9 ?_
  exact ⟨rfl, rfl, rfl⟩

set_option maxHeartbeats 4000000 in
set_option maxRecDepth 100000 in
theorem m_J1_charAt_3b067 (G : GG) (ro : va_W) (k i : Nat) (hk : k < 12) (hi : i < strLen.getD k 0) : Mth G M_J1_charAt_3b067 2 0 0 [.ref (gV G k), .int (nI i)] [] ro (fun r ws' ro' => r = some (.int (chF k i)) ∧ ws' = [] ∧ ro = ro') := by
  refine mth_of (by decide +kernel) (Nat.le_of_ble_eq_true rfl) (fun X hC hR => ?_)
  have hlen := strLen_le k hk
  show Ev G X 0 0 0 [(0, .ref (gV G k)), (1, .int (nI i))] [] [] ro
  refine ev_iload_n hC dJ1_charAt_3b067_0 rfl 1 rfl ?_
  refine ev_aload_n hC dJ1_charAt_3b067_1 rfl 0 rfl ?_
  refine ev_strlen (i := k) (v := nI (strLen.getD k 0)) hC (by omega) rfl dJ1_charAt_3b067_2 ?_
  refine ev_callS (As := [.int (nI i), .int (nI (strLen.getD k 0))]) (st := []) (wc := []) (wf := []) hC ct_J1_9 (m_J0_checkIndex_df160 G ro i (strLen.getD k 0) (by omega) (by omega)) (by decide) rfl rfl (Nat.le_of_ble_eq_true rfl) (List.Perm.refl _) dJ1_charAt_3b067_3 (by decide) (by decide) ?_
  rintro _ _ _ ⟨rfl, rfl, rfl⟩
  refine ev_ws (List.nil_append _) ?_
  show Ev G X 0 0 6 [(0, .ref (gV G k)), (1, .int (nI i))] [] [] ro
  refine ev_aload_n hC dJ1_charAt_3b067_6 rfl 0 rfl ?_
  refine ev_iload_n hC dJ1_charAt_3b067_7 rfl 1 rfl ?_
  refine ev_strald (i := k) hC hk (nI_in' hi (by omega)) dJ1_charAt_3b067_8 ?_
  refine ev_top (y := (chF k i)) (by rw [nI_clamp (by omega)]; rfl) ?_
  refine ev_sipush (v := (nI 255)) hC dJ1_charAt_3b067_9 (by decide) ?_
  refine ev_iand hC dJ1_charAt_3b067_12 ?_
  refine ev_i2c hC dJ1_charAt_3b067_13 rfl ?_
  refine ev_top (y := (chF k i)) (chF_get k hk i hi) ?_
  refine ev_zret hC hR rfl (chF_fits k hk i hi) dJ1_charAt_3b067_14 ?_
  exact ⟨rfl, rfl, rfl⟩

set_option maxHeartbeats 4000000 in
set_option maxRecDepth 100000 in
theorem m_J0_isLatin1_aae02 (G : GG) (ro : va_W) (k : Nat) (hk : k < 12) : Mth G M_J0_isLatin1_aae02 0 0 0 [.ref (gK G k)] [] ro (fun r ws' ro' => r = some (.int (nI 1)) ∧ ws' = [] ∧ ro = ro') := by
  refine mth_of (by decide +kernel) (Nat.le_of_ble_eq_true rfl) (fun X hC hR => ?_)
  show Ev G X 0 0 0 [(0, .ref (gK G k))] [] [] ro
  refine ev_getsC (ref := "") hC (ft_in 409 (by decide +kernel) rfl) dJ0_isLatin1_aae02_0 ?_
  refine ev_top (y := (nI 1)) rfl ?_
  refine ev_if_eqN (tgt := 17) hC dJ0_isLatin1_aae02_3 (by decide) (by omega) (fun c_1 => absurd c_1 (by omega)) (fun c_1 => ?_)
  refine ev_aload_n hC dJ0_isLatin1_aae02_6 rfl 0 rfl ?_
  refine ev_strget (i := k) (v := .int (nI 0)) hC (by omega) (Or.inl ⟨rfl, rfl, rfl⟩) (ft_in 1522 (by decide +kernel) rfl) dJ0_isLatin1_aae02_7 ?_
  refine ev_if_neN (tgt := 17) hC dJ0_isLatin1_aae02_10 (by decide) (by omega) (fun c_2 => absurd c_2 (by omega)) (fun c_2 => ?_)
  refine ev_iconst (v := (nI 1)) hC dJ0_isLatin1_aae02_13 (by decide) ?_
  refine ev_goto (tgt := 18) hC dJ0_isLatin1_aae02_14 (by decide) ?_
  refine ev_zret hC hR rfl (by rfl) dJ0_isLatin1_aae02_18 ?_
  exact ⟨rfl, rfl, rfl⟩

set_option maxHeartbeats 4000000 in
set_option maxRecDepth 100000 in
theorem m_J0_coder_7d493 (G : GG) (ro : va_W) (k : Nat) (hk : k < 12) : Mth G M_J0_coder_7d493 0 0 0 [.ref (gK G k)] [] ro (fun r ws' ro' => r = some (.int (nI 0)) ∧ ws' = [] ∧ ro = ro') := by
  refine mth_of (by decide +kernel) (Nat.le_of_ble_eq_true rfl) (fun X hC hR => ?_)
  show Ev G X 0 0 0 [(0, .ref (gK G k))] [] [] ro
  refine ev_getsC (ref := "") hC (ft_in 409 (by decide +kernel) rfl) dJ0_coder_7d493_0 ?_
  refine ev_top (y := (nI 1)) rfl ?_
  refine ev_if_eqN (tgt := 13) hC dJ0_coder_7d493_3 (by decide) (by omega) (fun c_1 => absurd c_1 (by omega)) (fun c_1 => ?_)
  refine ev_aload_n hC dJ0_coder_7d493_6 rfl 0 rfl ?_
  refine ev_strget (i := k) (v := .int (nI 0)) hC (by omega) (Or.inl ⟨rfl, rfl, rfl⟩) (ft_in 1522 (by decide +kernel) rfl) dJ0_coder_7d493_7 ?_
  refine ev_goto (tgt := 14) hC dJ0_coder_7d493_10 (by decide) ?_
  refine ev_zret hC hR rfl (by rfl) dJ0_coder_7d493_14 ?_
  exact ⟨rfl, rfl, rfl⟩

set_option maxHeartbeats 4000000 in
set_option maxRecDepth 100000 in
theorem m_J0_length_8abf5 (G : GG) (ro : va_W) (k : Nat) (hk : k < 12) : Mth G M_J0_length_8abf5 1 0 0 [.ref (gK G k)] [] ro (fun r ws' ro' => r = some (.int (nI (strLen.getD k 0))) ∧ ws' = [] ∧ ro = ro') := by
  refine mth_of (by decide +kernel) (Nat.le_of_ble_eq_true rfl) (fun X hC hR => ?_)
  have hlen := strLen_le k hk
  show Ev G X 0 0 0 [(0, .ref (gK G k))] [] [] ro
  refine ev_aload_n hC dJ0_length_8abf5_0 rfl 0 rfl ?_
  refine ev_strget (i := k) (v := .ref (gV G k)) hC (by omega) (Or.inr ⟨rfl, rfl, rfl⟩) (ft_in 1523 (by decide +kernel) rfl) dJ0_length_8abf5_1 ?_
  refine ev_strlen (i := k) (v := nI (strLen.getD k 0)) hC (by omega) rfl dJ0_length_8abf5_4 ?_
  refine ev_aload_n hC dJ0_length_8abf5_5 rfl 0 rfl ?_
  refine ev_callK (As := []) (st := [.int (nI (strLen.getD k 0))]) (wc := []) (wf := []) hC cv_J0_335 rfl (m_J0_coder_7d493 G ro k (by omega)) (by decide) rfl rfl (Nat.le_of_ble_eq_true rfl) (List.Perm.refl _) (by omega) dJ0_length_8abf5_6 (by decide) (by decide) ?_
  rintro _ _ _ ⟨rfl, rfl, rfl⟩
  refine ev_ws (List.nil_append _) ?_
  show Ev G X 0 0 9 [(0, .ref (gK G k))] [.int (nI 0), .int (nI (strLen.getD k 0))] [] ro
  refine ev_ishr hC dJ0_length_8abf5_9 ?_
  refine ev_top (y := (nI (strLen.getD k 0))) (sc_shr0 (by omega)) ?_
  refine ev_iret hC hR rfl dJ0_length_8abf5_10 ?_
  exact ⟨rfl, rfl, rfl⟩

set_option maxHeartbeats 4000000 in
set_option maxRecDepth 100000 in
theorem m_J0_charAt_5068e (G : GG) (ro : va_W) (k i : Nat) (hk : k < 12) (hi : i < strLen.getD k 0) : Mth G M_J0_charAt_5068e 3 0 0 [.ref (gK G k), .int (nI i)] [] ro (fun r ws' ro' => r = some (.int (chF k i)) ∧ ws' = [] ∧ ro = ro') := by
  refine mth_of (by decide +kernel) (Nat.le_of_ble_eq_true rfl) (fun X hC hR => ?_)
  show Ev G X 0 0 0 [(0, .ref (gK G k)), (1, .int (nI i))] [] [] ro
  refine ev_aload_n hC dJ0_charAt_5068e_0 rfl 0 rfl ?_
  refine ev_callK (As := []) (st := []) (wc := []) (wf := []) hC cv_J0_492 rfl (m_J0_isLatin1_aae02 G ro k (by omega)) (by decide) rfl rfl (Nat.le_of_ble_eq_true rfl) (List.Perm.refl _) (by omega) dJ0_charAt_5068e_1 (by decide) (by decide) ?_
  rintro _ _ _ ⟨rfl, rfl, rfl⟩
  refine ev_ws (List.nil_append _) ?_
  show Ev G X 0 0 4 [(0, .ref (gK G k)), (1, .int (nI i))] [.int (nI 1)] [] ro
  refine ev_if_eqN (tgt := 16) hC dJ0_charAt_5068e_4 (by decide) (by omega) (fun c_1 => absurd c_1 (by omega)) (fun c_1 => ?_)
  refine ev_aload_n hC dJ0_charAt_5068e_7 rfl 0 rfl ?_
  refine ev_strget (i := k) (v := .ref (gV G k)) hC (by omega) (Or.inr ⟨rfl, rfl, rfl⟩) (ft_in 1523 (by decide +kernel) rfl) dJ0_charAt_5068e_8 ?_
  refine ev_iload_n hC dJ0_charAt_5068e_11 rfl 1 rfl ?_
  refine ev_callS (As := [.ref (gV G k), .int (nI i)]) (st := []) (wc := []) (wf := []) hC ct_J0_495 (m_J1_charAt_3b067 G ro k i (by omega) (by first | assumption | decide)) (by decide) rfl rfl (Nat.le_of_ble_eq_true rfl) (List.Perm.refl _) dJ0_charAt_5068e_12 (by decide) (by decide) ?_
  rintro _ _ _ ⟨rfl, rfl, rfl⟩
  refine ev_ws (List.nil_append _) ?_
  show Ev G X 0 0 15 [(0, .ref (gK G k)), (1, .int (nI i))] [.int (chF k i)] [] ro
  refine ev_zret hC hR rfl (chF_fits k hk i hi) dJ0_charAt_5068e_15 ?_
  exact ⟨rfl, rfl, rfl⟩
