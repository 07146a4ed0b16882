/-- x at the places from i to j -/
def flF (f : Nat → Int32) (i j : Nat) (x : Int32) : Nat → Int32 := fun k => if i ≤ k ∧ k < j then x else f k
theorem flF_0 (f : Nat → Int32) (i : Nat) (x : Int32) : flF f i i x = f := funext fun k => if_neg (by omega)
theorem flF_s (f : Nat → Int32) {i j : Nat} (x : Int32) (h : i ≤ j) : upd (flF f i j x) j x = flF f i (j + 1) x := by
  funext k
  unfold upd flF
  by_cases c : k = j
  · subst c
    rw [if_pos rfl, if_pos (by omega)]
  · rw [if_neg c]
    by_cases d : i ≤ k ∧ k < j
    · rw [if_pos d, if_pos (by omega)]
    · rw [if_neg d, if_neg (by omega)]

set_option maxHeartbeats 4000000 in
set_option maxRecDepth 100000 in
theorem m_J7_fill_53178 (G : GG) (ro : va_W) (a n : Nat) (f : Nat → Int32) (x : Int32) (hn : n < 2 ^ 31) : Mth G M_J7_fill_53178 0 0 0 [.ref a, .int x] ([(a, ia G n f)]) ro (fun r ws' ro' => r = none ∧ ws' = ([(a, ia G n (flF f 0 n x))]) ∧ ro = ro') := by
  refine mth_of (by decide +kernel) (Nat.le_of_ble_eq_true rfl) (fun X hC hR => ?_)
  show Ev G X 0 0 0 [(0, .ref a), (1, .int x)] [] ([(a, ia G n f)]) ro
  refine ev_iconst (v := (nI 0)) hC dJ7_fill_53178_0 (by decide) ?_
  refine ev_istore_n (lv' := [(2, .int (nI 0)), (0, .ref a), (1, .int x)]) hC dJ7_fill_53178_1 rfl (by decide) rfl ?_
  refine ev_aload_n hC dJ7_fill_53178_2 rfl 1 rfl ?_
  refine ev_alen (v := nI n) hC (mw 0 rfl) rfl dJ7_fill_53178_3 ?_
  refine ev_istore_n (lv' := [(3, .int (nI n)), (2, .int (nI 0)), (0, .ref a), (1, .int x)]) hC dJ7_fill_53178_4 rfl (by decide) rfl ?_
  have lp_5 : ∀ (fu_5 : Nat) (j : Nat) (hj : j ≤ n) (hn : n - j < fu_5), Ev G X 0 0 5 [(0, .ref a), (1, .int x), (2, .int (nI j)), (3, .int (nI n))] [] ([(a, ia G n (flF f 0 j x))]) ro := by
    intro fu_5
    induction fu_5 with
    | zero => intro j hj hn; exact absurd hn (Nat.not_lt_zero _)
    | succ fu_5 ih =>
      intro j hj hn
      refine ev_iload_n hC dJ7_fill_53178_5 rfl 2 rfl ?_
      refine ev_iload_n hC dJ7_fill_53178_6 rfl 3 rfl ?_
      refine ev_icmp_geN (tgt := 20) hC dJ7_fill_53178_7 (by decide) (by omega) (by omega) (fun c_1 => ?_) (fun c_1 => ?_)
      · refine ev_vret hC hR rfl dJ7_fill_53178_20 ?_
        obtain rfl : j = n := by omega
        exact ⟨rfl, rfl, rfl⟩
      · refine ev_aload_n hC dJ7_fill_53178_10 rfl 0 rfl ?_
        refine ev_iload_n hC dJ7_fill_53178_11 rfl 2 rfl ?_
        refine ev_iload_n hC dJ7_fill_53178_12 rfl 1 rfl ?_
        refine ev_iastN (i := j) (ws' := ([(a, ia G n (upd (flF f 0 j x) j x))])) (q0 := 0) hC rfl (by omega) (by omega) rfl dJ7_fill_53178_13 ?_
        refine ev_iinc (v := (nI (j + 1))) (lv' := [(2, .int (nI (j + 1))), (0, .ref a), (1, .int x), (3, .int (nI n))]) hC dJ7_fill_53178_14 (q := 2) rfl (nI_k _ _ 1 (by decide)) (by decide) rfl ?_
        refine ev_goto (tgt := 5) hC dJ7_fill_53178_17 (by decide) ?_
        refine ev_lv [1, 2, 0, 3] rfl ?_
        refine ev_ws (ws' := ([(a, ia G n (flF f 0 (j + 1) x))])) (by rw [flF_s _ _ (by omega)]) ?_
        exact ih (j + 1) (by omega) (by omega)
  refine ev_ws (ws' := ([(a, ia G n (flF f 0 0 x))])) (by rw [flF_0]) ?_
  refine ev_lv [2, 3, 1, 0] rfl ?_
  exact lp_5 (n - 0 + 1) 0 (by omega) (Nat.lt_succ_self _)

set_option maxHeartbeats 4000000 in
set_option maxRecDepth 100000 in
theorem m_J7_rangeCheck_23922 (G : GG) (ro : va_W) (n i j : Nat) (hi : i ≤ j) (hj : j ≤ n) (hn : n < 2 ^ 31) : Mth G M_J7_rangeCheck_23922 0 0 0 [.int (nI n), .int (nI i), .int (nI j)] [] ro (fun r ws' ro' => r = none ∧ ws' = [] ∧ ro = ro') := by
  refine mth_of (by decide +kernel) (Nat.le_of_ble_eq_true rfl) (fun X hC hR => ?_)
  show Ev G X 0 0 0 [(0, .int (nI n)), (1, .int (nI i)), (2, .int (nI j))] [] [] ro
  refine ev_iload_n hC dJ7_rangeCheck_23922_0 rfl 1 rfl ?_
  refine ev_iload_n hC dJ7_rangeCheck_23922_1 rfl 2 rfl ?_
  refine ev_icmp_leN (tgt := 46) hC dJ7_rangeCheck_23922_2 (by decide) (by omega) (by omega) (fun c_1 => ?_) (fun c_1 => absurd c_1 (by omega))
  refine ev_iload_n hC dJ7_rangeCheck_23922_46 rfl 1 rfl ?_
  refine ev_if_geN (tgt := 59) hC dJ7_rangeCheck_23922_47 (by omega) ?_ (by decide)
  refine ev_iload_n hC dJ7_rangeCheck_23922_59 rfl 2 rfl ?_
  refine ev_iload_n hC dJ7_rangeCheck_23922_60 rfl 0 rfl ?_
  refine ev_icmp_leN (tgt := 73) hC dJ7_rangeCheck_23922_61 (by decide) (by omega) (by omega) (fun c_2 => ?_) (fun c_2 => absurd c_2 (by omega))
  refine ev_vret hC hR rfl dJ7_rangeCheck_23922_73 ?_
  exact ⟨rfl, rfl, rfl⟩

set_option maxHeartbeats 4000000 in
set_option maxRecDepth 100000 in
theorem m_J7_fill_fda19 (G : GG) (ro : va_W) (a n i j : Nat) (f : Nat → Int32) (x : Int32) (hi : i ≤ j) (hj : j ≤ n) (hn : n < 2 ^ 31) : Mth G M_J7_fill_fda19 1 0 0 [.ref a, .int (nI i), .int (nI j), .int x] ([(a, ia G n f)]) ro (fun r ws' ro' => r = none ∧ ws' = ([(a, ia G n (flF f i j x))]) ∧ ro = ro') := by
  refine mth_of (by decide +kernel) (Nat.le_of_ble_eq_true rfl) (fun X hC hR => ?_)
  show Ev G X 0 0 0 [(0, .ref a), (1, .int (nI i)), (2, .int (nI j)), (3, .int x)] [] ([(a, ia G n f)]) ro
  refine ev_aload_n hC dJ7_fill_fda19_0 rfl 0 rfl ?_
  refine ev_alen (v := nI n) hC (mw 0 rfl) rfl dJ7_fill_fda19_1 ?_
  refine ev_iload_n hC dJ7_fill_fda19_2 rfl 1 rfl ?_
  refine ev_iload_n hC dJ7_fill_fda19_3 rfl 2 rfl ?_
  refine ev_callS (As := [.int (nI n), .int (nI i), .int (nI j)]) (st := []) (wc := []) (wf := ([(a, ia G n f)])) hC ct_J7_13 (m_J7_rangeCheck_23922 G ro n i j (by omega) (by omega) (by omega)) (by omega) rfl rfl (Nat.le_of_ble_eq_true rfl) (List.Perm.refl _) dJ7_fill_fda19_4 (by omega) (by omega) ?_
  rintro _ _ _ ⟨rfl, rfl, rfl⟩
  refine ev_ws (List.nil_append _) ?_
  show Ev G X 0 0 7 [(0, .ref a), (1, .int (nI i)), (2, .int (nI j)), (3, .int x)] [] ([(a, ia G n f)]) ro
  refine ev_iload_n hC dJ7_fill_fda19_7 rfl 1 rfl ?_
  refine ev_istore (lv' := [(4, .int (nI i)), (0, .ref a), (1, .int (nI i)), (2, .int (nI j)), (3, .int x)]) hC dJ7_fill_fda19_8 (by decide) rfl ?_
  have lp_10 : ∀ (fu_10 : Nat) (k : Nat) (hk : i ≤ k ∧ k ≤ j) (hn : j - k < fu_10), Ev G X 0 0 10 [(0, .ref a), (1, .int (nI i)), (2, .int (nI j)), (3, .int x), (4, .int (nI k))] [] ([(a, ia G n (flF f i k x))]) ro := by
    intro fu_10
    induction fu_10 with
    | zero => intro k hk hn; exact absurd hn (Nat.not_lt_zero _)
    | succ fu_10 ih =>
      intro k hk hn
      refine ev_iload hC dJ7_fill_fda19_10 4 rfl ?_
      refine ev_iload_n hC dJ7_fill_fda19_12 rfl 2 rfl ?_
      refine ev_icmp_geN (tgt := 27) hC dJ7_fill_fda19_13 (by decide) (by omega) (by omega) (fun c_1 => ?_) (fun c_1 => ?_)
      · refine ev_vret hC hR rfl dJ7_fill_fda19_27 ?_
        obtain rfl : k = j := by omega
        exact ⟨rfl, rfl, rfl⟩
      · refine ev_aload_n hC dJ7_fill_fda19_16 rfl 0 rfl ?_
        refine ev_iload hC dJ7_fill_fda19_17 4 rfl ?_
        refine ev_iload_n hC dJ7_fill_fda19_19 rfl 3 rfl ?_
        refine ev_iastN (i := k) (ws' := ([(a, ia G n (upd (flF f i k x) k x))])) (q0 := 0) hC rfl (by omega) (by omega) rfl dJ7_fill_fda19_20 ?_
        refine ev_iinc (v := (nI (k + 1))) (lv' := [(4, .int (nI (k + 1))), (0, .ref a), (1, .int (nI i)), (2, .int (nI j)), (3, .int x)]) hC dJ7_fill_fda19_21 (q := 4) rfl (nI_k _ _ 1 (by decide)) (by decide) rfl ?_
        refine ev_goto (tgt := 10) hC dJ7_fill_fda19_24 (by decide) ?_
        refine ev_lv [1, 2, 3, 4, 0] rfl ?_
        refine ev_ws (ws' := ([(a, ia G n (flF f i (k + 1) x))])) (by rw [flF_s _ _ (by omega)]) ?_
        exact ih (k + 1) (by omega) (by omega)
  refine ev_ws (ws' := ([(a, ia G n (flF f i i x))])) (by rw [flF_0]) ?_
  refine ev_lv [1, 2, 3, 4, 0] rfl ?_
  exact lp_10 (j - i + 1) i (by omega) (Nat.lt_succ_self _)

set_option maxHeartbeats 4000000 in
set_option maxRecDepth 100000 in
theorem m_J7_copyOf_59c91 (G : GG) (ro : va_W) (a n0 n : Nat) (f : Nat → Int32) (h0 : n0 ≤ 1000) (h1 : n ≤ n0) (h2 : n ≤ 100) : Mth G M_J7_copyOf_59c91 1 1 100 [.ref a, .int (nI n)] ([(a, ia G n0 f)]) ro (fun r ws' ro' => ∃ (q : Nat), ∃ (g : Nat → Int32), (∀ j, j < n → g j = f j) ∧ r = some (.ref q) ∧ ws' = (List.flatten [[(a, ia G n0 f)], [(q, ia G n g)]]) ∧ ro = ro') := by
  refine mth_of (by decide +kernel) (Nat.le_of_ble_eq_true rfl) (fun X hC hR => ?_)
  show Ev G X 1 100 0 [(0, .ref a), (1, .int (nI n))] [] ([(a, ia G n0 f)]) ro
  refine ev_iload_n hC dJ7_copyOf_59c91_0 rfl 1 rfl ?_
  refine ev_aload_n hC dJ7_copyOf_59c91_1 rfl 0 rfl ?_
  refine ev_alen (v := nI n0) hC (mw 0 rfl) rfl dJ7_copyOf_59c91_2 ?_
  refine ev_icmp_neN (tgt := 14) hC dJ7_copyOf_59c91_3 (by decide) (by omega) (by omega) (fun c_1 => ?_) (fun c_1 => ?_)
  · refine ev_iload_n hC dJ7_copyOf_59c91_14 rfl 1 rfl ?_
    refine ev_newi (N := n) hC dJ7_copyOf_59c91_15 (nI_pos (by omega)) (nI_clamp (by omega)) (by omega) (by omega) (by omega) (fun q_2 => ?_)
    show Ev G X 0 (100 - n) 17 [(0, .ref a), (1, .int (nI n))] [.ref q_2] (List.flatten [[(a, ia G n0 f)], [(q_2, ia G n (fun _ => 0))]]) ro
    refine ev_astore_n (lv' := [(2, .ref q_2), (0, .ref a), (1, .int (nI n))]) hC dJ7_copyOf_59c91_17 rfl (by decide) rfl ?_
    refine ev_aload_n hC dJ7_copyOf_59c91_18 rfl 1 rfl ?_
    refine ev_iconst (v := (nI 0)) hC dJ7_copyOf_59c91_19 (by decide) ?_
    refine ev_aload_n hC dJ7_copyOf_59c91_20 rfl 0 rfl ?_
    refine ev_iconst (v := (nI 0)) hC dJ7_copyOf_59c91_21 (by decide) ?_
    refine ev_aload_n hC dJ7_copyOf_59c91_22 rfl 1 rfl ?_
    refine ev_alen (v := nI n0) hC (mw 0 rfl) rfl dJ7_copyOf_59c91_23 ?_
    refine ev_iload_n hC dJ7_copyOf_59c91_24 rfl 2 rfl ?_
    refine ev_mmin hC ⟨(ft_in 557 (by decide +kernel) rfl), (ft_in 382 (by decide +kernel) rfl), (ft_in 68 (by decide +kernel) rfl), (ft_in 383 (by decide +kernel) rfl)⟩ (by omega) (Nat.le_of_ble_eq_true rfl) dJ7_copyOf_59c91_25 ?_
    refine ev_top (y := (nI (min n0 n))) (mnN (by omega) (by omega)) ?_
    refine ev_copy0 (ws' := (List.flatten [[(a, ia G n0 f)], [(q_2, ia G n (cpF (min n0 n) f (fun _ => 0)))]])) (n := (min n0 n)) (q0 := 0) (q1 := 1) hC (⟨(ft_in 558 (by decide +kernel) rfl), (ft_in 387 (by decide +kernel) rfl), (ft_in 386 (by decide +kernel) rfl), (ft_in 75 (by decide +kernel) rfl)⟩) rfl rfl (by omega) (by omega) (by omega) (by omega) (Nat.le_of_ble_eq_true rfl) rfl dJ7_copyOf_59c91_28 ?_
    refine ev_aload_n hC dJ7_copyOf_59c91_31 rfl 0 rfl ?_
    refine ev_aret hC hR rfl (by first | exact Or.inl ⟨_, rfl⟩ | exact Or.inr ⟨_, rfl⟩) dJ7_copyOf_59c91_32 ?_
    exact ⟨q_2, (cpF (min n0 n) f (fun _ => 0)), fun j hj => if_pos (by omega), rfl, rfl, rfl⟩
  · refine ev_aload_n hC dJ7_copyOf_59c91_6 rfl 0 rfl ?_
    refine ev_clone hC rfl ⟨(ft_in 550 (by decide +kernel) rfl), (ft_in 551 (by decide +kernel) rfl), (ft_in 552 (by decide +kernel) rfl), (ft_in 553 (by decide +kernel) rfl), (ft_in 554 (by decide +kernel) rfl)⟩ (mw 0 rfl) (by omega) (Nat.le_of_ble_eq_true rfl) (by omega) (by omega) dJ7_copyOf_59c91_7 (fun q_3 => ?_)
    show Ev G X 0 (100 - n0) 10 [(0, .ref a), (1, .int (nI n))] [.ref q_3] (List.flatten [[(a, ia G n0 f)], [(q_3, ia G n0 f)]]) ro
    refine ev_castI hC (ft_in 556 (by decide +kernel) rfl) (mw 1 rfl) dJ7_copyOf_59c91_10 ?_
    refine ev_aret hC hR rfl (by first | exact Or.inl ⟨_, rfl⟩ | exact Or.inr ⟨_, rfl⟩) dJ7_copyOf_59c91_13 ?_
    obtain rfl : n = n0 := by omega
    exact ⟨q_3, f, fun j hj => rfl, rfl, rfl, rfl⟩

set_option maxHeartbeats 4000000 in
set_option maxRecDepth 100000 in
theorem m_J6_bitCount_0f7a4 (G : GG) (ro : va_W) (i : Nat) (hi : i < 64) : Mth G M_J6_bitCount_0f7a4 0 0 0 [.int (nI i)] [] ro (fun r ws' ro' => r = some (.int (nI (szF i 6))) ∧ ws' = [] ∧ ro = ro') := by
  refine mth_of (by decide +kernel) (Nat.le_of_ble_eq_true rfl) (fun X hC hR => ?_)
  show Ev G X 0 0 0 [(0, .int (nI i))] [] [] ro
  refine ev_iload_n hC dJ6_bitCount_0f7a4_0 rfl 0 rfl ?_
  refine ev_iload_n hC dJ6_bitCount_0f7a4_1 rfl 0 rfl ?_
  refine ev_iconst (v := (nI 1)) hC dJ6_bitCount_0f7a4_2 (by decide) ?_
  refine ev_iushr hC dJ6_bitCount_0f7a4_3 rfl ?_
  refine ev_ldcw (v := 1431655765) hC dJ6_bitCount_0f7a4_4 (ft_in 885 (by decide +kernel) rfl) ?_
  refine ev_iand hC dJ6_bitCount_0f7a4_7 ?_
  refine ev_isub hC dJ6_bitCount_0f7a4_8 ?_
  refine ev_istore_n (lv' := [(0, .int ((nI i) - ((((nI i).toUInt32 >>> ((nI 1).toUInt32 &&& Int32.toUInt32 31)).toInt32) &&& (1431655765 : Int32))))]) hC dJ6_bitCount_0f7a4_9 rfl (by decide) rfl ?_
  refine ev_iload_n hC dJ6_bitCount_0f7a4_10 rfl 0 rfl ?_
  refine ev_ldcw (v := 858993459) hC dJ6_bitCount_0f7a4_11 (ft_in 886 (by decide +kernel) rfl) ?_
  refine ev_iand hC dJ6_bitCount_0f7a4_14 ?_
  refine ev_iload_n hC dJ6_bitCount_0f7a4_15 rfl 0 rfl ?_
  refine ev_iconst (v := (nI 2)) hC dJ6_bitCount_0f7a4_16 (by decide) ?_
  refine ev_iushr hC dJ6_bitCount_0f7a4_17 rfl ?_
  refine ev_ldcw (v := 858993459) hC dJ6_bitCount_0f7a4_18 (ft_in 886 (by decide +kernel) rfl) ?_
  refine ev_iand hC dJ6_bitCount_0f7a4_21 ?_
  refine ev_iadd hC dJ6_bitCount_0f7a4_22 ?_
  refine ev_istore_n (lv' := [(0, .int ((((nI i) - ((((nI i).toUInt32 >>> ((nI 1).toUInt32 &&& Int32.toUInt32 31)).toInt32) &&& (1431655765 : Int32))) &&& (858993459 : Int32)) + (((((nI i) - ((((nI i).toUInt32 >>> ((nI 1).toUInt32 &&& Int32.toUInt32 31)).toInt32) &&& (1431655765 : Int32))).toUInt32 >>> ((nI 2).toUInt32 &&& Int32.toUInt32 31)).toInt32) &&& (858993459 : Int32))))]) hC dJ6_bitCount_0f7a4_23 rfl (by decide) rfl ?_
  refine ev_iload_n hC dJ6_bitCount_0f7a4_24 rfl 0 rfl ?_
  refine ev_iload_n hC dJ6_bitCount_0f7a4_25 rfl 0 rfl ?_
  refine ev_iconst (v := (nI 4)) hC dJ6_bitCount_0f7a4_26 (by decide) ?_
  refine ev_iushr hC dJ6_bitCount_0f7a4_27 rfl ?_
  refine ev_iadd hC dJ6_bitCount_0f7a4_28 ?_
  refine ev_ldcw (v := 252645135) hC dJ6_bitCount_0f7a4_29 (ft_in 887 (by decide +kernel) rfl) ?_
  refine ev_iand hC dJ6_bitCount_0f7a4_32 ?_
  refine ev_istore_n (lv' := [(0, .int ((((((nI i) - ((((nI i).toUInt32 >>> ((nI 1).toUInt32 &&& Int32.toUInt32 31)).toInt32) &&& (1431655765 : Int32))) &&& (858993459 : Int32)) + (((((nI i) - ((((nI i).toUInt32 >>> ((nI 1).toUInt32 &&& Int32.toUInt32 31)).toInt32) &&& (1431655765 : Int32))).toUInt32 >>> ((nI 2).toUInt32 &&& Int32.toUInt32 31)).toInt32) &&& (858993459 : Int32))) + ((((((nI i) - ((((nI i).toUInt32 >>> ((nI 1).toUInt32 &&& Int32.toUInt32 31)).toInt32) &&& (1431655765 : Int32))) &&& (858993459 : Int32)) + (((((nI i) - ((((nI i).toUInt32 >>> ((nI 1).toUInt32 &&& Int32.toUInt32 31)).toInt32) &&& (1431655765 : Int32))).toUInt32 >>> ((nI 2).toUInt32 &&& Int32.toUInt32 31)).toInt32) &&& (858993459 : Int32))).toUInt32 >>> ((nI 4).toUInt32 &&& Int32.toUInt32 31)).toInt32)) &&& (252645135 : Int32)))]) hC dJ6_bitCount_0f7a4_33 rfl (by decide) rfl ?_
  refine ev_iload_n hC dJ6_bitCount_0f7a4_34 rfl 0 rfl ?_
  refine ev_iload_n hC dJ6_bitCount_0f7a4_35 rfl 0 rfl ?_
  refine ev_bipush (v := (nI 8)) hC dJ6_bitCount_0f7a4_36 (by decide) ?_
  refine ev_iushr hC dJ6_bitCount_0f7a4_38 rfl ?_
  refine ev_iadd hC dJ6_bitCount_0f7a4_39 ?_
  refine ev_istore_n (lv' := [(0, .int (((((((nI i) - ((((nI i).toUInt32 >>> ((nI 1).toUInt32 &&& Int32.toUInt32 31)).toInt32) &&& (1431655765 : Int32))) &&& (858993459 : Int32)) + (((((nI i) - ((((nI i).toUInt32 >>> ((nI 1).toUInt32 &&& Int32.toUInt32 31)).toInt32) &&& (1431655765 : Int32))).toUInt32 >>> ((nI 2).toUInt32 &&& Int32.toUInt32 31)).toInt32) &&& (858993459 : Int32))) + ((((((nI i) - ((((nI i).toUInt32 >>> ((nI 1).toUInt32 &&& Int32.toUInt32 31)).toInt32) &&& (1431655765 : Int32))) &&& (858993459 : Int32)) + (((((nI i) - ((((nI i).toUInt32 >>> ((nI 1).toUInt32 &&& Int32.toUInt32 31)).toInt32) &&& (1431655765 : Int32))).toUInt32 >>> ((nI 2).toUInt32 &&& Int32.toUInt32 31)).toInt32) &&& (858993459 : Int32))).toUInt32 >>> ((nI 4).toUInt32 &&& Int32.toUInt32 31)).toInt32)) &&& (252645135 : Int32)) + ((((((((nI i) - ((((nI i).toUInt32 >>> ((nI 1).toUInt32 &&& Int32.toUInt32 31)).toInt32) &&& (1431655765 : Int32))) &&& (858993459 : Int32)) + (((((nI i) - ((((nI i).toUInt32 >>> ((nI 1).toUInt32 &&& Int32.toUInt32 31)).toInt32) &&& (1431655765 : Int32))).toUInt32 >>> ((nI 2).toUInt32 &&& Int32.toUInt32 31)).toInt32) &&& (858993459 : Int32))) + ((((((nI i) - ((((nI i).toUInt32 >>> ((nI 1).toUInt32 &&& Int32.toUInt32 31)).toInt32) &&& (1431655765 : Int32))) &&& (858993459 : Int32)) + (((((nI i) - ((((nI i).toUInt32 >>> ((nI 1).toUInt32 &&& Int32.toUInt32 31)).toInt32) &&& (1431655765 : Int32))).toUInt32 >>> ((nI 2).toUInt32 &&& Int32.toUInt32 31)).toInt32) &&& (858993459 : Int32))).toUInt32 >>> ((nI 4).toUInt32 &&& Int32.toUInt32 31)).toInt32)) &&& (252645135 : Int32)).toUInt32 >>> ((nI 8).toUInt32 &&& Int32.toUInt32 31)).toInt32)))]) hC dJ6_bitCount_0f7a4_40 rfl (by decide) rfl ?_
  refine ev_iload_n hC dJ6_bitCount_0f7a4_41 rfl 0 rfl ?_
  refine ev_iload_n hC dJ6_bitCount_0f7a4_42 rfl 0 rfl ?_
  refine ev_bipush (v := (nI 16)) hC dJ6_bitCount_0f7a4_43 (by decide) ?_
  refine ev_iushr hC dJ6_bitCount_0f7a4_45 rfl ?_
  refine ev_iadd hC dJ6_bitCount_0f7a4_46 ?_
  refine ev_istore_n (lv' := [(0, .int ((((((((nI i) - ((((nI i).toUInt32 >>> ((nI 1).toUInt32 &&& Int32.toUInt32 31)).toInt32) &&& (1431655765 : Int32))) &&& (858993459 : Int32)) + (((((nI i) - ((((nI i).toUInt32 >>> ((nI 1).toUInt32 &&& Int32.toUInt32 31)).toInt32) &&& (1431655765 : Int32))).toUInt32 >>> ((nI 2).toUInt32 &&& Int32.toUInt32 31)).toInt32) &&& (858993459 : Int32))) + ((((((nI i) - ((((nI i).toUInt32 >>> ((nI 1).toUInt32 &&& Int32.toUInt32 31)).toInt32) &&& (1431655765 : Int32))) &&& (858993459 : Int32)) + (((((nI i) - ((((nI i).toUInt32 >>> ((nI 1).toUInt32 &&& Int32.toUInt32 31)).toInt32) &&& (1431655765 : Int32))).toUInt32 >>> ((nI 2).toUInt32 &&& Int32.toUInt32 31)).toInt32) &&& (858993459 : Int32))).toUInt32 >>> ((nI 4).toUInt32 &&& Int32.toUInt32 31)).toInt32)) &&& (252645135 : Int32)) + ((((((((nI i) - ((((nI i).toUInt32 >>> ((nI 1).toUInt32 &&& Int32.toUInt32 31)).toInt32) &&& (1431655765 : Int32))) &&& (858993459 : Int32)) + (((((nI i) - ((((nI i).toUInt32 >>> ((nI 1).toUInt32 &&& Int32.toUInt32 31)).toInt32) &&& (1431655765 : Int32))).toUInt32 >>> ((nI 2).toUInt32 &&& Int32.toUInt32 31)).toInt32) &&& (858993459 : Int32))) + ((((((nI i) - ((((nI i).toUInt32 >>> ((nI 1).toUInt32 &&& Int32.toUInt32 31)).toInt32) &&& (1431655765 : Int32))) &&& (858993459 : Int32)) + (((((nI i) - ((((nI i).toUInt32 >>> ((nI 1).toUInt32 &&& Int32.toUInt32 31)).toInt32) &&& (1431655765 : Int32))).toUInt32 >>> ((nI 2).toUInt32 &&& Int32.toUInt32 31)).toInt32) &&& (858993459 : Int32))).toUInt32 >>> ((nI 4).toUInt32 &&& Int32.toUInt32 31)).toInt32)) &&& (252645135 : Int32)).toUInt32 >>> ((nI 8).toUInt32 &&& Int32.toUInt32 31)).toInt32)) + (((((((((nI i) - ((((nI i).toUInt32 >>> ((nI 1).toUInt32 &&& Int32.toUInt32 31)).toInt32) &&& (1431655765 : Int32))) &&& (858993459 : Int32)) + (((((nI i) - ((((nI i).toUInt32 >>> ((nI 1).toUInt32 &&& Int32.toUInt32 31)).toInt32) &&& (1431655765 : Int32))).toUInt32 >>> ((nI 2).toUInt32 &&& Int32.toUInt32 31)).toInt32) &&& (858993459 : Int32))) + ((((((nI i) - ((((nI i).toUInt32 >>> ((nI 1).toUInt32 &&& Int32.toUInt32 31)).toInt32) &&& (1431655765 : Int32))) &&& (858993459 : Int32)) + (((((nI i) - ((((nI i).toUInt32 >>> ((nI 1).toUInt32 &&& Int32.toUInt32 31)).toInt32) &&& (1431655765 : Int32))).toUInt32 >>> ((nI 2).toUInt32 &&& Int32.toUInt32 31)).toInt32) &&& (858993459 : Int32))).toUInt32 >>> ((nI 4).toUInt32 &&& Int32.toUInt32 31)).toInt32)) &&& (252645135 : Int32)) + ((((((((nI i) - ((((nI i).toUInt32 >>> ((nI 1).toUInt32 &&& Int32.toUInt32 31)).toInt32) &&& (1431655765 : Int32))) &&& (858993459 : Int32)) + (((((nI i) - ((((nI i).toUInt32 >>> ((nI 1).toUInt32 &&& Int32.toUInt32 31)).toInt32) &&& (1431655765 : Int32))).toUInt32 >>> ((nI 2).toUInt32 &&& Int32.toUInt32 31)).toInt32) &&& (858993459 : Int32))) + ((((((nI i) - ((((nI i).toUInt32 >>> ((nI 1).toUInt32 &&& Int32.toUInt32 31)).toInt32) &&& (1431655765 : Int32))) &&& (858993459 : Int32)) + (((((nI i) - ((((nI i).toUInt32 >>> ((nI 1).toUInt32 &&& Int32.toUInt32 31)).toInt32) &&& (1431655765 : Int32))).toUInt32 >>> ((nI 2).toUInt32 &&& Int32.toUInt32 31)).toInt32) &&& (858993459 : Int32))).toUInt32 >>> ((nI 4).toUInt32 &&& Int32.toUInt32 31)).toInt32)) &&& (252645135 : Int32)).toUInt32 >>> ((nI 8).toUInt32 &&& Int32.toUInt32 31)).toInt32)).toUInt32 >>> ((nI 16).toUInt32 &&& Int32.toUInt32 31)).toInt32)))]) hC dJ6_bitCount_0f7a4_47 rfl (by decide) rfl ?_
  refine ev_iload_n hC dJ6_bitCount_0f7a4_48 rfl 0 rfl ?_
  refine ev_bipush (v := (nI 63)) hC dJ6_bitCount_0f7a4_49 (by decide) ?_
  refine ev_iand hC dJ6_bitCount_0f7a4_51 ?_
  refine ev_iret hC hR rfl dJ6_bitCount_0f7a4_52 ?_
  have key : ∀ i, i < 64 → (((((((((nI i) - ((((nI i).toUInt32 >>> ((nI 1).toUInt32 &&& Int32.toUInt32 31)).toInt32) &&& (1431655765 : Int32))) &&& (858993459 : Int32)) + (((((nI i) - ((((nI i).toUInt32 >>> ((nI 1).toUInt32 &&& Int32.toUInt32 31)).toInt32) &&& (1431655765 : Int32))).toUInt32 >>> ((nI 2).toUInt32 &&& Int32.toUInt32 31)).toInt32) &&& (858993459 : Int32))) + ((((((nI i) - ((((nI i).toUInt32 >>> ((nI 1).toUInt32 &&& Int32.toUInt32 31)).toInt32) &&& (1431655765 : Int32))) &&& (858993459 : Int32)) + (((((nI i) - ((((nI i).toUInt32 >>> ((nI 1).toUInt32 &&& Int32.toUInt32 31)).toInt32) &&& (1431655765 : Int32))).toUInt32 >>> ((nI 2).toUInt32 &&& Int32.toUInt32 31)).toInt32) &&& (858993459 : Int32))).toUInt32 >>> ((nI 4).toUInt32 &&& Int32.toUInt32 31)).toInt32)) &&& (252645135 : Int32)) + ((((((((nI i) - ((((nI i).toUInt32 >>> ((nI 1).toUInt32 &&& Int32.toUInt32 31)).toInt32) &&& (1431655765 : Int32))) &&& (858993459 : Int32)) + (((((nI i) - ((((nI i).toUInt32 >>> ((nI 1).toUInt32 &&& Int32.toUInt32 31)).toInt32) &&& (1431655765 : Int32))).toUInt32 >>> ((nI 2).toUInt32 &&& Int32.toUInt32 31)).toInt32) &&& (858993459 : Int32))) + ((((((nI i) - ((((nI i).toUInt32 >>> ((nI 1).toUInt32 &&& Int32.toUInt32 31)).toInt32) &&& (1431655765 : Int32))) &&& (858993459 : Int32)) + (((((nI i) - ((((nI i).toUInt32 >>> ((nI 1).toUInt32 &&& Int32.toUInt32 31)).toInt32) &&& (1431655765 : Int32))).toUInt32 >>> ((nI 2).toUInt32 &&& Int32.toUInt32 31)).toInt32) &&& (858993459 : Int32))).toUInt32 >>> ((nI 4).toUInt32 &&& Int32.toUInt32 31)).toInt32)) &&& (252645135 : Int32)).toUInt32 >>> ((nI 8).toUInt32 &&& Int32.toUInt32 31)).toInt32)) + (((((((((nI i) - ((((nI i).toUInt32 >>> ((nI 1).toUInt32 &&& Int32.toUInt32 31)).toInt32) &&& (1431655765 : Int32))) &&& (858993459 : Int32)) + (((((nI i) - ((((nI i).toUInt32 >>> ((nI 1).toUInt32 &&& Int32.toUInt32 31)).toInt32) &&& (1431655765 : Int32))).toUInt32 >>> ((nI 2).toUInt32 &&& Int32.toUInt32 31)).toInt32) &&& (858993459 : Int32))) + ((((((nI i) - ((((nI i).toUInt32 >>> ((nI 1).toUInt32 &&& Int32.toUInt32 31)).toInt32) &&& (1431655765 : Int32))) &&& (858993459 : Int32)) + (((((nI i) - ((((nI i).toUInt32 >>> ((nI 1).toUInt32 &&& Int32.toUInt32 31)).toInt32) &&& (1431655765 : Int32))).toUInt32 >>> ((nI 2).toUInt32 &&& Int32.toUInt32 31)).toInt32) &&& (858993459 : Int32))).toUInt32 >>> ((nI 4).toUInt32 &&& Int32.toUInt32 31)).toInt32)) &&& (252645135 : Int32)) + ((((((((nI i) - ((((nI i).toUInt32 >>> ((nI 1).toUInt32 &&& Int32.toUInt32 31)).toInt32) &&& (1431655765 : Int32))) &&& (858993459 : Int32)) + (((((nI i) - ((((nI i).toUInt32 >>> ((nI 1).toUInt32 &&& Int32.toUInt32 31)).toInt32) &&& (1431655765 : Int32))).toUInt32 >>> ((nI 2).toUInt32 &&& Int32.toUInt32 31)).toInt32) &&& (858993459 : Int32))) + ((((((nI i) - ((((nI i).toUInt32 >>> ((nI 1).toUInt32 &&& Int32.toUInt32 31)).toInt32) &&& (1431655765 : Int32))) &&& (858993459 : Int32)) + (((((nI i) - ((((nI i).toUInt32 >>> ((nI 1).toUInt32 &&& Int32.toUInt32 31)).toInt32) &&& (1431655765 : Int32))).toUInt32 >>> ((nI 2).toUInt32 &&& Int32.toUInt32 31)).toInt32) &&& (858993459 : Int32))).toUInt32 >>> ((nI 4).toUInt32 &&& Int32.toUInt32 31)).toInt32)) &&& (252645135 : Int32)).toUInt32 >>> ((nI 8).toUInt32 &&& Int32.toUInt32 31)).toInt32)).toUInt32 >>> ((nI 16).toUInt32 &&& Int32.toUInt32 31)).toInt32)) &&& (nI 63)) = nI (szF i 6) := by decide +kernel
  exact ⟨by rw [key i hi], rfl, rfl⟩

theorem ix_i2b : ∀ x, x ≤ 127 → (nI x).toInt8.toInt32 = nI x := by decide +kernel
theorem ix_i2c : ∀ x, x ≤ 127 → ((nI x).toUInt32 % 65536).toInt32 = nI x := by decide +kernel
def fndI (k : Nat) (x : Int32) : Int32 := match fndF k x (strLen.getD k 0) 0 with
  | none => -1
  | some j => nI j

set_option maxHeartbeats 4000000 in
set_option maxRecDepth 100000 in
theorem m_J1_canEncode_9a6ad (G : GG) (ro : va_W) (x : Nat) (hx : x ≤ 127) : Mth G M_J1_canEncode_9a6ad 0 0 0 [.int (nI x)] [] ro (fun r ws' ro' => r = some (.int (nI 1)) ∧ ws' = [] ∧ ro = ro') := by
  refine mth_of (by decide +kernel) (Nat.le_of_ble_eq_true rfl) (fun X hC hR => ?_)
  show Ev G X 0 0 0 [(0, .int (nI x))] [] [] ro
  refine ev_iload_n hC dJ1_canEncode_9a6ad_0 rfl 0 rfl ?_
  refine ev_if_ltN (tgt := 15) hC dJ1_canEncode_9a6ad_1 (by omega) ?_ (by decide)
  refine ev_iload_n hC dJ1_canEncode_9a6ad_4 rfl 0 rfl ?_
  refine ev_sipush (v := (nI 255)) hC dJ1_canEncode_9a6ad_5 (by decide) ?_
  refine ev_icmp_gtN (tgt := 15) hC dJ1_canEncode_9a6ad_8 (by decide) (by omega) (by omega) (fun c_1 => absurd c_1 (by omega)) (fun c_1 => ?_)
  refine ev_iconst (v := (nI 1)) hC dJ1_canEncode_9a6ad_11 (by decide) ?_
  refine ev_goto (tgt := 16) hC dJ1_canEncode_9a6ad_12 (by decide) ?_
  refine ev_zret hC hR rfl (by rfl) dJ1_canEncode_9a6ad_16 ?_
  exact ⟨rfl, rfl, rfl⟩

set_option maxHeartbeats 4000000 in
set_option maxRecDepth 100000 in
theorem m_J1_indexOfChar_4cfef (G : GG) (ro : va_W) (k x : Nat) (hk : k < 12) (hx : x ≤ 127) : Mth G M_J1_indexOfChar_4cfef 0 0 0 [.ref (gV G k), .int (nI x), .int (nI 0), .int (nI (strLen.getD k 0))] [] ro (fun r ws' ro' => r = some (.int (fndI k (nI x))) ∧ ws' = [] ∧ ro = ro') := by
  refine mth_of (by decide +kernel) (Nat.le_of_ble_eq_true rfl) (fun X hC hR => ?_)
  have hlen := strLen_le k hk
  show Ev G X 0 0 0 [(0, .ref (gV G k)), (1, .int (nI x)), (2, .int (nI 0)), (3, .int (nI (strLen.getD k 0)))] [] [] ro
  refine ev_iload_n hC dJ1_indexOfChar_4cfef_0 rfl 1 rfl ?_
  refine ev_i2b (v := (nI x)) hC dJ1_indexOfChar_4cfef_1 (ix_i2b x hx) ?_
  refine ev_istore (lv' := [(4, .int (nI x)), (0, .ref (gV G k)), (1, .int (nI x)), (2, .int (nI 0)), (3, .int (nI (strLen.getD k 0)))]) hC dJ1_indexOfChar_4cfef_2 (by decide) rfl ?_
  refine ev_iload_n hC dJ1_indexOfChar_4cfef_4 rfl 3 rfl ?_
  refine ev_istore (lv' := [(5, .int (nI 0)), (4, .int (nI x)), (0, .ref (gV G k)), (1, .int (nI x)), (2, .int (nI 0)), (3, .int (nI (strLen.getD k 0)))]) hC dJ1_indexOfChar_4cfef_5 (by decide) rfl ?_
  have lp_7 : ∀ (fu_7 : Nat) (j : Nat) (hj : j ≤ strLen.getD k 0) (hb : fndF k (nI x) (strLen.getD k 0) 0 = fndF k (nI x) (strLen.getD k 0 - j) j) (hn : strLen.getD k 0 - j < fu_7), Ev G X 0 0 7 [(0, .ref (gV G k)), (1, .int (nI x)), (2, .int (nI 0)), (3, .int (nI (strLen.getD k 0))), (4, .int (nI x)), (5, .int (nI j))] [] [] ro := by
    intro fu_7
    induction fu_7 with
    | zero => intro j hj hb hn; exact absurd hn (Nat.not_lt_zero _)
    | succ fu_7 ih =>
      intro j hj hb hn
      refine ev_iload hC dJ1_indexOfChar_4cfef_7 5 rfl ?_
      refine ev_iload_n hC dJ1_indexOfChar_4cfef_9 rfl 3 rfl ?_
      refine ev_icmp_geN (tgt := 31) hC dJ1_indexOfChar_4cfef_10 (by decide) (by omega) (by omega) (fun c_1 => ?_) (fun c_1 => ?_)
      · refine ev_iconst (v := (-1)) hC dJ1_indexOfChar_4cfef_31 (by decide) ?_
        refine ev_iret hC hR rfl dJ1_indexOfChar_4cfef_32 ?_
        exact ⟨by rw [fndI, hb, show strLen.getD k 0 - j = 0 by omega]; rfl, rfl, rfl⟩
      · refine ev_aload_n hC dJ1_indexOfChar_4cfef_13 rfl 0 rfl ?_
        refine ev_iload hC dJ1_indexOfChar_4cfef_14 5 rfl ?_
        refine ev_strald (i := k) hC (by omega) (nI_in' (by omega) (by omega)) dJ1_indexOfChar_4cfef_16 ?_
        refine ev_top (y := (chF k j)) (by rw [nI_clamp (by omega)]; rfl) ?_
        refine ev_iload hC dJ1_indexOfChar_4cfef_17 4 rfl ?_
        refine ev_icmp_ne (tgt := 25) hC dJ1_indexOfChar_4cfef_19 (by decide) (fun c_2 => ?_) (fun c_2 => ?_)
        · refine ev_iinc (v := (nI (j + 1))) (lv' := [(5, .int (nI (j + 1))), (0, .ref (gV G k)), (1, .int (nI x)), (2, .int (nI 0)), (3, .int (nI (strLen.getD k 0))), (4, .int (nI x))]) hC dJ1_indexOfChar_4cfef_25 (q := 5) rfl (nI_k _ _ 1 (by decide)) (by decide) rfl ?_
          refine ev_goto (tgt := 7) hC dJ1_indexOfChar_4cfef_28 (by decide) ?_
          refine ev_lv [1, 2, 3, 4, 5, 0] rfl ?_
          exact ih (j + 1) (by omega) (by rw [hb, fnd_f (by omega) (fun z => absurd z.symm (by assumption)), show strLen.getD k 0 - (j + 1) = strLen.getD k 0 - j - 1 by omega]) (by omega)
        · refine ev_iload hC dJ1_indexOfChar_4cfef_22 5 rfl ?_
          refine ev_iret hC hR rfl dJ1_indexOfChar_4cfef_24 ?_
          exact ⟨by rw [fndI, hb, fnd_t (by omega) (by first | assumption | exact Eq.symm (by assumption))], rfl, rfl⟩
  refine ev_lv [2, 3, 4, 5, 1, 0] rfl ?_
  exact lp_7 (strLen.getD k 0 - 0 + 1) 0 (by omega) rfl (Nat.lt_succ_self _)

set_option maxHeartbeats 4000000 in
set_option maxRecDepth 100000 in
theorem m_J1_indexOf_4cfef (G : GG) (ro : va_W) (k x : Nat) (hk : k < 12) (hx : x ≤ 127) (hl : 0 < strLen.getD k 0) : Mth G M_J1_indexOf_4cfef 1 0 0 [.ref (gV G k), .int (nI x), .int (nI 0), .int (nI (strLen.getD k 0))] [] ro (fun r ws' ro' => r = some (.int (fndI k (nI x))) ∧ ws' = [] ∧ ro = ro') := by
  refine mth_of (by decide +kernel) (Nat.le_of_ble_eq_true rfl) (fun X hC hR => ?_)
  have hlen := strLen_le k hk
  show Ev G X 0 0 0 [(0, .ref (gV G k)), (1, .int (nI x)), (2, .int (nI 0)), (3, .int (nI (strLen.getD k 0)))] [] [] ro
  refine ev_iload_n hC dJ1_indexOf_4cfef_0 rfl 1 rfl ?_
  refine ev_callS (As := [.int (nI x)]) (st := []) (wc := []) (wf := []) hC ct_J1_88 (m_J1_canEncode_9a6ad G ro x (by omega)) (by omega) rfl rfl (Nat.le_of_ble_eq_true rfl) (List.Perm.refl _) dJ1_indexOf_4cfef_1 (by omega) (by omega) ?_
  rintro _ _ _ ⟨rfl, rfl, rfl⟩
  refine ev_ws (List.nil_append _) ?_
  show Ev G X 0 0 4 [(0, .ref (gV G k)), (1, .int (nI x)), (2, .int (nI 0)), (3, .int (nI (strLen.getD k 0)))] [.int (nI 1)] [] ro
  refine ev_if_neN (tgt := 9) hC dJ1_indexOf_4cfef_4 (by decide) (by omega) (fun c_1 => ?_) (fun c_1 => absurd c_1 (by omega))
  refine ev_iload_n hC dJ1_indexOf_4cfef_9 rfl 2 rfl ?_
  refine ev_iconst (v := (nI 0)) hC dJ1_indexOf_4cfef_10 (by decide) ?_
  refine ev_mmax hC ⟨(ft_in 425 (by decide +kernel) rfl), (ft_in 103 (by decide +kernel) rfl), (ft_in 68 (by decide +kernel) rfl), (ft_in 104 (by decide +kernel) rfl)⟩ (by omega) (Nat.le_of_ble_eq_true rfl) dJ1_indexOf_4cfef_11 ?_
  refine ev_top (y := (nI 0)) (mxN (by omega) (by omega)) ?_
  refine ev_istore_n (lv' := [(2, .int (nI 0)), (0, .ref (gV G k)), (1, .int (nI x)), (3, .int (nI (strLen.getD k 0)))]) hC dJ1_indexOf_4cfef_14 rfl (by decide) rfl ?_
  refine ev_iload_n hC dJ1_indexOf_4cfef_15 rfl 3 rfl ?_
  refine ev_aload_n hC dJ1_indexOf_4cfef_16 rfl 1 rfl ?_
  refine ev_strlen (i := k) (v := nI (strLen.getD k 0)) hC (by omega) rfl dJ1_indexOf_4cfef_17 ?_
  refine ev_mmin hC ⟨(ft_in 426 (by decide +kernel) rfl), (ft_in 382 (by decide +kernel) rfl), (ft_in 68 (by decide +kernel) rfl), (ft_in 383 (by decide +kernel) rfl)⟩ (by omega) (Nat.le_of_ble_eq_true rfl) dJ1_indexOf_4cfef_18 ?_
  refine ev_top (y := (nI (min (strLen.getD k 0) (strLen.getD k 0)))) (mnN (by omega) (by omega)) ?_
  refine ev_top (y := (nI (strLen.getD k 0))) (congrArg nI (Nat.min_self _)) ?_
  refine ev_istore_n (lv' := [(3, .int (nI (strLen.getD k 0))), (2, .int (nI 0)), (0, .ref (gV G k)), (1, .int (nI x))]) hC dJ1_indexOf_4cfef_21 rfl (by decide) rfl ?_
  refine ev_iload_n hC dJ1_indexOf_4cfef_22 rfl 1 rfl ?_
  refine ev_iload_n hC dJ1_indexOf_4cfef_23 rfl 0 rfl ?_
  refine ev_icmp_ltN (tgt := 29) hC dJ1_indexOf_4cfef_24 (by decide) (by omega) (by omega) (fun c_2 => ?_) (fun c_2 => absurd c_2 (by omega))
  refine ev_aload_n hC dJ1_indexOf_4cfef_29 rfl 2 rfl ?_
  refine ev_iload_n hC dJ1_indexOf_4cfef_30 rfl 3 rfl ?_
  refine ev_iload_n hC dJ1_indexOf_4cfef_31 rfl 1 rfl ?_
  refine ev_iload_n hC dJ1_indexOf_4cfef_32 rfl 0 rfl ?_
  refine ev_callS (As := [.ref (gV G k), .int (nI x), .int (nI 0), .int (nI (strLen.getD k 0))]) (st := []) (wc := []) (wf := []) hC ct_J1_95 (m_J1_indexOfChar_4cfef G ro k x (by omega) (by omega)) (by omega) rfl rfl (Nat.le_of_ble_eq_true rfl) (List.Perm.refl _) dJ1_indexOf_4cfef_33 (by omega) (by omega) ?_
  rintro _ _ _ ⟨rfl, rfl, rfl⟩
  refine ev_ws (List.nil_append _) ?_
  show Ev G X 0 0 36 [(3, .int (nI (strLen.getD k 0))), (2, .int (nI 0)), (0, .ref (gV G k)), (1, .int (nI x))] [.int (fndI k (nI x))] [] ro
  refine ev_iret hC hR rfl dJ1_indexOf_4cfef_36 ?_
  exact ⟨rfl, rfl, rfl⟩

set_option maxHeartbeats 4000000 in
set_option maxRecDepth 100000 in
theorem m_J0_indexOf_7cf53 (G : GG) (ro : va_W) (k x : Nat) (hk : k < 12) (hx : x ≤ 127) (hl : 0 < strLen.getD k 0) : Mth G M_J0_indexOf_7cf53 2 0 0 [.ref (gK G k), .int (nI x), .int (nI 0)] [] ro (fun r ws' ro' => r = some (.int (fndI k (nI x))) ∧ ws' = [] ∧ ro = ro') := by
  refine mth_of (by decide +kernel) (Nat.le_of_ble_eq_true rfl) (fun X hC hR => ?_)
  have hlen := strLen_le k hk
  show Ev G X 0 0 0 [(0, .ref (gK G k)), (1, .int (nI x)), (2, .int (nI 0))] [] [] ro
  refine ev_aload_n hC dJ0_indexOf_7cf53_0 rfl 0 rfl ?_
  refine ev_callK (As := []) (st := []) (wc := []) (wf := []) hC cv_J0_492 rfl (m_J0_isLatin1_aae02 G ro k (by omega)) (by decide) rfl rfl (Nat.le_of_ble_eq_true rfl) (List.Perm.refl _) (by omega) dJ0_indexOf_7cf53_1 (by omega) (by omega) ?_
  rintro _ _ _ ⟨rfl, rfl, rfl⟩
  refine ev_ws (List.nil_append _) ?_
  show Ev G X 0 0 4 [(0, .ref (gK G k)), (1, .int (nI x)), (2, .int (nI 0))] [.int (nI 1)] [] ro
  refine ev_if_eqN (tgt := 23) hC dJ0_indexOf_7cf53_4 (by decide) (by omega) (fun c_1 => absurd c_1 (by omega)) (fun c_1 => ?_)
  refine ev_aload_n hC dJ0_indexOf_7cf53_7 rfl 0 rfl ?_
  refine ev_strget (i := k) (v := .ref (gV G k)) hC (by omega) (Or.inr ⟨rfl, rfl, rfl⟩) (ft_in 1523 (by decide +kernel) rfl) dJ0_indexOf_7cf53_8 ?_
  refine ev_iload_n hC dJ0_indexOf_7cf53_11 rfl 1 rfl ?_
  refine ev_iload_n hC dJ0_indexOf_7cf53_12 rfl 2 rfl ?_
  refine ev_aload_n hC dJ0_indexOf_7cf53_13 rfl 0 rfl ?_
  refine ev_callK (As := []) (st := [.int (nI 0), .int (nI x), .ref (gV G k)]) (wc := []) (wf := []) hC cv_J0_505 rfl (m_J0_length_8abf5 G ro k (by omega)) (by decide) rfl rfl (Nat.le_of_ble_eq_true rfl) (List.Perm.refl _) (by omega) dJ0_indexOf_7cf53_14 (by omega) (by omega) ?_
  rintro _ _ _ ⟨rfl, rfl, rfl⟩
  refine ev_ws (List.nil_append _) ?_
  show Ev G X 0 0 17 [(0, .ref (gK G k)), (1, .int (nI x)), (2, .int (nI 0))] [.int (nI (strLen.getD k 0)), .int (nI 0), .int (nI x), .ref (gV G k)] [] ro
  refine ev_callS (As := [.ref (gV G k), .int (nI x), .int (nI 0), .int (nI (strLen.getD k 0))]) (st := []) (wc := []) (wf := []) hC ct_J0_637 (m_J1_indexOf_4cfef G ro k x (by omega) (by omega) (by omega)) (by omega) rfl rfl (Nat.le_of_ble_eq_true rfl) (List.Perm.refl _) dJ0_indexOf_7cf53_17 (by omega) (by omega) ?_
  rintro _ _ _ ⟨rfl, rfl, rfl⟩
  refine ev_ws (List.nil_append _) ?_
  show Ev G X 0 0 20 [(0, .ref (gK G k)), (1, .int (nI x)), (2, .int (nI 0))] [.int (fndI k (nI x))] [] ro
  refine ev_goto (tgt := 36) hC dJ0_indexOf_7cf53_20 (by decide) ?_
  refine ev_iret hC hR rfl dJ0_indexOf_7cf53_36 ?_
  exact ⟨rfl, rfl, rfl⟩

set_option maxHeartbeats 4000000 in
set_option maxRecDepth 100000 in
theorem m_J0_indexOf_0f7a4 (G : GG) (ro : va_W) (k x : Nat) (hk : k < 12) (hx : x ≤ 127) (hl : 0 < strLen.getD k 0) : Mth G M_J0_indexOf_0f7a4 3 0 0 [.ref (gK G k), .int (nI x)] [] ro (fun r ws' ro' => r = some (.int (fndI k (nI x))) ∧ ws' = [] ∧ ro = ro') := by
  refine mth_of (by decide +kernel) (Nat.le_of_ble_eq_true rfl) (fun X hC hR => ?_)
  have hlen := strLen_le k hk
  show Ev G X 0 0 0 [(0, .ref (gK G k)), (1, .int (nI x))] [] [] ro
  refine ev_aload_n hC dJ0_indexOf_0f7a4_0 rfl 0 rfl ?_
  refine ev_iload_n hC dJ0_indexOf_0f7a4_1 rfl 1 rfl ?_
  refine ev_iconst (v := (nI 0)) hC dJ0_indexOf_0f7a4_2 (by decide) ?_
  refine ev_callK (As := [.int (nI x), .int (nI 0)]) (st := []) (wc := []) (wf := []) hC cv_J0_633 rfl (m_J0_indexOf_7cf53 G ro k x (by omega) (by omega) (by omega)) (by omega) rfl rfl (Nat.le_of_ble_eq_true rfl) (List.Perm.refl _) (by omega) dJ0_indexOf_0f7a4_3 (by omega) (by omega) ?_
  rintro _ _ _ ⟨rfl, rfl, rfl⟩
  refine ev_ws (List.nil_append _) ?_
  show Ev G X 0 0 6 [(0, .ref (gK G k)), (1, .int (nI x))] [.int (fndI k (nI x))] [] ro
  refine ev_iret hC hR rfl dJ0_indexOf_0f7a4_6 ?_
  exact ⟨rfl, rfl, rfl⟩

set_option maxHeartbeats 4000000 in
set_option maxRecDepth 100000 in
theorem m_X7_isFull (G : GG) (ro : va_W) (rr : Nat → Nat) (n m : Nat) (f1 f2 f3 g1 g2 g3 : Nat → Int32) (gc : Int32) (hn : n ≤ 1000) (hm : m ≤ 1000) : Mth G M_X7_isFull 0 0 0 [.ref (rr 0)] (RW G rr n f1 f2 f3 (nI m) g1 g2 g3 gc) ro (fun r ws' ro' => r = some (.int (bI (n ≤ m))) ∧ ws' = (RW G rr n f1 f2 f3 (nI m) g1 g2 g3 gc) ∧ ro = ro') := by
  refine mth_of (by decide +kernel) (Nat.le_of_ble_eq_true rfl) (fun X hC hR => ?_)
  show Ev G X 0 0 0 [(0, .ref (rr 0))] [] (RW G rr n f1 f2 f3 (nI m) g1 g2 g3 gc) ro
  refine ev_aload_n hC dX7_isFull_0 rfl 0 rfl ?_
  refine ev_get hC fl_X7_7_7 (mw 0 rfl) rfl dX7_isFull_1 ?_
  refine ev_aload_n hC dX7_isFull_4 rfl 0 rfl ?_
  refine ev_get hC fl_X7_22_7 (mw 0 rfl) rfl dX7_isFull_5 ?_
  refine ev_alen (v := nI n) hC (mw 1 rfl) rfl dX7_isFull_8 ?_
  refine ev_icmp_ltN (tgt := 16) hC dX7_isFull_9 (by decide) (by omega) (by omega) (fun c_1 => ?_) (fun c_1 => ?_)
  · refine ev_iconst (v := (nI 0)) hC dX7_isFull_16 (by decide) ?_
    refine ev_zret hC hR rfl (by rfl) dX7_isFull_17 ?_
    exact ⟨by rw [show bI (n ≤ m) = nI 0 from if_neg (by omega)], rfl, rfl⟩
  · refine ev_iconst (v := (nI 1)) hC dX7_isFull_12 (by decide) ?_
    refine ev_goto (tgt := 17) hC dX7_isFull_13 (by decide) ?_
    refine ev_zret hC hR rfl (by rfl) dX7_isFull_17 ?_
    exact ⟨by rw [show bI (n ≤ m) = nI 1 from if_pos (by omega)], rfl, rfl⟩

set_option maxHeartbeats 4000000 in
set_option maxRecDepth 100000 in
theorem m_X7_kept (G : GG) (ro : va_W) (rr : Nat → Nat) (n m : Nat) (f1 f2 f3 g1 g2 g3 : Nat → Int32) (gc : Int32) (hn : n ≤ 1000) (hm : m ≤ 1000) : Mth G M_X7_kept 1 0 0 [.ref (rr 0)] (RW G rr n f1 f2 f3 (nI m) g1 g2 g3 gc) ro (fun r ws' ro' => r = some (.int (nI (min m n))) ∧ ws' = (RW G rr n f1 f2 f3 (nI m) g1 g2 g3 gc) ∧ ro = ro') := by
  refine mth_of (by decide +kernel) (Nat.le_of_ble_eq_true rfl) (fun X hC hR => ?_)
  show Ev G X 0 0 0 [(0, .ref (rr 0))] [] (RW G rr n f1 f2 f3 (nI m) g1 g2 g3 gc) ro
  refine ev_aload_n hC dX7_kept_0 rfl 0 rfl ?_
  refine ev_get hC fl_X7_7_7 (mw 0 rfl) rfl dX7_kept_1 ?_
  refine ev_aload_n hC dX7_kept_4 rfl 0 rfl ?_
  refine ev_get hC fl_X7_22_7 (mw 0 rfl) rfl dX7_kept_5 ?_
  refine ev_alen (v := nI n) hC (mw 1 rfl) rfl dX7_kept_8 ?_
  refine ev_mmin hC ⟨(ft_in 381 (by decide +kernel) rfl), (ft_in 382 (by decide +kernel) rfl), (ft_in 68 (by decide +kernel) rfl), (ft_in 383 (by decide +kernel) rfl)⟩ (by omega) (Nat.le_of_ble_eq_true rfl) dX7_kept_9 ?_
  refine ev_top (y := (nI (min m n))) (mnN (by omega) (by omega)) ?_
  refine ev_iret hC hR rfl dX7_kept_12 ?_
  exact ⟨rfl, rfl, rfl⟩

set_option maxHeartbeats 4000000 in
set_option maxRecDepth 100000 in
theorem m_X7_add (G : GG) (ro : va_W) (rr : Nat → Nat) (n m : Nat) (f1 f2 f3 g1 g2 g3 : Nat → Int32) (gc : Int32) (u v w : Int32) (hn : n ≤ 1000) (hm : m ≤ 1000) (hc : m < n) : Mth G M_X7_add 0 0 0 [.ref (rr 0), .int u, .int v, .int w] (RW G rr n f1 f2 f3 (nI m) g1 g2 g3 gc) ro (fun r ws' ro' => r = some (.int (nI (m + 1))) ∧ ws' = (RW G rr n (upd f1 m u) (upd f2 m v) (upd f3 m w) (nI (m + 1)) g1 g2 g3 gc) ∧ ro = ro') := by
  refine mth_of (by decide +kernel) (Nat.le_of_ble_eq_true rfl) (fun X hC hR => ?_)
  show Ev G X 0 0 0 [(0, .ref (rr 0)), (1, .int u), (2, .int v), (3, .int w)] [] (RW G rr n f1 f2 f3 (nI m) g1 g2 g3 gc) ro
  refine ev_aload_n hC dX7_add_0 rfl 0 rfl ?_
  refine ev_get hC fl_X7_7_7 (mw 0 rfl) rfl dX7_add_1 ?_
  refine ev_if_ltN (tgt := 49) hC dX7_add_4 (by omega) ?_ (by decide)
  refine ev_aload_n hC dX7_add_7 rfl 0 rfl ?_
  refine ev_get hC fl_X7_7_7 (mw 0 rfl) rfl dX7_add_8 ?_
  refine ev_aload_n hC dX7_add_11 rfl 0 rfl ?_
  refine ev_get hC fl_X7_22_7 (mw 0 rfl) rfl dX7_add_12 ?_
  refine ev_alen (v := nI n) hC (mw 1 rfl) rfl dX7_add_15 ?_
  refine ev_icmp_geN (tgt := 49) hC dX7_add_16 (by decide) (by omega) (by omega) (fun c_1 => absurd c_1 (by omega)) (fun c_1 => ?_)
  refine ev_aload_n hC dX7_add_19 rfl 0 rfl ?_
  refine ev_get hC fl_X7_22_7 (mw 0 rfl) rfl dX7_add_20 ?_
  refine ev_aload_n hC dX7_add_23 rfl 0 rfl ?_
  refine ev_get hC fl_X7_7_7 (mw 0 rfl) rfl dX7_add_24 ?_
  refine ev_iload_n hC dX7_add_27 rfl 1 rfl ?_
  refine ev_iastN (i := m) (ws' := (RW G rr n (upd f1 m u) f2 f3 (nI m) g1 g2 g3 gc)) (q0 := 1) hC rfl (by omega) (by omega) rfl dX7_add_28 ?_
  refine ev_aload_n hC dX7_add_29 rfl 0 rfl ?_
  refine ev_get hC fl_X7_26_7 (mw 0 rfl) rfl dX7_add_30 ?_
  refine ev_aload_n hC dX7_add_33 rfl 0 rfl ?_
  refine ev_get hC fl_X7_7_7 (mw 0 rfl) rfl dX7_add_34 ?_
  refine ev_iload_n hC dX7_add_37 rfl 2 rfl ?_
  refine ev_iastN (i := m) (ws' := (RW G rr n (upd f1 m u) (upd f2 m v) f3 (nI m) g1 g2 g3 gc)) (q0 := 2) hC rfl (by omega) (by omega) rfl dX7_add_38 ?_
  refine ev_aload_n hC dX7_add_39 rfl 0 rfl ?_
  refine ev_get hC fl_X7_29_7 (mw 0 rfl) rfl dX7_add_40 ?_
  refine ev_aload_n hC dX7_add_43 rfl 0 rfl ?_
  refine ev_get hC fl_X7_7_7 (mw 0 rfl) rfl dX7_add_44 ?_
  refine ev_iload_n hC dX7_add_47 rfl 3 rfl ?_
  refine ev_iastN (i := m) (ws' := (RW G rr n (upd f1 m u) (upd f2 m v) (upd f3 m w) (nI m) g1 g2 g3 gc)) (q0 := 3) hC rfl (by omega) (by omega) rfl dX7_add_48 ?_
  refine ev_aload_n hC dX7_add_49 rfl 0 rfl ?_
  refine ev_dup hC dX7_add_50 rfl ?_
  refine ev_get hC fl_X7_7_7 (mw 0 rfl) rfl dX7_add_51 ?_
  refine ev_iconst (v := (nI 1)) hC dX7_add_54 (by decide) ?_
  refine ev_iadd hC dX7_add_55 ?_
  refine ev_top (y := (nI (m + 1))) ((nI_add _ _).trans (congrArg nI (by omega))) ?_
  refine ev_put (ws' := (RW G rr n (upd f1 m u) (upd f2 m v) (upd f3 m w) (nI (m + 1)) g1 g2 g3 gc)) (q0 := 0) hC fp_X7_7_7 rfl (Nat.le_of_ble_eq_true rfl) rfl rfl rfl dX7_add_56 ?_
  refine ev_aload_n hC dX7_add_59 rfl 0 rfl ?_
  refine ev_get hC fl_X7_7_7 (mw 0 rfl) rfl dX7_add_60 ?_
  refine ev_iret hC hR rfl dX7_add_63 ?_
  exact ⟨rfl, rfl, rfl⟩

set_option maxHeartbeats 4000000 in
set_option maxRecDepth 100000 in
theorem m_X7_clear (G : GG) (ro : va_W) (rr : Nat → Nat) (n : Nat) (f1 f2 f3 g1 g2 g3 : Nat → Int32) (c gc : Int32)  : Mth G M_X7_clear 0 0 0 [.ref (rr 0)] (RW G rr n f1 f2 f3 c g1 g2 g3 gc) ro (fun r ws' ro' => r = some (.int (nI 0)) ∧ ws' = (RW G rr n f1 f2 f3 (nI 0) g1 g2 g3 gc) ∧ ro = ro') := by
  refine mth_of (by decide +kernel) (Nat.le_of_ble_eq_true rfl) (fun X hC hR => ?_)
  show Ev G X 0 0 0 [(0, .ref (rr 0))] [] (RW G rr n f1 f2 f3 c g1 g2 g3 gc) ro
  refine ev_aload_n hC dX7_clear_0 rfl 0 rfl ?_
  refine ev_iconst (v := (nI 0)) hC dX7_clear_1 (by decide) ?_
  refine ev_put (ws' := (RW G rr n f1 f2 f3 (nI 0) g1 g2 g3 gc)) (q0 := 0) hC fp_X7_7_7 rfl (Nat.le_of_ble_eq_true rfl) rfl rfl rfl dX7_clear_2 ?_
  refine ev_aload_n hC dX7_clear_5 rfl 0 rfl ?_
  refine ev_get hC fl_X7_7_7 (mw 0 rfl) rfl dX7_clear_6 ?_
  refine ev_iret hC hR rfl dX7_clear_9 ?_
  exact ⟨rfl, rfl, rfl⟩

set_option maxHeartbeats 4000000 in
set_option maxRecDepth 100000 in
theorem m_X7_keep (G : GG) (ro : va_W) (rr : Nat → Nat) (n : Nat) (f1 f2 f3 g1 g2 g3 : Nat → Int32) (c gc : Int32) (hn : n ≤ 1000) : Mth G M_X7_keep 1 0 0 [.ref (rr 0)] (RW G rr n f1 f2 f3 c g1 g2 g3 gc) ro (fun r ws' ro' => r = none ∧ ws' = (RW G rr n f1 f2 f3 c (cpF n f1 g1) (cpF n f2 g2) (cpF n f3 g3) c) ∧ ro = ro') := by
  refine mth_of (by decide +kernel) (Nat.le_of_ble_eq_true rfl) (fun X hC hR => ?_)
  show Ev G X 0 0 0 [(0, .ref (rr 0))] [] (RW G rr n f1 f2 f3 c g1 g2 g3 gc) ro
  refine ev_aload_n hC dX7_keep_0 rfl 0 rfl ?_
  refine ev_get hC fl_X7_22_7 (mw 0 rfl) rfl dX7_keep_1 ?_
  refine ev_iconst (v := (nI 0)) hC dX7_keep_4 (by decide) ?_
  refine ev_aload_n hC dX7_keep_5 rfl 0 rfl ?_
  refine ev_get hC fl_X7_32_7 (mw 0 rfl) rfl dX7_keep_6 ?_
  refine ev_iconst (v := (nI 0)) hC dX7_keep_9 (by decide) ?_
  refine ev_aload_n hC dX7_keep_10 rfl 0 rfl ?_
  refine ev_get hC fl_X7_22_7 (mw 0 rfl) rfl dX7_keep_11 ?_
  refine ev_alen (v := nI n) hC (mw 1 rfl) rfl dX7_keep_14 ?_
  refine ev_copy0 (ws' := (RW G rr n f1 f2 f3 c (cpF n f1 g1) g2 g3 gc)) (n := n) (q0 := 1) (q1 := 4) hC (⟨(ft_in 1060 (by decide +kernel) rfl), (ft_in 387 (by decide +kernel) rfl), (ft_in 386 (by decide +kernel) rfl), (ft_in 75 (by decide +kernel) rfl)⟩) rfl rfl (by omega) (by omega) (by omega) (by omega) (Nat.le_of_ble_eq_true rfl) rfl dX7_keep_15 ?_
  refine ev_aload_n hC dX7_keep_18 rfl 0 rfl ?_
  refine ev_get hC fl_X7_26_7 (mw 0 rfl) rfl dX7_keep_19 ?_
  refine ev_iconst (v := (nI 0)) hC dX7_keep_22 (by decide) ?_
  refine ev_aload_n hC dX7_keep_23 rfl 0 rfl ?_
  refine ev_get hC fl_X7_35_7 (mw 0 rfl) rfl dX7_keep_24 ?_
  refine ev_iconst (v := (nI 0)) hC dX7_keep_27 (by decide) ?_
  refine ev_aload_n hC dX7_keep_28 rfl 0 rfl ?_
  refine ev_get hC fl_X7_26_7 (mw 0 rfl) rfl dX7_keep_29 ?_
  refine ev_alen (v := nI n) hC (mw 2 rfl) rfl dX7_keep_32 ?_
  refine ev_copy0 (ws' := (RW G rr n f1 f2 f3 c (cpF n f1 g1) (cpF n f2 g2) g3 gc)) (n := n) (q0 := 2) (q1 := 5) hC (⟨(ft_in 1060 (by decide +kernel) rfl), (ft_in 387 (by decide +kernel) rfl), (ft_in 386 (by decide +kernel) rfl), (ft_in 75 (by decide +kernel) rfl)⟩) rfl rfl (by omega) (by omega) (by omega) (by omega) (Nat.le_of_ble_eq_true rfl) rfl dX7_keep_33 ?_
  refine ev_aload_n hC dX7_keep_36 rfl 0 rfl ?_
  refine ev_get hC fl_X7_29_7 (mw 0 rfl) rfl dX7_keep_37 ?_
  refine ev_iconst (v := (nI 0)) hC dX7_keep_40 (by decide) ?_
  refine ev_aload_n hC dX7_keep_41 rfl 0 rfl ?_
  refine ev_get hC fl_X7_38_7 (mw 0 rfl) rfl dX7_keep_42 ?_
  refine ev_iconst (v := (nI 0)) hC dX7_keep_45 (by decide) ?_
  refine ev_aload_n hC dX7_keep_46 rfl 0 rfl ?_
  refine ev_get hC fl_X7_29_7 (mw 0 rfl) rfl dX7_keep_47 ?_
  refine ev_alen (v := nI n) hC (mw 3 rfl) rfl dX7_keep_50 ?_
  refine ev_copy0 (ws' := (RW G rr n f1 f2 f3 c (cpF n f1 g1) (cpF n f2 g2) (cpF n f3 g3) gc)) (n := n) (q0 := 3) (q1 := 6) hC (⟨(ft_in 1060 (by decide +kernel) rfl), (ft_in 387 (by decide +kernel) rfl), (ft_in 386 (by decide +kernel) rfl), (ft_in 75 (by decide +kernel) rfl)⟩) rfl rfl (by omega) (by omega) (by omega) (by omega) (Nat.le_of_ble_eq_true rfl) rfl dX7_keep_51 ?_
  refine ev_aload_n hC dX7_keep_54 rfl 0 rfl ?_
  refine ev_aload_n hC dX7_keep_55 rfl 0 rfl ?_
  refine ev_get hC fl_X7_7_7 (mw 0 rfl) rfl dX7_keep_56 ?_
  refine ev_put (ws' := (RW G rr n f1 f2 f3 c (cpF n f1 g1) (cpF n f2 g2) (cpF n f3 g3) c)) (q0 := 0) hC fp_X7_13_7 rfl (Nat.le_of_ble_eq_true rfl) rfl rfl rfl dX7_keep_59 ?_
  refine ev_vret hC hR rfl dX7_keep_62 ?_
  exact ⟨rfl, rfl, rfl⟩

set_option maxHeartbeats 4000000 in
set_option maxRecDepth 100000 in
theorem m_X7_comeBack (G : GG) (ro : va_W) (rr : Nat → Nat) (n : Nat) (f1 f2 f3 g1 g2 g3 : Nat → Int32) (c gc : Int32) (hn : n ≤ 1000) : Mth G M_X7_comeBack 1 0 0 [.ref (rr 0)] (RW G rr n f1 f2 f3 c g1 g2 g3 gc) ro (fun r ws' ro' => r = none ∧ ws' = (RW G rr n (cpF n g1 f1) (cpF n g2 f2) (cpF n g3 f3) gc g1 g2 g3 gc) ∧ ro = ro') := by
  refine mth_of (by decide +kernel) (Nat.le_of_ble_eq_true rfl) (fun X hC hR => ?_)
  show Ev G X 0 0 0 [(0, .ref (rr 0))] [] (RW G rr n f1 f2 f3 c g1 g2 g3 gc) ro
  refine ev_aload_n hC dX7_comeBack_0 rfl 0 rfl ?_
  refine ev_get hC fl_X7_32_7 (mw 0 rfl) rfl dX7_comeBack_1 ?_
  refine ev_iconst (v := (nI 0)) hC dX7_comeBack_4 (by decide) ?_
  refine ev_aload_n hC dX7_comeBack_5 rfl 0 rfl ?_
  refine ev_get hC fl_X7_22_7 (mw 0 rfl) rfl dX7_comeBack_6 ?_
  refine ev_iconst (v := (nI 0)) hC dX7_comeBack_9 (by decide) ?_
  refine ev_aload_n hC dX7_comeBack_10 rfl 0 rfl ?_
  refine ev_get hC fl_X7_22_7 (mw 0 rfl) rfl dX7_comeBack_11 ?_
  refine ev_alen (v := nI n) hC (mw 1 rfl) rfl dX7_comeBack_14 ?_
  refine ev_copy0 (ws' := (RW G rr n (cpF n g1 f1) f2 f3 c g1 g2 g3 gc)) (n := n) (q0 := 4) (q1 := 1) hC (⟨(ft_in 1060 (by decide +kernel) rfl), (ft_in 387 (by decide +kernel) rfl), (ft_in 386 (by decide +kernel) rfl), (ft_in 75 (by decide +kernel) rfl)⟩) rfl rfl (by omega) (by omega) (by omega) (by omega) (Nat.le_of_ble_eq_true rfl) rfl dX7_comeBack_15 ?_
  refine ev_aload_n hC dX7_comeBack_18 rfl 0 rfl ?_
  refine ev_get hC fl_X7_35_7 (mw 0 rfl) rfl dX7_comeBack_19 ?_
  refine ev_iconst (v := (nI 0)) hC dX7_comeBack_22 (by decide) ?_
  refine ev_aload_n hC dX7_comeBack_23 rfl 0 rfl ?_
  refine ev_get hC fl_X7_26_7 (mw 0 rfl) rfl dX7_comeBack_24 ?_
  refine ev_iconst (v := (nI 0)) hC dX7_comeBack_27 (by decide) ?_
  refine ev_aload_n hC dX7_comeBack_28 rfl 0 rfl ?_
  refine ev_get hC fl_X7_26_7 (mw 0 rfl) rfl dX7_comeBack_29 ?_
  refine ev_alen (v := nI n) hC (mw 2 rfl) rfl dX7_comeBack_32 ?_
  refine ev_copy0 (ws' := (RW G rr n (cpF n g1 f1) (cpF n g2 f2) f3 c g1 g2 g3 gc)) (n := n) (q0 := 5) (q1 := 2) hC (⟨(ft_in 1060 (by decide +kernel) rfl), (ft_in 387 (by decide +kernel) rfl), (ft_in 386 (by decide +kernel) rfl), (ft_in 75 (by decide +kernel) rfl)⟩) rfl rfl (by omega) (by omega) (by omega) (by omega) (Nat.le_of_ble_eq_true rfl) rfl dX7_comeBack_33 ?_
  refine ev_aload_n hC dX7_comeBack_36 rfl 0 rfl ?_
  refine ev_get hC fl_X7_38_7 (mw 0 rfl) rfl dX7_comeBack_37 ?_
  refine ev_iconst (v := (nI 0)) hC dX7_comeBack_40 (by decide) ?_
  refine ev_aload_n hC dX7_comeBack_41 rfl 0 rfl ?_
  refine ev_get hC fl_X7_29_7 (mw 0 rfl) rfl dX7_comeBack_42 ?_
  refine ev_iconst (v := (nI 0)) hC dX7_comeBack_45 (by decide) ?_
  refine ev_aload_n hC dX7_comeBack_46 rfl 0 rfl ?_
  refine ev_get hC fl_X7_29_7 (mw 0 rfl) rfl dX7_comeBack_47 ?_
  refine ev_alen (v := nI n) hC (mw 3 rfl) rfl dX7_comeBack_50 ?_
  refine ev_copy0 (ws' := (RW G rr n (cpF n g1 f1) (cpF n g2 f2) (cpF n g3 f3) c g1 g2 g3 gc)) (n := n) (q0 := 6) (q1 := 3) hC (⟨(ft_in 1060 (by decide +kernel) rfl), (ft_in 387 (by decide +kernel) rfl), (ft_in 386 (by decide +kernel) rfl), (ft_in 75 (by decide +kernel) rfl)⟩) rfl rfl (by omega) (by omega) (by omega) (by omega) (Nat.le_of_ble_eq_true rfl) rfl dX7_comeBack_51 ?_
  refine ev_aload_n hC dX7_comeBack_54 rfl 0 rfl ?_
  refine ev_aload_n hC dX7_comeBack_55 rfl 0 rfl ?_
  refine ev_get hC fl_X7_13_7 (mw 0 rfl) rfl dX7_comeBack_56 ?_
  refine ev_put (ws' := (RW G rr n (cpF n g1 f1) (cpF n g2 f2) (cpF n g3 f3) gc g1 g2 g3 gc)) (q0 := 0) hC fp_X7_7_7 rfl (Nat.le_of_ble_eq_true rfl) rfl rfl rfl dX7_comeBack_59 ?_
  refine ev_vret hC hR rfl dX7_comeBack_62 ?_
  exact ⟨rfl, rfl, rfl⟩

set_option maxHeartbeats 4000000 in
set_option maxRecDepth 100000 in
theorem m_X11_isWithin (G : GG) (ro : va_W) (x lo hi : Int32)  : Mth G M_X11_isWithin 0 0 0 [.int x, .int lo, .int hi] [] ro (fun r ws' ro' => r = some (.int (bI (lo ≤ x ∧ x ≤ hi))) ∧ ws' = [] ∧ ro = ro') := by
  refine mth_of (by decide +kernel) (Nat.le_of_ble_eq_true rfl) (fun X hC hR => ?_)
  show Ev G X 0 0 0 [(0, .int x), (1, .int lo), (2, .int hi)] [] [] ro
  refine ev_iload_n hC dX11_isWithin_0 rfl 0 rfl ?_
  refine ev_iload_n hC dX11_isWithin_1 rfl 1 rfl ?_
  refine ev_icmp_lt (tgt := 14) hC dX11_isWithin_2 (by decide) (fun c_1 => ?_) (fun c_1 => ?_)
  · refine ev_iconst (v := (nI 0)) hC dX11_isWithin_14 (by decide) ?_
    refine ev_zret hC hR rfl (by rfl) dX11_isWithin_15 ?_
    exact ⟨congrArg (fun z => some (Value.int z)) (by first | exact (if_pos ⟨Int32.not_lt.mp (by assumption), Int32.not_lt.mp (by assumption)⟩).symm | exact (if_neg (fun h => absurd h.1 (Int32.not_le.mpr (by assumption)))).symm | exact (if_neg (fun h => absurd h.2 (Int32.not_le.mpr (by assumption)))).symm), rfl, rfl⟩
  · refine ev_iload_n hC dX11_isWithin_5 rfl 0 rfl ?_
    refine ev_iload_n hC dX11_isWithin_6 rfl 2 rfl ?_
    refine ev_icmp_gt (tgt := 14) hC dX11_isWithin_7 (by decide) (fun c_2 => ?_) (fun c_2 => ?_)
    · refine ev_iconst (v := (nI 0)) hC dX11_isWithin_14 (by decide) ?_
      refine ev_zret hC hR rfl (by rfl) dX11_isWithin_15 ?_
      exact ⟨congrArg (fun z => some (Value.int z)) (by first | exact (if_pos ⟨Int32.not_lt.mp (by assumption), Int32.not_lt.mp (by assumption)⟩).symm | exact (if_neg (fun h => absurd h.1 (Int32.not_le.mpr (by assumption)))).symm | exact (if_neg (fun h => absurd h.2 (Int32.not_le.mpr (by assumption)))).symm), rfl, rfl⟩
    · refine ev_iconst (v := (nI 1)) hC dX11_isWithin_10 (by decide) ?_
      refine ev_goto (tgt := 15) hC dX11_isWithin_11 (by decide) ?_
      refine ev_zret hC hR rfl (by rfl) dX11_isWithin_15 ?_
      exact ⟨congrArg (fun z => some (Value.int z)) (by first | exact (if_pos ⟨Int32.not_lt.mp (by assumption), Int32.not_lt.mp (by assumption)⟩).symm | exact (if_neg (fun h => absurd h.1 (Int32.not_le.mpr (by assumption)))).symm | exact (if_neg (fun h => absurd h.2 (Int32.not_le.mpr (by assumption)))).symm), rfl, rfl⟩

set_option maxHeartbeats 4000000 in
set_option maxRecDepth 100000 in
theorem m_X11_isSide (G : GG) (ro : va_W) (x : Int32)  : Mth G M_X11_isSide 1 0 0 [.int x] [] ro (fun r ws' ro' => r = some (.int (bI ((nI 0) ≤ x ∧ x ≤ (nI 5)))) ∧ ws' = [] ∧ ro = ro') := by
  refine mth_of (by decide +kernel) (Nat.le_of_ble_eq_true rfl) (fun X hC hR => ?_)
  show Ev G X 0 0 0 [(0, .int x)] [] [] ro
  refine ev_iload_n hC dX11_isSide_0 rfl 0 rfl ?_
  refine ev_iconst (v := (nI 0)) hC dX11_isSide_1 (by decide) ?_
  refine ev_iconst (v := (nI 5)) hC dX11_isSide_2 (by decide) ?_
  refine ev_callS (As := [.int x, .int (nI 0), .int (nI 5)]) (st := []) (wc := []) (wf := []) hC ct_X11_68 (m_X11_isWithin G ro x (nI 0) (nI 5)) (by omega) rfl rfl (Nat.le_of_ble_eq_true rfl) (List.Perm.refl _) dX11_isSide_3 (by omega) (by omega) ?_
  rintro _ _ _ ⟨rfl, rfl, rfl⟩
  refine ev_ws (List.nil_append _) ?_
  show Ev G X 0 0 6 [(0, .int x)] [.int (bI ((nI 0) ≤ x ∧ x ≤ (nI 5)))] [] ro
  refine ev_zret hC hR rfl (bI_nar _) dX11_isSide_6 ?_
  exact ⟨rfl, rfl, rfl⟩

set_option maxHeartbeats 4000000 in
set_option maxRecDepth 100000 in
theorem m_X11_isKind (G : GG) (ro : va_W) (x : Int32)  : Mth G M_X11_isKind 1 0 0 [.int x] [] ro (fun r ws' ro' => r = some (.int (bI ((nI 0) ≤ x ∧ x ≤ (nI 6)))) ∧ ws' = [] ∧ ro = ro') := by
  refine mth_of (by decide +kernel) (Nat.le_of_ble_eq_true rfl) (fun X hC hR => ?_)
  show Ev G X 0 0 0 [(0, .int x)] [] [] ro
  refine ev_iload_n hC dX11_isKind_0 rfl 0 rfl ?_
  refine ev_iconst (v := (nI 0)) hC dX11_isKind_1 (by decide) ?_
  refine ev_bipush (v := (nI 6)) hC dX11_isKind_2 (by decide) ?_
  refine ev_callS (As := [.int x, .int (nI 0), .int (nI 6)]) (st := []) (wc := []) (wf := []) hC ct_X11_68 (m_X11_isWithin G ro x (nI 0) (nI 6)) (by omega) rfl rfl (Nat.le_of_ble_eq_true rfl) (List.Perm.refl _) dX11_isKind_4 (by omega) (by omega) ?_
  rintro _ _ _ ⟨rfl, rfl, rfl⟩
  refine ev_ws (List.nil_append _) ?_
  show Ev G X 0 0 7 [(0, .int x)] [.int (bI ((nI 0) ≤ x ∧ x ≤ (nI 6)))] [] ro
  refine ev_zret hC hR rfl (bI_nar _) dX11_isKind_7 ?_
  exact ⟨rfl, rfl, rfl⟩
