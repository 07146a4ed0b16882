/-! THE REFERENCE: its world, its small methods -/
abbrev MW (G : GG) (a : Nat → Nat) (S I F B T R K D : Nat → Int32) (hI ac sp en iw op mu rd ra ki nu tv : Int32) : va_W := [(a 0, ob 12 [.int 0, .ref (a 1), .ref (a 2), .ref (a 3), .int hI, .int ac, .int sp, .int en, .int iw, .int op, .ref (a 4), .ref (a 5), .int mu, .ref (a 6), .ref (a 7), .int rd, .ref (a 8), .int ra, .int ki, .int nu, .int tv]), (a 1, ia G 937 S), (a 2, ia G 937 I), (a 3, ia G 32 F), (a 4, ia G 6 B), (a 5, za G 64 T), (a 6, ia G 6 R), (a 7, ia G 6 K), (a 8, ia G 20 D)]
def wiF (x lo hi : Int32) : Int32 := if x < lo then lo else if hi < x then hi else x
def leF (x y : Int32) : Int32 := if x < y then x else y
/-- the first i places of g, the rest of f -/
def ovF (f g : Nat → Int32) (i : Nat) : Nat → Int32 := fun j => if j < i then g j else f j
theorem ovF_0 (f g : Nat → Int32) : ovF f g 0 = f := funext fun j => if_neg (Nat.not_lt_zero j)
theorem ovF_s (f g : Nat → Int32) (i : Nat) : upd (ovF f g i) i (g i) = ovF f g (i + 1) := by
  funext j
  unfold upd ovF
  by_cases h : j = i
  · subst h; simp
  · by_cases h2 : j < i
    · simp [h, h2, Nat.lt_succ_of_lt h2]
    · have : ¬ j < i + 1 := by omega
      simp [h, h2, this]

set_option maxHeartbeats 4000000 in
set_option maxRecDepth 100000 in
theorem m_X12_in (G : GG) (ro : va_W) (x lo hi : Int32)  : Mth G M_X12_in 0 0 0 [.int x, .int lo, .int hi] [] ro (fun r ws' ro' => r = some (.int (bI (lo ≤ x ∧ x ≤ hi))) ∧ ws' = [] ∧ ro = ro') := by
  refine mth_of (by decide +kernel) (Nat.le_of_ble_eq_true rfl) (fun X hC hR => ?_)
  show Ev G X 0 0 0 [(0, .int x), (1, .int lo), (2, .int hi)] [] [] ro
  refine ev_iload_n hC dX12_in_0 rfl 0 rfl ?_
  refine ev_iload_n hC dX12_in_1 rfl 1 rfl ?_
  refine ev_icmp_lt (tgt := 14) hC dX12_in_2 (by decide) (fun c_1 => ?_) (fun c_1 => ?_)
  · refine ev_iconst (v := (nI 0)) hC dX12_in_14 (by decide) ?_
    refine ev_zret hC hR rfl (by rfl) dX12_in_15 ?_
    exact ⟨congrArg (fun z => some (Value.int z)) (by first | exact (if_pos ⟨Int32.not_lt.mp (by assumption), Int32.not_lt.mp (by assumption)⟩).symm | exact (if_neg (fun h => absurd h.1 (Int32.not_le.mpr (by assumption)))).symm | exact (if_neg (fun h => absurd h.2 (Int32.not_le.mpr (by assumption)))).symm), rfl, rfl⟩
  · refine ev_iload_n hC dX12_in_5 rfl 0 rfl ?_
    refine ev_iload_n hC dX12_in_6 rfl 2 rfl ?_
    refine ev_icmp_gt (tgt := 14) hC dX12_in_7 (by decide) (fun c_2 => ?_) (fun c_2 => ?_)
    · refine ev_iconst (v := (nI 0)) hC dX12_in_14 (by decide) ?_
      refine ev_zret hC hR rfl (by rfl) dX12_in_15 ?_
      exact ⟨congrArg (fun z => some (Value.int z)) (by first | exact (if_pos ⟨Int32.not_lt.mp (by assumption), Int32.not_lt.mp (by assumption)⟩).symm | exact (if_neg (fun h => absurd h.1 (Int32.not_le.mpr (by assumption)))).symm | exact (if_neg (fun h => absurd h.2 (Int32.not_le.mpr (by assumption)))).symm), rfl, rfl⟩
    · refine ev_iconst (v := (nI 1)) hC dX12_in_10 (by decide) ?_
      refine ev_goto (tgt := 15) hC dX12_in_11 (by decide) ?_
      refine ev_zret hC hR rfl (by rfl) dX12_in_15 ?_
      exact ⟨congrArg (fun z => some (Value.int z)) (by first | exact (if_pos ⟨Int32.not_lt.mp (by assumption), Int32.not_lt.mp (by assumption)⟩).symm | exact (if_neg (fun h => absurd h.1 (Int32.not_le.mpr (by assumption)))).symm | exact (if_neg (fun h => absurd h.2 (Int32.not_le.mpr (by assumption)))).symm), rfl, rfl⟩

set_option maxHeartbeats 4000000 in
set_option maxRecDepth 100000 in
theorem m_X12_within (G : GG) (ro : va_W) (x lo hi : Int32)  : Mth G M_X12_within 0 0 0 [.int x, .int lo, .int hi] [] ro (fun r ws' ro' => r = some (.int (wiF x lo hi)) ∧ ws' = [] ∧ ro = ro') := by
  refine mth_of (by decide +kernel) (Nat.le_of_ble_eq_true rfl) (fun X hC hR => ?_)
  show Ev G X 0 0 0 [(0, .int x), (1, .int lo), (2, .int hi)] [] [] ro
  refine ev_iload_n hC dX12_within_0 rfl 0 rfl ?_
  refine ev_iload_n hC dX12_within_1 rfl 1 rfl ?_
  refine ev_icmp_ge (tgt := 9) hC dX12_within_2 (by decide) (fun c_1 => ?_) (fun c_1 => ?_)
  · refine ev_iload_n hC dX12_within_9 rfl 0 rfl ?_
    refine ev_iload_n hC dX12_within_10 rfl 2 rfl ?_
    refine ev_icmp_le (tgt := 18) hC dX12_within_11 (by decide) (fun c_2 => ?_) (fun c_2 => ?_)
    · refine ev_iload_n hC dX12_within_18 rfl 0 rfl ?_
      refine ev_iret hC hR rfl dX12_within_19 ?_
      exact ⟨by simp [wiF, ← Int32.not_le, *], rfl, rfl⟩
    · refine ev_iload_n hC dX12_within_14 rfl 2 rfl ?_
      refine ev_goto (tgt := 19) hC dX12_within_15 (by decide) ?_
      refine ev_iret hC hR rfl dX12_within_19 ?_
      exact ⟨by simp [wiF, ← Int32.not_le, *], rfl, rfl⟩
  · refine ev_iload_n hC dX12_within_5 rfl 1 rfl ?_
    refine ev_goto (tgt := 19) hC dX12_within_6 (by decide) ?_
    refine ev_iret hC hR rfl dX12_within_19 ?_
    exact ⟨by simp [wiF, ← Int32.not_le, *], rfl, rfl⟩

set_option maxHeartbeats 4000000 in
set_option maxRecDepth 100000 in
theorem m_X12_less (G : GG) (ro : va_W) (x y : Int32)  : Mth G M_X12_less 0 0 0 [.int x, .int y] [] ro (fun r ws' ro' => r = some (.int (leF x y)) ∧ ws' = [] ∧ ro = ro') := by
  refine mth_of (by decide +kernel) (Nat.le_of_ble_eq_true rfl) (fun X hC hR => ?_)
  show Ev G X 0 0 0 [(0, .int x), (1, .int y)] [] [] ro
  refine ev_iload_n hC dX12_less_0 rfl 0 rfl ?_
  refine ev_iload_n hC dX12_less_1 rfl 1 rfl ?_
  refine ev_icmp_ge (tgt := 9) hC dX12_less_2 (by decide) (fun c_1 => ?_) (fun c_1 => ?_)
  · refine ev_iload_n hC dX12_less_9 rfl 1 rfl ?_
    refine ev_iret hC hR rfl dX12_less_10 ?_
    exact ⟨by simp [leF, ← Int32.not_le, *], rfl, rfl⟩
  · refine ev_iload_n hC dX12_less_5 rfl 0 rfl ?_
    refine ev_goto (tgt := 10) hC dX12_less_6 (by decide) ?_
    refine ev_iret hC hR rfl dX12_less_10 ?_
    exact ⟨by simp [leF, ← Int32.not_le, *], rfl, rfl⟩

set_option maxHeartbeats 4000000 in
set_option maxRecDepth 100000 in
theorem m_X12_isSide (G : GG) (ro : va_W) (x : Int32)  : Mth G M_X12_isSide 1 0 0 [.int x] [] ro (fun r ws' ro' => r = some (.int (bI ((nI 0) ≤ x ∧ x ≤ (nI 5)))) ∧ ws' = [] ∧ ro = ro') := by
  refine mth_of (by decide +kernel) (Nat.le_of_ble_eq_true rfl) (fun X hC hR => ?_)
  show Ev G X 0 0 0 [(0, .int x)] [] [] ro
  refine ev_iload_n hC dX12_isSide_0 rfl 0 rfl ?_
  refine ev_iconst (v := (nI 0)) hC dX12_isSide_1 (by decide) ?_
  refine ev_iconst (v := (nI 5)) hC dX12_isSide_2 (by decide) ?_
  refine ev_callS (As := [.int x, .int (nI 0), .int (nI 5)]) (st := []) (wc := []) (wf := []) hC ct_X12_44 (m_X12_in G ro x (nI 0) (nI 5)) (by decide) rfl rfl (Nat.le_of_ble_eq_true rfl) (List.Perm.refl _) dX12_isSide_3 (by decide) (by decide) ?_
  rintro _ _ _ ⟨rfl, rfl, rfl⟩
  refine ev_ws (List.nil_append _) ?_
  show Ev G X 0 0 6 [(0, .int x)] [.int (bI ((nI 0) ≤ x ∧ x ≤ (nI 5)))] [] ro
  refine ev_zret hC hR rfl (bI_nar _) dX12_isSide_6 ?_
  exact ⟨rfl, rfl, rfl⟩

set_option maxHeartbeats 4000000 in
set_option maxRecDepth 100000 in
theorem m_X12_isPerson (G : GG) (ro : va_W) (a : Nat → Nat) (S I F B T R K D : Nat → Int32) (hI ac sp en iw op mu rd ra ki nu tv : Int32) (x : Int32)  : Mth G M_X12_isPerson 1 0 0 [.ref (a 0), .int x] (MW G a S I F B T R K D hI ac sp en iw op mu rd ra ki nu tv) ro (fun r ws' ro' => r = some (.int (bI ((nI 0) ≤ x ∧ x ≤ (S 32 - nI 1)))) ∧ ws' = (MW G a S I F B T R K D hI ac sp en iw op mu rd ra ki nu tv) ∧ ro = ro') := by
  refine mth_of (by decide +kernel) (Nat.le_of_ble_eq_true rfl) (fun X hC hR => ?_)
  show Ev G X 0 0 0 [(0, .ref (a 0)), (1, .int x)] [] (MW G a S I F B T R K D hI ac sp en iw op mu rd ra ki nu tv) ro
  refine ev_iload_n hC dX12_isPerson_0 rfl 1 rfl ?_
  refine ev_iconst (v := (nI 0)) hC dX12_isPerson_1 (by decide) ?_
  refine ev_aload_n hC dX12_isPerson_2 rfl 0 rfl ?_
  refine ev_get hC fl_X12_9_12 (mw 0 rfl) rfl dX12_isPerson_3 ?_
  refine ev_bipush (v := (nI 32)) hC dX12_isPerson_6 (by decide) ?_
  refine ev_ialdN (i := 32) hC (mw 1 rfl) (by omega) (by omega) dX12_isPerson_8 ?_
  refine ev_iconst (v := (nI 1)) hC dX12_isPerson_9 (by decide) ?_
  refine ev_isub hC dX12_isPerson_10 ?_
  refine ev_callS (As := [.int x, .int (nI 0), .int ((S 32) - (nI 1))]) (st := []) (wc := []) (wf := (MW G a S I F B T R K D hI ac sp en iw op mu rd ra ki nu tv)) hC ct_X12_44 (m_X12_in G ro x (nI 0) ((S 32) - (nI 1))) (by decide) rfl rfl (Nat.le_of_ble_eq_true rfl) (List.Perm.refl _) dX12_isPerson_11 (by decide) (by decide) ?_
  rintro _ _ _ ⟨rfl, rfl, rfl⟩
  refine ev_ws (List.nil_append _) ?_
  show Ev G X 0 0 14 [(0, .ref (a 0)), (1, .int x)] [.int (bI ((nI 0) ≤ x ∧ x ≤ ((S 32) - (nI 1))))] (MW G a S I F B T R K D hI ac sp en iw op mu rd ra ki nu tv) ro
  refine ev_zret hC hR rfl (bI_nar _) dX12_isPerson_14 ?_
  exact ⟨rfl, rfl, rfl⟩

set_option maxHeartbeats 4000000 in
set_option maxRecDepth 100000 in
theorem m_X12_keeps (G : GG) (ro : va_W) (a : Nat → Nat) (S I F B T R K D : Nat → Int32) (hI ac sp en iw op mu rd ra ki nu tv : Int32)  : Mth G M_X12_keeps 0 0 0 [.ref (a 0)] (MW G a S I F B T R K D hI ac sp en iw op mu rd ra ki nu tv) ro (fun r ws' ro' => r = none ∧ ws' = (MW G a S I (ovF F S 32) B T R K D hI ac sp en iw op mu rd ra ki nu tv) ∧ ro = ro') := by
  refine mth_of (by decide +kernel) (Nat.le_of_ble_eq_true rfl) (fun X hC hR => ?_)
  show Ev G X 0 0 0 [(0, .ref (a 0))] [] (MW G a S I F B T R K D hI ac sp en iw op mu rd ra ki nu tv) ro
  refine ev_iconst (v := (nI 0)) hC dX12_keeps_0 (by decide) ?_
  refine ev_ws (ws' := (MW G a S I (ovF F S 0) B T R K D hI ac sp en iw op mu rd ra ki nu tv)) (by rw [ovF_0]) ?_
  refine ev_istore_n (lv' := [(1, .int (nI 0)), (0, .ref (a 0))]) hC dX12_keeps_1 rfl (by decide) rfl ?_
  have lp_2 : ∀ (n : Nat) (i : Nat) (hi : i ≤ 32) (hn : 32 - i < n), Ev G X 0 0 2 [(0, .ref (a 0)), (1, .int (nI i))] [] (MW G a S I (ovF F S i) B T R K D hI ac sp en iw op mu rd ra ki nu tv) ro := by
    intro n
    induction n with
    | zero => intro i hi hn; exact absurd hn (Nat.not_lt_zero _)
    | succ n ih =>
      intro i hi hn
      refine ev_iload_n hC dX12_keeps_2 rfl 1 rfl ?_
      refine ev_bipush (v := (nI 32)) hC dX12_keeps_3 (by decide) ?_
      refine ev_icmp_geN (tgt := 26) hC dX12_keeps_5 (by decide) (by omega) (by omega) (fun c_1 => ?_) (fun c_1 => ?_)
      · refine ev_vret hC hR rfl dX12_keeps_26 ?_
        obtain rfl : i = 32 := by omega
        exact ⟨rfl, rfl, rfl⟩
      · refine ev_aload_n hC dX12_keeps_8 rfl 0 rfl ?_
        refine ev_get hC fl_X12_18_12 (mw 0 rfl) rfl dX12_keeps_9 ?_
        refine ev_iload_n hC dX12_keeps_12 rfl 1 rfl ?_
        refine ev_aload_n hC dX12_keeps_13 rfl 0 rfl ?_
        refine ev_get hC fl_X12_9_12 (mw 0 rfl) rfl dX12_keeps_14 ?_
        refine ev_iload_n hC dX12_keeps_17 rfl 1 rfl ?_
        refine ev_ialdN (i := i) hC (mw 1 rfl) (by omega) (by omega) dX12_keeps_18 ?_
        refine ev_iastN (i := i) (ws' := (MW G a S I (upd (ovF F S i) i (S i)) B T R K D hI ac sp en iw op mu rd ra ki nu tv)) (q0 := 3) hC rfl (by omega) (by omega) rfl dX12_keeps_19 ?_
        refine ev_iinc (v := (nI (i + 1))) (lv' := [(1, .int (nI (i + 1))), (0, .ref (a 0))]) hC dX12_keeps_20 (q := 1) rfl (nI_k _ _ 1 (by decide)) (by decide) rfl ?_
        refine ev_goto (tgt := 2) hC dX12_keeps_23 (by decide) ?_
        refine ev_lv [1, 0] rfl ?_
        refine ev_ws (ws' := (MW G a S I (ovF F S (i + 1)) B T R K D hI ac sp en iw op mu rd ra ki nu tv)) (by rw [ovF_s]) ?_
        exact ih (i + 1) (by omega) (by omega)
  refine ev_lv [1, 0] rfl ?_
  exact lp_2 (32 - 0 + 1) 0 (by omega) (Nat.lt_succ_self _)

set_option maxHeartbeats 4000000 in
set_option maxRecDepth 100000 in
theorem m_X12_goesBack (G : GG) (ro : va_W) (a : Nat → Nat) (S I F B T R K D : Nat → Int32) (hI ac sp en iw op mu rd ra ki nu tv : Int32)  : Mth G M_X12_goesBack 0 0 0 [.ref (a 0)] (MW G a S I F B T R K D hI ac sp en iw op mu rd ra ki nu tv) ro (fun r ws' ro' => r = none ∧ ws' = (MW G a (ovF S F 32) I F B T R K D hI ac sp en iw op mu rd ra ki nu tv) ∧ ro = ro') := by
  refine mth_of (by decide +kernel) (Nat.le_of_ble_eq_true rfl) (fun X hC hR => ?_)
  show Ev G X 0 0 0 [(0, .ref (a 0))] [] (MW G a S I F B T R K D hI ac sp en iw op mu rd ra ki nu tv) ro
  refine ev_iconst (v := (nI 0)) hC dX12_goesBack_0 (by decide) ?_
  refine ev_ws (ws' := (MW G a (ovF S F 0) I F B T R K D hI ac sp en iw op mu rd ra ki nu tv)) (by rw [ovF_0]) ?_
  refine ev_istore_n (lv' := [(1, .int (nI 0)), (0, .ref (a 0))]) hC dX12_goesBack_1 rfl (by decide) rfl ?_
  have lp_2 : ∀ (n : Nat) (i : Nat) (hi : i ≤ 32) (hn : 32 - i < n), Ev G X 0 0 2 [(0, .ref (a 0)), (1, .int (nI i))] [] (MW G a (ovF S F i) I F B T R K D hI ac sp en iw op mu rd ra ki nu tv) ro := by
    intro n
    induction n with
    | zero => intro i hi hn; exact absurd hn (Nat.not_lt_zero _)
    | succ n ih =>
      intro i hi hn
      refine ev_iload_n hC dX12_goesBack_2 rfl 1 rfl ?_
      refine ev_bipush (v := (nI 32)) hC dX12_goesBack_3 (by decide) ?_
      refine ev_icmp_geN (tgt := 26) hC dX12_goesBack_5 (by decide) (by omega) (by omega) (fun c_1 => ?_) (fun c_1 => ?_)
      · refine ev_vret hC hR rfl dX12_goesBack_26 ?_
        obtain rfl : i = 32 := by omega
        exact ⟨rfl, rfl, rfl⟩
      · refine ev_aload_n hC dX12_goesBack_8 rfl 0 rfl ?_
        refine ev_get hC fl_X12_9_12 (mw 0 rfl) rfl dX12_goesBack_9 ?_
        refine ev_iload_n hC dX12_goesBack_12 rfl 1 rfl ?_
        refine ev_aload_n hC dX12_goesBack_13 rfl 0 rfl ?_
        refine ev_get hC fl_X12_18_12 (mw 0 rfl) rfl dX12_goesBack_14 ?_
        refine ev_iload_n hC dX12_goesBack_17 rfl 1 rfl ?_
        refine ev_ialdN (i := i) hC (mw 3 rfl) (by omega) (by omega) dX12_goesBack_18 ?_
        refine ev_iastN (i := i) (ws' := (MW G a (upd (ovF S F i) i (F i)) I F B T R K D hI ac sp en iw op mu rd ra ki nu tv)) (q0 := 1) hC rfl (by omega) (by omega) rfl dX12_goesBack_19 ?_
        refine ev_iinc (v := (nI (i + 1))) (lv' := [(1, .int (nI (i + 1))), (0, .ref (a 0))]) hC dX12_goesBack_20 (q := 1) rfl (nI_k _ _ 1 (by decide)) (by decide) rfl ?_
        refine ev_goto (tgt := 2) hC dX12_goesBack_23 (by decide) ?_
        refine ev_lv [1, 0] rfl ?_
        refine ev_ws (ws' := (MW G a (ovF S F (i + 1)) I F B T R K D hI ac sp en iw op mu rd ra ki nu tv)) (by rw [ovF_s]) ?_
        exact ih (i + 1) (by omega) (by omega)
  refine ev_lv [1, 0] rfl ?_
  exact lp_2 (32 - 0 + 1) 0 (by omega) (Nat.lt_succ_self _)
