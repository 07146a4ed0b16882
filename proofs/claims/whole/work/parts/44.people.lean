set_option maxHeartbeats 4000000 in
set_option maxRecDepth 100000 in
theorem m_X4_init_c0 (G : GG) (ro : va_W) (q k p v tr : Nat)  : Mth G M_X4_init 1 0 0 [.ref q, .int (nI k), .int (nI p), .int (nI v), .ref tr] ([(q, ob 0 [.int 0, .int 0, .int 0, .null])]) ro (fun r ws' ro' => r = none ∧ ws' = ([(q, ob 0 [.int (nI k), .int (nI p), .int (nI v), .ref tr])]) ∧ ro = ro') := by
  refine mth_of (by decide +kernel) (Nat.le_of_ble_eq_true rfl) (fun X hC hR => ?_)
  show Ev G X 0 0 0 [(0, .ref q), (1, .int (nI k)), (2, .int (nI p)), (3, .int (nI v)), (4, .ref tr)] [] ([(q, ob 0 [.int 0, .int 0, .int 0, .null])]) ro
  refine ev_aload_n hC dX4_init_0 rfl 0 rfl ?_
  refine ev_objInit hC oi_X4_1 (by omega) (Nat.le_of_ble_eq_true rfl) dX4_init_1 ?_
  refine ev_aload_n hC dX4_init_4 rfl 0 rfl ?_
  refine ev_iload_n hC dX4_init_5 rfl 1 rfl ?_
  refine ev_putF (ws' := ([(q, ob 0 [.int (nI k), .int 0, .int 0, .null])])) (q0 := 0) hC fp_X4_7_0 rfl rfl (Nat.le_of_ble_eq_true rfl) rfl rfl rfl dX4_init_6 ?_
  refine ev_aload_n hC dX4_init_9 rfl 0 rfl ?_
  refine ev_iload_n hC dX4_init_10 rfl 2 rfl ?_
  refine ev_putF (ws' := ([(q, ob 0 [.int (nI k), .int (nI p), .int 0, .null])])) (q0 := 0) hC fp_X4_13_0 rfl rfl (Nat.le_of_ble_eq_true rfl) rfl rfl rfl dX4_init_11 ?_
  refine ev_aload_n hC dX4_init_14 rfl 0 rfl ?_
  refine ev_iload_n hC dX4_init_15 rfl 3 rfl ?_
  refine ev_putF (ws' := ([(q, ob 0 [.int (nI k), .int (nI p), .int (nI v), .null])])) (q0 := 0) hC fp_X4_16_0 rfl rfl (Nat.le_of_ble_eq_true rfl) rfl rfl rfl dX4_init_16 ?_
  refine ev_aload_n hC dX4_init_19 rfl 0 rfl ?_
  refine ev_aload hC dX4_init_20 4 rfl ?_
  refine ev_putF (ws' := ([(q, ob 0 [.int (nI k), .int (nI p), .int (nI v), .ref tr])])) (q0 := 0) hC fp_X4_19_0 rfl rfl (Nat.le_of_ble_eq_true rfl) rfl rfl rfl dX4_init_22 ?_
  refine ev_vret hC hR rfl dX4_init_25 ?_
  exact ⟨rfl, rfl, rfl⟩

set_option maxHeartbeats 4000000 in
set_option maxRecDepth 100000 in
theorem m_X4_init_c1 (G : GG) (ro : va_W) (q k p v tr : Nat)  : Mth G M_X4_init 1 0 0 [.ref q, .int (nI k), .int (nI p), .int (nI v), .ref tr] ([(q, ob 1 [.int 0, .int 0, .int 0, .null])]) ro (fun r ws' ro' => r = none ∧ ws' = ([(q, ob 1 [.int (nI k), .int (nI p), .int (nI v), .ref tr])]) ∧ ro = ro') := by
  refine mth_of (by decide +kernel) (Nat.le_of_ble_eq_true rfl) (fun X hC hR => ?_)
  show Ev G X 0 0 0 [(0, .ref q), (1, .int (nI k)), (2, .int (nI p)), (3, .int (nI v)), (4, .ref tr)] [] ([(q, ob 1 [.int 0, .int 0, .int 0, .null])]) ro
  refine ev_aload_n hC dX4_init_0 rfl 0 rfl ?_
  refine ev_objInit hC oi_X4_1 (by omega) (Nat.le_of_ble_eq_true rfl) dX4_init_1 ?_
  refine ev_aload_n hC dX4_init_4 rfl 0 rfl ?_
  refine ev_iload_n hC dX4_init_5 rfl 1 rfl ?_
  refine ev_putF (ws' := ([(q, ob 1 [.int (nI k), .int 0, .int 0, .null])])) (q0 := 0) hC fp_X4_7_1 rfl rfl (Nat.le_of_ble_eq_true rfl) rfl rfl rfl dX4_init_6 ?_
  refine ev_aload_n hC dX4_init_9 rfl 0 rfl ?_
  refine ev_iload_n hC dX4_init_10 rfl 2 rfl ?_
  refine ev_putF (ws' := ([(q, ob 1 [.int (nI k), .int (nI p), .int 0, .null])])) (q0 := 0) hC fp_X4_13_1 rfl rfl (Nat.le_of_ble_eq_true rfl) rfl rfl rfl dX4_init_11 ?_
  refine ev_aload_n hC dX4_init_14 rfl 0 rfl ?_
  refine ev_iload_n hC dX4_init_15 rfl 3 rfl ?_
  refine ev_putF (ws' := ([(q, ob 1 [.int (nI k), .int (nI p), .int (nI v), .null])])) (q0 := 0) hC fp_X4_16_1 rfl rfl (Nat.le_of_ble_eq_true rfl) rfl rfl rfl dX4_init_16 ?_
  refine ev_aload_n hC dX4_init_19 rfl 0 rfl ?_
  refine ev_aload hC dX4_init_20 4 rfl ?_
  refine ev_putF (ws' := ([(q, ob 1 [.int (nI k), .int (nI p), .int (nI v), .ref tr])])) (q0 := 0) hC fp_X4_19_1 rfl rfl (Nat.le_of_ble_eq_true rfl) rfl rfl rfl dX4_init_22 ?_
  refine ev_vret hC hR rfl dX4_init_25 ?_
  exact ⟨rfl, rfl, rfl⟩

set_option maxHeartbeats 4000000 in
set_option maxRecDepth 100000 in
theorem m_X4_init_c2 (G : GG) (ro : va_W) (q k p v tr : Nat)  : Mth G M_X4_init 1 0 0 [.ref q, .int (nI k), .int (nI p), .int (nI v), .ref tr] ([(q, ob 2 [.int 0, .int 0, .int 0, .null])]) ro (fun r ws' ro' => r = none ∧ ws' = ([(q, ob 2 [.int (nI k), .int (nI p), .int (nI v), .ref tr])]) ∧ ro = ro') := by
  refine mth_of (by decide +kernel) (Nat.le_of_ble_eq_true rfl) (fun X hC hR => ?_)
  show Ev G X 0 0 0 [(0, .ref q), (1, .int (nI k)), (2, .int (nI p)), (3, .int (nI v)), (4, .ref tr)] [] ([(q, ob 2 [.int 0, .int 0, .int 0, .null])]) ro
  refine ev_aload_n hC dX4_init_0 rfl 0 rfl ?_
  refine ev_objInit hC oi_X4_1 (by omega) (Nat.le_of_ble_eq_true rfl) dX4_init_1 ?_
  refine ev_aload_n hC dX4_init_4 rfl 0 rfl ?_
  refine ev_iload_n hC dX4_init_5 rfl 1 rfl ?_
  refine ev_putF (ws' := ([(q, ob 2 [.int (nI k), .int 0, .int 0, .null])])) (q0 := 0) hC fp_X4_7_2 rfl rfl (Nat.le_of_ble_eq_true rfl) rfl rfl rfl dX4_init_6 ?_
  refine ev_aload_n hC dX4_init_9 rfl 0 rfl ?_
  refine ev_iload_n hC dX4_init_10 rfl 2 rfl ?_
  refine ev_putF (ws' := ([(q, ob 2 [.int (nI k), .int (nI p), .int 0, .null])])) (q0 := 0) hC fp_X4_13_2 rfl rfl (Nat.le_of_ble_eq_true rfl) rfl rfl rfl dX4_init_11 ?_
  refine ev_aload_n hC dX4_init_14 rfl 0 rfl ?_
  refine ev_iload_n hC dX4_init_15 rfl 3 rfl ?_
  refine ev_putF (ws' := ([(q, ob 2 [.int (nI k), .int (nI p), .int (nI v), .null])])) (q0 := 0) hC fp_X4_16_2 rfl rfl (Nat.le_of_ble_eq_true rfl) rfl rfl rfl dX4_init_16 ?_
  refine ev_aload_n hC dX4_init_19 rfl 0 rfl ?_
  refine ev_aload hC dX4_init_20 4 rfl ?_
  refine ev_putF (ws' := ([(q, ob 2 [.int (nI k), .int (nI p), .int (nI v), .ref tr])])) (q0 := 0) hC fp_X4_19_2 rfl rfl (Nat.le_of_ble_eq_true rfl) rfl rfl rfl dX4_init_22 ?_
  refine ev_vret hC hR rfl dX4_init_25 ?_
  exact ⟨rfl, rfl, rfl⟩

set_option maxHeartbeats 4000000 in
set_option maxRecDepth 100000 in
theorem m_X4_init_c4 (G : GG) (ro : va_W) (q k p v tr : Nat)  : Mth G M_X4_init 1 0 0 [.ref q, .int (nI k), .int (nI p), .int (nI v), .ref tr] ([(q, ob 4 [.int 0, .int 0, .int 0, .null])]) ro (fun r ws' ro' => r = none ∧ ws' = ([(q, ob 4 [.int (nI k), .int (nI p), .int (nI v), .ref tr])]) ∧ ro = ro') := by
  refine mth_of (by decide +kernel) (Nat.le_of_ble_eq_true rfl) (fun X hC hR => ?_)
  show Ev G X 0 0 0 [(0, .ref q), (1, .int (nI k)), (2, .int (nI p)), (3, .int (nI v)), (4, .ref tr)] [] ([(q, ob 4 [.int 0, .int 0, .int 0, .null])]) ro
  refine ev_aload_n hC dX4_init_0 rfl 0 rfl ?_
  refine ev_objInit hC oi_X4_1 (by omega) (Nat.le_of_ble_eq_true rfl) dX4_init_1 ?_
  refine ev_aload_n hC dX4_init_4 rfl 0 rfl ?_
  refine ev_iload_n hC dX4_init_5 rfl 1 rfl ?_
  refine ev_putF (ws' := ([(q, ob 4 [.int (nI k), .int 0, .int 0, .null])])) (q0 := 0) hC fp_X4_7_4 rfl rfl (Nat.le_of_ble_eq_true rfl) rfl rfl rfl dX4_init_6 ?_
  refine ev_aload_n hC dX4_init_9 rfl 0 rfl ?_
  refine ev_iload_n hC dX4_init_10 rfl 2 rfl ?_
  refine ev_putF (ws' := ([(q, ob 4 [.int (nI k), .int (nI p), .int 0, .null])])) (q0 := 0) hC fp_X4_13_4 rfl rfl (Nat.le_of_ble_eq_true rfl) rfl rfl rfl dX4_init_11 ?_
  refine ev_aload_n hC dX4_init_14 rfl 0 rfl ?_
  refine ev_iload_n hC dX4_init_15 rfl 3 rfl ?_
  refine ev_putF (ws' := ([(q, ob 4 [.int (nI k), .int (nI p), .int (nI v), .null])])) (q0 := 0) hC fp_X4_16_4 rfl rfl (Nat.le_of_ble_eq_true rfl) rfl rfl rfl dX4_init_16 ?_
  refine ev_aload_n hC dX4_init_19 rfl 0 rfl ?_
  refine ev_aload hC dX4_init_20 4 rfl ?_
  refine ev_putF (ws' := ([(q, ob 4 [.int (nI k), .int (nI p), .int (nI v), .ref tr])])) (q0 := 0) hC fp_X4_19_4 rfl rfl (Nat.le_of_ble_eq_true rfl) rfl rfl rfl dX4_init_22 ?_
  refine ev_vret hC hR rfl dX4_init_25 ?_
  exact ⟨rfl, rfl, rfl⟩

set_option maxHeartbeats 4000000 in
set_option maxRecDepth 100000 in
theorem m_X4_init_c5 (G : GG) (ro : va_W) (q k p v tr : Nat)  : Mth G M_X4_init 1 0 0 [.ref q, .int (nI k), .int (nI p), .int (nI v), .ref tr] ([(q, ob 5 [.int 0, .int 0, .int 0, .null])]) ro (fun r ws' ro' => r = none ∧ ws' = ([(q, ob 5 [.int (nI k), .int (nI p), .int (nI v), .ref tr])]) ∧ ro = ro') := by
  refine mth_of (by decide +kernel) (Nat.le_of_ble_eq_true rfl) (fun X hC hR => ?_)
  show Ev G X 0 0 0 [(0, .ref q), (1, .int (nI k)), (2, .int (nI p)), (3, .int (nI v)), (4, .ref tr)] [] ([(q, ob 5 [.int 0, .int 0, .int 0, .null])]) ro
  refine ev_aload_n hC dX4_init_0 rfl 0 rfl ?_
  refine ev_objInit hC oi_X4_1 (by omega) (Nat.le_of_ble_eq_true rfl) dX4_init_1 ?_
  refine ev_aload_n hC dX4_init_4 rfl 0 rfl ?_
  refine ev_iload_n hC dX4_init_5 rfl 1 rfl ?_
  refine ev_putF (ws' := ([(q, ob 5 [.int (nI k), .int 0, .int 0, .null])])) (q0 := 0) hC fp_X4_7_5 rfl rfl (Nat.le_of_ble_eq_true rfl) rfl rfl rfl dX4_init_6 ?_
  refine ev_aload_n hC dX4_init_9 rfl 0 rfl ?_
  refine ev_iload_n hC dX4_init_10 rfl 2 rfl ?_
  refine ev_putF (ws' := ([(q, ob 5 [.int (nI k), .int (nI p), .int 0, .null])])) (q0 := 0) hC fp_X4_13_5 rfl rfl (Nat.le_of_ble_eq_true rfl) rfl rfl rfl dX4_init_11 ?_
  refine ev_aload_n hC dX4_init_14 rfl 0 rfl ?_
  refine ev_iload_n hC dX4_init_15 rfl 3 rfl ?_
  refine ev_putF (ws' := ([(q, ob 5 [.int (nI k), .int (nI p), .int (nI v), .null])])) (q0 := 0) hC fp_X4_16_5 rfl rfl (Nat.le_of_ble_eq_true rfl) rfl rfl rfl dX4_init_16 ?_
  refine ev_aload_n hC dX4_init_19 rfl 0 rfl ?_
  refine ev_aload hC dX4_init_20 4 rfl ?_
  refine ev_putF (ws' := ([(q, ob 5 [.int (nI k), .int (nI p), .int (nI v), .ref tr])])) (q0 := 0) hC fp_X4_19_5 rfl rfl (Nat.le_of_ble_eq_true rfl) rfl rfl rfl dX4_init_22 ?_
  refine ev_vret hC hR rfl dX4_init_25 ?_
  exact ⟨rfl, rfl, rfl⟩

set_option maxHeartbeats 4000000 in
set_option maxRecDepth 100000 in
theorem m_X4_init_c8 (G : GG) (ro : va_W) (q k p v tr : Nat)  : Mth G M_X4_init 1 0 0 [.ref q, .int (nI k), .int (nI p), .int (nI v), .ref tr] ([(q, ob 8 [.int 0, .int 0, .int 0, .null])]) ro (fun r ws' ro' => r = none ∧ ws' = ([(q, ob 8 [.int (nI k), .int (nI p), .int (nI v), .ref tr])]) ∧ ro = ro') := by
  refine mth_of (by decide +kernel) (Nat.le_of_ble_eq_true rfl) (fun X hC hR => ?_)
  show Ev G X 0 0 0 [(0, .ref q), (1, .int (nI k)), (2, .int (nI p)), (3, .int (nI v)), (4, .ref tr)] [] ([(q, ob 8 [.int 0, .int 0, .int 0, .null])]) ro
  refine ev_aload_n hC dX4_init_0 rfl 0 rfl ?_
  refine ev_objInit hC oi_X4_1 (by omega) (Nat.le_of_ble_eq_true rfl) dX4_init_1 ?_
  refine ev_aload_n hC dX4_init_4 rfl 0 rfl ?_
  refine ev_iload_n hC dX4_init_5 rfl 1 rfl ?_
  refine ev_putF (ws' := ([(q, ob 8 [.int (nI k), .int 0, .int 0, .null])])) (q0 := 0) hC fp_X4_7_8 rfl rfl (Nat.le_of_ble_eq_true rfl) rfl rfl rfl dX4_init_6 ?_
  refine ev_aload_n hC dX4_init_9 rfl 0 rfl ?_
  refine ev_iload_n hC dX4_init_10 rfl 2 rfl ?_
  refine ev_putF (ws' := ([(q, ob 8 [.int (nI k), .int (nI p), .int 0, .null])])) (q0 := 0) hC fp_X4_13_8 rfl rfl (Nat.le_of_ble_eq_true rfl) rfl rfl rfl dX4_init_11 ?_
  refine ev_aload_n hC dX4_init_14 rfl 0 rfl ?_
  refine ev_iload_n hC dX4_init_15 rfl 3 rfl ?_
  refine ev_putF (ws' := ([(q, ob 8 [.int (nI k), .int (nI p), .int (nI v), .null])])) (q0 := 0) hC fp_X4_16_8 rfl rfl (Nat.le_of_ble_eq_true rfl) rfl rfl rfl dX4_init_16 ?_
  refine ev_aload_n hC dX4_init_19 rfl 0 rfl ?_
  refine ev_aload hC dX4_init_20 4 rfl ?_
  refine ev_putF (ws' := ([(q, ob 8 [.int (nI k), .int (nI p), .int (nI v), .ref tr])])) (q0 := 0) hC fp_X4_19_8 rfl rfl (Nat.le_of_ble_eq_true rfl) rfl rfl rfl dX4_init_22 ?_
  refine ev_vret hC hR rfl dX4_init_25 ?_
  exact ⟨rfl, rfl, rfl⟩

set_option maxHeartbeats 4000000 in
set_option maxRecDepth 100000 in
theorem m_X4_init_c9 (G : GG) (ro : va_W) (q k p v tr : Nat)  : Mth G M_X4_init 1 0 0 [.ref q, .int (nI k), .int (nI p), .int (nI v), .ref tr] ([(q, ob 9 [.int 0, .int 0, .int 0, .null])]) ro (fun r ws' ro' => r = none ∧ ws' = ([(q, ob 9 [.int (nI k), .int (nI p), .int (nI v), .ref tr])]) ∧ ro = ro') := by
  refine mth_of (by decide +kernel) (Nat.le_of_ble_eq_true rfl) (fun X hC hR => ?_)
  show Ev G X 0 0 0 [(0, .ref q), (1, .int (nI k)), (2, .int (nI p)), (3, .int (nI v)), (4, .ref tr)] [] ([(q, ob 9 [.int 0, .int 0, .int 0, .null])]) ro
  refine ev_aload_n hC dX4_init_0 rfl 0 rfl ?_
  refine ev_objInit hC oi_X4_1 (by omega) (Nat.le_of_ble_eq_true rfl) dX4_init_1 ?_
  refine ev_aload_n hC dX4_init_4 rfl 0 rfl ?_
  refine ev_iload_n hC dX4_init_5 rfl 1 rfl ?_
  refine ev_putF (ws' := ([(q, ob 9 [.int (nI k), .int 0, .int 0, .null])])) (q0 := 0) hC fp_X4_7_9 rfl rfl (Nat.le_of_ble_eq_true rfl) rfl rfl rfl dX4_init_6 ?_
  refine ev_aload_n hC dX4_init_9 rfl 0 rfl ?_
  refine ev_iload_n hC dX4_init_10 rfl 2 rfl ?_
  refine ev_putF (ws' := ([(q, ob 9 [.int (nI k), .int (nI p), .int 0, .null])])) (q0 := 0) hC fp_X4_13_9 rfl rfl (Nat.le_of_ble_eq_true rfl) rfl rfl rfl dX4_init_11 ?_
  refine ev_aload_n hC dX4_init_14 rfl 0 rfl ?_
  refine ev_iload_n hC dX4_init_15 rfl 3 rfl ?_
  refine ev_putF (ws' := ([(q, ob 9 [.int (nI k), .int (nI p), .int (nI v), .null])])) (q0 := 0) hC fp_X4_16_9 rfl rfl (Nat.le_of_ble_eq_true rfl) rfl rfl rfl dX4_init_16 ?_
  refine ev_aload_n hC dX4_init_19 rfl 0 rfl ?_
  refine ev_aload hC dX4_init_20 4 rfl ?_
  refine ev_putF (ws' := ([(q, ob 9 [.int (nI k), .int (nI p), .int (nI v), .ref tr])])) (q0 := 0) hC fp_X4_19_9 rfl rfl (Nat.le_of_ble_eq_true rfl) rfl rfl rfl dX4_init_22 ?_
  refine ev_vret hC hR rfl dX4_init_25 ?_
  exact ⟨rfl, rfl, rfl⟩

set_option maxHeartbeats 4000000 in
set_option maxRecDepth 100000 in
theorem m_X1_init_c1 (G : GG) (ro : va_W) (q k p v tr : Nat)  : Mth G M_X1_init 2 0 0 [.ref q, .int (nI k), .int (nI p), .int (nI v), .ref tr] ([(q, ob 1 [.int 0, .int 0, .int 0, .null])]) ro (fun r ws' ro' => r = none ∧ ws' = ([(q, ob 1 [.int (nI k), .int (nI p), .int (nI v), .ref tr])]) ∧ ro = ro') := by
  refine mth_of (by decide +kernel) (Nat.le_of_ble_eq_true rfl) (fun X hC hR => ?_)
  show Ev G X 0 0 0 [(0, .ref q), (1, .int (nI k)), (2, .int (nI p)), (3, .int (nI v)), (4, .ref tr)] [] ([(q, ob 1 [.int 0, .int 0, .int 0, .null])]) ro
  refine ev_aload_n hC dX1_init_0 rfl 0 rfl ?_
  refine ev_iload_n hC dX1_init_1 rfl 1 rfl ?_
  refine ev_iload_n hC dX1_init_2 rfl 2 rfl ?_
  refine ev_iload_n hC dX1_init_3 rfl 3 rfl ?_
  refine ev_aload hC dX1_init_4 4 rfl ?_
  refine ev_callI (As := [.int (nI k), .int (nI p), .int (nI v), .ref tr]) (st := []) (wf := []) hC co_X1_1 (m_X4_init_c1 G ro q k p v tr) (by omega) rfl rfl (Nat.le_of_ble_eq_true rfl) (List.Perm.of_eq (List.append_nil _).symm) dX1_init_6 (by omega) (by omega) ?_
  rintro _ _ _ ⟨rfl, rfl, rfl⟩
  refine ev_ws (List.append_nil _) ?_
  show Ev G X 0 0 9 [(0, .ref q), (1, .int (nI k)), (2, .int (nI p)), (3, .int (nI v)), (4, .ref tr)] [] ([(q, ob 1 [.int (nI k), .int (nI p), .int (nI v), .ref tr])]) ro
  refine ev_vret hC hR rfl dX1_init_9 ?_
  exact ⟨rfl, rfl, rfl⟩

set_option maxHeartbeats 4000000 in
set_option maxRecDepth 100000 in
theorem m_X1_init_c2 (G : GG) (ro : va_W) (q k p v tr : Nat)  : Mth G M_X1_init 2 0 0 [.ref q, .int (nI k), .int (nI p), .int (nI v), .ref tr] ([(q, ob 2 [.int 0, .int 0, .int 0, .null])]) ro (fun r ws' ro' => r = none ∧ ws' = ([(q, ob 2 [.int (nI k), .int (nI p), .int (nI v), .ref tr])]) ∧ ro = ro') := by
  refine mth_of (by decide +kernel) (Nat.le_of_ble_eq_true rfl) (fun X hC hR => ?_)
  show Ev G X 0 0 0 [(0, .ref q), (1, .int (nI k)), (2, .int (nI p)), (3, .int (nI v)), (4, .ref tr)] [] ([(q, ob 2 [.int 0, .int 0, .int 0, .null])]) ro
  refine ev_aload_n hC dX1_init_0 rfl 0 rfl ?_
  refine ev_iload_n hC dX1_init_1 rfl 1 rfl ?_
  refine ev_iload_n hC dX1_init_2 rfl 2 rfl ?_
  refine ev_iload_n hC dX1_init_3 rfl 3 rfl ?_
  refine ev_aload hC dX1_init_4 4 rfl ?_
  refine ev_callI (As := [.int (nI k), .int (nI p), .int (nI v), .ref tr]) (st := []) (wf := []) hC co_X1_1 (m_X4_init_c2 G ro q k p v tr) (by omega) rfl rfl (Nat.le_of_ble_eq_true rfl) (List.Perm.of_eq (List.append_nil _).symm) dX1_init_6 (by omega) (by omega) ?_
  rintro _ _ _ ⟨rfl, rfl, rfl⟩
  refine ev_ws (List.append_nil _) ?_
  show Ev G X 0 0 9 [(0, .ref q), (1, .int (nI k)), (2, .int (nI p)), (3, .int (nI v)), (4, .ref tr)] [] ([(q, ob 2 [.int (nI k), .int (nI p), .int (nI v), .ref tr])]) ro
  refine ev_vret hC hR rfl dX1_init_9 ?_
  exact ⟨rfl, rfl, rfl⟩

set_option maxHeartbeats 4000000 in
set_option maxRecDepth 100000 in
theorem m_X0_init_c0 (G : GG) (ro : va_W) (q k p v tr : Nat)  : Mth G M_X0_init 2 0 0 [.ref q, .int (nI k), .int (nI p), .int (nI v), .ref tr] ([(q, ob 0 [.int 0, .int 0, .int 0, .null])]) ro (fun r ws' ro' => r = none ∧ ws' = ([(q, ob 0 [.int (nI k), .int (nI p), .int (nI v), .ref tr])]) ∧ ro = ro') := by
  refine mth_of (by decide +kernel) (Nat.le_of_ble_eq_true rfl) (fun X hC hR => ?_)
  show Ev G X 0 0 0 [(0, .ref q), (1, .int (nI k)), (2, .int (nI p)), (3, .int (nI v)), (4, .ref tr)] [] ([(q, ob 0 [.int 0, .int 0, .int 0, .null])]) ro
  refine ev_aload_n hC dX0_init_0 rfl 0 rfl ?_
  refine ev_iload_n hC dX0_init_1 rfl 1 rfl ?_
  refine ev_iload_n hC dX0_init_2 rfl 2 rfl ?_
  refine ev_iload_n hC dX0_init_3 rfl 3 rfl ?_
  refine ev_aload hC dX0_init_4 4 rfl ?_
  refine ev_callI (As := [.int (nI k), .int (nI p), .int (nI v), .ref tr]) (st := []) (wf := []) hC co_X0_1 (m_X4_init_c0 G ro q k p v tr) (by omega) rfl rfl (Nat.le_of_ble_eq_true rfl) (List.Perm.of_eq (List.append_nil _).symm) dX0_init_6 (by omega) (by omega) ?_
  rintro _ _ _ ⟨rfl, rfl, rfl⟩
  refine ev_ws (List.append_nil _) ?_
  show Ev G X 0 0 9 [(0, .ref q), (1, .int (nI k)), (2, .int (nI p)), (3, .int (nI v)), (4, .ref tr)] [] ([(q, ob 0 [.int (nI k), .int (nI p), .int (nI v), .ref tr])]) ro
  refine ev_vret hC hR rfl dX0_init_9 ?_
  exact ⟨rfl, rfl, rfl⟩

set_option maxHeartbeats 4000000 in
set_option maxRecDepth 100000 in
theorem m_X0_init_c5 (G : GG) (ro : va_W) (q k p v tr : Nat)  : Mth G M_X0_init 2 0 0 [.ref q, .int (nI k), .int (nI p), .int (nI v), .ref tr] ([(q, ob 5 [.int 0, .int 0, .int 0, .null])]) ro (fun r ws' ro' => r = none ∧ ws' = ([(q, ob 5 [.int (nI k), .int (nI p), .int (nI v), .ref tr])]) ∧ ro = ro') := by
  refine mth_of (by decide +kernel) (Nat.le_of_ble_eq_true rfl) (fun X hC hR => ?_)
  show Ev G X 0 0 0 [(0, .ref q), (1, .int (nI k)), (2, .int (nI p)), (3, .int (nI v)), (4, .ref tr)] [] ([(q, ob 5 [.int 0, .int 0, .int 0, .null])]) ro
  refine ev_aload_n hC dX0_init_0 rfl 0 rfl ?_
  refine ev_iload_n hC dX0_init_1 rfl 1 rfl ?_
  refine ev_iload_n hC dX0_init_2 rfl 2 rfl ?_
  refine ev_iload_n hC dX0_init_3 rfl 3 rfl ?_
  refine ev_aload hC dX0_init_4 4 rfl ?_
  refine ev_callI (As := [.int (nI k), .int (nI p), .int (nI v), .ref tr]) (st := []) (wf := []) hC co_X0_1 (m_X4_init_c5 G ro q k p v tr) (by omega) rfl rfl (Nat.le_of_ble_eq_true rfl) (List.Perm.of_eq (List.append_nil _).symm) dX0_init_6 (by omega) (by omega) ?_
  rintro _ _ _ ⟨rfl, rfl, rfl⟩
  refine ev_ws (List.append_nil _) ?_
  show Ev G X 0 0 9 [(0, .ref q), (1, .int (nI k)), (2, .int (nI p)), (3, .int (nI v)), (4, .ref tr)] [] ([(q, ob 5 [.int (nI k), .int (nI p), .int (nI v), .ref tr])]) ro
  refine ev_vret hC hR rfl dX0_init_9 ?_
  exact ⟨rfl, rfl, rfl⟩

set_option maxHeartbeats 4000000 in
set_option maxRecDepth 100000 in
theorem m_X8_init_c8 (G : GG) (ro : va_W) (q k p v tr : Nat)  : Mth G M_X8_init 2 0 0 [.ref q, .int (nI k), .int (nI p), .int (nI v), .ref tr] ([(q, ob 8 [.int 0, .int 0, .int 0, .null])]) ro (fun r ws' ro' => r = none ∧ ws' = ([(q, ob 8 [.int (nI k), .int (nI p), .int (nI v), .ref tr])]) ∧ ro = ro') := by
  refine mth_of (by decide +kernel) (Nat.le_of_ble_eq_true rfl) (fun X hC hR => ?_)
  show Ev G X 0 0 0 [(0, .ref q), (1, .int (nI k)), (2, .int (nI p)), (3, .int (nI v)), (4, .ref tr)] [] ([(q, ob 8 [.int 0, .int 0, .int 0, .null])]) ro
  refine ev_aload_n hC dX8_init_0 rfl 0 rfl ?_
  refine ev_iload_n hC dX8_init_1 rfl 1 rfl ?_
  refine ev_iload_n hC dX8_init_2 rfl 2 rfl ?_
  refine ev_iload_n hC dX8_init_3 rfl 3 rfl ?_
  refine ev_aload hC dX8_init_4 4 rfl ?_
  refine ev_callI (As := [.int (nI k), .int (nI p), .int (nI v), .ref tr]) (st := []) (wf := []) hC co_X8_3 (m_X4_init_c8 G ro q k p v tr) (by omega) rfl rfl (Nat.le_of_ble_eq_true rfl) (List.Perm.of_eq (List.append_nil _).symm) dX8_init_6 (by omega) (by omega) ?_
  rintro _ _ _ ⟨rfl, rfl, rfl⟩
  refine ev_ws (List.append_nil _) ?_
  show Ev G X 0 0 9 [(0, .ref q), (1, .int (nI k)), (2, .int (nI p)), (3, .int (nI v)), (4, .ref tr)] [] ([(q, ob 8 [.int (nI k), .int (nI p), .int (nI v), .ref tr])]) ro
  refine ev_vret hC hR rfl dX8_init_9 ?_
  exact ⟨rfl, rfl, rfl⟩

set_option maxHeartbeats 4000000 in
set_option maxRecDepth 100000 in
theorem m_X8_init_c9 (G : GG) (ro : va_W) (q k p v tr : Nat)  : Mth G M_X8_init 2 0 0 [.ref q, .int (nI k), .int (nI p), .int (nI v), .ref tr] ([(q, ob 9 [.int 0, .int 0, .int 0, .null])]) ro (fun r ws' ro' => r = none ∧ ws' = ([(q, ob 9 [.int (nI k), .int (nI p), .int (nI v), .ref tr])]) ∧ ro = ro') := by
  refine mth_of (by decide +kernel) (Nat.le_of_ble_eq_true rfl) (fun X hC hR => ?_)
  show Ev G X 0 0 0 [(0, .ref q), (1, .int (nI k)), (2, .int (nI p)), (3, .int (nI v)), (4, .ref tr)] [] ([(q, ob 9 [.int 0, .int 0, .int 0, .null])]) ro
  refine ev_aload_n hC dX8_init_0 rfl 0 rfl ?_
  refine ev_iload_n hC dX8_init_1 rfl 1 rfl ?_
  refine ev_iload_n hC dX8_init_2 rfl 2 rfl ?_
  refine ev_iload_n hC dX8_init_3 rfl 3 rfl ?_
  refine ev_aload hC dX8_init_4 4 rfl ?_
  refine ev_callI (As := [.int (nI k), .int (nI p), .int (nI v), .ref tr]) (st := []) (wf := []) hC co_X8_3 (m_X4_init_c9 G ro q k p v tr) (by omega) rfl rfl (Nat.le_of_ble_eq_true rfl) (List.Perm.of_eq (List.append_nil _).symm) dX8_init_6 (by omega) (by omega) ?_
  rintro _ _ _ ⟨rfl, rfl, rfl⟩
  refine ev_ws (List.append_nil _) ?_
  show Ev G X 0 0 9 [(0, .ref q), (1, .int (nI k)), (2, .int (nI p)), (3, .int (nI v)), (4, .ref tr)] [] ([(q, ob 9 [.int (nI k), .int (nI p), .int (nI v), .ref tr])]) ro
  refine ev_vret hC hR rfl dX8_init_9 ?_
  exact ⟨rfl, rfl, rfl⟩

set_option maxHeartbeats 4000000 in
set_option maxRecDepth 100000 in
theorem m_X2_init_c2 (G : GG) (ro : va_W) (q k p v tr : Nat)  : Mth G M_X2_init 3 0 0 [.ref q, .int (nI k), .int (nI p), .int (nI v), .ref tr] ([(q, ob 2 [.int 0, .int 0, .int 0, .null])]) ro (fun r ws' ro' => r = none ∧ ws' = ([(q, ob 2 [.int (nI k), .int (nI p), .int (nI v), .ref tr])]) ∧ ro = ro') := by
  refine mth_of (by decide +kernel) (Nat.le_of_ble_eq_true rfl) (fun X hC hR => ?_)
  show Ev G X 0 0 0 [(0, .ref q), (1, .int (nI k)), (2, .int (nI p)), (3, .int (nI v)), (4, .ref tr)] [] ([(q, ob 2 [.int 0, .int 0, .int 0, .null])]) ro
  refine ev_aload_n hC dX2_init_0 rfl 0 rfl ?_
  refine ev_iload_n hC dX2_init_1 rfl 1 rfl ?_
  refine ev_iload_n hC dX2_init_2 rfl 2 rfl ?_
  refine ev_iload_n hC dX2_init_3 rfl 3 rfl ?_
  refine ev_aload hC dX2_init_4 4 rfl ?_
  refine ev_callI (As := [.int (nI k), .int (nI p), .int (nI v), .ref tr]) (st := []) (wf := []) hC co_X2_1 (m_X1_init_c2 G ro q k p v tr) (by omega) rfl rfl (Nat.le_of_ble_eq_true rfl) (List.Perm.of_eq (List.append_nil _).symm) dX2_init_6 (by omega) (by omega) ?_
  rintro _ _ _ ⟨rfl, rfl, rfl⟩
  refine ev_ws (List.append_nil _) ?_
  show Ev G X 0 0 9 [(0, .ref q), (1, .int (nI k)), (2, .int (nI p)), (3, .int (nI v)), (4, .ref tr)] [] ([(q, ob 2 [.int (nI k), .int (nI p), .int (nI v), .ref tr])]) ro
  refine ev_vret hC hR rfl dX2_init_9 ?_
  exact ⟨rfl, rfl, rfl⟩

set_option maxHeartbeats 4000000 in
set_option maxRecDepth 100000 in
theorem m_X5_init_c5 (G : GG) (ro : va_W) (q k p v tr : Nat)  : Mth G M_X5_init 3 0 0 [.ref q, .int (nI k), .int (nI p), .int (nI v), .ref tr] ([(q, ob 5 [.int 0, .int 0, .int 0, .null])]) ro (fun r ws' ro' => r = none ∧ ws' = ([(q, ob 5 [.int (nI k), .int (nI p), .int (nI v), .ref tr])]) ∧ ro = ro') := by
  refine mth_of (by decide +kernel) (Nat.le_of_ble_eq_true rfl) (fun X hC hR => ?_)
  show Ev G X 0 0 0 [(0, .ref q), (1, .int (nI k)), (2, .int (nI p)), (3, .int (nI v)), (4, .ref tr)] [] ([(q, ob 5 [.int 0, .int 0, .int 0, .null])]) ro
  refine ev_aload_n hC dX5_init_0 rfl 0 rfl ?_
  refine ev_iload_n hC dX5_init_1 rfl 1 rfl ?_
  refine ev_iload_n hC dX5_init_2 rfl 2 rfl ?_
  refine ev_iload_n hC dX5_init_3 rfl 3 rfl ?_
  refine ev_aload hC dX5_init_4 4 rfl ?_
  refine ev_callI (As := [.int (nI k), .int (nI p), .int (nI v), .ref tr]) (st := []) (wf := []) hC co_X5_1 (m_X0_init_c5 G ro q k p v tr) (by omega) rfl rfl (Nat.le_of_ble_eq_true rfl) (List.Perm.of_eq (List.append_nil _).symm) dX5_init_6 (by omega) (by omega) ?_
  rintro _ _ _ ⟨rfl, rfl, rfl⟩
  refine ev_ws (List.append_nil _) ?_
  show Ev G X 0 0 9 [(0, .ref q), (1, .int (nI k)), (2, .int (nI p)), (3, .int (nI v)), (4, .ref tr)] [] ([(q, ob 5 [.int (nI k), .int (nI p), .int (nI v), .ref tr])]) ro
  refine ev_vret hC hR rfl dX5_init_9 ?_
  exact ⟨rfl, rfl, rfl⟩

set_option maxHeartbeats 4000000 in
set_option maxRecDepth 100000 in
theorem m_X9_init_c9 (G : GG) (ro : va_W) (q k p v tr : Nat)  : Mth G M_X9_init 3 0 0 [.ref q, .int (nI k), .int (nI p), .int (nI v), .ref tr] ([(q, ob 9 [.int 0, .int 0, .int 0, .null])]) ro (fun r ws' ro' => r = none ∧ ws' = ([(q, ob 9 [.int (nI k), .int (nI p), .int (nI v), .ref tr])]) ∧ ro = ro') := by
  refine mth_of (by decide +kernel) (Nat.le_of_ble_eq_true rfl) (fun X hC hR => ?_)
  show Ev G X 0 0 0 [(0, .ref q), (1, .int (nI k)), (2, .int (nI p)), (3, .int (nI v)), (4, .ref tr)] [] ([(q, ob 9 [.int 0, .int 0, .int 0, .null])]) ro
  refine ev_aload_n hC dX9_init_0 rfl 0 rfl ?_
  refine ev_iload_n hC dX9_init_1 rfl 1 rfl ?_
  refine ev_iload_n hC dX9_init_2 rfl 2 rfl ?_
  refine ev_iload_n hC dX9_init_3 rfl 3 rfl ?_
  refine ev_aload hC dX9_init_4 4 rfl ?_
  refine ev_callI (As := [.int (nI k), .int (nI p), .int (nI v), .ref tr]) (st := []) (wf := []) hC co_X9_1 (m_X8_init_c9 G ro q k p v tr) (by omega) rfl rfl (Nat.le_of_ble_eq_true rfl) (List.Perm.of_eq (List.append_nil _).symm) dX9_init_6 (by omega) (by omega) ?_
  rintro _ _ _ ⟨rfl, rfl, rfl⟩
  refine ev_ws (List.append_nil _) ?_
  show Ev G X 0 0 9 [(0, .ref q), (1, .int (nI k)), (2, .int (nI p)), (3, .int (nI v)), (4, .ref tr)] [] ([(q, ob 9 [.int (nI k), .int (nI p), .int (nI v), .ref tr])]) ro
  refine ev_vret hC hR rfl dX9_init_9 ?_
  exact ⟨rfl, rfl, rfl⟩

def slW (sa : Nat) (an : Int32) : Int32 := if sa < 20 then nI 0 else an
def prW (v dy : Nat) (an : Int32) : Int32 := (an + nI v) * (if dy % (v + 2) = 0 then nI 2 else nI 1)
def odW (dy : Nat) : Nat := if dy % 2 = 1 then 15 else 10
theorem ne0N {n : Nat} (h : 0 < n) (h2 : n < 2 ^ 31) : ¬ nI n = 0 := fun z => by have := (nI_zI h2).mp z; omega

set_option maxHeartbeats 4000000 in
set_option maxRecDepth 100000 in
theorem m_X4_rises_k0 (G : GG) (ro : va_W) (r : Nat) (tr p v : Nat) (he : (r, ob 4 [.int (nI 0), .int (nI p), .int (nI v), .ref tr]) ∈ ro) (hv : v ≤ 9) (an : Int32) (sa rw dy : Nat) (hsa : sa < 2 ^ 31) (hrw : rw ≤ 9) (hdy : dy < 2 ^ 31) : Mth G M_X4_rises 0 0 0 [.ref r, .int an, .int (nI sa), .int (nI rw), .int (nI dy)] [] ro (fun r ws' ro' => r = some (.int an) ∧ ws' = [] ∧ ro = ro') := by
  refine mth_of (by decide +kernel) (Nat.le_of_ble_eq_true rfl) (fun X hC hR => ?_)
  show Ev G X 0 0 0 [(0, .ref r), (1, .int an), (2, .int (nI sa)), (3, .int (nI rw)), (4, .int (nI dy))] [] [] ro
  refine ev_iload_n hC dX4_rises_0 rfl 1 rfl ?_
  refine ev_iret hC hR rfl dX4_rises_1 ?_
  exact ⟨rfl, rfl, rfl⟩

set_option maxHeartbeats 4000000 in
set_option maxRecDepth 100000 in
theorem m_X4_rises_k1 (G : GG) (ro : va_W) (r : Nat) (tr p v : Nat) (he : (r, ob 1 [.int (nI 1), .int (nI p), .int (nI v), .ref tr]) ∈ ro) (hv : v ≤ 9) (an : Int32) (sa rw dy : Nat) (hsa : sa < 2 ^ 31) (hrw : rw ≤ 9) (hdy : dy < 2 ^ 31) : Mth G M_X4_rises 0 0 0 [.ref r, .int an, .int (nI sa), .int (nI rw), .int (nI dy)] [] ro (fun r ws' ro' => r = some (.int an) ∧ ws' = [] ∧ ro = ro') := by
  refine mth_of (by decide +kernel) (Nat.le_of_ble_eq_true rfl) (fun X hC hR => ?_)
  show Ev G X 0 0 0 [(0, .ref r), (1, .int an), (2, .int (nI sa)), (3, .int (nI rw)), (4, .int (nI dy))] [] [] ro
  refine ev_iload_n hC dX4_rises_0 rfl 1 rfl ?_
  refine ev_iret hC hR rfl dX4_rises_1 ?_
  exact ⟨rfl, rfl, rfl⟩

set_option maxHeartbeats 4000000 in
set_option maxRecDepth 100000 in
theorem m_X4_rises_k2 (G : GG) (ro : va_W) (r : Nat) (tr p v : Nat) (he : (r, ob 0 [.int (nI 2), .int (nI p), .int (nI v), .ref tr]) ∈ ro) (hv : v ≤ 9) (an : Int32) (sa rw dy : Nat) (hsa : sa < 2 ^ 31) (hrw : rw ≤ 9) (hdy : dy < 2 ^ 31) : Mth G M_X4_rises 0 0 0 [.ref r, .int an, .int (nI sa), .int (nI rw), .int (nI dy)] [] ro (fun r ws' ro' => r = some (.int an) ∧ ws' = [] ∧ ro = ro') := by
  refine mth_of (by decide +kernel) (Nat.le_of_ble_eq_true rfl) (fun X hC hR => ?_)
  show Ev G X 0 0 0 [(0, .ref r), (1, .int an), (2, .int (nI sa)), (3, .int (nI rw)), (4, .int (nI dy))] [] [] ro
  refine ev_iload_n hC dX4_rises_0 rfl 1 rfl ?_
  refine ev_iret hC hR rfl dX4_rises_1 ?_
  exact ⟨rfl, rfl, rfl⟩

set_option maxHeartbeats 4000000 in
set_option maxRecDepth 100000 in
theorem m_X4_rises_k3 (G : GG) (ro : va_W) (r : Nat) (tr p v : Nat) (he : (r, ob 8 [.int (nI 3), .int (nI p), .int (nI v), .ref tr]) ∈ ro) (hv : v ≤ 9) (an : Int32) (sa rw dy : Nat) (hsa : sa < 2 ^ 31) (hrw : rw ≤ 9) (hdy : dy < 2 ^ 31) : Mth G M_X4_rises 0 0 0 [.ref r, .int an, .int (nI sa), .int (nI rw), .int (nI dy)] [] ro (fun r ws' ro' => r = some (.int an) ∧ ws' = [] ∧ ro = ro') := by
  refine mth_of (by decide +kernel) (Nat.le_of_ble_eq_true rfl) (fun X hC hR => ?_)
  show Ev G X 0 0 0 [(0, .ref r), (1, .int an), (2, .int (nI sa)), (3, .int (nI rw)), (4, .int (nI dy))] [] [] ro
  refine ev_iload_n hC dX4_rises_0 rfl 1 rfl ?_
  refine ev_iret hC hR rfl dX4_rises_1 ?_
  exact ⟨rfl, rfl, rfl⟩

set_option maxHeartbeats 4000000 in
set_option maxRecDepth 100000 in
theorem m_X4_rises_k4 (G : GG) (ro : va_W) (r : Nat) (tr p v : Nat) (he : (r, ob 2 [.int (nI 4), .int (nI p), .int (nI v), .ref tr]) ∈ ro) (hv : v ≤ 9) (an : Int32) (sa rw dy : Nat) (hsa : sa < 2 ^ 31) (hrw : rw ≤ 9) (hdy : dy < 2 ^ 31) : Mth G M_X4_rises 0 0 0 [.ref r, .int an, .int (nI sa), .int (nI rw), .int (nI dy)] [] ro (fun r ws' ro' => r = some (.int an) ∧ ws' = [] ∧ ro = ro') := by
  refine mth_of (by decide +kernel) (Nat.le_of_ble_eq_true rfl) (fun X hC hR => ?_)
  show Ev G X 0 0 0 [(0, .ref r), (1, .int an), (2, .int (nI sa)), (3, .int (nI rw)), (4, .int (nI dy))] [] [] ro
  refine ev_iload_n hC dX4_rises_0 rfl 1 rfl ?_
  refine ev_iret hC hR rfl dX4_rises_1 ?_
  exact ⟨rfl, rfl, rfl⟩

set_option maxHeartbeats 4000000 in
set_option maxRecDepth 100000 in
theorem m_X4_rises_k5 (G : GG) (ro : va_W) (r : Nat) (tr p v : Nat) (he : (r, ob 5 [.int (nI 5), .int (nI p), .int (nI v), .ref tr]) ∈ ro) (hv : v ≤ 9) (an : Int32) (sa rw dy : Nat) (hsa : sa < 2 ^ 31) (hrw : rw ≤ 9) (hdy : dy < 2 ^ 31) : Mth G M_X4_rises 0 0 0 [.ref r, .int an, .int (nI sa), .int (nI rw), .int (nI dy)] [] ro (fun r ws' ro' => r = some (.int an) ∧ ws' = [] ∧ ro = ro') := by
  refine mth_of (by decide +kernel) (Nat.le_of_ble_eq_true rfl) (fun X hC hR => ?_)
  show Ev G X 0 0 0 [(0, .ref r), (1, .int an), (2, .int (nI sa)), (3, .int (nI rw)), (4, .int (nI dy))] [] [] ro
  refine ev_iload_n hC dX4_rises_0 rfl 1 rfl ?_
  refine ev_iret hC hR rfl dX4_rises_1 ?_
  exact ⟨rfl, rfl, rfl⟩

set_option maxHeartbeats 4000000 in
set_option maxRecDepth 100000 in
theorem m_X4_rises_k6 (G : GG) (ro : va_W) (r : Nat) (tr p v : Nat) (he : (r, ob 9 [.int (nI 6), .int (nI p), .int (nI v), .ref tr]) ∈ ro) (hv : v ≤ 9) (an : Int32) (sa rw dy : Nat) (hsa : sa < 2 ^ 31) (hrw : rw ≤ 9) (hdy : dy < 2 ^ 31) : Mth G M_X4_rises 0 0 0 [.ref r, .int an, .int (nI sa), .int (nI rw), .int (nI dy)] [] ro (fun r ws' ro' => r = some (.int an) ∧ ws' = [] ∧ ro = ro') := by
  refine mth_of (by decide +kernel) (Nat.le_of_ble_eq_true rfl) (fun X hC hR => ?_)
  show Ev G X 0 0 0 [(0, .ref r), (1, .int an), (2, .int (nI sa)), (3, .int (nI rw)), (4, .int (nI dy))] [] [] ro
  refine ev_iload_n hC dX4_rises_0 rfl 1 rfl ?_
  refine ev_iret hC hR rfl dX4_rises_1 ?_
  exact ⟨rfl, rfl, rfl⟩

set_option maxHeartbeats 4000000 in
set_option maxRecDepth 100000 in
theorem m_X1_rises_k1 (G : GG) (ro : va_W) (r : Nat) (tr p v : Nat) (he : (r, ob 1 [.int (nI 1), .int (nI p), .int (nI v), .ref tr]) ∈ ro) (hv : v ≤ 9) (an : Int32) (sa rw dy : Nat) (hsa : sa < 2 ^ 31) (hrw : rw ≤ 9) (hdy : dy < 2 ^ 31) : Mth G M_X1_rises 0 0 0 [.ref r, .int an, .int (nI sa), .int (nI rw), .int (nI dy)] [] ro (fun r ws' ro' => r = some (.int (an / (nI 2))) ∧ ws' = [] ∧ ro = ro') := by
  refine mth_of (by decide +kernel) (Nat.le_of_ble_eq_true rfl) (fun X hC hR => ?_)
  show Ev G X 0 0 0 [(0, .ref r), (1, .int an), (2, .int (nI sa)), (3, .int (nI rw)), (4, .int (nI dy))] [] [] ro
  refine ev_iload_n hC dX1_rises_0 rfl 1 rfl ?_
  refine ev_iconst (v := (nI 2)) hC dX1_rises_1 (by decide) ?_
  refine ev_idiv hC dX1_rises_2 (by decide) ?_
  refine ev_iret hC hR rfl dX1_rises_3 ?_
  exact ⟨rfl, rfl, rfl⟩

set_option maxHeartbeats 4000000 in
set_option maxRecDepth 100000 in
theorem m_X1_rises_k4 (G : GG) (ro : va_W) (r : Nat) (tr p v : Nat) (he : (r, ob 2 [.int (nI 4), .int (nI p), .int (nI v), .ref tr]) ∈ ro) (hv : v ≤ 9) (an : Int32) (sa rw dy : Nat) (hsa : sa < 2 ^ 31) (hrw : rw ≤ 9) (hdy : dy < 2 ^ 31) : Mth G M_X1_rises 0 0 0 [.ref r, .int an, .int (nI sa), .int (nI rw), .int (nI dy)] [] ro (fun r ws' ro' => r = some (.int (an / (nI 2))) ∧ ws' = [] ∧ ro = ro') := by
  refine mth_of (by decide +kernel) (Nat.le_of_ble_eq_true rfl) (fun X hC hR => ?_)
  show Ev G X 0 0 0 [(0, .ref r), (1, .int an), (2, .int (nI sa)), (3, .int (nI rw)), (4, .int (nI dy))] [] [] ro
  refine ev_iload_n hC dX1_rises_0 rfl 1 rfl ?_
  refine ev_iconst (v := (nI 2)) hC dX1_rises_1 (by decide) ?_
  refine ev_idiv hC dX1_rises_2 (by decide) ?_
  refine ev_iret hC hR rfl dX1_rises_3 ?_
  exact ⟨rfl, rfl, rfl⟩

set_option maxHeartbeats 4000000 in
set_option maxRecDepth 100000 in
theorem m_X0_rises_k2 (G : GG) (ro : va_W) (r : Nat) (tr p v : Nat) (he : (r, ob 0 [.int (nI 2), .int (nI p), .int (nI v), .ref tr]) ∈ ro) (hv : v ≤ 9) (an : Int32) (sa rw dy : Nat) (hsa : sa < 2 ^ 31) (hrw : rw ≤ 9) (hdy : dy < 2 ^ 31) : Mth G M_X0_rises 1 0 0 [.ref r, .int an, .int (nI sa), .int (nI rw), .int (nI dy)] [] ro (fun r ws' ro' => r = some (.int (an + (nI v))) ∧ ws' = [] ∧ ro = ro') := by
  refine mth_of (by decide +kernel) (Nat.le_of_ble_eq_true rfl) (fun X hC hR => ?_)
  show Ev G X 0 0 0 [(0, .ref r), (1, .int an), (2, .int (nI sa)), (3, .int (nI rw)), (4, .int (nI dy))] [] [] ro
  refine ev_aload_n hC dX0_rises_0 rfl 0 rfl ?_
  refine ev_iload_n hC dX0_rises_1 rfl 1 rfl ?_
  refine ev_iload_n hC dX0_rises_2 rfl 2 rfl ?_
  refine ev_iload_n hC dX0_rises_3 rfl 3 rfl ?_
  refine ev_iload hC dX0_rises_4 4 rfl ?_
  refine ev_callSU (As := [.int an, .int (nI sa), .int (nI rw), .int (nI dy)]) (st := []) (wc := []) (wf := []) hC cs_X0_7 (m_X4_rises_k2 G ro r tr p v he hv an sa rw dy hsa hrw hdy) (by omega) rfl rfl (Nat.le_of_ble_eq_true rfl) (List.Perm.refl _) (mr he) rfl dX0_rises_6 (by omega) (by omega) ?_
  rintro _ _ _ ⟨rfl, rfl, rfl⟩
  refine ev_ws (List.nil_append _) ?_
  show Ev G X 0 0 9 [(0, .ref r), (1, .int an), (2, .int (nI sa)), (3, .int (nI rw)), (4, .int (nI dy))] [.int an] [] ro
  refine ev_aload_n hC dX0_rises_9 rfl 0 rfl ?_
  refine ev_get hC fl_X0_11_0 (mr he) rfl dX0_rises_10 ?_
  refine ev_iadd hC dX0_rises_13 ?_
  refine ev_iret hC hR rfl dX0_rises_14 ?_
  exact ⟨rfl, rfl, rfl⟩

set_option maxHeartbeats 4000000 in
set_option maxRecDepth 100000 in
theorem m_X0_rises_k5 (G : GG) (ro : va_W) (r : Nat) (tr p v : Nat) (he : (r, ob 5 [.int (nI 5), .int (nI p), .int (nI v), .ref tr]) ∈ ro) (hv : v ≤ 9) (an : Int32) (sa rw dy : Nat) (hsa : sa < 2 ^ 31) (hrw : rw ≤ 9) (hdy : dy < 2 ^ 31) : Mth G M_X0_rises 1 0 0 [.ref r, .int an, .int (nI sa), .int (nI rw), .int (nI dy)] [] ro (fun r ws' ro' => r = some (.int (an + (nI v))) ∧ ws' = [] ∧ ro = ro') := by
  refine mth_of (by decide +kernel) (Nat.le_of_ble_eq_true rfl) (fun X hC hR => ?_)
  show Ev G X 0 0 0 [(0, .ref r), (1, .int an), (2, .int (nI sa)), (3, .int (nI rw)), (4, .int (nI dy))] [] [] ro
  refine ev_aload_n hC dX0_rises_0 rfl 0 rfl ?_
  refine ev_iload_n hC dX0_rises_1 rfl 1 rfl ?_
  refine ev_iload_n hC dX0_rises_2 rfl 2 rfl ?_
  refine ev_iload_n hC dX0_rises_3 rfl 3 rfl ?_
  refine ev_iload hC dX0_rises_4 4 rfl ?_
  refine ev_callSU (As := [.int an, .int (nI sa), .int (nI rw), .int (nI dy)]) (st := []) (wc := []) (wf := []) hC cs_X0_7 (m_X4_rises_k5 G ro r tr p v he hv an sa rw dy hsa hrw hdy) (by omega) rfl rfl (Nat.le_of_ble_eq_true rfl) (List.Perm.refl _) (mr he) rfl dX0_rises_6 (by omega) (by omega) ?_
  rintro _ _ _ ⟨rfl, rfl, rfl⟩
  refine ev_ws (List.nil_append _) ?_
  show Ev G X 0 0 9 [(0, .ref r), (1, .int an), (2, .int (nI sa)), (3, .int (nI rw)), (4, .int (nI dy))] [.int an] [] ro
  refine ev_aload_n hC dX0_rises_9 rfl 0 rfl ?_
  refine ev_get hC fl_X0_11_5 (mr he) rfl dX0_rises_10 ?_
  refine ev_iadd hC dX0_rises_13 ?_
  refine ev_iret hC hR rfl dX0_rises_14 ?_
  exact ⟨rfl, rfl, rfl⟩

set_option maxHeartbeats 4000000 in
set_option maxRecDepth 100000 in
theorem m_X8_rises_k3 (G : GG) (ro : va_W) (r : Nat) (tr p v : Nat) (he : (r, ob 8 [.int (nI 3), .int (nI p), .int (nI v), .ref tr]) ∈ ro) (hv : v ≤ 9) (an : Int32) (sa rw dy : Nat) (hsa : sa < 2 ^ 31) (hrw : rw ≤ 9) (hdy : dy < 2 ^ 31) : Mth G M_X8_rises 1 0 0 [.ref r, .int an, .int (nI sa), .int (nI rw), .int (nI dy)] [] ro (fun r ws' ro' => r = some (.int (slW sa an)) ∧ ws' = [] ∧ ro = ro') := by
  refine mth_of (by decide +kernel) (Nat.le_of_ble_eq_true rfl) (fun X hC hR => ?_)
  show Ev G X 0 0 0 [(0, .ref r), (1, .int an), (2, .int (nI sa)), (3, .int (nI rw)), (4, .int (nI dy))] [] [] ro
  refine ev_iload_n hC dX8_rises_0 rfl 2 rfl ?_
  refine ev_bipush (v := (nI 20)) hC dX8_rises_1 (by decide) ?_
  refine ev_icmp_geN (tgt := 10) hC dX8_rises_3 (by decide) (by omega) (by omega) (fun c_1 => ?_) (fun c_1 => ?_)
  · refine ev_aload_n hC dX8_rises_10 rfl 0 rfl ?_
    refine ev_iload_n hC dX8_rises_11 rfl 1 rfl ?_
    refine ev_iload_n hC dX8_rises_12 rfl 2 rfl ?_
    refine ev_iload_n hC dX8_rises_13 rfl 3 rfl ?_
    refine ev_iload hC dX8_rises_14 4 rfl ?_
    refine ev_callSU (As := [.int an, .int (nI sa), .int (nI rw), .int (nI dy)]) (st := []) (wc := []) (wf := []) hC cs_X8_9 (m_X4_rises_k3 G ro r tr p v he hv an sa rw dy hsa hrw hdy) (by omega) rfl rfl (Nat.le_of_ble_eq_true rfl) (List.Perm.refl _) (mr he) rfl dX8_rises_16 (by omega) (by omega) ?_
    rintro _ _ _ ⟨rfl, rfl, rfl⟩
    refine ev_ws (List.nil_append _) ?_
    show Ev G X 0 0 19 [(0, .ref r), (1, .int an), (2, .int (nI sa)), (3, .int (nI rw)), (4, .int (nI dy))] [.int an] [] ro
    refine ev_iret hC hR rfl dX8_rises_19 ?_
    exact ⟨by rw [slW, if_neg (by omega)], rfl, rfl⟩
  · refine ev_iconst (v := (nI 0)) hC dX8_rises_6 (by decide) ?_
    refine ev_goto (tgt := 19) hC dX8_rises_7 (by decide) ?_
    refine ev_iret hC hR rfl dX8_rises_19 ?_
    exact ⟨by rw [slW, if_pos (by omega)], rfl, rfl⟩

set_option maxHeartbeats 4000000 in
set_option maxRecDepth 100000 in
theorem m_X8_rises_k6 (G : GG) (ro : va_W) (r : Nat) (tr p v : Nat) (he : (r, ob 9 [.int (nI 6), .int (nI p), .int (nI v), .ref tr]) ∈ ro) (hv : v ≤ 9) (an : Int32) (sa rw dy : Nat) (hsa : sa < 2 ^ 31) (hrw : rw ≤ 9) (hdy : dy < 2 ^ 31) : Mth G M_X8_rises 1 0 0 [.ref r, .int an, .int (nI sa), .int (nI rw), .int (nI dy)] [] ro (fun r ws' ro' => r = some (.int (slW sa an)) ∧ ws' = [] ∧ ro = ro') := by
  refine mth_of (by decide +kernel) (Nat.le_of_ble_eq_true rfl) (fun X hC hR => ?_)
  show Ev G X 0 0 0 [(0, .ref r), (1, .int an), (2, .int (nI sa)), (3, .int (nI rw)), (4, .int (nI dy))] [] [] ro
  refine ev_iload_n hC dX8_rises_0 rfl 2 rfl ?_
  refine ev_bipush (v := (nI 20)) hC dX8_rises_1 (by decide) ?_
  refine ev_icmp_geN (tgt := 10) hC dX8_rises_3 (by decide) (by omega) (by omega) (fun c_1 => ?_) (fun c_1 => ?_)
  · refine ev_aload_n hC dX8_rises_10 rfl 0 rfl ?_
    refine ev_iload_n hC dX8_rises_11 rfl 1 rfl ?_
    refine ev_iload_n hC dX8_rises_12 rfl 2 rfl ?_
    refine ev_iload_n hC dX8_rises_13 rfl 3 rfl ?_
    refine ev_iload hC dX8_rises_14 4 rfl ?_
    refine ev_callSU (As := [.int an, .int (nI sa), .int (nI rw), .int (nI dy)]) (st := []) (wc := []) (wf := []) hC cs_X8_9 (m_X4_rises_k6 G ro r tr p v he hv an sa rw dy hsa hrw hdy) (by omega) rfl rfl (Nat.le_of_ble_eq_true rfl) (List.Perm.refl _) (mr he) rfl dX8_rises_16 (by omega) (by omega) ?_
    rintro _ _ _ ⟨rfl, rfl, rfl⟩
    refine ev_ws (List.nil_append _) ?_
    show Ev G X 0 0 19 [(0, .ref r), (1, .int an), (2, .int (nI sa)), (3, .int (nI rw)), (4, .int (nI dy))] [.int an] [] ro
    refine ev_iret hC hR rfl dX8_rises_19 ?_
    exact ⟨by rw [slW, if_neg (by omega)], rfl, rfl⟩
  · refine ev_iconst (v := (nI 0)) hC dX8_rises_6 (by decide) ?_
    refine ev_goto (tgt := 19) hC dX8_rises_7 (by decide) ?_
    refine ev_iret hC hR rfl dX8_rises_19 ?_
    exact ⟨by rw [slW, if_pos (by omega)], rfl, rfl⟩

set_option maxHeartbeats 4000000 in
set_option maxRecDepth 100000 in
theorem m_X2_rises_k4 (G : GG) (ro : va_W) (r : Nat) (tr p v : Nat) (he : (r, ob 2 [.int (nI 4), .int (nI p), .int (nI v), .ref tr]) ∈ ro) (hv : v ≤ 9) (an : Int32) (sa rw dy : Nat) (hsa : sa < 2 ^ 31) (hrw : rw ≤ 9) (hdy : dy < 2 ^ 31) : Mth G M_X2_rises 1 0 0 [.ref r, .int an, .int (nI sa), .int (nI rw), .int (nI dy)] [] ro (fun r ws' ro' => r = some (.int (an / (nI 2) - (nI v))) ∧ ws' = [] ∧ ro = ro') := by
  refine mth_of (by decide +kernel) (Nat.le_of_ble_eq_true rfl) (fun X hC hR => ?_)
  show Ev G X 0 0 0 [(0, .ref r), (1, .int an), (2, .int (nI sa)), (3, .int (nI rw)), (4, .int (nI dy))] [] [] ro
  refine ev_aload_n hC dX2_rises_0 rfl 0 rfl ?_
  refine ev_iload_n hC dX2_rises_1 rfl 1 rfl ?_
  refine ev_iload_n hC dX2_rises_2 rfl 2 rfl ?_
  refine ev_iload_n hC dX2_rises_3 rfl 3 rfl ?_
  refine ev_iload hC dX2_rises_4 4 rfl ?_
  refine ev_callSU (As := [.int an, .int (nI sa), .int (nI rw), .int (nI dy)]) (st := []) (wc := []) (wf := []) hC cs_X2_7 (m_X1_rises_k4 G ro r tr p v he hv an sa rw dy hsa hrw hdy) (by omega) rfl rfl (Nat.le_of_ble_eq_true rfl) (List.Perm.refl _) (mr he) rfl dX2_rises_6 (by omega) (by omega) ?_
  rintro _ _ _ ⟨rfl, rfl, rfl⟩
  refine ev_ws (List.nil_append _) ?_
  show Ev G X 0 0 9 [(0, .ref r), (1, .int an), (2, .int (nI sa)), (3, .int (nI rw)), (4, .int (nI dy))] [.int (an / (nI 2))] [] ro
  refine ev_aload_n hC dX2_rises_9 rfl 0 rfl ?_
  refine ev_get hC fl_X2_11_2 (mr he) rfl dX2_rises_10 ?_
  refine ev_isub hC dX2_rises_13 ?_
  refine ev_iret hC hR rfl dX2_rises_14 ?_
  exact ⟨rfl, rfl, rfl⟩

set_option maxHeartbeats 4000000 in
set_option maxRecDepth 100000 in
theorem m_X5_rises_k5 (G : GG) (ro : va_W) (r : Nat) (tr p v : Nat) (he : (r, ob 5 [.int (nI 5), .int (nI p), .int (nI v), .ref tr]) ∈ ro) (hv : v ≤ 9) (an : Int32) (sa rw dy : Nat) (hsa : sa < 2 ^ 31) (hrw : rw ≤ 9) (hdy : dy < 2 ^ 31) : Mth G M_X5_rises 2 0 0 [.ref r, .int an, .int (nI sa), .int (nI rw), .int (nI dy)] [] ro (fun r ws' ro' => r = some (.int (prW v dy an)) ∧ ws' = [] ∧ ro = ro') := by
  refine mth_of (by decide +kernel) (Nat.le_of_ble_eq_true rfl) (fun X hC hR => ?_)
  have hmd := Nat.mod_lt dy (show 0 < v + 2 by omega)
  show Ev G X 0 0 0 [(0, .ref r), (1, .int an), (2, .int (nI sa)), (3, .int (nI rw)), (4, .int (nI dy))] [] [] ro
  refine ev_aload_n hC dX5_rises_0 rfl 0 rfl ?_
  refine ev_iload_n hC dX5_rises_1 rfl 1 rfl ?_
  refine ev_iload_n hC dX5_rises_2 rfl 2 rfl ?_
  refine ev_iload_n hC dX5_rises_3 rfl 3 rfl ?_
  refine ev_iload hC dX5_rises_4 4 rfl ?_
  refine ev_callSU (As := [.int an, .int (nI sa), .int (nI rw), .int (nI dy)]) (st := []) (wc := []) (wf := []) hC cs_X5_7 (m_X0_rises_k5 G ro r tr p v he hv an sa rw dy hsa hrw hdy) (by omega) rfl rfl (Nat.le_of_ble_eq_true rfl) (List.Perm.refl _) (mr he) rfl dX5_rises_6 (by omega) (by omega) ?_
  rintro _ _ _ ⟨rfl, rfl, rfl⟩
  refine ev_ws (List.nil_append _) ?_
  show Ev G X 0 0 9 [(0, .ref r), (1, .int an), (2, .int (nI sa)), (3, .int (nI rw)), (4, .int (nI dy))] [.int (an + (nI v))] [] ro
  refine ev_istore (lv' := [(5, .int (an + (nI v))), (0, .ref r), (1, .int an), (2, .int (nI sa)), (3, .int (nI rw)), (4, .int (nI dy))]) hC dX5_rises_9 (by decide) rfl ?_
  refine ev_iconst (v := (nI 1)) hC dX5_rises_11 (by decide) ?_
  refine ev_aload_n hC dX5_rises_12 rfl 1 rfl ?_
  refine ev_get hC fl_X5_11_5 (mr he) rfl dX5_rises_13 ?_
  refine ev_iconst (v := (nI 2)) hC dX5_rises_16 (by decide) ?_
  refine ev_iadd hC dX5_rises_17 ?_
  refine ev_top (y := (nI (v + 2))) ((nI_add _ _).trans (congrArg nI (by omega))) ?_
  refine ev_mmax hC ⟨(ft_in 697 (by decide +kernel) rfl), (ft_in 103 (by decide +kernel) rfl), (ft_in 68 (by decide +kernel) rfl), (ft_in 104 (by decide +kernel) rfl)⟩ (by omega) (Nat.le_of_ble_eq_true rfl) dX5_rises_18 ?_
  refine ev_top (y := (nI (max 1 (v + 2)))) (mxN (by omega) (by omega)) ?_
  refine ev_top (y := (nI (v + 2))) (congrArg nI (Nat.max_eq_right (by omega))) ?_
  refine ev_istore (lv' := [(6, .int (nI (v + 2))), (5, .int (an + (nI v))), (0, .ref r), (1, .int an), (2, .int (nI sa)), (3, .int (nI rw)), (4, .int (nI dy))]) hC dX5_rises_21 (by decide) rfl ?_
  refine ev_iload hC dX5_rises_23 6 rfl ?_
  refine ev_iload hC dX5_rises_25 0 rfl ?_
  refine ev_irem hC dX5_rises_27 (ne0N (by omega) (by omega)) ?_
  refine ev_top (y := (nI (dy % (v + 2)))) (pk_rem (by omega) (by omega) (by omega)) ?_
  refine ev_if_neN (tgt := 38) hC dX5_rises_28 (by decide) (by omega) (fun c_1 => ?_) (fun c_1 => ?_)
  · refine ev_iload hC dX5_rises_38 1 rfl ?_
    refine ev_iret hC hR rfl dX5_rises_40 ?_
    exact ⟨by rw [prW, if_neg (by omega), show nI 1 = 1 from rfl, Int32.mul_one], rfl, rfl⟩
  · refine ev_iconst (v := (nI 2)) hC dX5_rises_31 (by decide) ?_
    refine ev_iload hC dX5_rises_32 1 rfl ?_
    refine ev_imul hC dX5_rises_34 ?_
    refine ev_goto (tgt := 40) hC dX5_rises_35 (by decide) ?_
    refine ev_iret hC hR rfl dX5_rises_40 ?_
    exact ⟨by rw [prW, if_pos (by omega), Int32.mul_comm], rfl, rfl⟩

set_option maxHeartbeats 4000000 in
set_option maxRecDepth 100000 in
theorem m_X9_rises_k6 (G : GG) (ro : va_W) (r : Nat) (tr p v : Nat) (he : (r, ob 9 [.int (nI 6), .int (nI p), .int (nI v), .ref tr]) ∈ ro) (hv : v ≤ 9) (an : Int32) (sa rw dy : Nat) (hsa : sa < 2 ^ 31) (hrw : rw ≤ 9) (hdy : dy < 2 ^ 31) : Mth G M_X9_rises 2 0 0 [.ref r, .int an, .int (nI sa), .int (nI rw), .int (nI dy)] [] ro (fun r ws' ro' => r = some (.int (slW sa an + (nI rw))) ∧ ws' = [] ∧ ro = ro') := by
  refine mth_of (by decide +kernel) (Nat.le_of_ble_eq_true rfl) (fun X hC hR => ?_)
  show Ev G X 0 0 0 [(0, .ref r), (1, .int an), (2, .int (nI sa)), (3, .int (nI rw)), (4, .int (nI dy))] [] [] ro
  refine ev_aload_n hC dX9_rises_0 rfl 0 rfl ?_
  refine ev_iload_n hC dX9_rises_1 rfl 1 rfl ?_
  refine ev_iload_n hC dX9_rises_2 rfl 2 rfl ?_
  refine ev_iload_n hC dX9_rises_3 rfl 3 rfl ?_
  refine ev_iload hC dX9_rises_4 4 rfl ?_
  refine ev_callSU (As := [.int an, .int (nI sa), .int (nI rw), .int (nI dy)]) (st := []) (wc := []) (wf := []) hC cs_X9_7 (m_X8_rises_k6 G ro r tr p v he hv an sa rw dy hsa hrw hdy) (by omega) rfl rfl (Nat.le_of_ble_eq_true rfl) (List.Perm.refl _) (mr he) rfl dX9_rises_6 (by omega) (by omega) ?_
  rintro _ _ _ ⟨rfl, rfl, rfl⟩
  refine ev_ws (List.nil_append _) ?_
  show Ev G X 0 0 9 [(0, .ref r), (1, .int an), (2, .int (nI sa)), (3, .int (nI rw)), (4, .int (nI dy))] [.int (slW sa an)] [] ro
  refine ev_iload_n hC dX9_rises_9 rfl 3 rfl ?_
  refine ev_iadd hC dX9_rises_10 ?_
  refine ev_iret hC hR rfl dX9_rises_11 ?_
  exact ⟨rfl, rfl, rfl⟩

set_option maxHeartbeats 4000000 in
set_option maxRecDepth 100000 in
theorem m_X4_mostLicked_k0 (G : GG) (ro : va_W) (r : Nat) (tr p v : Nat) (he : (r, ob 4 [.int (nI 0), .int (nI p), .int (nI v), .ref tr]) ∈ ro) (hv : v ≤ 9) (gr dy : Nat) (hgr : gr ≤ 99) (hdy : dy < 2 ^ 31) : Mth G M_X4_mostLicked 0 0 0 [.ref r, .int (nI gr), .int (nI dy)] [] ro (fun r ws' ro' => r = some (.int (nI 10)) ∧ ws' = [] ∧ ro = ro') := by
  refine mth_of (by decide +kernel) (Nat.le_of_ble_eq_true rfl) (fun X hC hR => ?_)
  show Ev G X 0 0 0 [(0, .ref r), (1, .int (nI gr)), (2, .int (nI dy))] [] [] ro
  refine ev_bipush (v := (nI 10)) hC dX4_mostLicked_0 (by decide) ?_
  refine ev_iret hC hR rfl dX4_mostLicked_2 ?_
  exact ⟨rfl, rfl, rfl⟩

set_option maxHeartbeats 4000000 in
set_option maxRecDepth 100000 in
theorem m_X4_mostLicked_k1 (G : GG) (ro : va_W) (r : Nat) (tr p v : Nat) (he : (r, ob 1 [.int (nI 1), .int (nI p), .int (nI v), .ref tr]) ∈ ro) (hv : v ≤ 9) (gr dy : Nat) (hgr : gr ≤ 99) (hdy : dy < 2 ^ 31) : Mth G M_X4_mostLicked 0 0 0 [.ref r, .int (nI gr), .int (nI dy)] [] ro (fun r ws' ro' => r = some (.int (nI 10)) ∧ ws' = [] ∧ ro = ro') := by
  refine mth_of (by decide +kernel) (Nat.le_of_ble_eq_true rfl) (fun X hC hR => ?_)
  show Ev G X 0 0 0 [(0, .ref r), (1, .int (nI gr)), (2, .int (nI dy))] [] [] ro
  refine ev_bipush (v := (nI 10)) hC dX4_mostLicked_0 (by decide) ?_
  refine ev_iret hC hR rfl dX4_mostLicked_2 ?_
  exact ⟨rfl, rfl, rfl⟩

set_option maxHeartbeats 4000000 in
set_option maxRecDepth 100000 in
theorem m_X4_mostLicked_k2 (G : GG) (ro : va_W) (r : Nat) (tr p v : Nat) (he : (r, ob 0 [.int (nI 2), .int (nI p), .int (nI v), .ref tr]) ∈ ro) (hv : v ≤ 9) (gr dy : Nat) (hgr : gr ≤ 99) (hdy : dy < 2 ^ 31) : Mth G M_X4_mostLicked 0 0 0 [.ref r, .int (nI gr), .int (nI dy)] [] ro (fun r ws' ro' => r = some (.int (nI 10)) ∧ ws' = [] ∧ ro = ro') := by
  refine mth_of (by decide +kernel) (Nat.le_of_ble_eq_true rfl) (fun X hC hR => ?_)
  show Ev G X 0 0 0 [(0, .ref r), (1, .int (nI gr)), (2, .int (nI dy))] [] [] ro
  refine ev_bipush (v := (nI 10)) hC dX4_mostLicked_0 (by decide) ?_
  refine ev_iret hC hR rfl dX4_mostLicked_2 ?_
  exact ⟨rfl, rfl, rfl⟩

set_option maxHeartbeats 4000000 in
set_option maxRecDepth 100000 in
theorem m_X4_mostLicked_k3 (G : GG) (ro : va_W) (r : Nat) (tr p v : Nat) (he : (r, ob 8 [.int (nI 3), .int (nI p), .int (nI v), .ref tr]) ∈ ro) (hv : v ≤ 9) (gr dy : Nat) (hgr : gr ≤ 99) (hdy : dy < 2 ^ 31) : Mth G M_X4_mostLicked 0 0 0 [.ref r, .int (nI gr), .int (nI dy)] [] ro (fun r ws' ro' => r = some (.int (nI 10)) ∧ ws' = [] ∧ ro = ro') := by
  refine mth_of (by decide +kernel) (Nat.le_of_ble_eq_true rfl) (fun X hC hR => ?_)
  show Ev G X 0 0 0 [(0, .ref r), (1, .int (nI gr)), (2, .int (nI dy))] [] [] ro
  refine ev_bipush (v := (nI 10)) hC dX4_mostLicked_0 (by decide) ?_
  refine ev_iret hC hR rfl dX4_mostLicked_2 ?_
  exact ⟨rfl, rfl, rfl⟩

set_option maxHeartbeats 4000000 in
set_option maxRecDepth 100000 in
theorem m_X4_mostLicked_k4 (G : GG) (ro : va_W) (r : Nat) (tr p v : Nat) (he : (r, ob 2 [.int (nI 4), .int (nI p), .int (nI v), .ref tr]) ∈ ro) (hv : v ≤ 9) (gr dy : Nat) (hgr : gr ≤ 99) (hdy : dy < 2 ^ 31) : Mth G M_X4_mostLicked 0 0 0 [.ref r, .int (nI gr), .int (nI dy)] [] ro (fun r ws' ro' => r = some (.int (nI 10)) ∧ ws' = [] ∧ ro = ro') := by
  refine mth_of (by decide +kernel) (Nat.le_of_ble_eq_true rfl) (fun X hC hR => ?_)
  show Ev G X 0 0 0 [(0, .ref r), (1, .int (nI gr)), (2, .int (nI dy))] [] [] ro
  refine ev_bipush (v := (nI 10)) hC dX4_mostLicked_0 (by decide) ?_
  refine ev_iret hC hR rfl dX4_mostLicked_2 ?_
  exact ⟨rfl, rfl, rfl⟩

set_option maxHeartbeats 4000000 in
set_option maxRecDepth 100000 in
theorem m_X4_mostLicked_k5 (G : GG) (ro : va_W) (r : Nat) (tr p v : Nat) (he : (r, ob 5 [.int (nI 5), .int (nI p), .int (nI v), .ref tr]) ∈ ro) (hv : v ≤ 9) (gr dy : Nat) (hgr : gr ≤ 99) (hdy : dy < 2 ^ 31) : Mth G M_X4_mostLicked 0 0 0 [.ref r, .int (nI gr), .int (nI dy)] [] ro (fun r ws' ro' => r = some (.int (nI 10)) ∧ ws' = [] ∧ ro = ro') := by
  refine mth_of (by decide +kernel) (Nat.le_of_ble_eq_true rfl) (fun X hC hR => ?_)
  show Ev G X 0 0 0 [(0, .ref r), (1, .int (nI gr)), (2, .int (nI dy))] [] [] ro
  refine ev_bipush (v := (nI 10)) hC dX4_mostLicked_0 (by decide) ?_
  refine ev_iret hC hR rfl dX4_mostLicked_2 ?_
  exact ⟨rfl, rfl, rfl⟩

set_option maxHeartbeats 4000000 in
set_option maxRecDepth 100000 in
theorem m_X4_mostLicked_k6 (G : GG) (ro : va_W) (r : Nat) (tr p v : Nat) (he : (r, ob 9 [.int (nI 6), .int (nI p), .int (nI v), .ref tr]) ∈ ro) (hv : v ≤ 9) (gr dy : Nat) (hgr : gr ≤ 99) (hdy : dy < 2 ^ 31) : Mth G M_X4_mostLicked 0 0 0 [.ref r, .int (nI gr), .int (nI dy)] [] ro (fun r ws' ro' => r = some (.int (nI 10)) ∧ ws' = [] ∧ ro = ro') := by
  refine mth_of (by decide +kernel) (Nat.le_of_ble_eq_true rfl) (fun X hC hR => ?_)
  show Ev G X 0 0 0 [(0, .ref r), (1, .int (nI gr)), (2, .int (nI dy))] [] [] ro
  refine ev_bipush (v := (nI 10)) hC dX4_mostLicked_0 (by decide) ?_
  refine ev_iret hC hR rfl dX4_mostLicked_2 ?_
  exact ⟨rfl, rfl, rfl⟩

set_option maxHeartbeats 4000000 in
set_option maxRecDepth 100000 in
theorem m_X1_mostLicked_k1 (G : GG) (ro : va_W) (r : Nat) (tr p v : Nat) (he : (r, ob 1 [.int (nI 1), .int (nI p), .int (nI v), .ref tr]) ∈ ro) (hv : v ≤ 9) (gr dy : Nat) (hgr : gr ≤ 99) (hdy : dy < 2 ^ 31) : Mth G M_X1_mostLicked 0 0 0 [.ref r, .int (nI gr), .int (nI dy)] [] ro (fun r ws' ro' => r = some (.int (nI 4)) ∧ ws' = [] ∧ ro = ro') := by
  refine mth_of (by decide +kernel) (Nat.le_of_ble_eq_true rfl) (fun X hC hR => ?_)
  show Ev G X 0 0 0 [(0, .ref r), (1, .int (nI gr)), (2, .int (nI dy))] [] [] ro
  refine ev_iconst (v := (nI 4)) hC dX1_mostLicked_0 (by decide) ?_
  refine ev_iret hC hR rfl dX1_mostLicked_1 ?_
  exact ⟨rfl, rfl, rfl⟩

set_option maxHeartbeats 4000000 in
set_option maxRecDepth 100000 in
theorem m_X1_mostLicked_k4 (G : GG) (ro : va_W) (r : Nat) (tr p v : Nat) (he : (r, ob 2 [.int (nI 4), .int (nI p), .int (nI v), .ref tr]) ∈ ro) (hv : v ≤ 9) (gr dy : Nat) (hgr : gr ≤ 99) (hdy : dy < 2 ^ 31) : Mth G M_X1_mostLicked 0 0 0 [.ref r, .int (nI gr), .int (nI dy)] [] ro (fun r ws' ro' => r = some (.int (nI 4)) ∧ ws' = [] ∧ ro = ro') := by
  refine mth_of (by decide +kernel) (Nat.le_of_ble_eq_true rfl) (fun X hC hR => ?_)
  show Ev G X 0 0 0 [(0, .ref r), (1, .int (nI gr)), (2, .int (nI dy))] [] [] ro
  refine ev_iconst (v := (nI 4)) hC dX1_mostLicked_0 (by decide) ?_
  refine ev_iret hC hR rfl dX1_mostLicked_1 ?_
  exact ⟨rfl, rfl, rfl⟩

set_option maxHeartbeats 4000000 in
set_option maxRecDepth 100000 in
theorem m_X0_mostLicked_k2 (G : GG) (ro : va_W) (r : Nat) (tr p v : Nat) (he : (r, ob 0 [.int (nI 2), .int (nI p), .int (nI v), .ref tr]) ∈ ro) (hv : v ≤ 9) (gr dy : Nat) (hgr : gr ≤ 99) (hdy : dy < 2 ^ 31) : Mth G M_X0_mostLicked 0 0 0 [.ref r, .int (nI gr), .int (nI dy)] [] ro (fun r ws' ro' => r = some (.int (nI (10 + 2 * v))) ∧ ws' = [] ∧ ro = ro') := by
  refine mth_of (by decide +kernel) (Nat.le_of_ble_eq_true rfl) (fun X hC hR => ?_)
  show Ev G X 0 0 0 [(0, .ref r), (1, .int (nI gr)), (2, .int (nI dy))] [] [] ro
  refine ev_bipush (v := (nI 10)) hC dX0_mostLicked_0 (by decide) ?_
  refine ev_iconst (v := (nI 2)) hC dX0_mostLicked_2 (by decide) ?_
  refine ev_aload_n hC dX0_mostLicked_3 rfl 0 rfl ?_
  refine ev_get hC fl_X0_11_0 (mr he) rfl dX0_mostLicked_4 ?_
  refine ev_imul hC dX0_mostLicked_7 ?_
  refine ev_top (y := (nI (2 * v))) (pk_mul _ _) ?_
  refine ev_iadd hC dX0_mostLicked_8 ?_
  refine ev_top (y := (nI (10 + (2 * v)))) ((nI_add _ _).trans (congrArg nI (by omega))) ?_
  refine ev_iret hC hR rfl dX0_mostLicked_9 ?_
  exact ⟨rfl, rfl, rfl⟩

set_option maxHeartbeats 4000000 in
set_option maxRecDepth 100000 in
theorem m_X0_mostLicked_k5 (G : GG) (ro : va_W) (r : Nat) (tr p v : Nat) (he : (r, ob 5 [.int (nI 5), .int (nI p), .int (nI v), .ref tr]) ∈ ro) (hv : v ≤ 9) (gr dy : Nat) (hgr : gr ≤ 99) (hdy : dy < 2 ^ 31) : Mth G M_X0_mostLicked 0 0 0 [.ref r, .int (nI gr), .int (nI dy)] [] ro (fun r ws' ro' => r = some (.int (nI (10 + 2 * v))) ∧ ws' = [] ∧ ro = ro') := by
  refine mth_of (by decide +kernel) (Nat.le_of_ble_eq_true rfl) (fun X hC hR => ?_)
  show Ev G X 0 0 0 [(0, .ref r), (1, .int (nI gr)), (2, .int (nI dy))] [] [] ro
  refine ev_bipush (v := (nI 10)) hC dX0_mostLicked_0 (by decide) ?_
  refine ev_iconst (v := (nI 2)) hC dX0_mostLicked_2 (by decide) ?_
  refine ev_aload_n hC dX0_mostLicked_3 rfl 0 rfl ?_
  refine ev_get hC fl_X0_11_5 (mr he) rfl dX0_mostLicked_4 ?_
  refine ev_imul hC dX0_mostLicked_7 ?_
  refine ev_top (y := (nI (2 * v))) (pk_mul _ _) ?_
  refine ev_iadd hC dX0_mostLicked_8 ?_
  refine ev_top (y := (nI (10 + (2 * v)))) ((nI_add _ _).trans (congrArg nI (by omega))) ?_
  refine ev_iret hC hR rfl dX0_mostLicked_9 ?_
  exact ⟨rfl, rfl, rfl⟩

set_option maxHeartbeats 4000000 in
set_option maxRecDepth 100000 in
theorem m_X8_mostLicked_k3 (G : GG) (ro : va_W) (r : Nat) (tr p v : Nat) (he : (r, ob 8 [.int (nI 3), .int (nI p), .int (nI v), .ref tr]) ∈ ro) (hv : v ≤ 9) (gr dy : Nat) (hgr : gr ≤ 99) (hdy : dy < 2 ^ 31) : Mth G M_X8_mostLicked 0 0 0 [.ref r, .int (nI gr), .int (nI dy)] [] ro (fun r ws' ro' => r = some (.int (nI (odW dy))) ∧ ws' = [] ∧ ro = ro') := by
  refine mth_of (by decide +kernel) (Nat.le_of_ble_eq_true rfl) (fun X hC hR => ?_)
  show Ev G X 0 0 0 [(0, .ref r), (1, .int (nI gr)), (2, .int (nI dy))] [] [] ro
  refine ev_iload_n hC dX8_mostLicked_0 rfl 2 rfl ?_
  refine ev_iconst (v := (nI 2)) hC dX8_mostLicked_1 (by decide) ?_
  refine ev_irem hC dX8_mostLicked_2 (by decide) ?_
  refine ev_top (y := (nI (dy % 2))) (pk_rem (by omega) (by omega) (by omega)) ?_
  refine ev_iconst (v := (nI 1)) hC dX8_mostLicked_3 (by decide) ?_
  refine ev_icmp_neN (tgt := 12) hC dX8_mostLicked_4 (by decide) (by omega) (by omega) (fun c_1 => ?_) (fun c_1 => ?_)
  · refine ev_bipush (v := (nI 10)) hC dX8_mostLicked_12 (by decide) ?_
    refine ev_iret hC hR rfl dX8_mostLicked_14 ?_
    exact ⟨by rw [odW, if_neg (by omega)], rfl, rfl⟩
  · refine ev_bipush (v := (nI 15)) hC dX8_mostLicked_7 (by decide) ?_
    refine ev_goto (tgt := 14) hC dX8_mostLicked_9 (by decide) ?_
    refine ev_iret hC hR rfl dX8_mostLicked_14 ?_
    exact ⟨by rw [odW, if_pos (by omega)], rfl, rfl⟩

set_option maxHeartbeats 4000000 in
set_option maxRecDepth 100000 in
theorem m_X8_mostLicked_k6 (G : GG) (ro : va_W) (r : Nat) (tr p v : Nat) (he : (r, ob 9 [.int (nI 6), .int (nI p), .int (nI v), .ref tr]) ∈ ro) (hv : v ≤ 9) (gr dy : Nat) (hgr : gr ≤ 99) (hdy : dy < 2 ^ 31) : Mth G M_X8_mostLicked 0 0 0 [.ref r, .int (nI gr), .int (nI dy)] [] ro (fun r ws' ro' => r = some (.int (nI (odW dy))) ∧ ws' = [] ∧ ro = ro') := by
  refine mth_of (by decide +kernel) (Nat.le_of_ble_eq_true rfl) (fun X hC hR => ?_)
  show Ev G X 0 0 0 [(0, .ref r), (1, .int (nI gr)), (2, .int (nI dy))] [] [] ro
  refine ev_iload_n hC dX8_mostLicked_0 rfl 2 rfl ?_
  refine ev_iconst (v := (nI 2)) hC dX8_mostLicked_1 (by decide) ?_
  refine ev_irem hC dX8_mostLicked_2 (by decide) ?_
  refine ev_top (y := (nI (dy % 2))) (pk_rem (by omega) (by omega) (by omega)) ?_
  refine ev_iconst (v := (nI 1)) hC dX8_mostLicked_3 (by decide) ?_
  refine ev_icmp_neN (tgt := 12) hC dX8_mostLicked_4 (by decide) (by omega) (by omega) (fun c_1 => ?_) (fun c_1 => ?_)
  · refine ev_bipush (v := (nI 10)) hC dX8_mostLicked_12 (by decide) ?_
    refine ev_iret hC hR rfl dX8_mostLicked_14 ?_
    exact ⟨by rw [odW, if_neg (by omega)], rfl, rfl⟩
  · refine ev_bipush (v := (nI 15)) hC dX8_mostLicked_7 (by decide) ?_
    refine ev_goto (tgt := 14) hC dX8_mostLicked_9 (by decide) ?_
    refine ev_iret hC hR rfl dX8_mostLicked_14 ?_
    exact ⟨by rw [odW, if_pos (by omega)], rfl, rfl⟩

set_option maxHeartbeats 4000000 in
set_option maxRecDepth 100000 in
theorem m_X2_mostLicked_k4 (G : GG) (ro : va_W) (r : Nat) (tr p v : Nat) (he : (r, ob 2 [.int (nI 4), .int (nI p), .int (nI v), .ref tr]) ∈ ro) (hv : v ≤ 9) (gr dy : Nat) (hgr : gr ≤ 99) (hdy : dy < 2 ^ 31) : Mth G M_X2_mostLicked 0 0 0 [.ref r, .int (nI gr), .int (nI dy)] [] ro (fun r ws' ro' => r = some (.int (nI 0)) ∧ ws' = [] ∧ ro = ro') := by
  refine mth_of (by decide +kernel) (Nat.le_of_ble_eq_true rfl) (fun X hC hR => ?_)
  show Ev G X 0 0 0 [(0, .ref r), (1, .int (nI gr)), (2, .int (nI dy))] [] [] ro
  refine ev_iconst (v := (nI 0)) hC dX2_mostLicked_0 (by decide) ?_
  refine ev_iret hC hR rfl dX2_mostLicked_1 ?_
  exact ⟨rfl, rfl, rfl⟩

set_option maxHeartbeats 4000000 in
set_option maxRecDepth 100000 in
theorem m_X5_mostLicked_k5 (G : GG) (ro : va_W) (r : Nat) (tr p v : Nat) (he : (r, ob 5 [.int (nI 5), .int (nI p), .int (nI v), .ref tr]) ∈ ro) (hv : v ≤ 9) (gr dy : Nat) (hgr : gr ≤ 99) (hdy : dy < 2 ^ 31) : Mth G M_X5_mostLicked 1 0 0 [.ref r, .int (nI gr), .int (nI dy)] [] ro (fun r ws' ro' => r = some (.int (nI (if 80 < gr then 0 else 10 + 2 * v))) ∧ ws' = [] ∧ ro = ro') := by
  refine mth_of (by decide +kernel) (Nat.le_of_ble_eq_true rfl) (fun X hC hR => ?_)
  show Ev G X 0 0 0 [(0, .ref r), (1, .int (nI gr)), (2, .int (nI dy))] [] [] ro
  refine ev_iload_n hC dX5_mostLicked_0 rfl 1 rfl ?_
  refine ev_bipush (v := (nI 80)) hC dX5_mostLicked_1 (by decide) ?_
  refine ev_icmp_leN (tgt := 10) hC dX5_mostLicked_3 (by decide) (by omega) (by omega) (fun c_1 => ?_) (fun c_1 => ?_)
  · refine ev_aload_n hC dX5_mostLicked_10 rfl 0 rfl ?_
    refine ev_iload_n hC dX5_mostLicked_11 rfl 1 rfl ?_
    refine ev_iload_n hC dX5_mostLicked_12 rfl 2 rfl ?_
    refine ev_callSU (As := [.int (nI gr), .int (nI dy)]) (st := []) (wc := []) (wf := []) hC cs_X5_23 (m_X0_mostLicked_k5 G ro r tr p v he hv gr dy hgr hdy) (by omega) rfl rfl (Nat.le_of_ble_eq_true rfl) (List.Perm.refl _) (mr he) rfl dX5_mostLicked_13 (by omega) (by omega) ?_
    rintro _ _ _ ⟨rfl, rfl, rfl⟩
    refine ev_ws (List.nil_append _) ?_
    show Ev G X 0 0 16 [(0, .ref r), (1, .int (nI gr)), (2, .int (nI dy))] [.int (nI (10 + 2 * v))] [] ro
    refine ev_iret hC hR rfl dX5_mostLicked_16 ?_
    exact ⟨by rw [if_neg (by omega)], rfl, rfl⟩
  · refine ev_iconst (v := (nI 0)) hC dX5_mostLicked_6 (by decide) ?_
    refine ev_goto (tgt := 16) hC dX5_mostLicked_7 (by decide) ?_
    refine ev_iret hC hR rfl dX5_mostLicked_16 ?_
    exact ⟨by rw [if_pos (by omega)], rfl, rfl⟩

set_option maxRecDepth 20000 in
theorem cw_X5_36 : CW RX5 36 ⟨"SaltPeace$Bitter", "wrongs", "(I)I"⟩ M_X4_wrongs 1 := ⟨rfl, (ft_in 986 (by decide +kernel) rfl), (ft_in 987 (by decide +kernel) rfl), (ft_in 629 (by decide +kernel) rfl), (ft_in 596 (by decide +kernel) rfl), (ft_in 972 (by decide +kernel) rfl), (ft_in 71 (by decide +kernel) rfl), (ft_in 991 (by decide +kernel) rfl), ⟨by decide +kernel, by decide +kernel⟩, by decide⟩
set_option maxRecDepth 20000 in
theorem cw_X2_27 : CW RX2 27 ⟨"SaltPeace$Gentle", "tells", "(I)I"⟩ M_X4_tells 1 := ⟨rfl, (ft_in 1025 (by decide +kernel) rfl), (ft_in 1026 (by decide +kernel) rfl), (ft_in 618 (by decide +kernel) rfl), (ft_in 585 (by decide +kernel) rfl), (ft_in 1016 (by decide +kernel) rfl), (ft_in 71 (by decide +kernel) rfl), (ft_in 1039 (by decide +kernel) rfl), ⟨by decide +kernel, by decide +kernel⟩, by decide⟩
set_option maxRecDepth 20000 in
theorem cw_X9_23 : CW RX9 23 ⟨"SaltPeace$Sly", "licks", "(I)I"⟩ M_X4_licks 1 := ⟨rfl, (ft_in 1010 (by decide +kernel) rfl), (ft_in 1011 (by decide +kernel) rfl), (ft_in 640 (by decide +kernel) rfl), (ft_in 607 (by decide +kernel) rfl), (ft_in 994 (by decide +kernel) rfl), (ft_in 71 (by decide +kernel) rfl), (ft_in 1013 (by decide +kernel) rfl), ⟨by decide +kernel, by decide +kernel⟩, by decide⟩
set_option maxHeartbeats 4000000 in
set_option maxRecDepth 100000 in
theorem m_X4_wrongs_k0 (G : GG) (ro : va_W) (r p v : Nat) (q : Nat → Nat) (D f2 f3 g1 g2 g3 : Nat → Int32) (gc : Int32) (rn : Nat) (x : Int32) (he : (r, ob 4 [.int (nI 0), .int (nI p), .int (nI v), .ref (q 0)]) ∈ ro) (hr : rn + 1 ≤ 20) : Mth G M_X4_wrongs 1 0 0 [.ref r, .int x] (RW G q 20 D f2 f3 (nI rn) g1 g2 g3 gc) ro (fun r ws' ro' => ∃ (f2' : Nat → Int32), ∃ (f3' : Nat → Int32), r = some (.int (x + (nI p))) ∧ ws' = (RW G q 20 (upd D rn (nI 1)) f2' f3' (nI (rn + 1)) g1 g2 g3 gc) ∧ ro = ro') := by
  refine mth_of (by decide +kernel) (Nat.le_of_ble_eq_true rfl) (fun X hC hR => ?_)
  show Ev G X 0 0 0 [(0, .ref r), (1, .int x)] [] (RW G q 20 D f2 f3 (nI rn) g1 g2 g3 gc) ro
  refine ev_aload_n hC dX4_wrongs_0 rfl 0 rfl ?_
  refine ev_get hC fl_X4_19_4 (mr he) rfl dX4_wrongs_1 ?_
  refine ev_iconst (v := (nI 1)) hC dX4_wrongs_4 (by decide) ?_
  refine ev_iconst (v := (nI 0)) hC dX4_wrongs_5 (by decide) ?_
  refine ev_iconst (v := (nI 0)) hC dX4_wrongs_6 (by decide) ?_
  refine ev_callV (As := [.int (nI 1), .int (nI 0), .int (nI 0)]) (st := []) (wf := []) hC cv_X4_23 (m_X7_add G ro q 20 rn D f2 f3 g1 g2 g3 gc (nI 1) (nI 0) (nI 0) (by omega) (by omega) (by omega)) (by omega) rfl rfl (Nat.le_of_ble_eq_true rfl) (List.Perm.of_eq (List.append_nil _).symm) (mw 0 rfl) rfl dX4_wrongs_7 (by omega) (by omega) ?_
  rintro _ _ _ ⟨rfl, rfl, rfl⟩
  refine ev_ws (List.append_nil _) ?_
  show Ev G X 0 0 10 [(0, .ref r), (1, .int x)] [.int (nI (rn + 1))] (RW G q 20 (upd D rn (nI 1)) (upd f2 rn (nI 0)) (upd f3 rn (nI 0)) (nI (rn + 1)) g1 g2 g3 gc) ro
  refine ev_pop hC dX4_wrongs_10 rfl ?_
  refine ev_iload_n hC dX4_wrongs_11 rfl 1 rfl ?_
  refine ev_aload_n hC dX4_wrongs_12 rfl 0 rfl ?_
  refine ev_get hC fl_X4_13_4 (mr he) rfl dX4_wrongs_13 ?_
  refine ev_iadd hC dX4_wrongs_16 ?_
  refine ev_iret hC hR rfl dX4_wrongs_17 ?_
  exact ⟨_, _, rfl, rfl, rfl⟩

set_option maxHeartbeats 4000000 in
set_option maxRecDepth 100000 in
theorem m_X4_wrongs_k1 (G : GG) (ro : va_W) (r p v : Nat) (q : Nat → Nat) (D f2 f3 g1 g2 g3 : Nat → Int32) (gc : Int32) (rn : Nat) (x : Int32) (he : (r, ob 1 [.int (nI 1), .int (nI p), .int (nI v), .ref (q 0)]) ∈ ro) (hr : rn + 1 ≤ 20) : Mth G M_X4_wrongs 1 0 0 [.ref r, .int x] (RW G q 20 D f2 f3 (nI rn) g1 g2 g3 gc) ro (fun r ws' ro' => ∃ (f2' : Nat → Int32), ∃ (f3' : Nat → Int32), r = some (.int (x + (nI p))) ∧ ws' = (RW G q 20 (upd D rn (nI 1)) f2' f3' (nI (rn + 1)) g1 g2 g3 gc) ∧ ro = ro') := by
  refine mth_of (by decide +kernel) (Nat.le_of_ble_eq_true rfl) (fun X hC hR => ?_)
  show Ev G X 0 0 0 [(0, .ref r), (1, .int x)] [] (RW G q 20 D f2 f3 (nI rn) g1 g2 g3 gc) ro
  refine ev_aload_n hC dX4_wrongs_0 rfl 0 rfl ?_
  refine ev_get hC fl_X4_19_1 (mr he) rfl dX4_wrongs_1 ?_
  refine ev_iconst (v := (nI 1)) hC dX4_wrongs_4 (by decide) ?_
  refine ev_iconst (v := (nI 0)) hC dX4_wrongs_5 (by decide) ?_
  refine ev_iconst (v := (nI 0)) hC dX4_wrongs_6 (by decide) ?_
  refine ev_callV (As := [.int (nI 1), .int (nI 0), .int (nI 0)]) (st := []) (wf := []) hC cv_X4_23 (m_X7_add G ro q 20 rn D f2 f3 g1 g2 g3 gc (nI 1) (nI 0) (nI 0) (by omega) (by omega) (by omega)) (by omega) rfl rfl (Nat.le_of_ble_eq_true rfl) (List.Perm.of_eq (List.append_nil _).symm) (mw 0 rfl) rfl dX4_wrongs_7 (by omega) (by omega) ?_
  rintro _ _ _ ⟨rfl, rfl, rfl⟩
  refine ev_ws (List.append_nil _) ?_
  show Ev G X 0 0 10 [(0, .ref r), (1, .int x)] [.int (nI (rn + 1))] (RW G q 20 (upd D rn (nI 1)) (upd f2 rn (nI 0)) (upd f3 rn (nI 0)) (nI (rn + 1)) g1 g2 g3 gc) ro
  refine ev_pop hC dX4_wrongs_10 rfl ?_
  refine ev_iload_n hC dX4_wrongs_11 rfl 1 rfl ?_
  refine ev_aload_n hC dX4_wrongs_12 rfl 0 rfl ?_
  refine ev_get hC fl_X4_13_1 (mr he) rfl dX4_wrongs_13 ?_
  refine ev_iadd hC dX4_wrongs_16 ?_
  refine ev_iret hC hR rfl dX4_wrongs_17 ?_
  exact ⟨_, _, rfl, rfl, rfl⟩

set_option maxHeartbeats 4000000 in
set_option maxRecDepth 100000 in
theorem m_X4_wrongs_k2 (G : GG) (ro : va_W) (r p v : Nat) (q : Nat → Nat) (D f2 f3 g1 g2 g3 : Nat → Int32) (gc : Int32) (rn : Nat) (x : Int32) (he : (r, ob 0 [.int (nI 2), .int (nI p), .int (nI v), .ref (q 0)]) ∈ ro) (hr : rn + 1 ≤ 20) : Mth G M_X4_wrongs 1 0 0 [.ref r, .int x] (RW G q 20 D f2 f3 (nI rn) g1 g2 g3 gc) ro (fun r ws' ro' => ∃ (f2' : Nat → Int32), ∃ (f3' : Nat → Int32), r = some (.int (x + (nI p))) ∧ ws' = (RW G q 20 (upd D rn (nI 1)) f2' f3' (nI (rn + 1)) g1 g2 g3 gc) ∧ ro = ro') := by
  refine mth_of (by decide +kernel) (Nat.le_of_ble_eq_true rfl) (fun X hC hR => ?_)
  show Ev G X 0 0 0 [(0, .ref r), (1, .int x)] [] (RW G q 20 D f2 f3 (nI rn) g1 g2 g3 gc) ro
  refine ev_aload_n hC dX4_wrongs_0 rfl 0 rfl ?_
  refine ev_get hC fl_X4_19_0 (mr he) rfl dX4_wrongs_1 ?_
  refine ev_iconst (v := (nI 1)) hC dX4_wrongs_4 (by decide) ?_
  refine ev_iconst (v := (nI 0)) hC dX4_wrongs_5 (by decide) ?_
  refine ev_iconst (v := (nI 0)) hC dX4_wrongs_6 (by decide) ?_
  refine ev_callV (As := [.int (nI 1), .int (nI 0), .int (nI 0)]) (st := []) (wf := []) hC cv_X4_23 (m_X7_add G ro q 20 rn D f2 f3 g1 g2 g3 gc (nI 1) (nI 0) (nI 0) (by omega) (by omega) (by omega)) (by omega) rfl rfl (Nat.le_of_ble_eq_true rfl) (List.Perm.of_eq (List.append_nil _).symm) (mw 0 rfl) rfl dX4_wrongs_7 (by omega) (by omega) ?_
  rintro _ _ _ ⟨rfl, rfl, rfl⟩
  refine ev_ws (List.append_nil _) ?_
  show Ev G X 0 0 10 [(0, .ref r), (1, .int x)] [.int (nI (rn + 1))] (RW G q 20 (upd D rn (nI 1)) (upd f2 rn (nI 0)) (upd f3 rn (nI 0)) (nI (rn + 1)) g1 g2 g3 gc) ro
  refine ev_pop hC dX4_wrongs_10 rfl ?_
  refine ev_iload_n hC dX4_wrongs_11 rfl 1 rfl ?_
  refine ev_aload_n hC dX4_wrongs_12 rfl 0 rfl ?_
  refine ev_get hC fl_X4_13_0 (mr he) rfl dX4_wrongs_13 ?_
  refine ev_iadd hC dX4_wrongs_16 ?_
  refine ev_iret hC hR rfl dX4_wrongs_17 ?_
  exact ⟨_, _, rfl, rfl, rfl⟩

set_option maxHeartbeats 4000000 in
set_option maxRecDepth 100000 in
theorem m_X4_wrongs_k3 (G : GG) (ro : va_W) (r p v : Nat) (q : Nat → Nat) (D f2 f3 g1 g2 g3 : Nat → Int32) (gc : Int32) (rn : Nat) (x : Int32) (he : (r, ob 8 [.int (nI 3), .int (nI p), .int (nI v), .ref (q 0)]) ∈ ro) (hr : rn + 1 ≤ 20) : Mth G M_X4_wrongs 1 0 0 [.ref r, .int x] (RW G q 20 D f2 f3 (nI rn) g1 g2 g3 gc) ro (fun r ws' ro' => ∃ (f2' : Nat → Int32), ∃ (f3' : Nat → Int32), r = some (.int (x + (nI p))) ∧ ws' = (RW G q 20 (upd D rn (nI 1)) f2' f3' (nI (rn + 1)) g1 g2 g3 gc) ∧ ro = ro') := by
  refine mth_of (by decide +kernel) (Nat.le_of_ble_eq_true rfl) (fun X hC hR => ?_)
  show Ev G X 0 0 0 [(0, .ref r), (1, .int x)] [] (RW G q 20 D f2 f3 (nI rn) g1 g2 g3 gc) ro
  refine ev_aload_n hC dX4_wrongs_0 rfl 0 rfl ?_
  refine ev_get hC fl_X4_19_8 (mr he) rfl dX4_wrongs_1 ?_
  refine ev_iconst (v := (nI 1)) hC dX4_wrongs_4 (by decide) ?_
  refine ev_iconst (v := (nI 0)) hC dX4_wrongs_5 (by decide) ?_
  refine ev_iconst (v := (nI 0)) hC dX4_wrongs_6 (by decide) ?_
  refine ev_callV (As := [.int (nI 1), .int (nI 0), .int (nI 0)]) (st := []) (wf := []) hC cv_X4_23 (m_X7_add G ro q 20 rn D f2 f3 g1 g2 g3 gc (nI 1) (nI 0) (nI 0) (by omega) (by omega) (by omega)) (by omega) rfl rfl (Nat.le_of_ble_eq_true rfl) (List.Perm.of_eq (List.append_nil _).symm) (mw 0 rfl) rfl dX4_wrongs_7 (by omega) (by omega) ?_
  rintro _ _ _ ⟨rfl, rfl, rfl⟩
  refine ev_ws (List.append_nil _) ?_
  show Ev G X 0 0 10 [(0, .ref r), (1, .int x)] [.int (nI (rn + 1))] (RW G q 20 (upd D rn (nI 1)) (upd f2 rn (nI 0)) (upd f3 rn (nI 0)) (nI (rn + 1)) g1 g2 g3 gc) ro
  refine ev_pop hC dX4_wrongs_10 rfl ?_
  refine ev_iload_n hC dX4_wrongs_11 rfl 1 rfl ?_
  refine ev_aload_n hC dX4_wrongs_12 rfl 0 rfl ?_
  refine ev_get hC fl_X4_13_8 (mr he) rfl dX4_wrongs_13 ?_
  refine ev_iadd hC dX4_wrongs_16 ?_
  refine ev_iret hC hR rfl dX4_wrongs_17 ?_
  exact ⟨_, _, rfl, rfl, rfl⟩

set_option maxHeartbeats 4000000 in
set_option maxRecDepth 100000 in
theorem m_X4_wrongs_k4 (G : GG) (ro : va_W) (r p v : Nat) (q : Nat → Nat) (D f2 f3 g1 g2 g3 : Nat → Int32) (gc : Int32) (rn : Nat) (x : Int32) (he : (r, ob 2 [.int (nI 4), .int (nI p), .int (nI v), .ref (q 0)]) ∈ ro) (hr : rn + 1 ≤ 20) : Mth G M_X4_wrongs 1 0 0 [.ref r, .int x] (RW G q 20 D f2 f3 (nI rn) g1 g2 g3 gc) ro (fun r ws' ro' => ∃ (f2' : Nat → Int32), ∃ (f3' : Nat → Int32), r = some (.int (x + (nI p))) ∧ ws' = (RW G q 20 (upd D rn (nI 1)) f2' f3' (nI (rn + 1)) g1 g2 g3 gc) ∧ ro = ro') := by
  refine mth_of (by decide +kernel) (Nat.le_of_ble_eq_true rfl) (fun X hC hR => ?_)
  show Ev G X 0 0 0 [(0, .ref r), (1, .int x)] [] (RW G q 20 D f2 f3 (nI rn) g1 g2 g3 gc) ro
  refine ev_aload_n hC dX4_wrongs_0 rfl 0 rfl ?_
  refine ev_get hC fl_X4_19_2 (mr he) rfl dX4_wrongs_1 ?_
  refine ev_iconst (v := (nI 1)) hC dX4_wrongs_4 (by decide) ?_
  refine ev_iconst (v := (nI 0)) hC dX4_wrongs_5 (by decide) ?_
  refine ev_iconst (v := (nI 0)) hC dX4_wrongs_6 (by decide) ?_
  refine ev_callV (As := [.int (nI 1), .int (nI 0), .int (nI 0)]) (st := []) (wf := []) hC cv_X4_23 (m_X7_add G ro q 20 rn D f2 f3 g1 g2 g3 gc (nI 1) (nI 0) (nI 0) (by omega) (by omega) (by omega)) (by omega) rfl rfl (Nat.le_of_ble_eq_true rfl) (List.Perm.of_eq (List.append_nil _).symm) (mw 0 rfl) rfl dX4_wrongs_7 (by omega) (by omega) ?_
  rintro _ _ _ ⟨rfl, rfl, rfl⟩
  refine ev_ws (List.append_nil _) ?_
  show Ev G X 0 0 10 [(0, .ref r), (1, .int x)] [.int (nI (rn + 1))] (RW G q 20 (upd D rn (nI 1)) (upd f2 rn (nI 0)) (upd f3 rn (nI 0)) (nI (rn + 1)) g1 g2 g3 gc) ro
  refine ev_pop hC dX4_wrongs_10 rfl ?_
  refine ev_iload_n hC dX4_wrongs_11 rfl 1 rfl ?_
  refine ev_aload_n hC dX4_wrongs_12 rfl 0 rfl ?_
  refine ev_get hC fl_X4_13_2 (mr he) rfl dX4_wrongs_13 ?_
  refine ev_iadd hC dX4_wrongs_16 ?_
  refine ev_iret hC hR rfl dX4_wrongs_17 ?_
  exact ⟨_, _, rfl, rfl, rfl⟩

set_option maxHeartbeats 4000000 in
set_option maxRecDepth 100000 in
theorem m_X4_wrongs_k5 (G : GG) (ro : va_W) (r p v : Nat) (q : Nat → Nat) (D f2 f3 g1 g2 g3 : Nat → Int32) (gc : Int32) (rn : Nat) (x : Int32) (he : (r, ob 5 [.int (nI 5), .int (nI p), .int (nI v), .ref (q 0)]) ∈ ro) (hr : rn + 1 ≤ 20) : Mth G M_X4_wrongs 1 0 0 [.ref r, .int x] (RW G q 20 D f2 f3 (nI rn) g1 g2 g3 gc) ro (fun r ws' ro' => ∃ (f2' : Nat → Int32), ∃ (f3' : Nat → Int32), r = some (.int (x + (nI p))) ∧ ws' = (RW G q 20 (upd D rn (nI 1)) f2' f3' (nI (rn + 1)) g1 g2 g3 gc) ∧ ro = ro') := by
  refine mth_of (by decide +kernel) (Nat.le_of_ble_eq_true rfl) (fun X hC hR => ?_)
  show Ev G X 0 0 0 [(0, .ref r), (1, .int x)] [] (RW G q 20 D f2 f3 (nI rn) g1 g2 g3 gc) ro
  refine ev_aload_n hC dX4_wrongs_0 rfl 0 rfl ?_
  refine ev_get hC fl_X4_19_5 (mr he) rfl dX4_wrongs_1 ?_
  refine ev_iconst (v := (nI 1)) hC dX4_wrongs_4 (by decide) ?_
  refine ev_iconst (v := (nI 0)) hC dX4_wrongs_5 (by decide) ?_
  refine ev_iconst (v := (nI 0)) hC dX4_wrongs_6 (by decide) ?_
  refine ev_callV (As := [.int (nI 1), .int (nI 0), .int (nI 0)]) (st := []) (wf := []) hC cv_X4_23 (m_X7_add G ro q 20 rn D f2 f3 g1 g2 g3 gc (nI 1) (nI 0) (nI 0) (by omega) (by omega) (by omega)) (by omega) rfl rfl (Nat.le_of_ble_eq_true rfl) (List.Perm.of_eq (List.append_nil _).symm) (mw 0 rfl) rfl dX4_wrongs_7 (by omega) (by omega) ?_
  rintro _ _ _ ⟨rfl, rfl, rfl⟩
  refine ev_ws (List.append_nil _) ?_
  show Ev G X 0 0 10 [(0, .ref r), (1, .int x)] [.int (nI (rn + 1))] (RW G q 20 (upd D rn (nI 1)) (upd f2 rn (nI 0)) (upd f3 rn (nI 0)) (nI (rn + 1)) g1 g2 g3 gc) ro
  refine ev_pop hC dX4_wrongs_10 rfl ?_
  refine ev_iload_n hC dX4_wrongs_11 rfl 1 rfl ?_
  refine ev_aload_n hC dX4_wrongs_12 rfl 0 rfl ?_
  refine ev_get hC fl_X4_13_5 (mr he) rfl dX4_wrongs_13 ?_
  refine ev_iadd hC dX4_wrongs_16 ?_
  refine ev_iret hC hR rfl dX4_wrongs_17 ?_
  exact ⟨_, _, rfl, rfl, rfl⟩

set_option maxHeartbeats 4000000 in
set_option maxRecDepth 100000 in
theorem m_X4_wrongs_k6 (G : GG) (ro : va_W) (r p v : Nat) (q : Nat → Nat) (D f2 f3 g1 g2 g3 : Nat → Int32) (gc : Int32) (rn : Nat) (x : Int32) (he : (r, ob 9 [.int (nI 6), .int (nI p), .int (nI v), .ref (q 0)]) ∈ ro) (hr : rn + 1 ≤ 20) : Mth G M_X4_wrongs 1 0 0 [.ref r, .int x] (RW G q 20 D f2 f3 (nI rn) g1 g2 g3 gc) ro (fun r ws' ro' => ∃ (f2' : Nat → Int32), ∃ (f3' : Nat → Int32), r = some (.int (x + (nI p))) ∧ ws' = (RW G q 20 (upd D rn (nI 1)) f2' f3' (nI (rn + 1)) g1 g2 g3 gc) ∧ ro = ro') := by
  refine mth_of (by decide +kernel) (Nat.le_of_ble_eq_true rfl) (fun X hC hR => ?_)
  show Ev G X 0 0 0 [(0, .ref r), (1, .int x)] [] (RW G q 20 D f2 f3 (nI rn) g1 g2 g3 gc) ro
  refine ev_aload_n hC dX4_wrongs_0 rfl 0 rfl ?_
  refine ev_get hC fl_X4_19_9 (mr he) rfl dX4_wrongs_1 ?_
  refine ev_iconst (v := (nI 1)) hC dX4_wrongs_4 (by decide) ?_
  refine ev_iconst (v := (nI 0)) hC dX4_wrongs_5 (by decide) ?_
  refine ev_iconst (v := (nI 0)) hC dX4_wrongs_6 (by decide) ?_
  refine ev_callV (As := [.int (nI 1), .int (nI 0), .int (nI 0)]) (st := []) (wf := []) hC cv_X4_23 (m_X7_add G ro q 20 rn D f2 f3 g1 g2 g3 gc (nI 1) (nI 0) (nI 0) (by omega) (by omega) (by omega)) (by omega) rfl rfl (Nat.le_of_ble_eq_true rfl) (List.Perm.of_eq (List.append_nil _).symm) (mw 0 rfl) rfl dX4_wrongs_7 (by omega) (by omega) ?_
  rintro _ _ _ ⟨rfl, rfl, rfl⟩
  refine ev_ws (List.append_nil _) ?_
  show Ev G X 0 0 10 [(0, .ref r), (1, .int x)] [.int (nI (rn + 1))] (RW G q 20 (upd D rn (nI 1)) (upd f2 rn (nI 0)) (upd f3 rn (nI 0)) (nI (rn + 1)) g1 g2 g3 gc) ro
  refine ev_pop hC dX4_wrongs_10 rfl ?_
  refine ev_iload_n hC dX4_wrongs_11 rfl 1 rfl ?_
  refine ev_aload_n hC dX4_wrongs_12 rfl 0 rfl ?_
  refine ev_get hC fl_X4_13_9 (mr he) rfl dX4_wrongs_13 ?_
  refine ev_iadd hC dX4_wrongs_16 ?_
  refine ev_iret hC hR rfl dX4_wrongs_17 ?_
  exact ⟨_, _, rfl, rfl, rfl⟩

set_option maxHeartbeats 4000000 in
set_option maxRecDepth 100000 in
theorem m_X1_wrongs_k1 (G : GG) (ro : va_W) (r p v : Nat) (q : Nat → Nat) (D f2 f3 g1 g2 g3 : Nat → Int32) (gc : Int32) (rn : Nat) (x : Int32) (he : (r, ob 1 [.int (nI 1), .int (nI p), .int (nI v), .ref (q 0)]) ∈ ro) (hr : rn + 2 ≤ 20) : Mth G M_X1_wrongs 2 0 0 [.ref r, .int x] (RW G q 20 D f2 f3 (nI rn) g1 g2 g3 gc) ro (fun r ws' ro' => ∃ (f2' : Nat → Int32), ∃ (f3' : Nat → Int32), r = some (.int ((x * (nI 3)) + (nI p))) ∧ ws' = (RW G q 20 (upd (upd D rn (nI 11)) (rn + 1) (nI 1)) f2' f3' (nI (rn + 2)) g1 g2 g3 gc) ∧ ro = ro') := by
  refine mth_of (by decide +kernel) (Nat.le_of_ble_eq_true rfl) (fun X hC hR => ?_)
  show Ev G X 0 0 0 [(0, .ref r), (1, .int x)] [] (RW G q 20 D f2 f3 (nI rn) g1 g2 g3 gc) ro
  refine ev_aload_n hC dX1_wrongs_0 rfl 0 rfl ?_
  refine ev_get hC fl_X1_7_1 (mr he) rfl dX1_wrongs_1 ?_
  refine ev_bipush (v := (nI 11)) hC dX1_wrongs_4 (by decide) ?_
  refine ev_iconst (v := (nI 0)) hC dX1_wrongs_6 (by decide) ?_
  refine ev_iconst (v := (nI 0)) hC dX1_wrongs_7 (by decide) ?_
  refine ev_callV (As := [.int (nI 11), .int (nI 0), .int (nI 0)]) (st := []) (wf := []) hC cv_X1_13 (m_X7_add G ro q 20 rn D f2 f3 g1 g2 g3 gc (nI 11) (nI 0) (nI 0) (by omega) (by omega) (by omega)) (by omega) rfl rfl (Nat.le_of_ble_eq_true rfl) (List.Perm.of_eq (List.append_nil _).symm) (mw 0 rfl) rfl dX1_wrongs_8 (by omega) (by omega) ?_
  rintro _ _ _ ⟨rfl, rfl, rfl⟩
  refine ev_ws (List.append_nil _) ?_
  show Ev G X 0 0 11 [(0, .ref r), (1, .int x)] [.int (nI (rn + 1))] (RW G q 20 (upd D rn (nI 11)) (upd f2 rn (nI 0)) (upd f3 rn (nI 0)) (nI (rn + 1)) g1 g2 g3 gc) ro
  refine ev_pop hC dX1_wrongs_11 rfl ?_
  refine ev_aload_n hC dX1_wrongs_12 rfl 0 rfl ?_
  refine ev_iload_n hC dX1_wrongs_13 rfl 1 rfl ?_
  refine ev_iconst (v := (nI 3)) hC dX1_wrongs_14 (by decide) ?_
  refine ev_imul hC dX1_wrongs_15 ?_
  refine ev_callSU (As := [.int (x * (nI 3))]) (st := []) (wf := []) hC cs_X1_19 (m_X4_wrongs_k1 G ro r p v q (upd D rn (nI 11)) (upd f2 rn (nI 0)) (upd f3 rn (nI 0)) g1 g2 g3 gc (rn + 1) (x * (nI 3)) he (by omega)) (by omega) rfl rfl (Nat.le_of_ble_eq_true rfl) (List.Perm.of_eq (List.append_nil _).symm) (mr he) rfl dX1_wrongs_16 (by omega) (by omega) ?_
  rintro _ _ _ ⟨f_1, f_2, rfl, rfl, rfl⟩
  refine ev_ws (List.append_nil _) ?_
  show Ev G X 0 0 19 [(0, .ref r), (1, .int x)] [.int ((x * (nI 3)) + (nI p))] (RW G q 20 (upd (upd D rn (nI 11)) (rn + 1) (nI 1)) f_1 f_2 (nI (rn + 2)) g1 g2 g3 gc) ro
  refine ev_iret hC hR rfl dX1_wrongs_19 ?_
  exact ⟨_, _, rfl, rfl, rfl⟩

set_option maxHeartbeats 4000000 in
set_option maxRecDepth 100000 in
theorem m_X1_wrongs_k4 (G : GG) (ro : va_W) (r p v : Nat) (q : Nat → Nat) (D f2 f3 g1 g2 g3 : Nat → Int32) (gc : Int32) (rn : Nat) (x : Int32) (he : (r, ob 2 [.int (nI 4), .int (nI p), .int (nI v), .ref (q 0)]) ∈ ro) (hr : rn + 2 ≤ 20) : Mth G M_X1_wrongs 2 0 0 [.ref r, .int x] (RW G q 20 D f2 f3 (nI rn) g1 g2 g3 gc) ro (fun r ws' ro' => ∃ (f2' : Nat → Int32), ∃ (f3' : Nat → Int32), r = some (.int ((x * (nI 3)) + (nI p))) ∧ ws' = (RW G q 20 (upd (upd D rn (nI 11)) (rn + 1) (nI 1)) f2' f3' (nI (rn + 2)) g1 g2 g3 gc) ∧ ro = ro') := by
  refine mth_of (by decide +kernel) (Nat.le_of_ble_eq_true rfl) (fun X hC hR => ?_)
  show Ev G X 0 0 0 [(0, .ref r), (1, .int x)] [] (RW G q 20 D f2 f3 (nI rn) g1 g2 g3 gc) ro
  refine ev_aload_n hC dX1_wrongs_0 rfl 0 rfl ?_
  refine ev_get hC fl_X1_7_2 (mr he) rfl dX1_wrongs_1 ?_
  refine ev_bipush (v := (nI 11)) hC dX1_wrongs_4 (by decide) ?_
  refine ev_iconst (v := (nI 0)) hC dX1_wrongs_6 (by decide) ?_
  refine ev_iconst (v := (nI 0)) hC dX1_wrongs_7 (by decide) ?_
  refine ev_callV (As := [.int (nI 11), .int (nI 0), .int (nI 0)]) (st := []) (wf := []) hC cv_X1_13 (m_X7_add G ro q 20 rn D f2 f3 g1 g2 g3 gc (nI 11) (nI 0) (nI 0) (by omega) (by omega) (by omega)) (by omega) rfl rfl (Nat.le_of_ble_eq_true rfl) (List.Perm.of_eq (List.append_nil _).symm) (mw 0 rfl) rfl dX1_wrongs_8 (by omega) (by omega) ?_
  rintro _ _ _ ⟨rfl, rfl, rfl⟩
  refine ev_ws (List.append_nil _) ?_
  show Ev G X 0 0 11 [(0, .ref r), (1, .int x)] [.int (nI (rn + 1))] (RW G q 20 (upd D rn (nI 11)) (upd f2 rn (nI 0)) (upd f3 rn (nI 0)) (nI (rn + 1)) g1 g2 g3 gc) ro
  refine ev_pop hC dX1_wrongs_11 rfl ?_
  refine ev_aload_n hC dX1_wrongs_12 rfl 0 rfl ?_
  refine ev_iload_n hC dX1_wrongs_13 rfl 1 rfl ?_
  refine ev_iconst (v := (nI 3)) hC dX1_wrongs_14 (by decide) ?_
  refine ev_imul hC dX1_wrongs_15 ?_
  refine ev_callSU (As := [.int (x * (nI 3))]) (st := []) (wf := []) hC cs_X1_19 (m_X4_wrongs_k4 G ro r p v q (upd D rn (nI 11)) (upd f2 rn (nI 0)) (upd f3 rn (nI 0)) g1 g2 g3 gc (rn + 1) (x * (nI 3)) he (by omega)) (by omega) rfl rfl (Nat.le_of_ble_eq_true rfl) (List.Perm.of_eq (List.append_nil _).symm) (mr he) rfl dX1_wrongs_16 (by omega) (by omega) ?_
  rintro _ _ _ ⟨f_1, f_2, rfl, rfl, rfl⟩
  refine ev_ws (List.append_nil _) ?_
  show Ev G X 0 0 19 [(0, .ref r), (1, .int x)] [.int ((x * (nI 3)) + (nI p))] (RW G q 20 (upd (upd D rn (nI 11)) (rn + 1) (nI 1)) f_1 f_2 (nI (rn + 2)) g1 g2 g3 gc) ro
  refine ev_iret hC hR rfl dX1_wrongs_19 ?_
  exact ⟨_, _, rfl, rfl, rfl⟩

set_option maxHeartbeats 4000000 in
set_option maxRecDepth 100000 in
theorem m_X5_wrongs_k5 (G : GG) (ro : va_W) (r p v : Nat) (q : Nat → Nat) (D f2 f3 g1 g2 g3 : Nat → Int32) (gc : Int32) (rn : Nat) (x : Int32) (he : (r, ob 5 [.int (nI 5), .int (nI p), .int (nI v), .ref (q 0)]) ∈ ro) (hr : rn + 2 ≤ 20) : Mth G M_X5_wrongs 2 0 0 [.ref r, .int x] (RW G q 20 D f2 f3 (nI rn) g1 g2 g3 gc) ro (fun r ws' ro' => ∃ (f2' : Nat → Int32), ∃ (f3' : Nat → Int32), r = some (.int ((x + (nI p)) ^^^ (nI p))) ∧ ws' = (RW G q 20 (upd (upd D rn (nI 51)) (rn + 1) (nI 1)) f2' f3' (nI (rn + 2)) g1 g2 g3 gc) ∧ ro = ro') := by
  refine mth_of (by decide +kernel) (Nat.le_of_ble_eq_true rfl) (fun X hC hR => ?_)
  show Ev G X 0 0 0 [(0, .ref r), (1, .int x)] [] (RW G q 20 D f2 f3 (nI rn) g1 g2 g3 gc) ro
  refine ev_aload_n hC dX5_wrongs_0 rfl 0 rfl ?_
  refine ev_get hC fl_X5_26_5 (mr he) rfl dX5_wrongs_1 ?_
  refine ev_bipush (v := (nI 51)) hC dX5_wrongs_4 (by decide) ?_
  refine ev_iconst (v := (nI 0)) hC dX5_wrongs_6 (by decide) ?_
  refine ev_iconst (v := (nI 0)) hC dX5_wrongs_7 (by decide) ?_
  refine ev_callV (As := [.int (nI 51), .int (nI 0), .int (nI 0)]) (st := []) (wf := []) hC cv_X5_30 (m_X7_add G ro q 20 rn D f2 f3 g1 g2 g3 gc (nI 51) (nI 0) (nI 0) (by omega) (by omega) (by omega)) (by omega) rfl rfl (Nat.le_of_ble_eq_true rfl) (List.Perm.of_eq (List.append_nil _).symm) (mw 0 rfl) rfl dX5_wrongs_8 (by omega) (by omega) ?_
  rintro _ _ _ ⟨rfl, rfl, rfl⟩
  refine ev_ws (List.append_nil _) ?_
  show Ev G X 0 0 11 [(0, .ref r), (1, .int x)] [.int (nI (rn + 1))] (RW G q 20 (upd D rn (nI 51)) (upd f2 rn (nI 0)) (upd f3 rn (nI 0)) (nI (rn + 1)) g1 g2 g3 gc) ro
  refine ev_pop hC dX5_wrongs_11 rfl ?_
  refine ev_aload_n hC dX5_wrongs_12 rfl 0 rfl ?_
  refine ev_iload_n hC dX5_wrongs_13 rfl 1 rfl ?_
  refine ev_callSW (As := [.int x]) (st := []) (wf := []) hC cw_X5_36 (m_X4_wrongs_k5 G ro r p v q (upd D rn (nI 51)) (upd f2 rn (nI 0)) (upd f3 rn (nI 0)) g1 g2 g3 gc (rn + 1) x he (by omega)) (by omega) rfl rfl (Nat.le_of_ble_eq_true rfl) (List.Perm.of_eq (List.append_nil _).symm) (mr he) rfl dX5_wrongs_14 (by omega) (by omega) ?_
  rintro _ _ _ ⟨f_1, f_2, rfl, rfl, rfl⟩
  refine ev_ws (List.append_nil _) ?_
  show Ev G X 0 0 17 [(0, .ref r), (1, .int x)] [.int (x + (nI p))] (RW G q 20 (upd (upd D rn (nI 51)) (rn + 1) (nI 1)) f_1 f_2 (nI (rn + 2)) g1 g2 g3 gc) ro
  refine ev_aload_n hC dX5_wrongs_17 rfl 0 rfl ?_
  refine ev_get hC fl_X5_40_5 (mr he) rfl dX5_wrongs_18 ?_
  refine ev_ixor hC dX5_wrongs_21 ?_
  refine ev_iret hC hR rfl dX5_wrongs_22 ?_
  exact ⟨_, _, rfl, rfl, rfl⟩

set_option maxHeartbeats 4000000 in
set_option maxRecDepth 100000 in
theorem m_X4_licks_k0 (G : GG) (ro : va_W) (r p v : Nat) (q : Nat → Nat) (D f2 f3 g1 g2 g3 : Nat → Int32) (gc : Int32) (rn : Nat) (x : Int32) (he : (r, ob 4 [.int (nI 0), .int (nI p), .int (nI v), .ref (q 0)]) ∈ ro) (hr : rn + 2 ≤ 20) : Mth G M_X4_licks 2 0 0 [.ref r, .int x] (RW G q 20 D f2 f3 (nI rn) g1 g2 g3 gc) ro (fun r ws' ro' => ∃ (f2' : Nat → Int32), ∃ (f3' : Nat → Int32), r = some (.int ((x + (nI p)) - (nI v))) ∧ ws' = (RW G q 20 (upd (upd D rn (nI 2)) (rn + 1) (nI 1)) f2' f3' (nI (rn + 2)) g1 g2 g3 gc) ∧ ro = ro') := by
  refine mth_of (by decide +kernel) (Nat.le_of_ble_eq_true rfl) (fun X hC hR => ?_)
  show Ev G X 0 0 0 [(0, .ref r), (1, .int x)] [] (RW G q 20 D f2 f3 (nI rn) g1 g2 g3 gc) ro
  refine ev_aload_n hC dX4_licks_0 rfl 0 rfl ?_
  refine ev_get hC fl_X4_19_4 (mr he) rfl dX4_licks_1 ?_
  refine ev_iconst (v := (nI 2)) hC dX4_licks_4 (by decide) ?_
  refine ev_iconst (v := (nI 0)) hC dX4_licks_5 (by decide) ?_
  refine ev_iconst (v := (nI 0)) hC dX4_licks_6 (by decide) ?_
  refine ev_callV (As := [.int (nI 2), .int (nI 0), .int (nI 0)]) (st := []) (wf := []) hC cv_X4_23 (m_X7_add G ro q 20 rn D f2 f3 g1 g2 g3 gc (nI 2) (nI 0) (nI 0) (by omega) (by omega) (by omega)) (by omega) rfl rfl (Nat.le_of_ble_eq_true rfl) (List.Perm.of_eq (List.append_nil _).symm) (mw 0 rfl) rfl dX4_licks_7 (by omega) (by omega) ?_
  rintro _ _ _ ⟨rfl, rfl, rfl⟩
  refine ev_ws (List.append_nil _) ?_
  show Ev G X 0 0 10 [(0, .ref r), (1, .int x)] [.int (nI (rn + 1))] (RW G q 20 (upd D rn (nI 2)) (upd f2 rn (nI 0)) (upd f3 rn (nI 0)) (nI (rn + 1)) g1 g2 g3 gc) ro
  refine ev_pop hC dX4_licks_10 rfl ?_
  refine ev_aload_n hC dX4_licks_11 rfl 0 rfl ?_
  refine ev_iload_n hC dX4_licks_12 rfl 1 rfl ?_
  refine ev_callU (As := [.int x]) (st := []) (wf := []) hC cu_X4_29_4 (m_X4_wrongs_k0 G ro r p v q (upd D rn (nI 2)) (upd f2 rn (nI 0)) (upd f3 rn (nI 0)) g1 g2 g3 gc (rn + 1) x he (by omega)) (by omega) rfl rfl (Nat.le_of_ble_eq_true rfl) (List.Perm.of_eq (List.append_nil _).symm) (mr he) rfl dX4_licks_13 (by omega) (by omega) ?_
  rintro _ _ _ ⟨f_1, f_2, rfl, rfl, rfl⟩
  refine ev_ws (List.append_nil _) ?_
  show Ev G X 0 0 16 [(0, .ref r), (1, .int x)] [.int (x + (nI p))] (RW G q 20 (upd (upd D rn (nI 2)) (rn + 1) (nI 1)) f_1 f_2 (nI (rn + 2)) g1 g2 g3 gc) ro
  refine ev_aload_n hC dX4_licks_16 rfl 0 rfl ?_
  refine ev_get hC fl_X4_16_4 (mr he) rfl dX4_licks_17 ?_
  refine ev_isub hC dX4_licks_20 ?_
  refine ev_iret hC hR rfl dX4_licks_21 ?_
  exact ⟨_, _, rfl, rfl, rfl⟩

set_option maxHeartbeats 4000000 in
set_option maxRecDepth 100000 in
theorem m_X4_licks_k1 (G : GG) (ro : va_W) (r p v : Nat) (q : Nat → Nat) (D f2 f3 g1 g2 g3 : Nat → Int32) (gc : Int32) (rn : Nat) (x : Int32) (he : (r, ob 1 [.int (nI 1), .int (nI p), .int (nI v), .ref (q 0)]) ∈ ro) (hr : rn + 3 ≤ 20) : Mth G M_X4_licks 3 0 0 [.ref r, .int x] (RW G q 20 D f2 f3 (nI rn) g1 g2 g3 gc) ro (fun r ws' ro' => ∃ (f2' : Nat → Int32), ∃ (f3' : Nat → Int32), r = some (.int (((x * (nI 3)) + (nI p)) - (nI v))) ∧ ws' = (RW G q 20 (upd (upd (upd D rn (nI 2)) (rn + 1) (nI 11)) (rn + 2) (nI 1)) f2' f3' (nI (rn + 3)) g1 g2 g3 gc) ∧ ro = ro') := by
  refine mth_of (by decide +kernel) (Nat.le_of_ble_eq_true rfl) (fun X hC hR => ?_)
  show Ev G X 0 0 0 [(0, .ref r), (1, .int x)] [] (RW G q 20 D f2 f3 (nI rn) g1 g2 g3 gc) ro
  refine ev_aload_n hC dX4_licks_0 rfl 0 rfl ?_
  refine ev_get hC fl_X4_19_1 (mr he) rfl dX4_licks_1 ?_
  refine ev_iconst (v := (nI 2)) hC dX4_licks_4 (by decide) ?_
  refine ev_iconst (v := (nI 0)) hC dX4_licks_5 (by decide) ?_
  refine ev_iconst (v := (nI 0)) hC dX4_licks_6 (by decide) ?_
  refine ev_callV (As := [.int (nI 2), .int (nI 0), .int (nI 0)]) (st := []) (wf := []) hC cv_X4_23 (m_X7_add G ro q 20 rn D f2 f3 g1 g2 g3 gc (nI 2) (nI 0) (nI 0) (by omega) (by omega) (by omega)) (by omega) rfl rfl (Nat.le_of_ble_eq_true rfl) (List.Perm.of_eq (List.append_nil _).symm) (mw 0 rfl) rfl dX4_licks_7 (by omega) (by omega) ?_
  rintro _ _ _ ⟨rfl, rfl, rfl⟩
  refine ev_ws (List.append_nil _) ?_
  show Ev G X 0 0 10 [(0, .ref r), (1, .int x)] [.int (nI (rn + 1))] (RW G q 20 (upd D rn (nI 2)) (upd f2 rn (nI 0)) (upd f3 rn (nI 0)) (nI (rn + 1)) g1 g2 g3 gc) ro
  refine ev_pop hC dX4_licks_10 rfl ?_
  refine ev_aload_n hC dX4_licks_11 rfl 0 rfl ?_
  refine ev_iload_n hC dX4_licks_12 rfl 1 rfl ?_
  refine ev_callU (As := [.int x]) (st := []) (wf := []) hC cu_X4_29_1 (m_X1_wrongs_k1 G ro r p v q (upd D rn (nI 2)) (upd f2 rn (nI 0)) (upd f3 rn (nI 0)) g1 g2 g3 gc (rn + 1) x he (by omega)) (by omega) rfl rfl (Nat.le_of_ble_eq_true rfl) (List.Perm.of_eq (List.append_nil _).symm) (mr he) rfl dX4_licks_13 (by omega) (by omega) ?_
  rintro _ _ _ ⟨f_1, f_2, rfl, rfl, rfl⟩
  refine ev_ws (List.append_nil _) ?_
  show Ev G X 0 0 16 [(0, .ref r), (1, .int x)] [.int ((x * (nI 3)) + (nI p))] (RW G q 20 (upd (upd (upd D rn (nI 2)) (rn + 1) (nI 11)) (rn + 2) (nI 1)) f_1 f_2 (nI (rn + 3)) g1 g2 g3 gc) ro
  refine ev_aload_n hC dX4_licks_16 rfl 0 rfl ?_
  refine ev_get hC fl_X4_16_1 (mr he) rfl dX4_licks_17 ?_
  refine ev_isub hC dX4_licks_20 ?_
  refine ev_iret hC hR rfl dX4_licks_21 ?_
  exact ⟨_, _, rfl, rfl, rfl⟩

set_option maxHeartbeats 4000000 in
set_option maxRecDepth 100000 in
theorem m_X4_licks_k2 (G : GG) (ro : va_W) (r p v : Nat) (q : Nat → Nat) (D f2 f3 g1 g2 g3 : Nat → Int32) (gc : Int32) (rn : Nat) (x : Int32) (he : (r, ob 0 [.int (nI 2), .int (nI p), .int (nI v), .ref (q 0)]) ∈ ro) (hr : rn + 2 ≤ 20) : Mth G M_X4_licks 2 0 0 [.ref r, .int x] (RW G q 20 D f2 f3 (nI rn) g1 g2 g3 gc) ro (fun r ws' ro' => ∃ (f2' : Nat → Int32), ∃ (f3' : Nat → Int32), r = some (.int ((x + (nI p)) - (nI v))) ∧ ws' = (RW G q 20 (upd (upd D rn (nI 2)) (rn + 1) (nI 1)) f2' f3' (nI (rn + 2)) g1 g2 g3 gc) ∧ ro = ro') := by
  refine mth_of (by decide +kernel) (Nat.le_of_ble_eq_true rfl) (fun X hC hR => ?_)
  show Ev G X 0 0 0 [(0, .ref r), (1, .int x)] [] (RW G q 20 D f2 f3 (nI rn) g1 g2 g3 gc) ro
  refine ev_aload_n hC dX4_licks_0 rfl 0 rfl ?_
  refine ev_get hC fl_X4_19_0 (mr he) rfl dX4_licks_1 ?_
  refine ev_iconst (v := (nI 2)) hC dX4_licks_4 (by decide) ?_
  refine ev_iconst (v := (nI 0)) hC dX4_licks_5 (by decide) ?_
  refine ev_iconst (v := (nI 0)) hC dX4_licks_6 (by decide) ?_
  refine ev_callV (As := [.int (nI 2), .int (nI 0), .int (nI 0)]) (st := []) (wf := []) hC cv_X4_23 (m_X7_add G ro q 20 rn D f2 f3 g1 g2 g3 gc (nI 2) (nI 0) (nI 0) (by omega) (by omega) (by omega)) (by omega) rfl rfl (Nat.le_of_ble_eq_true rfl) (List.Perm.of_eq (List.append_nil _).symm) (mw 0 rfl) rfl dX4_licks_7 (by omega) (by omega) ?_
  rintro _ _ _ ⟨rfl, rfl, rfl⟩
  refine ev_ws (List.append_nil _) ?_
  show Ev G X 0 0 10 [(0, .ref r), (1, .int x)] [.int (nI (rn + 1))] (RW G q 20 (upd D rn (nI 2)) (upd f2 rn (nI 0)) (upd f3 rn (nI 0)) (nI (rn + 1)) g1 g2 g3 gc) ro
  refine ev_pop hC dX4_licks_10 rfl ?_
  refine ev_aload_n hC dX4_licks_11 rfl 0 rfl ?_
  refine ev_iload_n hC dX4_licks_12 rfl 1 rfl ?_
  refine ev_callU (As := [.int x]) (st := []) (wf := []) hC cu_X4_29_0 (m_X4_wrongs_k2 G ro r p v q (upd D rn (nI 2)) (upd f2 rn (nI 0)) (upd f3 rn (nI 0)) g1 g2 g3 gc (rn + 1) x he (by omega)) (by omega) rfl rfl (Nat.le_of_ble_eq_true rfl) (List.Perm.of_eq (List.append_nil _).symm) (mr he) rfl dX4_licks_13 (by omega) (by omega) ?_
  rintro _ _ _ ⟨f_1, f_2, rfl, rfl, rfl⟩
  refine ev_ws (List.append_nil _) ?_
  show Ev G X 0 0 16 [(0, .ref r), (1, .int x)] [.int (x + (nI p))] (RW G q 20 (upd (upd D rn (nI 2)) (rn + 1) (nI 1)) f_1 f_2 (nI (rn + 2)) g1 g2 g3 gc) ro
  refine ev_aload_n hC dX4_licks_16 rfl 0 rfl ?_
  refine ev_get hC fl_X4_16_0 (mr he) rfl dX4_licks_17 ?_
  refine ev_isub hC dX4_licks_20 ?_
  refine ev_iret hC hR rfl dX4_licks_21 ?_
  exact ⟨_, _, rfl, rfl, rfl⟩

set_option maxHeartbeats 4000000 in
set_option maxRecDepth 100000 in
theorem m_X4_licks_k3 (G : GG) (ro : va_W) (r p v : Nat) (q : Nat → Nat) (D f2 f3 g1 g2 g3 : Nat → Int32) (gc : Int32) (rn : Nat) (x : Int32) (he : (r, ob 8 [.int (nI 3), .int (nI p), .int (nI v), .ref (q 0)]) ∈ ro) (hr : rn + 2 ≤ 20) : Mth G M_X4_licks 2 0 0 [.ref r, .int x] (RW G q 20 D f2 f3 (nI rn) g1 g2 g3 gc) ro (fun r ws' ro' => ∃ (f2' : Nat → Int32), ∃ (f3' : Nat → Int32), r = some (.int ((x + (nI p)) - (nI v))) ∧ ws' = (RW G q 20 (upd (upd D rn (nI 2)) (rn + 1) (nI 1)) f2' f3' (nI (rn + 2)) g1 g2 g3 gc) ∧ ro = ro') := by
  refine mth_of (by decide +kernel) (Nat.le_of_ble_eq_true rfl) (fun X hC hR => ?_)
  show Ev G X 0 0 0 [(0, .ref r), (1, .int x)] [] (RW G q 20 D f2 f3 (nI rn) g1 g2 g3 gc) ro
  refine ev_aload_n hC dX4_licks_0 rfl 0 rfl ?_
  refine ev_get hC fl_X4_19_8 (mr he) rfl dX4_licks_1 ?_
  refine ev_iconst (v := (nI 2)) hC dX4_licks_4 (by decide) ?_
  refine ev_iconst (v := (nI 0)) hC dX4_licks_5 (by decide) ?_
  refine ev_iconst (v := (nI 0)) hC dX4_licks_6 (by decide) ?_
  refine ev_callV (As := [.int (nI 2), .int (nI 0), .int (nI 0)]) (st := []) (wf := []) hC cv_X4_23 (m_X7_add G ro q 20 rn D f2 f3 g1 g2 g3 gc (nI 2) (nI 0) (nI 0) (by omega) (by omega) (by omega)) (by omega) rfl rfl (Nat.le_of_ble_eq_true rfl) (List.Perm.of_eq (List.append_nil _).symm) (mw 0 rfl) rfl dX4_licks_7 (by omega) (by omega) ?_
  rintro _ _ _ ⟨rfl, rfl, rfl⟩
  refine ev_ws (List.append_nil _) ?_
  show Ev G X 0 0 10 [(0, .ref r), (1, .int x)] [.int (nI (rn + 1))] (RW G q 20 (upd D rn (nI 2)) (upd f2 rn (nI 0)) (upd f3 rn (nI 0)) (nI (rn + 1)) g1 g2 g3 gc) ro
  refine ev_pop hC dX4_licks_10 rfl ?_
  refine ev_aload_n hC dX4_licks_11 rfl 0 rfl ?_
  refine ev_iload_n hC dX4_licks_12 rfl 1 rfl ?_
  refine ev_callU (As := [.int x]) (st := []) (wf := []) hC cu_X4_29_8 (m_X4_wrongs_k3 G ro r p v q (upd D rn (nI 2)) (upd f2 rn (nI 0)) (upd f3 rn (nI 0)) g1 g2 g3 gc (rn + 1) x he (by omega)) (by omega) rfl rfl (Nat.le_of_ble_eq_true rfl) (List.Perm.of_eq (List.append_nil _).symm) (mr he) rfl dX4_licks_13 (by omega) (by omega) ?_
  rintro _ _ _ ⟨f_1, f_2, rfl, rfl, rfl⟩
  refine ev_ws (List.append_nil _) ?_
  show Ev G X 0 0 16 [(0, .ref r), (1, .int x)] [.int (x + (nI p))] (RW G q 20 (upd (upd D rn (nI 2)) (rn + 1) (nI 1)) f_1 f_2 (nI (rn + 2)) g1 g2 g3 gc) ro
  refine ev_aload_n hC dX4_licks_16 rfl 0 rfl ?_
  refine ev_get hC fl_X4_16_8 (mr he) rfl dX4_licks_17 ?_
  refine ev_isub hC dX4_licks_20 ?_
  refine ev_iret hC hR rfl dX4_licks_21 ?_
  exact ⟨_, _, rfl, rfl, rfl⟩

set_option maxHeartbeats 4000000 in
set_option maxRecDepth 100000 in
theorem m_X4_licks_k4 (G : GG) (ro : va_W) (r p v : Nat) (q : Nat → Nat) (D f2 f3 g1 g2 g3 : Nat → Int32) (gc : Int32) (rn : Nat) (x : Int32) (he : (r, ob 2 [.int (nI 4), .int (nI p), .int (nI v), .ref (q 0)]) ∈ ro) (hr : rn + 3 ≤ 20) : Mth G M_X4_licks 3 0 0 [.ref r, .int x] (RW G q 20 D f2 f3 (nI rn) g1 g2 g3 gc) ro (fun r ws' ro' => ∃ (f2' : Nat → Int32), ∃ (f3' : Nat → Int32), r = some (.int (((x * (nI 3)) + (nI p)) - (nI v))) ∧ ws' = (RW G q 20 (upd (upd (upd D rn (nI 2)) (rn + 1) (nI 11)) (rn + 2) (nI 1)) f2' f3' (nI (rn + 3)) g1 g2 g3 gc) ∧ ro = ro') := by
  refine mth_of (by decide +kernel) (Nat.le_of_ble_eq_true rfl) (fun X hC hR => ?_)
  show Ev G X 0 0 0 [(0, .ref r), (1, .int x)] [] (RW G q 20 D f2 f3 (nI rn) g1 g2 g3 gc) ro
  refine ev_aload_n hC dX4_licks_0 rfl 0 rfl ?_
  refine ev_get hC fl_X4_19_2 (mr he) rfl dX4_licks_1 ?_
  refine ev_iconst (v := (nI 2)) hC dX4_licks_4 (by decide) ?_
  refine ev_iconst (v := (nI 0)) hC dX4_licks_5 (by decide) ?_
  refine ev_iconst (v := (nI 0)) hC dX4_licks_6 (by decide) ?_
  refine ev_callV (As := [.int (nI 2), .int (nI 0), .int (nI 0)]) (st := []) (wf := []) hC cv_X4_23 (m_X7_add G ro q 20 rn D f2 f3 g1 g2 g3 gc (nI 2) (nI 0) (nI 0) (by omega) (by omega) (by omega)) (by omega) rfl rfl (Nat.le_of_ble_eq_true rfl) (List.Perm.of_eq (List.append_nil _).symm) (mw 0 rfl) rfl dX4_licks_7 (by omega) (by omega) ?_
  rintro _ _ _ ⟨rfl, rfl, rfl⟩
  refine ev_ws (List.append_nil _) ?_
  show Ev G X 0 0 10 [(0, .ref r), (1, .int x)] [.int (nI (rn + 1))] (RW G q 20 (upd D rn (nI 2)) (upd f2 rn (nI 0)) (upd f3 rn (nI 0)) (nI (rn + 1)) g1 g2 g3 gc) ro
  refine ev_pop hC dX4_licks_10 rfl ?_
  refine ev_aload_n hC dX4_licks_11 rfl 0 rfl ?_
  refine ev_iload_n hC dX4_licks_12 rfl 1 rfl ?_
  refine ev_callU (As := [.int x]) (st := []) (wf := []) hC cu_X4_29_2 (m_X1_wrongs_k4 G ro r p v q (upd D rn (nI 2)) (upd f2 rn (nI 0)) (upd f3 rn (nI 0)) g1 g2 g3 gc (rn + 1) x he (by omega)) (by omega) rfl rfl (Nat.le_of_ble_eq_true rfl) (List.Perm.of_eq (List.append_nil _).symm) (mr he) rfl dX4_licks_13 (by omega) (by omega) ?_
  rintro _ _ _ ⟨f_1, f_2, rfl, rfl, rfl⟩
  refine ev_ws (List.append_nil _) ?_
  show Ev G X 0 0 16 [(0, .ref r), (1, .int x)] [.int ((x * (nI 3)) + (nI p))] (RW G q 20 (upd (upd (upd D rn (nI 2)) (rn + 1) (nI 11)) (rn + 2) (nI 1)) f_1 f_2 (nI (rn + 3)) g1 g2 g3 gc) ro
  refine ev_aload_n hC dX4_licks_16 rfl 0 rfl ?_
  refine ev_get hC fl_X4_16_2 (mr he) rfl dX4_licks_17 ?_
  refine ev_isub hC dX4_licks_20 ?_
  refine ev_iret hC hR rfl dX4_licks_21 ?_
  exact ⟨_, _, rfl, rfl, rfl⟩

set_option maxHeartbeats 4000000 in
set_option maxRecDepth 100000 in
theorem m_X4_licks_k5 (G : GG) (ro : va_W) (r p v : Nat) (q : Nat → Nat) (D f2 f3 g1 g2 g3 : Nat → Int32) (gc : Int32) (rn : Nat) (x : Int32) (he : (r, ob 5 [.int (nI 5), .int (nI p), .int (nI v), .ref (q 0)]) ∈ ro) (hr : rn + 3 ≤ 20) : Mth G M_X4_licks 3 0 0 [.ref r, .int x] (RW G q 20 D f2 f3 (nI rn) g1 g2 g3 gc) ro (fun r ws' ro' => ∃ (f2' : Nat → Int32), ∃ (f3' : Nat → Int32), r = some (.int (((x + (nI p)) ^^^ (nI p)) - (nI v))) ∧ ws' = (RW G q 20 (upd (upd (upd D rn (nI 2)) (rn + 1) (nI 51)) (rn + 2) (nI 1)) f2' f3' (nI (rn + 3)) g1 g2 g3 gc) ∧ ro = ro') := by
  refine mth_of (by decide +kernel) (Nat.le_of_ble_eq_true rfl) (fun X hC hR => ?_)
  show Ev G X 0 0 0 [(0, .ref r), (1, .int x)] [] (RW G q 20 D f2 f3 (nI rn) g1 g2 g3 gc) ro
  refine ev_aload_n hC dX4_licks_0 rfl 0 rfl ?_
  refine ev_get hC fl_X4_19_5 (mr he) rfl dX4_licks_1 ?_
  refine ev_iconst (v := (nI 2)) hC dX4_licks_4 (by decide) ?_
  refine ev_iconst (v := (nI 0)) hC dX4_licks_5 (by decide) ?_
  refine ev_iconst (v := (nI 0)) hC dX4_licks_6 (by decide) ?_
  refine ev_callV (As := [.int (nI 2), .int (nI 0), .int (nI 0)]) (st := []) (wf := []) hC cv_X4_23 (m_X7_add G ro q 20 rn D f2 f3 g1 g2 g3 gc (nI 2) (nI 0) (nI 0) (by omega) (by omega) (by omega)) (by omega) rfl rfl (Nat.le_of_ble_eq_true rfl) (List.Perm.of_eq (List.append_nil _).symm) (mw 0 rfl) rfl dX4_licks_7 (by omega) (by omega) ?_
  rintro _ _ _ ⟨rfl, rfl, rfl⟩
  refine ev_ws (List.append_nil _) ?_
  show Ev G X 0 0 10 [(0, .ref r), (1, .int x)] [.int (nI (rn + 1))] (RW G q 20 (upd D rn (nI 2)) (upd f2 rn (nI 0)) (upd f3 rn (nI 0)) (nI (rn + 1)) g1 g2 g3 gc) ro
  refine ev_pop hC dX4_licks_10 rfl ?_
  refine ev_aload_n hC dX4_licks_11 rfl 0 rfl ?_
  refine ev_iload_n hC dX4_licks_12 rfl 1 rfl ?_
  refine ev_callU (As := [.int x]) (st := []) (wf := []) hC cu_X4_29_5 (m_X5_wrongs_k5 G ro r p v q (upd D rn (nI 2)) (upd f2 rn (nI 0)) (upd f3 rn (nI 0)) g1 g2 g3 gc (rn + 1) x he (by omega)) (by omega) rfl rfl (Nat.le_of_ble_eq_true rfl) (List.Perm.of_eq (List.append_nil _).symm) (mr he) rfl dX4_licks_13 (by omega) (by omega) ?_
  rintro _ _ _ ⟨f_1, f_2, rfl, rfl, rfl⟩
  refine ev_ws (List.append_nil _) ?_
  show Ev G X 0 0 16 [(0, .ref r), (1, .int x)] [.int ((x + (nI p)) ^^^ (nI p))] (RW G q 20 (upd (upd (upd D rn (nI 2)) (rn + 1) (nI 51)) (rn + 2) (nI 1)) f_1 f_2 (nI (rn + 3)) g1 g2 g3 gc) ro
  refine ev_aload_n hC dX4_licks_16 rfl 0 rfl ?_
  refine ev_get hC fl_X4_16_5 (mr he) rfl dX4_licks_17 ?_
  refine ev_isub hC dX4_licks_20 ?_
  refine ev_iret hC hR rfl dX4_licks_21 ?_
  exact ⟨_, _, rfl, rfl, rfl⟩

set_option maxHeartbeats 4000000 in
set_option maxRecDepth 100000 in
theorem m_X4_licks_k6 (G : GG) (ro : va_W) (r p v : Nat) (q : Nat → Nat) (D f2 f3 g1 g2 g3 : Nat → Int32) (gc : Int32) (rn : Nat) (x : Int32) (he : (r, ob 9 [.int (nI 6), .int (nI p), .int (nI v), .ref (q 0)]) ∈ ro) (hr : rn + 2 ≤ 20) : Mth G M_X4_licks 2 0 0 [.ref r, .int x] (RW G q 20 D f2 f3 (nI rn) g1 g2 g3 gc) ro (fun r ws' ro' => ∃ (f2' : Nat → Int32), ∃ (f3' : Nat → Int32), r = some (.int ((x + (nI p)) - (nI v))) ∧ ws' = (RW G q 20 (upd (upd D rn (nI 2)) (rn + 1) (nI 1)) f2' f3' (nI (rn + 2)) g1 g2 g3 gc) ∧ ro = ro') := by
  refine mth_of (by decide +kernel) (Nat.le_of_ble_eq_true rfl) (fun X hC hR => ?_)
  show Ev G X 0 0 0 [(0, .ref r), (1, .int x)] [] (RW G q 20 D f2 f3 (nI rn) g1 g2 g3 gc) ro
  refine ev_aload_n hC dX4_licks_0 rfl 0 rfl ?_
  refine ev_get hC fl_X4_19_9 (mr he) rfl dX4_licks_1 ?_
  refine ev_iconst (v := (nI 2)) hC dX4_licks_4 (by decide) ?_
  refine ev_iconst (v := (nI 0)) hC dX4_licks_5 (by decide) ?_
  refine ev_iconst (v := (nI 0)) hC dX4_licks_6 (by decide) ?_
  refine ev_callV (As := [.int (nI 2), .int (nI 0), .int (nI 0)]) (st := []) (wf := []) hC cv_X4_23 (m_X7_add G ro q 20 rn D f2 f3 g1 g2 g3 gc (nI 2) (nI 0) (nI 0) (by omega) (by omega) (by omega)) (by omega) rfl rfl (Nat.le_of_ble_eq_true rfl) (List.Perm.of_eq (List.append_nil _).symm) (mw 0 rfl) rfl dX4_licks_7 (by omega) (by omega) ?_
  rintro _ _ _ ⟨rfl, rfl, rfl⟩
  refine ev_ws (List.append_nil _) ?_
  show Ev G X 0 0 10 [(0, .ref r), (1, .int x)] [.int (nI (rn + 1))] (RW G q 20 (upd D rn (nI 2)) (upd f2 rn (nI 0)) (upd f3 rn (nI 0)) (nI (rn + 1)) g1 g2 g3 gc) ro
  refine ev_pop hC dX4_licks_10 rfl ?_
  refine ev_aload_n hC dX4_licks_11 rfl 0 rfl ?_
  refine ev_iload_n hC dX4_licks_12 rfl 1 rfl ?_
  refine ev_callU (As := [.int x]) (st := []) (wf := []) hC cu_X4_29_9 (m_X4_wrongs_k6 G ro r p v q (upd D rn (nI 2)) (upd f2 rn (nI 0)) (upd f3 rn (nI 0)) g1 g2 g3 gc (rn + 1) x he (by omega)) (by omega) rfl rfl (Nat.le_of_ble_eq_true rfl) (List.Perm.of_eq (List.append_nil _).symm) (mr he) rfl dX4_licks_13 (by omega) (by omega) ?_
  rintro _ _ _ ⟨f_1, f_2, rfl, rfl, rfl⟩
  refine ev_ws (List.append_nil _) ?_
  show Ev G X 0 0 16 [(0, .ref r), (1, .int x)] [.int (x + (nI p))] (RW G q 20 (upd (upd D rn (nI 2)) (rn + 1) (nI 1)) f_1 f_2 (nI (rn + 2)) g1 g2 g3 gc) ro
  refine ev_aload_n hC dX4_licks_16 rfl 0 rfl ?_
  refine ev_get hC fl_X4_16_9 (mr he) rfl dX4_licks_17 ?_
  refine ev_isub hC dX4_licks_20 ?_
  refine ev_iret hC hR rfl dX4_licks_21 ?_
  exact ⟨_, _, rfl, rfl, rfl⟩

set_option maxHeartbeats 4000000 in
set_option maxRecDepth 100000 in
theorem m_X0_licks_k2 (G : GG) (ro : va_W) (r p v : Nat) (q : Nat → Nat) (D f2 f3 g1 g2 g3 : Nat → Int32) (gc : Int32) (rn : Nat) (x : Int32) (he : (r, ob 0 [.int (nI 2), .int (nI p), .int (nI v), .ref (q 0)]) ∈ ro) (hr : rn + 3 ≤ 20) : Mth G M_X0_licks 3 0 0 [.ref r, .int x] (RW G q 20 D f2 f3 (nI rn) g1 g2 g3 gc) ro (fun r ws' ro' => ∃ (f2' : Nat → Int32), ∃ (f3' : Nat → Int32), r = some (.int (-((x + (nI p)) - (nI v)))) ∧ ws' = (RW G q 20 (upd (upd (upd D rn (nI 21)) (rn + 1) (nI 2)) (rn + 2) (nI 1)) f2' f3' (nI (rn + 3)) g1 g2 g3 gc) ∧ ro = ro') := by
  refine mth_of (by decide +kernel) (Nat.le_of_ble_eq_true rfl) (fun X hC hR => ?_)
  show Ev G X 0 0 0 [(0, .ref r), (1, .int x)] [] (RW G q 20 D f2 f3 (nI rn) g1 g2 g3 gc) ro
  refine ev_aload_n hC dX0_licks_0 rfl 0 rfl ?_
  refine ev_get hC fl_X0_17_0 (mr he) rfl dX0_licks_1 ?_
  refine ev_bipush (v := (nI 21)) hC dX0_licks_4 (by decide) ?_
  refine ev_iconst (v := (nI 0)) hC dX0_licks_6 (by decide) ?_
  refine ev_iconst (v := (nI 0)) hC dX0_licks_7 (by decide) ?_
  refine ev_callV (As := [.int (nI 21), .int (nI 0), .int (nI 0)]) (st := []) (wf := []) hC cv_X0_21 (m_X7_add G ro q 20 rn D f2 f3 g1 g2 g3 gc (nI 21) (nI 0) (nI 0) (by omega) (by omega) (by omega)) (by omega) rfl rfl (Nat.le_of_ble_eq_true rfl) (List.Perm.of_eq (List.append_nil _).symm) (mw 0 rfl) rfl dX0_licks_8 (by omega) (by omega) ?_
  rintro _ _ _ ⟨rfl, rfl, rfl⟩
  refine ev_ws (List.append_nil _) ?_
  show Ev G X 0 0 11 [(0, .ref r), (1, .int x)] [.int (nI (rn + 1))] (RW G q 20 (upd D rn (nI 21)) (upd f2 rn (nI 0)) (upd f3 rn (nI 0)) (nI (rn + 1)) g1 g2 g3 gc) ro
  refine ev_pop hC dX0_licks_11 rfl ?_
  refine ev_aload_n hC dX0_licks_12 rfl 0 rfl ?_
  refine ev_iload_n hC dX0_licks_13 rfl 1 rfl ?_
  refine ev_callSU (As := [.int x]) (st := []) (wf := []) hC cs_X0_27 (m_X4_licks_k2 G ro r p v q (upd D rn (nI 21)) (upd f2 rn (nI 0)) (upd f3 rn (nI 0)) g1 g2 g3 gc (rn + 1) x he (by omega)) (by omega) rfl rfl (Nat.le_of_ble_eq_true rfl) (List.Perm.of_eq (List.append_nil _).symm) (mr he) rfl dX0_licks_14 (by omega) (by omega) ?_
  rintro _ _ _ ⟨f_1, f_2, rfl, rfl, rfl⟩
  refine ev_ws (List.append_nil _) ?_
  show Ev G X 0 0 17 [(0, .ref r), (1, .int x)] [.int ((x + (nI p)) - (nI v))] (RW G q 20 (upd (upd (upd D rn (nI 21)) (rn + 1) (nI 2)) (rn + 2) (nI 1)) f_1 f_2 (nI (rn + 3)) g1 g2 g3 gc) ro
  refine ev_ineg hC dX0_licks_17 ?_
  refine ev_iret hC hR rfl dX0_licks_18 ?_
  exact ⟨_, _, rfl, rfl, rfl⟩

set_option maxHeartbeats 4000000 in
set_option maxRecDepth 100000 in
theorem m_X0_licks_k5 (G : GG) (ro : va_W) (r p v : Nat) (q : Nat → Nat) (D f2 f3 g1 g2 g3 : Nat → Int32) (gc : Int32) (rn : Nat) (x : Int32) (he : (r, ob 5 [.int (nI 5), .int (nI p), .int (nI v), .ref (q 0)]) ∈ ro) (hr : rn + 4 ≤ 20) : Mth G M_X0_licks 4 0 0 [.ref r, .int x] (RW G q 20 D f2 f3 (nI rn) g1 g2 g3 gc) ro (fun r ws' ro' => ∃ (f2' : Nat → Int32), ∃ (f3' : Nat → Int32), r = some (.int (-(((x + (nI p)) ^^^ (nI p)) - (nI v)))) ∧ ws' = (RW G q 20 (upd (upd (upd (upd D rn (nI 21)) (rn + 1) (nI 2)) (rn + 2) (nI 51)) (rn + 3) (nI 1)) f2' f3' (nI (rn + 4)) g1 g2 g3 gc) ∧ ro = ro') := by
  refine mth_of (by decide +kernel) (Nat.le_of_ble_eq_true rfl) (fun X hC hR => ?_)
  show Ev G X 0 0 0 [(0, .ref r), (1, .int x)] [] (RW G q 20 D f2 f3 (nI rn) g1 g2 g3 gc) ro
  refine ev_aload_n hC dX0_licks_0 rfl 0 rfl ?_
  refine ev_get hC fl_X0_17_5 (mr he) rfl dX0_licks_1 ?_
  refine ev_bipush (v := (nI 21)) hC dX0_licks_4 (by decide) ?_
  refine ev_iconst (v := (nI 0)) hC dX0_licks_6 (by decide) ?_
  refine ev_iconst (v := (nI 0)) hC dX0_licks_7 (by decide) ?_
  refine ev_callV (As := [.int (nI 21), .int (nI 0), .int (nI 0)]) (st := []) (wf := []) hC cv_X0_21 (m_X7_add G ro q 20 rn D f2 f3 g1 g2 g3 gc (nI 21) (nI 0) (nI 0) (by omega) (by omega) (by omega)) (by omega) rfl rfl (Nat.le_of_ble_eq_true rfl) (List.Perm.of_eq (List.append_nil _).symm) (mw 0 rfl) rfl dX0_licks_8 (by omega) (by omega) ?_
  rintro _ _ _ ⟨rfl, rfl, rfl⟩
  refine ev_ws (List.append_nil _) ?_
  show Ev G X 0 0 11 [(0, .ref r), (1, .int x)] [.int (nI (rn + 1))] (RW G q 20 (upd D rn (nI 21)) (upd f2 rn (nI 0)) (upd f3 rn (nI 0)) (nI (rn + 1)) g1 g2 g3 gc) ro
  refine ev_pop hC dX0_licks_11 rfl ?_
  refine ev_aload_n hC dX0_licks_12 rfl 0 rfl ?_
  refine ev_iload_n hC dX0_licks_13 rfl 1 rfl ?_
  refine ev_callSU (As := [.int x]) (st := []) (wf := []) hC cs_X0_27 (m_X4_licks_k5 G ro r p v q (upd D rn (nI 21)) (upd f2 rn (nI 0)) (upd f3 rn (nI 0)) g1 g2 g3 gc (rn + 1) x he (by omega)) (by omega) rfl rfl (Nat.le_of_ble_eq_true rfl) (List.Perm.of_eq (List.append_nil _).symm) (mr he) rfl dX0_licks_14 (by omega) (by omega) ?_
  rintro _ _ _ ⟨f_1, f_2, rfl, rfl, rfl⟩
  refine ev_ws (List.append_nil _) ?_
  show Ev G X 0 0 17 [(0, .ref r), (1, .int x)] [.int (((x + (nI p)) ^^^ (nI p)) - (nI v))] (RW G q 20 (upd (upd (upd (upd D rn (nI 21)) (rn + 1) (nI 2)) (rn + 2) (nI 51)) (rn + 3) (nI 1)) f_1 f_2 (nI (rn + 4)) g1 g2 g3 gc) ro
  refine ev_ineg hC dX0_licks_17 ?_
  refine ev_iret hC hR rfl dX0_licks_18 ?_
  exact ⟨_, _, rfl, rfl, rfl⟩

set_option maxHeartbeats 4000000 in
set_option maxRecDepth 100000 in
theorem m_X9_licks_k6 (G : GG) (ro : va_W) (r p v : Nat) (q : Nat → Nat) (D f2 f3 g1 g2 g3 : Nat → Int32) (gc : Int32) (rn : Nat) (x : Int32) (he : (r, ob 9 [.int (nI 6), .int (nI p), .int (nI v), .ref (q 0)]) ∈ ro) (hr : rn + 3 ≤ 20) : Mth G M_X9_licks 3 0 0 [.ref r, .int x] (RW G q 20 D f2 f3 (nI rn) g1 g2 g3 gc) ro (fun r ws' ro' => ∃ (f2' : Nat → Int32), ∃ (f3' : Nat → Int32), r = some (.int (((x + (nI p)) - (nI v)) + (nI v))) ∧ ws' = (RW G q 20 (upd (upd (upd D rn (nI 61)) (rn + 1) (nI 2)) (rn + 2) (nI 1)) f2' f3' (nI (rn + 3)) g1 g2 g3 gc) ∧ ro = ro') := by
  refine mth_of (by decide +kernel) (Nat.le_of_ble_eq_true rfl) (fun X hC hR => ?_)
  show Ev G X 0 0 0 [(0, .ref r), (1, .int x)] [] (RW G q 20 D f2 f3 (nI rn) g1 g2 g3 gc) ro
  refine ev_aload_n hC dX9_licks_0 rfl 0 rfl ?_
  refine ev_get hC fl_X9_11_9 (mr he) rfl dX9_licks_1 ?_
  refine ev_bipush (v := (nI 61)) hC dX9_licks_4 (by decide) ?_
  refine ev_iconst (v := (nI 0)) hC dX9_licks_6 (by decide) ?_
  refine ev_iconst (v := (nI 0)) hC dX9_licks_7 (by decide) ?_
  refine ev_callV (As := [.int (nI 61), .int (nI 0), .int (nI 0)]) (st := []) (wf := []) hC cv_X9_17 (m_X7_add G ro q 20 rn D f2 f3 g1 g2 g3 gc (nI 61) (nI 0) (nI 0) (by omega) (by omega) (by omega)) (by omega) rfl rfl (Nat.le_of_ble_eq_true rfl) (List.Perm.of_eq (List.append_nil _).symm) (mw 0 rfl) rfl dX9_licks_8 (by omega) (by omega) ?_
  rintro _ _ _ ⟨rfl, rfl, rfl⟩
  refine ev_ws (List.append_nil _) ?_
  show Ev G X 0 0 11 [(0, .ref r), (1, .int x)] [.int (nI (rn + 1))] (RW G q 20 (upd D rn (nI 61)) (upd f2 rn (nI 0)) (upd f3 rn (nI 0)) (nI (rn + 1)) g1 g2 g3 gc) ro
  refine ev_pop hC dX9_licks_11 rfl ?_
  refine ev_aload_n hC dX9_licks_12 rfl 0 rfl ?_
  refine ev_iload_n hC dX9_licks_13 rfl 1 rfl ?_
  refine ev_callSW (As := [.int x]) (st := []) (wf := []) hC cw_X9_23 (m_X4_licks_k6 G ro r p v q (upd D rn (nI 61)) (upd f2 rn (nI 0)) (upd f3 rn (nI 0)) g1 g2 g3 gc (rn + 1) x he (by omega)) (by omega) rfl rfl (Nat.le_of_ble_eq_true rfl) (List.Perm.of_eq (List.append_nil _).symm) (mr he) rfl dX9_licks_14 (by omega) (by omega) ?_
  rintro _ _ _ ⟨f_1, f_2, rfl, rfl, rfl⟩
  refine ev_ws (List.append_nil _) ?_
  show Ev G X 0 0 17 [(0, .ref r), (1, .int x)] [.int ((x + (nI p)) - (nI v))] (RW G q 20 (upd (upd (upd D rn (nI 61)) (rn + 1) (nI 2)) (rn + 2) (nI 1)) f_1 f_2 (nI (rn + 3)) g1 g2 g3 gc) ro
  refine ev_aload_n hC dX9_licks_17 rfl 0 rfl ?_
  refine ev_get hC fl_X9_27_9 (mr he) rfl dX9_licks_18 ?_
  refine ev_iadd hC dX9_licks_21 ?_
  refine ev_iret hC hR rfl dX9_licks_22 ?_
  exact ⟨_, _, rfl, rfl, rfl⟩

set_option maxHeartbeats 4000000 in
set_option maxRecDepth 100000 in
theorem m_X4_tells_k0 (G : GG) (ro : va_W) (r p v : Nat) (q : Nat → Nat) (D f2 f3 g1 g2 g3 : Nat → Int32) (gc : Int32) (rn : Nat) (x : Int32) (he : (r, ob 4 [.int (nI 0), .int (nI p), .int (nI v), .ref (q 0)]) ∈ ro) (hr : rn + 3 ≤ 20) : Mth G M_X4_tells 3 0 0 [.ref r, .int x] (RW G q 20 D f2 f3 (nI rn) g1 g2 g3 gc) ro (fun r ws' ro' => ∃ (f2' : Nat → Int32), ∃ (f3' : Nat → Int32), r = some (.int (((x + (nI p)) - (nI v)) * (nI 2))) ∧ ws' = (RW G q 20 (upd (upd (upd D rn (nI 3)) (rn + 1) (nI 2)) (rn + 2) (nI 1)) f2' f3' (nI (rn + 3)) g1 g2 g3 gc) ∧ ro = ro') := by
  refine mth_of (by decide +kernel) (Nat.le_of_ble_eq_true rfl) (fun X hC hR => ?_)
  show Ev G X 0 0 0 [(0, .ref r), (1, .int x)] [] (RW G q 20 D f2 f3 (nI rn) g1 g2 g3 gc) ro
  refine ev_aload_n hC dX4_tells_0 rfl 0 rfl ?_
  refine ev_get hC fl_X4_19_4 (mr he) rfl dX4_tells_1 ?_
  refine ev_iconst (v := (nI 3)) hC dX4_tells_4 (by decide) ?_
  refine ev_iconst (v := (nI 0)) hC dX4_tells_5 (by decide) ?_
  refine ev_iconst (v := (nI 0)) hC dX4_tells_6 (by decide) ?_
  refine ev_callV (As := [.int (nI 3), .int (nI 0), .int (nI 0)]) (st := []) (wf := []) hC cv_X4_23 (m_X7_add G ro q 20 rn D f2 f3 g1 g2 g3 gc (nI 3) (nI 0) (nI 0) (by omega) (by omega) (by omega)) (by omega) rfl rfl (Nat.le_of_ble_eq_true rfl) (List.Perm.of_eq (List.append_nil _).symm) (mw 0 rfl) rfl dX4_tells_7 (by omega) (by omega) ?_
  rintro _ _ _ ⟨rfl, rfl, rfl⟩
  refine ev_ws (List.append_nil _) ?_
  show Ev G X 0 0 10 [(0, .ref r), (1, .int x)] [.int (nI (rn + 1))] (RW G q 20 (upd D rn (nI 3)) (upd f2 rn (nI 0)) (upd f3 rn (nI 0)) (nI (rn + 1)) g1 g2 g3 gc) ro
  refine ev_pop hC dX4_tells_10 rfl ?_
  refine ev_aload_n hC dX4_tells_11 rfl 0 rfl ?_
  refine ev_iload_n hC dX4_tells_12 rfl 1 rfl ?_
  refine ev_callU (As := [.int x]) (st := []) (wf := []) hC cu_X4_33_4 (m_X4_licks_k0 G ro r p v q (upd D rn (nI 3)) (upd f2 rn (nI 0)) (upd f3 rn (nI 0)) g1 g2 g3 gc (rn + 1) x he (by omega)) (by omega) rfl rfl (Nat.le_of_ble_eq_true rfl) (List.Perm.of_eq (List.append_nil _).symm) (mr he) rfl dX4_tells_13 (by omega) (by omega) ?_
  rintro _ _ _ ⟨f_1, f_2, rfl, rfl, rfl⟩
  refine ev_ws (List.append_nil _) ?_
  show Ev G X 0 0 16 [(0, .ref r), (1, .int x)] [.int ((x + (nI p)) - (nI v))] (RW G q 20 (upd (upd (upd D rn (nI 3)) (rn + 1) (nI 2)) (rn + 2) (nI 1)) f_1 f_2 (nI (rn + 3)) g1 g2 g3 gc) ro
  refine ev_iconst (v := (nI 2)) hC dX4_tells_16 (by decide) ?_
  refine ev_imul hC dX4_tells_17 ?_
  refine ev_iret hC hR rfl dX4_tells_18 ?_
  exact ⟨_, _, rfl, rfl, rfl⟩

set_option maxHeartbeats 4000000 in
set_option maxRecDepth 100000 in
theorem m_X4_tells_k1 (G : GG) (ro : va_W) (r p v : Nat) (q : Nat → Nat) (D f2 f3 g1 g2 g3 : Nat → Int32) (gc : Int32) (rn : Nat) (x : Int32) (he : (r, ob 1 [.int (nI 1), .int (nI p), .int (nI v), .ref (q 0)]) ∈ ro) (hr : rn + 4 ≤ 20) : Mth G M_X4_tells 4 0 0 [.ref r, .int x] (RW G q 20 D f2 f3 (nI rn) g1 g2 g3 gc) ro (fun r ws' ro' => ∃ (f2' : Nat → Int32), ∃ (f3' : Nat → Int32), r = some (.int ((((x * (nI 3)) + (nI p)) - (nI v)) * (nI 2))) ∧ ws' = (RW G q 20 (upd (upd (upd (upd D rn (nI 3)) (rn + 1) (nI 2)) (rn + 2) (nI 11)) (rn + 3) (nI 1)) f2' f3' (nI (rn + 4)) g1 g2 g3 gc) ∧ ro = ro') := by
  refine mth_of (by decide +kernel) (Nat.le_of_ble_eq_true rfl) (fun X hC hR => ?_)
  show Ev G X 0 0 0 [(0, .ref r), (1, .int x)] [] (RW G q 20 D f2 f3 (nI rn) g1 g2 g3 gc) ro
  refine ev_aload_n hC dX4_tells_0 rfl 0 rfl ?_
  refine ev_get hC fl_X4_19_1 (mr he) rfl dX4_tells_1 ?_
  refine ev_iconst (v := (nI 3)) hC dX4_tells_4 (by decide) ?_
  refine ev_iconst (v := (nI 0)) hC dX4_tells_5 (by decide) ?_
  refine ev_iconst (v := (nI 0)) hC dX4_tells_6 (by decide) ?_
  refine ev_callV (As := [.int (nI 3), .int (nI 0), .int (nI 0)]) (st := []) (wf := []) hC cv_X4_23 (m_X7_add G ro q 20 rn D f2 f3 g1 g2 g3 gc (nI 3) (nI 0) (nI 0) (by omega) (by omega) (by omega)) (by omega) rfl rfl (Nat.le_of_ble_eq_true rfl) (List.Perm.of_eq (List.append_nil _).symm) (mw 0 rfl) rfl dX4_tells_7 (by omega) (by omega) ?_
  rintro _ _ _ ⟨rfl, rfl, rfl⟩
  refine ev_ws (List.append_nil _) ?_
  show Ev G X 0 0 10 [(0, .ref r), (1, .int x)] [.int (nI (rn + 1))] (RW G q 20 (upd D rn (nI 3)) (upd f2 rn (nI 0)) (upd f3 rn (nI 0)) (nI (rn + 1)) g1 g2 g3 gc) ro
  refine ev_pop hC dX4_tells_10 rfl ?_
  refine ev_aload_n hC dX4_tells_11 rfl 0 rfl ?_
  refine ev_iload_n hC dX4_tells_12 rfl 1 rfl ?_
  refine ev_callU (As := [.int x]) (st := []) (wf := []) hC cu_X4_33_1 (m_X4_licks_k1 G ro r p v q (upd D rn (nI 3)) (upd f2 rn (nI 0)) (upd f3 rn (nI 0)) g1 g2 g3 gc (rn + 1) x he (by omega)) (by omega) rfl rfl (Nat.le_of_ble_eq_true rfl) (List.Perm.of_eq (List.append_nil _).symm) (mr he) rfl dX4_tells_13 (by omega) (by omega) ?_
  rintro _ _ _ ⟨f_1, f_2, rfl, rfl, rfl⟩
  refine ev_ws (List.append_nil _) ?_
  show Ev G X 0 0 16 [(0, .ref r), (1, .int x)] [.int (((x * (nI 3)) + (nI p)) - (nI v))] (RW G q 20 (upd (upd (upd (upd D rn (nI 3)) (rn + 1) (nI 2)) (rn + 2) (nI 11)) (rn + 3) (nI 1)) f_1 f_2 (nI (rn + 4)) g1 g2 g3 gc) ro
  refine ev_iconst (v := (nI 2)) hC dX4_tells_16 (by decide) ?_
  refine ev_imul hC dX4_tells_17 ?_
  refine ev_iret hC hR rfl dX4_tells_18 ?_
  exact ⟨_, _, rfl, rfl, rfl⟩

set_option maxHeartbeats 4000000 in
set_option maxRecDepth 100000 in
theorem m_X4_tells_k2 (G : GG) (ro : va_W) (r p v : Nat) (q : Nat → Nat) (D f2 f3 g1 g2 g3 : Nat → Int32) (gc : Int32) (rn : Nat) (x : Int32) (he : (r, ob 0 [.int (nI 2), .int (nI p), .int (nI v), .ref (q 0)]) ∈ ro) (hr : rn + 4 ≤ 20) : Mth G M_X4_tells 4 0 0 [.ref r, .int x] (RW G q 20 D f2 f3 (nI rn) g1 g2 g3 gc) ro (fun r ws' ro' => ∃ (f2' : Nat → Int32), ∃ (f3' : Nat → Int32), r = some (.int ((-((x + (nI p)) - (nI v))) * (nI 2))) ∧ ws' = (RW G q 20 (upd (upd (upd (upd D rn (nI 3)) (rn + 1) (nI 21)) (rn + 2) (nI 2)) (rn + 3) (nI 1)) f2' f3' (nI (rn + 4)) g1 g2 g3 gc) ∧ ro = ro') := by
  refine mth_of (by decide +kernel) (Nat.le_of_ble_eq_true rfl) (fun X hC hR => ?_)
  show Ev G X 0 0 0 [(0, .ref r), (1, .int x)] [] (RW G q 20 D f2 f3 (nI rn) g1 g2 g3 gc) ro
  refine ev_aload_n hC dX4_tells_0 rfl 0 rfl ?_
  refine ev_get hC fl_X4_19_0 (mr he) rfl dX4_tells_1 ?_
  refine ev_iconst (v := (nI 3)) hC dX4_tells_4 (by decide) ?_
  refine ev_iconst (v := (nI 0)) hC dX4_tells_5 (by decide) ?_
  refine ev_iconst (v := (nI 0)) hC dX4_tells_6 (by decide) ?_
  refine ev_callV (As := [.int (nI 3), .int (nI 0), .int (nI 0)]) (st := []) (wf := []) hC cv_X4_23 (m_X7_add G ro q 20 rn D f2 f3 g1 g2 g3 gc (nI 3) (nI 0) (nI 0) (by omega) (by omega) (by omega)) (by omega) rfl rfl (Nat.le_of_ble_eq_true rfl) (List.Perm.of_eq (List.append_nil _).symm) (mw 0 rfl) rfl dX4_tells_7 (by omega) (by omega) ?_
  rintro _ _ _ ⟨rfl, rfl, rfl⟩
  refine ev_ws (List.append_nil _) ?_
  show Ev G X 0 0 10 [(0, .ref r), (1, .int x)] [.int (nI (rn + 1))] (RW G q 20 (upd D rn (nI 3)) (upd f2 rn (nI 0)) (upd f3 rn (nI 0)) (nI (rn + 1)) g1 g2 g3 gc) ro
  refine ev_pop hC dX4_tells_10 rfl ?_
  refine ev_aload_n hC dX4_tells_11 rfl 0 rfl ?_
  refine ev_iload_n hC dX4_tells_12 rfl 1 rfl ?_
  refine ev_callU (As := [.int x]) (st := []) (wf := []) hC cu_X4_33_0 (m_X0_licks_k2 G ro r p v q (upd D rn (nI 3)) (upd f2 rn (nI 0)) (upd f3 rn (nI 0)) g1 g2 g3 gc (rn + 1) x he (by omega)) (by omega) rfl rfl (Nat.le_of_ble_eq_true rfl) (List.Perm.of_eq (List.append_nil _).symm) (mr he) rfl dX4_tells_13 (by omega) (by omega) ?_
  rintro _ _ _ ⟨f_1, f_2, rfl, rfl, rfl⟩
  refine ev_ws (List.append_nil _) ?_
  show Ev G X 0 0 16 [(0, .ref r), (1, .int x)] [.int (-((x + (nI p)) - (nI v)))] (RW G q 20 (upd (upd (upd (upd D rn (nI 3)) (rn + 1) (nI 21)) (rn + 2) (nI 2)) (rn + 3) (nI 1)) f_1 f_2 (nI (rn + 4)) g1 g2 g3 gc) ro
  refine ev_iconst (v := (nI 2)) hC dX4_tells_16 (by decide) ?_
  refine ev_imul hC dX4_tells_17 ?_
  refine ev_iret hC hR rfl dX4_tells_18 ?_
  exact ⟨_, _, rfl, rfl, rfl⟩

set_option maxHeartbeats 4000000 in
set_option maxRecDepth 100000 in
theorem m_X4_tells_k3 (G : GG) (ro : va_W) (r p v : Nat) (q : Nat → Nat) (D f2 f3 g1 g2 g3 : Nat → Int32) (gc : Int32) (rn : Nat) (x : Int32) (he : (r, ob 8 [.int (nI 3), .int (nI p), .int (nI v), .ref (q 0)]) ∈ ro) (hr : rn + 3 ≤ 20) : Mth G M_X4_tells 3 0 0 [.ref r, .int x] (RW G q 20 D f2 f3 (nI rn) g1 g2 g3 gc) ro (fun r ws' ro' => ∃ (f2' : Nat → Int32), ∃ (f3' : Nat → Int32), r = some (.int (((x + (nI p)) - (nI v)) * (nI 2))) ∧ ws' = (RW G q 20 (upd (upd (upd D rn (nI 3)) (rn + 1) (nI 2)) (rn + 2) (nI 1)) f2' f3' (nI (rn + 3)) g1 g2 g3 gc) ∧ ro = ro') := by
  refine mth_of (by decide +kernel) (Nat.le_of_ble_eq_true rfl) (fun X hC hR => ?_)
  show Ev G X 0 0 0 [(0, .ref r), (1, .int x)] [] (RW G q 20 D f2 f3 (nI rn) g1 g2 g3 gc) ro
  refine ev_aload_n hC dX4_tells_0 rfl 0 rfl ?_
  refine ev_get hC fl_X4_19_8 (mr he) rfl dX4_tells_1 ?_
  refine ev_iconst (v := (nI 3)) hC dX4_tells_4 (by decide) ?_
  refine ev_iconst (v := (nI 0)) hC dX4_tells_5 (by decide) ?_
  refine ev_iconst (v := (nI 0)) hC dX4_tells_6 (by decide) ?_
  refine ev_callV (As := [.int (nI 3), .int (nI 0), .int (nI 0)]) (st := []) (wf := []) hC cv_X4_23 (m_X7_add G ro q 20 rn D f2 f3 g1 g2 g3 gc (nI 3) (nI 0) (nI 0) (by omega) (by omega) (by omega)) (by omega) rfl rfl (Nat.le_of_ble_eq_true rfl) (List.Perm.of_eq (List.append_nil _).symm) (mw 0 rfl) rfl dX4_tells_7 (by omega) (by omega) ?_
  rintro _ _ _ ⟨rfl, rfl, rfl⟩
  refine ev_ws (List.append_nil _) ?_
  show Ev G X 0 0 10 [(0, .ref r), (1, .int x)] [.int (nI (rn + 1))] (RW G q 20 (upd D rn (nI 3)) (upd f2 rn (nI 0)) (upd f3 rn (nI 0)) (nI (rn + 1)) g1 g2 g3 gc) ro
  refine ev_pop hC dX4_tells_10 rfl ?_
  refine ev_aload_n hC dX4_tells_11 rfl 0 rfl ?_
  refine ev_iload_n hC dX4_tells_12 rfl 1 rfl ?_
  refine ev_callU (As := [.int x]) (st := []) (wf := []) hC cu_X4_33_8 (m_X4_licks_k3 G ro r p v q (upd D rn (nI 3)) (upd f2 rn (nI 0)) (upd f3 rn (nI 0)) g1 g2 g3 gc (rn + 1) x he (by omega)) (by omega) rfl rfl (Nat.le_of_ble_eq_true rfl) (List.Perm.of_eq (List.append_nil _).symm) (mr he) rfl dX4_tells_13 (by omega) (by omega) ?_
  rintro _ _ _ ⟨f_1, f_2, rfl, rfl, rfl⟩
  refine ev_ws (List.append_nil _) ?_
  show Ev G X 0 0 16 [(0, .ref r), (1, .int x)] [.int ((x + (nI p)) - (nI v))] (RW G q 20 (upd (upd (upd D rn (nI 3)) (rn + 1) (nI 2)) (rn + 2) (nI 1)) f_1 f_2 (nI (rn + 3)) g1 g2 g3 gc) ro
  refine ev_iconst (v := (nI 2)) hC dX4_tells_16 (by decide) ?_
  refine ev_imul hC dX4_tells_17 ?_
  refine ev_iret hC hR rfl dX4_tells_18 ?_
  exact ⟨_, _, rfl, rfl, rfl⟩

set_option maxHeartbeats 4000000 in
set_option maxRecDepth 100000 in
theorem m_X4_tells_k4 (G : GG) (ro : va_W) (r p v : Nat) (q : Nat → Nat) (D f2 f3 g1 g2 g3 : Nat → Int32) (gc : Int32) (rn : Nat) (x : Int32) (he : (r, ob 2 [.int (nI 4), .int (nI p), .int (nI v), .ref (q 0)]) ∈ ro) (hr : rn + 4 ≤ 20) : Mth G M_X4_tells 4 0 0 [.ref r, .int x] (RW G q 20 D f2 f3 (nI rn) g1 g2 g3 gc) ro (fun r ws' ro' => ∃ (f2' : Nat → Int32), ∃ (f3' : Nat → Int32), r = some (.int ((((x * (nI 3)) + (nI p)) - (nI v)) * (nI 2))) ∧ ws' = (RW G q 20 (upd (upd (upd (upd D rn (nI 3)) (rn + 1) (nI 2)) (rn + 2) (nI 11)) (rn + 3) (nI 1)) f2' f3' (nI (rn + 4)) g1 g2 g3 gc) ∧ ro = ro') := by
  refine mth_of (by decide +kernel) (Nat.le_of_ble_eq_true rfl) (fun X hC hR => ?_)
  show Ev G X 0 0 0 [(0, .ref r), (1, .int x)] [] (RW G q 20 D f2 f3 (nI rn) g1 g2 g3 gc) ro
  refine ev_aload_n hC dX4_tells_0 rfl 0 rfl ?_
  refine ev_get hC fl_X4_19_2 (mr he) rfl dX4_tells_1 ?_
  refine ev_iconst (v := (nI 3)) hC dX4_tells_4 (by decide) ?_
  refine ev_iconst (v := (nI 0)) hC dX4_tells_5 (by decide) ?_
  refine ev_iconst (v := (nI 0)) hC dX4_tells_6 (by decide) ?_
  refine ev_callV (As := [.int (nI 3), .int (nI 0), .int (nI 0)]) (st := []) (wf := []) hC cv_X4_23 (m_X7_add G ro q 20 rn D f2 f3 g1 g2 g3 gc (nI 3) (nI 0) (nI 0) (by omega) (by omega) (by omega)) (by omega) rfl rfl (Nat.le_of_ble_eq_true rfl) (List.Perm.of_eq (List.append_nil _).symm) (mw 0 rfl) rfl dX4_tells_7 (by omega) (by omega) ?_
  rintro _ _ _ ⟨rfl, rfl, rfl⟩
  refine ev_ws (List.append_nil _) ?_
  show Ev G X 0 0 10 [(0, .ref r), (1, .int x)] [.int (nI (rn + 1))] (RW G q 20 (upd D rn (nI 3)) (upd f2 rn (nI 0)) (upd f3 rn (nI 0)) (nI (rn + 1)) g1 g2 g3 gc) ro
  refine ev_pop hC dX4_tells_10 rfl ?_
  refine ev_aload_n hC dX4_tells_11 rfl 0 rfl ?_
  refine ev_iload_n hC dX4_tells_12 rfl 1 rfl ?_
  refine ev_callU (As := [.int x]) (st := []) (wf := []) hC cu_X4_33_2 (m_X4_licks_k4 G ro r p v q (upd D rn (nI 3)) (upd f2 rn (nI 0)) (upd f3 rn (nI 0)) g1 g2 g3 gc (rn + 1) x he (by omega)) (by omega) rfl rfl (Nat.le_of_ble_eq_true rfl) (List.Perm.of_eq (List.append_nil _).symm) (mr he) rfl dX4_tells_13 (by omega) (by omega) ?_
  rintro _ _ _ ⟨f_1, f_2, rfl, rfl, rfl⟩
  refine ev_ws (List.append_nil _) ?_
  show Ev G X 0 0 16 [(0, .ref r), (1, .int x)] [.int (((x * (nI 3)) + (nI p)) - (nI v))] (RW G q 20 (upd (upd (upd (upd D rn (nI 3)) (rn + 1) (nI 2)) (rn + 2) (nI 11)) (rn + 3) (nI 1)) f_1 f_2 (nI (rn + 4)) g1 g2 g3 gc) ro
  refine ev_iconst (v := (nI 2)) hC dX4_tells_16 (by decide) ?_
  refine ev_imul hC dX4_tells_17 ?_
  refine ev_iret hC hR rfl dX4_tells_18 ?_
  exact ⟨_, _, rfl, rfl, rfl⟩

set_option maxHeartbeats 4000000 in
set_option maxRecDepth 100000 in
theorem m_X4_tells_k5 (G : GG) (ro : va_W) (r p v : Nat) (q : Nat → Nat) (D f2 f3 g1 g2 g3 : Nat → Int32) (gc : Int32) (rn : Nat) (x : Int32) (he : (r, ob 5 [.int (nI 5), .int (nI p), .int (nI v), .ref (q 0)]) ∈ ro) (hr : rn + 5 ≤ 20) : Mth G M_X4_tells 5 0 0 [.ref r, .int x] (RW G q 20 D f2 f3 (nI rn) g1 g2 g3 gc) ro (fun r ws' ro' => ∃ (f2' : Nat → Int32), ∃ (f3' : Nat → Int32), r = some (.int ((-(((x + (nI p)) ^^^ (nI p)) - (nI v))) * (nI 2))) ∧ ws' = (RW G q 20 (upd (upd (upd (upd (upd D rn (nI 3)) (rn + 1) (nI 21)) (rn + 2) (nI 2)) (rn + 3) (nI 51)) (rn + 4) (nI 1)) f2' f3' (nI (rn + 5)) g1 g2 g3 gc) ∧ ro = ro') := by
  refine mth_of (by decide +kernel) (Nat.le_of_ble_eq_true rfl) (fun X hC hR => ?_)
  show Ev G X 0 0 0 [(0, .ref r), (1, .int x)] [] (RW G q 20 D f2 f3 (nI rn) g1 g2 g3 gc) ro
  refine ev_aload_n hC dX4_tells_0 rfl 0 rfl ?_
  refine ev_get hC fl_X4_19_5 (mr he) rfl dX4_tells_1 ?_
  refine ev_iconst (v := (nI 3)) hC dX4_tells_4 (by decide) ?_
  refine ev_iconst (v := (nI 0)) hC dX4_tells_5 (by decide) ?_
  refine ev_iconst (v := (nI 0)) hC dX4_tells_6 (by decide) ?_
  refine ev_callV (As := [.int (nI 3), .int (nI 0), .int (nI 0)]) (st := []) (wf := []) hC cv_X4_23 (m_X7_add G ro q 20 rn D f2 f3 g1 g2 g3 gc (nI 3) (nI 0) (nI 0) (by omega) (by omega) (by omega)) (by omega) rfl rfl (Nat.le_of_ble_eq_true rfl) (List.Perm.of_eq (List.append_nil _).symm) (mw 0 rfl) rfl dX4_tells_7 (by omega) (by omega) ?_
  rintro _ _ _ ⟨rfl, rfl, rfl⟩
  refine ev_ws (List.append_nil _) ?_
  show Ev G X 0 0 10 [(0, .ref r), (1, .int x)] [.int (nI (rn + 1))] (RW G q 20 (upd D rn (nI 3)) (upd f2 rn (nI 0)) (upd f3 rn (nI 0)) (nI (rn + 1)) g1 g2 g3 gc) ro
  refine ev_pop hC dX4_tells_10 rfl ?_
  refine ev_aload_n hC dX4_tells_11 rfl 0 rfl ?_
  refine ev_iload_n hC dX4_tells_12 rfl 1 rfl ?_
  refine ev_callU (As := [.int x]) (st := []) (wf := []) hC cu_X4_33_5 (m_X0_licks_k5 G ro r p v q (upd D rn (nI 3)) (upd f2 rn (nI 0)) (upd f3 rn (nI 0)) g1 g2 g3 gc (rn + 1) x he (by omega)) (by omega) rfl rfl (Nat.le_of_ble_eq_true rfl) (List.Perm.of_eq (List.append_nil _).symm) (mr he) rfl dX4_tells_13 (by omega) (by omega) ?_
  rintro _ _ _ ⟨f_1, f_2, rfl, rfl, rfl⟩
  refine ev_ws (List.append_nil _) ?_
  show Ev G X 0 0 16 [(0, .ref r), (1, .int x)] [.int (-(((x + (nI p)) ^^^ (nI p)) - (nI v)))] (RW G q 20 (upd (upd (upd (upd (upd D rn (nI 3)) (rn + 1) (nI 21)) (rn + 2) (nI 2)) (rn + 3) (nI 51)) (rn + 4) (nI 1)) f_1 f_2 (nI (rn + 5)) g1 g2 g3 gc) ro
  refine ev_iconst (v := (nI 2)) hC dX4_tells_16 (by decide) ?_
  refine ev_imul hC dX4_tells_17 ?_
  refine ev_iret hC hR rfl dX4_tells_18 ?_
  exact ⟨_, _, rfl, rfl, rfl⟩

set_option maxHeartbeats 4000000 in
set_option maxRecDepth 100000 in
theorem m_X4_tells_k6 (G : GG) (ro : va_W) (r p v : Nat) (q : Nat → Nat) (D f2 f3 g1 g2 g3 : Nat → Int32) (gc : Int32) (rn : Nat) (x : Int32) (he : (r, ob 9 [.int (nI 6), .int (nI p), .int (nI v), .ref (q 0)]) ∈ ro) (hr : rn + 4 ≤ 20) : Mth G M_X4_tells 4 0 0 [.ref r, .int x] (RW G q 20 D f2 f3 (nI rn) g1 g2 g3 gc) ro (fun r ws' ro' => ∃ (f2' : Nat → Int32), ∃ (f3' : Nat → Int32), r = some (.int ((((x + (nI p)) - (nI v)) + (nI v)) * (nI 2))) ∧ ws' = (RW G q 20 (upd (upd (upd (upd D rn (nI 3)) (rn + 1) (nI 61)) (rn + 2) (nI 2)) (rn + 3) (nI 1)) f2' f3' (nI (rn + 4)) g1 g2 g3 gc) ∧ ro = ro') := by
  refine mth_of (by decide +kernel) (Nat.le_of_ble_eq_true rfl) (fun X hC hR => ?_)
  show Ev G X 0 0 0 [(0, .ref r), (1, .int x)] [] (RW G q 20 D f2 f3 (nI rn) g1 g2 g3 gc) ro
  refine ev_aload_n hC dX4_tells_0 rfl 0 rfl ?_
  refine ev_get hC fl_X4_19_9 (mr he) rfl dX4_tells_1 ?_
  refine ev_iconst (v := (nI 3)) hC dX4_tells_4 (by decide) ?_
  refine ev_iconst (v := (nI 0)) hC dX4_tells_5 (by decide) ?_
  refine ev_iconst (v := (nI 0)) hC dX4_tells_6 (by decide) ?_
  refine ev_callV (As := [.int (nI 3), .int (nI 0), .int (nI 0)]) (st := []) (wf := []) hC cv_X4_23 (m_X7_add G ro q 20 rn D f2 f3 g1 g2 g3 gc (nI 3) (nI 0) (nI 0) (by omega) (by omega) (by omega)) (by omega) rfl rfl (Nat.le_of_ble_eq_true rfl) (List.Perm.of_eq (List.append_nil _).symm) (mw 0 rfl) rfl dX4_tells_7 (by omega) (by omega) ?_
  rintro _ _ _ ⟨rfl, rfl, rfl⟩
  refine ev_ws (List.append_nil _) ?_
  show Ev G X 0 0 10 [(0, .ref r), (1, .int x)] [.int (nI (rn + 1))] (RW G q 20 (upd D rn (nI 3)) (upd f2 rn (nI 0)) (upd f3 rn (nI 0)) (nI (rn + 1)) g1 g2 g3 gc) ro
  refine ev_pop hC dX4_tells_10 rfl ?_
  refine ev_aload_n hC dX4_tells_11 rfl 0 rfl ?_
  refine ev_iload_n hC dX4_tells_12 rfl 1 rfl ?_
  refine ev_callU (As := [.int x]) (st := []) (wf := []) hC cu_X4_33_9 (m_X9_licks_k6 G ro r p v q (upd D rn (nI 3)) (upd f2 rn (nI 0)) (upd f3 rn (nI 0)) g1 g2 g3 gc (rn + 1) x he (by omega)) (by omega) rfl rfl (Nat.le_of_ble_eq_true rfl) (List.Perm.of_eq (List.append_nil _).symm) (mr he) rfl dX4_tells_13 (by omega) (by omega) ?_
  rintro _ _ _ ⟨f_1, f_2, rfl, rfl, rfl⟩
  refine ev_ws (List.append_nil _) ?_
  show Ev G X 0 0 16 [(0, .ref r), (1, .int x)] [.int (((x + (nI p)) - (nI v)) + (nI v))] (RW G q 20 (upd (upd (upd (upd D rn (nI 3)) (rn + 1) (nI 61)) (rn + 2) (nI 2)) (rn + 3) (nI 1)) f_1 f_2 (nI (rn + 4)) g1 g2 g3 gc) ro
  refine ev_iconst (v := (nI 2)) hC dX4_tells_16 (by decide) ?_
  refine ev_imul hC dX4_tells_17 ?_
  refine ev_iret hC hR rfl dX4_tells_18 ?_
  exact ⟨_, _, rfl, rfl, rfl⟩

set_option maxHeartbeats 4000000 in
set_option maxRecDepth 100000 in
theorem m_X8_tells_k3 (G : GG) (ro : va_W) (r p v : Nat) (q : Nat → Nat) (D f2 f3 g1 g2 g3 : Nat → Int32) (gc : Int32) (rn : Nat) (x : Int32) (he : (r, ob 8 [.int (nI 3), .int (nI p), .int (nI v), .ref (q 0)]) ∈ ro) (hr : rn + 4 ≤ 20) : Mth G M_X8_tells 4 0 0 [.ref r, .int x] (RW G q 20 D f2 f3 (nI rn) g1 g2 g3 gc) ro (fun r ws' ro' => ∃ (f2' : Nat → Int32), ∃ (f3' : Nat → Int32), r = some (.int ((((x + (nI p)) - (nI v)) * (nI 2)) ^^^ (nI 7))) ∧ ws' = (RW G q 20 (upd (upd (upd (upd D rn (nI 31)) (rn + 1) (nI 3)) (rn + 2) (nI 2)) (rn + 3) (nI 1)) f2' f3' (nI (rn + 4)) g1 g2 g3 gc) ∧ ro = ro') := by
  refine mth_of (by decide +kernel) (Nat.le_of_ble_eq_true rfl) (fun X hC hR => ?_)
  show Ev G X 0 0 0 [(0, .ref r), (1, .int x)] [] (RW G q 20 D f2 f3 (nI rn) g1 g2 g3 gc) ro
  refine ev_aload_n hC dX8_tells_0 rfl 0 rfl ?_
  refine ev_get hC fl_X8_13_8 (mr he) rfl dX8_tells_1 ?_
  refine ev_bipush (v := (nI 31)) hC dX8_tells_4 (by decide) ?_
  refine ev_iconst (v := (nI 0)) hC dX8_tells_6 (by decide) ?_
  refine ev_iconst (v := (nI 0)) hC dX8_tells_7 (by decide) ?_
  refine ev_callV (As := [.int (nI 31), .int (nI 0), .int (nI 0)]) (st := []) (wf := []) hC cv_X8_19 (m_X7_add G ro q 20 rn D f2 f3 g1 g2 g3 gc (nI 31) (nI 0) (nI 0) (by omega) (by omega) (by omega)) (by omega) rfl rfl (Nat.le_of_ble_eq_true rfl) (List.Perm.of_eq (List.append_nil _).symm) (mw 0 rfl) rfl dX8_tells_8 (by omega) (by omega) ?_
  rintro _ _ _ ⟨rfl, rfl, rfl⟩
  refine ev_ws (List.append_nil _) ?_
  show Ev G X 0 0 11 [(0, .ref r), (1, .int x)] [.int (nI (rn + 1))] (RW G q 20 (upd D rn (nI 31)) (upd f2 rn (nI 0)) (upd f3 rn (nI 0)) (nI (rn + 1)) g1 g2 g3 gc) ro
  refine ev_pop hC dX8_tells_11 rfl ?_
  refine ev_aload_n hC dX8_tells_12 rfl 0 rfl ?_
  refine ev_iload_n hC dX8_tells_13 rfl 1 rfl ?_
  refine ev_callSU (As := [.int x]) (st := []) (wf := []) hC cs_X8_25 (m_X4_tells_k3 G ro r p v q (upd D rn (nI 31)) (upd f2 rn (nI 0)) (upd f3 rn (nI 0)) g1 g2 g3 gc (rn + 1) x he (by omega)) (by omega) rfl rfl (Nat.le_of_ble_eq_true rfl) (List.Perm.of_eq (List.append_nil _).symm) (mr he) rfl dX8_tells_14 (by omega) (by omega) ?_
  rintro _ _ _ ⟨f_1, f_2, rfl, rfl, rfl⟩
  refine ev_ws (List.append_nil _) ?_
  show Ev G X 0 0 17 [(0, .ref r), (1, .int x)] [.int (((x + (nI p)) - (nI v)) * (nI 2))] (RW G q 20 (upd (upd (upd (upd D rn (nI 31)) (rn + 1) (nI 3)) (rn + 2) (nI 2)) (rn + 3) (nI 1)) f_1 f_2 (nI (rn + 4)) g1 g2 g3 gc) ro
  refine ev_bipush (v := (nI 7)) hC dX8_tells_17 (by decide) ?_
  refine ev_ixor hC dX8_tells_19 ?_
  refine ev_iret hC hR rfl dX8_tells_20 ?_
  exact ⟨_, _, rfl, rfl, rfl⟩

set_option maxHeartbeats 4000000 in
set_option maxRecDepth 100000 in
theorem m_X8_tells_k6 (G : GG) (ro : va_W) (r p v : Nat) (q : Nat → Nat) (D f2 f3 g1 g2 g3 : Nat → Int32) (gc : Int32) (rn : Nat) (x : Int32) (he : (r, ob 9 [.int (nI 6), .int (nI p), .int (nI v), .ref (q 0)]) ∈ ro) (hr : rn + 5 ≤ 20) : Mth G M_X8_tells 5 0 0 [.ref r, .int x] (RW G q 20 D f2 f3 (nI rn) g1 g2 g3 gc) ro (fun r ws' ro' => ∃ (f2' : Nat → Int32), ∃ (f3' : Nat → Int32), r = some (.int (((((x + (nI p)) - (nI v)) + (nI v)) * (nI 2)) ^^^ (nI 7))) ∧ ws' = (RW G q 20 (upd (upd (upd (upd (upd D rn (nI 31)) (rn + 1) (nI 3)) (rn + 2) (nI 61)) (rn + 3) (nI 2)) (rn + 4) (nI 1)) f2' f3' (nI (rn + 5)) g1 g2 g3 gc) ∧ ro = ro') := by
  refine mth_of (by decide +kernel) (Nat.le_of_ble_eq_true rfl) (fun X hC hR => ?_)
  show Ev G X 0 0 0 [(0, .ref r), (1, .int x)] [] (RW G q 20 D f2 f3 (nI rn) g1 g2 g3 gc) ro
  refine ev_aload_n hC dX8_tells_0 rfl 0 rfl ?_
  refine ev_get hC fl_X8_13_9 (mr he) rfl dX8_tells_1 ?_
  refine ev_bipush (v := (nI 31)) hC dX8_tells_4 (by decide) ?_
  refine ev_iconst (v := (nI 0)) hC dX8_tells_6 (by decide) ?_
  refine ev_iconst (v := (nI 0)) hC dX8_tells_7 (by decide) ?_
  refine ev_callV (As := [.int (nI 31), .int (nI 0), .int (nI 0)]) (st := []) (wf := []) hC cv_X8_19 (m_X7_add G ro q 20 rn D f2 f3 g1 g2 g3 gc (nI 31) (nI 0) (nI 0) (by omega) (by omega) (by omega)) (by omega) rfl rfl (Nat.le_of_ble_eq_true rfl) (List.Perm.of_eq (List.append_nil _).symm) (mw 0 rfl) rfl dX8_tells_8 (by omega) (by omega) ?_
  rintro _ _ _ ⟨rfl, rfl, rfl⟩
  refine ev_ws (List.append_nil _) ?_
  show Ev G X 0 0 11 [(0, .ref r), (1, .int x)] [.int (nI (rn + 1))] (RW G q 20 (upd D rn (nI 31)) (upd f2 rn (nI 0)) (upd f3 rn (nI 0)) (nI (rn + 1)) g1 g2 g3 gc) ro
  refine ev_pop hC dX8_tells_11 rfl ?_
  refine ev_aload_n hC dX8_tells_12 rfl 0 rfl ?_
  refine ev_iload_n hC dX8_tells_13 rfl 1 rfl ?_
  refine ev_callSU (As := [.int x]) (st := []) (wf := []) hC cs_X8_25 (m_X4_tells_k6 G ro r p v q (upd D rn (nI 31)) (upd f2 rn (nI 0)) (upd f3 rn (nI 0)) g1 g2 g3 gc (rn + 1) x he (by omega)) (by omega) rfl rfl (Nat.le_of_ble_eq_true rfl) (List.Perm.of_eq (List.append_nil _).symm) (mr he) rfl dX8_tells_14 (by omega) (by omega) ?_
  rintro _ _ _ ⟨f_1, f_2, rfl, rfl, rfl⟩
  refine ev_ws (List.append_nil _) ?_
  show Ev G X 0 0 17 [(0, .ref r), (1, .int x)] [.int ((((x + (nI p)) - (nI v)) + (nI v)) * (nI 2))] (RW G q 20 (upd (upd (upd (upd (upd D rn (nI 31)) (rn + 1) (nI 3)) (rn + 2) (nI 61)) (rn + 3) (nI 2)) (rn + 4) (nI 1)) f_1 f_2 (nI (rn + 5)) g1 g2 g3 gc) ro
  refine ev_bipush (v := (nI 7)) hC dX8_tells_17 (by decide) ?_
  refine ev_ixor hC dX8_tells_19 ?_
  refine ev_iret hC hR rfl dX8_tells_20 ?_
  exact ⟨_, _, rfl, rfl, rfl⟩

set_option maxHeartbeats 4000000 in
set_option maxRecDepth 100000 in
theorem m_X2_tells_k4 (G : GG) (ro : va_W) (r p v : Nat) (q : Nat → Nat) (D f2 f3 g1 g2 g3 : Nat → Int32) (gc : Int32) (rn : Nat) (x : Int32) (he : (r, ob 2 [.int (nI 4), .int (nI p), .int (nI v), .ref (q 0)]) ∈ ro) (hr : rn + 7 ≤ 20) : Mth G M_X2_tells 5 0 0 [.ref r, .int x] (RW G q 20 D f2 f3 (nI rn) g1 g2 g3 gc) ro (fun r ws' ro' => ∃ (f2' : Nat → Int32), ∃ (f3' : Nat → Int32), r = some (.int ((((((x - (nI 1)) * (nI 3)) + (nI p)) - (nI v)) * (nI 2)) + (((nI 2) * (nI 3)) + (nI p)))) ∧ ws' = (RW G q 20 (upd (upd (upd (upd (upd (upd (upd D rn (nI 41)) (rn + 1) (nI 3)) (rn + 2) (nI 2)) (rn + 3) (nI 11)) (rn + 4) (nI 1)) (rn + 5) (nI 11)) (rn + 6) (nI 1)) f2' f3' (nI (rn + 7)) g1 g2 g3 gc) ∧ ro = ro') := by
  refine mth_of (by decide +kernel) (Nat.le_of_ble_eq_true rfl) (fun X hC hR => ?_)
  show Ev G X 0 0 0 [(0, .ref r), (1, .int x)] [] (RW G q 20 D f2 f3 (nI rn) g1 g2 g3 gc) ro
  refine ev_aload_n hC dX2_tells_0 rfl 0 rfl ?_
  refine ev_get hC fl_X2_17_2 (mr he) rfl dX2_tells_1 ?_
  refine ev_bipush (v := (nI 41)) hC dX2_tells_4 (by decide) ?_
  refine ev_iconst (v := (nI 0)) hC dX2_tells_6 (by decide) ?_
  refine ev_iconst (v := (nI 0)) hC dX2_tells_7 (by decide) ?_
  refine ev_callV (As := [.int (nI 41), .int (nI 0), .int (nI 0)]) (st := []) (wf := []) hC cv_X2_21 (m_X7_add G ro q 20 rn D f2 f3 g1 g2 g3 gc (nI 41) (nI 0) (nI 0) (by omega) (by omega) (by omega)) (by omega) rfl rfl (Nat.le_of_ble_eq_true rfl) (List.Perm.of_eq (List.append_nil _).symm) (mw 0 rfl) rfl dX2_tells_8 (by omega) (by omega) ?_
  rintro _ _ _ ⟨rfl, rfl, rfl⟩
  refine ev_ws (List.append_nil _) ?_
  show Ev G X 0 0 11 [(0, .ref r), (1, .int x)] [.int (nI (rn + 1))] (RW G q 20 (upd D rn (nI 41)) (upd f2 rn (nI 0)) (upd f3 rn (nI 0)) (nI (rn + 1)) g1 g2 g3 gc) ro
  refine ev_pop hC dX2_tells_11 rfl ?_
  refine ev_aload_n hC dX2_tells_12 rfl 0 rfl ?_
  refine ev_iload_n hC dX2_tells_13 rfl 1 rfl ?_
  refine ev_iconst (v := (nI 1)) hC dX2_tells_14 (by decide) ?_
  refine ev_isub hC dX2_tells_15 ?_
  refine ev_callSW (As := [.int (x - (nI 1))]) (st := []) (wf := []) hC cw_X2_27 (m_X4_tells_k4 G ro r p v q (upd D rn (nI 41)) (upd f2 rn (nI 0)) (upd f3 rn (nI 0)) g1 g2 g3 gc (rn + 1) (x - (nI 1)) he (by omega)) (by omega) rfl rfl (Nat.le_of_ble_eq_true rfl) (List.Perm.of_eq (List.append_nil _).symm) (mr he) rfl dX2_tells_16 (by omega) (by omega) ?_
  rintro _ _ _ ⟨f_1, f_2, rfl, rfl, rfl⟩
  refine ev_ws (List.append_nil _) ?_
  show Ev G X 0 0 19 [(0, .ref r), (1, .int x)] [.int (((((x - (nI 1)) * (nI 3)) + (nI p)) - (nI v)) * (nI 2))] (RW G q 20 (upd (upd (upd (upd (upd D rn (nI 41)) (rn + 1) (nI 3)) (rn + 2) (nI 2)) (rn + 3) (nI 11)) (rn + 4) (nI 1)) f_1 f_2 (nI (rn + 5)) g1 g2 g3 gc) ro
  refine ev_aload_n hC dX2_tells_19 rfl 0 rfl ?_
  refine ev_iconst (v := (nI 2)) hC dX2_tells_20 (by decide) ?_
  refine ev_callU (As := [.int (nI 2)]) (st := [.int (((((x - (nI 1)) * (nI 3)) + (nI p)) - (nI v)) * (nI 2))]) (wf := []) hC cu_X2_31_2 (m_X1_wrongs_k4 G ro r p v q (upd (upd (upd (upd (upd D rn (nI 41)) (rn + 1) (nI 3)) (rn + 2) (nI 2)) (rn + 3) (nI 11)) (rn + 4) (nI 1)) f_1 f_2 g1 g2 g3 gc (rn + 5) (nI 2) he (by omega)) (by omega) rfl rfl (Nat.le_of_ble_eq_true rfl) (List.Perm.of_eq (List.append_nil _).symm) (mr he) rfl dX2_tells_21 (by omega) (by omega) ?_
  rintro _ _ _ ⟨f_3, f_4, rfl, rfl, rfl⟩
  refine ev_ws (List.append_nil _) ?_
  show Ev G X 0 0 24 [(0, .ref r), (1, .int x)] [.int (((nI 2) * (nI 3)) + (nI p)), .int (((((x - (nI 1)) * (nI 3)) + (nI p)) - (nI v)) * (nI 2))] (RW G q 20 (upd (upd (upd (upd (upd (upd (upd D rn (nI 41)) (rn + 1) (nI 3)) (rn + 2) (nI 2)) (rn + 3) (nI 11)) (rn + 4) (nI 1)) (rn + 5) (nI 11)) (rn + 6) (nI 1)) f_3 f_4 (nI (rn + 7)) g1 g2 g3 gc) ro
  refine ev_iadd hC dX2_tells_24 ?_
  refine ev_iret hC hR rfl dX2_tells_25 ?_
  exact ⟨_, _, rfl, rfl, rfl⟩
