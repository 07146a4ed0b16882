/-- s while it is filled -/
def iniG (i : Nat) : Nat → Int32 := fun j => if j = 38 then -1 else if 2 ≤ j ∧ j < 2 + i then nI 100 else nI 0
theorem iniG_0 : upd (fun _ => 0) 38 (-1) = iniG 0 := by
  funext j
  unfold upd iniG
  by_cases c : j = 38
  · rw [if_pos c, if_pos c]
  · rw [if_neg c, if_neg c, if_neg (by omega)]
    rfl
theorem iniG_s {i : Nat} (hi : i < 6) : upd (iniG i) (2 + i) (nI 100) = iniG (i + 1) := by
  funext j
  unfold upd iniG
  by_cases c : j = 2 + i
  · rw [if_pos c, if_neg (by omega), if_pos (by omega)]
  · rw [if_neg c]
    by_cases d : j = 38
    · rw [if_pos d, if_pos d]
    · rw [if_neg d, if_neg d]
      by_cases e : 2 ≤ j ∧ j < 2 + i
      · rw [if_pos e, if_pos (by omega)]
      · rw [if_neg e, if_neg (by omega)]
theorem iniG_6 : iniG 6 = iniF := rfl

set_option maxHeartbeats 4000000 in
set_option maxRecDepth 100000 in
theorem m_X12_init (G : GG) (ro : va_W) (q : Nat)  : Mth G M_X12_init 1 8 2008 [.ref q] ([(q, ob 12 [.int 0, .null, .null, .null, .int 0, .int 0, .int 0, .int 0, .int 0, .int 0, .null, .null, .int 0, .null, .null, .int 0, .null, .int 0, .int 0, .int 0, .int 0])]) ro (fun r ws' ro' => ∃ (a : Nat → Nat), r = none ∧ ws' = (MW G a iniF (fun _ => 0) (fun _ => 0) (fun _ => 0) (fun _ => 0) (fun _ => 0) (fun _ => 0) (fun _ => 0) (nI 0) (nI 0) (nI 0) (nI 0) (nI 0) (nI 0) (-1) (nI 0) (nI 0) (nI 0) (nI 0) (nI 0)) ∧ ro = ro' ∧ a 0 = q) := by
  refine mth_of (by decide +kernel) (Nat.le_of_ble_eq_true rfl) (fun X hC hR => ?_)
  show Ev G X 8 2008 0 [(0, .ref q)] [] ([(q, ob 12 [.int 0, .null, .null, .null, .int 0, .int 0, .int 0, .int 0, .int 0, .int 0, .null, .null, .int 0, .null, .null, .int 0, .null, .int 0, .int 0, .int 0, .int 0])]) ro
  refine ev_aload_n hC dX12_init_0 rfl 0 rfl ?_
  refine ev_objInit hC oi_X12_3 (by omega) (Nat.le_of_ble_eq_true rfl) dX12_init_1 ?_
  refine ev_aload_n hC dX12_init_4 rfl 0 rfl ?_
  refine ev_sipush (v := (nI 937)) hC dX12_init_5 (by decide) ?_
  refine ev_newi (N := 937) hC dX12_init_8 (nI_pos (by omega)) (nI_clamp (by omega)) (by omega) (by omega) (by omega) (fun q_1 => ?_)
  show Ev G X 7 1071 10 [(0, .ref q)] [.ref q_1, .ref q] (List.flatten [[(q, ob 12 [.int 0, .null, .null, .null, .int 0, .int 0, .int 0, .int 0, .int 0, .int 0, .null, .null, .int 0, .null, .null, .int 0, .null, .int 0, .int 0, .int 0, .int 0])], [(q_1, ia G 937 (fun _ => 0))]]) ro
  refine ev_putF (ws' := (List.flatten [[(q, ob 12 [.int 0, .ref q_1, .null, .null, .int 0, .int 0, .int 0, .int 0, .int 0, .int 0, .null, .null, .int 0, .null, .null, .int 0, .null, .int 0, .int 0, .int 0, .int 0])], [(q_1, ia G 937 (fun _ => 0))]])) (q0 := 0) hC fp_X12_9_12 rfl rfl (Nat.le_of_ble_eq_true rfl) rfl rfl rfl dX12_init_10 ?_
  refine ev_aload_n hC dX12_init_13 rfl 0 rfl ?_
  refine ev_sipush (v := (nI 937)) hC dX12_init_14 (by decide) ?_
  refine ev_newi (N := 937) hC dX12_init_17 (nI_pos (by omega)) (nI_clamp (by omega)) (by omega) (by omega) (by omega) (fun q_2 => ?_)
  show Ev G X 6 134 19 [(0, .ref q)] [.ref q_2, .ref q] (List.flatten [[(q, ob 12 [.int 0, .ref q_1, .null, .null, .int 0, .int 0, .int 0, .int 0, .int 0, .int 0, .null, .null, .int 0, .null, .null, .int 0, .null, .int 0, .int 0, .int 0, .int 0])], [(q_1, ia G 937 (fun _ => 0))], [(q_2, ia G 937 (fun _ => 0))]]) ro
  refine ev_putF (ws' := (List.flatten [[(q, ob 12 [.int 0, .ref q_1, .ref q_2, .null, .int 0, .int 0, .int 0, .int 0, .int 0, .int 0, .null, .null, .int 0, .null, .null, .int 0, .null, .int 0, .int 0, .int 0, .int 0])], [(q_1, ia G 937 (fun _ => 0))], [(q_2, ia G 937 (fun _ => 0))]])) (q0 := 0) hC fp_X12_15_12 rfl rfl (Nat.le_of_ble_eq_true rfl) rfl rfl rfl dX12_init_19 ?_
  refine ev_aload_n hC dX12_init_22 rfl 0 rfl ?_
  refine ev_bipush (v := (nI 32)) hC dX12_init_23 (by decide) ?_
  refine ev_newi (N := 32) hC dX12_init_25 (nI_pos (by omega)) (nI_clamp (by omega)) (by omega) (by omega) (by omega) (fun q_3 => ?_)
  show Ev G X 5 102 27 [(0, .ref q)] [.ref q_3, .ref q] (List.flatten [[(q, ob 12 [.int 0, .ref q_1, .ref q_2, .null, .int 0, .int 0, .int 0, .int 0, .int 0, .int 0, .null, .null, .int 0, .null, .null, .int 0, .null, .int 0, .int 0, .int 0, .int 0])], [(q_1, ia G 937 (fun _ => 0))], [(q_2, ia G 937 (fun _ => 0))], [(q_3, ia G 32 (fun _ => 0))]]) ro
  refine ev_putF (ws' := (List.flatten [[(q, ob 12 [.int 0, .ref q_1, .ref q_2, .ref q_3, .int 0, .int 0, .int 0, .int 0, .int 0, .int 0, .null, .null, .int 0, .null, .null, .int 0, .null, .int 0, .int 0, .int 0, .int 0])], [(q_1, ia G 937 (fun _ => 0))], [(q_2, ia G 937 (fun _ => 0))], [(q_3, ia G 32 (fun _ => 0))]])) (q0 := 0) hC fp_X12_18_12 rfl rfl (Nat.le_of_ble_eq_true rfl) rfl rfl rfl dX12_init_27 ?_
  refine ev_aload_n hC dX12_init_30 rfl 0 rfl ?_
  refine ev_bipush (v := (nI 6)) hC dX12_init_31 (by decide) ?_
  refine ev_newi (N := 6) hC dX12_init_33 (nI_pos (by omega)) (nI_clamp (by omega)) (by omega) (by omega) (by omega) (fun q_4 => ?_)
  show Ev G X 4 96 35 [(0, .ref q)] [.ref q_4, .ref q] (List.flatten [[(q, ob 12 [.int 0, .ref q_1, .ref q_2, .ref q_3, .int 0, .int 0, .int 0, .int 0, .int 0, .int 0, .null, .null, .int 0, .null, .null, .int 0, .null, .int 0, .int 0, .int 0, .int 0])], [(q_1, ia G 937 (fun _ => 0))], [(q_2, ia G 937 (fun _ => 0))], [(q_3, ia G 32 (fun _ => 0))], [(q_4, ia G 6 (fun _ => 0))]]) ro
  refine ev_putF (ws' := (List.flatten [[(q, ob 12 [.int 0, .ref q_1, .ref q_2, .ref q_3, .int 0, .int 0, .int 0, .int 0, .int 0, .int 0, .ref q_4, .null, .int 0, .null, .null, .int 0, .null, .int 0, .int 0, .int 0, .int 0])], [(q_1, ia G 937 (fun _ => 0))], [(q_2, ia G 937 (fun _ => 0))], [(q_3, ia G 32 (fun _ => 0))], [(q_4, ia G 6 (fun _ => 0))]])) (q0 := 0) hC fp_X12_21_12 rfl rfl (Nat.le_of_ble_eq_true rfl) rfl rfl rfl dX12_init_35 ?_
  refine ev_aload_n hC dX12_init_38 rfl 0 rfl ?_
  refine ev_bipush (v := (nI 64)) hC dX12_init_39 (by decide) ?_
  refine ev_newz (N := 64) hC dX12_init_41 (nI_pos (by omega)) (nI_clamp (by omega)) (by omega) (by omega) (by omega) (fun q_5 => ?_)
  show Ev G X 3 32 43 [(0, .ref q)] [.ref q_5, .ref q] (List.flatten [[(q, ob 12 [.int 0, .ref q_1, .ref q_2, .ref q_3, .int 0, .int 0, .int 0, .int 0, .int 0, .int 0, .ref q_4, .null, .int 0, .null, .null, .int 0, .null, .int 0, .int 0, .int 0, .int 0])], [(q_1, ia G 937 (fun _ => 0))], [(q_2, ia G 937 (fun _ => 0))], [(q_3, ia G 32 (fun _ => 0))], [(q_4, ia G 6 (fun _ => 0))], [(q_5, za G 64 (fun _ => 0))]]) ro
  refine ev_putF (ws' := (List.flatten [[(q, ob 12 [.int 0, .ref q_1, .ref q_2, .ref q_3, .int 0, .int 0, .int 0, .int 0, .int 0, .int 0, .ref q_4, .ref q_5, .int 0, .null, .null, .int 0, .null, .int 0, .int 0, .int 0, .int 0])], [(q_1, ia G 937 (fun _ => 0))], [(q_2, ia G 937 (fun _ => 0))], [(q_3, ia G 32 (fun _ => 0))], [(q_4, ia G 6 (fun _ => 0))], [(q_5, za G 64 (fun _ => 0))]])) (q0 := 0) hC fp_X12_24_12 rfl rfl (Nat.le_of_ble_eq_true rfl) rfl rfl rfl dX12_init_43 ?_
  refine ev_aload_n hC dX12_init_46 rfl 0 rfl ?_
  refine ev_iconst (v := (-1)) hC dX12_init_47 (by decide) ?_
  refine ev_put (ws' := (List.flatten [[(q, ob 12 [.int 0, .ref q_1, .ref q_2, .ref q_3, .int 0, .int 0, .int 0, .int 0, .int 0, .int 0, .ref q_4, .ref q_5, .int (-1), .null, .null, .int 0, .null, .int 0, .int 0, .int 0, .int 0])], [(q_1, ia G 937 (fun _ => 0))], [(q_2, ia G 937 (fun _ => 0))], [(q_3, ia G 32 (fun _ => 0))], [(q_4, ia G 6 (fun _ => 0))], [(q_5, za G 64 (fun _ => 0))]])) (q0 := 0) hC fp_X12_28_12 rfl (Nat.le_of_ble_eq_true rfl) rfl rfl rfl dX12_init_48 ?_
  refine ev_aload_n hC dX12_init_51 rfl 0 rfl ?_
  refine ev_bipush (v := (nI 6)) hC dX12_init_52 (by decide) ?_
  refine ev_newi (N := 6) hC dX12_init_54 (nI_pos (by omega)) (nI_clamp (by omega)) (by omega) (by omega) (by omega) (fun q_6 => ?_)
  show Ev G X 2 26 56 [(0, .ref q)] [.ref q_6, .ref q] (List.flatten [[(q, ob 12 [.int 0, .ref q_1, .ref q_2, .ref q_3, .int 0, .int 0, .int 0, .int 0, .int 0, .int 0, .ref q_4, .ref q_5, .int (-1), .null, .null, .int 0, .null, .int 0, .int 0, .int 0, .int 0])], [(q_1, ia G 937 (fun _ => 0))], [(q_2, ia G 937 (fun _ => 0))], [(q_3, ia G 32 (fun _ => 0))], [(q_4, ia G 6 (fun _ => 0))], [(q_5, za G 64 (fun _ => 0))], [(q_6, ia G 6 (fun _ => 0))]]) ro
  refine ev_putF (ws' := (List.flatten [[(q, ob 12 [.int 0, .ref q_1, .ref q_2, .ref q_3, .int 0, .int 0, .int 0, .int 0, .int 0, .int 0, .ref q_4, .ref q_5, .int (-1), .ref q_6, .null, .int 0, .null, .int 0, .int 0, .int 0, .int 0])], [(q_1, ia G 937 (fun _ => 0))], [(q_2, ia G 937 (fun _ => 0))], [(q_3, ia G 32 (fun _ => 0))], [(q_4, ia G 6 (fun _ => 0))], [(q_5, za G 64 (fun _ => 0))], [(q_6, ia G 6 (fun _ => 0))]])) (q0 := 0) hC fp_X12_32_12 rfl rfl (Nat.le_of_ble_eq_true rfl) rfl rfl rfl dX12_init_56 ?_
  refine ev_aload_n hC dX12_init_59 rfl 0 rfl ?_
  refine ev_bipush (v := (nI 6)) hC dX12_init_60 (by decide) ?_
  refine ev_newi (N := 6) hC dX12_init_62 (nI_pos (by omega)) (nI_clamp (by omega)) (by omega) (by omega) (by omega) (fun q_7 => ?_)
  show Ev G X 1 20 64 [(0, .ref q)] [.ref q_7, .ref q] (List.flatten [[(q, ob 12 [.int 0, .ref q_1, .ref q_2, .ref q_3, .int 0, .int 0, .int 0, .int 0, .int 0, .int 0, .ref q_4, .ref q_5, .int (-1), .ref q_6, .null, .int 0, .null, .int 0, .int 0, .int 0, .int 0])], [(q_1, ia G 937 (fun _ => 0))], [(q_2, ia G 937 (fun _ => 0))], [(q_3, ia G 32 (fun _ => 0))], [(q_4, ia G 6 (fun _ => 0))], [(q_5, za G 64 (fun _ => 0))], [(q_6, ia G 6 (fun _ => 0))], [(q_7, ia G 6 (fun _ => 0))]]) ro
  refine ev_putF (ws' := (List.flatten [[(q, ob 12 [.int 0, .ref q_1, .ref q_2, .ref q_3, .int 0, .int 0, .int 0, .int 0, .int 0, .int 0, .ref q_4, .ref q_5, .int (-1), .ref q_6, .ref q_7, .int 0, .null, .int 0, .int 0, .int 0, .int 0])], [(q_1, ia G 937 (fun _ => 0))], [(q_2, ia G 937 (fun _ => 0))], [(q_3, ia G 32 (fun _ => 0))], [(q_4, ia G 6 (fun _ => 0))], [(q_5, za G 64 (fun _ => 0))], [(q_6, ia G 6 (fun _ => 0))], [(q_7, ia G 6 (fun _ => 0))]])) (q0 := 0) hC fp_X12_35_12 rfl rfl (Nat.le_of_ble_eq_true rfl) rfl rfl rfl dX12_init_64 ?_
  refine ev_aload_n hC dX12_init_67 rfl 0 rfl ?_
  refine ev_bipush (v := (nI 20)) hC dX12_init_68 (by decide) ?_
  refine ev_newi (N := 20) hC dX12_init_70 (nI_pos (by omega)) (nI_clamp (by omega)) (by omega) (by omega) (by omega) (fun q_8 => ?_)
  show Ev G X 0 0 72 [(0, .ref q)] [.ref q_8, .ref q] (List.flatten [[(q, ob 12 [.int 0, .ref q_1, .ref q_2, .ref q_3, .int 0, .int 0, .int 0, .int 0, .int 0, .int 0, .ref q_4, .ref q_5, .int (-1), .ref q_6, .ref q_7, .int 0, .null, .int 0, .int 0, .int 0, .int 0])], [(q_1, ia G 937 (fun _ => 0))], [(q_2, ia G 937 (fun _ => 0))], [(q_3, ia G 32 (fun _ => 0))], [(q_4, ia G 6 (fun _ => 0))], [(q_5, za G 64 (fun _ => 0))], [(q_6, ia G 6 (fun _ => 0))], [(q_7, ia G 6 (fun _ => 0))], [(q_8, ia G 20 (fun _ => 0))]]) ro
  refine ev_putF (ws' := (List.flatten [[(q, ob 12 [.int 0, .ref q_1, .ref q_2, .ref q_3, .int 0, .int 0, .int 0, .int 0, .int 0, .int 0, .ref q_4, .ref q_5, .int (-1), .ref q_6, .ref q_7, .int 0, .ref q_8, .int 0, .int 0, .int 0, .int 0])], [(q_1, ia G 937 (fun _ => 0))], [(q_2, ia G 937 (fun _ => 0))], [(q_3, ia G 32 (fun _ => 0))], [(q_4, ia G 6 (fun _ => 0))], [(q_5, za G 64 (fun _ => 0))], [(q_6, ia G 6 (fun _ => 0))], [(q_7, ia G 6 (fun _ => 0))], [(q_8, ia G 20 (fun _ => 0))]])) (q0 := 0) hC fp_X12_38_12 rfl rfl (Nat.le_of_ble_eq_true rfl) rfl rfl rfl dX12_init_72 ?_
  refine ev_aload_n hC dX12_init_75 rfl 0 rfl ?_
  refine ev_get hC fl_X12_9_12 (mw 0 rfl) rfl dX12_init_76 ?_
  refine ev_bipush (v := (nI 38)) hC dX12_init_79 (by decide) ?_
  refine ev_iconst (v := (-1)) hC dX12_init_81 (by decide) ?_
  refine ev_iastN (i := 38) (ws' := (List.flatten [[(q, ob 12 [.int 0, .ref q_1, .ref q_2, .ref q_3, .int 0, .int 0, .int 0, .int 0, .int 0, .int 0, .ref q_4, .ref q_5, .int (-1), .ref q_6, .ref q_7, .int 0, .ref q_8, .int 0, .int 0, .int 0, .int 0])], [(q_1, ia G 937 (upd (fun _ => 0) 38 (-1)))], [(q_2, ia G 937 (fun _ => 0))], [(q_3, ia G 32 (fun _ => 0))], [(q_4, ia G 6 (fun _ => 0))], [(q_5, za G 64 (fun _ => 0))], [(q_6, ia G 6 (fun _ => 0))], [(q_7, ia G 6 (fun _ => 0))], [(q_8, ia G 20 (fun _ => 0))]])) (q0 := 1) hC rfl (by omega) (by omega) rfl dX12_init_82 ?_
  refine ev_iconst (v := (nI 0)) hC dX12_init_83 (by decide) ?_
  refine ev_istore_n (lv' := [(1, .int (nI 0)), (0, .ref q)]) hC dX12_init_84 rfl (by decide) rfl ?_
  have lp_85 : ∀ (fu_85 : Nat) (i : Nat) (hii : i ≤ 6) (hn : 6 - i < fu_85), Ev G X 0 0 85 [(0, .ref q), (1, .int (nI i))] [] (List.flatten [[(q, ob 12 [.int 0, .ref q_1, .ref q_2, .ref q_3, .int 0, .int 0, .int 0, .int 0, .int 0, .int 0, .ref q_4, .ref q_5, .int (-1), .ref q_6, .ref q_7, .int 0, .ref q_8, .int 0, .int 0, .int 0, .int 0])], [(q_1, ia G 937 (iniG i))], [(q_2, ia G 937 (fun _ => 0))], [(q_3, ia G 32 (fun _ => 0))], [(q_4, ia G 6 (fun _ => 0))], [(q_5, za G 64 (fun _ => 0))], [(q_6, ia G 6 (fun _ => 0))], [(q_7, ia G 6 (fun _ => 0))], [(q_8, ia G 20 (fun _ => 0))]]) ro := by
    intro fu_85
    induction fu_85 with
    | zero => intro i hii hn; exact absurd hn (Nat.not_lt_zero _)
    | succ fu_85 ih =>
      intro i hii hn
      refine ev_iload_n hC dX12_init_85 rfl 1 rfl ?_
      refine ev_bipush (v := (nI 6)) hC dX12_init_86 (by decide) ?_
      refine ev_icmp_geN (tgt := 107) hC dX12_init_88 (by decide) (by omega) (by omega) (fun c_9 => ?_) (fun c_9 => ?_)
      · refine ev_vret hC hR rfl dX12_init_107 ?_
        obtain rfl : i = 6 := by omega
        exact ⟨fun j => [q, q_1, q_2, q_3, q_4, q_5, q_6, q_7, q_8].getD j 0, rfl, rfl, rfl, rfl⟩
      · refine ev_aload_n hC dX12_init_91 rfl 0 rfl ?_
        refine ev_get hC fl_X12_9_12 (mw 0 rfl) rfl dX12_init_92 ?_
        refine ev_iconst (v := (nI 2)) hC dX12_init_95 (by decide) ?_
        refine ev_iload_n hC dX12_init_96 rfl 1 rfl ?_
        refine ev_iadd hC dX12_init_97 ?_
        refine ev_top (y := (nI (2 + i))) ((nI_add _ _).trans (congrArg nI (by omega))) ?_
        refine ev_bipush (v := (nI 100)) hC dX12_init_98 (by decide) ?_
        refine ev_iastN (i := 2 + i) (ws' := (List.flatten [[(q, ob 12 [.int 0, .ref q_1, .ref q_2, .ref q_3, .int 0, .int 0, .int 0, .int 0, .int 0, .int 0, .ref q_4, .ref q_5, .int (-1), .ref q_6, .ref q_7, .int 0, .ref q_8, .int 0, .int 0, .int 0, .int 0])], [(q_1, ia G 937 (upd (iniG i) (2 + i) (nI 100)))], [(q_2, ia G 937 (fun _ => 0))], [(q_3, ia G 32 (fun _ => 0))], [(q_4, ia G 6 (fun _ => 0))], [(q_5, za G 64 (fun _ => 0))], [(q_6, ia G 6 (fun _ => 0))], [(q_7, ia G 6 (fun _ => 0))], [(q_8, ia G 20 (fun _ => 0))]])) (q0 := 1) hC rfl (by omega) (by omega) rfl dX12_init_100 ?_
        refine ev_iinc (v := (nI (i + 1))) (lv' := [(1, .int (nI (i + 1))), (0, .ref q)]) hC dX12_init_101 (q := 1) rfl (nI_k _ _ 1 (by decide)) (by decide) rfl ?_
        refine ev_goto (tgt := 85) hC dX12_init_104 (by decide) ?_
        refine ev_lv [1, 0] rfl ?_
        refine ev_ws (ws' := (List.flatten [[(q, ob 12 [.int 0, .ref q_1, .ref q_2, .ref q_3, .int 0, .int 0, .int 0, .int 0, .int 0, .int 0, .ref q_4, .ref q_5, .int (-1), .ref q_6, .ref q_7, .int 0, .ref q_8, .int 0, .int 0, .int 0, .int 0])], [(q_1, ia G 937 (iniG (i + 1)))], [(q_2, ia G 937 (fun _ => 0))], [(q_3, ia G 32 (fun _ => 0))], [(q_4, ia G 6 (fun _ => 0))], [(q_5, za G 64 (fun _ => 0))], [(q_6, ia G 6 (fun _ => 0))], [(q_7, ia G 6 (fun _ => 0))], [(q_8, ia G 20 (fun _ => 0))]])) (by rw [iniG_s (by omega)]) ?_
        exact ih (i + 1) (by omega) (by omega)
  refine ev_ws (ws' := (List.flatten [[(q, ob 12 [.int 0, .ref q_1, .ref q_2, .ref q_3, .int 0, .int 0, .int 0, .int 0, .int 0, .int 0, .ref q_4, .ref q_5, .int (-1), .ref q_6, .ref q_7, .int 0, .ref q_8, .int 0, .int 0, .int 0, .int 0])], [(q_1, ia G 937 (iniG 0))], [(q_2, ia G 937 (fun _ => 0))], [(q_3, ia G 32 (fun _ => 0))], [(q_4, ia G 6 (fun _ => 0))], [(q_5, za G 64 (fun _ => 0))], [(q_6, ia G 6 (fun _ => 0))], [(q_7, ia G 6 (fun _ => 0))], [(q_8, ia G 20 (fun _ => 0))]])) (by rw [iniG_0]) ?_
  refine ev_lv [1, 0] rfl ?_
  exact lp_85 (6 - 0 + 1) 0 (by omega) (Nat.lt_succ_self _)
