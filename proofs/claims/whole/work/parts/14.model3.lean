set_option maxHeartbeats 4000000 in
set_option maxRecDepth 100000 in
theorem m_X12_looks0 (G : GG) (ro : va_W) (a : Nat → Nat) (S I F B T R K D : Nat → Int32) (hI ac sp en iw op mu rd ra ki nu tv : Int32) (p : Nat) (hp : p < 6) (h38 : S 38 = -1) {DD EE : Nat} (hW : WF S DD EE) : Mth G M_X12_looks 1 0 0 [.ref (a 0), .int (nI p)] (MW G a S I F B T R K D hI ac sp en iw op mu rd ra ki nu tv) ro (fun r ws' ro' => ∃ (B' : Nat → Int32), ∃ (T' : Nat → Int32), r = some (.int (angF S p)) ∧ ws' = (MW G a S I F B' T' R K D hI ac sp en iw op mu rd ra ki nu tv) ∧ ro = ro') := by
  refine mth_of (by decide +kernel) (Nat.le_of_ble_eq_true rfl) (fun X hC hR => ?_)
  have b32 := hW.peo.le
  have b33 := hW.tre.le
  have b34 := hW.seen.le
  have b35 := hW.plan.le
  have b36 := hW.book.le
  have b37 := hW.tape.le
  show Ev G X 0 0 0 [(0, .ref (a 0)), (1, .int (nI p))] [] (MW G a S I F B T R K D hI ac sp en iw op mu rd ra ki nu tv) ro
  refine ev_aload_n hC dX12_looks_0 rfl 0 rfl ?_
  refine ev_get hC fl_X12_21_12 (mw 0 rfl) rfl dX12_looks_1 ?_
  refine ev_iconst (v := (nI 0)) hC dX12_looks_4 (by decide) ?_
  refine ev_iload_n hC dX12_looks_5 rfl 1 rfl ?_
  refine ev_iastN (i := 0) (ws' := (MW G a S I F (upd B 0 (nI p)) T R K D hI ac sp en iw op mu rd ra ki nu tv)) (q0 := 4) hC rfl (by omega) (by omega) rfl dX12_looks_6 ?_
  refine ev_aload_n hC dX12_looks_7 rfl 0 rfl ?_
  refine ev_get hC fl_X12_21_12 (mw 0 rfl) rfl dX12_looks_8 ?_
  refine ev_iconst (v := (nI 1)) hC dX12_looks_11 (by decide) ?_
  refine ev_aload_n hC dX12_looks_12 rfl 0 rfl ?_
  refine ev_get hC fl_X12_9_12 (mw 0 rfl) rfl dX12_looks_13 ?_
  refine ev_bipush (v := (nI 39)) hC dX12_looks_16 (by decide) ?_
  refine ev_iload_n hC dX12_looks_18 rfl 1 rfl ?_
  refine ev_iadd hC dX12_looks_19 ?_
  refine ev_top (y := (nI (39 + p))) ((nI_add _ _).trans (congrArg nI (by omega))) ?_
  refine ev_ialdN (i := 39 + p) hC (mw 1 rfl) (by omega) (by omega) dX12_looks_20 ?_
  refine ev_iastN (i := 1) (ws' := (MW G a S I F (upd (upd B 0 (nI p)) 1 (S (39 + p))) T R K D hI ac sp en iw op mu rd ra ki nu tv)) (q0 := 4) hC rfl (by omega) (by omega) rfl dX12_looks_21 ?_
  refine ev_aload_n hC dX12_looks_22 rfl 0 rfl ?_
  refine ev_get hC fl_X12_21_12 (mw 0 rfl) rfl dX12_looks_23 ?_
  refine ev_iconst (v := (nI 2)) hC dX12_looks_26 (by decide) ?_
  refine ev_aload_n hC dX12_looks_27 rfl 0 rfl ?_
  refine ev_get hC fl_X12_9_12 (mw 0 rfl) rfl dX12_looks_28 ?_
  refine ev_bipush (v := (nI 45)) hC dX12_looks_31 (by decide) ?_
  refine ev_iload_n hC dX12_looks_33 rfl 1 rfl ?_
  refine ev_iadd hC dX12_looks_34 ?_
  refine ev_top (y := (nI (45 + p))) ((nI_add _ _).trans (congrArg nI (by omega))) ?_
  refine ev_ialdN (i := 45 + p) hC (mw 1 rfl) (by omega) (by omega) dX12_looks_35 ?_
  refine ev_iastN (i := 2) (ws' := (MW G a S I F (upd (upd (upd B 0 (nI p)) 1 (S (39 + p))) 2 (S (45 + p))) T R K D hI ac sp en iw op mu rd ra ki nu tv)) (q0 := 4) hC rfl (by omega) (by omega) rfl dX12_looks_36 ?_
  refine ev_aload_n hC dX12_looks_37 rfl 0 rfl ?_
  refine ev_get hC fl_X12_21_12 (mw 0 rfl) rfl dX12_looks_38 ?_
  refine ev_iconst (v := (nI 3)) hC dX12_looks_41 (by decide) ?_
  refine ev_aload_n hC dX12_looks_42 rfl 0 rfl ?_
  refine ev_get hC fl_X12_9_12 (mw 0 rfl) rfl dX12_looks_43 ?_
  refine ev_bipush (v := (nI 14)) hC dX12_looks_46 (by decide) ?_
  refine ev_iload_n hC dX12_looks_48 rfl 1 rfl ?_
  refine ev_iadd hC dX12_looks_49 ?_
  refine ev_top (y := (nI (14 + p))) ((nI_add _ _).trans (congrArg nI (by omega))) ?_
  refine ev_ialdN (i := 14 + p) hC (mw 1 rfl) (by omega) (by omega) dX12_looks_50 ?_
  refine ev_iastN (i := 3) (ws' := (MW G a S I F (upd (upd (upd (upd B 0 (nI p)) 1 (S (39 + p))) 2 (S (45 + p))) 3 (S (14 + p))) T R K D hI ac sp en iw op mu rd ra ki nu tv)) (q0 := 4) hC rfl (by omega) (by omega) rfl dX12_looks_51 ?_
  refine ev_aload_n hC dX12_looks_52 rfl 0 rfl ?_
  refine ev_get hC fl_X12_21_12 (mw 0 rfl) rfl dX12_looks_53 ?_
  refine ev_iconst (v := (nI 4)) hC dX12_looks_56 (by decide) ?_
  refine ev_aload_n hC dX12_looks_57 rfl 0 rfl ?_
  refine ev_get hC fl_X12_9_12 (mw 0 rfl) rfl dX12_looks_58 ?_
  refine ev_bipush (v := (nI 20)) hC dX12_looks_61 (by decide) ?_
  refine ev_iload_n hC dX12_looks_63 rfl 1 rfl ?_
  refine ev_iadd hC dX12_looks_64 ?_
  refine ev_top (y := (nI (20 + p))) ((nI_add _ _).trans (congrArg nI (by omega))) ?_
  refine ev_ialdN (i := 20 + p) hC (mw 1 rfl) (by omega) (by omega) dX12_looks_65 ?_
  refine ev_bipush (v := (nI 10)) hC dX12_looks_66 (by decide) ?_
  refine ev_idiv hC dX12_looks_68 (by decide) ?_
  refine ev_iastN (i := 4) (ws' := (MW G a S I F (upd (upd (upd (upd (upd B 0 (nI p)) 1 (S (39 + p))) 2 (S (45 + p))) 3 (S (14 + p))) 4 ((S (20 + p)) / (nI 10))) T R K D hI ac sp en iw op mu rd ra ki nu tv)) (q0 := 4) hC rfl (by omega) (by omega) rfl dX12_looks_69 ?_
  refine ev_aload_n hC dX12_looks_70 rfl 0 rfl ?_
  refine ev_get hC fl_X12_21_12 (mw 0 rfl) rfl dX12_looks_71 ?_
  refine ev_iconst (v := (nI 5)) hC dX12_looks_74 (by decide) ?_
  refine ev_aload_n hC dX12_looks_75 rfl 0 rfl ?_
  refine ev_get hC fl_X12_9_12 (mw 0 rfl) rfl dX12_looks_76 ?_
  refine ev_iconst (v := (nI 0)) hC dX12_looks_79 (by decide) ?_
  refine ev_ialdN (i := 0) hC (mw 1 rfl) (by omega) (by omega) dX12_looks_80 ?_
  refine ev_bipush (v := (nI 10)) hC dX12_looks_81 (by decide) ?_
  refine ev_irem hC dX12_looks_83 (by decide) ?_
  refine ev_iastN (i := 5) (ws' := (MW G a S I F (upd (upd (upd (upd (upd (upd B 0 (nI p)) 1 (S (39 + p))) 2 (S (45 + p))) 3 (S (14 + p))) 4 ((S (20 + p)) / (nI 10))) 5 ((S 0) - (S 0) / (nI 10) * (nI 10))) T R K D hI ac sp en iw op mu rd ra ki nu tv)) (q0 := 4) hC rfl (by omega) (by omega) rfl dX12_looks_84 ?_
  refine ev_iconst (v := (nI 0)) hC dX12_looks_85 (by decide) ?_
  refine ev_istore_n (lv' := [(2, .int (nI 0)), (0, .ref (a 0)), (1, .int (nI p))]) hC dX12_looks_86 rfl (by decide) rfl ?_
  refine ev_aload_n hC dX12_looks_87 rfl 1 rfl ?_
  refine ev_sipush (v := (nI 232)) hC dX12_looks_88 (by decide) ?_
  refine ev_iconst (v := (nI 0)) hC dX12_looks_91 (by decide) ?_
  refine ev_callV (As := [.int (nI 232), .int (nI 0)]) (st := []) (wf := []) hC cv_X12_126 (m_X12_tellsOf G ro a S I F (upd (upd (upd (upd (upd (upd B 0 (nI p)) 1 (S (39 + p))) 2 (S (45 + p))) 3 (S (14 + p))) 4 ((S (20 + p)) / (nI 10))) 5 ((S 0) - (S 0) / (nI 10) * (nI 10))) T R K D hI ac sp en iw op mu rd ra ki nu tv 232 (nI 0) (by omega) hW.hold) (by decide) rfl rfl (Nat.le_of_ble_eq_true rfl) (List.Perm.of_eq (List.append_nil _).symm) (mw 0 rfl) rfl dX12_looks_92 (by decide) (by decide) ?_
  rintro _ _ _ ⟨rfl, rfl, rfl⟩
  refine ev_ws (List.append_nil _) ?_
  show Ev G X 0 0 95 [(2, .int (nI 0)), (0, .ref (a 0)), (1, .int (nI p))] [.int (tellF S 232 (nI 0))] (MW G a S I F (upd (upd (upd (upd (upd (upd B 0 (nI p)) 1 (S (39 + p))) 2 (S (45 + p))) 3 (S (14 + p))) 4 ((S (20 + p)) / (nI 10))) 5 ((S 0) - (S 0) / (nI 10) * (nI 10))) T R K D hI ac sp en iw op mu rd ra ki nu tv) ro
  refine ev_top (y := (nI 0)) (show tellF S 232 (nI 0) = nI 0 from if_pos h38) ?_
  refine ev_istore_n (lv' := [(3, .int (nI 0)), (2, .int (nI 0)), (0, .ref (a 0)), (1, .int (nI p))]) hC dX12_looks_95 rfl (by decide) rfl ?_
  refine ev_sipush (v := (nI 237)) hC dX12_looks_96 (by decide) ?_
  refine ev_sipush (v := (nI 140)) hC dX12_looks_99 (by decide) ?_
  refine ev_aload_n hC dX12_looks_102 rfl 2 rfl ?_
  refine ev_get hC fl_X12_9_12 (mw 0 rfl) rfl dX12_looks_103 ?_
  refine ev_bipush (v := (nI 38)) hC dX12_looks_106 (by decide) ?_
  refine ev_ialdN (i := 38) hC (mw 1 rfl) (by omega) (by omega) dX12_looks_108 ?_
  refine ev_top (y := (-1)) h38 ?_
  refine ev_imul hC dX12_looks_109 ?_
  refine ev_iadd hC dX12_looks_110 ?_
  refine ev_top (y := (nI 97)) (by decide) ?_
  refine ev_istore (lv' := [(4, .int (nI 97)), (3, .int (nI 0)), (2, .int (nI 0)), (0, .ref (a 0)), (1, .int (nI p))]) hC dX12_looks_111 (by decide) rfl ?_
  refine ev_iconst (v := (nI 0)) hC dX12_looks_113 (by decide) ?_
  refine ev_istore (lv' := [(5, .int (nI 0)), (4, .int (nI 97)), (3, .int (nI 0)), (2, .int (nI 0)), (0, .ref (a 0)), (1, .int (nI p))]) hC dX12_looks_114 (by decide) rfl ?_
  refine ev_iload hC dX12_looks_116 1 rfl ?_
  refine ev_istore (lv' := [(6, .int (nI 97)), (5, .int (nI 0)), (4, .int (nI 97)), (3, .int (nI 0)), (2, .int (nI 0)), (0, .ref (a 0)), (1, .int (nI p))]) hC dX12_looks_118 (by decide) rfl ?_
  refine ev_iload hC dX12_looks_120 0 rfl ?_
  refine ev_iload hC dX12_looks_122 2 rfl ?_
  refine ev_iload_n hC dX12_looks_124 rfl 3 rfl ?_
  refine ev_iadd hC dX12_looks_125 ?_
  refine ev_top (y := (nI 97)) ((nI_add _ _).trans (congrArg nI (by omega))) ?_
  refine ev_icmp_geN (tgt := 426) hC dX12_looks_126 (by decide) (by omega) (by omega) (fun c_1 => ?_) (fun c_1 => absurd c_1 (by omega))
  refine ev_iload_n hC dX12_looks_426 rfl 4 rfl ?_
  refine ev_iret hC hR rfl dX12_looks_427 ?_
  exact ⟨_, _, by rw [show angF S p = nI 0 from if_pos h38], rfl, rfl⟩

set_option maxHeartbeats 4000000 in
set_option maxRecDepth 100000 in
theorem m_X12_looks1 (G : GG) (ro : va_W) (a : Nat → Nat) (S I F B T R K D : Nat → Int32) (hI ac sp en iw op mu rd ra ki nu tv : Int32) (p : Nat) (hp : p < 6) (hne : ¬ S 38 = -1) (h1 : NB S 38 4) (h5 : NB S (232 + sn S 38) 100) (h6 : okD (stL S (sn S 38)) 0) {DD EE : Nat} (hW : WF S DD EE) : Mth G M_X12_looks 1 0 0 [.ref (a 0), .int (nI p)] (MW G a S I F B T R K D hI ac sp en iw op mu rd ra ki nu tv) ro (fun r ws' ro' => ∃ (B' : Nat → Int32), ∃ (T' : Nat → Int32), r = some (.int (angF S p)) ∧ ws' = (MW G a S I F B' T' R K D hI ac sp en iw op mu rd ra ki nu tv) ∧ ro = ro') := by
  refine mth_of (by decide +kernel) (Nat.le_of_ble_eq_true rfl) (fun X hC hR => ?_)
  have l38 := h1.le
  have l232 := h5.le
  show Ev G X 0 0 0 [(0, .ref (a 0)), (1, .int (nI p))] [] (MW G a S I F B T R K D hI ac sp en iw op mu rd ra ki nu tv) ro
  refine ev_aload_n hC dX12_looks_0 rfl 0 rfl ?_
  refine ev_get hC fl_X12_21_12 (mw 0 rfl) rfl dX12_looks_1 ?_
  refine ev_iconst (v := (nI 0)) hC dX12_looks_4 (by decide) ?_
  refine ev_iload_n hC dX12_looks_5 rfl 1 rfl ?_
  refine ev_iastN (i := 0) (ws' := (MW G a S I F (upd B 0 (nI p)) T R K D hI ac sp en iw op mu rd ra ki nu tv)) (q0 := 4) hC rfl (by omega) (by omega) rfl dX12_looks_6 ?_
  refine ev_aload_n hC dX12_looks_7 rfl 0 rfl ?_
  refine ev_get hC fl_X12_21_12 (mw 0 rfl) rfl dX12_looks_8 ?_
  refine ev_iconst (v := (nI 1)) hC dX12_looks_11 (by decide) ?_
  refine ev_aload_n hC dX12_looks_12 rfl 0 rfl ?_
  refine ev_get hC fl_X12_9_12 (mw 0 rfl) rfl dX12_looks_13 ?_
  refine ev_bipush (v := (nI 39)) hC dX12_looks_16 (by decide) ?_
  refine ev_iload_n hC dX12_looks_18 rfl 1 rfl ?_
  refine ev_iadd hC dX12_looks_19 ?_
  refine ev_top (y := (nI (39 + p))) ((nI_add _ _).trans (congrArg nI (by omega))) ?_
  refine ev_ialdN (i := 39 + p) hC (mw 1 rfl) (by omega) (by omega) dX12_looks_20 ?_
  refine ev_iastN (i := 1) (ws' := (MW G a S I F (upd (upd B 0 (nI p)) 1 (S (39 + p))) T R K D hI ac sp en iw op mu rd ra ki nu tv)) (q0 := 4) hC rfl (by omega) (by omega) rfl dX12_looks_21 ?_
  refine ev_aload_n hC dX12_looks_22 rfl 0 rfl ?_
  refine ev_get hC fl_X12_21_12 (mw 0 rfl) rfl dX12_looks_23 ?_
  refine ev_iconst (v := (nI 2)) hC dX12_looks_26 (by decide) ?_
  refine ev_aload_n hC dX12_looks_27 rfl 0 rfl ?_
  refine ev_get hC fl_X12_9_12 (mw 0 rfl) rfl dX12_looks_28 ?_
  refine ev_bipush (v := (nI 45)) hC dX12_looks_31 (by decide) ?_
  refine ev_iload_n hC dX12_looks_33 rfl 1 rfl ?_
  refine ev_iadd hC dX12_looks_34 ?_
  refine ev_top (y := (nI (45 + p))) ((nI_add _ _).trans (congrArg nI (by omega))) ?_
  refine ev_ialdN (i := 45 + p) hC (mw 1 rfl) (by omega) (by omega) dX12_looks_35 ?_
  refine ev_iastN (i := 2) (ws' := (MW G a S I F (upd (upd (upd B 0 (nI p)) 1 (S (39 + p))) 2 (S (45 + p))) T R K D hI ac sp en iw op mu rd ra ki nu tv)) (q0 := 4) hC rfl (by omega) (by omega) rfl dX12_looks_36 ?_
  refine ev_aload_n hC dX12_looks_37 rfl 0 rfl ?_
  refine ev_get hC fl_X12_21_12 (mw 0 rfl) rfl dX12_looks_38 ?_
  refine ev_iconst (v := (nI 3)) hC dX12_looks_41 (by decide) ?_
  refine ev_aload_n hC dX12_looks_42 rfl 0 rfl ?_
  refine ev_get hC fl_X12_9_12 (mw 0 rfl) rfl dX12_looks_43 ?_
  refine ev_bipush (v := (nI 14)) hC dX12_looks_46 (by decide) ?_
  refine ev_iload_n hC dX12_looks_48 rfl 1 rfl ?_
  refine ev_iadd hC dX12_looks_49 ?_
  refine ev_top (y := (nI (14 + p))) ((nI_add _ _).trans (congrArg nI (by omega))) ?_
  refine ev_ialdN (i := 14 + p) hC (mw 1 rfl) (by omega) (by omega) dX12_looks_50 ?_
  refine ev_iastN (i := 3) (ws' := (MW G a S I F (upd (upd (upd (upd B 0 (nI p)) 1 (S (39 + p))) 2 (S (45 + p))) 3 (S (14 + p))) T R K D hI ac sp en iw op mu rd ra ki nu tv)) (q0 := 4) hC rfl (by omega) (by omega) rfl dX12_looks_51 ?_
  refine ev_aload_n hC dX12_looks_52 rfl 0 rfl ?_
  refine ev_get hC fl_X12_21_12 (mw 0 rfl) rfl dX12_looks_53 ?_
  refine ev_iconst (v := (nI 4)) hC dX12_looks_56 (by decide) ?_
  refine ev_aload_n hC dX12_looks_57 rfl 0 rfl ?_
  refine ev_get hC fl_X12_9_12 (mw 0 rfl) rfl dX12_looks_58 ?_
  refine ev_bipush (v := (nI 20)) hC dX12_looks_61 (by decide) ?_
  refine ev_iload_n hC dX12_looks_63 rfl 1 rfl ?_
  refine ev_iadd hC dX12_looks_64 ?_
  refine ev_top (y := (nI (20 + p))) ((nI_add _ _).trans (congrArg nI (by omega))) ?_
  refine ev_ialdN (i := 20 + p) hC (mw 1 rfl) (by omega) (by omega) dX12_looks_65 ?_
  refine ev_bipush (v := (nI 10)) hC dX12_looks_66 (by decide) ?_
  refine ev_idiv hC dX12_looks_68 (by decide) ?_
  refine ev_iastN (i := 4) (ws' := (MW G a S I F (upd (upd (upd (upd (upd B 0 (nI p)) 1 (S (39 + p))) 2 (S (45 + p))) 3 (S (14 + p))) 4 ((S (20 + p)) / (nI 10))) T R K D hI ac sp en iw op mu rd ra ki nu tv)) (q0 := 4) hC rfl (by omega) (by omega) rfl dX12_looks_69 ?_
  refine ev_aload_n hC dX12_looks_70 rfl 0 rfl ?_
  refine ev_get hC fl_X12_21_12 (mw 0 rfl) rfl dX12_looks_71 ?_
  refine ev_iconst (v := (nI 5)) hC dX12_looks_74 (by decide) ?_
  refine ev_aload_n hC dX12_looks_75 rfl 0 rfl ?_
  refine ev_get hC fl_X12_9_12 (mw 0 rfl) rfl dX12_looks_76 ?_
  refine ev_iconst (v := (nI 0)) hC dX12_looks_79 (by decide) ?_
  refine ev_ialdN (i := 0) hC (mw 1 rfl) (by omega) (by omega) dX12_looks_80 ?_
  refine ev_bipush (v := (nI 10)) hC dX12_looks_81 (by decide) ?_
  refine ev_irem hC dX12_looks_83 (by decide) ?_
  refine ev_iastN (i := 5) (ws' := (MW G a S I F (upd (upd (upd (upd (upd (upd B 0 (nI p)) 1 (S (39 + p))) 2 (S (45 + p))) 3 (S (14 + p))) 4 ((S (20 + p)) / (nI 10))) 5 ((S 0) - (S 0) / (nI 10) * (nI 10))) T R K D hI ac sp en iw op mu rd ra ki nu tv)) (q0 := 4) hC rfl (by omega) (by omega) rfl dX12_looks_84 ?_
  have hBy : ∀ j, j < 6 → (upd (upd (upd (upd (upd (upd B 0 (nI p)) 1 (S (39 + p))) 2 (S (45 + p))) 3 (S (14 + p))) 4 ((S (20 + p)) / (nI 10))) 5 ((S 0) - (S 0) / (nI 10) * (nI 10))) j = byF S p j := by
    intro j hj
    rcases (show j = 0 ∨ j = 1 ∨ j = 2 ∨ j = 3 ∨ j = 4 ∨ j = 5 by omega) with rfl | rfl | rfl | rfl | rfl | rfl <;> simp [upd, byF]
  generalize (upd (upd (upd (upd (upd (upd B 0 (nI p)) 1 (S (39 + p))) 2 (S (45 + p))) 3 (S (14 + p))) 4 ((S (20 + p)) / (nI 10))) 5 ((S 0) - (S 0) / (nI 10) * (nI 10))) = B' at hBy ⊢
  refine ev_iconst (v := (nI 0)) hC dX12_looks_85 (by decide) ?_
  refine ev_istore_n (lv' := [(2, .int (nI 0)), (0, .ref (a 0)), (1, .int (nI p))]) hC dX12_looks_86 rfl (by decide) rfl ?_
  refine ev_aload_n hC dX12_looks_87 rfl 1 rfl ?_
  refine ev_sipush (v := (nI 232)) hC dX12_looks_88 (by decide) ?_
  refine ev_iconst (v := (nI 0)) hC dX12_looks_91 (by decide) ?_
  refine ev_callV (As := [.int (nI 232), .int (nI 0)]) (st := []) (wf := []) hC cv_X12_126 (m_X12_tellsOf G ro a S I F B' T R K D hI ac sp en iw op mu rd ra ki nu tv 232 (nI 0) (by omega) hW.hold) (by decide) rfl rfl (Nat.le_of_ble_eq_true rfl) (List.Perm.of_eq (List.append_nil _).symm) (mw 0 rfl) rfl dX12_looks_92 (by decide) (by decide) ?_
  rintro _ _ _ ⟨rfl, rfl, rfl⟩
  refine ev_ws (List.append_nil _) ?_
  show Ev G X 0 0 95 [(2, .int (nI 0)), (0, .ref (a 0)), (1, .int (nI p))] [.int (tellF S 232 (nI 0))] (MW G a S I F B' T R K D hI ac sp en iw op mu rd ra ki nu tv) ro
  refine ev_top (y := (nI (sn S (232 + sn S 38)))) ((if_neg hne).trans h5.eq) ?_
  refine ev_istore_n (lv' := [(3, .int (nI (sn S (232 + sn S 38)))), (2, .int (nI 0)), (0, .ref (a 0)), (1, .int (nI p))]) hC dX12_looks_95 rfl (by decide) rfl ?_
  refine ev_sipush (v := (nI 237)) hC dX12_looks_96 (by decide) ?_
  refine ev_sipush (v := (nI 140)) hC dX12_looks_99 (by decide) ?_
  refine ev_aload_n hC dX12_looks_102 rfl 2 rfl ?_
  refine ev_get hC fl_X12_9_12 (mw 0 rfl) rfl dX12_looks_103 ?_
  refine ev_bipush (v := (nI 38)) hC dX12_looks_106 (by decide) ?_
  refine ev_ialdN (i := 38) hC (mw 1 rfl) (by omega) (by omega) dX12_looks_108 ?_
  have bk_1 : NB S 38 _ := h1
  have k_1 := bk_1.eq
  have lk_1 := bk_1.le
  have mk_1 := bk_1.lt
  refine ev_top (y := (nI (sn S 38))) k_1 ?_
  refine ev_imul hC dX12_looks_109 ?_
  refine ev_top (y := (nI (140 * (sn S 38)))) (pk_mul _ _) ?_
  refine ev_iadd hC dX12_looks_110 ?_
  refine ev_top (y := (nI (237 + (140 * (sn S 38))))) ((nI_add _ _).trans (congrArg nI (by omega))) ?_
  refine ev_istore (lv' := [(4, .int (nI (237 + (140 * (sn S 38))))), (3, .int (nI (sn S (232 + sn S 38)))), (2, .int (nI 0)), (0, .ref (a 0)), (1, .int (nI p))]) hC dX12_looks_111 (by decide) rfl ?_
  refine ev_iconst (v := (nI 0)) hC dX12_looks_113 (by decide) ?_
  refine ev_istore (lv' := [(5, .int (nI 0)), (4, .int (nI (237 + (140 * (sn S 38))))), (3, .int (nI (sn S (232 + sn S 38)))), (2, .int (nI 0)), (0, .ref (a 0)), (1, .int (nI p))]) hC dX12_looks_114 (by decide) rfl ?_
  refine ev_iload hC dX12_looks_116 1 rfl ?_
  refine ev_istore (lv' := [(6, .int (nI (237 + (140 * (sn S 38))))), (5, .int (nI 0)), (4, .int (nI (237 + (140 * (sn S 38))))), (3, .int (nI (sn S (232 + sn S 38)))), (2, .int (nI 0)), (0, .ref (a 0)), (1, .int (nI p))]) hC dX12_looks_118 (by decide) rfl ?_
  have lp_120 : ∀ (n : Nat) (j : Nat) (rest : List Int32) (stk : List Bool) (T' : Nat → Int32) (sum : Int32) (hj : j + rest.length = sn S (232 + sn S 38)) (hr : (stL S (sn S 38)).drop j = rest) (hok : okD rest stk.length) (hlen : stk.length ≤ 20) (hT : repT T' stk) (hev : evL (byF S p) rest stk sum = angF S p) (hn : sn S (232 + sn S 38) - j < n), Ev G X 0 0 120 [(0, .ref (a 0)), (1, .int (nI p)), (2, .int sum), (3, .int (nI (sn S (232 + sn S 38)))), (4, .int (nI (237 + 140 * sn S 38))), (5, .int (nI stk.length)), (6, .int (nI (237 + 140 * sn S 38 + j)))] [] (MW G a S I F B' T' R K D hI ac sp en iw op mu rd ra ki nu tv) ro := by
    intro n
    induction n with
    | zero => intro j rest stk T' sum hj hr hok hlen hT hev hn; exact absurd hn (Nat.not_lt_zero _)
    | succ n ih =>
      intro j rest stk T' sum hj hr hok hlen hT hev hn
      refine ev_iload hC dX12_looks_120 6 rfl ?_
      refine ev_iload hC dX12_looks_122 4 rfl ?_
      refine ev_iload_n hC dX12_looks_124 rfl 3 rfl ?_
      refine ev_iadd hC dX12_looks_125 ?_
      refine ev_top (y := (nI ((237 + 140 * sn S 38) + (sn S (232 + sn S 38))))) ((nI_add _ _).trans (congrArg nI (by omega))) ?_
      refine ev_icmp_geN (tgt := 426) hC dX12_looks_126 (by decide) (by omega) (by omega) (fun c_2 => ?_) (fun c_2 => ?_)
      · refine ev_iload_n hC dX12_looks_426 rfl 2 rfl ?_
        refine ev_iret hC hR rfl dX12_looks_427 ?_
        obtain rfl : rest = [] := List.eq_nil_of_length_eq_zero (by omega)
        exact ⟨_, _, by rw [← hev]; rfl, rfl, rfl⟩
      · obtain ⟨s, rest', rfl⟩ : ∃ s r, rest = s :: r := by cases rest with | nil => exact absurd hj (by simp only [List.length_nil]; omega) | cons s r => exact ⟨s, r, rfl⟩
        obtain ⟨hs1, hr'⟩ := drop_cons hr
        have hs : S (237 + 140 * sn S 38 + j) = s := stL_at hs1
        have hj' : j + 1 + rest'.length = sn S (232 + sn S 38) := by simp only [List.length_cons] at hj; omega
        refine ev_aload_n hC dX12_looks_129 rfl 0 rfl ?_
        refine ev_get hC fl_X12_9_12 (mw 0 rfl) rfl dX12_looks_130 ?_
        refine ev_iload hC dX12_looks_133 6 rfl ?_
        refine ev_ialdN (i := 237 + 140 * sn S 38 + j) hC (mw 1 rfl) (by omega) (by omega) dX12_looks_135 ?_
        refine ev_top (y := s) hs ?_
        refine ev_istore (lv' := [(7, .int s), (0, .ref (a 0)), (1, .int (nI p)), (2, .int sum), (3, .int (nI (sn S (232 + sn S 38)))), (4, .int (nI (237 + 140 * sn S 38))), (5, .int (nI stk.length)), (6, .int (nI (237 + 140 * sn S 38 + j)))]) hC dX12_looks_136 (by decide) rfl ?_
        refine ev_iload hC dX12_looks_138 0 rfl ?_
        refine ev_if_lt (tgt := 237) hC dX12_looks_140 (by decide) (fun c_3 => ?_) (fun c_3 => ?_)
        · refine ev_iload hC dX12_looks_237 0 rfl ?_
          refine ev_iconst (v := (-1)) hC dX12_looks_239 (by decide) ?_
          refine ev_icmp_ne (tgt := 272) hC dX12_looks_240 (by decide) (fun c_4 => ?_) (fun c_4 => ?_)
          · refine ev_iload hC dX12_looks_272 0 rfl ?_
            refine ev_bipush (v := (-10)) hC dX12_looks_274 (by decide) ?_
            refine ev_icmp_le (tgt := 358) hC dX12_looks_276 (by decide) (fun c_5 => ?_) (fun c_5 => ?_)
            · obtain ⟨o0, o1, hok'⟩ := okD_mark (by assumption) hok
              obtain ⟨b, rfl⟩ : ∃ b, stk = [b] := by
                rcases stk with _ | ⟨b, _ | ⟨c, l⟩⟩
                · exact absurd o1 (by decide)
                · exact ⟨b, rfl⟩
                · exact absurd o1 (by simp)
              obtain ⟨t1, -⟩ := hT
              refine ev_iconst (v := (nI 0)) hC dX12_looks_358 (by decide) ?_
              refine ev_istore (lv' := [(5, .int (nI 0)), (7, .int s), (0, .ref (a 0)), (1, .int (nI p)), (2, .int sum), (3, .int (nI (sn S (232 + sn S 38)))), (4, .int (nI (237 + 140 * sn S 38))), (6, .int (nI (237 + 140 * sn S 38 + j)))]) hC dX12_looks_359 (by decide) rfl ?_
              refine ev_aload_n hC dX12_looks_361 rfl 2 rfl ?_
              refine ev_get hC fl_X12_24_12 (mw 0 rfl) rfl dX12_looks_362 ?_
              refine ev_iconst (v := (nI 0)) hC dX12_looks_365 (by decide) ?_
              refine ev_zaldN (i := 0) hC (mw 5 rfl) (by omega) (by omega) dX12_looks_366 ?_
              refine ev_top (y := (bI (b = true))) t1 ?_
              refine ev_istore (lv' := [(8, .int (bI (b = true))), (5, .int (nI 0)), (7, .int s), (0, .ref (a 0)), (1, .int (nI p)), (2, .int sum), (3, .int (nI (sn S (232 + sn S 38)))), (4, .int (nI (237 + 140 * sn S 38))), (6, .int (nI (237 + 140 * sn S 38 + j)))]) hC dX12_looks_367 (by decide) rfl ?_
              refine ev_iload_n hC dX12_looks_369 rfl 5 rfl ?_
              refine ev_iload hC dX12_looks_370 0 rfl ?_
              refine ev_if_eqB (tgt := 391) hC dX12_looks_372 (by decide) (fun c_6 => ?_) (fun c_6 => ?_)
              · refine ev_iconst (v := (nI 0)) hC dX12_looks_391 (by decide) ?_
                refine ev_iadd hC dX12_looks_392 ?_
                refine ev_istore_n (lv' := [(2, .int (sum + (nI 0))), (8, .int (bI (b = true))), (5, .int (nI 0)), (7, .int s), (0, .ref (a 0)), (1, .int (nI p)), (3, .int (nI (sn S (232 + sn S 38)))), (4, .int (nI (237 + 140 * sn S 38))), (6, .int (nI (237 + 140 * sn S 38 + j)))]) hC dX12_looks_393 rfl (by decide) rfl ?_
                refine ev_iload_n hC dX12_looks_394 rfl 0 rfl ?_
                refine ev_iload hC dX12_looks_395 1 rfl ?_
                refine ev_if_eqB (tgt := 417) hC dX12_looks_397 (by decide) (fun c_7 => ?_) (fun c_7 => ?_)
                · refine ev_iconst (v := (nI 0)) hC dX12_looks_417 (by decide) ?_
                  refine ev_isub hC dX12_looks_418 ?_
                  refine ev_istore_n (lv' := [(2, .int ((sum + (nI 0)) - (nI 0))), (8, .int (bI (b = true))), (5, .int (nI 0)), (7, .int s), (0, .ref (a 0)), (1, .int (nI p)), (3, .int (nI (sn S (232 + sn S 38)))), (4, .int (nI (237 + 140 * sn S 38))), (6, .int (nI (237 + 140 * sn S 38 + j)))]) hC dX12_looks_419 rfl (by decide) rfl ?_
                  refine ev_iinc (v := (nI ((237 + 140 * sn S 38 + j) + 1))) (lv' := [(6, .int (nI ((237 + 140 * sn S 38 + j) + 1))), (2, .int ((sum + (nI 0)) - (nI 0))), (8, .int (bI (b = true))), (5, .int (nI 0)), (7, .int s), (0, .ref (a 0)), (1, .int (nI p)), (3, .int (nI (sn S (232 + sn S 38)))), (4, .int (nI (237 + 140 * sn S 38)))]) hC dX12_looks_420 (q := 8) rfl (nI_k _ _ 1 (by decide)) (by decide) rfl ?_
                  refine ev_goto (tgt := 120) hC dX12_looks_423 (by decide) ?_
                  refine ev_lv [5, 6, 1, 7, 8, 3, 0] rfl ?_
                  exact ih (j + 1) rest' [] T' ((sum + (nI 0)) - (nI 0)) hj' hr' hok' (Nat.zero_le _) trivial (evL_mark (by assumption) (by assumption) (by assumption) (by clear hs hs1 hr' hr hev ih hBy; simp_all [mkF, ← Int32.not_le]) hev) (by omega)
                · refine ev_iload hC dX12_looks_400 3 rfl ?_
                  refine ev_sipush (v := (-200)) hC dX12_looks_402 (by decide) ?_
                  refine ev_icmp_gt (tgt := 417) hC dX12_looks_405 (by decide) (fun c_8 => ?_) (fun c_8 => ?_)
                  · refine ev_iconst (v := (nI 0)) hC dX12_looks_417 (by decide) ?_
                    refine ev_isub hC dX12_looks_418 ?_
                    refine ev_istore_n (lv' := [(2, .int ((sum + (nI 0)) - (nI 0))), (8, .int (bI (b = true))), (5, .int (nI 0)), (7, .int s), (0, .ref (a 0)), (1, .int (nI p)), (3, .int (nI (sn S (232 + sn S 38)))), (4, .int (nI (237 + 140 * sn S 38))), (6, .int (nI (237 + 140 * sn S 38 + j)))]) hC dX12_looks_419 rfl (by decide) rfl ?_
                    refine ev_iinc (v := (nI ((237 + 140 * sn S 38 + j) + 1))) (lv' := [(6, .int (nI ((237 + 140 * sn S 38 + j) + 1))), (2, .int ((sum + (nI 0)) - (nI 0))), (8, .int (bI (b = true))), (5, .int (nI 0)), (7, .int s), (0, .ref (a 0)), (1, .int (nI p)), (3, .int (nI (sn S (232 + sn S 38)))), (4, .int (nI (237 + 140 * sn S 38)))]) hC dX12_looks_420 (q := 8) rfl (nI_k _ _ 1 (by decide)) (by decide) rfl ?_
                    refine ev_goto (tgt := 120) hC dX12_looks_423 (by decide) ?_
                    refine ev_lv [5, 6, 1, 7, 8, 3, 0] rfl ?_
                    exact ih (j + 1) rest' [] T' ((sum + (nI 0)) - (nI 0)) hj' hr' hok' (Nat.zero_le _) trivial (evL_mark (by assumption) (by assumption) (by assumption) (by clear hs hs1 hr' hr hev ih hBy; simp_all [mkF, ← Int32.not_le]) hev) (by omega)
                  · refine ev_sipush (v := (-200)) hC dX12_looks_408 (by decide) ?_
                    refine ev_iload hC dX12_looks_411 3 rfl ?_
                    refine ev_isub hC dX12_looks_413 ?_
                    refine ev_goto (tgt := 418) hC dX12_looks_414 (by decide) ?_
                    refine ev_isub hC dX12_looks_418 ?_
                    refine ev_istore_n (lv' := [(2, .int ((sum + (nI 0)) - ((-200) - s))), (8, .int (bI (b = true))), (5, .int (nI 0)), (7, .int s), (0, .ref (a 0)), (1, .int (nI p)), (3, .int (nI (sn S (232 + sn S 38)))), (4, .int (nI (237 + 140 * sn S 38))), (6, .int (nI (237 + 140 * sn S 38 + j)))]) hC dX12_looks_419 rfl (by decide) rfl ?_
                    refine ev_iinc (v := (nI ((237 + 140 * sn S 38 + j) + 1))) (lv' := [(6, .int (nI ((237 + 140 * sn S 38 + j) + 1))), (2, .int ((sum + (nI 0)) - ((-200) - s))), (8, .int (bI (b = true))), (5, .int (nI 0)), (7, .int s), (0, .ref (a 0)), (1, .int (nI p)), (3, .int (nI (sn S (232 + sn S 38)))), (4, .int (nI (237 + 140 * sn S 38)))]) hC dX12_looks_420 (q := 8) rfl (nI_k _ _ 1 (by decide)) (by decide) rfl ?_
                    refine ev_goto (tgt := 120) hC dX12_looks_423 (by decide) ?_
                    refine ev_lv [5, 6, 1, 7, 8, 3, 0] rfl ?_
                    exact ih (j + 1) rest' [] T' ((sum + (nI 0)) - ((-200) - s)) hj' hr' hok' (Nat.zero_le _) trivial (evL_mark (by assumption) (by assumption) (by assumption) (by clear hs hs1 hr' hr hev ih hBy; simp_all [mkF, ← Int32.not_le]) hev) (by omega)
              · refine ev_iload hC dX12_looks_375 2 rfl ?_
                refine ev_sipush (v := (-200)) hC dX12_looks_377 (by decide) ?_
                refine ev_icmp_le (tgt := 391) hC dX12_looks_380 (by decide) (fun c_9 => ?_) (fun c_9 => ?_)
                · refine ev_iconst (v := (nI 0)) hC dX12_looks_391 (by decide) ?_
                  refine ev_iadd hC dX12_looks_392 ?_
                  refine ev_istore_n (lv' := [(2, .int (sum + (nI 0))), (8, .int (bI (b = true))), (5, .int (nI 0)), (7, .int s), (0, .ref (a 0)), (1, .int (nI p)), (3, .int (nI (sn S (232 + sn S 38)))), (4, .int (nI (237 + 140 * sn S 38))), (6, .int (nI (237 + 140 * sn S 38 + j)))]) hC dX12_looks_393 rfl (by decide) rfl ?_
                  refine ev_iload_n hC dX12_looks_394 rfl 0 rfl ?_
                  refine ev_iload hC dX12_looks_395 1 rfl ?_
                  refine ev_if_eqB (tgt := 417) hC dX12_looks_397 (by decide) (fun c_10 => ?_) (fun c_10 => ?_)
                  · refine ev_iconst (v := (nI 0)) hC dX12_looks_417 (by decide) ?_
                    refine ev_isub hC dX12_looks_418 ?_
                    refine ev_istore_n (lv' := [(2, .int ((sum + (nI 0)) - (nI 0))), (8, .int (bI (b = true))), (5, .int (nI 0)), (7, .int s), (0, .ref (a 0)), (1, .int (nI p)), (3, .int (nI (sn S (232 + sn S 38)))), (4, .int (nI (237 + 140 * sn S 38))), (6, .int (nI (237 + 140 * sn S 38 + j)))]) hC dX12_looks_419 rfl (by decide) rfl ?_
                    refine ev_iinc (v := (nI ((237 + 140 * sn S 38 + j) + 1))) (lv' := [(6, .int (nI ((237 + 140 * sn S 38 + j) + 1))), (2, .int ((sum + (nI 0)) - (nI 0))), (8, .int (bI (b = true))), (5, .int (nI 0)), (7, .int s), (0, .ref (a 0)), (1, .int (nI p)), (3, .int (nI (sn S (232 + sn S 38)))), (4, .int (nI (237 + 140 * sn S 38)))]) hC dX12_looks_420 (q := 8) rfl (nI_k _ _ 1 (by decide)) (by decide) rfl ?_
                    refine ev_goto (tgt := 120) hC dX12_looks_423 (by decide) ?_
                    refine ev_lv [5, 6, 1, 7, 8, 3, 0] rfl ?_
                    exact ih (j + 1) rest' [] T' ((sum + (nI 0)) - (nI 0)) hj' hr' hok' (Nat.zero_le _) trivial (evL_mark (by assumption) (by assumption) (by assumption) (by clear hs hs1 hr' hr hev ih hBy; simp_all [mkF, ← Int32.not_le]) hev) (by omega)
                  · refine ev_iload hC dX12_looks_400 3 rfl ?_
                    refine ev_sipush (v := (-200)) hC dX12_looks_402 (by decide) ?_
                    refine ev_icmp_gt (tgt := 417) hC dX12_looks_405 (by decide) (fun c_11 => ?_) (fun c_11 => ?_)
                    · refine ev_iconst (v := (nI 0)) hC dX12_looks_417 (by decide) ?_
                      refine ev_isub hC dX12_looks_418 ?_
                      refine ev_istore_n (lv' := [(2, .int ((sum + (nI 0)) - (nI 0))), (8, .int (bI (b = true))), (5, .int (nI 0)), (7, .int s), (0, .ref (a 0)), (1, .int (nI p)), (3, .int (nI (sn S (232 + sn S 38)))), (4, .int (nI (237 + 140 * sn S 38))), (6, .int (nI (237 + 140 * sn S 38 + j)))]) hC dX12_looks_419 rfl (by decide) rfl ?_
                      refine ev_iinc (v := (nI ((237 + 140 * sn S 38 + j) + 1))) (lv' := [(6, .int (nI ((237 + 140 * sn S 38 + j) + 1))), (2, .int ((sum + (nI 0)) - (nI 0))), (8, .int (bI (b = true))), (5, .int (nI 0)), (7, .int s), (0, .ref (a 0)), (1, .int (nI p)), (3, .int (nI (sn S (232 + sn S 38)))), (4, .int (nI (237 + 140 * sn S 38)))]) hC dX12_looks_420 (q := 8) rfl (nI_k _ _ 1 (by decide)) (by decide) rfl ?_
                      refine ev_goto (tgt := 120) hC dX12_looks_423 (by decide) ?_
                      refine ev_lv [5, 6, 1, 7, 8, 3, 0] rfl ?_
                      exact ih (j + 1) rest' [] T' ((sum + (nI 0)) - (nI 0)) hj' hr' hok' (Nat.zero_le _) trivial (evL_mark (by assumption) (by assumption) (by assumption) (by clear hs hs1 hr' hr hev ih hBy; simp_all [mkF, ← Int32.not_le]) hev) (by omega)
                    · refine ev_sipush (v := (-200)) hC dX12_looks_408 (by decide) ?_
                      refine ev_iload hC dX12_looks_411 3 rfl ?_
                      refine ev_isub hC dX12_looks_413 ?_
                      refine ev_goto (tgt := 418) hC dX12_looks_414 (by decide) ?_
                      refine ev_isub hC dX12_looks_418 ?_
                      refine ev_istore_n (lv' := [(2, .int ((sum + (nI 0)) - ((-200) - s))), (8, .int (bI (b = true))), (5, .int (nI 0)), (7, .int s), (0, .ref (a 0)), (1, .int (nI p)), (3, .int (nI (sn S (232 + sn S 38)))), (4, .int (nI (237 + 140 * sn S 38))), (6, .int (nI (237 + 140 * sn S 38 + j)))]) hC dX12_looks_419 rfl (by decide) rfl ?_
                      refine ev_iinc (v := (nI ((237 + 140 * sn S 38 + j) + 1))) (lv' := [(6, .int (nI ((237 + 140 * sn S 38 + j) + 1))), (2, .int ((sum + (nI 0)) - ((-200) - s))), (8, .int (bI (b = true))), (5, .int (nI 0)), (7, .int s), (0, .ref (a 0)), (1, .int (nI p)), (3, .int (nI (sn S (232 + sn S 38)))), (4, .int (nI (237 + 140 * sn S 38)))]) hC dX12_looks_420 (q := 8) rfl (nI_k _ _ 1 (by decide)) (by decide) rfl ?_
                      refine ev_goto (tgt := 120) hC dX12_looks_423 (by decide) ?_
                      refine ev_lv [5, 6, 1, 7, 8, 3, 0] rfl ?_
                      exact ih (j + 1) rest' [] T' ((sum + (nI 0)) - ((-200) - s)) hj' hr' hok' (Nat.zero_le _) trivial (evL_mark (by assumption) (by assumption) (by assumption) (by clear hs hs1 hr' hr hev ih hBy; simp_all [mkF, ← Int32.not_le]) hev) (by omega)
                · refine ev_bipush (v := (-10)) hC dX12_looks_383 (by decide) ?_
                  refine ev_iload hC dX12_looks_385 2 rfl ?_
                  refine ev_isub hC dX12_looks_387 ?_
                  refine ev_goto (tgt := 392) hC dX12_looks_388 (by decide) ?_
                  refine ev_iadd hC dX12_looks_392 ?_
                  refine ev_istore_n (lv' := [(2, .int (sum + ((-10) - s))), (8, .int (bI (b = true))), (5, .int (nI 0)), (7, .int s), (0, .ref (a 0)), (1, .int (nI p)), (3, .int (nI (sn S (232 + sn S 38)))), (4, .int (nI (237 + 140 * sn S 38))), (6, .int (nI (237 + 140 * sn S 38 + j)))]) hC dX12_looks_393 rfl (by decide) rfl ?_
                  refine ev_iload_n hC dX12_looks_394 rfl 0 rfl ?_
                  refine ev_iload hC dX12_looks_395 1 rfl ?_
                  refine ev_if_eqB (tgt := 417) hC dX12_looks_397 (by decide) (fun c_12 => ?_) (fun c_12 => ?_)
                  · refine ev_iconst (v := (nI 0)) hC dX12_looks_417 (by decide) ?_
                    refine ev_isub hC dX12_looks_418 ?_
                    refine ev_istore_n (lv' := [(2, .int ((sum + ((-10) - s)) - (nI 0))), (8, .int (bI (b = true))), (5, .int (nI 0)), (7, .int s), (0, .ref (a 0)), (1, .int (nI p)), (3, .int (nI (sn S (232 + sn S 38)))), (4, .int (nI (237 + 140 * sn S 38))), (6, .int (nI (237 + 140 * sn S 38 + j)))]) hC dX12_looks_419 rfl (by decide) rfl ?_
                    refine ev_iinc (v := (nI ((237 + 140 * sn S 38 + j) + 1))) (lv' := [(6, .int (nI ((237 + 140 * sn S 38 + j) + 1))), (2, .int ((sum + ((-10) - s)) - (nI 0))), (8, .int (bI (b = true))), (5, .int (nI 0)), (7, .int s), (0, .ref (a 0)), (1, .int (nI p)), (3, .int (nI (sn S (232 + sn S 38)))), (4, .int (nI (237 + 140 * sn S 38)))]) hC dX12_looks_420 (q := 8) rfl (nI_k _ _ 1 (by decide)) (by decide) rfl ?_
                    refine ev_goto (tgt := 120) hC dX12_looks_423 (by decide) ?_
                    refine ev_lv [5, 6, 1, 7, 8, 3, 0] rfl ?_
                    exact ih (j + 1) rest' [] T' ((sum + ((-10) - s)) - (nI 0)) hj' hr' hok' (Nat.zero_le _) trivial (evL_mark (by assumption) (by assumption) (by assumption) (by clear hs hs1 hr' hr hev ih hBy; simp_all [mkF, ← Int32.not_le]) hev) (by omega)
                  · refine ev_iload hC dX12_looks_400 3 rfl ?_
                    refine ev_sipush (v := (-200)) hC dX12_looks_402 (by decide) ?_
                    refine ev_icmp_gt (tgt := 417) hC dX12_looks_405 (by decide) (fun c_13 => ?_) (fun c_13 => ?_)
                    · refine ev_iconst (v := (nI 0)) hC dX12_looks_417 (by decide) ?_
                      refine ev_isub hC dX12_looks_418 ?_
                      refine ev_istore_n (lv' := [(2, .int ((sum + ((-10) - s)) - (nI 0))), (8, .int (bI (b = true))), (5, .int (nI 0)), (7, .int s), (0, .ref (a 0)), (1, .int (nI p)), (3, .int (nI (sn S (232 + sn S 38)))), (4, .int (nI (237 + 140 * sn S 38))), (6, .int (nI (237 + 140 * sn S 38 + j)))]) hC dX12_looks_419 rfl (by decide) rfl ?_
                      refine ev_iinc (v := (nI ((237 + 140 * sn S 38 + j) + 1))) (lv' := [(6, .int (nI ((237 + 140 * sn S 38 + j) + 1))), (2, .int ((sum + ((-10) - s)) - (nI 0))), (8, .int (bI (b = true))), (5, .int (nI 0)), (7, .int s), (0, .ref (a 0)), (1, .int (nI p)), (3, .int (nI (sn S (232 + sn S 38)))), (4, .int (nI (237 + 140 * sn S 38)))]) hC dX12_looks_420 (q := 8) rfl (nI_k _ _ 1 (by decide)) (by decide) rfl ?_
                      refine ev_goto (tgt := 120) hC dX12_looks_423 (by decide) ?_
                      refine ev_lv [5, 6, 1, 7, 8, 3, 0] rfl ?_
                      exact ih (j + 1) rest' [] T' ((sum + ((-10) - s)) - (nI 0)) hj' hr' hok' (Nat.zero_le _) trivial (evL_mark (by assumption) (by assumption) (by assumption) (by clear hs hs1 hr' hr hev ih hBy; simp_all [mkF, ← Int32.not_le]) hev) (by omega)
                    · refine ev_sipush (v := (-200)) hC dX12_looks_408 (by decide) ?_
                      refine ev_iload hC dX12_looks_411 3 rfl ?_
                      refine ev_isub hC dX12_looks_413 ?_
                      refine ev_goto (tgt := 418) hC dX12_looks_414 (by decide) ?_
                      refine ev_isub hC dX12_looks_418 ?_
                      refine ev_istore_n (lv' := [(2, .int ((sum + ((-10) - s)) - ((-200) - s))), (8, .int (bI (b = true))), (5, .int (nI 0)), (7, .int s), (0, .ref (a 0)), (1, .int (nI p)), (3, .int (nI (sn S (232 + sn S 38)))), (4, .int (nI (237 + 140 * sn S 38))), (6, .int (nI (237 + 140 * sn S 38 + j)))]) hC dX12_looks_419 rfl (by decide) rfl ?_
                      refine ev_iinc (v := (nI ((237 + 140 * sn S 38 + j) + 1))) (lv' := [(6, .int (nI ((237 + 140 * sn S 38 + j) + 1))), (2, .int ((sum + ((-10) - s)) - ((-200) - s))), (8, .int (bI (b = true))), (5, .int (nI 0)), (7, .int s), (0, .ref (a 0)), (1, .int (nI p)), (3, .int (nI (sn S (232 + sn S 38)))), (4, .int (nI (237 + 140 * sn S 38)))]) hC dX12_looks_420 (q := 8) rfl (nI_k _ _ 1 (by decide)) (by decide) rfl ?_
                      refine ev_goto (tgt := 120) hC dX12_looks_423 (by decide) ?_
                      refine ev_lv [5, 6, 1, 7, 8, 3, 0] rfl ?_
                      exact ih (j + 1) rest' [] T' ((sum + ((-10) - s)) - ((-200) - s)) hj' hr' hok' (Nat.zero_le _) trivial (evL_mark (by assumption) (by assumption) (by assumption) (by clear hs hs1 hr' hr hev ih hBy; simp_all [mkF, ← Int32.not_le]) hev) (by omega)
            · obtain ⟨o0, o1, hok'⟩ := okD_bin (by assumption) (by assumption) (by assumption) hok
              obtain ⟨b1, b0, stk', rfl⟩ : ∃ b1 b0 l, stk = b1 :: b0 :: l := by
                rcases stk with _ | ⟨b1, _ | ⟨b0, l⟩⟩
                · exact absurd o1 (by decide)
                · exact absurd o1 (by simp)
                · exact ⟨b1, b0, l, rfl⟩
              obtain ⟨t1, t0, t2⟩ := hT
              have hlen' : stk'.length + 1 + 1 ≤ 20 := hlen
              have t1' : T' (stk'.length + 1) = bI (b1 = true) := t1
              show Ev G X 0 0 279 [(7, .int s), (0, .ref (a 0)), (1, .int (nI p)), (2, .int sum), (3, .int (nI (sn S (232 + sn S 38)))), (4, .int (nI (237 + 140 * sn S 38))), (5, .int (nI (stk'.length + 2))), (6, .int (nI (237 + 140 * sn S 38 + j)))] [] (MW G a S I F B' T' R K D hI ac sp en iw op mu rd ra ki nu tv) ro
              refine ev_iinc (v := (nI (stk'.length + 1))) (lv' := [(5, .int (nI (stk'.length + 1))), (7, .int s), (0, .ref (a 0)), (1, .int (nI p)), (2, .int sum), (3, .int (nI (sn S (232 + sn S 38)))), (4, .int (nI (237 + 140 * sn S 38))), (6, .int (nI (237 + 140 * sn S 38 + j)))]) hC dX12_looks_279 (q := 6) rfl (nI_m _ 1 (by decide) (by omega)) (by decide) rfl ?_
              refine ev_aload_n hC dX12_looks_282 rfl 2 rfl ?_
              refine ev_get hC fl_X12_24_12 (mw 0 rfl) rfl dX12_looks_283 ?_
              refine ev_iload hC dX12_looks_286 0 rfl ?_
              refine ev_iconst (v := (nI 1)) hC dX12_looks_288 (by decide) ?_
              refine ev_isub hC dX12_looks_289 ?_
              refine ev_top (y := (nI stk'.length)) ((pk_sub (by omega)).trans (congrArg nI (by omega))) ?_
              refine ev_iload hC dX12_looks_290 1 rfl ?_
              refine ev_bipush (v := (-2)) hC dX12_looks_292 (by decide) ?_
              refine ev_icmp_ne (tgt := 327) hC dX12_looks_294 (by decide) (fun c_14 => ?_) (fun c_14 => ?_)
              · refine ev_aload_n hC dX12_looks_327 rfl 2 rfl ?_
                refine ev_get hC fl_X12_24_12 (mw 0 rfl) rfl dX12_looks_328 ?_
                refine ev_iload hC dX12_looks_331 0 rfl ?_
                refine ev_iconst (v := (nI 1)) hC dX12_looks_333 (by decide) ?_
                refine ev_isub hC dX12_looks_334 ?_
                refine ev_top (y := (nI stk'.length)) ((pk_sub (by omega)).trans (congrArg nI (by omega))) ?_
                refine ev_zaldN (i := stk'.length) hC (mw 5 rfl) (by omega) (by omega) dX12_looks_335 ?_
                refine ev_top (y := (bI (b0 = true))) t0 ?_
                refine ev_if_neB (tgt := 349) hC dX12_looks_336 (by decide) (fun c_15 => ?_) (fun c_15 => ?_)
                · refine ev_iconst (v := (nI 1)) hC dX12_looks_349 (by decide) ?_
                  refine ev_goto (tgt := 354) hC dX12_looks_350 (by decide) ?_
                  refine ev_zastN (i := stk'.length) (ws' := (MW G a S I F B' (upd T' stk'.length (nI 1)) R K D hI ac sp en iw op mu rd ra ki nu tv)) (q0 := 5) hC rfl (by omega) (by omega) (nar_01 (by decide)).2.2 rfl dX12_looks_354 ?_
                  refine ev_goto (tgt := 420) hC dX12_looks_355 (by decide) ?_
                  refine ev_iinc (v := (nI ((237 + 140 * sn S 38 + j) + 1))) (lv' := [(6, .int (nI ((237 + 140 * sn S 38 + j) + 1))), (5, .int (nI (stk'.length + 1))), (7, .int s), (0, .ref (a 0)), (1, .int (nI p)), (2, .int sum), (3, .int (nI (sn S (232 + sn S 38)))), (4, .int (nI (237 + 140 * sn S 38)))]) hC dX12_looks_420 (q := 7) rfl (nI_k _ _ 1 (by decide)) (by decide) rfl ?_
                  refine ev_goto (tgt := 120) hC dX12_looks_423 (by decide) ?_
                  refine ev_lv [3, 4, 5, 6, 7, 1, 0] rfl ?_
                  exact ih (j + 1) rest' (true :: stk') (upd T' stk'.length (nI 1)) sum hj' hr' hok' (by simp only [List.length_cons] at hlen ⊢; omega) (repT_push t2 (by decide)) (evL_bin (by assumption) (by assumption) (by assumption) (by clear hs hs1 hr' hr hev ih hBy; simp_all) hev) (by omega)
                · refine ev_aload_n hC dX12_looks_339 rfl 2 rfl ?_
                  refine ev_get hC fl_X12_24_12 (mw 0 rfl) rfl dX12_looks_340 ?_
                  refine ev_iload hC dX12_looks_343 0 rfl ?_
                  refine ev_zaldN (i := stk'.length + 1) hC (mw 5 rfl) (by omega) (by omega) dX12_looks_345 ?_
                  refine ev_top (y := (bI (b1 = true))) t1' ?_
                  refine ev_if_eqB (tgt := 353) hC dX12_looks_346 (by decide) (fun c_16 => ?_) (fun c_16 => ?_)
                  · refine ev_iconst (v := (nI 0)) hC dX12_looks_353 (by decide) ?_
                    refine ev_zastN (i := stk'.length) (ws' := (MW G a S I F B' (upd T' stk'.length (nI 0)) R K D hI ac sp en iw op mu rd ra ki nu tv)) (q0 := 5) hC rfl (by omega) (by omega) (nar_01 (by decide)).2.2 rfl dX12_looks_354 ?_
                    refine ev_goto (tgt := 420) hC dX12_looks_355 (by decide) ?_
                    refine ev_iinc (v := (nI ((237 + 140 * sn S 38 + j) + 1))) (lv' := [(6, .int (nI ((237 + 140 * sn S 38 + j) + 1))), (5, .int (nI (stk'.length + 1))), (7, .int s), (0, .ref (a 0)), (1, .int (nI p)), (2, .int sum), (3, .int (nI (sn S (232 + sn S 38)))), (4, .int (nI (237 + 140 * sn S 38)))]) hC dX12_looks_420 (q := 7) rfl (nI_k _ _ 1 (by decide)) (by decide) rfl ?_
                    refine ev_goto (tgt := 120) hC dX12_looks_423 (by decide) ?_
                    refine ev_lv [3, 4, 5, 6, 7, 1, 0] rfl ?_
                    exact ih (j + 1) rest' (false :: stk') (upd T' stk'.length (nI 0)) sum hj' hr' hok' (by simp only [List.length_cons] at hlen ⊢; omega) (repT_push t2 (by decide)) (evL_bin (by assumption) (by assumption) (by assumption) (by clear hs hs1 hr' hr hev ih hBy; simp_all) hev) (by omega)
                  · refine ev_iconst (v := (nI 1)) hC dX12_looks_349 (by decide) ?_
                    refine ev_goto (tgt := 354) hC dX12_looks_350 (by decide) ?_
                    refine ev_zastN (i := stk'.length) (ws' := (MW G a S I F B' (upd T' stk'.length (nI 1)) R K D hI ac sp en iw op mu rd ra ki nu tv)) (q0 := 5) hC rfl (by omega) (by omega) (nar_01 (by decide)).2.2 rfl dX12_looks_354 ?_
                    refine ev_goto (tgt := 420) hC dX12_looks_355 (by decide) ?_
                    refine ev_iinc (v := (nI ((237 + 140 * sn S 38 + j) + 1))) (lv' := [(6, .int (nI ((237 + 140 * sn S 38 + j) + 1))), (5, .int (nI (stk'.length + 1))), (7, .int s), (0, .ref (a 0)), (1, .int (nI p)), (2, .int sum), (3, .int (nI (sn S (232 + sn S 38)))), (4, .int (nI (237 + 140 * sn S 38)))]) hC dX12_looks_420 (q := 7) rfl (nI_k _ _ 1 (by decide)) (by decide) rfl ?_
                    refine ev_goto (tgt := 120) hC dX12_looks_423 (by decide) ?_
                    refine ev_lv [3, 4, 5, 6, 7, 1, 0] rfl ?_
                    exact ih (j + 1) rest' (true :: stk') (upd T' stk'.length (nI 1)) sum hj' hr' hok' (by simp only [List.length_cons] at hlen ⊢; omega) (repT_push t2 (by decide)) (evL_bin (by assumption) (by assumption) (by assumption) (by clear hs hs1 hr' hr hev ih hBy; simp_all) hev) (by omega)
              · refine ev_aload_n hC dX12_looks_297 rfl 2 rfl ?_
                refine ev_get hC fl_X12_24_12 (mw 0 rfl) rfl dX12_looks_298 ?_
                refine ev_iload hC dX12_looks_301 0 rfl ?_
                refine ev_iconst (v := (nI 1)) hC dX12_looks_303 (by decide) ?_
                refine ev_isub hC dX12_looks_304 ?_
                refine ev_top (y := (nI stk'.length)) ((pk_sub (by omega)).trans (congrArg nI (by omega))) ?_
                refine ev_zaldN (i := stk'.length) hC (mw 5 rfl) (by omega) (by omega) dX12_looks_305 ?_
                refine ev_top (y := (bI (b0 = true))) t0 ?_
                refine ev_if_eqB (tgt := 323) hC dX12_looks_306 (by decide) (fun c_17 => ?_) (fun c_17 => ?_)
                · refine ev_iconst (v := (nI 0)) hC dX12_looks_323 (by decide) ?_
                  refine ev_goto (tgt := 354) hC dX12_looks_324 (by decide) ?_
                  refine ev_zastN (i := stk'.length) (ws' := (MW G a S I F B' (upd T' stk'.length (nI 0)) R K D hI ac sp en iw op mu rd ra ki nu tv)) (q0 := 5) hC rfl (by omega) (by omega) (nar_01 (by decide)).2.2 rfl dX12_looks_354 ?_
                  refine ev_goto (tgt := 420) hC dX12_looks_355 (by decide) ?_
                  refine ev_iinc (v := (nI ((237 + 140 * sn S 38 + j) + 1))) (lv' := [(6, .int (nI ((237 + 140 * sn S 38 + j) + 1))), (5, .int (nI (stk'.length + 1))), (7, .int s), (0, .ref (a 0)), (1, .int (nI p)), (2, .int sum), (3, .int (nI (sn S (232 + sn S 38)))), (4, .int (nI (237 + 140 * sn S 38)))]) hC dX12_looks_420 (q := 7) rfl (nI_k _ _ 1 (by decide)) (by decide) rfl ?_
                  refine ev_goto (tgt := 120) hC dX12_looks_423 (by decide) ?_
                  refine ev_lv [3, 4, 5, 6, 7, 1, 0] rfl ?_
                  exact ih (j + 1) rest' (false :: stk') (upd T' stk'.length (nI 0)) sum hj' hr' hok' (by simp only [List.length_cons] at hlen ⊢; omega) (repT_push t2 (by decide)) (evL_bin (by assumption) (by assumption) (by assumption) (by clear hs hs1 hr' hr hev ih hBy; simp_all) hev) (by omega)
                · refine ev_aload_n hC dX12_looks_309 rfl 2 rfl ?_
                  refine ev_get hC fl_X12_24_12 (mw 0 rfl) rfl dX12_looks_310 ?_
                  refine ev_iload hC dX12_looks_313 0 rfl ?_
                  refine ev_zaldN (i := stk'.length + 1) hC (mw 5 rfl) (by omega) (by omega) dX12_looks_315 ?_
                  refine ev_top (y := (bI (b1 = true))) t1' ?_
                  refine ev_if_eqB (tgt := 323) hC dX12_looks_316 (by decide) (fun c_18 => ?_) (fun c_18 => ?_)
                  · refine ev_iconst (v := (nI 0)) hC dX12_looks_323 (by decide) ?_
                    refine ev_goto (tgt := 354) hC dX12_looks_324 (by decide) ?_
                    refine ev_zastN (i := stk'.length) (ws' := (MW G a S I F B' (upd T' stk'.length (nI 0)) R K D hI ac sp en iw op mu rd ra ki nu tv)) (q0 := 5) hC rfl (by omega) (by omega) (nar_01 (by decide)).2.2 rfl dX12_looks_354 ?_
                    refine ev_goto (tgt := 420) hC dX12_looks_355 (by decide) ?_
                    refine ev_iinc (v := (nI ((237 + 140 * sn S 38 + j) + 1))) (lv' := [(6, .int (nI ((237 + 140 * sn S 38 + j) + 1))), (5, .int (nI (stk'.length + 1))), (7, .int s), (0, .ref (a 0)), (1, .int (nI p)), (2, .int sum), (3, .int (nI (sn S (232 + sn S 38)))), (4, .int (nI (237 + 140 * sn S 38)))]) hC dX12_looks_420 (q := 7) rfl (nI_k _ _ 1 (by decide)) (by decide) rfl ?_
                    refine ev_goto (tgt := 120) hC dX12_looks_423 (by decide) ?_
                    refine ev_lv [3, 4, 5, 6, 7, 1, 0] rfl ?_
                    exact ih (j + 1) rest' (false :: stk') (upd T' stk'.length (nI 0)) sum hj' hr' hok' (by simp only [List.length_cons] at hlen ⊢; omega) (repT_push t2 (by decide)) (evL_bin (by assumption) (by assumption) (by assumption) (by clear hs hs1 hr' hr hev ih hBy; simp_all) hev) (by omega)
                  · refine ev_iconst (v := (nI 1)) hC dX12_looks_319 (by decide) ?_
                    refine ev_goto (tgt := 354) hC dX12_looks_320 (by decide) ?_
                    refine ev_zastN (i := stk'.length) (ws' := (MW G a S I F B' (upd T' stk'.length (nI 1)) R K D hI ac sp en iw op mu rd ra ki nu tv)) (q0 := 5) hC rfl (by omega) (by omega) (nar_01 (by decide)).2.2 rfl dX12_looks_354 ?_
                    refine ev_goto (tgt := 420) hC dX12_looks_355 (by decide) ?_
                    refine ev_iinc (v := (nI ((237 + 140 * sn S 38 + j) + 1))) (lv' := [(6, .int (nI ((237 + 140 * sn S 38 + j) + 1))), (5, .int (nI (stk'.length + 1))), (7, .int s), (0, .ref (a 0)), (1, .int (nI p)), (2, .int sum), (3, .int (nI (sn S (232 + sn S 38)))), (4, .int (nI (237 + 140 * sn S 38)))]) hC dX12_looks_420 (q := 7) rfl (nI_k _ _ 1 (by decide)) (by decide) rfl ?_
                    refine ev_goto (tgt := 120) hC dX12_looks_423 (by decide) ?_
                    refine ev_lv [3, 4, 5, 6, 7, 1, 0] rfl ?_
                    exact ih (j + 1) rest' (true :: stk') (upd T' stk'.length (nI 1)) sum hj' hr' hok' (by simp only [List.length_cons] at hlen ⊢; omega) (repT_push t2 (by decide)) (evL_bin (by assumption) (by assumption) (by assumption) (by clear hs hs1 hr' hr hev ih hBy; simp_all) hev) (by omega)
          · obtain rfl : s = -1 := by assumption
            obtain ⟨o1, hok'⟩ := okD_not hok
            obtain ⟨b, stk', rfl⟩ : ∃ b l, stk = b :: l := by cases stk with | nil => exact absurd o1 (by decide) | cons b l => exact ⟨b, l, rfl⟩
            obtain ⟨t1, t2⟩ := hT
            have hlen' : stk'.length + 1 ≤ 20 := hlen
            show Ev G X 0 0 243 [(7, .int (-1)), (0, .ref (a 0)), (1, .int (nI p)), (2, .int sum), (3, .int (nI (sn S (232 + sn S 38)))), (4, .int (nI (237 + 140 * sn S 38))), (5, .int (nI (stk'.length + 1))), (6, .int (nI (237 + 140 * sn S 38 + j)))] [] (MW G a S I F B' T' R K D hI ac sp en iw op mu rd ra ki nu tv) ro
            refine ev_aload_n hC dX12_looks_243 rfl 1 rfl ?_
            refine ev_get hC fl_X12_24_12 (mw 0 rfl) rfl dX12_looks_244 ?_
            refine ev_iload hC dX12_looks_247 6 rfl ?_
            refine ev_iconst (v := (nI 1)) hC dX12_looks_249 (by decide) ?_
            refine ev_isub hC dX12_looks_250 ?_
            refine ev_top (y := (nI stk'.length)) ((pk_sub (by omega)).trans (congrArg nI (by omega))) ?_
            refine ev_aload_n hC dX12_looks_251 rfl 1 rfl ?_
            refine ev_get hC fl_X12_24_12 (mw 0 rfl) rfl dX12_looks_252 ?_
            refine ev_iload hC dX12_looks_255 6 rfl ?_
            refine ev_iconst (v := (nI 1)) hC dX12_looks_257 (by decide) ?_
            refine ev_isub hC dX12_looks_258 ?_
            refine ev_top (y := (nI stk'.length)) ((pk_sub (by omega)).trans (congrArg nI (by omega))) ?_
            refine ev_zaldN (i := stk'.length) hC (mw 5 rfl) (by omega) (by omega) dX12_looks_259 ?_
            refine ev_top (y := (bI (b = true))) t1 ?_
            refine ev_if_neB (tgt := 267) hC dX12_looks_260 (by decide) (fun c_19 => ?_) (fun c_19 => ?_)
            · refine ev_iconst (v := (nI 0)) hC dX12_looks_267 (by decide) ?_
              refine ev_zastN (i := stk'.length) (ws' := (MW G a S I F B' (upd T' stk'.length (nI 0)) R K D hI ac sp en iw op mu rd ra ki nu tv)) (q0 := 5) hC rfl (by omega) (by omega) (nar_01 (by decide)).2.2 rfl dX12_looks_268 ?_
              refine ev_goto (tgt := 420) hC dX12_looks_269 (by decide) ?_
              refine ev_iinc (v := (nI ((237 + 140 * sn S 38 + j) + 1))) (lv' := [(6, .int (nI ((237 + 140 * sn S 38 + j) + 1))), (7, .int (-1)), (0, .ref (a 0)), (1, .int (nI p)), (2, .int sum), (3, .int (nI (sn S (232 + sn S 38)))), (4, .int (nI (237 + 140 * sn S 38))), (5, .int (nI (stk'.length + 1)))]) hC dX12_looks_420 (q := 7) rfl (nI_k _ _ 1 (by decide)) (by decide) rfl ?_
              refine ev_goto (tgt := 120) hC dX12_looks_423 (by decide) ?_
              refine ev_lv [2, 3, 4, 5, 6, 7, 0] rfl ?_
              exact ih (j + 1) rest' (false :: stk') (upd T' stk'.length (nI 0)) sum hj' hr' hok' (by simp only [List.length_cons] at hlen ⊢; omega) (repT_push t2 (by decide)) (evL_not (by clear hs hs1 hr' hr hev ih hBy; simp_all) hev) (by omega)
            · refine ev_iconst (v := (nI 1)) hC dX12_looks_263 (by decide) ?_
              refine ev_goto (tgt := 268) hC dX12_looks_264 (by decide) ?_
              refine ev_zastN (i := stk'.length) (ws' := (MW G a S I F B' (upd T' stk'.length (nI 1)) R K D hI ac sp en iw op mu rd ra ki nu tv)) (q0 := 5) hC rfl (by omega) (by omega) (nar_01 (by decide)).2.2 rfl dX12_looks_268 ?_
              refine ev_goto (tgt := 420) hC dX12_looks_269 (by decide) ?_
              refine ev_iinc (v := (nI ((237 + 140 * sn S 38 + j) + 1))) (lv' := [(6, .int (nI ((237 + 140 * sn S 38 + j) + 1))), (7, .int (-1)), (0, .ref (a 0)), (1, .int (nI p)), (2, .int sum), (3, .int (nI (sn S (232 + sn S 38)))), (4, .int (nI (237 + 140 * sn S 38))), (5, .int (nI (stk'.length + 1)))]) hC dX12_looks_420 (q := 7) rfl (nI_k _ _ 1 (by decide)) (by decide) rfl ?_
              refine ev_goto (tgt := 120) hC dX12_looks_423 (by decide) ?_
              refine ev_lv [2, 3, 4, 5, 6, 7, 0] rfl ?_
              exact ih (j + 1) rest' (true :: stk') (upd T' stk'.length (nI 1)) sum hj' hr' hok' (by simp only [List.length_cons] at hlen ⊢; omega) (repT_push t2 (by decide)) (evL_not (by clear hs hs1 hr' hr hev ih hBy; simp_all) hev) (by omega)
        · obtain ⟨k, hk, rfl⟩ := nI_of (by assumption)
          obtain ⟨o1, o2, o3, o4, hok'⟩ := okD_test hk hok
          have hB1 := hBy (k % 8) o2
          refine ev_aload_n hC dX12_looks_143 rfl 1 rfl ?_
          refine ev_get hC fl_X12_21_12 (mw 0 rfl) rfl dX12_looks_144 ?_
          refine ev_iload hC dX12_looks_147 0 rfl ?_
          refine ev_bipush (v := (nI 8)) hC dX12_looks_149 (by decide) ?_
          refine ev_irem hC dX12_looks_151 (by decide) ?_
          refine ev_top (y := (nI (k % 8))) (pk_rem (by omega) (by omega) (by omega)) ?_
          refine ev_ialdN (i := k % 8) hC (mw 4 rfl) (by omega) (by omega) dX12_looks_152 ?_
          refine ev_istore (lv' := [(8, .int (B' (k % 8))), (7, .int (nI k)), (0, .ref (a 0)), (1, .int (nI p)), (2, .int sum), (3, .int (nI (sn S (232 + sn S 38)))), (4, .int (nI (237 + 140 * sn S 38))), (5, .int (nI stk.length)), (6, .int (nI (237 + 140 * sn S 38 + j)))]) hC dX12_looks_153 (by decide) rfl ?_
          refine ev_iload hC dX12_looks_155 1 rfl ?_
          refine ev_bipush (v := (nI 8)) hC dX12_looks_157 (by decide) ?_
          refine ev_idiv hC dX12_looks_159 (by decide) ?_
          refine ev_top (y := (nI (k / 8))) (pk_div (by omega) (by omega) (by omega)) ?_
          refine ev_iconst (v := (nI 4)) hC dX12_looks_160 (by decide) ?_
          refine ev_irem hC dX12_looks_161 (by decide) ?_
          refine ev_top (y := (nI ((k / 8) % 4))) (pk_rem (by omega) (by omega) (by omega)) ?_
          refine ev_istore (lv' := [(9, .int (nI ((k / 8) % 4))), (8, .int (B' (k % 8))), (7, .int (nI k)), (0, .ref (a 0)), (1, .int (nI p)), (2, .int sum), (3, .int (nI (sn S (232 + sn S 38)))), (4, .int (nI (237 + 140 * sn S 38))), (5, .int (nI stk.length)), (6, .int (nI (237 + 140 * sn S 38 + j)))]) hC dX12_looks_162 (by decide) rfl ?_
          refine ev_iload hC dX12_looks_164 2 rfl ?_
          refine ev_bipush (v := (nI 32)) hC dX12_looks_166 (by decide) ?_
          refine ev_idiv hC dX12_looks_168 (by decide) ?_
          refine ev_top (y := (nI (k / 32))) (pk_div (by omega) (by omega) (by omega)) ?_
          refine ev_istore (lv' := [(10, .int (nI (k / 32))), (9, .int (nI ((k / 8) % 4))), (8, .int (B' (k % 8))), (7, .int (nI k)), (0, .ref (a 0)), (1, .int (nI p)), (2, .int sum), (3, .int (nI (sn S (232 + sn S 38)))), (4, .int (nI (237 + 140 * sn S 38))), (5, .int (nI stk.length)), (6, .int (nI (237 + 140 * sn S 38 + j)))]) hC dX12_looks_169 (by decide) rfl ?_
          refine ev_aload_n hC dX12_looks_171 rfl 4 rfl ?_
          refine ev_get hC fl_X12_24_12 (mw 0 rfl) rfl dX12_looks_172 ?_
          refine ev_iload hC dX12_looks_175 9 rfl ?_
          refine ev_iload hC dX12_looks_177 1 rfl ?_
          refine ev_if_neN (tgt := 197) hC dX12_looks_179 (by decide) (by omega) (fun c_20 => ?_) (fun c_20 => ?_)
          · refine ev_iload hC dX12_looks_197 1 rfl ?_
            refine ev_iconst (v := (nI 1)) hC dX12_looks_199 (by decide) ?_
            refine ev_icmp_neN (tgt := 218) hC dX12_looks_200 (by decide) (by omega) (by omega) (fun c_21 => ?_) (fun c_21 => ?_)
            · refine ev_iload hC dX12_looks_218 2 rfl ?_
              refine ev_iload hC dX12_looks_220 0 rfl ?_
              refine ev_icmp_le (tgt := 229) hC dX12_looks_222 (by decide) (fun c_22 => ?_) (fun c_22 => ?_)
              · refine ev_iconst (v := (nI 0)) hC dX12_looks_229 (by decide) ?_
                refine ev_zastN (i := stk.length) (ws' := (MW G a S I F B' (upd T' stk.length (nI 0)) R K D hI ac sp en iw op mu rd ra ki nu tv)) (q0 := 5) hC rfl (by omega) (by omega) (nar_01 (by decide)).2.2 rfl dX12_looks_230 ?_
                refine ev_iinc (v := (nI (stk.length + 1))) (lv' := [(5, .int (nI (stk.length + 1))), (10, .int (nI (k / 32))), (9, .int (nI ((k / 8) % 4))), (8, .int (B' (k % 8))), (7, .int (nI k)), (0, .ref (a 0)), (1, .int (nI p)), (2, .int sum), (3, .int (nI (sn S (232 + sn S 38)))), (4, .int (nI (237 + 140 * sn S 38))), (6, .int (nI (237 + 140 * sn S 38 + j)))]) hC dX12_looks_231 (q := 9) rfl (nI_k _ _ 1 (by decide)) (by decide) rfl ?_
                refine ev_goto (tgt := 420) hC dX12_looks_234 (by decide) ?_
                refine ev_iinc (v := (nI ((237 + 140 * sn S 38 + j) + 1))) (lv' := [(6, .int (nI ((237 + 140 * sn S 38 + j) + 1))), (5, .int (nI (stk.length + 1))), (10, .int (nI (k / 32))), (9, .int (nI ((k / 8) % 4))), (8, .int (B' (k % 8))), (7, .int (nI k)), (0, .ref (a 0)), (1, .int (nI p)), (2, .int sum), (3, .int (nI (sn S (232 + sn S 38)))), (4, .int (nI (237 + 140 * sn S 38)))]) hC dX12_looks_420 (q := 10) rfl (nI_k _ _ 1 (by decide)) (by decide) rfl ?_
                refine ev_goto (tgt := 120) hC dX12_looks_423 (by decide) ?_
                refine ev_lv [6, 7, 8, 9, 10, 1, 0] rfl ?_
                exact ih (j + 1) rest' (false :: stk) (upd T' stk.length (nI 0)) sum hj' hr' hok' (by simp only [List.length_cons]; omega) (repT_push hT (by decide)) (evL_test hk (by unfold tsF; rw [← hB1]; clear hB1 hBy hs hev ih hs1 hr' hr; simp [← Int32.not_le, *]) hev) (by omega)
              · refine ev_iconst (v := (nI 1)) hC dX12_looks_225 (by decide) ?_
                refine ev_goto (tgt := 230) hC dX12_looks_226 (by decide) ?_
                refine ev_zastN (i := stk.length) (ws' := (MW G a S I F B' (upd T' stk.length (nI 1)) R K D hI ac sp en iw op mu rd ra ki nu tv)) (q0 := 5) hC rfl (by omega) (by omega) (nar_01 (by decide)).2.2 rfl dX12_looks_230 ?_
                refine ev_iinc (v := (nI (stk.length + 1))) (lv' := [(5, .int (nI (stk.length + 1))), (10, .int (nI (k / 32))), (9, .int (nI ((k / 8) % 4))), (8, .int (B' (k % 8))), (7, .int (nI k)), (0, .ref (a 0)), (1, .int (nI p)), (2, .int sum), (3, .int (nI (sn S (232 + sn S 38)))), (4, .int (nI (237 + 140 * sn S 38))), (6, .int (nI (237 + 140 * sn S 38 + j)))]) hC dX12_looks_231 (q := 9) rfl (nI_k _ _ 1 (by decide)) (by decide) rfl ?_
                refine ev_goto (tgt := 420) hC dX12_looks_234 (by decide) ?_
                refine ev_iinc (v := (nI ((237 + 140 * sn S 38 + j) + 1))) (lv' := [(6, .int (nI ((237 + 140 * sn S 38 + j) + 1))), (5, .int (nI (stk.length + 1))), (10, .int (nI (k / 32))), (9, .int (nI ((k / 8) % 4))), (8, .int (B' (k % 8))), (7, .int (nI k)), (0, .ref (a 0)), (1, .int (nI p)), (2, .int sum), (3, .int (nI (sn S (232 + sn S 38)))), (4, .int (nI (237 + 140 * sn S 38)))]) hC dX12_looks_420 (q := 10) rfl (nI_k _ _ 1 (by decide)) (by decide) rfl ?_
                refine ev_goto (tgt := 120) hC dX12_looks_423 (by decide) ?_
                refine ev_lv [6, 7, 8, 9, 10, 1, 0] rfl ?_
                exact ih (j + 1) rest' (true :: stk) (upd T' stk.length (nI 1)) sum hj' hr' hok' (by simp only [List.length_cons]; omega) (repT_push hT (by decide)) (evL_test hk (by unfold tsF; rw [← hB1]; clear hB1 hBy hs hev ih hs1 hr' hr; simp [← Int32.not_le, *]) hev) (by omega)
            · refine ev_iload hC dX12_looks_203 2 rfl ?_
              refine ev_iload hC dX12_looks_205 0 rfl ?_
              refine ev_icmp_ne (tgt := 214) hC dX12_looks_207 (by decide) (fun c_23 => ?_) (fun c_23 => ?_)
              · refine ev_iconst (v := (nI 0)) hC dX12_looks_214 (by decide) ?_
                refine ev_goto (tgt := 230) hC dX12_looks_215 (by decide) ?_
                refine ev_zastN (i := stk.length) (ws' := (MW G a S I F B' (upd T' stk.length (nI 0)) R K D hI ac sp en iw op mu rd ra ki nu tv)) (q0 := 5) hC rfl (by omega) (by omega) (nar_01 (by decide)).2.2 rfl dX12_looks_230 ?_
                refine ev_iinc (v := (nI (stk.length + 1))) (lv' := [(5, .int (nI (stk.length + 1))), (10, .int (nI (k / 32))), (9, .int (nI ((k / 8) % 4))), (8, .int (B' (k % 8))), (7, .int (nI k)), (0, .ref (a 0)), (1, .int (nI p)), (2, .int sum), (3, .int (nI (sn S (232 + sn S 38)))), (4, .int (nI (237 + 140 * sn S 38))), (6, .int (nI (237 + 140 * sn S 38 + j)))]) hC dX12_looks_231 (q := 9) rfl (nI_k _ _ 1 (by decide)) (by decide) rfl ?_
                refine ev_goto (tgt := 420) hC dX12_looks_234 (by decide) ?_
                refine ev_iinc (v := (nI ((237 + 140 * sn S 38 + j) + 1))) (lv' := [(6, .int (nI ((237 + 140 * sn S 38 + j) + 1))), (5, .int (nI (stk.length + 1))), (10, .int (nI (k / 32))), (9, .int (nI ((k / 8) % 4))), (8, .int (B' (k % 8))), (7, .int (nI k)), (0, .ref (a 0)), (1, .int (nI p)), (2, .int sum), (3, .int (nI (sn S (232 + sn S 38)))), (4, .int (nI (237 + 140 * sn S 38)))]) hC dX12_looks_420 (q := 10) rfl (nI_k _ _ 1 (by decide)) (by decide) rfl ?_
                refine ev_goto (tgt := 120) hC dX12_looks_423 (by decide) ?_
                refine ev_lv [6, 7, 8, 9, 10, 1, 0] rfl ?_
                exact ih (j + 1) rest' (false :: stk) (upd T' stk.length (nI 0)) sum hj' hr' hok' (by simp only [List.length_cons]; omega) (repT_push hT (by decide)) (evL_test hk (by unfold tsF; rw [← hB1]; clear hB1 hBy hs hev ih hs1 hr' hr; simp [← Int32.not_le, *]) hev) (by omega)
              · refine ev_iconst (v := (nI 1)) hC dX12_looks_210 (by decide) ?_
                refine ev_goto (tgt := 230) hC dX12_looks_211 (by decide) ?_
                refine ev_zastN (i := stk.length) (ws' := (MW G a S I F B' (upd T' stk.length (nI 1)) R K D hI ac sp en iw op mu rd ra ki nu tv)) (q0 := 5) hC rfl (by omega) (by omega) (nar_01 (by decide)).2.2 rfl dX12_looks_230 ?_
                refine ev_iinc (v := (nI (stk.length + 1))) (lv' := [(5, .int (nI (stk.length + 1))), (10, .int (nI (k / 32))), (9, .int (nI ((k / 8) % 4))), (8, .int (B' (k % 8))), (7, .int (nI k)), (0, .ref (a 0)), (1, .int (nI p)), (2, .int sum), (3, .int (nI (sn S (232 + sn S 38)))), (4, .int (nI (237 + 140 * sn S 38))), (6, .int (nI (237 + 140 * sn S 38 + j)))]) hC dX12_looks_231 (q := 9) rfl (nI_k _ _ 1 (by decide)) (by decide) rfl ?_
                refine ev_goto (tgt := 420) hC dX12_looks_234 (by decide) ?_
                refine ev_iinc (v := (nI ((237 + 140 * sn S 38 + j) + 1))) (lv' := [(6, .int (nI ((237 + 140 * sn S 38 + j) + 1))), (5, .int (nI (stk.length + 1))), (10, .int (nI (k / 32))), (9, .int (nI ((k / 8) % 4))), (8, .int (B' (k % 8))), (7, .int (nI k)), (0, .ref (a 0)), (1, .int (nI p)), (2, .int sum), (3, .int (nI (sn S (232 + sn S 38)))), (4, .int (nI (237 + 140 * sn S 38)))]) hC dX12_looks_420 (q := 10) rfl (nI_k _ _ 1 (by decide)) (by decide) rfl ?_
                refine ev_goto (tgt := 120) hC dX12_looks_423 (by decide) ?_
                refine ev_lv [6, 7, 8, 9, 10, 1, 0] rfl ?_
                exact ih (j + 1) rest' (true :: stk) (upd T' stk.length (nI 1)) sum hj' hr' hok' (by simp only [List.length_cons]; omega) (repT_push hT (by decide)) (evL_test hk (by unfold tsF; rw [← hB1]; clear hB1 hBy hs hev ih hs1 hr' hr; simp [← Int32.not_le, *]) hev) (by omega)
          · refine ev_iload hC dX12_looks_182 2 rfl ?_
            refine ev_iload hC dX12_looks_184 0 rfl ?_
            refine ev_icmp_ge (tgt := 193) hC dX12_looks_186 (by decide) (fun c_24 => ?_) (fun c_24 => ?_)
            · refine ev_iconst (v := (nI 0)) hC dX12_looks_193 (by decide) ?_
              refine ev_goto (tgt := 230) hC dX12_looks_194 (by decide) ?_
              refine ev_zastN (i := stk.length) (ws' := (MW G a S I F B' (upd T' stk.length (nI 0)) R K D hI ac sp en iw op mu rd ra ki nu tv)) (q0 := 5) hC rfl (by omega) (by omega) (nar_01 (by decide)).2.2 rfl dX12_looks_230 ?_
              refine ev_iinc (v := (nI (stk.length + 1))) (lv' := [(5, .int (nI (stk.length + 1))), (10, .int (nI (k / 32))), (9, .int (nI ((k / 8) % 4))), (8, .int (B' (k % 8))), (7, .int (nI k)), (0, .ref (a 0)), (1, .int (nI p)), (2, .int sum), (3, .int (nI (sn S (232 + sn S 38)))), (4, .int (nI (237 + 140 * sn S 38))), (6, .int (nI (237 + 140 * sn S 38 + j)))]) hC dX12_looks_231 (q := 9) rfl (nI_k _ _ 1 (by decide)) (by decide) rfl ?_
              refine ev_goto (tgt := 420) hC dX12_looks_234 (by decide) ?_
              refine ev_iinc (v := (nI ((237 + 140 * sn S 38 + j) + 1))) (lv' := [(6, .int (nI ((237 + 140 * sn S 38 + j) + 1))), (5, .int (nI (stk.length + 1))), (10, .int (nI (k / 32))), (9, .int (nI ((k / 8) % 4))), (8, .int (B' (k % 8))), (7, .int (nI k)), (0, .ref (a 0)), (1, .int (nI p)), (2, .int sum), (3, .int (nI (sn S (232 + sn S 38)))), (4, .int (nI (237 + 140 * sn S 38)))]) hC dX12_looks_420 (q := 10) rfl (nI_k _ _ 1 (by decide)) (by decide) rfl ?_
              refine ev_goto (tgt := 120) hC dX12_looks_423 (by decide) ?_
              refine ev_lv [6, 7, 8, 9, 10, 1, 0] rfl ?_
              exact ih (j + 1) rest' (false :: stk) (upd T' stk.length (nI 0)) sum hj' hr' hok' (by simp only [List.length_cons]; omega) (repT_push hT (by decide)) (evL_test hk (by unfold tsF; rw [← hB1]; clear hB1 hBy hs hev ih hs1 hr' hr; simp [← Int32.not_le, *]) hev) (by omega)
            · refine ev_iconst (v := (nI 1)) hC dX12_looks_189 (by decide) ?_
              refine ev_goto (tgt := 230) hC dX12_looks_190 (by decide) ?_
              refine ev_zastN (i := stk.length) (ws' := (MW G a S I F B' (upd T' stk.length (nI 1)) R K D hI ac sp en iw op mu rd ra ki nu tv)) (q0 := 5) hC rfl (by omega) (by omega) (nar_01 (by decide)).2.2 rfl dX12_looks_230 ?_
              refine ev_iinc (v := (nI (stk.length + 1))) (lv' := [(5, .int (nI (stk.length + 1))), (10, .int (nI (k / 32))), (9, .int (nI ((k / 8) % 4))), (8, .int (B' (k % 8))), (7, .int (nI k)), (0, .ref (a 0)), (1, .int (nI p)), (2, .int sum), (3, .int (nI (sn S (232 + sn S 38)))), (4, .int (nI (237 + 140 * sn S 38))), (6, .int (nI (237 + 140 * sn S 38 + j)))]) hC dX12_looks_231 (q := 9) rfl (nI_k _ _ 1 (by decide)) (by decide) rfl ?_
              refine ev_goto (tgt := 420) hC dX12_looks_234 (by decide) ?_
              refine ev_iinc (v := (nI ((237 + 140 * sn S 38 + j) + 1))) (lv' := [(6, .int (nI ((237 + 140 * sn S 38 + j) + 1))), (5, .int (nI (stk.length + 1))), (10, .int (nI (k / 32))), (9, .int (nI ((k / 8) % 4))), (8, .int (B' (k % 8))), (7, .int (nI k)), (0, .ref (a 0)), (1, .int (nI p)), (2, .int sum), (3, .int (nI (sn S (232 + sn S 38)))), (4, .int (nI (237 + 140 * sn S 38)))]) hC dX12_looks_420 (q := 10) rfl (nI_k _ _ 1 (by decide)) (by decide) rfl ?_
              refine ev_goto (tgt := 120) hC dX12_looks_423 (by decide) ?_
              refine ev_lv [6, 7, 8, 9, 10, 1, 0] rfl ?_
              exact ih (j + 1) rest' (true :: stk) (upd T' stk.length (nI 1)) sum hj' hr' hok' (by simp only [List.length_cons]; omega) (repT_push hT (by decide)) (evL_test hk (by unfold tsF; rw [← hB1]; clear hB1 hBy hs hev ih hs1 hr' hr; simp [← Int32.not_le, *]) hev) (by omega)
  refine ev_lv [5, 6, 4, 3, 2, 1, 0] rfl ?_
  exact lp_120 (sn S (232 + sn S 38) - 0 + 1) 0 (stL S (sn S 38)) [] T (nI 0) (by rw [stL_len, Nat.zero_add]) rfl h6 (Nat.zero_le _) trivial (if_neg hne).symm (Nat.lt_succ_self _)

set_option maxHeartbeats 4000000 in
theorem m_X12_looks (G : GG) (ro : va_W) (a : Nat → Nat) (S I F B T R K D : Nat → Int32) (hI ac sp en iw op mu rd ra ki nu tv : Int32) (p : Nat) (hp : p < 6) {DD EE : Nat} (hW : WF S DD EE) : Mth G M_X12_looks 1 0 0 [.ref (a 0), .int (nI p)] (MW G a S I F B T R K D hI ac sp en iw op mu rd ra ki nu tv) ro (fun r ws' ro' => ∃ B' T' : Nat → Int32, r = some (.int (angF S p)) ∧ ws' = MW G a S I F B' T' R K D hI ac sp en iw op mu rd ra ki nu tv ∧ ro = ro') := by
  by_cases h : S 38 = -1
  · exact m_X12_looks0 G ro a S I F B T R K D hI ac sp en iw op mu rd ra ki nu tv p hp h hW
  · rcases hW.hold with h0 | ⟨h1, h2, h3, h4, h5, h6⟩
    · exact absurd h0 h
    · exact m_X12_looks1 G ro a S I F B T R K D hI ac sp en iw op mu rd ra ki nu tv p hp h h1 h5 h6 hW

set_option maxHeartbeats 4000000 in
set_option maxRecDepth 100000 in
theorem m_X12_risesOf (G : GG) (ro : va_W) (a : Nat → Nat) (S I F B T R K D : Nat → Int32) (hI ac sp en iw op mu rd ra ki nu tv : Int32) (p : Nat) (hp : p < 6) {DD EE : Nat} (hW : WF S DD EE) : Mth G M_X12_risesOf 2 0 0 [.ref (a 0), .int (nI p)] (MW G a S I F B T R K D hI ac sp en iw op mu rd ra ki nu tv) ro (fun r ws' ro' => ∃ (B' : Nat → Int32), ∃ (T' : Nat → Int32), r = some (.int (risF S p)) ∧ ws' = (MW G a S I F B' T' R K D hI ac sp en iw op mu rd ra ki nu tv) ∧ ro = ro') := by
  refine mth_of (by decide +kernel) (Nat.le_of_ble_eq_true rfl) (fun X hC hR => ?_)
  have b32 := hW.peo.le
  have b33 := hW.tre.le
  have b34 := hW.seen.le
  have b35 := hW.plan.le
  have b36 := hW.book.le
  have b37 := hW.tape.le
  show Ev G X 0 0 0 [(0, .ref (a 0)), (1, .int (nI p))] [] (MW G a S I F B T R K D hI ac sp en iw op mu rd ra ki nu tv) ro
  refine ev_aload_n hC dX12_risesOf_0 rfl 0 rfl ?_
  refine ev_iload_n hC dX12_risesOf_1 rfl 1 rfl ?_
  refine ev_callV (As := [.int (nI p)]) (st := []) (wf := []) hC cv_X12_130 (m_X12_looks G ro a S I F B T R K D hI ac sp en iw op mu rd ra ki nu tv p (by omega) hW) (by decide) rfl rfl (Nat.le_of_ble_eq_true rfl) (List.Perm.of_eq (List.append_nil _).symm) (mw 0 rfl) rfl dX12_risesOf_2 (by decide) (by decide) ?_
  rintro _ _ _ ⟨B_1, T_2, rfl, rfl, rfl⟩
  refine ev_ws (List.append_nil _) ?_
  show Ev G X 0 0 5 [(0, .ref (a 0)), (1, .int (nI p))] [.int (angF S p)] (MW G a S I F B_1 T_2 R K D hI ac sp en iw op mu rd ra ki nu tv) ro
  refine ev_istore_n (lv' := [(2, .int (angF S p)), (0, .ref (a 0)), (1, .int (nI p))]) hC dX12_risesOf_5 rfl (by decide) rfl ?_
  refine ev_aload_n hC dX12_risesOf_6 rfl 1 rfl ?_
  refine ev_get hC fl_X12_9_12 (mw 0 rfl) rfl dX12_risesOf_7 ?_
  refine ev_bipush (v := (nI 45)) hC dX12_risesOf_10 (by decide) ?_
  refine ev_iload_n hC dX12_risesOf_12 rfl 2 rfl ?_
  refine ev_iadd hC dX12_risesOf_13 ?_
  refine ev_top (y := (nI (45 + p))) ((nI_add _ _).trans (congrArg nI (by omega))) ?_
  refine ev_ialdN (i := 45 + p) hC (mw 1 rfl) (by omega) (by omega) dX12_risesOf_14 ?_
  have bk_3 : NB S (45 + p) _ := (hW.v p (by omega))
  have k_3 := bk_3.eq
  have lk_3 := bk_3.le
  have mk_3 := bk_3.lt
  refine ev_top (y := (nI (sn S (45 + p)))) k_3 ?_
  refine ev_istore_n (lv' := [(3, .int (nI (sn S (45 + p)))), (2, .int (angF S p)), (0, .ref (a 0)), (1, .int (nI p))]) hC dX12_risesOf_15 rfl (by decide) rfl ?_
  refine ev_aload_n hC dX12_risesOf_16 rfl 2 rfl ?_
  refine ev_get hC fl_X12_9_12 (mw 0 rfl) rfl dX12_risesOf_17 ?_
  refine ev_iconst (v := (nI 2)) hC dX12_risesOf_20 (by decide) ?_
  refine ev_aload_n hC dX12_risesOf_21 rfl 2 rfl ?_
  refine ev_get hC fl_X12_9_12 (mw 0 rfl) rfl dX12_risesOf_22 ?_
  refine ev_bipush (v := (nI 14)) hC dX12_risesOf_25 (by decide) ?_
  refine ev_iload_n hC dX12_risesOf_27 rfl 3 rfl ?_
  refine ev_iadd hC dX12_risesOf_28 ?_
  refine ev_top (y := (nI (14 + p))) ((nI_add _ _).trans (congrArg nI (by omega))) ?_
  refine ev_ialdN (i := 14 + p) hC (mw 1 rfl) (by omega) (by omega) dX12_risesOf_29 ?_
  have bk_4 : NB S (14 + p) _ := (hW.side p (by omega))
  have k_4 := bk_4.eq
  have lk_4 := bk_4.le
  have mk_4 := bk_4.lt
  refine ev_top (y := (nI (sn S (14 + p)))) k_4 ?_
  refine ev_iadd hC dX12_risesOf_30 ?_
  refine ev_top (y := (nI (2 + (sn S (14 + p))))) ((nI_add _ _).trans (congrArg nI (by omega))) ?_
  refine ev_ialdN (i := 2 + (sn S (14 + p))) hC (mw 1 rfl) (by omega) (by omega) dX12_risesOf_31 ?_
  have bk_5 : NB S (2 + (sn S (14 + p))) _ := ((hW.salt ((sn S (14 + p))) (by omega)).congr (congrArg S (by omega)))
  have k_5 := bk_5.eq
  have lk_5 := bk_5.le
  have mk_5 := bk_5.lt
  refine ev_top (y := (nI (sn S (2 + (sn S (14 + p)))))) k_5 ?_
  refine ev_bipush (v := (nI 20)) hC dX12_risesOf_32 (by decide) ?_
  refine ev_icmp_geN (tgt := 41) hC dX12_risesOf_34 (by decide) (by omega) (by omega) (fun c_6 => ?_) (fun c_6 => ?_)
  · refine ev_iload_n hC dX12_risesOf_41 rfl 1 rfl ?_
    refine ev_istore (lv' := [(4, .int (angF S p)), (3, .int (nI (sn S (45 + p)))), (2, .int (angF S p)), (0, .ref (a 0)), (1, .int (nI p))]) hC dX12_risesOf_42 (by decide) rfl ?_
    refine ev_aload_n hC dX12_risesOf_44 rfl 3 rfl ?_
    refine ev_get hC fl_X12_9_12 (mw 0 rfl) rfl dX12_risesOf_45 ?_
    refine ev_bipush (v := (nI 39)) hC dX12_risesOf_48 (by decide) ?_
    refine ev_iload_n hC dX12_risesOf_50 rfl 4 rfl ?_
    refine ev_iadd hC dX12_risesOf_51 ?_
    refine ev_top (y := (nI (39 + p))) ((nI_add _ _).trans (congrArg nI (by omega))) ?_
    refine ev_ialdN (i := 39 + p) hC (mw 1 rfl) (by omega) (by omega) dX12_risesOf_52 ?_
    have bk_7 : NB S (39 + p) _ := (hW.kind p (by omega))
    have k_7 := bk_7.eq
    have lk_7 := bk_7.le
    have mk_7 := bk_7.lt
    refine ev_top (y := (nI (sn S (39 + p)))) k_7 ?_
    by_cases w_8_0 : sn S (39 + p) = 1
    · rw [w_8_0]
      refine ev_tabIn (off := 39) (tgt := 92) hC dX12_risesOf_53 (by decide) (by decide) (by decide) (by decide) ?_
      refine ev_iload_n hC dX12_risesOf_92 rfl 2 rfl ?_
      refine ev_iconst (v := (nI 2)) hC dX12_risesOf_93 (by decide) ?_
      refine ev_idiv hC dX12_risesOf_94 (by decide) ?_
      refine ev_iret hC hR rfl dX12_risesOf_95 ?_
      have er : (risF S p) = ((angF S p) / (nI 2)) := by simp [risF, slyF, nI_add, ← Nat.not_le, *]
      exact ⟨_, _, (by rw [er]), rfl, rfl⟩
    by_cases w_8_1 : sn S (39 + p) = 2
    · rw [w_8_1]
      refine ev_tabIn (off := 43) (tgt := 96) hC dX12_risesOf_53 (by decide) (by decide) (by decide) (by decide) ?_
      refine ev_iload_n hC dX12_risesOf_96 rfl 2 rfl ?_
      refine ev_iload_n hC dX12_risesOf_97 rfl 1 rfl ?_
      refine ev_iadd hC dX12_risesOf_98 ?_
      refine ev_iret hC hR rfl dX12_risesOf_99 ?_
      have er : (risF S p) = ((angF S p) + (nI (sn S (45 + p)))) := by simp [risF, slyF, nI_add, ← Nat.not_le, *]
      exact ⟨_, _, (by rw [er]), rfl, rfl⟩
    by_cases w_8_2 : sn S (39 + p) = 3
    · rw [w_8_2]
      refine ev_tabIn (off := 47) (tgt := 100) hC dX12_risesOf_53 (by decide) (by decide) (by decide) (by decide) ?_
      refine ev_iload hC dX12_risesOf_100 0 rfl ?_
      refine ev_iret hC hR rfl dX12_risesOf_102 ?_
      have er : (risF S p) = (angF S p) := by simp [risF, slyF, nI_add, ← Nat.not_le, *]
      exact ⟨_, _, (by rw [er]), rfl, rfl⟩
    by_cases w_8_3 : sn S (39 + p) = 4
    · rw [w_8_3]
      refine ev_tabIn (off := 50) (tgt := 103) hC dX12_risesOf_53 (by decide) (by decide) (by decide) (by decide) ?_
      refine ev_iload_n hC dX12_risesOf_103 rfl 2 rfl ?_
      refine ev_iconst (v := (nI 2)) hC dX12_risesOf_104 (by decide) ?_
      refine ev_idiv hC dX12_risesOf_105 (by decide) ?_
      refine ev_iload_n hC dX12_risesOf_106 rfl 1 rfl ?_
      refine ev_isub hC dX12_risesOf_107 ?_
      refine ev_iret hC hR rfl dX12_risesOf_108 ?_
      have er : (risF S p) = (((angF S p) / (nI 2)) - (nI (sn S (45 + p)))) := by simp [risF, slyF, nI_add, ← Nat.not_le, *]
      exact ⟨_, _, (by rw [er]), rfl, rfl⟩
    by_cases w_8_4 : sn S (39 + p) = 5
    · rw [w_8_4]
      refine ev_tabIn (off := 56) (tgt := 109) hC dX12_risesOf_53 (by decide) (by decide) (by decide) (by decide) ?_
      refine ev_iload_n hC dX12_risesOf_109 rfl 2 rfl ?_
      refine ev_iload_n hC dX12_risesOf_110 rfl 1 rfl ?_
      refine ev_iadd hC dX12_risesOf_111 ?_
      refine ev_aload_n hC dX12_risesOf_112 rfl 3 rfl ?_
      refine ev_get hC fl_X12_9_12 (mw 0 rfl) rfl dX12_risesOf_113 ?_
      refine ev_iconst (v := (nI 0)) hC dX12_risesOf_116 (by decide) ?_
      refine ev_ialdN (i := 0) hC (mw 1 rfl) (by omega) (by omega) dX12_risesOf_117 ?_
      have bk_9 : NB S 0 _ := hW.day
      have k_9 := bk_9.eq
      have lk_9 := bk_9.le
      have mk_9 := bk_9.lt
      refine ev_top (y := (nI (sn S 0))) k_9 ?_
      refine ev_iload_n hC dX12_risesOf_118 rfl 1 rfl ?_
      refine ev_iconst (v := (nI 2)) hC dX12_risesOf_119 (by decide) ?_
      refine ev_iadd hC dX12_risesOf_120 ?_
      refine ev_top (y := (nI ((sn S (45 + p)) + 2))) ((nI_add _ _).trans (congrArg nI (by omega))) ?_
      refine ev_irem hC dX12_risesOf_121 (nI_ne0 (by omega) (by omega)) ?_
      refine ev_if_ne (tgt := 129) hC dX12_risesOf_122 (by decide) (fun c_10 => ?_) (fun c_10 => ?_)
      · refine ev_iconst (v := (nI 1)) hC dX12_risesOf_129 (by decide) ?_
        refine ev_imul hC dX12_risesOf_130 ?_
        refine ev_iret hC hR rfl dX12_risesOf_131 ?_
        have er : (risF S p) = (((angF S p) + (nI (sn S (45 + p)))) * (nI 1)) := by simp [risF, slyF, nI_add, ← Nat.not_le, *]
        exact ⟨_, _, (by rw [er]), rfl, rfl⟩
      · refine ev_iconst (v := (nI 2)) hC dX12_risesOf_125 (by decide) ?_
        refine ev_goto (tgt := 130) hC dX12_risesOf_126 (by decide) ?_
        refine ev_imul hC dX12_risesOf_130 ?_
        refine ev_iret hC hR rfl dX12_risesOf_131 ?_
        have er : (risF S p) = (((angF S p) + (nI (sn S (45 + p)))) * (nI 2)) := by simp [risF, slyF, nI_add, ← Nat.not_le, *]
        exact ⟨_, _, (by rw [er]), rfl, rfl⟩
    by_cases w_8_5 : sn S (39 + p) = 6
    · rw [w_8_5]
      refine ev_tabIn (off := 79) (tgt := 132) hC dX12_risesOf_53 (by decide) (by decide) (by decide) (by decide) ?_
      refine ev_iload hC dX12_risesOf_132 0 rfl ?_
      refine ev_aload_n hC dX12_risesOf_134 rfl 3 rfl ?_
      refine ev_get hC fl_X12_9_12 (mw 0 rfl) rfl dX12_risesOf_135 ?_
      refine ev_bipush (v := (nI 51)) hC dX12_risesOf_138 (by decide) ?_
      refine ev_iconst (v := (nI 4)) hC dX12_risesOf_140 (by decide) ?_
      refine ev_iload_n hC dX12_risesOf_141 rfl 4 rfl ?_
      refine ev_imul hC dX12_risesOf_142 ?_
      refine ev_top (y := (nI (4 * p))) (pk_mul _ _) ?_
      refine ev_iadd hC dX12_risesOf_143 ?_
      refine ev_top (y := (nI (51 + (4 * p)))) ((nI_add _ _).trans (congrArg nI (by omega))) ?_
      refine ev_aload_n hC dX12_risesOf_144 rfl 3 rfl ?_
      refine ev_get hC fl_X12_9_12 (mw 0 rfl) rfl dX12_risesOf_145 ?_
      refine ev_iconst (v := (nI 0)) hC dX12_risesOf_148 (by decide) ?_
      refine ev_ialdN (i := 0) hC (mw 1 rfl) (by omega) (by omega) dX12_risesOf_149 ?_
      have bk_11 : NB S 0 _ := hW.day
      have k_11 := bk_11.eq
      have lk_11 := bk_11.le
      have mk_11 := bk_11.lt
      refine ev_top (y := (nI (sn S 0))) k_11 ?_
      refine ev_iconst (v := (nI 4)) hC dX12_risesOf_150 (by decide) ?_
      refine ev_irem hC dX12_risesOf_151 (by decide) ?_
      refine ev_top (y := (nI ((sn S 0) % 4))) (pk_rem (by omega) (by omega) (by omega)) ?_
      refine ev_iadd hC dX12_risesOf_152 ?_
      refine ev_top (y := (nI ((51 + (4 * p)) + ((sn S 0) % 4)))) ((nI_add _ _).trans (congrArg nI (by omega))) ?_
      refine ev_ialdN (i := (51 + (4 * p)) + ((sn S 0) % 4)) hC (mw 1 rfl) (by omega) (by omega) dX12_risesOf_153 ?_
      have bk_12 : NB S ((51 + (4 * p)) + ((sn S 0) % 4)) _ := ((hW.row ((4 * p) + ((sn S 0) % 4)) (by omega)).congr (congrArg S (by omega)))
      have k_12 := bk_12.eq
      have lk_12 := bk_12.le
      have mk_12 := bk_12.lt
      refine ev_top (y := (nI (sn S ((51 + (4 * p)) + ((sn S 0) % 4))))) k_12 ?_
      refine ev_iadd hC dX12_risesOf_154 ?_
      refine ev_iret hC hR rfl dX12_risesOf_155 ?_
      have er : (risF S p) = ((angF S p) + (nI (sn S ((51 + (4 * p)) + ((sn S 0) % 4))))) := by simp [risF, slyF, nI_add, ← Nat.not_le, *]
      exact ⟨_, _, (by rw [er]), rfl, rfl⟩
    refine ev_tabOut (tgt := 156) hC dX12_risesOf_53 (sw_out (lo := 1) (hi := 6) (fun j h1 h2 => by rw [nI_toInt (by omega)]; omega)) (by decide) ?_
    refine ev_iload_n hC dX12_risesOf_156 rfl 2 rfl ?_
    refine ev_iret hC hR rfl dX12_risesOf_157 ?_
    have er : (risF S p) = (angF S p) := by simp [risF, slyF, nI_add, ← Nat.not_le, *]
    exact ⟨_, _, (by rw [er]), rfl, rfl⟩
  · refine ev_iconst (v := (nI 0)) hC dX12_risesOf_37 (by decide) ?_
    refine ev_goto (tgt := 42) hC dX12_risesOf_38 (by decide) ?_
    refine ev_istore (lv' := [(4, .int (nI 0)), (3, .int (nI (sn S (45 + p)))), (2, .int (angF S p)), (0, .ref (a 0)), (1, .int (nI p))]) hC dX12_risesOf_42 (by decide) rfl ?_
    refine ev_aload_n hC dX12_risesOf_44 rfl 3 rfl ?_
    refine ev_get hC fl_X12_9_12 (mw 0 rfl) rfl dX12_risesOf_45 ?_
    refine ev_bipush (v := (nI 39)) hC dX12_risesOf_48 (by decide) ?_
    refine ev_iload_n hC dX12_risesOf_50 rfl 4 rfl ?_
    refine ev_iadd hC dX12_risesOf_51 ?_
    refine ev_top (y := (nI (39 + p))) ((nI_add _ _).trans (congrArg nI (by omega))) ?_
    refine ev_ialdN (i := 39 + p) hC (mw 1 rfl) (by omega) (by omega) dX12_risesOf_52 ?_
    have bk_13 : NB S (39 + p) _ := (hW.kind p (by omega))
    have k_13 := bk_13.eq
    have lk_13 := bk_13.le
    have mk_13 := bk_13.lt
    refine ev_top (y := (nI (sn S (39 + p)))) k_13 ?_
    by_cases w_14_0 : sn S (39 + p) = 1
    · rw [w_14_0]
      refine ev_tabIn (off := 39) (tgt := 92) hC dX12_risesOf_53 (by decide) (by decide) (by decide) (by decide) ?_
      refine ev_iload_n hC dX12_risesOf_92 rfl 2 rfl ?_
      refine ev_iconst (v := (nI 2)) hC dX12_risesOf_93 (by decide) ?_
      refine ev_idiv hC dX12_risesOf_94 (by decide) ?_
      refine ev_iret hC hR rfl dX12_risesOf_95 ?_
      have er : (risF S p) = ((angF S p) / (nI 2)) := by simp [risF, slyF, nI_add, ← Nat.not_le, *]
      exact ⟨_, _, (by rw [er]), rfl, rfl⟩
    by_cases w_14_1 : sn S (39 + p) = 2
    · rw [w_14_1]
      refine ev_tabIn (off := 43) (tgt := 96) hC dX12_risesOf_53 (by decide) (by decide) (by decide) (by decide) ?_
      refine ev_iload_n hC dX12_risesOf_96 rfl 2 rfl ?_
      refine ev_iload_n hC dX12_risesOf_97 rfl 1 rfl ?_
      refine ev_iadd hC dX12_risesOf_98 ?_
      refine ev_iret hC hR rfl dX12_risesOf_99 ?_
      have er : (risF S p) = ((angF S p) + (nI (sn S (45 + p)))) := by simp [risF, slyF, nI_add, ← Nat.not_le, *]
      exact ⟨_, _, (by rw [er]), rfl, rfl⟩
    by_cases w_14_2 : sn S (39 + p) = 3
    · rw [w_14_2]
      refine ev_tabIn (off := 47) (tgt := 100) hC dX12_risesOf_53 (by decide) (by decide) (by decide) (by decide) ?_
      refine ev_iload hC dX12_risesOf_100 0 rfl ?_
      refine ev_iret hC hR rfl dX12_risesOf_102 ?_
      have er : (risF S p) = (nI 0) := by simp [risF, slyF, nI_add, ← Nat.not_le, *]
      exact ⟨_, _, (by rw [er]), rfl, rfl⟩
    by_cases w_14_3 : sn S (39 + p) = 4
    · rw [w_14_3]
      refine ev_tabIn (off := 50) (tgt := 103) hC dX12_risesOf_53 (by decide) (by decide) (by decide) (by decide) ?_
      refine ev_iload_n hC dX12_risesOf_103 rfl 2 rfl ?_
      refine ev_iconst (v := (nI 2)) hC dX12_risesOf_104 (by decide) ?_
      refine ev_idiv hC dX12_risesOf_105 (by decide) ?_
      refine ev_iload_n hC dX12_risesOf_106 rfl 1 rfl ?_
      refine ev_isub hC dX12_risesOf_107 ?_
      refine ev_iret hC hR rfl dX12_risesOf_108 ?_
      have er : (risF S p) = (((angF S p) / (nI 2)) - (nI (sn S (45 + p)))) := by simp [risF, slyF, nI_add, ← Nat.not_le, *]
      exact ⟨_, _, (by rw [er]), rfl, rfl⟩
    by_cases w_14_4 : sn S (39 + p) = 5
    · rw [w_14_4]
      refine ev_tabIn (off := 56) (tgt := 109) hC dX12_risesOf_53 (by decide) (by decide) (by decide) (by decide) ?_
      refine ev_iload_n hC dX12_risesOf_109 rfl 2 rfl ?_
      refine ev_iload_n hC dX12_risesOf_110 rfl 1 rfl ?_
      refine ev_iadd hC dX12_risesOf_111 ?_
      refine ev_aload_n hC dX12_risesOf_112 rfl 3 rfl ?_
      refine ev_get hC fl_X12_9_12 (mw 0 rfl) rfl dX12_risesOf_113 ?_
      refine ev_iconst (v := (nI 0)) hC dX12_risesOf_116 (by decide) ?_
      refine ev_ialdN (i := 0) hC (mw 1 rfl) (by omega) (by omega) dX12_risesOf_117 ?_
      have bk_15 : NB S 0 _ := hW.day
      have k_15 := bk_15.eq
      have lk_15 := bk_15.le
      have mk_15 := bk_15.lt
      refine ev_top (y := (nI (sn S 0))) k_15 ?_
      refine ev_iload_n hC dX12_risesOf_118 rfl 1 rfl ?_
      refine ev_iconst (v := (nI 2)) hC dX12_risesOf_119 (by decide) ?_
      refine ev_iadd hC dX12_risesOf_120 ?_
      refine ev_top (y := (nI ((sn S (45 + p)) + 2))) ((nI_add _ _).trans (congrArg nI (by omega))) ?_
      refine ev_irem hC dX12_risesOf_121 (nI_ne0 (by omega) (by omega)) ?_
      refine ev_if_ne (tgt := 129) hC dX12_risesOf_122 (by decide) (fun c_16 => ?_) (fun c_16 => ?_)
      · refine ev_iconst (v := (nI 1)) hC dX12_risesOf_129 (by decide) ?_
        refine ev_imul hC dX12_risesOf_130 ?_
        refine ev_iret hC hR rfl dX12_risesOf_131 ?_
        have er : (risF S p) = (((angF S p) + (nI (sn S (45 + p)))) * (nI 1)) := by simp [risF, slyF, nI_add, ← Nat.not_le, *]
        exact ⟨_, _, (by rw [er]), rfl, rfl⟩
      · refine ev_iconst (v := (nI 2)) hC dX12_risesOf_125 (by decide) ?_
        refine ev_goto (tgt := 130) hC dX12_risesOf_126 (by decide) ?_
        refine ev_imul hC dX12_risesOf_130 ?_
        refine ev_iret hC hR rfl dX12_risesOf_131 ?_
        have er : (risF S p) = (((angF S p) + (nI (sn S (45 + p)))) * (nI 2)) := by simp [risF, slyF, nI_add, ← Nat.not_le, *]
        exact ⟨_, _, (by rw [er]), rfl, rfl⟩
    by_cases w_14_5 : sn S (39 + p) = 6
    · rw [w_14_5]
      refine ev_tabIn (off := 79) (tgt := 132) hC dX12_risesOf_53 (by decide) (by decide) (by decide) (by decide) ?_
      refine ev_iload hC dX12_risesOf_132 0 rfl ?_
      refine ev_aload_n hC dX12_risesOf_134 rfl 3 rfl ?_
      refine ev_get hC fl_X12_9_12 (mw 0 rfl) rfl dX12_risesOf_135 ?_
      refine ev_bipush (v := (nI 51)) hC dX12_risesOf_138 (by decide) ?_
      refine ev_iconst (v := (nI 4)) hC dX12_risesOf_140 (by decide) ?_
      refine ev_iload_n hC dX12_risesOf_141 rfl 4 rfl ?_
      refine ev_imul hC dX12_risesOf_142 ?_
      refine ev_top (y := (nI (4 * p))) (pk_mul _ _) ?_
      refine ev_iadd hC dX12_risesOf_143 ?_
      refine ev_top (y := (nI (51 + (4 * p)))) ((nI_add _ _).trans (congrArg nI (by omega))) ?_
      refine ev_aload_n hC dX12_risesOf_144 rfl 3 rfl ?_
      refine ev_get hC fl_X12_9_12 (mw 0 rfl) rfl dX12_risesOf_145 ?_
      refine ev_iconst (v := (nI 0)) hC dX12_risesOf_148 (by decide) ?_
      refine ev_ialdN (i := 0) hC (mw 1 rfl) (by omega) (by omega) dX12_risesOf_149 ?_
      have bk_17 : NB S 0 _ := hW.day
      have k_17 := bk_17.eq
      have lk_17 := bk_17.le
      have mk_17 := bk_17.lt
      refine ev_top (y := (nI (sn S 0))) k_17 ?_
      refine ev_iconst (v := (nI 4)) hC dX12_risesOf_150 (by decide) ?_
      refine ev_irem hC dX12_risesOf_151 (by decide) ?_
      refine ev_top (y := (nI ((sn S 0) % 4))) (pk_rem (by omega) (by omega) (by omega)) ?_
      refine ev_iadd hC dX12_risesOf_152 ?_
      refine ev_top (y := (nI ((51 + (4 * p)) + ((sn S 0) % 4)))) ((nI_add _ _).trans (congrArg nI (by omega))) ?_
      refine ev_ialdN (i := (51 + (4 * p)) + ((sn S 0) % 4)) hC (mw 1 rfl) (by omega) (by omega) dX12_risesOf_153 ?_
      have bk_18 : NB S ((51 + (4 * p)) + ((sn S 0) % 4)) _ := ((hW.row ((4 * p) + ((sn S 0) % 4)) (by omega)).congr (congrArg S (by omega)))
      have k_18 := bk_18.eq
      have lk_18 := bk_18.le
      have mk_18 := bk_18.lt
      refine ev_top (y := (nI (sn S ((51 + (4 * p)) + ((sn S 0) % 4))))) k_18 ?_
      refine ev_iadd hC dX12_risesOf_154 ?_
      refine ev_top (y := (nI (sn S ((51 + (4 * p)) + ((sn S 0) % 4))))) ((nI_add _ _).trans (congrArg nI (by omega))) ?_
      refine ev_iret hC hR rfl dX12_risesOf_155 ?_
      have er : (risF S p) = (nI (sn S ((51 + (4 * p)) + ((sn S 0) % 4)))) := by simp [risF, slyF, nI_add, ← Nat.not_le, *]
      exact ⟨_, _, (by rw [er]), rfl, rfl⟩
    refine ev_tabOut (tgt := 156) hC dX12_risesOf_53 (sw_out (lo := 1) (hi := 6) (fun j h1 h2 => by rw [nI_toInt (by omega)]; omega)) (by decide) ?_
    refine ev_iload_n hC dX12_risesOf_156 rfl 2 rfl ?_
    refine ev_iret hC hR rfl dX12_risesOf_157 ?_
    have er : (risF S p) = (angF S p) := by simp [risF, slyF, nI_add, ← Nat.not_le, *]
    exact ⟨_, _, (by rw [er]), rfl, rfl⟩

set_option maxHeartbeats 4000000 in
set_option maxRecDepth 100000 in
theorem m_X12_licksOf (G : GG) (ro : va_W) (a : Nat → Nat) (S I F B T R K D : Nat → Int32) (hI ac sp en iw op mu rd ra ki nu tv : Int32) (p : Nat) (hp : p < 6) {DD EE : Nat} (hW : WF S DD EE) : Mth G M_X12_licksOf 0 0 0 [.ref (a 0), .int (nI p)] (MW G a S I F B T R K D hI ac sp en iw op mu rd ra ki nu tv) ro (fun r ws' ro' => r = some (.int (licF S p)) ∧ ws' = (MW G a S I F B T R K D hI ac sp en iw op mu rd ra ki nu tv) ∧ ro = ro') := by
  refine mth_of (by decide +kernel) (Nat.le_of_ble_eq_true rfl) (fun X hC hR => ?_)
  have b32 := hW.peo.le
  have b33 := hW.tre.le
  have b34 := hW.seen.le
  have b35 := hW.plan.le
  have b36 := hW.book.le
  have b37 := hW.tape.le
  show Ev G X 0 0 0 [(0, .ref (a 0)), (1, .int (nI p))] [] (MW G a S I F B T R K D hI ac sp en iw op mu rd ra ki nu tv) ro
  refine ev_aload_n hC dX12_licksOf_0 rfl 0 rfl ?_
  refine ev_get hC fl_X12_9_12 (mw 0 rfl) rfl dX12_licksOf_1 ?_
  refine ev_bipush (v := (nI 39)) hC dX12_licksOf_4 (by decide) ?_
  refine ev_iload_n hC dX12_licksOf_6 rfl 1 rfl ?_
  refine ev_iadd hC dX12_licksOf_7 ?_
  refine ev_top (y := (nI (39 + p))) ((nI_add _ _).trans (congrArg nI (by omega))) ?_
  refine ev_ialdN (i := 39 + p) hC (mw 1 rfl) (by omega) (by omega) dX12_licksOf_8 ?_
  have bk_1 : NB S (39 + p) _ := (hW.kind p (by omega))
  have k_1 := bk_1.eq
  have lk_1 := bk_1.le
  have mk_1 := bk_1.lt
  refine ev_top (y := (nI (sn S (39 + p)))) k_1 ?_
  by_cases w_2_0 : sn S (39 + p) = 1
  · rw [w_2_0]
    refine ev_tabIn (off := 39) (tgt := 48) hC dX12_licksOf_9 (by decide) (by decide) (by decide) (by decide) ?_
    refine ev_iconst (v := (nI 4)) hC dX12_licksOf_48 (by decide) ?_
    refine ev_iret hC hR rfl dX12_licksOf_49 ?_
    have e_3 : (licF S p) = (nI 4) := by simp [licF, ← Nat.not_le, *]
    exact ⟨(by rw [e_3]), rfl, rfl⟩
  by_cases w_2_1 : sn S (39 + p) = 2
  · rw [w_2_1]
    refine ev_tabIn (off := 41) (tgt := 50) hC dX12_licksOf_9 (by decide) (by decide) (by decide) (by decide) ?_
    refine ev_bipush (v := (nI 10)) hC dX12_licksOf_50 (by decide) ?_
    refine ev_iconst (v := (nI 2)) hC dX12_licksOf_52 (by decide) ?_
    refine ev_aload_n hC dX12_licksOf_53 rfl 0 rfl ?_
    refine ev_get hC fl_X12_9_12 (mw 0 rfl) rfl dX12_licksOf_54 ?_
    refine ev_bipush (v := (nI 45)) hC dX12_licksOf_57 (by decide) ?_
    refine ev_iload_n hC dX12_licksOf_59 rfl 1 rfl ?_
    refine ev_iadd hC dX12_licksOf_60 ?_
    refine ev_top (y := (nI (45 + p))) ((nI_add _ _).trans (congrArg nI (by omega))) ?_
    refine ev_ialdN (i := 45 + p) hC (mw 1 rfl) (by omega) (by omega) dX12_licksOf_61 ?_
    have bk_4 : NB S (45 + p) _ := (hW.v p (by omega))
    have k_4 := bk_4.eq
    have lk_4 := bk_4.le
    have mk_4 := bk_4.lt
    refine ev_top (y := (nI (sn S (45 + p)))) k_4 ?_
    refine ev_imul hC dX12_licksOf_62 ?_
    refine ev_top (y := (nI (2 * (sn S (45 + p))))) (pk_mul _ _) ?_
    refine ev_iadd hC dX12_licksOf_63 ?_
    refine ev_top (y := (nI (10 + (2 * (sn S (45 + p)))))) ((nI_add _ _).trans (congrArg nI (by omega))) ?_
    refine ev_iret hC hR rfl dX12_licksOf_64 ?_
    have e_5 : (licF S p) = (nI (10 + (2 * (sn S (45 + p))))) := by simp [licF, ← Nat.not_le, *]
    exact ⟨(by rw [e_5]), rfl, rfl⟩
  by_cases w_2_2 : sn S (39 + p) = 3
  · rw [w_2_2]
    refine ev_tabIn (off := 56) (tgt := 65) hC dX12_licksOf_9 (by decide) (by decide) (by decide) (by decide) ?_
    refine ev_aload_n hC dX12_licksOf_65 rfl 0 rfl ?_
    refine ev_get hC fl_X12_9_12 (mw 0 rfl) rfl dX12_licksOf_66 ?_
    refine ev_iconst (v := (nI 0)) hC dX12_licksOf_69 (by decide) ?_
    refine ev_ialdN (i := 0) hC (mw 1 rfl) (by omega) (by omega) dX12_licksOf_70 ?_
    have bk_6 : NB S 0 _ := hW.day
    have k_6 := bk_6.eq
    have lk_6 := bk_6.le
    have mk_6 := bk_6.lt
    refine ev_top (y := (nI (sn S 0))) k_6 ?_
    refine ev_iconst (v := (nI 2)) hC dX12_licksOf_71 (by decide) ?_
    refine ev_irem hC dX12_licksOf_72 (by decide) ?_
    refine ev_top (y := (nI ((sn S 0) % 2))) (pk_rem (by omega) (by omega) (by omega)) ?_
    refine ev_iconst (v := (nI 1)) hC dX12_licksOf_73 (by decide) ?_
    refine ev_icmp_neN (tgt := 82) hC dX12_licksOf_74 (by decide) (by omega) (by omega) (fun c_7 => ?_) (fun c_7 => ?_)
    · refine ev_bipush (v := (nI 10)) hC dX12_licksOf_82 (by decide) ?_
      refine ev_iret hC hR rfl dX12_licksOf_84 ?_
      have e_8 : (licF S p) = (nI 10) := by simp [licF, ← Nat.not_le, *]
      exact ⟨(by rw [e_8]), rfl, rfl⟩
    · refine ev_bipush (v := (nI 15)) hC dX12_licksOf_77 (by decide) ?_
      refine ev_goto (tgt := 84) hC dX12_licksOf_79 (by decide) ?_
      refine ev_iret hC hR rfl dX12_licksOf_84 ?_
      have e_9 : (licF S p) = (nI 15) := by simp [licF, ← Nat.not_le, *]
      exact ⟨(by rw [e_9]), rfl, rfl⟩
  by_cases w_2_3 : sn S (39 + p) = 4
  · rw [w_2_3]
    refine ev_tabIn (off := 76) (tgt := 85) hC dX12_licksOf_9 (by decide) (by decide) (by decide) (by decide) ?_
    refine ev_iconst (v := (nI 0)) hC dX12_licksOf_85 (by decide) ?_
    refine ev_iret hC hR rfl dX12_licksOf_86 ?_
    have e_10 : (licF S p) = (nI 0) := by simp [licF, ← Nat.not_le, *]
    exact ⟨(by rw [e_10]), rfl, rfl⟩
  by_cases w_2_4 : sn S (39 + p) = 5
  · rw [w_2_4]
    refine ev_tabIn (off := 78) (tgt := 87) hC dX12_licksOf_9 (by decide) (by decide) (by decide) (by decide) ?_
    refine ev_aload_n hC dX12_licksOf_87 rfl 0 rfl ?_
    refine ev_get hC fl_X12_9_12 (mw 0 rfl) rfl dX12_licksOf_88 ?_
    refine ev_bipush (v := (nI 20)) hC dX12_licksOf_91 (by decide) ?_
    refine ev_iload_n hC dX12_licksOf_93 rfl 1 rfl ?_
    refine ev_iadd hC dX12_licksOf_94 ?_
    refine ev_top (y := (nI (20 + p))) ((nI_add _ _).trans (congrArg nI (by omega))) ?_
    refine ev_ialdN (i := 20 + p) hC (mw 1 rfl) (by omega) (by omega) dX12_licksOf_95 ?_
    have bk_11 : NB S (20 + p) _ := (hW.grudge p (by omega))
    have k_11 := bk_11.eq
    have lk_11 := bk_11.le
    have mk_11 := bk_11.lt
    refine ev_top (y := (nI (sn S (20 + p)))) k_11 ?_
    refine ev_bipush (v := (nI 80)) hC dX12_licksOf_96 (by decide) ?_
    refine ev_icmp_leN (tgt := 105) hC dX12_licksOf_98 (by decide) (by omega) (by omega) (fun c_12 => ?_) (fun c_12 => ?_)
    · refine ev_bipush (v := (nI 10)) hC dX12_licksOf_105 (by decide) ?_
      refine ev_iconst (v := (nI 2)) hC dX12_licksOf_107 (by decide) ?_
      refine ev_aload_n hC dX12_licksOf_108 rfl 0 rfl ?_
      refine ev_get hC fl_X12_9_12 (mw 0 rfl) rfl dX12_licksOf_109 ?_
      refine ev_bipush (v := (nI 45)) hC dX12_licksOf_112 (by decide) ?_
      refine ev_iload_n hC dX12_licksOf_114 rfl 1 rfl ?_
      refine ev_iadd hC dX12_licksOf_115 ?_
      refine ev_top (y := (nI (45 + p))) ((nI_add _ _).trans (congrArg nI (by omega))) ?_
      refine ev_ialdN (i := 45 + p) hC (mw 1 rfl) (by omega) (by omega) dX12_licksOf_116 ?_
      have bk_13 : NB S (45 + p) _ := (hW.v p (by omega))
      have k_13 := bk_13.eq
      have lk_13 := bk_13.le
      have mk_13 := bk_13.lt
      refine ev_top (y := (nI (sn S (45 + p)))) k_13 ?_
      refine ev_imul hC dX12_licksOf_117 ?_
      refine ev_top (y := (nI (2 * (sn S (45 + p))))) (pk_mul _ _) ?_
      refine ev_iadd hC dX12_licksOf_118 ?_
      refine ev_top (y := (nI (10 + (2 * (sn S (45 + p)))))) ((nI_add _ _).trans (congrArg nI (by omega))) ?_
      refine ev_iret hC hR rfl dX12_licksOf_119 ?_
      have e_14 : (licF S p) = (nI (10 + (2 * (sn S (45 + p))))) := by simp [licF, ← Nat.not_le, *]
      exact ⟨(by rw [e_14]), rfl, rfl⟩
    · refine ev_iconst (v := (nI 0)) hC dX12_licksOf_101 (by decide) ?_
      refine ev_goto (tgt := 119) hC dX12_licksOf_102 (by decide) ?_
      refine ev_iret hC hR rfl dX12_licksOf_119 ?_
      have e_15 : (licF S p) = (nI 0) := by simp [licF, ← Nat.not_le, *]
      exact ⟨(by rw [e_15]), rfl, rfl⟩
  by_cases w_2_5 : sn S (39 + p) = 6
  · rw [w_2_5]
    refine ev_tabIn (off := 56) (tgt := 65) hC dX12_licksOf_9 (by decide) (by decide) (by decide) (by decide) ?_
    refine ev_aload_n hC dX12_licksOf_65 rfl 0 rfl ?_
    refine ev_get hC fl_X12_9_12 (mw 0 rfl) rfl dX12_licksOf_66 ?_
    refine ev_iconst (v := (nI 0)) hC dX12_licksOf_69 (by decide) ?_
    refine ev_ialdN (i := 0) hC (mw 1 rfl) (by omega) (by omega) dX12_licksOf_70 ?_
    have bk_16 : NB S 0 _ := hW.day
    have k_16 := bk_16.eq
    have lk_16 := bk_16.le
    have mk_16 := bk_16.lt
    refine ev_top (y := (nI (sn S 0))) k_16 ?_
    refine ev_iconst (v := (nI 2)) hC dX12_licksOf_71 (by decide) ?_
    refine ev_irem hC dX12_licksOf_72 (by decide) ?_
    refine ev_top (y := (nI ((sn S 0) % 2))) (pk_rem (by omega) (by omega) (by omega)) ?_
    refine ev_iconst (v := (nI 1)) hC dX12_licksOf_73 (by decide) ?_
    refine ev_icmp_neN (tgt := 82) hC dX12_licksOf_74 (by decide) (by omega) (by omega) (fun c_17 => ?_) (fun c_17 => ?_)
    · refine ev_bipush (v := (nI 10)) hC dX12_licksOf_82 (by decide) ?_
      refine ev_iret hC hR rfl dX12_licksOf_84 ?_
      have e_18 : (licF S p) = (nI 10) := by simp [licF, ← Nat.not_le, *]
      exact ⟨(by rw [e_18]), rfl, rfl⟩
    · refine ev_bipush (v := (nI 15)) hC dX12_licksOf_77 (by decide) ?_
      refine ev_goto (tgt := 84) hC dX12_licksOf_79 (by decide) ?_
      refine ev_iret hC hR rfl dX12_licksOf_84 ?_
      have e_19 : (licF S p) = (nI 15) := by simp [licF, ← Nat.not_le, *]
      exact ⟨(by rw [e_19]), rfl, rfl⟩
  refine ev_tabOut (tgt := 120) hC dX12_licksOf_9 (sw_out (lo := 1) (hi := 6) (fun j h1 h2 => by rw [nI_toInt (by omega)]; omega)) (by decide) ?_
  refine ev_bipush (v := (nI 10)) hC dX12_licksOf_120 (by decide) ?_
  refine ev_iret hC hR rfl dX12_licksOf_122 ?_
  have e_20 : (licF S p) = (nI 10) := by simp [licF, ← Nat.not_le, *]
  exact ⟨(by rw [e_20]), rfl, rfl⟩

set_option maxHeartbeats 4000000 in
set_option maxRecDepth 100000 in
theorem m_X12_takesOf (G : GG) (ro : va_W) (a : Nat → Nat) (S I F B T R K D : Nat → Int32) (hI ac sp en iw op mu rd ra ki nu tv : Int32) (p : Nat) (hp : p < 6) {DD EE : Nat} (hW : WF S DD EE) : Mth G M_X12_takesOf 2 0 0 [.ref (a 0), .int (nI p)] (MW G a S I F B T R K D hI ac sp en iw op mu rd ra ki nu tv) ro (fun r ws' ro' => r = some (.int (takF S p)) ∧ ws' = (MW G a S I F B T R K D hI ac sp en iw op mu rd ra ki nu tv) ∧ ro = ro') := by
  refine mth_of (by decide +kernel) (Nat.le_of_ble_eq_true rfl) (fun X hC hR => ?_)
  have b32 := hW.peo.le
  have b33 := hW.tre.le
  have b34 := hW.seen.le
  have b35 := hW.plan.le
  have b36 := hW.book.le
  have b37 := hW.tape.le
  show Ev G X 0 0 0 [(0, .ref (a 0)), (1, .int (nI p))] [] (MW G a S I F B T R K D hI ac sp en iw op mu rd ra ki nu tv) ro
  refine ev_aload_n hC dX12_takesOf_0 rfl 0 rfl ?_
  refine ev_iload_n hC dX12_takesOf_1 rfl 1 rfl ?_
  refine ev_callV (As := [.int (nI p)]) (st := []) (wf := []) hC cv_X12_134 (m_X12_licksOf G ro a S I F B T R K D hI ac sp en iw op mu rd ra ki nu tv p (by omega) hW) (by decide) rfl rfl (Nat.le_of_ble_eq_true rfl) (List.Perm.of_eq (List.append_nil _).symm) (mw 0 rfl) rfl dX12_takesOf_2 (by decide) (by decide) ?_
  rintro _ _ _ ⟨rfl, rfl, rfl⟩
  refine ev_ws (List.append_nil _) ?_
  show Ev G X 0 0 5 [(0, .ref (a 0)), (1, .int (nI p))] [.int (licF S p)] (MW G a S I F B T R K D hI ac sp en iw op mu rd ra ki nu tv) ro
  refine ev_aload_n hC dX12_takesOf_5 rfl 0 rfl ?_
  refine ev_get hC fl_X12_9_12 (mw 0 rfl) rfl dX12_takesOf_6 ?_
  refine ev_bipush (v := (nI 20)) hC dX12_takesOf_9 (by decide) ?_
  refine ev_iload_n hC dX12_takesOf_11 rfl 1 rfl ?_
  refine ev_iadd hC dX12_takesOf_12 ?_
  refine ev_top (y := (nI (20 + p))) ((nI_add _ _).trans (congrArg nI (by omega))) ?_
  refine ev_ialdN (i := 20 + p) hC (mw 1 rfl) (by omega) (by omega) dX12_takesOf_13 ?_
  refine ev_aload_n hC dX12_takesOf_14 rfl 0 rfl ?_
  refine ev_callV (As := []) (st := [.int (S (20 + p)), .int (licF S p)]) (wf := []) hC cv_X12_137 (m_X12_needNow G ro a S I F B T R K D hI ac sp en iw op mu rd ra ki nu tv  hW.hold) (by decide) rfl rfl (Nat.le_of_ble_eq_true rfl) (List.Perm.of_eq (List.append_nil _).symm) (mw 0 rfl) rfl dX12_takesOf_15 (by decide) (by decide) ?_
  rintro _ _ _ ⟨rfl, rfl, rfl⟩
  refine ev_ws (List.append_nil _) ?_
  show Ev G X 0 0 18 [(0, .ref (a 0)), (1, .int (nI p))] [.int (needF S), .int (S (20 + p)), .int (licF S p)] (MW G a S I F B T R K D hI ac sp en iw op mu rd ra ki nu tv) ro
  refine ev_imul hC dX12_takesOf_18 ?_
  refine ev_callS (As := [.int (licF S p), .int ((S (20 + p)) * (needF S))]) (st := []) (wc := []) (wf := (MW G a S I F B T R K D hI ac sp en iw op mu rd ra ki nu tv)) hC ct_X12_140 (m_X12_less G ro (licF S p) ((S (20 + p)) * (needF S))) (by decide) rfl rfl (Nat.le_of_ble_eq_true rfl) (List.Perm.refl _) dX12_takesOf_19 (by decide) (by decide) ?_
  rintro _ _ _ ⟨rfl, rfl, rfl⟩
  refine ev_ws (List.nil_append _) ?_
  show Ev G X 0 0 22 [(0, .ref (a 0)), (1, .int (nI p))] [.int (leF (licF S p) ((S (20 + p)) * (needF S)))] (MW G a S I F B T R K D hI ac sp en iw op mu rd ra ki nu tv) ro
  refine ev_aload_n hC dX12_takesOf_22 rfl 0 rfl ?_
  refine ev_get hC fl_X12_9_12 (mw 0 rfl) rfl dX12_takesOf_23 ?_
  refine ev_iconst (v := (nI 2)) hC dX12_takesOf_26 (by decide) ?_
  refine ev_aload_n hC dX12_takesOf_27 rfl 0 rfl ?_
  refine ev_get hC fl_X12_9_12 (mw 0 rfl) rfl dX12_takesOf_28 ?_
  refine ev_bipush (v := (nI 14)) hC dX12_takesOf_31 (by decide) ?_
  refine ev_iload_n hC dX12_takesOf_33 rfl 1 rfl ?_
  refine ev_iadd hC dX12_takesOf_34 ?_
  refine ev_top (y := (nI (14 + p))) ((nI_add _ _).trans (congrArg nI (by omega))) ?_
  refine ev_ialdN (i := 14 + p) hC (mw 1 rfl) (by omega) (by omega) dX12_takesOf_35 ?_
  have bk_1 : NB S (14 + p) _ := (hW.side p (by omega))
  have k_1 := bk_1.eq
  have lk_1 := bk_1.le
  have mk_1 := bk_1.lt
  refine ev_top (y := (nI (sn S (14 + p)))) k_1 ?_
  refine ev_iadd hC dX12_takesOf_36 ?_
  refine ev_top (y := (nI (2 + (sn S (14 + p))))) ((nI_add _ _).trans (congrArg nI (by omega))) ?_
  refine ev_ialdN (i := 2 + (sn S (14 + p))) hC (mw 1 rfl) (by omega) (by omega) dX12_takesOf_37 ?_
  refine ev_callS (As := [.int (leF (licF S p) ((S (20 + p)) * (needF S))), .int (S (2 + (sn S (14 + p))))]) (st := []) (wc := []) (wf := (MW G a S I F B T R K D hI ac sp en iw op mu rd ra ki nu tv)) hC ct_X12_140 (m_X12_less G ro (leF (licF S p) ((S (20 + p)) * (needF S))) (S (2 + (sn S (14 + p))))) (by decide) rfl rfl (Nat.le_of_ble_eq_true rfl) (List.Perm.refl _) dX12_takesOf_38 (by decide) (by decide) ?_
  rintro _ _ _ ⟨rfl, rfl, rfl⟩
  refine ev_ws (List.nil_append _) ?_
  show Ev G X 0 0 41 [(0, .ref (a 0)), (1, .int (nI p))] [.int (leF (leF (licF S p) ((S (20 + p)) * (needF S))) (S (2 + (sn S (14 + p)))))] (MW G a S I F B T R K D hI ac sp en iw op mu rd ra ki nu tv) ro
  refine ev_iret hC hR rfl dX12_takesOf_41 ?_
  have e_2 : (takF S p) = (leF (leF (licF S p) ((S (20 + p)) * (needF S))) (S (2 + (sn S (14 + p))))) := by simp [takF, *]
  exact ⟨(by rw [e_2]), rfl, rfl⟩

set_option maxHeartbeats 4000000 in
set_option maxRecDepth 100000 in
theorem m_X12_rainsOn (G : GG) (ro : va_W) (a : Nat → Nat) (S I F B T R K D : Nat → Int32) (hI ac sp en iw op mu rd ra ki nu tv : Int32) (k : Nat) (hk : k < 6) (hH : HoldOK S) : Mth G M_X12_rainsOn 2 0 0 [.ref (a 0), .int (nI k)] (MW G a S I F B T R K D hI ac sp en iw op mu rd ra ki nu tv) ro (fun r ws' ro' => r = none ∧ ws' = (MW G a (upd S (2 + k) (S (2 + k) - rn1 S k)) I F B T R K D hI ac sp en iw op mu (rd + rn1 S k) ra ki nu tv) ∧ ro = ro') := by
  refine mth_of (by decide +kernel) (Nat.le_of_ble_eq_true rfl) (fun X hC hR => ?_)
  show Ev G X 0 0 0 [(0, .ref (a 0)), (1, .int (nI k))] [] (MW G a S I F B T R K D hI ac sp en iw op mu rd ra ki nu tv) ro
  refine ev_aload_n hC dX12_rainsOn_0 rfl 0 rfl ?_
  refine ev_get hC fl_X12_9_12 (mw 0 rfl) rfl dX12_rainsOn_1 ?_
  refine ev_bipush (v := (nI 8)) hC dX12_rainsOn_4 (by decide) ?_
  refine ev_iload_n hC dX12_rainsOn_6 rfl 1 rfl ?_
  refine ev_iadd hC dX12_rainsOn_7 ?_
  refine ev_top (y := (nI (8 + k))) ((nI_add _ _).trans (congrArg nI (by omega))) ?_
  refine ev_ialdN (i := 8 + k) hC (mw 1 rfl) (by omega) (by omega) dX12_rainsOn_8 ?_
  refine ev_iconst (v := (nI 1)) hC dX12_rainsOn_9 (by decide) ?_
  refine ev_icmp_ne (tgt := 17) hC dX12_rainsOn_10 (by decide) (fun c_1 => ?_) (fun c_1 => ?_)
  · refine ev_aload_n hC dX12_rainsOn_17 rfl 0 rfl ?_
    refine ev_callV (As := []) (st := []) (wf := []) hC cv_X12_156 (m_X12_rainNow G ro a S I F B T R K D hI ac sp en iw op mu rd ra ki nu tv  hH) (by decide) rfl rfl (Nat.le_of_ble_eq_true rfl) (List.Perm.of_eq (List.append_nil _).symm) (mw 0 rfl) rfl dX12_rainsOn_18 (by decide) (by decide) ?_
    rintro _ _ _ ⟨rfl, rfl, rfl⟩
    refine ev_ws (List.append_nil _) ?_
    show Ev G X 0 0 21 [(0, .ref (a 0)), (1, .int (nI k))] [.int (rainF S)] (MW G a S I F B T R K D hI ac sp en iw op mu rd ra ki nu tv) ro
    refine ev_aload_n hC dX12_rainsOn_21 rfl 0 rfl ?_
    refine ev_get hC fl_X12_9_12 (mw 0 rfl) rfl dX12_rainsOn_22 ?_
    refine ev_iconst (v := (nI 2)) hC dX12_rainsOn_25 (by decide) ?_
    refine ev_iload_n hC dX12_rainsOn_26 rfl 1 rfl ?_
    refine ev_iadd hC dX12_rainsOn_27 ?_
    refine ev_top (y := (nI (2 + k))) ((nI_add _ _).trans (congrArg nI (by omega))) ?_
    refine ev_ialdN (i := 2 + k) hC (mw 1 rfl) (by omega) (by omega) dX12_rainsOn_28 ?_
    refine ev_callS (As := [.int (rainF S), .int (S (2 + k))]) (st := []) (wc := []) (wf := (MW G a S I F B T R K D hI ac sp en iw op mu rd ra ki nu tv)) hC ct_X12_140 (m_X12_less G ro (rainF S) (S (2 + k))) (by decide) rfl rfl (Nat.le_of_ble_eq_true rfl) (List.Perm.refl _) dX12_rainsOn_29 (by decide) (by decide) ?_
    rintro _ _ _ ⟨rfl, rfl, rfl⟩
    refine ev_ws (List.nil_append _) ?_
    show Ev G X 0 0 32 [(0, .ref (a 0)), (1, .int (nI k))] [.int (leF (rainF S) (S (2 + k)))] (MW G a S I F B T R K D hI ac sp en iw op mu rd ra ki nu tv) ro
    refine ev_istore_n (lv' := [(2, .int (leF (rainF S) (S (2 + k)))), (0, .ref (a 0)), (1, .int (nI k))]) hC dX12_rainsOn_32 rfl (by decide) rfl ?_
    refine ev_aload_n hC dX12_rainsOn_33 rfl 1 rfl ?_
    refine ev_get hC fl_X12_9_12 (mw 0 rfl) rfl dX12_rainsOn_34 ?_
    refine ev_iconst (v := (nI 2)) hC dX12_rainsOn_37 (by decide) ?_
    refine ev_iload_n hC dX12_rainsOn_38 rfl 2 rfl ?_
    refine ev_iadd hC dX12_rainsOn_39 ?_
    refine ev_top (y := (nI (2 + k))) ((nI_add _ _).trans (congrArg nI (by omega))) ?_
    refine ev_dup2 hC dX12_rainsOn_40 rfl rfl ?_
    refine ev_ialdN (i := 2 + k) hC (mw 1 rfl) (by omega) (by omega) dX12_rainsOn_41 ?_
    refine ev_iload_n hC dX12_rainsOn_42 rfl 0 rfl ?_
    refine ev_isub hC dX12_rainsOn_43 ?_
    refine ev_iastN (i := 2 + k) (ws' := (MW G a (upd S (2 + k) ((S (2 + k)) - (leF (rainF S) (S (2 + k))))) I F B T R K D hI ac sp en iw op mu rd ra ki nu tv)) (q0 := 1) hC rfl (by omega) (by omega) rfl dX12_rainsOn_44 ?_
    refine ev_aload_n hC dX12_rainsOn_45 rfl 1 rfl ?_
    refine ev_dup hC dX12_rainsOn_46 rfl ?_
    refine ev_get hC fl_X12_168_12 (mw 0 rfl) rfl dX12_rainsOn_47 ?_
    refine ev_iload_n hC dX12_rainsOn_50 rfl 0 rfl ?_
    refine ev_iadd hC dX12_rainsOn_51 ?_
    refine ev_put (ws' := (MW G a (upd S (2 + k) ((S (2 + k)) - (leF (rainF S) (S (2 + k))))) I F B T R K D hI ac sp en iw op mu (rd + (leF (rainF S) (S (2 + k)))) ra ki nu tv)) (q0 := 0) hC fp_X12_168_12 rfl (Nat.le_of_ble_eq_true rfl) rfl rfl rfl dX12_rainsOn_52 ?_
    refine ev_vret hC hR rfl dX12_rainsOn_55 ?_
    have e_2 : (upd S (2 + k) (S (2 + k) - rn1 S k)) = (upd S (2 + k) ((S (2 + k)) - (leF (rainF S) (S (2 + k))))) := by simp [rn1, *]
    have e_3 : (rd + rn1 S k) = (rd + (leF (rainF S) (S (2 + k)))) := by simp [rn1, *]
    exact ⟨rfl, (by rw [e_2, e_3]), rfl⟩
  · refine ev_iconst (v := (nI 0)) hC dX12_rainsOn_13 (by decide) ?_
    refine ev_goto (tgt := 32) hC dX12_rainsOn_14 (by decide) ?_
    refine ev_istore_n (lv' := [(2, .int (nI 0)), (0, .ref (a 0)), (1, .int (nI k))]) hC dX12_rainsOn_32 rfl (by decide) rfl ?_
    refine ev_aload_n hC dX12_rainsOn_33 rfl 1 rfl ?_
    refine ev_get hC fl_X12_9_12 (mw 0 rfl) rfl dX12_rainsOn_34 ?_
    refine ev_iconst (v := (nI 2)) hC dX12_rainsOn_37 (by decide) ?_
    refine ev_iload_n hC dX12_rainsOn_38 rfl 2 rfl ?_
    refine ev_iadd hC dX12_rainsOn_39 ?_
    refine ev_top (y := (nI (2 + k))) ((nI_add _ _).trans (congrArg nI (by omega))) ?_
    refine ev_dup2 hC dX12_rainsOn_40 rfl rfl ?_
    refine ev_ialdN (i := 2 + k) hC (mw 1 rfl) (by omega) (by omega) dX12_rainsOn_41 ?_
    refine ev_iload_n hC dX12_rainsOn_42 rfl 0 rfl ?_
    refine ev_isub hC dX12_rainsOn_43 ?_
    refine ev_iastN (i := 2 + k) (ws' := (MW G a (upd S (2 + k) ((S (2 + k)) - (nI 0))) I F B T R K D hI ac sp en iw op mu rd ra ki nu tv)) (q0 := 1) hC rfl (by omega) (by omega) rfl dX12_rainsOn_44 ?_
    refine ev_aload_n hC dX12_rainsOn_45 rfl 1 rfl ?_
    refine ev_dup hC dX12_rainsOn_46 rfl ?_
    refine ev_get hC fl_X12_168_12 (mw 0 rfl) rfl dX12_rainsOn_47 ?_
    refine ev_iload_n hC dX12_rainsOn_50 rfl 0 rfl ?_
    refine ev_iadd hC dX12_rainsOn_51 ?_
    refine ev_put (ws' := (MW G a (upd S (2 + k) ((S (2 + k)) - (nI 0))) I F B T R K D hI ac sp en iw op mu (rd + (nI 0)) ra ki nu tv)) (q0 := 0) hC fp_X12_168_12 rfl (Nat.le_of_ble_eq_true rfl) rfl rfl rfl dX12_rainsOn_52 ?_
    refine ev_vret hC hR rfl dX12_rainsOn_55 ?_
    have e_4 : (upd S (2 + k) (S (2 + k) - rn1 S k)) = (upd S (2 + k) ((S (2 + k)) - (nI 0))) := by simp [rn1, *]
    have e_5 : (rd + rn1 S k) = (rd + (nI 0)) := by simp [rn1, *]
    exact ⟨rfl, (by rw [e_4, e_5]), rfl⟩
