set_option maxHeartbeats 4000000 in
set_option maxRecDepth 100000 in
theorem m_X12_on (G : GG) (ro : va_W) (a : Nat → Nat) (S I F B T R K D : Nat → Int32) (hI ac sp en iw op mu rd ra ki nu tv : Int32) (x w : Int32) {DD EE : Nat} (hW : WF S DD EE) (hD : DD + 100 < 2 ^ 31) (hE : EE + 168 * 100 < 2 ^ 31) : Mth G M_X12_on 5 0 0 [.ref (a 0), .int x, .int w] (MW G a S I F B T R K D hI ac sp en iw op (-1) rd ra ki nu tv) ro (fun r ws' ro' => ∃ (F' : Nat → Int32), ∃ (B' : Nat → Int32), ∃ (T' : Nat → Int32), ∃ (R' : Nat → Int32), ∃ (K' : Nat → Int32), ∃ (rd' : Int32), r = some (.int (onR S x w)) ∧ ws' = (MW G a S I F' B' T' R' K' D hI ac sp en iw op (-1) rd' ra ki nu tv) ∧ ro = ro') := by
  refine mth_of (by decide +kernel) (Nat.le_of_ble_eq_true rfl) (fun X hC hR => ?_)
  have b32 := hW.peo.le
  have b33 := hW.tre.le
  have b34 := hW.seen.le
  have b35 := hW.plan.le
  have b36 := hW.book.le
  have b37 := hW.tape.le
  show Ev G X 0 0 0 [(0, .ref (a 0)), (1, .int x), (2, .int w)] [] (MW G a S I F B T R K D hI ac sp en iw op (-1) rd ra ki nu tv) ro
  refine ev_iload_n hC dX12_on_0 rfl 2 rfl ?_
  refine ev_iconst (v := (nI 0)) hC dX12_on_1 (by decide) ?_
  refine ev_iconst (v := (nI 1)) hC dX12_on_2 (by decide) ?_
  refine ev_callS (As := [.int w, .int (nI 0), .int (nI 1)]) (st := []) (wc := []) (wf := (MW G a S I F B T R K D hI ac sp en iw op (-1) rd ra ki nu tv)) hC ct_X12_44 (m_X12_in G ro w (nI 0) (nI 1)) (by decide) rfl rfl (Nat.le_of_ble_eq_true rfl) (List.Perm.refl _) dX12_on_3 (by decide) (by decide) ?_
  rintro _ _ _ ⟨rfl, rfl, rfl⟩
  refine ev_ws (List.nil_append _) ?_
  show Ev G X 0 0 6 [(0, .ref (a 0)), (1, .int x), (2, .int w)] [.int (bI ((nI 0) ≤ w ∧ w ≤ (nI 1)))] (MW G a S I F B T R K D hI ac sp en iw op (-1) rd ra ki nu tv) ro
  refine ev_if_neB (tgt := 43) hC dX12_on_6 (by decide) (fun c_1 => ?_) (fun c_1 => ?_)
  · obtain ⟨wk, hwk, rfl⟩ := inN (m := 1) (by omega) (by assumption)
    rcases (show wk = 0 ∨ wk = 1 by omega) with rfl | rfl
    · refine ev_iload_n hC dX12_on_43 rfl 1 rfl ?_
      refine ev_iconst (v := (nI 0)) hC dX12_on_44 (by decide) ?_
      refine ev_bipush (v := (nI 60)) hC dX12_on_45 (by decide) ?_
      refine ev_callS (As := [.int x, .int (nI 0), .int (nI 60)]) (st := []) (wc := []) (wf := (MW G a S I F B T R K D hI ac sp en iw op (-1) rd ra ki nu tv)) hC ct_X12_44 (m_X12_in G ro x (nI 0) (nI 60)) (by decide) rfl rfl (Nat.le_of_ble_eq_true rfl) (List.Perm.refl _) dX12_on_47 (by decide) (by decide) ?_
      rintro _ _ _ ⟨rfl, rfl, rfl⟩
      refine ev_ws (List.nil_append _) ?_
      show Ev G X 0 0 50 [(0, .ref (a 0)), (1, .int x), (2, .int (nI 0))] [.int (bI ((nI 0) ≤ x ∧ x ≤ (nI 60)))] (MW G a S I F B T R K D hI ac sp en iw op (-1) rd ra ki nu tv) ro
      refine ev_if_neB (tgt := 56) hC dX12_on_50 (by decide) (fun c_2 => ?_) (fun c_2 => ?_)
      · obtain ⟨kk, hkk, rfl⟩ := inN (m := 60) (by omega) (by assumption)
        have hpn_kk : pn (nI kk) = kk := nI_clamp (by omega)
        refine ev_aload_n hC dX12_on_56 rfl 0 rfl ?_
        refine ev_callV (As := []) (st := []) (wf := []) hC cv_X12_181 (m_X12_keeps G ro a S I F B T R K D hI ac sp en iw op (-1) rd ra ki nu tv) (by decide) rfl rfl (Nat.le_of_ble_eq_true rfl) (List.Perm.of_eq (List.append_nil _).symm) (mw 0 rfl) rfl dX12_on_57 (by decide) (by decide) ?_
        rintro _ _ _ ⟨rfl, rfl, rfl⟩
        refine ev_ws (List.append_nil _) ?_
        show Ev G X 0 0 60 [(0, .ref (a 0)), (1, .int (nI kk)), (2, .int (nI 0))] [] (MW G a S I (ovF F S 32) B T R K D hI ac sp en iw op (-1) rd ra ki nu tv) ro
        refine ev_aload_n hC dX12_on_60 rfl 0 rfl ?_
        refine ev_iload_n hC dX12_on_61 rfl 1 rfl ?_
        refine ev_callV (As := [.int (nI kk)]) (st := []) (wf := []) hC cv_X12_184 (m_X12_goesOn G ro a S I (ovF F S 32) B T R K D hI ac sp en iw op (-1) rd ra ki nu tv kk hW (by omega) (by omega)) (by decide) rfl rfl (Nat.le_of_ble_eq_true rfl) (List.Perm.of_eq (List.append_nil _).symm) (mw 0 rfl) rfl dX12_on_62 (by decide) (by decide) ?_
        rintro _ _ _ ⟨B_3, T_4, R_5, K_6, rfl, rfl, rfl⟩
        refine ev_ws (List.append_nil _) ?_
        show Ev G X 0 0 65 [(0, .ref (a 0)), (1, .int (nI kk)), (2, .int (nI 0))] [] (MW G a (gosF (-1) S kk) I (ovF F S 32) B_3 T_4 R_5 K_6 D hI ac sp en iw op (-1) (raF (-1) S rd kk) ra ki nu tv) ro
        refine ev_iload_n hC dX12_on_65 rfl 2 rfl ?_
        refine ev_if_neN (tgt := 77) hC dX12_on_66 (by decide) (by omega) (fun c_7 => absurd c_7 (by omega)) (fun c_7 => ?_)
        refine ev_aload_n hC dX12_on_69 rfl 0 rfl ?_
        refine ev_iconst (v := (nI 2)) hC dX12_on_70 (by decide) ?_
        refine ev_callV (As := [.int (nI 2)]) (st := []) (wf := []) hC cv_X12_159 (m_X12_sumOf G ro a (gosF (-1) S kk) I (ovF F S 32) B_3 T_4 R_5 K_6 D hI ac sp en iw op (-1) (raF (-1) S rd kk) ra ki nu tv 2 (by omega)) (by decide) rfl rfl (Nat.le_of_ble_eq_true rfl) (List.Perm.of_eq (List.append_nil _).symm) (mw 0 rfl) rfl dX12_on_71 (by decide) (by decide) ?_
        rintro _ _ _ ⟨rfl, rfl, rfl⟩
        refine ev_ws (List.append_nil _) ?_
        show Ev G X 0 0 74 [(0, .ref (a 0)), (1, .int (nI kk)), (2, .int (nI 0))] [.int (sum6 (gosF (-1) S kk) 2)] (MW G a (gosF (-1) S kk) I (ovF F S 32) B_3 T_4 R_5 K_6 D hI ac sp en iw op (-1) (raF (-1) S rd kk) ra ki nu tv) ro
        refine ev_goto (tgt := 142) hC dX12_on_74 (by decide) ?_
        refine ev_istore_n (lv' := [(3, .int (sum6 (gosF (-1) S kk) 2)), (0, .ref (a 0)), (1, .int (nI kk)), (2, .int (nI 0))]) hC dX12_on_142 rfl (by decide) rfl ?_
        refine ev_aload_n hC dX12_on_143 rfl 1 rfl ?_
        refine ev_callV (As := []) (st := []) (wf := []) hC cv_X12_187 (m_X12_goesBack G ro a (gosF (-1) S kk) I (ovF F S 32) B_3 T_4 R_5 K_6 D hI ac sp en iw op (-1) (raF (-1) S rd kk) ra ki nu tv) (by decide) rfl rfl (Nat.le_of_ble_eq_true rfl) (List.Perm.of_eq (List.append_nil _).symm) (mw 0 rfl) rfl dX12_on_144 (by decide) (by decide) ?_
        rintro _ _ _ ⟨rfl, rfl, rfl⟩
        refine ev_ws (List.append_nil _) ?_
        show Ev G X 0 0 147 [(3, .int (sum6 (gosF (-1) S kk) 2)), (0, .ref (a 0)), (1, .int (nI kk)), (2, .int (nI 0))] [] (MW G a (ovF (gosF (-1) S kk) (ovF F S 32) 32) I (ovF F S 32) B_3 T_4 R_5 K_6 D hI ac sp en iw op (-1) (raF (-1) S rd kk) ra ki nu tv) ro
        refine ev_ws (ws' := (MW G a S I (ovF F S 32) B_3 T_4 R_5 K_6 D hI ac sp en iw op (-1) (raF (-1) S rd kk) ra ki nu tv)) (by rw [back_eq (Hi.tr Hi.rf (gosF_wf (-1) hW kk (by omega) (by omega)).2)]) ?_
        refine ev_iload_n hC dX12_on_147 rfl 0 rfl ?_
        refine ev_iret hC hR rfl dX12_on_148 ?_
        have hs32 : sn (gosF (-1) S kk) 32 = sn S 32 := (gosF_wf (-1) hW kk (by omega) (by omega)).2.sn (by omega)
        have er : onR S (nI kk) (nI 0) = (sum6 (gosF (-1) S kk) 2) := by rw [onR, if_pos (by first | exact Or.inl (by assumption) | exact Or.inr (Or.inl (by assumption)) | exact Or.inr (Or.inr (Or.inl (by assumption))) | exact Or.inr (Or.inr (Or.inr (by assumption)))), if_pos (by assumption), hpn_kk, if_pos rfl]
        exact ⟨_, _, _, _, _, _, by rw [er], rfl, rfl⟩
      · refine ev_bipush (v := (-2)) hC dX12_on_53 (by decide) ?_
        refine ev_iret hC hR rfl dX12_on_55 ?_
        have er : onR S x (nI 0) = (-2) := by rw [onR, if_pos (by first | exact Or.inl (by assumption) | exact Or.inr (Or.inl (by assumption)) | exact Or.inr (Or.inr (Or.inl (by assumption))) | exact Or.inr (Or.inr (Or.inr (by assumption)))), if_neg (by assumption)]
        exact ⟨_, _, _, _, _, _, by rw [er], rfl, rfl⟩
    · refine ev_iload_n hC dX12_on_43 rfl 1 rfl ?_
      refine ev_iconst (v := (nI 0)) hC dX12_on_44 (by decide) ?_
      refine ev_bipush (v := (nI 60)) hC dX12_on_45 (by decide) ?_
      refine ev_callS (As := [.int x, .int (nI 0), .int (nI 60)]) (st := []) (wc := []) (wf := (MW G a S I F B T R K D hI ac sp en iw op (-1) rd ra ki nu tv)) hC ct_X12_44 (m_X12_in G ro x (nI 0) (nI 60)) (by decide) rfl rfl (Nat.le_of_ble_eq_true rfl) (List.Perm.refl _) dX12_on_47 (by decide) (by decide) ?_
      rintro _ _ _ ⟨rfl, rfl, rfl⟩
      refine ev_ws (List.nil_append _) ?_
      show Ev G X 0 0 50 [(0, .ref (a 0)), (1, .int x), (2, .int (nI 1))] [.int (bI ((nI 0) ≤ x ∧ x ≤ (nI 60)))] (MW G a S I F B T R K D hI ac sp en iw op (-1) rd ra ki nu tv) ro
      refine ev_if_neB (tgt := 56) hC dX12_on_50 (by decide) (fun c_8 => ?_) (fun c_8 => ?_)
      · obtain ⟨kk, hkk, rfl⟩ := inN (m := 60) (by omega) (by assumption)
        have hpn_kk : pn (nI kk) = kk := nI_clamp (by omega)
        refine ev_aload_n hC dX12_on_56 rfl 0 rfl ?_
        refine ev_callV (As := []) (st := []) (wf := []) hC cv_X12_181 (m_X12_keeps G ro a S I F B T R K D hI ac sp en iw op (-1) rd ra ki nu tv) (by decide) rfl rfl (Nat.le_of_ble_eq_true rfl) (List.Perm.of_eq (List.append_nil _).symm) (mw 0 rfl) rfl dX12_on_57 (by decide) (by decide) ?_
        rintro _ _ _ ⟨rfl, rfl, rfl⟩
        refine ev_ws (List.append_nil _) ?_
        show Ev G X 0 0 60 [(0, .ref (a 0)), (1, .int (nI kk)), (2, .int (nI 1))] [] (MW G a S I (ovF F S 32) B T R K D hI ac sp en iw op (-1) rd ra ki nu tv) ro
        refine ev_aload_n hC dX12_on_60 rfl 0 rfl ?_
        refine ev_iload_n hC dX12_on_61 rfl 1 rfl ?_
        refine ev_callV (As := [.int (nI kk)]) (st := []) (wf := []) hC cv_X12_184 (m_X12_goesOn G ro a S I (ovF F S 32) B T R K D hI ac sp en iw op (-1) rd ra ki nu tv kk hW (by omega) (by omega)) (by decide) rfl rfl (Nat.le_of_ble_eq_true rfl) (List.Perm.of_eq (List.append_nil _).symm) (mw 0 rfl) rfl dX12_on_62 (by decide) (by decide) ?_
        rintro _ _ _ ⟨B_9, T_10, R_11, K_12, rfl, rfl, rfl⟩
        refine ev_ws (List.append_nil _) ?_
        show Ev G X 0 0 65 [(0, .ref (a 0)), (1, .int (nI kk)), (2, .int (nI 1))] [] (MW G a (gosF (-1) S kk) I (ovF F S 32) B_9 T_10 R_11 K_12 D hI ac sp en iw op (-1) (raF (-1) S rd kk) ra ki nu tv) ro
        refine ev_iload_n hC dX12_on_65 rfl 2 rfl ?_
        refine ev_if_neN (tgt := 77) hC dX12_on_66 (by decide) (by omega) (fun c_13 => ?_) (fun c_13 => absurd c_13 (by omega))
        refine ev_iload_n hC dX12_on_77 rfl 2 rfl ?_
        refine ev_iconst (v := (nI 1)) hC dX12_on_78 (by decide) ?_
        refine ev_icmp_neN (tgt := 89) hC dX12_on_79 (by decide) (by omega) (by omega) (fun c_14 => absurd c_14 (by omega)) (fun c_14 => ?_)
        refine ev_aload_n hC dX12_on_82 rfl 0 rfl ?_
        refine ev_callV (As := []) (st := []) (wf := []) hC cv_X12_162 (m_X12_grudges G ro a (gosF (-1) S kk) I (ovF F S 32) B_9 T_10 R_11 K_12 D hI ac sp en iw op (-1) (raF (-1) S rd kk) ra ki nu tv  ((gosF_wf (-1) hW kk (by omega) (by omega)).1)) (by decide) rfl rfl (Nat.le_of_ble_eq_true rfl) (List.Perm.of_eq (List.append_nil _).symm) (mw 0 rfl) rfl dX12_on_83 (by decide) (by decide) ?_
        rintro _ _ _ ⟨rfl, rfl, rfl⟩
        refine ev_ws (List.append_nil _) ?_
        show Ev G X 0 0 86 [(0, .ref (a 0)), (1, .int (nI kk)), (2, .int (nI 1))] [.int (gruF (gosF (-1) S kk) (sn (gosF (-1) S kk) 32))] (MW G a (gosF (-1) S kk) I (ovF F S 32) B_9 T_10 R_11 K_12 D hI ac sp en iw op (-1) (raF (-1) S rd kk) ra ki nu tv) ro
        refine ev_goto (tgt := 142) hC dX12_on_86 (by decide) ?_
        refine ev_istore_n (lv' := [(3, .int (gruF (gosF (-1) S kk) (sn (gosF (-1) S kk) 32))), (0, .ref (a 0)), (1, .int (nI kk)), (2, .int (nI 1))]) hC dX12_on_142 rfl (by decide) rfl ?_
        refine ev_aload_n hC dX12_on_143 rfl 1 rfl ?_
        refine ev_callV (As := []) (st := []) (wf := []) hC cv_X12_187 (m_X12_goesBack G ro a (gosF (-1) S kk) I (ovF F S 32) B_9 T_10 R_11 K_12 D hI ac sp en iw op (-1) (raF (-1) S rd kk) ra ki nu tv) (by decide) rfl rfl (Nat.le_of_ble_eq_true rfl) (List.Perm.of_eq (List.append_nil _).symm) (mw 0 rfl) rfl dX12_on_144 (by decide) (by decide) ?_
        rintro _ _ _ ⟨rfl, rfl, rfl⟩
        refine ev_ws (List.append_nil _) ?_
        show Ev G X 0 0 147 [(3, .int (gruF (gosF (-1) S kk) (sn (gosF (-1) S kk) 32))), (0, .ref (a 0)), (1, .int (nI kk)), (2, .int (nI 1))] [] (MW G a (ovF (gosF (-1) S kk) (ovF F S 32) 32) I (ovF F S 32) B_9 T_10 R_11 K_12 D hI ac sp en iw op (-1) (raF (-1) S rd kk) ra ki nu tv) ro
        refine ev_ws (ws' := (MW G a S I (ovF F S 32) B_9 T_10 R_11 K_12 D hI ac sp en iw op (-1) (raF (-1) S rd kk) ra ki nu tv)) (by rw [back_eq (Hi.tr Hi.rf (gosF_wf (-1) hW kk (by omega) (by omega)).2)]) ?_
        refine ev_iload_n hC dX12_on_147 rfl 0 rfl ?_
        refine ev_iret hC hR rfl dX12_on_148 ?_
        have hs32 : sn (gosF (-1) S kk) 32 = sn S 32 := (gosF_wf (-1) hW kk (by omega) (by omega)).2.sn (by omega)
        have er : onR S (nI kk) (nI 1) = (gruF (gosF (-1) S kk) (sn (gosF (-1) S kk) 32)) := by rw [onR, if_pos (by first | exact Or.inl (by assumption) | exact Or.inr (Or.inl (by assumption)) | exact Or.inr (Or.inr (Or.inl (by assumption))) | exact Or.inr (Or.inr (Or.inr (by assumption)))), if_pos (by assumption), hpn_kk, if_neg (by decide), if_pos rfl, hs32]
        exact ⟨_, _, _, _, _, _, by rw [er], rfl, rfl⟩
      · refine ev_bipush (v := (-2)) hC dX12_on_53 (by decide) ?_
        refine ev_iret hC hR rfl dX12_on_55 ?_
        have er : onR S x (nI 1) = (-2) := by rw [onR, if_pos (by first | exact Or.inl (by assumption) | exact Or.inr (Or.inl (by assumption)) | exact Or.inr (Or.inr (Or.inl (by assumption))) | exact Or.inr (Or.inr (Or.inr (by assumption)))), if_neg (by assumption)]
        exact ⟨_, _, _, _, _, _, by rw [er], rfl, rfl⟩
  · refine ev_iload_n hC dX12_on_9 rfl 2 rfl ?_
    refine ev_bipush (v := (nI 10)) hC dX12_on_10 (by decide) ?_
    refine ev_isub hC dX12_on_12 ?_
    refine ev_callS (As := [.int (w - (nI 10))]) (st := []) (wc := []) (wf := (MW G a S I F B T R K D hI ac sp en iw op (-1) rd ra ki nu tv)) hC ct_X12_143 (m_X12_isSide G ro (w - (nI 10))) (by decide) rfl rfl (Nat.le_of_ble_eq_true rfl) (List.Perm.refl _) dX12_on_13 (by decide) (by decide) ?_
    rintro _ _ _ ⟨rfl, rfl, rfl⟩
    refine ev_ws (List.nil_append _) ?_
    show Ev G X 0 0 16 [(0, .ref (a 0)), (1, .int x), (2, .int w)] [.int (bI ((nI 0) ≤ (w - (nI 10)) ∧ (w - (nI 10)) ≤ (nI 5)))] (MW G a S I F B T R K D hI ac sp en iw op (-1) rd ra ki nu tv) ro
    refine ev_if_neB (tgt := 43) hC dX12_on_16 (by decide) (fun c_15 => ?_) (fun c_15 => ?_)
    · obtain ⟨k, hk, rfl⟩ := inSub (m := 5) (c := 10) (by omega) (by assumption)
      refine ev_iload_n hC dX12_on_43 rfl 1 rfl ?_
      refine ev_iconst (v := (nI 0)) hC dX12_on_44 (by decide) ?_
      refine ev_bipush (v := (nI 60)) hC dX12_on_45 (by decide) ?_
      refine ev_callS (As := [.int x, .int (nI 0), .int (nI 60)]) (st := []) (wc := []) (wf := (MW G a S I F B T R K D hI ac sp en iw op (-1) rd ra ki nu tv)) hC ct_X12_44 (m_X12_in G ro x (nI 0) (nI 60)) (by decide) rfl rfl (Nat.le_of_ble_eq_true rfl) (List.Perm.refl _) dX12_on_47 (by decide) (by decide) ?_
      rintro _ _ _ ⟨rfl, rfl, rfl⟩
      refine ev_ws (List.nil_append _) ?_
      show Ev G X 0 0 50 [(0, .ref (a 0)), (1, .int x), (2, .int (nI (k + 10)))] [.int (bI ((nI 0) ≤ x ∧ x ≤ (nI 60)))] (MW G a S I F B T R K D hI ac sp en iw op (-1) rd ra ki nu tv) ro
      refine ev_if_neB (tgt := 56) hC dX12_on_50 (by decide) (fun c_16 => ?_) (fun c_16 => ?_)
      · obtain ⟨kk, hkk, rfl⟩ := inN (m := 60) (by omega) (by assumption)
        have hpn_kk : pn (nI kk) = kk := nI_clamp (by omega)
        refine ev_aload_n hC dX12_on_56 rfl 0 rfl ?_
        refine ev_callV (As := []) (st := []) (wf := []) hC cv_X12_181 (m_X12_keeps G ro a S I F B T R K D hI ac sp en iw op (-1) rd ra ki nu tv) (by decide) rfl rfl (Nat.le_of_ble_eq_true rfl) (List.Perm.of_eq (List.append_nil _).symm) (mw 0 rfl) rfl dX12_on_57 (by decide) (by decide) ?_
        rintro _ _ _ ⟨rfl, rfl, rfl⟩
        refine ev_ws (List.append_nil _) ?_
        show Ev G X 0 0 60 [(0, .ref (a 0)), (1, .int (nI kk)), (2, .int (nI (k + 10)))] [] (MW G a S I (ovF F S 32) B T R K D hI ac sp en iw op (-1) rd ra ki nu tv) ro
        refine ev_aload_n hC dX12_on_60 rfl 0 rfl ?_
        refine ev_iload_n hC dX12_on_61 rfl 1 rfl ?_
        refine ev_callV (As := [.int (nI kk)]) (st := []) (wf := []) hC cv_X12_184 (m_X12_goesOn G ro a S I (ovF F S 32) B T R K D hI ac sp en iw op (-1) rd ra ki nu tv kk hW (by omega) (by omega)) (by decide) rfl rfl (Nat.le_of_ble_eq_true rfl) (List.Perm.of_eq (List.append_nil _).symm) (mw 0 rfl) rfl dX12_on_62 (by decide) (by decide) ?_
        rintro _ _ _ ⟨B_17, T_18, R_19, K_20, rfl, rfl, rfl⟩
        refine ev_ws (List.append_nil _) ?_
        show Ev G X 0 0 65 [(0, .ref (a 0)), (1, .int (nI kk)), (2, .int (nI (k + 10)))] [] (MW G a (gosF (-1) S kk) I (ovF F S 32) B_17 T_18 R_19 K_20 D hI ac sp en iw op (-1) (raF (-1) S rd kk) ra ki nu tv) ro
        refine ev_iload_n hC dX12_on_65 rfl 2 rfl ?_
        refine ev_if_neN (tgt := 77) hC dX12_on_66 (by decide) (by omega) (fun c_21 => ?_) (fun c_21 => absurd c_21 (by omega))
        refine ev_iload_n hC dX12_on_77 rfl 2 rfl ?_
        refine ev_iconst (v := (nI 1)) hC dX12_on_78 (by decide) ?_
        refine ev_icmp_neN (tgt := 89) hC dX12_on_79 (by decide) (by omega) (by omega) (fun c_22 => ?_) (fun c_22 => absurd c_22 (by omega))
        refine ev_iload_n hC dX12_on_89 rfl 2 rfl ?_
        refine ev_bipush (v := (nI 20)) hC dX12_on_90 (by decide) ?_
        refine ev_icmp_geN (tgt := 109) hC dX12_on_92 (by decide) (by omega) (by omega) (fun c_23 => absurd c_23 (by omega)) (fun c_23 => ?_)
        refine ev_aload_n hC dX12_on_95 rfl 0 rfl ?_
        refine ev_get hC fl_X12_9_12 (mw 0 rfl) rfl dX12_on_96 ?_
        refine ev_iconst (v := (nI 2)) hC dX12_on_99 (by decide) ?_
        refine ev_iload_n hC dX12_on_100 rfl 2 rfl ?_
        refine ev_iadd hC dX12_on_101 ?_
        refine ev_top (y := (nI (k + 12))) ((nI_add _ _).trans (congrArg nI (by omega))) ?_
        refine ev_bipush (v := (nI 10)) hC dX12_on_102 (by decide) ?_
        refine ev_isub hC dX12_on_104 ?_
        refine ev_top (y := (nI (k + 2))) ((pk_sub (by omega)).trans (congrArg nI (by omega))) ?_
        refine ev_ialdN (i := k + 2) hC (mw 1 rfl) (by omega) (by omega) dX12_on_105 ?_
        refine ev_goto (tgt := 142) hC dX12_on_106 (by decide) ?_
        refine ev_istore_n (lv' := [(3, .int ((gosF (-1) S kk) (k + 2))), (0, .ref (a 0)), (1, .int (nI kk)), (2, .int (nI (k + 10)))]) hC dX12_on_142 rfl (by decide) rfl ?_
        refine ev_aload_n hC dX12_on_143 rfl 1 rfl ?_
        refine ev_callV (As := []) (st := []) (wf := []) hC cv_X12_187 (m_X12_goesBack G ro a (gosF (-1) S kk) I (ovF F S 32) B_17 T_18 R_19 K_20 D hI ac sp en iw op (-1) (raF (-1) S rd kk) ra ki nu tv) (by decide) rfl rfl (Nat.le_of_ble_eq_true rfl) (List.Perm.of_eq (List.append_nil _).symm) (mw 0 rfl) rfl dX12_on_144 (by decide) (by decide) ?_
        rintro _ _ _ ⟨rfl, rfl, rfl⟩
        refine ev_ws (List.append_nil _) ?_
        show Ev G X 0 0 147 [(3, .int ((gosF (-1) S kk) (k + 2))), (0, .ref (a 0)), (1, .int (nI kk)), (2, .int (nI (k + 10)))] [] (MW G a (ovF (gosF (-1) S kk) (ovF F S 32) 32) I (ovF F S 32) B_17 T_18 R_19 K_20 D hI ac sp en iw op (-1) (raF (-1) S rd kk) ra ki nu tv) ro
        refine ev_ws (ws' := (MW G a S I (ovF F S 32) B_17 T_18 R_19 K_20 D hI ac sp en iw op (-1) (raF (-1) S rd kk) ra ki nu tv)) (by rw [back_eq (Hi.tr Hi.rf (gosF_wf (-1) hW kk (by omega) (by omega)).2)]) ?_
        refine ev_iload_n hC dX12_on_147 rfl 0 rfl ?_
        refine ev_iret hC hR rfl dX12_on_148 ?_
        have hpn : pn (nI k) = k := nI_clamp (by omega)
        have hs32 : sn (gosF (-1) S kk) 32 = sn S 32 := (gosF_wf (-1) hW kk (by omega) (by omega)).2.sn (by omega)
        have er : onR S (nI kk) (nI (k + 10)) = ((gosF (-1) S kk) (k + 2)) := by rw [onR, if_pos (by first | exact Or.inl (by assumption) | exact Or.inr (Or.inl (by assumption)) | exact Or.inr (Or.inr (Or.inl (by assumption))) | exact Or.inr (Or.inr (Or.inr (by assumption)))), if_pos (by assumption), hpn_kk, if_neg (fun h => absurd ((nI_eq (by omega) (by omega)).mp h) (by omega)), if_neg (fun h => absurd ((nI_eq (by omega) (by omega)).mp h) (by omega)), if_pos ((nI_ltI (by omega) (by omega)).mpr (by omega)), pk_sub (by omega), show k + 10 - 10 = k by omega, hpn, show 2 + k = k + 2 by omega]
        exact ⟨_, _, _, _, _, _, by rw [er], rfl, rfl⟩
      · refine ev_bipush (v := (-2)) hC dX12_on_53 (by decide) ?_
        refine ev_iret hC hR rfl dX12_on_55 ?_
        have er : onR S x (nI (k + 10)) = (-2) := by rw [onR, if_pos (by first | exact Or.inl (by assumption) | exact Or.inr (Or.inl (by assumption)) | exact Or.inr (Or.inr (Or.inl (by assumption))) | exact Or.inr (Or.inr (Or.inr (by assumption)))), if_neg (by assumption)]
        exact ⟨_, _, _, _, _, _, by rw [er], rfl, rfl⟩
    · refine ev_aload_n hC dX12_on_19 rfl 0 rfl ?_
      refine ev_iload_n hC dX12_on_20 rfl 2 rfl ?_
      refine ev_bipush (v := (nI 20)) hC dX12_on_21 (by decide) ?_
      refine ev_isub hC dX12_on_23 ?_
      refine ev_callV (As := [.int (w - (nI 20))]) (st := []) (wf := []) hC cv_X12_147 (m_X12_isPerson G ro a S I F B T R K D hI ac sp en iw op (-1) rd ra ki nu tv (w - (nI 20))) (by decide) rfl rfl (Nat.le_of_ble_eq_true rfl) (List.Perm.of_eq (List.append_nil _).symm) (mw 0 rfl) rfl dX12_on_24 (by decide) (by decide) ?_
      rintro _ _ _ ⟨rfl, rfl, rfl⟩
      refine ev_ws (List.append_nil _) ?_
      show Ev G X 0 0 27 [(0, .ref (a 0)), (1, .int x), (2, .int w)] [.int (bI ((nI 0) ≤ (w - (nI 20)) ∧ (w - (nI 20)) ≤ ((S 32) - nI 1)))] (MW G a S I F B T R K D hI ac sp en iw op (-1) rd ra ki nu tv) ro
      refine ev_if_neB (tgt := 43) hC dX12_on_27 (by decide) (fun c_24 => ?_) (fun c_24 => ?_)
      · obtain ⟨k, hk, hke⟩ := isP hW (by assumption)
        obtain rfl : w = nI (k + 20) := by rw [← nI_add, ← hke, Int32.sub_add_cancel]
        refine ev_iload_n hC dX12_on_43 rfl 1 rfl ?_
        refine ev_iconst (v := (nI 0)) hC dX12_on_44 (by decide) ?_
        refine ev_bipush (v := (nI 60)) hC dX12_on_45 (by decide) ?_
        refine ev_callS (As := [.int x, .int (nI 0), .int (nI 60)]) (st := []) (wc := []) (wf := (MW G a S I F B T R K D hI ac sp en iw op (-1) rd ra ki nu tv)) hC ct_X12_44 (m_X12_in G ro x (nI 0) (nI 60)) (by decide) rfl rfl (Nat.le_of_ble_eq_true rfl) (List.Perm.refl _) dX12_on_47 (by decide) (by decide) ?_
        rintro _ _ _ ⟨rfl, rfl, rfl⟩
        refine ev_ws (List.nil_append _) ?_
        show Ev G X 0 0 50 [(0, .ref (a 0)), (1, .int x), (2, .int (nI (k + 20)))] [.int (bI ((nI 0) ≤ x ∧ x ≤ (nI 60)))] (MW G a S I F B T R K D hI ac sp en iw op (-1) rd ra ki nu tv) ro
        refine ev_if_neB (tgt := 56) hC dX12_on_50 (by decide) (fun c_25 => ?_) (fun c_25 => ?_)
        · obtain ⟨kk, hkk, rfl⟩ := inN (m := 60) (by omega) (by assumption)
          have hpn_kk : pn (nI kk) = kk := nI_clamp (by omega)
          refine ev_aload_n hC dX12_on_56 rfl 0 rfl ?_
          refine ev_callV (As := []) (st := []) (wf := []) hC cv_X12_181 (m_X12_keeps G ro a S I F B T R K D hI ac sp en iw op (-1) rd ra ki nu tv) (by decide) rfl rfl (Nat.le_of_ble_eq_true rfl) (List.Perm.of_eq (List.append_nil _).symm) (mw 0 rfl) rfl dX12_on_57 (by decide) (by decide) ?_
          rintro _ _ _ ⟨rfl, rfl, rfl⟩
          refine ev_ws (List.append_nil _) ?_
          show Ev G X 0 0 60 [(0, .ref (a 0)), (1, .int (nI kk)), (2, .int (nI (k + 20)))] [] (MW G a S I (ovF F S 32) B T R K D hI ac sp en iw op (-1) rd ra ki nu tv) ro
          refine ev_aload_n hC dX12_on_60 rfl 0 rfl ?_
          refine ev_iload_n hC dX12_on_61 rfl 1 rfl ?_
          refine ev_callV (As := [.int (nI kk)]) (st := []) (wf := []) hC cv_X12_184 (m_X12_goesOn G ro a S I (ovF F S 32) B T R K D hI ac sp en iw op (-1) rd ra ki nu tv kk hW (by omega) (by omega)) (by decide) rfl rfl (Nat.le_of_ble_eq_true rfl) (List.Perm.of_eq (List.append_nil _).symm) (mw 0 rfl) rfl dX12_on_62 (by decide) (by decide) ?_
          rintro _ _ _ ⟨B_26, T_27, R_28, K_29, rfl, rfl, rfl⟩
          refine ev_ws (List.append_nil _) ?_
          show Ev G X 0 0 65 [(0, .ref (a 0)), (1, .int (nI kk)), (2, .int (nI (k + 20)))] [] (MW G a (gosF (-1) S kk) I (ovF F S 32) B_26 T_27 R_28 K_29 D hI ac sp en iw op (-1) (raF (-1) S rd kk) ra ki nu tv) ro
          refine ev_iload_n hC dX12_on_65 rfl 2 rfl ?_
          refine ev_if_neN (tgt := 77) hC dX12_on_66 (by decide) (by omega) (fun c_30 => ?_) (fun c_30 => absurd c_30 (by omega))
          refine ev_iload_n hC dX12_on_77 rfl 2 rfl ?_
          refine ev_iconst (v := (nI 1)) hC dX12_on_78 (by decide) ?_
          refine ev_icmp_neN (tgt := 89) hC dX12_on_79 (by decide) (by omega) (by omega) (fun c_31 => ?_) (fun c_31 => absurd c_31 (by omega))
          refine ev_iload_n hC dX12_on_89 rfl 2 rfl ?_
          refine ev_bipush (v := (nI 20)) hC dX12_on_90 (by decide) ?_
          refine ev_icmp_geN (tgt := 109) hC dX12_on_92 (by decide) (by omega) (by omega) (fun c_32 => ?_) (fun c_32 => absurd c_32 (by omega))
          refine ev_iload_n hC dX12_on_109 rfl 2 rfl ?_
          refine ev_bipush (v := (nI 30)) hC dX12_on_110 (by decide) ?_
          refine ev_icmp_geN (tgt := 130) hC dX12_on_112 (by decide) (by omega) (by omega) (fun c_33 => absurd c_33 (by omega)) (fun c_33 => ?_)
          refine ev_aload_n hC dX12_on_115 rfl 0 rfl ?_
          refine ev_get hC fl_X12_9_12 (mw 0 rfl) rfl dX12_on_116 ?_
          refine ev_bipush (v := (nI 20)) hC dX12_on_119 (by decide) ?_
          refine ev_iload_n hC dX12_on_121 rfl 2 rfl ?_
          refine ev_iadd hC dX12_on_122 ?_
          refine ev_top (y := (nI (k + 40))) ((nI_add _ _).trans (congrArg nI (by omega))) ?_
          refine ev_bipush (v := (nI 20)) hC dX12_on_123 (by decide) ?_
          refine ev_isub hC dX12_on_125 ?_
          refine ev_top (y := (nI (k + 20))) ((pk_sub (by omega)).trans (congrArg nI (by omega))) ?_
          refine ev_ialdN (i := k + 20) hC (mw 1 rfl) (by omega) (by omega) dX12_on_126 ?_
          refine ev_goto (tgt := 142) hC dX12_on_127 (by decide) ?_
          refine ev_istore_n (lv' := [(3, .int ((gosF (-1) S kk) (k + 20))), (0, .ref (a 0)), (1, .int (nI kk)), (2, .int (nI (k + 20)))]) hC dX12_on_142 rfl (by decide) rfl ?_
          refine ev_aload_n hC dX12_on_143 rfl 1 rfl ?_
          refine ev_callV (As := []) (st := []) (wf := []) hC cv_X12_187 (m_X12_goesBack G ro a (gosF (-1) S kk) I (ovF F S 32) B_26 T_27 R_28 K_29 D hI ac sp en iw op (-1) (raF (-1) S rd kk) ra ki nu tv) (by decide) rfl rfl (Nat.le_of_ble_eq_true rfl) (List.Perm.of_eq (List.append_nil _).symm) (mw 0 rfl) rfl dX12_on_144 (by decide) (by decide) ?_
          rintro _ _ _ ⟨rfl, rfl, rfl⟩
          refine ev_ws (List.append_nil _) ?_
          show Ev G X 0 0 147 [(3, .int ((gosF (-1) S kk) (k + 20))), (0, .ref (a 0)), (1, .int (nI kk)), (2, .int (nI (k + 20)))] [] (MW G a (ovF (gosF (-1) S kk) (ovF F S 32) 32) I (ovF F S 32) B_26 T_27 R_28 K_29 D hI ac sp en iw op (-1) (raF (-1) S rd kk) ra ki nu tv) ro
          refine ev_ws (ws' := (MW G a S I (ovF F S 32) B_26 T_27 R_28 K_29 D hI ac sp en iw op (-1) (raF (-1) S rd kk) ra ki nu tv)) (by rw [back_eq (Hi.tr Hi.rf (gosF_wf (-1) hW kk (by omega) (by omega)).2)]) ?_
          refine ev_iload_n hC dX12_on_147 rfl 0 rfl ?_
          refine ev_iret hC hR rfl dX12_on_148 ?_
          have hpn : pn (nI k) = k := nI_clamp (by omega)
          have hs32 : sn (gosF (-1) S kk) 32 = sn S 32 := (gosF_wf (-1) hW kk (by omega) (by omega)).2.sn (by omega)
          have er : onR S (nI kk) (nI (k + 20)) = ((gosF (-1) S kk) (k + 20)) := by rw [onR, if_pos (by first | exact Or.inl (by assumption) | exact Or.inr (Or.inl (by assumption)) | exact Or.inr (Or.inr (Or.inl (by assumption))) | exact Or.inr (Or.inr (Or.inr (by assumption)))), if_pos (by assumption), hpn_kk, if_neg (fun h => absurd ((nI_eq (by omega) (by omega)).mp h) (by omega)), if_neg (fun h => absurd ((nI_eq (by omega) (by omega)).mp h) (by omega)), if_neg (fun h => absurd ((nI_ltI (by omega) (by omega)).mp h) (by omega)), if_pos ((nI_ltI (by omega) (by omega)).mpr (by omega)), pk_sub (by omega), show k + 20 - 20 = k by omega, hpn, show 20 + k = k + 20 by omega]
          exact ⟨_, _, _, _, _, _, by rw [er], rfl, rfl⟩
        · refine ev_bipush (v := (-2)) hC dX12_on_53 (by decide) ?_
          refine ev_iret hC hR rfl dX12_on_55 ?_
          have er : onR S x (nI (k + 20)) = (-2) := by rw [onR, if_pos (by first | exact Or.inl (by assumption) | exact Or.inr (Or.inl (by assumption)) | exact Or.inr (Or.inr (Or.inl (by assumption))) | exact Or.inr (Or.inr (Or.inr (by assumption)))), if_neg (by assumption)]
          exact ⟨_, _, _, _, _, _, by rw [er], rfl, rfl⟩
      · refine ev_aload_n hC dX12_on_30 rfl 0 rfl ?_
        refine ev_iload_n hC dX12_on_31 rfl 2 rfl ?_
        refine ev_bipush (v := (nI 30)) hC dX12_on_32 (by decide) ?_
        refine ev_isub hC dX12_on_34 ?_
        refine ev_callV (As := [.int (w - (nI 30))]) (st := []) (wf := []) hC cv_X12_147 (m_X12_isPerson G ro a S I F B T R K D hI ac sp en iw op (-1) rd ra ki nu tv (w - (nI 30))) (by decide) rfl rfl (Nat.le_of_ble_eq_true rfl) (List.Perm.of_eq (List.append_nil _).symm) (mw 0 rfl) rfl dX12_on_35 (by decide) (by decide) ?_
        rintro _ _ _ ⟨rfl, rfl, rfl⟩
        refine ev_ws (List.append_nil _) ?_
        show Ev G X 0 0 38 [(0, .ref (a 0)), (1, .int x), (2, .int w)] [.int (bI ((nI 0) ≤ (w - (nI 30)) ∧ (w - (nI 30)) ≤ ((S 32) - nI 1)))] (MW G a S I F B T R K D hI ac sp en iw op (-1) rd ra ki nu tv) ro
        refine ev_if_neB (tgt := 43) hC dX12_on_38 (by decide) (fun c_34 => ?_) (fun c_34 => ?_)
        · obtain ⟨k, hk, hke⟩ := isP hW (by assumption)
          obtain rfl : w = nI (k + 30) := by rw [← nI_add, ← hke, Int32.sub_add_cancel]
          refine ev_iload_n hC dX12_on_43 rfl 1 rfl ?_
          refine ev_iconst (v := (nI 0)) hC dX12_on_44 (by decide) ?_
          refine ev_bipush (v := (nI 60)) hC dX12_on_45 (by decide) ?_
          refine ev_callS (As := [.int x, .int (nI 0), .int (nI 60)]) (st := []) (wc := []) (wf := (MW G a S I F B T R K D hI ac sp en iw op (-1) rd ra ki nu tv)) hC ct_X12_44 (m_X12_in G ro x (nI 0) (nI 60)) (by decide) rfl rfl (Nat.le_of_ble_eq_true rfl) (List.Perm.refl _) dX12_on_47 (by decide) (by decide) ?_
          rintro _ _ _ ⟨rfl, rfl, rfl⟩
          refine ev_ws (List.nil_append _) ?_
          show Ev G X 0 0 50 [(0, .ref (a 0)), (1, .int x), (2, .int (nI (k + 30)))] [.int (bI ((nI 0) ≤ x ∧ x ≤ (nI 60)))] (MW G a S I F B T R K D hI ac sp en iw op (-1) rd ra ki nu tv) ro
          refine ev_if_neB (tgt := 56) hC dX12_on_50 (by decide) (fun c_35 => ?_) (fun c_35 => ?_)
          · obtain ⟨kk, hkk, rfl⟩ := inN (m := 60) (by omega) (by assumption)
            have hpn_kk : pn (nI kk) = kk := nI_clamp (by omega)
            refine ev_aload_n hC dX12_on_56 rfl 0 rfl ?_
            refine ev_callV (As := []) (st := []) (wf := []) hC cv_X12_181 (m_X12_keeps G ro a S I F B T R K D hI ac sp en iw op (-1) rd ra ki nu tv) (by decide) rfl rfl (Nat.le_of_ble_eq_true rfl) (List.Perm.of_eq (List.append_nil _).symm) (mw 0 rfl) rfl dX12_on_57 (by decide) (by decide) ?_
            rintro _ _ _ ⟨rfl, rfl, rfl⟩
            refine ev_ws (List.append_nil _) ?_
            show Ev G X 0 0 60 [(0, .ref (a 0)), (1, .int (nI kk)), (2, .int (nI (k + 30)))] [] (MW G a S I (ovF F S 32) B T R K D hI ac sp en iw op (-1) rd ra ki nu tv) ro
            refine ev_aload_n hC dX12_on_60 rfl 0 rfl ?_
            refine ev_iload_n hC dX12_on_61 rfl 1 rfl ?_
            refine ev_callV (As := [.int (nI kk)]) (st := []) (wf := []) hC cv_X12_184 (m_X12_goesOn G ro a S I (ovF F S 32) B T R K D hI ac sp en iw op (-1) rd ra ki nu tv kk hW (by omega) (by omega)) (by decide) rfl rfl (Nat.le_of_ble_eq_true rfl) (List.Perm.of_eq (List.append_nil _).symm) (mw 0 rfl) rfl dX12_on_62 (by decide) (by decide) ?_
            rintro _ _ _ ⟨B_36, T_37, R_38, K_39, rfl, rfl, rfl⟩
            refine ev_ws (List.append_nil _) ?_
            show Ev G X 0 0 65 [(0, .ref (a 0)), (1, .int (nI kk)), (2, .int (nI (k + 30)))] [] (MW G a (gosF (-1) S kk) I (ovF F S 32) B_36 T_37 R_38 K_39 D hI ac sp en iw op (-1) (raF (-1) S rd kk) ra ki nu tv) ro
            refine ev_iload_n hC dX12_on_65 rfl 2 rfl ?_
            refine ev_if_neN (tgt := 77) hC dX12_on_66 (by decide) (by omega) (fun c_40 => ?_) (fun c_40 => absurd c_40 (by omega))
            refine ev_iload_n hC dX12_on_77 rfl 2 rfl ?_
            refine ev_iconst (v := (nI 1)) hC dX12_on_78 (by decide) ?_
            refine ev_icmp_neN (tgt := 89) hC dX12_on_79 (by decide) (by omega) (by omega) (fun c_41 => ?_) (fun c_41 => absurd c_41 (by omega))
            refine ev_iload_n hC dX12_on_89 rfl 2 rfl ?_
            refine ev_bipush (v := (nI 20)) hC dX12_on_90 (by decide) ?_
            refine ev_icmp_geN (tgt := 109) hC dX12_on_92 (by decide) (by omega) (by omega) (fun c_42 => ?_) (fun c_42 => absurd c_42 (by omega))
            refine ev_iload_n hC dX12_on_109 rfl 2 rfl ?_
            refine ev_bipush (v := (nI 30)) hC dX12_on_110 (by decide) ?_
            refine ev_icmp_geN (tgt := 130) hC dX12_on_112 (by decide) (by omega) (by omega) (fun c_43 => ?_) (fun c_43 => absurd c_43 (by omega))
            refine ev_aload_n hC dX12_on_130 rfl 0 rfl ?_
            refine ev_get hC fl_X12_9_12 (mw 0 rfl) rfl dX12_on_131 ?_
            refine ev_bipush (v := (nI 26)) hC dX12_on_134 (by decide) ?_
            refine ev_iload_n hC dX12_on_136 rfl 2 rfl ?_
            refine ev_iadd hC dX12_on_137 ?_
            refine ev_top (y := (nI (k + 56))) ((nI_add _ _).trans (congrArg nI (by omega))) ?_
            refine ev_bipush (v := (nI 30)) hC dX12_on_138 (by decide) ?_
            refine ev_isub hC dX12_on_140 ?_
            refine ev_top (y := (nI (k + 26))) ((pk_sub (by omega)).trans (congrArg nI (by omega))) ?_
            refine ev_ialdN (i := k + 26) hC (mw 1 rfl) (by omega) (by omega) dX12_on_141 ?_
            refine ev_istore_n (lv' := [(3, .int ((gosF (-1) S kk) (k + 26))), (0, .ref (a 0)), (1, .int (nI kk)), (2, .int (nI (k + 30)))]) hC dX12_on_142 rfl (by decide) rfl ?_
            refine ev_aload_n hC dX12_on_143 rfl 1 rfl ?_
            refine ev_callV (As := []) (st := []) (wf := []) hC cv_X12_187 (m_X12_goesBack G ro a (gosF (-1) S kk) I (ovF F S 32) B_36 T_37 R_38 K_39 D hI ac sp en iw op (-1) (raF (-1) S rd kk) ra ki nu tv) (by decide) rfl rfl (Nat.le_of_ble_eq_true rfl) (List.Perm.of_eq (List.append_nil _).symm) (mw 0 rfl) rfl dX12_on_144 (by decide) (by decide) ?_
            rintro _ _ _ ⟨rfl, rfl, rfl⟩
            refine ev_ws (List.append_nil _) ?_
            show Ev G X 0 0 147 [(3, .int ((gosF (-1) S kk) (k + 26))), (0, .ref (a 0)), (1, .int (nI kk)), (2, .int (nI (k + 30)))] [] (MW G a (ovF (gosF (-1) S kk) (ovF F S 32) 32) I (ovF F S 32) B_36 T_37 R_38 K_39 D hI ac sp en iw op (-1) (raF (-1) S rd kk) ra ki nu tv) ro
            refine ev_ws (ws' := (MW G a S I (ovF F S 32) B_36 T_37 R_38 K_39 D hI ac sp en iw op (-1) (raF (-1) S rd kk) ra ki nu tv)) (by rw [back_eq (Hi.tr Hi.rf (gosF_wf (-1) hW kk (by omega) (by omega)).2)]) ?_
            refine ev_iload_n hC dX12_on_147 rfl 0 rfl ?_
            refine ev_iret hC hR rfl dX12_on_148 ?_
            have hpn : pn (nI k) = k := nI_clamp (by omega)
            have hs32 : sn (gosF (-1) S kk) 32 = sn S 32 := (gosF_wf (-1) hW kk (by omega) (by omega)).2.sn (by omega)
            have er : onR S (nI kk) (nI (k + 30)) = ((gosF (-1) S kk) (k + 26)) := by rw [onR, if_pos (by first | exact Or.inl (by assumption) | exact Or.inr (Or.inl (by assumption)) | exact Or.inr (Or.inr (Or.inl (by assumption))) | exact Or.inr (Or.inr (Or.inr (by assumption)))), if_pos (by assumption), hpn_kk, if_neg (fun h => absurd ((nI_eq (by omega) (by omega)).mp h) (by omega)), if_neg (fun h => absurd ((nI_eq (by omega) (by omega)).mp h) (by omega)), if_neg (fun h => absurd ((nI_ltI (by omega) (by omega)).mp h) (by omega)), if_neg (fun h => absurd ((nI_ltI (by omega) (by omega)).mp h) (by omega)), pk_sub (by omega), show k + 30 - 30 = k by omega, hpn, show 26 + k = k + 26 by omega]
            exact ⟨_, _, _, _, _, _, by rw [er], rfl, rfl⟩
          · refine ev_bipush (v := (-2)) hC dX12_on_53 (by decide) ?_
            refine ev_iret hC hR rfl dX12_on_55 ?_
            have er : onR S x (nI (k + 30)) = (-2) := by rw [onR, if_pos (by first | exact Or.inl (by assumption) | exact Or.inr (Or.inl (by assumption)) | exact Or.inr (Or.inr (Or.inl (by assumption))) | exact Or.inr (Or.inr (Or.inr (by assumption)))), if_neg (by assumption)]
            exact ⟨_, _, _, _, _, _, by rw [er], rfl, rfl⟩
        · refine ev_iconst (v := (-1)) hC dX12_on_41 (by decide) ?_
          refine ev_iret hC hR rfl dX12_on_42 ?_
          have er : onR S x w = (-1) := by rw [onR, if_neg (by rintro (h | h | h | h) <;> contradiction)]
          exact ⟨_, _, _, _, _, _, by rw [er], rfl, rfl⟩

set_option maxHeartbeats 4000000 in
set_option maxRecDepth 100000 in
theorem m_X12_thinnest (G : GG) (ro : va_W) (a : Nat → Nat) (S I F B T R K D : Nat → Int32) (hI ac sp en iw op mu rd ra ki nu tv : Int32) (x w : Int32) {DD EE : Nat} (hW : WF S DD EE) (hD : DD + 100 < 2 ^ 31) (hE : EE + 168 * 100 < 2 ^ 31) : Mth G M_X12_thinnest 5 0 0 [.ref (a 0), .int x, .int w] (MW G a S I F B T R K D hI ac sp en iw op (-1) rd ra ki nu tv) ro (fun r ws' ro' => ∃ (F' : Nat → Int32), ∃ (B' : Nat → Int32), ∃ (T' : Nat → Int32), ∃ (R' : Nat → Int32), ∃ (K' : Nat → Int32), ∃ (rd' : Int32), r = some (.int (thinnestR S x w)) ∧ ws' = (MW G a S I F' B' T' R' K' D hI ac sp en iw op (-1) rd' ra ki nu tv) ∧ ro = ro') := by
  refine mth_of (by decide +kernel) (Nat.le_of_ble_eq_true rfl) (fun X hC hR => ?_)
  have b32 := hW.peo.le
  have b33 := hW.tre.le
  have b34 := hW.seen.le
  have b35 := hW.plan.le
  have b36 := hW.book.le
  have b37 := hW.tape.le
  show Ev G X 0 0 0 [(0, .ref (a 0)), (1, .int x), (2, .int w)] [] (MW G a S I F B T R K D hI ac sp en iw op (-1) rd ra ki nu tv) ro
  refine ev_iload_n hC dX12_thinnest_0 rfl 2 rfl ?_
  refine ev_iconst (v := (nI 0)) hC dX12_thinnest_1 (by decide) ?_
  refine ev_iconst (v := (nI 1)) hC dX12_thinnest_2 (by decide) ?_
  refine ev_callS (As := [.int w, .int (nI 0), .int (nI 1)]) (st := []) (wc := []) (wf := (MW G a S I F B T R K D hI ac sp en iw op (-1) rd ra ki nu tv)) hC ct_X12_44 (m_X12_in G ro w (nI 0) (nI 1)) (by decide) rfl rfl (Nat.le_of_ble_eq_true rfl) (List.Perm.refl _) dX12_thinnest_3 (by decide) (by decide) ?_
  rintro _ _ _ ⟨rfl, rfl, rfl⟩
  refine ev_ws (List.nil_append _) ?_
  show Ev G X 0 0 6 [(0, .ref (a 0)), (1, .int x), (2, .int w)] [.int (bI ((nI 0) ≤ w ∧ w ≤ (nI 1)))] (MW G a S I F B T R K D hI ac sp en iw op (-1) rd ra ki nu tv) ro
  refine ev_if_neB (tgt := 11) hC dX12_thinnest_6 (by decide) (fun c_1 => ?_) (fun c_1 => ?_)
  · obtain ⟨wk, hwk, rfl⟩ := inN (m := 1) (by omega) (by assumption)
    rcases (show wk = 0 ∨ wk = 1 by omega) with rfl | rfl
    · refine ev_iload_n hC dX12_thinnest_11 rfl 1 rfl ?_
      refine ev_iconst (v := (nI 0)) hC dX12_thinnest_12 (by decide) ?_
      refine ev_bipush (v := (nI 60)) hC dX12_thinnest_13 (by decide) ?_
      refine ev_callS (As := [.int x, .int (nI 0), .int (nI 60)]) (st := []) (wc := []) (wf := (MW G a S I F B T R K D hI ac sp en iw op (-1) rd ra ki nu tv)) hC ct_X12_44 (m_X12_in G ro x (nI 0) (nI 60)) (by decide) rfl rfl (Nat.le_of_ble_eq_true rfl) (List.Perm.refl _) dX12_thinnest_15 (by decide) (by decide) ?_
      rintro _ _ _ ⟨rfl, rfl, rfl⟩
      refine ev_ws (List.nil_append _) ?_
      show Ev G X 0 0 18 [(0, .ref (a 0)), (1, .int x), (2, .int (nI 0))] [.int (bI ((nI 0) ≤ x ∧ x ≤ (nI 60)))] (MW G a S I F B T R K D hI ac sp en iw op (-1) rd ra ki nu tv) ro
      refine ev_if_neB (tgt := 24) hC dX12_thinnest_18 (by decide) (fun c_2 => ?_) (fun c_2 => ?_)
      · obtain ⟨kk, hkk, rfl⟩ := inN (m := 60) (by omega) (by assumption)
        have hpn_kk : pn (nI kk) = kk := nI_clamp (by omega)
        refine ev_aload_n hC dX12_thinnest_24 rfl 0 rfl ?_
        refine ev_callV (As := []) (st := []) (wf := []) hC cv_X12_181 (m_X12_keeps G ro a S I F B T R K D hI ac sp en iw op (-1) rd ra ki nu tv) (by decide) rfl rfl (Nat.le_of_ble_eq_true rfl) (List.Perm.of_eq (List.append_nil _).symm) (mw 0 rfl) rfl dX12_thinnest_25 (by decide) (by decide) ?_
        rintro _ _ _ ⟨rfl, rfl, rfl⟩
        refine ev_ws (List.append_nil _) ?_
        show Ev G X 0 0 28 [(0, .ref (a 0)), (1, .int (nI kk)), (2, .int (nI 0))] [] (MW G a S I (ovF F S 32) B T R K D hI ac sp en iw op (-1) rd ra ki nu tv) ro
        refine ev_aload_n hC dX12_thinnest_28 rfl 0 rfl ?_
        refine ev_iload_n hC dX12_thinnest_29 rfl 1 rfl ?_
        refine ev_callV (As := [.int (nI kk)]) (st := []) (wf := []) hC cv_X12_184 (m_X12_goesOn G ro a S I (ovF F S 32) B T R K D hI ac sp en iw op (-1) rd ra ki nu tv kk hW (by omega) (by omega)) (by decide) rfl rfl (Nat.le_of_ble_eq_true rfl) (List.Perm.of_eq (List.append_nil _).symm) (mw 0 rfl) rfl dX12_thinnest_30 (by decide) (by decide) ?_
        rintro _ _ _ ⟨B_3, T_4, R_5, K_6, rfl, rfl, rfl⟩
        refine ev_ws (List.append_nil _) ?_
        show Ev G X 0 0 33 [(0, .ref (a 0)), (1, .int (nI kk)), (2, .int (nI 0))] [] (MW G a (gosF (-1) S kk) I (ovF F S 32) B_3 T_4 R_5 K_6 D hI ac sp en iw op (-1) (raF (-1) S rd kk) ra ki nu tv) ro
        refine ev_aload_n hC dX12_thinnest_33 rfl 0 rfl ?_
        refine ev_callV (As := []) (st := []) (wf := []) hC cv_X12_193 (m_X12_thinSide G ro a (gosF (-1) S kk) I (ovF F S 32) B_3 T_4 R_5 K_6 D hI ac sp en iw op (-1) (raF (-1) S rd kk) ra ki nu tv  ((gosF_wf (-1) hW kk (by omega) (by omega)).1)) (by decide) rfl rfl (Nat.le_of_ble_eq_true rfl) (List.Perm.of_eq (List.append_nil _).symm) (mw 0 rfl) rfl dX12_thinnest_34 (by decide) (by decide) ?_
        rintro _ _ _ ⟨rfl, rfl, rfl⟩
        refine ev_ws (List.append_nil _) ?_
        show Ev G X 0 0 37 [(0, .ref (a 0)), (1, .int (nI kk)), (2, .int (nI 0))] [.int (nI (thinF (gosF (-1) S kk) 5))] (MW G a (gosF (-1) S kk) I (ovF F S 32) B_3 T_4 R_5 K_6 D hI ac sp en iw op (-1) (raF (-1) S rd kk) ra ki nu tv) ro
        have hth := thinF_le (gosF (-1) S kk) 5
        refine ev_istore_n (lv' := [(3, .int (nI (thinF (gosF (-1) S kk) 5))), (0, .ref (a 0)), (1, .int (nI kk)), (2, .int (nI 0))]) hC dX12_thinnest_37 rfl (by decide) rfl ?_
        refine ev_aload_n hC dX12_thinnest_38 rfl 1 rfl ?_
        refine ev_get hC fl_X12_9_12 (mw 0 rfl) rfl dX12_thinnest_39 ?_
        refine ev_iconst (v := (nI 2)) hC dX12_thinnest_42 (by decide) ?_
        refine ev_iload_n hC dX12_thinnest_43 rfl 0 rfl ?_
        refine ev_iadd hC dX12_thinnest_44 ?_
        refine ev_top (y := (nI (2 + (thinF (gosF (-1) S kk) 5)))) ((nI_add _ _).trans (congrArg nI (by omega))) ?_
        refine ev_ialdN (i := 2 + (thinF (gosF (-1) S kk) 5)) hC (mw 1 rfl) (by omega) (by omega) dX12_thinnest_45 ?_
        refine ev_istore (lv' := [(4, .int ((gosF (-1) S kk) (2 + (thinF (gosF (-1) S kk) 5)))), (3, .int (nI (thinF (gosF (-1) S kk) 5))), (0, .ref (a 0)), (1, .int (nI kk)), (2, .int (nI 0))]) hC dX12_thinnest_46 (by decide) rfl ?_
        refine ev_aload_n hC dX12_thinnest_48 rfl 2 rfl ?_
        refine ev_callV (As := []) (st := []) (wf := []) hC cv_X12_187 (m_X12_goesBack G ro a (gosF (-1) S kk) I (ovF F S 32) B_3 T_4 R_5 K_6 D hI ac sp en iw op (-1) (raF (-1) S rd kk) ra ki nu tv) (by decide) rfl rfl (Nat.le_of_ble_eq_true rfl) (List.Perm.of_eq (List.append_nil _).symm) (mw 0 rfl) rfl dX12_thinnest_49 (by decide) (by decide) ?_
        rintro _ _ _ ⟨rfl, rfl, rfl⟩
        refine ev_ws (List.append_nil _) ?_
        show Ev G X 0 0 52 [(4, .int ((gosF (-1) S kk) (2 + (thinF (gosF (-1) S kk) 5)))), (3, .int (nI (thinF (gosF (-1) S kk) 5))), (0, .ref (a 0)), (1, .int (nI kk)), (2, .int (nI 0))] [] (MW G a (ovF (gosF (-1) S kk) (ovF F S 32) 32) I (ovF F S 32) B_3 T_4 R_5 K_6 D hI ac sp en iw op (-1) (raF (-1) S rd kk) ra ki nu tv) ro
        refine ev_ws (ws' := (MW G a S I (ovF F S 32) B_3 T_4 R_5 K_6 D hI ac sp en iw op (-1) (raF (-1) S rd kk) ra ki nu tv)) (by rw [back_eq (Hi.tr Hi.rf (gosF_wf (-1) hW kk (by omega) (by omega)).2)]) ?_
        refine ev_iload_n hC dX12_thinnest_52 rfl 4 rfl ?_
        refine ev_if_neN (tgt := 60) hC dX12_thinnest_53 (by decide) (by omega) (fun c_7 => absurd c_7 (by omega)) (fun c_7 => ?_)
        refine ev_iload_n hC dX12_thinnest_56 rfl 1 rfl ?_
        refine ev_goto (tgt := 62) hC dX12_thinnest_57 (by decide) ?_
        refine ev_iret hC hR rfl dX12_thinnest_62 ?_
        have er : thinnestR S (nI kk) (nI 0) = (nI (thinF (gosF (-1) S kk) 5)) := by rw [thinnestR, if_pos (by assumption), if_pos (by assumption), hpn_kk, if_pos rfl]
        exact ⟨_, _, _, _, _, _, by rw [er], rfl, rfl⟩
      · refine ev_bipush (v := (-2)) hC dX12_thinnest_21 (by decide) ?_
        refine ev_iret hC hR rfl dX12_thinnest_23 ?_
        have er : thinnestR S x (nI 0) = -2 := by rw [thinnestR, if_pos (by assumption), if_neg (by assumption)]
        exact ⟨_, _, _, _, _, _, by rw [er], rfl, rfl⟩
    · refine ev_iload_n hC dX12_thinnest_11 rfl 1 rfl ?_
      refine ev_iconst (v := (nI 0)) hC dX12_thinnest_12 (by decide) ?_
      refine ev_bipush (v := (nI 60)) hC dX12_thinnest_13 (by decide) ?_
      refine ev_callS (As := [.int x, .int (nI 0), .int (nI 60)]) (st := []) (wc := []) (wf := (MW G a S I F B T R K D hI ac sp en iw op (-1) rd ra ki nu tv)) hC ct_X12_44 (m_X12_in G ro x (nI 0) (nI 60)) (by decide) rfl rfl (Nat.le_of_ble_eq_true rfl) (List.Perm.refl _) dX12_thinnest_15 (by decide) (by decide) ?_
      rintro _ _ _ ⟨rfl, rfl, rfl⟩
      refine ev_ws (List.nil_append _) ?_
      show Ev G X 0 0 18 [(0, .ref (a 0)), (1, .int x), (2, .int (nI 1))] [.int (bI ((nI 0) ≤ x ∧ x ≤ (nI 60)))] (MW G a S I F B T R K D hI ac sp en iw op (-1) rd ra ki nu tv) ro
      refine ev_if_neB (tgt := 24) hC dX12_thinnest_18 (by decide) (fun c_8 => ?_) (fun c_8 => ?_)
      · obtain ⟨kk, hkk, rfl⟩ := inN (m := 60) (by omega) (by assumption)
        have hpn_kk : pn (nI kk) = kk := nI_clamp (by omega)
        refine ev_aload_n hC dX12_thinnest_24 rfl 0 rfl ?_
        refine ev_callV (As := []) (st := []) (wf := []) hC cv_X12_181 (m_X12_keeps G ro a S I F B T R K D hI ac sp en iw op (-1) rd ra ki nu tv) (by decide) rfl rfl (Nat.le_of_ble_eq_true rfl) (List.Perm.of_eq (List.append_nil _).symm) (mw 0 rfl) rfl dX12_thinnest_25 (by decide) (by decide) ?_
        rintro _ _ _ ⟨rfl, rfl, rfl⟩
        refine ev_ws (List.append_nil _) ?_
        show Ev G X 0 0 28 [(0, .ref (a 0)), (1, .int (nI kk)), (2, .int (nI 1))] [] (MW G a S I (ovF F S 32) B T R K D hI ac sp en iw op (-1) rd ra ki nu tv) ro
        refine ev_aload_n hC dX12_thinnest_28 rfl 0 rfl ?_
        refine ev_iload_n hC dX12_thinnest_29 rfl 1 rfl ?_
        refine ev_callV (As := [.int (nI kk)]) (st := []) (wf := []) hC cv_X12_184 (m_X12_goesOn G ro a S I (ovF F S 32) B T R K D hI ac sp en iw op (-1) rd ra ki nu tv kk hW (by omega) (by omega)) (by decide) rfl rfl (Nat.le_of_ble_eq_true rfl) (List.Perm.of_eq (List.append_nil _).symm) (mw 0 rfl) rfl dX12_thinnest_30 (by decide) (by decide) ?_
        rintro _ _ _ ⟨B_9, T_10, R_11, K_12, rfl, rfl, rfl⟩
        refine ev_ws (List.append_nil _) ?_
        show Ev G X 0 0 33 [(0, .ref (a 0)), (1, .int (nI kk)), (2, .int (nI 1))] [] (MW G a (gosF (-1) S kk) I (ovF F S 32) B_9 T_10 R_11 K_12 D hI ac sp en iw op (-1) (raF (-1) S rd kk) ra ki nu tv) ro
        refine ev_aload_n hC dX12_thinnest_33 rfl 0 rfl ?_
        refine ev_callV (As := []) (st := []) (wf := []) hC cv_X12_193 (m_X12_thinSide G ro a (gosF (-1) S kk) I (ovF F S 32) B_9 T_10 R_11 K_12 D hI ac sp en iw op (-1) (raF (-1) S rd kk) ra ki nu tv  ((gosF_wf (-1) hW kk (by omega) (by omega)).1)) (by decide) rfl rfl (Nat.le_of_ble_eq_true rfl) (List.Perm.of_eq (List.append_nil _).symm) (mw 0 rfl) rfl dX12_thinnest_34 (by decide) (by decide) ?_
        rintro _ _ _ ⟨rfl, rfl, rfl⟩
        refine ev_ws (List.append_nil _) ?_
        show Ev G X 0 0 37 [(0, .ref (a 0)), (1, .int (nI kk)), (2, .int (nI 1))] [.int (nI (thinF (gosF (-1) S kk) 5))] (MW G a (gosF (-1) S kk) I (ovF F S 32) B_9 T_10 R_11 K_12 D hI ac sp en iw op (-1) (raF (-1) S rd kk) ra ki nu tv) ro
        have hth := thinF_le (gosF (-1) S kk) 5
        refine ev_istore_n (lv' := [(3, .int (nI (thinF (gosF (-1) S kk) 5))), (0, .ref (a 0)), (1, .int (nI kk)), (2, .int (nI 1))]) hC dX12_thinnest_37 rfl (by decide) rfl ?_
        refine ev_aload_n hC dX12_thinnest_38 rfl 1 rfl ?_
        refine ev_get hC fl_X12_9_12 (mw 0 rfl) rfl dX12_thinnest_39 ?_
        refine ev_iconst (v := (nI 2)) hC dX12_thinnest_42 (by decide) ?_
        refine ev_iload_n hC dX12_thinnest_43 rfl 0 rfl ?_
        refine ev_iadd hC dX12_thinnest_44 ?_
        refine ev_top (y := (nI (2 + (thinF (gosF (-1) S kk) 5)))) ((nI_add _ _).trans (congrArg nI (by omega))) ?_
        refine ev_ialdN (i := 2 + (thinF (gosF (-1) S kk) 5)) hC (mw 1 rfl) (by omega) (by omega) dX12_thinnest_45 ?_
        refine ev_istore (lv' := [(4, .int ((gosF (-1) S kk) (2 + (thinF (gosF (-1) S kk) 5)))), (3, .int (nI (thinF (gosF (-1) S kk) 5))), (0, .ref (a 0)), (1, .int (nI kk)), (2, .int (nI 1))]) hC dX12_thinnest_46 (by decide) rfl ?_
        refine ev_aload_n hC dX12_thinnest_48 rfl 2 rfl ?_
        refine ev_callV (As := []) (st := []) (wf := []) hC cv_X12_187 (m_X12_goesBack G ro a (gosF (-1) S kk) I (ovF F S 32) B_9 T_10 R_11 K_12 D hI ac sp en iw op (-1) (raF (-1) S rd kk) ra ki nu tv) (by decide) rfl rfl (Nat.le_of_ble_eq_true rfl) (List.Perm.of_eq (List.append_nil _).symm) (mw 0 rfl) rfl dX12_thinnest_49 (by decide) (by decide) ?_
        rintro _ _ _ ⟨rfl, rfl, rfl⟩
        refine ev_ws (List.append_nil _) ?_
        show Ev G X 0 0 52 [(4, .int ((gosF (-1) S kk) (2 + (thinF (gosF (-1) S kk) 5)))), (3, .int (nI (thinF (gosF (-1) S kk) 5))), (0, .ref (a 0)), (1, .int (nI kk)), (2, .int (nI 1))] [] (MW G a (ovF (gosF (-1) S kk) (ovF F S 32) 32) I (ovF F S 32) B_9 T_10 R_11 K_12 D hI ac sp en iw op (-1) (raF (-1) S rd kk) ra ki nu tv) ro
        refine ev_ws (ws' := (MW G a S I (ovF F S 32) B_9 T_10 R_11 K_12 D hI ac sp en iw op (-1) (raF (-1) S rd kk) ra ki nu tv)) (by rw [back_eq (Hi.tr Hi.rf (gosF_wf (-1) hW kk (by omega) (by omega)).2)]) ?_
        refine ev_iload_n hC dX12_thinnest_52 rfl 4 rfl ?_
        refine ev_if_neN (tgt := 60) hC dX12_thinnest_53 (by decide) (by omega) (fun c_13 => ?_) (fun c_13 => absurd c_13 (by omega))
        refine ev_iload hC dX12_thinnest_60 0 rfl ?_
        refine ev_iret hC hR rfl dX12_thinnest_62 ?_
        have er : thinnestR S (nI kk) (nI 1) = ((gosF (-1) S kk) (2 + (thinF (gosF (-1) S kk) 5))) := by rw [thinnestR, if_pos (by assumption), if_pos (by assumption), hpn_kk, if_neg (by decide)]
        exact ⟨_, _, _, _, _, _, by rw [er], rfl, rfl⟩
      · refine ev_bipush (v := (-2)) hC dX12_thinnest_21 (by decide) ?_
        refine ev_iret hC hR rfl dX12_thinnest_23 ?_
        have er : thinnestR S x (nI 1) = -2 := by rw [thinnestR, if_pos (by assumption), if_neg (by assumption)]
        exact ⟨_, _, _, _, _, _, by rw [er], rfl, rfl⟩
  · refine ev_iconst (v := (-1)) hC dX12_thinnest_9 (by decide) ?_
    refine ev_iret hC hR rfl dX12_thinnest_10 ?_
    have er : thinnestR S x w = -1 := by rw [thinnestR, if_neg (by assumption)]
    exact ⟨_, _, _, _, _, _, by rw [er], rfl, rfl⟩

theorem grdF_t {A S : Nat → Int32} {i : Nat} {b l : Int32} (h : grdF A S i = (b, l)) (c : ¬ A (26 + i) - S (26 + i) ≤ l) : grdF A S (i + 1) = (nI i, A (26 + i) - S (26 + i)) := by
  rw [grdF, h, if_pos (Int32.not_le.mp c)]
theorem grdF_f {A S : Nat → Int32} {i : Nat} {b l : Int32} (h : grdF A S i = (b, l)) (c : A (26 + i) - S (26 + i) ≤ l) : grdF A S (i + 1) = (b, l) := by
  rw [grdF, h, if_neg (Int32.not_lt.mpr c)]
theorem in1N {x : Int32} {m : Nat} (hm : m < 2 ^ 31) (c : nI 1 ≤ x ∧ x ≤ nI m) : ∃ k, 1 ≤ k ∧ k ≤ m ∧ x = nI k := by
  obtain ⟨k, hk, rfl⟩ := inN hm ⟨Int32.le_trans (by decide) c.1, c.2⟩
  refine ⟨k, ?_, hk, rfl⟩
  have := c.1
  rw [Int32.le_iff_toInt_le, nI_toInt (by omega), nI_toInt (by omega)] at this
  omega

set_option maxHeartbeats 4000000 in
set_option maxRecDepth 100000 in
theorem m_X12_greediest (G : GG) (ro : va_W) (a : Nat → Nat) (S I F B T R K D : Nat → Int32) (hI ac sp en iw op mu rd ra ki nu tv : Int32) (x : Int32) {DD EE : Nat} (hW : WF S DD EE) (hD : DD + 100 < 2 ^ 31) (hE : EE + 168 * 100 < 2 ^ 31) : Mth G M_X12_greediest 5 0 0 [.ref (a 0), .int x] (MW G a S I F B T R K D hI ac sp en iw op (-1) rd ra ki nu tv) ro (fun r ws' ro' => ∃ (F' : Nat → Int32), ∃ (B' : Nat → Int32), ∃ (T' : Nat → Int32), ∃ (R' : Nat → Int32), ∃ (K' : Nat → Int32), ∃ (rd' : Int32), r = some (.int (greediestR S x)) ∧ ws' = (MW G a S I F' B' T' R' K' D hI ac sp en iw op (-1) rd' ra ki nu tv) ∧ ro = ro') := by
  refine mth_of (by decide +kernel) (Nat.le_of_ble_eq_true rfl) (fun X hC hR => ?_)
  have b32 := hW.peo.le
  have b33 := hW.tre.le
  have b34 := hW.seen.le
  have b35 := hW.plan.le
  have b36 := hW.book.le
  have b37 := hW.tape.le
  show Ev G X 0 0 0 [(0, .ref (a 0)), (1, .int x)] [] (MW G a S I F B T R K D hI ac sp en iw op (-1) rd ra ki nu tv) ro
  refine ev_iload_n hC dX12_greediest_0 rfl 1 rfl ?_
  refine ev_iconst (v := (nI 1)) hC dX12_greediest_1 (by decide) ?_
  refine ev_bipush (v := (nI 60)) hC dX12_greediest_2 (by decide) ?_
  refine ev_callS (As := [.int x, .int (nI 1), .int (nI 60)]) (st := []) (wc := []) (wf := (MW G a S I F B T R K D hI ac sp en iw op (-1) rd ra ki nu tv)) hC ct_X12_44 (m_X12_in G ro x (nI 1) (nI 60)) (by decide) rfl rfl (Nat.le_of_ble_eq_true rfl) (List.Perm.refl _) dX12_greediest_4 (by decide) (by decide) ?_
  rintro _ _ _ ⟨rfl, rfl, rfl⟩
  refine ev_ws (List.nil_append _) ?_
  show Ev G X 0 0 7 [(0, .ref (a 0)), (1, .int x)] [.int (bI ((nI 1) ≤ x ∧ x ≤ (nI 60)))] (MW G a S I F B T R K D hI ac sp en iw op (-1) rd ra ki nu tv) ro
  refine ev_if_neB (tgt := 13) hC dX12_greediest_7 (by decide) (fun c_1 => ?_) (fun c_1 => ?_)
  · obtain ⟨kk, hkk1, hkk, rfl⟩ := in1N (m := 60) (by omega) (by assumption)
    have hpn_kk : pn (nI kk) = kk := nI_clamp (by omega)
    refine ev_aload_n hC dX12_greediest_13 rfl 0 rfl ?_
    refine ev_callV (As := []) (st := []) (wf := []) hC cv_X12_181 (m_X12_keeps G ro a S I F B T R K D hI ac sp en iw op (-1) rd ra ki nu tv) (by decide) rfl rfl (Nat.le_of_ble_eq_true rfl) (List.Perm.of_eq (List.append_nil _).symm) (mw 0 rfl) rfl dX12_greediest_14 (by decide) (by decide) ?_
    rintro _ _ _ ⟨rfl, rfl, rfl⟩
    refine ev_ws (List.append_nil _) ?_
    show Ev G X 0 0 17 [(0, .ref (a 0)), (1, .int (nI kk))] [] (MW G a S I (ovF F S 32) B T R K D hI ac sp en iw op (-1) rd ra ki nu tv) ro
    refine ev_aload_n hC dX12_greediest_17 rfl 0 rfl ?_
    refine ev_iload_n hC dX12_greediest_18 rfl 1 rfl ?_
    refine ev_callV (As := [.int (nI kk)]) (st := []) (wf := []) hC cv_X12_184 (m_X12_goesOn G ro a S I (ovF F S 32) B T R K D hI ac sp en iw op (-1) rd ra ki nu tv kk hW (by omega) (by omega)) (by decide) rfl rfl (Nat.le_of_ble_eq_true rfl) (List.Perm.of_eq (List.append_nil _).symm) (mw 0 rfl) rfl dX12_greediest_19 (by decide) (by decide) ?_
    rintro _ _ _ ⟨B_2, T_3, R_4, K_5, rfl, rfl, rfl⟩
    refine ev_ws (List.append_nil _) ?_
    show Ev G X 0 0 22 [(0, .ref (a 0)), (1, .int (nI kk))] [] (MW G a (gosF (-1) S kk) I (ovF F S 32) B_2 T_3 R_4 K_5 D hI ac sp en iw op (-1) (raF (-1) S rd kk) ra ki nu tv) ro
    refine ev_bipush (v := (-5)) hC dX12_greediest_22 (by decide) ?_
    refine ev_istore_n (lv' := [(2, .int (-5)), (0, .ref (a 0)), (1, .int (nI kk))]) hC dX12_greediest_24 rfl (by decide) rfl ?_
    refine ev_iconst (v := (-1)) hC dX12_greediest_25 (by decide) ?_
    refine ev_istore_n (lv' := [(3, .int (-1)), (2, .int (-5)), (0, .ref (a 0)), (1, .int (nI kk))]) hC dX12_greediest_26 rfl (by decide) rfl ?_
    refine ev_iconst (v := (nI 0)) hC dX12_greediest_27 (by decide) ?_
    refine ev_istore (lv' := [(4, .int (nI 0)), (3, .int (-1)), (2, .int (-5)), (0, .ref (a 0)), (1, .int (nI kk))]) hC dX12_greediest_28 (by decide) rfl ?_
    have lp_30 : ∀ (fu_30 : Nat) (p : Nat) (best : Int32) (most : Int32) (hi : p ≤ sn S 32) (hb : grdF (gosF (-1) S kk) S p = (best, most)) (hn : sn S 32 - p < fu_30), Ev G X 0 0 30 [(0, .ref (a 0)), (1, .int (nI kk)), (2, .int best), (3, .int most), (4, .int (nI p))] [] (MW G a (gosF (-1) S kk) I (ovF F S 32) B_2 T_3 R_4 K_5 D hI ac sp en iw op (-1) (raF (-1) S rd kk) ra ki nu tv) ro := by
      intro fu_30
      induction fu_30 with
      | zero => intro p best most hi hb hn; exact absurd hn (Nat.not_lt_zero _)
      | succ fu_30 ih =>
        intro p best most hi hb hn
        have hp32 : gosF (-1) S kk 32 = nI (sn S 32) := ((gosF_wf (-1) hW kk (by omega) (by omega)).2 32 (by omega)).trans hW.peo.eq
        refine ev_iload hC dX12_greediest_30 4 rfl ?_
        refine ev_aload_n hC dX12_greediest_32 rfl 0 rfl ?_
        refine ev_get hC fl_X12_9_12 (mw 0 rfl) rfl dX12_greediest_33 ?_
        refine ev_bipush (v := (nI 32)) hC dX12_greediest_36 (by decide) ?_
        refine ev_ialdN (i := 32) hC (mw 1 rfl) (by omega) (by omega) dX12_greediest_38 ?_
        refine ev_top (y := (nI (sn S 32))) hp32 ?_
        refine ev_icmp_geN (tgt := 97) hC dX12_greediest_39 (by decide) (by omega) (by omega) (fun c_6 => ?_) (fun c_6 => ?_)
        · refine ev_aload_n hC dX12_greediest_97 rfl 0 rfl ?_
          refine ev_callV (As := []) (st := []) (wf := []) hC cv_X12_187 (m_X12_goesBack G ro a (gosF (-1) S kk) I (ovF F S 32) B_2 T_3 R_4 K_5 D hI ac sp en iw op (-1) (raF (-1) S rd kk) ra ki nu tv) (by decide) rfl rfl (Nat.le_of_ble_eq_true rfl) (List.Perm.of_eq (List.append_nil _).symm) (mw 0 rfl) rfl dX12_greediest_98 (by decide) (by decide) ?_
          rintro _ _ _ ⟨rfl, rfl, rfl⟩
          refine ev_ws (List.append_nil _) ?_
          show Ev G X 0 0 101 [(0, .ref (a 0)), (1, .int (nI kk)), (2, .int best), (3, .int most), (4, .int (nI p))] [] (MW G a (ovF (gosF (-1) S kk) (ovF F S 32) 32) I (ovF F S 32) B_2 T_3 R_4 K_5 D hI ac sp en iw op (-1) (raF (-1) S rd kk) ra ki nu tv) ro
          refine ev_ws (ws' := (MW G a S I (ovF F S 32) B_2 T_3 R_4 K_5 D hI ac sp en iw op (-1) (raF (-1) S rd kk) ra ki nu tv)) (by rw [back_eq (Hi.tr Hi.rf (gosF_wf (-1) hW kk (by omega) (by omega)).2)]) ?_
          refine ev_iload_n hC dX12_greediest_101 rfl 2 rfl ?_
          refine ev_iret hC hR rfl dX12_greediest_102 ?_
          obtain rfl : p = sn S 32 := by omega
          have er : greediestR S (nI kk) = best := by rw [greediestR, if_pos (by assumption), hpn_kk, hb]
          exact ⟨_, _, _, _, _, _, by rw [er], rfl, rfl⟩
        · refine ev_aload_n hC dX12_greediest_42 rfl 0 rfl ?_
          refine ev_get hC fl_X12_9_12 (mw 0 rfl) rfl dX12_greediest_43 ?_
          refine ev_bipush (v := (nI 26)) hC dX12_greediest_46 (by decide) ?_
          refine ev_iload hC dX12_greediest_48 4 rfl ?_
          refine ev_iadd hC dX12_greediest_50 ?_
          refine ev_top (y := (nI (26 + p))) ((nI_add _ _).trans (congrArg nI (by omega))) ?_
          refine ev_ialdN (i := 26 + p) hC (mw 1 rfl) (by omega) (by omega) dX12_greediest_51 ?_
          refine ev_aload_n hC dX12_greediest_52 rfl 0 rfl ?_
          refine ev_get hC fl_X12_18_12 (mw 0 rfl) rfl dX12_greediest_53 ?_
          refine ev_bipush (v := (nI 26)) hC dX12_greediest_56 (by decide) ?_
          refine ev_iload hC dX12_greediest_58 4 rfl ?_
          refine ev_iadd hC dX12_greediest_60 ?_
          refine ev_top (y := (nI (26 + p))) ((nI_add _ _).trans (congrArg nI (by omega))) ?_
          refine ev_ialdN (i := 26 + p) hC (mw 3 rfl) (by omega) (by omega) dX12_greediest_61 ?_
          refine ev_top (y := (S (26 + p))) (if_pos (by omega)) ?_
          refine ev_isub hC dX12_greediest_62 ?_
          refine ev_istore (lv' := [(5, .int (((gosF (-1) S kk) (26 + p)) - (S (26 + p)))), (0, .ref (a 0)), (1, .int (nI kk)), (2, .int best), (3, .int most), (4, .int (nI p))]) hC dX12_greediest_63 (by decide) rfl ?_
          refine ev_iload hC dX12_greediest_65 0 rfl ?_
          refine ev_iload_n hC dX12_greediest_67 rfl 4 rfl ?_
          refine ev_icmp_le (tgt := 76) hC dX12_greediest_68 (by decide) (fun c_7 => ?_) (fun c_7 => ?_)
          · refine ev_iload_n hC dX12_greediest_76 rfl 3 rfl ?_
            refine ev_istore_n (lv' := [(2, .int best), (5, .int (((gosF (-1) S kk) (26 + p)) - (S (26 + p)))), (0, .ref (a 0)), (1, .int (nI kk)), (3, .int most), (4, .int (nI p))]) hC dX12_greediest_77 rfl (by decide) rfl ?_
            refine ev_iload hC dX12_greediest_78 1 rfl ?_
            refine ev_iload_n hC dX12_greediest_80 rfl 4 rfl ?_
            refine ev_icmp_le (tgt := 89) hC dX12_greediest_81 (by decide) (fun c_8 => ?_) (fun c_8 => absurd c_8 (fun q => q c_7))
            refine ev_iload_n hC dX12_greediest_89 rfl 4 rfl ?_
            refine ev_istore_n (lv' := [(3, .int most), (2, .int best), (5, .int (((gosF (-1) S kk) (26 + p)) - (S (26 + p)))), (0, .ref (a 0)), (1, .int (nI kk)), (4, .int (nI p))]) hC dX12_greediest_90 rfl (by decide) rfl ?_
            refine ev_iinc (v := (nI (p + 1))) (lv' := [(4, .int (nI (p + 1))), (3, .int most), (2, .int best), (5, .int (((gosF (-1) S kk) (26 + p)) - (S (26 + p)))), (0, .ref (a 0)), (1, .int (nI kk))]) hC dX12_greediest_91 (q := 5) rfl (nI_k _ _ 1 (by decide)) (by decide) rfl ?_
            refine ev_goto (tgt := 30) hC dX12_greediest_94 (by decide) ?_
            refine ev_lv [4, 5, 2, 1, 0] rfl ?_
            exact ih (p + 1) best most (by omega) (by first | exact grdF_t hb (by assumption) | exact grdF_f hb (by assumption)) (by omega)
          · refine ev_iload hC dX12_greediest_71 5 rfl ?_
            refine ev_goto (tgt := 77) hC dX12_greediest_73 (by decide) ?_
            refine ev_istore_n (lv' := [(2, .int (nI p)), (5, .int (((gosF (-1) S kk) (26 + p)) - (S (26 + p)))), (0, .ref (a 0)), (1, .int (nI kk)), (3, .int most), (4, .int (nI p))]) hC dX12_greediest_77 rfl (by decide) rfl ?_
            refine ev_iload hC dX12_greediest_78 1 rfl ?_
            refine ev_iload_n hC dX12_greediest_80 rfl 4 rfl ?_
            refine ev_icmp_le (tgt := 89) hC dX12_greediest_81 (by decide) (fun c_9 => absurd c_9 (fun q => c_7 q)) (fun c_9 => ?_)
            refine ev_iload hC dX12_greediest_84 1 rfl ?_
            refine ev_goto (tgt := 90) hC dX12_greediest_86 (by decide) ?_
            refine ev_istore_n (lv' := [(3, .int (((gosF (-1) S kk) (26 + p)) - (S (26 + p)))), (2, .int (nI p)), (5, .int (((gosF (-1) S kk) (26 + p)) - (S (26 + p)))), (0, .ref (a 0)), (1, .int (nI kk)), (4, .int (nI p))]) hC dX12_greediest_90 rfl (by decide) rfl ?_
            refine ev_iinc (v := (nI (p + 1))) (lv' := [(4, .int (nI (p + 1))), (3, .int (((gosF (-1) S kk) (26 + p)) - (S (26 + p)))), (2, .int (nI p)), (5, .int (((gosF (-1) S kk) (26 + p)) - (S (26 + p)))), (0, .ref (a 0)), (1, .int (nI kk))]) hC dX12_greediest_91 (q := 5) rfl (nI_k _ _ 1 (by decide)) (by decide) rfl ?_
            refine ev_goto (tgt := 30) hC dX12_greediest_94 (by decide) ?_
            refine ev_lv [4, 5, 2, 1, 0] rfl ?_
            exact ih (p + 1) (nI p) (((gosF (-1) S kk) (26 + p)) - (S (26 + p))) (by omega) (by first | exact grdF_t hb (by assumption) | exact grdF_f hb (by assumption)) (by omega)
    refine ev_lv [3, 4, 2, 1, 0] rfl ?_
    exact lp_30 (sn S 32 - 0 + 1) 0 (-5) (-1) (by omega) rfl (Nat.lt_succ_self _)
  · refine ev_bipush (v := (-2)) hC dX12_greediest_10 (by decide) ?_
    refine ev_iret hC hR rfl dX12_greediest_12 ?_
    have er : greediestR S x = -2 := by rw [greediestR, if_neg (by assumption)]
    exact ⟨_, _, _, _, _, _, by rw [er], rfl, rfl⟩
