theorem warN_stop {mu : Int32} {S : Nat → Int32} (h : ¬ S 1 = 0) : ∀ f, warN mu S f = 0
  | 0 => rfl
  | _ + 1 => if_neg h
theorem warN_go {mu : Int32} {S : Nat → Int32} (h : S 1 = 0) {f : Nat} (hf : 0 < f) : warN mu S f = warN mu (goF mu S) (f - 1) + 1 := by
  obtain ⟨g, rfl⟩ : ∃ g, f = g + 1 := ⟨f - 1, by omega⟩
  exact if_pos h

set_option maxHeartbeats 4000000 in
set_option maxRecDepth 100000 in
theorem m_X12_goesOn (G : GG) (ro : va_W) (a : Nat → Nat) (S I F B T R K D : Nat → Int32) (hI ac sp en iw op mu rd ra ki nu tv : Int32) (n : Nat) {DD EE : Nat} (hW : WF S DD EE) (hD : DD + n < 2 ^ 31) (hE : EE + 168 * n < 2 ^ 31) : Mth G M_X12_goesOn 4 0 0 [.ref (a 0), .int (nI n)] (MW G a S I F B T R K D hI ac sp en iw op mu rd ra ki nu tv) ro (fun r ws' ro' => ∃ (B' : Nat → Int32), ∃ (T' : Nat → Int32), ∃ (R' : Nat → Int32), ∃ (K' : Nat → Int32), r = none ∧ ws' = (MW G a (gosF mu S n) I F B' T' R' K' D hI ac sp en iw op mu (raF mu S rd n) ra ki nu tv) ∧ ro = ro') := by
  refine mth_of (by decide +kernel) (Nat.le_of_ble_eq_true rfl) (fun X hC hR => ?_)
  have b32 := hW.peo.le
  have b33 := hW.tre.le
  have b34 := hW.seen.le
  have b35 := hW.plan.le
  have b36 := hW.book.le
  have b37 := hW.tape.le
  show Ev G X 0 0 0 [(0, .ref (a 0)), (1, .int (nI n))] [] (MW G a S I F B T R K D hI ac sp en iw op mu rd ra ki nu tv) ro
  refine ev_iconst (v := (nI 0)) hC dX12_goesOn_0 (by decide) ?_
  refine ev_istore_n (lv' := [(2, .int (nI 0)), (0, .ref (a 0)), (1, .int (nI n))]) hC dX12_goesOn_1 rfl (by decide) rfl ?_
  have lp_2 : ∀ (fu_2 : Nat) (k : Nat) (B' : Nat → Int32) (T' : Nat → Int32) (R' : Nat → Int32) (K' : Nat → Int32) (hk : k ≤ n) (hn : n - k < fu_2), Ev G X 0 0 2 [(0, .ref (a 0)), (1, .int (nI n)), (2, .int (nI k))] [] (MW G a (gosF mu S k) I F B' T' R' K' D hI ac sp en iw op mu (raF mu S rd k) ra ki nu tv) ro := by
    intro fu_2
    induction fu_2 with
    | zero => intro k B' T' R' K' hk hn; exact absurd hn (Nat.not_lt_zero _)
    | succ fu_2 ih =>
      intro k B' T' R' K' hk hn
      refine ev_iload_n hC dX12_goesOn_2 rfl 2 rfl ?_
      refine ev_iload_n hC dX12_goesOn_3 rfl 1 rfl ?_
      refine ev_icmp_geN (tgt := 17) hC dX12_goesOn_4 (by decide) (by omega) (by omega) (fun c_1 => ?_) (fun c_1 => ?_)
      · refine ev_vret hC hR rfl dX12_goesOn_17 ?_
        obtain rfl : k = n := by omega
        exact ⟨_, _, _, _, rfl, rfl, rfl⟩
      · refine ev_aload_n hC dX12_goesOn_7 rfl 0 rfl ?_
        refine ev_callV (As := []) (st := []) (wf := []) hC cv_X12_178 (m_X12_goes G ro a (gosF mu S k) I F B' T' R' K' D hI ac sp en iw op mu (raF mu S rd k) ra ki nu tv ((gosF_wf mu hW k (by omega) (by omega)).1) (by omega) (by omega)) (by decide) rfl rfl (Nat.le_of_ble_eq_true rfl) (List.Perm.of_eq (List.append_nil _).symm) (mw 0 rfl) rfl dX12_goesOn_8 (by decide) (by decide) ?_
        rintro _ _ _ ⟨B_2, T_3, R_4, K_5, rfl, rfl, rfl, hK_6⟩
        refine ev_ws (List.append_nil _) ?_
        show Ev G X 0 0 11 [(0, .ref (a 0)), (1, .int (nI n)), (2, .int (nI k))] [] (MW G a (goF mu (gosF mu S k)) I F B_2 T_3 R_4 K_5 D hI ac sp en iw op mu (rsF (alF mu (gosF mu S k)) (raF mu S rd k) 6) ra ki nu tv) ro
        refine ev_iinc (v := (nI (k + 1))) (lv' := [(2, .int (nI (k + 1))), (0, .ref (a 0)), (1, .int (nI n))]) hC dX12_goesOn_11 (q := 2) rfl (nI_k _ _ 1 (by decide)) (by decide) rfl ?_
        refine ev_goto (tgt := 2) hC dX12_goesOn_14 (by decide) ?_
        refine ev_lv [1, 2, 0] rfl ?_
        refine ev_ws (ws' := (MW G a (gosF mu S (k + 1)) I F B_2 T_3 R_4 K_5 D hI ac sp en iw op mu (rsF (alF mu (gosF mu S k)) (raF mu S rd k) 6) ra ki nu tv)) rfl ?_
        refine ev_ws (ws' := (MW G a (gosF mu S (k + 1)) I F B_2 T_3 R_4 K_5 D hI ac sp en iw op mu (raF mu S rd (k + 1)) ra ki nu tv)) rfl ?_
        exact ih (k + 1) B_2 T_3 R_4 K_5 (by omega) (by omega)
  refine ev_ws (ws' := (MW G a (gosF mu S 0) I F B T R K D hI ac sp en iw op mu rd ra ki nu tv)) rfl ?_
  refine ev_ws (ws' := (MW G a (gosF mu S 0) I F B T R K D hI ac sp en iw op mu (raF mu S rd 0) ra ki nu tv)) rfl ?_
  refine ev_lv [1, 2, 0] rfl ?_
  exact lp_2 (n - 0 + 1) 0 B T R K (by omega) (Nat.lt_succ_self _)

set_option maxHeartbeats 4000000 in
set_option maxRecDepth 100000 in
theorem m_X12_warBehind (G : GG) (ro : va_W) (a : Nat → Nat) (S I F B T R K D : Nat → Int32) (hI ac sp en iw op mu rd ra ki nu tv : Int32)  {DD EE : Nat} (hW : WF S DD EE) (hD : DD + 100 < 2 ^ 31) (hE : EE + 168 * 100 < 2 ^ 31) : Mth G M_X12_warBehind 4 0 0 [.ref (a 0)] (MW G a S I F B T R K D hI ac sp en iw op mu rd ra ki nu tv) ro (fun r ws' ro' => ∃ (B' : Nat → Int32), ∃ (T' : Nat → Int32), ∃ (R' : Nat → Int32), ∃ (K' : Nat → Int32), ∃ (rd' : Int32), r = some (.int (nI (warF mu S))) ∧ ws' = (MW G a (ovF S F 32) I F B' T' R' K' D hI ac sp en iw op mu rd' ra ki nu tv) ∧ ro = ro') := by
  refine mth_of (by decide +kernel) (Nat.le_of_ble_eq_true rfl) (fun X hC hR => ?_)
  have b32 := hW.peo.le
  have b33 := hW.tre.le
  have b34 := hW.seen.le
  have b35 := hW.plan.le
  have b36 := hW.book.le
  have b37 := hW.tape.le
  show Ev G X 0 0 0 [(0, .ref (a 0))] [] (MW G a S I F B T R K D hI ac sp en iw op mu rd ra ki nu tv) ro
  refine ev_iconst (v := (nI 0)) hC dX12_warBehind_0 (by decide) ?_
  refine ev_istore_n (lv' := [(1, .int (nI 0)), (0, .ref (a 0))]) hC dX12_warBehind_1 rfl (by decide) rfl ?_
  have lp_2 : ∀ (fu_2 : Nat) (n : Nat) (B' : Nat → Int32) (T' : Nat → Int32) (R' : Nat → Int32) (K' : Nat → Int32) (rd' : Int32) (hn1 : n ≤ 100) (hw : warN mu S 100 = n + warN mu (gosF mu S n) (100 - n)) (hn : 100 - n < fu_2), Ev G X 0 0 2 [(0, .ref (a 0)), (1, .int (nI n))] [] (MW G a (gosF mu S n) I F B' T' R' K' D hI ac sp en iw op mu rd' ra ki nu tv) ro := by
    intro fu_2
    induction fu_2 with
    | zero => intro n B' T' R' K' rd' hn1 hw hn; exact absurd hn (Nat.not_lt_zero _)
    | succ fu_2 ih =>
      intro n B' T' R' K' rd' hn1 hw hn
      refine ev_iload_n hC dX12_warBehind_2 rfl 1 rfl ?_
      refine ev_bipush (v := (nI 100)) hC dX12_warBehind_3 (by decide) ?_
      refine ev_icmp_geN (tgt := 27) hC dX12_warBehind_5 (by decide) (by omega) (by omega) (fun c_1 => ?_) (fun c_1 => ?_)
      · refine ev_aload_n hC dX12_warBehind_27 rfl 0 rfl ?_
        refine ev_callV (As := []) (st := []) (wf := []) hC cv_X12_187 (m_X12_goesBack G ro a (gosF mu S n) I F B' T' R' K' D hI ac sp en iw op mu rd' ra ki nu tv) (by decide) rfl rfl (Nat.le_of_ble_eq_true rfl) (List.Perm.of_eq (List.append_nil _).symm) (mw 0 rfl) rfl dX12_warBehind_28 (by decide) (by decide) ?_
        rintro _ _ _ ⟨rfl, rfl, rfl⟩
        refine ev_ws (List.append_nil _) ?_
        show Ev G X 0 0 31 [(0, .ref (a 0)), (1, .int (nI n))] [] (MW G a (ovF (gosF mu S n) F 32) I F B' T' R' K' D hI ac sp en iw op mu rd' ra ki nu tv) ro
        refine ev_iload_n hC dX12_warBehind_31 rfl 1 rfl ?_
        refine ev_iret hC hR rfl dX12_warBehind_32 ?_
        have e1 : warF mu S = n := by
          unfold warF
          rw [hw]
          first
          | rw [warN_stop (by assumption)]; rfl
          | (rw [show 100 - n = 0 by omega]; rfl)
        exact ⟨_, _, _, _, _, by rw [e1], by rw [ovF_hi (gosF_wf mu hW n (by omega) (by omega)).2], rfl⟩
      · refine ev_aload_n hC dX12_warBehind_8 rfl 0 rfl ?_
        refine ev_get hC fl_X12_9_12 (mw 0 rfl) rfl dX12_warBehind_9 ?_
        refine ev_iconst (v := (nI 1)) hC dX12_warBehind_12 (by decide) ?_
        refine ev_ialdN (i := 1) hC (mw 1 rfl) (by omega) (by omega) dX12_warBehind_13 ?_
        refine ev_if_ne (tgt := 27) hC dX12_warBehind_14 (by decide) (fun c_2 => ?_) (fun c_2 => ?_)
        · refine ev_aload_n hC dX12_warBehind_27 rfl 0 rfl ?_
          refine ev_callV (As := []) (st := []) (wf := []) hC cv_X12_187 (m_X12_goesBack G ro a (gosF mu S n) I F B' T' R' K' D hI ac sp en iw op mu rd' ra ki nu tv) (by decide) rfl rfl (Nat.le_of_ble_eq_true rfl) (List.Perm.of_eq (List.append_nil _).symm) (mw 0 rfl) rfl dX12_warBehind_28 (by decide) (by decide) ?_
          rintro _ _ _ ⟨rfl, rfl, rfl⟩
          refine ev_ws (List.append_nil _) ?_
          show Ev G X 0 0 31 [(0, .ref (a 0)), (1, .int (nI n))] [] (MW G a (ovF (gosF mu S n) F 32) I F B' T' R' K' D hI ac sp en iw op mu rd' ra ki nu tv) ro
          refine ev_iload_n hC dX12_warBehind_31 rfl 1 rfl ?_
          refine ev_iret hC hR rfl dX12_warBehind_32 ?_
          have e1 : warF mu S = n := by
            unfold warF
            rw [hw]
            first
            | rw [warN_stop (by assumption)]; rfl
            | (rw [show 100 - n = 0 by omega]; rfl)
          exact ⟨_, _, _, _, _, by rw [e1], by rw [ovF_hi (gosF_wf mu hW n (by omega) (by omega)).2], rfl⟩
        · refine ev_aload_n hC dX12_warBehind_17 rfl 0 rfl ?_
          refine ev_callV (As := []) (st := []) (wf := []) hC cv_X12_178 (m_X12_goes G ro a (gosF mu S n) I F B' T' R' K' D hI ac sp en iw op mu rd' ra ki nu tv ((gosF_wf mu hW n (by omega) (by omega)).1) (by omega) (by omega)) (by decide) rfl rfl (Nat.le_of_ble_eq_true rfl) (List.Perm.of_eq (List.append_nil _).symm) (mw 0 rfl) rfl dX12_warBehind_18 (by decide) (by decide) ?_
          rintro _ _ _ ⟨B_3, T_4, R_5, K_6, rfl, rfl, rfl, hK_7⟩
          refine ev_ws (List.append_nil _) ?_
          show Ev G X 0 0 21 [(0, .ref (a 0)), (1, .int (nI n))] [] (MW G a (goF mu (gosF mu S n)) I F B_3 T_4 R_5 K_6 D hI ac sp en iw op mu (rsF (alF mu (gosF mu S n)) rd' 6) ra ki nu tv) ro
          refine ev_iinc (v := (nI (n + 1))) (lv' := [(1, .int (nI (n + 1))), (0, .ref (a 0))]) hC dX12_warBehind_21 (q := 1) rfl (nI_k _ _ 1 (by decide)) (by decide) rfl ?_
          refine ev_goto (tgt := 2) hC dX12_warBehind_24 (by decide) ?_
          refine ev_lv [1, 0] rfl ?_
          refine ev_ws (ws' := (MW G a (gosF mu S (n + 1)) I F B_3 T_4 R_5 K_6 D hI ac sp en iw op mu (rsF (alF mu (gosF mu S n)) rd' 6) ra ki nu tv)) rfl ?_
          exact ih (n + 1) B_3 T_4 R_5 K_6 (rsF (alF mu (gosF mu S n)) rd' 6) (by omega) (by rw [hw, warN_go (by assumption) (by omega), gosF, show 100 - (n + 1) = 100 - n - 1 by omega]; omega) (by omega)
  refine ev_ws (ws' := (MW G a (gosF mu S 0) I F B T R K D hI ac sp en iw op mu rd ra ki nu tv)) rfl ?_
  refine ev_lv [1, 0] rfl ?_
  exact lp_2 (100 - 0 + 1) 0 B T R K rd (by omega) (Nat.zero_add _).symm (Nat.lt_succ_self _)

set_option maxHeartbeats 4000000 in
set_option maxRecDepth 100000 in
theorem m_X12_warMuting (G : GG) (ro : va_W) (a : Nat → Nat) (S I F B T R K D : Nat → Int32) (hI ac sp en iw op mu rd ra ki nu tv : Int32) (x : Int32) {DD EE : Nat} (hW : WF S DD EE) (hD : DD + 100 < 2 ^ 31) (hE : EE + 168 * 100 < 2 ^ 31) : Mth G M_X12_warMuting 5 0 0 [.ref (a 0), .int x] (MW G a S I F B T R K D hI ac sp en iw op mu rd ra ki nu tv) ro (fun r ws' ro' => ∃ (B' : Nat → Int32), ∃ (T' : Nat → Int32), ∃ (R' : Nat → Int32), ∃ (K' : Nat → Int32), ∃ (rd' : Int32), r = some (.int (nI (warF x S))) ∧ ws' = (MW G a (ovF S F 32) I F B' T' R' K' D hI ac sp en iw op (-1) rd' ra ki nu tv) ∧ ro = ro') := by
  refine mth_of (by decide +kernel) (Nat.le_of_ble_eq_true rfl) (fun X hC hR => ?_)
  have b32 := hW.peo.le
  have b33 := hW.tre.le
  have b34 := hW.seen.le
  have b35 := hW.plan.le
  have b36 := hW.book.le
  have b37 := hW.tape.le
  show Ev G X 0 0 0 [(0, .ref (a 0)), (1, .int x)] [] (MW G a S I F B T R K D hI ac sp en iw op mu rd ra ki nu tv) ro
  refine ev_aload_n hC dX12_warMuting_0 rfl 0 rfl ?_
  refine ev_iload_n hC dX12_warMuting_1 rfl 1 rfl ?_
  refine ev_put (ws' := (MW G a S I F B T R K D hI ac sp en iw op x rd ra ki nu tv)) (q0 := 0) hC fp_X12_28_12 rfl (Nat.le_of_ble_eq_true rfl) rfl rfl rfl dX12_warMuting_2 ?_
  refine ev_aload_n hC dX12_warMuting_5 rfl 0 rfl ?_
  refine ev_callV (As := []) (st := []) (wf := []) hC cv_X12_190 (m_X12_warBehind G ro a S I F B T R K D hI ac sp en iw op x rd ra ki nu tv hW (by omega) (by omega)) (by decide) rfl rfl (Nat.le_of_ble_eq_true rfl) (List.Perm.of_eq (List.append_nil _).symm) (mw 0 rfl) rfl dX12_warMuting_6 (by decide) (by decide) ?_
  rintro _ _ _ ⟨B_1, T_2, R_3, K_4, rd_5, rfl, rfl, rfl⟩
  refine ev_ws (List.append_nil _) ?_
  show Ev G X 0 0 9 [(0, .ref (a 0)), (1, .int x)] [.int (nI (warF x S))] (MW G a (ovF S F 32) I F B_1 T_2 R_3 K_4 D hI ac sp en iw op x rd_5 ra ki nu tv) ro
  have wl_6 := warF_le x S
  refine ev_istore_n (lv' := [(2, .int (nI (warF x S))), (0, .ref (a 0)), (1, .int x)]) hC dX12_warMuting_9 rfl (by decide) rfl ?_
  refine ev_aload_n hC dX12_warMuting_10 rfl 1 rfl ?_
  refine ev_iconst (v := (-1)) hC dX12_warMuting_11 (by decide) ?_
  refine ev_put (ws' := (MW G a (ovF S F 32) I F B_1 T_2 R_3 K_4 D hI ac sp en iw op (-1) rd_5 ra ki nu tv)) (q0 := 0) hC fp_X12_28_12 rfl (Nat.le_of_ble_eq_true rfl) rfl rfl rfl dX12_warMuting_12 ?_
  refine ev_iload_n hC dX12_warMuting_15 rfl 0 rfl ?_
  refine ev_iret hC hR rfl dX12_warMuting_16 ?_
  exact ⟨_, _, _, _, _, rfl, rfl, rfl⟩

set_option maxHeartbeats 4000000 in
set_option maxRecDepth 100000 in
theorem m_X12_lasts (G : GG) (ro : va_W) (a : Nat → Nat) (S I F B T R K D : Nat → Int32) (hI ac sp en iw op mu rd ra ki nu tv : Int32)  {DD EE : Nat} (hW : WF S DD EE) (hD : DD + 100 < 2 ^ 31) (hE : EE + 168 * 100 < 2 ^ 31) : Mth G M_X12_lasts 5 0 0 [.ref (a 0)] (MW G a S I F B T R K D hI ac sp en iw op (-1) rd ra ki nu tv) ro (fun r ws' ro' => ∃ (F' : Nat → Int32), ∃ (B' : Nat → Int32), ∃ (T' : Nat → Int32), ∃ (R' : Nat → Int32), ∃ (K' : Nat → Int32), ∃ (rd' : Int32), r = some (.int (lastsR S)) ∧ ws' = (MW G a S I F' B' T' R' K' D hI ac sp en iw op (-1) rd' ra ki nu tv) ∧ ro = ro') := by
  refine mth_of (by decide +kernel) (Nat.le_of_ble_eq_true rfl) (fun X hC hR => ?_)
  have b32 := hW.peo.le
  have b33 := hW.tre.le
  have b34 := hW.seen.le
  have b35 := hW.plan.le
  have b36 := hW.book.le
  have b37 := hW.tape.le
  show Ev G X 0 0 0 [(0, .ref (a 0))] [] (MW G a S I F B T R K D hI ac sp en iw op (-1) rd ra ki nu tv) ro
  refine ev_aload_n hC dX12_lasts_0 rfl 0 rfl ?_
  refine ev_callV (As := []) (st := []) (wf := []) hC cv_X12_181 (m_X12_keeps G ro a S I F B T R K D hI ac sp en iw op (-1) rd ra ki nu tv) (by decide) rfl rfl (Nat.le_of_ble_eq_true rfl) (List.Perm.of_eq (List.append_nil _).symm) (mw 0 rfl) rfl dX12_lasts_1 (by decide) (by decide) ?_
  rintro _ _ _ ⟨rfl, rfl, rfl⟩
  refine ev_ws (List.append_nil _) ?_
  show Ev G X 0 0 4 [(0, .ref (a 0))] [] (MW G a S I (ovF F S 32) B T R K D hI ac sp en iw op (-1) rd ra ki nu tv) ro
  refine ev_aload_n hC dX12_lasts_4 rfl 0 rfl ?_
  refine ev_callV (As := []) (st := []) (wf := []) hC cv_X12_190 (m_X12_warBehind G ro a S I (ovF F S 32) B T R K D hI ac sp en iw op (-1) rd ra ki nu tv hW (by omega) (by omega)) (by decide) rfl rfl (Nat.le_of_ble_eq_true rfl) (List.Perm.of_eq (List.append_nil _).symm) (mw 0 rfl) rfl dX12_lasts_5 (by decide) (by decide) ?_
  rintro _ _ _ ⟨B_1, T_2, R_3, K_4, rd_5, rfl, rfl, rfl⟩
  refine ev_ws (List.append_nil _) ?_
  show Ev G X 0 0 8 [(0, .ref (a 0))] [.int (nI (warF (-1) S))] (MW G a (ovF S (ovF F S 32) 32) I (ovF F S 32) B_1 T_2 R_3 K_4 D hI ac sp en iw op (-1) rd_5 ra ki nu tv) ro
  have wl_6 := warF_le (-1) S
  refine ev_ws (ws' := (MW G a S I (ovF F S 32) B_1 T_2 R_3 K_4 D hI ac sp en iw op (-1) rd_5 ra ki nu tv)) (by rw [back_eq Hi.rf]) ?_
  refine ev_istore_n (lv' := [(1, .int (nI (warF (-1) S))), (0, .ref (a 0))]) hC dX12_lasts_8 rfl (by decide) rfl ?_
  refine ev_iload_n hC dX12_lasts_9 rfl 0 rfl ?_
  refine ev_bipush (v := (nI 99)) hC dX12_lasts_10 (by decide) ?_
  refine ev_icmp_leN (tgt := 20) hC dX12_lasts_12 (by decide) (by omega) (by omega) (fun c_7 => ?_) (fun c_7 => ?_)
  · refine ev_iload_n hC dX12_lasts_20 rfl 0 rfl ?_
    refine ev_iret hC hR rfl dX12_lasts_21 ?_
    have e_8 : (lastsR S) = (nI (warF (-1) S)) := by simp [lastsR, ← Nat.not_le, *]
    exact ⟨_, _, _, _, _, _, (by rw [e_8]), rfl, rfl⟩
  · refine ev_bipush (v := (-5)) hC dX12_lasts_15 (by decide) ?_
    refine ev_goto (tgt := 21) hC dX12_lasts_17 (by decide) ?_
    refine ev_iret hC hR rfl dX12_lasts_21 ?_
    have e_9 : (lastsR S) = (-5) := by simp [lastsR, ← Nat.not_le, *]
    exact ⟨_, _, _, _, _, _, (by rw [e_9]), rfl, rfl⟩

set_option maxHeartbeats 4000000 in
set_option maxRecDepth 100000 in
theorem m_X12_pass (G : GG) (ro : va_W) (a : Nat → Nat) (S I F B T R K D : Nat → Int32) (hI ac sp en iw op mu rd ra ki nu tv : Int32) (x : Int32) (hW : WF S 9999 9999) : Mth G M_X12_pass 5 0 0 [.ref (a 0), .int x] (MW G a S I F B T R K D hI ac sp en iw op (-1) rd ra ki nu tv) ro (fun r ws' ro' => ∃ (B' : Nat → Int32), ∃ (T' : Nat → Int32), ∃ (R' : Nat → Int32), ∃ (K' : Nat → Int32), ∃ (rd' : Int32), r = some (.int (passR S x)) ∧ ws' = (MW G a (passT S x) I F B' T' R' K' D hI ac sp en iw op (-1) rd' ra ki nu tv) ∧ ro = ro') := by
  refine mth_of (by decide +kernel) (Nat.le_of_ble_eq_true rfl) (fun X hC hR => ?_)
  have b32 := hW.peo.le
  have b33 := hW.tre.le
  have b34 := hW.seen.le
  have b35 := hW.plan.le
  have b36 := hW.book.le
  have b37 := hW.tape.le
  show Ev G X 0 0 0 [(0, .ref (a 0)), (1, .int x)] [] (MW G a S I F B T R K D hI ac sp en iw op (-1) rd ra ki nu tv) ro
  refine ev_iload_n hC dX12_pass_0 rfl 1 rfl ?_
  refine ev_iconst (v := (nI 0)) hC dX12_pass_1 (by decide) ?_
  refine ev_bipush (v := (nI 60)) hC dX12_pass_2 (by decide) ?_
  refine ev_callS (As := [.int x, .int (nI 0), .int (nI 60)]) (st := []) (wc := []) (wf := (MW G a S I F B T R K D hI ac sp en iw op (-1) rd ra ki nu tv)) hC ct_X12_44 (m_X12_in G ro x (nI 0) (nI 60)) (by decide) rfl rfl (Nat.le_of_ble_eq_true rfl) (List.Perm.refl _) dX12_pass_4 (by decide) (by decide) ?_
  rintro _ _ _ ⟨rfl, rfl, rfl⟩
  refine ev_ws (List.nil_append _) ?_
  show Ev G X 0 0 7 [(0, .ref (a 0)), (1, .int x)] [.int (bI ((nI 0) ≤ x ∧ x ≤ (nI 60)))] (MW G a S I F B T R K D hI ac sp en iw op (-1) rd ra ki nu tv) ro
  refine ev_if_neB (tgt := 13) hC dX12_pass_7 (by decide) (fun c_1 => ?_) (fun c_1 => ?_)
  · obtain ⟨kk, hkk, rfl⟩ := inN (m := 60) (by omega) (by assumption)
    have hpn_kk : pn (nI kk) = kk := nI_clamp (by omega)
    refine ev_aload_n hC dX12_pass_13 rfl 0 rfl ?_
    refine ev_get hC fl_X12_9_12 (mw 0 rfl) rfl dX12_pass_14 ?_
    refine ev_iconst (v := (nI 0)) hC dX12_pass_17 (by decide) ?_
    refine ev_ialdN (i := 0) hC (mw 1 rfl) (by omega) (by omega) dX12_pass_18 ?_
    have bk_2 : NB S 0 _ := hW.day
    have k_2 := bk_2.eq
    have lk_2 := bk_2.le
    have mk_2 := bk_2.lt
    refine ev_top (y := (nI (sn S 0))) k_2 ?_
    refine ev_iload_n hC dX12_pass_19 rfl 1 rfl ?_
    refine ev_iadd hC dX12_pass_20 ?_
    refine ev_top (y := (nI (sn S 0 + kk))) ((nI_add _ _).trans (congrArg nI (by omega))) ?_
    refine ev_sipush (v := (nI 9999)) hC dX12_pass_21 (by decide) ?_
    refine ev_icmp_leN (tgt := 30) hC dX12_pass_24 (by decide) (by omega) (by omega) (fun c_3 => ?_) (fun c_3 => ?_)
    · refine ev_iconst (v := (nI 0)) hC dX12_pass_30 (by decide) ?_
      refine ev_istore_n (lv' := [(2, .int (nI 0)), (0, .ref (a 0)), (1, .int (nI kk))]) hC dX12_pass_31 rfl (by decide) rfl ?_
      have lp_32 : ∀ (fu_32 : Nat) (k : Nat) (B' : Nat → Int32) (T' : Nat → Int32) (R' : Nat → Int32) (K' : Nat → Int32) (rd' : Int32) (hk : k ≤ kk) (hn : kk - k < fu_32), Ev G X 0 0 32 [(0, .ref (a 0)), (1, .int (nI kk)), (2, .int (nI k))] [] (MW G a (pasF S k) I F B' T' R' K' D hI ac sp en iw op (-1) rd' ra ki nu tv) ro := by
        intro fu_32
        induction fu_32 with
        | zero => intro k B' T' R' K' rd' hk hn; exact absurd hn (Nat.not_lt_zero _)
        | succ fu_32 ih =>
          intro k B' T' R' K' rd' hk hn
          have hPW := pasF_wf hW (by omega) (by omega) k (by omega)
          have hGW := goF_wf (-1) hPW.1 (by omega) (by omega)
          refine ev_iload_n hC dX12_pass_32 rfl 2 rfl ?_
          refine ev_iload_n hC dX12_pass_33 rfl 1 rfl ?_
          refine ev_icmp_geN (tgt := 91) hC dX12_pass_34 (by decide) (by omega) (by omega) (fun c_4 => ?_) (fun c_4 => ?_)
          · refine ev_aload_n hC dX12_pass_91 rfl 0 rfl ?_
            refine ev_iconst (v := (nI 2)) hC dX12_pass_92 (by decide) ?_
            refine ev_callV (As := [.int (nI 2)]) (st := []) (wf := []) hC cv_X12_159 (m_X12_sumOf G ro a (pasF S k) I F B' T' R' K' D hI ac sp en iw op (-1) rd' ra ki nu tv 2 (by omega)) (by decide) rfl rfl (Nat.le_of_ble_eq_true rfl) (List.Perm.of_eq (List.append_nil _).symm) (mw 0 rfl) rfl dX12_pass_93 (by decide) (by decide) ?_
            rintro _ _ _ ⟨rfl, rfl, rfl⟩
            refine ev_ws (List.append_nil _) ?_
            show Ev G X 0 0 96 [(0, .ref (a 0)), (1, .int (nI kk)), (2, .int (nI k))] [.int (sum6 (pasF S k) 2)] (MW G a (pasF S k) I F B' T' R' K' D hI ac sp en iw op (-1) rd' ra ki nu tv) ro
            refine ev_iret hC hR rfl dX12_pass_96 ?_
            obtain rfl : k = kk := by omega
            have e_5 : (passT S (nI k)) = (pasF S k) := by simp [passR, passT, *] <;> (intros; omega)
            have e_6 : (passR S (nI k)) = (sum6 (pasF S k) 2) := by simp [passR, passT, *] <;> (intros; omega)
            exact ⟨_, _, _, _, _, (by rw [e_6]), (by rw [e_5]), rfl⟩
          · refine ev_aload_n hC dX12_pass_37 rfl 0 rfl ?_
            refine ev_callV (As := []) (st := []) (wf := []) hC cv_X12_178 (m_X12_goes G ro a (pasF S k) I F B' T' R' K' D hI ac sp en iw op (-1) rd' ra ki nu tv ((pasF_wf hW (by omega) (by omega) k (by omega)).1) (by omega) (by omega)) (by decide) rfl rfl (Nat.le_of_ble_eq_true rfl) (List.Perm.of_eq (List.append_nil _).symm) (mw 0 rfl) rfl dX12_pass_38 (by decide) (by decide) ?_
            rintro _ _ _ ⟨B_7, T_8, R_9, K_10, rfl, rfl, rfl, hK_11⟩
            refine ev_ws (List.append_nil _) ?_
            show Ev G X 0 0 41 [(0, .ref (a 0)), (1, .int (nI kk)), (2, .int (nI k))] [] (MW G a (goF (-1) (pasF S k)) I F B_7 T_8 R_9 K_10 D hI ac sp en iw op (-1) (rsF (alF (-1) (pasF S k)) rd' 6) ra ki nu tv) ro
            refine ev_iconst (v := (nI 0)) hC dX12_pass_41 (by decide) ?_
            refine ev_istore_n (lv' := [(3, .int (nI 0)), (0, .ref (a 0)), (1, .int (nI kk)), (2, .int (nI k))]) hC dX12_pass_42 rfl (by decide) rfl ?_
            have lp_43 : ∀ (fu_43 : Nat) (p : Nat) (hp : p ≤ sn S 32) (hn : sn S 32 - p < fu_43), Ev G X 0 0 43 [(0, .ref (a 0)), (1, .int (nI kk)), (2, .int (nI k)), (3, .int (nI p))] [] (MW G a (capF (goF (-1) (pasF S k)) p) I F B_7 T_8 R_9 K_10 D hI ac sp en iw op (-1) (rsF (alF (-1) (pasF S k)) rd' 6) ra ki nu tv) ro := by
              intro fu_43
              induction fu_43 with
              | zero => intro p hp hn; exact absurd hn (Nat.not_lt_zero _)
              | succ fu_43 ih_43 =>
                intro p hp hn
                have hp32 : capF (goF (-1) (pasF S k)) p 32 = nI (sn S 32) := (if_neg (by omega)).trans ((hGW.2 32 (by omega)).trans ((hPW.2 32 (by omega)).trans hW.peo.eq))
                have hp26 : capF (goF (-1) (pasF S k)) p (26 + p) = goF (-1) (pasF S k) (26 + p) := if_neg (by omega)
                refine ev_iload_n hC dX12_pass_43 rfl 3 rfl ?_
                refine ev_aload_n hC dX12_pass_44 rfl 0 rfl ?_
                refine ev_get hC fl_X12_9_12 (mw 0 rfl) rfl dX12_pass_45 ?_
                refine ev_bipush (v := (nI 32)) hC dX12_pass_48 (by decide) ?_
                refine ev_ialdN (i := 32) hC (mw 1 rfl) (by omega) (by omega) dX12_pass_50 ?_
                refine ev_top (y := (nI (sn S 32))) hp32 ?_
                refine ev_icmp_geN (tgt := 85) hC dX12_pass_51 (by decide) (by omega) (by omega) (fun c_12 => ?_) (fun c_12 => ?_)
                · refine ev_iinc (v := (nI (k + 1))) (lv' := [(2, .int (nI (k + 1))), (0, .ref (a 0)), (1, .int (nI kk)), (3, .int (nI p))]) hC dX12_pass_85 (q := 2) rfl (nI_k _ _ 1 (by decide)) (by decide) rfl ?_
                  refine ev_goto (tgt := 32) hC dX12_pass_88 (by decide) ?_
                  refine ev_lv [1, 2, 0] rfl ?_
                  obtain rfl : p = sn S 32 := by omega
                  refine ev_ws (ws' := (MW G a (pasF S (k + 1)) I F B_7 T_8 R_9 K_10 D hI ac sp en iw op (-1) (rsF (alF (-1) (pasF S k)) rd' 6) ra ki nu tv)) rfl ?_
                  exact ih (k + 1) B_7 T_8 R_9 K_10 (rsF (alF (-1) (pasF S k)) rd' 6) (by omega) (by omega)
                · refine ev_aload_n hC dX12_pass_54 rfl 0 rfl ?_
                  refine ev_get hC fl_X12_9_12 (mw 0 rfl) rfl dX12_pass_55 ?_
                  refine ev_bipush (v := (nI 26)) hC dX12_pass_58 (by decide) ?_
                  refine ev_iload_n hC dX12_pass_60 rfl 3 rfl ?_
                  refine ev_iadd hC dX12_pass_61 ?_
                  refine ev_top (y := (nI (26 + p))) ((nI_add _ _).trans (congrArg nI (by omega))) ?_
                  refine ev_aload_n hC dX12_pass_62 rfl 0 rfl ?_
                  refine ev_get hC fl_X12_9_12 (mw 0 rfl) rfl dX12_pass_63 ?_
                  refine ev_bipush (v := (nI 26)) hC dX12_pass_66 (by decide) ?_
                  refine ev_iload_n hC dX12_pass_68 rfl 3 rfl ?_
                  refine ev_iadd hC dX12_pass_69 ?_
                  refine ev_top (y := (nI (26 + p))) ((nI_add _ _).trans (congrArg nI (by omega))) ?_
                  refine ev_ialdN (i := 26 + p) hC (mw 1 rfl) (by omega) (by omega) dX12_pass_70 ?_
                  refine ev_top (y := (goF (-1) (pasF S k) (26 + p))) hp26 ?_
                  refine ev_iconst (v := (nI 0)) hC dX12_pass_71 (by decide) ?_
                  refine ev_sipush (v := (nI 9999)) hC dX12_pass_72 (by decide) ?_
                  refine ev_callS (As := [.int (goF (-1) (pasF S k) (26 + p)), .int (nI 0), .int (nI 9999)]) (st := [.int (nI (26 + p)), .ref (a 1)]) (wc := []) (wf := (MW G a (capF (goF (-1) (pasF S k)) p) I F B_7 T_8 R_9 K_10 D hI ac sp en iw op (-1) (rsF (alF (-1) (pasF S k)) rd' 6) ra ki nu tv)) hC ct_X12_171 (m_X12_within G ro (goF (-1) (pasF S k) (26 + p)) (nI 0) (nI 9999)) (by decide) rfl rfl (Nat.le_of_ble_eq_true rfl) (List.Perm.refl _) dX12_pass_75 (by decide) (by decide) ?_
                  rintro _ _ _ ⟨rfl, rfl, rfl⟩
                  refine ev_ws (List.nil_append _) ?_
                  show Ev G X 0 0 78 [(0, .ref (a 0)), (1, .int (nI kk)), (2, .int (nI k)), (3, .int (nI p))] [.int (wiF (goF (-1) (pasF S k) (26 + p)) (nI 0) (nI 9999)), .int (nI (26 + p)), .ref (a 1)] (MW G a (capF (goF (-1) (pasF S k)) p) I F B_7 T_8 R_9 K_10 D hI ac sp en iw op (-1) (rsF (alF (-1) (pasF S k)) rd' 6) ra ki nu tv) ro
                  refine ev_iastN (i := 26 + p) (ws' := (MW G a (upd (capF (goF (-1) (pasF S k)) p) (26 + p) (wiF (goF (-1) (pasF S k) (26 + p)) (nI 0) (nI 9999))) I F B_7 T_8 R_9 K_10 D hI ac sp en iw op (-1) (rsF (alF (-1) (pasF S k)) rd' 6) ra ki nu tv)) (q0 := 1) hC rfl (by omega) (by omega) rfl dX12_pass_78 ?_
                  refine ev_iinc (v := (nI (p + 1))) (lv' := [(3, .int (nI (p + 1))), (0, .ref (a 0)), (1, .int (nI kk)), (2, .int (nI k))]) hC dX12_pass_79 (q := 3) rfl (nI_k _ _ 1 (by decide)) (by decide) rfl ?_
                  refine ev_goto (tgt := 43) hC dX12_pass_82 (by decide) ?_
                  refine ev_lv [1, 2, 3, 0] rfl ?_
                  refine ev_ws (ws' := (MW G a (capF (goF (-1) (pasF S k)) (p + 1)) I F B_7 T_8 R_9 K_10 D hI ac sp en iw op (-1) (rsF (alF (-1) (pasF S k)) rd' 6) ra ki nu tv)) (by rw [capF_s]) ?_
                  exact ih_43 (p + 1) (by omega) (by omega)
            refine ev_ws (ws' := (MW G a (capF (goF (-1) (pasF S k)) 0) I F B_7 T_8 R_9 K_10 D hI ac sp en iw op (-1) (rsF (alF (-1) (pasF S k)) rd' 6) ra ki nu tv)) (by rw [capF_0]) ?_
            refine ev_lv [1, 2, 3, 0] rfl ?_
            exact lp_43 (sn S 32 - 0 + 1) 0 (by omega) (Nat.lt_succ_self _)
      refine ev_ws (ws' := (MW G a (pasF S 0) I F B T R K D hI ac sp en iw op (-1) rd ra ki nu tv)) rfl ?_
      refine ev_lv [1, 2, 0] rfl ?_
      exact lp_32 (kk - 0 + 1) 0 B T R K rd (by omega) (Nat.lt_succ_self _)
    · refine ev_bipush (v := (-3)) hC dX12_pass_27 (by decide) ?_
      refine ev_iret hC hR rfl dX12_pass_29 ?_
      have e_13 : (passT S (nI kk)) = S := by simp [passR, passT, *] <;> (intros; omega)
      have e_14 : (passR S (nI kk)) = (-3) := by simp [passR, passT, *] <;> (intros; omega)
      exact ⟨_, _, _, _, _, (by rw [e_14]), (by rw [e_13]), rfl⟩
  · refine ev_bipush (v := (-2)) hC dX12_pass_10 (by decide) ?_
    refine ev_iret hC hR rfl dX12_pass_12 ?_
    have e_15 : (passT S x) = S := by simp [passR, passT, *] <;> (intros; omega)
    have e_16 : (passR S x) = (-2) := by simp [passR, passT, *] <;> (intros; omega)
    exact ⟨_, _, _, _, _, (by rw [e_16]), (by rw [e_15]), rfl⟩

theorem NB.upd {S : Nat → Int32} {i j m x : Nat} (h : NB S j m) (hx : j = i → x ≤ m) : NB (upd S i (nI x)) j m := by
  by_cases c : j = i
  · subst c; exact NB.of h.1 (hx rfl) (upd_eq _ _ _)
  · exact h.congr (upd_ne _ _ c)
theorem WF.upd {S : Nat → Int32} {D E : Nat} (h : WF S D E) {i x : Nat} (h0 : 1 ≤ i ∧ i < 32) (h1 : i = 1 → x ≤ 1) (h2 : 2 ≤ i → i < 8 → x ≤ 999) (h3 : 8 ≤ i → i < 14 → x ≤ 1) (h4 : 14 ≤ i → i < 20 → x ≤ 5) (h5 : 20 ≤ i → i < 26 → x ≤ 99) (h6 : 26 ≤ i → x ≤ E) : WF (upd S i (nI x)) D E :=
  h.low (Hi.rf.upd h0.2 _) (h.day.upd (by omega)) (h.war.upd (by omega)) (fun k hk => (h.salt k hk).upd (fun e => h2 (by omega) (by omega))) (fun k hk => (h.roof k hk).upd (fun e => h3 (by omega) (by omega))) (fun k hk => (h.side k hk).upd (fun e => h4 (by omega) (by omega))) (fun k hk => (h.grudge k hk).upd (fun e => h5 (by omega) (by omega))) (fun k hk => (h.eaten k hk).upd (fun e => h6 (by omega)))
theorem bestF_t {f : Nat → Nat} {b0 l0 b l : Int32} {i : Nat} (h : bestF f b0 l0 i = (b, l)) (c : ¬ nI (f i) ≤ l) : bestF f b0 l0 (i + 1) = (nI i, nI (f i)) := by
  rw [bestF, h, if_pos (Int32.not_le.mp c)]
theorem bestF_f {f : Nat → Nat} {b0 l0 b l : Int32} {i : Nat} (h : bestF f b0 l0 i = (b, l)) (c : nI (f i) ≤ l) : bestF f b0 l0 (i + 1) = (b, l) := by
  rw [bestF, h, if_neg (Int32.not_lt.mpr c)]
theorem bestC_n {q : Nat → Prop} {hq : ∀ i, Decidable (q i)} {f : Nat → Nat} {b0 l0 b l : Int32} {i : Nat} (h : bestC q hq f b0 l0 i = (b, l)) (c : ¬ q i) : bestC q hq f b0 l0 (i + 1) = (b, l) := by
  rw [bestC, if_neg (fun z => c z.1), h]
theorem bestC_t {q : Nat → Prop} {hq : ∀ i, Decidable (q i)} {f : Nat → Nat} {b0 l0 b l : Int32} {i : Nat} (h : bestC q hq f b0 l0 i = (b, l)) (c : q i) (d : ¬ nI (f i) ≤ l) : bestC q hq f b0 l0 (i + 1) = (nI i, nI (f i)) := by
  rw [bestC, h, if_pos ⟨c, Int32.not_le.mp d⟩]
theorem bestC_f {q : Nat → Prop} {hq : ∀ i, Decidable (q i)} {f : Nat → Nat} {b0 l0 b l : Int32} {i : Nat} (h : bestC q hq f b0 l0 i = (b, l)) (d : nI (f i) ≤ l) : bestC q hq f b0 l0 (i + 1) = (b, l) := by
  rw [bestC, h, if_neg (fun z => Int32.not_lt.mpr d z.2)]

set_option maxHeartbeats 4000000 in
set_option maxRecDepth 100000 in
theorem m_X12_forgive (G : GG) (ro : va_W) (a : Nat → Nat) (S I F B T R K D : Nat → Int32) (hI ac sp en iw op mu rd ra ki nu tv : Int32)  {DD EE : Nat} (hW : WF S DD EE) (hD : DD + 100 < 2 ^ 31) (hE : EE + 168 * 100 < 2 ^ 31) : Mth G M_X12_forgive 6 0 0 [.ref (a 0)] (MW G a S I F B T R K D hI ac sp en iw op (-1) rd ra ki nu tv) ro (fun r ws' ro' => ∃ (F' : Nat → Int32), ∃ (B' : Nat → Int32), ∃ (T' : Nat → Int32), ∃ (R' : Nat → Int32), ∃ (K' : Nat → Int32), ∃ (rd' : Int32), r = some (.int (forgiveR S)) ∧ ws' = (MW G a S I F' B' T' R' K' D hI ac sp en iw op (-1) rd' ra ki nu tv) ∧ ro = ro') := by
  refine mth_of (by decide +kernel) (Nat.le_of_ble_eq_true rfl) (fun X hC hR => ?_)
  have b32 := hW.peo.le
  have b33 := hW.tre.le
  have b34 := hW.seen.le
  have b35 := hW.plan.le
  have b36 := hW.book.le
  have b37 := hW.tape.le
  show Ev G X 0 0 0 [(0, .ref (a 0))] [] (MW G a S I F B T R K D hI ac sp en iw op (-1) rd ra ki nu tv) ro
  refine ev_aload_n hC dX12_forgive_0 rfl 0 rfl ?_
  refine ev_callV (As := []) (st := []) (wf := []) hC cv_X12_181 (m_X12_keeps G ro a S I F B T R K D hI ac sp en iw op (-1) rd ra ki nu tv) (by decide) rfl rfl (Nat.le_of_ble_eq_true rfl) (List.Perm.of_eq (List.append_nil _).symm) (mw 0 rfl) rfl dX12_forgive_1 (by decide) (by decide) ?_
  rintro _ _ _ ⟨rfl, rfl, rfl⟩
  refine ev_ws (List.append_nil _) ?_
  show Ev G X 0 0 4 [(0, .ref (a 0))] [] (MW G a S I (ovF F S 32) B T R K D hI ac sp en iw op (-1) rd ra ki nu tv) ro
  refine ev_aload_n hC dX12_forgive_4 rfl 0 rfl ?_
  refine ev_callV (As := []) (st := []) (wf := []) hC cv_X12_190 (m_X12_warBehind G ro a S I (ovF F S 32) B T R K D hI ac sp en iw op (-1) rd ra ki nu tv hW (by omega) (by omega)) (by decide) rfl rfl (Nat.le_of_ble_eq_true rfl) (List.Perm.of_eq (List.append_nil _).symm) (mw 0 rfl) rfl dX12_forgive_5 (by decide) (by decide) ?_
  rintro _ _ _ ⟨B_1, T_2, R_3, K_4, rd_5, rfl, rfl, rfl⟩
  refine ev_ws (List.append_nil _) ?_
  show Ev G X 0 0 8 [(0, .ref (a 0))] [.int (nI (warF (-1) S))] (MW G a (ovF S (ovF F S 32) 32) I (ovF F S 32) B_1 T_2 R_3 K_4 D hI ac sp en iw op (-1) rd_5 ra ki nu tv) ro
  have wl_6 := warF_le (-1) S
  refine ev_ws (ws' := (MW G a S I (ovF F S 32) B_1 T_2 R_3 K_4 D hI ac sp en iw op (-1) rd_5 ra ki nu tv)) (by rw [back_eq Hi.rf]) ?_
  refine ev_istore_n (lv' := [(1, .int (nI (warF (-1) S))), (0, .ref (a 0))]) hC dX12_forgive_8 rfl (by decide) rfl ?_
  refine ev_bipush (v := (-5)) hC dX12_forgive_9 (by decide) ?_
  refine ev_istore_n (lv' := [(2, .int (-5)), (1, .int (nI (warF (-1) S))), (0, .ref (a 0))]) hC dX12_forgive_11 rfl (by decide) rfl ?_
  refine ev_iconst (v := (nI 0)) hC dX12_forgive_12 (by decide) ?_
  refine ev_istore_n (lv' := [(3, .int (nI 0)), (2, .int (-5)), (1, .int (nI (warF (-1) S))), (0, .ref (a 0))]) hC dX12_forgive_13 rfl (by decide) rfl ?_
  have lp_14 : ∀ (fu_14 : Nat) (p : Nat) (best : Int32) (longest : Int32) (B' : Nat → Int32) (T' : Nat → Int32) (R' : Nat → Int32) (K' : Nat → Int32) (rd' : Int32) (hi : p ≤ sn S 32) (hb : bestF (fun q => warF (nI q) S) (-5) (nI (warF (-1) S)) p = (best, longest)) (hn : sn S 32 - p < fu_14), Ev G X 0 0 14 [(0, .ref (a 0)), (1, .int longest), (2, .int best), (3, .int (nI p))] [] (MW G a S I (ovF F S 32) B' T' R' K' D hI ac sp en iw op (-1) rd' ra ki nu tv) ro := by
    intro fu_14
    induction fu_14 with
    | zero => intro p best longest B' T' R' K' rd' hi hb hn; exact absurd hn (Nat.not_lt_zero _)
    | succ fu_14 ih =>
      intro p best longest B' T' R' K' rd' hi hb hn
      refine ev_iload_n hC dX12_forgive_14 rfl 3 rfl ?_
      refine ev_aload_n hC dX12_forgive_15 rfl 0 rfl ?_
      refine ev_get hC fl_X12_9_12 (mw 0 rfl) rfl dX12_forgive_16 ?_
      refine ev_bipush (v := (nI 32)) hC dX12_forgive_19 (by decide) ?_
      refine ev_ialdN (i := 32) hC (mw 1 rfl) (by omega) (by omega) dX12_forgive_21 ?_
      have bk_7 : NB S 32 _ := hW.peo
      have k_7 := bk_7.eq
      have lk_7 := bk_7.le
      have mk_7 := bk_7.lt
      refine ev_top (y := (nI (sn S 32))) k_7 ?_
      refine ev_icmp_geN (tgt := 63) hC dX12_forgive_22 (by decide) (by omega) (by omega) (fun c_8 => ?_) (fun c_8 => ?_)
      · refine ev_iload_n hC dX12_forgive_63 rfl 2 rfl ?_
        refine ev_iret hC hR rfl dX12_forgive_64 ?_
        obtain rfl : p = sn S 32 := by omega
        have er : forgiveR S = best := by unfold forgiveR; rw [hb]
        rw [er]
        exact ⟨_, _, _, _, _, _, rfl, rfl, rfl⟩
      · refine ev_aload_n hC dX12_forgive_25 rfl 0 rfl ?_
        refine ev_iload_n hC dX12_forgive_26 rfl 3 rfl ?_
        refine ev_callV (As := [.int (nI p)]) (st := []) (wf := []) hC cv_X12_196 (m_X12_warMuting G ro a S I (ovF F S 32) B' T' R' K' D hI ac sp en iw op (-1) rd' ra ki nu tv (nI p) hW (by omega) (by omega)) (by decide) rfl rfl (Nat.le_of_ble_eq_true rfl) (List.Perm.of_eq (List.append_nil _).symm) (mw 0 rfl) rfl dX12_forgive_27 (by decide) (by decide) ?_
        rintro _ _ _ ⟨B_9, T_10, R_11, K_12, rd_13, rfl, rfl, rfl⟩
        refine ev_ws (List.append_nil _) ?_
        show Ev G X 0 0 30 [(0, .ref (a 0)), (1, .int longest), (2, .int best), (3, .int (nI p))] [.int (nI (warF (nI p) S))] (MW G a (ovF S (ovF F S 32) 32) I (ovF F S 32) B_9 T_10 R_11 K_12 D hI ac sp en iw op (-1) rd_13 ra ki nu tv) ro
        have wl_14 := warF_le (nI p) S
        refine ev_ws (ws' := (MW G a S I (ovF F S 32) B_9 T_10 R_11 K_12 D hI ac sp en iw op (-1) rd_13 ra ki nu tv)) (by rw [back_eq Hi.rf]) ?_
        refine ev_istore (lv' := [(4, .int (nI (warF (nI p) S))), (0, .ref (a 0)), (1, .int longest), (2, .int best), (3, .int (nI p))]) hC dX12_forgive_30 (by decide) rfl ?_
        refine ev_iload hC dX12_forgive_32 0 rfl ?_
        refine ev_iload_n hC dX12_forgive_34 rfl 2 rfl ?_
        refine ev_icmp_le (tgt := 42) hC dX12_forgive_35 (by decide) (fun c_15 => ?_) (fun c_15 => ?_)
        · refine ev_iload_n hC dX12_forgive_42 rfl 3 rfl ?_
          refine ev_istore_n (lv' := [(2, .int best), (4, .int (nI (warF (nI p) S))), (0, .ref (a 0)), (1, .int longest), (3, .int (nI p))]) hC dX12_forgive_43 rfl (by decide) rfl ?_
          refine ev_iload hC dX12_forgive_44 1 rfl ?_
          refine ev_iload_n hC dX12_forgive_46 rfl 3 rfl ?_
          refine ev_icmp_le (tgt := 55) hC dX12_forgive_47 (by decide) (fun c_16 => ?_) (fun c_16 => absurd c_16 (fun q => q c_15))
          refine ev_iload_n hC dX12_forgive_55 rfl 3 rfl ?_
          refine ev_istore_n (lv' := [(1, .int longest), (2, .int best), (4, .int (nI (warF (nI p) S))), (0, .ref (a 0)), (3, .int (nI p))]) hC dX12_forgive_56 rfl (by decide) rfl ?_
          refine ev_iinc (v := (nI (p + 1))) (lv' := [(3, .int (nI (p + 1))), (1, .int longest), (2, .int best), (4, .int (nI (warF (nI p) S))), (0, .ref (a 0))]) hC dX12_forgive_57 (q := 4) rfl (nI_k _ _ 1 (by decide)) (by decide) rfl ?_
          refine ev_goto (tgt := 14) hC dX12_forgive_60 (by decide) ?_
          refine ev_lv [4, 1, 2, 0] rfl ?_
          exact ih (p + 1) best longest B_9 T_10 R_11 K_12 rd_13 (by omega) (by first | exact bestF_t hb (by assumption) | exact bestF_f hb (by assumption)) (by omega)
        · refine ev_iload_n hC dX12_forgive_38 rfl 4 rfl ?_
          refine ev_goto (tgt := 43) hC dX12_forgive_39 (by decide) ?_
          refine ev_istore_n (lv' := [(2, .int (nI p)), (4, .int (nI (warF (nI p) S))), (0, .ref (a 0)), (1, .int longest), (3, .int (nI p))]) hC dX12_forgive_43 rfl (by decide) rfl ?_
          refine ev_iload hC dX12_forgive_44 1 rfl ?_
          refine ev_iload_n hC dX12_forgive_46 rfl 3 rfl ?_
          refine ev_icmp_le (tgt := 55) hC dX12_forgive_47 (by decide) (fun c_17 => absurd c_17 (fun q => c_15 q)) (fun c_17 => ?_)
          refine ev_iload hC dX12_forgive_50 1 rfl ?_
          refine ev_goto (tgt := 56) hC dX12_forgive_52 (by decide) ?_
          refine ev_istore_n (lv' := [(1, .int (nI (warF (nI p) S))), (2, .int (nI p)), (4, .int (nI (warF (nI p) S))), (0, .ref (a 0)), (3, .int (nI p))]) hC dX12_forgive_56 rfl (by decide) rfl ?_
          refine ev_iinc (v := (nI (p + 1))) (lv' := [(3, .int (nI (p + 1))), (1, .int (nI (warF (nI p) S))), (2, .int (nI p)), (4, .int (nI (warF (nI p) S))), (0, .ref (a 0))]) hC dX12_forgive_57 (q := 4) rfl (nI_k _ _ 1 (by decide)) (by decide) rfl ?_
          refine ev_goto (tgt := 14) hC dX12_forgive_60 (by decide) ?_
          refine ev_lv [4, 1, 2, 0] rfl ?_
          exact ih (p + 1) (nI p) (nI (warF (nI p) S)) B_9 T_10 R_11 K_12 rd_13 (by omega) (by first | exact bestF_t hb (by assumption) | exact bestF_f hb (by assumption)) (by omega)
  refine ev_lv [3, 2, 1, 0] rfl ?_
  exact lp_14 (sn S 32 - 0 + 1) 0 (-5) (nI (warF (-1) S)) B_1 T_2 R_3 K_4 rd_5 (by omega) rfl (Nat.lt_succ_self _)

set_option maxHeartbeats 4000000 in
set_option maxRecDepth 100000 in
theorem m_X12_move (G : GG) (ro : va_W) (a : Nat → Nat) (S I F B T R K D : Nat → Int32) (hI ac sp en iw op mu rd ra ki nu tv : Int32) (x : Int32) {DD EE : Nat} (hW : WF S DD EE) (hD : DD + 100 < 2 ^ 31) (hE : EE + 168 * 100 < 2 ^ 31) : Mth G M_X12_move 6 0 0 [.ref (a 0), .int x] (MW G a S I F B T R K D hI ac sp en iw op (-1) rd ra ki nu tv) ro (fun r ws' ro' => ∃ (F' : Nat → Int32), ∃ (B' : Nat → Int32), ∃ (T' : Nat → Int32), ∃ (R' : Nat → Int32), ∃ (K' : Nat → Int32), ∃ (rd' : Int32), r = some (.int (moveR S x)) ∧ ws' = (MW G a S I F' B' T' R' K' D hI ac sp en iw op (-1) rd' ra ki nu tv) ∧ ro = ro') := by
  refine mth_of (by decide +kernel) (Nat.le_of_ble_eq_true rfl) (fun X hC hR => ?_)
  have b32 := hW.peo.le
  have b33 := hW.tre.le
  have b34 := hW.seen.le
  have b35 := hW.plan.le
  have b36 := hW.book.le
  have b37 := hW.tape.le
  show Ev G X 0 0 0 [(0, .ref (a 0)), (1, .int x)] [] (MW G a S I F B T R K D hI ac sp en iw op (-1) rd ra ki nu tv) ro
  refine ev_aload_n hC dX12_move_0 rfl 0 rfl ?_
  refine ev_iload_n hC dX12_move_1 rfl 1 rfl ?_
  refine ev_callV (As := [.int x]) (st := []) (wf := []) hC cv_X12_147 (m_X12_isPerson G ro a S I F B T R K D hI ac sp en iw op (-1) rd ra ki nu tv x) (by decide) rfl rfl (Nat.le_of_ble_eq_true rfl) (List.Perm.of_eq (List.append_nil _).symm) (mw 0 rfl) rfl dX12_move_2 (by decide) (by decide) ?_
  rintro _ _ _ ⟨rfl, rfl, rfl⟩
  refine ev_ws (List.append_nil _) ?_
  show Ev G X 0 0 5 [(0, .ref (a 0)), (1, .int x)] [.int (bI ((nI 0) ≤ x ∧ x ≤ ((S 32) - nI 1)))] (MW G a S I F B T R K D hI ac sp en iw op (-1) rd ra ki nu tv) ro
  refine ev_if_neB (tgt := 10) hC dX12_move_5 (by decide) (fun c_1 => ?_) (fun c_1 => ?_)
  · obtain ⟨pp, hpp, rfl⟩ := isP hW (by assumption)
    have hpn_pp : pn (nI pp) = pp := nI_clamp (by omega)
    refine ev_aload_n hC dX12_move_10 rfl 0 rfl ?_
    refine ev_callV (As := []) (st := []) (wf := []) hC cv_X12_181 (m_X12_keeps G ro a S I F B T R K D hI ac sp en iw op (-1) rd ra ki nu tv) (by decide) rfl rfl (Nat.le_of_ble_eq_true rfl) (List.Perm.of_eq (List.append_nil _).symm) (mw 0 rfl) rfl dX12_move_11 (by decide) (by decide) ?_
    rintro _ _ _ ⟨rfl, rfl, rfl⟩
    refine ev_ws (List.append_nil _) ?_
    show Ev G X 0 0 14 [(0, .ref (a 0)), (1, .int (nI pp))] [] (MW G a S I (ovF F S 32) B T R K D hI ac sp en iw op (-1) rd ra ki nu tv) ro
    refine ev_iconst (v := (-1)) hC dX12_move_14 (by decide) ?_
    refine ev_istore_n (lv' := [(2, .int (-1)), (0, .ref (a 0)), (1, .int (nI pp))]) hC dX12_move_15 rfl (by decide) rfl ?_
    refine ev_iconst (v := (-1)) hC dX12_move_16 (by decide) ?_
    refine ev_istore_n (lv' := [(3, .int (-1)), (2, .int (-1)), (0, .ref (a 0)), (1, .int (nI pp))]) hC dX12_move_17 rfl (by decide) rfl ?_
    refine ev_iconst (v := (nI 0)) hC dX12_move_18 (by decide) ?_
    refine ev_istore (lv' := [(4, .int (nI 0)), (3, .int (-1)), (2, .int (-1)), (0, .ref (a 0)), (1, .int (nI pp))]) hC dX12_move_19 (by decide) rfl ?_
    have lp_21 : ∀ (fu_21 : Nat) (k : Nat) (best : Int32) (longest : Int32) (B' : Nat → Int32) (T' : Nat → Int32) (R' : Nat → Int32) (K' : Nat → Int32) (rd' : Int32) (hi : k ≤ 6) (hb : bestF (fun q => warF (-1) (upd S (14 + pp) (nI q))) (-1) (-1) k = (best, longest)) (hn : 6 - k < fu_21), Ev G X 0 0 21 [(0, .ref (a 0)), (1, .int (nI pp)), (2, .int longest), (3, .int best), (4, .int (nI k))] [] (MW G a S I (ovF F S 32) B' T' R' K' D hI ac sp en iw op (-1) rd' ra ki nu tv) ro := by
      intro fu_21
      induction fu_21 with
      | zero => intro k best longest B' T' R' K' rd' hi hb hn; exact absurd hn (Nat.not_lt_zero _)
      | succ fu_21 ih =>
        intro k best longest B' T' R' K' rd' hi hb hn
        refine ev_iload hC dX12_move_21 4 rfl ?_
        refine ev_bipush (v := (nI 6)) hC dX12_move_23 (by decide) ?_
        refine ev_icmp_geN (tgt := 77) hC dX12_move_25 (by decide) (by omega) (by omega) (fun c_2 => ?_) (fun c_2 => ?_)
        · refine ev_iload_n hC dX12_move_77 rfl 3 rfl ?_
          refine ev_iret hC hR rfl dX12_move_78 ?_
          obtain rfl : k = 6 := by omega
          have er : moveR S (nI pp) = best := by rw [moveR, if_pos (by assumption), hpn_pp, hb]
          exact ⟨_, _, _, _, _, _, by rw [er], rfl, rfl⟩
        · refine ev_aload_n hC dX12_move_28 rfl 0 rfl ?_
          refine ev_get hC fl_X12_9_12 (mw 0 rfl) rfl dX12_move_29 ?_
          refine ev_bipush (v := (nI 14)) hC dX12_move_32 (by decide) ?_
          refine ev_iload_n hC dX12_move_34 rfl 1 rfl ?_
          refine ev_iadd hC dX12_move_35 ?_
          refine ev_top (y := (nI (14 + pp))) ((nI_add _ _).trans (congrArg nI (by omega))) ?_
          refine ev_iload hC dX12_move_36 4 rfl ?_
          refine ev_iastN (i := 14 + pp) (ws' := (MW G a (upd S (14 + pp) (nI k)) I (ovF F S 32) B' T' R' K' D hI ac sp en iw op (-1) rd' ra ki nu tv)) (q0 := 1) hC rfl (by omega) (by omega) rfl dX12_move_38 ?_
          refine ev_aload_n hC dX12_move_39 rfl 0 rfl ?_
          refine ev_callV (As := []) (st := []) (wf := []) hC cv_X12_190 (m_X12_warBehind G ro a (upd S (14 + pp) (nI k)) I (ovF F S 32) B' T' R' K' D hI ac sp en iw op (-1) rd' ra ki nu tv (hW.upd (x := k) (by omega) (by omega) (by omega) (by omega) (by omega) (by omega) (by omega)) (by omega) (by omega)) (by decide) rfl rfl (Nat.le_of_ble_eq_true rfl) (List.Perm.of_eq (List.append_nil _).symm) (mw 0 rfl) rfl dX12_move_40 (by decide) (by decide) ?_
          rintro _ _ _ ⟨B_3, T_4, R_5, K_6, rd_7, rfl, rfl, rfl⟩
          refine ev_ws (List.append_nil _) ?_
          show Ev G X 0 0 43 [(0, .ref (a 0)), (1, .int (nI pp)), (2, .int longest), (3, .int best), (4, .int (nI k))] [.int (nI (warF (-1) (upd S (14 + pp) (nI k))))] (MW G a (ovF (upd S (14 + pp) (nI k)) (ovF F S 32) 32) I (ovF F S 32) B_3 T_4 R_5 K_6 D hI ac sp en iw op (-1) rd_7 ra ki nu tv) ro
          have wl_8 := warF_le (-1) (upd S (14 + pp) (nI k))
          refine ev_ws (ws' := (MW G a S I (ovF F S 32) B_3 T_4 R_5 K_6 D hI ac sp en iw op (-1) rd_7 ra ki nu tv)) (by rw [back_eq (Hi.upd Hi.rf (by omega) _)]) ?_
          refine ev_istore (lv' := [(5, .int (nI (warF (-1) (upd S (14 + pp) (nI k))))), (0, .ref (a 0)), (1, .int (nI pp)), (2, .int longest), (3, .int best), (4, .int (nI k))]) hC dX12_move_43 (by decide) rfl ?_
          refine ev_iload hC dX12_move_45 0 rfl ?_
          refine ev_iload_n hC dX12_move_47 rfl 3 rfl ?_
          refine ev_icmp_le (tgt := 56) hC dX12_move_48 (by decide) (fun c_9 => ?_) (fun c_9 => ?_)
          · refine ev_iload_n hC dX12_move_56 rfl 4 rfl ?_
            refine ev_istore_n (lv' := [(3, .int best), (5, .int (nI (warF (-1) (upd S (14 + pp) (nI k))))), (0, .ref (a 0)), (1, .int (nI pp)), (2, .int longest), (4, .int (nI k))]) hC dX12_move_57 rfl (by decide) rfl ?_
            refine ev_iload hC dX12_move_58 1 rfl ?_
            refine ev_iload_n hC dX12_move_60 rfl 4 rfl ?_
            refine ev_icmp_le (tgt := 69) hC dX12_move_61 (by decide) (fun c_10 => ?_) (fun c_10 => absurd c_10 (fun q => q c_9))
            refine ev_iload_n hC dX12_move_69 rfl 4 rfl ?_
            refine ev_istore_n (lv' := [(2, .int longest), (3, .int best), (5, .int (nI (warF (-1) (upd S (14 + pp) (nI k))))), (0, .ref (a 0)), (1, .int (nI pp)), (4, .int (nI k))]) hC dX12_move_70 rfl (by decide) rfl ?_
            refine ev_iinc (v := (nI (k + 1))) (lv' := [(4, .int (nI (k + 1))), (2, .int longest), (3, .int best), (5, .int (nI (warF (-1) (upd S (14 + pp) (nI k))))), (0, .ref (a 0)), (1, .int (nI pp))]) hC dX12_move_71 (q := 5) rfl (nI_k _ _ 1 (by decide)) (by decide) rfl ?_
            refine ev_goto (tgt := 21) hC dX12_move_74 (by decide) ?_
            refine ev_lv [4, 5, 1, 2, 0] rfl ?_
            exact ih (k + 1) best longest B_3 T_4 R_5 K_6 rd_7 (by omega) (by first | exact bestF_t hb (by assumption) | exact bestF_f hb (by assumption)) (by omega)
          · refine ev_iload hC dX12_move_51 5 rfl ?_
            refine ev_goto (tgt := 57) hC dX12_move_53 (by decide) ?_
            refine ev_istore_n (lv' := [(3, .int (nI k)), (5, .int (nI (warF (-1) (upd S (14 + pp) (nI k))))), (0, .ref (a 0)), (1, .int (nI pp)), (2, .int longest), (4, .int (nI k))]) hC dX12_move_57 rfl (by decide) rfl ?_
            refine ev_iload hC dX12_move_58 1 rfl ?_
            refine ev_iload_n hC dX12_move_60 rfl 4 rfl ?_
            refine ev_icmp_le (tgt := 69) hC dX12_move_61 (by decide) (fun c_11 => absurd c_11 (fun q => c_9 q)) (fun c_11 => ?_)
            refine ev_iload hC dX12_move_64 1 rfl ?_
            refine ev_goto (tgt := 70) hC dX12_move_66 (by decide) ?_
            refine ev_istore_n (lv' := [(2, .int (nI (warF (-1) (upd S (14 + pp) (nI k))))), (3, .int (nI k)), (5, .int (nI (warF (-1) (upd S (14 + pp) (nI k))))), (0, .ref (a 0)), (1, .int (nI pp)), (4, .int (nI k))]) hC dX12_move_70 rfl (by decide) rfl ?_
            refine ev_iinc (v := (nI (k + 1))) (lv' := [(4, .int (nI (k + 1))), (2, .int (nI (warF (-1) (upd S (14 + pp) (nI k))))), (3, .int (nI k)), (5, .int (nI (warF (-1) (upd S (14 + pp) (nI k))))), (0, .ref (a 0)), (1, .int (nI pp))]) hC dX12_move_71 (q := 5) rfl (nI_k _ _ 1 (by decide)) (by decide) rfl ?_
            refine ev_goto (tgt := 21) hC dX12_move_74 (by decide) ?_
            refine ev_lv [4, 5, 1, 2, 0] rfl ?_
            exact ih (k + 1) (nI k) (nI (warF (-1) (upd S (14 + pp) (nI k)))) B_3 T_4 R_5 K_6 rd_7 (by omega) (by first | exact bestF_t hb (by assumption) | exact bestF_f hb (by assumption)) (by omega)
    refine ev_lv [3, 4, 2, 1, 0] rfl ?_
    exact lp_21 (6 - 0 + 1) 0 (-1) (-1) B T R K rd (by omega) rfl (Nat.lt_succ_self _)
  · refine ev_iconst (v := (-1)) hC dX12_move_8 (by decide) ?_
    refine ev_iret hC hR rfl dX12_move_9 ?_
    have e_12 : (moveR S x) = (-1) := by simp [moveR, *]
    exact ⟨_, _, _, _, _, _, (by rw [e_12]), rfl, rfl⟩

set_option maxHeartbeats 4000000 in
set_option maxRecDepth 100000 in
theorem m_X12_roofs (G : GG) (ro : va_W) (a : Nat → Nat) (S I F B T R K D : Nat → Int32) (hI ac sp en iw op mu rd ra ki nu tv : Int32)  {DD EE : Nat} (hW : WF S DD EE) (hD : DD + 100 < 2 ^ 31) (hE : EE + 168 * 100 < 2 ^ 31) : Mth G M_X12_roofs 6 0 0 [.ref (a 0)] (MW G a S I F B T R K D hI ac sp en iw op (-1) rd ra ki nu tv) ro (fun r ws' ro' => ∃ (F' : Nat → Int32), ∃ (B' : Nat → Int32), ∃ (T' : Nat → Int32), ∃ (R' : Nat → Int32), ∃ (K' : Nat → Int32), ∃ (rd' : Int32), r = some (.int (roofsR S)) ∧ ws' = (MW G a S I F' B' T' R' K' D hI ac sp en iw op (-1) rd' ra ki nu tv) ∧ ro = ro') := by
  refine mth_of (by decide +kernel) (Nat.le_of_ble_eq_true rfl) (fun X hC hR => ?_)
  have b32 := hW.peo.le
  have b33 := hW.tre.le
  have b34 := hW.seen.le
  have b35 := hW.plan.le
  have b36 := hW.book.le
  have b37 := hW.tape.le
  show Ev G X 0 0 0 [(0, .ref (a 0))] [] (MW G a S I F B T R K D hI ac sp en iw op (-1) rd ra ki nu tv) ro
  refine ev_aload_n hC dX12_roofs_0 rfl 0 rfl ?_
  refine ev_callV (As := []) (st := []) (wf := []) hC cv_X12_181 (m_X12_keeps G ro a S I F B T R K D hI ac sp en iw op (-1) rd ra ki nu tv) (by decide) rfl rfl (Nat.le_of_ble_eq_true rfl) (List.Perm.of_eq (List.append_nil _).symm) (mw 0 rfl) rfl dX12_roofs_1 (by decide) (by decide) ?_
  rintro _ _ _ ⟨rfl, rfl, rfl⟩
  refine ev_ws (List.append_nil _) ?_
  show Ev G X 0 0 4 [(0, .ref (a 0))] [] (MW G a S I (ovF F S 32) B T R K D hI ac sp en iw op (-1) rd ra ki nu tv) ro
  refine ev_aload_n hC dX12_roofs_4 rfl 0 rfl ?_
  refine ev_callV (As := []) (st := []) (wf := []) hC cv_X12_190 (m_X12_warBehind G ro a S I (ovF F S 32) B T R K D hI ac sp en iw op (-1) rd ra ki nu tv hW (by omega) (by omega)) (by decide) rfl rfl (Nat.le_of_ble_eq_true rfl) (List.Perm.of_eq (List.append_nil _).symm) (mw 0 rfl) rfl dX12_roofs_5 (by decide) (by decide) ?_
  rintro _ _ _ ⟨B_1, T_2, R_3, K_4, rd_5, rfl, rfl, rfl⟩
  refine ev_ws (List.append_nil _) ?_
  show Ev G X 0 0 8 [(0, .ref (a 0))] [.int (nI (warF (-1) S))] (MW G a (ovF S (ovF F S 32) 32) I (ovF F S 32) B_1 T_2 R_3 K_4 D hI ac sp en iw op (-1) rd_5 ra ki nu tv) ro
  have wl_6 := warF_le (-1) S
  refine ev_ws (ws' := (MW G a S I (ovF F S 32) B_1 T_2 R_3 K_4 D hI ac sp en iw op (-1) rd_5 ra ki nu tv)) (by rw [back_eq Hi.rf]) ?_
  refine ev_istore_n (lv' := [(1, .int (nI (warF (-1) S))), (0, .ref (a 0))]) hC dX12_roofs_8 rfl (by decide) rfl ?_
  refine ev_bipush (v := (-5)) hC dX12_roofs_9 (by decide) ?_
  refine ev_istore_n (lv' := [(2, .int (-5)), (1, .int (nI (warF (-1) S))), (0, .ref (a 0))]) hC dX12_roofs_11 rfl (by decide) rfl ?_
  refine ev_iconst (v := (nI 0)) hC dX12_roofs_12 (by decide) ?_
  refine ev_istore_n (lv' := [(3, .int (nI 0)), (2, .int (-5)), (1, .int (nI (warF (-1) S))), (0, .ref (a 0))]) hC dX12_roofs_13 rfl (by decide) rfl ?_
  have lp_14 : ∀ (fu_14 : Nat) (k : Nat) (best : Int32) (longest : Int32) (B' : Nat → Int32) (T' : Nat → Int32) (R' : Nat → Int32) (K' : Nat → Int32) (rd' : Int32) (hi : k ≤ 6) (hb : bestC (fun q => S (8 + q) = nI 0) (fun _ => inferInstance) (fun q => warF (-1) (upd S (8 + q) (nI 1))) (-5) (nI (warF (-1) S)) k = (best, longest)) (hn : 6 - k < fu_14), Ev G X 0 0 14 [(0, .ref (a 0)), (1, .int longest), (2, .int best), (3, .int (nI k))] [] (MW G a S I (ovF F S 32) B' T' R' K' D hI ac sp en iw op (-1) rd' ra ki nu tv) ro := by
    intro fu_14
    induction fu_14 with
    | zero => intro k best longest B' T' R' K' rd' hi hb hn; exact absurd hn (Nat.not_lt_zero _)
    | succ fu_14 ih =>
      intro k best longest B' T' R' K' rd' hi hb hn
      refine ev_iload_n hC dX12_roofs_14 rfl 3 rfl ?_
      refine ev_bipush (v := (nI 6)) hC dX12_roofs_15 (by decide) ?_
      refine ev_icmp_geN (tgt := 79) hC dX12_roofs_17 (by decide) (by omega) (by omega) (fun c_7 => ?_) (fun c_7 => ?_)
      · refine ev_iload_n hC dX12_roofs_79 rfl 2 rfl ?_
        refine ev_iret hC hR rfl dX12_roofs_80 ?_
        obtain rfl : k = 6 := by omega
        have er : roofsR S = best := by unfold roofsR; rw [hb]
        rw [er]
        exact ⟨_, _, _, _, _, _, rfl, rfl, rfl⟩
      · refine ev_aload_n hC dX12_roofs_20 rfl 0 rfl ?_
        refine ev_get hC fl_X12_9_12 (mw 0 rfl) rfl dX12_roofs_21 ?_
        refine ev_bipush (v := (nI 8)) hC dX12_roofs_24 (by decide) ?_
        refine ev_iload_n hC dX12_roofs_26 rfl 3 rfl ?_
        refine ev_iadd hC dX12_roofs_27 ?_
        refine ev_top (y := (nI (8 + k))) ((nI_add _ _).trans (congrArg nI (by omega))) ?_
        refine ev_ialdN (i := 8 + k) hC (mw 1 rfl) (by omega) (by omega) dX12_roofs_28 ?_
        refine ev_if_ne (tgt := 73) hC dX12_roofs_29 (by decide) (fun c_8 => ?_) (fun c_8 => ?_)
        · refine ev_iinc (v := (nI (k + 1))) (lv' := [(3, .int (nI (k + 1))), (0, .ref (a 0)), (1, .int longest), (2, .int best)]) hC dX12_roofs_73 (q := 3) rfl (nI_k _ _ 1 (by decide)) (by decide) rfl ?_
          refine ev_goto (tgt := 14) hC dX12_roofs_76 (by decide) ?_
          refine ev_lv [1, 2, 3, 0] rfl ?_
          exact ih (k + 1) best longest B' T' R' K' rd' (by omega) (by first | exact bestC_n hb (by assumption) | exact bestC_t hb (by assumption) (by assumption) | exact bestC_f hb (by assumption)) (by omega)
        · refine ev_aload_n hC dX12_roofs_32 rfl 0 rfl ?_
          refine ev_get hC fl_X12_9_12 (mw 0 rfl) rfl dX12_roofs_33 ?_
          refine ev_bipush (v := (nI 8)) hC dX12_roofs_36 (by decide) ?_
          refine ev_iload_n hC dX12_roofs_38 rfl 3 rfl ?_
          refine ev_iadd hC dX12_roofs_39 ?_
          refine ev_top (y := (nI (8 + k))) ((nI_add _ _).trans (congrArg nI (by omega))) ?_
          refine ev_iconst (v := (nI 1)) hC dX12_roofs_40 (by decide) ?_
          refine ev_iastN (i := 8 + k) (ws' := (MW G a (upd S (8 + k) (nI 1)) I (ovF F S 32) B' T' R' K' D hI ac sp en iw op (-1) rd' ra ki nu tv)) (q0 := 1) hC rfl (by omega) (by omega) rfl dX12_roofs_41 ?_
          refine ev_aload_n hC dX12_roofs_42 rfl 0 rfl ?_
          refine ev_callV (As := []) (st := []) (wf := []) hC cv_X12_190 (m_X12_warBehind G ro a (upd S (8 + k) (nI 1)) I (ovF F S 32) B' T' R' K' D hI ac sp en iw op (-1) rd' ra ki nu tv (hW.upd (x := 1) (by omega) (by omega) (by omega) (by omega) (by omega) (by omega) (by omega)) (by omega) (by omega)) (by decide) rfl rfl (Nat.le_of_ble_eq_true rfl) (List.Perm.of_eq (List.append_nil _).symm) (mw 0 rfl) rfl dX12_roofs_43 (by decide) (by decide) ?_
          rintro _ _ _ ⟨B_9, T_10, R_11, K_12, rd_13, rfl, rfl, rfl⟩
          refine ev_ws (List.append_nil _) ?_
          show Ev G X 0 0 46 [(0, .ref (a 0)), (1, .int longest), (2, .int best), (3, .int (nI k))] [.int (nI (warF (-1) (upd S (8 + k) (nI 1))))] (MW G a (ovF (upd S (8 + k) (nI 1)) (ovF F S 32) 32) I (ovF F S 32) B_9 T_10 R_11 K_12 D hI ac sp en iw op (-1) rd_13 ra ki nu tv) ro
          have wl_14 := warF_le (-1) (upd S (8 + k) (nI 1))
          refine ev_ws (ws' := (MW G a S I (ovF F S 32) B_9 T_10 R_11 K_12 D hI ac sp en iw op (-1) rd_13 ra ki nu tv)) (by rw [back_eq (Hi.upd Hi.rf (by omega) _)]) ?_
          refine ev_istore (lv' := [(4, .int (nI (warF (-1) (upd S (8 + k) (nI 1))))), (0, .ref (a 0)), (1, .int longest), (2, .int best), (3, .int (nI k))]) hC dX12_roofs_46 (by decide) rfl ?_
          refine ev_iload hC dX12_roofs_48 0 rfl ?_
          refine ev_iload_n hC dX12_roofs_50 rfl 2 rfl ?_
          refine ev_icmp_le (tgt := 58) hC dX12_roofs_51 (by decide) (fun c_15 => ?_) (fun c_15 => ?_)
          · refine ev_iload_n hC dX12_roofs_58 rfl 3 rfl ?_
            refine ev_istore_n (lv' := [(2, .int best), (4, .int (nI (warF (-1) (upd S (8 + k) (nI 1))))), (0, .ref (a 0)), (1, .int longest), (3, .int (nI k))]) hC dX12_roofs_59 rfl (by decide) rfl ?_
            refine ev_iload hC dX12_roofs_60 1 rfl ?_
            refine ev_iload_n hC dX12_roofs_62 rfl 3 rfl ?_
            refine ev_icmp_le (tgt := 71) hC dX12_roofs_63 (by decide) (fun c_16 => ?_) (fun c_16 => absurd c_16 (fun q => q c_15))
            refine ev_iload_n hC dX12_roofs_71 rfl 3 rfl ?_
            refine ev_istore_n (lv' := [(1, .int longest), (2, .int best), (4, .int (nI (warF (-1) (upd S (8 + k) (nI 1))))), (0, .ref (a 0)), (3, .int (nI k))]) hC dX12_roofs_72 rfl (by decide) rfl ?_
            refine ev_iinc (v := (nI (k + 1))) (lv' := [(3, .int (nI (k + 1))), (1, .int longest), (2, .int best), (4, .int (nI (warF (-1) (upd S (8 + k) (nI 1))))), (0, .ref (a 0))]) hC dX12_roofs_73 (q := 4) rfl (nI_k _ _ 1 (by decide)) (by decide) rfl ?_
            refine ev_goto (tgt := 14) hC dX12_roofs_76 (by decide) ?_
            refine ev_lv [4, 1, 2, 0] rfl ?_
            exact ih (k + 1) best longest B_9 T_10 R_11 K_12 rd_13 (by omega) (by first | exact bestC_n hb (by assumption) | exact bestC_t hb (by assumption) (by assumption) | exact bestC_f hb (by assumption)) (by omega)
          · refine ev_iload_n hC dX12_roofs_54 rfl 4 rfl ?_
            refine ev_goto (tgt := 59) hC dX12_roofs_55 (by decide) ?_
            refine ev_istore_n (lv' := [(2, .int (nI k)), (4, .int (nI (warF (-1) (upd S (8 + k) (nI 1))))), (0, .ref (a 0)), (1, .int longest), (3, .int (nI k))]) hC dX12_roofs_59 rfl (by decide) rfl ?_
            refine ev_iload hC dX12_roofs_60 1 rfl ?_
            refine ev_iload_n hC dX12_roofs_62 rfl 3 rfl ?_
            refine ev_icmp_le (tgt := 71) hC dX12_roofs_63 (by decide) (fun c_17 => absurd c_17 (fun q => c_15 q)) (fun c_17 => ?_)
            refine ev_iload hC dX12_roofs_66 1 rfl ?_
            refine ev_goto (tgt := 72) hC dX12_roofs_68 (by decide) ?_
            refine ev_istore_n (lv' := [(1, .int (nI (warF (-1) (upd S (8 + k) (nI 1))))), (2, .int (nI k)), (4, .int (nI (warF (-1) (upd S (8 + k) (nI 1))))), (0, .ref (a 0)), (3, .int (nI k))]) hC dX12_roofs_72 rfl (by decide) rfl ?_
            refine ev_iinc (v := (nI (k + 1))) (lv' := [(3, .int (nI (k + 1))), (1, .int (nI (warF (-1) (upd S (8 + k) (nI 1))))), (2, .int (nI k)), (4, .int (nI (warF (-1) (upd S (8 + k) (nI 1))))), (0, .ref (a 0))]) hC dX12_roofs_73 (q := 4) rfl (nI_k _ _ 1 (by decide)) (by decide) rfl ?_
            refine ev_goto (tgt := 14) hC dX12_roofs_76 (by decide) ?_
            refine ev_lv [4, 1, 2, 0] rfl ?_
            exact ih (k + 1) (nI k) (nI (warF (-1) (upd S (8 + k) (nI 1)))) B_9 T_10 R_11 K_12 rd_13 (by omega) (by first | exact bestC_n hb (by assumption) | exact bestC_t hb (by assumption) (by assumption) | exact bestC_f hb (by assumption)) (by omega)
  refine ev_lv [3, 2, 1, 0] rfl ?_
  exact lp_14 (6 - 0 + 1) 0 (-5) (nI (warF (-1) S)) B_1 T_2 R_3 K_4 rd_5 (by omega) rfl (Nat.lt_succ_self _)
