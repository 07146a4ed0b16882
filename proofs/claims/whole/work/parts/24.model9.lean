set_option maxHeartbeats 4000000 in
set_option maxRecDepth 100000 in
theorem m_X12_isAsSeen (G : GG) (ro : va_W) (a : Nat → Nat) (S I F B T R K D : Nat → Int32) (hI ac sp en iw op mu rd ra ki nu tv : Int32) (n : Nat) (hn31 : n < 2 ^ 31) {DD EE : Nat} (hW : WF S DD EE) : Mth G M_X12_isAsSeen 0 0 0 [.ref (a 0), .int (nI n)] (MW G a S I F B T R K D hI ac sp en iw op mu rd ra ki nu tv) ro (fun r ws' ro' => r = some (.int (bI (seenF S n (sn S 34) = true))) ∧ ws' = (MW G a S I F B T R K D hI ac sp en iw op mu rd ra ki nu tv) ∧ ro = ro') := by
  refine mth_of (by decide +kernel) (Nat.le_of_ble_eq_true rfl) (fun X hC hR => ?_)
  have b32 := hW.peo.le
  have b33 := hW.tre.le
  have b34 := hW.seen.le
  have b35 := hW.plan.le
  have b36 := hW.book.le
  have b37 := hW.tape.le
  show Ev G X 0 0 0 [(0, .ref (a 0)), (1, .int (nI n))] [] (MW G a S I F B T R K D hI ac sp en iw op mu rd ra ki nu tv) ro
  refine ev_iconst (v := (nI 1)) hC dX12_isAsSeen_0 (by decide) ?_
  refine ev_top (y := (bI (seenF S n 0 = true))) (by rfl) ?_
  refine ev_istore_n (lv' := [(2, .int (bI (seenF S n 0 = true))), (0, .ref (a 0)), (1, .int (nI n))]) hC dX12_isAsSeen_1 rfl (by decide) rfl ?_
  refine ev_iconst (v := (nI 0)) hC dX12_isAsSeen_2 (by decide) ?_
  refine ev_istore_n (lv' := [(3, .int (nI 0)), (2, .int (bI (seenF S n 0 = true))), (0, .ref (a 0)), (1, .int (nI n))]) hC dX12_isAsSeen_3 rfl (by decide) rfl ?_
  have lp_4 : ∀ (fu_4 : Nat) (k : Nat) (hk : k ≤ sn S 34) (hn : sn S 34 - k < fu_4), Ev G X 0 0 4 [(0, .ref (a 0)), (1, .int (nI n)), (2, .int (bI (seenF S n k = true))), (3, .int (nI k))] [] (MW G a S I F B T R K D hI ac sp en iw op mu rd ra ki nu tv) ro := by
    intro fu_4
    induction fu_4 with
    | zero => intro k hk hn; exact absurd hn (Nat.not_lt_zero _)
    | succ fu_4 ih =>
      intro k hk hn
      refine ev_iload_n hC dX12_isAsSeen_4 rfl 3 rfl ?_
      refine ev_aload_n hC dX12_isAsSeen_5 rfl 0 rfl ?_
      refine ev_get hC fl_X12_9_12 (mw 0 rfl) rfl dX12_isAsSeen_6 ?_
      refine ev_bipush (v := (nI 34)) hC dX12_isAsSeen_9 (by decide) ?_
      refine ev_ialdN (i := 34) hC (mw 1 rfl) (by omega) (by omega) dX12_isAsSeen_11 ?_
      have bk_1 : NB S 34 _ := hW.seen
      have k_1 := bk_1.eq
      have lk_1 := bk_1.le
      have mk_1 := bk_1.lt
      refine ev_top (y := (nI (sn S 34))) k_1 ?_
      refine ev_icmp_geN (tgt := 72) hC dX12_isAsSeen_12 (by decide) (by omega) (by omega) (fun c_2 => ?_) (fun c_2 => ?_)
      · refine ev_iload_n hC dX12_isAsSeen_72 rfl 2 rfl ?_
        refine ev_zret hC hR rfl (bI_nar _) dX12_isAsSeen_73 ?_
        obtain rfl : k = sn S 34 := by omega
        exact ⟨rfl, rfl, rfl⟩
      · refine ev_iload_n hC dX12_isAsSeen_15 rfl 2 rfl ?_
        refine ev_if_eqB (tgt := 64) hC dX12_isAsSeen_16 (by decide) (fun c_3 => ?_) (fun c_3 => ?_)
        · refine ev_iconst (v := (nI 0)) hC dX12_isAsSeen_64 (by decide) ?_
          refine ev_top (y := (bI (seenF S n (k + 1) = true))) (by first | exact (if_pos (by simp [seenF, *])).symm | exact (if_neg (by simp [seenF, *])).symm) ?_
          refine ev_istore_n (lv' := [(2, .int (bI (seenF S n (k + 1) = true))), (0, .ref (a 0)), (1, .int (nI n)), (3, .int (nI k))]) hC dX12_isAsSeen_65 rfl (by decide) rfl ?_
          refine ev_iinc (v := (nI (k + 1))) (lv' := [(3, .int (nI (k + 1))), (2, .int (bI (seenF S n (k + 1) = true))), (0, .ref (a 0)), (1, .int (nI n))]) hC dX12_isAsSeen_66 (q := 3) rfl (nI_k _ _ 1 (by decide)) (by decide) rfl ?_
          refine ev_goto (tgt := 4) hC dX12_isAsSeen_69 (by decide) ?_
          refine ev_lv [2, 3, 1, 0] rfl ?_
          exact ih (k + 1) (by omega) (by omega)
        · refine ev_aload_n hC dX12_isAsSeen_19 rfl 0 rfl ?_
          refine ev_get hC fl_X12_9_12 (mw 0 rfl) rfl dX12_isAsSeen_20 ?_
          refine ev_bipush (v := (nI 85)) hC dX12_isAsSeen_23 (by decide) ?_
          refine ev_iload_n hC dX12_isAsSeen_25 rfl 3 rfl ?_
          refine ev_iadd hC dX12_isAsSeen_26 ?_
          refine ev_top (y := (nI (85 + k))) ((nI_add _ _).trans (congrArg nI (by omega))) ?_
          refine ev_ialdN (i := 85 + k) hC (mw 1 rfl) (by omega) (by omega) dX12_isAsSeen_27 ?_
          have bk_4 : NB S (85 + k) _ := (hW.sdays k (by omega))
          have k_4 := bk_4.eq
          have lk_4 := bk_4.le
          have mk_4 := bk_4.lt
          refine ev_top (y := (nI (sn S (85 + k)))) k_4 ?_
          refine ev_iload_n hC dX12_isAsSeen_28 rfl 1 rfl ?_
          refine ev_icmp_neN (tgt := 60) hC dX12_isAsSeen_29 (by decide) (by omega) (by omega) (fun c_5 => ?_) (fun c_5 => ?_)
          · refine ev_iconst (v := (nI 1)) hC dX12_isAsSeen_60 (by decide) ?_
            refine ev_goto (tgt := 65) hC dX12_isAsSeen_61 (by decide) ?_
            refine ev_top (y := (bI (seenF S n (k + 1) = true))) (by first | exact (if_pos (by simp [seenF, *])).symm | exact (if_neg (by simp [seenF, *])).symm) ?_
            refine ev_istore_n (lv' := [(2, .int (bI (seenF S n (k + 1) = true))), (0, .ref (a 0)), (1, .int (nI n)), (3, .int (nI k))]) hC dX12_isAsSeen_65 rfl (by decide) rfl ?_
            refine ev_iinc (v := (nI (k + 1))) (lv' := [(3, .int (nI (k + 1))), (2, .int (bI (seenF S n (k + 1) = true))), (0, .ref (a 0)), (1, .int (nI n))]) hC dX12_isAsSeen_66 (q := 3) rfl (nI_k _ _ 1 (by decide)) (by decide) rfl ?_
            refine ev_goto (tgt := 4) hC dX12_isAsSeen_69 (by decide) ?_
            refine ev_lv [2, 3, 1, 0] rfl ?_
            exact ih (k + 1) (by omega) (by omega)
          · refine ev_aload_n hC dX12_isAsSeen_32 rfl 0 rfl ?_
            refine ev_get hC fl_X12_9_12 (mw 0 rfl) rfl dX12_isAsSeen_33 ?_
            refine ev_iconst (v := (nI 2)) hC dX12_isAsSeen_36 (by decide) ?_
            refine ev_aload_n hC dX12_isAsSeen_37 rfl 0 rfl ?_
            refine ev_get hC fl_X12_9_12 (mw 0 rfl) rfl dX12_isAsSeen_38 ?_
            refine ev_bipush (v := (nI 75)) hC dX12_isAsSeen_41 (by decide) ?_
            refine ev_iload_n hC dX12_isAsSeen_43 rfl 3 rfl ?_
            refine ev_iadd hC dX12_isAsSeen_44 ?_
            refine ev_top (y := (nI (75 + k))) ((nI_add _ _).trans (congrArg nI (by omega))) ?_
            refine ev_ialdN (i := 75 + k) hC (mw 1 rfl) (by omega) (by omega) dX12_isAsSeen_45 ?_
            have bk_6 : NB S (75 + k) _ := (hW.sside k (by omega))
            have k_6 := bk_6.eq
            have lk_6 := bk_6.le
            have mk_6 := bk_6.lt
            refine ev_top (y := (nI (sn S (75 + k)))) k_6 ?_
            refine ev_iadd hC dX12_isAsSeen_46 ?_
            refine ev_top (y := (nI (2 + (sn S (75 + k))))) ((nI_add _ _).trans (congrArg nI (by omega))) ?_
            refine ev_ialdN (i := 2 + (sn S (75 + k))) hC (mw 1 rfl) (by omega) (by omega) dX12_isAsSeen_47 ?_
            have bk_7 : NB S (2 + (sn S (75 + k))) _ := ((hW.salt ((sn S (75 + k))) (by omega)).congr (congrArg S (by omega)))
            have k_7 := bk_7.eq
            have lk_7 := bk_7.le
            have mk_7 := bk_7.lt
            refine ev_top (y := (nI (sn S (2 + (sn S (75 + k)))))) k_7 ?_
            refine ev_aload_n hC dX12_isAsSeen_48 rfl 0 rfl ?_
            refine ev_get hC fl_X12_9_12 (mw 0 rfl) rfl dX12_isAsSeen_49 ?_
            refine ev_bipush (v := (nI 80)) hC dX12_isAsSeen_52 (by decide) ?_
            refine ev_iload_n hC dX12_isAsSeen_54 rfl 3 rfl ?_
            refine ev_iadd hC dX12_isAsSeen_55 ?_
            refine ev_top (y := (nI (80 + k))) ((nI_add _ _).trans (congrArg nI (by omega))) ?_
            refine ev_ialdN (i := 80 + k) hC (mw 1 rfl) (by omega) (by omega) dX12_isAsSeen_56 ?_
            have bk_8 : NB S (80 + k) _ := (hW.ssalt k (by omega))
            have k_8 := bk_8.eq
            have lk_8 := bk_8.le
            have mk_8 := bk_8.lt
            refine ev_top (y := (nI (sn S (80 + k)))) k_8 ?_
            refine ev_icmp_neN (tgt := 64) hC dX12_isAsSeen_57 (by decide) (by omega) (by omega) (fun c_9 => ?_) (fun c_9 => ?_)
            · refine ev_iconst (v := (nI 0)) hC dX12_isAsSeen_64 (by decide) ?_
              refine ev_top (y := (bI (seenF S n (k + 1) = true))) (by first | exact (if_pos (by simp [seenF, *])).symm | exact (if_neg (by simp [seenF, *])).symm) ?_
              refine ev_istore_n (lv' := [(2, .int (bI (seenF S n (k + 1) = true))), (0, .ref (a 0)), (1, .int (nI n)), (3, .int (nI k))]) hC dX12_isAsSeen_65 rfl (by decide) rfl ?_
              refine ev_iinc (v := (nI (k + 1))) (lv' := [(3, .int (nI (k + 1))), (2, .int (bI (seenF S n (k + 1) = true))), (0, .ref (a 0)), (1, .int (nI n))]) hC dX12_isAsSeen_66 (q := 3) rfl (nI_k _ _ 1 (by decide)) (by decide) rfl ?_
              refine ev_goto (tgt := 4) hC dX12_isAsSeen_69 (by decide) ?_
              refine ev_lv [2, 3, 1, 0] rfl ?_
              exact ih (k + 1) (by omega) (by omega)
            · refine ev_iconst (v := (nI 1)) hC dX12_isAsSeen_60 (by decide) ?_
              refine ev_goto (tgt := 65) hC dX12_isAsSeen_61 (by decide) ?_
              refine ev_top (y := (bI (seenF S n (k + 1) = true))) (by first | exact (if_pos (by simp [seenF, *])).symm | exact (if_neg (by simp [seenF, *])).symm) ?_
              refine ev_istore_n (lv' := [(2, .int (bI (seenF S n (k + 1) = true))), (0, .ref (a 0)), (1, .int (nI n)), (3, .int (nI k))]) hC dX12_isAsSeen_65 rfl (by decide) rfl ?_
              refine ev_iinc (v := (nI (k + 1))) (lv' := [(3, .int (nI (k + 1))), (2, .int (bI (seenF S n (k + 1) = true))), (0, .ref (a 0)), (1, .int (nI n))]) hC dX12_isAsSeen_66 (q := 3) rfl (nI_k _ _ 1 (by decide)) (by decide) rfl ?_
              refine ev_goto (tgt := 4) hC dX12_isAsSeen_69 (by decide) ?_
              refine ev_lv [2, 3, 1, 0] rfl ?_
              exact ih (k + 1) (by omega) (by omega)
  refine ev_lv [2, 3, 1, 0] rfl ?_
  exact lp_4 (sn S 34 - 0 + 1) 0 (by omega) (Nat.lt_succ_self _)

set_option maxHeartbeats 4000000 in
set_option maxRecDepth 100000 in
theorem m_X12_areAsSeen (G : GG) (ro : va_W) (a : Nat → Nat) (S I F B T R K D : Nat → Int32) (hI ac sp en iw op mu rd ra ki nu tv : Int32)  {DD EE : Nat} (hW : WF S DD EE) (hD : DD + 21 < 2 ^ 31) (hE : EE + 168 * 21 < 2 ^ 31) : Mth G M_X12_areAsSeen 4 0 0 [.ref (a 0)] (MW G a S I F B T R K D hI ac sp en iw op mu rd ra ki nu tv) ro (fun r ws' ro' => ∃ (B' : Nat → Int32), ∃ (T' : Nat → Int32), ∃ (R' : Nat → Int32), ∃ (K' : Nat → Int32), ∃ (rd' : Int32), r = some (.int (bI (asSeen mu S))) ∧ ws' = (MW G a (ovF S F 32) I F B' T' R' K' D hI ac sp en iw op mu rd' ra ki nu tv) ∧ ro = ro') := by
  refine mth_of (by decide +kernel) (Nat.le_of_ble_eq_true rfl) (fun X hC hR => ?_)
  have b32 := hW.peo.le
  have b33 := hW.tre.le
  have b34 := hW.seen.le
  have b35 := hW.plan.le
  have b36 := hW.book.le
  have b37 := hW.tape.le
  show Ev G X 0 0 0 [(0, .ref (a 0))] [] (MW G a S I F B T R K D hI ac sp en iw op mu rd ra ki nu tv) ro
  refine ev_iconst (v := (nI 1)) hC dX12_areAsSeen_0 (by decide) ?_
  refine ev_top (y := (bI (allF mu S 0 = true))) (by rfl) ?_
  refine ev_istore_n (lv' := [(1, .int (bI (allF mu S 0 = true))), (0, .ref (a 0))]) hC dX12_areAsSeen_1 rfl (by decide) rfl ?_
  refine ev_iconst (v := (nI 0)) hC dX12_areAsSeen_2 (by decide) ?_
  refine ev_istore_n (lv' := [(2, .int (nI 0)), (1, .int (bI (allF mu S 0 = true))), (0, .ref (a 0))]) hC dX12_areAsSeen_3 rfl (by decide) rfl ?_
  have lp_4 : ∀ (fu_4 : Nat) (n : Nat) (B' : Nat → Int32) (T' : Nat → Int32) (R' : Nat → Int32) (K' : Nat → Int32) (rd' : Int32) (hn21 : n ≤ 21) (hn : 21 - n < fu_4), Ev G X 0 0 4 [(0, .ref (a 0)), (1, .int (bI (allF mu S n = true))), (2, .int (nI n))] [] (MW G a (gosF mu S n) I F B' T' R' K' D hI ac sp en iw op mu rd' ra ki nu tv) ro := by
    intro fu_4
    induction fu_4 with
    | zero => intro n B' T' R' K' rd' hn21 hn; exact absurd hn (Nat.not_lt_zero _)
    | succ fu_4 ih =>
      intro n B' T' R' K' rd' hn21 hn
      refine ev_iload_n hC dX12_areAsSeen_4 rfl 2 rfl ?_
      refine ev_bipush (v := (nI 20)) hC dX12_areAsSeen_5 (by decide) ?_
      refine ev_icmp_gtN (tgt := 30) hC dX12_areAsSeen_7 (by decide) (by omega) (by omega) (fun c_1 => ?_) (fun c_1 => ?_)
      · refine ev_aload_n hC dX12_areAsSeen_30 rfl 0 rfl ?_
        refine ev_callV (As := []) (st := []) (wf := []) hC cv_X12_187 (m_X12_goesBack G ro a (gosF mu S n) I F B' T' R' K' D hI ac sp en iw op mu rd' ra ki nu tv) (by decide) rfl rfl (Nat.le_of_ble_eq_true rfl) (List.Perm.of_eq (List.append_nil _).symm) (mw 0 rfl) rfl dX12_areAsSeen_31 (by decide) (by decide) ?_
        rintro _ _ _ ⟨rfl, rfl, rfl⟩
        refine ev_ws (List.append_nil _) ?_
        show Ev G X 0 0 34 [(0, .ref (a 0)), (1, .int (bI (allF mu S n = true))), (2, .int (nI n))] [] (MW G a (ovF (gosF mu S n) F 32) I F B' T' R' K' D hI ac sp en iw op mu rd' ra ki nu tv) ro
        refine ev_iload_n hC dX12_areAsSeen_34 rfl 1 rfl ?_
        refine ev_zret hC hR rfl (bI_nar _) dX12_areAsSeen_35 ?_
        have er : bI (asSeen mu S) = bI (allF mu S n = true) := by
          obtain rfl : n = 21 := by omega
          rfl
        exact ⟨_, _, _, _, _, by rw [er], by rw [ovF_hi (gosF_wf mu hW n (by omega) (by omega)).2], rfl⟩
      · refine ev_iload_n hC dX12_areAsSeen_10 rfl 1 rfl ?_
        refine ev_if_eqB (tgt := 30) hC dX12_areAsSeen_11 (by decide) (fun c_2 => ?_) (fun c_2 => ?_)
        · refine ev_aload_n hC dX12_areAsSeen_30 rfl 0 rfl ?_
          refine ev_callV (As := []) (st := []) (wf := []) hC cv_X12_187 (m_X12_goesBack G ro a (gosF mu S n) I F B' T' R' K' D hI ac sp en iw op mu rd' ra ki nu tv) (by decide) rfl rfl (Nat.le_of_ble_eq_true rfl) (List.Perm.of_eq (List.append_nil _).symm) (mw 0 rfl) rfl dX12_areAsSeen_31 (by decide) (by decide) ?_
          rintro _ _ _ ⟨rfl, rfl, rfl⟩
          refine ev_ws (List.append_nil _) ?_
          show Ev G X 0 0 34 [(0, .ref (a 0)), (1, .int (bI (allF mu S n = true))), (2, .int (nI n))] [] (MW G a (ovF (gosF mu S n) F 32) I F B' T' R' K' D hI ac sp en iw op mu rd' ra ki nu tv) ro
          refine ev_iload_n hC dX12_areAsSeen_34 rfl 1 rfl ?_
          refine ev_zret hC hR rfl (bI_nar _) dX12_areAsSeen_35 ?_
          have er : bI (asSeen mu S) = bI (allF mu S n = true) := by
            exact (if_neg (allF_f (by assumption) 21 (by omega))).trans (if_neg (by assumption)).symm
          exact ⟨_, _, _, _, _, by rw [er], by rw [ovF_hi (gosF_wf mu hW n (by omega) (by omega)).2], rfl⟩
        · refine ev_aload_n hC dX12_areAsSeen_14 rfl 0 rfl ?_
          refine ev_iload_n hC dX12_areAsSeen_15 rfl 2 rfl ?_
          refine ev_callV (As := [.int (nI n)]) (st := []) (wf := []) hC cv_X12_215 (m_X12_isAsSeen G ro a (gosF mu S n) I F B' T' R' K' D hI ac sp en iw op mu rd' ra ki nu tv n (by omega) ((gosF_wf mu hW n (by omega) (by omega)).1)) (by decide) rfl rfl (Nat.le_of_ble_eq_true rfl) (List.Perm.of_eq (List.append_nil _).symm) (mw 0 rfl) rfl dX12_areAsSeen_16 (by decide) (by decide) ?_
          rintro _ _ _ ⟨rfl, rfl, rfl⟩
          refine ev_ws (List.append_nil _) ?_
          show Ev G X 0 0 19 [(0, .ref (a 0)), (1, .int (bI (allF mu S n = true))), (2, .int (nI n))] [.int (bI (seenF (gosF mu S n) n (sn (gosF mu S n) 34) = true))] (MW G a (gosF mu S n) I F B' T' R' K' D hI ac sp en iw op mu rd' ra ki nu tv) ro
          refine ev_top (y := (bI (allF mu S (n + 1) = true))) (as_step ((gosF_wf mu hW n (by omega) (by omega)).2.sn (by omega)) (by assumption)) ?_
          refine ev_istore_n (lv' := [(1, .int (bI (allF mu S (n + 1) = true))), (0, .ref (a 0)), (2, .int (nI n))]) hC dX12_areAsSeen_19 rfl (by decide) rfl ?_
          refine ev_aload_n hC dX12_areAsSeen_20 rfl 1 rfl ?_
          refine ev_callV (As := []) (st := []) (wf := []) hC cv_X12_178 (m_X12_goes G ro a (gosF mu S n) I F B' T' R' K' D hI ac sp en iw op mu rd' ra ki nu tv ((gosF_wf mu hW n (by omega) (by omega)).1) (by omega) (by omega)) (by decide) rfl rfl (Nat.le_of_ble_eq_true rfl) (List.Perm.of_eq (List.append_nil _).symm) (mw 0 rfl) rfl dX12_areAsSeen_21 (by decide) (by decide) ?_
          rintro _ _ _ ⟨B_3, T_4, R_5, K_6, rfl, rfl, rfl, hK_7⟩
          refine ev_ws (List.append_nil _) ?_
          show Ev G X 0 0 24 [(1, .int (bI (allF mu S (n + 1) = true))), (0, .ref (a 0)), (2, .int (nI n))] [] (MW G a (goF mu (gosF mu S n)) I F B_3 T_4 R_5 K_6 D hI ac sp en iw op mu (rsF (alF mu (gosF mu S n)) rd' 6) ra ki nu tv) ro
          refine ev_iinc (v := (nI (n + 1))) (lv' := [(2, .int (nI (n + 1))), (1, .int (bI (allF mu S (n + 1) = true))), (0, .ref (a 0))]) hC dX12_areAsSeen_24 (q := 2) rfl (nI_k _ _ 1 (by decide)) (by decide) rfl ?_
          refine ev_goto (tgt := 4) hC dX12_areAsSeen_27 (by decide) ?_
          refine ev_lv [2, 1, 0] rfl ?_
          refine ev_ws (ws' := (MW G a (gosF mu S (n + 1)) I F B_3 T_4 R_5 K_6 D hI ac sp en iw op mu (rsF (alF mu (gosF mu S n)) rd' 6) ra ki nu tv)) rfl ?_
          exact ih (n + 1) B_3 T_4 R_5 K_6 (rsF (alF mu (gosF mu S n)) rd' 6) (by omega) (by omega)
  refine ev_ws (ws' := (MW G a (gosF mu S 0) I F B T R K D hI ac sp en iw op mu rd ra ki nu tv)) rfl ?_
  refine ev_lv [2, 1, 0] rfl ?_
  exact lp_4 (21 - 0 + 1) 0 B T R K rd (by omega) (Nat.lt_succ_self _)

set_option maxHeartbeats 4000000 in
set_option maxRecDepth 100000 in
theorem m_X12_who (G : GG) (ro : va_W) (a : Nat → Nat) (S I F B T R K D : Nat → Int32) (hI ac sp en iw op mu rd ra ki nu tv : Int32)  (hW : WF S 9999 9999) : Mth G M_X12_who 5 0 0 [.ref (a 0)] (MW G a S I F B T R K D hI ac sp en iw op (-1) rd ra ki nu tv) ro (fun r ws' ro' => ∃ (F' : Nat → Int32), ∃ (B' : Nat → Int32), ∃ (T' : Nat → Int32), ∃ (R' : Nat → Int32), ∃ (K' : Nat → Int32), ∃ (rd' : Int32), r = some (.int (whoF S (sn S 32))) ∧ ws' = (MW G a S I F' B' T' R' K' D hI ac sp en iw op (-1) rd' ra ki nu tv) ∧ ro = ro') := by
  refine mth_of (by decide +kernel) (Nat.le_of_ble_eq_true rfl) (fun X hC hR => ?_)
  have b32 := hW.peo.le
  have b33 := hW.tre.le
  have b34 := hW.seen.le
  have b35 := hW.plan.le
  have b36 := hW.book.le
  have b37 := hW.tape.le
  show Ev G X 0 0 0 [(0, .ref (a 0))] [] (MW G a S I F B T R K D hI ac sp en iw op (-1) rd ra ki nu tv) ro
  refine ev_aload_n hC dX12_who_0 rfl 0 rfl ?_
  refine ev_callV (As := []) (st := []) (wf := []) hC cv_X12_181 (m_X12_keeps G ro a S I F B T R K D hI ac sp en iw op (-1) rd ra ki nu tv) (by decide) rfl rfl (Nat.le_of_ble_eq_true rfl) (List.Perm.of_eq (List.append_nil _).symm) (mw 0 rfl) rfl dX12_who_1 (by decide) (by decide) ?_
  rintro _ _ _ ⟨rfl, rfl, rfl⟩
  refine ev_ws (List.append_nil _) ?_
  show Ev G X 0 0 4 [(0, .ref (a 0))] [] (MW G a S I (ovF F S 32) B T R K D hI ac sp en iw op (-1) rd ra ki nu tv) ro
  refine ev_iconst (v := (nI 0)) hC dX12_who_4 (by decide) ?_
  refine ev_istore_n (lv' := [(1, .int (nI 0)), (0, .ref (a 0))]) hC dX12_who_5 rfl (by decide) rfl ?_
  refine ev_iconst (v := (nI 0)) hC dX12_who_6 (by decide) ?_
  refine ev_istore_n (lv' := [(2, .int (nI 0)), (1, .int (nI 0)), (0, .ref (a 0))]) hC dX12_who_7 rfl (by decide) rfl ?_
  have lp_8 : ∀ (fu_8 : Nat) (p : Nat) (set : Int32) (mu1 : Int32) (B' : Nat → Int32) (T' : Nat → Int32) (R' : Nat → Int32) (K' : Nat → Int32) (rd' : Int32) (hi : p ≤ sn S 32) (hb : set = whoF S p) (hn : sn S 32 - p < fu_8), Ev G X 0 0 8 [(0, .ref (a 0)), (1, .int set), (2, .int (nI p))] [] (MW G a S I (ovF F S 32) B' T' R' K' D hI ac sp en iw op mu1 rd' ra ki nu tv) ro := by
    intro fu_8
    induction fu_8 with
    | zero => intro p set mu1 B' T' R' K' rd' hi hb hn; exact absurd hn (Nat.not_lt_zero _)
    | succ fu_8 ih =>
      intro p set mu1 B' T' R' K' rd' hi hb hn
      refine ev_iload_n hC dX12_who_8 rfl 2 rfl ?_
      refine ev_aload_n hC dX12_who_9 rfl 0 rfl ?_
      refine ev_get hC fl_X12_9_12 (mw 0 rfl) rfl dX12_who_10 ?_
      refine ev_bipush (v := (nI 32)) hC dX12_who_13 (by decide) ?_
      refine ev_ialdN (i := 32) hC (mw 1 rfl) (by omega) (by omega) dX12_who_15 ?_
      have bk_1 : NB S 32 _ := hW.peo
      have k_1 := bk_1.eq
      have lk_1 := bk_1.le
      have mk_1 := bk_1.lt
      refine ev_top (y := (nI (sn S 32))) k_1 ?_
      refine ev_icmp_geN (tgt := 47) hC dX12_who_16 (by decide) (by omega) (by omega) (fun c_2 => ?_) (fun c_2 => ?_)
      · refine ev_aload_n hC dX12_who_47 rfl 0 rfl ?_
        refine ev_iconst (v := (-1)) hC dX12_who_48 (by decide) ?_
        refine ev_put (ws' := (MW G a S I (ovF F S 32) B' T' R' K' D hI ac sp en iw op (-1) rd' ra ki nu tv)) (q0 := 0) hC fp_X12_28_12 rfl (Nat.le_of_ble_eq_true rfl) rfl rfl rfl dX12_who_49 ?_
        refine ev_iload_n hC dX12_who_52 rfl 1 rfl ?_
        refine ev_iret hC hR rfl dX12_who_53 ?_
        obtain rfl : p = sn S 32 := by omega
        exact ⟨_, _, _, _, _, _, by rw [hb], rfl, rfl⟩
      · refine ev_aload_n hC dX12_who_19 rfl 0 rfl ?_
        refine ev_iload_n hC dX12_who_20 rfl 2 rfl ?_
        refine ev_put (ws' := (MW G a S I (ovF F S 32) B' T' R' K' D hI ac sp en iw op (nI p) rd' ra ki nu tv)) (q0 := 0) hC fp_X12_28_12 rfl (Nat.le_of_ble_eq_true rfl) rfl rfl rfl dX12_who_21 ?_
        refine ev_iload_n hC dX12_who_24 rfl 1 rfl ?_
        refine ev_aload_n hC dX12_who_25 rfl 0 rfl ?_
        refine ev_callV (As := []) (st := [.int set]) (wf := []) hC cv_X12_218 (m_X12_areAsSeen G ro a S I (ovF F S 32) B' T' R' K' D hI ac sp en iw op (nI p) rd' ra ki nu tv hW (by omega) (by omega)) (by decide) rfl rfl (Nat.le_of_ble_eq_true rfl) (List.Perm.of_eq (List.append_nil _).symm) (mw 0 rfl) rfl dX12_who_26 (by decide) (by decide) ?_
        rintro _ _ _ ⟨B_3, T_4, R_5, K_6, rd_7, rfl, rfl, rfl⟩
        refine ev_ws (List.append_nil _) ?_
        show Ev G X 0 0 29 [(0, .ref (a 0)), (1, .int set), (2, .int (nI p))] [.int (bI (asSeen (nI p) S)), .int set] (MW G a (ovF S (ovF F S 32) 32) I (ovF F S 32) B_3 T_4 R_5 K_6 D hI ac sp en iw op (nI p) rd_7 ra ki nu tv) ro
        refine ev_ws (ws' := (MW G a S I (ovF F S 32) B_3 T_4 R_5 K_6 D hI ac sp en iw op (nI p) rd_7 ra ki nu tv)) (by rw [back_eq Hi.rf]) ?_
        refine ev_if_eqB (tgt := 38) hC dX12_who_29 (by decide) (fun c_8 => ?_) (fun c_8 => ?_)
        · refine ev_iconst (v := (nI 0)) hC dX12_who_38 (by decide) ?_
          refine ev_ior hC dX12_who_39 ?_
          refine ev_istore_n (lv' := [(1, .int (set ||| (nI 0))), (0, .ref (a 0)), (2, .int (nI p))]) hC dX12_who_40 rfl (by decide) rfl ?_
          refine ev_iinc (v := (nI (p + 1))) (lv' := [(2, .int (nI (p + 1))), (1, .int (set ||| (nI 0))), (0, .ref (a 0))]) hC dX12_who_41 (q := 2) rfl (nI_k _ _ 1 (by decide)) (by decide) rfl ?_
          refine ev_goto (tgt := 8) hC dX12_who_44 (by decide) ?_
          refine ev_lv [2, 1, 0] rfl ?_
          exact ih (p + 1) (set ||| (nI 0)) (nI p) B_3 T_4 R_5 K_6 rd_7 (by omega) (by first | rw [whoF, ← hb, if_pos (by assumption)] | rw [whoF, ← hb, if_neg (by assumption)]) (by omega)
        · refine ev_iconst (v := (nI 1)) hC dX12_who_32 (by decide) ?_
          refine ev_iload_n hC dX12_who_33 rfl 2 rfl ?_
          refine ev_ishl hC dX12_who_34 ?_
          refine ev_goto (tgt := 39) hC dX12_who_35 (by decide) ?_
          refine ev_ior hC dX12_who_39 ?_
          refine ev_istore_n (lv' := [(1, .int (set ||| ((nI 1) <<< ((nI p) &&& 31)))), (0, .ref (a 0)), (2, .int (nI p))]) hC dX12_who_40 rfl (by decide) rfl ?_
          refine ev_iinc (v := (nI (p + 1))) (lv' := [(2, .int (nI (p + 1))), (1, .int (set ||| ((nI 1) <<< ((nI p) &&& 31)))), (0, .ref (a 0))]) hC dX12_who_41 (q := 2) rfl (nI_k _ _ 1 (by decide)) (by decide) rfl ?_
          refine ev_goto (tgt := 8) hC dX12_who_44 (by decide) ?_
          refine ev_lv [2, 1, 0] rfl ?_
          exact ih (p + 1) (set ||| ((nI 1) <<< ((nI p) &&& 31))) (nI p) B_3 T_4 R_5 K_6 rd_7 (by omega) (by first | rw [whoF, ← hb, if_pos (by assumption)] | rw [whoF, ← hb, if_neg (by assumption)]) (by omega)
  refine ev_lv [2, 1, 0] rfl ?_
  exact lp_8 (sn S 32 - 0 + 1) 0 (nI 0) (-1) B T R K rd (by omega) rfl (Nat.lt_succ_self _)

set_option maxHeartbeats 4000000 in
set_option maxRecDepth 100000 in
theorem m_X12_where (G : GG) (ro : va_W) (a : Nat → Nat) (S I F B T R K D : Nat → Int32) (hI ac sp en iw op mu rd ra ki nu tv : Int32) (x : Int32) (hW : WF S 9999 9999) : Mth G M_X12_where 5 0 0 [.ref (a 0), .int x] (MW G a S I F B T R K D hI ac sp en iw op (-1) rd ra ki nu tv) ro (fun r ws' ro' => ∃ (F' : Nat → Int32), ∃ (B' : Nat → Int32), ∃ (T' : Nat → Int32), ∃ (R' : Nat → Int32), ∃ (K' : Nat → Int32), ∃ (rd' : Int32), r = some (.int (whereR S x)) ∧ ws' = (MW G a S I F' B' T' R' K' D hI ac sp en iw op (-1) rd' ra ki nu tv) ∧ ro = ro') := by
  refine mth_of (by decide +kernel) (Nat.le_of_ble_eq_true rfl) (fun X hC hR => ?_)
  have b32 := hW.peo.le
  have b33 := hW.tre.le
  have b34 := hW.seen.le
  have b35 := hW.plan.le
  have b36 := hW.book.le
  have b37 := hW.tape.le
  show Ev G X 0 0 0 [(0, .ref (a 0)), (1, .int x)] [] (MW G a S I F B T R K D hI ac sp en iw op (-1) rd ra ki nu tv) ro
  refine ev_aload_n hC dX12_where_0 rfl 0 rfl ?_
  refine ev_iload_n hC dX12_where_1 rfl 1 rfl ?_
  refine ev_callV (As := [.int x]) (st := []) (wf := []) hC cv_X12_147 (m_X12_isPerson G ro a S I F B T R K D hI ac sp en iw op (-1) rd ra ki nu tv x) (by decide) rfl rfl (Nat.le_of_ble_eq_true rfl) (List.Perm.of_eq (List.append_nil _).symm) (mw 0 rfl) rfl dX12_where_2 (by decide) (by decide) ?_
  rintro _ _ _ ⟨rfl, rfl, rfl⟩
  refine ev_ws (List.append_nil _) ?_
  show Ev G X 0 0 5 [(0, .ref (a 0)), (1, .int x)] [.int (bI ((nI 0) ≤ x ∧ x ≤ ((S 32) - nI 1)))] (MW G a S I F B T R K D hI ac sp en iw op (-1) rd ra ki nu tv) ro
  refine ev_if_neB (tgt := 10) hC dX12_where_5 (by decide) (fun c_1 => ?_) (fun c_1 => ?_)
  · obtain ⟨pp, hpp, rfl⟩ := isP hW (by assumption)
    have hpn_pp : pn (nI pp) = pp := nI_clamp (by omega)
    refine ev_aload_n hC dX12_where_10 rfl 0 rfl ?_
    refine ev_callV (As := []) (st := []) (wf := []) hC cv_X12_181 (m_X12_keeps G ro a S I F B T R K D hI ac sp en iw op (-1) rd ra ki nu tv) (by decide) rfl rfl (Nat.le_of_ble_eq_true rfl) (List.Perm.of_eq (List.append_nil _).symm) (mw 0 rfl) rfl dX12_where_11 (by decide) (by decide) ?_
    rintro _ _ _ ⟨rfl, rfl, rfl⟩
    refine ev_ws (List.append_nil _) ?_
    show Ev G X 0 0 14 [(0, .ref (a 0)), (1, .int (nI pp))] [] (MW G a S I (ovF F S 32) B T R K D hI ac sp en iw op (-1) rd ra ki nu tv) ro
    refine ev_iconst (v := (nI 0)) hC dX12_where_14 (by decide) ?_
    refine ev_istore_n (lv' := [(2, .int (nI 0)), (0, .ref (a 0)), (1, .int (nI pp))]) hC dX12_where_15 rfl (by decide) rfl ?_
    refine ev_iconst (v := (nI 0)) hC dX12_where_16 (by decide) ?_
    refine ev_istore_n (lv' := [(3, .int (nI 0)), (2, .int (nI 0)), (0, .ref (a 0)), (1, .int (nI pp))]) hC dX12_where_17 rfl (by decide) rfl ?_
    have lp_18 : ∀ (fu_18 : Nat) (k : Nat) (set : Int32) (B' : Nat → Int32) (T' : Nat → Int32) (R' : Nat → Int32) (K' : Nat → Int32) (rd' : Int32) (hi : k ≤ 6) (hb : set = whrF S pp k) (hn : 6 - k < fu_18), Ev G X 0 0 18 [(0, .ref (a 0)), (1, .int (nI pp)), (2, .int set), (3, .int (nI k))] [] (MW G a S I (ovF F S 32) B' T' R' K' D hI ac sp en iw op (-1) rd' ra ki nu tv) ro := by
      intro fu_18
      induction fu_18 with
      | zero => intro k set B' T' R' K' rd' hi hb hn; exact absurd hn (Nat.not_lt_zero _)
      | succ fu_18 ih =>
        intro k set B' T' R' K' rd' hi hb hn
        refine ev_iload_n hC dX12_where_18 rfl 3 rfl ?_
        refine ev_bipush (v := (nI 6)) hC dX12_where_19 (by decide) ?_
        refine ev_icmp_geN (tgt := 57) hC dX12_where_21 (by decide) (by omega) (by omega) (fun c_2 => ?_) (fun c_2 => ?_)
        · refine ev_iload_n hC dX12_where_57 rfl 2 rfl ?_
          refine ev_iret hC hR rfl dX12_where_58 ?_
          obtain rfl : k = 6 := by omega
          have er : whereR S (nI pp) = set := by rw [whereR, if_pos (by assumption), hpn_pp, hb]
          exact ⟨_, _, _, _, _, _, by rw [er], rfl, rfl⟩
        · refine ev_aload_n hC dX12_where_24 rfl 0 rfl ?_
          refine ev_get hC fl_X12_9_12 (mw 0 rfl) rfl dX12_where_25 ?_
          refine ev_bipush (v := (nI 14)) hC dX12_where_28 (by decide) ?_
          refine ev_iload_n hC dX12_where_30 rfl 1 rfl ?_
          refine ev_iadd hC dX12_where_31 ?_
          refine ev_top (y := (nI (14 + pp))) ((nI_add _ _).trans (congrArg nI (by omega))) ?_
          refine ev_iload_n hC dX12_where_32 rfl 3 rfl ?_
          refine ev_iastN (i := 14 + pp) (ws' := (MW G a (upd S (14 + pp) (nI k)) I (ovF F S 32) B' T' R' K' D hI ac sp en iw op (-1) rd' ra ki nu tv)) (q0 := 1) hC rfl (by omega) (by omega) rfl dX12_where_33 ?_
          refine ev_iload_n hC dX12_where_34 rfl 2 rfl ?_
          refine ev_aload_n hC dX12_where_35 rfl 0 rfl ?_
          refine ev_callV (As := []) (st := [.int set]) (wf := []) hC cv_X12_218 (m_X12_areAsSeen G ro a (upd S (14 + pp) (nI k)) I (ovF F S 32) B' T' R' K' D hI ac sp en iw op (-1) rd' ra ki nu tv (hW.upd (x := k) (by omega) (by omega) (by omega) (by omega) (by omega) (by omega) (by omega)) (by omega) (by omega)) (by decide) rfl rfl (Nat.le_of_ble_eq_true rfl) (List.Perm.of_eq (List.append_nil _).symm) (mw 0 rfl) rfl dX12_where_36 (by decide) (by decide) ?_
          rintro _ _ _ ⟨B_3, T_4, R_5, K_6, rd_7, rfl, rfl, rfl⟩
          refine ev_ws (List.append_nil _) ?_
          show Ev G X 0 0 39 [(0, .ref (a 0)), (1, .int (nI pp)), (2, .int set), (3, .int (nI k))] [.int (bI (asSeen (-1) (upd S (14 + pp) (nI k)))), .int set] (MW G a (ovF (upd S (14 + pp) (nI k)) (ovF F S 32) 32) I (ovF F S 32) B_3 T_4 R_5 K_6 D hI ac sp en iw op (-1) rd_7 ra ki nu tv) ro
          refine ev_ws (ws' := (MW G a S I (ovF F S 32) B_3 T_4 R_5 K_6 D hI ac sp en iw op (-1) rd_7 ra ki nu tv)) (by rw [back_eq (Hi.upd Hi.rf (by omega) _)]) ?_
          refine ev_if_eqB (tgt := 48) hC dX12_where_39 (by decide) (fun c_8 => ?_) (fun c_8 => ?_)
          · refine ev_iconst (v := (nI 0)) hC dX12_where_48 (by decide) ?_
            refine ev_ior hC dX12_where_49 ?_
            refine ev_istore_n (lv' := [(2, .int (set ||| (nI 0))), (0, .ref (a 0)), (1, .int (nI pp)), (3, .int (nI k))]) hC dX12_where_50 rfl (by decide) rfl ?_
            refine ev_iinc (v := (nI (k + 1))) (lv' := [(3, .int (nI (k + 1))), (2, .int (set ||| (nI 0))), (0, .ref (a 0)), (1, .int (nI pp))]) hC dX12_where_51 (q := 3) rfl (nI_k _ _ 1 (by decide)) (by decide) rfl ?_
            refine ev_goto (tgt := 18) hC dX12_where_54 (by decide) ?_
            refine ev_lv [2, 3, 1, 0] rfl ?_
            exact ih (k + 1) (set ||| (nI 0)) B_3 T_4 R_5 K_6 rd_7 (by omega) (by first | rw [whrF, ← hb, if_pos (by assumption)] | rw [whrF, ← hb, if_neg (by assumption)]) (by omega)
          · refine ev_iconst (v := (nI 1)) hC dX12_where_42 (by decide) ?_
            refine ev_iload_n hC dX12_where_43 rfl 3 rfl ?_
            refine ev_ishl hC dX12_where_44 ?_
            refine ev_goto (tgt := 49) hC dX12_where_45 (by decide) ?_
            refine ev_ior hC dX12_where_49 ?_
            refine ev_istore_n (lv' := [(2, .int (set ||| ((nI 1) <<< ((nI k) &&& 31)))), (0, .ref (a 0)), (1, .int (nI pp)), (3, .int (nI k))]) hC dX12_where_50 rfl (by decide) rfl ?_
            refine ev_iinc (v := (nI (k + 1))) (lv' := [(3, .int (nI (k + 1))), (2, .int (set ||| ((nI 1) <<< ((nI k) &&& 31)))), (0, .ref (a 0)), (1, .int (nI pp))]) hC dX12_where_51 (q := 3) rfl (nI_k _ _ 1 (by decide)) (by decide) rfl ?_
            refine ev_goto (tgt := 18) hC dX12_where_54 (by decide) ?_
            refine ev_lv [2, 3, 1, 0] rfl ?_
            exact ih (k + 1) (set ||| ((nI 1) <<< ((nI k) &&& 31))) B_3 T_4 R_5 K_6 rd_7 (by omega) (by first | rw [whrF, ← hb, if_pos (by assumption)] | rw [whrF, ← hb, if_neg (by assumption)]) (by omega)
    refine ev_lv [2, 3, 1, 0] rfl ?_
    exact lp_18 (6 - 0 + 1) 0 (nI 0) B T R K rd (by omega) rfl (Nat.lt_succ_self _)
  · refine ev_iconst (v := (-1)) hC dX12_where_8 (by decide) ?_
    refine ev_iret hC hR rfl dX12_where_9 ?_
    have er : whereR S x = -1 := by rw [whereR, if_neg (by assumption)]
    exact ⟨_, _, _, _, _, _, by rw [er], rfl, rfl⟩

set_option maxHeartbeats 4000000 in
set_option maxRecDepth 100000 in
theorem m_X12_firm (G : GG) (ro : va_W) (a : Nat → Nat) (S I F B T R K D : Nat → Int32) (hI ac sp en iw op mu rd ra ki nu tv : Int32) (x w : Int32) (hW : WF S 9999 9999) : Mth G M_X12_firm 5 0 0 [.ref (a 0), .int x, .int w] (MW G a S I F B T R K D hI ac sp en iw op (-1) rd ra ki nu tv) ro (fun r ws' ro' => ∃ (F' : Nat → Int32), ∃ (B' : Nat → Int32), ∃ (T' : Nat → Int32), ∃ (R' : Nat → Int32), ∃ (K' : Nat → Int32), ∃ (rd' : Int32), r = some (.int (firmR S x w)) ∧ ws' = (MW G a S I F' B' T' R' K' D hI ac sp en iw op (-1) rd' ra ki nu tv) ∧ ro = ro') := by
  refine mth_of (by decide +kernel) (Nat.le_of_ble_eq_true rfl) (fun X hC hR => ?_)
  have b32 := hW.peo.le
  have b33 := hW.tre.le
  have b34 := hW.seen.le
  have b35 := hW.plan.le
  have b36 := hW.book.le
  have b37 := hW.tape.le
  show Ev G X 0 0 0 [(0, .ref (a 0)), (1, .int x), (2, .int w)] [] (MW G a S I F B T R K D hI ac sp en iw op (-1) rd ra ki nu tv) ro
  refine ev_aload_n hC dX12_firm_0 rfl 0 rfl ?_
  refine ev_iload_n hC dX12_firm_1 rfl 1 rfl ?_
  refine ev_callV (As := [.int x]) (st := []) (wf := []) hC cv_X12_147 (m_X12_isPerson G ro a S I F B T R K D hI ac sp en iw op (-1) rd ra ki nu tv x) (by decide) rfl rfl (Nat.le_of_ble_eq_true rfl) (List.Perm.of_eq (List.append_nil _).symm) (mw 0 rfl) rfl dX12_firm_2 (by decide) (by decide) ?_
  rintro _ _ _ ⟨rfl, rfl, rfl⟩
  refine ev_ws (List.append_nil _) ?_
  show Ev G X 0 0 5 [(0, .ref (a 0)), (1, .int x), (2, .int w)] [.int (bI ((nI 0) ≤ x ∧ x ≤ ((S 32) - nI 1)))] (MW G a S I F B T R K D hI ac sp en iw op (-1) rd ra ki nu tv) ro
  refine ev_if_eqB (tgt := 17) hC dX12_firm_5 (by decide) (fun c_1 => ?_) (fun c_1 => ?_)
  · refine ev_iconst (v := (-1)) hC dX12_firm_17 (by decide) ?_
    refine ev_iret hC hR rfl dX12_firm_18 ?_
    exact ⟨_, _, _, _, _, _, by rw [show firmR S x w = -1 by rw [firmR]; exact if_neg (fun h => by first | exact absurd h.1 (by assumption) | exact absurd h.2 (by assumption))], rfl, rfl⟩
  · refine ev_iload_n hC dX12_firm_8 rfl 2 rfl ?_
    refine ev_iconst (v := (nI 0)) hC dX12_firm_9 (by decide) ?_
    refine ev_iconst (v := (nI 1)) hC dX12_firm_10 (by decide) ?_
    refine ev_callS (As := [.int w, .int (nI 0), .int (nI 1)]) (st := []) (wc := []) (wf := (MW G a S I F B T R K D hI ac sp en iw op (-1) rd ra ki nu tv)) hC ct_X12_44 (m_X12_in G ro w (nI 0) (nI 1)) (by decide) rfl rfl (Nat.le_of_ble_eq_true rfl) (List.Perm.refl _) dX12_firm_11 (by decide) (by decide) ?_
    rintro _ _ _ ⟨rfl, rfl, rfl⟩
    refine ev_ws (List.nil_append _) ?_
    show Ev G X 0 0 14 [(0, .ref (a 0)), (1, .int x), (2, .int w)] [.int (bI ((nI 0) ≤ w ∧ w ≤ (nI 1)))] (MW G a S I F B T R K D hI ac sp en iw op (-1) rd ra ki nu tv) ro
    refine ev_if_neB (tgt := 19) hC dX12_firm_14 (by decide) (fun c_2 => ?_) (fun c_2 => ?_)
    · obtain ⟨pp, hpp, rfl⟩ := isP hW (by assumption)
      have hpn_pp : pn (nI pp) = pp := nI_clamp (by omega)
      obtain ⟨wk, hwk, rfl⟩ := inN (m := 1) (by omega) (by assumption)
      rcases (show wk = 0 ∨ wk = 1 by omega) with rfl | rfl
      · refine ev_aload_n hC dX12_firm_19 rfl 0 rfl ?_
        refine ev_get hC fl_X12_9_12 (mw 0 rfl) rfl dX12_firm_20 ?_
        refine ev_bipush (v := (nI 45)) hC dX12_firm_23 (by decide) ?_
        refine ev_iload_n hC dX12_firm_25 rfl 1 rfl ?_
        refine ev_iadd hC dX12_firm_26 ?_
        refine ev_top (y := (nI (45 + pp))) ((nI_add _ _).trans (congrArg nI (by omega))) ?_
        refine ev_ialdN (i := 45 + pp) hC (mw 1 rfl) (by omega) (by omega) dX12_firm_27 ?_
        refine ev_istore_n (lv' := [(3, .int (S (45 + pp))), (0, .ref (a 0)), (1, .int (nI pp)), (2, .int (nI 0))]) hC dX12_firm_28 rfl (by decide) rfl ?_
        refine ev_iconst (v := (nI 0)) hC dX12_firm_29 (by decide) ?_
        refine ev_istore (lv' := [(4, .int (nI 0)), (3, .int (S (45 + pp))), (0, .ref (a 0)), (1, .int (nI pp)), (2, .int (nI 0))]) hC dX12_firm_30 (by decide) rfl ?_
        refine ev_bipush (v := (-5)) hC dX12_firm_32 (by decide) ?_
        refine ev_istore (lv' := [(5, .int (-5)), (4, .int (nI 0)), (3, .int (S (45 + pp))), (0, .ref (a 0)), (1, .int (nI pp)), (2, .int (nI 0))]) hC dX12_firm_34 (by decide) rfl ?_
        refine ev_aload_n hC dX12_firm_36 rfl 3 rfl ?_
        refine ev_callV (As := []) (st := []) (wf := []) hC cv_X12_181 (m_X12_keeps G ro a S I F B T R K D hI ac sp en iw op (-1) rd ra ki nu tv) (by decide) rfl rfl (Nat.le_of_ble_eq_true rfl) (List.Perm.of_eq (List.append_nil _).symm) (mw 0 rfl) rfl dX12_firm_37 (by decide) (by decide) ?_
        rintro _ _ _ ⟨rfl, rfl, rfl⟩
        refine ev_ws (List.append_nil _) ?_
        show Ev G X 0 0 40 [(5, .int (-5)), (4, .int (nI 0)), (3, .int (S (45 + pp))), (0, .ref (a 0)), (1, .int (nI pp)), (2, .int (nI 0))] [] (MW G a S I (ovF F S 32) B T R K D hI ac sp en iw op (-1) rd ra ki nu tv) ro
        refine ev_bipush (v := (nI 9)) hC dX12_firm_40 (by decide) ?_
        refine ev_top (y := (nI 9 - nI 0)) (by decide) ?_
        refine ev_istore (lv' := [(6, .int (nI 9 - nI 0)), (5, .int (-5)), (4, .int (nI 0)), (3, .int (S (45 + pp))), (0, .ref (a 0)), (1, .int (nI pp)), (2, .int (nI 0))]) hC dX12_firm_42 (by decide) rfl ?_
        have lp_44 : ∀ (fu_44 : Nat) (i : Nat) (z : Int32) (many : Int32) (first : Int32) (B' : Nat → Int32) (T' : Nat → Int32) (R' : Nat → Int32) (K' : Nat → Int32) (rd' : Int32) (hi : i ≤ 10) (hb : frmF S pp i = (many, first)) (hn : 10 - i < fu_44), Ev G X 0 0 44 [(0, .ref (a 0)), (1, .int (nI pp)), (2, .int (nI 0)), (3, .int (S (45 + pp))), (4, .int many), (5, .int first), (6, .int (nI 9 - nI i))] [] (MW G a (upd S (45 + pp) z) I (ovF F S 32) B' T' R' K' D hI ac sp en iw op (-1) rd' ra ki nu tv) ro := by
          intro fu_44
          induction fu_44 with
          | zero => intro i z many first B' T' R' K' rd' hi hb hn; exact absurd hn (Nat.not_lt_zero _)
          | succ fu_44 ih =>
            intro i z many first B' T' R' K' rd' hi hb hn
            refine ev_iload hC dX12_firm_44 6 rfl ?_
            refine ev_if_lt (tgt := 101) hC dX12_firm_46 (by decide) (fun c_3 => ?_) (fun c_3 => ?_)
            · refine ev_aload_n hC dX12_firm_101 rfl 0 rfl ?_
              refine ev_get hC fl_X12_9_12 (mw 0 rfl) rfl dX12_firm_102 ?_
              refine ev_bipush (v := (nI 45)) hC dX12_firm_105 (by decide) ?_
              refine ev_iload_n hC dX12_firm_107 rfl 1 rfl ?_
              refine ev_iadd hC dX12_firm_108 ?_
              refine ev_top (y := (nI (45 + pp))) ((nI_add _ _).trans (congrArg nI (by omega))) ?_
              refine ev_iload_n hC dX12_firm_109 rfl 3 rfl ?_
              refine ev_iastN (i := 45 + pp) (ws' := (MW G a (upd (upd S (45 + pp) z) (45 + pp) (S (45 + pp))) I (ovF F S 32) B' T' R' K' D hI ac sp en iw op (-1) rd' ra ki nu tv)) (q0 := 1) hC rfl (by omega) (by omega) rfl dX12_firm_110 ?_
              refine ev_ws (ws' := (MW G a S I (ovF F S 32) B' T' R' K' D hI ac sp en iw op (-1) rd' ra ki nu tv)) (by rw [upd_upd, upd_self]) ?_
              refine ev_iload_n hC dX12_firm_111 rfl 2 rfl ?_
              refine ev_if_neN (tgt := 120) hC dX12_firm_112 (by decide) (by omega) (fun c_4 => absurd c_4 (by omega)) (fun c_4 => ?_)
              refine ev_iload hC dX12_firm_115 4 rfl ?_
              refine ev_goto (tgt := 122) hC dX12_firm_117 (by decide) ?_
              refine ev_iret hC hR rfl dX12_firm_122 ?_
              obtain rfl : i = 10 := dn_lt hi (by assumption)
              have er : firmR S (nI pp) (nI 0) = many := by rw [firmR, if_pos ⟨by assumption, by assumption⟩, hpn_pp, if_pos rfl, hb]
              exact ⟨_, _, _, _, _, _, by rw [er], rfl, rfl⟩
            · have hi9 : i ≤ 9 := dn_ge hi (by assumption)
              have hv : nI 9 - nI i = nI (9 - i) := pk_sub hi9
              rw [hv]
              refine ev_aload_n hC dX12_firm_49 rfl 0 rfl ?_
              refine ev_get hC fl_X12_9_12 (mw 0 rfl) rfl dX12_firm_50 ?_
              refine ev_bipush (v := (nI 45)) hC dX12_firm_53 (by decide) ?_
              refine ev_iload_n hC dX12_firm_55 rfl 1 rfl ?_
              refine ev_iadd hC dX12_firm_56 ?_
              refine ev_top (y := (nI (45 + pp))) ((nI_add _ _).trans (congrArg nI (by omega))) ?_
              refine ev_iload hC dX12_firm_57 6 rfl ?_
              refine ev_iastN (i := 45 + pp) (ws' := (MW G a (upd (upd S (45 + pp) z) (45 + pp) (nI (9 - i))) I (ovF F S 32) B' T' R' K' D hI ac sp en iw op (-1) rd' ra ki nu tv)) (q0 := 1) hC rfl (by omega) (by omega) rfl dX12_firm_59 ?_
              refine ev_ws (ws' := (MW G a (upd S (45 + pp) (nI (9 - i))) I (ovF F S 32) B' T' R' K' D hI ac sp en iw op (-1) rd' ra ki nu tv)) (by rw [upd_upd]) ?_
              refine ev_aload_n hC dX12_firm_60 rfl 0 rfl ?_
              refine ev_callV (As := []) (st := []) (wf := []) hC cv_X12_218 (m_X12_areAsSeen G ro a (upd S (45 + pp) (nI (9 - i))) I (ovF F S 32) B' T' R' K' D hI ac sp en iw op (-1) rd' ra ki nu tv (updV_wf hW (by omega) (by omega)) (by omega) (by omega)) (by decide) rfl rfl (Nat.le_of_ble_eq_true rfl) (List.Perm.of_eq (List.append_nil _).symm) (mw 0 rfl) rfl dX12_firm_61 (by decide) (by decide) ?_
              rintro _ _ _ ⟨B_5, T_6, R_7, K_8, rd_9, rfl, rfl, rfl⟩
              refine ev_ws (List.append_nil _) ?_
              show Ev G X 0 0 64 [(0, .ref (a 0)), (1, .int (nI pp)), (2, .int (nI 0)), (3, .int (S (45 + pp))), (4, .int many), (5, .int first), (6, .int (nI (9 - i)))] [.int (bI (asSeen (-1) (upd S (45 + pp) (nI (9 - i)))))] (MW G a (ovF (upd S (45 + pp) (nI (9 - i))) (ovF F S 32) 32) I (ovF F S 32) B_5 T_6 R_7 K_8 D hI ac sp en iw op (-1) rd_9 ra ki nu tv) ro
              refine ev_ws (ws' := (MW G a (upd S (45 + pp) (nI (9 - i))) I (ovF F S 32) B_5 T_6 R_7 K_8 D hI ac sp en iw op (-1) rd_9 ra ki nu tv)) (by rw [back_lo (fun j hj => upd_ne _ _ (by omega))]) ?_
              refine ev_istore (lv' := [(7, .int (bI (asSeen (-1) (upd S (45 + pp) (nI (9 - i)))))), (0, .ref (a 0)), (1, .int (nI pp)), (2, .int (nI 0)), (3, .int (S (45 + pp))), (4, .int many), (5, .int first), (6, .int (nI (9 - i)))]) hC dX12_firm_64 (by decide) rfl ?_
              refine ev_iload hC dX12_firm_66 5 rfl ?_
              refine ev_iload hC dX12_firm_68 0 rfl ?_
              refine ev_if_eqB (tgt := 77) hC dX12_firm_70 (by decide) (fun c_10 => ?_) (fun c_10 => ?_)
              · refine ev_iconst (v := (nI 0)) hC dX12_firm_77 (by decide) ?_
                refine ev_iadd hC dX12_firm_78 ?_
                refine ev_istore (lv' := [(4, .int (many + (nI 0))), (7, .int (bI (asSeen (-1) (upd S (45 + pp) (nI (9 - i)))))), (0, .ref (a 0)), (1, .int (nI pp)), (2, .int (nI 0)), (3, .int (S (45 + pp))), (5, .int first), (6, .int (nI (9 - i)))]) hC dX12_firm_79 (by decide) rfl ?_
                refine ev_iload hC dX12_firm_81 1 rfl ?_
                refine ev_if_eqB (tgt := 91) hC dX12_firm_83 (by decide) (fun c_11 => ?_) (fun c_11 => absurd c_11 (fun q => c_10 q))
                refine ev_iload hC dX12_firm_91 6 rfl ?_
                refine ev_istore (lv' := [(5, .int first), (4, .int (many + (nI 0))), (7, .int (bI (asSeen (-1) (upd S (45 + pp) (nI (9 - i)))))), (0, .ref (a 0)), (1, .int (nI pp)), (2, .int (nI 0)), (3, .int (S (45 + pp))), (6, .int (nI (9 - i)))]) hC dX12_firm_93 (by decide) rfl ?_
                refine ev_iinc (v := ((nI (9 - i)) + (-1))) (lv' := [(6, .int ((nI (9 - i)) + (-1))), (5, .int first), (4, .int (many + (nI 0))), (7, .int (bI (asSeen (-1) (upd S (45 + pp) (nI (9 - i)))))), (0, .ref (a 0)), (1, .int (nI pp)), (2, .int (nI 0)), (3, .int (S (45 + pp)))]) hC dX12_firm_95 (q := 7) rfl rfl (by decide) rfl ?_
                refine ev_goto (tgt := 44) hC dX12_firm_98 (by decide) ?_
                refine ev_lv [4, 5, 6, 7, 2, 1, 0] rfl ?_
                rw [dn_s hi9]
                exact ih (i + 1) (nI (9 - i)) (many + (nI 0)) first B_5 T_6 R_7 K_8 rd_9 (by omega) (by first | rw [frmF, hb, if_pos (by assumption)] | rw [frmF, hb, if_neg (by assumption)]) (by omega)
              · refine ev_iconst (v := (nI 1)) hC dX12_firm_73 (by decide) ?_
                refine ev_goto (tgt := 78) hC dX12_firm_74 (by decide) ?_
                refine ev_iadd hC dX12_firm_78 ?_
                refine ev_istore (lv' := [(4, .int (many + (nI 1))), (7, .int (bI (asSeen (-1) (upd S (45 + pp) (nI (9 - i)))))), (0, .ref (a 0)), (1, .int (nI pp)), (2, .int (nI 0)), (3, .int (S (45 + pp))), (5, .int first), (6, .int (nI (9 - i)))]) hC dX12_firm_79 (by decide) rfl ?_
                refine ev_iload hC dX12_firm_81 1 rfl ?_
                refine ev_if_eqB (tgt := 91) hC dX12_firm_83 (by decide) (fun c_12 => absurd c_12 (fun q => q c_10)) (fun c_12 => ?_)
                refine ev_iload hC dX12_firm_86 7 rfl ?_
                refine ev_goto (tgt := 93) hC dX12_firm_88 (by decide) ?_
                refine ev_istore (lv' := [(5, .int (nI (9 - i))), (4, .int (many + (nI 1))), (7, .int (bI (asSeen (-1) (upd S (45 + pp) (nI (9 - i)))))), (0, .ref (a 0)), (1, .int (nI pp)), (2, .int (nI 0)), (3, .int (S (45 + pp))), (6, .int (nI (9 - i)))]) hC dX12_firm_93 (by decide) rfl ?_
                refine ev_iinc (v := ((nI (9 - i)) + (-1))) (lv' := [(6, .int ((nI (9 - i)) + (-1))), (5, .int (nI (9 - i))), (4, .int (many + (nI 1))), (7, .int (bI (asSeen (-1) (upd S (45 + pp) (nI (9 - i)))))), (0, .ref (a 0)), (1, .int (nI pp)), (2, .int (nI 0)), (3, .int (S (45 + pp)))]) hC dX12_firm_95 (q := 7) rfl rfl (by decide) rfl ?_
                refine ev_goto (tgt := 44) hC dX12_firm_98 (by decide) ?_
                refine ev_lv [4, 5, 6, 7, 2, 1, 0] rfl ?_
                rw [dn_s hi9]
                exact ih (i + 1) (nI (9 - i)) (many + (nI 1)) (nI (9 - i)) B_5 T_6 R_7 K_8 rd_9 (by omega) (by first | rw [frmF, hb, if_pos (by assumption)] | rw [frmF, hb, if_neg (by assumption)]) (by omega)
        refine ev_ws (ws' := (MW G a (upd S (45 + pp) (S (45 + pp))) I (ovF F S 32) B T R K D hI ac sp en iw op (-1) rd ra ki nu tv)) (by rw [upd_self]) ?_
        refine ev_lv [4, 5, 6, 3, 2, 1, 0] rfl ?_
        exact lp_44 (10 - 0 + 1) 0 (S (45 + pp)) (nI 0) (-5) B T R K rd (by omega) rfl (Nat.lt_succ_self _)
      · refine ev_aload_n hC dX12_firm_19 rfl 0 rfl ?_
        refine ev_get hC fl_X12_9_12 (mw 0 rfl) rfl dX12_firm_20 ?_
        refine ev_bipush (v := (nI 45)) hC dX12_firm_23 (by decide) ?_
        refine ev_iload_n hC dX12_firm_25 rfl 1 rfl ?_
        refine ev_iadd hC dX12_firm_26 ?_
        refine ev_top (y := (nI (45 + pp))) ((nI_add _ _).trans (congrArg nI (by omega))) ?_
        refine ev_ialdN (i := 45 + pp) hC (mw 1 rfl) (by omega) (by omega) dX12_firm_27 ?_
        refine ev_istore_n (lv' := [(3, .int (S (45 + pp))), (0, .ref (a 0)), (1, .int (nI pp)), (2, .int (nI 1))]) hC dX12_firm_28 rfl (by decide) rfl ?_
        refine ev_iconst (v := (nI 0)) hC dX12_firm_29 (by decide) ?_
        refine ev_istore (lv' := [(4, .int (nI 0)), (3, .int (S (45 + pp))), (0, .ref (a 0)), (1, .int (nI pp)), (2, .int (nI 1))]) hC dX12_firm_30 (by decide) rfl ?_
        refine ev_bipush (v := (-5)) hC dX12_firm_32 (by decide) ?_
        refine ev_istore (lv' := [(5, .int (-5)), (4, .int (nI 0)), (3, .int (S (45 + pp))), (0, .ref (a 0)), (1, .int (nI pp)), (2, .int (nI 1))]) hC dX12_firm_34 (by decide) rfl ?_
        refine ev_aload_n hC dX12_firm_36 rfl 3 rfl ?_
        refine ev_callV (As := []) (st := []) (wf := []) hC cv_X12_181 (m_X12_keeps G ro a S I F B T R K D hI ac sp en iw op (-1) rd ra ki nu tv) (by decide) rfl rfl (Nat.le_of_ble_eq_true rfl) (List.Perm.of_eq (List.append_nil _).symm) (mw 0 rfl) rfl dX12_firm_37 (by decide) (by decide) ?_
        rintro _ _ _ ⟨rfl, rfl, rfl⟩
        refine ev_ws (List.append_nil _) ?_
        show Ev G X 0 0 40 [(5, .int (-5)), (4, .int (nI 0)), (3, .int (S (45 + pp))), (0, .ref (a 0)), (1, .int (nI pp)), (2, .int (nI 1))] [] (MW G a S I (ovF F S 32) B T R K D hI ac sp en iw op (-1) rd ra ki nu tv) ro
        refine ev_bipush (v := (nI 9)) hC dX12_firm_40 (by decide) ?_
        refine ev_top (y := (nI 9 - nI 0)) (by decide) ?_
        refine ev_istore (lv' := [(6, .int (nI 9 - nI 0)), (5, .int (-5)), (4, .int (nI 0)), (3, .int (S (45 + pp))), (0, .ref (a 0)), (1, .int (nI pp)), (2, .int (nI 1))]) hC dX12_firm_42 (by decide) rfl ?_
        have lp_44 : ∀ (fu_44 : Nat) (i : Nat) (z : Int32) (many : Int32) (first : Int32) (B' : Nat → Int32) (T' : Nat → Int32) (R' : Nat → Int32) (K' : Nat → Int32) (rd' : Int32) (hi : i ≤ 10) (hb : frmF S pp i = (many, first)) (hn : 10 - i < fu_44), Ev G X 0 0 44 [(0, .ref (a 0)), (1, .int (nI pp)), (2, .int (nI 1)), (3, .int (S (45 + pp))), (4, .int many), (5, .int first), (6, .int (nI 9 - nI i))] [] (MW G a (upd S (45 + pp) z) I (ovF F S 32) B' T' R' K' D hI ac sp en iw op (-1) rd' ra ki nu tv) ro := by
          intro fu_44
          induction fu_44 with
          | zero => intro i z many first B' T' R' K' rd' hi hb hn; exact absurd hn (Nat.not_lt_zero _)
          | succ fu_44 ih =>
            intro i z many first B' T' R' K' rd' hi hb hn
            refine ev_iload hC dX12_firm_44 6 rfl ?_
            refine ev_if_lt (tgt := 101) hC dX12_firm_46 (by decide) (fun c_13 => ?_) (fun c_13 => ?_)
            · refine ev_aload_n hC dX12_firm_101 rfl 0 rfl ?_
              refine ev_get hC fl_X12_9_12 (mw 0 rfl) rfl dX12_firm_102 ?_
              refine ev_bipush (v := (nI 45)) hC dX12_firm_105 (by decide) ?_
              refine ev_iload_n hC dX12_firm_107 rfl 1 rfl ?_
              refine ev_iadd hC dX12_firm_108 ?_
              refine ev_top (y := (nI (45 + pp))) ((nI_add _ _).trans (congrArg nI (by omega))) ?_
              refine ev_iload_n hC dX12_firm_109 rfl 3 rfl ?_
              refine ev_iastN (i := 45 + pp) (ws' := (MW G a (upd (upd S (45 + pp) z) (45 + pp) (S (45 + pp))) I (ovF F S 32) B' T' R' K' D hI ac sp en iw op (-1) rd' ra ki nu tv)) (q0 := 1) hC rfl (by omega) (by omega) rfl dX12_firm_110 ?_
              refine ev_ws (ws' := (MW G a S I (ovF F S 32) B' T' R' K' D hI ac sp en iw op (-1) rd' ra ki nu tv)) (by rw [upd_upd, upd_self]) ?_
              refine ev_iload_n hC dX12_firm_111 rfl 2 rfl ?_
              refine ev_if_neN (tgt := 120) hC dX12_firm_112 (by decide) (by omega) (fun c_14 => ?_) (fun c_14 => absurd c_14 (by omega))
              refine ev_iload hC dX12_firm_120 5 rfl ?_
              refine ev_iret hC hR rfl dX12_firm_122 ?_
              obtain rfl : i = 10 := dn_lt hi (by assumption)
              have er : firmR S (nI pp) (nI 1) = first := by rw [firmR, if_pos ⟨by assumption, by assumption⟩, hpn_pp, if_neg (by decide), hb]
              exact ⟨_, _, _, _, _, _, by rw [er], rfl, rfl⟩
            · have hi9 : i ≤ 9 := dn_ge hi (by assumption)
              have hv : nI 9 - nI i = nI (9 - i) := pk_sub hi9
              rw [hv]
              refine ev_aload_n hC dX12_firm_49 rfl 0 rfl ?_
              refine ev_get hC fl_X12_9_12 (mw 0 rfl) rfl dX12_firm_50 ?_
              refine ev_bipush (v := (nI 45)) hC dX12_firm_53 (by decide) ?_
              refine ev_iload_n hC dX12_firm_55 rfl 1 rfl ?_
              refine ev_iadd hC dX12_firm_56 ?_
              refine ev_top (y := (nI (45 + pp))) ((nI_add _ _).trans (congrArg nI (by omega))) ?_
              refine ev_iload hC dX12_firm_57 6 rfl ?_
              refine ev_iastN (i := 45 + pp) (ws' := (MW G a (upd (upd S (45 + pp) z) (45 + pp) (nI (9 - i))) I (ovF F S 32) B' T' R' K' D hI ac sp en iw op (-1) rd' ra ki nu tv)) (q0 := 1) hC rfl (by omega) (by omega) rfl dX12_firm_59 ?_
              refine ev_ws (ws' := (MW G a (upd S (45 + pp) (nI (9 - i))) I (ovF F S 32) B' T' R' K' D hI ac sp en iw op (-1) rd' ra ki nu tv)) (by rw [upd_upd]) ?_
              refine ev_aload_n hC dX12_firm_60 rfl 0 rfl ?_
              refine ev_callV (As := []) (st := []) (wf := []) hC cv_X12_218 (m_X12_areAsSeen G ro a (upd S (45 + pp) (nI (9 - i))) I (ovF F S 32) B' T' R' K' D hI ac sp en iw op (-1) rd' ra ki nu tv (updV_wf hW (by omega) (by omega)) (by omega) (by omega)) (by decide) rfl rfl (Nat.le_of_ble_eq_true rfl) (List.Perm.of_eq (List.append_nil _).symm) (mw 0 rfl) rfl dX12_firm_61 (by decide) (by decide) ?_
              rintro _ _ _ ⟨B_15, T_16, R_17, K_18, rd_19, rfl, rfl, rfl⟩
              refine ev_ws (List.append_nil _) ?_
              show Ev G X 0 0 64 [(0, .ref (a 0)), (1, .int (nI pp)), (2, .int (nI 1)), (3, .int (S (45 + pp))), (4, .int many), (5, .int first), (6, .int (nI (9 - i)))] [.int (bI (asSeen (-1) (upd S (45 + pp) (nI (9 - i)))))] (MW G a (ovF (upd S (45 + pp) (nI (9 - i))) (ovF F S 32) 32) I (ovF F S 32) B_15 T_16 R_17 K_18 D hI ac sp en iw op (-1) rd_19 ra ki nu tv) ro
              refine ev_ws (ws' := (MW G a (upd S (45 + pp) (nI (9 - i))) I (ovF F S 32) B_15 T_16 R_17 K_18 D hI ac sp en iw op (-1) rd_19 ra ki nu tv)) (by rw [back_lo (fun j hj => upd_ne _ _ (by omega))]) ?_
              refine ev_istore (lv' := [(7, .int (bI (asSeen (-1) (upd S (45 + pp) (nI (9 - i)))))), (0, .ref (a 0)), (1, .int (nI pp)), (2, .int (nI 1)), (3, .int (S (45 + pp))), (4, .int many), (5, .int first), (6, .int (nI (9 - i)))]) hC dX12_firm_64 (by decide) rfl ?_
              refine ev_iload hC dX12_firm_66 5 rfl ?_
              refine ev_iload hC dX12_firm_68 0 rfl ?_
              refine ev_if_eqB (tgt := 77) hC dX12_firm_70 (by decide) (fun c_20 => ?_) (fun c_20 => ?_)
              · refine ev_iconst (v := (nI 0)) hC dX12_firm_77 (by decide) ?_
                refine ev_iadd hC dX12_firm_78 ?_
                refine ev_istore (lv' := [(4, .int (many + (nI 0))), (7, .int (bI (asSeen (-1) (upd S (45 + pp) (nI (9 - i)))))), (0, .ref (a 0)), (1, .int (nI pp)), (2, .int (nI 1)), (3, .int (S (45 + pp))), (5, .int first), (6, .int (nI (9 - i)))]) hC dX12_firm_79 (by decide) rfl ?_
                refine ev_iload hC dX12_firm_81 1 rfl ?_
                refine ev_if_eqB (tgt := 91) hC dX12_firm_83 (by decide) (fun c_21 => ?_) (fun c_21 => absurd c_21 (fun q => c_20 q))
                refine ev_iload hC dX12_firm_91 6 rfl ?_
                refine ev_istore (lv' := [(5, .int first), (4, .int (many + (nI 0))), (7, .int (bI (asSeen (-1) (upd S (45 + pp) (nI (9 - i)))))), (0, .ref (a 0)), (1, .int (nI pp)), (2, .int (nI 1)), (3, .int (S (45 + pp))), (6, .int (nI (9 - i)))]) hC dX12_firm_93 (by decide) rfl ?_
                refine ev_iinc (v := ((nI (9 - i)) + (-1))) (lv' := [(6, .int ((nI (9 - i)) + (-1))), (5, .int first), (4, .int (many + (nI 0))), (7, .int (bI (asSeen (-1) (upd S (45 + pp) (nI (9 - i)))))), (0, .ref (a 0)), (1, .int (nI pp)), (2, .int (nI 1)), (3, .int (S (45 + pp)))]) hC dX12_firm_95 (q := 7) rfl rfl (by decide) rfl ?_
                refine ev_goto (tgt := 44) hC dX12_firm_98 (by decide) ?_
                refine ev_lv [4, 5, 6, 7, 2, 1, 0] rfl ?_
                rw [dn_s hi9]
                exact ih (i + 1) (nI (9 - i)) (many + (nI 0)) first B_15 T_16 R_17 K_18 rd_19 (by omega) (by first | rw [frmF, hb, if_pos (by assumption)] | rw [frmF, hb, if_neg (by assumption)]) (by omega)
              · refine ev_iconst (v := (nI 1)) hC dX12_firm_73 (by decide) ?_
                refine ev_goto (tgt := 78) hC dX12_firm_74 (by decide) ?_
                refine ev_iadd hC dX12_firm_78 ?_
                refine ev_istore (lv' := [(4, .int (many + (nI 1))), (7, .int (bI (asSeen (-1) (upd S (45 + pp) (nI (9 - i)))))), (0, .ref (a 0)), (1, .int (nI pp)), (2, .int (nI 1)), (3, .int (S (45 + pp))), (5, .int first), (6, .int (nI (9 - i)))]) hC dX12_firm_79 (by decide) rfl ?_
                refine ev_iload hC dX12_firm_81 1 rfl ?_
                refine ev_if_eqB (tgt := 91) hC dX12_firm_83 (by decide) (fun c_22 => absurd c_22 (fun q => q c_20)) (fun c_22 => ?_)
                refine ev_iload hC dX12_firm_86 7 rfl ?_
                refine ev_goto (tgt := 93) hC dX12_firm_88 (by decide) ?_
                refine ev_istore (lv' := [(5, .int (nI (9 - i))), (4, .int (many + (nI 1))), (7, .int (bI (asSeen (-1) (upd S (45 + pp) (nI (9 - i)))))), (0, .ref (a 0)), (1, .int (nI pp)), (2, .int (nI 1)), (3, .int (S (45 + pp))), (6, .int (nI (9 - i)))]) hC dX12_firm_93 (by decide) rfl ?_
                refine ev_iinc (v := ((nI (9 - i)) + (-1))) (lv' := [(6, .int ((nI (9 - i)) + (-1))), (5, .int (nI (9 - i))), (4, .int (many + (nI 1))), (7, .int (bI (asSeen (-1) (upd S (45 + pp) (nI (9 - i)))))), (0, .ref (a 0)), (1, .int (nI pp)), (2, .int (nI 1)), (3, .int (S (45 + pp)))]) hC dX12_firm_95 (q := 7) rfl rfl (by decide) rfl ?_
                refine ev_goto (tgt := 44) hC dX12_firm_98 (by decide) ?_
                refine ev_lv [4, 5, 6, 7, 2, 1, 0] rfl ?_
                rw [dn_s hi9]
                exact ih (i + 1) (nI (9 - i)) (many + (nI 1)) (nI (9 - i)) B_15 T_16 R_17 K_18 rd_19 (by omega) (by first | rw [frmF, hb, if_pos (by assumption)] | rw [frmF, hb, if_neg (by assumption)]) (by omega)
        refine ev_ws (ws' := (MW G a (upd S (45 + pp) (S (45 + pp))) I (ovF F S 32) B T R K D hI ac sp en iw op (-1) rd ra ki nu tv)) (by rw [upd_self]) ?_
        refine ev_lv [4, 5, 6, 3, 2, 1, 0] rfl ?_
        exact lp_44 (10 - 0 + 1) 0 (S (45 + pp)) (nI 0) (-5) B T R K rd (by omega) rfl (Nat.lt_succ_self _)
    · refine ev_iconst (v := (-1)) hC dX12_firm_17 (by decide) ?_
      refine ev_iret hC hR rfl dX12_firm_18 ?_
      exact ⟨_, _, _, _, _, _, by rw [show firmR S x w = -1 by rw [firmR]; exact if_neg (fun h => by first | exact absurd h.1 (by assumption) | exact absurd h.2 (by assumption))], rfl, rfl⟩

set_option maxHeartbeats 4000000 in
set_option maxRecDepth 100000 in
theorem m_X12_does0 (G : GG) (ro : va_W) (a : Nat → Nat) (S I F B T R K D : Nat → Int32) (hI ac sp en iw op mu rd ra ki nu tv : Int32) (x : Int32) {DD EE : Nat} (hW : WF S DD EE) (hD : DD + 1 < 2 ^ 31) (hE : EE + 168 * 1 < 2 ^ 31) : Mth G M_X12_does 4 0 0 [.ref (a 0), .int (nI 0), .int x] (MW G a S I F B T R K D hI ac sp en iw op (-1) rd ra ki nu tv) ro (fun r ws' ro' => ∃ (B' : Nat → Int32), ∃ (T' : Nat → Int32), ∃ (R' : Nat → Int32), ∃ (K' : Nat → Int32), ∃ (rd' : Int32), r = none ∧ ws' = (MW G a (goF (-1) S) I F B' T' R' K' D hI ac sp en iw op (-1) rd' ra ki nu tv) ∧ ro = ro') := by
  refine mth_of (by decide +kernel) (Nat.le_of_ble_eq_true rfl) (fun X hC hR => ?_)
  have b32 := hW.peo.le
  have b33 := hW.tre.le
  have b34 := hW.seen.le
  have b35 := hW.plan.le
  have b36 := hW.book.le
  have b37 := hW.tape.le
  show Ev G X 0 0 0 [(0, .ref (a 0)), (1, .int (nI 0)), (2, .int x)] [] (MW G a S I F B T R K D hI ac sp en iw op (-1) rd ra ki nu tv) ro
  refine ev_iload_n hC dX12_does_0 rfl 1 rfl ?_
  refine ev_tabIn (off := 27) (tgt := 28) hC dX12_does_1 (by decide) (by decide) (by decide) (by decide) ?_
  refine ev_aload_n hC dX12_does_28 rfl 0 rfl ?_
  refine ev_callV (As := []) (st := []) (wf := []) hC cv_X12_178 (m_X12_goes G ro a S I F B T R K D hI ac sp en iw op (-1) rd ra ki nu tv hW (by omega) (by omega)) (by decide) rfl rfl (Nat.le_of_ble_eq_true rfl) (List.Perm.of_eq (List.append_nil _).symm) (mw 0 rfl) rfl dX12_does_29 (by decide) (by decide) ?_
  rintro _ _ _ ⟨B_1, T_2, R_3, K_4, rfl, rfl, rfl, hK_5⟩
  refine ev_ws (List.append_nil _) ?_
  show Ev G X 0 0 32 [(0, .ref (a 0)), (1, .int (nI 0)), (2, .int x)] [] (MW G a (goF (-1) S) I F B_1 T_2 R_3 K_4 D hI ac sp en iw op (-1) (rsF (alF (-1) S) rd 6) ra ki nu tv) ro
  refine ev_goto (tgt := 86) hC dX12_does_32 (by decide) ?_
  refine ev_vret hC hR rfl dX12_does_86 ?_
  exact ⟨_, _, _, _, _, rfl, rfl, rfl⟩

set_option maxHeartbeats 4000000 in
set_option maxRecDepth 100000 in
theorem m_X12_does1 (G : GG) (ro : va_W) (a : Nat → Nat) (S I F B T R K D : Nat → Int32) (hI ac sp en iw op mu rd ra ki nu tv : Int32) (j : Nat) (hj : j < 6) {DD EE : Nat} (hW : WF S DD EE) (hD : DD + 1 < 2 ^ 31) (hE : EE + 168 * 1 < 2 ^ 31) : Mth G M_X12_does 4 0 0 [.ref (a 0), .int (nI 1), .int (nI j)] (MW G a S I F B T R K D hI ac sp en iw op (-1) rd ra ki nu tv) ro (fun r ws' ro' => ∃ (B' : Nat → Int32), ∃ (T' : Nat → Int32), ∃ (R' : Nat → Int32), ∃ (K' : Nat → Int32), ∃ (rd' : Int32), r = none ∧ ws' = (MW G a (upd S (8 + j) (nI 1)) I F B' T' R' K' D hI ac sp en iw op (-1) rd' ra ki nu tv) ∧ ro = ro') := by
  refine mth_of (by decide +kernel) (Nat.le_of_ble_eq_true rfl) (fun X hC hR => ?_)
  have b32 := hW.peo.le
  have b33 := hW.tre.le
  have b34 := hW.seen.le
  have b35 := hW.plan.le
  have b36 := hW.book.le
  have b37 := hW.tape.le
  show Ev G X 0 0 0 [(0, .ref (a 0)), (1, .int (nI 1)), (2, .int (nI j))] [] (MW G a S I F B T R K D hI ac sp en iw op (-1) rd ra ki nu tv) ro
  refine ev_iload_n hC dX12_does_0 rfl 1 rfl ?_
  refine ev_tabIn (off := 34) (tgt := 35) hC dX12_does_1 (by decide) (by decide) (by decide) (by decide) ?_
  refine ev_aload_n hC dX12_does_35 rfl 0 rfl ?_
  refine ev_get hC fl_X12_9_12 (mw 0 rfl) rfl dX12_does_36 ?_
  refine ev_bipush (v := (nI 8)) hC dX12_does_39 (by decide) ?_
  refine ev_iload_n hC dX12_does_41 rfl 2 rfl ?_
  refine ev_iadd hC dX12_does_42 ?_
  refine ev_top (y := (nI (8 + j))) ((nI_add _ _).trans (congrArg nI (by omega))) ?_
  refine ev_iconst (v := (nI 1)) hC dX12_does_43 (by decide) ?_
  refine ev_iastN (i := 8 + j) (ws' := (MW G a (upd S (8 + j) (nI 1)) I F B T R K D hI ac sp en iw op (-1) rd ra ki nu tv)) (q0 := 1) hC rfl (by omega) (by omega) rfl dX12_does_44 ?_
  refine ev_goto (tgt := 86) hC dX12_does_45 (by decide) ?_
  refine ev_vret hC hR rfl dX12_does_86 ?_
  exact ⟨_, _, _, _, _, rfl, rfl, rfl⟩

set_option maxHeartbeats 4000000 in
set_option maxRecDepth 100000 in
theorem m_X12_does2 (G : GG) (ro : va_W) (a : Nat → Nat) (S I F B T R K D : Nat → Int32) (hI ac sp en iw op mu rd ra ki nu tv : Int32) (j : Nat) (hj : j < 6) {DD EE : Nat} (hW : WF S DD EE) (hD : DD + 1 < 2 ^ 31) (hE : EE + 168 * 1 < 2 ^ 31) : Mth G M_X12_does 4 0 0 [.ref (a 0), .int (nI 2), .int (nI j)] (MW G a S I F B T R K D hI ac sp en iw op (-1) rd ra ki nu tv) ro (fun r ws' ro' => ∃ (B' : Nat → Int32), ∃ (T' : Nat → Int32), ∃ (R' : Nat → Int32), ∃ (K' : Nat → Int32), ∃ (rd' : Int32), r = none ∧ ws' = (MW G a (moreF S j 20) I F B' T' R' K' D hI ac sp en iw op (-1) rd' ra ki nu tv) ∧ ro = ro') := by
  refine mth_of (by decide +kernel) (Nat.le_of_ble_eq_true rfl) (fun X hC hR => ?_)
  have b32 := hW.peo.le
  have b33 := hW.tre.le
  have b34 := hW.seen.le
  have b35 := hW.plan.le
  have b36 := hW.book.le
  have b37 := hW.tape.le
  show Ev G X 0 0 0 [(0, .ref (a 0)), (1, .int (nI 2)), (2, .int (nI j))] [] (MW G a S I F B T R K D hI ac sp en iw op (-1) rd ra ki nu tv) ro
  refine ev_iload_n hC dX12_does_0 rfl 1 rfl ?_
  refine ev_tabIn (off := 47) (tgt := 48) hC dX12_does_1 (by decide) (by decide) (by decide) (by decide) ?_
  refine ev_aload_n hC dX12_does_48 rfl 0 rfl ?_
  refine ev_get hC fl_X12_9_12 (mw 0 rfl) rfl dX12_does_49 ?_
  refine ev_iconst (v := (nI 2)) hC dX12_does_52 (by decide) ?_
  refine ev_iload_n hC dX12_does_53 rfl 2 rfl ?_
  refine ev_iadd hC dX12_does_54 ?_
  refine ev_top (y := (nI (2 + j))) ((nI_add _ _).trans (congrArg nI (by omega))) ?_
  refine ev_sipush (v := (nI 999)) hC dX12_does_55 (by decide) ?_
  refine ev_aload_n hC dX12_does_58 rfl 0 rfl ?_
  refine ev_get hC fl_X12_9_12 (mw 0 rfl) rfl dX12_does_59 ?_
  refine ev_iconst (v := (nI 2)) hC dX12_does_62 (by decide) ?_
  refine ev_iload_n hC dX12_does_63 rfl 2 rfl ?_
  refine ev_iadd hC dX12_does_64 ?_
  refine ev_top (y := (nI (2 + j))) ((nI_add _ _).trans (congrArg nI (by omega))) ?_
  refine ev_ialdN (i := 2 + j) hC (mw 1 rfl) (by omega) (by omega) dX12_does_65 ?_
  have bk_1 : NB S (2 + j) _ := (hW.salt j (by omega))
  have k_1 := bk_1.eq
  have lk_1 := bk_1.le
  have mk_1 := bk_1.lt
  refine ev_top (y := (nI (sn S (2 + j)))) k_1 ?_
  refine ev_bipush (v := (nI 20)) hC dX12_does_66 (by decide) ?_
  refine ev_iadd hC dX12_does_68 ?_
  refine ev_top (y := (nI ((sn S (2 + j)) + 20))) ((nI_add _ _).trans (congrArg nI (by omega))) ?_
  refine ev_callS (As := [.int (nI 999), .int (nI ((sn S (2 + j)) + 20))]) (st := [.int (nI (2 + j)), .ref (a 1)]) (wc := []) (wf := (MW G a S I F B T R K D hI ac sp en iw op (-1) rd ra ki nu tv)) hC ct_X12_140 (m_X12_less G ro (nI 999) (nI ((sn S (2 + j)) + 20))) (by decide) rfl rfl (Nat.le_of_ble_eq_true rfl) (List.Perm.refl _) dX12_does_69 (by decide) (by decide) ?_
  rintro _ _ _ ⟨rfl, rfl, rfl⟩
  refine ev_ws (List.nil_append _) ?_
  show Ev G X 0 0 72 [(0, .ref (a 0)), (1, .int (nI 2)), (2, .int (nI j))] [.int (leF (nI 999) (nI ((sn S (2 + j)) + 20))), .int (nI (2 + j)), .ref (a 1)] (MW G a S I F B T R K D hI ac sp en iw op (-1) rd ra ki nu tv) ro
  refine ev_top (y := (nI (min 999 (sn S (2 + j) + 20)))) (leF_le (by omega) (by omega)) ?_
  refine ev_iastN (i := 2 + j) (ws' := (MW G a (upd S (2 + j) (nI (min 999 (sn S (2 + j) + 20)))) I F B T R K D hI ac sp en iw op (-1) rd ra ki nu tv)) (q0 := 1) hC rfl (by omega) (by omega) rfl dX12_does_72 ?_
  refine ev_goto (tgt := 86) hC dX12_does_73 (by decide) ?_
  refine ev_vret hC hR rfl dX12_does_86 ?_
  exact ⟨_, _, _, _, _, rfl, rfl, rfl⟩

set_option maxHeartbeats 4000000 in
set_option maxRecDepth 100000 in
theorem m_X12_does3 (G : GG) (ro : va_W) (a : Nat → Nat) (S I F B T R K D : Nat → Int32) (hI ac sp en iw op mu rd ra ki nu tv : Int32) (j : Nat) (hj : j < 6) {DD EE : Nat} (hW : WF S DD EE) (hD : DD + 1 < 2 ^ 31) (hE : EE + 168 * 1 < 2 ^ 31) : Mth G M_X12_does 4 0 0 [.ref (a 0), .int (nI 3), .int (nI j)] (MW G a S I F B T R K D hI ac sp en iw op (-1) rd ra ki nu tv) ro (fun r ws' ro' => ∃ (B' : Nat → Int32), ∃ (T' : Nat → Int32), ∃ (R' : Nat → Int32), ∃ (K' : Nat → Int32), ∃ (rd' : Int32), r = none ∧ ws' = (MW G a (upd S (20 + j) (nI 0)) I F B' T' R' K' D hI ac sp en iw op (-1) rd' ra ki nu tv) ∧ ro = ro') := by
  refine mth_of (by decide +kernel) (Nat.le_of_ble_eq_true rfl) (fun X hC hR => ?_)
  have b32 := hW.peo.le
  have b33 := hW.tre.le
  have b34 := hW.seen.le
  have b35 := hW.plan.le
  have b36 := hW.book.le
  have b37 := hW.tape.le
  show Ev G X 0 0 0 [(0, .ref (a 0)), (1, .int (nI 3)), (2, .int (nI j))] [] (MW G a S I F B T R K D hI ac sp en iw op (-1) rd ra ki nu tv) ro
  refine ev_iload_n hC dX12_does_0 rfl 1 rfl ?_
  refine ev_tabOut (tgt := 76) hC dX12_does_1 (by decide) (by decide) ?_
  refine ev_aload_n hC dX12_does_76 rfl 0 rfl ?_
  refine ev_get hC fl_X12_9_12 (mw 0 rfl) rfl dX12_does_77 ?_
  refine ev_bipush (v := (nI 20)) hC dX12_does_80 (by decide) ?_
  refine ev_iload_n hC dX12_does_82 rfl 2 rfl ?_
  refine ev_iadd hC dX12_does_83 ?_
  refine ev_top (y := (nI (20 + j))) ((nI_add _ _).trans (congrArg nI (by omega))) ?_
  refine ev_iconst (v := (nI 0)) hC dX12_does_84 (by decide) ?_
  refine ev_iastN (i := 20 + j) (ws' := (MW G a (upd S (20 + j) (nI 0)) I F B T R K D hI ac sp en iw op (-1) rd ra ki nu tv)) (q0 := 1) hC rfl (by omega) (by omega) rfl dX12_does_85 ?_
  refine ev_vret hC hR rfl dX12_does_86 ?_
  exact ⟨_, _, _, _, _, rfl, rfl, rfl⟩

set_option maxHeartbeats 4000000 in
theorem m_X12_does (G : GG) (ro : va_W) (a : Nat → Nat) (S I F B T R K D : Nat → Int32) (hI ac sp en iw op mu rd ra ki nu tv : Int32) (w : Nat) (x : Int32) (hw : w ≤ 3) (hx : ¬ w = 0 → ∃ j, j < 6 ∧ x = nI j) {DD EE : Nat} (hW : WF S DD EE) (hD : DD + 1 < 2 ^ 31) (hE : EE + 168 * 1 < 2 ^ 31) : Mth G M_X12_does 4 0 0 [.ref (a 0), .int (nI w), .int x] (MW G a S I F B T R K D hI ac sp en iw op (-1) rd ra ki nu tv) ro (fun r ws' ro' => ∃ B' T' R' K' : Nat → Int32, ∃ rd' : Int32, r = none ∧ ws' = MW G a (doesF S (nI w) x) I F B' T' R' K' D hI ac sp en iw op (-1) rd' ra ki nu tv ∧ ro = ro') := by
  have n1 : ∀ {a b : Nat}, a < 4 → b < 4 → a ≠ b → ¬ nI a = nI b := fun ha hb hab q => hab ((nI_eq (by omega) (by omega)).mp q)
  rcases (show w = 0 ∨ w = 1 ∨ w = 2 ∨ w = 3 by omega) with rfl | rfl | rfl | rfl
  · rw [doesF, if_pos rfl]
    exact m_X12_does0 G ro a S I F B T R K D hI ac sp en iw op mu rd ra ki nu tv x hW hD hE
  · obtain ⟨j, hj, rfl⟩ := hx (by omega)
    rw [doesF, if_neg (n1 (by omega) (by omega) (by omega)), if_pos rfl, show pn (nI j) = j from nI_clamp (by omega)]
    exact m_X12_does1 G ro a S I F B T R K D hI ac sp en iw op mu rd ra ki nu tv j hj hW hD hE
  · obtain ⟨j, hj, rfl⟩ := hx (by omega)
    rw [doesF, if_neg (n1 (by omega) (by omega) (by omega)), if_neg (n1 (by omega) (by omega) (by omega)), if_pos rfl, show pn (nI j) = j from nI_clamp (by omega)]
    exact m_X12_does2 G ro a S I F B T R K D hI ac sp en iw op mu rd ra ki nu tv j hj hW hD hE
  · obtain ⟨j, hj, rfl⟩ := hx (by omega)
    rw [doesF, if_neg (n1 (by omega) (by omega) (by omega)), if_neg (n1 (by omega) (by omega) (by omega)), if_neg (n1 (by omega) (by omega) (by omega)), show pn (nI j) = j from nI_clamp (by omega)]
    exact m_X12_does3 G ro a S I F B T R K D hI ac sp en iw op mu rd ra ki nu tv j hj hW hD hE

set_option maxHeartbeats 4000000 in
set_option maxRecDepth 100000 in
theorem m_X12_done (G : GG) (ro : va_W) (a : Nat → Nat) (S I F B T R K D : Nat → Int32) (hI ac sp en iw op mu rd ra ki nu tv : Int32) (w : Int32) (hW : WF S 9999 9999) : Mth G M_X12_done 5 0 0 [.ref (a 0), .int w] (MW G a S I F B T R K D hI ac sp en iw op (-1) rd ra ki nu tv) ro (fun r ws' ro' => ∃ (F' : Nat → Int32), ∃ (B' : Nat → Int32), ∃ (T' : Nat → Int32), ∃ (R' : Nat → Int32), ∃ (K' : Nat → Int32), ∃ (rd' : Int32), r = some (.int (doneR S w)) ∧ ws' = (MW G a S I F' B' T' R' K' D hI ac sp en iw op (-1) rd' ra ki nu tv) ∧ ro = ro') := by
  refine mth_of (by decide +kernel) (Nat.le_of_ble_eq_true rfl) (fun X hC hR => ?_)
  have b32 := hW.peo.le
  have b33 := hW.tre.le
  have b34 := hW.seen.le
  have b35 := hW.plan.le
  have b36 := hW.book.le
  have b37 := hW.tape.le
  show Ev G X 0 0 0 [(0, .ref (a 0)), (1, .int w)] [] (MW G a S I F B T R K D hI ac sp en iw op (-1) rd ra ki nu tv) ro
  refine ev_iload_n hC dX12_done_0 rfl 1 rfl ?_
  refine ev_iconst (v := (nI 0)) hC dX12_done_1 (by decide) ?_
  refine ev_iconst (v := (nI 1)) hC dX12_done_2 (by decide) ?_
  refine ev_callS (As := [.int w, .int (nI 0), .int (nI 1)]) (st := []) (wc := []) (wf := (MW G a S I F B T R K D hI ac sp en iw op (-1) rd ra ki nu tv)) hC ct_X12_44 (m_X12_in G ro w (nI 0) (nI 1)) (by decide) rfl rfl (Nat.le_of_ble_eq_true rfl) (List.Perm.refl _) dX12_done_3 (by decide) (by decide) ?_
  rintro _ _ _ ⟨rfl, rfl, rfl⟩
  refine ev_ws (List.nil_append _) ?_
  show Ev G X 0 0 6 [(0, .ref (a 0)), (1, .int w)] [.int (bI ((nI 0) ≤ w ∧ w ≤ (nI 1)))] (MW G a S I F B T R K D hI ac sp en iw op (-1) rd ra ki nu tv) ro
  refine ev_if_neB (tgt := 11) hC dX12_done_6 (by decide) (fun c_1 => ?_) (fun c_1 => ?_)
  · obtain ⟨wk, hwk, rfl⟩ := inN (m := 1) (by omega) (by assumption)
    rcases (show wk = 0 ∨ wk = 1 by omega) with rfl | rfl
    · refine ev_aload_n hC dX12_done_11 rfl 0 rfl ?_
      refine ev_callV (As := []) (st := []) (wf := []) hC cv_X12_181 (m_X12_keeps G ro a S I F B T R K D hI ac sp en iw op (-1) rd ra ki nu tv) (by decide) rfl rfl (Nat.le_of_ble_eq_true rfl) (List.Perm.of_eq (List.append_nil _).symm) (mw 0 rfl) rfl dX12_done_12 (by decide) (by decide) ?_
      rintro _ _ _ ⟨rfl, rfl, rfl⟩
      refine ev_ws (List.append_nil _) ?_
      show Ev G X 0 0 15 [(0, .ref (a 0)), (1, .int (nI 0))] [] (MW G a S I (ovF F S 32) B T R K D hI ac sp en iw op (-1) rd ra ki nu tv) ro
      refine ev_iconst (v := (nI 0)) hC dX12_done_15 (by decide) ?_
      refine ev_istore_n (lv' := [(2, .int (nI 0)), (0, .ref (a 0)), (1, .int (nI 0))]) hC dX12_done_16 rfl (by decide) rfl ?_
      have lp_17 : ∀ (fu_17 : Nat) (k : Nat) (B' : Nat → Int32) (T' : Nat → Int32) (R' : Nat → Int32) (K' : Nat → Int32) (rd' : Int32) (hk : k ≤ sn S 35) (hn : sn S 35 - k < fu_17), Ev G X 0 0 17 [(0, .ref (a 0)), (1, .int (nI 0)), (2, .int (nI k))] [] (MW G a (planF S k) I (ovF F S 32) B' T' R' K' D hI ac sp en iw op (-1) rd' ra ki nu tv) ro := by
        intro fu_17
        induction fu_17 with
        | zero => intro k B' T' R' K' rd' hk hn; exact absurd hn (Nat.not_lt_zero _)
        | succ fu_17 ih =>
          intro k B' T' R' K' rd' hk hn
          have hPF := planF_wf hW k (by omega) (by omega) (by omega)
          have hp35 := (hPF.2 35 (by omega)).trans hW.plan.eq
          have hp98 := hPF.2 (98 + k) (by omega)
          refine ev_iload_n hC dX12_done_17 rfl 2 rfl ?_
          refine ev_aload_n hC dX12_done_18 rfl 0 rfl ?_
          refine ev_get hC fl_X12_9_12 (mw 0 rfl) rfl dX12_done_19 ?_
          refine ev_bipush (v := (nI 35)) hC dX12_done_22 (by decide) ?_
          refine ev_ialdN (i := 35) hC (mw 1 rfl) (by omega) (by omega) dX12_done_24 ?_
          refine ev_top (y := (nI (sn S 35))) hp35 ?_
          refine ev_icmp_geN (tgt := 56) hC dX12_done_25 (by decide) (by omega) (by omega) (fun c_2 => ?_) (fun c_2 => ?_)
          · obtain rfl : k = sn S 35 := by omega
            have hs32 : sn (planF S (sn S 35)) 32 = sn S 32 := (planF_wf hW (sn S 35) (by omega) (by omega) (by omega)).2.sn (by omega)
            refine ev_iload_n hC dX12_done_56 rfl 1 rfl ?_
            refine ev_if_neN (tgt := 68) hC dX12_done_57 (by decide) (by omega) (fun c_3 => absurd c_3 (by omega)) (fun c_3 => ?_)
            refine ev_aload_n hC dX12_done_60 rfl 0 rfl ?_
            refine ev_iconst (v := (nI 2)) hC dX12_done_61 (by decide) ?_
            refine ev_callV (As := [.int (nI 2)]) (st := []) (wf := []) hC cv_X12_159 (m_X12_sumOf G ro a (planF S (sn S 35)) I (ovF F S 32) B' T' R' K' D hI ac sp en iw op (-1) rd' ra ki nu tv 2 (by omega)) (by decide) rfl rfl (Nat.le_of_ble_eq_true rfl) (List.Perm.of_eq (List.append_nil _).symm) (mw 0 rfl) rfl dX12_done_62 (by decide) (by decide) ?_
            rintro _ _ _ ⟨rfl, rfl, rfl⟩
            refine ev_ws (List.append_nil _) ?_
            show Ev G X 0 0 65 [(0, .ref (a 0)), (1, .int (nI 0)), (2, .int (nI (sn S 35)))] [.int (sum6 (planF S (sn S 35)) 2)] (MW G a (planF S (sn S 35)) I (ovF F S 32) B' T' R' K' D hI ac sp en iw op (-1) rd' ra ki nu tv) ro
            refine ev_goto (tgt := 72) hC dX12_done_65 (by decide) ?_
            refine ev_istore_n (lv' := [(2, .int (sum6 (planF S (sn S 35)) 2)), (0, .ref (a 0)), (1, .int (nI 0))]) hC dX12_done_72 rfl (by decide) rfl ?_
            refine ev_aload_n hC dX12_done_73 rfl 1 rfl ?_
            refine ev_callV (As := []) (st := []) (wf := []) hC cv_X12_187 (m_X12_goesBack G ro a (planF S (sn S 35)) I (ovF F S 32) B' T' R' K' D hI ac sp en iw op (-1) rd' ra ki nu tv) (by decide) rfl rfl (Nat.le_of_ble_eq_true rfl) (List.Perm.of_eq (List.append_nil _).symm) (mw 0 rfl) rfl dX12_done_74 (by decide) (by decide) ?_
            rintro _ _ _ ⟨rfl, rfl, rfl⟩
            refine ev_ws (List.append_nil _) ?_
            show Ev G X 0 0 77 [(2, .int (sum6 (planF S (sn S 35)) 2)), (0, .ref (a 0)), (1, .int (nI 0))] [] (MW G a (ovF (planF S (sn S 35)) (ovF F S 32) 32) I (ovF F S 32) B' T' R' K' D hI ac sp en iw op (-1) rd' ra ki nu tv) ro
            refine ev_ws (ws' := (MW G a S I (ovF F S 32) B' T' R' K' D hI ac sp en iw op (-1) rd' ra ki nu tv)) (by rw [back_eq ((planF_wf hW (sn S 35) (by omega) (by omega) (by omega)).2)]) ?_
            refine ev_iload_n hC dX12_done_77 rfl 0 rfl ?_
            refine ev_iret hC hR rfl dX12_done_78 ?_
            have er : doneR S (nI 0) = (sum6 (planF S (sn S 35)) 2) := by rw [doneR, if_pos (by assumption), if_pos rfl]
            exact ⟨_, _, _, _, _, _, by rw [er], rfl, rfl⟩
          · have hw90 := (hW.pwhat k (by omega)).eq
            have hw3 := (hW.pwhat k (by omega)).le
            have hp90 := (hPF.2 (90 + k) (by omega)).trans hw90
            refine ev_aload_n hC dX12_done_28 rfl 0 rfl ?_
            refine ev_aload_n hC dX12_done_29 rfl 0 rfl ?_
            refine ev_get hC fl_X12_9_12 (mw 0 rfl) rfl dX12_done_30 ?_
            refine ev_bipush (v := (nI 90)) hC dX12_done_33 (by decide) ?_
            refine ev_iload_n hC dX12_done_35 rfl 2 rfl ?_
            refine ev_iadd hC dX12_done_36 ?_
            refine ev_top (y := (nI (90 + k))) ((nI_add _ _).trans (congrArg nI (by omega))) ?_
            refine ev_ialdN (i := 90 + k) hC (mw 1 rfl) (by omega) (by omega) dX12_done_37 ?_
            refine ev_top (y := (nI (sn S (90 + k)))) hp90 ?_
            refine ev_aload_n hC dX12_done_38 rfl 0 rfl ?_
            refine ev_get hC fl_X12_9_12 (mw 0 rfl) rfl dX12_done_39 ?_
            refine ev_bipush (v := (nI 98)) hC dX12_done_42 (by decide) ?_
            refine ev_iload_n hC dX12_done_44 rfl 2 rfl ?_
            refine ev_iadd hC dX12_done_45 ?_
            refine ev_top (y := (nI (98 + k))) ((nI_add _ _).trans (congrArg nI (by omega))) ?_
            refine ev_ialdN (i := 98 + k) hC (mw 1 rfl) (by omega) (by omega) dX12_done_46 ?_
            refine ev_top (y := (S (98 + k))) hp98 ?_
            refine ev_callV (As := [.int (nI (sn S (90 + k))), .int (S (98 + k))]) (st := []) (wf := []) hC cv_X12_222 (m_X12_does G ro a (planF S k) I (ovF F S 32) B' T' R' K' D hI ac sp en iw op (-1) rd' ra ki nu tv (sn S (90 + k)) (S (98 + k)) hw3 (plan_num hW (by omega)) ((planF_wf hW k (by omega) (by omega) (by omega)).1) (by omega) (by omega)) (by decide) rfl rfl (Nat.le_of_ble_eq_true rfl) (List.Perm.of_eq (List.append_nil _).symm) (mw 0 rfl) rfl dX12_done_47 (by decide) (by decide) ?_
            rintro _ _ _ ⟨B_4, T_5, R_6, K_7, rd_8, rfl, rfl, rfl⟩
            refine ev_ws (List.append_nil _) ?_
            show Ev G X 0 0 50 [(0, .ref (a 0)), (1, .int (nI 0)), (2, .int (nI k))] [] (MW G a (doesF (planF S k) (nI (sn S (90 + k))) (S (98 + k))) I (ovF F S 32) B_4 T_5 R_6 K_7 D hI ac sp en iw op (-1) rd_8 ra ki nu tv) ro
            refine ev_iinc (v := (nI (k + 1))) (lv' := [(2, .int (nI (k + 1))), (0, .ref (a 0)), (1, .int (nI 0))]) hC dX12_done_50 (q := 2) rfl (nI_k _ _ 1 (by decide)) (by decide) rfl ?_
            refine ev_goto (tgt := 17) hC dX12_done_53 (by decide) ?_
            refine ev_lv [1, 2, 0] rfl ?_
            refine ev_ws (ws' := (MW G a (planF S (k + 1)) I (ovF F S 32) B_4 T_5 R_6 K_7 D hI ac sp en iw op (-1) rd_8 ra ki nu tv)) (by rw [planF, hw90]) ?_
            exact ih (k + 1) B_4 T_5 R_6 K_7 rd_8 (by omega) (by omega)
      refine ev_ws (ws' := (MW G a (planF S 0) I (ovF F S 32) B T R K D hI ac sp en iw op (-1) rd ra ki nu tv)) rfl ?_
      refine ev_lv [1, 2, 0] rfl ?_
      exact lp_17 (sn S 35 - 0 + 1) 0 B T R K rd (by omega) (Nat.lt_succ_self _)
    · refine ev_aload_n hC dX12_done_11 rfl 0 rfl ?_
      refine ev_callV (As := []) (st := []) (wf := []) hC cv_X12_181 (m_X12_keeps G ro a S I F B T R K D hI ac sp en iw op (-1) rd ra ki nu tv) (by decide) rfl rfl (Nat.le_of_ble_eq_true rfl) (List.Perm.of_eq (List.append_nil _).symm) (mw 0 rfl) rfl dX12_done_12 (by decide) (by decide) ?_
      rintro _ _ _ ⟨rfl, rfl, rfl⟩
      refine ev_ws (List.append_nil _) ?_
      show Ev G X 0 0 15 [(0, .ref (a 0)), (1, .int (nI 1))] [] (MW G a S I (ovF F S 32) B T R K D hI ac sp en iw op (-1) rd ra ki nu tv) ro
      refine ev_iconst (v := (nI 0)) hC dX12_done_15 (by decide) ?_
      refine ev_istore_n (lv' := [(2, .int (nI 0)), (0, .ref (a 0)), (1, .int (nI 1))]) hC dX12_done_16 rfl (by decide) rfl ?_
      have lp_17 : ∀ (fu_17 : Nat) (k : Nat) (B' : Nat → Int32) (T' : Nat → Int32) (R' : Nat → Int32) (K' : Nat → Int32) (rd' : Int32) (hk : k ≤ sn S 35) (hn : sn S 35 - k < fu_17), Ev G X 0 0 17 [(0, .ref (a 0)), (1, .int (nI 1)), (2, .int (nI k))] [] (MW G a (planF S k) I (ovF F S 32) B' T' R' K' D hI ac sp en iw op (-1) rd' ra ki nu tv) ro := by
        intro fu_17
        induction fu_17 with
        | zero => intro k B' T' R' K' rd' hk hn; exact absurd hn (Nat.not_lt_zero _)
        | succ fu_17 ih =>
          intro k B' T' R' K' rd' hk hn
          have hPF := planF_wf hW k (by omega) (by omega) (by omega)
          have hp35 := (hPF.2 35 (by omega)).trans hW.plan.eq
          have hp98 := hPF.2 (98 + k) (by omega)
          refine ev_iload_n hC dX12_done_17 rfl 2 rfl ?_
          refine ev_aload_n hC dX12_done_18 rfl 0 rfl ?_
          refine ev_get hC fl_X12_9_12 (mw 0 rfl) rfl dX12_done_19 ?_
          refine ev_bipush (v := (nI 35)) hC dX12_done_22 (by decide) ?_
          refine ev_ialdN (i := 35) hC (mw 1 rfl) (by omega) (by omega) dX12_done_24 ?_
          refine ev_top (y := (nI (sn S 35))) hp35 ?_
          refine ev_icmp_geN (tgt := 56) hC dX12_done_25 (by decide) (by omega) (by omega) (fun c_9 => ?_) (fun c_9 => ?_)
          · obtain rfl : k = sn S 35 := by omega
            have hs32 : sn (planF S (sn S 35)) 32 = sn S 32 := (planF_wf hW (sn S 35) (by omega) (by omega) (by omega)).2.sn (by omega)
            refine ev_iload_n hC dX12_done_56 rfl 1 rfl ?_
            refine ev_if_neN (tgt := 68) hC dX12_done_57 (by decide) (by omega) (fun c_10 => ?_) (fun c_10 => absurd c_10 (by omega))
            refine ev_aload_n hC dX12_done_68 rfl 0 rfl ?_
            refine ev_callV (As := []) (st := []) (wf := []) hC cv_X12_162 (m_X12_grudges G ro a (planF S (sn S 35)) I (ovF F S 32) B' T' R' K' D hI ac sp en iw op (-1) rd' ra ki nu tv  ((planF_wf hW (sn S 35) (by omega) (by omega) (by omega)).1)) (by decide) rfl rfl (Nat.le_of_ble_eq_true rfl) (List.Perm.of_eq (List.append_nil _).symm) (mw 0 rfl) rfl dX12_done_69 (by decide) (by decide) ?_
            rintro _ _ _ ⟨rfl, rfl, rfl⟩
            refine ev_ws (List.append_nil _) ?_
            show Ev G X 0 0 72 [(0, .ref (a 0)), (1, .int (nI 1)), (2, .int (nI (sn S 35)))] [.int (gruF (planF S (sn S 35)) (sn (planF S (sn S 35)) 32))] (MW G a (planF S (sn S 35)) I (ovF F S 32) B' T' R' K' D hI ac sp en iw op (-1) rd' ra ki nu tv) ro
            refine ev_istore_n (lv' := [(2, .int (gruF (planF S (sn S 35)) (sn (planF S (sn S 35)) 32))), (0, .ref (a 0)), (1, .int (nI 1))]) hC dX12_done_72 rfl (by decide) rfl ?_
            refine ev_aload_n hC dX12_done_73 rfl 1 rfl ?_
            refine ev_callV (As := []) (st := []) (wf := []) hC cv_X12_187 (m_X12_goesBack G ro a (planF S (sn S 35)) I (ovF F S 32) B' T' R' K' D hI ac sp en iw op (-1) rd' ra ki nu tv) (by decide) rfl rfl (Nat.le_of_ble_eq_true rfl) (List.Perm.of_eq (List.append_nil _).symm) (mw 0 rfl) rfl dX12_done_74 (by decide) (by decide) ?_
            rintro _ _ _ ⟨rfl, rfl, rfl⟩
            refine ev_ws (List.append_nil _) ?_
            show Ev G X 0 0 77 [(2, .int (gruF (planF S (sn S 35)) (sn (planF S (sn S 35)) 32))), (0, .ref (a 0)), (1, .int (nI 1))] [] (MW G a (ovF (planF S (sn S 35)) (ovF F S 32) 32) I (ovF F S 32) B' T' R' K' D hI ac sp en iw op (-1) rd' ra ki nu tv) ro
            refine ev_ws (ws' := (MW G a S I (ovF F S 32) B' T' R' K' D hI ac sp en iw op (-1) rd' ra ki nu tv)) (by rw [back_eq ((planF_wf hW (sn S 35) (by omega) (by omega) (by omega)).2)]) ?_
            refine ev_iload_n hC dX12_done_77 rfl 0 rfl ?_
            refine ev_iret hC hR rfl dX12_done_78 ?_
            have er : doneR S (nI 1) = (gruF (planF S (sn S 35)) (sn (planF S (sn S 35)) 32)) := by rw [doneR, if_pos (by assumption), if_neg (by decide), hs32]
            exact ⟨_, _, _, _, _, _, by rw [er], rfl, rfl⟩
          · have hw90 := (hW.pwhat k (by omega)).eq
            have hw3 := (hW.pwhat k (by omega)).le
            have hp90 := (hPF.2 (90 + k) (by omega)).trans hw90
            refine ev_aload_n hC dX12_done_28 rfl 0 rfl ?_
            refine ev_aload_n hC dX12_done_29 rfl 0 rfl ?_
            refine ev_get hC fl_X12_9_12 (mw 0 rfl) rfl dX12_done_30 ?_
            refine ev_bipush (v := (nI 90)) hC dX12_done_33 (by decide) ?_
            refine ev_iload_n hC dX12_done_35 rfl 2 rfl ?_
            refine ev_iadd hC dX12_done_36 ?_
            refine ev_top (y := (nI (90 + k))) ((nI_add _ _).trans (congrArg nI (by omega))) ?_
            refine ev_ialdN (i := 90 + k) hC (mw 1 rfl) (by omega) (by omega) dX12_done_37 ?_
            refine ev_top (y := (nI (sn S (90 + k)))) hp90 ?_
            refine ev_aload_n hC dX12_done_38 rfl 0 rfl ?_
            refine ev_get hC fl_X12_9_12 (mw 0 rfl) rfl dX12_done_39 ?_
            refine ev_bipush (v := (nI 98)) hC dX12_done_42 (by decide) ?_
            refine ev_iload_n hC dX12_done_44 rfl 2 rfl ?_
            refine ev_iadd hC dX12_done_45 ?_
            refine ev_top (y := (nI (98 + k))) ((nI_add _ _).trans (congrArg nI (by omega))) ?_
            refine ev_ialdN (i := 98 + k) hC (mw 1 rfl) (by omega) (by omega) dX12_done_46 ?_
            refine ev_top (y := (S (98 + k))) hp98 ?_
            refine ev_callV (As := [.int (nI (sn S (90 + k))), .int (S (98 + k))]) (st := []) (wf := []) hC cv_X12_222 (m_X12_does G ro a (planF S k) I (ovF F S 32) B' T' R' K' D hI ac sp en iw op (-1) rd' ra ki nu tv (sn S (90 + k)) (S (98 + k)) hw3 (plan_num hW (by omega)) ((planF_wf hW k (by omega) (by omega) (by omega)).1) (by omega) (by omega)) (by decide) rfl rfl (Nat.le_of_ble_eq_true rfl) (List.Perm.of_eq (List.append_nil _).symm) (mw 0 rfl) rfl dX12_done_47 (by decide) (by decide) ?_
            rintro _ _ _ ⟨B_11, T_12, R_13, K_14, rd_15, rfl, rfl, rfl⟩
            refine ev_ws (List.append_nil _) ?_
            show Ev G X 0 0 50 [(0, .ref (a 0)), (1, .int (nI 1)), (2, .int (nI k))] [] (MW G a (doesF (planF S k) (nI (sn S (90 + k))) (S (98 + k))) I (ovF F S 32) B_11 T_12 R_13 K_14 D hI ac sp en iw op (-1) rd_15 ra ki nu tv) ro
            refine ev_iinc (v := (nI (k + 1))) (lv' := [(2, .int (nI (k + 1))), (0, .ref (a 0)), (1, .int (nI 1))]) hC dX12_done_50 (q := 2) rfl (nI_k _ _ 1 (by decide)) (by decide) rfl ?_
            refine ev_goto (tgt := 17) hC dX12_done_53 (by decide) ?_
            refine ev_lv [1, 2, 0] rfl ?_
            refine ev_ws (ws' := (MW G a (planF S (k + 1)) I (ovF F S 32) B_11 T_12 R_13 K_14 D hI ac sp en iw op (-1) rd_15 ra ki nu tv)) (by rw [planF, hw90]) ?_
            exact ih (k + 1) B_11 T_12 R_13 K_14 rd_15 (by omega) (by omega)
      refine ev_ws (ws' := (MW G a (planF S 0) I (ovF F S 32) B T R K D hI ac sp en iw op (-1) rd ra ki nu tv)) rfl ?_
      refine ev_lv [1, 2, 0] rfl ?_
      exact lp_17 (sn S 35 - 0 + 1) 0 B T R K rd (by omega) (Nat.lt_succ_self _)
  · refine ev_iconst (v := (-1)) hC dX12_done_9 (by decide) ?_
    refine ev_iret hC hR rfl dX12_done_10 ?_
    have er : doneR S w = -1 := by rw [doneR, if_neg (by assumption)]
    exact ⟨_, _, _, _, _, _, by rw [er], rfl, rfl⟩
