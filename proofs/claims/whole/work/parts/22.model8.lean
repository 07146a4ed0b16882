set_option maxHeartbeats 4000000 in
set_option maxRecDepth 100000 in
theorem m_X12_sizeOf (G : GG) (ro : va_W) (x : Nat) (hx : x < 2 ^ 31) : Mth G M_X12_sizeOf 0 0 0 [.int (nI x)] [] ro (fun r ws' ro' => r = some (.int (nI (szF x 6))) ∧ ws' = [] ∧ ro = ro') := by
  refine mth_of (by decide +kernel) (Nat.le_of_ble_eq_true rfl) (fun X hC hR => ?_)
  show Ev G X 0 0 0 [(0, .int (nI x))] [] [] ro
  refine ev_iconst (v := (nI 0)) hC dX12_sizeOf_0 (by decide) ?_
  refine ev_istore_n (lv' := [(1, .int (nI 0)), (0, .int (nI x))]) hC dX12_sizeOf_1 rfl (by decide) rfl ?_
  refine ev_iconst (v := (nI 0)) hC dX12_sizeOf_2 (by decide) ?_
  refine ev_istore_n (lv' := [(2, .int (nI 0)), (1, .int (nI 0)), (0, .int (nI x))]) hC dX12_sizeOf_3 rfl (by decide) rfl ?_
  have lp_4 : ∀ (fu_4 : Nat) (k : Nat) (hk : k ≤ 6) (hn : 6 - k < fu_4), Ev G X 0 0 4 [(0, .int (nI x)), (1, .int (nI (szF x k))), (2, .int (nI k))] [] [] ro := by
    intro fu_4
    induction fu_4 with
    | zero => intro k hk hn; exact absurd hn (Nat.not_lt_zero _)
    | succ fu_4 ih =>
      intro k hk hn
      refine ev_iload_n hC dX12_sizeOf_4 rfl 2 rfl ?_
      refine ev_bipush (v := (nI 6)) hC dX12_sizeOf_5 (by decide) ?_
      refine ev_icmp_geN (tgt := 24) hC dX12_sizeOf_7 (by decide) (by omega) (by omega) (fun c_1 => ?_) (fun c_1 => ?_)
      · refine ev_iload_n hC dX12_sizeOf_24 rfl 1 rfl ?_
        refine ev_iret hC hR rfl dX12_sizeOf_25 ?_
        obtain rfl : k = 6 := by omega
        exact ⟨rfl, rfl, rfl⟩
      · refine ev_iload_n hC dX12_sizeOf_10 rfl 1 rfl ?_
        refine ev_iload_n hC dX12_sizeOf_11 rfl 0 rfl ?_
        refine ev_iload_n hC dX12_sizeOf_12 rfl 2 rfl ?_
        refine ev_ishr hC dX12_sizeOf_13 ?_
        refine ev_iconst (v := (nI 1)) hC dX12_sizeOf_14 (by decide) ?_
        refine ev_iand hC dX12_sizeOf_15 ?_
        refine ev_top (y := (nI (x / 2 ^ k % 2))) (bit_at hx (by omega)) ?_
        refine ev_iadd hC dX12_sizeOf_16 ?_
        refine ev_top (y := (nI (szF x k + (x / 2 ^ k % 2)))) ((nI_add _ _).trans (congrArg nI (by omega))) ?_
        refine ev_istore_n (lv' := [(1, .int (nI (szF x k + (x / 2 ^ k % 2)))), (0, .int (nI x)), (2, .int (nI k))]) hC dX12_sizeOf_17 rfl (by decide) rfl ?_
        refine ev_iinc (v := (nI (k + 1))) (lv' := [(2, .int (nI (k + 1))), (1, .int (nI (szF x k + (x / 2 ^ k % 2)))), (0, .int (nI x))]) hC dX12_sizeOf_18 (q := 2) rfl (nI_k _ _ 1 (by decide)) (by decide) rfl ?_
        refine ev_goto (tgt := 4) hC dX12_sizeOf_21 (by decide) ?_
        refine ev_lv [2, 1, 0] rfl ?_
        exact ih (k + 1) (by omega) (by omega)
  refine ev_lv [2, 1, 0] rfl ?_
  exact lp_4 (6 - 0 + 1) 0 (by omega) (Nat.lt_succ_self _)

set_option maxHeartbeats 4000000 in
set_option maxRecDepth 100000 in
theorem m_X12_takenAt (G : GG) (ro : va_W) (a : Nat → Nat) (S I F B T R K D : Nat → Int32) (hI ac sp en iw op mu rd ra ki nu tv : Int32) (x : Nat) (hx : x < 2 ^ 31) : Mth G M_X12_takenAt 0 0 0 [.ref (a 0), .int (nI x)] (MW G a S I F B T R K D hI ac sp en iw op mu rd ra ki nu tv) ro (fun r ws' ro' => r = some (.int (atF K x 6)) ∧ ws' = (MW G a S I F B T R K D hI ac sp en iw op mu rd ra ki nu tv) ∧ ro = ro') := by
  refine mth_of (by decide +kernel) (Nat.le_of_ble_eq_true rfl) (fun X hC hR => ?_)
  show Ev G X 0 0 0 [(0, .ref (a 0)), (1, .int (nI x))] [] (MW G a S I F B T R K D hI ac sp en iw op mu rd ra ki nu tv) ro
  refine ev_iconst (v := (nI 0)) hC dX12_takenAt_0 (by decide) ?_
  refine ev_istore_n (lv' := [(2, .int (nI 0)), (0, .ref (a 0)), (1, .int (nI x))]) hC dX12_takenAt_1 rfl (by decide) rfl ?_
  refine ev_iconst (v := (nI 0)) hC dX12_takenAt_2 (by decide) ?_
  refine ev_istore_n (lv' := [(3, .int (nI 0)), (2, .int (nI 0)), (0, .ref (a 0)), (1, .int (nI x))]) hC dX12_takenAt_3 rfl (by decide) rfl ?_
  have lp_4 : ∀ (fu_4 : Nat) (k : Nat) (hk : k ≤ 6) (hn : 6 - k < fu_4), Ev G X 0 0 4 [(0, .ref (a 0)), (1, .int (nI x)), (2, .int (atF K x k)), (3, .int (nI k))] [] (MW G a S I F B T R K D hI ac sp en iw op mu rd ra ki nu tv) ro := by
    intro fu_4
    induction fu_4 with
    | zero => intro k hk hn; exact absurd hn (Nat.not_lt_zero _)
    | succ fu_4 ih =>
      intro k hk hn
      refine ev_iload_n hC dX12_takenAt_4 rfl 3 rfl ?_
      refine ev_bipush (v := (nI 6)) hC dX12_takenAt_5 (by decide) ?_
      refine ev_icmp_geN (tgt := 38) hC dX12_takenAt_7 (by decide) (by omega) (by omega) (fun c_1 => ?_) (fun c_1 => ?_)
      · refine ev_iload_n hC dX12_takenAt_38 rfl 2 rfl ?_
        refine ev_iret hC hR rfl dX12_takenAt_39 ?_
        obtain rfl : k = 6 := by omega
        exact ⟨rfl, rfl, rfl⟩
      · refine ev_iload_n hC dX12_takenAt_10 rfl 2 rfl ?_
        refine ev_iload_n hC dX12_takenAt_11 rfl 1 rfl ?_
        refine ev_iload_n hC dX12_takenAt_12 rfl 3 rfl ?_
        refine ev_ishr hC dX12_takenAt_13 ?_
        refine ev_iconst (v := (nI 1)) hC dX12_takenAt_14 (by decide) ?_
        refine ev_iand hC dX12_takenAt_15 ?_
        refine ev_top (y := (nI (x / 2 ^ k % 2))) (bit_at hx (by omega)) ?_
        refine ev_iconst (v := (nI 1)) hC dX12_takenAt_16 (by decide) ?_
        refine ev_icmp_neN (tgt := 29) hC dX12_takenAt_17 (by decide) (by omega) (by omega) (fun c_2 => ?_) (fun c_2 => ?_)
        · refine ev_iconst (v := (nI 0)) hC dX12_takenAt_29 (by decide) ?_
          refine ev_iadd hC dX12_takenAt_30 ?_
          refine ev_top (y := (atF K x (k + 1))) (by first | rw [atF, if_pos (by assumption)] | rw [atF, if_neg (by assumption)]) ?_
          refine ev_istore_n (lv' := [(2, .int (atF K x (k + 1))), (0, .ref (a 0)), (1, .int (nI x)), (3, .int (nI k))]) hC dX12_takenAt_31 rfl (by decide) rfl ?_
          refine ev_iinc (v := (nI (k + 1))) (lv' := [(3, .int (nI (k + 1))), (2, .int (atF K x (k + 1))), (0, .ref (a 0)), (1, .int (nI x))]) hC dX12_takenAt_32 (q := 3) rfl (nI_k _ _ 1 (by decide)) (by decide) rfl ?_
          refine ev_goto (tgt := 4) hC dX12_takenAt_35 (by decide) ?_
          refine ev_lv [2, 3, 1, 0] rfl ?_
          exact ih (k + 1) (by omega) (by omega)
        · refine ev_aload_n hC dX12_takenAt_20 rfl 0 rfl ?_
          refine ev_get hC fl_X12_35_12 (mw 0 rfl) rfl dX12_takenAt_21 ?_
          refine ev_iload_n hC dX12_takenAt_24 rfl 3 rfl ?_
          refine ev_ialdN (i := k) hC (mw 7 rfl) (by omega) (by omega) dX12_takenAt_25 ?_
          refine ev_goto (tgt := 30) hC dX12_takenAt_26 (by decide) ?_
          refine ev_iadd hC dX12_takenAt_30 ?_
          refine ev_top (y := (atF K x (k + 1))) (by first | rw [atF, if_pos (by assumption)] | rw [atF, if_neg (by assumption)]) ?_
          refine ev_istore_n (lv' := [(2, .int (atF K x (k + 1))), (0, .ref (a 0)), (1, .int (nI x)), (3, .int (nI k))]) hC dX12_takenAt_31 rfl (by decide) rfl ?_
          refine ev_iinc (v := (nI (k + 1))) (lv' := [(3, .int (nI (k + 1))), (2, .int (atF K x (k + 1))), (0, .ref (a 0)), (1, .int (nI x))]) hC dX12_takenAt_32 (q := 3) rfl (nI_k _ _ 1 (by decide)) (by decide) rfl ?_
          refine ev_goto (tgt := 4) hC dX12_takenAt_35 (by decide) ?_
          refine ev_lv [2, 3, 1, 0] rfl ?_
          exact ih (k + 1) (by omega) (by omega)
  refine ev_lv [2, 3, 1, 0] rfl ?_
  exact lp_4 (6 - 0 + 1) 0 (by omega) (Nat.lt_succ_self _)

set_option maxHeartbeats 4000000 in
set_option maxRecDepth 100000 in
theorem m_X12_watch (G : GG) (ro : va_W) (a : Nat → Nat) (S I F B T R K D : Nat → Int32) (hI ac sp en iw op mu rd ra ki nu tv : Int32) (x w : Int32) (hW : WF S 9999 9999) : Mth G M_X12_watch 4 0 0 [.ref (a 0), .int x, .int w] (MW G a S I F B T R K D hI ac sp en iw op (-1) rd ra ki nu tv) ro (fun r ws' ro' => ∃ (F' : Nat → Int32), ∃ (B' : Nat → Int32), ∃ (T' : Nat → Int32), ∃ (R' : Nat → Int32), ∃ (K' : Nat → Int32), ∃ (rd' : Int32), r = some (.int (watchR S x w)) ∧ ws' = (MW G a S I F' B' T' R' K' D hI ac sp en iw op (-1) rd' ra ki nu tv) ∧ ro = ro') := by
  refine mth_of (by decide +kernel) (Nat.le_of_ble_eq_true rfl) (fun X hC hR => ?_)
  have b32 := hW.peo.le
  have b33 := hW.tre.le
  have b34 := hW.seen.le
  have b35 := hW.plan.le
  have b36 := hW.book.le
  have b37 := hW.tape.le
  show Ev G X 0 0 0 [(0, .ref (a 0)), (1, .int x), (2, .int w)] [] (MW G a S I F B T R K D hI ac sp en iw op (-1) rd ra ki nu tv) ro
  refine ev_iload_n hC dX12_watch_0 rfl 2 rfl ?_
  refine ev_iconst (v := (nI 0)) hC dX12_watch_1 (by decide) ?_
  refine ev_iconst (v := (nI 1)) hC dX12_watch_2 (by decide) ?_
  refine ev_callS (As := [.int w, .int (nI 0), .int (nI 1)]) (st := []) (wc := []) (wf := (MW G a S I F B T R K D hI ac sp en iw op (-1) rd ra ki nu tv)) hC ct_X12_44 (m_X12_in G ro w (nI 0) (nI 1)) (by decide) rfl rfl (Nat.le_of_ble_eq_true rfl) (List.Perm.refl _) dX12_watch_3 (by decide) (by decide) ?_
  rintro _ _ _ ⟨rfl, rfl, rfl⟩
  refine ev_ws (List.nil_append _) ?_
  show Ev G X 0 0 6 [(0, .ref (a 0)), (1, .int x), (2, .int w)] [.int (bI ((nI 0) ≤ w ∧ w ≤ (nI 1)))] (MW G a S I F B T R K D hI ac sp en iw op (-1) rd ra ki nu tv) ro
  refine ev_if_neB (tgt := 11) hC dX12_watch_6 (by decide) (fun c_1 => ?_) (fun c_1 => ?_)
  · obtain ⟨wk, hwk, rfl⟩ := inN (m := 1) (by omega) (by assumption)
    rcases (show wk = 0 ∨ wk = 1 by omega) with rfl | rfl
    · refine ev_iload_n hC dX12_watch_11 rfl 1 rfl ?_
      refine ev_iconst (v := (nI 1)) hC dX12_watch_12 (by decide) ?_
      refine ev_bipush (v := (nI 6)) hC dX12_watch_13 (by decide) ?_
      refine ev_callS (As := [.int x, .int (nI 1), .int (nI 6)]) (st := []) (wc := []) (wf := (MW G a S I F B T R K D hI ac sp en iw op (-1) rd ra ki nu tv)) hC ct_X12_44 (m_X12_in G ro x (nI 1) (nI 6)) (by decide) rfl rfl (Nat.le_of_ble_eq_true rfl) (List.Perm.refl _) dX12_watch_15 (by decide) (by decide) ?_
      rintro _ _ _ ⟨rfl, rfl, rfl⟩
      refine ev_ws (List.nil_append _) ?_
      show Ev G X 0 0 18 [(0, .ref (a 0)), (1, .int x), (2, .int (nI 0))] [.int (bI ((nI 1) ≤ x ∧ x ≤ (nI 6)))] (MW G a S I F B T R K D hI ac sp en iw op (-1) rd ra ki nu tv) ro
      refine ev_if_neB (tgt := 24) hC dX12_watch_18 (by decide) (fun c_2 => ?_) (fun c_2 => ?_)
      · obtain ⟨kk, hkk1, hkk, rfl⟩ := in1N (m := 6) (by omega) (by assumption)
        have hpn_kk : pn (nI kk) = kk := nI_clamp (by omega)
        refine ev_aload_n hC dX12_watch_24 rfl 0 rfl ?_
        refine ev_callV (As := []) (st := []) (wf := []) hC cv_X12_181 (m_X12_keeps G ro a S I F B T R K D hI ac sp en iw op (-1) rd ra ki nu tv) (by decide) rfl rfl (Nat.le_of_ble_eq_true rfl) (List.Perm.of_eq (List.append_nil _).symm) (mw 0 rfl) rfl dX12_watch_25 (by decide) (by decide) ?_
        rintro _ _ _ ⟨rfl, rfl, rfl⟩
        refine ev_ws (List.append_nil _) ?_
        show Ev G X 0 0 28 [(0, .ref (a 0)), (1, .int (nI kk)), (2, .int (nI 0))] [] (MW G a S I (ovF F S 32) B T R K D hI ac sp en iw op (-1) rd ra ki nu tv) ro
        refine ev_aload_n hC dX12_watch_28 rfl 0 rfl ?_
        refine ev_callV (As := []) (st := []) (wf := []) hC cv_X12_178 (m_X12_goes G ro a S I (ovF F S 32) B T R K D hI ac sp en iw op (-1) rd ra ki nu tv hW (by omega) (by omega)) (by decide) rfl rfl (Nat.le_of_ble_eq_true rfl) (List.Perm.of_eq (List.append_nil _).symm) (mw 0 rfl) rfl dX12_watch_29 (by decide) (by decide) ?_
        rintro _ _ _ ⟨B_3, T_4, R_5, K_6, rfl, rfl, rfl, hK_7⟩
        refine ev_ws (List.append_nil _) ?_
        show Ev G X 0 0 32 [(0, .ref (a 0)), (1, .int (nI kk)), (2, .int (nI 0))] [] (MW G a (goF (-1) S) I (ovF F S 32) B_3 T_4 R_5 K_6 D hI ac sp en iw op (-1) (rsF (alF (-1) S) rd 6) ra ki nu tv) ro
        refine ev_aload_n hC dX12_watch_32 rfl 0 rfl ?_
        refine ev_callV (As := []) (st := []) (wf := []) hC cv_X12_187 (m_X12_goesBack G ro a (goF (-1) S) I (ovF F S 32) B_3 T_4 R_5 K_6 D hI ac sp en iw op (-1) (rsF (alF (-1) S) rd 6) ra ki nu tv) (by decide) rfl rfl (Nat.le_of_ble_eq_true rfl) (List.Perm.of_eq (List.append_nil _).symm) (mw 0 rfl) rfl dX12_watch_33 (by decide) (by decide) ?_
        rintro _ _ _ ⟨rfl, rfl, rfl⟩
        refine ev_ws (List.append_nil _) ?_
        show Ev G X 0 0 36 [(0, .ref (a 0)), (1, .int (nI kk)), (2, .int (nI 0))] [] (MW G a (ovF (goF (-1) S) (ovF F S 32) 32) I (ovF F S 32) B_3 T_4 R_5 K_6 D hI ac sp en iw op (-1) (rsF (alF (-1) S) rd 6) ra ki nu tv) ro
        refine ev_ws (ws' := (MW G a S I (ovF F S 32) B_3 T_4 R_5 K_6 D hI ac sp en iw op (-1) (rsF (alF (-1) S) rd 6) ra ki nu tv)) (by rw [back_eq (Hi.tr Hi.rf (goF_wf (-1) hW (by omega) (by omega)).2)]) ?_
        refine ev_iconst (v := (nI 0)) hC dX12_watch_36 (by decide) ?_
        refine ev_istore_n (lv' := [(3, .int (nI 0)), (0, .ref (a 0)), (1, .int (nI kk)), (2, .int (nI 0))]) hC dX12_watch_37 rfl (by decide) rfl ?_
        refine ev_iconst (v := (-1)) hC dX12_watch_38 (by decide) ?_
        refine ev_istore (lv' := [(4, .int (-1)), (3, .int (nI 0)), (0, .ref (a 0)), (1, .int (nI kk)), (2, .int (nI 0))]) hC dX12_watch_39 (by decide) rfl ?_
        refine ev_iconst (v := (nI 0)) hC dX12_watch_41 (by decide) ?_
        refine ev_istore (lv' := [(5, .int (nI 0)), (4, .int (-1)), (3, .int (nI 0)), (0, .ref (a 0)), (1, .int (nI kk)), (2, .int (nI 0))]) hC dX12_watch_42 (by decide) rfl ?_
        have lp_44 : ∀ (fu_44 : Nat) (i : Nat) (best : Int32) (most : Int32) (hi : i ≤ 64) (hb : watF S kk i = (best, most)) (hn : 64 - i < fu_44), Ev G X 0 0 44 [(0, .ref (a 0)), (1, .int (nI kk)), (2, .int (nI 0)), (3, .int best), (4, .int most), (5, .int (nI i))] [] (MW G a S I (ovF F S 32) B_3 T_4 R_5 K_6 D hI ac sp en iw op (-1) (rsF (alF (-1) S) rd 6) ra ki nu tv) ro := by
          intro fu_44
          induction fu_44 with
          | zero => intro i best most hi hb hn; exact absurd hn (Nat.not_lt_zero _)
          | succ fu_44 ih =>
            intro i best most hi hb hn
            refine ev_iload hC dX12_watch_44 5 rfl ?_
            refine ev_bipush (v := (nI 64)) hC dX12_watch_46 (by decide) ?_
            refine ev_icmp_geN (tgt := 88) hC dX12_watch_48 (by decide) (by omega) (by omega) (fun c_8 => ?_) (fun c_8 => ?_)
            · refine ev_iload_n hC dX12_watch_88 rfl 2 rfl ?_
              refine ev_if_neN (tgt := 96) hC dX12_watch_89 (by decide) (by omega) (fun c_9 => absurd c_9 (by omega)) (fun c_9 => ?_)
              refine ev_iload_n hC dX12_watch_92 rfl 3 rfl ?_
              refine ev_goto (tgt := 98) hC dX12_watch_93 (by decide) ?_
              refine ev_iret hC hR rfl dX12_watch_98 ?_
              obtain rfl : i = 64 := by omega
              have er : watchR S (nI kk) (nI 0) = best := by rw [watchR, if_pos (by assumption), if_pos (by assumption), hpn_kk, if_pos rfl, hb]
              exact ⟨_, _, _, _, _, _, by rw [er], rfl, rfl⟩
            · refine ev_iload hC dX12_watch_51 5 rfl ?_
              refine ev_callS (As := [.int (nI i)]) (st := []) (wc := []) (wf := (MW G a S I (ovF F S 32) B_3 T_4 R_5 K_6 D hI ac sp en iw op (-1) (rsF (alF (-1) S) rd 6) ra ki nu tv)) hC ct_X12_205 (m_X12_sizeOf G ro i (by omega)) (by decide) rfl rfl (Nat.le_of_ble_eq_true rfl) (List.Perm.refl _) dX12_watch_53 (by decide) (by decide) ?_
              rintro _ _ _ ⟨rfl, rfl, rfl⟩
              refine ev_ws (List.nil_append _) ?_
              show Ev G X 0 0 56 [(0, .ref (a 0)), (1, .int (nI kk)), (2, .int (nI 0)), (3, .int best), (4, .int most), (5, .int (nI i))] [.int (nI (szF i 6))] (MW G a S I (ovF F S 32) B_3 T_4 R_5 K_6 D hI ac sp en iw op (-1) (rsF (alF (-1) S) rd 6) ra ki nu tv) ro
              have sz_10 := szF_le i 6
              refine ev_iload_n hC dX12_watch_56 rfl 1 rfl ?_
              refine ev_icmp_neN (tgt := 82) hC dX12_watch_57 (by decide) (by omega) (by omega) (fun c_11 => ?_) (fun c_11 => ?_)
              · refine ev_iinc (v := (nI (i + 1))) (lv' := [(5, .int (nI (i + 1))), (0, .ref (a 0)), (1, .int (nI kk)), (2, .int (nI 0)), (3, .int best), (4, .int most)]) hC dX12_watch_82 (q := 5) rfl (nI_k _ _ 1 (by decide)) (by decide) rfl ?_
                refine ev_goto (tgt := 44) hC dX12_watch_85 (by decide) ?_
                refine ev_lv [1, 2, 3, 4, 5, 0] rfl ?_
                exact ih (i + 1) best most (by omega) (by first | exact watF_n hb (by assumption) | exact watF_t hb (by assumption) (by assumption) | exact watF_f hb (by assumption)) (by omega)
              · refine ev_aload_n hC dX12_watch_60 rfl 0 rfl ?_
                refine ev_iload hC dX12_watch_61 5 rfl ?_
                refine ev_callV (As := [.int (nI i)]) (st := []) (wf := []) hC cv_X12_208 (m_X12_takenAt G ro a S I (ovF F S 32) B_3 T_4 R_5 K_6 D hI ac sp en iw op (-1) (rsF (alF (-1) S) rd 6) ra ki nu tv i (by omega)) (by decide) rfl rfl (Nat.le_of_ble_eq_true rfl) (List.Perm.of_eq (List.append_nil _).symm) (mw 0 rfl) rfl dX12_watch_63 (by decide) (by decide) ?_
                rintro _ _ _ ⟨rfl, rfl, rfl⟩
                refine ev_ws (List.append_nil _) ?_
                show Ev G X 0 0 66 [(0, .ref (a 0)), (1, .int (nI kk)), (2, .int (nI 0)), (3, .int best), (4, .int most), (5, .int (nI i))] [.int (atF K_6 i 6)] (MW G a S I (ovF F S 32) B_3 T_4 R_5 K_6 D hI ac sp en iw op (-1) (rsF (alF (-1) S) rd 6) ra ki nu tv) ro
                refine ev_top (y := (atF (tknF S) i 6)) (atF_congr (K' := tknF S) i 6 hK_7) ?_
                refine ev_iload hC dX12_watch_66 4 rfl ?_
                refine ev_icmp_le (tgt := 82) hC dX12_watch_68 (by decide) (fun c_12 => ?_) (fun c_12 => ?_)
                · refine ev_iinc (v := (nI (i + 1))) (lv' := [(5, .int (nI (i + 1))), (0, .ref (a 0)), (1, .int (nI kk)), (2, .int (nI 0)), (3, .int best), (4, .int most)]) hC dX12_watch_82 (q := 5) rfl (nI_k _ _ 1 (by decide)) (by decide) rfl ?_
                  refine ev_goto (tgt := 44) hC dX12_watch_85 (by decide) ?_
                  refine ev_lv [1, 2, 3, 4, 5, 0] rfl ?_
                  exact ih (i + 1) best most (by omega) (by first | exact watF_n hb (by assumption) | exact watF_t hb (by assumption) (by assumption) | exact watF_f hb (by assumption)) (by omega)
                · refine ev_aload_n hC dX12_watch_71 rfl 0 rfl ?_
                  refine ev_iload hC dX12_watch_72 5 rfl ?_
                  refine ev_callV (As := [.int (nI i)]) (st := []) (wf := []) hC cv_X12_208 (m_X12_takenAt G ro a S I (ovF F S 32) B_3 T_4 R_5 K_6 D hI ac sp en iw op (-1) (rsF (alF (-1) S) rd 6) ra ki nu tv i (by omega)) (by decide) rfl rfl (Nat.le_of_ble_eq_true rfl) (List.Perm.of_eq (List.append_nil _).symm) (mw 0 rfl) rfl dX12_watch_74 (by decide) (by decide) ?_
                  rintro _ _ _ ⟨rfl, rfl, rfl⟩
                  refine ev_ws (List.append_nil _) ?_
                  show Ev G X 0 0 77 [(0, .ref (a 0)), (1, .int (nI kk)), (2, .int (nI 0)), (3, .int best), (4, .int most), (5, .int (nI i))] [.int (atF K_6 i 6)] (MW G a S I (ovF F S 32) B_3 T_4 R_5 K_6 D hI ac sp en iw op (-1) (rsF (alF (-1) S) rd 6) ra ki nu tv) ro
                  refine ev_top (y := (atF (tknF S) i 6)) (atF_congr (K' := tknF S) i 6 hK_7) ?_
                  refine ev_istore (lv' := [(4, .int (atF (tknF S) i 6)), (0, .ref (a 0)), (1, .int (nI kk)), (2, .int (nI 0)), (3, .int best), (5, .int (nI i))]) hC dX12_watch_77 (by decide) rfl ?_
                  refine ev_iload hC dX12_watch_79 5 rfl ?_
                  refine ev_istore_n (lv' := [(3, .int (nI i)), (4, .int (atF (tknF S) i 6)), (0, .ref (a 0)), (1, .int (nI kk)), (2, .int (nI 0)), (5, .int (nI i))]) hC dX12_watch_81 rfl (by decide) rfl ?_
                  refine ev_iinc (v := (nI (i + 1))) (lv' := [(5, .int (nI (i + 1))), (3, .int (nI i)), (4, .int (atF (tknF S) i 6)), (0, .ref (a 0)), (1, .int (nI kk)), (2, .int (nI 0))]) hC dX12_watch_82 (q := 5) rfl (nI_k _ _ 1 (by decide)) (by decide) rfl ?_
                  refine ev_goto (tgt := 44) hC dX12_watch_85 (by decide) ?_
                  refine ev_lv [3, 4, 5, 1, 2, 0] rfl ?_
                  exact ih (i + 1) (nI i) (atF (tknF S) i 6) (by omega) (by first | exact watF_n hb (by assumption) | exact watF_t hb (by assumption) (by assumption) | exact watF_f hb (by assumption)) (by omega)
        refine ev_lv [3, 4, 5, 2, 1, 0] rfl ?_
        exact lp_44 (64 - 0 + 1) 0 (nI 0) (-1) (by omega) rfl (Nat.lt_succ_self _)
      · refine ev_bipush (v := (-2)) hC dX12_watch_21 (by decide) ?_
        refine ev_iret hC hR rfl dX12_watch_23 ?_
        have er : watchR S x (nI 0) = -2 := by rw [watchR, if_pos (by assumption), if_neg (by assumption)]
        exact ⟨_, _, _, _, _, _, by rw [er], rfl, rfl⟩
    · refine ev_iload_n hC dX12_watch_11 rfl 1 rfl ?_
      refine ev_iconst (v := (nI 1)) hC dX12_watch_12 (by decide) ?_
      refine ev_bipush (v := (nI 6)) hC dX12_watch_13 (by decide) ?_
      refine ev_callS (As := [.int x, .int (nI 1), .int (nI 6)]) (st := []) (wc := []) (wf := (MW G a S I F B T R K D hI ac sp en iw op (-1) rd ra ki nu tv)) hC ct_X12_44 (m_X12_in G ro x (nI 1) (nI 6)) (by decide) rfl rfl (Nat.le_of_ble_eq_true rfl) (List.Perm.refl _) dX12_watch_15 (by decide) (by decide) ?_
      rintro _ _ _ ⟨rfl, rfl, rfl⟩
      refine ev_ws (List.nil_append _) ?_
      show Ev G X 0 0 18 [(0, .ref (a 0)), (1, .int x), (2, .int (nI 1))] [.int (bI ((nI 1) ≤ x ∧ x ≤ (nI 6)))] (MW G a S I F B T R K D hI ac sp en iw op (-1) rd ra ki nu tv) ro
      refine ev_if_neB (tgt := 24) hC dX12_watch_18 (by decide) (fun c_13 => ?_) (fun c_13 => ?_)
      · obtain ⟨kk, hkk1, hkk, rfl⟩ := in1N (m := 6) (by omega) (by assumption)
        have hpn_kk : pn (nI kk) = kk := nI_clamp (by omega)
        refine ev_aload_n hC dX12_watch_24 rfl 0 rfl ?_
        refine ev_callV (As := []) (st := []) (wf := []) hC cv_X12_181 (m_X12_keeps G ro a S I F B T R K D hI ac sp en iw op (-1) rd ra ki nu tv) (by decide) rfl rfl (Nat.le_of_ble_eq_true rfl) (List.Perm.of_eq (List.append_nil _).symm) (mw 0 rfl) rfl dX12_watch_25 (by decide) (by decide) ?_
        rintro _ _ _ ⟨rfl, rfl, rfl⟩
        refine ev_ws (List.append_nil _) ?_
        show Ev G X 0 0 28 [(0, .ref (a 0)), (1, .int (nI kk)), (2, .int (nI 1))] [] (MW G a S I (ovF F S 32) B T R K D hI ac sp en iw op (-1) rd ra ki nu tv) ro
        refine ev_aload_n hC dX12_watch_28 rfl 0 rfl ?_
        refine ev_callV (As := []) (st := []) (wf := []) hC cv_X12_178 (m_X12_goes G ro a S I (ovF F S 32) B T R K D hI ac sp en iw op (-1) rd ra ki nu tv hW (by omega) (by omega)) (by decide) rfl rfl (Nat.le_of_ble_eq_true rfl) (List.Perm.of_eq (List.append_nil _).symm) (mw 0 rfl) rfl dX12_watch_29 (by decide) (by decide) ?_
        rintro _ _ _ ⟨B_14, T_15, R_16, K_17, rfl, rfl, rfl, hK_18⟩
        refine ev_ws (List.append_nil _) ?_
        show Ev G X 0 0 32 [(0, .ref (a 0)), (1, .int (nI kk)), (2, .int (nI 1))] [] (MW G a (goF (-1) S) I (ovF F S 32) B_14 T_15 R_16 K_17 D hI ac sp en iw op (-1) (rsF (alF (-1) S) rd 6) ra ki nu tv) ro
        refine ev_aload_n hC dX12_watch_32 rfl 0 rfl ?_
        refine ev_callV (As := []) (st := []) (wf := []) hC cv_X12_187 (m_X12_goesBack G ro a (goF (-1) S) I (ovF F S 32) B_14 T_15 R_16 K_17 D hI ac sp en iw op (-1) (rsF (alF (-1) S) rd 6) ra ki nu tv) (by decide) rfl rfl (Nat.le_of_ble_eq_true rfl) (List.Perm.of_eq (List.append_nil _).symm) (mw 0 rfl) rfl dX12_watch_33 (by decide) (by decide) ?_
        rintro _ _ _ ⟨rfl, rfl, rfl⟩
        refine ev_ws (List.append_nil _) ?_
        show Ev G X 0 0 36 [(0, .ref (a 0)), (1, .int (nI kk)), (2, .int (nI 1))] [] (MW G a (ovF (goF (-1) S) (ovF F S 32) 32) I (ovF F S 32) B_14 T_15 R_16 K_17 D hI ac sp en iw op (-1) (rsF (alF (-1) S) rd 6) ra ki nu tv) ro
        refine ev_ws (ws' := (MW G a S I (ovF F S 32) B_14 T_15 R_16 K_17 D hI ac sp en iw op (-1) (rsF (alF (-1) S) rd 6) ra ki nu tv)) (by rw [back_eq (Hi.tr Hi.rf (goF_wf (-1) hW (by omega) (by omega)).2)]) ?_
        refine ev_iconst (v := (nI 0)) hC dX12_watch_36 (by decide) ?_
        refine ev_istore_n (lv' := [(3, .int (nI 0)), (0, .ref (a 0)), (1, .int (nI kk)), (2, .int (nI 1))]) hC dX12_watch_37 rfl (by decide) rfl ?_
        refine ev_iconst (v := (-1)) hC dX12_watch_38 (by decide) ?_
        refine ev_istore (lv' := [(4, .int (-1)), (3, .int (nI 0)), (0, .ref (a 0)), (1, .int (nI kk)), (2, .int (nI 1))]) hC dX12_watch_39 (by decide) rfl ?_
        refine ev_iconst (v := (nI 0)) hC dX12_watch_41 (by decide) ?_
        refine ev_istore (lv' := [(5, .int (nI 0)), (4, .int (-1)), (3, .int (nI 0)), (0, .ref (a 0)), (1, .int (nI kk)), (2, .int (nI 1))]) hC dX12_watch_42 (by decide) rfl ?_
        have lp_44 : ∀ (fu_44 : Nat) (i : Nat) (best : Int32) (most : Int32) (hi : i ≤ 64) (hb : watF S kk i = (best, most)) (hn : 64 - i < fu_44), Ev G X 0 0 44 [(0, .ref (a 0)), (1, .int (nI kk)), (2, .int (nI 1)), (3, .int best), (4, .int most), (5, .int (nI i))] [] (MW G a S I (ovF F S 32) B_14 T_15 R_16 K_17 D hI ac sp en iw op (-1) (rsF (alF (-1) S) rd 6) ra ki nu tv) ro := by
          intro fu_44
          induction fu_44 with
          | zero => intro i best most hi hb hn; exact absurd hn (Nat.not_lt_zero _)
          | succ fu_44 ih =>
            intro i best most hi hb hn
            refine ev_iload hC dX12_watch_44 5 rfl ?_
            refine ev_bipush (v := (nI 64)) hC dX12_watch_46 (by decide) ?_
            refine ev_icmp_geN (tgt := 88) hC dX12_watch_48 (by decide) (by omega) (by omega) (fun c_19 => ?_) (fun c_19 => ?_)
            · refine ev_iload_n hC dX12_watch_88 rfl 2 rfl ?_
              refine ev_if_neN (tgt := 96) hC dX12_watch_89 (by decide) (by omega) (fun c_20 => ?_) (fun c_20 => absurd c_20 (by omega))
              refine ev_iload hC dX12_watch_96 4 rfl ?_
              refine ev_iret hC hR rfl dX12_watch_98 ?_
              obtain rfl : i = 64 := by omega
              have er : watchR S (nI kk) (nI 1) = most := by rw [watchR, if_pos (by assumption), if_pos (by assumption), hpn_kk, if_neg (by decide), hb]
              exact ⟨_, _, _, _, _, _, by rw [er], rfl, rfl⟩
            · refine ev_iload hC dX12_watch_51 5 rfl ?_
              refine ev_callS (As := [.int (nI i)]) (st := []) (wc := []) (wf := (MW G a S I (ovF F S 32) B_14 T_15 R_16 K_17 D hI ac sp en iw op (-1) (rsF (alF (-1) S) rd 6) ra ki nu tv)) hC ct_X12_205 (m_X12_sizeOf G ro i (by omega)) (by decide) rfl rfl (Nat.le_of_ble_eq_true rfl) (List.Perm.refl _) dX12_watch_53 (by decide) (by decide) ?_
              rintro _ _ _ ⟨rfl, rfl, rfl⟩
              refine ev_ws (List.nil_append _) ?_
              show Ev G X 0 0 56 [(0, .ref (a 0)), (1, .int (nI kk)), (2, .int (nI 1)), (3, .int best), (4, .int most), (5, .int (nI i))] [.int (nI (szF i 6))] (MW G a S I (ovF F S 32) B_14 T_15 R_16 K_17 D hI ac sp en iw op (-1) (rsF (alF (-1) S) rd 6) ra ki nu tv) ro
              have sz_21 := szF_le i 6
              refine ev_iload_n hC dX12_watch_56 rfl 1 rfl ?_
              refine ev_icmp_neN (tgt := 82) hC dX12_watch_57 (by decide) (by omega) (by omega) (fun c_22 => ?_) (fun c_22 => ?_)
              · refine ev_iinc (v := (nI (i + 1))) (lv' := [(5, .int (nI (i + 1))), (0, .ref (a 0)), (1, .int (nI kk)), (2, .int (nI 1)), (3, .int best), (4, .int most)]) hC dX12_watch_82 (q := 5) rfl (nI_k _ _ 1 (by decide)) (by decide) rfl ?_
                refine ev_goto (tgt := 44) hC dX12_watch_85 (by decide) ?_
                refine ev_lv [1, 2, 3, 4, 5, 0] rfl ?_
                exact ih (i + 1) best most (by omega) (by first | exact watF_n hb (by assumption) | exact watF_t hb (by assumption) (by assumption) | exact watF_f hb (by assumption)) (by omega)
              · refine ev_aload_n hC dX12_watch_60 rfl 0 rfl ?_
                refine ev_iload hC dX12_watch_61 5 rfl ?_
                refine ev_callV (As := [.int (nI i)]) (st := []) (wf := []) hC cv_X12_208 (m_X12_takenAt G ro a S I (ovF F S 32) B_14 T_15 R_16 K_17 D hI ac sp en iw op (-1) (rsF (alF (-1) S) rd 6) ra ki nu tv i (by omega)) (by decide) rfl rfl (Nat.le_of_ble_eq_true rfl) (List.Perm.of_eq (List.append_nil _).symm) (mw 0 rfl) rfl dX12_watch_63 (by decide) (by decide) ?_
                rintro _ _ _ ⟨rfl, rfl, rfl⟩
                refine ev_ws (List.append_nil _) ?_
                show Ev G X 0 0 66 [(0, .ref (a 0)), (1, .int (nI kk)), (2, .int (nI 1)), (3, .int best), (4, .int most), (5, .int (nI i))] [.int (atF K_17 i 6)] (MW G a S I (ovF F S 32) B_14 T_15 R_16 K_17 D hI ac sp en iw op (-1) (rsF (alF (-1) S) rd 6) ra ki nu tv) ro
                refine ev_top (y := (atF (tknF S) i 6)) (atF_congr (K' := tknF S) i 6 hK_18) ?_
                refine ev_iload hC dX12_watch_66 4 rfl ?_
                refine ev_icmp_le (tgt := 82) hC dX12_watch_68 (by decide) (fun c_23 => ?_) (fun c_23 => ?_)
                · refine ev_iinc (v := (nI (i + 1))) (lv' := [(5, .int (nI (i + 1))), (0, .ref (a 0)), (1, .int (nI kk)), (2, .int (nI 1)), (3, .int best), (4, .int most)]) hC dX12_watch_82 (q := 5) rfl (nI_k _ _ 1 (by decide)) (by decide) rfl ?_
                  refine ev_goto (tgt := 44) hC dX12_watch_85 (by decide) ?_
                  refine ev_lv [1, 2, 3, 4, 5, 0] rfl ?_
                  exact ih (i + 1) best most (by omega) (by first | exact watF_n hb (by assumption) | exact watF_t hb (by assumption) (by assumption) | exact watF_f hb (by assumption)) (by omega)
                · refine ev_aload_n hC dX12_watch_71 rfl 0 rfl ?_
                  refine ev_iload hC dX12_watch_72 5 rfl ?_
                  refine ev_callV (As := [.int (nI i)]) (st := []) (wf := []) hC cv_X12_208 (m_X12_takenAt G ro a S I (ovF F S 32) B_14 T_15 R_16 K_17 D hI ac sp en iw op (-1) (rsF (alF (-1) S) rd 6) ra ki nu tv i (by omega)) (by decide) rfl rfl (Nat.le_of_ble_eq_true rfl) (List.Perm.of_eq (List.append_nil _).symm) (mw 0 rfl) rfl dX12_watch_74 (by decide) (by decide) ?_
                  rintro _ _ _ ⟨rfl, rfl, rfl⟩
                  refine ev_ws (List.append_nil _) ?_
                  show Ev G X 0 0 77 [(0, .ref (a 0)), (1, .int (nI kk)), (2, .int (nI 1)), (3, .int best), (4, .int most), (5, .int (nI i))] [.int (atF K_17 i 6)] (MW G a S I (ovF F S 32) B_14 T_15 R_16 K_17 D hI ac sp en iw op (-1) (rsF (alF (-1) S) rd 6) ra ki nu tv) ro
                  refine ev_top (y := (atF (tknF S) i 6)) (atF_congr (K' := tknF S) i 6 hK_18) ?_
                  refine ev_istore (lv' := [(4, .int (atF (tknF S) i 6)), (0, .ref (a 0)), (1, .int (nI kk)), (2, .int (nI 1)), (3, .int best), (5, .int (nI i))]) hC dX12_watch_77 (by decide) rfl ?_
                  refine ev_iload hC dX12_watch_79 5 rfl ?_
                  refine ev_istore_n (lv' := [(3, .int (nI i)), (4, .int (atF (tknF S) i 6)), (0, .ref (a 0)), (1, .int (nI kk)), (2, .int (nI 1)), (5, .int (nI i))]) hC dX12_watch_81 rfl (by decide) rfl ?_
                  refine ev_iinc (v := (nI (i + 1))) (lv' := [(5, .int (nI (i + 1))), (3, .int (nI i)), (4, .int (atF (tknF S) i 6)), (0, .ref (a 0)), (1, .int (nI kk)), (2, .int (nI 1))]) hC dX12_watch_82 (q := 5) rfl (nI_k _ _ 1 (by decide)) (by decide) rfl ?_
                  refine ev_goto (tgt := 44) hC dX12_watch_85 (by decide) ?_
                  refine ev_lv [3, 4, 5, 1, 2, 0] rfl ?_
                  exact ih (i + 1) (nI i) (atF (tknF S) i 6) (by omega) (by first | exact watF_n hb (by assumption) | exact watF_t hb (by assumption) (by assumption) | exact watF_f hb (by assumption)) (by omega)
        refine ev_lv [3, 4, 5, 2, 1, 0] rfl ?_
        exact lp_44 (64 - 0 + 1) 0 (nI 0) (-1) (by omega) rfl (Nat.lt_succ_self _)
      · refine ev_bipush (v := (-2)) hC dX12_watch_21 (by decide) ?_
        refine ev_iret hC hR rfl dX12_watch_23 ?_
        have er : watchR S x (nI 1) = -2 := by rw [watchR, if_pos (by assumption), if_neg (by assumption)]
        exact ⟨_, _, _, _, _, _, by rw [er], rfl, rfl⟩
  · refine ev_iconst (v := (-1)) hC dX12_watch_9 (by decide) ?_
    refine ev_iret hC hR rfl dX12_watch_10 ?_
    have er : watchR S x w = -1 := by rw [watchR, if_neg (by assumption)]
    exact ⟨_, _, _, _, _, _, by rw [er], rfl, rfl⟩

set_option maxHeartbeats 4000000 in
set_option maxRecDepth 100000 in
theorem m_X12_isLeft (G : GG) (ro : va_W) (a : Nat → Nat) (S I F B T R K D : Nat → Int32) (hI ac sp en iw op mu rd ra ki nu tv : Int32) (k n : Nat) (hk : k < 6) {DD EE : Nat} (hW : WF S DD EE) (hD : DD + n < 2 ^ 31) (hE : EE + 168 * n < 2 ^ 31) : Mth G M_X12_isLeft 4 0 0 [.ref (a 0), .int (nI k), .int (nI n)] (MW G a S I F B T R K D hI ac sp en iw op (-1) rd ra ki nu tv) ro (fun r ws' ro' => ∃ (B' : Nat → Int32), ∃ (T' : Nat → Int32), ∃ (R' : Nat → Int32), ∃ (K' : Nat → Int32), ∃ (rd' : Int32), r = some (.int (bI (leftF S k n))) ∧ ws' = (MW G a (ovF S F 32) I F B' T' R' K' D hI ac sp en iw op (-1) rd' ra ki nu tv) ∧ ro = ro') := by
  refine mth_of (by decide +kernel) (Nat.le_of_ble_eq_true rfl) (fun X hC hR => ?_)
  have b32 := hW.peo.le
  have b33 := hW.tre.le
  have b34 := hW.seen.le
  have b35 := hW.plan.le
  have b36 := hW.book.le
  have b37 := hW.tape.le
  show Ev G X 0 0 0 [(0, .ref (a 0)), (1, .int (nI k)), (2, .int (nI n))] [] (MW G a S I F B T R K D hI ac sp en iw op (-1) rd ra ki nu tv) ro
  refine ev_iconst (v := (nI 0)) hC dX12_isLeft_0 (by decide) ?_
  refine ev_istore_n (lv' := [(3, .int (nI 0)), (0, .ref (a 0)), (1, .int (nI k)), (2, .int (nI n))]) hC dX12_isLeft_1 rfl (by decide) rfl ?_
  have lp_2 : ∀ (fu_2 : Nat) (m : Nat) (B' : Nat → Int32) (T' : Nat → Int32) (R' : Nat → Int32) (K' : Nat → Int32) (rd' : Int32) (hm : m ≤ n) (hn : n - m < fu_2), Ev G X 0 0 2 [(0, .ref (a 0)), (1, .int (nI k)), (2, .int (nI n)), (3, .int (nI m))] [] (MW G a (gosF (-1) S m) I F B' T' R' K' D hI ac sp en iw op (-1) rd' ra ki nu tv) ro := by
    intro fu_2
    induction fu_2 with
    | zero => intro m B' T' R' K' rd' hm hn; exact absurd hn (Nat.not_lt_zero _)
    | succ fu_2 ih =>
      intro m B' T' R' K' rd' hm hn
      have hgs := (gosF_wf (-1) hW m (by omega) (by omega)).1.salt k hk
      have hgl := hgs.lt
      refine ev_iload_n hC dX12_isLeft_2 rfl 3 rfl ?_
      refine ev_iload_n hC dX12_isLeft_3 rfl 2 rfl ?_
      refine ev_icmp_geN (tgt := 28) hC dX12_isLeft_4 (by decide) (by omega) (by omega) (fun c_1 => ?_) (fun c_1 => ?_)
      · refine ev_aload_n hC dX12_isLeft_28 rfl 0 rfl ?_
        refine ev_get hC fl_X12_9_12 (mw 0 rfl) rfl dX12_isLeft_29 ?_
        refine ev_iconst (v := (nI 2)) hC dX12_isLeft_32 (by decide) ?_
        refine ev_iload_n hC dX12_isLeft_33 rfl 1 rfl ?_
        refine ev_iadd hC dX12_isLeft_34 ?_
        refine ev_top (y := (nI (2 + k))) ((nI_add _ _).trans (congrArg nI (by omega))) ?_
        refine ev_ialdN (i := 2 + k) hC (mw 1 rfl) (by omega) (by omega) dX12_isLeft_35 ?_
        refine ev_top (y := (nI (sn (gosF (-1) S m) (2 + k)))) hgs.eq ?_
        refine ev_if_leN (tgt := 43) hC dX12_isLeft_36 (by decide) (by omega) (fun c_2 => ?_) (fun c_2 => ?_)
        · refine ev_iconst (v := (nI 0)) hC dX12_isLeft_43 (by decide) ?_
          refine ev_istore_n (lv' := [(3, .int (nI 0)), (0, .ref (a 0)), (1, .int (nI k)), (2, .int (nI n))]) hC dX12_isLeft_44 rfl (by decide) rfl ?_
          refine ev_aload_n hC dX12_isLeft_45 rfl 1 rfl ?_
          refine ev_callV (As := []) (st := []) (wf := []) hC cv_X12_187 (m_X12_goesBack G ro a (gosF (-1) S m) I F B' T' R' K' D hI ac sp en iw op (-1) rd' ra ki nu tv) (by decide) rfl rfl (Nat.le_of_ble_eq_true rfl) (List.Perm.of_eq (List.append_nil _).symm) (mw 0 rfl) rfl dX12_isLeft_46 (by decide) (by decide) ?_
          rintro _ _ _ ⟨rfl, rfl, rfl⟩
          refine ev_ws (List.append_nil _) ?_
          show Ev G X 0 0 49 [(3, .int (nI 0)), (0, .ref (a 0)), (1, .int (nI k)), (2, .int (nI n))] [] (MW G a (ovF (gosF (-1) S m) F 32) I F B' T' R' K' D hI ac sp en iw op (-1) rd' ra ki nu tv) ro
          refine ev_iload_n hC dX12_isLeft_49 rfl 0 rfl ?_
          refine ev_zret hC hR rfl (by rfl) dX12_isLeft_50 ?_
          have er : bI (leftF S k n) = nI 0 := by
            have hmono := gosF_salt (-1) hW hk (m := m) n (by omega) (by omega) (by omega)
            exact if_neg (by unfold leftF; omega)
          exact ⟨_, _, _, _, _, by rw [er], by rw [ovF_hi (gosF_wf (-1) hW m (by omega) (by omega)).2], rfl⟩
        · refine ev_iconst (v := (nI 1)) hC dX12_isLeft_39 (by decide) ?_
          refine ev_goto (tgt := 44) hC dX12_isLeft_40 (by decide) ?_
          refine ev_istore_n (lv' := [(3, .int (nI 1)), (0, .ref (a 0)), (1, .int (nI k)), (2, .int (nI n))]) hC dX12_isLeft_44 rfl (by decide) rfl ?_
          refine ev_aload_n hC dX12_isLeft_45 rfl 1 rfl ?_
          refine ev_callV (As := []) (st := []) (wf := []) hC cv_X12_187 (m_X12_goesBack G ro a (gosF (-1) S m) I F B' T' R' K' D hI ac sp en iw op (-1) rd' ra ki nu tv) (by decide) rfl rfl (Nat.le_of_ble_eq_true rfl) (List.Perm.of_eq (List.append_nil _).symm) (mw 0 rfl) rfl dX12_isLeft_46 (by decide) (by decide) ?_
          rintro _ _ _ ⟨rfl, rfl, rfl⟩
          refine ev_ws (List.append_nil _) ?_
          show Ev G X 0 0 49 [(3, .int (nI 1)), (0, .ref (a 0)), (1, .int (nI k)), (2, .int (nI n))] [] (MW G a (ovF (gosF (-1) S m) F 32) I F B' T' R' K' D hI ac sp en iw op (-1) rd' ra ki nu tv) ro
          refine ev_iload_n hC dX12_isLeft_49 rfl 0 rfl ?_
          refine ev_zret hC hR rfl (by rfl) dX12_isLeft_50 ?_
          have er : bI (leftF S k n) = nI 1 := by
            have hmono := gosF_salt (-1) hW hk (m := m) n (by omega) (by omega) (by omega)
            exact if_pos (by obtain rfl : m = n := (by omega); unfold leftF; omega)
          exact ⟨_, _, _, _, _, by rw [er], by rw [ovF_hi (gosF_wf (-1) hW m (by omega) (by omega)).2], rfl⟩
      · refine ev_aload_n hC dX12_isLeft_7 rfl 0 rfl ?_
        refine ev_get hC fl_X12_9_12 (mw 0 rfl) rfl dX12_isLeft_8 ?_
        refine ev_iconst (v := (nI 2)) hC dX12_isLeft_11 (by decide) ?_
        refine ev_iload_n hC dX12_isLeft_12 rfl 1 rfl ?_
        refine ev_iadd hC dX12_isLeft_13 ?_
        refine ev_top (y := (nI (2 + k))) ((nI_add _ _).trans (congrArg nI (by omega))) ?_
        refine ev_ialdN (i := 2 + k) hC (mw 1 rfl) (by omega) (by omega) dX12_isLeft_14 ?_
        refine ev_top (y := (nI (sn (gosF (-1) S m) (2 + k)))) hgs.eq ?_
        refine ev_if_leN (tgt := 28) hC dX12_isLeft_15 (by decide) (by omega) (fun c_3 => ?_) (fun c_3 => ?_)
        · refine ev_aload_n hC dX12_isLeft_28 rfl 0 rfl ?_
          refine ev_get hC fl_X12_9_12 (mw 0 rfl) rfl dX12_isLeft_29 ?_
          refine ev_iconst (v := (nI 2)) hC dX12_isLeft_32 (by decide) ?_
          refine ev_iload_n hC dX12_isLeft_33 rfl 1 rfl ?_
          refine ev_iadd hC dX12_isLeft_34 ?_
          refine ev_top (y := (nI (2 + k))) ((nI_add _ _).trans (congrArg nI (by omega))) ?_
          refine ev_ialdN (i := 2 + k) hC (mw 1 rfl) (by omega) (by omega) dX12_isLeft_35 ?_
          refine ev_top (y := (nI (sn (gosF (-1) S m) (2 + k)))) hgs.eq ?_
          refine ev_if_leN (tgt := 43) hC dX12_isLeft_36 (by decide) (by omega) (fun c_4 => ?_) (fun c_4 => absurd c_4 (by omega))
          refine ev_iconst (v := (nI 0)) hC dX12_isLeft_43 (by decide) ?_
          refine ev_istore_n (lv' := [(3, .int (nI 0)), (0, .ref (a 0)), (1, .int (nI k)), (2, .int (nI n))]) hC dX12_isLeft_44 rfl (by decide) rfl ?_
          refine ev_aload_n hC dX12_isLeft_45 rfl 1 rfl ?_
          refine ev_callV (As := []) (st := []) (wf := []) hC cv_X12_187 (m_X12_goesBack G ro a (gosF (-1) S m) I F B' T' R' K' D hI ac sp en iw op (-1) rd' ra ki nu tv) (by decide) rfl rfl (Nat.le_of_ble_eq_true rfl) (List.Perm.of_eq (List.append_nil _).symm) (mw 0 rfl) rfl dX12_isLeft_46 (by decide) (by decide) ?_
          rintro _ _ _ ⟨rfl, rfl, rfl⟩
          refine ev_ws (List.append_nil _) ?_
          show Ev G X 0 0 49 [(3, .int (nI 0)), (0, .ref (a 0)), (1, .int (nI k)), (2, .int (nI n))] [] (MW G a (ovF (gosF (-1) S m) F 32) I F B' T' R' K' D hI ac sp en iw op (-1) rd' ra ki nu tv) ro
          refine ev_iload_n hC dX12_isLeft_49 rfl 0 rfl ?_
          refine ev_zret hC hR rfl (by rfl) dX12_isLeft_50 ?_
          have er : bI (leftF S k n) = nI 0 := by
            have hmono := gosF_salt (-1) hW hk (m := m) n (by omega) (by omega) (by omega)
            exact if_neg (by unfold leftF; omega)
          exact ⟨_, _, _, _, _, by rw [er], by rw [ovF_hi (gosF_wf (-1) hW m (by omega) (by omega)).2], rfl⟩
        · refine ev_aload_n hC dX12_isLeft_18 rfl 0 rfl ?_
          refine ev_callV (As := []) (st := []) (wf := []) hC cv_X12_178 (m_X12_goes G ro a (gosF (-1) S m) I F B' T' R' K' D hI ac sp en iw op (-1) rd' ra ki nu tv ((gosF_wf (-1) hW m (by omega) (by omega)).1) (by omega) (by omega)) (by decide) rfl rfl (Nat.le_of_ble_eq_true rfl) (List.Perm.of_eq (List.append_nil _).symm) (mw 0 rfl) rfl dX12_isLeft_19 (by decide) (by decide) ?_
          rintro _ _ _ ⟨B_5, T_6, R_7, K_8, rfl, rfl, rfl, hK_9⟩
          refine ev_ws (List.append_nil _) ?_
          show Ev G X 0 0 22 [(0, .ref (a 0)), (1, .int (nI k)), (2, .int (nI n)), (3, .int (nI m))] [] (MW G a (goF (-1) (gosF (-1) S m)) I F B_5 T_6 R_7 K_8 D hI ac sp en iw op (-1) (rsF (alF (-1) (gosF (-1) S m)) rd' 6) ra ki nu tv) ro
          refine ev_iinc (v := (nI (m + 1))) (lv' := [(3, .int (nI (m + 1))), (0, .ref (a 0)), (1, .int (nI k)), (2, .int (nI n))]) hC dX12_isLeft_22 (q := 3) rfl (nI_k _ _ 1 (by decide)) (by decide) rfl ?_
          refine ev_goto (tgt := 2) hC dX12_isLeft_25 (by decide) ?_
          refine ev_lv [1, 2, 3, 0] rfl ?_
          refine ev_ws (ws' := (MW G a (gosF (-1) S (m + 1)) I F B_5 T_6 R_7 K_8 D hI ac sp en iw op (-1) (rsF (alF (-1) (gosF (-1) S m)) rd' 6) ra ki nu tv)) rfl ?_
          exact ih (m + 1) B_5 T_6 R_7 K_8 (rsF (alF (-1) (gosF (-1) S m)) rd' 6) (by omega) (by omega)
  refine ev_ws (ws' := (MW G a (gosF (-1) S 0) I F B T R K D hI ac sp en iw op (-1) rd ra ki nu tv)) rfl ?_
  refine ev_lv [1, 2, 3, 0] rfl ?_
  exact lp_2 (n - 0 + 1) 0 B T R K rd (by omega) (Nat.lt_succ_self _)

set_option maxHeartbeats 4000000 in
set_option maxRecDepth 100000 in
theorem m_X12_fill (G : GG) (ro : va_W) (a : Nat → Nat) (S I F B T R K D : Nat → Int32) (hI ac sp en iw op mu rd ra ki nu tv : Int32) (x w : Int32) (hW : WF S 9999 9999) : Mth G M_X12_fill 5 0 0 [.ref (a 0), .int x, .int w] (MW G a S I F B T R K D hI ac sp en iw op (-1) rd ra ki nu tv) ro (fun r ws' ro' => ∃ (F' : Nat → Int32), ∃ (B' : Nat → Int32), ∃ (T' : Nat → Int32), ∃ (R' : Nat → Int32), ∃ (K' : Nat → Int32), ∃ (rd' : Int32), r = some (.int (fillR S x w)) ∧ ws' = (MW G a S I F' B' T' R' K' D hI ac sp en iw op (-1) rd' ra ki nu tv) ∧ ro = ro') := by
  refine mth_of (by decide +kernel) (Nat.le_of_ble_eq_true rfl) (fun X hC hR => ?_)
  have b32 := hW.peo.le
  have b33 := hW.tre.le
  have b34 := hW.seen.le
  have b35 := hW.plan.le
  have b36 := hW.book.le
  have b37 := hW.tape.le
  show Ev G X 0 0 0 [(0, .ref (a 0)), (1, .int x), (2, .int w)] [] (MW G a S I F B T R K D hI ac sp en iw op (-1) rd ra ki nu tv) ro
  refine ev_iload_n hC dX12_fill_0 rfl 2 rfl ?_
  refine ev_callS (As := [.int w]) (st := []) (wc := []) (wf := (MW G a S I F B T R K D hI ac sp en iw op (-1) rd ra ki nu tv)) hC ct_X12_143 (m_X12_isSide G ro w) (by decide) rfl rfl (Nat.le_of_ble_eq_true rfl) (List.Perm.refl _) dX12_fill_1 (by decide) (by decide) ?_
  rintro _ _ _ ⟨rfl, rfl, rfl⟩
  refine ev_ws (List.nil_append _) ?_
  show Ev G X 0 0 4 [(0, .ref (a 0)), (1, .int x), (2, .int w)] [.int (bI ((nI 0) ≤ w ∧ w ≤ (nI 5)))] (MW G a S I F B T R K D hI ac sp en iw op (-1) rd ra ki nu tv) ro
  refine ev_if_neB (tgt := 9) hC dX12_fill_4 (by decide) (fun c_1 => ?_) (fun c_1 => ?_)
  · obtain ⟨kk, hkk, rfl⟩ := inN (m := 5) (by omega) (by assumption)
    have hpn_kk : pn (nI kk) = kk := nI_clamp (by omega)
    refine ev_iload_n hC dX12_fill_9 rfl 1 rfl ?_
    refine ev_iconst (v := (nI 1)) hC dX12_fill_10 (by decide) ?_
    refine ev_bipush (v := (nI 60)) hC dX12_fill_11 (by decide) ?_
    refine ev_callS (As := [.int x, .int (nI 1), .int (nI 60)]) (st := []) (wc := []) (wf := (MW G a S I F B T R K D hI ac sp en iw op (-1) rd ra ki nu tv)) hC ct_X12_44 (m_X12_in G ro x (nI 1) (nI 60)) (by decide) rfl rfl (Nat.le_of_ble_eq_true rfl) (List.Perm.refl _) dX12_fill_13 (by decide) (by decide) ?_
    rintro _ _ _ ⟨rfl, rfl, rfl⟩
    refine ev_ws (List.nil_append _) ?_
    show Ev G X 0 0 16 [(0, .ref (a 0)), (1, .int x), (2, .int (nI kk))] [.int (bI ((nI 1) ≤ x ∧ x ≤ (nI 60)))] (MW G a S I F B T R K D hI ac sp en iw op (-1) rd ra ki nu tv) ro
    refine ev_if_neB (tgt := 22) hC dX12_fill_16 (by decide) (fun c_2 => ?_) (fun c_2 => ?_)
    · obtain ⟨nn, hnn1, hnn, rfl⟩ := in1N (m := 60) (by omega) (by assumption)
      have hpn_nn : pn (nI nn) = nn := nI_clamp (by omega)
      refine ev_aload_n hC dX12_fill_22 rfl 0 rfl ?_
      refine ev_callV (As := []) (st := []) (wf := []) hC cv_X12_181 (m_X12_keeps G ro a S I F B T R K D hI ac sp en iw op (-1) rd ra ki nu tv) (by decide) rfl rfl (Nat.le_of_ble_eq_true rfl) (List.Perm.of_eq (List.append_nil _).symm) (mw 0 rfl) rfl dX12_fill_23 (by decide) (by decide) ?_
      rintro _ _ _ ⟨rfl, rfl, rfl⟩
      refine ev_ws (List.append_nil _) ?_
      show Ev G X 0 0 26 [(0, .ref (a 0)), (1, .int (nI nn)), (2, .int (nI kk))] [] (MW G a S I (ovF F S 32) B T R K D hI ac sp en iw op (-1) rd ra ki nu tv) ro
      refine ev_iconst (v := (nI 0)) hC dX12_fill_26 (by decide) ?_
      refine ev_istore_n (lv' := [(3, .int (nI 0)), (0, .ref (a 0)), (1, .int (nI nn)), (2, .int (nI kk))]) hC dX12_fill_27 rfl (by decide) rfl ?_
      have lp_28 : ∀ (fu_28 : Nat) (m : Nat) (f : Nat) (B' : Nat → Int32) (T' : Nat → Int32) (R' : Nat → Int32) (K' : Nat → Int32) (rd' : Int32) (hm : m + 10 * f = 1000) (hb : fillF S kk nn 100 0 = fillF S kk nn f m) (hn : f < fu_28), Ev G X 0 0 28 [(0, .ref (a 0)), (1, .int (nI nn)), (2, .int (nI kk)), (3, .int (nI m))] [] (MW G a S I (ovF F S 32) B' T' R' K' D hI ac sp en iw op (-1) rd' ra ki nu tv) ro := by
        intro fu_28
        induction fu_28 with
        | zero => intro m f B' T' R' K' rd' hm hb hn; exact absurd hn (Nat.not_lt_zero _)
        | succ fu_28 ih =>
          intro m f B' T' R' K' rd' hm hb hn
          refine ev_iload_n hC dX12_fill_28 rfl 3 rfl ?_
          refine ev_sipush (v := (nI 1000)) hC dX12_fill_29 (by decide) ?_
          refine ev_icmp_geN (tgt := 76) hC dX12_fill_32 (by decide) (by omega) (by omega) (fun c_3 => ?_) (fun c_3 => ?_)
          · refine ev_bipush (v := (-5)) hC dX12_fill_76 (by decide) ?_
            refine ev_iret hC hR rfl dX12_fill_78 ?_
            obtain rfl : f = 0 := by omega
            have er : fillR S (nI nn) (nI kk) = -5 := by rw [fillR, if_pos (by assumption), if_pos (by assumption), hpn_kk, hpn_nn, hb]; rfl
            exact ⟨_, _, _, _, _, _, by rw [er], rfl, rfl⟩
          · refine ev_aload_n hC dX12_fill_35 rfl 0 rfl ?_
            refine ev_get hC fl_X12_9_12 (mw 0 rfl) rfl dX12_fill_36 ?_
            refine ev_iconst (v := (nI 2)) hC dX12_fill_39 (by decide) ?_
            refine ev_iload_n hC dX12_fill_40 rfl 2 rfl ?_
            refine ev_iadd hC dX12_fill_41 ?_
            refine ev_top (y := (nI (2 + kk))) ((nI_add _ _).trans (congrArg nI (by omega))) ?_
            refine ev_sipush (v := (nI 999)) hC dX12_fill_42 (by decide) ?_
            refine ev_aload_n hC dX12_fill_45 rfl 0 rfl ?_
            refine ev_get hC fl_X12_9_12 (mw 0 rfl) rfl dX12_fill_46 ?_
            refine ev_iconst (v := (nI 2)) hC dX12_fill_49 (by decide) ?_
            refine ev_iload_n hC dX12_fill_50 rfl 2 rfl ?_
            refine ev_iadd hC dX12_fill_51 ?_
            refine ev_top (y := (nI (2 + kk))) ((nI_add _ _).trans (congrArg nI (by omega))) ?_
            refine ev_ialdN (i := 2 + kk) hC (mw 1 rfl) (by omega) (by omega) dX12_fill_52 ?_
            have bk_4 : NB S (2 + kk) _ := (hW.salt kk (by omega))
            have k_4 := bk_4.eq
            have lk_4 := bk_4.le
            have mk_4 := bk_4.lt
            refine ev_top (y := (nI (sn S (2 + kk)))) k_4 ?_
            refine ev_iload_n hC dX12_fill_53 rfl 3 rfl ?_
            refine ev_iadd hC dX12_fill_54 ?_
            refine ev_top (y := (nI ((sn S (2 + kk)) + m))) ((nI_add _ _).trans (congrArg nI (by omega))) ?_
            refine ev_callS (As := [.int (nI 999), .int (nI ((sn S (2 + kk)) + m))]) (st := [.int (nI (2 + kk)), .ref (a 1)]) (wc := []) (wf := (MW G a S I (ovF F S 32) B' T' R' K' D hI ac sp en iw op (-1) rd' ra ki nu tv)) hC ct_X12_140 (m_X12_less G ro (nI 999) (nI ((sn S (2 + kk)) + m))) (by decide) rfl rfl (Nat.le_of_ble_eq_true rfl) (List.Perm.refl _) dX12_fill_55 (by decide) (by decide) ?_
            rintro _ _ _ ⟨rfl, rfl, rfl⟩
            refine ev_ws (List.nil_append _) ?_
            show Ev G X 0 0 58 [(0, .ref (a 0)), (1, .int (nI nn)), (2, .int (nI kk)), (3, .int (nI m))] [.int (leF (nI 999) (nI ((sn S (2 + kk)) + m))), .int (nI (2 + kk)), .ref (a 1)] (MW G a S I (ovF F S 32) B' T' R' K' D hI ac sp en iw op (-1) rd' ra ki nu tv) ro
            refine ev_top (y := (nI (min 999 (sn S (2 + kk) + m)))) (leF_le (by omega) (by omega)) ?_
            refine ev_iastN (i := 2 + kk) (ws' := (MW G a (upd S (2 + kk) (nI (min 999 (sn S (2 + kk) + m)))) I (ovF F S 32) B' T' R' K' D hI ac sp en iw op (-1) rd' ra ki nu tv)) (q0 := 1) hC rfl (by omega) (by omega) rfl dX12_fill_58 ?_
            refine ev_ws (ws' := (MW G a (moreF S kk m) I (ovF F S 32) B' T' R' K' D hI ac sp en iw op (-1) rd' ra ki nu tv)) rfl ?_
            refine ev_aload_n hC dX12_fill_59 rfl 0 rfl ?_
            refine ev_iload_n hC dX12_fill_60 rfl 2 rfl ?_
            refine ev_iload_n hC dX12_fill_61 rfl 1 rfl ?_
            refine ev_callV (As := [.int (nI kk), .int (nI nn)]) (st := []) (wf := []) hC cv_X12_211 (m_X12_isLeft G ro a (moreF S kk m) I (ovF F S 32) B' T' R' K' D hI ac sp en iw op (-1) rd' ra ki nu tv kk nn (by omega) (moreF_wf hW (by omega)) (by omega) (by omega)) (by decide) rfl rfl (Nat.le_of_ble_eq_true rfl) (List.Perm.of_eq (List.append_nil _).symm) (mw 0 rfl) rfl dX12_fill_62 (by decide) (by decide) ?_
            rintro _ _ _ ⟨B_5, T_6, R_7, K_8, rd_9, rfl, rfl, rfl⟩
            refine ev_ws (List.append_nil _) ?_
            show Ev G X 0 0 65 [(0, .ref (a 0)), (1, .int (nI nn)), (2, .int (nI kk)), (3, .int (nI m))] [.int (bI (leftF (moreF S kk m) kk nn))] (MW G a (ovF (moreF S kk m) (ovF F S 32) 32) I (ovF F S 32) B_5 T_6 R_7 K_8 D hI ac sp en iw op (-1) rd_9 ra ki nu tv) ro
            refine ev_ws (ws' := (MW G a S I (ovF F S 32) B_5 T_6 R_7 K_8 D hI ac sp en iw op (-1) rd_9 ra ki nu tv)) (by rw [back_eq (moreF_hi (S := S) (k := kk) (m := m) (by omega))]) ?_
            refine ev_if_eqB (tgt := 70) hC dX12_fill_65 (by decide) (fun c_10 => ?_) (fun c_10 => ?_)
            · refine ev_iinc (v := (nI (m + 10))) (lv' := [(3, .int (nI (m + 10))), (0, .ref (a 0)), (1, .int (nI nn)), (2, .int (nI kk))]) hC dX12_fill_70 (q := 3) rfl (nI_k _ _ 10 (by decide)) (by decide) rfl ?_
              refine ev_goto (tgt := 28) hC dX12_fill_73 (by decide) ?_
              refine ev_lv [1, 2, 3, 0] rfl ?_
              exact ih (m + 10) (f - 1) B_5 T_6 R_7 K_8 rd_9 (by omega) (by rw [hb]; exact fill_f (by omega) (by assumption)) (by omega)
            · refine ev_iload_n hC dX12_fill_68 rfl 3 rfl ?_
              refine ev_iret hC hR rfl dX12_fill_69 ?_
              have er : fillR S (nI nn) (nI kk) = nI m := by rw [fillR, if_pos (by assumption), if_pos (by assumption), hpn_kk, hpn_nn, hb]; exact fill_t (by omega) (by assumption)
              exact ⟨_, _, _, _, _, _, by rw [er], rfl, rfl⟩
      refine ev_lv [1, 2, 3, 0] rfl ?_
      exact lp_28 (100 + 1) 0 100 B T R K rd (by omega) rfl (Nat.lt_succ_self _)
    · refine ev_bipush (v := (-2)) hC dX12_fill_19 (by decide) ?_
      refine ev_iret hC hR rfl dX12_fill_21 ?_
      have er : fillR S x (nI kk) = -2 := by rw [fillR, if_pos (by assumption), if_neg (by assumption)]
      exact ⟨_, _, _, _, _, _, by rw [er], rfl, rfl⟩
  · refine ev_iconst (v := (-1)) hC dX12_fill_7 (by decide) ?_
    refine ev_iret hC hR rfl dX12_fill_8 ?_
    have er : fillR S x w = -1 := by rw [fillR, if_neg (by assumption)]
    exact ⟨_, _, _, _, _, _, by rw [er], rfl, rfl⟩

set_option maxHeartbeats 4000000 in
set_option maxRecDepth 100000 in
theorem m_X12_see (G : GG) (ro : va_W) (a : Nat → Nat) (S I F B T R K D : Nat → Int32) (hI ac sp en iw op mu rd ra ki nu tv : Int32) (k x n : Int32) (hW : WF S 9999 9999) : Mth G M_X12_see 2 0 0 [.ref (a 0), .int k, .int x, .int n] (MW G a S I F B T R K D hI ac sp en iw op mu rd ra ki nu tv) ro (fun r ws' ro' => r = some (.int (seeR S k x n)) ∧ ws' = (MW G a (seeT S k x n) I F B T R K D hI ac sp en iw op mu rd ra ki nu tv) ∧ ro = ro') := by
  refine mth_of (by decide +kernel) (Nat.le_of_ble_eq_true rfl) (fun X hC hR => ?_)
  have b32 := hW.peo.le
  have b33 := hW.tre.le
  have b34 := hW.seen.le
  have b35 := hW.plan.le
  have b36 := hW.book.le
  have b37 := hW.tape.le
  show Ev G X 0 0 0 [(0, .ref (a 0)), (1, .int k), (2, .int x), (3, .int n)] [] (MW G a S I F B T R K D hI ac sp en iw op mu rd ra ki nu tv) ro
  refine ev_iload_n hC dX12_see_0 rfl 1 rfl ?_
  refine ev_iconst (v := (-1)) hC dX12_see_1 (by decide) ?_
  refine ev_icmp_ne (tgt := 15) hC dX12_see_2 (by decide) (fun c_1 => ?_) (fun c_1 => ?_)
  · refine ev_iload_n hC dX12_see_15 rfl 1 rfl ?_
    refine ev_callS (As := [.int k]) (st := []) (wc := []) (wf := (MW G a S I F B T R K D hI ac sp en iw op mu rd ra ki nu tv)) hC ct_X12_143 (m_X12_isSide G ro k) (by decide) rfl rfl (Nat.le_of_ble_eq_true rfl) (List.Perm.refl _) dX12_see_16 (by decide) (by decide) ?_
    rintro _ _ _ ⟨rfl, rfl, rfl⟩
    refine ev_ws (List.nil_append _) ?_
    show Ev G X 0 0 19 [(0, .ref (a 0)), (1, .int k), (2, .int x), (3, .int n)] [.int (bI ((nI 0) ≤ k ∧ k ≤ (nI 5)))] (MW G a S I F B T R K D hI ac sp en iw op mu rd ra ki nu tv) ro
    refine ev_if_neB (tgt := 24) hC dX12_see_19 (by decide) (fun c_2 => ?_) (fun c_2 => ?_)
    · refine ev_iload_n hC dX12_see_24 rfl 2 rfl ?_
      refine ev_iconst (v := (nI 0)) hC dX12_see_25 (by decide) ?_
      refine ev_sipush (v := (nI 999)) hC dX12_see_26 (by decide) ?_
      refine ev_callS (As := [.int x, .int (nI 0), .int (nI 999)]) (st := []) (wc := []) (wf := (MW G a S I F B T R K D hI ac sp en iw op mu rd ra ki nu tv)) hC ct_X12_44 (m_X12_in G ro x (nI 0) (nI 999)) (by decide) rfl rfl (Nat.le_of_ble_eq_true rfl) (List.Perm.refl _) dX12_see_29 (by decide) (by decide) ?_
      rintro _ _ _ ⟨rfl, rfl, rfl⟩
      refine ev_ws (List.nil_append _) ?_
      show Ev G X 0 0 32 [(0, .ref (a 0)), (1, .int k), (2, .int x), (3, .int n)] [.int (bI ((nI 0) ≤ x ∧ x ≤ (nI 999)))] (MW G a S I F B T R K D hI ac sp en iw op mu rd ra ki nu tv) ro
      refine ev_if_eqB (tgt := 45) hC dX12_see_32 (by decide) (fun c_3 => ?_) (fun c_3 => ?_)
      · refine ev_bipush (v := (-2)) hC dX12_see_45 (by decide) ?_
        refine ev_iret hC hR rfl dX12_see_47 ?_
        have e_4 : (seeT S k x n) = S := by simp [seeR, seeT, *]
        have e_5 : (seeR S k x n) = (-2) := by simp [seeR, seeT, *]
        exact ⟨(by rw [e_5]), (by rw [e_4]), rfl⟩
      · refine ev_iload_n hC dX12_see_35 rfl 3 rfl ?_
        refine ev_iconst (v := (nI 0)) hC dX12_see_36 (by decide) ?_
        refine ev_bipush (v := (nI 20)) hC dX12_see_37 (by decide) ?_
        refine ev_callS (As := [.int n, .int (nI 0), .int (nI 20)]) (st := []) (wc := []) (wf := (MW G a S I F B T R K D hI ac sp en iw op mu rd ra ki nu tv)) hC ct_X12_44 (m_X12_in G ro n (nI 0) (nI 20)) (by decide) rfl rfl (Nat.le_of_ble_eq_true rfl) (List.Perm.refl _) dX12_see_39 (by decide) (by decide) ?_
        rintro _ _ _ ⟨rfl, rfl, rfl⟩
        refine ev_ws (List.nil_append _) ?_
        show Ev G X 0 0 42 [(0, .ref (a 0)), (1, .int k), (2, .int x), (3, .int n)] [.int (bI ((nI 0) ≤ n ∧ n ≤ (nI 20)))] (MW G a S I F B T R K D hI ac sp en iw op mu rd ra ki nu tv) ro
        refine ev_if_neB (tgt := 48) hC dX12_see_42 (by decide) (fun c_6 => ?_) (fun c_6 => ?_)
        · refine ev_aload_n hC dX12_see_48 rfl 0 rfl ?_
          refine ev_get hC fl_X12_9_12 (mw 0 rfl) rfl dX12_see_49 ?_
          refine ev_bipush (v := (nI 34)) hC dX12_see_52 (by decide) ?_
          refine ev_ialdN (i := 34) hC (mw 1 rfl) (by omega) (by omega) dX12_see_54 ?_
          have bk_7 : NB S 34 _ := hW.seen
          have k_7 := bk_7.eq
          have lk_7 := bk_7.le
          have mk_7 := bk_7.lt
          refine ev_top (y := (nI (sn S 34))) k_7 ?_
          refine ev_iconst (v := (nI 5)) hC dX12_see_55 (by decide) ?_
          refine ev_icmp_neN (tgt := 62) hC dX12_see_56 (by decide) (by omega) (by omega) (fun c_8 => ?_) (fun c_8 => ?_)
          · refine ev_aload_n hC dX12_see_62 rfl 0 rfl ?_
            refine ev_get hC fl_X12_9_12 (mw 0 rfl) rfl dX12_see_63 ?_
            refine ev_bipush (v := (nI 75)) hC dX12_see_66 (by decide) ?_
            refine ev_aload_n hC dX12_see_68 rfl 0 rfl ?_
            refine ev_get hC fl_X12_9_12 (mw 0 rfl) rfl dX12_see_69 ?_
            refine ev_bipush (v := (nI 34)) hC dX12_see_72 (by decide) ?_
            refine ev_ialdN (i := 34) hC (mw 1 rfl) (by omega) (by omega) dX12_see_74 ?_
            have bk_9 : NB S 34 _ := hW.seen
            have k_9 := bk_9.eq
            have lk_9 := bk_9.le
            have mk_9 := bk_9.lt
            refine ev_top (y := (nI (sn S 34))) k_9 ?_
            refine ev_iadd hC dX12_see_75 ?_
            refine ev_top (y := (nI (75 + (sn S 34)))) ((nI_add _ _).trans (congrArg nI (by omega))) ?_
            refine ev_iload_n hC dX12_see_76 rfl 1 rfl ?_
            refine ev_iastN (i := 75 + (sn S 34)) (ws' := (MW G a (upd S (75 + (sn S 34)) k) I F B T R K D hI ac sp en iw op mu rd ra ki nu tv)) (q0 := 1) hC rfl (by omega) (by omega) rfl dX12_see_77 ?_
            refine ev_aload_n hC dX12_see_78 rfl 0 rfl ?_
            refine ev_get hC fl_X12_9_12 (mw 0 rfl) rfl dX12_see_79 ?_
            refine ev_bipush (v := (nI 80)) hC dX12_see_82 (by decide) ?_
            refine ev_aload_n hC dX12_see_84 rfl 0 rfl ?_
            refine ev_get hC fl_X12_9_12 (mw 0 rfl) rfl dX12_see_85 ?_
            refine ev_bipush (v := (nI 34)) hC dX12_see_88 (by decide) ?_
            refine ev_ialdN (i := 34) hC (mw 1 rfl) (by omega) (by omega) dX12_see_90 ?_
            refine ev_top (y := (S 34)) (if_neg (by omega)) ?_
            have bk_10 : NB S 34 _ := hW.seen
            have k_10 := bk_10.eq
            have lk_10 := bk_10.le
            have mk_10 := bk_10.lt
            refine ev_top (y := (nI (sn S 34))) k_10 ?_
            refine ev_iadd hC dX12_see_91 ?_
            refine ev_top (y := (nI (80 + (sn S 34)))) ((nI_add _ _).trans (congrArg nI (by omega))) ?_
            refine ev_iload_n hC dX12_see_92 rfl 2 rfl ?_
            refine ev_iastN (i := 80 + (sn S 34)) (ws' := (MW G a (upd (upd S (75 + (sn S 34)) k) (80 + (sn S 34)) x) I F B T R K D hI ac sp en iw op mu rd ra ki nu tv)) (q0 := 1) hC rfl (by omega) (by omega) rfl dX12_see_93 ?_
            refine ev_aload_n hC dX12_see_94 rfl 0 rfl ?_
            refine ev_get hC fl_X12_9_12 (mw 0 rfl) rfl dX12_see_95 ?_
            refine ev_bipush (v := (nI 85)) hC dX12_see_98 (by decide) ?_
            refine ev_aload_n hC dX12_see_100 rfl 0 rfl ?_
            refine ev_get hC fl_X12_9_12 (mw 0 rfl) rfl dX12_see_101 ?_
            refine ev_bipush (v := (nI 34)) hC dX12_see_104 (by decide) ?_
            refine ev_ialdN (i := 34) hC (mw 1 rfl) (by omega) (by omega) dX12_see_106 ?_
            refine ev_top (y := ((upd S (75 + (sn S 34)) k) 34)) (if_neg (by omega)) ?_
            refine ev_top (y := (S 34)) (if_neg (by omega)) ?_
            have bk_11 : NB S 34 _ := hW.seen
            have k_11 := bk_11.eq
            have lk_11 := bk_11.le
            have mk_11 := bk_11.lt
            refine ev_top (y := (nI (sn S 34))) k_11 ?_
            refine ev_iadd hC dX12_see_107 ?_
            refine ev_top (y := (nI (85 + (sn S 34)))) ((nI_add _ _).trans (congrArg nI (by omega))) ?_
            refine ev_iload_n hC dX12_see_108 rfl 3 rfl ?_
            refine ev_iastN (i := 85 + (sn S 34)) (ws' := (MW G a (upd (upd (upd S (75 + (sn S 34)) k) (80 + (sn S 34)) x) (85 + (sn S 34)) n) I F B T R K D hI ac sp en iw op mu rd ra ki nu tv)) (q0 := 1) hC rfl (by omega) (by omega) rfl dX12_see_109 ?_
            refine ev_aload_n hC dX12_see_110 rfl 0 rfl ?_
            refine ev_get hC fl_X12_9_12 (mw 0 rfl) rfl dX12_see_111 ?_
            refine ev_bipush (v := (nI 34)) hC dX12_see_114 (by decide) ?_
            refine ev_dup2 hC dX12_see_116 rfl rfl ?_
            refine ev_ialdN (i := 34) hC (mw 1 rfl) (by omega) (by omega) dX12_see_117 ?_
            refine ev_top (y := ((upd (upd S (75 + (sn S 34)) k) (80 + (sn S 34)) x) 34)) (if_neg (by omega)) ?_
            refine ev_top (y := ((upd S (75 + (sn S 34)) k) 34)) (if_neg (by omega)) ?_
            refine ev_top (y := (S 34)) (if_neg (by omega)) ?_
            have bk_12 : NB S 34 _ := hW.seen
            have k_12 := bk_12.eq
            have lk_12 := bk_12.le
            have mk_12 := bk_12.lt
            refine ev_top (y := (nI (sn S 34))) k_12 ?_
            refine ev_iconst (v := (nI 1)) hC dX12_see_118 (by decide) ?_
            refine ev_iadd hC dX12_see_119 ?_
            refine ev_top (y := (nI (sn S 34 + 1))) ((nI_add _ _).trans (congrArg nI (by omega))) ?_
            refine ev_iastN (i := 34) (ws' := (MW G a (upd (upd (upd (upd S (75 + (sn S 34)) k) (80 + (sn S 34)) x) (85 + (sn S 34)) n) 34 (nI (sn S 34 + 1))) I F B T R K D hI ac sp en iw op mu rd ra ki nu tv)) (q0 := 1) hC rfl (by omega) (by omega) rfl dX12_see_120 ?_
            refine ev_aload_n hC dX12_see_121 rfl 0 rfl ?_
            refine ev_get hC fl_X12_9_12 (mw 0 rfl) rfl dX12_see_122 ?_
            refine ev_bipush (v := (nI 34)) hC dX12_see_125 (by decide) ?_
            refine ev_ialdN (i := 34) hC (mw 1 rfl) (by omega) (by omega) dX12_see_127 ?_
            refine ev_top (y := (nI (sn S 34 + 1))) (if_pos rfl) ?_
            refine ev_iret hC hR rfl dX12_see_128 ?_
            have e_13 : (seeT S k x n) = (upd (upd (upd (upd S (75 + (sn S 34)) k) (80 + (sn S 34)) x) (85 + (sn S 34)) n) 34 (nI (sn S 34 + 1))) := by simp [seeR, seeT, *]
            have e_14 : (seeR S k x n) = (nI (sn S 34 + 1)) := by simp [seeR, seeT, *]
            exact ⟨(by rw [e_14]), (by rw [e_13]), rfl⟩
          · refine ev_bipush (v := (-4)) hC dX12_see_59 (by decide) ?_
            refine ev_iret hC hR rfl dX12_see_61 ?_
            have e_15 : (seeT S k x n) = S := by simp [seeR, seeT, *]
            have e_16 : (seeR S k x n) = (-4) := by simp [seeR, seeT, *]
            exact ⟨(by rw [e_16]), (by rw [e_15]), rfl⟩
        · refine ev_bipush (v := (-2)) hC dX12_see_45 (by decide) ?_
          refine ev_iret hC hR rfl dX12_see_47 ?_
          have e_17 : (seeT S k x n) = S := by simp [seeR, seeT, *]
          have e_18 : (seeR S k x n) = (-2) := by simp [seeR, seeT, *]
          exact ⟨(by rw [e_18]), (by rw [e_17]), rfl⟩
    · refine ev_iconst (v := (-1)) hC dX12_see_22 (by decide) ?_
      refine ev_iret hC hR rfl dX12_see_23 ?_
      have e_19 : (seeT S k x n) = S := by simp [seeR, seeT, *]
      have e_20 : (seeR S k x n) = (-1) := by simp [seeR, seeT, *]
      exact ⟨(by rw [e_20]), (by rw [e_19]), rfl⟩
  · refine ev_aload_n hC dX12_see_5 rfl 0 rfl ?_
    refine ev_get hC fl_X12_9_12 (mw 0 rfl) rfl dX12_see_6 ?_
    refine ev_bipush (v := (nI 34)) hC dX12_see_9 (by decide) ?_
    refine ev_iconst (v := (nI 0)) hC dX12_see_11 (by decide) ?_
    refine ev_iastN (i := 34) (ws' := (MW G a (upd S 34 (nI 0)) I F B T R K D hI ac sp en iw op mu rd ra ki nu tv)) (q0 := 1) hC rfl (by omega) (by omega) rfl dX12_see_12 ?_
    refine ev_iconst (v := (nI 0)) hC dX12_see_13 (by decide) ?_
    refine ev_iret hC hR rfl dX12_see_14 ?_
    have e_21 : (seeT S k x n) = (upd S 34 (nI 0)) := by simp [seeR, seeT, *]
    have e_22 : (seeR S k x n) = (nI 0) := by simp [seeR, seeT, *]
    exact ⟨(by rw [e_22]), (by rw [e_21]), rfl⟩

set_option maxHeartbeats 4000000 in
set_option maxRecDepth 100000 in
theorem m_X12_book (G : GG) (ro : va_W) (a : Nat → Nat) (S I F B T R K D : Nat → Int32) (hI ac sp en iw op mu rd ra ki nu tv : Int32) (k x : Int32) (hW : WF S 9999 9999) : Mth G M_X12_book 2 0 0 [.ref (a 0), .int k, .int x] (MW G a S I F B T R K D hI ac sp en iw op mu rd ra ki nu tv) ro (fun r ws' ro' => r = some (.int (bookR S k x)) ∧ ws' = (MW G a (bookT S k x) I F B T R K D hI ac sp en iw op mu rd ra ki nu tv) ∧ ro = ro') := by
  refine mth_of (by decide +kernel) (Nat.le_of_ble_eq_true rfl) (fun X hC hR => ?_)
  have b32 := hW.peo.le
  have b33 := hW.tre.le
  have b34 := hW.seen.le
  have b35 := hW.plan.le
  have b36 := hW.book.le
  have b37 := hW.tape.le
  show Ev G X 0 0 0 [(0, .ref (a 0)), (1, .int k), (2, .int x)] [] (MW G a S I F B T R K D hI ac sp en iw op mu rd ra ki nu tv) ro
  refine ev_iload_n hC dX12_book_0 rfl 1 rfl ?_
  refine ev_iconst (v := (-1)) hC dX12_book_1 (by decide) ?_
  refine ev_icmp_ne (tgt := 15) hC dX12_book_2 (by decide) (fun c_1 => ?_) (fun c_1 => ?_)
  · refine ev_iload_n hC dX12_book_15 rfl 1 rfl ?_
    refine ev_callS (As := [.int k]) (st := []) (wc := []) (wf := (MW G a S I F B T R K D hI ac sp en iw op mu rd ra ki nu tv)) hC ct_X12_143 (m_X12_isSide G ro k) (by decide) rfl rfl (Nat.le_of_ble_eq_true rfl) (List.Perm.refl _) dX12_book_16 (by decide) (by decide) ?_
    rintro _ _ _ ⟨rfl, rfl, rfl⟩
    refine ev_ws (List.nil_append _) ?_
    show Ev G X 0 0 19 [(0, .ref (a 0)), (1, .int k), (2, .int x)] [.int (bI ((nI 0) ≤ k ∧ k ≤ (nI 5)))] (MW G a S I F B T R K D hI ac sp en iw op mu rd ra ki nu tv) ro
    refine ev_if_neB (tgt := 24) hC dX12_book_19 (by decide) (fun c_2 => ?_) (fun c_2 => ?_)
    · refine ev_iload_n hC dX12_book_24 rfl 2 rfl ?_
      refine ev_iconst (v := (nI 0)) hC dX12_book_25 (by decide) ?_
      refine ev_sipush (v := (nI 999)) hC dX12_book_26 (by decide) ?_
      refine ev_callS (As := [.int x, .int (nI 0), .int (nI 999)]) (st := []) (wc := []) (wf := (MW G a S I F B T R K D hI ac sp en iw op mu rd ra ki nu tv)) hC ct_X12_44 (m_X12_in G ro x (nI 0) (nI 999)) (by decide) rfl rfl (Nat.le_of_ble_eq_true rfl) (List.Perm.refl _) dX12_book_29 (by decide) (by decide) ?_
      rintro _ _ _ ⟨rfl, rfl, rfl⟩
      refine ev_ws (List.nil_append _) ?_
      show Ev G X 0 0 32 [(0, .ref (a 0)), (1, .int k), (2, .int x)] [.int (bI ((nI 0) ≤ x ∧ x ≤ (nI 999)))] (MW G a S I F B T R K D hI ac sp en iw op mu rd ra ki nu tv) ro
      refine ev_if_neB (tgt := 38) hC dX12_book_32 (by decide) (fun c_3 => ?_) (fun c_3 => ?_)
      · refine ev_aload_n hC dX12_book_38 rfl 0 rfl ?_
        refine ev_get hC fl_X12_9_12 (mw 0 rfl) rfl dX12_book_39 ?_
        refine ev_bipush (v := (nI 36)) hC dX12_book_42 (by decide) ?_
        refine ev_ialdN (i := 36) hC (mw 1 rfl) (by omega) (by omega) dX12_book_44 ?_
        have bk_4 : NB S 36 _ := hW.book
        have k_4 := bk_4.eq
        have lk_4 := bk_4.le
        have mk_4 := bk_4.lt
        refine ev_top (y := (nI (sn S 36))) k_4 ?_
        refine ev_bipush (v := (nI 8)) hC dX12_book_45 (by decide) ?_
        refine ev_icmp_neN (tgt := 53) hC dX12_book_47 (by decide) (by omega) (by omega) (fun c_5 => ?_) (fun c_5 => ?_)
        · refine ev_aload_n hC dX12_book_53 rfl 0 rfl ?_
          refine ev_get hC fl_X12_9_12 (mw 0 rfl) rfl dX12_book_54 ?_
          refine ev_bipush (v := (nI 106)) hC dX12_book_57 (by decide) ?_
          refine ev_aload_n hC dX12_book_59 rfl 0 rfl ?_
          refine ev_get hC fl_X12_9_12 (mw 0 rfl) rfl dX12_book_60 ?_
          refine ev_bipush (v := (nI 36)) hC dX12_book_63 (by decide) ?_
          refine ev_ialdN (i := 36) hC (mw 1 rfl) (by omega) (by omega) dX12_book_65 ?_
          have bk_6 : NB S 36 _ := hW.book
          have k_6 := bk_6.eq
          have lk_6 := bk_6.le
          have mk_6 := bk_6.lt
          refine ev_top (y := (nI (sn S 36))) k_6 ?_
          refine ev_iadd hC dX12_book_66 ?_
          refine ev_top (y := (nI (106 + (sn S 36)))) ((nI_add _ _).trans (congrArg nI (by omega))) ?_
          refine ev_iload_n hC dX12_book_67 rfl 1 rfl ?_
          refine ev_iastN (i := 106 + (sn S 36)) (ws' := (MW G a (upd S (106 + (sn S 36)) k) I F B T R K D hI ac sp en iw op mu rd ra ki nu tv)) (q0 := 1) hC rfl (by omega) (by omega) rfl dX12_book_68 ?_
          refine ev_aload_n hC dX12_book_69 rfl 0 rfl ?_
          refine ev_get hC fl_X12_9_12 (mw 0 rfl) rfl dX12_book_70 ?_
          refine ev_bipush (v := (nI 114)) hC dX12_book_73 (by decide) ?_
          refine ev_aload_n hC dX12_book_75 rfl 0 rfl ?_
          refine ev_get hC fl_X12_9_12 (mw 0 rfl) rfl dX12_book_76 ?_
          refine ev_bipush (v := (nI 36)) hC dX12_book_79 (by decide) ?_
          refine ev_ialdN (i := 36) hC (mw 1 rfl) (by omega) (by omega) dX12_book_81 ?_
          refine ev_top (y := (S 36)) (if_neg (by omega)) ?_
          have bk_7 : NB S 36 _ := hW.book
          have k_7 := bk_7.eq
          have lk_7 := bk_7.le
          have mk_7 := bk_7.lt
          refine ev_top (y := (nI (sn S 36))) k_7 ?_
          refine ev_iadd hC dX12_book_82 ?_
          refine ev_top (y := (nI (114 + (sn S 36)))) ((nI_add _ _).trans (congrArg nI (by omega))) ?_
          refine ev_iload_n hC dX12_book_83 rfl 2 rfl ?_
          refine ev_iastN (i := 114 + (sn S 36)) (ws' := (MW G a (upd (upd S (106 + (sn S 36)) k) (114 + (sn S 36)) x) I F B T R K D hI ac sp en iw op mu rd ra ki nu tv)) (q0 := 1) hC rfl (by omega) (by omega) rfl dX12_book_84 ?_
          refine ev_aload_n hC dX12_book_85 rfl 0 rfl ?_
          refine ev_get hC fl_X12_9_12 (mw 0 rfl) rfl dX12_book_86 ?_
          refine ev_bipush (v := (nI 36)) hC dX12_book_89 (by decide) ?_
          refine ev_dup2 hC dX12_book_91 rfl rfl ?_
          refine ev_ialdN (i := 36) hC (mw 1 rfl) (by omega) (by omega) dX12_book_92 ?_
          refine ev_top (y := ((upd S (106 + (sn S 36)) k) 36)) (if_neg (by omega)) ?_
          refine ev_top (y := (S 36)) (if_neg (by omega)) ?_
          have bk_8 : NB S 36 _ := hW.book
          have k_8 := bk_8.eq
          have lk_8 := bk_8.le
          have mk_8 := bk_8.lt
          refine ev_top (y := (nI (sn S 36))) k_8 ?_
          refine ev_iconst (v := (nI 1)) hC dX12_book_93 (by decide) ?_
          refine ev_iadd hC dX12_book_94 ?_
          refine ev_top (y := (nI (sn S 36 + 1))) ((nI_add _ _).trans (congrArg nI (by omega))) ?_
          refine ev_iastN (i := 36) (ws' := (MW G a (upd (upd (upd S (106 + (sn S 36)) k) (114 + (sn S 36)) x) 36 (nI (sn S 36 + 1))) I F B T R K D hI ac sp en iw op mu rd ra ki nu tv)) (q0 := 1) hC rfl (by omega) (by omega) rfl dX12_book_95 ?_
          refine ev_aload_n hC dX12_book_96 rfl 0 rfl ?_
          refine ev_get hC fl_X12_9_12 (mw 0 rfl) rfl dX12_book_97 ?_
          refine ev_bipush (v := (nI 36)) hC dX12_book_100 (by decide) ?_
          refine ev_ialdN (i := 36) hC (mw 1 rfl) (by omega) (by omega) dX12_book_102 ?_
          refine ev_top (y := (nI (sn S 36 + 1))) (if_pos rfl) ?_
          refine ev_iret hC hR rfl dX12_book_103 ?_
          have e_9 : (bookT S k x) = (upd (upd (upd S (106 + (sn S 36)) k) (114 + (sn S 36)) x) 36 (nI (sn S 36 + 1))) := by simp [bookR, bookT, *]
          have e_10 : (bookR S k x) = (nI (sn S 36 + 1)) := by simp [bookR, bookT, *]
          exact ⟨(by rw [e_10]), (by rw [e_9]), rfl⟩
        · refine ev_bipush (v := (-4)) hC dX12_book_50 (by decide) ?_
          refine ev_iret hC hR rfl dX12_book_52 ?_
          have e_11 : (bookT S k x) = S := by simp [bookR, bookT, *]
          have e_12 : (bookR S k x) = (-4) := by simp [bookR, bookT, *]
          exact ⟨(by rw [e_12]), (by rw [e_11]), rfl⟩
      · refine ev_bipush (v := (-2)) hC dX12_book_35 (by decide) ?_
        refine ev_iret hC hR rfl dX12_book_37 ?_
        have e_13 : (bookT S k x) = S := by simp [bookR, bookT, *]
        have e_14 : (bookR S k x) = (-2) := by simp [bookR, bookT, *]
        exact ⟨(by rw [e_14]), (by rw [e_13]), rfl⟩
    · refine ev_iconst (v := (-1)) hC dX12_book_22 (by decide) ?_
      refine ev_iret hC hR rfl dX12_book_23 ?_
      have e_15 : (bookT S k x) = S := by simp [bookR, bookT, *]
      have e_16 : (bookR S k x) = (-1) := by simp [bookR, bookT, *]
      exact ⟨(by rw [e_16]), (by rw [e_15]), rfl⟩
  · refine ev_aload_n hC dX12_book_5 rfl 0 rfl ?_
    refine ev_get hC fl_X12_9_12 (mw 0 rfl) rfl dX12_book_6 ?_
    refine ev_bipush (v := (nI 36)) hC dX12_book_9 (by decide) ?_
    refine ev_iconst (v := (nI 0)) hC dX12_book_11 (by decide) ?_
    refine ev_iastN (i := 36) (ws' := (MW G a (upd S 36 (nI 0)) I F B T R K D hI ac sp en iw op mu rd ra ki nu tv)) (q0 := 1) hC rfl (by omega) (by omega) rfl dX12_book_12 ?_
    refine ev_iconst (v := (nI 0)) hC dX12_book_13 (by decide) ?_
    refine ev_iret hC hR rfl dX12_book_14 ?_
    have e_17 : (bookT S k x) = (upd S 36 (nI 0)) := by simp [bookR, bookT, *]
    have e_18 : (bookR S k x) = (nI 0) := by simp [bookR, bookT, *]
    exact ⟨(by rw [e_18]), (by rw [e_17]), rfl⟩

set_option maxHeartbeats 4000000 in
set_option maxRecDepth 100000 in
theorem m_X12_plan (G : GG) (ro : va_W) (a : Nat → Nat) (S I F B T R K D : Nat → Int32) (hI ac sp en iw op mu rd ra ki nu tv : Int32) (w n : Int32) (hW : WF S 9999 9999) : Mth G M_X12_plan 2 0 0 [.ref (a 0), .int w, .int n] (MW G a S I F B T R K D hI ac sp en iw op mu rd ra ki nu tv) ro (fun r ws' ro' => r = some (.int (planR S w n)) ∧ ws' = (MW G a (planT S w n) I F B T R K D hI ac sp en iw op mu rd ra ki nu tv) ∧ ro = ro') := by
  refine mth_of (by decide +kernel) (Nat.le_of_ble_eq_true rfl) (fun X hC hR => ?_)
  have b32 := hW.peo.le
  have b33 := hW.tre.le
  have b34 := hW.seen.le
  have b35 := hW.plan.le
  have b36 := hW.book.le
  have b37 := hW.tape.le
  show Ev G X 0 0 0 [(0, .ref (a 0)), (1, .int w), (2, .int n)] [] (MW G a S I F B T R K D hI ac sp en iw op mu rd ra ki nu tv) ro
  refine ev_iload_n hC dX12_plan_0 rfl 1 rfl ?_
  refine ev_iconst (v := (-1)) hC dX12_plan_1 (by decide) ?_
  refine ev_icmp_ne (tgt := 15) hC dX12_plan_2 (by decide) (fun c_1 => ?_) (fun c_1 => ?_)
  · refine ev_iload_n hC dX12_plan_15 rfl 1 rfl ?_
    refine ev_iconst (v := (nI 0)) hC dX12_plan_16 (by decide) ?_
    refine ev_iconst (v := (nI 3)) hC dX12_plan_17 (by decide) ?_
    refine ev_callS (As := [.int w, .int (nI 0), .int (nI 3)]) (st := []) (wc := []) (wf := (MW G a S I F B T R K D hI ac sp en iw op mu rd ra ki nu tv)) hC ct_X12_44 (m_X12_in G ro w (nI 0) (nI 3)) (by decide) rfl rfl (Nat.le_of_ble_eq_true rfl) (List.Perm.refl _) dX12_plan_18 (by decide) (by decide) ?_
    rintro _ _ _ ⟨rfl, rfl, rfl⟩
    refine ev_ws (List.nil_append _) ?_
    show Ev G X 0 0 21 [(0, .ref (a 0)), (1, .int w), (2, .int n)] [.int (bI ((nI 0) ≤ w ∧ w ≤ (nI 3)))] (MW G a S I F B T R K D hI ac sp en iw op mu rd ra ki nu tv) ro
    refine ev_if_eqB (tgt := 53) hC dX12_plan_21 (by decide) (fun c_2 => ?_) (fun c_2 => ?_)
    · refine ev_iconst (v := (-1)) hC dX12_plan_53 (by decide) ?_
      refine ev_iret hC hR rfl dX12_plan_54 ?_
      have e1 : planR S w n = (-1) := by rw [planR, if_neg (by assumption), if_pos (by first | exact Or.inl (by assumption) | exact Or.inr (Or.inl ⟨by assumption, by assumption⟩) | exact Or.inr (Or.inr ⟨by assumption, by assumption⟩))]
      have e2 : planT S w n = S := by rw [planT, if_neg (by assumption), if_pos (by first | exact Or.inl (by assumption) | exact Or.inr (Or.inl ⟨by assumption, by assumption⟩) | exact Or.inr (Or.inr ⟨by assumption, by assumption⟩))]
      exact ⟨by rw [e1], by rw [e2], rfl⟩
    · refine ev_iload_n hC dX12_plan_24 rfl 1 rfl ?_
      refine ev_iconst (v := (nI 1)) hC dX12_plan_25 (by decide) ?_
      refine ev_iconst (v := (nI 2)) hC dX12_plan_26 (by decide) ?_
      refine ev_callS (As := [.int w, .int (nI 1), .int (nI 2)]) (st := []) (wc := []) (wf := (MW G a S I F B T R K D hI ac sp en iw op mu rd ra ki nu tv)) hC ct_X12_44 (m_X12_in G ro w (nI 1) (nI 2)) (by decide) rfl rfl (Nat.le_of_ble_eq_true rfl) (List.Perm.refl _) dX12_plan_27 (by decide) (by decide) ?_
      rintro _ _ _ ⟨rfl, rfl, rfl⟩
      refine ev_ws (List.nil_append _) ?_
      show Ev G X 0 0 30 [(0, .ref (a 0)), (1, .int w), (2, .int n)] [.int (bI ((nI 1) ≤ w ∧ w ≤ (nI 2)))] (MW G a S I F B T R K D hI ac sp en iw op mu rd ra ki nu tv) ro
      refine ev_if_eqB (tgt := 40) hC dX12_plan_30 (by decide) (fun c_3 => ?_) (fun c_3 => ?_)
      · refine ev_iload_n hC dX12_plan_40 rfl 1 rfl ?_
        refine ev_iconst (v := (nI 3)) hC dX12_plan_41 (by decide) ?_
        refine ev_icmp_ne (tgt := 55) hC dX12_plan_42 (by decide) (fun c_4 => ?_) (fun c_4 => ?_)
        · refine ev_aload_n hC dX12_plan_55 rfl 0 rfl ?_
          refine ev_get hC fl_X12_9_12 (mw 0 rfl) rfl dX12_plan_56 ?_
          refine ev_bipush (v := (nI 35)) hC dX12_plan_59 (by decide) ?_
          refine ev_ialdN (i := 35) hC (mw 1 rfl) (by omega) (by omega) dX12_plan_61 ?_
          have bk_5 : NB S 35 _ := hW.plan
          have k_5 := bk_5.eq
          have lk_5 := bk_5.le
          have mk_5 := bk_5.lt
          refine ev_top (y := (nI (sn S 35))) k_5 ?_
          refine ev_bipush (v := (nI 8)) hC dX12_plan_62 (by decide) ?_
          refine ev_icmp_neN (tgt := 70) hC dX12_plan_64 (by decide) (by omega) (by omega) (fun c_6 => ?_) (fun c_6 => ?_)
          · refine ev_aload_n hC dX12_plan_70 rfl 0 rfl ?_
            refine ev_get hC fl_X12_9_12 (mw 0 rfl) rfl dX12_plan_71 ?_
            refine ev_bipush (v := (nI 90)) hC dX12_plan_74 (by decide) ?_
            refine ev_aload_n hC dX12_plan_76 rfl 0 rfl ?_
            refine ev_get hC fl_X12_9_12 (mw 0 rfl) rfl dX12_plan_77 ?_
            refine ev_bipush (v := (nI 35)) hC dX12_plan_80 (by decide) ?_
            refine ev_ialdN (i := 35) hC (mw 1 rfl) (by omega) (by omega) dX12_plan_82 ?_
            have bk_7 : NB S 35 _ := hW.plan
            have k_7 := bk_7.eq
            have lk_7 := bk_7.le
            have mk_7 := bk_7.lt
            refine ev_top (y := (nI (sn S 35))) k_7 ?_
            refine ev_iadd hC dX12_plan_83 ?_
            refine ev_top (y := (nI (90 + (sn S 35)))) ((nI_add _ _).trans (congrArg nI (by omega))) ?_
            refine ev_iload_n hC dX12_plan_84 rfl 1 rfl ?_
            refine ev_iastN (i := 90 + (sn S 35)) (ws' := (MW G a (upd S (90 + (sn S 35)) w) I F B T R K D hI ac sp en iw op mu rd ra ki nu tv)) (q0 := 1) hC rfl (by omega) (by omega) rfl dX12_plan_85 ?_
            refine ev_aload_n hC dX12_plan_86 rfl 0 rfl ?_
            refine ev_get hC fl_X12_9_12 (mw 0 rfl) rfl dX12_plan_87 ?_
            refine ev_bipush (v := (nI 98)) hC dX12_plan_90 (by decide) ?_
            refine ev_aload_n hC dX12_plan_92 rfl 0 rfl ?_
            refine ev_get hC fl_X12_9_12 (mw 0 rfl) rfl dX12_plan_93 ?_
            refine ev_bipush (v := (nI 35)) hC dX12_plan_96 (by decide) ?_
            refine ev_ialdN (i := 35) hC (mw 1 rfl) (by omega) (by omega) dX12_plan_98 ?_
            refine ev_top (y := (S 35)) (if_neg (by omega)) ?_
            have bk_8 : NB S 35 _ := hW.plan
            have k_8 := bk_8.eq
            have lk_8 := bk_8.le
            have mk_8 := bk_8.lt
            refine ev_top (y := (nI (sn S 35))) k_8 ?_
            refine ev_iadd hC dX12_plan_99 ?_
            refine ev_top (y := (nI (98 + (sn S 35)))) ((nI_add _ _).trans (congrArg nI (by omega))) ?_
            refine ev_iload_n hC dX12_plan_100 rfl 2 rfl ?_
            refine ev_iastN (i := 98 + (sn S 35)) (ws' := (MW G a (upd (upd S (90 + (sn S 35)) w) (98 + (sn S 35)) n) I F B T R K D hI ac sp en iw op mu rd ra ki nu tv)) (q0 := 1) hC rfl (by omega) (by omega) rfl dX12_plan_101 ?_
            refine ev_aload_n hC dX12_plan_102 rfl 0 rfl ?_
            refine ev_get hC fl_X12_9_12 (mw 0 rfl) rfl dX12_plan_103 ?_
            refine ev_bipush (v := (nI 35)) hC dX12_plan_106 (by decide) ?_
            refine ev_dup2 hC dX12_plan_108 rfl rfl ?_
            refine ev_ialdN (i := 35) hC (mw 1 rfl) (by omega) (by omega) dX12_plan_109 ?_
            refine ev_top (y := ((upd S (90 + (sn S 35)) w) 35)) (if_neg (by omega)) ?_
            refine ev_top (y := (S 35)) (if_neg (by omega)) ?_
            have bk_9 : NB S 35 _ := hW.plan
            have k_9 := bk_9.eq
            have lk_9 := bk_9.le
            have mk_9 := bk_9.lt
            refine ev_top (y := (nI (sn S 35))) k_9 ?_
            refine ev_iconst (v := (nI 1)) hC dX12_plan_110 (by decide) ?_
            refine ev_iadd hC dX12_plan_111 ?_
            refine ev_top (y := (nI (sn S 35 + 1))) ((nI_add _ _).trans (congrArg nI (by omega))) ?_
            refine ev_iastN (i := 35) (ws' := (MW G a (upd (upd (upd S (90 + (sn S 35)) w) (98 + (sn S 35)) n) 35 (nI (sn S 35 + 1))) I F B T R K D hI ac sp en iw op mu rd ra ki nu tv)) (q0 := 1) hC rfl (by omega) (by omega) rfl dX12_plan_112 ?_
            refine ev_aload_n hC dX12_plan_113 rfl 0 rfl ?_
            refine ev_get hC fl_X12_9_12 (mw 0 rfl) rfl dX12_plan_114 ?_
            refine ev_bipush (v := (nI 35)) hC dX12_plan_117 (by decide) ?_
            refine ev_ialdN (i := 35) hC (mw 1 rfl) (by omega) (by omega) dX12_plan_119 ?_
            refine ev_top (y := (nI (sn S 35 + 1))) (if_pos rfl) ?_
            refine ev_iret hC hR rfl dX12_plan_120 ?_
            have e1 : planR S w n = (nI (sn S 35 + 1)) := by rw [planR, if_neg (by assumption), if_neg (by rintro (h | ⟨h, h2⟩ | ⟨h, h2⟩) <;> contradiction), if_neg (by assumption)]
            have e2 : planT S w n = upd (upd (upd S (90 + (sn S 35)) w) (98 + (sn S 35)) n) 35 (nI (sn S 35 + 1)) := by rw [planT, if_neg (by assumption), if_neg (by rintro (h | ⟨h, h2⟩ | ⟨h, h2⟩) <;> contradiction), if_neg (by assumption)]
            exact ⟨by rw [e1], by rw [e2], rfl⟩
          · refine ev_bipush (v := (-4)) hC dX12_plan_67 (by decide) ?_
            refine ev_iret hC hR rfl dX12_plan_69 ?_
            have e1 : planR S w n = (-4) := by rw [planR, if_neg (by assumption), if_neg (by rintro (h | ⟨h, h2⟩ | ⟨h, h2⟩) <;> contradiction), if_pos (by assumption)]
            have e2 : planT S w n = S := by rw [planT, if_neg (by assumption), if_neg (by rintro (h | ⟨h, h2⟩ | ⟨h, h2⟩) <;> contradiction), if_pos (by assumption)]
            exact ⟨by rw [e1], by rw [e2], rfl⟩
        · refine ev_aload_n hC dX12_plan_45 rfl 0 rfl ?_
          refine ev_iload_n hC dX12_plan_46 rfl 2 rfl ?_
          refine ev_callV (As := [.int n]) (st := []) (wf := []) hC cv_X12_147 (m_X12_isPerson G ro a S I F B T R K D hI ac sp en iw op mu rd ra ki nu tv n) (by decide) rfl rfl (Nat.le_of_ble_eq_true rfl) (List.Perm.of_eq (List.append_nil _).symm) (mw 0 rfl) rfl dX12_plan_47 (by decide) (by decide) ?_
          rintro _ _ _ ⟨rfl, rfl, rfl⟩
          refine ev_ws (List.append_nil _) ?_
          show Ev G X 0 0 50 [(0, .ref (a 0)), (1, .int w), (2, .int n)] [.int (bI ((nI 0) ≤ n ∧ n ≤ ((S 32) - nI 1)))] (MW G a S I F B T R K D hI ac sp en iw op mu rd ra ki nu tv) ro
          refine ev_if_neB (tgt := 55) hC dX12_plan_50 (by decide) (fun c_10 => ?_) (fun c_10 => ?_)
          · refine ev_aload_n hC dX12_plan_55 rfl 0 rfl ?_
            refine ev_get hC fl_X12_9_12 (mw 0 rfl) rfl dX12_plan_56 ?_
            refine ev_bipush (v := (nI 35)) hC dX12_plan_59 (by decide) ?_
            refine ev_ialdN (i := 35) hC (mw 1 rfl) (by omega) (by omega) dX12_plan_61 ?_
            have bk_11 : NB S 35 _ := hW.plan
            have k_11 := bk_11.eq
            have lk_11 := bk_11.le
            have mk_11 := bk_11.lt
            refine ev_top (y := (nI (sn S 35))) k_11 ?_
            refine ev_bipush (v := (nI 8)) hC dX12_plan_62 (by decide) ?_
            refine ev_icmp_neN (tgt := 70) hC dX12_plan_64 (by decide) (by omega) (by omega) (fun c_12 => ?_) (fun c_12 => ?_)
            · refine ev_aload_n hC dX12_plan_70 rfl 0 rfl ?_
              refine ev_get hC fl_X12_9_12 (mw 0 rfl) rfl dX12_plan_71 ?_
              refine ev_bipush (v := (nI 90)) hC dX12_plan_74 (by decide) ?_
              refine ev_aload_n hC dX12_plan_76 rfl 0 rfl ?_
              refine ev_get hC fl_X12_9_12 (mw 0 rfl) rfl dX12_plan_77 ?_
              refine ev_bipush (v := (nI 35)) hC dX12_plan_80 (by decide) ?_
              refine ev_ialdN (i := 35) hC (mw 1 rfl) (by omega) (by omega) dX12_plan_82 ?_
              have bk_13 : NB S 35 _ := hW.plan
              have k_13 := bk_13.eq
              have lk_13 := bk_13.le
              have mk_13 := bk_13.lt
              refine ev_top (y := (nI (sn S 35))) k_13 ?_
              refine ev_iadd hC dX12_plan_83 ?_
              refine ev_top (y := (nI (90 + (sn S 35)))) ((nI_add _ _).trans (congrArg nI (by omega))) ?_
              refine ev_iload_n hC dX12_plan_84 rfl 1 rfl ?_
              refine ev_iastN (i := 90 + (sn S 35)) (ws' := (MW G a (upd S (90 + (sn S 35)) w) I F B T R K D hI ac sp en iw op mu rd ra ki nu tv)) (q0 := 1) hC rfl (by omega) (by omega) rfl dX12_plan_85 ?_
              refine ev_aload_n hC dX12_plan_86 rfl 0 rfl ?_
              refine ev_get hC fl_X12_9_12 (mw 0 rfl) rfl dX12_plan_87 ?_
              refine ev_bipush (v := (nI 98)) hC dX12_plan_90 (by decide) ?_
              refine ev_aload_n hC dX12_plan_92 rfl 0 rfl ?_
              refine ev_get hC fl_X12_9_12 (mw 0 rfl) rfl dX12_plan_93 ?_
              refine ev_bipush (v := (nI 35)) hC dX12_plan_96 (by decide) ?_
              refine ev_ialdN (i := 35) hC (mw 1 rfl) (by omega) (by omega) dX12_plan_98 ?_
              refine ev_top (y := (S 35)) (if_neg (by omega)) ?_
              have bk_14 : NB S 35 _ := hW.plan
              have k_14 := bk_14.eq
              have lk_14 := bk_14.le
              have mk_14 := bk_14.lt
              refine ev_top (y := (nI (sn S 35))) k_14 ?_
              refine ev_iadd hC dX12_plan_99 ?_
              refine ev_top (y := (nI (98 + (sn S 35)))) ((nI_add _ _).trans (congrArg nI (by omega))) ?_
              refine ev_iload_n hC dX12_plan_100 rfl 2 rfl ?_
              refine ev_iastN (i := 98 + (sn S 35)) (ws' := (MW G a (upd (upd S (90 + (sn S 35)) w) (98 + (sn S 35)) n) I F B T R K D hI ac sp en iw op mu rd ra ki nu tv)) (q0 := 1) hC rfl (by omega) (by omega) rfl dX12_plan_101 ?_
              refine ev_aload_n hC dX12_plan_102 rfl 0 rfl ?_
              refine ev_get hC fl_X12_9_12 (mw 0 rfl) rfl dX12_plan_103 ?_
              refine ev_bipush (v := (nI 35)) hC dX12_plan_106 (by decide) ?_
              refine ev_dup2 hC dX12_plan_108 rfl rfl ?_
              refine ev_ialdN (i := 35) hC (mw 1 rfl) (by omega) (by omega) dX12_plan_109 ?_
              refine ev_top (y := ((upd S (90 + (sn S 35)) w) 35)) (if_neg (by omega)) ?_
              refine ev_top (y := (S 35)) (if_neg (by omega)) ?_
              have bk_15 : NB S 35 _ := hW.plan
              have k_15 := bk_15.eq
              have lk_15 := bk_15.le
              have mk_15 := bk_15.lt
              refine ev_top (y := (nI (sn S 35))) k_15 ?_
              refine ev_iconst (v := (nI 1)) hC dX12_plan_110 (by decide) ?_
              refine ev_iadd hC dX12_plan_111 ?_
              refine ev_top (y := (nI (sn S 35 + 1))) ((nI_add _ _).trans (congrArg nI (by omega))) ?_
              refine ev_iastN (i := 35) (ws' := (MW G a (upd (upd (upd S (90 + (sn S 35)) w) (98 + (sn S 35)) n) 35 (nI (sn S 35 + 1))) I F B T R K D hI ac sp en iw op mu rd ra ki nu tv)) (q0 := 1) hC rfl (by omega) (by omega) rfl dX12_plan_112 ?_
              refine ev_aload_n hC dX12_plan_113 rfl 0 rfl ?_
              refine ev_get hC fl_X12_9_12 (mw 0 rfl) rfl dX12_plan_114 ?_
              refine ev_bipush (v := (nI 35)) hC dX12_plan_117 (by decide) ?_
              refine ev_ialdN (i := 35) hC (mw 1 rfl) (by omega) (by omega) dX12_plan_119 ?_
              refine ev_top (y := (nI (sn S 35 + 1))) (if_pos rfl) ?_
              refine ev_iret hC hR rfl dX12_plan_120 ?_
              have e1 : planR S w n = (nI (sn S 35 + 1)) := by rw [planR, if_neg (by assumption), if_neg (by rintro (h | ⟨h, h2⟩ | ⟨h, h2⟩) <;> contradiction), if_neg (by assumption)]
              have e2 : planT S w n = upd (upd (upd S (90 + (sn S 35)) w) (98 + (sn S 35)) n) 35 (nI (sn S 35 + 1)) := by rw [planT, if_neg (by assumption), if_neg (by rintro (h | ⟨h, h2⟩ | ⟨h, h2⟩) <;> contradiction), if_neg (by assumption)]
              exact ⟨by rw [e1], by rw [e2], rfl⟩
            · refine ev_bipush (v := (-4)) hC dX12_plan_67 (by decide) ?_
              refine ev_iret hC hR rfl dX12_plan_69 ?_
              have e1 : planR S w n = (-4) := by rw [planR, if_neg (by assumption), if_neg (by rintro (h | ⟨h, h2⟩ | ⟨h, h2⟩) <;> contradiction), if_pos (by assumption)]
              have e2 : planT S w n = S := by rw [planT, if_neg (by assumption), if_neg (by rintro (h | ⟨h, h2⟩ | ⟨h, h2⟩) <;> contradiction), if_pos (by assumption)]
              exact ⟨by rw [e1], by rw [e2], rfl⟩
          · refine ev_iconst (v := (-1)) hC dX12_plan_53 (by decide) ?_
            refine ev_iret hC hR rfl dX12_plan_54 ?_
            have e1 : planR S w n = (-1) := by rw [planR, if_neg (by assumption), if_pos (by first | exact Or.inl (by assumption) | exact Or.inr (Or.inl ⟨by assumption, by assumption⟩) | exact Or.inr (Or.inr ⟨by assumption, by assumption⟩))]
            have e2 : planT S w n = S := by rw [planT, if_neg (by assumption), if_pos (by first | exact Or.inl (by assumption) | exact Or.inr (Or.inl ⟨by assumption, by assumption⟩) | exact Or.inr (Or.inr ⟨by assumption, by assumption⟩))]
            exact ⟨by rw [e1], by rw [e2], rfl⟩
      · refine ev_iload_n hC dX12_plan_33 rfl 2 rfl ?_
        refine ev_callS (As := [.int n]) (st := []) (wc := []) (wf := (MW G a S I F B T R K D hI ac sp en iw op mu rd ra ki nu tv)) hC ct_X12_143 (m_X12_isSide G ro n) (by decide) rfl rfl (Nat.le_of_ble_eq_true rfl) (List.Perm.refl _) dX12_plan_34 (by decide) (by decide) ?_
        rintro _ _ _ ⟨rfl, rfl, rfl⟩
        refine ev_ws (List.nil_append _) ?_
        show Ev G X 0 0 37 [(0, .ref (a 0)), (1, .int w), (2, .int n)] [.int (bI ((nI 0) ≤ n ∧ n ≤ (nI 5)))] (MW G a S I F B T R K D hI ac sp en iw op mu rd ra ki nu tv) ro
        refine ev_if_eqB (tgt := 53) hC dX12_plan_37 (by decide) (fun c_16 => ?_) (fun c_16 => ?_)
        · refine ev_iconst (v := (-1)) hC dX12_plan_53 (by decide) ?_
          refine ev_iret hC hR rfl dX12_plan_54 ?_
          have e1 : planR S w n = (-1) := by rw [planR, if_neg (by assumption), if_pos (by first | exact Or.inl (by assumption) | exact Or.inr (Or.inl ⟨by assumption, by assumption⟩) | exact Or.inr (Or.inr ⟨by assumption, by assumption⟩))]
          have e2 : planT S w n = S := by rw [planT, if_neg (by assumption), if_pos (by first | exact Or.inl (by assumption) | exact Or.inr (Or.inl ⟨by assumption, by assumption⟩) | exact Or.inr (Or.inr ⟨by assumption, by assumption⟩))]
          exact ⟨by rw [e1], by rw [e2], rfl⟩
        · refine ev_iload_n hC dX12_plan_40 rfl 1 rfl ?_
          refine ev_iconst (v := (nI 3)) hC dX12_plan_41 (by decide) ?_
          refine ev_icmp_ne (tgt := 55) hC dX12_plan_42 (by decide) (fun c_17 => ?_) (fun c_17 => ?_)
          · refine ev_aload_n hC dX12_plan_55 rfl 0 rfl ?_
            refine ev_get hC fl_X12_9_12 (mw 0 rfl) rfl dX12_plan_56 ?_
            refine ev_bipush (v := (nI 35)) hC dX12_plan_59 (by decide) ?_
            refine ev_ialdN (i := 35) hC (mw 1 rfl) (by omega) (by omega) dX12_plan_61 ?_
            have bk_18 : NB S 35 _ := hW.plan
            have k_18 := bk_18.eq
            have lk_18 := bk_18.le
            have mk_18 := bk_18.lt
            refine ev_top (y := (nI (sn S 35))) k_18 ?_
            refine ev_bipush (v := (nI 8)) hC dX12_plan_62 (by decide) ?_
            refine ev_icmp_neN (tgt := 70) hC dX12_plan_64 (by decide) (by omega) (by omega) (fun c_19 => ?_) (fun c_19 => ?_)
            · refine ev_aload_n hC dX12_plan_70 rfl 0 rfl ?_
              refine ev_get hC fl_X12_9_12 (mw 0 rfl) rfl dX12_plan_71 ?_
              refine ev_bipush (v := (nI 90)) hC dX12_plan_74 (by decide) ?_
              refine ev_aload_n hC dX12_plan_76 rfl 0 rfl ?_
              refine ev_get hC fl_X12_9_12 (mw 0 rfl) rfl dX12_plan_77 ?_
              refine ev_bipush (v := (nI 35)) hC dX12_plan_80 (by decide) ?_
              refine ev_ialdN (i := 35) hC (mw 1 rfl) (by omega) (by omega) dX12_plan_82 ?_
              have bk_20 : NB S 35 _ := hW.plan
              have k_20 := bk_20.eq
              have lk_20 := bk_20.le
              have mk_20 := bk_20.lt
              refine ev_top (y := (nI (sn S 35))) k_20 ?_
              refine ev_iadd hC dX12_plan_83 ?_
              refine ev_top (y := (nI (90 + (sn S 35)))) ((nI_add _ _).trans (congrArg nI (by omega))) ?_
              refine ev_iload_n hC dX12_plan_84 rfl 1 rfl ?_
              refine ev_iastN (i := 90 + (sn S 35)) (ws' := (MW G a (upd S (90 + (sn S 35)) w) I F B T R K D hI ac sp en iw op mu rd ra ki nu tv)) (q0 := 1) hC rfl (by omega) (by omega) rfl dX12_plan_85 ?_
              refine ev_aload_n hC dX12_plan_86 rfl 0 rfl ?_
              refine ev_get hC fl_X12_9_12 (mw 0 rfl) rfl dX12_plan_87 ?_
              refine ev_bipush (v := (nI 98)) hC dX12_plan_90 (by decide) ?_
              refine ev_aload_n hC dX12_plan_92 rfl 0 rfl ?_
              refine ev_get hC fl_X12_9_12 (mw 0 rfl) rfl dX12_plan_93 ?_
              refine ev_bipush (v := (nI 35)) hC dX12_plan_96 (by decide) ?_
              refine ev_ialdN (i := 35) hC (mw 1 rfl) (by omega) (by omega) dX12_plan_98 ?_
              refine ev_top (y := (S 35)) (if_neg (by omega)) ?_
              have bk_21 : NB S 35 _ := hW.plan
              have k_21 := bk_21.eq
              have lk_21 := bk_21.le
              have mk_21 := bk_21.lt
              refine ev_top (y := (nI (sn S 35))) k_21 ?_
              refine ev_iadd hC dX12_plan_99 ?_
              refine ev_top (y := (nI (98 + (sn S 35)))) ((nI_add _ _).trans (congrArg nI (by omega))) ?_
              refine ev_iload_n hC dX12_plan_100 rfl 2 rfl ?_
              refine ev_iastN (i := 98 + (sn S 35)) (ws' := (MW G a (upd (upd S (90 + (sn S 35)) w) (98 + (sn S 35)) n) I F B T R K D hI ac sp en iw op mu rd ra ki nu tv)) (q0 := 1) hC rfl (by omega) (by omega) rfl dX12_plan_101 ?_
              refine ev_aload_n hC dX12_plan_102 rfl 0 rfl ?_
              refine ev_get hC fl_X12_9_12 (mw 0 rfl) rfl dX12_plan_103 ?_
              refine ev_bipush (v := (nI 35)) hC dX12_plan_106 (by decide) ?_
              refine ev_dup2 hC dX12_plan_108 rfl rfl ?_
              refine ev_ialdN (i := 35) hC (mw 1 rfl) (by omega) (by omega) dX12_plan_109 ?_
              refine ev_top (y := ((upd S (90 + (sn S 35)) w) 35)) (if_neg (by omega)) ?_
              refine ev_top (y := (S 35)) (if_neg (by omega)) ?_
              have bk_22 : NB S 35 _ := hW.plan
              have k_22 := bk_22.eq
              have lk_22 := bk_22.le
              have mk_22 := bk_22.lt
              refine ev_top (y := (nI (sn S 35))) k_22 ?_
              refine ev_iconst (v := (nI 1)) hC dX12_plan_110 (by decide) ?_
              refine ev_iadd hC dX12_plan_111 ?_
              refine ev_top (y := (nI (sn S 35 + 1))) ((nI_add _ _).trans (congrArg nI (by omega))) ?_
              refine ev_iastN (i := 35) (ws' := (MW G a (upd (upd (upd S (90 + (sn S 35)) w) (98 + (sn S 35)) n) 35 (nI (sn S 35 + 1))) I F B T R K D hI ac sp en iw op mu rd ra ki nu tv)) (q0 := 1) hC rfl (by omega) (by omega) rfl dX12_plan_112 ?_
              refine ev_aload_n hC dX12_plan_113 rfl 0 rfl ?_
              refine ev_get hC fl_X12_9_12 (mw 0 rfl) rfl dX12_plan_114 ?_
              refine ev_bipush (v := (nI 35)) hC dX12_plan_117 (by decide) ?_
              refine ev_ialdN (i := 35) hC (mw 1 rfl) (by omega) (by omega) dX12_plan_119 ?_
              refine ev_top (y := (nI (sn S 35 + 1))) (if_pos rfl) ?_
              refine ev_iret hC hR rfl dX12_plan_120 ?_
              have e1 : planR S w n = (nI (sn S 35 + 1)) := by rw [planR, if_neg (by assumption), if_neg (by rintro (h | ⟨h, h2⟩ | ⟨h, h2⟩) <;> contradiction), if_neg (by assumption)]
              have e2 : planT S w n = upd (upd (upd S (90 + (sn S 35)) w) (98 + (sn S 35)) n) 35 (nI (sn S 35 + 1)) := by rw [planT, if_neg (by assumption), if_neg (by rintro (h | ⟨h, h2⟩ | ⟨h, h2⟩) <;> contradiction), if_neg (by assumption)]
              exact ⟨by rw [e1], by rw [e2], rfl⟩
            · refine ev_bipush (v := (-4)) hC dX12_plan_67 (by decide) ?_
              refine ev_iret hC hR rfl dX12_plan_69 ?_
              have e1 : planR S w n = (-4) := by rw [planR, if_neg (by assumption), if_neg (by rintro (h | ⟨h, h2⟩ | ⟨h, h2⟩) <;> contradiction), if_pos (by assumption)]
              have e2 : planT S w n = S := by rw [planT, if_neg (by assumption), if_neg (by rintro (h | ⟨h, h2⟩ | ⟨h, h2⟩) <;> contradiction), if_pos (by assumption)]
              exact ⟨by rw [e1], by rw [e2], rfl⟩
          · refine ev_aload_n hC dX12_plan_45 rfl 0 rfl ?_
            refine ev_iload_n hC dX12_plan_46 rfl 2 rfl ?_
            refine ev_callV (As := [.int n]) (st := []) (wf := []) hC cv_X12_147 (m_X12_isPerson G ro a S I F B T R K D hI ac sp en iw op mu rd ra ki nu tv n) (by decide) rfl rfl (Nat.le_of_ble_eq_true rfl) (List.Perm.of_eq (List.append_nil _).symm) (mw 0 rfl) rfl dX12_plan_47 (by decide) (by decide) ?_
            rintro _ _ _ ⟨rfl, rfl, rfl⟩
            refine ev_ws (List.append_nil _) ?_
            show Ev G X 0 0 50 [(0, .ref (a 0)), (1, .int w), (2, .int n)] [.int (bI ((nI 0) ≤ n ∧ n ≤ ((S 32) - nI 1)))] (MW G a S I F B T R K D hI ac sp en iw op mu rd ra ki nu tv) ro
            refine ev_if_neB (tgt := 55) hC dX12_plan_50 (by decide) (fun c_23 => ?_) (fun c_23 => ?_)
            · refine ev_aload_n hC dX12_plan_55 rfl 0 rfl ?_
              refine ev_get hC fl_X12_9_12 (mw 0 rfl) rfl dX12_plan_56 ?_
              refine ev_bipush (v := (nI 35)) hC dX12_plan_59 (by decide) ?_
              refine ev_ialdN (i := 35) hC (mw 1 rfl) (by omega) (by omega) dX12_plan_61 ?_
              have bk_24 : NB S 35 _ := hW.plan
              have k_24 := bk_24.eq
              have lk_24 := bk_24.le
              have mk_24 := bk_24.lt
              refine ev_top (y := (nI (sn S 35))) k_24 ?_
              refine ev_bipush (v := (nI 8)) hC dX12_plan_62 (by decide) ?_
              refine ev_icmp_neN (tgt := 70) hC dX12_plan_64 (by decide) (by omega) (by omega) (fun c_25 => ?_) (fun c_25 => ?_)
              · refine ev_aload_n hC dX12_plan_70 rfl 0 rfl ?_
                refine ev_get hC fl_X12_9_12 (mw 0 rfl) rfl dX12_plan_71 ?_
                refine ev_bipush (v := (nI 90)) hC dX12_plan_74 (by decide) ?_
                refine ev_aload_n hC dX12_plan_76 rfl 0 rfl ?_
                refine ev_get hC fl_X12_9_12 (mw 0 rfl) rfl dX12_plan_77 ?_
                refine ev_bipush (v := (nI 35)) hC dX12_plan_80 (by decide) ?_
                refine ev_ialdN (i := 35) hC (mw 1 rfl) (by omega) (by omega) dX12_plan_82 ?_
                have bk_26 : NB S 35 _ := hW.plan
                have k_26 := bk_26.eq
                have lk_26 := bk_26.le
                have mk_26 := bk_26.lt
                refine ev_top (y := (nI (sn S 35))) k_26 ?_
                refine ev_iadd hC dX12_plan_83 ?_
                refine ev_top (y := (nI (90 + (sn S 35)))) ((nI_add _ _).trans (congrArg nI (by omega))) ?_
                refine ev_iload_n hC dX12_plan_84 rfl 1 rfl ?_
                refine ev_iastN (i := 90 + (sn S 35)) (ws' := (MW G a (upd S (90 + (sn S 35)) w) I F B T R K D hI ac sp en iw op mu rd ra ki nu tv)) (q0 := 1) hC rfl (by omega) (by omega) rfl dX12_plan_85 ?_
                refine ev_aload_n hC dX12_plan_86 rfl 0 rfl ?_
                refine ev_get hC fl_X12_9_12 (mw 0 rfl) rfl dX12_plan_87 ?_
                refine ev_bipush (v := (nI 98)) hC dX12_plan_90 (by decide) ?_
                refine ev_aload_n hC dX12_plan_92 rfl 0 rfl ?_
                refine ev_get hC fl_X12_9_12 (mw 0 rfl) rfl dX12_plan_93 ?_
                refine ev_bipush (v := (nI 35)) hC dX12_plan_96 (by decide) ?_
                refine ev_ialdN (i := 35) hC (mw 1 rfl) (by omega) (by omega) dX12_plan_98 ?_
                refine ev_top (y := (S 35)) (if_neg (by omega)) ?_
                have bk_27 : NB S 35 _ := hW.plan
                have k_27 := bk_27.eq
                have lk_27 := bk_27.le
                have mk_27 := bk_27.lt
                refine ev_top (y := (nI (sn S 35))) k_27 ?_
                refine ev_iadd hC dX12_plan_99 ?_
                refine ev_top (y := (nI (98 + (sn S 35)))) ((nI_add _ _).trans (congrArg nI (by omega))) ?_
                refine ev_iload_n hC dX12_plan_100 rfl 2 rfl ?_
                refine ev_iastN (i := 98 + (sn S 35)) (ws' := (MW G a (upd (upd S (90 + (sn S 35)) w) (98 + (sn S 35)) n) I F B T R K D hI ac sp en iw op mu rd ra ki nu tv)) (q0 := 1) hC rfl (by omega) (by omega) rfl dX12_plan_101 ?_
                refine ev_aload_n hC dX12_plan_102 rfl 0 rfl ?_
                refine ev_get hC fl_X12_9_12 (mw 0 rfl) rfl dX12_plan_103 ?_
                refine ev_bipush (v := (nI 35)) hC dX12_plan_106 (by decide) ?_
                refine ev_dup2 hC dX12_plan_108 rfl rfl ?_
                refine ev_ialdN (i := 35) hC (mw 1 rfl) (by omega) (by omega) dX12_plan_109 ?_
                refine ev_top (y := ((upd S (90 + (sn S 35)) w) 35)) (if_neg (by omega)) ?_
                refine ev_top (y := (S 35)) (if_neg (by omega)) ?_
                have bk_28 : NB S 35 _ := hW.plan
                have k_28 := bk_28.eq
                have lk_28 := bk_28.le
                have mk_28 := bk_28.lt
                refine ev_top (y := (nI (sn S 35))) k_28 ?_
                refine ev_iconst (v := (nI 1)) hC dX12_plan_110 (by decide) ?_
                refine ev_iadd hC dX12_plan_111 ?_
                refine ev_top (y := (nI (sn S 35 + 1))) ((nI_add _ _).trans (congrArg nI (by omega))) ?_
                refine ev_iastN (i := 35) (ws' := (MW G a (upd (upd (upd S (90 + (sn S 35)) w) (98 + (sn S 35)) n) 35 (nI (sn S 35 + 1))) I F B T R K D hI ac sp en iw op mu rd ra ki nu tv)) (q0 := 1) hC rfl (by omega) (by omega) rfl dX12_plan_112 ?_
                refine ev_aload_n hC dX12_plan_113 rfl 0 rfl ?_
                refine ev_get hC fl_X12_9_12 (mw 0 rfl) rfl dX12_plan_114 ?_
                refine ev_bipush (v := (nI 35)) hC dX12_plan_117 (by decide) ?_
                refine ev_ialdN (i := 35) hC (mw 1 rfl) (by omega) (by omega) dX12_plan_119 ?_
                refine ev_top (y := (nI (sn S 35 + 1))) (if_pos rfl) ?_
                refine ev_iret hC hR rfl dX12_plan_120 ?_
                have e1 : planR S w n = (nI (sn S 35 + 1)) := by rw [planR, if_neg (by assumption), if_neg (by rintro (h | ⟨h, h2⟩ | ⟨h, h2⟩) <;> contradiction), if_neg (by assumption)]
                have e2 : planT S w n = upd (upd (upd S (90 + (sn S 35)) w) (98 + (sn S 35)) n) 35 (nI (sn S 35 + 1)) := by rw [planT, if_neg (by assumption), if_neg (by rintro (h | ⟨h, h2⟩ | ⟨h, h2⟩) <;> contradiction), if_neg (by assumption)]
                exact ⟨by rw [e1], by rw [e2], rfl⟩
              · refine ev_bipush (v := (-4)) hC dX12_plan_67 (by decide) ?_
                refine ev_iret hC hR rfl dX12_plan_69 ?_
                have e1 : planR S w n = (-4) := by rw [planR, if_neg (by assumption), if_neg (by rintro (h | ⟨h, h2⟩ | ⟨h, h2⟩) <;> contradiction), if_pos (by assumption)]
                have e2 : planT S w n = S := by rw [planT, if_neg (by assumption), if_neg (by rintro (h | ⟨h, h2⟩ | ⟨h, h2⟩) <;> contradiction), if_pos (by assumption)]
                exact ⟨by rw [e1], by rw [e2], rfl⟩
            · refine ev_iconst (v := (-1)) hC dX12_plan_53 (by decide) ?_
              refine ev_iret hC hR rfl dX12_plan_54 ?_
              have e1 : planR S w n = (-1) := by rw [planR, if_neg (by assumption), if_pos (by first | exact Or.inl (by assumption) | exact Or.inr (Or.inl ⟨by assumption, by assumption⟩) | exact Or.inr (Or.inr ⟨by assumption, by assumption⟩))]
              have e2 : planT S w n = S := by rw [planT, if_neg (by assumption), if_pos (by first | exact Or.inl (by assumption) | exact Or.inr (Or.inl ⟨by assumption, by assumption⟩) | exact Or.inr (Or.inr ⟨by assumption, by assumption⟩))]
              exact ⟨by rw [e1], by rw [e2], rfl⟩
  · refine ev_aload_n hC dX12_plan_5 rfl 0 rfl ?_
    refine ev_get hC fl_X12_9_12 (mw 0 rfl) rfl dX12_plan_6 ?_
    refine ev_bipush (v := (nI 35)) hC dX12_plan_9 (by decide) ?_
    refine ev_iconst (v := (nI 0)) hC dX12_plan_11 (by decide) ?_
    refine ev_iastN (i := 35) (ws' := (MW G a (upd S 35 (nI 0)) I F B T R K D hI ac sp en iw op mu rd ra ki nu tv)) (q0 := 1) hC rfl (by omega) (by omega) rfl dX12_plan_12 ?_
    refine ev_iconst (v := (nI 0)) hC dX12_plan_13 (by decide) ?_
    refine ev_iret hC hR rfl dX12_plan_14 ?_
    have e1 : planR S w n = (nI 0) := by rw [planR, if_pos (by assumption)]
    have e2 : planT S w n = upd S 35 (nI 0) := by rw [planT, if_pos (by assumption)]
    exact ⟨by rw [e1], by rw [e2], rfl⟩

set_option maxHeartbeats 4000000 in
set_option maxRecDepth 100000 in
theorem m_X12_looked (G : GG) (ro : va_W) (a : Nat → Nat) (S I F B T R K D : Nat → Int32) (hI ac sp en iw op mu rd ra ki nu tv : Int32)  (hW : WF S 9999 9999) : Mth G M_X12_looked 0 0 0 [.ref (a 0)] (MW G a S I F B T R K D hI ac sp en iw op mu rd ra ki nu tv) ro (fun r ws' ro' => r = some (.int (lookedR S)) ∧ ws' = (MW G a S I F B T R K D hI ac sp en iw op mu rd ra ki nu tv) ∧ ro = ro') := by
  refine mth_of (by decide +kernel) (Nat.le_of_ble_eq_true rfl) (fun X hC hR => ?_)
  have b32 := hW.peo.le
  have b33 := hW.tre.le
  have b34 := hW.seen.le
  have b35 := hW.plan.le
  have b36 := hW.book.le
  have b37 := hW.tape.le
  show Ev G X 0 0 0 [(0, .ref (a 0))] [] (MW G a S I F B T R K D hI ac sp en iw op mu rd ra ki nu tv) ro
  refine ev_iconst (v := (nI 0)) hC dX12_looked_0 (by decide) ?_
  refine ev_istore_n (lv' := [(1, .int (nI 0)), (0, .ref (a 0))]) hC dX12_looked_1 rfl (by decide) rfl ?_
  have lp_2 : ∀ (fu_2 : Nat) (k : Nat) (hk : k ≤ sn S 36) (hb : lookedR S = lookF S (sn S 36 - k) k) (hn : sn S 36 - k < fu_2), Ev G X 0 0 2 [(0, .ref (a 0)), (1, .int (nI k))] [] (MW G a S I F B T R K D hI ac sp en iw op mu rd ra ki nu tv) ro := by
    intro fu_2
    induction fu_2 with
    | zero => intro k hk hb hn; exact absurd hn (Nat.not_lt_zero _)
    | succ fu_2 ih =>
      intro k hk hb hn
      refine ev_iload_n hC dX12_looked_2 rfl 1 rfl ?_
      refine ev_aload_n hC dX12_looked_3 rfl 0 rfl ?_
      refine ev_get hC fl_X12_9_12 (mw 0 rfl) rfl dX12_looked_4 ?_
      refine ev_bipush (v := (nI 36)) hC dX12_looked_7 (by decide) ?_
      refine ev_ialdN (i := 36) hC (mw 1 rfl) (by omega) (by omega) dX12_looked_9 ?_
      have bk_1 : NB S 36 _ := hW.book
      have k_1 := bk_1.eq
      have lk_1 := bk_1.le
      have mk_1 := bk_1.lt
      refine ev_top (y := (nI (sn S 36))) k_1 ?_
      refine ev_icmp_geN (tgt := 49) hC dX12_looked_10 (by decide) (by omega) (by omega) (fun c_2 => ?_) (fun c_2 => ?_)
      · refine ev_bipush (v := (-5)) hC dX12_looked_49 (by decide) ?_
        refine ev_iret hC hR rfl dX12_looked_51 ?_
        have er : lookedR S = -5 := by rw [hb, show sn S 36 - k = 0 by omega]; rfl
        exact ⟨by rw [er], rfl, rfl⟩
      · refine ev_aload_n hC dX12_looked_13 rfl 0 rfl ?_
        refine ev_get hC fl_X12_9_12 (mw 0 rfl) rfl dX12_looked_14 ?_
        refine ev_iconst (v := (nI 2)) hC dX12_looked_17 (by decide) ?_
        refine ev_aload_n hC dX12_looked_18 rfl 0 rfl ?_
        refine ev_get hC fl_X12_9_12 (mw 0 rfl) rfl dX12_looked_19 ?_
        refine ev_bipush (v := (nI 106)) hC dX12_looked_22 (by decide) ?_
        refine ev_iload_n hC dX12_looked_24 rfl 1 rfl ?_
        refine ev_iadd hC dX12_looked_25 ?_
        refine ev_top (y := (nI (106 + k))) ((nI_add _ _).trans (congrArg nI (by omega))) ?_
        refine ev_ialdN (i := 106 + k) hC (mw 1 rfl) (by omega) (by omega) dX12_looked_26 ?_
        have bk_3 : NB S (106 + k) _ := (hW.bside k (by omega))
        have k_3 := bk_3.eq
        have lk_3 := bk_3.le
        have mk_3 := bk_3.lt
        refine ev_top (y := (nI (sn S (106 + k)))) k_3 ?_
        refine ev_iadd hC dX12_looked_27 ?_
        refine ev_top (y := (nI (2 + (sn S (106 + k))))) ((nI_add _ _).trans (congrArg nI (by omega))) ?_
        refine ev_ialdN (i := 2 + (sn S (106 + k))) hC (mw 1 rfl) (by omega) (by omega) dX12_looked_28 ?_
        have bk_4 : NB S (2 + (sn S (106 + k))) _ := ((hW.salt ((sn S (106 + k))) (by omega)).congr (congrArg S (by omega)))
        have k_4 := bk_4.eq
        have lk_4 := bk_4.le
        have mk_4 := bk_4.lt
        refine ev_top (y := (nI (sn S (2 + (sn S (106 + k)))))) k_4 ?_
        refine ev_aload_n hC dX12_looked_29 rfl 0 rfl ?_
        refine ev_get hC fl_X12_9_12 (mw 0 rfl) rfl dX12_looked_30 ?_
        refine ev_bipush (v := (nI 114)) hC dX12_looked_33 (by decide) ?_
        refine ev_iload_n hC dX12_looked_35 rfl 1 rfl ?_
        refine ev_iadd hC dX12_looked_36 ?_
        refine ev_top (y := (nI (114 + k))) ((nI_add _ _).trans (congrArg nI (by omega))) ?_
        refine ev_ialdN (i := 114 + k) hC (mw 1 rfl) (by omega) (by omega) dX12_looked_37 ?_
        have bk_5 : NB S (114 + k) _ := (hW.bsalt k (by omega))
        have k_5 := bk_5.eq
        have lk_5 := bk_5.le
        have mk_5 := bk_5.lt
        refine ev_top (y := (nI (sn S (114 + k)))) k_5 ?_
        refine ev_icmp_eqN (tgt := 43) hC dX12_looked_38 (by decide) (by omega) (by omega) (fun c_6 => ?_) (fun c_6 => ?_)
        · refine ev_iinc (v := (nI (k + 1))) (lv' := [(1, .int (nI (k + 1))), (0, .ref (a 0))]) hC dX12_looked_43 (q := 1) rfl (nI_k _ _ 1 (by decide)) (by decide) rfl ?_
          refine ev_goto (tgt := 2) hC dX12_looked_46 (by decide) ?_
          refine ev_lv [1, 0] rfl ?_
          exact ih (k + 1) (by omega) (by rw [hb, look_f (by omega) (by assumption), show sn S 36 - (k + 1) = sn S 36 - k - 1 by omega]) (by omega)
        · refine ev_iload_n hC dX12_looked_41 rfl 1 rfl ?_
          refine ev_iret hC hR rfl dX12_looked_42 ?_
          exact ⟨by rw [show lookedR S = nI k from hb.trans (look_t (by omega) (by assumption))], rfl, rfl⟩
  refine ev_lv [1, 0] rfl ?_
  exact lp_2 (sn S 36 - 0 + 1) 0 (by omega) rfl (Nat.lt_succ_self _)
