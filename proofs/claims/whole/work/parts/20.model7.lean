set_option maxHeartbeats 4000000 in
set_option maxRecDepth 100000 in
theorem m_X12_lowest (G : GG) (ro : va_W) (u l : Nat) (part : Int32) (hl : 0 < l) (hu : u < 2 ^ 31) (hl2 : l < 2 ^ 31) : Mth G M_X12_lowest 0 0 0 [.long (lN u), .long (lN l), .int part] [] ro (fun r ws' ro' => r = some (.long (lowF u l part)) ∧ ws' = [] ∧ ro = ro') := by
  refine mth_of (by decide +kernel) (Nat.le_of_ble_eq_true rfl) (fun X hC hR => ?_)
  show Ev G X 0 0 0 [(0, .long (lN u)), (2, .long (lN l)), (4, .int part)] [] [] ro
  refine ev_lload_n hC dX12_lowest_0 rfl 0 rfl ?_
  refine ev_lstore (lv' := [(5, .long (lN u)), (0, .long (lN u)), (2, .long (lN l)), (4, .int part)]) hC dX12_lowest_1 (by decide) rfl ?_
  refine ev_lload_n hC dX12_lowest_3 rfl 2 rfl ?_
  refine ev_lstore (lv' := [(7, .long (lN l)), (5, .long (lN u)), (0, .long (lN u)), (2, .long (lN l)), (4, .int part)]) hC dX12_lowest_4 (by decide) rfl ?_
  have lp_6 : ∀ (fu_6 : Nat) (x : Nat) (y : Nat) (hx : x < 2 ^ 31) (hy : y < 2 ^ 31) (hg : Nat.gcd x y = Nat.gcd u l) (hn : y < fu_6), Ev G X 0 0 6 [(0, .long (lN u)), (2, .long (lN l)), (4, .int part), (5, .long (lN x)), (7, .long (lN y))] [] [] ro := by
    intro fu_6
    induction fu_6 with
    | zero => intro x y hx hy hg hn; exact absurd hn (Nat.not_lt_zero _)
    | succ fu_6 ih =>
      intro x y hx hy hg hn
      have hml := Nat.mod_lt x (y := y)
      refine ev_lload hC dX12_lowest_6 4 rfl ?_
      refine ev_lconst (v := (lN 0)) hC dX12_lowest_8 (by decide) ?_
      refine ev_lcmp hC dX12_lowest_9 ?_
      refine ev_if_eqL (tgt := 31) hC dX12_lowest_10 (by decide) (by omega) (by omega) (fun c_1 => ?_) (fun c_1 => ?_)
      · obtain rfl : y = 0 := by omega
        have hx0 : x = Nat.gcd u l := by rw [← hg, Nat.gcd_zero_right]
        have hpos : 0 < x := by rw [hx0]; exact Nat.gcd_pos_of_pos_right _ hl
        refine ev_iload hC dX12_lowest_31 2 rfl ?_
        refine ev_if_ne (tgt := 40) hC dX12_lowest_33 (by decide) (fun c_2 => ?_) (fun c_2 => ?_)
        · refine ev_lload_n hC dX12_lowest_40 rfl 1 rfl ?_
          refine ev_lload hC dX12_lowest_41 3 rfl ?_
          refine ev_ldiv hC dX12_lowest_43 (lN_ne0 hpos (by omega)) ?_
          refine ev_topl (y := (lN (l / x))) (pk_lDiv (by omega) (by omega) (by omega)) ?_
          refine ev_lret hC hR rfl dX12_lowest_44 ?_
          exact ⟨by rw [lowF, if_neg (by assumption), ← hx0], rfl, rfl⟩
        · refine ev_lload_n hC dX12_lowest_36 rfl 0 rfl ?_
          refine ev_goto (tgt := 41) hC dX12_lowest_37 (by decide) ?_
          refine ev_lload hC dX12_lowest_41 3 rfl ?_
          refine ev_ldiv hC dX12_lowest_43 (lN_ne0 hpos (by omega)) ?_
          refine ev_topl (y := (lN (u / x))) (pk_lDiv (by omega) (by omega) (by omega)) ?_
          refine ev_lret hC hR rfl dX12_lowest_44 ?_
          exact ⟨by rw [lowF, if_pos (by assumption), ← hx0], rfl, rfl⟩
      · refine ev_lload hC dX12_lowest_13 3 rfl ?_
        refine ev_lload hC dX12_lowest_15 4 rfl ?_
        refine ev_lrem hC dX12_lowest_17 (lN_ne0 (by omega) (by omega)) ?_
        refine ev_topl (y := (lN (x % y))) (pk_lRem (by omega) (by omega) (by omega)) ?_
        refine ev_lstore (lv' := [(9, .long (lN (x % y))), (0, .long (lN u)), (2, .long (lN l)), (4, .int part), (5, .long (lN x)), (7, .long (lN y))]) hC dX12_lowest_18 (by decide) rfl ?_
        refine ev_lload hC dX12_lowest_20 5 rfl ?_
        refine ev_lstore (lv' := [(5, .long (lN y)), (9, .long (lN (x % y))), (0, .long (lN u)), (2, .long (lN l)), (4, .int part), (7, .long (lN y))]) hC dX12_lowest_22 (by decide) rfl ?_
        refine ev_lload hC dX12_lowest_24 1 rfl ?_
        refine ev_lstore (lv' := [(7, .long (lN (x % y))), (5, .long (lN y)), (9, .long (lN (x % y))), (0, .long (lN u)), (2, .long (lN l)), (4, .int part)]) hC dX12_lowest_26 (by decide) rfl ?_
        refine ev_goto (tgt := 6) hC dX12_lowest_28 (by decide) ?_
        refine ev_lv [3, 4, 5, 1, 0] rfl ?_
        exact ih y (x % y) (by omega) (Nat.lt_of_le_of_lt (Nat.mod_le _ _) hx) (gcd_step hg) (by omega)
  refine ev_lv [2, 3, 4, 1, 0] rfl ?_
  exact lp_6 (l + 1) u l (by omega) (by omega) rfl (Nat.lt_succ_self _)

set_option maxHeartbeats 4000000 in
set_option maxRecDepth 100000 in
theorem m_X12_share (G : GG) (ro : va_W) (a : Nat → Nat) (S I F B T R K D : Nat → Int32) (hI ac sp en iw op mu rd ra ki nu tv : Int32) (x n part : Int32) (hW : WF S 9999 9999) : Mth G M_X12_share 5 0 0 [.ref (a 0), .int x, .int n, .int part] (MW G a S I F B T R K D hI ac sp en iw op (-1) rd ra ki nu tv) ro (fun r ws' ro' => ∃ (F' : Nat → Int32), ∃ (B' : Nat → Int32), ∃ (T' : Nat → Int32), ∃ (R' : Nat → Int32), ∃ (K' : Nat → Int32), ∃ (rd' : Int32), r = some (.long (shareR S x n part)) ∧ ws' = (MW G a S I F' B' T' R' K' D hI ac sp en iw op (-1) rd' ra ki nu tv) ∧ ro = ro') := by
  refine mth_of (by decide +kernel) (Nat.le_of_ble_eq_true rfl) (fun X hC hR => ?_)
  have b32 := hW.peo.le
  have b33 := hW.tre.le
  have b34 := hW.seen.le
  have b35 := hW.plan.le
  have b36 := hW.book.le
  have b37 := hW.tape.le
  show Ev G X 0 0 0 [(0, .ref (a 0)), (1, .int x), (2, .int n), (3, .int part)] [] (MW G a S I F B T R K D hI ac sp en iw op (-1) rd ra ki nu tv) ro
  refine ev_aload_n hC dX12_share_0 rfl 0 rfl ?_
  refine ev_iload_n hC dX12_share_1 rfl 1 rfl ?_
  refine ev_callV (As := [.int x]) (st := []) (wf := []) hC cv_X12_147 (m_X12_isPerson G ro a S I F B T R K D hI ac sp en iw op (-1) rd ra ki nu tv x) (by decide) rfl rfl (Nat.le_of_ble_eq_true rfl) (List.Perm.of_eq (List.append_nil _).symm) (mw 0 rfl) rfl dX12_share_2 (by decide) (by decide) ?_
  rintro _ _ _ ⟨rfl, rfl, rfl⟩
  refine ev_ws (List.append_nil _) ?_
  show Ev G X 0 0 5 [(0, .ref (a 0)), (1, .int x), (2, .int n), (3, .int part)] [.int (bI ((nI 0) ≤ x ∧ x ≤ ((S 32) - nI 1)))] (MW G a S I F B T R K D hI ac sp en iw op (-1) rd ra ki nu tv) ro
  refine ev_if_eqB (tgt := 27) hC dX12_share_5 (by decide) (fun c_1 => ?_) (fun c_1 => ?_)
  · refine ev_ldc2 (v := -9223372036854775808) hC dX12_share_27 (ft_in 1363 (by decide +kernel) rfl) ?_
    refine ev_lret hC hR rfl dX12_share_30 ?_
    have er : shareR S x n part = NOL := by rw [shareR]; exact if_neg (fun h => by first | exact absurd h.1 (by assumption) | exact absurd h.2.1 (by assumption) | exact absurd h.2.2 (by assumption))
    exact ⟨_, _, _, _, _, _, by rw [er]; rfl, rfl, rfl⟩
  · refine ev_iload_n hC dX12_share_8 rfl 2 rfl ?_
    refine ev_iconst (v := (nI 0)) hC dX12_share_9 (by decide) ?_
    refine ev_bipush (v := (nI 60)) hC dX12_share_10 (by decide) ?_
    refine ev_callS (As := [.int n, .int (nI 0), .int (nI 60)]) (st := []) (wc := []) (wf := (MW G a S I F B T R K D hI ac sp en iw op (-1) rd ra ki nu tv)) hC ct_X12_44 (m_X12_in G ro n (nI 0) (nI 60)) (by decide) rfl rfl (Nat.le_of_ble_eq_true rfl) (List.Perm.refl _) dX12_share_12 (by decide) (by decide) ?_
    rintro _ _ _ ⟨rfl, rfl, rfl⟩
    refine ev_ws (List.nil_append _) ?_
    show Ev G X 0 0 15 [(0, .ref (a 0)), (1, .int x), (2, .int n), (3, .int part)] [.int (bI ((nI 0) ≤ n ∧ n ≤ (nI 60)))] (MW G a S I F B T R K D hI ac sp en iw op (-1) rd ra ki nu tv) ro
    refine ev_if_eqB (tgt := 27) hC dX12_share_15 (by decide) (fun c_2 => ?_) (fun c_2 => ?_)
    · refine ev_ldc2 (v := -9223372036854775808) hC dX12_share_27 (ft_in 1363 (by decide +kernel) rfl) ?_
      refine ev_lret hC hR rfl dX12_share_30 ?_
      have er : shareR S x n part = NOL := by rw [shareR]; exact if_neg (fun h => by first | exact absurd h.1 (by assumption) | exact absurd h.2.1 (by assumption) | exact absurd h.2.2 (by assumption))
      exact ⟨_, _, _, _, _, _, by rw [er]; rfl, rfl, rfl⟩
    · refine ev_iload_n hC dX12_share_18 rfl 3 rfl ?_
      refine ev_iconst (v := (nI 0)) hC dX12_share_19 (by decide) ?_
      refine ev_iconst (v := (nI 1)) hC dX12_share_20 (by decide) ?_
      refine ev_callS (As := [.int part, .int (nI 0), .int (nI 1)]) (st := []) (wc := []) (wf := (MW G a S I F B T R K D hI ac sp en iw op (-1) rd ra ki nu tv)) hC ct_X12_44 (m_X12_in G ro part (nI 0) (nI 1)) (by decide) rfl rfl (Nat.le_of_ble_eq_true rfl) (List.Perm.refl _) dX12_share_21 (by decide) (by decide) ?_
      rintro _ _ _ ⟨rfl, rfl, rfl⟩
      refine ev_ws (List.nil_append _) ?_
      show Ev G X 0 0 24 [(0, .ref (a 0)), (1, .int x), (2, .int n), (3, .int part)] [.int (bI ((nI 0) ≤ part ∧ part ≤ (nI 1)))] (MW G a S I F B T R K D hI ac sp en iw op (-1) rd ra ki nu tv) ro
      refine ev_if_neB (tgt := 31) hC dX12_share_24 (by decide) (fun c_3 => ?_) (fun c_3 => ?_)
      · obtain ⟨pp, hpp, rfl⟩ := isP hW (by assumption)
        have hpn_pp : pn (nI pp) = pp := nI_clamp (by omega)
        obtain ⟨kk, hkk, rfl⟩ := inN (m := 60) (by omega) (by assumption)
        have hpn_kk : pn (nI kk) = kk := nI_clamp (by omega)
        have hall := fun i (hi : i ≤ 6) => eaA_le hW (n := kk) (by omega) (by omega) i hi
        refine ev_aload_n hC dX12_share_31 rfl 0 rfl ?_
        refine ev_callV (As := []) (st := []) (wf := []) hC cv_X12_181 (m_X12_keeps G ro a S I F B T R K D hI ac sp en iw op (-1) rd ra ki nu tv) (by decide) rfl rfl (Nat.le_of_ble_eq_true rfl) (List.Perm.of_eq (List.append_nil _).symm) (mw 0 rfl) rfl dX12_share_32 (by decide) (by decide) ?_
        rintro _ _ _ ⟨rfl, rfl, rfl⟩
        refine ev_ws (List.append_nil _) ?_
        show Ev G X 0 0 35 [(0, .ref (a 0)), (1, .int (nI pp)), (2, .int (nI kk)), (3, .int part)] [] (MW G a S I (ovF F S 32) B T R K D hI ac sp en iw op (-1) rd ra ki nu tv) ro
        refine ev_aload_n hC dX12_share_35 rfl 0 rfl ?_
        refine ev_iload_n hC dX12_share_36 rfl 2 rfl ?_
        refine ev_callV (As := [.int (nI kk)]) (st := []) (wf := []) hC cv_X12_184 (m_X12_goesOn G ro a S I (ovF F S 32) B T R K D hI ac sp en iw op (-1) rd ra ki nu tv kk hW (by omega) (by omega)) (by decide) rfl rfl (Nat.le_of_ble_eq_true rfl) (List.Perm.of_eq (List.append_nil _).symm) (mw 0 rfl) rfl dX12_share_37 (by decide) (by decide) ?_
        rintro _ _ _ ⟨B_4, T_5, R_6, K_7, rfl, rfl, rfl⟩
        refine ev_ws (List.append_nil _) ?_
        show Ev G X 0 0 40 [(0, .ref (a 0)), (1, .int (nI pp)), (2, .int (nI kk)), (3, .int part)] [] (MW G a (gosF (-1) S kk) I (ovF F S 32) B_4 T_5 R_6 K_7 D hI ac sp en iw op (-1) (raF (-1) S rd kk) ra ki nu tv) ro
        refine ev_lconst (v := (lN 0)) hC dX12_share_40 (by decide) ?_
        refine ev_lstore (lv' := [(4, .long (lN 0)), (0, .ref (a 0)), (1, .int (nI pp)), (2, .int (nI kk)), (3, .int part)]) hC dX12_share_41 (by decide) rfl ?_
        refine ev_iconst (v := (nI 0)) hC dX12_share_43 (by decide) ?_
        refine ev_istore (lv' := [(6, .int (nI 0)), (4, .long (lN 0)), (0, .ref (a 0)), (1, .int (nI pp)), (2, .int (nI kk)), (3, .int part)]) hC dX12_share_44 (by decide) rfl ?_
        have lp_46 : ∀ (fu_46 : Nat) (i : Nat) (hi : i ≤ sn S 32) (hn : sn S 32 - i < fu_46), Ev G X 0 0 46 [(0, .ref (a 0)), (1, .int (nI pp)), (2, .int (nI kk)), (3, .int part), (4, .long (lN (eaA S kk i))), (6, .int (nI i))] [] (MW G a (gosF (-1) S kk) I (ovF F S 32) B_4 T_5 R_6 K_7 D hI ac sp en iw op (-1) (raF (-1) S rd kk) ra ki nu tv) ro := by
          intro fu_46
          induction fu_46 with
          | zero => intro i hi hn; exact absurd hn (Nat.not_lt_zero _)
          | succ fu_46 ih =>
            intro i hi hn
            have hp32 : gosF (-1) S kk 32 = nI (sn S 32) := ((gosF_wf (-1) hW kk (by omega) (by omega)).2 32 (by omega)).trans hW.peo.eq
            have hai := hall i (by omega)
            have hmi : (9999 + 168 * kk) * i ≤ (9999 + 168 * kk) * 6 := Nat.mul_le_mul (Nat.le_refl _) (by omega)
            refine ev_iload hC dX12_share_46 5 rfl ?_
            refine ev_aload_n hC dX12_share_48 rfl 0 rfl ?_
            refine ev_get hC fl_X12_9_12 (mw 0 rfl) rfl dX12_share_49 ?_
            refine ev_bipush (v := (nI 32)) hC dX12_share_52 (by decide) ?_
            refine ev_ialdN (i := 32) hC (mw 1 rfl) (by omega) (by omega) dX12_share_54 ?_
            refine ev_top (y := (nI (sn S 32))) hp32 ?_
            refine ev_icmp_geN (tgt := 91) hC dX12_share_55 (by decide) (by omega) (by omega) (fun c_8 => ?_) (fun c_8 => ?_)
            · obtain rfl : i = sn S 32 := by omega
              refine ev_aload_n hC dX12_share_91 rfl 0 rfl ?_
              refine ev_get hC fl_X12_9_12 (mw 0 rfl) rfl dX12_share_92 ?_
              refine ev_bipush (v := (nI 26)) hC dX12_share_95 (by decide) ?_
              refine ev_iload_n hC dX12_share_97 rfl 1 rfl ?_
              refine ev_iadd hC dX12_share_98 ?_
              refine ev_top (y := (nI (26 + pp))) ((nI_add _ _).trans (congrArg nI (by omega))) ?_
              refine ev_ialdN (i := 26 + pp) hC (mw 1 rfl) (by omega) (by omega) dX12_share_99 ?_
              refine ev_aload_n hC dX12_share_100 rfl 0 rfl ?_
              refine ev_get hC fl_X12_18_12 (mw 0 rfl) rfl dX12_share_101 ?_
              refine ev_bipush (v := (nI 26)) hC dX12_share_104 (by decide) ?_
              refine ev_iload_n hC dX12_share_106 rfl 1 rfl ?_
              refine ev_iadd hC dX12_share_107 ?_
              refine ev_top (y := (nI (26 + pp))) ((nI_add _ _).trans (congrArg nI (by omega))) ?_
              refine ev_ialdN (i := 26 + pp) hC (mw 3 rfl) (by omega) (by omega) dX12_share_108 ?_
              refine ev_top (y := (S (26 + pp))) (if_pos (by omega)) ?_
              refine ev_isub hC dX12_share_109 ?_
              have hea_pp := eaN_eq hW (n := kk) (p := pp) (by omega) (by omega) (by omega)
              refine ev_top (y := (nI (eaN S kk pp))) hea_pp.1 ?_
              refine ev_i2l (v := lN (eaN S kk pp)) hC dX12_share_110 (nI_l (by omega)) ?_
              refine ev_lstore (lv' := [(6, .long (lN (eaN S kk pp))), (0, .ref (a 0)), (1, .int (nI pp)), (2, .int (nI kk)), (3, .int part), (4, .long (lN (eaA S kk (sn S 32))))]) hC dX12_share_111 (by decide) rfl ?_
              have hge := eaA_ge (S := S) (n := kk) (p := pp) (i := sn S 32) hpp
              refine ev_aload_n hC dX12_share_113 rfl 1 rfl ?_
              refine ev_callV (As := []) (st := []) (wf := []) hC cv_X12_187 (m_X12_goesBack G ro a (gosF (-1) S kk) I (ovF F S 32) B_4 T_5 R_6 K_7 D hI ac sp en iw op (-1) (raF (-1) S rd kk) ra ki nu tv) (by decide) rfl rfl (Nat.le_of_ble_eq_true rfl) (List.Perm.of_eq (List.append_nil _).symm) (mw 0 rfl) rfl dX12_share_114 (by decide) (by decide) ?_
              rintro _ _ _ ⟨rfl, rfl, rfl⟩
              refine ev_ws (List.append_nil _) ?_
              show Ev G X 0 0 117 [(6, .long (lN (eaN S kk pp))), (0, .ref (a 0)), (1, .int (nI pp)), (2, .int (nI kk)), (3, .int part), (4, .long (lN (eaA S kk (sn S 32))))] [] (MW G a (ovF (gosF (-1) S kk) (ovF F S 32) 32) I (ovF F S 32) B_4 T_5 R_6 K_7 D hI ac sp en iw op (-1) (raF (-1) S rd kk) ra ki nu tv) ro
              refine ev_ws (ws' := (MW G a S I (ovF F S 32) B_4 T_5 R_6 K_7 D hI ac sp en iw op (-1) (raF (-1) S rd kk) ra ki nu tv)) (by rw [back_eq (Hi.tr Hi.rf (gosF_wf (-1) hW kk (by omega) (by omega)).2)]) ?_
              refine ev_lload hC dX12_share_117 5 rfl ?_
              refine ev_lconst (v := (lN 0)) hC dX12_share_119 (by decide) ?_
              refine ev_lcmp hC dX12_share_120 ?_
              refine ev_if_neL (tgt := 130) hC dX12_share_121 (by decide) (by omega) (by omega) (fun c_9 => ?_) (fun c_9 => ?_)
              · refine ev_lload hC dX12_share_130 0 rfl ?_
                refine ev_lload hC dX12_share_132 5 rfl ?_
                refine ev_iload_n hC dX12_share_134 rfl 4 rfl ?_
                refine ev_callS (As := [.long (lN (eaN S kk pp)), .long (lN (eaA S kk (sn S 32))), .int part]) (st := []) (wc := []) (wf := (MW G a S I (ovF F S 32) B_4 T_5 R_6 K_7 D hI ac sp en iw op (-1) (raF (-1) S rd kk) ra ki nu tv)) hC ct_X12_201 (m_X12_lowest G ro (eaN S kk pp) (eaA S kk (sn S 32)) part (by omega) (by omega) (by omega)) (by decide) rfl rfl (Nat.le_of_ble_eq_true rfl) (List.Perm.refl _) dX12_share_135 (by decide) (by decide) ?_
                rintro _ _ _ ⟨rfl, rfl, rfl⟩
                refine ev_ws (List.nil_append _) ?_
                show Ev G X 0 0 138 [(6, .long (lN (eaN S kk pp))), (0, .ref (a 0)), (1, .int (nI pp)), (2, .int (nI kk)), (3, .int part), (4, .long (lN (eaA S kk (sn S 32))))] [.long (lowF (eaN S kk pp) (eaA S kk (sn S 32)) part)] (MW G a S I (ovF F S 32) B_4 T_5 R_6 K_7 D hI ac sp en iw op (-1) (raF (-1) S rd kk) ra ki nu tv) ro
                refine ev_lret hC hR rfl dX12_share_138 ?_
                have er : shareR S (nI pp) (nI kk) part = (lowF (eaN S kk pp) (eaA S kk (sn S 32)) part) := by rw [shareR, if_pos ⟨by assumption, by assumption, by assumption⟩, hpn_pp, hpn_kk, if_neg (by assumption)]
                exact ⟨_, _, _, _, _, _, by rw [er], rfl, rfl⟩
              · refine ev_ldc2 (v := -9223372036854775808) hC dX12_share_124 (ft_in 1363 (by decide +kernel) rfl) ?_
                refine ev_goto (tgt := 138) hC dX12_share_127 (by decide) ?_
                refine ev_lret hC hR rfl dX12_share_138 ?_
                have er : shareR S (nI pp) (nI kk) part = (-9223372036854775808 : Int64) := by rw [shareR, if_pos ⟨by assumption, by assumption, by assumption⟩, hpn_kk, if_pos (by assumption)]; rfl
                exact ⟨_, _, _, _, _, _, by rw [er], rfl, rfl⟩
            · refine ev_lload hC dX12_share_58 4 rfl ?_
              refine ev_aload_n hC dX12_share_60 rfl 0 rfl ?_
              refine ev_get hC fl_X12_9_12 (mw 0 rfl) rfl dX12_share_61 ?_
              refine ev_bipush (v := (nI 26)) hC dX12_share_64 (by decide) ?_
              refine ev_iload hC dX12_share_66 5 rfl ?_
              refine ev_iadd hC dX12_share_68 ?_
              refine ev_top (y := (nI (26 + i))) ((nI_add _ _).trans (congrArg nI (by omega))) ?_
              refine ev_ialdN (i := 26 + i) hC (mw 1 rfl) (by omega) (by omega) dX12_share_69 ?_
              refine ev_aload_n hC dX12_share_70 rfl 0 rfl ?_
              refine ev_get hC fl_X12_18_12 (mw 0 rfl) rfl dX12_share_71 ?_
              refine ev_bipush (v := (nI 26)) hC dX12_share_74 (by decide) ?_
              refine ev_iload hC dX12_share_76 5 rfl ?_
              refine ev_iadd hC dX12_share_78 ?_
              refine ev_top (y := (nI (26 + i))) ((nI_add _ _).trans (congrArg nI (by omega))) ?_
              refine ev_ialdN (i := 26 + i) hC (mw 3 rfl) (by omega) (by omega) dX12_share_79 ?_
              refine ev_top (y := (S (26 + i))) (if_pos (by omega)) ?_
              refine ev_isub hC dX12_share_80 ?_
              have hea_i := eaN_eq hW (n := kk) (p := i) (by omega) (by omega) (by omega)
              refine ev_top (y := (nI (eaN S kk i))) hea_i.1 ?_
              refine ev_i2l (v := lN (eaN S kk i)) hC dX12_share_81 (nI_l (by omega)) ?_
              refine ev_ladd hC dX12_share_82 ?_
              refine ev_topl (y := (lN (eaA S kk i + (eaN S kk i)))) ((lN_add _ _).trans (congrArg lN (by omega))) ?_
              refine ev_lstore (lv' := [(4, .long (lN (eaA S kk i + (eaN S kk i)))), (0, .ref (a 0)), (1, .int (nI pp)), (2, .int (nI kk)), (3, .int part), (6, .int (nI i))]) hC dX12_share_83 (by decide) rfl ?_
              refine ev_iinc (v := (nI (i + 1))) (lv' := [(6, .int (nI (i + 1))), (4, .long (lN (eaA S kk i + (eaN S kk i)))), (0, .ref (a 0)), (1, .int (nI pp)), (2, .int (nI kk)), (3, .int part)]) hC dX12_share_85 (q := 5) rfl (nI_k _ _ 1 (by decide)) (by decide) rfl ?_
              refine ev_goto (tgt := 46) hC dX12_share_88 (by decide) ?_
              refine ev_lv [2, 3, 4, 5, 1, 0] rfl ?_
              exact ih (i + 1) (by omega) (by omega)
        refine ev_lv [2, 3, 4, 5, 1, 0] rfl ?_
        exact lp_46 (sn S 32 - 0 + 1) 0 (by omega) (Nat.lt_succ_self _)
      · refine ev_ldc2 (v := -9223372036854775808) hC dX12_share_27 (ft_in 1363 (by decide +kernel) rfl) ?_
        refine ev_lret hC hR rfl dX12_share_30 ?_
        have er : shareR S x n part = NOL := by rw [shareR]; exact if_neg (fun h => by first | exact absurd h.1 (by assumption) | exact absurd h.2.1 (by assumption) | exact absurd h.2.2 (by assumption))
        exact ⟨_, _, _, _, _, _, by rw [er]; rfl, rfl, rfl⟩
