set_option maxHeartbeats 4000000 in
set_option maxRecDepth 100000 in
theorem m_X12_lowest (G : GG) (ro : va_W) (u l : Nat) (part : Int32) (hl : 0 < l) (hu : u < 2 ^ 31) (hl2 : l < 2 ^ 31) : Mth G M_X12_lowest 0 0 0 [.long (lN u), .long (lN l), .int part] [] ro (fun r ws' ro' => r = some (.long (lowF u l part)) ∧ ws' = [] ∧ ro = ro') := by
  refine mth_of (by decide +kernel) (Nat.le_of_ble_eq_true rfl) (fun X hC hR => ?_)
  show Ev G X 0 0 0 [(0, .long (lN u)), (2, .long (lN l)), (4, .int part)] [] [] ro
  refine ev_lload_n hC dX12_lowest_0 rfl 0 rfl ?_
  refine ev_lstore (lv' := [(5, .long (lN u)), (0, .long (lN u)), (2, .long (lN l)), (4, .int part)]) hC dX12_lowest_1 (by decide) rfl ?_
  refine ev_lload_n hC dX12_lowest_3 rfl 2 rfl ?_
  refine ev_lstore (lv' := [(7, .long (lN l)), (5, .long (lN u)), (0, .long (lN u)), (2, .long (lN l)), (4, .int part)]) hC dX12_lowest_4 (by decide) rfl ?_
  have lp_6 : ∀ (fu_6 : Nat) (x : Nat) (y : Nat) (hx : x < 2 ^ 31) (hy : y < 2 ^ 31) (hg : Nat.gcd x y = Nat.gcd u l) (hn : y < fu_6), Ev G X 0 0 6 [(0, .long (lN u)), (2, .long (lN l)), (4, .int part), (5, .long (lN x)), (7, .long (lN y))] [] [] ro := by
    intro fu_6
    induction fu_6 with
    | zero => intro x y hx hy hg hn; exact absurd hn (Nat.not_lt_zero _)
    | succ fu_6 ih =>
      intro x y hx hy hg hn
      have hml := Nat.mod_lt x (y := y)
      refine ev_lload hC dX12_lowest_6 4 rfl ?_
      refine ev_lconst (v := (lN 0)) hC dX12_lowest_8 (by decide) ?_
      refine ev_lcmp hC dX12_lowest_9 ?_
      refine ev_if_eqL (tgt := 31) hC dX12_lowest_10 (by decide) (by omega) (by omega) (fun c_1 => ?_) (fun c_1 => ?_)
      · obtain rfl : y = 0 := by omega
        have hx0 : x = Nat.gcd u l := by rw [← hg, Nat.gcd_zero_right]
        have hpos : 0 < x := by rw [hx0]; exact Nat.gcd_pos_of_pos_right _ hl
        refine ev_iload hC dX12_lowest_31 2 rfl ?_
        refine ev_if_ne (tgt := 40) hC dX12_lowest_33 (by decide) (fun c_2 => ?_) (fun c_2 => ?_)
        · refine ev_lload_n hC dX12_lowest_40 rfl 1 rfl ?_
          refine ev_lload hC dX12_lowest_41 3 rfl ?_
          refine ev_ldiv hC dX12_lowest_43 (lN_ne0 hpos (by omega)) ?_
          refine ev_topl (y := (lN (l / x))) (pk_lDiv (by omega) (by omega) (by omega)) ?_
          refine ev_lret hC hR rfl dX12_lowest_44 ?_
          exact ⟨by rw [lowF, if_neg (by assumption), ← hx0], rfl, rfl⟩
        · refine ev_lload_n hC dX12_lowest_36 rfl 0 rfl ?_
          refine ev_goto (tgt := 41) hC dX12_lowest_37 (by decide) ?_
          refine ev_lload hC dX12_lowest_41 3 rfl ?_
          refine ev_ldiv hC dX12_lowest_43 (lN_ne0 hpos (by omega)) ?_
          refine ev_topl (y := (lN (u / x))) (pk_lDiv (by omega) (by omega) (by omega)) ?_
          refine ev_lret hC hR rfl dX12_lowest_44 ?_
          exact ⟨by rw [lowF, if_pos (by assumption), ← hx0], rfl, rfl⟩
      · refine ev_lload hC dX12_lowest_13 3 rfl ?_
        refine ev_lload hC dX12_lowest_15 4 rfl ?_
        refine ev_lrem hC dX12_lowest_17 (lN_ne0 (by omega) (by omega)) ?_
        refine ev_topl (y := (lN (x % y))) (pk_lRem (by omega) (by omega) (by omega)) ?_
        refine ev_lstore (lv' := [(9, .long (lN (x % y))), (0, .long (lN u)), (2, .long (lN l)), (4, .int part), (5, .long (lN x)), (7, .long (lN y))]) hC dX12_lowest_18 (by decide) rfl ?_
        refine ev_lload hC dX12_lowest_20 5 rfl ?_
        refine ev_lstore (lv' := [(5, .long (lN y)), (9, .long (lN (x % y))), (0, .long (lN u)), (2, .long (lN l)), (4, .int part), (7, .long (lN y))]) hC dX12_lowest_22 (by decide) rfl ?_
        refine ev_lload hC dX12_lowest_24 1 rfl ?_
        refine ev_lstore (lv' := [(7, .long (lN (x % y))), (5, .long (lN y)), (9, .long (lN (x % y))), (0, .long (lN u)), (2, .long (lN l)), (4, .int part)]) hC dX12_lowest_26 (by decide) rfl ?_
        refine ev_goto (tgt := 6) hC dX12_lowest_28 (by decide) ?_
        refine ev_lv [3, 4, 5, 1, 0] rfl ?_
        exact ih y (x % y) (by omega) (Nat.lt_of_le_of_lt (Nat.mod_le _ _) hx) (gcd_step hg) (by omega)
  refine ev_lv [2, 3, 4, 1, 0] rfl ?_
  exact lp_6 (l + 1) u l (by omega) (by omega) rfl (Nat.lt_succ_self _)

set_option maxHeartbeats 4000000 in
set_option maxRecDepth 100000 in
theorem m_X12_share (G : GG) (ro : va_W) (a : Nat → Nat) (S I F B T R K D : Nat → Int32) (hI ac sp en iw op mu rd ra ki nu tv : Int32) (x n part : Int32) (hW : WF S 9999 9999) : Mth G M_X12_share 5 0 0 [.ref (a 0), .int x, .int n, .int part] (MW G a S I F B T R K D hI ac sp en iw op (-1) rd ra ki nu tv) ro (fun r ws' ro' => ∃ (F' : Nat → Int32), ∃ (B' : Nat → Int32), ∃ (T' : Nat → Int32), ∃ (R' : Nat → Int32), ∃ (K' : Nat → Int32), ∃ (rd' : Int32), r = some (.long (shareR S x n part)) ∧ ws' = (MW G a S I F' B' T' R' K' D hI ac sp en iw op (-1) rd' ra ki nu tv) ∧ ro = ro') := by
  refine mth_of (by decide +kernel) (Nat.le_of_ble_eq_true rfl) (fun X hC hR => ?_)
  have b32 := hW.peo.le
  have b33 := hW.tre.le
  have b34 := hW.seen.le
  have b35 := hW.plan.le
  have b36 := hW.book.le
  have b37 := hW.tape.le
  show Ev G X 0 0 0 [(0, .ref (a 0)), (1, .int x), (2, .int n), (3, .int part)] [] (MW G a S I F B T R K D hI ac sp en iw op (-1) rd ra ki nu tv) ro
  refine ev_aload_n hC dX12_share_0 rfl 0 rfl ?_
  refine ev_iload_n hC dX12_share_1 rfl 1 rfl ?_
  refine ev_callV (As := [.int x]) (st := []) (wf := []) hC cv_X12_147 (m_X12_isPerson G ro a S I F B T R K D hI ac sp en iw op (-1) rd ra ki nu tv x) (by decide) rfl rfl (Nat.le_of_ble_eq_true rfl) (List.Perm.of_eq (List.append_nil _).symm) (mw 0 rfl) rfl dX12_share_2 (by decide) (by decide) ?_
  rintro _ _ _ ⟨rfl, rfl, rfl⟩
  refine ev_ws (List.append_nil _) ?_
  show Ev G X 0 0 5 [(0, .ref (a 0)), (1, .int x), (2, .int n), (3, .int part)] [.int (bI ((nI 0) ≤ x ∧ x ≤ ((S 32) - nI 1)))] (MW G a S I F B T R K D hI ac sp en iw op (-1) rd ra ki nu tv) ro
  refine ev_if_eqB (tgt := 27) hC dX12_share_5 (by decide) (fun c_1 => ?_) (fun c_1 => ?_)
  · refine ev_ldc2 (v := -9223372036854775808) hC dX12_share_27 (ft_in 1363 (by decide +kernel) rfl) ?_
    refine ev_lret hC hR rfl dX12_share_30 ?_
    have er : shareR S x n part = NOL := by rw [shareR]; exact if_neg (fun h => by first | exact absurd h.1 (by assumption) | exact absurd h.2.1 (by assumption) | exact absurd h.2.2 (by assumption))
    exact ⟨_, _, _, _, _, _, by rw [er]; rfl, rfl, rfl⟩
  · refine ev_iload_n hC dX12_share_8 rfl 2 rfl ?_
    refine ev_iconst (v := (nI 0)) hC dX12_share_9 (by decide) ?_
    refine ev_bipush (v := (nI 60)) hC dX12_share_10 (by decide) ?_
    refine ev_callS (As := [.int n, .int (nI 0), .int (nI 60)]) (st := []) (wc := []) (wf := (MW G a S I F B T R K D hI ac sp en iw op (-1) rd ra ki nu tv)) hC ct_X12_44 (m_X12_in G ro n (nI 0) (nI 60)) (by decide) rfl rfl (Nat.le_of_ble_eq_true rfl) (List.Perm.refl _) dX12_share_12 (by decide) (by decide) ?_
    rintro _ _ _ ⟨rfl, rfl, rfl⟩
    refine ev_ws (List.nil_append _) ?_
    show Ev G X 0 0 15 [(0, .ref (a 0)), (1, .int x), (2, .int n), (3, .int part)] [.int (bI ((nI 0) ≤ n ∧ n ≤ (nI 60)))] (MW G a S I F B T R K D hI ac sp en iw op (-1) rd ra ki nu tv) ro
    refine ev_if_eqB (tgt := 27) hC dX12_share_15 (by decide) (fun c_2 => ?_) (fun c_2 => ?_)
    · refine ev_ldc2 (v := -9223372036854775808) hC dX12_share_27 (ft_in 1363 (by decide +kernel) rfl) ?_
      refine ev_lret hC hR rfl dX12_share_30 ?_
      have er : shareR S x n part = NOL := by rw [shareR]; exact if_neg (fun h => by first | exact absurd h.1 (by assumption) | exact absurd h.2.1 (by assumption) | exact absurd h.2.2 (by assumption))
      exact ⟨_, _, _, _, _, _, by rw [er]; rfl, rfl, rfl⟩
    · refine ev_iload_n hC dX12_share_18 rfl 3 rfl ?_
      refine ev_iconst (v := (nI 0)) hC dX12_share_19 (by decide) ?_
      refine ev_iconst (v := (nI 1)) hC dX12_share_20 (by decide) ?_
      refine ev_callS (As := [.int part, .int (nI 0), .int (nI 1)]) (st := []) (wc := []) (wf := (MW G a S I F B T R K D hI ac sp en iw op (-1) rd ra ki nu tv)) hC ct_X12_44 (m_X12_in G ro part (nI 0) (nI 1)) (by decide) rfl rfl (Nat.le_of_ble_eq_true rfl) (List.Perm.refl _) dX12_share_21 (by decide) (by decide) ?_
      rintro _ _ _ ⟨rfl, rfl, rfl⟩
      refine ev_ws (List.nil_append _) ?_
      show Ev G X 0 0 24 [(0, .ref (a 0)), (1, .int x), (2, .int n), (3, .int part)] [.int (bI ((nI 0) ≤ part ∧ part ≤ (nI 1)))] (MW G a S I F B T R K D hI ac sp en iw op (-1) rd ra ki nu tv) ro
      refine ev_if_neB (tgt := 31) hC dX12_share_24 (by decide) (fun c_3 => ?_) (fun c_3 => ?_)
      · obtain ⟨pp, hpp, rfl⟩ := isP hW (by assumption)
        have hpn_pp : pn (nI pp) = pp := nI_clamp (by omega)
        obtain ⟨kk, hkk, rfl⟩ := inN (m := 60) (by omega) (by assumption)
        have hpn_kk : pn (nI kk) = kk := nI_clamp (by omega)
        have hall := fun i (hi : i ≤ 6) => eaA_le hW (n := kk) (by omega) (by omega) i hi
        refine ev_aload_n hC dX12_share_31 rfl 0 rfl ?_
        refine ev_callV (As := []) (st := []) (wf := []) hC cv_X12_181 (m_X12_keeps G ro a S I F B T R K D hI ac sp en iw op (-1) rd ra ki nu tv) (by decide) rfl rfl (Nat.le_of_ble_eq_true rfl) (List.Perm.of_eq (List.append_nil _).symm) (mw 0 rfl) rfl dX12_share_32 (by decide) (by decide) ?_
        rintro _ _ _ ⟨rfl, rfl, rfl⟩
        refine ev_ws (List.append_nil _) ?_
        show Ev G X 0 0 35 [(0, .ref (a 0)), (1, .int (nI pp)), (2, .int (nI kk)), (3, .int part)] [] (MW G a S I (ovF F S 32) B T R K D hI ac sp en iw op (-1) rd ra ki nu tv) ro
        refine ev_aload_n hC dX12_share_35 rfl 0 rfl ?_
        refine ev_iload_n hC dX12_share_36 rfl 2 rfl ?_
        refine ev_callV (As := [.int (nI kk)]) (st := []) (wf := []) hC cv_X12_184 (m_X12_goesOn G ro a S I (ovF F S 32) B T R K D hI ac sp en iw op (-1) rd ra ki nu tv kk hW (by omega) (by omega)) (by decide) rfl rfl (Nat.le_of_ble_eq_true rfl) (List.Perm.of_eq (List.append_nil _).symm) (mw 0 rfl) rfl dX12_share_37 (by decide) (by decide) ?_
        rintro _ _ _ ⟨B_4, T_5, R_6, K_7, rfl, rfl, rfl⟩
        refine ev_ws (List.append_nil _) ?_
        show Ev G X 0 0 40 [(0, .ref (a 0)), (1, .int (nI pp)), (2, .int (nI kk)), (3, .int part)] [] (MW G a (gosF (-1) S kk) I (ovF F S 32) B_4 T_5 R_6 K_7 D hI ac sp en iw op (-1) (raF (-1) S rd kk) ra ki nu tv) ro
        refine ev_lconst (v := (lN 0)) hC dX12_share_40 (by decide) ?_
        refine ev_lstore (lv' := [(4, .long (lN 0)), (0, .ref (a 0)), (1, .int (nI pp)), (2, .int (nI kk)), (3, .int part)]) hC dX12_share_41 (by decide) rfl ?_
        refine ev_iconst (v := (nI 0)) hC dX12_share_43 (by decide) ?_
        refine ev_istore (lv' := [(6, .int (nI 0)), (4, .long (lN 0)), (0, .ref (a 0)), (1, .int (nI pp)), (2, .int (nI kk)), (3, .int part)]) hC dX12_share_44 (by decide) rfl ?_
        have lp_46 : ∀ (fu_46 : Nat) (i : Nat) (hi : i ≤ sn S 32) (hn : sn S 32 - i < fu_46), Ev G X 0 0 46 [(0, .ref (a 0)), (1, .int (nI pp)), (2, .int (nI kk)), (3, .int part), (4, .long (lN (eaA S kk i))), (6, .int (nI i))] [] (MW G a (gosF (-1) S kk) I (ovF F S 32) B_4 T_5 R_6 K_7 D hI ac sp en iw op (-1) (raF (-1) S rd kk) ra ki nu tv) ro := by
          intro fu_46
          induction fu_46 with
          | zero => intro i hi hn; exact absurd hn (Nat.not_lt_zero _)
          | succ fu_46 ih =>
            intro i hi hn
            have hp32 : gosF (-1) S kk 32 = nI (sn S 32) := ((gosF_wf (-1) hW kk (by omega) (by omega)).2 32 (by omega)).trans hW.peo.eq
            have hai := hall i (by omega)
            have hmi : (9999 + 168 * kk) * i ≤ (9999 + 168 * kk) * 6 := Nat.mul_le_mul (Nat.le_refl _) (by omega)
            refine ev_iload hC dX12_share_46 5 rfl ?_
            refine ev_aload_n hC dX12_share_48 rfl 0 rfl ?_
            refine ev_get hC fl_X12_9_12 (mw 0 rfl) rfl dX12_share_49 ?_
            refine ev_bipush (v := (nI 32)) hC dX12_share_52 (by decide) ?_
            refine ev_ialdN (i := 32) hC (mw 1 rfl) (by omega) (by omega) dX12_share_54 ?_
            refine ev_top (y := (nI (sn S 32))) hp32 ?_
            refine ev_icmp_geN (tgt := 91) hC dX12_share_55 (by decide) (by omega) (by omega) (fun c_8 => ?_) (fun c_8 => ?_)
            · obtain rfl : i = sn S 32 := by omega
              refine ev_aload_n hC dX12_share_91 rfl 0 rfl ?_
              refine ev_get hC fl_X12_9_12 (mw 0 rfl) rfl dX12_share_92 ?_
              refine ev_bipush (v := (nI 26)) hC dX12_share_95 (by decide) ?_
              refine ev_iload_n hC dX12_share_97 rfl 1 rfl ?_
              refine ev_iadd hC dX12_share_98 ?_
              refine ev_top (y := (nI (26 + pp))) ((nI_add _ _).trans (congrArg nI (by omega))) ?_
              refine ev_ialdN (i := 26 + pp) hC (mw 1 rfl) (by omega) (by omega) dX12_share_99 ?_
              refine ev_aload_n hC dX12_share_100 rfl 0 rfl ?_
              refine ev_get hC fl_X12_18_12 (mw 0 rfl) rfl dX12_share_101 ?_
              refine ev_bipush (v := (nI 26)) hC dX12_share_104 (by decide) ?_
              refine ev_iload_n hC dX12_share_106 rfl 1 rfl ?_
              refine ev_iadd hC dX12_share_107 ?_
              refine ev_top (y := (nI (26 + pp))) ((nI_add _ _).trans (congrArg nI (by omega))) ?_
              refine ev_ialdN (i := 26 + pp) hC (mw 3 rfl) (by omega) (by omega) dX12_share_108 ?_
              refine ev_top (y := (S (26 + pp))) (if_pos (by omega)) ?_
              refine ev_isub hC dX12_share_109 ?_
              have hea_pp := eaN_eq hW (n := kk) (p := pp) (by omega) (by omega) (by omega)
              refine ev_top (y := (nI (eaN S kk pp))) hea_pp.1 ?_
              refine ev_i2l (v := lN (eaN S kk pp)) hC dX12_share_110 (nI_l (by omega)) ?_
              refine ev_lstore (lv' := [(6, .long (lN (eaN S kk pp))), (0, .ref (a 0)), (1, .int (nI pp)), (2, .int (nI kk)), (3, .int part), (4, .long (lN (eaA S kk (sn S 32))))]) hC dX12_share_111 (by decide) rfl ?_
              have hge := eaA_ge (S := S) (n := kk) (p := pp) (i := sn S 32) hpp
              refine ev_aload_n hC dX12_share_113 rfl 1 rfl ?_
              refine ev_callV (As := []) (st := []) (wf := []) hC cv_X12_187 (m_X12_goesBack G ro a (gosF (-1) S kk) I (ovF F S 32) B_4 T_5 R_6 K_7 D hI ac sp en iw op (-1) (raF (-1) S rd kk) ra ki nu tv) (by decide) rfl rfl (Nat.le_of_ble_eq_true rfl) (List.Perm.of_eq (List.append_nil _).symm) (mw 0 rfl) rfl dX12_share_114 (by decide) (by decide) ?_
              rintro _ _ _ ⟨rfl, rfl, rfl⟩
              refine ev_ws (List.append_nil _) ?_
              show Ev G X 0 0 117 [(6, .long (lN (eaN S kk pp))), (0, .ref (a 0)), (1, .int (nI pp)), (2, .int (nI kk)), (3, .int part), (4, .long (lN (eaA S kk (sn S 32))))] [] (MW G a (ovF (gosF (-1) S kk) (ovF F S 32) 32) I (ovF F S 32) B_4 T_5 R_6 K_7 D hI ac sp en iw op (-1) (raF (-1) S rd kk) ra ki nu tv) ro
              refine ev_ws (ws' := (MW G a S I (ovF F S 32) B_4 T_5 R_6 K_7 D hI ac sp en iw op (-1) (raF (-1) S rd kk) ra ki nu tv)) (by rw [back_eq (Hi.tr Hi.rf (gosF_wf (-1) hW kk (by omega) (by omega)).2)]) ?_
              refine ev_lload hC dX12_share_117 5 rfl ?_
              refine ev_lconst (v := (lN 0)) hC dX12_share_119 (by decide) ?_
              refine ev_lcmp hC dX12_share_120 ?_
              refine ev_if_neL (tgt := 130) hC dX12_share_121 (by decide) (by omega) (by omega) (fun c_9 => ?_) (fun c_9 => ?_)
              · refine ev_lload hC dX12_share_130 0 rfl ?_
                refine ev_lload hC dX12_share_132 5 rfl ?_
                refine ev_iload_n hC dX12_share_134 rfl 4 rfl ?_
                refine ev_callS (As := [.long (lN (eaN S kk pp)), .long (lN (eaA S kk (sn S 32))), .int part]) (st := []) (wc := []) (wf := (MW G a S I (ovF F S 32) B_4 T_5 R_6 K_7 D hI ac sp en iw op (-1) (raF (-1) S rd kk) ra ki nu tv)) hC ct_X12_201 (m_X12_lowest G ro (eaN S kk pp) (eaA S kk (sn S 32)) part (by omega) (by omega) (by omega)) (by decide) rfl rfl (Nat.le_of_ble_eq_true rfl) (List.Perm.refl _) dX12_share_135 (by decide) (by decide) ?_
                rintro _ _ _ ⟨rfl, rfl, rfl⟩
                refine ev_ws (List.nil_append _) ?_
                show Ev G X 0 0 138 [(6, .long (lN (eaN S kk pp))), (0, .ref (a 0)), (1, .int (nI pp)), (2, .int (nI kk)), (3, .int part), (4, .long (lN (eaA S kk (sn S 32))))] [.long (lowF (eaN S kk pp) (eaA S kk (sn S 32)) part)] (MW G a S I (ovF F S 32) B_4 T_5 R_6 K_7 D hI ac sp en iw op (-1) (raF (-1) S rd kk) ra ki nu tv) ro
                refine ev_lret hC hR rfl dX12_share_138 ?_
                have er : shareR S (nI pp) (nI kk) part = (lowF (eaN S kk pp) (eaA S kk (sn S 32)) part) := by rw [shareR, if_pos ⟨by assumption, by assumption, by assumption⟩, hpn_pp, hpn_kk, if_neg (by assumption)]
                exact ⟨_, _, _, _, _, _, by rw [er], rfl, rfl⟩
              · refine ev_ldc2 (v := -9223372036854775808) hC dX12_share_124 (ft_in 1363 (by decide +kernel) rfl) ?_
                refine ev_goto (tgt := 138) hC dX12_share_127 (by decide) ?_
                refine ev_lret hC hR rfl dX12_share_138 ?_
                have er : shareR S (nI pp) (nI kk) part = (-9223372036854775808 : Int64) := by rw [shareR, if_pos ⟨by assumption, by assumption, by assumption⟩, hpn_kk, if_pos (by assumption)]; rfl
                exact ⟨_, _, _, _, _, _, by rw [er], rfl, rfl⟩
            · refine ev_lload hC dX12_share_58 4 rfl ?_
              refine ev_aload_n hC dX12_share_60 rfl 0 rfl ?_
              refine ev_get hC fl_X12_9_12 (mw 0 rfl) rfl dX12_share_61 ?_
              refine ev_bipush (v := (nI 26)) hC dX12_share_64 (by decide) ?_
              refine ev_iload hC dX12_share_66 5 rfl ?_
              refine ev_iadd hC dX12_share_68 ?_
              refine ev_top (y := (nI (26 + i))) ((nI_add _ _).trans (congrArg nI (by omega))) ?_
              refine ev_ialdN (i := 26 + i) hC (mw 1 rfl) (by omega) (by omega) dX12_share_69 ?_
              refine ev_aload_n hC dX12_share_70 rfl 0 rfl ?_
              refine ev_get hC fl_X12_18_12 (mw 0 rfl) rfl dX12_share_71 ?_
              refine ev_bipush (v := (nI 26)) hC dX12_share_74 (by decide) ?_
              refine ev_iload hC dX12_share_76 5 rfl ?_
              refine ev_iadd hC dX12_share_78 ?_
              refine ev_top (y := (nI (26 + i))) ((nI_add _ _).trans (congrArg nI (by omega))) ?_
              refine ev_ialdN (i := 26 + i) hC (mw 3 rfl) (by omega) (by omega) dX12_share_79 ?_
              refine ev_top (y := (S (26 + i))) (if_pos (by omega)) ?_
              refine ev_isub hC dX12_share_80 ?_
              have hea_i := eaN_eq hW (n := kk) (p := i) (by omega) (by omega) (by omega)
              refine ev_top (y := (nI (eaN S kk i))) hea_i.1 ?_
              refine ev_i2l (v := lN (eaN S kk i)) hC dX12_share_81 (nI_l (by omega)) ?_
              refine ev_ladd hC dX12_share_82 ?_
              refine ev_topl (y := (lN (eaA S kk i + (eaN S kk i)))) ((lN_add _ _).trans (congrArg lN (by omega))) ?_
              refine ev_lstore (lv' := [(4, .long (lN (eaA S kk i + (eaN S kk i)))), (0, .ref (a 0)), (1, .int (nI pp)), (2, .int (nI kk)), (3, .int part), (6, .int (nI i))]) hC dX12_share_83 (by decide) rfl ?_
              refine ev_iinc (v := (nI (i + 1))) (lv' := [(6, .int (nI (i + 1))), (4, .long (lN (eaA S kk i + (eaN S kk i)))), (0, .ref (a 0)), (1, .int (nI pp)), (2, .int (nI kk)), (3, .int part)]) hC dX12_share_85 (q := 5) rfl (nI_k _ _ 1 (by decide)) (by decide) rfl ?_
              refine ev_goto (tgt := 46) hC dX12_share_88 (by decide) ?_
              refine ev_lv [2, 3, 4, 5, 1, 0] rfl ?_
              exact ih (i + 1) (by omega) (by omega)
        refine ev_lv [2, 3, 4, 5, 1, 0] rfl ?_
        exact lp_46 (sn S 32 - 0 + 1) 0 (by omega) (Nat.lt_succ_self _)
      · refine ev_ldc2 (v := -9223372036854775808) hC dX12_share_27 (ft_in 1363 (by decide +kernel) rfl) ?_
        refine ev_lret hC hR rfl dX12_share_30 ?_
        have er : shareR S x n part = NOL := by rw [shareR]; exact if_neg (fun h => by first | exact absurd h.1 (by assumption) | exact absurd h.2.1 (by assumption) | exact absurd h.2.2 (by assumption))
        exact ⟨_, _, _, _, _, _, by rw [er]; rfl, rfl, rfl⟩

set_option maxHeartbeats 4000000 in
set_option maxRecDepth 100000 in
theorem m_X12_odds (G : GG) (ro : va_W) (a : Nat → Nat) (S I F B T R K D : Nat → Int32) (hI ac sp en iw op mu rd ra ki nu tv : Int32) (x part : Int32) (hW : WF S 9999 9999) : Mth G M_X12_odds 6 0 0 [.ref (a 0), .int x, .int part] (MW G a S I F B T R K D hI ac sp en iw op (-1) rd ra ki nu tv) ro (fun r ws' ro' => ∃ (F' : Nat → Int32), ∃ (B' : Nat → Int32), ∃ (T' : Nat → Int32), ∃ (R' : Nat → Int32), ∃ (K' : Nat → Int32), ∃ (rd' : Int32), r = some (.long (oddsR S x part)) ∧ ws' = (MW G a S I F' B' T' R' K' D hI ac sp en iw op (-1) rd' ra ki nu tv) ∧ ro = ro') := by
  refine mth_of (by decide +kernel) (Nat.le_of_ble_eq_true rfl) (fun X hC hR => ?_)
  have b32 := hW.peo.le
  have b33 := hW.tre.le
  have b34 := hW.seen.le
  have b35 := hW.plan.le
  have b36 := hW.book.le
  have b37 := hW.tape.le
  show Ev G X 0 0 0 [(0, .ref (a 0)), (1, .int x), (2, .int part)] [] (MW G a S I F B T R K D hI ac sp en iw op (-1) rd ra ki nu tv) ro
  refine ev_iload_n hC dX12_odds_0 rfl 1 rfl ?_
  refine ev_iconst (v := (nI 0)) hC dX12_odds_1 (by decide) ?_
  refine ev_bipush (v := (nI 99)) hC dX12_odds_2 (by decide) ?_
  refine ev_callS (As := [.int x, .int (nI 0), .int (nI 99)]) (st := []) (wc := []) (wf := (MW G a S I F B T R K D hI ac sp en iw op (-1) rd ra ki nu tv)) hC ct_X12_44 (m_X12_in G ro x (nI 0) (nI 99)) (by decide) rfl rfl (Nat.le_of_ble_eq_true rfl) (List.Perm.refl _) dX12_odds_4 (by decide) (by decide) ?_
  rintro _ _ _ ⟨rfl, rfl, rfl⟩
  refine ev_ws (List.nil_append _) ?_
  show Ev G X 0 0 7 [(0, .ref (a 0)), (1, .int x), (2, .int part)] [.int (bI ((nI 0) ≤ x ∧ x ≤ (nI 99)))] (MW G a S I F B T R K D hI ac sp en iw op (-1) rd ra ki nu tv) ro
  refine ev_if_eqB (tgt := 29) hC dX12_odds_7 (by decide) (fun c_1 => ?_) (fun c_1 => ?_)
  · refine ev_ldc2 (v := -9223372036854775808) hC dX12_odds_29 (ft_in 1363 (by decide +kernel) rfl) ?_
    refine ev_lret hC hR rfl dX12_odds_32 ?_
    have er : oddsR S x part = NOL := by rw [oddsR]; exact if_neg (fun h => by first | exact absurd h.1.1 (by assumption) | exact absurd h.1.2 (by assumption) | exact absurd (by assumption) h.2)
    exact ⟨_, _, _, _, _, _, by rw [er]; rfl, rfl, rfl⟩
  · refine ev_iload_n hC dX12_odds_10 rfl 2 rfl ?_
    refine ev_iconst (v := (nI 0)) hC dX12_odds_11 (by decide) ?_
    refine ev_iconst (v := (nI 1)) hC dX12_odds_12 (by decide) ?_
    refine ev_callS (As := [.int part, .int (nI 0), .int (nI 1)]) (st := []) (wc := []) (wf := (MW G a S I F B T R K D hI ac sp en iw op (-1) rd ra ki nu tv)) hC ct_X12_44 (m_X12_in G ro part (nI 0) (nI 1)) (by decide) rfl rfl (Nat.le_of_ble_eq_true rfl) (List.Perm.refl _) dX12_odds_13 (by decide) (by decide) ?_
    rintro _ _ _ ⟨rfl, rfl, rfl⟩
    refine ev_ws (List.nil_append _) ?_
    show Ev G X 0 0 16 [(0, .ref (a 0)), (1, .int x), (2, .int part)] [.int (bI ((nI 0) ≤ part ∧ part ≤ (nI 1)))] (MW G a S I F B T R K D hI ac sp en iw op (-1) rd ra ki nu tv) ro
    refine ev_if_eqB (tgt := 29) hC dX12_odds_16 (by decide) (fun c_2 => ?_) (fun c_2 => ?_)
    · refine ev_ldc2 (v := -9223372036854775808) hC dX12_odds_29 (ft_in 1363 (by decide +kernel) rfl) ?_
      refine ev_lret hC hR rfl dX12_odds_32 ?_
      have er : oddsR S x part = NOL := by rw [oddsR]; exact if_neg (fun h => by first | exact absurd h.1.1 (by assumption) | exact absurd h.1.2 (by assumption) | exact absurd (by assumption) h.2)
      exact ⟨_, _, _, _, _, _, by rw [er]; rfl, rfl, rfl⟩
    · refine ev_aload_n hC dX12_odds_19 rfl 0 rfl ?_
      refine ev_get hC fl_X12_9_12 (mw 0 rfl) rfl dX12_odds_20 ?_
      refine ev_bipush (v := (nI 32)) hC dX12_odds_23 (by decide) ?_
      refine ev_ialdN (i := 32) hC (mw 1 rfl) (by omega) (by omega) dX12_odds_25 ?_
      have bk_3 : NB S 32 _ := hW.peo
      have k_3 := bk_3.eq
      have lk_3 := bk_3.le
      have mk_3 := bk_3.lt
      refine ev_top (y := (nI (sn S 32))) k_3 ?_
      refine ev_if_neN (tgt := 33) hC dX12_odds_26 (by decide) (by omega) (fun c_4 => ?_) (fun c_4 => ?_)
      · refine ev_aload_n hC dX12_odds_33 rfl 0 rfl ?_
        refine ev_callV (As := []) (st := []) (wf := []) hC cv_X12_181 (m_X12_keeps G ro a S I F B T R K D hI ac sp en iw op (-1) rd ra ki nu tv) (by decide) rfl rfl (Nat.le_of_ble_eq_true rfl) (List.Perm.of_eq (List.append_nil _).symm) (mw 0 rfl) rfl dX12_odds_34 (by decide) (by decide) ?_
        rintro _ _ _ ⟨rfl, rfl, rfl⟩
        refine ev_ws (List.append_nil _) ?_
        show Ev G X 0 0 37 [(0, .ref (a 0)), (1, .int x), (2, .int part)] [] (MW G a S I (ovF F S 32) B T R K D hI ac sp en iw op (-1) rd ra ki nu tv) ro
        refine ev_lconst (v := (lN 0)) hC dX12_odds_37 (by decide) ?_
        refine ev_lstore_n (lv' := [(3, .long (lN 0)), (0, .ref (a 0)), (1, .int x), (2, .int part)]) hC dX12_odds_38 rfl (by decide) rfl ?_
        refine ev_iconst (v := (nI 0)) hC dX12_odds_39 (by decide) ?_
        refine ev_istore (lv' := [(5, .int (nI 0)), (3, .long (lN 0)), (0, .ref (a 0)), (1, .int x), (2, .int part)]) hC dX12_odds_40 (by decide) rfl ?_
        have lp_42 : ∀ (fu_42 : Nat) (i : Nat) (B' : Nat → Int32) (T' : Nat → Int32) (R' : Nat → Int32) (K' : Nat → Int32) (rd' : Int32) (hi : i ≤ sn S 32) (hn : sn S 32 - i < fu_42), Ev G X 0 0 42 [(0, .ref (a 0)), (1, .int x), (2, .int part), (3, .long (lN (odN S x i))), (5, .int (nI i))] [] (MW G a S I (ovF F S 32) B' T' R' K' D hI ac sp en iw op (-1) rd' ra ki nu tv) ro := by
          intro fu_42
          induction fu_42 with
          | zero => intro i B' T' R' K' rd' hi hn; exact absurd hn (Nat.not_lt_zero _)
          | succ fu_42 ih =>
            intro i B' T' R' K' rd' hi hn
            have hodn := odN_le S x i
            refine ev_iload hC dX12_odds_42 4 rfl ?_
            refine ev_aload_n hC dX12_odds_44 rfl 0 rfl ?_
            refine ev_get hC fl_X12_9_12 (mw 0 rfl) rfl dX12_odds_45 ?_
            refine ev_bipush (v := (nI 32)) hC dX12_odds_48 (by decide) ?_
            refine ev_ialdN (i := 32) hC (mw 1 rfl) (by omega) (by omega) dX12_odds_50 ?_
            have bk_5 : NB S 32 _ := hW.peo
            have k_5 := bk_5.eq
            have lk_5 := bk_5.le
            have mk_5 := bk_5.lt
            refine ev_top (y := (nI (sn S 32))) k_5 ?_
            refine ev_icmp_geN (tgt := 78) hC dX12_odds_51 (by decide) (by omega) (by omega) (fun c_6 => ?_) (fun c_6 => ?_)
            · obtain rfl : i = sn S 32 := by omega
              refine ev_lload_n hC dX12_odds_78 rfl 3 rfl ?_
              refine ev_aload_n hC dX12_odds_79 rfl 0 rfl ?_
              refine ev_get hC fl_X12_9_12 (mw 0 rfl) rfl dX12_odds_80 ?_
              refine ev_bipush (v := (nI 32)) hC dX12_odds_83 (by decide) ?_
              refine ev_ialdN (i := 32) hC (mw 1 rfl) (by omega) (by omega) dX12_odds_85 ?_
              have bk_7 : NB S 32 _ := hW.peo
              have k_7 := bk_7.eq
              have lk_7 := bk_7.le
              have mk_7 := bk_7.lt
              refine ev_top (y := (nI (sn S 32))) k_7 ?_
              refine ev_i2l (v := lN (sn S 32)) hC dX12_odds_86 (nI_l (by omega)) ?_
              refine ev_iload_n hC dX12_odds_87 rfl 2 rfl ?_
              refine ev_callS (As := [.long (lN (odN S x (sn S 32))), .long (lN (sn S 32)), .int part]) (st := []) (wc := []) (wf := (MW G a S I (ovF F S 32) B' T' R' K' D hI ac sp en iw op (-1) rd' ra ki nu tv)) hC ct_X12_201 (m_X12_lowest G ro (odN S x (sn S 32)) (sn S 32) part (by omega) (by omega) (by omega)) (by decide) rfl rfl (Nat.le_of_ble_eq_true rfl) (List.Perm.refl _) dX12_odds_88 (by decide) (by decide) ?_
              rintro _ _ _ ⟨rfl, rfl, rfl⟩
              refine ev_ws (List.nil_append _) ?_
              show Ev G X 0 0 91 [(0, .ref (a 0)), (1, .int x), (2, .int part), (3, .long (lN (odN S x (sn S 32)))), (5, .int (nI (sn S 32)))] [.long (lowF (odN S x (sn S 32)) (sn S 32) part)] (MW G a S I (ovF F S 32) B' T' R' K' D hI ac sp en iw op (-1) rd' ra ki nu tv) ro
              refine ev_lret hC hR rfl dX12_odds_91 ?_
              have er : oddsR S x part = (lowF (odN S x (sn S 32)) (sn S 32) part) := by rw [oddsR, if_pos ⟨⟨by assumption, by assumption⟩, by assumption⟩]
              exact ⟨_, _, _, _, _, _, by rw [er], rfl, rfl⟩
            · refine ev_lload_n hC dX12_odds_54 rfl 3 rfl ?_
              refine ev_aload_n hC dX12_odds_55 rfl 0 rfl ?_
              refine ev_iload hC dX12_odds_56 4 rfl ?_
              refine ev_callV (As := [.int (nI i)]) (st := [.long (lN (odN S x i))]) (wf := []) hC cv_X12_196 (m_X12_warMuting G ro a S I (ovF F S 32) B' T' R' K' D hI ac sp en iw op (-1) rd' ra ki nu tv (nI i) hW (by omega) (by omega)) (by decide) rfl rfl (Nat.le_of_ble_eq_true rfl) (List.Perm.of_eq (List.append_nil _).symm) (mw 0 rfl) rfl dX12_odds_58 (by decide) (by decide) ?_
              rintro _ _ _ ⟨B_8, T_9, R_10, K_11, rd_12, rfl, rfl, rfl⟩
              refine ev_ws (List.append_nil _) ?_
              show Ev G X 0 0 61 [(0, .ref (a 0)), (1, .int x), (2, .int part), (3, .long (lN (odN S x i))), (5, .int (nI i))] [.int (nI (warF (nI i) S)), .long (lN (odN S x i))] (MW G a (ovF S (ovF F S 32) 32) I (ovF F S 32) B_8 T_9 R_10 K_11 D hI ac sp en iw op (-1) rd_12 ra ki nu tv) ro
              have wl_13 := warF_le (nI i) S
              refine ev_ws (ws' := (MW G a S I (ovF F S 32) B_8 T_9 R_10 K_11 D hI ac sp en iw op (-1) rd_12 ra ki nu tv)) (by rw [back_eq Hi.rf]) ?_
              refine ev_iload_n hC dX12_odds_61 rfl 1 rfl ?_
              refine ev_icmp_le (tgt := 69) hC dX12_odds_62 (by decide) (fun c_14 => ?_) (fun c_14 => ?_)
              · refine ev_lconst (v := (lN 0)) hC dX12_odds_69 (by decide) ?_
                refine ev_ladd hC dX12_odds_70 ?_
                refine ev_topl (y := (lN (odN S x i))) ((lN_add _ _).trans (congrArg lN (by omega))) ?_
                refine ev_topl (y := (lN (odN S x (i + 1)))) (congrArg lN (by first | rw [odN, if_pos (Int32.not_le.mp (by assumption))] | rw [odN, if_neg (Int32.not_lt.mpr (by assumption)), Nat.add_zero])) ?_
                refine ev_lstore_n (lv' := [(3, .long (lN (odN S x (i + 1)))), (0, .ref (a 0)), (1, .int x), (2, .int part), (5, .int (nI i))]) hC dX12_odds_71 rfl (by decide) rfl ?_
                refine ev_iinc (v := (nI (i + 1))) (lv' := [(5, .int (nI (i + 1))), (3, .long (lN (odN S x (i + 1)))), (0, .ref (a 0)), (1, .int x), (2, .int part)]) hC dX12_odds_72 (q := 4) rfl (nI_k _ _ 1 (by decide)) (by decide) rfl ?_
                refine ev_goto (tgt := 42) hC dX12_odds_75 (by decide) ?_
                refine ev_lv [2, 3, 4, 1, 0] rfl ?_
                exact ih (i + 1) B_8 T_9 R_10 K_11 rd_12 (by omega) (by omega)
              · refine ev_lconst (v := (lN 1)) hC dX12_odds_65 (by decide) ?_
                refine ev_goto (tgt := 70) hC dX12_odds_66 (by decide) ?_
                refine ev_ladd hC dX12_odds_70 ?_
                refine ev_topl (y := (lN (odN S x i + 1))) ((lN_add _ _).trans (congrArg lN (by omega))) ?_
                refine ev_topl (y := (lN (odN S x (i + 1)))) (congrArg lN (by first | rw [odN, if_pos (Int32.not_le.mp (by assumption))] | rw [odN, if_neg (Int32.not_lt.mpr (by assumption)), Nat.add_zero])) ?_
                refine ev_lstore_n (lv' := [(3, .long (lN (odN S x (i + 1)))), (0, .ref (a 0)), (1, .int x), (2, .int part), (5, .int (nI i))]) hC dX12_odds_71 rfl (by decide) rfl ?_
                refine ev_iinc (v := (nI (i + 1))) (lv' := [(5, .int (nI (i + 1))), (3, .long (lN (odN S x (i + 1)))), (0, .ref (a 0)), (1, .int x), (2, .int part)]) hC dX12_odds_72 (q := 4) rfl (nI_k _ _ 1 (by decide)) (by decide) rfl ?_
                refine ev_goto (tgt := 42) hC dX12_odds_75 (by decide) ?_
                refine ev_lv [2, 3, 4, 1, 0] rfl ?_
                exact ih (i + 1) B_8 T_9 R_10 K_11 rd_12 (by omega) (by omega)
        refine ev_lv [2, 3, 4, 1, 0] rfl ?_
        exact lp_42 (sn S 32 - 0 + 1) 0 B T R K rd (by omega) (Nat.lt_succ_self _)
      · refine ev_ldc2 (v := -9223372036854775808) hC dX12_odds_29 (ft_in 1363 (by decide +kernel) rfl) ?_
        refine ev_lret hC hR rfl dX12_odds_32 ?_
        have er : oddsR S x part = NOL := by rw [oddsR]; exact if_neg (fun h => by first | exact absurd h.1.1 (by assumption) | exact absurd h.1.2 (by assumption) | exact absurd (by assumption) h.2)
        exact ⟨_, _, _, _, _, _, by rw [er]; rfl, rfl, rfl⟩

set_option maxHeartbeats 4000000 in
set_option maxRecDepth 100000 in
theorem m_X12_mean (G : GG) (ro : va_W) (a : Nat → Nat) (S I F B T R K D : Nat → Int32) (hI ac sp en iw op mu rd ra ki nu tv : Int32) (x part : Int32) (hW : WF S 9999 9999) : Mth G M_X12_mean 5 0 0 [.ref (a 0), .int x, .int part] (MW G a S I F B T R K D hI ac sp en iw op (-1) rd ra ki nu tv) ro (fun r ws' ro' => ∃ (F' : Nat → Int32), ∃ (B' : Nat → Int32), ∃ (T' : Nat → Int32), ∃ (R' : Nat → Int32), ∃ (K' : Nat → Int32), ∃ (rd' : Int32), r = some (.long (meanR S x part)) ∧ ws' = (MW G a S I F' B' T' R' K' D hI ac sp en iw op (-1) rd' ra ki nu tv) ∧ ro = ro') := by
  refine mth_of (by decide +kernel) (Nat.le_of_ble_eq_true rfl) (fun X hC hR => ?_)
  have b32 := hW.peo.le
  have b33 := hW.tre.le
  have b34 := hW.seen.le
  have b35 := hW.plan.le
  have b36 := hW.book.le
  have b37 := hW.tape.le
  show Ev G X 0 0 0 [(0, .ref (a 0)), (1, .int x), (2, .int part)] [] (MW G a S I F B T R K D hI ac sp en iw op (-1) rd ra ki nu tv) ro
  refine ev_iload_n hC dX12_mean_0 rfl 1 rfl ?_
  refine ev_iconst (v := (nI 0)) hC dX12_mean_1 (by decide) ?_
  refine ev_bipush (v := (nI 60)) hC dX12_mean_2 (by decide) ?_
  refine ev_callS (As := [.int x, .int (nI 0), .int (nI 60)]) (st := []) (wc := []) (wf := (MW G a S I F B T R K D hI ac sp en iw op (-1) rd ra ki nu tv)) hC ct_X12_44 (m_X12_in G ro x (nI 0) (nI 60)) (by decide) rfl rfl (Nat.le_of_ble_eq_true rfl) (List.Perm.refl _) dX12_mean_4 (by decide) (by decide) ?_
  rintro _ _ _ ⟨rfl, rfl, rfl⟩
  refine ev_ws (List.nil_append _) ?_
  show Ev G X 0 0 7 [(0, .ref (a 0)), (1, .int x), (2, .int part)] [.int (bI ((nI 0) ≤ x ∧ x ≤ (nI 60)))] (MW G a S I F B T R K D hI ac sp en iw op (-1) rd ra ki nu tv) ro
  refine ev_if_eqB (tgt := 29) hC dX12_mean_7 (by decide) (fun c_1 => ?_) (fun c_1 => ?_)
  · refine ev_ldc2 (v := -9223372036854775808) hC dX12_mean_29 (ft_in 1363 (by decide +kernel) rfl) ?_
    refine ev_lret hC hR rfl dX12_mean_32 ?_
    have er : meanR S x part = NOL := by rw [meanR]; exact if_neg (fun h => by first | exact absurd h.1.1 (by assumption) | exact absurd h.1.2 (by assumption) | exact absurd (by assumption) h.2)
    exact ⟨_, _, _, _, _, _, by rw [er]; rfl, rfl, rfl⟩
  · refine ev_iload_n hC dX12_mean_10 rfl 2 rfl ?_
    refine ev_iconst (v := (nI 0)) hC dX12_mean_11 (by decide) ?_
    refine ev_iconst (v := (nI 1)) hC dX12_mean_12 (by decide) ?_
    refine ev_callS (As := [.int part, .int (nI 0), .int (nI 1)]) (st := []) (wc := []) (wf := (MW G a S I F B T R K D hI ac sp en iw op (-1) rd ra ki nu tv)) hC ct_X12_44 (m_X12_in G ro part (nI 0) (nI 1)) (by decide) rfl rfl (Nat.le_of_ble_eq_true rfl) (List.Perm.refl _) dX12_mean_13 (by decide) (by decide) ?_
    rintro _ _ _ ⟨rfl, rfl, rfl⟩
    refine ev_ws (List.nil_append _) ?_
    show Ev G X 0 0 16 [(0, .ref (a 0)), (1, .int x), (2, .int part)] [.int (bI ((nI 0) ≤ part ∧ part ≤ (nI 1)))] (MW G a S I F B T R K D hI ac sp en iw op (-1) rd ra ki nu tv) ro
    refine ev_if_eqB (tgt := 29) hC dX12_mean_16 (by decide) (fun c_2 => ?_) (fun c_2 => ?_)
    · refine ev_ldc2 (v := -9223372036854775808) hC dX12_mean_29 (ft_in 1363 (by decide +kernel) rfl) ?_
      refine ev_lret hC hR rfl dX12_mean_32 ?_
      have er : meanR S x part = NOL := by rw [meanR]; exact if_neg (fun h => by first | exact absurd h.1.1 (by assumption) | exact absurd h.1.2 (by assumption) | exact absurd (by assumption) h.2)
      exact ⟨_, _, _, _, _, _, by rw [er]; rfl, rfl, rfl⟩
    · refine ev_aload_n hC dX12_mean_19 rfl 0 rfl ?_
      refine ev_get hC fl_X12_9_12 (mw 0 rfl) rfl dX12_mean_20 ?_
      refine ev_bipush (v := (nI 32)) hC dX12_mean_23 (by decide) ?_
      refine ev_ialdN (i := 32) hC (mw 1 rfl) (by omega) (by omega) dX12_mean_25 ?_
      have bk_3 : NB S 32 _ := hW.peo
      have k_3 := bk_3.eq
      have lk_3 := bk_3.le
      have mk_3 := bk_3.lt
      refine ev_top (y := (nI (sn S 32))) k_3 ?_
      refine ev_if_neN (tgt := 33) hC dX12_mean_26 (by decide) (by omega) (fun c_4 => ?_) (fun c_4 => ?_)
      · obtain ⟨kk, hkk, rfl⟩ := inN (m := 60) (by omega) (by assumption)
        have hpn_kk : pn (nI kk) = kk := nI_clamp (by omega)
        refine ev_aload_n hC dX12_mean_33 rfl 0 rfl ?_
        refine ev_callV (As := []) (st := []) (wf := []) hC cv_X12_181 (m_X12_keeps G ro a S I F B T R K D hI ac sp en iw op (-1) rd ra ki nu tv) (by decide) rfl rfl (Nat.le_of_ble_eq_true rfl) (List.Perm.of_eq (List.append_nil _).symm) (mw 0 rfl) rfl dX12_mean_34 (by decide) (by decide) ?_
        rintro _ _ _ ⟨rfl, rfl, rfl⟩
        refine ev_ws (List.append_nil _) ?_
        show Ev G X 0 0 37 [(0, .ref (a 0)), (1, .int (nI kk)), (2, .int part)] [] (MW G a S I (ovF F S 32) B T R K D hI ac sp en iw op (-1) rd ra ki nu tv) ro
        refine ev_aload_n hC dX12_mean_37 rfl 0 rfl ?_
        refine ev_iload_n hC dX12_mean_38 rfl 1 rfl ?_
        refine ev_callV (As := [.int (nI kk)]) (st := []) (wf := []) hC cv_X12_184 (m_X12_goesOn G ro a S I (ovF F S 32) B T R K D hI ac sp en iw op (-1) rd ra ki nu tv kk hW (by omega) (by omega)) (by decide) rfl rfl (Nat.le_of_ble_eq_true rfl) (List.Perm.of_eq (List.append_nil _).symm) (mw 0 rfl) rfl dX12_mean_39 (by decide) (by decide) ?_
        rintro _ _ _ ⟨B_5, T_6, R_7, K_8, rfl, rfl, rfl⟩
        refine ev_ws (List.append_nil _) ?_
        show Ev G X 0 0 42 [(0, .ref (a 0)), (1, .int (nI kk)), (2, .int part)] [] (MW G a (gosF (-1) S kk) I (ovF F S 32) B_5 T_6 R_7 K_8 D hI ac sp en iw op (-1) (raF (-1) S rd kk) ra ki nu tv) ro
        refine ev_aload_n hC dX12_mean_42 rfl 0 rfl ?_
        refine ev_callV (As := []) (st := []) (wf := []) hC cv_X12_162 (m_X12_grudges G ro a (gosF (-1) S kk) I (ovF F S 32) B_5 T_6 R_7 K_8 D hI ac sp en iw op (-1) (raF (-1) S rd kk) ra ki nu tv  ((gosF_wf (-1) hW kk (by omega) (by omega)).1)) (by decide) rfl rfl (Nat.le_of_ble_eq_true rfl) (List.Perm.of_eq (List.append_nil _).symm) (mw 0 rfl) rfl dX12_mean_43 (by decide) (by decide) ?_
        rintro _ _ _ ⟨rfl, rfl, rfl⟩
        refine ev_ws (List.append_nil _) ?_
        show Ev G X 0 0 46 [(0, .ref (a 0)), (1, .int (nI kk)), (2, .int part)] [.int (gruF (gosF (-1) S kk) (sn (gosF (-1) S kk) 32))] (MW G a (gosF (-1) S kk) I (ovF F S 32) B_5 T_6 R_7 K_8 D hI ac sp en iw op (-1) (raF (-1) S rd kk) ra ki nu tv) ro
        refine ev_istore_n (lv' := [(3, .int (gruF (gosF (-1) S kk) (sn (gosF (-1) S kk) 32))), (0, .ref (a 0)), (1, .int (nI kk)), (2, .int part)]) hC dX12_mean_46 rfl (by decide) rfl ?_
        refine ev_aload_n hC dX12_mean_47 rfl 1 rfl ?_
        refine ev_callV (As := []) (st := []) (wf := []) hC cv_X12_187 (m_X12_goesBack G ro a (gosF (-1) S kk) I (ovF F S 32) B_5 T_6 R_7 K_8 D hI ac sp en iw op (-1) (raF (-1) S rd kk) ra ki nu tv) (by decide) rfl rfl (Nat.le_of_ble_eq_true rfl) (List.Perm.of_eq (List.append_nil _).symm) (mw 0 rfl) rfl dX12_mean_48 (by decide) (by decide) ?_
        rintro _ _ _ ⟨rfl, rfl, rfl⟩
        refine ev_ws (List.append_nil _) ?_
        show Ev G X 0 0 51 [(3, .int (gruF (gosF (-1) S kk) (sn (gosF (-1) S kk) 32))), (0, .ref (a 0)), (1, .int (nI kk)), (2, .int part)] [] (MW G a (ovF (gosF (-1) S kk) (ovF F S 32) 32) I (ovF F S 32) B_5 T_6 R_7 K_8 D hI ac sp en iw op (-1) (raF (-1) S rd kk) ra ki nu tv) ro
        refine ev_ws (ws' := (MW G a S I (ovF F S 32) B_5 T_6 R_7 K_8 D hI ac sp en iw op (-1) (raF (-1) S rd kk) ra ki nu tv)) (by rw [back_eq (Hi.tr Hi.rf (gosF_wf (-1) hW kk (by omega) (by omega)).2)]) ?_
        refine ev_iload_n hC dX12_mean_51 rfl 0 rfl ?_
        have hme := grN_eq (gosF_wf (-1) hW kk (by omega) (by omega)).1 (sn S 32) (by omega)
        have hs32 : sn (gosF (-1) S kk) 32 = sn S 32 := (gosF_wf (-1) hW kk (by omega) (by omega)).2.sn (by omega)
        refine ev_top (y := (nI (grN (gosF (-1) S kk) (sn S 32)))) ((congrArg (gruF _) hs32).trans hme.1) ?_
        refine ev_i2l (v := lN (grN (gosF (-1) S kk) (sn S 32))) hC dX12_mean_52 (nI_l (by omega)) ?_
        refine ev_aload_n hC dX12_mean_53 rfl 1 rfl ?_
        refine ev_get hC fl_X12_9_12 (mw 0 rfl) rfl dX12_mean_54 ?_
        refine ev_bipush (v := (nI 32)) hC dX12_mean_57 (by decide) ?_
        refine ev_ialdN (i := 32) hC (mw 1 rfl) (by omega) (by omega) dX12_mean_59 ?_
        have bk_9 : NB S 32 _ := hW.peo
        have k_9 := bk_9.eq
        have lk_9 := bk_9.le
        have mk_9 := bk_9.lt
        refine ev_top (y := (nI (sn S 32))) k_9 ?_
        refine ev_i2l (v := lN (sn S 32)) hC dX12_mean_60 (nI_l (by omega)) ?_
        refine ev_iload_n hC dX12_mean_61 rfl 3 rfl ?_
        refine ev_callS (As := [.long (lN (grN (gosF (-1) S kk) (sn S 32))), .long (lN (sn S 32)), .int part]) (st := []) (wc := []) (wf := (MW G a S I (ovF F S 32) B_5 T_6 R_7 K_8 D hI ac sp en iw op (-1) (raF (-1) S rd kk) ra ki nu tv)) hC ct_X12_201 (m_X12_lowest G ro (grN (gosF (-1) S kk) (sn S 32)) (sn S 32) part (by omega) (by omega) (by omega)) (by decide) rfl rfl (Nat.le_of_ble_eq_true rfl) (List.Perm.refl _) dX12_mean_62 (by decide) (by decide) ?_
        rintro _ _ _ ⟨rfl, rfl, rfl⟩
        refine ev_ws (List.nil_append _) ?_
        show Ev G X 0 0 65 [(3, .int (gruF (gosF (-1) S kk) (sn (gosF (-1) S kk) 32))), (0, .ref (a 0)), (1, .int (nI kk)), (2, .int part)] [.long (lowF (grN (gosF (-1) S kk) (sn S 32)) (sn S 32) part)] (MW G a S I (ovF F S 32) B_5 T_6 R_7 K_8 D hI ac sp en iw op (-1) (raF (-1) S rd kk) ra ki nu tv) ro
        refine ev_lret hC hR rfl dX12_mean_65 ?_
        have er : meanR S (nI kk) part = (lowF (grN (gosF (-1) S kk) (sn S 32)) (sn S 32) part) := by rw [meanR, if_pos ⟨⟨by assumption, by assumption⟩, by assumption⟩, hpn_kk]
        exact ⟨_, _, _, _, _, _, by rw [er], rfl, rfl⟩
      · refine ev_ldc2 (v := -9223372036854775808) hC dX12_mean_29 (ft_in 1363 (by decide +kernel) rfl) ?_
        refine ev_lret hC hR rfl dX12_mean_32 ?_
        have er : meanR S x part = NOL := by rw [meanR]; exact if_neg (fun h => by first | exact absurd h.1.1 (by assumption) | exact absurd h.1.2 (by assumption) | exact absurd (by assumption) h.2)
        exact ⟨_, _, _, _, _, _, by rw [er]; rfl, rfl, rfl⟩

set_option maxHeartbeats 4000000 in
set_option maxRecDepth 100000 in
theorem m_X12_chips (G : GG) (ro : va_W) (a : Nat → Nat) (S I F B T R K D : Nat → Int32) (hI ac sp en iw op mu rd ra ki nu tv : Int32) (x : Int32) (hW : WF S 9999 9999) : Mth G M_X12_chips 5 0 0 [.ref (a 0), .int x] (MW G a S I F B T R K D hI ac sp en iw op (-1) rd ra ki nu tv) ro (fun r ws' ro' => ∃ (F' : Nat → Int32), ∃ (B' : Nat → Int32), ∃ (T' : Nat → Int32), ∃ (R' : Nat → Int32), ∃ (K' : Nat → Int32), ∃ (rd' : Int32), r = some (.int (chipsR S x)) ∧ ws' = (MW G a S I F' B' T' R' K' D hI ac sp en iw op (-1) rd' ra ki nu tv) ∧ ro = ro') := by
  refine mth_of (by decide +kernel) (Nat.le_of_ble_eq_true rfl) (fun X hC hR => ?_)
  have b32 := hW.peo.le
  have b33 := hW.tre.le
  have b34 := hW.seen.le
  have b35 := hW.plan.le
  have b36 := hW.book.le
  have b37 := hW.tape.le
  show Ev G X 0 0 0 [(0, .ref (a 0)), (1, .int x)] [] (MW G a S I F B T R K D hI ac sp en iw op (-1) rd ra ki nu tv) ro
  refine ev_iload_n hC dX12_chips_0 rfl 1 rfl ?_
  refine ev_iconst (v := (nI 1)) hC dX12_chips_1 (by decide) ?_
  refine ev_bipush (v := (nI 60)) hC dX12_chips_2 (by decide) ?_
  refine ev_callS (As := [.int x, .int (nI 1), .int (nI 60)]) (st := []) (wc := []) (wf := (MW G a S I F B T R K D hI ac sp en iw op (-1) rd ra ki nu tv)) hC ct_X12_44 (m_X12_in G ro x (nI 1) (nI 60)) (by decide) rfl rfl (Nat.le_of_ble_eq_true rfl) (List.Perm.refl _) dX12_chips_4 (by decide) (by decide) ?_
  rintro _ _ _ ⟨rfl, rfl, rfl⟩
  refine ev_ws (List.nil_append _) ?_
  show Ev G X 0 0 7 [(0, .ref (a 0)), (1, .int x)] [.int (bI ((nI 1) ≤ x ∧ x ≤ (nI 60)))] (MW G a S I F B T R K D hI ac sp en iw op (-1) rd ra ki nu tv) ro
  refine ev_if_neB (tgt := 13) hC dX12_chips_7 (by decide) (fun c_1 => ?_) (fun c_1 => ?_)
  · obtain ⟨kk, hkk1, hkk, rfl⟩ := in1N (m := 60) (by omega) (by assumption)
    have hpn_kk : pn (nI kk) = kk := nI_clamp (by omega)
    refine ev_aload_n hC dX12_chips_13 rfl 0 rfl ?_
    refine ev_callV (As := []) (st := []) (wf := []) hC cv_X12_181 (m_X12_keeps G ro a S I F B T R K D hI ac sp en iw op (-1) rd ra ki nu tv) (by decide) rfl rfl (Nat.le_of_ble_eq_true rfl) (List.Perm.of_eq (List.append_nil _).symm) (mw 0 rfl) rfl dX12_chips_14 (by decide) (by decide) ?_
    rintro _ _ _ ⟨rfl, rfl, rfl⟩
    refine ev_ws (List.append_nil _) ?_
    show Ev G X 0 0 17 [(0, .ref (a 0)), (1, .int (nI kk))] [] (MW G a S I (ovF F S 32) B T R K D hI ac sp en iw op (-1) rd ra ki nu tv) ro
    refine ev_aload_n hC dX12_chips_17 rfl 0 rfl ?_
    refine ev_iconst (v := (nI 0)) hC dX12_chips_18 (by decide) ?_
    refine ev_put (ws' := (MW G a S I (ovF F S 32) B T R K D hI ac sp en iw op (-1) (nI 0) ra ki nu tv)) (q0 := 0) hC fp_X12_168_12 rfl (Nat.le_of_ble_eq_true rfl) rfl rfl rfl dX12_chips_19 ?_
    refine ev_aload_n hC dX12_chips_22 rfl 0 rfl ?_
    refine ev_iload_n hC dX12_chips_23 rfl 1 rfl ?_
    refine ev_callV (As := [.int (nI kk)]) (st := []) (wf := []) hC cv_X12_184 (m_X12_goesOn G ro a S I (ovF F S 32) B T R K D hI ac sp en iw op (-1) (nI 0) ra ki nu tv kk hW (by omega) (by omega)) (by decide) rfl rfl (Nat.le_of_ble_eq_true rfl) (List.Perm.of_eq (List.append_nil _).symm) (mw 0 rfl) rfl dX12_chips_24 (by decide) (by decide) ?_
    rintro _ _ _ ⟨B_2, T_3, R_4, K_5, rfl, rfl, rfl⟩
    refine ev_ws (List.append_nil _) ?_
    show Ev G X 0 0 27 [(0, .ref (a 0)), (1, .int (nI kk))] [] (MW G a (gosF (-1) S kk) I (ovF F S 32) B_2 T_3 R_4 K_5 D hI ac sp en iw op (-1) (raF (-1) S (nI 0) kk) ra ki nu tv) ro
    refine ev_aload_n hC dX12_chips_27 rfl 0 rfl ?_
    refine ev_callV (As := []) (st := []) (wf := []) hC cv_X12_187 (m_X12_goesBack G ro a (gosF (-1) S kk) I (ovF F S 32) B_2 T_3 R_4 K_5 D hI ac sp en iw op (-1) (raF (-1) S (nI 0) kk) ra ki nu tv) (by decide) rfl rfl (Nat.le_of_ble_eq_true rfl) (List.Perm.of_eq (List.append_nil _).symm) (mw 0 rfl) rfl dX12_chips_28 (by decide) (by decide) ?_
    rintro _ _ _ ⟨rfl, rfl, rfl⟩
    refine ev_ws (List.append_nil _) ?_
    show Ev G X 0 0 31 [(0, .ref (a 0)), (1, .int (nI kk))] [] (MW G a (ovF (gosF (-1) S kk) (ovF F S 32) 32) I (ovF F S 32) B_2 T_3 R_4 K_5 D hI ac sp en iw op (-1) (raF (-1) S (nI 0) kk) ra ki nu tv) ro
    refine ev_ws (ws' := (MW G a S I (ovF F S 32) B_2 T_3 R_4 K_5 D hI ac sp en iw op (-1) (raF (-1) S (nI 0) kk) ra ki nu tv)) (by rw [back_eq (Hi.tr Hi.rf (gosF_wf (-1) hW kk (by omega) (by omega)).2)]) ?_
    refine ev_aload_n hC dX12_chips_31 rfl 0 rfl ?_
    refine ev_get hC fl_X12_168_12 (mw 0 rfl) rfl dX12_chips_32 ?_
    refine ev_iret hC hR rfl dX12_chips_35 ?_
    have e_6 : (chipsR S (nI kk)) = (raF (-1) S (nI 0) kk) := by simp [chipsR, *]
    exact ⟨_, _, _, _, _, _, (by rw [e_6]), rfl, rfl⟩
  · refine ev_bipush (v := (-2)) hC dX12_chips_10 (by decide) ?_
    refine ev_iret hC hR rfl dX12_chips_12 ?_
    have e_7 : (chipsR S x) = (-2) := by simp [chipsR, *]
    exact ⟨_, _, _, _, _, _, (by rw [e_7]), rfl, rfl⟩

set_option maxHeartbeats 4000000 in
set_option maxRecDepth 100000 in
theorem m_X12_angry (G : GG) (ro : va_W) (a : Nat → Nat) (S I F B T R K D : Nat → Int32) (hI ac sp en iw op mu rd ra ki nu tv : Int32) (x : Int32) (hW : WF S 9999 9999) : Mth G M_X12_angry 1 0 0 [.ref (a 0), .int x] (MW G a S I F B T R K D hI ac sp en iw op mu rd ra ki nu tv) ro (fun r ws' ro' => r = some (.int (angryR S x)) ∧ ws' = (MW G a S I F B T R K D hI ac sp en iw op mu rd ra ki nu tv) ∧ ro = ro') := by
  refine mth_of (by decide +kernel) (Nat.le_of_ble_eq_true rfl) (fun X hC hR => ?_)
  have b32 := hW.peo.le
  have b33 := hW.tre.le
  have b34 := hW.seen.le
  have b35 := hW.plan.le
  have b36 := hW.book.le
  have b37 := hW.tape.le
  show Ev G X 0 0 0 [(0, .ref (a 0)), (1, .int x)] [] (MW G a S I F B T R K D hI ac sp en iw op mu rd ra ki nu tv) ro
  refine ev_iload_n hC dX12_angry_0 rfl 1 rfl ?_
  refine ev_iconst (v := (nI 0)) hC dX12_angry_1 (by decide) ?_
  refine ev_bipush (v := (nI 99)) hC dX12_angry_2 (by decide) ?_
  refine ev_callS (As := [.int x, .int (nI 0), .int (nI 99)]) (st := []) (wc := []) (wf := (MW G a S I F B T R K D hI ac sp en iw op mu rd ra ki nu tv)) hC ct_X12_44 (m_X12_in G ro x (nI 0) (nI 99)) (by decide) rfl rfl (Nat.le_of_ble_eq_true rfl) (List.Perm.refl _) dX12_angry_4 (by decide) (by decide) ?_
  rintro _ _ _ ⟨rfl, rfl, rfl⟩
  refine ev_ws (List.nil_append _) ?_
  show Ev G X 0 0 7 [(0, .ref (a 0)), (1, .int x)] [.int (bI ((nI 0) ≤ x ∧ x ≤ (nI 99)))] (MW G a S I F B T R K D hI ac sp en iw op mu rd ra ki nu tv) ro
  refine ev_if_neB (tgt := 13) hC dX12_angry_7 (by decide) (fun c_1 => ?_) (fun c_1 => ?_)
  · refine ev_iconst (v := (nI 0)) hC dX12_angry_13 (by decide) ?_
    refine ev_istore_n (lv' := [(2, .int (nI 0)), (0, .ref (a 0)), (1, .int x)]) hC dX12_angry_14 rfl (by decide) rfl ?_
    refine ev_iconst (v := (nI 0)) hC dX12_angry_15 (by decide) ?_
    refine ev_istore_n (lv' := [(3, .int (nI 0)), (2, .int (nI 0)), (0, .ref (a 0)), (1, .int x)]) hC dX12_angry_16 rfl (by decide) rfl ?_
    have lp_17 : ∀ (fu_17 : Nat) (i : Nat) (set : Int32) (hi : i ≤ sn S 32) (hb : set = angryF S x i) (hn : sn S 32 - i < fu_17), Ev G X 0 0 17 [(0, .ref (a 0)), (1, .int x), (2, .int set), (3, .int (nI i))] [] (MW G a S I F B T R K D hI ac sp en iw op mu rd ra ki nu tv) ro := by
      intro fu_17
      induction fu_17 with
      | zero => intro i set hi hb hn; exact absurd hn (Nat.not_lt_zero _)
      | succ fu_17 ih =>
        intro i set hi hb hn
        refine ev_iload_n hC dX12_angry_17 rfl 3 rfl ?_
        refine ev_aload_n hC dX12_angry_18 rfl 0 rfl ?_
        refine ev_get hC fl_X12_9_12 (mw 0 rfl) rfl dX12_angry_19 ?_
        refine ev_bipush (v := (nI 32)) hC dX12_angry_22 (by decide) ?_
        refine ev_ialdN (i := 32) hC (mw 1 rfl) (by omega) (by omega) dX12_angry_24 ?_
        have bk_2 : NB S 32 _ := hW.peo
        have k_2 := bk_2.eq
        have lk_2 := bk_2.le
        have mk_2 := bk_2.lt
        refine ev_top (y := (nI (sn S 32))) k_2 ?_
        refine ev_icmp_geN (tgt := 57) hC dX12_angry_25 (by decide) (by omega) (by omega) (fun c_3 => ?_) (fun c_3 => ?_)
        · refine ev_iload_n hC dX12_angry_57 rfl 2 rfl ?_
          refine ev_iret hC hR rfl dX12_angry_58 ?_
          obtain rfl : i = sn S 32 := by omega
          exact ⟨by rw [show angryR S x = set by rw [angryR, if_pos (by assumption), hb]], rfl, rfl⟩
        · refine ev_iload_n hC dX12_angry_28 rfl 2 rfl ?_
          refine ev_aload_n hC dX12_angry_29 rfl 0 rfl ?_
          refine ev_get hC fl_X12_9_12 (mw 0 rfl) rfl dX12_angry_30 ?_
          refine ev_bipush (v := (nI 20)) hC dX12_angry_33 (by decide) ?_
          refine ev_iload_n hC dX12_angry_35 rfl 3 rfl ?_
          refine ev_iadd hC dX12_angry_36 ?_
          refine ev_top (y := (nI (20 + i))) ((nI_add _ _).trans (congrArg nI (by omega))) ?_
          refine ev_ialdN (i := 20 + i) hC (mw 1 rfl) (by omega) (by omega) dX12_angry_37 ?_
          refine ev_iload_n hC dX12_angry_38 rfl 1 rfl ?_
          refine ev_icmp_lt (tgt := 48) hC dX12_angry_39 (by decide) (fun c_4 => ?_) (fun c_4 => ?_)
          · refine ev_iconst (v := (nI 0)) hC dX12_angry_48 (by decide) ?_
            refine ev_ior hC dX12_angry_49 ?_
            refine ev_istore_n (lv' := [(2, .int (set ||| (nI 0))), (0, .ref (a 0)), (1, .int x), (3, .int (nI i))]) hC dX12_angry_50 rfl (by decide) rfl ?_
            refine ev_iinc (v := (nI (i + 1))) (lv' := [(3, .int (nI (i + 1))), (2, .int (set ||| (nI 0))), (0, .ref (a 0)), (1, .int x)]) hC dX12_angry_51 (q := 3) rfl (nI_k _ _ 1 (by decide)) (by decide) rfl ?_
            refine ev_goto (tgt := 17) hC dX12_angry_54 (by decide) ?_
            refine ev_lv [2, 3, 1, 0] rfl ?_
            exact ih (i + 1) (set ||| (nI 0)) (by omega) (by first | rw [angryF, ← hb, if_pos (Int32.not_lt.mp (by assumption))] | rw [angryF, ← hb, if_neg (Int32.not_le.mpr (by assumption))]) (by omega)
          · refine ev_iconst (v := (nI 1)) hC dX12_angry_42 (by decide) ?_
            refine ev_iload_n hC dX12_angry_43 rfl 3 rfl ?_
            refine ev_ishl hC dX12_angry_44 ?_
            refine ev_goto (tgt := 49) hC dX12_angry_45 (by decide) ?_
            refine ev_ior hC dX12_angry_49 ?_
            refine ev_istore_n (lv' := [(2, .int (set ||| ((nI 1) <<< ((nI i) &&& 31)))), (0, .ref (a 0)), (1, .int x), (3, .int (nI i))]) hC dX12_angry_50 rfl (by decide) rfl ?_
            refine ev_iinc (v := (nI (i + 1))) (lv' := [(3, .int (nI (i + 1))), (2, .int (set ||| ((nI 1) <<< ((nI i) &&& 31)))), (0, .ref (a 0)), (1, .int x)]) hC dX12_angry_51 (q := 3) rfl (nI_k _ _ 1 (by decide)) (by decide) rfl ?_
            refine ev_goto (tgt := 17) hC dX12_angry_54 (by decide) ?_
            refine ev_lv [2, 3, 1, 0] rfl ?_
            exact ih (i + 1) (set ||| ((nI 1) <<< ((nI i) &&& 31))) (by omega) (by first | rw [angryF, ← hb, if_pos (Int32.not_lt.mp (by assumption))] | rw [angryF, ← hb, if_neg (Int32.not_le.mpr (by assumption))]) (by omega)
    refine ev_lv [2, 3, 1, 0] rfl ?_
    exact lp_17 (sn S 32 - 0 + 1) 0 (nI 0) (by omega) rfl (Nat.lt_succ_self _)
  · refine ev_bipush (v := (-2)) hC dX12_angry_10 (by decide) ?_
    refine ev_iret hC hR rfl dX12_angry_12 ?_
    have e_5 : (angryR S x) = (-2) := by simp [angryR, *]
    exact ⟨(by rw [e_5]), rfl, rfl⟩

set_option maxHeartbeats 4000000 in
set_option maxRecDepth 100000 in
theorem m_X12_held (G : GG) (ro : va_W) (a : Nat → Nat) (S I F B T R K D : Nat → Int32) (hI ac sp en iw op mu rd ra ki nu tv : Int32) (x : Int32) (hW : WF S 9999 9999) : Mth G M_X12_held 4 0 0 [.ref (a 0), .int x] (MW G a S I F B T R K D hI ac sp en iw op (-1) rd ra ki nu tv) ro (fun r ws' ro' => ∃ (F' : Nat → Int32), ∃ (B' : Nat → Int32), ∃ (T' : Nat → Int32), ∃ (R' : Nat → Int32), ∃ (K' : Nat → Int32), ∃ (rd' : Int32), r = some (.int (heldR S x)) ∧ ws' = (MW G a S I F' B' T' R' K' D hI ac sp en iw op (-1) rd' ra ki nu tv) ∧ ro = ro') := by
  refine mth_of (by decide +kernel) (Nat.le_of_ble_eq_true rfl) (fun X hC hR => ?_)
  have b32 := hW.peo.le
  have b33 := hW.tre.le
  have b34 := hW.seen.le
  have b35 := hW.plan.le
  have b36 := hW.book.le
  have b37 := hW.tape.le
  show Ev G X 0 0 0 [(0, .ref (a 0)), (1, .int x)] [] (MW G a S I F B T R K D hI ac sp en iw op (-1) rd ra ki nu tv) ro
  refine ev_aload_n hC dX12_held_0 rfl 0 rfl ?_
  refine ev_iload_n hC dX12_held_1 rfl 1 rfl ?_
  refine ev_callV (As := [.int x]) (st := []) (wf := []) hC cv_X12_147 (m_X12_isPerson G ro a S I F B T R K D hI ac sp en iw op (-1) rd ra ki nu tv x) (by decide) rfl rfl (Nat.le_of_ble_eq_true rfl) (List.Perm.of_eq (List.append_nil _).symm) (mw 0 rfl) rfl dX12_held_2 (by decide) (by decide) ?_
  rintro _ _ _ ⟨rfl, rfl, rfl⟩
  refine ev_ws (List.append_nil _) ?_
  show Ev G X 0 0 5 [(0, .ref (a 0)), (1, .int x)] [.int (bI ((nI 0) ≤ x ∧ x ≤ ((S 32) - nI 1)))] (MW G a S I F B T R K D hI ac sp en iw op (-1) rd ra ki nu tv) ro
  refine ev_if_neB (tgt := 10) hC dX12_held_5 (by decide) (fun c_1 => ?_) (fun c_1 => ?_)
  · obtain ⟨pp, hpp, rfl⟩ := isP hW (by assumption)
    have hpn_pp : pn (nI pp) = pp := nI_clamp (by omega)
    refine ev_aload_n hC dX12_held_10 rfl 0 rfl ?_
    refine ev_callV (As := []) (st := []) (wf := []) hC cv_X12_181 (m_X12_keeps G ro a S I F B T R K D hI ac sp en iw op (-1) rd ra ki nu tv) (by decide) rfl rfl (Nat.le_of_ble_eq_true rfl) (List.Perm.of_eq (List.append_nil _).symm) (mw 0 rfl) rfl dX12_held_11 (by decide) (by decide) ?_
    rintro _ _ _ ⟨rfl, rfl, rfl⟩
    refine ev_ws (List.append_nil _) ?_
    show Ev G X 0 0 14 [(0, .ref (a 0)), (1, .int (nI pp))] [] (MW G a S I (ovF F S 32) B T R K D hI ac sp en iw op (-1) rd ra ki nu tv) ro
    refine ev_bipush (v := (-5)) hC dX12_held_14 (by decide) ?_
    refine ev_istore_n (lv' := [(2, .int (-5)), (0, .ref (a 0)), (1, .int (nI pp))]) hC dX12_held_16 rfl (by decide) rfl ?_
    refine ev_iconst (v := (nI 0)) hC dX12_held_17 (by decide) ?_
    refine ev_istore_n (lv' := [(3, .int (nI 0)), (2, .int (-5)), (0, .ref (a 0)), (1, .int (nI pp))]) hC dX12_held_18 rfl (by decide) rfl ?_
    have lp_19 : ∀ (fu_19 : Nat) (n : Nat) (found : Int32) (B' : Nat → Int32) (T' : Nat → Int32) (R' : Nat → Int32) (K' : Nat → Int32) (rd' : Int32) (hn61 : n ≤ 61) (hb : (found = -5 ∧ heldF S pp 61 0 = heldF S pp (61 - n) n) ∨ (¬ found = -5 ∧ heldF S pp 61 0 = found)) (hn : 61 - n < fu_19), Ev G X 0 0 19 [(0, .ref (a 0)), (1, .int (nI pp)), (2, .int found), (3, .int (nI n))] [] (MW G a (gosF (-1) S n) I (ovF F S 32) B' T' R' K' D hI ac sp en iw op (-1) rd' ra ki nu tv) ro := by
      intro fu_19
      induction fu_19 with
      | zero => intro n found B' T' R' K' rd' hn61 hb hn; exact absurd hn (Nat.not_lt_zero _)
      | succ fu_19 ih =>
        intro n found B' T' R' K' rd' hn61 hb hn
        have hgr := (gosF_wf (-1) hW n (by omega) (by omega)).1.grudge pp (by omega)
        have hgl := hgr.lt
        refine ev_iload_n hC dX12_held_19 rfl 3 rfl ?_
        refine ev_bipush (v := (nI 60)) hC dX12_held_20 (by decide) ?_
        refine ev_icmp_gtN (tgt := 60) hC dX12_held_22 (by decide) (by omega) (by omega) (fun c_2 => ?_) (fun c_2 => ?_)
        · refine ev_aload_n hC dX12_held_60 rfl 0 rfl ?_
          refine ev_callV (As := []) (st := []) (wf := []) hC cv_X12_187 (m_X12_goesBack G ro a (gosF (-1) S n) I (ovF F S 32) B' T' R' K' D hI ac sp en iw op (-1) rd' ra ki nu tv) (by decide) rfl rfl (Nat.le_of_ble_eq_true rfl) (List.Perm.of_eq (List.append_nil _).symm) (mw 0 rfl) rfl dX12_held_61 (by decide) (by decide) ?_
          rintro _ _ _ ⟨rfl, rfl, rfl⟩
          refine ev_ws (List.append_nil _) ?_
          show Ev G X 0 0 64 [(0, .ref (a 0)), (1, .int (nI pp)), (2, .int found), (3, .int (nI n))] [] (MW G a (ovF (gosF (-1) S n) (ovF F S 32) 32) I (ovF F S 32) B' T' R' K' D hI ac sp en iw op (-1) rd' ra ki nu tv) ro
          refine ev_ws (ws' := (MW G a S I (ovF F S 32) B' T' R' K' D hI ac sp en iw op (-1) rd' ra ki nu tv)) (by rw [back_eq (Hi.tr Hi.rf (gosF_wf (-1) hW n (by omega) (by omega)).2)]) ?_
          refine ev_iload_n hC dX12_held_64 rfl 2 rfl ?_
          refine ev_iret hC hR rfl dX12_held_65 ?_
          have er : heldR S (nI pp) = found := by rw [heldR, if_pos (by assumption), hpn_pp]; exact held_e hb (by first | exact Or.inl (by assumption) | exact Or.inr (by assumption))
          exact ⟨_, _, _, _, _, _, by rw [er], rfl, rfl⟩
        · refine ev_iload_n hC dX12_held_25 rfl 2 rfl ?_
          refine ev_bipush (v := (-5)) hC dX12_held_26 (by decide) ?_
          refine ev_icmp_ne (tgt := 60) hC dX12_held_28 (by decide) (fun c_3 => ?_) (fun c_3 => ?_)
          · refine ev_aload_n hC dX12_held_60 rfl 0 rfl ?_
            refine ev_callV (As := []) (st := []) (wf := []) hC cv_X12_187 (m_X12_goesBack G ro a (gosF (-1) S n) I (ovF F S 32) B' T' R' K' D hI ac sp en iw op (-1) rd' ra ki nu tv) (by decide) rfl rfl (Nat.le_of_ble_eq_true rfl) (List.Perm.of_eq (List.append_nil _).symm) (mw 0 rfl) rfl dX12_held_61 (by decide) (by decide) ?_
            rintro _ _ _ ⟨rfl, rfl, rfl⟩
            refine ev_ws (List.append_nil _) ?_
            show Ev G X 0 0 64 [(0, .ref (a 0)), (1, .int (nI pp)), (2, .int found), (3, .int (nI n))] [] (MW G a (ovF (gosF (-1) S n) (ovF F S 32) 32) I (ovF F S 32) B' T' R' K' D hI ac sp en iw op (-1) rd' ra ki nu tv) ro
            refine ev_ws (ws' := (MW G a S I (ovF F S 32) B' T' R' K' D hI ac sp en iw op (-1) rd' ra ki nu tv)) (by rw [back_eq (Hi.tr Hi.rf (gosF_wf (-1) hW n (by omega) (by omega)).2)]) ?_
            refine ev_iload_n hC dX12_held_64 rfl 2 rfl ?_
            refine ev_iret hC hR rfl dX12_held_65 ?_
            have er : heldR S (nI pp) = found := by rw [heldR, if_pos (by assumption), hpn_pp]; exact held_e hb (by first | exact Or.inl (by assumption) | exact Or.inr (by assumption))
            exact ⟨_, _, _, _, _, _, by rw [er], rfl, rfl⟩
          · refine ev_aload_n hC dX12_held_31 rfl 0 rfl ?_
            refine ev_get hC fl_X12_9_12 (mw 0 rfl) rfl dX12_held_32 ?_
            refine ev_bipush (v := (nI 20)) hC dX12_held_35 (by decide) ?_
            refine ev_iload_n hC dX12_held_37 rfl 1 rfl ?_
            refine ev_iadd hC dX12_held_38 ?_
            refine ev_top (y := (nI (20 + pp))) ((nI_add _ _).trans (congrArg nI (by omega))) ?_
            refine ev_ialdN (i := 20 + pp) hC (mw 1 rfl) (by omega) (by omega) dX12_held_39 ?_
            refine ev_top (y := (nI (sn (gosF (-1) S n) (20 + pp)))) hgr.eq ?_
            refine ev_if_neN (tgt := 47) hC dX12_held_40 (by decide) (by omega) (fun c_4 => ?_) (fun c_4 => ?_)
            · refine ev_bipush (v := (-5)) hC dX12_held_47 (by decide) ?_
              refine ev_istore_n (lv' := [(2, .int (-5)), (0, .ref (a 0)), (1, .int (nI pp)), (3, .int (nI n))]) hC dX12_held_49 rfl (by decide) rfl ?_
              refine ev_aload_n hC dX12_held_50 rfl 1 rfl ?_
              refine ev_callV (As := []) (st := []) (wf := []) hC cv_X12_178 (m_X12_goes G ro a (gosF (-1) S n) I (ovF F S 32) B' T' R' K' D hI ac sp en iw op (-1) rd' ra ki nu tv ((gosF_wf (-1) hW n (by omega) (by omega)).1) (by omega) (by omega)) (by decide) rfl rfl (Nat.le_of_ble_eq_true rfl) (List.Perm.of_eq (List.append_nil _).symm) (mw 0 rfl) rfl dX12_held_51 (by decide) (by decide) ?_
              rintro _ _ _ ⟨B_5, T_6, R_7, K_8, rfl, rfl, rfl, hK_9⟩
              refine ev_ws (List.append_nil _) ?_
              show Ev G X 0 0 54 [(2, .int (-5)), (0, .ref (a 0)), (1, .int (nI pp)), (3, .int (nI n))] [] (MW G a (goF (-1) (gosF (-1) S n)) I (ovF F S 32) B_5 T_6 R_7 K_8 D hI ac sp en iw op (-1) (rsF (alF (-1) (gosF (-1) S n)) rd' 6) ra ki nu tv) ro
              refine ev_iinc (v := (nI (n + 1))) (lv' := [(3, .int (nI (n + 1))), (2, .int (-5)), (0, .ref (a 0)), (1, .int (nI pp))]) hC dX12_held_54 (q := 3) rfl (nI_k _ _ 1 (by decide)) (by decide) rfl ?_
              refine ev_goto (tgt := 19) hC dX12_held_57 (by decide) ?_
              refine ev_lv [2, 3, 1, 0] rfl ?_
              refine ev_ws (ws' := (MW G a (gosF (-1) S (n + 1)) I (ovF F S 32) B_5 T_6 R_7 K_8 D hI ac sp en iw op (-1) (rsF (alF (-1) (gosF (-1) S n)) rd' 6) ra ki nu tv)) rfl ?_
              exact ih (n + 1) (-5) B_5 T_6 R_7 K_8 (rsF (alF (-1) (gosF (-1) S n)) rd' 6) (by omega) (by first | exact held_t hb (by assumption) (by assumption) (by assumption) | exact held_f hb (by assumption) (by assumption) (by assumption)) (by omega)
            · refine ev_iload_n hC dX12_held_43 rfl 3 rfl ?_
              refine ev_goto (tgt := 49) hC dX12_held_44 (by decide) ?_
              refine ev_istore_n (lv' := [(2, .int (nI n)), (0, .ref (a 0)), (1, .int (nI pp)), (3, .int (nI n))]) hC dX12_held_49 rfl (by decide) rfl ?_
              refine ev_aload_n hC dX12_held_50 rfl 1 rfl ?_
              refine ev_callV (As := []) (st := []) (wf := []) hC cv_X12_178 (m_X12_goes G ro a (gosF (-1) S n) I (ovF F S 32) B' T' R' K' D hI ac sp en iw op (-1) rd' ra ki nu tv ((gosF_wf (-1) hW n (by omega) (by omega)).1) (by omega) (by omega)) (by decide) rfl rfl (Nat.le_of_ble_eq_true rfl) (List.Perm.of_eq (List.append_nil _).symm) (mw 0 rfl) rfl dX12_held_51 (by decide) (by decide) ?_
              rintro _ _ _ ⟨B_10, T_11, R_12, K_13, rfl, rfl, rfl, hK_14⟩
              refine ev_ws (List.append_nil _) ?_
              show Ev G X 0 0 54 [(2, .int (nI n)), (0, .ref (a 0)), (1, .int (nI pp)), (3, .int (nI n))] [] (MW G a (goF (-1) (gosF (-1) S n)) I (ovF F S 32) B_10 T_11 R_12 K_13 D hI ac sp en iw op (-1) (rsF (alF (-1) (gosF (-1) S n)) rd' 6) ra ki nu tv) ro
              refine ev_iinc (v := (nI (n + 1))) (lv' := [(3, .int (nI (n + 1))), (2, .int (nI n)), (0, .ref (a 0)), (1, .int (nI pp))]) hC dX12_held_54 (q := 3) rfl (nI_k _ _ 1 (by decide)) (by decide) rfl ?_
              refine ev_goto (tgt := 19) hC dX12_held_57 (by decide) ?_
              refine ev_lv [2, 3, 1, 0] rfl ?_
              refine ev_ws (ws' := (MW G a (gosF (-1) S (n + 1)) I (ovF F S 32) B_10 T_11 R_12 K_13 D hI ac sp en iw op (-1) (rsF (alF (-1) (gosF (-1) S n)) rd' 6) ra ki nu tv)) rfl ?_
              exact ih (n + 1) (nI n) B_10 T_11 R_12 K_13 (rsF (alF (-1) (gosF (-1) S n)) rd' 6) (by omega) (by first | exact held_t hb (by assumption) (by assumption) (by assumption) | exact held_f hb (by assumption) (by assumption) (by assumption)) (by omega)
    refine ev_ws (ws' := (MW G a (gosF (-1) S 0) I (ovF F S 32) B T R K D hI ac sp en iw op (-1) rd ra ki nu tv)) rfl ?_
    refine ev_lv [2, 3, 1, 0] rfl ?_
    exact lp_19 (61 - 0 + 1) 0 (-5) B T R K rd (by omega) (Or.inl ⟨rfl, rfl⟩) (Nat.lt_succ_self _)
  · refine ev_iconst (v := (-1)) hC dX12_held_8 (by decide) ?_
    refine ev_iret hC hR rfl dX12_held_9 ?_
    have e_15 : (heldR S x) = (-1) := by simp [heldR, *]
    exact ⟨_, _, _, _, _, _, (by rw [e_15]), rfl, rfl⟩

set_option maxHeartbeats 4000000 in
set_option maxRecDepth 100000 in
theorem m_X12_worst (G : GG) (ro : va_W) (a : Nat → Nat) (S I F B T R K D : Nat → Int32) (hI ac sp en iw op mu rd ra ki nu tv : Int32) (x w : Int32) (hW : WF S 9999 9999) : Mth G M_X12_worst 4 0 0 [.ref (a 0), .int x, .int w] (MW G a S I F B T R K D hI ac sp en iw op (-1) rd ra ki nu tv) ro (fun r ws' ro' => ∃ (F' : Nat → Int32), ∃ (B' : Nat → Int32), ∃ (T' : Nat → Int32), ∃ (R' : Nat → Int32), ∃ (K' : Nat → Int32), ∃ (rd' : Int32), r = some (.int (worstR S x w)) ∧ ws' = (MW G a S I F' B' T' R' K' D hI ac sp en iw op (-1) rd' ra ki nu tv) ∧ ro = ro') := by
  refine mth_of (by decide +kernel) (Nat.le_of_ble_eq_true rfl) (fun X hC hR => ?_)
  have b32 := hW.peo.le
  have b33 := hW.tre.le
  have b34 := hW.seen.le
  have b35 := hW.plan.le
  have b36 := hW.book.le
  have b37 := hW.tape.le
  show Ev G X 0 0 0 [(0, .ref (a 0)), (1, .int x), (2, .int w)] [] (MW G a S I F B T R K D hI ac sp en iw op (-1) rd ra ki nu tv) ro
  refine ev_aload_n hC dX12_worst_0 rfl 0 rfl ?_
  refine ev_iload_n hC dX12_worst_1 rfl 1 rfl ?_
  refine ev_callV (As := [.int x]) (st := []) (wf := []) hC cv_X12_147 (m_X12_isPerson G ro a S I F B T R K D hI ac sp en iw op (-1) rd ra ki nu tv x) (by decide) rfl rfl (Nat.le_of_ble_eq_true rfl) (List.Perm.of_eq (List.append_nil _).symm) (mw 0 rfl) rfl dX12_worst_2 (by decide) (by decide) ?_
  rintro _ _ _ ⟨rfl, rfl, rfl⟩
  refine ev_ws (List.append_nil _) ?_
  show Ev G X 0 0 5 [(0, .ref (a 0)), (1, .int x), (2, .int w)] [.int (bI ((nI 0) ≤ x ∧ x ≤ ((S 32) - nI 1)))] (MW G a S I F B T R K D hI ac sp en iw op (-1) rd ra ki nu tv) ro
  refine ev_if_eqB (tgt := 17) hC dX12_worst_5 (by decide) (fun c_1 => ?_) (fun c_1 => ?_)
  · refine ev_iconst (v := (-1)) hC dX12_worst_17 (by decide) ?_
    refine ev_iret hC hR rfl dX12_worst_18 ?_
    exact ⟨_, _, _, _, _, _, by rw [show worstR S x w = -1 by rw [worstR]; exact if_neg (fun h => by first | exact absurd h.1 (by assumption) | exact absurd h.2 (by assumption))], rfl, rfl⟩
  · refine ev_iload_n hC dX12_worst_8 rfl 2 rfl ?_
    refine ev_iconst (v := (nI 0)) hC dX12_worst_9 (by decide) ?_
    refine ev_iconst (v := (nI 1)) hC dX12_worst_10 (by decide) ?_
    refine ev_callS (As := [.int w, .int (nI 0), .int (nI 1)]) (st := []) (wc := []) (wf := (MW G a S I F B T R K D hI ac sp en iw op (-1) rd ra ki nu tv)) hC ct_X12_44 (m_X12_in G ro w (nI 0) (nI 1)) (by decide) rfl rfl (Nat.le_of_ble_eq_true rfl) (List.Perm.refl _) dX12_worst_11 (by decide) (by decide) ?_
    rintro _ _ _ ⟨rfl, rfl, rfl⟩
    refine ev_ws (List.nil_append _) ?_
    show Ev G X 0 0 14 [(0, .ref (a 0)), (1, .int x), (2, .int w)] [.int (bI ((nI 0) ≤ w ∧ w ≤ (nI 1)))] (MW G a S I F B T R K D hI ac sp en iw op (-1) rd ra ki nu tv) ro
    refine ev_if_neB (tgt := 19) hC dX12_worst_14 (by decide) (fun c_2 => ?_) (fun c_2 => ?_)
    · obtain ⟨pp, hpp, rfl⟩ := isP hW (by assumption)
      have hpn_pp : pn (nI pp) = pp := nI_clamp (by omega)
      obtain ⟨wk, hwk, rfl⟩ := inN (m := 1) (by omega) (by assumption)
      rcases (show wk = 0 ∨ wk = 1 by omega) with rfl | rfl
      · refine ev_aload_n hC dX12_worst_19 rfl 0 rfl ?_
        refine ev_callV (As := []) (st := []) (wf := []) hC cv_X12_181 (m_X12_keeps G ro a S I F B T R K D hI ac sp en iw op (-1) rd ra ki nu tv) (by decide) rfl rfl (Nat.le_of_ble_eq_true rfl) (List.Perm.of_eq (List.append_nil _).symm) (mw 0 rfl) rfl dX12_worst_20 (by decide) (by decide) ?_
        rintro _ _ _ ⟨rfl, rfl, rfl⟩
        refine ev_ws (List.append_nil _) ?_
        show Ev G X 0 0 23 [(0, .ref (a 0)), (1, .int (nI pp)), (2, .int (nI 0))] [] (MW G a S I (ovF F S 32) B T R K D hI ac sp en iw op (-1) rd ra ki nu tv) ro
        refine ev_iconst (v := (-1)) hC dX12_worst_23 (by decide) ?_
        refine ev_istore_n (lv' := [(3, .int (-1)), (0, .ref (a 0)), (1, .int (nI pp)), (2, .int (nI 0))]) hC dX12_worst_24 rfl (by decide) rfl ?_
        refine ev_iconst (v := (nI 0)) hC dX12_worst_25 (by decide) ?_
        refine ev_istore (lv' := [(4, .int (nI 0)), (3, .int (-1)), (0, .ref (a 0)), (1, .int (nI pp)), (2, .int (nI 0))]) hC dX12_worst_26 (by decide) rfl ?_
        refine ev_iconst (v := (nI 0)) hC dX12_worst_28 (by decide) ?_
        refine ev_istore (lv' := [(5, .int (nI 0)), (4, .int (nI 0)), (3, .int (-1)), (0, .ref (a 0)), (1, .int (nI pp)), (2, .int (nI 0))]) hC dX12_worst_29 (by decide) rfl ?_
        have lp_31 : ∀ (fu_31 : Nat) (n : Nat) (most : Int32) (when : Int32) (B' : Nat → Int32) (T' : Nat → Int32) (R' : Nat → Int32) (K' : Nat → Int32) (rd' : Int32) (hn61 : n ≤ 61) (hb : worF S pp n = (most, when)) (hn : 61 - n < fu_31), Ev G X 0 0 31 [(0, .ref (a 0)), (1, .int (nI pp)), (2, .int (nI 0)), (3, .int most), (4, .int when), (5, .int (nI n))] [] (MW G a (gosF (-1) S n) I (ovF F S 32) B' T' R' K' D hI ac sp en iw op (-1) rd' ra ki nu tv) ro := by
          intro fu_31
          induction fu_31 with
          | zero => intro n most when B' T' R' K' rd' hn61 hb hn; exact absurd hn (Nat.not_lt_zero _)
          | succ fu_31 ih =>
            intro n most when B' T' R' K' rd' hn61 hb hn
            refine ev_iload hC dX12_worst_31 5 rfl ?_
            refine ev_bipush (v := (nI 60)) hC dX12_worst_33 (by decide) ?_
            refine ev_icmp_gtN (tgt := 87) hC dX12_worst_35 (by decide) (by omega) (by omega) (fun c_3 => ?_) (fun c_3 => ?_)
            · refine ev_aload_n hC dX12_worst_87 rfl 0 rfl ?_
              refine ev_callV (As := []) (st := []) (wf := []) hC cv_X12_187 (m_X12_goesBack G ro a (gosF (-1) S n) I (ovF F S 32) B' T' R' K' D hI ac sp en iw op (-1) rd' ra ki nu tv) (by decide) rfl rfl (Nat.le_of_ble_eq_true rfl) (List.Perm.of_eq (List.append_nil _).symm) (mw 0 rfl) rfl dX12_worst_88 (by decide) (by decide) ?_
              rintro _ _ _ ⟨rfl, rfl, rfl⟩
              refine ev_ws (List.append_nil _) ?_
              show Ev G X 0 0 91 [(0, .ref (a 0)), (1, .int (nI pp)), (2, .int (nI 0)), (3, .int most), (4, .int when), (5, .int (nI n))] [] (MW G a (ovF (gosF (-1) S n) (ovF F S 32) 32) I (ovF F S 32) B' T' R' K' D hI ac sp en iw op (-1) rd' ra ki nu tv) ro
              refine ev_ws (ws' := (MW G a S I (ovF F S 32) B' T' R' K' D hI ac sp en iw op (-1) rd' ra ki nu tv)) (by rw [back_eq (Hi.tr Hi.rf (gosF_wf (-1) hW n (by omega) (by omega)).2)]) ?_
              refine ev_iload_n hC dX12_worst_91 rfl 2 rfl ?_
              refine ev_if_neN (tgt := 99) hC dX12_worst_92 (by decide) (by omega) (fun c_4 => absurd c_4 (by omega)) (fun c_4 => ?_)
              refine ev_iload_n hC dX12_worst_95 rfl 3 rfl ?_
              refine ev_goto (tgt := 101) hC dX12_worst_96 (by decide) ?_
              refine ev_iret hC hR rfl dX12_worst_101 ?_
              obtain rfl : n = 61 := by omega
              have er : worstR S (nI pp) (nI 0) = most := by rw [worstR, if_pos ⟨by assumption, by assumption⟩, hpn_pp, if_pos rfl, hb]
              exact ⟨_, _, _, _, _, _, by rw [er], rfl, rfl⟩
            · refine ev_aload_n hC dX12_worst_38 rfl 0 rfl ?_
              refine ev_get hC fl_X12_9_12 (mw 0 rfl) rfl dX12_worst_39 ?_
              refine ev_bipush (v := (nI 20)) hC dX12_worst_42 (by decide) ?_
              refine ev_iload_n hC dX12_worst_44 rfl 1 rfl ?_
              refine ev_iadd hC dX12_worst_45 ?_
              refine ev_top (y := (nI (20 + pp))) ((nI_add _ _).trans (congrArg nI (by omega))) ?_
              refine ev_ialdN (i := 20 + pp) hC (mw 1 rfl) (by omega) (by omega) dX12_worst_46 ?_
              refine ev_istore (lv' := [(6, .int ((gosF (-1) S n) (20 + pp))), (0, .ref (a 0)), (1, .int (nI pp)), (2, .int (nI 0)), (3, .int most), (4, .int when), (5, .int (nI n))]) hC dX12_worst_47 (by decide) rfl ?_
              refine ev_iload hC dX12_worst_49 0 rfl ?_
              refine ev_iload_n hC dX12_worst_51 rfl 4 rfl ?_
              refine ev_icmp_le (tgt := 60) hC dX12_worst_52 (by decide) (fun c_5 => ?_) (fun c_5 => ?_)
              · refine ev_iload hC dX12_worst_60 5 rfl ?_
                refine ev_istore (lv' := [(4, .int when), (6, .int ((gosF (-1) S n) (20 + pp))), (0, .ref (a 0)), (1, .int (nI pp)), (2, .int (nI 0)), (3, .int most), (5, .int (nI n))]) hC dX12_worst_62 (by decide) rfl ?_
                refine ev_iload hC dX12_worst_64 1 rfl ?_
                refine ev_iload_n hC dX12_worst_66 rfl 5 rfl ?_
                refine ev_icmp_le (tgt := 75) hC dX12_worst_67 (by decide) (fun c_6 => ?_) (fun c_6 => absurd c_6 (fun q => q c_5))
                refine ev_iload_n hC dX12_worst_75 rfl 5 rfl ?_
                refine ev_istore_n (lv' := [(3, .int most), (4, .int when), (6, .int ((gosF (-1) S n) (20 + pp))), (0, .ref (a 0)), (1, .int (nI pp)), (2, .int (nI 0)), (5, .int (nI n))]) hC dX12_worst_76 rfl (by decide) rfl ?_
                refine ev_aload_n hC dX12_worst_77 rfl 3 rfl ?_
                refine ev_callV (As := []) (st := []) (wf := []) hC cv_X12_178 (m_X12_goes G ro a (gosF (-1) S n) I (ovF F S 32) B' T' R' K' D hI ac sp en iw op (-1) rd' ra ki nu tv ((gosF_wf (-1) hW n (by omega) (by omega)).1) (by omega) (by omega)) (by decide) rfl rfl (Nat.le_of_ble_eq_true rfl) (List.Perm.of_eq (List.append_nil _).symm) (mw 0 rfl) rfl dX12_worst_78 (by decide) (by decide) ?_
                rintro _ _ _ ⟨B_7, T_8, R_9, K_10, rfl, rfl, rfl, hK_11⟩
                refine ev_ws (List.append_nil _) ?_
                show Ev G X 0 0 81 [(3, .int most), (4, .int when), (6, .int ((gosF (-1) S n) (20 + pp))), (0, .ref (a 0)), (1, .int (nI pp)), (2, .int (nI 0)), (5, .int (nI n))] [] (MW G a (goF (-1) (gosF (-1) S n)) I (ovF F S 32) B_7 T_8 R_9 K_10 D hI ac sp en iw op (-1) (rsF (alF (-1) (gosF (-1) S n)) rd' 6) ra ki nu tv) ro
                refine ev_iinc (v := (nI (n + 1))) (lv' := [(5, .int (nI (n + 1))), (3, .int most), (4, .int when), (6, .int ((gosF (-1) S n) (20 + pp))), (0, .ref (a 0)), (1, .int (nI pp)), (2, .int (nI 0))]) hC dX12_worst_81 (q := 6) rfl (nI_k _ _ 1 (by decide)) (by decide) rfl ?_
                refine ev_goto (tgt := 31) hC dX12_worst_84 (by decide) ?_
                refine ev_lv [4, 5, 6, 1, 2, 0] rfl ?_
                refine ev_ws (ws' := (MW G a (gosF (-1) S (n + 1)) I (ovF F S 32) B_7 T_8 R_9 K_10 D hI ac sp en iw op (-1) (rsF (alF (-1) (gosF (-1) S n)) rd' 6) ra ki nu tv)) rfl ?_
                exact ih (n + 1) most when B_7 T_8 R_9 K_10 (rsF (alF (-1) (gosF (-1) S n)) rd' 6) (by omega) (by first | exact worF_t hb (by assumption) | exact worF_f hb (by assumption)) (by omega)
              · refine ev_iload hC dX12_worst_55 6 rfl ?_
                refine ev_goto (tgt := 62) hC dX12_worst_57 (by decide) ?_
                refine ev_istore (lv' := [(4, .int (nI n)), (6, .int ((gosF (-1) S n) (20 + pp))), (0, .ref (a 0)), (1, .int (nI pp)), (2, .int (nI 0)), (3, .int most), (5, .int (nI n))]) hC dX12_worst_62 (by decide) rfl ?_
                refine ev_iload hC dX12_worst_64 1 rfl ?_
                refine ev_iload_n hC dX12_worst_66 rfl 5 rfl ?_
                refine ev_icmp_le (tgt := 75) hC dX12_worst_67 (by decide) (fun c_12 => absurd c_12 (fun q => c_5 q)) (fun c_12 => ?_)
                refine ev_iload hC dX12_worst_70 1 rfl ?_
                refine ev_goto (tgt := 76) hC dX12_worst_72 (by decide) ?_
                refine ev_istore_n (lv' := [(3, .int ((gosF (-1) S n) (20 + pp))), (4, .int (nI n)), (6, .int ((gosF (-1) S n) (20 + pp))), (0, .ref (a 0)), (1, .int (nI pp)), (2, .int (nI 0)), (5, .int (nI n))]) hC dX12_worst_76 rfl (by decide) rfl ?_
                refine ev_aload_n hC dX12_worst_77 rfl 3 rfl ?_
                refine ev_callV (As := []) (st := []) (wf := []) hC cv_X12_178 (m_X12_goes G ro a (gosF (-1) S n) I (ovF F S 32) B' T' R' K' D hI ac sp en iw op (-1) rd' ra ki nu tv ((gosF_wf (-1) hW n (by omega) (by omega)).1) (by omega) (by omega)) (by decide) rfl rfl (Nat.le_of_ble_eq_true rfl) (List.Perm.of_eq (List.append_nil _).symm) (mw 0 rfl) rfl dX12_worst_78 (by decide) (by decide) ?_
                rintro _ _ _ ⟨B_13, T_14, R_15, K_16, rfl, rfl, rfl, hK_17⟩
                refine ev_ws (List.append_nil _) ?_
                show Ev G X 0 0 81 [(3, .int ((gosF (-1) S n) (20 + pp))), (4, .int (nI n)), (6, .int ((gosF (-1) S n) (20 + pp))), (0, .ref (a 0)), (1, .int (nI pp)), (2, .int (nI 0)), (5, .int (nI n))] [] (MW G a (goF (-1) (gosF (-1) S n)) I (ovF F S 32) B_13 T_14 R_15 K_16 D hI ac sp en iw op (-1) (rsF (alF (-1) (gosF (-1) S n)) rd' 6) ra ki nu tv) ro
                refine ev_iinc (v := (nI (n + 1))) (lv' := [(5, .int (nI (n + 1))), (3, .int ((gosF (-1) S n) (20 + pp))), (4, .int (nI n)), (6, .int ((gosF (-1) S n) (20 + pp))), (0, .ref (a 0)), (1, .int (nI pp)), (2, .int (nI 0))]) hC dX12_worst_81 (q := 6) rfl (nI_k _ _ 1 (by decide)) (by decide) rfl ?_
                refine ev_goto (tgt := 31) hC dX12_worst_84 (by decide) ?_
                refine ev_lv [4, 5, 6, 1, 2, 0] rfl ?_
                refine ev_ws (ws' := (MW G a (gosF (-1) S (n + 1)) I (ovF F S 32) B_13 T_14 R_15 K_16 D hI ac sp en iw op (-1) (rsF (alF (-1) (gosF (-1) S n)) rd' 6) ra ki nu tv)) rfl ?_
                exact ih (n + 1) ((gosF (-1) S n) (20 + pp)) (nI n) B_13 T_14 R_15 K_16 (rsF (alF (-1) (gosF (-1) S n)) rd' 6) (by omega) (by first | exact worF_t hb (by assumption) | exact worF_f hb (by assumption)) (by omega)
        refine ev_ws (ws' := (MW G a (gosF (-1) S 0) I (ovF F S 32) B T R K D hI ac sp en iw op (-1) rd ra ki nu tv)) rfl ?_
        refine ev_lv [3, 4, 5, 2, 1, 0] rfl ?_
        exact lp_31 (61 - 0 + 1) 0 (-1) (nI 0) B T R K rd (by omega) rfl (Nat.lt_succ_self _)
      · refine ev_aload_n hC dX12_worst_19 rfl 0 rfl ?_
        refine ev_callV (As := []) (st := []) (wf := []) hC cv_X12_181 (m_X12_keeps G ro a S I F B T R K D hI ac sp en iw op (-1) rd ra ki nu tv) (by decide) rfl rfl (Nat.le_of_ble_eq_true rfl) (List.Perm.of_eq (List.append_nil _).symm) (mw 0 rfl) rfl dX12_worst_20 (by decide) (by decide) ?_
        rintro _ _ _ ⟨rfl, rfl, rfl⟩
        refine ev_ws (List.append_nil _) ?_
        show Ev G X 0 0 23 [(0, .ref (a 0)), (1, .int (nI pp)), (2, .int (nI 1))] [] (MW G a S I (ovF F S 32) B T R K D hI ac sp en iw op (-1) rd ra ki nu tv) ro
        refine ev_iconst (v := (-1)) hC dX12_worst_23 (by decide) ?_
        refine ev_istore_n (lv' := [(3, .int (-1)), (0, .ref (a 0)), (1, .int (nI pp)), (2, .int (nI 1))]) hC dX12_worst_24 rfl (by decide) rfl ?_
        refine ev_iconst (v := (nI 0)) hC dX12_worst_25 (by decide) ?_
        refine ev_istore (lv' := [(4, .int (nI 0)), (3, .int (-1)), (0, .ref (a 0)), (1, .int (nI pp)), (2, .int (nI 1))]) hC dX12_worst_26 (by decide) rfl ?_
        refine ev_iconst (v := (nI 0)) hC dX12_worst_28 (by decide) ?_
        refine ev_istore (lv' := [(5, .int (nI 0)), (4, .int (nI 0)), (3, .int (-1)), (0, .ref (a 0)), (1, .int (nI pp)), (2, .int (nI 1))]) hC dX12_worst_29 (by decide) rfl ?_
        have lp_31 : ∀ (fu_31 : Nat) (n : Nat) (most : Int32) (when : Int32) (B' : Nat → Int32) (T' : Nat → Int32) (R' : Nat → Int32) (K' : Nat → Int32) (rd' : Int32) (hn61 : n ≤ 61) (hb : worF S pp n = (most, when)) (hn : 61 - n < fu_31), Ev G X 0 0 31 [(0, .ref (a 0)), (1, .int (nI pp)), (2, .int (nI 1)), (3, .int most), (4, .int when), (5, .int (nI n))] [] (MW G a (gosF (-1) S n) I (ovF F S 32) B' T' R' K' D hI ac sp en iw op (-1) rd' ra ki nu tv) ro := by
          intro fu_31
          induction fu_31 with
          | zero => intro n most when B' T' R' K' rd' hn61 hb hn; exact absurd hn (Nat.not_lt_zero _)
          | succ fu_31 ih =>
            intro n most when B' T' R' K' rd' hn61 hb hn
            refine ev_iload hC dX12_worst_31 5 rfl ?_
            refine ev_bipush (v := (nI 60)) hC dX12_worst_33 (by decide) ?_
            refine ev_icmp_gtN (tgt := 87) hC dX12_worst_35 (by decide) (by omega) (by omega) (fun c_18 => ?_) (fun c_18 => ?_)
            · refine ev_aload_n hC dX12_worst_87 rfl 0 rfl ?_
              refine ev_callV (As := []) (st := []) (wf := []) hC cv_X12_187 (m_X12_goesBack G ro a (gosF (-1) S n) I (ovF F S 32) B' T' R' K' D hI ac sp en iw op (-1) rd' ra ki nu tv) (by decide) rfl rfl (Nat.le_of_ble_eq_true rfl) (List.Perm.of_eq (List.append_nil _).symm) (mw 0 rfl) rfl dX12_worst_88 (by decide) (by decide) ?_
              rintro _ _ _ ⟨rfl, rfl, rfl⟩
              refine ev_ws (List.append_nil _) ?_
              show Ev G X 0 0 91 [(0, .ref (a 0)), (1, .int (nI pp)), (2, .int (nI 1)), (3, .int most), (4, .int when), (5, .int (nI n))] [] (MW G a (ovF (gosF (-1) S n) (ovF F S 32) 32) I (ovF F S 32) B' T' R' K' D hI ac sp en iw op (-1) rd' ra ki nu tv) ro
              refine ev_ws (ws' := (MW G a S I (ovF F S 32) B' T' R' K' D hI ac sp en iw op (-1) rd' ra ki nu tv)) (by rw [back_eq (Hi.tr Hi.rf (gosF_wf (-1) hW n (by omega) (by omega)).2)]) ?_
              refine ev_iload_n hC dX12_worst_91 rfl 2 rfl ?_
              refine ev_if_neN (tgt := 99) hC dX12_worst_92 (by decide) (by omega) (fun c_19 => ?_) (fun c_19 => absurd c_19 (by omega))
              refine ev_iload hC dX12_worst_99 4 rfl ?_
              refine ev_iret hC hR rfl dX12_worst_101 ?_
              obtain rfl : n = 61 := by omega
              have er : worstR S (nI pp) (nI 1) = when := by rw [worstR, if_pos ⟨by assumption, by assumption⟩, hpn_pp, if_neg (by decide), hb]
              exact ⟨_, _, _, _, _, _, by rw [er], rfl, rfl⟩
            · refine ev_aload_n hC dX12_worst_38 rfl 0 rfl ?_
              refine ev_get hC fl_X12_9_12 (mw 0 rfl) rfl dX12_worst_39 ?_
              refine ev_bipush (v := (nI 20)) hC dX12_worst_42 (by decide) ?_
              refine ev_iload_n hC dX12_worst_44 rfl 1 rfl ?_
              refine ev_iadd hC dX12_worst_45 ?_
              refine ev_top (y := (nI (20 + pp))) ((nI_add _ _).trans (congrArg nI (by omega))) ?_
              refine ev_ialdN (i := 20 + pp) hC (mw 1 rfl) (by omega) (by omega) dX12_worst_46 ?_
              refine ev_istore (lv' := [(6, .int ((gosF (-1) S n) (20 + pp))), (0, .ref (a 0)), (1, .int (nI pp)), (2, .int (nI 1)), (3, .int most), (4, .int when), (5, .int (nI n))]) hC dX12_worst_47 (by decide) rfl ?_
              refine ev_iload hC dX12_worst_49 0 rfl ?_
              refine ev_iload_n hC dX12_worst_51 rfl 4 rfl ?_
              refine ev_icmp_le (tgt := 60) hC dX12_worst_52 (by decide) (fun c_20 => ?_) (fun c_20 => ?_)
              · refine ev_iload hC dX12_worst_60 5 rfl ?_
                refine ev_istore (lv' := [(4, .int when), (6, .int ((gosF (-1) S n) (20 + pp))), (0, .ref (a 0)), (1, .int (nI pp)), (2, .int (nI 1)), (3, .int most), (5, .int (nI n))]) hC dX12_worst_62 (by decide) rfl ?_
                refine ev_iload hC dX12_worst_64 1 rfl ?_
                refine ev_iload_n hC dX12_worst_66 rfl 5 rfl ?_
                refine ev_icmp_le (tgt := 75) hC dX12_worst_67 (by decide) (fun c_21 => ?_) (fun c_21 => absurd c_21 (fun q => q c_20))
                refine ev_iload_n hC dX12_worst_75 rfl 5 rfl ?_
                refine ev_istore_n (lv' := [(3, .int most), (4, .int when), (6, .int ((gosF (-1) S n) (20 + pp))), (0, .ref (a 0)), (1, .int (nI pp)), (2, .int (nI 1)), (5, .int (nI n))]) hC dX12_worst_76 rfl (by decide) rfl ?_
                refine ev_aload_n hC dX12_worst_77 rfl 3 rfl ?_
                refine ev_callV (As := []) (st := []) (wf := []) hC cv_X12_178 (m_X12_goes G ro a (gosF (-1) S n) I (ovF F S 32) B' T' R' K' D hI ac sp en iw op (-1) rd' ra ki nu tv ((gosF_wf (-1) hW n (by omega) (by omega)).1) (by omega) (by omega)) (by decide) rfl rfl (Nat.le_of_ble_eq_true rfl) (List.Perm.of_eq (List.append_nil _).symm) (mw 0 rfl) rfl dX12_worst_78 (by decide) (by decide) ?_
                rintro _ _ _ ⟨B_22, T_23, R_24, K_25, rfl, rfl, rfl, hK_26⟩
                refine ev_ws (List.append_nil _) ?_
                show Ev G X 0 0 81 [(3, .int most), (4, .int when), (6, .int ((gosF (-1) S n) (20 + pp))), (0, .ref (a 0)), (1, .int (nI pp)), (2, .int (nI 1)), (5, .int (nI n))] [] (MW G a (goF (-1) (gosF (-1) S n)) I (ovF F S 32) B_22 T_23 R_24 K_25 D hI ac sp en iw op (-1) (rsF (alF (-1) (gosF (-1) S n)) rd' 6) ra ki nu tv) ro
                refine ev_iinc (v := (nI (n + 1))) (lv' := [(5, .int (nI (n + 1))), (3, .int most), (4, .int when), (6, .int ((gosF (-1) S n) (20 + pp))), (0, .ref (a 0)), (1, .int (nI pp)), (2, .int (nI 1))]) hC dX12_worst_81 (q := 6) rfl (nI_k _ _ 1 (by decide)) (by decide) rfl ?_
                refine ev_goto (tgt := 31) hC dX12_worst_84 (by decide) ?_
                refine ev_lv [4, 5, 6, 1, 2, 0] rfl ?_
                refine ev_ws (ws' := (MW G a (gosF (-1) S (n + 1)) I (ovF F S 32) B_22 T_23 R_24 K_25 D hI ac sp en iw op (-1) (rsF (alF (-1) (gosF (-1) S n)) rd' 6) ra ki nu tv)) rfl ?_
                exact ih (n + 1) most when B_22 T_23 R_24 K_25 (rsF (alF (-1) (gosF (-1) S n)) rd' 6) (by omega) (by first | exact worF_t hb (by assumption) | exact worF_f hb (by assumption)) (by omega)
              · refine ev_iload hC dX12_worst_55 6 rfl ?_
                refine ev_goto (tgt := 62) hC dX12_worst_57 (by decide) ?_
                refine ev_istore (lv' := [(4, .int (nI n)), (6, .int ((gosF (-1) S n) (20 + pp))), (0, .ref (a 0)), (1, .int (nI pp)), (2, .int (nI 1)), (3, .int most), (5, .int (nI n))]) hC dX12_worst_62 (by decide) rfl ?_
                refine ev_iload hC dX12_worst_64 1 rfl ?_
                refine ev_iload_n hC dX12_worst_66 rfl 5 rfl ?_
                refine ev_icmp_le (tgt := 75) hC dX12_worst_67 (by decide) (fun c_27 => absurd c_27 (fun q => c_20 q)) (fun c_27 => ?_)
                refine ev_iload hC dX12_worst_70 1 rfl ?_
                refine ev_goto (tgt := 76) hC dX12_worst_72 (by decide) ?_
                refine ev_istore_n (lv' := [(3, .int ((gosF (-1) S n) (20 + pp))), (4, .int (nI n)), (6, .int ((gosF (-1) S n) (20 + pp))), (0, .ref (a 0)), (1, .int (nI pp)), (2, .int (nI 1)), (5, .int (nI n))]) hC dX12_worst_76 rfl (by decide) rfl ?_
                refine ev_aload_n hC dX12_worst_77 rfl 3 rfl ?_
                refine ev_callV (As := []) (st := []) (wf := []) hC cv_X12_178 (m_X12_goes G ro a (gosF (-1) S n) I (ovF F S 32) B' T' R' K' D hI ac sp en iw op (-1) rd' ra ki nu tv ((gosF_wf (-1) hW n (by omega) (by omega)).1) (by omega) (by omega)) (by decide) rfl rfl (Nat.le_of_ble_eq_true rfl) (List.Perm.of_eq (List.append_nil _).symm) (mw 0 rfl) rfl dX12_worst_78 (by decide) (by decide) ?_
                rintro _ _ _ ⟨B_28, T_29, R_30, K_31, rfl, rfl, rfl, hK_32⟩
                refine ev_ws (List.append_nil _) ?_
                show Ev G X 0 0 81 [(3, .int ((gosF (-1) S n) (20 + pp))), (4, .int (nI n)), (6, .int ((gosF (-1) S n) (20 + pp))), (0, .ref (a 0)), (1, .int (nI pp)), (2, .int (nI 1)), (5, .int (nI n))] [] (MW G a (goF (-1) (gosF (-1) S n)) I (ovF F S 32) B_28 T_29 R_30 K_31 D hI ac sp en iw op (-1) (rsF (alF (-1) (gosF (-1) S n)) rd' 6) ra ki nu tv) ro
                refine ev_iinc (v := (nI (n + 1))) (lv' := [(5, .int (nI (n + 1))), (3, .int ((gosF (-1) S n) (20 + pp))), (4, .int (nI n)), (6, .int ((gosF (-1) S n) (20 + pp))), (0, .ref (a 0)), (1, .int (nI pp)), (2, .int (nI 1))]) hC dX12_worst_81 (q := 6) rfl (nI_k _ _ 1 (by decide)) (by decide) rfl ?_
                refine ev_goto (tgt := 31) hC dX12_worst_84 (by decide) ?_
                refine ev_lv [4, 5, 6, 1, 2, 0] rfl ?_
                refine ev_ws (ws' := (MW G a (gosF (-1) S (n + 1)) I (ovF F S 32) B_28 T_29 R_30 K_31 D hI ac sp en iw op (-1) (rsF (alF (-1) (gosF (-1) S n)) rd' 6) ra ki nu tv)) rfl ?_
                exact ih (n + 1) ((gosF (-1) S n) (20 + pp)) (nI n) B_28 T_29 R_30 K_31 (rsF (alF (-1) (gosF (-1) S n)) rd' 6) (by omega) (by first | exact worF_t hb (by assumption) | exact worF_f hb (by assumption)) (by omega)
        refine ev_ws (ws' := (MW G a (gosF (-1) S 0) I (ovF F S 32) B T R K D hI ac sp en iw op (-1) rd ra ki nu tv)) rfl ?_
        refine ev_lv [3, 4, 5, 2, 1, 0] rfl ?_
        exact lp_31 (61 - 0 + 1) 0 (-1) (nI 0) B T R K rd (by omega) rfl (Nat.lt_succ_self _)
    · refine ev_iconst (v := (-1)) hC dX12_worst_17 (by decide) ?_
      refine ev_iret hC hR rfl dX12_worst_18 ?_
      exact ⟨_, _, _, _, _, _, by rw [show worstR S x w = -1 by rw [worstR]; exact if_neg (fun h => by first | exact absurd h.1 (by assumption) | exact absurd h.2 (by assumption))], rfl, rfl⟩
