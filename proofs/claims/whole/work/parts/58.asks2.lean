set_option maxHeartbeats 4000000 in
set_option maxRecDepth 100000 in
theorem m_X11_partOf (G : GG) (ro : va_W) (u l : Nat) (part : Int32) (hu : u < 2 ^ 31) (hl2 : l < 2 ^ 31) : Mth G M_X11_partOf 2 0 0 [.int (nI u), .int (nI l), .int part] [] ro (fun r ws' ro' => r = some (.long (ptF u l part)) ∧ ws' = [] ∧ ro = ro') := by
  refine mth_of (by decide +kernel) (Nat.le_of_ble_eq_true rfl) (fun X hC hR => ?_)
  show Ev G X 0 0 0 [(0, .int (nI u)), (1, .int (nI l)), (2, .int part)] [] [] ro
  refine ev_iload_n hC dX11_partOf_0 rfl 2 rfl ?_
  refine ev_iconst (v := (nI 0)) hC dX11_partOf_1 (by decide) ?_
  refine ev_iconst (v := (nI 1)) hC dX11_partOf_2 (by decide) ?_
  refine ev_callS (As := [.int part, .int (nI 0), .int (nI 1)]) (st := []) (wc := []) (wf := []) hC ct_X11_68 (m_X11_isWithin G ro part (nI 0) (nI 1)) (by omega) rfl rfl (Nat.le_of_ble_eq_true rfl) (List.Perm.refl _) dX11_partOf_3 (by omega) (by omega) ?_
  rintro _ _ _ ⟨rfl, rfl, rfl⟩
  refine ev_ws (List.nil_append _) ?_
  show Ev G X 0 0 6 [(0, .int (nI u)), (1, .int (nI l)), (2, .int part)] [.int (bI ((nI 0) ≤ part ∧ part ≤ (nI 1)))] [] ro
  refine ev_if_eqB (tgt := 14) hC dX11_partOf_6 (by decide) (fun c_1 => ?_) (fun c_1 => ?_)
  · refine ev_ldc2 (v := -9223372036854775808) hC dX11_partOf_14 (ft_in 861 (by decide +kernel) rfl) ?_
    refine ev_lret hC hR rfl dX11_partOf_17 ?_
    exact ⟨by rw [show ptF u l part = NOL from if_neg (fun z => by first | exact absurd z.1 (by assumption) | (have := z.2; omega))]; rfl, rfl, rfl⟩
  · refine ev_iload_n hC dX11_partOf_9 rfl 1 rfl ?_
    refine ev_iconst (v := (nI 1)) hC dX11_partOf_10 (by decide) ?_
    refine ev_icmp_geN (tgt := 18) hC dX11_partOf_11 (by decide) (by omega) (by omega) (fun c_2 => ?_) (fun c_2 => ?_)
    · refine ev_iload_n hC dX11_partOf_18 rfl 1 rfl ?_
      refine ev_istore_n (lv' := [(3, .int (nI l)), (0, .int (nI u)), (1, .int (nI l)), (2, .int part)]) hC dX11_partOf_19 rfl (by decide) rfl ?_
      refine ev_iload_n hC dX11_partOf_20 rfl 1 rfl ?_
      refine ev_istore (lv' := [(4, .int (nI u)), (3, .int (nI l)), (0, .int (nI u)), (1, .int (nI l)), (2, .int part)]) hC dX11_partOf_21 (by decide) rfl ?_
      refine ev_iconst (v := (nI 0)) hC dX11_partOf_23 (by decide) ?_
      refine ev_istore (lv' := [(5, .int (nI 0)), (4, .int (nI u)), (3, .int (nI l)), (0, .int (nI u)), (1, .int (nI l)), (2, .int part)]) hC dX11_partOf_24 (by decide) rfl ?_
      have lp_26 : ∀ (fu_26 : Nat) (i : Nat) (x : Nat) (y : Nat) (hii : i ≤ 64) (hg : Nat.gcd x y = Nat.gcd u l) (hE : EuI u l x y i) (hxy : x < 2 ^ 31 ∧ y < 2 ^ 31) (hn : 64 - i < fu_26), Ev G X 0 0 26 [(0, .int (nI u)), (1, .int (nI l)), (2, .int part), (3, .int (nI x)), (4, .int (nI y)), (5, .int (nI i))] [] [] ro := by
        intro fu_26
        induction fu_26 with
        | zero => intro i x y hii hg hE hxy hn; exact absurd hn (Nat.not_lt_zero _)
        | succ fu_26 ih =>
          intro i x y hii hg hE hxy hn
          refine ev_iload hC dX11_partOf_26 5 rfl ?_
          refine ev_bipush (v := (nI 64)) hC dX11_partOf_28 (by decide) ?_
          refine ev_icmp_geN (tgt := 57) hC dX11_partOf_30 (by decide) (by omega) (by omega) (fun c_3 => ?_) (fun c_3 => ?_)
          · have hy0 : y = 0 := by
              by_cases hz : y = 0
              · exact hz
              · have hi64 : i = 64 := by omega
                subst hi64
                exact hE.out hu hl2
            have hx0 : 0 < x := by
              have e1 : x = Nat.gcd u l := by rw [← hg, hy0, Nat.gcd_zero_right]
              rw [e1]
              exact Nat.gcd_pos_of_pos_right _ (by omega)
            have hdl := Nat.div_le_self l x
            have hdu := Nat.div_le_self u x
            refine ev_iload_n hC dX11_partOf_57 rfl 2 rfl ?_
            refine ev_if_ne (tgt := 65) hC dX11_partOf_58 (by decide) (fun c_4 => ?_) (fun c_4 => ?_)
            · refine ev_iload_n hC dX11_partOf_65 rfl 1 rfl ?_
              refine ev_iconst (v := (nI 1)) hC dX11_partOf_66 (by decide) ?_
              refine ev_iload_n hC dX11_partOf_67 rfl 3 rfl ?_
              refine ev_mmax hC ⟨(ft_in 865 (by decide +kernel) rfl), (ft_in 103 (by decide +kernel) rfl), (ft_in 68 (by decide +kernel) rfl), (ft_in 104 (by decide +kernel) rfl)⟩ (by omega) (Nat.le_of_ble_eq_true rfl) dX11_partOf_68 ?_
              refine ev_top (y := (nI (max 1 x))) (mxN (by omega) (by omega)) ?_
              refine ev_top (y := (nI x)) (congrArg nI (Nat.max_eq_right (by omega))) ?_
              refine ev_idiv hC dX11_partOf_71 (ne0N (by omega) (by omega)) ?_
              refine ev_top (y := (nI (l / x))) (pk_div (by omega) (by omega) (by omega)) ?_
              refine ev_i2l (v := lN (l / x)) hC dX11_partOf_72 (nI_l (by omega)) ?_
              refine ev_lret hC hR rfl dX11_partOf_73 ?_
              have eg : x = Nat.gcd u l := by rw [← hg, hy0, Nat.gcd_zero_right]
              exact ⟨by rw [show ptF u l part = lowF u l part from if_pos ⟨by assumption, by omega⟩, lowF, if_neg (fun z => c_4 (z.trans nI_0.symm)), ← eg], rfl, rfl⟩
            · refine ev_iload_n hC dX11_partOf_61 rfl 0 rfl ?_
              refine ev_goto (tgt := 66) hC dX11_partOf_62 (by decide) ?_
              refine ev_iconst (v := (nI 1)) hC dX11_partOf_66 (by decide) ?_
              refine ev_iload_n hC dX11_partOf_67 rfl 3 rfl ?_
              refine ev_mmax hC ⟨(ft_in 865 (by decide +kernel) rfl), (ft_in 103 (by decide +kernel) rfl), (ft_in 68 (by decide +kernel) rfl), (ft_in 104 (by decide +kernel) rfl)⟩ (by omega) (Nat.le_of_ble_eq_true rfl) dX11_partOf_68 ?_
              refine ev_top (y := (nI (max 1 x))) (mxN (by omega) (by omega)) ?_
              refine ev_top (y := (nI x)) (congrArg nI (Nat.max_eq_right (by omega))) ?_
              refine ev_idiv hC dX11_partOf_71 (ne0N (by omega) (by omega)) ?_
              refine ev_top (y := (nI (u / x))) (pk_div (by omega) (by omega) (by omega)) ?_
              refine ev_i2l (v := lN (u / x)) hC dX11_partOf_72 (nI_l (by omega)) ?_
              refine ev_lret hC hR rfl dX11_partOf_73 ?_
              have eg : x = Nat.gcd u l := by rw [← hg, hy0, Nat.gcd_zero_right]
              exact ⟨by rw [show ptF u l part = lowF u l part from if_pos ⟨by assumption, by omega⟩, lowF, if_pos (by rw [← nI_0]; exact c_4), ← eg], rfl, rfl⟩
          · refine ev_iload hC dX11_partOf_33 4 rfl ?_
            refine ev_if_leN (tgt := 57) hC dX11_partOf_35 (by decide) (by omega) (fun c_5 => ?_) (fun c_5 => ?_)
            · have hy0 : y = 0 := by
                by_cases hz : y = 0
                · exact hz
                · have hi64 : i = 64 := by omega
                  subst hi64
                  exact hE.out hu hl2
              have hx0 : 0 < x := by
                have e1 : x = Nat.gcd u l := by rw [← hg, hy0, Nat.gcd_zero_right]
                rw [e1]
                exact Nat.gcd_pos_of_pos_right _ (by omega)
              have hdl := Nat.div_le_self l x
              have hdu := Nat.div_le_self u x
              refine ev_iload_n hC dX11_partOf_57 rfl 2 rfl ?_
              refine ev_if_ne (tgt := 65) hC dX11_partOf_58 (by decide) (fun c_6 => ?_) (fun c_6 => ?_)
              · refine ev_iload_n hC dX11_partOf_65 rfl 1 rfl ?_
                refine ev_iconst (v := (nI 1)) hC dX11_partOf_66 (by decide) ?_
                refine ev_iload_n hC dX11_partOf_67 rfl 3 rfl ?_
                refine ev_mmax hC ⟨(ft_in 865 (by decide +kernel) rfl), (ft_in 103 (by decide +kernel) rfl), (ft_in 68 (by decide +kernel) rfl), (ft_in 104 (by decide +kernel) rfl)⟩ (by omega) (Nat.le_of_ble_eq_true rfl) dX11_partOf_68 ?_
                refine ev_top (y := (nI (max 1 x))) (mxN (by omega) (by omega)) ?_
                refine ev_top (y := (nI x)) (congrArg nI (Nat.max_eq_right (by omega))) ?_
                refine ev_idiv hC dX11_partOf_71 (ne0N (by omega) (by omega)) ?_
                refine ev_top (y := (nI (l / x))) (pk_div (by omega) (by omega) (by omega)) ?_
                refine ev_i2l (v := lN (l / x)) hC dX11_partOf_72 (nI_l (by omega)) ?_
                refine ev_lret hC hR rfl dX11_partOf_73 ?_
                have eg : x = Nat.gcd u l := by rw [← hg, hy0, Nat.gcd_zero_right]
                exact ⟨by rw [show ptF u l part = lowF u l part from if_pos ⟨by assumption, by omega⟩, lowF, if_neg (fun z => c_6 (z.trans nI_0.symm)), ← eg], rfl, rfl⟩
              · refine ev_iload_n hC dX11_partOf_61 rfl 0 rfl ?_
                refine ev_goto (tgt := 66) hC dX11_partOf_62 (by decide) ?_
                refine ev_iconst (v := (nI 1)) hC dX11_partOf_66 (by decide) ?_
                refine ev_iload_n hC dX11_partOf_67 rfl 3 rfl ?_
                refine ev_mmax hC ⟨(ft_in 865 (by decide +kernel) rfl), (ft_in 103 (by decide +kernel) rfl), (ft_in 68 (by decide +kernel) rfl), (ft_in 104 (by decide +kernel) rfl)⟩ (by omega) (Nat.le_of_ble_eq_true rfl) dX11_partOf_68 ?_
                refine ev_top (y := (nI (max 1 x))) (mxN (by omega) (by omega)) ?_
                refine ev_top (y := (nI x)) (congrArg nI (Nat.max_eq_right (by omega))) ?_
                refine ev_idiv hC dX11_partOf_71 (ne0N (by omega) (by omega)) ?_
                refine ev_top (y := (nI (u / x))) (pk_div (by omega) (by omega) (by omega)) ?_
                refine ev_i2l (v := lN (u / x)) hC dX11_partOf_72 (nI_l (by omega)) ?_
                refine ev_lret hC hR rfl dX11_partOf_73 ?_
                have eg : x = Nat.gcd u l := by rw [← hg, hy0, Nat.gcd_zero_right]
                exact ⟨by rw [show ptF u l part = lowF u l part from if_pos ⟨by assumption, by omega⟩, lowF, if_pos (by rw [← nI_0]; exact c_6), ← eg], rfl, rfl⟩
            · refine ev_iload_n hC dX11_partOf_38 rfl 3 rfl ?_
              refine ev_iload hC dX11_partOf_39 4 rfl ?_
              refine ev_irem hC dX11_partOf_41 (ne0N (by omega) (by omega)) ?_
              refine ev_top (y := (nI (x % y))) (pk_rem (by omega) (by omega) (by omega)) ?_
              refine ev_istore (lv' := [(6, .int (nI (x % y))), (0, .int (nI u)), (1, .int (nI l)), (2, .int part), (3, .int (nI x)), (4, .int (nI y)), (5, .int (nI i))]) hC dX11_partOf_42 (by decide) rfl ?_
              refine ev_iload hC dX11_partOf_44 5 rfl ?_
              refine ev_istore_n (lv' := [(3, .int (nI y)), (6, .int (nI (x % y))), (0, .int (nI u)), (1, .int (nI l)), (2, .int part), (4, .int (nI y)), (5, .int (nI i))]) hC dX11_partOf_46 rfl (by decide) rfl ?_
              refine ev_iload hC dX11_partOf_47 1 rfl ?_
              refine ev_istore (lv' := [(4, .int (nI (x % y))), (3, .int (nI y)), (6, .int (nI (x % y))), (0, .int (nI u)), (1, .int (nI l)), (2, .int part), (5, .int (nI i))]) hC dX11_partOf_49 (by decide) rfl ?_
              refine ev_iinc (v := (nI (i + 1))) (lv' := [(5, .int (nI (i + 1))), (4, .int (nI (x % y))), (3, .int (nI y)), (6, .int (nI (x % y))), (0, .int (nI u)), (1, .int (nI l)), (2, .int part)]) hC dX11_partOf_51 (q := 6) rfl (nI_k _ _ 1 (by decide)) (by decide) rfl ?_
              refine ev_goto (tgt := 26) hC dX11_partOf_54 (by decide) ?_
              refine ev_lv [4, 5, 6, 2, 1, 0] rfl ?_
              exact ih (i + 1) y (x % y) (by omega) (gcd_step hg) (hE.nx (by omega)) ⟨hxy.2, Nat.lt_of_le_of_lt (Nat.mod_le _ _) hxy.1⟩ (by omega)
      refine ev_lv [3, 4, 5, 2, 1, 0] rfl ?_
      exact lp_26 (64 - 0 + 1) 0 l u (by omega) (Nat.gcd_comm _ _) (Or.inl ⟨rfl, rfl, rfl⟩) ⟨hl2, hu⟩ (Nat.lt_succ_self _)
    · refine ev_ldc2 (v := -9223372036854775808) hC dX11_partOf_14 (ft_in 861 (by decide +kernel) rfl) ?_
      refine ev_lret hC hR rfl dX11_partOf_17 ?_
      exact ⟨by rw [show ptF u l part = NOL from if_neg (fun z => by first | exact absurd z.1 (by assumption) | (have := z.2; omega))]; rfl, rfl, rfl⟩

set_option maxHeartbeats 4000000 in
set_option maxRecDepth 100000 in
theorem m_X11_share (G : GG) (ro : va_W) (x : Nat) (r1 r2 r3 r4 r5 d b1 b2 b3 : Nat → Nat) (hi : Int32) (S tk le T tk3 le3 : Nat → Int32) (os os3 : Nat → Option Nat) (t t3 : Nat) (wa st3 wa3 : Int32) (y0 y part : Int32) (hW : WF S 9999 9999) (hO : MoOK G ro (r5 0) S os t)  : Mth G M_X11_share 8 0 0 [.ref x, .int y0, .int y, .int part] (List.flatten [SP x r1 r2 r3 r4 r5 d b1 b2 b3 hi, MO G b1 (vwn S 2 6) tk os (vwn S 14 6) (vwn S 20 6) (vwn S 26 6) (vwn S 51 24) le (S 32) (bitF S) (S 0) (S 1) t (S 33) (-1) wa, MO G b3 (vwn T 2 6) tk3 os3 (vwn T 14 6) (vwn T 20 6) (vwn T 26 6) (vwn T 51 24) le3 (T 32) (bitF T) (T 0) (T 1) t3 (T 33) st3 wa3]) ro (fun r ws' ro' => ∃ (T' : Nat → Int32), ∃ (tk3' : Nat → Int32), ∃ (le3' : Nat → Int32), ∃ (os3' : Nat → Option Nat), ∃ (t3' : Nat), ∃ (st3' : Int32), ∃ (wa3' : Int32), r = some (.long (shareR S y0 y part)) ∧ ws' = (List.flatten [SP x r1 r2 r3 r4 r5 d b1 b2 b3 hi, MO G b1 (vwn S 2 6) tk os (vwn S 14 6) (vwn S 20 6) (vwn S 26 6) (vwn S 51 24) le (S 32) (bitF S) (S 0) (S 1) t (S 33) (-1) wa, MO G b3 (vwn T' 2 6) tk3' os3' (vwn T' 14 6) (vwn T' 20 6) (vwn T' 26 6) (vwn T' 51 24) le3' (T' 32) (bitF T') (T' 0) (T' 1) t3' (T' 33) st3' wa3']) ∧ ro = ro') := by
  refine mth_of (by decide +kernel) (Nat.le_of_ble_eq_true rfl) (fun X hC hR => ?_)
  have b32 := hW.peo.le
  show Ev G X 0 0 0 [(0, .ref x), (1, .int y0), (2, .int y), (3, .int part)] [] (List.flatten [SP x r1 r2 r3 r4 r5 d b1 b2 b3 hi, MO G b1 (vwn S 2 6) tk os (vwn S 14 6) (vwn S 20 6) (vwn S 26 6) (vwn S 51 24) le (S 32) (bitF S) (S 0) (S 1) t (S 33) (-1) wa, MO G b3 (vwn T 2 6) tk3 os3 (vwn T 14 6) (vwn T 20 6) (vwn T 26 6) (vwn T 51 24) le3 (T 32) (bitF T) (T 0) (T 1) t3 (T 33) st3 wa3]) ro
  refine ev_aload_n hC dX11_share_0 rfl 0 rfl ?_
  refine ev_iload_n hC dX11_share_1 rfl 1 rfl ?_
  refine ev_callV (As := [.int y0]) (st := []) (wf := (List.flatten [MO G b3 (vwn T 2 6) tk3 os3 (vwn T 14 6) (vwn T 20 6) (vwn T 26 6) (vwn T 51 24) le3 (T 32) (bitF T) (T 0) (T 1) t3 (T 33) st3 wa3])) hC cv_X11_118 (m_X11_isPerson G ro x r1 r2 r3 r4 r5 d b1 b2 b3 hi S tk le os t (-1) wa y0) (by omega) rfl rfl (Nat.le_of_ble_eq_true rfl) (perm_sg (n := 3) [0, 1, 2] rfl rfl (by decide)) (mw 0 rfl) rfl dX11_share_2 (by omega) (by omega) ?_
  rintro _ _ _ ⟨rfl, rfl, rfl⟩
  show Ev G X 0 0 5 [(0, .ref x), (1, .int y0), (2, .int y), (3, .int part)] [.int (bI ((nI 0) ≤ y0 ∧ y0 ≤ (S 32 - nI 1)))] (List.flatten [SP x r1 r2 r3 r4 r5 d b1 b2 b3 hi, MO G b1 (vwn S 2 6) tk os (vwn S 14 6) (vwn S 20 6) (vwn S 26 6) (vwn S 51 24) le (S 32) (bitF S) (S 0) (S 1) t (S 33) (-1) wa, MO G b3 (vwn T 2 6) tk3 os3 (vwn T 14 6) (vwn T 20 6) (vwn T 26 6) (vwn T 51 24) le3 (T 32) (bitF T) (T 0) (T 1) t3 (T 33) st3 wa3]) ro
  refine ev_if_eqB (tgt := 18) hC dX11_share_5 (by decide) (fun c_1 => ?_) (fun c_1 => ?_)
  · refine ev_ldc2 (v := -9223372036854775808) hC dX11_share_18 (ft_in 861 (by decide +kernel) rfl) ?_
    refine ev_lret hC hR rfl dX11_share_21 ?_
    have er : shareR S y0 y part = NOL := by rw [shareR]; exact if_neg (fun h => by first | exact absurd h.1 (by assumption) | exact absurd h.2.1 (by assumption))
    exact ⟨_, _, _, _, _, _, _, by rw [er]; rfl, rfl, rfl⟩
  · obtain ⟨pp, hpp, rfl⟩ := isP hW (by assumption)
    have hpn_pp : pn (nI pp) = pp := nI_clamp (by omega)
    refine ev_iload_n hC dX11_share_8 rfl 2 rfl ?_
    refine ev_iconst (v := (nI 0)) hC dX11_share_9 (by decide) ?_
    refine ev_bipush (v := (nI 60)) hC dX11_share_10 (by decide) ?_
    refine ev_callS (As := [.int y, .int (nI 0), .int (nI 60)]) (st := []) (wc := []) (wf := (List.flatten [SP x r1 r2 r3 r4 r5 d b1 b2 b3 hi, MO G b1 (vwn S 2 6) tk os (vwn S 14 6) (vwn S 20 6) (vwn S 26 6) (vwn S 51 24) le (S 32) (bitF S) (S 0) (S 1) t (S 33) (-1) wa, MO G b3 (vwn T 2 6) tk3 os3 (vwn T 14 6) (vwn T 20 6) (vwn T 26 6) (vwn T 51 24) le3 (T 32) (bitF T) (T 0) (T 1) t3 (T 33) st3 wa3])) hC ct_X11_68 (m_X11_isWithin G ro y (nI 0) (nI 60)) (by omega) rfl rfl (Nat.le_of_ble_eq_true rfl) (List.Perm.refl _) dX11_share_12 (by omega) (by omega) ?_
    rintro _ _ _ ⟨rfl, rfl, rfl⟩
    refine ev_ws (List.nil_append _) ?_
    show Ev G X 0 0 15 [(0, .ref x), (1, .int (nI pp)), (2, .int y), (3, .int part)] [.int (bI ((nI 0) ≤ y ∧ y ≤ (nI 60)))] (List.flatten [SP x r1 r2 r3 r4 r5 d b1 b2 b3 hi, MO G b1 (vwn S 2 6) tk os (vwn S 14 6) (vwn S 20 6) (vwn S 26 6) (vwn S 51 24) le (S 32) (bitF S) (S 0) (S 1) t (S 33) (-1) wa, MO G b3 (vwn T 2 6) tk3 os3 (vwn T 14 6) (vwn T 20 6) (vwn T 26 6) (vwn T 51 24) le3 (T 32) (bitF T) (T 0) (T 1) t3 (T 33) st3 wa3]) ro
    refine ev_if_neB (tgt := 22) hC dX11_share_15 (by decide) (fun c_2 => ?_) (fun c_2 => ?_)
    · obtain ⟨kk, hkk, rfl⟩ := inN (m := 60) (by omega) (by assumption)
      have hpn_kk : pn (nI kk) = kk := nI_clamp (by omega)
      refine ev_aload_n hC dX11_share_22 rfl 0 rfl ?_
      refine ev_iload_n hC dX11_share_23 rfl 2 rfl ?_
      refine ev_callV (As := [.int (nI kk)]) (st := []) (wf := (List.flatten [])) hC cv_X11_188 (m_X11_after G ro x r1 r2 r3 r4 r5 d b1 b2 b3 hi S tk le T tk3 le3 os os3 t t3 wa st3 wa3 kk hW hO (by omega) (by omega) (by omega)) (by omega) rfl rfl (Nat.le_of_ble_eq_true rfl) (perm_sg (n := 3) [0, 1, 2] rfl rfl (by decide)) (mw 0 rfl) rfl dX11_share_24 (by omega) (by omega) ?_
      rintro _ _ _ ⟨tk_3, le_4, hK_5, rfl, rfl, rfl⟩
      show Ev G X 0 0 27 [(0, .ref x), (1, .int (nI pp)), (2, .int (nI kk)), (3, .int part)] [.ref (b3 0)] (List.flatten [SP x r1 r2 r3 r4 r5 d b1 b2 b3 hi, MO G b1 (vwn S 2 6) tk os (vwn S 14 6) (vwn S 20 6) (vwn S 26 6) (vwn S 51 24) le (S 32) (bitF S) (S 0) (S 1) t (S 33) (-1) wa, MO G b3 (vwn (gosF (-1) S kk) 2 6) tk_3 (cpO 6 os os3) (vwn (gosF (-1) S kk) 14 6) (vwn (gosF (-1) S kk) 20 6) (vwn (gosF (-1) S kk) 26 6) (vwn (gosF (-1) S kk) 51 24) le_4 ((gosF (-1) S kk) 32) (bitF (gosF (-1) S kk)) ((gosF (-1) S kk) 0) ((gosF (-1) S kk) 1) t ((gosF (-1) S kk) 33) (-1) (raF (-1) S (nI 0) kk)]) ro
      have hO_6 := hO.os hW (os' := cpO 6 os os3) (fun p hp => if_pos hp)
      refine ev_astore (lv' := [(4, .ref (b3 0)), (0, .ref x), (1, .int (nI pp)), (2, .int (nI kk)), (3, .int part)]) hC dX11_share_27 (by decide) rfl ?_
      refine ev_iconst (v := (nI 0)) hC dX11_share_29 (by decide) ?_
      refine ev_istore (lv' := [(5, .int (nI 0)), (4, .ref (b3 0)), (0, .ref x), (1, .int (nI pp)), (2, .int (nI kk)), (3, .int part)]) hC dX11_share_30 (by decide) rfl ?_
      refine ev_iconst (v := (nI 0)) hC dX11_share_32 (by decide) ?_
      refine ev_istore (lv' := [(6, .int (nI 0)), (5, .int (nI 0)), (4, .ref (b3 0)), (0, .ref x), (1, .int (nI pp)), (2, .int (nI kk)), (3, .int part)]) hC dX11_share_33 (by decide) rfl ?_
      have lp_35 : ∀ (fu_35 : Nat) (i : Nat) (hii : i ≤ sn S 32) (hn : sn S 32 - i < fu_35), Ev G X 0 0 35 [(0, .ref x), (1, .int (nI pp)), (2, .int (nI kk)), (3, .int part), (4, .ref (b3 0)), (5, .int (nI (eaA S kk i))), (6, .int (nI i))] [] (List.flatten [SP x r1 r2 r3 r4 r5 d b1 b2 b3 hi, MO G b1 (vwn S 2 6) tk os (vwn S 14 6) (vwn S 20 6) (vwn S 26 6) (vwn S 51 24) le (S 32) (bitF S) (S 0) (S 1) t (S 33) (-1) wa, MO G b3 (vwn (gosF (-1) S kk) 2 6) tk_3 (cpO 6 os os3) (vwn (gosF (-1) S kk) 14 6) (vwn (gosF (-1) S kk) 20 6) (vwn (gosF (-1) S kk) 26 6) (vwn (gosF (-1) S kk) 51 24) le_4 ((gosF (-1) S kk) 32) (bitF (gosF (-1) S kk)) ((gosF (-1) S kk) 0) ((gosF (-1) S kk) 1) t ((gosF (-1) S kk) 33) (-1) (raF (-1) S (nI 0) kk)]) ro := by
        intro fu_35
        induction fu_35 with
        | zero => intro i hii hn; exact absurd hn (Nat.not_lt_zero _)
        | succ fu_35 ih =>
          intro i hii hn
          have hle := eaA_le hW (n := kk) (by omega) (by omega) i (by omega)
          refine ev_iload hC dX11_share_35 6 rfl ?_
          refine ev_aload_n hC dX11_share_37 rfl 0 rfl ?_
          refine ev_get hC fl_X11_58_11 (mw 0 rfl) rfl dX11_share_38 ?_
          refine ev_get hC fl_X11_107_3 (mw 1 rfl) rfl dX11_share_41 ?_
          have bk_7 : NB S 32 _ := hW.peo
          have k_7 := bk_7.eq
          have lk_7 := bk_7.le
          have mk_7 := bk_7.lt
          refine ev_top (y := (nI (sn S 32))) k_7 ?_
          refine ev_icmp_geN (tgt := 77) hC dX11_share_44 (by decide) (by omega) (by omega) (fun c_8 => ?_) (fun c_8 => ?_)
          · have hle2 : eaA S kk i ≤ 20079 * 6 := Nat.le_trans hle (Nat.mul_le_mul (by omega) (by omega))
            refine ev_aload hC dX11_share_77 4 rfl ?_
            refine ev_get hC fl_X11_138_3 (mw 10 rfl) rfl dX11_share_79 ?_
            refine ev_iload_n hC dX11_share_82 rfl 1 rfl ?_
            refine ev_ialdN (i := pp) hC (mw 16 rfl) (by omega) (by omega) dX11_share_83 ?_
            refine ev_top (y := ((gosF (-1) S kk) (26 + pp))) (vwn_at (by omega)) ?_
            refine ev_aload_n hC dX11_share_84 rfl 0 rfl ?_
            refine ev_get hC fl_X11_58_11 (mw 0 rfl) rfl dX11_share_85 ?_
            refine ev_get hC fl_X11_138_3 (mw 1 rfl) rfl dX11_share_88 ?_
            refine ev_iload_n hC dX11_share_91 rfl 1 rfl ?_
            refine ev_ialdN (i := pp) hC (mw 7 rfl) (by omega) (by omega) dX11_share_92 ?_
            refine ev_top (y := (S (26 + pp))) (vwn_at (by omega)) ?_
            refine ev_isub hC dX11_share_93 ?_
            have hea_pp := eaN_eq hW (n := kk) (p := pp) (by omega) (by omega) (by omega)
            have hel_pp := hea_pp.2
            refine ev_top (y := (nI (eaN S kk pp))) hea_pp.1 ?_
            refine ev_iload hC dX11_share_94 5 rfl ?_
            refine ev_iload_n hC dX11_share_96 rfl 3 rfl ?_
            refine ev_callS (As := [.int (nI (eaN S kk pp)), .int (nI (eaA S kk i)), .int part]) (st := []) (wc := []) (wf := (List.flatten [SP x r1 r2 r3 r4 r5 d b1 b2 b3 hi, MO G b1 (vwn S 2 6) tk os (vwn S 14 6) (vwn S 20 6) (vwn S 26 6) (vwn S 51 24) le (S 32) (bitF S) (S 0) (S 1) t (S 33) (-1) wa, MO G b3 (vwn (gosF (-1) S kk) 2 6) tk_3 (cpO 6 os os3) (vwn (gosF (-1) S kk) 14 6) (vwn (gosF (-1) S kk) 20 6) (vwn (gosF (-1) S kk) 26 6) (vwn (gosF (-1) S kk) 51 24) le_4 ((gosF (-1) S kk) 32) (bitF (gosF (-1) S kk)) ((gosF (-1) S kk) 0) ((gosF (-1) S kk) 1) t ((gosF (-1) S kk) 33) (-1) (raF (-1) S (nI 0) kk)])) hC ct_X11_212 (m_X11_partOf G ro (eaN S kk pp) (eaA S kk i) part (by omega) (by omega)) (by omega) rfl rfl (Nat.le_of_ble_eq_true rfl) (List.Perm.refl _) dX11_share_97 (by omega) (by omega) ?_
            rintro _ _ _ ⟨rfl, rfl, rfl⟩
            refine ev_ws (List.nil_append _) ?_
            show Ev G X 0 0 100 [(0, .ref x), (1, .int (nI pp)), (2, .int (nI kk)), (3, .int part), (4, .ref (b3 0)), (5, .int (nI (eaA S kk i))), (6, .int (nI i))] [.long (ptF (eaN S kk pp) (eaA S kk i) part)] (List.flatten [SP x r1 r2 r3 r4 r5 d b1 b2 b3 hi, MO G b1 (vwn S 2 6) tk os (vwn S 14 6) (vwn S 20 6) (vwn S 26 6) (vwn S 51 24) le (S 32) (bitF S) (S 0) (S 1) t (S 33) (-1) wa, MO G b3 (vwn (gosF (-1) S kk) 2 6) tk_3 (cpO 6 os os3) (vwn (gosF (-1) S kk) 14 6) (vwn (gosF (-1) S kk) 20 6) (vwn (gosF (-1) S kk) 26 6) (vwn (gosF (-1) S kk) 51 24) le_4 ((gosF (-1) S kk) 32) (bitF (gosF (-1) S kk)) ((gosF (-1) S kk) 0) ((gosF (-1) S kk) 1) t ((gosF (-1) S kk) 33) (-1) (raF (-1) S (nI 0) kk)]) ro
            refine ev_lret hC hR rfl dX11_share_100 ?_
            obtain rfl : i = sn S 32 := by omega
            have er : shareR S (nI pp) (nI kk) part = ptF (eaN S kk pp) (eaA S kk (sn S 32)) part := by
              rw [shareR, ptF, hpn_pp, hpn_kk]
              by_cases hp1 : nI 0 ≤ part ∧ part ≤ nI 1
              · rw [if_pos ⟨isP_of hW hpp, nI_isN (by omega) hkk, hp1⟩]
                by_cases hz : eaA S kk (sn S 32) = 0
                · rw [if_pos hz, if_neg (fun z => by have := z.2; omega)]
                · rw [if_neg hz, if_pos ⟨hp1, by omega⟩]
              · rw [if_neg (fun z => hp1 z.2.2), if_neg (fun z => hp1 z.1)]
            exact ⟨_, _, _, _, _, _, _, by rw [er], rfl, rfl⟩
          · refine ev_iload hC dX11_share_47 5 rfl ?_
            refine ev_aload hC dX11_share_49 4 rfl ?_
            refine ev_get hC fl_X11_138_3 (mw 10 rfl) rfl dX11_share_51 ?_
            refine ev_iload hC dX11_share_54 6 rfl ?_
            refine ev_ialdN (i := i) hC (mw 16 rfl) (by omega) (by omega) dX11_share_56 ?_
            refine ev_top (y := ((gosF (-1) S kk) (26 + i))) (vwn_at (by omega)) ?_
            refine ev_aload_n hC dX11_share_57 rfl 0 rfl ?_
            refine ev_get hC fl_X11_58_11 (mw 0 rfl) rfl dX11_share_58 ?_
            refine ev_get hC fl_X11_138_3 (mw 1 rfl) rfl dX11_share_61 ?_
            refine ev_iload hC dX11_share_64 6 rfl ?_
            refine ev_ialdN (i := i) hC (mw 7 rfl) (by omega) (by omega) dX11_share_66 ?_
            refine ev_top (y := (S (26 + i))) (vwn_at (by omega)) ?_
            refine ev_isub hC dX11_share_67 ?_
            have hea_i := eaN_eq hW (n := kk) (p := i) (by omega) (by omega) (by omega)
            have hel_i := hea_i.2
            refine ev_top (y := (nI (eaN S kk i))) hea_i.1 ?_
            refine ev_iadd hC dX11_share_68 ?_
            refine ev_top (y := (nI (eaA S kk i + (eaN S kk i)))) ((nI_add _ _).trans (congrArg nI (by omega))) ?_
            refine ev_istore (lv' := [(5, .int (nI (eaA S kk i + (eaN S kk i)))), (0, .ref x), (1, .int (nI pp)), (2, .int (nI kk)), (3, .int part), (4, .ref (b3 0)), (6, .int (nI i))]) hC dX11_share_69 (by decide) rfl ?_
            refine ev_iinc (v := (nI (i + 1))) (lv' := [(6, .int (nI (i + 1))), (5, .int (nI (eaA S kk i + (eaN S kk i)))), (0, .ref x), (1, .int (nI pp)), (2, .int (nI kk)), (3, .int part), (4, .ref (b3 0))]) hC dX11_share_71 (q := 6) rfl (nI_k _ _ 1 (by decide)) (by decide) rfl ?_
            refine ev_goto (tgt := 35) hC dX11_share_74 (by decide) ?_
            refine ev_lv [2, 3, 4, 5, 6, 1, 0] rfl ?_
            exact ih (i + 1) (by omega) (by omega)
      refine ev_lv [3, 4, 5, 6, 2, 1, 0] rfl ?_
      exact lp_35 (sn S 32 - 0 + 1) 0 (by omega) (Nat.lt_succ_self _)
    · refine ev_ldc2 (v := -9223372036854775808) hC dX11_share_18 (ft_in 861 (by decide +kernel) rfl) ?_
      refine ev_lret hC hR rfl dX11_share_21 ?_
      have er : shareR S (nI pp) y part = NOL := by rw [shareR]; exact if_neg (fun h => by first | exact absurd h.1 (by assumption) | exact absurd h.2.1 (by assumption))
      exact ⟨_, _, _, _, _, _, _, by rw [er]; rfl, rfl, rfl⟩

set_option maxHeartbeats 4000000 in
set_option maxRecDepth 100000 in
theorem m_X11_angry (G : GG) (ro : va_W) (x : Nat) (r1 r2 r3 r4 r5 d b1 b2 b3 : Nat → Nat) (hi : Int32) (S tk le T tk3 le3 : Nat → Int32) (os os3 : Nat → Option Nat) (t t3 : Nat) (wa st3 wa3 : Int32) (y : Int32) (hW : WF S 9999 9999) (hO : MoOK G ro (r5 0) S os t)  : Mth G M_X11_angry 8 0 0 [.ref x, .int y] (List.flatten [SP x r1 r2 r3 r4 r5 d b1 b2 b3 hi, MO G b1 (vwn S 2 6) tk os (vwn S 14 6) (vwn S 20 6) (vwn S 26 6) (vwn S 51 24) le (S 32) (bitF S) (S 0) (S 1) t (S 33) (-1) wa]) ro (fun r ws' ro' => r = some (.int (angryR S y)) ∧ ws' = (List.flatten [SP x r1 r2 r3 r4 r5 d b1 b2 b3 hi, MO G b1 (vwn S 2 6) tk os (vwn S 14 6) (vwn S 20 6) (vwn S 26 6) (vwn S 51 24) le (S 32) (bitF S) (S 0) (S 1) t (S 33) (-1) wa]) ∧ ro = ro') := by
  refine mth_of (by decide +kernel) (Nat.le_of_ble_eq_true rfl) (fun X hC hR => ?_)
  have b32 := hW.peo.le
  show Ev G X 0 0 0 [(0, .ref x), (1, .int y)] [] (List.flatten [SP x r1 r2 r3 r4 r5 d b1 b2 b3 hi, MO G b1 (vwn S 2 6) tk os (vwn S 14 6) (vwn S 20 6) (vwn S 26 6) (vwn S 51 24) le (S 32) (bitF S) (S 0) (S 1) t (S 33) (-1) wa]) ro
  refine ev_iload_n hC dX11_angry_0 rfl 1 rfl ?_
  refine ev_iconst (v := (nI 0)) hC dX11_angry_1 (by decide) ?_
  refine ev_bipush (v := (nI 99)) hC dX11_angry_2 (by decide) ?_
  refine ev_callS (As := [.int y, .int (nI 0), .int (nI 99)]) (st := []) (wc := []) (wf := (List.flatten [SP x r1 r2 r3 r4 r5 d b1 b2 b3 hi, MO G b1 (vwn S 2 6) tk os (vwn S 14 6) (vwn S 20 6) (vwn S 26 6) (vwn S 51 24) le (S 32) (bitF S) (S 0) (S 1) t (S 33) (-1) wa])) hC ct_X11_68 (m_X11_isWithin G ro y (nI 0) (nI 99)) (by omega) rfl rfl (Nat.le_of_ble_eq_true rfl) (List.Perm.refl _) dX11_angry_4 (by omega) (by omega) ?_
  rintro _ _ _ ⟨rfl, rfl, rfl⟩
  refine ev_ws (List.nil_append _) ?_
  show Ev G X 0 0 7 [(0, .ref x), (1, .int y)] [.int (bI ((nI 0) ≤ y ∧ y ≤ (nI 99)))] (List.flatten [SP x r1 r2 r3 r4 r5 d b1 b2 b3 hi, MO G b1 (vwn S 2 6) tk os (vwn S 14 6) (vwn S 20 6) (vwn S 26 6) (vwn S 51 24) le (S 32) (bitF S) (S 0) (S 1) t (S 33) (-1) wa]) ro
  refine ev_if_neB (tgt := 13) hC dX11_angry_7 (by decide) (fun c_1 => ?_) (fun c_1 => ?_)
  · refine ev_iconst (v := (nI 0)) hC dX11_angry_13 (by decide) ?_
    refine ev_istore_n (lv' := [(2, .int (nI 0)), (0, .ref x), (1, .int y)]) hC dX11_angry_14 rfl (by decide) rfl ?_
    refine ev_iconst (v := (nI 0)) hC dX11_angry_15 (by decide) ?_
    refine ev_istore_n (lv' := [(3, .int (nI 0)), (2, .int (nI 0)), (0, .ref x), (1, .int y)]) hC dX11_angry_16 rfl (by decide) rfl ?_
    have lp_17 : ∀ (fu_17 : Nat) (i : Nat) (g : Int32) (hii : i ≤ sn S 32) (hb : angryF S y i = g) (hn : sn S 32 - i < fu_17), Ev G X 0 0 17 [(0, .ref x), (1, .int y), (2, .int g), (3, .int (nI i))] [] (List.flatten [SP x r1 r2 r3 r4 r5 d b1 b2 b3 hi, MO G b1 (vwn S 2 6) tk os (vwn S 14 6) (vwn S 20 6) (vwn S 26 6) (vwn S 51 24) le (S 32) (bitF S) (S 0) (S 1) t (S 33) (-1) wa]) ro := by
      intro fu_17
      induction fu_17 with
      | zero => intro i g hii hb hn; exact absurd hn (Nat.not_lt_zero _)
      | succ fu_17 ih =>
        intro i g hii hb hn
        refine ev_iload_n hC dX11_angry_17 rfl 3 rfl ?_
        refine ev_aload_n hC dX11_angry_18 rfl 0 rfl ?_
        refine ev_get hC fl_X11_58_11 (mw 0 rfl) rfl dX11_angry_19 ?_
        refine ev_get hC fl_X11_107_3 (mw 1 rfl) rfl dX11_angry_22 ?_
        have bk_2 : NB S 32 _ := hW.peo
        have k_2 := bk_2.eq
        have lk_2 := bk_2.le
        have mk_2 := bk_2.lt
        refine ev_top (y := (nI (sn S 32))) k_2 ?_
        refine ev_icmp_geN (tgt := 53) hC dX11_angry_25 (by decide) (by omega) (by omega) (fun c_3 => ?_) (fun c_3 => ?_)
        · refine ev_iload_n hC dX11_angry_53 rfl 2 rfl ?_
          refine ev_iret hC hR rfl dX11_angry_54 ?_
          obtain rfl : i = sn S 32 := by omega
          have er : angryR S y = g := by rw [angryR, if_pos (by assumption), hb]
          exact ⟨by rw [er], rfl, rfl⟩
        · refine ev_aload_n hC dX11_angry_28 rfl 0 rfl ?_
          refine ev_get hC fl_X11_58_11 (mw 0 rfl) rfl dX11_angry_29 ?_
          refine ev_get hC fl_X11_135_3 (mw 1 rfl) rfl dX11_angry_32 ?_
          refine ev_iload_n hC dX11_angry_35 rfl 3 rfl ?_
          refine ev_ialdN (i := i) hC (mw 6 rfl) (by omega) (by omega) dX11_angry_36 ?_
          refine ev_top (y := (S (20 + i))) (vwn_at (by omega)) ?_
          refine ev_iload_n hC dX11_angry_37 rfl 1 rfl ?_
          refine ev_icmp_lt (tgt := 47) hC dX11_angry_38 (by decide) (fun c_4 => ?_) (fun c_4 => ?_)
          · refine ev_iinc (v := (nI (i + 1))) (lv' := [(3, .int (nI (i + 1))), (0, .ref x), (1, .int y), (2, .int g)]) hC dX11_angry_47 (q := 3) rfl (nI_k _ _ 1 (by decide)) (by decide) rfl ?_
            refine ev_goto (tgt := 17) hC dX11_angry_50 (by decide) ?_
            refine ev_lv [1, 2, 3, 0] rfl ?_
            exact ih (i + 1) g (by omega) (by first | (rw [angryF, hb, if_pos (Int32.not_lt.mp (by assumption))]) | (rw [angryF, hb, if_neg (Int32.not_le.mpr (by assumption)), or_n0])) (by omega)
          · refine ev_iload_n hC dX11_angry_41 rfl 2 rfl ?_
            refine ev_iconst (v := (nI 1)) hC dX11_angry_42 (by decide) ?_
            refine ev_iload_n hC dX11_angry_43 rfl 3 rfl ?_
            refine ev_ishl hC dX11_angry_44 ?_
            refine ev_ior hC dX11_angry_45 ?_
            refine ev_istore_n (lv' := [(2, .int (g ||| ((nI 1) <<< ((nI i) &&& 31)))), (0, .ref x), (1, .int y), (3, .int (nI i))]) hC dX11_angry_46 rfl (by decide) rfl ?_
            refine ev_iinc (v := (nI (i + 1))) (lv' := [(3, .int (nI (i + 1))), (2, .int (g ||| ((nI 1) <<< ((nI i) &&& 31)))), (0, .ref x), (1, .int y)]) hC dX11_angry_47 (q := 3) rfl (nI_k _ _ 1 (by decide)) (by decide) rfl ?_
            refine ev_goto (tgt := 17) hC dX11_angry_50 (by decide) ?_
            refine ev_lv [2, 3, 1, 0] rfl ?_
            exact ih (i + 1) (g ||| ((nI 1) <<< ((nI i) &&& 31))) (by omega) (by first | (rw [angryF, hb, if_pos (Int32.not_lt.mp (by assumption))]) | (rw [angryF, hb, if_neg (Int32.not_le.mpr (by assumption)), or_n0])) (by omega)
    refine ev_lv [2, 3, 1, 0] rfl ?_
    exact lp_17 (sn S 32 - 0 + 1) 0 (nI 0) (by omega) rfl (Nat.lt_succ_self _)
  · refine ev_bipush (v := (-2)) hC dX11_angry_10 (by decide) ?_
    refine ev_iret hC hR rfl dX11_angry_12 ?_
    have er : angryR S y = (-2) := by rw [angryR, if_neg (by assumption)]
    exact ⟨by rw [er], rfl, rfl⟩

set_option maxHeartbeats 4000000 in
set_option maxRecDepth 100000 in
theorem m_X11_held (G : GG) (ro : va_W) (x : Nat) (r1 r2 r3 r4 r5 d b1 b2 b3 : Nat → Nat) (hi : Int32) (S tk le T tk3 le3 : Nat → Int32) (os os3 : Nat → Option Nat) (t t3 : Nat) (wa st3 wa3 : Int32) (y : Int32) (hW : WF S 9999 9999) (hO : MoOK G ro (r5 0) S os t)  : Mth G M_X11_held 8 0 0 [.ref x, .int y] (List.flatten [SP x r1 r2 r3 r4 r5 d b1 b2 b3 hi, MO G b1 (vwn S 2 6) tk os (vwn S 14 6) (vwn S 20 6) (vwn S 26 6) (vwn S 51 24) le (S 32) (bitF S) (S 0) (S 1) t (S 33) (-1) wa, MO G b3 (vwn T 2 6) tk3 os3 (vwn T 14 6) (vwn T 20 6) (vwn T 26 6) (vwn T 51 24) le3 (T 32) (bitF T) (T 0) (T 1) t3 (T 33) st3 wa3]) ro (fun r ws' ro' => ∃ (T' : Nat → Int32), ∃ (tk3' : Nat → Int32), ∃ (le3' : Nat → Int32), ∃ (os3' : Nat → Option Nat), ∃ (t3' : Nat), ∃ (st3' : Int32), ∃ (wa3' : Int32), r = some (.int (heldR S y)) ∧ ws' = (List.flatten [SP x r1 r2 r3 r4 r5 d b1 b2 b3 hi, MO G b1 (vwn S 2 6) tk os (vwn S 14 6) (vwn S 20 6) (vwn S 26 6) (vwn S 51 24) le (S 32) (bitF S) (S 0) (S 1) t (S 33) (-1) wa, MO G b3 (vwn T' 2 6) tk3' os3' (vwn T' 14 6) (vwn T' 20 6) (vwn T' 26 6) (vwn T' 51 24) le3' (T' 32) (bitF T') (T' 0) (T' 1) t3' (T' 33) st3' wa3']) ∧ ro = ro') := by
  refine mth_of (by decide +kernel) (Nat.le_of_ble_eq_true rfl) (fun X hC hR => ?_)
  have b32 := hW.peo.le
  show Ev G X 0 0 0 [(0, .ref x), (1, .int y)] [] (List.flatten [SP x r1 r2 r3 r4 r5 d b1 b2 b3 hi, MO G b1 (vwn S 2 6) tk os (vwn S 14 6) (vwn S 20 6) (vwn S 26 6) (vwn S 51 24) le (S 32) (bitF S) (S 0) (S 1) t (S 33) (-1) wa, MO G b3 (vwn T 2 6) tk3 os3 (vwn T 14 6) (vwn T 20 6) (vwn T 26 6) (vwn T 51 24) le3 (T 32) (bitF T) (T 0) (T 1) t3 (T 33) st3 wa3]) ro
  refine ev_aload_n hC dX11_held_0 rfl 0 rfl ?_
  refine ev_iload_n hC dX11_held_1 rfl 1 rfl ?_
  refine ev_callV (As := [.int y]) (st := []) (wf := (List.flatten [MO G b3 (vwn T 2 6) tk3 os3 (vwn T 14 6) (vwn T 20 6) (vwn T 26 6) (vwn T 51 24) le3 (T 32) (bitF T) (T 0) (T 1) t3 (T 33) st3 wa3])) hC cv_X11_118 (m_X11_isPerson G ro x r1 r2 r3 r4 r5 d b1 b2 b3 hi S tk le os t (-1) wa y) (by omega) rfl rfl (Nat.le_of_ble_eq_true rfl) (perm_sg (n := 3) [0, 1, 2] rfl rfl (by decide)) (mw 0 rfl) rfl dX11_held_2 (by omega) (by omega) ?_
  rintro _ _ _ ⟨rfl, rfl, rfl⟩
  show Ev G X 0 0 5 [(0, .ref x), (1, .int y)] [.int (bI ((nI 0) ≤ y ∧ y ≤ (S 32 - nI 1)))] (List.flatten [SP x r1 r2 r3 r4 r5 d b1 b2 b3 hi, MO G b1 (vwn S 2 6) tk os (vwn S 14 6) (vwn S 20 6) (vwn S 26 6) (vwn S 51 24) le (S 32) (bitF S) (S 0) (S 1) t (S 33) (-1) wa, MO G b3 (vwn T 2 6) tk3 os3 (vwn T 14 6) (vwn T 20 6) (vwn T 26 6) (vwn T 51 24) le3 (T 32) (bitF T) (T 0) (T 1) t3 (T 33) st3 wa3]) ro
  refine ev_if_neB (tgt := 10) hC dX11_held_5 (by decide) (fun c_1 => ?_) (fun c_1 => ?_)
  · obtain ⟨pp, hpp, rfl⟩ := isP hW (by assumption)
    have hpn_pp : pn (nI pp) = pp := nI_clamp (by omega)
    refine ev_aload_n hC dX11_held_10 rfl 0 rfl ?_
    refine ev_callV (As := []) (st := []) (wf := (List.flatten [])) hC cv_X11_192 (m_X11_asItIs G ro x r1 r2 r3 r4 r5 d b1 b2 b3 hi S tk le T tk3 le3 os os3 t t3 wa st3 wa3 hW hO ) (by omega) rfl rfl (Nat.le_of_ble_eq_true rfl) (perm_sg (n := 3) [0, 1, 2] rfl rfl (by decide)) (mw 0 rfl) rfl dX11_held_11 (by omega) (by omega) ?_
    rintro _ _ _ ⟨rfl, rfl, rfl⟩
    show Ev G X 0 0 14 [(0, .ref x), (1, .int (nI pp))] [.ref (b3 0)] (List.flatten [SP x r1 r2 r3 r4 r5 d b1 b2 b3 hi, MO G b1 (vwn S 2 6) tk os (vwn S 14 6) (vwn S 20 6) (vwn S 26 6) (vwn S 51 24) le (S 32) (bitF S) (S 0) (S 1) t (S 33) (-1) wa, MO G b3 (vwn S 2 6) tk3 (cpO 6 os os3) (vwn S 14 6) (vwn S 20 6) (vwn S 26 6) (vwn S 51 24) le3 (S 32) (bitF S) (S 0) (S 1) t (S 33) (-1) (nI 0)]) ro
    have hO_2 := hO.os hW (os' := cpO 6 os os3) (fun p hp => if_pos hp)
    refine ev_astore_n (lv' := [(2, .ref (b3 0)), (0, .ref x), (1, .int (nI pp))]) hC dX11_held_14 rfl (by decide) rfl ?_
    refine ev_iconst (v := (nI 0)) hC dX11_held_15 (by decide) ?_
    refine ev_istore_n (lv' := [(3, .int (nI 0)), (2, .ref (b3 0)), (0, .ref x), (1, .int (nI pp))]) hC dX11_held_16 rfl (by decide) rfl ?_
    have lp_17 : ∀ (fu_17 : Nat) (n : Nat) (tk5 : Nat → Int32) (le5 : Nat → Int32) (wa5 : Int32) (hnn : n ≤ 61) (hb : heldF S pp 61 0 = heldF S pp (61 - n) n) (hn : 61 - n < fu_17), Ev G X 0 0 17 [(0, .ref x), (1, .int (nI pp)), (2, .ref (b3 0)), (3, .int (nI n))] [] (List.flatten [SP x r1 r2 r3 r4 r5 d b1 b2 b3 hi, MO G b1 (vwn S 2 6) tk os (vwn S 14 6) (vwn S 20 6) (vwn S 26 6) (vwn S 51 24) le (S 32) (bitF S) (S 0) (S 1) t (S 33) (-1) wa, MO G b3 (vwn (gosF (-1) S n) 2 6) tk5 (cpO 6 os os3) (vwn (gosF (-1) S n) 14 6) (vwn (gosF (-1) S n) 20 6) (vwn (gosF (-1) S n) 26 6) (vwn (gosF (-1) S n) 51 24) le5 ((gosF (-1) S n) 32) (bitF (gosF (-1) S n)) ((gosF (-1) S n) 0) ((gosF (-1) S n) 1) t ((gosF (-1) S n) 33) (-1) wa5]) ro := by
      intro fu_17
      induction fu_17 with
      | zero => intro n tk5 le5 wa5 hnn hb hn; exact absurd hn (Nat.not_lt_zero _)
      | succ fu_17 ih =>
        intro n tk5 le5 wa5 hnn hb hn
        refine ev_iload_n hC dX11_held_17 rfl 3 rfl ?_
        refine ev_bipush (v := (nI 60)) hC dX11_held_18 (by decide) ?_
        refine ev_icmp_gtN (tgt := 44) hC dX11_held_20 (by decide) (by omega) (by omega) (fun c_3 => ?_) (fun c_3 => ?_)
        · refine ev_bipush (v := (-5)) hC dX11_held_44 (by decide) ?_
          refine ev_iret hC hR rfl dX11_held_46 ?_
          have hb2 : heldF S pp 61 0 = -5 := by rw [hb, show 61 - n = 0 by omega, heldF]
          have er : heldR S (nI pp) = (-5) := by rw [heldR, if_pos (by assumption), hpn_pp, hb2]
          exact ⟨_, _, _, _, _, _, _, by rw [er], rfl, rfl⟩
        · refine ev_aload_n hC dX11_held_23 rfl 2 rfl ?_
          refine ev_get hC fl_X11_135_3 (mw 10 rfl) rfl dX11_held_24 ?_
          refine ev_iload_n hC dX11_held_27 rfl 1 rfl ?_
          refine ev_ialdN (i := pp) hC (mw 15 rfl) (by omega) (by omega) dX11_held_28 ?_
          refine ev_top (y := ((gosF (-1) S n) (20 + pp))) (vwn_at (by omega)) ?_
          have hwn := (gosF_wf (-1) hW n (by omega) (by omega)).1.grudge pp (by omega)
          have hwl := hwn.lt
          refine ev_top (y := (nI (sn (gosF (-1) S n) (20 + pp)))) hwn.eq ?_
          refine ev_if_neN (tgt := 34) hC dX11_held_29 (by decide) (by omega) (fun c_4 => ?_) (fun c_4 => ?_)
          · refine ev_aload_n hC dX11_held_34 rfl 2 rfl ?_
            refine ev_callV (As := []) (st := []) (wf := (List.flatten [SP x r1 r2 r3 r4 r5 d b1 b2 b3 hi, MO G b1 (vwn S 2 6) tk os (vwn S 14 6) (vwn S 20 6) (vwn S 26 6) (vwn S 51 24) le (S 32) (bitF S) (S 0) (S 1) t (S 33) (-1) wa])) hC cv_X11_216 (m_X3_goDay G ro b3 (gosF (-1) S n) tk5 le5 (cpO 6 os os3) t (r5 0) (-1) wa5 ((gosF_wf (-1) hW n (by omega) (by omega)).1) (MoOK.hi hO_2 (Hi.tr Hi.rf (gosF_wf (-1) hW n (by omega) (by omega)).2)) (by omega) (by omega)) (by omega) rfl rfl (Nat.le_of_ble_eq_true rfl) (perm_sg (n := 3) [2, 0, 1] rfl rfl (by decide)) (mw 10 rfl) rfl dX11_held_35 (by omega) (by omega) ?_
            rintro _ _ _ ⟨tk_5, le_6, hK_7, rfl, rfl, rfl⟩
            show Ev G X 0 0 38 [(0, .ref x), (1, .int (nI pp)), (2, .ref (b3 0)), (3, .int (nI n))] [] (List.flatten [MO G b3 (vwn (goF (-1) (gosF (-1) S n)) 2 6) tk_5 (cpO 6 os os3) (vwn (goF (-1) (gosF (-1) S n)) 14 6) (vwn (goF (-1) (gosF (-1) S n)) 20 6) (vwn (goF (-1) (gosF (-1) S n)) 26 6) (vwn (goF (-1) (gosF (-1) S n)) 51 24) le_6 ((goF (-1) (gosF (-1) S n)) 32) (bitF (goF (-1) (gosF (-1) S n))) ((goF (-1) (gosF (-1) S n)) 0) ((goF (-1) (gosF (-1) S n)) 1) t ((goF (-1) (gosF (-1) S n)) 33) (-1) (rsF (alF (-1) (gosF (-1) S n)) wa5 6), SP x r1 r2 r3 r4 r5 d b1 b2 b3 hi, MO G b1 (vwn S 2 6) tk os (vwn S 14 6) (vwn S 20 6) (vwn S 26 6) (vwn S 51 24) le (S 32) (bitF S) (S 0) (S 1) t (S 33) (-1) wa]) ro
            refine ev_perm (ws' := (List.flatten [SP x r1 r2 r3 r4 r5 d b1 b2 b3 hi, MO G b1 (vwn S 2 6) tk os (vwn S 14 6) (vwn S 20 6) (vwn S 26 6) (vwn S 51 24) le (S 32) (bitF S) (S 0) (S 1) t (S 33) (-1) wa, MO G b3 (vwn (goF (-1) (gosF (-1) S n)) 2 6) tk_5 (cpO 6 os os3) (vwn (goF (-1) (gosF (-1) S n)) 14 6) (vwn (goF (-1) (gosF (-1) S n)) 20 6) (vwn (goF (-1) (gosF (-1) S n)) 26 6) (vwn (goF (-1) (gosF (-1) S n)) 51 24) le_6 ((goF (-1) (gosF (-1) S n)) 32) (bitF (goF (-1) (gosF (-1) S n))) ((goF (-1) (gosF (-1) S n)) 0) ((goF (-1) (gosF (-1) S n)) 1) t ((goF (-1) (gosF (-1) S n)) 33) (-1) (rsF (alF (-1) (gosF (-1) S n)) wa5 6)])) (perm_sg2 (n := 3) [1, 2, 0] rfl rfl (by decide)) ?_
            refine ev_iinc (v := (nI (n + 1))) (lv' := [(3, .int (nI (n + 1))), (0, .ref x), (1, .int (nI pp)), (2, .ref (b3 0))]) hC dX11_held_38 (q := 3) rfl (nI_k _ _ 1 (by decide)) (by decide) rfl ?_
            refine ev_goto (tgt := 17) hC dX11_held_41 (by decide) ?_
            refine ev_lv [1, 2, 3, 0] rfl ?_
            refine ev_ws (ws' := (List.flatten [SP x r1 r2 r3 r4 r5 d b1 b2 b3 hi, MO G b1 (vwn S 2 6) tk os (vwn S 14 6) (vwn S 20 6) (vwn S 26 6) (vwn S 51 24) le (S 32) (bitF S) (S 0) (S 1) t (S 33) (-1) wa, MO G b3 (vwn (gosF (-1) S (n + 1)) 2 6) tk_5 (cpO 6 os os3) (vwn (gosF (-1) S (n + 1)) 14 6) (vwn (gosF (-1) S (n + 1)) 20 6) (vwn (gosF (-1) S (n + 1)) 26 6) (vwn (gosF (-1) S (n + 1)) 51 24) le_6 ((gosF (-1) S (n + 1)) 32) (bitF (gosF (-1) S (n + 1))) ((gosF (-1) S (n + 1)) 0) ((gosF (-1) S (n + 1)) 1) t ((gosF (-1) S (n + 1)) 33) (-1) (rsF (alF (-1) (gosF (-1) S n)) wa5 6)])) (by rw [show (MO G b3 (vwn (goF (-1) (gosF (-1) S n)) 2 6) tk_5 (cpO 6 os os3) (vwn (goF (-1) (gosF (-1) S n)) 14 6) (vwn (goF (-1) (gosF (-1) S n)) 20 6) (vwn (goF (-1) (gosF (-1) S n)) 26 6) (vwn (goF (-1) (gosF (-1) S n)) 51 24) le_6 ((goF (-1) (gosF (-1) S n)) 32) (bitF (goF (-1) (gosF (-1) S n))) ((goF (-1) (gosF (-1) S n)) 0) ((goF (-1) (gosF (-1) S n)) 1) t ((goF (-1) (gosF (-1) S n)) 33) (-1) (rsF (alF (-1) (gosF (-1) S n)) wa5 6)) = (MO G b3 (vwn (gosF (-1) S (n + 1)) 2 6) tk_5 (cpO 6 os os3) (vwn (gosF (-1) S (n + 1)) 14 6) (vwn (gosF (-1) S (n + 1)) 20 6) (vwn (gosF (-1) S (n + 1)) 26 6) (vwn (gosF (-1) S (n + 1)) 51 24) le_6 ((gosF (-1) S (n + 1)) 32) (bitF (gosF (-1) S (n + 1))) ((gosF (-1) S (n + 1)) 0) ((gosF (-1) S (n + 1)) 1) t ((gosF (-1) S (n + 1)) 33) (-1) (rsF (alF (-1) (gosF (-1) S n)) wa5 6)) from mo_eq rfl rfl rfl rfl rfl rfl rfl rfl rfl rfl rfl rfl rfl rfl rfl]) ?_
            exact ih (n + 1) tk_5 le_6 (rsF (alF (-1) (gosF (-1) S n)) wa5 6) (by omega) (by rw [hb, show 61 - n = 60 - n + 1 by omega, heldF, if_neg (by assumption), show 61 - (n + 1) = 60 - n by omega]) (by omega)
          · refine ev_iload_n hC dX11_held_32 rfl 3 rfl ?_
            refine ev_iret hC hR rfl dX11_held_33 ?_
            have hb2 : heldF S pp 61 0 = nI n := by rw [hb, show 61 - n = 60 - n + 1 by omega, heldF, if_pos (by omega)]
            have er : heldR S (nI pp) = (nI n) := by rw [heldR, if_pos (by assumption), hpn_pp, hb2]
            exact ⟨_, _, _, _, _, _, _, by rw [er], rfl, rfl⟩
    refine ev_ws (ws' := (List.flatten [SP x r1 r2 r3 r4 r5 d b1 b2 b3 hi, MO G b1 (vwn S 2 6) tk os (vwn S 14 6) (vwn S 20 6) (vwn S 26 6) (vwn S 51 24) le (S 32) (bitF S) (S 0) (S 1) t (S 33) (-1) wa, MO G b3 (vwn (gosF (-1) S 0) 2 6) tk3 (cpO 6 os os3) (vwn (gosF (-1) S 0) 14 6) (vwn (gosF (-1) S 0) 20 6) (vwn (gosF (-1) S 0) 26 6) (vwn (gosF (-1) S 0) 51 24) le3 ((gosF (-1) S 0) 32) (bitF (gosF (-1) S 0)) ((gosF (-1) S 0) 0) ((gosF (-1) S 0) 1) t ((gosF (-1) S 0) 33) (-1) (nI 0)])) (by rw [show (MO G b3 (vwn S 2 6) tk3 (cpO 6 os os3) (vwn S 14 6) (vwn S 20 6) (vwn S 26 6) (vwn S 51 24) le3 (S 32) (bitF S) (S 0) (S 1) t (S 33) (-1) (nI 0)) = (MO G b3 (vwn (gosF (-1) S 0) 2 6) tk3 (cpO 6 os os3) (vwn (gosF (-1) S 0) 14 6) (vwn (gosF (-1) S 0) 20 6) (vwn (gosF (-1) S 0) 26 6) (vwn (gosF (-1) S 0) 51 24) le3 ((gosF (-1) S 0) 32) (bitF (gosF (-1) S 0)) ((gosF (-1) S 0) 0) ((gosF (-1) S 0) 1) t ((gosF (-1) S 0) 33) (-1) (nI 0)) from mo_eq rfl rfl rfl rfl rfl rfl rfl rfl rfl rfl rfl rfl rfl rfl rfl]) ?_
    refine ev_lv [2, 3, 1, 0] rfl ?_
    exact lp_17 (61 - 0 + 1) 0 tk3 le3 (nI 0) (by omega) rfl (Nat.lt_succ_self _)
  · refine ev_iconst (v := (-1)) hC dX11_held_8 (by decide) ?_
    refine ev_iret hC hR rfl dX11_held_9 ?_
    have er : heldR S y = (-1) := by rw [heldR, if_neg (by assumption)]
    exact ⟨_, _, _, _, _, _, _, by rw [er], rfl, rfl⟩

set_option maxHeartbeats 4000000 in
set_option maxRecDepth 100000 in
theorem m_X11_worst (G : GG) (ro : va_W) (x : Nat) (r1 r2 r3 r4 r5 d b1 b2 b3 : Nat → Nat) (hi : Int32) (S tk le T tk3 le3 : Nat → Int32) (os os3 : Nat → Option Nat) (t t3 : Nat) (wa st3 wa3 : Int32) (y w : Int32) (hW : WF S 9999 9999) (hO : MoOK G ro (r5 0) S os t)  : Mth G M_X11_worst 8 0 0 [.ref x, .int y, .int w] (List.flatten [SP x r1 r2 r3 r4 r5 d b1 b2 b3 hi, MO G b1 (vwn S 2 6) tk os (vwn S 14 6) (vwn S 20 6) (vwn S 26 6) (vwn S 51 24) le (S 32) (bitF S) (S 0) (S 1) t (S 33) (-1) wa, MO G b3 (vwn T 2 6) tk3 os3 (vwn T 14 6) (vwn T 20 6) (vwn T 26 6) (vwn T 51 24) le3 (T 32) (bitF T) (T 0) (T 1) t3 (T 33) st3 wa3]) ro (fun r ws' ro' => ∃ (T' : Nat → Int32), ∃ (tk3' : Nat → Int32), ∃ (le3' : Nat → Int32), ∃ (os3' : Nat → Option Nat), ∃ (t3' : Nat), ∃ (st3' : Int32), ∃ (wa3' : Int32), r = some (.int (worstR S y w)) ∧ ws' = (List.flatten [SP x r1 r2 r3 r4 r5 d b1 b2 b3 hi, MO G b1 (vwn S 2 6) tk os (vwn S 14 6) (vwn S 20 6) (vwn S 26 6) (vwn S 51 24) le (S 32) (bitF S) (S 0) (S 1) t (S 33) (-1) wa, MO G b3 (vwn T' 2 6) tk3' os3' (vwn T' 14 6) (vwn T' 20 6) (vwn T' 26 6) (vwn T' 51 24) le3' (T' 32) (bitF T') (T' 0) (T' 1) t3' (T' 33) st3' wa3']) ∧ ro = ro') := by
  refine mth_of (by decide +kernel) (Nat.le_of_ble_eq_true rfl) (fun X hC hR => ?_)
  have b32 := hW.peo.le
  show Ev G X 0 0 0 [(0, .ref x), (1, .int y), (2, .int w)] [] (List.flatten [SP x r1 r2 r3 r4 r5 d b1 b2 b3 hi, MO G b1 (vwn S 2 6) tk os (vwn S 14 6) (vwn S 20 6) (vwn S 26 6) (vwn S 51 24) le (S 32) (bitF S) (S 0) (S 1) t (S 33) (-1) wa, MO G b3 (vwn T 2 6) tk3 os3 (vwn T 14 6) (vwn T 20 6) (vwn T 26 6) (vwn T 51 24) le3 (T 32) (bitF T) (T 0) (T 1) t3 (T 33) st3 wa3]) ro
  refine ev_aload_n hC dX11_worst_0 rfl 0 rfl ?_
  refine ev_iload_n hC dX11_worst_1 rfl 1 rfl ?_
  refine ev_callV (As := [.int y]) (st := []) (wf := (List.flatten [MO G b3 (vwn T 2 6) tk3 os3 (vwn T 14 6) (vwn T 20 6) (vwn T 26 6) (vwn T 51 24) le3 (T 32) (bitF T) (T 0) (T 1) t3 (T 33) st3 wa3])) hC cv_X11_118 (m_X11_isPerson G ro x r1 r2 r3 r4 r5 d b1 b2 b3 hi S tk le os t (-1) wa y) (by omega) rfl rfl (Nat.le_of_ble_eq_true rfl) (perm_sg (n := 3) [0, 1, 2] rfl rfl (by decide)) (mw 0 rfl) rfl dX11_worst_2 (by omega) (by omega) ?_
  rintro _ _ _ ⟨rfl, rfl, rfl⟩
  show Ev G X 0 0 5 [(0, .ref x), (1, .int y), (2, .int w)] [.int (bI ((nI 0) ≤ y ∧ y ≤ (S 32 - nI 1)))] (List.flatten [SP x r1 r2 r3 r4 r5 d b1 b2 b3 hi, MO G b1 (vwn S 2 6) tk os (vwn S 14 6) (vwn S 20 6) (vwn S 26 6) (vwn S 51 24) le (S 32) (bitF S) (S 0) (S 1) t (S 33) (-1) wa, MO G b3 (vwn T 2 6) tk3 os3 (vwn T 14 6) (vwn T 20 6) (vwn T 26 6) (vwn T 51 24) le3 (T 32) (bitF T) (T 0) (T 1) t3 (T 33) st3 wa3]) ro
  refine ev_if_eqB (tgt := 17) hC dX11_worst_5 (by decide) (fun c_1 => ?_) (fun c_1 => ?_)
  · refine ev_iconst (v := (-1)) hC dX11_worst_17 (by decide) ?_
    refine ev_iret hC hR rfl dX11_worst_18 ?_
    have er : worstR S y w = (-1) := by rw [worstR]; exact if_neg (fun h => by first | exact absurd h.1 (by assumption) | exact absurd h.2 (by assumption))
    exact ⟨_, _, _, _, _, _, _, by rw [er], rfl, rfl⟩
  · obtain ⟨pp, hpp, rfl⟩ := isP hW (by assumption)
    have hpn_pp : pn (nI pp) = pp := nI_clamp (by omega)
    refine ev_iload_n hC dX11_worst_8 rfl 2 rfl ?_
    refine ev_iconst (v := (nI 0)) hC dX11_worst_9 (by decide) ?_
    refine ev_iconst (v := (nI 1)) hC dX11_worst_10 (by decide) ?_
    refine ev_callS (As := [.int w, .int (nI 0), .int (nI 1)]) (st := []) (wc := []) (wf := (List.flatten [SP x r1 r2 r3 r4 r5 d b1 b2 b3 hi, MO G b1 (vwn S 2 6) tk os (vwn S 14 6) (vwn S 20 6) (vwn S 26 6) (vwn S 51 24) le (S 32) (bitF S) (S 0) (S 1) t (S 33) (-1) wa, MO G b3 (vwn T 2 6) tk3 os3 (vwn T 14 6) (vwn T 20 6) (vwn T 26 6) (vwn T 51 24) le3 (T 32) (bitF T) (T 0) (T 1) t3 (T 33) st3 wa3])) hC ct_X11_68 (m_X11_isWithin G ro w (nI 0) (nI 1)) (by omega) rfl rfl (Nat.le_of_ble_eq_true rfl) (List.Perm.refl _) dX11_worst_11 (by omega) (by omega) ?_
    rintro _ _ _ ⟨rfl, rfl, rfl⟩
    refine ev_ws (List.nil_append _) ?_
    show Ev G X 0 0 14 [(0, .ref x), (1, .int (nI pp)), (2, .int w)] [.int (bI ((nI 0) ≤ w ∧ w ≤ (nI 1)))] (List.flatten [SP x r1 r2 r3 r4 r5 d b1 b2 b3 hi, MO G b1 (vwn S 2 6) tk os (vwn S 14 6) (vwn S 20 6) (vwn S 26 6) (vwn S 51 24) le (S 32) (bitF S) (S 0) (S 1) t (S 33) (-1) wa, MO G b3 (vwn T 2 6) tk3 os3 (vwn T 14 6) (vwn T 20 6) (vwn T 26 6) (vwn T 51 24) le3 (T 32) (bitF T) (T 0) (T 1) t3 (T 33) st3 wa3]) ro
    refine ev_if_neB (tgt := 19) hC dX11_worst_14 (by decide) (fun c_2 => ?_) (fun c_2 => ?_)
    · obtain ⟨wk, hwk, rfl⟩ := inN (m := 1) (by omega) (by assumption)
      rcases (show wk = 0 ∨ wk = 1 by omega) with rfl | rfl
      · refine ev_aload_n hC dX11_worst_19 rfl 0 rfl ?_
        refine ev_callV (As := []) (st := []) (wf := (List.flatten [])) hC cv_X11_192 (m_X11_asItIs G ro x r1 r2 r3 r4 r5 d b1 b2 b3 hi S tk le T tk3 le3 os os3 t t3 wa st3 wa3 hW hO ) (by omega) rfl rfl (Nat.le_of_ble_eq_true rfl) (perm_sg (n := 3) [0, 1, 2] rfl rfl (by decide)) (mw 0 rfl) rfl dX11_worst_20 (by omega) (by omega) ?_
        rintro _ _ _ ⟨rfl, rfl, rfl⟩
        show Ev G X 0 0 23 [(0, .ref x), (1, .int (nI pp)), (2, .int (nI 0))] [.ref (b3 0)] (List.flatten [SP x r1 r2 r3 r4 r5 d b1 b2 b3 hi, MO G b1 (vwn S 2 6) tk os (vwn S 14 6) (vwn S 20 6) (vwn S 26 6) (vwn S 51 24) le (S 32) (bitF S) (S 0) (S 1) t (S 33) (-1) wa, MO G b3 (vwn S 2 6) tk3 (cpO 6 os os3) (vwn S 14 6) (vwn S 20 6) (vwn S 26 6) (vwn S 51 24) le3 (S 32) (bitF S) (S 0) (S 1) t (S 33) (-1) (nI 0)]) ro
        have hO_3 := hO.os hW (os' := cpO 6 os os3) (fun p hp => if_pos hp)
        refine ev_astore_n (lv' := [(3, .ref (b3 0)), (0, .ref x), (1, .int (nI pp)), (2, .int (nI 0))]) hC dX11_worst_23 rfl (by decide) rfl ?_
        refine ev_iconst (v := (-1)) hC dX11_worst_24 (by decide) ?_
        refine ev_istore (lv' := [(4, .int (-1)), (3, .ref (b3 0)), (0, .ref x), (1, .int (nI pp)), (2, .int (nI 0))]) hC dX11_worst_25 (by decide) rfl ?_
        refine ev_iconst (v := (nI 0)) hC dX11_worst_27 (by decide) ?_
        refine ev_istore (lv' := [(5, .int (nI 0)), (4, .int (-1)), (3, .ref (b3 0)), (0, .ref x), (1, .int (nI pp)), (2, .int (nI 0))]) hC dX11_worst_28 (by decide) rfl ?_
        refine ev_iconst (v := (nI 0)) hC dX11_worst_30 (by decide) ?_
        refine ev_istore (lv' := [(6, .int (nI 0)), (5, .int (nI 0)), (4, .int (-1)), (3, .ref (b3 0)), (0, .ref x), (1, .int (nI pp)), (2, .int (nI 0))]) hC dX11_worst_31 (by decide) rfl ?_
        have lp_33 : ∀ (fu_33 : Nat) (n : Nat) (g : Int32) (m : Int32) (tk5 : Nat → Int32) (le5 : Nat → Int32) (wa5 : Int32) (hnn : n ≤ 61) (hb : worF S pp n = (g, m)) (hn : 61 - n < fu_33), Ev G X 0 0 33 [(0, .ref x), (1, .int (nI pp)), (2, .int (nI 0)), (3, .ref (b3 0)), (4, .int g), (5, .int m), (6, .int (nI n))] [] (List.flatten [SP x r1 r2 r3 r4 r5 d b1 b2 b3 hi, MO G b1 (vwn S 2 6) tk os (vwn S 14 6) (vwn S 20 6) (vwn S 26 6) (vwn S 51 24) le (S 32) (bitF S) (S 0) (S 1) t (S 33) (-1) wa, MO G b3 (vwn (gosF (-1) S n) 2 6) tk5 (cpO 6 os os3) (vwn (gosF (-1) S n) 14 6) (vwn (gosF (-1) S n) 20 6) (vwn (gosF (-1) S n) 26 6) (vwn (gosF (-1) S n) 51 24) le5 ((gosF (-1) S n) 32) (bitF (gosF (-1) S n)) ((gosF (-1) S n) 0) ((gosF (-1) S n) 1) t ((gosF (-1) S n) 33) (-1) wa5]) ro := by
          intro fu_33
          induction fu_33 with
          | zero => intro n g m tk5 le5 wa5 hnn hb hn; exact absurd hn (Nat.not_lt_zero _)
          | succ fu_33 ih =>
            intro n g m tk5 le5 wa5 hnn hb hn
            refine ev_iload hC dX11_worst_33 6 rfl ?_
            refine ev_bipush (v := (nI 60)) hC dX11_worst_35 (by decide) ?_
            refine ev_icmp_gtN (tgt := 73) hC dX11_worst_37 (by decide) (by omega) (by omega) (fun c_4 => ?_) (fun c_4 => ?_)
            · refine ev_iload_n hC dX11_worst_73 rfl 2 rfl ?_
              refine ev_if_neN (tgt := 82) hC dX11_worst_74 (by decide) (by omega) (fun c_5 => absurd c_5 (by omega)) (fun c_5 => ?_)
              refine ev_iload hC dX11_worst_77 4 rfl ?_
              refine ev_goto (tgt := 84) hC dX11_worst_79 (by decide) ?_
              refine ev_iret hC hR rfl dX11_worst_84 ?_
              obtain rfl : n = 61 := by omega
              have er : worstR S (nI pp) (nI 0) = g := by rw [worstR, if_pos ⟨by assumption, by assumption⟩, hpn_pp, hb, if_pos rfl]
              exact ⟨_, _, _, _, _, _, _, by rw [er], rfl, rfl⟩
            · refine ev_aload_n hC dX11_worst_40 rfl 3 rfl ?_
              refine ev_get hC fl_X11_135_3 (mw 10 rfl) rfl dX11_worst_41 ?_
              refine ev_iload_n hC dX11_worst_44 rfl 1 rfl ?_
              refine ev_ialdN (i := pp) hC (mw 15 rfl) (by omega) (by omega) dX11_worst_45 ?_
              refine ev_top (y := ((gosF (-1) S n) (20 + pp))) (vwn_at (by omega)) ?_
              refine ev_iload hC dX11_worst_46 4 rfl ?_
              refine ev_icmp_le (tgt := 63) hC dX11_worst_48 (by decide) (fun c_6 => ?_) (fun c_6 => ?_)
              · refine ev_aload_n hC dX11_worst_63 rfl 3 rfl ?_
                refine ev_callV (As := []) (st := []) (wf := (List.flatten [SP x r1 r2 r3 r4 r5 d b1 b2 b3 hi, MO G b1 (vwn S 2 6) tk os (vwn S 14 6) (vwn S 20 6) (vwn S 26 6) (vwn S 51 24) le (S 32) (bitF S) (S 0) (S 1) t (S 33) (-1) wa])) hC cv_X11_216 (m_X3_goDay G ro b3 (gosF (-1) S n) tk5 le5 (cpO 6 os os3) t (r5 0) (-1) wa5 ((gosF_wf (-1) hW n (by omega) (by omega)).1) (MoOK.hi hO_3 (Hi.tr Hi.rf (gosF_wf (-1) hW n (by omega) (by omega)).2)) (by omega) (by omega)) (by omega) rfl rfl (Nat.le_of_ble_eq_true rfl) (perm_sg (n := 3) [2, 0, 1] rfl rfl (by decide)) (mw 10 rfl) rfl dX11_worst_64 (by omega) (by omega) ?_
                rintro _ _ _ ⟨tk_7, le_8, hK_9, rfl, rfl, rfl⟩
                show Ev G X 0 0 67 [(0, .ref x), (1, .int (nI pp)), (2, .int (nI 0)), (3, .ref (b3 0)), (4, .int g), (5, .int m), (6, .int (nI n))] [] (List.flatten [MO G b3 (vwn (goF (-1) (gosF (-1) S n)) 2 6) tk_7 (cpO 6 os os3) (vwn (goF (-1) (gosF (-1) S n)) 14 6) (vwn (goF (-1) (gosF (-1) S n)) 20 6) (vwn (goF (-1) (gosF (-1) S n)) 26 6) (vwn (goF (-1) (gosF (-1) S n)) 51 24) le_8 ((goF (-1) (gosF (-1) S n)) 32) (bitF (goF (-1) (gosF (-1) S n))) ((goF (-1) (gosF (-1) S n)) 0) ((goF (-1) (gosF (-1) S n)) 1) t ((goF (-1) (gosF (-1) S n)) 33) (-1) (rsF (alF (-1) (gosF (-1) S n)) wa5 6), SP x r1 r2 r3 r4 r5 d b1 b2 b3 hi, MO G b1 (vwn S 2 6) tk os (vwn S 14 6) (vwn S 20 6) (vwn S 26 6) (vwn S 51 24) le (S 32) (bitF S) (S 0) (S 1) t (S 33) (-1) wa]) ro
                refine ev_perm (ws' := (List.flatten [SP x r1 r2 r3 r4 r5 d b1 b2 b3 hi, MO G b1 (vwn S 2 6) tk os (vwn S 14 6) (vwn S 20 6) (vwn S 26 6) (vwn S 51 24) le (S 32) (bitF S) (S 0) (S 1) t (S 33) (-1) wa, MO G b3 (vwn (goF (-1) (gosF (-1) S n)) 2 6) tk_7 (cpO 6 os os3) (vwn (goF (-1) (gosF (-1) S n)) 14 6) (vwn (goF (-1) (gosF (-1) S n)) 20 6) (vwn (goF (-1) (gosF (-1) S n)) 26 6) (vwn (goF (-1) (gosF (-1) S n)) 51 24) le_8 ((goF (-1) (gosF (-1) S n)) 32) (bitF (goF (-1) (gosF (-1) S n))) ((goF (-1) (gosF (-1) S n)) 0) ((goF (-1) (gosF (-1) S n)) 1) t ((goF (-1) (gosF (-1) S n)) 33) (-1) (rsF (alF (-1) (gosF (-1) S n)) wa5 6)])) (perm_sg2 (n := 3) [1, 2, 0] rfl rfl (by decide)) ?_
                refine ev_iinc (v := (nI (n + 1))) (lv' := [(6, .int (nI (n + 1))), (0, .ref x), (1, .int (nI pp)), (2, .int (nI 0)), (3, .ref (b3 0)), (4, .int g), (5, .int m)]) hC dX11_worst_67 (q := 6) rfl (nI_k _ _ 1 (by decide)) (by decide) rfl ?_
                refine ev_goto (tgt := 33) hC dX11_worst_70 (by decide) ?_
                refine ev_lv [1, 2, 3, 4, 5, 6, 0] rfl ?_
                refine ev_ws (ws' := (List.flatten [SP x r1 r2 r3 r4 r5 d b1 b2 b3 hi, MO G b1 (vwn S 2 6) tk os (vwn S 14 6) (vwn S 20 6) (vwn S 26 6) (vwn S 51 24) le (S 32) (bitF S) (S 0) (S 1) t (S 33) (-1) wa, MO G b3 (vwn (gosF (-1) S (n + 1)) 2 6) tk_7 (cpO 6 os os3) (vwn (gosF (-1) S (n + 1)) 14 6) (vwn (gosF (-1) S (n + 1)) 20 6) (vwn (gosF (-1) S (n + 1)) 26 6) (vwn (gosF (-1) S (n + 1)) 51 24) le_8 ((gosF (-1) S (n + 1)) 32) (bitF (gosF (-1) S (n + 1))) ((gosF (-1) S (n + 1)) 0) ((gosF (-1) S (n + 1)) 1) t ((gosF (-1) S (n + 1)) 33) (-1) (rsF (alF (-1) (gosF (-1) S n)) wa5 6)])) (by rw [show (MO G b3 (vwn (goF (-1) (gosF (-1) S n)) 2 6) tk_7 (cpO 6 os os3) (vwn (goF (-1) (gosF (-1) S n)) 14 6) (vwn (goF (-1) (gosF (-1) S n)) 20 6) (vwn (goF (-1) (gosF (-1) S n)) 26 6) (vwn (goF (-1) (gosF (-1) S n)) 51 24) le_8 ((goF (-1) (gosF (-1) S n)) 32) (bitF (goF (-1) (gosF (-1) S n))) ((goF (-1) (gosF (-1) S n)) 0) ((goF (-1) (gosF (-1) S n)) 1) t ((goF (-1) (gosF (-1) S n)) 33) (-1) (rsF (alF (-1) (gosF (-1) S n)) wa5 6)) = (MO G b3 (vwn (gosF (-1) S (n + 1)) 2 6) tk_7 (cpO 6 os os3) (vwn (gosF (-1) S (n + 1)) 14 6) (vwn (gosF (-1) S (n + 1)) 20 6) (vwn (gosF (-1) S (n + 1)) 26 6) (vwn (gosF (-1) S (n + 1)) 51 24) le_8 ((gosF (-1) S (n + 1)) 32) (bitF (gosF (-1) S (n + 1))) ((gosF (-1) S (n + 1)) 0) ((gosF (-1) S (n + 1)) 1) t ((gosF (-1) S (n + 1)) 33) (-1) (rsF (alF (-1) (gosF (-1) S n)) wa5 6)) from mo_eq rfl rfl rfl rfl rfl rfl rfl rfl rfl rfl rfl rfl rfl rfl rfl]) ?_
                exact ih (n + 1) g m tk_7 le_8 (rsF (alF (-1) (gosF (-1) S n)) wa5 6) (by omega) (by first | exact worF_t hb (by assumption) | exact worF_f hb (by assumption)) (by omega)
              · refine ev_aload_n hC dX11_worst_51 rfl 3 rfl ?_
                refine ev_get hC fl_X11_135_3 (mw 10 rfl) rfl dX11_worst_52 ?_
                refine ev_iload_n hC dX11_worst_55 rfl 1 rfl ?_
                refine ev_ialdN (i := pp) hC (mw 15 rfl) (by omega) (by omega) dX11_worst_56 ?_
                refine ev_top (y := ((gosF (-1) S n) (20 + pp))) (vwn_at (by omega)) ?_
                refine ev_istore (lv' := [(4, .int ((gosF (-1) S n) (20 + pp))), (0, .ref x), (1, .int (nI pp)), (2, .int (nI 0)), (3, .ref (b3 0)), (5, .int m), (6, .int (nI n))]) hC dX11_worst_57 (by decide) rfl ?_
                refine ev_iload hC dX11_worst_59 6 rfl ?_
                refine ev_istore (lv' := [(5, .int (nI n)), (4, .int ((gosF (-1) S n) (20 + pp))), (0, .ref x), (1, .int (nI pp)), (2, .int (nI 0)), (3, .ref (b3 0)), (6, .int (nI n))]) hC dX11_worst_61 (by decide) rfl ?_
                refine ev_aload_n hC dX11_worst_63 rfl 5 rfl ?_
                refine ev_callV (As := []) (st := []) (wf := (List.flatten [SP x r1 r2 r3 r4 r5 d b1 b2 b3 hi, MO G b1 (vwn S 2 6) tk os (vwn S 14 6) (vwn S 20 6) (vwn S 26 6) (vwn S 51 24) le (S 32) (bitF S) (S 0) (S 1) t (S 33) (-1) wa])) hC cv_X11_216 (m_X3_goDay G ro b3 (gosF (-1) S n) tk5 le5 (cpO 6 os os3) t (r5 0) (-1) wa5 ((gosF_wf (-1) hW n (by omega) (by omega)).1) (MoOK.hi hO_3 (Hi.tr Hi.rf (gosF_wf (-1) hW n (by omega) (by omega)).2)) (by omega) (by omega)) (by omega) rfl rfl (Nat.le_of_ble_eq_true rfl) (perm_sg (n := 3) [2, 0, 1] rfl rfl (by decide)) (mw 10 rfl) rfl dX11_worst_64 (by omega) (by omega) ?_
                rintro _ _ _ ⟨tk_10, le_11, hK_12, rfl, rfl, rfl⟩
                show Ev G X 0 0 67 [(5, .int (nI n)), (4, .int ((gosF (-1) S n) (20 + pp))), (0, .ref x), (1, .int (nI pp)), (2, .int (nI 0)), (3, .ref (b3 0)), (6, .int (nI n))] [] (List.flatten [MO G b3 (vwn (goF (-1) (gosF (-1) S n)) 2 6) tk_10 (cpO 6 os os3) (vwn (goF (-1) (gosF (-1) S n)) 14 6) (vwn (goF (-1) (gosF (-1) S n)) 20 6) (vwn (goF (-1) (gosF (-1) S n)) 26 6) (vwn (goF (-1) (gosF (-1) S n)) 51 24) le_11 ((goF (-1) (gosF (-1) S n)) 32) (bitF (goF (-1) (gosF (-1) S n))) ((goF (-1) (gosF (-1) S n)) 0) ((goF (-1) (gosF (-1) S n)) 1) t ((goF (-1) (gosF (-1) S n)) 33) (-1) (rsF (alF (-1) (gosF (-1) S n)) wa5 6), SP x r1 r2 r3 r4 r5 d b1 b2 b3 hi, MO G b1 (vwn S 2 6) tk os (vwn S 14 6) (vwn S 20 6) (vwn S 26 6) (vwn S 51 24) le (S 32) (bitF S) (S 0) (S 1) t (S 33) (-1) wa]) ro
                refine ev_perm (ws' := (List.flatten [SP x r1 r2 r3 r4 r5 d b1 b2 b3 hi, MO G b1 (vwn S 2 6) tk os (vwn S 14 6) (vwn S 20 6) (vwn S 26 6) (vwn S 51 24) le (S 32) (bitF S) (S 0) (S 1) t (S 33) (-1) wa, MO G b3 (vwn (goF (-1) (gosF (-1) S n)) 2 6) tk_10 (cpO 6 os os3) (vwn (goF (-1) (gosF (-1) S n)) 14 6) (vwn (goF (-1) (gosF (-1) S n)) 20 6) (vwn (goF (-1) (gosF (-1) S n)) 26 6) (vwn (goF (-1) (gosF (-1) S n)) 51 24) le_11 ((goF (-1) (gosF (-1) S n)) 32) (bitF (goF (-1) (gosF (-1) S n))) ((goF (-1) (gosF (-1) S n)) 0) ((goF (-1) (gosF (-1) S n)) 1) t ((goF (-1) (gosF (-1) S n)) 33) (-1) (rsF (alF (-1) (gosF (-1) S n)) wa5 6)])) (perm_sg2 (n := 3) [1, 2, 0] rfl rfl (by decide)) ?_
                refine ev_iinc (v := (nI (n + 1))) (lv' := [(6, .int (nI (n + 1))), (5, .int (nI n)), (4, .int ((gosF (-1) S n) (20 + pp))), (0, .ref x), (1, .int (nI pp)), (2, .int (nI 0)), (3, .ref (b3 0))]) hC dX11_worst_67 (q := 6) rfl (nI_k _ _ 1 (by decide)) (by decide) rfl ?_
                refine ev_goto (tgt := 33) hC dX11_worst_70 (by decide) ?_
                refine ev_lv [3, 4, 5, 6, 2, 1, 0] rfl ?_
                refine ev_ws (ws' := (List.flatten [SP x r1 r2 r3 r4 r5 d b1 b2 b3 hi, MO G b1 (vwn S 2 6) tk os (vwn S 14 6) (vwn S 20 6) (vwn S 26 6) (vwn S 51 24) le (S 32) (bitF S) (S 0) (S 1) t (S 33) (-1) wa, MO G b3 (vwn (gosF (-1) S (n + 1)) 2 6) tk_10 (cpO 6 os os3) (vwn (gosF (-1) S (n + 1)) 14 6) (vwn (gosF (-1) S (n + 1)) 20 6) (vwn (gosF (-1) S (n + 1)) 26 6) (vwn (gosF (-1) S (n + 1)) 51 24) le_11 ((gosF (-1) S (n + 1)) 32) (bitF (gosF (-1) S (n + 1))) ((gosF (-1) S (n + 1)) 0) ((gosF (-1) S (n + 1)) 1) t ((gosF (-1) S (n + 1)) 33) (-1) (rsF (alF (-1) (gosF (-1) S n)) wa5 6)])) (by rw [show (MO G b3 (vwn (goF (-1) (gosF (-1) S n)) 2 6) tk_10 (cpO 6 os os3) (vwn (goF (-1) (gosF (-1) S n)) 14 6) (vwn (goF (-1) (gosF (-1) S n)) 20 6) (vwn (goF (-1) (gosF (-1) S n)) 26 6) (vwn (goF (-1) (gosF (-1) S n)) 51 24) le_11 ((goF (-1) (gosF (-1) S n)) 32) (bitF (goF (-1) (gosF (-1) S n))) ((goF (-1) (gosF (-1) S n)) 0) ((goF (-1) (gosF (-1) S n)) 1) t ((goF (-1) (gosF (-1) S n)) 33) (-1) (rsF (alF (-1) (gosF (-1) S n)) wa5 6)) = (MO G b3 (vwn (gosF (-1) S (n + 1)) 2 6) tk_10 (cpO 6 os os3) (vwn (gosF (-1) S (n + 1)) 14 6) (vwn (gosF (-1) S (n + 1)) 20 6) (vwn (gosF (-1) S (n + 1)) 26 6) (vwn (gosF (-1) S (n + 1)) 51 24) le_11 ((gosF (-1) S (n + 1)) 32) (bitF (gosF (-1) S (n + 1))) ((gosF (-1) S (n + 1)) 0) ((gosF (-1) S (n + 1)) 1) t ((gosF (-1) S (n + 1)) 33) (-1) (rsF (alF (-1) (gosF (-1) S n)) wa5 6)) from mo_eq rfl rfl rfl rfl rfl rfl rfl rfl rfl rfl rfl rfl rfl rfl rfl]) ?_
                exact ih (n + 1) ((gosF (-1) S n) (20 + pp)) (nI n) tk_10 le_11 (rsF (alF (-1) (gosF (-1) S n)) wa5 6) (by omega) (by first | exact worF_t hb (by assumption) | exact worF_f hb (by assumption)) (by omega)
        refine ev_ws (ws' := (List.flatten [SP x r1 r2 r3 r4 r5 d b1 b2 b3 hi, MO G b1 (vwn S 2 6) tk os (vwn S 14 6) (vwn S 20 6) (vwn S 26 6) (vwn S 51 24) le (S 32) (bitF S) (S 0) (S 1) t (S 33) (-1) wa, MO G b3 (vwn (gosF (-1) S 0) 2 6) tk3 (cpO 6 os os3) (vwn (gosF (-1) S 0) 14 6) (vwn (gosF (-1) S 0) 20 6) (vwn (gosF (-1) S 0) 26 6) (vwn (gosF (-1) S 0) 51 24) le3 ((gosF (-1) S 0) 32) (bitF (gosF (-1) S 0)) ((gosF (-1) S 0) 0) ((gosF (-1) S 0) 1) t ((gosF (-1) S 0) 33) (-1) (nI 0)])) (by rw [show (MO G b3 (vwn S 2 6) tk3 (cpO 6 os os3) (vwn S 14 6) (vwn S 20 6) (vwn S 26 6) (vwn S 51 24) le3 (S 32) (bitF S) (S 0) (S 1) t (S 33) (-1) (nI 0)) = (MO G b3 (vwn (gosF (-1) S 0) 2 6) tk3 (cpO 6 os os3) (vwn (gosF (-1) S 0) 14 6) (vwn (gosF (-1) S 0) 20 6) (vwn (gosF (-1) S 0) 26 6) (vwn (gosF (-1) S 0) 51 24) le3 ((gosF (-1) S 0) 32) (bitF (gosF (-1) S 0)) ((gosF (-1) S 0) 0) ((gosF (-1) S 0) 1) t ((gosF (-1) S 0) 33) (-1) (nI 0)) from mo_eq rfl rfl rfl rfl rfl rfl rfl rfl rfl rfl rfl rfl rfl rfl rfl]) ?_
        refine ev_lv [4, 5, 6, 3, 2, 1, 0] rfl ?_
        exact lp_33 (61 - 0 + 1) 0 (-1) (nI 0) tk3 le3 (nI 0) (by omega) rfl (Nat.lt_succ_self _)
      · refine ev_aload_n hC dX11_worst_19 rfl 0 rfl ?_
        refine ev_callV (As := []) (st := []) (wf := (List.flatten [])) hC cv_X11_192 (m_X11_asItIs G ro x r1 r2 r3 r4 r5 d b1 b2 b3 hi S tk le T tk3 le3 os os3 t t3 wa st3 wa3 hW hO ) (by omega) rfl rfl (Nat.le_of_ble_eq_true rfl) (perm_sg (n := 3) [0, 1, 2] rfl rfl (by decide)) (mw 0 rfl) rfl dX11_worst_20 (by omega) (by omega) ?_
        rintro _ _ _ ⟨rfl, rfl, rfl⟩
        show Ev G X 0 0 23 [(0, .ref x), (1, .int (nI pp)), (2, .int (nI 1))] [.ref (b3 0)] (List.flatten [SP x r1 r2 r3 r4 r5 d b1 b2 b3 hi, MO G b1 (vwn S 2 6) tk os (vwn S 14 6) (vwn S 20 6) (vwn S 26 6) (vwn S 51 24) le (S 32) (bitF S) (S 0) (S 1) t (S 33) (-1) wa, MO G b3 (vwn S 2 6) tk3 (cpO 6 os os3) (vwn S 14 6) (vwn S 20 6) (vwn S 26 6) (vwn S 51 24) le3 (S 32) (bitF S) (S 0) (S 1) t (S 33) (-1) (nI 0)]) ro
        have hO_13 := hO.os hW (os' := cpO 6 os os3) (fun p hp => if_pos hp)
        refine ev_astore_n (lv' := [(3, .ref (b3 0)), (0, .ref x), (1, .int (nI pp)), (2, .int (nI 1))]) hC dX11_worst_23 rfl (by decide) rfl ?_
        refine ev_iconst (v := (-1)) hC dX11_worst_24 (by decide) ?_
        refine ev_istore (lv' := [(4, .int (-1)), (3, .ref (b3 0)), (0, .ref x), (1, .int (nI pp)), (2, .int (nI 1))]) hC dX11_worst_25 (by decide) rfl ?_
        refine ev_iconst (v := (nI 0)) hC dX11_worst_27 (by decide) ?_
        refine ev_istore (lv' := [(5, .int (nI 0)), (4, .int (-1)), (3, .ref (b3 0)), (0, .ref x), (1, .int (nI pp)), (2, .int (nI 1))]) hC dX11_worst_28 (by decide) rfl ?_
        refine ev_iconst (v := (nI 0)) hC dX11_worst_30 (by decide) ?_
        refine ev_istore (lv' := [(6, .int (nI 0)), (5, .int (nI 0)), (4, .int (-1)), (3, .ref (b3 0)), (0, .ref x), (1, .int (nI pp)), (2, .int (nI 1))]) hC dX11_worst_31 (by decide) rfl ?_
        have lp_33 : ∀ (fu_33 : Nat) (n : Nat) (g : Int32) (m : Int32) (tk5 : Nat → Int32) (le5 : Nat → Int32) (wa5 : Int32) (hnn : n ≤ 61) (hb : worF S pp n = (g, m)) (hn : 61 - n < fu_33), Ev G X 0 0 33 [(0, .ref x), (1, .int (nI pp)), (2, .int (nI 1)), (3, .ref (b3 0)), (4, .int g), (5, .int m), (6, .int (nI n))] [] (List.flatten [SP x r1 r2 r3 r4 r5 d b1 b2 b3 hi, MO G b1 (vwn S 2 6) tk os (vwn S 14 6) (vwn S 20 6) (vwn S 26 6) (vwn S 51 24) le (S 32) (bitF S) (S 0) (S 1) t (S 33) (-1) wa, MO G b3 (vwn (gosF (-1) S n) 2 6) tk5 (cpO 6 os os3) (vwn (gosF (-1) S n) 14 6) (vwn (gosF (-1) S n) 20 6) (vwn (gosF (-1) S n) 26 6) (vwn (gosF (-1) S n) 51 24) le5 ((gosF (-1) S n) 32) (bitF (gosF (-1) S n)) ((gosF (-1) S n) 0) ((gosF (-1) S n) 1) t ((gosF (-1) S n) 33) (-1) wa5]) ro := by
          intro fu_33
          induction fu_33 with
          | zero => intro n g m tk5 le5 wa5 hnn hb hn; exact absurd hn (Nat.not_lt_zero _)
          | succ fu_33 ih =>
            intro n g m tk5 le5 wa5 hnn hb hn
            refine ev_iload hC dX11_worst_33 6 rfl ?_
            refine ev_bipush (v := (nI 60)) hC dX11_worst_35 (by decide) ?_
            refine ev_icmp_gtN (tgt := 73) hC dX11_worst_37 (by decide) (by omega) (by omega) (fun c_14 => ?_) (fun c_14 => ?_)
            · refine ev_iload_n hC dX11_worst_73 rfl 2 rfl ?_
              refine ev_if_neN (tgt := 82) hC dX11_worst_74 (by decide) (by omega) (fun c_15 => ?_) (fun c_15 => absurd c_15 (by omega))
              refine ev_iload hC dX11_worst_82 5 rfl ?_
              refine ev_iret hC hR rfl dX11_worst_84 ?_
              obtain rfl : n = 61 := by omega
              have er : worstR S (nI pp) (nI 1) = m := by rw [worstR, if_pos ⟨by assumption, by assumption⟩, hpn_pp, hb, if_neg (by decide)]
              exact ⟨_, _, _, _, _, _, _, by rw [er], rfl, rfl⟩
            · refine ev_aload_n hC dX11_worst_40 rfl 3 rfl ?_
              refine ev_get hC fl_X11_135_3 (mw 10 rfl) rfl dX11_worst_41 ?_
              refine ev_iload_n hC dX11_worst_44 rfl 1 rfl ?_
              refine ev_ialdN (i := pp) hC (mw 15 rfl) (by omega) (by omega) dX11_worst_45 ?_
              refine ev_top (y := ((gosF (-1) S n) (20 + pp))) (vwn_at (by omega)) ?_
              refine ev_iload hC dX11_worst_46 4 rfl ?_
              refine ev_icmp_le (tgt := 63) hC dX11_worst_48 (by decide) (fun c_16 => ?_) (fun c_16 => ?_)
              · refine ev_aload_n hC dX11_worst_63 rfl 3 rfl ?_
                refine ev_callV (As := []) (st := []) (wf := (List.flatten [SP x r1 r2 r3 r4 r5 d b1 b2 b3 hi, MO G b1 (vwn S 2 6) tk os (vwn S 14 6) (vwn S 20 6) (vwn S 26 6) (vwn S 51 24) le (S 32) (bitF S) (S 0) (S 1) t (S 33) (-1) wa])) hC cv_X11_216 (m_X3_goDay G ro b3 (gosF (-1) S n) tk5 le5 (cpO 6 os os3) t (r5 0) (-1) wa5 ((gosF_wf (-1) hW n (by omega) (by omega)).1) (MoOK.hi hO_13 (Hi.tr Hi.rf (gosF_wf (-1) hW n (by omega) (by omega)).2)) (by omega) (by omega)) (by omega) rfl rfl (Nat.le_of_ble_eq_true rfl) (perm_sg (n := 3) [2, 0, 1] rfl rfl (by decide)) (mw 10 rfl) rfl dX11_worst_64 (by omega) (by omega) ?_
                rintro _ _ _ ⟨tk_17, le_18, hK_19, rfl, rfl, rfl⟩
                show Ev G X 0 0 67 [(0, .ref x), (1, .int (nI pp)), (2, .int (nI 1)), (3, .ref (b3 0)), (4, .int g), (5, .int m), (6, .int (nI n))] [] (List.flatten [MO G b3 (vwn (goF (-1) (gosF (-1) S n)) 2 6) tk_17 (cpO 6 os os3) (vwn (goF (-1) (gosF (-1) S n)) 14 6) (vwn (goF (-1) (gosF (-1) S n)) 20 6) (vwn (goF (-1) (gosF (-1) S n)) 26 6) (vwn (goF (-1) (gosF (-1) S n)) 51 24) le_18 ((goF (-1) (gosF (-1) S n)) 32) (bitF (goF (-1) (gosF (-1) S n))) ((goF (-1) (gosF (-1) S n)) 0) ((goF (-1) (gosF (-1) S n)) 1) t ((goF (-1) (gosF (-1) S n)) 33) (-1) (rsF (alF (-1) (gosF (-1) S n)) wa5 6), SP x r1 r2 r3 r4 r5 d b1 b2 b3 hi, MO G b1 (vwn S 2 6) tk os (vwn S 14 6) (vwn S 20 6) (vwn S 26 6) (vwn S 51 24) le (S 32) (bitF S) (S 0) (S 1) t (S 33) (-1) wa]) ro
                refine ev_perm (ws' := (List.flatten [SP x r1 r2 r3 r4 r5 d b1 b2 b3 hi, MO G b1 (vwn S 2 6) tk os (vwn S 14 6) (vwn S 20 6) (vwn S 26 6) (vwn S 51 24) le (S 32) (bitF S) (S 0) (S 1) t (S 33) (-1) wa, MO G b3 (vwn (goF (-1) (gosF (-1) S n)) 2 6) tk_17 (cpO 6 os os3) (vwn (goF (-1) (gosF (-1) S n)) 14 6) (vwn (goF (-1) (gosF (-1) S n)) 20 6) (vwn (goF (-1) (gosF (-1) S n)) 26 6) (vwn (goF (-1) (gosF (-1) S n)) 51 24) le_18 ((goF (-1) (gosF (-1) S n)) 32) (bitF (goF (-1) (gosF (-1) S n))) ((goF (-1) (gosF (-1) S n)) 0) ((goF (-1) (gosF (-1) S n)) 1) t ((goF (-1) (gosF (-1) S n)) 33) (-1) (rsF (alF (-1) (gosF (-1) S n)) wa5 6)])) (perm_sg2 (n := 3) [1, 2, 0] rfl rfl (by decide)) ?_
                refine ev_iinc (v := (nI (n + 1))) (lv' := [(6, .int (nI (n + 1))), (0, .ref x), (1, .int (nI pp)), (2, .int (nI 1)), (3, .ref (b3 0)), (4, .int g), (5, .int m)]) hC dX11_worst_67 (q := 6) rfl (nI_k _ _ 1 (by decide)) (by decide) rfl ?_
                refine ev_goto (tgt := 33) hC dX11_worst_70 (by decide) ?_
                refine ev_lv [1, 2, 3, 4, 5, 6, 0] rfl ?_
                refine ev_ws (ws' := (List.flatten [SP x r1 r2 r3 r4 r5 d b1 b2 b3 hi, MO G b1 (vwn S 2 6) tk os (vwn S 14 6) (vwn S 20 6) (vwn S 26 6) (vwn S 51 24) le (S 32) (bitF S) (S 0) (S 1) t (S 33) (-1) wa, MO G b3 (vwn (gosF (-1) S (n + 1)) 2 6) tk_17 (cpO 6 os os3) (vwn (gosF (-1) S (n + 1)) 14 6) (vwn (gosF (-1) S (n + 1)) 20 6) (vwn (gosF (-1) S (n + 1)) 26 6) (vwn (gosF (-1) S (n + 1)) 51 24) le_18 ((gosF (-1) S (n + 1)) 32) (bitF (gosF (-1) S (n + 1))) ((gosF (-1) S (n + 1)) 0) ((gosF (-1) S (n + 1)) 1) t ((gosF (-1) S (n + 1)) 33) (-1) (rsF (alF (-1) (gosF (-1) S n)) wa5 6)])) (by rw [show (MO G b3 (vwn (goF (-1) (gosF (-1) S n)) 2 6) tk_17 (cpO 6 os os3) (vwn (goF (-1) (gosF (-1) S n)) 14 6) (vwn (goF (-1) (gosF (-1) S n)) 20 6) (vwn (goF (-1) (gosF (-1) S n)) 26 6) (vwn (goF (-1) (gosF (-1) S n)) 51 24) le_18 ((goF (-1) (gosF (-1) S n)) 32) (bitF (goF (-1) (gosF (-1) S n))) ((goF (-1) (gosF (-1) S n)) 0) ((goF (-1) (gosF (-1) S n)) 1) t ((goF (-1) (gosF (-1) S n)) 33) (-1) (rsF (alF (-1) (gosF (-1) S n)) wa5 6)) = (MO G b3 (vwn (gosF (-1) S (n + 1)) 2 6) tk_17 (cpO 6 os os3) (vwn (gosF (-1) S (n + 1)) 14 6) (vwn (gosF (-1) S (n + 1)) 20 6) (vwn (gosF (-1) S (n + 1)) 26 6) (vwn (gosF (-1) S (n + 1)) 51 24) le_18 ((gosF (-1) S (n + 1)) 32) (bitF (gosF (-1) S (n + 1))) ((gosF (-1) S (n + 1)) 0) ((gosF (-1) S (n + 1)) 1) t ((gosF (-1) S (n + 1)) 33) (-1) (rsF (alF (-1) (gosF (-1) S n)) wa5 6)) from mo_eq rfl rfl rfl rfl rfl rfl rfl rfl rfl rfl rfl rfl rfl rfl rfl]) ?_
                exact ih (n + 1) g m tk_17 le_18 (rsF (alF (-1) (gosF (-1) S n)) wa5 6) (by omega) (by first | exact worF_t hb (by assumption) | exact worF_f hb (by assumption)) (by omega)
              · refine ev_aload_n hC dX11_worst_51 rfl 3 rfl ?_
                refine ev_get hC fl_X11_135_3 (mw 10 rfl) rfl dX11_worst_52 ?_
                refine ev_iload_n hC dX11_worst_55 rfl 1 rfl ?_
                refine ev_ialdN (i := pp) hC (mw 15 rfl) (by omega) (by omega) dX11_worst_56 ?_
                refine ev_top (y := ((gosF (-1) S n) (20 + pp))) (vwn_at (by omega)) ?_
                refine ev_istore (lv' := [(4, .int ((gosF (-1) S n) (20 + pp))), (0, .ref x), (1, .int (nI pp)), (2, .int (nI 1)), (3, .ref (b3 0)), (5, .int m), (6, .int (nI n))]) hC dX11_worst_57 (by decide) rfl ?_
                refine ev_iload hC dX11_worst_59 6 rfl ?_
                refine ev_istore (lv' := [(5, .int (nI n)), (4, .int ((gosF (-1) S n) (20 + pp))), (0, .ref x), (1, .int (nI pp)), (2, .int (nI 1)), (3, .ref (b3 0)), (6, .int (nI n))]) hC dX11_worst_61 (by decide) rfl ?_
                refine ev_aload_n hC dX11_worst_63 rfl 5 rfl ?_
                refine ev_callV (As := []) (st := []) (wf := (List.flatten [SP x r1 r2 r3 r4 r5 d b1 b2 b3 hi, MO G b1 (vwn S 2 6) tk os (vwn S 14 6) (vwn S 20 6) (vwn S 26 6) (vwn S 51 24) le (S 32) (bitF S) (S 0) (S 1) t (S 33) (-1) wa])) hC cv_X11_216 (m_X3_goDay G ro b3 (gosF (-1) S n) tk5 le5 (cpO 6 os os3) t (r5 0) (-1) wa5 ((gosF_wf (-1) hW n (by omega) (by omega)).1) (MoOK.hi hO_13 (Hi.tr Hi.rf (gosF_wf (-1) hW n (by omega) (by omega)).2)) (by omega) (by omega)) (by omega) rfl rfl (Nat.le_of_ble_eq_true rfl) (perm_sg (n := 3) [2, 0, 1] rfl rfl (by decide)) (mw 10 rfl) rfl dX11_worst_64 (by omega) (by omega) ?_
                rintro _ _ _ ⟨tk_20, le_21, hK_22, rfl, rfl, rfl⟩
                show Ev G X 0 0 67 [(5, .int (nI n)), (4, .int ((gosF (-1) S n) (20 + pp))), (0, .ref x), (1, .int (nI pp)), (2, .int (nI 1)), (3, .ref (b3 0)), (6, .int (nI n))] [] (List.flatten [MO G b3 (vwn (goF (-1) (gosF (-1) S n)) 2 6) tk_20 (cpO 6 os os3) (vwn (goF (-1) (gosF (-1) S n)) 14 6) (vwn (goF (-1) (gosF (-1) S n)) 20 6) (vwn (goF (-1) (gosF (-1) S n)) 26 6) (vwn (goF (-1) (gosF (-1) S n)) 51 24) le_21 ((goF (-1) (gosF (-1) S n)) 32) (bitF (goF (-1) (gosF (-1) S n))) ((goF (-1) (gosF (-1) S n)) 0) ((goF (-1) (gosF (-1) S n)) 1) t ((goF (-1) (gosF (-1) S n)) 33) (-1) (rsF (alF (-1) (gosF (-1) S n)) wa5 6), SP x r1 r2 r3 r4 r5 d b1 b2 b3 hi, MO G b1 (vwn S 2 6) tk os (vwn S 14 6) (vwn S 20 6) (vwn S 26 6) (vwn S 51 24) le (S 32) (bitF S) (S 0) (S 1) t (S 33) (-1) wa]) ro
                refine ev_perm (ws' := (List.flatten [SP x r1 r2 r3 r4 r5 d b1 b2 b3 hi, MO G b1 (vwn S 2 6) tk os (vwn S 14 6) (vwn S 20 6) (vwn S 26 6) (vwn S 51 24) le (S 32) (bitF S) (S 0) (S 1) t (S 33) (-1) wa, MO G b3 (vwn (goF (-1) (gosF (-1) S n)) 2 6) tk_20 (cpO 6 os os3) (vwn (goF (-1) (gosF (-1) S n)) 14 6) (vwn (goF (-1) (gosF (-1) S n)) 20 6) (vwn (goF (-1) (gosF (-1) S n)) 26 6) (vwn (goF (-1) (gosF (-1) S n)) 51 24) le_21 ((goF (-1) (gosF (-1) S n)) 32) (bitF (goF (-1) (gosF (-1) S n))) ((goF (-1) (gosF (-1) S n)) 0) ((goF (-1) (gosF (-1) S n)) 1) t ((goF (-1) (gosF (-1) S n)) 33) (-1) (rsF (alF (-1) (gosF (-1) S n)) wa5 6)])) (perm_sg2 (n := 3) [1, 2, 0] rfl rfl (by decide)) ?_
                refine ev_iinc (v := (nI (n + 1))) (lv' := [(6, .int (nI (n + 1))), (5, .int (nI n)), (4, .int ((gosF (-1) S n) (20 + pp))), (0, .ref x), (1, .int (nI pp)), (2, .int (nI 1)), (3, .ref (b3 0))]) hC dX11_worst_67 (q := 6) rfl (nI_k _ _ 1 (by decide)) (by decide) rfl ?_
                refine ev_goto (tgt := 33) hC dX11_worst_70 (by decide) ?_
                refine ev_lv [3, 4, 5, 6, 2, 1, 0] rfl ?_
                refine ev_ws (ws' := (List.flatten [SP x r1 r2 r3 r4 r5 d b1 b2 b3 hi, MO G b1 (vwn S 2 6) tk os (vwn S 14 6) (vwn S 20 6) (vwn S 26 6) (vwn S 51 24) le (S 32) (bitF S) (S 0) (S 1) t (S 33) (-1) wa, MO G b3 (vwn (gosF (-1) S (n + 1)) 2 6) tk_20 (cpO 6 os os3) (vwn (gosF (-1) S (n + 1)) 14 6) (vwn (gosF (-1) S (n + 1)) 20 6) (vwn (gosF (-1) S (n + 1)) 26 6) (vwn (gosF (-1) S (n + 1)) 51 24) le_21 ((gosF (-1) S (n + 1)) 32) (bitF (gosF (-1) S (n + 1))) ((gosF (-1) S (n + 1)) 0) ((gosF (-1) S (n + 1)) 1) t ((gosF (-1) S (n + 1)) 33) (-1) (rsF (alF (-1) (gosF (-1) S n)) wa5 6)])) (by rw [show (MO G b3 (vwn (goF (-1) (gosF (-1) S n)) 2 6) tk_20 (cpO 6 os os3) (vwn (goF (-1) (gosF (-1) S n)) 14 6) (vwn (goF (-1) (gosF (-1) S n)) 20 6) (vwn (goF (-1) (gosF (-1) S n)) 26 6) (vwn (goF (-1) (gosF (-1) S n)) 51 24) le_21 ((goF (-1) (gosF (-1) S n)) 32) (bitF (goF (-1) (gosF (-1) S n))) ((goF (-1) (gosF (-1) S n)) 0) ((goF (-1) (gosF (-1) S n)) 1) t ((goF (-1) (gosF (-1) S n)) 33) (-1) (rsF (alF (-1) (gosF (-1) S n)) wa5 6)) = (MO G b3 (vwn (gosF (-1) S (n + 1)) 2 6) tk_20 (cpO 6 os os3) (vwn (gosF (-1) S (n + 1)) 14 6) (vwn (gosF (-1) S (n + 1)) 20 6) (vwn (gosF (-1) S (n + 1)) 26 6) (vwn (gosF (-1) S (n + 1)) 51 24) le_21 ((gosF (-1) S (n + 1)) 32) (bitF (gosF (-1) S (n + 1))) ((gosF (-1) S (n + 1)) 0) ((gosF (-1) S (n + 1)) 1) t ((gosF (-1) S (n + 1)) 33) (-1) (rsF (alF (-1) (gosF (-1) S n)) wa5 6)) from mo_eq rfl rfl rfl rfl rfl rfl rfl rfl rfl rfl rfl rfl rfl rfl rfl]) ?_
                exact ih (n + 1) ((gosF (-1) S n) (20 + pp)) (nI n) tk_20 le_21 (rsF (alF (-1) (gosF (-1) S n)) wa5 6) (by omega) (by first | exact worF_t hb (by assumption) | exact worF_f hb (by assumption)) (by omega)
        refine ev_ws (ws' := (List.flatten [SP x r1 r2 r3 r4 r5 d b1 b2 b3 hi, MO G b1 (vwn S 2 6) tk os (vwn S 14 6) (vwn S 20 6) (vwn S 26 6) (vwn S 51 24) le (S 32) (bitF S) (S 0) (S 1) t (S 33) (-1) wa, MO G b3 (vwn (gosF (-1) S 0) 2 6) tk3 (cpO 6 os os3) (vwn (gosF (-1) S 0) 14 6) (vwn (gosF (-1) S 0) 20 6) (vwn (gosF (-1) S 0) 26 6) (vwn (gosF (-1) S 0) 51 24) le3 ((gosF (-1) S 0) 32) (bitF (gosF (-1) S 0)) ((gosF (-1) S 0) 0) ((gosF (-1) S 0) 1) t ((gosF (-1) S 0) 33) (-1) (nI 0)])) (by rw [show (MO G b3 (vwn S 2 6) tk3 (cpO 6 os os3) (vwn S 14 6) (vwn S 20 6) (vwn S 26 6) (vwn S 51 24) le3 (S 32) (bitF S) (S 0) (S 1) t (S 33) (-1) (nI 0)) = (MO G b3 (vwn (gosF (-1) S 0) 2 6) tk3 (cpO 6 os os3) (vwn (gosF (-1) S 0) 14 6) (vwn (gosF (-1) S 0) 20 6) (vwn (gosF (-1) S 0) 26 6) (vwn (gosF (-1) S 0) 51 24) le3 ((gosF (-1) S 0) 32) (bitF (gosF (-1) S 0)) ((gosF (-1) S 0) 0) ((gosF (-1) S 0) 1) t ((gosF (-1) S 0) 33) (-1) (nI 0)) from mo_eq rfl rfl rfl rfl rfl rfl rfl rfl rfl rfl rfl rfl rfl rfl rfl]) ?_
        refine ev_lv [4, 5, 6, 3, 2, 1, 0] rfl ?_
        exact lp_33 (61 - 0 + 1) 0 (-1) (nI 0) tk3 le3 (nI 0) (by omega) rfl (Nat.lt_succ_self _)
    · refine ev_iconst (v := (-1)) hC dX11_worst_17 (by decide) ?_
      refine ev_iret hC hR rfl dX11_worst_18 ?_
      have er : worstR S (nI pp) w = (-1) := by rw [worstR]; exact if_neg (fun h => by first | exact absurd h.1 (by assumption) | exact absurd h.2 (by assumption))
      exact ⟨_, _, _, _, _, _, _, by rw [er], rfl, rfl⟩

theorem watF_m {S : Nat → Int32} {k i : Nat} {a b : Int32} (h : watF S k i = (a, b)) (c : szF i 6 ≠ k) : watF S k (i + 1) = (a, b) := watF_n h c
theorem watF_ge (S : Nat → Int32) (k : Nat) : ∀ i, (-1 : Int32) ≤ (watF S k i).2
  | 0 => Int32.le_refl _
  | i + 1 => by
    rw [watF]
    split
    · next h => exact Int32.le_trans (watF_ge S k i) (Int32.le_of_lt h.2)
    · exact watF_ge S k i
theorem watF_ng {S : Nat → Int32} {k i : Nat} {a b : Int32} (h : watF S k i = (a, b)) : (-1 : Int32) ≤ b := by
  have := watF_ge S k i
  rw [h] at this
  exact this

set_option maxHeartbeats 4000000 in
set_option maxRecDepth 100000 in
theorem m_X11_watch (G : GG) (ro : va_W) (x : Nat) (r1 r2 r3 r4 r5 d b1 b2 b3 : Nat → Nat) (hi : Int32) (S tk le T tk3 le3 : Nat → Int32) (os os3 : Nat → Option Nat) (t t3 : Nat) (wa st3 wa3 : Int32) (y w : Int32) (hW : WF S 9999 9999) (hO : MoOK G ro (r5 0) S os t)  : Mth G M_X11_watch 8 0 0 [.ref x, .int y, .int w] (List.flatten [SP x r1 r2 r3 r4 r5 d b1 b2 b3 hi, MO G b1 (vwn S 2 6) tk os (vwn S 14 6) (vwn S 20 6) (vwn S 26 6) (vwn S 51 24) le (S 32) (bitF S) (S 0) (S 1) t (S 33) (-1) wa, MO G b3 (vwn T 2 6) tk3 os3 (vwn T 14 6) (vwn T 20 6) (vwn T 26 6) (vwn T 51 24) le3 (T 32) (bitF T) (T 0) (T 1) t3 (T 33) st3 wa3]) ro (fun r ws' ro' => ∃ (T' : Nat → Int32), ∃ (tk3' : Nat → Int32), ∃ (le3' : Nat → Int32), ∃ (os3' : Nat → Option Nat), ∃ (t3' : Nat), ∃ (st3' : Int32), ∃ (wa3' : Int32), r = some (.int (watchR S y w)) ∧ ws' = (List.flatten [SP x r1 r2 r3 r4 r5 d b1 b2 b3 hi, MO G b1 (vwn S 2 6) tk os (vwn S 14 6) (vwn S 20 6) (vwn S 26 6) (vwn S 51 24) le (S 32) (bitF S) (S 0) (S 1) t (S 33) (-1) wa, MO G b3 (vwn T' 2 6) tk3' os3' (vwn T' 14 6) (vwn T' 20 6) (vwn T' 26 6) (vwn T' 51 24) le3' (T' 32) (bitF T') (T' 0) (T' 1) t3' (T' 33) st3' wa3']) ∧ ro = ro') := by
  refine mth_of (by decide +kernel) (Nat.le_of_ble_eq_true rfl) (fun X hC hR => ?_)
  have b32 := hW.peo.le
  show Ev G X 0 0 0 [(0, .ref x), (1, .int y), (2, .int w)] [] (List.flatten [SP x r1 r2 r3 r4 r5 d b1 b2 b3 hi, MO G b1 (vwn S 2 6) tk os (vwn S 14 6) (vwn S 20 6) (vwn S 26 6) (vwn S 51 24) le (S 32) (bitF S) (S 0) (S 1) t (S 33) (-1) wa, MO G b3 (vwn T 2 6) tk3 os3 (vwn T 14 6) (vwn T 20 6) (vwn T 26 6) (vwn T 51 24) le3 (T 32) (bitF T) (T 0) (T 1) t3 (T 33) st3 wa3]) ro
  refine ev_iload_n hC dX11_watch_0 rfl 2 rfl ?_
  refine ev_iconst (v := (nI 0)) hC dX11_watch_1 (by decide) ?_
  refine ev_iconst (v := (nI 1)) hC dX11_watch_2 (by decide) ?_
  refine ev_callS (As := [.int w, .int (nI 0), .int (nI 1)]) (st := []) (wc := []) (wf := (List.flatten [SP x r1 r2 r3 r4 r5 d b1 b2 b3 hi, MO G b1 (vwn S 2 6) tk os (vwn S 14 6) (vwn S 20 6) (vwn S 26 6) (vwn S 51 24) le (S 32) (bitF S) (S 0) (S 1) t (S 33) (-1) wa, MO G b3 (vwn T 2 6) tk3 os3 (vwn T 14 6) (vwn T 20 6) (vwn T 26 6) (vwn T 51 24) le3 (T 32) (bitF T) (T 0) (T 1) t3 (T 33) st3 wa3])) hC ct_X11_68 (m_X11_isWithin G ro w (nI 0) (nI 1)) (by omega) rfl rfl (Nat.le_of_ble_eq_true rfl) (List.Perm.refl _) dX11_watch_3 (by omega) (by omega) ?_
  rintro _ _ _ ⟨rfl, rfl, rfl⟩
  refine ev_ws (List.nil_append _) ?_
  show Ev G X 0 0 6 [(0, .ref x), (1, .int y), (2, .int w)] [.int (bI ((nI 0) ≤ w ∧ w ≤ (nI 1)))] (List.flatten [SP x r1 r2 r3 r4 r5 d b1 b2 b3 hi, MO G b1 (vwn S 2 6) tk os (vwn S 14 6) (vwn S 20 6) (vwn S 26 6) (vwn S 51 24) le (S 32) (bitF S) (S 0) (S 1) t (S 33) (-1) wa, MO G b3 (vwn T 2 6) tk3 os3 (vwn T 14 6) (vwn T 20 6) (vwn T 26 6) (vwn T 51 24) le3 (T 32) (bitF T) (T 0) (T 1) t3 (T 33) st3 wa3]) ro
  refine ev_if_neB (tgt := 11) hC dX11_watch_6 (by decide) (fun c_1 => ?_) (fun c_1 => ?_)
  · obtain ⟨wk, hwk, rfl⟩ := inN (m := 1) (by omega) (by assumption)
    rcases (show wk = 0 ∨ wk = 1 by omega) with rfl | rfl
    · refine ev_iload_n hC dX11_watch_11 rfl 1 rfl ?_
      refine ev_iconst (v := (nI 1)) hC dX11_watch_12 (by decide) ?_
      refine ev_bipush (v := (nI 6)) hC dX11_watch_13 (by decide) ?_
      refine ev_callS (As := [.int y, .int (nI 1), .int (nI 6)]) (st := []) (wc := []) (wf := (List.flatten [SP x r1 r2 r3 r4 r5 d b1 b2 b3 hi, MO G b1 (vwn S 2 6) tk os (vwn S 14 6) (vwn S 20 6) (vwn S 26 6) (vwn S 51 24) le (S 32) (bitF S) (S 0) (S 1) t (S 33) (-1) wa, MO G b3 (vwn T 2 6) tk3 os3 (vwn T 14 6) (vwn T 20 6) (vwn T 26 6) (vwn T 51 24) le3 (T 32) (bitF T) (T 0) (T 1) t3 (T 33) st3 wa3])) hC ct_X11_68 (m_X11_isWithin G ro y (nI 1) (nI 6)) (by omega) rfl rfl (Nat.le_of_ble_eq_true rfl) (List.Perm.refl _) dX11_watch_15 (by omega) (by omega) ?_
      rintro _ _ _ ⟨rfl, rfl, rfl⟩
      refine ev_ws (List.nil_append _) ?_
      show Ev G X 0 0 18 [(0, .ref x), (1, .int y), (2, .int (nI 0))] [.int (bI ((nI 1) ≤ y ∧ y ≤ (nI 6)))] (List.flatten [SP x r1 r2 r3 r4 r5 d b1 b2 b3 hi, MO G b1 (vwn S 2 6) tk os (vwn S 14 6) (vwn S 20 6) (vwn S 26 6) (vwn S 51 24) le (S 32) (bitF S) (S 0) (S 1) t (S 33) (-1) wa, MO G b3 (vwn T 2 6) tk3 os3 (vwn T 14 6) (vwn T 20 6) (vwn T 26 6) (vwn T 51 24) le3 (T 32) (bitF T) (T 0) (T 1) t3 (T 33) st3 wa3]) ro
      refine ev_if_neB (tgt := 24) hC dX11_watch_18 (by decide) (fun c_2 => ?_) (fun c_2 => ?_)
      · obtain ⟨kk, hkk, rfl⟩ := inN (m := 6) (by omega) ⟨Int32.le_trans (by decide) (And.left (by assumption : nI 1 ≤ y ∧ y ≤ nI 6)), And.right (by assumption : nI 1 ≤ y ∧ y ≤ nI 6)⟩
        have hpn_kk : pn (nI kk) = kk := nI_clamp (by omega)
        have h1_kk : 1 ≤ kk := (nI_leI (by omega) (by omega)).mp (And.left (by assumption : nI 1 ≤ nI kk ∧ nI kk ≤ nI 6))
        refine ev_aload_n hC dX11_watch_24 rfl 0 rfl ?_
        refine ev_iconst (v := (nI 1)) hC dX11_watch_25 (by decide) ?_
        refine ev_callV (As := [.int (nI 1)]) (st := []) (wf := (List.flatten [])) hC cv_X11_188 (m_X11_after G ro x r1 r2 r3 r4 r5 d b1 b2 b3 hi S tk le T tk3 le3 os os3 t t3 wa st3 wa3 1 hW hO (by omega) (by omega) (by omega)) (by omega) rfl rfl (Nat.le_of_ble_eq_true rfl) (perm_sg (n := 3) [0, 1, 2] rfl rfl (by decide)) (mw 0 rfl) rfl dX11_watch_26 (by omega) (by omega) ?_
        rintro _ _ _ ⟨tk_3, le_4, hK_5, rfl, rfl, rfl⟩
        show Ev G X 0 0 29 [(0, .ref x), (1, .int (nI kk)), (2, .int (nI 0))] [.ref (b3 0)] (List.flatten [SP x r1 r2 r3 r4 r5 d b1 b2 b3 hi, MO G b1 (vwn S 2 6) tk os (vwn S 14 6) (vwn S 20 6) (vwn S 26 6) (vwn S 51 24) le (S 32) (bitF S) (S 0) (S 1) t (S 33) (-1) wa, MO G b3 (vwn (gosF (-1) S 1) 2 6) tk_3 (cpO 6 os os3) (vwn (gosF (-1) S 1) 14 6) (vwn (gosF (-1) S 1) 20 6) (vwn (gosF (-1) S 1) 26 6) (vwn (gosF (-1) S 1) 51 24) le_4 ((gosF (-1) S 1) 32) (bitF (gosF (-1) S 1)) ((gosF (-1) S 1) 0) ((gosF (-1) S 1) 1) t ((gosF (-1) S 1) 33) (-1) (raF (-1) S (nI 0) 1)]) ro
        have hO_6 := hO.os hW (os' := cpO 6 os os3) (fun p hp => if_pos hp)
        refine ev_astore_n (lv' := [(3, .ref (b3 0)), (0, .ref x), (1, .int (nI kk)), (2, .int (nI 0))]) hC dX11_watch_29 rfl (by decide) rfl ?_
        refine ev_iconst (v := (nI 0)) hC dX11_watch_30 (by decide) ?_
        refine ev_istore (lv' := [(4, .int (nI 0)), (3, .ref (b3 0)), (0, .ref x), (1, .int (nI kk)), (2, .int (nI 0))]) hC dX11_watch_31 (by decide) rfl ?_
        refine ev_iconst (v := (-1)) hC dX11_watch_33 (by decide) ?_
        refine ev_istore (lv' := [(5, .int (-1)), (4, .int (nI 0)), (3, .ref (b3 0)), (0, .ref x), (1, .int (nI kk)), (2, .int (nI 0))]) hC dX11_watch_34 (by decide) rfl ?_
        refine ev_iconst (v := (nI 0)) hC dX11_watch_36 (by decide) ?_
        refine ev_istore (lv' := [(6, .int (nI 0)), (5, .int (-1)), (4, .int (nI 0)), (3, .ref (b3 0)), (0, .ref x), (1, .int (nI kk)), (2, .int (nI 0))]) hC dX11_watch_37 (by decide) rfl ?_
        have lp_39 : ∀ (fu_39 : Nat) (i : Nat) (g : Int32) (m : Int32) (hii : i ≤ 64) (hb : watF S kk i = (g, m)) (hn : 64 - i < fu_39), Ev G X 0 0 39 [(0, .ref x), (1, .int (nI kk)), (2, .int (nI 0)), (3, .ref (b3 0)), (4, .int g), (5, .int m), (6, .int (nI i))] [] (List.flatten [SP x r1 r2 r3 r4 r5 d b1 b2 b3 hi, MO G b1 (vwn S 2 6) tk os (vwn S 14 6) (vwn S 20 6) (vwn S 26 6) (vwn S 51 24) le (S 32) (bitF S) (S 0) (S 1) t (S 33) (-1) wa, MO G b3 (vwn (gosF (-1) S 1) 2 6) tk_3 (cpO 6 os os3) (vwn (gosF (-1) S 1) 14 6) (vwn (gosF (-1) S 1) 20 6) (vwn (gosF (-1) S 1) 26 6) (vwn (gosF (-1) S 1) 51 24) le_4 ((gosF (-1) S 1) 32) (bitF (gosF (-1) S 1)) ((gosF (-1) S 1) 0) ((gosF (-1) S 1) 1) t ((gosF (-1) S 1) 33) (-1) (raF (-1) S (nI 0) 1)]) ro := by
          intro fu_39
          induction fu_39 with
          | zero => intro i g m hii hb hn; exact absurd hn (Nat.not_lt_zero _)
          | succ fu_39 ih =>
            intro i g m hii hb hn
            refine ev_iload hC dX11_watch_39 6 rfl ?_
            refine ev_bipush (v := (nI 64)) hC dX11_watch_41 (by decide) ?_
            refine ev_icmp_geN (tgt := 88) hC dX11_watch_43 (by decide) (by omega) (by omega) (fun c_7 => ?_) (fun c_7 => ?_)
            · refine ev_iload_n hC dX11_watch_88 rfl 2 rfl ?_
              refine ev_if_neN (tgt := 97) hC dX11_watch_89 (by decide) (by omega) (fun c_8 => absurd c_8 (by omega)) (fun c_8 => ?_)
              refine ev_iload hC dX11_watch_92 4 rfl ?_
              refine ev_goto (tgt := 99) hC dX11_watch_94 (by decide) ?_
              refine ev_iret hC hR rfl dX11_watch_99 ?_
              obtain rfl : i = 64 := by omega
              have er : watchR S (nI kk) (nI 0) = g := by rw [watchR, if_pos (by assumption), if_pos (by assumption), hpn_kk, hb, if_pos rfl]
              exact ⟨_, _, _, _, _, _, _, by rw [er], rfl, rfl⟩
            · refine ev_iload hC dX11_watch_46 6 rfl ?_
              have hng := watF_ng hb
              have hsz := szF_le i 6
              refine ev_callS (As := [.int (nI i)]) (st := []) (wc := []) (wf := (List.flatten [SP x r1 r2 r3 r4 r5 d b1 b2 b3 hi, MO G b1 (vwn S 2 6) tk os (vwn S 14 6) (vwn S 20 6) (vwn S 26 6) (vwn S 51 24) le (S 32) (bitF S) (S 0) (S 1) t (S 33) (-1) wa, MO G b3 (vwn (gosF (-1) S 1) 2 6) tk_3 (cpO 6 os os3) (vwn (gosF (-1) S 1) 14 6) (vwn (gosF (-1) S 1) 20 6) (vwn (gosF (-1) S 1) 26 6) (vwn (gosF (-1) S 1) 51 24) le_4 ((gosF (-1) S 1) 32) (bitF (gosF (-1) S 1)) ((gosF (-1) S 1) 0) ((gosF (-1) S 1) 1) t ((gosF (-1) S 1) 33) (-1) (raF (-1) S (nI 0) 1)])) hC ct_X11_219 (m_J6_bitCount_0f7a4 G ro i (by omega)) (by omega) rfl rfl (Nat.le_of_ble_eq_true rfl) (List.Perm.refl _) dX11_watch_48 (by omega) (by omega) ?_
              rintro _ _ _ ⟨rfl, rfl, rfl⟩
              refine ev_ws (List.nil_append _) ?_
              show Ev G X 0 0 51 [(0, .ref x), (1, .int (nI kk)), (2, .int (nI 0)), (3, .ref (b3 0)), (4, .int g), (5, .int m), (6, .int (nI i))] [.int (nI (szF i 6))] (List.flatten [SP x r1 r2 r3 r4 r5 d b1 b2 b3 hi, MO G b1 (vwn S 2 6) tk os (vwn S 14 6) (vwn S 20 6) (vwn S 26 6) (vwn S 51 24) le (S 32) (bitF S) (S 0) (S 1) t (S 33) (-1) wa, MO G b3 (vwn (gosF (-1) S 1) 2 6) tk_3 (cpO 6 os os3) (vwn (gosF (-1) S 1) 14 6) (vwn (gosF (-1) S 1) 20 6) (vwn (gosF (-1) S 1) 26 6) (vwn (gosF (-1) S 1) 51 24) le_4 ((gosF (-1) S 1) 32) (bitF (gosF (-1) S 1)) ((gosF (-1) S 1) 0) ((gosF (-1) S 1) 1) t ((gosF (-1) S 1) 33) (-1) (raF (-1) S (nI 0) 1)]) ro
              refine ev_iload_n hC dX11_watch_51 rfl 1 rfl ?_
              refine ev_icmp_neN (tgt := 64) hC dX11_watch_52 (by decide) (by omega) (by omega) (fun c_9 => ?_) (fun c_9 => ?_)
              · refine ev_iconst (v := (-1)) hC dX11_watch_64 (by decide) ?_
                refine ev_istore (lv' := [(7, .int (-1)), (0, .ref x), (1, .int (nI kk)), (2, .int (nI 0)), (3, .ref (b3 0)), (4, .int g), (5, .int m), (6, .int (nI i))]) hC dX11_watch_65 (by decide) rfl ?_
                refine ev_iload hC dX11_watch_67 0 rfl ?_
                refine ev_iload hC dX11_watch_69 6 rfl ?_
                refine ev_icmp_le (tgt := 82) hC dX11_watch_71 (by decide) (fun c_10 => ?_) (fun c_10 => absurd c_10 (fun z => z hng))
                refine ev_iinc (v := (nI (i + 1))) (lv' := [(6, .int (nI (i + 1))), (7, .int (-1)), (0, .ref x), (1, .int (nI kk)), (2, .int (nI 0)), (3, .ref (b3 0)), (4, .int g), (5, .int m)]) hC dX11_watch_82 (q := 7) rfl (nI_k _ _ 1 (by decide)) (by decide) rfl ?_
                refine ev_goto (tgt := 39) hC dX11_watch_85 (by decide) ?_
                refine ev_lv [2, 3, 4, 5, 6, 7, 0] rfl ?_
                exact ih (i + 1) g m (by omega) (by first | exact watF_n hb (by assumption) | exact watF_t hb (by assumption) (by assumption) | exact watF_f hb (by assumption) | exact watF_m hb (by assumption)) (by omega)
              · refine ev_aload_n hC dX11_watch_55 rfl 3 rfl ?_
                refine ev_iload hC dX11_watch_56 6 rfl ?_
                refine ev_callV (As := [.int (nI i)]) (st := []) (wf := (List.flatten [SP x r1 r2 r3 r4 r5 d b1 b2 b3 hi, MO G b1 (vwn S 2 6) tk os (vwn S 14 6) (vwn S 20 6) (vwn S 26 6) (vwn S 51 24) le (S 32) (bitF S) (S 0) (S 1) t (S 33) (-1) wa])) hC cv_X11_224 (m_X3_takenFrom G ro b3 (gosF (-1) S 1) tk_3 le_4 (cpO 6 os os3) t (r5 0) (-1) (raF (-1) S (nI 0) 1) i ((gosF_wf (-1) hW 1 (by omega) (by omega)).1) (by omega)) (by omega) rfl rfl (Nat.le_of_ble_eq_true rfl) (perm_sg (n := 3) [2, 0, 1] rfl rfl (by decide)) (mw 10 rfl) rfl dX11_watch_58 (by omega) (by omega) ?_
                rintro _ _ _ ⟨rfl, rfl, rfl⟩
                show Ev G X 0 0 61 [(0, .ref x), (1, .int (nI kk)), (2, .int (nI 0)), (3, .ref (b3 0)), (4, .int g), (5, .int m), (6, .int (nI i))] [.int (atF tk_3 i 6)] (List.flatten [MO G b3 (vwn (gosF (-1) S 1) 2 6) tk_3 (cpO 6 os os3) (vwn (gosF (-1) S 1) 14 6) (vwn (gosF (-1) S 1) 20 6) (vwn (gosF (-1) S 1) 26 6) (vwn (gosF (-1) S 1) 51 24) le_4 ((gosF (-1) S 1) 32) (bitF (gosF (-1) S 1)) ((gosF (-1) S 1) 0) ((gosF (-1) S 1) 1) t ((gosF (-1) S 1) 33) (-1) (raF (-1) S (nI 0) 1), SP x r1 r2 r3 r4 r5 d b1 b2 b3 hi, MO G b1 (vwn S 2 6) tk os (vwn S 14 6) (vwn S 20 6) (vwn S 26 6) (vwn S 51 24) le (S 32) (bitF S) (S 0) (S 1) t (S 33) (-1) wa]) ro
                refine ev_perm (ws' := (List.flatten [SP x r1 r2 r3 r4 r5 d b1 b2 b3 hi, MO G b1 (vwn S 2 6) tk os (vwn S 14 6) (vwn S 20 6) (vwn S 26 6) (vwn S 51 24) le (S 32) (bitF S) (S 0) (S 1) t (S 33) (-1) wa, MO G b3 (vwn (gosF (-1) S 1) 2 6) tk_3 (cpO 6 os os3) (vwn (gosF (-1) S 1) 14 6) (vwn (gosF (-1) S 1) 20 6) (vwn (gosF (-1) S 1) 26 6) (vwn (gosF (-1) S 1) 51 24) le_4 ((gosF (-1) S 1) 32) (bitF (gosF (-1) S 1)) ((gosF (-1) S 1) 0) ((gosF (-1) S 1) 1) t ((gosF (-1) S 1) 33) (-1) (raF (-1) S (nI 0) 1)])) (perm_sg2 (n := 3) [1, 2, 0] rfl rfl (by decide)) ?_
                refine ev_goto (tgt := 65) hC dX11_watch_61 (by decide) ?_
                refine ev_top (y := (atF (tknF S) i 6)) (atF_congr i 6 (hK_5 rfl)) ?_
                refine ev_istore (lv' := [(7, .int (atF (tknF S) i 6)), (0, .ref x), (1, .int (nI kk)), (2, .int (nI 0)), (3, .ref (b3 0)), (4, .int g), (5, .int m), (6, .int (nI i))]) hC dX11_watch_65 (by decide) rfl ?_
                refine ev_iload hC dX11_watch_67 0 rfl ?_
                refine ev_iload hC dX11_watch_69 6 rfl ?_
                refine ev_icmp_le (tgt := 82) hC dX11_watch_71 (by decide) (fun c_11 => ?_) (fun c_11 => ?_)
                · refine ev_iinc (v := (nI (i + 1))) (lv' := [(6, .int (nI (i + 1))), (7, .int (atF (tknF S) i 6)), (0, .ref x), (1, .int (nI kk)), (2, .int (nI 0)), (3, .ref (b3 0)), (4, .int g), (5, .int m)]) hC dX11_watch_82 (q := 7) rfl (nI_k _ _ 1 (by decide)) (by decide) rfl ?_
                  refine ev_goto (tgt := 39) hC dX11_watch_85 (by decide) ?_
                  refine ev_lv [2, 3, 4, 5, 6, 7, 0] rfl ?_
                  exact ih (i + 1) g m (by omega) (by first | exact watF_n hb (by assumption) | exact watF_t hb (by assumption) (by assumption) | exact watF_f hb (by assumption) | exact watF_m hb (by assumption)) (by omega)
                · refine ev_iload hC dX11_watch_74 0 rfl ?_
                  refine ev_istore (lv' := [(5, .int (atF (tknF S) i 6)), (7, .int (atF (tknF S) i 6)), (0, .ref x), (1, .int (nI kk)), (2, .int (nI 0)), (3, .ref (b3 0)), (4, .int g), (6, .int (nI i))]) hC dX11_watch_76 (by decide) rfl ?_
                  refine ev_iload hC dX11_watch_78 7 rfl ?_
                  refine ev_istore (lv' := [(4, .int (nI i)), (5, .int (atF (tknF S) i 6)), (7, .int (atF (tknF S) i 6)), (0, .ref x), (1, .int (nI kk)), (2, .int (nI 0)), (3, .ref (b3 0)), (6, .int (nI i))]) hC dX11_watch_80 (by decide) rfl ?_
                  refine ev_iinc (v := (nI (i + 1))) (lv' := [(6, .int (nI (i + 1))), (4, .int (nI i)), (5, .int (atF (tknF S) i 6)), (7, .int (atF (tknF S) i 6)), (0, .ref x), (1, .int (nI kk)), (2, .int (nI 0)), (3, .ref (b3 0))]) hC dX11_watch_82 (q := 7) rfl (nI_k _ _ 1 (by decide)) (by decide) rfl ?_
                  refine ev_goto (tgt := 39) hC dX11_watch_85 (by decide) ?_
                  refine ev_lv [4, 5, 6, 7, 1, 2, 0] rfl ?_
                  exact ih (i + 1) (nI i) (atF (tknF S) i 6) (by omega) (by first | exact watF_n hb (by assumption) | exact watF_t hb (by assumption) (by assumption) | exact watF_f hb (by assumption) | exact watF_m hb (by assumption)) (by omega)
        refine ev_lv [4, 5, 6, 3, 2, 1, 0] rfl ?_
        exact lp_39 (64 - 0 + 1) 0 (nI 0) (-1) (by omega) rfl (Nat.lt_succ_self _)
      · refine ev_bipush (v := (-2)) hC dX11_watch_21 (by decide) ?_
        refine ev_iret hC hR rfl dX11_watch_23 ?_
        have er : watchR S y (nI 0) = (-2) := by rw [watchR, if_pos (by assumption), if_neg (by assumption)]
        exact ⟨_, _, _, _, _, _, _, by rw [er], rfl, rfl⟩
    · refine ev_iload_n hC dX11_watch_11 rfl 1 rfl ?_
      refine ev_iconst (v := (nI 1)) hC dX11_watch_12 (by decide) ?_
      refine ev_bipush (v := (nI 6)) hC dX11_watch_13 (by decide) ?_
      refine ev_callS (As := [.int y, .int (nI 1), .int (nI 6)]) (st := []) (wc := []) (wf := (List.flatten [SP x r1 r2 r3 r4 r5 d b1 b2 b3 hi, MO G b1 (vwn S 2 6) tk os (vwn S 14 6) (vwn S 20 6) (vwn S 26 6) (vwn S 51 24) le (S 32) (bitF S) (S 0) (S 1) t (S 33) (-1) wa, MO G b3 (vwn T 2 6) tk3 os3 (vwn T 14 6) (vwn T 20 6) (vwn T 26 6) (vwn T 51 24) le3 (T 32) (bitF T) (T 0) (T 1) t3 (T 33) st3 wa3])) hC ct_X11_68 (m_X11_isWithin G ro y (nI 1) (nI 6)) (by omega) rfl rfl (Nat.le_of_ble_eq_true rfl) (List.Perm.refl _) dX11_watch_15 (by omega) (by omega) ?_
      rintro _ _ _ ⟨rfl, rfl, rfl⟩
      refine ev_ws (List.nil_append _) ?_
      show Ev G X 0 0 18 [(0, .ref x), (1, .int y), (2, .int (nI 1))] [.int (bI ((nI 1) ≤ y ∧ y ≤ (nI 6)))] (List.flatten [SP x r1 r2 r3 r4 r5 d b1 b2 b3 hi, MO G b1 (vwn S 2 6) tk os (vwn S 14 6) (vwn S 20 6) (vwn S 26 6) (vwn S 51 24) le (S 32) (bitF S) (S 0) (S 1) t (S 33) (-1) wa, MO G b3 (vwn T 2 6) tk3 os3 (vwn T 14 6) (vwn T 20 6) (vwn T 26 6) (vwn T 51 24) le3 (T 32) (bitF T) (T 0) (T 1) t3 (T 33) st3 wa3]) ro
      refine ev_if_neB (tgt := 24) hC dX11_watch_18 (by decide) (fun c_12 => ?_) (fun c_12 => ?_)
      · obtain ⟨kk, hkk, rfl⟩ := inN (m := 6) (by omega) ⟨Int32.le_trans (by decide) (And.left (by assumption : nI 1 ≤ y ∧ y ≤ nI 6)), And.right (by assumption : nI 1 ≤ y ∧ y ≤ nI 6)⟩
        have hpn_kk : pn (nI kk) = kk := nI_clamp (by omega)
        have h1_kk : 1 ≤ kk := (nI_leI (by omega) (by omega)).mp (And.left (by assumption : nI 1 ≤ nI kk ∧ nI kk ≤ nI 6))
        refine ev_aload_n hC dX11_watch_24 rfl 0 rfl ?_
        refine ev_iconst (v := (nI 1)) hC dX11_watch_25 (by decide) ?_
        refine ev_callV (As := [.int (nI 1)]) (st := []) (wf := (List.flatten [])) hC cv_X11_188 (m_X11_after G ro x r1 r2 r3 r4 r5 d b1 b2 b3 hi S tk le T tk3 le3 os os3 t t3 wa st3 wa3 1 hW hO (by omega) (by omega) (by omega)) (by omega) rfl rfl (Nat.le_of_ble_eq_true rfl) (perm_sg (n := 3) [0, 1, 2] rfl rfl (by decide)) (mw 0 rfl) rfl dX11_watch_26 (by omega) (by omega) ?_
        rintro _ _ _ ⟨tk_13, le_14, hK_15, rfl, rfl, rfl⟩
        show Ev G X 0 0 29 [(0, .ref x), (1, .int (nI kk)), (2, .int (nI 1))] [.ref (b3 0)] (List.flatten [SP x r1 r2 r3 r4 r5 d b1 b2 b3 hi, MO G b1 (vwn S 2 6) tk os (vwn S 14 6) (vwn S 20 6) (vwn S 26 6) (vwn S 51 24) le (S 32) (bitF S) (S 0) (S 1) t (S 33) (-1) wa, MO G b3 (vwn (gosF (-1) S 1) 2 6) tk_13 (cpO 6 os os3) (vwn (gosF (-1) S 1) 14 6) (vwn (gosF (-1) S 1) 20 6) (vwn (gosF (-1) S 1) 26 6) (vwn (gosF (-1) S 1) 51 24) le_14 ((gosF (-1) S 1) 32) (bitF (gosF (-1) S 1)) ((gosF (-1) S 1) 0) ((gosF (-1) S 1) 1) t ((gosF (-1) S 1) 33) (-1) (raF (-1) S (nI 0) 1)]) ro
        have hO_16 := hO.os hW (os' := cpO 6 os os3) (fun p hp => if_pos hp)
        refine ev_astore_n (lv' := [(3, .ref (b3 0)), (0, .ref x), (1, .int (nI kk)), (2, .int (nI 1))]) hC dX11_watch_29 rfl (by decide) rfl ?_
        refine ev_iconst (v := (nI 0)) hC dX11_watch_30 (by decide) ?_
        refine ev_istore (lv' := [(4, .int (nI 0)), (3, .ref (b3 0)), (0, .ref x), (1, .int (nI kk)), (2, .int (nI 1))]) hC dX11_watch_31 (by decide) rfl ?_
        refine ev_iconst (v := (-1)) hC dX11_watch_33 (by decide) ?_
        refine ev_istore (lv' := [(5, .int (-1)), (4, .int (nI 0)), (3, .ref (b3 0)), (0, .ref x), (1, .int (nI kk)), (2, .int (nI 1))]) hC dX11_watch_34 (by decide) rfl ?_
        refine ev_iconst (v := (nI 0)) hC dX11_watch_36 (by decide) ?_
        refine ev_istore (lv' := [(6, .int (nI 0)), (5, .int (-1)), (4, .int (nI 0)), (3, .ref (b3 0)), (0, .ref x), (1, .int (nI kk)), (2, .int (nI 1))]) hC dX11_watch_37 (by decide) rfl ?_
        have lp_39 : ∀ (fu_39 : Nat) (i : Nat) (g : Int32) (m : Int32) (hii : i ≤ 64) (hb : watF S kk i = (g, m)) (hn : 64 - i < fu_39), Ev G X 0 0 39 [(0, .ref x), (1, .int (nI kk)), (2, .int (nI 1)), (3, .ref (b3 0)), (4, .int g), (5, .int m), (6, .int (nI i))] [] (List.flatten [SP x r1 r2 r3 r4 r5 d b1 b2 b3 hi, MO G b1 (vwn S 2 6) tk os (vwn S 14 6) (vwn S 20 6) (vwn S 26 6) (vwn S 51 24) le (S 32) (bitF S) (S 0) (S 1) t (S 33) (-1) wa, MO G b3 (vwn (gosF (-1) S 1) 2 6) tk_13 (cpO 6 os os3) (vwn (gosF (-1) S 1) 14 6) (vwn (gosF (-1) S 1) 20 6) (vwn (gosF (-1) S 1) 26 6) (vwn (gosF (-1) S 1) 51 24) le_14 ((gosF (-1) S 1) 32) (bitF (gosF (-1) S 1)) ((gosF (-1) S 1) 0) ((gosF (-1) S 1) 1) t ((gosF (-1) S 1) 33) (-1) (raF (-1) S (nI 0) 1)]) ro := by
          intro fu_39
          induction fu_39 with
          | zero => intro i g m hii hb hn; exact absurd hn (Nat.not_lt_zero _)
          | succ fu_39 ih =>
            intro i g m hii hb hn
            refine ev_iload hC dX11_watch_39 6 rfl ?_
            refine ev_bipush (v := (nI 64)) hC dX11_watch_41 (by decide) ?_
            refine ev_icmp_geN (tgt := 88) hC dX11_watch_43 (by decide) (by omega) (by omega) (fun c_17 => ?_) (fun c_17 => ?_)
            · refine ev_iload_n hC dX11_watch_88 rfl 2 rfl ?_
              refine ev_if_neN (tgt := 97) hC dX11_watch_89 (by decide) (by omega) (fun c_18 => ?_) (fun c_18 => absurd c_18 (by omega))
              refine ev_iload hC dX11_watch_97 5 rfl ?_
              refine ev_iret hC hR rfl dX11_watch_99 ?_
              obtain rfl : i = 64 := by omega
              have er : watchR S (nI kk) (nI 1) = m := by rw [watchR, if_pos (by assumption), if_pos (by assumption), hpn_kk, hb, if_neg (by decide)]
              exact ⟨_, _, _, _, _, _, _, by rw [er], rfl, rfl⟩
            · refine ev_iload hC dX11_watch_46 6 rfl ?_
              have hng := watF_ng hb
              have hsz := szF_le i 6
              refine ev_callS (As := [.int (nI i)]) (st := []) (wc := []) (wf := (List.flatten [SP x r1 r2 r3 r4 r5 d b1 b2 b3 hi, MO G b1 (vwn S 2 6) tk os (vwn S 14 6) (vwn S 20 6) (vwn S 26 6) (vwn S 51 24) le (S 32) (bitF S) (S 0) (S 1) t (S 33) (-1) wa, MO G b3 (vwn (gosF (-1) S 1) 2 6) tk_13 (cpO 6 os os3) (vwn (gosF (-1) S 1) 14 6) (vwn (gosF (-1) S 1) 20 6) (vwn (gosF (-1) S 1) 26 6) (vwn (gosF (-1) S 1) 51 24) le_14 ((gosF (-1) S 1) 32) (bitF (gosF (-1) S 1)) ((gosF (-1) S 1) 0) ((gosF (-1) S 1) 1) t ((gosF (-1) S 1) 33) (-1) (raF (-1) S (nI 0) 1)])) hC ct_X11_219 (m_J6_bitCount_0f7a4 G ro i (by omega)) (by omega) rfl rfl (Nat.le_of_ble_eq_true rfl) (List.Perm.refl _) dX11_watch_48 (by omega) (by omega) ?_
              rintro _ _ _ ⟨rfl, rfl, rfl⟩
              refine ev_ws (List.nil_append _) ?_
              show Ev G X 0 0 51 [(0, .ref x), (1, .int (nI kk)), (2, .int (nI 1)), (3, .ref (b3 0)), (4, .int g), (5, .int m), (6, .int (nI i))] [.int (nI (szF i 6))] (List.flatten [SP x r1 r2 r3 r4 r5 d b1 b2 b3 hi, MO G b1 (vwn S 2 6) tk os (vwn S 14 6) (vwn S 20 6) (vwn S 26 6) (vwn S 51 24) le (S 32) (bitF S) (S 0) (S 1) t (S 33) (-1) wa, MO G b3 (vwn (gosF (-1) S 1) 2 6) tk_13 (cpO 6 os os3) (vwn (gosF (-1) S 1) 14 6) (vwn (gosF (-1) S 1) 20 6) (vwn (gosF (-1) S 1) 26 6) (vwn (gosF (-1) S 1) 51 24) le_14 ((gosF (-1) S 1) 32) (bitF (gosF (-1) S 1)) ((gosF (-1) S 1) 0) ((gosF (-1) S 1) 1) t ((gosF (-1) S 1) 33) (-1) (raF (-1) S (nI 0) 1)]) ro
              refine ev_iload_n hC dX11_watch_51 rfl 1 rfl ?_
              refine ev_icmp_neN (tgt := 64) hC dX11_watch_52 (by decide) (by omega) (by omega) (fun c_19 => ?_) (fun c_19 => ?_)
              · refine ev_iconst (v := (-1)) hC dX11_watch_64 (by decide) ?_
                refine ev_istore (lv' := [(7, .int (-1)), (0, .ref x), (1, .int (nI kk)), (2, .int (nI 1)), (3, .ref (b3 0)), (4, .int g), (5, .int m), (6, .int (nI i))]) hC dX11_watch_65 (by decide) rfl ?_
                refine ev_iload hC dX11_watch_67 0 rfl ?_
                refine ev_iload hC dX11_watch_69 6 rfl ?_
                refine ev_icmp_le (tgt := 82) hC dX11_watch_71 (by decide) (fun c_20 => ?_) (fun c_20 => absurd c_20 (fun z => z hng))
                refine ev_iinc (v := (nI (i + 1))) (lv' := [(6, .int (nI (i + 1))), (7, .int (-1)), (0, .ref x), (1, .int (nI kk)), (2, .int (nI 1)), (3, .ref (b3 0)), (4, .int g), (5, .int m)]) hC dX11_watch_82 (q := 7) rfl (nI_k _ _ 1 (by decide)) (by decide) rfl ?_
                refine ev_goto (tgt := 39) hC dX11_watch_85 (by decide) ?_
                refine ev_lv [2, 3, 4, 5, 6, 7, 0] rfl ?_
                exact ih (i + 1) g m (by omega) (by first | exact watF_n hb (by assumption) | exact watF_t hb (by assumption) (by assumption) | exact watF_f hb (by assumption) | exact watF_m hb (by assumption)) (by omega)
              · refine ev_aload_n hC dX11_watch_55 rfl 3 rfl ?_
                refine ev_iload hC dX11_watch_56 6 rfl ?_
                refine ev_callV (As := [.int (nI i)]) (st := []) (wf := (List.flatten [SP x r1 r2 r3 r4 r5 d b1 b2 b3 hi, MO G b1 (vwn S 2 6) tk os (vwn S 14 6) (vwn S 20 6) (vwn S 26 6) (vwn S 51 24) le (S 32) (bitF S) (S 0) (S 1) t (S 33) (-1) wa])) hC cv_X11_224 (m_X3_takenFrom G ro b3 (gosF (-1) S 1) tk_13 le_14 (cpO 6 os os3) t (r5 0) (-1) (raF (-1) S (nI 0) 1) i ((gosF_wf (-1) hW 1 (by omega) (by omega)).1) (by omega)) (by omega) rfl rfl (Nat.le_of_ble_eq_true rfl) (perm_sg (n := 3) [2, 0, 1] rfl rfl (by decide)) (mw 10 rfl) rfl dX11_watch_58 (by omega) (by omega) ?_
                rintro _ _ _ ⟨rfl, rfl, rfl⟩
                show Ev G X 0 0 61 [(0, .ref x), (1, .int (nI kk)), (2, .int (nI 1)), (3, .ref (b3 0)), (4, .int g), (5, .int m), (6, .int (nI i))] [.int (atF tk_13 i 6)] (List.flatten [MO G b3 (vwn (gosF (-1) S 1) 2 6) tk_13 (cpO 6 os os3) (vwn (gosF (-1) S 1) 14 6) (vwn (gosF (-1) S 1) 20 6) (vwn (gosF (-1) S 1) 26 6) (vwn (gosF (-1) S 1) 51 24) le_14 ((gosF (-1) S 1) 32) (bitF (gosF (-1) S 1)) ((gosF (-1) S 1) 0) ((gosF (-1) S 1) 1) t ((gosF (-1) S 1) 33) (-1) (raF (-1) S (nI 0) 1), SP x r1 r2 r3 r4 r5 d b1 b2 b3 hi, MO G b1 (vwn S 2 6) tk os (vwn S 14 6) (vwn S 20 6) (vwn S 26 6) (vwn S 51 24) le (S 32) (bitF S) (S 0) (S 1) t (S 33) (-1) wa]) ro
                refine ev_perm (ws' := (List.flatten [SP x r1 r2 r3 r4 r5 d b1 b2 b3 hi, MO G b1 (vwn S 2 6) tk os (vwn S 14 6) (vwn S 20 6) (vwn S 26 6) (vwn S 51 24) le (S 32) (bitF S) (S 0) (S 1) t (S 33) (-1) wa, MO G b3 (vwn (gosF (-1) S 1) 2 6) tk_13 (cpO 6 os os3) (vwn (gosF (-1) S 1) 14 6) (vwn (gosF (-1) S 1) 20 6) (vwn (gosF (-1) S 1) 26 6) (vwn (gosF (-1) S 1) 51 24) le_14 ((gosF (-1) S 1) 32) (bitF (gosF (-1) S 1)) ((gosF (-1) S 1) 0) ((gosF (-1) S 1) 1) t ((gosF (-1) S 1) 33) (-1) (raF (-1) S (nI 0) 1)])) (perm_sg2 (n := 3) [1, 2, 0] rfl rfl (by decide)) ?_
                refine ev_goto (tgt := 65) hC dX11_watch_61 (by decide) ?_
                refine ev_top (y := (atF (tknF S) i 6)) (atF_congr i 6 (hK_15 rfl)) ?_
                refine ev_istore (lv' := [(7, .int (atF (tknF S) i 6)), (0, .ref x), (1, .int (nI kk)), (2, .int (nI 1)), (3, .ref (b3 0)), (4, .int g), (5, .int m), (6, .int (nI i))]) hC dX11_watch_65 (by decide) rfl ?_
                refine ev_iload hC dX11_watch_67 0 rfl ?_
                refine ev_iload hC dX11_watch_69 6 rfl ?_
                refine ev_icmp_le (tgt := 82) hC dX11_watch_71 (by decide) (fun c_21 => ?_) (fun c_21 => ?_)
                · refine ev_iinc (v := (nI (i + 1))) (lv' := [(6, .int (nI (i + 1))), (7, .int (atF (tknF S) i 6)), (0, .ref x), (1, .int (nI kk)), (2, .int (nI 1)), (3, .ref (b3 0)), (4, .int g), (5, .int m)]) hC dX11_watch_82 (q := 7) rfl (nI_k _ _ 1 (by decide)) (by decide) rfl ?_
                  refine ev_goto (tgt := 39) hC dX11_watch_85 (by decide) ?_
                  refine ev_lv [2, 3, 4, 5, 6, 7, 0] rfl ?_
                  exact ih (i + 1) g m (by omega) (by first | exact watF_n hb (by assumption) | exact watF_t hb (by assumption) (by assumption) | exact watF_f hb (by assumption) | exact watF_m hb (by assumption)) (by omega)
                · refine ev_iload hC dX11_watch_74 0 rfl ?_
                  refine ev_istore (lv' := [(5, .int (atF (tknF S) i 6)), (7, .int (atF (tknF S) i 6)), (0, .ref x), (1, .int (nI kk)), (2, .int (nI 1)), (3, .ref (b3 0)), (4, .int g), (6, .int (nI i))]) hC dX11_watch_76 (by decide) rfl ?_
                  refine ev_iload hC dX11_watch_78 7 rfl ?_
                  refine ev_istore (lv' := [(4, .int (nI i)), (5, .int (atF (tknF S) i 6)), (7, .int (atF (tknF S) i 6)), (0, .ref x), (1, .int (nI kk)), (2, .int (nI 1)), (3, .ref (b3 0)), (6, .int (nI i))]) hC dX11_watch_80 (by decide) rfl ?_
                  refine ev_iinc (v := (nI (i + 1))) (lv' := [(6, .int (nI (i + 1))), (4, .int (nI i)), (5, .int (atF (tknF S) i 6)), (7, .int (atF (tknF S) i 6)), (0, .ref x), (1, .int (nI kk)), (2, .int (nI 1)), (3, .ref (b3 0))]) hC dX11_watch_82 (q := 7) rfl (nI_k _ _ 1 (by decide)) (by decide) rfl ?_
                  refine ev_goto (tgt := 39) hC dX11_watch_85 (by decide) ?_
                  refine ev_lv [4, 5, 6, 7, 1, 2, 0] rfl ?_
                  exact ih (i + 1) (nI i) (atF (tknF S) i 6) (by omega) (by first | exact watF_n hb (by assumption) | exact watF_t hb (by assumption) (by assumption) | exact watF_f hb (by assumption) | exact watF_m hb (by assumption)) (by omega)
        refine ev_lv [4, 5, 6, 3, 2, 1, 0] rfl ?_
        exact lp_39 (64 - 0 + 1) 0 (nI 0) (-1) (by omega) rfl (Nat.lt_succ_self _)
      · refine ev_bipush (v := (-2)) hC dX11_watch_21 (by decide) ?_
        refine ev_iret hC hR rfl dX11_watch_23 ?_
        have er : watchR S y (nI 1) = (-2) := by rw [watchR, if_pos (by assumption), if_neg (by assumption)]
        exact ⟨_, _, _, _, _, _, _, by rw [er], rfl, rfl⟩
  · refine ev_iconst (v := (-1)) hC dX11_watch_9 (by decide) ?_
    refine ev_iret hC hR rfl dX11_watch_10 ?_
    have er : watchR S y w = (-1) := by rw [watchR, if_neg (by assumption)]
    exact ⟨_, _, _, _, _, _, _, by rw [er], rfl, rfl⟩
