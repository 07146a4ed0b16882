set_option maxHeartbeats 4000000 in
set_option maxRecDepth 100000 in
theorem m_X6_accept (G : GG) (ro : va_W) (d : Nat → Nat) (sg am en sp Y : Nat → Int32) (ju sd rn nd : Int32) (e p : Nat) (c : Nat) (hG : RdOK sg Y e) (hp : p ≤ e) (hc : c < 2 ^ 31) : Mth G M_X6_accept 0 0 0 [.ref (d 0), .int (nI c)] (RD G d sg am en sp (nI e) (nI p) ju sd rn nd) ro (fun r ws' ro' => ∃ (v' : Int32), ∃ (p' : Nat), ((v' = nI 1 ∧ p + 1 = p' ∧ hrF Y e p = nI c) ∨ (v' = nI 0 ∧ p = p' ∧ ¬ hrF Y e p = nI c)) ∧ r = some (.int v') ∧ ws' = (RD G d sg am en sp (nI e) (nI p') ju sd rn nd) ∧ ro = ro') := by
  refine mth_of (by decide +kernel) (Nat.le_of_ble_eq_true rfl) (fun X hC hR => ?_)
  have he := hG.1.1
  show Ev G X 0 0 0 [(0, .ref (d 0)), (1, .int (nI c))] [] (RD G d sg am en sp (nI e) (nI p) ju sd rn nd) ro
  refine ev_aload_n hC dX6_accept_0 rfl 0 rfl ?_
  refine ev_get hC fl_X6_28_6 (mw 0 rfl) rfl dX6_accept_1 ?_
  refine ev_aload_n hC dX6_accept_4 rfl 0 rfl ?_
  refine ev_get hC fl_X6_24_6 (mw 0 rfl) rfl dX6_accept_5 ?_
  refine ev_icmp_geN (tgt := 33) hC dX6_accept_8 (by decide) (by omega) (by omega) (fun c_1 => ?_) (fun c_1 => ?_)
  · refine ev_iconst (v := (nI 0)) hC dX6_accept_33 (by decide) ?_
    refine ev_zret hC hR rfl (by rfl) dX6_accept_34 ?_
    exact ⟨_, _, Or.inr ⟨rfl, rfl, by first | assumption | exact fun z => by have := (hr_lt (by omega) z).1; omega⟩, rfl, rfl, rfl⟩
  · refine ev_aload_n hC dX6_accept_11 rfl 0 rfl ?_
    refine ev_get hC fl_X6_28_6 (mw 0 rfl) rfl dX6_accept_12 ?_
    refine ev_bipush (v := (nI 100)) hC dX6_accept_15 (by decide) ?_
    refine ev_icmp_geN (tgt := 33) hC dX6_accept_17 (by decide) (by omega) (by omega) (fun c_2 => absurd c_2 (by omega)) (fun c_2 => ?_)
    refine ev_aload_n hC dX6_accept_20 rfl 0 rfl ?_
    refine ev_get hC fl_X6_9_6 (mw 0 rfl) rfl dX6_accept_21 ?_
    refine ev_aload_n hC dX6_accept_24 rfl 0 rfl ?_
    refine ev_get hC fl_X6_28_6 (mw 0 rfl) rfl dX6_accept_25 ?_
    refine ev_ialdN (i := p) hC (mw 1 rfl) (by omega) (by omega) dX6_accept_28 ?_
    refine ev_top (y := (hrF Y e p)) ((hG.2 p (by omega)).trans (if_pos (by omega)).symm) ?_
    refine ev_iload_n hC dX6_accept_29 rfl 1 rfl ?_
    refine ev_icmp_eq (tgt := 35) hC dX6_accept_30 (by decide) (fun c_3 => ?_) (fun c_3 => ?_)
    · refine ev_aload_n hC dX6_accept_35 rfl 0 rfl ?_
      refine ev_dup hC dX6_accept_36 rfl ?_
      refine ev_get hC fl_X6_28_6 (mw 0 rfl) rfl dX6_accept_37 ?_
      refine ev_iconst (v := (nI 1)) hC dX6_accept_40 (by decide) ?_
      refine ev_iadd hC dX6_accept_41 ?_
      refine ev_top (y := (nI (p + 1))) ((nI_add _ _).trans (congrArg nI (by omega))) ?_
      refine ev_put (ws' := (RD G d sg am en sp (nI e) (nI (p + 1)) ju sd rn nd)) (q0 := 0) hC fp_X6_28_6 rfl (Nat.le_of_ble_eq_true rfl) rfl rfl rfl dX6_accept_42 ?_
      refine ev_iconst (v := (nI 1)) hC dX6_accept_45 (by decide) ?_
      refine ev_zret hC hR rfl (by rfl) dX6_accept_46 ?_
      exact ⟨_, _, Or.inl ⟨rfl, rfl, by assumption⟩, rfl, rfl, rfl⟩
    · refine ev_iconst (v := (nI 0)) hC dX6_accept_33 (by decide) ?_
      refine ev_zret hC hR rfl (by rfl) dX6_accept_34 ?_
      exact ⟨_, _, Or.inr ⟨rfl, rfl, by first | assumption | exact fun z => by have := (hr_lt (by omega) z).1; omega⟩, rfl, rfl, rfl⟩

set_option maxHeartbeats 4000000 in
set_option maxRecDepth 100000 in
theorem m_X6_choice (G : GG) (ro : va_W) (d : Nat → Nat) (sg am en sp Y : Nat → Int32) (ju sd rn nd : Int32) (e p : Nat) (k : Nat) (hG : RdOK sg Y e) (hp : p ≤ e) (hk : k < 12) : Mth G M_X6_choice 4 0 0 [.ref (d 0), .ref (gK G k)] (RD G d sg am en sp (nI e) (nI p) ju sd rn nd) ro (fun r ws' ro' => ∃ (v' : Int32), ∃ (p' : Nat), ((∃ j, fndF k (hrF Y e p) (strLen.getD k 0) 0 = some j ∧ v' = nI j ∧ p + 1 = p') ∨ (fndF k (hrF Y e p) (strLen.getD k 0) 0 = none ∧ v' = -1 ∧ p = p')) ∧ r = some (.int v') ∧ ws' = (RD G d sg am en sp (nI e) (nI p') ju sd rn nd) ∧ ro = ro') := by
  refine mth_of (by decide +kernel) (Nat.le_of_ble_eq_true rfl) (fun X hC hR => ?_)
  have he := hG.1.1
  have hlen := strLen_le k hk
  have hl := strPos k hk
  show Ev G X 0 0 0 [(0, .ref (d 0)), (1, .ref (gK G k))] [] (RD G d sg am en sp (nI e) (nI p) ju sd rn nd) ro
  refine ev_aload_n hC dX6_choice_0 rfl 0 rfl ?_
  refine ev_get hC fl_X6_28_6 (mw 0 rfl) rfl dX6_choice_1 ?_
  refine ev_aload_n hC dX6_choice_4 rfl 0 rfl ?_
  refine ev_get hC fl_X6_24_6 (mw 0 rfl) rfl dX6_choice_5 ?_
  refine ev_icmp_geN (tgt := 37) hC dX6_choice_8 (by decide) (by omega) (by omega) (fun c_1 => ?_) (fun c_1 => ?_)
  · refine ev_iconst (v := (-1)) hC dX6_choice_37 (by decide) ?_
    refine ev_istore_n (lv' := [(2, .int (-1)), (0, .ref (d 0)), (1, .ref (gK G k))]) hC dX6_choice_38 rfl (by decide) rfl ?_
    refine ev_iload_n hC dX6_choice_39 rfl 0 rfl ?_
    refine ev_if_lt (tgt := 53) hC dX6_choice_40 (by decide) (fun c_2 => ?_) (fun c_2 => absurd c_2 (by decide))
    refine ev_iload_n hC dX6_choice_53 rfl 0 rfl ?_
    refine ev_iret hC hR rfl dX6_choice_54 ?_
    exact ⟨_, _, Or.inr ⟨by rw [show hrF Y e p = -1 from if_neg (by omega)]; exact fnd_neg hk (by omega), rfl, rfl⟩, rfl, rfl, rfl⟩
  · refine ev_aload_n hC dX6_choice_11 rfl 0 rfl ?_
    refine ev_get hC fl_X6_28_6 (mw 0 rfl) rfl dX6_choice_12 ?_
    refine ev_bipush (v := (nI 100)) hC dX6_choice_15 (by decide) ?_
    refine ev_icmp_geN (tgt := 37) hC dX6_choice_17 (by decide) (by omega) (by omega) (fun c_3 => absurd c_3 (by omega)) (fun c_3 => ?_)
    refine ev_aload_n hC dX6_choice_20 rfl 1 rfl ?_
    refine ev_aload_n hC dX6_choice_21 rfl 0 rfl ?_
    refine ev_get hC fl_X6_9_6 (mw 0 rfl) rfl dX6_choice_22 ?_
    refine ev_aload_n hC dX6_choice_25 rfl 0 rfl ?_
    refine ev_get hC fl_X6_28_6 (mw 0 rfl) rfl dX6_choice_26 ?_
    refine ev_ialdN (i := p) hC (mw 1 rfl) (by omega) (by omega) dX6_choice_29 ?_
    obtain ⟨x, hx, hxe⟩ := hG.1.2 p (by omega)
    refine ev_top (y := (nI x)) ((hG.2 p (by omega)).trans hxe) ?_
    have hh : hrF Y e p = nI x := (if_pos (by omega)).trans hxe
    refine ev_i2c hC dX6_choice_30 rfl ?_
    refine ev_top (y := (nI x)) (ix_i2c x hx) ?_
    refine ev_callK (As := [.int (nI x)]) (st := []) (wc := []) (wf := (RD G d sg am en sp (nI e) (nI p) ju sd rn nd)) hC cv_X6_139 rfl (m_J0_indexOf_0f7a4 G ro k x (by omega) (by omega) (by omega)) (by omega) rfl rfl (Nat.le_of_ble_eq_true rfl) (List.Perm.refl _) (by omega) dX6_choice_31 (by omega) (by omega) ?_
    rintro _ _ _ ⟨rfl, rfl, rfl⟩
    refine ev_ws (List.nil_append _) ?_
    show Ev G X 0 0 34 [(0, .ref (d 0)), (1, .ref (gK G k))] [.int (fndI k (nI x))] (RD G d sg am en sp (nI e) (nI p) ju sd rn nd) ro
    refine ev_goto (tgt := 38) hC dX6_choice_34 (by decide) ?_
    rcases hfd : fndF k (nI x) (strLen.getD k 0) 0 with _ | j
    · refine ev_top (y := (-1)) (fndI_none hfd) ?_
      refine ev_istore_n (lv' := [(2, .int (-1)), (0, .ref (d 0)), (1, .ref (gK G k))]) hC dX6_choice_38 rfl (by decide) rfl ?_
      refine ev_iload_n hC dX6_choice_39 rfl 0 rfl ?_
      refine ev_if_lt (tgt := 53) hC dX6_choice_40 (by decide) (fun c_4 => ?_) (fun c_4 => absurd c_4 (by decide))
      refine ev_iload_n hC dX6_choice_53 rfl 0 rfl ?_
      refine ev_iret hC hR rfl dX6_choice_54 ?_
      exact ⟨_, _, Or.inr ⟨by rw [hh]; exact hfd, rfl, rfl⟩, rfl, rfl, rfl⟩
    · have hjl := fndF_le hfd
      refine ev_top (y := (nI j)) (fndI_some hfd) ?_
      refine ev_istore_n (lv' := [(2, .int (nI j)), (0, .ref (d 0)), (1, .ref (gK G k))]) hC dX6_choice_38 rfl (by decide) rfl ?_
      refine ev_iload_n hC dX6_choice_39 rfl 0 rfl ?_
      refine ev_if_ltN (tgt := 53) hC dX6_choice_40 (by omega) ?_ (by decide)
      refine ev_aload_n hC dX6_choice_43 rfl 1 rfl ?_
      refine ev_dup hC dX6_choice_44 rfl ?_
      refine ev_get hC fl_X6_28_6 (mw 0 rfl) rfl dX6_choice_45 ?_
      refine ev_iconst (v := (nI 1)) hC dX6_choice_48 (by decide) ?_
      refine ev_iadd hC dX6_choice_49 ?_
      refine ev_top (y := (nI (p + 1))) ((nI_add _ _).trans (congrArg nI (by omega))) ?_
      refine ev_put (ws' := (RD G d sg am en sp (nI e) (nI (p + 1)) ju sd rn nd)) (q0 := 0) hC fp_X6_28_6 rfl (Nat.le_of_ble_eq_true rfl) rfl rfl rfl dX6_choice_50 ?_
      refine ev_iload_n hC dX6_choice_53 rfl 0 rfl ?_
      refine ev_iret hC hR rfl dX6_choice_54 ?_
      exact ⟨_, _, Or.inl ⟨j, by rw [hh]; exact hfd, rfl, rfl⟩, rfl, rfl, rfl⟩

set_option maxHeartbeats 4000000 in
set_option maxRecDepth 100000 in
theorem m_X6_step (G : GG) (ro : va_W) (d : Nat → Nat) (sg am en sp : Nat → Int32) (sz ap ju rn nd x : Int32) (m : Nat) (hm : m < 100) : Mth G M_X6_step 0 0 0 [.ref (d 0), .int x] (RD G d sg am en sp sz ap ju (nI m) rn nd) ro (fun r ws' ro' => r = none ∧ ws' = (RD G d sg am en (upd sp m x) sz ap ju (nI (m + 1)) rn nd) ∧ ro = ro') := by
  refine mth_of (by decide +kernel) (Nat.le_of_ble_eq_true rfl) (fun X hC hR => ?_)
  show Ev G X 0 0 0 [(0, .ref (d 0)), (1, .int x)] [] (RD G d sg am en sp sz ap ju (nI m) rn nd) ro
  refine ev_aload_n hC dX6_step_0 rfl 0 rfl ?_
  refine ev_get hC fl_X6_34_6 (mw 0 rfl) rfl dX6_step_1 ?_
  refine ev_bipush (v := (nI 100)) hC dX6_step_4 (by decide) ?_
  refine ev_icmp_geN (tgt := 29) hC dX6_step_6 (by decide) (by omega) (by omega) (fun c_1 => absurd c_1 (by omega)) (fun c_1 => ?_)
  refine ev_aload_n hC dX6_step_9 rfl 0 rfl ?_
  refine ev_get hC fl_X6_21_6 (mw 0 rfl) rfl dX6_step_10 ?_
  refine ev_aload_n hC dX6_step_13 rfl 0 rfl ?_
  refine ev_get hC fl_X6_34_6 (mw 0 rfl) rfl dX6_step_14 ?_
  refine ev_iload_n hC dX6_step_17 rfl 1 rfl ?_
  refine ev_iastN (i := m) (ws' := (RD G d sg am en (upd sp m x) sz ap ju (nI m) rn nd)) (q0 := 4) hC rfl (by omega) (by omega) rfl dX6_step_18 ?_
  refine ev_aload_n hC dX6_step_19 rfl 0 rfl ?_
  refine ev_dup hC dX6_step_20 rfl ?_
  refine ev_get hC fl_X6_34_6 (mw 0 rfl) rfl dX6_step_21 ?_
  refine ev_iconst (v := (nI 1)) hC dX6_step_24 (by decide) ?_
  refine ev_iadd hC dX6_step_25 ?_
  refine ev_top (y := (nI (m + 1))) ((nI_add _ _).trans (congrArg nI (by omega))) ?_
  refine ev_put (ws' := (RD G d sg am en (upd sp m x) sz ap ju (nI (m + 1)) rn nd)) (q0 := 0) hC fp_X6_34_6 rfl (Nat.le_of_ble_eq_true rfl) rfl rfl rfl dX6_step_26 ?_
  refine ev_vret hC hR rfl dX6_step_29 ?_
  exact ⟨rfl, rfl, rfl⟩

set_option maxHeartbeats 4000000 in
set_option maxRecDepth 100000 in
theorem m_X6_number (G : GG) (ro : va_W) (d : Nat → Nat) (sg am en sp Y : Nat → Int32) (ju sd rn nd : Int32) (e p : Nat) (hG : RdOK sg Y e) (hp : p ≤ e) : Mth G M_X6_number 5 0 0 [.ref (d 0)] (RD G d sg am en sp (nI e) (nI p) ju sd rn nd) ro (fun r ws' ro' => ∃ (v' : Int32), ((v' = nI (numF Y e p).2.2 ∧ (numF Y e p).1 = true) ∨ (v' = -1 ∧ (numF Y e p).1 = false)) ∧ r = some (.int v') ∧ ws' = (RD G d sg am en sp (nI e) (nI ((numF Y e p).2.1)) ju sd rn nd) ∧ ro = ro') := by
  refine mth_of (by decide +kernel) (Nat.le_of_ble_eq_true rfl) (fun X hC hR => ?_)
  have he := hG.1.1
  show Ev G X 0 0 0 [(0, .ref (d 0))] [] (RD G d sg am en sp (nI e) (nI p) ju sd rn nd) ro
  refine ev_aload_n hC dX6_number_0 rfl 0 rfl ?_
  refine ev_ldcS (tx := "0123456789") (i := 5) hC dX6_number_1 (by decide +kernel) ?_
  refine ev_callV (As := [.ref (gK G 5)]) (st := []) (wf := []) hC cv_X6_89 (m_X6_choice G ro d sg am en sp Y ju sd rn nd e p 5 hG (by omega) (by decide)) (by omega) rfl rfl (Nat.le_of_ble_eq_true rfl) (List.Perm.of_eq (List.append_nil _).symm) (mw 0 rfl) rfl dX6_number_3 (by omega) (by omega) ?_
  rintro _ _ _ ⟨_, _, ⟨j_2, ch_1, rfl, rfl⟩ | ⟨ch_1, rfl, rfl⟩, rfl, rfl, rfl⟩
  · refine ev_ws (List.append_nil _) ?_
    show Ev G X 0 0 6 [(0, .ref (d 0))] [.int (nI j_2)] (RD G d sg am en sp (nI e) (nI (p + 1)) ju sd rn nd) ro
    have ch_1l := (fndF_le ch_1).2
    have ch_1b : j_2 < 10 := ch_1l.1
    have ch_1p := (hr_lt (t := Y) (e := e) (p := p) (c := chN 5 j_2) (by have := (chN_eq 5 (by decide) j_2 ch_1b).2; omega) (ch_1l.2.trans (chN_eq 5 (by decide) j_2 ch_1b).1)).1
    have hd0 : dgF Y e p := Decidable.byContradiction (fun z => by have h2 := (fnd5_f z).symm.trans ch_1; cases h2)
    obtain rfl : dvF Y e p = j_2 := Option.some.inj ((fnd5_t hd0).symm.trans ch_1)
    have dl0 := dg_lt hd0
    show Ev G X 0 0 6 [(0, .ref (d 0))] [.int (nI (dvF Y e p))] (RD G d sg am en sp (nI e) (nI (p + 1)) ju sd rn nd) ro
    refine ev_istore_n (lv' := [(1, .int (nI (dvF Y e p))), (0, .ref (d 0))]) hC dX6_number_6 rfl (by decide) rfl ?_
    refine ev_iload_n hC dX6_number_7 rfl 0 rfl ?_
    refine ev_if_gtN (tgt := 13) hC dX6_number_8 (by decide) (by omega) (fun c_3 => ?_) (fun c_3 => ?_)
    · refine ev_aload_n hC dX6_number_13 rfl 1 rfl ?_
      refine ev_ldcS (tx := "0123456789") (i := 5) hC dX6_number_14 (by decide +kernel) ?_
      refine ev_callV (As := [.ref (gK G 5)]) (st := []) (wf := []) hC cv_X6_89 (m_X6_choice G ro d sg am en sp Y ju sd rn nd e (p + 1) 5 hG (by omega) (by decide)) (by omega) rfl rfl (Nat.le_of_ble_eq_true rfl) (List.Perm.of_eq (List.append_nil _).symm) (mw 0 rfl) rfl dX6_number_16 (by omega) (by omega) ?_
      rintro _ _ _ ⟨_, _, ⟨j_5, ch_4, rfl, rfl⟩ | ⟨ch_4, rfl, rfl⟩, rfl, rfl, rfl⟩
      · refine ev_ws (List.append_nil _) ?_
        show Ev G X 0 0 19 [(1, .int (nI (dvF Y e p))), (0, .ref (d 0))] [.int (nI j_5)] (RD G d sg am en sp (nI e) (nI (p + 2)) ju sd rn nd) ro
        have ch_4l := (fndF_le ch_4).2
        have ch_4b : j_5 < 10 := ch_4l.1
        have ch_4p := (hr_lt (t := Y) (e := e) (p := (p + 1)) (c := chN 5 j_5) (by have := (chN_eq 5 (by decide) j_5 ch_4b).2; omega) (ch_4l.2.trans (chN_eq 5 (by decide) j_5 ch_4b).1)).1
        have hd1 : dgF Y e (p + 1) := Decidable.byContradiction (fun z => by have h2 := (fnd5_f z).symm.trans ch_4; cases h2)
        obtain rfl : dvF Y e (p + 1) = j_5 := Option.some.inj ((fnd5_t hd1).symm.trans ch_4)
        have dl1 := dg_lt hd1
        show Ev G X 0 0 19 [(1, .int (nI (dvF Y e p))), (0, .ref (d 0))] [.int (nI (dvF Y e (p + 1)))] (RD G d sg am en sp (nI e) (nI (p + 2)) ju sd rn nd) ro
        refine ev_istore_n (lv' := [(2, .int (nI (dvF Y e (p + 1)))), (1, .int (nI (dvF Y e p))), (0, .ref (d 0))]) hC dX6_number_19 rfl (by decide) rfl ?_
        refine ev_iload_n hC dX6_number_20 rfl 0 rfl ?_
        refine ev_if_geN (tgt := 28) hC dX6_number_21 (by omega) ?_ (by decide)
        refine ev_iload_n hC dX6_number_28 rfl 1 rfl ?_
        refine ev_bipush (v := (nI 10)) hC dX6_number_29 (by decide) ?_
        refine ev_imul hC dX6_number_31 ?_
        refine ev_top (y := (nI ((dvF Y e p) * 10))) (pk_mul _ _) ?_
        refine ev_iload_n hC dX6_number_32 rfl 0 rfl ?_
        refine ev_iadd hC dX6_number_33 ?_
        refine ev_top (y := (nI (((dvF Y e p) * 10) + (dvF Y e (p + 1))))) ((nI_add _ _).trans (congrArg nI (by omega))) ?_
        refine ev_iret hC hR rfl dX6_number_34 ?_
        have en : numF Y e p = (true, p + 2, 10 * dvF Y e p + dvF Y e (p + 1)) := by
          rw [numF, if_pos hd0, if_neg (by omega), if_pos hd1]
        exact ⟨_, Or.inl ⟨(by rw [en]; show nI _ = nI (10 * dvF Y e p + dvF Y e (p + 1)); exact congrArg nI (by omega)), by rw [en]⟩, rfl, by rw [en], rfl⟩
      · refine ev_ws (List.append_nil _) ?_
        show Ev G X 0 0 19 [(1, .int (nI (dvF Y e p))), (0, .ref (d 0))] [.int (-1)] (RD G d sg am en sp (nI e) (nI (p + 1)) ju sd rn nd) ro
        have hd1 : ¬ dgF Y e (p + 1) := fun z => by have h2 := (fnd5_t z).symm.trans ch_4; cases h2
        refine ev_istore_n (lv' := [(2, .int (-1)), (1, .int (nI (dvF Y e p))), (0, .ref (d 0))]) hC dX6_number_19 rfl (by decide) rfl ?_
        refine ev_iload_n hC dX6_number_20 rfl 0 rfl ?_
        refine ev_if_ge (tgt := 28) hC dX6_number_21 (by decide) (fun c_6 => absurd c_6 (by decide)) (fun c_6 => ?_)
        refine ev_iload_n hC dX6_number_24 rfl 1 rfl ?_
        refine ev_goto (tgt := 34) hC dX6_number_25 (by decide) ?_
        refine ev_iret hC hR rfl dX6_number_34 ?_
        have en : numF Y e p = (true, p + 1, (dvF Y e p)) := by
          rw [numF, if_pos hd0, if_neg (by omega), if_neg hd1]
        exact ⟨_, Or.inl ⟨by rw [en], by rw [en]⟩, rfl, by rw [en], rfl⟩
    · refine ev_iload_n hC dX6_number_11 rfl 0 rfl ?_
      refine ev_iret hC hR rfl dX6_number_12 ?_
      have en : numF Y e p = (true, p + 1, 0) := by
        rw [numF, if_pos hd0, if_pos (by omega)]
      have e0 : dvF Y e p = 0 := by omega
      exact ⟨_, Or.inl ⟨by rw [en, e0], by rw [en]⟩, rfl, by rw [en], rfl⟩
  · refine ev_ws (List.append_nil _) ?_
    show Ev G X 0 0 6 [(0, .ref (d 0))] [.int (-1)] (RD G d sg am en sp (nI e) (nI p) ju sd rn nd) ro
    have hd0 : ¬ dgF Y e p := fun z => by have h2 := (fnd5_t z).symm.trans ch_1; cases h2
    refine ev_istore_n (lv' := [(1, .int (-1)), (0, .ref (d 0))]) hC dX6_number_6 rfl (by decide) rfl ?_
    refine ev_iload_n hC dX6_number_7 rfl 0 rfl ?_
    refine ev_if_gt (tgt := 13) hC dX6_number_8 (by decide) (fun c_7 => absurd c_7 (by decide)) (fun c_7 => ?_)
    refine ev_iload_n hC dX6_number_11 rfl 0 rfl ?_
    refine ev_iret hC hR rfl dX6_number_12 ?_
    have en : numF Y e p = (false, p, 0) := by
      rw [numF, if_neg hd0]
    exact ⟨_, Or.inr ⟨rfl, by rw [en]⟩, rfl, by rw [en], rfl⟩

set_option maxHeartbeats 4000000 in
set_option maxRecDepth 100000 in
theorem m_X10_testStep (G : GG) (ro : va_W) (w h v : Nat)  : Mth G M_X10_testStep 0 0 0 [.int (nI w), .int (nI h), .int (nI v)] [] ro (fun r ws' ro' => r = some (.int (nI ((w * 3 + h) * 100 + v))) ∧ ws' = [] ∧ ro = ro') := by
  refine mth_of (by decide +kernel) (Nat.le_of_ble_eq_true rfl) (fun X hC hR => ?_)
  show Ev G X 0 0 0 [(0, .int (nI w)), (1, .int (nI h)), (2, .int (nI v))] [] [] ro
  refine ev_iload_n hC dX10_testStep_0 rfl 0 rfl ?_
  refine ev_iconst (v := (nI 3)) hC dX10_testStep_1 (by decide) ?_
  refine ev_imul hC dX10_testStep_2 ?_
  refine ev_top (y := (nI (w * 3))) (pk_mul _ _) ?_
  refine ev_iload_n hC dX10_testStep_3 rfl 1 rfl ?_
  refine ev_iadd hC dX10_testStep_4 ?_
  refine ev_top (y := (nI ((w * 3) + h))) ((nI_add _ _).trans (congrArg nI (by omega))) ?_
  refine ev_bipush (v := (nI 100)) hC dX10_testStep_5 (by decide) ?_
  refine ev_imul hC dX10_testStep_7 ?_
  refine ev_top (y := (nI (((w * 3) + h) * 100))) (pk_mul _ _) ?_
  refine ev_iload_n hC dX10_testStep_8 rfl 2 rfl ?_
  refine ev_iadd hC dX10_testStep_9 ?_
  refine ev_top (y := (nI ((((w * 3) + h) * 100) + v))) ((nI_add _ _).trans (congrArg nI (by omega))) ?_
  refine ev_iret hC hR rfl dX10_testStep_10 ?_
  exact ⟨rfl, rfl, rfl⟩

set_option maxHeartbeats 4000000 in
set_option maxRecDepth 100000 in
theorem m_X6_fac0 (G : GG) (ro : va_W) (d : Nat → Nat) (sg am en sp : Nat → Int32) (ju rn nd : Int32) (Y : Nat → Int32) (e p : Nat) (l : List Int32) (hG : RdOK sg Y e) (hp : p ≤ e) (hL : LstF sp l) (hl : l.length ≤ p) : Mth G M_X6_factor 6 0 0 [.ref (d 0), .int (nI 5)] (RD G d sg am en sp (nI e) (nI p) ju (nI l.length) rn nd) ro (fun r ws' ro' => ∃ (sp' : Nat → Int32), ∃ (sd' : Int32), ∃ (v' : Int32), ((v' = nI 1 ∧ (tstF Y e p).1 = true ∧ sd' = nI (l ++ (tstF Y e p).2.2.map cvO).length ∧ LstF sp' (l ++ (tstF Y e p).2.2.map cvO)) ∨ (v' = nI 0 ∧ (tstF Y e p).1 = false)) ∧ r = some (.int v') ∧ ws' = (RD G d sg am en sp' (nI e) (nI ((tstF Y e p).2.1)) ju sd' rn nd) ∧ ro = ro') := by
  refine mth_of (by decide +kernel) (Nat.le_of_ble_eq_true rfl) (fun X hC hR => ?_)
  have he := hG.1.1
  show Ev G X 0 0 0 [(0, .ref (d 0)), (1, .int (nI 5))] [] (RD G d sg am en sp (nI e) (nI p) ju (nI l.length) rn nd) ro
  refine ev_iload_n hC dX6_factor_0 rfl 1 rfl ?_
  refine ev_iconst (v := (nI 5)) hC dX6_factor_1 (by decide) ?_
  refine ev_icmp_geN (tgt := 34) hC dX6_factor_2 (by decide) (by omega) (by omega) (fun c_1 => ?_) (fun c_1 => absurd c_1 (by omega))
  refine ev_iload_n hC dX6_factor_34 rfl 1 rfl ?_
  refine ev_iconst (v := (nI 5)) hC dX6_factor_35 (by decide) ?_
  refine ev_icmp_geN (tgt := 73) hC dX6_factor_36 (by decide) (by omega) (by omega) (fun c_2 => ?_) (fun c_2 => absurd c_2 (by omega))
  refine ev_aload_n hC dX6_factor_73 rfl 0 rfl ?_
  refine ev_ldcS (tx := "pkvsgd") (i := 6) hC dX6_factor_74 (by decide +kernel) ?_
  refine ev_callV (As := [.ref (gK G 6)]) (st := []) (wf := []) hC cv_X6_89 (m_X6_choice G ro d sg am en sp Y ju (nI l.length) rn nd e p 6 hG (by omega) (by decide)) (by omega) rfl rfl (Nat.le_of_ble_eq_true rfl) (List.Perm.of_eq (List.append_nil _).symm) (mw 0 rfl) rfl dX6_factor_76 (by omega) (by omega) ?_
  rintro _ _ _ ⟨_, _, ⟨j_4, ch_3, rfl, rfl⟩ | ⟨ch_3, rfl, rfl⟩, rfl, rfl, rfl⟩
  · refine ev_ws (List.append_nil _) ?_
    show Ev G X 0 0 79 [(0, .ref (d 0)), (1, .int (nI 5))] [.int (nI j_4)] (RD G d sg am en sp (nI e) (nI (p + 1)) ju (nI l.length) rn nd) ro
    have ch_3l := (fndF_le ch_3).2
    have ch_3b : j_4 < 6 := ch_3l.1
    have ch_3p := (hr_lt (t := Y) (e := e) (p := p) (c := chN 6 j_4) (by have := (chN_eq 6 (by decide) j_4 ch_3b).2; omega) (ch_3l.2.trans (chN_eq 6 (by decide) j_4 ch_3b).1)).1
    have q6 : fndF 6 (hrF Y e p) 6 0 = some j_4 := ch_3
    refine ev_istore_n (lv' := [(2, .int (nI j_4)), (0, .ref (d 0)), (1, .int (nI 5))]) hC dX6_factor_79 rfl (by decide) rfl ?_
    refine ev_iload_n hC dX6_factor_80 rfl 0 rfl ?_
    refine ev_if_geN (tgt := 88) hC dX6_factor_81 (by omega) ?_ (by decide)
    refine ev_aload_n hC dX6_factor_88 rfl 1 rfl ?_
    refine ev_ldcS (tx := "<=>") (i := 7) hC dX6_factor_89 (by decide +kernel) ?_
    refine ev_callV (As := [.ref (gK G 7)]) (st := []) (wf := []) hC cv_X6_89 (m_X6_choice G ro d sg am en sp Y ju (nI l.length) rn nd e (p + 1) 7 hG (by omega) (by decide)) (by omega) rfl rfl (Nat.le_of_ble_eq_true rfl) (List.Perm.of_eq (List.append_nil _).symm) (mw 0 rfl) rfl dX6_factor_91 (by omega) (by omega) ?_
    rintro _ _ _ ⟨_, _, ⟨j_6, ch_5, rfl, rfl⟩ | ⟨ch_5, rfl, rfl⟩, rfl, rfl, rfl⟩
    · refine ev_ws (List.append_nil _) ?_
      show Ev G X 0 0 94 [(2, .int (nI j_4)), (0, .ref (d 0)), (1, .int (nI 5))] [.int (nI j_6)] (RD G d sg am en sp (nI e) (nI (p + 2)) ju (nI l.length) rn nd) ro
      have ch_5l := (fndF_le ch_5).2
      have ch_5b : j_6 < 3 := ch_5l.1
      have ch_5p := (hr_lt (t := Y) (e := e) (p := (p + 1)) (c := chN 7 j_6) (by have := (chN_eq 7 (by decide) j_6 ch_5b).2; omega) (ch_5l.2.trans (chN_eq 7 (by decide) j_6 ch_5b).1)).1
      have q7 : fndF 7 (hrF Y e (p + 1)) 3 0 = some j_6 := ch_5
      refine ev_istore_n (lv' := [(3, .int (nI j_6)), (2, .int (nI j_4)), (0, .ref (d 0)), (1, .int (nI 5))]) hC dX6_factor_94 rfl (by decide) rfl ?_
      refine ev_iload_n hC dX6_factor_95 rfl 0 rfl ?_
      refine ev_if_geN (tgt := 103) hC dX6_factor_96 (by omega) ?_ (by decide)
      refine ev_aload_n hC dX6_factor_103 rfl 2 rfl ?_
      refine ev_callV (As := []) (st := []) (wf := []) hC cv_X6_96 (m_X6_number G ro d sg am en sp Y ju (nI l.length) rn nd e (p + 2) hG (by omega)) (by omega) rfl rfl (Nat.le_of_ble_eq_true rfl) (List.Perm.of_eq (List.append_nil _).symm) (mw 0 rfl) rfl dX6_factor_104 (by omega) (by omega) ?_
      rintro _ _ _ ⟨_, ⟨rfl, nu_7⟩ | ⟨rfl, nu_7⟩, rfl, rfl, rfl⟩
      · refine ev_ws (List.append_nil _) ?_
        show Ev G X 0 0 107 [(3, .int (nI j_6)), (2, .int (nI j_4)), (0, .ref (d 0)), (1, .int (nI 5))] [.int (nI ((numF Y e (p + 2)).2.2))] (RD G d sg am en sp (nI e) (nI ((numF Y e (p + 2)).2.1)) ju (nI l.length) rn nd) ro
        obtain ⟨nu_71, nu_72, nu_73, nu_74⟩ := numF_p (t := Y) (e := e) (p := (p + 2)) (by omega)
        have nu_75 := nu_73 nu_7
        refine ev_istore (lv' := [(4, .int (nI ((numF Y e (p + 2)).2.2))), (3, .int (nI j_6)), (2, .int (nI j_4)), (0, .ref (d 0)), (1, .int (nI 5))]) hC dX6_factor_107 (by decide) rfl ?_
        refine ev_iload hC dX6_factor_109 0 rfl ?_
        refine ev_if_geN (tgt := 116) hC dX6_factor_111 (by omega) ?_ (by decide)
        refine ev_aload_n hC dX6_factor_116 rfl 3 rfl ?_
        refine ev_iload_n hC dX6_factor_117 rfl 2 rfl ?_
        refine ev_iload_n hC dX6_factor_118 rfl 1 rfl ?_
        refine ev_iload hC dX6_factor_119 0 rfl ?_
        refine ev_callS (As := [.int (nI j_4), .int (nI j_6), .int (nI ((numF Y e (p + 2)).2.2))]) (st := [.ref (d 0)]) (wc := []) (wf := (RD G d sg am en sp (nI e) (nI ((numF Y e (p + 2)).2.1)) ju (nI l.length) rn nd)) hC ct_X6_133 (m_X10_testStep G ro j_4 j_6 ((numF Y e (p + 2)).2.2)) (by omega) rfl rfl (Nat.le_of_ble_eq_true rfl) (List.Perm.refl _) dX6_factor_121 (by omega) (by omega) ?_
        rintro _ _ _ ⟨rfl, rfl, rfl⟩
        refine ev_ws (List.nil_append _) ?_
        show Ev G X 0 0 124 [(4, .int (nI ((numF Y e (p + 2)).2.2))), (3, .int (nI j_6)), (2, .int (nI j_4)), (0, .ref (d 0)), (1, .int (nI 5))] [.int (nI ((j_4 * 3 + j_6) * 100 + ((numF Y e (p + 2)).2.2))), .ref (d 0)] (RD G d sg am en sp (nI e) (nI ((numF Y e (p + 2)).2.1)) ju (nI l.length) rn nd) ro
        refine ev_callV (As := [.int (nI ((j_4 * 3 + j_6) * 100 + ((numF Y e (p + 2)).2.2)))]) (st := []) (wf := []) hC cv_X6_125 (m_X6_step G ro d sg am en sp (nI e) (nI ((numF Y e (p + 2)).2.1)) ju rn nd (nI ((j_4 * 3 + j_6) * 100 + ((numF Y e (p + 2)).2.2))) l.length (by first | omega | (simp only [List.length_append, List.length_map, List.length_cons, List.length_nil]; omega))) (by omega) rfl rfl (Nat.le_of_ble_eq_true rfl) (List.Perm.of_eq (List.append_nil _).symm) (mw 0 rfl) rfl dX6_factor_124 (by omega) (by omega) ?_
        rintro _ _ _ ⟨rfl, rfl, rfl⟩
        refine ev_ws (List.append_nil _) ?_
        show Ev G X 0 0 127 [(4, .int (nI ((numF Y e (p + 2)).2.2))), (3, .int (nI j_6)), (2, .int (nI j_4)), (0, .ref (d 0)), (1, .int (nI 5))] [] (RD G d sg am en (upd sp l.length (nI ((j_4 * 3 + j_6) * 100 + ((numF Y e (p + 2)).2.2)))) (nI e) (nI ((numF Y e (p + 2)).2.1)) ju (nI (l.length + 1)) rn nd) ro
        refine ev_iconst (v := (nI 1)) hC dX6_factor_127 (by decide) ?_
        refine ev_zret hC hR rfl (by rfl) dX6_factor_128 ?_
        have hr := tst_yes (t := Y) (e := e) (p := p) q6 q7
        rw [nu_7] at hr
        rw [if_pos rfl] at hr
        have hm : (tstF Y e p).2.2.map cvO = [nI ((j_4 * 3 + j_6) * 100 + (numF Y e (p + 2)).2.2)] := by rw [hr]; exact congrArg (fun z => [z]) (cvO_mk (by omega) (by omega) (by omega))
        exact ⟨_, (nI (l.length + 1)), _, Or.inl ⟨rfl, by rw [hr], (by rw [hm]; simp only [List.length_append, List.length_singleton]), (by rw [hm]; exact hL.push _)⟩, rfl, by rw [hr], rfl⟩
      · refine ev_ws (List.append_nil _) ?_
        show Ev G X 0 0 107 [(3, .int (nI j_6)), (2, .int (nI j_4)), (0, .ref (d 0)), (1, .int (nI 5))] [.int (-1)] (RD G d sg am en sp (nI e) (nI ((numF Y e (p + 2)).2.1)) ju (nI l.length) rn nd) ro
        obtain ⟨nu_71, nu_72, nu_73, nu_74⟩ := numF_p (t := Y) (e := e) (p := (p + 2)) (by omega)
        have nu_75 := nu_73
        refine ev_istore (lv' := [(4, .int (-1)), (3, .int (nI j_6)), (2, .int (nI j_4)), (0, .ref (d 0)), (1, .int (nI 5))]) hC dX6_factor_107 (by decide) rfl ?_
        refine ev_iload hC dX6_factor_109 0 rfl ?_
        refine ev_if_ge (tgt := 116) hC dX6_factor_111 (by decide) (fun c_8 => absurd c_8 (by decide)) (fun c_8 => ?_)
        refine ev_iconst (v := (nI 0)) hC dX6_factor_114 (by decide) ?_
        refine ev_zret hC hR rfl (by rfl) dX6_factor_115 ?_
        have hr := tst_yes (t := Y) (e := e) (p := p) q6 q7
        rw [nu_7] at hr
        exact ⟨_, _, _, Or.inr ⟨rfl, by rw [hr]⟩, rfl, by rw [hr], rfl⟩
    · refine ev_ws (List.append_nil _) ?_
      show Ev G X 0 0 94 [(2, .int (nI j_4)), (0, .ref (d 0)), (1, .int (nI 5))] [.int (-1)] (RD G d sg am en sp (nI e) (nI (p + 1)) ju (nI l.length) rn nd) ro
      have q7 : fndF 7 (hrF Y e (p + 1)) 3 0 = none := ch_5
      refine ev_istore_n (lv' := [(3, .int (-1)), (2, .int (nI j_4)), (0, .ref (d 0)), (1, .int (nI 5))]) hC dX6_factor_94 rfl (by decide) rfl ?_
      refine ev_iload_n hC dX6_factor_95 rfl 0 rfl ?_
      refine ev_if_ge (tgt := 103) hC dX6_factor_96 (by decide) (fun c_9 => absurd c_9 (by decide)) (fun c_9 => ?_)
      refine ev_iconst (v := (-1)) hC dX6_factor_99 (by decide) ?_
      refine ev_goto (tgt := 107) hC dX6_factor_100 (by decide) ?_
      refine ev_istore (lv' := [(4, .int (-1)), (3, .int (-1)), (2, .int (nI j_4)), (0, .ref (d 0)), (1, .int (nI 5))]) hC dX6_factor_107 (by decide) rfl ?_
      refine ev_iload hC dX6_factor_109 0 rfl ?_
      refine ev_if_ge (tgt := 116) hC dX6_factor_111 (by decide) (fun c_10 => absurd c_10 (by decide)) (fun c_10 => ?_)
      refine ev_iconst (v := (nI 0)) hC dX6_factor_114 (by decide) ?_
      refine ev_zret hC hR rfl (by rfl) dX6_factor_115 ?_
      have hr := tst_no2 (t := Y) (e := e) (p := p) q6 q7
      exact ⟨_, _, _, Or.inr ⟨rfl, by rw [hr]⟩, rfl, by rw [hr], rfl⟩
  · refine ev_ws (List.append_nil _) ?_
    show Ev G X 0 0 79 [(0, .ref (d 0)), (1, .int (nI 5))] [.int (-1)] (RD G d sg am en sp (nI e) (nI p) ju (nI l.length) rn nd) ro
    have q6 : fndF 6 (hrF Y e p) 6 0 = none := ch_3
    refine ev_istore_n (lv' := [(2, .int (-1)), (0, .ref (d 0)), (1, .int (nI 5))]) hC dX6_factor_79 rfl (by decide) rfl ?_
    refine ev_iload_n hC dX6_factor_80 rfl 0 rfl ?_
    refine ev_if_ge (tgt := 88) hC dX6_factor_81 (by decide) (fun c_11 => absurd c_11 (by decide)) (fun c_11 => ?_)
    refine ev_iconst (v := (-1)) hC dX6_factor_84 (by decide) ?_
    refine ev_goto (tgt := 94) hC dX6_factor_85 (by decide) ?_
    refine ev_istore_n (lv' := [(3, .int (-1)), (2, .int (-1)), (0, .ref (d 0)), (1, .int (nI 5))]) hC dX6_factor_94 rfl (by decide) rfl ?_
    refine ev_iload_n hC dX6_factor_95 rfl 0 rfl ?_
    refine ev_if_ge (tgt := 103) hC dX6_factor_96 (by decide) (fun c_12 => absurd c_12 (by decide)) (fun c_12 => ?_)
    refine ev_iconst (v := (-1)) hC dX6_factor_99 (by decide) ?_
    refine ev_goto (tgt := 107) hC dX6_factor_100 (by decide) ?_
    refine ev_istore (lv' := [(4, .int (-1)), (3, .int (-1)), (2, .int (-1)), (0, .ref (d 0)), (1, .int (nI 5))]) hC dX6_factor_107 (by decide) rfl ?_
    refine ev_iload hC dX6_factor_109 0 rfl ?_
    refine ev_if_ge (tgt := 116) hC dX6_factor_111 (by decide) (fun c_13 => absurd c_13 (by decide)) (fun c_13 => ?_)
    refine ev_iconst (v := (nI 0)) hC dX6_factor_114 (by decide) ?_
    refine ev_zret hC hR rfl (by rfl) dX6_factor_115 ?_
    have hr := tst_no (t := Y) (e := e) (p := p) q6
    exact ⟨_, _, _, Or.inr ⟨rfl, by rw [hr]⟩, rfl, by rw [hr], rfl⟩

set_option maxHeartbeats 4000000 in
set_option maxRecDepth 100000 in
theorem m_X6_facS (G : GG) (ro : va_W) (o d0 : Nat) (ho : o < 5) (hf : PartC G M_X6_factor (6 + 2 * d0) (o + 1) (fun Y e => facD Y e d0)) (hs : PartC G M_X6_expression (7 + 2 * d0) (o + 1) (fun Y e => somF Y e (facD Y e d0))) (d : Nat → Nat) (sg am en sp : Nat → Int32) (ju rn nd : Int32) (Y : Nat → Int32) (e p : Nat) (l : List Int32) (hG : RdOK sg Y e) (hp : p ≤ e) (hL : LstF sp l) (hl : l.length ≤ p) : Mth G M_X6_factor (6 + 2 * (d0 + 1)) 0 0 [.ref (d 0), .int (nI o)] (RD G d sg am en sp (nI e) (nI p) ju (nI l.length) rn nd) ro (fun r ws' ro' => ∃ (sp' : Nat → Int32), ∃ (sd' : Int32), ∃ (v' : Int32), ((v' = nI 1 ∧ (facD Y e (d0 + 1) p).1 = true ∧ sd' = nI (l ++ (facD Y e (d0 + 1) p).2.2.map cvO).length ∧ LstF sp' (l ++ (facD Y e (d0 + 1) p).2.2.map cvO)) ∨ (v' = nI 0 ∧ (facD Y e (d0 + 1) p).1 = false)) ∧ r = some (.int v') ∧ ws' = (RD G d sg am en sp' (nI e) (nI ((facD Y e (d0 + 1) p).2.1)) ju sd' rn nd) ∧ ro = ro') := by
  refine mth_of (by decide +kernel) (Nat.le_of_ble_eq_true rfl) (fun X hC hR => ?_)
  have he := hG.1.1
  show Ev G X 0 0 0 [(0, .ref (d 0)), (1, .int (nI o))] [] (RD G d sg am en sp (nI e) (nI p) ju (nI l.length) rn nd) ro
  refine ev_iload_n hC dX6_factor_0 rfl 1 rfl ?_
  refine ev_iconst (v := (nI 5)) hC dX6_factor_1 (by decide) ?_
  refine ev_icmp_geN (tgt := 34) hC dX6_factor_2 (by decide) (by omega) (by omega) (fun c_1 => absurd c_1 (by omega)) (fun c_1 => ?_)
  refine ev_aload_n hC dX6_factor_5 rfl 0 rfl ?_
  refine ev_bipush (v := (nI 33)) hC dX6_factor_6 (by decide) ?_
  refine ev_callV (As := [.int (nI 33)]) (st := []) (wf := []) hC cv_X6_51 (m_X6_accept G ro d sg am en sp Y ju (nI l.length) rn nd e p 33 hG (by omega) (by omega)) (by omega) rfl rfl (Nat.le_of_ble_eq_true rfl) (List.Perm.of_eq (List.append_nil _).symm) (mw 0 rfl) rfl dX6_factor_8 (by omega) (by omega) ?_
  rintro _ _ _ ⟨_, _, ⟨rfl, rfl, m_2⟩ | ⟨rfl, rfl, m_2⟩, rfl, rfl, rfl⟩
  · refine ev_ws (List.append_nil _) ?_
    show Ev G X 0 0 11 [(0, .ref (d 0)), (1, .int (nI o))] [.int (nI 1)] (RD G d sg am en sp (nI e) (nI (p + 1)) ju (nI l.length) rn nd) ro
    have lm_2 := (hr_lt (by omega) m_2).1
    refine ev_if_eqN (tgt := 34) hC dX6_factor_11 (by decide) (by omega) (fun c_3 => absurd c_3 (by omega)) (fun c_3 => ?_)
    refine ev_aload_n hC dX6_factor_14 rfl 0 rfl ?_
    refine ev_iload_n hC dX6_factor_15 rfl 1 rfl ?_
    refine ev_iconst (v := (nI 1)) hC dX6_factor_16 (by decide) ?_
    refine ev_iadd hC dX6_factor_17 ?_
    refine ev_top (y := (nI (o + 1))) ((nI_add _ _).trans (congrArg nI (by omega))) ?_
    refine ev_callV (As := [.int (nI (o + 1))]) (st := []) (wf := []) hC cv_X6_122 (hf ro d sg am en sp ju rn nd Y e (p + 1) l hG (by omega) hL (by omega)) (by omega) rfl rfl (Nat.le_of_ble_eq_true rfl) (List.Perm.of_eq (List.append_nil _).symm) (mw 0 rfl) rfl dX6_factor_18 (by omega) (by omega) ?_
    rintro _ _ _ ⟨sp3, sd3, _, ⟨rfl, ok3, rfl, hL3⟩ | ⟨rfl, ok3⟩, rfl, rfl, rfl⟩
    · refine ev_ws (List.append_nil _) ?_
      show Ev G X 0 0 21 [(0, .ref (d 0)), (1, .int (nI o))] [.int (nI 1)] (RD G d sg am en sp3 (nI e) (nI ((facD Y e d0 (p + 1)).2.1)) ju (nI ((l ++ List.map cvO (facD Y e d0 (p + 1)).2.2).length)) rn nd) ro
      obtain ⟨g1, g2, g3, g4⟩ := facD_p (t := Y) (e := e) d0 (p := p + 1) (by omega)
      refine ev_if_neN (tgt := 26) hC dX6_factor_21 (by decide) (by omega) (fun c_4 => ?_) (fun c_4 => absurd c_4 (by omega))
      refine ev_aload_n hC dX6_factor_26 rfl 0 rfl ?_
      refine ev_bipush (v := (-3)) hC dX6_factor_27 (by decide) ?_
      refine ev_callV (As := [.int (-3)]) (st := []) (wf := []) hC cv_X6_125 (m_X6_step G ro d sg am en sp3 (nI e) (nI ((facD Y e d0 (p + 1)).2.1)) ju rn nd (-3) ((l ++ List.map cvO (facD Y e d0 (p + 1)).2.2).length) (by first | omega | (simp only [List.length_append, List.length_map, List.length_cons, List.length_nil]; omega))) (by omega) rfl rfl (Nat.le_of_ble_eq_true rfl) (List.Perm.of_eq (List.append_nil _).symm) (mw 0 rfl) rfl dX6_factor_29 (by omega) (by omega) ?_
      rintro _ _ _ ⟨rfl, rfl, rfl⟩
      refine ev_ws (List.append_nil _) ?_
      show Ev G X 0 0 32 [(0, .ref (d 0)), (1, .int (nI o))] [] (RD G d sg am en (upd sp3 ((l ++ List.map cvO (facD Y e d0 (p + 1)).2.2).length) (-3)) (nI e) (nI ((facD Y e d0 (p + 1)).2.1)) ju (nI (((l ++ List.map cvO (facD Y e d0 (p + 1)).2.2).length) + 1)) rn nd) ro
      refine ev_iconst (v := (nI 1)) hC dX6_factor_32 (by decide) ?_
      refine ev_zret hC hR rfl (by rfl) dX6_factor_33 ?_
      have hr : facD Y e (d0 + 1) p = ((facD Y e d0 (p + 1)).1, (facD Y e d0 (p + 1)).2.1, (facD Y e d0 (p + 1)).2.2 ++ (if (facD Y e d0 (p + 1)).1 = true then [-1] else [])) := by rw [facD, if_pos m_2]
      have hm : l ++ List.map cvO (facD Y e (d0 + 1) p).2.2 = (l ++ List.map cvO (facD Y e d0 (p + 1)).2.2) ++ [-3] := by rw [hr, if_pos ok3, List.map_append, List.append_assoc]; rfl
      exact ⟨_, (nI (((l ++ List.map cvO (facD Y e d0 (p + 1)).2.2).length) + 1)), _, Or.inl ⟨rfl, (by rw [hr]; exact ok3), (by rw [hm]; simp only [List.length_append, List.length_singleton]), (by rw [hm]; exact hL3.push _)⟩, rfl, by rw [hr], rfl⟩
    · refine ev_ws (List.append_nil _) ?_
      show Ev G X 0 0 21 [(0, .ref (d 0)), (1, .int (nI o))] [.int (nI 0)] (RD G d sg am en sp3 (nI e) (nI ((facD Y e d0 (p + 1)).2.1)) ju sd3 rn nd) ro
      obtain ⟨g1, g2, g3, g4⟩ := facD_p (t := Y) (e := e) d0 (p := p + 1) (by omega)
      refine ev_if_neN (tgt := 26) hC dX6_factor_21 (by decide) (by omega) (fun c_5 => absurd c_5 (by omega)) (fun c_5 => ?_)
      refine ev_iconst (v := (nI 0)) hC dX6_factor_24 (by decide) ?_
      refine ev_zret hC hR rfl (by rfl) dX6_factor_25 ?_
      have hr : facD Y e (d0 + 1) p = ((facD Y e d0 (p + 1)).1, (facD Y e d0 (p + 1)).2.1, (facD Y e d0 (p + 1)).2.2 ++ (if (facD Y e d0 (p + 1)).1 = true then [-1] else [])) := by rw [facD, if_pos m_2]
      exact ⟨_, _, _, Or.inr ⟨rfl, by rw [hr]; exact ok3⟩, rfl, by rw [hr], rfl⟩
  · refine ev_ws (List.append_nil _) ?_
    show Ev G X 0 0 11 [(0, .ref (d 0)), (1, .int (nI o))] [.int (nI 0)] (RD G d sg am en sp (nI e) (nI p) ju (nI l.length) rn nd) ro
    refine ev_if_eqN (tgt := 34) hC dX6_factor_11 (by decide) (by omega) (fun c_6 => ?_) (fun c_6 => absurd c_6 (by omega))
    refine ev_iload_n hC dX6_factor_34 rfl 1 rfl ?_
    refine ev_iconst (v := (nI 5)) hC dX6_factor_35 (by decide) ?_
    refine ev_icmp_geN (tgt := 73) hC dX6_factor_36 (by decide) (by omega) (by omega) (fun c_7 => absurd c_7 (by omega)) (fun c_7 => ?_)
    refine ev_aload_n hC dX6_factor_39 rfl 0 rfl ?_
    refine ev_bipush (v := (nI 40)) hC dX6_factor_40 (by decide) ?_
    refine ev_callV (As := [.int (nI 40)]) (st := []) (wf := []) hC cv_X6_51 (m_X6_accept G ro d sg am en sp Y ju (nI l.length) rn nd e p 40 hG (by omega) (by omega)) (by omega) rfl rfl (Nat.le_of_ble_eq_true rfl) (List.Perm.of_eq (List.append_nil _).symm) (mw 0 rfl) rfl dX6_factor_42 (by omega) (by omega) ?_
    rintro _ _ _ ⟨_, _, ⟨rfl, rfl, m_8⟩ | ⟨rfl, rfl, m_8⟩, rfl, rfl, rfl⟩
    · refine ev_ws (List.append_nil _) ?_
      show Ev G X 0 0 45 [(0, .ref (d 0)), (1, .int (nI o))] [.int (nI 1)] (RD G d sg am en sp (nI e) (nI (p + 1)) ju (nI l.length) rn nd) ro
      have lm_8 := (hr_lt (by omega) m_8).1
      refine ev_if_eqN (tgt := 73) hC dX6_factor_45 (by decide) (by omega) (fun c_9 => absurd c_9 (by omega)) (fun c_9 => ?_)
      refine ev_aload_n hC dX6_factor_48 rfl 0 rfl ?_
      refine ev_iload_n hC dX6_factor_49 rfl 1 rfl ?_
      refine ev_iconst (v := (nI 1)) hC dX6_factor_50 (by decide) ?_
      refine ev_iadd hC dX6_factor_51 ?_
      refine ev_top (y := (nI (o + 1))) ((nI_add _ _).trans (congrArg nI (by omega))) ?_
      refine ev_callV (As := [.int (nI (o + 1))]) (st := []) (wf := []) hC cv_X6_99 (hs ro d sg am en sp ju rn nd Y e (p + 1) l hG (by omega) hL (by omega)) (by omega) rfl rfl (Nat.le_of_ble_eq_true rfl) (List.Perm.of_eq (List.append_nil _).symm) (mw 0 rfl) rfl dX6_factor_52 (by omega) (by omega) ?_
      rintro _ _ _ ⟨sp3, sd3, _, ⟨rfl, ok3, rfl, hL3⟩ | ⟨rfl, ok3⟩, rfl, rfl, rfl⟩
      · refine ev_ws (List.append_nil _) ?_
        show Ev G X 0 0 55 [(0, .ref (d 0)), (1, .int (nI o))] [.int (nI 1)] (RD G d sg am en sp3 (nI e) (nI ((somF Y e (facD Y e d0) (p + 1)).2.1)) ju (nI ((l ++ List.map cvO (somF Y e (facD Y e d0) (p + 1)).2.2).length)) rn nd) ro
        obtain ⟨g1, g2, g3, g4⟩ := somF_p (t := Y) (e := e) (fac := facD Y e d0) (fun p hp => facD_p d0 hp) (p := p + 1) (by omega)
        refine ev_if_eqN (tgt := 71) hC dX6_factor_55 (by decide) (by omega) (fun c_10 => absurd c_10 (by omega)) (fun c_10 => ?_)
        refine ev_aload_n hC dX6_factor_58 rfl 0 rfl ?_
        refine ev_bipush (v := (nI 41)) hC dX6_factor_59 (by decide) ?_
        refine ev_callV (As := [.int (nI 41)]) (st := []) (wf := []) hC cv_X6_51 (m_X6_accept G ro d sg am en sp3 Y ju (nI ((l ++ List.map cvO (somF Y e (facD Y e d0) (p + 1)).2.2).length)) rn nd e ((somF Y e (facD Y e d0) (p + 1)).2.1) 41 hG (by omega) (by omega)) (by omega) rfl rfl (Nat.le_of_ble_eq_true rfl) (List.Perm.of_eq (List.append_nil _).symm) (mw 0 rfl) rfl dX6_factor_61 (by omega) (by omega) ?_
        rintro _ _ _ ⟨_, _, ⟨rfl, rfl, m_11⟩ | ⟨rfl, rfl, m_11⟩, rfl, rfl, rfl⟩
        · refine ev_ws (List.append_nil _) ?_
          show Ev G X 0 0 64 [(0, .ref (d 0)), (1, .int (nI o))] [.int (nI 1)] (RD G d sg am en sp3 (nI e) (nI (((somF Y e (facD Y e d0) (p + 1)).2.1) + 1)) ju (nI ((l ++ List.map cvO (somF Y e (facD Y e d0) (p + 1)).2.2).length)) rn nd) ro
          have lm_11 := (hr_lt (by omega) m_11).1
          refine ev_if_eqN (tgt := 71) hC dX6_factor_64 (by decide) (by omega) (fun c_12 => absurd c_12 (by omega)) (fun c_12 => ?_)
          refine ev_iconst (v := (nI 1)) hC dX6_factor_67 (by decide) ?_
          refine ev_goto (tgt := 72) hC dX6_factor_68 (by decide) ?_
          refine ev_zret hC hR rfl (by rfl) dX6_factor_72 ?_
          have hr : facD Y e (d0 + 1) p = (true, (somF Y e (facD Y e d0) (p + 1)).2.1 + 1, (somF Y e (facD Y e d0) (p + 1)).2.2) := by rw [facD, if_neg m_2, if_pos m_8, if_pos ⟨ok3, m_11⟩]
          exact ⟨_, (nI ((l ++ List.map cvO (somF Y e (facD Y e d0) (p + 1)).2.2).length)), _, Or.inl ⟨rfl, by rw [hr], by rw [hr], (by rw [hr]; exact hL3)⟩, rfl, by rw [hr], rfl⟩
        · refine ev_ws (List.append_nil _) ?_
          show Ev G X 0 0 64 [(0, .ref (d 0)), (1, .int (nI o))] [.int (nI 0)] (RD G d sg am en sp3 (nI e) (nI ((somF Y e (facD Y e d0) (p + 1)).2.1)) ju (nI ((l ++ List.map cvO (somF Y e (facD Y e d0) (p + 1)).2.2).length)) rn nd) ro
          refine ev_if_eqN (tgt := 71) hC dX6_factor_64 (by decide) (by omega) (fun c_13 => ?_) (fun c_13 => absurd c_13 (by omega))
          refine ev_iconst (v := (nI 0)) hC dX6_factor_71 (by decide) ?_
          refine ev_zret hC hR rfl (by rfl) dX6_factor_72 ?_
          have hr : facD Y e (d0 + 1) p = (false, (somF Y e (facD Y e d0) (p + 1)).2.1, (somF Y e (facD Y e d0) (p + 1)).2.2) := by rw [facD, if_neg m_2, if_pos m_8, if_neg (fun z => m_11 z.2)]
          exact ⟨_, _, _, Or.inr ⟨rfl, by rw [hr]⟩, rfl, by rw [hr], rfl⟩
      · refine ev_ws (List.append_nil _) ?_
        show Ev G X 0 0 55 [(0, .ref (d 0)), (1, .int (nI o))] [.int (nI 0)] (RD G d sg am en sp3 (nI e) (nI ((somF Y e (facD Y e d0) (p + 1)).2.1)) ju sd3 rn nd) ro
        obtain ⟨g1, g2, g3, g4⟩ := somF_p (t := Y) (e := e) (fac := facD Y e d0) (fun p hp => facD_p d0 hp) (p := p + 1) (by omega)
        refine ev_if_eqN (tgt := 71) hC dX6_factor_55 (by decide) (by omega) (fun c_14 => ?_) (fun c_14 => absurd c_14 (by omega))
        refine ev_iconst (v := (nI 0)) hC dX6_factor_71 (by decide) ?_
        refine ev_zret hC hR rfl (by rfl) dX6_factor_72 ?_
        have hr : facD Y e (d0 + 1) p = (false, (somF Y e (facD Y e d0) (p + 1)).2.1, (somF Y e (facD Y e d0) (p + 1)).2.2) := by rw [facD, if_neg m_2, if_pos m_8, if_neg (fun z => by rw [ok3] at z; exact absurd z.1 (by decide))]
        exact ⟨_, _, _, Or.inr ⟨rfl, by rw [hr]⟩, rfl, by rw [hr], rfl⟩
    · refine ev_ws (List.append_nil _) ?_
      show Ev G X 0 0 45 [(0, .ref (d 0)), (1, .int (nI o))] [.int (nI 0)] (RD G d sg am en sp (nI e) (nI p) ju (nI l.length) rn nd) ro
      refine ev_if_eqN (tgt := 73) hC dX6_factor_45 (by decide) (by omega) (fun c_15 => ?_) (fun c_15 => absurd c_15 (by omega))
      refine ev_aload_n hC dX6_factor_73 rfl 0 rfl ?_
      refine ev_ldcS (tx := "pkvsgd") (i := 6) hC dX6_factor_74 (by decide +kernel) ?_
      refine ev_callV (As := [.ref (gK G 6)]) (st := []) (wf := []) hC cv_X6_89 (m_X6_choice G ro d sg am en sp Y ju (nI l.length) rn nd e p 6 hG (by omega) (by decide)) (by omega) rfl rfl (Nat.le_of_ble_eq_true rfl) (List.Perm.of_eq (List.append_nil _).symm) (mw 0 rfl) rfl dX6_factor_76 (by omega) (by omega) ?_
      rintro _ _ _ ⟨_, _, ⟨j_17, ch_16, rfl, rfl⟩ | ⟨ch_16, rfl, rfl⟩, rfl, rfl, rfl⟩
      · refine ev_ws (List.append_nil _) ?_
        show Ev G X 0 0 79 [(0, .ref (d 0)), (1, .int (nI o))] [.int (nI j_17)] (RD G d sg am en sp (nI e) (nI (p + 1)) ju (nI l.length) rn nd) ro
        have ch_16l := (fndF_le ch_16).2
        have ch_16b : j_17 < 6 := ch_16l.1
        have ch_16p := (hr_lt (t := Y) (e := e) (p := p) (c := chN 6 j_17) (by have := (chN_eq 6 (by decide) j_17 ch_16b).2; omega) (ch_16l.2.trans (chN_eq 6 (by decide) j_17 ch_16b).1)).1
        have q6 : fndF 6 (hrF Y e p) 6 0 = some j_17 := ch_16
        refine ev_istore_n (lv' := [(2, .int (nI j_17)), (0, .ref (d 0)), (1, .int (nI o))]) hC dX6_factor_79 rfl (by decide) rfl ?_
        refine ev_iload_n hC dX6_factor_80 rfl 0 rfl ?_
        refine ev_if_geN (tgt := 88) hC dX6_factor_81 (by omega) ?_ (by decide)
        refine ev_aload_n hC dX6_factor_88 rfl 1 rfl ?_
        refine ev_ldcS (tx := "<=>") (i := 7) hC dX6_factor_89 (by decide +kernel) ?_
        refine ev_callV (As := [.ref (gK G 7)]) (st := []) (wf := []) hC cv_X6_89 (m_X6_choice G ro d sg am en sp Y ju (nI l.length) rn nd e (p + 1) 7 hG (by omega) (by decide)) (by omega) rfl rfl (Nat.le_of_ble_eq_true rfl) (List.Perm.of_eq (List.append_nil _).symm) (mw 0 rfl) rfl dX6_factor_91 (by omega) (by omega) ?_
        rintro _ _ _ ⟨_, _, ⟨j_19, ch_18, rfl, rfl⟩ | ⟨ch_18, rfl, rfl⟩, rfl, rfl, rfl⟩
        · refine ev_ws (List.append_nil _) ?_
          show Ev G X 0 0 94 [(2, .int (nI j_17)), (0, .ref (d 0)), (1, .int (nI o))] [.int (nI j_19)] (RD G d sg am en sp (nI e) (nI (p + 2)) ju (nI l.length) rn nd) ro
          have ch_18l := (fndF_le ch_18).2
          have ch_18b : j_19 < 3 := ch_18l.1
          have ch_18p := (hr_lt (t := Y) (e := e) (p := (p + 1)) (c := chN 7 j_19) (by have := (chN_eq 7 (by decide) j_19 ch_18b).2; omega) (ch_18l.2.trans (chN_eq 7 (by decide) j_19 ch_18b).1)).1
          have q7 : fndF 7 (hrF Y e (p + 1)) 3 0 = some j_19 := ch_18
          refine ev_istore_n (lv' := [(3, .int (nI j_19)), (2, .int (nI j_17)), (0, .ref (d 0)), (1, .int (nI o))]) hC dX6_factor_94 rfl (by decide) rfl ?_
          refine ev_iload_n hC dX6_factor_95 rfl 0 rfl ?_
          refine ev_if_geN (tgt := 103) hC dX6_factor_96 (by omega) ?_ (by decide)
          refine ev_aload_n hC dX6_factor_103 rfl 2 rfl ?_
          refine ev_callV (As := []) (st := []) (wf := []) hC cv_X6_96 (m_X6_number G ro d sg am en sp Y ju (nI l.length) rn nd e (p + 2) hG (by omega)) (by omega) rfl rfl (Nat.le_of_ble_eq_true rfl) (List.Perm.of_eq (List.append_nil _).symm) (mw 0 rfl) rfl dX6_factor_104 (by omega) (by omega) ?_
          rintro _ _ _ ⟨_, ⟨rfl, nu_20⟩ | ⟨rfl, nu_20⟩, rfl, rfl, rfl⟩
          · refine ev_ws (List.append_nil _) ?_
            show Ev G X 0 0 107 [(3, .int (nI j_19)), (2, .int (nI j_17)), (0, .ref (d 0)), (1, .int (nI o))] [.int (nI ((numF Y e (p + 2)).2.2))] (RD G d sg am en sp (nI e) (nI ((numF Y e (p + 2)).2.1)) ju (nI l.length) rn nd) ro
            obtain ⟨nu_201, nu_202, nu_203, nu_204⟩ := numF_p (t := Y) (e := e) (p := (p + 2)) (by omega)
            have nu_205 := nu_203 nu_20
            refine ev_istore (lv' := [(4, .int (nI ((numF Y e (p + 2)).2.2))), (3, .int (nI j_19)), (2, .int (nI j_17)), (0, .ref (d 0)), (1, .int (nI o))]) hC dX6_factor_107 (by decide) rfl ?_
            refine ev_iload hC dX6_factor_109 0 rfl ?_
            refine ev_if_geN (tgt := 116) hC dX6_factor_111 (by omega) ?_ (by decide)
            refine ev_aload_n hC dX6_factor_116 rfl 3 rfl ?_
            refine ev_iload_n hC dX6_factor_117 rfl 2 rfl ?_
            refine ev_iload_n hC dX6_factor_118 rfl 1 rfl ?_
            refine ev_iload hC dX6_factor_119 0 rfl ?_
            refine ev_callS (As := [.int (nI j_17), .int (nI j_19), .int (nI ((numF Y e (p + 2)).2.2))]) (st := [.ref (d 0)]) (wc := []) (wf := (RD G d sg am en sp (nI e) (nI ((numF Y e (p + 2)).2.1)) ju (nI l.length) rn nd)) hC ct_X6_133 (m_X10_testStep G ro j_17 j_19 ((numF Y e (p + 2)).2.2)) (by omega) rfl rfl (Nat.le_of_ble_eq_true rfl) (List.Perm.refl _) dX6_factor_121 (by omega) (by omega) ?_
            rintro _ _ _ ⟨rfl, rfl, rfl⟩
            refine ev_ws (List.nil_append _) ?_
            show Ev G X 0 0 124 [(4, .int (nI ((numF Y e (p + 2)).2.2))), (3, .int (nI j_19)), (2, .int (nI j_17)), (0, .ref (d 0)), (1, .int (nI o))] [.int (nI ((j_17 * 3 + j_19) * 100 + ((numF Y e (p + 2)).2.2))), .ref (d 0)] (RD G d sg am en sp (nI e) (nI ((numF Y e (p + 2)).2.1)) ju (nI l.length) rn nd) ro
            refine ev_callV (As := [.int (nI ((j_17 * 3 + j_19) * 100 + ((numF Y e (p + 2)).2.2)))]) (st := []) (wf := []) hC cv_X6_125 (m_X6_step G ro d sg am en sp (nI e) (nI ((numF Y e (p + 2)).2.1)) ju rn nd (nI ((j_17 * 3 + j_19) * 100 + ((numF Y e (p + 2)).2.2))) l.length (by first | omega | (simp only [List.length_append, List.length_map, List.length_cons, List.length_nil]; omega))) (by omega) rfl rfl (Nat.le_of_ble_eq_true rfl) (List.Perm.of_eq (List.append_nil _).symm) (mw 0 rfl) rfl dX6_factor_124 (by omega) (by omega) ?_
            rintro _ _ _ ⟨rfl, rfl, rfl⟩
            refine ev_ws (List.append_nil _) ?_
            show Ev G X 0 0 127 [(4, .int (nI ((numF Y e (p + 2)).2.2))), (3, .int (nI j_19)), (2, .int (nI j_17)), (0, .ref (d 0)), (1, .int (nI o))] [] (RD G d sg am en (upd sp l.length (nI ((j_17 * 3 + j_19) * 100 + ((numF Y e (p + 2)).2.2)))) (nI e) (nI ((numF Y e (p + 2)).2.1)) ju (nI (l.length + 1)) rn nd) ro
            refine ev_iconst (v := (nI 1)) hC dX6_factor_127 (by decide) ?_
            refine ev_zret hC hR rfl (by rfl) dX6_factor_128 ?_
            have hr0 : facD Y e (d0 + 1) p = tstF Y e p := by rw [facD, if_neg m_2, if_neg m_8]
            rw [hr0]
            have hr := tst_yes (t := Y) (e := e) (p := p) q6 q7
            rw [nu_20] at hr
            rw [if_pos rfl] at hr
            have hm : (tstF Y e p).2.2.map cvO = [nI ((j_17 * 3 + j_19) * 100 + (numF Y e (p + 2)).2.2)] := by rw [hr]; exact congrArg (fun z => [z]) (cvO_mk (by omega) (by omega) (by omega))
            exact ⟨_, (nI (l.length + 1)), _, Or.inl ⟨rfl, by rw [hr], (by rw [hm]; simp only [List.length_append, List.length_singleton]), (by rw [hm]; exact hL.push _)⟩, rfl, by rw [hr], rfl⟩
          · refine ev_ws (List.append_nil _) ?_
            show Ev G X 0 0 107 [(3, .int (nI j_19)), (2, .int (nI j_17)), (0, .ref (d 0)), (1, .int (nI o))] [.int (-1)] (RD G d sg am en sp (nI e) (nI ((numF Y e (p + 2)).2.1)) ju (nI l.length) rn nd) ro
            obtain ⟨nu_201, nu_202, nu_203, nu_204⟩ := numF_p (t := Y) (e := e) (p := (p + 2)) (by omega)
            have nu_205 := nu_203
            refine ev_istore (lv' := [(4, .int (-1)), (3, .int (nI j_19)), (2, .int (nI j_17)), (0, .ref (d 0)), (1, .int (nI o))]) hC dX6_factor_107 (by decide) rfl ?_
            refine ev_iload hC dX6_factor_109 0 rfl ?_
            refine ev_if_ge (tgt := 116) hC dX6_factor_111 (by decide) (fun c_21 => absurd c_21 (by decide)) (fun c_21 => ?_)
            refine ev_iconst (v := (nI 0)) hC dX6_factor_114 (by decide) ?_
            refine ev_zret hC hR rfl (by rfl) dX6_factor_115 ?_
            have hr0 : facD Y e (d0 + 1) p = tstF Y e p := by rw [facD, if_neg m_2, if_neg m_8]
            rw [hr0]
            have hr := tst_yes (t := Y) (e := e) (p := p) q6 q7
            rw [nu_20] at hr
            exact ⟨_, _, _, Or.inr ⟨rfl, by rw [hr]⟩, rfl, by rw [hr], rfl⟩
        · refine ev_ws (List.append_nil _) ?_
          show Ev G X 0 0 94 [(2, .int (nI j_17)), (0, .ref (d 0)), (1, .int (nI o))] [.int (-1)] (RD G d sg am en sp (nI e) (nI (p + 1)) ju (nI l.length) rn nd) ro
          have q7 : fndF 7 (hrF Y e (p + 1)) 3 0 = none := ch_18
          refine ev_istore_n (lv' := [(3, .int (-1)), (2, .int (nI j_17)), (0, .ref (d 0)), (1, .int (nI o))]) hC dX6_factor_94 rfl (by decide) rfl ?_
          refine ev_iload_n hC dX6_factor_95 rfl 0 rfl ?_
          refine ev_if_ge (tgt := 103) hC dX6_factor_96 (by decide) (fun c_22 => absurd c_22 (by decide)) (fun c_22 => ?_)
          refine ev_iconst (v := (-1)) hC dX6_factor_99 (by decide) ?_
          refine ev_goto (tgt := 107) hC dX6_factor_100 (by decide) ?_
          refine ev_istore (lv' := [(4, .int (-1)), (3, .int (-1)), (2, .int (nI j_17)), (0, .ref (d 0)), (1, .int (nI o))]) hC dX6_factor_107 (by decide) rfl ?_
          refine ev_iload hC dX6_factor_109 0 rfl ?_
          refine ev_if_ge (tgt := 116) hC dX6_factor_111 (by decide) (fun c_23 => absurd c_23 (by decide)) (fun c_23 => ?_)
          refine ev_iconst (v := (nI 0)) hC dX6_factor_114 (by decide) ?_
          refine ev_zret hC hR rfl (by rfl) dX6_factor_115 ?_
          have hr0 : facD Y e (d0 + 1) p = tstF Y e p := by rw [facD, if_neg m_2, if_neg m_8]
          rw [hr0]
          have hr := tst_no2 (t := Y) (e := e) (p := p) q6 q7
          exact ⟨_, _, _, Or.inr ⟨rfl, by rw [hr]⟩, rfl, by rw [hr], rfl⟩
      · refine ev_ws (List.append_nil _) ?_
        show Ev G X 0 0 79 [(0, .ref (d 0)), (1, .int (nI o))] [.int (-1)] (RD G d sg am en sp (nI e) (nI p) ju (nI l.length) rn nd) ro
        have q6 : fndF 6 (hrF Y e p) 6 0 = none := ch_16
        refine ev_istore_n (lv' := [(2, .int (-1)), (0, .ref (d 0)), (1, .int (nI o))]) hC dX6_factor_79 rfl (by decide) rfl ?_
        refine ev_iload_n hC dX6_factor_80 rfl 0 rfl ?_
        refine ev_if_ge (tgt := 88) hC dX6_factor_81 (by decide) (fun c_24 => absurd c_24 (by decide)) (fun c_24 => ?_)
        refine ev_iconst (v := (-1)) hC dX6_factor_84 (by decide) ?_
        refine ev_goto (tgt := 94) hC dX6_factor_85 (by decide) ?_
        refine ev_istore_n (lv' := [(3, .int (-1)), (2, .int (-1)), (0, .ref (d 0)), (1, .int (nI o))]) hC dX6_factor_94 rfl (by decide) rfl ?_
        refine ev_iload_n hC dX6_factor_95 rfl 0 rfl ?_
        refine ev_if_ge (tgt := 103) hC dX6_factor_96 (by decide) (fun c_25 => absurd c_25 (by decide)) (fun c_25 => ?_)
        refine ev_iconst (v := (-1)) hC dX6_factor_99 (by decide) ?_
        refine ev_goto (tgt := 107) hC dX6_factor_100 (by decide) ?_
        refine ev_istore (lv' := [(4, .int (-1)), (3, .int (-1)), (2, .int (-1)), (0, .ref (d 0)), (1, .int (nI o))]) hC dX6_factor_107 (by decide) rfl ?_
        refine ev_iload hC dX6_factor_109 0 rfl ?_
        refine ev_if_ge (tgt := 116) hC dX6_factor_111 (by decide) (fun c_26 => absurd c_26 (by decide)) (fun c_26 => ?_)
        refine ev_iconst (v := (nI 0)) hC dX6_factor_114 (by decide) ?_
        refine ev_zret hC hR rfl (by rfl) dX6_factor_115 ?_
        have hr0 : facD Y e (d0 + 1) p = tstF Y e p := by rw [facD, if_neg m_2, if_neg m_8]
        rw [hr0]
        have hr := tst_no (t := Y) (e := e) (p := p) q6
        exact ⟨_, _, _, Or.inr ⟨rfl, by rw [hr]⟩, rfl, by rw [hr], rfl⟩

set_option maxHeartbeats 4000000 in
set_option maxRecDepth 100000 in
theorem m_X6_expression (G : GG) (ro : va_W) (o dd : Nat) (h5 : 5 ≤ dd) (fac : (Nat → Int32) → Nat → Nat → RE) (hf : PartC G M_X6_factor dd o fac) (hF : ∀ Y e p, p ≤ e → Fgo e p (fac Y e p)) (d : Nat → Nat) (sg am en sp : Nat → Int32) (ju rn nd : Int32) (Y : Nat → Int32) (e p : Nat) (l : List Int32) (hG : RdOK sg Y e) (hp : p ≤ e) (hL : LstF sp l) (hl : l.length ≤ p) : Mth G M_X6_expression (dd + 1) 0 0 [.ref (d 0), .int (nI o)] (RD G d sg am en sp (nI e) (nI p) ju (nI l.length) rn nd) ro (fun r ws' ro' => ∃ (sp' : Nat → Int32), ∃ (sd' : Int32), ∃ (v' : Int32), ((v' = nI 1 ∧ (somF Y e (fac Y e) p).1 = true ∧ sd' = nI (l ++ (somF Y e (fac Y e) p).2.2.map cvO).length ∧ LstF sp' (l ++ (somF Y e (fac Y e) p).2.2.map cvO)) ∨ (v' = nI 0 ∧ (somF Y e (fac Y e) p).1 = false)) ∧ r = some (.int v') ∧ ws' = (RD G d sg am en sp' (nI e) (nI ((somF Y e (fac Y e) p).2.1)) ju sd' rn nd) ∧ ro = ro') := by
  refine mth_of (by decide +kernel) (Nat.le_of_ble_eq_true rfl) (fun X hC hR => ?_)
  have he := hG.1.1
  show Ev G X 0 0 0 [(0, .ref (d 0)), (1, .int (nI o))] [] (RD G d sg am en sp (nI e) (nI p) ju (nI l.length) rn nd) ro
  refine ev_iconst (v := (nI 0)) hC dX6_expression_0 (by decide) ?_
  refine ev_istore_n (lv' := [(2, .int (nI 0)), (0, .ref (d 0)), (1, .int (nI o))]) hC dX6_expression_1 rfl (by decide) rfl ?_
  refine ev_iconst (v := (nI 0)) hC dX6_expression_2 (by decide) ?_
  refine ev_istore_n (lv' := [(3, .int (nI 0)), (2, .int (nI 0)), (0, .ref (d 0)), (1, .int (nI o))]) hC dX6_expression_3 rfl (by decide) rfl ?_
  refine ev_iconst (v := (nI 0)) hC dX6_expression_4 (by decide) ?_
  refine ev_istore (lv' := [(4, .int (nI 0)), (3, .int (nI 0)), (2, .int (nI 0)), (0, .ref (d 0)), (1, .int (nI o))]) hC dX6_expression_5 (by decide) rfl ?_
  have lp_7 : ∀ (fu_7 : Nat) (a : Bool) (o2 : Bool) (ls : List Int32) (lt : List Int32) (q : Nat) (m : Nat) (n : Nat) (i : Nat) (sp2 : Nat → Int32) (hex : exF Y e (fac Y e) a o2 ls lt q m n = somF Y e (fac Y e) p) (ha : a = false → lt = []) (ho2 : o2 = false → ls = []) (hL2 : LstF sp2 (l ++ List.map cvO (ls ++ lt))) (hq : p ≤ q ∧ q ≤ e) (hm : e - q < m) (hn2 : e - q < n) (hi : 2 * i + p ≤ q) (hlen : l.length + ls.length + lt.length + b2N a + b2N o2 ≤ q) (hn : e + 1 - q < fu_7), Ev G X 0 0 7 [(0, .ref (d 0)), (1, .int (nI o)), (2, .int (nI (b2N a))), (3, .int (nI (b2N o2))), (4, .int (nI i))] [] (RD G d sg am en sp2 (nI e) (nI q) ju (nI ((l ++ List.map cvO (ls ++ lt)).length)) rn nd) ro := by
    intro fu_7
    induction fu_7 with
    | zero => intro a o2 ls lt q m n i sp2 hex ha ho2 hL2 hq hm hn2 hi hlen hn; exact absurd hn (Nat.not_lt_zero _)
    | succ fu_7 ih =>
      intro a o2 ls lt q m n i sp2 hex ha ho2 hL2 hq hm hn2 hi hlen hn
      rcases a with _ | _ <;> rcases o2 with _ | _
      · show Ev G X 0 0 7 [(0, .ref (d 0)), (1, .int (nI o)), (2, .int (nI 0)), (3, .int (nI 0)), (4, .int (nI i))] [] (RD G d sg am en sp2 (nI e) (nI q) ju (nI ((l ++ List.map cvO (ls ++ lt)).length)) rn nd) ro
        have hlen2 : l.length + ls.length + lt.length + 0 + 0 ≤ q := hlen
        refine ev_iload hC dX6_expression_7 4 rfl ?_
        refine ev_bipush (v := (nI 100)) hC dX6_expression_9 (by decide) ?_
        refine ev_icmp_geN (tgt := 76) hC dX6_expression_11 (by decide) (by omega) (by omega) (fun c_1 => absurd c_1 (by omega)) (fun c_1 => ?_)
        refine ev_aload_n hC dX6_expression_14 rfl 0 rfl ?_
        refine ev_iload_n hC dX6_expression_15 rfl 1 rfl ?_
        refine ev_callV (As := [.int (nI o)]) (st := []) (wf := []) hC cv_X6_122 (hf ro d sg am en sp2 ju rn nd Y e q (l ++ List.map cvO (ls ++ lt)) hG (by omega) hL2 (by simp only [List.length_append, List.length_map]; omega)) (by omega) rfl rfl (Nat.le_of_ble_eq_true rfl) (List.Perm.of_eq (List.append_nil _).symm) (mw 0 rfl) rfl dX6_expression_16 (by omega) (by omega) ?_
        rintro _ _ _ ⟨sp3, sd3, _, ⟨rfl, ok3, rfl, hL3⟩ | ⟨rfl, ok3⟩, rfl, rfl, rfl⟩
        · refine ev_ws (List.append_nil _) ?_
          show Ev G X 0 0 19 [(0, .ref (d 0)), (1, .int (nI o)), (2, .int (nI 0)), (3, .int (nI 0)), (4, .int (nI i))] [.int (nI 1)] (RD G d sg am en sp3 (nI e) (nI ((fac Y e q).2.1)) ju (nI (((l ++ List.map cvO (ls ++ lt)) ++ List.map cvO (fac Y e q).2.2).length)) rn nd) ro
          obtain ⟨g1, g2, g3, g4⟩ := hF Y e q (by omega)
          have g5 := g3 ok3
          refine ev_if_neN (tgt := 24) hC dX6_expression_19 (by decide) (by omega) (fun c_2 => ?_) (fun c_2 => absurd c_2 (by omega))
          refine ev_iload_n hC dX6_expression_24 rfl 2 rfl ?_
          refine ev_if_eqN (tgt := 33) hC dX6_expression_25 (by decide) (by omega) (fun c_3 => ?_) (fun c_3 => absurd c_3 (by omega))
          refine ev_aload_n hC dX6_expression_33 rfl 0 rfl ?_
          refine ev_bipush (v := (nI 38)) hC dX6_expression_34 (by decide) ?_
          refine ev_callV (As := [.int (nI 38)]) (st := []) (wf := []) hC cv_X6_51 (m_X6_accept G ro d sg am en sp3 Y ju (nI (((l ++ List.map cvO (ls ++ lt)) ++ List.map cvO (fac Y e q).2.2).length)) rn nd e ((fac Y e q).2.1) 38 hG (by omega) (by omega)) (by omega) rfl rfl (Nat.le_of_ble_eq_true rfl) (List.Perm.of_eq (List.append_nil _).symm) (mw 0 rfl) rfl dX6_expression_36 (by omega) (by omega) ?_
          rintro _ _ _ ⟨_, _, ⟨rfl, rfl, m_4⟩ | ⟨rfl, rfl, m_4⟩, rfl, rfl, rfl⟩
          · refine ev_ws (List.append_nil _) ?_
            show Ev G X 0 0 39 [(0, .ref (d 0)), (1, .int (nI o)), (2, .int (nI 0)), (3, .int (nI 0)), (4, .int (nI i))] [.int (nI 1)] (RD G d sg am en sp3 (nI e) (nI (((fac Y e q).2.1) + 1)) ju (nI (((l ++ List.map cvO (ls ++ lt)) ++ List.map cvO (fac Y e q).2.2).length)) rn nd) ro
            have lm_4 := (hr_lt (by omega) m_4).1
            refine ev_istore_n (lv' := [(2, .int (nI 1)), (0, .ref (d 0)), (1, .int (nI o)), (3, .int (nI 0)), (4, .int (nI i))]) hC dX6_expression_39 rfl (by decide) rfl ?_
            refine ev_iload_n hC dX6_expression_40 rfl 0 rfl ?_
            refine ev_if_eqN (tgt := 47) hC dX6_expression_41 (by decide) (by omega) (fun c_5 => absurd c_5 (by omega)) (fun c_5 => ?_)
            refine ev_goto (tgt := 70) hC dX6_expression_44 (by decide) ?_
            refine ev_iinc (v := (nI (i + 1))) (lv' := [(4, .int (nI (i + 1))), (2, .int (nI 1)), (0, .ref (d 0)), (1, .int (nI o)), (3, .int (nI 0))]) hC dX6_expression_70 (q := 4) rfl (nI_k _ _ 1 (by decide)) (by decide) rfl ?_
            refine ev_goto (tgt := 7) hC dX6_expression_73 (by decide) ?_
            refine ev_lv [2, 3, 1, 4, 0] rfl ?_
            refine ev_ws (ws' := (RD G d sg am en sp3 (nI e) (nI (((fac Y e q).2.1) + 1)) ju (nI ((l ++ List.map cvO (ls ++ (lt ++ ((fac Y e q).2.2 ++ onI false (-2))))).length)) rn nd)) (by rw [show ((l ++ List.map cvO (ls ++ lt)) ++ List.map cvO (fac Y e q).2.2).length = (l ++ List.map cvO (ls ++ (lt ++ ((fac Y e q).2.2 ++ onI false (-2))))).length from (by simp [onI]; try omega)]) ?_
            exact ih true false ls (lt ++ ((fac Y e q).2.2 ++ onI false (-2))) (((fac Y e q).2.1) + 1) (m - 1) n (i + 1) sp3 ((ex_and ok3 ha m_4 (by omega)).symm.trans hex) (fun z => by cases z) ho2 (by have z := hL3; have e1 : l ++ List.map cvO (ls ++ (lt ++ ((fac Y e q).2.2 ++ onI false (-2)))) = ((l ++ List.map cvO (ls ++ lt)) ++ List.map cvO (fac Y e q).2.2) := (by simp [onI, show cvO (-2) = -1 from by decide]); rw [e1]; exact z) (by omega) (by omega) (by omega) (by omega) (by simp [onI, b2N]; omega) (by omega)
          · refine ev_ws (List.append_nil _) ?_
            show Ev G X 0 0 39 [(0, .ref (d 0)), (1, .int (nI o)), (2, .int (nI 0)), (3, .int (nI 0)), (4, .int (nI i))] [.int (nI 0)] (RD G d sg am en sp3 (nI e) (nI ((fac Y e q).2.1)) ju (nI (((l ++ List.map cvO (ls ++ lt)) ++ List.map cvO (fac Y e q).2.2).length)) rn nd) ro
            refine ev_istore_n (lv' := [(2, .int (nI 0)), (0, .ref (d 0)), (1, .int (nI o)), (3, .int (nI 0)), (4, .int (nI i))]) hC dX6_expression_39 rfl (by decide) rfl ?_
            refine ev_iload_n hC dX6_expression_40 rfl 0 rfl ?_
            refine ev_if_eqN (tgt := 47) hC dX6_expression_41 (by decide) (by omega) (fun c_6 => ?_) (fun c_6 => absurd c_6 (by omega))
            refine ev_iload_n hC dX6_expression_47 rfl 3 rfl ?_
            refine ev_if_eqN (tgt := 57) hC dX6_expression_48 (by decide) (by omega) (fun c_7 => ?_) (fun c_7 => absurd c_7 (by omega))
            refine ev_aload_n hC dX6_expression_57 rfl 1 rfl ?_
            refine ev_bipush (v := (nI 124)) hC dX6_expression_58 (by decide) ?_
            refine ev_callV (As := [.int (nI 124)]) (st := []) (wf := []) hC cv_X6_51 (m_X6_accept G ro d sg am en sp3 Y ju (nI (((l ++ List.map cvO (ls ++ lt)) ++ List.map cvO (fac Y e q).2.2).length)) rn nd e ((fac Y e q).2.1) 124 hG (by omega) (by omega)) (by omega) rfl rfl (Nat.le_of_ble_eq_true rfl) (List.Perm.of_eq (List.append_nil _).symm) (mw 0 rfl) rfl dX6_expression_60 (by omega) (by omega) ?_
            rintro _ _ _ ⟨_, _, ⟨rfl, rfl, m_8⟩ | ⟨rfl, rfl, m_8⟩, rfl, rfl, rfl⟩
            · refine ev_ws (List.append_nil _) ?_
              show Ev G X 0 0 63 [(2, .int (nI 0)), (0, .ref (d 0)), (1, .int (nI o)), (3, .int (nI 0)), (4, .int (nI i))] [.int (nI 1)] (RD G d sg am en sp3 (nI e) (nI (((fac Y e q).2.1) + 1)) ju (nI (((l ++ List.map cvO (ls ++ lt)) ++ List.map cvO (fac Y e q).2.2).length)) rn nd) ro
              have lm_8 := (hr_lt (by omega) m_8).1
              refine ev_istore_n (lv' := [(3, .int (nI 1)), (2, .int (nI 0)), (0, .ref (d 0)), (1, .int (nI o)), (4, .int (nI i))]) hC dX6_expression_63 rfl (by decide) rfl ?_
              refine ev_iload_n hC dX6_expression_64 rfl 0 rfl ?_
              refine ev_if_neN (tgt := 70) hC dX6_expression_65 (by decide) (by omega) (fun c_9 => ?_) (fun c_9 => absurd c_9 (by omega))
              refine ev_iinc (v := (nI (i + 1))) (lv' := [(4, .int (nI (i + 1))), (3, .int (nI 1)), (2, .int (nI 0)), (0, .ref (d 0)), (1, .int (nI o))]) hC dX6_expression_70 (q := 4) rfl (nI_k _ _ 1 (by decide)) (by decide) rfl ?_
              refine ev_goto (tgt := 7) hC dX6_expression_73 (by decide) ?_
              refine ev_lv [3, 4, 2, 1, 0] rfl ?_
              refine ev_ws (ws' := (RD G d sg am en sp3 (nI e) (nI (((fac Y e q).2.1) + 1)) ju (nI ((l ++ List.map cvO ((ls ++ ((lt ++ ((fac Y e q).2.2 ++ onI false (-2))) ++ onI false (-3))) ++ [])).length)) rn nd)) (by rw [show ((l ++ List.map cvO (ls ++ lt)) ++ List.map cvO (fac Y e q).2.2).length = (l ++ List.map cvO ((ls ++ ((lt ++ ((fac Y e q).2.2 ++ onI false (-2))) ++ onI false (-3))) ++ [])).length from (by simp [onI]; try omega)]) ?_
              exact ih false true (ls ++ ((lt ++ ((fac Y e q).2.2 ++ onI false (-2))) ++ onI false (-3))) [] (((fac Y e q).2.1) + 1) 101 (n - 1) (i + 1) sp3 ((ex_or ok3 ha ho2 m_4 m_8 (by omega)).symm.trans hex) (fun _ => rfl) (fun z => by cases z) (by have z := hL3; have e1 : l ++ List.map cvO ((ls ++ ((lt ++ ((fac Y e q).2.2 ++ onI false (-2))) ++ onI false (-3))) ++ []) = ((l ++ List.map cvO (ls ++ lt)) ++ List.map cvO (fac Y e q).2.2) := (by simp [onI, show cvO (-2) = -1 from by decide, show cvO (-3) = -2 from by decide]); rw [e1]; exact z) (by omega) (by omega) (by omega) (by omega) (by simp [onI, b2N]; omega) (by omega)
            · refine ev_ws (List.append_nil _) ?_
              show Ev G X 0 0 63 [(2, .int (nI 0)), (0, .ref (d 0)), (1, .int (nI o)), (3, .int (nI 0)), (4, .int (nI i))] [.int (nI 0)] (RD G d sg am en sp3 (nI e) (nI ((fac Y e q).2.1)) ju (nI (((l ++ List.map cvO (ls ++ lt)) ++ List.map cvO (fac Y e q).2.2).length)) rn nd) ro
              refine ev_istore_n (lv' := [(3, .int (nI 0)), (2, .int (nI 0)), (0, .ref (d 0)), (1, .int (nI o)), (4, .int (nI i))]) hC dX6_expression_63 rfl (by decide) rfl ?_
              refine ev_iload_n hC dX6_expression_64 rfl 0 rfl ?_
              refine ev_if_neN (tgt := 70) hC dX6_expression_65 (by decide) (by omega) (fun c_10 => absurd c_10 (by omega)) (fun c_10 => ?_)
              refine ev_iconst (v := (nI 1)) hC dX6_expression_68 (by decide) ?_
              refine ev_zret hC hR rfl (by rfl) dX6_expression_69 ?_
              have hr := hex.symm.trans (ex_end (m := m) (n := n) ok3 ha ho2 m_4 m_8)
              have e1 : l ++ List.map cvO (somF Y e (fac Y e) p).2.2 = ((l ++ List.map cvO (ls ++ lt)) ++ List.map cvO (fac Y e q).2.2) := by rw [hr]; simp [onI, show cvO (-2) = -1 from by decide, show cvO (-3) = -2 from by decide]
              exact ⟨_, (nI (((l ++ List.map cvO (ls ++ lt)) ++ List.map cvO (fac Y e q).2.2).length)), _, Or.inl ⟨rfl, by rw [hr], (congrArg nI (by rw [e1]; try simp; try omega)), (by rw [e1]; exact hL3)⟩, rfl, by rw [hr], rfl⟩
        · refine ev_ws (List.append_nil _) ?_
          show Ev G X 0 0 19 [(0, .ref (d 0)), (1, .int (nI o)), (2, .int (nI 0)), (3, .int (nI 0)), (4, .int (nI i))] [.int (nI 0)] (RD G d sg am en sp3 (nI e) (nI ((fac Y e q).2.1)) ju sd3 rn nd) ro
          obtain ⟨g1, g2, g3, g4⟩ := hF Y e q (by omega)
          refine ev_if_neN (tgt := 24) hC dX6_expression_19 (by decide) (by omega) (fun c_11 => absurd c_11 (by omega)) (fun c_11 => ?_)
          refine ev_iconst (v := (nI 0)) hC dX6_expression_22 (by decide) ?_
          refine ev_zret hC hR rfl (by rfl) dX6_expression_23 ?_
          have h0 := ex_no (t := Y) (e := e) (fac := fac Y e) (a := false) (o := false) (ls := ls) (lt := lt) (p := q) (m := m) (n := n) ok3
          rw [hex] at h0
          exact ⟨_, _, _, Or.inr ⟨rfl, h0.1⟩, rfl, by rw [h0.2], rfl⟩
      · show Ev G X 0 0 7 [(0, .ref (d 0)), (1, .int (nI o)), (2, .int (nI 0)), (3, .int (nI 1)), (4, .int (nI i))] [] (RD G d sg am en sp2 (nI e) (nI q) ju (nI ((l ++ List.map cvO (ls ++ lt)).length)) rn nd) ro
        have hlen2 : l.length + ls.length + lt.length + 0 + 1 ≤ q := hlen
        refine ev_iload hC dX6_expression_7 4 rfl ?_
        refine ev_bipush (v := (nI 100)) hC dX6_expression_9 (by decide) ?_
        refine ev_icmp_geN (tgt := 76) hC dX6_expression_11 (by decide) (by omega) (by omega) (fun c_12 => absurd c_12 (by omega)) (fun c_12 => ?_)
        refine ev_aload_n hC dX6_expression_14 rfl 0 rfl ?_
        refine ev_iload_n hC dX6_expression_15 rfl 1 rfl ?_
        refine ev_callV (As := [.int (nI o)]) (st := []) (wf := []) hC cv_X6_122 (hf ro d sg am en sp2 ju rn nd Y e q (l ++ List.map cvO (ls ++ lt)) hG (by omega) hL2 (by simp only [List.length_append, List.length_map]; omega)) (by omega) rfl rfl (Nat.le_of_ble_eq_true rfl) (List.Perm.of_eq (List.append_nil _).symm) (mw 0 rfl) rfl dX6_expression_16 (by omega) (by omega) ?_
        rintro _ _ _ ⟨sp3, sd3, _, ⟨rfl, ok3, rfl, hL3⟩ | ⟨rfl, ok3⟩, rfl, rfl, rfl⟩
        · refine ev_ws (List.append_nil _) ?_
          show Ev G X 0 0 19 [(0, .ref (d 0)), (1, .int (nI o)), (2, .int (nI 0)), (3, .int (nI 1)), (4, .int (nI i))] [.int (nI 1)] (RD G d sg am en sp3 (nI e) (nI ((fac Y e q).2.1)) ju (nI (((l ++ List.map cvO (ls ++ lt)) ++ List.map cvO (fac Y e q).2.2).length)) rn nd) ro
          obtain ⟨g1, g2, g3, g4⟩ := hF Y e q (by omega)
          have g5 := g3 ok3
          refine ev_if_neN (tgt := 24) hC dX6_expression_19 (by decide) (by omega) (fun c_13 => ?_) (fun c_13 => absurd c_13 (by omega))
          refine ev_iload_n hC dX6_expression_24 rfl 2 rfl ?_
          refine ev_if_eqN (tgt := 33) hC dX6_expression_25 (by decide) (by omega) (fun c_14 => ?_) (fun c_14 => absurd c_14 (by omega))
          refine ev_aload_n hC dX6_expression_33 rfl 0 rfl ?_
          refine ev_bipush (v := (nI 38)) hC dX6_expression_34 (by decide) ?_
          refine ev_callV (As := [.int (nI 38)]) (st := []) (wf := []) hC cv_X6_51 (m_X6_accept G ro d sg am en sp3 Y ju (nI (((l ++ List.map cvO (ls ++ lt)) ++ List.map cvO (fac Y e q).2.2).length)) rn nd e ((fac Y e q).2.1) 38 hG (by omega) (by omega)) (by omega) rfl rfl (Nat.le_of_ble_eq_true rfl) (List.Perm.of_eq (List.append_nil _).symm) (mw 0 rfl) rfl dX6_expression_36 (by omega) (by omega) ?_
          rintro _ _ _ ⟨_, _, ⟨rfl, rfl, m_15⟩ | ⟨rfl, rfl, m_15⟩, rfl, rfl, rfl⟩
          · refine ev_ws (List.append_nil _) ?_
            show Ev G X 0 0 39 [(0, .ref (d 0)), (1, .int (nI o)), (2, .int (nI 0)), (3, .int (nI 1)), (4, .int (nI i))] [.int (nI 1)] (RD G d sg am en sp3 (nI e) (nI (((fac Y e q).2.1) + 1)) ju (nI (((l ++ List.map cvO (ls ++ lt)) ++ List.map cvO (fac Y e q).2.2).length)) rn nd) ro
            have lm_15 := (hr_lt (by omega) m_15).1
            refine ev_istore_n (lv' := [(2, .int (nI 1)), (0, .ref (d 0)), (1, .int (nI o)), (3, .int (nI 1)), (4, .int (nI i))]) hC dX6_expression_39 rfl (by decide) rfl ?_
            refine ev_iload_n hC dX6_expression_40 rfl 0 rfl ?_
            refine ev_if_eqN (tgt := 47) hC dX6_expression_41 (by decide) (by omega) (fun c_16 => absurd c_16 (by omega)) (fun c_16 => ?_)
            refine ev_goto (tgt := 70) hC dX6_expression_44 (by decide) ?_
            refine ev_iinc (v := (nI (i + 1))) (lv' := [(4, .int (nI (i + 1))), (2, .int (nI 1)), (0, .ref (d 0)), (1, .int (nI o)), (3, .int (nI 1))]) hC dX6_expression_70 (q := 4) rfl (nI_k _ _ 1 (by decide)) (by decide) rfl ?_
            refine ev_goto (tgt := 7) hC dX6_expression_73 (by decide) ?_
            refine ev_lv [2, 3, 1, 4, 0] rfl ?_
            refine ev_ws (ws' := (RD G d sg am en sp3 (nI e) (nI (((fac Y e q).2.1) + 1)) ju (nI ((l ++ List.map cvO (ls ++ (lt ++ ((fac Y e q).2.2 ++ onI false (-2))))).length)) rn nd)) (by rw [show ((l ++ List.map cvO (ls ++ lt)) ++ List.map cvO (fac Y e q).2.2).length = (l ++ List.map cvO (ls ++ (lt ++ ((fac Y e q).2.2 ++ onI false (-2))))).length from (by simp [onI]; try omega)]) ?_
            exact ih true true ls (lt ++ ((fac Y e q).2.2 ++ onI false (-2))) (((fac Y e q).2.1) + 1) (m - 1) n (i + 1) sp3 ((ex_and ok3 ha m_15 (by omega)).symm.trans hex) (fun z => by cases z) ho2 (by have z := hL3; have e1 : l ++ List.map cvO (ls ++ (lt ++ ((fac Y e q).2.2 ++ onI false (-2)))) = ((l ++ List.map cvO (ls ++ lt)) ++ List.map cvO (fac Y e q).2.2) := (by simp [onI, show cvO (-2) = -1 from by decide]); rw [e1]; exact z) (by omega) (by omega) (by omega) (by omega) (by simp [onI, b2N]; omega) (by omega)
          · refine ev_ws (List.append_nil _) ?_
            show Ev G X 0 0 39 [(0, .ref (d 0)), (1, .int (nI o)), (2, .int (nI 0)), (3, .int (nI 1)), (4, .int (nI i))] [.int (nI 0)] (RD G d sg am en sp3 (nI e) (nI ((fac Y e q).2.1)) ju (nI (((l ++ List.map cvO (ls ++ lt)) ++ List.map cvO (fac Y e q).2.2).length)) rn nd) ro
            refine ev_istore_n (lv' := [(2, .int (nI 0)), (0, .ref (d 0)), (1, .int (nI o)), (3, .int (nI 1)), (4, .int (nI i))]) hC dX6_expression_39 rfl (by decide) rfl ?_
            refine ev_iload_n hC dX6_expression_40 rfl 0 rfl ?_
            refine ev_if_eqN (tgt := 47) hC dX6_expression_41 (by decide) (by omega) (fun c_17 => ?_) (fun c_17 => absurd c_17 (by omega))
            refine ev_iload_n hC dX6_expression_47 rfl 3 rfl ?_
            refine ev_if_eqN (tgt := 57) hC dX6_expression_48 (by decide) (by omega) (fun c_18 => absurd c_18 (by omega)) (fun c_18 => ?_)
            refine ev_aload_n hC dX6_expression_51 rfl 1 rfl ?_
            refine ev_bipush (v := (-2)) hC dX6_expression_52 (by decide) ?_
            refine ev_callV (As := [.int (-2)]) (st := []) (wf := []) hC cv_X6_125 (m_X6_step G ro d sg am en sp3 (nI e) (nI ((fac Y e q).2.1)) ju rn nd (-2) (((l ++ List.map cvO (ls ++ lt)) ++ List.map cvO (fac Y e q).2.2).length) (by first | omega | (simp only [List.length_append, List.length_map, List.length_cons, List.length_nil]; omega))) (by omega) rfl rfl (Nat.le_of_ble_eq_true rfl) (List.Perm.of_eq (List.append_nil _).symm) (mw 0 rfl) rfl dX6_expression_54 (by omega) (by omega) ?_
            rintro _ _ _ ⟨rfl, rfl, rfl⟩
            refine ev_ws (List.append_nil _) ?_
            show Ev G X 0 0 57 [(2, .int (nI 0)), (0, .ref (d 0)), (1, .int (nI o)), (3, .int (nI 1)), (4, .int (nI i))] [] (RD G d sg am en (upd sp3 (((l ++ List.map cvO (ls ++ lt)) ++ List.map cvO (fac Y e q).2.2).length) (-2)) (nI e) (nI ((fac Y e q).2.1)) ju (nI ((((l ++ List.map cvO (ls ++ lt)) ++ List.map cvO (fac Y e q).2.2).length) + 1)) rn nd) ro
            refine ev_aload_n hC dX6_expression_57 rfl 1 rfl ?_
            refine ev_bipush (v := (nI 124)) hC dX6_expression_58 (by decide) ?_
            refine ev_callV (As := [.int (nI 124)]) (st := []) (wf := []) hC cv_X6_51 (m_X6_accept G ro d sg am en (upd sp3 (((l ++ List.map cvO (ls ++ lt)) ++ List.map cvO (fac Y e q).2.2).length) (-2)) Y ju (nI ((((l ++ List.map cvO (ls ++ lt)) ++ List.map cvO (fac Y e q).2.2).length) + 1)) rn nd e ((fac Y e q).2.1) 124 hG (by omega) (by omega)) (by omega) rfl rfl (Nat.le_of_ble_eq_true rfl) (List.Perm.of_eq (List.append_nil _).symm) (mw 0 rfl) rfl dX6_expression_60 (by omega) (by omega) ?_
            rintro _ _ _ ⟨_, _, ⟨rfl, rfl, m_19⟩ | ⟨rfl, rfl, m_19⟩, rfl, rfl, rfl⟩
            · refine ev_ws (List.append_nil _) ?_
              show Ev G X 0 0 63 [(2, .int (nI 0)), (0, .ref (d 0)), (1, .int (nI o)), (3, .int (nI 1)), (4, .int (nI i))] [.int (nI 1)] (RD G d sg am en (upd sp3 (((l ++ List.map cvO (ls ++ lt)) ++ List.map cvO (fac Y e q).2.2).length) (-2)) (nI e) (nI (((fac Y e q).2.1) + 1)) ju (nI ((((l ++ List.map cvO (ls ++ lt)) ++ List.map cvO (fac Y e q).2.2).length) + 1)) rn nd) ro
              have lm_19 := (hr_lt (by omega) m_19).1
              refine ev_istore_n (lv' := [(3, .int (nI 1)), (2, .int (nI 0)), (0, .ref (d 0)), (1, .int (nI o)), (4, .int (nI i))]) hC dX6_expression_63 rfl (by decide) rfl ?_
              refine ev_iload_n hC dX6_expression_64 rfl 0 rfl ?_
              refine ev_if_neN (tgt := 70) hC dX6_expression_65 (by decide) (by omega) (fun c_20 => ?_) (fun c_20 => absurd c_20 (by omega))
              refine ev_iinc (v := (nI (i + 1))) (lv' := [(4, .int (nI (i + 1))), (3, .int (nI 1)), (2, .int (nI 0)), (0, .ref (d 0)), (1, .int (nI o))]) hC dX6_expression_70 (q := 4) rfl (nI_k _ _ 1 (by decide)) (by decide) rfl ?_
              refine ev_goto (tgt := 7) hC dX6_expression_73 (by decide) ?_
              refine ev_lv [3, 4, 2, 1, 0] rfl ?_
              refine ev_ws (ws' := (RD G d sg am en (upd sp3 (((l ++ List.map cvO (ls ++ lt)) ++ List.map cvO (fac Y e q).2.2).length) (-2)) (nI e) (nI (((fac Y e q).2.1) + 1)) ju (nI ((l ++ List.map cvO ((ls ++ ((lt ++ ((fac Y e q).2.2 ++ onI false (-2))) ++ onI true (-3))) ++ [])).length)) rn nd)) (by rw [show (((l ++ List.map cvO (ls ++ lt)) ++ List.map cvO (fac Y e q).2.2).length) + 1 = (l ++ List.map cvO ((ls ++ ((lt ++ ((fac Y e q).2.2 ++ onI false (-2))) ++ onI true (-3))) ++ [])).length from (by simp [onI]; try omega)]) ?_
              exact ih false true (ls ++ ((lt ++ ((fac Y e q).2.2 ++ onI false (-2))) ++ onI true (-3))) [] (((fac Y e q).2.1) + 1) 101 (n - 1) (i + 1) (upd sp3 (((l ++ List.map cvO (ls ++ lt)) ++ List.map cvO (fac Y e q).2.2).length) (-2)) ((ex_or ok3 ha ho2 m_15 m_19 (by omega)).symm.trans hex) (fun _ => rfl) (fun z => by cases z) (by have z := (hL3.push (-2)); have e1 : l ++ List.map cvO ((ls ++ ((lt ++ ((fac Y e q).2.2 ++ onI false (-2))) ++ onI true (-3))) ++ []) = (((l ++ List.map cvO (ls ++ lt)) ++ List.map cvO (fac Y e q).2.2) ++ [-2]) := (by simp [onI, show cvO (-2) = -1 from by decide, show cvO (-3) = -2 from by decide]); rw [e1]; exact z) (by omega) (by omega) (by omega) (by omega) (by simp [onI, b2N]; omega) (by omega)
            · refine ev_ws (List.append_nil _) ?_
              show Ev G X 0 0 63 [(2, .int (nI 0)), (0, .ref (d 0)), (1, .int (nI o)), (3, .int (nI 1)), (4, .int (nI i))] [.int (nI 0)] (RD G d sg am en (upd sp3 (((l ++ List.map cvO (ls ++ lt)) ++ List.map cvO (fac Y e q).2.2).length) (-2)) (nI e) (nI ((fac Y e q).2.1)) ju (nI ((((l ++ List.map cvO (ls ++ lt)) ++ List.map cvO (fac Y e q).2.2).length) + 1)) rn nd) ro
              refine ev_istore_n (lv' := [(3, .int (nI 0)), (2, .int (nI 0)), (0, .ref (d 0)), (1, .int (nI o)), (4, .int (nI i))]) hC dX6_expression_63 rfl (by decide) rfl ?_
              refine ev_iload_n hC dX6_expression_64 rfl 0 rfl ?_
              refine ev_if_neN (tgt := 70) hC dX6_expression_65 (by decide) (by omega) (fun c_21 => absurd c_21 (by omega)) (fun c_21 => ?_)
              refine ev_iconst (v := (nI 1)) hC dX6_expression_68 (by decide) ?_
              refine ev_zret hC hR rfl (by rfl) dX6_expression_69 ?_
              have hr := hex.symm.trans (ex_end (m := m) (n := n) ok3 ha ho2 m_15 m_19)
              have e1 : l ++ List.map cvO (somF Y e (fac Y e) p).2.2 = (((l ++ List.map cvO (ls ++ lt)) ++ List.map cvO (fac Y e q).2.2) ++ [-2]) := by rw [hr]; simp [onI, show cvO (-2) = -1 from by decide, show cvO (-3) = -2 from by decide]
              exact ⟨_, (nI ((((l ++ List.map cvO (ls ++ lt)) ++ List.map cvO (fac Y e q).2.2).length) + 1)), _, Or.inl ⟨rfl, by rw [hr], (congrArg nI (by rw [e1]; try simp; try omega)), (by rw [e1]; exact (hL3.push (-2)))⟩, rfl, by rw [hr], rfl⟩
        · refine ev_ws (List.append_nil _) ?_
          show Ev G X 0 0 19 [(0, .ref (d 0)), (1, .int (nI o)), (2, .int (nI 0)), (3, .int (nI 1)), (4, .int (nI i))] [.int (nI 0)] (RD G d sg am en sp3 (nI e) (nI ((fac Y e q).2.1)) ju sd3 rn nd) ro
          obtain ⟨g1, g2, g3, g4⟩ := hF Y e q (by omega)
          refine ev_if_neN (tgt := 24) hC dX6_expression_19 (by decide) (by omega) (fun c_22 => absurd c_22 (by omega)) (fun c_22 => ?_)
          refine ev_iconst (v := (nI 0)) hC dX6_expression_22 (by decide) ?_
          refine ev_zret hC hR rfl (by rfl) dX6_expression_23 ?_
          have h0 := ex_no (t := Y) (e := e) (fac := fac Y e) (a := false) (o := true) (ls := ls) (lt := lt) (p := q) (m := m) (n := n) ok3
          rw [hex] at h0
          exact ⟨_, _, _, Or.inr ⟨rfl, h0.1⟩, rfl, by rw [h0.2], rfl⟩
      · show Ev G X 0 0 7 [(0, .ref (d 0)), (1, .int (nI o)), (2, .int (nI 1)), (3, .int (nI 0)), (4, .int (nI i))] [] (RD G d sg am en sp2 (nI e) (nI q) ju (nI ((l ++ List.map cvO (ls ++ lt)).length)) rn nd) ro
        have hlen2 : l.length + ls.length + lt.length + 1 + 0 ≤ q := hlen
        refine ev_iload hC dX6_expression_7 4 rfl ?_
        refine ev_bipush (v := (nI 100)) hC dX6_expression_9 (by decide) ?_
        refine ev_icmp_geN (tgt := 76) hC dX6_expression_11 (by decide) (by omega) (by omega) (fun c_23 => absurd c_23 (by omega)) (fun c_23 => ?_)
        refine ev_aload_n hC dX6_expression_14 rfl 0 rfl ?_
        refine ev_iload_n hC dX6_expression_15 rfl 1 rfl ?_
        refine ev_callV (As := [.int (nI o)]) (st := []) (wf := []) hC cv_X6_122 (hf ro d sg am en sp2 ju rn nd Y e q (l ++ List.map cvO (ls ++ lt)) hG (by omega) hL2 (by simp only [List.length_append, List.length_map]; omega)) (by omega) rfl rfl (Nat.le_of_ble_eq_true rfl) (List.Perm.of_eq (List.append_nil _).symm) (mw 0 rfl) rfl dX6_expression_16 (by omega) (by omega) ?_
        rintro _ _ _ ⟨sp3, sd3, _, ⟨rfl, ok3, rfl, hL3⟩ | ⟨rfl, ok3⟩, rfl, rfl, rfl⟩
        · refine ev_ws (List.append_nil _) ?_
          show Ev G X 0 0 19 [(0, .ref (d 0)), (1, .int (nI o)), (2, .int (nI 1)), (3, .int (nI 0)), (4, .int (nI i))] [.int (nI 1)] (RD G d sg am en sp3 (nI e) (nI ((fac Y e q).2.1)) ju (nI (((l ++ List.map cvO (ls ++ lt)) ++ List.map cvO (fac Y e q).2.2).length)) rn nd) ro
          obtain ⟨g1, g2, g3, g4⟩ := hF Y e q (by omega)
          have g5 := g3 ok3
          refine ev_if_neN (tgt := 24) hC dX6_expression_19 (by decide) (by omega) (fun c_24 => ?_) (fun c_24 => absurd c_24 (by omega))
          refine ev_iload_n hC dX6_expression_24 rfl 2 rfl ?_
          refine ev_if_eqN (tgt := 33) hC dX6_expression_25 (by decide) (by omega) (fun c_25 => absurd c_25 (by omega)) (fun c_25 => ?_)
          refine ev_aload_n hC dX6_expression_28 rfl 0 rfl ?_
          refine ev_iconst (v := (-1)) hC dX6_expression_29 (by decide) ?_
          refine ev_callV (As := [.int (-1)]) (st := []) (wf := []) hC cv_X6_125 (m_X6_step G ro d sg am en sp3 (nI e) (nI ((fac Y e q).2.1)) ju rn nd (-1) (((l ++ List.map cvO (ls ++ lt)) ++ List.map cvO (fac Y e q).2.2).length) (by first | omega | (simp only [List.length_append, List.length_map, List.length_cons, List.length_nil]; omega))) (by omega) rfl rfl (Nat.le_of_ble_eq_true rfl) (List.Perm.of_eq (List.append_nil _).symm) (mw 0 rfl) rfl dX6_expression_30 (by omega) (by omega) ?_
          rintro _ _ _ ⟨rfl, rfl, rfl⟩
          refine ev_ws (List.append_nil _) ?_
          show Ev G X 0 0 33 [(0, .ref (d 0)), (1, .int (nI o)), (2, .int (nI 1)), (3, .int (nI 0)), (4, .int (nI i))] [] (RD G d sg am en (upd sp3 (((l ++ List.map cvO (ls ++ lt)) ++ List.map cvO (fac Y e q).2.2).length) (-1)) (nI e) (nI ((fac Y e q).2.1)) ju (nI ((((l ++ List.map cvO (ls ++ lt)) ++ List.map cvO (fac Y e q).2.2).length) + 1)) rn nd) ro
          refine ev_aload_n hC dX6_expression_33 rfl 0 rfl ?_
          refine ev_bipush (v := (nI 38)) hC dX6_expression_34 (by decide) ?_
          refine ev_callV (As := [.int (nI 38)]) (st := []) (wf := []) hC cv_X6_51 (m_X6_accept G ro d sg am en (upd sp3 (((l ++ List.map cvO (ls ++ lt)) ++ List.map cvO (fac Y e q).2.2).length) (-1)) Y ju (nI ((((l ++ List.map cvO (ls ++ lt)) ++ List.map cvO (fac Y e q).2.2).length) + 1)) rn nd e ((fac Y e q).2.1) 38 hG (by omega) (by omega)) (by omega) rfl rfl (Nat.le_of_ble_eq_true rfl) (List.Perm.of_eq (List.append_nil _).symm) (mw 0 rfl) rfl dX6_expression_36 (by omega) (by omega) ?_
          rintro _ _ _ ⟨_, _, ⟨rfl, rfl, m_26⟩ | ⟨rfl, rfl, m_26⟩, rfl, rfl, rfl⟩
          · refine ev_ws (List.append_nil _) ?_
            show Ev G X 0 0 39 [(0, .ref (d 0)), (1, .int (nI o)), (2, .int (nI 1)), (3, .int (nI 0)), (4, .int (nI i))] [.int (nI 1)] (RD G d sg am en (upd sp3 (((l ++ List.map cvO (ls ++ lt)) ++ List.map cvO (fac Y e q).2.2).length) (-1)) (nI e) (nI (((fac Y e q).2.1) + 1)) ju (nI ((((l ++ List.map cvO (ls ++ lt)) ++ List.map cvO (fac Y e q).2.2).length) + 1)) rn nd) ro
            have lm_26 := (hr_lt (by omega) m_26).1
            refine ev_istore_n (lv' := [(2, .int (nI 1)), (0, .ref (d 0)), (1, .int (nI o)), (3, .int (nI 0)), (4, .int (nI i))]) hC dX6_expression_39 rfl (by decide) rfl ?_
            refine ev_iload_n hC dX6_expression_40 rfl 0 rfl ?_
            refine ev_if_eqN (tgt := 47) hC dX6_expression_41 (by decide) (by omega) (fun c_27 => absurd c_27 (by omega)) (fun c_27 => ?_)
            refine ev_goto (tgt := 70) hC dX6_expression_44 (by decide) ?_
            refine ev_iinc (v := (nI (i + 1))) (lv' := [(4, .int (nI (i + 1))), (2, .int (nI 1)), (0, .ref (d 0)), (1, .int (nI o)), (3, .int (nI 0))]) hC dX6_expression_70 (q := 4) rfl (nI_k _ _ 1 (by decide)) (by decide) rfl ?_
            refine ev_goto (tgt := 7) hC dX6_expression_73 (by decide) ?_
            refine ev_lv [2, 3, 1, 4, 0] rfl ?_
            refine ev_ws (ws' := (RD G d sg am en (upd sp3 (((l ++ List.map cvO (ls ++ lt)) ++ List.map cvO (fac Y e q).2.2).length) (-1)) (nI e) (nI (((fac Y e q).2.1) + 1)) ju (nI ((l ++ List.map cvO (ls ++ (lt ++ ((fac Y e q).2.2 ++ onI true (-2))))).length)) rn nd)) (by rw [show (((l ++ List.map cvO (ls ++ lt)) ++ List.map cvO (fac Y e q).2.2).length) + 1 = (l ++ List.map cvO (ls ++ (lt ++ ((fac Y e q).2.2 ++ onI true (-2))))).length from (by simp [onI]; try omega)]) ?_
            exact ih true false ls (lt ++ ((fac Y e q).2.2 ++ onI true (-2))) (((fac Y e q).2.1) + 1) (m - 1) n (i + 1) (upd sp3 (((l ++ List.map cvO (ls ++ lt)) ++ List.map cvO (fac Y e q).2.2).length) (-1)) ((ex_and ok3 ha m_26 (by omega)).symm.trans hex) (fun z => by cases z) ho2 (by have z := (hL3.push (-1)); have e1 : l ++ List.map cvO (ls ++ (lt ++ ((fac Y e q).2.2 ++ onI true (-2)))) = (((l ++ List.map cvO (ls ++ lt)) ++ List.map cvO (fac Y e q).2.2) ++ [-1]) := (by simp [onI, show cvO (-2) = -1 from by decide]); rw [e1]; exact z) (by omega) (by omega) (by omega) (by omega) (by simp [onI, b2N]; omega) (by omega)
          · refine ev_ws (List.append_nil _) ?_
            show Ev G X 0 0 39 [(0, .ref (d 0)), (1, .int (nI o)), (2, .int (nI 1)), (3, .int (nI 0)), (4, .int (nI i))] [.int (nI 0)] (RD G d sg am en (upd sp3 (((l ++ List.map cvO (ls ++ lt)) ++ List.map cvO (fac Y e q).2.2).length) (-1)) (nI e) (nI ((fac Y e q).2.1)) ju (nI ((((l ++ List.map cvO (ls ++ lt)) ++ List.map cvO (fac Y e q).2.2).length) + 1)) rn nd) ro
            refine ev_istore_n (lv' := [(2, .int (nI 0)), (0, .ref (d 0)), (1, .int (nI o)), (3, .int (nI 0)), (4, .int (nI i))]) hC dX6_expression_39 rfl (by decide) rfl ?_
            refine ev_iload_n hC dX6_expression_40 rfl 0 rfl ?_
            refine ev_if_eqN (tgt := 47) hC dX6_expression_41 (by decide) (by omega) (fun c_28 => ?_) (fun c_28 => absurd c_28 (by omega))
            refine ev_iload_n hC dX6_expression_47 rfl 3 rfl ?_
            refine ev_if_eqN (tgt := 57) hC dX6_expression_48 (by decide) (by omega) (fun c_29 => ?_) (fun c_29 => absurd c_29 (by omega))
            refine ev_aload_n hC dX6_expression_57 rfl 1 rfl ?_
            refine ev_bipush (v := (nI 124)) hC dX6_expression_58 (by decide) ?_
            refine ev_callV (As := [.int (nI 124)]) (st := []) (wf := []) hC cv_X6_51 (m_X6_accept G ro d sg am en (upd sp3 (((l ++ List.map cvO (ls ++ lt)) ++ List.map cvO (fac Y e q).2.2).length) (-1)) Y ju (nI ((((l ++ List.map cvO (ls ++ lt)) ++ List.map cvO (fac Y e q).2.2).length) + 1)) rn nd e ((fac Y e q).2.1) 124 hG (by omega) (by omega)) (by omega) rfl rfl (Nat.le_of_ble_eq_true rfl) (List.Perm.of_eq (List.append_nil _).symm) (mw 0 rfl) rfl dX6_expression_60 (by omega) (by omega) ?_
            rintro _ _ _ ⟨_, _, ⟨rfl, rfl, m_30⟩ | ⟨rfl, rfl, m_30⟩, rfl, rfl, rfl⟩
            · refine ev_ws (List.append_nil _) ?_
              show Ev G X 0 0 63 [(2, .int (nI 0)), (0, .ref (d 0)), (1, .int (nI o)), (3, .int (nI 0)), (4, .int (nI i))] [.int (nI 1)] (RD G d sg am en (upd sp3 (((l ++ List.map cvO (ls ++ lt)) ++ List.map cvO (fac Y e q).2.2).length) (-1)) (nI e) (nI (((fac Y e q).2.1) + 1)) ju (nI ((((l ++ List.map cvO (ls ++ lt)) ++ List.map cvO (fac Y e q).2.2).length) + 1)) rn nd) ro
              have lm_30 := (hr_lt (by omega) m_30).1
              refine ev_istore_n (lv' := [(3, .int (nI 1)), (2, .int (nI 0)), (0, .ref (d 0)), (1, .int (nI o)), (4, .int (nI i))]) hC dX6_expression_63 rfl (by decide) rfl ?_
              refine ev_iload_n hC dX6_expression_64 rfl 0 rfl ?_
              refine ev_if_neN (tgt := 70) hC dX6_expression_65 (by decide) (by omega) (fun c_31 => ?_) (fun c_31 => absurd c_31 (by omega))
              refine ev_iinc (v := (nI (i + 1))) (lv' := [(4, .int (nI (i + 1))), (3, .int (nI 1)), (2, .int (nI 0)), (0, .ref (d 0)), (1, .int (nI o))]) hC dX6_expression_70 (q := 4) rfl (nI_k _ _ 1 (by decide)) (by decide) rfl ?_
              refine ev_goto (tgt := 7) hC dX6_expression_73 (by decide) ?_
              refine ev_lv [3, 4, 2, 1, 0] rfl ?_
              refine ev_ws (ws' := (RD G d sg am en (upd sp3 (((l ++ List.map cvO (ls ++ lt)) ++ List.map cvO (fac Y e q).2.2).length) (-1)) (nI e) (nI (((fac Y e q).2.1) + 1)) ju (nI ((l ++ List.map cvO ((ls ++ ((lt ++ ((fac Y e q).2.2 ++ onI true (-2))) ++ onI false (-3))) ++ [])).length)) rn nd)) (by rw [show (((l ++ List.map cvO (ls ++ lt)) ++ List.map cvO (fac Y e q).2.2).length) + 1 = (l ++ List.map cvO ((ls ++ ((lt ++ ((fac Y e q).2.2 ++ onI true (-2))) ++ onI false (-3))) ++ [])).length from (by simp [onI]; try omega)]) ?_
              exact ih false true (ls ++ ((lt ++ ((fac Y e q).2.2 ++ onI true (-2))) ++ onI false (-3))) [] (((fac Y e q).2.1) + 1) 101 (n - 1) (i + 1) (upd sp3 (((l ++ List.map cvO (ls ++ lt)) ++ List.map cvO (fac Y e q).2.2).length) (-1)) ((ex_or ok3 ha ho2 m_26 m_30 (by omega)).symm.trans hex) (fun _ => rfl) (fun z => by cases z) (by have z := (hL3.push (-1)); have e1 : l ++ List.map cvO ((ls ++ ((lt ++ ((fac Y e q).2.2 ++ onI true (-2))) ++ onI false (-3))) ++ []) = (((l ++ List.map cvO (ls ++ lt)) ++ List.map cvO (fac Y e q).2.2) ++ [-1]) := (by simp [onI, show cvO (-2) = -1 from by decide, show cvO (-3) = -2 from by decide]); rw [e1]; exact z) (by omega) (by omega) (by omega) (by omega) (by simp [onI, b2N]; omega) (by omega)
            · refine ev_ws (List.append_nil _) ?_
              show Ev G X 0 0 63 [(2, .int (nI 0)), (0, .ref (d 0)), (1, .int (nI o)), (3, .int (nI 0)), (4, .int (nI i))] [.int (nI 0)] (RD G d sg am en (upd sp3 (((l ++ List.map cvO (ls ++ lt)) ++ List.map cvO (fac Y e q).2.2).length) (-1)) (nI e) (nI ((fac Y e q).2.1)) ju (nI ((((l ++ List.map cvO (ls ++ lt)) ++ List.map cvO (fac Y e q).2.2).length) + 1)) rn nd) ro
              refine ev_istore_n (lv' := [(3, .int (nI 0)), (2, .int (nI 0)), (0, .ref (d 0)), (1, .int (nI o)), (4, .int (nI i))]) hC dX6_expression_63 rfl (by decide) rfl ?_
              refine ev_iload_n hC dX6_expression_64 rfl 0 rfl ?_
              refine ev_if_neN (tgt := 70) hC dX6_expression_65 (by decide) (by omega) (fun c_32 => absurd c_32 (by omega)) (fun c_32 => ?_)
              refine ev_iconst (v := (nI 1)) hC dX6_expression_68 (by decide) ?_
              refine ev_zret hC hR rfl (by rfl) dX6_expression_69 ?_
              have hr := hex.symm.trans (ex_end (m := m) (n := n) ok3 ha ho2 m_26 m_30)
              have e1 : l ++ List.map cvO (somF Y e (fac Y e) p).2.2 = (((l ++ List.map cvO (ls ++ lt)) ++ List.map cvO (fac Y e q).2.2) ++ [-1]) := by rw [hr]; simp [onI, show cvO (-2) = -1 from by decide, show cvO (-3) = -2 from by decide]
              exact ⟨_, (nI ((((l ++ List.map cvO (ls ++ lt)) ++ List.map cvO (fac Y e q).2.2).length) + 1)), _, Or.inl ⟨rfl, by rw [hr], (congrArg nI (by rw [e1]; try simp; try omega)), (by rw [e1]; exact (hL3.push (-1)))⟩, rfl, by rw [hr], rfl⟩
        · refine ev_ws (List.append_nil _) ?_
          show Ev G X 0 0 19 [(0, .ref (d 0)), (1, .int (nI o)), (2, .int (nI 1)), (3, .int (nI 0)), (4, .int (nI i))] [.int (nI 0)] (RD G d sg am en sp3 (nI e) (nI ((fac Y e q).2.1)) ju sd3 rn nd) ro
          obtain ⟨g1, g2, g3, g4⟩ := hF Y e q (by omega)
          refine ev_if_neN (tgt := 24) hC dX6_expression_19 (by decide) (by omega) (fun c_33 => absurd c_33 (by omega)) (fun c_33 => ?_)
          refine ev_iconst (v := (nI 0)) hC dX6_expression_22 (by decide) ?_
          refine ev_zret hC hR rfl (by rfl) dX6_expression_23 ?_
          have h0 := ex_no (t := Y) (e := e) (fac := fac Y e) (a := true) (o := false) (ls := ls) (lt := lt) (p := q) (m := m) (n := n) ok3
          rw [hex] at h0
          exact ⟨_, _, _, Or.inr ⟨rfl, h0.1⟩, rfl, by rw [h0.2], rfl⟩
      · show Ev G X 0 0 7 [(0, .ref (d 0)), (1, .int (nI o)), (2, .int (nI 1)), (3, .int (nI 1)), (4, .int (nI i))] [] (RD G d sg am en sp2 (nI e) (nI q) ju (nI ((l ++ List.map cvO (ls ++ lt)).length)) rn nd) ro
        have hlen2 : l.length + ls.length + lt.length + 1 + 1 ≤ q := hlen
        refine ev_iload hC dX6_expression_7 4 rfl ?_
        refine ev_bipush (v := (nI 100)) hC dX6_expression_9 (by decide) ?_
        refine ev_icmp_geN (tgt := 76) hC dX6_expression_11 (by decide) (by omega) (by omega) (fun c_34 => absurd c_34 (by omega)) (fun c_34 => ?_)
        refine ev_aload_n hC dX6_expression_14 rfl 0 rfl ?_
        refine ev_iload_n hC dX6_expression_15 rfl 1 rfl ?_
        refine ev_callV (As := [.int (nI o)]) (st := []) (wf := []) hC cv_X6_122 (hf ro d sg am en sp2 ju rn nd Y e q (l ++ List.map cvO (ls ++ lt)) hG (by omega) hL2 (by simp only [List.length_append, List.length_map]; omega)) (by omega) rfl rfl (Nat.le_of_ble_eq_true rfl) (List.Perm.of_eq (List.append_nil _).symm) (mw 0 rfl) rfl dX6_expression_16 (by omega) (by omega) ?_
        rintro _ _ _ ⟨sp3, sd3, _, ⟨rfl, ok3, rfl, hL3⟩ | ⟨rfl, ok3⟩, rfl, rfl, rfl⟩
        · refine ev_ws (List.append_nil _) ?_
          show Ev G X 0 0 19 [(0, .ref (d 0)), (1, .int (nI o)), (2, .int (nI 1)), (3, .int (nI 1)), (4, .int (nI i))] [.int (nI 1)] (RD G d sg am en sp3 (nI e) (nI ((fac Y e q).2.1)) ju (nI (((l ++ List.map cvO (ls ++ lt)) ++ List.map cvO (fac Y e q).2.2).length)) rn nd) ro
          obtain ⟨g1, g2, g3, g4⟩ := hF Y e q (by omega)
          have g5 := g3 ok3
          refine ev_if_neN (tgt := 24) hC dX6_expression_19 (by decide) (by omega) (fun c_35 => ?_) (fun c_35 => absurd c_35 (by omega))
          refine ev_iload_n hC dX6_expression_24 rfl 2 rfl ?_
          refine ev_if_eqN (tgt := 33) hC dX6_expression_25 (by decide) (by omega) (fun c_36 => absurd c_36 (by omega)) (fun c_36 => ?_)
          refine ev_aload_n hC dX6_expression_28 rfl 0 rfl ?_
          refine ev_iconst (v := (-1)) hC dX6_expression_29 (by decide) ?_
          refine ev_callV (As := [.int (-1)]) (st := []) (wf := []) hC cv_X6_125 (m_X6_step G ro d sg am en sp3 (nI e) (nI ((fac Y e q).2.1)) ju rn nd (-1) (((l ++ List.map cvO (ls ++ lt)) ++ List.map cvO (fac Y e q).2.2).length) (by first | omega | (simp only [List.length_append, List.length_map, List.length_cons, List.length_nil]; omega))) (by omega) rfl rfl (Nat.le_of_ble_eq_true rfl) (List.Perm.of_eq (List.append_nil _).symm) (mw 0 rfl) rfl dX6_expression_30 (by omega) (by omega) ?_
          rintro _ _ _ ⟨rfl, rfl, rfl⟩
          refine ev_ws (List.append_nil _) ?_
          show Ev G X 0 0 33 [(0, .ref (d 0)), (1, .int (nI o)), (2, .int (nI 1)), (3, .int (nI 1)), (4, .int (nI i))] [] (RD G d sg am en (upd sp3 (((l ++ List.map cvO (ls ++ lt)) ++ List.map cvO (fac Y e q).2.2).length) (-1)) (nI e) (nI ((fac Y e q).2.1)) ju (nI ((((l ++ List.map cvO (ls ++ lt)) ++ List.map cvO (fac Y e q).2.2).length) + 1)) rn nd) ro
          refine ev_aload_n hC dX6_expression_33 rfl 0 rfl ?_
          refine ev_bipush (v := (nI 38)) hC dX6_expression_34 (by decide) ?_
          refine ev_callV (As := [.int (nI 38)]) (st := []) (wf := []) hC cv_X6_51 (m_X6_accept G ro d sg am en (upd sp3 (((l ++ List.map cvO (ls ++ lt)) ++ List.map cvO (fac Y e q).2.2).length) (-1)) Y ju (nI ((((l ++ List.map cvO (ls ++ lt)) ++ List.map cvO (fac Y e q).2.2).length) + 1)) rn nd e ((fac Y e q).2.1) 38 hG (by omega) (by omega)) (by omega) rfl rfl (Nat.le_of_ble_eq_true rfl) (List.Perm.of_eq (List.append_nil _).symm) (mw 0 rfl) rfl dX6_expression_36 (by omega) (by omega) ?_
          rintro _ _ _ ⟨_, _, ⟨rfl, rfl, m_37⟩ | ⟨rfl, rfl, m_37⟩, rfl, rfl, rfl⟩
          · refine ev_ws (List.append_nil _) ?_
            show Ev G X 0 0 39 [(0, .ref (d 0)), (1, .int (nI o)), (2, .int (nI 1)), (3, .int (nI 1)), (4, .int (nI i))] [.int (nI 1)] (RD G d sg am en (upd sp3 (((l ++ List.map cvO (ls ++ lt)) ++ List.map cvO (fac Y e q).2.2).length) (-1)) (nI e) (nI (((fac Y e q).2.1) + 1)) ju (nI ((((l ++ List.map cvO (ls ++ lt)) ++ List.map cvO (fac Y e q).2.2).length) + 1)) rn nd) ro
            have lm_37 := (hr_lt (by omega) m_37).1
            refine ev_istore_n (lv' := [(2, .int (nI 1)), (0, .ref (d 0)), (1, .int (nI o)), (3, .int (nI 1)), (4, .int (nI i))]) hC dX6_expression_39 rfl (by decide) rfl ?_
            refine ev_iload_n hC dX6_expression_40 rfl 0 rfl ?_
            refine ev_if_eqN (tgt := 47) hC dX6_expression_41 (by decide) (by omega) (fun c_38 => absurd c_38 (by omega)) (fun c_38 => ?_)
            refine ev_goto (tgt := 70) hC dX6_expression_44 (by decide) ?_
            refine ev_iinc (v := (nI (i + 1))) (lv' := [(4, .int (nI (i + 1))), (2, .int (nI 1)), (0, .ref (d 0)), (1, .int (nI o)), (3, .int (nI 1))]) hC dX6_expression_70 (q := 4) rfl (nI_k _ _ 1 (by decide)) (by decide) rfl ?_
            refine ev_goto (tgt := 7) hC dX6_expression_73 (by decide) ?_
            refine ev_lv [2, 3, 1, 4, 0] rfl ?_
            refine ev_ws (ws' := (RD G d sg am en (upd sp3 (((l ++ List.map cvO (ls ++ lt)) ++ List.map cvO (fac Y e q).2.2).length) (-1)) (nI e) (nI (((fac Y e q).2.1) + 1)) ju (nI ((l ++ List.map cvO (ls ++ (lt ++ ((fac Y e q).2.2 ++ onI true (-2))))).length)) rn nd)) (by rw [show (((l ++ List.map cvO (ls ++ lt)) ++ List.map cvO (fac Y e q).2.2).length) + 1 = (l ++ List.map cvO (ls ++ (lt ++ ((fac Y e q).2.2 ++ onI true (-2))))).length from (by simp [onI]; try omega)]) ?_
            exact ih true true ls (lt ++ ((fac Y e q).2.2 ++ onI true (-2))) (((fac Y e q).2.1) + 1) (m - 1) n (i + 1) (upd sp3 (((l ++ List.map cvO (ls ++ lt)) ++ List.map cvO (fac Y e q).2.2).length) (-1)) ((ex_and ok3 ha m_37 (by omega)).symm.trans hex) (fun z => by cases z) ho2 (by have z := (hL3.push (-1)); have e1 : l ++ List.map cvO (ls ++ (lt ++ ((fac Y e q).2.2 ++ onI true (-2)))) = (((l ++ List.map cvO (ls ++ lt)) ++ List.map cvO (fac Y e q).2.2) ++ [-1]) := (by simp [onI, show cvO (-2) = -1 from by decide]); rw [e1]; exact z) (by omega) (by omega) (by omega) (by omega) (by simp [onI, b2N]; omega) (by omega)
          · refine ev_ws (List.append_nil _) ?_
            show Ev G X 0 0 39 [(0, .ref (d 0)), (1, .int (nI o)), (2, .int (nI 1)), (3, .int (nI 1)), (4, .int (nI i))] [.int (nI 0)] (RD G d sg am en (upd sp3 (((l ++ List.map cvO (ls ++ lt)) ++ List.map cvO (fac Y e q).2.2).length) (-1)) (nI e) (nI ((fac Y e q).2.1)) ju (nI ((((l ++ List.map cvO (ls ++ lt)) ++ List.map cvO (fac Y e q).2.2).length) + 1)) rn nd) ro
            refine ev_istore_n (lv' := [(2, .int (nI 0)), (0, .ref (d 0)), (1, .int (nI o)), (3, .int (nI 1)), (4, .int (nI i))]) hC dX6_expression_39 rfl (by decide) rfl ?_
            refine ev_iload_n hC dX6_expression_40 rfl 0 rfl ?_
            refine ev_if_eqN (tgt := 47) hC dX6_expression_41 (by decide) (by omega) (fun c_39 => ?_) (fun c_39 => absurd c_39 (by omega))
            refine ev_iload_n hC dX6_expression_47 rfl 3 rfl ?_
            refine ev_if_eqN (tgt := 57) hC dX6_expression_48 (by decide) (by omega) (fun c_40 => absurd c_40 (by omega)) (fun c_40 => ?_)
            refine ev_aload_n hC dX6_expression_51 rfl 1 rfl ?_
            refine ev_bipush (v := (-2)) hC dX6_expression_52 (by decide) ?_
            refine ev_callV (As := [.int (-2)]) (st := []) (wf := []) hC cv_X6_125 (m_X6_step G ro d sg am en (upd sp3 (((l ++ List.map cvO (ls ++ lt)) ++ List.map cvO (fac Y e q).2.2).length) (-1)) (nI e) (nI ((fac Y e q).2.1)) ju rn nd (-2) ((((l ++ List.map cvO (ls ++ lt)) ++ List.map cvO (fac Y e q).2.2).length) + 1) (by first | omega | (simp only [List.length_append, List.length_map, List.length_cons, List.length_nil]; omega))) (by omega) rfl rfl (Nat.le_of_ble_eq_true rfl) (List.Perm.of_eq (List.append_nil _).symm) (mw 0 rfl) rfl dX6_expression_54 (by omega) (by omega) ?_
            rintro _ _ _ ⟨rfl, rfl, rfl⟩
            refine ev_ws (List.append_nil _) ?_
            show Ev G X 0 0 57 [(2, .int (nI 0)), (0, .ref (d 0)), (1, .int (nI o)), (3, .int (nI 1)), (4, .int (nI i))] [] (RD G d sg am en (upd (upd sp3 (((l ++ List.map cvO (ls ++ lt)) ++ List.map cvO (fac Y e q).2.2).length) (-1)) ((((l ++ List.map cvO (ls ++ lt)) ++ List.map cvO (fac Y e q).2.2).length) + 1) (-2)) (nI e) (nI ((fac Y e q).2.1)) ju (nI (((((l ++ List.map cvO (ls ++ lt)) ++ List.map cvO (fac Y e q).2.2).length) + 1) + 1)) rn nd) ro
            refine ev_aload_n hC dX6_expression_57 rfl 1 rfl ?_
            refine ev_bipush (v := (nI 124)) hC dX6_expression_58 (by decide) ?_
            refine ev_callV (As := [.int (nI 124)]) (st := []) (wf := []) hC cv_X6_51 (m_X6_accept G ro d sg am en (upd (upd sp3 (((l ++ List.map cvO (ls ++ lt)) ++ List.map cvO (fac Y e q).2.2).length) (-1)) ((((l ++ List.map cvO (ls ++ lt)) ++ List.map cvO (fac Y e q).2.2).length) + 1) (-2)) Y ju (nI (((((l ++ List.map cvO (ls ++ lt)) ++ List.map cvO (fac Y e q).2.2).length) + 1) + 1)) rn nd e ((fac Y e q).2.1) 124 hG (by omega) (by omega)) (by omega) rfl rfl (Nat.le_of_ble_eq_true rfl) (List.Perm.of_eq (List.append_nil _).symm) (mw 0 rfl) rfl dX6_expression_60 (by omega) (by omega) ?_
            rintro _ _ _ ⟨_, _, ⟨rfl, rfl, m_41⟩ | ⟨rfl, rfl, m_41⟩, rfl, rfl, rfl⟩
            · refine ev_ws (List.append_nil _) ?_
              show Ev G X 0 0 63 [(2, .int (nI 0)), (0, .ref (d 0)), (1, .int (nI o)), (3, .int (nI 1)), (4, .int (nI i))] [.int (nI 1)] (RD G d sg am en (upd (upd sp3 (((l ++ List.map cvO (ls ++ lt)) ++ List.map cvO (fac Y e q).2.2).length) (-1)) ((((l ++ List.map cvO (ls ++ lt)) ++ List.map cvO (fac Y e q).2.2).length) + 1) (-2)) (nI e) (nI (((fac Y e q).2.1) + 1)) ju (nI (((((l ++ List.map cvO (ls ++ lt)) ++ List.map cvO (fac Y e q).2.2).length) + 1) + 1)) rn nd) ro
              have lm_41 := (hr_lt (by omega) m_41).1
              refine ev_istore_n (lv' := [(3, .int (nI 1)), (2, .int (nI 0)), (0, .ref (d 0)), (1, .int (nI o)), (4, .int (nI i))]) hC dX6_expression_63 rfl (by decide) rfl ?_
              refine ev_iload_n hC dX6_expression_64 rfl 0 rfl ?_
              refine ev_if_neN (tgt := 70) hC dX6_expression_65 (by decide) (by omega) (fun c_42 => ?_) (fun c_42 => absurd c_42 (by omega))
              refine ev_iinc (v := (nI (i + 1))) (lv' := [(4, .int (nI (i + 1))), (3, .int (nI 1)), (2, .int (nI 0)), (0, .ref (d 0)), (1, .int (nI o))]) hC dX6_expression_70 (q := 4) rfl (nI_k _ _ 1 (by decide)) (by decide) rfl ?_
              refine ev_goto (tgt := 7) hC dX6_expression_73 (by decide) ?_
              refine ev_lv [3, 4, 2, 1, 0] rfl ?_
              refine ev_ws (ws' := (RD G d sg am en (upd (upd sp3 (((l ++ List.map cvO (ls ++ lt)) ++ List.map cvO (fac Y e q).2.2).length) (-1)) ((((l ++ List.map cvO (ls ++ lt)) ++ List.map cvO (fac Y e q).2.2).length) + 1) (-2)) (nI e) (nI (((fac Y e q).2.1) + 1)) ju (nI ((l ++ List.map cvO ((ls ++ ((lt ++ ((fac Y e q).2.2 ++ onI true (-2))) ++ onI true (-3))) ++ [])).length)) rn nd)) (by rw [show ((((l ++ List.map cvO (ls ++ lt)) ++ List.map cvO (fac Y e q).2.2).length) + 1) + 1 = (l ++ List.map cvO ((ls ++ ((lt ++ ((fac Y e q).2.2 ++ onI true (-2))) ++ onI true (-3))) ++ [])).length from (by simp [onI]; try omega)]) ?_
              exact ih false true (ls ++ ((lt ++ ((fac Y e q).2.2 ++ onI true (-2))) ++ onI true (-3))) [] (((fac Y e q).2.1) + 1) 101 (n - 1) (i + 1) (upd (upd sp3 (((l ++ List.map cvO (ls ++ lt)) ++ List.map cvO (fac Y e q).2.2).length) (-1)) ((((l ++ List.map cvO (ls ++ lt)) ++ List.map cvO (fac Y e q).2.2).length) + 1) (-2)) ((ex_or ok3 ha ho2 m_37 m_41 (by omega)).symm.trans hex) (fun _ => rfl) (fun z => by cases z) (by have z := ((hL3.push (-1)).push' (n := ((l ++ List.map cvO (ls ++ lt)) ++ List.map cvO (fac Y e q).2.2).length + 1) (x := (-2)) (by simp only [List.length_append, List.length_singleton])); have e1 : l ++ List.map cvO ((ls ++ ((lt ++ ((fac Y e q).2.2 ++ onI true (-2))) ++ onI true (-3))) ++ []) = ((((l ++ List.map cvO (ls ++ lt)) ++ List.map cvO (fac Y e q).2.2) ++ [-1]) ++ [-2]) := (by simp [onI, show cvO (-2) = -1 from by decide, show cvO (-3) = -2 from by decide]); rw [e1]; exact z) (by omega) (by omega) (by omega) (by omega) (by simp [onI, b2N]; omega) (by omega)
            · refine ev_ws (List.append_nil _) ?_
              show Ev G X 0 0 63 [(2, .int (nI 0)), (0, .ref (d 0)), (1, .int (nI o)), (3, .int (nI 1)), (4, .int (nI i))] [.int (nI 0)] (RD G d sg am en (upd (upd sp3 (((l ++ List.map cvO (ls ++ lt)) ++ List.map cvO (fac Y e q).2.2).length) (-1)) ((((l ++ List.map cvO (ls ++ lt)) ++ List.map cvO (fac Y e q).2.2).length) + 1) (-2)) (nI e) (nI ((fac Y e q).2.1)) ju (nI (((((l ++ List.map cvO (ls ++ lt)) ++ List.map cvO (fac Y e q).2.2).length) + 1) + 1)) rn nd) ro
              refine ev_istore_n (lv' := [(3, .int (nI 0)), (2, .int (nI 0)), (0, .ref (d 0)), (1, .int (nI o)), (4, .int (nI i))]) hC dX6_expression_63 rfl (by decide) rfl ?_
              refine ev_iload_n hC dX6_expression_64 rfl 0 rfl ?_
              refine ev_if_neN (tgt := 70) hC dX6_expression_65 (by decide) (by omega) (fun c_43 => absurd c_43 (by omega)) (fun c_43 => ?_)
              refine ev_iconst (v := (nI 1)) hC dX6_expression_68 (by decide) ?_
              refine ev_zret hC hR rfl (by rfl) dX6_expression_69 ?_
              have hr := hex.symm.trans (ex_end (m := m) (n := n) ok3 ha ho2 m_37 m_41)
              have e1 : l ++ List.map cvO (somF Y e (fac Y e) p).2.2 = ((((l ++ List.map cvO (ls ++ lt)) ++ List.map cvO (fac Y e q).2.2) ++ [-1]) ++ [-2]) := by rw [hr]; simp [onI, show cvO (-2) = -1 from by decide, show cvO (-3) = -2 from by decide]
              exact ⟨_, (nI (((((l ++ List.map cvO (ls ++ lt)) ++ List.map cvO (fac Y e q).2.2).length) + 1) + 1)), _, Or.inl ⟨rfl, by rw [hr], (congrArg nI (by rw [e1]; try simp; try omega)), (by rw [e1]; exact ((hL3.push (-1)).push' (n := ((l ++ List.map cvO (ls ++ lt)) ++ List.map cvO (fac Y e q).2.2).length + 1) (x := (-2)) (by simp only [List.length_append, List.length_singleton])))⟩, rfl, by rw [hr], rfl⟩
        · refine ev_ws (List.append_nil _) ?_
          show Ev G X 0 0 19 [(0, .ref (d 0)), (1, .int (nI o)), (2, .int (nI 1)), (3, .int (nI 1)), (4, .int (nI i))] [.int (nI 0)] (RD G d sg am en sp3 (nI e) (nI ((fac Y e q).2.1)) ju sd3 rn nd) ro
          obtain ⟨g1, g2, g3, g4⟩ := hF Y e q (by omega)
          refine ev_if_neN (tgt := 24) hC dX6_expression_19 (by decide) (by omega) (fun c_44 => absurd c_44 (by omega)) (fun c_44 => ?_)
          refine ev_iconst (v := (nI 0)) hC dX6_expression_22 (by decide) ?_
          refine ev_zret hC hR rfl (by rfl) dX6_expression_23 ?_
          have h0 := ex_no (t := Y) (e := e) (fac := fac Y e) (a := true) (o := true) (ls := ls) (lt := lt) (p := q) (m := m) (n := n) ok3
          rw [hex] at h0
          exact ⟨_, _, _, Or.inr ⟨rfl, h0.1⟩, rfl, by rw [h0.2], rfl⟩
  refine ev_ws (ws' := (RD G d sg am en sp (nI e) (nI p) ju (nI ((l ++ List.map cvO ([] ++ [])).length)) rn nd)) (by simp) ?_
  refine ev_lv [3, 4, 2, 1, 0] rfl ?_
  exact lp_7 (e + 1 - p + 1) false false [] [] p 101 101 0 sp rfl (fun _ => rfl) (fun _ => rfl) (by simpa using hL) (by omega) (by omega) (by omega) (by omega) (by simp [b2N]; omega) (Nat.lt_succ_self _)

/-- the class reads an E -/
theorem expr_of {G : GG} {o dd : Nat} (h5 : 5 ≤ dd) {fac : (Nat → Int32) → Nat → Nat → RE} (hf : PartC G M_X6_factor dd o fac) (hF : ∀ Y e p, p ≤ e → Fgo e p (fac Y e p)) : PartC G M_X6_expression (dd + 1) o (fun Y e => somF Y e (fac Y e)) := fun ro d sg am en sp ju rn nd Y e p l hG hp hL hl => m_X6_expression G ro o dd h5 fac hf hF d sg am en sp ju rn nd Y e p l hG hp hL hl
theorem fac6_all {G : GG} : ∀ (d0 o : Nat), o + d0 = 5 → PartC G M_X6_factor (6 + 2 * d0) o (fun Y e => facD Y e d0)
  | 0, o, ho => by
    obtain rfl : o = 5 := by omega
    exact fun ro d sg am en sp ju rn nd Y e p l hG hp hL hl => m_X6_fac0 G ro d sg am en sp ju rn nd Y e p l hG hp hL hl
  | d0 + 1, o, ho => by
    have hf := fac6_all (G := G) d0 (o + 1) (by omega)
    have hs := expr_of (by omega) hf (fun Y e p hp => facD_p d0 hp)
    rw [show 6 + 2 * d0 + 1 = 7 + 2 * d0 by omega] at hs
    exact fun ro d sg am en sp ju rn nd Y e p l hG hp hL hl => m_X6_facS G ro o d0 (by omega) hf hs d sg am en sp ju rn nd Y e p l hG hp hL hl
theorem exp_all {G : GG} : PartC G M_X6_expression 17 0 (fun Y e => somF Y e (facD Y e 5)) := expr_of (by omega) (fac6_all 5 0 rfl) (fun Y e p hp => facD_p 5 hp)
