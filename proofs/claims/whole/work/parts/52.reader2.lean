set_option maxHeartbeats 4000000 in
set_option maxRecDepth 100000 in
theorem m_X6_rest0 (G : GG) (ro : va_W) (d : Nat → Nat) (sg am en sp Y : Nat → Int32) (ju sd rn nd : Int32) (e p : Nat) (hG : RdOK sg Y e) (hp : p ≤ e) : Mth G M_X6_rest 4 0 0 [.ref (d 0), .int (nI 0)] (RD G d sg am en sp (nI e) (nI p) ju sd rn nd) ro (fun r ws' ro' => ∃ (v' : Int32), ((v' = nI 1 ∧ (splF Y e 1 (strLen.getD 1 0) 0 p).1 = true) ∨ (v' = nI 0 ∧ (splF Y e 1 (strLen.getD 1 0) 0 p).1 = false)) ∧ r = some (.int v') ∧ ws' = (RD G d sg am en sp (nI e) (nI ((splF Y e 1 (strLen.getD 1 0) 0 p).2)) ju sd rn nd) ∧ ro = ro') := by
  refine mth_of (by decide +kernel) (Nat.le_of_ble_eq_true rfl) (fun X hC hR => ?_)
  have he := hG.1.1
  have hlen := strLen_le 1 (by decide)
  show Ev G X 0 0 0 [(0, .ref (d 0)), (1, .int (nI 0))] [] (RD G d sg am en sp (nI e) (nI p) ju sd rn nd) ro
  refine ev_iload_n hC dX6_rest_0 rfl 1 rfl ?_
  refine ev_if_neN (tgt := 9) hC dX6_rest_1 (by decide) (by omega) (fun c_1 => absurd c_1 (by omega)) (fun c_1 => ?_)
  refine ev_ldcS (tx := "ain ") (i := 1) hC dX6_rest_4 (by decide +kernel) ?_
  refine ev_goto (tgt := 31) hC dX6_rest_6 (by decide) ?_
  refine ev_astore_n (lv' := [(2, .ref (gK G 1)), (0, .ref (d 0)), (1, .int (nI 0))]) hC dX6_rest_31 rfl (by decide) rfl ?_
  refine ev_iconst (v := (nI 0)) hC dX6_rest_32 (by decide) ?_
  refine ev_istore_n (lv' := [(3, .int (nI 0)), (2, .ref (gK G 1)), (0, .ref (d 0)), (1, .int (nI 0))]) hC dX6_rest_33 rfl (by decide) rfl ?_
  have lp_34 : ∀ (fu_34 : Nat) (j : Nat) (q : Nat) (hj : j ≤ strLen.getD 1 0) (hq : q ≤ e) (hb : splF Y e 1 (strLen.getD 1 0) 0 p = splF Y e 1 (strLen.getD 1 0 - j) j q) (hn : strLen.getD 1 0 - j < fu_34), Ev G X 0 0 34 [(0, .ref (d 0)), (1, .int (nI 0)), (2, .ref (gK G 1)), (3, .int (nI j))] [] (RD G d sg am en sp (nI e) (nI q) ju sd rn nd) ro := by
    intro fu_34
    induction fu_34 with
    | zero => intro j q hj hq hb hn; exact absurd hn (Nat.not_lt_zero _)
    | succ fu_34 ih =>
      intro j q hj hq hb hn
      refine ev_iload_n hC dX6_rest_34 rfl 3 rfl ?_
      refine ev_aload_n hC dX6_rest_35 rfl 2 rfl ?_
      refine ev_callK (As := []) (st := [.int (nI j)]) (wc := []) (wf := (RD G d sg am en sp (nI e) (nI q) ju sd rn nd)) hC cv_X6_113 rfl (m_J0_length_8abf5 G ro 1 (by omega)) (by decide) rfl rfl (Nat.le_of_ble_eq_true rfl) (List.Perm.refl _) (by omega) dX6_rest_36 (by omega) (by omega) ?_
      rintro _ _ _ ⟨rfl, rfl, rfl⟩
      refine ev_ws (List.nil_append _) ?_
      show Ev G X 0 0 39 [(0, .ref (d 0)), (1, .int (nI 0)), (2, .ref (gK G 1)), (3, .int (nI j))] [.int (nI (strLen.getD 1 0)), .int (nI j)] (RD G d sg am en sp (nI e) (nI q) ju sd rn nd) ro
      refine ev_icmp_geN (tgt := 62) hC dX6_rest_39 (by decide) (by omega) (by omega) (fun c_2 => ?_) (fun c_2 => ?_)
      · refine ev_iconst (v := (nI 1)) hC dX6_rest_62 (by decide) ?_
        refine ev_zret hC hR rfl (by rfl) dX6_rest_63 ?_
        obtain rfl : j = strLen.getD 1 0 := by omega
        rw [Nat.sub_self] at hb
        exact ⟨_, Or.inl ⟨rfl, by rw [hb]; rfl⟩, rfl, by rw [hb]; rfl, rfl⟩
      · refine ev_aload_n hC dX6_rest_42 rfl 0 rfl ?_
        refine ev_aload_n hC dX6_rest_43 rfl 2 rfl ?_
        refine ev_iload_n hC dX6_rest_44 rfl 3 rfl ?_
        refine ev_callK (As := [.int (nI j)]) (st := [.ref (d 0)]) (wc := []) (wf := (RD G d sg am en sp (nI e) (nI q) ju sd rn nd)) hC cv_X6_118 rfl (m_J0_charAt_5068e G ro 1 j (by omega) (by first | assumption | decide)) (by decide) rfl rfl (Nat.le_of_ble_eq_true rfl) (List.Perm.refl _) (by omega) dX6_rest_45 (by omega) (by omega) ?_
        rintro _ _ _ ⟨rfl, rfl, rfl⟩
        refine ev_ws (List.nil_append _) ?_
        show Ev G X 0 0 48 [(0, .ref (d 0)), (1, .int (nI 0)), (2, .ref (gK G 1)), (3, .int (nI j))] [.int (chF 1 j), .ref (d 0)] (RD G d sg am en sp (nI e) (nI q) ju sd rn nd) ro
        have hch := chN_eq 1 (by decide) j (by omega)
        refine ev_top (y := (nI (chN 1 j))) hch.1 ?_
        refine ev_callV (As := [.int (nI (chN 1 j))]) (st := []) (wf := []) hC cv_X6_51 (m_X6_accept G ro d sg am en sp Y ju sd rn nd e q (chN 1 j) hG (by omega) (by omega)) (by omega) rfl rfl (Nat.le_of_ble_eq_true rfl) (List.Perm.of_eq (List.append_nil _).symm) (mw 0 rfl) rfl dX6_rest_48 (by omega) (by omega) ?_
        rintro _ _ _ ⟨_, _, ⟨rfl, rfl, m_3⟩ | ⟨rfl, rfl, m_3⟩, rfl, rfl, rfl⟩
        · refine ev_ws (List.append_nil _) ?_
          show Ev G X 0 0 51 [(0, .ref (d 0)), (1, .int (nI 0)), (2, .ref (gK G 1)), (3, .int (nI j))] [.int (nI 1)] (RD G d sg am en sp (nI e) (nI (q + 1)) ju sd rn nd) ro
          have lm_3 := (hr_lt (by omega) m_3).1
          refine ev_if_neN (tgt := 56) hC dX6_rest_51 (by decide) (by omega) (fun c_4 => ?_) (fun c_4 => absurd c_4 (by omega))
          refine ev_iinc (v := (nI (j + 1))) (lv' := [(3, .int (nI (j + 1))), (0, .ref (d 0)), (1, .int (nI 0)), (2, .ref (gK G 1))]) hC dX6_rest_56 (q := 3) rfl (nI_k _ _ 1 (by decide)) (by decide) rfl ?_
          refine ev_goto (tgt := 34) hC dX6_rest_59 (by decide) ?_
          refine ev_lv [1, 2, 3, 0] rfl ?_
          exact ih (j + 1) (q + 1) (by omega) (by omega) (by rw [hb, spl_t (by omega) m_3, show strLen.getD 1 0 - (j + 1) = strLen.getD 1 0 - j - 1 by omega]) (by omega)
        · refine ev_ws (List.append_nil _) ?_
          show Ev G X 0 0 51 [(0, .ref (d 0)), (1, .int (nI 0)), (2, .ref (gK G 1)), (3, .int (nI j))] [.int (nI 0)] (RD G d sg am en sp (nI e) (nI q) ju sd rn nd) ro
          refine ev_if_neN (tgt := 56) hC dX6_rest_51 (by decide) (by omega) (fun c_5 => absurd c_5 (by omega)) (fun c_5 => ?_)
          refine ev_iconst (v := (nI 0)) hC dX6_rest_54 (by decide) ?_
          refine ev_zret hC hR rfl (by rfl) dX6_rest_55 ?_
          have hb2 := hb.trans (spl_f (by omega) (fun z => m_3 z))
          exact ⟨_, Or.inr ⟨rfl, by rw [hb2]⟩, rfl, by rw [hb2], rfl⟩
  refine ev_lv [2, 3, 1, 0] rfl ?_
  exact lp_34 (strLen.getD 1 0 - 0 + 1) 0 p (by omega) (by omega) rfl (Nat.lt_succ_self _)

set_option maxHeartbeats 4000000 in
set_option maxRecDepth 100000 in
theorem m_X6_rest1 (G : GG) (ro : va_W) (d : Nat → Nat) (sg am en sp Y : Nat → Int32) (ju sd rn nd : Int32) (e p : Nat) (hG : RdOK sg Y e) (hp : p ≤ e) : Mth G M_X6_rest 4 0 0 [.ref (d 0), .int (nI 1)] (RD G d sg am en sp (nI e) (nI p) ju sd rn nd) ro (fun r ws' ro' => ∃ (v' : Int32), ((v' = nI 1 ∧ (splF Y e 2 (strLen.getD 2 0) 0 p).1 = true) ∨ (v' = nI 0 ∧ (splF Y e 2 (strLen.getD 2 0) 0 p).1 = false)) ∧ r = some (.int v') ∧ ws' = (RD G d sg am en sp (nI e) (nI ((splF Y e 2 (strLen.getD 2 0) 0 p).2)) ju sd rn nd) ∧ ro = ro') := by
  refine mth_of (by decide +kernel) (Nat.le_of_ble_eq_true rfl) (fun X hC hR => ?_)
  have he := hG.1.1
  have hlen := strLen_le 2 (by decide)
  show Ev G X 0 0 0 [(0, .ref (d 0)), (1, .int (nI 1))] [] (RD G d sg am en sp (nI e) (nI p) ju sd rn nd) ro
  refine ev_iload_n hC dX6_rest_0 rfl 1 rfl ?_
  refine ev_if_neN (tgt := 9) hC dX6_rest_1 (by decide) (by omega) (fun c_1 => ?_) (fun c_1 => absurd c_1 (by omega))
  refine ev_iload_n hC dX6_rest_9 rfl 1 rfl ?_
  refine ev_iconst (v := (nI 1)) hC dX6_rest_10 (by decide) ?_
  refine ev_icmp_neN (tgt := 19) hC dX6_rest_11 (by decide) (by omega) (by omega) (fun c_2 => absurd c_2 (by omega)) (fun c_2 => ?_)
  refine ev_ldcS (tx := "eed ") (i := 2) hC dX6_rest_14 (by decide +kernel) ?_
  refine ev_goto (tgt := 31) hC dX6_rest_16 (by decide) ?_
  refine ev_astore_n (lv' := [(2, .ref (gK G 2)), (0, .ref (d 0)), (1, .int (nI 1))]) hC dX6_rest_31 rfl (by decide) rfl ?_
  refine ev_iconst (v := (nI 0)) hC dX6_rest_32 (by decide) ?_
  refine ev_istore_n (lv' := [(3, .int (nI 0)), (2, .ref (gK G 2)), (0, .ref (d 0)), (1, .int (nI 1))]) hC dX6_rest_33 rfl (by decide) rfl ?_
  have lp_34 : ∀ (fu_34 : Nat) (j : Nat) (q : Nat) (hj : j ≤ strLen.getD 2 0) (hq : q ≤ e) (hb : splF Y e 2 (strLen.getD 2 0) 0 p = splF Y e 2 (strLen.getD 2 0 - j) j q) (hn : strLen.getD 2 0 - j < fu_34), Ev G X 0 0 34 [(0, .ref (d 0)), (1, .int (nI 1)), (2, .ref (gK G 2)), (3, .int (nI j))] [] (RD G d sg am en sp (nI e) (nI q) ju sd rn nd) ro := by
    intro fu_34
    induction fu_34 with
    | zero => intro j q hj hq hb hn; exact absurd hn (Nat.not_lt_zero _)
    | succ fu_34 ih =>
      intro j q hj hq hb hn
      refine ev_iload_n hC dX6_rest_34 rfl 3 rfl ?_
      refine ev_aload_n hC dX6_rest_35 rfl 2 rfl ?_
      refine ev_callK (As := []) (st := [.int (nI j)]) (wc := []) (wf := (RD G d sg am en sp (nI e) (nI q) ju sd rn nd)) hC cv_X6_113 rfl (m_J0_length_8abf5 G ro 2 (by omega)) (by decide) rfl rfl (Nat.le_of_ble_eq_true rfl) (List.Perm.refl _) (by omega) dX6_rest_36 (by omega) (by omega) ?_
      rintro _ _ _ ⟨rfl, rfl, rfl⟩
      refine ev_ws (List.nil_append _) ?_
      show Ev G X 0 0 39 [(0, .ref (d 0)), (1, .int (nI 1)), (2, .ref (gK G 2)), (3, .int (nI j))] [.int (nI (strLen.getD 2 0)), .int (nI j)] (RD G d sg am en sp (nI e) (nI q) ju sd rn nd) ro
      refine ev_icmp_geN (tgt := 62) hC dX6_rest_39 (by decide) (by omega) (by omega) (fun c_3 => ?_) (fun c_3 => ?_)
      · refine ev_iconst (v := (nI 1)) hC dX6_rest_62 (by decide) ?_
        refine ev_zret hC hR rfl (by rfl) dX6_rest_63 ?_
        obtain rfl : j = strLen.getD 2 0 := by omega
        rw [Nat.sub_self] at hb
        exact ⟨_, Or.inl ⟨rfl, by rw [hb]; rfl⟩, rfl, by rw [hb]; rfl, rfl⟩
      · refine ev_aload_n hC dX6_rest_42 rfl 0 rfl ?_
        refine ev_aload_n hC dX6_rest_43 rfl 2 rfl ?_
        refine ev_iload_n hC dX6_rest_44 rfl 3 rfl ?_
        refine ev_callK (As := [.int (nI j)]) (st := [.ref (d 0)]) (wc := []) (wf := (RD G d sg am en sp (nI e) (nI q) ju sd rn nd)) hC cv_X6_118 rfl (m_J0_charAt_5068e G ro 2 j (by omega) (by first | assumption | decide)) (by decide) rfl rfl (Nat.le_of_ble_eq_true rfl) (List.Perm.refl _) (by omega) dX6_rest_45 (by omega) (by omega) ?_
        rintro _ _ _ ⟨rfl, rfl, rfl⟩
        refine ev_ws (List.nil_append _) ?_
        show Ev G X 0 0 48 [(0, .ref (d 0)), (1, .int (nI 1)), (2, .ref (gK G 2)), (3, .int (nI j))] [.int (chF 2 j), .ref (d 0)] (RD G d sg am en sp (nI e) (nI q) ju sd rn nd) ro
        have hch := chN_eq 2 (by decide) j (by omega)
        refine ev_top (y := (nI (chN 2 j))) hch.1 ?_
        refine ev_callV (As := [.int (nI (chN 2 j))]) (st := []) (wf := []) hC cv_X6_51 (m_X6_accept G ro d sg am en sp Y ju sd rn nd e q (chN 2 j) hG (by omega) (by omega)) (by omega) rfl rfl (Nat.le_of_ble_eq_true rfl) (List.Perm.of_eq (List.append_nil _).symm) (mw 0 rfl) rfl dX6_rest_48 (by omega) (by omega) ?_
        rintro _ _ _ ⟨_, _, ⟨rfl, rfl, m_4⟩ | ⟨rfl, rfl, m_4⟩, rfl, rfl, rfl⟩
        · refine ev_ws (List.append_nil _) ?_
          show Ev G X 0 0 51 [(0, .ref (d 0)), (1, .int (nI 1)), (2, .ref (gK G 2)), (3, .int (nI j))] [.int (nI 1)] (RD G d sg am en sp (nI e) (nI (q + 1)) ju sd rn nd) ro
          have lm_4 := (hr_lt (by omega) m_4).1
          refine ev_if_neN (tgt := 56) hC dX6_rest_51 (by decide) (by omega) (fun c_5 => ?_) (fun c_5 => absurd c_5 (by omega))
          refine ev_iinc (v := (nI (j + 1))) (lv' := [(3, .int (nI (j + 1))), (0, .ref (d 0)), (1, .int (nI 1)), (2, .ref (gK G 2))]) hC dX6_rest_56 (q := 3) rfl (nI_k _ _ 1 (by decide)) (by decide) rfl ?_
          refine ev_goto (tgt := 34) hC dX6_rest_59 (by decide) ?_
          refine ev_lv [1, 2, 3, 0] rfl ?_
          exact ih (j + 1) (q + 1) (by omega) (by omega) (by rw [hb, spl_t (by omega) m_4, show strLen.getD 2 0 - (j + 1) = strLen.getD 2 0 - j - 1 by omega]) (by omega)
        · refine ev_ws (List.append_nil _) ?_
          show Ev G X 0 0 51 [(0, .ref (d 0)), (1, .int (nI 1)), (2, .ref (gK G 2)), (3, .int (nI j))] [.int (nI 0)] (RD G d sg am en sp (nI e) (nI q) ju sd rn nd) ro
          refine ev_if_neN (tgt := 56) hC dX6_rest_51 (by decide) (by omega) (fun c_6 => absurd c_6 (by omega)) (fun c_6 => ?_)
          refine ev_iconst (v := (nI 0)) hC dX6_rest_54 (by decide) ?_
          refine ev_zret hC hR rfl (by rfl) dX6_rest_55 ?_
          have hb2 := hb.trans (spl_f (by omega) (fun z => m_4 z))
          exact ⟨_, Or.inr ⟨rfl, by rw [hb2]⟩, rfl, by rw [hb2], rfl⟩
  refine ev_lv [2, 3, 1, 0] rfl ?_
  exact lp_34 (strLen.getD 2 0 - 0 + 1) 0 p (by omega) (by omega) rfl (Nat.lt_succ_self _)

set_option maxHeartbeats 4000000 in
set_option maxRecDepth 100000 in
theorem m_X6_rest2 (G : GG) (ro : va_W) (d : Nat → Nat) (sg am en sp Y : Nat → Int32) (ju sd rn nd : Int32) (e p : Nat) (hG : RdOK sg Y e) (hp : p ≤ e) : Mth G M_X6_rest 4 0 0 [.ref (d 0), .int (nI 2)] (RD G d sg am en sp (nI e) (nI p) ju sd rn nd) ro (fun r ws' ro' => ∃ (v' : Int32), ((v' = nI 1 ∧ (splF Y e 3 (strLen.getD 3 0) 0 p).1 = true) ∨ (v' = nI 0 ∧ (splF Y e 3 (strLen.getD 3 0) 0 p).1 = false)) ∧ r = some (.int v') ∧ ws' = (RD G d sg am en sp (nI e) (nI ((splF Y e 3 (strLen.getD 3 0) 0 p).2)) ju sd rn nd) ∧ ro = ro') := by
  refine mth_of (by decide +kernel) (Nat.le_of_ble_eq_true rfl) (fun X hC hR => ?_)
  have he := hG.1.1
  have hlen := strLen_le 3 (by decide)
  show Ev G X 0 0 0 [(0, .ref (d 0)), (1, .int (nI 2))] [] (RD G d sg am en sp (nI e) (nI p) ju sd rn nd) ro
  refine ev_iload_n hC dX6_rest_0 rfl 1 rfl ?_
  refine ev_if_neN (tgt := 9) hC dX6_rest_1 (by decide) (by omega) (fun c_1 => ?_) (fun c_1 => absurd c_1 (by omega))
  refine ev_iload_n hC dX6_rest_9 rfl 1 rfl ?_
  refine ev_iconst (v := (nI 1)) hC dX6_rest_10 (by decide) ?_
  refine ev_icmp_neN (tgt := 19) hC dX6_rest_11 (by decide) (by omega) (by omega) (fun c_2 => ?_) (fun c_2 => absurd c_2 (by omega))
  refine ev_iload_n hC dX6_rest_19 rfl 1 rfl ?_
  refine ev_iconst (v := (nI 2)) hC dX6_rest_20 (by decide) ?_
  refine ev_icmp_neN (tgt := 29) hC dX6_rest_21 (by decide) (by omega) (by omega) (fun c_3 => absurd c_3 (by omega)) (fun c_3 => ?_)
  refine ev_ldcS (tx := "rong ") (i := 3) hC dX6_rest_24 (by decide +kernel) ?_
  refine ev_goto (tgt := 31) hC dX6_rest_26 (by decide) ?_
  refine ev_astore_n (lv' := [(2, .ref (gK G 3)), (0, .ref (d 0)), (1, .int (nI 2))]) hC dX6_rest_31 rfl (by decide) rfl ?_
  refine ev_iconst (v := (nI 0)) hC dX6_rest_32 (by decide) ?_
  refine ev_istore_n (lv' := [(3, .int (nI 0)), (2, .ref (gK G 3)), (0, .ref (d 0)), (1, .int (nI 2))]) hC dX6_rest_33 rfl (by decide) rfl ?_
  have lp_34 : ∀ (fu_34 : Nat) (j : Nat) (q : Nat) (hj : j ≤ strLen.getD 3 0) (hq : q ≤ e) (hb : splF Y e 3 (strLen.getD 3 0) 0 p = splF Y e 3 (strLen.getD 3 0 - j) j q) (hn : strLen.getD 3 0 - j < fu_34), Ev G X 0 0 34 [(0, .ref (d 0)), (1, .int (nI 2)), (2, .ref (gK G 3)), (3, .int (nI j))] [] (RD G d sg am en sp (nI e) (nI q) ju sd rn nd) ro := by
    intro fu_34
    induction fu_34 with
    | zero => intro j q hj hq hb hn; exact absurd hn (Nat.not_lt_zero _)
    | succ fu_34 ih =>
      intro j q hj hq hb hn
      refine ev_iload_n hC dX6_rest_34 rfl 3 rfl ?_
      refine ev_aload_n hC dX6_rest_35 rfl 2 rfl ?_
      refine ev_callK (As := []) (st := [.int (nI j)]) (wc := []) (wf := (RD G d sg am en sp (nI e) (nI q) ju sd rn nd)) hC cv_X6_113 rfl (m_J0_length_8abf5 G ro 3 (by omega)) (by decide) rfl rfl (Nat.le_of_ble_eq_true rfl) (List.Perm.refl _) (by omega) dX6_rest_36 (by omega) (by omega) ?_
      rintro _ _ _ ⟨rfl, rfl, rfl⟩
      refine ev_ws (List.nil_append _) ?_
      show Ev G X 0 0 39 [(0, .ref (d 0)), (1, .int (nI 2)), (2, .ref (gK G 3)), (3, .int (nI j))] [.int (nI (strLen.getD 3 0)), .int (nI j)] (RD G d sg am en sp (nI e) (nI q) ju sd rn nd) ro
      refine ev_icmp_geN (tgt := 62) hC dX6_rest_39 (by decide) (by omega) (by omega) (fun c_4 => ?_) (fun c_4 => ?_)
      · refine ev_iconst (v := (nI 1)) hC dX6_rest_62 (by decide) ?_
        refine ev_zret hC hR rfl (by rfl) dX6_rest_63 ?_
        obtain rfl : j = strLen.getD 3 0 := by omega
        rw [Nat.sub_self] at hb
        exact ⟨_, Or.inl ⟨rfl, by rw [hb]; rfl⟩, rfl, by rw [hb]; rfl, rfl⟩
      · refine ev_aload_n hC dX6_rest_42 rfl 0 rfl ?_
        refine ev_aload_n hC dX6_rest_43 rfl 2 rfl ?_
        refine ev_iload_n hC dX6_rest_44 rfl 3 rfl ?_
        refine ev_callK (As := [.int (nI j)]) (st := [.ref (d 0)]) (wc := []) (wf := (RD G d sg am en sp (nI e) (nI q) ju sd rn nd)) hC cv_X6_118 rfl (m_J0_charAt_5068e G ro 3 j (by omega) (by first | assumption | decide)) (by decide) rfl rfl (Nat.le_of_ble_eq_true rfl) (List.Perm.refl _) (by omega) dX6_rest_45 (by omega) (by omega) ?_
        rintro _ _ _ ⟨rfl, rfl, rfl⟩
        refine ev_ws (List.nil_append _) ?_
        show Ev G X 0 0 48 [(0, .ref (d 0)), (1, .int (nI 2)), (2, .ref (gK G 3)), (3, .int (nI j))] [.int (chF 3 j), .ref (d 0)] (RD G d sg am en sp (nI e) (nI q) ju sd rn nd) ro
        have hch := chN_eq 3 (by decide) j (by omega)
        refine ev_top (y := (nI (chN 3 j))) hch.1 ?_
        refine ev_callV (As := [.int (nI (chN 3 j))]) (st := []) (wf := []) hC cv_X6_51 (m_X6_accept G ro d sg am en sp Y ju sd rn nd e q (chN 3 j) hG (by omega) (by omega)) (by omega) rfl rfl (Nat.le_of_ble_eq_true rfl) (List.Perm.of_eq (List.append_nil _).symm) (mw 0 rfl) rfl dX6_rest_48 (by omega) (by omega) ?_
        rintro _ _ _ ⟨_, _, ⟨rfl, rfl, m_5⟩ | ⟨rfl, rfl, m_5⟩, rfl, rfl, rfl⟩
        · refine ev_ws (List.append_nil _) ?_
          show Ev G X 0 0 51 [(0, .ref (d 0)), (1, .int (nI 2)), (2, .ref (gK G 3)), (3, .int (nI j))] [.int (nI 1)] (RD G d sg am en sp (nI e) (nI (q + 1)) ju sd rn nd) ro
          have lm_5 := (hr_lt (by omega) m_5).1
          refine ev_if_neN (tgt := 56) hC dX6_rest_51 (by decide) (by omega) (fun c_6 => ?_) (fun c_6 => absurd c_6 (by omega))
          refine ev_iinc (v := (nI (j + 1))) (lv' := [(3, .int (nI (j + 1))), (0, .ref (d 0)), (1, .int (nI 2)), (2, .ref (gK G 3))]) hC dX6_rest_56 (q := 3) rfl (nI_k _ _ 1 (by decide)) (by decide) rfl ?_
          refine ev_goto (tgt := 34) hC dX6_rest_59 (by decide) ?_
          refine ev_lv [1, 2, 3, 0] rfl ?_
          exact ih (j + 1) (q + 1) (by omega) (by omega) (by rw [hb, spl_t (by omega) m_5, show strLen.getD 3 0 - (j + 1) = strLen.getD 3 0 - j - 1 by omega]) (by omega)
        · refine ev_ws (List.append_nil _) ?_
          show Ev G X 0 0 51 [(0, .ref (d 0)), (1, .int (nI 2)), (2, .ref (gK G 3)), (3, .int (nI j))] [.int (nI 0)] (RD G d sg am en sp (nI e) (nI q) ju sd rn nd) ro
          refine ev_if_neN (tgt := 56) hC dX6_rest_51 (by decide) (by omega) (fun c_7 => absurd c_7 (by omega)) (fun c_7 => ?_)
          refine ev_iconst (v := (nI 0)) hC dX6_rest_54 (by decide) ?_
          refine ev_zret hC hR rfl (by rfl) dX6_rest_55 ?_
          have hb2 := hb.trans (spl_f (by omega) (fun z => m_5 z))
          exact ⟨_, Or.inr ⟨rfl, by rw [hb2]⟩, rfl, by rw [hb2], rfl⟩
  refine ev_lv [2, 3, 1, 0] rfl ?_
  exact lp_34 (strLen.getD 3 0 - 0 + 1) 0 p (by omega) (by omega) rfl (Nat.lt_succ_self _)

set_option maxHeartbeats 4000000 in
set_option maxRecDepth 100000 in
theorem m_X6_rest3 (G : GG) (ro : va_W) (d : Nat → Nat) (sg am en sp Y : Nat → Int32) (ju sd rn nd : Int32) (e p : Nat) (hG : RdOK sg Y e) (hp : p ≤ e) : Mth G M_X6_rest 4 0 0 [.ref (d 0), .int (nI 3)] (RD G d sg am en sp (nI e) (nI p) ju sd rn nd) ro (fun r ws' ro' => ∃ (v' : Int32), ((v' = nI 1 ∧ (splF Y e 4 (strLen.getD 4 0) 0 p).1 = true) ∨ (v' = nI 0 ∧ (splF Y e 4 (strLen.getD 4 0) 0 p).1 = false)) ∧ r = some (.int v') ∧ ws' = (RD G d sg am en sp (nI e) (nI ((splF Y e 4 (strLen.getD 4 0) 0 p).2)) ju sd rn nd) ∧ ro = ro') := by
  refine mth_of (by decide +kernel) (Nat.le_of_ble_eq_true rfl) (fun X hC hR => ?_)
  have he := hG.1.1
  have hlen := strLen_le 4 (by decide)
  show Ev G X 0 0 0 [(0, .ref (d 0)), (1, .int (nI 3))] [] (RD G d sg am en sp (nI e) (nI p) ju sd rn nd) ro
  refine ev_iload_n hC dX6_rest_0 rfl 1 rfl ?_
  refine ev_if_neN (tgt := 9) hC dX6_rest_1 (by decide) (by omega) (fun c_1 => ?_) (fun c_1 => absurd c_1 (by omega))
  refine ev_iload_n hC dX6_rest_9 rfl 1 rfl ?_
  refine ev_iconst (v := (nI 1)) hC dX6_rest_10 (by decide) ?_
  refine ev_icmp_neN (tgt := 19) hC dX6_rest_11 (by decide) (by omega) (by omega) (fun c_2 => ?_) (fun c_2 => absurd c_2 (by omega))
  refine ev_iload_n hC dX6_rest_19 rfl 1 rfl ?_
  refine ev_iconst (v := (nI 2)) hC dX6_rest_20 (by decide) ?_
  refine ev_icmp_neN (tgt := 29) hC dX6_rest_21 (by decide) (by omega) (by omega) (fun c_3 => ?_) (fun c_3 => absurd c_3 (by omega))
  refine ev_ldcS (tx := "alm ") (i := 4) hC dX6_rest_29 (by decide +kernel) ?_
  refine ev_astore_n (lv' := [(2, .ref (gK G 4)), (0, .ref (d 0)), (1, .int (nI 3))]) hC dX6_rest_31 rfl (by decide) rfl ?_
  refine ev_iconst (v := (nI 0)) hC dX6_rest_32 (by decide) ?_
  refine ev_istore_n (lv' := [(3, .int (nI 0)), (2, .ref (gK G 4)), (0, .ref (d 0)), (1, .int (nI 3))]) hC dX6_rest_33 rfl (by decide) rfl ?_
  have lp_34 : ∀ (fu_34 : Nat) (j : Nat) (q : Nat) (hj : j ≤ strLen.getD 4 0) (hq : q ≤ e) (hb : splF Y e 4 (strLen.getD 4 0) 0 p = splF Y e 4 (strLen.getD 4 0 - j) j q) (hn : strLen.getD 4 0 - j < fu_34), Ev G X 0 0 34 [(0, .ref (d 0)), (1, .int (nI 3)), (2, .ref (gK G 4)), (3, .int (nI j))] [] (RD G d sg am en sp (nI e) (nI q) ju sd rn nd) ro := by
    intro fu_34
    induction fu_34 with
    | zero => intro j q hj hq hb hn; exact absurd hn (Nat.not_lt_zero _)
    | succ fu_34 ih =>
      intro j q hj hq hb hn
      refine ev_iload_n hC dX6_rest_34 rfl 3 rfl ?_
      refine ev_aload_n hC dX6_rest_35 rfl 2 rfl ?_
      refine ev_callK (As := []) (st := [.int (nI j)]) (wc := []) (wf := (RD G d sg am en sp (nI e) (nI q) ju sd rn nd)) hC cv_X6_113 rfl (m_J0_length_8abf5 G ro 4 (by omega)) (by decide) rfl rfl (Nat.le_of_ble_eq_true rfl) (List.Perm.refl _) (by omega) dX6_rest_36 (by omega) (by omega) ?_
      rintro _ _ _ ⟨rfl, rfl, rfl⟩
      refine ev_ws (List.nil_append _) ?_
      show Ev G X 0 0 39 [(0, .ref (d 0)), (1, .int (nI 3)), (2, .ref (gK G 4)), (3, .int (nI j))] [.int (nI (strLen.getD 4 0)), .int (nI j)] (RD G d sg am en sp (nI e) (nI q) ju sd rn nd) ro
      refine ev_icmp_geN (tgt := 62) hC dX6_rest_39 (by decide) (by omega) (by omega) (fun c_4 => ?_) (fun c_4 => ?_)
      · refine ev_iconst (v := (nI 1)) hC dX6_rest_62 (by decide) ?_
        refine ev_zret hC hR rfl (by rfl) dX6_rest_63 ?_
        obtain rfl : j = strLen.getD 4 0 := by omega
        rw [Nat.sub_self] at hb
        exact ⟨_, Or.inl ⟨rfl, by rw [hb]; rfl⟩, rfl, by rw [hb]; rfl, rfl⟩
      · refine ev_aload_n hC dX6_rest_42 rfl 0 rfl ?_
        refine ev_aload_n hC dX6_rest_43 rfl 2 rfl ?_
        refine ev_iload_n hC dX6_rest_44 rfl 3 rfl ?_
        refine ev_callK (As := [.int (nI j)]) (st := [.ref (d 0)]) (wc := []) (wf := (RD G d sg am en sp (nI e) (nI q) ju sd rn nd)) hC cv_X6_118 rfl (m_J0_charAt_5068e G ro 4 j (by omega) (by first | assumption | decide)) (by decide) rfl rfl (Nat.le_of_ble_eq_true rfl) (List.Perm.refl _) (by omega) dX6_rest_45 (by omega) (by omega) ?_
        rintro _ _ _ ⟨rfl, rfl, rfl⟩
        refine ev_ws (List.nil_append _) ?_
        show Ev G X 0 0 48 [(0, .ref (d 0)), (1, .int (nI 3)), (2, .ref (gK G 4)), (3, .int (nI j))] [.int (chF 4 j), .ref (d 0)] (RD G d sg am en sp (nI e) (nI q) ju sd rn nd) ro
        have hch := chN_eq 4 (by decide) j (by omega)
        refine ev_top (y := (nI (chN 4 j))) hch.1 ?_
        refine ev_callV (As := [.int (nI (chN 4 j))]) (st := []) (wf := []) hC cv_X6_51 (m_X6_accept G ro d sg am en sp Y ju sd rn nd e q (chN 4 j) hG (by omega) (by omega)) (by omega) rfl rfl (Nat.le_of_ble_eq_true rfl) (List.Perm.of_eq (List.append_nil _).symm) (mw 0 rfl) rfl dX6_rest_48 (by omega) (by omega) ?_
        rintro _ _ _ ⟨_, _, ⟨rfl, rfl, m_5⟩ | ⟨rfl, rfl, m_5⟩, rfl, rfl, rfl⟩
        · refine ev_ws (List.append_nil _) ?_
          show Ev G X 0 0 51 [(0, .ref (d 0)), (1, .int (nI 3)), (2, .ref (gK G 4)), (3, .int (nI j))] [.int (nI 1)] (RD G d sg am en sp (nI e) (nI (q + 1)) ju sd rn nd) ro
          have lm_5 := (hr_lt (by omega) m_5).1
          refine ev_if_neN (tgt := 56) hC dX6_rest_51 (by decide) (by omega) (fun c_6 => ?_) (fun c_6 => absurd c_6 (by omega))
          refine ev_iinc (v := (nI (j + 1))) (lv' := [(3, .int (nI (j + 1))), (0, .ref (d 0)), (1, .int (nI 3)), (2, .ref (gK G 4))]) hC dX6_rest_56 (q := 3) rfl (nI_k _ _ 1 (by decide)) (by decide) rfl ?_
          refine ev_goto (tgt := 34) hC dX6_rest_59 (by decide) ?_
          refine ev_lv [1, 2, 3, 0] rfl ?_
          exact ih (j + 1) (q + 1) (by omega) (by omega) (by rw [hb, spl_t (by omega) m_5, show strLen.getD 4 0 - (j + 1) = strLen.getD 4 0 - j - 1 by omega]) (by omega)
        · refine ev_ws (List.append_nil _) ?_
          show Ev G X 0 0 51 [(0, .ref (d 0)), (1, .int (nI 3)), (2, .ref (gK G 4)), (3, .int (nI j))] [.int (nI 0)] (RD G d sg am en sp (nI e) (nI q) ju sd rn nd) ro
          refine ev_if_neN (tgt := 56) hC dX6_rest_51 (by decide) (by omega) (fun c_7 => absurd c_7 (by omega)) (fun c_7 => ?_)
          refine ev_iconst (v := (nI 0)) hC dX6_rest_54 (by decide) ?_
          refine ev_zret hC hR rfl (by rfl) dX6_rest_55 ?_
          have hb2 := hb.trans (spl_f (by omega) (fun z => m_5 z))
          exact ⟨_, Or.inr ⟨rfl, by rw [hb2]⟩, rfl, by rw [hb2], rfl⟩
  refine ev_lv [2, 3, 1, 0] rfl ?_
  exact lp_34 (strLen.getD 4 0 - 0 + 1) 0 p (by omega) (by omega) rfl (Nat.lt_succ_self _)

set_option maxHeartbeats 4000000 in
set_option maxRecDepth 100000 in
theorem m_X6_judge (G : GG) (ro : va_W) (d : Nat → Nat) (sg am en sp : Nat → Int32) (sz ap sd rn nd x : Int32) (m : Nat) (hm : m < 10) : Mth G M_X6_judge 0 0 0 [.ref (d 0), .int x] (RD G d sg am en sp sz ap (nI m) sd rn nd) ro (fun r ws' ro' => r = some (.int (nI 1)) ∧ ws' = (RD G d sg (upd am m x) (upd en m sd) sp sz ap (nI (m + 1)) sd rn nd) ∧ ro = ro') := by
  refine mth_of (by decide +kernel) (Nat.le_of_ble_eq_true rfl) (fun X hC hR => ?_)
  show Ev G X 0 0 0 [(0, .ref (d 0)), (1, .int x)] [] (RD G d sg am en sp sz ap (nI m) sd rn nd) ro
  refine ev_aload_n hC dX6_judge_0 rfl 0 rfl ?_
  refine ev_get hC fl_X6_31_6 (mw 0 rfl) rfl dX6_judge_1 ?_
  refine ev_bipush (v := (nI 10)) hC dX6_judge_4 (by decide) ?_
  refine ev_icmp_ltN (tgt := 11) hC dX6_judge_6 (by decide) (by omega) (by omega) (fun c_1 => ?_) (fun c_1 => absurd c_1 (by omega))
  refine ev_aload_n hC dX6_judge_11 rfl 0 rfl ?_
  refine ev_get hC fl_X6_15_6 (mw 0 rfl) rfl dX6_judge_12 ?_
  refine ev_aload_n hC dX6_judge_15 rfl 0 rfl ?_
  refine ev_get hC fl_X6_31_6 (mw 0 rfl) rfl dX6_judge_16 ?_
  refine ev_iload_n hC dX6_judge_19 rfl 1 rfl ?_
  refine ev_iastN (i := m) (ws' := (RD G d sg (upd am m x) en sp sz ap (nI m) sd rn nd)) (q0 := 2) hC rfl (by omega) (by omega) rfl dX6_judge_20 ?_
  refine ev_aload_n hC dX6_judge_21 rfl 0 rfl ?_
  refine ev_get hC fl_X6_18_6 (mw 0 rfl) rfl dX6_judge_22 ?_
  refine ev_aload_n hC dX6_judge_25 rfl 0 rfl ?_
  refine ev_get hC fl_X6_31_6 (mw 0 rfl) rfl dX6_judge_26 ?_
  refine ev_aload_n hC dX6_judge_29 rfl 0 rfl ?_
  refine ev_get hC fl_X6_34_6 (mw 0 rfl) rfl dX6_judge_30 ?_
  refine ev_iastN (i := m) (ws' := (RD G d sg (upd am m x) (upd en m sd) sp sz ap (nI m) sd rn nd)) (q0 := 3) hC rfl (by omega) (by omega) rfl dX6_judge_33 ?_
  refine ev_aload_n hC dX6_judge_34 rfl 0 rfl ?_
  refine ev_dup hC dX6_judge_35 rfl ?_
  refine ev_get hC fl_X6_31_6 (mw 0 rfl) rfl dX6_judge_36 ?_
  refine ev_iconst (v := (nI 1)) hC dX6_judge_39 (by decide) ?_
  refine ev_iadd hC dX6_judge_40 ?_
  refine ev_top (y := (nI (m + 1))) ((nI_add _ _).trans (congrArg nI (by omega))) ?_
  refine ev_put (ws' := (RD G d sg (upd am m x) (upd en m sd) sp sz ap (nI (m + 1)) sd rn nd)) (q0 := 0) hC fp_X6_31_6 rfl (Nat.le_of_ble_eq_true rfl) rfl rfl rfl dX6_judge_41 ?_
  refine ev_iconst (v := (nI 1)) hC dX6_judge_44 (by decide) ?_
  refine ev_zret hC hR rfl (by rfl) dX6_judge_45 ?_
  exact ⟨rfl, rfl, rfl⟩

set_option maxHeartbeats 4000000 in
set_option maxRecDepth 100000 in
theorem m_X6_clause (G : GG) (ro : va_W) (d : Nat → Nat) (sg am en sp Y : Nat → Int32) (e p ra ne : Nat) (L : List Int32) (hG : RdOK sg Y e) (hp : p ≤ e) (hA : LstF am (cvA L)) (hE : LstF en (cvE L 0)) (hS : LstF sp (cvS L)) (hK : ∀ s ∈ L, okK s) (h9 : (cvA L).length < 10) (hlL : L.length ≤ p) : Mth G M_X6_clause 18 0 0 [.ref (d 0)] (RD G d sg am en sp (nI e) (nI p) (nI ((cvA L).length)) (nI ((cvS L).length)) (nI ra) (nI ne)) ro (fun r ws' ro' => ∃ (am' : Nat → Int32), ∃ (en' : Nat → Int32), ∃ (sp' : Nat → Int32), ∃ (ju' : Int32), ∃ (sd' : Int32), ∃ (rn' : Int32), ∃ (nd' : Int32), ∃ (v' : Int32), ((v' = nI 1 ∧ (clF Y e p ra ne L).1 = true ∧ CSt am' en' sp' ju' sd' rn' nd' (clF Y e p ra ne L) ∧ (cvA (clF Y e p ra ne L).2.2.2.2).length ≤ (cvA L).length + 1) ∨ (v' = nI 0 ∧ (clF Y e p ra ne L).1 = false)) ∧ r = some (.int v') ∧ ws' = (RD G d sg am' en' sp' (nI e) (nI ((clF Y e p ra ne L).2.1)) ju' sd' rn' nd') ∧ ro = ro') := by
  refine mth_of (by decide +kernel) (Nat.le_of_ble_eq_true rfl) (fun X hC hR => ?_)
  have he := hG.1.1
  show Ev G X 0 0 0 [(0, .ref (d 0))] [] (RD G d sg am en sp (nI e) (nI p) (nI ((cvA L).length)) (nI ((cvS L).length)) (nI ra) (nI ne)) ro
  refine ev_aload_n hC dX6_clause_0 rfl 0 rfl ?_
  refine ev_ldcS (tx := "rnwc") (i := 0) hC dX6_clause_1 (by decide +kernel) ?_
  refine ev_callV (As := [.ref (gK G 0)]) (st := []) (wf := []) hC cv_X6_89 (m_X6_choice G ro d sg am en sp Y (nI ((cvA L).length)) (nI ((cvS L).length)) (nI ra) (nI ne) e p 0 hG (by omega) (by decide)) (by omega) rfl rfl (Nat.le_of_ble_eq_true rfl) (List.Perm.of_eq (List.append_nil _).symm) (mw 0 rfl) rfl dX6_clause_3 (by omega) (by omega) ?_
  rintro _ _ _ ⟨_, _, ⟨j_2, ch_1, rfl, rfl⟩ | ⟨ch_1, rfl, rfl⟩, rfl, rfl, rfl⟩
  · refine ev_ws (List.append_nil _) ?_
    show Ev G X 0 0 6 [(0, .ref (d 0))] [.int (nI j_2)] (RD G d sg am en sp (nI e) (nI (p + 1)) (nI ((cvA L).length)) (nI ((cvS L).length)) (nI ra) (nI ne)) ro
    have ch_1l := (fndF_le ch_1).2
    have ch_1b : j_2 < 4 := ch_1l.1
    have ch_1p := (hr_lt (t := Y) (e := e) (p := p) (c := chN 0 j_2) (by have := (chN_eq 0 (by decide) j_2 ch_1b).2; omega) (ch_1l.2.trans (chN_eq 0 (by decide) j_2 ch_1b).1)).1
    have q0 : fndF 0 (hrF Y e p) 4 0 = some j_2 := ch_1
    refine ev_istore_n (lv' := [(1, .int (nI j_2)), (0, .ref (d 0))]) hC dX6_clause_6 rfl (by decide) rfl ?_
    refine ev_iload_n hC dX6_clause_7 rfl 0 rfl ?_
    refine ev_if_ltN (tgt := 19) hC dX6_clause_8 (by omega) ?_ (by decide)
    have hx : hrF Y e p = chF 0 j_2 := (fndF_le q0).2.2
    rcases (show j_2 = 0 ∨ j_2 = 1 ∨ j_2 = 2 ∨ j_2 = 3 by omega) with rfl | rfl | rfl | rfl
    · show Ev G X 0 0 11 [(1, .int (nI 0)), (0, .ref (d 0))] [] (RD G d sg am en sp (nI e) (nI (p + 1)) (nI ((cvA L).length)) (nI ((cvS L).length)) (nI ra) (nI ne)) ro
      refine ev_aload_n hC dX6_clause_11 rfl 1 rfl ?_
      refine ev_iload_n hC dX6_clause_12 rfl 0 rfl ?_
      refine ev_callV (As := [.int (nI 0)]) (st := []) (wf := []) hC cv_X6_93 (m_X6_rest0 G ro d sg am en sp Y (nI ((cvA L).length)) (nI ((cvS L).length)) (nI ra) (nI ne) e (p + 1) hG (by omega)) (by omega) rfl rfl (Nat.le_of_ble_eq_true rfl) (List.Perm.of_eq (List.append_nil _).symm) (mw 0 rfl) rfl dX6_clause_13 (by omega) (by omega) ?_
      rintro _ _ _ ⟨_, ⟨rfl, sk⟩ | ⟨rfl, sk⟩, rfl, rfl, rfl⟩
      · refine ev_ws (List.append_nil _) ?_
        show Ev G X 0 0 16 [(1, .int (nI 0)), (0, .ref (d 0))] [.int (nI 1)] (RD G d sg am en sp (nI e) (nI ((splF Y e 1 (strLen.getD 1 0) 0 (p + 1)).2)) (nI ((cvA L).length)) (nI ((cvS L).length)) (nI ra) (nI ne)) ro
        have spl := splF_p (t := Y) (e := e) (k := 1) (by decide) (f := strLen.getD 1 0) (j := 0) (p := (p + 1)) (by decide) (by omega)
        refine ev_if_neN (tgt := 21) hC dX6_clause_16 (by decide) (by omega) (fun c_3 => ?_) (fun c_3 => absurd c_3 (by omega))
        refine ev_aload_n hC dX6_clause_21 rfl 1 rfl ?_
        refine ev_callV (As := []) (st := []) (wf := []) hC cv_X6_96 (m_X6_number G ro d sg am en sp Y (nI ((cvA L).length)) (nI ((cvS L).length)) (nI ra) (nI ne) e ((splF Y e 1 (strLen.getD 1 0) 0 (p + 1)).2) hG (by omega)) (by omega) rfl rfl (Nat.le_of_ble_eq_true rfl) (List.Perm.of_eq (List.append_nil _).symm) (mw 0 rfl) rfl dX6_clause_22 (by omega) (by omega) ?_
        rintro _ _ _ ⟨_, ⟨rfl, nu_4⟩ | ⟨rfl, nu_4⟩, rfl, rfl, rfl⟩
        · refine ev_ws (List.append_nil _) ?_
          show Ev G X 0 0 25 [(1, .int (nI 0)), (0, .ref (d 0))] [.int (nI ((numF Y e ((splF Y e 1 (strLen.getD 1 0) 0 (p + 1)).2)).2.2))] (RD G d sg am en sp (nI e) (nI ((numF Y e ((splF Y e 1 (strLen.getD 1 0) 0 (p + 1)).2)).2.1)) (nI ((cvA L).length)) (nI ((cvS L).length)) (nI ra) (nI ne)) ro
          obtain ⟨nu_41, nu_42, nu_43, nu_44⟩ := numF_p (t := Y) (e := e) (p := ((splF Y e 1 (strLen.getD 1 0) 0 (p + 1)).2)) (by omega)
          have nu_45 := nu_43 nu_4
          refine ev_istore_n (lv' := [(2, .int (nI ((numF Y e ((splF Y e 1 (strLen.getD 1 0) 0 (p + 1)).2)).2.2))), (1, .int (nI 0)), (0, .ref (d 0))]) hC dX6_clause_25 rfl (by decide) rfl ?_
          refine ev_iload_n hC dX6_clause_26 rfl 0 rfl ?_
          refine ev_if_geN (tgt := 32) hC dX6_clause_27 (by omega) ?_ (by decide)
          refine ev_iload_n hC dX6_clause_32 rfl 1 rfl ?_
          refine ev_lookup (off := 27) (tgt := 60) hC dX6_clause_33 (by decide) (by decide) (by decide) ?_
          refine ev_aload_n hC dX6_clause_60 rfl 2 rfl ?_
          refine ev_iload_n hC dX6_clause_61 rfl 0 rfl ?_
          refine ev_put (ws' := (RD G d sg am en sp (nI e) (nI ((numF Y e ((splF Y e 1 (strLen.getD 1 0) 0 (p + 1)).2)).2.1)) (nI ((cvA L).length)) (nI ((cvS L).length)) (nI ((numF Y e ((splF Y e 1 (strLen.getD 1 0) 0 (p + 1)).2)).2.2)) (nI ne))) (q0 := 0) hC fp_X6_37_6 rfl (Nat.le_of_ble_eq_true rfl) rfl rfl rfl dX6_clause_62 ?_
          refine ev_iconst (v := (nI 1)) hC dX6_clause_65 (by decide) ?_
          refine ev_zret hC hR rfl (by rfl) dX6_clause_66 ?_
          have hc := cl_w (t := Y) (e := e) (p := p) (ra := ra) (ne := ne) (l := L)
          have hr := hc.1 hx
          have ht := tll_w (t := Y) (e := e) (p := p) (w := 0) (by omega) hx
          simp only [Nat.reduceAdd] at ht
          rw [if_pos sk] at ht
          rw [ht] at hr
          exact ⟨am, en, sp, (nI ((cvA L).length)), (nI ((cvS L).length)), (nI ((numF Y e ((splF Y e 1 (strLen.getD 1 0) 0 (p + 1)).2)).2.2)), (nI ne), _, Or.inl ⟨rfl, by rw [hr]; exact nu_4, by rw [hr]; exact ⟨rfl, rfl, rfl, rfl, hA, hE, hS, hK⟩, by rw [hr]; exact Nat.le_succ _⟩, rfl, by rw [hr], rfl⟩
        · refine ev_ws (List.append_nil _) ?_
          show Ev G X 0 0 25 [(1, .int (nI 0)), (0, .ref (d 0))] [.int (-1)] (RD G d sg am en sp (nI e) (nI ((numF Y e ((splF Y e 1 (strLen.getD 1 0) 0 (p + 1)).2)).2.1)) (nI ((cvA L).length)) (nI ((cvS L).length)) (nI ra) (nI ne)) ro
          obtain ⟨nu_41, nu_42, nu_43, nu_44⟩ := numF_p (t := Y) (e := e) (p := ((splF Y e 1 (strLen.getD 1 0) 0 (p + 1)).2)) (by omega)
          have nu_45 := nu_43
          refine ev_istore_n (lv' := [(2, .int (-1)), (1, .int (nI 0)), (0, .ref (d 0))]) hC dX6_clause_25 rfl (by decide) rfl ?_
          refine ev_iload_n hC dX6_clause_26 rfl 0 rfl ?_
          refine ev_if_ge (tgt := 32) hC dX6_clause_27 (by decide) (fun c_5 => absurd c_5 (by decide)) (fun c_5 => ?_)
          refine ev_iconst (v := (nI 0)) hC dX6_clause_30 (by decide) ?_
          refine ev_zret hC hR rfl (by rfl) dX6_clause_31 ?_
          have hc := cl_w (t := Y) (e := e) (p := p) (ra := ra) (ne := ne) (l := L)
          have hr := hc.1 hx
          have ht := tll_w (t := Y) (e := e) (p := p) (w := 0) (by omega) hx
          simp only [Nat.reduceAdd] at ht
          rw [if_pos sk] at ht
          rw [ht] at hr
          exact ⟨am, en, sp, (nI ((cvA L).length)), (nI ((cvS L).length)), (nI ra), (nI ne), _, Or.inr ⟨rfl, by rw [hr]; exact nu_4⟩, rfl, by rw [hr], rfl⟩
      · refine ev_ws (List.append_nil _) ?_
        show Ev G X 0 0 16 [(1, .int (nI 0)), (0, .ref (d 0))] [.int (nI 0)] (RD G d sg am en sp (nI e) (nI ((splF Y e 1 (strLen.getD 1 0) 0 (p + 1)).2)) (nI ((cvA L).length)) (nI ((cvS L).length)) (nI ra) (nI ne)) ro
        have spl := splF_p (t := Y) (e := e) (k := 1) (by decide) (f := strLen.getD 1 0) (j := 0) (p := (p + 1)) (by decide) (by omega)
        refine ev_if_neN (tgt := 21) hC dX6_clause_16 (by decide) (by omega) (fun c_6 => absurd c_6 (by omega)) (fun c_6 => ?_)
        refine ev_iconst (v := (nI 0)) hC dX6_clause_19 (by decide) ?_
        refine ev_zret hC hR rfl (by rfl) dX6_clause_20 ?_
        have hc := cl_w (t := Y) (e := e) (p := p) (ra := ra) (ne := ne) (l := L)
        have hr := hc.1 hx
        have ht := tll_w (t := Y) (e := e) (p := p) (w := 0) (by omega) hx
        simp only [Nat.reduceAdd] at ht
        rw [if_neg (by rw [sk]; decide)] at ht
        rw [ht] at hr
        exact ⟨am, en, sp, (nI ((cvA L).length)), (nI ((cvS L).length)), (nI ra), (nI ne), _, Or.inr ⟨rfl, by rw [hr]⟩, rfl, by rw [hr], rfl⟩
    · show Ev G X 0 0 11 [(1, .int (nI 1)), (0, .ref (d 0))] [] (RD G d sg am en sp (nI e) (nI (p + 1)) (nI ((cvA L).length)) (nI ((cvS L).length)) (nI ra) (nI ne)) ro
      refine ev_aload_n hC dX6_clause_11 rfl 1 rfl ?_
      refine ev_iload_n hC dX6_clause_12 rfl 0 rfl ?_
      refine ev_callV (As := [.int (nI 1)]) (st := []) (wf := []) hC cv_X6_93 (m_X6_rest1 G ro d sg am en sp Y (nI ((cvA L).length)) (nI ((cvS L).length)) (nI ra) (nI ne) e (p + 1) hG (by omega)) (by omega) rfl rfl (Nat.le_of_ble_eq_true rfl) (List.Perm.of_eq (List.append_nil _).symm) (mw 0 rfl) rfl dX6_clause_13 (by omega) (by omega) ?_
      rintro _ _ _ ⟨_, ⟨rfl, sk⟩ | ⟨rfl, sk⟩, rfl, rfl, rfl⟩
      · refine ev_ws (List.append_nil _) ?_
        show Ev G X 0 0 16 [(1, .int (nI 1)), (0, .ref (d 0))] [.int (nI 1)] (RD G d sg am en sp (nI e) (nI ((splF Y e 2 (strLen.getD 2 0) 0 (p + 1)).2)) (nI ((cvA L).length)) (nI ((cvS L).length)) (nI ra) (nI ne)) ro
        have spl := splF_p (t := Y) (e := e) (k := 2) (by decide) (f := strLen.getD 2 0) (j := 0) (p := (p + 1)) (by decide) (by omega)
        refine ev_if_neN (tgt := 21) hC dX6_clause_16 (by decide) (by omega) (fun c_7 => ?_) (fun c_7 => absurd c_7 (by omega))
        refine ev_aload_n hC dX6_clause_21 rfl 1 rfl ?_
        refine ev_callV (As := []) (st := []) (wf := []) hC cv_X6_96 (m_X6_number G ro d sg am en sp Y (nI ((cvA L).length)) (nI ((cvS L).length)) (nI ra) (nI ne) e ((splF Y e 2 (strLen.getD 2 0) 0 (p + 1)).2) hG (by omega)) (by omega) rfl rfl (Nat.le_of_ble_eq_true rfl) (List.Perm.of_eq (List.append_nil _).symm) (mw 0 rfl) rfl dX6_clause_22 (by omega) (by omega) ?_
        rintro _ _ _ ⟨_, ⟨rfl, nu_8⟩ | ⟨rfl, nu_8⟩, rfl, rfl, rfl⟩
        · refine ev_ws (List.append_nil _) ?_
          show Ev G X 0 0 25 [(1, .int (nI 1)), (0, .ref (d 0))] [.int (nI ((numF Y e ((splF Y e 2 (strLen.getD 2 0) 0 (p + 1)).2)).2.2))] (RD G d sg am en sp (nI e) (nI ((numF Y e ((splF Y e 2 (strLen.getD 2 0) 0 (p + 1)).2)).2.1)) (nI ((cvA L).length)) (nI ((cvS L).length)) (nI ra) (nI ne)) ro
          obtain ⟨nu_81, nu_82, nu_83, nu_84⟩ := numF_p (t := Y) (e := e) (p := ((splF Y e 2 (strLen.getD 2 0) 0 (p + 1)).2)) (by omega)
          have nu_85 := nu_83 nu_8
          refine ev_istore_n (lv' := [(2, .int (nI ((numF Y e ((splF Y e 2 (strLen.getD 2 0) 0 (p + 1)).2)).2.2))), (1, .int (nI 1)), (0, .ref (d 0))]) hC dX6_clause_25 rfl (by decide) rfl ?_
          refine ev_iload_n hC dX6_clause_26 rfl 0 rfl ?_
          refine ev_if_geN (tgt := 32) hC dX6_clause_27 (by omega) ?_ (by decide)
          refine ev_iload_n hC dX6_clause_32 rfl 1 rfl ?_
          refine ev_lookup (off := 34) (tgt := 67) hC dX6_clause_33 (by decide) (by decide) (by decide) ?_
          refine ev_aload_n hC dX6_clause_67 rfl 2 rfl ?_
          refine ev_iload_n hC dX6_clause_68 rfl 0 rfl ?_
          refine ev_put (ws' := (RD G d sg am en sp (nI e) (nI ((numF Y e ((splF Y e 2 (strLen.getD 2 0) 0 (p + 1)).2)).2.1)) (nI ((cvA L).length)) (nI ((cvS L).length)) (nI ra) (nI ((numF Y e ((splF Y e 2 (strLen.getD 2 0) 0 (p + 1)).2)).2.2)))) (q0 := 0) hC fp_X6_40_6 rfl (Nat.le_of_ble_eq_true rfl) rfl rfl rfl dX6_clause_69 ?_
          refine ev_iconst (v := (nI 1)) hC dX6_clause_72 (by decide) ?_
          refine ev_zret hC hR rfl (by rfl) dX6_clause_73 ?_
          have hc := cl_w (t := Y) (e := e) (p := p) (ra := ra) (ne := ne) (l := L)
          have hr := hc.2.1 hx
          have ht := tll_w (t := Y) (e := e) (p := p) (w := 1) (by omega) hx
          simp only [Nat.reduceAdd] at ht
          rw [if_pos sk] at ht
          rw [ht] at hr
          exact ⟨am, en, sp, (nI ((cvA L).length)), (nI ((cvS L).length)), (nI ra), (nI ((numF Y e ((splF Y e 2 (strLen.getD 2 0) 0 (p + 1)).2)).2.2)), _, Or.inl ⟨rfl, by rw [hr]; exact nu_8, by rw [hr]; exact ⟨rfl, rfl, rfl, rfl, hA, hE, hS, hK⟩, by rw [hr]; exact Nat.le_succ _⟩, rfl, by rw [hr], rfl⟩
        · refine ev_ws (List.append_nil _) ?_
          show Ev G X 0 0 25 [(1, .int (nI 1)), (0, .ref (d 0))] [.int (-1)] (RD G d sg am en sp (nI e) (nI ((numF Y e ((splF Y e 2 (strLen.getD 2 0) 0 (p + 1)).2)).2.1)) (nI ((cvA L).length)) (nI ((cvS L).length)) (nI ra) (nI ne)) ro
          obtain ⟨nu_81, nu_82, nu_83, nu_84⟩ := numF_p (t := Y) (e := e) (p := ((splF Y e 2 (strLen.getD 2 0) 0 (p + 1)).2)) (by omega)
          have nu_85 := nu_83
          refine ev_istore_n (lv' := [(2, .int (-1)), (1, .int (nI 1)), (0, .ref (d 0))]) hC dX6_clause_25 rfl (by decide) rfl ?_
          refine ev_iload_n hC dX6_clause_26 rfl 0 rfl ?_
          refine ev_if_ge (tgt := 32) hC dX6_clause_27 (by decide) (fun c_9 => absurd c_9 (by decide)) (fun c_9 => ?_)
          refine ev_iconst (v := (nI 0)) hC dX6_clause_30 (by decide) ?_
          refine ev_zret hC hR rfl (by rfl) dX6_clause_31 ?_
          have hc := cl_w (t := Y) (e := e) (p := p) (ra := ra) (ne := ne) (l := L)
          have hr := hc.2.1 hx
          have ht := tll_w (t := Y) (e := e) (p := p) (w := 1) (by omega) hx
          simp only [Nat.reduceAdd] at ht
          rw [if_pos sk] at ht
          rw [ht] at hr
          exact ⟨am, en, sp, (nI ((cvA L).length)), (nI ((cvS L).length)), (nI ra), (nI ne), _, Or.inr ⟨rfl, by rw [hr]; exact nu_8⟩, rfl, by rw [hr], rfl⟩
      · refine ev_ws (List.append_nil _) ?_
        show Ev G X 0 0 16 [(1, .int (nI 1)), (0, .ref (d 0))] [.int (nI 0)] (RD G d sg am en sp (nI e) (nI ((splF Y e 2 (strLen.getD 2 0) 0 (p + 1)).2)) (nI ((cvA L).length)) (nI ((cvS L).length)) (nI ra) (nI ne)) ro
        have spl := splF_p (t := Y) (e := e) (k := 2) (by decide) (f := strLen.getD 2 0) (j := 0) (p := (p + 1)) (by decide) (by omega)
        refine ev_if_neN (tgt := 21) hC dX6_clause_16 (by decide) (by omega) (fun c_10 => absurd c_10 (by omega)) (fun c_10 => ?_)
        refine ev_iconst (v := (nI 0)) hC dX6_clause_19 (by decide) ?_
        refine ev_zret hC hR rfl (by rfl) dX6_clause_20 ?_
        have hc := cl_w (t := Y) (e := e) (p := p) (ra := ra) (ne := ne) (l := L)
        have hr := hc.2.1 hx
        have ht := tll_w (t := Y) (e := e) (p := p) (w := 1) (by omega) hx
        simp only [Nat.reduceAdd] at ht
        rw [if_neg (by rw [sk]; decide)] at ht
        rw [ht] at hr
        exact ⟨am, en, sp, (nI ((cvA L).length)), (nI ((cvS L).length)), (nI ra), (nI ne), _, Or.inr ⟨rfl, by rw [hr]⟩, rfl, by rw [hr], rfl⟩
    · show Ev G X 0 0 11 [(1, .int (nI 2)), (0, .ref (d 0))] [] (RD G d sg am en sp (nI e) (nI (p + 1)) (nI ((cvA L).length)) (nI ((cvS L).length)) (nI ra) (nI ne)) ro
      refine ev_aload_n hC dX6_clause_11 rfl 1 rfl ?_
      refine ev_iload_n hC dX6_clause_12 rfl 0 rfl ?_
      refine ev_callV (As := [.int (nI 2)]) (st := []) (wf := []) hC cv_X6_93 (m_X6_rest2 G ro d sg am en sp Y (nI ((cvA L).length)) (nI ((cvS L).length)) (nI ra) (nI ne) e (p + 1) hG (by omega)) (by omega) rfl rfl (Nat.le_of_ble_eq_true rfl) (List.Perm.of_eq (List.append_nil _).symm) (mw 0 rfl) rfl dX6_clause_13 (by omega) (by omega) ?_
      rintro _ _ _ ⟨_, ⟨rfl, sk⟩ | ⟨rfl, sk⟩, rfl, rfl, rfl⟩
      · refine ev_ws (List.append_nil _) ?_
        show Ev G X 0 0 16 [(1, .int (nI 2)), (0, .ref (d 0))] [.int (nI 1)] (RD G d sg am en sp (nI e) (nI ((splF Y e 3 (strLen.getD 3 0) 0 (p + 1)).2)) (nI ((cvA L).length)) (nI ((cvS L).length)) (nI ra) (nI ne)) ro
        have spl := splF_p (t := Y) (e := e) (k := 3) (by decide) (f := strLen.getD 3 0) (j := 0) (p := (p + 1)) (by decide) (by omega)
        refine ev_if_neN (tgt := 21) hC dX6_clause_16 (by decide) (by omega) (fun c_11 => ?_) (fun c_11 => absurd c_11 (by omega))
        refine ev_aload_n hC dX6_clause_21 rfl 1 rfl ?_
        refine ev_callV (As := []) (st := []) (wf := []) hC cv_X6_96 (m_X6_number G ro d sg am en sp Y (nI ((cvA L).length)) (nI ((cvS L).length)) (nI ra) (nI ne) e ((splF Y e 3 (strLen.getD 3 0) 0 (p + 1)).2) hG (by omega)) (by omega) rfl rfl (Nat.le_of_ble_eq_true rfl) (List.Perm.of_eq (List.append_nil _).symm) (mw 0 rfl) rfl dX6_clause_22 (by omega) (by omega) ?_
        rintro _ _ _ ⟨_, ⟨rfl, nu_12⟩ | ⟨rfl, nu_12⟩, rfl, rfl, rfl⟩
        · refine ev_ws (List.append_nil _) ?_
          show Ev G X 0 0 25 [(1, .int (nI 2)), (0, .ref (d 0))] [.int (nI ((numF Y e ((splF Y e 3 (strLen.getD 3 0) 0 (p + 1)).2)).2.2))] (RD G d sg am en sp (nI e) (nI ((numF Y e ((splF Y e 3 (strLen.getD 3 0) 0 (p + 1)).2)).2.1)) (nI ((cvA L).length)) (nI ((cvS L).length)) (nI ra) (nI ne)) ro
          obtain ⟨nu_121, nu_122, nu_123, nu_124⟩ := numF_p (t := Y) (e := e) (p := ((splF Y e 3 (strLen.getD 3 0) 0 (p + 1)).2)) (by omega)
          have nu_125 := nu_123 nu_12
          refine ev_istore_n (lv' := [(2, .int (nI ((numF Y e ((splF Y e 3 (strLen.getD 3 0) 0 (p + 1)).2)).2.2))), (1, .int (nI 2)), (0, .ref (d 0))]) hC dX6_clause_25 rfl (by decide) rfl ?_
          refine ev_iload_n hC dX6_clause_26 rfl 0 rfl ?_
          refine ev_if_geN (tgt := 32) hC dX6_clause_27 (by omega) ?_ (by decide)
          refine ev_iload_n hC dX6_clause_32 rfl 1 rfl ?_
          refine ev_lookup (off := 41) (tgt := 74) hC dX6_clause_33 (by decide) (by decide) (by decide) ?_
          refine ev_aload_n hC dX6_clause_74 rfl 2 rfl ?_
          refine ev_bipush (v := (nI 32)) hC dX6_clause_75 (by decide) ?_
          refine ev_callV (As := [.int (nI 32)]) (st := []) (wf := []) hC cv_X6_51 (m_X6_accept G ro d sg am en sp Y (nI ((cvA L).length)) (nI ((cvS L).length)) (nI ra) (nI ne) e ((numF Y e ((splF Y e 3 (strLen.getD 3 0) 0 (p + 1)).2)).2.1) 32 hG (by omega) (by omega)) (by omega) rfl rfl (Nat.le_of_ble_eq_true rfl) (List.Perm.of_eq (List.append_nil _).symm) (mw 0 rfl) rfl dX6_clause_77 (by omega) (by omega) ?_
          rintro _ _ _ ⟨_, _, ⟨rfl, rfl, m_13⟩ | ⟨rfl, rfl, m_13⟩, rfl, rfl, rfl⟩
          · refine ev_ws (List.append_nil _) ?_
            show Ev G X 0 0 80 [(2, .int (nI ((numF Y e ((splF Y e 3 (strLen.getD 3 0) 0 (p + 1)).2)).2.2))), (1, .int (nI 2)), (0, .ref (d 0))] [.int (nI 1)] (RD G d sg am en sp (nI e) (nI (((numF Y e ((splF Y e 3 (strLen.getD 3 0) 0 (p + 1)).2)).2.1) + 1)) (nI ((cvA L).length)) (nI ((cvS L).length)) (nI ra) (nI ne)) ro
            have lm_13 := (hr_lt (by omega) m_13).1
            refine ev_if_eqN (tgt := 113) hC dX6_clause_80 (by decide) (by omega) (fun c_14 => absurd c_14 (by omega)) (fun c_14 => ?_)
            refine ev_aload_n hC dX6_clause_83 rfl 2 rfl ?_
            refine ev_iconst (v := (nI 0)) hC dX6_clause_84 (by decide) ?_
            refine ev_callV (As := [.int (nI 0)]) (st := []) (wf := []) hC cv_X6_99 (exp_all ro d sg am en sp (nI ((cvA L).length)) (nI ra) (nI ne) Y e (((numF Y e ((splF Y e 3 (strLen.getD 3 0) 0 (p + 1)).2)).2.1) + 1) (cvS L) hG (by omega) hS (by have := (cv_len L 0).2.2; omega)) (by omega) rfl rfl (Nat.le_of_ble_eq_true rfl) (List.Perm.of_eq (List.append_nil _).symm) (mw 0 rfl) rfl dX6_clause_85 (by omega) (by omega) ?_
            rintro _ _ _ ⟨sp3, sd3, _, ⟨rfl, ok3, rfl, hL3⟩ | ⟨rfl, ok3⟩, rfl, rfl, rfl⟩
            · refine ev_ws (List.append_nil _) ?_
              show Ev G X 0 0 88 [(2, .int (nI ((numF Y e ((splF Y e 3 (strLen.getD 3 0) 0 (p + 1)).2)).2.2))), (1, .int (nI 2)), (0, .ref (d 0))] [.int (nI 1)] (RD G d sg am en sp3 (nI e) (nI ((somF Y e (facD Y e 5) (((numF Y e ((splF Y e 3 (strLen.getD 3 0) 0 (p + 1)).2)).2.1) + 1)).2.1)) (nI ((cvA L).length)) (nI (((cvS L) ++ List.map cvO (somF Y e (facD Y e 5) (((numF Y e ((splF Y e 3 (strLen.getD 3 0) 0 (p + 1)).2)).2.1) + 1)).2.2).length)) (nI ra) (nI ne)) ro
              obtain ⟨g1, g2, g3, g4⟩ := somF_p (t := Y) (e := e) (fac := facD Y e 5) (fun p hp => facD_p 5 hp) (p := (((numF Y e ((splF Y e 3 (strLen.getD 3 0) 0 (p + 1)).2)).2.1) + 1)) (by omega)
              refine ev_if_eqN (tgt := 113) hC dX6_clause_88 (by decide) (by omega) (fun c_15 => absurd c_15 (by omega)) (fun c_15 => ?_)
              refine ev_aload_n hC dX6_clause_91 rfl 2 rfl ?_
              refine ev_iload_n hC dX6_clause_92 rfl 1 rfl ?_
              refine ev_iconst (v := (nI 2)) hC dX6_clause_93 (by decide) ?_
              refine ev_icmp_neN (tgt := 101) hC dX6_clause_94 (by decide) (by omega) (by omega) (fun c_16 => absurd c_16 (by omega)) (fun c_16 => ?_)
              refine ev_iload_n hC dX6_clause_97 rfl 0 rfl ?_
              refine ev_goto (tgt := 103) hC dX6_clause_98 (by decide) ?_
              refine ev_callV (As := [.int (nI ((numF Y e ((splF Y e 3 (strLen.getD 3 0) 0 (p + 1)).2)).2.2))]) (st := []) (wf := []) hC cv_X6_102 (m_X6_judge G ro d sg am en sp3 (nI e) (nI ((somF Y e (facD Y e 5) (((numF Y e ((splF Y e 3 (strLen.getD 3 0) 0 (p + 1)).2)).2.1) + 1)).2.1)) (nI (((cvS L) ++ List.map cvO (somF Y e (facD Y e 5) (((numF Y e ((splF Y e 3 (strLen.getD 3 0) 0 (p + 1)).2)).2.1) + 1)).2.2).length)) (nI ra) (nI ne) (nI ((numF Y e ((splF Y e 3 (strLen.getD 3 0) 0 (p + 1)).2)).2.2)) ((cvA L).length) (by omega)) (by omega) rfl rfl (Nat.le_of_ble_eq_true rfl) (List.Perm.of_eq (List.append_nil _).symm) (mw 0 rfl) rfl dX6_clause_103 (by omega) (by omega) ?_
              rintro _ _ _ ⟨rfl, rfl, rfl⟩
              refine ev_ws (List.append_nil _) ?_
              show Ev G X 0 0 106 [(2, .int (nI ((numF Y e ((splF Y e 3 (strLen.getD 3 0) 0 (p + 1)).2)).2.2))), (1, .int (nI 2)), (0, .ref (d 0))] [.int (nI 1)] (RD G d sg (upd am ((cvA L).length) (nI ((numF Y e ((splF Y e 3 (strLen.getD 3 0) 0 (p + 1)).2)).2.2))) (upd en ((cvA L).length) (nI (((cvS L) ++ List.map cvO (somF Y e (facD Y e 5) (((numF Y e ((splF Y e 3 (strLen.getD 3 0) 0 (p + 1)).2)).2.1) + 1)).2.2).length))) sp3 (nI e) (nI ((somF Y e (facD Y e 5) (((numF Y e ((splF Y e 3 (strLen.getD 3 0) 0 (p + 1)).2)).2.1) + 1)).2.1)) (nI (((cvA L).length) + 1)) (nI (((cvS L) ++ List.map cvO (somF Y e (facD Y e 5) (((numF Y e ((splF Y e 3 (strLen.getD 3 0) 0 (p + 1)).2)).2.1) + 1)).2.2).length)) (nI ra) (nI ne)) ro
              refine ev_if_eqN (tgt := 113) hC dX6_clause_106 (by decide) (by omega) (fun c_17 => absurd c_17 (by omega)) (fun c_17 => ?_)
              refine ev_iconst (v := (nI 1)) hC dX6_clause_109 (by decide) ?_
              refine ev_goto (tgt := 114) hC dX6_clause_110 (by decide) ?_
              refine ev_zret hC hR rfl (by rfl) dX6_clause_114 ?_
              have hc := cl_w (t := Y) (e := e) (p := p) (ra := ra) (ne := ne) (l := L)
              have hr := hc.2.2.1 hx
              have ht := tll_w (t := Y) (e := e) (p := p) (w := 2) (by omega) hx
              simp only [Nat.reduceAdd] at ht
              rw [if_pos sk] at ht
              have hm : mchF Y e 10 (-10) p = ((somF Y e (facD Y e 5) ((numF Y e (splF Y e 3 (strLen.getD 3 0) 0 (p + 1)).2).2.1 + 1)).1, (somF Y e (facD Y e 5) ((numF Y e (splF Y e 3 (strLen.getD 3 0) 0 (p + 1)).2).2.1 + 1)).2.1, (somF Y e (facD Y e 5) ((numF Y e (splF Y e 3 (strLen.getD 3 0) 0 (p + 1)).2).2.1 + 1)).2.2 ++ (if (somF Y e (facD Y e 5) ((numF Y e (splF Y e 3 (strLen.getD 3 0) 0 (p + 1)).2).2.1 + 1)).1 = true then [-10 - nI (numF Y e (splF Y e 3 (strLen.getD 3 0) 0 (p + 1)).2).2.2] else [])) := by rw [mchF, ht, if_pos nu_12, if_pos m_13]
              rw [hm] at hr
              rw [if_pos ok3] at hr
              have hmk := CSt.mark (sp := sp) (b := true) (q := 0) (q2 := (somF Y e (facD Y e 5) ((numF Y e (splF Y e 3 (strLen.getD 3 0) 0 (p + 1)).2).2.1 + 1)).2.1) (ra := ra) (ne := ne) (b2 := (somF Y e (facD Y e 5) ((numF Y e (splF Y e 3 (strLen.getD 3 0) 0 (p + 1)).2).2.1 + 1)).1) hA hE hK (somF_k (facD_k Y e 5) ((numF Y e (splF Y e 3 (strLen.getD 3 0) 0 (p + 1)).2).2.1 + 1)) (m := -10 - nI (numF Y e (splF Y e 3 (strLen.getD 3 0) 0 (p + 1)).2).2.2) (mk_le10 (by omega)) (am_10 (by omega)) hL3
              exact ⟨(upd am ((cvA L).length) (nI ((numF Y e ((splF Y e 3 (strLen.getD 3 0) 0 (p + 1)).2)).2.2))), (upd en ((cvA L).length) (nI (((cvS L) ++ List.map cvO (somF Y e (facD Y e 5) (((numF Y e ((splF Y e 3 (strLen.getD 3 0) 0 (p + 1)).2)).2.1) + 1)).2.2).length))), sp3, (nI (((cvA L).length) + 1)), (nI (((cvS L) ++ List.map cvO (somF Y e (facD Y e 5) (((numF Y e ((splF Y e 3 (strLen.getD 3 0) 0 (p + 1)).2)).2.1) + 1)).2.2).length)), (nI ra), (nI ne), _, Or.inl ⟨rfl, by rw [hr]; exact ok3, by rw [hr]; exact hmk, by rw [hr]; have := hmk.2.2.1; simp only at this ⊢; rw [(cv_mark hK (somF_k (facD_k Y e 5) ((numF Y e (splF Y e 3 (strLen.getD 3 0) 0 (p + 1)).2).2.1 + 1)) (mk_le10 (by omega))).2.1, List.length_append]; exact Nat.le_refl _⟩, rfl, by rw [hr], rfl⟩
            · refine ev_ws (List.append_nil _) ?_
              show Ev G X 0 0 88 [(2, .int (nI ((numF Y e ((splF Y e 3 (strLen.getD 3 0) 0 (p + 1)).2)).2.2))), (1, .int (nI 2)), (0, .ref (d 0))] [.int (nI 0)] (RD G d sg am en sp3 (nI e) (nI ((somF Y e (facD Y e 5) (((numF Y e ((splF Y e 3 (strLen.getD 3 0) 0 (p + 1)).2)).2.1) + 1)).2.1)) (nI ((cvA L).length)) sd3 (nI ra) (nI ne)) ro
              obtain ⟨g1, g2, g3, g4⟩ := somF_p (t := Y) (e := e) (fac := facD Y e 5) (fun p hp => facD_p 5 hp) (p := (((numF Y e ((splF Y e 3 (strLen.getD 3 0) 0 (p + 1)).2)).2.1) + 1)) (by omega)
              refine ev_if_eqN (tgt := 113) hC dX6_clause_88 (by decide) (by omega) (fun c_18 => ?_) (fun c_18 => absurd c_18 (by omega))
              refine ev_iconst (v := (nI 0)) hC dX6_clause_113 (by decide) ?_
              refine ev_zret hC hR rfl (by rfl) dX6_clause_114 ?_
              have hc := cl_w (t := Y) (e := e) (p := p) (ra := ra) (ne := ne) (l := L)
              have hr := hc.2.2.1 hx
              have ht := tll_w (t := Y) (e := e) (p := p) (w := 2) (by omega) hx
              simp only [Nat.reduceAdd] at ht
              rw [if_pos sk] at ht
              have hm : mchF Y e 10 (-10) p = ((somF Y e (facD Y e 5) ((numF Y e (splF Y e 3 (strLen.getD 3 0) 0 (p + 1)).2).2.1 + 1)).1, (somF Y e (facD Y e 5) ((numF Y e (splF Y e 3 (strLen.getD 3 0) 0 (p + 1)).2).2.1 + 1)).2.1, (somF Y e (facD Y e 5) ((numF Y e (splF Y e 3 (strLen.getD 3 0) 0 (p + 1)).2).2.1 + 1)).2.2 ++ (if (somF Y e (facD Y e 5) ((numF Y e (splF Y e 3 (strLen.getD 3 0) 0 (p + 1)).2).2.1 + 1)).1 = true then [-10 - nI (numF Y e (splF Y e 3 (strLen.getD 3 0) 0 (p + 1)).2).2.2] else [])) := by rw [mchF, ht, if_pos nu_12, if_pos m_13]
              rw [hm] at hr
              exact ⟨am, en, sp3, (nI ((cvA L).length)), sd3, (nI ra), (nI ne), _, Or.inr ⟨rfl, by rw [hr]; exact ok3⟩, rfl, by rw [hr], rfl⟩
          · refine ev_ws (List.append_nil _) ?_
            show Ev G X 0 0 80 [(2, .int (nI ((numF Y e ((splF Y e 3 (strLen.getD 3 0) 0 (p + 1)).2)).2.2))), (1, .int (nI 2)), (0, .ref (d 0))] [.int (nI 0)] (RD G d sg am en sp (nI e) (nI ((numF Y e ((splF Y e 3 (strLen.getD 3 0) 0 (p + 1)).2)).2.1)) (nI ((cvA L).length)) (nI ((cvS L).length)) (nI ra) (nI ne)) ro
            refine ev_if_eqN (tgt := 113) hC dX6_clause_80 (by decide) (by omega) (fun c_19 => ?_) (fun c_19 => absurd c_19 (by omega))
            refine ev_iconst (v := (nI 0)) hC dX6_clause_113 (by decide) ?_
            refine ev_zret hC hR rfl (by rfl) dX6_clause_114 ?_
            have hc := cl_w (t := Y) (e := e) (p := p) (ra := ra) (ne := ne) (l := L)
            have hr := hc.2.2.1 hx
            have ht := tll_w (t := Y) (e := e) (p := p) (w := 2) (by omega) hx
            simp only [Nat.reduceAdd] at ht
            rw [if_pos sk] at ht
            have hm : mchF Y e 10 (-10) p = (false, (numF Y e (splF Y e 3 (strLen.getD 3 0) 0 (p + 1)).2).2.1, []) := by rw [mchF, ht, if_pos nu_12, if_neg m_13]
            rw [hm] at hr
            exact ⟨am, en, sp, (nI ((cvA L).length)), (nI ((cvS L).length)), (nI ra), (nI ne), _, Or.inr ⟨rfl, by rw [hr]⟩, rfl, by rw [hr], rfl⟩
        · refine ev_ws (List.append_nil _) ?_
          show Ev G X 0 0 25 [(1, .int (nI 2)), (0, .ref (d 0))] [.int (-1)] (RD G d sg am en sp (nI e) (nI ((numF Y e ((splF Y e 3 (strLen.getD 3 0) 0 (p + 1)).2)).2.1)) (nI ((cvA L).length)) (nI ((cvS L).length)) (nI ra) (nI ne)) ro
          obtain ⟨nu_121, nu_122, nu_123, nu_124⟩ := numF_p (t := Y) (e := e) (p := ((splF Y e 3 (strLen.getD 3 0) 0 (p + 1)).2)) (by omega)
          have nu_125 := nu_123
          refine ev_istore_n (lv' := [(2, .int (-1)), (1, .int (nI 2)), (0, .ref (d 0))]) hC dX6_clause_25 rfl (by decide) rfl ?_
          refine ev_iload_n hC dX6_clause_26 rfl 0 rfl ?_
          refine ev_if_ge (tgt := 32) hC dX6_clause_27 (by decide) (fun c_20 => absurd c_20 (by decide)) (fun c_20 => ?_)
          refine ev_iconst (v := (nI 0)) hC dX6_clause_30 (by decide) ?_
          refine ev_zret hC hR rfl (by rfl) dX6_clause_31 ?_
          have hc := cl_w (t := Y) (e := e) (p := p) (ra := ra) (ne := ne) (l := L)
          have hr := hc.2.2.1 hx
          have ht := tll_w (t := Y) (e := e) (p := p) (w := 2) (by omega) hx
          simp only [Nat.reduceAdd] at ht
          rw [if_pos sk] at ht
          have hm : mchF Y e 10 (-10) p = (false, (numF Y e (splF Y e 3 (strLen.getD 3 0) 0 (p + 1)).2).2.1, []) := by rw [mchF, ht, if_neg (by rw [nu_12]; decide)]
          rw [hm] at hr
          exact ⟨am, en, sp, (nI ((cvA L).length)), (nI ((cvS L).length)), (nI ra), (nI ne), _, Or.inr ⟨rfl, by rw [hr]⟩, rfl, by rw [hr], rfl⟩
      · refine ev_ws (List.append_nil _) ?_
        show Ev G X 0 0 16 [(1, .int (nI 2)), (0, .ref (d 0))] [.int (nI 0)] (RD G d sg am en sp (nI e) (nI ((splF Y e 3 (strLen.getD 3 0) 0 (p + 1)).2)) (nI ((cvA L).length)) (nI ((cvS L).length)) (nI ra) (nI ne)) ro
        have spl := splF_p (t := Y) (e := e) (k := 3) (by decide) (f := strLen.getD 3 0) (j := 0) (p := (p + 1)) (by decide) (by omega)
        refine ev_if_neN (tgt := 21) hC dX6_clause_16 (by decide) (by omega) (fun c_21 => absurd c_21 (by omega)) (fun c_21 => ?_)
        refine ev_iconst (v := (nI 0)) hC dX6_clause_19 (by decide) ?_
        refine ev_zret hC hR rfl (by rfl) dX6_clause_20 ?_
        have hc := cl_w (t := Y) (e := e) (p := p) (ra := ra) (ne := ne) (l := L)
        have hr := hc.2.2.1 hx
        have ht := tll_w (t := Y) (e := e) (p := p) (w := 2) (by omega) hx
        simp only [Nat.reduceAdd] at ht
        rw [if_neg (by rw [sk]; decide)] at ht
        have hm : mchF Y e 10 (-10) p = (false, (splF Y e 3 (strLen.getD 3 0) 0 (p + 1)).2, []) := by rw [mchF, ht, if_neg (show ¬ ((false, (splF Y e 3 (strLen.getD 3 0) 0 (p + 1)).2, 0) : Bool × Nat × Nat).1 = true from Bool.false_ne_true)]
        rw [hm] at hr
        exact ⟨am, en, sp, (nI ((cvA L).length)), (nI ((cvS L).length)), (nI ra), (nI ne), _, Or.inr ⟨rfl, by rw [hr]⟩, rfl, by rw [hr], rfl⟩
    · show Ev G X 0 0 11 [(1, .int (nI 3)), (0, .ref (d 0))] [] (RD G d sg am en sp (nI e) (nI (p + 1)) (nI ((cvA L).length)) (nI ((cvS L).length)) (nI ra) (nI ne)) ro
      refine ev_aload_n hC dX6_clause_11 rfl 1 rfl ?_
      refine ev_iload_n hC dX6_clause_12 rfl 0 rfl ?_
      refine ev_callV (As := [.int (nI 3)]) (st := []) (wf := []) hC cv_X6_93 (m_X6_rest3 G ro d sg am en sp Y (nI ((cvA L).length)) (nI ((cvS L).length)) (nI ra) (nI ne) e (p + 1) hG (by omega)) (by omega) rfl rfl (Nat.le_of_ble_eq_true rfl) (List.Perm.of_eq (List.append_nil _).symm) (mw 0 rfl) rfl dX6_clause_13 (by omega) (by omega) ?_
      rintro _ _ _ ⟨_, ⟨rfl, sk⟩ | ⟨rfl, sk⟩, rfl, rfl, rfl⟩
      · refine ev_ws (List.append_nil _) ?_
        show Ev G X 0 0 16 [(1, .int (nI 3)), (0, .ref (d 0))] [.int (nI 1)] (RD G d sg am en sp (nI e) (nI ((splF Y e 4 (strLen.getD 4 0) 0 (p + 1)).2)) (nI ((cvA L).length)) (nI ((cvS L).length)) (nI ra) (nI ne)) ro
        have spl := splF_p (t := Y) (e := e) (k := 4) (by decide) (f := strLen.getD 4 0) (j := 0) (p := (p + 1)) (by decide) (by omega)
        refine ev_if_neN (tgt := 21) hC dX6_clause_16 (by decide) (by omega) (fun c_22 => ?_) (fun c_22 => absurd c_22 (by omega))
        refine ev_aload_n hC dX6_clause_21 rfl 1 rfl ?_
        refine ev_callV (As := []) (st := []) (wf := []) hC cv_X6_96 (m_X6_number G ro d sg am en sp Y (nI ((cvA L).length)) (nI ((cvS L).length)) (nI ra) (nI ne) e ((splF Y e 4 (strLen.getD 4 0) 0 (p + 1)).2) hG (by omega)) (by omega) rfl rfl (Nat.le_of_ble_eq_true rfl) (List.Perm.of_eq (List.append_nil _).symm) (mw 0 rfl) rfl dX6_clause_22 (by omega) (by omega) ?_
        rintro _ _ _ ⟨_, ⟨rfl, nu_23⟩ | ⟨rfl, nu_23⟩, rfl, rfl, rfl⟩
        · refine ev_ws (List.append_nil _) ?_
          show Ev G X 0 0 25 [(1, .int (nI 3)), (0, .ref (d 0))] [.int (nI ((numF Y e ((splF Y e 4 (strLen.getD 4 0) 0 (p + 1)).2)).2.2))] (RD G d sg am en sp (nI e) (nI ((numF Y e ((splF Y e 4 (strLen.getD 4 0) 0 (p + 1)).2)).2.1)) (nI ((cvA L).length)) (nI ((cvS L).length)) (nI ra) (nI ne)) ro
          obtain ⟨nu_231, nu_232, nu_233, nu_234⟩ := numF_p (t := Y) (e := e) (p := ((splF Y e 4 (strLen.getD 4 0) 0 (p + 1)).2)) (by omega)
          have nu_235 := nu_233 nu_23
          refine ev_istore_n (lv' := [(2, .int (nI ((numF Y e ((splF Y e 4 (strLen.getD 4 0) 0 (p + 1)).2)).2.2))), (1, .int (nI 3)), (0, .ref (d 0))]) hC dX6_clause_25 rfl (by decide) rfl ?_
          refine ev_iload_n hC dX6_clause_26 rfl 0 rfl ?_
          refine ev_if_geN (tgt := 32) hC dX6_clause_27 (by omega) ?_ (by decide)
          refine ev_iload_n hC dX6_clause_32 rfl 1 rfl ?_
          refine ev_lookup (off := 41) (tgt := 74) hC dX6_clause_33 (by decide) (by decide) (by decide) ?_
          refine ev_aload_n hC dX6_clause_74 rfl 2 rfl ?_
          refine ev_bipush (v := (nI 32)) hC dX6_clause_75 (by decide) ?_
          refine ev_callV (As := [.int (nI 32)]) (st := []) (wf := []) hC cv_X6_51 (m_X6_accept G ro d sg am en sp Y (nI ((cvA L).length)) (nI ((cvS L).length)) (nI ra) (nI ne) e ((numF Y e ((splF Y e 4 (strLen.getD 4 0) 0 (p + 1)).2)).2.1) 32 hG (by omega) (by omega)) (by omega) rfl rfl (Nat.le_of_ble_eq_true rfl) (List.Perm.of_eq (List.append_nil _).symm) (mw 0 rfl) rfl dX6_clause_77 (by omega) (by omega) ?_
          rintro _ _ _ ⟨_, _, ⟨rfl, rfl, m_24⟩ | ⟨rfl, rfl, m_24⟩, rfl, rfl, rfl⟩
          · refine ev_ws (List.append_nil _) ?_
            show Ev G X 0 0 80 [(2, .int (nI ((numF Y e ((splF Y e 4 (strLen.getD 4 0) 0 (p + 1)).2)).2.2))), (1, .int (nI 3)), (0, .ref (d 0))] [.int (nI 1)] (RD G d sg am en sp (nI e) (nI (((numF Y e ((splF Y e 4 (strLen.getD 4 0) 0 (p + 1)).2)).2.1) + 1)) (nI ((cvA L).length)) (nI ((cvS L).length)) (nI ra) (nI ne)) ro
            have lm_24 := (hr_lt (by omega) m_24).1
            refine ev_if_eqN (tgt := 113) hC dX6_clause_80 (by decide) (by omega) (fun c_25 => absurd c_25 (by omega)) (fun c_25 => ?_)
            refine ev_aload_n hC dX6_clause_83 rfl 2 rfl ?_
            refine ev_iconst (v := (nI 0)) hC dX6_clause_84 (by decide) ?_
            refine ev_callV (As := [.int (nI 0)]) (st := []) (wf := []) hC cv_X6_99 (exp_all ro d sg am en sp (nI ((cvA L).length)) (nI ra) (nI ne) Y e (((numF Y e ((splF Y e 4 (strLen.getD 4 0) 0 (p + 1)).2)).2.1) + 1) (cvS L) hG (by omega) hS (by have := (cv_len L 0).2.2; omega)) (by omega) rfl rfl (Nat.le_of_ble_eq_true rfl) (List.Perm.of_eq (List.append_nil _).symm) (mw 0 rfl) rfl dX6_clause_85 (by omega) (by omega) ?_
            rintro _ _ _ ⟨sp3, sd3, _, ⟨rfl, ok3, rfl, hL3⟩ | ⟨rfl, ok3⟩, rfl, rfl, rfl⟩
            · refine ev_ws (List.append_nil _) ?_
              show Ev G X 0 0 88 [(2, .int (nI ((numF Y e ((splF Y e 4 (strLen.getD 4 0) 0 (p + 1)).2)).2.2))), (1, .int (nI 3)), (0, .ref (d 0))] [.int (nI 1)] (RD G d sg am en sp3 (nI e) (nI ((somF Y e (facD Y e 5) (((numF Y e ((splF Y e 4 (strLen.getD 4 0) 0 (p + 1)).2)).2.1) + 1)).2.1)) (nI ((cvA L).length)) (nI (((cvS L) ++ List.map cvO (somF Y e (facD Y e 5) (((numF Y e ((splF Y e 4 (strLen.getD 4 0) 0 (p + 1)).2)).2.1) + 1)).2.2).length)) (nI ra) (nI ne)) ro
              obtain ⟨g1, g2, g3, g4⟩ := somF_p (t := Y) (e := e) (fac := facD Y e 5) (fun p hp => facD_p 5 hp) (p := (((numF Y e ((splF Y e 4 (strLen.getD 4 0) 0 (p + 1)).2)).2.1) + 1)) (by omega)
              refine ev_if_eqN (tgt := 113) hC dX6_clause_88 (by decide) (by omega) (fun c_26 => absurd c_26 (by omega)) (fun c_26 => ?_)
              refine ev_aload_n hC dX6_clause_91 rfl 2 rfl ?_
              refine ev_iload_n hC dX6_clause_92 rfl 1 rfl ?_
              refine ev_iconst (v := (nI 2)) hC dX6_clause_93 (by decide) ?_
              refine ev_icmp_neN (tgt := 101) hC dX6_clause_94 (by decide) (by omega) (by omega) (fun c_27 => ?_) (fun c_27 => absurd c_27 (by omega))
              refine ev_iload_n hC dX6_clause_101 rfl 0 rfl ?_
              refine ev_ineg hC dX6_clause_102 ?_
              refine ev_callV (As := [.int (-(nI ((numF Y e ((splF Y e 4 (strLen.getD 4 0) 0 (p + 1)).2)).2.2)))]) (st := []) (wf := []) hC cv_X6_102 (m_X6_judge G ro d sg am en sp3 (nI e) (nI ((somF Y e (facD Y e 5) (((numF Y e ((splF Y e 4 (strLen.getD 4 0) 0 (p + 1)).2)).2.1) + 1)).2.1)) (nI (((cvS L) ++ List.map cvO (somF Y e (facD Y e 5) (((numF Y e ((splF Y e 4 (strLen.getD 4 0) 0 (p + 1)).2)).2.1) + 1)).2.2).length)) (nI ra) (nI ne) (-(nI ((numF Y e ((splF Y e 4 (strLen.getD 4 0) 0 (p + 1)).2)).2.2))) ((cvA L).length) (by omega)) (by omega) rfl rfl (Nat.le_of_ble_eq_true rfl) (List.Perm.of_eq (List.append_nil _).symm) (mw 0 rfl) rfl dX6_clause_103 (by omega) (by omega) ?_
              rintro _ _ _ ⟨rfl, rfl, rfl⟩
              refine ev_ws (List.append_nil _) ?_
              show Ev G X 0 0 106 [(2, .int (nI ((numF Y e ((splF Y e 4 (strLen.getD 4 0) 0 (p + 1)).2)).2.2))), (1, .int (nI 3)), (0, .ref (d 0))] [.int (nI 1)] (RD G d sg (upd am ((cvA L).length) (-(nI ((numF Y e ((splF Y e 4 (strLen.getD 4 0) 0 (p + 1)).2)).2.2)))) (upd en ((cvA L).length) (nI (((cvS L) ++ List.map cvO (somF Y e (facD Y e 5) (((numF Y e ((splF Y e 4 (strLen.getD 4 0) 0 (p + 1)).2)).2.1) + 1)).2.2).length))) sp3 (nI e) (nI ((somF Y e (facD Y e 5) (((numF Y e ((splF Y e 4 (strLen.getD 4 0) 0 (p + 1)).2)).2.1) + 1)).2.1)) (nI (((cvA L).length) + 1)) (nI (((cvS L) ++ List.map cvO (somF Y e (facD Y e 5) (((numF Y e ((splF Y e 4 (strLen.getD 4 0) 0 (p + 1)).2)).2.1) + 1)).2.2).length)) (nI ra) (nI ne)) ro
              refine ev_if_eqN (tgt := 113) hC dX6_clause_106 (by decide) (by omega) (fun c_28 => absurd c_28 (by omega)) (fun c_28 => ?_)
              refine ev_iconst (v := (nI 1)) hC dX6_clause_109 (by decide) ?_
              refine ev_goto (tgt := 114) hC dX6_clause_110 (by decide) ?_
              refine ev_zret hC hR rfl (by rfl) dX6_clause_114 ?_
              have hc := cl_w (t := Y) (e := e) (p := p) (ra := ra) (ne := ne) (l := L)
              have hr := hc.2.2.2 hx
              have ht := tll_w (t := Y) (e := e) (p := p) (w := 3) (by omega) hx
              simp only [Nat.reduceAdd] at ht
              rw [if_pos sk] at ht
              have hm : mchF Y e 11 (-200) p = ((somF Y e (facD Y e 5) ((numF Y e (splF Y e 4 (strLen.getD 4 0) 0 (p + 1)).2).2.1 + 1)).1, (somF Y e (facD Y e 5) ((numF Y e (splF Y e 4 (strLen.getD 4 0) 0 (p + 1)).2).2.1 + 1)).2.1, (somF Y e (facD Y e 5) ((numF Y e (splF Y e 4 (strLen.getD 4 0) 0 (p + 1)).2).2.1 + 1)).2.2 ++ (if (somF Y e (facD Y e 5) ((numF Y e (splF Y e 4 (strLen.getD 4 0) 0 (p + 1)).2).2.1 + 1)).1 = true then [-200 - nI (numF Y e (splF Y e 4 (strLen.getD 4 0) 0 (p + 1)).2).2.2] else [])) := by rw [mchF, ht, if_pos nu_23, if_pos m_24]
              rw [hm] at hr
              rw [if_pos ok3] at hr
              have hmk := CSt.mark (sp := sp) (b := true) (q := 0) (q2 := (somF Y e (facD Y e 5) ((numF Y e (splF Y e 4 (strLen.getD 4 0) 0 (p + 1)).2).2.1 + 1)).2.1) (ra := ra) (ne := ne) (b2 := (somF Y e (facD Y e 5) ((numF Y e (splF Y e 4 (strLen.getD 4 0) 0 (p + 1)).2).2.1 + 1)).1) hA hE hK (somF_k (facD_k Y e 5) ((numF Y e (splF Y e 4 (strLen.getD 4 0) 0 (p + 1)).2).2.1 + 1)) (m := -200 - nI (numF Y e (splF Y e 4 (strLen.getD 4 0) 0 (p + 1)).2).2.2) (mk_le200 (by omega)) (am_200 (by omega)) hL3
              exact ⟨(upd am ((cvA L).length) (-(nI ((numF Y e ((splF Y e 4 (strLen.getD 4 0) 0 (p + 1)).2)).2.2)))), (upd en ((cvA L).length) (nI (((cvS L) ++ List.map cvO (somF Y e (facD Y e 5) (((numF Y e ((splF Y e 4 (strLen.getD 4 0) 0 (p + 1)).2)).2.1) + 1)).2.2).length))), sp3, (nI (((cvA L).length) + 1)), (nI (((cvS L) ++ List.map cvO (somF Y e (facD Y e 5) (((numF Y e ((splF Y e 4 (strLen.getD 4 0) 0 (p + 1)).2)).2.1) + 1)).2.2).length)), (nI ra), (nI ne), _, Or.inl ⟨rfl, by rw [hr]; exact ok3, by rw [hr]; exact hmk, by rw [hr]; have := hmk.2.2.1; simp only at this ⊢; rw [(cv_mark hK (somF_k (facD_k Y e 5) ((numF Y e (splF Y e 4 (strLen.getD 4 0) 0 (p + 1)).2).2.1 + 1)) (mk_le200 (by omega))).2.1, List.length_append]; exact Nat.le_refl _⟩, rfl, by rw [hr], rfl⟩
            · refine ev_ws (List.append_nil _) ?_
              show Ev G X 0 0 88 [(2, .int (nI ((numF Y e ((splF Y e 4 (strLen.getD 4 0) 0 (p + 1)).2)).2.2))), (1, .int (nI 3)), (0, .ref (d 0))] [.int (nI 0)] (RD G d sg am en sp3 (nI e) (nI ((somF Y e (facD Y e 5) (((numF Y e ((splF Y e 4 (strLen.getD 4 0) 0 (p + 1)).2)).2.1) + 1)).2.1)) (nI ((cvA L).length)) sd3 (nI ra) (nI ne)) ro
              obtain ⟨g1, g2, g3, g4⟩ := somF_p (t := Y) (e := e) (fac := facD Y e 5) (fun p hp => facD_p 5 hp) (p := (((numF Y e ((splF Y e 4 (strLen.getD 4 0) 0 (p + 1)).2)).2.1) + 1)) (by omega)
              refine ev_if_eqN (tgt := 113) hC dX6_clause_88 (by decide) (by omega) (fun c_29 => ?_) (fun c_29 => absurd c_29 (by omega))
              refine ev_iconst (v := (nI 0)) hC dX6_clause_113 (by decide) ?_
              refine ev_zret hC hR rfl (by rfl) dX6_clause_114 ?_
              have hc := cl_w (t := Y) (e := e) (p := p) (ra := ra) (ne := ne) (l := L)
              have hr := hc.2.2.2 hx
              have ht := tll_w (t := Y) (e := e) (p := p) (w := 3) (by omega) hx
              simp only [Nat.reduceAdd] at ht
              rw [if_pos sk] at ht
              have hm : mchF Y e 11 (-200) p = ((somF Y e (facD Y e 5) ((numF Y e (splF Y e 4 (strLen.getD 4 0) 0 (p + 1)).2).2.1 + 1)).1, (somF Y e (facD Y e 5) ((numF Y e (splF Y e 4 (strLen.getD 4 0) 0 (p + 1)).2).2.1 + 1)).2.1, (somF Y e (facD Y e 5) ((numF Y e (splF Y e 4 (strLen.getD 4 0) 0 (p + 1)).2).2.1 + 1)).2.2 ++ (if (somF Y e (facD Y e 5) ((numF Y e (splF Y e 4 (strLen.getD 4 0) 0 (p + 1)).2).2.1 + 1)).1 = true then [-200 - nI (numF Y e (splF Y e 4 (strLen.getD 4 0) 0 (p + 1)).2).2.2] else [])) := by rw [mchF, ht, if_pos nu_23, if_pos m_24]
              rw [hm] at hr
              exact ⟨am, en, sp3, (nI ((cvA L).length)), sd3, (nI ra), (nI ne), _, Or.inr ⟨rfl, by rw [hr]; exact ok3⟩, rfl, by rw [hr], rfl⟩
          · refine ev_ws (List.append_nil _) ?_
            show Ev G X 0 0 80 [(2, .int (nI ((numF Y e ((splF Y e 4 (strLen.getD 4 0) 0 (p + 1)).2)).2.2))), (1, .int (nI 3)), (0, .ref (d 0))] [.int (nI 0)] (RD G d sg am en sp (nI e) (nI ((numF Y e ((splF Y e 4 (strLen.getD 4 0) 0 (p + 1)).2)).2.1)) (nI ((cvA L).length)) (nI ((cvS L).length)) (nI ra) (nI ne)) ro
            refine ev_if_eqN (tgt := 113) hC dX6_clause_80 (by decide) (by omega) (fun c_30 => ?_) (fun c_30 => absurd c_30 (by omega))
            refine ev_iconst (v := (nI 0)) hC dX6_clause_113 (by decide) ?_
            refine ev_zret hC hR rfl (by rfl) dX6_clause_114 ?_
            have hc := cl_w (t := Y) (e := e) (p := p) (ra := ra) (ne := ne) (l := L)
            have hr := hc.2.2.2 hx
            have ht := tll_w (t := Y) (e := e) (p := p) (w := 3) (by omega) hx
            simp only [Nat.reduceAdd] at ht
            rw [if_pos sk] at ht
            have hm : mchF Y e 11 (-200) p = (false, (numF Y e (splF Y e 4 (strLen.getD 4 0) 0 (p + 1)).2).2.1, []) := by rw [mchF, ht, if_pos nu_23, if_neg m_24]
            rw [hm] at hr
            exact ⟨am, en, sp, (nI ((cvA L).length)), (nI ((cvS L).length)), (nI ra), (nI ne), _, Or.inr ⟨rfl, by rw [hr]⟩, rfl, by rw [hr], rfl⟩
        · refine ev_ws (List.append_nil _) ?_
          show Ev G X 0 0 25 [(1, .int (nI 3)), (0, .ref (d 0))] [.int (-1)] (RD G d sg am en sp (nI e) (nI ((numF Y e ((splF Y e 4 (strLen.getD 4 0) 0 (p + 1)).2)).2.1)) (nI ((cvA L).length)) (nI ((cvS L).length)) (nI ra) (nI ne)) ro
          obtain ⟨nu_231, nu_232, nu_233, nu_234⟩ := numF_p (t := Y) (e := e) (p := ((splF Y e 4 (strLen.getD 4 0) 0 (p + 1)).2)) (by omega)
          have nu_235 := nu_233
          refine ev_istore_n (lv' := [(2, .int (-1)), (1, .int (nI 3)), (0, .ref (d 0))]) hC dX6_clause_25 rfl (by decide) rfl ?_
          refine ev_iload_n hC dX6_clause_26 rfl 0 rfl ?_
          refine ev_if_ge (tgt := 32) hC dX6_clause_27 (by decide) (fun c_31 => absurd c_31 (by decide)) (fun c_31 => ?_)
          refine ev_iconst (v := (nI 0)) hC dX6_clause_30 (by decide) ?_
          refine ev_zret hC hR rfl (by rfl) dX6_clause_31 ?_
          have hc := cl_w (t := Y) (e := e) (p := p) (ra := ra) (ne := ne) (l := L)
          have hr := hc.2.2.2 hx
          have ht := tll_w (t := Y) (e := e) (p := p) (w := 3) (by omega) hx
          simp only [Nat.reduceAdd] at ht
          rw [if_pos sk] at ht
          have hm : mchF Y e 11 (-200) p = (false, (numF Y e (splF Y e 4 (strLen.getD 4 0) 0 (p + 1)).2).2.1, []) := by rw [mchF, ht, if_neg (by rw [nu_23]; decide)]
          rw [hm] at hr
          exact ⟨am, en, sp, (nI ((cvA L).length)), (nI ((cvS L).length)), (nI ra), (nI ne), _, Or.inr ⟨rfl, by rw [hr]⟩, rfl, by rw [hr], rfl⟩
      · refine ev_ws (List.append_nil _) ?_
        show Ev G X 0 0 16 [(1, .int (nI 3)), (0, .ref (d 0))] [.int (nI 0)] (RD G d sg am en sp (nI e) (nI ((splF Y e 4 (strLen.getD 4 0) 0 (p + 1)).2)) (nI ((cvA L).length)) (nI ((cvS L).length)) (nI ra) (nI ne)) ro
        have spl := splF_p (t := Y) (e := e) (k := 4) (by decide) (f := strLen.getD 4 0) (j := 0) (p := (p + 1)) (by decide) (by omega)
        refine ev_if_neN (tgt := 21) hC dX6_clause_16 (by decide) (by omega) (fun c_32 => absurd c_32 (by omega)) (fun c_32 => ?_)
        refine ev_iconst (v := (nI 0)) hC dX6_clause_19 (by decide) ?_
        refine ev_zret hC hR rfl (by rfl) dX6_clause_20 ?_
        have hc := cl_w (t := Y) (e := e) (p := p) (ra := ra) (ne := ne) (l := L)
        have hr := hc.2.2.2 hx
        have ht := tll_w (t := Y) (e := e) (p := p) (w := 3) (by omega) hx
        simp only [Nat.reduceAdd] at ht
        rw [if_neg (by rw [sk]; decide)] at ht
        have hm : mchF Y e 11 (-200) p = (false, (splF Y e 4 (strLen.getD 4 0) 0 (p + 1)).2, []) := by rw [mchF, ht, if_neg (show ¬ ((false, (splF Y e 4 (strLen.getD 4 0) 0 (p + 1)).2, 0) : Bool × Nat × Nat).1 = true from Bool.false_ne_true)]
        rw [hm] at hr
        exact ⟨am, en, sp, (nI ((cvA L).length)), (nI ((cvS L).length)), (nI ra), (nI ne), _, Or.inr ⟨rfl, by rw [hr]⟩, rfl, by rw [hr], rfl⟩
  · refine ev_ws (List.append_nil _) ?_
    show Ev G X 0 0 6 [(0, .ref (d 0))] [.int (-1)] (RD G d sg am en sp (nI e) (nI p) (nI ((cvA L).length)) (nI ((cvS L).length)) (nI ra) (nI ne)) ro
    have q0 : fndF 0 (hrF Y e p) 4 0 = none := ch_1
    refine ev_istore_n (lv' := [(1, .int (-1)), (0, .ref (d 0))]) hC dX6_clause_6 rfl (by decide) rfl ?_
    refine ev_iload_n hC dX6_clause_7 rfl 0 rfl ?_
    refine ev_if_lt (tgt := 19) hC dX6_clause_8 (by decide) (fun c_33 => ?_) (fun c_33 => absurd c_33 (by decide))
    refine ev_iconst (v := (nI 0)) hC dX6_clause_19 (by decide) ?_
    refine ev_zret hC hR rfl (by rfl) dX6_clause_20 ?_
    have hr := clF_none (ra := ra) (ne := ne) (l := L) q0
    exact ⟨am, en, sp, (nI ((cvA L).length)), (nI ((cvS L).length)), (nI ra), (nI ne), _, Or.inr ⟨rfl, by rw [hr]⟩, rfl, by rw [hr], rfl⟩

set_option maxHeartbeats 4000000 in
set_option maxRecDepth 100000 in
theorem m_X6_start (G : GG) (ro : va_W) (d rr : Nat → Nat) (sg am en sp f1 f2 f3 g1 g2 g3 : Nat → Int32) (sz ap ju sd rn nd gc : Int32) (e : Nat) (he : e ≤ 100) : Mth G M_X6_start 2 0 0 [.ref (d 0), .ref (rr 0)] (List.flatten [RD G d sg am en sp sz ap ju sd rn nd, RW G rr 100 f1 f2 f3 (nI e) g1 g2 g3 gc]) ro (fun r ws' ro' => r = none ∧ ws' = (List.flatten [RD G d (cpF e f1 sg) am en sp (nI e) (nI 0) (nI 0) (nI 0) (nI 1) (nI 2), RW G rr 100 f1 f2 f3 (nI e) g1 g2 g3 gc]) ∧ ro = ro') := by
  refine mth_of (by decide +kernel) (Nat.le_of_ble_eq_true rfl) (fun X hC hR => ?_)
  show Ev G X 0 0 0 [(0, .ref (d 0)), (1, .ref (rr 0))] [] (List.flatten [RD G d sg am en sp sz ap ju sd rn nd, RW G rr 100 f1 f2 f3 (nI e) g1 g2 g3 gc]) ro
  refine ev_aload_n hC dX6_start_0 rfl 0 rfl ?_
  refine ev_aload_n hC dX6_start_1 rfl 1 rfl ?_
  refine ev_callV (As := []) (st := [.ref (d 0)]) (wf := (List.flatten [RD G d sg am en sp sz ap ju sd rn nd])) hC cv_X6_66 (m_X7_kept G ro rr 100 e f1 f2 f3 g1 g2 g3 gc (by omega) (by omega)) (by omega) rfl rfl (Nat.le_of_ble_eq_true rfl) (perm_sg (n := 2) [1, 0] rfl rfl (by decide)) (mw 5 rfl) rfl dX6_start_2 (by omega) (by omega) ?_
  rintro _ _ _ ⟨rfl, rfl, rfl⟩
  show Ev G X 0 0 5 [(0, .ref (d 0)), (1, .ref (rr 0))] [.int (nI (min e 100)), .ref (d 0)] (List.flatten [RW G rr 100 f1 f2 f3 (nI e) g1 g2 g3 gc, RD G d sg am en sp sz ap ju sd rn nd]) ro
  refine ev_perm (ws' := (List.flatten [RD G d sg am en sp sz ap ju sd rn nd, RW G rr 100 f1 f2 f3 (nI e) g1 g2 g3 gc])) (perm_sg2 (n := 2) [1, 0] rfl rfl (by decide)) ?_
  refine ev_bipush (v := (nI 100)) hC dX6_start_5 (by decide) ?_
  refine ev_mmin hC ⟨(ft_in 384 (by decide +kernel) rfl), (ft_in 382 (by decide +kernel) rfl), (ft_in 68 (by decide +kernel) rfl), (ft_in 383 (by decide +kernel) rfl)⟩ (by omega) (Nat.le_of_ble_eq_true rfl) dX6_start_7 ?_
  refine ev_top (y := (nI (min (min e 100) 100))) (mnN (by omega) (by omega)) ?_
  refine ev_top (y := (nI e)) (congrArg nI (by omega)) ?_
  refine ev_put (ws' := (List.flatten [RD G d sg am en sp (nI e) ap ju sd rn nd, RW G rr 100 f1 f2 f3 (nI e) g1 g2 g3 gc])) (q0 := 0) hC fp_X6_24_6 rfl (Nat.le_of_ble_eq_true rfl) rfl rfl rfl dX6_start_10 ?_
  refine ev_aload_n hC dX6_start_13 rfl 1 rfl ?_
  refine ev_get hC fl_X6_78_7 (mw 5 rfl) rfl dX6_start_14 ?_
  refine ev_iconst (v := (nI 0)) hC dX6_start_17 (by decide) ?_
  refine ev_aload_n hC dX6_start_18 rfl 0 rfl ?_
  refine ev_get hC fl_X6_9_6 (mw 0 rfl) rfl dX6_start_19 ?_
  refine ev_iconst (v := (nI 0)) hC dX6_start_22 (by decide) ?_
  refine ev_aload_n hC dX6_start_23 rfl 0 rfl ?_
  refine ev_get hC fl_X6_24_6 (mw 0 rfl) rfl dX6_start_24 ?_
  refine ev_copy0 (ws' := (List.flatten [RD G d (cpF e f1 sg) am en sp (nI e) ap ju sd rn nd, RW G rr 100 f1 f2 f3 (nI e) g1 g2 g3 gc])) (n := e) (q0 := 6) (q1 := 1) hC (⟨(ft_in 385 (by decide +kernel) rfl), (ft_in 387 (by decide +kernel) rfl), (ft_in 386 (by decide +kernel) rfl), (ft_in 75 (by decide +kernel) rfl)⟩) rfl rfl (by omega) (by omega) (by omega) (by omega) (Nat.le_of_ble_eq_true rfl) rfl dX6_start_27 ?_
  refine ev_aload_n hC dX6_start_30 rfl 0 rfl ?_
  refine ev_iconst (v := (nI 0)) hC dX6_start_31 (by decide) ?_
  refine ev_put (ws' := (List.flatten [RD G d (cpF e f1 sg) am en sp (nI e) (nI 0) ju sd rn nd, RW G rr 100 f1 f2 f3 (nI e) g1 g2 g3 gc])) (q0 := 0) hC fp_X6_28_6 rfl (Nat.le_of_ble_eq_true rfl) rfl rfl rfl dX6_start_32 ?_
  refine ev_aload_n hC dX6_start_35 rfl 0 rfl ?_
  refine ev_iconst (v := (nI 0)) hC dX6_start_36 (by decide) ?_
  refine ev_put (ws' := (List.flatten [RD G d (cpF e f1 sg) am en sp (nI e) (nI 0) (nI 0) sd rn nd, RW G rr 100 f1 f2 f3 (nI e) g1 g2 g3 gc])) (q0 := 0) hC fp_X6_31_6 rfl (Nat.le_of_ble_eq_true rfl) rfl rfl rfl dX6_start_37 ?_
  refine ev_aload_n hC dX6_start_40 rfl 0 rfl ?_
  refine ev_iconst (v := (nI 0)) hC dX6_start_41 (by decide) ?_
  refine ev_put (ws' := (List.flatten [RD G d (cpF e f1 sg) am en sp (nI e) (nI 0) (nI 0) (nI 0) rn nd, RW G rr 100 f1 f2 f3 (nI e) g1 g2 g3 gc])) (q0 := 0) hC fp_X6_34_6 rfl (Nat.le_of_ble_eq_true rfl) rfl rfl rfl dX6_start_42 ?_
  refine ev_aload_n hC dX6_start_45 rfl 0 rfl ?_
  refine ev_iconst (v := (nI 1)) hC dX6_start_46 (by decide) ?_
  refine ev_put (ws' := (List.flatten [RD G d (cpF e f1 sg) am en sp (nI e) (nI 0) (nI 0) (nI 0) (nI 1) nd, RW G rr 100 f1 f2 f3 (nI e) g1 g2 g3 gc])) (q0 := 0) hC fp_X6_37_6 rfl (Nat.le_of_ble_eq_true rfl) rfl rfl rfl dX6_start_47 ?_
  refine ev_aload_n hC dX6_start_50 rfl 0 rfl ?_
  refine ev_iconst (v := (nI 2)) hC dX6_start_51 (by decide) ?_
  refine ev_put (ws' := (List.flatten [RD G d (cpF e f1 sg) am en sp (nI e) (nI 0) (nI 0) (nI 0) (nI 1) (nI 2), RW G rr 100 f1 f2 f3 (nI e) g1 g2 g3 gc])) (q0 := 0) hC fp_X6_40_6 rfl (Nat.le_of_ble_eq_true rfl) rfl rfl rfl dX6_start_52 ?_
  refine ev_vret hC hR rfl dX6_start_55 ?_
  exact ⟨rfl, rfl, rfl⟩

set_option maxHeartbeats 4000000 in
set_option maxRecDepth 100000 in
theorem m_X6_faultIn (G : GG) (ro : va_W) (d rr : Nat → Nat) (sg am en sp f1 f2 f3 g1 g2 g3 Y : Nat → Int32) (sz ap ju sd rn nd gc : Int32) (e : Nat) (hY : SgOK Y e) (hf : ∀ i, i < e → f1 i = Y i) : Mth G M_X6_faultIn 19 0 0 [.ref (d 0), .ref (rr 0)] (List.flatten [RD G d sg am en sp sz ap ju sd rn nd, RW G rr 100 f1 f2 f3 (nI e) g1 g2 g3 gc]) ro (fun r ws' ro' => ∃ (sg' : Nat → Int32), ∃ (am' : Nat → Int32), ∃ (en' : Nat → Int32), ∃ (sp' : Nat → Int32), ∃ (ap' : Int32), ∃ (ju' : Int32), ∃ (sd' : Int32), ∃ (rn' : Int32), ∃ (nd' : Int32), ∃ (v' : Int32), ((v' = -1 ∧ (treG Y e).1 = true ∧ (treG Y e).2.1 = e ∧ CSt am' en' sp' ju' sd' rn' nd' (treG Y e)) ∨ (v' = nI (treG Y e).2.1 ∧ ¬ ((treG Y e).1 = true ∧ (treG Y e).2.1 = e))) ∧ r = some (.int v') ∧ ws' = (List.flatten [RD G d sg' am' en' sp' (nI e) ap' ju' sd' rn' nd', RW G rr 100 f1 f2 f3 (nI e) g1 g2 g3 gc]) ∧ ro = ro') := by
  refine mth_of (by decide +kernel) (Nat.le_of_ble_eq_true rfl) (fun X hC hR => ?_)
  have he := hY.1
  have hG : RdOK (cpF e f1 sg) Y e := ⟨hY, fun i hi => (if_pos hi).trans (hf i hi)⟩
  show Ev G X 0 0 0 [(0, .ref (d 0)), (1, .ref (rr 0))] [] (List.flatten [RD G d sg am en sp sz ap ju sd rn nd, RW G rr 100 f1 f2 f3 (nI e) g1 g2 g3 gc]) ro
  refine ev_aload_n hC dX6_faultIn_0 rfl 0 rfl ?_
  refine ev_aload_n hC dX6_faultIn_1 rfl 1 rfl ?_
  refine ev_callV (As := [.ref (rr 0)]) (st := []) (wf := (List.flatten [])) hC cv_X6_43 (m_X6_start G ro d rr sg am en sp f1 f2 f3 g1 g2 g3 sz ap ju sd rn nd gc e (by omega)) (by omega) rfl rfl (Nat.le_of_ble_eq_true rfl) (perm_sg (n := 2) [0, 1] rfl rfl (by decide)) (mw 0 rfl) rfl dX6_faultIn_2 (by omega) (by omega) ?_
  rintro _ _ _ ⟨rfl, rfl, rfl⟩
  show Ev G X 0 0 5 [(0, .ref (d 0)), (1, .ref (rr 0))] [] (List.flatten [RD G d (cpF e f1 sg) am en sp (nI e) (nI 0) (nI 0) (nI 0) (nI 1) (nI 2), RW G rr 100 f1 f2 f3 (nI e) g1 g2 g3 gc]) ro
  refine ev_iconst (v := (nI 1)) hC dX6_faultIn_5 (by decide) ?_
  refine ev_istore_n (lv' := [(2, .int (nI 1)), (0, .ref (d 0)), (1, .ref (rr 0))]) hC dX6_faultIn_6 rfl (by decide) rfl ?_
  have lp_7 : ∀ (fu_7 : Nat) (n : Nat) (q : Nat) (ra : Nat) (ne : Nat) (L : List Int32) (am2 : Nat → Int32) (en2 : Nat → Int32) (sp2 : Nat → Int32) (ju2 : Int32) (sd2 : Int32) (rn2 : Int32) (nd2 : Int32) (hcs : CSt am2 en2 sp2 ju2 sd2 rn2 nd2 (true, q, ra, ne, L)) (hcl : q ≤ e ∧ ra ≤ 99 ∧ ne ≤ 99 ∧ L.length ≤ q ∧ ∀ rest, okD rest 0 → okD (L ++ rest) 0) (hnn : 1 ≤ n ∧ n ≤ 10 ∧ (cvA L).length + 1 ≤ n) (hb : treL Y e (10 - n) (clF Y e q ra ne L) = treG Y e) (hn : 11 - n < fu_7), Ev G X 0 0 7 [(0, .ref (d 0)), (1, .ref (rr 0)), (2, .int (nI n))] [] (List.flatten [RD G d (cpF e f1 sg) am2 en2 sp2 (nI e) (nI q) ju2 sd2 rn2 nd2, RW G rr 100 f1 f2 f3 (nI e) g1 g2 g3 gc]) ro := by
    intro fu_7
    induction fu_7 with
    | zero => intro n q ra ne L am2 en2 sp2 ju2 sd2 rn2 nd2 hcs hcl hnn hb hn; exact absurd hn (Nat.not_lt_zero _)
    | succ fu_7 ih =>
      intro n q ra ne L am2 en2 sp2 ju2 sd2 rn2 nd2 hcs hcl hnn hb hn
      refine ev_iload_n hC dX6_faultIn_7 rfl 2 rfl ?_
      refine ev_bipush (v := (nI 10)) hC dX6_faultIn_8 (by decide) ?_
      refine ev_icmp_gtN (tgt := 64) hC dX6_faultIn_10 (by decide) (by omega) (by omega) (fun c_1 => absurd c_1 (by omega)) (fun c_1 => ?_)
      obtain ⟨e1, e2, e3, e4, hA, hE, hS, hK⟩ := hcs
      simp only at e1 e2 e3 e4 hA hE hS hK
      subst e1 e2 e3 e4
      obtain ⟨c1, c2, c3, c4⟩ := hcl
      have hgo := clF_p (t := Y) (e := e) (p := q) (ra := ra) (ne := ne) (l := L) c1 c2 c3 c4.1 c4.2
      obtain ⟨t1, t2, t3, t4, t5, t6, t7⟩ := id hgo
      show Ev G X 0 0 13 [(0, .ref (d 0)), (1, .ref (rr 0)), (2, .int (nI n))] [] (List.flatten [RD G d (cpF e f1 sg) am2 en2 sp2 (nI e) (nI q) (nI ((cvA L).length)) (nI ((cvS L).length)) (nI ra) (nI ne), RW G rr 100 f1 f2 f3 (nI e) g1 g2 g3 gc]) ro
      refine ev_aload_n hC dX6_faultIn_13 rfl 0 rfl ?_
      refine ev_callV (As := []) (st := []) (wf := (List.flatten [RW G rr 100 f1 f2 f3 (nI e) g1 g2 g3 gc])) hC cv_X6_47 (m_X6_clause G ro d (cpF e f1 sg) am2 en2 sp2 Y e q ra ne L hG (by omega) hA hE hS hK (by omega) (by omega)) (by omega) rfl rfl (Nat.le_of_ble_eq_true rfl) (perm_sg (n := 2) [0, 1] rfl rfl (by decide)) (mw 0 rfl) rfl dX6_faultIn_14 (by omega) (by omega) ?_
      rintro _ _ _ ⟨am5, en5, sp5, ju5, sd5, rn5, nd5, _, ⟨rfl, ok, hcs5, hn5⟩ | ⟨rfl, ok⟩, rfl, rfl, rfl⟩
      · show Ev G X 0 0 17 [(0, .ref (d 0)), (1, .ref (rr 0)), (2, .int (nI n))] [.int (nI 1)] (List.flatten [RD G d (cpF e f1 sg) am5 en5 sp5 (nI e) (nI ((clF Y e q ra ne L).2.1)) ju5 sd5 rn5 nd5, RW G rr 100 f1 f2 f3 (nI e) g1 g2 g3 gc]) ro
        refine ev_if_neN (tgt := 25) hC dX6_faultIn_17 (by decide) (by omega) (fun c_2 => ?_) (fun c_2 => absurd c_2 (by omega))
        refine ev_aload_n hC dX6_faultIn_25 rfl 0 rfl ?_
        refine ev_get hC fl_X6_28_6 (mw 0 rfl) rfl dX6_faultIn_26 ?_
        refine ev_aload_n hC dX6_faultIn_29 rfl 0 rfl ?_
        refine ev_get hC fl_X6_24_6 (mw 0 rfl) rfl dX6_faultIn_30 ?_
        refine ev_icmp_neN (tgt := 38) hC dX6_faultIn_33 (by decide) (by omega) (by omega) (fun c_3 => ?_) (fun c_3 => ?_)
        · refine ev_iload_n hC dX6_faultIn_38 rfl 2 rfl ?_
          refine ev_bipush (v := (nI 10)) hC dX6_faultIn_39 (by decide) ?_
          refine ev_icmp_eqN (tgt := 53) hC dX6_faultIn_41 (by decide) (by omega) (by omega) (fun c_4 => ?_) (fun c_4 => ?_)
          · refine ev_aload_n hC dX6_faultIn_53 rfl 0 rfl ?_
            refine ev_get hC fl_X6_28_6 (mw 0 rfl) rfl dX6_faultIn_54 ?_
            refine ev_iret hC hR rfl dX6_faultIn_57 ?_
            have hr : (treG Y e) = (clF Y e q ra ne L) := by rw [← hb, show 10 - n = 0 by omega]; rfl
            exact ⟨(cpF e f1 sg), am5, en5, sp5, (nI ((clF Y e q ra ne L).2.1)), ju5, sd5, rn5, nd5, _, by rw [hr]; exact Or.inr ⟨rfl, fun z => by have := z.2; omega⟩, rfl, rfl, rfl⟩
          · refine ev_aload_n hC dX6_faultIn_44 rfl 0 rfl ?_
            refine ev_bipush (v := (nI 59)) hC dX6_faultIn_45 (by decide) ?_
            refine ev_callV (As := [.int (nI 59)]) (st := []) (wf := (List.flatten [RW G rr 100 f1 f2 f3 (nI e) g1 g2 g3 gc])) hC cv_X6_51 (m_X6_accept G ro d (cpF e f1 sg) am5 en5 sp5 Y ju5 sd5 rn5 nd5 e ((clF Y e q ra ne L).2.1) 59 hG (by omega) (by omega)) (by omega) rfl rfl (Nat.le_of_ble_eq_true rfl) (perm_sg (n := 2) [0, 1] rfl rfl (by decide)) (mw 0 rfl) rfl dX6_faultIn_47 (by omega) (by omega) ?_
            rintro _ _ _ ⟨_, _, ⟨rfl, rfl, m_5⟩ | ⟨rfl, rfl, m_5⟩, rfl, rfl, rfl⟩
            · show Ev G X 0 0 50 [(0, .ref (d 0)), (1, .ref (rr 0)), (2, .int (nI n))] [.int (nI 1)] (List.flatten [RD G d (cpF e f1 sg) am5 en5 sp5 (nI e) (nI (((clF Y e q ra ne L).2.1) + 1)) ju5 sd5 rn5 nd5, RW G rr 100 f1 f2 f3 (nI e) g1 g2 g3 gc]) ro
              have lm_5 := (hr_lt (by omega) m_5).1
              refine ev_if_neN (tgt := 58) hC dX6_faultIn_50 (by decide) (by omega) (fun c_6 => ?_) (fun c_6 => absurd c_6 (by omega))
              refine ev_iinc (v := (nI (n + 1))) (lv' := [(2, .int (nI (n + 1))), (0, .ref (d 0)), (1, .ref (rr 0))]) hC dX6_faultIn_58 (q := 2) rfl (nI_k _ _ 1 (by decide)) (by decide) rfl ?_
              refine ev_goto (tgt := 7) hC dX6_faultIn_61 (by decide) ?_
              refine ev_lv [1, 2, 0] rfl ?_
              exact ih (n + 1) ((clF Y e q ra ne L).2.1 + 1) ((clF Y e q ra ne L).2.2.1) ((clF Y e q ra ne L).2.2.2.1) ((clF Y e q ra ne L).2.2.2.2) am5 en5 sp5 ju5 sd5 rn5 nd5 hcs5 ⟨by omega, t4, t5, Nat.le_succ_of_le (t6 ok), t7 ok⟩ ⟨by omega, by omega, by omega⟩ ((treL_t (n := 10 - n) ok (by assumption) (by omega)).symm.trans hb) (by omega)
            · show Ev G X 0 0 50 [(0, .ref (d 0)), (1, .ref (rr 0)), (2, .int (nI n))] [.int (nI 0)] (List.flatten [RD G d (cpF e f1 sg) am5 en5 sp5 (nI e) (nI ((clF Y e q ra ne L).2.1)) ju5 sd5 rn5 nd5, RW G rr 100 f1 f2 f3 (nI e) g1 g2 g3 gc]) ro
              refine ev_if_neN (tgt := 58) hC dX6_faultIn_50 (by decide) (by omega) (fun c_7 => absurd c_7 (by omega)) (fun c_7 => ?_)
              refine ev_aload_n hC dX6_faultIn_53 rfl 0 rfl ?_
              refine ev_get hC fl_X6_28_6 (mw 0 rfl) rfl dX6_faultIn_54 ?_
              refine ev_iret hC hR rfl dX6_faultIn_57 ?_
              have hr : (treG Y e) = (clF Y e q ra ne L) := by rw [← hb]; exact treL_f (fun z => m_5 z.2) _
              exact ⟨(cpF e f1 sg), am5, en5, sp5, (nI ((clF Y e q ra ne L).2.1)), ju5, sd5, rn5, nd5, _, by rw [hr]; exact Or.inr ⟨rfl, fun z => by have := z.2; omega⟩, rfl, rfl, rfl⟩
        · refine ev_iconst (v := (-1)) hC dX6_faultIn_36 (by decide) ?_
          refine ev_iret hC hR rfl dX6_faultIn_37 ?_
          have hr : (treG Y e) = (clF Y e q ra ne L) := by rw [← hb]; exact treL_f (fun z => by have := (hr_lt (by omega) z.2).1; omega) _
          exact ⟨(cpF e f1 sg), am5, en5, sp5, (nI ((clF Y e q ra ne L).2.1)), ju5, sd5, rn5, nd5, _, by rw [hr]; exact Or.inl ⟨rfl, ok, by omega, hcs5⟩, rfl, rfl, rfl⟩
      · show Ev G X 0 0 17 [(0, .ref (d 0)), (1, .ref (rr 0)), (2, .int (nI n))] [.int (nI 0)] (List.flatten [RD G d (cpF e f1 sg) am5 en5 sp5 (nI e) (nI ((clF Y e q ra ne L).2.1)) ju5 sd5 rn5 nd5, RW G rr 100 f1 f2 f3 (nI e) g1 g2 g3 gc]) ro
        refine ev_if_neN (tgt := 25) hC dX6_faultIn_17 (by decide) (by omega) (fun c_8 => absurd c_8 (by omega)) (fun c_8 => ?_)
        refine ev_aload_n hC dX6_faultIn_20 rfl 0 rfl ?_
        refine ev_get hC fl_X6_28_6 (mw 0 rfl) rfl dX6_faultIn_21 ?_
        refine ev_iret hC hR rfl dX6_faultIn_24 ?_
        have hr : (treG Y e) = (clF Y e q ra ne L) := by rw [← hb]; exact treL_f (fun z => by rw [ok] at z; exact absurd z.1 (by decide)) _
        exact ⟨(cpF e f1 sg), am5, en5, sp5, (nI ((clF Y e q ra ne L).2.1)), ju5, sd5, rn5, nd5, _, by rw [hr]; exact Or.inr ⟨rfl, fun z => by rw [ok] at z; exact absurd z.1 (by decide)⟩, rfl, rfl, rfl⟩
  refine ev_lv [1, 2, 0] rfl ?_
  exact lp_7 (11 - 1 + 1) 1 0 1 2 [] am en sp (nI 0) (nI 0) (nI 1) (nI 2) ⟨rfl, rfl, rfl, rfl, (fun i hi => absurd hi (Nat.not_lt_zero _)), (fun i hi => absurd hi (Nat.not_lt_zero _)), (fun i hi => absurd hi (Nat.not_lt_zero _)), (fun s hs => by cases hs)⟩ ⟨Nat.zero_le _, by omega, by omega, Nat.le_refl _, fun _ h => h⟩ ⟨by omega, by omega, by decide⟩ rfl (Nat.lt_succ_self _)
