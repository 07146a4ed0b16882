/-- letter j of String constant k, a natural -/
def chN (k j : Nat) : Nat := (chF k j).toNatClampNeg
theorem chN_eq : ∀ k, k < 12 → ∀ j, j < strLen.getD k 0 → chF k j = nI (chN k j) ∧ chN k j ≤ 127 := by decide +kernel
/-- f letters of String constant k, from letter j on, at p: are they there, where they are over or wrong -/
def splF (t : Nat → Int32) (e k : Nat) : Nat → Nat → Nat → Bool × Nat
  | 0, _, p => (true, p)
  | f + 1, j, p => if hrF t e p = nI (chN k j) then splF t e k f (j + 1) (p + 1) else (false, p)
theorem spl_t {t : Nat → Int32} {e k f j p : Nat} (hf : 0 < f) (c : hrF t e p = nI (chN k j)) : splF t e k f j p = splF t e k (f - 1) (j + 1) (p + 1) := by
  obtain ⟨g, rfl⟩ : ∃ g, f = g + 1 := ⟨f - 1, by omega⟩
  exact if_pos c
theorem spl_f {t : Nat → Int32} {e k f j p : Nat} (hf : 0 < f) (c : ¬ hrF t e p = nI (chN k j)) : splF t e k f j p = (false, p) := by
  obtain ⟨g, rfl⟩ : ∃ g, f = g + 1 := ⟨f - 1, by omega⟩
  exact if_neg c

set_option maxHeartbeats 4000000 in
set_option maxRecDepth 100000 in
theorem m_X12_spells (G : GG) (ro : va_W) (a : Nat → Nat) (S I F B T R K D : Nat → Int32) (hI ac sp en iw op mu rd ra ki nu tv : Int32) (Y : Nat → Int32) (e p : Nat) (k : Nat) (hT : TPE S Y e) (hp : p ≤ e) (hk : k < 12) : Mth G M_X12_spells 4 0 0 [.ref (a 0), .ref (gK G k)] (MW G a S I F B T R K D hI ac (nI p) (nI e) (nI 0) op mu rd ra ki nu tv) ro (fun r ws' ro' => ∃ (w' : Int32), ((w' = nI 0 ∧ (splF Y e k (strLen.getD k 0) 0 p).1 = true) ∨ (w' = nI 1 ∧ (splF Y e k (strLen.getD k 0) 0 p).1 = false)) ∧ r = none ∧ ws' = (MW G a S I F B T R K D hI ac (nI ((splF Y e k (strLen.getD k 0) 0 p).2)) (nI e) w' op mu rd ra ki nu tv) ∧ ro = ro') := by
  refine mth_of (by decide +kernel) (Nat.le_of_ble_eq_true rfl) (fun X hC hR => ?_)
  obtain ⟨he, hTe⟩ := hT
  have hlen := strLen_le k hk
  show Ev G X 0 0 0 [(0, .ref (a 0)), (1, .ref (gK G k))] [] (MW G a S I F B T R K D hI ac (nI p) (nI e) (nI 0) op mu rd ra ki nu tv) ro
  refine ev_iconst (v := (nI 0)) hC dX12_spells_0 (by decide) ?_
  refine ev_istore_n (lv' := [(2, .int (nI 0)), (0, .ref (a 0)), (1, .ref (gK G k))]) hC dX12_spells_1 rfl (by decide) rfl ?_
  have lp_2 : ∀ (fu_2 : Nat) (j : Nat) (q : Nat) (w : Int32) (hj : j ≤ strLen.getD k 0) (hq : q ≤ e) (hb : (w = nI 0 ∧ splF Y e k (strLen.getD k 0) 0 p = splF Y e k (strLen.getD k 0 - j) j q) ∨ (w = nI 1 ∧ splF Y e k (strLen.getD k 0) 0 p = (false, q))) (hn : strLen.getD k 0 - j < fu_2), Ev G X 0 0 2 [(0, .ref (a 0)), (1, .ref (gK G k)), (2, .int (nI j))] [] (MW G a S I F B T R K D hI ac (nI q) (nI e) w op mu rd ra ki nu tv) ro := by
    intro fu_2
    induction fu_2 with
    | zero => intro j q w hj hq hb hn; exact absurd hn (Nat.not_lt_zero _)
    | succ fu_2 ih =>
      intro j q w hj hq hb hn
      refine ev_iload_n hC dX12_spells_2 rfl 2 rfl ?_
      refine ev_aload_n hC dX12_spells_3 rfl 1 rfl ?_
      refine ev_callK (As := []) (st := [.int (nI j)]) (wc := []) (wf := (MW G a S I F B T R K D hI ac (nI q) (nI e) w op mu rd ra ki nu tv)) hC cv_X12_62 rfl (m_J0_length_8abf5 G ro k (by omega)) (by decide) rfl rfl (Nat.le_of_ble_eq_true rfl) (List.Perm.refl _) (by omega) dX12_spells_4 (by decide) (by decide) ?_
      rintro _ _ _ ⟨rfl, rfl, rfl⟩
      refine ev_ws (List.nil_append _) ?_
      show Ev G X 0 0 7 [(0, .ref (a 0)), (1, .ref (gK G k)), (2, .int (nI j))] [.int (nI (strLen.getD k 0)), .int (nI j)] (MW G a S I F B T R K D hI ac (nI q) (nI e) w op mu rd ra ki nu tv) ro
      refine ev_icmp_geN (tgt := 25) hC dX12_spells_7 (by decide) (by omega) (by omega) (fun c_1 => ?_) (fun c_1 => ?_)
      · refine ev_vret hC hR rfl dX12_spells_25 ?_
        obtain rfl : j = strLen.getD k 0 := by omega
        rw [Nat.sub_self] at hb
        rcases hb with ⟨rfl, hb⟩ | ⟨rfl, hb⟩
        · exact ⟨_, Or.inl ⟨rfl, by rw [hb]; rfl⟩, rfl, by rw [hb]; rfl, rfl⟩
        · exact ⟨_, Or.inr ⟨rfl, by rw [hb]⟩, rfl, by rw [hb], rfl⟩
      · have hch := chN_eq k hk j (by omega)
        rcases hb with ⟨rfl, hb⟩ | ⟨rfl, hb⟩
        · refine ev_aload_n hC dX12_spells_10 rfl 0 rfl ?_
          refine ev_aload_n hC dX12_spells_11 rfl 1 rfl ?_
          refine ev_iload_n hC dX12_spells_12 rfl 2 rfl ?_
          refine ev_callK (As := [.int (nI j)]) (st := [.ref (a 0)]) (wc := []) (wf := (MW G a S I F B T R K D hI ac (nI q) (nI e) (nI 0) op mu rd ra ki nu tv)) hC cv_X12_67 rfl (m_J0_charAt_5068e G ro k j (by omega) (by first | assumption | decide)) (by decide) rfl rfl (Nat.le_of_ble_eq_true rfl) (List.Perm.refl _) (by omega) dX12_spells_13 (by decide) (by decide) ?_
          rintro _ _ _ ⟨rfl, rfl, rfl⟩
          refine ev_ws (List.nil_append _) ?_
          show Ev G X 0 0 16 [(0, .ref (a 0)), (1, .ref (gK G k)), (2, .int (nI j))] [.int (chF k j), .ref (a 0)] (MW G a S I F B T R K D hI ac (nI q) (nI e) (nI 0) op mu rd ra ki nu tv) ro
          refine ev_top (y := (nI (chN k j))) hch.1 ?_
          refine ev_callV (As := [.int (nI (chN k j))]) (st := []) (wf := []) hC cv_X12_71 (m_X12_must G ro a S I F B T R K D hI ac (nI q) (nI e) (nI 0) op mu rd ra ki nu tv Y e q (chN k j) ⟨he, hTe⟩ (by omega)) (by omega) rfl rfl (Nat.le_of_ble_eq_true rfl) (List.Perm.of_eq (List.append_nil _).symm) (mw 0 rfl) rfl dX12_spells_16 (by decide) (by decide) ?_
          rintro _ _ _ ⟨_, _, ⟨rfl, rfl, m_2⟩ | ⟨rfl, rfl, m_2⟩, rfl, rfl, rfl⟩
          · refine ev_ws (List.append_nil _) ?_
            show Ev G X 0 0 19 [(0, .ref (a 0)), (1, .ref (gK G k)), (2, .int (nI j))] [] (MW G a S I F B T R K D hI ac (nI (q + 1)) (nI e) (nI 0) op mu rd ra ki nu tv) ro
            have lm_2 := (hr_lt (by omega) m_2).1
            refine ev_iinc (v := (nI (j + 1))) (lv' := [(2, .int (nI (j + 1))), (0, .ref (a 0)), (1, .ref (gK G k))]) hC dX12_spells_19 (q := 2) rfl (nI_k _ _ 1 (by decide)) (by decide) rfl ?_
            refine ev_goto (tgt := 2) hC dX12_spells_22 (by decide) ?_
            refine ev_lv [1, 2, 0] rfl ?_
            exact ih (j + 1) (q + 1) (nI 0) (by omega) (by omega) (by first | exact Or.inr ⟨rfl, hb⟩ | exact Or.inl ⟨rfl, by rw [hb, spl_t (by omega) (by assumption), show strLen.getD k 0 - (j + 1) = strLen.getD k 0 - j - 1 by omega]⟩ | exact Or.inr ⟨rfl, hb.trans (spl_f (by omega) (by assumption))⟩) (by omega)
          · refine ev_ws (List.append_nil _) ?_
            show Ev G X 0 0 19 [(0, .ref (a 0)), (1, .ref (gK G k)), (2, .int (nI j))] [] (MW G a S I F B T R K D hI ac (nI q) (nI e) (nI 1) op mu rd ra ki nu tv) ro
            refine ev_iinc (v := (nI (j + 1))) (lv' := [(2, .int (nI (j + 1))), (0, .ref (a 0)), (1, .ref (gK G k))]) hC dX12_spells_19 (q := 2) rfl (nI_k _ _ 1 (by decide)) (by decide) rfl ?_
            refine ev_goto (tgt := 2) hC dX12_spells_22 (by decide) ?_
            refine ev_lv [1, 2, 0] rfl ?_
            exact ih (j + 1) q (nI 1) (by omega) (by omega) (by first | exact Or.inr ⟨rfl, hb⟩ | exact Or.inl ⟨rfl, by rw [hb, spl_t (by omega) (by assumption), show strLen.getD k 0 - (j + 1) = strLen.getD k 0 - j - 1 by omega]⟩ | exact Or.inr ⟨rfl, hb.trans (spl_f (by omega) (by assumption))⟩) (by omega)
        · refine ev_aload_n hC dX12_spells_10 rfl 0 rfl ?_
          refine ev_aload_n hC dX12_spells_11 rfl 1 rfl ?_
          refine ev_iload_n hC dX12_spells_12 rfl 2 rfl ?_
          refine ev_callK (As := [.int (nI j)]) (st := [.ref (a 0)]) (wc := []) (wf := (MW G a S I F B T R K D hI ac (nI q) (nI e) (nI 1) op mu rd ra ki nu tv)) hC cv_X12_67 rfl (m_J0_charAt_5068e G ro k j (by omega) (by first | assumption | decide)) (by decide) rfl rfl (Nat.le_of_ble_eq_true rfl) (List.Perm.refl _) (by omega) dX12_spells_13 (by decide) (by decide) ?_
          rintro _ _ _ ⟨rfl, rfl, rfl⟩
          refine ev_ws (List.nil_append _) ?_
          show Ev G X 0 0 16 [(0, .ref (a 0)), (1, .ref (gK G k)), (2, .int (nI j))] [.int (chF k j), .ref (a 0)] (MW G a S I F B T R K D hI ac (nI q) (nI e) (nI 1) op mu rd ra ki nu tv) ro
          refine ev_top (y := (nI (chN k j))) hch.1 ?_
          refine ev_callV (As := [.int (nI (chN k j))]) (st := []) (wf := []) hC cv_X12_71 (m_X12_mustw G ro a S I F B T R K D hI ac (nI q) (nI e) (nI 1) op mu rd ra ki nu tv (chN k j) q) (by omega) rfl rfl (Nat.le_of_ble_eq_true rfl) (List.Perm.of_eq (List.append_nil _).symm) (mw 0 rfl) rfl dX12_spells_16 (by decide) (by decide) ?_
          rintro _ _ _ ⟨rfl, rfl, rfl⟩
          refine ev_ws (List.append_nil _) ?_
          show Ev G X 0 0 19 [(0, .ref (a 0)), (1, .ref (gK G k)), (2, .int (nI j))] [] (MW G a S I F B T R K D hI ac (nI q) (nI e) (nI 1) op mu rd ra ki nu tv) ro
          refine ev_iinc (v := (nI (j + 1))) (lv' := [(2, .int (nI (j + 1))), (0, .ref (a 0)), (1, .ref (gK G k))]) hC dX12_spells_19 (q := 2) rfl (nI_k _ _ 1 (by decide)) (by decide) rfl ?_
          refine ev_goto (tgt := 2) hC dX12_spells_22 (by decide) ?_
          refine ev_lv [1, 2, 0] rfl ?_
          exact ih (j + 1) q (nI 1) (by omega) (by omega) (by first | exact Or.inr ⟨rfl, hb⟩ | exact Or.inl ⟨rfl, by rw [hb, spl_t (by omega) (by assumption), show strLen.getD k 0 - (j + 1) = strLen.getD k 0 - j - 1 by omega]⟩ | exact Or.inr ⟨rfl, hb.trans (spl_f (by omega) (by assumption))⟩) (by omega)
  refine ev_lv [1, 2, 0] rfl ?_
  exact lp_2 (strLen.getD k 0 - 0 + 1) 0 p (nI 0) (by omega) (by omega) (Or.inl ⟨rfl, rfl⟩) (Nat.lt_succ_self _)
