/-! what each call leaves is in bounds -/
section KEEPs
variable {S : Nat → Int32} {D E : Nat}
theorem pn_nI {k : Nat} (h : k < 2 ^ 31) : pn (nI k) = k := nI_clamp h
theorem feedT_wf (h : WF S D E) (x : Int32) : WF (feedT S x) D E := by
  have b := h.tape.le
  unfold feedT
  split
  · next c =>
    split
    · exact h
    · obtain ⟨k, hk, rfl⟩ := inN (m := 127) (by omega) c
      refine WF.one (WF.one h ⟨by omega, by omega, by omega⟩ (by omega) (by omega) (by omega) (by omega) ?_) ⟨by omega, by omega, by omega⟩ (by omega) (by omega) (by omega) (by omega) ?_
      · rw [bd_sign D E (by omega) (by omega)]
        exact hk
      · rw [bd_tape]
        omega
  · exact h
theorem saltT_wf (h : WF S D E) (k x : Int32) : WF (saltT S k x) D E := by
  unfold saltT
  split
  · next c =>
    split
    · next c2 =>
      obtain ⟨k, hk, rfl⟩ := inN (m := 5) (by omega) c
      obtain ⟨x, hx, rfl⟩ := inN (m := 999) (by omega) c2
      rw [pn_nI (by omega)]
      refine WF.one h ⟨by omega, by omega, by omega⟩ (by omega) (by omega) (by omega) (by omega) ?_
      rw [bd_salt D E (by omega) (by omega)]
      exact hx
    · exact h
  · exact h
theorem roofT_wf (h : WF S D E) (k b : Int32) : WF (roofT S k b) D E := by
  unfold roofT
  split
  · next c =>
    obtain ⟨k, hk, rfl⟩ := inN (m := 5) (by omega) c
    rw [pn_nI (by omega)]
    split
    · refine WF.one h ⟨by omega, by omega, by omega⟩ (by omega) (by omega) (by omega) (by omega) (Nat.zero_le _)
    · refine WF.one h ⟨by omega, by omega, by omega⟩ (by omega) (by omega) (by omega) (by omega) ?_
      rw [bd_roof D E (by omega) (by omega)]
      exact Nat.le_refl _
  · exact h
theorem rowT_wf (h : WF S D E) (p k n : Int32) : WF (rowT S p k n) D E := by
  have b := h.peo.le
  unfold rowT
  split
  · next c =>
    split
    · next c2 =>
      obtain ⟨p, hp, rfl⟩ := isP h c.1
      obtain ⟨k, hk, rfl⟩ := inN (m := 3) (by omega) c.2
      obtain ⟨n, hn, rfl⟩ := inN (m := 9) (by omega) c2
      rw [pn_nI (k := p) (by omega), pn_nI (k := k) (by omega)]
      split
      · refine WF.one h ⟨by omega, by omega, by omega⟩ (by omega) (by omega) (by omega) (by omega) ?_
        rw [bd_row D E (by omega) (by omega)]
        exact hn
      · exact h
    · exact h
  · exact h
theorem setT_wf (h : WF S D E) (p w n : Int32) : WF (setT S p w n) D E := by
  have b := h.peo.le
  unfold setT
  by_cases c : (nI 0 ≤ p ∧ p ≤ S 32 - nI 1) ∧ nI 0 ≤ w ∧ w ≤ nI 1
  · rw [if_pos c]
    obtain ⟨p, hp, rfl⟩ := isP h c.1
    obtain ⟨w, hw, rfl⟩ := inN (m := 1) (by omega) c.2
    rw [pn_nI (k := p) (by omega), pn_nI (k := w) (by omega)]
    rcases (show w = 0 ∨ w = 1 by omega) with rfl | rfl
    · rw [show (if nI 0 = nI 0 then nI 5 else nI 99) = nI 5 from if_pos rfl]
      split
      · next c2 =>
        obtain ⟨n, hn, rfl⟩ := inN (m := 5) (by omega) c2
        refine WF.one h ⟨by omega, by omega, by omega⟩ (by omega) (by omega) (by omega) (by omega) ?_
        rw [bd_side D E (by omega) (by omega)]
        exact hn
      · exact h
    · rw [show (if nI 1 = nI 0 then nI 5 else nI 99) = nI 99 from if_neg (by decide)]
      split
      · next c2 =>
        obtain ⟨n, hn, rfl⟩ := inN (m := 99) (by omega) c2
        refine WF.one h ⟨by omega, by omega, by omega⟩ (by omega) (by omega) (by omega) (by omega) ?_
        rw [bd_grudge D E (by omega) (by omega)]
        exact hn
      · exact h
  · rw [if_neg c]
    exact h
theorem seeT_wf (h : WF S D E) (k x n : Int32) : WF (seeT S k x n) D E := by
  have b := h.seen.le
  unfold seeT
  split
  · exact WF.one h ⟨by omega, by omega, by omega⟩ (by omega) (by omega) (by omega) (by omega) (Nat.zero_le _)
  · split
    · next c =>
      split
      · next c2 =>
        split
        · exact h
        · obtain ⟨k, hk, rfl⟩ := inN (m := 5) (by omega) c
          obtain ⟨x, hx, rfl⟩ := inN (m := 999) (by omega) c2.1
          obtain ⟨n, hn, rfl⟩ := inN (m := 20) (by omega) c2.2
          refine WF.one (WF.one (WF.one (WF.one h ⟨by omega, by omega, by omega⟩ (by omega) (by omega) (by omega) (by omega) ?_) ⟨by omega, by omega, by omega⟩ (by omega) (by omega) (by omega) (by omega) ?_) ⟨by omega, by omega, by omega⟩ (by omega) (by omega) (by omega) (by omega) ?_) ⟨by omega, by omega, by omega⟩ (by omega) (by omega) (by omega) (by omega) ?_
          · rw [bd_sside D E (by omega) (by omega)]
            exact hk
          · rw [bd_ssalt D E (by omega) (by omega)]
            exact hx
          · rw [bd_sdays D E (by omega) (by omega)]
            exact hn
          · rw [bd_seen]
            omega
      · exact h
    · exact h
theorem bookT_wf (h : WF S D E) (k x : Int32) : WF (bookT S k x) D E := by
  have b := h.book.le
  unfold bookT
  split
  · exact WF.one h ⟨by omega, by omega, by omega⟩ (by omega) (by omega) (by omega) (by omega) (Nat.zero_le _)
  · split
    · next c =>
      split
      · next c2 =>
        split
        · exact h
        · obtain ⟨k, hk, rfl⟩ := inN (m := 5) (by omega) c
          obtain ⟨x, hx, rfl⟩ := inN (m := 999) (by omega) c2
          refine WF.one (WF.one (WF.one h ⟨by omega, by omega, by omega⟩ (by omega) (by omega) (by omega) (by omega) ?_) ⟨by omega, by omega, by omega⟩ (by omega) (by omega) (by omega) (by omega) ?_) ⟨by omega, by omega, by omega⟩ (by omega) (by omega) (by omega) (by omega) ?_
          · rw [bd_bside D E (by omega) (by omega)]
            exact hk
          · rw [bd_bsalt D E (by omega) (by omega)]
            exact hx
          · rw [bd_book]
            omega
      · exact h
    · exact h
theorem comesF_wf {p k v s : Nat} (h : WF S D E) (hp : p = sn S 32) (h6 : p < 6) (hk : k ≤ 6) (hv : v ≤ 9) (hs : s ≤ 5) : WF (comesF S p (nI k) (nI v) (nI s)) D E := by
  have w : ∀ {S' : Nat → Int32} {i x : Nat}, WF S' D E → bdJ i → i ≠ 33 → i ≠ 32 → i ≠ 35 → ¬ (90 ≤ i ∧ i < 106) → x ≤ bd D E i → WF (upd S' i (nI x)) D E := fun q a b c d e f => q.one a b (fun z => absurd z c) (fun z => absurd z d) e f
  have z : ∀ {S' : Nat → Int32} {i : Nat}, WF S' D E → bdJ i → i ≠ 33 → i ≠ 32 → i ≠ 35 → ¬ (90 ≤ i ∧ i < 106) → WF (upd S' i (nI 0)) D E := fun q a b c d e => w q a b c d e (Nat.zero_le _)
  have J : ∀ {i : Nat}, i < 90 → i ≠ 38 → bdJ i := fun a b => ⟨by omega, b, by omega⟩
  unfold comesF
  have a1 : WF (upd S (39 + p) (nI k)) D E := w h (J (by omega) (by omega)) (by omega) (by omega) (by omega) (by omega) (by rw [bd_kind D E (by omega) (by omega)]; exact hk)
  have a2 := w (i := 45 + p) (x := v) a1 (J (by omega) (by omega)) (by omega) (by omega) (by omega) (by omega) (by rw [bd_v D E (by omega) (by omega)]; exact hv)
  have a3 := w (i := 14 + p) (x := s) a2 (J (by omega) (by omega)) (by omega) (by omega) (by omega) (by omega) (by rw [bd_side D E (by omega) (by omega)]; exact hs)
  have a4 := z (i := 20 + p) a3 (J (by omega) (by omega)) (by omega) (by omega) (by omega) (by omega)
  have a5 := z (i := 26 + p) a4 (J (by omega) (by omega)) (by omega) (by omega) (by omega) (by omega)
  have a6 := z (i := 51 + 4 * p) a5 (J (by omega) (by omega)) (by omega) (by omega) (by omega) (by omega)
  have a7 := z (i := 51 + 4 * p + 1) a6 (J (by omega) (by omega)) (by omega) (by omega) (by omega) (by omega)
  have a8 := z (i := 51 + 4 * p + 2) a7 (J (by omega) (by omega)) (by omega) (by omega) (by omega) (by omega)
  have a9 := z (i := 51 + 4 * p + 3) a8 (J (by omega) (by omega)) (by omega) (by omega) (by omega) (by omega)
  refine a9.one (J (by omega) (by omega)) (by omega) (fun _ => ?_) (by omega) (by omega) (by rw [bd_peo]; omega)
  refine Nat.le_trans (Nat.le_of_eq ?_) (Nat.le_succ p)
  rw [hp]
  refine sn_congr ?_
  rw [upd_ne _ _ (by omega), upd_ne _ _ (by omega), upd_ne _ _ (by omega), upd_ne _ _ (by omega), upd_ne _ _ (by omega), upd_ne _ _ (by omega), upd_ne _ _ (by omega), upd_ne _ _ (by omega), upd_ne _ _ (by omega)]
theorem personT_wf (h : WF S D E) (k v s : Int32) : WF (personT S k v s) D E := by
  have b := h.peo.le
  unfold personT
  split
  · next c =>
    split
    · next c2 =>
      split
      · exact h
      · obtain ⟨k, hk, rfl⟩ := inN (m := 6) (by omega) c.1
        obtain ⟨s, hs, rfl⟩ := inN (m := 5) (by omega) c.2
        obtain ⟨v, hv, rfl⟩ := inN (m := 9) (by omega) c2
        exact comesF_wf h rfl (by omega) hk hv hs
    · exact h
  · exact h
theorem passT_wf (h : WF S 9999 9999) (x : Int32) : WF (passT S x) 9999 9999 := by
  unfold passT
  split
  · next c =>
    split
    · next c2 =>
      obtain ⟨n, hn, rfl⟩ := inN (m := 60) (by omega) c
      rw [pn_nI (by omega)] at c2 ⊢
      have hd : WF S (sn S 0) 9999 := WF.of_bd (fun j hj => by
        by_cases z : j = 0
        · subst z
          exact NB.of h.day.lt (Nat.le_refl _) h.day.eq
        · have q := h.at_bd hj
          rw [show bd 9999 9999 j = bd (sn S 0) 9999 j by unfold bd; rw [if_neg z, if_neg z]] at q
          exact q) h.pnok h.hold
      exact (pasF_wf hd (by omega) (by omega) n (by omega)).1.mono c2 (Nat.le_refl _) (by omega) (by omega)
    · exact h
  · exact h
theorem undoT_wf {I : Nat → Int32} {hI : Int32} (h : WF S D E) (h2 : hI ≠ 0 → WF I D E) : WF (undoT S I hI) D E := by
  unfold undoT
  split
  · exact h
  · next c => exact (h2 c).same (fun j hj => if_pos hj)
theorem planT_wf (h : WF S D E) (w z : Int32) : WF (planT S w z) D E := by
  have b := h.plan.le
  have b32 := h.peo.le
  unfold planT
  split
  · exact WF.one h ⟨by omega, by omega, by omega⟩ (by omega) (by omega) (fun _ => Nat.zero_le _) (by omega) (Nat.zero_le _)
  · split
    · exact h
    · next c =>
      split
      · exact h
      · have hA : nI 0 ≤ w ∧ w ≤ nI 3 := Decidable.not_not.mp (fun q => c (Or.inl q))
        have hB : (nI 1 ≤ w ∧ w ≤ nI 2) → nI 0 ≤ z ∧ z ≤ nI 5 := fun q => Decidable.not_not.mp (fun y => c (Or.inr (Or.inl ⟨q, y⟩)))
        have hC : w = nI 3 → nI 0 ≤ z ∧ z ≤ S 32 - nI 1 := fun q => Decidable.not_not.mp (fun y => c (Or.inr (Or.inr ⟨q, y⟩)))
        obtain ⟨m, hm, rfl⟩ := inN (m := 3) (by omega) hA
        have ne : ∀ j, j ≠ 35 → j ≠ 90 + sn S 35 → j ≠ 98 + sn S 35 → upd (upd (upd S (90 + sn S 35) (nI m)) (98 + sn S 35) z) 35 (nI (sn S 35 + 1)) j = S j := fun j a1 a2 a3 => by rw [upd_ne _ _ a1, upd_ne _ _ a3, upd_ne _ _ a2]
        have e35 : upd (upd (upd S (90 + sn S 35) (nI m)) (98 + sn S 35) z) 35 (nI (sn S 35 + 1)) 35 = nI (sn S 35 + 1) := upd_eq _ _ _
        have e90 : upd (upd (upd S (90 + sn S 35) (nI m)) (98 + sn S 35) z) 35 (nI (sn S 35 + 1)) (90 + sn S 35) = nI m := by rw [upd_ne _ _ (by omega), upd_ne _ _ (by omega), upd_eq]
        have e98 : upd (upd (upd S (90 + sn S 35) (nI m)) (98 + sn S 35) z) 35 (nI (sn S 35 + 1)) (98 + sn S 35) = z := by rw [upd_ne _ _ (by omega), upd_eq]
        generalize upd (upd (upd S (90 + sn S 35) (nI m)) (98 + sn S 35) z) 35 (nI (sn S 35 + 1)) = T at ne e35 e90 e98
        have s32 : sn T 32 = sn S 32 := sn_congr (ne _ (by omega) (by omega) (by omega))
        have s35 : sn T 35 = sn S 35 + 1 := sn_of (by omega) e35
        refine WF.of_bd (fun j hj => ?_) (fun k hk => ?_) (hold_congr h.hold (Nat.le_of_eq (sn_congr (ne _ (by omega) (by omega) (by omega))).symm) (ne _ (by omega) (by omega) (by omega)) (fun j _ _ => ne j (by omega) (by omega) (by omega)))
        · by_cases a1 : j = 35
          · subst a1
            exact NB.of (by rw [bd_plan]; decide) (by rw [bd_plan]; omega) e35
          · by_cases a2 : j = 90 + sn S 35
            · rw [bd_pwhat D E (by omega) (by omega), a2]
              exact NB.of (by omega) hm e90
            · obtain ⟨j1, j2, j3⟩ := hj
              exact (h.at_bd ⟨j1, j2, j3⟩).congr (ne j a1 a2 (by omega))
        · by_cases a1 : k = sn S 35
          · subst a1
            rw [e90]
            refine ⟨fun q => ?_, fun q _ => ?_⟩
            · have hz := hB (by rcases q with q | q <;> rw [q] <;> decide)
              obtain ⟨y, hy, rfl⟩ := inN (m := 5) (by omega) hz
              exact NB.of (by omega) hy e98
            · obtain ⟨y, hy, rfl⟩ := isP h (hC q)
              rw [s32, show sn T (98 + sn S 35) = y from sn_of (by omega) e98]
              exact ⟨NB.of (by omega) (show y ≤ 5 by omega) e98, hy⟩
          · have q := h.pnum k hk
            rw [ne (90 + k) (by omega) (by omega) (by omega), s32, show sn T (98 + k) = sn S (98 + k) from sn_congr (ne _ (by omega) (by omega) (by omega))]
            exact ⟨fun y => (q.1 y).congr (ne _ (by omega) (by omega) (by omega)), fun y y2 => ⟨(q.2 y (by omega)).1.congr (ne _ (by omega) (by omega) (by omega)), (q.2 y (by omega)).2⟩⟩
theorem treT_wf {U : Nat → Int32} (h : WF S D E) (hU : treT S U) : WF U D E := by
  have b33 := h.tre.le
  have b37 := h.tape.le
  by_cases n5 : sn S 33 = 5
  · rw [treT, if_pos n5] at hU
    rw [hU]
    exact h
  · rw [treT, if_neg n5] at hU
    obtain ⟨hT, h37, h2⟩ := hU
    have ne : ∀ j, j < 222 → j ≠ 33 → j ≠ 37 → j ≠ 38 → U j = S j := fun j a1 a2 a3 a4 => hT j a2 a3 a4 (by omega) (by omega) (by omega) (by omega)
    have pn' : PnOK U := h.pnok.congr (fun j _ _ => ne j (by omega) (by omega) (by omega) (by omega)) (Nat.le_of_eq (sn_congr (ne _ (by omega) (by omega) (by omega) (by omega)))) (Nat.le_of_eq (sn_congr (ne _ (by omega) (by omega) (by omega) (by omega))).symm)
    have key : NB U 33 5 → HoldOK U → WF U D E := fun h33 hh => WF.of_bd (fun j hj => by
      by_cases a1 : j = 33
      · subst a1
        exact h33
      · by_cases a2 : j = 37
        · subst a2
          exact NB.of (by rw [bd_tape]; decide) (Nat.zero_le _) h37
        · exact (h.at_bd hj).congr (ne j hj.1 a1 a2 hj.2.1)) pn' hh
    by_cases c : (treG (tapF S) (sn S 37)).1 = true ∧ (treG (tapF S) (sn S 37)).2.1 = sn S 37
    · rw [if_pos c] at h2
      obtain ⟨h33, h38, hst⟩ := h2
      obtain ⟨-, tg2, -, tg4, tg5, tg6, tg7⟩ := treG_p (tapF S) (sn S 37)
      have tl := tg6 c.1
      have ok := tg7 c.1 [] rfl
      rw [List.append_nil] at ok
      have s38 : sn U 38 = sn S 33 := sn_of (by omega) h38
      have s33 : sn U 33 = sn S 33 + 1 := sn_of (by omega) h33
      refine key (NB.of (by omega) (show sn S 33 + 1 ≤ 5 by omega) h33) (Or.inr ?_)
      rw [s38, s33, hst.2.2.stL (by omega)]
      exact ⟨NB.of (by omega) (show sn S 33 ≤ 4 by omega) h38, by omega, NB.of (by omega) tg4 hst.1, NB.of (by omega) tg5 hst.2.1, NB.of (by omega) (by omega) hst.2.2.1, ok⟩
    · rw [if_neg c] at h2
      obtain ⟨h33, h38⟩ := h2
      refine key (h.tre.congr h33) ?_
      have hh := h.hold
      have s38 : sn U 38 = sn S 38 := sn_congr h38
      have s33 : sn U 33 = sn S 33 := sn_congr h33
      have z := (tra_tells h (by omega) hT h38).2.2
      unfold HoldOK at hh ⊢
      rw [h38, s38, s33]
      rcases hh with hh | ⟨a1, a2, a3, a4, a5, a6⟩
      · exact Or.inl hh
      · have nn : ¬ S 38 = -1 := fun q => nI_no a1.lt (a1.eq.symm.trans q)
        have b := a1.le
        unfold hlL at z
        rw [h38, if_neg nn, if_neg nn, s38] at z
        rw [z]
        exact Or.inr ⟨a1.congr h38, a2, a3.congr (hT _ (by omega) (by omega) (by omega) (by omega) (by omega) (by omega) (by omega)), a4.congr (hT _ (by omega) (by omega) (by omega) (by omega) (by omega) (by omega) (by omega)), a5.congr (hT _ (by omega) (by omega) (by omega) (by omega) (by omega) (by omega) (by omega)), a6⟩
end KEEPs
