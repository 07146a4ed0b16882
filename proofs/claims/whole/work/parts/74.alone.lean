/-! what each call leaves alone of s -/
section ALONEs
variable {S : Nat → Int32} {D E j : Nat}
theorem feedT_ne (h : WF S D E) (x : Int32) (h1 : j ≠ 37) (h2 : j < 122 ∨ 222 ≤ j) : feedT S x j = S j := by
  have b := h.tape.le
  unfold feedT
  split
  · split
    · rfl
    · rw [upd_ne _ _ h1, upd_ne _ _ (by omega)]
  · rfl
theorem saltT_ne (k x : Int32) (h1 : j < 2 ∨ 8 ≤ j) : saltT S k x j = S j := by
  unfold saltT
  split
  · next c =>
    split
    · obtain ⟨k, hk, rfl⟩ := inN (m := 5) (by omega) c
      rw [pn_nI (by omega), upd_ne _ _ (by omega)]
    · rfl
  · rfl
theorem roofT_ne (k b : Int32) (h1 : j < 8 ∨ 14 ≤ j) : roofT S k b j = S j := by
  unfold roofT
  split
  · next c =>
    obtain ⟨k, hk, rfl⟩ := inN (m := 5) (by omega) c
    rw [pn_nI (by omega), upd_ne _ _ (by omega)]
  · rfl
theorem rowT_ne (h : WF S D E) (p k n : Int32) (h1 : j < 51 ∨ 75 ≤ j) : rowT S p k n j = S j := by
  have b := h.peo.le
  unfold rowT
  split
  · next c =>
    obtain ⟨p, hp, rfl⟩ := isP h c.1
    obtain ⟨k, hk, rfl⟩ := inN (m := 3) (by omega) c.2
    rw [pn_nI (k := p) (by omega), pn_nI (k := k) (by omega)]
    split
    · split
      · rw [upd_ne _ _ (by omega)]
      · rfl
    · rfl
  · rfl
theorem setT_ne (h : WF S D E) (p w n : Int32) (h1 : j < 14 ∨ 26 ≤ j) : setT S p w n j = S j := by
  have b := h.peo.le
  unfold setT
  by_cases c : (nI 0 ≤ p ∧ p ≤ S 32 - nI 1) ∧ nI 0 ≤ w ∧ w ≤ nI 1
  · rw [if_pos c]
    obtain ⟨p, hp, rfl⟩ := isP h c.1
    obtain ⟨w, hw, rfl⟩ := inN (m := 1) (by omega) c.2
    rw [pn_nI (k := p) (by omega), pn_nI (k := w) (by omega)]
    by_cases c2 : nI 0 ≤ n ∧ n ≤ (if nI w = nI 0 then nI 5 else nI 99)
    · rw [if_pos c2, upd_ne _ _ (by omega)]
    · rw [if_neg c2]
  · rw [if_neg c]
theorem seeT_ne (h : WF S D E) (k x n : Int32) (h1 : j ≠ 34) (h2 : j < 75 ∨ 90 ≤ j) : seeT S k x n j = S j := by
  have b := h.seen.le
  unfold seeT
  split
  · rw [upd_ne _ _ h1]
  · split
    · split
      · split
        · rfl
        · rw [upd_ne _ _ h1, upd_ne _ _ (by omega), upd_ne _ _ (by omega), upd_ne _ _ (by omega)]
      · rfl
    · rfl
theorem bookT_ne (h : WF S D E) (k x : Int32) (h1 : j ≠ 36) (h2 : j < 106 ∨ 122 ≤ j) : bookT S k x j = S j := by
  have b := h.book.le
  unfold bookT
  split
  · rw [upd_ne _ _ h1]
  · split
    · split
      · split
        · rfl
        · rw [upd_ne _ _ h1, upd_ne _ _ (by omega), upd_ne _ _ (by omega)]
      · rfl
    · rfl
theorem planT_ne (h : WF S D E) (w n : Int32) (h1 : j ≠ 35) (h2 : j < 90 ∨ 106 ≤ j) : planT S w n j = S j := by
  have b := h.plan.le
  unfold planT
  split
  · rw [upd_ne _ _ h1]
  · split
    · rfl
    · split
      · rfl
      · rw [upd_ne _ _ h1, upd_ne _ _ (by omega), upd_ne _ _ (by omega)]
theorem personT_ne (h : WF S D E) (k v s : Int32) (h1 : j ≠ 32) (h2 : j < 14 ∨ 75 ≤ j ∨ (32 ≤ j ∧ j < 39)) : personT S k v s j = S j := by
  have b := h.peo.le
  unfold personT
  split
  · split
    · split
      · rfl
      · exact com_ne (by omega) (by omega) (by omega) (by omega) (by omega) (by omega) h1
    · rfl
  · rfl
theorem passT_ne (h : WF S 9999 9999) (x : Int32) (h1 : 32 ≤ j) : passT S x j = S j := by
  unfold passT
  split
  · next c =>
    obtain ⟨n, hn, rfl⟩ := inN (m := 60) (by omega) c
    rw [pn_nI (by omega)]
    split
    · exact (pasF_wf h (by omega) (by omega) n (by omega)).2 j h1
    · rfl
  · rfl
end ALONEs
