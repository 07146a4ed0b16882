/-! who comes, whose v is tried: what a Moor holds then -/
/-- what the TREATY that holds hangs on is the same -/
def Tl (S S' : Nat → Int32) : Prop := S' 38 = S 38 ∧ ∀ j, 222 ≤ j → S' j = S j
section TLs
variable {S S' : Nat → Int32}
theorem Tl.tell (h : Tl S S') (w : Nat) (hw : 222 ≤ w) (x : Int32) : tellF S' w x = tellF S w x := by
  unfold tellF
  rw [h.1, show sn S' 38 = sn S 38 from sn_congr h.1, h.2 (w + sn S 38) (by omega)]
theorem Tl.rain (h : Tl S S') : rainF S' = rainF S := h.tell 222 (by omega) _
theorem Tl.need (h : Tl S S') : needF S' = needF S := by
  unfold needF
  rw [h.tell 227 (by omega)]
theorem Tl.hll (h : Tl S S') : hlL S' = hlL S := by
  unfold hlL
  rw [h.1, show sn S' 38 = sn S 38 from sn_congr h.1]
  split
  · rfl
  · unfold stL
    rw [show sn S' (232 + sn S 38) = sn S (232 + sn S 38) from sn_congr (h.2 _ (by omega))]
    exact List.map_congr_left fun i _ => h.2 _ (by omega)
end TLs
section COMs
variable {S : Nat → Int32} {p : Nat} {k v s : Int32}
theorem com_pe : comesF S p k v s 32 = nI (p + 1) := upd_eq _ _ _
theorem com_ne {j : Nat} (h1 : j ≠ 39 + p) (h2 : j ≠ 45 + p) (h3 : j ≠ 14 + p) (h4 : j ≠ 20 + p) (h5 : j ≠ 26 + p) (h6 : j < 51 + 4 * p ∨ 51 + 4 * p + 3 < j) (h7 : j ≠ 32) : comesF S p k v s j = S j := by
  unfold comesF
  rw [upd_ne _ _ h7, upd_ne _ _ (by omega), upd_ne _ _ (by omega), upd_ne _ _ (by omega), upd_ne _ _ (by omega), upd_ne _ _ h5, upd_ne _ _ h4, upd_ne _ _ h3, upd_ne _ _ h2, upd_ne _ _ h1]
theorem com_k (hp : p < 6) : comesF S p k v s (39 + p) = k := by
  unfold comesF
  rw [upd_ne _ _ (by omega), upd_ne _ _ (by omega), upd_ne _ _ (by omega), upd_ne _ _ (by omega), upd_ne _ _ (by omega), upd_ne _ _ (by omega), upd_ne _ _ (by omega), upd_ne _ _ (by omega), upd_ne _ _ (by omega), upd_eq]
theorem com_v (hp : p < 6) : comesF S p k v s (45 + p) = v := by
  unfold comesF
  rw [upd_ne _ _ (by omega), upd_ne _ _ (by omega), upd_ne _ _ (by omega), upd_ne _ _ (by omega), upd_ne _ _ (by omega), upd_ne _ _ (by omega), upd_ne _ _ (by omega), upd_ne _ _ (by omega), upd_eq]
end COMs
section MOs
variable {G : GG} {ro : va_W} {tr t : Nat} {S : Nat → Int32} {os : Nat → Option Nat}
theorem up_eq (os : Nat → Option Nat) (p : Nat) (x : Option Nat) : va_up os p x p = x := if_pos rfl
theorem up_ne (os : Nat → Option Nat) {p j : Nat} (x : Option Nat) (h : j ≠ p) : va_up os p x j = os j := if_neg h
theorem MoOK.comes {q k v sd : Nat} (h : MoOK G ro tr S os t) (h6 : sn S 32 < 6) (hk : k ≤ 6) (hv : v ≤ 9) (hq : PeO ro tr q k (sn S 32) v) : MoOK G ro tr (comesF S (sn S 32) (nI k) (nI v) (nI sd)) (va_up os (sn S 32) (some q)) t := by
  obtain ⟨h1, h2, h3⟩ := h
  have ht : Tl S (comesF S (sn S 32) (nI k) (nI v) (nI sd)) := ⟨com_ne (by omega) (by omega) (by omega) (by omega) (by omega) (by omega) (by omega), fun j hj => com_ne (by omega) (by omega) (by omega) (by omega) (by omega) (by omega) (by omega)⟩
  have e32 : sn (comesF S (sn S 32) (nI k) (nI v) (nI sd)) 32 = sn S 32 + 1 := sn_of (by omega) com_pe
  refine ⟨fun p hp => ?_, fun p hp => ?_, ?_⟩
  · rw [e32] at hp
    by_cases c : p = sn S 32
    · subst c
      refine ⟨q, up_eq _ _ _, ?_⟩
      rw [show sn (comesF S (sn S 32) (nI k) (nI v) (nI sd)) (39 + sn S 32) = k from sn_of (by omega) (com_k h6), show sn (comesF S (sn S 32) (nI k) (nI v) (nI sd)) (45 + sn S 32) = v from sn_of (by omega) (com_v h6)]
      exact hq
    · obtain ⟨r, e, m⟩ := h1 p (by omega)
      refine ⟨r, (up_ne _ _ c).trans e, ?_⟩
      rw [show sn (comesF S (sn S 32) (nI k) (nI v) (nI sd)) (39 + p) = sn S (39 + p) from sn_congr (com_ne (by omega) (by omega) (by omega) (by omega) (by omega) (by omega) (by omega)), show sn (comesF S (sn S 32) (nI k) (nI v) (nI sd)) (45 + p) = sn S (45 + p) from sn_congr (com_ne (by omega) (by omega) (by omega) (by omega) (by omega) (by omega) (by omega))]
      exact m
  · by_cases c : p = sn S 32
    · subst c
      exact ⟨q, _, _, up_eq _ _ _, hq, kci_pe hk⟩
    · obtain ⟨r, ci, fs, e, m, i⟩ := h2 p hp
      exact ⟨r, ci, fs, (up_ne _ _ c).trans e, m, i⟩
  · rw [ht.rain, ht.need, ht.hll]
    exact h3
theorem MoOK.setv {q v p D E : Nat} (h : MoOK G ro tr S os t) (hW : WF S D E) (hp : p < sn S 32) (hv : v ≤ 9) (hq : PeO ro tr q (sn S (39 + p)) p v) : MoOK G ro tr (upd S (45 + p) (nI v)) (va_up os p (some q)) t := by
  obtain ⟨h1, h2, h3⟩ := h
  have h6 := hW.peo.le
  have hk := (hW.kind p (by omega)).le
  have ht : Tl S (upd S (45 + p) (nI v)) := ⟨upd_ne _ _ (by omega), fun j hj => upd_ne _ _ (by omega)⟩
  have e32 : sn (upd S (45 + p) (nI v)) 32 = sn S 32 := sn_congr (upd_ne _ _ (by omega))
  refine ⟨fun j hj => ?_, fun j hj => ?_, ?_⟩
  · rw [e32] at hj
    rw [show sn (upd S (45 + p) (nI v)) (39 + j) = sn S (39 + j) from sn_congr (upd_ne _ _ (by omega))]
    by_cases c : j = p
    · subst c
      refine ⟨q, up_eq _ _ _, ?_⟩
      rw [show sn (upd S (45 + j) (nI v)) (45 + j) = v from sn_of (by omega) (upd_eq _ _ _)]
      exact hq
    · obtain ⟨r, e, m⟩ := h1 j hj
      refine ⟨r, (up_ne _ _ c).trans e, ?_⟩
      rw [show sn (upd S (45 + p) (nI v)) (45 + j) = sn S (45 + j) from sn_congr (upd_ne _ _ (by omega))]
      exact m
  · by_cases c : j = p
    · subst c
      exact ⟨q, _, _, up_eq _ _ _, hq, kci_pe hk⟩
    · obtain ⟨r, ci, fs, e, m, i⟩ := h2 j hj
      exact ⟨r, ci, fs, (up_ne _ _ c).trans e, m, i⟩
  · rw [ht.rain, ht.need, ht.hll]
    exact h3
end MOs
