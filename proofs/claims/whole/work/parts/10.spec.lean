/-! WHAT THE REFERENCE'S ARRAY s HOLDS: numbers in bounds -/
def sn (S : Nat → Int32) (i : Nat) : Nat := (S i).toNatClampNeg
/-- place i of S is a natural, m at most -/
def NB (S : Nat → Int32) (i m : Nat) : Prop := m < 2 ^ 31 ∧ ∃ k, k ≤ m ∧ S i = nI k
theorem NB.eq {S : Nat → Int32} {i m : Nat} (h : NB S i m) : S i = nI (sn S i) := by
  obtain ⟨hm, k, hk, e⟩ := h
  unfold sn
  rw [e, nI_clamp (by omega)]
theorem NB.le {S : Nat → Int32} {i m : Nat} (h : NB S i m) : sn S i ≤ m := by
  obtain ⟨hm, k, hk, e⟩ := h
  unfold sn
  rw [e, nI_clamp (by omega)]
  exact hk
theorem NB.lt {S : Nat → Int32} {i m : Nat} (h : NB S i m) : sn S i < 2 ^ 31 := Nat.lt_of_le_of_lt h.le h.1
theorem NB.of {S : Nat → Int32} {i m k : Nat} (hm : m < 2 ^ 31) (hk : k ≤ m) (h : S i = nI k) : NB S i m := ⟨hm, k, hk, h⟩
theorem NB.mono {S : Nat → Int32} {i m m' : Nat} (h : NB S i m) (hm : m ≤ m') (h2 : m' < 2 ^ 31) : NB S i m' := ⟨h2, _, Nat.le_trans h.le hm, h.eq⟩
theorem NB.congr {S S' : Nat → Int32} {i j m : Nat} (h : NB S i m) (e : S' j = S i) : NB S' j m := ⟨h.1, _, h.le, e.trans h.eq⟩
theorem sn_of {S : Nat → Int32} {i k : Nat} (hk : k < 2 ^ 31) (h : S i = nI k) : sn S i = k := by
  unfold sn
  rw [h, nI_clamp hk]
theorem sn_congr {S S' : Nat → Int32} {i j : Nat} (e : S' j = S i) : sn S' j = sn S i := by
  unfold sn
  rw [e]
theorem nI_inj {a b : Nat} (ha : a < 2 ^ 31) (hb : b < 2 ^ 31) (h : nI a = nI b) : a = b := (nI_eq ha hb).mp h
/-! a TREATY's steps: what they do to a stack of truths -/
/-- the steps of slot h -/
def stL (S : Nat → Int32) (h : Nat) : List Int32 := (List.range (sn S (232 + h))).map (fun i => S (237 + 140 * h + i))
/-- steps that never take from an empty stack, never have more than 20 truths, and judge with just one -/
def okD : List Int32 → Nat → Prop
  | [], d => d = 0
  | s :: l, d => (0 ≤ s ∧ d < 20 ∧ s.toNatClampNeg % 8 < 6 ∧ s.toNatClampNeg / 8 % 4 < 3 ∧ s.toNatClampNeg / 32 < 100 ∧ okD l (d + 1)) ∨ (s = -1 ∧ 1 ≤ d ∧ okD l d) ∨ ((s = -2 ∨ s = -3) ∧ 2 ≤ d ∧ okD l (d - 1)) ∨ ((∃ n, n < 100 ∧ (s = -10 - nI n ∨ s = -200 - nI n)) ∧ d = 1 ∧ okD l 0)
/-- which TREATY holds -/
def HoldOK (S : Nat → Int32) : Prop := S 38 = -1 ∨ (NB S 38 4 ∧ sn S 38 < sn S 33 ∧ NB S (222 + sn S 38) 99 ∧ NB S (227 + sn S 38) 99 ∧ NB S (232 + sn S 38) 100 ∧ okD (stL S (sn S 38)) 0)
/-- all that s holds; DAY is D at most, EATEN E at most -/
def WF (S : Nat → Int32) (D E : Nat) : Prop := NB S 0 D ∧ NB S 1 1 ∧ (∀ k, k < 6 → NB S (2 + k) 999) ∧ (∀ k, k < 6 → NB S (8 + k) 1) ∧ (∀ p, p < 6 → NB S (14 + p) 5) ∧ (∀ p, p < 6 → NB S (20 + p) 99) ∧ (∀ p, p < 6 → NB S (26 + p) E) ∧ NB S 32 6 ∧ NB S 33 5 ∧ NB S 34 5 ∧ NB S 35 8 ∧ NB S 36 8 ∧ NB S 37 100 ∧ (∀ p, p < 6 → NB S (39 + p) 6) ∧ (∀ p, p < 6 → NB S (45 + p) 9) ∧ (∀ j, j < 24 → NB S (51 + j) 9) ∧ (∀ k, k < 5 → NB S (75 + k) 5 ∧ NB S (80 + k) 999 ∧ NB S (85 + k) 20) ∧ (∀ k, k < 8 → NB S (90 + k) 3) ∧ (∀ k, k < 8 → (S (90 + k) = nI 1 ∨ S (90 + k) = nI 2 → NB S (98 + k) 5) ∧ (S (90 + k) = nI 3 → k < sn S 35 → NB S (98 + k) 5 ∧ sn S (98 + k) < sn S 32)) ∧ (∀ k, k < 8 → NB S (106 + k) 5 ∧ NB S (114 + k) 999) ∧ (∀ j, j < 100 → NB S (122 + j) 127) ∧ HoldOK S
section WFs
variable {S : Nat → Int32} {D E : Nat}
theorem WF.day (h : WF S D E) : NB S 0 D := h.1
theorem WF.war (h : WF S D E) : NB S 1 1 := h.2.1
theorem WF.salt (h : WF S D E) (k : Nat) (hk : k < 6) : NB S (2 + k) 999 := h.2.2.1 k hk
theorem WF.roof (h : WF S D E) (k : Nat) (hk : k < 6) : NB S (8 + k) 1 := h.2.2.2.1 k hk
theorem WF.side (h : WF S D E) (k : Nat) (hk : k < 6) : NB S (14 + k) 5 := h.2.2.2.2.1 k hk
theorem WF.grudge (h : WF S D E) (k : Nat) (hk : k < 6) : NB S (20 + k) 99 := h.2.2.2.2.2.1 k hk
theorem WF.eaten (h : WF S D E) (k : Nat) (hk : k < 6) : NB S (26 + k) E := h.2.2.2.2.2.2.1 k hk
theorem WF.peo (h : WF S D E) : NB S 32 6 := h.2.2.2.2.2.2.2.1
theorem WF.tre (h : WF S D E) : NB S 33 5 := h.2.2.2.2.2.2.2.2.1
theorem WF.seen (h : WF S D E) : NB S 34 5 := h.2.2.2.2.2.2.2.2.2.1
theorem WF.plan (h : WF S D E) : NB S 35 8 := h.2.2.2.2.2.2.2.2.2.2.1
theorem WF.book (h : WF S D E) : NB S 36 8 := h.2.2.2.2.2.2.2.2.2.2.2.1
theorem WF.tape (h : WF S D E) : NB S 37 100 := h.2.2.2.2.2.2.2.2.2.2.2.2.1
theorem WF.kind (h : WF S D E) (k : Nat) (hk : k < 6) : NB S (39 + k) 6 := h.2.2.2.2.2.2.2.2.2.2.2.2.2.1 k hk
theorem WF.v (h : WF S D E) (k : Nat) (hk : k < 6) : NB S (45 + k) 9 := h.2.2.2.2.2.2.2.2.2.2.2.2.2.2.1 k hk
theorem WF.row (h : WF S D E) (k : Nat) (hk : k < 24) : NB S (51 + k) 9 := h.2.2.2.2.2.2.2.2.2.2.2.2.2.2.2.1 k hk
theorem WF.sside (h : WF S D E) (k : Nat) (hk : k < 5) : NB S (75 + k) 5 := (h.2.2.2.2.2.2.2.2.2.2.2.2.2.2.2.2.1 k hk).1
theorem WF.ssalt (h : WF S D E) (k : Nat) (hk : k < 5) : NB S (80 + k) 999 := (h.2.2.2.2.2.2.2.2.2.2.2.2.2.2.2.2.1 k hk).2.1
theorem WF.sdays (h : WF S D E) (k : Nat) (hk : k < 5) : NB S (85 + k) 20 := (h.2.2.2.2.2.2.2.2.2.2.2.2.2.2.2.2.1 k hk).2.2
theorem WF.pwhat (h : WF S D E) (k : Nat) (hk : k < 8) : NB S (90 + k) 3 := h.2.2.2.2.2.2.2.2.2.2.2.2.2.2.2.2.2.1 k hk
theorem WF.pnum (h : WF S D E) (k : Nat) (hk : k < 8) : (S (90 + k) = nI 1 ∨ S (90 + k) = nI 2 → NB S (98 + k) 5) ∧ (S (90 + k) = nI 3 → k < sn S 35 → NB S (98 + k) 5 ∧ sn S (98 + k) < sn S 32) := h.2.2.2.2.2.2.2.2.2.2.2.2.2.2.2.2.2.2.1 k hk
theorem WF.bside (h : WF S D E) (k : Nat) (hk : k < 8) : NB S (106 + k) 5 := (h.2.2.2.2.2.2.2.2.2.2.2.2.2.2.2.2.2.2.2.1 k hk).1
theorem WF.bsalt (h : WF S D E) (k : Nat) (hk : k < 8) : NB S (114 + k) 999 := (h.2.2.2.2.2.2.2.2.2.2.2.2.2.2.2.2.2.2.2.1 k hk).2
theorem WF.sign (h : WF S D E) (k : Nat) (hk : k < 100) : NB S (122 + k) 127 := h.2.2.2.2.2.2.2.2.2.2.2.2.2.2.2.2.2.2.2.2.1 k hk
theorem WF.hold (h : WF S D E) : HoldOK S := h.2.2.2.2.2.2.2.2.2.2.2.2.2.2.2.2.2.2.2.2.2
end WFs
theorem upd_eq (f : Nat → Int32) (k : Nat) (x : Int32) : upd f k x k = x := if_pos rfl
theorem upd_ne (f : Nat → Int32) {k j : Nat} (x : Int32) (h : j ≠ k) : upd f k x j = f j := if_neg h
theorem sw_out {x : Int32} {lo hi : Int} (h : ∀ j : Int, lo ≤ j → j ≤ hi → x.toInt ≠ j) : x.toInt < lo ∨ hi < x.toInt := by
  by_cases h1 : x.toInt < lo
  · exact Or.inl h1
  · by_cases h2 : hi < x.toInt
    · exact Or.inr h2
    · exact absurd rfl (h x.toInt (by omega) (by omega))
/-! the parts of a call's answer -/
def tellF (S : Nat → Int32) (w : Nat) (none : Int32) : Int32 := if S 38 = -1 then none else S (w + sn S 38)
def rainF (S : Nat → Int32) : Int32 := tellF S 222 (nI 1)
def needF (S : Nat → Int32) : Int32 := if tellF S 227 (nI 2) < nI 1 then nI 1 else tellF S 227 (nI 2)
theorem tellF_nb {S : Nat → Int32} {D E : Nat} (h : WF S D E) : (∃ k, k ≤ 99 ∧ rainF S = nI k) ∧ (∃ k, 1 ≤ k ∧ k ≤ 99 ∧ needF S = nI k) := by
  have key : (∃ k, k ≤ 99 ∧ tellF S 222 (nI 1) = nI k) ∧ (∃ k, k ≤ 99 ∧ tellF S 227 (nI 2) = nI k) := by
    rcases h.hold with h1 | ⟨h1, h2, h3, h4, h5, h6⟩
    · exact ⟨⟨1, by omega, if_pos h1⟩, 2, by omega, if_pos h1⟩
    · have hne : ¬ S 38 = -1 := by
        rw [h1.eq]
        intro e
        have : (nI (sn S 38)).toInt = (-1 : Int32).toInt := by rw [e]
        rw [nI_toInt h1.lt] at this
        have e2 : (-1 : Int32).toInt = -1 := by decide
        omega
      exact ⟨⟨_, h3.le, (if_neg hne).trans h3.eq⟩, _, h4.le, (if_neg hne).trans h4.eq⟩
  refine ⟨key.1, ?_⟩
  obtain ⟨k, hk, e⟩ := key.2
  unfold needF
  rw [e]
  by_cases hz : nI k < nI 1
  · rw [if_pos hz]
    exact ⟨1, by omega, by omega, rfl⟩
  · rw [if_neg hz]
    refine ⟨k, ?_, hk, rfl⟩
    have : ¬ k < 1 := fun q => hz ((nI_ltI (a := k) (b := 1) (by omega) (by omega)).mpr q)
    omega
def rainN (S : Nat → Int32) : Nat := (rainF S).toNatClampNeg
def needN (S : Nat → Int32) : Nat := (needF S).toNatClampNeg
theorem rain_eq {S : Nat → Int32} {D E : Nat} (h : WF S D E) : rainF S = nI (rainN S) ∧ rainN S ≤ 99 := by
  obtain ⟨⟨k, hk, e⟩, -⟩ := tellF_nb h
  unfold rainN
  rw [e, nI_clamp (by omega)]
  exact ⟨rfl, hk⟩
theorem need_eq {S : Nat → Int32} {D E : Nat} (h : WF S D E) : needF S = nI (needN S) ∧ 1 ≤ needN S ∧ needN S ≤ 99 := by
  obtain ⟨-, ⟨k, h1, hk, e⟩⟩ := tellF_nb h
  unfold needN
  rw [e, nI_clamp (by omega)]
  exact ⟨rfl, h1, hk⟩
