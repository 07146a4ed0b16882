/-! WHAT IS READ OF THE TAPE: both programs read it as this does. t: the signs, e: how many -/
/-- the sign at p, -1 behind the last -/
def hrF (t : Nat → Int32) (e p : Nat) : Int32 := if p < e then t p else -1
theorem hr_lt {t : Nat → Int32} {e p c : Nat} (hc : c < 2 ^ 31) (h : hrF t e p = nI c) : p < e ∧ t p = nI c := by
  unfold hrF at h
  by_cases q : p < e
  · rw [if_pos q] at h; exact ⟨q, h⟩
  · rw [if_neg q] at h; exact absurd h (ne_nI hc (by decide))
/-- the first j from j on, of f places, where String constant k has x -/
def fndF (k : Nat) (x : Int32) : Nat → Nat → Option Nat
  | 0, _ => none
  | f + 1, j => if x = chF k j then some j else fndF k x f (j + 1)
theorem fndF_le {k : Nat} {x : Int32} : ∀ {f j i : Nat}, fndF k x f j = some i → j ≤ i ∧ i < j + f ∧ x = chF k i
  | 0, _, _, h => by cases h
  | f + 1, j, i, h => by
    rw [fndF] at h
    split at h
    · next c => injection h with h; subst h; exact ⟨Nat.le_refl _, by omega, c⟩
    · obtain ⟨a, b, c⟩ := fndF_le h
      exact ⟨by omega, by omega, c⟩
/-- is it a figure, and which -/
abbrev dgF (t : Nat → Int32) (e p : Nat) : Prop := nI 48 ≤ hrF t e p ∧ hrF t e p ≤ nI 57
def dvF (t : Nat → Int32) (e p : Nat) : Nat := (hrF t e p - nI 48).toNatClampNeg
/-- a number: is it one, where it is over, its value -/
def numF (t : Nat → Int32) (e p : Nat) : Bool × Nat × Nat := if dgF t e p then (if dvF t e p = 0 then (true, p + 1, 0) else if dgF t e (p + 1) then (true, p + 2, 10 * dvF t e p + dvF t e (p + 1)) else (true, p + 1, dvF t e p)) else (false, p, 0)
theorem dg_lt {t : Nat → Int32} {e p : Nat} (h : dgF t e p) : p < e ∧ hrF t e p = nI (48 + dvF t e p) ∧ dvF t e p ≤ 9 := by
  have hp : p < e := by
    by_cases q : p < e
    · exact q
    · have h1 := h.1
      rw [hrF, if_neg q] at h1
      exact absurd h1 (by decide)
  obtain ⟨k, hk, ek⟩ := inN (m := 57) (by omega) ⟨Int32.le_trans (by decide) h.1, h.2⟩
  have h48 : 48 ≤ k := by
    have h1 := h.1
    rw [ek, Int32.le_iff_toInt_le, nI_toInt (by omega), nI_toInt (by omega)] at h1
    omega
  have hv : dvF t e p = k - 48 := by
    unfold dvF
    rw [ek, pk_sub h48, nI_clamp (by omega)]
  exact ⟨hp, by rw [ek, hv]; exact congrArg nI (by omega), by omega⟩
theorem numF_p {t : Nat → Int32} {e p : Nat} (hp : p ≤ e) : p ≤ (numF t e p).2.1 ∧ (numF t e p).2.1 ≤ e ∧ ((numF t e p).1 = true → p < (numF t e p).2.1) ∧ (numF t e p).2.2 ≤ 99 := by
  unfold numF
  split
  · next h =>
    obtain ⟨h1, -, h3⟩ := dg_lt h
    split
    · exact ⟨by simp only; omega, by simp only; omega, fun _ => by simp only; omega, by simp only; omega⟩
    · split
      · next g =>
        obtain ⟨g1, -, g3⟩ := dg_lt g
        exact ⟨by simp only; omega, by simp only; omega, fun _ => by simp only; omega, by simp only; omega⟩
      · exact ⟨by simp only; omega, by simp only; omega, fun _ => by simp only; omega, by simp only; omega⟩
  · exact ⟨Nat.le_refl _, hp, (fun h => by cases h), Nat.zero_le _⟩
/-- what a part of E is: is it one, where it is over or wrong, its steps -/
abbrev RE : Type := Bool × Nat × List Int32
def tstF (t : Nat → Int32) (e p : Nat) : RE :=
  match fndF 6 (hrF t e p) 6 0 with
  | none => (false, p, [])
  | some w => match fndF 7 (hrF t e (p + 1)) 3 0 with
    | none => (false, p + 1, [])
    | some h => ((numF t e (p + 2)).1, (numF t e (p + 2)).2.1, if (numF t e (p + 2)).1 = true then [nI (w + 8 * h + 32 * (numF t e (p + 2)).2.2)] else [])
/-- one after another, with sign c between -/
def loopF (t : Nat → Int32) (e : Nat) (fac : Nat → RE) (c : Nat) (code : Int32) : Nat → RE → RE
  | 0, r => r
  | n + 1, r => if r.1 = true ∧ hrF t e r.2.1 = nI c then loopF t e fac c code n ((fac (r.2.1 + 1)).1, (fac (r.2.1 + 1)).2.1, r.2.2 ++ ((fac (r.2.1 + 1)).2.2 ++ (if (fac (r.2.1 + 1)).1 = true then [code] else []))) else r
def evrF (t : Nat → Int32) (e : Nat) (fac : Nat → RE) (p : Nat) : RE := loopF t e fac 38 (-2) 101 (fac p)
def somF (t : Nat → Int32) (e : Nat) (fac : Nat → RE) (p : Nat) : RE := loopF t e (evrF t e fac) 124 (-3) 101 (evrF t e fac p)
/-- a factor where d more may be open -/
def facD (t : Nat → Int32) (e : Nat) : Nat → Nat → RE
  | 0, p => tstF t e p
  | d + 1, p => if hrF t e p = nI 33 then ((facD t e d (p + 1)).1, (facD t e d (p + 1)).2.1, (facD t e d (p + 1)).2.2 ++ (if (facD t e d (p + 1)).1 = true then [-1] else []))
    else if hrF t e p = nI 40 then (if (somF t e (facD t e d) (p + 1)).1 = true ∧ hrF t e (somF t e (facD t e d) (p + 1)).2.1 = nI 41 then (true, (somF t e (facD t e d) (p + 1)).2.1 + 1, (somF t e (facD t e d) (p + 1)).2.2) else (false, (somF t e (facD t e d) (p + 1)).2.1, (somF t e (facD t e d) (p + 1)).2.2))
    else tstF t e p
/-- how far a part of E goes -/
def Fgo (e p : Nat) (r : RE) : Prop := p ≤ r.2.1 ∧ r.2.1 ≤ e ∧ (r.1 = true → p < r.2.1) ∧ p + r.2.2.length ≤ r.2.1
theorem tstF_p {t : Nat → Int32} {e p : Nat} (hp : p ≤ e) : Fgo e p (tstF t e p) := by
  unfold tstF
  split
  · exact ⟨Nat.le_refl _, hp, (fun h => by cases h), Nat.le_refl _⟩
  · next w hw =>
    have h1 := hr_lt (t := t) (e := e) (p := p) (c := ((hrF t e p).toNatClampNeg)) (by
      have := (fndF_le hw).2.2
      have h2 := (fndF_le hw).2.1
      rw [this]
      have key : ∀ i, i < 6 → (chF 6 i).toNatClampNeg < 2 ^ 31 := by decide +kernel
      exact key _ (by omega)) (by
      have := (fndF_le hw).2.2
      have h2 := (fndF_le hw).2.1
      rw [this]
      have key : ∀ i, i < 6 → chF 6 i = nI (chF 6 i).toNatClampNeg := by decide +kernel
      exact key _ (by omega))
    split
    · exact ⟨by simp only; omega, by simp only; omega, (fun h => by cases h), by simp only [List.length_nil]; omega⟩
    · next h hh =>
      have h2 := hr_lt (t := t) (e := e) (p := p + 1) (c := ((hrF t e (p + 1)).toNatClampNeg)) (by
        have := (fndF_le hh).2.2
        have h2 := (fndF_le hh).2.1
        rw [this]
        have key : ∀ i, i < 3 → (chF 7 i).toNatClampNeg < 2 ^ 31 := by decide +kernel
        exact key _ (by omega)) (by
        have := (fndF_le hh).2.2
        have h2 := (fndF_le hh).2.1
        rw [this]
        have key : ∀ i, i < 3 → chF 7 i = nI (chF 7 i).toNatClampNeg := by decide +kernel
        exact key _ (by omega))
      obtain ⟨n1, n2, n3, n4⟩ := numF_p (t := t) (e := e) (p := p + 2) (by omega)
      refine ⟨by simp only; omega, n2, fun q => by simp only; omega, ?_⟩
      simp only
      split
      · simp only [List.length_cons, List.length_nil]; omega
      · simp only [List.length_nil]; omega
theorem loopF_p {t : Nat → Int32} {e c : Nat} {code : Int32} {fac : Nat → RE} (hc : c < 2 ^ 31) (hf : ∀ p, p ≤ e → Fgo e p (fac p)) {p : Nat} : ∀ (n : Nat) (r : RE), Fgo e p r → Fgo e p (loopF t e fac c code n r)
  | 0, r, h => h
  | n + 1, r, h => by
    rw [loopF]
    split
    · next q =>
      obtain ⟨h1, h2, h3, h4⟩ := h
      have hl := (hr_lt hc q.2).1
      obtain ⟨g1, g2, g3, g4⟩ := hf (r.2.1 + 1) (by omega)
      refine loopF_p hc hf n _ ⟨by simp only; omega, g2, fun _ => by simp only; omega, ?_⟩
      simp only [List.length_append]
      split
      · simp only [List.length_cons, List.length_nil]; omega
      · simp only [List.length_nil]; omega
    · exact h
theorem evrF_p {t : Nat → Int32} {e : Nat} {fac : Nat → RE} (hf : ∀ p, p ≤ e → Fgo e p (fac p)) {p : Nat} (hp : p ≤ e) : Fgo e p (evrF t e fac p) := loopF_p (by decide) hf _ _ (hf p hp)
theorem somF_p {t : Nat → Int32} {e : Nat} {fac : Nat → RE} (hf : ∀ p, p ≤ e → Fgo e p (fac p)) {p : Nat} (hp : p ≤ e) : Fgo e p (somF t e fac p) := loopF_p (by decide) (fun _ h => evrF_p hf h) _ _ (evrF_p hf hp)
theorem facD_p {t : Nat → Int32} {e : Nat} : ∀ (d : Nat) {p : Nat}, p ≤ e → Fgo e p (facD t e d p)
  | 0, p, hp => tstF_p hp
  | d + 1, p, hp => by
    rw [facD]
    split
    · next q =>
      have hl := (hr_lt (by decide) q).1
      obtain ⟨g1, g2, g3, g4⟩ := facD_p (t := t) (e := e) d (p := p + 1) (by omega)
      refine ⟨by simp only; omega, g2, fun _ => by simp only; omega, ?_⟩
      simp only [List.length_append]
      split
      · simp only [List.length_cons, List.length_nil]; omega
      · simp only [List.length_nil]; omega
    · split
      · next q =>
        have hl := (hr_lt (by decide) q).1
        obtain ⟨g1, g2, g3, g4⟩ := somF_p (t := t) (fac := facD t e d) (fun p hp => facD_p d hp) (p := p + 1) (by omega)
        split
        · next z =>
          have hz := (hr_lt (by decide) z.2).1
          exact ⟨by simp only; omega, by simp only; omega, fun _ => by simp only; omega, by simp only; omega⟩
        · exact ⟨by simp only; omega, g2, (fun h => by cases h), by simp only; omega⟩
      · exact tstF_p hp
