/-! TAKEN AND SEEN: sets of SIDES, FILL, what was seen, plans and books -/
theorem s_l31 : ∀ n, n < 32 → ((nI n &&& 31).toBitVec.smod 32).toNat = n := by decide +kernel
theorem bit_at {n k : Nat} (hn : n < 2 ^ 31) (hk : k < 32) : (nI n >>> (nI k &&& 31)) &&& nI 1 = nI (n / 2 ^ k % 2) := by
  rw [pk_shrN hn _ k (s_l31 k hk), pk_andN (Nat.lt_of_le_of_lt (Nat.div_le_self _ _) (by omega)) 1 (by decide)]
/-- how many SIDES of the first k are in a set -/
def szF (x : Nat) : Nat → Nat
  | 0 => 0
  | k + 1 => szF x k + x / 2 ^ k % 2
theorem szF_le (x : Nat) : ∀ k, szF x k ≤ k
  | 0 => Nat.le_refl _
  | k + 1 => by
    have := szF_le x k
    rw [szF]
    omega
/-- what was taken at those SIDES -/
def atF (K : Nat → Int32) (x : Nat) : Nat → Int32
  | 0 => nI 0
  | k + 1 => atF K x k + (if x / 2 ^ k % 2 = 1 then K k else nI 0)
theorem atF_congr {K K' : Nat → Int32} (x : Nat) : ∀ n, (∀ k, k < n → K k = K' k) → atF K x n = atF K' x n
  | 0, _ => rfl
  | n + 1, h => by rw [atF, atF, atF_congr x n (fun k hk => h k (by omega)), h n (by omega)]
/-- what is taken at each SIDE on the next DAY -/
def tknF (S : Nat → Int32) : Nat → Int32 := taF (-1) (g1F S (sn S 32)) (sn S 32)
/-- the first best of n sets of k SIDES, and how much -/
def watF (S : Nat → Int32) (k : Nat) : Nat → Int32 × Int32
  | 0 => (nI 0, -1)
  | i + 1 => if szF i 6 = k ∧ (watF S k i).2 < atF (tknF S) i 6 then (nI i, atF (tknF S) i 6) else watF S k i
def watchR (S : Nat → Int32) (k w : Int32) : Int32 := if nI 0 ≤ w ∧ w ≤ nI 1 then if nI 1 ≤ k ∧ k ≤ nI 6 then (if w = nI 0 then (watF S (pn k) 64).1 else (watF S (pn k) 64).2) else -2 else -1
theorem watF_n {S : Nat → Int32} {k i : Nat} {a b : Int32} (h : watF S k i = (a, b)) (c : szF i 6 ≠ k) : watF S k (i + 1) = (a, b) := by
  rw [watF, if_neg (fun z => c z.1), h]
theorem watF_t {S : Nat → Int32} {k i : Nat} {a b : Int32} (h : watF S k i = (a, b)) (c : szF i 6 = k) (d : ¬ atF (tknF S) i 6 ≤ b) : watF S k (i + 1) = (nI i, atF (tknF S) i 6) := by
  rw [watF, h, if_pos ⟨c, Int32.not_le.mp d⟩]
theorem watF_f {S : Nat → Int32} {k i : Nat} {a b : Int32} (h : watF S k i = (a, b)) (d : atF (tknF S) i 6 ≤ b) : watF S k (i + 1) = (a, b) := by
  rw [watF, h, if_neg (fun z => Int32.not_lt.mpr d z.2)]
/-! the SALT of a SIDE never gets more by DAYS -/
theorem lk1_salt (mu : Int32) {S : Nat → Int32} {D E p j : Nat} (h : WF S D E) (hp : p < 6) (hj : j < 6) : sn (lk1 mu S p) (2 + j) ≤ sn S (2 + j) := by
  obtain ⟨k, -, k2, -, e⟩ := tkF_nb mu h hp
  have hs := (h.side p hp).le
  have hl := h.salt j hj
  have hll := hl.le
  by_cases c : j = sn S (14 + p)
  · have : lk1 mu S p (2 + j) = nI (sn S (2 + j) - k) := by
      rw [lk1, upd_ne _ _ (by omega), upd_ne _ _ (by omega), ← c, upd_eq, e, hl.eq, pk_sub (by rw [c]; exact k2)]
    rw [sn_of (by omega) this]
    exact Nat.sub_le _ _
  · have : lk1 mu S p (2 + j) = S (2 + j) := by
      rw [lk1, upd_ne _ _ (by omega), upd_ne _ _ (by omega), upd_ne _ _ (by omega)]
    rw [sn_congr this]
    exact Nat.le_refl _
theorem lkF_salt (mu : Int32) {S : Nat → Int32} {D E j : Nat} (h : WF S D E) (hj : j < 6) : ∀ i, i ≤ 6 → E + 28 * i < 2 ^ 31 → sn (lkF mu S i) (2 + j) ≤ sn S (2 + j) := by
  intro i
  induction i with
  | zero => intro _ _; exact Nat.le_refl _
  | succ i ih =>
    intro hi hE
    exact Nat.le_trans (lk1_salt mu (lkF_wf mu h i (by omega) (by omega)).1 (by omega) hj) (ih (by omega) (by omega))
theorem goF_salt (mu : Int32) {S : Nat → Int32} {D E j : Nat} (h : WF S D E) (hE : E + 168 < 2 ^ 31) (hj : j < 6) : sn (goF mu S) (2 + j) ≤ sn S (2 + j) := by
  have hn := h.peo.le
  have h1 := lkF_salt mu (g1F_wf h hn) hj _ hn (by omega)
  have e2 : g1F S (sn S 32) (2 + j) = S (2 + j) := if_neg (by omega)
  rw [sn_congr e2] at h1
  have ha := (alF_wf mu h hE).1
  obtain ⟨m, m1, -, em⟩ := rn1_nb ha hj
  have hl := ha.salt j hj
  have hll := hl.le
  have e1 : goF mu S (2 + j) = nI (sn (alF mu S) (2 + j) - m) := by
    rw [goF, wdF_ne _ (by omega), show rnF (alF mu S) 6 (2 + j) = alF mu S (2 + j) - rn1 (alF mu S) (2 + j - 2) from if_pos (by omega), show 2 + j - 2 = j by omega, em, hl.eq, pk_sub m1]
  rw [sn_of (by omega) e1]
  exact Nat.le_trans (Nat.sub_le _ _) h1
theorem gosF_salt (mu : Int32) {S : Nat → Int32} {D E j : Nat} (h : WF S D E) (hj : j < 6) {m : Nat} : ∀ n, m ≤ n → D + n < 2 ^ 31 → E + 168 * n < 2 ^ 31 → sn (gosF mu S n) (2 + j) ≤ sn (gosF mu S m) (2 + j) := by
  intro n
  induction n with
  | zero => intro hm _ _; obtain rfl : m = 0 := (by omega); exact Nat.le_refl _
  | succ n ih =>
    intro hm hD hE
    rcases Nat.lt_or_ge n m with c | c
    · obtain rfl : m = n + 1 := by omega
      exact Nat.le_refl _
    · exact Nat.le_trans (goF_salt mu (gosF_wf mu h n (by omega) (by omega)).1 (by omega) hj) (ih c (by omega) (by omega))
/-- salt is left at a SIDE behind n DAYS -/
abbrev leftF (S : Nat → Int32) (k n : Nat) : Prop := ¬ sn (gosF (-1) S n) (2 + k) = 0
/-- SALT with m more put to a SIDE -/
def moreF (S : Nat → Int32) (k m : Nat) : Nat → Int32 := upd S (2 + k) (nI (min 999 (sn S (2 + k) + m)))
def fillF (S : Nat → Int32) (k n : Nat) : Nat → Nat → Int32
  | 0, _ => -5
  | f + 1, m => if leftF (moreF S k m) k n then nI m else fillF S k n f (m + 10)
def fillR (S : Nat → Int32) (n k : Int32) : Int32 := if nI 0 ≤ k ∧ k ≤ nI 5 then if nI 1 ≤ n ∧ n ≤ nI 60 then fillF S (pn k) (pn n) 100 0 else -2 else -1
/-! SEEN -/
def seeR (S : Nat → Int32) (k x n : Int32) : Int32 := if k = -1 then nI 0 else if nI 0 ≤ k ∧ k ≤ nI 5 then if (nI 0 ≤ x ∧ x ≤ nI 999) ∧ nI 0 ≤ n ∧ n ≤ nI 20 then if sn S 34 = 5 then -4 else nI (sn S 34 + 1) else -2 else -1
def seeT (S : Nat → Int32) (k x n : Int32) : Nat → Int32 := if k = -1 then upd S 34 (nI 0) else if nI 0 ≤ k ∧ k ≤ nI 5 then if (nI 0 ≤ x ∧ x ≤ nI 999) ∧ nI 0 ≤ n ∧ n ≤ nI 20 then if sn S 34 = 5 then S else upd (upd (upd (upd S (75 + sn S 34) k) (80 + sn S 34) x) (85 + sn S 34) n) 34 (nI (sn S 34 + 1)) else S else S
/-- the first k of what was SEEN behind n DAYS is so -/
def seenF (S : Nat → Int32) (n : Nat) : Nat → Bool
  | 0 => true
  | k + 1 => seenF S n k && (!decide (sn S (85 + k) = n) || decide (sn S (2 + sn S (75 + k)) = sn S (80 + k)))
/-- all that was SEEN behind less than n DAYS is so -/
def allF (mu : Int32) (S : Nat → Int32) : Nat → Bool
  | 0 => true
  | n + 1 => allF mu S n && seenF (gosF mu S n) n (sn S 34)
theorem allF_f {mu : Int32} {S : Nat → Int32} {m : Nat} (h : ¬ allF mu S m = true) : ∀ n, m ≤ n → ¬ allF mu S n = true
  | 0, hm => by obtain rfl : m = 0 := by omega
                exact h
  | n + 1, hm => by
    rcases Nat.lt_or_ge n m with c | c
    · obtain rfl : m = n + 1 := by omega
      exact h
    · rw [allF]
      intro e
      exact allF_f h n c (Bool.and_eq_true_iff.mp e).1
abbrev asSeen (mu : Int32) (S : Nat → Int32) : Prop := allF mu S 21 = true
def whoF (S : Nat → Int32) : Nat → Int32
  | 0 => nI 0
  | i + 1 => whoF S i ||| (if asSeen (nI i) S then nI 1 <<< (nI i &&& 31) else nI 0)
def whrF (S : Nat → Int32) (p : Nat) : Nat → Int32
  | 0 => nI 0
  | i + 1 => whrF S p i ||| (if asSeen (-1) (upd S (14 + p) (nI i)) then nI 1 <<< (nI i &&& 31) else nI 0)
def whereR (S : Nat → Int32) (p : Int32) : Int32 := if nI 0 ≤ p ∧ p ≤ S 32 - nI 1 then whrF S (pn p) 6 else -1
/-- how many of the i greatest v, and the least of them -/
def frmF (S : Nat → Int32) (p : Nat) : Nat → Int32 × Int32
  | 0 => (nI 0, -5)
  | i + 1 => if asSeen (-1) (upd S (45 + p) (nI (9 - i))) then ((frmF S p i).1 + nI 1, nI (9 - i)) else ((frmF S p i).1 + nI 0, (frmF S p i).2)
def firmR (S : Nat → Int32) (p w : Int32) : Int32 := if (nI 0 ≤ p ∧ p ≤ S 32 - nI 1) ∧ nI 0 ≤ w ∧ w ≤ nI 1 then (if w = nI 0 then (frmF S (pn p) 10).1 else (frmF S (pn p) 10).2) else -1
/-! plans, books -/
def planR (S : Nat → Int32) (w n : Int32) : Int32 := if w = -1 then nI 0 else if ¬ (nI 0 ≤ w ∧ w ≤ nI 3) ∨ ((nI 1 ≤ w ∧ w ≤ nI 2) ∧ ¬ (nI 0 ≤ n ∧ n ≤ nI 5)) ∨ (w = nI 3 ∧ ¬ (nI 0 ≤ n ∧ n ≤ S 32 - nI 1)) then -1 else if sn S 35 = 8 then -4 else nI (sn S 35 + 1)
def planT (S : Nat → Int32) (w n : Int32) : Nat → Int32 := if w = -1 then upd S 35 (nI 0) else if ¬ (nI 0 ≤ w ∧ w ≤ nI 3) ∨ ((nI 1 ≤ w ∧ w ≤ nI 2) ∧ ¬ (nI 0 ≤ n ∧ n ≤ nI 5)) ∨ (w = nI 3 ∧ ¬ (nI 0 ≤ n ∧ n ≤ S 32 - nI 1)) then S else if sn S 35 = 8 then S else upd (upd (upd S (90 + sn S 35) w) (98 + sn S 35) n) 35 (nI (sn S 35 + 1))
def bookR (S : Nat → Int32) (k x : Int32) : Int32 := if k = -1 then nI 0 else if nI 0 ≤ k ∧ k ≤ nI 5 then if nI 0 ≤ x ∧ x ≤ nI 999 then if sn S 36 = 8 then -4 else nI (sn S 36 + 1) else -2 else -1
def bookT (S : Nat → Int32) (k x : Int32) : Nat → Int32 := if k = -1 then upd S 36 (nI 0) else if nI 0 ≤ k ∧ k ≤ nI 5 then if nI 0 ≤ x ∧ x ≤ nI 999 then if sn S 36 = 8 then S else upd (upd (upd S (106 + sn S 36) k) (114 + sn S 36) x) 36 (nI (sn S 36 + 1)) else S else S
/-- the first of n books, from k on, that is not as the SALT is -/
def lookF (S : Nat → Int32) : Nat → Nat → Int32
  | 0, _ => -5
  | f + 1, k => if sn S (2 + sn S (106 + k)) = sn S (114 + k) then lookF S f (k + 1) else nI k
def lookedR (S : Nat → Int32) : Int32 := lookF S (sn S 36) 0
/-- one row of the plan -/
def doesF (S : Nat → Int32) (w n : Int32) : Nat → Int32 := if w = nI 0 then goF (-1) S else if w = nI 1 then upd S (8 + pn n) (nI 1) else if w = nI 2 then moreF S (pn n) 20 else upd S (20 + pn n) (nI 0)
def planF (S : Nat → Int32) : Nat → Nat → Int32
  | 0 => S
  | k + 1 => doesF (planF S k) (S (90 + k)) (S (98 + k))
def doneR (S : Nat → Int32) (w : Int32) : Int32 := if nI 0 ≤ w ∧ w ≤ nI 1 then (if w = nI 0 then sum6 (planF S (sn S 35)) 2 else gruF (planF S (sn S 35)) (sn S 32)) else -1
theorem fill_f {S : Nat → Int32} {k n f m : Nat} (hf : 0 < f) (c : ¬ leftF (moreF S k m) k n) : fillF S k n f m = fillF S k n (f - 1) (m + 10) := by
  obtain ⟨g, rfl⟩ : ∃ g, f = g + 1 := ⟨f - 1, by omega⟩
  exact if_neg c
theorem fill_t {S : Nat → Int32} {k n f m : Nat} (hf : 0 < f) (c : leftF (moreF S k m) k n) : fillF S k n f m = nI m := by
  obtain ⟨g, rfl⟩ : ∃ g, f = g + 1 := ⟨f - 1, by omega⟩
  exact if_pos c
theorem moreF_hi {S : Nat → Int32} {k m : Nat} (hk : k < 6) : Hi S (moreF S k m) := Hi.rf.upd (by omega) _
theorem moreF_wf {S : Nat → Int32} {D E k m : Nat} (h : WF S D E) (hk : k < 6) : WF (moreF S k m) D E := h.upd (by omega) (by omega) (by omega) (by omega) (by omega) (by omega) (by omega)
theorem look_t {S : Nat → Int32} {f k : Nat} (hf : 0 < f) (c : ¬ sn S (2 + sn S (106 + k)) = sn S (114 + k)) : lookF S f k = nI k := by
  obtain ⟨g, rfl⟩ : ∃ g, f = g + 1 := ⟨f - 1, by omega⟩
  exact if_neg c
theorem look_f {S : Nat → Int32} {f k : Nat} (hf : 0 < f) (c : sn S (2 + sn S (106 + k)) = sn S (114 + k)) : lookF S f k = lookF S (f - 1) (k + 1) := by
  obtain ⟨g, rfl⟩ : ∃ g, f = g + 1 := ⟨f - 1, by omega⟩
  exact if_pos c
