/-! WHAT ONE EATS, and parts in lowest terms -/
theorem lk1_eat (mu : Int32) {S : Nat → Int32} {D E p j : Nat} (h : WF S D E) (hp : p < 6) (hE : E + 28 < 2 ^ 31) (hj : j < 6) : sn S (26 + j) ≤ sn (lk1 mu S p) (26 + j) := by
  obtain ⟨k, k1, -, -, e⟩ := tkF_nb mu h hp
  have hs := (h.side p hp).le
  have hea := h.eaten j hj
  have hl := hea.le
  by_cases c : j = p
  · subst c
    have : lk1 mu S j (26 + j) = nI (sn S (26 + j) + k) := by
      rw [lk1, upd_ne _ _ (by omega), upd_eq, e, hea.eq, nI_add]
    rw [sn_of (by omega) this]
    omega
  · have : lk1 mu S p (26 + j) = S (26 + j) := by
      rw [lk1, upd_ne _ _ (by omega), upd_ne _ _ (by omega), upd_ne _ _ (by omega)]
    rw [sn_congr this]
    exact Nat.le_refl _
theorem lkF_eat (mu : Int32) {S : Nat → Int32} {D E j : Nat} (h : WF S D E) (hj : j < 6) : ∀ i, i ≤ 6 → E + 28 * i < 2 ^ 31 → sn S (26 + j) ≤ sn (lkF mu S i) (26 + j) := by
  intro i
  induction i with
  | zero => intro _ _; exact Nat.le_refl _
  | succ i ih =>
    intro hi hE
    exact Nat.le_trans (ih (by omega) (by omega)) (lk1_eat mu (lkF_wf mu h i (by omega) (by omega)).1 (by omega) (by omega) hj)
theorem goF_eat (mu : Int32) {S : Nat → Int32} {D E j : Nat} (h : WF S D E) (hE : E + 168 < 2 ^ 31) (hj : j < 6) : sn S (26 + j) ≤ sn (goF mu S) (26 + j) := by
  have hn := h.peo.le
  have e1 : goF mu S (26 + j) = alF mu S (26 + j) := by rw [goF, wdF_ne _ (by omega)]; exact if_neg (by omega)
  have e2 : g1F S (sn S 32) (26 + j) = S (26 + j) := if_neg (by omega)
  rw [sn_congr e1, ← sn_congr e2]
  exact lkF_eat mu (g1F_wf h hn) hj _ hn (by omega)
theorem gosF_eat (mu : Int32) {S : Nat → Int32} {D E j : Nat} (h : WF S D E) (hj : j < 6) : ∀ n, D + n < 2 ^ 31 → E + 168 * n < 2 ^ 31 → sn S (26 + j) ≤ sn (gosF mu S n) (26 + j) := by
  intro n
  induction n with
  | zero => intro _ _; exact Nat.le_refl _
  | succ n ih =>
    intro hD hE
    exact Nat.le_trans (ih (by omega) (by omega)) (goF_eat mu (gosF_wf mu h n (by omega) (by omega)).1 (by omega) hj)
/-- what p EATS in n DAYS -/
def eaN (S : Nat → Int32) (n p : Nat) : Nat := sn (gosF (-1) S n) (26 + p) - sn S (26 + p)
theorem eaN_eq {S : Nat → Int32} {D E n p : Nat} (h : WF S D E) (hp : p < 6) (hD : D + n < 2 ^ 31) (hE : E + 168 * n < 2 ^ 31) : gosF (-1) S n (26 + p) - S (26 + p) = nI (eaN S n p) ∧ eaN S n p ≤ E + 168 * n := by
  have h1 := gosF_eat (-1) h hp n hD hE
  have h2 := (gosF_wf (-1) h n hD hE).1.eaten p hp
  have h3 := h2.le
  unfold eaN
  refine ⟨?_, by omega⟩
  rw [h2.eq, (h.eaten p hp).eq, pk_sub h1]
/-- what the first i EAT in n DAYS -/
def eaA (S : Nat → Int32) (n : Nat) : Nat → Nat
  | 0 => 0
  | i + 1 => eaA S n i + eaN S n i
theorem eaA_le {S : Nat → Int32} {D E n : Nat} (h : WF S D E) (hD : D + n < 2 ^ 31) (hE : E + 168 * n < 2 ^ 31) : ∀ i, i ≤ 6 → eaA S n i ≤ (E + 168 * n) * i := by
  intro i
  induction i with
  | zero => intro _; exact Nat.le_refl _
  | succ i ih =>
    intro hi
    have h1 := ih (by omega)
    have h2 := (eaN_eq h (p := i) (by omega) hD hE).2
    rw [eaA, Nat.mul_succ]
    omega
theorem eaA_ge {S : Nat → Int32} {n p : Nat} : ∀ {i : Nat}, p < i → eaN S n p ≤ eaA S n i
  | 0, h => absurd h (Nat.not_lt_zero _)
  | i + 1, h => by
    rw [eaA]
    rcases Nat.lt_or_ge p i with c | c
    · have := eaA_ge (S := S) (n := n) c
      omega
    · obtain rfl : p = i := by omega
      omega
/-- the GRUDGE of the first n, a natural -/
def grN (S : Nat → Int32) : Nat → Nat
  | 0 => 0
  | n + 1 => grN S n + sn S (20 + n)
theorem grN_eq {S : Nat → Int32} {D E : Nat} (h : WF S D E) : ∀ n, n ≤ 6 → gruF S n = nI (grN S n) ∧ grN S n ≤ 99 * n := by
  intro n
  induction n with
  | zero => intro _; exact ⟨rfl, Nat.le_refl _⟩
  | succ n ih =>
    intro hn
    obtain ⟨h1, h2⟩ := ih (by omega)
    have h3 := h.grudge n (by omega)
    have h4 := h3.le
    rw [gruF, grN, h1, h3.eq, nI_add]
    exact ⟨rfl, by omega⟩
def NOL : Int64 := -9223372036854775808
/-- u / l in lowest terms: the part above the line, else the one below -/
def lowF (u l : Nat) (part : Int32) : Int64 := lN ((if part = 0 then u else l) / Nat.gcd u l)
theorem gcd_step {x y g : Nat} (h : Nat.gcd x y = g) : Nat.gcd y (x % y) = g := by
  rw [← h, Nat.gcd_comm x y, Nat.gcd_rec y x, Nat.gcd_comm]
theorem lN_ne0 {x : Nat} (h : 0 < x) (hx : x < 2 ^ 63) : ¬ lN x = 0 := fun e => by
  have := (pk_lEQ (a := x) (b := 0) hx (by omega)).mp e
  omega
section EL
variable {G : GG} {M : MI} {d bc bs pc : Nat} {X : Cx} {lv : List (Nat × Value)} {st : List Value} {ws ro : va_W}
theorem ev_if_eqL (hC : Cok G M d X) {a b : Nat} {off : Int} {tgt : Nat} (hdg : decode M.2.1 pc = .ok (.ifCond .eq off, 3)) (ht : (pc : Int) + off = (tgt : Int)) (ha : a < 2 ^ 63) (hb : b < 2 ^ 63) (kt : a = b → Ev G X bc bs tgt lv st ws ro) (kf : a ≠ b → Ev G X bc bs (pc + 3) lv st ws ro) : Ev G X bc bs pc lv (.int (lg_cmp (lN a) (lN b)) :: st) ws ro := ev_if_eq hC hdg ht (fun h => kt ((pk_lEQ ha hb).mp ((lg_cmp_eq _ _).mp h))) (fun h => kf (fun e => h ((lg_cmp_eq _ _).mpr (congrArg lN e))))
theorem ev_if_neL (hC : Cok G M d X) {a b : Nat} {off : Int} {tgt : Nat} (hdg : decode M.2.1 pc = .ok (.ifCond .ne off, 3)) (ht : (pc : Int) + off = (tgt : Int)) (ha : a < 2 ^ 63) (hb : b < 2 ^ 63) (kt : a ≠ b → Ev G X bc bs tgt lv st ws ro) (kf : a = b → Ev G X bc bs (pc + 3) lv st ws ro) : Ev G X bc bs pc lv (.int (lg_cmp (lN a) (lN b)) :: st) ws ro := ev_if_ne hC hdg ht (fun h => kt (fun e => h ((lg_cmp_eq _ _).mpr (congrArg lN e)))) (fun h => kf ((pk_lEQ ha hb).mp ((lg_cmp_eq _ _).mp h)))
end EL
def shareR (S : Nat → Int32) (p n part : Int32) : Int64 := if (nI 0 ≤ p ∧ p ≤ S 32 - nI 1) ∧ (nI 0 ≤ n ∧ n ≤ nI 60) ∧ nI 0 ≤ part ∧ part ≤ nI 1 then if eaA S (pn n) (sn S 32) = 0 then NOL else lowF (eaN S (pn n) (pn p)) (eaA S (pn n) (sn S 32)) part else NOL
/-- for how many of the first i it is WAR behind more than n DAYS when they do not lick -/
def odN (S : Nat → Int32) (n : Int32) : Nat → Nat
  | 0 => 0
  | i + 1 => odN S n i + (if n < nI (warF (nI i) S) then 1 else 0)
theorem odN_le (S : Nat → Int32) (n : Int32) : ∀ i, odN S n i ≤ i
  | 0 => Nat.le_refl _
  | i + 1 => by
    have := odN_le S n i
    unfold odN
    split <;> omega
def oddsR (S : Nat → Int32) (n part : Int32) : Int64 := if ((nI 0 ≤ n ∧ n ≤ nI 99) ∧ nI 0 ≤ part ∧ part ≤ nI 1) ∧ ¬ sn S 32 = 0 then lowF (odN S n (sn S 32)) (sn S 32) part else NOL
def meanR (S : Nat → Int32) (n part : Int32) : Int64 := if ((nI 0 ≤ n ∧ n ≤ nI 60) ∧ nI 0 ≤ part ∧ part ≤ nI 1) ∧ ¬ sn S 32 = 0 then lowF (grN (gosF (-1) S (pn n)) (sn S 32)) (sn S 32) part else NOL
/-! one DAY after another, and what stops it -/
def angryF (S : Nat → Int32) (n : Int32) : Nat → Int32
  | 0 => nI 0
  | i + 1 => angryF S n i ||| (if n ≤ S (20 + i) then nI 1 <<< (nI i &&& 31) else nI 0)
def angryR (S : Nat → Int32) (n : Int32) : Int32 := if nI 0 ≤ n ∧ n ≤ nI 99 then angryF S n (sn S 32) else -2
/-- the first of n DAYS, from m on, behind which p holds no GRUDGE -/
def heldF (S : Nat → Int32) (p : Nat) : Nat → Nat → Int32
  | 0, _ => -5
  | f + 1, m => if sn (gosF (-1) S m) (20 + p) = 0 then nI m else heldF S p f (m + 1)
def heldR (S : Nat → Int32) (p : Int32) : Int32 := if nI 0 ≤ p ∧ p ≤ S 32 - nI 1 then heldF S (pn p) 61 0 else -1
/-- the most GRUDGE of p among the first n DAYS, and when -/
def worF (S : Nat → Int32) (p : Nat) : Nat → Int32 × Int32
  | 0 => (-1, nI 0)
  | n + 1 => if (worF S p n).1 < gosF (-1) S n (20 + p) then (gosF (-1) S n (20 + p), nI n) else worF S p n
def worstR (S : Nat → Int32) (p w : Int32) : Int32 := if (nI 0 ≤ p ∧ p ≤ S 32 - nI 1) ∧ nI 0 ≤ w ∧ w ≤ nI 1 then (if w = nI 0 then (worF S (pn p) 61).1 else (worF S (pn p) 61).2) else -1
theorem worF_t {S : Nat → Int32} {p n : Nat} {a b : Int32} (h : worF S p n = (a, b)) (c : ¬ gosF (-1) S n (20 + p) ≤ a) : worF S p (n + 1) = (gosF (-1) S n (20 + p), nI n) := by
  rw [worF, h, if_pos (Int32.not_le.mp c)]
theorem worF_f {S : Nat → Int32} {p n : Nat} {a b : Int32} (h : worF S p n = (a, b)) (c : gosF (-1) S n (20 + p) ≤ a) : worF S p (n + 1) = (a, b) := by
  rw [worF, h, if_neg (Int32.not_lt.mpr c)]
theorem held_t {S : Nat → Int32} {p n : Nat} {x : Int32} (h : (x = -5 ∧ heldF S p 61 0 = heldF S p (61 - n) n) ∨ (¬ x = -5 ∧ heldF S p 61 0 = x)) (e : x = -5) (hn : n ≤ 60) (c : sn (gosF (-1) S n) (20 + p) = 0) : (nI n = -5 ∧ heldF S p 61 0 = heldF S p (61 - (n + 1)) (n + 1)) ∨ (¬ nI n = -5 ∧ heldF S p 61 0 = nI n) := by
  rcases h with ⟨-, h⟩ | ⟨h, -⟩
  · refine Or.inr ⟨fun q => ne_nI (k := n) (by omega) (by decide) q.symm, ?_⟩
    rw [h, show 61 - n = 60 - n + 1 by omega, heldF, if_pos c]
  · exact absurd e h
theorem held_f {S : Nat → Int32} {p n : Nat} {x : Int32} (h : (x = -5 ∧ heldF S p 61 0 = heldF S p (61 - n) n) ∨ (¬ x = -5 ∧ heldF S p 61 0 = x)) (e : x = -5) (hn : n ≤ 60) (c : sn (gosF (-1) S n) (20 + p) ≠ 0) : ((-5 : Int32) = -5 ∧ heldF S p 61 0 = heldF S p (61 - (n + 1)) (n + 1)) ∨ (¬ (-5 : Int32) = -5 ∧ heldF S p 61 0 = -5) := by
  rcases h with ⟨-, h⟩ | ⟨h, -⟩
  · refine Or.inl ⟨rfl, ?_⟩
    rw [h, show 61 - n = 60 - n + 1 by omega, heldF, if_neg c, show 61 - (n + 1) = 60 - n by omega]
  · exact absurd e h
theorem held_e {S : Nat → Int32} {p n : Nat} {x : Int32} (h : (x = -5 ∧ heldF S p 61 0 = heldF S p (61 - n) n) ∨ (¬ x = -5 ∧ heldF S p 61 0 = x)) (c : 60 < n ∨ ¬ x = -5) : heldF S p 61 0 = x := by
  rcases h with ⟨e, h⟩ | ⟨-, h⟩
  · rcases c with c | c
    · rw [h, show 61 - n = 0 by omega, heldF, e]
    · exact absurd e c
  · exact h
def chipsR (S : Nat → Int32) (n : Int32) : Int32 := if nI 1 ≤ n ∧ n ≤ nI 60 then raF (-1) S (nI 0) (pn n) else -2
