/-! WHAT IS ASKED OF DAYS: the reference's words -/
theorem back_eq {S0 S F0 : Nat → Int32} (h : Hi S0 S) : ovF S (ovF F0 S0 32) 32 = S0 := by
  funext j
  unfold ovF
  by_cases c : j < 32
  · rw [if_pos c, if_pos c]
  · rw [if_neg c]; exact h j (by omega)
theorem ovF_hi {S S' F : Nat → Int32} (h : Hi S S') : ovF S' F 32 = ovF S F 32 := by
  funext j
  unfold ovF
  by_cases c : j < 32
  · rw [if_pos c, if_pos c]
  · rw [if_neg c, if_neg c]; exact h j (by omega)
theorem ovF_hi2 {S F : Nat → Int32} : Hi S (ovF S F 32) := fun j hj => if_neg (by omega)
/-- what rain has taken in n DAYS, beside rd -/
def raF (mu : Int32) (S : Nat → Int32) (rd : Int32) : Nat → Int32
  | 0 => rd
  | n + 1 => rsF (alF mu (gosF mu S n)) (raF mu S rd n) 6
/-- EATEN of the first i within 9999 -/
def capF (S : Nat → Int32) (i : Nat) : Nat → Int32 := fun j => if 26 ≤ j ∧ j < 26 + i then wiF (S j) (nI 0) (nI 9999) else S j
theorem capF_0 (S : Nat → Int32) : capF S 0 = S := funext fun j => if_neg (by omega)
theorem capF_s {S : Nat → Int32} (i : Nat) : upd (capF S i) (26 + i) (wiF (S (26 + i)) (nI 0) (nI 9999)) = capF S (i + 1) := by
  funext j
  unfold upd capF
  by_cases h : j = 26 + i
  · subst h
    rw [if_pos rfl, if_pos (by omega)]
  · rw [if_neg h]
    by_cases h2 : 26 ≤ j ∧ j < 26 + i
    · rw [if_pos h2, if_pos (by omega)]
    · rw [if_neg h2, if_neg (by omega)]
/-- n DAYS that go -/
def pasF (S : Nat → Int32) : Nat → Nat → Int32
  | 0 => S
  | n + 1 => capF (goF (-1) (pasF S n)) (sn S 32)
theorem wdF_ne (S : Nat → Int32) {j : Nat} (hj : 2 ≤ j) : wdF S j = S j := (upd_ne _ _ (by omega)).trans (upd_ne _ _ (by omega))
theorem lkF_eaten (mu : Int32) {S : Nat → Int32} {D E : Nat} (h : WF S D E) {p : Nat} : ∀ i, i ≤ 6 → i ≤ p → E + 28 * i < 2 ^ 31 → p < 6 → lkF mu S i (26 + p) = S (26 + p) := by
  intro i
  induction i with
  | zero => intro _ _ _ _; rfl
  | succ i ih =>
    intro h1 h2 h3 h4
    have hw := (lkF_wf mu h i (by omega) (by omega)).1
    have hs := (hw.side i (by omega)).le
    rw [lkF, lk1, upd_ne _ _ (by omega), upd_ne _ _ (by omega), upd_ne _ _ (by omega)]
    exact ih (by omega) (by omega) (by omega) h4
theorem goF_eaten (mu : Int32) {S : Nat → Int32} {D E : Nat} (h : WF S D E) (hE : E + 168 < 2 ^ 31) {p : Nat} (hp : sn S 32 ≤ p) (hp6 : p < 6) : goF mu S (26 + p) = S (26 + p) := by
  have hn := h.peo.le
  rw [goF, wdF_ne _ (by omega), show rnF (alF mu S) 6 (26 + p) = alF mu S (26 + p) from if_neg (by omega), alF, lkF_eaten mu (g1F_wf h hn) _ hn hp (by omega) hp6]
  exact if_neg (by omega)
theorem pasF_wf {S : Nat → Int32} {D E : Nat} (h : WF S D E) (hE9 : 9999 ≤ E) (hE : E + 168 < 2 ^ 31) : ∀ n, D + n < 2 ^ 31 → WF (pasF S n) (D + n) E ∧ Hi S (pasF S n) := by
  intro n
  induction n with
  | zero => intro _; exact ⟨h, Hi.rf⟩
  | succ n ih =>
    intro hD
    obtain ⟨h1, h2⟩ := ih (by omega)
    obtain ⟨h3, h4⟩ := goF_wf (-1) h1 (by omega) hE
    have hp : sn (pasF S n) 32 = sn S 32 := h2.sn (by omega)
    have hn := h.peo.le
    have ne : ∀ j, (j < 26 ∨ 26 + sn S 32 ≤ j) → pasF S (n + 1) j = goF (-1) (pasF S n) j := fun j hj => if_neg (by omega)
    have hh : Hi S (pasF S (n + 1)) := fun j hj => (ne j (by omega)).trans ((h4 j hj).trans (h2 j hj))
    refine ⟨h3.low (fun j hj => ne j (by omega)) (h3.day.congr (ne _ (by omega))) (h3.war.congr (ne _ (by omega))) (fun j hj => (h3.salt j hj).congr (ne _ (by omega))) (fun j hj => (h3.roof j hj).congr (ne _ (by omega))) (fun j hj => (h3.side j hj).congr (ne _ (by omega))) (fun j hj => (h3.grudge j hj).congr (ne _ (by omega))) (fun j hj => ?_), hh⟩
    by_cases c : j < sn S 32
    · obtain ⟨k, hk, e⟩ := wiF_nb (goF (-1) (pasF S n) (26 + j)) (m := 9999) (by omega)
      exact NB.of (k := k) (by omega) (by omega) ((if_pos (by omega)).trans e)
    · exact (h1.eaten j hj).congr ((ne _ (by omega)).trans (goF_eaten (-1) h1 hE (by omega) hj))
def passR (S : Nat → Int32) (x : Int32) : Int32 := if nI 0 ≤ x ∧ x ≤ nI 60 then if sn S 0 + pn x ≤ 9999 then sum6 (pasF S (pn x)) 2 else -3 else -2
def passT (S : Nat → Int32) (x : Int32) : Nat → Int32 := if nI 0 ≤ x ∧ x ≤ nI 60 then if sn S 0 + pn x ≤ 9999 then pasF S (pn x) else S else S
def isPe2 (S : Nat → Int32) (x : Int32) : Prop := nI 0 ≤ x ∧ x ≤ S 32 - nI 1
def onR (S : Nat → Int32) (n w : Int32) : Int32 := if (nI 0 ≤ w ∧ w ≤ nI 1) ∨ (nI 0 ≤ w - nI 10 ∧ w - nI 10 ≤ nI 5) ∨ (nI 0 ≤ w - nI 20 ∧ w - nI 20 ≤ S 32 - nI 1) ∨ (nI 0 ≤ w - nI 30 ∧ w - nI 30 ≤ S 32 - nI 1) then if nI 0 ≤ n ∧ n ≤ nI 60 then (if w = nI 0 then sum6 (gosF (-1) S (pn n)) 2 else if w = nI 1 then gruF (gosF (-1) S (pn n)) (sn S 32) else if w < nI 20 then gosF (-1) S (pn n) (2 + pn (w - nI 10)) else if w < nI 30 then gosF (-1) S (pn n) (20 + pn (w - nI 20)) else gosF (-1) S (pn n) (26 + pn (w - nI 30))) else -2 else -1
/-- behind how many DAYS it is WAR, f at most -/
def warN (mu : Int32) (S : Nat → Int32) : Nat → Nat
  | 0 => 0
  | f + 1 => if S 1 = nI 0 then warN mu (goF mu S) f + 1 else 0
theorem warN_le (mu : Int32) : ∀ (f : Nat) (S : Nat → Int32), warN mu S f ≤ f := by
  intro f
  induction f with
  | zero => intro S; exact Nat.le_refl 0
  | succ f ih =>
    intro S
    unfold warN
    split
    · exact Nat.succ_le_succ (ih _)
    · exact Nat.zero_le _
def warF (mu : Int32) (S : Nat → Int32) : Nat := warN mu S 100
theorem warF_le (mu : Int32) (S : Nat → Int32) : warF mu S ≤ 100 := warN_le mu 100 S
def lastsR (S : Nat → Int32) : Int32 := if 99 < warF (-1) S then -5 else nI (warF (-1) S)
def thinnestR (S : Nat → Int32) (n w : Int32) : Int32 := if nI 0 ≤ w ∧ w ≤ nI 1 then if nI 0 ≤ n ∧ n ≤ nI 60 then (if w = nI 0 then nI (thinF (gosF (-1) S (pn n)) 5) else gosF (-1) S (pn n) (2 + thinF (gosF (-1) S (pn n)) 5)) else -2 else -1
/-- who EATS most among the first i: who, how much -/
def grdF (A S : Nat → Int32) : Nat → Int32 × Int32
  | 0 => (-5, -1)
  | i + 1 => if (grdF A S i).2 < A (26 + i) - S (26 + i) then (nI i, A (26 + i) - S (26 + i)) else grdF A S i
def greediestR (S : Nat → Int32) (n : Int32) : Int32 := if nI 1 ≤ n ∧ n ≤ nI 60 then (grdF (gosF (-1) S (pn n)) S (sn S 32)).1 else -2
/-- the first of the longest: which, how long -/
def bestF (f : Nat → Nat) (b0 : Int32) (l0 : Int32) : Nat → Int32 × Int32
  | 0 => (b0, l0)
  | i + 1 => if (bestF f b0 l0 i).2 < nI (f i) then (nI i, nI (f i)) else bestF f b0 l0 i
def forgiveR (S : Nat → Int32) : Int32 := (bestF (fun p => warF (nI p) S) (-5) (nI (warF (-1) S)) (sn S 32)).1
def moveR (S : Nat → Int32) (p : Int32) : Int32 := if nI 0 ≤ p ∧ p ≤ S 32 - nI 1 then (bestF (fun k => warF (-1) (upd S (14 + pn p) (nI k))) (-1) (-1) 6).1 else -1
/-- as bestF, over those that c says -/
def bestC (c : Nat → Prop) (hc : ∀ i, Decidable (c i)) (f : Nat → Nat) (b0 : Int32) (l0 : Int32) : Nat → Int32 × Int32
  | 0 => (b0, l0)
  | i + 1 => if c i ∧ (bestC c hc f b0 l0 i).2 < nI (f i) then (nI i, nI (f i)) else bestC c hc f b0 l0 i
def roofsR (S : Nat → Int32) : Int32 := (bestC (fun k => S (8 + k) = nI 0) (fun _ => inferInstance) (fun k => warF (-1) (upd S (8 + k) (nI 1))) (-5) (nI (warF (-1) S)) 6).1
