/-! parts in lowest terms as the class has them; days that are tried out -/
theorem half_le {x y : Nat} (h : 0 < y) (h2 : y < x) : 2 * (x % y) ≤ x := by
  have h1 := Nat.mod_lt x h
  have h3 : x % y ≤ x - y := by
    rw [Nat.mod_eq_sub_mod (by omega)]
    exact Nat.mod_le _ _
  omega
/-- Euclid's steps: the product halves -/
def EuI (u l x y i : Nat) : Prop := (i = 0 ∧ x = l ∧ y = u) ∨ (0 < i ∧ y < x ∧ x * y * 2 ^ (i - 1) ≤ u * l)
theorem EuI.nx {u l x y i : Nat} (h : EuI u l x y i) (hy : 0 < y) : EuI u l y (x % y) (i + 1) := by
  refine Or.inr ⟨by omega, Nat.mod_lt _ hy, ?_⟩
  rw [Nat.add_sub_cancel]
  rcases h with ⟨rfl, rfl, rfl⟩ | ⟨h1, h2, h3⟩
  · rw [Nat.pow_zero, Nat.mul_one]
    exact Nat.mul_le_mul_left _ (Nat.mod_le _ _)
  · have h4 := half_le hy h2
    have e : 2 ^ i = 2 * 2 ^ (i - 1) := by
      rw [← Nat.pow_succ', show (i - 1).succ = i by omega]
    have h5 : y * (x % y) * 2 ^ i ≤ x * y * 2 ^ (i - 1) := by
      rw [e, ← Nat.mul_assoc, Nat.mul_assoc y, Nat.mul_comm (x % y) 2, Nat.mul_comm y]
      exact Nat.mul_le_mul_right _ (Nat.mul_le_mul_right _ h4)
    exact Nat.le_trans h5 h3
theorem EuI.out {u l x y : Nat} (h : EuI u l x y 64) (hu : u < 2 ^ 31) (hl : l < 2 ^ 31) : y = 0 := by
  rcases h with ⟨h, -⟩ | ⟨-, h2, h3⟩
  · omega
  · rcases Nat.eq_zero_or_pos y with z | z
    · exact z
    · exfalso
      have h1 : 1 ≤ x * y := Nat.mul_pos (by omega) z
      have h4 : 2 ^ 63 ≤ u * l := Nat.le_trans (by have := Nat.mul_le_mul_right (2 ^ 63) h1; omega) h3
      have h5 : u * l ≤ 2 ^ 31 * 2 ^ 31 := Nat.mul_le_mul (by omega) (by omega)
      omega
def ptF (u l : Nat) (part : Int32) : Int64 := if (nI 0 ≤ part ∧ part ≤ nI 1) ∧ 1 ≤ l then lowF u l part else NOL
/-- a Moor from which days are tried out, as it is behind -/
abbrev MOX (G : GG) (b : Nat → Nat) (S tk le : Nat → Int32) (os : Nat → Option Nat) (t : Nat) (mu wa : Int32) : va_W := MO G b (vwn S 2 6) tk os (vwn S 14 6) (vwn S 20 6) (vwn S 26 6) (vwn S 51 24) le (S 32) (bitF S) (S 0) (S 1) t (S 33) mu wa
/-! DAYS that go, EATEN capped at the end alone -/
/-- but for EATEN two rows are the same -/
def Ne26 (S S' : Nat → Int32) : Prop := ∀ j, (j < 26 ∨ 32 ≤ j) → S' j = S j
theorem ne_hi {S S' : Nat → Int32} (h : Ne26 S S') : Hi S S' := fun j hj => h j (Or.inr hj)
theorem ne_sn {S S' : Nat → Int32} (h : Ne26 S S') {j : Nat} (hj : j < 26 ∨ 32 ≤ j) : sn S' j = sn S j := sn_congr (h j hj)
theorem ne_by {S S' : Nat → Int32} (h : Ne26 S S') {p : Nat} (hp : p < 6) : byF S' p = byF S p := by
  funext j
  unfold byF
  rw [h (39 + p) (by omega), h (45 + p) (by omega), h (14 + p) (by omega), h (20 + p) (by omega), h 0 (by omega)]
theorem ne_ris {S S' : Nat → Int32} (h : Ne26 S S') {D E p : Nat} (hW : WF S D E) (hp : p < 6) : risF S' p = risF S p := by
  have hs := (hW.side p hp).le
  have e14 := ne_sn h (j := 14 + p) (by omega)
  have ean : angF S' p = angF S p := by
    unfold angF
    rw [h 38 (by omega), ne_sn h (j := 38) (by omega), (ne_hi h).stl, ne_by h hp]
  have esl : slyF S' p = slyF S p := by
    unfold slyF
    rw [ean, e14, ne_sn h (j := 2 + sn S (14 + p)) (by omega)]
  have hm := Nat.mod_lt (sn S 0) (show 0 < 4 by omega)
  unfold risF
  rw [ean, esl, ne_sn h (j := 39 + p) (by omega), h 0 (by omega), h (45 + p) (by omega), ne_sn h (j := 0) (by omega), h (51 + 4 * p + sn S 0 % 4) (by omega)]
theorem ne_g1 {S S' : Nat → Int32} (h : Ne26 S S') {D E i : Nat} (hW : WF S D E) (hi : i ≤ 6) : Ne26 (g1F S i) (g1F S' i) := by
  intro j hj
  unfold g1F
  by_cases c : 20 ≤ j ∧ j < 20 + i
  · rw [if_pos c, if_pos c, h j hj, ne_ris h hW (by omega)]
  · rw [if_neg c, if_neg c, h j hj]
theorem ne_tk {S S' : Nat → Int32} (h : Ne26 S S') {D E p : Nat} (mu : Int32) (hW : WF S D E) (hp : p < 6) : tkF mu S' p = tkF mu S p := by
  have hs := (hW.side p hp).le
  have el : licF S' p = licF S p := by
    unfold licF
    rw [ne_sn h (j := 39 + p) (by omega), ne_sn h (j := 45 + p) (by omega), ne_sn h (j := 0) (by omega), ne_sn h (j := 20 + p) (by omega)]
  unfold tkF takF
  rw [el, h (20 + p) (by omega), (ne_hi h).need, ne_sn h (j := 14 + p) (by omega), h (2 + sn S (14 + p)) (by omega)]
theorem ne_lk1 {S S' : Nat → Int32} (h : Ne26 S S') {D E p : Nat} (mu : Int32) (hW : WF S D E) (hp : p < 6) : Ne26 (lk1 mu S p) (lk1 mu S' p) := by
  have hs := (hW.side p hp).le
  intro j hj
  unfold lk1
  rw [ne_tk h mu hW hp, ne_sn h (j := 14 + p) (by omega), (ne_hi h).need, h (2 + sn S (14 + p)) (by omega), h (20 + p) (by omega)]
  unfold upd
  split
  · rfl
  · split
    · omega
    · split
      · rfl
      · exact h j hj
theorem ne_lk {S S' : Nat → Int32} (h : Ne26 S S') {D E D' E' : Nat} (mu : Int32) (hW : WF S D E) (hW' : WF S' D' E') : ∀ i, i ≤ 6 → E + 28 * i < 2 ^ 31 → E' + 28 * i < 2 ^ 31 → Ne26 (lkF mu S i) (lkF mu S' i) ∧ ∀ q, q < 6 → ∃ k, k ≤ 28 * i ∧ lkF mu S i (26 + q) = nI (sn S (26 + q) + k) ∧ lkF mu S' i (26 + q) = nI (sn S' (26 + q) + k) := by
  intro i
  induction i with
  | zero => intro _ _ _; exact ⟨h, fun q hq => ⟨0, Nat.zero_le _, (hW.eaten q hq).eq, (hW'.eaten q hq).eq⟩⟩
  | succ i ih =>
    intro h1 h2 h3
    obtain ⟨i1, i2⟩ := ih (by omega) (by omega) (by omega)
    have w1 := (lkF_wf mu hW i (by omega) (by omega)).1
    refine ⟨ne_lk1 i1 mu w1 (by omega), fun q hq => ?_⟩
    obtain ⟨k, hk, e1, e2⟩ := i2 q hq
    have hs := (w1.side i (by omega)).le
    have hs' := ne_sn i1 (j := 14 + i) (by omega)
    obtain ⟨z, hz, -, -, ez⟩ := tkF_nb mu w1 (p := i) (by omega)
    have et := ne_tk i1 mu w1 (p := i) (by omega)
    rw [lkF, lkF, lk1, lk1, et, hs']
    by_cases c : q = i
    · subst c
      refine ⟨k + z, by omega, ?_, ?_⟩
      · rw [upd_ne _ _ (by omega), upd_eq, e1, ez, nI_add, Nat.add_assoc]
      · rw [upd_ne _ _ (by omega), upd_eq, e2, ez, nI_add, Nat.add_assoc]
    · refine ⟨k, by omega, ?_, ?_⟩
      · rw [upd_ne _ _ (by omega), upd_ne _ _ (by omega), upd_ne _ _ (by omega), e1]
      · rw [upd_ne _ _ (by omega), upd_ne _ _ (by omega), upd_ne _ _ (by omega), e2]
theorem ne_go {S S' : Nat → Int32} (h : Ne26 S S') {D E D' E' : Nat} (mu : Int32) (hW : WF S D E) (hW' : WF S' D' E') (hE : E + 168 < 2 ^ 31) (hE' : E' + 168 < 2 ^ 31) : Ne26 (goF mu S) (goF mu S') ∧ ∀ q, q < 6 → ∃ k, k ≤ 168 ∧ goF mu S (26 + q) = nI (sn S (26 + q) + k) ∧ goF mu S' (26 + q) = nI (sn S' (26 + q) + k) := by
  have hn := hW.peo.le
  have e32 := ne_sn h (j := 32) (by omega)
  have hg := g1F_wf hW hn
  have hg' : WF (g1F S' (sn S 32)) D' E' := g1F_wf hW' hn
  obtain ⟨a1, a2⟩ := ne_lk (ne_g1 h hW hn) mu hg hg' (sn S 32) hn (by omega) (by omega)
  have hA : alF mu S' = lkF mu (g1F S' (sn S 32)) (sn S 32) := by rw [alF, e32]
  have hr : Ne26 (rnF (alF mu S) 6) (rnF (alF mu S') 6) := by
    intro j hj
    rw [hA]
    unfold rnF
    by_cases c : 2 ≤ j ∧ j < 2 + 6
    · rw [if_pos c, if_pos c]
      have ec : rn1 (lkF mu (g1F S' (sn S 32)) (sn S 32)) (j - 2) = rn1 (alF mu S) (j - 2) := by
        unfold rn1
        rw [a1 (8 + (j - 2)) (by omega), a1 (2 + (j - 2)) (by omega), (ne_hi a1).rain]
        rfl
      rw [ec, a1 j hj]
      rfl
    · rw [if_neg c, if_neg c]
      exact a1 j hj
  have hsum : sum6 (rnF (alF mu S') 6) 2 = sum6 (rnF (alF mu S) 6) 2 := by
    unfold sum6
    rw [hr 2 (by omega), hr (2 + 1) (by omega), hr (2 + 2) (by omega), hr (2 + 3) (by omega), hr (2 + 4) (by omega), hr (2 + 5) (by omega)]
  refine ⟨fun j hj => ?_, fun q hq => ?_⟩
  · rw [goF, goF]
    unfold wdF
    rw [hsum, hr 1 (by omega), hr 0 (by omega)]
    unfold upd
    split
    · rfl
    · split
      · rfl
      · exact hr j hj
  · obtain ⟨k, hk, e1, e2⟩ := a2 q hq
    have c1 : sn (g1F S (sn S 32)) (26 + q) = sn S (26 + q) := sn_congr (if_neg (by omega))
    have c2 : sn (g1F S' (sn S 32)) (26 + q) = sn S' (26 + q) := sn_congr (if_neg (by omega))
    rw [c1] at e1
    rw [c2] at e2
    refine ⟨k, by omega, ?_, ?_⟩
    · rw [goF, wdF_ne _ (by omega), show rnF (alF mu S) 6 (26 + q) = alF mu S (26 + q) from if_neg (by omega)]
      exact e1
    · rw [goF, wdF_ne _ (by omega), show rnF (alF mu S') 6 (26 + q) = alF mu S' (26 + q) from if_neg (by omega), hA]
      exact e2
theorem wi_nat {n : Nat} (hn : n < 2 ^ 31) : wiF (nI n) (nI 0) (nI 9999) = nI (min 9999 n) := (cap_eq hn).symm.trans (mnN (by omega) hn)
theorem cap_go {A : Nat → Int32} {D E c : Nat} (h : WF A D E) (hc : c ≤ 6) (hD : D + 1 < 2 ^ 31) (hE : E + 168 < 2 ^ 31) : capF (goF (-1) (capF A c)) c = capF (goF (-1) A) c := by
  have hne : Ne26 A (capF A c) := fun j hj => if_neg (by omega)
  have hq' : ∀ q, q < 6 → ∃ m, capF A c (26 + q) = nI m ∧ m ≤ max 9999 E ∧ (q < c → m = min 9999 (sn A (26 + q))) ∧ (¬ q < c → m = sn A (26 + q)) := by
    intro q hq
    have he := h.eaten q hq
    have hl := he.le
    by_cases d : q < c
    · refine ⟨min 9999 (sn A (26 + q)), ?_, by omega, fun _ => rfl, fun z => absurd d z⟩
      rw [capF, if_pos (by omega), he.eq, wi_nat he.lt]
    · exact ⟨sn A (26 + q), (if_neg (by omega)).trans he.eq, by omega, fun z => absurd z d, fun _ => rfl⟩
  have hW' : WF (capF A c) D (max 9999 E) := h.low (ne_hi hne) (h.day.congr (hne _ (by omega))) (h.war.congr (hne _ (by omega))) (fun k hk => (h.salt k hk).congr (hne _ (by omega))) (fun k hk => (h.roof k hk).congr (hne _ (by omega))) (fun k hk => (h.side k hk).congr (hne _ (by omega))) (fun k hk => (h.grudge k hk).congr (hne _ (by omega))) (fun k hk => by
    obtain ⟨m, e, b, -⟩ := hq' k hk
    exact NB.of (by omega) b e)
  obtain ⟨g1, g2⟩ := ne_go hne (-1) h hW' hE (by omega)
  have hgo := goF_wf (-1) h hD hE
  funext j
  unfold capF
  by_cases d : 26 ≤ j ∧ j < 26 + c
  · rw [if_pos d, if_pos d]
    obtain ⟨k, hk0, e1, e2⟩ := g2 (j - 26) (by omega)
    rw [show 26 + (j - 26) = j by omega] at e1 e2
    obtain ⟨m, em, bm, m1, -⟩ := hq' (j - 26) (by omega)
    rw [show 26 + (j - 26) = j by omega] at em m1
    have hlj := (hgo.1.eaten (j - 26) (by omega)).le
    rw [show 26 + (j - 26) = j by omega] at hlj
    have hm : sn (capF A c) j = m := sn_of (by omega) em
    have hm1 := m1 (by omega)
    unfold capF at e2 hm
    rw [e2, hm, e1]
    have haj := (h.eaten (j - 26) (by omega)).le
    rw [show 26 + (j - 26) = j by omega] at haj
    have hk : sn A j + k < 2 ^ 31 := by omega
    rw [wi_nat (by omega), wi_nat hk]
    exact congrArg nI (by omega)
  · rw [if_neg d, if_neg d]
    by_cases d2 : 26 ≤ j ∧ j < 32
    · obtain ⟨k, hk0, e1, e2⟩ := g2 (j - 26) (by omega)
      rw [show 26 + (j - 26) = j by omega] at e1 e2
      obtain ⟨m, em, bm, -, m2⟩ := hq' (j - 26) (by omega)
      rw [show 26 + (j - 26) = j by omega] at em m2
      have hm : sn (capF A c) j = m := sn_of (by omega) em
      unfold capF at e2 hm
      rw [e2, hm, e1, m2 (by omega)]
    · exact g1 j (by omega)
/-- DAYS that go, capped day by day or at the end -/
theorem pas_gos {S : Nat → Int32} {D E : Nat} (h : WF S D E) : ∀ n, D + n < 2 ^ 31 → E + 168 * n < 2 ^ 31 → (∀ p, p < 6 → sn S (26 + p) ≤ 9999) → pasF S n = capF (gosF (-1) S n) (sn S 32) := by
  intro n
  have hn := h.peo.le
  induction n with
  | zero =>
    intro _ _ h9
    funext j
    show S j = capF S (sn S 32) j
    unfold capF
    by_cases c : 26 ≤ j ∧ j < 26 + sn S 32
    · rw [if_pos c]
      have he := h.eaten (j - 26) (by omega)
      have h1 := h9 (j - 26) (by omega)
      rw [show 26 + (j - 26) = j by omega] at he h1
      rw [he.eq, wi_nat he.lt]
      exact congrArg nI (by omega)
    · rw [if_neg c]
  | succ n ih =>
    intro hD hE h9
    rw [pasF, ih (by omega) (by omega) h9, gosF]
    exact cap_go (gosF_wf (-1) h n (by omega) (by omega)).1 hn (by omega) (by omega)
