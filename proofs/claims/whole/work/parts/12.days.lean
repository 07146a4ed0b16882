/-! DAYS, as the reference has them: ANGER, RISES, LICKS, WHAT ONE TAKES, a DAY -/
/-- what the letters p k v s g d stand for -/
def byF (S : Nat → Int32) (p : Nat) : Nat → Int32 := fun j => if j = 0 then nI p else if j = 1 then S (39 + p) else if j = 2 then S (45 + p) else if j = 3 then S (14 + p) else if j = 4 then S (20 + p) / nI 10 else S 0 - S 0 / nI 10 * nI 10
/-- a TEST -/
def tsF (B : Nat → Int32) (k : Nat) : Bool := if k / 8 % 4 = 0 then decide (B (k % 8) < nI (k / 32)) else if k / 8 % 4 = 1 then decide (B (k % 8) = nI (k / 32)) else decide (nI (k / 32) < B (k % 8))
/-- a CLAUSE's part of the sum -/
def mkF (s : Int32) (b : Bool) (sum : Int32) : Int32 := (sum + (if b = true ∧ -200 < s then -10 - s else nI 0)) - (if b = true ∧ s ≤ -200 then -200 - s else nI 0)
/-- the steps over a stack of truths -/
def evL (B : Nat → Int32) : List Int32 → List Bool → Int32 → Int32
  | [], _, sum => sum
  | s :: l, st, sum => if 0 ≤ s then evL B l (tsF B s.toNatClampNeg :: st) sum else if s = -1 then evL B l ((!(st.headD false)) :: st.tail) sum else if -10 < s then evL B l ((if s = -2 then (st.tail.headD false && st.headD false) else (st.tail.headD false || st.headD false)) :: st.tail.tail) sum else evL B l [] (mkF s (st.headD false) sum)
def angF (S : Nat → Int32) (p : Nat) : Int32 := if S 38 = -1 then nI 0 else evL (byF S p) (stL S (sn S 38)) [] (nI 0)
def slyF (S : Nat → Int32) (p : Nat) : Int32 := if sn S (2 + sn S (14 + p)) < 20 then nI 0 else angF S p
def risF (S : Nat → Int32) (p : Nat) : Int32 := if sn S (39 + p) = 1 then angF S p / nI 2 else if sn S (39 + p) = 2 then angF S p + S (45 + p) else if sn S (39 + p) = 3 then slyF S p else if sn S (39 + p) = 4 then angF S p / nI 2 - S (45 + p) else if sn S (39 + p) = 5 then (angF S p + S (45 + p)) * (if S 0 - S 0 / (S (45 + p) + nI 2) * (S (45 + p) + nI 2) = 0 then nI 2 else nI 1) else if sn S (39 + p) = 6 then slyF S p + S (51 + 4 * p + sn S 0 % 4) else angF S p
def licF (S : Nat → Int32) (p : Nat) : Int32 := if sn S (39 + p) = 1 then nI 4 else if sn S (39 + p) = 2 then nI (10 + 2 * sn S (45 + p)) else if sn S (39 + p) = 3 then (if sn S 0 % 2 = 1 then nI 15 else nI 10) else if sn S (39 + p) = 4 then nI 0 else if sn S (39 + p) = 5 then (if 80 < sn S (20 + p) then nI 0 else nI (10 + 2 * sn S (45 + p))) else if sn S (39 + p) = 6 then (if sn S 0 % 2 = 1 then nI 15 else nI 10) else nI 10
def takF (S : Nat → Int32) (p : Nat) : Int32 := leF (leF (licF S p) (S (20 + p) * needF S)) (S (2 + sn S (14 + p)))
/-- the GRUDGES of the first i have risen -/
def g1F (S : Nat → Int32) (i : Nat) : Nat → Int32 := fun j => if 20 ≤ j ∧ j < 20 + i then wiF (S j + risF S (j - 20)) (nI 0) (nI 99) else S j
/-- p licks (mu: who does not) -/
def tkF (mu : Int32) (S : Nat → Int32) (p : Nat) : Int32 := if nI p = mu then nI 0 else takF S p
def lk1 (mu : Int32) (S : Nat → Int32) (p : Nat) : Nat → Int32 := upd (upd (upd S (2 + sn S (14 + p)) (S (2 + sn S (14 + p)) - tkF mu S p)) (26 + p) (S (26 + p) + tkF mu S p)) (20 + p) (S (20 + p) - tkF mu S p / needF S)
def lkF (mu : Int32) (S : Nat → Int32) : Nat → Nat → Int32
  | 0 => S
  | i + 1 => lk1 mu (lkF mu S i) i
/-- what is taken from a SIDE by the first i -/
def taF (mu : Int32) (S : Nat → Int32) : Nat → Nat → Int32
  | 0 => fun _ => nI 0
  | i + 1 => upd (taF mu S i) (sn (lkF mu S i) (14 + i)) (taF mu S i (sn (lkF mu S i) (14 + i)) + tkF mu (lkF mu S i) i)
/-- what rain takes of a SIDE -/
def rn1 (S : Nat → Int32) (k : Nat) : Int32 := if S (8 + k) = nI 1 then nI 0 else leF (rainF S) (S (2 + k))
def rnF (S : Nat → Int32) (i : Nat) : Nat → Int32 := fun j => if 2 ≤ j ∧ j < 2 + i then S j - rn1 S (j - 2) else S j
def rsF (S : Nat → Int32) (rd : Int32) : Nat → Int32
  | 0 => rd
  | i + 1 => rsF S rd i + rn1 S i
def wdF (S : Nat → Int32) : Nat → Int32 := upd (upd S 1 (if sum6 S 2 = 0 then nI 1 else S 1)) 0 (S 0 + nI 1)
/-- behind the licking -/
def alF (mu : Int32) (S : Nat → Int32) : Nat → Int32 := lkF mu (g1F S (sn S 32)) (sn S 32)
/-- a DAY -/
def goF (mu : Int32) (S : Nat → Int32) : Nat → Int32 := wdF (rnF (alF mu S) 6)
/-- n DAYS -/
def gosF (mu : Int32) (S : Nat → Int32) : Nat → Nat → Int32
  | 0 => S
  | n + 1 => goF mu (gosF mu S n)
/-- from 32 on two rows are the same -/
def Hi (S S' : Nat → Int32) : Prop := ∀ j, 32 ≤ j → S' j = S j
theorem Hi.rf {S : Nat → Int32} : Hi S S := fun _ _ => rfl
theorem Hi.tr {S S' S'' : Nat → Int32} (h : Hi S S') (h2 : Hi S' S'') : Hi S S'' := fun j hj => (h2 j hj).trans (h j hj)
theorem Hi.upd {S S' : Nat → Int32} (h : Hi S S') {k : Nat} (hk : k < 32) (x : Int32) : Hi S (upd S' k x) := fun j hj => (upd_ne _ _ (by omega)).trans (h j hj)
theorem Hi.sn {S S' : Nat → Int32} (h : Hi S S') {j : Nat} (hj : 32 ≤ j) : sn S' j = sn S j := sn_congr (h j hj)
theorem Hi.tell {S S' : Nat → Int32} (h : Hi S S') (w : Nat) (hw : 32 ≤ w) (o : Int32) : tellF S' w o = tellF S w o := by
  unfold tellF
  rw [h 38 (by omega), h.sn (by omega), h _ (by omega)]
theorem Hi.need {S S' : Nat → Int32} (h : Hi S S') : needF S' = needF S := by
  unfold needF
  rw [h.tell 227 (by omega)]
theorem Hi.rain {S S' : Nat → Int32} (h : Hi S S') : rainF S' = rainF S := h.tell 222 (by omega) _
theorem Hi.stl {S S' : Nat → Int32} (h : Hi S S') (k : Nat) : stL S' k = stL S k := by
  unfold stL
  rw [h.sn (by omega)]
  exact List.map_congr_left (fun i _ => h _ (by omega))
theorem Hi.hold {S S' : Nat → Int32} (h : Hi S S') (hh : HoldOK S) : HoldOK S' := by
  unfold HoldOK
  rw [h 38 (by omega), h.sn (j := 38) (by omega), h.sn (j := 33) (by omega), h.stl]
  rcases hh with h1 | ⟨h1, h2, h3, h4, h5, h6⟩
  · exact Or.inl h1
  · exact Or.inr ⟨h1.congr (h 38 (by omega)), h2, h3.congr (h _ (by omega)), h4.congr (h _ (by omega)), h5.congr (h _ (by omega)), h6⟩
/-- what holds of s holds when its first 32 places change within bounds -/
theorem WF.low {S S' : Nat → Int32} {D E D' E' : Nat} (h : WF S D E) (hi : Hi S S') (h0 : NB S' 0 D') (h1 : NB S' 1 1) (h2 : ∀ k, k < 6 → NB S' (2 + k) 999) (h3 : ∀ k, k < 6 → NB S' (8 + k) 1) (h4 : ∀ k, k < 6 → NB S' (14 + k) 5) (h5 : ∀ k, k < 6 → NB S' (20 + k) 99) (h6 : ∀ k, k < 6 → NB S' (26 + k) E') : WF S' D' E' := by
  refine ⟨h0, h1, h2, h3, h4, h5, h6, h.peo.congr (hi _ (by omega)), h.tre.congr (hi _ (by omega)), h.seen.congr (hi _ (by omega)), h.plan.congr (hi _ (by omega)), h.book.congr (hi _ (by omega)), h.tape.congr (hi _ (by omega)), fun p hp => (h.kind p hp).congr (hi _ (by omega)), fun p hp => (h.v p hp).congr (hi _ (by omega)), fun p hp => (h.row p hp).congr (hi _ (by omega)), fun k hk => ⟨(h.sside k hk).congr (hi _ (by omega)), (h.ssalt k hk).congr (hi _ (by omega)), (h.sdays k hk).congr (hi _ (by omega))⟩, fun k hk => (h.pwhat k hk).congr (hi _ (by omega)), fun k hk => ?_, fun k hk => ⟨(h.bside k hk).congr (hi _ (by omega)), (h.bsalt k hk).congr (hi _ (by omega))⟩, fun k hk => (h.sign k hk).congr (hi _ (by omega)), hi.hold h.hold⟩
  have := h.pnum k hk
  rw [hi (90 + k) (by omega), hi.sn (j := 35) (by omega), hi.sn (j := 98 + k) (by omega), hi.sn (j := 32) (by omega)]
  exact ⟨fun z => (this.1 z).congr (hi _ (by omega)), fun z z2 => ⟨(this.2 z z2).1.congr (hi _ (by omega)), (this.2 z z2).2⟩⟩
theorem WF.mono {S : Nat → Int32} {D E D' E' : Nat} (h : WF S D E) (hD : D ≤ D') (hE : E ≤ E') (h1 : D' < 2 ^ 31) (h2 : E' < 2 ^ 31) : WF S D' E' := h.low Hi.rf (h.day.mono hD h1) h.war h.salt h.roof h.side h.grudge (fun k hk => (h.eaten k hk).mono hE h2)
theorem leF_nb {x y : Int32} {a b : Nat} (hx : ∃ k, k ≤ a ∧ x = nI k) (hy : ∃ k, k ≤ b ∧ y = nI k) (ha : a < 2 ^ 31) (hb : b < 2 ^ 31) : ∃ k, k ≤ a ∧ k ≤ b ∧ leF x y = nI k := by
  obtain ⟨i, hi, rfl⟩ := hx
  obtain ⟨j, hj, rfl⟩ := hy
  unfold leF
  by_cases h : nI i < nI j
  · rw [if_pos h]
    have := (nI_ltI (by omega) (by omega)).mp h
    exact ⟨i, hi, by omega, rfl⟩
  · rw [if_neg h]
    have : ¬ i < j := fun q => h ((nI_ltI (by omega) (by omega)).mpr q)
    exact ⟨j, by omega, hj, rfl⟩
theorem leF_le {i j : Nat} (hi : i < 2 ^ 31) (hj : j < 2 ^ 31) : leF (nI i) (nI j) = nI (min i j) := by
  unfold leF
  by_cases h : nI i < nI j
  · rw [if_pos h, Nat.min_eq_left (Nat.le_of_lt ((nI_ltI hi hj).mp h))]
  · rw [if_neg h, Nat.min_eq_right (Nat.le_of_not_lt (fun q => h ((nI_ltI hi hj).mpr q)))]
theorem wiF_nb (x : Int32) {m : Nat} (hm : m < 2 ^ 31) : ∃ k, k ≤ m ∧ wiF x (nI 0) (nI m) = nI k := by
  unfold wiF
  by_cases h1 : x < nI 0
  · rw [if_pos h1]
    exact ⟨0, by omega, rfl⟩
  · rw [if_neg h1]
    by_cases h2 : nI m < x
    · rw [if_pos h2]
      exact ⟨m, by omega, rfl⟩
    · rw [if_neg h2]
      exact inN hm ⟨Int32.not_lt.mp h1, Int32.not_lt.mp h2⟩
theorem licF_nb {S : Nat → Int32} {D E p : Nat} (h : WF S D E) (hp : p < 6) : ∃ k, k ≤ 28 ∧ licF S p = nI k := by
  have hv := (h.v p hp).le
  unfold licF
  repeat' split
  all_goals first | exact ⟨_, by omega, rfl⟩
theorem takF_nb {S : Nat → Int32} {D E p : Nat} (h : WF S D E) (hp : p < 6) : ∃ k, k ≤ 28 ∧ k ≤ sn S (2 + sn S (14 + p)) ∧ k ≤ sn S (20 + p) * needN S ∧ takF S p = nI k := by
  have h1 := licF_nb h hp
  obtain ⟨n1, n2, n3⟩ := need_eq h
  have hs := (h.side p hp).le
  have hg := (h.grudge p hp).le
  have hgn : sn S (20 + p) * needN S < 2 ^ 31 := Nat.lt_of_le_of_lt (Nat.mul_le_mul hg n3) (by decide)
  unfold takF
  rw [n1, (h.grudge p hp).eq, pk_mul, (h.salt _ (show sn S (14 + p) < 6 by omega)).eq]
  have hsalt := (h.salt _ (show sn S (14 + p) < 6 by omega)).lt
  obtain ⟨a, ha, e⟩ := h1
  rw [e, leF_le (by omega) hgn, leF_le (by omega) hsalt]
  exact ⟨_, by omega, by omega, by omega, rfl⟩
/-! the days' bounds, and what they leave alone -/
theorem g1F_hi (S : Nat → Int32) {i : Nat} (hi : i ≤ 6) : Hi S (g1F S i) := fun j hj => if_neg (by omega)
theorem lk1_hi (mu : Int32) {S0 S : Nat → Int32} {D E p : Nat} (h : WF S D E) (h0 : Hi S0 S) (hp : p < 6) : Hi S0 (lk1 mu S p) := by
  have hs := (h.side p hp).le
  exact ((h0.upd (by omega) _).upd (by omega) _).upd (by omega) _
theorem tkF_nb {S : Nat → Int32} {D E p : Nat} (mu : Int32) (h : WF S D E) (hp : p < 6) : ∃ k, k ≤ 28 ∧ k ≤ sn S (2 + sn S (14 + p)) ∧ k ≤ sn S (20 + p) * needN S ∧ tkF mu S p = nI k := by
  unfold tkF
  split
  · exact ⟨0, by omega, by omega, by omega, rfl⟩
  · exact takF_nb h hp
theorem nI_subLe {a b : Nat} (h : b ≤ a) : nI a - nI b = nI (a - b) := pk_sub h
theorem lk1_wf (mu : Int32) {S : Nat → Int32} {D E p : Nat} (h : WF S D E) (hp : p < 6) (hE : E + 28 < 2 ^ 31) : WF (lk1 mu S p) D (E + 28) := by
  have hs := (h.side p hp).le
  obtain ⟨k, k1, k2, k3, e⟩ := tkF_nb mu h hp
  obtain ⟨n1, n2, n3⟩ := need_eq h
  have hsalt := h.salt _ (show sn S (14 + p) < 6 by omega)
  have hg := h.grudge p hp
  have hea := h.eaten p hp
  have rd : ∀ j, lk1 mu S p j = if j = 20 + p then nI (sn S (20 + p) - k / needN S) else if j = 26 + p then nI (sn S (26 + p) + k) else if j = 2 + sn S (14 + p) then nI (sn S (2 + sn S (14 + p)) - k) else S j := by
    intro j
    have hk : k / needN S ≤ sn S (20 + p) := by
      have : k < (sn S (20 + p) + 1) * needN S := by rw [Nat.add_mul]; omega
      have := Nat.div_lt_of_lt_mul (by rw [Nat.mul_comm] at this; exact this)
      omega
    unfold lk1 upd
    rw [e, n1, hsalt.eq, hg.eq, hea.eq, nI_subLe k2, nI_add, pk_div (by omega) (by omega) (by omega), nI_subLe hk]
  refine h.low (lk1_hi mu h Hi.rf hp) ?_ ?_ (fun j hj => ?_) (fun j hj => ?_) (fun j hj => ?_) (fun j hj => ?_) (fun j hj => ?_)
  · exact h.day.congr (by rw [rd, if_neg (by omega), if_neg (by omega), if_neg (by omega)])
  · exact h.war.congr (by rw [rd, if_neg (by omega), if_neg (by omega), if_neg (by omega)])
  · by_cases c : j = sn S (14 + p)
    · have hl := hsalt.le
      exact NB.of (k := sn S (2 + sn S (14 + p)) - k) (by omega) (by omega) (by rw [rd, if_neg (by omega), if_neg (by omega), if_pos (by omega)])
    · exact (h.salt j hj).congr (by rw [rd, if_neg (by omega), if_neg (by omega), if_neg (by omega)])
  · exact (h.roof j hj).congr (by rw [rd, if_neg (by omega), if_neg (by omega), if_neg (by omega)])
  · exact (h.side j hj).congr (by rw [rd, if_neg (by omega), if_neg (by omega), if_neg (by omega)])
  · by_cases c : j = p
    · subst c
      have hl := hg.le
      exact NB.of (k := sn S (20 + j) - k / needN S) (by omega) (Nat.le_trans (Nat.sub_le _ _) hl) (by rw [rd, if_pos rfl])
    · exact (h.grudge j hj).congr (by rw [rd, if_neg (by omega), if_neg (by omega), if_neg (by omega)])
  · by_cases c : j = p
    · subst c
      have hl := hea.le
      exact NB.of (k := sn S (26 + j) + k) (by omega) (by omega) (by rw [rd, if_neg (by omega), if_pos rfl])
    · exact ((h.eaten j hj).mono (by omega) hE).congr (by rw [rd, if_neg (by omega), if_neg (by omega), if_neg (by omega)])
theorem g1F_wf {S : Nat → Int32} {D E i : Nat} (h : WF S D E) (hi : i ≤ 6) : WF (g1F S i) D E := by
  have ne : ∀ j, (j < 20 ∨ 20 + i ≤ j) → g1F S i j = S j := fun j hj => if_neg (by omega)
  refine h.low (g1F_hi S hi) (h.day.congr (ne _ (by omega))) (h.war.congr (ne _ (by omega))) (fun j hj => (h.salt j hj).congr (ne _ (by omega))) (fun j hj => (h.roof j hj).congr (ne _ (by omega))) (fun j hj => (h.side j hj).congr (ne _ (by omega))) (fun j hj => ?_) (fun j hj => (h.eaten j hj).congr (ne _ (by omega)))
  by_cases c : j < i
  · obtain ⟨k, hk, e⟩ := wiF_nb (S (20 + j) + risF S (20 + j - 20)) (m := 99) (by omega)
    exact NB.of (k := k) (by omega) hk ((if_pos (by omega)).trans e)
  · exact (h.grudge j hj).congr (ne _ (by omega))
theorem lkF_wf (mu : Int32) {S : Nat → Int32} {D E : Nat} (h : WF S D E) : ∀ i, i ≤ 6 → E + 28 * i < 2 ^ 31 → WF (lkF mu S i) D (E + 28 * i) ∧ Hi S (lkF mu S i) := by
  intro i
  induction i with
  | zero => intro _ _; exact ⟨h, Hi.rf⟩
  | succ i ih =>
    intro hi hE
    obtain ⟨h1, h2⟩ := ih (by omega) (by omega)
    refine ⟨?_, lk1_hi mu h1 h2 (by omega)⟩
    have := lk1_wf mu h1 (p := i) (by omega) (by omega)
    rw [show E + 28 * (i + 1) = E + 28 * i + 28 by omega]
    exact this
theorem rn1_nb {S : Nat → Int32} {D E k : Nat} (h : WF S D E) (hk : k < 6) : ∃ m, m ≤ sn S (2 + k) ∧ m ≤ 99 ∧ rn1 S k = nI m := by
  unfold rn1
  split
  · exact ⟨0, by omega, by omega, rfl⟩
  · obtain ⟨r1, r2⟩ := rain_eq h
    have hs := h.salt k hk
    rw [r1, hs.eq, leF_le (by omega) hs.lt]
    exact ⟨_, by omega, by omega, rfl⟩
theorem rnF_wf {S : Nat → Int32} {D E i : Nat} (h : WF S D E) (hi : i ≤ 6) : WF (rnF S i) D E ∧ Hi S (rnF S i) := by
  have ne : ∀ j, (j < 2 ∨ 2 + i ≤ j) → rnF S i j = S j := fun j hj => if_neg (by omega)
  refine ⟨h.low (fun j hj => ne j (by omega)) (h.day.congr (ne _ (by omega))) (h.war.congr (ne _ (by omega))) (fun j hj => ?_) (fun j hj => (h.roof j hj).congr (ne _ (by omega))) (fun j hj => (h.side j hj).congr (ne _ (by omega))) (fun j hj => (h.grudge j hj).congr (ne _ (by omega))) (fun j hj => (h.eaten j hj).congr (ne _ (by omega))), fun j hj => ne j (by omega)⟩
  by_cases c : j < i
  · obtain ⟨m, hm, -, e⟩ := rn1_nb h hj
    have hs := h.salt j hj
    have hl := hs.le
    refine NB.of (k := sn S (2 + j) - m) (by omega) (by omega) ?_
    rw [show rnF S i (2 + j) = S (2 + j) - rn1 S (2 + j - 2) from if_pos (by omega), show 2 + j - 2 = j by omega, e, hs.eq, nI_subLe hm]
  · exact (h.salt j hj).congr (ne _ (by omega))
theorem wdF_wf {S : Nat → Int32} {D E : Nat} (h : WF S D E) (hD : D + 1 < 2 ^ 31) : WF (wdF S) (D + 1) E ∧ Hi S (wdF S) := by
  have ne : ∀ j, 2 ≤ j → wdF S j = S j := fun j hj => (upd_ne _ _ (by omega)).trans (upd_ne _ _ (by omega))
  have hd := h.day
  have hl := hd.le
  refine ⟨h.low (fun j hj => ne j (by omega)) ?_ ?_ (fun j hj => (h.salt j hj).congr (ne _ (by omega))) (fun j hj => (h.roof j hj).congr (ne _ (by omega))) (fun j hj => (h.side j hj).congr (ne _ (by omega))) (fun j hj => (h.grudge j hj).congr (ne _ (by omega))) (fun j hj => (h.eaten j hj).congr (ne _ (by omega))), fun j hj => ne j (by omega)⟩
  · refine NB.of (k := sn S 0 + 1) hD (by omega) ?_
    rw [wdF, upd_eq, hd.eq, nI_add]
  · have e : wdF S 1 = if sum6 S 2 = 0 then nI 1 else S 1 := by rw [wdF, upd_ne _ _ (by omega), upd_eq]
    by_cases c : sum6 S 2 = 0
    · exact NB.of (k := 1) (by omega) (by omega) (by rw [e, if_pos c])
    · exact h.war.congr (by rw [e, if_neg c])
theorem alF_wf (mu : Int32) {S : Nat → Int32} {D E : Nat} (h : WF S D E) (hE : E + 168 < 2 ^ 31) : WF (alF mu S) D (E + 168) ∧ Hi S (alF mu S) := by
  have hn := h.peo.le
  obtain ⟨h2, h3⟩ := lkF_wf mu (g1F_wf h hn) (sn S 32) hn (by omega)
  exact ⟨h2.mono (Nat.le_refl _) (by omega) h.day.1 (by omega), (g1F_hi S hn).tr h3⟩
theorem goF_wf (mu : Int32) {S : Nat → Int32} {D E : Nat} (h : WF S D E) (hD : D + 1 < 2 ^ 31) (hE : E + 168 < 2 ^ 31) : WF (goF mu S) (D + 1) (E + 168) ∧ Hi S (goF mu S) := by
  obtain ⟨h1, h2⟩ := alF_wf mu h hE
  obtain ⟨h3, h4⟩ := rnF_wf h1 (Nat.le_refl 6)
  obtain ⟨h5, h6⟩ := wdF_wf h3 hD
  exact ⟨h5, (h2.tr h4).tr h6⟩
theorem gosF_wf (mu : Int32) {S : Nat → Int32} {D E : Nat} (h : WF S D E) : ∀ n, D + n < 2 ^ 31 → E + 168 * n < 2 ^ 31 → WF (gosF mu S n) (D + n) (E + 168 * n) ∧ Hi S (gosF mu S n) := by
  intro n
  induction n with
  | zero => intro _ _; exact ⟨h, Hi.rf⟩
  | succ n ih =>
    intro hD hE
    obtain ⟨h1, h2⟩ := ih (by omega) (by omega)
    obtain ⟨h3, h4⟩ := goF_wf mu h1 (by omega) (by omega)
    refine ⟨?_, h2.tr h4⟩
    rw [show D + (n + 1) = D + n + 1 by omega, show E + 168 * (n + 1) = E + 168 * n + 168 by omega]
    exact h3

theorem g1F_0 (S : Nat → Int32) : g1F S 0 = S := funext fun j => if_neg (by omega)
theorem g1F_s (S : Nat → Int32) (i : Nat) : upd (g1F S i) (20 + i) (wiF (S (20 + i) + risF S i) (nI 0) (nI 99)) = g1F S (i + 1) := by
  funext j
  unfold upd g1F
  by_cases h : j = 20 + i
  · subst h
    rw [if_pos rfl, if_pos (by omega), show 20 + i - 20 = i by omega]
  · rw [if_neg h]
    by_cases h2 : 20 ≤ j ∧ j < 20 + i
    · rw [if_pos h2, if_pos (by omega)]
    · rw [if_neg h2, if_neg (by omega)]
theorem rnF_0 (S : Nat → Int32) : rnF S 0 = S := funext fun j => if_neg (by omega)
theorem rn1_rnF {S : Nat → Int32} {i : Nat} (hi : i < 6) : rn1 (rnF S i) i = rn1 S i := by
  have h1 : rnF S i (8 + i) = S (8 + i) := if_neg (by omega)
  have h2 : rnF S i (2 + i) = S (2 + i) := if_neg (by omega)
  have h3 : Hi S (rnF S i) := fun j hj => if_neg (by omega)
  unfold rn1
  rw [h1, h2, h3.rain]
theorem rnF_s {S : Nat → Int32} {i : Nat} (hi : i < 6) : upd (rnF S i) (2 + i) (rnF S i (2 + i) - rn1 (rnF S i) i) = rnF S (i + 1) := by
  rw [rn1_rnF hi]
  funext j
  unfold upd rnF
  by_cases h : j = 2 + i
  · subst h
    rw [if_pos rfl, if_neg (by omega), if_pos (by omega), show 2 + i - 2 = i by omega]
  · rw [if_neg h]
    by_cases h2 : 2 ≤ j ∧ j < 2 + i
    · rw [if_pos h2, if_pos (by omega)]
    · rw [if_neg h2, if_neg (by omega)]

theorem lkF_s {mu : Int32} {S1 S2 : Nat → Int32} {i : Nat} {t : Int32} (hS : S2 = lkF mu S1 i) (ht : tkF mu S2 i = t) : upd (upd (upd S2 (2 + sn S2 (14 + i)) (S2 (2 + sn S2 (14 + i)) - t)) (26 + i) (S2 (26 + i) + t)) (20 + i) (S2 (20 + i) - t / needF S2) = lkF mu S1 (i + 1) := by
  rw [lkF, ← hS, lk1, ht]
theorem taF_s {mu : Int32} {S1 S2 K2 : Nat → Int32} {i : Nat} {t : Int32} (hS : S2 = lkF mu S1 i) (hK : ∀ k, k < 6 → K2 k = taF mu S1 i k) (hs : sn S2 (14 + i) < 6) (ht : tkF mu S2 i = t) : ∀ k, k < 6 → upd K2 (sn S2 (14 + i)) (K2 (sn S2 (14 + i)) + t) k = taF mu S1 (i + 1) k := by
  intro k hk
  rw [taF, ← hS, ht]
  unfold upd
  rw [hK _ hs]
  split
  · rfl
  · exact hK k hk
