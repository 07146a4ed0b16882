/-! WHAT IS SEEN of days, and plans: bounds -/
theorem upd_upd (f : Nat → Int32) (i : Nat) (x y : Int32) : upd (upd f i x) i y = upd f i y := by
  funext j
  unfold upd
  split <;> rfl
theorem upd_self (f : Nat → Int32) (i : Nat) : upd f i (f i) = f := by
  funext j
  unfold upd
  split
  · next h => rw [h]
  · rfl
/-- places under 32 the same: what was kept comes back to nothing new -/
theorem back_lo {S0 S F0 : Nat → Int32} (h : ∀ j, j < 32 → S j = S0 j) : ovF S (ovF F0 S0 32) 32 = S := by
  funext j
  unfold ovF
  by_cases c : j < 32
  · rw [if_pos c, if_pos c]; exact (h j c).symm
  · rw [if_neg c]
theorem updV_wf {S : Nat → Int32} {D E p v : Nat} (h : WF S D E) (hp : p < 6) (hv : v ≤ 9) : WF (upd S (45 + p) (nI v)) D E := by
  have ne : ∀ j, (j < 45 ∨ 51 ≤ j) → upd S (45 + p) (nI v) j = S j := fun j hj => upd_ne _ _ (by omega)
  refine ⟨h.day.congr (ne _ (by omega)), h.war.congr (ne _ (by omega)), fun k hk => (h.salt k hk).congr (ne _ (by omega)), fun k hk => (h.roof k hk).congr (ne _ (by omega)), fun k hk => (h.side k hk).congr (ne _ (by omega)), fun k hk => (h.grudge k hk).congr (ne _ (by omega)), fun k hk => (h.eaten k hk).congr (ne _ (by omega)), h.peo.congr (ne _ (by omega)), h.tre.congr (ne _ (by omega)), h.seen.congr (ne _ (by omega)), h.plan.congr (ne _ (by omega)), h.book.congr (ne _ (by omega)), h.tape.congr (ne _ (by omega)), fun p hp => (h.kind p hp).congr (ne _ (by omega)), fun q hq => (h.v q hq).upd (by omega), fun p hp => (h.row p hp).congr (ne _ (by omega)), fun k hk => ⟨(h.sside k hk).congr (ne _ (by omega)), (h.ssalt k hk).congr (ne _ (by omega)), (h.sdays k hk).congr (ne _ (by omega))⟩, fun k hk => (h.pwhat k hk).congr (ne _ (by omega)), fun k hk => ?_, fun k hk => ⟨(h.bside k hk).congr (ne _ (by omega)), (h.bsalt k hk).congr (ne _ (by omega))⟩, fun k hk => (h.sign k hk).congr (ne _ (by omega)), ?_⟩
  · have := h.pnum k hk
    rw [ne (90 + k) (by omega), sn_congr (ne 35 (by omega)), sn_congr (ne (98 + k) (by omega)), sn_congr (ne 32 (by omega))]
    exact ⟨fun q => (this.1 q).congr (ne _ (by omega)), fun q q2 => ⟨(this.2 q q2).1.congr (ne _ (by omega)), (this.2 q q2).2⟩⟩
  · have hst : ∀ k, stL (upd S (45 + p) (nI v)) k = stL S k := fun k => by
      unfold stL
      rw [sn_congr (ne _ (by omega))]
      exact List.map_congr_left (fun i _ => ne _ (by omega))
    have hh := h.hold
    unfold HoldOK at hh ⊢
    rw [ne 38 (by omega), sn_congr (ne 38 (by omega)), sn_congr (ne 33 (by omega)), hst]
    rcases hh with h1 | ⟨h1, h2, h3, h4, h5, h6⟩
    · exact Or.inl h1
    · exact Or.inr ⟨h1.congr (ne 38 (by omega)), h2, h3.congr (ne _ (by omega)), h4.congr (ne _ (by omega)), h5.congr (ne _ (by omega)), h6⟩
theorem or_n0 (x : Int32) : x ||| nI 0 = x := by
  apply Int32.toBitVec_inj.1
  show x.toBitVec ||| BitVec.ofNat 32 0 = x.toBitVec
  simp
/-- a plan's row keeps all in bounds -/
theorem doesF_wf {S : Nat → Int32} {D E : Nat} (h : WF S D E) (hD : D + 1 < 2 ^ 31) (hE : E + 168 < 2 ^ 31) {w : Nat} {n : Int32} (hn : ¬ w = 0 → ∃ j, j < 6 ∧ n = nI j) (hw : w ≤ 3) : WF (doesF S (nI w) n) (D + 1) (E + 168) ∧ Hi S (doesF S (nI w) n) := by
  have hm : ∀ {S' : Nat → Int32}, WF S' D E → WF S' (D + 1) (E + 168) := fun q => q.mono (by omega) (by omega) hD hE
  have n1 : ∀ {a b : Nat}, a < 4 → b < 4 → a ≠ b → ¬ nI a = nI b := fun ha hb hab q => hab ((nI_eq (by omega) (by omega)).mp q)
  rcases (show w = 0 ∨ w = 1 ∨ w = 2 ∨ w = 3 by omega) with rfl | rfl | rfl | rfl
  · rw [doesF, if_pos rfl]
    exact goF_wf (-1) h hD hE
  · obtain ⟨j, hj, rfl⟩ := hn (by omega)
    rw [doesF, if_neg (n1 (by omega) (by omega) (by omega)), if_pos rfl, show pn (nI j) = j from nI_clamp (by omega)]
    exact ⟨hm (h.upd (by omega) (by omega) (by omega) (by omega) (by omega) (by omega) (by omega)), Hi.rf.upd (by omega) _⟩
  · obtain ⟨j, hj, rfl⟩ := hn (by omega)
    rw [doesF, if_neg (n1 (by omega) (by omega) (by omega)), if_neg (n1 (by omega) (by omega) (by omega)), if_pos rfl, show pn (nI j) = j from nI_clamp (by omega)]
    exact ⟨hm (moreF_wf h hj), moreF_hi hj⟩
  · obtain ⟨j, hj, rfl⟩ := hn (by omega)
    rw [doesF, if_neg (n1 (by omega) (by omega) (by omega)), if_neg (n1 (by omega) (by omega) (by omega)), if_neg (n1 (by omega) (by omega) (by omega)), show pn (nI j) = j from nI_clamp (by omega)]
    exact ⟨hm (h.upd (by omega) (by omega) (by omega) (by omega) (by omega) (by omega) (by omega)), Hi.rf.upd (by omega) _⟩
/-- what number a plan's row has -/
theorem plan_num {S : Nat → Int32} {D E k : Nat} (h : WF S D E) (hk : k < sn S 35) : ¬ sn S (90 + k) = 0 → ∃ j, j < 6 ∧ S (98 + k) = nI j := by
  have hp := h.plan.le
  have hw := h.pwhat k (by omega)
  have hl := hw.le
  have hn := h.pnum k (by omega)
  intro hz
  have : NB S (98 + k) 5 := by
    rcases (show sn S (90 + k) = 1 ∨ sn S (90 + k) = 2 ∨ sn S (90 + k) = 3 by omega) with c | c | c
    · exact hn.1 (Or.inl (by rw [hw.eq, c]))
    · exact hn.1 (Or.inr (by rw [hw.eq, c]))
    · exact (hn.2 (by rw [hw.eq, c]) hk).1
  exact ⟨_, Nat.lt_succ_of_le this.le, this.eq⟩
theorem planF_wf {S : Nat → Int32} {D E : Nat} (h : WF S D E) : ∀ k, k ≤ sn S 35 → D + k < 2 ^ 31 → E + 168 * k < 2 ^ 31 → WF (planF S k) (D + k) (E + 168 * k) ∧ Hi S (planF S k) := by
  have hp := h.plan.le
  intro k
  induction k with
  | zero => intro _ _ _; exact ⟨h, Hi.rf⟩
  | succ k ih =>
    intro hk hD hE
    obtain ⟨h1, h2⟩ := ih (by omega) (by omega) (by omega)
    have hw := h.pwhat k (by omega)
    have hd := doesF_wf h1 (by omega) (by omega) (w := sn S (90 + k)) (n := S (98 + k)) (plan_num h (by omega)) hw.le
    rw [← hw.eq] at hd
    refine ⟨?_, h2.tr hd.2⟩
    have := hd.1
    rw [show D + k + 1 = D + (k + 1) by omega, show E + 168 * k + 168 = E + 168 * (k + 1) by omega] at this
    exact this
theorem as_step {mu : Int32} {S : Nat → Int32} {n : Nat} (h : sn (gosF mu S n) 34 = sn S 34) (c : allF mu S n = true) : bI (seenF (gosF mu S n) n (sn (gosF mu S n) 34) = true) = bI (allF mu S (n + 1) = true) := by
  rw [h, allF, c, Bool.true_and]
theorem dn_toInt {i : Nat} (hi : i ≤ 10) : (nI 9 - nI i).toInt = 9 - (i : Int) := by
  rw [pk_sub_toInt (by omega) (by omega)]
  rfl
theorem dn_ge {i : Nat} (hi : i ≤ 10) (h : ¬ nI 9 - nI i < 0) : i ≤ 9 := by
  rw [Int32.lt_iff_toInt_lt, dn_toInt hi, show (0 : Int32).toInt = 0 from by decide] at h
  omega
theorem dn_lt {i : Nat} (hi : i ≤ 10) (h : nI 9 - nI i < 0) : i = 10 := by
  rw [Int32.lt_iff_toInt_lt, dn_toInt hi, show (0 : Int32).toInt = 0 from by decide] at h
  omega
theorem dn_s {i : Nat} (hi : i ≤ 9) : nI (9 - i) + (-1) = nI 9 - nI (i + 1) := by
  rw [show (-1 : Int32) = -nI 1 by decide, ← pk_sub hi, ← nI_add, Int32.sub_eq_add_neg, Int32.sub_eq_add_neg, Int32.neg_add, Int32.sub_eq_add_neg, Int32.add_assoc]
