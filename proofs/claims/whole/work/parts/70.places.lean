/-! WF, place by place -/
/-- how much may stand at place j -/
def bd (D E j : Nat) : Nat := if j = 0 then D else if j = 1 then 1 else if j < 8 then 999 else if j < 14 then 1 else if j < 20 then 5 else if j < 26 then 99 else if j < 32 then E else if j = 32 then 6 else if j < 35 then 5 else if j < 37 then 8 else if j = 37 then 100 else if j < 45 then 6 else if j < 75 then 9 else if j < 80 then 5 else if j < 85 then 999 else if j < 90 then 20 else if j < 98 then 3 else if j < 114 then 5 else if j < 122 then 999 else 127
/-- a plan's numbers -/
def PnOK (S : Nat → Int32) : Prop := ∀ k, k < 8 → (S (90 + k) = nI 1 ∨ S (90 + k) = nI 2 → NB S (98 + k) 5) ∧ (S (90 + k) = nI 3 → k < sn S 35 → NB S (98 + k) 5 ∧ sn S (98 + k) < sn S 32)
/-- places with one bound of their own -/
abbrev bdJ (j : Nat) : Prop := j < 222 ∧ j ≠ 38 ∧ ¬ (98 ≤ j ∧ j < 106)

theorem bd_day (D E : Nat) : bd D E 0 = D := rfl
theorem bd_war (D E : Nat) : bd D E 1 = 1 := rfl
theorem bd_salt (D E : Nat) {j : Nat} (h1 : 2 ≤ j) (h2 : j < 8) : bd D E j = 999 := by
  rw [bd, if_neg (by omega), if_neg (by omega), if_pos (by omega)]
theorem bd_roof (D E : Nat) {j : Nat} (h1 : 8 ≤ j) (h2 : j < 14) : bd D E j = 1 := by
  rw [bd, if_neg (by omega), if_neg (by omega), if_neg (by omega), if_pos (by omega)]
theorem bd_side (D E : Nat) {j : Nat} (h1 : 14 ≤ j) (h2 : j < 20) : bd D E j = 5 := by
  rw [bd, if_neg (by omega), if_neg (by omega), if_neg (by omega), if_neg (by omega), if_pos (by omega)]
theorem bd_grudge (D E : Nat) {j : Nat} (h1 : 20 ≤ j) (h2 : j < 26) : bd D E j = 99 := by
  rw [bd, if_neg (by omega), if_neg (by omega), if_neg (by omega), if_neg (by omega), if_neg (by omega), if_pos (by omega)]
theorem bd_eaten (D E : Nat) {j : Nat} (h1 : 26 ≤ j) (h2 : j < 32) : bd D E j = E := by
  rw [bd, if_neg (by omega), if_neg (by omega), if_neg (by omega), if_neg (by omega), if_neg (by omega), if_neg (by omega), if_pos (by omega)]
theorem bd_peo (D E : Nat) : bd D E 32 = 6 := rfl
theorem bd_tre (D E : Nat) : bd D E 33 = 5 := rfl
theorem bd_seen (D E : Nat) : bd D E 34 = 5 := rfl
theorem bd_plan (D E : Nat) : bd D E 35 = 8 := rfl
theorem bd_book (D E : Nat) : bd D E 36 = 8 := rfl
theorem bd_tape (D E : Nat) : bd D E 37 = 100 := rfl
theorem bd_kind (D E : Nat) {j : Nat} (h1 : 39 ≤ j) (h2 : j < 45) : bd D E j = 6 := by
  rw [bd, if_neg (by omega), if_neg (by omega), if_neg (by omega), if_neg (by omega), if_neg (by omega), if_neg (by omega), if_neg (by omega), if_neg (by omega), if_neg (by omega), if_neg (by omega), if_neg (by omega), if_pos (by omega)]
theorem bd_v (D E : Nat) {j : Nat} (h1 : 45 ≤ j) (h2 : j < 51) : bd D E j = 9 := by
  rw [bd, if_neg (by omega), if_neg (by omega), if_neg (by omega), if_neg (by omega), if_neg (by omega), if_neg (by omega), if_neg (by omega), if_neg (by omega), if_neg (by omega), if_neg (by omega), if_neg (by omega), if_neg (by omega), if_pos (by omega)]
theorem bd_row (D E : Nat) {j : Nat} (h1 : 51 ≤ j) (h2 : j < 75) : bd D E j = 9 := by
  rw [bd, if_neg (by omega), if_neg (by omega), if_neg (by omega), if_neg (by omega), if_neg (by omega), if_neg (by omega), if_neg (by omega), if_neg (by omega), if_neg (by omega), if_neg (by omega), if_neg (by omega), if_neg (by omega), if_pos (by omega)]
theorem bd_sside (D E : Nat) {j : Nat} (h1 : 75 ≤ j) (h2 : j < 80) : bd D E j = 5 := by
  rw [bd, if_neg (by omega), if_neg (by omega), if_neg (by omega), if_neg (by omega), if_neg (by omega), if_neg (by omega), if_neg (by omega), if_neg (by omega), if_neg (by omega), if_neg (by omega), if_neg (by omega), if_neg (by omega), if_neg (by omega), if_pos (by omega)]
theorem bd_ssalt (D E : Nat) {j : Nat} (h1 : 80 ≤ j) (h2 : j < 85) : bd D E j = 999 := by
  rw [bd, if_neg (by omega), if_neg (by omega), if_neg (by omega), if_neg (by omega), if_neg (by omega), if_neg (by omega), if_neg (by omega), if_neg (by omega), if_neg (by omega), if_neg (by omega), if_neg (by omega), if_neg (by omega), if_neg (by omega), if_neg (by omega), if_pos (by omega)]
theorem bd_sdays (D E : Nat) {j : Nat} (h1 : 85 ≤ j) (h2 : j < 90) : bd D E j = 20 := by
  rw [bd, if_neg (by omega), if_neg (by omega), if_neg (by omega), if_neg (by omega), if_neg (by omega), if_neg (by omega), if_neg (by omega), if_neg (by omega), if_neg (by omega), if_neg (by omega), if_neg (by omega), if_neg (by omega), if_neg (by omega), if_neg (by omega), if_neg (by omega), if_pos (by omega)]
theorem bd_pwhat (D E : Nat) {j : Nat} (h1 : 90 ≤ j) (h2 : j < 98) : bd D E j = 3 := by
  rw [bd, if_neg (by omega), if_neg (by omega), if_neg (by omega), if_neg (by omega), if_neg (by omega), if_neg (by omega), if_neg (by omega), if_neg (by omega), if_neg (by omega), if_neg (by omega), if_neg (by omega), if_neg (by omega), if_neg (by omega), if_neg (by omega), if_neg (by omega), if_neg (by omega), if_pos (by omega)]
theorem bd_bside (D E : Nat) {j : Nat} (h1 : 106 ≤ j) (h2 : j < 114) : bd D E j = 5 := by
  rw [bd, if_neg (by omega), if_neg (by omega), if_neg (by omega), if_neg (by omega), if_neg (by omega), if_neg (by omega), if_neg (by omega), if_neg (by omega), if_neg (by omega), if_neg (by omega), if_neg (by omega), if_neg (by omega), if_neg (by omega), if_neg (by omega), if_neg (by omega), if_neg (by omega), if_neg (by omega), if_pos (by omega)]
theorem bd_bsalt (D E : Nat) {j : Nat} (h1 : 114 ≤ j) (h2 : j < 122) : bd D E j = 999 := by
  rw [bd, if_neg (by omega), if_neg (by omega), if_neg (by omega), if_neg (by omega), if_neg (by omega), if_neg (by omega), if_neg (by omega), if_neg (by omega), if_neg (by omega), if_neg (by omega), if_neg (by omega), if_neg (by omega), if_neg (by omega), if_neg (by omega), if_neg (by omega), if_neg (by omega), if_neg (by omega), if_neg (by omega), if_pos (by omega)]
theorem bd_sign (D E : Nat) {j : Nat} (h1 : 122 ≤ j) (h2 : j < 222) : bd D E j = 127 := by
  rw [bd, if_neg (by omega), if_neg (by omega), if_neg (by omega), if_neg (by omega), if_neg (by omega), if_neg (by omega), if_neg (by omega), if_neg (by omega), if_neg (by omega), if_neg (by omega), if_neg (by omega), if_neg (by omega), if_neg (by omega), if_neg (by omega), if_neg (by omega), if_neg (by omega), if_neg (by omega), if_neg (by omega), if_neg (by omega)]
theorem WF.at_bd {S : Nat → Int32} {D E : Nat} (h : WF S D E) {j : Nat} (hj : bdJ j) : NB S j (bd D E j) := by
  obtain ⟨h1, h2, h3⟩ := hj
  rcases (show j = 0 ∨ j = 1 ∨ (2 ≤ j ∧ j < 8) ∨ (8 ≤ j ∧ j < 14) ∨ (14 ≤ j ∧ j < 20) ∨ (20 ≤ j ∧ j < 26) ∨ (26 ≤ j ∧ j < 32) ∨ j = 32 ∨ j = 33 ∨ j = 34 ∨ j = 35 ∨ j = 36 ∨ j = 37 ∨ (39 ≤ j ∧ j < 45) ∨ (45 ≤ j ∧ j < 51) ∨ (51 ≤ j ∧ j < 75) ∨ (75 ≤ j ∧ j < 80) ∨ (80 ≤ j ∧ j < 85) ∨ (85 ≤ j ∧ j < 90) ∨ (90 ≤ j ∧ j < 98) ∨ (106 ≤ j ∧ j < 114) ∨ (114 ≤ j ∧ j < 122) ∨ (122 ≤ j ∧ j < 222) by omega) with rfl | rfl | ⟨c1, c2⟩ | ⟨c1, c2⟩ | ⟨c1, c2⟩ | ⟨c1, c2⟩ | ⟨c1, c2⟩ | rfl | rfl | rfl | rfl | rfl | rfl | ⟨c1, c2⟩ | ⟨c1, c2⟩ | ⟨c1, c2⟩ | ⟨c1, c2⟩ | ⟨c1, c2⟩ | ⟨c1, c2⟩ | ⟨c1, c2⟩ | ⟨c1, c2⟩ | ⟨c1, c2⟩ | ⟨c1, c2⟩
  · exact h.day
  · exact h.war
  · rw [bd_salt D E c1 c2]
    have q := h.salt (j - 2) (by omega)
    rw [show 2 + (j - 2) = j by omega] at q
    exact q
  · rw [bd_roof D E c1 c2]
    have q := h.roof (j - 8) (by omega)
    rw [show 8 + (j - 8) = j by omega] at q
    exact q
  · rw [bd_side D E c1 c2]
    have q := h.side (j - 14) (by omega)
    rw [show 14 + (j - 14) = j by omega] at q
    exact q
  · rw [bd_grudge D E c1 c2]
    have q := h.grudge (j - 20) (by omega)
    rw [show 20 + (j - 20) = j by omega] at q
    exact q
  · rw [bd_eaten D E c1 c2]
    have q := h.eaten (j - 26) (by omega)
    rw [show 26 + (j - 26) = j by omega] at q
    exact q
  · exact h.peo
  · exact h.tre
  · exact h.seen
  · exact h.plan
  · exact h.book
  · exact h.tape
  · rw [bd_kind D E c1 c2]
    have q := h.kind (j - 39) (by omega)
    rw [show 39 + (j - 39) = j by omega] at q
    exact q
  · rw [bd_v D E c1 c2]
    have q := h.v (j - 45) (by omega)
    rw [show 45 + (j - 45) = j by omega] at q
    exact q
  · rw [bd_row D E c1 c2]
    have q := h.row (j - 51) (by omega)
    rw [show 51 + (j - 51) = j by omega] at q
    exact q
  · rw [bd_sside D E c1 c2]
    have q := h.sside (j - 75) (by omega)
    rw [show 75 + (j - 75) = j by omega] at q
    exact q
  · rw [bd_ssalt D E c1 c2]
    have q := h.ssalt (j - 80) (by omega)
    rw [show 80 + (j - 80) = j by omega] at q
    exact q
  · rw [bd_sdays D E c1 c2]
    have q := h.sdays (j - 85) (by omega)
    rw [show 85 + (j - 85) = j by omega] at q
    exact q
  · rw [bd_pwhat D E c1 c2]
    have q := h.pwhat (j - 90) (by omega)
    rw [show 90 + (j - 90) = j by omega] at q
    exact q
  · rw [bd_bside D E c1 c2]
    have q := h.bside (j - 106) (by omega)
    rw [show 106 + (j - 106) = j by omega] at q
    exact q
  · rw [bd_bsalt D E c1 c2]
    have q := h.bsalt (j - 114) (by omega)
    rw [show 114 + (j - 114) = j by omega] at q
    exact q
  · rw [bd_sign D E c1 c2]
    have q := h.sign (j - 122) (by omega)
    rw [show 122 + (j - 122) = j by omega] at q
    exact q
theorem WF.of_bd {S : Nat → Int32} {D E : Nat} (h : ∀ j, bdJ j → NB S j (bd D E j)) (hp : PnOK S) (hh : HoldOK S) : WF S D E := by
  have g : ∀ b k m, bdJ (b + k) → bd D E (b + k) = m → NB S (b + k) m := fun b k m q e => e ▸ h _ q
  exact ⟨h 0 ⟨by omega, by omega, by omega⟩, h 1 ⟨by omega, by omega, by omega⟩, (fun k hk => g 2 k 999 ⟨by omega, by omega, by omega⟩ (bd_salt D E (by omega) (by omega))), (fun k hk => g 8 k 1 ⟨by omega, by omega, by omega⟩ (bd_roof D E (by omega) (by omega))), (fun k hk => g 14 k 5 ⟨by omega, by omega, by omega⟩ (bd_side D E (by omega) (by omega))), (fun k hk => g 20 k 99 ⟨by omega, by omega, by omega⟩ (bd_grudge D E (by omega) (by omega))), (fun k hk => g 26 k E ⟨by omega, by omega, by omega⟩ (bd_eaten D E (by omega) (by omega))), h 32 ⟨by omega, by omega, by omega⟩, h 33 ⟨by omega, by omega, by omega⟩, h 34 ⟨by omega, by omega, by omega⟩, h 35 ⟨by omega, by omega, by omega⟩, h 36 ⟨by omega, by omega, by omega⟩, h 37 ⟨by omega, by omega, by omega⟩, (fun k hk => g 39 k 6 ⟨by omega, by omega, by omega⟩ (bd_kind D E (by omega) (by omega))), (fun k hk => g 45 k 9 ⟨by omega, by omega, by omega⟩ (bd_v D E (by omega) (by omega))), (fun k hk => g 51 k 9 ⟨by omega, by omega, by omega⟩ (bd_row D E (by omega) (by omega))), (fun k hk => ⟨g 75 k 5 ⟨by omega, by omega, by omega⟩ (bd_sside D E (by omega) (by omega)), g 80 k 999 ⟨by omega, by omega, by omega⟩ (bd_ssalt D E (by omega) (by omega)), g 85 k 20 ⟨by omega, by omega, by omega⟩ (bd_sdays D E (by omega) (by omega))⟩), (fun k hk => g 90 k 3 ⟨by omega, by omega, by omega⟩ (bd_pwhat D E (by omega) (by omega))), hp, (fun k hk => ⟨g 106 k 5 ⟨by omega, by omega, by omega⟩ (bd_bside D E (by omega) (by omega)), g 114 k 999 ⟨by omega, by omega, by omega⟩ (bd_bsalt D E (by omega) (by omega))⟩), (fun k hk => g 122 k 127 ⟨by omega, by omega, by omega⟩ (bd_sign D E (by omega) (by omega))), hh⟩
theorem WF.pnok {S : Nat → Int32} {D E : Nat} (h : WF S D E) : PnOK S := h.pnum
theorem PnOK.congr {S S' : Nat → Int32} (h : PnOK S) (h1 : ∀ j, 90 ≤ j → j < 106 → S' j = S j) (h2 : sn S' 35 ≤ sn S 35) (h3 : sn S 32 ≤ sn S' 32) : PnOK S' := by
  intro k hk
  have q := h k hk
  rw [h1 (90 + k) (by omega) (by omega), show sn S' (98 + k) = sn S (98 + k) from sn_congr (h1 _ (by omega) (by omega))]
  exact ⟨fun a => (q.1 a).congr (h1 _ (by omega) (by omega)), fun a b => ⟨(q.2 a (by omega)).1.congr (h1 _ (by omega) (by omega)), Nat.lt_of_lt_of_le (q.2 a (by omega)).2 h3⟩⟩
theorem hold_congr {S S' : Nat → Int32} (h : HoldOK S) (h33 : sn S 33 ≤ sn S' 33) (h38 : S' 38 = S 38) (h222 : ∀ j, 222 ≤ j → j < 937 → S' j = S j) : HoldOK S' := by
  have e38 : sn S' 38 = sn S 38 := sn_congr h38
  unfold HoldOK at h ⊢
  rw [h38, e38]
  rcases h with h | ⟨a1, a2, a3, a4, a5, a6⟩
  · exact Or.inl h
  · have b := a1.le
    have b5 := a5.le
    refine Or.inr ⟨a1.congr h38, Nat.lt_of_lt_of_le a2 h33, a3.congr (h222 _ (by omega) (by omega)), a4.congr (h222 _ (by omega) (by omega)), a5.congr (h222 _ (by omega) (by omega)), ?_⟩
    have e : stL S' (sn S 38) = stL S (sn S 38) := by
      unfold stL
      rw [show sn S' (232 + sn S 38) = sn S (232 + sn S 38) from sn_congr (h222 _ (by omega) (by omega))]
      refine List.map_congr_left fun i hi => ?_
      have hi2 := List.mem_range.mp hi
      exact h222 _ (by omega) (by omega)
    rw [e]
    exact a6
/-- only places below 937 count -/
theorem WF.same {S S' : Nat → Int32} {D E : Nat} (h : WF S D E) (e : ∀ j, j < 937 → S' j = S j) : WF S' D E :=
  WF.of_bd (fun j hj => (h.at_bd hj).congr (e j (by omega))) (h.pnok.congr (fun j _ _ => e j (by omega)) (Nat.le_of_eq (sn_congr (e _ (by omega)))) (Nat.le_of_eq (sn_congr (e _ (by omega))).symm)) (hold_congr h.hold (Nat.le_of_eq (sn_congr (e _ (by omega))).symm) (e _ (by omega)) (fun j _ _ => e j (by omega)))
theorem WF.one {S : Nat → Int32} {D E i x : Nat} (h : WF S D E) (hi : bdJ i) (h33 : i ≠ 33) (h32 : i = 32 → sn S 32 ≤ x) (h35 : i = 35 → x ≤ sn S 35) (h90 : ¬ (90 ≤ i ∧ i < 106)) (hx : x ≤ bd D E i) : WF (Jvm.Pilot.CSaltPeaceLaw_law_r9810_aa630b.upd S i (nI x)) D E := by
  have hb := (h.at_bd hi).1
  refine WF.of_bd (fun j hj => ?_) (h.pnok.congr (fun j _ _ => upd_ne _ _ (by omega)) ?_ ?_) (hold_congr h.hold (Nat.le_of_eq (sn_congr (upd_ne _ _ (by omega))).symm) (upd_ne _ _ (by omega)) (fun j _ _ => upd_ne _ _ (by omega)))
  · by_cases c : j = i
    · subst c
      exact NB.of hb hx (upd_eq _ _ _)
    · exact (h.at_bd hj).congr (upd_ne _ _ c)
  · by_cases c : i = 35
    · subst c
      rw [sn_of (by omega) (upd_eq _ _ _)]
      exact h35 rfl
    · exact Nat.le_of_eq (sn_congr (upd_ne _ _ (by omega)))
  · by_cases c : i = 32
    · subst c
      rw [show sn (Jvm.Pilot.CSaltPeaceLaw_law_r9810_aa630b.upd S 32 (nI x)) 32 = x from sn_of (by omega) (upd_eq _ _ _)]
      exact h32 rfl
    · exact Nat.le_of_eq (sn_congr (upd_ne _ _ (by omega))).symm
