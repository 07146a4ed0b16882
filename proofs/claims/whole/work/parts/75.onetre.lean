/-! a row that treaty() may leave; all such rows show the class the same -/
def treV (S : Nat → Int32) (j : Nat) : Int32 := if j = 37 then nI 0 else if (treG (tapF S) (sn S 37)).1 = true ∧ (treG (tapF S) (sn S 37)).2.1 = sn S 37 then (if j = 33 then nI (sn S 33 + 1) else if j = 38 then nI (sn S 33) else if j = 222 + sn S 33 then nI (treG (tapF S) (sn S 37)).2.2.1 else if j = 227 + sn S 33 then nI (treG (tapF S) (sn S 37)).2.2.2.1 else if j = 232 + sn S 33 then nI (treG (tapF S) (sn S 37)).2.2.2.2.length else if 237 + 140 * sn S 33 ≤ j ∧ j < 237 + 140 * sn S 33 + 140 then (treG (tapF S) (sn S 37)).2.2.2.2.getD (j - (237 + 140 * sn S 33)) 0 else S j) else S j
def treU (S : Nat → Int32) : Nat → Int32 := if sn S 33 = 5 then S else treV S
section TREUs
variable {S : Nat → Int32} {D E : Nat}
theorem treU_ok (h : WF S D E) : treT S (treU S) := by
  have b33 := h.tre.le
  have b37 := h.tape.le
  by_cases n5 : sn S 33 = 5
  · rw [treT, if_pos n5, treU, if_pos n5]
  · rw [treT, if_neg n5]
    obtain ⟨-, tg2, -, -, -, tg6, -⟩ := treG_p (tapF S) (sn S 37)
    have e : treU S = treV S := if_neg n5
    by_cases c : (treG (tapF S) (sn S 37)).1 = true ∧ (treG (tapF S) (sn S 37)).2.1 = sn S 37
    · have tl := tg6 c.1
      refine ⟨fun j h1 h2 h3 h4 h5 h6 h7 => ?_, ?_, ?_⟩
      · rw [e, treV, if_neg h2, if_pos c, if_neg h1, if_neg h3, if_neg h4, if_neg h5, if_neg h6, if_neg h7]
      · rw [e, treV, if_pos rfl]
      · rw [if_pos c]
        refine ⟨?_, ?_, ?_, ?_, ?_, fun i hi => ?_⟩
        · rw [e, treV, if_neg (by omega), if_pos c, if_pos rfl]
        · rw [e, treV, if_neg (by omega), if_pos c, if_neg (by omega), if_pos rfl]
        · rw [e, treV, if_neg (by omega), if_pos c, if_neg (by omega), if_neg (by omega), if_pos rfl]
        · rw [e, treV, if_neg (by omega), if_pos c, if_neg (by omega), if_neg (by omega), if_neg (by omega), if_pos rfl]
        · rw [e, treV, if_neg (by omega), if_pos c, if_neg (by omega), if_neg (by omega), if_neg (by omega), if_neg (by omega), if_pos rfl]
        · rw [e, treV, if_neg (by omega), if_pos c, if_neg (by omega), if_neg (by omega), if_neg (by omega), if_neg (by omega), if_neg (by omega), if_pos (by omega), show 237 + 140 * sn S 33 + i - (237 + 140 * sn S 33) = i by omega, List.getD_eq_getElem?_getD, List.getElem?_eq_getElem hi]
          rfl
    · refine ⟨fun j h1 h2 h3 h4 h5 h6 h7 => ?_, ?_, ?_⟩
      · rw [e, treV, if_neg h2, if_neg c]
      · rw [e, treV, if_pos rfl]
      · rw [if_neg c]
        refine ⟨?_, ?_⟩
        · rw [e, treV, if_neg (by omega), if_neg c]
        · rw [e, treV, if_neg (by omega), if_neg c]
theorem treT_one {U V : Nat → Int32} (h : WF S D E) (hU : treT S U) (hV : treT S V) : (∀ j, j < 222 → U j = V j) ∧ rainF U = rainF V ∧ needF U = needF V ∧ hlL U = hlL V := by
  have b33 := h.tre.le
  have b37 := h.tape.le
  by_cases n5 : sn S 33 = 5
  · rw [treT, if_pos n5] at hU hV
    rw [hU, hV]
    exact ⟨fun _ _ => rfl, rfl, rfl, rfl⟩
  · rw [treT, if_neg n5] at hU hV
    obtain ⟨hT, h37, h2⟩ := hU
    obtain ⟨gT, g37, g2⟩ := hV
    obtain ⟨-, tg2, -, tg4, tg5, tg6, -⟩ := treG_p (tapF S) (sn S 37)
    have key : U 33 = V 33 → U 38 = V 38 → ∀ j, j < 222 → U j = V j := fun a b j hj => by
      by_cases c1 : j = 33
      · rw [c1, a]
      · by_cases c2 : j = 37
        · rw [c2, h37, g37]
        · by_cases c3 : j = 38
          · rw [c3, b]
          · rw [hT j c1 c2 c3 (by omega) (by omega) (by omega) (by omega), gT j c1 c2 c3 (by omega) (by omega) (by omega) (by omega)]
    by_cases c : (treG (tapF S) (sn S 37)).1 = true ∧ (treG (tapF S) (sn S 37)).2.1 = sn S 37
    · have tl := tg6 c.1
      rw [if_pos c] at h2 g2
      obtain ⟨h33, h38, hst⟩ := h2
      obtain ⟨g33, g38, gst⟩ := g2
      obtain ⟨z1, z2, z3⟩ := tst_tells (by omega) h38 hst tg5 (by omega)
      obtain ⟨y1, y2, y3⟩ := tst_tells (by omega) g38 gst tg5 (by omega)
      exact ⟨key (h33.trans g33.symm) (h38.trans g38.symm), z1.trans y1.symm, z2.trans y2.symm, z3.trans y3.symm⟩
    · rw [if_neg c] at h2 g2
      obtain ⟨h33, h38⟩ := h2
      obtain ⟨g33, g38⟩ := g2
      obtain ⟨z1, z2, z3⟩ := tra_tells h (by omega) hT h38
      obtain ⟨y1, y2, y3⟩ := tra_tells h (by omega) gT g38
      exact ⟨key (h33.trans g33.symm) (h38.trans g38.symm), z1.trans y1.symm, z2.trans y2.symm, z3.trans y3.symm⟩
/-- a Moor knows no more of s -/
theorem MoOK.cg {G : GG} {ro : va_W} {tr t : Nat} {U V : Nat → Int32} {os : Nat → Option Nat} (h : MoOK G ro tr V os t) (hW : WF V D E) (e : ∀ j, j < 222 → U j = V j) (e1 : rainF U = rainF V) (e2 : needF U = needF V) (e3 : hlL U = hlL V) : MoOK G ro tr U os t := by
  obtain ⟨h1, h2, h3⟩ := h
  have b := hW.peo.le
  refine ⟨fun p hp => ?_, h2, by rw [e1, e2, e3]; exact h3⟩
  rw [show sn U 32 = sn V 32 from sn_congr (e _ (by omega))] at hp
  rw [show sn U (39 + p) = sn V (39 + p) from sn_congr (e _ (by omega)), show sn U (45 + p) = sn V (45 + p) from sn_congr (e _ (by omega))]
  exact h1 p hp
end TREUs
