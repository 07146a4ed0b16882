/-! THE LAW: its script, its loop's head, what a call leaves of a Moor -/
/-- the law's own script stands outside our cells -/
def Scr (G : GG) (X : Cx) (b L : Nat) (xs : Nat → Int32) : Prop := va_X b L xs (xS X) (xS X).heap ∧ b < (xS X).heap.size ∧ ¬ gA G b
section SCR
variable {G : GG} {M : MI} {d bc bs pc : Nat} {X : Cx} {lv : List (Nat × Value)} {st : List Value} {ws ro : va_W} {b L : Nat} {xs : Nat → Int32}
theorem ev_sld (hC : Cok G M d X) (hX : Scr G X b L xs) {i : Nat} (hi : i < L) (hL : L ≤ 2048) (hdg : decode M.2.1 pc = .ok (.iaload, 1)) (kk : Ev G X bc bs (pc + 1) lv (.int (xs i) :: st) ws ro) : Ev G X bc bs pc lv (.int (nI i) :: .ref b :: st) ws ro := by
  intro H locs cells slots ls hP hD hS hc hs hl
  have e : xs (nI i).toNatClampNeg = xs i := congrArg xs (nI_clamp (by omega))
  refine va_sld hC.x hC.b hX.1 hX.2.1 hX.2.2 hS (vp_in_nI hi (by omega)) hdg ?_
  rw [e]
  exact kk H locs cells slots ls hP hD hS hc hs hl
theorem ev_slen (hC : Cok G M d X) (hX : Scr G X b L xs) (hdg : decode M.2.1 pc = .ok (.arraylength, 1)) (kk : Ev G X bc bs (pc + 1) lv (.int (nI L) :: st) ws ro) : Ev G X bc bs pc lv (.ref b :: st) ws ro := by
  intro H locs cells slots ls hP hD hS hc hs hl
  exact va_slen hC.x hC.b hX.1 hX.2.1 hX.2.2 hS hdg (kk H locs cells slots ls hP hD hS hc hs hl)
end SCR
theorem lg_self (x : Int64) : lg_cmp x x = nI 0 := by
  have h : ¬ x > x := Int64.lt_irrefl
  rw [lg_cmp, if_neg h, if_pos rfl]
  rfl
theorem len_lt {i n : Nat} (hi : i ≤ 2048) (hn : n ≤ 2048) : nI n - nI 4 < nI i ↔ n < i + 4 := by
  rw [Int32.lt_iff_toInt_lt, pk_sub_toInt (by omega) (by omega), nI_toInt (by omega)]
  omega
section MTL
variable {G : GG} {ro : va_W} {tr t D E : Nat} {S S' : Nat → Int32} {os : Nat → Option Nat}
theorem MoOK.tl (h : MoOK G ro tr S os t) (hT : Tl S S') (h32 : S' 32 = S 32) (hk : ∀ j, 39 ≤ j → j < 51 → S' j = S j) (h6 : sn S 32 ≤ 6) : MoOK G ro tr S' os t := by
  obtain ⟨h1, h2, h3⟩ := h
  refine ⟨fun p hp => ?_, h2, by rw [hT.rain, hT.need, hT.hll]; exact h3⟩
  rw [show sn S' 32 = sn S 32 from sn_congr h32] at hp
  rw [show sn S' (39 + p) = sn S (39 + p) from sn_congr (hk _ (by omega) (by omega)), show sn S' (45 + p) = sn S (45 + p) from sn_congr (hk _ (by omega) (by omega))]
  exact h1 p hp
theorem MoOK.keep (h : MoOK G ro tr S os t) (hW : WF S D E) (hn : ∀ j, j = 32 ∨ j = 38 ∨ (39 ≤ j ∧ j < 51) ∨ 222 ≤ j → S' j = S j) : MoOK G ro tr S' os t := h.tl ⟨hn 38 (by omega), fun j hj => hn j (by omega)⟩ (hn 32 (by omega)) (fun j h1 h2 => hn j (by omega)) hW.peo.le
/-- what agrees below 937 is as well kept -/
theorem MoOK.low (h : MoOK G ro tr S os t) (hW : WF S D E) (hn : ∀ j, j < 937 → S' j = S j) : MoOK G ro tr S' os t := by
  have b6 := hW.peo.le
  have e38 : S' 38 = S 38 := hn 38 (by omega)
  have s38 : sn S' 38 = sn S 38 := sn_congr e38
  have key : ∀ w x, w + 4 < 937 → tellF S' w x = tellF S w x := fun w x hw => by
    unfold tellF
    rw [e38, s38]
    rcases hW.hold with h1 | ⟨h1, h2, h3, h4, h5, h6⟩
    · rw [if_pos h1, if_pos h1]
    · rw [hn (w + sn S 38) (by have := h1.le; omega)]
  have e1 : rainF S' = rainF S := key 222 _ (by omega)
  have e2 : needF S' = needF S := by
    unfold needF
    rw [key 227 _ (by omega)]
  have e3 : hlL S' = hlL S := by
    unfold hlL
    rw [e38, s38]
    rcases hW.hold with h1 | ⟨h1, h2, h3, h4, h5, h6⟩
    · rw [if_pos h1, if_pos h1]
    · split
      · rfl
      · have h4 := h1.le
        have h5 := h5.le
        unfold stL
        rw [show sn S' (232 + sn S 38) = sn S (232 + sn S 38) from sn_congr (hn _ (by omega))]
        refine List.map_congr_left fun i hi => hn _ ?_
        have := List.mem_range.mp hi
        omega
  obtain ⟨h1, h2, h3⟩ := h
  refine ⟨fun p hp => ?_, h2, by rw [e1, e2, e3]; exact h3⟩
  rw [show sn S' 32 = sn S 32 from sn_congr (hn _ (by omega))] at hp
  rw [show sn S' (39 + p) = sn S (39 + p) from sn_congr (hn _ (by omega)), show sn S' (45 + p) = sn S (45 + p) from sn_congr (hn _ (by omega))]
  exact h1 p hp
end MTL
