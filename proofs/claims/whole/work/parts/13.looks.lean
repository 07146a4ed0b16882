/-! a TREATY's steps: the array of truths, and the stack -/
def repT (T : Nat → Int32) : List Bool → Prop
  | [] => True
  | b :: l => T l.length = bI (b = true) ∧ repT T l
theorem repT_upd {T : Nat → Int32} {k : Nat} (x : Int32) : ∀ {l : List Bool}, repT T l → l.length ≤ k → repT (upd T k x) l
  | [], _, _ => trivial
  | b :: l, h, hk => ⟨(upd_ne _ _ (by have : l.length + 1 ≤ k := hk; omega)).trans h.1, repT_upd x h.2 (by have : l.length + 1 ≤ k := hk; omega)⟩
theorem repT_push {T : Nat → Int32} {l : List Bool} {b : Bool} {x : Int32} (h : repT T l) (hx : x = bI (b = true)) : repT (upd T l.length x) (b :: l) := ⟨(upd_eq _ _ _).trans hx, repT_upd x h (Nat.le_refl _)⟩
theorem ne_nI {x : Int32} {k : Nat} (hk : k < 2 ^ 31) (hx : x < 0) : ¬ x = nI k := fun e => nI_pos hk (e ▸ hx)
theorem mk_toInt {c n : Nat} (hc : c < 1000) (hn : n < 100) : (-nI c - nI n).toInt = -(c : Int) - n := by
  have h1 : (nI c).toInt = c := nI_toInt (by omega)
  have h2 : (nI n).toInt = n := nI_toInt (by omega)
  rw [Int32.toInt_sub, Int32.toInt_neg, h1, h2]
  have e1 : Int.bmod (-(c : Int)) (2 ^ 32) = -(c : Int) := by rw [Int.bmod_def]; omega
  rw [e1, Int.bmod_def]
  omega
theorem mk_10 (n : Nat) : (-10 : Int32) - nI n = -nI 10 - nI n := rfl
theorem mk_200 (n : Nat) : (-200 : Int32) - nI n = -nI 200 - nI n := rfl
theorem mk_le10 {n : Nat} (hn : n < 100) : (-10 : Int32) - nI n ≤ -10 := by
  rw [Int32.le_iff_toInt_le, mk_10, mk_toInt (by omega) hn]
  have : (-10 : Int32).toInt = -10 := by decide
  omega
theorem mk_le200 {n : Nat} (hn : n < 100) : (-200 : Int32) - nI n ≤ -10 := by
  rw [Int32.le_iff_toInt_le, mk_200, mk_toInt (by omega) hn]
  have : (-10 : Int32).toInt = -10 := by decide
  omega
theorem mk_neg10 {n : Nat} (hn : n < 100) : (-10 : Int32) - nI n < 0 := Int32.lt_of_le_of_lt (mk_le10 hn) (by decide)
theorem mk_neg200 {n : Nat} (hn : n < 100) : (-200 : Int32) - nI n < 0 := Int32.lt_of_le_of_lt (mk_le200 hn) (by decide)
theorem okD_test {k d : Nat} {l : List Int32} (hk : k < 2 ^ 31) (h : okD (nI k :: l) d) : d < 20 ∧ k % 8 < 6 ∧ k / 8 % 4 < 3 ∧ k / 32 < 100 ∧ okD l (d + 1) := by
  rcases h with ⟨-, h1, h2, h3, h4, h5⟩ | ⟨h, -⟩ | ⟨h | h, -⟩ | ⟨⟨n, hn, h | h⟩, -⟩
  · rw [nI_clamp hk] at h2 h3 h4
    exact ⟨h1, h2, h3, h4, h5⟩
  · exact absurd h.symm (ne_nI hk (by decide))
  · exact absurd h.symm (ne_nI hk (by decide))
  · exact absurd h.symm (ne_nI hk (by decide))
  · exact absurd h.symm (ne_nI hk (mk_neg10 hn))
  · exact absurd h.symm (ne_nI hk (mk_neg200 hn))
theorem neg1_ne : ¬ ((-1 : Int32) = -2 ∨ (-1 : Int32) = -3) := by decide
theorem okD_not {d : Nat} {l : List Int32} (h : okD (-1 :: l) d) : 1 ≤ d ∧ okD l d := by
  rcases h with ⟨h, -⟩ | ⟨-, h⟩ | ⟨h, -⟩ | ⟨⟨n, hn, h | h⟩, -⟩
  · exact absurd h (by decide)
  · exact h
  · exact absurd h neg1_ne
  · exact absurd (h ▸ (mk_le10 hn)) (by decide)
  · exact absurd (h ▸ (mk_le200 hn)) (by decide)
theorem okD_bin {s : Int32} {d : Nat} {l : List Int32} (h0 : s < 0) (h1 : ¬ s = -1) (h2 : ¬ s ≤ -10) (h : okD (s :: l) d) : (s = -2 ∨ s = -3) ∧ 2 ≤ d ∧ okD l (d - 1) := by
  rcases h with ⟨h, -⟩ | ⟨h, -⟩ | h | ⟨⟨n, hn, h | h⟩, -⟩
  · exact absurd h0 (Int32.not_lt.mpr h)
  · exact absurd h h1
  · exact h
  · exact absurd (h ▸ mk_le10 hn) h2
  · exact absurd (h ▸ mk_le200 hn) h2
theorem okD_mark {s : Int32} {d : Nat} {l : List Int32} (h2 : s ≤ -10) (h : okD (s :: l) d) : (∃ n, n < 100 ∧ (s = -10 - nI n ∨ s = -200 - nI n)) ∧ d = 1 ∧ okD l 0 := by
  rcases h with ⟨h, -⟩ | ⟨h, -⟩ | ⟨h | h, -⟩ | h
  · exact absurd (Int32.le_trans h h2) (by decide)
  · exact absurd (h ▸ h2) (by decide)
  · exact absurd (h ▸ h2) (by decide)
  · exact absurd (h ▸ h2) (by decide)
  · exact h
theorem evL_test {B : Nat → Int32} {k : Nat} {l : List Int32} {st : List Bool} {sum A : Int32} {b : Bool} (hk : k < 2 ^ 31) (hb : tsF B k = b) (h : evL B (nI k :: l) st sum = A) : evL B l (b :: st) sum = A := by
  rw [evL, if_pos (nI_pos' hk), nI_clamp hk, hb] at h
  exact h
theorem evL_not {B : Nat → Int32} {l : List Int32} {st : List Bool} {sum A : Int32} {b c : Bool} (hb : (!b) = c) (h : evL B (-1 :: l) (b :: st) sum = A) : evL B l (c :: st) sum = A := by
  rw [evL, if_neg (by decide), if_pos rfl] at h
  rw [← hb]
  exact h
theorem evL_bin {B : Nat → Int32} {l : List Int32} {st : List Bool} {s sum A : Int32} {b0 b1 c : Bool} (h0 : s < 0) (h1 : ¬ s = -1) (h2 : ¬ s ≤ -10) (hb : (if s = -2 then (b0 && b1) else (b0 || b1)) = c) (h : evL B (s :: l) (b1 :: b0 :: st) sum = A) : evL B l (c :: st) sum = A := by
  rw [evL, if_neg (Int32.not_le.mpr h0), if_neg h1, if_pos (Int32.not_le.mp h2)] at h
  rw [← hb]
  exact h
theorem evL_mark {B : Nat → Int32} {l : List Int32} {st : List Bool} {s sum A x : Int32} {b : Bool} (h0 : s < 0) (h1 : ¬ s = -1) (h2 : s ≤ -10) (hx : mkF s b sum = x) (h : evL B (s :: l) (b :: st) sum = A) : evL B l [] x = A := by
  rw [evL, if_neg (Int32.not_le.mpr h0), if_neg h1, if_neg (Int32.not_lt.mpr h2)] at h
  rw [← hx]
  exact h
theorem drop_cons {α : Type} {l r : List α} {j : Nat} {s : α} (h : l.drop j = s :: r) : l[j]? = some s ∧ l.drop (j + 1) = r := by
  have h1 : (l.drop j)[0]? = some s := by rw [h]; rfl
  rw [List.getElem?_drop] at h1
  refine ⟨h1, ?_⟩
  rw [← List.drop_drop, h]
  rfl
theorem stL_at {S : Nat → Int32} {h j : Nat} {s : Int32} (e : (stL S h)[j]? = some s) : S (237 + 140 * h + j) = s := by
  unfold stL at e
  rw [List.getElem?_map] at e
  by_cases hj : j < sn S (232 + h)
  · rw [List.getElem?_range hj] at e
    exact Option.some.inj e
  · rw [List.getElem?_eq_none (by simpa using hj)] at e
    cases e
theorem stL_len (S : Nat → Int32) (h : Nat) : (stL S h).length = sn S (232 + h) := by simp [stL]
