/-! THE TAPE as the class reads it -/
/-- the signs are bytes below 128 -/
def SgOK (Y : Nat → Int32) (e : Nat) : Prop := e ≤ 100 ∧ ∀ i, i < e → ∃ x, x ≤ 127 ∧ Y i = nI x
theorem chF_ne : ∀ k, k < 12 → ∀ j, j < strLen.getD k 0 → chF k j ≠ -1 := by decide +kernel
theorem fnd_neg {k : Nat} (hk : k < 12) : ∀ {f j : Nat}, j + f ≤ strLen.getD k 0 → fndF k (-1) f j = none
  | 0, _, _ => rfl
  | f + 1, j, h => by
    rw [fndF, if_neg (fun z => chF_ne k hk j (by omega) z.symm)]
    exact fnd_neg hk (by omega)
theorem fndI_some {k : Nat} {x : Int32} {j : Nat} (h : fndF k x (strLen.getD k 0) 0 = some j) : fndI k x = nI j := by rw [fndI, h]
theorem fndI_none {k : Nat} {x : Int32} (h : fndF k x (strLen.getD k 0) 0 = none) : fndI k x = -1 := by rw [fndI, h]
theorem fnd5_all : ∀ j, j < 10 → fndF 5 (nI (48 + j)) 10 0 = some j := by decide +kernel
theorem ch5_all : ∀ j, j < 10 → chF 5 j = nI (48 + j) := by decide +kernel
theorem fnd5_t {t : Nat → Int32} {e p : Nat} (h : dgF t e p) : fndF 5 (hrF t e p) 10 0 = some (dvF t e p) := by
  obtain ⟨-, h2, h3⟩ := dg_lt h
  rw [h2]
  exact fnd5_all _ (by omega)
theorem fnd5_f {t : Nat → Int32} {e p : Nat} (h : ¬ dgF t e p) : fndF 5 (hrF t e p) 10 0 = none := by
  cases q : fndF 5 (hrF t e p) 10 0 with
  | none => rfl
  | some j =>
    obtain ⟨-, h2, h3⟩ := fndF_le q
    refine absurd ?_ h
    rw [dgF, h3, ch5_all j (by omega)]
    exact ⟨nI_le (by omega) (by omega), nI_le (by omega) (by omega)⟩
/-- what may stand in the steps of an E -/
def stK (s : Int32) : Prop := 0 ≤ s ∨ s = -1 ∨ s = -2 ∨ s = -3
theorem tstF_k (t : Nat → Int32) (e p : Nat) : ∀ s ∈ (tstF t e p).2.2, stK s := by
  intro s hs
  unfold tstF at hs
  split at hs
  · cases hs
  · next w hw =>
    split at hs
    · cases hs
    · next h hh =>
      simp only at hs
      split at hs
      · rw [List.mem_singleton] at hs
        subst hs
        have h1 := (fndF_le hw).2.1
        have h2 := (fndF_le hh).2.1
        have hn : (numF t e (p + 2)).2.2 ≤ 99 := by
          unfold numF
          split
          · next g =>
            have g3 := (dg_lt g).2.2
            split
            · exact Nat.zero_le _
            · split
              · next g2 =>
                have g4 := (dg_lt g2).2.2
                simp only
                omega
              · simp only
                omega
          · exact Nat.zero_le _
        exact Or.inl (nI_pos' (by omega))
      · cases hs
theorem loopF_k {t : Nat → Int32} {e c : Nat} {code : Int32} {fac : Nat → RE} (hc : code = -2 ∨ code = -3) (hf : ∀ p, ∀ s ∈ (fac p).2.2, stK s) : ∀ (n : Nat) (r : RE), (∀ s ∈ r.2.2, stK s) → ∀ s ∈ (loopF t e fac c code n r).2.2, stK s
  | 0, r, h => h
  | n + 1, r, h => by
    rw [loopF]
    split
    · refine loopF_k hc hf n _ (fun s hs => ?_)
      simp only [List.mem_append] at hs
      rcases hs with hs | hs | hs
      · exact h s hs
      · exact hf _ s hs
      · split at hs
        · rw [List.mem_singleton] at hs
          subst hs
          rcases hc with rfl | rfl
          · exact Or.inr (Or.inr (Or.inl rfl))
          · exact Or.inr (Or.inr (Or.inr rfl))
        · cases hs
    · exact h
theorem evrF_k {t : Nat → Int32} {e : Nat} {fac : Nat → RE} (hf : ∀ p, ∀ s ∈ (fac p).2.2, stK s) (p : Nat) : ∀ s ∈ (evrF t e fac p).2.2, stK s := loopF_k (Or.inl rfl) hf _ _ (hf p)
theorem somF_k {t : Nat → Int32} {e : Nat} {fac : Nat → RE} (hf : ∀ p, ∀ s ∈ (fac p).2.2, stK s) (p : Nat) : ∀ s ∈ (somF t e fac p).2.2, stK s := loopF_k (Or.inr rfl) (fun p => evrF_k hf p) _ _ (evrF_k hf p)
theorem facD_k (t : Nat → Int32) (e : Nat) : ∀ (d p : Nat), ∀ s ∈ (facD t e d p).2.2, stK s
  | 0, p => tstF_k t e p
  | d + 1, p => by
    rw [facD]
    split
    · intro s hs
      simp only [List.mem_append] at hs
      rcases hs with hs | hs
      · exact facD_k t e d _ s hs
      · split at hs
        · rw [List.mem_singleton] at hs
          exact Or.inr (Or.inl hs)
        · cases hs
    · split
      · split
        · exact somF_k (facD_k t e d) _
        · exact somF_k (facD_k t e d) _
      · exact tstF_k t e p
/-! one loop for T and E -/
def innF (t : Nat → Int32) (e : Nat) (fac : Nat → RE) (a : Bool) (lt : List Int32) (p m : Nat) : RE := loopF t e fac 38 (-2) m (if a = true then ((fac p).1, (fac p).2.1, lt ++ ((fac p).2.2 ++ (if (fac p).1 = true then [-2] else []))) else fac p)
def outF (o : Bool) (ls : List Int32) (x : RE) : RE := if o = true then (x.1, x.2.1, ls ++ (x.2.2 ++ (if x.1 = true then [-3] else []))) else x
def exF (t : Nat → Int32) (e : Nat) (fac : Nat → RE) (a o : Bool) (ls lt : List Int32) (p m n : Nat) : RE := loopF t e (evrF t e fac) 124 (-3) n (outF o ls (innF t e fac a lt p m))
def onI (b : Bool) (s : Int32) : List Int32 := if b = true then [s] else []
theorem ex_start (t : Nat → Int32) (e : Nat) (fac : Nat → RE) (p : Nat) : somF t e fac p = exF t e fac false false [] [] p 101 101 := by
  unfold exF outF innF
  rw [if_neg (show ¬ (false = true) by decide), if_neg (show ¬ (false = true) by decide)]
  unfold somF evrF
  rfl
theorem loopF_no {t : Nat → Int32} {e c n : Nat} {fac : Nat → RE} {code : Int32} {r : RE} (h : r.1 = false) : loopF t e fac c code n r = r := loopF_f (fun z => by rw [h] at z; exact absurd z.1 (by decide)) n
section EX5
variable {t : Nat → Int32} {e : Nat} {fac : Nat → RE} {a o : Bool} {ls lt : List Int32} {p m n : Nat}
theorem ex_no (h : (fac p).1 = false) : (exF t e fac a o ls lt p m n).1 = false ∧ (exF t e fac a o ls lt p m n).2.1 = (fac p).2.1 := by
  have h1 : (innF t e fac a lt p m).1 = false ∧ (innF t e fac a lt p m).2.1 = (fac p).2.1 := by
    unfold innF
    cases a
    · rw [if_neg (show ¬ (false = true) by decide), loopF_no h]
      exact ⟨h, rfl⟩
    · rw [if_pos rfl, loopF_no (r := ((fac p).1, (fac p).2.1, lt ++ ((fac p).2.2 ++ (if (fac p).1 = true then [-2] else [])))) h]
      exact ⟨h, rfl⟩
  unfold exF outF
  cases o
  · rw [if_neg (show ¬ (false = true) by decide), loopF_no h1.1]
    exact h1
  · rw [if_pos rfl, loopF_no (r := ((innF t e fac a lt p m).1, (innF t e fac a lt p m).2.1, ls ++ ((innF t e fac a lt p m).2.2 ++ (if (innF t e fac a lt p m).1 = true then [-3] else [])))) h1.1]
    exact h1
theorem inn_st (h : (fac p).1 = true) (ha : a = false → lt = []) : (if a = true then ((fac p).1, (fac p).2.1, lt ++ ((fac p).2.2 ++ (if (fac p).1 = true then [-2] else []))) else fac p) = (true, (fac p).2.1, lt ++ ((fac p).2.2 ++ onI a (-2))) := by
  cases a
  · rw [if_neg (by decide), ha rfl, List.nil_append, onI, if_neg (by decide), List.append_nil, ← h]
  · rw [if_pos rfl, if_pos h, h]
    rfl
theorem ex_and (h : (fac p).1 = true) (ha : a = false → lt = []) (hq : hrF t e (fac p).2.1 = nI 38) (hm : 0 < m) : exF t e fac a o ls lt p m n = exF t e fac true o ls (lt ++ ((fac p).2.2 ++ onI a (-2))) ((fac p).2.1 + 1) (m - 1) n := by
  unfold exF innF
  rw [inn_st h ha, loopF_t (r := (true, (fac p).2.1, lt ++ ((fac p).2.2 ++ onI a (-2)))) rfl hq hm, if_pos rfl]
theorem inn_end (h : (fac p).1 = true) (ha : a = false → lt = []) (hq : ¬ hrF t e (fac p).2.1 = nI 38) : innF t e fac a lt p m = (true, (fac p).2.1, lt ++ ((fac p).2.2 ++ onI a (-2))) := by
  unfold innF
  rw [inn_st h ha, loopF_f (r := (true, (fac p).2.1, lt ++ ((fac p).2.2 ++ onI a (-2)))) (fun z => hq z.2)]
theorem out_st {q : Nat} {l : List Int32} (ho : o = false → ls = []) : outF o ls (true, q, l) = (true, q, ls ++ (l ++ onI o (-3))) := by
  unfold outF
  cases o
  · rw [if_neg (by decide), ho rfl, List.nil_append, onI, if_neg (by decide), List.append_nil]
  · rw [if_pos rfl, if_pos rfl]
    rfl
theorem ex_or (h : (fac p).1 = true) (ha : a = false → lt = []) (ho : o = false → ls = []) (hq : ¬ hrF t e (fac p).2.1 = nI 38) (hr : hrF t e (fac p).2.1 = nI 124) (hn : 0 < n) : exF t e fac a o ls lt p m n = exF t e fac false true (ls ++ ((lt ++ ((fac p).2.2 ++ onI a (-2))) ++ onI o (-3))) [] ((fac p).2.1 + 1) 101 (n - 1) := by
  unfold exF
  rw [inn_end h ha hq, out_st ho, loopF_t (r := (true, (fac p).2.1, ls ++ ((lt ++ ((fac p).2.2 ++ onI a (-2))) ++ onI o (-3)))) rfl hr hn, outF, if_pos rfl]
  unfold innF evrF
  rw [if_neg (show ¬ (false = true) by decide)]
theorem ex_end (h : (fac p).1 = true) (ha : a = false → lt = []) (ho : o = false → ls = []) (hq : ¬ hrF t e (fac p).2.1 = nI 38) (hr : ¬ hrF t e (fac p).2.1 = nI 124) : exF t e fac a o ls lt p m n = (true, (fac p).2.1, ls ++ ((lt ++ ((fac p).2.2 ++ onI a (-2))) ++ onI o (-3))) := by
  unfold exF
  rw [inn_end h ha hq, out_st ho, loopF_f (r := (true, (fac p).2.1, ls ++ ((lt ++ ((fac p).2.2 ++ onI a (-2))) ++ onI o (-3)))) (fun z => hr z.2)]
end EX5
/-! words -/
theorem spl_sh {t : Nat → Int32} {e k k' : Nat} (h : ∀ j, chN k (j + 1) = chN k' j) : ∀ (f j p : Nat), splF t e k f (j + 1) p = splF t e k' f j p
  | 0, _, _ => rfl
  | f + 1, j, p => by rw [splF, splF, h j, spl_sh h f (j + 1) (p + 1)]
theorem spl_shb {t : Nat → Int32} {e k k' n : Nat} (h : ∀ j, j < n → chN k (j + 1) = chN k' j) : ∀ (f j p : Nat), j + f ≤ n → splF t e k f (j + 1) p = splF t e k' f j p
  | 0, _, _, _ => rfl
  | f + 1, j, p, hj => by rw [splF, splF, h j (by omega), spl_shb h f (j + 1) (p + 1) (by omega)]
/-- the word behind its first letter: which constant, how long -/
theorem ch_w : ∀ w, w < 4 → strLen.getD (8 + w) 0 = strLen.getD (1 + w) 0 + 1 ∧ chF 0 w = nI (chN (8 + w) 0) ∧ ∀ j, j < strLen.getD (1 + w) 0 → chN (8 + w) (j + 1) = chN (1 + w) j := by decide +kernel
theorem spl_word {t : Nat → Int32} {e p w : Nat} (hw : w < 4) (h : hrF t e p = chF 0 w) : splF t e (8 + w) (strLen.getD (8 + w) 0) 0 p = splF t e (1 + w) (strLen.getD (1 + w) 0) 0 (p + 1) := by
  obtain ⟨c1, c2, c3⟩ := ch_w w hw
  rw [c1, splF, if_pos (h.trans c2)]
  exact spl_shb c3 _ 0 _ (by omega)
/-! CLAUSES as the class keeps them -/
def okK (s : Int32) : Prop := stK s ∨ s ≤ -10
theorem stK_not {s : Int32} (h : stK s) : ¬ s ≤ -10 := by
  rcases h with h | rfl | rfl | rfl
  · exact fun z => absurd (Int32.le_trans h z) (by decide)
  · decide
  · decide
  · decide
theorem cvS_k {s : Int32} (h : stK s) (l : List Int32) : cvS (s :: l) = cvO s :: cvS l := by
  rw [cvS, cvO]
  rcases h with k | rfl | rfl | rfl
  · rw [if_pos k, if_pos k]
  · rw [if_neg (show ¬ (0 : Int32) ≤ -1 by decide), if_pos (rfl : (-1 : Int32) = -1), if_neg (show ¬ (0 : Int32) ≤ -1 by decide), if_pos (rfl : (-1 : Int32) = -1)]
  · rw [if_neg (show ¬ (0 : Int32) ≤ -2 by decide), if_neg (show ¬ (-2 : Int32) = -1 by decide), if_pos (rfl : (-2 : Int32) = -2), if_neg (show ¬ (0 : Int32) ≤ -2 by decide), if_neg (show ¬ (-2 : Int32) = -1 by decide), if_pos (rfl : (-2 : Int32) = -2)]
  · rw [if_neg (show ¬ (0 : Int32) ≤ -3 by decide), if_neg (show ¬ (-3 : Int32) = -1 by decide), if_neg (show ¬ (-3 : Int32) = -2 by decide), if_pos (rfl : (-3 : Int32) = -3), if_neg (show ¬ (0 : Int32) ≤ -3 by decide), if_neg (show ¬ (-3 : Int32) = -1 by decide), if_neg (show ¬ (-3 : Int32) = -2 by decide)]
theorem cvS_m {s : Int32} (h : s ≤ -10) (l : List Int32) : cvS (s :: l) = cvS l := by
  obtain ⟨n1, n2, n3, n4, -⟩ := neg_of h
  rw [cvS, if_neg n1, if_neg n2, if_neg n3, if_neg n4]
theorem cv_app : ∀ {l : List Int32} {m : List Int32} {c : Nat}, (∀ s ∈ l, okK s) → cvS (l ++ m) = cvS l ++ cvS m ∧ cvA (l ++ m) = cvA l ++ cvA m ∧ cvE (l ++ m) c = cvE l c ++ cvE m (c + (cvS l).length)
  | [], m, c, _ => ⟨rfl, rfl, rfl⟩
  | s :: l, m, c, h => by
    have hl : ∀ z ∈ l, okK z := fun z hz => h z (List.mem_cons_of_mem _ hz)
    rcases h s (List.mem_cons_self ..) with k | k
    · obtain ⟨i1, i2, i3⟩ := cv_app (m := m) (c := c + 1) hl
      have n := stK_not k
      refine ⟨?_, ?_, ?_⟩
      · rw [List.cons_append, cvS_k k, cvS_k k, i1]; rfl
      · rw [List.cons_append, cvA, cvA, if_neg n, if_neg n, i2]
      · rw [List.cons_append, cvE, cvE, if_neg n, if_neg n, i3, cvS_k k, List.length_cons, show c + 1 + (cvS l).length = c + ((cvS l).length + 1) by omega]
    · obtain ⟨i1, i2, i3⟩ := cv_app (m := m) (c := c) hl
      refine ⟨?_, ?_, ?_⟩
      · rw [List.cons_append, cvS_m k, cvS_m k, i1]
      · rw [List.cons_append, cvA, cvA, if_pos k, if_pos k, i2]; rfl
      · rw [List.cons_append, cvE, cvE, if_pos k, if_pos k, i3, cvS_m k]; rfl
theorem cv_E : ∀ {l : List Int32} {c : Nat}, (∀ s ∈ l, stK s) → cvS l = l.map cvO ∧ cvA l = [] ∧ cvE l c = []
  | [], _, _ => ⟨rfl, rfl, rfl⟩
  | s :: l, c, h => by
    have k := h s (List.mem_cons_self ..)
    obtain ⟨i1, i2, i3⟩ := cv_E (l := l) (c := c + 1) (fun z hz => h z (List.mem_cons_of_mem _ hz))
    have n := stK_not k
    exact ⟨by rw [cvS_k k, i1]; rfl, by rw [cvA, if_neg n, i2], by rw [cvE, if_neg n, i3]⟩
theorem i32_ss (a b : Int32) : a - (a - b) = b := by
  rw [Int32.sub_eq_add_neg, Int32.neg_sub, Int32.add_comm, Int32.sub_add_cancel]
theorem am_10 {n : Nat} (hn : n < 100) : amF (-10 - nI n) = nI n := by
  unfold amF
  have : (-200 : Int32) < -10 - nI n := by
    rw [Int32.lt_iff_toInt_lt, mk_10, mk_toInt (by omega) hn]
    have : (-200 : Int32).toInt = -200 := by decide
    omega
  rw [if_pos this, i32_ss]
theorem am_200 {n : Nat} (hn : n < 100) : amF (-200 - nI n) = -nI n := by
  unfold amF
  have : ¬ (-200 : Int32) < -200 - nI n := by
    rw [Int32.lt_iff_toInt_lt, mk_200, mk_toInt (by omega) hn]
    have : (-200 : Int32).toInt = -200 := by decide
    omega
  rw [if_neg this, i32_ss]
/-- an E and its mark behind l -/
theorem cv_mark {l E : List Int32} {m : Int32} (hl : ∀ s ∈ l, okK s) (hE : ∀ s ∈ E, stK s) (hm : m ≤ -10) : cvS (l ++ (E ++ [m])) = cvS l ++ E.map cvO ∧ cvA (l ++ (E ++ [m])) = cvA l ++ [amF m] ∧ cvE (l ++ (E ++ [m])) 0 = cvE l 0 ++ [nI ((cvS l).length + E.length)] := by
  obtain ⟨a1, a2, a3⟩ := cv_app (m := E ++ [m]) (c := 0) hl
  obtain ⟨b1, b2, b3⟩ := cv_app (l := E) (m := [m]) (c := 0 + (cvS l).length) (fun s hs => Or.inl (hE s hs))
  obtain ⟨c1, c2, c3⟩ := cv_E (c := 0 + (cvS l).length) hE
  have d1 : cvS [m] = [] := cvS_m hm []
  have d2 : cvA [m] = [amF m] := by rw [cvA, if_pos hm]; rfl
  have d3 : ∀ c, cvE [m] c = [nI c] := fun c => by rw [cvE, if_pos hm]; rfl
  refine ⟨by rw [a1, b1, c1, d1, List.append_nil], by rw [a2, b2, c2, d2, List.nil_append], ?_⟩
  rw [a3, b3, c3, d3, c1, List.nil_append, List.length_map, Nat.zero_add]
/-- the first places of f are l -/
def LstF (f : Nat → Int32) (l : List Int32) : Prop := ∀ i, (hi : i < l.length) → f i = l[i]
theorem LstF.push {f : Nat → Int32} {l : List Int32} (h : LstF f l) (x : Int32) : LstF (upd f l.length x) (l ++ [x]) := by
  intro i hi
  rw [List.length_append, List.length_singleton] at hi
  by_cases c : i = l.length
  · subst c
    rw [upd_eq, List.getElem_append_right (Nat.le_refl _)]
    simp
  · rw [upd_ne _ _ c, List.getElem_append_left (by omega)]
    exact h i (by omega)
theorem LstF.push' {f : Nat → Int32} {l : List Int32} {n : Nat} {x : Int32} (h : LstF f l) (hn : n = l.length) : LstF (upd f n x) (l ++ [x]) := by
  subst hn
  exact h.push x
/-- what the class has of the CLAUSES so far -/
def CSt (am en sp : Nat → Int32) (ju sd rn nd : Int32) (r : TR) : Prop := rn = nI r.2.2.1 ∧ nd = nI r.2.2.2.1 ∧ ju = nI (cvA r.2.2.2.2).length ∧ sd = nI (cvS r.2.2.2.2).length ∧ LstF am (cvA r.2.2.2.2) ∧ LstF en (cvE r.2.2.2.2 0) ∧ LstF sp (cvS r.2.2.2.2) ∧ ∀ s ∈ r.2.2.2.2, okK s
/-- the Reader's signs are those of Y -/
def RdOK (sg Y : Nat → Int32) (e : Nat) : Prop := SgOK Y e ∧ ∀ i, i < e → sg i = Y i
theorem strPos : ∀ k, k < 12 → 0 < strLen.getD k 0 := by decide +kernel
theorem cvO_mk {w h v : Nat} (hw : w < 6) (hh : h < 3) (hv : v < 100) : cvO (nI (w + 8 * h + 32 * v)) = nI ((w * 3 + h) * 100 + v) := by
  rw [cvO_test (by omega)]
  refine congrArg nI ?_
  omega
/-- M reads fn of the tape, o open round it -/
def PartC (G : GG) (M : MI) (dd o : Nat) (fn : (Nat → Int32) → Nat → Nat → RE) : Prop := ∀ (ro : va_W) (d : Nat → Nat) (sg am en sp : Nat → Int32) (ju rn nd : Int32) (Y : Nat → Int32) (e p : Nat) (l : List Int32), RdOK sg Y e → p ≤ e → LstF sp l → l.length ≤ p → Mth G M dd 0 0 [.ref (d 0), .int (nI o)] (RD G d sg am en sp (nI e) (nI p) ju (nI l.length) rn nd) ro (fun r ws' ro' => ∃ (sp' : Nat → Int32) (sd' v' : Int32), ((v' = nI 1 ∧ (fn Y e p).1 = true ∧ sd' = nI (l ++ (fn Y e p).2.2.map cvO).length ∧ LstF sp' (l ++ (fn Y e p).2.2.map cvO)) ∨ (v' = nI 0 ∧ (fn Y e p).1 = false)) ∧ r = some (.int v') ∧ ws' = RD G d sg am en sp' (nI e) (nI (fn Y e p).2.1) ju sd' rn nd ∧ ro = ro')
theorem fnd_none {k : Nat} {x : Int32} : ∀ {f j : Nat}, fndF k x f j = none → ∀ i, j ≤ i → i < j + f → x ≠ chF k i
  | 0, j, _, i, h1, h2 => by omega
  | f + 1, j, h, i, h1, h2 => by
    rw [fndF] at h
    split at h
    · cases h
    · next c =>
      by_cases e : i = j
      · subst e; exact c
      · exact fnd_none h i (by omega) (by omega)
theorem ch0 : chF 0 0 = nI 114 ∧ chF 0 1 = nI 110 ∧ chF 0 2 = nI 119 ∧ chF 0 3 = nI 99 := by decide +kernel
theorem clF_none {t : Nat → Int32} {e p ra ne : Nat} {l : List Int32} (h : fndF 0 (hrF t e p) 4 0 = none) : clF t e p ra ne l = (false, p, ra, ne, l) := by
  obtain ⟨c0, c1, c2, c3⟩ := ch0
  unfold clF
  rw [if_neg (c0 ▸ fnd_none h 0 (by omega) (by omega)), if_neg (c1 ▸ fnd_none h 1 (by omega) (by omega)), if_neg (c2 ▸ fnd_none h 2 (by omega) (by omega)), if_neg (c3 ▸ fnd_none h 3 (by omega) (by omega))]
theorem cl_w {t : Nat → Int32} {e p ra ne : Nat} {l : List Int32} : (hrF t e p = chF 0 0 → clF t e p ra ne l = ((tllF t e 8 p).1, (tllF t e 8 p).2.1, (tllF t e 8 p).2.2, ne, l)) ∧ (hrF t e p = chF 0 1 → clF t e p ra ne l = ((tllF t e 9 p).1, (tllF t e 9 p).2.1, ra, (tllF t e 9 p).2.2, l)) ∧ (hrF t e p = chF 0 2 → clF t e p ra ne l = ((mchF t e 10 (-10) p).1, (mchF t e 10 (-10) p).2.1, ra, ne, l ++ (mchF t e 10 (-10) p).2.2)) ∧ (hrF t e p = chF 0 3 → clF t e p ra ne l = ((mchF t e 11 (-200) p).1, (mchF t e 11 (-200) p).2.1, ra, ne, l ++ (mchF t e 11 (-200) p).2.2)) := by
  obtain ⟨c0, c1, c2, c3⟩ := ch0
  refine ⟨fun h => ?_, fun h => ?_, fun h => ?_, fun h => ?_⟩
  · rw [c0] at h
    rw [clF, if_pos h]
  · rw [c1] at h
    rw [clF, if_neg (by rw [h]; decide), if_pos h]
  · rw [c2] at h
    rw [clF, if_neg (by rw [h]; decide), if_neg (by rw [h]; decide), if_pos h]
  · rw [c3] at h
    rw [clF, if_neg (by rw [h]; decide), if_neg (by rw [h]; decide), if_neg (by rw [h]; decide), if_pos h]
theorem tll_w {t : Nat → Int32} {e p w : Nat} (hw : w < 4) (h : hrF t e p = chF 0 w) : tllF t e (8 + w) p = if (splF t e (1 + w) (strLen.getD (1 + w) 0) 0 (p + 1)).1 = true then numF t e (splF t e (1 + w) (strLen.getD (1 + w) 0) 0 (p + 1)).2 else (false, (splF t e (1 + w) (strLen.getD (1 + w) 0) 0 (p + 1)).2, 0) := by
  rw [tllF, spl_word hw h]
/-- what the class makes of a CLAUSE with an E -/
theorem CSt.mark {am en sp sp' : Nat → Int32} {b : Bool} {q q2 ra ne : Nat} {L E : List Int32} {m x : Int32} {b2 : Bool} (hA : LstF am (cvA L)) (hE : LstF en (cvE L 0)) (hK : ∀ s ∈ L, okK s) (hEk : ∀ s ∈ E, stK s) (hm : m ≤ -10) (hx : amF m = x) (hS : LstF sp' (cvS L ++ List.map cvO E)) : CSt (upd am (cvA L).length x) (upd en (cvA L).length (nI (cvS L ++ List.map cvO E).length)) sp' (nI ((cvA L).length + 1)) (nI (cvS L ++ List.map cvO E).length) (nI ra) (nI ne) (b2, q2, ra, ne, L ++ (E ++ [m])) := by
  obtain ⟨k1, k2, k3⟩ := cv_mark hK hEk hm
  subst hx
  refine ⟨rfl, rfl, ?_, ?_, ?_, ?_, ?_, ?_⟩
  · simp only [k2, List.length_append, List.length_singleton]
  · simp only [k1]
  · simp only [k2]
    exact hA.push _
  · simp only [k3]
    have := hE.push' (n := (cvA L).length) (x := nI (cvS L ++ List.map cvO E).length) (cv_len L 0).1.symm
    rw [show (cvS L).length + E.length = (cvS L ++ List.map cvO E).length by simp]
    exact this
  · simp only [k1]
    exact hS
  · intro s hs
    simp only [List.mem_append, List.mem_singleton] at hs
    rcases hs with hs | hs | hs
    · exact hK s hs
    · exact Or.inl (hEk s hs)
    · exact Or.inr (hs ▸ hm)
/-- new cells beside the old ones -/
def Sub (ro ro' : va_W) : Prop := ∃ wn, ro' = ro ++ wn
theorem Sub.rf {ro : va_W} : Sub ro ro := ⟨[], (List.append_nil _).symm⟩
theorem Sub.tr {a b c : va_W} (h : Sub a b) (h2 : Sub b c) : Sub a c := by
  obtain ⟨x, rfl⟩ := h
  obtain ⟨y, rfl⟩ := h2
  exact ⟨x ++ y, List.append_assoc ..⟩
theorem Sub.mem {a b : va_W} (h : Sub a b) {x : Nat × va_E} (m : x ∈ a) : x ∈ b := by
  obtain ⟨y, rfl⟩ := h
  exact mw' m
theorem MoOK.sub {G : GG} {ro ro' : va_W} {tr : Nat} {S : Nat → Int32} {os : Nat → Option Nat} {t : Nat} (h : MoOK G ro tr S os t) (hs : Sub ro ro') : MoOK G ro' tr S os t := by
  obtain ⟨y, rfl⟩ := hs
  exact h.mono
theorem liF_ext {f : Nat → Int32} {l : List Int32} (h : LstF f l) : ∀ j, j < l.length → f j = liF l j := by
  intro j hj
  rw [h j hj, liF, List.getD_eq_getElem?_getD, List.getElem?_eq_getElem hj]
  rfl
