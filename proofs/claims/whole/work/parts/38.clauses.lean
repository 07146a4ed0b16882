/-! CLAUSES: what both programs read of them -/
theorem tllF_p {t : Nat → Int32} {e k p : Nat} (hk : k < 12) (hp : p ≤ e) : p ≤ (tllF t e k p).2.1 ∧ (tllF t e k p).2.1 ≤ e ∧ ((tllF t e k p).1 = true → p < (tllF t e k p).2.1) ∧ (tllF t e k p).2.2 ≤ 99 := by
  obtain ⟨s1, s2, s3⟩ := splF_p (t := t) (e := e) (k := k) hk (f := strLen.getD k 0) (j := 0) (p := p) (by omega) hp
  rw [tllF]
  split
  · next c =>
    obtain ⟨n1, n2, n3, n4⟩ := numF_p (t := t) (e := e) (p := (splF t e k (strLen.getD k 0) 0 p).2) s2
    exact ⟨by omega, n2, fun h => by have := n3 h; omega, n4⟩
  · exact ⟨s1, s2, (fun h => by cases h), Nat.zero_le _⟩
theorem mchF_p {t : Nat → Int32} {e k p : Nat} {c : Int32} (hk : k < 12) (hp : p ≤ e) : Fgo e p (mchF t e k c p) := by
  obtain ⟨s1, s2, s3, -⟩ := tllF_p (t := t) (e := e) (k := k) (p := p) hk hp
  rw [mchF]
  split
  · next h1 =>
    have s4 := s3 h1
    split
    · next h2 =>
      have h3 := (hr_lt (by decide) h2).1
      obtain ⟨g1, g2, g3, g4⟩ := somF_p (t := t) (e := e) (fac := facD t e 5) (fun p hp => facD_p 5 hp) (p := (tllF t e k p).2.1 + 1) (by omega)
      refine ⟨by simp only; omega, g2, fun _ => by simp only; omega, ?_⟩
      simp only [List.length_append]
      split
      · simp only [List.length_cons, List.length_nil]; omega
      · simp only [List.length_nil]; omega
    · exact ⟨s1, s2, (fun h => by cases h), by simp only [List.length_nil]; omega⟩
  · exact ⟨s1, s2, (fun h => by cases h), by simp only [List.length_nil]; omega⟩
theorem mchF_d {t : Nat → Int32} {e k p : Nat} {c : Int32} (hk : k < 12) (hp : p ≤ e) (hc : c = -10 ∨ c = -200) (h : (mchF t e k c p).1 = true) {rest : List Int32} (hr : okD rest 0) : okD ((mchF t e k c p).2.2 ++ rest) 0 := by
  have hn := (tllF_p (t := t) (e := e) (k := k) (p := p) hk hp).2.2.2
  rw [mchF] at h ⊢
  split at h
  · next h1 =>
    split at h
    · next h2 =>
      rw [if_pos h1, if_pos h2]
      simp only at h
      simp only [if_pos h, List.append_assoc, List.singleton_append]
      refine somF_d (facD_d t e 5) _ 0 _ (by omega) h (Or.inr (Or.inr (Or.inr ⟨⟨(tllF t e k p).2.2, by omega, ?_⟩, rfl, hr⟩)))
      rcases hc with rfl | rfl
      · exact Or.inl rfl
      · exact Or.inr rfl
    · cases h
  · cases h
/-- a TREATY that is read: is it one, where, RAIN, NEED, steps -/
abbrev TR : Type := Bool × Nat × Nat × Nat × List Int32
def clF (t : Nat → Int32) (e p ra ne : Nat) (l : List Int32) : TR :=
  if hrF t e p = nI 114 then ((tllF t e 8 p).1, (tllF t e 8 p).2.1, (tllF t e 8 p).2.2, ne, l)
  else if hrF t e p = nI 110 then ((tllF t e 9 p).1, (tllF t e 9 p).2.1, ra, (tllF t e 9 p).2.2, l)
  else if hrF t e p = nI 119 then ((mchF t e 10 (-10) p).1, (mchF t e 10 (-10) p).2.1, ra, ne, l ++ (mchF t e 10 (-10) p).2.2)
  else if hrF t e p = nI 99 then ((mchF t e 11 (-200) p).1, (mchF t e 11 (-200) p).2.1, ra, ne, l ++ (mchF t e 11 (-200) p).2.2)
  else (false, p, ra, ne, l)
/-- more CLAUSES, n at most -/
def treL (t : Nat → Int32) (e : Nat) : Nat → TR → TR
  | 0, r => r
  | n + 1, r => if r.1 = true ∧ hrF t e r.2.1 = nI 59 then treL t e n (clF t e (r.2.1 + 1) r.2.2.1 r.2.2.2.1 r.2.2.2.2) else r
def tapF (S : Nat → Int32) : Nat → Int32 := fun j => S (122 + j)
def treG (t : Nat → Int32) (e : Nat) : TR := treL t e 9 (clF t e 0 1 2 [])
/-- what stands of a TREATY at every time -/
def Tgo (e p : Nat) (r : TR) : Prop := p ≤ r.2.1 ∧ r.2.1 ≤ e ∧ (r.1 = true → p < r.2.1) ∧ r.2.2.1 ≤ 99 ∧ r.2.2.2.1 ≤ 99 ∧ (r.1 = true → r.2.2.2.2.length ≤ r.2.1) ∧ (r.1 = true → ∀ rest, okD rest 0 → okD (r.2.2.2.2 ++ rest) 0)
theorem clF_p {t : Nat → Int32} {e p ra ne : Nat} {l : List Int32} (hp : p ≤ e) (h1 : ra ≤ 99) (h2 : ne ≤ 99) (h3 : l.length ≤ p) (h4 : ∀ rest, okD rest 0 → okD (l ++ rest) 0) : Tgo e p (clF t e p ra ne l) := by
  have rt := tllF_p (t := t) (e := e) (k := 8) (p := p) (by omega) hp
  have nt := tllF_p (t := t) (e := e) (k := 9) (p := p) (by omega) hp
  have wt := mchF_p (t := t) (e := e) (k := 10) (p := p) (c := -10) (by omega) hp
  have ct := mchF_p (t := t) (e := e) (k := 11) (p := p) (c := -200) (by omega) hp
  unfold clF
  split
  · exact ⟨rt.1, rt.2.1, rt.2.2.1, rt.2.2.2, h2, fun _ => Nat.le_trans h3 rt.1, fun _ => h4⟩
  · split
    · exact ⟨nt.1, nt.2.1, nt.2.2.1, h1, nt.2.2.2, fun _ => Nat.le_trans h3 nt.1, fun _ => h4⟩
    · split
      · refine ⟨wt.1, wt.2.1, wt.2.2.1, h1, h2, fun _ => ?_, fun h rest hr => ?_⟩
        · have := wt.2.2.2
          simp only [List.length_append]
          omega
        · simp only [List.append_assoc]
          exact h4 _ (mchF_d (by omega) hp (Or.inl rfl) h hr)
      · split
        · refine ⟨ct.1, ct.2.1, ct.2.2.1, h1, h2, fun _ => ?_, fun h rest hr => ?_⟩
          · have := ct.2.2.2
            simp only [List.length_append]
            omega
          · simp only [List.append_assoc]
            exact h4 _ (mchF_d (by omega) hp (Or.inr rfl) h hr)
        · exact ⟨Nat.le_refl _, hp, (fun h => by cases h), h1, h2, fun _ => h3, fun _ => h4⟩
theorem Tgo.nx {t : Nat → Int32} {e p : Nat} {r : TR} (h : Tgo e p r) (ok : r.1 = true) (hl : r.2.1 < e) : Tgo e p (clF t e (r.2.1 + 1) r.2.2.1 r.2.2.2.1 r.2.2.2.2) := by
  obtain ⟨h1, h2, h3, h4, h5, h6, h7⟩ := h
  have := h6 ok
  obtain ⟨g1, g2, g3, g4⟩ := clF_p (t := t) (e := e) (p := r.2.1 + 1) (ra := r.2.2.1) (ne := r.2.2.2.1) (l := r.2.2.2.2) (by omega) h4 h5 (by omega) (h7 ok)
  exact ⟨by omega, g2, fun q => by have := g3 q; omega, g4⟩
theorem treL_p {t : Nat → Int32} {e p : Nat} : ∀ (n : Nat) (r : TR), Tgo e p r → Tgo e p (treL t e n r)
  | 0, _, h => h
  | n + 1, r, h => by
    rw [treL]
    split
    · next c => exact treL_p n _ (h.nx c.1 (hr_lt (by decide) c.2).1)
    · exact h
theorem treG_p (t : Nat → Int32) (e : Nat) : Tgo e 0 (treG t e) := treL_p _ _ (clF_p (Nat.zero_le _) (by omega) (by omega) (Nat.le_refl _) (fun _ h => h))
theorem treL_t {t : Nat → Int32} {e : Nat} {r : TR} (h : r.1 = true) (h2 : hrF t e r.2.1 = nI 59) {n : Nat} (hn : 0 < n) : treL t e n r = treL t e (n - 1) (clF t e (r.2.1 + 1) r.2.2.1 r.2.2.2.1 r.2.2.2.2) := by
  obtain ⟨g, rfl⟩ : ∃ g, n = g + 1 := ⟨n - 1, by omega⟩
  exact if_pos ⟨h, h2⟩
theorem treL_f {t : Nat → Int32} {e : Nat} {r : TR} (h : ¬ (r.1 = true ∧ hrF t e r.2.1 = nI 59)) : ∀ n, treL t e n r = r
  | 0 => rfl
  | _ + 1 => if_neg h
/-- slot h holds what r says -/
def TSt (S : Nat → Int32) (h : Nat) (r : TR) : Prop := S (222 + h) = nI r.2.2.1 ∧ S (227 + h) = nI r.2.2.2.1 ∧ PSt S h r.2.2.2.2
/-- only what belongs to slot h has changed -/
def Otr (h : Nat) (S S' : Nat → Int32) : Prop := ∀ j, j ≠ 222 + h → j ≠ 227 + h → j ≠ 232 + h → ¬ (237 + 140 * h ≤ j ∧ j < 237 + 140 * h + 140) → S' j = S j
theorem Otr.rf {h : Nat} {S : Nat → Int32} : Otr h S S := fun _ _ _ _ _ => rfl
theorem Otr.tr {h : Nat} {S S' S'' : Nat → Int32} (a : Otr h S S') (b : Otr h S' S'') : Otr h S S'' := fun j h1 h2 h3 h4 => (b j h1 h2 h3 h4).trans (a j h1 h2 h3 h4)
theorem Oth.otr {h : Nat} {S S' : Nat → Int32} (a : Oth h S S') : Otr h S S' := fun j _ _ h3 h4 => a j h3 h4
theorem TPE.otr {S S' Y : Nat → Int32} {e h : Nat} (ht : TPE S Y e) (ho : Otr h S S') : TPE S' Y e := by
  refine ⟨ht.1, fun i hi => ?_⟩
  have he := ht.1
  rw [ho (122 + i) (by omega) (by omega) (by omega) (by omega)]
  exact ht.2 i hi
theorem PSt.ne {S : Nat → Int32} {h j : Nat} {l : List Int32} (hs : PSt S h l) (hj : j < 232) (x : Int32) : PSt (upd S j x) h l := ⟨(upd_ne _ _ (by omega)).trans hs.1, fun i hi => (upd_ne _ _ (by omega)).trans (hs.2 i hi)⟩
theorem TSt.rain {S : Nat → Int32} {h n : Nat} {r : TR} (hs : TSt S h r) (hh : h ≤ 4) {b : Bool} {q : Nat} : TSt (upd S (222 + h) (nI n)) h (b, q, n, r.2.2.2.1, r.2.2.2.2) ∧ Otr h S (upd S (222 + h) (nI n)) := ⟨⟨upd_eq _ _ _, (upd_ne _ _ (by omega)).trans hs.2.1, hs.2.2.ne (by omega) _⟩, fun j h1 _ _ _ => upd_ne _ _ h1⟩
theorem TSt.need {S : Nat → Int32} {h n : Nat} {r : TR} (hs : TSt S h r) (hh : h ≤ 4) {b : Bool} {q : Nat} : TSt (upd S (227 + h) (nI n)) h (b, q, r.2.2.1, n, r.2.2.2.2) ∧ Otr h S (upd S (227 + h) (nI n)) := ⟨⟨(upd_ne _ _ (by omega)).trans hs.1, upd_eq _ _ _, hs.2.2.ne (by omega) _⟩, fun j _ h1 _ _ => upd_ne _ _ h1⟩
theorem TSt.steps {S S' : Nat → Int32} {h : Nat} {r : TR} {l : List Int32} (hs : TSt S h r) (hh : h ≤ 4) (ho : Oth h S S') (hp : PSt S' h l) {b : Bool} {q : Nat} : TSt S' h (b, q, r.2.2.1, r.2.2.2.1, l) := ⟨(ho _ (by omega) (by omega)).trans hs.1, (ho _ (by omega) (by omega)).trans hs.2.1, hp⟩
theorem TSt.at {S : Nat → Int32} {h : Nat} {r : TR} (hs : TSt S h r) {b : Bool} {q : Nat} : TSt S h (b, q, r.2.2.1, r.2.2.2.1, r.2.2.2.2) := hs
/-- M reads a CLAUSE into slot h -/
def TLp (S S2 : Nat → Int32) (h : Nat) (w : Int32) (r : TR) : Prop := Otr h S S2 ∧ ((w = nI 0 ∧ r.1 = true ∧ TSt S2 h r) ∨ (w = nI 1 ∧ r.1 = false))
theorem lk_out {x : Int32} {df : Int} : ∀ (l : List (Int × Int)), (∀ q ∈ l, x.toInt ≠ q.1) → Op.lookupswitch.offset l df x.toInt = df
  | [], _ => rfl
  | q :: l, h => by
    rw [Op.lookupswitch.offset, if_neg (fun e => h q (List.mem_cons_self ..) e.symm)]
    exact lk_out l (fun z hz => h z (List.mem_cons_of_mem _ hz))
/-- what treaty() leaves of s, TREATIES being h -/
def treT (S S' : Nat → Int32) : Prop := if sn S 33 = 5 then S' = S else (∀ j, j ≠ 33 → j ≠ 37 → j ≠ 38 → j ≠ 222 + sn S 33 → j ≠ 227 + sn S 33 → j ≠ 232 + sn S 33 → ¬ (237 + 140 * sn S 33 ≤ j ∧ j < 237 + 140 * sn S 33 + 140) → S' j = S j) ∧ S' 37 = nI 0 ∧ (if (treG (tapF S) (sn S 37)).1 = true ∧ (treG (tapF S) (sn S 37)).2.1 = sn S 37 then S' 33 = nI (sn S 33 + 1) ∧ S' 38 = nI (sn S 33) ∧ TSt S' (sn S 33) (treG (tapF S) (sn S 37)) else S' 33 = S 33 ∧ S' 38 = S 38)
def treR (S : Nat → Int32) : Int32 := if sn S 33 = 5 then -4 else if (treG (tapF S) (sn S 37)).1 = true ∧ (treG (tapF S) (sn S 37)).2.1 = sn S 37 then nI (sn S 33) else -10 - nI (treG (tapF S) (sn S 37)).2.1
