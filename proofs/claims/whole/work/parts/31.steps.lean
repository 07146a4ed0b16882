/-! THE STEPS THAT ARE READ never take from an empty stack -/
/-- from depth k they lead to depth k + 1, where k + d is less than 20 -/
def Dgo (d : Nat) (fac : Nat → RE) : Prop := ∀ (p k : Nat) (rest : List Int32), k + d < 20 → (fac p).1 = true → okD rest (k + 1) → okD ((fac p).2.2 ++ rest) k
theorem tstF_d (t : Nat → Int32) (e : Nat) : Dgo 0 (tstF t e) := by
  intro p k rest hk hok hr
  unfold tstF at hok ⊢
  split at hok
  · cases hok
  · next w hw =>
    split at hok
    · cases hok
    · next h hh =>
      have hw6 := (fndF_le hw).2.1
      have hh3 := (fndF_le hh).2.1
      have hn : (numF t e (p + 2)).2.2 ≤ 99 := by
        unfold numF
        split
        · next g =>
          have g3 := (dg_lt g).2.2
          split
          · exact Nat.zero_le _
          · split
            · next g2 =>
              have g4 := (dg_lt g2).2.2
              simp only
              omega
            · simp only
              omega
        · exact Nat.zero_le _
      simp only at hok
      simp only [hh, if_pos hok, List.singleton_append]
      refine Or.inl ⟨nI_pos' (by omega), by omega, ?_, ?_, ?_, hr⟩
      · rw [nI_clamp (by omega)]; omega
      · rw [nI_clamp (by omega)]; omega
      · rw [nI_clamp (by omega)]; omega
theorem okD_join {c : Int32} (hc : c = -2 ∨ c = -3) {k : Nat} {rest : List Int32} (h : okD rest (k + 1)) : okD (c :: rest) (k + 2) := Or.inr (Or.inr (Or.inl ⟨hc, by omega, h⟩))
theorem loopF_d {t : Nat → Int32} {e c d k : Nat} {code : Int32} (hc : code = -2 ∨ code = -3) {fac : Nat → RE} (hf : Dgo d fac) (hk : k + 1 + d < 20) : ∀ (n : Nat) (r : RE), (r.1 = true → ∀ rest, okD rest (k + 1) → okD (r.2.2 ++ rest) k) → (loopF t e fac c code n r).1 = true → ∀ rest, okD rest (k + 1) → okD ((loopF t e fac c code n r).2.2 ++ rest) k
  | 0, r, h, hok, rest, hr => h hok rest hr
  | n + 1, r, h, hok, rest, hr => by
    rw [loopF] at hok ⊢
    split
    · next q =>
      rw [if_pos q] at hok
      refine loopF_d hc hf hk n _ (fun h1 rest2 hr2 => ?_) hok rest hr
      simp only at h1
      simp only [if_pos h1, List.append_assoc, List.singleton_append]
      exact h q.1 _ (hf _ (k + 1) _ hk h1 (okD_join hc hr2))
    · next q =>
      rw [if_neg q] at hok
      exact h hok rest hr
theorem evrF_d {t : Nat → Int32} {e d : Nat} {fac : Nat → RE} (hf : Dgo d fac) : Dgo (d + 1) (evrF t e fac) := fun p k rest hk hok hr => loopF_d (Or.inl rfl) hf (by omega) _ _ (fun h r2 hr2 => hf p k r2 (by omega) h hr2) hok rest hr
theorem somF_d {t : Nat → Int32} {e d : Nat} {fac : Nat → RE} (hf : Dgo d fac) : Dgo (d + 2) (somF t e fac) := fun p k rest hk hok hr => loopF_d (Or.inr rfl) (evrF_d hf) (by omega) _ _ (fun h r2 hr2 => evrF_d hf p k r2 (by omega) h hr2) hok rest hr
theorem facD_d (t : Nat → Int32) (e : Nat) : ∀ d, Dgo (2 * d) (facD t e d)
  | 0 => tstF_d t e
  | d + 1 => by
    intro p k rest hk hok hr
    have ih := facD_d t e d
    rw [facD] at hok ⊢
    split
    · next q =>
      rw [if_pos q] at hok
      simp only at hok
      simp only [if_pos hok, List.append_assoc, List.singleton_append]
      exact ih _ k _ (by omega) hok (Or.inr (Or.inl ⟨rfl, by omega, hr⟩))
    · next q =>
      rw [if_neg q] at hok
      split
      · next q2 =>
        rw [if_pos q2] at hok
        split
        · next z =>
          exact somF_d ih _ k rest (by omega) z.1 hr
        · next z =>
          rw [if_neg z] at hok
          cases hok
      · next q2 =>
        rw [if_neg q2] at hok
        exact tstF_d t e p k rest (by omega) hok hr
/-- l are the steps of slot h -/
def PSt (S : Nat → Int32) (h : Nat) (l : List Int32) : Prop := S (232 + h) = nI l.length ∧ ∀ i, (hi : i < l.length) → S (237 + 140 * h + i) = l[i]
/-- only what belongs to slot h has changed -/
def Oth (h : Nat) (S S' : Nat → Int32) : Prop := ∀ j, j ≠ 232 + h → ¬ (237 + 140 * h ≤ j ∧ j < 237 + 140 * h + 140) → S' j = S j
theorem Oth.rf {h : Nat} {S : Nat → Int32} : Oth h S S := fun _ _ _ => rfl
theorem Oth.tr {h : Nat} {S S' S'' : Nat → Int32} (a : Oth h S S') (b : Oth h S' S'') : Oth h S S'' := fun j h3 h4 => (b j h3 h4).trans (a j h3 h4)
theorem PSt.emit {S : Nat → Int32} {h : Nat} {l : List Int32} (hs : PSt S h l) (hh : h ≤ 4) (hl : l.length ≤ 139) (x : Int32) : PSt (upd (upd S (237 + 140 * h + l.length) x) (232 + h) (nI (l.length + 1))) h (l ++ [x]) ∧ Oth h S (upd (upd S (237 + 140 * h + l.length) x) (232 + h) (nI (l.length + 1))) := by
  refine ⟨⟨by rw [upd_eq, List.length_append]; rfl, fun i hi => ?_⟩, fun j h3 h4 => ?_⟩
  · rw [upd_ne _ _ (by omega)]
    rw [List.length_append, List.length_singleton] at hi
    by_cases c : i = l.length
    · subst c
      rw [upd_eq, List.getElem_append_right (Nat.le_refl _)]
      simp
    · rw [upd_ne _ _ (by omega), List.getElem_append_left (by omega)]
      exact hs.2 i (by omega)
  · rw [upd_ne _ _ h3, upd_ne _ _ (by omega)]
