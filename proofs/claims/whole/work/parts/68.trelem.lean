/-! a TREATY that is read: its marks are few; what a Moor holds then -/
theorem cvA_app : ∀ (l m : List Int32), cvA (l ++ m) = cvA l ++ cvA m
  | [], _ => rfl
  | s :: l, m => by
    rw [List.cons_append, cvA, cvA]
    split
    · rw [cvA_app l m, List.cons_append]
    · exact cvA_app l m
theorem cvA_one (x : Int32) : (cvA [x]).length ≤ 1 := (cv_len [x] 0).2.1
theorem mchF_1 (t : Nat → Int32) (e k : Nat) (c : Int32) (p : Nat) : (cvA (mchF t e k c p).2.2).length ≤ 1 := by
  have hk := fun q => (cv_E (c := 0) (somF_k (t := t) (e := e) (fun p => facD_k t e 5 p) q)).2.1
  rw [mchF]
  split
  · split
    · simp only
      rw [cvA_app, hk]
      split
      · exact cvA_one _
      · exact Nat.zero_le _
    · exact Nat.zero_le _
  · exact Nat.zero_le _
theorem clF_1 (t : Nat → Int32) (e p ra ne : Nat) (l : List Int32) : (cvA (clF t e p ra ne l).2.2.2.2).length ≤ (cvA l).length + 1 := by
  have h1 := mchF_1 t e 10 (-10) p
  have h2 := mchF_1 t e 11 (-200) p
  unfold clF
  split
  · exact Nat.le_succ _
  · split
    · exact Nat.le_succ _
    · split
      · simp only [cvA_app, List.length_append]
        omega
      · split
        · simp only [cvA_app, List.length_append]
          omega
        · exact Nat.le_succ _
theorem treL_1 (t : Nat → Int32) (e : Nat) : ∀ (n : Nat) (r : TR), (cvA (treL t e n r).2.2.2.2).length ≤ (cvA r.2.2.2.2).length + n
  | 0, _ => Nat.le_refl _
  | n + 1, r => by
    rw [treL]
    split
    · have h1 := treL_1 t e n (clF t e (r.2.1 + 1) r.2.2.1 r.2.2.2.1 r.2.2.2.2)
      have h2 := clF_1 t e (r.2.1 + 1) r.2.2.1 r.2.2.2.1 r.2.2.2.2
      omega
    · omega
theorem treG_1 (t : Nat → Int32) (e : Nat) : (cvA (treG t e).2.2.2.2).length ≤ 10 := by
  have h1 := treL_1 t e 9 (clF t e 0 1 2 [])
  have h2 := clF_1 t e 0 1 2 []
  have h3 : (cvA []).length = 0 := rfl
  unfold treG
  omega
theorem PSt.stL {S : Nat → Int32} {k : Nat} {l : List Int32} (h : PSt S k l) (hl : l.length < 2 ^ 31) : stL S k = l := by
  unfold _root_.Jvm.Pilot.CSaltPeaceLaw_law_r9810_aa630b.stL
  rw [show sn S (232 + k) = l.length from sn_of hl h.1]
  apply List.ext_getElem
  · simp
  · intro i h1 h2
    simp only [List.getElem_map, List.getElem_range]
    exact h.2 i h2
theorem tell_at {T : Nat → Int32} {h w : Nat} {x : Int32} (hh : h ≤ 4) (e : T 38 = nI h) : tellF T w x = T (w + h) := by
  unfold tellF
  rw [show sn T 38 = h from sn_of (by omega) e]
  refine if_neg (fun z => ?_)
  rw [e] at z
  exact nI_no (by omega) z
theorem max1 {n : Nat} (hn : n ≤ 99) : (if nI n < nI 1 then nI 1 else nI n) = nI (max 1 n) := by
  by_cases c : n < 1
  · rw [if_pos ((nI_ltI (by omega) (by omega)).mpr c), Nat.max_eq_left (by omega)]
  · rw [if_neg (fun z => c ((nI_ltI (by omega) (by omega)).mp z)), Nat.max_eq_right (by omega)]
/-- the TREATY that was read holds -/
theorem tst_tells {T : Nat → Int32} {h : Nat} {r : TR} (hh : h ≤ 4) (e : T 38 = nI h) (ht : TSt T h r) (hn : r.2.2.2.1 ≤ 99) (hl : r.2.2.2.2.length ≤ 100) : rainF T = nI r.2.2.1 ∧ needF T = nI (max 1 r.2.2.2.1) ∧ hlL T = r.2.2.2.2 := by
  refine ⟨(tell_at hh e).trans ht.1, ?_, ?_⟩
  · unfold needF
    rw [tell_at hh e, ht.2.1, max1 hn]
  · unfold hlL
    rw [if_neg (fun z => nI_no (by omega) (e.symm.trans z)), show sn T 38 = h from sn_of (by omega) e]
    exact ht.2.2.stL (by omega)
/-- what treaty() leaves alone -/
def TrA (S T : Nat → Int32) : Prop := ∀ j, j ≠ 33 → j ≠ 37 → j ≠ 38 → j ≠ 222 + sn S 33 → j ≠ 227 + sn S 33 → j ≠ 232 + sn S 33 → ¬ (237 + 140 * sn S 33 ≤ j ∧ j < 237 + 140 * sn S 33 + 140) → T j = S j
theorem tra_tells {S T : Nat → Int32} {D E : Nat} (hW : WF S D E) (h33 : sn S 33 < 5) (hT : TrA S T) (e : T 38 = S 38) : rainF T = rainF S ∧ needF T = needF S ∧ hlL T = hlL S := by
  have e38 : sn T 38 = sn S 38 := sn_congr e
  rcases hW.hold with h | ⟨h1, h2, h3, h4, h5, -⟩
  · have k : ∀ w x, tellF T w x = tellF S w x := by
      intro w x
      unfold tellF
      rw [e, if_pos h, if_pos h]
    refine ⟨k _ _, ?_, ?_⟩
    · unfold needF
      rw [k]
    · unfold hlL
      rw [e, if_pos h, if_pos h]
  · have b33 := hW.tre.le
    have b := h1.le
    have b5 := h5.le
    have k : ∀ w x, w = 222 ∨ w = 227 → tellF T w x = tellF S w x := by
      intro w x hw
      unfold tellF
      rw [e, e38, hT (w + sn S 38) (by omega) (by omega) (by omega) (by omega) (by omega) (by omega) (by omega)]
    refine ⟨k _ _ (Or.inl rfl), ?_, ?_⟩
    · unfold needF
      rw [k _ _ (Or.inr rfl)]
    · unfold hlL
      rw [e, e38]
      split
      · rfl
      · unfold stL
        rw [show sn T (232 + sn S 38) = sn S (232 + sn S 38) from sn_congr (hT _ (by omega) (by omega) (by omega) (by omega) (by omega) (by omega) (by omega))]
        refine List.map_congr_left fun i hi => ?_
        have hi2 := List.mem_range.mp hi
        exact hT _ (by omega) (by omega) (by omega) (by omega) (by omega) (by omega) (by omega)
theorem MoOK.tre {G : GG} {ro : va_W} {tr t t' D E : Nat} {S T : Nat → Int32} {os : Nat → Option Nat} (h : MoOK G ro tr S os t) (hW : WF S D E) (h33 : sn S 33 < 5) (hT : TrA S T) (ht : TrO G ro t' (rainF T) (needF T) (hlL T)) : MoOK G ro tr T os t' := by
  obtain ⟨h1, h2, -⟩ := h
  have b32 := hW.peo.le
  have e32 : sn T 32 = sn S 32 := sn_congr (hT _ (by omega) (by omega) (by omega) (by omega) (by omega) (by omega) (by omega))
  refine ⟨fun p hp => ?_, h2, ht⟩
  rw [e32] at hp
  rw [show sn T (39 + p) = sn S (39 + p) from sn_congr (hT _ (by omega) (by omega) (by omega) (by omega) (by omega) (by omega) (by omega)), show sn T (45 + p) = sn S (45 + p) from sn_congr (hT _ (by omega) (by omega) (by omega) (by omega) (by omega) (by omega) (by omega))]
  exact h1 p hp
theorem tap_sg {S : Nat → Int32} {D E : Nat} (hW : WF S D E) : SgOK (tapF S) (sn S 37) := ⟨hW.tape.le, fun i hi => by
  have b := hW.tape.le
  have s := hW.sign i (by omega)
  exact ⟨_, s.le, s.eq⟩⟩
