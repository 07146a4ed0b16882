/-! A PART OF E, read by the reference -/
theorem TPE.oth {S S' Y : Nat → Int32} {e h : Nat} (ht : TPE S Y e) (ho : Oth h S S') : TPE S' Y e := by
  refine ⟨ht.1, fun i hi => ?_⟩
  have he := ht.1
  rw [ho (122 + i) (by omega) (by omega)]
  exact ht.2 i hi
/-- M reads fn of the tape into slot h, o open round it -/
def PartK (G : GG) (M : MI) (dd h o : Nat) (fn : (Nat → Int32) → Nat → Nat → RE) : Prop := ∀ (ro : va_W) (a : Nat → Nat) (S I F B T R K D : Nat → Int32) (hI mu rd ra ki nu tv : Int32) (Y : Nat → Int32) (e p : Nat) (l : List Int32), TPE S Y e → p ≤ e → PSt S h l → l.length ≤ p → Mth G M dd 0 0 [.ref (a 0)] (MW G a S I F B T R K D hI (nI h) (nI p) (nI e) (nI 0) (nI o) mu rd ra ki nu tv) ro (fun r ws' ro' => ∃ (S' : Nat → Int32) (w' : Int32), Oth h S S' ∧ ((w' = nI 0 ∧ (fn Y e p).1 = true ∧ PSt S' h (l ++ (fn Y e p).2.2)) ∨ (w' = nI 1 ∧ (fn Y e p).1 = false)) ∧ r = none ∧ ws' = MW G a S' I F B T R K D hI (nI h) (nI (fn Y e p).2.1) (nI e) w' (nI o) mu rd ra ki nu tv ∧ ro = ro')
theorem loopF_f {t : Nat → Int32} {e c : Nat} {fac : Nat → RE} {code : Int32} {r : RE} (h : ¬ (r.1 = true ∧ hrF t e r.2.1 = nI c)) : ∀ n, loopF t e fac c code n r = r
  | 0 => rfl
  | _ + 1 => if_neg h
theorem loopF_t {t : Nat → Int32} {e c : Nat} {fac : Nat → RE} {code : Int32} {r : RE} (h : r.1 = true) (h2 : hrF t e r.2.1 = nI c) {n : Nat} (hn : 0 < n) : loopF t e fac c code n r = loopF t e fac c code (n - 1) ((fac (r.2.1 + 1)).1, (fac (r.2.1 + 1)).2.1, r.2.2 ++ ((fac (r.2.1 + 1)).2.2 ++ (if (fac (r.2.1 + 1)).1 = true then [code] else []))) := by
  obtain ⟨g, rfl⟩ : ∃ g, n = g + 1 := ⟨n - 1, by omega⟩
  exact if_pos ⟨h, h2⟩
/-- how a loop stands: the reference's cells are as r says -/
def LpI (S S2 : Nat → Int32) (h : Nat) (l : List Int32) (w : Int32) (r : RE) : Prop := Oth h S S2 ∧ ((w = nI 0 ∧ r.1 = true ∧ PSt S2 h (l ++ r.2.2)) ∨ (w = nI 1 ∧ r.1 = false))
