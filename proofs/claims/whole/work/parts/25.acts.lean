/-! ACTS: whose bodies run, and what they give -/
/-- who is of kind kd is one of kind k too -/
abbrev undF (kd k : Nat) : Prop := k = 0 ∨ k = kd ∨ (0 < k ∧ k < 4 ∧ kd = k + 3)
def wrL (kd : Nat) : List Nat := if undF kd 1 then [11, 1] else if kd = 5 then [51, 1] else [1]
def wrV (kd : Nat) (nu x : Int32) : Int32 := if undF kd 1 then x * nI 3 + nu else if kd = 5 then (x + nu) ^^^ nu else x + nu
def licL (kd : Nat) : List Nat := if undF kd 2 then 21 :: 2 :: wrL kd else if kd = 6 then 61 :: 2 :: wrL kd else 2 :: wrL kd
def licV (kd : Nat) (nu tv x : Int32) : Int32 := if undF kd 2 then -(wrV kd nu x - tv) else if kd = 6 then wrV kd nu x - tv + tv else wrV kd nu x - tv
def telL (kd : Nat) : List Nat := if undF kd 3 then 31 :: 3 :: licL kd else if kd = 4 then 41 :: 3 :: (licL kd ++ wrL kd) else 3 :: licL kd
def telV (kd : Nat) (nu tv x : Int32) : Int32 := if undF kd 3 then (licV kd nu tv x * nI 2) ^^^ nI 7 else if kd = 4 then licV kd nu tv (x - nI 1) * nI 2 + wrV kd nu (nI 2) else licV kd nu tv x * nI 2
/-- numbers put behind one another -/
def putL (D : Nat → Int32) (r : Nat) : List Nat → Nat → Int32
  | [] => D
  | b :: l => putL (upd D r (nI b)) (r + 1) l
theorem putL_app (D : Nat → Int32) (r : Nat) : ∀ (l l' : List Nat), putL D r (l ++ l') = putL (putL D r l) (r + l.length) l'
  | [], l' => rfl
  | b :: l, l' => by
    rw [List.cons_append, putL, putL_app, putL, List.length_cons, show r + (l.length + 1) = r + 1 + l.length by omega]
  termination_by l => l.length
theorem wrL_len (kd : Nat) : (wrL kd).length ≤ 2 := by
  unfold wrL
  split
  · exact Nat.le_refl _
  · split
    · exact Nat.le_refl _
    · exact Nat.le_succ _
theorem licL_len (kd : Nat) : (licL kd).length ≤ (wrL kd).length + 2 := by
  unfold licL
  split
  · exact Nat.le_refl _
  · split
    · exact Nat.le_refl _
    · exact Nat.le_succ _
theorem telL_len (kd : Nat) : (telL kd).length ≤ (licL kd).length + (wrL kd).length + 2 := by
  unfold telL
  split
  · simp only [List.length_cons]; omega
  · split
    · simp only [List.length_cons, List.length_append]; omega
    · simp only [List.length_cons]; omega
def actL (kd : Nat) (a : Nat) : List Nat := if a = 0 then wrL kd else if a = 1 then licL kd else telL kd
def actV (kd : Nat) (nu tv : Int32) (a : Nat) (x : Int32) : Int32 := if a = 0 then wrV kd nu x else if a = 1 then licV kd nu tv x else telV kd nu tv x
/-- an act is done -/
abbrev actQ (S : Nat → Int32) (p a : Int32) : Prop := (nI 0 ≤ p ∧ p ≤ S 32 - nI 1) ∧ nI 0 ≤ a ∧ a ≤ nI 2
def actR (S : Nat → Int32) (p a x : Int32) : Int32 := if actQ S p a then actV (sn S (39 + pn p)) p (S (45 + pn p)) (pn a) x else nI 0
def actD (S D : Nat → Int32) (p a : Int32) : Nat → Int32 := if actQ S p a then putL D 0 (actL (sn S (39 + pn p)) (pn a)) else D
def actN (S : Nat → Int32) (p a : Int32) : Nat := if actQ S p a then (actL (sn S (39 + pn p)) (pn a)).length else 0
def traceR (D : Nat → Int32) (r : Nat) (x : Int32) : Int32 := if nI 0 ≤ x ∧ x ≤ nI r - nI 1 then D (pn x) else -1
def asR (S : Nat → Int32) (p k : Int32) : Int32 := if (nI 0 ≤ p ∧ p ≤ S 32 - nI 1) ∧ nI 0 ≤ k ∧ k ≤ nI 6 then if undF (sn S (39 + pn p)) (pn k) then S (45 + pn p) else -6 else -1
def ofR (S : Nat → Int32) (p w : Int32) : Int32 := if (nI 0 ≤ p ∧ p ≤ S 32 - nI 1) ∧ nI 0 ≤ w ∧ w ≤ nI 7 then (if w = nI 0 then S (39 + pn p) else if w = nI 1 then S (45 + pn p) else if w = nI 5 then risF S (pn p) else if w = nI 6 then licF S (pn p) else if w = nI 7 then takF S (pn p) else S (14 + 6 * (pn w - 2) + pn p)) else -10001
def countR (S : Nat → Int32) (ra x : Int32) : Int32 := if x = nI 6 then ra else if nI 0 ≤ x ∧ x ≤ nI 5 then S (32 + pn x) else -1
theorem inR {x : Int32} {r : Nat} (hr : r < 2 ^ 31) (c : nI 0 ≤ x ∧ x ≤ nI r - nI 1) : ∃ j, j < r ∧ x = nI j := by
  rcases Nat.eq_zero_or_pos r with z | z
  · rw [z] at c
    have e : (nI 0 - nI 1).toInt = -1 := by decide
    have c1 := Int32.le_iff_toInt_le.mp c.1
    have c2 := Int32.le_iff_toInt_le.mp c.2
    rw [e] at c2
    rw [nI_toInt (by omega)] at c1
    omega
  · rw [pk_sub (by omega)] at c
    obtain ⟨j, hj, e⟩ := inN (m := r - 1) (by omega) c
    exact ⟨j, by omega, e⟩
def undoR (S I : Nat → Int32) (hI : Int32) : Int32 := if hI = 0 then -3 else ovF S I 937 32
def undoT (S I : Nat → Int32) (hI : Int32) : Nat → Int32 := if hI = 0 then S else ovF S I 937
