/-! acts are few; what image() and undo() leave -/
theorem actL_len (kd a : Nat) : (actL kd a).length ≤ 8 := by
  have h1 := wrL_len kd
  have h2 := licL_len kd
  have h3 := telL_len kd
  unfold actL
  split
  · omega
  · split
    · omega
    · omega
theorem actN_le (S : Nat → Int32) (p a : Int32) : actN S p a ≤ 20 := by
  unfold actN
  split
  · exact Nat.le_trans (actL_len _ _) (by omega)
  · exact Nat.zero_le _
theorem undo_0 (S I : Nat → Int32) : undoT S I (nI 0) = S ∧ undoR S I (nI 0) = -3 := ⟨if_pos (by decide), if_pos (by decide)⟩
theorem undo_1 (S I : Nat → Int32) : undoT S I (nI 1) = ovF S I 937 ∧ undoR S I (nI 1) = I 32 := ⟨if_neg (by decide), (if_neg (by decide)).trans (if_pos (by omega))⟩
theorem ovF_lo {S I : Nat → Int32} {j : Nat} (h : j < 937) : ovF S I 937 j = I j := if_pos h
