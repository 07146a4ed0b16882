/-! how all begins -/
def iniF : Nat → Int32 := fun j => if j = 38 then -1 else if 2 ≤ j ∧ j < 8 then nI 100 else nI 0
theorem ini_z {o n : Nat} (h : 8 ≤ o) (h2 : o + n ≤ 38) : (fun _ => 0) = vwn iniF o n := by
  funext j
  unfold vwn iniF
  by_cases c : j < n
  · rw [if_pos c, if_neg (by omega), if_neg (by omega)]
    rfl
  · rw [if_neg c]
theorem ini_z2 {o n : Nat} (h : 39 ≤ o) : (fun _ => 0) = vwn iniF o n := by
  funext j
  unfold vwn iniF
  by_cases c : j < n
  · rw [if_pos c, if_neg (by omega), if_neg (by omega)]
    rfl
  · rw [if_neg c]
theorem ini_sa : flF (fun _ => 0) 0 6 (nI 100) = vwn iniF 2 6 := by
  funext j
  unfold flF vwn iniF
  by_cases c : j < 6
  · rw [if_pos ⟨Nat.zero_le _, c⟩, if_pos c, if_neg (by omega), if_pos (by omega)]
  · rw [if_neg (by omega), if_neg c]
theorem ini_rf : nI 0 = bitF iniF := by decide +kernel
/-- nobody in the first n places -/
def nbO (n r : Nat) : Nat → Option Nat := fun j => if j < n then some r else none
theorem nbO_0 (r : Nat) : nbO 0 r = fun _ => none := funext fun j => if_neg (by omega)
theorem nbO_s (i r : Nat) : va_up (nbO i r) i (some r) = nbO (i + 1) r := by
  funext j
  unfold va_up nbO
  by_cases c : j = i
  · subst c
    rw [if_pos rfl, if_pos (by omega)]
  · rw [if_neg c]
    by_cases d : j < i
    · rw [if_pos d, if_pos (by omega)]
    · rw [if_neg d, if_neg (by omega)]
