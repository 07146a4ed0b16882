/-! a TREATY's steps as the class has them: truths are bits, judged E by E -/
theorem nx_and (a b : Nat) : nI a &&& nI b = nI (a &&& b) := by
  apply Int32.toBitVec_inj.1
  show BitVec.ofNat 32 a &&& BitVec.ofNat 32 b = BitVec.ofNat 32 (a &&& b)
  apply BitVec.eq_of_getLsbD_eq
  intro i hi
  simp [hi]
theorem nx_or (a b : Nat) : nI a ||| nI b = nI (a ||| b) := by
  apply Int32.toBitVec_inj.1
  show BitVec.ofNat 32 a ||| BitVec.ofNat 32 b = BitVec.ofNat 32 (a ||| b)
  apply BitVec.eq_of_getLsbD_eq
  intro i hi
  simp [hi]
theorem nx_xor (a b : Nat) : nI a ^^^ nI b = nI (a ^^^ b) := by
  apply Int32.toBitVec_inj.1
  show BitVec.ofNat 32 a ^^^ BitVec.ofNat 32 b = BitVec.ofNat 32 (a ^^^ b)
  apply BitVec.eq_of_getLsbD_eq
  intro i hi
  simp [hi]
def b2N (b : Bool) : Nat := if b = true then 1 else 0
theorem b2N_le (b : Bool) : b2N b ≤ 1 := by cases b <;> decide
/-- a stack of truths as a number -/
def btN : List Bool → Nat
  | [] => 0
  | b :: l => 2 * btN l + b2N b
theorem btN_lt : ∀ (l : List Bool) {n : Nat}, l.length ≤ n → btN l < 2 ^ n
  | [], n, _ => Nat.two_pow_pos n
  | b :: l, 0, h => absurd h (by simp)
  | b :: l, n + 1, h => by
    have h1 := btN_lt l (n := n) (by simpa using h)
    have h2 := b2N_le b
    rw [btN, Nat.pow_succ]
    omega
theorem nt_hi {x : Nat} {m : Nat} {b : Bool} (h1 : x / 2 = m) (h2 : x % 2 = b2N b) : x = 2 * m + b2N b := by omega
theorem bt_top (b : Bool) (l : List Bool) : nI (btN (b :: l)) &&& nI 1 = nI (b2N b) := by
  rw [nx_and]
  refine congrArg nI ?_
  rw [btN, Nat.and_one_is_mod]
  have := b2N_le b
  omega
theorem bt_not (b : Bool) (l : List Bool) : nI (btN (b :: l)) ^^^ nI 1 = nI (btN ((!b) :: l)) := by
  rw [nx_xor, btN, btN]
  refine congrArg nI (nt_hi ?_ ?_)
  · rw [Nat.xor_div_two]
    have := b2N_le b
    rw [show (2 * btN l + b2N b) / 2 = btN l by omega]
    exact Nat.xor_zero _
  · cases b
    · have : (2 * btN l + b2N false) ^^^ 1 = 2 * btN l + 1 := by
        apply Nat.eq_of_testBit_eq
        intro i
        cases i with
        | zero => simp [b2N]
        | succ i => simp [b2N, Nat.testBit_succ, Nat.xor_div_two, show (2 * btN l + 1) / 2 = btN l by omega]
      rw [this]
      have : b2N (!false) = 1 := rfl
      omega
    · have : (2 * btN l + b2N true) ^^^ 1 = 2 * btN l := by
        apply Nat.eq_of_testBit_eq
        intro i
        cases i with
        | zero => simp [b2N]
        | succ i => simp [b2N, Nat.testBit_succ, Nat.xor_div_two, show (2 * btN l + 1) / 2 = btN l by omega]
      rw [this]
      have : b2N (!true) = 0 := rfl
      omega
theorem nt_or1 (m : Nat) (b c : Bool) : (2 * m + b2N b) ||| b2N c = 2 * m + b2N (b || c) := by
  apply Nat.eq_of_testBit_eq
  intro i
  have := b2N_le b
  have := b2N_le (b || c)
  have := b2N_le c
  cases i with
  | zero => cases b <;> cases c <;> simp [b2N]
  | succ i => rw [Nat.testBit_succ, Nat.testBit_succ, Nat.or_div_two, show (2 * m + b2N b) / 2 = m by omega, show (2 * m + b2N (b || c)) / 2 = m by omega, show b2N c / 2 = 0 by omega, Nat.or_zero]
theorem bt_or {b1 b0 : Bool} {l : List Bool} (h : (b1 :: b0 :: l).length ≤ 30) : ((nI (btN (b1 :: b0 :: l))).toUInt32 >>> ((nI 1).toUInt32 &&& Int32.toUInt32 31)).toInt32 ||| (nI (b2N b1)) = nI (btN ((b0 || b1) :: l)) := by
  have hl := btN_lt _ h
  have := b2N_le b1
  rw [pk_ushrN (by omega) (nI 1) 1 (by decide), nx_or]
  refine congrArg nI ?_
  rw [btN, btN, show (2 * (2 * btN l + b2N b0) + b2N b1) / 2 ^ 1 = 2 * btN l + b2N b0 by omega, nt_or1]
  rfl
theorem nt_and {m : Nat} {b : Bool} {k : Nat} (hm : 2 * m + 1 < 2 ^ 32) (hk : k = 4294967294 ∨ k = 4294967295) : (2 * m + b2N b) &&& k = 2 * m + b2N (b && (k % 2 == 1)) := by
  have hb := b2N_le b
  have e : ∀ x : Nat, x < 2 ^ 31 → x &&& 2147483647 = x := fun x hx => by
    rw [show 2147483647 = 2 ^ 31 - 1 from rfl, Nat.and_two_pow_sub_one_eq_mod]
    exact Nat.mod_eq_of_lt hx
  have key : ∀ i, (2 * m + b2N b).testBit (i + 1) = m.testBit i := fun i => by rw [Nat.testBit_succ, show (2 * m + b2N b) / 2 = m by omega]
  apply Nat.eq_of_testBit_eq
  intro i
  cases i with
  | zero => rcases hk with rfl | rfl <;> cases b <;> simp [b2N]
  | succ i =>
    rw [Nat.testBit_succ, Nat.testBit_succ, Nat.and_div_two, show (2 * m + b2N b) / 2 = m by omega]
    have h3 : k / 2 = 2147483647 := by rcases hk with rfl | rfl <;> rfl
    have h4 := b2N_le (b && (k % 2 == 1))
    rw [h3, e m (by omega), show (2 * m + b2N (b && (k % 2 == 1))) / 2 = m by omega]
theorem m2_or (b : Bool) : nI (b2N b) ||| (-2) = nI (if b = true then 4294967295 else 4294967294) := by
  cases b <;> decide +kernel
theorem bt_and {b1 b0 : Bool} {l : List Bool} (h : (b1 :: b0 :: l).length ≤ 30) : ((nI (btN (b1 :: b0 :: l))).toUInt32 >>> ((nI 1).toUInt32 &&& Int32.toUInt32 31)).toInt32 &&& (nI (b2N b1) ||| (-2)) = nI (btN ((b0 && b1) :: l)) := by
  have hl := btN_lt _ h
  have hl2 : btN l < 2 ^ 30 := btN_lt l (by simp only [List.length_cons] at h; omega)
  have := b2N_le b1
  rw [pk_ushrN (by omega) (nI 1) 1 (by decide), m2_or, nx_and]
  refine congrArg nI ?_
  have h0 := b2N_le b0
  rw [btN, btN] at hl
  rw [btN, btN, show (2 * (2 * btN l + b2N b0) + b2N b1) / 2 ^ 1 = 2 * btN l + b2N b0 by omega, nt_and (by omega) (by cases b1; exact Or.inl rfl; exact Or.inr rfl), btN]
  cases b1 <;> rfl
theorem bt_push {l : List Bool} (b : Bool) (h : l.length ≤ 29) : nI (btN l) <<< (nI 1 &&& 31) ||| nI (b2N b) = nI (btN (b :: l)) := by
  have hl := btN_lt l h
  rw [pk_shlN _ 1 (s_l31 1 (by omega)) (by omega), nx_or]
  refine congrArg nI ?_
  have := nt_or1 (btN l) false b
  rw [show btN l * 2 ^ 1 = 2 * btN l + b2N false by rw [b2N]; simp; omega, this, btN]
  rfl
/-! the steps of one E -/
def cvO (s : Int32) : Int32 := if 0 ≤ s then cvT s else if s = -1 then -3 else if s = -2 then -1 else -2
def amF (m : Int32) : Int32 := if -200 < m then -10 - m else -(-200 - m)
def stS (B : Nat → Int32) : List Int32 → List Bool → List Bool
  | [], st => st
  | s :: l, st => stS B l (if 0 ≤ s then tsF B s.toNatClampNeg :: st else if s = -1 then (!(st.headD false)) :: st.tail else (if s = -2 then (st.tail.headD false && st.headD false) else (st.tail.headD false || st.headD false)) :: st.tail.tail)
theorem okD_cut {l : List Int32} (h : okD l 0) (hl : l ≠ []) : ∃ sg m rest, l = sg ++ m :: rest ∧ (∀ s ∈ sg, ¬ s ≤ -10) ∧ m ≤ -10 := by
  have key : ∀ (l : List Int32) (d : Nat), okD l d → (l ≠ [] ∨ d ≠ 0) → ∃ sg m rest, l = sg ++ m :: rest ∧ (∀ s ∈ sg, ¬ s ≤ -10) ∧ m ≤ -10 := by
    intro l
    induction l with
    | nil => intro d h1 h2; rcases h2 with h2 | h2; exact absurd rfl h2; exact absurd h1 h2
    | cons s l ih =>
      intro d h1 _
      by_cases c : s ≤ -10
      · exact ⟨[], s, l, rfl, (fun _ h => by cases h), c⟩
      · have nx : ∃ d2, okD l d2 ∧ d2 ≠ 0 := by
          rcases h1 with ⟨-, -, -, -, -, h⟩ | ⟨-, h2, h⟩ | ⟨-, h2, h⟩ | ⟨⟨n, hn, h | h⟩, -, -⟩
          · exact ⟨d + 1, h, by omega⟩
          · exact ⟨d, h, by omega⟩
          · exact ⟨d - 1, h, by omega⟩
          · exact absurd (h ▸ mk_le10 hn) c
          · exact absurd (h ▸ mk_le200 hn) c
        obtain ⟨d2, k1, k2⟩ := nx
        obtain ⟨sg, m, rest, e, e2, e3⟩ := ih d2 k1 (Or.inr k2)
        refine ⟨s :: sg, m, rest, by rw [e]; rfl, fun z hz => ?_, e3⟩
        rcases List.mem_cons.mp hz with rfl | hz
        · exact c
        · exact e2 z hz
  exact key l 0 h (Or.inl hl)
theorem neg_of {s : Int32} (h : s ≤ -10) : ¬ 0 ≤ s ∧ ¬ s = -1 ∧ ¬ s = -2 ∧ ¬ s = -3 ∧ ¬ -10 < s := by
  refine ⟨fun z => ?_, fun z => ?_, fun z => ?_, fun z => ?_, Int32.not_lt.mpr h⟩
  · exact absurd (Int32.le_trans z h) (by decide)
  · exact absurd (z ▸ h) (by decide)
  · exact absurd (z ▸ h) (by decide)
  · exact absurd (z ▸ h) (by decide)
theorem cvA_cut : ∀ {sg : List Int32} {m : Int32} {rest : List Int32}, (∀ s ∈ sg, ¬ s ≤ -10) → m ≤ -10 → cvA (sg ++ m :: rest) = amF m :: cvA rest
  | [], m, rest, _, hm => by rw [List.nil_append, cvA, if_pos hm]; rfl
  | s :: sg, m, rest, h, hm => by
    rw [List.cons_append, cvA, if_neg (h s (List.mem_cons_self ..))]
    exact cvA_cut (fun z hz => h z (List.mem_cons_of_mem _ hz)) hm
theorem cvE_cut : ∀ {sg : List Int32} {m : Int32} {rest : List Int32} {c : Nat}, (∀ s ∈ sg, ¬ s ≤ -10) → m ≤ -10 → cvE (sg ++ m :: rest) c = nI (c + sg.length) :: cvE rest (c + sg.length)
  | [], m, rest, c, _, hm => by rw [List.nil_append, cvE, if_pos hm]; rfl
  | s :: sg, m, rest, c, h, hm => by
    rw [List.cons_append, cvE, if_neg (h s (List.mem_cons_self ..)), cvE_cut (fun z hz => h z (List.mem_cons_of_mem _ hz)) hm, List.length_cons, show c + 1 + sg.length = c + (sg.length + 1) by omega]
theorem okD_kind {s : Int32} {l : List Int32} {d : Nat} (h : okD (s :: l) d) (c : ¬ s ≤ -10) : 0 ≤ s ∨ s = -1 ∨ s = -2 ∨ s = -3 := by
  rcases h with ⟨h, -⟩ | ⟨h, -⟩ | ⟨h | h, -⟩ | ⟨⟨n, hn, h | h⟩, -⟩
  · exact Or.inl h
  · exact Or.inr (Or.inl h)
  · exact Or.inr (Or.inr (Or.inl h))
  · exact Or.inr (Or.inr (Or.inr h))
  · exact absurd (h ▸ mk_le10 hn) c
  · exact absurd (h ▸ mk_le200 hn) c
theorem okD_nx {s : Int32} {l : List Int32} {d : Nat} (h : okD (s :: l) d) (c : ¬ s ≤ -10) : ∃ d2, okD l d2 := by
  rcases h with ⟨-, -, -, -, -, h⟩ | ⟨-, -, h⟩ | ⟨-, -, h⟩ | ⟨⟨n, hn, h | h⟩, -⟩
  · exact ⟨_, h⟩
  · exact ⟨_, h⟩
  · exact ⟨_, h⟩
  · exact absurd (h ▸ mk_le10 hn) c
  · exact absurd (h ▸ mk_le200 hn) c
theorem cvS_cut : ∀ {sg : List Int32} {m : Int32} {rest : List Int32} {d : Nat}, okD (sg ++ m :: rest) d → (∀ s ∈ sg, ¬ s ≤ -10) → m ≤ -10 → cvS (sg ++ m :: rest) = sg.map cvO ++ cvS rest ∧ okD rest 0
  | [], m, rest, d, hok, _, hm => by
    obtain ⟨n1, n2, n3, n4, -⟩ := neg_of hm
    rw [List.nil_append, cvS, if_neg n1, if_neg n2, if_neg n3, if_neg n4]
    exact ⟨rfl, (okD_mark hm hok).2.2⟩
  | s :: sg, m, rest, d, hok, h, hm => by
    have hs := h s (List.mem_cons_self ..)
    obtain ⟨d2, hd2⟩ := okD_nx hok hs
    obtain ⟨e1, e2⟩ := cvS_cut hd2 (fun z hz => h z (List.mem_cons_of_mem _ hz)) hm
    refine ⟨?_, e2⟩
    rw [List.cons_append, cvS, List.map_cons, List.cons_append, ← e1, cvO]
    rcases okD_kind hok hs with k | k | k | k
    · rw [if_pos k, if_pos k]
    · subst k
      rw [if_neg (show ¬ (0 : Int32) ≤ -1 by decide), if_pos (rfl : (-1 : Int32) = -1), if_neg (show ¬ (0 : Int32) ≤ -1 by decide), if_pos (rfl : (-1 : Int32) = -1)]
    · subst k
      rw [if_neg (show ¬ (0 : Int32) ≤ -2 by decide), if_neg (show ¬ (-2 : Int32) = -1 by decide), if_pos (rfl : (-2 : Int32) = -2), if_neg (show ¬ (0 : Int32) ≤ -2 by decide), if_neg (show ¬ (-2 : Int32) = -1 by decide), if_pos (rfl : (-2 : Int32) = -2)]
    · subst k
      rw [if_neg (show ¬ (0 : Int32) ≤ -3 by decide), if_neg (show ¬ (-3 : Int32) = -1 by decide), if_neg (show ¬ (-3 : Int32) = -2 by decide), if_pos (rfl : (-3 : Int32) = -3), if_neg (show ¬ (0 : Int32) ≤ -3 by decide), if_neg (show ¬ (-3 : Int32) = -1 by decide), if_neg (show ¬ (-3 : Int32) = -2 by decide)]
theorem lt10 {s : Int32} {l : List Int32} {d : Nat} (h : okD (s :: l) d) (c : ¬ s ≤ -10) : -10 < s := Int32.not_le.mp c
theorem evL_cut {B : Nat → Int32} : ∀ {sg : List Int32} {m : Int32} {rest : List Int32} {st : List Bool} {sum : Int32}, (∀ s ∈ sg, ¬ s ≤ -10) → m ≤ -10 → evL B (sg ++ m :: rest) st sum = evL B rest [] (mkF m ((stS B sg st).headD false) sum)
  | [], m, rest, st, sum, _, hm => by
    obtain ⟨n1, n2, -, -, n5⟩ := neg_of hm
    rw [List.nil_append, evL, if_neg n1, if_neg n2, if_neg n5]
    rfl
  | s :: sg, m, rest, st, sum, h, hm => by
    have hs := h s (List.mem_cons_self ..)
    have ih := fun st => evL_cut (B := B) (sg := sg) (m := m) (rest := rest) (st := st) (sum := sum) (fun z hz => h z (List.mem_cons_of_mem _ hz)) hm
    rw [List.cons_append, evL, stS]
    by_cases c1 : 0 ≤ s
    · rw [if_pos c1, if_pos c1, ih]
    · rw [if_neg c1, if_neg c1]
      by_cases c2 : s = -1
      · rw [if_pos c2, if_pos c2, ih]
      · rw [if_neg c2, if_neg c2, if_pos (Int32.not_le.mp hs), ih]
theorem mkF_am {m sum : Int32} (b : Bool) : mkF m b sum = if b = true then sum + amF m else sum := by
  unfold mkF amF
  cases b
  · simp [nI_0]
  · by_cases c : -200 < m
    · simp [c, Int32.not_le.mpr c, nI_0]
    · simp [c, Int32.not_lt.mp c, nI_0, Int32.sub_eq_add_neg]
theorem cvO_test {k : Nat} (hk : k < 2 ^ 31) : cvO (nI k) = nI ((k % 8 * 3 + k / 8 % 4) * 100 + k / 32) := by
  rw [cvO, if_pos (nI_pos' hk), cvT, nI_clamp hk]
/-- a TEST by its letter, sign, number -/
def tsW (B : Nat → Int32) (w h v : Nat) : Bool := if h = 0 then decide (B w < nI v) else if h = 1 then decide (B w = nI v) else decide (nI v < B w)
theorem tsF_w (B : Nat → Int32) (k : Nat) : tsF B k = tsW B (k % 8) (k / 8 % 4) (k / 32) := rfl
theorem drop_at {α : Type} {l r : List α} {j : Nat} {s : α} (h : l.drop j = s :: r) (dflt : α) : l.getD j dflt = s ∧ l.drop (j + 1) = r ∧ j < l.length := by
  obtain ⟨h1, h2⟩ := drop_cons h
  refine ⟨by rw [List.getD_eq_getElem?_getD, h1]; rfl, h2, (List.getElem?_eq_some_iff.mp h1).1⟩
theorem drop_more {α : Type} {l a b : List α} {c : Nat} (h : l.drop c = a ++ b) (dflt : α) : l.drop (c + a.length) = b ∧ ∀ i, (hi : i < a.length) → l.getD (c + i) dflt = a[i] := by
  refine ⟨by rw [← List.drop_drop, h]; simp, fun i hi => ?_⟩
  have : (l.drop c)[i]? = some a[i] := by rw [h, List.getElem?_append_left hi]; exact List.getElem?_eq_getElem hi
  rw [List.getElem?_drop] at this
  rw [List.getD_eq_getElem?_getD, this]
  rfl
theorem cv_len : ∀ (l : List Int32) (c : Nat), (cvE l c).length = (cvA l).length ∧ (cvA l).length ≤ l.length ∧ (cvS l).length ≤ l.length
  | [], _ => ⟨rfl, Nat.le_refl _, Nat.le_refl _⟩
  | s :: l, c => by
    have h1 := cv_len l c
    have h2 := cv_len l (c + 1)
    refine ⟨?_, ?_, ?_⟩
    · rw [cvE, cvA]
      split
      · simp only [List.length_cons]; omega
      · exact h2.1
    · rw [cvA]
      split
      · simp only [List.length_cons]; omega
      · simp only [List.length_cons]; omega
    · rw [cvS]
      split
      · simp only [List.length_cons]; omega
      · split
        · simp only [List.length_cons]; omega
        · split
          · simp only [List.length_cons]; omega
          · split <;> simp only [List.length_cons] <;> omega
