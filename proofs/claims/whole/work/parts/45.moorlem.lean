/-! what a Moor's parts say of S -/
/-- outside lo .. hi two rows are the same -/
def Agr (lo hi : Nat) (S S' : Nat → Int32) : Prop := ∀ j, (j < lo ∨ hi ≤ j) → S' j = S j
theorem Agr.vw {lo hi o n : Nat} {S S' : Nat → Int32} (h : Agr lo hi S S') (c : o + n ≤ lo ∨ hi ≤ o) : vwn S o n = vwn S' o n := vwn_ext fun j hj => (h _ (by omega)).symm
theorem Agr.hi {lo hi : Nat} {S S' : Nat → Int32} (h : Agr lo hi S S') (c : hi ≤ 32) : Hi S S' := fun j hj => h j (by omega)
theorem bitF_ext {S S' : Nat → Int32} (h : ∀ k, k < 6 → S' (8 + k) = S (8 + k)) : bitF S = bitF S' := by
  unfold bitF
  rw [← h 0 (by omega), ← h 1 (by omega), ← h 2 (by omega), ← h 3 (by omega), ← h 4 (by omega), ← h 5 (by omega)]
theorem Agr.bit {lo hi : Nat} {S S' : Nat → Int32} (h : Agr lo hi S S') (c : 14 ≤ lo ∨ hi ≤ 8) : bitF S = bitF S' := bitF_ext fun k hk => h _ (by omega)
theorem bitF_ne {S : Nat → Int32} {i : Nat} {x : Int32} (h : i < 8 ∨ 14 ≤ i) : bitF (upd S i x) = bitF S := bitF_ext fun k hk => (upd_ne _ _ (by omega)).symm
theorem upd_agr (S : Nat → Int32) (i : Nat) (x : Int32) : Agr i (i + 1) S (upd S i x) := fun j hj => upd_ne _ _ (by omega)
theorem g1F_agr (S : Nat → Int32) {i : Nat} (h : i ≤ 6) : Agr 20 26 S (g1F S i) := fun j hj => if_neg (by omega)
theorem rnF_agr (S : Nat → Int32) {i : Nat} (h : i ≤ 6) : Agr 2 8 S (rnF S i) := fun j hj => if_neg (by omega)
theorem capF_agr (S : Nat → Int32) {i : Nat} (h : i ≤ 6) : Agr 26 32 S (capF S i) := fun j hj => if_neg (by omega)
theorem wdF_agr (S : Nat → Int32) : Agr 0 2 S (wdF S) := fun j hj => wdF_ne S (by omega)
/-- ROOFS as a number -/
def rfN (S : Nat → Int32) : Nat := sn S 8 + 2 * sn S 9 + 4 * sn S 10 + 8 * sn S 11 + 16 * sn S 12 + 32 * sn S 13
theorem bit_key : ∀ a, a < 2 → ∀ b, b < 2 → ∀ c, c < 2 → ∀ d, d < 2 → ∀ e, e < 2 → ∀ f, f < 2 → nI 0 ||| nI a <<< (nI 0 &&& 31) ||| nI b <<< (nI 1 &&& 31) ||| nI c <<< (nI 2 &&& 31) ||| nI d <<< (nI 3 &&& 31) ||| nI e <<< (nI 4 &&& 31) ||| nI f <<< (nI 5 &&& 31) = nI (a + 2 * b + 4 * c + 8 * d + 16 * e + 32 * f) := by decide +kernel
theorem bitF_eq' {S : Nat → Int32} (h : ∀ k, k < 6 → NB S (8 + k) 1) : bitF S = nI (rfN S) := by
  have q : ∀ k, k < 6 → S (8 + k) = nI (sn S (8 + k)) ∧ sn S (8 + k) < 2 := fun k hk => ⟨(h k hk).eq, by have := (h k hk).le; omega⟩
  unfold bitF rfN
  have h0 := q 0 (by omega)
  have h1 := q 1 (by omega)
  have h2 := q 2 (by omega)
  have h3 := q 3 (by omega)
  have h4 := q 4 (by omega)
  have h5 := q 5 (by omega)
  simp only [Nat.add_zero, Nat.reduceAdd] at h0 h1 h2 h3 h4 h5
  rw [h0.1, h1.1, h2.1, h3.1, h4.1, h5.1]
  exact bit_key _ h0.2 _ h1.2 _ h2.2 _ h3.2 _ h4.2 _ h5.2
theorem bitF_eq {S : Nat → Int32} {D E : Nat} (h : WF S D E) : bitF S = nI (rfN S) := bitF_eq' h.roof
theorem rfN_lt {S : Nat → Int32} (h : ∀ k, k < 6 → NB S (8 + k) 1) : rfN S < 64 := by
  have q : ∀ k, k < 6 → sn S (8 + k) ≤ 1 := fun k hk => (h k hk).le
  have h0 := q 0 (by omega)
  have h1 := q 1 (by omega)
  have h2 := q 2 (by omega)
  have h3 := q 3 (by omega)
  have h4 := q 4 (by omega)
  have h5 := q 5 (by omega)
  simp only [Nat.add_zero, Nat.reduceAdd] at h0 h1 h2 h3 h4 h5
  unfold rfN
  omega
theorem rfN_at {S : Nat → Int32} (h : ∀ k, k < 6 → NB S (8 + k) 1) {k : Nat} (hk : k < 6) : rfN S / 2 ^ k % 2 = sn S (8 + k) := by
  have q : ∀ k, k < 6 → sn S (8 + k) ≤ 1 := fun k hk => (h k hk).le
  have h0 := q 0 (by omega)
  have h1 := q 1 (by omega)
  have h2 := q 2 (by omega)
  have h3 := q 3 (by omega)
  have h4 := q 4 (by omega)
  have h5 := q 5 (by omega)
  simp only [Nat.add_zero, Nat.reduceAdd] at h0 h1 h2 h3 h4 h5
  unfold rfN
  rcases (show k = 0 ∨ k = 1 ∨ k = 2 ∨ k = 3 ∨ k = 4 ∨ k = 5 by omega) with rfl | rfl | rfl | rfl | rfl | rfl <;> simp only [Nat.reducePow, Nat.reduceAdd] <;> omega
theorem bitF_at {S : Nat → Int32} {D E k : Nat} (h : WF S D E) (hk : k < 6) : (bitF S >>> (nI k &&& 31)) &&& nI 1 = S (8 + k) := by
  have hl := rfN_lt h.roof
  rw [bitF_eq h, bit_at (by omega) (by omega), rfN_at h.roof hk, (h.roof k hk).eq]
theorem rf_set : ∀ x, x < 64 → ∀ k, k < 6 → nI x ||| (nI 1 <<< (nI k &&& 31)) = nI (if x / 2 ^ k % 2 = 1 then x else x + 2 ^ k) := by decide +kernel
theorem rf_clr : ∀ x, x < 64 → ∀ k, k < 6 → nI x &&& ((nI 1 <<< (nI k &&& 31)) ^^^ (-1)) = nI (if x / 2 ^ k % 2 = 1 then x - 2 ^ k else x) := by decide +kernel
theorem roof_nb {S : Nat → Int32} {D E k b : Nat} (h : WF S D E) (hb : b ≤ 1) : ∀ j, j < 6 → NB (upd S (8 + k) (nI b)) (8 + j) 1 := by
  intro j hj
  by_cases c : j = k
  · subst c
    exact NB.of (by omega) hb (upd_eq _ _ _)
  · exact (h.roof j hj).congr (upd_ne _ _ (by omega))
theorem sn_upd (S : Nat → Int32) (i j : Nat) (b : Nat) (hb : b < 2 ^ 31) : sn (upd S i (nI b)) j = if j = i then b else sn S j := by
  by_cases c : j = i
  · subst c
    rw [if_pos rfl]
    exact sn_of hb (upd_eq _ _ _)
  · rw [if_neg c]
    exact sn_congr (upd_ne _ _ c)
theorem bitF_set {S : Nat → Int32} {D E k : Nat} (h : WF S D E) (hk : k < 6) : bitF (upd S (8 + k) (nI 1)) = bitF S ||| (nI 1 <<< (nI k &&& 31)) := by
  rw [bitF_eq h, bitF_eq' (roof_nb h (by omega)), rf_set _ (rfN_lt h.roof) k hk, rfN_at h.roof hk]
  refine congrArg nI ?_
  have hb := (h.roof k hk).le
  unfold rfN
  simp only [sn_upd _ _ _ 1 (by omega)]
  rcases (show k = 0 ∨ k = 1 ∨ k = 2 ∨ k = 3 ∨ k = 4 ∨ k = 5 by omega) with rfl | rfl | rfl | rfl | rfl | rfl <;> simp only [Nat.reducePow, Nat.reduceAdd, Nat.add_zero] at hb ⊢ <;> simp <;> split <;> omega
theorem bitF_clr {S : Nat → Int32} {D E k : Nat} (h : WF S D E) (hk : k < 6) : bitF (upd S (8 + k) (nI 0)) = bitF S &&& ((nI 1 <<< (nI k &&& 31)) ^^^ (-1)) := by
  rw [bitF_eq h, bitF_eq' (roof_nb h (by omega)), rf_clr _ (rfN_lt h.roof) k hk, rfN_at h.roof hk]
  refine congrArg nI ?_
  have hb := (h.roof k hk).le
  unfold rfN
  simp only [sn_upd _ _ _ 0 (by omega)]
  rcases (show k = 0 ∨ k = 1 ∨ k = 2 ∨ k = 3 ∨ k = 4 ∨ k = 5 by omega) with rfl | rfl | rfl | rfl | rfl | rfl <;> simp only [Nat.reducePow, Nat.reduceAdd, Nat.add_zero] at hb ⊢ <;> simp <;> split <;> omega
theorem mn_le (x y : Int32) : mnF x y = leF x y := by
  unfold mnF leF
  by_cases h : x < y
  · rw [if_pos h, if_neg (Int32.lt_asymm h)]
  · rw [if_neg h]
    by_cases h2 : y < x
    · rw [if_pos h2]
    · rw [if_neg h2]
      exact Int32.le_antisymm (Int32.not_lt.mp h2) (Int32.not_lt.mp h)
theorem cap_eq {n : Nat} (hn : n < 2 ^ 31) : mnF (nI 9999) (nI n) = wiF (nI n) (nI 0) (nI 9999) := by
  unfold mnF wiF
  rw [if_neg (show ¬ nI n < nI 0 from fun z => by have := (nI_ltI hn (by omega)).mp z; omega)]
  by_cases h : n < 9999
  · rw [if_pos ((nI_ltI hn (by omega)).mpr h), if_neg (fun z => by have := (nI_ltI (by omega) hn).mp z; omega)]
  · rw [if_neg (fun z => h ((nI_ltI hn (by omega)).mp z))]
    by_cases h2 : 9999 < n
    · rw [if_pos ((nI_ltI (by omega) hn).mpr h2)]
    · rw [if_neg (fun z => h2 ((nI_ltI (by omega) hn).mp z)), show n = 9999 by omega]
theorem ang_eq (S : Nat → Int32) (p : Nat) : evL (byF S p) (hlL S) [] (nI 0) = angF S p := by
  unfold hlL angF
  by_cases h : S 38 = -1
  · rw [if_pos h, if_pos h]
    rfl
  · rw [if_neg h, if_neg h]
theorem hlL_ok {S : Nat → Int32} (h : HoldOK S) : okD (hlL S) 0 ∧ (hlL S).length ≤ 100 := by
  unfold hlL
  rcases h with h | ⟨h1, h2, h3, h4, h5, h6⟩
  · rw [if_pos h]
    exact ⟨rfl, Nat.zero_le _⟩
  · by_cases c : S 38 = -1
    · rw [if_pos c]
      exact ⟨rfl, Nat.zero_le _⟩
    · rw [if_neg c]
      exact ⟨h6, by rw [stL_len]; exact h5.le⟩
/-- RISES of p do not look at other GRUDGES -/
theorem risF_g1 {S : Nat → Int32} {D E i : Nat} (h : WF S D E) (hi : i < 6) : risF (g1F S i) i = risF S i := by
  have ag := g1F_agr S (i := i) (by omega)
  have hh := ag.hi (by omega)
  have e14 : g1F S i (14 + i) = S (14 + i) := ag _ (by omega)
  have eg : g1F S i (20 + i) = S (20 + i) := if_neg (by omega)
  have hs := (h.side i hi).le
  have ean : angF (g1F S i) i = angF S i := by
    unfold angF
    rw [hh 38 (by omega), hh.sn (by omega), hh.stl]
    have eb : byF (g1F S i) i = byF S i := by
      funext j
      unfold byF
      rw [ag 0 (by omega), ag (39 + i) (by omega), ag (45 + i) (by omega), e14, eg]
    rw [eb]
  have esl : slyF (g1F S i) i = slyF S i := by
    unfold slyF
    rw [ean, sn_congr e14, sn_congr (ag (2 + sn S (14 + i)) (by omega))]
  unfold risF
  rw [ean, esl, hh.sn (by omega), ag 0 (by omega), ag (45 + i) (by omega), sn_congr (ag 0 (by omega)), ag (51 + 4 * i + sn S 0 % 4) (by omega)]
theorem sel_mul (x : Nat) (K : Int32) : nI (x % 2) * K = if x % 2 = 1 then K else nI 0 := by
  rcases (show x % 2 = 0 ∨ x % 2 = 1 by omega) with e | e
  · rw [e, if_neg (by omega), nI_0, Int32.zero_mul]
  · rw [e, if_pos rfl, show nI 1 = 1 from rfl, Int32.one_mul]
/-- where n places are the same as MoOK speaks of -/
theorem MoOK.os {G : GG} {ro : va_W} {tr : Nat} {S : Nat → Int32} {os os' : Nat → Option Nat} {t D E : Nat} (h : MoOK G ro tr S os t) (hW : WF S D E) (he : ∀ p, p < 6 → os' p = os p) : MoOK G ro tr S os' t := by
  have hn := hW.peo.le
  exact ⟨fun p hp => by rw [he p (by omega)]; exact h.1 p hp, fun p hp => by rw [he p hp]; exact h.2.1 p hp, h.2.2⟩
/-- the first n of os over os' -/
def cpO (n : Nat) (os os' : Nat → Option Nat) : Nat → Option Nat := fun j => if j < n then os j else os' j
theorem cpO_0 (os os' : Nat → Option Nat) : cpO 0 os os' = os' := funext fun j => if_neg (by omega)
theorem cpO_s {os os' : Nat → Option Nat} {i r : Nat} (h : os i = some r) : va_up (cpO i os os') i (some r) = cpO (i + 1) os os' := by
  funext j
  unfold va_up cpO
  by_cases c : j = i
  · subst c
    rw [if_pos rfl, if_pos (by omega), h]
  · rw [if_neg c]
    by_cases d : j < i
    · rw [if_pos d, if_pos (by omega)]
    · rw [if_neg d, if_neg (by omega)]
theorem mo_eq {G : GG} {b : Nat → Nat} {sa sa' tk tk' : Nat → Int32} {os os' : Nat → Option Nat} {si si' gr gr' ea ea' rw rw' le le' : Nat → Int32} {pe pe' rf rf' dy dy' wr wr' : Int32} {t : Nat} {ts ts' st st' wa wa' : Int32} (h1 : sa = sa') (h2 : tk = tk') (h3 : os = os') (h4 : si = si') (h5 : gr = gr') (h6 : ea = ea') (h7 : rw = rw') (h8 : le = le') (h9 : pe = pe') (h10 : rf = rf') (h11 : dy = dy') (h12 : wr = wr') (h13 : ts = ts') (h14 : st = st') (h15 : wa = wa') : MO G b sa tk os si gr ea rw le pe rf dy wr t ts st wa = MO G b sa' tk' os' si' gr' ea' rw' le' pe' rf' dy' wr' t ts' st' wa' := by
  subst h1 h2 h3 h4 h5 h6 h7 h8 h9 h10 h11 h12 h13 h14 h15
  rfl
theorem com_rw {S : Nat → Int32} {p : Nat} {k v s : Int32} (hp : p < 6) : flF (vwn S 51 24) (p * 4) ((p + 1) * 4) (nI 0) = vwn (comesF S p k v s) 51 24 := by
  funext j
  unfold flF vwn comesF
  by_cases c : p * 4 ≤ j ∧ j < (p + 1) * 4
  · rw [if_pos c, if_pos (by omega), upd_ne _ _ (by omega)]
    rcases (show j = 4 * p ∨ j = 4 * p + 1 ∨ j = 4 * p + 2 ∨ j = 4 * p + 3 by omega) with rfl | rfl | rfl | rfl
    · rw [upd_ne _ _ (by omega), upd_ne _ _ (by omega), upd_ne _ _ (by omega), upd_eq]
    · rw [upd_ne _ _ (by omega), upd_ne _ _ (by omega), show 51 + (4 * p + 1) = 51 + 4 * p + 1 by omega, upd_eq]
    · rw [upd_ne _ _ (by omega), show 51 + (4 * p + 2) = 51 + 4 * p + 2 by omega, upd_eq]
    · rw [show 51 + (4 * p + 3) = 51 + 4 * p + 3 by omega, upd_eq]
  · rw [if_neg c]
    by_cases d : j < 24
    · rw [if_pos d, if_pos d, upd_ne _ _ (by omega), upd_ne _ _ (by omega), upd_ne _ _ (by omega), upd_ne _ _ (by omega), upd_ne _ _ (by omega), upd_ne _ _ (by omega), upd_ne _ _ (by omega), upd_ne _ _ (by omega), upd_ne _ _ (by omega), upd_ne _ _ (by omega)]
    · rw [if_neg d, if_neg d]
