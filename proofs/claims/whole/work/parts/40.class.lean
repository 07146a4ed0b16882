/-! THE CLASS: its worlds, tied to the reference's row S -/
/-- n places of S from o on -/
def vwn (S : Nat → Int32) (o n : Nat) : Nat → Int32 := fun j => if j < n then S (o + j) else 0
theorem vwn_at {S : Nat → Int32} {o n j : Nat} (h : j < n) : vwn S o n j = S (o + j) := if_pos h
theorem vwn_upd {S : Nat → Int32} {o n k : Nat} {x : Int32} (h : k < n) : upd (vwn S o n) k x = vwn (upd S (o + k) x) o n := by
  funext j
  unfold upd vwn
  by_cases c : j = k
  · subst c
    rw [if_pos rfl, if_pos h]
    exact (if_pos rfl).symm
  · rw [if_neg c]
    by_cases d : j < n
    · rw [if_pos d, if_pos d]
      exact (if_neg (by omega)).symm
    · rw [if_neg d, if_neg d]
theorem vwn_ext {S S' : Nat → Int32} {o n : Nat} (h : ∀ j, j < n → S (o + j) = S' (o + j)) : vwn S o n = vwn S' o n := by
  funext j
  unfold vwn
  by_cases d : j < n
  · rw [if_pos d, if_pos d, h j d]
  · rw [if_neg d, if_neg d]
theorem vwn_ne {S : Nat → Int32} {o n i : Nat} {x : Int32} (h : i < o ∨ o + n ≤ i) : vwn (upd S i x) o n = vwn S o n := vwn_ext fun j hj => upd_ne _ _ (by omega)
/-- the first n of f over g -/
def cpF (n : Nat) (f g : Nat → Int32) : Nat → Int32 := fun j => if j < n then f j else g j
theorem cpF_vwn {S K : Nat → Int32} {o n : Nat} : cpF n (vwn S o n) (vwn K o n) = vwn S o n := by
  funext j
  unfold cpF vwn
  by_cases d : j < n
  · rw [if_pos d]
  · rw [if_neg d, if_neg d, if_neg d]
theorem va_cpy0 (n : Nat) (f g : Nat → Int32) : va_cpy f g 0 0 n = cpF n f g := by
  funext j
  unfold va_cpy cpF
  by_cases d : j < n
  · rw [if_pos (by omega), if_pos d, Nat.sub_zero, Nat.zero_add]
  · rw [if_neg (by omega), if_neg d]
theorem cI_0 (n : Nat) (f g : Nat → Int32) (h : ∀ j, j < n → f j = g j) (c : ClassId) : vp_cell c (n, .inl f) = vp_cell c (n, .inl g) := by
  rw [vp_cell_i, vp_cell_i]
  unfold arrV
  congr 1
  apply congrArg
  funext j
  exact congrArg Value.int (h j.val j.isLt)
def mxF (x y : Int32) : Int32 := if x < y then y else x
def mnF (x y : Int32) : Int32 := if y < x then y else x
section EX
variable {G : GG} {M : MI} {d bc bs pc : Nat} {X : Cx} {lv : List (Nat × Value)} {st : List Value} {ws ro : va_W}
/-- behind its length a row holds nothing -/
theorem ev_ext {a n q0 : Nat} {f g : Nat → Int32} {ws' : va_W} (he : ws[q0]? = some (a, ia G n f)) (h : ∀ j, j < n → f j = g j) (hw : ws.set q0 (a, ia G n g) = ws') (kk : Ev G X bc bs pc lv st ws' ro) : Ev G X bc bs pc lv st ws ro := by
  intro H locs cells slots ls hP hD hS hc hs hl
  have key : ∀ (w : va_W), (∀ (k : Nat) (q : Nat × va_E), w[k]? = some q → ∃ q2 : Nat × va_E, (ws ++ (ro ++ xW X))[k]? = some q2 ∧ q2.1 = q.1 ∧ (va_at (gD G) vwCl q2 H → va_at (gD G) vwCl q H)) → va_P (gD G) vwCl w H ∧ va_D (gA G) w := by
    intro w hq
    refine ⟨fun k q hk => ?_, fun i j p q hi hj e => ?_, fun k q hk => ?_⟩
    · obtain ⟨q2, h1, h2, h3⟩ := hq k q hk
      exact h3 (hP k q2 h1)
    · obtain ⟨p2, h1, h2, -⟩ := hq i p hi
      obtain ⟨q2, g1, g2, -⟩ := hq j q hj
      exact hD.1 i j p2 q2 h1 g1 (h2.trans (e.trans g2.symm))
    · obtain ⟨q2, h1, h2, -⟩ := hq k q hk
      rw [← h2]
      exact hD.2 k q2 h1
  have hlt := (List.getElem?_eq_some_iff.mp he).1
  obtain ⟨k1, k2⟩ := key (ws' ++ (ro ++ xW X)) (by
    intro k q hk
    subst hw
    by_cases c : k < ws.length
    · rw [List.getElem?_append_left (by rw [List.length_set]; exact c)] at hk
      by_cases e : q0 = k
      · subst e
        rw [List.getElem?_set_self hlt] at hk
        injection hk with hk
        subst hk
        refine ⟨_, tot_at he, rfl, fun z => ?_⟩
        show H[a]? = some (vp_cell (gC G 0) (n, .inl g))
        rw [← cI_0 n f g h]
        exact z
      · rw [List.getElem?_set_ne e] at hk
        exact ⟨q, tot_at hk, rfl, id⟩
    · rw [List.getElem?_append_right (by rw [List.length_set]; omega), List.length_set] at hk
      exact ⟨q, by rw [List.getElem?_append_right (by omega)]; exact hk, rfl, id⟩)
  exact kk H locs cells slots ls k1 k2 hS hc hs hl
/-- System.arraycopy of the first n -/
theorem ev_copy0 (hC : Cok G M d X) {idx q0 q1 a0 a1 n0 n1 n : Nat} {f g : Nat → Int32} {ws' : va_W} (hw : Cond.methodLink M.1.cls idx arraycopyName ∈ FT ∧ Cond.native arraycopyName ∈ FT ∧ Cond.static arraycopyName ∈ FT ∧ Cond.initialized "java/lang/System" ∈ FT) (h0 : ws[q0]? = some (a0, ia G n0 f)) (h1 : ws[q1]? = some (a1, ia G n1 g)) (s4 : n ≤ n0) (s5 : n ≤ n1) (s6 : n < 2 ^ 31) (hd : 1 ≤ d) (hcat : (st.map fun v => v.category).sum ≤ 8) (hws : ws.set q1 (a1, ia G n1 (cpF n f g)) = ws') (hdg : decode M.2.1 pc = .ok (.invokestatic idx, 3)) (kk : Ev G X bc bs (pc + 3) lv st ws' ro) : Ev G X bc bs pc lv (.int (nI n) :: .int (nI 0) :: .ref a1 :: .int (nI 0) :: .ref a0 :: st) ws ro := by
  have z : (nI 0).toNatClampNeg = 0 := rfl
  refine ev_copy hC hw h0 h1 (by decide) (by decide) (nI_pos s6) (by rw [z, nI_clamp s6]; omega) (by rw [z, nI_clamp s6]; omega) hd hcat ?_ hdg kk
  rw [z, nI_clamp s6, va_cpy0]
  exact hws
theorem ev_i2b (hC : Cok G M d X) {x v : Int32} (hdg : decode M.2.1 pc = .ok (.i2b, 1)) (hv : x.toInt8.toInt32 = v) (k : Ev G X bc bs (pc + 1) lv (.int v :: st) ws ro) : Ev G X bc bs pc lv (.int x :: st) ws ro := fun H locs cells slots ls hP hD hS hc hs hl => lv_i2b hC.x hC.b hdg hv (k H locs cells slots ls hP hD hS hc hs hl)
/-- Math.max, Math.min -/
theorem ev_mmax (hC : Cok G M d X) {idx : Nat} {x y : Int32} (hw : Cond.methodLink M.1.cls idx Lib.Math.max.name ∈ FT ∧ Cond.static Lib.Math.max.name ∈ FT ∧ Cond.initialized "java/lang/Math" ∈ FT ∧ Cond.code Lib.Math.max.name Lib.Math.max.code 2 (some .int) ∈ FT) (hd : 1 ≤ d) (hcat : (st.map fun v => v.category).sum ≤ 8) (hdg : decode M.2.1 pc = .ok (.invokestatic idx, 3)) (kk : Ev G X bc bs (pc + 3) lv (.int (mxF x y) :: st) ws ro) : Ev G X bc bs pc lv (.int y :: .int x :: st) ws ro := by
  intro H locs cells slots ls hP hD hS hc hs hl
  have r1 := hC.f
  have r2 := hC.l
  exact va_mmax hC.x hC.b hl.1.symm hC.o (hC.t _ hw.1) (hC.t _ hw.2.1) (hC.t _ hw.2.2.1) (hC.t _ hw.2.2.2) (by omega) (by omega) (by omega) (by omega) hdg (kk H locs cells slots ls hP hD hS hc hs hl)
theorem ev_mmin (hC : Cok G M d X) {idx : Nat} {x y : Int32} (hw : Cond.methodLink M.1.cls idx Lib.Math.min.name ∈ FT ∧ Cond.static Lib.Math.min.name ∈ FT ∧ Cond.initialized "java/lang/Math" ∈ FT ∧ Cond.code Lib.Math.min.name Lib.Math.min.code 2 (some .int) ∈ FT) (hd : 1 ≤ d) (hcat : (st.map fun v => v.category).sum ≤ 8) (hdg : decode M.2.1 pc = .ok (.invokestatic idx, 3)) (kk : Ev G X bc bs (pc + 3) lv (.int (mnF x y) :: st) ws ro) : Ev G X bc bs pc lv (.int y :: .int x :: st) ws ro := by
  intro H locs cells slots ls hP hD hS hc hs hl
  have r1 := hC.f
  have r2 := hC.l
  exact va_mmin hC.x hC.b hl.1.symm hC.o (hC.t _ hw.1) (hC.t _ hw.2.1) (hC.t _ hw.2.2.1) (hC.t _ hw.2.2.2) (by omega) (by omega) (by omega) (by omega) hdg (kk H locs cells slots ls hP hD hS hc hs hl)
end EX
theorem mw' {ro wn : va_W} {x : Nat × va_E} (h : x ∈ ro) : x ∈ ro ++ wn := List.mem_append_left _ h
/-- the class of a KIND -/
def kci (kd : Nat) : Nat := if kd = 0 then 4 else if kd = 1 then 1 else if kd = 2 then 0 else if kd = 3 then 8 else if kd = 4 then 2 else if kd = 5 then 5 else 9
theorem kci_pe {kd : Nat} (h : kd ≤ 6) : isPe (kci kd) := by
  rcases (show kd = 0 ∨ kd = 1 ∨ kd = 2 ∨ kd = 3 ∨ kd = 4 ∨ kd = 5 ∨ kd = 6 by omega) with rfl | rfl | rfl | rfl | rfl | rfl | rfl
  · exact Or.inl rfl
  all_goals exact Or.inr ⟨_, _, _, rfl, by decide +kernel⟩
/-- at r stands one of KIND kd, number p, with v; its TRACE is at tr -/
abbrev PeO (ro : va_W) (tr r kd p v : Nat) : Prop := (r, ob (kci kd) [.int (nI kd), .int (nI p), .int (nI v), .ref tr]) ∈ ro
/-! a TREATY as the class has it -/
def cvT (s : Int32) : Int32 := nI ((s.toNatClampNeg % 8 * 3 + s.toNatClampNeg / 8 % 4) * 100 + s.toNatClampNeg / 32)
def cvS : List Int32 → List Int32
  | [] => []
  | s :: l => if 0 ≤ s then cvT s :: cvS l else if s = -1 then -3 :: cvS l else if s = -2 then -1 :: cvS l else if s = -3 then -2 :: cvS l else cvS l
def cvA : List Int32 → List Int32
  | [] => []
  | s :: l => if s ≤ -10 then (if -200 < s then -10 - s else -(-200 - s)) :: cvA l else cvA l
def cvE : List Int32 → Nat → List Int32
  | [], _ => []
  | s :: l, c => if s ≤ -10 then nI c :: cvE l c else cvE l (c + 1)
def liF (l : List Int32) : Nat → Int32 := fun j => l.getD j 0
/-- at t stands a TREATY with RAIN, NEED and these steps -/
def TrO (G : GG) (ro : va_W) (t : Nat) (rn nd : Int32) (L : List Int32) : Prop := ∃ a1 a2 a3 : Nat, (t, ob 10 [.int rn, .int nd, .ref a1, .ref a2, .ref a3]) ∈ ro ∧ (a1, ia G (cvA L).length (liF (cvA L))) ∈ ro ∧ (a2, ia G (cvE L 0).length (liF (cvE L 0))) ∈ ro ∧ (a3, ia G (cvS L).length (liF (cvS L))) ∈ ro
/-- the steps of the TREATY that holds -/
def hlL (S : Nat → Int32) : List Int32 := if S 38 = -1 then [] else stL S (sn S 38)
/-- PEOPLE and the TREATY of a Moor are as S says -/
def MoOK (G : GG) (ro : va_W) (tr : Nat) (S : Nat → Int32) (os : Nat → Option Nat) (t : Nat) : Prop := (∀ p, p < sn S 32 → ∃ r, os p = some r ∧ PeO ro tr r (sn S (39 + p)) p (sn S (45 + p))) ∧ (∀ p, p < 6 → ∃ r ci fs, os p = some r ∧ (r, ob ci fs) ∈ ro ∧ isPe ci) ∧ TrO G ro t (rainF S) (needF S) (hlL S)
theorem TrO.mono {G : GG} {ro wn : va_W} {t : Nat} {rn nd : Int32} {L : List Int32} (h : TrO G ro t rn nd L) : TrO G (ro ++ wn) t rn nd L := by
  obtain ⟨a1, a2, a3, h1, h2, h3, h4⟩ := h
  exact ⟨a1, a2, a3, mw' h1, mw' h2, mw' h3, mw' h4⟩
theorem MoOK.mono {G : GG} {ro wn : va_W} {tr : Nat} {S : Nat → Int32} {os : Nat → Option Nat} {t : Nat} (h : MoOK G ro tr S os t) : MoOK G (ro ++ wn) tr S os t := by
  obtain ⟨h1, h2, h3⟩ := h
  refine ⟨fun p hp => ?_, fun p hp => ?_, h3.mono⟩
  · obtain ⟨r, e, m⟩ := h1 p hp
    exact ⟨r, e, mw' m⟩
  · obtain ⟨r, ci, fs, e, m, i⟩ := h2 p hp
    exact ⟨r, ci, fs, e, mw' m, i⟩
theorem Hi.hll {S S' : Nat → Int32} (h : Hi S S') : hlL S' = hlL S := by
  unfold hlL
  rw [h 38 (by omega), h.sn (j := 38) (by omega), h.stl]
theorem MoOK.hi {G : GG} {ro : va_W} {tr : Nat} {S S' : Nat → Int32} {os : Nat → Option Nat} {t : Nat} (h : MoOK G ro tr S os t) (hi : Hi S S') : MoOK G ro tr S' os t := by
  obtain ⟨h1, h2, h3⟩ := h
  refine ⟨fun p hp => ?_, h2, ?_⟩
  · rw [hi.sn (by omega)] at hp
    rw [hi.sn (j := 39 + p) (by omega), hi.sn (j := 45 + p) (by omega)]
    exact h1 p hp
  · rw [hi.rain, hi.need, hi.hll]
    exact h3
/-- a Moor -/
abbrev MO (G : GG) (b : Nat → Nat) (sa tk : Nat → Int32) (os : Nat → Option Nat) (si gr ea rw le : Nat → Int32) (pe rf dy wr : Int32) (t : Nat) (ts st wa : Int32) : va_W := [(b 0, ob 3 [.ref (b 1), .ref (b 2), .ref (b 3), .ref (b 4), .ref (b 5), .ref (b 6), .ref (b 7), .ref (b 8), .int pe, .int rf, .int dy, .int wr, .ref t, .int ts, .int st, .int wa]), (b 1, ia G 6 sa), (b 2, ia G 6 tk), (b 3, pa G 6 os), (b 4, ia G 6 si), (b 5, ia G 6 gr), (b 6, ia G 6 ea), (b 7, ia G 24 rw), (b 8, ia G 6 le)]
/-- Rows -/
abbrev RW (G : GG) (r : Nat → Nat) (n : Nat) (f1 f2 f3 : Nat → Int32) (c : Int32) (g1 g2 g3 : Nat → Int32) (gc : Int32) : va_W := [(r 0, ob 7 [.ref (r 1), .ref (r 2), .ref (r 3), .int c, .ref (r 4), .ref (r 5), .ref (r 6), .int gc]), (r 1, ia G n f1), (r 2, ia G n f2), (r 3, ia G n f3), (r 4, ia G n g1), (r 5, ia G n g2), (r 6, ia G n g3)]
/-- the Reader -/
abbrev RD (G : GG) (d : Nat → Nat) (sg am en sp : Nat → Int32) (sz at' ju sd rn nd : Int32) : va_W := [(d 0, ob 6 [.ref (d 1), .ref (d 2), .ref (d 3), .ref (d 4), .int sz, .int at', .int ju, .int sd, .int rn, .int nd]), (d 1, ia G 100 sg), (d 2, ia G 10 am), (d 3, ia G 10 en), (d 4, ia G 100 sp)]
/-- the object itself -/
abbrev SP (x : Nat) (r1 r2 r3 r4 r5 d b1 b2 b3 : Nat → Nat) (hi : Int32) : va_W := [(x, ob 11 [.ref (r1 0), .ref (r2 0), .ref (r3 0), .ref (r4 0), .ref (r5 0), .ref (d 0), .ref (b1 0), .ref (b2 0), .ref (b3 0), .int hi])]
theorem mxN {a b : Nat} (ha : a < 2 ^ 31) (hb : b < 2 ^ 31) : mxF (nI a) (nI b) = nI (max a b) := by
  unfold mxF
  by_cases h : a < b
  · rw [if_pos ((nI_ltI ha hb).mpr h), Nat.max_eq_right (by omega)]
  · rw [if_neg (fun z => h ((nI_ltI ha hb).mp z)), Nat.max_eq_left (by omega)]
theorem mnN {a b : Nat} (ha : a < 2 ^ 31) (hb : b < 2 ^ 31) : mnF (nI a) (nI b) = nI (min a b) := by
  unfold mnF
  by_cases h : b < a
  · rw [if_pos ((nI_ltI hb ha).mpr h), Nat.min_eq_right (by omega)]
  · rw [if_neg (fun z => h ((nI_ltI hb ha).mp z)), Nat.min_eq_left (by omega)]
theorem mx_wi (x : Int32) : mxF (nI 0) (mnF (nI 99) x) = wiF x (nI 0) (nI 99) := by
  unfold mxF mnF wiF
  by_cases h : x < nI 0
  · have h2 : x < nI 99 := Int32.lt_trans h (by decide)
    rw [if_pos h2, if_pos h, if_neg (Int32.lt_asymm h)]
  · rw [if_neg h]
    by_cases h2 : nI 99 < x
    · rw [if_neg (Int32.lt_asymm h2), if_pos h2, if_pos (by decide)]
    · rw [if_neg h2]
      by_cases h3 : x < nI 99
      · rw [if_pos h3]
        by_cases h4 : nI 0 < x
        · rw [if_pos h4]
        · rw [if_neg h4]
          exact Int32.le_antisymm (Int32.not_lt.mp h) (Int32.not_lt.mp h4)
      · rw [if_neg h3, if_pos (by decide)]
        exact Int32.le_antisymm (Int32.not_lt.mp h3) (Int32.not_lt.mp h2)
