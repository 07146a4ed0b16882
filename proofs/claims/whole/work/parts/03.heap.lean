/-! RULES: fields, arrays, new cells -/
/-- a field access: at idx of own's pool, of an object of the tables' class ci, its place k -/
def FL (own : String) (idx ci k : Nat) : Prop := ∃ (C : String) (T : u_T) (N : Nat) (ty : Nat → FieldType) (ref : String), CI ci C T N ty ∧ k < N ∧ Cond.fieldLink own idx ref (T k).2.1 (T k).2.2.1 ∈ FT ∧ (ref = (T k).1 ∨ Cond.sameField ref (T k).1 (T k).2.1 (T k).2.2.1 ∈ FT)
/-- a write to it -/
def FP (own : String) (idx ci k : Nat) (fin : Bool) (t : FieldType) : Prop := ∃ (C : String) (T : u_T) (N : Nat) (ty : Nat → FieldType) (ref : String), CI ci C T N ty ∧ k < N ∧ Cond.fieldLink own idx ref (T k).2.1 (T k).2.2.1 ∈ FT ∧ (ref = (T k).1 ∨ Cond.sameField ref (T k).1 (T k).2.1 (T k).2.2.1 ∈ FT) ∧ (T k).2.2.2 = fin ∧ parseFieldDescriptor (T k).2.2.1 = some t ∧ (fin = true → (T k).1 = own)
theorem gA_new {G : GG} {s : State} (h : Kp G s) : ∀ q : Nat, s.heap.size ≤ q → gA G q := fun q hq => Nat.le_trans h.2.1 hq
section EH
variable {G : GG} {M : MI} {d bc bs pc : Nat} {X : Cx} {lv : List (Nat × Value)} {st : List Value} {ws ro : va_W}
theorem same_of {own ref o n dd : String} {T : Prop} {hC : Cok G M d X} (h : ref = o ∨ Cond.sameField ref o n dd ∈ FT) : ∀ x, (xS X).fieldFound? o n dd = some x → (xS X).fieldFound? ref n dd = some x := fun x hx => by
  rcases h with rfl | h
  · exact hx
  · exact u_same (hC.t _ h) x hx
theorem ev_get (hC : Cok G M d X) {idx ci k a : Nat} {fs : List Value} {v : Value} (hF : FL M.1.cls idx ci k) (he : (a, ob ci fs) ∈ ws ++ ro) (hv : fs[k]? = some v) (hdg : decode M.2.1 pc = .ok (.getfield idx, 3)) (kk : Ev G X bc bs (pc + 3) lv (v :: st) ws ro) : Ev G X bc bs pc lv (.ref a :: st) ws ro := by
  intro H locs cells slots ls hP hD hS hc hs hl
  obtain ⟨C, T, N, ty, ref, ⟨c1, c2, c3, c4⟩, hk, hlk, hsame⟩ := hF
  obtain ⟨q0, hq⟩ := tot_in (wr := xW X) he
  exact va_get (v := v) hC.x hC.b hC.t c2 hC.o hC.k.1 hP q0 hq c1 k hk (hC.t _ hlk) (same_of (own := C) (T := True) (hC := hC) hsame) hv hdg (kk H locs cells slots ls hP hD hS hc hs hl)
theorem ev_put (hC : Cok G M d X) {idx ci k a q0 : Nat} {t : FieldType} {fs : List Value} {v : Value} {ws' : va_W} (hF : FP M.1.cls idx ci k false t) (he : ws[q0]? = some (a, ob ci fs)) (hk0 : k < fs.length) (hn : narrow t v = v) (hfit : fits t v = true) (hw : ws.set q0 (a, ob ci (fs.set k v)) = ws') (hdg : decode M.2.1 pc = .ok (.putfield idx, 3)) (kk : Ev G X bc bs (pc + 3) lv st ws' ro) : Ev G X bc bs pc lv (v :: .ref a :: st) ws ro := by
  intro H locs cells slots ls hP hD hS hc hs hl
  obtain ⟨C, T, N, ty, ref, ⟨c1, c2, c3, c4⟩, hk, hlk, hsame, hfin, hd, -⟩ := hF
  refine va_put (v := v) hC.x hC.b hC.t c2 ty c3 c4 hC.o hC.k.1 hP hD hS q0 (tot_at he) c1 k hk (hC.t _ hlk) (same_of (own := C) (T := True) (hC := hC) hsame) hfin hd hn hfit hk0 hdg fun H1 locs1 hP1 hD1 hS1 => ?_
  rw [tot_set he, hw] at hP1 hD1
  exact kk H1 locs1 cells slots ls hP1 hD1 hS1 hc hs hl
theorem ev_putF (hC : Cok G M d X) {idx ci k a q0 : Nat} {t : FieldType} {fs : List Value} {v : Value} {ws' : va_W} (hF : FP M.1.cls idx ci k true t) (hi : M.1.name = "<init>") (he : ws[q0]? = some (a, ob ci fs)) (hk0 : k < fs.length) (hn : narrow t v = v) (hfit : fits t v = true) (hw : ws.set q0 (a, ob ci (fs.set k v)) = ws') (hdg : decode M.2.1 pc = .ok (.putfield idx, 3)) (kk : Ev G X bc bs (pc + 3) lv st ws' ro) : Ev G X bc bs pc lv (v :: .ref a :: st) ws ro := by
  intro H locs cells slots ls hP hD hS hc hs hl
  obtain ⟨C, T, N, ty, ref, ⟨c1, c2, c3, c4⟩, hk, hlk, hsame, hfin, hd, hdc⟩ := hF
  refine va_putF (v := v) hC.x hC.b hC.t c2 ty c3 c4 hC.o hC.k.1 hP hD hS q0 (tot_at he) c1 k hk (hC.t _ hlk) (same_of (own := C) (T := True) (hC := hC) hsame) hfin (hC.i hi) (hdc rfl) hd hn hfit hk0 hdg fun H1 locs1 hP1 hD1 hS1 => ?_
  rw [tot_set he, hw] at hP1 hD1
  exact kk H1 locs1 cells slots ls hP1 hD1 hS1 hc hs hl
theorem ev_iald (hC : Cok G M d X) {a n : Nat} {f : Nat → Int32} {i : Int32} (he : (a, ia G n f) ∈ ws ++ ro) (hin : vp_in i n) (hdg : decode M.2.1 pc = .ok (.iaload, 1)) (kk : Ev G X bc bs (pc + 1) lv (.int (f i.toNatClampNeg) :: st) ws ro) : Ev G X bc bs pc lv (.int i :: .ref a :: st) ws ro := by
  intro H locs cells slots ls hP hD hS hc hs hl
  obtain ⟨q0, hq⟩ := tot_in (wr := xW X) he
  exact va_iald hC.x hC.b hC.k.1 hP q0 0 hq rfl hin hdg (kk H locs cells slots ls hP hD hS hc hs hl)
theorem ev_zald (hC : Cok G M d X) {a n : Nat} {f : Nat → Int32} {i : Int32} (he : (a, za G n f) ∈ ws ++ ro) (hin : vp_in i n) (hdg : decode M.2.1 pc = .ok (.baload, 1)) (kk : Ev G X bc bs (pc + 1) lv (.int (f i.toNatClampNeg) :: st) ws ro) : Ev G X bc bs pc lv (.int i :: .ref a :: st) ws ro := by
  intro H locs cells slots ls hP hD hS hc hs hl
  obtain ⟨q0, hq⟩ := tot_in (wr := xW X) he
  exact va_zald hC.x hC.b hC.k.1 hP q0 1 hq rfl hin hdg (kk H locs cells slots ls hP hD hS hc hs hl)
theorem ev_aald (hC : Cok G M d X) {a n r : Nat} {f : Nat → Option Nat} {i : Int32} (he : (a, pa G n f) ∈ ws ++ ro) (hin : vp_in i n) (hf : f i.toNatClampNeg = some r) (hdg : decode M.2.1 pc = .ok (.aaload, 1)) (kk : Ev G X bc bs (pc + 1) lv (.ref r :: st) ws ro) : Ev G X bc bs pc lv (.int i :: .ref a :: st) ws ro := by
  intro H locs cells slots ls hP hD hS hc hs hl
  obtain ⟨q0, hq⟩ := tot_in (wr := xW X) he
  refine va_aldq hC.x hC.b hC.k.1 hP q0 2 hq (C := "SaltPeace$Person") rfl hin hdg ?_
  rw [hf]
  exact kk H locs cells slots ls hP hD hS hc hs hl
theorem ev_iast (hC : Cok G M d X) {a n q0 : Nat} {f : Nat → Int32} {i x : Int32} {ws' : va_W} (he : ws[q0]? = some (a, ia G n f)) (hin : vp_in i n) (hw : ws.set q0 (a, ia G n (upd f i.toNatClampNeg x)) = ws') (hdg : decode M.2.1 pc = .ok (.iastore, 1)) (kk : Ev G X bc bs (pc + 1) lv st ws' ro) : Ev G X bc bs pc lv (.int x :: .int i :: .ref a :: st) ws ro := by
  intro H locs cells slots ls hP hD hS hc hs hl
  refine va_iast hC.x hC.b hC.k.1 hP hD hS q0 0 (tot_at he) rfl hin hdg fun H1 locs1 hP1 hD1 hS1 => ?_
  rw [tot_set he, hw] at hP1 hD1
  exact kk H1 locs1 cells slots ls hP1 hD1 hS1 hc hs hl
theorem ev_zast (hC : Cok G M d X) {a n q0 : Nat} {f : Nat → Int32} {i x y : Int32} {ws' : va_W} (he : ws[q0]? = some (a, za G n f)) (hin : vp_in i n) (hy : vp_nar .boolean x = y) (hw : ws.set q0 (a, za G n (upd f i.toNatClampNeg y)) = ws') (hdg : decode M.2.1 pc = .ok (.bastore, 1)) (kk : Ev G X bc bs (pc + 1) lv st ws' ro) : Ev G X bc bs pc lv (.int x :: .int i :: .ref a :: st) ws ro := by
  intro H locs cells slots ls hP hD hS hc hs hl
  subst hy
  refine va_zast hC.x hC.b hC.k.1 hP hD hS q0 1 (tot_at he) rfl hin hdg fun H1 locs1 hP1 hD1 hS1 => ?_
  rw [tot_set he, hw] at hP1 hD1
  exact kk H1 locs1 cells slots ls hP1 hD1 hS1 hc hs hl
/-- the kinds of people that the tables know -/
def isPe (ci : Nat) : Prop := ci = 4 ∨ ∃ C T N, vwCl[ci]? = some (C, T, N) ∧ (C, "SaltPeace$Person") ∈ castYes
theorem ev_aast (hC : Cok G M d X) {a n q0 v ci : Nat} {vs : List Value} {f : Nat → Option Nat} {i : Int32} {ws' : va_W} (he : ws[q0]? = some (a, pa G n f)) (hv : (v, ob ci vs) ∈ ws ++ ro) (hpe : isPe ci) (hin : vp_in i n) (hw : ws.set q0 (a, pa G n (va_up f i.toNatClampNeg (some v))) = ws') (hdg : decode M.2.1 pc = .ok (.aastore, 1)) (kk : Ev G X bc bs (pc + 1) lv st ws' ro) : Ev G X bc bs pc lv (.ref v :: .int i :: .ref a :: st) ws ro := by
  intro H locs cells slots ls hP hD hS hc hs hl
  obtain ⟨q1, hq1⟩ := tot_in (wr := xW X) hv
  have hr : va_Any "SaltPeace$Person" (xS X) H v := by
    rcases hpe with rfl | ⟨C, T, N, hci, hcast⟩
    · refine va_rAny hC.k.1 hP hq1 (r := (RX4, TX4, 4)) rfl fun comp c0 h1 h2 => ?_
      cases h1.symm.trans h2
      exact va_asg _ _
    · refine va_rAny hC.k.1 hP hq1 hci fun comp c0 h1 h2 => ?_
      obtain ⟨x1, x2, g1, g2, g3⟩ := Cond.castable_spec (va_Nw.use (A := xA X) rfl (hC.k.2.2.2.2.2.2.2.1 _ hcast))
      cases h1.symm.trans g2
      cases h2.symm.trans g1
      exact g3
  refine va_astqM hC.x hC.b hC.k.1 hP hD hS q0 2 (tot_at he) rfl hr hin hdg fun H1 locs1 hP1 hD1 hS1 => ?_
  rw [tot_set he, hw] at hP1 hD1
  exact kk H1 locs1 cells slots ls hP1 hD1 hS1 hc hs hl
theorem ev_alen (hC : Cok G M d X) {a n : Nat} {f : Nat → Int32} {v : Int32} (he : (a, ia G n f) ∈ ws ++ ro) (hv : Int32.ofNat n = v) (hdg : decode M.2.1 pc = .ok (.arraylength, 1)) (kk : Ev G X bc bs (pc + 1) lv (.int v :: st) ws ro) : Ev G X bc bs pc lv (.ref a :: st) ws ro := by
  intro H locs cells slots ls hP hD hS hc hs hl
  obtain ⟨q0, hq⟩ := tot_in (wr := xW X) he
  exact va_alen hC.x hC.b hC.k.1 hP q0 0 hq (ty := .int) rfl hv hdg (kk H locs cells slots ls hP hD hS hc hs hl)
theorem cA_eq {D : va_G} {cl : List vw_C} {tys : List (ClassId × FieldType)} {U : State} {cA cB : ClassId} {ty : FieldType} (hK : va_K D cl (tys ++ [(cA, ty)]) U) {k : Nat} (hB : tys[k]? = some (cB, ty)) : cA = cB := by
  have h1 := (hK.2 tys.length (cA, ty) (by simp)).2
  have hl := (List.getElem?_eq_some_iff.mp hB).1
  have h2 := (hK.2 k (cB, ty) (by rw [List.getElem?_append_left hl]; exact hB)).2
  have key : ∀ t : FieldType, va_RA U cA t → va_RA U cB t → cA = cB := by
    intro t
    cases t <;> intro a b <;> first | (obtain ⟨_, _, _, _, _, a⟩ := a; obtain ⟨_, _, _, _, _, b⟩ := b; exact Option.some.inj (a.symm.trans b)) | exact Option.some.inj (Eq.trans (Eq.symm a) b)
  exact key _ h1 h2
theorem ev_newi (hC : Cok G M d X) {n : Int32} {N : Nat} (hdg : decode M.2.1 pc = .ok (.newarray .int, 2)) (hn : ¬ n < 0) (hN : n.toNatClampNeg = N) (hb : N ≤ 100000) (hbc : 1 ≤ bc) (hbs : N ≤ bs) (kk : ∀ q : Nat, Ev G X (bc - 1) (bs - N) (pc + 2) lv (.ref q :: st) (ws ++ [(q, ia G N (fun _ => 0))]) ro) : Ev G X bc bs pc lv (.int n :: st) ws ro := by
  intro H locs cells slots ls hP hD hS hc hs hl
  refine va_newa (atype := .int) (ty := .int) hC.x hC.b (hC.t (.arrayClass .int) (ft_in 135 (by decide +kernel) rfl)) rfl hC.k.1 hP hD hS (gA_new hC.k) (N' := N) (a0 := (N, .inl (fun _ => 0))) (fun cA => rfl) hn hN (by show N * 4 ≤ 536870912; omega) (by omega) (by omega) hdg fun q cA H1 hK1 hP1 hD1 hS1 => ?_
  have e : cA = gC G 0 := cA_eq hK1 (k := 0) rfl
  subst e
  exact kk q H1 locs (cells + 1) (slots + N) ls (va_P_perm (perm_tail ws ro (xW X) _) hP1) (va_D_perm (perm_tail ws ro (xW X) _) hD1) hS1 (by omega) (by omega) hl
theorem ev_newz (hC : Cok G M d X) {n : Int32} {N : Nat} (hdg : decode M.2.1 pc = .ok (.newarray .boolean, 2)) (hn : ¬ n < 0) (hN : n.toNatClampNeg = N) (hb : N ≤ 100000) (hbc : 1 ≤ bc) (hbs : N ≤ bs) (kk : ∀ q : Nat, Ev G X (bc - 1) (bs - N) (pc + 2) lv (.ref q :: st) (ws ++ [(q, za G N (fun _ => 0))]) ro) : Ev G X bc bs pc lv (.int n :: st) ws ro := by
  intro H locs cells slots ls hP hD hS hc hs hl
  refine va_newa (atype := .boolean) (ty := .boolean) hC.x hC.b (hC.t (.arrayClass .boolean) (ft_in 1142 (by decide +kernel) rfl)) rfl hC.k.1 hP hD hS (gA_new hC.k) (N' := N) (a0 := (N, .inl (fun _ => 0))) (fun cA => rfl) hn hN (by show N * 1 ≤ 536870912; omega) (by omega) (by omega) hdg fun q cA H1 hK1 hP1 hD1 hS1 => ?_
  have e : cA = gC G 1 := cA_eq hK1 (k := 1) rfl
  subst e
  exact kk q H1 locs (cells + 1) (slots + N) ls (va_P_perm (perm_tail ws ro (xW X) _) hP1) (va_D_perm (perm_tail ws ro (xW X) _) hD1) hS1 (by omega) (by omega) hl
theorem ev_newq (hC : Cok G M d X) {n : Int32} {N idx : Nat} (hw : Cond.classLink M.1.cls idx "SaltPeace$Person" ∈ FT) (hdg : decode M.2.1 pc = .ok (.anewarray idx, 3)) (hn : ¬ n < 0) (hN : n.toNatClampNeg = N) (hb : N ≤ 100000) (hbc : 1 ≤ bc) (hbs : N ≤ bs) (kk : ∀ q : Nat, Ev G X (bc - 1) (bs - N) (pc + 3) lv (.ref q :: st) (ws ++ [(q, pa G N (fun _ => none))]) ro) : Ev G X bc bs pc lv (.int n :: st) ws ro := by
  intro H locs cells slots ls hP hD hS hc hs hl
  refine va_newq (C := "SaltPeace$Person") hC.x hC.b hC.o (hC.t _ hw) hC.k.2.2.2.2.2.2.2.2.2 hC.k.1 hP hD hS (gA_new hC.k) (N' := N) hn hN (by omega) (by omega) (by omega) hdg fun q cA H1 hK1 hP1 hD1 hS1 => ?_
  have e : cA = gC G 2 := cA_eq hK1 (k := 2) rfl
  subst e
  exact kk q H1 locs (cells + 1) (slots + N) ls (va_P_perm (perm_tail ws ro (xW X) _) hP1) (va_D_perm (perm_tail ws ro (xW X) _) hD1) hS1 (by omega) (by omega) hl
/-- a new object -/
def NW (own : String) (idx ci N : Nat) (fs : List Value) : Prop := ∃ (C : String) (T : u_T) (ty : Nat → FieldType), CI ci C T N ty ∧ Cond.classLink own idx C ∈ FT ∧ Cond.instantiable C N ∈ FT ∧ Cond.initialized C ∈ FT ∧ ∀ j, j < N → defaultValue (ty j) = vp_V fs j
theorem ev_new (hC : Cok G M d X) {idx ci N : Nat} {fs : List Value} (hF : NW M.1.cls idx ci N fs) (hdg : decode M.2.1 pc = .ok (.new idx, 3)) (hbc : 1 ≤ bc) (hbs : N ≤ bs) (kk : ∀ q : Nat, Ev G X (bc - 1) (bs - N) (pc + 3) lv (.ref q :: st) (ws ++ [(q, ob ci fs)]) ro) : Ev G X bc bs pc lv st ws ro := by
  intro H locs cells slots ls hP hD hS hc hs hl
  obtain ⟨C, T, ty, ⟨c1, c2, c3, c4⟩, w1, w2, w3, hfs⟩ := hF
  refine va_new hC.x hC.b hC.t c2 ty c3 hC.o (hC.t _ w1) (hC.t _ w2) (hC.t _ w3) hC.k.1 hP hD hS (gA_new hC.k) c1 hfs (by omega) (by omega) hdg fun q H1 hP1 hD1 hS1 => ?_
  exact kk q H1 locs (cells + 1) (slots + N) ls (va_P_perm (perm_tail ws ro (xW X) _) hP1) (va_D_perm (perm_tail ws ro (xW X) _) hD1) hS1 (by omega) (by omega) hl
/-- new cells become cells that nobody changes -/
theorem ev_freeze {wn ws' : va_W} (h : ws.Perm (ws' ++ wn)) (kk : Ev G X bc bs pc lv st ws' (ro ++ wn)) : Ev G X bc bs pc lv st ws ro := by
  intro H locs cells slots ls hP hD hS hc hs hl
  have e : (ws ++ (ro ++ xW X)).Perm (ws' ++ ((ro ++ wn) ++ xW X)) := by
    refine (h.append_right _).trans ?_
    rw [List.append_assoc]
    refine List.Perm.append_left ws' ?_
    rw [← List.append_assoc]
    exact List.perm_append_comm.append_right _
  exact kk H locs cells slots ls (va_P_perm e hP) (va_D_perm e hD) hS hc hs hl
/-! statics, String constants -/
theorem ev_getsC (hC : Cok G M d X) {idx : Nat} {ref : String} (hw : Cond.fieldLink M.1.cls idx "java/lang/String" "COMPACT_STRINGS" "Z" ∈ FT) (hdg : decode M.2.1 pc = .ok (.getstatic idx, 3)) (kk : Ev G X bc bs (pc + 3) lv (.int 1 :: st) ws ro) : Ev G X bc bs pc lv st ws ro := by
  intro H locs cells slots ls hP hD hS hc hs hl
  exact va_gets hC.x hC.b hC.k.2.2.2.2.1 hS hC.o (hC.t _ hw) (fun x hx => hx) hdg (kk H locs cells slots ls hP hD hS hc hs hl)
theorem ev_strget (hC : Cok G M d X) {idx i : Nat} {n dd : String} {v : Value} (hi : i < 12) (hnv : (n = "coder" ∧ dd = "B" ∧ v = .int 0) ∨ (n = "value" ∧ dd = "[B" ∧ v = .ref (gV G i))) (hw : Cond.fieldLink M.1.cls idx "java/lang/String" n dd ∈ FT) (hdg : decode M.2.1 pc = .ok (.getfield idx, 3)) (kk : Ev G X bc bs (pc + 3) lv (v :: st) ws ro) : Ev G X bc bs pc lv (.ref (gK G i) :: st) ws ro := by
  intro H locs cells slots ls hP hD hS hc hs hl
  rcases hnv with ⟨rfl, rfl, rfl⟩ | ⟨rfl, rfl, rfl⟩
  · exact vk_getf hC.x hC.b (hC.k.2.2.1.1 i hi).2.1 hS hC.o (hC.t _ hw) (fun x hx => hx) hdg (kk H locs cells slots ls hP hD hS hc hs hl)
  · exact vk_getf hC.x hC.b (hC.k.2.2.1.1 i hi).2.2.1 hS hC.o (hC.t _ hw) (fun x hx => hx) hdg (kk H locs cells slots ls hP hD hS hc hs hl)
theorem ev_strlen (hC : Cok G M d X) {i : Nat} {v : Int32} (hi : i < 12) (hv : Int32.ofNat (strLen.getD i 0) = v) (hdg : decode M.2.1 pc = .ok (.arraylength, 1)) (kk : Ev G X bc bs (pc + 1) lv (.int v :: st) ws ro) : Ev G X bc bs pc lv (.ref (gV G i) :: st) ws ro := by
  intro H locs cells slots ls hP hD hS hc hs hl
  exact va_tlen hC.x hC.b (hC.k.2.2.1.1 i hi).2.2.2 hS hv hdg (kk H locs cells slots ls hP hD hS hc hs hl)
theorem ev_strald (hC : Cok G M d X) {i : Nat} {j : Int32} (hi : i < 12) (hin : vp_in j (strLen.getD i 0)) (hdg : decode M.2.1 pc = .ok (.baload, 1)) (kk : Ev G X bc bs (pc + 1) lv (.int ((strByt.getD i []).getD j.toNatClampNeg 0) :: st) ws ro) : Ev G X bc bs pc lv (.int j :: .ref (gV G i) :: st) ws ro := by
  intro H locs cells slots ls hP hD hS hc hs hl
  exact va_tb hC.x hC.b (hC.k.2.2.1.1 i hi).2.2.2 hS hin rfl hdg (kk H locs cells slots ls hP hD hS hc hs hl)
end EH
