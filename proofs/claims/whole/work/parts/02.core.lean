/-! THE CORE: a judgement over worlds (Ev), a contract (Mth), their rules: each a row of the kit, its heap's rows kept inside -/
/-- what is fixed for a whole run: where our cells begin, the classes, the classes of our arrays, the String constants' cells -/
abbrev GG : Type := Nat × va_G × (Nat → ClassId) × (Nat → Nat) × (Nat → Nat)
abbrev gO (G : GG) : Nat := G.1
abbrev gD (G : GG) : va_G := G.2.1
abbrev gC (G : GG) : Nat → ClassId := G.2.2.1
abbrev gK (G : GG) : Nat → Nat := G.2.2.2.1
abbrev gV (G : GG) : Nat → Nat := G.2.2.2.2
def gA (G : GG) : Nat → Prop := fun q => gO G ≤ q
def gT (G : GG) : List (ClassId × FieldType) := [(gC G 0, .int), (gC G 1, .boolean), (gC G 2, .object "SaltPeace$Person")]
/-- cells: an object, int[], boolean[], Person[] -/
abbrev ob (ci : Nat) (fs : List Value) : va_E := .inr (ci, fs)
abbrev ia (G : GG) (n : Nat) (f : Nat → Int32) : va_E := .inl (gC G 0, n, .inl f)
abbrev za (G : GG) (n : Nat) (f : Nat → Int32) : va_E := .inl (gC G 1, n, .inl f)
abbrev pa (G : GG) (n : Nat) (f : Nat → Option Nat) : va_E := .inl (gC G 2, n, .inr (.inr (.inr (.inr f))))
/-- what stands outside our cells: String constants, statics, links of nest mates, casts -/
def Sx (G : GG) (U : State) : Prop := vk_S 12 strLen strByt (gK G) (gV G) (gA G) U U.heap ∧ (∀ q ∈ strRefs, vk_R q.1 q.2.1 q.2.2.1 (gK G q.2.2.2) U) ∧ va_Z "java/lang/String" "COMPACT_STRINGS" "Z" (.int 1) (gA G) U U.heap ∧ va_Zq "jdk/internal/util/Preconditions" "SIOOBE_FORMATTER" "Ljava/util/function/BiFunction;" (gA G) U U.heap ∧ (∀ q ∈ nestRefs, va_Nw (.methodLinkNest q.1 q.2.1 q.2.2.1 q.2.2.2) U) ∧ (∀ q ∈ castYes, va_Nw (.castable q.1 q.2) U) ∧ (∀ q ∈ castNo, va_Nc q.1 q.2 U) ∧ va_AO "SaltPeace$Person" U
def Kp (G : GG) (U : State) : Prop := va_K (gD G) vwCl (gT G) U ∧ gO G ≤ U.heap.size ∧ Sx G U
theorem gA_kept {G : GG} {H0 H : Heap} {locs : List Loc} (h : va_S (gA G) H0 H locs) : ∀ a : Nat, a < H0.size → ¬ gA G a → H[a]? = H0[a]? := h.2.1
theorem Kp_call {G : GG} {s U : State} {H : Heap} {locs : List Loc} (h : Kp G s) (hS : va_S (gA G) s.heap H locs) (hU : U.heap = H) (hW : s.WarmedH U.vm) : Kp G U := by
  obtain ⟨hK, hO, h1, h2, h3, h4, h5, h6, h7, h8⟩ := h
  subst hU
  exact ⟨hK.moved hW.alike, Nat.le_trans hO hS.1, (h1.kept hS.2.1).moved hW.alike, fun q hq => vk_R.warm hW (h2 q hq), (h3.kept hS.2.1).moved hW.alike, (h4.kept hS.2.1).moved hW.alike, fun q hq => va_Nw.warmM hW (h5 q hq), fun q hq => va_Nw.warmC hW (h6 q hq), fun q hq => va_Nc.moved hW.alike (h7 q hq), h8.moved hW.alike⟩
theorem Kp_blind {G : GG} {U : State} {g : JFrame} {mk : MethodId} {a : Array Value} (h : Kp G U) : Kp G (U.calling g mk a) := by
  obtain ⟨hK, hO, h1, h2, h3, h4, h5, h6, h7, h8⟩ := h
  refine ⟨va_K.moved (u := U) (U := U.calling g mk a) (Vm.Alike.refl U.vm) hK, hO, vk_S.moved (u := U) (U := U.calling g mk a) (Vm.Alike.refl U.vm) h1, fun q hq => vk_R.same (u := U) (U := U.calling g mk a) rfl (h2 q hq), va_Z.moved (u := U) (U := U.calling g mk a) (Vm.Alike.refl U.vm) h3, va_Zq.moved (u := U) (U := U.calling g mk a) (Vm.Alike.refl U.vm) h4, fun q hq => va_Nw.same (u := U) (U := U.calling g mk a) rfl rfl (h5 q hq), fun q hq => va_Nw.same (u := U) (U := U.calling g mk a) rfl rfl (h6 q hq), fun q hq => va_Nc.moved (u := U) (U := U.calling g mk a) (Vm.Alike.refl U.vm) (h7 q hq), va_AO.moved (u := U) (U := U.calling g mk a) (Vm.Alike.refl U.vm) h8⟩
/-- an activation: program, launch, environment, room, state at its start, method, arguments, frames below, method, code, the rest of the world, its end -/
abbrev Cx : Type := Program × Launch × Env × Room × State × MethodId × Array Value × List Frame × Method × Code × va_W × (State → Prop)
abbrev xP (X : Cx) := X.1
abbrev xL (X : Cx) := X.2.1
abbrev xE (X : Cx) := X.2.2.1
abbrev xR (X : Cx) := X.2.2.2.1
abbrev xS (X : Cx) := X.2.2.2.2.1
abbrev xM (X : Cx) := X.2.2.2.2.2.1
abbrev xA (X : Cx) := X.2.2.2.2.2.2.1
abbrev xB (X : Cx) := X.2.2.2.2.2.2.2.1
abbrev xMe (X : Cx) := X.2.2.2.2.2.2.2.2.1
abbrev xC (X : Cx) := X.2.2.2.2.2.2.2.2.2.1
abbrev xW (X : Cx) := X.2.2.2.2.2.2.2.2.2.2.1
abbrev xZ (X : Cx) := X.2.2.2.2.2.2.2.2.2.2.2
def Cok (G : GG) (M : MI) (d : Nat) (X : Cx) : Prop := (xP X).tables.exec = Jvm.exec ∧ (xC X).code = M.2.1 ∧ (xC X).maxLocals = M.2.2.1 ∧ (xS X).vm.findClass M.1.cls = some (xM X).cls ∧ (∀ w ∈ FT, w.before (xA X) (xS X) = true) ∧ Kp G (xS X) ∧ d ≤ (xR X).frames ∧ 64 * d ≤ (xR X).locals ∧ (M.1.name = "<init>" → (xMe X).name = "<init>")
theorem Cok.x {G : GG} {M : MI} {d : Nat} {X : Cx} (h : Cok G M d X) : (xP X).tables.exec = Jvm.exec := h.1
theorem Cok.b {G : GG} {M : MI} {d : Nat} {X : Cx} (h : Cok G M d X) : (xC X).code = M.2.1 := h.2.1
theorem Cok.m {G : GG} {M : MI} {d : Nat} {X : Cx} (h : Cok G M d X) : (xC X).maxLocals = M.2.2.1 := h.2.2.1
theorem Cok.o {G : GG} {M : MI} {d : Nat} {X : Cx} (h : Cok G M d X) : (xS X).vm.findClass M.1.cls = some (xM X).cls := h.2.2.2.1
theorem Cok.t {G : GG} {M : MI} {d : Nat} {X : Cx} (h : Cok G M d X) : ∀ w ∈ FT, w.before (xA X) (xS X) = true := h.2.2.2.2.1
theorem Cok.k {G : GG} {M : MI} {d : Nat} {X : Cx} (h : Cok G M d X) : Kp G (xS X) := h.2.2.2.2.2.1
theorem Cok.f {G : GG} {M : MI} {d : Nat} {X : Cx} (h : Cok G M d X) : d ≤ (xR X).frames := h.2.2.2.2.2.2.1
theorem Cok.l {G : GG} {M : MI} {d : Nat} {X : Cx} (h : Cok G M d X) : 64 * d ≤ (xR X).locals := h.2.2.2.2.2.2.2.1
theorem Cok.i {G : GG} {M : MI} {d : Nat} {X : Cx} (h : Cok G M d X) : M.1.name = "<init>" → (xMe X).name = "<init>" := h.2.2.2.2.2.2.2.2
abbrev Wx (X : Cx) (H : Heap) (locs : List Loc) (cells slots : Nat) (g : JFrame) : Prop := W (xP X) (xL X) (xE X) (xR X) (xS X) (xM X) (xA X) (xB X) (xMe X) (xC X) H locs cells slots (xZ X) g
/-- from here, with these locals, stack, world and what may be made yet, the machine comes to the activation's end -/
def Ev (G : GG) (X : Cx) (bc bs pc : Nat) (lv : List (Nat × Value)) (st : List Value) (ws ro : va_W) : Prop :=
  ∀ (H : Heap) (locs : List Loc) (cells slots : Nat) (ls : Array Slot), va_P (gD G) vwCl (ws ++ (ro ++ xW X)) H → va_D (gA G) (ws ++ (ro ++ xW X)) → va_S (gA G) (xS X).heap H locs → cells + bc ≤ (xR X).cells → slots + bs ≤ (xR X).slots → lv_has ls (xC X).maxLocals lv → Wx X H locs cells slots (F0 (xM X) pc ls st)
def QQ (G : GG) (wr : va_W) (Q : Option Value → va_W → va_W → Prop) : Array Value → State → Outcome → State → Prop := fun _ st o t => ∃ (r : Option Value) (ws' ro' : va_W), o = .returned r ∧ Q r ws' ro' ∧ va_P (gD G) vwCl (ws' ++ (ro' ++ wr)) t.heap ∧ va_D (gA G) (ws' ++ (ro' ++ wr)) ∧ va_F (gA G) st t
def PP (G : GG) (ws ro wr : va_W) : State → Prop := fun U => Kp G U ∧ va_P (gD G) vwCl (ws ++ (ro ++ wr)) U.heap ∧ va_D (gA G) (ws ++ (ro ++ wr))
def rmd (d mc ms : Nat) : Room := { frames := d, cells := mc, slots := ms, locals := 64 * d }
/-- a method's contract: from the world ws, with ro that nobody changes, it returns with Q -/
def Mth (G : GG) (M : MI) (d mc ms : Nat) (args : List Value) (ws ro : va_W) (Q : Option Value → va_W → va_W → Prop) : Prop :=
  ∀ (l : Launch) (wr : va_W), Met l M.1 (wsOf M) (rmd d mc ms) (va_Pc args (PP G ws ro wr)) (QQ G wr Q) mc ms (gA G)
theorem Mth.post {G : GG} {M : MI} {d mc ms : Nat} {args : List Value} {ws ro : va_W} {Q Q' : Option Value → va_W → va_W → Prop} (h : Mth G M d mc ms args ws ro Q) (hQ : ∀ r ws' ro', Q r ws' ro' → Q' r ws' ro') : Mth G M d mc ms args ws ro Q' := by
  intro l wr p e ha hc hk s m args below hf hfit hpre hk2
  obtain ⟨t, o, h1, h2, h3, ⟨⟨r, w1, r1, e1, e2, e3⟩, e4⟩⟩ := h l wr p e ha hc hk s m args below hf hfit hpre hk2
  exact ⟨t, o, h1, h2, h3, ⟨⟨r, w1, r1, e1, hQ _ _ _ e2, e3⟩, e4⟩⟩
/-! worlds in another order -/
theorem va_P_sub {D : va_G} {cl : List vw_C} {w1 w2 : va_W} {H : Heap} (h : ∀ x, x ∈ w2 → x ∈ w1) (hP : va_P D cl w1 H) : va_P D cl w2 H := fun k q hk => by
  obtain ⟨i, hi⟩ := List.getElem?_of_mem (h q (List.mem_of_getElem? hk))
  exact hP i q hi
theorem va_D_nd {A : Nat → Prop} {w : va_W} : va_D A w ↔ (w.map Prod.fst).Nodup ∧ ∀ q ∈ w, A q.1 := by
  constructor
  · intro h
    refine ⟨?_, fun q hq => ?_⟩
    · rw [List.Nodup, List.pairwise_iff_getElem]
      intro i j hi hj hij he
      simp only [List.length_map] at hi hj
      simp only [List.getElem_map] at he
      have := h.1 i j _ _ (List.getElem?_eq_getElem hi) (List.getElem?_eq_getElem hj) he
      omega
    · obtain ⟨i, hi⟩ := List.getElem?_of_mem hq
      exact h.2 i q hi
  · rintro ⟨h1, h2⟩
    refine ⟨fun i j p q hi hj he => ?_, fun k q hk => h2 q (List.mem_of_getElem? hk)⟩
    rw [List.Nodup, List.pairwise_iff_getElem] at h1
    obtain ⟨hi1, hi2⟩ := List.getElem?_eq_some_iff.mp hi
    obtain ⟨hj1, hj2⟩ := List.getElem?_eq_some_iff.mp hj
    rcases Nat.lt_trichotomy i j with z | z | z
    · exact absurd (by rw [List.getElem_map, List.getElem_map, hi2, hj2]; exact he) (h1 i j (by simpa using hi1) (by simpa using hj1) z)
    · exact z
    · exact absurd (by rw [List.getElem_map, List.getElem_map, hi2, hj2]; exact he.symm) (h1 j i (by simpa using hj1) (by simpa using hi1) z)
theorem va_D_perm {A : Nat → Prop} {w1 w2 : va_W} (h : w1.Perm w2) (hD : va_D A w1) : va_D A w2 := by
  rw [va_D_nd] at hD ⊢
  exact ⟨(h.map Prod.fst).nodup_iff.mp hD.1, fun q hq => hD.2 q (h.mem_iff.mpr hq)⟩
theorem va_P_perm {D : va_G} {cl : List vw_C} {w1 w2 : va_W} {H : Heap} (h : w1.Perm w2) (hP : va_P D cl w1 H) : va_P D cl w2 H := va_P_sub (fun _ hx => h.mem_iff.mpr hx) hP
theorem perm_tail (ws ro wr n : va_W) : ((ws ++ (ro ++ wr)) ++ n).Perm ((ws ++ n) ++ (ro ++ wr)) := by
  simp only [List.append_assoc]
  exact List.Perm.append_left ws (by rw [← List.append_assoc]; exact List.perm_append_comm)
theorem perm_frame {ws wc wf : va_W} (ro wr : va_W) (h : ws.Perm (wc ++ wf)) : (ws ++ (ro ++ wr)).Perm (wc ++ (ro ++ (wf ++ wr))) := by
  refine (h.append_right _).trans ?_
  rw [List.append_assoc]
  refine List.Perm.append_left wc ?_
  rw [← List.append_assoc, ← List.append_assoc]
  exact List.perm_append_comm.append_right wr
theorem perm_back (ws ro wf wr : va_W) : (ws ++ (ro ++ (wf ++ wr))).Perm ((ws ++ wf) ++ (ro ++ wr)) := by
  rw [List.append_assoc]
  refine List.Perm.append_left ws ?_
  rw [← List.append_assoc, ← List.append_assoc]
  exact List.perm_append_comm.append_right wr
/-- a list's elements by places -/
def pick {α : Type} (l : List α) (ks : List Nat) : List α := ks.filterMap (fun k => l[k]?)
theorem pick_perm {α : Type} {l : List α} {ks : List Nat} (h : ks.Perm (List.range l.length)) : l.Perm (pick l ks) := by
  have e : pick l (List.range l.length) = l := by
    have g : ∀ n, (List.range n).filterMap (fun k => l[k]?) = l.take n := by
      intro n
      induction n with
      | zero => rfl
      | succ n ih =>
        rw [List.range_succ, List.filterMap_append, ih, List.take_add_one]
        cases hln : l[n]? <;> simp [hln]
    unfold pick
    rw [g, List.take_length]
  have := h.filterMap (fun k => l[k]?)
  exact ((List.Perm.of_eq e.symm).trans this.symm)
theorem mw {ws ro : va_W} {x : Nat × va_E} (k : Nat) (h : ws[k]? = some x) : x ∈ ws ++ ro := List.mem_append_left _ (List.mem_of_getElem? h)
theorem mr {ws ro : va_W} {x : Nat × va_E} (h : x ∈ ro) : x ∈ ws ++ ro := List.mem_append_right _ h
theorem tot_in {ws ro wr : va_W} {x : Nat × va_E} (h : x ∈ ws ++ ro) : ∃ k : Nat, (ws ++ (ro ++ wr))[k]? = some x := by
  apply List.getElem?_of_mem
  rw [← List.append_assoc]
  exact List.mem_append_left _ h
theorem tot_at {ws ro wr : va_W} {x : Nat × va_E} {k : Nat} (h : ws[k]? = some x) : (ws ++ (ro ++ wr))[k]? = some x := by
  rw [List.getElem?_append_left (List.getElem?_eq_some_iff.mp h).1]
  exact h
theorem tot_set {ws wr : va_W} {x y : Nat × va_E} {k : Nat} (h : ws[k]? = some x) : (ws ++ wr).set k y = ws.set k y ++ wr := List.set_append_left _ _ (List.getElem?_eq_some_iff.mp h).1

/-! RULES: locals, constants, arithmetic -/
section ER
variable {G : GG} {M : MI} {d bc bs pc : Nat} {X : Cx} {lv : List (Nat × Value)} {st : List Value} {ws ro : va_W}
theorem ev_iconst (hC : Cok G M d X) {n : Int} {v : Int32} (hdg : decode M.2.1 pc = .ok (.iconst n, 1)) (hv : Int32.ofInt n = v) (k : Ev G X bc bs (pc + 1) lv (.int v :: st) ws ro) : Ev G X bc bs pc lv (st) ws ro := fun H locs cells slots ls hP hD hS hc hs hl => lv_iconst hC.x hC.b hdg hv (k H locs cells slots ls hP hD hS hc hs hl)
theorem ev_bipush (hC : Cok G M d X) {n : Int} {v : Int32} (hdg : decode M.2.1 pc = .ok (.bipush n, 2)) (hv : (Int8.ofInt n).toInt32 = v) (k : Ev G X bc bs (pc + 2) lv (.int v :: st) ws ro) : Ev G X bc bs pc lv (st) ws ro := fun H locs cells slots ls hP hD hS hc hs hl => lv_bipush hC.x hC.b hdg hv (k H locs cells slots ls hP hD hS hc hs hl)
theorem ev_sipush (hC : Cok G M d X) {n : Int} {v : Int32} (hdg : decode M.2.1 pc = .ok (.sipush n, 3)) (hv : (Int16.ofInt n).toInt32 = v) (k : Ev G X bc bs (pc + 3) lv (.int v :: st) ws ro) : Ev G X bc bs pc lv (st) ws ro := fun H locs cells slots ls hP hD hS hc hs hl => lv_sipush hC.x hC.b hdg hv (k H locs cells slots ls hP hD hS hc hs hl)
theorem ev_lconst (hC : Cok G M d X) {n : Fin 2} {v : Int64} (hdg : decode M.2.1 pc = .ok (.lconst n, 1)) (hv : Int64.ofNat (n : Nat) = v) (k : Ev G X bc bs (pc + 1) lv (.long v :: st) ws ro) : Ev G X bc bs pc lv (st) ws ro := fun H locs cells slots ls hP hD hS hc hs hl => lv_lconst hC.x hC.b hdg hv (k H locs cells slots ls hP hD hS hc hs hl)
theorem ev_iload_n (hC : Cok G M d X) {k0 : Fin 4} {i : Nat} {x : Int32} (hdg : decode M.2.1 pc = .ok (.iload_n k0, 1)) (hi : (k0 : Nat) = i) (q : Nat) (hq : lv[q]? = some (i, .int x)) (k : Ev G X bc bs (pc + 1) lv (.int x :: st) ws ro) : Ev G X bc bs pc lv (st) ws ro := fun H locs cells slots ls hP hD hS hc hs hl => lv_iload_n hC.x hC.b hdg hi (lv_at hl q hq) (k H locs cells slots ls hP hD hS hc hs hl)
theorem ev_iload (hC : Cok G M d X) {i : Nat} {x : Int32} (hdg : decode M.2.1 pc = .ok (.iload i, 2)) (q : Nat) (hq : lv[q]? = some (i, .int x)) (k : Ev G X bc bs (pc + 2) lv (.int x :: st) ws ro) : Ev G X bc bs pc lv (st) ws ro := fun H locs cells slots ls hP hD hS hc hs hl => lv_iload hC.x hC.b hdg (lv_at hl q hq) (k H locs cells slots ls hP hD hS hc hs hl)
theorem ev_istore_n (hC : Cok G M d X) {k0 : Fin 4} {i : Nat} {x : Int32} {lv' : List (Nat × Value)} (hdg : decode M.2.1 pc = .ok (.istore_n k0, 1)) (hi : (k0 : Nat) = i) (hn : i < M.2.2.1) (hlv : (i, Value.int x) :: lv.filter (fun q => !(q.1 == i) && !(q.1 + 1 == i && q.2.category == 2)) = lv') (k : Ev G X bc bs (pc + 1) lv' st ws ro) : Ev G X bc bs pc lv (.int x :: st) ws ro := fun H locs cells slots ls hP hD hS hc hs hl => lv_istore_n hC.x hC.b hdg hi hl (by rw [hC.m]; exact hn) hlv (fun ls' hl' => k H locs cells slots ls' hP hD hS hc hs hl')
theorem ev_istore (hC : Cok G M d X) {i : Nat} {x : Int32} {lv' : List (Nat × Value)} (hdg : decode M.2.1 pc = .ok (.istore i, 2)) (hn : i < M.2.2.1) (hlv : (i, Value.int x) :: lv.filter (fun q => !(q.1 == i) && !(q.1 + 1 == i && q.2.category == 2)) = lv') (k : Ev G X bc bs (pc + 2) lv' st ws ro) : Ev G X bc bs pc lv (.int x :: st) ws ro := fun H locs cells slots ls hP hD hS hc hs hl => lv_istore hC.x hC.b hdg hl (by rw [hC.m]; exact hn) hlv (fun ls' hl' => k H locs cells slots ls' hP hD hS hc hs hl')
theorem ev_lload_n (hC : Cok G M d X) {k0 : Fin 4} {i : Nat} {x : Int64} (hdg : decode M.2.1 pc = .ok (.lload_n k0, 1)) (hi : (k0 : Nat) = i) (q : Nat) (hq : lv[q]? = some (i, .long x)) (k : Ev G X bc bs (pc + 1) lv (.long x :: st) ws ro) : Ev G X bc bs pc lv (st) ws ro := fun H locs cells slots ls hP hD hS hc hs hl => lv_lload_n hC.x hC.b hdg hi (lv_at hl q hq) (k H locs cells slots ls hP hD hS hc hs hl)
theorem ev_lload (hC : Cok G M d X) {i : Nat} {x : Int64} (hdg : decode M.2.1 pc = .ok (.lload i, 2)) (q : Nat) (hq : lv[q]? = some (i, .long x)) (k : Ev G X bc bs (pc + 2) lv (.long x :: st) ws ro) : Ev G X bc bs pc lv (st) ws ro := fun H locs cells slots ls hP hD hS hc hs hl => lv_lload hC.x hC.b hdg (lv_at hl q hq) (k H locs cells slots ls hP hD hS hc hs hl)
theorem ev_lstore_n (hC : Cok G M d X) {k0 : Fin 4} {i : Nat} {x : Int64} {lv' : List (Nat × Value)} (hdg : decode M.2.1 pc = .ok (.lstore_n k0, 1)) (hi : (k0 : Nat) = i) (hn : i + 1 < M.2.2.1) (hlv : (i, Value.long x) :: lv.filter (fun q => !(q.1 == i) && (!(q.1 == i + 1) && !(q.1 + 1 == i && q.2.category == 2))) = lv') (k : Ev G X bc bs (pc + 1) lv' st ws ro) : Ev G X bc bs pc lv (.long x :: st) ws ro := fun H locs cells slots ls hP hD hS hc hs hl => lv_lstore_n hC.x hC.b hdg hi hl (by rw [hC.m]; exact hn) hlv (fun ls' hl' => k H locs cells slots ls' hP hD hS hc hs hl')
theorem ev_lstore (hC : Cok G M d X) {i : Nat} {x : Int64} {lv' : List (Nat × Value)} (hdg : decode M.2.1 pc = .ok (.lstore i, 2)) (hn : i + 1 < M.2.2.1) (hlv : (i, Value.long x) :: lv.filter (fun q => !(q.1 == i) && (!(q.1 == i + 1) && !(q.1 + 1 == i && q.2.category == 2))) = lv') (k : Ev G X bc bs (pc + 2) lv' st ws ro) : Ev G X bc bs pc lv (.long x :: st) ws ro := fun H locs cells slots ls hP hD hS hc hs hl => lv_lstore hC.x hC.b hdg hl (by rw [hC.m]; exact hn) hlv (fun ls' hl' => k H locs cells slots ls' hP hD hS hc hs hl')
theorem ev_aload_n (hC : Cok G M d X) {k0 : Fin 4} {i : Nat} {x : Nat} (hdg : decode M.2.1 pc = .ok (.aload_n k0, 1)) (hi : (k0 : Nat) = i) (q : Nat) (hq : lv[q]? = some (i, .ref x)) (k : Ev G X bc bs (pc + 1) lv (.ref x :: st) ws ro) : Ev G X bc bs pc lv (st) ws ro := fun H locs cells slots ls hP hD hS hc hs hl => lv_aload_n hC.x hC.b hdg hi (lv_at hl q hq) (k H locs cells slots ls hP hD hS hc hs hl)
theorem ev_aload (hC : Cok G M d X) {i : Nat} {x : Nat} (hdg : decode M.2.1 pc = .ok (.aload i, 2)) (q : Nat) (hq : lv[q]? = some (i, .ref x)) (k : Ev G X bc bs (pc + 2) lv (.ref x :: st) ws ro) : Ev G X bc bs pc lv (st) ws ro := fun H locs cells slots ls hP hD hS hc hs hl => lv_aload hC.x hC.b hdg (lv_at hl q hq) (k H locs cells slots ls hP hD hS hc hs hl)
theorem ev_astore_n (hC : Cok G M d X) {k0 : Fin 4} {i : Nat} {x : Nat} {lv' : List (Nat × Value)} (hdg : decode M.2.1 pc = .ok (.astore_n k0, 1)) (hi : (k0 : Nat) = i) (hn : i < M.2.2.1) (hlv : (i, Value.ref x) :: lv.filter (fun q => !(q.1 == i) && !(q.1 + 1 == i && q.2.category == 2)) = lv') (k : Ev G X bc bs (pc + 1) lv' st ws ro) : Ev G X bc bs pc lv (.ref x :: st) ws ro := fun H locs cells slots ls hP hD hS hc hs hl => lv_astore_n hC.x hC.b hdg hi hl (by rw [hC.m]; exact hn) hlv (fun ls' hl' => k H locs cells slots ls' hP hD hS hc hs hl')
theorem ev_astore (hC : Cok G M d X) {i : Nat} {x : Nat} {lv' : List (Nat × Value)} (hdg : decode M.2.1 pc = .ok (.astore i, 2)) (hn : i < M.2.2.1) (hlv : (i, Value.ref x) :: lv.filter (fun q => !(q.1 == i) && !(q.1 + 1 == i && q.2.category == 2)) = lv') (k : Ev G X bc bs (pc + 2) lv' st ws ro) : Ev G X bc bs pc lv (.ref x :: st) ws ro := fun H locs cells slots ls hP hD hS hc hs hl => lv_astore hC.x hC.b hdg hl (by rw [hC.m]; exact hn) hlv (fun ls' hl' => k H locs cells slots ls' hP hD hS hc hs hl')
theorem ev_iinc (hC : Cok G M d X) {i q : Nat} {n : Int} {x v : Int32} {lv' : List (Nat × Value)} (hdg : decode M.2.1 pc = .ok (.iinc i n, 3)) (hq : lv[q]? = some (i, .int x)) (hv : x + Int32.ofInt n = v) (hn : i < M.2.2.1) (hlv : (i, Value.int v) :: lv.filter (fun q => !(q.1 == i) && !(q.1 + 1 == i && q.2.category == 2)) = lv') (k : Ev G X bc bs (pc + 3) lv' st ws ro) : Ev G X bc bs pc lv st ws ro := fun H locs cells slots ls hP hD hS hc hs hl => lv_iinc hC.x hC.b hdg hl hq hv (by rw [hC.m]; exact hn) hlv (fun ls' hl' => k H locs cells slots ls' hP hD hS hc hs hl')
theorem ev_iadd (hC : Cok G M d X) {x y : Int32} (hdg : decode M.2.1 pc = .ok (.iadd, 1)) (k : Ev G X bc bs (pc + 1) lv (.int (x + y) :: st) ws ro) : Ev G X bc bs pc lv (.int y :: .int x :: st) ws ro := fun H locs cells slots ls hP hD hS hc hs hl => lv_iadd hC.x hC.b hdg (k H locs cells slots ls hP hD hS hc hs hl)
theorem ev_isub (hC : Cok G M d X) {x y : Int32} (hdg : decode M.2.1 pc = .ok (.isub, 1)) (k : Ev G X bc bs (pc + 1) lv (.int (x - y) :: st) ws ro) : Ev G X bc bs pc lv (.int y :: .int x :: st) ws ro := fun H locs cells slots ls hP hD hS hc hs hl => lv_isub hC.x hC.b hdg (k H locs cells slots ls hP hD hS hc hs hl)
theorem ev_imul (hC : Cok G M d X) {x y : Int32} (hdg : decode M.2.1 pc = .ok (.imul, 1)) (k : Ev G X bc bs (pc + 1) lv (.int (x * y) :: st) ws ro) : Ev G X bc bs pc lv (.int y :: .int x :: st) ws ro := fun H locs cells slots ls hP hD hS hc hs hl => lv_imul hC.x hC.b hdg (k H locs cells slots ls hP hD hS hc hs hl)
theorem ev_iand (hC : Cok G M d X) {x y : Int32} (hdg : decode M.2.1 pc = .ok (.iand, 1)) (k : Ev G X bc bs (pc + 1) lv (.int (x &&& y) :: st) ws ro) : Ev G X bc bs pc lv (.int y :: .int x :: st) ws ro := fun H locs cells slots ls hP hD hS hc hs hl => lv_iand hC.x hC.b hdg (k H locs cells slots ls hP hD hS hc hs hl)
theorem ev_ior (hC : Cok G M d X) {x y : Int32} (hdg : decode M.2.1 pc = .ok (.ior, 1)) (k : Ev G X bc bs (pc + 1) lv (.int (x ||| y) :: st) ws ro) : Ev G X bc bs pc lv (.int y :: .int x :: st) ws ro := fun H locs cells slots ls hP hD hS hc hs hl => lv_ior hC.x hC.b hdg (k H locs cells slots ls hP hD hS hc hs hl)
theorem ev_ixor (hC : Cok G M d X) {x y : Int32} (hdg : decode M.2.1 pc = .ok (.ixor, 1)) (k : Ev G X bc bs (pc + 1) lv (.int (x ^^^ y) :: st) ws ro) : Ev G X bc bs pc lv (.int y :: .int x :: st) ws ro := fun H locs cells slots ls hP hD hS hc hs hl => lv_ixor hC.x hC.b hdg (k H locs cells slots ls hP hD hS hc hs hl)
theorem ev_ishl (hC : Cok G M d X) {x y : Int32} (hdg : decode M.2.1 pc = .ok (.ishl, 1)) (k : Ev G X bc bs (pc + 1) lv (.int (x <<< (y &&& 31)) :: st) ws ro) : Ev G X bc bs pc lv (.int y :: .int x :: st) ws ro := fun H locs cells slots ls hP hD hS hc hs hl => lv_ishl hC.x hC.b hdg (k H locs cells slots ls hP hD hS hc hs hl)
theorem ev_ishr (hC : Cok G M d X) {x y : Int32} (hdg : decode M.2.1 pc = .ok (.ishr, 1)) (k : Ev G X bc bs (pc + 1) lv (.int (x >>> (y &&& 31)) :: st) ws ro) : Ev G X bc bs pc lv (.int y :: .int x :: st) ws ro := fun H locs cells slots ls hP hD hS hc hs hl => lv_ishr hC.x hC.b hdg (k H locs cells slots ls hP hD hS hc hs hl)
theorem ev_idiv (hC : Cok G M d X) {x y : Int32} (hdg : decode M.2.1 pc = .ok (.idiv, 1)) (hne : ¬ y = 0) (k : Ev G X bc bs (pc + 1) lv (.int (x / y) :: st) ws ro) : Ev G X bc bs pc lv (.int y :: .int x :: st) ws ro := fun H locs cells slots ls hP hD hS hc hs hl => lv_idiv hC.x hC.b hdg hne (k H locs cells slots ls hP hD hS hc hs hl)
theorem ev_irem (hC : Cok G M d X) {x y : Int32} (hdg : decode M.2.1 pc = .ok (.irem, 1)) (hne : ¬ y = 0) (k : Ev G X bc bs (pc + 1) lv (.int (x - x / y * y) :: st) ws ro) : Ev G X bc bs pc lv (.int y :: .int x :: st) ws ro := fun H locs cells slots ls hP hD hS hc hs hl => lv_irem hC.x hC.b hdg hne (k H locs cells slots ls hP hD hS hc hs hl)
theorem ev_ineg (hC : Cok G M d X) {x : Int32} (hdg : decode M.2.1 pc = .ok (.ineg, 1)) (k : Ev G X bc bs (pc + 1) lv (.int (-x) :: st) ws ro) : Ev G X bc bs pc lv (.int x :: st) ws ro := fun H locs cells slots ls hP hD hS hc hs hl => lv_ineg hC.x hC.b hdg (k H locs cells slots ls hP hD hS hc hs hl)
theorem ev_ladd (hC : Cok G M d X) {x y : Int64} (hdg : decode M.2.1 pc = .ok (.ladd, 1)) (k : Ev G X bc bs (pc + 1) lv (.long (x + y) :: st) ws ro) : Ev G X bc bs pc lv (.long y :: .long x :: st) ws ro := fun H locs cells slots ls hP hD hS hc hs hl => lv_ladd hC.x hC.b hdg (k H locs cells slots ls hP hD hS hc hs hl)
theorem ev_ldiv (hC : Cok G M d X) {x y : Int64} (hdg : decode M.2.1 pc = .ok (.ldiv, 1)) (hne : ¬ y = 0) (k : Ev G X bc bs (pc + 1) lv (.long (x / y) :: st) ws ro) : Ev G X bc bs pc lv (.long y :: .long x :: st) ws ro := fun H locs cells slots ls hP hD hS hc hs hl => lv_ldiv hC.x hC.b hdg hne (k H locs cells slots ls hP hD hS hc hs hl)
theorem ev_lrem (hC : Cok G M d X) {x y : Int64} (hdg : decode M.2.1 pc = .ok (.lrem, 1)) (hne : ¬ y = 0) (k : Ev G X bc bs (pc + 1) lv (.long (x - x / y * y) :: st) ws ro) : Ev G X bc bs pc lv (.long y :: .long x :: st) ws ro := fun H locs cells slots ls hP hD hS hc hs hl => lv_lrem hC.x hC.b hdg hne (k H locs cells slots ls hP hD hS hc hs hl)
theorem ev_iushr (hC : Cok G M d X) {x y v : Int32} (hdg : decode M.2.1 pc = .ok (.iushr, 1)) (hv : (x.toUInt32 >>> (y.toUInt32 &&& Int32.toUInt32 31)).toInt32 = v) (k : Ev G X bc bs (pc + 1) lv (.int v :: st) ws ro) : Ev G X bc bs pc lv (.int y :: .int x :: st) ws ro := fun H locs cells slots ls hP hD hS hc hs hl => lv_iushr hC.x hC.b hdg hv (k H locs cells slots ls hP hD hS hc hs hl)
theorem ev_i2l (hC : Cok G M d X) {x : Int32} {v : Int64} (hdg : decode M.2.1 pc = .ok (.i2l, 1)) (hv : x.toInt64 = v) (k : Ev G X bc bs (pc + 1) lv (.long v :: st) ws ro) : Ev G X bc bs pc lv (.int x :: st) ws ro := fun H locs cells slots ls hP hD hS hc hs hl => lv_i2l hC.x hC.b hdg hv (k H locs cells slots ls hP hD hS hc hs hl)
theorem ev_i2c (hC : Cok G M d X) {x v : Int32} (hdg : decode M.2.1 pc = .ok (.i2c, 1)) (hv : (x.toUInt32 % 65536).toInt32 = v) (k : Ev G X bc bs (pc + 1) lv (.int v :: st) ws ro) : Ev G X bc bs pc lv (.int x :: st) ws ro := fun H locs cells slots ls hP hD hS hc hs hl => lv_i2c hC.x hC.b hdg hv (k H locs cells slots ls hP hD hS hc hs hl)
theorem ev_lcmp (hC : Cok G M d X) {x y : Int64} (hdg : decode M.2.1 pc = .ok (.lcmp, 1)) (k : Ev G X bc bs (pc + 1) lv (.int (lg_cmp x y) :: st) ws ro) : Ev G X bc bs pc lv (.long y :: .long x :: st) ws ro := fun H locs cells slots ls hP hD hS hc hs hl => W.lcmp hC.x hC.b hdg (k H locs cells slots ls hP hD hS hc hs hl)
theorem ev_dup (hC : Cok G M d X) {va : Value} (hdg : decode M.2.1 pc = .ok (.dup, 1)) (hva : va.category = 1) (k : Ev G X bc bs (pc + 1) lv (va :: va :: st) ws ro) : Ev G X bc bs pc lv (va :: st) ws ro := fun H locs cells slots ls hP hD hS hc hs hl => lv_dup hC.x hC.b hdg hva (k H locs cells slots ls hP hD hS hc hs hl)
theorem ev_pop (hC : Cok G M d X) {va : Value} (hdg : decode M.2.1 pc = .ok (.pop, 1)) (hva : va.category = 1) (k : Ev G X bc bs (pc + 1) lv (st) ws ro) : Ev G X bc bs pc lv (va :: st) ws ro := fun H locs cells slots ls hP hD hS hc hs hl => lv_pop hC.x hC.b hdg hva (k H locs cells slots ls hP hD hS hc hs hl)
theorem ev_dup2 (hC : Cok G M d X) {va vb : Value} (hdg : decode M.2.1 pc = .ok (.dup2, 1)) (hva : va.category = 1) (hvb : vb.category = 1) (k : Ev G X bc bs (pc + 1) lv (va :: vb :: va :: vb :: st) ws ro) : Ev G X bc bs pc lv (va :: vb :: st) ws ro := fun H locs cells slots ls hP hD hS hc hs hl => lv_dup2_11 hC.x hC.b hdg hva hvb (k H locs cells slots ls hP hD hS hc hs hl)
theorem ev_ldc (hC : Cok G M d X) {v : Int32} {index : Nat} (hdg : decode M.2.1 pc = .ok (.ldc index, 2)) (hw : Cond.constant M.1.cls index v ∈ FT) (k : Ev G X bc bs (pc + 2) lv (.int v :: st) ws ro) : Ev G X bc bs pc lv (st) ws ro := fun H locs cells slots ls hP hD hS hc hs hl => lv_ldc hC.x hC.b hC.o (hC.t _ hw) hdg (k H locs cells slots ls hP hD hS hc hs hl)
theorem ev_ldcw (hC : Cok G M d X) {v : Int32} {index : Nat} (hdg : decode M.2.1 pc = .ok (.ldc_w index, 3)) (hw : Cond.constant M.1.cls index v ∈ FT) (k : Ev G X bc bs (pc + 3) lv (.int v :: st) ws ro) : Ev G X bc bs pc lv (st) ws ro := fun H locs cells slots ls hP hD hS hc hs hl => lv_ldcw hC.x hC.b hC.o (hC.t _ hw) hdg (k H locs cells slots ls hP hD hS hc hs hl)
theorem ev_ldc2 (hC : Cok G M d X) {v : Int64} {index : Nat} (hdg : decode M.2.1 pc = .ok (.ldc2_w index, 3)) (hw : Cond.constantLong M.1.cls index v ∈ FT) (k : Ev G X bc bs (pc + 3) lv (.long v :: st) ws ro) : Ev G X bc bs pc lv (st) ws ro := fun H locs cells slots ls hP hD hS hc hs hl => lv_ldc2 hC.x hC.b hC.o (hC.t _ hw) hdg (k H locs cells slots ls hP hD hS hc hs hl)
theorem ev_ldcS (hC : Cok G M d X) {tx : String} {index i : Nat} (hdg : decode M.2.1 pc = .ok (.ldc index, 2)) (hw : (M.1.cls, index, tx, i) ∈ strRefs) (k : Ev G X bc bs (pc + 2) lv (.ref (gK G i) :: st) ws ro) : Ev G X bc bs pc lv (st) ws ro := fun H locs cells slots ls hP hD hS hc hs hl => va_ldcS hC.x hC.b hC.o (hC.k.2.2.2.1 _ hw) hdg (k H locs cells slots ls hP hD hS hc hs hl)
/-! branches -/
theorem ev_if_eq (hC : Cok G M d X) {x : Int32} {off : Int} {tgt : Nat} (hdg : decode M.2.1 pc = .ok (.ifCond .eq off, 3)) (ht : (pc : Int) + off = (tgt : Int)) (kt : x = 0 → Ev G X bc bs tgt lv st ws ro) (kf : ¬ (x = 0) → Ev G X bc bs (pc + 3) lv st ws ro) : Ev G X bc bs pc lv (.int x :: st) ws ro := fun H locs cells slots ls hP hD hS hc hs hl => lv_if_eq hC.x hC.b hdg ht (fun h => kt h H locs cells slots ls hP hD hS hc hs hl) (fun h => kf h H locs cells slots ls hP hD hS hc hs hl)
theorem ev_if_ne (hC : Cok G M d X) {x : Int32} {off : Int} {tgt : Nat} (hdg : decode M.2.1 pc = .ok (.ifCond .ne off, 3)) (ht : (pc : Int) + off = (tgt : Int)) (kt : ¬ x = 0 → Ev G X bc bs tgt lv st ws ro) (kf : x = 0 → Ev G X bc bs (pc + 3) lv st ws ro) : Ev G X bc bs pc lv (.int x :: st) ws ro := fun H locs cells slots ls hP hD hS hc hs hl => lv_if_ne hC.x hC.b hdg ht (fun h => kt h H locs cells slots ls hP hD hS hc hs hl) (fun h => kf h H locs cells slots ls hP hD hS hc hs hl)
theorem ev_if_lt (hC : Cok G M d X) {x : Int32} {off : Int} {tgt : Nat} (hdg : decode M.2.1 pc = .ok (.ifCond .lt off, 3)) (ht : (pc : Int) + off = (tgt : Int)) (kt : x < 0 → Ev G X bc bs tgt lv st ws ro) (kf : ¬ (x < 0) → Ev G X bc bs (pc + 3) lv st ws ro) : Ev G X bc bs pc lv (.int x :: st) ws ro := fun H locs cells slots ls hP hD hS hc hs hl => lv_if_lt hC.x hC.b hdg ht (fun h => kt h H locs cells slots ls hP hD hS hc hs hl) (fun h => kf h H locs cells slots ls hP hD hS hc hs hl)
theorem ev_if_ge (hC : Cok G M d X) {x : Int32} {off : Int} {tgt : Nat} (hdg : decode M.2.1 pc = .ok (.ifCond .ge off, 3)) (ht : (pc : Int) + off = (tgt : Int)) (kt : 0 ≤ x → Ev G X bc bs tgt lv st ws ro) (kf : ¬ (0 ≤ x) → Ev G X bc bs (pc + 3) lv st ws ro) : Ev G X bc bs pc lv (.int x :: st) ws ro := fun H locs cells slots ls hP hD hS hc hs hl => lv_if_ge hC.x hC.b hdg ht (fun h => kt h H locs cells slots ls hP hD hS hc hs hl) (fun h => kf h H locs cells slots ls hP hD hS hc hs hl)
theorem ev_if_gt (hC : Cok G M d X) {x : Int32} {off : Int} {tgt : Nat} (hdg : decode M.2.1 pc = .ok (.ifCond .gt off, 3)) (ht : (pc : Int) + off = (tgt : Int)) (kt : 0 < x → Ev G X bc bs tgt lv st ws ro) (kf : ¬ (0 < x) → Ev G X bc bs (pc + 3) lv st ws ro) : Ev G X bc bs pc lv (.int x :: st) ws ro := fun H locs cells slots ls hP hD hS hc hs hl => lv_if_gt hC.x hC.b hdg ht (fun h => kt h H locs cells slots ls hP hD hS hc hs hl) (fun h => kf h H locs cells slots ls hP hD hS hc hs hl)
theorem ev_if_le (hC : Cok G M d X) {x : Int32} {off : Int} {tgt : Nat} (hdg : decode M.2.1 pc = .ok (.ifCond .le off, 3)) (ht : (pc : Int) + off = (tgt : Int)) (kt : x ≤ 0 → Ev G X bc bs tgt lv st ws ro) (kf : ¬ (x ≤ 0) → Ev G X bc bs (pc + 3) lv st ws ro) : Ev G X bc bs pc lv (.int x :: st) ws ro := fun H locs cells slots ls hP hD hS hc hs hl => lv_if_le hC.x hC.b hdg ht (fun h => kt h H locs cells slots ls hP hD hS hc hs hl) (fun h => kf h H locs cells slots ls hP hD hS hc hs hl)
theorem ev_icmp_eq (hC : Cok G M d X) {x y : Int32} {off : Int} {tgt : Nat} (hdg : decode M.2.1 pc = .ok (.if_icmp .eq off, 3)) (ht : (pc : Int) + off = (tgt : Int)) (kt : x = y → Ev G X bc bs tgt lv st ws ro) (kf : ¬ (x = y) → Ev G X bc bs (pc + 3) lv st ws ro) : Ev G X bc bs pc lv (.int y :: .int x :: st) ws ro := fun H locs cells slots ls hP hD hS hc hs hl => lv_icmp_eq hC.x hC.b hdg ht (fun h => kt h H locs cells slots ls hP hD hS hc hs hl) (fun h => kf h H locs cells slots ls hP hD hS hc hs hl)
theorem ev_icmp_ne (hC : Cok G M d X) {x y : Int32} {off : Int} {tgt : Nat} (hdg : decode M.2.1 pc = .ok (.if_icmp .ne off, 3)) (ht : (pc : Int) + off = (tgt : Int)) (kt : ¬ x = y → Ev G X bc bs tgt lv st ws ro) (kf : x = y → Ev G X bc bs (pc + 3) lv st ws ro) : Ev G X bc bs pc lv (.int y :: .int x :: st) ws ro := fun H locs cells slots ls hP hD hS hc hs hl => lv_icmp_ne hC.x hC.b hdg ht (fun h => kt h H locs cells slots ls hP hD hS hc hs hl) (fun h => kf h H locs cells slots ls hP hD hS hc hs hl)
theorem ev_icmp_lt (hC : Cok G M d X) {x y : Int32} {off : Int} {tgt : Nat} (hdg : decode M.2.1 pc = .ok (.if_icmp .lt off, 3)) (ht : (pc : Int) + off = (tgt : Int)) (kt : x < y → Ev G X bc bs tgt lv st ws ro) (kf : ¬ (x < y) → Ev G X bc bs (pc + 3) lv st ws ro) : Ev G X bc bs pc lv (.int y :: .int x :: st) ws ro := fun H locs cells slots ls hP hD hS hc hs hl => lv_icmp_lt hC.x hC.b hdg ht (fun h => kt h H locs cells slots ls hP hD hS hc hs hl) (fun h => kf h H locs cells slots ls hP hD hS hc hs hl)
theorem ev_icmp_ge (hC : Cok G M d X) {x y : Int32} {off : Int} {tgt : Nat} (hdg : decode M.2.1 pc = .ok (.if_icmp .ge off, 3)) (ht : (pc : Int) + off = (tgt : Int)) (kt : y ≤ x → Ev G X bc bs tgt lv st ws ro) (kf : ¬ (y ≤ x) → Ev G X bc bs (pc + 3) lv st ws ro) : Ev G X bc bs pc lv (.int y :: .int x :: st) ws ro := fun H locs cells slots ls hP hD hS hc hs hl => lv_icmp_ge hC.x hC.b hdg ht (fun h => kt h H locs cells slots ls hP hD hS hc hs hl) (fun h => kf h H locs cells slots ls hP hD hS hc hs hl)
theorem ev_icmp_gt (hC : Cok G M d X) {x y : Int32} {off : Int} {tgt : Nat} (hdg : decode M.2.1 pc = .ok (.if_icmp .gt off, 3)) (ht : (pc : Int) + off = (tgt : Int)) (kt : y < x → Ev G X bc bs tgt lv st ws ro) (kf : ¬ (y < x) → Ev G X bc bs (pc + 3) lv st ws ro) : Ev G X bc bs pc lv (.int y :: .int x :: st) ws ro := fun H locs cells slots ls hP hD hS hc hs hl => lv_icmp_gt hC.x hC.b hdg ht (fun h => kt h H locs cells slots ls hP hD hS hc hs hl) (fun h => kf h H locs cells slots ls hP hD hS hc hs hl)
theorem ev_icmp_le (hC : Cok G M d X) {x y : Int32} {off : Int} {tgt : Nat} (hdg : decode M.2.1 pc = .ok (.if_icmp .le off, 3)) (ht : (pc : Int) + off = (tgt : Int)) (kt : x ≤ y → Ev G X bc bs tgt lv st ws ro) (kf : ¬ (x ≤ y) → Ev G X bc bs (pc + 3) lv st ws ro) : Ev G X bc bs pc lv (.int y :: .int x :: st) ws ro := fun H locs cells slots ls hP hD hS hc hs hl => lv_icmp_le hC.x hC.b hdg ht (fun h => kt h H locs cells slots ls hP hD hS hc hs hl) (fun h => kf h H locs cells slots ls hP hD hS hc hs hl)
theorem ev_goto (hC : Cok G M d X) {off : Int} {tgt : Nat} (hdg : decode M.2.1 pc = .ok (.goto off, 3)) (ht : (pc : Int) + off = (tgt : Int)) (k : Ev G X bc bs tgt lv st ws ro) : Ev G X bc bs pc lv st ws ro := fun H locs cells slots ls hP hD hS hc hs hl => lv_goto hC.x hC.b hdg ht (k H locs cells slots ls hP hD hS hc hs hl)
theorem ev_lookup (hC : Cok G M d X) {dflt : Int} {ps : Array (Int × Int)} {len : Nat} {x : Int32} {off : Int} {tgt : Nat} (hdg : decode M.2.1 pc = .ok (.lookupswitch dflt ps, len)) (hp : (ps.toList.zip (ps.toList.drop 1)).all (fun (a, next) => a.1 < next.1) = true) (ho : Op.lookupswitch.offset ps.toList dflt x.toInt = off) (ht : (pc : Int) + off = (tgt : Int)) (k : Ev G X bc bs tgt lv st ws ro) : Ev G X bc bs pc lv (.int x :: st) ws ro := fun H locs cells slots ls hP hD hS hc hs hl => lv_lookup hC.x hC.b hdg hp ho ht (k H locs cells slots ls hP hD hS hc hs hl)
theorem ev_tabOut (hC : Cok G M d X) {dflt lo hi : Int} {offs : Array Int} {len : Nat} {x : Int32} {tgt : Nat} (hdg : decode M.2.1 pc = .ok (.tableswitch dflt lo hi offs, len)) (h : x.toInt < lo ∨ hi < x.toInt) (ht : (pc : Int) + dflt = (tgt : Int)) (k : Ev G X bc bs tgt lv st ws ro) : Ev G X bc bs pc lv (.int x :: st) ws ro := fun H locs cells slots ls hP hD hS hc hs hl => lv_tableOut hC.x hC.b hdg h ht (k H locs cells slots ls hP hD hS hc hs hl)
theorem ev_tabIn (hC : Cok G M d X) {dflt lo hi : Int} {offs : Array Int} {len : Nat} {x : Int32} {off : Int} {tgt : Nat} (hdg : decode M.2.1 pc = .ok (.tableswitch dflt lo hi offs, len)) (h1 : ¬ x.toInt < lo) (h2 : ¬ hi < x.toInt) (ho : offs[(x.toInt - lo).toNat]? = some off) (ht : (pc : Int) + off = (tgt : Int)) (k : Ev G X bc bs tgt lv st ws ro) : Ev G X bc bs pc lv (.int x :: st) ws ro := fun H locs cells slots ls hP hD hS hc hs hl => lv_tableIn hC.x hC.b hdg h1 h2 ho ht (k H locs cells slots ls hP hD hS hc hs hl)
/-- fewer locals, or in another order -/
theorem ev_lv {lv' : List (Nat × Value)} (ks : List Nat) (hlv : lv_pick lv ks = lv') (k : Ev G X bc bs pc lv' st ws ro) : Ev G X bc bs pc lv st ws ro := fun H locs cells slots ls hP hD hS hc hs hl => k H locs cells slots ls hP hD hS hc hs (lv_sub hl ks hlv)
/-- the world in another order -/
theorem ev_perm {ws' : va_W} (h : ws.Perm ws') (k : Ev G X bc bs pc lv st ws' ro) : Ev G X bc bs pc lv st ws ro := fun H locs cells slots ls hP hD hS hc hs hl => k H locs cells slots ls (va_P_perm (h.append_right _) hP) (va_D_perm (h.append_right _) hD) hS hc hs hl
theorem ev_less {bc' bs' : Nat} (h1 : bc' ≤ bc) (h2 : bs' ≤ bs) (k : Ev G X bc' bs' pc lv st ws ro) : Ev G X bc bs pc lv st ws ro := fun H locs cells slots ls hP hD hS hc hs hl => k H locs cells slots ls hP hD hS (by omega) (by omega) hl
end ER
