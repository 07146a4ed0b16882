/-! RULES: super.m(..) that is inherited, System.arraycopy, clone, instanceof -/
section VSW
variable {p : Program} {l : Launch} {e : Env} {R : Room} {s : State} {m : MethodId} {args : Array Value} {below : List Frame} {meth : Method} {c : Code}
theorem sub_two {vm : Vm} {a b : ClassId} {k : Class} (h1 : vm.classes[a]? = some k) (h2 : k.super = some b) : vm.isSubclass a b = true := by
  have hs : 0 < vm.classes.size := Nat.lt_of_le_of_lt (Nat.zero_le _) (Array.getElem?_eq_some_iff.mp h1).1
  obtain ⟨n, hn⟩ : ∃ n, vm.classes.size = n + 1 := ⟨vm.classes.size - 1, by omega⟩
  unfold Vm.isSubclass
  rw [hn]
  simp [Vm.isSubclassAux, h1, h2]
theorem va_callSW {T : State} {locs : List Loc} {cells slots : Nat} (X : Stand p l e R s m args below meth c T locs cells slots) (hexec : p.tables.exec = Jvm.exec) {own : String} {index : Nat} {x y : MethodName} {bytes : ByteArray} {maxL : Nat} {ret : Option FieldType}
    (hxy : y = ⟨y.cls, x.name, x.desc⟩) (hown : s.vm.findClass own = some m.cls) (hlink : (Cond.methodLink own index x).before args s = true) (hsame : (Cond.sameMethod x.cls y.cls x.name x.desc).before args s = true) (hsup : (Cond.superclass own x.cls).before args s = true) (hsup2 : (Cond.superclass x.cls y.cls).before args s = true)
    (hinst : (Cond.instanceMethod y).before args s = true) (hcode : (Cond.code y bytes maxL ret).before args s = true) (hno : x.name ≠ "<init>")
    {W : Nat} {Pre : Pt → Array Value → Prop} {Post : Pt → Array Value → Option Value → Pt → Prop} (hK : Back l R p e below s args y 3 W Pre Post)
    {b : Addr} {cellB : Cell} {kB : Class} (hcell : T.heap[b]? = some cellB) (hobj : cellB.vm.isStatics = false) (hkB : s.vm.classes[cellB.cls]? = some kB)
    {g : JFrame} (hg : g.method = m) (hsize : g.locals.size = c.maxLocals) {argsL rest : List Value} (hlen : ∀ sig, parseMethodDescriptor y.desc = some sig → argsL.length = sig.parameters.length)
    (hstack : g.stack = argsL.reverse ++ .ref b :: rest) (hW : 2 * g.monitorRoom + (rest.map fun v => v.category).sum ≤ W) (hdg : decode c.code g.pc = .ok (.invokespecial index, 3))
    (hpre : ∀ vm₁, s.WarmedH vm₁ → Pre ⟨T.setVm vm₁, locs, cells, slots⟩ (Value.ref b :: argsL).toArray) :
    ∃ (v : Option Value) (vm₁ : Vm) (B : Pt), s.WarmedH vm₁ ∧ Stand p l e R s m args below meth c B.U B.locs B.cells B.slots ∧ Post ⟨T.setVm vm₁, locs, cells, slots⟩ (Value.ref b :: argsL).toArray v B ∧
      ∀ target, Steps p.tables e below (B.U.setTop { g with pc := g.pc + 3, stack := v.toList ++ rest }) target → Steps p.tables e below (T.setTop g) target := by
  obtain ⟨mk, methM, hnamed, hmethM, hstM, habM⟩ := Cond.instanceMethod_spec hinst
  obtain ⟨methM', cM, hmethM', -, -, -, -, -, -, hsigM⟩ := Cond.code_spec hnamed hcode
  cases hmethM.symm.trans hmethM'
  obtain ⟨ps, dk, kp, hps, hdk, hkp, hsuper, -, -, hnid⟩ := Cond.superclass_spec hown hsup
  obtain ⟨ps2, dk2, kp2, hps2, hdk2, hkp2, hsuper2, -, -, -⟩ := Cond.superclass_spec hps hsup2
  have hn : s.methodNamed? ⟨y.cls, x.name, x.desc⟩ = some mk := by rw [← hxy]; exact hnamed
  have hpm : ps2 = mk.cls := Option.some.inj (hps2.symm.trans (findClass_of_methodNamed hnamed))
  have hsub : s.vm.isSubclass ps mk.cls = true := by rw [← hpm]; exact sub_two hdk2 hsuper2
  obtain ⟨vm₁, X₁, hstep₁⟩ := X.invokespecialUp hexec hown hlink hsame hn hmethM hstM habM hno hdk hnid hps hsuper hsub (a := b) (cell := cellB) hcell
    (fun z h => by rw [h] at hobj; cases hobj) hkB (g := g) hg (argsL := argsL) (rest := rest) (hlen _ hsigM) hstack hdg
  obtain ⟨v, B, X', hpost, hsteps⟩ := hK m meth c ⟨T.setVm vm₁, locs, cells, slots⟩ { g with stack := rest } (.invokespecial index) mk (Value.ref b :: argsL).toArray X₁ hg hsize hdg hW (X₁.named hnamed) (hpre vm₁ X₁.warmed)
  exact ⟨v, vm₁, B, X₁.warmed, X', hpost, fun target h => hstep₁ _ (by rw [doInvoke_state]; exact hsteps.trans h)⟩
end VSW
def CW (own : String) (idx : Nat) (x : MethodName) (M' : MI) (n : Nat) : Prop := M'.1 = ⟨M'.1.cls, x.name, x.desc⟩ ∧ Cond.methodLink own idx x ∈ FT ∧ Cond.sameMethod x.cls M'.1.cls x.name x.desc ∈ FT ∧ Cond.superclass own x.cls ∈ FT ∧ Cond.superclass x.cls M'.1.cls ∈ FT ∧ Cond.instanceMethod M'.1 ∈ FT ∧ Cond.initialized M'.1.cls ∈ FT ∧ Cond.code M'.1 M'.2.1 M'.2.2.1 M'.2.2.2 ∈ FT ∧ (x.name ≠ "<init>" ∧ (parseMethodDescriptor M'.1.desc).map (fun d => d.parameters.length) = some n) ∧ M'.2.2.1 ≤ 40
section EC2
variable {G : GG} {M M' : MI} {d d' bc bs pc mc ms n idx b : Nat} {X : Cx} {lv : List (Nat × Value)} {st As : List Value} {ws wc wf ro : va_W} {Q' : Option Value → va_W → va_W → Prop}
theorem ev_callSW (hC : Cok G M d X) {ci N : Nat} {C : String} {T : u_T} {x : MethodName} {fs : List Value} {st0 : List Value} (cv : CW M.1.cls idx x M' n) (hM : Mth G M' d' mc ms (.ref b :: As) wc ro Q') (hd : d' + 1 ≤ d) (hst : st0 = As.reverse ++ .ref b :: st) (hn : As.length = n) (hcat : (st.map fun v => v.category).sum ≤ 8) (hws : ws.Perm (wc ++ wf)) (he : (b, ob ci fs) ∈ ws ++ ro) (hci : vwCl[ci]? = some (C, T, N)) (hdg : decode M.2.1 pc = .ok (.invokespecial idx, 3)) (hbc : mc ≤ bc) (hbs : ms ≤ bs) (kk : ∀ (r : Option Value) (ws' ro' : va_W), Q' r ws' ro' → Ev G X (bc - mc) (bs - ms) (pc + 3) lv (r.toList ++ st) (ws' ++ wf) ro') : Ev G X bc bs pc lv st0 ws ro := by
  intro H locs cells slots ls hP hD hS hc hs hl
  obtain ⟨c0, c1, c2, c3, c4, c5, c6, c7, ⟨c8, c9⟩, c10⟩ := cv
  have hroom := q_room (mc := mc) (ms := ms) hC hd c10
  have hws2 : ∀ w ∈ wsOf M', ∀ (a' : Array Value) (U : State), (xS X).WarmedH U.vm → w.before a' U = true := fun w hw a' U hW => word_at hW (good_of_word (ft_good (ws_in c7 w hw))) (hC.t _ (ws_in c7 w hw))
  have hK : Back (xL X) (xR X) (xP X) (xE X) (xB X) (xS X) (xA X) M'.1 3 8 (PreOf (xR X) mc ms (va_Pc (.ref b :: As) (PP G wc ro (wf ++ xW X)))) (PostOf (QQ G (wf ++ xW X) Q') mc ms (gA G)) := back_of (bytes := M'.2.1) (maxL := M'.2.2.1) (ret := M'.2.2.2) (hM (xL X) (wf ++ xW X)) q_blind rfl rfl hroom.1 hroom.2 hws2 List.mem_cons_self (fun a' U hW => word_at hW (good_of_word (ft_good c6)) (hC.t _ c6))
  have hlen : ∀ sig, parseMethodDescriptor M'.1.desc = some sig → As.length = sig.parameters.length := fun sig h => by
    rw [h] at c9
    exact hn.trans (Option.some.inj c9).symm
  obtain ⟨cellB, hcB, hoB, hclB⟩ := q_recv hC hP hci he
  obtain ⟨hfc, kB, hkB, -⟩ := (hC.k.1.1 ci _ hci).2
  have hkB2 : (xS X).vm.classes[cellB.cls]? = some kB := by rw [← Option.some.inj (hfc.symm.trans hclB)]; exact hkB
  refine q_cont (A' := (Value.ref b :: As).toArray) (wf := wf) ?_ hS hc hs hbc hbs hl kk
  intro T hT X0
  obtain ⟨v, vm₁, ⟨U', l2, c2', s2⟩, hW₁, X', ⟨g', mk, t, L, e1, e2, hq, h1, hL, h2, h3⟩, stp⟩ := va_callSW X0 hC.x (bytes := M'.2.1) (maxL := M'.2.2.1) (ret := M'.2.2.2) c0 hC.o (hC.t _ c1) (hC.t _ c2) (hC.t _ c3) (hC.t _ c4) (hC.t _ c5) (hC.t _ c7) c8 hK (by rw [hT]; exact hcB) hoB hkB2 (g := F0 (xM X) pc ls st0) rfl hl.1 (argsL := As) (rest := st) hlen hst (lv_room hcat) (by rw [hC.b]; exact hdg) (fun vm₁ hW₁ => ⟨by show cells + mc ≤ _; omega, by show slots + ms ≤ _; omega, q_pre hC hP hD hS hws (T.setVm vm₁) hT hW₁⟩)
  dsimp only [Pt.U, Pt.locs, Pt.cells, Pt.slots] at X' e1 e2 h1 h2 h3 stp
  subst h1; subst h2; subst h3
  exact ⟨v, (T.setVm vm₁).calling g' mk (Value.ref b :: As).toArray, t, U', L, hT, X', hL, e1, e2, hq, stp⟩
/-- System.arraycopy between two int rows of ours -/
theorem ev_copy (hC : Cok G M d X) {q0 q1 a0 a1 n0 n1 : Nat} {f g : Nat → Int32} {sp dp k : Int32} {ws' : va_W} (hw : Cond.methodLink M.1.cls idx arraycopyName ∈ FT ∧ Cond.native arraycopyName ∈ FT ∧ Cond.static arraycopyName ∈ FT ∧ Cond.initialized "java/lang/System" ∈ FT) (h0 : ws[q0]? = some (a0, ia G n0 f)) (h1 : ws[q1]? = some (a1, ia G n1 g)) (s1 : ¬ sp < 0) (s2 : ¬ dp < 0) (s3 : ¬ k < 0) (s4 : sp.toNatClampNeg + k.toNatClampNeg ≤ n0) (s5 : dp.toNatClampNeg + k.toNatClampNeg ≤ n1) (hd : 1 ≤ d) (hcat : (st.map fun v => v.category).sum ≤ 8) (hws : ws.set q1 (a1, ia G n1 (va_cpy f g sp.toNatClampNeg dp.toNatClampNeg k.toNatClampNeg)) = ws') (hdg : decode M.2.1 pc = .ok (.invokestatic idx, 3)) (kk : Ev G X bc bs (pc + 3) lv st ws' ro) : Ev G X bc bs pc lv (.int k :: .int dp :: .ref a1 :: .int sp :: .ref a0 :: st) ws ro := by
  intro H locs cells slots ls hP hD hS hc hs hl
  have r1 := hC.f
  have r2 := hC.l
  refine va_copyi (ty := .int) hC.x hC.b hl.1.symm hC.o (hC.t _ hw.1) (hC.t _ hw.2.1) (hC.t _ hw.2.2.1) (hC.t _ hw.2.2.2) hC.k.1 hP hD hS q0 q1 0 0 (tot_at h0) (tot_at h1) rfl rfl rfl s1 s2 s3 s4 s5 (fun i _ => rfl) (by omega) ?_ hdg fun H1 locs1 hP1 hD1 hS1 => ?_
  · have : nativeFrameWords "java/lang/System" "arraycopy" 5 + 11 ≤ 50 := by decide +kernel
    omega
  · rw [tot_set h1, hws] at hP1 hD1
    exact kk H1 locs1 cells slots ls hP1 hD1 hS1 hc hs hl
/-- instanceof, by the receiver's kind -/
theorem ev_inst (hC : Cok G M d X) {ci N : Nat} {C nm : String} {T : u_T} {fs : List Value} {v : Int32} (hw : Cond.classLink M.1.cls idx nm ∈ FT) (he : (b, ob ci fs) ∈ ws ++ ro) (hci : vwCl[ci]? = some (C, T, N)) (hv : (v = 1 ∧ ((C, nm) ∈ castYes ∨ C = nm)) ∨ (v = 0 ∧ (C, nm) ∈ castNo)) (hdg : decode M.2.1 pc = .ok (.instanceof idx, 3)) (kk : Ev G X bc bs (pc + 3) lv (.int v :: st) ws ro) : Ev G X bc bs pc lv (.ref b :: st) ws ro := by
  intro H locs cells slots ls hP hD hS hc hs hl
  have hr := q_recv hC hP hci he
  rcases hv with ⟨rfl, h | rfl⟩ | ⟨rfl, h⟩
  · exact va_instY hC.x hC.b hC.o (hC.t _ hw) (hC.k.2.2.2.2.2.2.2.1 _ h) hr hdg (kk H locs cells slots ls hP hD hS hc hs hl)
  · exact va_instE hC.x hC.b hC.o (hC.t _ hw) hr hdg (kk H locs cells slots ls hP hD hS hc hs hl)
  · exact va_instNo hC.x hC.b hC.o (hC.t _ hw) (hC.k.2.2.2.2.2.2.2.2.1 _ h) hr hdg (kk H locs cells slots ls hP hD hS hc hs hl)
/-- clone of an int row -/
theorem ev_clone (hC : Cok G M d X) {a n0 : Nat} {f : Nat → Int32} (hown : M.1.cls = "java/util/Arrays") (hw : Cond.methodLink M.1.cls idx ⟨"[I", "clone", "()Ljava/lang/Object;"⟩ ∈ FT ∧ Cond.sameMethod "[I" "java/lang/Object" "clone" "()Ljava/lang/Object;" ∈ FT ∧ Cond.native ⟨"java/lang/Object", "clone", "()Ljava/lang/Object;"⟩ ∈ FT ∧ Cond.instanceMethod ⟨"java/lang/Object", "clone", "()Ljava/lang/Object;"⟩ ∈ FT ∧ Cond.selects "[I" ⟨"[I", "clone", "()Ljava/lang/Object;"⟩ ⟨"java/lang/Object", "clone", "()Ljava/lang/Object;"⟩ ∈ FT) (he : (a, ia G n0 f) ∈ ws ++ ro) (hd : 1 ≤ d) (hcat : (st.map fun v => v.category).sum ≤ 8) (hbc : 1 ≤ bc) (hbs : n0 ≤ bs) (hdg : decode M.2.1 pc = .ok (.invokevirtual idx, 3)) (kk : ∀ q : Nat, Ev G X (bc - 1) (bs - n0) (pc + 3) lv (.ref q :: st) (ws ++ [(q, ia G n0 f)]) ro) : Ev G X bc bs pc lv (.ref a :: st) ws ro := by
  intro H locs cells slots ls hP hD hS hc hs hl
  have r1 := hC.f
  have r2 := hC.l
  obtain ⟨q0, hq⟩ := tot_in (wr := xW X) he
  refine va_clone (ad := "[I") (ty := .int) (x := (n0, .inl f)) hC.x hC.b hl.1.symm hC.o (hC.t _ hw.1) (hC.t _ hw.2.1) (hC.t _ hw.2.2.1) (hC.t _ hw.2.2.2.1) (hC.t _ hw.2.2.2.2) (hC.k.2.2.2.2.2.2.2.1 ("[I", "java/lang/Cloneable") (by decide +kernel)) hC.k.1 hP hD hS (gA_new hC.k) q0 0 hq rfl (hC.k.1.2 0 (gC G 0, .int) rfl).2 (fun i v hv => ?_) (by omega) (by omega) (by omega) (by show slots + n0 ≤ _; omega) hdg fun q H1 hK1 hP1 hD1 hS1 => ?_
  · have hlt := (Array.getElem?_eq_some_iff.mp hv).1
    rw [vp_cell_i] at hv hlt
    rw [arrV_size] at hlt
    rw [arrV_read _ _ hlt] at hv
    cases hv
    rfl
  · exact kk q H1 locs (cells + 1) (slots + n0) ls (va_P_perm (perm_tail ws ro (xW X) _) hP1) (va_D_perm (perm_tail ws ro (xW X) _) hD1) hS1 (by omega) (by omega) hl
/-- (int[]) of an int row -/
theorem ev_castI (hC : Cok G M d X) {a n0 : Nat} {f : Nat → Int32} (hw : Cond.classLink M.1.cls idx "[I" ∈ FT) (he : (a, ia G n0 f) ∈ ws ++ ro) (hdg : decode M.2.1 pc = .ok (.checkcast idx, 3)) (kk : Ev G X bc bs (pc + 3) lv (.ref a :: st) ws ro) : Ev G X bc bs pc lv (.ref a :: st) ws ro := by
  intro H locs cells slots ls hP hD hS hc hs hl
  obtain ⟨q0, hq⟩ := tot_in (wr := xW X) he
  exact va_castA hC.x hC.b hC.o (hC.t _ hw) hP q0 hq (hC.k.1.2 0 (gC G 0, .int) rfl).2 hdg (kk H locs cells slots ls hP hD hS hc hs hl)
end EC2
