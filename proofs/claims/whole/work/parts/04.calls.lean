/-! RULES: calls, returns; a contract from a walk -/
def Rok (G : GG) (M : MI) (Q : Option Value → va_W → va_W → Prop) (mc ms : Nat) (X : Cx) : Prop := (xMe X).sig.returnType = M.2.2.2 ∧ (xMe X).locks = false ∧ (xR X).cells = mc ∧ (xR X).slots = ms ∧ xZ X = MQ (xB X) (QQ G (xW X) Q) (xA X) (xS X) mc ms (gA G)
theorem gA_locs {G : GG} {H0 H : Heap} {locs : List Loc} (h : va_S (gA G) H0 H locs) : ∀ q ∈ locs, gA G q.base := h.2.2
theorem mth_of {G : GG} {M : MI} {d mc ms : Nat} {args : List Value} {ws ro : va_W} {Q : Option Value → va_W → va_W → Prop} (hy : plainName M.1.cls = true) (hA : (lg_sl args).length ≤ M.2.2.1) (h : ∀ X : Cx, Cok G M d X → Rok G M Q mc ms X → Ev G X mc ms 0 (lv_args 0 args) [] ws ro) : Mth G M d mc ms args ws ro Q := by
  intro l wr
  refine Met.ofW (cc := M.2.1) (maxL := M.2.2.1) (ret := M.2.2.2) hy rfl ?_
  intro p e s m a below meth c s₁ B hml hv
  obtain ⟨rfl, hk, hP, hD⟩ := hv
  have hts := atoms_spec (ws := wsOf M) B.pre
  rw [lg_entry_eq]
  refine h (p, l, e, _, s, m, args.toArray, below, meth, c, wr, _) ⟨B.exec, B.bytes, hml, findClass_of_methodNamed B.named, fun w hw => hts w (List.mem_cons_of_mem _ hw), hk, Nat.le_refl _, Nat.le_refl _, fun hi => (name_of_methodNamed B.named B.method).1.trans hi⟩ ⟨B.returns, B.notSynchronized, rfl, rfl, rfl⟩ _ _ _ _ _ hP hD va_S.rf (by show 0 + mc ≤ mc; omega) (by show 0 + ms ≤ ms; omega) ?_
  have hl := lv_entry args (n := M.2.2.1) hA
  rw [show (xC (p, l, e, _, s, m, args.toArray, below, meth, c, wr, _) : Code).maxLocals = M.2.2.1 from hml]
  exact hl
section ERet
variable {G : GG} {M : MI} {d bc bs pc mc ms : Nat} {X : Cx} {lv : List (Nat × Value)} {st : List Value} {ws ro : va_W} {Q : Option Value → va_W → va_W → Prop}
theorem q_end {r : Option Value} {H : Heap} {locs : List Loc} {t : State} (hP : va_P (gD G) vwCl (ws ++ (ro ++ xW X)) H) (hD : va_D (gA G) (ws ++ (ro ++ xW X))) (hS : va_S (gA G) (xS X).heap H locs) (hq : Q r ws ro) (ht : t.heap = H) : QQ G (xW X) Q (xA X) (xS X) (.returned r) t := ⟨r, ws, ro, rfl, hq, by rw [ht]; exact hP, hD, hS.F ht⟩
theorem ev_iret (hC : Cok G M d X) (hR : Rok G M Q mc ms X) (hr : M.2.2.2 = some .int) {v : Int32} (hdg : decode M.2.1 pc = .ok (.ireturn, 1)) (hq : Q (some (.int v)) ws ro) : Ev G X bc bs pc lv [.int v] ws ro := by
  intro H locs cells slots ls hP hD hS hc hs hl
  obtain ⟨h1, h2, h3, h4, h5⟩ := hR
  show W _ _ _ _ _ _ _ _ _ _ _ _ _ _ _ _
  rw [h5]
  exact W.widen (k := mc) (n := ms) (by omega) (by omega) (W.iret hC.x hC.b (h1.trans hr) (fun t ht _ => q_end hP hD hS hq ht) hS.2.2 hdg h2)
theorem ev_zret (hC : Cok G M d X) (hR : Rok G M Q mc ms X) {ty : FieldType} (hr : M.2.2.2 = some ty) {v : Int32} (hn : narrow ty (.int v) = .int v) (hdg : decode M.2.1 pc = .ok (.ireturn, 1)) (hq : Q (some (.int v)) ws ro) : Ev G X bc bs pc lv [.int v] ws ro := by
  intro H locs cells slots ls hP hD hS hc hs hl
  obtain ⟨h1, h2, h3, h4, h5⟩ := hR
  show W _ _ _ _ _ _ _ _ _ _ _ _ _ _ _ _
  rw [h5]
  exact W.widen (k := mc) (n := ms) (by omega) (by omega) (W.zret hC.x hC.b (h1.trans hr) hn (fun t ht _ => q_end hP hD hS hq ht) hS.2.2 hdg h2)
theorem ev_lret (hC : Cok G M d X) (hR : Rok G M Q mc ms X) (hr : M.2.2.2 = some .long) {v : Int64} (hdg : decode M.2.1 pc = .ok (.lreturn, 1)) (hq : Q (some (.long v)) ws ro) : Ev G X bc bs pc lv [.long v] ws ro := by
  intro H locs cells slots ls hP hD hS hc hs hl
  obtain ⟨h1, h2, h3, h4, h5⟩ := hR
  show W _ _ _ _ _ _ _ _ _ _ _ _ _ _ _ _
  rw [h5]
  exact W.widen (k := mc) (n := ms) (by omega) (by omega) (W.lret hC.x hC.b (h1.trans hr) (fun t ht _ => q_end hP hD hS hq ht) hS.2.2 hdg h2)
theorem ev_vret (hC : Cok G M d X) (hR : Rok G M Q mc ms X) (hr : M.2.2.2 = none) (hdg : decode M.2.1 pc = .ok (.return_, 1)) (hq : Q none ws ro) : Ev G X bc bs pc lv [] ws ro := by
  intro H locs cells slots ls hP hD hS hc hs hl
  obtain ⟨h1, h2, h3, h4, h5⟩ := hR
  show W _ _ _ _ _ _ _ _ _ _ _ _ _ _ _ _
  rw [h5]
  exact W.widen (k := mc) (n := ms) (by omega) (by omega) (W.vret hC.x hC.b (h1.trans hr) (fun t ht _ => q_end hP hD hS hq ht) hS.2.2 hdg h2)
theorem ev_aret (hC : Cok G M d X) (hR : Rok G M Q mc ms X) {ty : FieldType} (hr : M.2.2.2 = some ty) (hty : (∃ n, ty = .object n) ∨ ∃ t, ty = .array t) {a : Nat} (hdg : decode M.2.1 pc = .ok (.areturn, 1)) (hq : Q (some (.ref a)) ws ro) : Ev G X bc bs pc lv [.ref a] ws ro := by
  intro H locs cells slots ls hP hD hS hc hs hl
  obtain ⟨h1, h2, h3, h4, h5⟩ := hR
  show W _ _ _ _ _ _ _ _ _ _ _ _ _ _ _ _
  rw [h5]
  exact W.widen (k := mc) (n := ms) (by omega) (by omega) (W.aret hC.x hC.b (h1.trans hr) hty (Or.inr ⟨a, rfl⟩) (fun t ht _ => q_end hP hD hS hq ht) hS.2.2 hdg h2)
end ERet
section ECall
variable {G : GG} {M M' : MI} {d d' bc bs pc mc ms n idx b : Nat} {X : Cx} {lv : List (Nat × Value)} {st As : List Value} {ws wc wf ro : va_W} {Q' : Option Value → va_W → va_W → Prop}
theorem q_call {H : Heap} {locs : List Loc} {cells slots : Nat} {ls : Array Slot} {st0 : List Value} {wr : va_W} {A' : Array Value} (hr : va_Run (xP X) (xL X) (xE X) (xR X) (xS X) (xM X) (xA X) (xB X) (xMe X) (xC X) H locs cells slots mc ms (F0 (xM X) pc ls st0) st (QQ G wr Q' A') (gA G)) (hS : va_S (gA G) (xS X).heap H locs)
    (kk : ∀ (r : Option Value) (ws' ro' : va_W) (H1 : Heap) (locs1 : List Loc), Q' r ws' ro' → va_P (gD G) vwCl (ws' ++ (ro' ++ wr)) H1 → va_D (gA G) (ws' ++ (ro' ++ wr)) → va_S (gA G) (xS X).heap H1 locs1 → Wx X H1 locs1 (cells + mc) (slots + ms) (F0 (xM X) (pc + 3) ls (r.toList ++ st))) : Wx X H locs cells slots (F0 (xM X) pc ls st0) := by
  intro T hT X0
  obtain ⟨v, st₀, t, T', L, h0, X', hL, e1, e2, ⟨r, ws', ro', hv, hq, hP1, hD1, hz, hk⟩, stp⟩ := hr T hT X0
  cases hv
  rw [h0] at hz hk
  obtain ⟨t2, a1, b1⟩ := kk v ws' ro' T'.heap (locs ++ L) hq (by rw [e1]; exact hP1) hD1 ⟨Nat.le_trans hS.1 (by rw [e1]; exact hz), fun q h1 h2 => by rw [e1, hk q (Nat.lt_of_lt_of_le h1 hS.1) h2]; exact hS.2.1 q h1 h2, fun q hq2 => by
      rcases List.mem_append.mp hq2 with h | h
      · exact hS.2.2 q h
      · exact hL q h⟩ T' rfl X'
  exact ⟨t2, stp t2 a1, b1⟩
theorem q_cont {H : Heap} {locs : List Loc} {cells slots : Nat} {ls : Array Slot} {st0 : List Value} {A' : Array Value} (hr : va_Run (xP X) (xL X) (xE X) (xR X) (xS X) (xM X) (xA X) (xB X) (xMe X) (xC X) H locs cells slots mc ms (F0 (xM X) pc ls st0) st (QQ G (wf ++ xW X) Q' A') (gA G)) (hS : va_S (gA G) (xS X).heap H locs) (hc : cells + bc ≤ (xR X).cells) (hs : slots + bs ≤ (xR X).slots) (hbc : mc ≤ bc) (hbs : ms ≤ bs) (hl : lv_has ls (xC X).maxLocals lv)
    (kk : ∀ (r : Option Value) (ws' ro' : va_W), Q' r ws' ro' → Ev G X (bc - mc) (bs - ms) (pc + 3) lv (r.toList ++ st) (ws' ++ wf) ro') : Wx X H locs cells slots (F0 (xM X) pc ls st0) :=
  q_call hr hS fun r ws' ro' H1 locs1 hq hP1 hD1 hS1 => kk r ws' ro' hq H1 locs1 (cells + mc) (slots + ms) ls (va_P_perm (perm_back ws' ro' wf (xW X)) hP1) (va_D_perm (perm_back ws' ro' wf (xW X)) hD1) hS1 (by omega) (by omega) hl
theorem q_fix (hC : Cok G M d X) : CallFix (xP X) (xM X) (xC X) M.2.1 (xC X).maxLocals (xS X) (xA X) FT M.1.cls := ⟨hC.x, hC.b, rfl, hC.o, hC.t⟩
theorem q_blind {wr : va_W} {As' : List Value} : FrameBlind (va_Pc As' (PP G ws ro wr)) := fun a U g mk h => ⟨h.1, Kp_blind h.2.1, h.2.2.1, h.2.2.2⟩
theorem q_pre (hC : Cok G M d X) {H : Heap} {locs : List Loc} (hP : va_P (gD G) vwCl (ws ++ (ro ++ xW X)) H) (hD : va_D (gA G) (ws ++ (ro ++ xW X))) (hS : va_S (gA G) (xS X).heap H locs) (hws : ws.Perm (wc ++ wf)) {As' : List Value} : ∀ U : State, U.heap = H → (xS X).WarmedH U.vm → va_Pc As' (PP G wc ro (wf ++ xW X)) As'.toArray U := fun U hU hW => ⟨rfl, Kp_call hC.k hS hU hW, by rw [hU]; exact va_P_perm (perm_frame ro (xW X) hws) hP, va_D_perm (perm_frame ro (xW X) hws) hD⟩
theorem q_room (hC : Cok G M d X) (hd : d' + 1 ≤ d) (hL : M'.2.2.1 ≤ 40) : (rmd d' mc ms).frames + 1 ≤ (xR X).frames ∧ 8 + (M'.2.2.1 + 11) + (rmd d' mc ms).locals ≤ (xR X).locals := by
  have h1 := hC.f
  have h2 := hC.l
  refine ⟨by show d' + 1 ≤ _; omega, ?_⟩
  show 8 + (M'.2.2.1 + 11) + 64 * d' ≤ _
  omega
theorem q_recv (hC : Cok G M d X) {H : Heap} {ci N : Nat} {C : String} {T : u_T} {fs : List Value} (hP : va_P (gD G) vwCl (ws ++ (ro ++ xW X)) H) (hci : vwCl[ci]? = some (C, T, N)) (he : (b, ob ci fs) ∈ ws ++ ro) : ∃ cellB : Cell, H[b]? = some cellB ∧ cellB.vm.isStatics = false ∧ (xS X).vm.findClass C = some cellB.cls := by
  obtain ⟨q0, hq⟩ := tot_in (wr := xW X) he
  exact va_recv hC.k.1 hP hci hq
theorem ws_in : Cond.code M'.1 M'.2.1 M'.2.2.1 M'.2.2.2 ∈ FT → ∀ w ∈ wsOf M', w ∈ FT := fun h w hw => by
  rcases List.mem_cons.mp hw with rfl | h1
  · exact h
  · exact h1
/-- a virtual call of a method of the receiver's own class -/
def CV (own : String) (idx : Nat) (M' : MI) (n : Nat) : Prop := Cond.methodLink own idx M'.1 ∈ FT ∧ Cond.instanceMethod M'.1 ∈ FT ∧ Cond.selects M'.1.cls M'.1 M'.1 ∈ FT ∧ Cond.initialized M'.1.cls ∈ FT ∧ Cond.code M'.1 M'.2.1 M'.2.2.1 M'.2.2.2 ∈ FT ∧ (M'.1.cls ≠ "java/lang/invoke/MethodHandle" ∧ M'.1.cls ≠ "java/lang/invoke/VarHandle" ∧ (parseMethodDescriptor M'.1.desc).map (fun d => d.parameters.length) = some n) ∧ M'.2.2.1 ≤ 40
theorem ev_callV (hC : Cok G M d X) {ci N : Nat} {T : u_T} {fs : List Value} {st0 : List Value} (cv : CV M.1.cls idx M' n) (hM : Mth G M' d' mc ms (.ref b :: As) wc ro Q') (hd : d' + 1 ≤ d) (hst : st0 = As.reverse ++ .ref b :: st) (hn : As.length = n) (hcat : (st.map fun v => v.category).sum ≤ 8) (hws : ws.Perm (wc ++ wf)) (he : (b, ob ci fs) ∈ ws ++ ro) (hci : vwCl[ci]? = some (M'.1.cls, T, N)) (hdg : decode M.2.1 pc = .ok (.invokevirtual idx, 3)) (hbc : mc ≤ bc) (hbs : ms ≤ bs) (kk : ∀ (r : Option Value) (ws' ro' : va_W), Q' r ws' ro' → Ev G X (bc - mc) (bs - ms) (pc + 3) lv (r.toList ++ st) (ws' ++ wf) ro') : Ev G X bc bs pc lv st0 ws ro := by
  intro H locs cells slots ls hP hD hS hc hs hl
  obtain ⟨c1, c2, c3, c4, c5, c6, c7⟩ := cv
  exact q_cont (wf := wf) (va_runV (C := M'.1.cls) (q_fix hC) (hM (xL X) (wf ++ xW X)) (cwV n hC.t (ft_goodIn (fun _ h => h) _ (fun w hw => by
    rcases List.mem_append.mp hw with h | h
    · simp only [List.mem_cons, List.not_mem_nil, or_false] at h
      rcases h with rfl | rfl | rfl | rfl
      · exact c1
      · exact c2
      · exact c3
      · exact c4
    · exact ws_in c5 w h)) rfl rfl rfl ⟨rfl, c6⟩ (q_room hC hd c7)) ⟨q_blind, q_recv hC hP hci he, q_pre hC hP hD hS hws⟩ rfl hn hl.1 hst (lv_room hcat) hdg ⟨by omega, by omega⟩) hS hc hs hbc hbs hl kk
/-- a static call -/
def CT (own : String) (idx : Nat) (M' : MI) (n : Nat) : Prop := Cond.methodLink own idx M'.1 ∈ FT ∧ Cond.static M'.1 ∈ FT ∧ Cond.initialized M'.1.cls ∈ FT ∧ Cond.code M'.1 M'.2.1 M'.2.2.1 M'.2.2.2 ∈ FT ∧ (M'.1.cls ≠ "java/lang/invoke/MethodHandle" ∧ M'.1.cls ≠ "java/lang/invoke/VarHandle" ∧ (parseMethodDescriptor M'.1.desc).map (fun d => d.parameters.length) = some n) ∧ M'.2.2.1 ≤ 40
theorem ev_callS (hC : Cok G M d X) {st0 : List Value} (cv : CT M.1.cls idx M' n) (hM : Mth G M' d' mc ms As wc ro Q') (hd : d' + 1 ≤ d) (hst : st0 = As.reverse ++ st) (hn : As.length = n) (hcat : (st.map fun v => v.category).sum ≤ 8) (hws : ws.Perm (wc ++ wf)) (hdg : decode M.2.1 pc = .ok (.invokestatic idx, 3)) (hbc : mc ≤ bc) (hbs : ms ≤ bs) (kk : ∀ (r : Option Value) (ws' ro' : va_W), Q' r ws' ro' → Ev G X (bc - mc) (bs - ms) (pc + 3) lv (r.toList ++ st) (ws' ++ wf) ro') : Ev G X bc bs pc lv st0 ws ro := by
  intro H locs cells slots ls hP hD hS hc hs hl
  obtain ⟨c1, c2, c3, c4, c5, c6⟩ := cv
  exact q_cont (wf := wf) (va_runS (q_fix hC) (hM (xL X) (wf ++ xW X)) (va_cwS n hC.t (ft_goodIn (fun _ h => h) _ (fun w hw => by
    rcases List.mem_append.mp hw with h | h
    · simp only [List.mem_cons, List.not_mem_nil, or_false] at h
      rcases h with rfl | rfl | rfl
      · exact c1
      · exact c2
      · exact c3
    · exact ws_in c4 w h)) rfl rfl rfl c5 (q_room hC hd c6)) ⟨q_blind, q_pre hC hP hD hS hws⟩ rfl hn hl.1 hst (lv_room hcat) hdg ⟨by omega, by omega⟩) hS hc hs hbc hbs hl kk
/-- a constructor's call -/
def CO (own : String) (idx : Nat) (M' : MI) (n : Nat) : Prop := Cond.methodLink own idx M'.1 ∈ FT ∧ Cond.instanceMethod M'.1 ∈ FT ∧ Cond.initialized M'.1.cls ∈ FT ∧ Cond.code M'.1 M'.2.1 M'.2.2.1 none ∈ FT ∧ M'.1.name = "<init>" ∧ (M'.1.cls ≠ "java/lang/invoke/MethodHandle" ∧ M'.1.cls ≠ "java/lang/invoke/VarHandle" ∧ (parseMethodDescriptor M'.1.desc).map (fun d => d.parameters.length) = some n) ∧ M'.2.2.1 ≤ 40 ∧ M'.2.2.2 = none
theorem ev_callI (hC : Cok G M d X) {st0 : List Value} (cv : CO M.1.cls idx M' n) (hM : Mth G M' d' mc ms (.ref b :: As) wc ro Q') (hd : d' + 1 ≤ d) (hst : st0 = As.reverse ++ .ref b :: st) (hn : As.length = n) (hcat : (st.map fun v => v.category).sum ≤ 8) (hws : ws.Perm (wc ++ wf)) (hdg : decode M.2.1 pc = .ok (.invokespecial idx, 3)) (hbc : mc ≤ bc) (hbs : ms ≤ bs) (kk : ∀ (r : Option Value) (ws' ro' : va_W), Q' r ws' ro' → Ev G X (bc - mc) (bs - ms) (pc + 3) lv (r.toList ++ st) (ws' ++ wf) ro') : Ev G X bc bs pc lv st0 ws ro := by
  intro H locs cells slots ls hP hD hS hc hs hl
  obtain ⟨c1, c2, c3, c4, c5, c6, c7, c8⟩ := cv
  exact q_cont (wf := wf) (va_runI (bytes := M'.2.1) (maxL := M'.2.2.1) (q_fix hC) (hM (xL X) (wf ++ xW X)) (cwI n hC.t (ft_goodIn (fun _ h => h) _ (ws_in (by rw [c8]; exact c4))) (by unfold wsOf; rw [c8]) rfl rfl (hC.t _ c3) (hC.t _ c1) (hC.t _ c2) c5 c6 (q_room hC hd c7)) ⟨q_blind, q_pre hC hP hD hS hws⟩ rfl hn hl.1 hst (lv_room hcat) hdg ⟨by omega, by omega⟩) hS hc hs hbc hbs hl kk
/-- super.<init>() of Object -/
theorem ev_objInit (hC : Cok G M d X) (hw : Cond.methodLink M.1.cls idx objectInit ∈ FT ∧ Cond.instanceMethod objectInit ∈ FT ∧ Cond.code objectInit ⟨#[0xb1]⟩ 1 none ∈ FT) (hd : 1 ≤ d) (hcat : (st.map fun v => v.category).sum ≤ 8) (hdg : decode M.2.1 pc = .ok (.invokespecial idx, 3)) (kk : Ev G X bc bs (pc + 3) lv st ws ro) : Ev G X bc bs pc lv (.ref b :: st) ws ro := by
  intro H locs cells slots ls hP hD hS hc hs hl
  have h1 := hC.f
  have h2 := hC.l
  exact W.objInit hC.x hC.b hC.o (hC.t _ hw.1) (hC.t _ hw.2.1) (hC.t _ hw.2.2) rfl hl.1 rfl hdg (by omega) (by have := lv_room (m := xM X) (pc := pc) (ls := ls) (rest := .ref b :: st) hcat; omega) (kk H locs cells slots ls hP hD hS hc hs hl)
/-- a virtual call: x is named, y is what the receiver's kind C selects -/
def CU (own : String) (idx : Nat) (C owner : String) (x : MethodName) (M' : MI) (n : Nat) : Prop := Cond.methodLink own idx x ∈ FT ∧ Cond.sameMethod x.cls owner x.name x.desc ∈ FT ∧ Cond.instanceMethod ⟨owner, x.name, x.desc⟩ ∈ FT ∧ Cond.selects C x M'.1 ∈ FT ∧ Cond.instanceMethod M'.1 ∈ FT ∧ Cond.initialized M'.1.cls ∈ FT ∧ Cond.code M'.1 M'.2.1 M'.2.2.1 M'.2.2.2 ∈ FT ∧ (∃ b0 m0 r0, Cond.code ⟨owner, x.name, x.desc⟩ b0 m0 r0 ∈ FT) ∧ (owner ≠ "java/lang/invoke/MethodHandle" ∧ owner ≠ "java/lang/invoke/VarHandle" ∧ (parseMethodDescriptor x.desc).map (fun d => d.parameters.length) = some n) ∧ M'.2.2.1 ≤ 40
theorem ev_callU (hC : Cok G M d X) {ci N : Nat} {C owner : String} {x : MethodName} {T : u_T} {fs : List Value} {st0 : List Value} (cv : CU M.1.cls idx C owner x M' n) (hM : Mth G M' d' mc ms (.ref b :: As) wc ro Q') (hd : d' + 1 ≤ d) (hst : st0 = As.reverse ++ .ref b :: st) (hn : As.length = n) (hcat : (st.map fun v => v.category).sum ≤ 8) (hws : ws.Perm (wc ++ wf)) (he : (b, ob ci fs) ∈ ws ++ ro) (hci : vwCl[ci]? = some (C, T, N)) (hdg : decode M.2.1 pc = .ok (.invokevirtual idx, 3)) (hbc : mc ≤ bc) (hbs : ms ≤ bs) (kk : ∀ (r : Option Value) (ws' ro' : va_W), Q' r ws' ro' → Ev G X (bc - mc) (bs - ms) (pc + 3) lv (r.toList ++ st) (ws' ++ wf) ro') : Ev G X bc bs pc lv st0 ws ro := by
  intro H locs cells slots ls hP hD hS hc hs hl
  obtain ⟨c1, c2, c3, c4, c5, c6, c7, ⟨b0, m0, r0, c8⟩, c9, c10⟩ := cv
  exact q_cont (wf := wf) (va_runU (C := C) (owner := owner) (x := x) (q_fix hC) (hM (xL X) (wf ++ xW X)) (va_cwO n hC.t (ft_goodIn (fun _ h => h) _ (fun w hw => by
    rcases List.mem_append.mp hw with h | h
    · simp only [List.mem_cons, List.not_mem_nil, or_false] at h
      rcases h with rfl | rfl | rfl | rfl | rfl | rfl
      · exact c1
      · exact c2
      · exact c3
      · exact c4
      · exact c5
      · exact c6
    · exact ws_in c7 w h)) rfl rfl rfl c8 c9 (q_room hC hd c10)) ⟨q_blind, q_recv hC hP hci he, q_pre hC hP hD hS hws⟩ rfl hn hl.1 hst (lv_room hcat) hdg ⟨by omega, by omega⟩) hS hc hs hbc hbs hl kk
/-- super.m(..) -/
def CS (own : String) (idx : Nat) (M' : MI) (n : Nat) : Prop := Cond.methodLink own idx M'.1 ∈ FT ∧ Cond.sameMethod M'.1.cls M'.1.cls M'.1.name M'.1.desc ∈ FT ∧ Cond.superclass own M'.1.cls ∈ FT ∧ Cond.instanceMethod M'.1 ∈ FT ∧ Cond.initialized M'.1.cls ∈ FT ∧ Cond.code M'.1 M'.2.1 M'.2.2.1 M'.2.2.2 ∈ FT ∧ (M'.1.name ≠ "<init>" ∧ (parseMethodDescriptor M'.1.desc).map (fun d => d.parameters.length) = some n) ∧ M'.2.2.1 ≤ 40
theorem ev_callSU (hC : Cok G M d X) {ci N : Nat} {C : String} {T : u_T} {fs : List Value} {st0 : List Value} (cv : CS M.1.cls idx M' n) (hM : Mth G M' d' mc ms (.ref b :: As) wc ro Q') (hd : d' + 1 ≤ d) (hst : st0 = As.reverse ++ .ref b :: st) (hn : As.length = n) (hcat : (st.map fun v => v.category).sum ≤ 8) (hws : ws.Perm (wc ++ wf)) (he : (b, ob ci fs) ∈ ws ++ ro) (hci : vwCl[ci]? = some (C, T, N)) (hdg : decode M.2.1 pc = .ok (.invokespecial idx, 3)) (hbc : mc ≤ bc) (hbs : ms ≤ bs) (kk : ∀ (r : Option Value) (ws' ro' : va_W), Q' r ws' ro' → Ev G X (bc - mc) (bs - ms) (pc + 3) lv (r.toList ++ st) (ws' ++ wf) ro') : Ev G X bc bs pc lv st0 ws ro := by
  intro H locs cells slots ls hP hD hS hc hs hl
  obtain ⟨c1, c2, c3, c4, c5, c6, c7, c8⟩ := cv
  exact q_cont (wf := wf) (va_runSU (hC.k.1.1 ci _ hci).2 (q_fix hC) (hM (xL X) (wf ++ xW X)) (va_cwSU n hC.t (ft_goodIn (fun _ h => h) _ (fun w hw => by
    rcases List.mem_append.mp hw with h | h
    · simp only [List.mem_cons, List.not_mem_nil, or_false] at h
      rcases h with rfl | rfl | rfl | rfl | rfl
      · exact c1
      · exact c2
      · exact c3
      · exact c4
      · exact c5
    · exact ws_in c6 w h)) rfl rfl rfl c7 (q_room hC hd c8)) ⟨q_blind, q_recv hC hP hci he, q_pre hC hP hD hS hws⟩ rfl hn hl.1 hst (lv_room hcat) hdg ⟨by omega, by omega⟩) hS hc hs hbc hbs hl kk
/-- a nest mate's static method, a nest mate's constructor -/
def CN (own : String) (idx : Nat) (M' : MI) (n : Nat) : Prop := (own, idx, M'.1, "SaltPeace") ∈ nestRefs ∧ Cond.initialized M'.1.cls ∈ FT ∧ Cond.code M'.1 M'.2.1 M'.2.2.1 M'.2.2.2 ∈ FT ∧ (M'.1.cls ≠ "java/lang/invoke/MethodHandle" ∧ M'.1.cls ≠ "java/lang/invoke/VarHandle" ∧ (parseMethodDescriptor M'.1.desc).map (fun d => d.parameters.length) = some n) ∧ M'.2.2.1 ≤ 40
theorem ev_callSN (hC : Cok G M d X) {st0 : List Value} (cv : CN M.1.cls idx M' n) (hst2 : Cond.static M'.1 ∈ FT) (hM : Mth G M' d' mc ms As wc ro Q') (hd : d' + 1 ≤ d) (hst : st0 = As.reverse ++ st) (hn : As.length = n) (hcat : (st.map fun v => v.category).sum ≤ 8) (hws : ws.Perm (wc ++ wf)) (hdg : decode M.2.1 pc = .ok (.invokestatic idx, 3)) (hbc : mc ≤ bc) (hbs : ms ≤ bs) (kk : ∀ (r : Option Value) (ws' ro' : va_W), Q' r ws' ro' → Ev G X (bc - mc) (bs - ms) (pc + 3) lv (r.toList ++ st) (ws' ++ wf) ro') : Ev G X bc bs pc lv st0 ws ro := by
  intro H locs cells slots ls hP hD hS hc hs hl
  obtain ⟨c1, c2, c3, c4, c5⟩ := cv
  exact q_cont (wf := wf) (va_runSN (q_fix hC) (hM (xL X) (wf ++ xW X)) ⟨va_cnB n hC.t (ft_goodIn (fun _ h => h) _ (ws_in c3)) rfl rfl rfl (hC.k.2.2.2.2.2.2.1 _ c1) (hC.t _ c2) c4 (q_room hC hd c5), hC.t _ hst2, trivial⟩ ⟨q_blind, q_pre hC hP hD hS hws⟩ rfl hn hl.1 hst (lv_room hcat) hdg ⟨by omega, by omega⟩) hS hc hs hbc hbs hl kk
theorem ev_callIN (hC : Cok G M d X) {st0 : List Value} (cv : CN M.1.cls idx M' n) (hin : Cond.instanceMethod M'.1 ∈ FT) (hi : M'.1.name = "<init>") (hre : M'.2.2.2 = none) (hM : Mth G M' d' mc ms (.ref b :: As) wc ro Q') (hd : d' + 1 ≤ d) (hst : st0 = As.reverse ++ .ref b :: st) (hn : As.length = n) (hcat : (st.map fun v => v.category).sum ≤ 8) (hws : ws.Perm (wc ++ wf)) (hdg : decode M.2.1 pc = .ok (.invokespecial idx, 3)) (hbc : mc ≤ bc) (hbs : ms ≤ bs) (kk : ∀ (r : Option Value) (ws' ro' : va_W), Q' r ws' ro' → Ev G X (bc - mc) (bs - ms) (pc + 3) lv (r.toList ++ st) (ws' ++ wf) ro') : Ev G X bc bs pc lv st0 ws ro := by
  intro H locs cells slots ls hP hD hS hc hs hl
  obtain ⟨c1, c2, c3, c4, c5⟩ := cv
  rw [hre] at c3
  exact q_cont (wf := wf) (va_runIN (bytes := M'.2.1) (maxL := M'.2.2.1) (q_fix hC) (hM (xL X) (wf ++ xW X)) ⟨va_cnB n hC.t (ft_goodIn (fun _ h => h) _ (ws_in (by rw [hre]; exact c3))) (by unfold wsOf; rw [hre]) rfl rfl (hC.k.2.2.2.2.2.2.1 _ c1) (hC.t _ c2) c4 (q_room hC hd c5), hi, hC.t _ hin⟩ ⟨q_blind, q_pre hC hP hD hS hws⟩ rfl hn hl.1 hst (lv_room hcat) hdg ⟨by omega, by omega⟩) hS hc hs hbc hbs hl kk
end ECall
