/-! STRING CONSTANTS: calls on them, their letters -/
section EK
variable {G : GG} {M : MI} {d bc bs pc : Nat} {X : Cx} {lv : List (Nat × Value)} {st : List Value} {ws ro wc wf : va_W} {M' : MI} {d' mc ms : Nat} {n : Nat} {As : List Value} {Q' : Option Value → va_W → va_W → Prop}
theorem ev_callK {idx : Nat} (hC : Cok G M d X) {i : Nat} {st0 : List Value} (cv : CV M.1.cls idx M' n) (hcl : M'.1.cls = "java/lang/String") (hM : Mth G M' d' mc ms (.ref (gK G i) :: As) wc ro Q') (hd : d' + 1 ≤ d) (hst : st0 = As.reverse ++ .ref (gK G i) :: st) (hn : As.length = n) (hcat : (st.map fun v => v.category).sum ≤ 8) (hws : ws.Perm (wc ++ wf)) (hi : i < 12) (hdg : decode M.2.1 pc = .ok (.invokevirtual idx, 3)) (hbc : mc ≤ bc) (hbs : ms ≤ bs) (kk : ∀ (r : Option Value) (ws' ro' : va_W), Q' r ws' ro' → Ev G X (bc - mc) (bs - ms) (pc + 3) lv (r.toList ++ st) (ws' ++ wf) ro') : Ev G X bc bs pc lv st0 ws ro := by
  intro H locs cells slots ls hP hD hS hc hs hl
  obtain ⟨c1, c2, c3, c4, c5, c6, c7⟩ := cv
  exact q_cont (wf := wf) (va_runV (C := M'.1.cls) (q_fix hC) (hM (xL X) (wf ++ xW X)) (cwV n hC.t (ft_goodIn (fun _ h => h) _ (fun w hw => by
    rcases List.mem_append.mp hw with h | h
    · simp only [List.mem_cons, List.not_mem_nil, or_false] at h
      rcases h with rfl | rfl | rfl | rfl
      · exact c1
      · exact c2
      · exact c3
      · exact c4
    · exact ws_in c5 w h)) rfl rfl rfl ⟨rfl, c6⟩ (q_room hC hd c7)) ⟨q_blind, hcl ▸ vk_recv hC.k.2.2.1 hi hS, q_pre hC hP hD hS hws⟩ rfl hn hl.1 hst (lv_room hcat) hdg ⟨by omega, by omega⟩) hS hc hs hbc hbs hl kk
theorem ev_getsQ (hC : Cok G M d X) {idx : Nat} (hw : Cond.fieldLink M.1.cls idx "jdk/internal/util/Preconditions" "SIOOBE_FORMATTER" "Ljava/util/function/BiFunction;" ∈ FT) (hdg : decode M.2.1 pc = .ok (.getstatic idx, 3)) (kk : ∀ v : Value, (v = .null ∨ ∃ t : Nat, v = .ref t) → Ev G X bc bs (pc + 3) lv (v :: st) ws ro) : Ev G X bc bs pc lv st ws ro := by
  intro H locs cells slots ls hP hD hS hc hs hl
  rcases hC.k.2.2.2.2.2.1 with hz | ⟨t, hz⟩
  · exact va_gets hC.x hC.b hz hS hC.o (hC.t _ hw) (fun x hx => hx) hdg (kk _ (Or.inl rfl) H locs cells slots ls hP hD hS hc hs hl)
  · exact va_gets hC.x hC.b hz hS hC.o (hC.t _ hw) (fun x hx => hx) hdg (kk _ (Or.inr ⟨t, rfl⟩) H locs cells slots ls hP hD hS hc hs hl)
end EK
/-- letter j of String constant i -/
def chF (i j : Nat) : Int32 := (strByt.getD i []).getD j 0
theorem chF_get : ∀ i, i < 12 → ∀ j, j < strLen.getD i 0 → ((chF i j &&& nI 255).toUInt32 % 65536).toInt32 = chF i j := by decide +kernel
theorem chF_c : ∀ i, i < 12 → ∀ j, j < strLen.getD i 0 → ((chF i j).toUInt32 % 65536).toInt32 = chF i j := by decide +kernel
theorem chF_fits (i : Nat) (hi : i < 12) (j : Nat) (hj : j < strLen.getD i 0) : narrow .char (.int (chF i j)) = .int (chF i j) := congrArg Value.int (chF_c i hi j hj)
theorem strLen_le : ∀ i, i < 12 → strLen.getD i 0 ≤ 10 := by decide +kernel
