/-- the tape that the reference reads: T, e signs -/
abbrev TPE (S T : Nat → Int32) (e : Nat) : Prop := e ≤ 100 ∧ ∀ i, i < e → S (122 + i) = T i

set_option maxHeartbeats 4000000 in
set_option maxRecDepth 100000 in
theorem m_X12_here (G : GG) (ro : va_W) (a : Nat → Nat) (S I F B T R K D : Nat → Int32) (hI ac sp en iw op mu rd ra ki nu tv : Int32) (T : Nat → Int32) (e p : Nat) (hT : TPE S T e) (hp : p ≤ e) : Mth G M_X12_here 0 0 0 [.ref (a 0)] (MW G a S I F B T R K D hI ac (nI p) (nI e) iw op mu rd ra ki nu tv) ro (fun r ws' ro' => r = some (.int (hrF T e p)) ∧ ws' = (MW G a S I F B T R K D hI ac (nI p) (nI e) iw op mu rd ra ki nu tv) ∧ ro = ro') := by
  refine mth_of (by decide +kernel) (Nat.le_of_ble_eq_true rfl) (fun X hC hR => ?_)
  obtain ⟨he, hTe⟩ := hT
  show Ev G X 0 0 0 [(0, .ref (a 0))] [] (MW G a S I F B T R K D hI ac (nI p) (nI e) iw op mu rd ra ki nu tv) ro
  refine ev_aload_n hC dX12_here_0 rfl 0 rfl ?_
  refine ev_get hC fl_X12_48_12 (mw 0 rfl) rfl dX12_here_1 ?_
  refine ev_aload_n hC dX12_here_4 rfl 0 rfl ?_
  refine ev_get hC fl_X12_51_12 (mw 0 rfl) rfl dX12_here_5 ?_
  refine ev_icmp_geN (tgt := 26) hC dX12_here_8 (by decide) (by omega) (by omega) (fun c_1 => ?_) (fun c_1 => ?_)
  · refine ev_iconst (v := (-1)) hC dX12_here_26 (by decide) ?_
    refine ev_iret hC hR rfl dX12_here_27 ?_
    have er : hrF T e p = -1 := if_neg (by omega)
    exact ⟨by rw [er], rfl, rfl⟩
  · refine ev_aload_n hC dX12_here_11 rfl 0 rfl ?_
    refine ev_get hC fl_X12_9_12 (mw 0 rfl) rfl dX12_here_12 ?_
    refine ev_bipush (v := (nI 122)) hC dX12_here_15 (by decide) ?_
    refine ev_aload_n hC dX12_here_17 rfl 0 rfl ?_
    refine ev_get hC fl_X12_48_12 (mw 0 rfl) rfl dX12_here_18 ?_
    refine ev_iadd hC dX12_here_21 ?_
    refine ev_top (y := (nI (122 + p))) ((nI_add _ _).trans (congrArg nI (by omega))) ?_
    refine ev_ialdN (i := 122 + p) hC (mw 1 rfl) (by omega) (by omega) dX12_here_22 ?_
    refine ev_goto (tgt := 27) hC dX12_here_23 (by decide) ?_
    refine ev_iret hC hR rfl dX12_here_27 ?_
    have er : hrF T e p = (S (122 + p)) := (if_pos (by omega)).trans (hTe p (by omega)).symm
    exact ⟨by rw [er], rfl, rfl⟩

set_option maxHeartbeats 4000000 in
set_option maxRecDepth 100000 in
theorem m_X12_must (G : GG) (ro : va_W) (a : Nat → Nat) (S I F B T R K D : Nat → Int32) (hI ac sp en iw op mu rd ra ki nu tv : Int32) (T : Nat → Int32) (e p : Nat) (c : Nat) (hT : TPE S T e) (hp : p ≤ e) : Mth G M_X12_must 1 0 0 [.ref (a 0), .int (nI c)] (MW G a S I F B T R K D hI ac (nI p) (nI e) (nI 0) op mu rd ra ki nu tv) ro (fun r ws' ro' => ∃ (w' : Int32), ∃ (p' : Nat), ((w' = nI 0 ∧ p' = p + 1 ∧ hrF T e p = nI c) ∨ (w' = nI 1 ∧ p' = p ∧ ¬ hrF T e p = nI c)) ∧ r = none ∧ ws' = (MW G a S I F B T R K D hI ac (nI p') (nI e) w' op mu rd ra ki nu tv) ∧ ro = ro') := by
  refine mth_of (by decide +kernel) (Nat.le_of_ble_eq_true rfl) (fun X hC hR => ?_)
  obtain ⟨he, hTe⟩ := hT
  show Ev G X 0 0 0 [(0, .ref (a 0)), (1, .int (nI c))] [] (MW G a S I F B T R K D hI ac (nI p) (nI e) (nI 0) op mu rd ra ki nu tv) ro
  refine ev_aload_n hC dX12_must_0 rfl 0 rfl ?_
  refine ev_aload_n hC dX12_must_1 rfl 0 rfl ?_
  refine ev_get hC fl_X12_54_12 (mw 0 rfl) rfl dX12_must_2 ?_
  refine ev_if_neN (tgt := 16) hC dX12_must_5 (by decide) (by omega) (fun c_1 => absurd c_1 (by omega)) (fun c_1 => ?_)
  refine ev_aload_n hC dX12_must_8 rfl 0 rfl ?_
  refine ev_callV (As := []) (st := [.ref (a 0)]) (wf := []) hC cv_X12_58 (m_X12_here G ro a S I F B T R K D hI ac (nI p) (nI e) (nI 0) op mu rd ra ki nu tv T e p ⟨he, hTe⟩ (by omega)) (by decide) rfl rfl (Nat.le_of_ble_eq_true rfl) (List.Perm.of_eq (List.append_nil _).symm) (mw 0 rfl) rfl dX12_must_9 (by decide) (by decide) ?_
  rintro _ _ _ ⟨rfl, rfl, rfl⟩
  refine ev_ws (List.append_nil _) ?_
  show Ev G X 0 0 12 [(0, .ref (a 0)), (1, .int (nI c))] [.int (hrF T e p), .ref (a 0)] (MW G a S I F B T R K D hI ac (nI p) (nI e) (nI 0) op mu rd ra ki nu tv) ro
  refine ev_iload_n hC dX12_must_12 rfl 1 rfl ?_
  refine ev_icmp_eq (tgt := 20) hC dX12_must_13 (by decide) (fun c_2 => ?_) (fun c_2 => ?_)
  · refine ev_iconst (v := (nI 0)) hC dX12_must_20 (by decide) ?_
    refine ev_put (ws' := (MW G a S I F B T R K D hI ac (nI p) (nI e) (nI 0) op mu rd ra ki nu tv)) (q0 := 0) hC fp_X12_54_12 rfl (Nat.le_of_ble_eq_true rfl) (nar_01 (by decide)).1 (nar_01 (by decide)).2.1 rfl dX12_must_21 ?_
    refine ev_aload_n hC dX12_must_24 rfl 0 rfl ?_
    refine ev_dup hC dX12_must_25 rfl ?_
    refine ev_get hC fl_X12_48_12 (mw 0 rfl) rfl dX12_must_26 ?_
    refine ev_aload_n hC dX12_must_29 rfl 0 rfl ?_
    refine ev_get hC fl_X12_54_12 (mw 0 rfl) rfl dX12_must_30 ?_
    refine ev_if_eqN (tgt := 40) hC dX12_must_33 (by decide) (by omega) (fun c_3 => ?_) (fun c_3 => absurd c_3 (by omega))
    refine ev_iconst (v := (nI 1)) hC dX12_must_40 (by decide) ?_
    refine ev_iadd hC dX12_must_41 ?_
    refine ev_top (y := (nI (p + 1))) ((nI_add _ _).trans (congrArg nI (by omega))) ?_
    refine ev_put (ws' := (MW G a S I F B T R K D hI ac (nI (p + 1)) (nI e) (nI 0) op mu rd ra ki nu tv)) (q0 := 0) hC fp_X12_48_12 rfl (Nat.le_of_ble_eq_true rfl) rfl rfl rfl dX12_must_42 ?_
    refine ev_vret hC hR rfl dX12_must_45 ?_
    exact ⟨_, _, Or.inl ⟨rfl, rfl, by assumption⟩, rfl, rfl, rfl⟩
  · refine ev_iconst (v := (nI 1)) hC dX12_must_16 (by decide) ?_
    refine ev_goto (tgt := 21) hC dX12_must_17 (by decide) ?_
    refine ev_put (ws' := (MW G a S I F B T R K D hI ac (nI p) (nI e) (nI 1) op mu rd ra ki nu tv)) (q0 := 0) hC fp_X12_54_12 rfl (Nat.le_of_ble_eq_true rfl) (nar_01 (by decide)).1 (nar_01 (by decide)).2.1 rfl dX12_must_21 ?_
    refine ev_aload_n hC dX12_must_24 rfl 0 rfl ?_
    refine ev_dup hC dX12_must_25 rfl ?_
    refine ev_get hC fl_X12_48_12 (mw 0 rfl) rfl dX12_must_26 ?_
    refine ev_aload_n hC dX12_must_29 rfl 0 rfl ?_
    refine ev_get hC fl_X12_54_12 (mw 0 rfl) rfl dX12_must_30 ?_
    refine ev_if_eqN (tgt := 40) hC dX12_must_33 (by decide) (by omega) (fun c_4 => absurd c_4 (by omega)) (fun c_4 => ?_)
    refine ev_iconst (v := (nI 0)) hC dX12_must_36 (by decide) ?_
    refine ev_goto (tgt := 41) hC dX12_must_37 (by decide) ?_
    refine ev_iadd hC dX12_must_41 ?_
    refine ev_top (y := (nI p)) ((nI_add _ _).trans (congrArg nI (by omega))) ?_
    refine ev_put (ws' := (MW G a S I F B T R K D hI ac (nI p) (nI e) (nI 1) op mu rd ra ki nu tv)) (q0 := 0) hC fp_X12_48_12 rfl (Nat.le_of_ble_eq_true rfl) rfl rfl rfl dX12_must_42 ?_
    refine ev_vret hC hR rfl dX12_must_45 ?_
    exact ⟨_, _, Or.inr ⟨rfl, rfl, by assumption⟩, rfl, rfl, rfl⟩

set_option maxHeartbeats 4000000 in
set_option maxRecDepth 100000 in
theorem m_X12_mustw (G : GG) (ro : va_W) (a : Nat → Nat) (S I F B T R K D : Nat → Int32) (hI ac sp en iw op mu rd ra ki nu tv : Int32) (c p : Nat)  : Mth G M_X12_must 1 0 0 [.ref (a 0), .int (nI c)] (MW G a S I F B T R K D hI ac (nI p) en (nI 1) op mu rd ra ki nu tv) ro (fun r ws' ro' => r = none ∧ ws' = (MW G a S I F B T R K D hI ac (nI p) en (nI 1) op mu rd ra ki nu tv) ∧ ro = ro') := by
  refine mth_of (by decide +kernel) (Nat.le_of_ble_eq_true rfl) (fun X hC hR => ?_)
  show Ev G X 0 0 0 [(0, .ref (a 0)), (1, .int (nI c))] [] (MW G a S I F B T R K D hI ac (nI p) en (nI 1) op mu rd ra ki nu tv) ro
  refine ev_aload_n hC dX12_must_0 rfl 0 rfl ?_
  refine ev_aload_n hC dX12_must_1 rfl 0 rfl ?_
  refine ev_get hC fl_X12_54_12 (mw 0 rfl) rfl dX12_must_2 ?_
  refine ev_if_neN (tgt := 16) hC dX12_must_5 (by decide) (by omega) (fun c_1 => ?_) (fun c_1 => absurd c_1 (by omega))
  refine ev_iconst (v := (nI 1)) hC dX12_must_16 (by decide) ?_
  refine ev_goto (tgt := 21) hC dX12_must_17 (by decide) ?_
  refine ev_put (ws' := (MW G a S I F B T R K D hI ac (nI p) en (nI 1) op mu rd ra ki nu tv)) (q0 := 0) hC fp_X12_54_12 rfl (Nat.le_of_ble_eq_true rfl) (nar_01 (by decide)).1 (nar_01 (by decide)).2.1 rfl dX12_must_21 ?_
  refine ev_aload_n hC dX12_must_24 rfl 0 rfl ?_
  refine ev_dup hC dX12_must_25 rfl ?_
  refine ev_get hC fl_X12_48_12 (mw 0 rfl) rfl dX12_must_26 ?_
  refine ev_aload_n hC dX12_must_29 rfl 0 rfl ?_
  refine ev_get hC fl_X12_54_12 (mw 0 rfl) rfl dX12_must_30 ?_
  refine ev_if_eqN (tgt := 40) hC dX12_must_33 (by decide) (by omega) (fun c_2 => absurd c_2 (by omega)) (fun c_2 => ?_)
  refine ev_iconst (v := (nI 0)) hC dX12_must_36 (by decide) ?_
  refine ev_goto (tgt := 41) hC dX12_must_37 (by decide) ?_
  refine ev_iadd hC dX12_must_41 ?_
  refine ev_top (y := (nI p)) ((nI_add _ _).trans (congrArg nI (by omega))) ?_
  refine ev_put (ws' := (MW G a S I F B T R K D hI ac (nI p) en (nI 1) op mu rd ra ki nu tv)) (q0 := 0) hC fp_X12_48_12 rfl (Nat.le_of_ble_eq_true rfl) rfl rfl rfl dX12_must_42 ?_
  refine ev_vret hC hR rfl dX12_must_45 ?_
  exact ⟨rfl, rfl, rfl⟩
