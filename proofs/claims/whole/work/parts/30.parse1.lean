/-- the tape that the reference reads: T, e signs -/
abbrev TPE (S T : Nat → Int32) (e : Nat) : Prop := e ≤ 100 ∧ ∀ i, i < e → S (122 + i) = T i

set_option maxHeartbeats 4000000 in
set_option maxRecDepth 100000 in
theorem m_X12_here (G : GG) (ro : va_W) (a : Nat → Nat) (S I F B T R K D : Nat → Int32) (hI ac sp en iw op mu rd ra ki nu tv : Int32) (Y : Nat → Int32) (e p : Nat) (hT : TPE S Y e) (hp : p ≤ e) : Mth G M_X12_here 0 0 0 [.ref (a 0)] (MW G a S I F B T R K D hI ac (nI p) (nI e) iw op mu rd ra ki nu tv) ro (fun r ws' ro' => r = some (.int (hrF Y e p)) ∧ ws' = (MW G a S I F B T R K D hI ac (nI p) (nI e) iw op mu rd ra ki nu tv) ∧ ro = ro') := by
  refine mth_of (by decide +kernel) (Nat.le_of_ble_eq_true rfl) (fun X hC hR => ?_)
  obtain ⟨he, hTe⟩ := hT
  show Ev G X 0 0 0 [(0, .ref (a 0))] [] (MW G a S I F B T R K D hI ac (nI p) (nI e) iw op mu rd ra ki nu tv) ro
  refine ev_aload_n hC dX12_here_0 rfl 0 rfl ?_
  refine ev_get hC fl_X12_48_12 (mw 0 rfl) rfl dX12_here_1 ?_
  refine ev_aload_n hC dX12_here_4 rfl 0 rfl ?_
  refine ev_get hC fl_X12_51_12 (mw 0 rfl) rfl dX12_here_5 ?_
  refine ev_icmp_geN (tgt := 26) hC dX12_here_8 (by decide) (by omega) (by omega) (fun c_1 => ?_) (fun c_1 => ?_)
  · refine ev_iconst (v := (-1)) hC dX12_here_26 (by decide) ?_
    refine ev_iret hC hR rfl dX12_here_27 ?_
    have er : hrF Y e p = -1 := if_neg (by omega)
    exact ⟨by rw [er], rfl, rfl⟩
  · refine ev_aload_n hC dX12_here_11 rfl 0 rfl ?_
    refine ev_get hC fl_X12_9_12 (mw 0 rfl) rfl dX12_here_12 ?_
    refine ev_bipush (v := (nI 122)) hC dX12_here_15 (by decide) ?_
    refine ev_aload_n hC dX12_here_17 rfl 0 rfl ?_
    refine ev_get hC fl_X12_48_12 (mw 0 rfl) rfl dX12_here_18 ?_
    refine ev_iadd hC dX12_here_21 ?_
    refine ev_top (y := (nI (122 + p))) ((nI_add _ _).trans (congrArg nI (by omega))) ?_
    refine ev_ialdN (i := 122 + p) hC (mw 1 rfl) (by omega) (by omega) dX12_here_22 ?_
    refine ev_goto (tgt := 27) hC dX12_here_23 (by decide) ?_
    refine ev_iret hC hR rfl dX12_here_27 ?_
    have er : hrF Y e p = (S (122 + p)) := (if_pos (by omega)).trans (hTe p (by omega)).symm
    exact ⟨by rw [er], rfl, rfl⟩

set_option maxHeartbeats 4000000 in
set_option maxRecDepth 100000 in
theorem m_X12_must (G : GG) (ro : va_W) (a : Nat → Nat) (S I F B T R K D : Nat → Int32) (hI ac sp en iw op mu rd ra ki nu tv : Int32) (Y : Nat → Int32) (e p : Nat) (c : Nat) (hT : TPE S Y e) (hp : p ≤ e) : Mth G M_X12_must 1 0 0 [.ref (a 0), .int (nI c)] (MW G a S I F B T R K D hI ac (nI p) (nI e) (nI 0) op mu rd ra ki nu tv) ro (fun r ws' ro' => ∃ (w' : Int32), ∃ (p' : Nat), ((w' = nI 0 ∧ p + 1 = p' ∧ hrF Y e p = nI c) ∨ (w' = nI 1 ∧ p = p' ∧ ¬ hrF Y e p = nI c)) ∧ r = none ∧ ws' = (MW G a S I F B T R K D hI ac (nI p') (nI e) w' op mu rd ra ki nu tv) ∧ ro = ro') := by
  refine mth_of (by decide +kernel) (Nat.le_of_ble_eq_true rfl) (fun X hC hR => ?_)
  obtain ⟨he, hTe⟩ := hT
  show Ev G X 0 0 0 [(0, .ref (a 0)), (1, .int (nI c))] [] (MW G a S I F B T R K D hI ac (nI p) (nI e) (nI 0) op mu rd ra ki nu tv) ro
  refine ev_aload_n hC dX12_must_0 rfl 0 rfl ?_
  refine ev_aload_n hC dX12_must_1 rfl 0 rfl ?_
  refine ev_get hC fl_X12_54_12 (mw 0 rfl) rfl dX12_must_2 ?_
  refine ev_if_neN (tgt := 16) hC dX12_must_5 (by decide) (by omega) (fun c_1 => absurd c_1 (by omega)) (fun c_1 => ?_)
  refine ev_aload_n hC dX12_must_8 rfl 0 rfl ?_
  refine ev_callV (As := []) (st := [.ref (a 0)]) (wf := []) hC cv_X12_58 (m_X12_here G ro a S I F B T R K D hI ac (nI p) (nI e) (nI 0) op mu rd ra ki nu tv Y e p ⟨he, hTe⟩ (by omega)) (by omega) rfl rfl (Nat.le_of_ble_eq_true rfl) (List.Perm.of_eq (List.append_nil _).symm) (mw 0 rfl) rfl dX12_must_9 (by decide) (by decide) ?_
  rintro _ _ _ ⟨rfl, rfl, rfl⟩
  refine ev_ws (List.append_nil _) ?_
  show Ev G X 0 0 12 [(0, .ref (a 0)), (1, .int (nI c))] [.int (hrF Y e p), .ref (a 0)] (MW G a S I F B T R K D hI ac (nI p) (nI e) (nI 0) op mu rd ra ki nu tv) ro
  refine ev_iload_n hC dX12_must_12 rfl 1 rfl ?_
  refine ev_icmp_eq (tgt := 20) hC dX12_must_13 (by decide) (fun c_2 => ?_) (fun c_2 => ?_)
  · refine ev_iconst (v := (nI 0)) hC dX12_must_20 (by decide) ?_
    refine ev_put (ws' := (MW G a S I F B T R K D hI ac (nI p) (nI e) (nI 0) op mu rd ra ki nu tv)) (q0 := 0) hC fp_X12_54_12 rfl (Nat.le_of_ble_eq_true rfl) (nar_01 (by decide)).1 (nar_01 (by decide)).2.1 rfl dX12_must_21 ?_
    refine ev_aload_n hC dX12_must_24 rfl 0 rfl ?_
    refine ev_dup hC dX12_must_25 rfl ?_
    refine ev_get hC fl_X12_48_12 (mw 0 rfl) rfl dX12_must_26 ?_
    refine ev_aload_n hC dX12_must_29 rfl 0 rfl ?_
    refine ev_get hC fl_X12_54_12 (mw 0 rfl) rfl dX12_must_30 ?_
    refine ev_if_eqN (tgt := 40) hC dX12_must_33 (by decide) (by omega) (fun c_3 => ?_) (fun c_3 => absurd c_3 (by omega))
    refine ev_iconst (v := (nI 1)) hC dX12_must_40 (by decide) ?_
    refine ev_iadd hC dX12_must_41 ?_
    refine ev_top (y := (nI (p + 1))) ((nI_add _ _).trans (congrArg nI (by omega))) ?_
    refine ev_put (ws' := (MW G a S I F B T R K D hI ac (nI (p + 1)) (nI e) (nI 0) op mu rd ra ki nu tv)) (q0 := 0) hC fp_X12_48_12 rfl (Nat.le_of_ble_eq_true rfl) rfl rfl rfl dX12_must_42 ?_
    refine ev_vret hC hR rfl dX12_must_45 ?_
    exact ⟨_, _, Or.inl ⟨rfl, rfl, by assumption⟩, rfl, rfl, rfl⟩
  · refine ev_iconst (v := (nI 1)) hC dX12_must_16 (by decide) ?_
    refine ev_goto (tgt := 21) hC dX12_must_17 (by decide) ?_
    refine ev_put (ws' := (MW G a S I F B T R K D hI ac (nI p) (nI e) (nI 1) op mu rd ra ki nu tv)) (q0 := 0) hC fp_X12_54_12 rfl (Nat.le_of_ble_eq_true rfl) (nar_01 (by decide)).1 (nar_01 (by decide)).2.1 rfl dX12_must_21 ?_
    refine ev_aload_n hC dX12_must_24 rfl 0 rfl ?_
    refine ev_dup hC dX12_must_25 rfl ?_
    refine ev_get hC fl_X12_48_12 (mw 0 rfl) rfl dX12_must_26 ?_
    refine ev_aload_n hC dX12_must_29 rfl 0 rfl ?_
    refine ev_get hC fl_X12_54_12 (mw 0 rfl) rfl dX12_must_30 ?_
    refine ev_if_eqN (tgt := 40) hC dX12_must_33 (by decide) (by omega) (fun c_4 => absurd c_4 (by omega)) (fun c_4 => ?_)
    refine ev_iconst (v := (nI 0)) hC dX12_must_36 (by decide) ?_
    refine ev_goto (tgt := 41) hC dX12_must_37 (by decide) ?_
    refine ev_iadd hC dX12_must_41 ?_
    refine ev_top (y := (nI p)) ((nI_add _ _).trans (congrArg nI (by omega))) ?_
    refine ev_put (ws' := (MW G a S I F B T R K D hI ac (nI p) (nI e) (nI 1) op mu rd ra ki nu tv)) (q0 := 0) hC fp_X12_48_12 rfl (Nat.le_of_ble_eq_true rfl) rfl rfl rfl dX12_must_42 ?_
    refine ev_vret hC hR rfl dX12_must_45 ?_
    exact ⟨_, _, Or.inr ⟨rfl, rfl, by assumption⟩, rfl, rfl, rfl⟩

set_option maxHeartbeats 4000000 in
set_option maxRecDepth 100000 in
theorem m_X12_mustw (G : GG) (ro : va_W) (a : Nat → Nat) (S I F B T R K D : Nat → Int32) (hI ac sp en iw op mu rd ra ki nu tv : Int32) (c p : Nat)  : Mth G M_X12_must 1 0 0 [.ref (a 0), .int (nI c)] (MW G a S I F B T R K D hI ac (nI p) en (nI 1) op mu rd ra ki nu tv) ro (fun r ws' ro' => r = none ∧ ws' = (MW G a S I F B T R K D hI ac (nI p) en (nI 1) op mu rd ra ki nu tv) ∧ ro = ro') := by
  refine mth_of (by decide +kernel) (Nat.le_of_ble_eq_true rfl) (fun X hC hR => ?_)
  show Ev G X 0 0 0 [(0, .ref (a 0)), (1, .int (nI c))] [] (MW G a S I F B T R K D hI ac (nI p) en (nI 1) op mu rd ra ki nu tv) ro
  refine ev_aload_n hC dX12_must_0 rfl 0 rfl ?_
  refine ev_aload_n hC dX12_must_1 rfl 0 rfl ?_
  refine ev_get hC fl_X12_54_12 (mw 0 rfl) rfl dX12_must_2 ?_
  refine ev_if_neN (tgt := 16) hC dX12_must_5 (by decide) (by omega) (fun c_1 => ?_) (fun c_1 => absurd c_1 (by omega))
  refine ev_iconst (v := (nI 1)) hC dX12_must_16 (by decide) ?_
  refine ev_goto (tgt := 21) hC dX12_must_17 (by decide) ?_
  refine ev_put (ws' := (MW G a S I F B T R K D hI ac (nI p) en (nI 1) op mu rd ra ki nu tv)) (q0 := 0) hC fp_X12_54_12 rfl (Nat.le_of_ble_eq_true rfl) (nar_01 (by decide)).1 (nar_01 (by decide)).2.1 rfl dX12_must_21 ?_
  refine ev_aload_n hC dX12_must_24 rfl 0 rfl ?_
  refine ev_dup hC dX12_must_25 rfl ?_
  refine ev_get hC fl_X12_48_12 (mw 0 rfl) rfl dX12_must_26 ?_
  refine ev_aload_n hC dX12_must_29 rfl 0 rfl ?_
  refine ev_get hC fl_X12_54_12 (mw 0 rfl) rfl dX12_must_30 ?_
  refine ev_if_eqN (tgt := 40) hC dX12_must_33 (by decide) (by omega) (fun c_2 => absurd c_2 (by omega)) (fun c_2 => ?_)
  refine ev_iconst (v := (nI 0)) hC dX12_must_36 (by decide) ?_
  refine ev_goto (tgt := 41) hC dX12_must_37 (by decide) ?_
  refine ev_iadd hC dX12_must_41 ?_
  refine ev_top (y := (nI p)) ((nI_add _ _).trans (congrArg nI (by omega))) ?_
  refine ev_put (ws' := (MW G a S I F B T R K D hI ac (nI p) en (nI 1) op mu rd ra ki nu tv)) (q0 := 0) hC fp_X12_48_12 rfl (Nat.le_of_ble_eq_true rfl) rfl rfl rfl dX12_must_42 ?_
  refine ev_vret hC hR rfl dX12_must_45 ?_
  exact ⟨rfl, rfl, rfl⟩

set_option maxHeartbeats 4000000 in
set_option maxRecDepth 100000 in
theorem m_X12_emits (G : GG) (ro : va_W) (a : Nat → Nat) (S I F B T R K D : Nat → Int32) (hI ac sp en iw op mu rd ra ki nu tv : Int32) (h m : Nat) (x : Int32) (hh : h ≤ 4) (hm : S (232 + h) = nI m) (hm2 : m ≤ 139) : Mth G M_X12_emits 0 0 0 [.ref (a 0), .int x] (MW G a S I F B T R K D hI (nI h) sp en (nI 0) op mu rd ra ki nu tv) ro (fun r ws' ro' => r = none ∧ ws' = (MW G a (upd (upd S (237 + 140 * h + m) x) (232 + h) (nI (m + 1))) I F B T R K D hI (nI h) sp en (nI 0) op mu rd ra ki nu tv) ∧ ro = ro') := by
  refine mth_of (by decide +kernel) (Nat.le_of_ble_eq_true rfl) (fun X hC hR => ?_)
  show Ev G X 0 0 0 [(0, .ref (a 0)), (1, .int x)] [] (MW G a S I F B T R K D hI (nI h) sp en (nI 0) op mu rd ra ki nu tv) ro
  refine ev_aload_n hC dX12_emits_0 rfl 0 rfl ?_
  refine ev_get hC fl_X12_54_12 (mw 0 rfl) rfl dX12_emits_1 ?_
  refine ev_if_neN (tgt := 56) hC dX12_emits_4 (by decide) (by omega) (fun c_1 => absurd c_1 (by omega)) (fun c_1 => ?_)
  refine ev_aload_n hC dX12_emits_7 rfl 0 rfl ?_
  refine ev_get hC fl_X12_9_12 (mw 0 rfl) rfl dX12_emits_8 ?_
  refine ev_sipush (v := (nI 237)) hC dX12_emits_11 (by decide) ?_
  refine ev_sipush (v := (nI 140)) hC dX12_emits_14 (by decide) ?_
  refine ev_aload_n hC dX12_emits_17 rfl 0 rfl ?_
  refine ev_get hC fl_X12_75_12 (mw 0 rfl) rfl dX12_emits_18 ?_
  refine ev_imul hC dX12_emits_21 ?_
  refine ev_top (y := (nI (140 * h))) (pk_mul _ _) ?_
  refine ev_iadd hC dX12_emits_22 ?_
  refine ev_top (y := (nI (237 + (140 * h)))) ((nI_add _ _).trans (congrArg nI (by omega))) ?_
  refine ev_aload_n hC dX12_emits_23 rfl 0 rfl ?_
  refine ev_get hC fl_X12_9_12 (mw 0 rfl) rfl dX12_emits_24 ?_
  refine ev_sipush (v := (nI 232)) hC dX12_emits_27 (by decide) ?_
  refine ev_aload_n hC dX12_emits_30 rfl 0 rfl ?_
  refine ev_get hC fl_X12_75_12 (mw 0 rfl) rfl dX12_emits_31 ?_
  refine ev_iadd hC dX12_emits_34 ?_
  refine ev_top (y := (nI (232 + h))) ((nI_add _ _).trans (congrArg nI (by omega))) ?_
  refine ev_ialdN (i := 232 + h) hC (mw 1 rfl) (by omega) (by omega) dX12_emits_35 ?_
  refine ev_top (y := (nI m)) hm ?_
  refine ev_iadd hC dX12_emits_36 ?_
  refine ev_top (y := (nI ((237 + (140 * h)) + m))) ((nI_add _ _).trans (congrArg nI (by omega))) ?_
  refine ev_iload_n hC dX12_emits_37 rfl 1 rfl ?_
  refine ev_iastN (i := (237 + (140 * h)) + m) (ws' := (MW G a (upd S ((237 + (140 * h)) + m) x) I F B T R K D hI (nI h) sp en (nI 0) op mu rd ra ki nu tv)) (q0 := 1) hC rfl (by omega) (by omega) rfl dX12_emits_38 ?_
  refine ev_aload_n hC dX12_emits_39 rfl 0 rfl ?_
  refine ev_get hC fl_X12_9_12 (mw 0 rfl) rfl dX12_emits_40 ?_
  refine ev_sipush (v := (nI 232)) hC dX12_emits_43 (by decide) ?_
  refine ev_aload_n hC dX12_emits_46 rfl 0 rfl ?_
  refine ev_get hC fl_X12_75_12 (mw 0 rfl) rfl dX12_emits_47 ?_
  refine ev_iadd hC dX12_emits_50 ?_
  refine ev_top (y := (nI (232 + h))) ((nI_add _ _).trans (congrArg nI (by omega))) ?_
  refine ev_dup2 hC dX12_emits_51 rfl rfl ?_
  refine ev_ialdN (i := 232 + h) hC (mw 1 rfl) (by omega) (by omega) dX12_emits_52 ?_
  refine ev_top (y := (S (232 + h))) (if_neg (by omega)) ?_
  refine ev_top (y := (nI m)) hm ?_
  refine ev_iconst (v := (nI 1)) hC dX12_emits_53 (by decide) ?_
  refine ev_iadd hC dX12_emits_54 ?_
  refine ev_top (y := (nI (m + 1))) ((nI_add _ _).trans (congrArg nI (by omega))) ?_
  refine ev_iastN (i := 232 + h) (ws' := (MW G a (upd (upd S ((237 + (140 * h)) + m) x) (232 + h) (nI (m + 1))) I F B T R K D hI (nI h) sp en (nI 0) op mu rd ra ki nu tv)) (q0 := 1) hC rfl (by omega) (by omega) rfl dX12_emits_55 ?_
  refine ev_vret hC hR rfl dX12_emits_56 ?_
  exact ⟨rfl, rfl, rfl⟩

set_option maxHeartbeats 4000000 in
set_option maxRecDepth 100000 in
theorem m_X12_emitsw (G : GG) (ro : va_W) (a : Nat → Nat) (S I F B T R K D : Nat → Int32) (hI ac sp en iw op mu rd ra ki nu tv : Int32) (x : Int32)  : Mth G M_X12_emits 0 0 0 [.ref (a 0), .int x] (MW G a S I F B T R K D hI ac sp en (nI 1) op mu rd ra ki nu tv) ro (fun r ws' ro' => r = none ∧ ws' = (MW G a S I F B T R K D hI ac sp en (nI 1) op mu rd ra ki nu tv) ∧ ro = ro') := by
  refine mth_of (by decide +kernel) (Nat.le_of_ble_eq_true rfl) (fun X hC hR => ?_)
  show Ev G X 0 0 0 [(0, .ref (a 0)), (1, .int x)] [] (MW G a S I F B T R K D hI ac sp en (nI 1) op mu rd ra ki nu tv) ro
  refine ev_aload_n hC dX12_emits_0 rfl 0 rfl ?_
  refine ev_get hC fl_X12_54_12 (mw 0 rfl) rfl dX12_emits_1 ?_
  refine ev_if_neN (tgt := 56) hC dX12_emits_4 (by decide) (by omega) (fun c_1 => ?_) (fun c_1 => absurd c_1 (by omega))
  refine ev_vret hC hR rfl dX12_emits_56 ?_
  exact ⟨rfl, rfl, rfl⟩

theorem fig_v {t : Nat → Int32} {e q : Nat} (a : Nat) (h : dgF t e q) : nI a + hrF t e q - nI 48 = nI (a + dvF t e q) := by
  rw [(dg_lt h).2.1, nI_add, pk_sub (by omega)]
  exact congrArg nI (by omega)

set_option maxHeartbeats 4000000 in
set_option maxRecDepth 100000 in
theorem m_X12_figures (G : GG) (ro : va_W) (a : Nat → Nat) (S I F B T R K D : Nat → Int32) (hI ac sp en iw op mu rd ra ki nu tv : Int32) (Y : Nat → Int32) (e p : Nat) (hT : TPE S Y e) (hp : p ≤ e) : Mth G M_X12_figures 1 0 0 [.ref (a 0)] (MW G a S I F B T R K D hI ac (nI p) (nI e) (nI 0) op mu rd ra ki nu tv) ro (fun r ws' ro' => ∃ (w' : Int32), ((w' = nI 0 ∧ (numF Y e p).1 = true) ∨ (w' = nI 1 ∧ (numF Y e p).1 = false)) ∧ r = some (.int (nI ((numF Y e p).2.2))) ∧ ws' = (MW G a S I F B T R K D hI ac (nI ((numF Y e p).2.1)) (nI e) w' op mu rd ra ki nu tv) ∧ ro = ro') := by
  refine mth_of (by decide +kernel) (Nat.le_of_ble_eq_true rfl) (fun X hC hR => ?_)
  obtain ⟨he, hTe⟩ := hT
  show Ev G X 0 0 0 [(0, .ref (a 0))] [] (MW G a S I F B T R K D hI ac (nI p) (nI e) (nI 0) op mu rd ra ki nu tv) ro
  refine ev_aload_n hC dX12_figures_0 rfl 0 rfl ?_
  refine ev_aload_n hC dX12_figures_1 rfl 0 rfl ?_
  refine ev_get hC fl_X12_54_12 (mw 0 rfl) rfl dX12_figures_2 ?_
  refine ev_if_neN (tgt := 22) hC dX12_figures_5 (by decide) (by omega) (fun c_1 => absurd c_1 (by omega)) (fun c_1 => ?_)
  refine ev_aload_n hC dX12_figures_8 rfl 0 rfl ?_
  refine ev_callV (As := []) (st := [.ref (a 0)]) (wf := []) hC cv_X12_58 (m_X12_here G ro a S I F B T R K D hI ac (nI p) (nI e) (nI 0) op mu rd ra ki nu tv Y e p ⟨he, hTe⟩ (by omega)) (by omega) rfl rfl (Nat.le_of_ble_eq_true rfl) (List.Perm.of_eq (List.append_nil _).symm) (mw 0 rfl) rfl dX12_figures_9 (by decide) (by decide) ?_
  rintro _ _ _ ⟨rfl, rfl, rfl⟩
  refine ev_ws (List.append_nil _) ?_
  show Ev G X 0 0 12 [(0, .ref (a 0))] [.int (hrF Y e p), .ref (a 0)] (MW G a S I F B T R K D hI ac (nI p) (nI e) (nI 0) op mu rd ra ki nu tv) ro
  refine ev_bipush (v := (nI 48)) hC dX12_figures_12 (by decide) ?_
  refine ev_bipush (v := (nI 57)) hC dX12_figures_14 (by decide) ?_
  refine ev_callS (As := [.int (hrF Y e p), .int (nI 48), .int (nI 57)]) (st := [.ref (a 0)]) (wc := []) (wf := (MW G a S I F B T R K D hI ac (nI p) (nI e) (nI 0) op mu rd ra ki nu tv)) hC ct_X12_44 (m_X12_in G ro (hrF Y e p) (nI 48) (nI 57)) (by decide) rfl rfl (Nat.le_of_ble_eq_true rfl) (List.Perm.refl _) dX12_figures_16 (by decide) (by decide) ?_
  rintro _ _ _ ⟨rfl, rfl, rfl⟩
  refine ev_ws (List.nil_append _) ?_
  show Ev G X 0 0 19 [(0, .ref (a 0))] [.int (bI ((nI 48) ≤ (hrF Y e p) ∧ (hrF Y e p) ≤ (nI 57))), .ref (a 0)] (MW G a S I F B T R K D hI ac (nI p) (nI e) (nI 0) op mu rd ra ki nu tv) ro
  refine ev_if_neB (tgt := 26) hC dX12_figures_19 (by decide) (fun c_2 => ?_) (fun c_2 => ?_)
  · refine ev_iconst (v := (nI 0)) hC dX12_figures_26 (by decide) ?_
    refine ev_put (ws' := (MW G a S I F B T R K D hI ac (nI p) (nI e) (nI 0) op mu rd ra ki nu tv)) (q0 := 0) hC fp_X12_54_12 rfl (Nat.le_of_ble_eq_true rfl) (nar_01 (by decide)).1 (nar_01 (by decide)).2.1 rfl dX12_figures_27 ?_
    refine ev_iconst (v := (nI 0)) hC dX12_figures_30 (by decide) ?_
    refine ev_istore_n (lv' := [(1, .int (nI 0)), (0, .ref (a 0))]) hC dX12_figures_31 rfl (by decide) rfl ?_
    refine ev_iconst (v := (nI 0)) hC dX12_figures_32 (by decide) ?_
    refine ev_istore_n (lv' := [(2, .int (nI 0)), (1, .int (nI 0)), (0, .ref (a 0))]) hC dX12_figures_33 rfl (by decide) rfl ?_
    refine ev_iload_n hC dX12_figures_34 rfl 0 rfl ?_
    refine ev_iconst (v := (nI 2)) hC dX12_figures_35 (by decide) ?_
    refine ev_icmp_geN (tgt := 97) hC dX12_figures_36 (by decide) (by omega) (by omega) (fun c_3 => absurd c_3 (by omega)) (fun c_3 => ?_)
    refine ev_aload_n hC dX12_figures_39 rfl 2 rfl ?_
    refine ev_get hC fl_X12_54_12 (mw 0 rfl) rfl dX12_figures_40 ?_
    refine ev_if_neN (tgt := 97) hC dX12_figures_43 (by decide) (by omega) (fun c_4 => absurd c_4 (by omega)) (fun c_4 => ?_)
    refine ev_aload_n hC dX12_figures_46 rfl 2 rfl ?_
    refine ev_callV (As := []) (st := []) (wf := []) hC cv_X12_58 (m_X12_here G ro a S I F B T R K D hI ac (nI p) (nI e) (nI 0) op mu rd ra ki nu tv Y e p ⟨he, hTe⟩ (by omega)) (by omega) rfl rfl (Nat.le_of_ble_eq_true rfl) (List.Perm.of_eq (List.append_nil _).symm) (mw 0 rfl) rfl dX12_figures_47 (by decide) (by decide) ?_
    rintro _ _ _ ⟨rfl, rfl, rfl⟩
    refine ev_ws (List.append_nil _) ?_
    show Ev G X 0 0 50 [(2, .int (nI 0)), (1, .int (nI 0)), (0, .ref (a 0))] [.int (hrF Y e p)] (MW G a S I F B T R K D hI ac (nI p) (nI e) (nI 0) op mu rd ra ki nu tv) ro
    refine ev_bipush (v := (nI 48)) hC dX12_figures_50 (by decide) ?_
    refine ev_bipush (v := (nI 57)) hC dX12_figures_52 (by decide) ?_
    refine ev_callS (As := [.int (hrF Y e p), .int (nI 48), .int (nI 57)]) (st := []) (wc := []) (wf := (MW G a S I F B T R K D hI ac (nI p) (nI e) (nI 0) op mu rd ra ki nu tv)) hC ct_X12_44 (m_X12_in G ro (hrF Y e p) (nI 48) (nI 57)) (by decide) rfl rfl (Nat.le_of_ble_eq_true rfl) (List.Perm.refl _) dX12_figures_54 (by decide) (by decide) ?_
    rintro _ _ _ ⟨rfl, rfl, rfl⟩
    refine ev_ws (List.nil_append _) ?_
    show Ev G X 0 0 57 [(2, .int (nI 0)), (1, .int (nI 0)), (0, .ref (a 0))] [.int (bI ((nI 48) ≤ (hrF Y e p) ∧ (hrF Y e p) ≤ (nI 57)))] (MW G a S I F B T R K D hI ac (nI p) (nI e) (nI 0) op mu rd ra ki nu tv) ro
    refine ev_if_eqB (tgt := 97) hC dX12_figures_57 (by decide) (fun c_5 => absurd c_5 (fun q => q c_2)) (fun c_5 => ?_)
    refine ev_iload_n hC dX12_figures_60 rfl 0 rfl ?_
    refine ev_if_eqN (tgt := 68) hC dX12_figures_61 (by decide) (by omega) (fun c_6 => ?_) (fun c_6 => absurd c_6 (by omega))
    refine ev_bipush (v := (nI 10)) hC dX12_figures_68 (by decide) ?_
    refine ev_iload_n hC dX12_figures_70 rfl 1 rfl ?_
    refine ev_imul hC dX12_figures_71 ?_
    refine ev_top (y := (nI 0)) (pk_mul _ _) ?_
    refine ev_aload_n hC dX12_figures_72 rfl 2 rfl ?_
    refine ev_callV (As := []) (st := [.int (nI 0)]) (wf := []) hC cv_X12_58 (m_X12_here G ro a S I F B T R K D hI ac (nI p) (nI e) (nI 0) op mu rd ra ki nu tv Y e p ⟨he, hTe⟩ (by omega)) (by omega) rfl rfl (Nat.le_of_ble_eq_true rfl) (List.Perm.of_eq (List.append_nil _).symm) (mw 0 rfl) rfl dX12_figures_73 (by decide) (by decide) ?_
    rintro _ _ _ ⟨rfl, rfl, rfl⟩
    refine ev_ws (List.append_nil _) ?_
    show Ev G X 0 0 76 [(2, .int (nI 0)), (1, .int (nI 0)), (0, .ref (a 0))] [.int (hrF Y e p), .int (nI 0)] (MW G a S I F B T R K D hI ac (nI p) (nI e) (nI 0) op mu rd ra ki nu tv) ro
    refine ev_iadd hC dX12_figures_76 ?_
    refine ev_bipush (v := (nI 48)) hC dX12_figures_77 (by decide) ?_
    refine ev_isub hC dX12_figures_79 ?_
    have dl := dg_lt (t := Y) (e := e) (p := p) (by assumption)
    refine ev_top (y := (nI (dvF Y e p))) ((fig_v 0 (by assumption)).trans (congrArg nI (Nat.zero_add _))) ?_
    refine ev_istore_n (lv' := [(1, .int (nI (dvF Y e p))), (2, .int (nI 0)), (0, .ref (a 0))]) hC dX12_figures_80 rfl (by decide) rfl ?_
    refine ev_aload_n hC dX12_figures_81 rfl 2 rfl ?_
    refine ev_dup hC dX12_figures_82 rfl ?_
    refine ev_get hC fl_X12_48_12 (mw 0 rfl) rfl dX12_figures_83 ?_
    refine ev_iconst (v := (nI 1)) hC dX12_figures_86 (by decide) ?_
    refine ev_iadd hC dX12_figures_87 ?_
    refine ev_top (y := (nI (p + 1))) ((nI_add _ _).trans (congrArg nI (by omega))) ?_
    refine ev_put (ws' := (MW G a S I F B T R K D hI ac (nI (p + 1)) (nI e) (nI 0) op mu rd ra ki nu tv)) (q0 := 0) hC fp_X12_48_12 rfl (Nat.le_of_ble_eq_true rfl) rfl rfl rfl dX12_figures_88 ?_
    refine ev_iinc (v := (nI 1)) (lv' := [(2, .int (nI 1)), (1, .int (nI (dvF Y e p))), (0, .ref (a 0))]) hC dX12_figures_91 (q := 1) rfl (nI_k _ _ 1 (by decide)) (by decide) rfl ?_
    refine ev_goto (tgt := 34) hC dX12_figures_94 (by decide) ?_
    refine ev_iload_n hC dX12_figures_34 rfl 0 rfl ?_
    refine ev_iconst (v := (nI 2)) hC dX12_figures_35 (by decide) ?_
    refine ev_icmp_geN (tgt := 97) hC dX12_figures_36 (by decide) (by omega) (by omega) (fun c_7 => absurd c_7 (by omega)) (fun c_7 => ?_)
    refine ev_aload_n hC dX12_figures_39 rfl 2 rfl ?_
    refine ev_get hC fl_X12_54_12 (mw 0 rfl) rfl dX12_figures_40 ?_
    refine ev_if_neN (tgt := 97) hC dX12_figures_43 (by decide) (by omega) (fun c_8 => absurd c_8 (by omega)) (fun c_8 => ?_)
    refine ev_aload_n hC dX12_figures_46 rfl 2 rfl ?_
    refine ev_callV (As := []) (st := []) (wf := []) hC cv_X12_58 (m_X12_here G ro a S I F B T R K D hI ac (nI (p + 1)) (nI e) (nI 0) op mu rd ra ki nu tv Y e (p + 1) ⟨he, hTe⟩ (by omega)) (by omega) rfl rfl (Nat.le_of_ble_eq_true rfl) (List.Perm.of_eq (List.append_nil _).symm) (mw 0 rfl) rfl dX12_figures_47 (by decide) (by decide) ?_
    rintro _ _ _ ⟨rfl, rfl, rfl⟩
    refine ev_ws (List.append_nil _) ?_
    show Ev G X 0 0 50 [(2, .int (nI 1)), (1, .int (nI (dvF Y e p))), (0, .ref (a 0))] [.int (hrF Y e (p + 1))] (MW G a S I F B T R K D hI ac (nI (p + 1)) (nI e) (nI 0) op mu rd ra ki nu tv) ro
    refine ev_bipush (v := (nI 48)) hC dX12_figures_50 (by decide) ?_
    refine ev_bipush (v := (nI 57)) hC dX12_figures_52 (by decide) ?_
    refine ev_callS (As := [.int (hrF Y e (p + 1)), .int (nI 48), .int (nI 57)]) (st := []) (wc := []) (wf := (MW G a S I F B T R K D hI ac (nI (p + 1)) (nI e) (nI 0) op mu rd ra ki nu tv)) hC ct_X12_44 (m_X12_in G ro (hrF Y e (p + 1)) (nI 48) (nI 57)) (by decide) rfl rfl (Nat.le_of_ble_eq_true rfl) (List.Perm.refl _) dX12_figures_54 (by decide) (by decide) ?_
    rintro _ _ _ ⟨rfl, rfl, rfl⟩
    refine ev_ws (List.nil_append _) ?_
    show Ev G X 0 0 57 [(2, .int (nI 1)), (1, .int (nI (dvF Y e p))), (0, .ref (a 0))] [.int (bI ((nI 48) ≤ (hrF Y e (p + 1)) ∧ (hrF Y e (p + 1)) ≤ (nI 57)))] (MW G a S I F B T R K D hI ac (nI (p + 1)) (nI e) (nI 0) op mu rd ra ki nu tv) ro
    refine ev_if_eqB (tgt := 97) hC dX12_figures_57 (by decide) (fun c_9 => ?_) (fun c_9 => ?_)
    · refine ev_iload_n hC dX12_figures_97 rfl 1 rfl ?_
      refine ev_iret hC hR rfl dX12_figures_98 ?_
      have en : numF Y e p = (true, p + 1, dvF Y e p) := by
        rw [numF, if_pos (by assumption)]
        by_cases z : dvF Y e p = 0
        · rw [if_pos z, z]
        · first | rw [if_neg z, if_neg (by assumption)] | exact absurd (by assumption) z
      exact ⟨_, Or.inl ⟨rfl, by rw [en]⟩, by rw [en], by rw [en], rfl⟩
    · refine ev_iload_n hC dX12_figures_60 rfl 0 rfl ?_
      refine ev_if_eqN (tgt := 68) hC dX12_figures_61 (by decide) (by omega) (fun c_10 => absurd c_10 (by omega)) (fun c_10 => ?_)
      refine ev_iload_n hC dX12_figures_64 rfl 1 rfl ?_
      refine ev_if_leN (tgt := 97) hC dX12_figures_65 (by decide) (by omega) (fun c_11 => ?_) (fun c_11 => ?_)
      · refine ev_iload_n hC dX12_figures_97 rfl 1 rfl ?_
        refine ev_iret hC hR rfl dX12_figures_98 ?_
        have en : numF Y e p = (true, p + 1, dvF Y e p) := by
          rw [numF, if_pos (by assumption)]
          by_cases z : dvF Y e p = 0
          · rw [if_pos z, z]
          · first | rw [if_neg z, if_neg (by assumption)] | exact absurd (by assumption) z
        exact ⟨_, Or.inl ⟨rfl, by rw [en]⟩, by rw [en], by rw [en], rfl⟩
      · refine ev_bipush (v := (nI 10)) hC dX12_figures_68 (by decide) ?_
        refine ev_iload_n hC dX12_figures_70 rfl 1 rfl ?_
        refine ev_imul hC dX12_figures_71 ?_
        refine ev_top (y := (nI (10 * (dvF Y e p)))) (pk_mul _ _) ?_
        refine ev_aload_n hC dX12_figures_72 rfl 2 rfl ?_
        refine ev_callV (As := []) (st := [.int (nI (10 * (dvF Y e p)))]) (wf := []) hC cv_X12_58 (m_X12_here G ro a S I F B T R K D hI ac (nI (p + 1)) (nI e) (nI 0) op mu rd ra ki nu tv Y e (p + 1) ⟨he, hTe⟩ (by omega)) (by omega) rfl rfl (Nat.le_of_ble_eq_true rfl) (List.Perm.of_eq (List.append_nil _).symm) (mw 0 rfl) rfl dX12_figures_73 (by decide) (by decide) ?_
        rintro _ _ _ ⟨rfl, rfl, rfl⟩
        refine ev_ws (List.append_nil _) ?_
        show Ev G X 0 0 76 [(2, .int (nI 1)), (1, .int (nI (dvF Y e p))), (0, .ref (a 0))] [.int (hrF Y e (p + 1)), .int (nI (10 * (dvF Y e p)))] (MW G a S I F B T R K D hI ac (nI (p + 1)) (nI e) (nI 0) op mu rd ra ki nu tv) ro
        refine ev_iadd hC dX12_figures_76 ?_
        refine ev_bipush (v := (nI 48)) hC dX12_figures_77 (by decide) ?_
        refine ev_isub hC dX12_figures_79 ?_
        have dl2 := dg_lt (t := Y) (e := e) (p := p + 1) (by assumption)
        refine ev_top (y := (nI (10 * dvF Y e p + dvF Y e (p + 1)))) (fig_v _ (by assumption)) ?_
        refine ev_istore_n (lv' := [(1, .int (nI (10 * dvF Y e p + dvF Y e (p + 1)))), (2, .int (nI 1)), (0, .ref (a 0))]) hC dX12_figures_80 rfl (by decide) rfl ?_
        refine ev_aload_n hC dX12_figures_81 rfl 2 rfl ?_
        refine ev_dup hC dX12_figures_82 rfl ?_
        refine ev_get hC fl_X12_48_12 (mw 0 rfl) rfl dX12_figures_83 ?_
        refine ev_iconst (v := (nI 1)) hC dX12_figures_86 (by decide) ?_
        refine ev_iadd hC dX12_figures_87 ?_
        refine ev_top (y := (nI (p + 2))) ((nI_add _ _).trans (congrArg nI (by omega))) ?_
        refine ev_put (ws' := (MW G a S I F B T R K D hI ac (nI (p + 2)) (nI e) (nI 0) op mu rd ra ki nu tv)) (q0 := 0) hC fp_X12_48_12 rfl (Nat.le_of_ble_eq_true rfl) rfl rfl rfl dX12_figures_88 ?_
        refine ev_iinc (v := (nI 2)) (lv' := [(2, .int (nI 2)), (1, .int (nI (10 * dvF Y e p + dvF Y e (p + 1)))), (0, .ref (a 0))]) hC dX12_figures_91 (q := 1) rfl (nI_k _ _ 1 (by decide)) (by decide) rfl ?_
        refine ev_goto (tgt := 34) hC dX12_figures_94 (by decide) ?_
        refine ev_iload_n hC dX12_figures_34 rfl 0 rfl ?_
        refine ev_iconst (v := (nI 2)) hC dX12_figures_35 (by decide) ?_
        refine ev_icmp_geN (tgt := 97) hC dX12_figures_36 (by decide) (by omega) (by omega) (fun c_12 => ?_) (fun c_12 => absurd c_12 (by omega))
        refine ev_iload_n hC dX12_figures_97 rfl 1 rfl ?_
        refine ev_iret hC hR rfl dX12_figures_98 ?_
        have en : numF Y e p = (true, p + 2, 10 * dvF Y e p + dvF Y e (p + 1)) := by
          rw [numF, if_pos (by assumption), if_neg (by omega), if_pos (by assumption)]
        exact ⟨_, Or.inl ⟨rfl, by rw [en]⟩, by rw [en], by rw [en], rfl⟩
  · refine ev_iconst (v := (nI 1)) hC dX12_figures_22 (by decide) ?_
    refine ev_goto (tgt := 27) hC dX12_figures_23 (by decide) ?_
    refine ev_put (ws' := (MW G a S I F B T R K D hI ac (nI p) (nI e) (nI 1) op mu rd ra ki nu tv)) (q0 := 0) hC fp_X12_54_12 rfl (Nat.le_of_ble_eq_true rfl) (nar_01 (by decide)).1 (nar_01 (by decide)).2.1 rfl dX12_figures_27 ?_
    refine ev_iconst (v := (nI 0)) hC dX12_figures_30 (by decide) ?_
    refine ev_istore_n (lv' := [(1, .int (nI 0)), (0, .ref (a 0))]) hC dX12_figures_31 rfl (by decide) rfl ?_
    refine ev_iconst (v := (nI 0)) hC dX12_figures_32 (by decide) ?_
    refine ev_istore_n (lv' := [(2, .int (nI 0)), (1, .int (nI 0)), (0, .ref (a 0))]) hC dX12_figures_33 rfl (by decide) rfl ?_
    refine ev_iload_n hC dX12_figures_34 rfl 0 rfl ?_
    refine ev_iconst (v := (nI 2)) hC dX12_figures_35 (by decide) ?_
    refine ev_icmp_geN (tgt := 97) hC dX12_figures_36 (by decide) (by omega) (by omega) (fun c_13 => absurd c_13 (by omega)) (fun c_13 => ?_)
    refine ev_aload_n hC dX12_figures_39 rfl 2 rfl ?_
    refine ev_get hC fl_X12_54_12 (mw 0 rfl) rfl dX12_figures_40 ?_
    refine ev_if_neN (tgt := 97) hC dX12_figures_43 (by decide) (by omega) (fun c_14 => ?_) (fun c_14 => absurd c_14 (by omega))
    refine ev_iload_n hC dX12_figures_97 rfl 1 rfl ?_
    refine ev_iret hC hR rfl dX12_figures_98 ?_
    have en : numF Y e p = (false, p, 0) := by
      rw [numF, if_neg (by assumption)]
    exact ⟨_, Or.inr ⟨rfl, by rw [en]⟩, by rw [en], by rw [en], rfl⟩

set_option maxHeartbeats 4000000 in
set_option maxRecDepth 100000 in
theorem m_X12_figuresw (G : GG) (ro : va_W) (a : Nat → Nat) (S I F B T R K D : Nat → Int32) (hI ac sp en iw op mu rd ra ki nu tv : Int32)   : Mth G M_X12_figures 1 0 0 [.ref (a 0)] (MW G a S I F B T R K D hI ac sp en (nI 1) op mu rd ra ki nu tv) ro (fun r ws' ro' => r = some (.int (nI 0)) ∧ ws' = (MW G a S I F B T R K D hI ac sp en (nI 1) op mu rd ra ki nu tv) ∧ ro = ro') := by
  refine mth_of (by decide +kernel) (Nat.le_of_ble_eq_true rfl) (fun X hC hR => ?_)
  show Ev G X 0 0 0 [(0, .ref (a 0))] [] (MW G a S I F B T R K D hI ac sp en (nI 1) op mu rd ra ki nu tv) ro
  refine ev_aload_n hC dX12_figures_0 rfl 0 rfl ?_
  refine ev_aload_n hC dX12_figures_1 rfl 0 rfl ?_
  refine ev_get hC fl_X12_54_12 (mw 0 rfl) rfl dX12_figures_2 ?_
  refine ev_if_neN (tgt := 22) hC dX12_figures_5 (by decide) (by omega) (fun c_1 => ?_) (fun c_1 => absurd c_1 (by omega))
  refine ev_iconst (v := (nI 1)) hC dX12_figures_22 (by decide) ?_
  refine ev_goto (tgt := 27) hC dX12_figures_23 (by decide) ?_
  refine ev_put (ws' := (MW G a S I F B T R K D hI ac sp en (nI 1) op mu rd ra ki nu tv)) (q0 := 0) hC fp_X12_54_12 rfl (Nat.le_of_ble_eq_true rfl) (nar_01 (by decide)).1 (nar_01 (by decide)).2.1 rfl dX12_figures_27 ?_
  refine ev_iconst (v := (nI 0)) hC dX12_figures_30 (by decide) ?_
  refine ev_istore_n (lv' := [(1, .int (nI 0)), (0, .ref (a 0))]) hC dX12_figures_31 rfl (by decide) rfl ?_
  refine ev_iconst (v := (nI 0)) hC dX12_figures_32 (by decide) ?_
  refine ev_istore_n (lv' := [(2, .int (nI 0)), (1, .int (nI 0)), (0, .ref (a 0))]) hC dX12_figures_33 rfl (by decide) rfl ?_
  refine ev_iload_n hC dX12_figures_34 rfl 0 rfl ?_
  refine ev_iconst (v := (nI 2)) hC dX12_figures_35 (by decide) ?_
  refine ev_icmp_geN (tgt := 97) hC dX12_figures_36 (by decide) (by omega) (by omega) (fun c_2 => absurd c_2 (by omega)) (fun c_2 => ?_)
  refine ev_aload_n hC dX12_figures_39 rfl 2 rfl ?_
  refine ev_get hC fl_X12_54_12 (mw 0 rfl) rfl dX12_figures_40 ?_
  refine ev_if_neN (tgt := 97) hC dX12_figures_43 (by decide) (by omega) (fun c_3 => ?_) (fun c_3 => absurd c_3 (by omega))
  refine ev_iload_n hC dX12_figures_97 rfl 1 rfl ?_
  refine ev_iret hC hR rfl dX12_figures_98 ?_
  exact ⟨rfl, rfl, rfl⟩

theorem fnd_t {k : Nat} {x : Int32} {f j : Nat} (hf : 0 < f) (c : x = chF k j) : fndF k x f j = some j := by
  obtain ⟨g, rfl⟩ : ∃ g, f = g + 1 := ⟨f - 1, by omega⟩
  exact if_pos c
theorem fnd_f {k : Nat} {x : Int32} {f j : Nat} (hf : 0 < f) (c : ¬ x = chF k j) : fndF k x f j = fndF k x (f - 1) (j + 1) := by
  obtain ⟨g, rfl⟩ : ∃ g, f = g + 1 := ⟨f - 1, by omega⟩
  exact if_neg c

set_option maxHeartbeats 4000000 in
set_option maxRecDepth 100000 in
theorem m_X12_among (G : GG) (ro : va_W) (a : Nat → Nat) (S I F B T R K D : Nat → Int32) (hI ac sp en iw op mu rd ra ki nu tv : Int32) (Y : Nat → Int32) (e p : Nat) (k : Nat) (hT : TPE S Y e) (hp : p ≤ e) (hk : k < 12) : Mth G M_X12_among 4 0 0 [.ref (a 0), .ref (gK G k)] (MW G a S I F B T R K D hI ac (nI p) (nI e) iw op mu rd ra ki nu tv) ro (fun r ws' ro' => ∃ (v' : Int32), ∃ (p' : Nat), ((∃ j, fndF k (hrF Y e p) (strLen.getD k 0) 0 = some j ∧ v' = nI j ∧ p + 1 = p') ∨ (fndF k (hrF Y e p) (strLen.getD k 0) 0 = none ∧ v' = -1 ∧ p = p')) ∧ r = some (.int v') ∧ ws' = (MW G a S I F B T R K D hI ac (nI p') (nI e) iw op mu rd ra ki nu tv) ∧ ro = ro') := by
  refine mth_of (by decide +kernel) (Nat.le_of_ble_eq_true rfl) (fun X hC hR => ?_)
  obtain ⟨he, hTe⟩ := hT
  have hlen := strLen_le k hk
  show Ev G X 0 0 0 [(0, .ref (a 0)), (1, .ref (gK G k))] [] (MW G a S I F B T R K D hI ac (nI p) (nI e) iw op mu rd ra ki nu tv) ro
  refine ev_iconst (v := (nI 0)) hC dX12_among_0 (by decide) ?_
  refine ev_istore_n (lv' := [(2, .int (nI 0)), (0, .ref (a 0)), (1, .ref (gK G k))]) hC dX12_among_1 rfl (by decide) rfl ?_
  have lp_2 : ∀ (fu_2 : Nat) (j : Nat) (hj : j ≤ strLen.getD k 0) (hb : fndF k (hrF Y e p) (strLen.getD k 0) 0 = fndF k (hrF Y e p) (strLen.getD k 0 - j) j) (hn : strLen.getD k 0 - j < fu_2), Ev G X 0 0 2 [(0, .ref (a 0)), (1, .ref (gK G k)), (2, .int (nI j))] [] (MW G a S I F B T R K D hI ac (nI p) (nI e) iw op mu rd ra ki nu tv) ro := by
    intro fu_2
    induction fu_2 with
    | zero => intro j hj hb hn; exact absurd hn (Nat.not_lt_zero _)
    | succ fu_2 ih =>
      intro j hj hb hn
      refine ev_iload_n hC dX12_among_2 rfl 2 rfl ?_
      refine ev_aload_n hC dX12_among_3 rfl 1 rfl ?_
      refine ev_callK (As := []) (st := [.int (nI j)]) (wc := []) (wf := (MW G a S I F B T R K D hI ac (nI p) (nI e) iw op mu rd ra ki nu tv)) hC cv_X12_62 rfl (m_J0_length_8abf5 G ro k (by omega)) (by decide) rfl rfl (Nat.le_of_ble_eq_true rfl) (List.Perm.refl _) (by omega) dX12_among_4 (by decide) (by decide) ?_
      rintro _ _ _ ⟨rfl, rfl, rfl⟩
      refine ev_ws (List.nil_append _) ?_
      show Ev G X 0 0 7 [(0, .ref (a 0)), (1, .ref (gK G k)), (2, .int (nI j))] [.int (nI (strLen.getD k 0)), .int (nI j)] (MW G a S I F B T R K D hI ac (nI p) (nI e) iw op mu rd ra ki nu tv) ro
      refine ev_icmp_geN (tgt := 40) hC dX12_among_7 (by decide) (by omega) (by omega) (fun c_1 => ?_) (fun c_1 => ?_)
      · refine ev_iconst (v := (-1)) hC dX12_among_40 (by decide) ?_
        refine ev_iret hC hR rfl dX12_among_41 ?_
        exact ⟨_, _, Or.inr ⟨by rw [hb, show strLen.getD k 0 - j = 0 by omega]; rfl, rfl, rfl⟩, rfl, rfl, rfl⟩
      · refine ev_aload_n hC dX12_among_10 rfl 0 rfl ?_
        refine ev_callV (As := []) (st := []) (wf := []) hC cv_X12_58 (m_X12_here G ro a S I F B T R K D hI ac (nI p) (nI e) iw op mu rd ra ki nu tv Y e p ⟨he, hTe⟩ (by omega)) (by omega) rfl rfl (Nat.le_of_ble_eq_true rfl) (List.Perm.of_eq (List.append_nil _).symm) (mw 0 rfl) rfl dX12_among_11 (by decide) (by decide) ?_
        rintro _ _ _ ⟨rfl, rfl, rfl⟩
        refine ev_ws (List.append_nil _) ?_
        show Ev G X 0 0 14 [(0, .ref (a 0)), (1, .ref (gK G k)), (2, .int (nI j))] [.int (hrF Y e p)] (MW G a S I F B T R K D hI ac (nI p) (nI e) iw op mu rd ra ki nu tv) ro
        refine ev_aload_n hC dX12_among_14 rfl 1 rfl ?_
        refine ev_iload_n hC dX12_among_15 rfl 2 rfl ?_
        refine ev_callK (As := [.int (nI j)]) (st := [.int (hrF Y e p)]) (wc := []) (wf := (MW G a S I F B T R K D hI ac (nI p) (nI e) iw op mu rd ra ki nu tv)) hC cv_X12_67 rfl (m_J0_charAt_5068e G ro k j (by omega) (by first | assumption | decide)) (by decide) rfl rfl (Nat.le_of_ble_eq_true rfl) (List.Perm.refl _) (by omega) dX12_among_16 (by decide) (by decide) ?_
        rintro _ _ _ ⟨rfl, rfl, rfl⟩
        refine ev_ws (List.nil_append _) ?_
        show Ev G X 0 0 19 [(0, .ref (a 0)), (1, .ref (gK G k)), (2, .int (nI j))] [.int (chF k j), .int (hrF Y e p)] (MW G a S I F B T R K D hI ac (nI p) (nI e) iw op mu rd ra ki nu tv) ro
        refine ev_icmp_ne (tgt := 34) hC dX12_among_19 (by decide) (fun c_2 => ?_) (fun c_2 => ?_)
        · refine ev_iinc (v := (nI (j + 1))) (lv' := [(2, .int (nI (j + 1))), (0, .ref (a 0)), (1, .ref (gK G k))]) hC dX12_among_34 (q := 2) rfl (nI_k _ _ 1 (by decide)) (by decide) rfl ?_
          refine ev_goto (tgt := 2) hC dX12_among_37 (by decide) ?_
          refine ev_lv [1, 2, 0] rfl ?_
          exact ih (j + 1) (by omega) (by rw [hb, fnd_f (by omega) (by assumption), show strLen.getD k 0 - (j + 1) = strLen.getD k 0 - j - 1 by omega]) (by omega)
        · refine ev_aload_n hC dX12_among_22 rfl 0 rfl ?_
          refine ev_dup hC dX12_among_23 rfl ?_
          refine ev_get hC fl_X12_48_12 (mw 0 rfl) rfl dX12_among_24 ?_
          refine ev_iconst (v := (nI 1)) hC dX12_among_27 (by decide) ?_
          refine ev_iadd hC dX12_among_28 ?_
          refine ev_top (y := (nI (p + 1))) ((nI_add _ _).trans (congrArg nI (by omega))) ?_
          refine ev_put (ws' := (MW G a S I F B T R K D hI ac (nI (p + 1)) (nI e) iw op mu rd ra ki nu tv)) (q0 := 0) hC fp_X12_48_12 rfl (Nat.le_of_ble_eq_true rfl) rfl rfl rfl dX12_among_29 ?_
          refine ev_iload_n hC dX12_among_32 rfl 2 rfl ?_
          refine ev_iret hC hR rfl dX12_among_33 ?_
          exact ⟨_, _, Or.inl ⟨j, hb.trans (fnd_t (by omega) (by assumption)), rfl, rfl⟩, rfl, rfl, rfl⟩
  refine ev_lv [1, 2, 0] rfl ?_
  exact lp_2 (strLen.getD k 0 - 0 + 1) 0 (by omega) rfl (Nat.lt_succ_self _)
