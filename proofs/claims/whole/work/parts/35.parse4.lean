set_option maxHeartbeats 4000000 in
set_option maxRecDepth 100000 in
theorem m_X12_factorw (G : GG) (ro : va_W) (a : Nat → Nat) (S I F B T R K D : Nat → Int32) (hI ac sp en iw op mu rd ra ki nu tv : Int32)  : Mth G M_X12_factor 0 0 0 [.ref (a 0)] (MW G a S I F B T R K D hI ac sp en (nI 1) op mu rd ra ki nu tv) ro (fun r ws' ro' => r = none ∧ ws' = (MW G a S I F B T R K D hI ac sp en (nI 1) op mu rd ra ki nu tv) ∧ ro = ro') := by
  refine mth_of (by decide +kernel) (Nat.le_of_ble_eq_true rfl) (fun X hC hR => ?_)
  show Ev G X 0 0 0 [(0, .ref (a 0))] [] (MW G a S I F B T R K D hI ac sp en (nI 1) op mu rd ra ki nu tv) ro
  refine ev_aload_n hC dX12_factor_0 rfl 0 rfl ?_
  refine ev_get hC fl_X12_54_12 (mw 0 rfl) rfl dX12_factor_1 ?_
  refine ev_if_eqN (tgt := 8) hC dX12_factor_4 (by decide) (by omega) (fun c_1 => absurd c_1 (by omega)) (fun c_1 => ?_)
  refine ev_vret hC hR rfl dX12_factor_7 ?_
  exact ⟨rfl, rfl, rfl⟩

set_option maxHeartbeats 4000000 in
set_option maxRecDepth 100000 in
theorem m_X12_everyw (G : GG) (ro : va_W) (a : Nat → Nat) (S I F B T R K D : Nat → Int32) (hI ac sp en iw op mu rd ra ki nu tv : Int32)  : Mth G M_X12_every 1 0 0 [.ref (a 0)] (MW G a S I F B T R K D hI ac sp en (nI 1) op mu rd ra ki nu tv) ro (fun r ws' ro' => r = none ∧ ws' = (MW G a S I F B T R K D hI ac sp en (nI 1) op mu rd ra ki nu tv) ∧ ro = ro') := by
  refine mth_of (by decide +kernel) (Nat.le_of_ble_eq_true rfl) (fun X hC hR => ?_)
  show Ev G X 0 0 0 [(0, .ref (a 0))] [] (MW G a S I F B T R K D hI ac sp en (nI 1) op mu rd ra ki nu tv) ro
  refine ev_aload_n hC dX12_every_0 rfl 0 rfl ?_
  refine ev_callV (As := []) (st := []) (wf := []) hC cv_X12_81 (m_X12_factorw G ro a S I F B T R K D hI ac sp en (nI 1) op mu rd ra ki nu tv) (by omega) rfl rfl (Nat.le_of_ble_eq_true rfl) (List.Perm.of_eq (List.append_nil _).symm) (mw 0 rfl) rfl dX12_every_1 (by decide) (by decide) ?_
  rintro _ _ _ ⟨rfl, rfl, rfl⟩
  refine ev_ws (List.append_nil _) ?_
  show Ev G X 0 0 4 [(0, .ref (a 0))] [] (MW G a S I F B T R K D hI ac sp en (nI 1) op mu rd ra ki nu tv) ro
  refine ev_aload_n hC dX12_every_4 rfl 0 rfl ?_
  refine ev_get hC fl_X12_54_12 (mw 0 rfl) rfl dX12_every_5 ?_
  refine ev_if_neN (tgt := 43) hC dX12_every_8 (by decide) (by omega) (fun c_1 => ?_) (fun c_1 => absurd c_1 (by omega))
  refine ev_vret hC hR rfl dX12_every_43 ?_
  exact ⟨rfl, rfl, rfl⟩

set_option maxHeartbeats 4000000 in
set_option maxRecDepth 100000 in
theorem m_X12_somew (G : GG) (ro : va_W) (a : Nat → Nat) (S I F B T R K D : Nat → Int32) (hI ac sp en iw op mu rd ra ki nu tv : Int32)  : Mth G M_X12_some 2 0 0 [.ref (a 0)] (MW G a S I F B T R K D hI ac sp en (nI 1) op mu rd ra ki nu tv) ro (fun r ws' ro' => r = none ∧ ws' = (MW G a S I F B T R K D hI ac sp en (nI 1) op mu rd ra ki nu tv) ∧ ro = ro') := by
  refine mth_of (by decide +kernel) (Nat.le_of_ble_eq_true rfl) (fun X hC hR => ?_)
  show Ev G X 0 0 0 [(0, .ref (a 0))] [] (MW G a S I F B T R K D hI ac sp en (nI 1) op mu rd ra ki nu tv) ro
  refine ev_aload_n hC dX12_some_0 rfl 0 rfl ?_
  refine ev_callV (As := []) (st := []) (wf := []) hC cv_X12_101 (m_X12_everyw G ro a S I F B T R K D hI ac sp en (nI 1) op mu rd ra ki nu tv) (by omega) rfl rfl (Nat.le_of_ble_eq_true rfl) (List.Perm.of_eq (List.append_nil _).symm) (mw 0 rfl) rfl dX12_some_1 (by decide) (by decide) ?_
  rintro _ _ _ ⟨rfl, rfl, rfl⟩
  refine ev_ws (List.append_nil _) ?_
  show Ev G X 0 0 4 [(0, .ref (a 0))] [] (MW G a S I F B T R K D hI ac sp en (nI 1) op mu rd ra ki nu tv) ro
  refine ev_aload_n hC dX12_some_4 rfl 0 rfl ?_
  refine ev_get hC fl_X12_54_12 (mw 0 rfl) rfl dX12_some_5 ?_
  refine ev_if_neN (tgt := 43) hC dX12_some_8 (by decide) (by omega) (fun c_1 => ?_) (fun c_1 => absurd c_1 (by omega))
  refine ev_vret hC hR rfl dX12_some_43 ?_
  exact ⟨rfl, rfl, rfl⟩
