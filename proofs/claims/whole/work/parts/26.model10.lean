set_option maxHeartbeats 4000000 in
set_option maxRecDepth 100000 in
theorem m_X12_ranBody (G : GG) (ro : va_W) (a : Nat → Nat) (S I F B T R K D : Nat → Int32) (hI ac sp en iw op mu rd ra ki nu tv : Int32) (rn : Nat) (b : Nat) (hr : rn < 20) : Mth G M_X12_ranBody 0 0 0 [.ref (a 0), .int (nI b)] (MW G a S I F B T R K D hI ac sp en iw op mu rd (nI rn) ki nu tv) ro (fun r ws' ro' => r = none ∧ ws' = (MW G a S I F B T R K (upd D rn (nI b)) hI ac sp en iw op mu rd (nI (rn + 1)) ki nu tv) ∧ ro = ro') := by
  refine mth_of (by decide +kernel) (Nat.le_of_ble_eq_true rfl) (fun X hC hR => ?_)
  show Ev G X 0 0 0 [(0, .ref (a 0)), (1, .int (nI b))] [] (MW G a S I F B T R K D hI ac sp en iw op mu rd (nI rn) ki nu tv) ro
  refine ev_aload_n hC dX12_ranBody_0 rfl 0 rfl ?_
  refine ev_get hC fl_X12_226_12 (mw 0 rfl) rfl dX12_ranBody_1 ?_
  refine ev_bipush (v := (nI 20)) hC dX12_ranBody_4 (by decide) ?_
  refine ev_icmp_geN (tgt := 19) hC dX12_ranBody_6 (by decide) (by omega) (by omega) (fun c_1 => absurd c_1 (by omega)) (fun c_1 => ?_)
  refine ev_aload_n hC dX12_ranBody_9 rfl 0 rfl ?_
  refine ev_get hC fl_X12_38_12 (mw 0 rfl) rfl dX12_ranBody_10 ?_
  refine ev_aload_n hC dX12_ranBody_13 rfl 0 rfl ?_
  refine ev_get hC fl_X12_226_12 (mw 0 rfl) rfl dX12_ranBody_14 ?_
  refine ev_iload_n hC dX12_ranBody_17 rfl 1 rfl ?_
  refine ev_iastN (i := rn) (ws' := (MW G a S I F B T R K (upd D rn (nI b)) hI ac sp en iw op mu rd (nI rn) ki nu tv)) (q0 := 8) hC rfl (by omega) (by omega) rfl dX12_ranBody_18 ?_
  refine ev_aload_n hC dX12_ranBody_19 rfl 0 rfl ?_
  refine ev_dup hC dX12_ranBody_20 rfl ?_
  refine ev_get hC fl_X12_226_12 (mw 0 rfl) rfl dX12_ranBody_21 ?_
  refine ev_iconst (v := (nI 1)) hC dX12_ranBody_24 (by decide) ?_
  refine ev_iadd hC dX12_ranBody_25 ?_
  refine ev_top (y := (nI (rn + 1))) ((nI_add _ _).trans (congrArg nI (by omega))) ?_
  refine ev_put (ws' := (MW G a S I F B T R K (upd D rn (nI b)) hI ac sp en iw op mu rd (nI (rn + 1)) ki nu tv)) (q0 := 0) hC fp_X12_226_12 rfl (Nat.le_of_ble_eq_true rfl) rfl rfl rfl dX12_ranBody_26 ?_
  refine ev_vret hC hR rfl dX12_ranBody_29 ?_
  exact ⟨rfl, rfl, rfl⟩

set_option maxHeartbeats 4000000 in
set_option maxRecDepth 100000 in
theorem m_X12_isUnder (G : GG) (ro : va_W) (kd k : Nat) (hkd : kd ≤ 6) (hk : k ≤ 6) : Mth G M_X12_isUnder 0 0 0 [.int (nI kd), .int (nI k)] [] ro (fun r ws' ro' => r = some (.int (bI (undF kd k))) ∧ ws' = [] ∧ ro = ro') := by
  refine mth_of (by decide +kernel) (Nat.le_of_ble_eq_true rfl) (fun X hC hR => ?_)
  show Ev G X 0 0 0 [(0, .int (nI kd)), (1, .int (nI k))] [] [] ro
  refine ev_iload_n hC dX12_isUnder_0 rfl 1 rfl ?_
  refine ev_if_eqN (tgt := 25) hC dX12_isUnder_1 (by decide) (by omega) (fun c_1 => ?_) (fun c_1 => ?_)
  · refine ev_iconst (v := (nI 1)) hC dX12_isUnder_25 (by decide) ?_
    refine ev_goto (tgt := 30) hC dX12_isUnder_26 (by decide) ?_
    refine ev_zret hC hR rfl (by rfl) dX12_isUnder_30 ?_
    have er : bI (undF kd k) = nI 1 := if_pos (by unfold undF; omega)
    exact ⟨by rw [er], rfl, rfl⟩
  · refine ev_iload_n hC dX12_isUnder_4 rfl 1 rfl ?_
    refine ev_iload_n hC dX12_isUnder_5 rfl 0 rfl ?_
    refine ev_icmp_eqN (tgt := 25) hC dX12_isUnder_6 (by decide) (by omega) (by omega) (fun c_2 => ?_) (fun c_2 => ?_)
    · refine ev_iconst (v := (nI 1)) hC dX12_isUnder_25 (by decide) ?_
      refine ev_goto (tgt := 30) hC dX12_isUnder_26 (by decide) ?_
      refine ev_zret hC hR rfl (by rfl) dX12_isUnder_30 ?_
      have er : bI (undF kd k) = nI 1 := if_pos (by unfold undF; omega)
      exact ⟨by rw [er], rfl, rfl⟩
    · refine ev_iload_n hC dX12_isUnder_9 rfl 1 rfl ?_
      refine ev_if_leN (tgt := 29) hC dX12_isUnder_10 (by decide) (by omega) (fun c_3 => ?_) (fun c_3 => ?_)
      · refine ev_iconst (v := (nI 0)) hC dX12_isUnder_29 (by decide) ?_
        refine ev_zret hC hR rfl (by rfl) dX12_isUnder_30 ?_
        have er : bI (undF kd k) = nI 0 := if_neg (by unfold undF; omega)
        exact ⟨by rw [er], rfl, rfl⟩
      · refine ev_iload_n hC dX12_isUnder_13 rfl 1 rfl ?_
        refine ev_iconst (v := (nI 4)) hC dX12_isUnder_14 (by decide) ?_
        refine ev_icmp_geN (tgt := 29) hC dX12_isUnder_15 (by decide) (by omega) (by omega) (fun c_4 => ?_) (fun c_4 => ?_)
        · refine ev_iconst (v := (nI 0)) hC dX12_isUnder_29 (by decide) ?_
          refine ev_zret hC hR rfl (by rfl) dX12_isUnder_30 ?_
          have er : bI (undF kd k) = nI 0 := if_neg (by unfold undF; omega)
          exact ⟨by rw [er], rfl, rfl⟩
        · refine ev_iload_n hC dX12_isUnder_18 rfl 0 rfl ?_
          refine ev_iload_n hC dX12_isUnder_19 rfl 1 rfl ?_
          refine ev_iconst (v := (nI 3)) hC dX12_isUnder_20 (by decide) ?_
          refine ev_iadd hC dX12_isUnder_21 ?_
          refine ev_top (y := (nI (k + 3))) ((nI_add _ _).trans (congrArg nI (by omega))) ?_
          refine ev_icmp_neN (tgt := 29) hC dX12_isUnder_22 (by decide) (by omega) (by omega) (fun c_5 => ?_) (fun c_5 => ?_)
          · refine ev_iconst (v := (nI 0)) hC dX12_isUnder_29 (by decide) ?_
            refine ev_zret hC hR rfl (by rfl) dX12_isUnder_30 ?_
            have er : bI (undF kd k) = nI 0 := if_neg (by unfold undF; omega)
            exact ⟨by rw [er], rfl, rfl⟩
          · refine ev_iconst (v := (nI 1)) hC dX12_isUnder_25 (by decide) ?_
            refine ev_goto (tgt := 30) hC dX12_isUnder_26 (by decide) ?_
            refine ev_zret hC hR rfl (by rfl) dX12_isUnder_30 ?_
            have er : bI (undF kd k) = nI 1 := if_pos (by unfold undF; omega)
            exact ⟨by rw [er], rfl, rfl⟩

set_option maxHeartbeats 4000000 in
set_option maxRecDepth 100000 in
theorem m_X12_plainWrongs (G : GG) (ro : va_W) (a : Nat → Nat) (S I F B T R K D : Nat → Int32) (hI ac sp en iw op mu rd ra ki nu tv : Int32) (rn : Nat) (x : Int32) (hr : rn < 20) : Mth G M_X12_plainWrongs 1 0 0 [.ref (a 0), .int x] (MW G a S I F B T R K D hI ac sp en iw op mu rd (nI rn) ki nu tv) ro (fun r ws' ro' => r = some (.int (x + nu)) ∧ ws' = (MW G a S I F B T R K (upd D rn (nI 1)) hI ac sp en iw op mu rd (nI (rn + 1)) ki nu tv) ∧ ro = ro') := by
  refine mth_of (by decide +kernel) (Nat.le_of_ble_eq_true rfl) (fun X hC hR => ?_)
  show Ev G X 0 0 0 [(0, .ref (a 0)), (1, .int x)] [] (MW G a S I F B T R K D hI ac sp en iw op mu rd (nI rn) ki nu tv) ro
  refine ev_aload_n hC dX12_plainWrongs_0 rfl 0 rfl ?_
  refine ev_iconst (v := (nI 1)) hC dX12_plainWrongs_1 (by decide) ?_
  refine ev_callV (As := [.int (nI 1)]) (st := []) (wf := []) hC cv_X12_229 (m_X12_ranBody G ro a S I F B T R K D hI ac sp en iw op mu rd (nI rn) ki nu tv rn 1 (by omega)) (by decide) rfl rfl (Nat.le_of_ble_eq_true rfl) (List.Perm.of_eq (List.append_nil _).symm) (mw 0 rfl) rfl dX12_plainWrongs_2 (by decide) (by decide) ?_
  rintro _ _ _ ⟨rfl, rfl, rfl⟩
  refine ev_ws (List.append_nil _) ?_
  show Ev G X 0 0 5 [(0, .ref (a 0)), (1, .int x)] [] (MW G a S I F B T R K (upd D rn (nI 1)) hI ac sp en iw op mu rd (nI (rn + 1)) ki nu tv) ro
  refine ev_iload_n hC dX12_plainWrongs_5 rfl 1 rfl ?_
  refine ev_aload_n hC dX12_plainWrongs_6 rfl 0 rfl ?_
  refine ev_get hC fl_X12_232_12 (mw 0 rfl) rfl dX12_plainWrongs_7 ?_
  refine ev_iadd hC dX12_plainWrongs_10 ?_
  refine ev_iret hC hR rfl dX12_plainWrongs_11 ?_
  exact ⟨rfl, rfl, rfl⟩

set_option maxHeartbeats 4000000 in
set_option maxRecDepth 100000 in
theorem m_X12_wrongsActs (G : GG) (ro : va_W) (a : Nat → Nat) (S I F B T R K D : Nat → Int32) (hI ac sp en iw op mu rd ra ki nu tv : Int32) (rn : Nat) (kd : Nat) (x : Int32) (hkd : kd ≤ 6) (hr : rn + 2 ≤ 20) : Mth G M_X12_wrongsActs 2 0 0 [.ref (a 0), .int x] (MW G a S I F B T R K D hI ac sp en iw op mu rd (nI rn) (nI kd) nu tv) ro (fun r ws' ro' => r = some (.int (wrV kd nu x)) ∧ ws' = (MW G a S I F B T R K (putL D rn (wrL kd)) hI ac sp en iw op mu rd (nI (rn + (wrL kd).length)) (nI kd) nu tv) ∧ ro = ro') := by
  refine mth_of (by decide +kernel) (Nat.le_of_ble_eq_true rfl) (fun X hC hR => ?_)
  show Ev G X 0 0 0 [(0, .ref (a 0)), (1, .int x)] [] (MW G a S I F B T R K D hI ac sp en iw op mu rd (nI rn) (nI kd) nu tv) ro
  refine ev_aload_n hC dX12_wrongsActs_0 rfl 0 rfl ?_
  refine ev_get hC fl_X12_235_12 (mw 0 rfl) rfl dX12_wrongsActs_1 ?_
  refine ev_iconst (v := (nI 1)) hC dX12_wrongsActs_4 (by decide) ?_
  refine ev_callS (As := [.int (nI kd), .int (nI 1)]) (st := []) (wc := []) (wf := (MW G a S I F B T R K D hI ac sp en iw op mu rd (nI rn) (nI kd) nu tv)) hC ct_X12_238 (m_X12_isUnder G ro kd 1 (by omega) (by omega)) (by decide) rfl rfl (Nat.le_of_ble_eq_true rfl) (List.Perm.refl _) dX12_wrongsActs_5 (by decide) (by decide) ?_
  rintro _ _ _ ⟨rfl, rfl, rfl⟩
  refine ev_ws (List.nil_append _) ?_
  show Ev G X 0 0 8 [(0, .ref (a 0)), (1, .int x)] [.int (bI (undF kd 1))] (MW G a S I F B T R K D hI ac sp en iw op mu rd (nI rn) (nI kd) nu tv) ro
  refine ev_if_eqB (tgt := 25) hC dX12_wrongsActs_8 (by decide) (fun c_1 => ?_) (fun c_1 => ?_)
  · refine ev_aload_n hC dX12_wrongsActs_25 rfl 0 rfl ?_
    refine ev_get hC fl_X12_235_12 (mw 0 rfl) rfl dX12_wrongsActs_26 ?_
    refine ev_iconst (v := (nI 5)) hC dX12_wrongsActs_29 (by decide) ?_
    refine ev_icmp_neN (tgt := 50) hC dX12_wrongsActs_30 (by decide) (by omega) (by omega) (fun c_2 => ?_) (fun c_2 => ?_)
    · refine ev_aload_n hC dX12_wrongsActs_50 rfl 0 rfl ?_
      refine ev_iload_n hC dX12_wrongsActs_51 rfl 1 rfl ?_
      refine ev_callV (As := [.int x]) (st := []) (wf := []) hC cv_X12_241 (m_X12_plainWrongs G ro a S I F B T R K D hI ac sp en iw op mu rd (nI rn) (nI kd) nu tv rn x (by omega)) (by decide) rfl rfl (Nat.le_of_ble_eq_true rfl) (List.Perm.of_eq (List.append_nil _).symm) (mw 0 rfl) rfl dX12_wrongsActs_52 (by decide) (by decide) ?_
      rintro _ _ _ ⟨rfl, rfl, rfl⟩
      refine ev_ws (List.append_nil _) ?_
      show Ev G X 0 0 55 [(0, .ref (a 0)), (1, .int x)] [.int (x + nu)] (MW G a S I F B T R K (upd D rn (nI 1)) hI ac sp en iw op mu rd (nI (rn + 1)) (nI kd) nu tv) ro
      refine ev_iret hC hR rfl dX12_wrongsActs_55 ?_
      have eD : putL D rn (wrL kd) = upd D rn (nI 1) := by rw [wrL, if_neg (by assumption), if_neg (by assumption)] <;> rfl
      have eN : rn + (wrL kd).length = rn + 1 := by rw [wrL, if_neg (by assumption), if_neg (by assumption)] <;> simp only [List.length_cons, List.length_append, List.length_nil] <;> omega
      have eV : (wrV kd nu x) = (x + nu) := by rw [wrV, if_neg (by assumption), if_neg (by assumption)]
      exact ⟨by rw [eV], by rw [eD, eN], rfl⟩
    · refine ev_aload_n hC dX12_wrongsActs_33 rfl 0 rfl ?_
      refine ev_bipush (v := (nI 51)) hC dX12_wrongsActs_34 (by decide) ?_
      refine ev_callV (As := [.int (nI 51)]) (st := []) (wf := []) hC cv_X12_229 (m_X12_ranBody G ro a S I F B T R K D hI ac sp en iw op mu rd (nI rn) (nI kd) nu tv rn 51 (by omega)) (by decide) rfl rfl (Nat.le_of_ble_eq_true rfl) (List.Perm.of_eq (List.append_nil _).symm) (mw 0 rfl) rfl dX12_wrongsActs_36 (by decide) (by decide) ?_
      rintro _ _ _ ⟨rfl, rfl, rfl⟩
      refine ev_ws (List.append_nil _) ?_
      show Ev G X 0 0 39 [(0, .ref (a 0)), (1, .int x)] [] (MW G a S I F B T R K (upd D rn (nI 51)) hI ac sp en iw op mu rd (nI (rn + 1)) (nI kd) nu tv) ro
      refine ev_aload_n hC dX12_wrongsActs_39 rfl 0 rfl ?_
      refine ev_iload_n hC dX12_wrongsActs_40 rfl 1 rfl ?_
      refine ev_callV (As := [.int x]) (st := []) (wf := []) hC cv_X12_241 (m_X12_plainWrongs G ro a S I F B T R K (upd D rn (nI 51)) hI ac sp en iw op mu rd (nI (rn + 1)) (nI kd) nu tv (rn + 1) x (by omega)) (by decide) rfl rfl (Nat.le_of_ble_eq_true rfl) (List.Perm.of_eq (List.append_nil _).symm) (mw 0 rfl) rfl dX12_wrongsActs_41 (by decide) (by decide) ?_
      rintro _ _ _ ⟨rfl, rfl, rfl⟩
      refine ev_ws (List.append_nil _) ?_
      show Ev G X 0 0 44 [(0, .ref (a 0)), (1, .int x)] [.int (x + nu)] (MW G a S I F B T R K (upd (upd D rn (nI 51)) (rn + 1) (nI 1)) hI ac sp en iw op mu rd (nI (rn + 2)) (nI kd) nu tv) ro
      refine ev_aload_n hC dX12_wrongsActs_44 rfl 0 rfl ?_
      refine ev_get hC fl_X12_232_12 (mw 0 rfl) rfl dX12_wrongsActs_45 ?_
      refine ev_ixor hC dX12_wrongsActs_48 ?_
      refine ev_iret hC hR rfl dX12_wrongsActs_49 ?_
      have eD : putL D rn (wrL kd) = upd (upd D rn (nI 51)) (rn + 1) (nI 1) := by rw [wrL, if_neg (by assumption), if_pos (by assumption)] <;> rfl
      have eN : rn + (wrL kd).length = rn + 2 := by rw [wrL, if_neg (by assumption), if_pos (by assumption)] <;> simp only [List.length_cons, List.length_append, List.length_nil] <;> omega
      have eV : (wrV kd nu x) = ((x + nu) ^^^ nu) := by rw [wrV, if_neg (by assumption), if_pos (by assumption)]
      exact ⟨by rw [eV], by rw [eD, eN], rfl⟩
  · refine ev_aload_n hC dX12_wrongsActs_11 rfl 0 rfl ?_
    refine ev_bipush (v := (nI 11)) hC dX12_wrongsActs_12 (by decide) ?_
    refine ev_callV (As := [.int (nI 11)]) (st := []) (wf := []) hC cv_X12_229 (m_X12_ranBody G ro a S I F B T R K D hI ac sp en iw op mu rd (nI rn) (nI kd) nu tv rn 11 (by omega)) (by decide) rfl rfl (Nat.le_of_ble_eq_true rfl) (List.Perm.of_eq (List.append_nil _).symm) (mw 0 rfl) rfl dX12_wrongsActs_14 (by decide) (by decide) ?_
    rintro _ _ _ ⟨rfl, rfl, rfl⟩
    refine ev_ws (List.append_nil _) ?_
    show Ev G X 0 0 17 [(0, .ref (a 0)), (1, .int x)] [] (MW G a S I F B T R K (upd D rn (nI 11)) hI ac sp en iw op mu rd (nI (rn + 1)) (nI kd) nu tv) ro
    refine ev_aload_n hC dX12_wrongsActs_17 rfl 0 rfl ?_
    refine ev_iload_n hC dX12_wrongsActs_18 rfl 1 rfl ?_
    refine ev_iconst (v := (nI 3)) hC dX12_wrongsActs_19 (by decide) ?_
    refine ev_imul hC dX12_wrongsActs_20 ?_
    refine ev_callV (As := [.int (x * (nI 3))]) (st := []) (wf := []) hC cv_X12_241 (m_X12_plainWrongs G ro a S I F B T R K (upd D rn (nI 11)) hI ac sp en iw op mu rd (nI (rn + 1)) (nI kd) nu tv (rn + 1) (x * (nI 3)) (by omega)) (by decide) rfl rfl (Nat.le_of_ble_eq_true rfl) (List.Perm.of_eq (List.append_nil _).symm) (mw 0 rfl) rfl dX12_wrongsActs_21 (by decide) (by decide) ?_
    rintro _ _ _ ⟨rfl, rfl, rfl⟩
    refine ev_ws (List.append_nil _) ?_
    show Ev G X 0 0 24 [(0, .ref (a 0)), (1, .int x)] [.int ((x * (nI 3)) + nu)] (MW G a S I F B T R K (upd (upd D rn (nI 11)) (rn + 1) (nI 1)) hI ac sp en iw op mu rd (nI (rn + 2)) (nI kd) nu tv) ro
    refine ev_iret hC hR rfl dX12_wrongsActs_24 ?_
    have eD : putL D rn (wrL kd) = upd (upd D rn (nI 11)) (rn + 1) (nI 1) := by rw [wrL, if_pos (by assumption)] <;> rfl
    have eN : rn + (wrL kd).length = rn + 2 := by rw [wrL, if_pos (by assumption)] <;> simp only [List.length_cons, List.length_append, List.length_nil] <;> omega
    have eV : (wrV kd nu x) = ((x * (nI 3)) + nu) := by rw [wrV, if_pos (by assumption)]
    exact ⟨by rw [eV], by rw [eD, eN], rfl⟩

set_option maxHeartbeats 4000000 in
set_option maxRecDepth 100000 in
theorem m_X12_plainLicks (G : GG) (ro : va_W) (a : Nat → Nat) (S I F B T R K D : Nat → Int32) (hI ac sp en iw op mu rd ra ki nu tv : Int32) (rn : Nat) (kd : Nat) (x : Int32) (hkd : kd ≤ 6) (hr : rn + 3 ≤ 20) : Mth G M_X12_plainLicks 3 0 0 [.ref (a 0), .int x] (MW G a S I F B T R K D hI ac sp en iw op mu rd (nI rn) (nI kd) nu tv) ro (fun r ws' ro' => r = some (.int (wrV kd nu x - tv)) ∧ ws' = (MW G a S I F B T R K (putL D rn (2 :: wrL kd)) hI ac sp en iw op mu rd (nI (rn + (2 :: wrL kd).length)) (nI kd) nu tv) ∧ ro = ro') := by
  refine mth_of (by decide +kernel) (Nat.le_of_ble_eq_true rfl) (fun X hC hR => ?_)
  have wl := wrL_len kd
  have l2 : (2 :: wrL kd).length = (wrL kd).length + 1 := rfl
  show Ev G X 0 0 0 [(0, .ref (a 0)), (1, .int x)] [] (MW G a S I F B T R K D hI ac sp en iw op mu rd (nI rn) (nI kd) nu tv) ro
  refine ev_aload_n hC dX12_plainLicks_0 rfl 0 rfl ?_
  refine ev_iconst (v := (nI 2)) hC dX12_plainLicks_1 (by decide) ?_
  refine ev_callV (As := [.int (nI 2)]) (st := []) (wf := []) hC cv_X12_229 (m_X12_ranBody G ro a S I F B T R K D hI ac sp en iw op mu rd (nI rn) (nI kd) nu tv rn 2 (by omega)) (by decide) rfl rfl (Nat.le_of_ble_eq_true rfl) (List.Perm.of_eq (List.append_nil _).symm) (mw 0 rfl) rfl dX12_plainLicks_2 (by decide) (by decide) ?_
  rintro _ _ _ ⟨rfl, rfl, rfl⟩
  refine ev_ws (List.append_nil _) ?_
  show Ev G X 0 0 5 [(0, .ref (a 0)), (1, .int x)] [] (MW G a S I F B T R K (upd D rn (nI 2)) hI ac sp en iw op mu rd (nI (rn + 1)) (nI kd) nu tv) ro
  refine ev_aload_n hC dX12_plainLicks_5 rfl 0 rfl ?_
  refine ev_iload_n hC dX12_plainLicks_6 rfl 1 rfl ?_
  refine ev_callV (As := [.int x]) (st := []) (wf := []) hC cv_X12_244 (m_X12_wrongsActs G ro a S I F B T R K (upd D rn (nI 2)) hI ac sp en iw op mu rd (nI (rn + 1)) (nI kd) nu tv (rn + 1) kd x (by omega) (by omega)) (by decide) rfl rfl (Nat.le_of_ble_eq_true rfl) (List.Perm.of_eq (List.append_nil _).symm) (mw 0 rfl) rfl dX12_plainLicks_7 (by decide) (by decide) ?_
  rintro _ _ _ ⟨rfl, rfl, rfl⟩
  refine ev_ws (List.append_nil _) ?_
  show Ev G X 0 0 10 [(0, .ref (a 0)), (1, .int x)] [.int (wrV kd nu x)] (MW G a S I F B T R K (putL (upd D rn (nI 2)) (rn + 1) (wrL kd)) hI ac sp en iw op mu rd (nI (rn + 1 + (wrL kd).length)) (nI kd) nu tv) ro
  refine ev_aload_n hC dX12_plainLicks_10 rfl 0 rfl ?_
  refine ev_get hC fl_X12_247_12 (mw 0 rfl) rfl dX12_plainLicks_11 ?_
  refine ev_isub hC dX12_plainLicks_14 ?_
  refine ev_iret hC hR rfl dX12_plainLicks_15 ?_
  have eD : putL D rn (2 :: wrL kd) = putL (upd D rn (nI 2)) (rn + 1) (wrL kd) := by rfl
  have eN : rn + (2 :: wrL kd).length = rn + 1 + (wrL kd).length := by simp only [List.length_cons, List.length_append, List.length_nil] <;> omega
  exact ⟨rfl, by rw [eD, eN], rfl⟩

set_option maxHeartbeats 4000000 in
set_option maxRecDepth 100000 in
theorem m_X12_licksActs (G : GG) (ro : va_W) (a : Nat → Nat) (S I F B T R K D : Nat → Int32) (hI ac sp en iw op mu rd ra ki nu tv : Int32) (rn : Nat) (kd : Nat) (x : Int32) (hkd : kd ≤ 6) (hr : rn + 4 ≤ 20) : Mth G M_X12_licksActs 4 0 0 [.ref (a 0), .int x] (MW G a S I F B T R K D hI ac sp en iw op mu rd (nI rn) (nI kd) nu tv) ro (fun r ws' ro' => r = some (.int (licV kd nu tv x)) ∧ ws' = (MW G a S I F B T R K (putL D rn (licL kd)) hI ac sp en iw op mu rd (nI (rn + (licL kd).length)) (nI kd) nu tv) ∧ ro = ro') := by
  refine mth_of (by decide +kernel) (Nat.le_of_ble_eq_true rfl) (fun X hC hR => ?_)
  have wl := wrL_len kd
  have l2 : (2 :: wrL kd).length = (wrL kd).length + 1 := rfl
  show Ev G X 0 0 0 [(0, .ref (a 0)), (1, .int x)] [] (MW G a S I F B T R K D hI ac sp en iw op mu rd (nI rn) (nI kd) nu tv) ro
  refine ev_aload_n hC dX12_licksActs_0 rfl 0 rfl ?_
  refine ev_get hC fl_X12_235_12 (mw 0 rfl) rfl dX12_licksActs_1 ?_
  refine ev_iconst (v := (nI 2)) hC dX12_licksActs_4 (by decide) ?_
  refine ev_callS (As := [.int (nI kd), .int (nI 2)]) (st := []) (wc := []) (wf := (MW G a S I F B T R K D hI ac sp en iw op mu rd (nI rn) (nI kd) nu tv)) hC ct_X12_238 (m_X12_isUnder G ro kd 2 (by omega) (by omega)) (by decide) rfl rfl (Nat.le_of_ble_eq_true rfl) (List.Perm.refl _) dX12_licksActs_5 (by decide) (by decide) ?_
  rintro _ _ _ ⟨rfl, rfl, rfl⟩
  refine ev_ws (List.nil_append _) ?_
  show Ev G X 0 0 8 [(0, .ref (a 0)), (1, .int x)] [.int (bI (undF kd 2))] (MW G a S I F B T R K D hI ac sp en iw op mu rd (nI rn) (nI kd) nu tv) ro
  refine ev_if_eqB (tgt := 24) hC dX12_licksActs_8 (by decide) (fun c_1 => ?_) (fun c_1 => ?_)
  · refine ev_aload_n hC dX12_licksActs_24 rfl 0 rfl ?_
    refine ev_get hC fl_X12_235_12 (mw 0 rfl) rfl dX12_licksActs_25 ?_
    refine ev_bipush (v := (nI 6)) hC dX12_licksActs_28 (by decide) ?_
    refine ev_icmp_neN (tgt := 50) hC dX12_licksActs_30 (by decide) (by omega) (by omega) (fun c_2 => ?_) (fun c_2 => ?_)
    · refine ev_aload_n hC dX12_licksActs_50 rfl 0 rfl ?_
      refine ev_iload_n hC dX12_licksActs_51 rfl 1 rfl ?_
      refine ev_callV (As := [.int x]) (st := []) (wf := []) hC cv_X12_250 (m_X12_plainLicks G ro a S I F B T R K D hI ac sp en iw op mu rd (nI rn) (nI kd) nu tv rn kd x (by omega) (by omega)) (by decide) rfl rfl (Nat.le_of_ble_eq_true rfl) (List.Perm.of_eq (List.append_nil _).symm) (mw 0 rfl) rfl dX12_licksActs_52 (by decide) (by decide) ?_
      rintro _ _ _ ⟨rfl, rfl, rfl⟩
      refine ev_ws (List.append_nil _) ?_
      show Ev G X 0 0 55 [(0, .ref (a 0)), (1, .int x)] [.int (wrV kd nu x - tv)] (MW G a S I F B T R K (putL D rn (2 :: wrL kd)) hI ac sp en iw op mu rd (nI (rn + (2 :: wrL kd).length)) (nI kd) nu tv) ro
      refine ev_iret hC hR rfl dX12_licksActs_55 ?_
      have eD : putL D rn (licL kd) = putL D rn (2 :: wrL kd) := by rw [licL, if_neg (by assumption), if_neg (by assumption)] <;> rfl
      have eN : rn + (licL kd).length = rn + (2 :: wrL kd).length := by rw [licL, if_neg (by assumption), if_neg (by assumption)] <;> simp only [List.length_cons, List.length_append, List.length_nil] <;> omega
      have eV : (licV kd nu tv x) = (wrV kd nu x - tv) := by rw [licV, if_neg (by assumption), if_neg (by assumption)]
      exact ⟨by rw [eV], by rw [eD, eN], rfl⟩
    · refine ev_aload_n hC dX12_licksActs_33 rfl 0 rfl ?_
      refine ev_bipush (v := (nI 61)) hC dX12_licksActs_34 (by decide) ?_
      refine ev_callV (As := [.int (nI 61)]) (st := []) (wf := []) hC cv_X12_229 (m_X12_ranBody G ro a S I F B T R K D hI ac sp en iw op mu rd (nI rn) (nI kd) nu tv rn 61 (by omega)) (by decide) rfl rfl (Nat.le_of_ble_eq_true rfl) (List.Perm.of_eq (List.append_nil _).symm) (mw 0 rfl) rfl dX12_licksActs_36 (by decide) (by decide) ?_
      rintro _ _ _ ⟨rfl, rfl, rfl⟩
      refine ev_ws (List.append_nil _) ?_
      show Ev G X 0 0 39 [(0, .ref (a 0)), (1, .int x)] [] (MW G a S I F B T R K (upd D rn (nI 61)) hI ac sp en iw op mu rd (nI (rn + 1)) (nI kd) nu tv) ro
      refine ev_aload_n hC dX12_licksActs_39 rfl 0 rfl ?_
      refine ev_iload_n hC dX12_licksActs_40 rfl 1 rfl ?_
      refine ev_callV (As := [.int x]) (st := []) (wf := []) hC cv_X12_250 (m_X12_plainLicks G ro a S I F B T R K (upd D rn (nI 61)) hI ac sp en iw op mu rd (nI (rn + 1)) (nI kd) nu tv (rn + 1) kd x (by omega) (by omega)) (by decide) rfl rfl (Nat.le_of_ble_eq_true rfl) (List.Perm.of_eq (List.append_nil _).symm) (mw 0 rfl) rfl dX12_licksActs_41 (by decide) (by decide) ?_
      rintro _ _ _ ⟨rfl, rfl, rfl⟩
      refine ev_ws (List.append_nil _) ?_
      show Ev G X 0 0 44 [(0, .ref (a 0)), (1, .int x)] [.int (wrV kd nu x - tv)] (MW G a S I F B T R K (putL (upd D rn (nI 61)) (rn + 1) (2 :: wrL kd)) hI ac sp en iw op mu rd (nI (rn + 1 + (2 :: wrL kd).length)) (nI kd) nu tv) ro
      refine ev_aload_n hC dX12_licksActs_44 rfl 0 rfl ?_
      refine ev_get hC fl_X12_247_12 (mw 0 rfl) rfl dX12_licksActs_45 ?_
      refine ev_iadd hC dX12_licksActs_48 ?_
      refine ev_iret hC hR rfl dX12_licksActs_49 ?_
      have eD : putL D rn (licL kd) = putL (upd D rn (nI 61)) (rn + 1) (2 :: wrL kd) := by rw [licL, if_neg (by assumption), if_pos (by assumption)] <;> rfl
      have eN : rn + (licL kd).length = rn + 1 + (2 :: wrL kd).length := by rw [licL, if_neg (by assumption), if_pos (by assumption)] <;> simp only [List.length_cons, List.length_append, List.length_nil] <;> omega
      have eV : (licV kd nu tv x) = ((wrV kd nu x - tv) + tv) := by rw [licV, if_neg (by assumption), if_pos (by assumption)]
      exact ⟨by rw [eV], by rw [eD, eN], rfl⟩
  · refine ev_aload_n hC dX12_licksActs_11 rfl 0 rfl ?_
    refine ev_bipush (v := (nI 21)) hC dX12_licksActs_12 (by decide) ?_
    refine ev_callV (As := [.int (nI 21)]) (st := []) (wf := []) hC cv_X12_229 (m_X12_ranBody G ro a S I F B T R K D hI ac sp en iw op mu rd (nI rn) (nI kd) nu tv rn 21 (by omega)) (by decide) rfl rfl (Nat.le_of_ble_eq_true rfl) (List.Perm.of_eq (List.append_nil _).symm) (mw 0 rfl) rfl dX12_licksActs_14 (by decide) (by decide) ?_
    rintro _ _ _ ⟨rfl, rfl, rfl⟩
    refine ev_ws (List.append_nil _) ?_
    show Ev G X 0 0 17 [(0, .ref (a 0)), (1, .int x)] [] (MW G a S I F B T R K (upd D rn (nI 21)) hI ac sp en iw op mu rd (nI (rn + 1)) (nI kd) nu tv) ro
    refine ev_aload_n hC dX12_licksActs_17 rfl 0 rfl ?_
    refine ev_iload_n hC dX12_licksActs_18 rfl 1 rfl ?_
    refine ev_callV (As := [.int x]) (st := []) (wf := []) hC cv_X12_250 (m_X12_plainLicks G ro a S I F B T R K (upd D rn (nI 21)) hI ac sp en iw op mu rd (nI (rn + 1)) (nI kd) nu tv (rn + 1) kd x (by omega) (by omega)) (by decide) rfl rfl (Nat.le_of_ble_eq_true rfl) (List.Perm.of_eq (List.append_nil _).symm) (mw 0 rfl) rfl dX12_licksActs_19 (by decide) (by decide) ?_
    rintro _ _ _ ⟨rfl, rfl, rfl⟩
    refine ev_ws (List.append_nil _) ?_
    show Ev G X 0 0 22 [(0, .ref (a 0)), (1, .int x)] [.int (wrV kd nu x - tv)] (MW G a S I F B T R K (putL (upd D rn (nI 21)) (rn + 1) (2 :: wrL kd)) hI ac sp en iw op mu rd (nI (rn + 1 + (2 :: wrL kd).length)) (nI kd) nu tv) ro
    refine ev_ineg hC dX12_licksActs_22 ?_
    refine ev_iret hC hR rfl dX12_licksActs_23 ?_
    have eD : putL D rn (licL kd) = putL (upd D rn (nI 21)) (rn + 1) (2 :: wrL kd) := by rw [licL, if_pos (by assumption)] <;> rfl
    have eN : rn + (licL kd).length = rn + 1 + (2 :: wrL kd).length := by rw [licL, if_pos (by assumption)] <;> simp only [List.length_cons, List.length_append, List.length_nil] <;> omega
    have eV : (licV kd nu tv x) = (-(wrV kd nu x - tv)) := by rw [licV, if_pos (by assumption)]
    exact ⟨by rw [eV], by rw [eD, eN], rfl⟩

set_option maxHeartbeats 4000000 in
set_option maxRecDepth 100000 in
theorem m_X12_plainTelling (G : GG) (ro : va_W) (a : Nat → Nat) (S I F B T R K D : Nat → Int32) (hI ac sp en iw op mu rd ra ki nu tv : Int32) (rn : Nat) (kd : Nat) (x : Int32) (hkd : kd ≤ 6) (hr : rn + 5 ≤ 20) : Mth G M_X12_plainTelling 5 0 0 [.ref (a 0), .int x] (MW G a S I F B T R K D hI ac sp en iw op mu rd (nI rn) (nI kd) nu tv) ro (fun r ws' ro' => r = some (.int (licV kd nu tv x * nI 2)) ∧ ws' = (MW G a S I F B T R K (putL D rn (3 :: licL kd)) hI ac sp en iw op mu rd (nI (rn + (3 :: licL kd).length)) (nI kd) nu tv) ∧ ro = ro') := by
  refine mth_of (by decide +kernel) (Nat.le_of_ble_eq_true rfl) (fun X hC hR => ?_)
  have wl := wrL_len kd
  have l2 : (2 :: wrL kd).length = (wrL kd).length + 1 := rfl
  have ll := licL_len kd
  show Ev G X 0 0 0 [(0, .ref (a 0)), (1, .int x)] [] (MW G a S I F B T R K D hI ac sp en iw op mu rd (nI rn) (nI kd) nu tv) ro
  refine ev_aload_n hC dX12_plainTelling_0 rfl 0 rfl ?_
  refine ev_iconst (v := (nI 3)) hC dX12_plainTelling_1 (by decide) ?_
  refine ev_callV (As := [.int (nI 3)]) (st := []) (wf := []) hC cv_X12_229 (m_X12_ranBody G ro a S I F B T R K D hI ac sp en iw op mu rd (nI rn) (nI kd) nu tv rn 3 (by omega)) (by decide) rfl rfl (Nat.le_of_ble_eq_true rfl) (List.Perm.of_eq (List.append_nil _).symm) (mw 0 rfl) rfl dX12_plainTelling_2 (by decide) (by decide) ?_
  rintro _ _ _ ⟨rfl, rfl, rfl⟩
  refine ev_ws (List.append_nil _) ?_
  show Ev G X 0 0 5 [(0, .ref (a 0)), (1, .int x)] [] (MW G a S I F B T R K (upd D rn (nI 3)) hI ac sp en iw op mu rd (nI (rn + 1)) (nI kd) nu tv) ro
  refine ev_aload_n hC dX12_plainTelling_5 rfl 0 rfl ?_
  refine ev_iload_n hC dX12_plainTelling_6 rfl 1 rfl ?_
  refine ev_callV (As := [.int x]) (st := []) (wf := []) hC cv_X12_253 (m_X12_licksActs G ro a S I F B T R K (upd D rn (nI 3)) hI ac sp en iw op mu rd (nI (rn + 1)) (nI kd) nu tv (rn + 1) kd x (by omega) (by omega)) (by decide) rfl rfl (Nat.le_of_ble_eq_true rfl) (List.Perm.of_eq (List.append_nil _).symm) (mw 0 rfl) rfl dX12_plainTelling_7 (by decide) (by decide) ?_
  rintro _ _ _ ⟨rfl, rfl, rfl⟩
  refine ev_ws (List.append_nil _) ?_
  show Ev G X 0 0 10 [(0, .ref (a 0)), (1, .int x)] [.int (licV kd nu tv x)] (MW G a S I F B T R K (putL (upd D rn (nI 3)) (rn + 1) (licL kd)) hI ac sp en iw op mu rd (nI (rn + 1 + (licL kd).length)) (nI kd) nu tv) ro
  refine ev_iconst (v := (nI 2)) hC dX12_plainTelling_10 (by decide) ?_
  refine ev_imul hC dX12_plainTelling_11 ?_
  refine ev_iret hC hR rfl dX12_plainTelling_12 ?_
  have eD : putL D rn (3 :: licL kd) = putL (upd D rn (nI 3)) (rn + 1) (licL kd) := by rfl
  have eN : rn + (3 :: licL kd).length = rn + 1 + (licL kd).length := by simp only [List.length_cons, List.length_append, List.length_nil] <;> omega
  exact ⟨rfl, by rw [eD, eN], rfl⟩

set_option maxHeartbeats 4000000 in
set_option maxRecDepth 100000 in
theorem m_X12_tellsActs (G : GG) (ro : va_W) (a : Nat → Nat) (S I F B T R K D : Nat → Int32) (hI ac sp en iw op mu rd ra ki nu tv : Int32) (rn : Nat) (kd : Nat) (x : Int32) (hkd : kd ≤ 6) (hr : rn + 8 ≤ 20) : Mth G M_X12_tellsActs 6 0 0 [.ref (a 0), .int x] (MW G a S I F B T R K D hI ac sp en iw op mu rd (nI rn) (nI kd) nu tv) ro (fun r ws' ro' => r = some (.int (telV kd nu tv x)) ∧ ws' = (MW G a S I F B T R K (putL D rn (telL kd)) hI ac sp en iw op mu rd (nI (rn + (telL kd).length)) (nI kd) nu tv) ∧ ro = ro') := by
  refine mth_of (by decide +kernel) (Nat.le_of_ble_eq_true rfl) (fun X hC hR => ?_)
  have wl := wrL_len kd
  have l2 : (2 :: wrL kd).length = (wrL kd).length + 1 := rfl
  have ll := licL_len kd
  have l3 : (3 :: licL kd).length = (licL kd).length + 1 := rfl
  show Ev G X 0 0 0 [(0, .ref (a 0)), (1, .int x)] [] (MW G a S I F B T R K D hI ac sp en iw op mu rd (nI rn) (nI kd) nu tv) ro
  refine ev_aload_n hC dX12_tellsActs_0 rfl 0 rfl ?_
  refine ev_get hC fl_X12_235_12 (mw 0 rfl) rfl dX12_tellsActs_1 ?_
  refine ev_iconst (v := (nI 3)) hC dX12_tellsActs_4 (by decide) ?_
  refine ev_callS (As := [.int (nI kd), .int (nI 3)]) (st := []) (wc := []) (wf := (MW G a S I F B T R K D hI ac sp en iw op mu rd (nI rn) (nI kd) nu tv)) hC ct_X12_238 (m_X12_isUnder G ro kd 3 (by omega) (by omega)) (by decide) rfl rfl (Nat.le_of_ble_eq_true rfl) (List.Perm.refl _) dX12_tellsActs_5 (by decide) (by decide) ?_
  rintro _ _ _ ⟨rfl, rfl, rfl⟩
  refine ev_ws (List.nil_append _) ?_
  show Ev G X 0 0 8 [(0, .ref (a 0)), (1, .int x)] [.int (bI (undF kd 3))] (MW G a S I F B T R K D hI ac sp en iw op mu rd (nI rn) (nI kd) nu tv) ro
  refine ev_if_eqB (tgt := 26) hC dX12_tellsActs_8 (by decide) (fun c_1 => ?_) (fun c_1 => ?_)
  · refine ev_aload_n hC dX12_tellsActs_26 rfl 0 rfl ?_
    refine ev_get hC fl_X12_235_12 (mw 0 rfl) rfl dX12_tellsActs_27 ?_
    refine ev_iconst (v := (nI 4)) hC dX12_tellsActs_30 (by decide) ?_
    refine ev_icmp_neN (tgt := 56) hC dX12_tellsActs_31 (by decide) (by omega) (by omega) (fun c_2 => ?_) (fun c_2 => ?_)
    · refine ev_aload_n hC dX12_tellsActs_56 rfl 0 rfl ?_
      refine ev_iload_n hC dX12_tellsActs_57 rfl 1 rfl ?_
      refine ev_callV (As := [.int x]) (st := []) (wf := []) hC cv_X12_256 (m_X12_plainTelling G ro a S I F B T R K D hI ac sp en iw op mu rd (nI rn) (nI kd) nu tv rn kd x (by omega) (by omega)) (by decide) rfl rfl (Nat.le_of_ble_eq_true rfl) (List.Perm.of_eq (List.append_nil _).symm) (mw 0 rfl) rfl dX12_tellsActs_58 (by decide) (by decide) ?_
      rintro _ _ _ ⟨rfl, rfl, rfl⟩
      refine ev_ws (List.append_nil _) ?_
      show Ev G X 0 0 61 [(0, .ref (a 0)), (1, .int x)] [.int (licV kd nu tv x * nI 2)] (MW G a S I F B T R K (putL D rn (3 :: licL kd)) hI ac sp en iw op mu rd (nI (rn + (3 :: licL kd).length)) (nI kd) nu tv) ro
      refine ev_iret hC hR rfl dX12_tellsActs_61 ?_
      have eD : putL D rn (telL kd) = putL D rn (3 :: licL kd) := by rw [telL, if_neg (by assumption), if_neg (by assumption)] <;> rfl
      have eN : rn + (telL kd).length = rn + (3 :: licL kd).length := by rw [telL, if_neg (by assumption), if_neg (by assumption)] <;> simp only [List.length_cons, List.length_append, List.length_nil] <;> omega
      have eV : (telV kd nu tv x) = (licV kd nu tv x * nI 2) := by rw [telV, if_neg (by assumption), if_neg (by assumption)]
      exact ⟨by rw [eV], by rw [eD, eN], rfl⟩
    · refine ev_aload_n hC dX12_tellsActs_34 rfl 0 rfl ?_
      refine ev_bipush (v := (nI 41)) hC dX12_tellsActs_35 (by decide) ?_
      refine ev_callV (As := [.int (nI 41)]) (st := []) (wf := []) hC cv_X12_229 (m_X12_ranBody G ro a S I F B T R K D hI ac sp en iw op mu rd (nI rn) (nI kd) nu tv rn 41 (by omega)) (by decide) rfl rfl (Nat.le_of_ble_eq_true rfl) (List.Perm.of_eq (List.append_nil _).symm) (mw 0 rfl) rfl dX12_tellsActs_37 (by decide) (by decide) ?_
      rintro _ _ _ ⟨rfl, rfl, rfl⟩
      refine ev_ws (List.append_nil _) ?_
      show Ev G X 0 0 40 [(0, .ref (a 0)), (1, .int x)] [] (MW G a S I F B T R K (upd D rn (nI 41)) hI ac sp en iw op mu rd (nI (rn + 1)) (nI kd) nu tv) ro
      refine ev_aload_n hC dX12_tellsActs_40 rfl 0 rfl ?_
      refine ev_iload_n hC dX12_tellsActs_41 rfl 1 rfl ?_
      refine ev_iconst (v := (nI 1)) hC dX12_tellsActs_42 (by decide) ?_
      refine ev_isub hC dX12_tellsActs_43 ?_
      refine ev_callV (As := [.int (x - (nI 1))]) (st := []) (wf := []) hC cv_X12_256 (m_X12_plainTelling G ro a S I F B T R K (upd D rn (nI 41)) hI ac sp en iw op mu rd (nI (rn + 1)) (nI kd) nu tv (rn + 1) kd (x - (nI 1)) (by omega) (by omega)) (by decide) rfl rfl (Nat.le_of_ble_eq_true rfl) (List.Perm.of_eq (List.append_nil _).symm) (mw 0 rfl) rfl dX12_tellsActs_44 (by decide) (by decide) ?_
      rintro _ _ _ ⟨rfl, rfl, rfl⟩
      refine ev_ws (List.append_nil _) ?_
      show Ev G X 0 0 47 [(0, .ref (a 0)), (1, .int x)] [.int (licV kd nu tv (x - (nI 1)) * nI 2)] (MW G a S I F B T R K (putL (upd D rn (nI 41)) (rn + 1) (3 :: licL kd)) hI ac sp en iw op mu rd (nI (rn + 1 + (3 :: licL kd).length)) (nI kd) nu tv) ro
      refine ev_istore_n (lv' := [(2, .int (licV kd nu tv (x - (nI 1)) * nI 2)), (0, .ref (a 0)), (1, .int x)]) hC dX12_tellsActs_47 rfl (by decide) rfl ?_
      refine ev_iload_n hC dX12_tellsActs_48 rfl 0 rfl ?_
      refine ev_aload_n hC dX12_tellsActs_49 rfl 1 rfl ?_
      refine ev_iconst (v := (nI 2)) hC dX12_tellsActs_50 (by decide) ?_
      refine ev_callV (As := [.int (nI 2)]) (st := [.int (licV kd nu tv (x - (nI 1)) * nI 2)]) (wf := []) hC cv_X12_244 (m_X12_wrongsActs G ro a S I F B T R K (putL (upd D rn (nI 41)) (rn + 1) (3 :: licL kd)) hI ac sp en iw op mu rd (nI (rn + 1 + (3 :: licL kd).length)) (nI kd) nu tv (rn + 1 + (3 :: licL kd).length) kd (nI 2) (by omega) (by omega)) (by decide) rfl rfl (Nat.le_of_ble_eq_true rfl) (List.Perm.of_eq (List.append_nil _).symm) (mw 0 rfl) rfl dX12_tellsActs_51 (by decide) (by decide) ?_
      rintro _ _ _ ⟨rfl, rfl, rfl⟩
      refine ev_ws (List.append_nil _) ?_
      show Ev G X 0 0 54 [(2, .int (licV kd nu tv (x - (nI 1)) * nI 2)), (0, .ref (a 0)), (1, .int x)] [.int (wrV kd nu (nI 2)), .int (licV kd nu tv (x - (nI 1)) * nI 2)] (MW G a S I F B T R K (putL (putL (upd D rn (nI 41)) (rn + 1) (3 :: licL kd)) (rn + 1 + (3 :: licL kd).length) (wrL kd)) hI ac sp en iw op mu rd (nI (rn + 1 + (3 :: licL kd).length + (wrL kd).length)) (nI kd) nu tv) ro
      refine ev_iadd hC dX12_tellsActs_54 ?_
      refine ev_iret hC hR rfl dX12_tellsActs_55 ?_
      have eD : putL D rn (telL kd) = putL (putL (upd D rn (nI 41)) (rn + 1) (3 :: licL kd)) (rn + 1 + (3 :: licL kd).length) (wrL kd) := by rw [telL, if_neg (by assumption), if_pos (by assumption)] <;> exact putL_app _ _ (3 :: licL kd) (wrL kd)
      have eN : rn + (telL kd).length = rn + 1 + (3 :: licL kd).length + (wrL kd).length := by rw [telL, if_neg (by assumption), if_pos (by assumption)] <;> simp only [List.length_cons, List.length_append, List.length_nil] <;> omega
      have eV : (telV kd nu tv x) = ((licV kd nu tv (x - (nI 1)) * nI 2) + (wrV kd nu (nI 2))) := by rw [telV, if_neg (by assumption), if_pos (by assumption)]
      exact ⟨by rw [eV], by rw [eD, eN], rfl⟩
  · refine ev_aload_n hC dX12_tellsActs_11 rfl 0 rfl ?_
    refine ev_bipush (v := (nI 31)) hC dX12_tellsActs_12 (by decide) ?_
    refine ev_callV (As := [.int (nI 31)]) (st := []) (wf := []) hC cv_X12_229 (m_X12_ranBody G ro a S I F B T R K D hI ac sp en iw op mu rd (nI rn) (nI kd) nu tv rn 31 (by omega)) (by decide) rfl rfl (Nat.le_of_ble_eq_true rfl) (List.Perm.of_eq (List.append_nil _).symm) (mw 0 rfl) rfl dX12_tellsActs_14 (by decide) (by decide) ?_
    rintro _ _ _ ⟨rfl, rfl, rfl⟩
    refine ev_ws (List.append_nil _) ?_
    show Ev G X 0 0 17 [(0, .ref (a 0)), (1, .int x)] [] (MW G a S I F B T R K (upd D rn (nI 31)) hI ac sp en iw op mu rd (nI (rn + 1)) (nI kd) nu tv) ro
    refine ev_aload_n hC dX12_tellsActs_17 rfl 0 rfl ?_
    refine ev_iload_n hC dX12_tellsActs_18 rfl 1 rfl ?_
    refine ev_callV (As := [.int x]) (st := []) (wf := []) hC cv_X12_256 (m_X12_plainTelling G ro a S I F B T R K (upd D rn (nI 31)) hI ac sp en iw op mu rd (nI (rn + 1)) (nI kd) nu tv (rn + 1) kd x (by omega) (by omega)) (by decide) rfl rfl (Nat.le_of_ble_eq_true rfl) (List.Perm.of_eq (List.append_nil _).symm) (mw 0 rfl) rfl dX12_tellsActs_19 (by decide) (by decide) ?_
    rintro _ _ _ ⟨rfl, rfl, rfl⟩
    refine ev_ws (List.append_nil _) ?_
    show Ev G X 0 0 22 [(0, .ref (a 0)), (1, .int x)] [.int (licV kd nu tv x * nI 2)] (MW G a S I F B T R K (putL (upd D rn (nI 31)) (rn + 1) (3 :: licL kd)) hI ac sp en iw op mu rd (nI (rn + 1 + (3 :: licL kd).length)) (nI kd) nu tv) ro
    refine ev_bipush (v := (nI 7)) hC dX12_tellsActs_22 (by decide) ?_
    refine ev_ixor hC dX12_tellsActs_24 ?_
    refine ev_iret hC hR rfl dX12_tellsActs_25 ?_
    have eD : putL D rn (telL kd) = putL (upd D rn (nI 31)) (rn + 1) (3 :: licL kd) := by rw [telL, if_pos (by assumption)] <;> rfl
    have eN : rn + (telL kd).length = rn + 1 + (3 :: licL kd).length := by rw [telL, if_pos (by assumption)] <;> simp only [List.length_cons, List.length_append, List.length_nil] <;> omega
    have eV : (telV kd nu tv x) = ((licV kd nu tv x * nI 2) ^^^ (nI 7)) := by rw [telV, if_pos (by assumption)]
    exact ⟨by rw [eV], by rw [eD, eN], rfl⟩
