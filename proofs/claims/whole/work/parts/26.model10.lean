set_option maxHeartbeats 4000000 in
set_option maxRecDepth 100000 in
theorem m_X12_ranBody (G : GG) (ro : va_W) (a : Nat → Nat) (S I F B T R K D : Nat → Int32) (hI ac sp en iw op mu rd ra ki nu tv : Int32) (rn : Nat) (b : Nat) (hr : rn < 20) : Mth G M_X12_ranBody 0 0 0 [.ref (a 0), .int (nI b)] (MW G a S I F B T R K D hI ac sp en iw op mu rd (nI rn) ki nu tv) ro (fun r ws' ro' => r = none ∧ ws' = (MW G a S I F B T R K (upd D rn (nI b)) hI ac sp en iw op mu rd (nI (rn + 1)) ki nu tv) ∧ ro = ro') := by
  refine mth_of (by decide +kernel) (Nat.le_of_ble_eq_true rfl) (fun X hC hR => ?_)
  show Ev G X 0 0 0 [(0, .ref (a 0)), (1, .int (nI b))] [] (MW G a S I F B T R K D hI ac sp en iw op mu rd (nI rn) ki nu tv) ro
  refine ev_aload_n hC dX12_ranBody_0 rfl 0 rfl ?_
  refine ev_get hC fl_X12_226_12 (mw 0 rfl) rfl dX12_ranBody_1 ?_
  refine ev_bipush (v := (nI 20)) hC dX12_ranBody_4 (by decide) ?_
  refine ev_icmp_geN (tgt := 19) hC dX12_ranBody_6 (by decide) (by omega) (by omega) (fun c_1 => absurd c_1 (by omega)) (fun c_1 => ?_)
  refine ev_aload_n hC dX12_ranBody_9 rfl 0 rfl ?_
  refine ev_get hC fl_X12_38_12 (mw 0 rfl) rfl dX12_ranBody_10 ?_
  refine ev_aload_n hC dX12_ranBody_13 rfl 0 rfl ?_
  refine ev_get hC fl_X12_226_12 (mw 0 rfl) rfl dX12_ranBody_14 ?_
  refine ev_iload_n hC dX12_ranBody_17 rfl 1 rfl ?_
  refine ev_iastN (i := rn) (ws' := (MW G a S I F B T R K (upd D rn (nI b)) hI ac sp en iw op mu rd (nI rn) ki nu tv)) (q0 := 8) hC rfl (by omega) (by omega) rfl dX12_ranBody_18 ?_
  refine ev_aload_n hC dX12_ranBody_19 rfl 0 rfl ?_
  refine ev_dup hC dX12_ranBody_20 rfl ?_
  refine ev_get hC fl_X12_226_12 (mw 0 rfl) rfl dX12_ranBody_21 ?_
  refine ev_iconst (v := (nI 1)) hC dX12_ranBody_24 (by decide) ?_
  refine ev_iadd hC dX12_ranBody_25 ?_
  refine ev_top (y := (nI (rn + 1))) ((nI_add _ _).trans (congrArg nI (by omega))) ?_
  refine ev_put (ws' := (MW G a S I F B T R K (upd D rn (nI b)) hI ac sp en iw op mu rd (nI (rn + 1)) ki nu tv)) (q0 := 0) hC fp_X12_226_12 rfl (Nat.le_of_ble_eq_true rfl) rfl rfl rfl dX12_ranBody_26 ?_
  refine ev_vret hC hR rfl dX12_ranBody_29 ?_
  exact ⟨rfl, rfl, rfl⟩

set_option maxHeartbeats 4000000 in
set_option maxRecDepth 100000 in
theorem m_X12_isUnder (G : GG) (ro : va_W) (kd k : Nat) (hkd : kd ≤ 6) (hk : k ≤ 6) : Mth G M_X12_isUnder 0 0 0 [.int (nI kd), .int (nI k)] [] ro (fun r ws' ro' => r = some (.int (bI (undF kd k))) ∧ ws' = [] ∧ ro = ro') := by
  refine mth_of (by decide +kernel) (Nat.le_of_ble_eq_true rfl) (fun X hC hR => ?_)
  show Ev G X 0 0 0 [(0, .int (nI kd)), (1, .int (nI k))] [] [] ro
  refine ev_iload_n hC dX12_isUnder_0 rfl 1 rfl ?_
  refine ev_if_eqN (tgt := 25) hC dX12_isUnder_1 (by decide) (by omega) (fun c_1 => ?_) (fun c_1 => ?_)
  · refine ev_iconst (v := (nI 1)) hC dX12_isUnder_25 (by decide) ?_
    refine ev_goto (tgt := 30) hC dX12_isUnder_26 (by decide) ?_
    refine ev_zret hC hR rfl (by rfl) dX12_isUnder_30 ?_
    have er : bI (undF kd k) = nI 1 := if_pos (by unfold undF; omega)
    exact ⟨by rw [er], rfl, rfl⟩
  · refine ev_iload_n hC dX12_isUnder_4 rfl 1 rfl ?_
    refine ev_iload_n hC dX12_isUnder_5 rfl 0 rfl ?_
    refine ev_icmp_eqN (tgt := 25) hC dX12_isUnder_6 (by decide) (by omega) (by omega) (fun c_2 => ?_) (fun c_2 => ?_)
    · refine ev_iconst (v := (nI 1)) hC dX12_isUnder_25 (by decide) ?_
      refine ev_goto (tgt := 30) hC dX12_isUnder_26 (by decide) ?_
      refine ev_zret hC hR rfl (by rfl) dX12_isUnder_30 ?_
      have er : bI (undF kd k) = nI 1 := if_pos (by unfold undF; omega)
      exact ⟨by rw [er], rfl, rfl⟩
    · refine ev_iload_n hC dX12_isUnder_9 rfl 1 rfl ?_
      refine ev_if_leN (tgt := 29) hC dX12_isUnder_10 (by decide) (by omega) (fun c_3 => ?_) (fun c_3 => ?_)
      · refine ev_iconst (v := (nI 0)) hC dX12_isUnder_29 (by decide) ?_
        refine ev_zret hC hR rfl (by rfl) dX12_isUnder_30 ?_
        have er : bI (undF kd k) = nI 0 := if_neg (by unfold undF; omega)
        exact ⟨by rw [er], rfl, rfl⟩
      · refine ev_iload_n hC dX12_isUnder_13 rfl 1 rfl ?_
        refine ev_iconst (v := (nI 4)) hC dX12_isUnder_14 (by decide) ?_
        refine ev_icmp_geN (tgt := 29) hC dX12_isUnder_15 (by decide) (by omega) (by omega) (fun c_4 => ?_) (fun c_4 => ?_)
        · refine ev_iconst (v := (nI 0)) hC dX12_isUnder_29 (by decide) ?_
          refine ev_zret hC hR rfl (by rfl) dX12_isUnder_30 ?_
          have er : bI (undF kd k) = nI 0 := if_neg (by unfold undF; omega)
          exact ⟨by rw [er], rfl, rfl⟩
        · refine ev_iload_n hC dX12_isUnder_18 rfl 0 rfl ?_
          refine ev_iload_n hC dX12_isUnder_19 rfl 1 rfl ?_
          refine ev_iconst (v := (nI 3)) hC dX12_isUnder_20 (by decide) ?_
          refine ev_iadd hC dX12_isUnder_21 ?_
          refine ev_top (y := (nI (k + 3))) ((nI_add _ _).trans (congrArg nI (by omega))) ?_
          refine ev_icmp_neN (tgt := 29) hC dX12_isUnder_22 (by decide) (by omega) (by omega) (fun c_5 => ?_) (fun c_5 => ?_)
          · refine ev_iconst (v := (nI 0)) hC dX12_isUnder_29 (by decide) ?_
            refine ev_zret hC hR rfl (by rfl) dX12_isUnder_30 ?_
            have er : bI (undF kd k) = nI 0 := if_neg (by unfold undF; omega)
            exact ⟨by rw [er], rfl, rfl⟩
          · refine ev_iconst (v := (nI 1)) hC dX12_isUnder_25 (by decide) ?_
            refine ev_goto (tgt := 30) hC dX12_isUnder_26 (by decide) ?_
            refine ev_zret hC hR rfl (by rfl) dX12_isUnder_30 ?_
            have er : bI (undF kd k) = nI 1 := if_pos (by unfold undF; omega)
            exact ⟨by rw [er], rfl, rfl⟩

set_option maxHeartbeats 4000000 in
set_option maxRecDepth 100000 in
theorem m_X12_plainWrongs (G : GG) (ro : va_W) (a : Nat → Nat) (S I F B T R K D : Nat → Int32) (hI ac sp en iw op mu rd ra ki nu tv : Int32) (rn : Nat) (x : Int32) (hr : rn < 20) : Mth G M_X12_plainWrongs 1 0 0 [.ref (a 0), .int x] (MW G a S I F B T R K D hI ac sp en iw op mu rd (nI rn) ki nu tv) ro (fun r ws' ro' => r = some (.int (x + nu)) ∧ ws' = (MW G a S I F B T R K (upd D rn (nI 1)) hI ac sp en iw op mu rd (nI (rn + 1)) ki nu tv) ∧ ro = ro') := by
  refine mth_of (by decide +kernel) (Nat.le_of_ble_eq_true rfl) (fun X hC hR => ?_)
  show Ev G X 0 0 0 [(0, .ref (a 0)), (1, .int x)] [] (MW G a S I F B T R K D hI ac sp en iw op mu rd (nI rn) ki nu tv) ro
  refine ev_aload_n hC dX12_plainWrongs_0 rfl 0 rfl ?_
  refine ev_iconst (v := (nI 1)) hC dX12_plainWrongs_1 (by decide) ?_
  refine ev_callV (As := [.int (nI 1)]) (st := []) (wf := []) hC cv_X12_229 (m_X12_ranBody G ro a S I F B T R K D hI ac sp en iw op mu rd (nI rn) ki nu tv rn 1 (by omega)) (by decide) rfl rfl (Nat.le_of_ble_eq_true rfl) (List.Perm.of_eq (List.append_nil _).symm) (mw 0 rfl) rfl dX12_plainWrongs_2 (by decide) (by decide) ?_
  rintro _ _ _ ⟨rfl, rfl, rfl⟩
  refine ev_ws (List.append_nil _) ?_
  show Ev G X 0 0 5 [(0, .ref (a 0)), (1, .int x)] [] (MW G a S I F B T R K (upd D rn (nI 1)) hI ac sp en iw op mu rd (nI (rn + 1)) ki nu tv) ro
  refine ev_iload_n hC dX12_plainWrongs_5 rfl 1 rfl ?_
  refine ev_aload_n hC dX12_plainWrongs_6 rfl 0 rfl ?_
  refine ev_get hC fl_X12_232_12 (mw 0 rfl) rfl dX12_plainWrongs_7 ?_
  refine ev_iadd hC dX12_plainWrongs_10 ?_
  refine ev_iret hC hR rfl dX12_plainWrongs_11 ?_
  exact ⟨rfl, rfl, rfl⟩

set_option maxHeartbeats 4000000 in
set_option maxRecDepth 100000 in
theorem m_X12_wrongsActs (G : GG) (ro : va_W) (a : Nat → Nat) (S I F B T R K D : Nat → Int32) (hI ac sp en iw op mu rd ra ki nu tv : Int32) (rn : Nat) (kd : Nat) (x : Int32) (hkd : kd ≤ 6) (hr : rn + 2 ≤ 20) : Mth G M_X12_wrongsActs 2 0 0 [.ref (a 0), .int x] (MW G a S I F B T R K D hI ac sp en iw op mu rd (nI rn) (nI kd) nu tv) ro (fun r ws' ro' => r = some (.int (wrV kd nu x)) ∧ ws' = (MW G a S I F B T R K (putL D rn (wrL kd)) hI ac sp en iw op mu rd (nI (rn + (wrL kd).length)) (nI kd) nu tv) ∧ ro = ro') := by
  refine mth_of (by decide +kernel) (Nat.le_of_ble_eq_true rfl) (fun X hC hR => ?_)
  show Ev G X 0 0 0 [(0, .ref (a 0)), (1, .int x)] [] (MW G a S I F B T R K D hI ac sp en iw op mu rd (nI rn) (nI kd) nu tv) ro
  refine ev_aload_n hC dX12_wrongsActs_0 rfl 0 rfl ?_
  refine ev_get hC fl_X12_235_12 (mw 0 rfl) rfl dX12_wrongsActs_1 ?_
  refine ev_iconst (v := (nI 1)) hC dX12_wrongsActs_4 (by decide) ?_
  refine ev_callS (As := [.int (nI kd), .int (nI 1)]) (st := []) (wc := []) (wf := (MW G a S I F B T R K D hI ac sp en iw op mu rd (nI rn) (nI kd) nu tv)) hC ct_X12_238 (m_X12_isUnder G ro kd 1 (by omega) (by omega)) (by decide) rfl rfl (Nat.le_of_ble_eq_true rfl) (List.Perm.refl _) dX12_wrongsActs_5 (by decide) (by decide) ?_
  rintro _ _ _ ⟨rfl, rfl, rfl⟩
  refine ev_ws (List.nil_append _) ?_
  show Ev G X 0 0 8 [(0, .ref (a 0)), (1, .int x)] [.int (bI (undF kd 1))] (MW G a S I F B T R K D hI ac sp en iw op mu rd (nI rn) (nI kd) nu tv) ro
  refine ev_if_eqB (tgt := 25) hC dX12_wrongsActs_8 (by decide) (fun c_1 => ?_) (fun c_1 => ?_)
  · refine ev_aload_n hC dX12_wrongsActs_25 rfl 0 rfl ?_
    refine ev_get hC fl_X12_235_12 (mw 0 rfl) rfl dX12_wrongsActs_26 ?_
    refine ev_iconst (v := (nI 5)) hC dX12_wrongsActs_29 (by decide) ?_
    refine ev_icmp_neN (tgt := 50) hC dX12_wrongsActs_30 (by decide) (by omega) (by omega) (fun c_2 => ?_) (fun c_2 => ?_)
    · refine ev_aload_n hC dX12_wrongsActs_50 rfl 0 rfl ?_
      refine ev_iload_n hC dX12_wrongsActs_51 rfl 1 rfl ?_
      refine ev_callV (As := [.int x]) (st := []) (wf := []) hC cv_X12_241 (m_X12_plainWrongs G ro a S I F B T R K D hI ac sp en iw op mu rd (nI rn) (nI kd) nu tv rn x (by omega)) (by decide) rfl rfl (Nat.le_of_ble_eq_true rfl) (List.Perm.of_eq (List.append_nil _).symm) (mw 0 rfl) rfl dX12_wrongsActs_52 (by decide) (by decide) ?_
      rintro _ _ _ ⟨rfl, rfl, rfl⟩
      refine ev_ws (List.append_nil _) ?_
      show Ev G X 0 0 55 [(0, .ref (a 0)), (1, .int x)] [.int (x + nu)] (MW G a S I F B T R K (upd D rn (nI 1)) hI ac sp en iw op mu rd (nI (rn + 1)) (nI kd) nu tv) ro
      refine ev_iret hC hR rfl dX12_wrongsActs_55 ?_
      have eD : putL D rn (wrL kd) = upd D rn (nI 1) := by rw [wrL, if_neg (by assumption), if_neg (by assumption)] <;> rfl
      have eN : rn + (wrL kd).length = rn + 1 := by rw [wrL, if_neg (by assumption), if_neg (by assumption)] <;> simp only [List.length_cons, List.length_append, List.length_nil] <;> omega
      have eV : (wrV kd nu x) = (x + nu) := by rw [wrV, if_neg (by assumption), if_neg (by assumption)]
      exact ⟨by rw [eV], by rw [eD, eN], rfl⟩
    · refine ev_aload_n hC dX12_wrongsActs_33 rfl 0 rfl ?_
      refine ev_bipush (v := (nI 51)) hC dX12_wrongsActs_34 (by decide) ?_
      refine ev_callV (As := [.int (nI 51)]) (st := []) (wf := []) hC cv_X12_229 (m_X12_ranBody G ro a S I F B T R K D hI ac sp en iw op mu rd (nI rn) (nI kd) nu tv rn 51 (by omega)) (by decide) rfl rfl (Nat.le_of_ble_eq_true rfl) (List.Perm.of_eq (List.append_nil _).symm) (mw 0 rfl) rfl dX12_wrongsActs_36 (by decide) (by decide) ?_
      rintro _ _ _ ⟨rfl, rfl, rfl⟩
      refine ev_ws (List.append_nil _) ?_
      show Ev G X 0 0 39 [(0, .ref (a 0)), (1, .int x)] [] (MW G a S I F B T R K (upd D rn (nI 51)) hI ac sp en iw op mu rd (nI (rn + 1)) (nI kd) nu tv) ro
      refine ev_aload_n hC dX12_wrongsActs_39 rfl 0 rfl ?_
      refine ev_iload_n hC dX12_wrongsActs_40 rfl 1 rfl ?_
      refine ev_callV (As := [.int x]) (st := []) (wf := []) hC cv_X12_241 (m_X12_plainWrongs G ro a S I F B T R K (upd D rn (nI 51)) hI ac sp en iw op mu rd (nI (rn + 1)) (nI kd) nu tv (rn + 1) x (by omega)) (by decide) rfl rfl (Nat.le_of_ble_eq_true rfl) (List.Perm.of_eq (List.append_nil _).symm) (mw 0 rfl) rfl dX12_wrongsActs_41 (by decide) (by decide) ?_
      rintro _ _ _ ⟨rfl, rfl, rfl⟩
      refine ev_ws (List.append_nil _) ?_
      show Ev G X 0 0 44 [(0, .ref (a 0)), (1, .int x)] [.int (x + nu)] (MW G a S I F B T R K (upd (upd D rn (nI 51)) (rn + 1) (nI 1)) hI ac sp en iw op mu rd (nI (rn + 2)) (nI kd) nu tv) ro
      refine ev_aload_n hC dX12_wrongsActs_44 rfl 0 rfl ?_
      refine ev_get hC fl_X12_232_12 (mw 0 rfl) rfl dX12_wrongsActs_45 ?_
      refine ev_ixor hC dX12_wrongsActs_48 ?_
      refine ev_iret hC hR rfl dX12_wrongsActs_49 ?_
      have eD : putL D rn (wrL kd) = upd (upd D rn (nI 51)) (rn + 1) (nI 1) := by rw [wrL, if_neg (by assumption), if_pos (by assumption)] <;> rfl
      have eN : rn + (wrL kd).length = rn + 2 := by rw [wrL, if_neg (by assumption), if_pos (by assumption)] <;> simp only [List.length_cons, List.length_append, List.length_nil] <;> omega
      have eV : (wrV kd nu x) = ((x + nu) ^^^ nu) := by rw [wrV, if_neg (by assumption), if_pos (by assumption)]
      exact ⟨by rw [eV], by rw [eD, eN], rfl⟩
  · refine ev_aload_n hC dX12_wrongsActs_11 rfl 0 rfl ?_
    refine ev_bipush (v := (nI 11)) hC dX12_wrongsActs_12 (by decide) ?_
    refine ev_callV (As := [.int (nI 11)]) (st := []) (wf := []) hC cv_X12_229 (m_X12_ranBody G ro a S I F B T R K D hI ac sp en iw op mu rd (nI rn) (nI kd) nu tv rn 11 (by omega)) (by decide) rfl rfl (Nat.le_of_ble_eq_true rfl) (List.Perm.of_eq (List.append_nil _).symm) (mw 0 rfl) rfl dX12_wrongsActs_14 (by decide) (by decide) ?_
    rintro _ _ _ ⟨rfl, rfl, rfl⟩
    refine ev_ws (List.append_nil _) ?_
    show Ev G X 0 0 17 [(0, .ref (a 0)), (1, .int x)] [] (MW G a S I F B T R K (upd D rn (nI 11)) hI ac sp en iw op mu rd (nI (rn + 1)) (nI kd) nu tv) ro
    refine ev_aload_n hC dX12_wrongsActs_17 rfl 0 rfl ?_
    refine ev_iload_n hC dX12_wrongsActs_18 rfl 1 rfl ?_
    refine ev_iconst (v := (nI 3)) hC dX12_wrongsActs_19 (by decide) ?_
    refine ev_imul hC dX12_wrongsActs_20 ?_
    refine ev_callV (As := [.int (x * (nI 3))]) (st := []) (wf := []) hC cv_X12_241 (m_X12_plainWrongs G ro a S I F B T R K (upd D rn (nI 11)) hI ac sp en iw op mu rd (nI (rn + 1)) (nI kd) nu tv (rn + 1) (x * (nI 3)) (by omega)) (by decide) rfl rfl (Nat.le_of_ble_eq_true rfl) (List.Perm.of_eq (List.append_nil _).symm) (mw 0 rfl) rfl dX12_wrongsActs_21 (by decide) (by decide) ?_
    rintro _ _ _ ⟨rfl, rfl, rfl⟩
    refine ev_ws (List.append_nil _) ?_
    show Ev G X 0 0 24 [(0, .ref (a 0)), (1, .int x)] [.int ((x * (nI 3)) + nu)] (MW G a S I F B T R K (upd (upd D rn (nI 11)) (rn + 1) (nI 1)) hI ac sp en iw op mu rd (nI (rn + 2)) (nI kd) nu tv) ro
    refine ev_iret hC hR rfl dX12_wrongsActs_24 ?_
    have eD : putL D rn (wrL kd) = upd (upd D rn (nI 11)) (rn + 1) (nI 1) := by rw [wrL, if_pos (by assumption)] <;> rfl
    have eN : rn + (wrL kd).length = rn + 2 := by rw [wrL, if_pos (by assumption)] <;> simp only [List.length_cons, List.length_append, List.length_nil] <;> omega
    have eV : (wrV kd nu x) = ((x * (nI 3)) + nu) := by rw [wrV, if_pos (by assumption)]
    exact ⟨by rw [eV], by rw [eD, eN], rfl⟩

set_option maxHeartbeats 4000000 in
set_option maxRecDepth 100000 in
theorem m_X12_plainLicks (G : GG) (ro : va_W) (a : Nat → Nat) (S I F B T R K D : Nat → Int32) (hI ac sp en iw op mu rd ra ki nu tv : Int32) (rn : Nat) (kd : Nat) (x : Int32) (hkd : kd ≤ 6) (hr : rn + 3 ≤ 20) : Mth G M_X12_plainLicks 3 0 0 [.ref (a 0), .int x] (MW G a S I F B T R K D hI ac sp en iw op mu rd (nI rn) (nI kd) nu tv) ro (fun r ws' ro' => r = some (.int (wrV kd nu x - tv)) ∧ ws' = (MW G a S I F B T R K (putL D rn (2 :: wrL kd)) hI ac sp en iw op mu rd (nI (rn + (2 :: wrL kd).length)) (nI kd) nu tv) ∧ ro = ro') := by
  refine mth_of (by decide +kernel) (Nat.le_of_ble_eq_true rfl) (fun X hC hR => ?_)
  have wl := wrL_len kd
  have l2 : (2 :: wrL kd).length = (wrL kd).length + 1 := rfl
  show Ev G X 0 0 0 [(0, .ref (a 0)), (1, .int x)] [] (MW G a S I F B T R K D hI ac sp en iw op mu rd (nI rn) (nI kd) nu tv) ro
  refine ev_aload_n hC dX12_plainLicks_0 rfl 0 rfl ?_
  refine ev_iconst (v := (nI 2)) hC dX12_plainLicks_1 (by decide) ?_
  refine ev_callV (As := [.int (nI 2)]) (st := []) (wf := []) hC cv_X12_229 (m_X12_ranBody G ro a S I F B T R K D hI ac sp en iw op mu rd (nI rn) (nI kd) nu tv rn 2 (by omega)) (by decide) rfl rfl (Nat.le_of_ble_eq_true rfl) (List.Perm.of_eq (List.append_nil _).symm) (mw 0 rfl) rfl dX12_plainLicks_2 (by decide) (by decide) ?_
  rintro _ _ _ ⟨rfl, rfl, rfl⟩
  refine ev_ws (List.append_nil _) ?_
  show Ev G X 0 0 5 [(0, .ref (a 0)), (1, .int x)] [] (MW G a S I F B T R K (upd D rn (nI 2)) hI ac sp en iw op mu rd (nI (rn + 1)) (nI kd) nu tv) ro
  refine ev_aload_n hC dX12_plainLicks_5 rfl 0 rfl ?_
  refine ev_iload_n hC dX12_plainLicks_6 rfl 1 rfl ?_
  refine ev_callV (As := [.int x]) (st := []) (wf := []) hC cv_X12_244 (m_X12_wrongsActs G ro a S I F B T R K (upd D rn (nI 2)) hI ac sp en iw op mu rd (nI (rn + 1)) (nI kd) nu tv (rn + 1) kd x (by omega) (by omega)) (by decide) rfl rfl (Nat.le_of_ble_eq_true rfl) (List.Perm.of_eq (List.append_nil _).symm) (mw 0 rfl) rfl dX12_plainLicks_7 (by decide) (by decide) ?_
  rintro _ _ _ ⟨rfl, rfl, rfl⟩
  refine ev_ws (List.append_nil _) ?_
  show Ev G X 0 0 10 [(0, .ref (a 0)), (1, .int x)] [.int (wrV kd nu x)] (MW G a S I F B T R K (putL (upd D rn (nI 2)) (rn + 1) (wrL kd)) hI ac sp en iw op mu rd (nI (rn + 1 + (wrL kd).length)) (nI kd) nu tv) ro
  refine ev_aload_n hC dX12_plainLicks_10 rfl 0 rfl ?_
  refine ev_get hC fl_X12_247_12 (mw 0 rfl) rfl dX12_plainLicks_11 ?_
  refine ev_isub hC dX12_plainLicks_14 ?_
  refine ev_iret hC hR rfl dX12_plainLicks_15 ?_
  have eD : putL D rn (2 :: wrL kd) = putL (upd D rn (nI 2)) (rn + 1) (wrL kd) := by rfl
  have eN : rn + (2 :: wrL kd).length = rn + 1 + (wrL kd).length := by simp only [List.length_cons, List.length_append, List.length_nil] <;> omega
  exact ⟨rfl, by rw [eD, eN], rfl⟩

set_option maxHeartbeats 4000000 in
set_option maxRecDepth 100000 in
theorem m_X12_licksActs (G : GG) (ro : va_W) (a : Nat → Nat) (S I F B T R K D : Nat → Int32) (hI ac sp en iw op mu rd ra ki nu tv : Int32) (rn : Nat) (kd : Nat) (x : Int32) (hkd : kd ≤ 6) (hr : rn + 4 ≤ 20) : Mth G M_X12_licksActs 4 0 0 [.ref (a 0), .int x] (MW G a S I F B T R K D hI ac sp en iw op mu rd (nI rn) (nI kd) nu tv) ro (fun r ws' ro' => r = some (.int (licV kd nu tv x)) ∧ ws' = (MW G a S I F B T R K (putL D rn (licL kd)) hI ac sp en iw op mu rd (nI (rn + (licL kd).length)) (nI kd) nu tv) ∧ ro = ro') := by
  refine mth_of (by decide +kernel) (Nat.le_of_ble_eq_true rfl) (fun X hC hR => ?_)
  have wl := wrL_len kd
  have l2 : (2 :: wrL kd).length = (wrL kd).length + 1 := rfl
  show Ev G X 0 0 0 [(0, .ref (a 0)), (1, .int x)] [] (MW G a S I F B T R K D hI ac sp en iw op mu rd (nI rn) (nI kd) nu tv) ro
  refine ev_aload_n hC dX12_licksActs_0 rfl 0 rfl ?_
  refine ev_get hC fl_X12_235_12 (mw 0 rfl) rfl dX12_licksActs_1 ?_
  refine ev_iconst (v := (nI 2)) hC dX12_licksActs_4 (by decide) ?_
  refine ev_callS (As := [.int (nI kd), .int (nI 2)]) (st := []) (wc := []) (wf := (MW G a S I F B T R K D hI ac sp en iw op mu rd (nI rn) (nI kd) nu tv)) hC ct_X12_238 (m_X12_isUnder G ro kd 2 (by omega) (by omega)) (by decide) rfl rfl (Nat.le_of_ble_eq_true rfl) (List.Perm.refl _) dX12_licksActs_5 (by decide) (by decide) ?_
  rintro _ _ _ ⟨rfl, rfl, rfl⟩
  refine ev_ws (List.nil_append _) ?_
  show Ev G X 0 0 8 [(0, .ref (a 0)), (1, .int x)] [.int (bI (undF kd 2))] (MW G a S I F B T R K D hI ac sp en iw op mu rd (nI rn) (nI kd) nu tv) ro
  refine ev_if_eqB (tgt := 24) hC dX12_licksActs_8 (by decide) (fun c_1 => ?_) (fun c_1 => ?_)
  · refine ev_aload_n hC dX12_licksActs_24 rfl 0 rfl ?_
    refine ev_get hC fl_X12_235_12 (mw 0 rfl) rfl dX12_licksActs_25 ?_
    refine ev_bipush (v := (nI 6)) hC dX12_licksActs_28 (by decide) ?_
    refine ev_icmp_neN (tgt := 50) hC dX12_licksActs_30 (by decide) (by omega) (by omega) (fun c_2 => ?_) (fun c_2 => ?_)
    · refine ev_aload_n hC dX12_licksActs_50 rfl 0 rfl ?_
      refine ev_iload_n hC dX12_licksActs_51 rfl 1 rfl ?_
      refine ev_callV (As := [.int x]) (st := []) (wf := []) hC cv_X12_250 (m_X12_plainLicks G ro a S I F B T R K D hI ac sp en iw op mu rd (nI rn) (nI kd) nu tv rn kd x (by omega) (by omega)) (by decide) rfl rfl (Nat.le_of_ble_eq_true rfl) (List.Perm.of_eq (List.append_nil _).symm) (mw 0 rfl) rfl dX12_licksActs_52 (by decide) (by decide) ?_
      rintro _ _ _ ⟨rfl, rfl, rfl⟩
      refine ev_ws (List.append_nil _) ?_
      show Ev G X 0 0 55 [(0, .ref (a 0)), (1, .int x)] [.int (wrV kd nu x - tv)] (MW G a S I F B T R K (putL D rn (2 :: wrL kd)) hI ac sp en iw op mu rd (nI (rn + (2 :: wrL kd).length)) (nI kd) nu tv) ro
      refine ev_iret hC hR rfl dX12_licksActs_55 ?_
      have eD : putL D rn (licL kd) = putL D rn (2 :: wrL kd) := by rw [licL, if_neg (by assumption), if_neg (by assumption)] <;> rfl
      have eN : rn + (licL kd).length = rn + (2 :: wrL kd).length := by rw [licL, if_neg (by assumption), if_neg (by assumption)] <;> simp only [List.length_cons, List.length_append, List.length_nil] <;> omega
      have eV : (licV kd nu tv x) = (wrV kd nu x - tv) := by rw [licV, if_neg (by assumption), if_neg (by assumption)]
      exact ⟨by rw [eV], by rw [eD, eN], rfl⟩
    · refine ev_aload_n hC dX12_licksActs_33 rfl 0 rfl ?_
      refine ev_bipush (v := (nI 61)) hC dX12_licksActs_34 (by decide) ?_
      refine ev_callV (As := [.int (nI 61)]) (st := []) (wf := []) hC cv_X12_229 (m_X12_ranBody G ro a S I F B T R K D hI ac sp en iw op mu rd (nI rn) (nI kd) nu tv rn 61 (by omega)) (by decide) rfl rfl (Nat.le_of_ble_eq_true rfl) (List.Perm.of_eq (List.append_nil _).symm) (mw 0 rfl) rfl dX12_licksActs_36 (by decide) (by decide) ?_
      rintro _ _ _ ⟨rfl, rfl, rfl⟩
      refine ev_ws (List.append_nil _) ?_
      show Ev G X 0 0 39 [(0, .ref (a 0)), (1, .int x)] [] (MW G a S I F B T R K (upd D rn (nI 61)) hI ac sp en iw op mu rd (nI (rn + 1)) (nI kd) nu tv) ro
      refine ev_aload_n hC dX12_licksActs_39 rfl 0 rfl ?_
      refine ev_iload_n hC dX12_licksActs_40 rfl 1 rfl ?_
      refine ev_callV (As := [.int x]) (st := []) (wf := []) hC cv_X12_250 (m_X12_plainLicks G ro a S I F B T R K (upd D rn (nI 61)) hI ac sp en iw op mu rd (nI (rn + 1)) (nI kd) nu tv (rn + 1) kd x (by omega) (by omega)) (by decide) rfl rfl (Nat.le_of_ble_eq_true rfl) (List.Perm.of_eq (List.append_nil _).symm) (mw 0 rfl) rfl dX12_licksActs_41 (by decide) (by decide) ?_
      rintro _ _ _ ⟨rfl, rfl, rfl⟩
      refine ev_ws (List.append_nil _) ?_
      show Ev G X 0 0 44 [(0, .ref (a 0)), (1, .int x)] [.int (wrV kd nu x - tv)] (MW G a S I F B T R K (putL (upd D rn (nI 61)) (rn + 1) (2 :: wrL kd)) hI ac sp en iw op mu rd (nI (rn + 1 + (2 :: wrL kd).length)) (nI kd) nu tv) ro
      refine ev_aload_n hC dX12_licksActs_44 rfl 0 rfl ?_
      refine ev_get hC fl_X12_247_12 (mw 0 rfl) rfl dX12_licksActs_45 ?_
      refine ev_iadd hC dX12_licksActs_48 ?_
      refine ev_iret hC hR rfl dX12_licksActs_49 ?_
      have eD : putL D rn (licL kd) = putL (upd D rn (nI 61)) (rn + 1) (2 :: wrL kd) := by rw [licL, if_neg (by assumption), if_pos (by assumption)] <;> rfl
      have eN : rn + (licL kd).length = rn + 1 + (2 :: wrL kd).length := by rw [licL, if_neg (by assumption), if_pos (by assumption)] <;> simp only [List.length_cons, List.length_append, List.length_nil] <;> omega
      have eV : (licV kd nu tv x) = ((wrV kd nu x - tv) + tv) := by rw [licV, if_neg (by assumption), if_pos (by assumption)]
      exact ⟨by rw [eV], by rw [eD, eN], rfl⟩
  · refine ev_aload_n hC dX12_licksActs_11 rfl 0 rfl ?_
    refine ev_bipush (v := (nI 21)) hC dX12_licksActs_12 (by decide) ?_
    refine ev_callV (As := [.int (nI 21)]) (st := []) (wf := []) hC cv_X12_229 (m_X12_ranBody G ro a S I F B T R K D hI ac sp en iw op mu rd (nI rn) (nI kd) nu tv rn 21 (by omega)) (by decide) rfl rfl (Nat.le_of_ble_eq_true rfl) (List.Perm.of_eq (List.append_nil _).symm) (mw 0 rfl) rfl dX12_licksActs_14 (by decide) (by decide) ?_
    rintro _ _ _ ⟨rfl, rfl, rfl⟩
    refine ev_ws (List.append_nil _) ?_
    show Ev G X 0 0 17 [(0, .ref (a 0)), (1, .int x)] [] (MW G a S I F B T R K (upd D rn (nI 21)) hI ac sp en iw op mu rd (nI (rn + 1)) (nI kd) nu tv) ro
    refine ev_aload_n hC dX12_licksActs_17 rfl 0 rfl ?_
    refine ev_iload_n hC dX12_licksActs_18 rfl 1 rfl ?_
    refine ev_callV (As := [.int x]) (st := []) (wf := []) hC cv_X12_250 (m_X12_plainLicks G ro a S I F B T R K (upd D rn (nI 21)) hI ac sp en iw op mu rd (nI (rn + 1)) (nI kd) nu tv (rn + 1) kd x (by omega) (by omega)) (by decide) rfl rfl (Nat.le_of_ble_eq_true rfl) (List.Perm.of_eq (List.append_nil _).symm) (mw 0 rfl) rfl dX12_licksActs_19 (by decide) (by decide) ?_
    rintro _ _ _ ⟨rfl, rfl, rfl⟩
    refine ev_ws (List.append_nil _) ?_
    show Ev G X 0 0 22 [(0, .ref (a 0)), (1, .int x)] [.int (wrV kd nu x - tv)] (MW G a S I F B T R K (putL (upd D rn (nI 21)) (rn + 1) (2 :: wrL kd)) hI ac sp en iw op mu rd (nI (rn + 1 + (2 :: wrL kd).length)) (nI kd) nu tv) ro
    refine ev_ineg hC dX12_licksActs_22 ?_
    refine ev_iret hC hR rfl dX12_licksActs_23 ?_
    have eD : putL D rn (licL kd) = putL (upd D rn (nI 21)) (rn + 1) (2 :: wrL kd) := by rw [licL, if_pos (by assumption)] <;> rfl
    have eN : rn + (licL kd).length = rn + 1 + (2 :: wrL kd).length := by rw [licL, if_pos (by assumption)] <;> simp only [List.length_cons, List.length_append, List.length_nil] <;> omega
    have eV : (licV kd nu tv x) = (-(wrV kd nu x - tv)) := by rw [licV, if_pos (by assumption)]
    exact ⟨by rw [eV], by rw [eD, eN], rfl⟩

set_option maxHeartbeats 4000000 in
set_option maxRecDepth 100000 in
theorem m_X12_plainTelling (G : GG) (ro : va_W) (a : Nat → Nat) (S I F B T R K D : Nat → Int32) (hI ac sp en iw op mu rd ra ki nu tv : Int32) (rn : Nat) (kd : Nat) (x : Int32) (hkd : kd ≤ 6) (hr : rn + 5 ≤ 20) : Mth G M_X12_plainTelling 5 0 0 [.ref (a 0), .int x] (MW G a S I F B T R K D hI ac sp en iw op mu rd (nI rn) (nI kd) nu tv) ro (fun r ws' ro' => r = some (.int (licV kd nu tv x * nI 2)) ∧ ws' = (MW G a S I F B T R K (putL D rn (3 :: licL kd)) hI ac sp en iw op mu rd (nI (rn + (3 :: licL kd).length)) (nI kd) nu tv) ∧ ro = ro') := by
  refine mth_of (by decide +kernel) (Nat.le_of_ble_eq_true rfl) (fun X hC hR => ?_)
  have wl := wrL_len kd
  have l2 : (2 :: wrL kd).length = (wrL kd).length + 1 := rfl
  have ll := licL_len kd
  show Ev G X 0 0 0 [(0, .ref (a 0)), (1, .int x)] [] (MW G a S I F B T R K D hI ac sp en iw op mu rd (nI rn) (nI kd) nu tv) ro
  refine ev_aload_n hC dX12_plainTelling_0 rfl 0 rfl ?_
  refine ev_iconst (v := (nI 3)) hC dX12_plainTelling_1 (by decide) ?_
  refine ev_callV (As := [.int (nI 3)]) (st := []) (wf := []) hC cv_X12_229 (m_X12_ranBody G ro a S I F B T R K D hI ac sp en iw op mu rd (nI rn) (nI kd) nu tv rn 3 (by omega)) (by decide) rfl rfl (Nat.le_of_ble_eq_true rfl) (List.Perm.of_eq (List.append_nil _).symm) (mw 0 rfl) rfl dX12_plainTelling_2 (by decide) (by decide) ?_
  rintro _ _ _ ⟨rfl, rfl, rfl⟩
  refine ev_ws (List.append_nil _) ?_
  show Ev G X 0 0 5 [(0, .ref (a 0)), (1, .int x)] [] (MW G a S I F B T R K (upd D rn (nI 3)) hI ac sp en iw op mu rd (nI (rn + 1)) (nI kd) nu tv) ro
  refine ev_aload_n hC dX12_plainTelling_5 rfl 0 rfl ?_
  refine ev_iload_n hC dX12_plainTelling_6 rfl 1 rfl ?_
  refine ev_callV (As := [.int x]) (st := []) (wf := []) hC cv_X12_253 (m_X12_licksActs G ro a S I F B T R K (upd D rn (nI 3)) hI ac sp en iw op mu rd (nI (rn + 1)) (nI kd) nu tv (rn + 1) kd x (by omega) (by omega)) (by decide) rfl rfl (Nat.le_of_ble_eq_true rfl) (List.Perm.of_eq (List.append_nil _).symm) (mw 0 rfl) rfl dX12_plainTelling_7 (by decide) (by decide) ?_
  rintro _ _ _ ⟨rfl, rfl, rfl⟩
  refine ev_ws (List.append_nil _) ?_
  show Ev G X 0 0 10 [(0, .ref (a 0)), (1, .int x)] [.int (licV kd nu tv x)] (MW G a S I F B T R K (putL (upd D rn (nI 3)) (rn + 1) (licL kd)) hI ac sp en iw op mu rd (nI (rn + 1 + (licL kd).length)) (nI kd) nu tv) ro
  refine ev_iconst (v := (nI 2)) hC dX12_plainTelling_10 (by decide) ?_
  refine ev_imul hC dX12_plainTelling_11 ?_
  refine ev_iret hC hR rfl dX12_plainTelling_12 ?_
  have eD : putL D rn (3 :: licL kd) = putL (upd D rn (nI 3)) (rn + 1) (licL kd) := by rfl
  have eN : rn + (3 :: licL kd).length = rn + 1 + (licL kd).length := by simp only [List.length_cons, List.length_append, List.length_nil] <;> omega
  exact ⟨rfl, by rw [eD, eN], rfl⟩

set_option maxHeartbeats 4000000 in
set_option maxRecDepth 100000 in
theorem m_X12_tellsActs (G : GG) (ro : va_W) (a : Nat → Nat) (S I F B T R K D : Nat → Int32) (hI ac sp en iw op mu rd ra ki nu tv : Int32) (rn : Nat) (kd : Nat) (x : Int32) (hkd : kd ≤ 6) (hr : rn + 8 ≤ 20) : Mth G M_X12_tellsActs 6 0 0 [.ref (a 0), .int x] (MW G a S I F B T R K D hI ac sp en iw op mu rd (nI rn) (nI kd) nu tv) ro (fun r ws' ro' => r = some (.int (telV kd nu tv x)) ∧ ws' = (MW G a S I F B T R K (putL D rn (telL kd)) hI ac sp en iw op mu rd (nI (rn + (telL kd).length)) (nI kd) nu tv) ∧ ro = ro') := by
  refine mth_of (by decide +kernel) (Nat.le_of_ble_eq_true rfl) (fun X hC hR => ?_)
  have wl := wrL_len kd
  have l2 : (2 :: wrL kd).length = (wrL kd).length + 1 := rfl
  have ll := licL_len kd
  have l3 : (3 :: licL kd).length = (licL kd).length + 1 := rfl
  show Ev G X 0 0 0 [(0, .ref (a 0)), (1, .int x)] [] (MW G a S I F B T R K D hI ac sp en iw op mu rd (nI rn) (nI kd) nu tv) ro
  refine ev_aload_n hC dX12_tellsActs_0 rfl 0 rfl ?_
  refine ev_get hC fl_X12_235_12 (mw 0 rfl) rfl dX12_tellsActs_1 ?_
  refine ev_iconst (v := (nI 3)) hC dX12_tellsActs_4 (by decide) ?_
  refine ev_callS (As := [.int (nI kd), .int (nI 3)]) (st := []) (wc := []) (wf := (MW G a S I F B T R K D hI ac sp en iw op mu rd (nI rn) (nI kd) nu tv)) hC ct_X12_238 (m_X12_isUnder G ro kd 3 (by omega) (by omega)) (by decide) rfl rfl (Nat.le_of_ble_eq_true rfl) (List.Perm.refl _) dX12_tellsActs_5 (by decide) (by decide) ?_
  rintro _ _ _ ⟨rfl, rfl, rfl⟩
  refine ev_ws (List.nil_append _) ?_
  show Ev G X 0 0 8 [(0, .ref (a 0)), (1, .int x)] [.int (bI (undF kd 3))] (MW G a S I F B T R K D hI ac sp en iw op mu rd (nI rn) (nI kd) nu tv) ro
  refine ev_if_eqB (tgt := 26) hC dX12_tellsActs_8 (by decide) (fun c_1 => ?_) (fun c_1 => ?_)
  · refine ev_aload_n hC dX12_tellsActs_26 rfl 0 rfl ?_
    refine ev_get hC fl_X12_235_12 (mw 0 rfl) rfl dX12_tellsActs_27 ?_
    refine ev_iconst (v := (nI 4)) hC dX12_tellsActs_30 (by decide) ?_
    refine ev_icmp_neN (tgt := 56) hC dX12_tellsActs_31 (by decide) (by omega) (by omega) (fun c_2 => ?_) (fun c_2 => ?_)
    · refine ev_aload_n hC dX12_tellsActs_56 rfl 0 rfl ?_
      refine ev_iload_n hC dX12_tellsActs_57 rfl 1 rfl ?_
      refine ev_callV (As := [.int x]) (st := []) (wf := []) hC cv_X12_256 (m_X12_plainTelling G ro a S I F B T R K D hI ac sp en iw op mu rd (nI rn) (nI kd) nu tv rn kd x (by omega) (by omega)) (by decide) rfl rfl (Nat.le_of_ble_eq_true rfl) (List.Perm.of_eq (List.append_nil _).symm) (mw 0 rfl) rfl dX12_tellsActs_58 (by decide) (by decide) ?_
      rintro _ _ _ ⟨rfl, rfl, rfl⟩
      refine ev_ws (List.append_nil _) ?_
      show Ev G X 0 0 61 [(0, .ref (a 0)), (1, .int x)] [.int (licV kd nu tv x * nI 2)] (MW G a S I F B T R K (putL D rn (3 :: licL kd)) hI ac sp en iw op mu rd (nI (rn + (3 :: licL kd).length)) (nI kd) nu tv) ro
      refine ev_iret hC hR rfl dX12_tellsActs_61 ?_
      have eD : putL D rn (telL kd) = putL D rn (3 :: licL kd) := by rw [telL, if_neg (by assumption), if_neg (by assumption)] <;> rfl
      have eN : rn + (telL kd).length = rn + (3 :: licL kd).length := by rw [telL, if_neg (by assumption), if_neg (by assumption)] <;> simp only [List.length_cons, List.length_append, List.length_nil] <;> omega
      have eV : (telV kd nu tv x) = (licV kd nu tv x * nI 2) := by rw [telV, if_neg (by assumption), if_neg (by assumption)]
      exact ⟨by rw [eV], by rw [eD, eN], rfl⟩
    · refine ev_aload_n hC dX12_tellsActs_34 rfl 0 rfl ?_
      refine ev_bipush (v := (nI 41)) hC dX12_tellsActs_35 (by decide) ?_
      refine ev_callV (As := [.int (nI 41)]) (st := []) (wf := []) hC cv_X12_229 (m_X12_ranBody G ro a S I F B T R K D hI ac sp en iw op mu rd (nI rn) (nI kd) nu tv rn 41 (by omega)) (by decide) rfl rfl (Nat.le_of_ble_eq_true rfl) (List.Perm.of_eq (List.append_nil _).symm) (mw 0 rfl) rfl dX12_tellsActs_37 (by decide) (by decide) ?_
      rintro _ _ _ ⟨rfl, rfl, rfl⟩
      refine ev_ws (List.append_nil _) ?_
      show Ev G X 0 0 40 [(0, .ref (a 0)), (1, .int x)] [] (MW G a S I F B T R K (upd D rn (nI 41)) hI ac sp en iw op mu rd (nI (rn + 1)) (nI kd) nu tv) ro
      refine ev_aload_n hC dX12_tellsActs_40 rfl 0 rfl ?_
      refine ev_iload_n hC dX12_tellsActs_41 rfl 1 rfl ?_
      refine ev_iconst (v := (nI 1)) hC dX12_tellsActs_42 (by decide) ?_
      refine ev_isub hC dX12_tellsActs_43 ?_
      refine ev_callV (As := [.int (x - (nI 1))]) (st := []) (wf := []) hC cv_X12_256 (m_X12_plainTelling G ro a S I F B T R K (upd D rn (nI 41)) hI ac sp en iw op mu rd (nI (rn + 1)) (nI kd) nu tv (rn + 1) kd (x - (nI 1)) (by omega) (by omega)) (by decide) rfl rfl (Nat.le_of_ble_eq_true rfl) (List.Perm.of_eq (List.append_nil _).symm) (mw 0 rfl) rfl dX12_tellsActs_44 (by decide) (by decide) ?_
      rintro _ _ _ ⟨rfl, rfl, rfl⟩
      refine ev_ws (List.append_nil _) ?_
      show Ev G X 0 0 47 [(0, .ref (a 0)), (1, .int x)] [.int (licV kd nu tv (x - (nI 1)) * nI 2)] (MW G a S I F B T R K (putL (upd D rn (nI 41)) (rn + 1) (3 :: licL kd)) hI ac sp en iw op mu rd (nI (rn + 1 + (3 :: licL kd).length)) (nI kd) nu tv) ro
      refine ev_istore_n (lv' := [(2, .int (licV kd nu tv (x - (nI 1)) * nI 2)), (0, .ref (a 0)), (1, .int x)]) hC dX12_tellsActs_47 rfl (by decide) rfl ?_
      refine ev_iload_n hC dX12_tellsActs_48 rfl 0 rfl ?_
      refine ev_aload_n hC dX12_tellsActs_49 rfl 1 rfl ?_
      refine ev_iconst (v := (nI 2)) hC dX12_tellsActs_50 (by decide) ?_
      refine ev_callV (As := [.int (nI 2)]) (st := [.int (licV kd nu tv (x - (nI 1)) * nI 2)]) (wf := []) hC cv_X12_244 (m_X12_wrongsActs G ro a S I F B T R K (putL (upd D rn (nI 41)) (rn + 1) (3 :: licL kd)) hI ac sp en iw op mu rd (nI (rn + 1 + (3 :: licL kd).length)) (nI kd) nu tv (rn + 1 + (3 :: licL kd).length) kd (nI 2) (by omega) (by omega)) (by decide) rfl rfl (Nat.le_of_ble_eq_true rfl) (List.Perm.of_eq (List.append_nil _).symm) (mw 0 rfl) rfl dX12_tellsActs_51 (by decide) (by decide) ?_
      rintro _ _ _ ⟨rfl, rfl, rfl⟩
      refine ev_ws (List.append_nil _) ?_
      show Ev G X 0 0 54 [(2, .int (licV kd nu tv (x - (nI 1)) * nI 2)), (0, .ref (a 0)), (1, .int x)] [.int (wrV kd nu (nI 2)), .int (licV kd nu tv (x - (nI 1)) * nI 2)] (MW G a S I F B T R K (putL (putL (upd D rn (nI 41)) (rn + 1) (3 :: licL kd)) (rn + 1 + (3 :: licL kd).length) (wrL kd)) hI ac sp en iw op mu rd (nI (rn + 1 + (3 :: licL kd).length + (wrL kd).length)) (nI kd) nu tv) ro
      refine ev_iadd hC dX12_tellsActs_54 ?_
      refine ev_iret hC hR rfl dX12_tellsActs_55 ?_
      have eD : putL D rn (telL kd) = putL (putL (upd D rn (nI 41)) (rn + 1) (3 :: licL kd)) (rn + 1 + (3 :: licL kd).length) (wrL kd) := by rw [telL, if_neg (by assumption), if_pos (by assumption)] <;> exact putL_app _ _ (3 :: licL kd) (wrL kd)
      have eN : rn + (telL kd).length = rn + 1 + (3 :: licL kd).length + (wrL kd).length := by rw [telL, if_neg (by assumption), if_pos (by assumption)] <;> simp only [List.length_cons, List.length_append, List.length_nil] <;> omega
      have eV : (telV kd nu tv x) = ((licV kd nu tv (x - (nI 1)) * nI 2) + (wrV kd nu (nI 2))) := by rw [telV, if_neg (by assumption), if_pos (by assumption)]
      exact ⟨by rw [eV], by rw [eD, eN], rfl⟩
  · refine ev_aload_n hC dX12_tellsActs_11 rfl 0 rfl ?_
    refine ev_bipush (v := (nI 31)) hC dX12_tellsActs_12 (by decide) ?_
    refine ev_callV (As := [.int (nI 31)]) (st := []) (wf := []) hC cv_X12_229 (m_X12_ranBody G ro a S I F B T R K D hI ac sp en iw op mu rd (nI rn) (nI kd) nu tv rn 31 (by omega)) (by decide) rfl rfl (Nat.le_of_ble_eq_true rfl) (List.Perm.of_eq (List.append_nil _).symm) (mw 0 rfl) rfl dX12_tellsActs_14 (by decide) (by decide) ?_
    rintro _ _ _ ⟨rfl, rfl, rfl⟩
    refine ev_ws (List.append_nil _) ?_
    show Ev G X 0 0 17 [(0, .ref (a 0)), (1, .int x)] [] (MW G a S I F B T R K (upd D rn (nI 31)) hI ac sp en iw op mu rd (nI (rn + 1)) (nI kd) nu tv) ro
    refine ev_aload_n hC dX12_tellsActs_17 rfl 0 rfl ?_
    refine ev_iload_n hC dX12_tellsActs_18 rfl 1 rfl ?_
    refine ev_callV (As := [.int x]) (st := []) (wf := []) hC cv_X12_256 (m_X12_plainTelling G ro a S I F B T R K (upd D rn (nI 31)) hI ac sp en iw op mu rd (nI (rn + 1)) (nI kd) nu tv (rn + 1) kd x (by omega) (by omega)) (by decide) rfl rfl (Nat.le_of_ble_eq_true rfl) (List.Perm.of_eq (List.append_nil _).symm) (mw 0 rfl) rfl dX12_tellsActs_19 (by decide) (by decide) ?_
    rintro _ _ _ ⟨rfl, rfl, rfl⟩
    refine ev_ws (List.append_nil _) ?_
    show Ev G X 0 0 22 [(0, .ref (a 0)), (1, .int x)] [.int (licV kd nu tv x * nI 2)] (MW G a S I F B T R K (putL (upd D rn (nI 31)) (rn + 1) (3 :: licL kd)) hI ac sp en iw op mu rd (nI (rn + 1 + (3 :: licL kd).length)) (nI kd) nu tv) ro
    refine ev_bipush (v := (nI 7)) hC dX12_tellsActs_22 (by decide) ?_
    refine ev_ixor hC dX12_tellsActs_24 ?_
    refine ev_iret hC hR rfl dX12_tellsActs_25 ?_
    have eD : putL D rn (telL kd) = putL (upd D rn (nI 31)) (rn + 1) (3 :: licL kd) := by rw [telL, if_pos (by assumption)] <;> rfl
    have eN : rn + (telL kd).length = rn + 1 + (3 :: licL kd).length := by rw [telL, if_pos (by assumption)] <;> simp only [List.length_cons, List.length_append, List.length_nil] <;> omega
    have eV : (telV kd nu tv x) = ((licV kd nu tv x * nI 2) ^^^ (nI 7)) := by rw [telV, if_pos (by assumption)]
    exact ⟨by rw [eV], by rw [eD, eN], rfl⟩

set_option maxHeartbeats 4000000 in
set_option maxRecDepth 100000 in
theorem m_X12_act (G : GG) (ro : va_W) (a : Nat → Nat) (S I F B T R K D : Nat → Int32) (hI ac sp en iw op mu rd ra ki nu tv : Int32) (p y x : Int32) (hW : WF S 9999 9999) : Mth G M_X12_act 7 0 0 [.ref (a 0), .int p, .int y, .int x] (MW G a S I F B T R K D hI ac sp en iw op mu rd ra ki nu tv) ro (fun r ws' ro' => ∃ (ki' : Int32), ∃ (nu' : Int32), ∃ (tv' : Int32), r = some (.int (actR S p y x)) ∧ ws' = (MW G a S I F B T R K (actD S D p y) hI ac sp en iw op mu rd (nI (actN S p y)) ki' nu' tv') ∧ ro = ro') := by
  refine mth_of (by decide +kernel) (Nat.le_of_ble_eq_true rfl) (fun X hC hR => ?_)
  have b32 := hW.peo.le
  have b33 := hW.tre.le
  have b34 := hW.seen.le
  have b35 := hW.plan.le
  have b36 := hW.book.le
  have b37 := hW.tape.le
  show Ev G X 0 0 0 [(0, .ref (a 0)), (1, .int p), (2, .int y), (3, .int x)] [] (MW G a S I F B T R K D hI ac sp en iw op mu rd ra ki nu tv) ro
  refine ev_aload_n hC dX12_act_0 rfl 0 rfl ?_
  refine ev_iconst (v := (nI 0)) hC dX12_act_1 (by decide) ?_
  refine ev_put (ws' := (MW G a S I F B T R K D hI ac sp en iw op mu rd (nI 0) ki nu tv)) (q0 := 0) hC fp_X12_226_12 rfl (Nat.le_of_ble_eq_true rfl) rfl rfl rfl dX12_act_2 ?_
  refine ev_aload_n hC dX12_act_5 rfl 0 rfl ?_
  refine ev_iload_n hC dX12_act_6 rfl 1 rfl ?_
  refine ev_callV (As := [.int p]) (st := []) (wf := []) hC cv_X12_147 (m_X12_isPerson G ro a S I F B T R K D hI ac sp en iw op mu rd (nI 0) ki nu tv p) (by decide) rfl rfl (Nat.le_of_ble_eq_true rfl) (List.Perm.of_eq (List.append_nil _).symm) (mw 0 rfl) rfl dX12_act_7 (by decide) (by decide) ?_
  rintro _ _ _ ⟨rfl, rfl, rfl⟩
  refine ev_ws (List.append_nil _) ?_
  show Ev G X 0 0 10 [(0, .ref (a 0)), (1, .int p), (2, .int y), (3, .int x)] [.int (bI ((nI 0) ≤ p ∧ p ≤ ((S 32) - nI 1)))] (MW G a S I F B T R K D hI ac sp en iw op mu rd (nI 0) ki nu tv) ro
  refine ev_if_eqB (tgt := 22) hC dX12_act_10 (by decide) (fun c_1 => ?_) (fun c_1 => ?_)
  · refine ev_iconst (v := (nI 0)) hC dX12_act_22 (by decide) ?_
    refine ev_iret hC hR rfl dX12_act_23 ?_
    have eR : actR S p y x = nI 0 := by rw [actR, if_neg (fun h => by first | exact absurd h.1 (by assumption) | exact absurd h.2 (by assumption))]
    have eD : actD S D p y = D := by rw [actD, if_neg (fun h => by first | exact absurd h.1 (by assumption) | exact absurd h.2 (by assumption))]
    have eN : actN S p y = 0 := by rw [actN, if_neg (fun h => by first | exact absurd h.1 (by assumption) | exact absurd h.2 (by assumption))]
    exact ⟨_, _, _, by rw [eR], by rw [eD, eN], rfl⟩
  · refine ev_iload_n hC dX12_act_13 rfl 2 rfl ?_
    refine ev_iconst (v := (nI 0)) hC dX12_act_14 (by decide) ?_
    refine ev_iconst (v := (nI 2)) hC dX12_act_15 (by decide) ?_
    refine ev_callS (As := [.int y, .int (nI 0), .int (nI 2)]) (st := []) (wc := []) (wf := (MW G a S I F B T R K D hI ac sp en iw op mu rd (nI 0) ki nu tv)) hC ct_X12_44 (m_X12_in G ro y (nI 0) (nI 2)) (by decide) rfl rfl (Nat.le_of_ble_eq_true rfl) (List.Perm.refl _) dX12_act_16 (by decide) (by decide) ?_
    rintro _ _ _ ⟨rfl, rfl, rfl⟩
    refine ev_ws (List.nil_append _) ?_
    show Ev G X 0 0 19 [(0, .ref (a 0)), (1, .int p), (2, .int y), (3, .int x)] [.int (bI ((nI 0) ≤ y ∧ y ≤ (nI 2)))] (MW G a S I F B T R K D hI ac sp en iw op mu rd (nI 0) ki nu tv) ro
    refine ev_if_neB (tgt := 24) hC dX12_act_19 (by decide) (fun c_2 => ?_) (fun c_2 => ?_)
    · obtain ⟨pp, hpp, rfl⟩ := isP hW (by assumption)
      have hpn_pp : pn (nI pp) = pp := nI_clamp (by omega)
      obtain ⟨wk, hwk, rfl⟩ := inN (m := 2) (by omega) (by assumption)
      rcases (show wk = 0 ∨ wk = 1 ∨ wk = 2 by omega) with rfl | rfl | rfl
      · refine ev_aload_n hC dX12_act_24 rfl 0 rfl ?_
        refine ev_aload_n hC dX12_act_25 rfl 0 rfl ?_
        refine ev_get hC fl_X12_9_12 (mw 0 rfl) rfl dX12_act_26 ?_
        refine ev_bipush (v := (nI 39)) hC dX12_act_29 (by decide) ?_
        refine ev_iload_n hC dX12_act_31 rfl 1 rfl ?_
        refine ev_iadd hC dX12_act_32 ?_
        refine ev_top (y := (nI (39 + pp))) ((nI_add _ _).trans (congrArg nI (by omega))) ?_
        refine ev_ialdN (i := 39 + pp) hC (mw 1 rfl) (by omega) (by omega) dX12_act_33 ?_
        have bk_3 : NB S (39 + pp) _ := (hW.kind pp (by omega))
        have k_3 := bk_3.eq
        have lk_3 := bk_3.le
        have mk_3 := bk_3.lt
        refine ev_top (y := (nI (sn S (39 + pp)))) k_3 ?_
        refine ev_put (ws' := (MW G a S I F B T R K D hI ac sp en iw op mu rd (nI 0) (nI (sn S (39 + pp))) nu tv)) (q0 := 0) hC fp_X12_235_12 rfl (Nat.le_of_ble_eq_true rfl) rfl rfl rfl dX12_act_34 ?_
        refine ev_aload_n hC dX12_act_37 rfl 0 rfl ?_
        refine ev_iload_n hC dX12_act_38 rfl 1 rfl ?_
        refine ev_put (ws' := (MW G a S I F B T R K D hI ac sp en iw op mu rd (nI 0) (nI (sn S (39 + pp))) (nI pp) tv)) (q0 := 0) hC fp_X12_232_12 rfl (Nat.le_of_ble_eq_true rfl) rfl rfl rfl dX12_act_39 ?_
        refine ev_aload_n hC dX12_act_42 rfl 0 rfl ?_
        refine ev_aload_n hC dX12_act_43 rfl 0 rfl ?_
        refine ev_get hC fl_X12_9_12 (mw 0 rfl) rfl dX12_act_44 ?_
        refine ev_bipush (v := (nI 45)) hC dX12_act_47 (by decide) ?_
        refine ev_iload_n hC dX12_act_49 rfl 1 rfl ?_
        refine ev_iadd hC dX12_act_50 ?_
        refine ev_top (y := (nI (45 + pp))) ((nI_add _ _).trans (congrArg nI (by omega))) ?_
        refine ev_ialdN (i := 45 + pp) hC (mw 1 rfl) (by omega) (by omega) dX12_act_51 ?_
        refine ev_put (ws' := (MW G a S I F B T R K D hI ac sp en iw op mu rd (nI 0) (nI (sn S (39 + pp))) (nI pp) (S (45 + pp)))) (q0 := 0) hC fp_X12_247_12 rfl (Nat.le_of_ble_eq_true rfl) rfl rfl rfl dX12_act_52 ?_
        refine ev_iload_n hC dX12_act_55 rfl 2 rfl ?_
        refine ev_if_neN (tgt := 67) hC dX12_act_56 (by decide) (by omega) (fun c_4 => absurd c_4 (by omega)) (fun c_4 => ?_)
        refine ev_aload_n hC dX12_act_59 rfl 0 rfl ?_
        refine ev_iload_n hC dX12_act_60 rfl 3 rfl ?_
        refine ev_callV (As := [.int x]) (st := []) (wf := []) hC cv_X12_244 (m_X12_wrongsActs G ro a S I F B T R K D hI ac sp en iw op mu rd (nI 0) (nI (sn S (39 + pp))) (nI pp) (S (45 + pp)) 0 (sn S (39 + pp)) x (by omega) (by omega)) (by decide) rfl rfl (Nat.le_of_ble_eq_true rfl) (List.Perm.of_eq (List.append_nil _).symm) (mw 0 rfl) rfl dX12_act_61 (by decide) (by decide) ?_
        rintro _ _ _ ⟨rfl, rfl, rfl⟩
        refine ev_ws (List.append_nil _) ?_
        show Ev G X 0 0 64 [(0, .ref (a 0)), (1, .int (nI pp)), (2, .int (nI 0)), (3, .int x)] [.int (wrV (sn S (39 + pp)) (nI pp) x)] (MW G a S I F B T R K (putL D 0 (wrL (sn S (39 + pp)))) hI ac sp en iw op mu rd (nI (0 + (wrL (sn S (39 + pp))).length)) (nI (sn S (39 + pp))) (nI pp) (S (45 + pp))) ro
        refine ev_goto (tgt := 85) hC dX12_act_64 (by decide) ?_
        refine ev_iret hC hR rfl dX12_act_85 ?_
        have hpa : pn (nI 0) = 0 := nI_clamp (by omega)
        have eR : actR S (nI pp) (nI 0) x = (wrV (sn S (39 + pp)) (nI pp) x) := by rw [actR, if_pos ⟨by assumption, by assumption⟩, hpn_pp, hpa, actV, if_pos rfl]
        have eD : actD S D (nI pp) (nI 0) = putL D 0 (wrL (sn S (39 + pp))) := by rw [actD, if_pos ⟨by assumption, by assumption⟩, hpn_pp, hpa, actL, if_pos rfl]
        have eN : actN S (nI pp) (nI 0) = 0 + (wrL (sn S (39 + pp))).length := by rw [actN, if_pos ⟨by assumption, by assumption⟩, hpn_pp, hpa, actL, if_pos rfl, Nat.zero_add]
        exact ⟨_, _, _, by rw [eR], by rw [eD, eN], rfl⟩
      · refine ev_aload_n hC dX12_act_24 rfl 0 rfl ?_
        refine ev_aload_n hC dX12_act_25 rfl 0 rfl ?_
        refine ev_get hC fl_X12_9_12 (mw 0 rfl) rfl dX12_act_26 ?_
        refine ev_bipush (v := (nI 39)) hC dX12_act_29 (by decide) ?_
        refine ev_iload_n hC dX12_act_31 rfl 1 rfl ?_
        refine ev_iadd hC dX12_act_32 ?_
        refine ev_top (y := (nI (39 + pp))) ((nI_add _ _).trans (congrArg nI (by omega))) ?_
        refine ev_ialdN (i := 39 + pp) hC (mw 1 rfl) (by omega) (by omega) dX12_act_33 ?_
        have bk_5 : NB S (39 + pp) _ := (hW.kind pp (by omega))
        have k_5 := bk_5.eq
        have lk_5 := bk_5.le
        have mk_5 := bk_5.lt
        refine ev_top (y := (nI (sn S (39 + pp)))) k_5 ?_
        refine ev_put (ws' := (MW G a S I F B T R K D hI ac sp en iw op mu rd (nI 0) (nI (sn S (39 + pp))) nu tv)) (q0 := 0) hC fp_X12_235_12 rfl (Nat.le_of_ble_eq_true rfl) rfl rfl rfl dX12_act_34 ?_
        refine ev_aload_n hC dX12_act_37 rfl 0 rfl ?_
        refine ev_iload_n hC dX12_act_38 rfl 1 rfl ?_
        refine ev_put (ws' := (MW G a S I F B T R K D hI ac sp en iw op mu rd (nI 0) (nI (sn S (39 + pp))) (nI pp) tv)) (q0 := 0) hC fp_X12_232_12 rfl (Nat.le_of_ble_eq_true rfl) rfl rfl rfl dX12_act_39 ?_
        refine ev_aload_n hC dX12_act_42 rfl 0 rfl ?_
        refine ev_aload_n hC dX12_act_43 rfl 0 rfl ?_
        refine ev_get hC fl_X12_9_12 (mw 0 rfl) rfl dX12_act_44 ?_
        refine ev_bipush (v := (nI 45)) hC dX12_act_47 (by decide) ?_
        refine ev_iload_n hC dX12_act_49 rfl 1 rfl ?_
        refine ev_iadd hC dX12_act_50 ?_
        refine ev_top (y := (nI (45 + pp))) ((nI_add _ _).trans (congrArg nI (by omega))) ?_
        refine ev_ialdN (i := 45 + pp) hC (mw 1 rfl) (by omega) (by omega) dX12_act_51 ?_
        refine ev_put (ws' := (MW G a S I F B T R K D hI ac sp en iw op mu rd (nI 0) (nI (sn S (39 + pp))) (nI pp) (S (45 + pp)))) (q0 := 0) hC fp_X12_247_12 rfl (Nat.le_of_ble_eq_true rfl) rfl rfl rfl dX12_act_52 ?_
        refine ev_iload_n hC dX12_act_55 rfl 2 rfl ?_
        refine ev_if_neN (tgt := 67) hC dX12_act_56 (by decide) (by omega) (fun c_6 => ?_) (fun c_6 => absurd c_6 (by omega))
        refine ev_iload_n hC dX12_act_67 rfl 2 rfl ?_
        refine ev_iconst (v := (nI 1)) hC dX12_act_68 (by decide) ?_
        refine ev_icmp_neN (tgt := 80) hC dX12_act_69 (by decide) (by omega) (by omega) (fun c_7 => absurd c_7 (by omega)) (fun c_7 => ?_)
        refine ev_aload_n hC dX12_act_72 rfl 0 rfl ?_
        refine ev_iload_n hC dX12_act_73 rfl 3 rfl ?_
        refine ev_callV (As := [.int x]) (st := []) (wf := []) hC cv_X12_253 (m_X12_licksActs G ro a S I F B T R K D hI ac sp en iw op mu rd (nI 0) (nI (sn S (39 + pp))) (nI pp) (S (45 + pp)) 0 (sn S (39 + pp)) x (by omega) (by omega)) (by decide) rfl rfl (Nat.le_of_ble_eq_true rfl) (List.Perm.of_eq (List.append_nil _).symm) (mw 0 rfl) rfl dX12_act_74 (by decide) (by decide) ?_
        rintro _ _ _ ⟨rfl, rfl, rfl⟩
        refine ev_ws (List.append_nil _) ?_
        show Ev G X 0 0 77 [(0, .ref (a 0)), (1, .int (nI pp)), (2, .int (nI 1)), (3, .int x)] [.int (licV (sn S (39 + pp)) (nI pp) (S (45 + pp)) x)] (MW G a S I F B T R K (putL D 0 (licL (sn S (39 + pp)))) hI ac sp en iw op mu rd (nI (0 + (licL (sn S (39 + pp))).length)) (nI (sn S (39 + pp))) (nI pp) (S (45 + pp))) ro
        refine ev_goto (tgt := 85) hC dX12_act_77 (by decide) ?_
        refine ev_iret hC hR rfl dX12_act_85 ?_
        have hpa : pn (nI 1) = 1 := nI_clamp (by omega)
        have eR : actR S (nI pp) (nI 1) x = (licV (sn S (39 + pp)) (nI pp) (S (45 + pp)) x) := by rw [actR, if_pos ⟨by assumption, by assumption⟩, hpn_pp, hpa, actV, if_neg (by decide), if_pos rfl]
        have eD : actD S D (nI pp) (nI 1) = putL D 0 (licL (sn S (39 + pp))) := by rw [actD, if_pos ⟨by assumption, by assumption⟩, hpn_pp, hpa, actL, if_neg (by decide), if_pos rfl]
        have eN : actN S (nI pp) (nI 1) = 0 + (licL (sn S (39 + pp))).length := by rw [actN, if_pos ⟨by assumption, by assumption⟩, hpn_pp, hpa, actL, if_neg (by decide), if_pos rfl, Nat.zero_add]
        exact ⟨_, _, _, by rw [eR], by rw [eD, eN], rfl⟩
      · refine ev_aload_n hC dX12_act_24 rfl 0 rfl ?_
        refine ev_aload_n hC dX12_act_25 rfl 0 rfl ?_
        refine ev_get hC fl_X12_9_12 (mw 0 rfl) rfl dX12_act_26 ?_
        refine ev_bipush (v := (nI 39)) hC dX12_act_29 (by decide) ?_
        refine ev_iload_n hC dX12_act_31 rfl 1 rfl ?_
        refine ev_iadd hC dX12_act_32 ?_
        refine ev_top (y := (nI (39 + pp))) ((nI_add _ _).trans (congrArg nI (by omega))) ?_
        refine ev_ialdN (i := 39 + pp) hC (mw 1 rfl) (by omega) (by omega) dX12_act_33 ?_
        have bk_8 : NB S (39 + pp) _ := (hW.kind pp (by omega))
        have k_8 := bk_8.eq
        have lk_8 := bk_8.le
        have mk_8 := bk_8.lt
        refine ev_top (y := (nI (sn S (39 + pp)))) k_8 ?_
        refine ev_put (ws' := (MW G a S I F B T R K D hI ac sp en iw op mu rd (nI 0) (nI (sn S (39 + pp))) nu tv)) (q0 := 0) hC fp_X12_235_12 rfl (Nat.le_of_ble_eq_true rfl) rfl rfl rfl dX12_act_34 ?_
        refine ev_aload_n hC dX12_act_37 rfl 0 rfl ?_
        refine ev_iload_n hC dX12_act_38 rfl 1 rfl ?_
        refine ev_put (ws' := (MW G a S I F B T R K D hI ac sp en iw op mu rd (nI 0) (nI (sn S (39 + pp))) (nI pp) tv)) (q0 := 0) hC fp_X12_232_12 rfl (Nat.le_of_ble_eq_true rfl) rfl rfl rfl dX12_act_39 ?_
        refine ev_aload_n hC dX12_act_42 rfl 0 rfl ?_
        refine ev_aload_n hC dX12_act_43 rfl 0 rfl ?_
        refine ev_get hC fl_X12_9_12 (mw 0 rfl) rfl dX12_act_44 ?_
        refine ev_bipush (v := (nI 45)) hC dX12_act_47 (by decide) ?_
        refine ev_iload_n hC dX12_act_49 rfl 1 rfl ?_
        refine ev_iadd hC dX12_act_50 ?_
        refine ev_top (y := (nI (45 + pp))) ((nI_add _ _).trans (congrArg nI (by omega))) ?_
        refine ev_ialdN (i := 45 + pp) hC (mw 1 rfl) (by omega) (by omega) dX12_act_51 ?_
        refine ev_put (ws' := (MW G a S I F B T R K D hI ac sp en iw op mu rd (nI 0) (nI (sn S (39 + pp))) (nI pp) (S (45 + pp)))) (q0 := 0) hC fp_X12_247_12 rfl (Nat.le_of_ble_eq_true rfl) rfl rfl rfl dX12_act_52 ?_
        refine ev_iload_n hC dX12_act_55 rfl 2 rfl ?_
        refine ev_if_neN (tgt := 67) hC dX12_act_56 (by decide) (by omega) (fun c_9 => ?_) (fun c_9 => absurd c_9 (by omega))
        refine ev_iload_n hC dX12_act_67 rfl 2 rfl ?_
        refine ev_iconst (v := (nI 1)) hC dX12_act_68 (by decide) ?_
        refine ev_icmp_neN (tgt := 80) hC dX12_act_69 (by decide) (by omega) (by omega) (fun c_10 => ?_) (fun c_10 => absurd c_10 (by omega))
        refine ev_aload_n hC dX12_act_80 rfl 0 rfl ?_
        refine ev_iload_n hC dX12_act_81 rfl 3 rfl ?_
        refine ev_callV (As := [.int x]) (st := []) (wf := []) hC cv_X12_259 (m_X12_tellsActs G ro a S I F B T R K D hI ac sp en iw op mu rd (nI 0) (nI (sn S (39 + pp))) (nI pp) (S (45 + pp)) 0 (sn S (39 + pp)) x (by omega) (by omega)) (by decide) rfl rfl (Nat.le_of_ble_eq_true rfl) (List.Perm.of_eq (List.append_nil _).symm) (mw 0 rfl) rfl dX12_act_82 (by decide) (by decide) ?_
        rintro _ _ _ ⟨rfl, rfl, rfl⟩
        refine ev_ws (List.append_nil _) ?_
        show Ev G X 0 0 85 [(0, .ref (a 0)), (1, .int (nI pp)), (2, .int (nI 2)), (3, .int x)] [.int (telV (sn S (39 + pp)) (nI pp) (S (45 + pp)) x)] (MW G a S I F B T R K (putL D 0 (telL (sn S (39 + pp)))) hI ac sp en iw op mu rd (nI (0 + (telL (sn S (39 + pp))).length)) (nI (sn S (39 + pp))) (nI pp) (S (45 + pp))) ro
        refine ev_iret hC hR rfl dX12_act_85 ?_
        have hpa : pn (nI 2) = 2 := nI_clamp (by omega)
        have eR : actR S (nI pp) (nI 2) x = (telV (sn S (39 + pp)) (nI pp) (S (45 + pp)) x) := by rw [actR, if_pos ⟨by assumption, by assumption⟩, hpn_pp, hpa, actV, if_neg (by decide), if_neg (by decide)]
        have eD : actD S D (nI pp) (nI 2) = putL D 0 (telL (sn S (39 + pp))) := by rw [actD, if_pos ⟨by assumption, by assumption⟩, hpn_pp, hpa, actL, if_neg (by decide), if_neg (by decide)]
        have eN : actN S (nI pp) (nI 2) = 0 + (telL (sn S (39 + pp))).length := by rw [actN, if_pos ⟨by assumption, by assumption⟩, hpn_pp, hpa, actL, if_neg (by decide), if_neg (by decide), Nat.zero_add]
        exact ⟨_, _, _, by rw [eR], by rw [eD, eN], rfl⟩
    · refine ev_iconst (v := (nI 0)) hC dX12_act_22 (by decide) ?_
      refine ev_iret hC hR rfl dX12_act_23 ?_
      have eR : actR S p y x = nI 0 := by rw [actR, if_neg (fun h => by first | exact absurd h.1 (by assumption) | exact absurd h.2 (by assumption))]
      have eD : actD S D p y = D := by rw [actD, if_neg (fun h => by first | exact absurd h.1 (by assumption) | exact absurd h.2 (by assumption))]
      have eN : actN S p y = 0 := by rw [actN, if_neg (fun h => by first | exact absurd h.1 (by assumption) | exact absurd h.2 (by assumption))]
      exact ⟨_, _, _, by rw [eR], by rw [eD, eN], rfl⟩

set_option maxHeartbeats 4000000 in
set_option maxRecDepth 100000 in
theorem m_X12_trace (G : GG) (ro : va_W) (a : Nat → Nat) (S I F B T R K D : Nat → Int32) (hI ac sp en iw op mu rd ra ki nu tv : Int32) (rn : Nat) (x : Int32) (hrn : rn ≤ 20) : Mth G M_X12_trace 1 0 0 [.ref (a 0), .int x] (MW G a S I F B T R K D hI ac sp en iw op mu rd (nI rn) ki nu tv) ro (fun r ws' ro' => r = some (.int (traceR D rn x)) ∧ ws' = (MW G a S I F B T R K D hI ac sp en iw op mu rd (nI rn) ki nu tv) ∧ ro = ro') := by
  refine mth_of (by decide +kernel) (Nat.le_of_ble_eq_true rfl) (fun X hC hR => ?_)
  show Ev G X 0 0 0 [(0, .ref (a 0)), (1, .int x)] [] (MW G a S I F B T R K D hI ac sp en iw op mu rd (nI rn) ki nu tv) ro
  refine ev_iload_n hC dX12_trace_0 rfl 1 rfl ?_
  refine ev_iconst (v := (nI 0)) hC dX12_trace_1 (by decide) ?_
  refine ev_aload_n hC dX12_trace_2 rfl 0 rfl ?_
  refine ev_get hC fl_X12_226_12 (mw 0 rfl) rfl dX12_trace_3 ?_
  refine ev_bipush (v := (nI 20)) hC dX12_trace_6 (by decide) ?_
  refine ev_icmp_geN (tgt := 18) hC dX12_trace_8 (by decide) (by omega) (by omega) (fun c_1 => ?_) (fun c_1 => ?_)
  · refine ev_bipush (v := (nI 20)) hC dX12_trace_18 (by decide) ?_
    refine ev_iconst (v := (nI 1)) hC dX12_trace_20 (by decide) ?_
    refine ev_isub hC dX12_trace_21 ?_
    refine ev_top (y := (nI 19)) ((pk_sub (by omega)).trans (congrArg nI (by omega))) ?_
    refine ev_callS (As := [.int x, .int (nI 0), .int (nI 19)]) (st := []) (wc := []) (wf := (MW G a S I F B T R K D hI ac sp en iw op mu rd (nI rn) ki nu tv)) hC ct_X12_44 (m_X12_in G ro x (nI 0) (nI 19)) (by decide) rfl rfl (Nat.le_of_ble_eq_true rfl) (List.Perm.refl _) dX12_trace_22 (by decide) (by decide) ?_
    rintro _ _ _ ⟨rfl, rfl, rfl⟩
    refine ev_ws (List.nil_append _) ?_
    show Ev G X 0 0 25 [(0, .ref (a 0)), (1, .int x)] [.int (bI ((nI 0) ≤ x ∧ x ≤ (nI 19)))] (MW G a S I F B T R K D hI ac sp en iw op mu rd (nI rn) ki nu tv) ro
    refine ev_if_eqB (tgt := 37) hC dX12_trace_25 (by decide) (fun c_2 => ?_) (fun c_2 => ?_)
    · refine ev_iconst (v := (-1)) hC dX12_trace_37 (by decide) ?_
      refine ev_iret hC hR rfl dX12_trace_38 ?_
      have er : traceR D rn x = (-1) := by rw [traceR, show rn = 20 by omega, show nI 20 - nI 1 = nI 19 by decide, if_neg (by assumption)]
      exact ⟨by rw [er], rfl, rfl⟩
    · obtain ⟨j, hj, rfl⟩ := inN (m := 19) (by omega) (by assumption)
      have hpj : pn (nI j) = j := nI_clamp (by omega)
      refine ev_aload_n hC dX12_trace_28 rfl 0 rfl ?_
      refine ev_get hC fl_X12_38_12 (mw 0 rfl) rfl dX12_trace_29 ?_
      refine ev_iload_n hC dX12_trace_32 rfl 1 rfl ?_
      refine ev_ialdN (i := j) hC (mw 8 rfl) (by omega) (by omega) dX12_trace_33 ?_
      refine ev_goto (tgt := 38) hC dX12_trace_34 (by decide) ?_
      refine ev_iret hC hR rfl dX12_trace_38 ?_
      have er : traceR D rn (nI j) = (D j) := by rw [traceR, show rn = 20 by omega, show nI 20 - nI 1 = nI 19 by decide, if_pos (by assumption), hpj]
      exact ⟨by rw [er], rfl, rfl⟩
  · refine ev_aload_n hC dX12_trace_11 rfl 0 rfl ?_
    refine ev_get hC fl_X12_226_12 (mw 0 rfl) rfl dX12_trace_12 ?_
    refine ev_goto (tgt := 20) hC dX12_trace_15 (by decide) ?_
    refine ev_iconst (v := (nI 1)) hC dX12_trace_20 (by decide) ?_
    refine ev_isub hC dX12_trace_21 ?_
    refine ev_callS (As := [.int x, .int (nI 0), .int ((nI rn) - (nI 1))]) (st := []) (wc := []) (wf := (MW G a S I F B T R K D hI ac sp en iw op mu rd (nI rn) ki nu tv)) hC ct_X12_44 (m_X12_in G ro x (nI 0) ((nI rn) - (nI 1))) (by decide) rfl rfl (Nat.le_of_ble_eq_true rfl) (List.Perm.refl _) dX12_trace_22 (by decide) (by decide) ?_
    rintro _ _ _ ⟨rfl, rfl, rfl⟩
    refine ev_ws (List.nil_append _) ?_
    show Ev G X 0 0 25 [(0, .ref (a 0)), (1, .int x)] [.int (bI ((nI 0) ≤ x ∧ x ≤ ((nI rn) - (nI 1))))] (MW G a S I F B T R K D hI ac sp en iw op mu rd (nI rn) ki nu tv) ro
    refine ev_if_eqB (tgt := 37) hC dX12_trace_25 (by decide) (fun c_3 => ?_) (fun c_3 => ?_)
    · refine ev_iconst (v := (-1)) hC dX12_trace_37 (by decide) ?_
      refine ev_iret hC hR rfl dX12_trace_38 ?_
      have er : traceR D rn x = (-1) := by rw [traceR, if_neg (by assumption)]
      exact ⟨by rw [er], rfl, rfl⟩
    · obtain ⟨j, hj, rfl⟩ := inR (r := rn) (by omega) (by assumption)
      have hpj : pn (nI j) = j := nI_clamp (by omega)
      refine ev_aload_n hC dX12_trace_28 rfl 0 rfl ?_
      refine ev_get hC fl_X12_38_12 (mw 0 rfl) rfl dX12_trace_29 ?_
      refine ev_iload_n hC dX12_trace_32 rfl 1 rfl ?_
      refine ev_ialdN (i := j) hC (mw 8 rfl) (by omega) (by omega) dX12_trace_33 ?_
      refine ev_goto (tgt := 38) hC dX12_trace_34 (by decide) ?_
      refine ev_iret hC hR rfl dX12_trace_38 ?_
      have er : traceR D rn (nI j) = (D j) := by rw [traceR, if_pos (by assumption), hpj]
      exact ⟨by rw [er], rfl, rfl⟩

set_option maxHeartbeats 4000000 in
set_option maxRecDepth 100000 in
theorem m_X12_as (G : GG) (ro : va_W) (a : Nat → Nat) (S I F B T R K D : Nat → Int32) (hI ac sp en iw op mu rd ra ki nu tv : Int32) (p k : Int32) (hW : WF S 9999 9999) : Mth G M_X12_as 2 0 0 [.ref (a 0), .int p, .int k] (MW G a S I F B T R K D hI ac sp en iw op mu rd ra ki nu tv) ro (fun r ws' ro' => r = some (.int (asR S p k)) ∧ ws' = (MW G a S I F B T R K D hI ac sp en iw op mu rd ra ki nu tv) ∧ ro = ro') := by
  refine mth_of (by decide +kernel) (Nat.le_of_ble_eq_true rfl) (fun X hC hR => ?_)
  have b32 := hW.peo.le
  have b33 := hW.tre.le
  have b34 := hW.seen.le
  have b35 := hW.plan.le
  have b36 := hW.book.le
  have b37 := hW.tape.le
  show Ev G X 0 0 0 [(0, .ref (a 0)), (1, .int p), (2, .int k)] [] (MW G a S I F B T R K D hI ac sp en iw op mu rd ra ki nu tv) ro
  refine ev_aload_n hC dX12_as_0 rfl 0 rfl ?_
  refine ev_iload_n hC dX12_as_1 rfl 1 rfl ?_
  refine ev_callV (As := [.int p]) (st := []) (wf := []) hC cv_X12_147 (m_X12_isPerson G ro a S I F B T R K D hI ac sp en iw op mu rd ra ki nu tv p) (by decide) rfl rfl (Nat.le_of_ble_eq_true rfl) (List.Perm.of_eq (List.append_nil _).symm) (mw 0 rfl) rfl dX12_as_2 (by decide) (by decide) ?_
  rintro _ _ _ ⟨rfl, rfl, rfl⟩
  refine ev_ws (List.append_nil _) ?_
  show Ev G X 0 0 5 [(0, .ref (a 0)), (1, .int p), (2, .int k)] [.int (bI ((nI 0) ≤ p ∧ p ≤ ((S 32) - nI 1)))] (MW G a S I F B T R K D hI ac sp en iw op mu rd ra ki nu tv) ro
  refine ev_if_eqB (tgt := 18) hC dX12_as_5 (by decide) (fun c_1 => ?_) (fun c_1 => ?_)
  · refine ev_iconst (v := (-1)) hC dX12_as_18 (by decide) ?_
    refine ev_iret hC hR rfl dX12_as_19 ?_
    have er : asR S p k = -1 := by rw [asR, if_neg (fun h => by first | exact absurd h.1 (by assumption) | exact absurd h.2 (by assumption))]
    exact ⟨by rw [er], rfl, rfl⟩
  · refine ev_iload_n hC dX12_as_8 rfl 2 rfl ?_
    refine ev_iconst (v := (nI 0)) hC dX12_as_9 (by decide) ?_
    refine ev_bipush (v := (nI 6)) hC dX12_as_10 (by decide) ?_
    refine ev_callS (As := [.int k, .int (nI 0), .int (nI 6)]) (st := []) (wc := []) (wf := (MW G a S I F B T R K D hI ac sp en iw op mu rd ra ki nu tv)) hC ct_X12_44 (m_X12_in G ro k (nI 0) (nI 6)) (by decide) rfl rfl (Nat.le_of_ble_eq_true rfl) (List.Perm.refl _) dX12_as_12 (by decide) (by decide) ?_
    rintro _ _ _ ⟨rfl, rfl, rfl⟩
    refine ev_ws (List.nil_append _) ?_
    show Ev G X 0 0 15 [(0, .ref (a 0)), (1, .int p), (2, .int k)] [.int (bI ((nI 0) ≤ k ∧ k ≤ (nI 6)))] (MW G a S I F B T R K D hI ac sp en iw op mu rd ra ki nu tv) ro
    refine ev_if_neB (tgt := 20) hC dX12_as_15 (by decide) (fun c_2 => ?_) (fun c_2 => ?_)
    · obtain ⟨pp, hpp, rfl⟩ := isP hW (by assumption)
      have hpn_pp : pn (nI pp) = pp := nI_clamp (by omega)
      obtain ⟨kk, hkk, rfl⟩ := inN (m := 6) (by omega) (by assumption)
      have hpn_kk : pn (nI kk) = kk := nI_clamp (by omega)
      refine ev_aload_n hC dX12_as_20 rfl 0 rfl ?_
      refine ev_get hC fl_X12_9_12 (mw 0 rfl) rfl dX12_as_21 ?_
      refine ev_bipush (v := (nI 39)) hC dX12_as_24 (by decide) ?_
      refine ev_iload_n hC dX12_as_26 rfl 1 rfl ?_
      refine ev_iadd hC dX12_as_27 ?_
      refine ev_top (y := (nI (39 + pp))) ((nI_add _ _).trans (congrArg nI (by omega))) ?_
      refine ev_ialdN (i := 39 + pp) hC (mw 1 rfl) (by omega) (by omega) dX12_as_28 ?_
      have bk_3 : NB S (39 + pp) _ := (hW.kind pp (by omega))
      have k_3 := bk_3.eq
      have lk_3 := bk_3.le
      have mk_3 := bk_3.lt
      refine ev_top (y := (nI (sn S (39 + pp)))) k_3 ?_
      refine ev_iload_n hC dX12_as_29 rfl 2 rfl ?_
      refine ev_callS (As := [.int (nI (sn S (39 + pp))), .int (nI kk)]) (st := []) (wc := []) (wf := (MW G a S I F B T R K D hI ac sp en iw op mu rd ra ki nu tv)) hC ct_X12_238 (m_X12_isUnder G ro (sn S (39 + pp)) kk (by omega) (by omega)) (by decide) rfl rfl (Nat.le_of_ble_eq_true rfl) (List.Perm.refl _) dX12_as_30 (by decide) (by decide) ?_
      rintro _ _ _ ⟨rfl, rfl, rfl⟩
      refine ev_ws (List.nil_append _) ?_
      show Ev G X 0 0 33 [(0, .ref (a 0)), (1, .int (nI pp)), (2, .int (nI kk))] [.int (bI (undF (sn S (39 + pp)) kk))] (MW G a S I F B T R K D hI ac sp en iw op mu rd ra ki nu tv) ro
      refine ev_if_eqB (tgt := 48) hC dX12_as_33 (by decide) (fun c_4 => ?_) (fun c_4 => ?_)
      · refine ev_bipush (v := (-6)) hC dX12_as_48 (by decide) ?_
        refine ev_iret hC hR rfl dX12_as_50 ?_
        have er : asR S (nI pp) (nI kk) = (-6) := by rw [asR, if_pos ⟨by assumption, by assumption⟩, hpn_pp, hpn_kk, if_neg (by assumption)]
        exact ⟨by rw [er], rfl, rfl⟩
      · refine ev_aload_n hC dX12_as_36 rfl 0 rfl ?_
        refine ev_get hC fl_X12_9_12 (mw 0 rfl) rfl dX12_as_37 ?_
        refine ev_bipush (v := (nI 45)) hC dX12_as_40 (by decide) ?_
        refine ev_iload_n hC dX12_as_42 rfl 1 rfl ?_
        refine ev_iadd hC dX12_as_43 ?_
        refine ev_top (y := (nI (45 + pp))) ((nI_add _ _).trans (congrArg nI (by omega))) ?_
        refine ev_ialdN (i := 45 + pp) hC (mw 1 rfl) (by omega) (by omega) dX12_as_44 ?_
        refine ev_goto (tgt := 50) hC dX12_as_45 (by decide) ?_
        refine ev_iret hC hR rfl dX12_as_50 ?_
        have er : asR S (nI pp) (nI kk) = (S (45 + pp)) := by rw [asR, if_pos ⟨by assumption, by assumption⟩, hpn_pp, hpn_kk, if_pos (by assumption)]
        exact ⟨by rw [er], rfl, rfl⟩
    · refine ev_iconst (v := (-1)) hC dX12_as_18 (by decide) ?_
      refine ev_iret hC hR rfl dX12_as_19 ?_
      have er : asR S p k = -1 := by rw [asR, if_neg (fun h => by first | exact absurd h.1 (by assumption) | exact absurd h.2 (by assumption))]
      exact ⟨by rw [er], rfl, rfl⟩

set_option maxHeartbeats 4000000 in
set_option maxRecDepth 100000 in
theorem m_X12_of (G : GG) (ro : va_W) (a : Nat → Nat) (S I F B T R K D : Nat → Int32) (hI ac sp en iw op mu rd ra ki nu tv : Int32) (p w : Int32) (hW : WF S 9999 9999) : Mth G M_X12_of 3 0 0 [.ref (a 0), .int p, .int w] (MW G a S I F B T R K D hI ac sp en iw op mu rd ra ki nu tv) ro (fun r ws' ro' => ∃ (B' : Nat → Int32), ∃ (T' : Nat → Int32), r = some (.int (ofR S p w)) ∧ ws' = (MW G a S I F B' T' R K D hI ac sp en iw op mu rd ra ki nu tv) ∧ ro = ro') := by
  refine mth_of (by decide +kernel) (Nat.le_of_ble_eq_true rfl) (fun X hC hR => ?_)
  have b32 := hW.peo.le
  have b33 := hW.tre.le
  have b34 := hW.seen.le
  have b35 := hW.plan.le
  have b36 := hW.book.le
  have b37 := hW.tape.le
  show Ev G X 0 0 0 [(0, .ref (a 0)), (1, .int p), (2, .int w)] [] (MW G a S I F B T R K D hI ac sp en iw op mu rd ra ki nu tv) ro
  refine ev_aload_n hC dX12_of_0 rfl 0 rfl ?_
  refine ev_iload_n hC dX12_of_1 rfl 1 rfl ?_
  refine ev_callV (As := [.int p]) (st := []) (wf := []) hC cv_X12_147 (m_X12_isPerson G ro a S I F B T R K D hI ac sp en iw op mu rd ra ki nu tv p) (by decide) rfl rfl (Nat.le_of_ble_eq_true rfl) (List.Perm.of_eq (List.append_nil _).symm) (mw 0 rfl) rfl dX12_of_2 (by decide) (by decide) ?_
  rintro _ _ _ ⟨rfl, rfl, rfl⟩
  refine ev_ws (List.append_nil _) ?_
  show Ev G X 0 0 5 [(0, .ref (a 0)), (1, .int p), (2, .int w)] [.int (bI ((nI 0) ≤ p ∧ p ≤ ((S 32) - nI 1)))] (MW G a S I F B T R K D hI ac sp en iw op mu rd ra ki nu tv) ro
  refine ev_if_eqB (tgt := 18) hC dX12_of_5 (by decide) (fun c_1 => ?_) (fun c_1 => ?_)
  · refine ev_sipush (v := (-10001)) hC dX12_of_18 (by decide) ?_
    refine ev_iret hC hR rfl dX12_of_21 ?_
    have er : ofR S p w = -10001 := by rw [ofR, if_neg (fun h => by first | exact absurd h.1 (by assumption) | exact absurd h.2 (by assumption))]
    exact ⟨_, _, by rw [er], rfl, rfl⟩
  · refine ev_iload_n hC dX12_of_8 rfl 2 rfl ?_
    refine ev_iconst (v := (nI 0)) hC dX12_of_9 (by decide) ?_
    refine ev_bipush (v := (nI 7)) hC dX12_of_10 (by decide) ?_
    refine ev_callS (As := [.int w, .int (nI 0), .int (nI 7)]) (st := []) (wc := []) (wf := (MW G a S I F B T R K D hI ac sp en iw op mu rd ra ki nu tv)) hC ct_X12_44 (m_X12_in G ro w (nI 0) (nI 7)) (by decide) rfl rfl (Nat.le_of_ble_eq_true rfl) (List.Perm.refl _) dX12_of_12 (by decide) (by decide) ?_
    rintro _ _ _ ⟨rfl, rfl, rfl⟩
    refine ev_ws (List.nil_append _) ?_
    show Ev G X 0 0 15 [(0, .ref (a 0)), (1, .int p), (2, .int w)] [.int (bI ((nI 0) ≤ w ∧ w ≤ (nI 7)))] (MW G a S I F B T R K D hI ac sp en iw op mu rd ra ki nu tv) ro
    refine ev_if_neB (tgt := 22) hC dX12_of_15 (by decide) (fun c_2 => ?_) (fun c_2 => ?_)
    · obtain ⟨pp, hpp, rfl⟩ := isP hW (by assumption)
      have hpn_pp : pn (nI pp) = pp := nI_clamp (by omega)
      obtain ⟨wk, hwk, rfl⟩ := inN (m := 7) (by omega) (by assumption)
      rcases (show wk = 0 ∨ wk = 1 ∨ wk = 2 ∨ wk = 3 ∨ wk = 4 ∨ wk = 5 ∨ wk = 6 ∨ wk = 7 by omega) with rfl | rfl | rfl | rfl | rfl | rfl | rfl | rfl
      · refine ev_iload_n hC dX12_of_22 rfl 2 rfl ?_
        refine ev_tabIn (off := 45) (tgt := 68) hC dX12_of_23 (by decide) (by decide) (by decide) (by decide) ?_
        refine ev_aload_n hC dX12_of_68 rfl 0 rfl ?_
        refine ev_get hC fl_X12_9_12 (mw 0 rfl) rfl dX12_of_69 ?_
        refine ev_bipush (v := (nI 39)) hC dX12_of_72 (by decide) ?_
        refine ev_iload_n hC dX12_of_74 rfl 1 rfl ?_
        refine ev_iadd hC dX12_of_75 ?_
        refine ev_top (y := (nI (39 + pp))) ((nI_add _ _).trans (congrArg nI (by omega))) ?_
        refine ev_ialdN (i := 39 + pp) hC (mw 1 rfl) (by omega) (by omega) dX12_of_76 ?_
        refine ev_iret hC hR rfl dX12_of_77 ?_
        have er : ofR S (nI pp) (nI 0) = (S (39 + pp)) := by rw [ofR, if_pos ⟨by assumption, by assumption⟩, hpn_pp, if_pos rfl]
        exact ⟨_, _, by rw [er], rfl, rfl⟩
      · refine ev_iload_n hC dX12_of_22 rfl 2 rfl ?_
        refine ev_tabIn (off := 55) (tgt := 78) hC dX12_of_23 (by decide) (by decide) (by decide) (by decide) ?_
        refine ev_aload_n hC dX12_of_78 rfl 0 rfl ?_
        refine ev_get hC fl_X12_9_12 (mw 0 rfl) rfl dX12_of_79 ?_
        refine ev_bipush (v := (nI 45)) hC dX12_of_82 (by decide) ?_
        refine ev_iload_n hC dX12_of_84 rfl 1 rfl ?_
        refine ev_iadd hC dX12_of_85 ?_
        refine ev_top (y := (nI (45 + pp))) ((nI_add _ _).trans (congrArg nI (by omega))) ?_
        refine ev_ialdN (i := 45 + pp) hC (mw 1 rfl) (by omega) (by omega) dX12_of_86 ?_
        refine ev_iret hC hR rfl dX12_of_87 ?_
        have er : ofR S (nI pp) (nI 1) = (S (45 + pp)) := by rw [ofR, if_pos ⟨by assumption, by assumption⟩, hpn_pp, if_neg (by decide), if_pos rfl]
        exact ⟨_, _, by rw [er], rfl, rfl⟩
      · refine ev_iload_n hC dX12_of_22 rfl 2 rfl ?_
        refine ev_tabIn (off := 83) (tgt := 106) hC dX12_of_23 (by decide) (by decide) (by decide) (by decide) ?_
        refine ev_aload_n hC dX12_of_106 rfl 0 rfl ?_
        refine ev_get hC fl_X12_9_12 (mw 0 rfl) rfl dX12_of_107 ?_
        refine ev_bipush (v := (nI 14)) hC dX12_of_110 (by decide) ?_
        refine ev_bipush (v := (nI 6)) hC dX12_of_112 (by decide) ?_
        refine ev_iload_n hC dX12_of_114 rfl 2 rfl ?_
        refine ev_iconst (v := (nI 2)) hC dX12_of_115 (by decide) ?_
        refine ev_isub hC dX12_of_116 ?_
        refine ev_top (y := (nI 0)) ((pk_sub (by omega)).trans (congrArg nI (by omega))) ?_
        refine ev_imul hC dX12_of_117 ?_
        refine ev_top (y := (nI 0)) (pk_mul _ _) ?_
        refine ev_iadd hC dX12_of_118 ?_
        refine ev_top (y := (nI 14)) ((nI_add _ _).trans (congrArg nI (by omega))) ?_
        refine ev_iload_n hC dX12_of_119 rfl 1 rfl ?_
        refine ev_iadd hC dX12_of_120 ?_
        refine ev_top (y := (nI (14 + pp))) ((nI_add _ _).trans (congrArg nI (by omega))) ?_
        refine ev_ialdN (i := 14 + pp) hC (mw 1 rfl) (by omega) (by omega) dX12_of_121 ?_
        refine ev_iret hC hR rfl dX12_of_122 ?_
        have er : ofR S (nI pp) (nI 2) = (S (14 + pp)) := by rw [ofR, if_pos ⟨by assumption, by assumption⟩, hpn_pp, if_neg (by decide), if_neg (by decide), if_neg (by decide), if_neg (by decide), if_neg (by decide), show 14 + 6 * (pn (nI 2) - 2) + pp = 14 + pp from rfl]
        exact ⟨_, _, by rw [er], rfl, rfl⟩
      · refine ev_iload_n hC dX12_of_22 rfl 2 rfl ?_
        refine ev_tabIn (off := 83) (tgt := 106) hC dX12_of_23 (by decide) (by decide) (by decide) (by decide) ?_
        refine ev_aload_n hC dX12_of_106 rfl 0 rfl ?_
        refine ev_get hC fl_X12_9_12 (mw 0 rfl) rfl dX12_of_107 ?_
        refine ev_bipush (v := (nI 14)) hC dX12_of_110 (by decide) ?_
        refine ev_bipush (v := (nI 6)) hC dX12_of_112 (by decide) ?_
        refine ev_iload_n hC dX12_of_114 rfl 2 rfl ?_
        refine ev_iconst (v := (nI 2)) hC dX12_of_115 (by decide) ?_
        refine ev_isub hC dX12_of_116 ?_
        refine ev_top (y := (nI 1)) ((pk_sub (by omega)).trans (congrArg nI (by omega))) ?_
        refine ev_imul hC dX12_of_117 ?_
        refine ev_top (y := (nI 6)) (pk_mul _ _) ?_
        refine ev_iadd hC dX12_of_118 ?_
        refine ev_top (y := (nI 20)) ((nI_add _ _).trans (congrArg nI (by omega))) ?_
        refine ev_iload_n hC dX12_of_119 rfl 1 rfl ?_
        refine ev_iadd hC dX12_of_120 ?_
        refine ev_top (y := (nI (20 + pp))) ((nI_add _ _).trans (congrArg nI (by omega))) ?_
        refine ev_ialdN (i := 20 + pp) hC (mw 1 rfl) (by omega) (by omega) dX12_of_121 ?_
        refine ev_iret hC hR rfl dX12_of_122 ?_
        have er : ofR S (nI pp) (nI 3) = (S (20 + pp)) := by rw [ofR, if_pos ⟨by assumption, by assumption⟩, hpn_pp, if_neg (by decide), if_neg (by decide), if_neg (by decide), if_neg (by decide), if_neg (by decide), show 14 + 6 * (pn (nI 3) - 2) + pp = 20 + pp from rfl]
        exact ⟨_, _, by rw [er], rfl, rfl⟩
      · refine ev_iload_n hC dX12_of_22 rfl 2 rfl ?_
        refine ev_tabIn (off := 83) (tgt := 106) hC dX12_of_23 (by decide) (by decide) (by decide) (by decide) ?_
        refine ev_aload_n hC dX12_of_106 rfl 0 rfl ?_
        refine ev_get hC fl_X12_9_12 (mw 0 rfl) rfl dX12_of_107 ?_
        refine ev_bipush (v := (nI 14)) hC dX12_of_110 (by decide) ?_
        refine ev_bipush (v := (nI 6)) hC dX12_of_112 (by decide) ?_
        refine ev_iload_n hC dX12_of_114 rfl 2 rfl ?_
        refine ev_iconst (v := (nI 2)) hC dX12_of_115 (by decide) ?_
        refine ev_isub hC dX12_of_116 ?_
        refine ev_top (y := (nI 2)) ((pk_sub (by omega)).trans (congrArg nI (by omega))) ?_
        refine ev_imul hC dX12_of_117 ?_
        refine ev_top (y := (nI 12)) (pk_mul _ _) ?_
        refine ev_iadd hC dX12_of_118 ?_
        refine ev_top (y := (nI 26)) ((nI_add _ _).trans (congrArg nI (by omega))) ?_
        refine ev_iload_n hC dX12_of_119 rfl 1 rfl ?_
        refine ev_iadd hC dX12_of_120 ?_
        refine ev_top (y := (nI (26 + pp))) ((nI_add _ _).trans (congrArg nI (by omega))) ?_
        refine ev_ialdN (i := 26 + pp) hC (mw 1 rfl) (by omega) (by omega) dX12_of_121 ?_
        refine ev_iret hC hR rfl dX12_of_122 ?_
        have er : ofR S (nI pp) (nI 4) = (S (26 + pp)) := by rw [ofR, if_pos ⟨by assumption, by assumption⟩, hpn_pp, if_neg (by decide), if_neg (by decide), if_neg (by decide), if_neg (by decide), if_neg (by decide), show 14 + 6 * (pn (nI 4) - 2) + pp = 26 + pp from rfl]
        exact ⟨_, _, by rw [er], rfl, rfl⟩
      · refine ev_iload_n hC dX12_of_22 rfl 2 rfl ?_
        refine ev_tabIn (off := 65) (tgt := 88) hC dX12_of_23 (by decide) (by decide) (by decide) (by decide) ?_
        refine ev_aload_n hC dX12_of_88 rfl 0 rfl ?_
        refine ev_iload_n hC dX12_of_89 rfl 1 rfl ?_
        refine ev_callV (As := [.int (nI pp)]) (st := []) (wf := []) hC cv_X12_150 (m_X12_risesOf G ro a S I F B T R K D hI ac sp en iw op mu rd ra ki nu tv pp (by omega) hW) (by decide) rfl rfl (Nat.le_of_ble_eq_true rfl) (List.Perm.of_eq (List.append_nil _).symm) (mw 0 rfl) rfl dX12_of_90 (by decide) (by decide) ?_
        rintro _ _ _ ⟨B_3, T_4, rfl, rfl, rfl⟩
        refine ev_ws (List.append_nil _) ?_
        show Ev G X 0 0 93 [(0, .ref (a 0)), (1, .int (nI pp)), (2, .int (nI 5))] [.int (risF S pp)] (MW G a S I F B_3 T_4 R K D hI ac sp en iw op mu rd ra ki nu tv) ro
        refine ev_iret hC hR rfl dX12_of_93 ?_
        have er : ofR S (nI pp) (nI 5) = (risF S pp) := by rw [ofR, if_pos ⟨by assumption, by assumption⟩, hpn_pp, if_neg (by decide), if_neg (by decide), if_pos rfl]
        exact ⟨_, _, by rw [er], rfl, rfl⟩
      · refine ev_iload_n hC dX12_of_22 rfl 2 rfl ?_
        refine ev_tabIn (off := 71) (tgt := 94) hC dX12_of_23 (by decide) (by decide) (by decide) (by decide) ?_
        refine ev_aload_n hC dX12_of_94 rfl 0 rfl ?_
        refine ev_iload_n hC dX12_of_95 rfl 1 rfl ?_
        refine ev_callV (As := [.int (nI pp)]) (st := []) (wf := []) hC cv_X12_134 (m_X12_licksOf G ro a S I F B T R K D hI ac sp en iw op mu rd ra ki nu tv pp (by omega) hW) (by decide) rfl rfl (Nat.le_of_ble_eq_true rfl) (List.Perm.of_eq (List.append_nil _).symm) (mw 0 rfl) rfl dX12_of_96 (by decide) (by decide) ?_
        rintro _ _ _ ⟨rfl, rfl, rfl⟩
        refine ev_ws (List.append_nil _) ?_
        show Ev G X 0 0 99 [(0, .ref (a 0)), (1, .int (nI pp)), (2, .int (nI 6))] [.int (licF S pp)] (MW G a S I F B T R K D hI ac sp en iw op mu rd ra ki nu tv) ro
        refine ev_iret hC hR rfl dX12_of_99 ?_
        have er : ofR S (nI pp) (nI 6) = (licF S pp) := by rw [ofR, if_pos ⟨by assumption, by assumption⟩, hpn_pp, if_neg (by decide), if_neg (by decide), if_neg (by decide), if_pos rfl]
        exact ⟨_, _, by rw [er], rfl, rfl⟩
      · refine ev_iload_n hC dX12_of_22 rfl 2 rfl ?_
        refine ev_tabIn (off := 77) (tgt := 100) hC dX12_of_23 (by decide) (by decide) (by decide) (by decide) ?_
        refine ev_aload_n hC dX12_of_100 rfl 0 rfl ?_
        refine ev_iload_n hC dX12_of_101 rfl 1 rfl ?_
        refine ev_callV (As := [.int (nI pp)]) (st := []) (wf := []) hC cv_X12_153 (m_X12_takesOf G ro a S I F B T R K D hI ac sp en iw op mu rd ra ki nu tv pp (by omega) hW) (by decide) rfl rfl (Nat.le_of_ble_eq_true rfl) (List.Perm.of_eq (List.append_nil _).symm) (mw 0 rfl) rfl dX12_of_102 (by decide) (by decide) ?_
        rintro _ _ _ ⟨rfl, rfl, rfl⟩
        refine ev_ws (List.append_nil _) ?_
        show Ev G X 0 0 105 [(0, .ref (a 0)), (1, .int (nI pp)), (2, .int (nI 7))] [.int (takF S pp)] (MW G a S I F B T R K D hI ac sp en iw op mu rd ra ki nu tv) ro
        refine ev_iret hC hR rfl dX12_of_105 ?_
        have er : ofR S (nI pp) (nI 7) = (takF S pp) := by rw [ofR, if_pos ⟨by assumption, by assumption⟩, hpn_pp, if_neg (by decide), if_neg (by decide), if_neg (by decide), if_neg (by decide), if_pos rfl]
        exact ⟨_, _, by rw [er], rfl, rfl⟩
    · refine ev_sipush (v := (-10001)) hC dX12_of_18 (by decide) ?_
      refine ev_iret hC hR rfl dX12_of_21 ?_
      have er : ofR S p w = -10001 := by rw [ofR, if_neg (fun h => by first | exact absurd h.1 (by assumption) | exact absurd h.2 (by assumption))]
      exact ⟨_, _, by rw [er], rfl, rfl⟩

set_option maxHeartbeats 4000000 in
set_option maxRecDepth 100000 in
theorem m_X12_image (G : GG) (ro : va_W) (a : Nat → Nat) (S I F B T R K D : Nat → Int32) (hI ac sp en iw op mu rd ra ki nu tv : Int32)   : Mth G M_X12_image 0 0 0 [.ref (a 0)] (MW G a S I F B T R K D hI ac sp en iw op mu rd ra ki nu tv) ro (fun r ws' ro' => r = some (.int (S 32)) ∧ ws' = (MW G a S (ovF I S 937) F B T R K D (nI 1) ac sp en iw op mu rd ra ki nu tv) ∧ ro = ro') := by
  refine mth_of (by decide +kernel) (Nat.le_of_ble_eq_true rfl) (fun X hC hR => ?_)
  show Ev G X 0 0 0 [(0, .ref (a 0))] [] (MW G a S I F B T R K D hI ac sp en iw op mu rd ra ki nu tv) ro
  refine ev_iconst (v := (nI 0)) hC dX12_image_0 (by decide) ?_
  refine ev_istore_n (lv' := [(1, .int (nI 0)), (0, .ref (a 0))]) hC dX12_image_1 rfl (by decide) rfl ?_
  have lp_2 : ∀ (fu_2 : Nat) (i : Nat) (hi : i ≤ 937) (hn : 937 - i < fu_2), Ev G X 0 0 2 [(0, .ref (a 0)), (1, .int (nI i))] [] (MW G a S (ovF I S i) F B T R K D hI ac sp en iw op mu rd ra ki nu tv) ro := by
    intro fu_2
    induction fu_2 with
    | zero => intro i hi hn; exact absurd hn (Nat.not_lt_zero _)
    | succ fu_2 ih =>
      intro i hi hn
      refine ev_iload_n hC dX12_image_2 rfl 1 rfl ?_
      refine ev_sipush (v := (nI 937)) hC dX12_image_3 (by decide) ?_
      refine ev_icmp_geN (tgt := 27) hC dX12_image_6 (by decide) (by omega) (by omega) (fun c_1 => ?_) (fun c_1 => ?_)
      · obtain rfl : i = 937 := by omega
        refine ev_aload_n hC dX12_image_27 rfl 0 rfl ?_
        refine ev_iconst (v := (nI 1)) hC dX12_image_28 (by decide) ?_
        refine ev_put (ws' := (MW G a S (ovF I S 937) F B T R K D (nI 1) ac sp en iw op mu rd ra ki nu tv)) (q0 := 0) hC fp_X12_262_12 rfl (Nat.le_of_ble_eq_true rfl) (nar_01 (by decide)).1 (nar_01 (by decide)).2.1 rfl dX12_image_29 ?_
        refine ev_aload_n hC dX12_image_32 rfl 0 rfl ?_
        refine ev_get hC fl_X12_9_12 (mw 0 rfl) rfl dX12_image_33 ?_
        refine ev_bipush (v := (nI 32)) hC dX12_image_36 (by decide) ?_
        refine ev_ialdN (i := 32) hC (mw 1 rfl) (by omega) (by omega) dX12_image_38 ?_
        refine ev_iret hC hR rfl dX12_image_39 ?_
        exact ⟨rfl, rfl, rfl⟩
      · refine ev_aload_n hC dX12_image_9 rfl 0 rfl ?_
        refine ev_get hC fl_X12_15_12 (mw 0 rfl) rfl dX12_image_10 ?_
        refine ev_iload_n hC dX12_image_13 rfl 1 rfl ?_
        refine ev_aload_n hC dX12_image_14 rfl 0 rfl ?_
        refine ev_get hC fl_X12_9_12 (mw 0 rfl) rfl dX12_image_15 ?_
        refine ev_iload_n hC dX12_image_18 rfl 1 rfl ?_
        refine ev_ialdN (i := i) hC (mw 1 rfl) (by omega) (by omega) dX12_image_19 ?_
        refine ev_iastN (i := i) (ws' := (MW G a S (upd (ovF I S i) i (S i)) F B T R K D hI ac sp en iw op mu rd ra ki nu tv)) (q0 := 2) hC rfl (by omega) (by omega) rfl dX12_image_20 ?_
        refine ev_iinc (v := (nI (i + 1))) (lv' := [(1, .int (nI (i + 1))), (0, .ref (a 0))]) hC dX12_image_21 (q := 1) rfl (nI_k _ _ 1 (by decide)) (by decide) rfl ?_
        refine ev_goto (tgt := 2) hC dX12_image_24 (by decide) ?_
        refine ev_lv [1, 0] rfl ?_
        refine ev_ws (ws' := (MW G a S (ovF I S (i + 1)) F B T R K D hI ac sp en iw op mu rd ra ki nu tv)) (by rw [ovF_s]) ?_
        exact ih (i + 1) (by omega) (by omega)
  refine ev_ws (ws' := (MW G a S (ovF I S 0) F B T R K D hI ac sp en iw op mu rd ra ki nu tv)) (by rw [ovF_0]) ?_
  refine ev_lv [1, 0] rfl ?_
  exact lp_2 (937 - 0 + 1) 0 (by omega) (Nat.lt_succ_self _)

set_option maxHeartbeats 4000000 in
set_option maxRecDepth 100000 in
theorem m_X12_undo (G : GG) (ro : va_W) (a : Nat → Nat) (S I F B T R K D : Nat → Int32) (hI ac sp en iw op mu rd ra ki nu tv : Int32)   : Mth G M_X12_undo 0 0 0 [.ref (a 0)] (MW G a S I F B T R K D hI ac sp en iw op mu rd ra ki nu tv) ro (fun r ws' ro' => r = some (.int (undoR S I hI)) ∧ ws' = (MW G a (undoT S I hI) I F B T R K D hI ac sp en iw op mu rd ra ki nu tv) ∧ ro = ro') := by
  refine mth_of (by decide +kernel) (Nat.le_of_ble_eq_true rfl) (fun X hC hR => ?_)
  show Ev G X 0 0 0 [(0, .ref (a 0))] [] (MW G a S I F B T R K D hI ac sp en iw op mu rd ra ki nu tv) ro
  refine ev_aload_n hC dX12_undo_0 rfl 0 rfl ?_
  refine ev_get hC fl_X12_262_12 (mw 0 rfl) rfl dX12_undo_1 ?_
  refine ev_if_ne (tgt := 10) hC dX12_undo_4 (by decide) (fun c_1 => ?_) (fun c_1 => ?_)
  · refine ev_iconst (v := (nI 0)) hC dX12_undo_10 (by decide) ?_
    refine ev_istore_n (lv' := [(1, .int (nI 0)), (0, .ref (a 0))]) hC dX12_undo_11 rfl (by decide) rfl ?_
    have lp_12 : ∀ (fu_12 : Nat) (i : Nat) (hi : i ≤ 937) (hn : 937 - i < fu_12), Ev G X 0 0 12 [(0, .ref (a 0)), (1, .int (nI i))] [] (MW G a (ovF S I i) I F B T R K D hI ac sp en iw op mu rd ra ki nu tv) ro := by
      intro fu_12
      induction fu_12 with
      | zero => intro i hi hn; exact absurd hn (Nat.not_lt_zero _)
      | succ fu_12 ih =>
        intro i hi hn
        refine ev_iload_n hC dX12_undo_12 rfl 1 rfl ?_
        refine ev_sipush (v := (nI 937)) hC dX12_undo_13 (by decide) ?_
        refine ev_icmp_geN (tgt := 37) hC dX12_undo_16 (by decide) (by omega) (by omega) (fun c_2 => ?_) (fun c_2 => ?_)
        · obtain rfl : i = 937 := by omega
          refine ev_aload_n hC dX12_undo_37 rfl 0 rfl ?_
          refine ev_get hC fl_X12_9_12 (mw 0 rfl) rfl dX12_undo_38 ?_
          refine ev_bipush (v := (nI 32)) hC dX12_undo_41 (by decide) ?_
          refine ev_ialdN (i := 32) hC (mw 1 rfl) (by omega) (by omega) dX12_undo_43 ?_
          refine ev_iret hC hR rfl dX12_undo_44 ?_
          have e_3 : (undoT S I hI) = (ovF S I 937) := by simp [undoR, undoT, *]
          have e_4 : (undoR S I hI) = ((ovF S I 937) 32) := by simp [undoR, undoT, *]
          exact ⟨(by rw [e_4]), (by rw [e_3]), rfl⟩
        · refine ev_aload_n hC dX12_undo_19 rfl 0 rfl ?_
          refine ev_get hC fl_X12_9_12 (mw 0 rfl) rfl dX12_undo_20 ?_
          refine ev_iload_n hC dX12_undo_23 rfl 1 rfl ?_
          refine ev_aload_n hC dX12_undo_24 rfl 0 rfl ?_
          refine ev_get hC fl_X12_15_12 (mw 0 rfl) rfl dX12_undo_25 ?_
          refine ev_iload_n hC dX12_undo_28 rfl 1 rfl ?_
          refine ev_ialdN (i := i) hC (mw 2 rfl) (by omega) (by omega) dX12_undo_29 ?_
          refine ev_iastN (i := i) (ws' := (MW G a (upd (ovF S I i) i (I i)) I F B T R K D hI ac sp en iw op mu rd ra ki nu tv)) (q0 := 1) hC rfl (by omega) (by omega) rfl dX12_undo_30 ?_
          refine ev_iinc (v := (nI (i + 1))) (lv' := [(1, .int (nI (i + 1))), (0, .ref (a 0))]) hC dX12_undo_31 (q := 1) rfl (nI_k _ _ 1 (by decide)) (by decide) rfl ?_
          refine ev_goto (tgt := 12) hC dX12_undo_34 (by decide) ?_
          refine ev_lv [1, 0] rfl ?_
          refine ev_ws (ws' := (MW G a (ovF S I (i + 1)) I F B T R K D hI ac sp en iw op mu rd ra ki nu tv)) (by rw [ovF_s]) ?_
          exact ih (i + 1) (by omega) (by omega)
    refine ev_ws (ws' := (MW G a (ovF S I 0) I F B T R K D hI ac sp en iw op mu rd ra ki nu tv)) (by rw [ovF_0]) ?_
    refine ev_lv [1, 0] rfl ?_
    exact lp_12 (937 - 0 + 1) 0 (by omega) (Nat.lt_succ_self _)
  · refine ev_bipush (v := (-3)) hC dX12_undo_7 (by decide) ?_
    refine ev_iret hC hR rfl dX12_undo_9 ?_
    have e_5 : (undoT S I hI) = S := by simp [undoR, undoT, *]
    have e_6 : (undoR S I hI) = (-3) := by simp [undoR, undoT, *]
    exact ⟨(by rw [e_6]), (by rw [e_5]), rfl⟩

set_option maxHeartbeats 4000000 in
set_option maxRecDepth 100000 in
theorem m_X12_count (G : GG) (ro : va_W) (a : Nat → Nat) (S I F B T R K D : Nat → Int32) (hI ac sp en iw op mu rd ra ki nu tv : Int32) (x : Int32)  : Mth G M_X12_count 1 0 0 [.ref (a 0), .int x] (MW G a S I F B T R K D hI ac sp en iw op mu rd ra ki nu tv) ro (fun r ws' ro' => r = some (.int (countR S ra x)) ∧ ws' = (MW G a S I F B T R K D hI ac sp en iw op mu rd ra ki nu tv) ∧ ro = ro') := by
  refine mth_of (by decide +kernel) (Nat.le_of_ble_eq_true rfl) (fun X hC hR => ?_)
  show Ev G X 0 0 0 [(0, .ref (a 0)), (1, .int x)] [] (MW G a S I F B T R K D hI ac sp en iw op mu rd ra ki nu tv) ro
  refine ev_iload_n hC dX12_count_0 rfl 1 rfl ?_
  refine ev_bipush (v := (nI 6)) hC dX12_count_1 (by decide) ?_
  refine ev_icmp_ne (tgt := 13) hC dX12_count_3 (by decide) (fun c_1 => ?_) (fun c_1 => ?_)
  · refine ev_iload_n hC dX12_count_13 rfl 1 rfl ?_
    refine ev_iconst (v := (nI 0)) hC dX12_count_14 (by decide) ?_
    refine ev_iconst (v := (nI 5)) hC dX12_count_15 (by decide) ?_
    refine ev_callS (As := [.int x, .int (nI 0), .int (nI 5)]) (st := []) (wc := []) (wf := (MW G a S I F B T R K D hI ac sp en iw op mu rd ra ki nu tv)) hC ct_X12_44 (m_X12_in G ro x (nI 0) (nI 5)) (by decide) rfl rfl (Nat.le_of_ble_eq_true rfl) (List.Perm.refl _) dX12_count_16 (by decide) (by decide) ?_
    rintro _ _ _ ⟨rfl, rfl, rfl⟩
    refine ev_ws (List.nil_append _) ?_
    show Ev G X 0 0 19 [(0, .ref (a 0)), (1, .int x)] [.int (bI ((nI 0) ≤ x ∧ x ≤ (nI 5)))] (MW G a S I F B T R K D hI ac sp en iw op mu rd ra ki nu tv) ro
    refine ev_if_eqB (tgt := 34) hC dX12_count_19 (by decide) (fun c_2 => ?_) (fun c_2 => ?_)
    · refine ev_iconst (v := (-1)) hC dX12_count_34 (by decide) ?_
      refine ev_iret hC hR rfl dX12_count_35 ?_
      have e_3 : (countR S ra x) = (-1) := by simp [countR, *]
      exact ⟨(by rw [e_3]), rfl, rfl⟩
    · obtain ⟨kk, hkk, rfl⟩ := inN (m := 5) (by omega) (by assumption)
      have hpn_kk : pn (nI kk) = kk := nI_clamp (by omega)
      refine ev_aload_n hC dX12_count_22 rfl 0 rfl ?_
      refine ev_get hC fl_X12_9_12 (mw 0 rfl) rfl dX12_count_23 ?_
      refine ev_bipush (v := (nI 32)) hC dX12_count_26 (by decide) ?_
      refine ev_iload_n hC dX12_count_28 rfl 1 rfl ?_
      refine ev_iadd hC dX12_count_29 ?_
      refine ev_top (y := (nI (32 + kk))) ((nI_add _ _).trans (congrArg nI (by omega))) ?_
      refine ev_ialdN (i := 32 + kk) hC (mw 1 rfl) (by omega) (by omega) dX12_count_30 ?_
      refine ev_goto (tgt := 35) hC dX12_count_31 (by decide) ?_
      refine ev_iret hC hR rfl dX12_count_35 ?_
      have e_4 : (countR S ra (nI kk)) = (S (32 + kk)) := by simp [countR, *]
      exact ⟨(by rw [e_4]), rfl, rfl⟩
  · refine ev_aload_n hC dX12_count_6 rfl 0 rfl ?_
    refine ev_get hC fl_X12_226_12 (mw 0 rfl) rfl dX12_count_7 ?_
    refine ev_goto (tgt := 35) hC dX12_count_10 (by decide) ?_
    refine ev_iret hC hR rfl dX12_count_35 ?_
    have e_5 : (countR S ra x) = ra := by simp [countR, *]
    exact ⟨(by rw [e_5]), rfl, rfl⟩
