set_option maxHeartbeats 4000000 in
set_option maxRecDepth 100000 in
theorem m_X11_person (G : GG) (ro : va_W) (x : Nat) (r1 r2 r3 r4 r5 d b1 b2 b3 : Nat → Nat) (hi : Int32) (S tk le T tk3 le3 : Nat → Int32) (os os3 : Nat → Option Nat) (t t3 : Nat) (wa st3 wa3 : Int32) (y z w : Int32) (hW : WF S 9999 9999) (hO : MoOK G ro (r5 0) S os t)  : Mth G M_X11_person 8 1 4 [.ref x, .int y, .int z, .int w] (List.flatten [SP x r1 r2 r3 r4 r5 d b1 b2 b3 hi, MO G b1 (vwn S 2 6) tk os (vwn S 14 6) (vwn S 20 6) (vwn S 26 6) (vwn S 51 24) le (S 32) (bitF S) (S 0) (S 1) t (S 33) (-1) wa]) ro (fun r ws' ro' => ∃ (os' : Nat → Option Nat), r = some (.int (personR S y z w)) ∧ ws' = (List.flatten [SP x r1 r2 r3 r4 r5 d b1 b2 b3 hi, MO G b1 (vwn (personT S y z w) 2 6) tk os' (vwn (personT S y z w) 14 6) (vwn (personT S y z w) 20 6) (vwn (personT S y z w) 26 6) (vwn (personT S y z w) 51 24) le ((personT S y z w) 32) (bitF (personT S y z w)) ((personT S y z w) 0) ((personT S y z w) 1) t ((personT S y z w) 33) (-1) wa]) ∧ Sub ro ro' ∧ MoOK G ro' (r5 0) (personT S y z w) os' t) := by
  refine mth_of (by decide +kernel) (Nat.le_of_ble_eq_true rfl) (fun X hC hR => ?_)
  have b32 := hW.peo.le
  show Ev G X 1 4 0 [(0, .ref x), (1, .int y), (2, .int z), (3, .int w)] [] (List.flatten [SP x r1 r2 r3 r4 r5 d b1 b2 b3 hi, MO G b1 (vwn S 2 6) tk os (vwn S 14 6) (vwn S 20 6) (vwn S 26 6) (vwn S 51 24) le (S 32) (bitF S) (S 0) (S 1) t (S 33) (-1) wa]) ro
  refine ev_iload_n hC dX11_person_0 rfl 1 rfl ?_
  refine ev_callS (As := [.int y]) (st := []) (wc := []) (wf := (List.flatten [SP x r1 r2 r3 r4 r5 d b1 b2 b3 hi, MO G b1 (vwn S 2 6) tk os (vwn S 14 6) (vwn S 20 6) (vwn S 26 6) (vwn S 51 24) le (S 32) (bitF S) (S 0) (S 1) t (S 33) (-1) wa])) hC ct_X11_100 (m_X11_isKind G ro y) (by omega) rfl rfl (Nat.le_of_ble_eq_true rfl) (List.Perm.refl _) dX11_person_1 (by omega) (by omega) ?_
  rintro _ _ _ ⟨rfl, rfl, rfl⟩
  refine ev_ws (List.nil_append _) ?_
  show Ev G X 1 4 4 [(0, .ref x), (1, .int y), (2, .int z), (3, .int w)] [.int (bI ((nI 0) ≤ y ∧ y ≤ (nI 6)))] (List.flatten [SP x r1 r2 r3 r4 r5 d b1 b2 b3 hi, MO G b1 (vwn S 2 6) tk os (vwn S 14 6) (vwn S 20 6) (vwn S 26 6) (vwn S 51 24) le (S 32) (bitF S) (S 0) (S 1) t (S 33) (-1) wa]) ro
  refine ev_if_eqB (tgt := 14) hC dX11_person_4 (by decide) (fun c_1 => ?_) (fun c_1 => ?_)
  · refine ev_iconst (v := (-1)) hC dX11_person_14 (by decide) ?_
    refine ev_iret hC hR rfl dX11_person_15 ?_
    have eR : personR S y z w = (-1) := by rw [personR, if_neg (fun h => by first | exact absurd h.1 (by assumption) | exact absurd h.2 (by assumption))]
    have eT : personT S y z w = S := by rw [personT, if_neg (fun h => by first | exact absurd h.1 (by assumption) | exact absurd h.2 (by assumption))]
    exact ⟨os, by rw [eR], by rw [eT], Sub.rf, by rw [eT]; exact hO⟩
  · refine ev_iload_n hC dX11_person_7 rfl 3 rfl ?_
    refine ev_callS (As := [.int w]) (st := []) (wc := []) (wf := (List.flatten [SP x r1 r2 r3 r4 r5 d b1 b2 b3 hi, MO G b1 (vwn S 2 6) tk os (vwn S 14 6) (vwn S 20 6) (vwn S 26 6) (vwn S 51 24) le (S 32) (bitF S) (S 0) (S 1) t (S 33) (-1) wa])) hC ct_X11_104 (m_X11_isSide G ro w) (by omega) rfl rfl (Nat.le_of_ble_eq_true rfl) (List.Perm.refl _) dX11_person_8 (by omega) (by omega) ?_
    rintro _ _ _ ⟨rfl, rfl, rfl⟩
    refine ev_ws (List.nil_append _) ?_
    show Ev G X 1 4 11 [(0, .ref x), (1, .int y), (2, .int z), (3, .int w)] [.int (bI ((nI 0) ≤ w ∧ w ≤ (nI 5)))] (List.flatten [SP x r1 r2 r3 r4 r5 d b1 b2 b3 hi, MO G b1 (vwn S 2 6) tk os (vwn S 14 6) (vwn S 20 6) (vwn S 26 6) (vwn S 51 24) le (S 32) (bitF S) (S 0) (S 1) t (S 33) (-1) wa]) ro
    refine ev_if_neB (tgt := 16) hC dX11_person_11 (by decide) (fun c_2 => ?_) (fun c_2 => ?_)
    · refine ev_iload_n hC dX11_person_16 rfl 2 rfl ?_
      refine ev_iconst (v := (nI 0)) hC dX11_person_17 (by decide) ?_
      refine ev_bipush (v := (nI 9)) hC dX11_person_18 (by decide) ?_
      refine ev_callS (As := [.int z, .int (nI 0), .int (nI 9)]) (st := []) (wc := []) (wf := (List.flatten [SP x r1 r2 r3 r4 r5 d b1 b2 b3 hi, MO G b1 (vwn S 2 6) tk os (vwn S 14 6) (vwn S 20 6) (vwn S 26 6) (vwn S 51 24) le (S 32) (bitF S) (S 0) (S 1) t (S 33) (-1) wa])) hC ct_X11_68 (m_X11_isWithin G ro z (nI 0) (nI 9)) (by omega) rfl rfl (Nat.le_of_ble_eq_true rfl) (List.Perm.refl _) dX11_person_20 (by omega) (by omega) ?_
      rintro _ _ _ ⟨rfl, rfl, rfl⟩
      refine ev_ws (List.nil_append _) ?_
      show Ev G X 1 4 23 [(0, .ref x), (1, .int y), (2, .int z), (3, .int w)] [.int (bI ((nI 0) ≤ z ∧ z ≤ (nI 9)))] (List.flatten [SP x r1 r2 r3 r4 r5 d b1 b2 b3 hi, MO G b1 (vwn S 2 6) tk os (vwn S 14 6) (vwn S 20 6) (vwn S 26 6) (vwn S 51 24) le (S 32) (bitF S) (S 0) (S 1) t (S 33) (-1) wa]) ro
      refine ev_if_neB (tgt := 29) hC dX11_person_23 (by decide) (fun c_3 => ?_) (fun c_3 => ?_)
      · refine ev_aload_n hC dX11_person_29 rfl 0 rfl ?_
        refine ev_get hC fl_X11_58_11 (mw 0 rfl) rfl dX11_person_30 ?_
        refine ev_get hC fl_X11_107_3 (mw 1 rfl) rfl dX11_person_33 ?_
        have bk_4 : NB S 32 _ := hW.peo
        have k_4 := bk_4.eq
        have lk_4 := bk_4.le
        have mk_4 := bk_4.lt
        refine ev_top (y := (nI (sn S 32))) k_4 ?_
        refine ev_bipush (v := (nI 6)) hC dX11_person_36 (by decide) ?_
        refine ev_icmp_ltN (tgt := 44) hC dX11_person_38 (by decide) (by omega) (by omega) (fun c_5 => ?_) (fun c_5 => ?_)
        · obtain ⟨kk, hkk, rfl⟩ := inN (m := 6) (by omega) (by assumption)
          have hpn_kk : pn (nI kk) = kk := nI_clamp (by omega)
          obtain ⟨vv, hvv, rfl⟩ := inN (m := 9) (by omega) (by assumption)
          have hpn_vv : pn (nI vv) = vv := nI_clamp (by omega)
          obtain ⟨sd, hsd, rfl⟩ := inN (m := 5) (by omega) (by assumption)
          have hpn_sd : pn (nI sd) = sd := nI_clamp (by omega)
          refine ev_aload_n hC dX11_person_44 rfl 0 rfl ?_
          refine ev_get hC fl_X11_58_11 (mw 0 rfl) rfl dX11_person_45 ?_
          refine ev_aload_n hC dX11_person_48 rfl 0 rfl ?_
          refine ev_iload_n hC dX11_person_49 rfl 1 rfl ?_
          refine ev_aload_n hC dX11_person_50 rfl 0 rfl ?_
          refine ev_get hC fl_X11_58_11 (mw 0 rfl) rfl dX11_person_51 ?_
          refine ev_get hC fl_X11_107_3 (mw 1 rfl) rfl dX11_person_54 ?_
          have bk_6 : NB S 32 _ := hW.peo
          have k_6 := bk_6.eq
          have lk_6 := bk_6.le
          have mk_6 := bk_6.lt
          refine ev_top (y := (nI (sn S 32))) k_6 ?_
          refine ev_iload_n hC dX11_person_57 rfl 2 rfl ?_
          refine ev_callV (As := [.int (nI kk), .int (nI (sn S 32)), .int (nI vv)]) (st := [.ref (b1 0)]) (wf := (List.flatten [MO G b1 (vwn S 2 6) tk os (vwn S 14 6) (vwn S 20 6) (vwn S 26 6) (vwn S 51 24) le (S 32) (bitF S) (S 0) (S 1) t (S 33) (-1) wa])) hC cv_X11_110 (m_X11_personOf G ro x r1 r2 r3 r4 r5 d b1 b2 b3 hi kk (sn S 32) vv (by omega)) (by omega) rfl rfl (Nat.le_of_ble_eq_true rfl) (perm_sg (n := 2) [0, 1] rfl rfl (by decide)) (mw 0 rfl) rfl dX11_person_58 (by omega) (by omega) ?_
          rintro _ _ ro ⟨q_7, rfl, rfl, hs_8, hp_9⟩
          show Ev G X 0 0 61 [(0, .ref x), (1, .int (nI kk)), (2, .int (nI vv)), (3, .int (nI sd))] [.ref q_7, .ref (b1 0)] (List.flatten [SP x r1 r2 r3 r4 r5 d b1 b2 b3 hi, MO G b1 (vwn S 2 6) tk os (vwn S 14 6) (vwn S 20 6) (vwn S 26 6) (vwn S 51 24) le (S 32) (bitF S) (S 0) (S 1) t (S 33) (-1) wa]) ro
          have hO := hO.sub hs_8
          refine ev_iload_n hC dX11_person_61 rfl 3 rfl ?_
          refine ev_callV (As := [.ref q_7, .int (nI sd)]) (st := []) (wf := (List.flatten [SP x r1 r2 r3 r4 r5 d b1 b2 b3 hi])) hC cv_X11_114 (m_X3_comes G ro b1 S tk le os t (r5 0) (-1) wa q_7 kk vv sd hW (by omega) hp_9 (kci_pe (by omega))) (by omega) rfl rfl (Nat.le_of_ble_eq_true rfl) (perm_sg (n := 2) [1, 0] rfl rfl (by decide)) (mw 1 rfl) rfl dX11_person_62 (by omega) (by omega) ?_
          rintro _ _ _ ⟨rfl, rfl, rfl⟩
          show Ev G X 0 0 65 [(0, .ref x), (1, .int (nI kk)), (2, .int (nI vv)), (3, .int (nI sd))] [.int (nI (sn S 32))] (List.flatten [MO G b1 (vwn (comesF S (sn S 32) (nI kk) (nI vv) (nI sd)) 2 6) tk (va_up os (sn S 32) (some q_7)) (vwn (comesF S (sn S 32) (nI kk) (nI vv) (nI sd)) 14 6) (vwn (comesF S (sn S 32) (nI kk) (nI vv) (nI sd)) 20 6) (vwn (comesF S (sn S 32) (nI kk) (nI vv) (nI sd)) 26 6) (vwn (comesF S (sn S 32) (nI kk) (nI vv) (nI sd)) 51 24) le ((comesF S (sn S 32) (nI kk) (nI vv) (nI sd)) 32) (bitF (comesF S (sn S 32) (nI kk) (nI vv) (nI sd))) ((comesF S (sn S 32) (nI kk) (nI vv) (nI sd)) 0) ((comesF S (sn S 32) (nI kk) (nI vv) (nI sd)) 1) t ((comesF S (sn S 32) (nI kk) (nI vv) (nI sd)) 33) (-1) wa, SP x r1 r2 r3 r4 r5 d b1 b2 b3 hi]) ro
          refine ev_perm (ws' := (List.flatten [SP x r1 r2 r3 r4 r5 d b1 b2 b3 hi, MO G b1 (vwn (comesF S (sn S 32) (nI kk) (nI vv) (nI sd)) 2 6) tk (va_up os (sn S 32) (some q_7)) (vwn (comesF S (sn S 32) (nI kk) (nI vv) (nI sd)) 14 6) (vwn (comesF S (sn S 32) (nI kk) (nI vv) (nI sd)) 20 6) (vwn (comesF S (sn S 32) (nI kk) (nI vv) (nI sd)) 26 6) (vwn (comesF S (sn S 32) (nI kk) (nI vv) (nI sd)) 51 24) le ((comesF S (sn S 32) (nI kk) (nI vv) (nI sd)) 32) (bitF (comesF S (sn S 32) (nI kk) (nI vv) (nI sd))) ((comesF S (sn S 32) (nI kk) (nI vv) (nI sd)) 0) ((comesF S (sn S 32) (nI kk) (nI vv) (nI sd)) 1) t ((comesF S (sn S 32) (nI kk) (nI vv) (nI sd)) 33) (-1) wa])) (perm_sg2 (n := 2) [1, 0] rfl rfl (by decide)) ?_
          refine ev_iret hC hR rfl dX11_person_65 ?_
          have eR : personR S (nI kk) (nI vv) (nI sd) = (nI (sn S 32)) := by rw [personR, if_pos ⟨by assumption, by assumption⟩, if_pos (by assumption), if_neg (by omega)]
          have eT : personT S (nI kk) (nI vv) (nI sd) = comesF S (sn S 32) (nI kk) (nI vv) (nI sd) := by rw [personT, if_pos ⟨by assumption, by assumption⟩, if_pos (by assumption), if_neg (by omega)]
          exact ⟨(va_up os (sn S 32) (some q_7)), by rw [eR], by rw [eT], hs_8, by rw [eT]; exact MoOK.comes hO (by omega) (by omega) (by omega) hp_9⟩
        · refine ev_bipush (v := (-4)) hC dX11_person_41 (by decide) ?_
          refine ev_iret hC hR rfl dX11_person_43 ?_
          have eR : personR S y z w = (-4) := by rw [personR, if_pos ⟨by assumption, by assumption⟩, if_pos (by assumption), if_pos (by omega)]
          have eT : personT S y z w = S := by rw [personT, if_pos ⟨by assumption, by assumption⟩, if_pos (by assumption), if_pos (by omega)]
          exact ⟨os, by rw [eR], by rw [eT], Sub.rf, by rw [eT]; exact hO⟩
      · refine ev_bipush (v := (-2)) hC dX11_person_26 (by decide) ?_
        refine ev_iret hC hR rfl dX11_person_28 ?_
        have eR : personR S y z w = (-2) := by rw [personR, if_pos ⟨by assumption, by assumption⟩, if_neg (by assumption)]
        have eT : personT S y z w = S := by rw [personT, if_pos ⟨by assumption, by assumption⟩, if_neg (by assumption)]
        exact ⟨os, by rw [eR], by rw [eT], Sub.rf, by rw [eT]; exact hO⟩
    · refine ev_iconst (v := (-1)) hC dX11_person_14 (by decide) ?_
      refine ev_iret hC hR rfl dX11_person_15 ?_
      have eR : personR S y z w = (-1) := by rw [personR, if_neg (fun h => by first | exact absurd h.1 (by assumption) | exact absurd h.2 (by assumption))]
      have eT : personT S y z w = S := by rw [personT, if_neg (fun h => by first | exact absurd h.1 (by assumption) | exact absurd h.2 (by assumption))]
      exact ⟨os, by rw [eR], by rw [eT], Sub.rf, by rw [eT]; exact hO⟩
