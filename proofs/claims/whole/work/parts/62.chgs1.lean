set_option maxHeartbeats 4000000 in
set_option maxRecDepth 100000 in
theorem m_X11_feed (G : GG) (ro : va_W) (x : Nat) (r1 r2 r3 r4 r5 d b1 b2 b3 : Nat → Nat) (hi : Int32) (S tk le T tk3 le3 : Nat → Int32) (os os3 : Nat → Option Nat) (t t3 : Nat) (wa st3 wa3 : Int32) (y : Int32) (a2 a3 ag1 ag2 ag3 : Nat → Int32) (agc : Int32) (hW : WF S 9999 9999) (hO : MoOK G ro (r5 0) S os t)  : Mth G M_X11_feed 8 0 0 [.ref x, .int y] (List.flatten [SP x r1 r2 r3 r4 r5 d b1 b2 b3 hi, RW G r1 100 (vwn S 122 100) a2 a3 (nI (sn S 37)) ag1 ag2 ag3 agc]) ro (fun r ws' ro' => ∃ (a2' : Nat → Int32), ∃ (a3' : Nat → Int32), r = some (.int (feedR S y)) ∧ ws' = (List.flatten [SP x r1 r2 r3 r4 r5 d b1 b2 b3 hi, RW G r1 100 (vwn (feedT S y) 122 100) a2' a3' (nI (sn (feedT S y) 37)) ag1 ag2 ag3 agc]) ∧ ro = ro') := by
  refine mth_of (by decide +kernel) (Nat.le_of_ble_eq_true rfl) (fun X hC hR => ?_)
  have b32 := hW.peo.le
  have b37 := hW.tape.le
  show Ev G X 0 0 0 [(0, .ref x), (1, .int y)] [] (List.flatten [SP x r1 r2 r3 r4 r5 d b1 b2 b3 hi, RW G r1 100 (vwn S 122 100) a2 a3 (nI (sn S 37)) ag1 ag2 ag3 agc]) ro
  refine ev_iload_n hC dX11_feed_0 rfl 1 rfl ?_
  refine ev_iconst (v := (nI 0)) hC dX11_feed_1 (by decide) ?_
  refine ev_bipush (v := (nI 127)) hC dX11_feed_2 (by decide) ?_
  refine ev_callS (As := [.int y, .int (nI 0), .int (nI 127)]) (st := []) (wc := []) (wf := (List.flatten [SP x r1 r2 r3 r4 r5 d b1 b2 b3 hi, RW G r1 100 (vwn S 122 100) a2 a3 (nI (sn S 37)) ag1 ag2 ag3 agc])) hC ct_X11_68 (m_X11_isWithin G ro y (nI 0) (nI 127)) (by omega) rfl rfl (Nat.le_of_ble_eq_true rfl) (List.Perm.refl _) dX11_feed_4 (by omega) (by omega) ?_
  rintro _ _ _ ⟨rfl, rfl, rfl⟩
  refine ev_ws (List.nil_append _) ?_
  show Ev G X 0 0 7 [(0, .ref x), (1, .int y)] [.int (bI ((nI 0) ≤ y ∧ y ≤ (nI 127)))] (List.flatten [SP x r1 r2 r3 r4 r5 d b1 b2 b3 hi, RW G r1 100 (vwn S 122 100) a2 a3 (nI (sn S 37)) ag1 ag2 ag3 agc]) ro
  refine ev_if_neB (tgt := 13) hC dX11_feed_7 (by decide) (fun c_1 => ?_) (fun c_1 => ?_)
  · refine ev_aload_n hC dX11_feed_13 rfl 0 rfl ?_
    refine ev_get hC fl_X11_16_11 (mw 0 rfl) rfl dX11_feed_14 ?_
    refine ev_callV (As := []) (st := []) (wf := (List.flatten [SP x r1 r2 r3 r4 r5 d b1 b2 b3 hi])) hC cv_X11_72 (m_X7_isFull G ro r1 100 (sn S 37) (vwn S 122 100) a2 a3 ag1 ag2 ag3 agc (by omega) (by omega)) (by omega) rfl rfl (Nat.le_of_ble_eq_true rfl) (perm_sg (n := 2) [1, 0] rfl rfl (by decide)) (mw 1 rfl) rfl dX11_feed_17 (by omega) (by omega) ?_
    rintro _ _ _ ⟨rfl, rfl, rfl⟩
    show Ev G X 0 0 20 [(0, .ref x), (1, .int y)] [.int (bI (100 ≤ sn S 37))] (List.flatten [RW G r1 100 (vwn S 122 100) a2 a3 (nI (sn S 37)) ag1 ag2 ag3 agc, SP x r1 r2 r3 r4 r5 d b1 b2 b3 hi]) ro
    refine ev_perm (ws' := (List.flatten [SP x r1 r2 r3 r4 r5 d b1 b2 b3 hi, RW G r1 100 (vwn S 122 100) a2 a3 (nI (sn S 37)) ag1 ag2 ag3 agc])) (perm_sg2 (n := 2) [1, 0] rfl rfl (by decide)) ?_
    refine ev_if_eqB (tgt := 26) hC dX11_feed_20 (by decide) (fun c_2 => ?_) (fun c_2 => ?_)
    · refine ev_aload_n hC dX11_feed_26 rfl 0 rfl ?_
      refine ev_get hC fl_X11_16_11 (mw 0 rfl) rfl dX11_feed_27 ?_
      refine ev_iload_n hC dX11_feed_30 rfl 1 rfl ?_
      refine ev_iconst (v := (nI 0)) hC dX11_feed_31 (by decide) ?_
      refine ev_iconst (v := (nI 0)) hC dX11_feed_32 (by decide) ?_
      refine ev_callV (As := [.int y, .int (nI 0), .int (nI 0)]) (st := []) (wf := (List.flatten [SP x r1 r2 r3 r4 r5 d b1 b2 b3 hi])) hC cv_X11_76 (m_X7_add G ro r1 100 (sn S 37) (vwn S 122 100) a2 a3 ag1 ag2 ag3 agc y (nI 0) (nI 0) (by omega) (by omega) (by omega)) (by omega) rfl rfl (Nat.le_of_ble_eq_true rfl) (perm_sg (n := 2) [1, 0] rfl rfl (by decide)) (mw 1 rfl) rfl dX11_feed_33 (by omega) (by omega) ?_
      rintro _ _ _ ⟨rfl, rfl, rfl⟩
      show Ev G X 0 0 36 [(0, .ref x), (1, .int y)] [.int (nI (sn S 37 + 1))] (List.flatten [RW G r1 100 (upd (vwn S 122 100) (sn S 37) y) (upd a2 (sn S 37) (nI 0)) (upd a3 (sn S 37) (nI 0)) (nI (sn S 37 + 1)) ag1 ag2 ag3 agc, SP x r1 r2 r3 r4 r5 d b1 b2 b3 hi]) ro
      refine ev_perm (ws' := (List.flatten [SP x r1 r2 r3 r4 r5 d b1 b2 b3 hi, RW G r1 100 (upd (vwn S 122 100) (sn S 37) y) (upd a2 (sn S 37) (nI 0)) (upd a3 (sn S 37) (nI 0)) (nI (sn S 37 + 1)) ag1 ag2 ag3 agc])) (perm_sg2 (n := 2) [1, 0] rfl rfl (by decide)) ?_
      refine ev_iret hC hR rfl dX11_feed_36 ?_
      have eR : feedR S y = (nI (sn S 37 + 1)) := by rw [feedR, if_pos (by assumption), if_neg (by omega)]
      have eT : feedT S y = upd (upd S (122 + sn S 37) y) (37) (nI (sn S 37 + 1)) := by rw [feedT, if_pos (by assumption), if_neg (by omega)]
      have v0 : vwn (upd (upd S (122 + sn S 37) y) (37) (nI (sn S 37 + 1))) 122 100 = upd (vwn S 122 100) (sn S 37) y := by rw [vwn_ne (o := 122) (n := 100) (by omega), ← vwn_upd (by omega)]
      have cn : sn (upd (upd S (122 + sn S 37) y) (37) (nI (sn S 37 + 1))) 37 = sn S 37 + 1 := sn_of (by omega) (upd_eq _ _ _)
      exact ⟨(upd a2 (sn S 37) (nI 0)), (upd a3 (sn S 37) (nI 0)), by rw [eR], by rw [eT, v0, cn], rfl⟩
    · refine ev_bipush (v := (-4)) hC dX11_feed_23 (by decide) ?_
      refine ev_iret hC hR rfl dX11_feed_25 ?_
      have eR : feedR S y = (-4) := by rw [feedR, if_pos (by assumption), if_pos (by omega)]
      have eT : feedT S y = S := by rw [feedT, if_pos (by assumption), if_pos (by omega)]
      have v0 : vwn S 122 100 = (vwn S 122 100) := by rfl
      have cn : sn S 37 = sn S 37 := rfl
      exact ⟨a2, a3, by rw [eR], by rw [eT, v0, cn], rfl⟩
  · refine ev_bipush (v := (-2)) hC dX11_feed_10 (by decide) ?_
    refine ev_iret hC hR rfl dX11_feed_12 ?_
    have eR : feedR S y = (-2) := by rw [feedR, if_neg (by assumption)]
    have eT : feedT S y = S := by rw [feedT, if_neg (by assumption)]
    have v0 : vwn S 122 100 = (vwn S 122 100) := by rfl
    have cn : sn S 37 = sn S 37 := rfl
    exact ⟨a2, a3, by rw [eR], by rw [eT, v0, cn], rfl⟩

set_option maxHeartbeats 4000000 in
set_option maxRecDepth 100000 in
theorem m_X11_see (G : GG) (ro : va_W) (x : Nat) (r1 r2 r3 r4 r5 d b1 b2 b3 : Nat → Nat) (hi : Int32) (S tk le T tk3 le3 : Nat → Int32) (os os3 : Nat → Option Nat) (t t3 : Nat) (wa st3 wa3 : Int32) (y z w : Int32) (s1 s2 s3 : Nat → Int32) (sc : Int32) (hW : WF S 9999 9999) (hO : MoOK G ro (r5 0) S os t)  : Mth G M_X11_see 8 0 0 [.ref x, .int y, .int z, .int w] (List.flatten [SP x r1 r2 r3 r4 r5 d b1 b2 b3 hi, RW G r2 5 (vwn S 75 5) (vwn S 80 5) (vwn S 85 5) (nI (sn S 34)) s1 s2 s3 sc]) ro (fun r ws' ro' => r = some (.int (seeR S y z w)) ∧ ws' = (List.flatten [SP x r1 r2 r3 r4 r5 d b1 b2 b3 hi, RW G r2 5 (vwn (seeT S y z w) 75 5) (vwn (seeT S y z w) 80 5) (vwn (seeT S y z w) 85 5) (nI (sn (seeT S y z w) 34)) s1 s2 s3 sc]) ∧ ro = ro') := by
  refine mth_of (by decide +kernel) (Nat.le_of_ble_eq_true rfl) (fun X hC hR => ?_)
  have b32 := hW.peo.le
  have b34 := hW.seen.le
  show Ev G X 0 0 0 [(0, .ref x), (1, .int y), (2, .int z), (3, .int w)] [] (List.flatten [SP x r1 r2 r3 r4 r5 d b1 b2 b3 hi, RW G r2 5 (vwn S 75 5) (vwn S 80 5) (vwn S 85 5) (nI (sn S 34)) s1 s2 s3 sc]) ro
  refine ev_iload_n hC dX11_see_0 rfl 1 rfl ?_
  refine ev_iconst (v := (-1)) hC dX11_see_1 (by decide) ?_
  refine ev_icmp_ne (tgt := 13) hC dX11_see_2 (by decide) (fun c_1 => ?_) (fun c_1 => ?_)
  · refine ev_iload_n hC dX11_see_13 rfl 1 rfl ?_
    refine ev_callS (As := [.int y]) (st := []) (wc := []) (wf := (List.flatten [SP x r1 r2 r3 r4 r5 d b1 b2 b3 hi, RW G r2 5 (vwn S 75 5) (vwn S 80 5) (vwn S 85 5) (nI (sn S 34)) s1 s2 s3 sc])) hC ct_X11_104 (m_X11_isSide G ro y) (by omega) rfl rfl (Nat.le_of_ble_eq_true rfl) (List.Perm.refl _) dX11_see_14 (by omega) (by omega) ?_
    rintro _ _ _ ⟨rfl, rfl, rfl⟩
    refine ev_ws (List.nil_append _) ?_
    show Ev G X 0 0 17 [(0, .ref x), (1, .int y), (2, .int z), (3, .int w)] [.int (bI ((nI 0) ≤ y ∧ y ≤ (nI 5)))] (List.flatten [SP x r1 r2 r3 r4 r5 d b1 b2 b3 hi, RW G r2 5 (vwn S 75 5) (vwn S 80 5) (vwn S 85 5) (nI (sn S 34)) s1 s2 s3 sc]) ro
    refine ev_if_neB (tgt := 22) hC dX11_see_17 (by decide) (fun c_2 => ?_) (fun c_2 => ?_)
    · refine ev_iload_n hC dX11_see_22 rfl 2 rfl ?_
      refine ev_iconst (v := (nI 0)) hC dX11_see_23 (by decide) ?_
      refine ev_sipush (v := (nI 999)) hC dX11_see_24 (by decide) ?_
      refine ev_callS (As := [.int z, .int (nI 0), .int (nI 999)]) (st := []) (wc := []) (wf := (List.flatten [SP x r1 r2 r3 r4 r5 d b1 b2 b3 hi, RW G r2 5 (vwn S 75 5) (vwn S 80 5) (vwn S 85 5) (nI (sn S 34)) s1 s2 s3 sc])) hC ct_X11_68 (m_X11_isWithin G ro z (nI 0) (nI 999)) (by omega) rfl rfl (Nat.le_of_ble_eq_true rfl) (List.Perm.refl _) dX11_see_27 (by omega) (by omega) ?_
      rintro _ _ _ ⟨rfl, rfl, rfl⟩
      refine ev_ws (List.nil_append _) ?_
      show Ev G X 0 0 30 [(0, .ref x), (1, .int y), (2, .int z), (3, .int w)] [.int (bI ((nI 0) ≤ z ∧ z ≤ (nI 999)))] (List.flatten [SP x r1 r2 r3 r4 r5 d b1 b2 b3 hi, RW G r2 5 (vwn S 75 5) (vwn S 80 5) (vwn S 85 5) (nI (sn S 34)) s1 s2 s3 sc]) ro
      refine ev_if_eqB (tgt := 43) hC dX11_see_30 (by decide) (fun c_3 => ?_) (fun c_3 => ?_)
      · refine ev_bipush (v := (-2)) hC dX11_see_43 (by decide) ?_
        refine ev_iret hC hR rfl dX11_see_45 ?_
        have eR : seeR S y z w = (-2) := by rw [seeR, if_neg (by assumption), if_pos (by assumption), if_neg (fun h => by first | exact absurd h.1 (by assumption) | exact absurd h.2 (by assumption))]
        have eT : seeT S y z w = S := by rw [seeT, if_neg (by assumption), if_pos (by assumption), if_neg (fun h => by first | exact absurd h.1 (by assumption) | exact absurd h.2 (by assumption))]
        have v0 : vwn S 75 5 = (vwn S 75 5) := by rfl
        have v1 : vwn S 80 5 = (vwn S 80 5) := by rfl
        have v2 : vwn S 85 5 = (vwn S 85 5) := by rfl
        have cn : sn S 34 = sn S 34 := rfl
        exact ⟨by rw [eR], by rw [eT, v0, v1, v2, cn], rfl⟩
      · refine ev_iload_n hC dX11_see_33 rfl 3 rfl ?_
        refine ev_iconst (v := (nI 0)) hC dX11_see_34 (by decide) ?_
        refine ev_bipush (v := (nI 20)) hC dX11_see_35 (by decide) ?_
        refine ev_callS (As := [.int w, .int (nI 0), .int (nI 20)]) (st := []) (wc := []) (wf := (List.flatten [SP x r1 r2 r3 r4 r5 d b1 b2 b3 hi, RW G r2 5 (vwn S 75 5) (vwn S 80 5) (vwn S 85 5) (nI (sn S 34)) s1 s2 s3 sc])) hC ct_X11_68 (m_X11_isWithin G ro w (nI 0) (nI 20)) (by omega) rfl rfl (Nat.le_of_ble_eq_true rfl) (List.Perm.refl _) dX11_see_37 (by omega) (by omega) ?_
        rintro _ _ _ ⟨rfl, rfl, rfl⟩
        refine ev_ws (List.nil_append _) ?_
        show Ev G X 0 0 40 [(0, .ref x), (1, .int y), (2, .int z), (3, .int w)] [.int (bI ((nI 0) ≤ w ∧ w ≤ (nI 20)))] (List.flatten [SP x r1 r2 r3 r4 r5 d b1 b2 b3 hi, RW G r2 5 (vwn S 75 5) (vwn S 80 5) (vwn S 85 5) (nI (sn S 34)) s1 s2 s3 sc]) ro
        refine ev_if_neB (tgt := 46) hC dX11_see_40 (by decide) (fun c_4 => ?_) (fun c_4 => ?_)
        · refine ev_aload_n hC dX11_see_46 rfl 0 rfl ?_
          refine ev_get hC fl_X11_20_11 (mw 0 rfl) rfl dX11_see_47 ?_
          refine ev_callV (As := []) (st := []) (wf := (List.flatten [SP x r1 r2 r3 r4 r5 d b1 b2 b3 hi])) hC cv_X11_72 (m_X7_isFull G ro r2 5 (sn S 34) (vwn S 75 5) (vwn S 80 5) (vwn S 85 5) s1 s2 s3 sc (by omega) (by omega)) (by omega) rfl rfl (Nat.le_of_ble_eq_true rfl) (perm_sg (n := 2) [1, 0] rfl rfl (by decide)) (mw 1 rfl) rfl dX11_see_50 (by omega) (by omega) ?_
          rintro _ _ _ ⟨rfl, rfl, rfl⟩
          show Ev G X 0 0 53 [(0, .ref x), (1, .int y), (2, .int z), (3, .int w)] [.int (bI (5 ≤ sn S 34))] (List.flatten [RW G r2 5 (vwn S 75 5) (vwn S 80 5) (vwn S 85 5) (nI (sn S 34)) s1 s2 s3 sc, SP x r1 r2 r3 r4 r5 d b1 b2 b3 hi]) ro
          refine ev_perm (ws' := (List.flatten [SP x r1 r2 r3 r4 r5 d b1 b2 b3 hi, RW G r2 5 (vwn S 75 5) (vwn S 80 5) (vwn S 85 5) (nI (sn S 34)) s1 s2 s3 sc])) (perm_sg2 (n := 2) [1, 0] rfl rfl (by decide)) ?_
          refine ev_if_eqB (tgt := 61) hC dX11_see_53 (by decide) (fun c_5 => ?_) (fun c_5 => ?_)
          · refine ev_aload_n hC dX11_see_61 rfl 0 rfl ?_
            refine ev_get hC fl_X11_20_11 (mw 0 rfl) rfl dX11_see_62 ?_
            refine ev_iload_n hC dX11_see_65 rfl 1 rfl ?_
            refine ev_iload_n hC dX11_see_66 rfl 2 rfl ?_
            refine ev_iload_n hC dX11_see_67 rfl 3 rfl ?_
            refine ev_callV (As := [.int y, .int z, .int w]) (st := []) (wf := (List.flatten [SP x r1 r2 r3 r4 r5 d b1 b2 b3 hi])) hC cv_X11_76 (m_X7_add G ro r2 5 (sn S 34) (vwn S 75 5) (vwn S 80 5) (vwn S 85 5) s1 s2 s3 sc y z w (by omega) (by omega) (by omega)) (by omega) rfl rfl (Nat.le_of_ble_eq_true rfl) (perm_sg (n := 2) [1, 0] rfl rfl (by decide)) (mw 1 rfl) rfl dX11_see_68 (by omega) (by omega) ?_
            rintro _ _ _ ⟨rfl, rfl, rfl⟩
            show Ev G X 0 0 71 [(0, .ref x), (1, .int y), (2, .int z), (3, .int w)] [.int (nI (sn S 34 + 1))] (List.flatten [RW G r2 5 (upd (vwn S 75 5) (sn S 34) y) (upd (vwn S 80 5) (sn S 34) z) (upd (vwn S 85 5) (sn S 34) w) (nI (sn S 34 + 1)) s1 s2 s3 sc, SP x r1 r2 r3 r4 r5 d b1 b2 b3 hi]) ro
            refine ev_perm (ws' := (List.flatten [SP x r1 r2 r3 r4 r5 d b1 b2 b3 hi, RW G r2 5 (upd (vwn S 75 5) (sn S 34) y) (upd (vwn S 80 5) (sn S 34) z) (upd (vwn S 85 5) (sn S 34) w) (nI (sn S 34 + 1)) s1 s2 s3 sc])) (perm_sg2 (n := 2) [1, 0] rfl rfl (by decide)) ?_
            refine ev_iret hC hR rfl dX11_see_71 ?_
            have eR : seeR S y z w = (nI (sn S 34 + 1)) := by rw [seeR, if_neg (by assumption), if_pos (by assumption), if_pos ⟨by assumption, by assumption⟩, if_neg (by omega)]
            have eT : seeT S y z w = upd (upd (upd (upd S (75 + sn S 34) y) (80 + sn S 34) z) (85 + sn S 34) w) (34) (nI (sn S 34 + 1)) := by rw [seeT, if_neg (by assumption), if_pos (by assumption), if_pos ⟨by assumption, by assumption⟩, if_neg (by omega)]
            have v0 : vwn (upd (upd (upd (upd S (75 + sn S 34) y) (80 + sn S 34) z) (85 + sn S 34) w) (34) (nI (sn S 34 + 1))) 75 5 = upd (vwn S 75 5) (sn S 34) y := by rw [vwn_ne (o := 75) (n := 5) (by omega), vwn_ne (o := 75) (n := 5) (by omega), vwn_ne (o := 75) (n := 5) (by omega), ← vwn_upd (by omega)]
            have v1 : vwn (upd (upd (upd (upd S (75 + sn S 34) y) (80 + sn S 34) z) (85 + sn S 34) w) (34) (nI (sn S 34 + 1))) 80 5 = upd (vwn S 80 5) (sn S 34) z := by rw [vwn_ne (o := 80) (n := 5) (by omega), vwn_ne (o := 80) (n := 5) (by omega), ← vwn_upd (by omega), vwn_ne (o := 80) (n := 5) (by omega)]
            have v2 : vwn (upd (upd (upd (upd S (75 + sn S 34) y) (80 + sn S 34) z) (85 + sn S 34) w) (34) (nI (sn S 34 + 1))) 85 5 = upd (vwn S 85 5) (sn S 34) w := by rw [vwn_ne (o := 85) (n := 5) (by omega), ← vwn_upd (by omega), vwn_ne (o := 85) (n := 5) (by omega), vwn_ne (o := 85) (n := 5) (by omega)]
            have cn : sn (upd (upd (upd (upd S (75 + sn S 34) y) (80 + sn S 34) z) (85 + sn S 34) w) (34) (nI (sn S 34 + 1))) 34 = sn S 34 + 1 := sn_of (by omega) (upd_eq _ _ _)
            exact ⟨by rw [eR], by rw [eT, v0, v1, v2, cn], rfl⟩
          · refine ev_bipush (v := (-4)) hC dX11_see_56 (by decide) ?_
            refine ev_goto (tgt := 71) hC dX11_see_58 (by decide) ?_
            refine ev_iret hC hR rfl dX11_see_71 ?_
            have eR : seeR S y z w = (-4) := by rw [seeR, if_neg (by assumption), if_pos (by assumption), if_pos ⟨by assumption, by assumption⟩, if_pos (by omega)]
            have eT : seeT S y z w = S := by rw [seeT, if_neg (by assumption), if_pos (by assumption), if_pos ⟨by assumption, by assumption⟩, if_pos (by omega)]
            have v0 : vwn S 75 5 = (vwn S 75 5) := by rfl
            have v1 : vwn S 80 5 = (vwn S 80 5) := by rfl
            have v2 : vwn S 85 5 = (vwn S 85 5) := by rfl
            have cn : sn S 34 = sn S 34 := rfl
            exact ⟨by rw [eR], by rw [eT, v0, v1, v2, cn], rfl⟩
        · refine ev_bipush (v := (-2)) hC dX11_see_43 (by decide) ?_
          refine ev_iret hC hR rfl dX11_see_45 ?_
          have eR : seeR S y z w = (-2) := by rw [seeR, if_neg (by assumption), if_pos (by assumption), if_neg (fun h => by first | exact absurd h.1 (by assumption) | exact absurd h.2 (by assumption))]
          have eT : seeT S y z w = S := by rw [seeT, if_neg (by assumption), if_pos (by assumption), if_neg (fun h => by first | exact absurd h.1 (by assumption) | exact absurd h.2 (by assumption))]
          have v0 : vwn S 75 5 = (vwn S 75 5) := by rfl
          have v1 : vwn S 80 5 = (vwn S 80 5) := by rfl
          have v2 : vwn S 85 5 = (vwn S 85 5) := by rfl
          have cn : sn S 34 = sn S 34 := rfl
          exact ⟨by rw [eR], by rw [eT, v0, v1, v2, cn], rfl⟩
    · refine ev_iconst (v := (-1)) hC dX11_see_20 (by decide) ?_
      refine ev_iret hC hR rfl dX11_see_21 ?_
      have eR : seeR S y z w = (-1) := by rw [seeR, if_neg (by assumption), if_neg (by assumption)]
      have eT : seeT S y z w = S := by rw [seeT, if_neg (by assumption), if_neg (by assumption)]
      have v0 : vwn S 75 5 = (vwn S 75 5) := by rfl
      have v1 : vwn S 80 5 = (vwn S 80 5) := by rfl
      have v2 : vwn S 85 5 = (vwn S 85 5) := by rfl
      have cn : sn S 34 = sn S 34 := rfl
      exact ⟨by rw [eR], by rw [eT, v0, v1, v2, cn], rfl⟩
  · refine ev_aload_n hC dX11_see_5 rfl 0 rfl ?_
    refine ev_get hC fl_X11_20_11 (mw 0 rfl) rfl dX11_see_6 ?_
    refine ev_callV (As := []) (st := []) (wf := (List.flatten [SP x r1 r2 r3 r4 r5 d b1 b2 b3 hi])) hC cv_X11_88 (m_X7_clear G ro r2 5 (vwn S 75 5) (vwn S 80 5) (vwn S 85 5) s1 s2 s3 (nI (sn S 34)) sc) (by omega) rfl rfl (Nat.le_of_ble_eq_true rfl) (perm_sg (n := 2) [1, 0] rfl rfl (by decide)) (mw 1 rfl) rfl dX11_see_9 (by omega) (by omega) ?_
    rintro _ _ _ ⟨rfl, rfl, rfl⟩
    show Ev G X 0 0 12 [(0, .ref x), (1, .int y), (2, .int z), (3, .int w)] [.int (nI 0)] (List.flatten [RW G r2 5 (vwn S 75 5) (vwn S 80 5) (vwn S 85 5) (nI 0) s1 s2 s3 sc, SP x r1 r2 r3 r4 r5 d b1 b2 b3 hi]) ro
    refine ev_perm (ws' := (List.flatten [SP x r1 r2 r3 r4 r5 d b1 b2 b3 hi, RW G r2 5 (vwn S 75 5) (vwn S 80 5) (vwn S 85 5) (nI 0) s1 s2 s3 sc])) (perm_sg2 (n := 2) [1, 0] rfl rfl (by decide)) ?_
    refine ev_iret hC hR rfl dX11_see_12 ?_
    have eR : seeR S y z w = (nI 0) := by rw [seeR, if_pos (by assumption)]
    have eT : seeT S y z w = upd S (34) (nI 0) := by rw [seeT, if_pos (by assumption)]
    have v0 : vwn (upd S (34) (nI 0)) 75 5 = (vwn S 75 5) := by rw [vwn_ne (o := 75) (n := 5) (by omega)]
    have v1 : vwn (upd S (34) (nI 0)) 80 5 = (vwn S 80 5) := by rw [vwn_ne (o := 80) (n := 5) (by omega)]
    have v2 : vwn (upd S (34) (nI 0)) 85 5 = (vwn S 85 5) := by rw [vwn_ne (o := 85) (n := 5) (by omega)]
    have cn : sn (upd S (34) (nI 0)) 34 = 0 := sn_of (by omega) (upd_eq _ _ _)
    exact ⟨by rw [eR], by rw [eT, v0, v1, v2, cn], rfl⟩

set_option maxHeartbeats 4000000 in
set_option maxRecDepth 100000 in
theorem m_X11_book (G : GG) (ro : va_W) (x : Nat) (r1 r2 r3 r4 r5 d b1 b2 b3 : Nat → Nat) (hi : Int32) (S tk le T tk3 le3 : Nat → Int32) (os os3 : Nat → Option Nat) (t t3 : Nat) (wa st3 wa3 : Int32) (y z : Int32) (k3 bg1 bg2 bg3 : Nat → Int32) (bgc : Int32) (hW : WF S 9999 9999) (hO : MoOK G ro (r5 0) S os t)  : Mth G M_X11_book 8 0 0 [.ref x, .int y, .int z] (List.flatten [SP x r1 r2 r3 r4 r5 d b1 b2 b3 hi, RW G r4 8 (vwn S 106 8) (vwn S 114 8) k3 (nI (sn S 36)) bg1 bg2 bg3 bgc]) ro (fun r ws' ro' => ∃ (k3' : Nat → Int32), r = some (.int (bookR S y z)) ∧ ws' = (List.flatten [SP x r1 r2 r3 r4 r5 d b1 b2 b3 hi, RW G r4 8 (vwn (bookT S y z) 106 8) (vwn (bookT S y z) 114 8) k3' (nI (sn (bookT S y z) 36)) bg1 bg2 bg3 bgc]) ∧ ro = ro') := by
  refine mth_of (by decide +kernel) (Nat.le_of_ble_eq_true rfl) (fun X hC hR => ?_)
  have b32 := hW.peo.le
  have b36 := hW.book.le
  show Ev G X 0 0 0 [(0, .ref x), (1, .int y), (2, .int z)] [] (List.flatten [SP x r1 r2 r3 r4 r5 d b1 b2 b3 hi, RW G r4 8 (vwn S 106 8) (vwn S 114 8) k3 (nI (sn S 36)) bg1 bg2 bg3 bgc]) ro
  refine ev_iload_n hC dX11_book_0 rfl 1 rfl ?_
  refine ev_iconst (v := (-1)) hC dX11_book_1 (by decide) ?_
  refine ev_icmp_ne (tgt := 13) hC dX11_book_2 (by decide) (fun c_1 => ?_) (fun c_1 => ?_)
  · refine ev_iload_n hC dX11_book_13 rfl 1 rfl ?_
    refine ev_callS (As := [.int y]) (st := []) (wc := []) (wf := (List.flatten [SP x r1 r2 r3 r4 r5 d b1 b2 b3 hi, RW G r4 8 (vwn S 106 8) (vwn S 114 8) k3 (nI (sn S 36)) bg1 bg2 bg3 bgc])) hC ct_X11_104 (m_X11_isSide G ro y) (by omega) rfl rfl (Nat.le_of_ble_eq_true rfl) (List.Perm.refl _) dX11_book_14 (by omega) (by omega) ?_
    rintro _ _ _ ⟨rfl, rfl, rfl⟩
    refine ev_ws (List.nil_append _) ?_
    show Ev G X 0 0 17 [(0, .ref x), (1, .int y), (2, .int z)] [.int (bI ((nI 0) ≤ y ∧ y ≤ (nI 5)))] (List.flatten [SP x r1 r2 r3 r4 r5 d b1 b2 b3 hi, RW G r4 8 (vwn S 106 8) (vwn S 114 8) k3 (nI (sn S 36)) bg1 bg2 bg3 bgc]) ro
    refine ev_if_neB (tgt := 22) hC dX11_book_17 (by decide) (fun c_2 => ?_) (fun c_2 => ?_)
    · refine ev_iload_n hC dX11_book_22 rfl 2 rfl ?_
      refine ev_iconst (v := (nI 0)) hC dX11_book_23 (by decide) ?_
      refine ev_sipush (v := (nI 999)) hC dX11_book_24 (by decide) ?_
      refine ev_callS (As := [.int z, .int (nI 0), .int (nI 999)]) (st := []) (wc := []) (wf := (List.flatten [SP x r1 r2 r3 r4 r5 d b1 b2 b3 hi, RW G r4 8 (vwn S 106 8) (vwn S 114 8) k3 (nI (sn S 36)) bg1 bg2 bg3 bgc])) hC ct_X11_68 (m_X11_isWithin G ro z (nI 0) (nI 999)) (by omega) rfl rfl (Nat.le_of_ble_eq_true rfl) (List.Perm.refl _) dX11_book_27 (by omega) (by omega) ?_
      rintro _ _ _ ⟨rfl, rfl, rfl⟩
      refine ev_ws (List.nil_append _) ?_
      show Ev G X 0 0 30 [(0, .ref x), (1, .int y), (2, .int z)] [.int (bI ((nI 0) ≤ z ∧ z ≤ (nI 999)))] (List.flatten [SP x r1 r2 r3 r4 r5 d b1 b2 b3 hi, RW G r4 8 (vwn S 106 8) (vwn S 114 8) k3 (nI (sn S 36)) bg1 bg2 bg3 bgc]) ro
      refine ev_if_neB (tgt := 36) hC dX11_book_30 (by decide) (fun c_3 => ?_) (fun c_3 => ?_)
      · refine ev_aload_n hC dX11_book_36 rfl 0 rfl ?_
        refine ev_get hC fl_X11_26_11 (mw 0 rfl) rfl dX11_book_37 ?_
        refine ev_callV (As := []) (st := []) (wf := (List.flatten [SP x r1 r2 r3 r4 r5 d b1 b2 b3 hi])) hC cv_X11_72 (m_X7_isFull G ro r4 8 (sn S 36) (vwn S 106 8) (vwn S 114 8) k3 bg1 bg2 bg3 bgc (by omega) (by omega)) (by omega) rfl rfl (Nat.le_of_ble_eq_true rfl) (perm_sg (n := 2) [1, 0] rfl rfl (by decide)) (mw 1 rfl) rfl dX11_book_40 (by omega) (by omega) ?_
        rintro _ _ _ ⟨rfl, rfl, rfl⟩
        show Ev G X 0 0 43 [(0, .ref x), (1, .int y), (2, .int z)] [.int (bI (8 ≤ sn S 36))] (List.flatten [RW G r4 8 (vwn S 106 8) (vwn S 114 8) k3 (nI (sn S 36)) bg1 bg2 bg3 bgc, SP x r1 r2 r3 r4 r5 d b1 b2 b3 hi]) ro
        refine ev_perm (ws' := (List.flatten [SP x r1 r2 r3 r4 r5 d b1 b2 b3 hi, RW G r4 8 (vwn S 106 8) (vwn S 114 8) k3 (nI (sn S 36)) bg1 bg2 bg3 bgc])) (perm_sg2 (n := 2) [1, 0] rfl rfl (by decide)) ?_
        refine ev_if_eqB (tgt := 51) hC dX11_book_43 (by decide) (fun c_4 => ?_) (fun c_4 => ?_)
        · refine ev_aload_n hC dX11_book_51 rfl 0 rfl ?_
          refine ev_get hC fl_X11_26_11 (mw 0 rfl) rfl dX11_book_52 ?_
          refine ev_iload_n hC dX11_book_55 rfl 1 rfl ?_
          refine ev_iload_n hC dX11_book_56 rfl 2 rfl ?_
          refine ev_iconst (v := (nI 0)) hC dX11_book_57 (by decide) ?_
          refine ev_callV (As := [.int y, .int z, .int (nI 0)]) (st := []) (wf := (List.flatten [SP x r1 r2 r3 r4 r5 d b1 b2 b3 hi])) hC cv_X11_76 (m_X7_add G ro r4 8 (sn S 36) (vwn S 106 8) (vwn S 114 8) k3 bg1 bg2 bg3 bgc y z (nI 0) (by omega) (by omega) (by omega)) (by omega) rfl rfl (Nat.le_of_ble_eq_true rfl) (perm_sg (n := 2) [1, 0] rfl rfl (by decide)) (mw 1 rfl) rfl dX11_book_58 (by omega) (by omega) ?_
          rintro _ _ _ ⟨rfl, rfl, rfl⟩
          show Ev G X 0 0 61 [(0, .ref x), (1, .int y), (2, .int z)] [.int (nI (sn S 36 + 1))] (List.flatten [RW G r4 8 (upd (vwn S 106 8) (sn S 36) y) (upd (vwn S 114 8) (sn S 36) z) (upd k3 (sn S 36) (nI 0)) (nI (sn S 36 + 1)) bg1 bg2 bg3 bgc, SP x r1 r2 r3 r4 r5 d b1 b2 b3 hi]) ro
          refine ev_perm (ws' := (List.flatten [SP x r1 r2 r3 r4 r5 d b1 b2 b3 hi, RW G r4 8 (upd (vwn S 106 8) (sn S 36) y) (upd (vwn S 114 8) (sn S 36) z) (upd k3 (sn S 36) (nI 0)) (nI (sn S 36 + 1)) bg1 bg2 bg3 bgc])) (perm_sg2 (n := 2) [1, 0] rfl rfl (by decide)) ?_
          refine ev_iret hC hR rfl dX11_book_61 ?_
          have eR : bookR S y z = (nI (sn S 36 + 1)) := by rw [bookR, if_neg (by assumption), if_pos (by assumption), if_pos (by assumption), if_neg (by omega)]
          have eT : bookT S y z = upd (upd (upd S (106 + sn S 36) y) (114 + sn S 36) z) (36) (nI (sn S 36 + 1)) := by rw [bookT, if_neg (by assumption), if_pos (by assumption), if_pos (by assumption), if_neg (by omega)]
          have v0 : vwn (upd (upd (upd S (106 + sn S 36) y) (114 + sn S 36) z) (36) (nI (sn S 36 + 1))) 106 8 = upd (vwn S 106 8) (sn S 36) y := by rw [vwn_ne (o := 106) (n := 8) (by omega), vwn_ne (o := 106) (n := 8) (by omega), ← vwn_upd (by omega)]
          have v1 : vwn (upd (upd (upd S (106 + sn S 36) y) (114 + sn S 36) z) (36) (nI (sn S 36 + 1))) 114 8 = upd (vwn S 114 8) (sn S 36) z := by rw [vwn_ne (o := 114) (n := 8) (by omega), ← vwn_upd (by omega), vwn_ne (o := 114) (n := 8) (by omega)]
          have cn : sn (upd (upd (upd S (106 + sn S 36) y) (114 + sn S 36) z) (36) (nI (sn S 36 + 1))) 36 = sn S 36 + 1 := sn_of (by omega) (upd_eq _ _ _)
          exact ⟨(upd k3 (sn S 36) (nI 0)), by rw [eR], by rw [eT, v0, v1, cn], rfl⟩
        · refine ev_bipush (v := (-4)) hC dX11_book_46 (by decide) ?_
          refine ev_goto (tgt := 61) hC dX11_book_48 (by decide) ?_
          refine ev_iret hC hR rfl dX11_book_61 ?_
          have eR : bookR S y z = (-4) := by rw [bookR, if_neg (by assumption), if_pos (by assumption), if_pos (by assumption), if_pos (by omega)]
          have eT : bookT S y z = S := by rw [bookT, if_neg (by assumption), if_pos (by assumption), if_pos (by assumption), if_pos (by omega)]
          have v0 : vwn S 106 8 = (vwn S 106 8) := by rfl
          have v1 : vwn S 114 8 = (vwn S 114 8) := by rfl
          have cn : sn S 36 = sn S 36 := rfl
          exact ⟨k3, by rw [eR], by rw [eT, v0, v1, cn], rfl⟩
      · refine ev_bipush (v := (-2)) hC dX11_book_33 (by decide) ?_
        refine ev_iret hC hR rfl dX11_book_35 ?_
        have eR : bookR S y z = (-2) := by rw [bookR, if_neg (by assumption), if_pos (by assumption), if_neg (by assumption)]
        have eT : bookT S y z = S := by rw [bookT, if_neg (by assumption), if_pos (by assumption), if_neg (by assumption)]
        have v0 : vwn S 106 8 = (vwn S 106 8) := by rfl
        have v1 : vwn S 114 8 = (vwn S 114 8) := by rfl
        have cn : sn S 36 = sn S 36 := rfl
        exact ⟨k3, by rw [eR], by rw [eT, v0, v1, cn], rfl⟩
    · refine ev_iconst (v := (-1)) hC dX11_book_20 (by decide) ?_
      refine ev_iret hC hR rfl dX11_book_21 ?_
      have eR : bookR S y z = (-1) := by rw [bookR, if_neg (by assumption), if_neg (by assumption)]
      have eT : bookT S y z = S := by rw [bookT, if_neg (by assumption), if_neg (by assumption)]
      have v0 : vwn S 106 8 = (vwn S 106 8) := by rfl
      have v1 : vwn S 114 8 = (vwn S 114 8) := by rfl
      have cn : sn S 36 = sn S 36 := rfl
      exact ⟨k3, by rw [eR], by rw [eT, v0, v1, cn], rfl⟩
  · refine ev_aload_n hC dX11_book_5 rfl 0 rfl ?_
    refine ev_get hC fl_X11_26_11 (mw 0 rfl) rfl dX11_book_6 ?_
    refine ev_callV (As := []) (st := []) (wf := (List.flatten [SP x r1 r2 r3 r4 r5 d b1 b2 b3 hi])) hC cv_X11_88 (m_X7_clear G ro r4 8 (vwn S 106 8) (vwn S 114 8) k3 bg1 bg2 bg3 (nI (sn S 36)) bgc) (by omega) rfl rfl (Nat.le_of_ble_eq_true rfl) (perm_sg (n := 2) [1, 0] rfl rfl (by decide)) (mw 1 rfl) rfl dX11_book_9 (by omega) (by omega) ?_
    rintro _ _ _ ⟨rfl, rfl, rfl⟩
    show Ev G X 0 0 12 [(0, .ref x), (1, .int y), (2, .int z)] [.int (nI 0)] (List.flatten [RW G r4 8 (vwn S 106 8) (vwn S 114 8) k3 (nI 0) bg1 bg2 bg3 bgc, SP x r1 r2 r3 r4 r5 d b1 b2 b3 hi]) ro
    refine ev_perm (ws' := (List.flatten [SP x r1 r2 r3 r4 r5 d b1 b2 b3 hi, RW G r4 8 (vwn S 106 8) (vwn S 114 8) k3 (nI 0) bg1 bg2 bg3 bgc])) (perm_sg2 (n := 2) [1, 0] rfl rfl (by decide)) ?_
    refine ev_iret hC hR rfl dX11_book_12 ?_
    have eR : bookR S y z = (nI 0) := by rw [bookR, if_pos (by assumption)]
    have eT : bookT S y z = upd S (36) (nI 0) := by rw [bookT, if_pos (by assumption)]
    have v0 : vwn (upd S (36) (nI 0)) 106 8 = (vwn S 106 8) := by rw [vwn_ne (o := 106) (n := 8) (by omega)]
    have v1 : vwn (upd S (36) (nI 0)) 114 8 = (vwn S 114 8) := by rw [vwn_ne (o := 114) (n := 8) (by omega)]
    have cn : sn (upd S (36) (nI 0)) 36 = 0 := sn_of (by omega) (upd_eq _ _ _)
    exact ⟨k3, by rw [eR], by rw [eT, v0, v1, cn], rfl⟩

theorem bI_iff {P Q : Prop} [Decidable P] [Decidable Q] (h : P ↔ Q) : bI P = bI Q := by
  unfold bI
  by_cases c : P
  · rw [if_pos c, if_pos (h.mp c)]
  · rw [if_neg c, if_neg (fun q => c (h.mpr q))]

set_option maxHeartbeats 4000000 in
set_option maxRecDepth 100000 in
theorem m_X11_isPlanned (G : GG) (ro : va_W) (x : Nat) (r1 r2 r3 r4 r5 d b1 b2 b3 : Nat → Nat) (hi : Int32) (S tk le : Nat → Int32) (os : Nat → Option Nat) (t : Nat) (mu wa w z : Int32)  : Mth G M_X11_isPlanned 2 0 0 [.ref x, .int w, .int z] (List.flatten [SP x r1 r2 r3 r4 r5 d b1 b2 b3 hi, MO G b1 (vwn S 2 6) tk os (vwn S 14 6) (vwn S 20 6) (vwn S 26 6) (vwn S 51 24) le (S 32) (bitF S) (S 0) (S 1) t (S 33) mu wa]) ro (fun r ws' ro' => r = some (.int (bI (¬ (¬ (nI 0 ≤ w ∧ w ≤ nI 3) ∨ ((nI 1 ≤ w ∧ w ≤ nI 2) ∧ ¬ (nI 0 ≤ z ∧ z ≤ nI 5)) ∨ (w = nI 3 ∧ ¬ (nI 0 ≤ z ∧ z ≤ S 32 - nI 1)))))) ∧ ws' = (List.flatten [SP x r1 r2 r3 r4 r5 d b1 b2 b3 hi, MO G b1 (vwn S 2 6) tk os (vwn S 14 6) (vwn S 20 6) (vwn S 26 6) (vwn S 51 24) le (S 32) (bitF S) (S 0) (S 1) t (S 33) mu wa]) ∧ ro = ro') := by
  refine mth_of (by decide +kernel) (Nat.le_of_ble_eq_true rfl) (fun X hC hR => ?_)
  show Ev G X 0 0 0 [(0, .ref x), (1, .int w), (2, .int z)] [] (List.flatten [SP x r1 r2 r3 r4 r5 d b1 b2 b3 hi, MO G b1 (vwn S 2 6) tk os (vwn S 14 6) (vwn S 20 6) (vwn S 26 6) (vwn S 51 24) le (S 32) (bitF S) (S 0) (S 1) t (S 33) mu wa]) ro
  refine ev_iload_n hC dX11_isPlanned_0 rfl 1 rfl ?_
  by_cases w_1_0 : w = nI 0
  · subst w_1_0
    refine ev_tabIn (off := 31) (tgt := 32) hC dX11_isPlanned_1 (by decide) (by decide) (by decide) (by decide) ?_
    refine ev_iconst (v := (nI 1)) hC dX11_isPlanned_32 (by decide) ?_
    refine ev_zret hC hR rfl (by rfl) dX11_isPlanned_33 ?_
    have eR : bI (¬ (¬ (nI 0 ≤ (nI 0) ∧ (nI 0) ≤ nI 3) ∨ ((nI 1 ≤ (nI 0) ∧ (nI 0) ≤ nI 2) ∧ ¬ (nI 0 ≤ z ∧ z ≤ nI 5)) ∨ ((nI 0) = nI 3 ∧ ¬ (nI 0 ≤ z ∧ z ≤ S 32 - nI 1)))) = nI 1 := if_pos (by simp [show (nI 0 ≤ nI 0) = True from by decide, show (nI 0 ≤ nI 1) = True from by decide, show (nI 0 ≤ nI 2) = True from by decide, show (nI 0 ≤ nI 3) = True from by decide, show (nI 0 ≤ nI 3) = True from by decide, show (nI 1 ≤ nI 3) = True from by decide, show (nI 2 ≤ nI 3) = True from by decide, show (nI 3 ≤ nI 3) = True from by decide, show (nI 1 ≤ nI 0) = False from by decide, show (nI 1 ≤ nI 1) = True from by decide, show (nI 1 ≤ nI 2) = True from by decide, show (nI 2 ≤ nI 2) = True from by decide, show (nI 1 ≤ nI 3) = True from by decide, show (nI 3 ≤ nI 2) = False from by decide, show (nI 0 = nI 3) = False from by decide, show (nI 1 = nI 3) = False from by decide, show (nI 2 = nI 3) = False from by decide])
    exact ⟨by rw [eR], rfl, rfl⟩
  by_cases w_1_1 : w = nI 1
  · subst w_1_1
    refine ev_tabIn (off := 33) (tgt := 34) hC dX11_isPlanned_1 (by decide) (by decide) (by decide) (by decide) ?_
    refine ev_iload_n hC dX11_isPlanned_34 rfl 2 rfl ?_
    refine ev_callS (As := [.int z]) (st := []) (wc := []) (wf := (List.flatten [SP x r1 r2 r3 r4 r5 d b1 b2 b3 hi, MO G b1 (vwn S 2 6) tk os (vwn S 14 6) (vwn S 20 6) (vwn S 26 6) (vwn S 51 24) le (S 32) (bitF S) (S 0) (S 1) t (S 33) mu wa])) hC ct_X11_104 (m_X11_isSide G ro z) (by omega) rfl rfl (Nat.le_of_ble_eq_true rfl) (List.Perm.refl _) dX11_isPlanned_35 (by omega) (by omega) ?_
    rintro _ _ _ ⟨rfl, rfl, rfl⟩
    refine ev_ws (List.nil_append _) ?_
    show Ev G X 0 0 38 [(0, .ref x), (1, .int (nI 1)), (2, .int z)] [.int (bI ((nI 0) ≤ z ∧ z ≤ (nI 5)))] (List.flatten [SP x r1 r2 r3 r4 r5 d b1 b2 b3 hi, MO G b1 (vwn S 2 6) tk os (vwn S 14 6) (vwn S 20 6) (vwn S 26 6) (vwn S 51 24) le (S 32) (bitF S) (S 0) (S 1) t (S 33) mu wa]) ro
    refine ev_zret hC hR rfl (bI_nar _) dX11_isPlanned_38 ?_
    have eR : bI (¬ (¬ (nI 0 ≤ (nI 1) ∧ (nI 1) ≤ nI 3) ∨ ((nI 1 ≤ (nI 1) ∧ (nI 1) ≤ nI 2) ∧ ¬ (nI 0 ≤ z ∧ z ≤ nI 5)) ∨ ((nI 1) = nI 3 ∧ ¬ (nI 0 ≤ z ∧ z ≤ S 32 - nI 1)))) = (bI ((nI 0) ≤ z ∧ z ≤ (nI 5))) := bI_iff (by simp [show (nI 0 ≤ nI 0) = True from by decide, show (nI 0 ≤ nI 1) = True from by decide, show (nI 0 ≤ nI 2) = True from by decide, show (nI 0 ≤ nI 3) = True from by decide, show (nI 0 ≤ nI 3) = True from by decide, show (nI 1 ≤ nI 3) = True from by decide, show (nI 2 ≤ nI 3) = True from by decide, show (nI 3 ≤ nI 3) = True from by decide, show (nI 1 ≤ nI 0) = False from by decide, show (nI 1 ≤ nI 1) = True from by decide, show (nI 1 ≤ nI 2) = True from by decide, show (nI 2 ≤ nI 2) = True from by decide, show (nI 1 ≤ nI 3) = True from by decide, show (nI 3 ≤ nI 2) = False from by decide, show (nI 0 = nI 3) = False from by decide, show (nI 1 = nI 3) = False from by decide, show (nI 2 = nI 3) = False from by decide])
    exact ⟨by rw [eR], rfl, rfl⟩
  by_cases w_1_2 : w = nI 2
  · subst w_1_2
    refine ev_tabIn (off := 38) (tgt := 39) hC dX11_isPlanned_1 (by decide) (by decide) (by decide) (by decide) ?_
    refine ev_iload_n hC dX11_isPlanned_39 rfl 2 rfl ?_
    refine ev_callS (As := [.int z]) (st := []) (wc := []) (wf := (List.flatten [SP x r1 r2 r3 r4 r5 d b1 b2 b3 hi, MO G b1 (vwn S 2 6) tk os (vwn S 14 6) (vwn S 20 6) (vwn S 26 6) (vwn S 51 24) le (S 32) (bitF S) (S 0) (S 1) t (S 33) mu wa])) hC ct_X11_104 (m_X11_isSide G ro z) (by omega) rfl rfl (Nat.le_of_ble_eq_true rfl) (List.Perm.refl _) dX11_isPlanned_40 (by omega) (by omega) ?_
    rintro _ _ _ ⟨rfl, rfl, rfl⟩
    refine ev_ws (List.nil_append _) ?_
    show Ev G X 0 0 43 [(0, .ref x), (1, .int (nI 2)), (2, .int z)] [.int (bI ((nI 0) ≤ z ∧ z ≤ (nI 5)))] (List.flatten [SP x r1 r2 r3 r4 r5 d b1 b2 b3 hi, MO G b1 (vwn S 2 6) tk os (vwn S 14 6) (vwn S 20 6) (vwn S 26 6) (vwn S 51 24) le (S 32) (bitF S) (S 0) (S 1) t (S 33) mu wa]) ro
    refine ev_zret hC hR rfl (bI_nar _) dX11_isPlanned_43 ?_
    have eR : bI (¬ (¬ (nI 0 ≤ (nI 2) ∧ (nI 2) ≤ nI 3) ∨ ((nI 1 ≤ (nI 2) ∧ (nI 2) ≤ nI 2) ∧ ¬ (nI 0 ≤ z ∧ z ≤ nI 5)) ∨ ((nI 2) = nI 3 ∧ ¬ (nI 0 ≤ z ∧ z ≤ S 32 - nI 1)))) = (bI ((nI 0) ≤ z ∧ z ≤ (nI 5))) := bI_iff (by simp [show (nI 0 ≤ nI 0) = True from by decide, show (nI 0 ≤ nI 1) = True from by decide, show (nI 0 ≤ nI 2) = True from by decide, show (nI 0 ≤ nI 3) = True from by decide, show (nI 0 ≤ nI 3) = True from by decide, show (nI 1 ≤ nI 3) = True from by decide, show (nI 2 ≤ nI 3) = True from by decide, show (nI 3 ≤ nI 3) = True from by decide, show (nI 1 ≤ nI 0) = False from by decide, show (nI 1 ≤ nI 1) = True from by decide, show (nI 1 ≤ nI 2) = True from by decide, show (nI 2 ≤ nI 2) = True from by decide, show (nI 1 ≤ nI 3) = True from by decide, show (nI 3 ≤ nI 2) = False from by decide, show (nI 0 = nI 3) = False from by decide, show (nI 1 = nI 3) = False from by decide, show (nI 2 = nI 3) = False from by decide])
    exact ⟨by rw [eR], rfl, rfl⟩
  by_cases w_1_3 : w = nI 3
  · subst w_1_3
    refine ev_tabIn (off := 43) (tgt := 44) hC dX11_isPlanned_1 (by decide) (by decide) (by decide) (by decide) ?_
    refine ev_aload_n hC dX11_isPlanned_44 rfl 0 rfl ?_
    refine ev_iload_n hC dX11_isPlanned_45 rfl 2 rfl ?_
    refine ev_callV (As := [.int z]) (st := []) (wf := (List.flatten [])) hC cv_X11_118 (m_X11_isPerson G ro x r1 r2 r3 r4 r5 d b1 b2 b3 hi S tk le os t mu wa z) (by omega) rfl rfl (Nat.le_of_ble_eq_true rfl) (perm_sg (n := 2) [0, 1] rfl rfl (by decide)) (mw 0 rfl) rfl dX11_isPlanned_46 (by omega) (by omega) ?_
    rintro _ _ _ ⟨rfl, rfl, rfl⟩
    show Ev G X 0 0 49 [(0, .ref x), (1, .int (nI 3)), (2, .int z)] [.int (bI ((nI 0) ≤ z ∧ z ≤ (S 32 - nI 1)))] (List.flatten [SP x r1 r2 r3 r4 r5 d b1 b2 b3 hi, MO G b1 (vwn S 2 6) tk os (vwn S 14 6) (vwn S 20 6) (vwn S 26 6) (vwn S 51 24) le (S 32) (bitF S) (S 0) (S 1) t (S 33) mu wa]) ro
    refine ev_zret hC hR rfl (bI_nar _) dX11_isPlanned_49 ?_
    have eR : bI (¬ (¬ (nI 0 ≤ (nI 3) ∧ (nI 3) ≤ nI 3) ∨ ((nI 1 ≤ (nI 3) ∧ (nI 3) ≤ nI 2) ∧ ¬ (nI 0 ≤ z ∧ z ≤ nI 5)) ∨ ((nI 3) = nI 3 ∧ ¬ (nI 0 ≤ z ∧ z ≤ S 32 - nI 1)))) = (bI ((nI 0) ≤ z ∧ z ≤ (S 32 - nI 1))) := bI_iff (by simp [show (nI 0 ≤ nI 0) = True from by decide, show (nI 0 ≤ nI 1) = True from by decide, show (nI 0 ≤ nI 2) = True from by decide, show (nI 0 ≤ nI 3) = True from by decide, show (nI 0 ≤ nI 3) = True from by decide, show (nI 1 ≤ nI 3) = True from by decide, show (nI 2 ≤ nI 3) = True from by decide, show (nI 3 ≤ nI 3) = True from by decide, show (nI 1 ≤ nI 0) = False from by decide, show (nI 1 ≤ nI 1) = True from by decide, show (nI 1 ≤ nI 2) = True from by decide, show (nI 2 ≤ nI 2) = True from by decide, show (nI 1 ≤ nI 3) = True from by decide, show (nI 3 ≤ nI 2) = False from by decide, show (nI 0 = nI 3) = False from by decide, show (nI 1 = nI 3) = False from by decide, show (nI 2 = nI 3) = False from by decide])
    exact ⟨by rw [eR], rfl, rfl⟩
  refine ev_tabOut (tgt := 50) hC dX11_isPlanned_1 (sw_out (lo := 0) (hi := 3) (fun j h1 h2 => ?_)) (by decide) ?_
  · intro e
    have hj : j = 0 ∨ j = 1 ∨ j = 2 ∨ j = 3 := by omega
    rcases hj with rfl | rfl | rfl | rfl
    · exact w_1_0 (Int32.toInt_inj.mp (e.trans (by decide)))
    · exact w_1_1 (Int32.toInt_inj.mp (e.trans (by decide)))
    · exact w_1_2 (Int32.toInt_inj.mp (e.trans (by decide)))
    · exact w_1_3 (Int32.toInt_inj.mp (e.trans (by decide)))
  refine ev_iconst (v := (nI 0)) hC dX11_isPlanned_50 (by decide) ?_
  refine ev_zret hC hR rfl (by rfl) dX11_isPlanned_51 ?_
  have hw4 : ¬ (nI 0 ≤ w ∧ w ≤ nI 3) := by
    intro h
    obtain ⟨k, hk, rfl⟩ := inN (m := 3) (by omega) h
    rcases (show k = 0 ∨ k = 1 ∨ k = 2 ∨ k = 3 by omega) with rfl | rfl | rfl | rfl <;> contradiction
  have eR : bI (¬ (¬ (nI 0 ≤ w ∧ w ≤ nI 3) ∨ ((nI 1 ≤ w ∧ w ≤ nI 2) ∧ ¬ (nI 0 ≤ z ∧ z ≤ nI 5)) ∨ (w = nI 3 ∧ ¬ (nI 0 ≤ z ∧ z ≤ S 32 - nI 1)))) = nI 0 := if_neg (fun h => h (Or.inl hw4))
  exact ⟨by rw [eR], rfl, rfl⟩

set_option maxHeartbeats 4000000 in
set_option maxRecDepth 100000 in
theorem m_X11_plan (G : GG) (ro : va_W) (x : Nat) (r1 r2 r3 r4 r5 d b1 b2 b3 : Nat → Nat) (hi : Int32) (S tk le T tk3 le3 : Nat → Int32) (os os3 : Nat → Option Nat) (t t3 : Nat) (wa st3 wa3 : Int32) (w z : Int32) (p3 pg1 pg2 pg3 : Nat → Int32) (pgc : Int32) (hW : WF S 9999 9999) (hO : MoOK G ro (r5 0) S os t)  : Mth G M_X11_plan 8 0 0 [.ref x, .int w, .int z] (List.flatten [SP x r1 r2 r3 r4 r5 d b1 b2 b3 hi, RW G r3 8 (vwn S 90 8) (vwn S 98 8) p3 (nI (sn S 35)) pg1 pg2 pg3 pgc, MO G b1 (vwn S 2 6) tk os (vwn S 14 6) (vwn S 20 6) (vwn S 26 6) (vwn S 51 24) le (S 32) (bitF S) (S 0) (S 1) t (S 33) (-1) wa]) ro (fun r ws' ro' => ∃ (p3' : Nat → Int32), r = some (.int (planR S w z)) ∧ ws' = (List.flatten [SP x r1 r2 r3 r4 r5 d b1 b2 b3 hi, RW G r3 8 (vwn (planT S w z) 90 8) (vwn (planT S w z) 98 8) p3' (nI (sn (planT S w z) 35)) pg1 pg2 pg3 pgc, MO G b1 (vwn S 2 6) tk os (vwn S 14 6) (vwn S 20 6) (vwn S 26 6) (vwn S 51 24) le (S 32) (bitF S) (S 0) (S 1) t (S 33) (-1) wa]) ∧ ro = ro') := by
  refine mth_of (by decide +kernel) (Nat.le_of_ble_eq_true rfl) (fun X hC hR => ?_)
  have b32 := hW.peo.le
  have b35 := hW.plan.le
  show Ev G X 0 0 0 [(0, .ref x), (1, .int w), (2, .int z)] [] (List.flatten [SP x r1 r2 r3 r4 r5 d b1 b2 b3 hi, RW G r3 8 (vwn S 90 8) (vwn S 98 8) p3 (nI (sn S 35)) pg1 pg2 pg3 pgc, MO G b1 (vwn S 2 6) tk os (vwn S 14 6) (vwn S 20 6) (vwn S 26 6) (vwn S 51 24) le (S 32) (bitF S) (S 0) (S 1) t (S 33) (-1) wa]) ro
  refine ev_iload_n hC dX11_plan_0 rfl 1 rfl ?_
  refine ev_iconst (v := (-1)) hC dX11_plan_1 (by decide) ?_
  refine ev_icmp_ne (tgt := 13) hC dX11_plan_2 (by decide) (fun c_1 => ?_) (fun c_1 => ?_)
  · refine ev_aload_n hC dX11_plan_13 rfl 0 rfl ?_
    refine ev_iload_n hC dX11_plan_14 rfl 1 rfl ?_
    refine ev_iload_n hC dX11_plan_15 rfl 2 rfl ?_
    refine ev_callV (As := [.int w, .int z]) (st := []) (wf := (List.flatten [RW G r3 8 (vwn S 90 8) (vwn S 98 8) p3 (nI (sn S 35)) pg1 pg2 pg3 pgc])) hC cv_X11_238 (m_X11_isPlanned G ro x r1 r2 r3 r4 r5 d b1 b2 b3 hi S tk le os t (-1) wa w z) (by omega) rfl rfl (Nat.le_of_ble_eq_true rfl) (perm_sg (n := 3) [0, 2, 1] rfl rfl (by decide)) (mw 0 rfl) rfl dX11_plan_16 (by omega) (by omega) ?_
    rintro _ _ _ ⟨rfl, rfl, rfl⟩
    show Ev G X 0 0 19 [(0, .ref x), (1, .int w), (2, .int z)] [.int (bI (¬ (¬ (nI 0 ≤ w ∧ w ≤ nI 3) ∨ ((nI 1 ≤ w ∧ w ≤ nI 2) ∧ ¬ (nI 0 ≤ z ∧ z ≤ nI 5)) ∨ (w = nI 3 ∧ ¬ (nI 0 ≤ z ∧ z ≤ S 32 - nI 1)))))] (List.flatten [SP x r1 r2 r3 r4 r5 d b1 b2 b3 hi, MO G b1 (vwn S 2 6) tk os (vwn S 14 6) (vwn S 20 6) (vwn S 26 6) (vwn S 51 24) le (S 32) (bitF S) (S 0) (S 1) t (S 33) (-1) wa, RW G r3 8 (vwn S 90 8) (vwn S 98 8) p3 (nI (sn S 35)) pg1 pg2 pg3 pgc]) ro
    refine ev_perm (ws' := (List.flatten [SP x r1 r2 r3 r4 r5 d b1 b2 b3 hi, RW G r3 8 (vwn S 90 8) (vwn S 98 8) p3 (nI (sn S 35)) pg1 pg2 pg3 pgc, MO G b1 (vwn S 2 6) tk os (vwn S 14 6) (vwn S 20 6) (vwn S 26 6) (vwn S 51 24) le (S 32) (bitF S) (S 0) (S 1) t (S 33) (-1) wa])) (perm_sg2 (n := 3) [0, 2, 1] rfl rfl (by decide)) ?_
    refine ev_if_neB (tgt := 24) hC dX11_plan_19 (by decide) (fun c_2 => ?_) (fun c_2 => ?_)
    · refine ev_aload_n hC dX11_plan_24 rfl 0 rfl ?_
      refine ev_get hC fl_X11_23_11 (mw 0 rfl) rfl dX11_plan_25 ?_
      refine ev_callV (As := []) (st := []) (wf := (List.flatten [SP x r1 r2 r3 r4 r5 d b1 b2 b3 hi, MO G b1 (vwn S 2 6) tk os (vwn S 14 6) (vwn S 20 6) (vwn S 26 6) (vwn S 51 24) le (S 32) (bitF S) (S 0) (S 1) t (S 33) (-1) wa])) hC cv_X11_72 (m_X7_isFull G ro r3 8 (sn S 35) (vwn S 90 8) (vwn S 98 8) p3 pg1 pg2 pg3 pgc (by omega) (by omega)) (by omega) rfl rfl (Nat.le_of_ble_eq_true rfl) (perm_sg (n := 3) [1, 0, 2] rfl rfl (by decide)) (mw 1 rfl) rfl dX11_plan_28 (by omega) (by omega) ?_
      rintro _ _ _ ⟨rfl, rfl, rfl⟩
      show Ev G X 0 0 31 [(0, .ref x), (1, .int w), (2, .int z)] [.int (bI (8 ≤ sn S 35))] (List.flatten [RW G r3 8 (vwn S 90 8) (vwn S 98 8) p3 (nI (sn S 35)) pg1 pg2 pg3 pgc, SP x r1 r2 r3 r4 r5 d b1 b2 b3 hi, MO G b1 (vwn S 2 6) tk os (vwn S 14 6) (vwn S 20 6) (vwn S 26 6) (vwn S 51 24) le (S 32) (bitF S) (S 0) (S 1) t (S 33) (-1) wa]) ro
      refine ev_perm (ws' := (List.flatten [SP x r1 r2 r3 r4 r5 d b1 b2 b3 hi, RW G r3 8 (vwn S 90 8) (vwn S 98 8) p3 (nI (sn S 35)) pg1 pg2 pg3 pgc, MO G b1 (vwn S 2 6) tk os (vwn S 14 6) (vwn S 20 6) (vwn S 26 6) (vwn S 51 24) le (S 32) (bitF S) (S 0) (S 1) t (S 33) (-1) wa])) (perm_sg2 (n := 3) [1, 0, 2] rfl rfl (by decide)) ?_
      refine ev_if_eqB (tgt := 39) hC dX11_plan_31 (by decide) (fun c_3 => ?_) (fun c_3 => ?_)
      · refine ev_aload_n hC dX11_plan_39 rfl 0 rfl ?_
        refine ev_get hC fl_X11_23_11 (mw 0 rfl) rfl dX11_plan_40 ?_
        refine ev_iload_n hC dX11_plan_43 rfl 1 rfl ?_
        refine ev_iload_n hC dX11_plan_44 rfl 2 rfl ?_
        refine ev_iconst (v := (nI 0)) hC dX11_plan_45 (by decide) ?_
        refine ev_callV (As := [.int w, .int z, .int (nI 0)]) (st := []) (wf := (List.flatten [SP x r1 r2 r3 r4 r5 d b1 b2 b3 hi, MO G b1 (vwn S 2 6) tk os (vwn S 14 6) (vwn S 20 6) (vwn S 26 6) (vwn S 51 24) le (S 32) (bitF S) (S 0) (S 1) t (S 33) (-1) wa])) hC cv_X11_76 (m_X7_add G ro r3 8 (sn S 35) (vwn S 90 8) (vwn S 98 8) p3 pg1 pg2 pg3 pgc w z (nI 0) (by omega) (by omega) (by omega)) (by omega) rfl rfl (Nat.le_of_ble_eq_true rfl) (perm_sg (n := 3) [1, 0, 2] rfl rfl (by decide)) (mw 1 rfl) rfl dX11_plan_46 (by omega) (by omega) ?_
        rintro _ _ _ ⟨rfl, rfl, rfl⟩
        show Ev G X 0 0 49 [(0, .ref x), (1, .int w), (2, .int z)] [.int (nI (sn S 35 + 1))] (List.flatten [RW G r3 8 (upd (vwn S 90 8) (sn S 35) w) (upd (vwn S 98 8) (sn S 35) z) (upd p3 (sn S 35) (nI 0)) (nI (sn S 35 + 1)) pg1 pg2 pg3 pgc, SP x r1 r2 r3 r4 r5 d b1 b2 b3 hi, MO G b1 (vwn S 2 6) tk os (vwn S 14 6) (vwn S 20 6) (vwn S 26 6) (vwn S 51 24) le (S 32) (bitF S) (S 0) (S 1) t (S 33) (-1) wa]) ro
        refine ev_perm (ws' := (List.flatten [SP x r1 r2 r3 r4 r5 d b1 b2 b3 hi, RW G r3 8 (upd (vwn S 90 8) (sn S 35) w) (upd (vwn S 98 8) (sn S 35) z) (upd p3 (sn S 35) (nI 0)) (nI (sn S 35 + 1)) pg1 pg2 pg3 pgc, MO G b1 (vwn S 2 6) tk os (vwn S 14 6) (vwn S 20 6) (vwn S 26 6) (vwn S 51 24) le (S 32) (bitF S) (S 0) (S 1) t (S 33) (-1) wa])) (perm_sg2 (n := 3) [1, 0, 2] rfl rfl (by decide)) ?_
        refine ev_iret hC hR rfl dX11_plan_49 ?_
        have eR : planR S w z = (nI (sn S 35 + 1)) := by rw [planR, if_neg (by assumption), if_neg (by assumption), if_neg (by omega)]
        have eT : planT S w z = upd (upd (upd S (90 + sn S 35) w) (98 + sn S 35) z) (35) (nI (sn S 35 + 1)) := by rw [planT, if_neg (by assumption), if_neg (by assumption), if_neg (by omega)]
        have v0 : vwn (upd (upd (upd S (90 + sn S 35) w) (98 + sn S 35) z) (35) (nI (sn S 35 + 1))) 90 8 = upd (vwn S 90 8) (sn S 35) w := by rw [vwn_ne (o := 90) (n := 8) (by omega), vwn_ne (o := 90) (n := 8) (by omega), ← vwn_upd (by omega)]
        have v1 : vwn (upd (upd (upd S (90 + sn S 35) w) (98 + sn S 35) z) (35) (nI (sn S 35 + 1))) 98 8 = upd (vwn S 98 8) (sn S 35) z := by rw [vwn_ne (o := 98) (n := 8) (by omega), ← vwn_upd (by omega), vwn_ne (o := 98) (n := 8) (by omega)]
        have cn : sn (upd (upd (upd S (90 + sn S 35) w) (98 + sn S 35) z) (35) (nI (sn S 35 + 1))) 35 = sn S 35 + 1 := sn_of (by omega) (upd_eq _ _ _)
        exact ⟨(upd p3 (sn S 35) (nI 0)), by rw [eR], by rw [eT, v0, v1, cn], rfl⟩
      · refine ev_bipush (v := (-4)) hC dX11_plan_34 (by decide) ?_
        refine ev_goto (tgt := 49) hC dX11_plan_36 (by decide) ?_
        refine ev_iret hC hR rfl dX11_plan_49 ?_
        have eR : planR S w z = (-4) := by rw [planR, if_neg (by assumption), if_neg (by assumption), if_pos (by omega)]
        have eT : planT S w z = S := by rw [planT, if_neg (by assumption), if_neg (by assumption), if_pos (by omega)]
        have v0 : vwn S 90 8 = (vwn S 90 8) := by rfl
        have v1 : vwn S 98 8 = (vwn S 98 8) := by rfl
        have cn : sn S 35 = sn S 35 := rfl
        exact ⟨p3, by rw [eR], by rw [eT, v0, v1, cn], rfl⟩
    · refine ev_iconst (v := (-1)) hC dX11_plan_22 (by decide) ?_
      refine ev_iret hC hR rfl dX11_plan_23 ?_
      have eR : planR S w z = (-1) := by rw [planR, if_neg (by assumption), if_pos (Decidable.not_not.mp (by assumption))]
      have eT : planT S w z = S := by rw [planT, if_neg (by assumption), if_pos (Decidable.not_not.mp (by assumption))]
      have v0 : vwn S 90 8 = (vwn S 90 8) := by rfl
      have v1 : vwn S 98 8 = (vwn S 98 8) := by rfl
      have cn : sn S 35 = sn S 35 := rfl
      exact ⟨p3, by rw [eR], by rw [eT, v0, v1, cn], rfl⟩
  · refine ev_aload_n hC dX11_plan_5 rfl 0 rfl ?_
    refine ev_get hC fl_X11_23_11 (mw 0 rfl) rfl dX11_plan_6 ?_
    refine ev_callV (As := []) (st := []) (wf := (List.flatten [SP x r1 r2 r3 r4 r5 d b1 b2 b3 hi, MO G b1 (vwn S 2 6) tk os (vwn S 14 6) (vwn S 20 6) (vwn S 26 6) (vwn S 51 24) le (S 32) (bitF S) (S 0) (S 1) t (S 33) (-1) wa])) hC cv_X11_88 (m_X7_clear G ro r3 8 (vwn S 90 8) (vwn S 98 8) p3 pg1 pg2 pg3 (nI (sn S 35)) pgc) (by omega) rfl rfl (Nat.le_of_ble_eq_true rfl) (perm_sg (n := 3) [1, 0, 2] rfl rfl (by decide)) (mw 1 rfl) rfl dX11_plan_9 (by omega) (by omega) ?_
    rintro _ _ _ ⟨rfl, rfl, rfl⟩
    show Ev G X 0 0 12 [(0, .ref x), (1, .int w), (2, .int z)] [.int (nI 0)] (List.flatten [RW G r3 8 (vwn S 90 8) (vwn S 98 8) p3 (nI 0) pg1 pg2 pg3 pgc, SP x r1 r2 r3 r4 r5 d b1 b2 b3 hi, MO G b1 (vwn S 2 6) tk os (vwn S 14 6) (vwn S 20 6) (vwn S 26 6) (vwn S 51 24) le (S 32) (bitF S) (S 0) (S 1) t (S 33) (-1) wa]) ro
    refine ev_perm (ws' := (List.flatten [SP x r1 r2 r3 r4 r5 d b1 b2 b3 hi, RW G r3 8 (vwn S 90 8) (vwn S 98 8) p3 (nI 0) pg1 pg2 pg3 pgc, MO G b1 (vwn S 2 6) tk os (vwn S 14 6) (vwn S 20 6) (vwn S 26 6) (vwn S 51 24) le (S 32) (bitF S) (S 0) (S 1) t (S 33) (-1) wa])) (perm_sg2 (n := 3) [1, 0, 2] rfl rfl (by decide)) ?_
    refine ev_iret hC hR rfl dX11_plan_12 ?_
    have eR : planR S w z = (nI 0) := by rw [planR, if_pos (by assumption)]
    have eT : planT S w z = upd S (35) (nI 0) := by rw [planT, if_pos (by assumption)]
    have v0 : vwn (upd S (35) (nI 0)) 90 8 = (vwn S 90 8) := by rw [vwn_ne (o := 90) (n := 8) (by omega)]
    have v1 : vwn (upd S (35) (nI 0)) 98 8 = (vwn S 98 8) := by rw [vwn_ne (o := 98) (n := 8) (by omega)]
    have cn : sn (upd S (35) (nI 0)) 35 = 0 := sn_of (by omega) (upd_eq _ _ _)
    exact ⟨p3, by rw [eR], by rw [eT, v0, v1, cn], rfl⟩
