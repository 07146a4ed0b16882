theorem frm_t {S : Nat → Int32} {p i : Nat} {a b : Int32} (h : frmF S p i = (a, b)) (c : asSeen (-1) (upd S (45 + p) (nI (9 - i)))) : frmF S p (i + 1) = (a + 1, nI (9 - i)) := by
  rw [frmF, h]
  exact if_pos c
theorem frm_f {S : Nat → Int32} {p i : Nat} {a b : Int32} (h : frmF S p i = (a, b)) (c : ¬ asSeen (-1) (upd S (45 + p) (nI (9 - i)))) : frmF S p (i + 1) = (a, b) := by
  have e : a + nI 0 = a := by rw [nI_0]; exact Int32.add_zero a
  rw [frmF, h]
  refine (if_neg c).trans ?_
  rw [e]

set_option maxHeartbeats 4000000 in
set_option maxRecDepth 100000 in
theorem m_X11_firm (G : GG) (ro : va_W) (x : Nat) (r1 r2 r3 r4 r5 d b1 b2 b3 : Nat → Nat) (hi : Int32) (S tk le T tk3 le3 : Nat → Int32) (os os3 : Nat → Option Nat) (t t3 : Nat) (wa st3 wa3 : Int32) (y w : Int32) (s1 s2 s3 : Nat → Int32) (sc : Int32) (hW : WF S 9999 9999) (hO : MoOK G ro (r5 0) S os t)  : Mth G M_X11_firm 8 10 40 [.ref x, .int y, .int w] (List.flatten [SP x r1 r2 r3 r4 r5 d b1 b2 b3 hi, RW G r2 5 (vwn S 75 5) (vwn S 80 5) (vwn S 85 5) (nI (sn S 34)) s1 s2 s3 sc, MO G b1 (vwn S 2 6) tk os (vwn S 14 6) (vwn S 20 6) (vwn S 26 6) (vwn S 51 24) le (S 32) (bitF S) (S 0) (S 1) t (S 33) (-1) wa, MO G b3 (vwn T 2 6) tk3 os3 (vwn T 14 6) (vwn T 20 6) (vwn T 26 6) (vwn T 51 24) le3 (T 32) (bitF T) (T 0) (T 1) t3 (T 33) st3 wa3]) ro (fun r ws' ro' => ∃ (T' : Nat → Int32), ∃ (tk3' : Nat → Int32), ∃ (le3' : Nat → Int32), ∃ (os3' : Nat → Option Nat), ∃ (t3' : Nat), ∃ (st3' : Int32), ∃ (wa3' : Int32), r = some (.int (firmR S y w)) ∧ ws' = (List.flatten [SP x r1 r2 r3 r4 r5 d b1 b2 b3 hi, RW G r2 5 (vwn S 75 5) (vwn S 80 5) (vwn S 85 5) (nI (sn S 34)) s1 s2 s3 sc, MO G b1 (vwn S 2 6) tk os (vwn S 14 6) (vwn S 20 6) (vwn S 26 6) (vwn S 51 24) le (S 32) (bitF S) (S 0) (S 1) t (S 33) (-1) wa, MO G b3 (vwn T' 2 6) tk3' os3' (vwn T' 14 6) (vwn T' 20 6) (vwn T' 26 6) (vwn T' 51 24) le3' (T' 32) (bitF T') (T' 0) (T' 1) t3' (T' 33) st3' wa3']) ∧ Sub ro ro') := by
  refine mth_of (by decide +kernel) (Nat.le_of_ble_eq_true rfl) (fun X hC hR => ?_)
  have b32 := hW.peo.le
  have b34 := hW.seen.le
  obtain ⟨ro0, hro0⟩ : ∃ z, z = ro := ⟨_, rfl⟩
  show Ev G X 10 40 0 [(0, .ref x), (1, .int y), (2, .int w)] [] (List.flatten [SP x r1 r2 r3 r4 r5 d b1 b2 b3 hi, RW G r2 5 (vwn S 75 5) (vwn S 80 5) (vwn S 85 5) (nI (sn S 34)) s1 s2 s3 sc, MO G b1 (vwn S 2 6) tk os (vwn S 14 6) (vwn S 20 6) (vwn S 26 6) (vwn S 51 24) le (S 32) (bitF S) (S 0) (S 1) t (S 33) (-1) wa, MO G b3 (vwn T 2 6) tk3 os3 (vwn T 14 6) (vwn T 20 6) (vwn T 26 6) (vwn T 51 24) le3 (T 32) (bitF T) (T 0) (T 1) t3 (T 33) st3 wa3]) ro
  refine ev_aload_n hC dX11_firm_0 rfl 0 rfl ?_
  refine ev_iload_n hC dX11_firm_1 rfl 1 rfl ?_
  refine ev_callV (As := [.int y]) (st := []) (wf := (List.flatten [RW G r2 5 (vwn S 75 5) (vwn S 80 5) (vwn S 85 5) (nI (sn S 34)) s1 s2 s3 sc, MO G b3 (vwn T 2 6) tk3 os3 (vwn T 14 6) (vwn T 20 6) (vwn T 26 6) (vwn T 51 24) le3 (T 32) (bitF T) (T 0) (T 1) t3 (T 33) st3 wa3])) hC cv_X11_118 (m_X11_isPerson G ro x r1 r2 r3 r4 r5 d b1 b2 b3 hi S tk le os t (-1) wa y) (by omega) rfl rfl (Nat.le_of_ble_eq_true rfl) (perm_sg (n := 4) [0, 2, 1, 3] rfl rfl (by decide)) (mw 0 rfl) rfl dX11_firm_2 (by omega) (by omega) ?_
  rintro _ _ _ ⟨rfl, rfl, rfl⟩
  show Ev G X 10 40 5 [(0, .ref x), (1, .int y), (2, .int w)] [.int (bI ((nI 0) ≤ y ∧ y ≤ (S 32 - nI 1)))] (List.flatten [SP x r1 r2 r3 r4 r5 d b1 b2 b3 hi, MO G b1 (vwn S 2 6) tk os (vwn S 14 6) (vwn S 20 6) (vwn S 26 6) (vwn S 51 24) le (S 32) (bitF S) (S 0) (S 1) t (S 33) (-1) wa, RW G r2 5 (vwn S 75 5) (vwn S 80 5) (vwn S 85 5) (nI (sn S 34)) s1 s2 s3 sc, MO G b3 (vwn T 2 6) tk3 os3 (vwn T 14 6) (vwn T 20 6) (vwn T 26 6) (vwn T 51 24) le3 (T 32) (bitF T) (T 0) (T 1) t3 (T 33) st3 wa3]) ro
  refine ev_perm (ws' := (List.flatten [SP x r1 r2 r3 r4 r5 d b1 b2 b3 hi, RW G r2 5 (vwn S 75 5) (vwn S 80 5) (vwn S 85 5) (nI (sn S 34)) s1 s2 s3 sc, MO G b1 (vwn S 2 6) tk os (vwn S 14 6) (vwn S 20 6) (vwn S 26 6) (vwn S 51 24) le (S 32) (bitF S) (S 0) (S 1) t (S 33) (-1) wa, MO G b3 (vwn T 2 6) tk3 os3 (vwn T 14 6) (vwn T 20 6) (vwn T 26 6) (vwn T 51 24) le3 (T 32) (bitF T) (T 0) (T 1) t3 (T 33) st3 wa3])) (perm_sg2 (n := 4) [0, 2, 1, 3] rfl rfl (by decide)) ?_
  refine ev_if_eqB (tgt := 17) hC dX11_firm_5 (by decide) (fun c_1 => ?_) (fun c_1 => ?_)
  · refine ev_iconst (v := (-1)) hC dX11_firm_17 (by decide) ?_
    refine ev_iret hC hR rfl dX11_firm_18 ?_
    have er : firmR S y w = -1 := by rw [firmR]; exact if_neg (fun h => by first | exact absurd h.1 (by assumption) | exact absurd h.2 (by assumption))
    exact ⟨_, _, _, _, _, _, _, by rw [er], rfl, Sub.rf⟩
  · refine ev_iload_n hC dX11_firm_8 rfl 2 rfl ?_
    refine ev_iconst (v := (nI 0)) hC dX11_firm_9 (by decide) ?_
    refine ev_iconst (v := (nI 1)) hC dX11_firm_10 (by decide) ?_
    refine ev_callS (As := [.int w, .int (nI 0), .int (nI 1)]) (st := []) (wc := []) (wf := (List.flatten [SP x r1 r2 r3 r4 r5 d b1 b2 b3 hi, RW G r2 5 (vwn S 75 5) (vwn S 80 5) (vwn S 85 5) (nI (sn S 34)) s1 s2 s3 sc, MO G b1 (vwn S 2 6) tk os (vwn S 14 6) (vwn S 20 6) (vwn S 26 6) (vwn S 51 24) le (S 32) (bitF S) (S 0) (S 1) t (S 33) (-1) wa, MO G b3 (vwn T 2 6) tk3 os3 (vwn T 14 6) (vwn T 20 6) (vwn T 26 6) (vwn T 51 24) le3 (T 32) (bitF T) (T 0) (T 1) t3 (T 33) st3 wa3])) hC ct_X11_68 (m_X11_isWithin G ro w (nI 0) (nI 1)) (by omega) rfl rfl (Nat.le_of_ble_eq_true rfl) (List.Perm.refl _) dX11_firm_11 (by omega) (by omega) ?_
    rintro _ _ _ ⟨rfl, rfl, rfl⟩
    refine ev_ws (List.nil_append _) ?_
    show Ev G X 10 40 14 [(0, .ref x), (1, .int y), (2, .int w)] [.int (bI ((nI 0) ≤ w ∧ w ≤ (nI 1)))] (List.flatten [SP x r1 r2 r3 r4 r5 d b1 b2 b3 hi, RW G r2 5 (vwn S 75 5) (vwn S 80 5) (vwn S 85 5) (nI (sn S 34)) s1 s2 s3 sc, MO G b1 (vwn S 2 6) tk os (vwn S 14 6) (vwn S 20 6) (vwn S 26 6) (vwn S 51 24) le (S 32) (bitF S) (S 0) (S 1) t (S 33) (-1) wa, MO G b3 (vwn T 2 6) tk3 os3 (vwn T 14 6) (vwn T 20 6) (vwn T 26 6) (vwn T 51 24) le3 (T 32) (bitF T) (T 0) (T 1) t3 (T 33) st3 wa3]) ro
    refine ev_if_neB (tgt := 19) hC dX11_firm_14 (by decide) (fun c_2 => ?_) (fun c_2 => ?_)
    · obtain ⟨pp, hpp, rfl⟩ := isP hW (by assumption)
      have hpn_pp : pn (nI pp) = pp := nI_clamp (by omega)
      refine ev_iconst (v := (nI 0)) hC dX11_firm_19 (by decide) ?_
      refine ev_istore_n (lv' := [(3, .int (nI 0)), (0, .ref x), (1, .int (nI pp)), (2, .int w)]) hC dX11_firm_20 rfl (by decide) rfl ?_
      refine ev_bipush (v := (-5)) hC dX11_firm_21 (by decide) ?_
      refine ev_istore (lv' := [(4, .int (-5)), (3, .int (nI 0)), (0, .ref x), (1, .int (nI pp)), (2, .int w)]) hC dX11_firm_23 (by decide) rfl ?_
      refine ev_bipush (v := (nI 9)) hC dX11_firm_25 (by decide) ?_
      refine ev_istore (lv' := [(5, .int (nI 9)), (4, .int (-5)), (3, .int (nI 0)), (0, .ref x), (1, .int (nI pp)), (2, .int w)]) hC dX11_firm_27 (by decide) rfl ?_
      have lp_29 : ∀ (fu_29 : Nat) (i : Nat) (many : Int32) (first : Int32) (T : Nat → Int32) (tk3 : Nat → Int32) (le3 : Nat → Int32) (os3 : Nat → Option Nat) (t3 : Nat) (st3 : Int32) (wa3 : Int32) (ro : va_W) (hii : i ≤ 10) (hb : frmF S pp i = (many, first)) (hO : MoOK G ro (r5 0) S os t) (hSb : Sub ro0 ro) (hn : 10 - i < fu_29), Ev G X (10 - i) (40 - 4 * i) 29 [(0, .ref x), (1, .int (nI pp)), (2, .int w), (3, .int many), (4, .int first), (5, .int (nI 9 - nI i))] [] (List.flatten [SP x r1 r2 r3 r4 r5 d b1 b2 b3 hi, RW G r2 5 (vwn S 75 5) (vwn S 80 5) (vwn S 85 5) (nI (sn S 34)) s1 s2 s3 sc, MO G b1 (vwn S 2 6) tk os (vwn S 14 6) (vwn S 20 6) (vwn S 26 6) (vwn S 51 24) le (S 32) (bitF S) (S 0) (S 1) t (S 33) (-1) wa, MO G b3 (vwn T 2 6) tk3 os3 (vwn T 14 6) (vwn T 20 6) (vwn T 26 6) (vwn T 51 24) le3 (T 32) (bitF T) (T 0) (T 1) t3 (T 33) st3 wa3]) ro := by
        intro fu_29
        induction fu_29 with
        | zero => intro i many first T tk3 le3 os3 t3 st3 wa3 ro hii hb hO hSb hn; exact absurd hn (Nat.not_lt_zero _)
        | succ fu_29 ih =>
          intro i many first T tk3 le3 os3 t3 st3 wa3 ro hii hb hO hSb hn
          refine ev_iload hC dX11_firm_29 5 rfl ?_
          refine ev_if_lt (tgt := 86) hC dX11_firm_31 (by decide) (fun c_3 => ?_) (fun c_3 => ?_)
          · refine ev_iload_n hC dX11_firm_86 rfl 2 rfl ?_
            refine ev_if_ne (tgt := 94) hC dX11_firm_87 (by decide) (fun c_4 => ?_) (fun c_4 => ?_)
            · refine ev_iload hC dX11_firm_94 4 rfl ?_
              refine ev_iret hC hR rfl dX11_firm_96 ?_
              obtain rfl : i = 10 := dn_lt hii (by assumption)
              have er : firmR S (nI pp) w = first := by rw [firmR, if_pos ⟨by assumption, by assumption⟩, hpn_pp, hb]; exact if_neg (by rw [nI_0]; assumption)
              exact ⟨_, _, _, _, _, _, _, by rw [er], rfl, hro0 ▸ hSb⟩
            · refine ev_iload_n hC dX11_firm_90 rfl 3 rfl ?_
              refine ev_goto (tgt := 96) hC dX11_firm_91 (by decide) ?_
              refine ev_iret hC hR rfl dX11_firm_96 ?_
              obtain rfl : i = 10 := dn_lt hii (by assumption)
              have er : firmR S (nI pp) w = many := by rw [firmR, if_pos ⟨by assumption, by assumption⟩, hpn_pp, hb]; exact if_pos (by rw [nI_0]; assumption)
              exact ⟨_, _, _, _, _, _, _, by rw [er], rfl, hro0 ▸ hSb⟩
          · have hi9 : i ≤ 9 := dn_ge hii (by assumption)
            have hv : nI 9 - nI i = nI (9 - i) := pk_sub hi9
            rw [hv]
            refine ev_aload_n hC dX11_firm_34 rfl 0 rfl ?_
            refine ev_callV (As := []) (st := []) (wf := (List.flatten [RW G r2 5 (vwn S 75 5) (vwn S 80 5) (vwn S 85 5) (nI (sn S 34)) s1 s2 s3 sc])) hC cv_X11_192 (m_X11_asItIs G ro x r1 r2 r3 r4 r5 d b1 b2 b3 hi S tk le T tk3 le3 os os3 t t3 wa st3 wa3 hW hO ) (by omega) rfl rfl (Nat.le_of_ble_eq_true rfl) (perm_sg (n := 4) [0, 2, 3, 1] rfl rfl (by decide)) (mw 0 rfl) rfl dX11_firm_35 (by omega) (by omega) ?_
            rintro _ _ _ ⟨rfl, rfl, rfl⟩
            show Ev G X (10 - i) (40 - 4 * i) 38 [(0, .ref x), (1, .int (nI pp)), (2, .int w), (3, .int many), (4, .int first), (5, .int (nI (9 - i)))] [.ref (b3 0)] (List.flatten [SP x r1 r2 r3 r4 r5 d b1 b2 b3 hi, MO G b1 (vwn S 2 6) tk os (vwn S 14 6) (vwn S 20 6) (vwn S 26 6) (vwn S 51 24) le (S 32) (bitF S) (S 0) (S 1) t (S 33) (-1) wa, MO G b3 (vwn S 2 6) tk3 (cpO 6 os os3) (vwn S 14 6) (vwn S 20 6) (vwn S 26 6) (vwn S 51 24) le3 (S 32) (bitF S) (S 0) (S 1) t (S 33) (-1) (nI 0), RW G r2 5 (vwn S 75 5) (vwn S 80 5) (vwn S 85 5) (nI (sn S 34)) s1 s2 s3 sc]) ro
            refine ev_perm (ws' := (List.flatten [SP x r1 r2 r3 r4 r5 d b1 b2 b3 hi, RW G r2 5 (vwn S 75 5) (vwn S 80 5) (vwn S 85 5) (nI (sn S 34)) s1 s2 s3 sc, MO G b1 (vwn S 2 6) tk os (vwn S 14 6) (vwn S 20 6) (vwn S 26 6) (vwn S 51 24) le (S 32) (bitF S) (S 0) (S 1) t (S 33) (-1) wa, MO G b3 (vwn S 2 6) tk3 (cpO 6 os os3) (vwn S 14 6) (vwn S 20 6) (vwn S 26 6) (vwn S 51 24) le3 (S 32) (bitF S) (S 0) (S 1) t (S 33) (-1) (nI 0)])) (perm_sg2 (n := 4) [0, 3, 1, 2] rfl rfl (by decide)) ?_
            have hO_5 := hO.os hW (os' := cpO 6 os os3) (fun p hp => if_pos hp)
            refine ev_astore (lv' := [(6, .ref (b3 0)), (0, .ref x), (1, .int (nI pp)), (2, .int w), (3, .int many), (4, .int first), (5, .int (nI (9 - i)))]) hC dX11_firm_38 (by decide) rfl ?_
            refine ev_aload hC dX11_firm_40 0 rfl ?_
            refine ev_get hC fl_X11_121_3 (mw 17 rfl) rfl dX11_firm_42 ?_
            refine ev_iload_n hC dX11_firm_45 rfl 2 rfl ?_
            refine ev_aload_n hC dX11_firm_46 rfl 1 rfl ?_
            refine ev_aload hC dX11_firm_47 0 rfl ?_
            refine ev_get hC fl_X11_121_3 (mw 17 rfl) rfl dX11_firm_49 ?_
            refine ev_iload_n hC dX11_firm_52 rfl 2 rfl ?_
            obtain ⟨r, hr1, hr2⟩ := hO.1 pp (by omega)
            obtain ⟨kd, hkd⟩ : ∃ kd, kd = sn S (39 + pp) := ⟨_, rfl⟩
            rw [← hkd] at hr2
            have hk6 : kd ≤ 6 := by rw [hkd]; exact (hW.kind pp (by omega)).le
            have hv9 := (hW.v pp (by omega)).le
            refine ev_aaldN (i := pp) (r := r) hC (mw 20 rfl) (by omega) (by omega) ((if_pos (by omega)).trans hr1) dX11_firm_53 ?_
            refine ev_get hC (flk_X11_125 hk6) (mr hr2) rfl dX11_firm_54 ?_
            refine ev_iload_n hC dX11_firm_57 rfl 2 rfl ?_
            refine ev_iload hC dX11_firm_58 6 rfl ?_
            refine ev_callV (As := [.int (nI kd), .int (nI pp), .int (nI (9 - i))]) (st := [.int (nI pp), .ref (b3 3)]) (wf := (List.flatten [RW G r2 5 (vwn S 75 5) (vwn S 80 5) (vwn S 85 5) (nI (sn S 34)) s1 s2 s3 sc, MO G b1 (vwn S 2 6) tk os (vwn S 14 6) (vwn S 20 6) (vwn S 26 6) (vwn S 51 24) le (S 32) (bitF S) (S 0) (S 1) t (S 33) (-1) wa, MO G b3 (vwn S 2 6) tk3 (cpO 6 os os3) (vwn S 14 6) (vwn S 20 6) (vwn S 26 6) (vwn S 51 24) le3 (S 32) (bitF S) (S 0) (S 1) t (S 33) (-1) (nI 0)])) hC cv_X11_110 (m_X11_personOf G ro x r1 r2 r3 r4 r5 d b1 b2 b3 hi kd pp (9 - i) (by omega)) (by omega) rfl rfl (Nat.le_of_ble_eq_true rfl) (perm_sg (n := 4) [0, 1, 2, 3] rfl rfl (by decide)) (mw 0 rfl) rfl dX11_firm_60 (by omega) (by omega) ?_
            rintro _ _ ro ⟨q_6, rfl, rfl, hs_7, hp_8⟩
            show Ev G X ((10 - i) - 1) ((40 - 4 * i) - 4) 63 [(6, .ref (b3 0)), (0, .ref x), (1, .int (nI pp)), (2, .int w), (3, .int many), (4, .int first), (5, .int (nI (9 - i)))] [.ref q_6, .int (nI pp), .ref (b3 3)] (List.flatten [SP x r1 r2 r3 r4 r5 d b1 b2 b3 hi, RW G r2 5 (vwn S 75 5) (vwn S 80 5) (vwn S 85 5) (nI (sn S 34)) s1 s2 s3 sc, MO G b1 (vwn S 2 6) tk os (vwn S 14 6) (vwn S 20 6) (vwn S 26 6) (vwn S 51 24) le (S 32) (bitF S) (S 0) (S 1) t (S 33) (-1) wa, MO G b3 (vwn S 2 6) tk3 (cpO 6 os os3) (vwn S 14 6) (vwn S 20 6) (vwn S 26 6) (vwn S 51 24) le3 (S 32) (bitF S) (S 0) (S 1) t (S 33) (-1) (nI 0)]) ro
            have hO := hO.sub hs_7
            have hO_5 := hO_5.sub hs_7
            have hSb := hSb.tr hs_7
            refine ev_aastN (i := pp) (ws' := (List.flatten [SP x r1 r2 r3 r4 r5 d b1 b2 b3 hi, RW G r2 5 (vwn S 75 5) (vwn S 80 5) (vwn S 85 5) (nI (sn S 34)) s1 s2 s3 sc, MO G b1 (vwn S 2 6) tk os (vwn S 14 6) (vwn S 20 6) (vwn S 26 6) (vwn S 51 24) le (S 32) (bitF S) (S 0) (S 1) t (S 33) (-1) wa, MO G b3 (vwn S 2 6) tk3 (va_up (cpO 6 os os3) pp (some q_6)) (vwn S 14 6) (vwn S 20 6) (vwn S 26 6) (vwn S 51 24) le3 (S 32) (bitF S) (S 0) (S 1) t (S 33) (-1) (nI 0)])) (q0 := 20) hC rfl (mr hp_8) (kci_pe (by omega)) (by omega) (by omega) rfl dX11_firm_63 ?_
            have hWv : WF (upd S (45 + pp) (nI (9 - i))) 9999 9999 := updV_wf hW (by omega) (by omega)
            have hOv := MoOK.setv hO_5 hW hpp (show 9 - i ≤ 9 by omega) (by rw [← hkd]; exact hp_8)
            refine ev_ws (ws' := (List.flatten [SP x r1 r2 r3 r4 r5 d b1 b2 b3 hi, RW G r2 5 (vwn S 75 5) (vwn S 80 5) (vwn S 85 5) (nI (sn S 34)) s1 s2 s3 sc, MO G b1 (vwn S 2 6) tk os (vwn S 14 6) (vwn S 20 6) (vwn S 26 6) (vwn S 51 24) le (S 32) (bitF S) (S 0) (S 1) t (S 33) (-1) wa, MO G b3 (vwn (upd S (45 + pp) (nI (9 - i))) 2 6) tk3 (va_up (cpO 6 os os3) pp (some q_6)) (vwn (upd S (45 + pp) (nI (9 - i))) 14 6) (vwn (upd S (45 + pp) (nI (9 - i))) 20 6) (vwn (upd S (45 + pp) (nI (9 - i))) 26 6) (vwn (upd S (45 + pp) (nI (9 - i))) 51 24) le3 ((upd S (45 + pp) (nI (9 - i))) 32) (bitF (upd S (45 + pp) (nI (9 - i)))) ((upd S (45 + pp) (nI (9 - i))) 0) ((upd S (45 + pp) (nI (9 - i))) 1) t ((upd S (45 + pp) (nI (9 - i))) 33) (-1) (nI 0)])) (by rw [show (MO G b3 (vwn S 2 6) tk3 (va_up (cpO 6 os os3) pp (some q_6)) (vwn S 14 6) (vwn S 20 6) (vwn S 26 6) (vwn S 51 24) le3 (S 32) (bitF S) (S 0) (S 1) t (S 33) (-1) (nI 0)) = (MO G b3 (vwn (upd S (45 + pp) (nI (9 - i))) 2 6) tk3 (va_up (cpO 6 os os3) pp (some q_6)) (vwn (upd S (45 + pp) (nI (9 - i))) 14 6) (vwn (upd S (45 + pp) (nI (9 - i))) 20 6) (vwn (upd S (45 + pp) (nI (9 - i))) 26 6) (vwn (upd S (45 + pp) (nI (9 - i))) 51 24) le3 ((upd S (45 + pp) (nI (9 - i))) 32) (bitF (upd S (45 + pp) (nI (9 - i)))) ((upd S (45 + pp) (nI (9 - i))) 0) ((upd S (45 + pp) (nI (9 - i))) 1) t ((upd S (45 + pp) (nI (9 - i))) 33) (-1) (nI 0)) from mo_eq (by rw [vwn_ne (o := 2) (n := 6) (by omega)]) rfl rfl (by rw [vwn_ne (o := 14) (n := 6) (by omega)]) (by rw [vwn_ne (o := 20) (n := 6) (by omega)]) (by rw [vwn_ne (o := 26) (n := 6) (by omega)]) (by rw [vwn_ne (o := 51) (n := 24) (by omega)]) rfl (by rw [upd_ne _ _ (by omega)]) (by rw [bitF_ne (by omega)]) (by rw [upd_ne _ _ (by omega)]) (by rw [upd_ne _ _ (by omega)]) (by rw [upd_ne _ _ (by omega)]) rfl rfl]) ?_
            refine ev_aload_n hC dX11_firm_64 rfl 1 rfl ?_
            refine ev_aload hC dX11_firm_65 0 rfl ?_
            refine ev_callV (As := [.ref (b3 0)]) (st := []) (wf := (List.flatten [MO G b1 (vwn S 2 6) tk os (vwn S 14 6) (vwn S 20 6) (vwn S 26 6) (vwn S 51 24) le (S 32) (bitF S) (S 0) (S 1) t (S 33) (-1) wa])) hC cv_X11_231 (m_X11_isAllSeen G ro x r1 r2 r3 r4 r5 d b1 b2 b3 hi b3 (upd S (45 + pp) (nI (9 - i))) S tk3 le3 s1 s2 s3 (va_up (cpO 6 os os3) pp (some q_6)) t (-1) (nI 0) sc hWv (fun j h1 h2 => (upd_ne _ _ (by omega)).symm) (upd_ne _ _ (by omega)).symm hOv (by omega) (by omega)) (by omega) rfl rfl (Nat.le_of_ble_eq_true rfl) (perm_sg (n := 4) [0, 1, 3, 2] rfl rfl (by decide)) (mw 0 rfl) rfl dX11_firm_67 (by omega) (by omega) ?_
            rintro _ _ _ ⟨S_9, tk_10, le_11, wa_12, rfl, rfl, rfl⟩
            show Ev G X ((10 - i) - 1) ((40 - 4 * i) - 4) 70 [(6, .ref (b3 0)), (0, .ref x), (1, .int (nI pp)), (2, .int w), (3, .int many), (4, .int first), (5, .int (nI (9 - i)))] [.int (bI (asSeen (-1) (upd S (45 + pp) (nI (9 - i)))))] (List.flatten [SP x r1 r2 r3 r4 r5 d b1 b2 b3 hi, RW G r2 5 (vwn S 75 5) (vwn S 80 5) (vwn S 85 5) (nI (sn S 34)) s1 s2 s3 sc, MO G b3 (vwn S_9 2 6) tk_10 (va_up (cpO 6 os os3) pp (some q_6)) (vwn S_9 14 6) (vwn S_9 20 6) (vwn S_9 26 6) (vwn S_9 51 24) le_11 (S_9 32) (bitF S_9) (S_9 0) (S_9 1) t (S_9 33) (-1) wa_12, MO G b1 (vwn S 2 6) tk os (vwn S 14 6) (vwn S 20 6) (vwn S 26 6) (vwn S 51 24) le (S 32) (bitF S) (S 0) (S 1) t (S 33) (-1) wa]) ro
            refine ev_perm (ws' := (List.flatten [SP x r1 r2 r3 r4 r5 d b1 b2 b3 hi, RW G r2 5 (vwn S 75 5) (vwn S 80 5) (vwn S 85 5) (nI (sn S 34)) s1 s2 s3 sc, MO G b1 (vwn S 2 6) tk os (vwn S 14 6) (vwn S 20 6) (vwn S 26 6) (vwn S 51 24) le (S 32) (bitF S) (S 0) (S 1) t (S 33) (-1) wa, MO G b3 (vwn S_9 2 6) tk_10 (va_up (cpO 6 os os3) pp (some q_6)) (vwn S_9 14 6) (vwn S_9 20 6) (vwn S_9 26 6) (vwn S_9 51 24) le_11 (S_9 32) (bitF S_9) (S_9 0) (S_9 1) t (S_9 33) (-1) wa_12])) (perm_sg2 (n := 4) [0, 1, 3, 2] rfl rfl (by decide)) ?_
            refine ev_if_eqB (tgt := 80) hC dX11_firm_70 (by decide) (fun c_13 => ?_) (fun c_13 => ?_)
            · refine ev_iinc (v := ((nI (9 - i)) + (-1))) (lv' := [(5, .int ((nI (9 - i)) + (-1))), (6, .ref (b3 0)), (0, .ref x), (1, .int (nI pp)), (2, .int w), (3, .int many), (4, .int first)]) hC dX11_firm_80 (q := 6) rfl rfl (by decide) rfl ?_
              refine ev_goto (tgt := 29) hC dX11_firm_83 (by decide) ?_
              refine ev_lv [2, 3, 4, 5, 6, 0] rfl ?_
              rw [dn_s hi9]
              refine ev_less (bc' := 10 - (i + 1)) (bs' := 40 - 4 * (i + 1)) (by omega) (by omega) ?_
              exact ih (i + 1) many first S_9 tk_10 le_11 (va_up (cpO 6 os os3) pp (some q_6)) t (-1) wa_12 ro (by omega) (by first | exact frm_t hb (by assumption) | exact frm_f hb (by assumption)) hO hSb (by omega)
            · refine ev_iinc (v := (many + 1)) (lv' := [(3, .int (many + 1)), (6, .ref (b3 0)), (0, .ref x), (1, .int (nI pp)), (2, .int w), (4, .int first), (5, .int (nI (9 - i)))]) hC dX11_firm_73 (q := 4) rfl rfl (by decide) rfl ?_
              refine ev_iload hC dX11_firm_76 6 rfl ?_
              refine ev_istore (lv' := [(4, .int (nI (9 - i))), (3, .int (many + 1)), (6, .ref (b3 0)), (0, .ref x), (1, .int (nI pp)), (2, .int w), (5, .int (nI (9 - i)))]) hC dX11_firm_78 (by decide) rfl ?_
              refine ev_iinc (v := ((nI (9 - i)) + (-1))) (lv' := [(5, .int ((nI (9 - i)) + (-1))), (4, .int (nI (9 - i))), (3, .int (many + 1)), (6, .ref (b3 0)), (0, .ref x), (1, .int (nI pp)), (2, .int w)]) hC dX11_firm_80 (q := 6) rfl rfl (by decide) rfl ?_
              refine ev_goto (tgt := 29) hC dX11_firm_83 (by decide) ?_
              refine ev_lv [4, 5, 6, 2, 1, 0] rfl ?_
              rw [dn_s hi9]
              refine ev_less (bc' := 10 - (i + 1)) (bs' := 40 - 4 * (i + 1)) (by omega) (by omega) ?_
              exact ih (i + 1) (many + 1) (nI (9 - i)) S_9 tk_10 le_11 (va_up (cpO 6 os os3) pp (some q_6)) t (-1) wa_12 ro (by omega) (by first | exact frm_t hb (by assumption) | exact frm_f hb (by assumption)) hO hSb (by omega)
      rw [show nI 9 = nI 9 - nI 0 from by decide]
      refine ev_lv [3, 4, 5, 2, 1, 0] rfl ?_
      exact lp_29 (10 - 0 + 1) 0 (nI 0) (-5) T tk3 le3 os3 t3 st3 wa3 ro (by omega) rfl hO (hro0 ▸ Sub.rf) (Nat.lt_succ_self _)
    · refine ev_iconst (v := (-1)) hC dX11_firm_17 (by decide) ?_
      refine ev_iret hC hR rfl dX11_firm_18 ?_
      have er : firmR S y w = -1 := by rw [firmR]; exact if_neg (fun h => by first | exact absurd h.1 (by assumption) | exact absurd h.2 (by assumption))
      exact ⟨_, _, _, _, _, _, _, by rw [er], rfl, Sub.rf⟩
