set_option maxHeartbeats 4000000 in
set_option maxRecDepth 100000 in
theorem m_X11_fill (G : GG) (ro : va_W) (x : Nat) (r1 r2 r3 r4 r5 d b1 b2 b3 : Nat → Nat) (hi : Int32) (S tk le T tk3 le3 : Nat → Int32) (os os3 : Nat → Option Nat) (t t3 : Nat) (wa st3 wa3 : Int32) (y k : Int32) (hW : WF S 9999 9999) (hO : MoOK G ro (r5 0) S os t)  : Mth G M_X11_fill 8 0 0 [.ref x, .int y, .int k] (List.flatten [SP x r1 r2 r3 r4 r5 d b1 b2 b3 hi, MO G b1 (vwn S 2 6) tk os (vwn S 14 6) (vwn S 20 6) (vwn S 26 6) (vwn S 51 24) le (S 32) (bitF S) (S 0) (S 1) t (S 33) (-1) wa, MO G b3 (vwn T 2 6) tk3 os3 (vwn T 14 6) (vwn T 20 6) (vwn T 26 6) (vwn T 51 24) le3 (T 32) (bitF T) (T 0) (T 1) t3 (T 33) st3 wa3]) ro (fun r ws' ro' => ∃ (T' : Nat → Int32), ∃ (tk3' : Nat → Int32), ∃ (le3' : Nat → Int32), ∃ (os3' : Nat → Option Nat), ∃ (t3' : Nat), ∃ (st3' : Int32), ∃ (wa3' : Int32), r = some (.int (fillR S y k)) ∧ ws' = (List.flatten [SP x r1 r2 r3 r4 r5 d b1 b2 b3 hi, MO G b1 (vwn S 2 6) tk os (vwn S 14 6) (vwn S 20 6) (vwn S 26 6) (vwn S 51 24) le (S 32) (bitF S) (S 0) (S 1) t (S 33) (-1) wa, MO G b3 (vwn T' 2 6) tk3' os3' (vwn T' 14 6) (vwn T' 20 6) (vwn T' 26 6) (vwn T' 51 24) le3' (T' 32) (bitF T') (T' 0) (T' 1) t3' (T' 33) st3' wa3']) ∧ ro = ro') := by
  refine mth_of (by decide +kernel) (Nat.le_of_ble_eq_true rfl) (fun X hC hR => ?_)
  have b32 := hW.peo.le
  show Ev G X 0 0 0 [(0, .ref x), (1, .int y), (2, .int k)] [] (List.flatten [SP x r1 r2 r3 r4 r5 d b1 b2 b3 hi, MO G b1 (vwn S 2 6) tk os (vwn S 14 6) (vwn S 20 6) (vwn S 26 6) (vwn S 51 24) le (S 32) (bitF S) (S 0) (S 1) t (S 33) (-1) wa, MO G b3 (vwn T 2 6) tk3 os3 (vwn T 14 6) (vwn T 20 6) (vwn T 26 6) (vwn T 51 24) le3 (T 32) (bitF T) (T 0) (T 1) t3 (T 33) st3 wa3]) ro
  refine ev_iload_n hC dX11_fill_0 rfl 2 rfl ?_
  refine ev_callS (As := [.int k]) (st := []) (wc := []) (wf := (List.flatten [SP x r1 r2 r3 r4 r5 d b1 b2 b3 hi, MO G b1 (vwn S 2 6) tk os (vwn S 14 6) (vwn S 20 6) (vwn S 26 6) (vwn S 51 24) le (S 32) (bitF S) (S 0) (S 1) t (S 33) (-1) wa, MO G b3 (vwn T 2 6) tk3 os3 (vwn T 14 6) (vwn T 20 6) (vwn T 26 6) (vwn T 51 24) le3 (T 32) (bitF T) (T 0) (T 1) t3 (T 33) st3 wa3])) hC ct_X11_104 (m_X11_isSide G ro k) (by omega) rfl rfl (Nat.le_of_ble_eq_true rfl) (List.Perm.refl _) dX11_fill_1 (by omega) (by omega) ?_
  rintro _ _ _ ⟨rfl, rfl, rfl⟩
  refine ev_ws (List.nil_append _) ?_
  show Ev G X 0 0 4 [(0, .ref x), (1, .int y), (2, .int k)] [.int (bI ((nI 0) ≤ k ∧ k ≤ (nI 5)))] (List.flatten [SP x r1 r2 r3 r4 r5 d b1 b2 b3 hi, MO G b1 (vwn S 2 6) tk os (vwn S 14 6) (vwn S 20 6) (vwn S 26 6) (vwn S 51 24) le (S 32) (bitF S) (S 0) (S 1) t (S 33) (-1) wa, MO G b3 (vwn T 2 6) tk3 os3 (vwn T 14 6) (vwn T 20 6) (vwn T 26 6) (vwn T 51 24) le3 (T 32) (bitF T) (T 0) (T 1) t3 (T 33) st3 wa3]) ro
  refine ev_if_neB (tgt := 9) hC dX11_fill_4 (by decide) (fun c_1 => ?_) (fun c_1 => ?_)
  · obtain ⟨kk, hkk, rfl⟩ := inN (m := 5) (by omega) (by assumption)
    have hpn_kk : pn (nI kk) = kk := nI_clamp (by omega)
    refine ev_iload_n hC dX11_fill_9 rfl 1 rfl ?_
    refine ev_iconst (v := (nI 1)) hC dX11_fill_10 (by decide) ?_
    refine ev_bipush (v := (nI 60)) hC dX11_fill_11 (by decide) ?_
    refine ev_callS (As := [.int y, .int (nI 1), .int (nI 60)]) (st := []) (wc := []) (wf := (List.flatten [SP x r1 r2 r3 r4 r5 d b1 b2 b3 hi, MO G b1 (vwn S 2 6) tk os (vwn S 14 6) (vwn S 20 6) (vwn S 26 6) (vwn S 51 24) le (S 32) (bitF S) (S 0) (S 1) t (S 33) (-1) wa, MO G b3 (vwn T 2 6) tk3 os3 (vwn T 14 6) (vwn T 20 6) (vwn T 26 6) (vwn T 51 24) le3 (T 32) (bitF T) (T 0) (T 1) t3 (T 33) st3 wa3])) hC ct_X11_68 (m_X11_isWithin G ro y (nI 1) (nI 60)) (by omega) rfl rfl (Nat.le_of_ble_eq_true rfl) (List.Perm.refl _) dX11_fill_13 (by omega) (by omega) ?_
    rintro _ _ _ ⟨rfl, rfl, rfl⟩
    refine ev_ws (List.nil_append _) ?_
    show Ev G X 0 0 16 [(0, .ref x), (1, .int y), (2, .int (nI kk))] [.int (bI ((nI 1) ≤ y ∧ y ≤ (nI 60)))] (List.flatten [SP x r1 r2 r3 r4 r5 d b1 b2 b3 hi, MO G b1 (vwn S 2 6) tk os (vwn S 14 6) (vwn S 20 6) (vwn S 26 6) (vwn S 51 24) le (S 32) (bitF S) (S 0) (S 1) t (S 33) (-1) wa, MO G b3 (vwn T 2 6) tk3 os3 (vwn T 14 6) (vwn T 20 6) (vwn T 26 6) (vwn T 51 24) le3 (T 32) (bitF T) (T 0) (T 1) t3 (T 33) st3 wa3]) ro
    refine ev_if_neB (tgt := 22) hC dX11_fill_16 (by decide) (fun c_2 => ?_) (fun c_2 => ?_)
    · obtain ⟨nn, hnn, rfl⟩ := inN (m := 60) (by omega) ⟨Int32.le_trans (by decide) (And.left (by assumption : nI 1 ≤ y ∧ y ≤ nI 60)), And.right (by assumption : nI 1 ≤ y ∧ y ≤ nI 60)⟩
      have hpn_nn : pn (nI nn) = nn := nI_clamp (by omega)
      have h1_nn : 1 ≤ nn := (nI_leI (by omega) (by omega)).mp (And.left (by assumption : nI 1 ≤ nI nn ∧ nI nn ≤ nI 60))
      refine ev_iconst (v := (nI 0)) hC dX11_fill_22 (by decide) ?_
      refine ev_istore_n (lv' := [(3, .int (nI 0)), (0, .ref x), (1, .int (nI nn)), (2, .int (nI kk))]) hC dX11_fill_23 rfl (by decide) rfl ?_
      have lp_24 : ∀ (fu_24 : Nat) (i : Nat) (T : Nat → Int32) (tk3 : Nat → Int32) (le3 : Nat → Int32) (os3 : Nat → Option Nat) (t3 : Nat) (st3 : Int32) (wa3 : Int32) (hii : i ≤ 100) (hb : fillF S kk nn 100 0 = fillF S kk nn (100 - i) (10 * i)) (hn : 100 - i < fu_24), Ev G X 0 0 24 [(0, .ref x), (1, .int (nI nn)), (2, .int (nI kk)), (3, .int (nI (10 * i)))] [] (List.flatten [SP x r1 r2 r3 r4 r5 d b1 b2 b3 hi, MO G b1 (vwn S 2 6) tk os (vwn S 14 6) (vwn S 20 6) (vwn S 26 6) (vwn S 51 24) le (S 32) (bitF S) (S 0) (S 1) t (S 33) (-1) wa, MO G b3 (vwn T 2 6) tk3 os3 (vwn T 14 6) (vwn T 20 6) (vwn T 26 6) (vwn T 51 24) le3 (T 32) (bitF T) (T 0) (T 1) t3 (T 33) st3 wa3]) ro := by
        intro fu_24
        induction fu_24 with
        | zero => intro i T tk3 le3 os3 t3 st3 wa3 hii hb hn; exact absurd hn (Nat.not_lt_zero _)
        | succ fu_24 ih =>
          intro i T tk3 le3 os3 t3 st3 wa3 hii hb hn
          refine ev_iload_n hC dX11_fill_24 rfl 3 rfl ?_
          refine ev_sipush (v := (nI 990)) hC dX11_fill_25 (by decide) ?_
          refine ev_icmp_gtN (tgt := 68) hC dX11_fill_28 (by decide) (by omega) (by omega) (fun c_3 => ?_) (fun c_3 => ?_)
          · refine ev_bipush (v := (-5)) hC dX11_fill_68 (by decide) ?_
            refine ev_iret hC hR rfl dX11_fill_70 ?_
            have hb2 : fillF S kk nn 100 0 = -5 := by rw [hb, show 100 - i = 0 by omega]; rfl
            have er : fillR S (nI nn) (nI kk) = (-5) := by rw [fillR, if_pos (by assumption), if_pos (by assumption), hpn_kk, hpn_nn, hb2]
            exact ⟨_, _, _, _, _, _, _, by rw [er], rfl, rfl⟩
          · refine ev_aload_n hC dX11_fill_31 rfl 0 rfl ?_
            refine ev_callV (As := []) (st := []) (wf := (List.flatten [])) hC cv_X11_192 (m_X11_asItIs G ro x r1 r2 r3 r4 r5 d b1 b2 b3 hi S tk le T tk3 le3 os os3 t t3 wa st3 wa3 hW hO ) (by omega) rfl rfl (Nat.le_of_ble_eq_true rfl) (perm_sg (n := 3) [0, 1, 2] rfl rfl (by decide)) (mw 0 rfl) rfl dX11_fill_32 (by omega) (by omega) ?_
            rintro _ _ _ ⟨rfl, rfl, rfl⟩
            show Ev G X 0 0 35 [(0, .ref x), (1, .int (nI nn)), (2, .int (nI kk)), (3, .int (nI (10 * i)))] [.ref (b3 0)] (List.flatten [SP x r1 r2 r3 r4 r5 d b1 b2 b3 hi, MO G b1 (vwn S 2 6) tk os (vwn S 14 6) (vwn S 20 6) (vwn S 26 6) (vwn S 51 24) le (S 32) (bitF S) (S 0) (S 1) t (S 33) (-1) wa, MO G b3 (vwn S 2 6) tk3 (cpO 6 os os3) (vwn S 14 6) (vwn S 20 6) (vwn S 26 6) (vwn S 51 24) le3 (S 32) (bitF S) (S 0) (S 1) t (S 33) (-1) (nI 0)]) ro
            have hO_4 := hO.os hW (os' := cpO 6 os os3) (fun p hp => if_pos hp)
            refine ev_astore (lv' := [(4, .ref (b3 0)), (0, .ref x), (1, .int (nI nn)), (2, .int (nI kk)), (3, .int (nI (10 * i)))]) hC dX11_fill_35 (by decide) rfl ?_
            refine ev_aload hC dX11_fill_37 0 rfl ?_
            refine ev_iload_n hC dX11_fill_39 rfl 3 rfl ?_
            refine ev_iload_n hC dX11_fill_40 rfl 4 rfl ?_
            refine ev_callV (As := [.int (nI kk), .int (nI (10 * i))]) (st := []) (wf := (List.flatten [SP x r1 r2 r3 r4 r5 d b1 b2 b3 hi, MO G b1 (vwn S 2 6) tk os (vwn S 14 6) (vwn S 20 6) (vwn S 26 6) (vwn S 51 24) le (S 32) (bitF S) (S 0) (S 1) t (S 33) (-1) wa])) hC cv_X11_227 (m_X3_addSalt G ro b3 S tk3 le3 (cpO 6 os os3) t (r5 0) (-1) (nI 0) kk (10 * i)  hW (by omega) (by omega)) (by omega) rfl rfl (Nat.le_of_ble_eq_true rfl) (perm_sg (n := 3) [2, 0, 1] rfl rfl (by decide)) (mw 10 rfl) rfl dX11_fill_41 (by omega) (by omega) ?_
            rintro _ _ _ ⟨rfl, rfl, rfl⟩
            show Ev G X 0 0 44 [(4, .ref (b3 0)), (0, .ref x), (1, .int (nI nn)), (2, .int (nI kk)), (3, .int (nI (10 * i)))] [] (List.flatten [MO G b3 (vwn (moreF S kk (10 * i)) 2 6) tk3 (cpO 6 os os3) (vwn (moreF S kk (10 * i)) 14 6) (vwn (moreF S kk (10 * i)) 20 6) (vwn (moreF S kk (10 * i)) 26 6) (vwn (moreF S kk (10 * i)) 51 24) le3 ((moreF S kk (10 * i)) 32) (bitF (moreF S kk (10 * i))) ((moreF S kk (10 * i)) 0) ((moreF S kk (10 * i)) 1) t ((moreF S kk (10 * i)) 33) (-1) (nI 0), SP x r1 r2 r3 r4 r5 d b1 b2 b3 hi, MO G b1 (vwn S 2 6) tk os (vwn S 14 6) (vwn S 20 6) (vwn S 26 6) (vwn S 51 24) le (S 32) (bitF S) (S 0) (S 1) t (S 33) (-1) wa]) ro
            refine ev_perm (ws' := (List.flatten [SP x r1 r2 r3 r4 r5 d b1 b2 b3 hi, MO G b1 (vwn S 2 6) tk os (vwn S 14 6) (vwn S 20 6) (vwn S 26 6) (vwn S 51 24) le (S 32) (bitF S) (S 0) (S 1) t (S 33) (-1) wa, MO G b3 (vwn (moreF S kk (10 * i)) 2 6) tk3 (cpO 6 os os3) (vwn (moreF S kk (10 * i)) 14 6) (vwn (moreF S kk (10 * i)) 20 6) (vwn (moreF S kk (10 * i)) 26 6) (vwn (moreF S kk (10 * i)) 51 24) le3 ((moreF S kk (10 * i)) 32) (bitF (moreF S kk (10 * i))) ((moreF S kk (10 * i)) 0) ((moreF S kk (10 * i)) 1) t ((moreF S kk (10 * i)) 33) (-1) (nI 0)])) (perm_sg2 (n := 3) [1, 2, 0] rfl rfl (by decide)) ?_
            refine ev_aload hC dX11_fill_44 0 rfl ?_
            refine ev_iload_n hC dX11_fill_46 rfl 2 rfl ?_
            refine ev_callV (As := [.int (nI nn)]) (st := []) (wf := (List.flatten [SP x r1 r2 r3 r4 r5 d b1 b2 b3 hi, MO G b1 (vwn S 2 6) tk os (vwn S 14 6) (vwn S 20 6) (vwn S 26 6) (vwn S 51 24) le (S 32) (bitF S) (S 0) (S 1) t (S 33) (-1) wa])) hC cv_X11_182 (m_X3_goDays G ro b3 (moreF S kk (10 * i)) tk3 le3 (cpO 6 os os3) t (r5 0) (-1) (nI 0) nn (moreF_wf hW (by omega)) (MoOK.hi hO_4 (Hi.upd Hi.rf (by omega) _)) (by omega) (by omega) (by omega)) (by omega) rfl rfl (Nat.le_of_ble_eq_true rfl) (perm_sg (n := 3) [2, 0, 1] rfl rfl (by decide)) (mw 10 rfl) rfl dX11_fill_47 (by omega) (by omega) ?_
            rintro _ _ _ ⟨tk_5, le_6, hK_7, rfl, rfl, rfl⟩
            show Ev G X 0 0 50 [(4, .ref (b3 0)), (0, .ref x), (1, .int (nI nn)), (2, .int (nI kk)), (3, .int (nI (10 * i)))] [] (List.flatten [MO G b3 (vwn (gosF (-1) (moreF S kk (10 * i)) nn) 2 6) tk_5 (cpO 6 os os3) (vwn (gosF (-1) (moreF S kk (10 * i)) nn) 14 6) (vwn (gosF (-1) (moreF S kk (10 * i)) nn) 20 6) (vwn (gosF (-1) (moreF S kk (10 * i)) nn) 26 6) (vwn (gosF (-1) (moreF S kk (10 * i)) nn) 51 24) le_6 ((gosF (-1) (moreF S kk (10 * i)) nn) 32) (bitF (gosF (-1) (moreF S kk (10 * i)) nn)) ((gosF (-1) (moreF S kk (10 * i)) nn) 0) ((gosF (-1) (moreF S kk (10 * i)) nn) 1) t ((gosF (-1) (moreF S kk (10 * i)) nn) 33) (-1) (raF (-1) (moreF S kk (10 * i)) (nI 0) nn), SP x r1 r2 r3 r4 r5 d b1 b2 b3 hi, MO G b1 (vwn S 2 6) tk os (vwn S 14 6) (vwn S 20 6) (vwn S 26 6) (vwn S 51 24) le (S 32) (bitF S) (S 0) (S 1) t (S 33) (-1) wa]) ro
            refine ev_perm (ws' := (List.flatten [SP x r1 r2 r3 r4 r5 d b1 b2 b3 hi, MO G b1 (vwn S 2 6) tk os (vwn S 14 6) (vwn S 20 6) (vwn S 26 6) (vwn S 51 24) le (S 32) (bitF S) (S 0) (S 1) t (S 33) (-1) wa, MO G b3 (vwn (gosF (-1) (moreF S kk (10 * i)) nn) 2 6) tk_5 (cpO 6 os os3) (vwn (gosF (-1) (moreF S kk (10 * i)) nn) 14 6) (vwn (gosF (-1) (moreF S kk (10 * i)) nn) 20 6) (vwn (gosF (-1) (moreF S kk (10 * i)) nn) 26 6) (vwn (gosF (-1) (moreF S kk (10 * i)) nn) 51 24) le_6 ((gosF (-1) (moreF S kk (10 * i)) nn) 32) (bitF (gosF (-1) (moreF S kk (10 * i)) nn)) ((gosF (-1) (moreF S kk (10 * i)) nn) 0) ((gosF (-1) (moreF S kk (10 * i)) nn) 1) t ((gosF (-1) (moreF S kk (10 * i)) nn) 33) (-1) (raF (-1) (moreF S kk (10 * i)) (nI 0) nn)])) (perm_sg2 (n := 3) [1, 2, 0] rfl rfl (by decide)) ?_
            refine ev_aload hC dX11_fill_50 0 rfl ?_
            refine ev_get hC fl_X11_158_3 (mw 10 rfl) rfl dX11_fill_52 ?_
            refine ev_iload_n hC dX11_fill_55 rfl 3 rfl ?_
            refine ev_ialdN (i := kk) hC (mw 11 rfl) (by omega) (by omega) dX11_fill_56 ?_
            refine ev_top (y := ((gosF (-1) (moreF S kk (10 * i)) nn) (2 + kk))) (vwn_at (by omega)) ?_
            have hlf := (gosF_wf (-1) (moreF_wf hW (k := kk) (m := 10 * i) (by omega)) nn (by omega) (by omega)).1.salt kk (by omega)
            have hll := hlf.lt
            refine ev_top (y := (nI (sn (gosF (-1) (moreF S kk (10 * i)) nn) (2 + kk)))) hlf.eq ?_
            refine ev_if_leN (tgt := 62) hC dX11_fill_57 (by decide) (by omega) (fun c_8 => ?_) (fun c_8 => ?_)
            · refine ev_iinc (v := (nI ((10 * i) + 10))) (lv' := [(3, .int (nI ((10 * i) + 10))), (4, .ref (b3 0)), (0, .ref x), (1, .int (nI nn)), (2, .int (nI kk))]) hC dX11_fill_62 (q := 4) rfl (nI_k _ _ 10 (by decide)) (by decide) rfl ?_
              refine ev_goto (tgt := 24) hC dX11_fill_65 (by decide) ?_
              refine ev_lv [2, 3, 4, 0] rfl ?_
              exact ih (i + 1) (gosF (-1) (moreF S kk (10 * i)) nn) tk_5 le_6 (cpO 6 os os3) t (-1) (raF (-1) (moreF S kk (10 * i)) (nI 0) nn) (by omega) (hb.trans (by rw [fill_f (by omega) (by show ¬ ¬ _; omega), show 100 - (i + 1) = 100 - i - 1 by omega]; rfl)) (by omega)
            · refine ev_iload_n hC dX11_fill_60 rfl 4 rfl ?_
              refine ev_iret hC hR rfl dX11_fill_61 ?_
              have hb2 : fillF S kk nn 100 0 = nI (10 * i) := hb.trans (fill_t (by omega) (by show ¬ _; omega))
              have er : fillR S (nI nn) (nI kk) = (nI (10 * i)) := by rw [fillR, if_pos (by assumption), if_pos (by assumption), hpn_kk, hpn_nn, hb2]
              exact ⟨_, _, _, _, _, _, _, by rw [er], rfl, rfl⟩
      refine ev_lv [1, 2, 3, 0] rfl ?_
      exact lp_24 (100 - 0 + 1) 0 T tk3 le3 os3 t3 st3 wa3 (by omega) rfl (Nat.lt_succ_self _)
    · refine ev_bipush (v := (-2)) hC dX11_fill_19 (by decide) ?_
      refine ev_iret hC hR rfl dX11_fill_21 ?_
      have er : fillR S y (nI kk) = (-2) := by rw [fillR, if_pos (by assumption), if_neg (by assumption)]
      exact ⟨_, _, _, _, _, _, _, by rw [er], rfl, rfl⟩
  · refine ev_iconst (v := (-1)) hC dX11_fill_7 (by decide) ?_
    refine ev_iret hC hR rfl dX11_fill_8 ?_
    have er : fillR S y k = (-1) := by rw [fillR, if_neg (by assumption)]
    exact ⟨_, _, _, _, _, _, _, by rw [er], rfl, rfl⟩

set_option maxHeartbeats 4000000 in
set_option maxRecDepth 100000 in
theorem m_X11_who (G : GG) (ro : va_W) (x : Nat) (r1 r2 r3 r4 r5 d b1 b2 b3 : Nat → Nat) (hi : Int32) (S tk le T tk3 le3 : Nat → Int32) (os os3 : Nat → Option Nat) (t t3 : Nat) (wa st3 wa3 : Int32)  (s1 s2 s3 : Nat → Int32) (sc : Int32) (hW : WF S 9999 9999) (hO : MoOK G ro (r5 0) S os t)  : Mth G M_X11_who 8 0 0 [.ref x] (List.flatten [SP x r1 r2 r3 r4 r5 d b1 b2 b3 hi, RW G r2 5 (vwn S 75 5) (vwn S 80 5) (vwn S 85 5) (nI (sn S 34)) s1 s2 s3 sc, MO G b1 (vwn S 2 6) tk os (vwn S 14 6) (vwn S 20 6) (vwn S 26 6) (vwn S 51 24) le (S 32) (bitF S) (S 0) (S 1) t (S 33) (-1) wa, MO G b3 (vwn T 2 6) tk3 os3 (vwn T 14 6) (vwn T 20 6) (vwn T 26 6) (vwn T 51 24) le3 (T 32) (bitF T) (T 0) (T 1) t3 (T 33) st3 wa3]) ro (fun r ws' ro' => ∃ (T' : Nat → Int32), ∃ (tk3' : Nat → Int32), ∃ (le3' : Nat → Int32), ∃ (os3' : Nat → Option Nat), ∃ (t3' : Nat), ∃ (st3' : Int32), ∃ (wa3' : Int32), r = some (.int (whoF S (sn S 32))) ∧ ws' = (List.flatten [SP x r1 r2 r3 r4 r5 d b1 b2 b3 hi, RW G r2 5 (vwn S 75 5) (vwn S 80 5) (vwn S 85 5) (nI (sn S 34)) s1 s2 s3 sc, MO G b1 (vwn S 2 6) tk os (vwn S 14 6) (vwn S 20 6) (vwn S 26 6) (vwn S 51 24) le (S 32) (bitF S) (S 0) (S 1) t (S 33) (-1) wa, MO G b3 (vwn T' 2 6) tk3' os3' (vwn T' 14 6) (vwn T' 20 6) (vwn T' 26 6) (vwn T' 51 24) le3' (T' 32) (bitF T') (T' 0) (T' 1) t3' (T' 33) st3' wa3']) ∧ ro = ro') := by
  refine mth_of (by decide +kernel) (Nat.le_of_ble_eq_true rfl) (fun X hC hR => ?_)
  have b32 := hW.peo.le
  have b34 := hW.seen.le
  show Ev G X 0 0 0 [(0, .ref x)] [] (List.flatten [SP x r1 r2 r3 r4 r5 d b1 b2 b3 hi, RW G r2 5 (vwn S 75 5) (vwn S 80 5) (vwn S 85 5) (nI (sn S 34)) s1 s2 s3 sc, MO G b1 (vwn S 2 6) tk os (vwn S 14 6) (vwn S 20 6) (vwn S 26 6) (vwn S 51 24) le (S 32) (bitF S) (S 0) (S 1) t (S 33) (-1) wa, MO G b3 (vwn T 2 6) tk3 os3 (vwn T 14 6) (vwn T 20 6) (vwn T 26 6) (vwn T 51 24) le3 (T 32) (bitF T) (T 0) (T 1) t3 (T 33) st3 wa3]) ro
  refine ev_iconst (v := (nI 0)) hC dX11_who_0 (by decide) ?_
  refine ev_istore_n (lv' := [(1, .int (nI 0)), (0, .ref x)]) hC dX11_who_1 rfl (by decide) rfl ?_
  refine ev_iconst (v := (nI 0)) hC dX11_who_2 (by decide) ?_
  refine ev_istore_n (lv' := [(2, .int (nI 0)), (1, .int (nI 0)), (0, .ref x)]) hC dX11_who_3 rfl (by decide) rfl ?_
  have lp_4 : ∀ (fu_4 : Nat) (i : Nat) (g : Int32) (T : Nat → Int32) (tk3 : Nat → Int32) (le3 : Nat → Int32) (os3 : Nat → Option Nat) (t3 : Nat) (st3 : Int32) (wa3 : Int32) (hii : i ≤ sn S 32) (hb : whoF S i = g) (hn : sn S 32 - i < fu_4), Ev G X 0 0 4 [(0, .ref x), (1, .int g), (2, .int (nI i))] [] (List.flatten [SP x r1 r2 r3 r4 r5 d b1 b2 b3 hi, RW G r2 5 (vwn S 75 5) (vwn S 80 5) (vwn S 85 5) (nI (sn S 34)) s1 s2 s3 sc, MO G b1 (vwn S 2 6) tk os (vwn S 14 6) (vwn S 20 6) (vwn S 26 6) (vwn S 51 24) le (S 32) (bitF S) (S 0) (S 1) t (S 33) (-1) wa, MO G b3 (vwn T 2 6) tk3 os3 (vwn T 14 6) (vwn T 20 6) (vwn T 26 6) (vwn T 51 24) le3 (T 32) (bitF T) (T 0) (T 1) t3 (T 33) st3 wa3]) ro := by
    intro fu_4
    induction fu_4 with
    | zero => intro i g T tk3 le3 os3 t3 st3 wa3 hii hb hn; exact absurd hn (Nat.not_lt_zero _)
    | succ fu_4 ih =>
      intro i g T tk3 le3 os3 t3 st3 wa3 hii hb hn
      refine ev_iload_n hC dX11_who_4 rfl 2 rfl ?_
      refine ev_aload_n hC dX11_who_5 rfl 0 rfl ?_
      refine ev_get hC fl_X11_58_11 (mw 0 rfl) rfl dX11_who_6 ?_
      refine ev_get hC fl_X11_107_3 (mw 8 rfl) rfl dX11_who_9 ?_
      have bk_1 : NB S 32 _ := hW.peo
      have k_1 := bk_1.eq
      have lk_1 := bk_1.le
      have mk_1 := bk_1.lt
      refine ev_top (y := (nI (sn S 32))) k_1 ?_
      refine ev_icmp_geN (tgt := 39) hC dX11_who_12 (by decide) (by omega) (by omega) (fun c_2 => ?_) (fun c_2 => ?_)
      · refine ev_iload_n hC dX11_who_39 rfl 1 rfl ?_
        refine ev_iret hC hR rfl dX11_who_40 ?_
        obtain rfl : i = sn S 32 := by omega
        have er : whoF S (sn S 32) = g := by exact hb
        exact ⟨_, _, _, _, _, _, _, by rw [er], rfl, rfl⟩
      · refine ev_aload_n hC dX11_who_15 rfl 0 rfl ?_
        refine ev_aload_n hC dX11_who_16 rfl 0 rfl ?_
        refine ev_iload_n hC dX11_who_17 rfl 2 rfl ?_
        refine ev_callV (As := [.int (nI i)]) (st := [.ref x]) (wf := (List.flatten [RW G r2 5 (vwn S 75 5) (vwn S 80 5) (vwn S 85 5) (nI (sn S 34)) s1 s2 s3 sc])) hC cv_X11_203 (m_X11_asIfStill G ro x r1 r2 r3 r4 r5 d b1 b2 b3 hi S tk le T tk3 le3 os os3 t t3 wa st3 wa3 i hW hO ) (by omega) rfl rfl (Nat.le_of_ble_eq_true rfl) (perm_sg (n := 4) [0, 2, 3, 1] rfl rfl (by decide)) (mw 0 rfl) rfl dX11_who_18 (by omega) (by omega) ?_
        rintro _ _ _ ⟨rfl, rfl, rfl⟩
        show Ev G X 0 0 21 [(0, .ref x), (1, .int g), (2, .int (nI i))] [.ref (b3 0), .ref x] (List.flatten [SP x r1 r2 r3 r4 r5 d b1 b2 b3 hi, MO G b1 (vwn S 2 6) tk os (vwn S 14 6) (vwn S 20 6) (vwn S 26 6) (vwn S 51 24) le (S 32) (bitF S) (S 0) (S 1) t (S 33) (-1) wa, MO G b3 (vwn S 2 6) tk3 (cpO 6 os os3) (vwn S 14 6) (vwn S 20 6) (vwn S 26 6) (vwn S 51 24) le3 (S 32) (bitF S) (S 0) (S 1) t (S 33) (nI i) (nI 0), RW G r2 5 (vwn S 75 5) (vwn S 80 5) (vwn S 85 5) (nI (sn S 34)) s1 s2 s3 sc]) ro
        refine ev_perm (ws' := (List.flatten [SP x r1 r2 r3 r4 r5 d b1 b2 b3 hi, RW G r2 5 (vwn S 75 5) (vwn S 80 5) (vwn S 85 5) (nI (sn S 34)) s1 s2 s3 sc, MO G b1 (vwn S 2 6) tk os (vwn S 14 6) (vwn S 20 6) (vwn S 26 6) (vwn S 51 24) le (S 32) (bitF S) (S 0) (S 1) t (S 33) (-1) wa, MO G b3 (vwn S 2 6) tk3 (cpO 6 os os3) (vwn S 14 6) (vwn S 20 6) (vwn S 26 6) (vwn S 51 24) le3 (S 32) (bitF S) (S 0) (S 1) t (S 33) (nI i) (nI 0)])) (perm_sg2 (n := 4) [0, 3, 1, 2] rfl rfl (by decide)) ?_
        have hO_3 := hO.os hW (os' := cpO 6 os os3) (fun p hp => if_pos hp)
        refine ev_callV (As := [.ref (b3 0)]) (st := []) (wf := (List.flatten [MO G b1 (vwn S 2 6) tk os (vwn S 14 6) (vwn S 20 6) (vwn S 26 6) (vwn S 51 24) le (S 32) (bitF S) (S 0) (S 1) t (S 33) (-1) wa])) hC cv_X11_231 (m_X11_isAllSeen G ro x r1 r2 r3 r4 r5 d b1 b2 b3 hi b3 S S tk3 le3 s1 s2 s3 (cpO 6 os os3) t (nI i) (nI 0) sc hW (fun j h1 h2 => rfl) rfl hO_3 (by omega) (by omega)) (by omega) rfl rfl (Nat.le_of_ble_eq_true rfl) (perm_sg (n := 4) [0, 1, 3, 2] rfl rfl (by decide)) (mw 0 rfl) rfl dX11_who_21 (by omega) (by omega) ?_
        rintro _ _ _ ⟨S_4, tk_5, le_6, wa_7, rfl, rfl, rfl⟩
        show Ev G X 0 0 24 [(0, .ref x), (1, .int g), (2, .int (nI i))] [.int (bI (asSeen (nI i) S))] (List.flatten [SP x r1 r2 r3 r4 r5 d b1 b2 b3 hi, RW G r2 5 (vwn S 75 5) (vwn S 80 5) (vwn S 85 5) (nI (sn S 34)) s1 s2 s3 sc, MO G b3 (vwn S_4 2 6) tk_5 (cpO 6 os os3) (vwn S_4 14 6) (vwn S_4 20 6) (vwn S_4 26 6) (vwn S_4 51 24) le_6 (S_4 32) (bitF S_4) (S_4 0) (S_4 1) t (S_4 33) (nI i) wa_7, MO G b1 (vwn S 2 6) tk os (vwn S 14 6) (vwn S 20 6) (vwn S 26 6) (vwn S 51 24) le (S 32) (bitF S) (S 0) (S 1) t (S 33) (-1) wa]) ro
        refine ev_perm (ws' := (List.flatten [SP x r1 r2 r3 r4 r5 d b1 b2 b3 hi, RW G r2 5 (vwn S 75 5) (vwn S 80 5) (vwn S 85 5) (nI (sn S 34)) s1 s2 s3 sc, MO G b1 (vwn S 2 6) tk os (vwn S 14 6) (vwn S 20 6) (vwn S 26 6) (vwn S 51 24) le (S 32) (bitF S) (S 0) (S 1) t (S 33) (-1) wa, MO G b3 (vwn S_4 2 6) tk_5 (cpO 6 os os3) (vwn S_4 14 6) (vwn S_4 20 6) (vwn S_4 26 6) (vwn S_4 51 24) le_6 (S_4 32) (bitF S_4) (S_4 0) (S_4 1) t (S_4 33) (nI i) wa_7])) (perm_sg2 (n := 4) [0, 1, 3, 2] rfl rfl (by decide)) ?_
        refine ev_if_eqB (tgt := 33) hC dX11_who_24 (by decide) (fun c_8 => ?_) (fun c_8 => ?_)
        · refine ev_iinc (v := (nI (i + 1))) (lv' := [(2, .int (nI (i + 1))), (0, .ref x), (1, .int g)]) hC dX11_who_33 (q := 2) rfl (nI_k _ _ 1 (by decide)) (by decide) rfl ?_
          refine ev_goto (tgt := 4) hC dX11_who_36 (by decide) ?_
          refine ev_lv [1, 2, 0] rfl ?_
          exact ih (i + 1) g S_4 tk_5 le_6 (cpO 6 os os3) t (nI i) wa_7 (by omega) (by first | rw [whoF, hb, if_pos (by assumption)] | rw [whoF, hb, if_neg (by assumption), or_n0]) (by omega)
        · refine ev_iload_n hC dX11_who_27 rfl 1 rfl ?_
          refine ev_iconst (v := (nI 1)) hC dX11_who_28 (by decide) ?_
          refine ev_iload_n hC dX11_who_29 rfl 2 rfl ?_
          refine ev_ishl hC dX11_who_30 ?_
          refine ev_ior hC dX11_who_31 ?_
          refine ev_istore_n (lv' := [(1, .int (g ||| ((nI 1) <<< ((nI i) &&& 31)))), (0, .ref x), (2, .int (nI i))]) hC dX11_who_32 rfl (by decide) rfl ?_
          refine ev_iinc (v := (nI (i + 1))) (lv' := [(2, .int (nI (i + 1))), (1, .int (g ||| ((nI 1) <<< ((nI i) &&& 31)))), (0, .ref x)]) hC dX11_who_33 (q := 2) rfl (nI_k _ _ 1 (by decide)) (by decide) rfl ?_
          refine ev_goto (tgt := 4) hC dX11_who_36 (by decide) ?_
          refine ev_lv [2, 1, 0] rfl ?_
          exact ih (i + 1) (g ||| ((nI 1) <<< ((nI i) &&& 31))) S_4 tk_5 le_6 (cpO 6 os os3) t (nI i) wa_7 (by omega) (by first | rw [whoF, hb, if_pos (by assumption)] | rw [whoF, hb, if_neg (by assumption), or_n0]) (by omega)
  refine ev_lv [2, 1, 0] rfl ?_
  exact lp_4 (sn S 32 - 0 + 1) 0 (nI 0) T tk3 le3 os3 t3 st3 wa3 (by omega) rfl (Nat.lt_succ_self _)

set_option maxHeartbeats 4000000 in
set_option maxRecDepth 100000 in
theorem m_X11_where (G : GG) (ro : va_W) (x : Nat) (r1 r2 r3 r4 r5 d b1 b2 b3 : Nat → Nat) (hi : Int32) (S tk le T tk3 le3 : Nat → Int32) (os os3 : Nat → Option Nat) (t t3 : Nat) (wa st3 wa3 : Int32) (y : Int32) (s1 s2 s3 : Nat → Int32) (sc : Int32) (hW : WF S 9999 9999) (hO : MoOK G ro (r5 0) S os t)  : Mth G M_X11_where 8 0 0 [.ref x, .int y] (List.flatten [SP x r1 r2 r3 r4 r5 d b1 b2 b3 hi, RW G r2 5 (vwn S 75 5) (vwn S 80 5) (vwn S 85 5) (nI (sn S 34)) s1 s2 s3 sc, MO G b1 (vwn S 2 6) tk os (vwn S 14 6) (vwn S 20 6) (vwn S 26 6) (vwn S 51 24) le (S 32) (bitF S) (S 0) (S 1) t (S 33) (-1) wa, MO G b3 (vwn T 2 6) tk3 os3 (vwn T 14 6) (vwn T 20 6) (vwn T 26 6) (vwn T 51 24) le3 (T 32) (bitF T) (T 0) (T 1) t3 (T 33) st3 wa3]) ro (fun r ws' ro' => ∃ (T' : Nat → Int32), ∃ (tk3' : Nat → Int32), ∃ (le3' : Nat → Int32), ∃ (os3' : Nat → Option Nat), ∃ (t3' : Nat), ∃ (st3' : Int32), ∃ (wa3' : Int32), r = some (.int (whereR S y)) ∧ ws' = (List.flatten [SP x r1 r2 r3 r4 r5 d b1 b2 b3 hi, RW G r2 5 (vwn S 75 5) (vwn S 80 5) (vwn S 85 5) (nI (sn S 34)) s1 s2 s3 sc, MO G b1 (vwn S 2 6) tk os (vwn S 14 6) (vwn S 20 6) (vwn S 26 6) (vwn S 51 24) le (S 32) (bitF S) (S 0) (S 1) t (S 33) (-1) wa, MO G b3 (vwn T' 2 6) tk3' os3' (vwn T' 14 6) (vwn T' 20 6) (vwn T' 26 6) (vwn T' 51 24) le3' (T' 32) (bitF T') (T' 0) (T' 1) t3' (T' 33) st3' wa3']) ∧ ro = ro') := by
  refine mth_of (by decide +kernel) (Nat.le_of_ble_eq_true rfl) (fun X hC hR => ?_)
  have b32 := hW.peo.le
  have b34 := hW.seen.le
  show Ev G X 0 0 0 [(0, .ref x), (1, .int y)] [] (List.flatten [SP x r1 r2 r3 r4 r5 d b1 b2 b3 hi, RW G r2 5 (vwn S 75 5) (vwn S 80 5) (vwn S 85 5) (nI (sn S 34)) s1 s2 s3 sc, MO G b1 (vwn S 2 6) tk os (vwn S 14 6) (vwn S 20 6) (vwn S 26 6) (vwn S 51 24) le (S 32) (bitF S) (S 0) (S 1) t (S 33) (-1) wa, MO G b3 (vwn T 2 6) tk3 os3 (vwn T 14 6) (vwn T 20 6) (vwn T 26 6) (vwn T 51 24) le3 (T 32) (bitF T) (T 0) (T 1) t3 (T 33) st3 wa3]) ro
  refine ev_aload_n hC dX11_where_0 rfl 0 rfl ?_
  refine ev_iload_n hC dX11_where_1 rfl 1 rfl ?_
  refine ev_callV (As := [.int y]) (st := []) (wf := (List.flatten [RW G r2 5 (vwn S 75 5) (vwn S 80 5) (vwn S 85 5) (nI (sn S 34)) s1 s2 s3 sc, MO G b3 (vwn T 2 6) tk3 os3 (vwn T 14 6) (vwn T 20 6) (vwn T 26 6) (vwn T 51 24) le3 (T 32) (bitF T) (T 0) (T 1) t3 (T 33) st3 wa3])) hC cv_X11_118 (m_X11_isPerson G ro x r1 r2 r3 r4 r5 d b1 b2 b3 hi S tk le os t (-1) wa y) (by omega) rfl rfl (Nat.le_of_ble_eq_true rfl) (perm_sg (n := 4) [0, 2, 1, 3] rfl rfl (by decide)) (mw 0 rfl) rfl dX11_where_2 (by omega) (by omega) ?_
  rintro _ _ _ ⟨rfl, rfl, rfl⟩
  show Ev G X 0 0 5 [(0, .ref x), (1, .int y)] [.int (bI ((nI 0) ≤ y ∧ y ≤ (S 32 - nI 1)))] (List.flatten [SP x r1 r2 r3 r4 r5 d b1 b2 b3 hi, MO G b1 (vwn S 2 6) tk os (vwn S 14 6) (vwn S 20 6) (vwn S 26 6) (vwn S 51 24) le (S 32) (bitF S) (S 0) (S 1) t (S 33) (-1) wa, RW G r2 5 (vwn S 75 5) (vwn S 80 5) (vwn S 85 5) (nI (sn S 34)) s1 s2 s3 sc, MO G b3 (vwn T 2 6) tk3 os3 (vwn T 14 6) (vwn T 20 6) (vwn T 26 6) (vwn T 51 24) le3 (T 32) (bitF T) (T 0) (T 1) t3 (T 33) st3 wa3]) ro
  refine ev_perm (ws' := (List.flatten [SP x r1 r2 r3 r4 r5 d b1 b2 b3 hi, RW G r2 5 (vwn S 75 5) (vwn S 80 5) (vwn S 85 5) (nI (sn S 34)) s1 s2 s3 sc, MO G b1 (vwn S 2 6) tk os (vwn S 14 6) (vwn S 20 6) (vwn S 26 6) (vwn S 51 24) le (S 32) (bitF S) (S 0) (S 1) t (S 33) (-1) wa, MO G b3 (vwn T 2 6) tk3 os3 (vwn T 14 6) (vwn T 20 6) (vwn T 26 6) (vwn T 51 24) le3 (T 32) (bitF T) (T 0) (T 1) t3 (T 33) st3 wa3])) (perm_sg2 (n := 4) [0, 2, 1, 3] rfl rfl (by decide)) ?_
  refine ev_if_neB (tgt := 10) hC dX11_where_5 (by decide) (fun c_1 => ?_) (fun c_1 => ?_)
  · obtain ⟨pp, hpp, rfl⟩ := isP hW (by assumption)
    have hpn_pp : pn (nI pp) = pp := nI_clamp (by omega)
    refine ev_iconst (v := (nI 0)) hC dX11_where_10 (by decide) ?_
    refine ev_istore_n (lv' := [(2, .int (nI 0)), (0, .ref x), (1, .int (nI pp))]) hC dX11_where_11 rfl (by decide) rfl ?_
    refine ev_iconst (v := (nI 0)) hC dX11_where_12 (by decide) ?_
    refine ev_istore_n (lv' := [(3, .int (nI 0)), (2, .int (nI 0)), (0, .ref x), (1, .int (nI pp))]) hC dX11_where_13 rfl (by decide) rfl ?_
    have lp_14 : ∀ (fu_14 : Nat) (i : Nat) (g : Int32) (T : Nat → Int32) (tk3 : Nat → Int32) (le3 : Nat → Int32) (os3 : Nat → Option Nat) (t3 : Nat) (st3 : Int32) (wa3 : Int32) (hii : i ≤ 6) (hb : whrF S pp i = g) (hn : 6 - i < fu_14), Ev G X 0 0 14 [(0, .ref x), (1, .int (nI pp)), (2, .int g), (3, .int (nI i))] [] (List.flatten [SP x r1 r2 r3 r4 r5 d b1 b2 b3 hi, RW G r2 5 (vwn S 75 5) (vwn S 80 5) (vwn S 85 5) (nI (sn S 34)) s1 s2 s3 sc, MO G b1 (vwn S 2 6) tk os (vwn S 14 6) (vwn S 20 6) (vwn S 26 6) (vwn S 51 24) le (S 32) (bitF S) (S 0) (S 1) t (S 33) (-1) wa, MO G b3 (vwn T 2 6) tk3 os3 (vwn T 14 6) (vwn T 20 6) (vwn T 26 6) (vwn T 51 24) le3 (T 32) (bitF T) (T 0) (T 1) t3 (T 33) st3 wa3]) ro := by
      intro fu_14
      induction fu_14 with
      | zero => intro i g T tk3 le3 os3 t3 st3 wa3 hii hb hn; exact absurd hn (Nat.not_lt_zero _)
      | succ fu_14 ih =>
        intro i g T tk3 le3 os3 t3 st3 wa3 hii hb hn
        refine ev_iload_n hC dX11_where_14 rfl 3 rfl ?_
        refine ev_bipush (v := (nI 6)) hC dX11_where_15 (by decide) ?_
        refine ev_icmp_geN (tgt := 45) hC dX11_where_17 (by decide) (by omega) (by omega) (fun c_2 => ?_) (fun c_2 => ?_)
        · refine ev_iload_n hC dX11_where_45 rfl 2 rfl ?_
          refine ev_iret hC hR rfl dX11_where_46 ?_
          obtain rfl : i = 6 := by omega
          have er : whereR S (nI pp) = g := by rw [whereR, if_pos (by assumption), hpn_pp, hb]
          exact ⟨_, _, _, _, _, _, _, by rw [er], rfl, rfl⟩
        · refine ev_aload_n hC dX11_where_20 rfl 0 rfl ?_
          have hWi := WF.side_upd hW (p := pp) (k := i) (by omega) (by omega)
          refine ev_aload_n hC dX11_where_21 rfl 0 rfl ?_
          refine ev_iload_n hC dX11_where_22 rfl 1 rfl ?_
          refine ev_iload_n hC dX11_where_23 rfl 3 rfl ?_
          refine ev_callV (As := [.int (nI pp), .int (nI i)]) (st := [.ref x]) (wf := (List.flatten [RW G r2 5 (vwn S 75 5) (vwn S 80 5) (vwn S 85 5) (nI (sn S 34)) s1 s2 s3 sc])) hC cv_X11_206 (m_X11_asIfAt G ro x r1 r2 r3 r4 r5 d b1 b2 b3 hi S tk le T tk3 le3 os os3 t t3 wa st3 wa3 pp i hW hO (by omega)) (by omega) rfl rfl (Nat.le_of_ble_eq_true rfl) (perm_sg (n := 4) [0, 2, 3, 1] rfl rfl (by decide)) (mw 0 rfl) rfl dX11_where_24 (by omega) (by omega) ?_
          rintro _ _ _ ⟨rfl, rfl, rfl⟩
          show Ev G X 0 0 27 [(0, .ref x), (1, .int (nI pp)), (2, .int g), (3, .int (nI i))] [.ref (b3 0), .ref x] (List.flatten [SP x r1 r2 r3 r4 r5 d b1 b2 b3 hi, MO G b1 (vwn S 2 6) tk os (vwn S 14 6) (vwn S 20 6) (vwn S 26 6) (vwn S 51 24) le (S 32) (bitF S) (S 0) (S 1) t (S 33) (-1) wa, MO G b3 (vwn (upd S (14 + pp) (nI i)) 2 6) tk3 (cpO 6 os os3) (vwn (upd S (14 + pp) (nI i)) 14 6) (vwn (upd S (14 + pp) (nI i)) 20 6) (vwn (upd S (14 + pp) (nI i)) 26 6) (vwn (upd S (14 + pp) (nI i)) 51 24) le3 ((upd S (14 + pp) (nI i)) 32) (bitF (upd S (14 + pp) (nI i))) ((upd S (14 + pp) (nI i)) 0) ((upd S (14 + pp) (nI i)) 1) t ((upd S (14 + pp) (nI i)) 33) (-1) (nI 0), RW G r2 5 (vwn S 75 5) (vwn S 80 5) (vwn S 85 5) (nI (sn S 34)) s1 s2 s3 sc]) ro
          refine ev_perm (ws' := (List.flatten [SP x r1 r2 r3 r4 r5 d b1 b2 b3 hi, RW G r2 5 (vwn S 75 5) (vwn S 80 5) (vwn S 85 5) (nI (sn S 34)) s1 s2 s3 sc, MO G b1 (vwn S 2 6) tk os (vwn S 14 6) (vwn S 20 6) (vwn S 26 6) (vwn S 51 24) le (S 32) (bitF S) (S 0) (S 1) t (S 33) (-1) wa, MO G b3 (vwn (upd S (14 + pp) (nI i)) 2 6) tk3 (cpO 6 os os3) (vwn (upd S (14 + pp) (nI i)) 14 6) (vwn (upd S (14 + pp) (nI i)) 20 6) (vwn (upd S (14 + pp) (nI i)) 26 6) (vwn (upd S (14 + pp) (nI i)) 51 24) le3 ((upd S (14 + pp) (nI i)) 32) (bitF (upd S (14 + pp) (nI i))) ((upd S (14 + pp) (nI i)) 0) ((upd S (14 + pp) (nI i)) 1) t ((upd S (14 + pp) (nI i)) 33) (-1) (nI 0)])) (perm_sg2 (n := 4) [0, 3, 1, 2] rfl rfl (by decide)) ?_
          have hO_3 := hO.os hW (os' := cpO 6 os os3) (fun p hp => if_pos hp)
          refine ev_callV (As := [.ref (b3 0)]) (st := []) (wf := (List.flatten [MO G b1 (vwn S 2 6) tk os (vwn S 14 6) (vwn S 20 6) (vwn S 26 6) (vwn S 51 24) le (S 32) (bitF S) (S 0) (S 1) t (S 33) (-1) wa])) hC cv_X11_231 (m_X11_isAllSeen G ro x r1 r2 r3 r4 r5 d b1 b2 b3 hi b3 (upd S (14 + pp) (nI i)) S tk3 le3 s1 s2 s3 (cpO 6 os os3) t (-1) (nI 0) sc hWi (fun j h1 h2 => (upd_ne _ _ (by omega)).symm) (upd_ne _ _ (by omega)).symm (MoOK.hi hO_3 (Hi.upd Hi.rf (by omega) _)) (by omega) (by omega)) (by omega) rfl rfl (Nat.le_of_ble_eq_true rfl) (perm_sg (n := 4) [0, 1, 3, 2] rfl rfl (by decide)) (mw 0 rfl) rfl dX11_where_27 (by omega) (by omega) ?_
          rintro _ _ _ ⟨S_4, tk_5, le_6, wa_7, rfl, rfl, rfl⟩
          show Ev G X 0 0 30 [(0, .ref x), (1, .int (nI pp)), (2, .int g), (3, .int (nI i))] [.int (bI (asSeen (-1) (upd S (14 + pp) (nI i))))] (List.flatten [SP x r1 r2 r3 r4 r5 d b1 b2 b3 hi, RW G r2 5 (vwn S 75 5) (vwn S 80 5) (vwn S 85 5) (nI (sn S 34)) s1 s2 s3 sc, MO G b3 (vwn S_4 2 6) tk_5 (cpO 6 os os3) (vwn S_4 14 6) (vwn S_4 20 6) (vwn S_4 26 6) (vwn S_4 51 24) le_6 (S_4 32) (bitF S_4) (S_4 0) (S_4 1) t (S_4 33) (-1) wa_7, MO G b1 (vwn S 2 6) tk os (vwn S 14 6) (vwn S 20 6) (vwn S 26 6) (vwn S 51 24) le (S 32) (bitF S) (S 0) (S 1) t (S 33) (-1) wa]) ro
          refine ev_perm (ws' := (List.flatten [SP x r1 r2 r3 r4 r5 d b1 b2 b3 hi, RW G r2 5 (vwn S 75 5) (vwn S 80 5) (vwn S 85 5) (nI (sn S 34)) s1 s2 s3 sc, MO G b1 (vwn S 2 6) tk os (vwn S 14 6) (vwn S 20 6) (vwn S 26 6) (vwn S 51 24) le (S 32) (bitF S) (S 0) (S 1) t (S 33) (-1) wa, MO G b3 (vwn S_4 2 6) tk_5 (cpO 6 os os3) (vwn S_4 14 6) (vwn S_4 20 6) (vwn S_4 26 6) (vwn S_4 51 24) le_6 (S_4 32) (bitF S_4) (S_4 0) (S_4 1) t (S_4 33) (-1) wa_7])) (perm_sg2 (n := 4) [0, 1, 3, 2] rfl rfl (by decide)) ?_
          refine ev_if_eqB (tgt := 39) hC dX11_where_30 (by decide) (fun c_8 => ?_) (fun c_8 => ?_)
          · refine ev_iinc (v := (nI (i + 1))) (lv' := [(3, .int (nI (i + 1))), (0, .ref x), (1, .int (nI pp)), (2, .int g)]) hC dX11_where_39 (q := 3) rfl (nI_k _ _ 1 (by decide)) (by decide) rfl ?_
            refine ev_goto (tgt := 14) hC dX11_where_42 (by decide) ?_
            refine ev_lv [1, 2, 3, 0] rfl ?_
            exact ih (i + 1) g S_4 tk_5 le_6 (cpO 6 os os3) t (-1) wa_7 (by omega) (by first | rw [whrF, hb, if_pos (by assumption)] | rw [whrF, hb, if_neg (by assumption), or_n0]) (by omega)
          · refine ev_iload_n hC dX11_where_33 rfl 2 rfl ?_
            refine ev_iconst (v := (nI 1)) hC dX11_where_34 (by decide) ?_
            refine ev_iload_n hC dX11_where_35 rfl 3 rfl ?_
            refine ev_ishl hC dX11_where_36 ?_
            refine ev_ior hC dX11_where_37 ?_
            refine ev_istore_n (lv' := [(2, .int (g ||| ((nI 1) <<< ((nI i) &&& 31)))), (0, .ref x), (1, .int (nI pp)), (3, .int (nI i))]) hC dX11_where_38 rfl (by decide) rfl ?_
            refine ev_iinc (v := (nI (i + 1))) (lv' := [(3, .int (nI (i + 1))), (2, .int (g ||| ((nI 1) <<< ((nI i) &&& 31)))), (0, .ref x), (1, .int (nI pp))]) hC dX11_where_39 (q := 3) rfl (nI_k _ _ 1 (by decide)) (by decide) rfl ?_
            refine ev_goto (tgt := 14) hC dX11_where_42 (by decide) ?_
            refine ev_lv [2, 3, 1, 0] rfl ?_
            exact ih (i + 1) (g ||| ((nI 1) <<< ((nI i) &&& 31))) S_4 tk_5 le_6 (cpO 6 os os3) t (-1) wa_7 (by omega) (by first | rw [whrF, hb, if_pos (by assumption)] | rw [whrF, hb, if_neg (by assumption), or_n0]) (by omega)
    refine ev_lv [2, 3, 1, 0] rfl ?_
    exact lp_14 (6 - 0 + 1) 0 (nI 0) T tk3 le3 os3 t3 st3 wa3 (by omega) rfl (Nat.lt_succ_self _)
  · refine ev_iconst (v := (-1)) hC dX11_where_8 (by decide) ?_
    refine ev_iret hC hR rfl dX11_where_9 ?_
    have er : whereR S y = (-1) := by rw [whereR, if_neg (by assumption)]
    exact ⟨_, _, _, _, _, _, _, by rw [er], rfl, rfl⟩

set_option maxHeartbeats 4000000 in
set_option maxRecDepth 100000 in
theorem m_X11_odds (G : GG) (ro : va_W) (x : Nat) (r1 r2 r3 r4 r5 d b1 b2 b3 : Nat → Nat) (hi : Int32) (S tk le T tk3 le3 : Nat → Int32) (os os3 : Nat → Option Nat) (t t3 : Nat) (wa st3 wa3 : Int32) (y part : Int32) (hW : WF S 9999 9999) (hO : MoOK G ro (r5 0) S os t)  : Mth G M_X11_odds 8 0 0 [.ref x, .int y, .int part] (List.flatten [SP x r1 r2 r3 r4 r5 d b1 b2 b3 hi, MO G b1 (vwn S 2 6) tk os (vwn S 14 6) (vwn S 20 6) (vwn S 26 6) (vwn S 51 24) le (S 32) (bitF S) (S 0) (S 1) t (S 33) (-1) wa, MO G b3 (vwn T 2 6) tk3 os3 (vwn T 14 6) (vwn T 20 6) (vwn T 26 6) (vwn T 51 24) le3 (T 32) (bitF T) (T 0) (T 1) t3 (T 33) st3 wa3]) ro (fun r ws' ro' => ∃ (T' : Nat → Int32), ∃ (tk3' : Nat → Int32), ∃ (le3' : Nat → Int32), ∃ (os3' : Nat → Option Nat), ∃ (t3' : Nat), ∃ (st3' : Int32), ∃ (wa3' : Int32), r = some (.long (oddsR S y part)) ∧ ws' = (List.flatten [SP x r1 r2 r3 r4 r5 d b1 b2 b3 hi, MO G b1 (vwn S 2 6) tk os (vwn S 14 6) (vwn S 20 6) (vwn S 26 6) (vwn S 51 24) le (S 32) (bitF S) (S 0) (S 1) t (S 33) (-1) wa, MO G b3 (vwn T' 2 6) tk3' os3' (vwn T' 14 6) (vwn T' 20 6) (vwn T' 26 6) (vwn T' 51 24) le3' (T' 32) (bitF T') (T' 0) (T' 1) t3' (T' 33) st3' wa3']) ∧ ro = ro') := by
  refine mth_of (by decide +kernel) (Nat.le_of_ble_eq_true rfl) (fun X hC hR => ?_)
  have b32 := hW.peo.le
  show Ev G X 0 0 0 [(0, .ref x), (1, .int y), (2, .int part)] [] (List.flatten [SP x r1 r2 r3 r4 r5 d b1 b2 b3 hi, MO G b1 (vwn S 2 6) tk os (vwn S 14 6) (vwn S 20 6) (vwn S 26 6) (vwn S 51 24) le (S 32) (bitF S) (S 0) (S 1) t (S 33) (-1) wa, MO G b3 (vwn T 2 6) tk3 os3 (vwn T 14 6) (vwn T 20 6) (vwn T 26 6) (vwn T 51 24) le3 (T 32) (bitF T) (T 0) (T 1) t3 (T 33) st3 wa3]) ro
  refine ev_iload_n hC dX11_odds_0 rfl 1 rfl ?_
  refine ev_iconst (v := (nI 0)) hC dX11_odds_1 (by decide) ?_
  refine ev_bipush (v := (nI 99)) hC dX11_odds_2 (by decide) ?_
  refine ev_callS (As := [.int y, .int (nI 0), .int (nI 99)]) (st := []) (wc := []) (wf := (List.flatten [SP x r1 r2 r3 r4 r5 d b1 b2 b3 hi, MO G b1 (vwn S 2 6) tk os (vwn S 14 6) (vwn S 20 6) (vwn S 26 6) (vwn S 51 24) le (S 32) (bitF S) (S 0) (S 1) t (S 33) (-1) wa, MO G b3 (vwn T 2 6) tk3 os3 (vwn T 14 6) (vwn T 20 6) (vwn T 26 6) (vwn T 51 24) le3 (T 32) (bitF T) (T 0) (T 1) t3 (T 33) st3 wa3])) hC ct_X11_68 (m_X11_isWithin G ro y (nI 0) (nI 99)) (by omega) rfl rfl (Nat.le_of_ble_eq_true rfl) (List.Perm.refl _) dX11_odds_4 (by omega) (by omega) ?_
  rintro _ _ _ ⟨rfl, rfl, rfl⟩
  refine ev_ws (List.nil_append _) ?_
  show Ev G X 0 0 7 [(0, .ref x), (1, .int y), (2, .int part)] [.int (bI ((nI 0) ≤ y ∧ y ≤ (nI 99)))] (List.flatten [SP x r1 r2 r3 r4 r5 d b1 b2 b3 hi, MO G b1 (vwn S 2 6) tk os (vwn S 14 6) (vwn S 20 6) (vwn S 26 6) (vwn S 51 24) le (S 32) (bitF S) (S 0) (S 1) t (S 33) (-1) wa, MO G b3 (vwn T 2 6) tk3 os3 (vwn T 14 6) (vwn T 20 6) (vwn T 26 6) (vwn T 51 24) le3 (T 32) (bitF T) (T 0) (T 1) t3 (T 33) st3 wa3]) ro
  refine ev_if_neB (tgt := 14) hC dX11_odds_7 (by decide) (fun c_1 => ?_) (fun c_1 => ?_)
  · refine ev_iconst (v := (nI 0)) hC dX11_odds_14 (by decide) ?_
    refine ev_istore_n (lv' := [(3, .int (nI 0)), (0, .ref x), (1, .int y), (2, .int part)]) hC dX11_odds_15 rfl (by decide) rfl ?_
    refine ev_iconst (v := (nI 0)) hC dX11_odds_16 (by decide) ?_
    refine ev_istore (lv' := [(4, .int (nI 0)), (3, .int (nI 0)), (0, .ref x), (1, .int y), (2, .int part)]) hC dX11_odds_17 (by decide) rfl ?_
    have lp_19 : ∀ (fu_19 : Nat) (i : Nat) (c : Nat) (T : Nat → Int32) (tk3 : Nat → Int32) (le3 : Nat → Int32) (os3 : Nat → Option Nat) (t3 : Nat) (st3 : Int32) (wa3 : Int32) (hii : i ≤ sn S 32) (hb : odN S y i = c) (hci : c ≤ i) (hn : sn S 32 - i < fu_19), Ev G X 0 0 19 [(0, .ref x), (1, .int y), (2, .int part), (3, .int (nI c)), (4, .int (nI i))] [] (List.flatten [SP x r1 r2 r3 r4 r5 d b1 b2 b3 hi, MO G b1 (vwn S 2 6) tk os (vwn S 14 6) (vwn S 20 6) (vwn S 26 6) (vwn S 51 24) le (S 32) (bitF S) (S 0) (S 1) t (S 33) (-1) wa, MO G b3 (vwn T 2 6) tk3 os3 (vwn T 14 6) (vwn T 20 6) (vwn T 26 6) (vwn T 51 24) le3 (T 32) (bitF T) (T 0) (T 1) t3 (T 33) st3 wa3]) ro := by
      intro fu_19
      induction fu_19 with
      | zero => intro i c T tk3 le3 os3 t3 st3 wa3 hii hb hci hn; exact absurd hn (Nat.not_lt_zero _)
      | succ fu_19 ih =>
        intro i c T tk3 le3 os3 t3 st3 wa3 hii hb hci hn
        refine ev_iload hC dX11_odds_19 4 rfl ?_
        refine ev_aload_n hC dX11_odds_21 rfl 0 rfl ?_
        refine ev_get hC fl_X11_58_11 (mw 0 rfl) rfl dX11_odds_22 ?_
        refine ev_get hC fl_X11_107_3 (mw 1 rfl) rfl dX11_odds_25 ?_
        have bk_2 : NB S 32 _ := hW.peo
        have k_2 := bk_2.eq
        have lk_2 := bk_2.le
        have mk_2 := bk_2.lt
        refine ev_top (y := (nI (sn S 32))) k_2 ?_
        refine ev_icmp_geN (tgt := 53) hC dX11_odds_28 (by decide) (by omega) (by omega) (fun c_3 => ?_) (fun c_3 => ?_)
        · subst hb
          refine ev_iload_n hC dX11_odds_53 rfl 3 rfl ?_
          refine ev_aload_n hC dX11_odds_54 rfl 0 rfl ?_
          refine ev_get hC fl_X11_58_11 (mw 0 rfl) rfl dX11_odds_55 ?_
          refine ev_get hC fl_X11_107_3 (mw 1 rfl) rfl dX11_odds_58 ?_
          have bk_4 : NB S 32 _ := hW.peo
          have k_4 := bk_4.eq
          have lk_4 := bk_4.le
          have mk_4 := bk_4.lt
          refine ev_top (y := (nI (sn S 32))) k_4 ?_
          refine ev_iload_n hC dX11_odds_61 rfl 2 rfl ?_
          refine ev_callS (As := [.int (nI (odN S y i)), .int (nI (sn S 32)), .int part]) (st := []) (wc := []) (wf := (List.flatten [SP x r1 r2 r3 r4 r5 d b1 b2 b3 hi, MO G b1 (vwn S 2 6) tk os (vwn S 14 6) (vwn S 20 6) (vwn S 26 6) (vwn S 51 24) le (S 32) (bitF S) (S 0) (S 1) t (S 33) (-1) wa, MO G b3 (vwn T 2 6) tk3 os3 (vwn T 14 6) (vwn T 20 6) (vwn T 26 6) (vwn T 51 24) le3 (T 32) (bitF T) (T 0) (T 1) t3 (T 33) st3 wa3])) hC ct_X11_212 (m_X11_partOf G ro (odN S y i) (sn S 32) part (by omega) (by omega)) (by omega) rfl rfl (Nat.le_of_ble_eq_true rfl) (List.Perm.refl _) dX11_odds_62 (by omega) (by omega) ?_
          rintro _ _ _ ⟨rfl, rfl, rfl⟩
          refine ev_ws (List.nil_append _) ?_
          show Ev G X 0 0 65 [(0, .ref x), (1, .int y), (2, .int part), (3, .int (nI (odN S y i))), (4, .int (nI i))] [.long (ptF (odN S y i) (sn S 32) part)] (List.flatten [SP x r1 r2 r3 r4 r5 d b1 b2 b3 hi, MO G b1 (vwn S 2 6) tk os (vwn S 14 6) (vwn S 20 6) (vwn S 26 6) (vwn S 51 24) le (S 32) (bitF S) (S 0) (S 1) t (S 33) (-1) wa, MO G b3 (vwn T 2 6) tk3 os3 (vwn T 14 6) (vwn T 20 6) (vwn T 26 6) (vwn T 51 24) le3 (T 32) (bitF T) (T 0) (T 1) t3 (T 33) st3 wa3]) ro
          refine ev_lret hC hR rfl dX11_odds_65 ?_
          obtain rfl : i = sn S 32 := by omega
          have er : oddsR S y part = (ptF (odN S y (sn S 32)) (sn S 32) part) := by
            rw [oddsR, ptF]
            by_cases hp1 : nI 0 ≤ part ∧ part ≤ nI 1
            · by_cases hz : sn S 32 = 0
              · rw [if_neg (fun z => z.2 hz), if_neg (fun z => by have := z.2; omega)]
              · rw [if_pos ⟨⟨by assumption, hp1⟩, hz⟩, if_pos ⟨hp1, by omega⟩]
            · rw [if_neg (fun z => hp1 z.1.2), if_neg (fun z => hp1 z.1)]
          exact ⟨_, _, _, _, _, _, _, by rw [er], rfl, rfl⟩
        · refine ev_aload_n hC dX11_odds_31 rfl 0 rfl ?_
          refine ev_iload hC dX11_odds_32 4 rfl ?_
          refine ev_callV (As := [.int (nI i)]) (st := []) (wf := (List.flatten [])) hC cv_X11_203 (m_X11_asIfStill G ro x r1 r2 r3 r4 r5 d b1 b2 b3 hi S tk le T tk3 le3 os os3 t t3 wa st3 wa3 i hW hO ) (by omega) rfl rfl (Nat.le_of_ble_eq_true rfl) (perm_sg (n := 3) [0, 1, 2] rfl rfl (by decide)) (mw 0 rfl) rfl dX11_odds_34 (by omega) (by omega) ?_
          rintro _ _ _ ⟨rfl, rfl, rfl⟩
          show Ev G X 0 0 37 [(0, .ref x), (1, .int y), (2, .int part), (3, .int (nI c)), (4, .int (nI i))] [.ref (b3 0)] (List.flatten [SP x r1 r2 r3 r4 r5 d b1 b2 b3 hi, MO G b1 (vwn S 2 6) tk os (vwn S 14 6) (vwn S 20 6) (vwn S 26 6) (vwn S 51 24) le (S 32) (bitF S) (S 0) (S 1) t (S 33) (-1) wa, MO G b3 (vwn S 2 6) tk3 (cpO 6 os os3) (vwn S 14 6) (vwn S 20 6) (vwn S 26 6) (vwn S 51 24) le3 (S 32) (bitF S) (S 0) (S 1) t (S 33) (nI i) (nI 0)]) ro
          have hO_5 := hO.os hW (os' := cpO 6 os os3) (fun p hp => if_pos hp)
          have wl_10 := warF_le (nI i) S
          refine ev_callS (As := [.ref (b3 0)]) (st := []) (wf := (List.flatten [SP x r1 r2 r3 r4 r5 d b1 b2 b3 hi, MO G b1 (vwn S 2 6) tk os (vwn S 14 6) (vwn S 20 6) (vwn S 26 6) (vwn S 51 24) le (S 32) (bitF S) (S 0) (S 1) t (S 33) (-1) wa])) hC ct_X11_196 (m_X11_daysLasting G ro b3 S tk3 le3 (cpO 6 os os3) t (r5 0) (nI i) (nI 0) hW hO_5 (by omega) (by omega)) (by omega) rfl rfl (Nat.le_of_ble_eq_true rfl) (perm_sg (n := 3) [2, 0, 1] rfl rfl (by decide)) dX11_odds_37 (by omega) (by omega) ?_
          rintro _ _ _ ⟨S_6, tk_7, le_8, wa_9, rfl, rfl, rfl⟩
          show Ev G X 0 0 40 [(0, .ref x), (1, .int y), (2, .int part), (3, .int (nI c)), (4, .int (nI i))] [.int (nI (warF (nI i) S))] (List.flatten [MO G b3 (vwn S_6 2 6) tk_7 (cpO 6 os os3) (vwn S_6 14 6) (vwn S_6 20 6) (vwn S_6 26 6) (vwn S_6 51 24) le_8 (S_6 32) (bitF S_6) (S_6 0) (S_6 1) t (S_6 33) (nI i) wa_9, SP x r1 r2 r3 r4 r5 d b1 b2 b3 hi, MO G b1 (vwn S 2 6) tk os (vwn S 14 6) (vwn S 20 6) (vwn S 26 6) (vwn S 51 24) le (S 32) (bitF S) (S 0) (S 1) t (S 33) (-1) wa]) ro
          refine ev_perm (ws' := (List.flatten [SP x r1 r2 r3 r4 r5 d b1 b2 b3 hi, MO G b1 (vwn S 2 6) tk os (vwn S 14 6) (vwn S 20 6) (vwn S 26 6) (vwn S 51 24) le (S 32) (bitF S) (S 0) (S 1) t (S 33) (-1) wa, MO G b3 (vwn S_6 2 6) tk_7 (cpO 6 os os3) (vwn S_6 14 6) (vwn S_6 20 6) (vwn S_6 26 6) (vwn S_6 51 24) le_8 (S_6 32) (bitF S_6) (S_6 0) (S_6 1) t (S_6 33) (nI i) wa_9])) (perm_sg2 (n := 3) [1, 2, 0] rfl rfl (by decide)) ?_
          refine ev_iload_n hC dX11_odds_40 rfl 1 rfl ?_
          refine ev_icmp_le (tgt := 47) hC dX11_odds_41 (by decide) (fun c_11 => ?_) (fun c_11 => ?_)
          · refine ev_iinc (v := (nI (i + 1))) (lv' := [(4, .int (nI (i + 1))), (0, .ref x), (1, .int y), (2, .int part), (3, .int (nI c))]) hC dX11_odds_47 (q := 4) rfl (nI_k _ _ 1 (by decide)) (by decide) rfl ?_
            refine ev_goto (tgt := 19) hC dX11_odds_50 (by decide) ?_
            refine ev_lv [1, 2, 3, 4, 0] rfl ?_
            exact ih (i + 1) c S_6 tk_7 le_8 (cpO 6 os os3) t (nI i) wa_9 (by omega) (by first | (rw [odN, hb, if_pos (Int32.not_le.mp (by assumption))]) | (rw [odN, hb, if_neg (Int32.not_lt.mpr (by assumption))]; rfl)) (by omega) (by omega)
          · refine ev_iinc (v := (nI (c + 1))) (lv' := [(3, .int (nI (c + 1))), (0, .ref x), (1, .int y), (2, .int part), (4, .int (nI i))]) hC dX11_odds_44 (q := 3) rfl (nI_k _ _ 1 (by decide)) (by decide) rfl ?_
            refine ev_iinc (v := (nI (i + 1))) (lv' := [(4, .int (nI (i + 1))), (3, .int (nI (c + 1))), (0, .ref x), (1, .int y), (2, .int part)]) hC dX11_odds_47 (q := 4) rfl (nI_k _ _ 1 (by decide)) (by decide) rfl ?_
            refine ev_goto (tgt := 19) hC dX11_odds_50 (by decide) ?_
            refine ev_lv [2, 3, 4, 1, 0] rfl ?_
            exact ih (i + 1) (c + 1) S_6 tk_7 le_8 (cpO 6 os os3) t (nI i) wa_9 (by omega) (by first | (rw [odN, hb, if_pos (Int32.not_le.mp (by assumption))]) | (rw [odN, hb, if_neg (Int32.not_lt.mpr (by assumption))]; rfl)) (by omega) (by omega)
    refine ev_lv [2, 3, 4, 1, 0] rfl ?_
    exact lp_19 (sn S 32 - 0 + 1) 0 0 T tk3 le3 os3 t3 st3 wa3 (by omega) rfl (by omega) (Nat.lt_succ_self _)
  · refine ev_ldc2 (v := -9223372036854775808) hC dX11_odds_10 (ft_in 861 (by decide +kernel) rfl) ?_
    refine ev_lret hC hR rfl dX11_odds_13 ?_
    have er : oddsR S y part = NOL := by rw [oddsR]; exact if_neg (fun z => absurd z.1.1 (by assumption))
    exact ⟨_, _, _, _, _, _, _, by rw [er]; rfl, rfl, rfl⟩

set_option maxHeartbeats 4000000 in
set_option maxRecDepth 100000 in
theorem m_X11_mean (G : GG) (ro : va_W) (x : Nat) (r1 r2 r3 r4 r5 d b1 b2 b3 : Nat → Nat) (hi : Int32) (S tk le T tk3 le3 : Nat → Int32) (os os3 : Nat → Option Nat) (t t3 : Nat) (wa st3 wa3 : Int32) (y part : Int32) (hW : WF S 9999 9999) (hO : MoOK G ro (r5 0) S os t)  : Mth G M_X11_mean 8 0 0 [.ref x, .int y, .int part] (List.flatten [SP x r1 r2 r3 r4 r5 d b1 b2 b3 hi, MO G b1 (vwn S 2 6) tk os (vwn S 14 6) (vwn S 20 6) (vwn S 26 6) (vwn S 51 24) le (S 32) (bitF S) (S 0) (S 1) t (S 33) (-1) wa, MO G b3 (vwn T 2 6) tk3 os3 (vwn T 14 6) (vwn T 20 6) (vwn T 26 6) (vwn T 51 24) le3 (T 32) (bitF T) (T 0) (T 1) t3 (T 33) st3 wa3]) ro (fun r ws' ro' => ∃ (T' : Nat → Int32), ∃ (tk3' : Nat → Int32), ∃ (le3' : Nat → Int32), ∃ (os3' : Nat → Option Nat), ∃ (t3' : Nat), ∃ (st3' : Int32), ∃ (wa3' : Int32), r = some (.long (meanR S y part)) ∧ ws' = (List.flatten [SP x r1 r2 r3 r4 r5 d b1 b2 b3 hi, MO G b1 (vwn S 2 6) tk os (vwn S 14 6) (vwn S 20 6) (vwn S 26 6) (vwn S 51 24) le (S 32) (bitF S) (S 0) (S 1) t (S 33) (-1) wa, MO G b3 (vwn T' 2 6) tk3' os3' (vwn T' 14 6) (vwn T' 20 6) (vwn T' 26 6) (vwn T' 51 24) le3' (T' 32) (bitF T') (T' 0) (T' 1) t3' (T' 33) st3' wa3']) ∧ ro = ro') := by
  refine mth_of (by decide +kernel) (Nat.le_of_ble_eq_true rfl) (fun X hC hR => ?_)
  have b32 := hW.peo.le
  show Ev G X 0 0 0 [(0, .ref x), (1, .int y), (2, .int part)] [] (List.flatten [SP x r1 r2 r3 r4 r5 d b1 b2 b3 hi, MO G b1 (vwn S 2 6) tk os (vwn S 14 6) (vwn S 20 6) (vwn S 26 6) (vwn S 51 24) le (S 32) (bitF S) (S 0) (S 1) t (S 33) (-1) wa, MO G b3 (vwn T 2 6) tk3 os3 (vwn T 14 6) (vwn T 20 6) (vwn T 26 6) (vwn T 51 24) le3 (T 32) (bitF T) (T 0) (T 1) t3 (T 33) st3 wa3]) ro
  refine ev_iload_n hC dX11_mean_0 rfl 1 rfl ?_
  refine ev_iconst (v := (nI 0)) hC dX11_mean_1 (by decide) ?_
  refine ev_bipush (v := (nI 60)) hC dX11_mean_2 (by decide) ?_
  refine ev_callS (As := [.int y, .int (nI 0), .int (nI 60)]) (st := []) (wc := []) (wf := (List.flatten [SP x r1 r2 r3 r4 r5 d b1 b2 b3 hi, MO G b1 (vwn S 2 6) tk os (vwn S 14 6) (vwn S 20 6) (vwn S 26 6) (vwn S 51 24) le (S 32) (bitF S) (S 0) (S 1) t (S 33) (-1) wa, MO G b3 (vwn T 2 6) tk3 os3 (vwn T 14 6) (vwn T 20 6) (vwn T 26 6) (vwn T 51 24) le3 (T 32) (bitF T) (T 0) (T 1) t3 (T 33) st3 wa3])) hC ct_X11_68 (m_X11_isWithin G ro y (nI 0) (nI 60)) (by omega) rfl rfl (Nat.le_of_ble_eq_true rfl) (List.Perm.refl _) dX11_mean_4 (by omega) (by omega) ?_
  rintro _ _ _ ⟨rfl, rfl, rfl⟩
  refine ev_ws (List.nil_append _) ?_
  show Ev G X 0 0 7 [(0, .ref x), (1, .int y), (2, .int part)] [.int (bI ((nI 0) ≤ y ∧ y ≤ (nI 60)))] (List.flatten [SP x r1 r2 r3 r4 r5 d b1 b2 b3 hi, MO G b1 (vwn S 2 6) tk os (vwn S 14 6) (vwn S 20 6) (vwn S 26 6) (vwn S 51 24) le (S 32) (bitF S) (S 0) (S 1) t (S 33) (-1) wa, MO G b3 (vwn T 2 6) tk3 os3 (vwn T 14 6) (vwn T 20 6) (vwn T 26 6) (vwn T 51 24) le3 (T 32) (bitF T) (T 0) (T 1) t3 (T 33) st3 wa3]) ro
  refine ev_if_neB (tgt := 14) hC dX11_mean_7 (by decide) (fun c_1 => ?_) (fun c_1 => ?_)
  · obtain ⟨kk, hkk, rfl⟩ := inN (m := 60) (by omega) (by assumption)
    have hpn_kk : pn (nI kk) = kk := nI_clamp (by omega)
    refine ev_aload_n hC dX11_mean_14 rfl 0 rfl ?_
    refine ev_iload_n hC dX11_mean_15 rfl 1 rfl ?_
    refine ev_callV (As := [.int (nI kk)]) (st := []) (wf := (List.flatten [])) hC cv_X11_188 (m_X11_after G ro x r1 r2 r3 r4 r5 d b1 b2 b3 hi S tk le T tk3 le3 os os3 t t3 wa st3 wa3 kk hW hO (by omega) (by omega) (by omega)) (by omega) rfl rfl (Nat.le_of_ble_eq_true rfl) (perm_sg (n := 3) [0, 1, 2] rfl rfl (by decide)) (mw 0 rfl) rfl dX11_mean_16 (by omega) (by omega) ?_
    rintro _ _ _ ⟨tk_2, le_3, hK_4, rfl, rfl, rfl⟩
    show Ev G X 0 0 19 [(0, .ref x), (1, .int (nI kk)), (2, .int part)] [.ref (b3 0)] (List.flatten [SP x r1 r2 r3 r4 r5 d b1 b2 b3 hi, MO G b1 (vwn S 2 6) tk os (vwn S 14 6) (vwn S 20 6) (vwn S 26 6) (vwn S 51 24) le (S 32) (bitF S) (S 0) (S 1) t (S 33) (-1) wa, MO G b3 (vwn (gosF (-1) S kk) 2 6) tk_2 (cpO 6 os os3) (vwn (gosF (-1) S kk) 14 6) (vwn (gosF (-1) S kk) 20 6) (vwn (gosF (-1) S kk) 26 6) (vwn (gosF (-1) S kk) 51 24) le_3 ((gosF (-1) S kk) 32) (bitF (gosF (-1) S kk)) ((gosF (-1) S kk) 0) ((gosF (-1) S kk) 1) t ((gosF (-1) S kk) 33) (-1) (raF (-1) S (nI 0) kk)]) ro
    have hO_5 := hO.os hW (os' := cpO 6 os os3) (fun p hp => if_pos hp)
    refine ev_callV (As := []) (st := []) (wf := (List.flatten [SP x r1 r2 r3 r4 r5 d b1 b2 b3 hi, MO G b1 (vwn S 2 6) tk os (vwn S 14 6) (vwn S 20 6) (vwn S 26 6) (vwn S 51 24) le (S 32) (bitF S) (S 0) (S 1) t (S 33) (-1) wa])) hC cv_X11_179 (m_X3_allGrudge G ro b3 (gosF (-1) S kk) tk_2 le_3 (cpO 6 os os3) t (r5 0) (-1) (raF (-1) S (nI 0) kk)  ((gosF_wf (-1) hW kk (by omega) (by omega)).1)) (by omega) rfl rfl (Nat.le_of_ble_eq_true rfl) (perm_sg (n := 3) [2, 0, 1] rfl rfl (by decide)) (mw 10 rfl) rfl dX11_mean_19 (by omega) (by omega) ?_
    rintro _ _ _ ⟨rfl, rfl, rfl⟩
    show Ev G X 0 0 22 [(0, .ref x), (1, .int (nI kk)), (2, .int part)] [.int (gruF (gosF (-1) S kk) (sn (gosF (-1) S kk) 32))] (List.flatten [MO G b3 (vwn (gosF (-1) S kk) 2 6) tk_2 (cpO 6 os os3) (vwn (gosF (-1) S kk) 14 6) (vwn (gosF (-1) S kk) 20 6) (vwn (gosF (-1) S kk) 26 6) (vwn (gosF (-1) S kk) 51 24) le_3 ((gosF (-1) S kk) 32) (bitF (gosF (-1) S kk)) ((gosF (-1) S kk) 0) ((gosF (-1) S kk) 1) t ((gosF (-1) S kk) 33) (-1) (raF (-1) S (nI 0) kk), SP x r1 r2 r3 r4 r5 d b1 b2 b3 hi, MO G b1 (vwn S 2 6) tk os (vwn S 14 6) (vwn S 20 6) (vwn S 26 6) (vwn S 51 24) le (S 32) (bitF S) (S 0) (S 1) t (S 33) (-1) wa]) ro
    refine ev_perm (ws' := (List.flatten [SP x r1 r2 r3 r4 r5 d b1 b2 b3 hi, MO G b1 (vwn S 2 6) tk os (vwn S 14 6) (vwn S 20 6) (vwn S 26 6) (vwn S 51 24) le (S 32) (bitF S) (S 0) (S 1) t (S 33) (-1) wa, MO G b3 (vwn (gosF (-1) S kk) 2 6) tk_2 (cpO 6 os os3) (vwn (gosF (-1) S kk) 14 6) (vwn (gosF (-1) S kk) 20 6) (vwn (gosF (-1) S kk) 26 6) (vwn (gosF (-1) S kk) 51 24) le_3 ((gosF (-1) S kk) 32) (bitF (gosF (-1) S kk)) ((gosF (-1) S kk) 0) ((gosF (-1) S kk) 1) t ((gosF (-1) S kk) 33) (-1) (raF (-1) S (nI 0) kk)])) (perm_sg2 (n := 3) [1, 2, 0] rfl rfl (by decide)) ?_
    have hgw := gosF_wf (-1) hW kk (by omega) (by omega)
    have e32 : sn (gosF (-1) S kk) 32 = sn S 32 := hgw.2.sn (by omega)
    have hgn := grN_eq hgw.1 (sn S 32) (by omega)
    have hgl := hgn.2
    refine ev_top (y := (nI (grN (gosF (-1) S kk) (sn S 32)))) (by rw [e32]; exact hgn.1) ?_
    refine ev_aload_n hC dX11_mean_22 rfl 0 rfl ?_
    refine ev_get hC fl_X11_58_11 (mw 0 rfl) rfl dX11_mean_23 ?_
    refine ev_get hC fl_X11_107_3 (mw 1 rfl) rfl dX11_mean_26 ?_
    have bk_6 : NB S 32 _ := hW.peo
    have k_6 := bk_6.eq
    have lk_6 := bk_6.le
    have mk_6 := bk_6.lt
    refine ev_top (y := (nI (sn S 32))) k_6 ?_
    refine ev_iload_n hC dX11_mean_29 rfl 2 rfl ?_
    refine ev_callS (As := [.int (nI (grN (gosF (-1) S kk) (sn S 32))), .int (nI (sn S 32)), .int part]) (st := []) (wc := []) (wf := (List.flatten [SP x r1 r2 r3 r4 r5 d b1 b2 b3 hi, MO G b1 (vwn S 2 6) tk os (vwn S 14 6) (vwn S 20 6) (vwn S 26 6) (vwn S 51 24) le (S 32) (bitF S) (S 0) (S 1) t (S 33) (-1) wa, MO G b3 (vwn (gosF (-1) S kk) 2 6) tk_2 (cpO 6 os os3) (vwn (gosF (-1) S kk) 14 6) (vwn (gosF (-1) S kk) 20 6) (vwn (gosF (-1) S kk) 26 6) (vwn (gosF (-1) S kk) 51 24) le_3 ((gosF (-1) S kk) 32) (bitF (gosF (-1) S kk)) ((gosF (-1) S kk) 0) ((gosF (-1) S kk) 1) t ((gosF (-1) S kk) 33) (-1) (raF (-1) S (nI 0) kk)])) hC ct_X11_212 (m_X11_partOf G ro (grN (gosF (-1) S kk) (sn S 32)) (sn S 32) part (by omega) (by omega)) (by omega) rfl rfl (Nat.le_of_ble_eq_true rfl) (List.Perm.refl _) dX11_mean_30 (by omega) (by omega) ?_
    rintro _ _ _ ⟨rfl, rfl, rfl⟩
    refine ev_ws (List.nil_append _) ?_
    show Ev G X 0 0 33 [(0, .ref x), (1, .int (nI kk)), (2, .int part)] [.long (ptF (grN (gosF (-1) S kk) (sn S 32)) (sn S 32) part)] (List.flatten [SP x r1 r2 r3 r4 r5 d b1 b2 b3 hi, MO G b1 (vwn S 2 6) tk os (vwn S 14 6) (vwn S 20 6) (vwn S 26 6) (vwn S 51 24) le (S 32) (bitF S) (S 0) (S 1) t (S 33) (-1) wa, MO G b3 (vwn (gosF (-1) S kk) 2 6) tk_2 (cpO 6 os os3) (vwn (gosF (-1) S kk) 14 6) (vwn (gosF (-1) S kk) 20 6) (vwn (gosF (-1) S kk) 26 6) (vwn (gosF (-1) S kk) 51 24) le_3 ((gosF (-1) S kk) 32) (bitF (gosF (-1) S kk)) ((gosF (-1) S kk) 0) ((gosF (-1) S kk) 1) t ((gosF (-1) S kk) 33) (-1) (raF (-1) S (nI 0) kk)]) ro
    refine ev_lret hC hR rfl dX11_mean_33 ?_
    have er : meanR S (nI kk) part = (ptF (grN (gosF (-1) S kk) (sn S 32)) (sn S 32) part) := by
      rw [meanR, hpn_kk, ptF]
      by_cases hp1 : nI 0 ≤ part ∧ part ≤ nI 1
      · by_cases hz : sn S 32 = 0
        · rw [if_neg (fun z => z.2 hz), if_neg (fun z => by have := z.2; omega)]
        · rw [if_pos ⟨⟨by assumption, hp1⟩, hz⟩, if_pos ⟨hp1, by omega⟩]
      · rw [if_neg (fun z => hp1 z.1.2), if_neg (fun z => hp1 z.1)]
    exact ⟨_, _, _, _, _, _, _, by rw [er], rfl, rfl⟩
  · refine ev_ldc2 (v := -9223372036854775808) hC dX11_mean_10 (ft_in 861 (by decide +kernel) rfl) ?_
    refine ev_lret hC hR rfl dX11_mean_13 ?_
    have er : meanR S y part = NOL := by rw [meanR]; exact if_neg (fun z => absurd z.1.1 (by assumption))
    exact ⟨_, _, _, _, _, _, _, by rw [er]; rfl, rfl, rfl⟩

set_option maxHeartbeats 4000000 in
set_option maxRecDepth 100000 in
theorem m_X11_chips (G : GG) (ro : va_W) (x : Nat) (r1 r2 r3 r4 r5 d b1 b2 b3 : Nat → Nat) (hi : Int32) (S tk le T tk3 le3 : Nat → Int32) (os os3 : Nat → Option Nat) (t t3 : Nat) (wa st3 wa3 : Int32) (y : Int32) (hW : WF S 9999 9999) (hO : MoOK G ro (r5 0) S os t)  : Mth G M_X11_chips 8 0 0 [.ref x, .int y] (List.flatten [SP x r1 r2 r3 r4 r5 d b1 b2 b3 hi, MO G b1 (vwn S 2 6) tk os (vwn S 14 6) (vwn S 20 6) (vwn S 26 6) (vwn S 51 24) le (S 32) (bitF S) (S 0) (S 1) t (S 33) (-1) wa, MO G b3 (vwn T 2 6) tk3 os3 (vwn T 14 6) (vwn T 20 6) (vwn T 26 6) (vwn T 51 24) le3 (T 32) (bitF T) (T 0) (T 1) t3 (T 33) st3 wa3]) ro (fun r ws' ro' => ∃ (T' : Nat → Int32), ∃ (tk3' : Nat → Int32), ∃ (le3' : Nat → Int32), ∃ (os3' : Nat → Option Nat), ∃ (t3' : Nat), ∃ (st3' : Int32), ∃ (wa3' : Int32), r = some (.int (chipsR S y)) ∧ ws' = (List.flatten [SP x r1 r2 r3 r4 r5 d b1 b2 b3 hi, MO G b1 (vwn S 2 6) tk os (vwn S 14 6) (vwn S 20 6) (vwn S 26 6) (vwn S 51 24) le (S 32) (bitF S) (S 0) (S 1) t (S 33) (-1) wa, MO G b3 (vwn T' 2 6) tk3' os3' (vwn T' 14 6) (vwn T' 20 6) (vwn T' 26 6) (vwn T' 51 24) le3' (T' 32) (bitF T') (T' 0) (T' 1) t3' (T' 33) st3' wa3']) ∧ ro = ro') := by
  refine mth_of (by decide +kernel) (Nat.le_of_ble_eq_true rfl) (fun X hC hR => ?_)
  have b32 := hW.peo.le
  show Ev G X 0 0 0 [(0, .ref x), (1, .int y)] [] (List.flatten [SP x r1 r2 r3 r4 r5 d b1 b2 b3 hi, MO G b1 (vwn S 2 6) tk os (vwn S 14 6) (vwn S 20 6) (vwn S 26 6) (vwn S 51 24) le (S 32) (bitF S) (S 0) (S 1) t (S 33) (-1) wa, MO G b3 (vwn T 2 6) tk3 os3 (vwn T 14 6) (vwn T 20 6) (vwn T 26 6) (vwn T 51 24) le3 (T 32) (bitF T) (T 0) (T 1) t3 (T 33) st3 wa3]) ro
  refine ev_iload_n hC dX11_chips_0 rfl 1 rfl ?_
  refine ev_iconst (v := (nI 1)) hC dX11_chips_1 (by decide) ?_
  refine ev_bipush (v := (nI 60)) hC dX11_chips_2 (by decide) ?_
  refine ev_callS (As := [.int y, .int (nI 1), .int (nI 60)]) (st := []) (wc := []) (wf := (List.flatten [SP x r1 r2 r3 r4 r5 d b1 b2 b3 hi, MO G b1 (vwn S 2 6) tk os (vwn S 14 6) (vwn S 20 6) (vwn S 26 6) (vwn S 51 24) le (S 32) (bitF S) (S 0) (S 1) t (S 33) (-1) wa, MO G b3 (vwn T 2 6) tk3 os3 (vwn T 14 6) (vwn T 20 6) (vwn T 26 6) (vwn T 51 24) le3 (T 32) (bitF T) (T 0) (T 1) t3 (T 33) st3 wa3])) hC ct_X11_68 (m_X11_isWithin G ro y (nI 1) (nI 60)) (by omega) rfl rfl (Nat.le_of_ble_eq_true rfl) (List.Perm.refl _) dX11_chips_4 (by omega) (by omega) ?_
  rintro _ _ _ ⟨rfl, rfl, rfl⟩
  refine ev_ws (List.nil_append _) ?_
  show Ev G X 0 0 7 [(0, .ref x), (1, .int y)] [.int (bI ((nI 1) ≤ y ∧ y ≤ (nI 60)))] (List.flatten [SP x r1 r2 r3 r4 r5 d b1 b2 b3 hi, MO G b1 (vwn S 2 6) tk os (vwn S 14 6) (vwn S 20 6) (vwn S 26 6) (vwn S 51 24) le (S 32) (bitF S) (S 0) (S 1) t (S 33) (-1) wa, MO G b3 (vwn T 2 6) tk3 os3 (vwn T 14 6) (vwn T 20 6) (vwn T 26 6) (vwn T 51 24) le3 (T 32) (bitF T) (T 0) (T 1) t3 (T 33) st3 wa3]) ro
  refine ev_if_eqB (tgt := 21) hC dX11_chips_7 (by decide) (fun c_1 => ?_) (fun c_1 => ?_)
  · refine ev_bipush (v := (-2)) hC dX11_chips_21 (by decide) ?_
    refine ev_iret hC hR rfl dX11_chips_23 ?_
    have er : chipsR S y = (-2) := by rw [chipsR, if_neg (by assumption)]
    exact ⟨_, _, _, _, _, _, _, by rw [er], rfl, rfl⟩
  · obtain ⟨kk, hkk, rfl⟩ := inN (m := 60) (by omega) ⟨Int32.le_trans (by decide) (And.left (by assumption : nI 1 ≤ y ∧ y ≤ nI 60)), And.right (by assumption : nI 1 ≤ y ∧ y ≤ nI 60)⟩
    have hpn_kk : pn (nI kk) = kk := nI_clamp (by omega)
    have h1_kk : 1 ≤ kk := (nI_leI (by omega) (by omega)).mp (And.left (by assumption : nI 1 ≤ nI kk ∧ nI kk ≤ nI 60))
    refine ev_aload_n hC dX11_chips_10 rfl 0 rfl ?_
    refine ev_iload_n hC dX11_chips_11 rfl 1 rfl ?_
    refine ev_callV (As := [.int (nI kk)]) (st := []) (wf := (List.flatten [])) hC cv_X11_188 (m_X11_after G ro x r1 r2 r3 r4 r5 d b1 b2 b3 hi S tk le T tk3 le3 os os3 t t3 wa st3 wa3 kk hW hO (by omega) (by omega) (by omega)) (by omega) rfl rfl (Nat.le_of_ble_eq_true rfl) (perm_sg (n := 3) [0, 1, 2] rfl rfl (by decide)) (mw 0 rfl) rfl dX11_chips_12 (by omega) (by omega) ?_
    rintro _ _ _ ⟨tk_2, le_3, hK_4, rfl, rfl, rfl⟩
    show Ev G X 0 0 15 [(0, .ref x), (1, .int (nI kk))] [.ref (b3 0)] (List.flatten [SP x r1 r2 r3 r4 r5 d b1 b2 b3 hi, MO G b1 (vwn S 2 6) tk os (vwn S 14 6) (vwn S 20 6) (vwn S 26 6) (vwn S 51 24) le (S 32) (bitF S) (S 0) (S 1) t (S 33) (-1) wa, MO G b3 (vwn (gosF (-1) S kk) 2 6) tk_2 (cpO 6 os os3) (vwn (gosF (-1) S kk) 14 6) (vwn (gosF (-1) S kk) 20 6) (vwn (gosF (-1) S kk) 26 6) (vwn (gosF (-1) S kk) 51 24) le_3 ((gosF (-1) S kk) 32) (bitF (gosF (-1) S kk)) ((gosF (-1) S kk) 0) ((gosF (-1) S kk) 1) t ((gosF (-1) S kk) 33) (-1) (raF (-1) S (nI 0) kk)]) ro
    have hO_5 := hO.os hW (os' := cpO 6 os os3) (fun p hp => if_pos hp)
    refine ev_get hC fl_X11_235_3 (mw 10 rfl) rfl dX11_chips_15 ?_
    refine ev_goto (tgt := 23) hC dX11_chips_18 (by decide) ?_
    refine ev_iret hC hR rfl dX11_chips_23 ?_
    have er : chipsR S (nI kk) = (raF (-1) S (nI 0) kk) := by rw [chipsR, if_pos (by assumption), hpn_kk]
    exact ⟨_, _, _, _, _, _, _, by rw [er], rfl, rfl⟩

set_option maxHeartbeats 4000000 in
set_option maxRecDepth 100000 in
theorem m_X11_looked (G : GG) (ro : va_W) (x : Nat) (r1 r2 r3 r4 r5 d b1 b2 b3 : Nat → Nat) (hi : Int32) (S tk le T tk3 le3 : Nat → Int32) (os os3 : Nat → Option Nat) (t t3 : Nat) (wa st3 wa3 : Int32)  (k3 g1 g2 g3 : Nat → Int32) (gc : Int32) (hW : WF S 9999 9999) (hO : MoOK G ro (r5 0) S os t)  : Mth G M_X11_looked 8 0 0 [.ref x] (List.flatten [SP x r1 r2 r3 r4 r5 d b1 b2 b3 hi, RW G r4 8 (vwn S 106 8) (vwn S 114 8) k3 (nI (sn S 36)) g1 g2 g3 gc, MO G b1 (vwn S 2 6) tk os (vwn S 14 6) (vwn S 20 6) (vwn S 26 6) (vwn S 51 24) le (S 32) (bitF S) (S 0) (S 1) t (S 33) (-1) wa]) ro (fun r ws' ro' => r = some (.int (lookedR S)) ∧ ws' = (List.flatten [SP x r1 r2 r3 r4 r5 d b1 b2 b3 hi, RW G r4 8 (vwn S 106 8) (vwn S 114 8) k3 (nI (sn S 36)) g1 g2 g3 gc, MO G b1 (vwn S 2 6) tk os (vwn S 14 6) (vwn S 20 6) (vwn S 26 6) (vwn S 51 24) le (S 32) (bitF S) (S 0) (S 1) t (S 33) (-1) wa]) ∧ ro = ro') := by
  refine mth_of (by decide +kernel) (Nat.le_of_ble_eq_true rfl) (fun X hC hR => ?_)
  have b32 := hW.peo.le
  have b36 := hW.book.le
  show Ev G X 0 0 0 [(0, .ref x)] [] (List.flatten [SP x r1 r2 r3 r4 r5 d b1 b2 b3 hi, RW G r4 8 (vwn S 106 8) (vwn S 114 8) k3 (nI (sn S 36)) g1 g2 g3 gc, MO G b1 (vwn S 2 6) tk os (vwn S 14 6) (vwn S 20 6) (vwn S 26 6) (vwn S 51 24) le (S 32) (bitF S) (S 0) (S 1) t (S 33) (-1) wa]) ro
  refine ev_iconst (v := (nI 0)) hC dX11_looked_0 (by decide) ?_
  refine ev_istore_n (lv' := [(1, .int (nI 0)), (0, .ref x)]) hC dX11_looked_1 rfl (by decide) rfl ?_
  have lp_2 : ∀ (fu_2 : Nat) (i : Nat) (hii : i ≤ sn S 36) (hb : lookF S (sn S 36) 0 = lookF S (sn S 36 - i) i) (hn : sn S 36 - i < fu_2), Ev G X 0 0 2 [(0, .ref x), (1, .int (nI i))] [] (List.flatten [SP x r1 r2 r3 r4 r5 d b1 b2 b3 hi, RW G r4 8 (vwn S 106 8) (vwn S 114 8) k3 (nI (sn S 36)) g1 g2 g3 gc, MO G b1 (vwn S 2 6) tk os (vwn S 14 6) (vwn S 20 6) (vwn S 26 6) (vwn S 51 24) le (S 32) (bitF S) (S 0) (S 1) t (S 33) (-1) wa]) ro := by
    intro fu_2
    induction fu_2 with
    | zero => intro i hii hb hn; exact absurd hn (Nat.not_lt_zero _)
    | succ fu_2 ih =>
      intro i hii hb hn
      refine ev_iload_n hC dX11_looked_2 rfl 1 rfl ?_
      refine ev_aload_n hC dX11_looked_3 rfl 0 rfl ?_
      refine ev_get hC fl_X11_26_11 (mw 0 rfl) rfl dX11_looked_4 ?_
      refine ev_callV (As := []) (st := [.int (nI i)]) (wf := (List.flatten [SP x r1 r2 r3 r4 r5 d b1 b2 b3 hi, MO G b1 (vwn S 2 6) tk os (vwn S 14 6) (vwn S 20 6) (vwn S 26 6) (vwn S 51 24) le (S 32) (bitF S) (S 0) (S 1) t (S 33) (-1) wa])) hC cv_X11_242 (m_X7_kept G ro r4 8 (sn S 36) (vwn S 106 8) (vwn S 114 8) k3 g1 g2 g3 gc (by omega) (by omega)) (by omega) rfl rfl (Nat.le_of_ble_eq_true rfl) (perm_sg (n := 3) [1, 0, 2] rfl rfl (by decide)) (mw 1 rfl) rfl dX11_looked_7 (by omega) (by omega) ?_
      rintro _ _ _ ⟨rfl, rfl, rfl⟩
      show Ev G X 0 0 10 [(0, .ref x), (1, .int (nI i))] [.int (nI (min (sn S 36) 8)), .int (nI i)] (List.flatten [RW G r4 8 (vwn S 106 8) (vwn S 114 8) k3 (nI (sn S 36)) g1 g2 g3 gc, SP x r1 r2 r3 r4 r5 d b1 b2 b3 hi, MO G b1 (vwn S 2 6) tk os (vwn S 14 6) (vwn S 20 6) (vwn S 26 6) (vwn S 51 24) le (S 32) (bitF S) (S 0) (S 1) t (S 33) (-1) wa]) ro
      refine ev_perm (ws' := (List.flatten [SP x r1 r2 r3 r4 r5 d b1 b2 b3 hi, RW G r4 8 (vwn S 106 8) (vwn S 114 8) k3 (nI (sn S 36)) g1 g2 g3 gc, MO G b1 (vwn S 2 6) tk os (vwn S 14 6) (vwn S 20 6) (vwn S 26 6) (vwn S 51 24) le (S 32) (bitF S) (S 0) (S 1) t (S 33) (-1) wa])) (perm_sg2 (n := 3) [1, 0, 2] rfl rfl (by decide)) ?_
      refine ev_top (y := (nI (sn S 36))) (congrArg nI (by omega)) ?_
      refine ev_icmp_geN (tgt := 49) hC dX11_looked_10 (by decide) (by omega) (by omega) (fun c_1 => ?_) (fun c_1 => ?_)
      · refine ev_bipush (v := (-5)) hC dX11_looked_49 (by decide) ?_
        refine ev_iret hC hR rfl dX11_looked_51 ?_
        have er : lookedR S = -5 := by rw [lookedR, hb, show sn S 36 - i = 0 by omega]; rfl
        exact ⟨by rw [er], rfl, rfl⟩
      · refine ev_aload_n hC dX11_looked_13 rfl 0 rfl ?_
        refine ev_get hC fl_X11_58_11 (mw 0 rfl) rfl dX11_looked_14 ?_
        refine ev_aload_n hC dX11_looked_17 rfl 0 rfl ?_
        refine ev_get hC fl_X11_26_11 (mw 0 rfl) rfl dX11_looked_18 ?_
        refine ev_get hC fl_X11_244_7 (mw 1 rfl) rfl dX11_looked_21 ?_
        refine ev_iload_n hC dX11_looked_24 rfl 1 rfl ?_
        refine ev_ialdN (i := i) hC (mw 2 rfl) (by omega) (by omega) dX11_looked_25 ?_
        refine ev_top (y := (S (106 + i))) (vwn_at (by omega)) ?_
        have bk_2 : NB S (106 + i) _ := (hW.bside i (by omega))
        have k_2 := bk_2.eq
        have lk_2 := bk_2.le
        have mk_2 := bk_2.lt
        refine ev_top (y := (nI (sn S (106 + i)))) k_2 ?_
        have hbs := (hW.bside i (by omega)).le
        refine ev_callV (As := [.int (nI (sn S (106 + i)))]) (st := []) (wf := (List.flatten [SP x r1 r2 r3 r4 r5 d b1 b2 b3 hi, RW G r4 8 (vwn S 106 8) (vwn S 114 8) k3 (nI (sn S 36)) g1 g2 g3 gc])) hC cv_X11_254 (m_X3_saltAt G ro b1 S tk le os t (r5 0) (-1) wa (sn S (106 + i))  hW (by omega)) (by omega) rfl rfl (Nat.le_of_ble_eq_true rfl) (perm_sg (n := 3) [2, 0, 1] rfl rfl (by decide)) (mw 8 rfl) rfl dX11_looked_26 (by omega) (by omega) ?_
        rintro _ _ _ ⟨rfl, rfl, rfl⟩
        show Ev G X 0 0 29 [(0, .ref x), (1, .int (nI i))] [.int (S (2 + sn S (106 + i)))] (List.flatten [MO G b1 (vwn S 2 6) tk os (vwn S 14 6) (vwn S 20 6) (vwn S 26 6) (vwn S 51 24) le (S 32) (bitF S) (S 0) (S 1) t (S 33) (-1) wa, SP x r1 r2 r3 r4 r5 d b1 b2 b3 hi, RW G r4 8 (vwn S 106 8) (vwn S 114 8) k3 (nI (sn S 36)) g1 g2 g3 gc]) ro
        refine ev_perm (ws' := (List.flatten [SP x r1 r2 r3 r4 r5 d b1 b2 b3 hi, RW G r4 8 (vwn S 106 8) (vwn S 114 8) k3 (nI (sn S 36)) g1 g2 g3 gc, MO G b1 (vwn S 2 6) tk os (vwn S 14 6) (vwn S 20 6) (vwn S 26 6) (vwn S 51 24) le (S 32) (bitF S) (S 0) (S 1) t (S 33) (-1) wa])) (perm_sg2 (n := 3) [1, 2, 0] rfl rfl (by decide)) ?_
        have bk_3 : NB S (2 + sn S (106 + i)) _ := ((hW.salt (sn S (106 + i)) (by omega)).congr (congrArg S (by omega)))
        have k_3 := bk_3.eq
        have lk_3 := bk_3.le
        have mk_3 := bk_3.lt
        refine ev_top (y := (nI (sn S (2 + sn S (106 + i))))) k_3 ?_
        refine ev_aload_n hC dX11_looked_29 rfl 0 rfl ?_
        refine ev_get hC fl_X11_26_11 (mw 0 rfl) rfl dX11_looked_30 ?_
        refine ev_get hC fl_X11_247_7 (mw 1 rfl) rfl dX11_looked_33 ?_
        refine ev_iload_n hC dX11_looked_36 rfl 1 rfl ?_
        refine ev_ialdN (i := i) hC (mw 3 rfl) (by omega) (by omega) dX11_looked_37 ?_
        refine ev_top (y := (S (114 + i))) (vwn_at (by omega)) ?_
        have bk_4 : NB S (114 + i) _ := (hW.bsalt i (by omega))
        have k_4 := bk_4.eq
        have lk_4 := bk_4.le
        have mk_4 := bk_4.lt
        refine ev_top (y := (nI (sn S (114 + i)))) k_4 ?_
        refine ev_icmp_eqN (tgt := 43) hC dX11_looked_38 (by decide) (by omega) (by omega) (fun c_5 => ?_) (fun c_5 => ?_)
        · refine ev_iinc (v := (nI (i + 1))) (lv' := [(1, .int (nI (i + 1))), (0, .ref x)]) hC dX11_looked_43 (q := 1) rfl (nI_k _ _ 1 (by decide)) (by decide) rfl ?_
          refine ev_goto (tgt := 2) hC dX11_looked_46 (by decide) ?_
          refine ev_lv [1, 0] rfl ?_
          exact ih (i + 1) (by omega) (by rw [hb, look_f (by omega) (by assumption), show sn S 36 - (i + 1) = sn S 36 - i - 1 by omega]) (by omega)
        · refine ev_iload_n hC dX11_looked_41 rfl 1 rfl ?_
          refine ev_iret hC hR rfl dX11_looked_42 ?_
          have er : lookedR S = nI i := by rw [lookedR, hb]; exact look_t (by omega) (by assumption)
          exact ⟨by rw [er], rfl, rfl⟩
  refine ev_lv [1, 0] rfl ?_
  exact lp_2 (sn S 36 - 0 + 1) 0 (by omega) rfl (Nat.lt_succ_self _)
