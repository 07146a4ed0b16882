set_option maxHeartbeats 4000000 in
set_option maxRecDepth 100000 in
theorem m_X11_treaty (G : GG) (ro : va_W) (x : Nat) (r1 r2 r3 r4 r5 d b1 b2 b3 : Nat → Nat) (hi : Int32) (S tk le T tk3 le3 : Nat → Int32) (os os3 : Nat → Option Nat) (t t3 : Nat) (wa st3 wa3 : Int32) (U sg am en sp : Nat → Int32) (sz ap ju sd rn nd : Int32) (a2 a3 ag1 ag2 ag3 : Nat → Int32) (agc : Int32) (hW : WF S 9999 9999) (hO : MoOK G ro (r5 0) S os t) (hU : treT S U) : Mth G M_X11_treaty 20 4 305 [.ref x] (List.flatten [SP x r1 r2 r3 r4 r5 d b1 b2 b3 hi, RD G d sg am en sp sz ap ju sd rn nd, RW G r1 100 (vwn S 122 100) a2 a3 (nI (sn S 37)) ag1 ag2 ag3 agc, MO G b1 (vwn S 2 6) tk os (vwn S 14 6) (vwn S 20 6) (vwn S 26 6) (vwn S 51 24) le (S 32) (bitF S) (S 0) (S 1) t (S 33) (-1) wa]) ro (fun r ws' ro' => ∃ (sg' : Nat → Int32), ∃ (am' : Nat → Int32), ∃ (en' : Nat → Int32), ∃ (sp' : Nat → Int32), ∃ (sz' : Int32), ∃ (ap' : Int32), ∃ (ju' : Int32), ∃ (sd' : Int32), ∃ (rn' : Int32), ∃ (nd' : Int32), ∃ (t' : Nat), r = some (.int (treR S)) ∧ ws' = (List.flatten [SP x r1 r2 r3 r4 r5 d b1 b2 b3 hi, RD G d sg' am' en' sp' sz' ap' ju' sd' rn' nd', RW G r1 100 (vwn U 122 100) a2 a3 (nI (sn U 37)) ag1 ag2 ag3 agc, MO G b1 (vwn U 2 6) tk os (vwn U 14 6) (vwn U 20 6) (vwn U 26 6) (vwn U 51 24) le (U 32) (bitF U) (U 0) (U 1) t' (U 33) (-1) wa]) ∧ Sub ro ro' ∧ MoOK G ro' (r5 0) U os t') := by
  refine mth_of (by decide +kernel) (Nat.le_of_ble_eq_true rfl) (fun X hC hR => ?_)
  have b32 := hW.peo.le
  have he := hW.tape.le
  have b33 := hW.tre.le
  obtain ⟨-, tg2, -, tg4, tg5, tg6, -⟩ := treG_p (tapF S) (sn S 37)
  show Ev G X 4 305 0 [(0, .ref x)] [] (List.flatten [SP x r1 r2 r3 r4 r5 d b1 b2 b3 hi, RD G d sg am en sp sz ap ju sd rn nd, RW G r1 100 (vwn S 122 100) a2 a3 (nI (sn S 37)) ag1 ag2 ag3 agc, MO G b1 (vwn S 2 6) tk os (vwn S 14 6) (vwn S 20 6) (vwn S 26 6) (vwn S 51 24) le (S 32) (bitF S) (S 0) (S 1) t (S 33) (-1) wa]) ro
  refine ev_aload_n hC dX11_treaty_0 rfl 0 rfl ?_
  refine ev_get hC fl_X11_58_11 (mw 0 rfl) rfl dX11_treaty_1 ?_
  refine ev_get hC fl_X11_80_3 (mw 13 rfl) rfl dX11_treaty_4 ?_
  have bk_1 : NB S 33 _ := hW.tre
  have k_1 := bk_1.eq
  have lk_1 := bk_1.le
  have mk_1 := bk_1.lt
  refine ev_top (y := (nI (sn S 33))) k_1 ?_
  refine ev_iconst (v := (nI 5)) hC dX11_treaty_7 (by decide) ?_
  refine ev_icmp_ltN (tgt := 14) hC dX11_treaty_8 (by decide) (by omega) (by omega) (fun c_2 => ?_) (fun c_2 => ?_)
  · refine ev_aload_n hC dX11_treaty_14 rfl 0 rfl ?_
    refine ev_get hC fl_X11_35_11 (mw 0 rfl) rfl dX11_treaty_15 ?_
    refine ev_aload_n hC dX11_treaty_18 rfl 0 rfl ?_
    refine ev_get hC fl_X11_16_11 (mw 0 rfl) rfl dX11_treaty_19 ?_
    refine ev_callV (As := [.ref (r1 0)]) (st := []) (wf := (List.flatten [SP x r1 r2 r3 r4 r5 d b1 b2 b3 hi, MO G b1 (vwn S 2 6) tk os (vwn S 14 6) (vwn S 20 6) (vwn S 26 6) (vwn S 51 24) le (S 32) (bitF S) (S 0) (S 1) t (S 33) (-1) wa])) hC cv_X11_84 (m_X6_faultIn G ro d r1 sg am en sp (vwn S 122 100) a2 a3 ag1 ag2 ag3 (tapF S) sz ap ju sd rn nd agc (sn S 37) (tap_sg hW) (fun i hi => vwn_at (by omega))) (by omega) rfl rfl (Nat.le_of_ble_eq_true rfl) (perm_sg (n := 4) [1, 2, 0, 3] rfl rfl (by decide)) (mw 1 rfl) rfl dX11_treaty_22 (by omega) (by omega) ?_
    rintro _ _ _ ⟨sg1, am1, en1, sp1, ap1, ju1, sd1, rn1, nd1, _, ⟨rfl, gk, ge, hC⟩ | ⟨rfl, hg⟩, rfl, rfl, rfl⟩
    · show Ev G X 4 305 25 [(0, .ref x)] [.int (-1)] (List.flatten [RD G d sg1 am1 en1 sp1 (nI (sn S 37)) ap1 ju1 sd1 rn1 nd1, RW G r1 100 (vwn S 122 100) a2 a3 (nI (sn S 37)) ag1 ag2 ag3 agc, SP x r1 r2 r3 r4 r5 d b1 b2 b3 hi, MO G b1 (vwn S 2 6) tk os (vwn S 14 6) (vwn S 20 6) (vwn S 26 6) (vwn S 51 24) le (S 32) (bitF S) (S 0) (S 1) t (S 33) (-1) wa]) ro
      refine ev_perm (ws' := (List.flatten [SP x r1 r2 r3 r4 r5 d b1 b2 b3 hi, RD G d sg1 am1 en1 sp1 (nI (sn S 37)) ap1 ju1 sd1 rn1 nd1, RW G r1 100 (vwn S 122 100) a2 a3 (nI (sn S 37)) ag1 ag2 ag3 agc, MO G b1 (vwn S 2 6) tk os (vwn S 14 6) (vwn S 20 6) (vwn S 26 6) (vwn S 51 24) le (S 32) (bitF S) (S 0) (S 1) t (S 33) (-1) wa])) (perm_sg2 (n := 4) [2, 0, 1, 3] rfl rfl (by decide)) ?_
      obtain ⟨rfl, rfl, rfl, rfl, hA, hE, hS, -⟩ := hC
      refine ev_istore_n (lv' := [(1, .int (-1)), (0, .ref x)]) hC dX11_treaty_25 rfl (by decide) rfl ?_
      refine ev_aload_n hC dX11_treaty_26 rfl 1 rfl ?_
      refine ev_get hC fl_X11_16_11 (mw 0 rfl) rfl dX11_treaty_27 ?_
      refine ev_callV (As := []) (st := []) (wf := (List.flatten [SP x r1 r2 r3 r4 r5 d b1 b2 b3 hi, RD G d sg1 am1 en1 sp1 (nI (sn S 37)) ap1 (nI ((cvA (treG (tapF S) (sn S 37)).2.2.2.2).length)) (nI ((cvS (treG (tapF S) (sn S 37)).2.2.2.2).length)) (nI ((treG (tapF S) (sn S 37)).2.2.1)) (nI ((treG (tapF S) (sn S 37)).2.2.2.1)), MO G b1 (vwn S 2 6) tk os (vwn S 14 6) (vwn S 20 6) (vwn S 26 6) (vwn S 51 24) le (S 32) (bitF S) (S 0) (S 1) t (S 33) (-1) wa])) hC cv_X11_88 (m_X7_clear G ro r1 100 (vwn S 122 100) a2 a3 ag1 ag2 ag3 (nI (sn S 37)) agc) (by omega) rfl rfl (Nat.le_of_ble_eq_true rfl) (perm_sg (n := 4) [2, 0, 1, 3] rfl rfl (by decide)) (mw 6 rfl) rfl dX11_treaty_30 (by omega) (by omega) ?_
      rintro _ _ _ ⟨rfl, rfl, rfl⟩
      show Ev G X 4 305 33 [(1, .int (-1)), (0, .ref x)] [.int (nI 0)] (List.flatten [RW G r1 100 (vwn S 122 100) a2 a3 (nI 0) ag1 ag2 ag3 agc, SP x r1 r2 r3 r4 r5 d b1 b2 b3 hi, RD G d sg1 am1 en1 sp1 (nI (sn S 37)) ap1 (nI ((cvA (treG (tapF S) (sn S 37)).2.2.2.2).length)) (nI ((cvS (treG (tapF S) (sn S 37)).2.2.2.2).length)) (nI ((treG (tapF S) (sn S 37)).2.2.1)) (nI ((treG (tapF S) (sn S 37)).2.2.2.1)), MO G b1 (vwn S 2 6) tk os (vwn S 14 6) (vwn S 20 6) (vwn S 26 6) (vwn S 51 24) le (S 32) (bitF S) (S 0) (S 1) t (S 33) (-1) wa]) ro
      refine ev_perm (ws' := (List.flatten [SP x r1 r2 r3 r4 r5 d b1 b2 b3 hi, RD G d sg1 am1 en1 sp1 (nI (sn S 37)) ap1 (nI ((cvA (treG (tapF S) (sn S 37)).2.2.2.2).length)) (nI ((cvS (treG (tapF S) (sn S 37)).2.2.2.2).length)) (nI ((treG (tapF S) (sn S 37)).2.2.1)) (nI ((treG (tapF S) (sn S 37)).2.2.2.1)), RW G r1 100 (vwn S 122 100) a2 a3 (nI 0) ag1 ag2 ag3 agc, MO G b1 (vwn S 2 6) tk os (vwn S 14 6) (vwn S 20 6) (vwn S 26 6) (vwn S 51 24) le (S 32) (bitF S) (S 0) (S 1) t (S 33) (-1) wa])) (perm_sg2 (n := 4) [1, 2, 0, 3] rfl rfl (by decide)) ?_
      refine ev_pop hC dX11_treaty_33 rfl ?_
      refine ev_iload_n hC dX11_treaty_34 rfl 0 rfl ?_
      refine ev_if_lt (tgt := 43) hC dX11_treaty_35 (by decide) (fun c_3 => ?_) (fun c_3 => absurd c_3 (by decide))
      refine ev_aload_n hC dX11_treaty_43 rfl 1 rfl ?_
      refine ev_get hC fl_X11_58_11 (mw 0 rfl) rfl dX11_treaty_44 ?_
      refine ev_aload_n hC dX11_treaty_47 rfl 1 rfl ?_
      have tg7 := tg6 gk
      refine ev_get hC fl_X11_35_11 (mw 0 rfl) rfl dX11_treaty_48 ?_
      refine ev_callV (As := []) (st := [.ref (b1 0)]) (wf := (List.flatten [SP x r1 r2 r3 r4 r5 d b1 b2 b3 hi, RW G r1 100 (vwn S 122 100) a2 a3 (nI 0) ag1 ag2 ag3 agc, MO G b1 (vwn S 2 6) tk os (vwn S 14 6) (vwn S 20 6) (vwn S 26 6) (vwn S 51 24) le (S 32) (bitF S) (S 0) (S 1) t (S 33) (-1) wa])) hC cv_X11_92 (m_X6_treatyRead G ro d sg1 am1 en1 sp1 (nI (sn S 37)) ap1 (treG (tapF S) (sn S 37)).2.2.1 (treG (tapF S) (sn S 37)).2.2.2.1 (treG (tapF S) (sn S 37)).2.2.2.2 hA hE hS (by omega) (treG_1 _ _) (by omega) (by omega)) (by omega) rfl rfl (Nat.le_of_ble_eq_true rfl) (perm_sg (n := 4) [1, 0, 2, 3] rfl rfl (by decide)) (mw 1 rfl) rfl dX11_treaty_51 (by omega) (by omega) ?_
      rintro _ _ ro ⟨q_4, rfl, rfl, hs_5, hp_6⟩
      show Ev G X 0 0 54 [(1, .int (-1)), (0, .ref x)] [.ref q_4, .ref (b1 0)] (List.flatten [RD G d sg1 am1 en1 sp1 (nI (sn S 37)) ap1 (nI ((cvA (treG (tapF S) (sn S 37)).2.2.2.2).length)) (nI ((cvS (treG (tapF S) (sn S 37)).2.2.2.2).length)) (nI ((treG (tapF S) (sn S 37)).2.2.1)) (nI ((treG (tapF S) (sn S 37)).2.2.2.1)), SP x r1 r2 r3 r4 r5 d b1 b2 b3 hi, RW G r1 100 (vwn S 122 100) a2 a3 (nI 0) ag1 ag2 ag3 agc, MO G b1 (vwn S 2 6) tk os (vwn S 14 6) (vwn S 20 6) (vwn S 26 6) (vwn S 51 24) le (S 32) (bitF S) (S 0) (S 1) t (S 33) (-1) wa]) ro
      refine ev_perm (ws' := (List.flatten [SP x r1 r2 r3 r4 r5 d b1 b2 b3 hi, RD G d sg1 am1 en1 sp1 (nI (sn S 37)) ap1 (nI ((cvA (treG (tapF S) (sn S 37)).2.2.2.2).length)) (nI ((cvS (treG (tapF S) (sn S 37)).2.2.2.2).length)) (nI ((treG (tapF S) (sn S 37)).2.2.1)) (nI ((treG (tapF S) (sn S 37)).2.2.2.1)), RW G r1 100 (vwn S 122 100) a2 a3 (nI 0) ag1 ag2 ag3 agc, MO G b1 (vwn S 2 6) tk os (vwn S 14 6) (vwn S 20 6) (vwn S 26 6) (vwn S 51 24) le (S 32) (bitF S) (S 0) (S 1) t (S 33) (-1) wa])) (perm_sg2 (n := 4) [1, 0, 2, 3] rfl rfl (by decide)) ?_
      have hO := hO.sub hs_5
      refine ev_put (ws' := (List.flatten [SP x r1 r2 r3 r4 r5 d b1 b2 b3 hi, RD G d sg1 am1 en1 sp1 (nI (sn S 37)) ap1 (nI ((cvA (treG (tapF S) (sn S 37)).2.2.2.2).length)) (nI ((cvS (treG (tapF S) (sn S 37)).2.2.2.2).length)) (nI ((treG (tapF S) (sn S 37)).2.2.1)) (nI ((treG (tapF S) (sn S 37)).2.2.2.1)), RW G r1 100 (vwn S 122 100) a2 a3 (nI 0) ag1 ag2 ag3 agc, MO G b1 (vwn S 2 6) tk os (vwn S 14 6) (vwn S 20 6) (vwn S 26 6) (vwn S 51 24) le (S 32) (bitF S) (S 0) (S 1) q_4 (S 33) (-1) wa])) (q0 := 13) hC fp_X11_96_3 rfl (Nat.le_of_ble_eq_true rfl) rfl rfl rfl dX11_treaty_54 ?_
      refine ev_aload_n hC dX11_treaty_57 rfl 1 rfl ?_
      refine ev_get hC fl_X11_58_11 (mw 0 rfl) rfl dX11_treaty_58 ?_
      refine ev_dup hC dX11_treaty_61 rfl ?_
      refine ev_get hC fl_X11_80_3 (mw 13 rfl) rfl dX11_treaty_62 ?_
      have bk_7 : NB S 33 _ := hW.tre
      have k_7 := bk_7.eq
      have lk_7 := bk_7.le
      have mk_7 := bk_7.lt
      refine ev_top (y := (nI (sn S 33))) k_7 ?_
      refine ev_iconst (v := (nI 1)) hC dX11_treaty_65 (by decide) ?_
      refine ev_iadd hC dX11_treaty_66 ?_
      refine ev_top (y := (nI (sn S 33 + 1))) ((nI_add _ _).trans (congrArg nI (by omega))) ?_
      refine ev_put (ws' := (List.flatten [SP x r1 r2 r3 r4 r5 d b1 b2 b3 hi, RD G d sg1 am1 en1 sp1 (nI (sn S 37)) ap1 (nI ((cvA (treG (tapF S) (sn S 37)).2.2.2.2).length)) (nI ((cvS (treG (tapF S) (sn S 37)).2.2.2.2).length)) (nI ((treG (tapF S) (sn S 37)).2.2.1)) (nI ((treG (tapF S) (sn S 37)).2.2.2.1)), RW G r1 100 (vwn S 122 100) a2 a3 (nI 0) ag1 ag2 ag3 agc, MO G b1 (vwn S 2 6) tk os (vwn S 14 6) (vwn S 20 6) (vwn S 26 6) (vwn S 51 24) le (S 32) (bitF S) (S 0) (S 1) q_4 (nI (sn S 33 + 1)) (-1) wa])) (q0 := 13) hC fp_X11_80_3 rfl (Nat.le_of_ble_eq_true rfl) rfl rfl rfl dX11_treaty_67 ?_
      refine ev_aload_n hC dX11_treaty_70 rfl 1 rfl ?_
      refine ev_get hC fl_X11_58_11 (mw 0 rfl) rfl dX11_treaty_71 ?_
      refine ev_get hC fl_X11_80_3 (mw 13 rfl) rfl dX11_treaty_74 ?_
      refine ev_iconst (v := (nI 1)) hC dX11_treaty_77 (by decide) ?_
      refine ev_isub hC dX11_treaty_78 ?_
      refine ev_top (y := (nI (sn S 33))) ((pk_sub (by omega)).trans (congrArg nI (by omega))) ?_
      have n5 : ¬ sn S 33 = 5 := by omega
      rw [treT, if_neg n5] at hU
      obtain ⟨hTA, h37, h2⟩ := hU
      have hTA : TrA S U := hTA
      rw [if_pos ⟨gk, ge⟩] at h2
      obtain ⟨h33, h38, hst⟩ := h2
      have hG : Agr 33 1000 S U := fun j hj => hTA j (by omega) (by omega) (by omega) (by omega) (by omega) (by omega) (by omega)
      have hrw : vwn S 51 24 = vwn U 51 24 := vwn_ext fun j hj => (hTA _ (by omega) (by omega) (by omega) (by omega) (by omega) (by omega) (by omega)).symm
      have htp : vwn S 122 100 = vwn U 122 100 := vwn_ext fun j hj => (hTA _ (by omega) (by omega) (by omega) (by omega) (by omega) (by omega) (by omega)).symm
      have c37 : sn U 37 = 0 := sn_of (by omega) h37
      refine ev_ws (ws' := (List.flatten [SP x r1 r2 r3 r4 r5 d b1 b2 b3 hi, RD G d sg1 am1 en1 sp1 (nI (sn S 37)) ap1 (nI ((cvA (treG (tapF S) (sn S 37)).2.2.2.2).length)) (nI ((cvS (treG (tapF S) (sn S 37)).2.2.2.2).length)) (nI ((treG (tapF S) (sn S 37)).2.2.1)) (nI ((treG (tapF S) (sn S 37)).2.2.2.1)), RW G r1 100 (vwn S 122 100) a2 a3 (nI 0) ag1 ag2 ag3 agc, MO G b1 (vwn U 2 6) tk os (vwn U 14 6) (vwn U 20 6) (vwn U 26 6) (vwn U 51 24) le (U 32) (bitF U) (U 0) (U 1) q_4 (U 33) (-1) wa])) (by rw [show (MO G b1 (vwn S 2 6) tk os (vwn S 14 6) (vwn S 20 6) (vwn S 26 6) (vwn S 51 24) le (S 32) (bitF S) (S 0) (S 1) q_4 (nI (sn S 33 + 1)) (-1) wa) = (MO G b1 (vwn U 2 6) tk os (vwn U 14 6) (vwn U 20 6) (vwn U 26 6) (vwn U 51 24) le (U 32) (bitF U) (U 0) (U 1) q_4 (U 33) (-1) wa) from mo_eq (Agr.vw hG (by omega)) rfl rfl (Agr.vw hG (by omega)) (Agr.vw hG (by omega)) (Agr.vw hG (by omega)) hrw rfl (hG _ (by omega)).symm (Agr.bit hG (by omega)) (hG _ (by omega)).symm (hG _ (by omega)).symm h33.symm rfl rfl]) ?_
      refine ev_iret hC hR rfl dX11_treaty_79 ?_
      have eR : treR S = (nI (sn S 33)) := by rw [treR, if_neg n5, if_pos ⟨gk, ge⟩]
      obtain ⟨z1, z2, z3⟩ := tst_tells (by omega) h38 hst tg5 (by omega)
      exact ⟨sg1, am1, en1, sp1, (nI (sn S 37)), ap1, (nI ((cvA (treG (tapF S) (sn S 37)).2.2.2.2).length)), (nI ((cvS (treG (tapF S) (sn S 37)).2.2.2.2).length)), (nI ((treG (tapF S) (sn S 37)).2.2.1)), (nI ((treG (tapF S) (sn S 37)).2.2.2.1)), q_4, by rw [eR], by rw [htp, c37], hs_5, hO.tre hW (by omega) hTA (by rw [z1, z2, z3]; exact hp_6)⟩
    · show Ev G X 4 305 25 [(0, .ref x)] [.int (nI ((treG (tapF S) (sn S 37)).2.1))] (List.flatten [RD G d sg1 am1 en1 sp1 (nI (sn S 37)) ap1 ju1 sd1 rn1 nd1, RW G r1 100 (vwn S 122 100) a2 a3 (nI (sn S 37)) ag1 ag2 ag3 agc, SP x r1 r2 r3 r4 r5 d b1 b2 b3 hi, MO G b1 (vwn S 2 6) tk os (vwn S 14 6) (vwn S 20 6) (vwn S 26 6) (vwn S 51 24) le (S 32) (bitF S) (S 0) (S 1) t (S 33) (-1) wa]) ro
      refine ev_perm (ws' := (List.flatten [SP x r1 r2 r3 r4 r5 d b1 b2 b3 hi, RD G d sg1 am1 en1 sp1 (nI (sn S 37)) ap1 ju1 sd1 rn1 nd1, RW G r1 100 (vwn S 122 100) a2 a3 (nI (sn S 37)) ag1 ag2 ag3 agc, MO G b1 (vwn S 2 6) tk os (vwn S 14 6) (vwn S 20 6) (vwn S 26 6) (vwn S 51 24) le (S 32) (bitF S) (S 0) (S 1) t (S 33) (-1) wa])) (perm_sg2 (n := 4) [2, 0, 1, 3] rfl rfl (by decide)) ?_
      refine ev_istore_n (lv' := [(1, .int (nI ((treG (tapF S) (sn S 37)).2.1))), (0, .ref x)]) hC dX11_treaty_25 rfl (by decide) rfl ?_
      refine ev_aload_n hC dX11_treaty_26 rfl 1 rfl ?_
      refine ev_get hC fl_X11_16_11 (mw 0 rfl) rfl dX11_treaty_27 ?_
      refine ev_callV (As := []) (st := []) (wf := (List.flatten [SP x r1 r2 r3 r4 r5 d b1 b2 b3 hi, RD G d sg1 am1 en1 sp1 (nI (sn S 37)) ap1 ju1 sd1 rn1 nd1, MO G b1 (vwn S 2 6) tk os (vwn S 14 6) (vwn S 20 6) (vwn S 26 6) (vwn S 51 24) le (S 32) (bitF S) (S 0) (S 1) t (S 33) (-1) wa])) hC cv_X11_88 (m_X7_clear G ro r1 100 (vwn S 122 100) a2 a3 ag1 ag2 ag3 (nI (sn S 37)) agc) (by omega) rfl rfl (Nat.le_of_ble_eq_true rfl) (perm_sg (n := 4) [2, 0, 1, 3] rfl rfl (by decide)) (mw 6 rfl) rfl dX11_treaty_30 (by omega) (by omega) ?_
      rintro _ _ _ ⟨rfl, rfl, rfl⟩
      show Ev G X 4 305 33 [(1, .int (nI ((treG (tapF S) (sn S 37)).2.1))), (0, .ref x)] [.int (nI 0)] (List.flatten [RW G r1 100 (vwn S 122 100) a2 a3 (nI 0) ag1 ag2 ag3 agc, SP x r1 r2 r3 r4 r5 d b1 b2 b3 hi, RD G d sg1 am1 en1 sp1 (nI (sn S 37)) ap1 ju1 sd1 rn1 nd1, MO G b1 (vwn S 2 6) tk os (vwn S 14 6) (vwn S 20 6) (vwn S 26 6) (vwn S 51 24) le (S 32) (bitF S) (S 0) (S 1) t (S 33) (-1) wa]) ro
      refine ev_perm (ws' := (List.flatten [SP x r1 r2 r3 r4 r5 d b1 b2 b3 hi, RD G d sg1 am1 en1 sp1 (nI (sn S 37)) ap1 ju1 sd1 rn1 nd1, RW G r1 100 (vwn S 122 100) a2 a3 (nI 0) ag1 ag2 ag3 agc, MO G b1 (vwn S 2 6) tk os (vwn S 14 6) (vwn S 20 6) (vwn S 26 6) (vwn S 51 24) le (S 32) (bitF S) (S 0) (S 1) t (S 33) (-1) wa])) (perm_sg2 (n := 4) [1, 2, 0, 3] rfl rfl (by decide)) ?_
      refine ev_pop hC dX11_treaty_33 rfl ?_
      refine ev_iload_n hC dX11_treaty_34 rfl 0 rfl ?_
      refine ev_if_ltN (tgt := 43) hC dX11_treaty_35 (by omega) ?_ (by decide)
      refine ev_bipush (v := (-10)) hC dX11_treaty_38 (by decide) ?_
      refine ev_iload_n hC dX11_treaty_40 rfl 0 rfl ?_
      refine ev_isub hC dX11_treaty_41 ?_
      have n5 : ¬ sn S 33 = 5 := by omega
      rw [treT, if_neg n5] at hU
      obtain ⟨hTA, h37, h2⟩ := hU
      have hTA : TrA S U := hTA
      rw [if_neg hg] at h2
      obtain ⟨h33, h38⟩ := h2
      have hG : Agr 33 1000 S U := fun j hj => hTA j (by omega) (by omega) (by omega) (by omega) (by omega) (by omega) (by omega)
      have hrw : vwn S 51 24 = vwn U 51 24 := vwn_ext fun j hj => (hTA _ (by omega) (by omega) (by omega) (by omega) (by omega) (by omega) (by omega)).symm
      have htp : vwn S 122 100 = vwn U 122 100 := vwn_ext fun j hj => (hTA _ (by omega) (by omega) (by omega) (by omega) (by omega) (by omega) (by omega)).symm
      have c37 : sn U 37 = 0 := sn_of (by omega) h37
      refine ev_ws (ws' := (List.flatten [SP x r1 r2 r3 r4 r5 d b1 b2 b3 hi, RD G d sg1 am1 en1 sp1 (nI (sn S 37)) ap1 ju1 sd1 rn1 nd1, RW G r1 100 (vwn S 122 100) a2 a3 (nI 0) ag1 ag2 ag3 agc, MO G b1 (vwn U 2 6) tk os (vwn U 14 6) (vwn U 20 6) (vwn U 26 6) (vwn U 51 24) le (U 32) (bitF U) (U 0) (U 1) t (U 33) (-1) wa])) (by rw [show (MO G b1 (vwn S 2 6) tk os (vwn S 14 6) (vwn S 20 6) (vwn S 26 6) (vwn S 51 24) le (S 32) (bitF S) (S 0) (S 1) t (S 33) (-1) wa) = (MO G b1 (vwn U 2 6) tk os (vwn U 14 6) (vwn U 20 6) (vwn U 26 6) (vwn U 51 24) le (U 32) (bitF U) (U 0) (U 1) t (U 33) (-1) wa) from mo_eq (Agr.vw hG (by omega)) rfl rfl (Agr.vw hG (by omega)) (Agr.vw hG (by omega)) (Agr.vw hG (by omega)) hrw rfl (hG _ (by omega)).symm (Agr.bit hG (by omega)) (hG _ (by omega)).symm (hG _ (by omega)).symm h33.symm rfl rfl]) ?_
      refine ev_iret hC hR rfl dX11_treaty_42 ?_
      have eR : treR S = ((-10) - (nI ((treG (tapF S) (sn S 37)).2.1))) := by rw [treR, if_neg n5, if_neg hg]
      obtain ⟨z1, z2, z3⟩ := tra_tells hW (by omega) hTA h38
      exact ⟨sg1, am1, en1, sp1, (nI (sn S 37)), ap1, ju1, sd1, rn1, nd1, t, by rw [eR], by rw [htp, c37], Sub.rf, hO.tre hW (by omega) hTA (by rw [z1, z2, z3]; exact hO.2.2)⟩
  · refine ev_bipush (v := (-4)) hC dX11_treaty_11 (by decide) ?_
    refine ev_iret hC hR rfl dX11_treaty_13 ?_
    have e5 : sn S 33 = 5 := by omega
    have eU : U = S := by rw [treT, if_pos e5] at hU; exact hU
    have eR : treR S = -4 := by rw [treR, if_pos e5]
    exact ⟨sg, am, en, sp, sz, ap, ju, sd, rn, nd, t, by rw [eR], by rw [eU], Sub.rf, by rw [eU]; exact hO⟩
