theorem flk_X3_97 {kd : Nat} (h : kd ≤ 6) : FL RX3 97 (kci kd) 0 := by
  rcases (show kd = 0 ∨ kd = 1 ∨ kd = 2 ∨ kd = 3 ∨ kd = 4 ∨ kd = 5 ∨ kd = 6 by omega) with rfl | rfl | rfl | rfl | rfl | rfl | rfl
  · exact fl_X3_97_4
  · exact fl_X3_97_1
  · exact fl_X3_97_0
  · exact fl_X3_97_8
  · exact fl_X3_97_2
  · exact fl_X3_97_5
  · exact fl_X3_97_9

theorem flk_X3_100 {kd : Nat} (h : kd ≤ 6) : FL RX3 100 (kci kd) 2 := by
  rcases (show kd = 0 ∨ kd = 1 ∨ kd = 2 ∨ kd = 3 ∨ kd = 4 ∨ kd = 5 ∨ kd = 6 by omega) with rfl | rfl | rfl | rfl | rfl | rfl | rfl
  · exact fl_X3_100_4
  · exact fl_X3_100_1
  · exact fl_X3_100_0
  · exact fl_X3_100_8
  · exact fl_X3_100_2
  · exact fl_X3_100_5
  · exact fl_X3_100_9

theorem flk_X11_125 {kd : Nat} (h : kd ≤ 6) : FL RX11 125 (kci kd) 0 := by
  rcases (show kd = 0 ∨ kd = 1 ∨ kd = 2 ∨ kd = 3 ∨ kd = 4 ∨ kd = 5 ∨ kd = 6 by omega) with rfl | rfl | rfl | rfl | rfl | rfl | rfl
  · exact fl_X11_125_4
  · exact fl_X11_125_1
  · exact fl_X11_125_0
  · exact fl_X11_125_8
  · exact fl_X11_125_2
  · exact fl_X11_125_5
  · exact fl_X11_125_9

theorem flk_X11_128 {kd : Nat} (h : kd ≤ 6) : FL RX11 128 (kci kd) 2 := by
  rcases (show kd = 0 ∨ kd = 1 ∨ kd = 2 ∨ kd = 3 ∨ kd = 4 ∨ kd = 5 ∨ kd = 6 by omega) with rfl | rfl | rfl | rfl | rfl | rfl | rfl
  · exact fl_X11_128_4
  · exact fl_X11_128_1
  · exact fl_X11_128_0
  · exact fl_X11_128_8
  · exact fl_X11_128_2
  · exact fl_X11_128_5
  · exact fl_X11_128_9

set_option maxHeartbeats 4000000 in
set_option maxRecDepth 100000 in
theorem m_X3_hasRoof (G : GG) (ro : va_W) (b : Nat → Nat) (S tk le : Nat → Int32) (os : Nat → Option Nat) (t tc : Nat) (mu wa : Int32) (k : Nat) {DD EE : Nat} (hW : WF S DD EE) (hk : k < 6) : Mth G M_X3_hasRoof 0 0 0 [.ref (b 0), .int (nI k)] (MO G b (vwn S 2 6) tk os (vwn S 14 6) (vwn S 20 6) (vwn S 26 6) (vwn S 51 24) le (S 32) (bitF S) (S 0) (S 1) t (S 33) mu wa) ro (fun r ws' ro' => r = some (.int (bI (S (8 + k) = nI 1))) ∧ ws' = (MO G b (vwn S 2 6) tk os (vwn S 14 6) (vwn S 20 6) (vwn S 26 6) (vwn S 51 24) le (S 32) (bitF S) (S 0) (S 1) t (S 33) mu wa) ∧ ro = ro') := by
  refine mth_of (by decide +kernel) (Nat.le_of_ble_eq_true rfl) (fun X hC hR => ?_)
  have b32 := hW.peo.le
  show Ev G X 0 0 0 [(0, .ref (b 0)), (1, .int (nI k))] [] (MO G b (vwn S 2 6) tk os (vwn S 14 6) (vwn S 20 6) (vwn S 26 6) (vwn S 51 24) le (S 32) (bitF S) (S 0) (S 1) t (S 33) mu wa) ro
  refine ev_aload_n hC dX3_hasRoof_0 rfl 0 rfl ?_
  refine ev_get hC fl_X3_45_3 (mw 0 rfl) rfl dX3_hasRoof_1 ?_
  refine ev_iload_n hC dX3_hasRoof_4 rfl 1 rfl ?_
  refine ev_ishr hC dX3_hasRoof_5 ?_
  refine ev_iconst (v := (nI 1)) hC dX3_hasRoof_6 (by decide) ?_
  refine ev_iand hC dX3_hasRoof_7 ?_
  refine ev_top (y := (S (8 + k))) (bitF_at hW hk) ?_
  have bk_1 : NB S (8 + k) _ := (hW.roof k (by omega))
  have k_1 := bk_1.eq
  have lk_1 := bk_1.le
  have mk_1 := bk_1.lt
  refine ev_top (y := (nI (sn S (8 + k)))) k_1 ?_
  refine ev_iconst (v := (nI 1)) hC dX3_hasRoof_8 (by decide) ?_
  refine ev_icmp_neN (tgt := 16) hC dX3_hasRoof_9 (by decide) (by omega) (by omega) (fun c_2 => ?_) (fun c_2 => ?_)
  · refine ev_iconst (v := (nI 0)) hC dX3_hasRoof_16 (by decide) ?_
    refine ev_zret hC hR rfl (by rfl) dX3_hasRoof_17 ?_
    exact ⟨by rw [show bI (S (8 + k) = nI 1) = nI 0 from if_neg (fun z => by have h1 := (hW.roof k hk).eq; rw [h1] at z; have := nI_inj ((hW.roof k hk).lt) (by omega) z; omega)], rfl, rfl⟩
  · refine ev_iconst (v := (nI 1)) hC dX3_hasRoof_12 (by decide) ?_
    refine ev_goto (tgt := 17) hC dX3_hasRoof_13 (by decide) ?_
    refine ev_zret hC hR rfl (by rfl) dX3_hasRoof_17 ?_
    exact ⟨by rw [show bI (S (8 + k) = nI 1) = nI 1 from if_pos (by have := (hW.roof k hk).eq; rw [this]; exact congrArg nI (by omega))], rfl, rfl⟩

set_option maxHeartbeats 4000000 in
set_option maxRecDepth 100000 in
theorem m_X3_saltAt (G : GG) (ro : va_W) (b : Nat → Nat) (S tk le : Nat → Int32) (os : Nat → Option Nat) (t tc : Nat) (mu wa : Int32) (k : Nat) {DD EE : Nat} (hW : WF S DD EE) (hk : k < 6) : Mth G M_X3_saltAt 0 0 0 [.ref (b 0), .int (nI k)] (MO G b (vwn S 2 6) tk os (vwn S 14 6) (vwn S 20 6) (vwn S 26 6) (vwn S 51 24) le (S 32) (bitF S) (S 0) (S 1) t (S 33) mu wa) ro (fun r ws' ro' => r = some (.int (S (2 + k))) ∧ ws' = (MO G b (vwn S 2 6) tk os (vwn S 14 6) (vwn S 20 6) (vwn S 26 6) (vwn S 51 24) le (S 32) (bitF S) (S 0) (S 1) t (S 33) mu wa) ∧ ro = ro') := by
  refine mth_of (by decide +kernel) (Nat.le_of_ble_eq_true rfl) (fun X hC hR => ?_)
  have b32 := hW.peo.le
  show Ev G X 0 0 0 [(0, .ref (b 0)), (1, .int (nI k))] [] (MO G b (vwn S 2 6) tk os (vwn S 14 6) (vwn S 20 6) (vwn S 26 6) (vwn S 51 24) le (S 32) (bitF S) (S 0) (S 1) t (S 33) mu wa) ro
  refine ev_iload_n hC dX3_saltAt_0 rfl 1 rfl ?_
  refine ev_if_ltN (tgt := 19) hC dX3_saltAt_1 (by omega) ?_ (by decide)
  refine ev_iload_n hC dX3_saltAt_4 rfl 1 rfl ?_
  refine ev_bipush (v := (nI 6)) hC dX3_saltAt_5 (by decide) ?_
  refine ev_icmp_geN (tgt := 19) hC dX3_saltAt_7 (by decide) (by omega) (by omega) (fun c_1 => absurd c_1 (by omega)) (fun c_1 => ?_)
  refine ev_aload_n hC dX3_saltAt_10 rfl 0 rfl ?_
  refine ev_get hC fl_X3_9_3 (mw 0 rfl) rfl dX3_saltAt_11 ?_
  refine ev_iload_n hC dX3_saltAt_14 rfl 1 rfl ?_
  refine ev_ialdN (i := k) hC (mw 1 rfl) (by omega) (by omega) dX3_saltAt_15 ?_
  refine ev_top (y := (S (2 + k))) (vwn_at (by omega)) ?_
  refine ev_goto (tgt := 20) hC dX3_saltAt_16 (by decide) ?_
  refine ev_iret hC hR rfl dX3_saltAt_20 ?_
  exact ⟨rfl, rfl, rfl⟩

set_option maxHeartbeats 4000000 in
set_option maxRecDepth 100000 in
theorem m_X3_addSalt (G : GG) (ro : va_W) (b : Nat → Nat) (S tk le : Nat → Int32) (os : Nat → Option Nat) (t tc : Nat) (mu wa : Int32) (k m : Nat) {DD EE : Nat} (hW : WF S DD EE) (hk : k < 6) (hm : m ≤ 1000) : Mth G M_X3_addSalt 2 0 0 [.ref (b 0), .int (nI k), .int (nI m)] (MO G b (vwn S 2 6) tk os (vwn S 14 6) (vwn S 20 6) (vwn S 26 6) (vwn S 51 24) le (S 32) (bitF S) (S 0) (S 1) t (S 33) mu wa) ro (fun r ws' ro' => r = none ∧ ws' = (MO G b (vwn (moreF S k m) 2 6) tk os (vwn (moreF S k m) 14 6) (vwn (moreF S k m) 20 6) (vwn (moreF S k m) 26 6) (vwn (moreF S k m) 51 24) le ((moreF S k m) 32) (bitF (moreF S k m)) ((moreF S k m) 0) ((moreF S k m) 1) t ((moreF S k m) 33) mu wa) ∧ ro = ro') := by
  refine mth_of (by decide +kernel) (Nat.le_of_ble_eq_true rfl) (fun X hC hR => ?_)
  have b32 := hW.peo.le
  show Ev G X 0 0 0 [(0, .ref (b 0)), (1, .int (nI k)), (2, .int (nI m))] [] (MO G b (vwn S 2 6) tk os (vwn S 14 6) (vwn S 20 6) (vwn S 26 6) (vwn S 51 24) le (S 32) (bitF S) (S 0) (S 1) t (S 33) mu wa) ro
  refine ev_iload_n hC dX3_addSalt_0 rfl 1 rfl ?_
  refine ev_callSN (As := [.int (nI k)]) (st := []) (wc := []) (wf := (MO G b (vwn S 2 6) tk os (vwn S 14 6) (vwn S 20 6) (vwn S 26 6) (vwn S 51 24) le (S 32) (bitF S) (S 0) (S 1) t (S 33) mu wa)) hC cn_X3_83 st_X11_isSide (m_X11_isSide G ro (nI k)) (by omega) rfl rfl (Nat.le_of_ble_eq_true rfl) (List.Perm.refl _) dX3_addSalt_1 (by omega) (by omega) ?_
  rintro _ _ _ ⟨rfl, rfl, rfl⟩
  refine ev_ws (List.nil_append _) ?_
  show Ev G X 0 0 4 [(0, .ref (b 0)), (1, .int (nI k)), (2, .int (nI m))] [.int (bI ((nI 0) ≤ (nI k) ∧ (nI k) ≤ (nI 5)))] (MO G b (vwn S 2 6) tk os (vwn S 14 6) (vwn S 20 6) (vwn S 26 6) (vwn S 51 24) le (S 32) (bitF S) (S 0) (S 1) t (S 33) mu wa) ro
  refine ev_if_eqB (tgt := 27) hC dX3_addSalt_4 (by decide) (fun c_1 => absurd c_1 (fun z => z (nI_isN (m := 5) (by omega) (by omega)))) (fun c_1 => ?_)
  refine ev_aload_n hC dX3_addSalt_7 rfl 0 rfl ?_
  refine ev_get hC fl_X3_9_3 (mw 0 rfl) rfl dX3_addSalt_8 ?_
  refine ev_iload_n hC dX3_addSalt_11 rfl 1 rfl ?_
  refine ev_sipush (v := (nI 999)) hC dX3_addSalt_12 (by decide) ?_
  refine ev_aload_n hC dX3_addSalt_15 rfl 0 rfl ?_
  refine ev_get hC fl_X3_9_3 (mw 0 rfl) rfl dX3_addSalt_16 ?_
  refine ev_iload_n hC dX3_addSalt_19 rfl 1 rfl ?_
  refine ev_ialdN (i := k) hC (mw 1 rfl) (by omega) (by omega) dX3_addSalt_20 ?_
  refine ev_top (y := (S (2 + k))) (vwn_at (by omega)) ?_
  have bk_2 : NB S (2 + k) _ := (hW.salt k (by omega))
  have k_2 := bk_2.eq
  have lk_2 := bk_2.le
  have mk_2 := bk_2.lt
  refine ev_top (y := (nI (sn S (2 + k)))) k_2 ?_
  refine ev_iload_n hC dX3_addSalt_21 rfl 2 rfl ?_
  refine ev_iadd hC dX3_addSalt_22 ?_
  refine ev_top (y := (nI ((sn S (2 + k)) + m))) ((nI_add _ _).trans (congrArg nI (by omega))) ?_
  have hs2 := (hW.salt k hk).le
  refine ev_mmin hC ⟨(ft_in 734 (by decide +kernel) rfl), (ft_in 382 (by decide +kernel) rfl), (ft_in 68 (by decide +kernel) rfl), (ft_in 383 (by decide +kernel) rfl)⟩ (by omega) (Nat.le_of_ble_eq_true rfl) dX3_addSalt_23 ?_
  refine ev_top (y := (nI (min 999 ((sn S (2 + k)) + m)))) (mnN (by omega) (by omega)) ?_
  refine ev_iastN (i := k) (ws' := (MO G b (upd (vwn S 2 6) k (nI (min 999 ((sn S (2 + k)) + m)))) tk os (vwn S 14 6) (vwn S 20 6) (vwn S 26 6) (vwn S 51 24) le (S 32) (bitF S) (S 0) (S 1) t (S 33) mu wa)) (q0 := 1) hC rfl (by omega) (by omega) rfl dX3_addSalt_26 ?_
  refine ev_ws (ws' := (MO G b (vwn (moreF S k m) 2 6) tk os (vwn (moreF S k m) 14 6) (vwn (moreF S k m) 20 6) (vwn (moreF S k m) 26 6) (vwn (moreF S k m) 51 24) le ((moreF S k m) 32) (bitF (moreF S k m)) ((moreF S k m) 0) ((moreF S k m) 1) t ((moreF S k m) 33) mu wa)) (mo_eq (vwn_upd hk) rfl rfl (Agr.vw (fun j hj => upd_ne _ _ (by omega) : Agr 2 8 S (moreF S k m)) (by omega)) (Agr.vw (fun j hj => upd_ne _ _ (by omega) : Agr 2 8 S (moreF S k m)) (by omega)) (Agr.vw (fun j hj => upd_ne _ _ (by omega) : Agr 2 8 S (moreF S k m)) (by omega)) (Agr.vw (fun j hj => upd_ne _ _ (by omega) : Agr 2 8 S (moreF S k m)) (by omega)) rfl ((fun j hj => upd_ne _ _ (by omega) : Agr 2 8 S (moreF S k m)) _ (by omega)).symm (Agr.bit (fun j hj => upd_ne _ _ (by omega) : Agr 2 8 S (moreF S k m)) (by omega)) ((fun j hj => upd_ne _ _ (by omega) : Agr 2 8 S (moreF S k m)) _ (by omega)).symm ((fun j hj => upd_ne _ _ (by omega) : Agr 2 8 S (moreF S k m)) _ (by omega)).symm ((fun j hj => upd_ne _ _ (by omega) : Agr 2 8 S (moreF S k m)) _ (by omega)).symm rfl rfl) ?_
  refine ev_vret hC hR rfl dX3_addSalt_27 ?_
  exact ⟨rfl, rfl, rfl⟩

set_option maxHeartbeats 4000000 in
set_option maxRecDepth 100000 in
theorem m_X3_forgets (G : GG) (ro : va_W) (b : Nat → Nat) (S tk le : Nat → Int32) (os : Nat → Option Nat) (t tc : Nat) (mu wa : Int32) (p : Nat) {DD EE : Nat} (hW : WF S DD EE) (hp : p < sn S 32) : Mth G M_X3_forgets 2 0 0 [.ref (b 0), .int (nI p)] (MO G b (vwn S 2 6) tk os (vwn S 14 6) (vwn S 20 6) (vwn S 26 6) (vwn S 51 24) le (S 32) (bitF S) (S 0) (S 1) t (S 33) mu wa) ro (fun r ws' ro' => r = none ∧ ws' = (MO G b (vwn (upd S (20 + p) (nI 0)) 2 6) tk os (vwn (upd S (20 + p) (nI 0)) 14 6) (vwn (upd S (20 + p) (nI 0)) 20 6) (vwn (upd S (20 + p) (nI 0)) 26 6) (vwn (upd S (20 + p) (nI 0)) 51 24) le ((upd S (20 + p) (nI 0)) 32) (bitF (upd S (20 + p) (nI 0))) ((upd S (20 + p) (nI 0)) 0) ((upd S (20 + p) (nI 0)) 1) t ((upd S (20 + p) (nI 0)) 33) mu wa) ∧ ro = ro') := by
  refine mth_of (by decide +kernel) (Nat.le_of_ble_eq_true rfl) (fun X hC hR => ?_)
  have b32 := hW.peo.le
  show Ev G X 0 0 0 [(0, .ref (b 0)), (1, .int (nI p))] [] (MO G b (vwn S 2 6) tk os (vwn S 14 6) (vwn S 20 6) (vwn S 26 6) (vwn S 51 24) le (S 32) (bitF S) (S 0) (S 1) t (S 33) mu wa) ro
  refine ev_iload_n hC dX3_forgets_0 rfl 1 rfl ?_
  refine ev_iconst (v := (nI 0)) hC dX3_forgets_1 (by decide) ?_
  refine ev_aload_n hC dX3_forgets_2 rfl 0 rfl ?_
  refine ev_get hC fl_X3_41_3 (mw 0 rfl) rfl dX3_forgets_3 ?_
  refine ev_iconst (v := (nI 1)) hC dX3_forgets_6 (by decide) ?_
  refine ev_isub hC dX3_forgets_7 ?_
  refine ev_callSN (As := [.int (nI p), .int (nI 0), .int ((S 32) - (nI 1))]) (st := []) (wc := []) (wf := (MO G b (vwn S 2 6) tk os (vwn S 14 6) (vwn S 20 6) (vwn S 26 6) (vwn S 51 24) le (S 32) (bitF S) (S 0) (S 1) t (S 33) mu wa)) hC cn_X3_93 st_X11_isWithin (m_X11_isWithin G ro (nI p) (nI 0) ((S 32) - (nI 1))) (by omega) rfl rfl (Nat.le_of_ble_eq_true rfl) (List.Perm.refl _) dX3_forgets_8 (by omega) (by omega) ?_
  rintro _ _ _ ⟨rfl, rfl, rfl⟩
  refine ev_ws (List.nil_append _) ?_
  show Ev G X 0 0 11 [(0, .ref (b 0)), (1, .int (nI p))] [.int (bI ((nI 0) ≤ (nI p) ∧ (nI p) ≤ ((S 32) - (nI 1))))] (MO G b (vwn S 2 6) tk os (vwn S 14 6) (vwn S 20 6) (vwn S 26 6) (vwn S 51 24) le (S 32) (bitF S) (S 0) (S 1) t (S 33) mu wa) ro
  refine ev_if_eqB (tgt := 21) hC dX3_forgets_11 (by decide) (fun c_1 => absurd c_1 (fun z => z (isP_of hW hp))) (fun c_1 => ?_)
  refine ev_aload_n hC dX3_forgets_14 rfl 0 rfl ?_
  refine ev_get hC fl_X3_27_3 (mw 0 rfl) rfl dX3_forgets_15 ?_
  refine ev_iload_n hC dX3_forgets_18 rfl 1 rfl ?_
  refine ev_iconst (v := (nI 0)) hC dX3_forgets_19 (by decide) ?_
  refine ev_iastN (i := p) (ws' := (MO G b (vwn S 2 6) tk os (vwn S 14 6) (upd (vwn S 20 6) p (nI 0)) (vwn S 26 6) (vwn S 51 24) le (S 32) (bitF S) (S 0) (S 1) t (S 33) mu wa)) (q0 := 5) hC rfl (by omega) (by omega) rfl dX3_forgets_20 ?_
  refine ev_ws (ws' := (MO G b (vwn (upd S (20 + p) (nI 0)) 2 6) tk os (vwn (upd S (20 + p) (nI 0)) 14 6) (vwn (upd S (20 + p) (nI 0)) 20 6) (vwn (upd S (20 + p) (nI 0)) 26 6) (vwn (upd S (20 + p) (nI 0)) 51 24) le ((upd S (20 + p) (nI 0)) 32) (bitF (upd S (20 + p) (nI 0))) ((upd S (20 + p) (nI 0)) 0) ((upd S (20 + p) (nI 0)) 1) t ((upd S (20 + p) (nI 0)) 33) mu wa)) (mo_eq (by rw [vwn_ne (o := 2) (n := 6) (by omega)]) rfl rfl (by rw [vwn_ne (o := 14) (n := 6) (by omega)]) (by rw [← vwn_upd (by omega)]) (by rw [vwn_ne (o := 26) (n := 6) (by omega)]) (by rw [vwn_ne (o := 51) (n := 24) (by omega)]) rfl (by rw [upd_ne _ _ (by omega)]) (by rw [bitF_ne (by omega)]) (by rw [upd_ne _ _ (by omega)]) (by rw [upd_ne _ _ (by omega)]) (by rw [upd_ne _ _ (by omega)]) rfl rfl) ?_
  refine ev_vret hC hR rfl dX3_forgets_21 ?_
  exact ⟨rfl, rfl, rfl⟩

set_option maxHeartbeats 4000000 in
set_option maxRecDepth 100000 in
theorem m_X3_allSalt (G : GG) (ro : va_W) (b : Nat → Nat) (S tk le : Nat → Int32) (os : Nat → Option Nat) (t tc : Nat) (mu wa : Int32)  {DD EE : Nat} (hW : WF S DD EE)  : Mth G M_X3_allSalt 0 0 0 [.ref (b 0)] (MO G b (vwn S 2 6) tk os (vwn S 14 6) (vwn S 20 6) (vwn S 26 6) (vwn S 51 24) le (S 32) (bitF S) (S 0) (S 1) t (S 33) mu wa) ro (fun r ws' ro' => r = some (.int (sum6 S 2)) ∧ ws' = (MO G b (vwn S 2 6) tk os (vwn S 14 6) (vwn S 20 6) (vwn S 26 6) (vwn S 51 24) le (S 32) (bitF S) (S 0) (S 1) t (S 33) mu wa) ∧ ro = ro') := by
  refine mth_of (by decide +kernel) (Nat.le_of_ble_eq_true rfl) (fun X hC hR => ?_)
  have b32 := hW.peo.le
  show Ev G X 0 0 0 [(0, .ref (b 0))] [] (MO G b (vwn S 2 6) tk os (vwn S 14 6) (vwn S 20 6) (vwn S 26 6) (vwn S 51 24) le (S 32) (bitF S) (S 0) (S 1) t (S 33) mu wa) ro
  refine ev_iconst (v := (nI 0)) hC dX3_allSalt_0 (by decide) ?_
  refine ev_istore_n (lv' := [(1, .int (nI 0)), (0, .ref (b 0))]) hC dX3_allSalt_1 rfl (by decide) rfl ?_
  refine ev_iconst (v := (nI 0)) hC dX3_allSalt_2 (by decide) ?_
  refine ev_istore_n (lv' := [(2, .int (nI 0)), (1, .int (nI 0)), (0, .ref (b 0))]) hC dX3_allSalt_3 rfl (by decide) rfl ?_
  refine ev_iload_n hC dX3_allSalt_4 rfl 0 rfl ?_
  refine ev_bipush (v := (nI 6)) hC dX3_allSalt_5 (by decide) ?_
  refine ev_icmp_geN (tgt := 25) hC dX3_allSalt_7 (by decide) (by omega) (by omega) (fun c_1 => absurd c_1 (by omega)) (fun c_1 => ?_)
  refine ev_iload_n hC dX3_allSalt_10 rfl 1 rfl ?_
  refine ev_aload_n hC dX3_allSalt_11 rfl 2 rfl ?_
  refine ev_get hC fl_X3_9_3 (mw 0 rfl) rfl dX3_allSalt_12 ?_
  refine ev_iload_n hC dX3_allSalt_15 rfl 0 rfl ?_
  refine ev_ialdN (i := 0) hC (mw 1 rfl) (by omega) (by omega) dX3_allSalt_16 ?_
  refine ev_top (y := (S 2)) (vwn_at (by omega)) ?_
  refine ev_iadd hC dX3_allSalt_17 ?_
  refine ev_istore_n (lv' := [(1, .int ((nI 0) + (S 2))), (2, .int (nI 0)), (0, .ref (b 0))]) hC dX3_allSalt_18 rfl (by decide) rfl ?_
  refine ev_iinc (v := (nI 1)) (lv' := [(2, .int (nI 1)), (1, .int ((nI 0) + (S 2))), (0, .ref (b 0))]) hC dX3_allSalt_19 (q := 1) rfl (nI_k _ _ 1 (by decide)) (by decide) rfl ?_
  refine ev_goto (tgt := 4) hC dX3_allSalt_22 (by decide) ?_
  refine ev_iload_n hC dX3_allSalt_4 rfl 0 rfl ?_
  refine ev_bipush (v := (nI 6)) hC dX3_allSalt_5 (by decide) ?_
  refine ev_icmp_geN (tgt := 25) hC dX3_allSalt_7 (by decide) (by omega) (by omega) (fun c_2 => absurd c_2 (by omega)) (fun c_2 => ?_)
  refine ev_iload_n hC dX3_allSalt_10 rfl 1 rfl ?_
  refine ev_aload_n hC dX3_allSalt_11 rfl 2 rfl ?_
  refine ev_get hC fl_X3_9_3 (mw 0 rfl) rfl dX3_allSalt_12 ?_
  refine ev_iload_n hC dX3_allSalt_15 rfl 0 rfl ?_
  refine ev_ialdN (i := 1) hC (mw 1 rfl) (by omega) (by omega) dX3_allSalt_16 ?_
  refine ev_top (y := (S 3)) (vwn_at (by omega)) ?_
  refine ev_iadd hC dX3_allSalt_17 ?_
  refine ev_istore_n (lv' := [(1, .int (((nI 0) + (S 2)) + (S 3))), (2, .int (nI 1)), (0, .ref (b 0))]) hC dX3_allSalt_18 rfl (by decide) rfl ?_
  refine ev_iinc (v := (nI 2)) (lv' := [(2, .int (nI 2)), (1, .int (((nI 0) + (S 2)) + (S 3))), (0, .ref (b 0))]) hC dX3_allSalt_19 (q := 1) rfl (nI_k _ _ 1 (by decide)) (by decide) rfl ?_
  refine ev_goto (tgt := 4) hC dX3_allSalt_22 (by decide) ?_
  refine ev_iload_n hC dX3_allSalt_4 rfl 0 rfl ?_
  refine ev_bipush (v := (nI 6)) hC dX3_allSalt_5 (by decide) ?_
  refine ev_icmp_geN (tgt := 25) hC dX3_allSalt_7 (by decide) (by omega) (by omega) (fun c_3 => absurd c_3 (by omega)) (fun c_3 => ?_)
  refine ev_iload_n hC dX3_allSalt_10 rfl 1 rfl ?_
  refine ev_aload_n hC dX3_allSalt_11 rfl 2 rfl ?_
  refine ev_get hC fl_X3_9_3 (mw 0 rfl) rfl dX3_allSalt_12 ?_
  refine ev_iload_n hC dX3_allSalt_15 rfl 0 rfl ?_
  refine ev_ialdN (i := 2) hC (mw 1 rfl) (by omega) (by omega) dX3_allSalt_16 ?_
  refine ev_top (y := (S 4)) (vwn_at (by omega)) ?_
  refine ev_iadd hC dX3_allSalt_17 ?_
  refine ev_istore_n (lv' := [(1, .int ((((nI 0) + (S 2)) + (S 3)) + (S 4))), (2, .int (nI 2)), (0, .ref (b 0))]) hC dX3_allSalt_18 rfl (by decide) rfl ?_
  refine ev_iinc (v := (nI 3)) (lv' := [(2, .int (nI 3)), (1, .int ((((nI 0) + (S 2)) + (S 3)) + (S 4))), (0, .ref (b 0))]) hC dX3_allSalt_19 (q := 1) rfl (nI_k _ _ 1 (by decide)) (by decide) rfl ?_
  refine ev_goto (tgt := 4) hC dX3_allSalt_22 (by decide) ?_
  refine ev_iload_n hC dX3_allSalt_4 rfl 0 rfl ?_
  refine ev_bipush (v := (nI 6)) hC dX3_allSalt_5 (by decide) ?_
  refine ev_icmp_geN (tgt := 25) hC dX3_allSalt_7 (by decide) (by omega) (by omega) (fun c_4 => absurd c_4 (by omega)) (fun c_4 => ?_)
  refine ev_iload_n hC dX3_allSalt_10 rfl 1 rfl ?_
  refine ev_aload_n hC dX3_allSalt_11 rfl 2 rfl ?_
  refine ev_get hC fl_X3_9_3 (mw 0 rfl) rfl dX3_allSalt_12 ?_
  refine ev_iload_n hC dX3_allSalt_15 rfl 0 rfl ?_
  refine ev_ialdN (i := 3) hC (mw 1 rfl) (by omega) (by omega) dX3_allSalt_16 ?_
  refine ev_top (y := (S 5)) (vwn_at (by omega)) ?_
  refine ev_iadd hC dX3_allSalt_17 ?_
  refine ev_istore_n (lv' := [(1, .int (((((nI 0) + (S 2)) + (S 3)) + (S 4)) + (S 5))), (2, .int (nI 3)), (0, .ref (b 0))]) hC dX3_allSalt_18 rfl (by decide) rfl ?_
  refine ev_iinc (v := (nI 4)) (lv' := [(2, .int (nI 4)), (1, .int (((((nI 0) + (S 2)) + (S 3)) + (S 4)) + (S 5))), (0, .ref (b 0))]) hC dX3_allSalt_19 (q := 1) rfl (nI_k _ _ 1 (by decide)) (by decide) rfl ?_
  refine ev_goto (tgt := 4) hC dX3_allSalt_22 (by decide) ?_
  refine ev_iload_n hC dX3_allSalt_4 rfl 0 rfl ?_
  refine ev_bipush (v := (nI 6)) hC dX3_allSalt_5 (by decide) ?_
  refine ev_icmp_geN (tgt := 25) hC dX3_allSalt_7 (by decide) (by omega) (by omega) (fun c_5 => absurd c_5 (by omega)) (fun c_5 => ?_)
  refine ev_iload_n hC dX3_allSalt_10 rfl 1 rfl ?_
  refine ev_aload_n hC dX3_allSalt_11 rfl 2 rfl ?_
  refine ev_get hC fl_X3_9_3 (mw 0 rfl) rfl dX3_allSalt_12 ?_
  refine ev_iload_n hC dX3_allSalt_15 rfl 0 rfl ?_
  refine ev_ialdN (i := 4) hC (mw 1 rfl) (by omega) (by omega) dX3_allSalt_16 ?_
  refine ev_top (y := (S 6)) (vwn_at (by omega)) ?_
  refine ev_iadd hC dX3_allSalt_17 ?_
  refine ev_istore_n (lv' := [(1, .int ((((((nI 0) + (S 2)) + (S 3)) + (S 4)) + (S 5)) + (S 6))), (2, .int (nI 4)), (0, .ref (b 0))]) hC dX3_allSalt_18 rfl (by decide) rfl ?_
  refine ev_iinc (v := (nI 5)) (lv' := [(2, .int (nI 5)), (1, .int ((((((nI 0) + (S 2)) + (S 3)) + (S 4)) + (S 5)) + (S 6))), (0, .ref (b 0))]) hC dX3_allSalt_19 (q := 1) rfl (nI_k _ _ 1 (by decide)) (by decide) rfl ?_
  refine ev_goto (tgt := 4) hC dX3_allSalt_22 (by decide) ?_
  refine ev_iload_n hC dX3_allSalt_4 rfl 0 rfl ?_
  refine ev_bipush (v := (nI 6)) hC dX3_allSalt_5 (by decide) ?_
  refine ev_icmp_geN (tgt := 25) hC dX3_allSalt_7 (by decide) (by omega) (by omega) (fun c_6 => absurd c_6 (by omega)) (fun c_6 => ?_)
  refine ev_iload_n hC dX3_allSalt_10 rfl 1 rfl ?_
  refine ev_aload_n hC dX3_allSalt_11 rfl 2 rfl ?_
  refine ev_get hC fl_X3_9_3 (mw 0 rfl) rfl dX3_allSalt_12 ?_
  refine ev_iload_n hC dX3_allSalt_15 rfl 0 rfl ?_
  refine ev_ialdN (i := 5) hC (mw 1 rfl) (by omega) (by omega) dX3_allSalt_16 ?_
  refine ev_top (y := (S 7)) (vwn_at (by omega)) ?_
  refine ev_iadd hC dX3_allSalt_17 ?_
  refine ev_istore_n (lv' := [(1, .int (((((((nI 0) + (S 2)) + (S 3)) + (S 4)) + (S 5)) + (S 6)) + (S 7))), (2, .int (nI 5)), (0, .ref (b 0))]) hC dX3_allSalt_18 rfl (by decide) rfl ?_
  refine ev_iinc (v := (nI 6)) (lv' := [(2, .int (nI 6)), (1, .int (((((((nI 0) + (S 2)) + (S 3)) + (S 4)) + (S 5)) + (S 6)) + (S 7))), (0, .ref (b 0))]) hC dX3_allSalt_19 (q := 1) rfl (nI_k _ _ 1 (by decide)) (by decide) rfl ?_
  refine ev_goto (tgt := 4) hC dX3_allSalt_22 (by decide) ?_
  refine ev_iload_n hC dX3_allSalt_4 rfl 0 rfl ?_
  refine ev_bipush (v := (nI 6)) hC dX3_allSalt_5 (by decide) ?_
  refine ev_icmp_geN (tgt := 25) hC dX3_allSalt_7 (by decide) (by omega) (by omega) (fun c_7 => ?_) (fun c_7 => absurd c_7 (by omega))
  refine ev_iload_n hC dX3_allSalt_25 rfl 1 rfl ?_
  refine ev_iret hC hR rfl dX3_allSalt_26 ?_
  exact ⟨rfl, rfl, rfl⟩

set_option maxHeartbeats 4000000 in
set_option maxRecDepth 100000 in
theorem m_X3_allGrudge (G : GG) (ro : va_W) (b : Nat → Nat) (S tk le : Nat → Int32) (os : Nat → Option Nat) (t tc : Nat) (mu wa : Int32)  {DD EE : Nat} (hW : WF S DD EE)  : Mth G M_X3_allGrudge 0 0 0 [.ref (b 0)] (MO G b (vwn S 2 6) tk os (vwn S 14 6) (vwn S 20 6) (vwn S 26 6) (vwn S 51 24) le (S 32) (bitF S) (S 0) (S 1) t (S 33) mu wa) ro (fun r ws' ro' => r = some (.int (gruF S (sn S 32))) ∧ ws' = (MO G b (vwn S 2 6) tk os (vwn S 14 6) (vwn S 20 6) (vwn S 26 6) (vwn S 51 24) le (S 32) (bitF S) (S 0) (S 1) t (S 33) mu wa) ∧ ro = ro') := by
  refine mth_of (by decide +kernel) (Nat.le_of_ble_eq_true rfl) (fun X hC hR => ?_)
  have b32 := hW.peo.le
  show Ev G X 0 0 0 [(0, .ref (b 0))] [] (MO G b (vwn S 2 6) tk os (vwn S 14 6) (vwn S 20 6) (vwn S 26 6) (vwn S 51 24) le (S 32) (bitF S) (S 0) (S 1) t (S 33) mu wa) ro
  refine ev_iconst (v := (nI 0)) hC dX3_allGrudge_0 (by decide) ?_
  refine ev_istore_n (lv' := [(1, .int (nI 0)), (0, .ref (b 0))]) hC dX3_allGrudge_1 rfl (by decide) rfl ?_
  refine ev_iconst (v := (nI 0)) hC dX3_allGrudge_2 (by decide) ?_
  refine ev_istore_n (lv' := [(2, .int (nI 0)), (1, .int (nI 0)), (0, .ref (b 0))]) hC dX3_allGrudge_3 rfl (by decide) rfl ?_
  have lp_4 : ∀ (fu_4 : Nat) (i : Nat) (g : Int32) (hi : i ≤ sn S 32) (hg : g = gruF S i) (hn : sn S 32 - i < fu_4), Ev G X 0 0 4 [(0, .ref (b 0)), (1, .int g), (2, .int (nI i))] [] (MO G b (vwn S 2 6) tk os (vwn S 14 6) (vwn S 20 6) (vwn S 26 6) (vwn S 51 24) le (S 32) (bitF S) (S 0) (S 1) t (S 33) mu wa) ro := by
    intro fu_4
    induction fu_4 with
    | zero => intro i g hi hg hn; exact absurd hn (Nat.not_lt_zero _)
    | succ fu_4 ih =>
      intro i g hi hg hn
      refine ev_iload_n hC dX3_allGrudge_4 rfl 2 rfl ?_
      refine ev_aload_n hC dX3_allGrudge_5 rfl 0 rfl ?_
      refine ev_get hC fl_X3_41_3 (mw 0 rfl) rfl dX3_allGrudge_6 ?_
      have bk_1 : NB S 32 _ := hW.peo
      have k_1 := bk_1.eq
      have lk_1 := bk_1.le
      have mk_1 := bk_1.lt
      refine ev_top (y := (nI (sn S 32))) k_1 ?_
      refine ev_icmp_geN (tgt := 27) hC dX3_allGrudge_9 (by decide) (by omega) (by omega) (fun c_2 => ?_) (fun c_2 => ?_)
      · refine ev_iload_n hC dX3_allGrudge_27 rfl 1 rfl ?_
        refine ev_iret hC hR rfl dX3_allGrudge_28 ?_
        obtain rfl : i = sn S 32 := by omega
        exact ⟨by rw [hg], rfl, rfl⟩
      · refine ev_iload_n hC dX3_allGrudge_12 rfl 1 rfl ?_
        refine ev_aload_n hC dX3_allGrudge_13 rfl 0 rfl ?_
        refine ev_get hC fl_X3_27_3 (mw 0 rfl) rfl dX3_allGrudge_14 ?_
        refine ev_iload_n hC dX3_allGrudge_17 rfl 2 rfl ?_
        refine ev_ialdN (i := i) hC (mw 5 rfl) (by omega) (by omega) dX3_allGrudge_18 ?_
        refine ev_top (y := (S (20 + i))) (vwn_at (by omega)) ?_
        refine ev_iadd hC dX3_allGrudge_19 ?_
        refine ev_istore_n (lv' := [(1, .int (g + (S (20 + i)))), (0, .ref (b 0)), (2, .int (nI i))]) hC dX3_allGrudge_20 rfl (by decide) rfl ?_
        refine ev_iinc (v := (nI (i + 1))) (lv' := [(2, .int (nI (i + 1))), (1, .int (g + (S (20 + i)))), (0, .ref (b 0))]) hC dX3_allGrudge_21 (q := 2) rfl (nI_k _ _ 1 (by decide)) (by decide) rfl ?_
        refine ev_goto (tgt := 4) hC dX3_allGrudge_24 (by decide) ?_
        refine ev_lv [2, 1, 0] rfl ?_
        exact ih (i + 1) (g + (S (20 + i))) (by omega) (by rw [hg]; rfl) (by omega)
  refine ev_lv [2, 1, 0] rfl ?_
  exact lp_4 (sn S 32 - 0 + 1) 0 (nI 0) (by omega) rfl (Nat.lt_succ_self _)

set_option maxHeartbeats 4000000 in
set_option maxRecDepth 100000 in
theorem m_X3_thinnestSide (G : GG) (ro : va_W) (b : Nat → Nat) (S tk le : Nat → Int32) (os : Nat → Option Nat) (t tc : Nat) (mu wa : Int32)  {DD EE : Nat} (hW : WF S DD EE)  : Mth G M_X3_thinnestSide 0 0 0 [.ref (b 0)] (MO G b (vwn S 2 6) tk os (vwn S 14 6) (vwn S 20 6) (vwn S 26 6) (vwn S 51 24) le (S 32) (bitF S) (S 0) (S 1) t (S 33) mu wa) ro (fun r ws' ro' => r = some (.int (nI (thinF S 5))) ∧ ws' = (MO G b (vwn S 2 6) tk os (vwn S 14 6) (vwn S 20 6) (vwn S 26 6) (vwn S 51 24) le (S 32) (bitF S) (S 0) (S 1) t (S 33) mu wa) ∧ ro = ro') := by
  refine mth_of (by decide +kernel) (Nat.le_of_ble_eq_true rfl) (fun X hC hR => ?_)
  have b32 := hW.peo.le
  show Ev G X 0 0 0 [(0, .ref (b 0))] [] (MO G b (vwn S 2 6) tk os (vwn S 14 6) (vwn S 20 6) (vwn S 26 6) (vwn S 51 24) le (S 32) (bitF S) (S 0) (S 1) t (S 33) mu wa) ro
  refine ev_iconst (v := (nI 0)) hC dX3_thinnestSide_0 (by decide) ?_
  refine ev_istore_n (lv' := [(1, .int (nI 0)), (0, .ref (b 0))]) hC dX3_thinnestSide_1 rfl (by decide) rfl ?_
  refine ev_iconst (v := (nI 1)) hC dX3_thinnestSide_2 (by decide) ?_
  refine ev_istore_n (lv' := [(2, .int (nI 1)), (1, .int (nI 0)), (0, .ref (b 0))]) hC dX3_thinnestSide_3 rfl (by decide) rfl ?_
  have lp_4 : ∀ (fu_4 : Nat) (j : Nat) (z : Nat) (hj : j ≤ 5) (hb : z = thinF S j) (hn : 5 - j < fu_4), Ev G X 0 0 4 [(0, .ref (b 0)), (1, .int (nI z)), (2, .int (nI (j + 1)))] [] (MO G b (vwn S 2 6) tk os (vwn S 14 6) (vwn S 20 6) (vwn S 26 6) (vwn S 51 24) le (S 32) (bitF S) (S 0) (S 1) t (S 33) mu wa) ro := by
    intro fu_4
    induction fu_4 with
    | zero => intro j z hj hb hn; exact absurd hn (Nat.not_lt_zero _)
    | succ fu_4 ih =>
      intro j z hj hb hn
      have hb6 := thinF_le S j
      refine ev_iload_n hC dX3_thinnestSide_4 rfl 2 rfl ?_
      refine ev_bipush (v := (nI 6)) hC dX3_thinnestSide_5 (by decide) ?_
      refine ev_icmp_geN (tgt := 33) hC dX3_thinnestSide_7 (by decide) (by omega) (by omega) (fun c_1 => ?_) (fun c_1 => ?_)
      · refine ev_iload_n hC dX3_thinnestSide_33 rfl 1 rfl ?_
        refine ev_iret hC hR rfl dX3_thinnestSide_34 ?_
        obtain rfl : j = 5 := by omega
        exact ⟨by rw [hb], rfl, rfl⟩
      · refine ev_aload_n hC dX3_thinnestSide_10 rfl 0 rfl ?_
        refine ev_get hC fl_X3_9_3 (mw 0 rfl) rfl dX3_thinnestSide_11 ?_
        refine ev_iload_n hC dX3_thinnestSide_14 rfl 2 rfl ?_
        refine ev_ialdN (i := j + 1) hC (mw 1 rfl) (by omega) (by omega) dX3_thinnestSide_15 ?_
        refine ev_top (y := (S (2 + (j + 1)))) (vwn_at (by omega)) ?_
        refine ev_aload_n hC dX3_thinnestSide_16 rfl 0 rfl ?_
        refine ev_get hC fl_X3_9_3 (mw 0 rfl) rfl dX3_thinnestSide_17 ?_
        refine ev_iload_n hC dX3_thinnestSide_20 rfl 1 rfl ?_
        refine ev_ialdN (i := z) hC (mw 1 rfl) (by omega) (by omega) dX3_thinnestSide_21 ?_
        refine ev_top (y := (S (2 + z))) (vwn_at (by omega)) ?_
        refine ev_icmp_ge (tgt := 27) hC dX3_thinnestSide_22 (by decide) (fun c_2 => ?_) (fun c_2 => ?_)
        · refine ev_iinc (v := (nI (j + 2))) (lv' := [(2, .int (nI (j + 2))), (0, .ref (b 0)), (1, .int (nI z))]) hC dX3_thinnestSide_27 (q := 2) rfl (nI_k _ _ 1 (by decide)) (by decide) rfl ?_
          refine ev_goto (tgt := 4) hC dX3_thinnestSide_30 (by decide) ?_
          refine ev_lv [1, 2, 0] rfl ?_
          exact ih (j + 1) z (by omega) (by subst hb; rw [thinF]; first | rw [if_neg (Int32.not_lt.mpr (by assumption))] | rw [if_pos (Int32.not_le.mp (by assumption))]) (by omega)
        · refine ev_iload_n hC dX3_thinnestSide_25 rfl 2 rfl ?_
          refine ev_istore_n (lv' := [(1, .int (nI (j + 1))), (0, .ref (b 0)), (2, .int (nI (j + 1)))]) hC dX3_thinnestSide_26 rfl (by decide) rfl ?_
          refine ev_iinc (v := (nI (j + 2))) (lv' := [(2, .int (nI (j + 2))), (1, .int (nI (j + 1))), (0, .ref (b 0))]) hC dX3_thinnestSide_27 (q := 2) rfl (nI_k _ _ 1 (by decide)) (by decide) rfl ?_
          refine ev_goto (tgt := 4) hC dX3_thinnestSide_30 (by decide) ?_
          refine ev_lv [2, 1, 0] rfl ?_
          exact ih (j + 1) (j + 1) (by omega) (by subst hb; rw [thinF]; first | rw [if_neg (Int32.not_lt.mpr (by assumption))] | rw [if_pos (Int32.not_le.mp (by assumption))]) (by omega)
  refine ev_lv [2, 1, 0] rfl ?_
  exact lp_4 (5 - 0 + 1) 0 0 (by omega) rfl (Nat.lt_succ_self _)

set_option maxHeartbeats 4000000 in
set_option maxRecDepth 100000 in
theorem m_X3_takenFrom (G : GG) (ro : va_W) (b : Nat → Nat) (S tk le : Nat → Int32) (os : Nat → Option Nat) (t tc : Nat) (mu wa : Int32) (x : Nat) {DD EE : Nat} (hW : WF S DD EE) (hx : x < 64) : Mth G M_X3_takenFrom 0 0 0 [.ref (b 0), .int (nI x)] (MO G b (vwn S 2 6) tk os (vwn S 14 6) (vwn S 20 6) (vwn S 26 6) (vwn S 51 24) le (S 32) (bitF S) (S 0) (S 1) t (S 33) mu wa) ro (fun r ws' ro' => r = some (.int (atF tk x 6)) ∧ ws' = (MO G b (vwn S 2 6) tk os (vwn S 14 6) (vwn S 20 6) (vwn S 26 6) (vwn S 51 24) le (S 32) (bitF S) (S 0) (S 1) t (S 33) mu wa) ∧ ro = ro') := by
  refine mth_of (by decide +kernel) (Nat.le_of_ble_eq_true rfl) (fun X hC hR => ?_)
  have b32 := hW.peo.le
  show Ev G X 0 0 0 [(0, .ref (b 0)), (1, .int (nI x))] [] (MO G b (vwn S 2 6) tk os (vwn S 14 6) (vwn S 20 6) (vwn S 26 6) (vwn S 51 24) le (S 32) (bitF S) (S 0) (S 1) t (S 33) mu wa) ro
  refine ev_iconst (v := (nI 0)) hC dX3_takenFrom_0 (by decide) ?_
  refine ev_istore_n (lv' := [(2, .int (nI 0)), (0, .ref (b 0)), (1, .int (nI x))]) hC dX3_takenFrom_1 rfl (by decide) rfl ?_
  refine ev_iconst (v := (nI 0)) hC dX3_takenFrom_2 (by decide) ?_
  refine ev_istore_n (lv' := [(3, .int (nI 0)), (2, .int (nI 0)), (0, .ref (b 0)), (1, .int (nI x))]) hC dX3_takenFrom_3 rfl (by decide) rfl ?_
  have lp_4 : ∀ (fu_4 : Nat) (k : Nat) (g : Int32) (hk : k ≤ 6) (hg : g = atF tk x k) (hn : 6 - k < fu_4), Ev G X 0 0 4 [(0, .ref (b 0)), (1, .int (nI x)), (2, .int g), (3, .int (nI k))] [] (MO G b (vwn S 2 6) tk os (vwn S 14 6) (vwn S 20 6) (vwn S 26 6) (vwn S 51 24) le (S 32) (bitF S) (S 0) (S 1) t (S 33) mu wa) ro := by
    intro fu_4
    induction fu_4 with
    | zero => intro k g hk hg hn; exact absurd hn (Nat.not_lt_zero _)
    | succ fu_4 ih =>
      intro k g hk hg hn
      refine ev_iload_n hC dX3_takenFrom_4 rfl 3 rfl ?_
      refine ev_bipush (v := (nI 6)) hC dX3_takenFrom_5 (by decide) ?_
      refine ev_icmp_geN (tgt := 31) hC dX3_takenFrom_7 (by decide) (by omega) (by omega) (fun c_1 => ?_) (fun c_1 => ?_)
      · refine ev_iload_n hC dX3_takenFrom_31 rfl 2 rfl ?_
        refine ev_iret hC hR rfl dX3_takenFrom_32 ?_
        obtain rfl : k = 6 := by omega
        exact ⟨by rw [hg], rfl, rfl⟩
      · refine ev_iload_n hC dX3_takenFrom_10 rfl 2 rfl ?_
        refine ev_iload_n hC dX3_takenFrom_11 rfl 1 rfl ?_
        refine ev_iload_n hC dX3_takenFrom_12 rfl 3 rfl ?_
        refine ev_ishr hC dX3_takenFrom_13 ?_
        refine ev_iconst (v := (nI 1)) hC dX3_takenFrom_14 (by decide) ?_
        refine ev_iand hC dX3_takenFrom_15 ?_
        refine ev_top (y := (nI (x / 2 ^ k % 2))) (bit_at (by omega) (by omega)) ?_
        refine ev_aload_n hC dX3_takenFrom_16 rfl 0 rfl ?_
        refine ev_get hC fl_X3_15_3 (mw 0 rfl) rfl dX3_takenFrom_17 ?_
        refine ev_iload_n hC dX3_takenFrom_20 rfl 3 rfl ?_
        refine ev_ialdN (i := k) hC (mw 2 rfl) (by omega) (by omega) dX3_takenFrom_21 ?_
        refine ev_imul hC dX3_takenFrom_22 ?_
        refine ev_top (y := (if x / 2 ^ k % 2 = 1 then tk k else nI 0)) (sel_mul _ _) ?_
        refine ev_iadd hC dX3_takenFrom_23 ?_
        refine ev_istore_n (lv' := [(2, .int (g + (if x / 2 ^ k % 2 = 1 then tk k else nI 0))), (0, .ref (b 0)), (1, .int (nI x)), (3, .int (nI k))]) hC dX3_takenFrom_24 rfl (by decide) rfl ?_
        refine ev_iinc (v := (nI (k + 1))) (lv' := [(3, .int (nI (k + 1))), (2, .int (g + (if x / 2 ^ k % 2 = 1 then tk k else nI 0))), (0, .ref (b 0)), (1, .int (nI x))]) hC dX3_takenFrom_25 (q := 3) rfl (nI_k _ _ 1 (by decide)) (by decide) rfl ?_
        refine ev_goto (tgt := 4) hC dX3_takenFrom_28 (by decide) ?_
        refine ev_lv [2, 3, 1, 0] rfl ?_
        exact ih (k + 1) (g + (if x / 2 ^ k % 2 = 1 then tk k else nI 0)) (by omega) (by rw [hg]; rfl) (by omega)
  refine ev_lv [2, 3, 1, 0] rfl ?_
  exact lp_4 (6 - 0 + 1) 0 (nI 0) (by omega) rfl (Nat.lt_succ_self _)

set_option maxHeartbeats 4000000 in
set_option maxRecDepth 100000 in
theorem m_X3_capEaten (G : GG) (ro : va_W) (b : Nat → Nat) (S tk le : Nat → Int32) (os : Nat → Option Nat) (t tc : Nat) (mu wa : Int32)  {DD EE : Nat} (hW : WF S DD EE)  : Mth G M_X3_capEaten 1 0 0 [.ref (b 0)] (MO G b (vwn S 2 6) tk os (vwn S 14 6) (vwn S 20 6) (vwn S 26 6) (vwn S 51 24) le (S 32) (bitF S) (S 0) (S 1) t (S 33) mu wa) ro (fun r ws' ro' => r = none ∧ ws' = (MO G b (vwn (capF S (sn S 32)) 2 6) tk os (vwn (capF S (sn S 32)) 14 6) (vwn (capF S (sn S 32)) 20 6) (vwn (capF S (sn S 32)) 26 6) (vwn (capF S (sn S 32)) 51 24) le ((capF S (sn S 32)) 32) (bitF (capF S (sn S 32))) ((capF S (sn S 32)) 0) ((capF S (sn S 32)) 1) t ((capF S (sn S 32)) 33) mu wa) ∧ ro = ro') := by
  refine mth_of (by decide +kernel) (Nat.le_of_ble_eq_true rfl) (fun X hC hR => ?_)
  have b32 := hW.peo.le
  show Ev G X 0 0 0 [(0, .ref (b 0))] [] (MO G b (vwn S 2 6) tk os (vwn S 14 6) (vwn S 20 6) (vwn S 26 6) (vwn S 51 24) le (S 32) (bitF S) (S 0) (S 1) t (S 33) mu wa) ro
  refine ev_iconst (v := (nI 0)) hC dX3_capEaten_0 (by decide) ?_
  refine ev_istore_n (lv' := [(1, .int (nI 0)), (0, .ref (b 0))]) hC dX3_capEaten_1 rfl (by decide) rfl ?_
  have lp_2 : ∀ (fu_2 : Nat) (i : Nat) (hi : i ≤ sn S 32) (hn : sn S 32 - i < fu_2), Ev G X 0 0 2 [(0, .ref (b 0)), (1, .int (nI i))] [] (MO G b (vwn (capF S i) 2 6) tk os (vwn (capF S i) 14 6) (vwn (capF S i) 20 6) (vwn (capF S i) 26 6) (vwn (capF S i) 51 24) le ((capF S i) 32) (bitF (capF S i)) ((capF S i) 0) ((capF S i) 1) t ((capF S i) 33) mu wa) ro := by
    intro fu_2
    induction fu_2 with
    | zero => intro i hi hn; exact absurd hn (Nat.not_lt_zero _)
    | succ fu_2 ih =>
      intro i hi hn
      have e32 : capF S i 32 = nI (sn S 32) := (capF_agr S (by omega) 32 (by omega)).trans hW.peo.eq
      refine ev_iload_n hC dX3_capEaten_2 rfl 1 rfl ?_
      refine ev_aload_n hC dX3_capEaten_3 rfl 0 rfl ?_
      refine ev_get hC fl_X3_41_3 (mw 0 rfl) rfl dX3_capEaten_4 ?_
      refine ev_top (y := (nI (sn S 32))) e32 ?_
      refine ev_icmp_geN (tgt := 34) hC dX3_capEaten_7 (by decide) (by omega) (by omega) (fun c_1 => ?_) (fun c_1 => ?_)
      · refine ev_vret hC hR rfl dX3_capEaten_34 ?_
        obtain rfl : i = sn S 32 := by omega
        exact ⟨rfl, rfl, rfl⟩
      · refine ev_aload_n hC dX3_capEaten_10 rfl 0 rfl ?_
        refine ev_get hC fl_X3_30_3 (mw 0 rfl) rfl dX3_capEaten_11 ?_
        refine ev_iload_n hC dX3_capEaten_14 rfl 1 rfl ?_
        refine ev_sipush (v := (nI 9999)) hC dX3_capEaten_15 (by decide) ?_
        refine ev_aload_n hC dX3_capEaten_18 rfl 0 rfl ?_
        refine ev_get hC fl_X3_30_3 (mw 0 rfl) rfl dX3_capEaten_19 ?_
        refine ev_iload_n hC dX3_capEaten_22 rfl 1 rfl ?_
        refine ev_ialdN (i := i) hC (mw 6 rfl) (by omega) (by omega) dX3_capEaten_23 ?_
        refine ev_top (y := ((capF S i) (26 + i))) (vwn_at (by omega)) ?_
        refine ev_top (y := (S (26 + i))) (if_neg (by omega)) ?_
        have hea := (hW.eaten i (by omega))
        have hel := hea.lt
        refine ev_top (y := (nI (sn S (26 + i)))) hea.eq ?_
        refine ev_mmin hC ⟨(ft_in 734 (by decide +kernel) rfl), (ft_in 382 (by decide +kernel) rfl), (ft_in 68 (by decide +kernel) rfl), (ft_in 383 (by decide +kernel) rfl)⟩ (by omega) (Nat.le_of_ble_eq_true rfl) dX3_capEaten_24 ?_
        refine ev_top (y := (nI (min 9999 (sn S (26 + i))))) (mnN (by omega) (by omega)) ?_
        refine ev_top (y := (wiF (S (26 + i)) (nI 0) (nI 9999))) ((mnN (by omega) hel).symm.trans ((cap_eq hel).trans (by rw [← hea.eq]))) ?_
        refine ev_iastN (i := i) (ws' := (MO G b (vwn (capF S i) 2 6) tk os (vwn (capF S i) 14 6) (vwn (capF S i) 20 6) (upd (vwn (capF S i) 26 6) i (wiF (S (26 + i)) (nI 0) (nI 9999))) (vwn (capF S i) 51 24) le ((capF S i) 32) (bitF (capF S i)) ((capF S i) 0) ((capF S i) 1) t ((capF S i) 33) mu wa)) (q0 := 6) hC rfl (by omega) (by omega) rfl dX3_capEaten_27 ?_
        refine ev_iinc (v := (nI (i + 1))) (lv' := [(1, .int (nI (i + 1))), (0, .ref (b 0))]) hC dX3_capEaten_28 (q := 1) rfl (nI_k _ _ 1 (by decide)) (by decide) rfl ?_
        refine ev_goto (tgt := 2) hC dX3_capEaten_31 (by decide) ?_
        refine ev_lv [1, 0] rfl ?_
        refine ev_ws (ws' := (MO G b (vwn (capF S (i + 1)) 2 6) tk os (vwn (capF S (i + 1)) 14 6) (vwn (capF S (i + 1)) 20 6) (vwn (capF S (i + 1)) 26 6) (vwn (capF S (i + 1)) 51 24) le ((capF S (i + 1)) 32) (bitF (capF S (i + 1))) ((capF S (i + 1)) 0) ((capF S (i + 1)) 1) t ((capF S (i + 1)) 33) mu wa)) (mo_eq (Agr.vw (fun j hj => (capF_agr S (i := i + 1) (by omega) j hj).trans (capF_agr S (i := i) (by omega) j hj).symm : Agr 26 32 (capF S i) (capF S (i + 1))) (by omega)) rfl rfl (Agr.vw (fun j hj => (capF_agr S (i := i + 1) (by omega) j hj).trans (capF_agr S (i := i) (by omega) j hj).symm : Agr 26 32 (capF S i) (capF S (i + 1))) (by omega)) (Agr.vw (fun j hj => (capF_agr S (i := i + 1) (by omega) j hj).trans (capF_agr S (i := i) (by omega) j hj).symm : Agr 26 32 (capF S i) (capF S (i + 1))) (by omega)) (by rw [vwn_upd (by omega), capF_s]) (Agr.vw (fun j hj => (capF_agr S (i := i + 1) (by omega) j hj).trans (capF_agr S (i := i) (by omega) j hj).symm : Agr 26 32 (capF S i) (capF S (i + 1))) (by omega)) rfl ((fun j hj => (capF_agr S (i := i + 1) (by omega) j hj).trans (capF_agr S (i := i) (by omega) j hj).symm : Agr 26 32 (capF S i) (capF S (i + 1))) _ (by omega)).symm (Agr.bit (fun j hj => (capF_agr S (i := i + 1) (by omega) j hj).trans (capF_agr S (i := i) (by omega) j hj).symm : Agr 26 32 (capF S i) (capF S (i + 1))) (by omega)) ((fun j hj => (capF_agr S (i := i + 1) (by omega) j hj).trans (capF_agr S (i := i) (by omega) j hj).symm : Agr 26 32 (capF S i) (capF S (i + 1))) _ (by omega)).symm ((fun j hj => (capF_agr S (i := i + 1) (by omega) j hj).trans (capF_agr S (i := i) (by omega) j hj).symm : Agr 26 32 (capF S i) (capF S (i + 1))) _ (by omega)).symm ((fun j hj => (capF_agr S (i := i + 1) (by omega) j hj).trans (capF_agr S (i := i) (by omega) j hj).symm : Agr 26 32 (capF S i) (capF S (i + 1))) _ (by omega)).symm rfl rfl) ?_
        exact ih (i + 1) (by omega) (by omega)
  refine ev_ws (ws' := (MO G b (vwn (capF S 0) 2 6) tk os (vwn (capF S 0) 14 6) (vwn (capF S 0) 20 6) (vwn (capF S 0) 26 6) (vwn (capF S 0) 51 24) le ((capF S 0) 32) (bitF (capF S 0)) ((capF S 0) 0) ((capF S 0) 1) t ((capF S 0) 33) mu wa)) (mo_eq (by rw [capF_0]) rfl rfl (by rw [capF_0]) (by rw [capF_0]) (by rw [capF_0]) (by rw [capF_0]) rfl (by rw [capF_0]) (by rw [capF_0]) (by rw [capF_0]) (by rw [capF_0]) (by rw [capF_0]) rfl rfl) ?_
  refine ev_lv [1, 0] rfl ?_
  exact lp_2 (sn S 32 - 0 + 1) 0 (by omega) (Nat.lt_succ_self _)

set_option maxHeartbeats 4000000 in
set_option maxRecDepth 100000 in
theorem m_X3_risesOf (G : GG) (ro : va_W) (b : Nat → Nat) (S tk le : Nat → Int32) (os : Nat → Option Nat) (t tc : Nat) (mu wa : Int32) (p : Nat) {DD EE : Nat} (hW : WF S DD EE) (hO : MoOK G ro tc S os t) (hp : p < sn S 32) : Mth G M_X3_risesOf 4 0 0 [.ref (b 0), .int (nI p)] (MO G b (vwn S 2 6) tk os (vwn S 14 6) (vwn S 20 6) (vwn S 26 6) (vwn S 51 24) le (S 32) (bitF S) (S 0) (S 1) t (S 33) mu wa) ro (fun r ws' ro' => r = some (.int (risF S p)) ∧ ws' = (MO G b (vwn S 2 6) tk os (vwn S 14 6) (vwn S 20 6) (vwn S 26 6) (vwn S 51 24) (byF S p) (S 32) (bitF S) (S 0) (S 1) t (S 33) mu wa) ∧ ro = ro') := by
  refine mth_of (by decide +kernel) (Nat.le_of_ble_eq_true rfl) (fun X hC hR => ?_)
  have b32 := hW.peo.le
  obtain ⟨r, hr1, hr2⟩ := hO.1 p (by omega)
  obtain ⟨kd, hkd⟩ : ∃ kd, kd = sn S (39 + p) := ⟨_, rfl⟩
  rw [← hkd] at hr2
  have hk6 : kd ≤ 6 := by rw [hkd]; exact (hW.kind p (by omega)).le
  have hv9 := (hW.v p (by omega)).le
  obtain ⟨ta1, ta2, ta3, hTr, -, -, -⟩ := id hO.2.2
  have b14 := (hW.side p (by omega)).le
  have bday := hW.day.lt
  have bmod := Nat.mod_lt (sn S 0) (show 0 < 4 by omega)
  show Ev G X 0 0 0 [(0, .ref (b 0)), (1, .int (nI p))] [] (MO G b (vwn S 2 6) tk os (vwn S 14 6) (vwn S 20 6) (vwn S 26 6) (vwn S 51 24) le (S 32) (bitF S) (S 0) (S 1) t (S 33) mu wa) ro
  refine ev_aload_n hC dX3_risesOf_0 rfl 0 rfl ?_
  refine ev_get hC fl_X3_20_3 (mw 0 rfl) rfl dX3_risesOf_1 ?_
  refine ev_iload_n hC dX3_risesOf_4 rfl 1 rfl ?_
  refine ev_aaldN (i := p) (r := r) hC (mw 3 rfl) (by omega) (by omega) hr1 dX3_risesOf_5 ?_
  refine ev_astore_n (lv' := [(2, .ref r), (0, .ref (b 0)), (1, .int (nI p))]) hC dX3_risesOf_6 rfl (by decide) rfl ?_
  refine ev_aload_n hC dX3_risesOf_7 rfl 1 rfl ?_
  refine ev_get hC fl_X3_38_3 (mw 0 rfl) rfl dX3_risesOf_8 ?_
  refine ev_iconst (v := (nI 0)) hC dX3_risesOf_11 (by decide) ?_
  refine ev_iload_n hC dX3_risesOf_12 rfl 2 rfl ?_
  refine ev_iastN (i := 0) (ws' := (MO G b (vwn S 2 6) tk os (vwn S 14 6) (vwn S 20 6) (vwn S 26 6) (vwn S 51 24) (upd le 0 (nI p)) (S 32) (bitF S) (S 0) (S 1) t (S 33) mu wa)) (q0 := 8) hC rfl (by omega) (by omega) rfl dX3_risesOf_13 ?_
  refine ev_aload_n hC dX3_risesOf_14 rfl 1 rfl ?_
  refine ev_get hC fl_X3_38_3 (mw 0 rfl) rfl dX3_risesOf_15 ?_
  refine ev_iconst (v := (nI 1)) hC dX3_risesOf_18 (by decide) ?_
  refine ev_aload_n hC dX3_risesOf_19 rfl 0 rfl ?_
  refine ev_get hC (flk_X3_97 hk6) (mr hr2) rfl dX3_risesOf_20 ?_
  refine ev_iastN (i := 1) (ws' := (MO G b (vwn S 2 6) tk os (vwn S 14 6) (vwn S 20 6) (vwn S 26 6) (vwn S 51 24) (upd (upd le 0 (nI p)) 1 (nI kd)) (S 32) (bitF S) (S 0) (S 1) t (S 33) mu wa)) (q0 := 8) hC rfl (by omega) (by omega) rfl dX3_risesOf_23 ?_
  refine ev_aload_n hC dX3_risesOf_24 rfl 1 rfl ?_
  refine ev_get hC fl_X3_38_3 (mw 0 rfl) rfl dX3_risesOf_25 ?_
  refine ev_iconst (v := (nI 2)) hC dX3_risesOf_28 (by decide) ?_
  refine ev_aload_n hC dX3_risesOf_29 rfl 0 rfl ?_
  refine ev_get hC (flk_X3_100 hk6) (mr hr2) rfl dX3_risesOf_30 ?_
  refine ev_iastN (i := 2) (ws' := (MO G b (vwn S 2 6) tk os (vwn S 14 6) (vwn S 20 6) (vwn S 26 6) (vwn S 51 24) (upd (upd (upd le 0 (nI p)) 1 (nI kd)) 2 (nI (sn S (45 + p)))) (S 32) (bitF S) (S 0) (S 1) t (S 33) mu wa)) (q0 := 8) hC rfl (by omega) (by omega) rfl dX3_risesOf_33 ?_
  refine ev_aload_n hC dX3_risesOf_34 rfl 1 rfl ?_
  refine ev_get hC fl_X3_38_3 (mw 0 rfl) rfl dX3_risesOf_35 ?_
  refine ev_iconst (v := (nI 3)) hC dX3_risesOf_38 (by decide) ?_
  refine ev_aload_n hC dX3_risesOf_39 rfl 1 rfl ?_
  refine ev_get hC fl_X3_24_3 (mw 0 rfl) rfl dX3_risesOf_40 ?_
  refine ev_iload_n hC dX3_risesOf_43 rfl 2 rfl ?_
  refine ev_ialdN (i := p) hC (mw 4 rfl) (by omega) (by omega) dX3_risesOf_44 ?_
  refine ev_top (y := (S (14 + p))) (vwn_at (by omega)) ?_
  have bk_1 : NB S (14 + p) _ := (hW.side p (by omega))
  have k_1 := bk_1.eq
  have lk_1 := bk_1.le
  have mk_1 := bk_1.lt
  refine ev_top (y := (nI (sn S (14 + p)))) k_1 ?_
  refine ev_iastN (i := 3) (ws' := (MO G b (vwn S 2 6) tk os (vwn S 14 6) (vwn S 20 6) (vwn S 26 6) (vwn S 51 24) (upd (upd (upd (upd le 0 (nI p)) 1 (nI kd)) 2 (nI (sn S (45 + p)))) 3 (nI (sn S (14 + p)))) (S 32) (bitF S) (S 0) (S 1) t (S 33) mu wa)) (q0 := 8) hC rfl (by omega) (by omega) rfl dX3_risesOf_45 ?_
  refine ev_aload_n hC dX3_risesOf_46 rfl 1 rfl ?_
  refine ev_get hC fl_X3_38_3 (mw 0 rfl) rfl dX3_risesOf_47 ?_
  refine ev_iconst (v := (nI 4)) hC dX3_risesOf_50 (by decide) ?_
  refine ev_aload_n hC dX3_risesOf_51 rfl 1 rfl ?_
  refine ev_get hC fl_X3_27_3 (mw 0 rfl) rfl dX3_risesOf_52 ?_
  refine ev_iload_n hC dX3_risesOf_55 rfl 2 rfl ?_
  refine ev_ialdN (i := p) hC (mw 5 rfl) (by omega) (by omega) dX3_risesOf_56 ?_
  refine ev_top (y := (S (20 + p))) (vwn_at (by omega)) ?_
  have bk_2 : NB S (20 + p) _ := (hW.grudge p (by omega))
  have k_2 := bk_2.eq
  have lk_2 := bk_2.le
  have mk_2 := bk_2.lt
  refine ev_top (y := (nI (sn S (20 + p)))) k_2 ?_
  refine ev_bipush (v := (nI 10)) hC dX3_risesOf_57 (by decide) ?_
  refine ev_idiv hC dX3_risesOf_59 (by decide) ?_
  refine ev_top (y := (nI ((sn S (20 + p)) / 10))) (pk_div (by omega) (by omega) (by omega)) ?_
  refine ev_iastN (i := 4) (ws' := (MO G b (vwn S 2 6) tk os (vwn S 14 6) (vwn S 20 6) (vwn S 26 6) (vwn S 51 24) (upd (upd (upd (upd (upd le 0 (nI p)) 1 (nI kd)) 2 (nI (sn S (45 + p)))) 3 (nI (sn S (14 + p)))) 4 (nI ((sn S (20 + p)) / 10))) (S 32) (bitF S) (S 0) (S 1) t (S 33) mu wa)) (q0 := 8) hC rfl (by omega) (by omega) rfl dX3_risesOf_60 ?_
  refine ev_aload_n hC dX3_risesOf_61 rfl 1 rfl ?_
  refine ev_get hC fl_X3_38_3 (mw 0 rfl) rfl dX3_risesOf_62 ?_
  refine ev_iconst (v := (nI 5)) hC dX3_risesOf_65 (by decide) ?_
  refine ev_aload_n hC dX3_risesOf_66 rfl 1 rfl ?_
  refine ev_get hC fl_X3_48_3 (mw 0 rfl) rfl dX3_risesOf_67 ?_
  have bk_3 : NB S 0 _ := hW.day
  have k_3 := bk_3.eq
  have lk_3 := bk_3.le
  have mk_3 := bk_3.lt
  refine ev_top (y := (nI (sn S 0))) k_3 ?_
  refine ev_bipush (v := (nI 10)) hC dX3_risesOf_70 (by decide) ?_
  refine ev_irem hC dX3_risesOf_72 (by decide) ?_
  refine ev_top (y := (nI ((sn S 0) % 10))) (pk_rem (by omega) (by omega) (by omega)) ?_
  refine ev_iastN (i := 5) (ws' := (MO G b (vwn S 2 6) tk os (vwn S 14 6) (vwn S 20 6) (vwn S 26 6) (vwn S 51 24) (upd (upd (upd (upd (upd (upd le 0 (nI p)) 1 (nI kd)) 2 (nI (sn S (45 + p)))) 3 (nI (sn S (14 + p)))) 4 (nI ((sn S (20 + p)) / 10))) 5 (nI ((sn S 0) % 10))) (S 32) (bitF S) (S 0) (S 1) t (S 33) mu wa)) (q0 := 8) hC rfl (by omega) (by omega) rfl dX3_risesOf_73 ?_
  refine ev_aload_n hC dX3_risesOf_74 rfl 1 rfl ?_
  refine ev_get hC fl_X3_33_3 (mw 0 rfl) rfl dX3_risesOf_75 ?_
  refine ev_iload_n hC dX3_risesOf_78 rfl 2 rfl ?_
  refine ev_iconst (v := (nI 4)) hC dX3_risesOf_79 (by decide) ?_
  refine ev_imul hC dX3_risesOf_80 ?_
  refine ev_top (y := (nI (p * 4))) (pk_mul _ _) ?_
  refine ev_aload_n hC dX3_risesOf_81 rfl 1 rfl ?_
  refine ev_get hC fl_X3_48_3 (mw 0 rfl) rfl dX3_risesOf_82 ?_
  have bk_4 : NB S 0 _ := hW.day
  have k_4 := bk_4.eq
  have lk_4 := bk_4.le
  have mk_4 := bk_4.lt
  refine ev_top (y := (nI (sn S 0))) k_4 ?_
  refine ev_iconst (v := (nI 4)) hC dX3_risesOf_85 (by decide) ?_
  refine ev_irem hC dX3_risesOf_86 (by decide) ?_
  refine ev_top (y := (nI ((sn S 0) % 4))) (pk_rem (by omega) (by omega) (by omega)) ?_
  refine ev_iadd hC dX3_risesOf_87 ?_
  refine ev_top (y := (nI ((p * 4) + ((sn S 0) % 4)))) ((nI_add _ _).trans (congrArg nI (by omega))) ?_
  refine ev_ialdN (i := (p * 4) + ((sn S 0) % 4)) hC (mw 7 rfl) (by omega) (by omega) dX3_risesOf_88 ?_
  refine ev_top (y := (S (51 + ((p * 4) + ((sn S 0) % 4))))) (vwn_at (by omega)) ?_
  have bk_5 : NB S (51 + ((p * 4) + ((sn S 0) % 4))) _ := ((hW.row ((p * 4) + ((sn S 0) % 4)) (by omega)).congr (congrArg S (by omega)))
  have k_5 := bk_5.eq
  have lk_5 := bk_5.le
  have mk_5 := bk_5.lt
  refine ev_top (y := (nI (sn S (51 + ((p * 4) + ((sn S 0) % 4)))))) k_5 ?_
  have brow := hW.row (p * 4 + sn S 0 % 4) (by omega)
  have brw := brow.le
  refine ev_istore_n (lv' := [(3, .int (nI (sn S (51 + ((p * 4) + ((sn S 0) % 4)))))), (2, .ref r), (0, .ref (b 0)), (1, .int (nI p))]) hC dX3_risesOf_89 rfl (by decide) rfl ?_
  refine ev_ext (ws' := (MO G b (vwn S 2 6) tk os (vwn S 14 6) (vwn S 20 6) (vwn S 26 6) (vwn S 51 24) (byF S p) (S 32) (bitF S) (S 0) (S 1) t (S 33) mu wa)) (q0 := 8) rfl (fun j hj => ?_) rfl ?_
  · rcases (show j = 0 ∨ j = 1 ∨ j = 2 ∨ j = 3 ∨ j = 4 ∨ j = 5 by omega) with rfl | rfl | rfl | rfl | rfl | rfl <;> simp [upd, byF, hkd, (hW.kind p (by omega)).eq, (hW.v p (by omega)).eq, (hW.side p (by omega)).eq, (hW.grudge p (by omega)).eq, hW.day.eq, pk_div (show sn S (20 + p) < 2 ^ 31 from (hW.grudge p (by omega)).lt) (show 0 < 10 by omega) (show 10 < 2 ^ 31 by omega), pk_rem (show sn S 0 < 2 ^ 31 from hW.day.lt) (show 0 < 10 by omega) (show 10 < 2 ^ 31 by omega)]
  refine ev_aload_n hC dX3_risesOf_90 rfl 1 rfl ?_
  refine ev_aload_n hC dX3_risesOf_91 rfl 2 rfl ?_
  refine ev_get hC fl_X3_64_3 (mw 0 rfl) rfl dX3_risesOf_92 ?_
  refine ev_aload_n hC dX3_risesOf_95 rfl 2 rfl ?_
  refine ev_get hC fl_X3_38_3 (mw 0 rfl) rfl dX3_risesOf_96 ?_
  refine ev_callV (As := [.ref (b 8)]) (st := [.ref r]) (wc := [((b 8), ia G 6 (byF S p))]) (wf := [((b 0), ob 3 [.ref (b 1), .ref (b 2), .ref (b 3), .ref (b 4), .ref (b 5), .ref (b 6), .ref (b 7), .ref (b 8), .int (S 32), .int (bitF S), .int (S 0), .int (S 1), .ref t, .int (S 33), .int mu, .int wa]), ((b 1), ia G 6 (vwn S 2 6)), ((b 2), ia G 6 tk), ((b 3), pa G 6 os), ((b 4), ia G 6 (vwn S 14 6)), ((b 5), ia G 6 (vwn S 20 6)), ((b 6), ia G 6 (vwn S 26 6)), ((b 7), ia G 24 (vwn S 51 24))]) hC cv_X3_103 (m_X10_anger G ro t (b 8) (byF S p) (rainF S) (needF S) (hlL S) hO.2.2 (hlL_ok hW.hold).1 (hlL_ok hW.hold).2) (by omega) rfl rfl (Nat.le_of_ble_eq_true rfl) (perm_ks [8, 0, 1, 2, 3, 4, 5, 6, 7] (show List.Perm _ (List.range 9) by decide) rfl) (mr hTr) rfl dX3_risesOf_99 (by omega) (by omega) ?_
  rintro _ _ _ ⟨rfl, rfl, rfl⟩
  refine ev_perm (ws' := (MO G b (vwn S 2 6) tk os (vwn S 14 6) (vwn S 20 6) (vwn S 26 6) (vwn S 51 24) (byF S p) (S 32) (bitF S) (S 0) (S 1) t (S 33) mu wa)) (perm_ks [1, 2, 3, 4, 5, 6, 7, 8, 0] (show List.Perm _ (List.range 9) by decide) rfl) ?_
  show Ev G X 0 0 102 [(3, .int (nI (sn S (51 + ((p * 4) + ((sn S 0) % 4)))))), (2, .ref r), (0, .ref (b 0)), (1, .int (nI p))] [.int (evL (byF S p) (hlL S) [] (nI 0)), .ref r] (MO G b (vwn S 2 6) tk os (vwn S 14 6) (vwn S 20 6) (vwn S 26 6) (vwn S 51 24) (byF S p) (S 32) (bitF S) (S 0) (S 1) t (S 33) mu wa) ro
  refine ev_top (y := (angF S p)) (ang_eq S p) ?_
  refine ev_aload_n hC dX3_risesOf_102 rfl 2 rfl ?_
  refine ev_aload_n hC dX3_risesOf_103 rfl 2 rfl ?_
  refine ev_get hC fl_X3_24_3 (mw 0 rfl) rfl dX3_risesOf_104 ?_
  refine ev_iload_n hC dX3_risesOf_107 rfl 3 rfl ?_
  refine ev_ialdN (i := p) hC (mw 4 rfl) (by omega) (by omega) dX3_risesOf_108 ?_
  refine ev_top (y := (S (14 + p))) (vwn_at (by omega)) ?_
  have bk_6 : NB S (14 + p) _ := (hW.side p (by omega))
  have k_6 := bk_6.eq
  have lk_6 := bk_6.le
  have mk_6 := bk_6.lt
  refine ev_top (y := (nI (sn S (14 + p)))) k_6 ?_
  refine ev_callV (As := [.int (nI (sn S (14 + p)))]) (st := [.int (angF S p), .ref r]) (wf := []) hC cv_X3_107 (m_X3_saltAt G ro b S tk (byF S p) os t tc mu wa (sn S (14 + p))  hW (by omega)) (by omega) rfl rfl (Nat.le_of_ble_eq_true rfl) (List.Perm.of_eq (List.append_nil _).symm) (mw 0 rfl) rfl dX3_risesOf_109 (by omega) (by omega) ?_
  rintro _ _ _ ⟨rfl, rfl, rfl⟩
  refine ev_ws (List.append_nil _) ?_
  show Ev G X 0 0 112 [(3, .int (nI (sn S (51 + ((p * 4) + ((sn S 0) % 4)))))), (2, .ref r), (0, .ref (b 0)), (1, .int (nI p))] [.int (S (2 + sn S (14 + p))), .int (angF S p), .ref r] (MO G b (vwn S 2 6) tk os (vwn S 14 6) (vwn S 20 6) (vwn S 26 6) (vwn S 51 24) (byF S p) (S 32) (bitF S) (S 0) (S 1) t (S 33) mu wa) ro
  have bk_7 : NB S (2 + sn S (14 + p)) _ := ((hW.salt (sn S (14 + p)) (by omega)).congr (congrArg S (by omega)))
  have k_7 := bk_7.eq
  have lk_7 := bk_7.le
  have mk_7 := bk_7.lt
  refine ev_top (y := (nI (sn S (2 + sn S (14 + p))))) k_7 ?_
  have bsalt := hW.salt (sn S (14 + p)) (by omega)
  have bsl := bsalt.le
  refine ev_iload_n hC dX3_risesOf_112 rfl 0 rfl ?_
  refine ev_aload_n hC dX3_risesOf_113 rfl 2 rfl ?_
  refine ev_get hC fl_X3_48_3 (mw 0 rfl) rfl dX3_risesOf_114 ?_
  have bk_8 : NB S 0 _ := hW.day
  have k_8 := bk_8.eq
  have lk_8 := bk_8.le
  have mk_8 := bk_8.lt
  refine ev_top (y := (nI (sn S 0))) k_8 ?_
  rcases (show kd = 0 ∨ kd = 1 ∨ kd = 2 ∨ kd = 3 ∨ kd = 4 ∨ kd = 5 ∨ kd = 6 by omega) with rfl | rfl | rfl | rfl | rfl | rfl | rfl
  · have he : (r, ob 4 [.int (nI 0), .int (nI p), .int (nI (sn S (45 + p))), .ref tc]) ∈ ro := hr2
    refine ev_callU (As := [.int (angF S p), .int (nI (sn S (2 + sn S (14 + p)))), .int (nI (sn S (51 + ((p * 4) + ((sn S 0) % 4))))), .int (nI (sn S 0))]) (st := []) (wc := []) (wf := (MO G b (vwn S 2 6) tk os (vwn S 14 6) (vwn S 20 6) (vwn S 26 6) (vwn S 51 24) (byF S p) (S 32) (bitF S) (S 0) (S 1) t (S 33) mu wa)) hC cu_X3_111_4 (m_X4_rises_k0 G ro r tc p (sn S (45 + p)) he (by omega) (angF S p) (sn S (2 + sn S (14 + p))) (sn S (51 + ((p * 4) + ((sn S 0) % 4)))) (sn S 0) (by omega) (by omega) (by omega)) (by omega) rfl rfl (Nat.le_of_ble_eq_true rfl) (List.Perm.refl _) (mr he) rfl dX3_risesOf_117 (by omega) (by omega) ?_
    rintro _ _ _ ⟨rfl, rfl, rfl⟩
    refine ev_ws (List.nil_append _) ?_
    show Ev G X 0 0 120 [(3, .int (nI (sn S (51 + ((p * 4) + ((sn S 0) % 4)))))), (2, .ref r), (0, .ref (b 0)), (1, .int (nI p))] [.int (angF S p)] (MO G b (vwn S 2 6) tk os (vwn S 14 6) (vwn S 20 6) (vwn S 26 6) (vwn S 51 24) (byF S p) (S 32) (bitF S) (S 0) (S 1) t (S 33) mu wa) ro
    refine ev_iret hC hR rfl dX3_risesOf_120 ?_
    have hk := hkd.symm
    have er : risF S p = (angF S p) := by
      unfold risF
      rw [hk, if_neg (by omega), if_neg (by omega), if_neg (by omega), if_neg (by omega), if_neg (by omega), if_neg (by omega)]
    exact ⟨by rw [er], rfl, rfl⟩
  · have he : (r, ob 1 [.int (nI 1), .int (nI p), .int (nI (sn S (45 + p))), .ref tc]) ∈ ro := hr2
    refine ev_callU (As := [.int (angF S p), .int (nI (sn S (2 + sn S (14 + p)))), .int (nI (sn S (51 + ((p * 4) + ((sn S 0) % 4))))), .int (nI (sn S 0))]) (st := []) (wc := []) (wf := (MO G b (vwn S 2 6) tk os (vwn S 14 6) (vwn S 20 6) (vwn S 26 6) (vwn S 51 24) (byF S p) (S 32) (bitF S) (S 0) (S 1) t (S 33) mu wa)) hC cu_X3_111_1 (m_X1_rises_k1 G ro r tc p (sn S (45 + p)) he (by omega) (angF S p) (sn S (2 + sn S (14 + p))) (sn S (51 + ((p * 4) + ((sn S 0) % 4)))) (sn S 0) (by omega) (by omega) (by omega)) (by omega) rfl rfl (Nat.le_of_ble_eq_true rfl) (List.Perm.refl _) (mr he) rfl dX3_risesOf_117 (by omega) (by omega) ?_
    rintro _ _ _ ⟨rfl, rfl, rfl⟩
    refine ev_ws (List.nil_append _) ?_
    show Ev G X 0 0 120 [(3, .int (nI (sn S (51 + ((p * 4) + ((sn S 0) % 4)))))), (2, .ref r), (0, .ref (b 0)), (1, .int (nI p))] [.int ((angF S p) / (nI 2))] (MO G b (vwn S 2 6) tk os (vwn S 14 6) (vwn S 20 6) (vwn S 26 6) (vwn S 51 24) (byF S p) (S 32) (bitF S) (S 0) (S 1) t (S 33) mu wa) ro
    refine ev_iret hC hR rfl dX3_risesOf_120 ?_
    have hk := hkd.symm
    have er : risF S p = ((angF S p) / (nI 2)) := by
      unfold risF
      rw [hk, if_pos rfl]
    exact ⟨by rw [er], rfl, rfl⟩
  · have he : (r, ob 0 [.int (nI 2), .int (nI p), .int (nI (sn S (45 + p))), .ref tc]) ∈ ro := hr2
    refine ev_callU (As := [.int (angF S p), .int (nI (sn S (2 + sn S (14 + p)))), .int (nI (sn S (51 + ((p * 4) + ((sn S 0) % 4))))), .int (nI (sn S 0))]) (st := []) (wc := []) (wf := (MO G b (vwn S 2 6) tk os (vwn S 14 6) (vwn S 20 6) (vwn S 26 6) (vwn S 51 24) (byF S p) (S 32) (bitF S) (S 0) (S 1) t (S 33) mu wa)) hC cu_X3_111_0 (m_X0_rises_k2 G ro r tc p (sn S (45 + p)) he (by omega) (angF S p) (sn S (2 + sn S (14 + p))) (sn S (51 + ((p * 4) + ((sn S 0) % 4)))) (sn S 0) (by omega) (by omega) (by omega)) (by omega) rfl rfl (Nat.le_of_ble_eq_true rfl) (List.Perm.refl _) (mr he) rfl dX3_risesOf_117 (by omega) (by omega) ?_
    rintro _ _ _ ⟨rfl, rfl, rfl⟩
    refine ev_ws (List.nil_append _) ?_
    show Ev G X 0 0 120 [(3, .int (nI (sn S (51 + ((p * 4) + ((sn S 0) % 4)))))), (2, .ref r), (0, .ref (b 0)), (1, .int (nI p))] [.int ((angF S p) + (nI (sn S (45 + p))))] (MO G b (vwn S 2 6) tk os (vwn S 14 6) (vwn S 20 6) (vwn S 26 6) (vwn S 51 24) (byF S p) (S 32) (bitF S) (S 0) (S 1) t (S 33) mu wa) ro
    refine ev_iret hC hR rfl dX3_risesOf_120 ?_
    have hk := hkd.symm
    have er : risF S p = ((angF S p) + (nI (sn S (45 + p)))) := by
      unfold risF
      rw [hk, if_neg (by omega), if_pos rfl]
      have ev := (hW.v p (by omega)).eq
      rw [ev]
    exact ⟨by rw [er], rfl, rfl⟩
  · have he : (r, ob 8 [.int (nI 3), .int (nI p), .int (nI (sn S (45 + p))), .ref tc]) ∈ ro := hr2
    refine ev_callU (As := [.int (angF S p), .int (nI (sn S (2 + sn S (14 + p)))), .int (nI (sn S (51 + ((p * 4) + ((sn S 0) % 4))))), .int (nI (sn S 0))]) (st := []) (wc := []) (wf := (MO G b (vwn S 2 6) tk os (vwn S 14 6) (vwn S 20 6) (vwn S 26 6) (vwn S 51 24) (byF S p) (S 32) (bitF S) (S 0) (S 1) t (S 33) mu wa)) hC cu_X3_111_8 (m_X8_rises_k3 G ro r tc p (sn S (45 + p)) he (by omega) (angF S p) (sn S (2 + sn S (14 + p))) (sn S (51 + ((p * 4) + ((sn S 0) % 4)))) (sn S 0) (by omega) (by omega) (by omega)) (by omega) rfl rfl (Nat.le_of_ble_eq_true rfl) (List.Perm.refl _) (mr he) rfl dX3_risesOf_117 (by omega) (by omega) ?_
    rintro _ _ _ ⟨rfl, rfl, rfl⟩
    refine ev_ws (List.nil_append _) ?_
    show Ev G X 0 0 120 [(3, .int (nI (sn S (51 + ((p * 4) + ((sn S 0) % 4)))))), (2, .ref r), (0, .ref (b 0)), (1, .int (nI p))] [.int (slW (sn S (2 + sn S (14 + p))) (angF S p))] (MO G b (vwn S 2 6) tk os (vwn S 14 6) (vwn S 20 6) (vwn S 26 6) (vwn S 51 24) (byF S p) (S 32) (bitF S) (S 0) (S 1) t (S 33) mu wa) ro
    refine ev_iret hC hR rfl dX3_risesOf_120 ?_
    have hk := hkd.symm
    have er : risF S p = (slW (sn S (2 + sn S (14 + p))) (angF S p)) := by
      unfold risF
      rw [hk, if_neg (by omega), if_neg (by omega), if_pos rfl]
      rfl
    exact ⟨by rw [er], rfl, rfl⟩
  · have he : (r, ob 2 [.int (nI 4), .int (nI p), .int (nI (sn S (45 + p))), .ref tc]) ∈ ro := hr2
    refine ev_callU (As := [.int (angF S p), .int (nI (sn S (2 + sn S (14 + p)))), .int (nI (sn S (51 + ((p * 4) + ((sn S 0) % 4))))), .int (nI (sn S 0))]) (st := []) (wc := []) (wf := (MO G b (vwn S 2 6) tk os (vwn S 14 6) (vwn S 20 6) (vwn S 26 6) (vwn S 51 24) (byF S p) (S 32) (bitF S) (S 0) (S 1) t (S 33) mu wa)) hC cu_X3_111_2 (m_X2_rises_k4 G ro r tc p (sn S (45 + p)) he (by omega) (angF S p) (sn S (2 + sn S (14 + p))) (sn S (51 + ((p * 4) + ((sn S 0) % 4)))) (sn S 0) (by omega) (by omega) (by omega)) (by omega) rfl rfl (Nat.le_of_ble_eq_true rfl) (List.Perm.refl _) (mr he) rfl dX3_risesOf_117 (by omega) (by omega) ?_
    rintro _ _ _ ⟨rfl, rfl, rfl⟩
    refine ev_ws (List.nil_append _) ?_
    show Ev G X 0 0 120 [(3, .int (nI (sn S (51 + ((p * 4) + ((sn S 0) % 4)))))), (2, .ref r), (0, .ref (b 0)), (1, .int (nI p))] [.int ((angF S p) / (nI 2) - (nI (sn S (45 + p))))] (MO G b (vwn S 2 6) tk os (vwn S 14 6) (vwn S 20 6) (vwn S 26 6) (vwn S 51 24) (byF S p) (S 32) (bitF S) (S 0) (S 1) t (S 33) mu wa) ro
    refine ev_iret hC hR rfl dX3_risesOf_120 ?_
    have hk := hkd.symm
    have er : risF S p = ((angF S p) / (nI 2) - (nI (sn S (45 + p)))) := by
      unfold risF
      rw [hk, if_neg (by omega), if_neg (by omega), if_neg (by omega), if_pos rfl]
      have ev := (hW.v p (by omega)).eq
      rw [ev]
    exact ⟨by rw [er], rfl, rfl⟩
  · have he : (r, ob 5 [.int (nI 5), .int (nI p), .int (nI (sn S (45 + p))), .ref tc]) ∈ ro := hr2
    refine ev_callU (As := [.int (angF S p), .int (nI (sn S (2 + sn S (14 + p)))), .int (nI (sn S (51 + ((p * 4) + ((sn S 0) % 4))))), .int (nI (sn S 0))]) (st := []) (wc := []) (wf := (MO G b (vwn S 2 6) tk os (vwn S 14 6) (vwn S 20 6) (vwn S 26 6) (vwn S 51 24) (byF S p) (S 32) (bitF S) (S 0) (S 1) t (S 33) mu wa)) hC cu_X3_111_5 (m_X5_rises_k5 G ro r tc p (sn S (45 + p)) he (by omega) (angF S p) (sn S (2 + sn S (14 + p))) (sn S (51 + ((p * 4) + ((sn S 0) % 4)))) (sn S 0) (by omega) (by omega) (by omega)) (by omega) rfl rfl (Nat.le_of_ble_eq_true rfl) (List.Perm.refl _) (mr he) rfl dX3_risesOf_117 (by omega) (by omega) ?_
    rintro _ _ _ ⟨rfl, rfl, rfl⟩
    refine ev_ws (List.nil_append _) ?_
    show Ev G X 0 0 120 [(3, .int (nI (sn S (51 + ((p * 4) + ((sn S 0) % 4)))))), (2, .ref r), (0, .ref (b 0)), (1, .int (nI p))] [.int (prW (sn S (45 + p)) (sn S 0) (angF S p))] (MO G b (vwn S 2 6) tk os (vwn S 14 6) (vwn S 20 6) (vwn S 26 6) (vwn S 51 24) (byF S p) (S 32) (bitF S) (S 0) (S 1) t (S 33) mu wa) ro
    refine ev_iret hC hR rfl dX3_risesOf_120 ?_
    have hk := hkd.symm
    have er : risF S p = (prW (sn S (45 + p)) (sn S 0) (angF S p)) := by
      unfold risF
      rw [hk, if_neg (by omega), if_neg (by omega), if_neg (by omega), if_neg (by omega), if_pos rfl]
      have ev := (hW.v p (by omega)).eq
      rw [ev, hW.day.eq, nI_add, pk_rem hW.day.lt (by omega) (by omega), prW]
      by_cases z : sn S 0 % (sn S (45 + p) + 2) = 0
      · rw [if_pos z, z, nI_0, if_pos rfl]
      · rw [if_neg z, if_neg (fun y => z ((nI_zI (by have := Nat.mod_lt (sn S 0) (show 0 < sn S (45 + p) + 2 by omega); omega)).mp y))]
    exact ⟨by rw [er], rfl, rfl⟩
  · have he : (r, ob 9 [.int (nI 6), .int (nI p), .int (nI (sn S (45 + p))), .ref tc]) ∈ ro := hr2
    refine ev_callU (As := [.int (angF S p), .int (nI (sn S (2 + sn S (14 + p)))), .int (nI (sn S (51 + ((p * 4) + ((sn S 0) % 4))))), .int (nI (sn S 0))]) (st := []) (wc := []) (wf := (MO G b (vwn S 2 6) tk os (vwn S 14 6) (vwn S 20 6) (vwn S 26 6) (vwn S 51 24) (byF S p) (S 32) (bitF S) (S 0) (S 1) t (S 33) mu wa)) hC cu_X3_111_9 (m_X9_rises_k6 G ro r tc p (sn S (45 + p)) he (by omega) (angF S p) (sn S (2 + sn S (14 + p))) (sn S (51 + ((p * 4) + ((sn S 0) % 4)))) (sn S 0) (by omega) (by omega) (by omega)) (by omega) rfl rfl (Nat.le_of_ble_eq_true rfl) (List.Perm.refl _) (mr he) rfl dX3_risesOf_117 (by omega) (by omega) ?_
    rintro _ _ _ ⟨rfl, rfl, rfl⟩
    refine ev_ws (List.nil_append _) ?_
    show Ev G X 0 0 120 [(3, .int (nI (sn S (51 + ((p * 4) + ((sn S 0) % 4)))))), (2, .ref r), (0, .ref (b 0)), (1, .int (nI p))] [.int (slW (sn S (2 + sn S (14 + p))) (angF S p) + (nI (sn S (51 + ((p * 4) + ((sn S 0) % 4))))))] (MO G b (vwn S 2 6) tk os (vwn S 14 6) (vwn S 20 6) (vwn S 26 6) (vwn S 51 24) (byF S p) (S 32) (bitF S) (S 0) (S 1) t (S 33) mu wa) ro
    refine ev_iret hC hR rfl dX3_risesOf_120 ?_
    have hk := hkd.symm
    have er : risF S p = (slW (sn S (2 + sn S (14 + p))) (angF S p) + (nI (sn S (51 + ((p * 4) + ((sn S 0) % 4)))))) := by
      unfold risF
      rw [hk, if_neg (by omega), if_neg (by omega), if_neg (by omega), if_neg (by omega), if_neg (by omega), if_pos rfl]
      have ew := (hW.row (p * 4 + sn S 0 % 4) (by omega)).eq
      rw [show 51 + 4 * p + sn S 0 % 4 = 51 + (p * 4 + sn S 0 % 4) by omega, ew]
      rfl
    exact ⟨by rw [er], rfl, rfl⟩
