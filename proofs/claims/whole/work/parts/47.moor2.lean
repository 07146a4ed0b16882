set_option maxHeartbeats 4000000 in
set_option maxRecDepth 100000 in
theorem m_X3_takesNow (G : GG) (ro : va_W) (b : Nat → Nat) (S tk le : Nat → Int32) (os : Nat → Option Nat) (t tc : Nat) (mu wa : Int32) (p : Nat) {DD EE : Nat} (hW : WF S DD EE) (hO : MoOK G ro tc S os t) (hp : p < sn S 32) : Mth G M_X3_takesNow 3 0 0 [.ref (b 0), .int (nI p)] (MO G b (vwn S 2 6) tk os (vwn S 14 6) (vwn S 20 6) (vwn S 26 6) (vwn S 51 24) le (S 32) (bitF S) (S 0) (S 1) t (S 33) mu wa) ro (fun r ws' ro' => r = some (.int (tkF mu S p)) ∧ ws' = (MO G b (vwn S 2 6) tk os (vwn S 14 6) (vwn S 20 6) (vwn S 26 6) (vwn S 51 24) le (S 32) (bitF S) (S 0) (S 1) t (S 33) mu wa) ∧ ro = ro') := by
  refine mth_of (by decide +kernel) (Nat.le_of_ble_eq_true rfl) (fun X hC hR => ?_)
  have b32 := hW.peo.le
  obtain ⟨r, hr1, hr2⟩ := hO.1 p (by omega)
  obtain ⟨kd, hkd⟩ : ∃ kd, kd = sn S (39 + p) := ⟨_, rfl⟩
  rw [← hkd] at hr2
  have hk6 : kd ≤ 6 := by rw [hkd]; exact (hW.kind p (by omega)).le
  have hv9 := (hW.v p (by omega)).le
  obtain ⟨ta1, ta2, ta3, hTr, -, -, -⟩ := id hO.2.2
  have b14 := (hW.side p (by omega)).le
  have bday := hW.day.lt
  have bg := (hW.grudge p (by omega)).le
  have bsalt := hW.salt (sn S (14 + p)) (by omega)
  have bsl := bsalt.le
  show Ev G X 0 0 0 [(0, .ref (b 0)), (1, .int (nI p))] [] (MO G b (vwn S 2 6) tk os (vwn S 14 6) (vwn S 20 6) (vwn S 26 6) (vwn S 51 24) le (S 32) (bitF S) (S 0) (S 1) t (S 33) mu wa) ro
  refine ev_iload_n hC dX3_takesNow_0 rfl 1 rfl ?_
  refine ev_aload_n hC dX3_takesNow_1 rfl 0 rfl ?_
  refine ev_get hC fl_X3_58_3 (mw 0 rfl) rfl dX3_takesNow_2 ?_
  refine ev_icmp_ne (tgt := 12) hC dX3_takesNow_5 (by decide) (fun c_1 => ?_) (fun c_1 => ?_)
  · refine ev_aload_n hC dX3_takesNow_12 rfl 0 rfl ?_
    refine ev_get hC fl_X3_20_3 (mw 0 rfl) rfl dX3_takesNow_13 ?_
    refine ev_iload_n hC dX3_takesNow_16 rfl 1 rfl ?_
    refine ev_aaldN (i := p) (r := r) hC (mw 3 rfl) (by omega) (by omega) hr1 dX3_takesNow_17 ?_
    refine ev_aload_n hC dX3_takesNow_18 rfl 0 rfl ?_
    refine ev_get hC fl_X3_27_3 (mw 0 rfl) rfl dX3_takesNow_19 ?_
    refine ev_iload_n hC dX3_takesNow_22 rfl 1 rfl ?_
    refine ev_ialdN (i := p) hC (mw 5 rfl) (by omega) (by omega) dX3_takesNow_23 ?_
    refine ev_top (y := (S (20 + p))) (vwn_at (by omega)) ?_
    have bk_2 : NB S (20 + p) _ := (hW.grudge p (by omega))
    have k_2 := bk_2.eq
    have lk_2 := bk_2.le
    have mk_2 := bk_2.lt
    refine ev_top (y := (nI (sn S (20 + p)))) k_2 ?_
    refine ev_aload_n hC dX3_takesNow_24 rfl 0 rfl ?_
    refine ev_get hC fl_X3_48_3 (mw 0 rfl) rfl dX3_takesNow_25 ?_
    have bk_3 : NB S 0 _ := hW.day
    have k_3 := bk_3.eq
    have lk_3 := bk_3.le
    have mk_3 := bk_3.lt
    refine ev_top (y := (nI (sn S 0))) k_3 ?_
    rcases (show kd = 0 ∨ kd = 1 ∨ kd = 2 ∨ kd = 3 ∨ kd = 4 ∨ kd = 5 ∨ kd = 6 by omega) with rfl | rfl | rfl | rfl | rfl | rfl | rfl
    · have he : (r, ob 4 [.int (nI 0), .int (nI p), .int (nI (sn S (45 + p))), .ref tc]) ∈ ro := hr2
      refine ev_callU (As := [.int (nI (sn S (20 + p))), .int (nI (sn S 0))]) (st := []) (wc := []) (wf := (MO G b (vwn S 2 6) tk os (vwn S 14 6) (vwn S 20 6) (vwn S 26 6) (vwn S 51 24) le (S 32) (bitF S) (S 0) (S 1) t (S 33) mu wa)) hC cu_X3_115_4 (m_X4_mostLicked_k0 G ro r tc p (sn S (45 + p)) he (by omega) (sn S (20 + p)) (sn S 0) (by omega) (by omega)) (by omega) rfl rfl (Nat.le_of_ble_eq_true rfl) (List.Perm.refl _) (mr he) rfl dX3_takesNow_28 (by omega) (by omega) ?_
      rintro _ _ _ ⟨rfl, rfl, rfl⟩
      refine ev_ws (List.nil_append _) ?_
      show Ev G X 0 0 31 [(0, .ref (b 0)), (1, .int (nI p))] [.int (nI 10)] (MO G b (vwn S 2 6) tk os (vwn S 14 6) (vwn S 20 6) (vwn S 26 6) (vwn S 51 24) le (S 32) (bitF S) (S 0) (S 1) t (S 33) mu wa) ro
      refine ev_istore_n (lv' := [(2, .int (nI 10)), (0, .ref (b 0)), (1, .int (nI p))]) hC dX3_takesNow_31 rfl (by decide) rfl ?_
      refine ev_iload_n hC dX3_takesNow_32 rfl 0 rfl ?_
      refine ev_aload_n hC dX3_takesNow_33 rfl 1 rfl ?_
      refine ev_get hC fl_X3_27_3 (mw 0 rfl) rfl dX3_takesNow_34 ?_
      refine ev_iload_n hC dX3_takesNow_37 rfl 2 rfl ?_
      refine ev_ialdN (i := p) hC (mw 5 rfl) (by omega) (by omega) dX3_takesNow_38 ?_
      refine ev_top (y := (S (20 + p))) (vwn_at (by omega)) ?_
      have bk_4 : NB S (20 + p) _ := (hW.grudge p (by omega))
      have k_4 := bk_4.eq
      have lk_4 := bk_4.le
      have mk_4 := bk_4.lt
      refine ev_top (y := (nI (sn S (20 + p)))) k_4 ?_
      refine ev_aload_n hC dX3_takesNow_39 rfl 1 rfl ?_
      refine ev_get hC fl_X3_64_3 (mw 0 rfl) rfl dX3_takesNow_40 ?_
      refine ev_get hC fl_X3_118_10 (mr hTr) rfl dX3_takesNow_43 ?_
      refine ev_imul hC dX3_takesNow_46 ?_
      refine ev_mmin hC ⟨(ft_in 734 (by decide +kernel) rfl), (ft_in 382 (by decide +kernel) rfl), (ft_in 68 (by decide +kernel) rfl), (ft_in 383 (by decide +kernel) rfl)⟩ (by omega) (Nat.le_of_ble_eq_true rfl) dX3_takesNow_47 ?_
      refine ev_aload_n hC dX3_takesNow_50 rfl 1 rfl ?_
      refine ev_aload_n hC dX3_takesNow_51 rfl 1 rfl ?_
      refine ev_get hC fl_X3_24_3 (mw 0 rfl) rfl dX3_takesNow_52 ?_
      refine ev_iload_n hC dX3_takesNow_55 rfl 2 rfl ?_
      refine ev_ialdN (i := p) hC (mw 4 rfl) (by omega) (by omega) dX3_takesNow_56 ?_
      refine ev_top (y := (S (14 + p))) (vwn_at (by omega)) ?_
      have bk_5 : NB S (14 + p) _ := (hW.side p (by omega))
      have k_5 := bk_5.eq
      have lk_5 := bk_5.le
      have mk_5 := bk_5.lt
      refine ev_top (y := (nI (sn S (14 + p)))) k_5 ?_
      refine ev_callV (As := [.int (nI (sn S (14 + p)))]) (st := [.int (mnF (nI 10) ((nI (sn S (20 + p))) * (needF S)))]) (wf := []) hC cv_X3_107 (m_X3_saltAt G ro b S tk le os t tc mu wa (sn S (14 + p))  hW (by omega)) (by omega) rfl rfl (Nat.le_of_ble_eq_true rfl) (List.Perm.of_eq (List.append_nil _).symm) (mw 0 rfl) rfl dX3_takesNow_57 (by omega) (by omega) ?_
      rintro _ _ _ ⟨rfl, rfl, rfl⟩
      refine ev_ws (List.append_nil _) ?_
      show Ev G X 0 0 60 [(2, .int (nI 10)), (0, .ref (b 0)), (1, .int (nI p))] [.int (S (2 + sn S (14 + p))), .int (mnF (nI 10) ((nI (sn S (20 + p))) * (needF S)))] (MO G b (vwn S 2 6) tk os (vwn S 14 6) (vwn S 20 6) (vwn S 26 6) (vwn S 51 24) le (S 32) (bitF S) (S 0) (S 1) t (S 33) mu wa) ro
      have bk_6 : NB S (2 + sn S (14 + p)) _ := ((hW.salt (sn S (14 + p)) (by omega)).congr (congrArg S (by omega)))
      have k_6 := bk_6.eq
      have lk_6 := bk_6.le
      have mk_6 := bk_6.lt
      refine ev_top (y := (nI (sn S (2 + sn S (14 + p))))) k_6 ?_
      refine ev_mmin hC ⟨(ft_in 734 (by decide +kernel) rfl), (ft_in 382 (by decide +kernel) rfl), (ft_in 68 (by decide +kernel) rfl), (ft_in 383 (by decide +kernel) rfl)⟩ (by omega) (Nat.le_of_ble_eq_true rfl) dX3_takesNow_60 ?_
      refine ev_iret hC hR rfl dX3_takesNow_63 ?_
      have hk := hkd.symm
      have el : licF S p = (nI 10) := by
        unfold licF
        rw [hk, if_neg (by omega), if_neg (by omega), if_neg (by omega), if_neg (by omega), if_neg (by omega), if_neg (by omega)]
      have er : tkF mu S p = (mnF (mnF (nI 10) ((nI (sn S (20 + p))) * (needF S))) (nI (sn S (2 + sn S (14 + p))))) := by
        rw [tkF, if_neg (by first | exact c_1 | exact fun z => c_1 z), takF, mn_le, mn_le, el, ← (hW.grudge p (by omega)).eq, ← bsalt.eq]
      exact ⟨by rw [er], rfl, rfl⟩
    · have he : (r, ob 1 [.int (nI 1), .int (nI p), .int (nI (sn S (45 + p))), .ref tc]) ∈ ro := hr2
      refine ev_callU (As := [.int (nI (sn S (20 + p))), .int (nI (sn S 0))]) (st := []) (wc := []) (wf := (MO G b (vwn S 2 6) tk os (vwn S 14 6) (vwn S 20 6) (vwn S 26 6) (vwn S 51 24) le (S 32) (bitF S) (S 0) (S 1) t (S 33) mu wa)) hC cu_X3_115_1 (m_X1_mostLicked_k1 G ro r tc p (sn S (45 + p)) he (by omega) (sn S (20 + p)) (sn S 0) (by omega) (by omega)) (by omega) rfl rfl (Nat.le_of_ble_eq_true rfl) (List.Perm.refl _) (mr he) rfl dX3_takesNow_28 (by omega) (by omega) ?_
      rintro _ _ _ ⟨rfl, rfl, rfl⟩
      refine ev_ws (List.nil_append _) ?_
      show Ev G X 0 0 31 [(0, .ref (b 0)), (1, .int (nI p))] [.int (nI 4)] (MO G b (vwn S 2 6) tk os (vwn S 14 6) (vwn S 20 6) (vwn S 26 6) (vwn S 51 24) le (S 32) (bitF S) (S 0) (S 1) t (S 33) mu wa) ro
      refine ev_istore_n (lv' := [(2, .int (nI 4)), (0, .ref (b 0)), (1, .int (nI p))]) hC dX3_takesNow_31 rfl (by decide) rfl ?_
      refine ev_iload_n hC dX3_takesNow_32 rfl 0 rfl ?_
      refine ev_aload_n hC dX3_takesNow_33 rfl 1 rfl ?_
      refine ev_get hC fl_X3_27_3 (mw 0 rfl) rfl dX3_takesNow_34 ?_
      refine ev_iload_n hC dX3_takesNow_37 rfl 2 rfl ?_
      refine ev_ialdN (i := p) hC (mw 5 rfl) (by omega) (by omega) dX3_takesNow_38 ?_
      refine ev_top (y := (S (20 + p))) (vwn_at (by omega)) ?_
      have bk_7 : NB S (20 + p) _ := (hW.grudge p (by omega))
      have k_7 := bk_7.eq
      have lk_7 := bk_7.le
      have mk_7 := bk_7.lt
      refine ev_top (y := (nI (sn S (20 + p)))) k_7 ?_
      refine ev_aload_n hC dX3_takesNow_39 rfl 1 rfl ?_
      refine ev_get hC fl_X3_64_3 (mw 0 rfl) rfl dX3_takesNow_40 ?_
      refine ev_get hC fl_X3_118_10 (mr hTr) rfl dX3_takesNow_43 ?_
      refine ev_imul hC dX3_takesNow_46 ?_
      refine ev_mmin hC ⟨(ft_in 734 (by decide +kernel) rfl), (ft_in 382 (by decide +kernel) rfl), (ft_in 68 (by decide +kernel) rfl), (ft_in 383 (by decide +kernel) rfl)⟩ (by omega) (Nat.le_of_ble_eq_true rfl) dX3_takesNow_47 ?_
      refine ev_aload_n hC dX3_takesNow_50 rfl 1 rfl ?_
      refine ev_aload_n hC dX3_takesNow_51 rfl 1 rfl ?_
      refine ev_get hC fl_X3_24_3 (mw 0 rfl) rfl dX3_takesNow_52 ?_
      refine ev_iload_n hC dX3_takesNow_55 rfl 2 rfl ?_
      refine ev_ialdN (i := p) hC (mw 4 rfl) (by omega) (by omega) dX3_takesNow_56 ?_
      refine ev_top (y := (S (14 + p))) (vwn_at (by omega)) ?_
      have bk_8 : NB S (14 + p) _ := (hW.side p (by omega))
      have k_8 := bk_8.eq
      have lk_8 := bk_8.le
      have mk_8 := bk_8.lt
      refine ev_top (y := (nI (sn S (14 + p)))) k_8 ?_
      refine ev_callV (As := [.int (nI (sn S (14 + p)))]) (st := [.int (mnF (nI 4) ((nI (sn S (20 + p))) * (needF S)))]) (wf := []) hC cv_X3_107 (m_X3_saltAt G ro b S tk le os t tc mu wa (sn S (14 + p))  hW (by omega)) (by omega) rfl rfl (Nat.le_of_ble_eq_true rfl) (List.Perm.of_eq (List.append_nil _).symm) (mw 0 rfl) rfl dX3_takesNow_57 (by omega) (by omega) ?_
      rintro _ _ _ ⟨rfl, rfl, rfl⟩
      refine ev_ws (List.append_nil _) ?_
      show Ev G X 0 0 60 [(2, .int (nI 4)), (0, .ref (b 0)), (1, .int (nI p))] [.int (S (2 + sn S (14 + p))), .int (mnF (nI 4) ((nI (sn S (20 + p))) * (needF S)))] (MO G b (vwn S 2 6) tk os (vwn S 14 6) (vwn S 20 6) (vwn S 26 6) (vwn S 51 24) le (S 32) (bitF S) (S 0) (S 1) t (S 33) mu wa) ro
      have bk_9 : NB S (2 + sn S (14 + p)) _ := ((hW.salt (sn S (14 + p)) (by omega)).congr (congrArg S (by omega)))
      have k_9 := bk_9.eq
      have lk_9 := bk_9.le
      have mk_9 := bk_9.lt
      refine ev_top (y := (nI (sn S (2 + sn S (14 + p))))) k_9 ?_
      refine ev_mmin hC ⟨(ft_in 734 (by decide +kernel) rfl), (ft_in 382 (by decide +kernel) rfl), (ft_in 68 (by decide +kernel) rfl), (ft_in 383 (by decide +kernel) rfl)⟩ (by omega) (Nat.le_of_ble_eq_true rfl) dX3_takesNow_60 ?_
      refine ev_iret hC hR rfl dX3_takesNow_63 ?_
      have hk := hkd.symm
      have el : licF S p = (nI 4) := by
        unfold licF
        rw [hk, if_pos rfl]
      have er : tkF mu S p = (mnF (mnF (nI 4) ((nI (sn S (20 + p))) * (needF S))) (nI (sn S (2 + sn S (14 + p))))) := by
        rw [tkF, if_neg (by first | exact c_1 | exact fun z => c_1 z), takF, mn_le, mn_le, el, ← (hW.grudge p (by omega)).eq, ← bsalt.eq]
      exact ⟨by rw [er], rfl, rfl⟩
    · have he : (r, ob 0 [.int (nI 2), .int (nI p), .int (nI (sn S (45 + p))), .ref tc]) ∈ ro := hr2
      refine ev_callU (As := [.int (nI (sn S (20 + p))), .int (nI (sn S 0))]) (st := []) (wc := []) (wf := (MO G b (vwn S 2 6) tk os (vwn S 14 6) (vwn S 20 6) (vwn S 26 6) (vwn S 51 24) le (S 32) (bitF S) (S 0) (S 1) t (S 33) mu wa)) hC cu_X3_115_0 (m_X0_mostLicked_k2 G ro r tc p (sn S (45 + p)) he (by omega) (sn S (20 + p)) (sn S 0) (by omega) (by omega)) (by omega) rfl rfl (Nat.le_of_ble_eq_true rfl) (List.Perm.refl _) (mr he) rfl dX3_takesNow_28 (by omega) (by omega) ?_
      rintro _ _ _ ⟨rfl, rfl, rfl⟩
      refine ev_ws (List.nil_append _) ?_
      show Ev G X 0 0 31 [(0, .ref (b 0)), (1, .int (nI p))] [.int (nI (10 + 2 * (sn S (45 + p))))] (MO G b (vwn S 2 6) tk os (vwn S 14 6) (vwn S 20 6) (vwn S 26 6) (vwn S 51 24) le (S 32) (bitF S) (S 0) (S 1) t (S 33) mu wa) ro
      refine ev_istore_n (lv' := [(2, .int (nI (10 + 2 * (sn S (45 + p))))), (0, .ref (b 0)), (1, .int (nI p))]) hC dX3_takesNow_31 rfl (by decide) rfl ?_
      refine ev_iload_n hC dX3_takesNow_32 rfl 0 rfl ?_
      refine ev_aload_n hC dX3_takesNow_33 rfl 1 rfl ?_
      refine ev_get hC fl_X3_27_3 (mw 0 rfl) rfl dX3_takesNow_34 ?_
      refine ev_iload_n hC dX3_takesNow_37 rfl 2 rfl ?_
      refine ev_ialdN (i := p) hC (mw 5 rfl) (by omega) (by omega) dX3_takesNow_38 ?_
      refine ev_top (y := (S (20 + p))) (vwn_at (by omega)) ?_
      have bk_10 : NB S (20 + p) _ := (hW.grudge p (by omega))
      have k_10 := bk_10.eq
      have lk_10 := bk_10.le
      have mk_10 := bk_10.lt
      refine ev_top (y := (nI (sn S (20 + p)))) k_10 ?_
      refine ev_aload_n hC dX3_takesNow_39 rfl 1 rfl ?_
      refine ev_get hC fl_X3_64_3 (mw 0 rfl) rfl dX3_takesNow_40 ?_
      refine ev_get hC fl_X3_118_10 (mr hTr) rfl dX3_takesNow_43 ?_
      refine ev_imul hC dX3_takesNow_46 ?_
      refine ev_mmin hC ⟨(ft_in 734 (by decide +kernel) rfl), (ft_in 382 (by decide +kernel) rfl), (ft_in 68 (by decide +kernel) rfl), (ft_in 383 (by decide +kernel) rfl)⟩ (by omega) (Nat.le_of_ble_eq_true rfl) dX3_takesNow_47 ?_
      refine ev_aload_n hC dX3_takesNow_50 rfl 1 rfl ?_
      refine ev_aload_n hC dX3_takesNow_51 rfl 1 rfl ?_
      refine ev_get hC fl_X3_24_3 (mw 0 rfl) rfl dX3_takesNow_52 ?_
      refine ev_iload_n hC dX3_takesNow_55 rfl 2 rfl ?_
      refine ev_ialdN (i := p) hC (mw 4 rfl) (by omega) (by omega) dX3_takesNow_56 ?_
      refine ev_top (y := (S (14 + p))) (vwn_at (by omega)) ?_
      have bk_11 : NB S (14 + p) _ := (hW.side p (by omega))
      have k_11 := bk_11.eq
      have lk_11 := bk_11.le
      have mk_11 := bk_11.lt
      refine ev_top (y := (nI (sn S (14 + p)))) k_11 ?_
      refine ev_callV (As := [.int (nI (sn S (14 + p)))]) (st := [.int (mnF (nI (10 + 2 * (sn S (45 + p)))) ((nI (sn S (20 + p))) * (needF S)))]) (wf := []) hC cv_X3_107 (m_X3_saltAt G ro b S tk le os t tc mu wa (sn S (14 + p))  hW (by omega)) (by omega) rfl rfl (Nat.le_of_ble_eq_true rfl) (List.Perm.of_eq (List.append_nil _).symm) (mw 0 rfl) rfl dX3_takesNow_57 (by omega) (by omega) ?_
      rintro _ _ _ ⟨rfl, rfl, rfl⟩
      refine ev_ws (List.append_nil _) ?_
      show Ev G X 0 0 60 [(2, .int (nI (10 + 2 * (sn S (45 + p))))), (0, .ref (b 0)), (1, .int (nI p))] [.int (S (2 + sn S (14 + p))), .int (mnF (nI (10 + 2 * (sn S (45 + p)))) ((nI (sn S (20 + p))) * (needF S)))] (MO G b (vwn S 2 6) tk os (vwn S 14 6) (vwn S 20 6) (vwn S 26 6) (vwn S 51 24) le (S 32) (bitF S) (S 0) (S 1) t (S 33) mu wa) ro
      have bk_12 : NB S (2 + sn S (14 + p)) _ := ((hW.salt (sn S (14 + p)) (by omega)).congr (congrArg S (by omega)))
      have k_12 := bk_12.eq
      have lk_12 := bk_12.le
      have mk_12 := bk_12.lt
      refine ev_top (y := (nI (sn S (2 + sn S (14 + p))))) k_12 ?_
      refine ev_mmin hC ⟨(ft_in 734 (by decide +kernel) rfl), (ft_in 382 (by decide +kernel) rfl), (ft_in 68 (by decide +kernel) rfl), (ft_in 383 (by decide +kernel) rfl)⟩ (by omega) (Nat.le_of_ble_eq_true rfl) dX3_takesNow_60 ?_
      refine ev_iret hC hR rfl dX3_takesNow_63 ?_
      have hk := hkd.symm
      have el : licF S p = (nI (10 + 2 * (sn S (45 + p)))) := by
        unfold licF
        rw [hk, if_neg (by omega), if_pos rfl]
      have er : tkF mu S p = (mnF (mnF (nI (10 + 2 * (sn S (45 + p)))) ((nI (sn S (20 + p))) * (needF S))) (nI (sn S (2 + sn S (14 + p))))) := by
        rw [tkF, if_neg (by first | exact c_1 | exact fun z => c_1 z), takF, mn_le, mn_le, el, ← (hW.grudge p (by omega)).eq, ← bsalt.eq]
      exact ⟨by rw [er], rfl, rfl⟩
    · have he : (r, ob 8 [.int (nI 3), .int (nI p), .int (nI (sn S (45 + p))), .ref tc]) ∈ ro := hr2
      refine ev_callU (As := [.int (nI (sn S (20 + p))), .int (nI (sn S 0))]) (st := []) (wc := []) (wf := (MO G b (vwn S 2 6) tk os (vwn S 14 6) (vwn S 20 6) (vwn S 26 6) (vwn S 51 24) le (S 32) (bitF S) (S 0) (S 1) t (S 33) mu wa)) hC cu_X3_115_8 (m_X8_mostLicked_k3 G ro r tc p (sn S (45 + p)) he (by omega) (sn S (20 + p)) (sn S 0) (by omega) (by omega)) (by omega) rfl rfl (Nat.le_of_ble_eq_true rfl) (List.Perm.refl _) (mr he) rfl dX3_takesNow_28 (by omega) (by omega) ?_
      rintro _ _ _ ⟨rfl, rfl, rfl⟩
      refine ev_ws (List.nil_append _) ?_
      show Ev G X 0 0 31 [(0, .ref (b 0)), (1, .int (nI p))] [.int (nI (odW (sn S 0)))] (MO G b (vwn S 2 6) tk os (vwn S 14 6) (vwn S 20 6) (vwn S 26 6) (vwn S 51 24) le (S 32) (bitF S) (S 0) (S 1) t (S 33) mu wa) ro
      refine ev_istore_n (lv' := [(2, .int (nI (odW (sn S 0)))), (0, .ref (b 0)), (1, .int (nI p))]) hC dX3_takesNow_31 rfl (by decide) rfl ?_
      refine ev_iload_n hC dX3_takesNow_32 rfl 0 rfl ?_
      refine ev_aload_n hC dX3_takesNow_33 rfl 1 rfl ?_
      refine ev_get hC fl_X3_27_3 (mw 0 rfl) rfl dX3_takesNow_34 ?_
      refine ev_iload_n hC dX3_takesNow_37 rfl 2 rfl ?_
      refine ev_ialdN (i := p) hC (mw 5 rfl) (by omega) (by omega) dX3_takesNow_38 ?_
      refine ev_top (y := (S (20 + p))) (vwn_at (by omega)) ?_
      have bk_13 : NB S (20 + p) _ := (hW.grudge p (by omega))
      have k_13 := bk_13.eq
      have lk_13 := bk_13.le
      have mk_13 := bk_13.lt
      refine ev_top (y := (nI (sn S (20 + p)))) k_13 ?_
      refine ev_aload_n hC dX3_takesNow_39 rfl 1 rfl ?_
      refine ev_get hC fl_X3_64_3 (mw 0 rfl) rfl dX3_takesNow_40 ?_
      refine ev_get hC fl_X3_118_10 (mr hTr) rfl dX3_takesNow_43 ?_
      refine ev_imul hC dX3_takesNow_46 ?_
      refine ev_mmin hC ⟨(ft_in 734 (by decide +kernel) rfl), (ft_in 382 (by decide +kernel) rfl), (ft_in 68 (by decide +kernel) rfl), (ft_in 383 (by decide +kernel) rfl)⟩ (by omega) (Nat.le_of_ble_eq_true rfl) dX3_takesNow_47 ?_
      refine ev_aload_n hC dX3_takesNow_50 rfl 1 rfl ?_
      refine ev_aload_n hC dX3_takesNow_51 rfl 1 rfl ?_
      refine ev_get hC fl_X3_24_3 (mw 0 rfl) rfl dX3_takesNow_52 ?_
      refine ev_iload_n hC dX3_takesNow_55 rfl 2 rfl ?_
      refine ev_ialdN (i := p) hC (mw 4 rfl) (by omega) (by omega) dX3_takesNow_56 ?_
      refine ev_top (y := (S (14 + p))) (vwn_at (by omega)) ?_
      have bk_14 : NB S (14 + p) _ := (hW.side p (by omega))
      have k_14 := bk_14.eq
      have lk_14 := bk_14.le
      have mk_14 := bk_14.lt
      refine ev_top (y := (nI (sn S (14 + p)))) k_14 ?_
      refine ev_callV (As := [.int (nI (sn S (14 + p)))]) (st := [.int (mnF (nI (odW (sn S 0))) ((nI (sn S (20 + p))) * (needF S)))]) (wf := []) hC cv_X3_107 (m_X3_saltAt G ro b S tk le os t tc mu wa (sn S (14 + p))  hW (by omega)) (by omega) rfl rfl (Nat.le_of_ble_eq_true rfl) (List.Perm.of_eq (List.append_nil _).symm) (mw 0 rfl) rfl dX3_takesNow_57 (by omega) (by omega) ?_
      rintro _ _ _ ⟨rfl, rfl, rfl⟩
      refine ev_ws (List.append_nil _) ?_
      show Ev G X 0 0 60 [(2, .int (nI (odW (sn S 0)))), (0, .ref (b 0)), (1, .int (nI p))] [.int (S (2 + sn S (14 + p))), .int (mnF (nI (odW (sn S 0))) ((nI (sn S (20 + p))) * (needF S)))] (MO G b (vwn S 2 6) tk os (vwn S 14 6) (vwn S 20 6) (vwn S 26 6) (vwn S 51 24) le (S 32) (bitF S) (S 0) (S 1) t (S 33) mu wa) ro
      have bk_15 : NB S (2 + sn S (14 + p)) _ := ((hW.salt (sn S (14 + p)) (by omega)).congr (congrArg S (by omega)))
      have k_15 := bk_15.eq
      have lk_15 := bk_15.le
      have mk_15 := bk_15.lt
      refine ev_top (y := (nI (sn S (2 + sn S (14 + p))))) k_15 ?_
      refine ev_mmin hC ⟨(ft_in 734 (by decide +kernel) rfl), (ft_in 382 (by decide +kernel) rfl), (ft_in 68 (by decide +kernel) rfl), (ft_in 383 (by decide +kernel) rfl)⟩ (by omega) (Nat.le_of_ble_eq_true rfl) dX3_takesNow_60 ?_
      refine ev_iret hC hR rfl dX3_takesNow_63 ?_
      have hk := hkd.symm
      have el : licF S p = (nI (odW (sn S 0))) := by
        unfold licF
        rw [hk, if_neg (by omega), if_neg (by omega), if_pos rfl]
        rw [odW]
        split <;> rfl
      have er : tkF mu S p = (mnF (mnF (nI (odW (sn S 0))) ((nI (sn S (20 + p))) * (needF S))) (nI (sn S (2 + sn S (14 + p))))) := by
        rw [tkF, if_neg (by first | exact c_1 | exact fun z => c_1 z), takF, mn_le, mn_le, el, ← (hW.grudge p (by omega)).eq, ← bsalt.eq]
      exact ⟨by rw [er], rfl, rfl⟩
    · have he : (r, ob 2 [.int (nI 4), .int (nI p), .int (nI (sn S (45 + p))), .ref tc]) ∈ ro := hr2
      refine ev_callU (As := [.int (nI (sn S (20 + p))), .int (nI (sn S 0))]) (st := []) (wc := []) (wf := (MO G b (vwn S 2 6) tk os (vwn S 14 6) (vwn S 20 6) (vwn S 26 6) (vwn S 51 24) le (S 32) (bitF S) (S 0) (S 1) t (S 33) mu wa)) hC cu_X3_115_2 (m_X2_mostLicked_k4 G ro r tc p (sn S (45 + p)) he (by omega) (sn S (20 + p)) (sn S 0) (by omega) (by omega)) (by omega) rfl rfl (Nat.le_of_ble_eq_true rfl) (List.Perm.refl _) (mr he) rfl dX3_takesNow_28 (by omega) (by omega) ?_
      rintro _ _ _ ⟨rfl, rfl, rfl⟩
      refine ev_ws (List.nil_append _) ?_
      show Ev G X 0 0 31 [(0, .ref (b 0)), (1, .int (nI p))] [.int (nI 0)] (MO G b (vwn S 2 6) tk os (vwn S 14 6) (vwn S 20 6) (vwn S 26 6) (vwn S 51 24) le (S 32) (bitF S) (S 0) (S 1) t (S 33) mu wa) ro
      refine ev_istore_n (lv' := [(2, .int (nI 0)), (0, .ref (b 0)), (1, .int (nI p))]) hC dX3_takesNow_31 rfl (by decide) rfl ?_
      refine ev_iload_n hC dX3_takesNow_32 rfl 0 rfl ?_
      refine ev_aload_n hC dX3_takesNow_33 rfl 1 rfl ?_
      refine ev_get hC fl_X3_27_3 (mw 0 rfl) rfl dX3_takesNow_34 ?_
      refine ev_iload_n hC dX3_takesNow_37 rfl 2 rfl ?_
      refine ev_ialdN (i := p) hC (mw 5 rfl) (by omega) (by omega) dX3_takesNow_38 ?_
      refine ev_top (y := (S (20 + p))) (vwn_at (by omega)) ?_
      have bk_16 : NB S (20 + p) _ := (hW.grudge p (by omega))
      have k_16 := bk_16.eq
      have lk_16 := bk_16.le
      have mk_16 := bk_16.lt
      refine ev_top (y := (nI (sn S (20 + p)))) k_16 ?_
      refine ev_aload_n hC dX3_takesNow_39 rfl 1 rfl ?_
      refine ev_get hC fl_X3_64_3 (mw 0 rfl) rfl dX3_takesNow_40 ?_
      refine ev_get hC fl_X3_118_10 (mr hTr) rfl dX3_takesNow_43 ?_
      refine ev_imul hC dX3_takesNow_46 ?_
      refine ev_mmin hC ⟨(ft_in 734 (by decide +kernel) rfl), (ft_in 382 (by decide +kernel) rfl), (ft_in 68 (by decide +kernel) rfl), (ft_in 383 (by decide +kernel) rfl)⟩ (by omega) (Nat.le_of_ble_eq_true rfl) dX3_takesNow_47 ?_
      refine ev_aload_n hC dX3_takesNow_50 rfl 1 rfl ?_
      refine ev_aload_n hC dX3_takesNow_51 rfl 1 rfl ?_
      refine ev_get hC fl_X3_24_3 (mw 0 rfl) rfl dX3_takesNow_52 ?_
      refine ev_iload_n hC dX3_takesNow_55 rfl 2 rfl ?_
      refine ev_ialdN (i := p) hC (mw 4 rfl) (by omega) (by omega) dX3_takesNow_56 ?_
      refine ev_top (y := (S (14 + p))) (vwn_at (by omega)) ?_
      have bk_17 : NB S (14 + p) _ := (hW.side p (by omega))
      have k_17 := bk_17.eq
      have lk_17 := bk_17.le
      have mk_17 := bk_17.lt
      refine ev_top (y := (nI (sn S (14 + p)))) k_17 ?_
      refine ev_callV (As := [.int (nI (sn S (14 + p)))]) (st := [.int (mnF (nI 0) ((nI (sn S (20 + p))) * (needF S)))]) (wf := []) hC cv_X3_107 (m_X3_saltAt G ro b S tk le os t tc mu wa (sn S (14 + p))  hW (by omega)) (by omega) rfl rfl (Nat.le_of_ble_eq_true rfl) (List.Perm.of_eq (List.append_nil _).symm) (mw 0 rfl) rfl dX3_takesNow_57 (by omega) (by omega) ?_
      rintro _ _ _ ⟨rfl, rfl, rfl⟩
      refine ev_ws (List.append_nil _) ?_
      show Ev G X 0 0 60 [(2, .int (nI 0)), (0, .ref (b 0)), (1, .int (nI p))] [.int (S (2 + sn S (14 + p))), .int (mnF (nI 0) ((nI (sn S (20 + p))) * (needF S)))] (MO G b (vwn S 2 6) tk os (vwn S 14 6) (vwn S 20 6) (vwn S 26 6) (vwn S 51 24) le (S 32) (bitF S) (S 0) (S 1) t (S 33) mu wa) ro
      have bk_18 : NB S (2 + sn S (14 + p)) _ := ((hW.salt (sn S (14 + p)) (by omega)).congr (congrArg S (by omega)))
      have k_18 := bk_18.eq
      have lk_18 := bk_18.le
      have mk_18 := bk_18.lt
      refine ev_top (y := (nI (sn S (2 + sn S (14 + p))))) k_18 ?_
      refine ev_mmin hC ⟨(ft_in 734 (by decide +kernel) rfl), (ft_in 382 (by decide +kernel) rfl), (ft_in 68 (by decide +kernel) rfl), (ft_in 383 (by decide +kernel) rfl)⟩ (by omega) (Nat.le_of_ble_eq_true rfl) dX3_takesNow_60 ?_
      refine ev_iret hC hR rfl dX3_takesNow_63 ?_
      have hk := hkd.symm
      have el : licF S p = (nI 0) := by
        unfold licF
        rw [hk, if_neg (by omega), if_neg (by omega), if_neg (by omega), if_pos rfl]
      have er : tkF mu S p = (mnF (mnF (nI 0) ((nI (sn S (20 + p))) * (needF S))) (nI (sn S (2 + sn S (14 + p))))) := by
        rw [tkF, if_neg (by first | exact c_1 | exact fun z => c_1 z), takF, mn_le, mn_le, el, ← (hW.grudge p (by omega)).eq, ← bsalt.eq]
      exact ⟨by rw [er], rfl, rfl⟩
    · have he : (r, ob 5 [.int (nI 5), .int (nI p), .int (nI (sn S (45 + p))), .ref tc]) ∈ ro := hr2
      refine ev_callU (As := [.int (nI (sn S (20 + p))), .int (nI (sn S 0))]) (st := []) (wc := []) (wf := (MO G b (vwn S 2 6) tk os (vwn S 14 6) (vwn S 20 6) (vwn S 26 6) (vwn S 51 24) le (S 32) (bitF S) (S 0) (S 1) t (S 33) mu wa)) hC cu_X3_115_5 (m_X5_mostLicked_k5 G ro r tc p (sn S (45 + p)) he (by omega) (sn S (20 + p)) (sn S 0) (by omega) (by omega)) (by omega) rfl rfl (Nat.le_of_ble_eq_true rfl) (List.Perm.refl _) (mr he) rfl dX3_takesNow_28 (by omega) (by omega) ?_
      rintro _ _ _ ⟨rfl, rfl, rfl⟩
      refine ev_ws (List.nil_append _) ?_
      show Ev G X 0 0 31 [(0, .ref (b 0)), (1, .int (nI p))] [.int (nI (if 80 < (sn S (20 + p)) then 0 else 10 + 2 * (sn S (45 + p))))] (MO G b (vwn S 2 6) tk os (vwn S 14 6) (vwn S 20 6) (vwn S 26 6) (vwn S 51 24) le (S 32) (bitF S) (S 0) (S 1) t (S 33) mu wa) ro
      refine ev_istore_n (lv' := [(2, .int (nI (if 80 < (sn S (20 + p)) then 0 else 10 + 2 * (sn S (45 + p))))), (0, .ref (b 0)), (1, .int (nI p))]) hC dX3_takesNow_31 rfl (by decide) rfl ?_
      refine ev_iload_n hC dX3_takesNow_32 rfl 0 rfl ?_
      refine ev_aload_n hC dX3_takesNow_33 rfl 1 rfl ?_
      refine ev_get hC fl_X3_27_3 (mw 0 rfl) rfl dX3_takesNow_34 ?_
      refine ev_iload_n hC dX3_takesNow_37 rfl 2 rfl ?_
      refine ev_ialdN (i := p) hC (mw 5 rfl) (by omega) (by omega) dX3_takesNow_38 ?_
      refine ev_top (y := (S (20 + p))) (vwn_at (by omega)) ?_
      have bk_19 : NB S (20 + p) _ := (hW.grudge p (by omega))
      have k_19 := bk_19.eq
      have lk_19 := bk_19.le
      have mk_19 := bk_19.lt
      refine ev_top (y := (nI (sn S (20 + p)))) k_19 ?_
      refine ev_aload_n hC dX3_takesNow_39 rfl 1 rfl ?_
      refine ev_get hC fl_X3_64_3 (mw 0 rfl) rfl dX3_takesNow_40 ?_
      refine ev_get hC fl_X3_118_10 (mr hTr) rfl dX3_takesNow_43 ?_
      refine ev_imul hC dX3_takesNow_46 ?_
      refine ev_mmin hC ⟨(ft_in 734 (by decide +kernel) rfl), (ft_in 382 (by decide +kernel) rfl), (ft_in 68 (by decide +kernel) rfl), (ft_in 383 (by decide +kernel) rfl)⟩ (by omega) (Nat.le_of_ble_eq_true rfl) dX3_takesNow_47 ?_
      refine ev_aload_n hC dX3_takesNow_50 rfl 1 rfl ?_
      refine ev_aload_n hC dX3_takesNow_51 rfl 1 rfl ?_
      refine ev_get hC fl_X3_24_3 (mw 0 rfl) rfl dX3_takesNow_52 ?_
      refine ev_iload_n hC dX3_takesNow_55 rfl 2 rfl ?_
      refine ev_ialdN (i := p) hC (mw 4 rfl) (by omega) (by omega) dX3_takesNow_56 ?_
      refine ev_top (y := (S (14 + p))) (vwn_at (by omega)) ?_
      have bk_20 : NB S (14 + p) _ := (hW.side p (by omega))
      have k_20 := bk_20.eq
      have lk_20 := bk_20.le
      have mk_20 := bk_20.lt
      refine ev_top (y := (nI (sn S (14 + p)))) k_20 ?_
      refine ev_callV (As := [.int (nI (sn S (14 + p)))]) (st := [.int (mnF (nI (if 80 < (sn S (20 + p)) then 0 else 10 + 2 * (sn S (45 + p)))) ((nI (sn S (20 + p))) * (needF S)))]) (wf := []) hC cv_X3_107 (m_X3_saltAt G ro b S tk le os t tc mu wa (sn S (14 + p))  hW (by omega)) (by omega) rfl rfl (Nat.le_of_ble_eq_true rfl) (List.Perm.of_eq (List.append_nil _).symm) (mw 0 rfl) rfl dX3_takesNow_57 (by omega) (by omega) ?_
      rintro _ _ _ ⟨rfl, rfl, rfl⟩
      refine ev_ws (List.append_nil _) ?_
      show Ev G X 0 0 60 [(2, .int (nI (if 80 < (sn S (20 + p)) then 0 else 10 + 2 * (sn S (45 + p))))), (0, .ref (b 0)), (1, .int (nI p))] [.int (S (2 + sn S (14 + p))), .int (mnF (nI (if 80 < (sn S (20 + p)) then 0 else 10 + 2 * (sn S (45 + p)))) ((nI (sn S (20 + p))) * (needF S)))] (MO G b (vwn S 2 6) tk os (vwn S 14 6) (vwn S 20 6) (vwn S 26 6) (vwn S 51 24) le (S 32) (bitF S) (S 0) (S 1) t (S 33) mu wa) ro
      have bk_21 : NB S (2 + sn S (14 + p)) _ := ((hW.salt (sn S (14 + p)) (by omega)).congr (congrArg S (by omega)))
      have k_21 := bk_21.eq
      have lk_21 := bk_21.le
      have mk_21 := bk_21.lt
      refine ev_top (y := (nI (sn S (2 + sn S (14 + p))))) k_21 ?_
      refine ev_mmin hC ⟨(ft_in 734 (by decide +kernel) rfl), (ft_in 382 (by decide +kernel) rfl), (ft_in 68 (by decide +kernel) rfl), (ft_in 383 (by decide +kernel) rfl)⟩ (by omega) (Nat.le_of_ble_eq_true rfl) dX3_takesNow_60 ?_
      refine ev_iret hC hR rfl dX3_takesNow_63 ?_
      have hk := hkd.symm
      have el : licF S p = (nI (if 80 < (sn S (20 + p)) then 0 else 10 + 2 * (sn S (45 + p)))) := by
        unfold licF
        rw [hk, if_neg (by omega), if_neg (by omega), if_neg (by omega), if_neg (by omega), if_pos rfl]
        split <;> rfl
      have er : tkF mu S p = (mnF (mnF (nI (if 80 < (sn S (20 + p)) then 0 else 10 + 2 * (sn S (45 + p)))) ((nI (sn S (20 + p))) * (needF S))) (nI (sn S (2 + sn S (14 + p))))) := by
        rw [tkF, if_neg (by first | exact c_1 | exact fun z => c_1 z), takF, mn_le, mn_le, el, ← (hW.grudge p (by omega)).eq, ← bsalt.eq]
      exact ⟨by rw [er], rfl, rfl⟩
    · have he : (r, ob 9 [.int (nI 6), .int (nI p), .int (nI (sn S (45 + p))), .ref tc]) ∈ ro := hr2
      refine ev_callU (As := [.int (nI (sn S (20 + p))), .int (nI (sn S 0))]) (st := []) (wc := []) (wf := (MO G b (vwn S 2 6) tk os (vwn S 14 6) (vwn S 20 6) (vwn S 26 6) (vwn S 51 24) le (S 32) (bitF S) (S 0) (S 1) t (S 33) mu wa)) hC cu_X3_115_9 (m_X8_mostLicked_k6 G ro r tc p (sn S (45 + p)) he (by omega) (sn S (20 + p)) (sn S 0) (by omega) (by omega)) (by omega) rfl rfl (Nat.le_of_ble_eq_true rfl) (List.Perm.refl _) (mr he) rfl dX3_takesNow_28 (by omega) (by omega) ?_
      rintro _ _ _ ⟨rfl, rfl, rfl⟩
      refine ev_ws (List.nil_append _) ?_
      show Ev G X 0 0 31 [(0, .ref (b 0)), (1, .int (nI p))] [.int (nI (odW (sn S 0)))] (MO G b (vwn S 2 6) tk os (vwn S 14 6) (vwn S 20 6) (vwn S 26 6) (vwn S 51 24) le (S 32) (bitF S) (S 0) (S 1) t (S 33) mu wa) ro
      refine ev_istore_n (lv' := [(2, .int (nI (odW (sn S 0)))), (0, .ref (b 0)), (1, .int (nI p))]) hC dX3_takesNow_31 rfl (by decide) rfl ?_
      refine ev_iload_n hC dX3_takesNow_32 rfl 0 rfl ?_
      refine ev_aload_n hC dX3_takesNow_33 rfl 1 rfl ?_
      refine ev_get hC fl_X3_27_3 (mw 0 rfl) rfl dX3_takesNow_34 ?_
      refine ev_iload_n hC dX3_takesNow_37 rfl 2 rfl ?_
      refine ev_ialdN (i := p) hC (mw 5 rfl) (by omega) (by omega) dX3_takesNow_38 ?_
      refine ev_top (y := (S (20 + p))) (vwn_at (by omega)) ?_
      have bk_22 : NB S (20 + p) _ := (hW.grudge p (by omega))
      have k_22 := bk_22.eq
      have lk_22 := bk_22.le
      have mk_22 := bk_22.lt
      refine ev_top (y := (nI (sn S (20 + p)))) k_22 ?_
      refine ev_aload_n hC dX3_takesNow_39 rfl 1 rfl ?_
      refine ev_get hC fl_X3_64_3 (mw 0 rfl) rfl dX3_takesNow_40 ?_
      refine ev_get hC fl_X3_118_10 (mr hTr) rfl dX3_takesNow_43 ?_
      refine ev_imul hC dX3_takesNow_46 ?_
      refine ev_mmin hC ⟨(ft_in 734 (by decide +kernel) rfl), (ft_in 382 (by decide +kernel) rfl), (ft_in 68 (by decide +kernel) rfl), (ft_in 383 (by decide +kernel) rfl)⟩ (by omega) (Nat.le_of_ble_eq_true rfl) dX3_takesNow_47 ?_
      refine ev_aload_n hC dX3_takesNow_50 rfl 1 rfl ?_
      refine ev_aload_n hC dX3_takesNow_51 rfl 1 rfl ?_
      refine ev_get hC fl_X3_24_3 (mw 0 rfl) rfl dX3_takesNow_52 ?_
      refine ev_iload_n hC dX3_takesNow_55 rfl 2 rfl ?_
      refine ev_ialdN (i := p) hC (mw 4 rfl) (by omega) (by omega) dX3_takesNow_56 ?_
      refine ev_top (y := (S (14 + p))) (vwn_at (by omega)) ?_
      have bk_23 : NB S (14 + p) _ := (hW.side p (by omega))
      have k_23 := bk_23.eq
      have lk_23 := bk_23.le
      have mk_23 := bk_23.lt
      refine ev_top (y := (nI (sn S (14 + p)))) k_23 ?_
      refine ev_callV (As := [.int (nI (sn S (14 + p)))]) (st := [.int (mnF (nI (odW (sn S 0))) ((nI (sn S (20 + p))) * (needF S)))]) (wf := []) hC cv_X3_107 (m_X3_saltAt G ro b S tk le os t tc mu wa (sn S (14 + p))  hW (by omega)) (by omega) rfl rfl (Nat.le_of_ble_eq_true rfl) (List.Perm.of_eq (List.append_nil _).symm) (mw 0 rfl) rfl dX3_takesNow_57 (by omega) (by omega) ?_
      rintro _ _ _ ⟨rfl, rfl, rfl⟩
      refine ev_ws (List.append_nil _) ?_
      show Ev G X 0 0 60 [(2, .int (nI (odW (sn S 0)))), (0, .ref (b 0)), (1, .int (nI p))] [.int (S (2 + sn S (14 + p))), .int (mnF (nI (odW (sn S 0))) ((nI (sn S (20 + p))) * (needF S)))] (MO G b (vwn S 2 6) tk os (vwn S 14 6) (vwn S 20 6) (vwn S 26 6) (vwn S 51 24) le (S 32) (bitF S) (S 0) (S 1) t (S 33) mu wa) ro
      have bk_24 : NB S (2 + sn S (14 + p)) _ := ((hW.salt (sn S (14 + p)) (by omega)).congr (congrArg S (by omega)))
      have k_24 := bk_24.eq
      have lk_24 := bk_24.le
      have mk_24 := bk_24.lt
      refine ev_top (y := (nI (sn S (2 + sn S (14 + p))))) k_24 ?_
      refine ev_mmin hC ⟨(ft_in 734 (by decide +kernel) rfl), (ft_in 382 (by decide +kernel) rfl), (ft_in 68 (by decide +kernel) rfl), (ft_in 383 (by decide +kernel) rfl)⟩ (by omega) (Nat.le_of_ble_eq_true rfl) dX3_takesNow_60 ?_
      refine ev_iret hC hR rfl dX3_takesNow_63 ?_
      have hk := hkd.symm
      have el : licF S p = (nI (odW (sn S 0))) := by
        unfold licF
        rw [hk, if_neg (by omega), if_neg (by omega), if_neg (by omega), if_neg (by omega), if_neg (by omega), if_pos rfl]
        rw [odW]
        split <;> rfl
      have er : tkF mu S p = (mnF (mnF (nI (odW (sn S 0))) ((nI (sn S (20 + p))) * (needF S))) (nI (sn S (2 + sn S (14 + p))))) := by
        rw [tkF, if_neg (by first | exact c_1 | exact fun z => c_1 z), takF, mn_le, mn_le, el, ← (hW.grudge p (by omega)).eq, ← bsalt.eq]
      exact ⟨by rw [er], rfl, rfl⟩
  · refine ev_iconst (v := (nI 0)) hC dX3_takesNow_8 (by decide) ?_
    refine ev_goto (tgt := 31) hC dX3_takesNow_9 (by decide) ?_
    refine ev_istore_n (lv' := [(2, .int (nI 0)), (0, .ref (b 0)), (1, .int (nI p))]) hC dX3_takesNow_31 rfl (by decide) rfl ?_
    refine ev_iload_n hC dX3_takesNow_32 rfl 0 rfl ?_
    refine ev_aload_n hC dX3_takesNow_33 rfl 1 rfl ?_
    refine ev_get hC fl_X3_27_3 (mw 0 rfl) rfl dX3_takesNow_34 ?_
    refine ev_iload_n hC dX3_takesNow_37 rfl 2 rfl ?_
    refine ev_ialdN (i := p) hC (mw 5 rfl) (by omega) (by omega) dX3_takesNow_38 ?_
    refine ev_top (y := (S (20 + p))) (vwn_at (by omega)) ?_
    have bk_25 : NB S (20 + p) _ := (hW.grudge p (by omega))
    have k_25 := bk_25.eq
    have lk_25 := bk_25.le
    have mk_25 := bk_25.lt
    refine ev_top (y := (nI (sn S (20 + p)))) k_25 ?_
    refine ev_aload_n hC dX3_takesNow_39 rfl 1 rfl ?_
    refine ev_get hC fl_X3_64_3 (mw 0 rfl) rfl dX3_takesNow_40 ?_
    refine ev_get hC fl_X3_118_10 (mr hTr) rfl dX3_takesNow_43 ?_
    refine ev_imul hC dX3_takesNow_46 ?_
    refine ev_mmin hC ⟨(ft_in 734 (by decide +kernel) rfl), (ft_in 382 (by decide +kernel) rfl), (ft_in 68 (by decide +kernel) rfl), (ft_in 383 (by decide +kernel) rfl)⟩ (by omega) (Nat.le_of_ble_eq_true rfl) dX3_takesNow_47 ?_
    refine ev_aload_n hC dX3_takesNow_50 rfl 1 rfl ?_
    refine ev_aload_n hC dX3_takesNow_51 rfl 1 rfl ?_
    refine ev_get hC fl_X3_24_3 (mw 0 rfl) rfl dX3_takesNow_52 ?_
    refine ev_iload_n hC dX3_takesNow_55 rfl 2 rfl ?_
    refine ev_ialdN (i := p) hC (mw 4 rfl) (by omega) (by omega) dX3_takesNow_56 ?_
    refine ev_top (y := (S (14 + p))) (vwn_at (by omega)) ?_
    have bk_26 : NB S (14 + p) _ := (hW.side p (by omega))
    have k_26 := bk_26.eq
    have lk_26 := bk_26.le
    have mk_26 := bk_26.lt
    refine ev_top (y := (nI (sn S (14 + p)))) k_26 ?_
    refine ev_callV (As := [.int (nI (sn S (14 + p)))]) (st := [.int (mnF (nI 0) ((nI (sn S (20 + p))) * (needF S)))]) (wf := []) hC cv_X3_107 (m_X3_saltAt G ro b S tk le os t tc mu wa (sn S (14 + p))  hW (by omega)) (by omega) rfl rfl (Nat.le_of_ble_eq_true rfl) (List.Perm.of_eq (List.append_nil _).symm) (mw 0 rfl) rfl dX3_takesNow_57 (by omega) (by omega) ?_
    rintro _ _ _ ⟨rfl, rfl, rfl⟩
    refine ev_ws (List.append_nil _) ?_
    show Ev G X 0 0 60 [(2, .int (nI 0)), (0, .ref (b 0)), (1, .int (nI p))] [.int (S (2 + sn S (14 + p))), .int (mnF (nI 0) ((nI (sn S (20 + p))) * (needF S)))] (MO G b (vwn S 2 6) tk os (vwn S 14 6) (vwn S 20 6) (vwn S 26 6) (vwn S 51 24) le (S 32) (bitF S) (S 0) (S 1) t (S 33) mu wa) ro
    have bk_27 : NB S (2 + sn S (14 + p)) _ := ((hW.salt (sn S (14 + p)) (by omega)).congr (congrArg S (by omega)))
    have k_27 := bk_27.eq
    have lk_27 := bk_27.le
    have mk_27 := bk_27.lt
    refine ev_top (y := (nI (sn S (2 + sn S (14 + p))))) k_27 ?_
    refine ev_mmin hC ⟨(ft_in 734 (by decide +kernel) rfl), (ft_in 382 (by decide +kernel) rfl), (ft_in 68 (by decide +kernel) rfl), (ft_in 383 (by decide +kernel) rfl)⟩ (by omega) (Nat.le_of_ble_eq_true rfl) dX3_takesNow_60 ?_
    refine ev_iret hC hR rfl dX3_takesNow_63 ?_
    have hz : tkF mu S p = nI 0 := if_pos (by first | exact c_1 | exact Decidable.not_not.mp c_1)
    have er : tkF mu S p = (mnF (mnF (nI 0) ((nI (sn S (20 + p))) * (needF S))) (nI (sn S (2 + sn S (14 + p))))) := by
      rw [hz, (need_eq hW).1, pk_mul, mnN (by omega) (Nat.lt_of_le_of_lt (Nat.mul_le_mul bg (need_eq hW).2.2) (by omega)), Nat.zero_min, mnN (by omega) (by omega), Nat.zero_min]
    exact ⟨by rw [er], rfl, rfl⟩

set_option maxHeartbeats 4000000 in
set_option maxRecDepth 100000 in
theorem m_X3_lick (G : GG) (ro : va_W) (b : Nat → Nat) (S tk le : Nat → Int32) (os : Nat → Option Nat) (t tc : Nat) (mu wa : Int32) (p : Nat) {DD EE : Nat} (hW : WF S DD EE) (hO : MoOK G ro tc S os t) (hp : p < sn S 32) : Mth G M_X3_lick 4 0 0 [.ref (b 0), .int (nI p)] (MO G b (vwn S 2 6) tk os (vwn S 14 6) (vwn S 20 6) (vwn S 26 6) (vwn S 51 24) le (S 32) (bitF S) (S 0) (S 1) t (S 33) mu wa) ro (fun r ws' ro' => r = none ∧ ws' = (MO G b (vwn (lk1 mu S p) 2 6) (upd tk (sn S (14 + p)) (tk (sn S (14 + p)) + tkF mu S p)) os (vwn (lk1 mu S p) 14 6) (vwn (lk1 mu S p) 20 6) (vwn (lk1 mu S p) 26 6) (vwn (lk1 mu S p) 51 24) le ((lk1 mu S p) 32) (bitF (lk1 mu S p)) ((lk1 mu S p) 0) ((lk1 mu S p) 1) t ((lk1 mu S p) 33) mu wa) ∧ ro = ro') := by
  refine mth_of (by decide +kernel) (Nat.le_of_ble_eq_true rfl) (fun X hC hR => ?_)
  have b32 := hW.peo.le
  obtain ⟨ta1, ta2, ta3, hTr, -, -, -⟩ := id hO.2.2
  have b14 := (hW.side p (by omega)).le
  show Ev G X 0 0 0 [(0, .ref (b 0)), (1, .int (nI p))] [] (MO G b (vwn S 2 6) tk os (vwn S 14 6) (vwn S 20 6) (vwn S 26 6) (vwn S 51 24) le (S 32) (bitF S) (S 0) (S 1) t (S 33) mu wa) ro
  refine ev_aload_n hC dX3_lick_0 rfl 0 rfl ?_
  refine ev_iload_n hC dX3_lick_1 rfl 1 rfl ?_
  refine ev_callV (As := [.int (nI p)]) (st := []) (wf := []) hC cv_X3_141 (m_X3_takesNow G ro b S tk le os t tc mu wa p hW hO (by omega)) (by omega) rfl rfl (Nat.le_of_ble_eq_true rfl) (List.Perm.of_eq (List.append_nil _).symm) (mw 0 rfl) rfl dX3_lick_2 (by omega) (by omega) ?_
  rintro _ _ _ ⟨rfl, rfl, rfl⟩
  refine ev_ws (List.append_nil _) ?_
  show Ev G X 0 0 5 [(0, .ref (b 0)), (1, .int (nI p))] [.int (tkF mu S p)] (MO G b (vwn S 2 6) tk os (vwn S 14 6) (vwn S 20 6) (vwn S 26 6) (vwn S 51 24) le (S 32) (bitF S) (S 0) (S 1) t (S 33) mu wa) ro
  refine ev_istore_n (lv' := [(2, .int (tkF mu S p)), (0, .ref (b 0)), (1, .int (nI p))]) hC dX3_lick_5 rfl (by decide) rfl ?_
  refine ev_aload_n hC dX3_lick_6 rfl 1 rfl ?_
  refine ev_get hC fl_X3_24_3 (mw 0 rfl) rfl dX3_lick_7 ?_
  refine ev_iload_n hC dX3_lick_10 rfl 2 rfl ?_
  refine ev_ialdN (i := p) hC (mw 4 rfl) (by omega) (by omega) dX3_lick_11 ?_
  refine ev_top (y := (S (14 + p))) (vwn_at (by omega)) ?_
  have bk_1 : NB S (14 + p) _ := (hW.side p (by omega))
  have k_1 := bk_1.eq
  have lk_1 := bk_1.le
  have mk_1 := bk_1.lt
  refine ev_top (y := (nI (sn S (14 + p)))) k_1 ?_
  refine ev_istore_n (lv' := [(3, .int (nI (sn S (14 + p)))), (2, .int (tkF mu S p)), (0, .ref (b 0)), (1, .int (nI p))]) hC dX3_lick_12 rfl (by decide) rfl ?_
  refine ev_aload_n hC dX3_lick_13 rfl 2 rfl ?_
  refine ev_get hC fl_X3_9_3 (mw 0 rfl) rfl dX3_lick_14 ?_
  refine ev_iload_n hC dX3_lick_17 rfl 0 rfl ?_
  refine ev_dup2 hC dX3_lick_18 rfl rfl ?_
  refine ev_ialdN (i := sn S (14 + p)) hC (mw 1 rfl) (by omega) (by omega) dX3_lick_19 ?_
  refine ev_top (y := (S (2 + sn S (14 + p)))) (vwn_at (by omega)) ?_
  refine ev_iload_n hC dX3_lick_20 rfl 1 rfl ?_
  refine ev_isub hC dX3_lick_21 ?_
  refine ev_iastN (i := sn S (14 + p)) (ws' := (MO G b (upd (vwn S 2 6) (sn S (14 + p)) ((S (2 + sn S (14 + p))) - (tkF mu S p))) tk os (vwn S 14 6) (vwn S 20 6) (vwn S 26 6) (vwn S 51 24) le (S 32) (bitF S) (S 0) (S 1) t (S 33) mu wa)) (q0 := 1) hC rfl (by omega) (by omega) rfl dX3_lick_22 ?_
  refine ev_aload_n hC dX3_lick_23 rfl 2 rfl ?_
  refine ev_get hC fl_X3_15_3 (mw 0 rfl) rfl dX3_lick_24 ?_
  refine ev_iload_n hC dX3_lick_27 rfl 0 rfl ?_
  refine ev_dup2 hC dX3_lick_28 rfl rfl ?_
  refine ev_ialdN (i := sn S (14 + p)) hC (mw 2 rfl) (by omega) (by omega) dX3_lick_29 ?_
  refine ev_iload_n hC dX3_lick_30 rfl 1 rfl ?_
  refine ev_iadd hC dX3_lick_31 ?_
  refine ev_iastN (i := sn S (14 + p)) (ws' := (MO G b (upd (vwn S 2 6) (sn S (14 + p)) ((S (2 + sn S (14 + p))) - (tkF mu S p))) (upd tk (sn S (14 + p)) ((tk (sn S (14 + p))) + (tkF mu S p))) os (vwn S 14 6) (vwn S 20 6) (vwn S 26 6) (vwn S 51 24) le (S 32) (bitF S) (S 0) (S 1) t (S 33) mu wa)) (q0 := 2) hC rfl (by omega) (by omega) rfl dX3_lick_32 ?_
  refine ev_aload_n hC dX3_lick_33 rfl 2 rfl ?_
  refine ev_get hC fl_X3_30_3 (mw 0 rfl) rfl dX3_lick_34 ?_
  refine ev_iload_n hC dX3_lick_37 rfl 3 rfl ?_
  refine ev_dup2 hC dX3_lick_38 rfl rfl ?_
  refine ev_ialdN (i := p) hC (mw 6 rfl) (by omega) (by omega) dX3_lick_39 ?_
  refine ev_top (y := (S (26 + p))) (vwn_at (by omega)) ?_
  refine ev_iload_n hC dX3_lick_40 rfl 1 rfl ?_
  refine ev_iadd hC dX3_lick_41 ?_
  refine ev_iastN (i := p) (ws' := (MO G b (upd (vwn S 2 6) (sn S (14 + p)) ((S (2 + sn S (14 + p))) - (tkF mu S p))) (upd tk (sn S (14 + p)) ((tk (sn S (14 + p))) + (tkF mu S p))) os (vwn S 14 6) (vwn S 20 6) (upd (vwn S 26 6) p ((S (26 + p)) + (tkF mu S p))) (vwn S 51 24) le (S 32) (bitF S) (S 0) (S 1) t (S 33) mu wa)) (q0 := 6) hC rfl (by omega) (by omega) rfl dX3_lick_42 ?_
  refine ev_aload_n hC dX3_lick_43 rfl 2 rfl ?_
  refine ev_get hC fl_X3_27_3 (mw 0 rfl) rfl dX3_lick_44 ?_
  refine ev_iload_n hC dX3_lick_47 rfl 3 rfl ?_
  refine ev_dup2 hC dX3_lick_48 rfl rfl ?_
  refine ev_ialdN (i := p) hC (mw 5 rfl) (by omega) (by omega) dX3_lick_49 ?_
  refine ev_top (y := (S (20 + p))) (vwn_at (by omega)) ?_
  refine ev_iload_n hC dX3_lick_50 rfl 1 rfl ?_
  refine ev_iconst (v := (nI 1)) hC dX3_lick_51 (by decide) ?_
  refine ev_aload_n hC dX3_lick_52 rfl 2 rfl ?_
  refine ev_get hC fl_X3_64_3 (mw 0 rfl) rfl dX3_lick_53 ?_
  refine ev_get hC fl_X3_118_10 (mr hTr) rfl dX3_lick_56 ?_
  refine ev_mmax hC ⟨(ft_in 780 (by decide +kernel) rfl), (ft_in 103 (by decide +kernel) rfl), (ft_in 68 (by decide +kernel) rfl), (ft_in 104 (by decide +kernel) rfl)⟩ (by omega) (Nat.le_of_ble_eq_true rfl) dX3_lick_59 ?_
  refine ev_top (y := (needF S)) (by rw [(need_eq hW).1, mxN (by omega) (by have := (need_eq hW).2.2; omega)]; exact congrArg nI (by have := (need_eq hW).2.1; omega)) ?_
  refine ev_idiv hC dX3_lick_62 (fun z => by have h1 := need_eq hW; rw [h1.1] at z; have := (nI_zI (by omega)).mp z; omega) ?_
  refine ev_isub hC dX3_lick_63 ?_
  refine ev_iastN (i := p) (ws' := (MO G b (upd (vwn S 2 6) (sn S (14 + p)) ((S (2 + sn S (14 + p))) - (tkF mu S p))) (upd tk (sn S (14 + p)) ((tk (sn S (14 + p))) + (tkF mu S p))) os (vwn S 14 6) (upd (vwn S 20 6) p ((S (20 + p)) - ((tkF mu S p) / (needF S)))) (upd (vwn S 26 6) p ((S (26 + p)) + (tkF mu S p))) (vwn S 51 24) le (S 32) (bitF S) (S 0) (S 1) t (S 33) mu wa)) (q0 := 5) hC rfl (by omega) (by omega) rfl dX3_lick_64 ?_
  refine ev_ws (ws' := (MO G b (vwn (upd (upd (upd S (2 + sn S (14 + p)) ((S (2 + sn S (14 + p))) - (tkF mu S p))) (26 + p) ((S (26 + p)) + (tkF mu S p))) (20 + p) ((S (20 + p)) - (tkF mu S p) / (needF S))) 2 6) (upd tk (sn S (14 + p)) ((tk (sn S (14 + p))) + (tkF mu S p))) os (vwn (upd (upd (upd S (2 + sn S (14 + p)) ((S (2 + sn S (14 + p))) - (tkF mu S p))) (26 + p) ((S (26 + p)) + (tkF mu S p))) (20 + p) ((S (20 + p)) - (tkF mu S p) / (needF S))) 14 6) (vwn (upd (upd (upd S (2 + sn S (14 + p)) ((S (2 + sn S (14 + p))) - (tkF mu S p))) (26 + p) ((S (26 + p)) + (tkF mu S p))) (20 + p) ((S (20 + p)) - (tkF mu S p) / (needF S))) 20 6) (vwn (upd (upd (upd S (2 + sn S (14 + p)) ((S (2 + sn S (14 + p))) - (tkF mu S p))) (26 + p) ((S (26 + p)) + (tkF mu S p))) (20 + p) ((S (20 + p)) - (tkF mu S p) / (needF S))) 26 6) (vwn (upd (upd (upd S (2 + sn S (14 + p)) ((S (2 + sn S (14 + p))) - (tkF mu S p))) (26 + p) ((S (26 + p)) + (tkF mu S p))) (20 + p) ((S (20 + p)) - (tkF mu S p) / (needF S))) 51 24) le ((upd (upd (upd S (2 + sn S (14 + p)) ((S (2 + sn S (14 + p))) - (tkF mu S p))) (26 + p) ((S (26 + p)) + (tkF mu S p))) (20 + p) ((S (20 + p)) - (tkF mu S p) / (needF S))) 32) (bitF (upd (upd (upd S (2 + sn S (14 + p)) ((S (2 + sn S (14 + p))) - (tkF mu S p))) (26 + p) ((S (26 + p)) + (tkF mu S p))) (20 + p) ((S (20 + p)) - (tkF mu S p) / (needF S)))) ((upd (upd (upd S (2 + sn S (14 + p)) ((S (2 + sn S (14 + p))) - (tkF mu S p))) (26 + p) ((S (26 + p)) + (tkF mu S p))) (20 + p) ((S (20 + p)) - (tkF mu S p) / (needF S))) 0) ((upd (upd (upd S (2 + sn S (14 + p)) ((S (2 + sn S (14 + p))) - (tkF mu S p))) (26 + p) ((S (26 + p)) + (tkF mu S p))) (20 + p) ((S (20 + p)) - (tkF mu S p) / (needF S))) 1) t ((upd (upd (upd S (2 + sn S (14 + p)) ((S (2 + sn S (14 + p))) - (tkF mu S p))) (26 + p) ((S (26 + p)) + (tkF mu S p))) (20 + p) ((S (20 + p)) - (tkF mu S p) / (needF S))) 33) mu wa)) (mo_eq (by rw [vwn_ne (o := 2) (n := 6) (by omega), vwn_ne (o := 2) (n := 6) (by omega), ← vwn_upd (by omega)]) rfl rfl (by rw [vwn_ne (o := 14) (n := 6) (by omega), vwn_ne (o := 14) (n := 6) (by omega), vwn_ne (o := 14) (n := 6) (by omega)]) (by rw [← vwn_upd (by omega), vwn_ne (o := 20) (n := 6) (by omega), vwn_ne (o := 20) (n := 6) (by omega)]) (by rw [vwn_ne (o := 26) (n := 6) (by omega), ← vwn_upd (by omega), vwn_ne (o := 26) (n := 6) (by omega)]) (by rw [vwn_ne (o := 51) (n := 24) (by omega), vwn_ne (o := 51) (n := 24) (by omega), vwn_ne (o := 51) (n := 24) (by omega)]) rfl (by rw [upd_ne _ _ (by omega), upd_ne _ _ (by omega), upd_ne _ _ (by omega)]) (by rw [bitF_ne (by omega), bitF_ne (by omega), bitF_ne (by omega)]) (by rw [upd_ne _ _ (by omega), upd_ne _ _ (by omega), upd_ne _ _ (by omega)]) (by rw [upd_ne _ _ (by omega), upd_ne _ _ (by omega), upd_ne _ _ (by omega)]) (by rw [upd_ne _ _ (by omega), upd_ne _ _ (by omega), upd_ne _ _ (by omega)]) rfl rfl) ?_
  refine ev_vret hC hR rfl dX3_lick_65 ?_
  exact ⟨rfl, rfl, rfl⟩

set_option maxHeartbeats 4000000 in
set_option maxRecDepth 100000 in
theorem m_X3_rainFalls (G : GG) (ro : va_W) (b : Nat → Nat) (S tk le : Nat → Int32) (os : Nat → Option Nat) (t tc : Nat) (mu wa : Int32)  {DD EE : Nat} (hW : WF S DD EE) (hO : MoOK G ro tc S os t)  : Mth G M_X3_rainFalls 2 0 0 [.ref (b 0)] (MO G b (vwn S 2 6) tk os (vwn S 14 6) (vwn S 20 6) (vwn S 26 6) (vwn S 51 24) le (S 32) (bitF S) (S 0) (S 1) t (S 33) mu wa) ro (fun r ws' ro' => r = none ∧ ws' = (MO G b (vwn (rnF S 6) 2 6) tk os (vwn (rnF S 6) 14 6) (vwn (rnF S 6) 20 6) (vwn (rnF S 6) 26 6) (vwn (rnF S 6) 51 24) le ((rnF S 6) 32) (bitF (rnF S 6)) ((rnF S 6) 0) ((rnF S 6) 1) t ((rnF S 6) 33) mu (rsF S wa 6)) ∧ ro = ro') := by
  refine mth_of (by decide +kernel) (Nat.le_of_ble_eq_true rfl) (fun X hC hR => ?_)
  have b32 := hW.peo.le
  obtain ⟨ta1, ta2, ta3, hTr, -, -, -⟩ := id hO.2.2
  show Ev G X 0 0 0 [(0, .ref (b 0))] [] (MO G b (vwn S 2 6) tk os (vwn S 14 6) (vwn S 20 6) (vwn S 26 6) (vwn S 51 24) le (S 32) (bitF S) (S 0) (S 1) t (S 33) mu wa) ro
  refine ev_iconst (v := (nI 0)) hC dX3_rainFalls_0 (by decide) ?_
  refine ev_istore_n (lv' := [(1, .int (nI 0)), (0, .ref (b 0))]) hC dX3_rainFalls_1 rfl (by decide) rfl ?_
  have lp_2 : ∀ (fu_2 : Nat) (k : Nat) (hk : k ≤ 6) (hn : 6 - k < fu_2), Ev G X 0 0 2 [(0, .ref (b 0)), (1, .int (nI k))] [] (MO G b (vwn (rnF S k) 2 6) tk os (vwn (rnF S k) 14 6) (vwn (rnF S k) 20 6) (vwn (rnF S k) 26 6) (vwn (rnF S k) 51 24) le ((rnF S k) 32) (bitF (rnF S k)) ((rnF S k) 0) ((rnF S k) 1) t ((rnF S k) 33) mu (rsF S wa k)) ro := by
    intro fu_2
    induction fu_2 with
    | zero => intro k hk hn; exact absurd hn (Nat.not_lt_zero _)
    | succ fu_2 ih =>
      intro k hk hn
      have hh : Hi S (rnF S k) := (Agr.hi (rnF_agr S (by omega)) (by omega))
      refine ev_iload_n hC dX3_rainFalls_2 rfl 1 rfl ?_
      refine ev_bipush (v := (nI 6)) hC dX3_rainFalls_3 (by decide) ?_
      refine ev_icmp_geN (tgt := 63) hC dX3_rainFalls_5 (by decide) (by omega) (by omega) (fun c_1 => ?_) (fun c_1 => ?_)
      · refine ev_vret hC hR rfl dX3_rainFalls_63 ?_
        obtain rfl : k = 6 := by omega
        exact ⟨rfl, rfl, rfl⟩
      · refine ev_aload_n hC dX3_rainFalls_8 rfl 0 rfl ?_
        refine ev_iload_n hC dX3_rainFalls_9 rfl 1 rfl ?_
        have hk6 : k < 6 := by omega
        refine ev_callV (As := [.int (nI k)]) (st := []) (wf := []) hC cv_X3_144 (m_X3_hasRoof G ro b (rnF S k) tk le os t tc mu (rsF S wa k) k  ((rnF_wf hW (i := k) (by omega)).1) (by omega)) (by omega) rfl rfl (Nat.le_of_ble_eq_true rfl) (List.Perm.of_eq (List.append_nil _).symm) (mw 0 rfl) rfl dX3_rainFalls_10 (by omega) (by omega) ?_
        rintro _ _ _ ⟨rfl, rfl, rfl⟩
        refine ev_ws (List.append_nil _) ?_
        show Ev G X 0 0 13 [(0, .ref (b 0)), (1, .int (nI k))] [.int (bI ((rnF S k) (8 + k) = nI 1))] (MO G b (vwn (rnF S k) 2 6) tk os (vwn (rnF S k) 14 6) (vwn (rnF S k) 20 6) (vwn (rnF S k) 26 6) (vwn (rnF S k) 51 24) le ((rnF S k) 32) (bitF (rnF S k)) ((rnF S k) 0) ((rnF S k) 1) t ((rnF S k) 33) mu (rsF S wa k)) ro
        refine ev_if_eqB (tgt := 20) hC dX3_rainFalls_13 (by decide) (fun c_2 => ?_) (fun c_2 => ?_)
        · refine ev_aload_n hC dX3_rainFalls_20 rfl 0 rfl ?_
          refine ev_get hC fl_X3_64_3 (mw 0 rfl) rfl dX3_rainFalls_21 ?_
          refine ev_get hC fl_X3_147_10 (mr hTr) rfl dX3_rainFalls_24 ?_
          refine ev_aload_n hC dX3_rainFalls_27 rfl 0 rfl ?_
          refine ev_get hC fl_X3_9_3 (mw 0 rfl) rfl dX3_rainFalls_28 ?_
          refine ev_iload_n hC dX3_rainFalls_31 rfl 1 rfl ?_
          refine ev_ialdN (i := k) hC (mw 1 rfl) (by omega) (by omega) dX3_rainFalls_32 ?_
          refine ev_top (y := ((rnF S k) (2 + k))) (vwn_at (by omega)) ?_
          refine ev_mmin hC ⟨(ft_in 734 (by decide +kernel) rfl), (ft_in 382 (by decide +kernel) rfl), (ft_in 68 (by decide +kernel) rfl), (ft_in 383 (by decide +kernel) rfl)⟩ (by omega) (Nat.le_of_ble_eq_true rfl) dX3_rainFalls_33 ?_
          refine ev_top (y := (rn1 (rnF S k) k)) (by rw [rn1, if_neg c_2, mn_le, hh.rain]) ?_
          refine ev_istore_n (lv' := [(2, .int (rn1 (rnF S k) k)), (0, .ref (b 0)), (1, .int (nI k))]) hC dX3_rainFalls_36 rfl (by decide) rfl ?_
          refine ev_aload_n hC dX3_rainFalls_37 rfl 1 rfl ?_
          refine ev_get hC fl_X3_9_3 (mw 0 rfl) rfl dX3_rainFalls_38 ?_
          refine ev_iload_n hC dX3_rainFalls_41 rfl 2 rfl ?_
          refine ev_dup2 hC dX3_rainFalls_42 rfl rfl ?_
          refine ev_ialdN (i := k) hC (mw 1 rfl) (by omega) (by omega) dX3_rainFalls_43 ?_
          refine ev_top (y := ((rnF S k) (2 + k))) (vwn_at (by omega)) ?_
          refine ev_iload_n hC dX3_rainFalls_44 rfl 0 rfl ?_
          refine ev_isub hC dX3_rainFalls_45 ?_
          refine ev_iastN (i := k) (ws' := (MO G b (upd (vwn (rnF S k) 2 6) k (((rnF S k) (2 + k)) - (rn1 (rnF S k) k))) tk os (vwn (rnF S k) 14 6) (vwn (rnF S k) 20 6) (vwn (rnF S k) 26 6) (vwn (rnF S k) 51 24) le ((rnF S k) 32) (bitF (rnF S k)) ((rnF S k) 0) ((rnF S k) 1) t ((rnF S k) 33) mu (rsF S wa k))) (q0 := 1) hC rfl (by omega) (by omega) rfl dX3_rainFalls_46 ?_
          refine ev_aload_n hC dX3_rainFalls_47 rfl 1 rfl ?_
          refine ev_dup hC dX3_rainFalls_48 rfl ?_
          refine ev_get hC fl_X3_61_3 (mw 0 rfl) rfl dX3_rainFalls_49 ?_
          refine ev_iload_n hC dX3_rainFalls_52 rfl 0 rfl ?_
          refine ev_iadd hC dX3_rainFalls_53 ?_
          refine ev_put (ws' := (MO G b (upd (vwn (rnF S k) 2 6) k (((rnF S k) (2 + k)) - (rn1 (rnF S k) k))) tk os (vwn (rnF S k) 14 6) (vwn (rnF S k) 20 6) (vwn (rnF S k) 26 6) (vwn (rnF S k) 51 24) le ((rnF S k) 32) (bitF (rnF S k)) ((rnF S k) 0) ((rnF S k) 1) t ((rnF S k) 33) mu ((rsF S wa k) + (rn1 (rnF S k) k)))) (q0 := 0) hC fp_X3_61_3 rfl (Nat.le_of_ble_eq_true rfl) rfl rfl rfl dX3_rainFalls_54 ?_
          refine ev_iinc (v := (nI (k + 1))) (lv' := [(1, .int (nI (k + 1))), (2, .int (rn1 (rnF S k) k)), (0, .ref (b 0))]) hC dX3_rainFalls_57 (q := 2) rfl (nI_k _ _ 1 (by decide)) (by decide) rfl ?_
          refine ev_goto (tgt := 2) hC dX3_rainFalls_60 (by decide) ?_
          refine ev_lv [2, 0] rfl ?_
          refine ev_ws (ws' := (MO G b (vwn (rnF S (k + 1)) 2 6) tk os (vwn (rnF S (k + 1)) 14 6) (vwn (rnF S (k + 1)) 20 6) (vwn (rnF S (k + 1)) 26 6) (vwn (rnF S (k + 1)) 51 24) le ((rnF S (k + 1)) 32) (bitF (rnF S (k + 1))) ((rnF S (k + 1)) 0) ((rnF S (k + 1)) 1) t ((rnF S (k + 1)) 33) mu (rsF S wa (k + 1)))) (mo_eq (by rw [vwn_upd (by omega), rnF_s (by omega)]) rfl rfl (Agr.vw (fun j hj => (rnF_agr S (i := k + 1) (by omega) j hj).trans (rnF_agr S (i := k) (by omega) j hj).symm : Agr 2 8 (rnF S k) (rnF S (k + 1))) (by omega)) (Agr.vw (fun j hj => (rnF_agr S (i := k + 1) (by omega) j hj).trans (rnF_agr S (i := k) (by omega) j hj).symm : Agr 2 8 (rnF S k) (rnF S (k + 1))) (by omega)) (Agr.vw (fun j hj => (rnF_agr S (i := k + 1) (by omega) j hj).trans (rnF_agr S (i := k) (by omega) j hj).symm : Agr 2 8 (rnF S k) (rnF S (k + 1))) (by omega)) (Agr.vw (fun j hj => (rnF_agr S (i := k + 1) (by omega) j hj).trans (rnF_agr S (i := k) (by omega) j hj).symm : Agr 2 8 (rnF S k) (rnF S (k + 1))) (by omega)) rfl ((fun j hj => (rnF_agr S (i := k + 1) (by omega) j hj).trans (rnF_agr S (i := k) (by omega) j hj).symm : Agr 2 8 (rnF S k) (rnF S (k + 1))) _ (by omega)).symm (Agr.bit (fun j hj => (rnF_agr S (i := k + 1) (by omega) j hj).trans (rnF_agr S (i := k) (by omega) j hj).symm : Agr 2 8 (rnF S k) (rnF S (k + 1))) (by omega)) ((fun j hj => (rnF_agr S (i := k + 1) (by omega) j hj).trans (rnF_agr S (i := k) (by omega) j hj).symm : Agr 2 8 (rnF S k) (rnF S (k + 1))) _ (by omega)).symm ((fun j hj => (rnF_agr S (i := k + 1) (by omega) j hj).trans (rnF_agr S (i := k) (by omega) j hj).symm : Agr 2 8 (rnF S k) (rnF S (k + 1))) _ (by omega)).symm ((fun j hj => (rnF_agr S (i := k + 1) (by omega) j hj).trans (rnF_agr S (i := k) (by omega) j hj).symm : Agr 2 8 (rnF S k) (rnF S (k + 1))) _ (by omega)).symm rfl (by rw [rn1_rnF (by omega)]; rfl)) ?_
          exact ih (k + 1) (by omega) (by omega)
        · refine ev_iconst (v := (nI 0)) hC dX3_rainFalls_16 (by decide) ?_
          refine ev_goto (tgt := 36) hC dX3_rainFalls_17 (by decide) ?_
          refine ev_top (y := (rn1 (rnF S k) k)) (by rw [rn1, if_pos c_2]) ?_
          refine ev_istore_n (lv' := [(2, .int (rn1 (rnF S k) k)), (0, .ref (b 0)), (1, .int (nI k))]) hC dX3_rainFalls_36 rfl (by decide) rfl ?_
          refine ev_aload_n hC dX3_rainFalls_37 rfl 1 rfl ?_
          refine ev_get hC fl_X3_9_3 (mw 0 rfl) rfl dX3_rainFalls_38 ?_
          refine ev_iload_n hC dX3_rainFalls_41 rfl 2 rfl ?_
          refine ev_dup2 hC dX3_rainFalls_42 rfl rfl ?_
          refine ev_ialdN (i := k) hC (mw 1 rfl) (by omega) (by omega) dX3_rainFalls_43 ?_
          refine ev_top (y := ((rnF S k) (2 + k))) (vwn_at (by omega)) ?_
          refine ev_iload_n hC dX3_rainFalls_44 rfl 0 rfl ?_
          refine ev_isub hC dX3_rainFalls_45 ?_
          refine ev_iastN (i := k) (ws' := (MO G b (upd (vwn (rnF S k) 2 6) k (((rnF S k) (2 + k)) - (rn1 (rnF S k) k))) tk os (vwn (rnF S k) 14 6) (vwn (rnF S k) 20 6) (vwn (rnF S k) 26 6) (vwn (rnF S k) 51 24) le ((rnF S k) 32) (bitF (rnF S k)) ((rnF S k) 0) ((rnF S k) 1) t ((rnF S k) 33) mu (rsF S wa k))) (q0 := 1) hC rfl (by omega) (by omega) rfl dX3_rainFalls_46 ?_
          refine ev_aload_n hC dX3_rainFalls_47 rfl 1 rfl ?_
          refine ev_dup hC dX3_rainFalls_48 rfl ?_
          refine ev_get hC fl_X3_61_3 (mw 0 rfl) rfl dX3_rainFalls_49 ?_
          refine ev_iload_n hC dX3_rainFalls_52 rfl 0 rfl ?_
          refine ev_iadd hC dX3_rainFalls_53 ?_
          refine ev_put (ws' := (MO G b (upd (vwn (rnF S k) 2 6) k (((rnF S k) (2 + k)) - (rn1 (rnF S k) k))) tk os (vwn (rnF S k) 14 6) (vwn (rnF S k) 20 6) (vwn (rnF S k) 26 6) (vwn (rnF S k) 51 24) le ((rnF S k) 32) (bitF (rnF S k)) ((rnF S k) 0) ((rnF S k) 1) t ((rnF S k) 33) mu ((rsF S wa k) + (rn1 (rnF S k) k)))) (q0 := 0) hC fp_X3_61_3 rfl (Nat.le_of_ble_eq_true rfl) rfl rfl rfl dX3_rainFalls_54 ?_
          refine ev_iinc (v := (nI (k + 1))) (lv' := [(1, .int (nI (k + 1))), (2, .int (rn1 (rnF S k) k)), (0, .ref (b 0))]) hC dX3_rainFalls_57 (q := 2) rfl (nI_k _ _ 1 (by decide)) (by decide) rfl ?_
          refine ev_goto (tgt := 2) hC dX3_rainFalls_60 (by decide) ?_
          refine ev_lv [2, 0] rfl ?_
          refine ev_ws (ws' := (MO G b (vwn (rnF S (k + 1)) 2 6) tk os (vwn (rnF S (k + 1)) 14 6) (vwn (rnF S (k + 1)) 20 6) (vwn (rnF S (k + 1)) 26 6) (vwn (rnF S (k + 1)) 51 24) le ((rnF S (k + 1)) 32) (bitF (rnF S (k + 1))) ((rnF S (k + 1)) 0) ((rnF S (k + 1)) 1) t ((rnF S (k + 1)) 33) mu (rsF S wa (k + 1)))) (mo_eq (by rw [vwn_upd (by omega), rnF_s (by omega)]) rfl rfl (Agr.vw (fun j hj => (rnF_agr S (i := k + 1) (by omega) j hj).trans (rnF_agr S (i := k) (by omega) j hj).symm : Agr 2 8 (rnF S k) (rnF S (k + 1))) (by omega)) (Agr.vw (fun j hj => (rnF_agr S (i := k + 1) (by omega) j hj).trans (rnF_agr S (i := k) (by omega) j hj).symm : Agr 2 8 (rnF S k) (rnF S (k + 1))) (by omega)) (Agr.vw (fun j hj => (rnF_agr S (i := k + 1) (by omega) j hj).trans (rnF_agr S (i := k) (by omega) j hj).symm : Agr 2 8 (rnF S k) (rnF S (k + 1))) (by omega)) (Agr.vw (fun j hj => (rnF_agr S (i := k + 1) (by omega) j hj).trans (rnF_agr S (i := k) (by omega) j hj).symm : Agr 2 8 (rnF S k) (rnF S (k + 1))) (by omega)) rfl ((fun j hj => (rnF_agr S (i := k + 1) (by omega) j hj).trans (rnF_agr S (i := k) (by omega) j hj).symm : Agr 2 8 (rnF S k) (rnF S (k + 1))) _ (by omega)).symm (Agr.bit (fun j hj => (rnF_agr S (i := k + 1) (by omega) j hj).trans (rnF_agr S (i := k) (by omega) j hj).symm : Agr 2 8 (rnF S k) (rnF S (k + 1))) (by omega)) ((fun j hj => (rnF_agr S (i := k + 1) (by omega) j hj).trans (rnF_agr S (i := k) (by omega) j hj).symm : Agr 2 8 (rnF S k) (rnF S (k + 1))) _ (by omega)).symm ((fun j hj => (rnF_agr S (i := k + 1) (by omega) j hj).trans (rnF_agr S (i := k) (by omega) j hj).symm : Agr 2 8 (rnF S k) (rnF S (k + 1))) _ (by omega)).symm ((fun j hj => (rnF_agr S (i := k + 1) (by omega) j hj).trans (rnF_agr S (i := k) (by omega) j hj).symm : Agr 2 8 (rnF S k) (rnF S (k + 1))) _ (by omega)).symm rfl (by rw [rn1_rnF (by omega)]; rfl)) ?_
          exact ih (k + 1) (by omega) (by omega)
  refine ev_ws (ws' := (MO G b (vwn (rnF S 0) 2 6) tk os (vwn (rnF S 0) 14 6) (vwn (rnF S 0) 20 6) (vwn (rnF S 0) 26 6) (vwn (rnF S 0) 51 24) le ((rnF S 0) 32) (bitF (rnF S 0)) ((rnF S 0) 0) ((rnF S 0) 1) t ((rnF S 0) 33) mu (rsF S wa 0))) (mo_eq (by rw [rnF_0]) rfl rfl (by rw [rnF_0]) (by rw [rnF_0]) (by rw [rnF_0]) (by rw [rnF_0]) rfl (by rw [rnF_0]) (by rw [rnF_0]) (by rw [rnF_0]) (by rw [rnF_0]) (by rw [rnF_0]) rfl rfl) ?_
  refine ev_lv [1, 0] rfl ?_
  exact lp_2 (6 - 0 + 1) 0 (by omega) (Nat.lt_succ_self _)

set_option maxHeartbeats 4000000 in
set_option maxRecDepth 100000 in
theorem m_X3_goDay (G : GG) (ro : va_W) (b : Nat → Nat) (S tk le : Nat → Int32) (os : Nat → Option Nat) (t tc : Nat) (mu wa : Int32)  {DD EE : Nat} (hW : WF S DD EE) (hO : MoOK G ro tc S os t) (hD : DD + 1 < 2 ^ 31) (hE : EE + 168 < 2 ^ 31) : Mth G M_X3_goDay 5 0 0 [.ref (b 0)] (MO G b (vwn S 2 6) tk os (vwn S 14 6) (vwn S 20 6) (vwn S 26 6) (vwn S 51 24) le (S 32) (bitF S) (S 0) (S 1) t (S 33) mu wa) ro (fun r ws' ro' => ∃ (tk' : Nat → Int32), ∃ (le' : Nat → Int32), (∀ k, k < 6 → tk' k = taF mu (g1F S (sn S 32)) (sn S 32) k) ∧ r = none ∧ ws' = (MO G b (vwn (goF mu S) 2 6) tk' os (vwn (goF mu S) 14 6) (vwn (goF mu S) 20 6) (vwn (goF mu S) 26 6) (vwn (goF mu S) 51 24) le' ((goF mu S) 32) (bitF (goF mu S)) ((goF mu S) 0) ((goF mu S) 1) t ((goF mu S) 33) mu (rsF (alF mu S) wa 6)) ∧ ro = ro') := by
  refine mth_of (by decide +kernel) (Nat.le_of_ble_eq_true rfl) (fun X hC hR => ?_)
  have b32 := hW.peo.le
  show Ev G X 0 0 0 [(0, .ref (b 0))] [] (MO G b (vwn S 2 6) tk os (vwn S 14 6) (vwn S 20 6) (vwn S 26 6) (vwn S 51 24) le (S 32) (bitF S) (S 0) (S 1) t (S 33) mu wa) ro
  refine ev_iconst (v := (nI 0)) hC dX3_goDay_0 (by decide) ?_
  refine ev_istore_n (lv' := [(1, .int (nI 0)), (0, .ref (b 0))]) hC dX3_goDay_1 rfl (by decide) rfl ?_
  have lp_2 : ∀ (fu_2 : Nat) (i : Nat) (le : Nat → Int32) (hi : i ≤ sn S 32) (hn : sn S 32 - i < fu_2), Ev G X 0 0 2 [(0, .ref (b 0)), (1, .int (nI i))] [] (MO G b (vwn (g1F S i) 2 6) tk os (vwn (g1F S i) 14 6) (vwn (g1F S i) 20 6) (vwn (g1F S i) 26 6) (vwn (g1F S i) 51 24) le ((g1F S i) 32) (bitF (g1F S i)) ((g1F S i) 0) ((g1F S i) 1) t ((g1F S i) 33) mu wa) ro := by
    intro fu_2
    induction fu_2 with
    | zero => intro i le hi hn; exact absurd hn (Nat.not_lt_zero _)
    | succ fu_2 ih =>
      intro i le hi hn
      have e32 : NB (g1F S i) 32 6 := hW.peo.congr (g1F_agr S (i := i) (by omega) 32 (by omega))
      have e32s : sn (g1F S i) 32 = sn S 32 := sn_congr (g1F_agr S (i := i) (by omega) 32 (by omega))
      refine ev_iload_n hC dX3_goDay_2 rfl 1 rfl ?_
      refine ev_aload_n hC dX3_goDay_3 rfl 0 rfl ?_
      refine ev_get hC fl_X3_41_3 (mw 0 rfl) rfl dX3_goDay_4 ?_
      refine ev_top (y := (nI (sn S 32))) (e32.eq.trans (congrArg nI e32s)) ?_
      refine ev_icmp_geN (tgt := 43) hC dX3_goDay_7 (by decide) (by omega) (by omega) (fun c_1 => ?_) (fun c_1 => ?_)
      · obtain rfl : i = sn S 32 := by omega
        show Ev G X 0 0 43 [(0, .ref (b 0)), (1, .int (nI (sn S 32)))] [] (MO G b (vwn (g1F S (sn S 32)) 2 6) tk os (vwn (g1F S (sn S 32)) 14 6) (vwn (g1F S (sn S 32)) 20 6) (vwn (g1F S (sn S 32)) 26 6) (vwn (g1F S (sn S 32)) 51 24) le ((g1F S (sn S 32)) 32) (bitF (g1F S (sn S 32))) ((g1F S (sn S 32)) 0) ((g1F S (sn S 32)) 1) t ((g1F S (sn S 32)) 33) mu wa) ro
        refine ev_aload_n hC dX3_goDay_43 rfl 0 rfl ?_
        refine ev_get hC fl_X3_15_3 (mw 0 rfl) rfl dX3_goDay_44 ?_
        refine ev_iconst (v := (nI 0)) hC dX3_goDay_47 (by decide) ?_
        refine ev_callS (As := [.ref (b 2), .int (nI 0)]) (st := []) (wc := [((b 2), ia G 6 tk)]) (wf := [((b 0), ob 3 [.ref (b 1), .ref (b 2), .ref (b 3), .ref (b 4), .ref (b 5), .ref (b 6), .ref (b 7), .ref (b 8), .int ((g1F S (sn S 32)) 32), .int (bitF (g1F S (sn S 32))), .int ((g1F S (sn S 32)) 0), .int ((g1F S (sn S 32)) 1), .ref t, .int ((g1F S (sn S 32)) 33), .int mu, .int wa]), ((b 1), ia G 6 (vwn (g1F S (sn S 32)) 2 6)), ((b 3), pa G 6 os), ((b 4), ia G 6 (vwn (g1F S (sn S 32)) 14 6)), ((b 5), ia G 6 (vwn (g1F S (sn S 32)) 20 6)), ((b 6), ia G 6 (vwn (g1F S (sn S 32)) 26 6)), ((b 7), ia G 24 (vwn (g1F S (sn S 32)) 51 24)), ((b 8), ia G 6 le)]) hC ct_X3_68 (m_J7_fill_53178 G ro (b 2) 6 tk (nI 0) (by omega)) (by omega) rfl rfl (Nat.le_of_ble_eq_true rfl) (perm_ks [2, 0, 1, 3, 4, 5, 6, 7, 8] (show List.Perm _ (List.range 9) by decide) rfl) dX3_goDay_48 (by omega) (by omega) ?_
        rintro _ _ _ ⟨rfl, rfl, rfl⟩
        refine ev_perm (ws' := (MO G b (vwn (g1F S (sn S 32)) 2 6) (flF tk 0 6 (nI 0)) os (vwn (g1F S (sn S 32)) 14 6) (vwn (g1F S (sn S 32)) 20 6) (vwn (g1F S (sn S 32)) 26 6) (vwn (g1F S (sn S 32)) 51 24) le ((g1F S (sn S 32)) 32) (bitF (g1F S (sn S 32))) ((g1F S (sn S 32)) 0) ((g1F S (sn S 32)) 1) t ((g1F S (sn S 32)) 33) mu wa)) (perm_ks [1, 2, 0, 3, 4, 5, 6, 7, 8] (show List.Perm _ (List.range 9) by decide) rfl) ?_
        show Ev G X 0 0 51 [(0, .ref (b 0)), (1, .int (nI (sn S 32)))] [] (MO G b (vwn (g1F S (sn S 32)) 2 6) (flF tk 0 6 (nI 0)) os (vwn (g1F S (sn S 32)) 14 6) (vwn (g1F S (sn S 32)) 20 6) (vwn (g1F S (sn S 32)) 26 6) (vwn (g1F S (sn S 32)) 51 24) le ((g1F S (sn S 32)) 32) (bitF (g1F S (sn S 32))) ((g1F S (sn S 32)) 0) ((g1F S (sn S 32)) 1) t ((g1F S (sn S 32)) 33) mu wa) ro
        refine ev_ext (ws' := (MO G b (vwn (g1F S (sn S 32)) 2 6) (taF mu (g1F S (sn S 32)) 0) os (vwn (g1F S (sn S 32)) 14 6) (vwn (g1F S (sn S 32)) 20 6) (vwn (g1F S (sn S 32)) 26 6) (vwn (g1F S (sn S 32)) 51 24) le ((g1F S (sn S 32)) 32) (bitF (g1F S (sn S 32))) ((g1F S (sn S 32)) 0) ((g1F S (sn S 32)) 1) t ((g1F S (sn S 32)) 33) mu wa)) (q0 := 2) rfl (fun j hj => if_pos (by omega)) rfl ?_
        refine ev_iconst (v := (nI 0)) hC dX3_goDay_51 (by decide) ?_
        refine ev_istore_n (lv' := [(1, .int (nI 0)), (0, .ref (b 0))]) hC dX3_goDay_52 rfl (by decide) rfl ?_
        have lp_53 : ∀ (fu_53 : Nat) (i : Nat) (K2 : Nat → Int32) (le : Nat → Int32) (hi : i ≤ sn S 32) (hK : ∀ k, k < 6 → K2 k = taF mu (g1F S (sn S 32)) i k) (hn : sn S 32 - i < fu_53), Ev G X 0 0 53 [(0, .ref (b 0)), (1, .int (nI i))] [] (MO G b (vwn (lkF mu (g1F S (sn S 32)) i) 2 6) K2 os (vwn (lkF mu (g1F S (sn S 32)) i) 14 6) (vwn (lkF mu (g1F S (sn S 32)) i) 20 6) (vwn (lkF mu (g1F S (sn S 32)) i) 26 6) (vwn (lkF mu (g1F S (sn S 32)) i) 51 24) le ((lkF mu (g1F S (sn S 32)) i) 32) (bitF (lkF mu (g1F S (sn S 32)) i)) ((lkF mu (g1F S (sn S 32)) i) 0) ((lkF mu (g1F S (sn S 32)) i) 1) t ((lkF mu (g1F S (sn S 32)) i) 33) mu wa) ro := by
          intro fu_53
          induction fu_53 with
          | zero => intro i K2 le hi hK hn; exact absurd hn (Nat.not_lt_zero _)
          | succ fu_53 ih_53 =>
            intro i K2 le hi hK hn
            have hl2 := lkF_wf mu (g1F_wf hW (i := sn S 32) (by omega)) i (by omega) (by omega)
            have e32 : NB (lkF mu (g1F S (sn S 32)) i) 32 6 := hl2.1.peo
            have e32s : sn (lkF mu (g1F S (sn S 32)) i) 32 = sn S 32 := (hl2.2.sn (by omega)).trans (sn_congr (g1F_agr S (i := sn S 32) (by omega) 32 (by omega)))
            refine ev_iload_n hC dX3_goDay_53 rfl 1 rfl ?_
            refine ev_aload_n hC dX3_goDay_54 rfl 0 rfl ?_
            refine ev_get hC fl_X3_41_3 (mw 0 rfl) rfl dX3_goDay_55 ?_
            refine ev_top (y := (nI (sn S 32))) (e32.eq.trans (congrArg nI e32s)) ?_
            refine ev_icmp_geN (tgt := 72) hC dX3_goDay_58 (by decide) (by omega) (by omega) (fun c_2 => ?_) (fun c_2 => ?_)
            · obtain rfl : i = sn S 32 := by omega
              refine ev_ws (ws' := (MO G b (vwn (alF mu S) 2 6) K2 os (vwn (alF mu S) 14 6) (vwn (alF mu S) 20 6) (vwn (alF mu S) 26 6) (vwn (alF mu S) 51 24) le ((alF mu S) 32) (bitF (alF mu S)) ((alF mu S) 0) ((alF mu S) 1) t ((alF mu S) 33) mu wa)) (mo_eq rfl rfl rfl rfl rfl rfl rfl rfl rfl rfl rfl rfl rfl rfl rfl) ?_
              refine ev_aload_n hC dX3_goDay_72 rfl 0 rfl ?_
              refine ev_callV (As := []) (st := []) (wf := []) hC cv_X3_134 (m_X3_rainFalls G ro b (alF mu S) K2 le os t tc mu wa  ((alF_wf mu hW (by omega)).1) (MoOK.hi hO (Hi.tr Hi.rf (alF_wf mu hW (by omega)).2))) (by omega) rfl rfl (Nat.le_of_ble_eq_true rfl) (List.Perm.of_eq (List.append_nil _).symm) (mw 0 rfl) rfl dX3_goDay_73 (by omega) (by omega) ?_
              rintro _ _ _ ⟨rfl, rfl, rfl⟩
              refine ev_ws (List.append_nil _) ?_
              show Ev G X 0 0 76 [(0, .ref (b 0)), (1, .int (nI (sn S 32)))] [] (MO G b (vwn (rnF (alF mu S) 6) 2 6) K2 os (vwn (rnF (alF mu S) 6) 14 6) (vwn (rnF (alF mu S) 6) 20 6) (vwn (rnF (alF mu S) 6) 26 6) (vwn (rnF (alF mu S) 6) 51 24) le ((rnF (alF mu S) 6) 32) (bitF (rnF (alF mu S) 6)) ((rnF (alF mu S) 6) 0) ((rnF (alF mu S) 6) 1) t ((rnF (alF mu S) 6) 33) mu (rsF (alF mu S) wa 6)) ro
              have b3w := ((rnF_wf (alF_wf mu hW (by omega)).1 (i := 6) (by omega)).1).war
              refine ev_aload_n hC dX3_goDay_76 rfl 0 rfl ?_
              refine ev_aload_n hC dX3_goDay_77 rfl 0 rfl ?_
              refine ev_get hC fl_X3_51_3 (mw 0 rfl) rfl dX3_goDay_78 ?_
              refine ev_top (y := (nI (sn (rnF (alF mu S) 6) 1))) b3w.eq ?_
              have b3l := b3w.le
              refine ev_if_neN (tgt := 91) hC dX3_goDay_81 (by decide) (by omega) (fun c_3 => ?_) (fun c_3 => ?_)
              · refine ev_iconst (v := (nI 1)) hC dX3_goDay_91 (by decide) ?_
                refine ev_goto (tgt := 96) hC dX3_goDay_92 (by decide) ?_
                refine ev_put (ws' := (MO G b (vwn (rnF (alF mu S) 6) 2 6) K2 os (vwn (rnF (alF mu S) 6) 14 6) (vwn (rnF (alF mu S) 6) 20 6) (vwn (rnF (alF mu S) 6) 26 6) (vwn (rnF (alF mu S) 6) 51 24) le ((rnF (alF mu S) 6) 32) (bitF (rnF (alF mu S) 6)) ((rnF (alF mu S) 6) 0) (nI 1) t ((rnF (alF mu S) 6) 33) mu (rsF (alF mu S) wa 6))) (q0 := 0) hC fp_X3_51_3 rfl (Nat.le_of_ble_eq_true rfl) (nar_01 (by decide)).1 (nar_01 (by decide)).2.1 rfl dX3_goDay_96 ?_
                refine ev_aload_n hC dX3_goDay_99 rfl 0 rfl ?_
                refine ev_dup hC dX3_goDay_100 rfl ?_
                refine ev_get hC fl_X3_48_3 (mw 0 rfl) rfl dX3_goDay_101 ?_
                refine ev_iconst (v := (nI 1)) hC dX3_goDay_104 (by decide) ?_
                refine ev_iadd hC dX3_goDay_105 ?_
                refine ev_put (ws' := (MO G b (vwn (rnF (alF mu S) 6) 2 6) K2 os (vwn (rnF (alF mu S) 6) 14 6) (vwn (rnF (alF mu S) 6) 20 6) (vwn (rnF (alF mu S) 6) 26 6) (vwn (rnF (alF mu S) 6) 51 24) le ((rnF (alF mu S) 6) 32) (bitF (rnF (alF mu S) 6)) (((rnF (alF mu S) 6) 0) + (nI 1)) (nI 1) t ((rnF (alF mu S) 6) 33) mu (rsF (alF mu S) wa 6))) (q0 := 0) hC fp_X3_48_3 rfl (Nat.le_of_ble_eq_true rfl) rfl rfl rfl dX3_goDay_106 ?_
                have ew : (nI 1) = (if sum6 (rnF (alF mu S) 6) 2 = 0 then nI 1 else (rnF (alF mu S) 6) 1) := by
                  first | (rw [if_pos (by first | assumption | exact Decidable.not_not.mp (by assumption))]) | (split; rfl; (rw [b3w.eq]; exact congrArg nI (by have := b3w.le; omega)))
                refine ev_ws (ws' := (MO G b (vwn (goF mu S) 2 6) K2 os (vwn (goF mu S) 14 6) (vwn (goF mu S) 20 6) (vwn (goF mu S) 26 6) (vwn (goF mu S) 51 24) le ((goF mu S) 32) (bitF (goF mu S)) ((goF mu S) 0) ((goF mu S) 1) t ((goF mu S) 33) mu (rsF (alF mu S) wa 6))) (mo_eq (Agr.vw (wdF_agr (rnF (alF mu S) 6)) (by omega)) rfl rfl (Agr.vw (wdF_agr (rnF (alF mu S) 6)) (by omega)) (Agr.vw (wdF_agr (rnF (alF mu S) 6)) (by omega)) (Agr.vw (wdF_agr (rnF (alF mu S) 6)) (by omega)) (Agr.vw (wdF_agr (rnF (alF mu S) 6)) (by omega)) rfl ((wdF_agr (rnF (alF mu S) 6)) _ (by omega)).symm (Agr.bit (wdF_agr (rnF (alF mu S) 6)) (by omega)) (by rw [goF, wdF, upd_eq]) (ew.trans (by rw [goF, wdF, upd_ne _ _ (by omega), upd_eq])) ((wdF_agr (rnF (alF mu S) 6)) _ (by omega)).symm rfl rfl) ?_
                refine ev_vret hC hR rfl dX3_goDay_109 ?_
                exact ⟨_, _, hK, rfl, rfl, rfl⟩
              · refine ev_aload_n hC dX3_goDay_84 rfl 0 rfl ?_
                refine ev_callV (As := []) (st := [.ref (b 0)]) (wf := []) hC cv_X3_137 (m_X3_allSalt G ro b (rnF (alF mu S) 6) K2 le os t tc mu (rsF (alF mu S) wa 6)  ((rnF_wf (alF_wf mu hW (by omega)).1 (i := 6) (by omega)).1)) (by omega) rfl rfl (Nat.le_of_ble_eq_true rfl) (List.Perm.of_eq (List.append_nil _).symm) (mw 0 rfl) rfl dX3_goDay_85 (by omega) (by omega) ?_
                rintro _ _ _ ⟨rfl, rfl, rfl⟩
                refine ev_ws (List.append_nil _) ?_
                show Ev G X 0 0 88 [(0, .ref (b 0)), (1, .int (nI (sn S 32)))] [.int (sum6 (rnF (alF mu S) 6) 2), .ref (b 0)] (MO G b (vwn (rnF (alF mu S) 6) 2 6) K2 os (vwn (rnF (alF mu S) 6) 14 6) (vwn (rnF (alF mu S) 6) 20 6) (vwn (rnF (alF mu S) 6) 26 6) (vwn (rnF (alF mu S) 6) 51 24) le ((rnF (alF mu S) 6) 32) (bitF (rnF (alF mu S) 6)) ((rnF (alF mu S) 6) 0) ((rnF (alF mu S) 6) 1) t ((rnF (alF mu S) 6) 33) mu (rsF (alF mu S) wa 6)) ro
                refine ev_if_ne (tgt := 95) hC dX3_goDay_88 (by decide) (fun c_4 => ?_) (fun c_4 => ?_)
                · refine ev_iconst (v := (nI 0)) hC dX3_goDay_95 (by decide) ?_
                  refine ev_put (ws' := (MO G b (vwn (rnF (alF mu S) 6) 2 6) K2 os (vwn (rnF (alF mu S) 6) 14 6) (vwn (rnF (alF mu S) 6) 20 6) (vwn (rnF (alF mu S) 6) 26 6) (vwn (rnF (alF mu S) 6) 51 24) le ((rnF (alF mu S) 6) 32) (bitF (rnF (alF mu S) 6)) ((rnF (alF mu S) 6) 0) (nI 0) t ((rnF (alF mu S) 6) 33) mu (rsF (alF mu S) wa 6))) (q0 := 0) hC fp_X3_51_3 rfl (Nat.le_of_ble_eq_true rfl) (nar_01 (by decide)).1 (nar_01 (by decide)).2.1 rfl dX3_goDay_96 ?_
                  refine ev_aload_n hC dX3_goDay_99 rfl 0 rfl ?_
                  refine ev_dup hC dX3_goDay_100 rfl ?_
                  refine ev_get hC fl_X3_48_3 (mw 0 rfl) rfl dX3_goDay_101 ?_
                  refine ev_iconst (v := (nI 1)) hC dX3_goDay_104 (by decide) ?_
                  refine ev_iadd hC dX3_goDay_105 ?_
                  refine ev_put (ws' := (MO G b (vwn (rnF (alF mu S) 6) 2 6) K2 os (vwn (rnF (alF mu S) 6) 14 6) (vwn (rnF (alF mu S) 6) 20 6) (vwn (rnF (alF mu S) 6) 26 6) (vwn (rnF (alF mu S) 6) 51 24) le ((rnF (alF mu S) 6) 32) (bitF (rnF (alF mu S) 6)) (((rnF (alF mu S) 6) 0) + (nI 1)) (nI 0) t ((rnF (alF mu S) 6) 33) mu (rsF (alF mu S) wa 6))) (q0 := 0) hC fp_X3_48_3 rfl (Nat.le_of_ble_eq_true rfl) rfl rfl rfl dX3_goDay_106 ?_
                  have ew : (nI 0) = (if sum6 (rnF (alF mu S) 6) 2 = 0 then nI 1 else (rnF (alF mu S) 6) 1) := by
                    rw [if_neg (by assumption), b3w.eq]; exact congrArg nI (by omega)
                  refine ev_ws (ws' := (MO G b (vwn (goF mu S) 2 6) K2 os (vwn (goF mu S) 14 6) (vwn (goF mu S) 20 6) (vwn (goF mu S) 26 6) (vwn (goF mu S) 51 24) le ((goF mu S) 32) (bitF (goF mu S)) ((goF mu S) 0) ((goF mu S) 1) t ((goF mu S) 33) mu (rsF (alF mu S) wa 6))) (mo_eq (Agr.vw (wdF_agr (rnF (alF mu S) 6)) (by omega)) rfl rfl (Agr.vw (wdF_agr (rnF (alF mu S) 6)) (by omega)) (Agr.vw (wdF_agr (rnF (alF mu S) 6)) (by omega)) (Agr.vw (wdF_agr (rnF (alF mu S) 6)) (by omega)) (Agr.vw (wdF_agr (rnF (alF mu S) 6)) (by omega)) rfl ((wdF_agr (rnF (alF mu S) 6)) _ (by omega)).symm (Agr.bit (wdF_agr (rnF (alF mu S) 6)) (by omega)) (by rw [goF, wdF, upd_eq]) (ew.trans (by rw [goF, wdF, upd_ne _ _ (by omega), upd_eq])) ((wdF_agr (rnF (alF mu S) 6)) _ (by omega)).symm rfl rfl) ?_
                  refine ev_vret hC hR rfl dX3_goDay_109 ?_
                  exact ⟨_, _, hK, rfl, rfl, rfl⟩
                · refine ev_iconst (v := (nI 1)) hC dX3_goDay_91 (by decide) ?_
                  refine ev_goto (tgt := 96) hC dX3_goDay_92 (by decide) ?_
                  refine ev_put (ws' := (MO G b (vwn (rnF (alF mu S) 6) 2 6) K2 os (vwn (rnF (alF mu S) 6) 14 6) (vwn (rnF (alF mu S) 6) 20 6) (vwn (rnF (alF mu S) 6) 26 6) (vwn (rnF (alF mu S) 6) 51 24) le ((rnF (alF mu S) 6) 32) (bitF (rnF (alF mu S) 6)) ((rnF (alF mu S) 6) 0) (nI 1) t ((rnF (alF mu S) 6) 33) mu (rsF (alF mu S) wa 6))) (q0 := 0) hC fp_X3_51_3 rfl (Nat.le_of_ble_eq_true rfl) (nar_01 (by decide)).1 (nar_01 (by decide)).2.1 rfl dX3_goDay_96 ?_
                  refine ev_aload_n hC dX3_goDay_99 rfl 0 rfl ?_
                  refine ev_dup hC dX3_goDay_100 rfl ?_
                  refine ev_get hC fl_X3_48_3 (mw 0 rfl) rfl dX3_goDay_101 ?_
                  refine ev_iconst (v := (nI 1)) hC dX3_goDay_104 (by decide) ?_
                  refine ev_iadd hC dX3_goDay_105 ?_
                  refine ev_put (ws' := (MO G b (vwn (rnF (alF mu S) 6) 2 6) K2 os (vwn (rnF (alF mu S) 6) 14 6) (vwn (rnF (alF mu S) 6) 20 6) (vwn (rnF (alF mu S) 6) 26 6) (vwn (rnF (alF mu S) 6) 51 24) le ((rnF (alF mu S) 6) 32) (bitF (rnF (alF mu S) 6)) (((rnF (alF mu S) 6) 0) + (nI 1)) (nI 1) t ((rnF (alF mu S) 6) 33) mu (rsF (alF mu S) wa 6))) (q0 := 0) hC fp_X3_48_3 rfl (Nat.le_of_ble_eq_true rfl) rfl rfl rfl dX3_goDay_106 ?_
                  have ew : (nI 1) = (if sum6 (rnF (alF mu S) 6) 2 = 0 then nI 1 else (rnF (alF mu S) 6) 1) := by
                    first | (rw [if_pos (by first | assumption | exact Decidable.not_not.mp (by assumption))]) | (split; rfl; (rw [b3w.eq]; exact congrArg nI (by have := b3w.le; omega)))
                  refine ev_ws (ws' := (MO G b (vwn (goF mu S) 2 6) K2 os (vwn (goF mu S) 14 6) (vwn (goF mu S) 20 6) (vwn (goF mu S) 26 6) (vwn (goF mu S) 51 24) le ((goF mu S) 32) (bitF (goF mu S)) ((goF mu S) 0) ((goF mu S) 1) t ((goF mu S) 33) mu (rsF (alF mu S) wa 6))) (mo_eq (Agr.vw (wdF_agr (rnF (alF mu S) 6)) (by omega)) rfl rfl (Agr.vw (wdF_agr (rnF (alF mu S) 6)) (by omega)) (Agr.vw (wdF_agr (rnF (alF mu S) 6)) (by omega)) (Agr.vw (wdF_agr (rnF (alF mu S) 6)) (by omega)) (Agr.vw (wdF_agr (rnF (alF mu S) 6)) (by omega)) rfl ((wdF_agr (rnF (alF mu S) 6)) _ (by omega)).symm (Agr.bit (wdF_agr (rnF (alF mu S) 6)) (by omega)) (by rw [goF, wdF, upd_eq]) (ew.trans (by rw [goF, wdF, upd_ne _ _ (by omega), upd_eq])) ((wdF_agr (rnF (alF mu S) 6)) _ (by omega)).symm rfl rfl) ?_
                  refine ev_vret hC hR rfl dX3_goDay_109 ?_
                  exact ⟨_, _, hK, rfl, rfl, rfl⟩
            · refine ev_aload_n hC dX3_goDay_61 rfl 0 rfl ?_
              refine ev_iload_n hC dX3_goDay_62 rfl 1 rfl ?_
              refine ev_callV (As := [.int (nI i)]) (st := []) (wf := []) hC cv_X3_130 (m_X3_lick G ro b (lkF mu (g1F S (sn S 32)) i) K2 le os t tc mu wa i  ((lkF_wf mu (g1F_wf hW (i := (sn S 32)) (by omega)) i (by omega) (by omega)).1) (MoOK.hi hO (Hi.tr (Hi.tr Hi.rf (Agr.hi (g1F_agr _ (i := (sn S 32)) (by omega)) (by omega))) (lkF_wf mu (g1F_wf hW (i := (sn S 32)) (by omega)) i (by omega) (by omega)).2)) (by omega)) (by omega) rfl rfl (Nat.le_of_ble_eq_true rfl) (List.Perm.of_eq (List.append_nil _).symm) (mw 0 rfl) rfl dX3_goDay_63 (by omega) (by omega) ?_
              rintro _ _ _ ⟨rfl, rfl, rfl⟩
              refine ev_ws (List.append_nil _) ?_
              show Ev G X 0 0 66 [(0, .ref (b 0)), (1, .int (nI i))] [] (MO G b (vwn (lk1 mu (lkF mu (g1F S (sn S 32)) i) i) 2 6) (upd K2 (sn (lkF mu (g1F S (sn S 32)) i) (14 + i)) (K2 (sn (lkF mu (g1F S (sn S 32)) i) (14 + i)) + tkF mu (lkF mu (g1F S (sn S 32)) i) i)) os (vwn (lk1 mu (lkF mu (g1F S (sn S 32)) i) i) 14 6) (vwn (lk1 mu (lkF mu (g1F S (sn S 32)) i) i) 20 6) (vwn (lk1 mu (lkF mu (g1F S (sn S 32)) i) i) 26 6) (vwn (lk1 mu (lkF mu (g1F S (sn S 32)) i) i) 51 24) le ((lk1 mu (lkF mu (g1F S (sn S 32)) i) i) 32) (bitF (lk1 mu (lkF mu (g1F S (sn S 32)) i) i)) ((lk1 mu (lkF mu (g1F S (sn S 32)) i) i) 0) ((lk1 mu (lkF mu (g1F S (sn S 32)) i) i) 1) t ((lk1 mu (lkF mu (g1F S (sn S 32)) i) i) 33) mu wa) ro
              refine ev_iinc (v := (nI (i + 1))) (lv' := [(1, .int (nI (i + 1))), (0, .ref (b 0))]) hC dX3_goDay_66 (q := 1) rfl (nI_k _ _ 1 (by decide)) (by decide) rfl ?_
              refine ev_goto (tgt := 53) hC dX3_goDay_69 (by decide) ?_
              refine ev_lv [1, 0] rfl ?_
              refine ev_ws (ws' := (MO G b (vwn (lkF mu (g1F S (sn S 32)) (i + 1)) 2 6) (upd K2 (sn (lkF mu (g1F S (sn S 32)) i) (14 + i)) (K2 (sn (lkF mu (g1F S (sn S 32)) i) (14 + i)) + tkF mu (lkF mu (g1F S (sn S 32)) i) i)) os (vwn (lkF mu (g1F S (sn S 32)) (i + 1)) 14 6) (vwn (lkF mu (g1F S (sn S 32)) (i + 1)) 20 6) (vwn (lkF mu (g1F S (sn S 32)) (i + 1)) 26 6) (vwn (lkF mu (g1F S (sn S 32)) (i + 1)) 51 24) le ((lkF mu (g1F S (sn S 32)) (i + 1)) 32) (bitF (lkF mu (g1F S (sn S 32)) (i + 1))) ((lkF mu (g1F S (sn S 32)) (i + 1)) 0) ((lkF mu (g1F S (sn S 32)) (i + 1)) 1) t ((lkF mu (g1F S (sn S 32)) (i + 1)) 33) mu wa)) (mo_eq rfl rfl rfl rfl rfl rfl rfl rfl rfl rfl rfl rfl rfl rfl rfl) ?_
              exact ih_53 (i + 1) (upd K2 (sn (lkF mu (g1F S (sn S 32)) i) (14 + i)) (K2 (sn (lkF mu (g1F S (sn S 32)) i) (14 + i)) + tkF mu (lkF mu (g1F S (sn S 32)) i) i)) le (by omega) (taF_s rfl hK (by have := (hl2.1.side i (by omega)).le; omega) rfl) (by omega)
        refine ev_ws (ws' := (MO G b (vwn (lkF mu (g1F S (sn S 32)) 0) 2 6) (taF mu (g1F S (sn S 32)) 0) os (vwn (lkF mu (g1F S (sn S 32)) 0) 14 6) (vwn (lkF mu (g1F S (sn S 32)) 0) 20 6) (vwn (lkF mu (g1F S (sn S 32)) 0) 26 6) (vwn (lkF mu (g1F S (sn S 32)) 0) 51 24) le ((lkF mu (g1F S (sn S 32)) 0) 32) (bitF (lkF mu (g1F S (sn S 32)) 0)) ((lkF mu (g1F S (sn S 32)) 0) 0) ((lkF mu (g1F S (sn S 32)) 0) 1) t ((lkF mu (g1F S (sn S 32)) 0) 33) mu wa)) (mo_eq rfl rfl rfl rfl rfl rfl rfl rfl rfl rfl rfl rfl rfl rfl rfl) ?_
        refine ev_lv [1, 0] rfl ?_
        exact lp_53 (sn S 32 - 0 + 1) 0 (taF mu (g1F S (sn S 32)) 0) le (by omega) (fun k _ => rfl) (Nat.lt_succ_self _)
      · refine ev_aload_n hC dX3_goDay_10 rfl 0 rfl ?_
        refine ev_get hC fl_X3_27_3 (mw 0 rfl) rfl dX3_goDay_11 ?_
        refine ev_iload_n hC dX3_goDay_14 rfl 1 rfl ?_
        refine ev_iconst (v := (nI 0)) hC dX3_goDay_15 (by decide) ?_
        refine ev_bipush (v := (nI 99)) hC dX3_goDay_16 (by decide) ?_
        refine ev_aload_n hC dX3_goDay_18 rfl 0 rfl ?_
        refine ev_get hC fl_X3_27_3 (mw 0 rfl) rfl dX3_goDay_19 ?_
        refine ev_iload_n hC dX3_goDay_22 rfl 1 rfl ?_
        refine ev_ialdN (i := i) hC (mw 5 rfl) (by omega) (by omega) dX3_goDay_23 ?_
        refine ev_top (y := ((g1F S i) (20 + i))) (vwn_at (by omega)) ?_
        refine ev_aload_n hC dX3_goDay_24 rfl 0 rfl ?_
        refine ev_iload_n hC dX3_goDay_25 rfl 1 rfl ?_
        refine ev_callV (As := [.int (nI i)]) (st := [.int ((g1F S i) (20 + i)), .int (nI 99), .int (nI 0), .int (nI i), .ref (b 5)]) (wf := []) hC cv_X3_124 (m_X3_risesOf G ro b (g1F S i) tk le os t tc mu wa i  (g1F_wf hW (i := i) (by omega)) (MoOK.hi hO (Hi.tr Hi.rf (Agr.hi (g1F_agr _ (i := i) (by omega)) (by omega)))) (by omega)) (by omega) rfl rfl (Nat.le_of_ble_eq_true rfl) (List.Perm.of_eq (List.append_nil _).symm) (mw 0 rfl) rfl dX3_goDay_26 (by omega) (by omega) ?_
        rintro _ _ _ ⟨rfl, rfl, rfl⟩
        refine ev_ws (List.append_nil _) ?_
        show Ev G X 0 0 29 [(0, .ref (b 0)), (1, .int (nI i))] [.int (risF (g1F S i) i), .int ((g1F S i) (20 + i)), .int (nI 99), .int (nI 0), .int (nI i), .ref (b 5)] (MO G b (vwn (g1F S i) 2 6) tk os (vwn (g1F S i) 14 6) (vwn (g1F S i) 20 6) (vwn (g1F S i) 26 6) (vwn (g1F S i) 51 24) (byF (g1F S i) i) ((g1F S i) 32) (bitF (g1F S i)) ((g1F S i) 0) ((g1F S i) 1) t ((g1F S i) 33) mu wa) ro
        refine ev_iadd hC dX3_goDay_29 ?_
        refine ev_mmin hC ⟨(ft_in 734 (by decide +kernel) rfl), (ft_in 382 (by decide +kernel) rfl), (ft_in 68 (by decide +kernel) rfl), (ft_in 383 (by decide +kernel) rfl)⟩ (by omega) (Nat.le_of_ble_eq_true rfl) dX3_goDay_30 ?_
        refine ev_mmax hC ⟨(ft_in 780 (by decide +kernel) rfl), (ft_in 103 (by decide +kernel) rfl), (ft_in 68 (by decide +kernel) rfl), (ft_in 104 (by decide +kernel) rfl)⟩ (by omega) (Nat.le_of_ble_eq_true rfl) dX3_goDay_33 ?_
        refine ev_top (y := (wiF ((g1F S i) (20 + i) + risF (g1F S i) i) (nI 0) (nI 99))) (mx_wi _) ?_
        refine ev_iastN (i := i) (ws' := (MO G b (vwn (g1F S i) 2 6) tk os (vwn (g1F S i) 14 6) (upd (vwn (g1F S i) 20 6) i (wiF ((g1F S i) (20 + i) + risF (g1F S i) i) (nI 0) (nI 99))) (vwn (g1F S i) 26 6) (vwn (g1F S i) 51 24) (byF (g1F S i) i) ((g1F S i) 32) (bitF (g1F S i)) ((g1F S i) 0) ((g1F S i) 1) t ((g1F S i) 33) mu wa)) (q0 := 5) hC rfl (by omega) (by omega) rfl dX3_goDay_36 ?_
        refine ev_iinc (v := (nI (i + 1))) (lv' := [(1, .int (nI (i + 1))), (0, .ref (b 0))]) hC dX3_goDay_37 (q := 1) rfl (nI_k _ _ 1 (by decide)) (by decide) rfl ?_
        refine ev_goto (tgt := 2) hC dX3_goDay_40 (by decide) ?_
        refine ev_lv [1, 0] rfl ?_
        refine ev_ws (ws' := (MO G b (vwn (g1F S (i + 1)) 2 6) tk os (vwn (g1F S (i + 1)) 14 6) (vwn (g1F S (i + 1)) 20 6) (vwn (g1F S (i + 1)) 26 6) (vwn (g1F S (i + 1)) 51 24) (byF (g1F S i) i) ((g1F S (i + 1)) 32) (bitF (g1F S (i + 1))) ((g1F S (i + 1)) 0) ((g1F S (i + 1)) 1) t ((g1F S (i + 1)) 33) mu wa)) (mo_eq (Agr.vw (fun j hj => (g1F_agr S (i := i + 1) (by omega) j hj).trans (g1F_agr S (i := i) (by omega) j hj).symm : Agr 20 26 (g1F S i) (g1F S (i + 1))) (by omega)) rfl rfl (Agr.vw (fun j hj => (g1F_agr S (i := i + 1) (by omega) j hj).trans (g1F_agr S (i := i) (by omega) j hj).symm : Agr 20 26 (g1F S i) (g1F S (i + 1))) (by omega)) (by rw [vwn_upd (by omega), risF_g1 hW (by omega), show (g1F S i) (20 + i) = S (20 + i) from if_neg (by omega), g1F_s]) (Agr.vw (fun j hj => (g1F_agr S (i := i + 1) (by omega) j hj).trans (g1F_agr S (i := i) (by omega) j hj).symm : Agr 20 26 (g1F S i) (g1F S (i + 1))) (by omega)) (Agr.vw (fun j hj => (g1F_agr S (i := i + 1) (by omega) j hj).trans (g1F_agr S (i := i) (by omega) j hj).symm : Agr 20 26 (g1F S i) (g1F S (i + 1))) (by omega)) rfl ((fun j hj => (g1F_agr S (i := i + 1) (by omega) j hj).trans (g1F_agr S (i := i) (by omega) j hj).symm : Agr 20 26 (g1F S i) (g1F S (i + 1))) _ (by omega)).symm (Agr.bit (fun j hj => (g1F_agr S (i := i + 1) (by omega) j hj).trans (g1F_agr S (i := i) (by omega) j hj).symm : Agr 20 26 (g1F S i) (g1F S (i + 1))) (by omega)) ((fun j hj => (g1F_agr S (i := i + 1) (by omega) j hj).trans (g1F_agr S (i := i) (by omega) j hj).symm : Agr 20 26 (g1F S i) (g1F S (i + 1))) _ (by omega)).symm ((fun j hj => (g1F_agr S (i := i + 1) (by omega) j hj).trans (g1F_agr S (i := i) (by omega) j hj).symm : Agr 20 26 (g1F S i) (g1F S (i + 1))) _ (by omega)).symm ((fun j hj => (g1F_agr S (i := i + 1) (by omega) j hj).trans (g1F_agr S (i := i) (by omega) j hj).symm : Agr 20 26 (g1F S i) (g1F S (i + 1))) _ (by omega)).symm rfl rfl) ?_
        exact ih (i + 1) (byF (g1F S i) i) (by omega) (by omega)
  refine ev_ws (ws' := (MO G b (vwn (g1F S 0) 2 6) tk os (vwn (g1F S 0) 14 6) (vwn (g1F S 0) 20 6) (vwn (g1F S 0) 26 6) (vwn (g1F S 0) 51 24) le ((g1F S 0) 32) (bitF (g1F S 0)) ((g1F S 0) 0) ((g1F S 0) 1) t ((g1F S 0) 33) mu wa)) (mo_eq (by rw [g1F_0]) rfl rfl (by rw [g1F_0]) (by rw [g1F_0]) (by rw [g1F_0]) (by rw [g1F_0]) rfl (by rw [g1F_0]) (by rw [g1F_0]) (by rw [g1F_0]) (by rw [g1F_0]) (by rw [g1F_0]) rfl rfl) ?_
  refine ev_lv [1, 0] rfl ?_
  exact lp_2 (sn S 32 - 0 + 1) 0 le (by omega) (Nat.lt_succ_self _)
