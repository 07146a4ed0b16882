set_option maxHeartbeats 4000000 in
set_option maxRecDepth 100000 in
theorem m_X10_isSo (G : GG) (ro : va_W) (a w h v : Nat) (B : Nat → Int32) (hw : w < 6) (hh : h < 3) (hv : v < 100) : Mth G M_X10_isSo 0 0 0 [.int (nI ((w * 3 + h) * 100 + v)), .ref a] ([(a, ia G 6 B)]) ro (fun r ws' ro' => r = some (.int (bI (tsW B w h v = true))) ∧ ws' = ([(a, ia G 6 B)]) ∧ ro = ro') := by
  refine mth_of (by decide +kernel) (Nat.le_of_ble_eq_true rfl) (fun X hC hR => ?_)
  show Ev G X 0 0 0 [(0, .int (nI ((w * 3 + h) * 100 + v))), (1, .ref a)] [] ([(a, ia G 6 B)]) ro
  refine ev_iload_n hC dX10_isSo_0 rfl 0 rfl ?_
  refine ev_sipush (v := (nI 300)) hC dX10_isSo_1 (by decide) ?_
  refine ev_idiv hC dX10_isSo_4 (by decide) ?_
  refine ev_top (y := (nI (((w * 3 + h) * 100 + v) / 300))) (pk_div (by omega) (by omega) (by omega)) ?_
  refine ev_top (y := (nI w)) (congrArg nI (by omega)) ?_
  refine ev_istore_n (lv' := [(2, .int (nI w)), (0, .int (nI ((w * 3 + h) * 100 + v))), (1, .ref a)]) hC dX10_isSo_5 rfl (by decide) rfl ?_
  refine ev_iload_n hC dX10_isSo_6 rfl 0 rfl ?_
  refine ev_if_ltN (tgt := 16) hC dX10_isSo_7 (by omega) ?_ (by decide)
  refine ev_iload_n hC dX10_isSo_10 rfl 0 rfl ?_
  refine ev_aload_n hC dX10_isSo_11 rfl 2 rfl ?_
  refine ev_alen (v := nI 6) hC (mw 0 rfl) rfl dX10_isSo_12 ?_
  refine ev_icmp_ltN (tgt := 18) hC dX10_isSo_13 (by decide) (by omega) (by omega) (fun c_1 => ?_) (fun c_1 => absurd c_1 (by omega))
  refine ev_aload_n hC dX10_isSo_18 rfl 2 rfl ?_
  refine ev_iload_n hC dX10_isSo_19 rfl 0 rfl ?_
  refine ev_ialdN (i := w) hC (mw 0 rfl) (by omega) (by omega) dX10_isSo_20 ?_
  refine ev_istore_n (lv' := [(3, .int (B w)), (2, .int (nI w)), (0, .int (nI ((w * 3 + h) * 100 + v))), (1, .ref a)]) hC dX10_isSo_21 rfl (by decide) rfl ?_
  refine ev_iload_n hC dX10_isSo_22 rfl 2 rfl ?_
  refine ev_bipush (v := (nI 100)) hC dX10_isSo_23 (by decide) ?_
  refine ev_irem hC dX10_isSo_25 (by decide) ?_
  refine ev_top (y := (nI (((w * 3 + h) * 100 + v) % 100))) (pk_rem (by omega) (by omega) (by omega)) ?_
  refine ev_top (y := (nI v)) (congrArg nI (by omega)) ?_
  refine ev_istore (lv' := [(4, .int (nI v)), (3, .int (B w)), (2, .int (nI w)), (0, .int (nI ((w * 3 + h) * 100 + v))), (1, .ref a)]) hC dX10_isSo_26 (by decide) rfl ?_
  refine ev_iload_n hC dX10_isSo_28 rfl 3 rfl ?_
  refine ev_bipush (v := (nI 100)) hC dX10_isSo_29 (by decide) ?_
  refine ev_idiv hC dX10_isSo_31 (by decide) ?_
  refine ev_top (y := (nI (((w * 3 + h) * 100 + v) / 100))) (pk_div (by omega) (by omega) (by omega)) ?_
  refine ev_iconst (v := (nI 3)) hC dX10_isSo_32 (by decide) ?_
  refine ev_irem hC dX10_isSo_33 (by decide) ?_
  refine ev_top (y := (nI ((((w * 3 + h) * 100 + v) / 100) % 3))) (pk_rem (by omega) (by omega) (by omega)) ?_
  refine ev_top (y := (nI h)) (congrArg nI (by omega)) ?_
  by_cases w_2_0 : h = 0
  · refine ev_top (y := (nI 0)) (congrArg nI w_2_0) ?_
    refine ev_lookup (off := 26) (tgt := 60) hC dX10_isSo_34 (by decide) (by decide) (by decide) ?_
    refine ev_iload_n hC dX10_isSo_60 rfl 1 rfl ?_
    refine ev_iload hC dX10_isSo_61 0 rfl ?_
    refine ev_icmp_ge (tgt := 70) hC dX10_isSo_63 (by decide) (fun c_3 => ?_) (fun c_3 => ?_)
    · refine ev_iconst (v := (nI 0)) hC dX10_isSo_70 (by decide) ?_
      refine ev_zret hC hR rfl (by rfl) dX10_isSo_71 ?_
      have er : bI (tsW B w h v = true) = nI 0 := by
        unfold tsW
        rw [if_pos w_2_0]
        exact if_neg (by first | (rw [decide_eq_true_eq]; first | exact c_3 | exact Int32.not_le.mp c_3) | (rw [decide_eq_true_eq]; exact c_3) | (rw [decide_eq_true_eq]; exact Int32.not_lt.mpr c_3))
      exact ⟨by rw [er], rfl, rfl⟩
    · refine ev_iconst (v := (nI 1)) hC dX10_isSo_66 (by decide) ?_
      refine ev_goto (tgt := 71) hC dX10_isSo_67 (by decide) ?_
      refine ev_zret hC hR rfl (by rfl) dX10_isSo_71 ?_
      have er : bI (tsW B w h v = true) = nI 1 := by
        unfold tsW
        rw [if_pos w_2_0]
        exact if_pos (by first | (rw [decide_eq_true_eq]; first | exact c_3 | exact Int32.not_le.mp c_3) | (rw [decide_eq_true_eq]; exact c_3) | (rw [decide_eq_true_eq]; exact Int32.not_lt.mpr c_3))
      exact ⟨by rw [er], rfl, rfl⟩
  by_cases w_2_1 : h = 1
  · refine ev_top (y := (nI 1)) (congrArg nI w_2_1) ?_
    refine ev_lookup (off := 38) (tgt := 72) hC dX10_isSo_34 (by decide) (by decide) (by decide) ?_
    refine ev_iload_n hC dX10_isSo_72 rfl 1 rfl ?_
    refine ev_iload hC dX10_isSo_73 0 rfl ?_
    refine ev_icmp_ne (tgt := 82) hC dX10_isSo_75 (by decide) (fun c_4 => ?_) (fun c_4 => ?_)
    · refine ev_iconst (v := (nI 0)) hC dX10_isSo_82 (by decide) ?_
      refine ev_zret hC hR rfl (by rfl) dX10_isSo_83 ?_
      have er : bI (tsW B w h v = true) = nI 0 := by
        unfold tsW
        rw [if_neg w_2_0, if_pos w_2_1]
        exact if_neg (by first | (rw [decide_eq_true_eq]; first | exact c_4 | exact Int32.not_le.mp c_4) | (rw [decide_eq_true_eq]; exact c_4) | (rw [decide_eq_true_eq]; exact Int32.not_lt.mpr c_4))
      exact ⟨by rw [er], rfl, rfl⟩
    · refine ev_iconst (v := (nI 1)) hC dX10_isSo_78 (by decide) ?_
      refine ev_goto (tgt := 83) hC dX10_isSo_79 (by decide) ?_
      refine ev_zret hC hR rfl (by rfl) dX10_isSo_83 ?_
      have er : bI (tsW B w h v = true) = nI 1 := by
        unfold tsW
        rw [if_neg w_2_0, if_pos w_2_1]
        exact if_pos (by first | (rw [decide_eq_true_eq]; first | exact c_4 | exact Int32.not_le.mp c_4) | (rw [decide_eq_true_eq]; exact c_4) | (rw [decide_eq_true_eq]; exact Int32.not_lt.mpr c_4))
      exact ⟨by rw [er], rfl, rfl⟩
  refine ev_lookup (off := 50) (tgt := 84) hC dX10_isSo_34 (by decide) (lk_out _ (fun q hq => ?_)) (by decide) ?_
  · have hq2 : q = (0, 26) ∨ q = (1, 38) := by simpa using hq
    rcases hq2 with rfl | rfl
    · exact fun e => by rw [nI_toInt (by omega)] at e; simp only at e; omega
    · exact fun e => by rw [nI_toInt (by omega)] at e; simp only at e; omega
  refine ev_iload_n hC dX10_isSo_84 rfl 1 rfl ?_
  refine ev_iload hC dX10_isSo_85 0 rfl ?_
  refine ev_icmp_le (tgt := 94) hC dX10_isSo_87 (by decide) (fun c_5 => ?_) (fun c_5 => ?_)
  · refine ev_iconst (v := (nI 0)) hC dX10_isSo_94 (by decide) ?_
    refine ev_zret hC hR rfl (by rfl) dX10_isSo_95 ?_
    have er : bI (tsW B w h v = true) = nI 0 := by
      unfold tsW
      rw [if_neg w_2_0, if_neg w_2_1]
      exact if_neg (by first | (rw [decide_eq_true_eq]; first | exact c_5 | exact Int32.not_le.mp c_5) | (rw [decide_eq_true_eq]; exact c_5) | (rw [decide_eq_true_eq]; exact Int32.not_lt.mpr c_5))
    exact ⟨by rw [er], rfl, rfl⟩
  · refine ev_iconst (v := (nI 1)) hC dX10_isSo_90 (by decide) ?_
    refine ev_goto (tgt := 95) hC dX10_isSo_91 (by decide) ?_
    refine ev_zret hC hR rfl (by rfl) dX10_isSo_95 ?_
    have er : bI (tsW B w h v = true) = nI 1 := by
      unfold tsW
      rw [if_neg w_2_0, if_neg w_2_1]
      exact if_pos (by first | (rw [decide_eq_true_eq]; first | exact c_5 | exact Int32.not_le.mp c_5) | (rw [decide_eq_true_eq]; exact c_5) | (rw [decide_eq_true_eq]; exact Int32.not_lt.mpr c_5))
    exact ⟨by rw [er], rfl, rfl⟩

set_option maxHeartbeats 4000000 in
set_option maxRecDepth 100000 in
theorem m_X10_holds (G : GG) (ro : va_W) (t a1 a2 a3 a : Nat) (B : Nat → Int32) (rn nd : Int32) (ns fr : Nat) (F : Nat → Int32) (sg rest : List Int32) (m : Int32) (hTr : (t, ob 10 [.int rn, .int nd, .ref a1, .ref a2, .ref a3]) ∈ ro) (hSt : (a3, ia G ns F) ∈ ro) (hns : ns ≤ 1000) (hfr : fr + sg.length ≤ ns) (hok0 : okD (sg ++ m :: rest) 0) (hnm0 : ∀ s ∈ sg, ¬ s ≤ -10) (hm : m ≤ -10) (hF : ∀ i, (hi : i < sg.length) → F (fr + i) = cvO sg[i]) : Mth G M_X10_holds 1 0 0 [.ref t, .int (nI fr), .int (nI (fr + sg.length)), .ref a] ([(a, ia G 6 B)]) ro (fun r ws' ro' => r = some (.int (bI ((stS B sg []).headD false = true))) ∧ ws' = ([(a, ia G 6 B)]) ∧ ro = ro') := by
  refine mth_of (by decide +kernel) (Nat.le_of_ble_eq_true rfl) (fun X hC hR => ?_)
  show Ev G X 0 0 0 [(0, .ref t), (1, .int (nI fr)), (2, .int (nI (fr + sg.length))), (3, .ref a)] [] ([(a, ia G 6 B)]) ro
  refine ev_iconst (v := (nI 0)) hC dX10_holds_0 (by decide) ?_
  refine ev_istore (lv' := [(4, .int (nI 0)), (0, .ref t), (1, .int (nI fr)), (2, .int (nI (fr + sg.length))), (3, .ref a)]) hC dX10_holds_1 (by decide) rfl ?_
  refine ev_iconst (v := (nI 0)) hC dX10_holds_3 (by decide) ?_
  refine ev_iload_n hC dX10_holds_4 rfl 2 rfl ?_
  refine ev_mmax hC ⟨(ft_in 179 (by decide +kernel) rfl), (ft_in 103 (by decide +kernel) rfl), (ft_in 68 (by decide +kernel) rfl), (ft_in 104 (by decide +kernel) rfl)⟩ (by omega) (Nat.le_of_ble_eq_true rfl) dX10_holds_5 ?_
  refine ev_top (y := (nI (max 0 fr))) (mxN (by omega) (by omega)) ?_
  refine ev_top (y := (nI fr)) (congrArg nI (Nat.max_eq_right (Nat.zero_le _))) ?_
  refine ev_istore (lv' := [(5, .int (nI fr)), (4, .int (nI 0)), (0, .ref t), (1, .int (nI fr)), (2, .int (nI (fr + sg.length))), (3, .ref a)]) hC dX10_holds_8 (by decide) rfl ?_
  have lp_10 : ∀ (fu_10 : Nat) (j : Nat) (l : List Int32) (sk : List Bool) (hj : j + l.length = sg.length) (hF2 : ∀ i, (hi : i < l.length) → F (fr + j + i) = cvO l[i]) (hok : okD (l ++ m :: rest) sk.length) (hsk : sk.length ≤ 20) (hst : stS B l sk = stS B sg []) (hnm : ∀ s ∈ l, ¬ s ≤ -10) (hn : l.length < fu_10), Ev G X 0 0 10 [(0, .ref t), (1, .int (nI fr)), (2, .int (nI (fr + sg.length))), (3, .ref a), (4, .int (nI (btN sk))), (5, .int (nI (fr + j)))] [] ([(a, ia G 6 B)]) ro := by
    intro fu_10
    induction fu_10 with
    | zero => intro j l sk hj hF2 hok hsk hst hnm hn; exact absurd hn (Nat.not_lt_zero _)
    | succ fu_10 ih =>
      intro j l sk hj hF2 hok hsk hst hnm hn
      refine ev_iload hC dX10_holds_10 5 rfl ?_
      refine ev_iload_n hC dX10_holds_12 rfl 2 rfl ?_
      refine ev_icmp_geN (tgt := 132) hC dX10_holds_13 (by decide) (by omega) (by omega) (fun c_1 => ?_) (fun c_1 => ?_)
      · obtain rfl : l = [] := by cases l with | nil => rfl | cons s r => exact absurd hj (by simp only [List.length_cons]; omega)
        obtain ⟨b, rfl⟩ : ∃ b, sk = [b] := by
          have h1 := (okD_mark hm hok).2.1
          rcases sk with _ | ⟨b, _ | ⟨c, r⟩⟩
          · exact absurd h1 (by decide)
          · exact ⟨b, rfl⟩
          · exact absurd h1 (by simp)
        have bb := b2N_le b
        show Ev G X 0 0 132 [(0, .ref t), (1, .int (nI fr)), (2, .int (nI (fr + sg.length))), (3, .ref a), (4, .int (nI (btN [b]))), (5, .int (nI (fr + j)))] [] ([(a, ia G 6 B)]) ro
        refine ev_iload hC dX10_holds_132 4 rfl ?_
        refine ev_iconst (v := (nI 1)) hC dX10_holds_134 (by decide) ?_
        refine ev_iand hC dX10_holds_135 ?_
        refine ev_top (y := (nI (b2N b))) (bt_top _ _) ?_
        refine ev_iconst (v := (nI 1)) hC dX10_holds_136 (by decide) ?_
        refine ev_icmp_neN (tgt := 144) hC dX10_holds_137 (by decide) (by omega) (by omega) (fun c_2 => ?_) (fun c_2 => ?_)
        · refine ev_iconst (v := (nI 0)) hC dX10_holds_144 (by decide) ?_
          refine ev_zret hC hR rfl (by rfl) dX10_holds_145 ?_
          have er : bI ((stS B sg []).headD false = true) = nI 0 := by
            rw [← hst]
            cases b <;> first | rfl | exact absurd (by assumption) (by decide)
          exact ⟨by rw [er], rfl, rfl⟩
        · refine ev_iconst (v := (nI 1)) hC dX10_holds_140 (by decide) ?_
          refine ev_goto (tgt := 145) hC dX10_holds_141 (by decide) ?_
          refine ev_zret hC hR rfl (by rfl) dX10_holds_145 ?_
          have er : bI ((stS B sg []).headD false = true) = nI 1 := by
            rw [← hst]
            cases b <;> first | rfl | exact absurd (by assumption) (by decide)
          exact ⟨by rw [er], rfl, rfl⟩
      · refine ev_iload hC dX10_holds_16 5 rfl ?_
        refine ev_aload_n hC dX10_holds_18 rfl 0 rfl ?_
        refine ev_get hC fl_X10_29_10 (mr hTr) rfl dX10_holds_19 ?_
        refine ev_alen (v := nI ns) hC (mr hSt) rfl dX10_holds_22 ?_
        refine ev_icmp_geN (tgt := 132) hC dX10_holds_23 (by decide) (by omega) (by omega) (fun c_3 => absurd c_3 (by omega)) (fun c_3 => ?_)
        obtain ⟨s, l', rfl⟩ : ∃ s r, l = s :: r := by cases l with | nil => exact absurd hj (by simp only [List.length_nil]; omega) | cons s r => exact ⟨s, r, rfl⟩
        have hs := hnm s (List.mem_cons_self ..)
        have hf0 : F (fr + j) = cvO s := by have := hF2 0 (by simp); simpa using this
        have hj' : j + 1 + l'.length = sg.length := by simp only [List.length_cons] at hj; omega
        have hF3 : ∀ i, (hi : i < l'.length) → F (fr + (j + 1) + i) = cvO l'[i] := fun i hi => by have := hF2 (i + 1) (by simpa using hi); rw [show fr + (j + 1) + i = fr + j + (i + 1) by omega]; simpa using this
        have hnm' : ∀ z ∈ l', ¬ z ≤ -10 := fun z hz => hnm z (List.mem_cons_of_mem _ hz)
        rcases okD_kind hok hs with kk | rfl | rfl | rfl
        · obtain ⟨k, hk, rfl⟩ := nI_of (Int32.not_lt.mpr kk)
          obtain ⟨o1, o2, o3, o4, hok'⟩ := okD_test hk hok
          have hf1 := hf0.trans (cvO_test hk)
          refine ev_iload hC dX10_holds_26 4 rfl ?_
          refine ev_iconst (v := (nI 1)) hC dX10_holds_28 (by decide) ?_
          refine ev_iand hC dX10_holds_29 ?_
          refine ev_istore (lv' := [(6, .int ((nI (btN sk)) &&& (nI 1))), (0, .ref t), (1, .int (nI fr)), (2, .int (nI (fr + sg.length))), (3, .ref a), (4, .int (nI (btN sk))), (5, .int (nI (fr + j)))]) hC dX10_holds_30 (by decide) rfl ?_
          refine ev_aload_n hC dX10_holds_32 rfl 1 rfl ?_
          refine ev_get hC fl_X10_29_10 (mr hTr) rfl dX10_holds_33 ?_
          refine ev_iload hC dX10_holds_36 6 rfl ?_
          refine ev_ialdN (i := fr + j) hC (mr hSt) (by omega) (by omega) dX10_holds_38 ?_
          refine ev_top (y := (nI ((k % 8 * 3 + k / 8 % 4) * 100 + k / 32))) hf1 ?_
          refine ev_tabOut (tgt := 100) hC dX10_holds_39 (sw_out (lo := -3) (hi := -1) (fun j h1 h2 => by rw [nI_toInt (by omega)]; omega)) (by decide) ?_
          refine ev_iload hC dX10_holds_100 5 rfl ?_
          refine ev_iconst (v := (nI 1)) hC dX10_holds_102 (by decide) ?_
          refine ev_ishl hC dX10_holds_103 ?_
          refine ev_aload_n hC dX10_holds_104 rfl 1 rfl ?_
          refine ev_get hC fl_X10_29_10 (mr hTr) rfl dX10_holds_105 ?_
          refine ev_iload hC dX10_holds_108 6 rfl ?_
          refine ev_ialdN (i := fr + j) hC (mr hSt) (by omega) (by omega) dX10_holds_110 ?_
          refine ev_top (y := (nI ((k % 8 * 3 + k / 8 % 4) * 100 + k / 32))) hf1 ?_
          refine ev_aload_n hC dX10_holds_111 rfl 4 rfl ?_
          refine ev_callS (As := [.int (nI ((k % 8 * 3 + k / 8 % 4) * 100 + k / 32)), .ref a]) (st := [.int ((nI (btN sk)) <<< ((nI 1) &&& 31))]) (wf := []) hC ct_X10_36 (m_X10_isSo G ro a (k % 8) (k / 8 % 4) (k / 32) B (by omega) (by omega) (by omega)) (by omega) rfl rfl (Nat.le_of_ble_eq_true rfl) (List.Perm.of_eq (List.append_nil _).symm) dX10_holds_112 (by omega) (by omega) ?_
          rintro _ _ _ ⟨rfl, rfl, rfl⟩
          refine ev_ws (List.append_nil _) ?_
          show Ev G X 0 0 115 [(6, .int ((nI (btN sk)) &&& (nI 1))), (0, .ref t), (1, .int (nI fr)), (2, .int (nI (fr + sg.length))), (3, .ref a), (4, .int (nI (btN sk))), (5, .int (nI (fr + j)))] [.int (bI (tsW B (k % 8) (k / 8 % 4) (k / 32) = true)), .int ((nI (btN sk)) <<< ((nI 1) &&& 31))] ([(a, ia G 6 B)]) ro
          refine ev_if_eqB (tgt := 122) hC dX10_holds_115 (by decide) (fun c_5 => ?_) (fun c_5 => ?_)
          · refine ev_iconst (v := (nI 0)) hC dX10_holds_122 (by decide) ?_
            refine ev_ior hC dX10_holds_123 ?_
            refine ev_top (y := (nI (btN (false :: sk)))) (bt_push false (by omega)) ?_
            refine ev_istore (lv' := [(4, .int (nI (btN (false :: sk)))), (6, .int ((nI (btN sk)) &&& (nI 1))), (0, .ref t), (1, .int (nI fr)), (2, .int (nI (fr + sg.length))), (3, .ref a), (5, .int (nI (fr + j)))]) hC dX10_holds_124 (by decide) rfl ?_
            refine ev_iinc (v := (nI (fr + j + 1))) (lv' := [(5, .int (nI (fr + j + 1))), (4, .int (nI (btN (false :: sk)))), (6, .int ((nI (btN sk)) &&& (nI 1))), (0, .ref t), (1, .int (nI fr)), (2, .int (nI (fr + sg.length))), (3, .ref a)]) hC dX10_holds_126 (q := 6) rfl (nI_k _ _ 1 (by decide)) (by decide) rfl ?_
            refine ev_goto (tgt := 10) hC dX10_holds_129 (by decide) ?_
            refine ev_lv [3, 4, 5, 6, 1, 0] rfl ?_
            exact ih (j + 1) l' (false :: sk) hj' hF3 hok' (by simp only [List.length_cons]; omega) (by rw [stS, if_pos (nI_pos' hk), nI_clamp hk, tsF_w, Bool.eq_false_iff.mpr c_5] at hst; exact hst) hnm' (by omega)
          · refine ev_iconst (v := (nI 1)) hC dX10_holds_118 (by decide) ?_
            refine ev_goto (tgt := 123) hC dX10_holds_119 (by decide) ?_
            refine ev_ior hC dX10_holds_123 ?_
            refine ev_top (y := (nI (btN (true :: sk)))) (bt_push true (by omega)) ?_
            refine ev_istore (lv' := [(4, .int (nI (btN (true :: sk)))), (6, .int ((nI (btN sk)) &&& (nI 1))), (0, .ref t), (1, .int (nI fr)), (2, .int (nI (fr + sg.length))), (3, .ref a), (5, .int (nI (fr + j)))]) hC dX10_holds_124 (by decide) rfl ?_
            refine ev_iinc (v := (nI (fr + j + 1))) (lv' := [(5, .int (nI (fr + j + 1))), (4, .int (nI (btN (true :: sk)))), (6, .int ((nI (btN sk)) &&& (nI 1))), (0, .ref t), (1, .int (nI fr)), (2, .int (nI (fr + sg.length))), (3, .ref a)]) hC dX10_holds_126 (q := 6) rfl (nI_k _ _ 1 (by decide)) (by decide) rfl ?_
            refine ev_goto (tgt := 10) hC dX10_holds_129 (by decide) ?_
            refine ev_lv [3, 4, 5, 6, 1, 0] rfl ?_
            exact ih (j + 1) l' (true :: sk) hj' hF3 hok' (by simp only [List.length_cons]; omega) (by rw [stS, if_pos (nI_pos' hk), nI_clamp hk, tsF_w, c_5] at hst; exact hst) hnm' (by omega)
        · obtain ⟨o1, hok'⟩ := okD_not hok
          obtain ⟨b, sk', rfl⟩ : ∃ b l, sk = b :: l := by cases sk with | nil => exact absurd o1 (by decide) | cons b l => exact ⟨b, l, rfl⟩
          show Ev G X 0 0 26 [(0, .ref t), (1, .int (nI fr)), (2, .int (nI (fr + sg.length))), (3, .ref a), (4, .int (nI (btN (b :: sk')))), (5, .int (nI (fr + j)))] [] ([(a, ia G 6 B)]) ro
          refine ev_iload hC dX10_holds_26 4 rfl ?_
          refine ev_iconst (v := (nI 1)) hC dX10_holds_28 (by decide) ?_
          refine ev_iand hC dX10_holds_29 ?_
          refine ev_top (y := (nI (b2N b))) (bt_top _ _) ?_
          refine ev_istore (lv' := [(6, .int (nI (b2N b))), (0, .ref t), (1, .int (nI fr)), (2, .int (nI (fr + sg.length))), (3, .ref a), (4, .int (nI (btN (b :: sk')))), (5, .int (nI (fr + j)))]) hC dX10_holds_30 (by decide) rfl ?_
          refine ev_aload_n hC dX10_holds_32 rfl 1 rfl ?_
          refine ev_get hC fl_X10_29_10 (mr hTr) rfl dX10_holds_33 ?_
          refine ev_iload hC dX10_holds_36 6 rfl ?_
          refine ev_ialdN (i := fr + j) hC (mr hSt) (by omega) (by omega) dX10_holds_38 ?_
          refine ev_top (y := (-3)) (hf0.trans (by decide)) ?_
          refine ev_tabIn (off := 25) (tgt := 64) hC dX10_holds_39 (by decide) (by decide) (by decide) (by decide) ?_
          refine ev_iload hC dX10_holds_64 5 rfl ?_
          refine ev_iconst (v := (nI 1)) hC dX10_holds_66 (by decide) ?_
          refine ev_ixor hC dX10_holds_67 ?_
          refine ev_top (y := (nI (btN ((!b) :: sk')))) (bt_not _ _) ?_
          refine ev_istore (lv' := [(4, .int (nI (btN ((!b) :: sk')))), (6, .int (nI (b2N b))), (0, .ref t), (1, .int (nI fr)), (2, .int (nI (fr + sg.length))), (3, .ref a), (5, .int (nI (fr + j)))]) hC dX10_holds_68 (by decide) rfl ?_
          refine ev_goto (tgt := 126) hC dX10_holds_70 (by decide) ?_
          refine ev_iinc (v := (nI (fr + j + 1))) (lv' := [(5, .int (nI (fr + j + 1))), (4, .int (nI (btN ((!b) :: sk')))), (6, .int (nI (b2N b))), (0, .ref t), (1, .int (nI fr)), (2, .int (nI (fr + sg.length))), (3, .ref a)]) hC dX10_holds_126 (q := 6) rfl (nI_k _ _ 1 (by decide)) (by decide) rfl ?_
          refine ev_goto (tgt := 10) hC dX10_holds_129 (by decide) ?_
          refine ev_lv [3, 4, 5, 6, 1, 0] rfl ?_
          exact ih (j + 1) l' ((!b) :: sk') hj' hF3 hok' (by simp only [List.length_cons] at *; omega) (by rw [stS, if_neg (by decide), if_pos rfl] at hst; exact hst) hnm' (by omega)
        · obtain ⟨-, o1, hok'⟩ := okD_bin (by decide) (by decide) (by decide) hok
          obtain ⟨b1, b0, sk', rfl⟩ : ∃ b1 b0 l, sk = b1 :: b0 :: l := by
            rcases sk with _ | ⟨b1, _ | ⟨b0, l⟩⟩
            · exact absurd o1 (by decide)
            · exact absurd o1 (by simp)
            · exact ⟨b1, b0, l, rfl⟩
          show Ev G X 0 0 26 [(0, .ref t), (1, .int (nI fr)), (2, .int (nI (fr + sg.length))), (3, .ref a), (4, .int (nI (btN (b1 :: b0 :: sk')))), (5, .int (nI (fr + j)))] [] ([(a, ia G 6 B)]) ro
          refine ev_iload hC dX10_holds_26 4 rfl ?_
          refine ev_iconst (v := (nI 1)) hC dX10_holds_28 (by decide) ?_
          refine ev_iand hC dX10_holds_29 ?_
          refine ev_top (y := (nI (b2N b1))) (bt_top _ _) ?_
          refine ev_istore (lv' := [(6, .int (nI (b2N b1))), (0, .ref t), (1, .int (nI fr)), (2, .int (nI (fr + sg.length))), (3, .ref a), (4, .int (nI (btN (b1 :: b0 :: sk')))), (5, .int (nI (fr + j)))]) hC dX10_holds_30 (by decide) rfl ?_
          refine ev_aload_n hC dX10_holds_32 rfl 1 rfl ?_
          refine ev_get hC fl_X10_29_10 (mr hTr) rfl dX10_holds_33 ?_
          refine ev_iload hC dX10_holds_36 6 rfl ?_
          refine ev_ialdN (i := fr + j) hC (mr hSt) (by omega) (by omega) dX10_holds_38 ?_
          refine ev_top (y := (-1)) (hf0.trans (by decide)) ?_
          refine ev_tabIn (off := 34) (tgt := 73) hC dX10_holds_39 (by decide) (by decide) (by decide) (by decide) ?_
          refine ev_iload hC dX10_holds_73 5 rfl ?_
          refine ev_iconst (v := (nI 1)) hC dX10_holds_75 (by decide) ?_
          refine ev_iushr hC dX10_holds_76 rfl ?_
          refine ev_iload hC dX10_holds_77 0 rfl ?_
          refine ev_bipush (v := (-2)) hC dX10_holds_79 (by decide) ?_
          refine ev_ior hC dX10_holds_81 ?_
          refine ev_iand hC dX10_holds_82 ?_
          refine ev_top (y := (nI (btN ((b0 && b1) :: sk')))) (bt_and (by simp only [List.length_cons] at hsk ⊢; omega)) ?_
          refine ev_istore (lv' := [(4, .int (nI (btN ((b0 && b1) :: sk')))), (6, .int (nI (b2N b1))), (0, .ref t), (1, .int (nI fr)), (2, .int (nI (fr + sg.length))), (3, .ref a), (5, .int (nI (fr + j)))]) hC dX10_holds_83 (by decide) rfl ?_
          refine ev_goto (tgt := 126) hC dX10_holds_85 (by decide) ?_
          refine ev_iinc (v := (nI (fr + j + 1))) (lv' := [(5, .int (nI (fr + j + 1))), (4, .int (nI (btN ((b0 && b1) :: sk')))), (6, .int (nI (b2N b1))), (0, .ref t), (1, .int (nI fr)), (2, .int (nI (fr + sg.length))), (3, .ref a)]) hC dX10_holds_126 (q := 6) rfl (nI_k _ _ 1 (by decide)) (by decide) rfl ?_
          refine ev_goto (tgt := 10) hC dX10_holds_129 (by decide) ?_
          refine ev_lv [3, 4, 5, 6, 1, 0] rfl ?_
          exact ih (j + 1) l' ((b0 && b1) :: sk') hj' hF3 hok' (by simp only [List.length_cons] at *; omega) (by rw [stS, if_neg (by decide), if_neg (by decide), if_pos rfl] at hst; exact hst) hnm' (by omega)
        · obtain ⟨-, o1, hok'⟩ := okD_bin (by decide) (by decide) (by decide) hok
          obtain ⟨b1, b0, sk', rfl⟩ : ∃ b1 b0 l, sk = b1 :: b0 :: l := by
            rcases sk with _ | ⟨b1, _ | ⟨b0, l⟩⟩
            · exact absurd o1 (by decide)
            · exact absurd o1 (by simp)
            · exact ⟨b1, b0, l, rfl⟩
          show Ev G X 0 0 26 [(0, .ref t), (1, .int (nI fr)), (2, .int (nI (fr + sg.length))), (3, .ref a), (4, .int (nI (btN (b1 :: b0 :: sk')))), (5, .int (nI (fr + j)))] [] ([(a, ia G 6 B)]) ro
          refine ev_iload hC dX10_holds_26 4 rfl ?_
          refine ev_iconst (v := (nI 1)) hC dX10_holds_28 (by decide) ?_
          refine ev_iand hC dX10_holds_29 ?_
          refine ev_top (y := (nI (b2N b1))) (bt_top _ _) ?_
          refine ev_istore (lv' := [(6, .int (nI (b2N b1))), (0, .ref t), (1, .int (nI fr)), (2, .int (nI (fr + sg.length))), (3, .ref a), (4, .int (nI (btN (b1 :: b0 :: sk')))), (5, .int (nI (fr + j)))]) hC dX10_holds_30 (by decide) rfl ?_
          refine ev_aload_n hC dX10_holds_32 rfl 1 rfl ?_
          refine ev_get hC fl_X10_29_10 (mr hTr) rfl dX10_holds_33 ?_
          refine ev_iload hC dX10_holds_36 6 rfl ?_
          refine ev_ialdN (i := fr + j) hC (mr hSt) (by omega) (by omega) dX10_holds_38 ?_
          refine ev_top (y := (-2)) (hf0.trans (by decide)) ?_
          refine ev_tabIn (off := 49) (tgt := 88) hC dX10_holds_39 (by decide) (by decide) (by decide) (by decide) ?_
          refine ev_iload hC dX10_holds_88 5 rfl ?_
          refine ev_iconst (v := (nI 1)) hC dX10_holds_90 (by decide) ?_
          refine ev_iushr hC dX10_holds_91 rfl ?_
          refine ev_iload hC dX10_holds_92 0 rfl ?_
          refine ev_ior hC dX10_holds_94 ?_
          refine ev_top (y := (nI (btN ((b0 || b1) :: sk')))) (bt_or (by simp only [List.length_cons] at hsk ⊢; omega)) ?_
          refine ev_istore (lv' := [(4, .int (nI (btN ((b0 || b1) :: sk')))), (6, .int (nI (b2N b1))), (0, .ref t), (1, .int (nI fr)), (2, .int (nI (fr + sg.length))), (3, .ref a), (5, .int (nI (fr + j)))]) hC dX10_holds_95 (by decide) rfl ?_
          refine ev_goto (tgt := 126) hC dX10_holds_97 (by decide) ?_
          refine ev_iinc (v := (nI (fr + j + 1))) (lv' := [(5, .int (nI (fr + j + 1))), (4, .int (nI (btN ((b0 || b1) :: sk')))), (6, .int (nI (b2N b1))), (0, .ref t), (1, .int (nI fr)), (2, .int (nI (fr + sg.length))), (3, .ref a)]) hC dX10_holds_126 (q := 6) rfl (nI_k _ _ 1 (by decide)) (by decide) rfl ?_
          refine ev_goto (tgt := 10) hC dX10_holds_129 (by decide) ?_
          refine ev_lv [3, 4, 5, 6, 1, 0] rfl ?_
          exact ih (j + 1) l' ((b0 || b1) :: sk') hj' hF3 hok' (by simp only [List.length_cons] at *; omega) (by rw [stS, if_neg (by decide), if_neg (by decide), if_neg (by decide)] at hst; exact hst) hnm' (by omega)
  refine ev_lv [2, 3, 4, 5, 1, 0] rfl ?_
  exact lp_10 (sg.length + 1) 0 sg [] (Nat.zero_add _) hF hok0 (by simp) rfl hnm0 (Nat.lt_succ_self _)

set_option maxHeartbeats 4000000 in
set_option maxRecDepth 100000 in
theorem m_X10_anger (G : GG) (ro : va_W) (t a : Nat) (B : Nat → Int32) (rn nd : Int32) (L0 : List Int32) (hT : TrO G ro t rn nd L0) (hok0 : okD L0 0) (hl0 : L0.length ≤ 100) : Mth G M_X10_anger 2 0 0 [.ref t, .ref a] ([(a, ia G 6 B)]) ro (fun r ws' ro' => r = some (.int (evL B L0 [] (nI 0))) ∧ ws' = ([(a, ia G 6 B)]) ∧ ro = ro') := by
  refine mth_of (by decide +kernel) (Nat.le_of_ble_eq_true rfl) (fun X hC hR => ?_)
  obtain ⟨a1, a2, a3, hTr, hS1, hS2, hS3⟩ := hT
  obtain ⟨l1, l2, l3⟩ := cv_len L0 0
  show Ev G X 0 0 0 [(0, .ref t), (1, .ref a)] [] ([(a, ia G 6 B)]) ro
  refine ev_iconst (v := (nI 0)) hC dX10_anger_0 (by decide) ?_
  refine ev_istore_n (lv' := [(2, .int (nI 0)), (0, .ref t), (1, .ref a)]) hC dX10_anger_1 rfl (by decide) rfl ?_
  refine ev_iconst (v := (nI 0)) hC dX10_anger_2 (by decide) ?_
  refine ev_istore_n (lv' := [(3, .int (nI 0)), (2, .int (nI 0)), (0, .ref t), (1, .ref a)]) hC dX10_anger_3 rfl (by decide) rfl ?_
  refine ev_iconst (v := (nI 0)) hC dX10_anger_4 (by decide) ?_
  refine ev_istore (lv' := [(4, .int (nI 0)), (3, .int (nI 0)), (2, .int (nI 0)), (0, .ref t), (1, .ref a)]) hC dX10_anger_5 (by decide) rfl ?_
  have lp_7 : ∀ (fu_7 : Nat) (i : Nat) (c : Nat) (L : List Int32) (sm : Int32) (hok : okD L 0) (hA : (cvA L0).drop i = cvA L) (hE : (cvE L0 0).drop i = cvE L c) (hS : (cvS L0).drop c = cvS L) (hev : evL B L [] sm = evL B L0 [] (nI 0)) (hi : i ≤ (cvA L0).length) (hc : c ≤ (cvS L0).length) (hn : (cvA L0).length - i < fu_7), Ev G X 0 0 7 [(0, .ref t), (1, .ref a), (2, .int sm), (3, .int (nI c)), (4, .int (nI i))] [] ([(a, ia G 6 B)]) ro := by
    intro fu_7
    induction fu_7 with
    | zero => intro i c L sm hok hA hE hS hev hi hc hn; exact absurd hn (Nat.not_lt_zero _)
    | succ fu_7 ih =>
      intro i c L sm hok hA hE hS hev hi hc hn
      refine ev_iload hC dX10_anger_7 4 rfl ?_
      refine ev_aload_n hC dX10_anger_9 rfl 0 rfl ?_
      refine ev_get hC fl_X10_22_10 (mr hTr) rfl dX10_anger_10 ?_
      refine ev_alen (v := nI ((cvA L0).length)) hC (mr hS1) rfl dX10_anger_13 ?_
      refine ev_icmp_geN (tgt := 67) hC dX10_anger_14 (by decide) (by omega) (by omega) (fun c_1 => ?_) (fun c_1 => ?_)
      · refine ev_iload_n hC dX10_anger_67 rfl 2 rfl ?_
        refine ev_iret hC hR rfl dX10_anger_68 ?_
        obtain rfl : L = [] := by
          rcases L with _ | ⟨s, l⟩
          · rfl
          · obtain ⟨sg, m, rest, e, hn, hm⟩ := okD_cut hok (by simp)
            rw [e, cvA_cut hn hm] at hA
            exact absurd (drop_at hA 0).2.2 (by omega)
        exact ⟨by rw [← hev]; rfl, rfl, rfl⟩
      · refine ev_iload hC dX10_anger_17 4 rfl ?_
        refine ev_aload_n hC dX10_anger_19 rfl 0 rfl ?_
        refine ev_get hC fl_X10_26_10 (mr hTr) rfl dX10_anger_20 ?_
        refine ev_alen (v := nI ((cvE L0 0).length)) hC (mr hS2) rfl dX10_anger_23 ?_
        refine ev_icmp_geN (tgt := 67) hC dX10_anger_24 (by decide) (by omega) (by omega) (fun c_2 => absurd c_2 (by omega)) (fun c_2 => ?_)
        have hne : L ≠ [] := fun z => by rw [z] at hA; have := congrArg List.length hA; simp only [List.length_drop, cvA, List.length_nil] at this; omega
        obtain ⟨sg, m, rest, rfl, hn, hm⟩ := okD_cut hok hne
        rw [cvA_cut hn hm] at hA
        rw [cvE_cut hn hm] at hE
        obtain ⟨q1, hok'⟩ := cvS_cut hok hn hm
        rw [q1] at hS
        obtain ⟨a_1, a_2, a_3⟩ := drop_at hA 0
        obtain ⟨e_1, e_2, e_3⟩ := drop_at hE 0
        obtain ⟨s_1, s_2⟩ := drop_more hS 0
        have hlen := congrArg List.length hS
        simp only [List.length_drop, List.length_append, List.length_map] at hlen s_1 s_2
        have hA1 : liF (cvA L0) i = amF m := a_1
        have hE1 : liF (cvE L0 0) i = nI (c + sg.length) := e_1
        have hF : ∀ i, (hi : i < sg.length) → liF (cvS L0) (c + i) = cvO sg[i] := fun i hi => (s_2 i hi).trans (by simp)
        rw [evL_cut hn hm, mkF_am] at hev
        refine ev_aload_n hC dX10_anger_27 rfl 0 rfl ?_
        refine ev_iload_n hC dX10_anger_28 rfl 3 rfl ?_
        refine ev_aload_n hC dX10_anger_29 rfl 0 rfl ?_
        refine ev_get hC fl_X10_26_10 (mr hTr) rfl dX10_anger_30 ?_
        refine ev_iload hC dX10_anger_33 4 rfl ?_
        refine ev_ialdN (i := i) hC (mr hS2) (by omega) (by omega) dX10_anger_35 ?_
        refine ev_top (y := (nI (c + sg.length))) hE1 ?_
        refine ev_aload_n hC dX10_anger_36 rfl 1 rfl ?_
        refine ev_callV (As := [.int (nI c), .int (nI (c + sg.length)), .ref a]) (st := []) (wf := []) hC cv_X10_32 (m_X10_holds G ro t a1 a2 a3 a B rn nd (cvS L0).length c (liF (cvS L0)) sg rest m hTr hS3 (by omega) (by omega) hok hn hm hF) (by omega) rfl rfl (Nat.le_of_ble_eq_true rfl) (List.Perm.of_eq (List.append_nil _).symm) (mr hTr) rfl dX10_anger_37 (by omega) (by omega) ?_
        rintro _ _ _ ⟨rfl, rfl, rfl⟩
        refine ev_ws (List.append_nil _) ?_
        show Ev G X 0 0 40 [(0, .ref t), (1, .ref a), (2, .int sm), (3, .int (nI c)), (4, .int (nI i))] [.int (bI ((stS B sg []).headD false = true))] ([(a, ia G 6 B)]) ro
        refine ev_if_eqB (tgt := 53) hC dX10_anger_40 (by decide) (fun c_3 => ?_) (fun c_3 => ?_)
        · refine ev_aload_n hC dX10_anger_53 rfl 0 rfl ?_
          refine ev_get hC fl_X10_26_10 (mr hTr) rfl dX10_anger_54 ?_
          refine ev_iload hC dX10_anger_57 4 rfl ?_
          refine ev_ialdN (i := i) hC (mr hS2) (by omega) (by omega) dX10_anger_59 ?_
          refine ev_top (y := (nI (c + sg.length))) hE1 ?_
          refine ev_istore_n (lv' := [(3, .int (nI (c + sg.length))), (0, .ref t), (1, .ref a), (2, .int sm), (4, .int (nI i))]) hC dX10_anger_60 rfl (by decide) rfl ?_
          refine ev_iinc (v := (nI (i + 1))) (lv' := [(4, .int (nI (i + 1))), (3, .int (nI (c + sg.length))), (0, .ref t), (1, .ref a), (2, .int sm)]) hC dX10_anger_61 (q := 4) rfl (nI_k _ _ 1 (by decide)) (by decide) rfl ?_
          refine ev_goto (tgt := 7) hC dX10_anger_64 (by decide) ?_
          refine ev_lv [2, 3, 4, 1, 0] rfl ?_
          exact ih (i + 1) (c + sg.length) rest sm hok' a_2 e_2 s_1 (by rw [if_neg c_3] at hev; exact hev) (by omega) (by omega) (by omega)
        · refine ev_iload_n hC dX10_anger_43 rfl 2 rfl ?_
          refine ev_aload_n hC dX10_anger_44 rfl 0 rfl ?_
          refine ev_get hC fl_X10_22_10 (mr hTr) rfl dX10_anger_45 ?_
          refine ev_iload hC dX10_anger_48 4 rfl ?_
          refine ev_ialdN (i := i) hC (mr hS1) (by omega) (by omega) dX10_anger_50 ?_
          refine ev_top (y := (amF m)) hA1 ?_
          refine ev_iadd hC dX10_anger_51 ?_
          refine ev_istore_n (lv' := [(2, .int (sm + (amF m))), (0, .ref t), (1, .ref a), (3, .int (nI c)), (4, .int (nI i))]) hC dX10_anger_52 rfl (by decide) rfl ?_
          refine ev_aload_n hC dX10_anger_53 rfl 1 rfl ?_
          refine ev_get hC fl_X10_26_10 (mr hTr) rfl dX10_anger_54 ?_
          refine ev_iload hC dX10_anger_57 4 rfl ?_
          refine ev_ialdN (i := i) hC (mr hS2) (by omega) (by omega) dX10_anger_59 ?_
          refine ev_top (y := (nI (c + sg.length))) hE1 ?_
          refine ev_istore_n (lv' := [(3, .int (nI (c + sg.length))), (2, .int (sm + (amF m))), (0, .ref t), (1, .ref a), (4, .int (nI i))]) hC dX10_anger_60 rfl (by decide) rfl ?_
          refine ev_iinc (v := (nI (i + 1))) (lv' := [(4, .int (nI (i + 1))), (3, .int (nI (c + sg.length))), (2, .int (sm + (amF m))), (0, .ref t), (1, .ref a)]) hC dX10_anger_61 (q := 4) rfl (nI_k _ _ 1 (by decide)) (by decide) rfl ?_
          refine ev_goto (tgt := 7) hC dX10_anger_64 (by decide) ?_
          refine ev_lv [3, 4, 2, 1, 0] rfl ?_
          exact ih (i + 1) (c + sg.length) rest (sm + (amF m)) hok' a_2 e_2 s_1 (by rw [if_pos c_3] at hev; exact hev) (by omega) (by omega) (by omega)
  refine ev_lv [3, 4, 2, 1, 0] rfl ?_
  exact lp_7 ((cvA L0).length - 0 + 1) 0 0 L0 (nI 0) hok0 rfl rfl rfl rfl (by omega) (by omega) (Nat.lt_succ_self _)
