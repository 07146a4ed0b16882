set_option maxHeartbeats 4000000 in
set_option maxRecDepth 100000 in
theorem m_X10_init (G : GG) (ro : va_W) (q ra ne a1 a2 a3 : Nat) (h1 : ra ≤ 99) (h2 : ne ≤ 99) : Mth G M_X10_init 1 0 0 [.ref q, .int (nI ra), .int (nI ne), .ref a1, .ref a2, .ref a3] ([(q, ob 10 [.int 0, .int 0, .null, .null, .null])]) ro (fun r ws' ro' => r = none ∧ ws' = ([(q, ob 10 [.int (nI ra), .int (nI (max 1 ne)), .ref a1, .ref a2, .ref a3])]) ∧ ro = ro') := by
  refine mth_of (by decide +kernel) (Nat.le_of_ble_eq_true rfl) (fun X hC hR => ?_)
  show Ev G X 0 0 0 [(0, .ref q), (1, .int (nI ra)), (2, .int (nI ne)), (3, .ref a1), (4, .ref a2), (5, .ref a3)] [] ([(q, ob 10 [.int 0, .int 0, .null, .null, .null])]) ro
  refine ev_aload_n hC dX10_init_0 rfl 0 rfl ?_
  refine ev_objInit hC oi_X10_1 (by omega) (Nat.le_of_ble_eq_true rfl) dX10_init_1 ?_
  refine ev_aload_n hC dX10_init_4 rfl 0 rfl ?_
  refine ev_iload_n hC dX10_init_5 rfl 1 rfl ?_
  refine ev_putF (ws' := ([(q, ob 10 [.int (nI ra), .int 0, .null, .null, .null])])) (q0 := 0) hC fp_X10_7_10 rfl rfl (Nat.le_of_ble_eq_true rfl) rfl rfl rfl dX10_init_6 ?_
  refine ev_aload_n hC dX10_init_9 rfl 0 rfl ?_
  refine ev_iconst (v := (nI 1)) hC dX10_init_10 (by decide) ?_
  refine ev_iload_n hC dX10_init_11 rfl 2 rfl ?_
  refine ev_mmax hC ⟨(ft_in 179 (by decide +kernel) rfl), (ft_in 103 (by decide +kernel) rfl), (ft_in 68 (by decide +kernel) rfl), (ft_in 104 (by decide +kernel) rfl)⟩ (by omega) (Nat.le_of_ble_eq_true rfl) dX10_init_12 ?_
  refine ev_top (y := (nI (max 1 ne))) (mxN (by omega) (by omega)) ?_
  refine ev_putF (ws' := ([(q, ob 10 [.int (nI ra), .int (nI (max 1 ne)), .null, .null, .null])])) (q0 := 0) hC fp_X10_19_10 rfl rfl (Nat.le_of_ble_eq_true rfl) rfl rfl rfl dX10_init_15 ?_
  refine ev_aload_n hC dX10_init_18 rfl 0 rfl ?_
  refine ev_aload_n hC dX10_init_19 rfl 3 rfl ?_
  refine ev_putF (ws' := ([(q, ob 10 [.int (nI ra), .int (nI (max 1 ne)), .ref a1, .null, .null])])) (q0 := 0) hC fp_X10_22_10 rfl rfl (Nat.le_of_ble_eq_true rfl) rfl rfl rfl dX10_init_20 ?_
  refine ev_aload_n hC dX10_init_23 rfl 0 rfl ?_
  refine ev_aload hC dX10_init_24 4 rfl ?_
  refine ev_putF (ws' := ([(q, ob 10 [.int (nI ra), .int (nI (max 1 ne)), .ref a1, .ref a2, .null])])) (q0 := 0) hC fp_X10_26_10 rfl rfl (Nat.le_of_ble_eq_true rfl) rfl rfl rfl dX10_init_26 ?_
  refine ev_aload_n hC dX10_init_29 rfl 0 rfl ?_
  refine ev_aload hC dX10_init_30 5 rfl ?_
  refine ev_putF (ws' := ([(q, ob 10 [.int (nI ra), .int (nI (max 1 ne)), .ref a1, .ref a2, .ref a3])])) (q0 := 0) hC fp_X10_29_10 rfl rfl (Nat.le_of_ble_eq_true rfl) rfl rfl rfl dX10_init_32 ?_
  refine ev_vret hC hR rfl dX10_init_35 ?_
  exact ⟨rfl, rfl, rfl⟩

set_option maxHeartbeats 4000000 in
set_option maxRecDepth 100000 in
theorem m_X6_treatyRead (G : GG) (ro : va_W) (d : Nat → Nat) (sg am en sp : Nat → Int32) (sz ap : Int32) (ra ne : Nat) (L : List Int32) (hA : LstF am (cvA L)) (hE : LstF en (cvE L 0)) (hS : LstF sp (cvS L)) (hlL : L.length ≤ 100) (h10 : (cvA L).length ≤ 10) (h1 : ra ≤ 99) (h2 : ne ≤ 99) : Mth G M_X6_treatyRead 3 4 305 [.ref (d 0)] (RD G d sg am en sp sz ap (nI ((cvA L).length)) (nI ((cvS L).length)) (nI ra) (nI ne)) ro (fun r ws' ro' => ∃ (t : Nat), r = some (.ref t) ∧ ws' = (RD G d sg am en sp sz ap (nI ((cvA L).length)) (nI ((cvS L).length)) (nI ra) (nI ne)) ∧ Sub ro ro' ∧ TrO G ro' t (nI ra) (nI (max 1 ne)) L) := by
  refine mth_of (by decide +kernel) (Nat.le_of_ble_eq_true rfl) (fun X hC hR => ?_)
  obtain ⟨l1, l2, l3⟩ := cv_len L 0
  show Ev G X 4 305 0 [(0, .ref (d 0))] [] (RD G d sg am en sp sz ap (nI ((cvA L).length)) (nI ((cvS L).length)) (nI ra) (nI ne)) ro
  refine ev_new hC nw_X6_55 dX6_treatyRead_0 (by omega) (by omega) (fun q_1 => ?_)
  show Ev G X 3 300 3 [(0, .ref (d 0))] [.ref q_1] (List.flatten [RD G d sg am en sp sz ap (nI ((cvA L).length)) (nI ((cvS L).length)) (nI ra) (nI ne), [(q_1, ob 10 [.int 0, .int 0, .null, .null, .null])]]) ro
  refine ev_dup hC dX6_treatyRead_3 rfl ?_
  refine ev_aload_n hC dX6_treatyRead_4 rfl 0 rfl ?_
  refine ev_get hC fl_X6_37_6 (mw 0 rfl) rfl dX6_treatyRead_5 ?_
  refine ev_aload_n hC dX6_treatyRead_8 rfl 0 rfl ?_
  refine ev_get hC fl_X6_40_6 (mw 0 rfl) rfl dX6_treatyRead_9 ?_
  refine ev_aload_n hC dX6_treatyRead_12 rfl 0 rfl ?_
  refine ev_get hC fl_X6_15_6 (mw 0 rfl) rfl dX6_treatyRead_13 ?_
  refine ev_aload_n hC dX6_treatyRead_16 rfl 0 rfl ?_
  refine ev_get hC fl_X6_31_6 (mw 0 rfl) rfl dX6_treatyRead_17 ?_
  refine ev_callS (As := [.ref (d 2), .int (nI ((cvA L).length))]) (st := [.int (nI ne), .int (nI ra), .ref q_1, .ref q_1]) (wc := [((d 2), ia G 10 am)]) (wf := [((d 0), ob 6 [.ref (d 1), .ref (d 2), .ref (d 3), .ref (d 4), .int sz, .int ap, .int (nI ((cvA L).length)), .int (nI ((cvS L).length)), .int (nI ra), .int (nI ne)]), ((d 1), ia G 100 sg), ((d 3), ia G 10 en), ((d 4), ia G 100 sp), (q_1, ob 10 [.int 0, .int 0, .null, .null, .null])]) hC ct_X6_57 (m_J7_copyOf_59c91 G ro (d 2) 10 ((cvA L).length) am (by omega) (by omega) (by omega)) (by omega) rfl rfl (Nat.le_of_ble_eq_true rfl) (perm_ks [2, 0, 1, 3, 4, 5] (show List.Perm _ (List.range 6) by decide) rfl) dX6_treatyRead_20 (by omega) (by omega) ?_
  rintro _ _ _ ⟨q_2, g_3, hg_4, rfl, rfl, rfl⟩
  refine ev_perm (ws' := (List.flatten [RD G d sg am en sp sz ap (nI ((cvA L).length)) (nI ((cvS L).length)) (nI ra) (nI ne), [(q_1, ob 10 [.int 0, .int 0, .null, .null, .null])], [(q_2, ia G ((cvA L).length) g_3)]])) (perm_ks [2, 3, 0, 4, 5, 6, 1] (show List.Perm _ (List.range 7) by decide) rfl) ?_
  show Ev G X 2 200 23 [(0, .ref (d 0))] [.ref q_2, .int (nI ne), .int (nI ra), .ref q_1, .ref q_1] (List.flatten [RD G d sg am en sp sz ap (nI ((cvA L).length)) (nI ((cvS L).length)) (nI ra) (nI ne), [(q_1, ob 10 [.int 0, .int 0, .null, .null, .null])], [(q_2, ia G ((cvA L).length) g_3)]]) ro
  refine ev_aload_n hC dX6_treatyRead_23 rfl 0 rfl ?_
  refine ev_get hC fl_X6_18_6 (mw 0 rfl) rfl dX6_treatyRead_24 ?_
  refine ev_aload_n hC dX6_treatyRead_27 rfl 0 rfl ?_
  refine ev_get hC fl_X6_31_6 (mw 0 rfl) rfl dX6_treatyRead_28 ?_
  refine ev_callS (As := [.ref (d 3), .int (nI ((cvA L).length))]) (st := [.ref q_2, .int (nI ne), .int (nI ra), .ref q_1, .ref q_1]) (wc := [((d 3), ia G 10 en)]) (wf := [((d 0), ob 6 [.ref (d 1), .ref (d 2), .ref (d 3), .ref (d 4), .int sz, .int ap, .int (nI ((cvA L).length)), .int (nI ((cvS L).length)), .int (nI ra), .int (nI ne)]), ((d 1), ia G 100 sg), ((d 2), ia G 10 am), ((d 4), ia G 100 sp), (q_1, ob 10 [.int 0, .int 0, .null, .null, .null]), (q_2, ia G ((cvA L).length) g_3)]) hC ct_X6_57 (m_J7_copyOf_59c91 G ro (d 3) 10 ((cvA L).length) en (by omega) (by omega) (by omega)) (by omega) rfl rfl (Nat.le_of_ble_eq_true rfl) (perm_ks [3, 0, 1, 2, 4, 5, 6] (show List.Perm _ (List.range 7) by decide) rfl) dX6_treatyRead_31 (by omega) (by omega) ?_
  rintro _ _ _ ⟨q_5, g_6, hg_7, rfl, rfl, rfl⟩
  refine ev_perm (ws' := (List.flatten [RD G d sg am en sp sz ap (nI ((cvA L).length)) (nI ((cvS L).length)) (nI ra) (nI ne), [(q_1, ob 10 [.int 0, .int 0, .null, .null, .null])], [(q_2, ia G ((cvA L).length) g_3)], [(q_5, ia G ((cvA L).length) g_6)]])) (perm_ks [2, 3, 4, 0, 5, 6, 7, 1] (show List.Perm _ (List.range 8) by decide) rfl) ?_
  show Ev G X 1 100 34 [(0, .ref (d 0))] [.ref q_5, .ref q_2, .int (nI ne), .int (nI ra), .ref q_1, .ref q_1] (List.flatten [RD G d sg am en sp sz ap (nI ((cvA L).length)) (nI ((cvS L).length)) (nI ra) (nI ne), [(q_1, ob 10 [.int 0, .int 0, .null, .null, .null])], [(q_2, ia G ((cvA L).length) g_3)], [(q_5, ia G ((cvA L).length) g_6)]]) ro
  refine ev_aload_n hC dX6_treatyRead_34 rfl 0 rfl ?_
  refine ev_get hC fl_X6_21_6 (mw 0 rfl) rfl dX6_treatyRead_35 ?_
  refine ev_aload_n hC dX6_treatyRead_38 rfl 0 rfl ?_
  refine ev_get hC fl_X6_34_6 (mw 0 rfl) rfl dX6_treatyRead_39 ?_
  refine ev_callS (As := [.ref (d 4), .int (nI ((cvS L).length))]) (st := [.ref q_5, .ref q_2, .int (nI ne), .int (nI ra), .ref q_1, .ref q_1]) (wc := [((d 4), ia G 100 sp)]) (wf := [((d 0), ob 6 [.ref (d 1), .ref (d 2), .ref (d 3), .ref (d 4), .int sz, .int ap, .int (nI ((cvA L).length)), .int (nI ((cvS L).length)), .int (nI ra), .int (nI ne)]), ((d 1), ia G 100 sg), ((d 2), ia G 10 am), ((d 3), ia G 10 en), (q_1, ob 10 [.int 0, .int 0, .null, .null, .null]), (q_2, ia G ((cvA L).length) g_3), (q_5, ia G ((cvA L).length) g_6)]) hC ct_X6_57 (m_J7_copyOf_59c91 G ro (d 4) 100 ((cvS L).length) sp (by omega) (by omega) (by omega)) (by omega) rfl rfl (Nat.le_of_ble_eq_true rfl) (perm_ks [4, 0, 1, 2, 3, 5, 6, 7] (show List.Perm _ (List.range 8) by decide) rfl) dX6_treatyRead_42 (by omega) (by omega) ?_
  rintro _ _ _ ⟨q_8, g_9, hg_10, rfl, rfl, rfl⟩
  refine ev_perm (ws' := (List.flatten [RD G d sg am en sp sz ap (nI ((cvA L).length)) (nI ((cvS L).length)) (nI ra) (nI ne), [(q_1, ob 10 [.int 0, .int 0, .null, .null, .null])], [(q_2, ia G ((cvA L).length) g_3)], [(q_5, ia G ((cvA L).length) g_6)], [(q_8, ia G ((cvS L).length) g_9)]])) (perm_ks [2, 3, 4, 5, 0, 6, 7, 8, 1] (show List.Perm _ (List.range 9) by decide) rfl) ?_
  show Ev G X 0 0 45 [(0, .ref (d 0))] [.ref q_8, .ref q_5, .ref q_2, .int (nI ne), .int (nI ra), .ref q_1, .ref q_1] (List.flatten [RD G d sg am en sp sz ap (nI ((cvA L).length)) (nI ((cvS L).length)) (nI ra) (nI ne), [(q_1, ob 10 [.int 0, .int 0, .null, .null, .null])], [(q_2, ia G ((cvA L).length) g_3)], [(q_5, ia G ((cvA L).length) g_6)], [(q_8, ia G ((cvS L).length) g_9)]]) ro
  refine ev_callI (As := [.int (nI ra), .int (nI ne), .ref q_2, .ref q_5, .ref q_8]) (st := [.ref q_1]) (wf := (List.flatten [RD G d sg am en sp sz ap (nI ((cvA L).length)) (nI ((cvS L).length)) (nI ra) (nI ne), [(q_2, ia G ((cvA L).length) g_3)], [(q_5, ia G ((cvA L).length) g_6)], [(q_8, ia G ((cvS L).length) g_9)]])) hC co_X6_63 (m_X10_init G ro q_1 ra ne q_2 q_5 q_8 (by omega) (by omega)) (by omega) rfl rfl (Nat.le_of_ble_eq_true rfl) (perm_sg (n := 5) [1, 0, 2, 3, 4] rfl rfl (by decide)) dX6_treatyRead_45 (by omega) (by omega) ?_
  rintro _ _ _ ⟨rfl, rfl, rfl⟩
  show Ev G X 0 0 48 [(0, .ref (d 0))] [.ref q_1] (List.flatten [[(q_1, ob 10 [.int (nI ra), .int (nI (max 1 ne)), .ref q_2, .ref q_5, .ref q_8])], RD G d sg am en sp sz ap (nI ((cvA L).length)) (nI ((cvS L).length)) (nI ra) (nI ne), [(q_2, ia G ((cvA L).length) g_3)], [(q_5, ia G ((cvA L).length) g_6)], [(q_8, ia G ((cvS L).length) g_9)]]) ro
  refine ev_perm (ws' := (List.flatten [RD G d sg am en sp sz ap (nI ((cvA L).length)) (nI ((cvS L).length)) (nI ra) (nI ne), [(q_1, ob 10 [.int (nI ra), .int (nI (max 1 ne)), .ref q_2, .ref q_5, .ref q_8])], [(q_2, ia G ((cvA L).length) g_3)], [(q_5, ia G ((cvA L).length) g_6)], [(q_8, ia G ((cvS L).length) g_9)]])) (perm_sg2 (n := 5) [1, 0, 2, 3, 4] rfl rfl (by decide)) ?_
  refine ev_ext (ws' := (List.flatten [RD G d sg am en sp sz ap (nI ((cvA L).length)) (nI ((cvS L).length)) (nI ra) (nI ne), [(q_1, ob 10 [.int (nI ra), .int (nI (max 1 ne)), .ref q_2, .ref q_5, .ref q_8])], [(q_2, ia G ((cvA L).length) (liF (cvA L)))], [(q_5, ia G ((cvA L).length) g_6)], [(q_8, ia G ((cvS L).length) g_9)]])) (q0 := 6) rfl (fun j hj => (hg_4 j hj).trans (liF_ext hA j hj)) rfl ?_
  refine ev_ext (ws' := (List.flatten [RD G d sg am en sp sz ap (nI ((cvA L).length)) (nI ((cvS L).length)) (nI ra) (nI ne), [(q_1, ob 10 [.int (nI ra), .int (nI (max 1 ne)), .ref q_2, .ref q_5, .ref q_8])], [(q_2, ia G ((cvA L).length) (liF (cvA L)))], [(q_5, ia G ((cvA L).length) (liF (cvE L 0)))], [(q_8, ia G ((cvS L).length) g_9)]])) (q0 := 7) rfl (fun j hj => (hg_7 j hj).trans (liF_ext hE j (by rw [(cv_len L 0).1]; exact hj))) rfl ?_
  refine ev_ext (ws' := (List.flatten [RD G d sg am en sp sz ap (nI ((cvA L).length)) (nI ((cvS L).length)) (nI ra) (nI ne), [(q_1, ob 10 [.int (nI ra), .int (nI (max 1 ne)), .ref q_2, .ref q_5, .ref q_8])], [(q_2, ia G ((cvA L).length) (liF (cvA L)))], [(q_5, ia G ((cvA L).length) (liF (cvE L 0)))], [(q_8, ia G ((cvS L).length) (liF (cvS L)))]])) (q0 := 8) rfl (fun j hj => (hg_10 j hj).trans (liF_ext hS j hj)) rfl ?_
  refine ev_freeze (ws' := (RD G d sg am en sp sz ap (nI ((cvA L).length)) (nI ((cvS L).length)) (nI ra) (nI ne))) (wn := [(q_1, ob 10 [.int (nI ra), .int (nI (max 1 ne)), .ref q_2, .ref q_5, .ref q_8]), (q_2, ia G ((cvA L).length) (liF (cvA L))), (q_5, ia G ((cvA L).length) (liF (cvE L 0))), (q_8, ia G ((cvS L).length) (liF (cvS L)))]) (List.Perm.of_eq rfl) ?_
  refine ev_aret hC hR rfl (by first | exact Or.inl ⟨_, rfl⟩ | exact Or.inr ⟨_, rfl⟩) dX6_treatyRead_48 ?_
  exact ⟨_, rfl, rfl, ⟨_, rfl⟩, ⟨_, _, _, (List.mem_append_right _ (List.mem_of_getElem? (i := 0) rfl)), (List.mem_append_right _ (List.mem_of_getElem? (i := 1) rfl)), (by rw [(cv_len L 0).1]; exact (List.mem_append_right _ (List.mem_of_getElem? (i := 2) rfl))), (List.mem_append_right _ (List.mem_of_getElem? (i := 3) rfl))⟩⟩

set_option maxHeartbeats 4000000 in
set_option maxRecDepth 100000 in
theorem m_X7_init (G : GG) (ro : va_W) (q n : Nat) (hn : n ≤ 1000) : Mth G M_X7_init 1 6 (6 * n) [.ref q, .int (nI n)] ([(q, ob 7 [.null, .null, .null, .int 0, .null, .null, .null, .int 0])]) ro (fun r ws' ro' => ∃ (rr : Nat → Nat), r = none ∧ ws' = (RW G rr n (fun _ => 0) (fun _ => 0) (fun _ => 0) (nI 0) (fun _ => 0) (fun _ => 0) (fun _ => 0) (nI 0)) ∧ ro = ro' ∧ rr 0 = q) := by
  refine mth_of (by decide +kernel) (Nat.le_of_ble_eq_true rfl) (fun X hC hR => ?_)
  show Ev G X 6 (6 * n) 0 [(0, .ref q), (1, .int (nI n))] [] ([(q, ob 7 [.null, .null, .null, .int 0, .null, .null, .null, .int 0])]) ro
  refine ev_aload_n hC dX7_init_0 rfl 0 rfl ?_
  refine ev_objInit hC oi_X7_1 (by omega) (Nat.le_of_ble_eq_true rfl) dX7_init_1 ?_
  refine ev_aload_n hC dX7_init_4 rfl 0 rfl ?_
  refine ev_iconst (v := (nI 0)) hC dX7_init_5 (by decide) ?_
  refine ev_put (ws' := ([(q, ob 7 [.null, .null, .null, .int (nI 0), .null, .null, .null, .int 0])])) (q0 := 0) hC fp_X7_7_7 rfl (Nat.le_of_ble_eq_true rfl) rfl rfl rfl dX7_init_6 ?_
  refine ev_aload_n hC dX7_init_9 rfl 0 rfl ?_
  refine ev_iconst (v := (nI 0)) hC dX7_init_10 (by decide) ?_
  refine ev_put (ws' := ([(q, ob 7 [.null, .null, .null, .int (nI 0), .null, .null, .null, .int (nI 0)])])) (q0 := 0) hC fp_X7_13_7 rfl (Nat.le_of_ble_eq_true rfl) rfl rfl rfl dX7_init_11 ?_
  refine ev_iconst (v := (nI 0)) hC dX7_init_14 (by decide) ?_
  refine ev_iload_n hC dX7_init_15 rfl 1 rfl ?_
  refine ev_mmax hC ⟨(ft_in 102 (by decide +kernel) rfl), (ft_in 103 (by decide +kernel) rfl), (ft_in 68 (by decide +kernel) rfl), (ft_in 104 (by decide +kernel) rfl)⟩ (by omega) (Nat.le_of_ble_eq_true rfl) dX7_init_16 ?_
  refine ev_top (y := (nI (max 0 n))) (mxN (by omega) (by omega)) ?_
  refine ev_top (y := (nI n)) (congrArg nI (Nat.max_eq_right (Nat.zero_le _))) ?_
  refine ev_istore_n (lv' := [(2, .int (nI n)), (0, .ref q), (1, .int (nI n))]) hC dX7_init_19 rfl (by decide) rfl ?_
  refine ev_aload_n hC dX7_init_20 rfl 1 rfl ?_
  refine ev_iload_n hC dX7_init_21 rfl 0 rfl ?_
  refine ev_newi (N := n) hC dX7_init_22 (nI_pos (by omega)) (nI_clamp (by omega)) (by omega) (by omega) (by omega) (fun q_1 => ?_)
  show Ev G X 5 ((6 * n) - n) 24 [(2, .int (nI n)), (0, .ref q), (1, .int (nI n))] [.ref q_1, .ref q] (List.flatten [[(q, ob 7 [.null, .null, .null, .int (nI 0), .null, .null, .null, .int (nI 0)])], [(q_1, ia G n (fun _ => 0))]]) ro
  refine ev_putF (ws' := (List.flatten [[(q, ob 7 [.ref q_1, .null, .null, .int (nI 0), .null, .null, .null, .int (nI 0)])], [(q_1, ia G n (fun _ => 0))]])) (q0 := 0) hC fp_X7_22_7 rfl rfl (Nat.le_of_ble_eq_true rfl) rfl rfl rfl dX7_init_24 ?_
  refine ev_aload_n hC dX7_init_27 rfl 1 rfl ?_
  refine ev_iload_n hC dX7_init_28 rfl 0 rfl ?_
  refine ev_newi (N := n) hC dX7_init_29 (nI_pos (by omega)) (nI_clamp (by omega)) (by omega) (by omega) (by omega) (fun q_2 => ?_)
  show Ev G X 4 (((6 * n) - n) - n) 31 [(2, .int (nI n)), (0, .ref q), (1, .int (nI n))] [.ref q_2, .ref q] (List.flatten [[(q, ob 7 [.ref q_1, .null, .null, .int (nI 0), .null, .null, .null, .int (nI 0)])], [(q_1, ia G n (fun _ => 0))], [(q_2, ia G n (fun _ => 0))]]) ro
  refine ev_putF (ws' := (List.flatten [[(q, ob 7 [.ref q_1, .ref q_2, .null, .int (nI 0), .null, .null, .null, .int (nI 0)])], [(q_1, ia G n (fun _ => 0))], [(q_2, ia G n (fun _ => 0))]])) (q0 := 0) hC fp_X7_26_7 rfl rfl (Nat.le_of_ble_eq_true rfl) rfl rfl rfl dX7_init_31 ?_
  refine ev_aload_n hC dX7_init_34 rfl 1 rfl ?_
  refine ev_iload_n hC dX7_init_35 rfl 0 rfl ?_
  refine ev_newi (N := n) hC dX7_init_36 (nI_pos (by omega)) (nI_clamp (by omega)) (by omega) (by omega) (by omega) (fun q_3 => ?_)
  show Ev G X 3 ((((6 * n) - n) - n) - n) 38 [(2, .int (nI n)), (0, .ref q), (1, .int (nI n))] [.ref q_3, .ref q] (List.flatten [[(q, ob 7 [.ref q_1, .ref q_2, .null, .int (nI 0), .null, .null, .null, .int (nI 0)])], [(q_1, ia G n (fun _ => 0))], [(q_2, ia G n (fun _ => 0))], [(q_3, ia G n (fun _ => 0))]]) ro
  refine ev_putF (ws' := (List.flatten [[(q, ob 7 [.ref q_1, .ref q_2, .ref q_3, .int (nI 0), .null, .null, .null, .int (nI 0)])], [(q_1, ia G n (fun _ => 0))], [(q_2, ia G n (fun _ => 0))], [(q_3, ia G n (fun _ => 0))]])) (q0 := 0) hC fp_X7_29_7 rfl rfl (Nat.le_of_ble_eq_true rfl) rfl rfl rfl dX7_init_38 ?_
  refine ev_aload_n hC dX7_init_41 rfl 1 rfl ?_
  refine ev_iload_n hC dX7_init_42 rfl 0 rfl ?_
  refine ev_newi (N := n) hC dX7_init_43 (nI_pos (by omega)) (nI_clamp (by omega)) (by omega) (by omega) (by omega) (fun q_4 => ?_)
  show Ev G X 2 (((((6 * n) - n) - n) - n) - n) 45 [(2, .int (nI n)), (0, .ref q), (1, .int (nI n))] [.ref q_4, .ref q] (List.flatten [[(q, ob 7 [.ref q_1, .ref q_2, .ref q_3, .int (nI 0), .null, .null, .null, .int (nI 0)])], [(q_1, ia G n (fun _ => 0))], [(q_2, ia G n (fun _ => 0))], [(q_3, ia G n (fun _ => 0))], [(q_4, ia G n (fun _ => 0))]]) ro
  refine ev_putF (ws' := (List.flatten [[(q, ob 7 [.ref q_1, .ref q_2, .ref q_3, .int (nI 0), .ref q_4, .null, .null, .int (nI 0)])], [(q_1, ia G n (fun _ => 0))], [(q_2, ia G n (fun _ => 0))], [(q_3, ia G n (fun _ => 0))], [(q_4, ia G n (fun _ => 0))]])) (q0 := 0) hC fp_X7_32_7 rfl rfl (Nat.le_of_ble_eq_true rfl) rfl rfl rfl dX7_init_45 ?_
  refine ev_aload_n hC dX7_init_48 rfl 1 rfl ?_
  refine ev_iload_n hC dX7_init_49 rfl 0 rfl ?_
  refine ev_newi (N := n) hC dX7_init_50 (nI_pos (by omega)) (nI_clamp (by omega)) (by omega) (by omega) (by omega) (fun q_5 => ?_)
  show Ev G X 1 ((((((6 * n) - n) - n) - n) - n) - n) 52 [(2, .int (nI n)), (0, .ref q), (1, .int (nI n))] [.ref q_5, .ref q] (List.flatten [[(q, ob 7 [.ref q_1, .ref q_2, .ref q_3, .int (nI 0), .ref q_4, .null, .null, .int (nI 0)])], [(q_1, ia G n (fun _ => 0))], [(q_2, ia G n (fun _ => 0))], [(q_3, ia G n (fun _ => 0))], [(q_4, ia G n (fun _ => 0))], [(q_5, ia G n (fun _ => 0))]]) ro
  refine ev_putF (ws' := (List.flatten [[(q, ob 7 [.ref q_1, .ref q_2, .ref q_3, .int (nI 0), .ref q_4, .ref q_5, .null, .int (nI 0)])], [(q_1, ia G n (fun _ => 0))], [(q_2, ia G n (fun _ => 0))], [(q_3, ia G n (fun _ => 0))], [(q_4, ia G n (fun _ => 0))], [(q_5, ia G n (fun _ => 0))]])) (q0 := 0) hC fp_X7_35_7 rfl rfl (Nat.le_of_ble_eq_true rfl) rfl rfl rfl dX7_init_52 ?_
  refine ev_aload_n hC dX7_init_55 rfl 1 rfl ?_
  refine ev_iload_n hC dX7_init_56 rfl 0 rfl ?_
  refine ev_newi (N := n) hC dX7_init_57 (nI_pos (by omega)) (nI_clamp (by omega)) (by omega) (by omega) (by omega) (fun q_6 => ?_)
  show Ev G X 0 (((((((6 * n) - n) - n) - n) - n) - n) - n) 59 [(2, .int (nI n)), (0, .ref q), (1, .int (nI n))] [.ref q_6, .ref q] (List.flatten [[(q, ob 7 [.ref q_1, .ref q_2, .ref q_3, .int (nI 0), .ref q_4, .ref q_5, .null, .int (nI 0)])], [(q_1, ia G n (fun _ => 0))], [(q_2, ia G n (fun _ => 0))], [(q_3, ia G n (fun _ => 0))], [(q_4, ia G n (fun _ => 0))], [(q_5, ia G n (fun _ => 0))], [(q_6, ia G n (fun _ => 0))]]) ro
  refine ev_putF (ws' := (List.flatten [[(q, ob 7 [.ref q_1, .ref q_2, .ref q_3, .int (nI 0), .ref q_4, .ref q_5, .ref q_6, .int (nI 0)])], [(q_1, ia G n (fun _ => 0))], [(q_2, ia G n (fun _ => 0))], [(q_3, ia G n (fun _ => 0))], [(q_4, ia G n (fun _ => 0))], [(q_5, ia G n (fun _ => 0))], [(q_6, ia G n (fun _ => 0))]])) (q0 := 0) hC fp_X7_38_7 rfl rfl (Nat.le_of_ble_eq_true rfl) rfl rfl rfl dX7_init_59 ?_
  refine ev_vret hC hR rfl dX7_init_62 ?_
  exact ⟨fun j => [q, q_1, q_2, q_3, q_4, q_5, q_6].getD j 0, rfl, rfl, rfl, rfl⟩

set_option maxHeartbeats 4000000 in
set_option maxRecDepth 100000 in
theorem m_X6_init (G : GG) (ro : va_W) (q : Nat)  : Mth G M_X6_init 1 4 220 [.ref q] ([(q, ob 6 [.null, .null, .null, .null, .int 0, .int 0, .int 0, .int 0, .int 0, .int 0])]) ro (fun r ws' ro' => ∃ (d : Nat → Nat), r = none ∧ ws' = (RD G d (fun _ => 0) (fun _ => 0) (fun _ => 0) (fun _ => 0) (nI 0) (nI 0) (nI 0) (nI 0) (nI 1) (nI 2)) ∧ ro = ro' ∧ d 0 = q) := by
  refine mth_of (by decide +kernel) (Nat.le_of_ble_eq_true rfl) (fun X hC hR => ?_)
  show Ev G X 4 220 0 [(0, .ref q)] [] ([(q, ob 6 [.null, .null, .null, .null, .int 0, .int 0, .int 0, .int 0, .int 0, .int 0])]) ro
  refine ev_aload_n hC dX6_init_0 rfl 0 rfl ?_
  refine ev_objInit hC oi_X6_3 (by omega) (Nat.le_of_ble_eq_true rfl) dX6_init_1 ?_
  refine ev_aload_n hC dX6_init_4 rfl 0 rfl ?_
  refine ev_bipush (v := (nI 100)) hC dX6_init_5 (by decide) ?_
  refine ev_newi (N := 100) hC dX6_init_7 (nI_pos (by omega)) (nI_clamp (by omega)) (by omega) (by omega) (by omega) (fun q_1 => ?_)
  show Ev G X 3 120 9 [(0, .ref q)] [.ref q_1, .ref q] (List.flatten [[(q, ob 6 [.null, .null, .null, .null, .int 0, .int 0, .int 0, .int 0, .int 0, .int 0])], [(q_1, ia G 100 (fun _ => 0))]]) ro
  refine ev_putF (ws' := (List.flatten [[(q, ob 6 [.ref q_1, .null, .null, .null, .int 0, .int 0, .int 0, .int 0, .int 0, .int 0])], [(q_1, ia G 100 (fun _ => 0))]])) (q0 := 0) hC fp_X6_9_6 rfl rfl (Nat.le_of_ble_eq_true rfl) rfl rfl rfl dX6_init_9 ?_
  refine ev_aload_n hC dX6_init_12 rfl 0 rfl ?_
  refine ev_bipush (v := (nI 10)) hC dX6_init_13 (by decide) ?_
  refine ev_newi (N := 10) hC dX6_init_15 (nI_pos (by omega)) (nI_clamp (by omega)) (by omega) (by omega) (by omega) (fun q_2 => ?_)
  show Ev G X 2 110 17 [(0, .ref q)] [.ref q_2, .ref q] (List.flatten [[(q, ob 6 [.ref q_1, .null, .null, .null, .int 0, .int 0, .int 0, .int 0, .int 0, .int 0])], [(q_1, ia G 100 (fun _ => 0))], [(q_2, ia G 10 (fun _ => 0))]]) ro
  refine ev_putF (ws' := (List.flatten [[(q, ob 6 [.ref q_1, .ref q_2, .null, .null, .int 0, .int 0, .int 0, .int 0, .int 0, .int 0])], [(q_1, ia G 100 (fun _ => 0))], [(q_2, ia G 10 (fun _ => 0))]])) (q0 := 0) hC fp_X6_15_6 rfl rfl (Nat.le_of_ble_eq_true rfl) rfl rfl rfl dX6_init_17 ?_
  refine ev_aload_n hC dX6_init_20 rfl 0 rfl ?_
  refine ev_bipush (v := (nI 10)) hC dX6_init_21 (by decide) ?_
  refine ev_newi (N := 10) hC dX6_init_23 (nI_pos (by omega)) (nI_clamp (by omega)) (by omega) (by omega) (by omega) (fun q_3 => ?_)
  show Ev G X 1 100 25 [(0, .ref q)] [.ref q_3, .ref q] (List.flatten [[(q, ob 6 [.ref q_1, .ref q_2, .null, .null, .int 0, .int 0, .int 0, .int 0, .int 0, .int 0])], [(q_1, ia G 100 (fun _ => 0))], [(q_2, ia G 10 (fun _ => 0))], [(q_3, ia G 10 (fun _ => 0))]]) ro
  refine ev_putF (ws' := (List.flatten [[(q, ob 6 [.ref q_1, .ref q_2, .ref q_3, .null, .int 0, .int 0, .int 0, .int 0, .int 0, .int 0])], [(q_1, ia G 100 (fun _ => 0))], [(q_2, ia G 10 (fun _ => 0))], [(q_3, ia G 10 (fun _ => 0))]])) (q0 := 0) hC fp_X6_18_6 rfl rfl (Nat.le_of_ble_eq_true rfl) rfl rfl rfl dX6_init_25 ?_
  refine ev_aload_n hC dX6_init_28 rfl 0 rfl ?_
  refine ev_bipush (v := (nI 100)) hC dX6_init_29 (by decide) ?_
  refine ev_newi (N := 100) hC dX6_init_31 (nI_pos (by omega)) (nI_clamp (by omega)) (by omega) (by omega) (by omega) (fun q_4 => ?_)
  show Ev G X 0 0 33 [(0, .ref q)] [.ref q_4, .ref q] (List.flatten [[(q, ob 6 [.ref q_1, .ref q_2, .ref q_3, .null, .int 0, .int 0, .int 0, .int 0, .int 0, .int 0])], [(q_1, ia G 100 (fun _ => 0))], [(q_2, ia G 10 (fun _ => 0))], [(q_3, ia G 10 (fun _ => 0))], [(q_4, ia G 100 (fun _ => 0))]]) ro
  refine ev_putF (ws' := (List.flatten [[(q, ob 6 [.ref q_1, .ref q_2, .ref q_3, .ref q_4, .int 0, .int 0, .int 0, .int 0, .int 0, .int 0])], [(q_1, ia G 100 (fun _ => 0))], [(q_2, ia G 10 (fun _ => 0))], [(q_3, ia G 10 (fun _ => 0))], [(q_4, ia G 100 (fun _ => 0))]])) (q0 := 0) hC fp_X6_21_6 rfl rfl (Nat.le_of_ble_eq_true rfl) rfl rfl rfl dX6_init_33 ?_
  refine ev_aload_n hC dX6_init_36 rfl 0 rfl ?_
  refine ev_iconst (v := (nI 0)) hC dX6_init_37 (by decide) ?_
  refine ev_put (ws' := (List.flatten [[(q, ob 6 [.ref q_1, .ref q_2, .ref q_3, .ref q_4, .int (nI 0), .int 0, .int 0, .int 0, .int 0, .int 0])], [(q_1, ia G 100 (fun _ => 0))], [(q_2, ia G 10 (fun _ => 0))], [(q_3, ia G 10 (fun _ => 0))], [(q_4, ia G 100 (fun _ => 0))]])) (q0 := 0) hC fp_X6_24_6 rfl (Nat.le_of_ble_eq_true rfl) rfl rfl rfl dX6_init_38 ?_
  refine ev_aload_n hC dX6_init_41 rfl 0 rfl ?_
  refine ev_iconst (v := (nI 0)) hC dX6_init_42 (by decide) ?_
  refine ev_put (ws' := (List.flatten [[(q, ob 6 [.ref q_1, .ref q_2, .ref q_3, .ref q_4, .int (nI 0), .int (nI 0), .int 0, .int 0, .int 0, .int 0])], [(q_1, ia G 100 (fun _ => 0))], [(q_2, ia G 10 (fun _ => 0))], [(q_3, ia G 10 (fun _ => 0))], [(q_4, ia G 100 (fun _ => 0))]])) (q0 := 0) hC fp_X6_28_6 rfl (Nat.le_of_ble_eq_true rfl) rfl rfl rfl dX6_init_43 ?_
  refine ev_aload_n hC dX6_init_46 rfl 0 rfl ?_
  refine ev_iconst (v := (nI 0)) hC dX6_init_47 (by decide) ?_
  refine ev_put (ws' := (List.flatten [[(q, ob 6 [.ref q_1, .ref q_2, .ref q_3, .ref q_4, .int (nI 0), .int (nI 0), .int (nI 0), .int 0, .int 0, .int 0])], [(q_1, ia G 100 (fun _ => 0))], [(q_2, ia G 10 (fun _ => 0))], [(q_3, ia G 10 (fun _ => 0))], [(q_4, ia G 100 (fun _ => 0))]])) (q0 := 0) hC fp_X6_31_6 rfl (Nat.le_of_ble_eq_true rfl) rfl rfl rfl dX6_init_48 ?_
  refine ev_aload_n hC dX6_init_51 rfl 0 rfl ?_
  refine ev_iconst (v := (nI 0)) hC dX6_init_52 (by decide) ?_
  refine ev_put (ws' := (List.flatten [[(q, ob 6 [.ref q_1, .ref q_2, .ref q_3, .ref q_4, .int (nI 0), .int (nI 0), .int (nI 0), .int (nI 0), .int 0, .int 0])], [(q_1, ia G 100 (fun _ => 0))], [(q_2, ia G 10 (fun _ => 0))], [(q_3, ia G 10 (fun _ => 0))], [(q_4, ia G 100 (fun _ => 0))]])) (q0 := 0) hC fp_X6_34_6 rfl (Nat.le_of_ble_eq_true rfl) rfl rfl rfl dX6_init_53 ?_
  refine ev_aload_n hC dX6_init_56 rfl 0 rfl ?_
  refine ev_iconst (v := (nI 1)) hC dX6_init_57 (by decide) ?_
  refine ev_put (ws' := (List.flatten [[(q, ob 6 [.ref q_1, .ref q_2, .ref q_3, .ref q_4, .int (nI 0), .int (nI 0), .int (nI 0), .int (nI 0), .int (nI 1), .int 0])], [(q_1, ia G 100 (fun _ => 0))], [(q_2, ia G 10 (fun _ => 0))], [(q_3, ia G 10 (fun _ => 0))], [(q_4, ia G 100 (fun _ => 0))]])) (q0 := 0) hC fp_X6_37_6 rfl (Nat.le_of_ble_eq_true rfl) rfl rfl rfl dX6_init_58 ?_
  refine ev_aload_n hC dX6_init_61 rfl 0 rfl ?_
  refine ev_iconst (v := (nI 2)) hC dX6_init_62 (by decide) ?_
  refine ev_put (ws' := (List.flatten [[(q, ob 6 [.ref q_1, .ref q_2, .ref q_3, .ref q_4, .int (nI 0), .int (nI 0), .int (nI 0), .int (nI 0), .int (nI 1), .int (nI 2)])], [(q_1, ia G 100 (fun _ => 0))], [(q_2, ia G 10 (fun _ => 0))], [(q_3, ia G 10 (fun _ => 0))], [(q_4, ia G 100 (fun _ => 0))]])) (q0 := 0) hC fp_X6_40_6 rfl (Nat.le_of_ble_eq_true rfl) rfl rfl rfl dX6_init_63 ?_
  refine ev_vret hC hR rfl dX6_init_66 ?_
  exact ⟨fun j => [q, q_1, q_2, q_3, q_4].getD j 0, rfl, rfl, rfl, rfl⟩

set_option maxHeartbeats 4000000 in
set_option maxRecDepth 100000 in
theorem m_X3_init (G : GG) (ro : va_W) (q t nb : Nat) (fs : List Value) (hnb : (nb, ob 4 fs) ∈ ro) : Mth G M_X3_init 2 8 66 [.ref q, .ref t, .ref nb] ([(q, ob 3 [.null, .null, .null, .null, .null, .null, .null, .null, .int 0, .int 0, .int 0, .int 0, .null, .int 0, .int 0, .int 0])]) ro (fun r ws' ro' => ∃ (b : Nat → Nat), r = none ∧ ws' = (MO G b (vwn iniF 2 6) (fun _ => 0) (nbO 6 nb) (vwn iniF 14 6) (vwn iniF 20 6) (vwn iniF 26 6) (vwn iniF 51 24) (fun _ => 0) (iniF 32) (bitF iniF) (iniF 0) (iniF 1) t (iniF 33) (-1) (nI 0)) ∧ ro = ro' ∧ b 0 = q) := by
  refine mth_of (by decide +kernel) (Nat.le_of_ble_eq_true rfl) (fun X hC hR => ?_)
  show Ev G X 8 66 0 [(0, .ref q), (1, .ref t), (2, .ref nb)] [] ([(q, ob 3 [.null, .null, .null, .null, .null, .null, .null, .null, .int 0, .int 0, .int 0, .int 0, .null, .int 0, .int 0, .int 0])]) ro
  refine ev_aload_n hC dX3_init_0 rfl 0 rfl ?_
  refine ev_objInit hC oi_X3_3 (by omega) (Nat.le_of_ble_eq_true rfl) dX3_init_1 ?_
  refine ev_aload_n hC dX3_init_4 rfl 0 rfl ?_
  refine ev_bipush (v := (nI 6)) hC dX3_init_5 (by decide) ?_
  refine ev_newi (N := 6) hC dX3_init_7 (nI_pos (by omega)) (nI_clamp (by omega)) (by omega) (by omega) (by omega) (fun q_1 => ?_)
  show Ev G X 7 60 9 [(0, .ref q), (1, .ref t), (2, .ref nb)] [.ref q_1, .ref q] (List.flatten [[(q, ob 3 [.null, .null, .null, .null, .null, .null, .null, .null, .int 0, .int 0, .int 0, .int 0, .null, .int 0, .int 0, .int 0])], [(q_1, ia G 6 (fun _ => 0))]]) ro
  refine ev_putF (ws' := (List.flatten [[(q, ob 3 [.ref q_1, .null, .null, .null, .null, .null, .null, .null, .int 0, .int 0, .int 0, .int 0, .null, .int 0, .int 0, .int 0])], [(q_1, ia G 6 (fun _ => 0))]])) (q0 := 0) hC fp_X3_9_3 rfl rfl (Nat.le_of_ble_eq_true rfl) rfl rfl rfl dX3_init_9 ?_
  refine ev_aload_n hC dX3_init_12 rfl 0 rfl ?_
  refine ev_bipush (v := (nI 6)) hC dX3_init_13 (by decide) ?_
  refine ev_newi (N := 6) hC dX3_init_15 (nI_pos (by omega)) (nI_clamp (by omega)) (by omega) (by omega) (by omega) (fun q_2 => ?_)
  show Ev G X 6 54 17 [(0, .ref q), (1, .ref t), (2, .ref nb)] [.ref q_2, .ref q] (List.flatten [[(q, ob 3 [.ref q_1, .null, .null, .null, .null, .null, .null, .null, .int 0, .int 0, .int 0, .int 0, .null, .int 0, .int 0, .int 0])], [(q_1, ia G 6 (fun _ => 0))], [(q_2, ia G 6 (fun _ => 0))]]) ro
  refine ev_putF (ws' := (List.flatten [[(q, ob 3 [.ref q_1, .ref q_2, .null, .null, .null, .null, .null, .null, .int 0, .int 0, .int 0, .int 0, .null, .int 0, .int 0, .int 0])], [(q_1, ia G 6 (fun _ => 0))], [(q_2, ia G 6 (fun _ => 0))]])) (q0 := 0) hC fp_X3_15_3 rfl rfl (Nat.le_of_ble_eq_true rfl) rfl rfl rfl dX3_init_17 ?_
  refine ev_aload_n hC dX3_init_20 rfl 0 rfl ?_
  refine ev_bipush (v := (nI 6)) hC dX3_init_21 (by decide) ?_
  refine ev_newq (N := 6) hC (ft_in 251 (by decide +kernel) rfl) dX3_init_23 (nI_pos (by omega)) (nI_clamp (by omega)) (by omega) (by omega) (by omega) (fun q_3 => ?_)
  show Ev G X 5 48 26 [(0, .ref q), (1, .ref t), (2, .ref nb)] [.ref q_3, .ref q] (List.flatten [[(q, ob 3 [.ref q_1, .ref q_2, .null, .null, .null, .null, .null, .null, .int 0, .int 0, .int 0, .int 0, .null, .int 0, .int 0, .int 0])], [(q_1, ia G 6 (fun _ => 0))], [(q_2, ia G 6 (fun _ => 0))], [(q_3, pa G 6 (fun _ => none))]]) ro
  refine ev_putF (ws' := (List.flatten [[(q, ob 3 [.ref q_1, .ref q_2, .ref q_3, .null, .null, .null, .null, .null, .int 0, .int 0, .int 0, .int 0, .null, .int 0, .int 0, .int 0])], [(q_1, ia G 6 (fun _ => 0))], [(q_2, ia G 6 (fun _ => 0))], [(q_3, pa G 6 (fun _ => none))]])) (q0 := 0) hC fp_X3_20_3 rfl rfl (Nat.le_of_ble_eq_true rfl) rfl rfl rfl dX3_init_26 ?_
  refine ev_aload_n hC dX3_init_29 rfl 0 rfl ?_
  refine ev_bipush (v := (nI 6)) hC dX3_init_30 (by decide) ?_
  refine ev_newi (N := 6) hC dX3_init_32 (nI_pos (by omega)) (nI_clamp (by omega)) (by omega) (by omega) (by omega) (fun q_4 => ?_)
  show Ev G X 4 42 34 [(0, .ref q), (1, .ref t), (2, .ref nb)] [.ref q_4, .ref q] (List.flatten [[(q, ob 3 [.ref q_1, .ref q_2, .ref q_3, .null, .null, .null, .null, .null, .int 0, .int 0, .int 0, .int 0, .null, .int 0, .int 0, .int 0])], [(q_1, ia G 6 (fun _ => 0))], [(q_2, ia G 6 (fun _ => 0))], [(q_3, pa G 6 (fun _ => none))], [(q_4, ia G 6 (fun _ => 0))]]) ro
  refine ev_putF (ws' := (List.flatten [[(q, ob 3 [.ref q_1, .ref q_2, .ref q_3, .ref q_4, .null, .null, .null, .null, .int 0, .int 0, .int 0, .int 0, .null, .int 0, .int 0, .int 0])], [(q_1, ia G 6 (fun _ => 0))], [(q_2, ia G 6 (fun _ => 0))], [(q_3, pa G 6 (fun _ => none))], [(q_4, ia G 6 (fun _ => 0))]])) (q0 := 0) hC fp_X3_24_3 rfl rfl (Nat.le_of_ble_eq_true rfl) rfl rfl rfl dX3_init_34 ?_
  refine ev_aload_n hC dX3_init_37 rfl 0 rfl ?_
  refine ev_bipush (v := (nI 6)) hC dX3_init_38 (by decide) ?_
  refine ev_newi (N := 6) hC dX3_init_40 (nI_pos (by omega)) (nI_clamp (by omega)) (by omega) (by omega) (by omega) (fun q_5 => ?_)
  show Ev G X 3 36 42 [(0, .ref q), (1, .ref t), (2, .ref nb)] [.ref q_5, .ref q] (List.flatten [[(q, ob 3 [.ref q_1, .ref q_2, .ref q_3, .ref q_4, .null, .null, .null, .null, .int 0, .int 0, .int 0, .int 0, .null, .int 0, .int 0, .int 0])], [(q_1, ia G 6 (fun _ => 0))], [(q_2, ia G 6 (fun _ => 0))], [(q_3, pa G 6 (fun _ => none))], [(q_4, ia G 6 (fun _ => 0))], [(q_5, ia G 6 (fun _ => 0))]]) ro
  refine ev_putF (ws' := (List.flatten [[(q, ob 3 [.ref q_1, .ref q_2, .ref q_3, .ref q_4, .ref q_5, .null, .null, .null, .int 0, .int 0, .int 0, .int 0, .null, .int 0, .int 0, .int 0])], [(q_1, ia G 6 (fun _ => 0))], [(q_2, ia G 6 (fun _ => 0))], [(q_3, pa G 6 (fun _ => none))], [(q_4, ia G 6 (fun _ => 0))], [(q_5, ia G 6 (fun _ => 0))]])) (q0 := 0) hC fp_X3_27_3 rfl rfl (Nat.le_of_ble_eq_true rfl) rfl rfl rfl dX3_init_42 ?_
  refine ev_aload_n hC dX3_init_45 rfl 0 rfl ?_
  refine ev_bipush (v := (nI 6)) hC dX3_init_46 (by decide) ?_
  refine ev_newi (N := 6) hC dX3_init_48 (nI_pos (by omega)) (nI_clamp (by omega)) (by omega) (by omega) (by omega) (fun q_6 => ?_)
  show Ev G X 2 30 50 [(0, .ref q), (1, .ref t), (2, .ref nb)] [.ref q_6, .ref q] (List.flatten [[(q, ob 3 [.ref q_1, .ref q_2, .ref q_3, .ref q_4, .ref q_5, .null, .null, .null, .int 0, .int 0, .int 0, .int 0, .null, .int 0, .int 0, .int 0])], [(q_1, ia G 6 (fun _ => 0))], [(q_2, ia G 6 (fun _ => 0))], [(q_3, pa G 6 (fun _ => none))], [(q_4, ia G 6 (fun _ => 0))], [(q_5, ia G 6 (fun _ => 0))], [(q_6, ia G 6 (fun _ => 0))]]) ro
  refine ev_putF (ws' := (List.flatten [[(q, ob 3 [.ref q_1, .ref q_2, .ref q_3, .ref q_4, .ref q_5, .ref q_6, .null, .null, .int 0, .int 0, .int 0, .int 0, .null, .int 0, .int 0, .int 0])], [(q_1, ia G 6 (fun _ => 0))], [(q_2, ia G 6 (fun _ => 0))], [(q_3, pa G 6 (fun _ => none))], [(q_4, ia G 6 (fun _ => 0))], [(q_5, ia G 6 (fun _ => 0))], [(q_6, ia G 6 (fun _ => 0))]])) (q0 := 0) hC fp_X3_30_3 rfl rfl (Nat.le_of_ble_eq_true rfl) rfl rfl rfl dX3_init_50 ?_
  refine ev_aload_n hC dX3_init_53 rfl 0 rfl ?_
  refine ev_bipush (v := (nI 24)) hC dX3_init_54 (by decide) ?_
  refine ev_newi (N := 24) hC dX3_init_56 (nI_pos (by omega)) (nI_clamp (by omega)) (by omega) (by omega) (by omega) (fun q_7 => ?_)
  show Ev G X 1 6 58 [(0, .ref q), (1, .ref t), (2, .ref nb)] [.ref q_7, .ref q] (List.flatten [[(q, ob 3 [.ref q_1, .ref q_2, .ref q_3, .ref q_4, .ref q_5, .ref q_6, .null, .null, .int 0, .int 0, .int 0, .int 0, .null, .int 0, .int 0, .int 0])], [(q_1, ia G 6 (fun _ => 0))], [(q_2, ia G 6 (fun _ => 0))], [(q_3, pa G 6 (fun _ => none))], [(q_4, ia G 6 (fun _ => 0))], [(q_5, ia G 6 (fun _ => 0))], [(q_6, ia G 6 (fun _ => 0))], [(q_7, ia G 24 (fun _ => 0))]]) ro
  refine ev_putF (ws' := (List.flatten [[(q, ob 3 [.ref q_1, .ref q_2, .ref q_3, .ref q_4, .ref q_5, .ref q_6, .ref q_7, .null, .int 0, .int 0, .int 0, .int 0, .null, .int 0, .int 0, .int 0])], [(q_1, ia G 6 (fun _ => 0))], [(q_2, ia G 6 (fun _ => 0))], [(q_3, pa G 6 (fun _ => none))], [(q_4, ia G 6 (fun _ => 0))], [(q_5, ia G 6 (fun _ => 0))], [(q_6, ia G 6 (fun _ => 0))], [(q_7, ia G 24 (fun _ => 0))]])) (q0 := 0) hC fp_X3_33_3 rfl rfl (Nat.le_of_ble_eq_true rfl) rfl rfl rfl dX3_init_58 ?_
  refine ev_aload_n hC dX3_init_61 rfl 0 rfl ?_
  refine ev_bipush (v := (nI 6)) hC dX3_init_62 (by decide) ?_
  refine ev_newi (N := 6) hC dX3_init_64 (nI_pos (by omega)) (nI_clamp (by omega)) (by omega) (by omega) (by omega) (fun q_8 => ?_)
  show Ev G X 0 0 66 [(0, .ref q), (1, .ref t), (2, .ref nb)] [.ref q_8, .ref q] (List.flatten [[(q, ob 3 [.ref q_1, .ref q_2, .ref q_3, .ref q_4, .ref q_5, .ref q_6, .ref q_7, .null, .int 0, .int 0, .int 0, .int 0, .null, .int 0, .int 0, .int 0])], [(q_1, ia G 6 (fun _ => 0))], [(q_2, ia G 6 (fun _ => 0))], [(q_3, pa G 6 (fun _ => none))], [(q_4, ia G 6 (fun _ => 0))], [(q_5, ia G 6 (fun _ => 0))], [(q_6, ia G 6 (fun _ => 0))], [(q_7, ia G 24 (fun _ => 0))], [(q_8, ia G 6 (fun _ => 0))]]) ro
  refine ev_putF (ws' := (List.flatten [[(q, ob 3 [.ref q_1, .ref q_2, .ref q_3, .ref q_4, .ref q_5, .ref q_6, .ref q_7, .ref q_8, .int 0, .int 0, .int 0, .int 0, .null, .int 0, .int 0, .int 0])], [(q_1, ia G 6 (fun _ => 0))], [(q_2, ia G 6 (fun _ => 0))], [(q_3, pa G 6 (fun _ => none))], [(q_4, ia G 6 (fun _ => 0))], [(q_5, ia G 6 (fun _ => 0))], [(q_6, ia G 6 (fun _ => 0))], [(q_7, ia G 24 (fun _ => 0))], [(q_8, ia G 6 (fun _ => 0))]])) (q0 := 0) hC fp_X3_38_3 rfl rfl (Nat.le_of_ble_eq_true rfl) rfl rfl rfl dX3_init_66 ?_
  refine ev_aload_n hC dX3_init_69 rfl 0 rfl ?_
  refine ev_iconst (v := (nI 0)) hC dX3_init_70 (by decide) ?_
  refine ev_put (ws' := (List.flatten [[(q, ob 3 [.ref q_1, .ref q_2, .ref q_3, .ref q_4, .ref q_5, .ref q_6, .ref q_7, .ref q_8, .int (nI 0), .int 0, .int 0, .int 0, .null, .int 0, .int 0, .int 0])], [(q_1, ia G 6 (fun _ => 0))], [(q_2, ia G 6 (fun _ => 0))], [(q_3, pa G 6 (fun _ => none))], [(q_4, ia G 6 (fun _ => 0))], [(q_5, ia G 6 (fun _ => 0))], [(q_6, ia G 6 (fun _ => 0))], [(q_7, ia G 24 (fun _ => 0))], [(q_8, ia G 6 (fun _ => 0))]])) (q0 := 0) hC fp_X3_41_3 rfl (Nat.le_of_ble_eq_true rfl) rfl rfl rfl dX3_init_71 ?_
  refine ev_aload_n hC dX3_init_74 rfl 0 rfl ?_
  refine ev_iconst (v := (nI 0)) hC dX3_init_75 (by decide) ?_
  refine ev_put (ws' := (List.flatten [[(q, ob 3 [.ref q_1, .ref q_2, .ref q_3, .ref q_4, .ref q_5, .ref q_6, .ref q_7, .ref q_8, .int (nI 0), .int (nI 0), .int 0, .int 0, .null, .int 0, .int 0, .int 0])], [(q_1, ia G 6 (fun _ => 0))], [(q_2, ia G 6 (fun _ => 0))], [(q_3, pa G 6 (fun _ => none))], [(q_4, ia G 6 (fun _ => 0))], [(q_5, ia G 6 (fun _ => 0))], [(q_6, ia G 6 (fun _ => 0))], [(q_7, ia G 24 (fun _ => 0))], [(q_8, ia G 6 (fun _ => 0))]])) (q0 := 0) hC fp_X3_45_3 rfl (Nat.le_of_ble_eq_true rfl) rfl rfl rfl dX3_init_76 ?_
  refine ev_aload_n hC dX3_init_79 rfl 0 rfl ?_
  refine ev_iconst (v := (nI 0)) hC dX3_init_80 (by decide) ?_
  refine ev_put (ws' := (List.flatten [[(q, ob 3 [.ref q_1, .ref q_2, .ref q_3, .ref q_4, .ref q_5, .ref q_6, .ref q_7, .ref q_8, .int (nI 0), .int (nI 0), .int (nI 0), .int 0, .null, .int 0, .int 0, .int 0])], [(q_1, ia G 6 (fun _ => 0))], [(q_2, ia G 6 (fun _ => 0))], [(q_3, pa G 6 (fun _ => none))], [(q_4, ia G 6 (fun _ => 0))], [(q_5, ia G 6 (fun _ => 0))], [(q_6, ia G 6 (fun _ => 0))], [(q_7, ia G 24 (fun _ => 0))], [(q_8, ia G 6 (fun _ => 0))]])) (q0 := 0) hC fp_X3_48_3 rfl (Nat.le_of_ble_eq_true rfl) rfl rfl rfl dX3_init_81 ?_
  refine ev_aload_n hC dX3_init_84 rfl 0 rfl ?_
  refine ev_iconst (v := (nI 0)) hC dX3_init_85 (by decide) ?_
  refine ev_put (ws' := (List.flatten [[(q, ob 3 [.ref q_1, .ref q_2, .ref q_3, .ref q_4, .ref q_5, .ref q_6, .ref q_7, .ref q_8, .int (nI 0), .int (nI 0), .int (nI 0), .int (nI 0), .null, .int 0, .int 0, .int 0])], [(q_1, ia G 6 (fun _ => 0))], [(q_2, ia G 6 (fun _ => 0))], [(q_3, pa G 6 (fun _ => none))], [(q_4, ia G 6 (fun _ => 0))], [(q_5, ia G 6 (fun _ => 0))], [(q_6, ia G 6 (fun _ => 0))], [(q_7, ia G 24 (fun _ => 0))], [(q_8, ia G 6 (fun _ => 0))]])) (q0 := 0) hC fp_X3_51_3 rfl (Nat.le_of_ble_eq_true rfl) (nar_01 (by decide)).1 (nar_01 (by decide)).2.1 rfl dX3_init_86 ?_
  refine ev_aload_n hC dX3_init_89 rfl 0 rfl ?_
  refine ev_iconst (v := (nI 0)) hC dX3_init_90 (by decide) ?_
  refine ev_put (ws' := (List.flatten [[(q, ob 3 [.ref q_1, .ref q_2, .ref q_3, .ref q_4, .ref q_5, .ref q_6, .ref q_7, .ref q_8, .int (nI 0), .int (nI 0), .int (nI 0), .int (nI 0), .null, .int (nI 0), .int 0, .int 0])], [(q_1, ia G 6 (fun _ => 0))], [(q_2, ia G 6 (fun _ => 0))], [(q_3, pa G 6 (fun _ => none))], [(q_4, ia G 6 (fun _ => 0))], [(q_5, ia G 6 (fun _ => 0))], [(q_6, ia G 6 (fun _ => 0))], [(q_7, ia G 24 (fun _ => 0))], [(q_8, ia G 6 (fun _ => 0))]])) (q0 := 0) hC fp_X3_55_3 rfl (Nat.le_of_ble_eq_true rfl) rfl rfl rfl dX3_init_91 ?_
  refine ev_aload_n hC dX3_init_94 rfl 0 rfl ?_
  refine ev_iconst (v := (-1)) hC dX3_init_95 (by decide) ?_
  refine ev_put (ws' := (List.flatten [[(q, ob 3 [.ref q_1, .ref q_2, .ref q_3, .ref q_4, .ref q_5, .ref q_6, .ref q_7, .ref q_8, .int (nI 0), .int (nI 0), .int (nI 0), .int (nI 0), .null, .int (nI 0), .int (-1), .int 0])], [(q_1, ia G 6 (fun _ => 0))], [(q_2, ia G 6 (fun _ => 0))], [(q_3, pa G 6 (fun _ => none))], [(q_4, ia G 6 (fun _ => 0))], [(q_5, ia G 6 (fun _ => 0))], [(q_6, ia G 6 (fun _ => 0))], [(q_7, ia G 24 (fun _ => 0))], [(q_8, ia G 6 (fun _ => 0))]])) (q0 := 0) hC fp_X3_58_3 rfl (Nat.le_of_ble_eq_true rfl) rfl rfl rfl dX3_init_96 ?_
  refine ev_aload_n hC dX3_init_99 rfl 0 rfl ?_
  refine ev_iconst (v := (nI 0)) hC dX3_init_100 (by decide) ?_
  refine ev_put (ws' := (List.flatten [[(q, ob 3 [.ref q_1, .ref q_2, .ref q_3, .ref q_4, .ref q_5, .ref q_6, .ref q_7, .ref q_8, .int (nI 0), .int (nI 0), .int (nI 0), .int (nI 0), .null, .int (nI 0), .int (-1), .int (nI 0)])], [(q_1, ia G 6 (fun _ => 0))], [(q_2, ia G 6 (fun _ => 0))], [(q_3, pa G 6 (fun _ => none))], [(q_4, ia G 6 (fun _ => 0))], [(q_5, ia G 6 (fun _ => 0))], [(q_6, ia G 6 (fun _ => 0))], [(q_7, ia G 24 (fun _ => 0))], [(q_8, ia G 6 (fun _ => 0))]])) (q0 := 0) hC fp_X3_61_3 rfl (Nat.le_of_ble_eq_true rfl) rfl rfl rfl dX3_init_101 ?_
  refine ev_aload_n hC dX3_init_104 rfl 0 rfl ?_
  refine ev_aload_n hC dX3_init_105 rfl 1 rfl ?_
  refine ev_put (ws' := (List.flatten [[(q, ob 3 [.ref q_1, .ref q_2, .ref q_3, .ref q_4, .ref q_5, .ref q_6, .ref q_7, .ref q_8, .int (nI 0), .int (nI 0), .int (nI 0), .int (nI 0), .ref t, .int (nI 0), .int (-1), .int (nI 0)])], [(q_1, ia G 6 (fun _ => 0))], [(q_2, ia G 6 (fun _ => 0))], [(q_3, pa G 6 (fun _ => none))], [(q_4, ia G 6 (fun _ => 0))], [(q_5, ia G 6 (fun _ => 0))], [(q_6, ia G 6 (fun _ => 0))], [(q_7, ia G 24 (fun _ => 0))], [(q_8, ia G 6 (fun _ => 0))]])) (q0 := 0) hC fp_X3_64_3 rfl (Nat.le_of_ble_eq_true rfl) rfl rfl rfl dX3_init_106 ?_
  refine ev_iconst (v := (nI 0)) hC dX3_init_109 (by decide) ?_
  refine ev_istore_n (lv' := [(3, .int (nI 0)), (0, .ref q), (1, .ref t), (2, .ref nb)]) hC dX3_init_110 rfl (by decide) rfl ?_
  have lp_111 : ∀ (fu_111 : Nat) (i : Nat) (hi : i ≤ 6) (hn : 6 - i < fu_111), Ev G X 0 0 111 [(0, .ref q), (1, .ref t), (2, .ref nb), (3, .int (nI i))] [] (List.flatten [[(q, ob 3 [.ref q_1, .ref q_2, .ref q_3, .ref q_4, .ref q_5, .ref q_6, .ref q_7, .ref q_8, .int (nI 0), .int (nI 0), .int (nI 0), .int (nI 0), .ref t, .int (nI 0), .int (-1), .int (nI 0)])], [(q_1, ia G 6 (fun _ => 0))], [(q_2, ia G 6 (fun _ => 0))], [(q_3, pa G 6 (nbO i nb))], [(q_4, ia G 6 (fun _ => 0))], [(q_5, ia G 6 (fun _ => 0))], [(q_6, ia G 6 (fun _ => 0))], [(q_7, ia G 24 (fun _ => 0))], [(q_8, ia G 6 (fun _ => 0))]]) ro := by
    intro fu_111
    induction fu_111 with
    | zero => intro i hi hn; exact absurd hn (Nat.not_lt_zero _)
    | succ fu_111 ih =>
      intro i hi hn
      refine ev_iload_n hC dX3_init_111 rfl 3 rfl ?_
      refine ev_bipush (v := (nI 6)) hC dX3_init_112 (by decide) ?_
      refine ev_icmp_geN (tgt := 130) hC dX3_init_114 (by decide) (by omega) (by omega) (fun c_9 => ?_) (fun c_9 => ?_)
      · obtain rfl : i = 6 := by omega
        show Ev G X 0 0 130 [(0, .ref q), (1, .ref t), (2, .ref nb), (3, .int (nI 6))] [] (List.flatten [[(q, ob 3 [.ref q_1, .ref q_2, .ref q_3, .ref q_4, .ref q_5, .ref q_6, .ref q_7, .ref q_8, .int (nI 0), .int (nI 0), .int (nI 0), .int (nI 0), .ref t, .int (nI 0), .int (-1), .int (nI 0)])], [(q_1, ia G 6 (fun _ => 0))], [(q_2, ia G 6 (fun _ => 0))], [(q_3, pa G 6 (nbO 6 nb))], [(q_4, ia G 6 (fun _ => 0))], [(q_5, ia G 6 (fun _ => 0))], [(q_6, ia G 6 (fun _ => 0))], [(q_7, ia G 24 (fun _ => 0))], [(q_8, ia G 6 (fun _ => 0))]]) ro
        refine ev_aload_n hC dX3_init_130 rfl 0 rfl ?_
        refine ev_get hC fl_X3_9_3 (mw 0 rfl) rfl dX3_init_131 ?_
        refine ev_bipush (v := (nI 100)) hC dX3_init_134 (by decide) ?_
        refine ev_callS (As := [.ref q_1, .int (nI 100)]) (st := []) (wc := [(q_1, ia G 6 (fun _ => 0))]) (wf := [(q, ob 3 [.ref q_1, .ref q_2, .ref q_3, .ref q_4, .ref q_5, .ref q_6, .ref q_7, .ref q_8, .int (nI 0), .int (nI 0), .int (nI 0), .int (nI 0), .ref t, .int (nI 0), .int (-1), .int (nI 0)]), (q_2, ia G 6 (fun _ => 0)), (q_3, pa G 6 (nbO 6 nb)), (q_4, ia G 6 (fun _ => 0)), (q_5, ia G 6 (fun _ => 0)), (q_6, ia G 6 (fun _ => 0)), (q_7, ia G 24 (fun _ => 0)), (q_8, ia G 6 (fun _ => 0))]) hC ct_X3_68 (m_J7_fill_53178 G ro q_1 6 (fun _ => 0) (nI 100) (by omega)) (by omega) rfl rfl (Nat.le_of_ble_eq_true rfl) (perm_ks [1, 0, 2, 3, 4, 5, 6, 7, 8] (show List.Perm _ (List.range 9) by decide) rfl) dX3_init_136 (by omega) (by omega) ?_
        rintro _ _ _ ⟨rfl, rfl, rfl⟩
        refine ev_perm (ws' := (List.flatten [[(q, ob 3 [.ref q_1, .ref q_2, .ref q_3, .ref q_4, .ref q_5, .ref q_6, .ref q_7, .ref q_8, .int (nI 0), .int (nI 0), .int (nI 0), .int (nI 0), .ref t, .int (nI 0), .int (-1), .int (nI 0)])], [(q_1, ia G 6 (flF (fun _ => 0) 0 6 (nI 100)))], [(q_2, ia G 6 (fun _ => 0))], [(q_3, pa G 6 (nbO 6 nb))], [(q_4, ia G 6 (fun _ => 0))], [(q_5, ia G 6 (fun _ => 0))], [(q_6, ia G 6 (fun _ => 0))], [(q_7, ia G 24 (fun _ => 0))], [(q_8, ia G 6 (fun _ => 0))]])) (perm_ks [1, 0, 2, 3, 4, 5, 6, 7, 8] (show List.Perm _ (List.range 9) by decide) rfl) ?_
        show Ev G X 0 0 139 [(0, .ref q), (1, .ref t), (2, .ref nb), (3, .int (nI 6))] [] (List.flatten [[(q, ob 3 [.ref q_1, .ref q_2, .ref q_3, .ref q_4, .ref q_5, .ref q_6, .ref q_7, .ref q_8, .int (nI 0), .int (nI 0), .int (nI 0), .int (nI 0), .ref t, .int (nI 0), .int (-1), .int (nI 0)])], [(q_1, ia G 6 (flF (fun _ => 0) 0 6 (nI 100)))], [(q_2, ia G 6 (fun _ => 0))], [(q_3, pa G 6 (nbO 6 nb))], [(q_4, ia G 6 (fun _ => 0))], [(q_5, ia G 6 (fun _ => 0))], [(q_6, ia G 6 (fun _ => 0))], [(q_7, ia G 24 (fun _ => 0))], [(q_8, ia G 6 (fun _ => 0))]]) ro
        refine ev_vret hC hR rfl dX3_init_139 ?_
        exact ⟨fun j => [q, q_1, q_2, q_3, q_4, q_5, q_6, q_7, q_8].getD j 0, rfl, Eq.trans (b := MO G (fun j => [q, q_1, q_2, q_3, q_4, q_5, q_6, q_7, q_8].getD j 0) (flF (fun _ => 0) 0 6 (nI 100)) (fun _ => 0) (nbO 6 nb) (fun _ => 0) (fun _ => 0) (fun _ => 0) (fun _ => 0) (fun _ => 0) (nI 0) (nI 0) (nI 0) (nI 0) t (nI 0) (-1) (nI 0)) rfl (mo_eq ini_sa rfl rfl (ini_z (by omega) (by omega)) (ini_z (by omega) (by omega)) (ini_z (by omega) (by omega)) (ini_z2 (by omega)) rfl (by decide) ini_rf (by decide) (by decide) (by decide) rfl rfl), rfl, rfl⟩
      · refine ev_aload_n hC dX3_init_117 rfl 0 rfl ?_
        refine ev_get hC fl_X3_20_3 (mw 0 rfl) rfl dX3_init_118 ?_
        refine ev_iload_n hC dX3_init_121 rfl 3 rfl ?_
        refine ev_aload_n hC dX3_init_122 rfl 2 rfl ?_
        refine ev_aastN (i := i) (ws' := (List.flatten [[(q, ob 3 [.ref q_1, .ref q_2, .ref q_3, .ref q_4, .ref q_5, .ref q_6, .ref q_7, .ref q_8, .int (nI 0), .int (nI 0), .int (nI 0), .int (nI 0), .ref t, .int (nI 0), .int (-1), .int (nI 0)])], [(q_1, ia G 6 (fun _ => 0))], [(q_2, ia G 6 (fun _ => 0))], [(q_3, pa G 6 (va_up (nbO i nb) i (some nb)))], [(q_4, ia G 6 (fun _ => 0))], [(q_5, ia G 6 (fun _ => 0))], [(q_6, ia G 6 (fun _ => 0))], [(q_7, ia G 24 (fun _ => 0))], [(q_8, ia G 6 (fun _ => 0))]])) (q0 := 3) hC rfl (mr hnb) (Or.inl rfl) (by omega) (by omega) rfl dX3_init_123 ?_
        refine ev_iinc (v := (nI (i + 1))) (lv' := [(3, .int (nI (i + 1))), (0, .ref q), (1, .ref t), (2, .ref nb)]) hC dX3_init_124 (q := 3) rfl (nI_k _ _ 1 (by decide)) (by decide) rfl ?_
        refine ev_goto (tgt := 111) hC dX3_init_127 (by decide) ?_
        refine ev_lv [1, 2, 3, 0] rfl ?_
        refine ev_ws (ws' := (List.flatten [[(q, ob 3 [.ref q_1, .ref q_2, .ref q_3, .ref q_4, .ref q_5, .ref q_6, .ref q_7, .ref q_8, .int (nI 0), .int (nI 0), .int (nI 0), .int (nI 0), .ref t, .int (nI 0), .int (-1), .int (nI 0)])], [(q_1, ia G 6 (fun _ => 0))], [(q_2, ia G 6 (fun _ => 0))], [(q_3, pa G 6 (nbO (i + 1) nb))], [(q_4, ia G 6 (fun _ => 0))], [(q_5, ia G 6 (fun _ => 0))], [(q_6, ia G 6 (fun _ => 0))], [(q_7, ia G 24 (fun _ => 0))], [(q_8, ia G 6 (fun _ => 0))]])) (by rw [nbO_s]) ?_
        exact ih (i + 1) (by omega) (by omega)
  refine ev_ws (ws' := (List.flatten [[(q, ob 3 [.ref q_1, .ref q_2, .ref q_3, .ref q_4, .ref q_5, .ref q_6, .ref q_7, .ref q_8, .int (nI 0), .int (nI 0), .int (nI 0), .int (nI 0), .ref t, .int (nI 0), .int (-1), .int (nI 0)])], [(q_1, ia G 6 (fun _ => 0))], [(q_2, ia G 6 (fun _ => 0))], [(q_3, pa G 6 (nbO 0 nb))], [(q_4, ia G 6 (fun _ => 0))], [(q_5, ia G 6 (fun _ => 0))], [(q_6, ia G 6 (fun _ => 0))], [(q_7, ia G 24 (fun _ => 0))], [(q_8, ia G 6 (fun _ => 0))]])) (by rw [nbO_0]) ?_
  refine ev_lv [1, 2, 3, 0] rfl ?_
  exact lp_111 (6 - 0 + 1) 0 (by omega) (Nat.lt_succ_self _)

set_option maxHeartbeats 4000000 in
set_option maxRecDepth 100000 in
theorem m_X11_personOf (G : GG) (ro : va_W) (x : Nat) (r1 r2 r3 r4 r5 d b1 b2 b3 : Nat → Nat) (hi : Int32) (k p v : Nat) (hk : k ≤ 6) : Mth G M_X11_personOf 4 1 4 [.ref x, .int (nI k), .int (nI p), .int (nI v)] (SP x r1 r2 r3 r4 r5 d b1 b2 b3 hi) ro (fun r ws' ro' => ∃ (q : Nat), r = some (.ref q) ∧ ws' = (SP x r1 r2 r3 r4 r5 d b1 b2 b3 hi) ∧ Sub ro ro' ∧ PeO ro' (r5 0) q k p v) := by
  refine mth_of (by decide +kernel) (Nat.le_of_ble_eq_true rfl) (fun X hC hR => ?_)
  show Ev G X 1 4 0 [(0, .ref x), (1, .int (nI k)), (2, .int (nI p)), (3, .int (nI v))] [] (SP x r1 r2 r3 r4 r5 d b1 b2 b3 hi) ro
  refine ev_iload_n hC dX11_personOf_0 rfl 1 rfl ?_
  rcases (show k = 0 ∨ k = 1 ∨ k = 2 ∨ k = 3 ∨ k = 4 ∨ k = 5 ∨ k = 6 by omega) with rfl | rfl | rfl | rfl | rfl | rfl | rfl
  · show Ev G X 1 4 1 [(0, .ref x), (1, .int (nI 0)), (2, .int (nI p)), (3, .int (nI v))] [.int (nI 0)] (SP x r1 r2 r3 r4 r5 d b1 b2 b3 hi) ro
    refine ev_tabOut (tgt := 130) hC dX11_personOf_1 (by decide) (by decide) ?_
    refine ev_new hC nw_X11_48 dX11_personOf_130 (by omega) (by omega) (fun q_1 => ?_)
    show Ev G X 0 0 133 [(0, .ref x), (1, .int (nI 0)), (2, .int (nI p)), (3, .int (nI v))] [.ref q_1] (List.flatten [SP x r1 r2 r3 r4 r5 d b1 b2 b3 hi, [(q_1, ob 4 [.int 0, .int 0, .int 0, .null])]]) ro
    refine ev_dup hC dX11_personOf_133 rfl ?_
    refine ev_iload_n hC dX11_personOf_134 rfl 1 rfl ?_
    refine ev_iload_n hC dX11_personOf_135 rfl 2 rfl ?_
    refine ev_iload_n hC dX11_personOf_136 rfl 3 rfl ?_
    refine ev_aload_n hC dX11_personOf_137 rfl 0 rfl ?_
    refine ev_get hC fl_X11_29_11 (mw 0 rfl) rfl dX11_personOf_138 ?_
    refine ev_callI (As := [.int (nI 0), .int (nI p), .int (nI v), .ref (r5 0)]) (st := [.ref q_1]) (wf := (List.flatten [SP x r1 r2 r3 r4 r5 d b1 b2 b3 hi])) hC co_X11_50 (m_X4_init_c4 G ro q_1 0 p v (r5 0)) (by omega) rfl rfl (Nat.le_of_ble_eq_true rfl) (perm_sg (n := 2) [1, 0] rfl rfl (by decide)) dX11_personOf_141 (by omega) (by omega) ?_
    rintro _ _ _ ⟨rfl, rfl, rfl⟩
    show Ev G X 0 0 144 [(0, .ref x), (1, .int (nI 0)), (2, .int (nI p)), (3, .int (nI v))] [.ref q_1] (List.flatten [[(q_1, ob 4 [.int (nI 0), .int (nI p), .int (nI v), .ref (r5 0)])], SP x r1 r2 r3 r4 r5 d b1 b2 b3 hi]) ro
    refine ev_perm (ws' := (List.flatten [SP x r1 r2 r3 r4 r5 d b1 b2 b3 hi, [(q_1, ob 4 [.int (nI 0), .int (nI p), .int (nI v), .ref (r5 0)])]])) (perm_sg2 (n := 2) [1, 0] rfl rfl (by decide)) ?_
    refine ev_freeze (ws' := (SP x r1 r2 r3 r4 r5 d b1 b2 b3 hi)) (wn := [(q_1, ob 4 [.int (nI 0), .int (nI p), .int (nI v), .ref (r5 0)])]) (List.Perm.of_eq rfl) ?_
    refine ev_aret hC hR rfl (by first | exact Or.inl ⟨_, rfl⟩ | exact Or.inr ⟨_, rfl⟩) dX11_personOf_144 ?_
    exact ⟨_, rfl, rfl, ⟨_, rfl⟩, List.mem_append_right _ (List.mem_cons_self ..)⟩
  · show Ev G X 1 4 1 [(0, .ref x), (1, .int (nI 1)), (2, .int (nI p)), (3, .int (nI v))] [.int (nI 1)] (SP x r1 r2 r3 r4 r5 d b1 b2 b3 hi) ro
    refine ev_tabIn (off := 39) (tgt := 40) hC dX11_personOf_1 (by decide) (by decide) (by decide) (by decide) ?_
    refine ev_new hC nw_X11_301 dX11_personOf_40 (by omega) (by omega) (fun q_2 => ?_)
    show Ev G X 0 0 43 [(0, .ref x), (1, .int (nI 1)), (2, .int (nI p)), (3, .int (nI v))] [.ref q_2] (List.flatten [SP x r1 r2 r3 r4 r5 d b1 b2 b3 hi, [(q_2, ob 1 [.int 0, .int 0, .int 0, .null])]]) ro
    refine ev_dup hC dX11_personOf_43 rfl ?_
    refine ev_iload_n hC dX11_personOf_44 rfl 1 rfl ?_
    refine ev_iload_n hC dX11_personOf_45 rfl 2 rfl ?_
    refine ev_iload_n hC dX11_personOf_46 rfl 3 rfl ?_
    refine ev_aload_n hC dX11_personOf_47 rfl 0 rfl ?_
    refine ev_get hC fl_X11_29_11 (mw 0 rfl) rfl dX11_personOf_48 ?_
    refine ev_callI (As := [.int (nI 1), .int (nI p), .int (nI v), .ref (r5 0)]) (st := [.ref q_2]) (wf := (List.flatten [SP x r1 r2 r3 r4 r5 d b1 b2 b3 hi])) hC co_X11_303 (m_X1_init_c1 G ro q_2 1 p v (r5 0)) (by omega) rfl rfl (Nat.le_of_ble_eq_true rfl) (perm_sg (n := 2) [1, 0] rfl rfl (by decide)) dX11_personOf_51 (by omega) (by omega) ?_
    rintro _ _ _ ⟨rfl, rfl, rfl⟩
    show Ev G X 0 0 54 [(0, .ref x), (1, .int (nI 1)), (2, .int (nI p)), (3, .int (nI v))] [.ref q_2] (List.flatten [[(q_2, ob 1 [.int (nI 1), .int (nI p), .int (nI v), .ref (r5 0)])], SP x r1 r2 r3 r4 r5 d b1 b2 b3 hi]) ro
    refine ev_perm (ws' := (List.flatten [SP x r1 r2 r3 r4 r5 d b1 b2 b3 hi, [(q_2, ob 1 [.int (nI 1), .int (nI p), .int (nI v), .ref (r5 0)])]])) (perm_sg2 (n := 2) [1, 0] rfl rfl (by decide)) ?_
    refine ev_freeze (ws' := (SP x r1 r2 r3 r4 r5 d b1 b2 b3 hi)) (wn := [(q_2, ob 1 [.int (nI 1), .int (nI p), .int (nI v), .ref (r5 0)])]) (List.Perm.of_eq rfl) ?_
    refine ev_aret hC hR rfl (by first | exact Or.inl ⟨_, rfl⟩ | exact Or.inr ⟨_, rfl⟩) dX11_personOf_54 ?_
    exact ⟨_, rfl, rfl, ⟨_, rfl⟩, List.mem_append_right _ (List.mem_cons_self ..)⟩
  · show Ev G X 1 4 1 [(0, .ref x), (1, .int (nI 2)), (2, .int (nI p)), (3, .int (nI v))] [.int (nI 2)] (SP x r1 r2 r3 r4 r5 d b1 b2 b3 hi) ro
    refine ev_tabIn (off := 54) (tgt := 55) hC dX11_personOf_1 (by decide) (by decide) (by decide) (by decide) ?_
    refine ev_new hC nw_X11_304 dX11_personOf_55 (by omega) (by omega) (fun q_3 => ?_)
    show Ev G X 0 0 58 [(0, .ref x), (1, .int (nI 2)), (2, .int (nI p)), (3, .int (nI v))] [.ref q_3] (List.flatten [SP x r1 r2 r3 r4 r5 d b1 b2 b3 hi, [(q_3, ob 0 [.int 0, .int 0, .int 0, .null])]]) ro
    refine ev_dup hC dX11_personOf_58 rfl ?_
    refine ev_iload_n hC dX11_personOf_59 rfl 1 rfl ?_
    refine ev_iload_n hC dX11_personOf_60 rfl 2 rfl ?_
    refine ev_iload_n hC dX11_personOf_61 rfl 3 rfl ?_
    refine ev_aload_n hC dX11_personOf_62 rfl 0 rfl ?_
    refine ev_get hC fl_X11_29_11 (mw 0 rfl) rfl dX11_personOf_63 ?_
    refine ev_callI (As := [.int (nI 2), .int (nI p), .int (nI v), .ref (r5 0)]) (st := [.ref q_3]) (wf := (List.flatten [SP x r1 r2 r3 r4 r5 d b1 b2 b3 hi])) hC co_X11_306 (m_X0_init_c0 G ro q_3 2 p v (r5 0)) (by omega) rfl rfl (Nat.le_of_ble_eq_true rfl) (perm_sg (n := 2) [1, 0] rfl rfl (by decide)) dX11_personOf_66 (by omega) (by omega) ?_
    rintro _ _ _ ⟨rfl, rfl, rfl⟩
    show Ev G X 0 0 69 [(0, .ref x), (1, .int (nI 2)), (2, .int (nI p)), (3, .int (nI v))] [.ref q_3] (List.flatten [[(q_3, ob 0 [.int (nI 2), .int (nI p), .int (nI v), .ref (r5 0)])], SP x r1 r2 r3 r4 r5 d b1 b2 b3 hi]) ro
    refine ev_perm (ws' := (List.flatten [SP x r1 r2 r3 r4 r5 d b1 b2 b3 hi, [(q_3, ob 0 [.int (nI 2), .int (nI p), .int (nI v), .ref (r5 0)])]])) (perm_sg2 (n := 2) [1, 0] rfl rfl (by decide)) ?_
    refine ev_freeze (ws' := (SP x r1 r2 r3 r4 r5 d b1 b2 b3 hi)) (wn := [(q_3, ob 0 [.int (nI 2), .int (nI p), .int (nI v), .ref (r5 0)])]) (List.Perm.of_eq rfl) ?_
    refine ev_aret hC hR rfl (by first | exact Or.inl ⟨_, rfl⟩ | exact Or.inr ⟨_, rfl⟩) dX11_personOf_69 ?_
    exact ⟨_, rfl, rfl, ⟨_, rfl⟩, List.mem_append_right _ (List.mem_cons_self ..)⟩
  · show Ev G X 1 4 1 [(0, .ref x), (1, .int (nI 3)), (2, .int (nI p)), (3, .int (nI v))] [.int (nI 3)] (SP x r1 r2 r3 r4 r5 d b1 b2 b3 hi) ro
    refine ev_tabIn (off := 69) (tgt := 70) hC dX11_personOf_1 (by decide) (by decide) (by decide) (by decide) ?_
    refine ev_new hC nw_X11_307 dX11_personOf_70 (by omega) (by omega) (fun q_4 => ?_)
    show Ev G X 0 0 73 [(0, .ref x), (1, .int (nI 3)), (2, .int (nI p)), (3, .int (nI v))] [.ref q_4] (List.flatten [SP x r1 r2 r3 r4 r5 d b1 b2 b3 hi, [(q_4, ob 8 [.int 0, .int 0, .int 0, .null])]]) ro
    refine ev_dup hC dX11_personOf_73 rfl ?_
    refine ev_iload_n hC dX11_personOf_74 rfl 1 rfl ?_
    refine ev_iload_n hC dX11_personOf_75 rfl 2 rfl ?_
    refine ev_iload_n hC dX11_personOf_76 rfl 3 rfl ?_
    refine ev_aload_n hC dX11_personOf_77 rfl 0 rfl ?_
    refine ev_get hC fl_X11_29_11 (mw 0 rfl) rfl dX11_personOf_78 ?_
    refine ev_callI (As := [.int (nI 3), .int (nI p), .int (nI v), .ref (r5 0)]) (st := [.ref q_4]) (wf := (List.flatten [SP x r1 r2 r3 r4 r5 d b1 b2 b3 hi])) hC co_X11_309 (m_X8_init_c8 G ro q_4 3 p v (r5 0)) (by omega) rfl rfl (Nat.le_of_ble_eq_true rfl) (perm_sg (n := 2) [1, 0] rfl rfl (by decide)) dX11_personOf_81 (by omega) (by omega) ?_
    rintro _ _ _ ⟨rfl, rfl, rfl⟩
    show Ev G X 0 0 84 [(0, .ref x), (1, .int (nI 3)), (2, .int (nI p)), (3, .int (nI v))] [.ref q_4] (List.flatten [[(q_4, ob 8 [.int (nI 3), .int (nI p), .int (nI v), .ref (r5 0)])], SP x r1 r2 r3 r4 r5 d b1 b2 b3 hi]) ro
    refine ev_perm (ws' := (List.flatten [SP x r1 r2 r3 r4 r5 d b1 b2 b3 hi, [(q_4, ob 8 [.int (nI 3), .int (nI p), .int (nI v), .ref (r5 0)])]])) (perm_sg2 (n := 2) [1, 0] rfl rfl (by decide)) ?_
    refine ev_freeze (ws' := (SP x r1 r2 r3 r4 r5 d b1 b2 b3 hi)) (wn := [(q_4, ob 8 [.int (nI 3), .int (nI p), .int (nI v), .ref (r5 0)])]) (List.Perm.of_eq rfl) ?_
    refine ev_aret hC hR rfl (by first | exact Or.inl ⟨_, rfl⟩ | exact Or.inr ⟨_, rfl⟩) dX11_personOf_84 ?_
    exact ⟨_, rfl, rfl, ⟨_, rfl⟩, List.mem_append_right _ (List.mem_cons_self ..)⟩
  · show Ev G X 1 4 1 [(0, .ref x), (1, .int (nI 4)), (2, .int (nI p)), (3, .int (nI v))] [.int (nI 4)] (SP x r1 r2 r3 r4 r5 d b1 b2 b3 hi) ro
    refine ev_tabIn (off := 84) (tgt := 85) hC dX11_personOf_1 (by decide) (by decide) (by decide) (by decide) ?_
    refine ev_new hC nw_X11_310 dX11_personOf_85 (by omega) (by omega) (fun q_5 => ?_)
    show Ev G X 0 0 88 [(0, .ref x), (1, .int (nI 4)), (2, .int (nI p)), (3, .int (nI v))] [.ref q_5] (List.flatten [SP x r1 r2 r3 r4 r5 d b1 b2 b3 hi, [(q_5, ob 2 [.int 0, .int 0, .int 0, .null])]]) ro
    refine ev_dup hC dX11_personOf_88 rfl ?_
    refine ev_iload_n hC dX11_personOf_89 rfl 1 rfl ?_
    refine ev_iload_n hC dX11_personOf_90 rfl 2 rfl ?_
    refine ev_iload_n hC dX11_personOf_91 rfl 3 rfl ?_
    refine ev_aload_n hC dX11_personOf_92 rfl 0 rfl ?_
    refine ev_get hC fl_X11_29_11 (mw 0 rfl) rfl dX11_personOf_93 ?_
    refine ev_callI (As := [.int (nI 4), .int (nI p), .int (nI v), .ref (r5 0)]) (st := [.ref q_5]) (wf := (List.flatten [SP x r1 r2 r3 r4 r5 d b1 b2 b3 hi])) hC co_X11_312 (m_X2_init_c2 G ro q_5 4 p v (r5 0)) (by omega) rfl rfl (Nat.le_of_ble_eq_true rfl) (perm_sg (n := 2) [1, 0] rfl rfl (by decide)) dX11_personOf_96 (by omega) (by omega) ?_
    rintro _ _ _ ⟨rfl, rfl, rfl⟩
    show Ev G X 0 0 99 [(0, .ref x), (1, .int (nI 4)), (2, .int (nI p)), (3, .int (nI v))] [.ref q_5] (List.flatten [[(q_5, ob 2 [.int (nI 4), .int (nI p), .int (nI v), .ref (r5 0)])], SP x r1 r2 r3 r4 r5 d b1 b2 b3 hi]) ro
    refine ev_perm (ws' := (List.flatten [SP x r1 r2 r3 r4 r5 d b1 b2 b3 hi, [(q_5, ob 2 [.int (nI 4), .int (nI p), .int (nI v), .ref (r5 0)])]])) (perm_sg2 (n := 2) [1, 0] rfl rfl (by decide)) ?_
    refine ev_freeze (ws' := (SP x r1 r2 r3 r4 r5 d b1 b2 b3 hi)) (wn := [(q_5, ob 2 [.int (nI 4), .int (nI p), .int (nI v), .ref (r5 0)])]) (List.Perm.of_eq rfl) ?_
    refine ev_aret hC hR rfl (by first | exact Or.inl ⟨_, rfl⟩ | exact Or.inr ⟨_, rfl⟩) dX11_personOf_99 ?_
    exact ⟨_, rfl, rfl, ⟨_, rfl⟩, List.mem_append_right _ (List.mem_cons_self ..)⟩
  · show Ev G X 1 4 1 [(0, .ref x), (1, .int (nI 5)), (2, .int (nI p)), (3, .int (nI v))] [.int (nI 5)] (SP x r1 r2 r3 r4 r5 d b1 b2 b3 hi) ro
    refine ev_tabIn (off := 99) (tgt := 100) hC dX11_personOf_1 (by decide) (by decide) (by decide) (by decide) ?_
    refine ev_new hC nw_X11_313 dX11_personOf_100 (by omega) (by omega) (fun q_6 => ?_)
    show Ev G X 0 0 103 [(0, .ref x), (1, .int (nI 5)), (2, .int (nI p)), (3, .int (nI v))] [.ref q_6] (List.flatten [SP x r1 r2 r3 r4 r5 d b1 b2 b3 hi, [(q_6, ob 5 [.int 0, .int 0, .int 0, .null])]]) ro
    refine ev_dup hC dX11_personOf_103 rfl ?_
    refine ev_iload_n hC dX11_personOf_104 rfl 1 rfl ?_
    refine ev_iload_n hC dX11_personOf_105 rfl 2 rfl ?_
    refine ev_iload_n hC dX11_personOf_106 rfl 3 rfl ?_
    refine ev_aload_n hC dX11_personOf_107 rfl 0 rfl ?_
    refine ev_get hC fl_X11_29_11 (mw 0 rfl) rfl dX11_personOf_108 ?_
    refine ev_callI (As := [.int (nI 5), .int (nI p), .int (nI v), .ref (r5 0)]) (st := [.ref q_6]) (wf := (List.flatten [SP x r1 r2 r3 r4 r5 d b1 b2 b3 hi])) hC co_X11_315 (m_X5_init_c5 G ro q_6 5 p v (r5 0)) (by omega) rfl rfl (Nat.le_of_ble_eq_true rfl) (perm_sg (n := 2) [1, 0] rfl rfl (by decide)) dX11_personOf_111 (by omega) (by omega) ?_
    rintro _ _ _ ⟨rfl, rfl, rfl⟩
    show Ev G X 0 0 114 [(0, .ref x), (1, .int (nI 5)), (2, .int (nI p)), (3, .int (nI v))] [.ref q_6] (List.flatten [[(q_6, ob 5 [.int (nI 5), .int (nI p), .int (nI v), .ref (r5 0)])], SP x r1 r2 r3 r4 r5 d b1 b2 b3 hi]) ro
    refine ev_perm (ws' := (List.flatten [SP x r1 r2 r3 r4 r5 d b1 b2 b3 hi, [(q_6, ob 5 [.int (nI 5), .int (nI p), .int (nI v), .ref (r5 0)])]])) (perm_sg2 (n := 2) [1, 0] rfl rfl (by decide)) ?_
    refine ev_freeze (ws' := (SP x r1 r2 r3 r4 r5 d b1 b2 b3 hi)) (wn := [(q_6, ob 5 [.int (nI 5), .int (nI p), .int (nI v), .ref (r5 0)])]) (List.Perm.of_eq rfl) ?_
    refine ev_aret hC hR rfl (by first | exact Or.inl ⟨_, rfl⟩ | exact Or.inr ⟨_, rfl⟩) dX11_personOf_114 ?_
    exact ⟨_, rfl, rfl, ⟨_, rfl⟩, List.mem_append_right _ (List.mem_cons_self ..)⟩
  · show Ev G X 1 4 1 [(0, .ref x), (1, .int (nI 6)), (2, .int (nI p)), (3, .int (nI v))] [.int (nI 6)] (SP x r1 r2 r3 r4 r5 d b1 b2 b3 hi) ro
    refine ev_tabIn (off := 114) (tgt := 115) hC dX11_personOf_1 (by decide) (by decide) (by decide) (by decide) ?_
    refine ev_new hC nw_X11_316 dX11_personOf_115 (by omega) (by omega) (fun q_7 => ?_)
    show Ev G X 0 0 118 [(0, .ref x), (1, .int (nI 6)), (2, .int (nI p)), (3, .int (nI v))] [.ref q_7] (List.flatten [SP x r1 r2 r3 r4 r5 d b1 b2 b3 hi, [(q_7, ob 9 [.int 0, .int 0, .int 0, .null])]]) ro
    refine ev_dup hC dX11_personOf_118 rfl ?_
    refine ev_iload_n hC dX11_personOf_119 rfl 1 rfl ?_
    refine ev_iload_n hC dX11_personOf_120 rfl 2 rfl ?_
    refine ev_iload_n hC dX11_personOf_121 rfl 3 rfl ?_
    refine ev_aload_n hC dX11_personOf_122 rfl 0 rfl ?_
    refine ev_get hC fl_X11_29_11 (mw 0 rfl) rfl dX11_personOf_123 ?_
    refine ev_callI (As := [.int (nI 6), .int (nI p), .int (nI v), .ref (r5 0)]) (st := [.ref q_7]) (wf := (List.flatten [SP x r1 r2 r3 r4 r5 d b1 b2 b3 hi])) hC co_X11_318 (m_X9_init_c9 G ro q_7 6 p v (r5 0)) (by omega) rfl rfl (Nat.le_of_ble_eq_true rfl) (perm_sg (n := 2) [1, 0] rfl rfl (by decide)) dX11_personOf_126 (by omega) (by omega) ?_
    rintro _ _ _ ⟨rfl, rfl, rfl⟩
    show Ev G X 0 0 129 [(0, .ref x), (1, .int (nI 6)), (2, .int (nI p)), (3, .int (nI v))] [.ref q_7] (List.flatten [[(q_7, ob 9 [.int (nI 6), .int (nI p), .int (nI v), .ref (r5 0)])], SP x r1 r2 r3 r4 r5 d b1 b2 b3 hi]) ro
    refine ev_perm (ws' := (List.flatten [SP x r1 r2 r3 r4 r5 d b1 b2 b3 hi, [(q_7, ob 9 [.int (nI 6), .int (nI p), .int (nI v), .ref (r5 0)])]])) (perm_sg2 (n := 2) [1, 0] rfl rfl (by decide)) ?_
    refine ev_freeze (ws' := (SP x r1 r2 r3 r4 r5 d b1 b2 b3 hi)) (wn := [(q_7, ob 9 [.int (nI 6), .int (nI p), .int (nI v), .ref (r5 0)])]) (List.Perm.of_eq rfl) ?_
    refine ev_aret hC hR rfl (by first | exact Or.inl ⟨_, rfl⟩ | exact Or.inr ⟨_, rfl⟩) dX11_personOf_129 ?_
    exact ⟨_, rfl, rfl, ⟨_, rfl⟩, List.mem_append_right _ (List.mem_cons_self ..)⟩
