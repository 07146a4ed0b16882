set_option maxHeartbeats 4000000 in
set_option maxRecDepth 100000 in
theorem m_X12_goes (G : GG) (ro : va_W) (a : Nat → Nat) (S I F B T R K D : Nat → Int32) (hI ac sp en iw op mu rd ra ki nu tv : Int32) {DD EE : Nat} (hW : WF S DD EE) (hD : DD + 1 < 2 ^ 31) (hE : EE + 168 < 2 ^ 31) : Mth G M_X12_goes 3 0 0 [.ref (a 0)] (MW G a S I F B T R K D hI ac sp en iw op mu rd ra ki nu tv) ro (fun r ws' ro' => ∃ (B' : Nat → Int32), ∃ (T' : Nat → Int32), ∃ (R' : Nat → Int32), ∃ (K' : Nat → Int32), r = none ∧ ws' = (MW G a (goF mu S) I F B' T' R' K' D hI ac sp en iw op mu (rsF (alF mu S) rd 6) ra ki nu tv) ∧ ro = ro' ∧ ∀ k, k < 6 → K' k = taF mu (g1F S (sn S 32)) (sn S 32) k) := by
  refine mth_of (by decide +kernel) (Nat.le_of_ble_eq_true rfl) (fun X hC hR => ?_)
  have b32 := hW.peo.le
  have b33 := hW.tre.le
  have b34 := hW.seen.le
  have b35 := hW.plan.le
  have b36 := hW.book.le
  have b37 := hW.tape.le
  show Ev G X 0 0 0 [(0, .ref (a 0))] [] (MW G a S I F B T R K D hI ac sp en iw op mu rd ra ki nu tv) ro
  refine ev_iconst (v := (nI 0)) hC dX12_goes_0 (by decide) ?_
  refine ev_istore_n (lv' := [(1, .int (nI 0)), (0, .ref (a 0))]) hC dX12_goes_1 rfl (by decide) rfl ?_
  have lp_2 : ∀ (n : Nat) (i : Nat) (B' : Nat → Int32) (T' : Nat → Int32) (R' : Nat → Int32) (hi : i ≤ sn S 32) (hR1 : ∀ k, k < i → R' k = risF S k) (hn : sn S 32 - i < n), Ev G X 0 0 2 [(0, .ref (a 0)), (1, .int (nI i))] [] (MW G a S I F B' T' R' K D hI ac sp en iw op mu rd ra ki nu tv) ro := by
    intro n
    induction n with
    | zero => intro i B' T' R' hi hR1 hn; exact absurd hn (Nat.not_lt_zero _)
    | succ n ih =>
      intro i B' T' R' hi hR1 hn
      refine ev_iload_n hC dX12_goes_2 rfl 1 rfl ?_
      refine ev_aload_n hC dX12_goes_3 rfl 0 rfl ?_
      refine ev_get hC fl_X12_9_12 (mw 0 rfl) rfl dX12_goes_4 ?_
      refine ev_bipush (v := (nI 32)) hC dX12_goes_7 (by decide) ?_
      refine ev_ialdN (i := 32) hC (mw 1 rfl) (by omega) (by omega) dX12_goes_9 ?_
      have bk_1 : NB S 32 _ := hW.peo
      have k_1 := bk_1.eq
      have lk_1 := bk_1.le
      have mk_1 := bk_1.lt
      refine ev_top (y := (nI (sn S 32))) k_1 ?_
      refine ev_icmp_geN (tgt := 30) hC dX12_goes_10 (by decide) (by omega) (by omega) (fun c_2 => ?_) (fun c_2 => ?_)
      · refine ev_iconst (v := (nI 0)) hC dX12_goes_30 (by decide) ?_
        refine ev_istore_n (lv' := [(1, .int (nI 0)), (0, .ref (a 0))]) hC dX12_goes_31 rfl (by decide) rfl ?_
        have lp_32 : ∀ (n : Nat) (i2 : Nat) (hi2x : i2 ≤ sn S 32) (hn : sn S 32 - i2 < n), Ev G X 0 0 32 [(0, .ref (a 0)), (1, .int (nI i2))] [] (MW G a (g1F S i2) I F B' T' R' K D hI ac sp en iw op mu rd ra ki nu tv) ro := by
          intro n
          induction n with
          | zero => intro i2 hi2x hn; exact absurd hn (Nat.not_lt_zero _)
          | succ n ih =>
            intro i2 hi2x hn
            have hp1 : g1F S i2 32 = nI (sn S 32) := (g1F_hi S (by omega) 32 (by omega)).trans hW.peo.eq
            have hR2 := hR1 i2
            have hg2 : g1F S i2 (20 + i2) = S (20 + i2) := if_neg (by omega)
            refine ev_iload_n hC dX12_goes_32 rfl 1 rfl ?_
            refine ev_aload_n hC dX12_goes_33 rfl 0 rfl ?_
            refine ev_get hC fl_X12_9_12 (mw 0 rfl) rfl dX12_goes_34 ?_
            refine ev_bipush (v := (nI 32)) hC dX12_goes_37 (by decide) ?_
            refine ev_ialdN (i := 32) hC (mw 1 rfl) (by omega) (by omega) dX12_goes_39 ?_
            refine ev_top (y := (nI (sn S 32))) hp1 ?_
            refine ev_icmp_geN (tgt := 80) hC dX12_goes_40 (by decide) (by omega) (by omega) (fun c_3 => ?_) (fun c_3 => ?_)
            · obtain rfl : i2 = sn S 32 := by omega
              refine ev_iconst (v := (nI 0)) hC dX12_goes_80 (by decide) ?_
              refine ev_istore_n (lv' := [(1, .int (nI 0)), (0, .ref (a 0))]) hC dX12_goes_81 rfl (by decide) rfl ?_
              have lp_82 : ∀ (n : Nat) (k0 : Nat) (K' : Nat → Int32) (hk0 : k0 ≤ 6) (hK0 : ∀ k, k < k0 → K' k = nI 0) (hn : 6 - k0 < n), Ev G X 0 0 82 [(0, .ref (a 0)), (1, .int (nI k0))] [] (MW G a (g1F S (sn S 32)) I F B' T' R' K' D hI ac sp en iw op mu rd ra ki nu tv) ro := by
                intro n
                induction n with
                | zero => intro k0 K' hk0 hK0 hn; exact absurd hn (Nat.not_lt_zero _)
                | succ n ih =>
                  intro k0 K' hk0 hK0 hn
                  refine ev_iload_n hC dX12_goes_82 rfl 1 rfl ?_
                  refine ev_bipush (v := (nI 6)) hC dX12_goes_83 (by decide) ?_
                  refine ev_icmp_geN (tgt := 101) hC dX12_goes_85 (by decide) (by omega) (by omega) (fun c_4 => ?_) (fun c_4 => ?_)
                  · refine ev_iconst (v := (nI 0)) hC dX12_goes_101 (by decide) ?_
                    refine ev_istore_n (lv' := [(1, .int (nI 0)), (0, .ref (a 0))]) hC dX12_goes_102 rfl (by decide) rfl ?_
                    have lp_103 : ∀ (n : Nat) (i : Nat) (S2 : Nat → Int32) (K2 : Nat → Int32) (hi : i ≤ sn S 32) (hS2 : S2 = lkF mu (g1F S (sn S 32)) i) (hK2 : ∀ k, k < 6 → K2 k = taF mu (g1F S (sn S 32)) i k) (hn : sn S 32 - i < n), Ev G X 0 0 103 [(0, .ref (a 0)), (1, .int (nI i))] [] (MW G a S2 I F B' T' R' K2 D hI ac sp en iw op mu rd ra ki nu tv) ro := by
                      intro n
                      induction n with
                      | zero => intro i S2 K2 hi hS2 hK2 hn; exact absurd hn (Nat.not_lt_zero _)
                      | succ n ih =>
                        intro i S2 K2 hi hS2 hK2 hn
                        obtain ⟨hW2, hi2⟩ : WF S2 DD (EE + 168) ∧ Hi S S2 := by
                          obtain ⟨x1, x2⟩ := lkF_wf mu (g1F_wf hW b32) i (by omega) (by omega)
                          rw [hS2]
                          exact ⟨x1.mono (Nat.le_refl _) (by omega) hW.day.1 (by omega), (g1F_hi S b32).tr x2⟩
                        have hpeo2 : S2 32 = nI (sn S 32) := (hi2 32 (by omega)).trans hW.peo.eq
                        refine ev_iload_n hC dX12_goes_103 rfl 1 rfl ?_
                        refine ev_aload_n hC dX12_goes_104 rfl 0 rfl ?_
                        refine ev_get hC fl_X12_9_12 (mw 0 rfl) rfl dX12_goes_105 ?_
                        refine ev_bipush (v := (nI 32)) hC dX12_goes_108 (by decide) ?_
                        refine ev_ialdN (i := 32) hC (mw 1 rfl) (by omega) (by omega) dX12_goes_110 ?_
                        refine ev_top (y := (nI (sn S 32))) hpeo2 ?_
                        refine ev_icmp_geN (tgt := 201) hC dX12_goes_111 (by decide) (by omega) (by omega) (fun c_5 => ?_) (fun c_5 => ?_)
                        · refine ev_iconst (v := (nI 0)) hC dX12_goes_201 (by decide) ?_
                          refine ev_istore_n (lv' := [(1, .int (nI 0)), (0, .ref (a 0))]) hC dX12_goes_202 rfl (by decide) rfl ?_
                          obtain rfl : i = sn S 32 := by omega
                          have hal : S2 = alF mu S := hS2
                          have lp_203 : ∀ (n : Nat) (r : Nat) (hr : r ≤ 6) (hn : 6 - r < n), Ev G X 0 0 203 [(0, .ref (a 0)), (1, .int (nI r))] [] (MW G a (rnF S2 r) I F B' T' R' K2 D hI ac sp en iw op mu (rsF S2 rd r) ra ki nu tv) ro := by
                            intro n
                            induction n with
                            | zero => intro r hr hn; exact absurd hn (Nat.not_lt_zero _)
                            | succ n ih =>
                              intro r hr hn
                              refine ev_iload_n hC dX12_goes_203 rfl 1 rfl ?_
                              refine ev_bipush (v := (nI 6)) hC dX12_goes_204 (by decide) ?_
                              refine ev_icmp_geN (tgt := 220) hC dX12_goes_206 (by decide) (by omega) (by omega) (fun c_6 => ?_) (fun c_6 => ?_)
                              · obtain rfl : r = 6 := by omega
                                have rn61 : rnF S2 6 0 = S2 0 := if_neg (by omega)
                                refine ev_aload_n hC dX12_goes_220 rfl 0 rfl ?_
                                refine ev_get hC fl_X12_9_12 (mw 0 rfl) rfl dX12_goes_221 ?_
                                refine ev_iconst (v := (nI 1)) hC dX12_goes_224 (by decide) ?_
                                refine ev_aload_n hC dX12_goes_225 rfl 0 rfl ?_
                                refine ev_iconst (v := (nI 2)) hC dX12_goes_226 (by decide) ?_
                                refine ev_callV (As := [.int (nI 2)]) (st := [.int (nI 1), .ref (a 1)]) (wf := []) hC cv_X12_159 (m_X12_sumOf G ro a (rnF S2 6) I F B' T' R' K2 D hI ac sp en iw op mu (rsF S2 rd 6) ra ki nu tv 2 (by omega)) (by decide) rfl rfl (Nat.le_of_ble_eq_true rfl) (List.Perm.of_eq (List.append_nil _).symm) (mw 0 rfl) rfl dX12_goes_227 (by decide) (by decide) ?_
                                rintro _ _ _ ⟨rfl, rfl, rfl⟩
                                refine ev_ws (List.append_nil _) ?_
                                show Ev G X 0 0 230 [(0, .ref (a 0)), (1, .int (nI 6))] [.int (sum6 (rnF S2 6) 2), .int (nI 1), .ref (a 1)] (MW G a (rnF S2 6) I F B' T' R' K2 D hI ac sp en iw op mu (rsF S2 rd 6) ra ki nu tv) ro
                                refine ev_if_ne (tgt := 237) hC dX12_goes_230 (by decide) (fun c_7 => ?_) (fun c_7 => ?_)
                                · refine ev_aload_n hC dX12_goes_237 rfl 0 rfl ?_
                                  refine ev_get hC fl_X12_9_12 (mw 0 rfl) rfl dX12_goes_238 ?_
                                  refine ev_iconst (v := (nI 1)) hC dX12_goes_241 (by decide) ?_
                                  refine ev_ialdN (i := 1) hC (mw 1 rfl) (by omega) (by omega) dX12_goes_242 ?_
                                  refine ev_iastN (i := 1) (ws' := (MW G a (upd (rnF S2 6) 1 ((rnF S2 6) 1)) I F B' T' R' K2 D hI ac sp en iw op mu (rsF S2 rd 6) ra ki nu tv)) (q0 := 1) hC rfl (by omega) (by omega) rfl dX12_goes_243 ?_
                                  refine ev_aload_n hC dX12_goes_244 rfl 0 rfl ?_
                                  refine ev_get hC fl_X12_9_12 (mw 0 rfl) rfl dX12_goes_245 ?_
                                  refine ev_iconst (v := (nI 0)) hC dX12_goes_248 (by decide) ?_
                                  refine ev_dup2 hC dX12_goes_249 rfl rfl ?_
                                  refine ev_ialdN (i := 0) hC (mw 1 rfl) (by omega) (by omega) dX12_goes_250 ?_
                                  refine ev_top (y := ((rnF S2 6) 0)) (if_neg (by omega)) ?_
                                  refine ev_iconst (v := (nI 1)) hC dX12_goes_251 (by decide) ?_
                                  refine ev_iadd hC dX12_goes_252 ?_
                                  refine ev_iastN (i := 0) (ws' := (MW G a (upd (upd (rnF S2 6) 1 ((rnF S2 6) 1)) 0 (((rnF S2 6) 0) + (nI 1))) I F B' T' R' K2 D hI ac sp en iw op mu (rsF S2 rd 6) ra ki nu tv)) (q0 := 1) hC rfl (by omega) (by omega) rfl dX12_goes_253 ?_
                                  refine ev_vret hC hR rfl dX12_goes_254 ?_
                                  exact ⟨_, _, _, _, rfl, by rw [show goF mu S = (upd (upd (rnF S2 6) 1 ((rnF S2 6) 1)) 0 (((rnF S2 6) 0) + (nI 1))) from by rw [goF, ← hal, wdF]; clear hal hS2 hK2 hK0 hR1 hR2; simp only [*, if_true, if_false], show rsF (alF mu S) rd 6 = rsF S2 rd 6 by rw [hal]], rfl, hK2⟩
                                · refine ev_iconst (v := (nI 1)) hC dX12_goes_233 (by decide) ?_
                                  refine ev_goto (tgt := 243) hC dX12_goes_234 (by decide) ?_
                                  refine ev_iastN (i := 1) (ws' := (MW G a (upd (rnF S2 6) 1 (nI 1)) I F B' T' R' K2 D hI ac sp en iw op mu (rsF S2 rd 6) ra ki nu tv)) (q0 := 1) hC rfl (by omega) (by omega) rfl dX12_goes_243 ?_
                                  refine ev_aload_n hC dX12_goes_244 rfl 0 rfl ?_
                                  refine ev_get hC fl_X12_9_12 (mw 0 rfl) rfl dX12_goes_245 ?_
                                  refine ev_iconst (v := (nI 0)) hC dX12_goes_248 (by decide) ?_
                                  refine ev_dup2 hC dX12_goes_249 rfl rfl ?_
                                  refine ev_ialdN (i := 0) hC (mw 1 rfl) (by omega) (by omega) dX12_goes_250 ?_
                                  refine ev_top (y := ((rnF S2 6) 0)) (if_neg (by omega)) ?_
                                  refine ev_iconst (v := (nI 1)) hC dX12_goes_251 (by decide) ?_
                                  refine ev_iadd hC dX12_goes_252 ?_
                                  refine ev_iastN (i := 0) (ws' := (MW G a (upd (upd (rnF S2 6) 1 (nI 1)) 0 (((rnF S2 6) 0) + (nI 1))) I F B' T' R' K2 D hI ac sp en iw op mu (rsF S2 rd 6) ra ki nu tv)) (q0 := 1) hC rfl (by omega) (by omega) rfl dX12_goes_253 ?_
                                  refine ev_vret hC hR rfl dX12_goes_254 ?_
                                  exact ⟨_, _, _, _, rfl, by rw [show goF mu S = (upd (upd (rnF S2 6) 1 (nI 1)) 0 (((rnF S2 6) 0) + (nI 1))) from by rw [goF, ← hal, wdF]; clear hal hS2 hK2 hK0 hR1 hR2; simp only [*, if_true, if_false], show rsF (alF mu S) rd 6 = rsF S2 rd 6 by rw [hal]], rfl, hK2⟩
                              · refine ev_aload_n hC dX12_goes_209 rfl 0 rfl ?_
                                refine ev_iload_n hC dX12_goes_210 rfl 1 rfl ?_
                                refine ev_callV (As := [.int (nI r)]) (st := []) (wf := []) hC cv_X12_175 (m_X12_rainsOn G ro a (rnF S2 r) I F B' T' R' K2 D hI ac sp en iw op mu (rsF S2 rd r) ra ki nu tv r (by omega) ((rnF_wf hW2 (by omega)).2.hold hW2.hold)) (by decide) rfl rfl (Nat.le_of_ble_eq_true rfl) (List.Perm.of_eq (List.append_nil _).symm) (mw 0 rfl) rfl dX12_goes_211 (by decide) (by decide) ?_
                                rintro _ _ _ ⟨rfl, rfl, rfl⟩
                                refine ev_ws (List.append_nil _) ?_
                                show Ev G X 0 0 214 [(0, .ref (a 0)), (1, .int (nI r))] [] (MW G a (upd (rnF S2 r) (2 + r) ((rnF S2 r) (2 + r) - rn1 (rnF S2 r) r)) I F B' T' R' K2 D hI ac sp en iw op mu ((rsF S2 rd r) + rn1 (rnF S2 r) r) ra ki nu tv) ro
                                refine ev_iinc (v := (nI (r + 1))) (lv' := [(1, .int (nI (r + 1))), (0, .ref (a 0))]) hC dX12_goes_214 (q := 1) rfl (nI_k _ _ 1 (by decide)) (by decide) rfl ?_
                                refine ev_goto (tgt := 203) hC dX12_goes_217 (by decide) ?_
                                refine ev_lv [1, 0] rfl ?_
                                refine ev_ws (ws' := (MW G a (rnF S2 (r + 1)) I F B' T' R' K2 D hI ac sp en iw op mu (rsF S2 rd (r + 1)) ra ki nu tv)) (by rw [rnF_s (by omega), rn1_rnF (by omega)]; rfl) ?_
                                exact ih (r + 1) (by omega) (by omega)
                          refine ev_ws (ws' := (MW G a (rnF S2 0) I F B' T' R' K2 D hI ac sp en iw op mu (rsF S2 rd 0) ra ki nu tv)) (by rw [rnF_0]; rfl) ?_
                          refine ev_lv [1, 0] rfl ?_
                          exact lp_203 (6 - 0 + 1) 0 (by omega) (Nat.lt_succ_self _)
                        · refine ev_iload_n hC dX12_goes_114 rfl 1 rfl ?_
                          refine ev_aload_n hC dX12_goes_115 rfl 0 rfl ?_
                          refine ev_get hC fl_X12_28_12 (mw 0 rfl) rfl dX12_goes_116 ?_
                          refine ev_icmp_ne (tgt := 126) hC dX12_goes_119 (by decide) (fun c_8 => ?_) (fun c_8 => ?_)
                          · refine ev_aload_n hC dX12_goes_126 rfl 0 rfl ?_
                            refine ev_iload_n hC dX12_goes_127 rfl 1 rfl ?_
                            refine ev_callV (As := [.int (nI i)]) (st := []) (wf := []) hC cv_X12_153 (m_X12_takesOf G ro a S2 I F B' T' R' K2 D hI ac sp en iw op mu rd ra ki nu tv i (by omega) hW2) (by decide) rfl rfl (Nat.le_of_ble_eq_true rfl) (List.Perm.of_eq (List.append_nil _).symm) (mw 0 rfl) rfl dX12_goes_128 (by decide) (by decide) ?_
                            rintro _ _ _ ⟨rfl, rfl, rfl⟩
                            refine ev_ws (List.append_nil _) ?_
                            show Ev G X 0 0 131 [(0, .ref (a 0)), (1, .int (nI i))] [.int (takF S2 i)] (MW G a S2 I F B' T' R' K2 D hI ac sp en iw op mu rd ra ki nu tv) ro
                            obtain ⟨n1, n2, n3⟩ := need_eq hW2
                            have hnd : ¬ needF S2 = 0 := by rw [n1]; exact nI_ne0 (by omega) (by omega)
                            refine ev_istore_n (lv' := [(2, .int (takF S2 i)), (0, .ref (a 0)), (1, .int (nI i))]) hC dX12_goes_131 rfl (by decide) rfl ?_
                            refine ev_aload_n hC dX12_goes_132 rfl 1 rfl ?_
                            refine ev_get hC fl_X12_9_12 (mw 0 rfl) rfl dX12_goes_133 ?_
                            refine ev_bipush (v := (nI 14)) hC dX12_goes_136 (by decide) ?_
                            refine ev_iload_n hC dX12_goes_138 rfl 2 rfl ?_
                            refine ev_iadd hC dX12_goes_139 ?_
                            refine ev_top (y := (nI (14 + i))) ((nI_add _ _).trans (congrArg nI (by omega))) ?_
                            refine ev_ialdN (i := 14 + i) hC (mw 1 rfl) (by omega) (by omega) dX12_goes_140 ?_
                            have bk_9 : NB S2 (14 + i) _ := (hW2.side i (by omega))
                            have k_9 := bk_9.eq
                            have lk_9 := bk_9.le
                            have mk_9 := bk_9.lt
                            refine ev_top (y := (nI (sn S2 (14 + i)))) k_9 ?_
                            refine ev_istore_n (lv' := [(3, .int (nI (sn S2 (14 + i)))), (2, .int (takF S2 i)), (0, .ref (a 0)), (1, .int (nI i))]) hC dX12_goes_141 rfl (by decide) rfl ?_
                            refine ev_aload_n hC dX12_goes_142 rfl 2 rfl ?_
                            refine ev_get hC fl_X12_9_12 (mw 0 rfl) rfl dX12_goes_143 ?_
                            refine ev_iconst (v := (nI 2)) hC dX12_goes_146 (by decide) ?_
                            refine ev_iload_n hC dX12_goes_147 rfl 0 rfl ?_
                            refine ev_iadd hC dX12_goes_148 ?_
                            refine ev_top (y := (nI (2 + (sn S2 (14 + i))))) ((nI_add _ _).trans (congrArg nI (by omega))) ?_
                            refine ev_dup2 hC dX12_goes_149 rfl rfl ?_
                            refine ev_ialdN (i := 2 + (sn S2 (14 + i))) hC (mw 1 rfl) (by omega) (by omega) dX12_goes_150 ?_
                            refine ev_iload_n hC dX12_goes_151 rfl 1 rfl ?_
                            refine ev_isub hC dX12_goes_152 ?_
                            refine ev_iastN (i := 2 + (sn S2 (14 + i))) (ws' := (MW G a (upd S2 (2 + (sn S2 (14 + i))) ((S2 (2 + (sn S2 (14 + i)))) - (takF S2 i))) I F B' T' R' K2 D hI ac sp en iw op mu rd ra ki nu tv)) (q0 := 1) hC rfl (by omega) (by omega) rfl dX12_goes_153 ?_
                            refine ev_aload_n hC dX12_goes_154 rfl 2 rfl ?_
                            refine ev_get hC fl_X12_9_12 (mw 0 rfl) rfl dX12_goes_155 ?_
                            refine ev_bipush (v := (nI 26)) hC dX12_goes_158 (by decide) ?_
                            refine ev_iload_n hC dX12_goes_160 rfl 3 rfl ?_
                            refine ev_iadd hC dX12_goes_161 ?_
                            refine ev_top (y := (nI (26 + i))) ((nI_add _ _).trans (congrArg nI (by omega))) ?_
                            refine ev_dup2 hC dX12_goes_162 rfl rfl ?_
                            refine ev_ialdN (i := 26 + i) hC (mw 1 rfl) (by omega) (by omega) dX12_goes_163 ?_
                            refine ev_top (y := (S2 (26 + i))) (if_neg (by omega)) ?_
                            refine ev_iload_n hC dX12_goes_164 rfl 1 rfl ?_
                            refine ev_iadd hC dX12_goes_165 ?_
                            refine ev_iastN (i := 26 + i) (ws' := (MW G a (upd (upd S2 (2 + (sn S2 (14 + i))) ((S2 (2 + (sn S2 (14 + i)))) - (takF S2 i))) (26 + i) ((S2 (26 + i)) + (takF S2 i))) I F B' T' R' K2 D hI ac sp en iw op mu rd ra ki nu tv)) (q0 := 1) hC rfl (by omega) (by omega) rfl dX12_goes_166 ?_
                            refine ev_aload_n hC dX12_goes_167 rfl 2 rfl ?_
                            refine ev_get hC fl_X12_9_12 (mw 0 rfl) rfl dX12_goes_168 ?_
                            refine ev_bipush (v := (nI 20)) hC dX12_goes_171 (by decide) ?_
                            refine ev_iload_n hC dX12_goes_173 rfl 3 rfl ?_
                            refine ev_iadd hC dX12_goes_174 ?_
                            refine ev_top (y := (nI (20 + i))) ((nI_add _ _).trans (congrArg nI (by omega))) ?_
                            refine ev_dup2 hC dX12_goes_175 rfl rfl ?_
                            refine ev_ialdN (i := 20 + i) hC (mw 1 rfl) (by omega) (by omega) dX12_goes_176 ?_
                            refine ev_top (y := ((upd S2 (2 + (sn S2 (14 + i))) ((S2 (2 + (sn S2 (14 + i)))) - (takF S2 i))) (20 + i))) (if_neg (by omega)) ?_
                            refine ev_top (y := (S2 (20 + i))) (if_neg (by omega)) ?_
                            refine ev_iload_n hC dX12_goes_177 rfl 1 rfl ?_
                            refine ev_aload_n hC dX12_goes_178 rfl 2 rfl ?_
                            refine ev_callV (As := []) (st := [.int (takF S2 i), .int (S2 (20 + i)), .int (nI (20 + i)), .ref (a 1)]) (wf := []) hC cv_X12_137 (m_X12_needNow G ro a (upd (upd S2 (2 + (sn S2 (14 + i))) ((S2 (2 + (sn S2 (14 + i)))) - (takF S2 i))) (26 + i) ((S2 (26 + i)) + (takF S2 i))) I F B' T' R' K2 D hI ac sp en iw op mu rd ra ki nu tv  (Hi.hold ((Hi.rf.upd (by omega) _).upd (by omega) _) hW2.hold)) (by decide) rfl rfl (Nat.le_of_ble_eq_true rfl) (List.Perm.of_eq (List.append_nil _).symm) (mw 0 rfl) rfl dX12_goes_179 (by decide) (by decide) ?_
                            rintro _ _ _ ⟨rfl, rfl, rfl⟩
                            refine ev_ws (List.append_nil _) ?_
                            show Ev G X 0 0 182 [(3, .int (nI (sn S2 (14 + i)))), (2, .int (takF S2 i)), (0, .ref (a 0)), (1, .int (nI i))] [.int (needF (upd (upd S2 (2 + (sn S2 (14 + i))) ((S2 (2 + (sn S2 (14 + i)))) - (takF S2 i))) (26 + i) ((S2 (26 + i)) + (takF S2 i)))), .int (takF S2 i), .int (S2 (20 + i)), .int (nI (20 + i)), .ref (a 1)] (MW G a (upd (upd S2 (2 + (sn S2 (14 + i))) ((S2 (2 + (sn S2 (14 + i)))) - (takF S2 i))) (26 + i) ((S2 (26 + i)) + (takF S2 i))) I F B' T' R' K2 D hI ac sp en iw op mu rd ra ki nu tv) ro
                            refine ev_top (y := (needF S2)) (Hi.need ((Hi.rf.upd (by omega) _).upd (by omega) _)) ?_
                            refine ev_idiv hC dX12_goes_182 hnd ?_
                            refine ev_isub hC dX12_goes_183 ?_
                            refine ev_iastN (i := 20 + i) (ws' := (MW G a (upd (upd (upd S2 (2 + (sn S2 (14 + i))) ((S2 (2 + (sn S2 (14 + i)))) - (takF S2 i))) (26 + i) ((S2 (26 + i)) + (takF S2 i))) (20 + i) ((S2 (20 + i)) - ((takF S2 i) / (needF S2)))) I F B' T' R' K2 D hI ac sp en iw op mu rd ra ki nu tv)) (q0 := 1) hC rfl (by omega) (by omega) rfl dX12_goes_184 ?_
                            refine ev_aload_n hC dX12_goes_185 rfl 2 rfl ?_
                            refine ev_get hC fl_X12_35_12 (mw 0 rfl) rfl dX12_goes_186 ?_
                            refine ev_iload_n hC dX12_goes_189 rfl 0 rfl ?_
                            refine ev_dup2 hC dX12_goes_190 rfl rfl ?_
                            refine ev_ialdN (i := sn S2 (14 + i)) hC (mw 7 rfl) (by omega) (by omega) dX12_goes_191 ?_
                            refine ev_iload_n hC dX12_goes_192 rfl 1 rfl ?_
                            refine ev_iadd hC dX12_goes_193 ?_
                            refine ev_iastN (i := sn S2 (14 + i)) (ws' := (MW G a (upd (upd (upd S2 (2 + (sn S2 (14 + i))) ((S2 (2 + (sn S2 (14 + i)))) - (takF S2 i))) (26 + i) ((S2 (26 + i)) + (takF S2 i))) (20 + i) ((S2 (20 + i)) - ((takF S2 i) / (needF S2)))) I F B' T' R' (upd K2 (sn S2 (14 + i)) ((K2 (sn S2 (14 + i))) + (takF S2 i))) D hI ac sp en iw op mu rd ra ki nu tv)) (q0 := 7) hC rfl (by omega) (by omega) rfl dX12_goes_194 ?_
                            refine ev_iinc (v := (nI (i + 1))) (lv' := [(1, .int (nI (i + 1))), (3, .int (nI (sn S2 (14 + i)))), (2, .int (takF S2 i)), (0, .ref (a 0))]) hC dX12_goes_195 (q := 3) rfl (nI_k _ _ 1 (by decide)) (by decide) rfl ?_
                            refine ev_goto (tgt := 103) hC dX12_goes_198 (by decide) ?_
                            refine ev_lv [3, 0] rfl ?_
                            exact ih (i + 1) (upd (upd (upd S2 (2 + (sn S2 (14 + i))) ((S2 (2 + (sn S2 (14 + i)))) - (takF S2 i))) (26 + i) ((S2 (26 + i)) + (takF S2 i))) (20 + i) ((S2 (20 + i)) - ((takF S2 i) / (needF S2)))) (upd K2 (sn S2 (14 + i)) ((K2 (sn S2 (14 + i))) + (takF S2 i))) (by omega) (lkF_s hS2 (by unfold tkF; first | exact if_pos (by assumption) | exact if_neg (by assumption))) (taF_s hS2 hK2 (by omega) (by unfold tkF; first | exact if_pos (by assumption) | exact if_neg (by assumption))) (by omega)
                          · refine ev_iconst (v := (nI 0)) hC dX12_goes_122 (by decide) ?_
                            refine ev_goto (tgt := 131) hC dX12_goes_123 (by decide) ?_
                            obtain ⟨n1, n2, n3⟩ := need_eq hW2
                            have hnd : ¬ needF S2 = 0 := by rw [n1]; exact nI_ne0 (by omega) (by omega)
                            refine ev_istore_n (lv' := [(2, .int (nI 0)), (0, .ref (a 0)), (1, .int (nI i))]) hC dX12_goes_131 rfl (by decide) rfl ?_
                            refine ev_aload_n hC dX12_goes_132 rfl 1 rfl ?_
                            refine ev_get hC fl_X12_9_12 (mw 0 rfl) rfl dX12_goes_133 ?_
                            refine ev_bipush (v := (nI 14)) hC dX12_goes_136 (by decide) ?_
                            refine ev_iload_n hC dX12_goes_138 rfl 2 rfl ?_
                            refine ev_iadd hC dX12_goes_139 ?_
                            refine ev_top (y := (nI (14 + i))) ((nI_add _ _).trans (congrArg nI (by omega))) ?_
                            refine ev_ialdN (i := 14 + i) hC (mw 1 rfl) (by omega) (by omega) dX12_goes_140 ?_
                            have bk_10 : NB S2 (14 + i) _ := (hW2.side i (by omega))
                            have k_10 := bk_10.eq
                            have lk_10 := bk_10.le
                            have mk_10 := bk_10.lt
                            refine ev_top (y := (nI (sn S2 (14 + i)))) k_10 ?_
                            refine ev_istore_n (lv' := [(3, .int (nI (sn S2 (14 + i)))), (2, .int (nI 0)), (0, .ref (a 0)), (1, .int (nI i))]) hC dX12_goes_141 rfl (by decide) rfl ?_
                            refine ev_aload_n hC dX12_goes_142 rfl 2 rfl ?_
                            refine ev_get hC fl_X12_9_12 (mw 0 rfl) rfl dX12_goes_143 ?_
                            refine ev_iconst (v := (nI 2)) hC dX12_goes_146 (by decide) ?_
                            refine ev_iload_n hC dX12_goes_147 rfl 0 rfl ?_
                            refine ev_iadd hC dX12_goes_148 ?_
                            refine ev_top (y := (nI (2 + (sn S2 (14 + i))))) ((nI_add _ _).trans (congrArg nI (by omega))) ?_
                            refine ev_dup2 hC dX12_goes_149 rfl rfl ?_
                            refine ev_ialdN (i := 2 + (sn S2 (14 + i))) hC (mw 1 rfl) (by omega) (by omega) dX12_goes_150 ?_
                            refine ev_iload_n hC dX12_goes_151 rfl 1 rfl ?_
                            refine ev_isub hC dX12_goes_152 ?_
                            refine ev_iastN (i := 2 + (sn S2 (14 + i))) (ws' := (MW G a (upd S2 (2 + (sn S2 (14 + i))) ((S2 (2 + (sn S2 (14 + i)))) - (nI 0))) I F B' T' R' K2 D hI ac sp en iw op mu rd ra ki nu tv)) (q0 := 1) hC rfl (by omega) (by omega) rfl dX12_goes_153 ?_
                            refine ev_aload_n hC dX12_goes_154 rfl 2 rfl ?_
                            refine ev_get hC fl_X12_9_12 (mw 0 rfl) rfl dX12_goes_155 ?_
                            refine ev_bipush (v := (nI 26)) hC dX12_goes_158 (by decide) ?_
                            refine ev_iload_n hC dX12_goes_160 rfl 3 rfl ?_
                            refine ev_iadd hC dX12_goes_161 ?_
                            refine ev_top (y := (nI (26 + i))) ((nI_add _ _).trans (congrArg nI (by omega))) ?_
                            refine ev_dup2 hC dX12_goes_162 rfl rfl ?_
                            refine ev_ialdN (i := 26 + i) hC (mw 1 rfl) (by omega) (by omega) dX12_goes_163 ?_
                            refine ev_top (y := (S2 (26 + i))) (if_neg (by omega)) ?_
                            refine ev_iload_n hC dX12_goes_164 rfl 1 rfl ?_
                            refine ev_iadd hC dX12_goes_165 ?_
                            refine ev_iastN (i := 26 + i) (ws' := (MW G a (upd (upd S2 (2 + (sn S2 (14 + i))) ((S2 (2 + (sn S2 (14 + i)))) - (nI 0))) (26 + i) ((S2 (26 + i)) + (nI 0))) I F B' T' R' K2 D hI ac sp en iw op mu rd ra ki nu tv)) (q0 := 1) hC rfl (by omega) (by omega) rfl dX12_goes_166 ?_
                            refine ev_aload_n hC dX12_goes_167 rfl 2 rfl ?_
                            refine ev_get hC fl_X12_9_12 (mw 0 rfl) rfl dX12_goes_168 ?_
                            refine ev_bipush (v := (nI 20)) hC dX12_goes_171 (by decide) ?_
                            refine ev_iload_n hC dX12_goes_173 rfl 3 rfl ?_
                            refine ev_iadd hC dX12_goes_174 ?_
                            refine ev_top (y := (nI (20 + i))) ((nI_add _ _).trans (congrArg nI (by omega))) ?_
                            refine ev_dup2 hC dX12_goes_175 rfl rfl ?_
                            refine ev_ialdN (i := 20 + i) hC (mw 1 rfl) (by omega) (by omega) dX12_goes_176 ?_
                            refine ev_top (y := ((upd S2 (2 + (sn S2 (14 + i))) ((S2 (2 + (sn S2 (14 + i)))) - (nI 0))) (20 + i))) (if_neg (by omega)) ?_
                            refine ev_top (y := (S2 (20 + i))) (if_neg (by omega)) ?_
                            refine ev_iload_n hC dX12_goes_177 rfl 1 rfl ?_
                            refine ev_aload_n hC dX12_goes_178 rfl 2 rfl ?_
                            refine ev_callV (As := []) (st := [.int (nI 0), .int (S2 (20 + i)), .int (nI (20 + i)), .ref (a 1)]) (wf := []) hC cv_X12_137 (m_X12_needNow G ro a (upd (upd S2 (2 + (sn S2 (14 + i))) ((S2 (2 + (sn S2 (14 + i)))) - (nI 0))) (26 + i) ((S2 (26 + i)) + (nI 0))) I F B' T' R' K2 D hI ac sp en iw op mu rd ra ki nu tv  (Hi.hold ((Hi.rf.upd (by omega) _).upd (by omega) _) hW2.hold)) (by decide) rfl rfl (Nat.le_of_ble_eq_true rfl) (List.Perm.of_eq (List.append_nil _).symm) (mw 0 rfl) rfl dX12_goes_179 (by decide) (by decide) ?_
                            rintro _ _ _ ⟨rfl, rfl, rfl⟩
                            refine ev_ws (List.append_nil _) ?_
                            show Ev G X 0 0 182 [(3, .int (nI (sn S2 (14 + i)))), (2, .int (nI 0)), (0, .ref (a 0)), (1, .int (nI i))] [.int (needF (upd (upd S2 (2 + (sn S2 (14 + i))) ((S2 (2 + (sn S2 (14 + i)))) - (nI 0))) (26 + i) ((S2 (26 + i)) + (nI 0)))), .int (nI 0), .int (S2 (20 + i)), .int (nI (20 + i)), .ref (a 1)] (MW G a (upd (upd S2 (2 + (sn S2 (14 + i))) ((S2 (2 + (sn S2 (14 + i)))) - (nI 0))) (26 + i) ((S2 (26 + i)) + (nI 0))) I F B' T' R' K2 D hI ac sp en iw op mu rd ra ki nu tv) ro
                            refine ev_top (y := (needF S2)) (Hi.need ((Hi.rf.upd (by omega) _).upd (by omega) _)) ?_
                            refine ev_idiv hC dX12_goes_182 hnd ?_
                            refine ev_isub hC dX12_goes_183 ?_
                            refine ev_iastN (i := 20 + i) (ws' := (MW G a (upd (upd (upd S2 (2 + (sn S2 (14 + i))) ((S2 (2 + (sn S2 (14 + i)))) - (nI 0))) (26 + i) ((S2 (26 + i)) + (nI 0))) (20 + i) ((S2 (20 + i)) - ((nI 0) / (needF S2)))) I F B' T' R' K2 D hI ac sp en iw op mu rd ra ki nu tv)) (q0 := 1) hC rfl (by omega) (by omega) rfl dX12_goes_184 ?_
                            refine ev_aload_n hC dX12_goes_185 rfl 2 rfl ?_
                            refine ev_get hC fl_X12_35_12 (mw 0 rfl) rfl dX12_goes_186 ?_
                            refine ev_iload_n hC dX12_goes_189 rfl 0 rfl ?_
                            refine ev_dup2 hC dX12_goes_190 rfl rfl ?_
                            refine ev_ialdN (i := sn S2 (14 + i)) hC (mw 7 rfl) (by omega) (by omega) dX12_goes_191 ?_
                            refine ev_iload_n hC dX12_goes_192 rfl 1 rfl ?_
                            refine ev_iadd hC dX12_goes_193 ?_
                            refine ev_iastN (i := sn S2 (14 + i)) (ws' := (MW G a (upd (upd (upd S2 (2 + (sn S2 (14 + i))) ((S2 (2 + (sn S2 (14 + i)))) - (nI 0))) (26 + i) ((S2 (26 + i)) + (nI 0))) (20 + i) ((S2 (20 + i)) - ((nI 0) / (needF S2)))) I F B' T' R' (upd K2 (sn S2 (14 + i)) ((K2 (sn S2 (14 + i))) + (nI 0))) D hI ac sp en iw op mu rd ra ki nu tv)) (q0 := 7) hC rfl (by omega) (by omega) rfl dX12_goes_194 ?_
                            refine ev_iinc (v := (nI (i + 1))) (lv' := [(1, .int (nI (i + 1))), (3, .int (nI (sn S2 (14 + i)))), (2, .int (nI 0)), (0, .ref (a 0))]) hC dX12_goes_195 (q := 3) rfl (nI_k _ _ 1 (by decide)) (by decide) rfl ?_
                            refine ev_goto (tgt := 103) hC dX12_goes_198 (by decide) ?_
                            refine ev_lv [3, 0] rfl ?_
                            exact ih (i + 1) (upd (upd (upd S2 (2 + (sn S2 (14 + i))) ((S2 (2 + (sn S2 (14 + i)))) - (nI 0))) (26 + i) ((S2 (26 + i)) + (nI 0))) (20 + i) ((S2 (20 + i)) - ((nI 0) / (needF S2)))) (upd K2 (sn S2 (14 + i)) ((K2 (sn S2 (14 + i))) + (nI 0))) (by omega) (lkF_s hS2 (by unfold tkF; first | exact if_pos (by assumption) | exact if_neg (by assumption))) (taF_s hS2 hK2 (by omega) (by unfold tkF; first | exact if_pos (by assumption) | exact if_neg (by assumption))) (by omega)
                    refine ev_lv [1, 0] rfl ?_
                    exact lp_103 (sn S 32 - 0 + 1) 0 (g1F S (sn S 32)) K' (by omega) rfl (fun k hk => hK0 k (by omega)) (Nat.lt_succ_self _)
                  · refine ev_aload_n hC dX12_goes_88 rfl 0 rfl ?_
                    refine ev_get hC fl_X12_35_12 (mw 0 rfl) rfl dX12_goes_89 ?_
                    refine ev_iload_n hC dX12_goes_92 rfl 1 rfl ?_
                    refine ev_iconst (v := (nI 0)) hC dX12_goes_93 (by decide) ?_
                    refine ev_iastN (i := k0) (ws' := (MW G a (g1F S (sn S 32)) I F B' T' R' (upd K' k0 (nI 0)) D hI ac sp en iw op mu rd ra ki nu tv)) (q0 := 7) hC rfl (by omega) (by omega) rfl dX12_goes_94 ?_
                    refine ev_iinc (v := (nI (k0 + 1))) (lv' := [(1, .int (nI (k0 + 1))), (0, .ref (a 0))]) hC dX12_goes_95 (q := 1) rfl (nI_k _ _ 1 (by decide)) (by decide) rfl ?_
                    refine ev_goto (tgt := 82) hC dX12_goes_98 (by decide) ?_
                    refine ev_lv [1, 0] rfl ?_
                    exact ih (k0 + 1) (upd K' k0 (nI 0)) (by omega) (fun k hk => (Decidable.em (k = k0)).elim (fun c => by subst c; exact upd_eq _ _ _) (fun c => (upd_ne _ _ c).trans (hK0 k (by omega)))) (by omega)
              refine ev_lv [1, 0] rfl ?_
              exact lp_82 (6 - 0 + 1) 0 K (by omega) (fun k hk => absurd hk (Nat.not_lt_zero k)) (Nat.lt_succ_self _)
            · refine ev_aload_n hC dX12_goes_43 rfl 0 rfl ?_
              refine ev_get hC fl_X12_9_12 (mw 0 rfl) rfl dX12_goes_44 ?_
              refine ev_bipush (v := (nI 20)) hC dX12_goes_47 (by decide) ?_
              refine ev_iload_n hC dX12_goes_49 rfl 1 rfl ?_
              refine ev_iadd hC dX12_goes_50 ?_
              refine ev_top (y := (nI (20 + i2))) ((nI_add _ _).trans (congrArg nI (by omega))) ?_
              refine ev_aload_n hC dX12_goes_51 rfl 0 rfl ?_
              refine ev_get hC fl_X12_9_12 (mw 0 rfl) rfl dX12_goes_52 ?_
              refine ev_bipush (v := (nI 20)) hC dX12_goes_55 (by decide) ?_
              refine ev_iload_n hC dX12_goes_57 rfl 1 rfl ?_
              refine ev_iadd hC dX12_goes_58 ?_
              refine ev_top (y := (nI (20 + i2))) ((nI_add _ _).trans (congrArg nI (by omega))) ?_
              refine ev_ialdN (i := 20 + i2) hC (mw 1 rfl) (by omega) (by omega) dX12_goes_59 ?_
              refine ev_top (y := (S (20 + i2))) hg2 ?_
              refine ev_aload_n hC dX12_goes_60 rfl 0 rfl ?_
              refine ev_get hC fl_X12_32_12 (mw 0 rfl) rfl dX12_goes_61 ?_
              refine ev_iload_n hC dX12_goes_64 rfl 1 rfl ?_
              refine ev_ialdN (i := i2) hC (mw 6 rfl) (by omega) (by omega) dX12_goes_65 ?_
              refine ev_top (y := (risF S i2)) (hR2 (by omega)) ?_
              refine ev_iadd hC dX12_goes_66 ?_
              refine ev_iconst (v := (nI 0)) hC dX12_goes_67 (by decide) ?_
              refine ev_bipush (v := (nI 99)) hC dX12_goes_68 (by decide) ?_
              refine ev_callS (As := [.int ((S (20 + i2)) + (risF S i2)), .int (nI 0), .int (nI 99)]) (st := [.int (nI (20 + i2)), .ref (a 1)]) (wc := []) (wf := (MW G a (g1F S i2) I F B' T' R' K D hI ac sp en iw op mu rd ra ki nu tv)) hC ct_X12_171 (m_X12_within G ro ((S (20 + i2)) + (risF S i2)) (nI 0) (nI 99)) (by decide) rfl rfl (Nat.le_of_ble_eq_true rfl) (List.Perm.refl _) dX12_goes_70 (by decide) (by decide) ?_
              rintro _ _ _ ⟨rfl, rfl, rfl⟩
              refine ev_ws (List.nil_append _) ?_
              show Ev G X 0 0 73 [(0, .ref (a 0)), (1, .int (nI i2))] [.int (wiF ((S (20 + i2)) + (risF S i2)) (nI 0) (nI 99)), .int (nI (20 + i2)), .ref (a 1)] (MW G a (g1F S i2) I F B' T' R' K D hI ac sp en iw op mu rd ra ki nu tv) ro
              refine ev_iastN (i := 20 + i2) (ws' := (MW G a (upd (g1F S i2) (20 + i2) (wiF ((S (20 + i2)) + (risF S i2)) (nI 0) (nI 99))) I F B' T' R' K D hI ac sp en iw op mu rd ra ki nu tv)) (q0 := 1) hC rfl (by omega) (by omega) rfl dX12_goes_73 ?_
              refine ev_iinc (v := (nI (i2 + 1))) (lv' := [(1, .int (nI (i2 + 1))), (0, .ref (a 0))]) hC dX12_goes_74 (q := 1) rfl (nI_k _ _ 1 (by decide)) (by decide) rfl ?_
              refine ev_goto (tgt := 32) hC dX12_goes_77 (by decide) ?_
              refine ev_lv [1, 0] rfl ?_
              refine ev_ws (ws' := (MW G a (g1F S (i2 + 1)) I F B' T' R' K D hI ac sp en iw op mu rd ra ki nu tv)) (by rw [g1F_s]) ?_
              exact ih (i2 + 1) (by omega) (by omega)
        refine ev_ws (ws' := (MW G a (g1F S 0) I F B' T' R' K D hI ac sp en iw op mu rd ra ki nu tv)) (by rw [g1F_0]) ?_
        refine ev_lv [1, 0] rfl ?_
        exact lp_32 (sn S 32 - 0 + 1) 0 (by omega) (Nat.lt_succ_self _)
      · refine ev_aload_n hC dX12_goes_13 rfl 0 rfl ?_
        refine ev_get hC fl_X12_32_12 (mw 0 rfl) rfl dX12_goes_14 ?_
        refine ev_iload_n hC dX12_goes_17 rfl 1 rfl ?_
        refine ev_aload_n hC dX12_goes_18 rfl 0 rfl ?_
        refine ev_iload_n hC dX12_goes_19 rfl 1 rfl ?_
        refine ev_callV (As := [.int (nI i)]) (st := [.int (nI i), .ref (a 6)]) (wf := []) hC cv_X12_150 (m_X12_risesOf G ro a S I F B' T' R' K D hI ac sp en iw op mu rd ra ki nu tv i (by omega) hW) (by decide) rfl rfl (Nat.le_of_ble_eq_true rfl) (List.Perm.of_eq (List.append_nil _).symm) (mw 0 rfl) rfl dX12_goes_20 (by decide) (by decide) ?_
        rintro _ _ _ ⟨B_11, T_12, rfl, rfl, rfl⟩
        refine ev_ws (List.append_nil _) ?_
        show Ev G X 0 0 23 [(0, .ref (a 0)), (1, .int (nI i))] [.int (risF S i), .int (nI i), .ref (a 6)] (MW G a S I F B_11 T_12 R' K D hI ac sp en iw op mu rd ra ki nu tv) ro
        refine ev_iastN (i := i) (ws' := (MW G a S I F B_11 T_12 (upd R' i (risF S i)) K D hI ac sp en iw op mu rd ra ki nu tv)) (q0 := 6) hC rfl (by omega) (by omega) rfl dX12_goes_23 ?_
        refine ev_iinc (v := (nI (i + 1))) (lv' := [(1, .int (nI (i + 1))), (0, .ref (a 0))]) hC dX12_goes_24 (q := 1) rfl (nI_k _ _ 1 (by decide)) (by decide) rfl ?_
        refine ev_goto (tgt := 2) hC dX12_goes_27 (by decide) ?_
        refine ev_lv [1, 0] rfl ?_
        exact ih (i + 1) B_11 T_12 (upd R' i (risF S i)) (by omega) (fun k hk => (Decidable.em (k = i)).elim (fun c => by subst c; exact upd_eq _ _ _) (fun c => (upd_ne _ _ c).trans (hR1 k (by omega)))) (by omega)
  refine ev_lv [1, 0] rfl ?_
  exact lp_2 (sn S 32 - 0 + 1) 0 B T R (by omega) (fun k hk => absurd hk (Nat.not_lt_zero k)) (Nat.lt_succ_self _)
