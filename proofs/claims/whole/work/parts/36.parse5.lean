theorem tst_no {t : Nat → Int32} {e p : Nat} (h : fndF 6 (hrF t e p) 6 0 = none) : tstF t e p = (false, p, []) := by
  unfold tstF
  rw [h]
theorem tst_no2 {t : Nat → Int32} {e p w : Nat} (h : fndF 6 (hrF t e p) 6 0 = some w) (h2 : fndF 7 (hrF t e (p + 1)) 3 0 = none) : tstF t e p = (false, p + 1, []) := by
  unfold tstF
  rw [h]
  simp only
  rw [h2]
theorem tst_yes {t : Nat → Int32} {e p w j : Nat} (h : fndF 6 (hrF t e p) 6 0 = some w) (h2 : fndF 7 (hrF t e (p + 1)) 3 0 = some j) : tstF t e p = ((numF t e (p + 2)).1, (numF t e (p + 2)).2.1, if (numF t e (p + 2)).1 = true then [nI (w + 8 * j + 32 * (numF t e (p + 2)).2.2)] else []) := by
  unfold tstF
  rw [h]
  simp only
  rw [h2]
theorem tst_op {t : Nat → Int32} {e p : Nat} (h : hrF t e p = nI 33 ∨ hrF t e p = nI 40) : tstF t e p = (false, p, []) := by
  refine tst_no ?_
  rcases h with h | h
  · rw [h]; decide +kernel
  · rw [h]; decide +kernel

set_option maxHeartbeats 4000000 in
set_option maxRecDepth 100000 in
theorem m_X12_fac0 (G : GG) (ro : va_W) (h : Nat) (hh : h ≤ 4) (a : Nat → Nat) (S I F B T R K D : Nat → Int32) (hI mu rd ra ki nu tv : Int32) (Y : Nat → Int32) (e p : Nat) (l : List Int32) (hT : TPE S Y e) (hp : p ≤ e) (hP0 : PSt S h l) (hl : l.length ≤ p) : Mth G M_X12_factor 6 0 0 [.ref (a 0)] (MW G a S I F B T R K D hI (nI h) (nI p) (nI e) (nI 0) (nI 5) mu rd ra ki nu tv) ro (fun r ws' ro' => ∃ (S' : Nat → Int32), ∃ (w' : Int32), Oth h S S' ∧ ((w' = nI 0 ∧ (tstF Y e p).1 = true ∧ PSt S' h (l ++ (tstF Y e p).2.2)) ∨ (w' = nI 1 ∧ (tstF Y e p).1 = false)) ∧ r = none ∧ ws' = (MW G a S' I F B T R K D hI (nI h) (nI ((tstF Y e p).2.1)) (nI e) w' (nI 5) mu rd ra ki nu tv) ∧ ro = ro') := by
  refine mth_of (by decide +kernel) (Nat.le_of_ble_eq_true rfl) (fun X hC hR => ?_)
  have he := hT.1
  show Ev G X 0 0 0 [(0, .ref (a 0))] [] (MW G a S I F B T R K D hI (nI h) (nI p) (nI e) (nI 0) (nI 5) mu rd ra ki nu tv) ro
  refine ev_aload_n hC dX12_factor_0 rfl 0 rfl ?_
  refine ev_get hC fl_X12_54_12 (mw 0 rfl) rfl dX12_factor_1 ?_
  refine ev_if_eqN (tgt := 8) hC dX12_factor_4 (by decide) (by omega) (fun c_1 => ?_) (fun c_1 => absurd c_1 (by omega))
  refine ev_aload_n hC dX12_factor_8 rfl 0 rfl ?_
  refine ev_callV (As := []) (st := []) (wf := []) hC cv_X12_58 (m_X12_here G ro a S I F B T R K D hI (nI h) (nI p) (nI e) (nI 0) (nI 5) mu rd ra ki nu tv Y e p hT (by omega)) (by omega) rfl rfl (Nat.le_of_ble_eq_true rfl) (List.Perm.of_eq (List.append_nil _).symm) (mw 0 rfl) rfl dX12_factor_9 (by decide) (by decide) ?_
  rintro _ _ _ ⟨rfl, rfl, rfl⟩
  refine ev_ws (List.append_nil _) ?_
  show Ev G X 0 0 12 [(0, .ref (a 0))] [.int (hrF Y e p)] (MW G a S I F B T R K D hI (nI h) (nI p) (nI e) (nI 0) (nI 5) mu rd ra ki nu tv) ro
  refine ev_istore_n (lv' := [(1, .int (hrF Y e p)), (0, .ref (a 0))]) hC dX12_factor_12 rfl (by decide) rfl ?_
  refine ev_iload_n hC dX12_factor_13 rfl 0 rfl ?_
  refine ev_bipush (v := (nI 33)) hC dX12_factor_14 (by decide) ?_
  refine ev_icmp_eq (tgt := 25) hC dX12_factor_16 (by decide) (fun c_2 => ?_) (fun c_2 => ?_)
  · refine ev_aload_n hC dX12_factor_25 rfl 1 rfl ?_
    refine ev_aload_n hC dX12_factor_26 rfl 1 rfl ?_
    refine ev_get hC fl_X12_78_12 (mw 0 rfl) rfl dX12_factor_27 ?_
    refine ev_iconst (v := (nI 5)) hC dX12_factor_30 (by decide) ?_
    refine ev_icmp_neN (tgt := 38) hC dX12_factor_31 (by decide) (by omega) (by omega) (fun c_3 => absurd c_3 (by omega)) (fun c_3 => ?_)
    refine ev_iconst (v := (nI 1)) hC dX12_factor_34 (by decide) ?_
    refine ev_goto (tgt := 39) hC dX12_factor_35 (by decide) ?_
    refine ev_put (ws' := (MW G a S I F B T R K D hI (nI h) (nI p) (nI e) (nI 1) (nI 5) mu rd ra ki nu tv)) (q0 := 0) hC fp_X12_54_12 rfl (Nat.le_of_ble_eq_true rfl) (nar_01 (by decide)).1 (nar_01 (by decide)).2.1 rfl dX12_factor_39 ?_
    refine ev_aload_n hC dX12_factor_42 rfl 1 rfl ?_
    refine ev_dup hC dX12_factor_43 rfl ?_
    refine ev_get hC fl_X12_78_12 (mw 0 rfl) rfl dX12_factor_44 ?_
    refine ev_iconst (v := (nI 1)) hC dX12_factor_47 (by decide) ?_
    refine ev_iadd hC dX12_factor_48 ?_
    refine ev_top (y := (nI 6)) ((nI_add _ _).trans (congrArg nI (by omega))) ?_
    refine ev_put (ws' := (MW G a S I F B T R K D hI (nI h) (nI p) (nI e) (nI 1) (nI 6) mu rd ra ki nu tv)) (q0 := 0) hC fp_X12_78_12 rfl (Nat.le_of_ble_eq_true rfl) rfl rfl rfl dX12_factor_49 ?_
    refine ev_aload_n hC dX12_factor_52 rfl 1 rfl ?_
    refine ev_dup hC dX12_factor_53 rfl ?_
    refine ev_get hC fl_X12_48_12 (mw 0 rfl) rfl dX12_factor_54 ?_
    refine ev_aload_n hC dX12_factor_57 rfl 1 rfl ?_
    refine ev_get hC fl_X12_54_12 (mw 0 rfl) rfl dX12_factor_58 ?_
    refine ev_if_eqN (tgt := 68) hC dX12_factor_61 (by decide) (by omega) (fun c_4 => absurd c_4 (by omega)) (fun c_4 => ?_)
    refine ev_iconst (v := (nI 0)) hC dX12_factor_64 (by decide) ?_
    refine ev_goto (tgt := 69) hC dX12_factor_65 (by decide) ?_
    refine ev_iadd hC dX12_factor_69 ?_
    refine ev_top (y := (nI p)) ((nI_add _ _).trans (congrArg nI (by omega))) ?_
    refine ev_put (ws' := (MW G a S I F B T R K D hI (nI h) (nI p) (nI e) (nI 1) (nI 6) mu rd ra ki nu tv)) (q0 := 0) hC fp_X12_48_12 rfl (Nat.le_of_ble_eq_true rfl) rfl rfl rfl dX12_factor_70 ?_
    refine ev_iload_n hC dX12_factor_73 rfl 0 rfl ?_
    refine ev_bipush (v := (nI 33)) hC dX12_factor_74 (by decide) ?_
    refine ev_icmp_ne (tgt := 91) hC dX12_factor_76 (by decide) (fun c_5 => absurd c_5 (fun q => q c_2)) (fun c_5 => ?_)
    refine ev_aload_n hC dX12_factor_79 rfl 1 rfl ?_
    refine ev_callV (As := []) (st := []) (wf := []) hC cv_X12_81 (m_X12_factorw G ro a S I F B T R K D hI (nI h) (nI p) (nI e) (nI 1) (nI 6) mu rd ra ki nu tv) (by omega) rfl rfl (Nat.le_of_ble_eq_true rfl) (List.Perm.of_eq (List.append_nil _).symm) (mw 0 rfl) rfl dX12_factor_80 (by decide) (by decide) ?_
    rintro _ _ _ ⟨rfl, rfl, rfl⟩
    refine ev_ws (List.append_nil _) ?_
    show Ev G X 0 0 83 [(1, .int (hrF Y e p)), (0, .ref (a 0))] [] (MW G a S I F B T R K D hI (nI h) (nI p) (nI e) (nI 1) (nI 6) mu rd ra ki nu tv) ro
    refine ev_aload_n hC dX12_factor_83 rfl 1 rfl ?_
    refine ev_iconst (v := (-1)) hC dX12_factor_84 (by decide) ?_
    refine ev_callV (As := [.int (-1)]) (st := []) (wf := []) hC cv_X12_84 (m_X12_emitsw G ro a S I F B T R K D hI (nI h) (nI p) (nI e) (nI 1) (nI 6) mu rd ra ki nu tv (-1)) (by omega) rfl rfl (Nat.le_of_ble_eq_true rfl) (List.Perm.of_eq (List.append_nil _).symm) (mw 0 rfl) rfl dX12_factor_85 (by decide) (by decide) ?_
    rintro _ _ _ ⟨rfl, rfl, rfl⟩
    refine ev_ws (List.append_nil _) ?_
    show Ev G X 0 0 88 [(1, .int (hrF Y e p)), (0, .ref (a 0))] [] (MW G a S I F B T R K D hI (nI h) (nI p) (nI e) (nI 1) (nI 6) mu rd ra ki nu tv) ro
    refine ev_goto (tgt := 101) hC dX12_factor_88 (by decide) ?_
    refine ev_aload_n hC dX12_factor_101 rfl 1 rfl ?_
    refine ev_dup hC dX12_factor_102 rfl ?_
    refine ev_get hC fl_X12_78_12 (mw 0 rfl) rfl dX12_factor_103 ?_
    refine ev_iconst (v := (nI 1)) hC dX12_factor_106 (by decide) ?_
    refine ev_isub hC dX12_factor_107 ?_
    refine ev_top (y := (nI 5)) ((pk_sub (by omega)).trans (congrArg nI (by omega))) ?_
    refine ev_put (ws' := (MW G a S I F B T R K D hI (nI h) (nI p) (nI e) (nI 1) (nI 5) mu rd ra ki nu tv)) (q0 := 0) hC fp_X12_78_12 rfl (Nat.le_of_ble_eq_true rfl) rfl rfl rfl dX12_factor_108 ?_
    refine ev_vret hC hR rfl dX12_factor_111 ?_
    have hr : tstF Y e p = (false, p, []) := tst_op (Or.inl c_2)
    exact ⟨_, _, Oth.rf, Or.inr ⟨rfl, by rw [hr]⟩, rfl, by rw [hr], rfl⟩
  · refine ev_iload_n hC dX12_factor_19 rfl 0 rfl ?_
    refine ev_bipush (v := (nI 40)) hC dX12_factor_20 (by decide) ?_
    refine ev_icmp_ne (tgt := 112) hC dX12_factor_22 (by decide) (fun c_6 => ?_) (fun c_6 => ?_)
    · refine ev_aload_n hC dX12_factor_112 rfl 1 rfl ?_
      refine ev_ldcS (tx := "pkvsgd") (i := 6) hC dX12_factor_113 (by decide +kernel) ?_
      refine ev_callV (As := [.ref (gK G 6)]) (st := []) (wf := []) hC cv_X12_92 (m_X12_among G ro a S I F B T R K D hI (nI h) (nI p) (nI e) (nI 0) (nI 5) mu rd ra ki nu tv Y e p 6 hT (by omega) (by omega)) (by omega) rfl rfl (Nat.le_of_ble_eq_true rfl) (List.Perm.of_eq (List.append_nil _).symm) (mw 0 rfl) rfl dX12_factor_115 (by decide) (by decide) ?_
      rintro _ _ _ ⟨_, _, ⟨j6, am6, rfl, rfl⟩ | ⟨am6, rfl, rfl⟩, rfl, rfl, rfl⟩
      · refine ev_ws (List.append_nil _) ?_
        show Ev G X 0 0 118 [(1, .int (hrF Y e p)), (0, .ref (a 0))] [.int (nI j6)] (MW G a S I F B T R K D hI (nI h) (nI (p + 1)) (nI e) (nI 0) (nI 5) mu rd ra ki nu tv) ro
        have am6' : fndF 6 (hrF Y e p) 6 0 = some j6 := am6
        have am6l := (fndF_le am6').2.1
        have am6p := hr_lt (t := Y) (e := e) (p := p) (c := chN 6 j6) (by have := (chN_eq 6 (by decide) j6 (by have := fndF_le am6'; exact this.2.1)).2; omega) ((fndF_le am6').2.2.trans (chN_eq 6 (by decide) j6 (by have := fndF_le am6'; exact this.2.1)).1)
        refine ev_istore_n (lv' := [(2, .int (nI j6)), (1, .int (hrF Y e p)), (0, .ref (a 0))]) hC dX12_factor_118 rfl (by decide) rfl ?_
        refine ev_aload_n hC dX12_factor_119 rfl 2 rfl ?_
        refine ev_iload_n hC dX12_factor_120 rfl 0 rfl ?_
        refine ev_iconst (v := (-1)) hC dX12_factor_121 (by decide) ?_
        refine ev_icmp_ne (tgt := 129) hC dX12_factor_122 (by decide) (fun c_7 => ?_) (fun c_7 => absurd c_7 (fun q => ne_nI (k := j6) (by omega) (by decide) q.symm))
        refine ev_iconst (v := (nI 0)) hC dX12_factor_129 (by decide) ?_
        refine ev_put (ws' := (MW G a S I F B T R K D hI (nI h) (nI (p + 1)) (nI e) (nI 0) (nI 5) mu rd ra ki nu tv)) (q0 := 0) hC fp_X12_54_12 rfl (Nat.le_of_ble_eq_true rfl) (nar_01 (by decide)).1 (nar_01 (by decide)).2.1 rfl dX12_factor_130 ?_
        refine ev_aload_n hC dX12_factor_133 rfl 2 rfl ?_
        refine ev_get hC fl_X12_54_12 (mw 0 rfl) rfl dX12_factor_134 ?_
        refine ev_if_eqN (tgt := 144) hC dX12_factor_137 (by decide) (by omega) (fun c_8 => ?_) (fun c_8 => absurd c_8 (by omega))
        refine ev_aload_n hC dX12_factor_144 rfl 2 rfl ?_
        refine ev_ldcS (tx := "<=>") (i := 7) hC dX12_factor_145 (by decide +kernel) ?_
        refine ev_callV (As := [.ref (gK G 7)]) (st := []) (wf := []) hC cv_X12_92 (m_X12_among G ro a S I F B T R K D hI (nI h) (nI (p + 1)) (nI e) (nI 0) (nI 5) mu rd ra ki nu tv Y e (p + 1) 7 hT (by omega) (by omega)) (by omega) rfl rfl (Nat.le_of_ble_eq_true rfl) (List.Perm.of_eq (List.append_nil _).symm) (mw 0 rfl) rfl dX12_factor_147 (by decide) (by decide) ?_
        rintro _ _ _ ⟨_, _, ⟨j7, am7, rfl, rfl⟩ | ⟨am7, rfl, rfl⟩, rfl, rfl, rfl⟩
        · refine ev_ws (List.append_nil _) ?_
          show Ev G X 0 0 150 [(2, .int (nI j6)), (1, .int (hrF Y e p)), (0, .ref (a 0))] [.int (nI j7)] (MW G a S I F B T R K D hI (nI h) (nI (p + 2)) (nI e) (nI 0) (nI 5) mu rd ra ki nu tv) ro
          have am7' : fndF 7 (hrF Y e (p + 1)) 3 0 = some j7 := am7
          have am7l := (fndF_le am7').2.1
          have am7p := hr_lt (t := Y) (e := e) (p := (p + 1)) (c := chN 7 j7) (by have := (chN_eq 7 (by decide) j7 (by have := fndF_le am7'; exact this.2.1)).2; omega) ((fndF_le am7').2.2.trans (chN_eq 7 (by decide) j7 (by have := fndF_le am7'; exact this.2.1)).1)
          refine ev_istore_n (lv' := [(3, .int (nI j7)), (2, .int (nI j6)), (1, .int (hrF Y e p)), (0, .ref (a 0))]) hC dX12_factor_150 rfl (by decide) rfl ?_
          refine ev_aload_n hC dX12_factor_151 rfl 3 rfl ?_
          refine ev_aload_n hC dX12_factor_152 rfl 3 rfl ?_
          refine ev_get hC fl_X12_54_12 (mw 0 rfl) rfl dX12_factor_153 ?_
          refine ev_if_neN (tgt := 164) hC dX12_factor_156 (by decide) (by omega) (fun c_9 => absurd c_9 (by omega)) (fun c_9 => ?_)
          refine ev_iload_n hC dX12_factor_159 rfl 0 rfl ?_
          refine ev_iconst (v := (-1)) hC dX12_factor_160 (by decide) ?_
          refine ev_icmp_ne (tgt := 168) hC dX12_factor_161 (by decide) (fun c_10 => ?_) (fun c_10 => absurd c_10 (fun q => ne_nI (k := j7) (by omega) (by decide) q.symm))
          refine ev_iconst (v := (nI 0)) hC dX12_factor_168 (by decide) ?_
          refine ev_put (ws' := (MW G a S I F B T R K D hI (nI h) (nI (p + 2)) (nI e) (nI 0) (nI 5) mu rd ra ki nu tv)) (q0 := 0) hC fp_X12_54_12 rfl (Nat.le_of_ble_eq_true rfl) (nar_01 (by decide)).1 (nar_01 (by decide)).2.1 rfl dX12_factor_169 ?_
          refine ev_aload_n hC dX12_factor_172 rfl 3 rfl ?_
          refine ev_callV (As := []) (st := []) (wf := []) hC cv_X12_98 (m_X12_figures G ro a S I F B T R K D hI (nI h) (nI (p + 2)) (nI e) (nI 0) (nI 5) mu rd ra ki nu tv Y e (p + 2) hT (by omega)) (by omega) rfl rfl (Nat.le_of_ble_eq_true rfl) (List.Perm.of_eq (List.append_nil _).symm) (mw 0 rfl) rfl dX12_factor_173 (by decide) (by decide) ?_
          rintro _ _ _ ⟨_, ⟨rfl, nu_11⟩ | ⟨rfl, nu_11⟩, rfl, rfl, rfl⟩
          · refine ev_ws (List.append_nil _) ?_
            show Ev G X 0 0 176 [(3, .int (nI j7)), (2, .int (nI j6)), (1, .int (hrF Y e p)), (0, .ref (a 0))] [.int (nI ((numF Y e (p + 2)).2.2))] (MW G a S I F B T R K D hI (nI h) (nI ((numF Y e (p + 2)).2.1)) (nI e) (nI 0) (nI 5) mu rd ra ki nu tv) ro
            obtain ⟨nu_111, nu_112, nu_113, nu_114⟩ := numF_p (t := Y) (e := e) (p := (p + 2)) (by omega)
            refine ev_istore (lv' := [(4, .int (nI ((numF Y e (p + 2)).2.2))), (3, .int (nI j7)), (2, .int (nI j6)), (1, .int (hrF Y e p)), (0, .ref (a 0))]) hC dX12_factor_176 (by decide) rfl ?_
            refine ev_aload_n hC dX12_factor_178 rfl 4 rfl ?_
            refine ev_iload_n hC dX12_factor_179 rfl 2 rfl ?_
            refine ev_bipush (v := (nI 8)) hC dX12_factor_180 (by decide) ?_
            refine ev_iload_n hC dX12_factor_182 rfl 1 rfl ?_
            refine ev_imul hC dX12_factor_183 ?_
            refine ev_top (y := (nI (8 * j7))) (pk_mul _ _) ?_
            refine ev_iadd hC dX12_factor_184 ?_
            refine ev_top (y := (nI (j6 + (8 * j7)))) ((nI_add _ _).trans (congrArg nI (by omega))) ?_
            refine ev_bipush (v := (nI 32)) hC dX12_factor_185 (by decide) ?_
            refine ev_iload hC dX12_factor_187 0 rfl ?_
            refine ev_imul hC dX12_factor_189 ?_
            refine ev_top (y := (nI (32 * ((numF Y e (p + 2)).2.2)))) (pk_mul _ _) ?_
            refine ev_iadd hC dX12_factor_190 ?_
            refine ev_top (y := (nI ((j6 + (8 * j7)) + (32 * ((numF Y e (p + 2)).2.2))))) ((nI_add _ _).trans (congrArg nI (by omega))) ?_
            refine ev_callV (As := [.int (nI ((j6 + (8 * j7)) + (32 * ((numF Y e (p + 2)).2.2))))]) (st := []) (wf := []) hC cv_X12_84 (m_X12_emits G ro a S I F B T R K D hI (nI h) (nI ((numF Y e (p + 2)).2.1)) (nI e) (nI 0) (nI 5) mu rd ra ki nu tv h l.length (nI ((j6 + (8 * j7)) + (32 * ((numF Y e (p + 2)).2.2)))) hh hP0.1 (by omega)) (by omega) rfl rfl (Nat.le_of_ble_eq_true rfl) (List.Perm.of_eq (List.append_nil _).symm) (mw 0 rfl) rfl dX12_factor_191 (by decide) (by decide) ?_
            rintro _ _ _ ⟨rfl, rfl, rfl⟩
            refine ev_ws (List.append_nil _) ?_
            show Ev G X 0 0 194 [(4, .int (nI ((numF Y e (p + 2)).2.2))), (3, .int (nI j7)), (2, .int (nI j6)), (1, .int (hrF Y e p)), (0, .ref (a 0))] [] (MW G a (upd (upd S (237 + 140 * h + l.length) (nI ((j6 + (8 * j7)) + (32 * ((numF Y e (p + 2)).2.2))))) (232 + h) (nI (l.length + 1))) I F B T R K D hI (nI h) (nI ((numF Y e (p + 2)).2.1)) (nI e) (nI 0) (nI 5) mu rd ra ki nu tv) ro
            refine ev_vret hC hR rfl dX12_factor_194 ?_
            have hr := tst_yes (t := Y) (e := e) (p := p) am6' am7'
            rw [nu_11] at hr
            rw [if_pos rfl] at hr
            exact ⟨_, _, (hP0.emit hh (by omega) _).2, Or.inl ⟨rfl, by rw [hr], by rw [hr]; exact (hP0.emit hh (by omega) _).1⟩, rfl, by rw [hr], rfl⟩
          · refine ev_ws (List.append_nil _) ?_
            show Ev G X 0 0 176 [(3, .int (nI j7)), (2, .int (nI j6)), (1, .int (hrF Y e p)), (0, .ref (a 0))] [.int (nI ((numF Y e (p + 2)).2.2))] (MW G a S I F B T R K D hI (nI h) (nI ((numF Y e (p + 2)).2.1)) (nI e) (nI 1) (nI 5) mu rd ra ki nu tv) ro
            obtain ⟨nu_111, nu_112, nu_113, nu_114⟩ := numF_p (t := Y) (e := e) (p := (p + 2)) (by omega)
            refine ev_istore (lv' := [(4, .int (nI ((numF Y e (p + 2)).2.2))), (3, .int (nI j7)), (2, .int (nI j6)), (1, .int (hrF Y e p)), (0, .ref (a 0))]) hC dX12_factor_176 (by decide) rfl ?_
            refine ev_aload_n hC dX12_factor_178 rfl 4 rfl ?_
            refine ev_iload_n hC dX12_factor_179 rfl 2 rfl ?_
            refine ev_bipush (v := (nI 8)) hC dX12_factor_180 (by decide) ?_
            refine ev_iload_n hC dX12_factor_182 rfl 1 rfl ?_
            refine ev_imul hC dX12_factor_183 ?_
            refine ev_top (y := (nI (8 * j7))) (pk_mul _ _) ?_
            refine ev_iadd hC dX12_factor_184 ?_
            refine ev_top (y := (nI (j6 + (8 * j7)))) ((nI_add _ _).trans (congrArg nI (by omega))) ?_
            refine ev_bipush (v := (nI 32)) hC dX12_factor_185 (by decide) ?_
            refine ev_iload hC dX12_factor_187 0 rfl ?_
            refine ev_imul hC dX12_factor_189 ?_
            refine ev_top (y := (nI (32 * ((numF Y e (p + 2)).2.2)))) (pk_mul _ _) ?_
            refine ev_iadd hC dX12_factor_190 ?_
            refine ev_top (y := (nI ((j6 + (8 * j7)) + (32 * ((numF Y e (p + 2)).2.2))))) ((nI_add _ _).trans (congrArg nI (by omega))) ?_
            refine ev_callV (As := [.int (nI ((j6 + (8 * j7)) + (32 * ((numF Y e (p + 2)).2.2))))]) (st := []) (wf := []) hC cv_X12_84 (m_X12_emitsw G ro a S I F B T R K D hI (nI h) (nI ((numF Y e (p + 2)).2.1)) (nI e) (nI 1) (nI 5) mu rd ra ki nu tv (nI ((j6 + (8 * j7)) + (32 * ((numF Y e (p + 2)).2.2))))) (by omega) rfl rfl (Nat.le_of_ble_eq_true rfl) (List.Perm.of_eq (List.append_nil _).symm) (mw 0 rfl) rfl dX12_factor_191 (by decide) (by decide) ?_
            rintro _ _ _ ⟨rfl, rfl, rfl⟩
            refine ev_ws (List.append_nil _) ?_
            show Ev G X 0 0 194 [(4, .int (nI ((numF Y e (p + 2)).2.2))), (3, .int (nI j7)), (2, .int (nI j6)), (1, .int (hrF Y e p)), (0, .ref (a 0))] [] (MW G a S I F B T R K D hI (nI h) (nI ((numF Y e (p + 2)).2.1)) (nI e) (nI 1) (nI 5) mu rd ra ki nu tv) ro
            refine ev_vret hC hR rfl dX12_factor_194 ?_
            have hr := tst_yes (t := Y) (e := e) (p := p) am6' am7'
            rw [nu_11] at hr
            exact ⟨_, _, Oth.rf, Or.inr ⟨rfl, by rw [hr]⟩, rfl, by rw [hr], rfl⟩
        · refine ev_ws (List.append_nil _) ?_
          show Ev G X 0 0 150 [(2, .int (nI j6)), (1, .int (hrF Y e p)), (0, .ref (a 0))] [.int (-1)] (MW G a S I F B T R K D hI (nI h) (nI (p + 1)) (nI e) (nI 0) (nI 5) mu rd ra ki nu tv) ro
          have am7' : fndF 7 (hrF Y e (p + 1)) 3 0 = none := am7
          refine ev_istore_n (lv' := [(3, .int (-1)), (2, .int (nI j6)), (1, .int (hrF Y e p)), (0, .ref (a 0))]) hC dX12_factor_150 rfl (by decide) rfl ?_
          refine ev_aload_n hC dX12_factor_151 rfl 3 rfl ?_
          refine ev_aload_n hC dX12_factor_152 rfl 3 rfl ?_
          refine ev_get hC fl_X12_54_12 (mw 0 rfl) rfl dX12_factor_153 ?_
          refine ev_if_neN (tgt := 164) hC dX12_factor_156 (by decide) (by omega) (fun c_12 => absurd c_12 (by omega)) (fun c_12 => ?_)
          refine ev_iload_n hC dX12_factor_159 rfl 0 rfl ?_
          refine ev_iconst (v := (-1)) hC dX12_factor_160 (by decide) ?_
          refine ev_icmp_ne (tgt := 168) hC dX12_factor_161 (by decide) (fun c_13 => absurd c_13 (fun q => q rfl)) (fun c_13 => ?_)
          refine ev_iconst (v := (nI 1)) hC dX12_factor_164 (by decide) ?_
          refine ev_goto (tgt := 169) hC dX12_factor_165 (by decide) ?_
          refine ev_put (ws' := (MW G a S I F B T R K D hI (nI h) (nI (p + 1)) (nI e) (nI 1) (nI 5) mu rd ra ki nu tv)) (q0 := 0) hC fp_X12_54_12 rfl (Nat.le_of_ble_eq_true rfl) (nar_01 (by decide)).1 (nar_01 (by decide)).2.1 rfl dX12_factor_169 ?_
          refine ev_aload_n hC dX12_factor_172 rfl 3 rfl ?_
          refine ev_callV (As := []) (st := []) (wf := []) hC cv_X12_98 (m_X12_figuresw G ro a S I F B T R K D hI (nI h) (nI (p + 1)) (nI e) (nI 1) (nI 5) mu rd ra ki nu tv) (by omega) rfl rfl (Nat.le_of_ble_eq_true rfl) (List.Perm.of_eq (List.append_nil _).symm) (mw 0 rfl) rfl dX12_factor_173 (by decide) (by decide) ?_
          rintro _ _ _ ⟨rfl, rfl, rfl⟩
          refine ev_ws (List.append_nil _) ?_
          show Ev G X 0 0 176 [(3, .int (-1)), (2, .int (nI j6)), (1, .int (hrF Y e p)), (0, .ref (a 0))] [.int (nI 0)] (MW G a S I F B T R K D hI (nI h) (nI (p + 1)) (nI e) (nI 1) (nI 5) mu rd ra ki nu tv) ro
          refine ev_istore (lv' := [(4, .int (nI 0)), (3, .int (-1)), (2, .int (nI j6)), (1, .int (hrF Y e p)), (0, .ref (a 0))]) hC dX12_factor_176 (by decide) rfl ?_
          refine ev_aload_n hC dX12_factor_178 rfl 4 rfl ?_
          refine ev_iload_n hC dX12_factor_179 rfl 2 rfl ?_
          refine ev_bipush (v := (nI 8)) hC dX12_factor_180 (by decide) ?_
          refine ev_iload_n hC dX12_factor_182 rfl 1 rfl ?_
          refine ev_imul hC dX12_factor_183 ?_
          refine ev_iadd hC dX12_factor_184 ?_
          refine ev_bipush (v := (nI 32)) hC dX12_factor_185 (by decide) ?_
          refine ev_iload hC dX12_factor_187 0 rfl ?_
          refine ev_imul hC dX12_factor_189 ?_
          refine ev_top (y := (nI 0)) (pk_mul _ _) ?_
          refine ev_iadd hC dX12_factor_190 ?_
          refine ev_callV (As := [.int (((nI j6) + ((nI 8) * (-1))) + (nI 0))]) (st := []) (wf := []) hC cv_X12_84 (m_X12_emitsw G ro a S I F B T R K D hI (nI h) (nI (p + 1)) (nI e) (nI 1) (nI 5) mu rd ra ki nu tv (((nI j6) + ((nI 8) * (-1))) + (nI 0))) (by omega) rfl rfl (Nat.le_of_ble_eq_true rfl) (List.Perm.of_eq (List.append_nil _).symm) (mw 0 rfl) rfl dX12_factor_191 (by decide) (by decide) ?_
          rintro _ _ _ ⟨rfl, rfl, rfl⟩
          refine ev_ws (List.append_nil _) ?_
          show Ev G X 0 0 194 [(4, .int (nI 0)), (3, .int (-1)), (2, .int (nI j6)), (1, .int (hrF Y e p)), (0, .ref (a 0))] [] (MW G a S I F B T R K D hI (nI h) (nI (p + 1)) (nI e) (nI 1) (nI 5) mu rd ra ki nu tv) ro
          refine ev_vret hC hR rfl dX12_factor_194 ?_
          have hr := tst_no2 (t := Y) (e := e) (p := p) am6' am7'
          exact ⟨_, _, Oth.rf, Or.inr ⟨rfl, by rw [hr]⟩, rfl, by rw [hr], rfl⟩
      · refine ev_ws (List.append_nil _) ?_
        show Ev G X 0 0 118 [(1, .int (hrF Y e p)), (0, .ref (a 0))] [.int (-1)] (MW G a S I F B T R K D hI (nI h) (nI p) (nI e) (nI 0) (nI 5) mu rd ra ki nu tv) ro
        have am6' : fndF 6 (hrF Y e p) 6 0 = none := am6
        refine ev_istore_n (lv' := [(2, .int (-1)), (1, .int (hrF Y e p)), (0, .ref (a 0))]) hC dX12_factor_118 rfl (by decide) rfl ?_
        refine ev_aload_n hC dX12_factor_119 rfl 2 rfl ?_
        refine ev_iload_n hC dX12_factor_120 rfl 0 rfl ?_
        refine ev_iconst (v := (-1)) hC dX12_factor_121 (by decide) ?_
        refine ev_icmp_ne (tgt := 129) hC dX12_factor_122 (by decide) (fun c_14 => absurd c_14 (fun q => q rfl)) (fun c_14 => ?_)
        refine ev_iconst (v := (nI 1)) hC dX12_factor_125 (by decide) ?_
        refine ev_goto (tgt := 130) hC dX12_factor_126 (by decide) ?_
        refine ev_put (ws' := (MW G a S I F B T R K D hI (nI h) (nI p) (nI e) (nI 1) (nI 5) mu rd ra ki nu tv)) (q0 := 0) hC fp_X12_54_12 rfl (Nat.le_of_ble_eq_true rfl) (nar_01 (by decide)).1 (nar_01 (by decide)).2.1 rfl dX12_factor_130 ?_
        refine ev_aload_n hC dX12_factor_133 rfl 2 rfl ?_
        refine ev_get hC fl_X12_54_12 (mw 0 rfl) rfl dX12_factor_134 ?_
        refine ev_if_eqN (tgt := 144) hC dX12_factor_137 (by decide) (by omega) (fun c_15 => absurd c_15 (by omega)) (fun c_15 => ?_)
        refine ev_iconst (v := (nI 0)) hC dX12_factor_140 (by decide) ?_
        refine ev_goto (tgt := 150) hC dX12_factor_141 (by decide) ?_
        refine ev_istore_n (lv' := [(3, .int (nI 0)), (2, .int (-1)), (1, .int (hrF Y e p)), (0, .ref (a 0))]) hC dX12_factor_150 rfl (by decide) rfl ?_
        refine ev_aload_n hC dX12_factor_151 rfl 3 rfl ?_
        refine ev_aload_n hC dX12_factor_152 rfl 3 rfl ?_
        refine ev_get hC fl_X12_54_12 (mw 0 rfl) rfl dX12_factor_153 ?_
        refine ev_if_neN (tgt := 164) hC dX12_factor_156 (by decide) (by omega) (fun c_16 => ?_) (fun c_16 => absurd c_16 (by omega))
        refine ev_iconst (v := (nI 1)) hC dX12_factor_164 (by decide) ?_
        refine ev_goto (tgt := 169) hC dX12_factor_165 (by decide) ?_
        refine ev_put (ws' := (MW G a S I F B T R K D hI (nI h) (nI p) (nI e) (nI 1) (nI 5) mu rd ra ki nu tv)) (q0 := 0) hC fp_X12_54_12 rfl (Nat.le_of_ble_eq_true rfl) (nar_01 (by decide)).1 (nar_01 (by decide)).2.1 rfl dX12_factor_169 ?_
        refine ev_aload_n hC dX12_factor_172 rfl 3 rfl ?_
        refine ev_callV (As := []) (st := []) (wf := []) hC cv_X12_98 (m_X12_figuresw G ro a S I F B T R K D hI (nI h) (nI p) (nI e) (nI 1) (nI 5) mu rd ra ki nu tv) (by omega) rfl rfl (Nat.le_of_ble_eq_true rfl) (List.Perm.of_eq (List.append_nil _).symm) (mw 0 rfl) rfl dX12_factor_173 (by decide) (by decide) ?_
        rintro _ _ _ ⟨rfl, rfl, rfl⟩
        refine ev_ws (List.append_nil _) ?_
        show Ev G X 0 0 176 [(3, .int (nI 0)), (2, .int (-1)), (1, .int (hrF Y e p)), (0, .ref (a 0))] [.int (nI 0)] (MW G a S I F B T R K D hI (nI h) (nI p) (nI e) (nI 1) (nI 5) mu rd ra ki nu tv) ro
        refine ev_istore (lv' := [(4, .int (nI 0)), (3, .int (nI 0)), (2, .int (-1)), (1, .int (hrF Y e p)), (0, .ref (a 0))]) hC dX12_factor_176 (by decide) rfl ?_
        refine ev_aload_n hC dX12_factor_178 rfl 4 rfl ?_
        refine ev_iload_n hC dX12_factor_179 rfl 2 rfl ?_
        refine ev_bipush (v := (nI 8)) hC dX12_factor_180 (by decide) ?_
        refine ev_iload_n hC dX12_factor_182 rfl 1 rfl ?_
        refine ev_imul hC dX12_factor_183 ?_
        refine ev_top (y := (nI 0)) (pk_mul _ _) ?_
        refine ev_iadd hC dX12_factor_184 ?_
        refine ev_bipush (v := (nI 32)) hC dX12_factor_185 (by decide) ?_
        refine ev_iload hC dX12_factor_187 0 rfl ?_
        refine ev_imul hC dX12_factor_189 ?_
        refine ev_top (y := (nI 0)) (pk_mul _ _) ?_
        refine ev_iadd hC dX12_factor_190 ?_
        refine ev_callV (As := [.int (((-1) + (nI 0)) + (nI 0))]) (st := []) (wf := []) hC cv_X12_84 (m_X12_emitsw G ro a S I F B T R K D hI (nI h) (nI p) (nI e) (nI 1) (nI 5) mu rd ra ki nu tv (((-1) + (nI 0)) + (nI 0))) (by omega) rfl rfl (Nat.le_of_ble_eq_true rfl) (List.Perm.of_eq (List.append_nil _).symm) (mw 0 rfl) rfl dX12_factor_191 (by decide) (by decide) ?_
        rintro _ _ _ ⟨rfl, rfl, rfl⟩
        refine ev_ws (List.append_nil _) ?_
        show Ev G X 0 0 194 [(4, .int (nI 0)), (3, .int (nI 0)), (2, .int (-1)), (1, .int (hrF Y e p)), (0, .ref (a 0))] [] (MW G a S I F B T R K D hI (nI h) (nI p) (nI e) (nI 1) (nI 5) mu rd ra ki nu tv) ro
        refine ev_vret hC hR rfl dX12_factor_194 ?_
        have hr := tst_no (t := Y) (e := e) (p := p) am6'
        exact ⟨_, _, Oth.rf, Or.inr ⟨rfl, by rw [hr]⟩, rfl, by rw [hr], rfl⟩
    · refine ev_aload_n hC dX12_factor_25 rfl 1 rfl ?_
      refine ev_aload_n hC dX12_factor_26 rfl 1 rfl ?_
      refine ev_get hC fl_X12_78_12 (mw 0 rfl) rfl dX12_factor_27 ?_
      refine ev_iconst (v := (nI 5)) hC dX12_factor_30 (by decide) ?_
      refine ev_icmp_neN (tgt := 38) hC dX12_factor_31 (by decide) (by omega) (by omega) (fun c_17 => absurd c_17 (by omega)) (fun c_17 => ?_)
      refine ev_iconst (v := (nI 1)) hC dX12_factor_34 (by decide) ?_
      refine ev_goto (tgt := 39) hC dX12_factor_35 (by decide) ?_
      refine ev_put (ws' := (MW G a S I F B T R K D hI (nI h) (nI p) (nI e) (nI 1) (nI 5) mu rd ra ki nu tv)) (q0 := 0) hC fp_X12_54_12 rfl (Nat.le_of_ble_eq_true rfl) (nar_01 (by decide)).1 (nar_01 (by decide)).2.1 rfl dX12_factor_39 ?_
      refine ev_aload_n hC dX12_factor_42 rfl 1 rfl ?_
      refine ev_dup hC dX12_factor_43 rfl ?_
      refine ev_get hC fl_X12_78_12 (mw 0 rfl) rfl dX12_factor_44 ?_
      refine ev_iconst (v := (nI 1)) hC dX12_factor_47 (by decide) ?_
      refine ev_iadd hC dX12_factor_48 ?_
      refine ev_top (y := (nI 6)) ((nI_add _ _).trans (congrArg nI (by omega))) ?_
      refine ev_put (ws' := (MW G a S I F B T R K D hI (nI h) (nI p) (nI e) (nI 1) (nI 6) mu rd ra ki nu tv)) (q0 := 0) hC fp_X12_78_12 rfl (Nat.le_of_ble_eq_true rfl) rfl rfl rfl dX12_factor_49 ?_
      refine ev_aload_n hC dX12_factor_52 rfl 1 rfl ?_
      refine ev_dup hC dX12_factor_53 rfl ?_
      refine ev_get hC fl_X12_48_12 (mw 0 rfl) rfl dX12_factor_54 ?_
      refine ev_aload_n hC dX12_factor_57 rfl 1 rfl ?_
      refine ev_get hC fl_X12_54_12 (mw 0 rfl) rfl dX12_factor_58 ?_
      refine ev_if_eqN (tgt := 68) hC dX12_factor_61 (by decide) (by omega) (fun c_18 => absurd c_18 (by omega)) (fun c_18 => ?_)
      refine ev_iconst (v := (nI 0)) hC dX12_factor_64 (by decide) ?_
      refine ev_goto (tgt := 69) hC dX12_factor_65 (by decide) ?_
      refine ev_iadd hC dX12_factor_69 ?_
      refine ev_top (y := (nI p)) ((nI_add _ _).trans (congrArg nI (by omega))) ?_
      refine ev_put (ws' := (MW G a S I F B T R K D hI (nI h) (nI p) (nI e) (nI 1) (nI 6) mu rd ra ki nu tv)) (q0 := 0) hC fp_X12_48_12 rfl (Nat.le_of_ble_eq_true rfl) rfl rfl rfl dX12_factor_70 ?_
      refine ev_iload_n hC dX12_factor_73 rfl 0 rfl ?_
      refine ev_bipush (v := (nI 33)) hC dX12_factor_74 (by decide) ?_
      refine ev_icmp_ne (tgt := 91) hC dX12_factor_76 (by decide) (fun c_19 => ?_) (fun c_19 => absurd c_19 (fun q => c_2 q))
      refine ev_aload_n hC dX12_factor_91 rfl 1 rfl ?_
      refine ev_callV (As := []) (st := []) (wf := []) hC cv_X12_87 (m_X12_somew G ro a S I F B T R K D hI (nI h) (nI p) (nI e) (nI 1) (nI 6) mu rd ra ki nu tv) (by omega) rfl rfl (Nat.le_of_ble_eq_true rfl) (List.Perm.of_eq (List.append_nil _).symm) (mw 0 rfl) rfl dX12_factor_92 (by decide) (by decide) ?_
      rintro _ _ _ ⟨rfl, rfl, rfl⟩
      refine ev_ws (List.append_nil _) ?_
      show Ev G X 0 0 95 [(1, .int (hrF Y e p)), (0, .ref (a 0))] [] (MW G a S I F B T R K D hI (nI h) (nI p) (nI e) (nI 1) (nI 6) mu rd ra ki nu tv) ro
      refine ev_aload_n hC dX12_factor_95 rfl 1 rfl ?_
      refine ev_bipush (v := (nI 41)) hC dX12_factor_96 (by decide) ?_
      refine ev_callV (As := [.int (nI 41)]) (st := []) (wf := []) hC cv_X12_71 (m_X12_mustw G ro a S I F B T R K D hI (nI h) (nI p) (nI e) (nI 1) (nI 6) mu rd ra ki nu tv 41 p) (by omega) rfl rfl (Nat.le_of_ble_eq_true rfl) (List.Perm.of_eq (List.append_nil _).symm) (mw 0 rfl) rfl dX12_factor_98 (by decide) (by decide) ?_
      rintro _ _ _ ⟨rfl, rfl, rfl⟩
      refine ev_ws (List.append_nil _) ?_
      show Ev G X 0 0 101 [(1, .int (hrF Y e p)), (0, .ref (a 0))] [] (MW G a S I F B T R K D hI (nI h) (nI p) (nI e) (nI 1) (nI 6) mu rd ra ki nu tv) ro
      refine ev_aload_n hC dX12_factor_101 rfl 1 rfl ?_
      refine ev_dup hC dX12_factor_102 rfl ?_
      refine ev_get hC fl_X12_78_12 (mw 0 rfl) rfl dX12_factor_103 ?_
      refine ev_iconst (v := (nI 1)) hC dX12_factor_106 (by decide) ?_
      refine ev_isub hC dX12_factor_107 ?_
      refine ev_top (y := (nI 5)) ((pk_sub (by omega)).trans (congrArg nI (by omega))) ?_
      refine ev_put (ws' := (MW G a S I F B T R K D hI (nI h) (nI p) (nI e) (nI 1) (nI 5) mu rd ra ki nu tv)) (q0 := 0) hC fp_X12_78_12 rfl (Nat.le_of_ble_eq_true rfl) rfl rfl rfl dX12_factor_108 ?_
      refine ev_vret hC hR rfl dX12_factor_111 ?_
      have hr : tstF Y e p = (false, p, []) := tst_op (Or.inr c_6)
      exact ⟨_, _, Oth.rf, Or.inr ⟨rfl, by rw [hr]⟩, rfl, by rw [hr], rfl⟩

set_option maxHeartbeats 4000000 in
set_option maxRecDepth 100000 in
theorem m_X12_facS (G : GG) (ro : va_W) (h o d : Nat) (hh : h ≤ 4) (ho : o < 5) (hf : PartK G M_X12_factor (6 + 3 * d) h (o + 1) (fun Y e => facD Y e d)) (hs : PartK G M_X12_some (6 + 3 * d + 2) h (o + 1) (fun Y e => somF Y e (facD Y e d))) (a : Nat → Nat) (S I F B T R K D : Nat → Int32) (hI mu rd ra ki nu tv : Int32) (Y : Nat → Int32) (e p : Nat) (l : List Int32) (hT : TPE S Y e) (hp : p ≤ e) (hP0 : PSt S h l) (hl : l.length ≤ p) : Mth G M_X12_factor (6 + 3 * (d + 1)) 0 0 [.ref (a 0)] (MW G a S I F B T R K D hI (nI h) (nI p) (nI e) (nI 0) (nI o) mu rd ra ki nu tv) ro (fun r ws' ro' => ∃ (S' : Nat → Int32), ∃ (w' : Int32), Oth h S S' ∧ ((w' = nI 0 ∧ (facD Y e (d + 1) p).1 = true ∧ PSt S' h (l ++ (facD Y e (d + 1) p).2.2)) ∨ (w' = nI 1 ∧ (facD Y e (d + 1) p).1 = false)) ∧ r = none ∧ ws' = (MW G a S' I F B T R K D hI (nI h) (nI ((facD Y e (d + 1) p).2.1)) (nI e) w' (nI o) mu rd ra ki nu tv) ∧ ro = ro') := by
  refine mth_of (by decide +kernel) (Nat.le_of_ble_eq_true rfl) (fun X hC hR => ?_)
  have he := hT.1
  show Ev G X 0 0 0 [(0, .ref (a 0))] [] (MW G a S I F B T R K D hI (nI h) (nI p) (nI e) (nI 0) (nI o) mu rd ra ki nu tv) ro
  refine ev_aload_n hC dX12_factor_0 rfl 0 rfl ?_
  refine ev_get hC fl_X12_54_12 (mw 0 rfl) rfl dX12_factor_1 ?_
  refine ev_if_eqN (tgt := 8) hC dX12_factor_4 (by decide) (by omega) (fun c_1 => ?_) (fun c_1 => absurd c_1 (by omega))
  refine ev_aload_n hC dX12_factor_8 rfl 0 rfl ?_
  refine ev_callV (As := []) (st := []) (wf := []) hC cv_X12_58 (m_X12_here G ro a S I F B T R K D hI (nI h) (nI p) (nI e) (nI 0) (nI o) mu rd ra ki nu tv Y e p hT (by omega)) (by omega) rfl rfl (Nat.le_of_ble_eq_true rfl) (List.Perm.of_eq (List.append_nil _).symm) (mw 0 rfl) rfl dX12_factor_9 (by decide) (by decide) ?_
  rintro _ _ _ ⟨rfl, rfl, rfl⟩
  refine ev_ws (List.append_nil _) ?_
  show Ev G X 0 0 12 [(0, .ref (a 0))] [.int (hrF Y e p)] (MW G a S I F B T R K D hI (nI h) (nI p) (nI e) (nI 0) (nI o) mu rd ra ki nu tv) ro
  refine ev_istore_n (lv' := [(1, .int (hrF Y e p)), (0, .ref (a 0))]) hC dX12_factor_12 rfl (by decide) rfl ?_
  refine ev_iload_n hC dX12_factor_13 rfl 0 rfl ?_
  refine ev_bipush (v := (nI 33)) hC dX12_factor_14 (by decide) ?_
  refine ev_icmp_eq (tgt := 25) hC dX12_factor_16 (by decide) (fun c_2 => ?_) (fun c_2 => ?_)
  · refine ev_aload_n hC dX12_factor_25 rfl 1 rfl ?_
    refine ev_aload_n hC dX12_factor_26 rfl 1 rfl ?_
    refine ev_get hC fl_X12_78_12 (mw 0 rfl) rfl dX12_factor_27 ?_
    refine ev_iconst (v := (nI 5)) hC dX12_factor_30 (by decide) ?_
    refine ev_icmp_neN (tgt := 38) hC dX12_factor_31 (by decide) (by omega) (by omega) (fun c_3 => ?_) (fun c_3 => absurd c_3 (by omega))
    refine ev_iconst (v := (nI 0)) hC dX12_factor_38 (by decide) ?_
    refine ev_put (ws' := (MW G a S I F B T R K D hI (nI h) (nI p) (nI e) (nI 0) (nI o) mu rd ra ki nu tv)) (q0 := 0) hC fp_X12_54_12 rfl (Nat.le_of_ble_eq_true rfl) (nar_01 (by decide)).1 (nar_01 (by decide)).2.1 rfl dX12_factor_39 ?_
    refine ev_aload_n hC dX12_factor_42 rfl 1 rfl ?_
    refine ev_dup hC dX12_factor_43 rfl ?_
    refine ev_get hC fl_X12_78_12 (mw 0 rfl) rfl dX12_factor_44 ?_
    refine ev_iconst (v := (nI 1)) hC dX12_factor_47 (by decide) ?_
    refine ev_iadd hC dX12_factor_48 ?_
    refine ev_top (y := (nI (o + 1))) ((nI_add _ _).trans (congrArg nI (by omega))) ?_
    refine ev_put (ws' := (MW G a S I F B T R K D hI (nI h) (nI p) (nI e) (nI 0) (nI (o + 1)) mu rd ra ki nu tv)) (q0 := 0) hC fp_X12_78_12 rfl (Nat.le_of_ble_eq_true rfl) rfl rfl rfl dX12_factor_49 ?_
    refine ev_aload_n hC dX12_factor_52 rfl 1 rfl ?_
    refine ev_dup hC dX12_factor_53 rfl ?_
    refine ev_get hC fl_X12_48_12 (mw 0 rfl) rfl dX12_factor_54 ?_
    refine ev_aload_n hC dX12_factor_57 rfl 1 rfl ?_
    refine ev_get hC fl_X12_54_12 (mw 0 rfl) rfl dX12_factor_58 ?_
    refine ev_if_eqN (tgt := 68) hC dX12_factor_61 (by decide) (by omega) (fun c_4 => ?_) (fun c_4 => absurd c_4 (by omega))
    refine ev_iconst (v := (nI 1)) hC dX12_factor_68 (by decide) ?_
    refine ev_iadd hC dX12_factor_69 ?_
    refine ev_top (y := (nI (p + 1))) ((nI_add _ _).trans (congrArg nI (by omega))) ?_
    refine ev_put (ws' := (MW G a S I F B T R K D hI (nI h) (nI (p + 1)) (nI e) (nI 0) (nI (o + 1)) mu rd ra ki nu tv)) (q0 := 0) hC fp_X12_48_12 rfl (Nat.le_of_ble_eq_true rfl) rfl rfl rfl dX12_factor_70 ?_
    refine ev_iload_n hC dX12_factor_73 rfl 0 rfl ?_
    refine ev_bipush (v := (nI 33)) hC dX12_factor_74 (by decide) ?_
    refine ev_icmp_ne (tgt := 91) hC dX12_factor_76 (by decide) (fun c_5 => absurd c_5 (fun q => q c_2)) (fun c_5 => ?_)
    have hlt := (hr_lt (by decide) c_2).1
    obtain ⟨g1, g2, g3, g4⟩ := facD_p (t := Y) (e := e) d (p := p + 1) (by omega)
    refine ev_aload_n hC dX12_factor_79 rfl 1 rfl ?_
    refine ev_callV (As := []) (st := []) (wf := []) hC cv_X12_81 (hf ro a S I F B T R K D hI mu rd ra ki nu tv Y e (p + 1) l hT (by omega) hP0 (by omega)) (by omega) rfl rfl (Nat.le_of_ble_eq_true rfl) (List.Perm.of_eq (List.append_nil _).symm) (mw 0 rfl) rfl dX12_factor_80 (by decide) (by decide) ?_
    rintro _ _ _ ⟨S3, _, hO3, ⟨rfl, ok3, hP3⟩ | ⟨rfl, ok3⟩, rfl, rfl, rfl⟩
    · refine ev_ws (List.append_nil _) ?_
      show Ev G X 0 0 83 [(1, .int (hrF Y e p)), (0, .ref (a 0))] [] (MW G a S3 I F B T R K D hI (nI h) (nI ((facD Y e d (p + 1)).2.1)) (nI e) (nI 0) (nI (o + 1)) mu rd ra ki nu tv) ro
      refine ev_aload_n hC dX12_factor_83 rfl 1 rfl ?_
      refine ev_iconst (v := (-1)) hC dX12_factor_84 (by decide) ?_
      refine ev_callV (As := [.int (-1)]) (st := []) (wf := []) hC cv_X12_84 (m_X12_emits G ro a S3 I F B T R K D hI (nI h) (nI ((facD Y e d (p + 1)).2.1)) (nI e) (nI 0) (nI (o + 1)) mu rd ra ki nu tv h (l ++ (facD Y e d (p + 1)).2.2).length (-1) hh hP3.1 (by simp only [List.length_append]; omega)) (by omega) rfl rfl (Nat.le_of_ble_eq_true rfl) (List.Perm.of_eq (List.append_nil _).symm) (mw 0 rfl) rfl dX12_factor_85 (by decide) (by decide) ?_
      rintro _ _ _ ⟨rfl, rfl, rfl⟩
      refine ev_ws (List.append_nil _) ?_
      show Ev G X 0 0 88 [(1, .int (hrF Y e p)), (0, .ref (a 0))] [] (MW G a (upd (upd S3 (237 + 140 * h + (l ++ (facD Y e d (p + 1)).2.2).length) (-1)) (232 + h) (nI ((l ++ (facD Y e d (p + 1)).2.2).length + 1))) I F B T R K D hI (nI h) (nI ((facD Y e d (p + 1)).2.1)) (nI e) (nI 0) (nI (o + 1)) mu rd ra ki nu tv) ro
      refine ev_goto (tgt := 101) hC dX12_factor_88 (by decide) ?_
      refine ev_aload_n hC dX12_factor_101 rfl 1 rfl ?_
      refine ev_dup hC dX12_factor_102 rfl ?_
      refine ev_get hC fl_X12_78_12 (mw 0 rfl) rfl dX12_factor_103 ?_
      refine ev_iconst (v := (nI 1)) hC dX12_factor_106 (by decide) ?_
      refine ev_isub hC dX12_factor_107 ?_
      refine ev_top (y := (nI o)) ((pk_sub (by omega)).trans (congrArg nI (by omega))) ?_
      refine ev_put (ws' := (MW G a (upd (upd S3 (237 + 140 * h + (l ++ (facD Y e d (p + 1)).2.2).length) (-1)) (232 + h) (nI ((l ++ (facD Y e d (p + 1)).2.2).length + 1))) I F B T R K D hI (nI h) (nI ((facD Y e d (p + 1)).2.1)) (nI e) (nI 0) (nI o) mu rd ra ki nu tv)) (q0 := 0) hC fp_X12_78_12 rfl (Nat.le_of_ble_eq_true rfl) rfl rfl rfl dX12_factor_108 ?_
      refine ev_vret hC hR rfl dX12_factor_111 ?_
      have hr : facD Y e (d + 1) p = ((facD Y e d (p + 1)).1, (facD Y e d (p + 1)).2.1, (facD Y e d (p + 1)).2.2 ++ (if (facD Y e d (p + 1)).1 = true then [-1] else [])) := by rw [facD, if_pos c_2]
      have em := hP3.emit hh (by simp only [List.length_append]; omega) (-1)
      exact ⟨_, _, hO3.tr em.2, Or.inl ⟨rfl, by rw [hr]; exact ok3, by rw [hr]; have := em.1; rw [if_pos ok3]; simpa only [List.append_assoc] using this⟩, rfl, by rw [hr], rfl⟩
    · refine ev_ws (List.append_nil _) ?_
      show Ev G X 0 0 83 [(1, .int (hrF Y e p)), (0, .ref (a 0))] [] (MW G a S3 I F B T R K D hI (nI h) (nI ((facD Y e d (p + 1)).2.1)) (nI e) (nI 1) (nI (o + 1)) mu rd ra ki nu tv) ro
      refine ev_aload_n hC dX12_factor_83 rfl 1 rfl ?_
      refine ev_iconst (v := (-1)) hC dX12_factor_84 (by decide) ?_
      refine ev_callV (As := [.int (-1)]) (st := []) (wf := []) hC cv_X12_84 (m_X12_emitsw G ro a S3 I F B T R K D hI (nI h) (nI ((facD Y e d (p + 1)).2.1)) (nI e) (nI 1) (nI (o + 1)) mu rd ra ki nu tv (-1)) (by omega) rfl rfl (Nat.le_of_ble_eq_true rfl) (List.Perm.of_eq (List.append_nil _).symm) (mw 0 rfl) rfl dX12_factor_85 (by decide) (by decide) ?_
      rintro _ _ _ ⟨rfl, rfl, rfl⟩
      refine ev_ws (List.append_nil _) ?_
      show Ev G X 0 0 88 [(1, .int (hrF Y e p)), (0, .ref (a 0))] [] (MW G a S3 I F B T R K D hI (nI h) (nI ((facD Y e d (p + 1)).2.1)) (nI e) (nI 1) (nI (o + 1)) mu rd ra ki nu tv) ro
      refine ev_goto (tgt := 101) hC dX12_factor_88 (by decide) ?_
      refine ev_aload_n hC dX12_factor_101 rfl 1 rfl ?_
      refine ev_dup hC dX12_factor_102 rfl ?_
      refine ev_get hC fl_X12_78_12 (mw 0 rfl) rfl dX12_factor_103 ?_
      refine ev_iconst (v := (nI 1)) hC dX12_factor_106 (by decide) ?_
      refine ev_isub hC dX12_factor_107 ?_
      refine ev_top (y := (nI o)) ((pk_sub (by omega)).trans (congrArg nI (by omega))) ?_
      refine ev_put (ws' := (MW G a S3 I F B T R K D hI (nI h) (nI ((facD Y e d (p + 1)).2.1)) (nI e) (nI 1) (nI o) mu rd ra ki nu tv)) (q0 := 0) hC fp_X12_78_12 rfl (Nat.le_of_ble_eq_true rfl) rfl rfl rfl dX12_factor_108 ?_
      refine ev_vret hC hR rfl dX12_factor_111 ?_
      have hr : facD Y e (d + 1) p = ((facD Y e d (p + 1)).1, (facD Y e d (p + 1)).2.1, (facD Y e d (p + 1)).2.2 ++ (if (facD Y e d (p + 1)).1 = true then [-1] else [])) := by rw [facD, if_pos c_2]
      exact ⟨_, _, hO3, Or.inr ⟨rfl, by rw [hr]; exact ok3⟩, rfl, by rw [hr], rfl⟩
  · refine ev_iload_n hC dX12_factor_19 rfl 0 rfl ?_
    refine ev_bipush (v := (nI 40)) hC dX12_factor_20 (by decide) ?_
    refine ev_icmp_ne (tgt := 112) hC dX12_factor_22 (by decide) (fun c_6 => ?_) (fun c_6 => ?_)
    · refine ev_aload_n hC dX12_factor_112 rfl 1 rfl ?_
      refine ev_ldcS (tx := "pkvsgd") (i := 6) hC dX12_factor_113 (by decide +kernel) ?_
      refine ev_callV (As := [.ref (gK G 6)]) (st := []) (wf := []) hC cv_X12_92 (m_X12_among G ro a S I F B T R K D hI (nI h) (nI p) (nI e) (nI 0) (nI o) mu rd ra ki nu tv Y e p 6 hT (by omega) (by omega)) (by omega) rfl rfl (Nat.le_of_ble_eq_true rfl) (List.Perm.of_eq (List.append_nil _).symm) (mw 0 rfl) rfl dX12_factor_115 (by decide) (by decide) ?_
      rintro _ _ _ ⟨_, _, ⟨j6, am6, rfl, rfl⟩ | ⟨am6, rfl, rfl⟩, rfl, rfl, rfl⟩
      · refine ev_ws (List.append_nil _) ?_
        show Ev G X 0 0 118 [(1, .int (hrF Y e p)), (0, .ref (a 0))] [.int (nI j6)] (MW G a S I F B T R K D hI (nI h) (nI (p + 1)) (nI e) (nI 0) (nI o) mu rd ra ki nu tv) ro
        have am6' : fndF 6 (hrF Y e p) 6 0 = some j6 := am6
        have am6l := (fndF_le am6').2.1
        have am6p := hr_lt (t := Y) (e := e) (p := p) (c := chN 6 j6) (by have := (chN_eq 6 (by decide) j6 (by have := fndF_le am6'; exact this.2.1)).2; omega) ((fndF_le am6').2.2.trans (chN_eq 6 (by decide) j6 (by have := fndF_le am6'; exact this.2.1)).1)
        refine ev_istore_n (lv' := [(2, .int (nI j6)), (1, .int (hrF Y e p)), (0, .ref (a 0))]) hC dX12_factor_118 rfl (by decide) rfl ?_
        refine ev_aload_n hC dX12_factor_119 rfl 2 rfl ?_
        refine ev_iload_n hC dX12_factor_120 rfl 0 rfl ?_
        refine ev_iconst (v := (-1)) hC dX12_factor_121 (by decide) ?_
        refine ev_icmp_ne (tgt := 129) hC dX12_factor_122 (by decide) (fun c_7 => ?_) (fun c_7 => absurd c_7 (fun q => ne_nI (k := j6) (by omega) (by decide) q.symm))
        refine ev_iconst (v := (nI 0)) hC dX12_factor_129 (by decide) ?_
        refine ev_put (ws' := (MW G a S I F B T R K D hI (nI h) (nI (p + 1)) (nI e) (nI 0) (nI o) mu rd ra ki nu tv)) (q0 := 0) hC fp_X12_54_12 rfl (Nat.le_of_ble_eq_true rfl) (nar_01 (by decide)).1 (nar_01 (by decide)).2.1 rfl dX12_factor_130 ?_
        refine ev_aload_n hC dX12_factor_133 rfl 2 rfl ?_
        refine ev_get hC fl_X12_54_12 (mw 0 rfl) rfl dX12_factor_134 ?_
        refine ev_if_eqN (tgt := 144) hC dX12_factor_137 (by decide) (by omega) (fun c_8 => ?_) (fun c_8 => absurd c_8 (by omega))
        refine ev_aload_n hC dX12_factor_144 rfl 2 rfl ?_
        refine ev_ldcS (tx := "<=>") (i := 7) hC dX12_factor_145 (by decide +kernel) ?_
        refine ev_callV (As := [.ref (gK G 7)]) (st := []) (wf := []) hC cv_X12_92 (m_X12_among G ro a S I F B T R K D hI (nI h) (nI (p + 1)) (nI e) (nI 0) (nI o) mu rd ra ki nu tv Y e (p + 1) 7 hT (by omega) (by omega)) (by omega) rfl rfl (Nat.le_of_ble_eq_true rfl) (List.Perm.of_eq (List.append_nil _).symm) (mw 0 rfl) rfl dX12_factor_147 (by decide) (by decide) ?_
        rintro _ _ _ ⟨_, _, ⟨j7, am7, rfl, rfl⟩ | ⟨am7, rfl, rfl⟩, rfl, rfl, rfl⟩
        · refine ev_ws (List.append_nil _) ?_
          show Ev G X 0 0 150 [(2, .int (nI j6)), (1, .int (hrF Y e p)), (0, .ref (a 0))] [.int (nI j7)] (MW G a S I F B T R K D hI (nI h) (nI (p + 2)) (nI e) (nI 0) (nI o) mu rd ra ki nu tv) ro
          have am7' : fndF 7 (hrF Y e (p + 1)) 3 0 = some j7 := am7
          have am7l := (fndF_le am7').2.1
          have am7p := hr_lt (t := Y) (e := e) (p := (p + 1)) (c := chN 7 j7) (by have := (chN_eq 7 (by decide) j7 (by have := fndF_le am7'; exact this.2.1)).2; omega) ((fndF_le am7').2.2.trans (chN_eq 7 (by decide) j7 (by have := fndF_le am7'; exact this.2.1)).1)
          refine ev_istore_n (lv' := [(3, .int (nI j7)), (2, .int (nI j6)), (1, .int (hrF Y e p)), (0, .ref (a 0))]) hC dX12_factor_150 rfl (by decide) rfl ?_
          refine ev_aload_n hC dX12_factor_151 rfl 3 rfl ?_
          refine ev_aload_n hC dX12_factor_152 rfl 3 rfl ?_
          refine ev_get hC fl_X12_54_12 (mw 0 rfl) rfl dX12_factor_153 ?_
          refine ev_if_neN (tgt := 164) hC dX12_factor_156 (by decide) (by omega) (fun c_9 => absurd c_9 (by omega)) (fun c_9 => ?_)
          refine ev_iload_n hC dX12_factor_159 rfl 0 rfl ?_
          refine ev_iconst (v := (-1)) hC dX12_factor_160 (by decide) ?_
          refine ev_icmp_ne (tgt := 168) hC dX12_factor_161 (by decide) (fun c_10 => ?_) (fun c_10 => absurd c_10 (fun q => ne_nI (k := j7) (by omega) (by decide) q.symm))
          refine ev_iconst (v := (nI 0)) hC dX12_factor_168 (by decide) ?_
          refine ev_put (ws' := (MW G a S I F B T R K D hI (nI h) (nI (p + 2)) (nI e) (nI 0) (nI o) mu rd ra ki nu tv)) (q0 := 0) hC fp_X12_54_12 rfl (Nat.le_of_ble_eq_true rfl) (nar_01 (by decide)).1 (nar_01 (by decide)).2.1 rfl dX12_factor_169 ?_
          refine ev_aload_n hC dX12_factor_172 rfl 3 rfl ?_
          refine ev_callV (As := []) (st := []) (wf := []) hC cv_X12_98 (m_X12_figures G ro a S I F B T R K D hI (nI h) (nI (p + 2)) (nI e) (nI 0) (nI o) mu rd ra ki nu tv Y e (p + 2) hT (by omega)) (by omega) rfl rfl (Nat.le_of_ble_eq_true rfl) (List.Perm.of_eq (List.append_nil _).symm) (mw 0 rfl) rfl dX12_factor_173 (by decide) (by decide) ?_
          rintro _ _ _ ⟨_, ⟨rfl, nu_11⟩ | ⟨rfl, nu_11⟩, rfl, rfl, rfl⟩
          · refine ev_ws (List.append_nil _) ?_
            show Ev G X 0 0 176 [(3, .int (nI j7)), (2, .int (nI j6)), (1, .int (hrF Y e p)), (0, .ref (a 0))] [.int (nI ((numF Y e (p + 2)).2.2))] (MW G a S I F B T R K D hI (nI h) (nI ((numF Y e (p + 2)).2.1)) (nI e) (nI 0) (nI o) mu rd ra ki nu tv) ro
            obtain ⟨nu_111, nu_112, nu_113, nu_114⟩ := numF_p (t := Y) (e := e) (p := (p + 2)) (by omega)
            refine ev_istore (lv' := [(4, .int (nI ((numF Y e (p + 2)).2.2))), (3, .int (nI j7)), (2, .int (nI j6)), (1, .int (hrF Y e p)), (0, .ref (a 0))]) hC dX12_factor_176 (by decide) rfl ?_
            refine ev_aload_n hC dX12_factor_178 rfl 4 rfl ?_
            refine ev_iload_n hC dX12_factor_179 rfl 2 rfl ?_
            refine ev_bipush (v := (nI 8)) hC dX12_factor_180 (by decide) ?_
            refine ev_iload_n hC dX12_factor_182 rfl 1 rfl ?_
            refine ev_imul hC dX12_factor_183 ?_
            refine ev_top (y := (nI (8 * j7))) (pk_mul _ _) ?_
            refine ev_iadd hC dX12_factor_184 ?_
            refine ev_top (y := (nI (j6 + (8 * j7)))) ((nI_add _ _).trans (congrArg nI (by omega))) ?_
            refine ev_bipush (v := (nI 32)) hC dX12_factor_185 (by decide) ?_
            refine ev_iload hC dX12_factor_187 0 rfl ?_
            refine ev_imul hC dX12_factor_189 ?_
            refine ev_top (y := (nI (32 * ((numF Y e (p + 2)).2.2)))) (pk_mul _ _) ?_
            refine ev_iadd hC dX12_factor_190 ?_
            refine ev_top (y := (nI ((j6 + (8 * j7)) + (32 * ((numF Y e (p + 2)).2.2))))) ((nI_add _ _).trans (congrArg nI (by omega))) ?_
            refine ev_callV (As := [.int (nI ((j6 + (8 * j7)) + (32 * ((numF Y e (p + 2)).2.2))))]) (st := []) (wf := []) hC cv_X12_84 (m_X12_emits G ro a S I F B T R K D hI (nI h) (nI ((numF Y e (p + 2)).2.1)) (nI e) (nI 0) (nI o) mu rd ra ki nu tv h l.length (nI ((j6 + (8 * j7)) + (32 * ((numF Y e (p + 2)).2.2)))) hh hP0.1 (by omega)) (by omega) rfl rfl (Nat.le_of_ble_eq_true rfl) (List.Perm.of_eq (List.append_nil _).symm) (mw 0 rfl) rfl dX12_factor_191 (by decide) (by decide) ?_
            rintro _ _ _ ⟨rfl, rfl, rfl⟩
            refine ev_ws (List.append_nil _) ?_
            show Ev G X 0 0 194 [(4, .int (nI ((numF Y e (p + 2)).2.2))), (3, .int (nI j7)), (2, .int (nI j6)), (1, .int (hrF Y e p)), (0, .ref (a 0))] [] (MW G a (upd (upd S (237 + 140 * h + l.length) (nI ((j6 + (8 * j7)) + (32 * ((numF Y e (p + 2)).2.2))))) (232 + h) (nI (l.length + 1))) I F B T R K D hI (nI h) (nI ((numF Y e (p + 2)).2.1)) (nI e) (nI 0) (nI o) mu rd ra ki nu tv) ro
            refine ev_vret hC hR rfl dX12_factor_194 ?_
            have hr0 : facD Y e (d + 1) p = tstF Y e p := by rw [facD, if_neg c_2, if_neg c_6]
            rw [hr0]
            have hr := tst_yes (t := Y) (e := e) (p := p) am6' am7'
            rw [nu_11] at hr
            rw [if_pos rfl] at hr
            exact ⟨_, _, (hP0.emit hh (by omega) _).2, Or.inl ⟨rfl, by rw [hr], by rw [hr]; exact (hP0.emit hh (by omega) _).1⟩, rfl, by rw [hr], rfl⟩
          · refine ev_ws (List.append_nil _) ?_
            show Ev G X 0 0 176 [(3, .int (nI j7)), (2, .int (nI j6)), (1, .int (hrF Y e p)), (0, .ref (a 0))] [.int (nI ((numF Y e (p + 2)).2.2))] (MW G a S I F B T R K D hI (nI h) (nI ((numF Y e (p + 2)).2.1)) (nI e) (nI 1) (nI o) mu rd ra ki nu tv) ro
            obtain ⟨nu_111, nu_112, nu_113, nu_114⟩ := numF_p (t := Y) (e := e) (p := (p + 2)) (by omega)
            refine ev_istore (lv' := [(4, .int (nI ((numF Y e (p + 2)).2.2))), (3, .int (nI j7)), (2, .int (nI j6)), (1, .int (hrF Y e p)), (0, .ref (a 0))]) hC dX12_factor_176 (by decide) rfl ?_
            refine ev_aload_n hC dX12_factor_178 rfl 4 rfl ?_
            refine ev_iload_n hC dX12_factor_179 rfl 2 rfl ?_
            refine ev_bipush (v := (nI 8)) hC dX12_factor_180 (by decide) ?_
            refine ev_iload_n hC dX12_factor_182 rfl 1 rfl ?_
            refine ev_imul hC dX12_factor_183 ?_
            refine ev_top (y := (nI (8 * j7))) (pk_mul _ _) ?_
            refine ev_iadd hC dX12_factor_184 ?_
            refine ev_top (y := (nI (j6 + (8 * j7)))) ((nI_add _ _).trans (congrArg nI (by omega))) ?_
            refine ev_bipush (v := (nI 32)) hC dX12_factor_185 (by decide) ?_
            refine ev_iload hC dX12_factor_187 0 rfl ?_
            refine ev_imul hC dX12_factor_189 ?_
            refine ev_top (y := (nI (32 * ((numF Y e (p + 2)).2.2)))) (pk_mul _ _) ?_
            refine ev_iadd hC dX12_factor_190 ?_
            refine ev_top (y := (nI ((j6 + (8 * j7)) + (32 * ((numF Y e (p + 2)).2.2))))) ((nI_add _ _).trans (congrArg nI (by omega))) ?_
            refine ev_callV (As := [.int (nI ((j6 + (8 * j7)) + (32 * ((numF Y e (p + 2)).2.2))))]) (st := []) (wf := []) hC cv_X12_84 (m_X12_emitsw G ro a S I F B T R K D hI (nI h) (nI ((numF Y e (p + 2)).2.1)) (nI e) (nI 1) (nI o) mu rd ra ki nu tv (nI ((j6 + (8 * j7)) + (32 * ((numF Y e (p + 2)).2.2))))) (by omega) rfl rfl (Nat.le_of_ble_eq_true rfl) (List.Perm.of_eq (List.append_nil _).symm) (mw 0 rfl) rfl dX12_factor_191 (by decide) (by decide) ?_
            rintro _ _ _ ⟨rfl, rfl, rfl⟩
            refine ev_ws (List.append_nil _) ?_
            show Ev G X 0 0 194 [(4, .int (nI ((numF Y e (p + 2)).2.2))), (3, .int (nI j7)), (2, .int (nI j6)), (1, .int (hrF Y e p)), (0, .ref (a 0))] [] (MW G a S I F B T R K D hI (nI h) (nI ((numF Y e (p + 2)).2.1)) (nI e) (nI 1) (nI o) mu rd ra ki nu tv) ro
            refine ev_vret hC hR rfl dX12_factor_194 ?_
            have hr0 : facD Y e (d + 1) p = tstF Y e p := by rw [facD, if_neg c_2, if_neg c_6]
            rw [hr0]
            have hr := tst_yes (t := Y) (e := e) (p := p) am6' am7'
            rw [nu_11] at hr
            exact ⟨_, _, Oth.rf, Or.inr ⟨rfl, by rw [hr]⟩, rfl, by rw [hr], rfl⟩
        · refine ev_ws (List.append_nil _) ?_
          show Ev G X 0 0 150 [(2, .int (nI j6)), (1, .int (hrF Y e p)), (0, .ref (a 0))] [.int (-1)] (MW G a S I F B T R K D hI (nI h) (nI (p + 1)) (nI e) (nI 0) (nI o) mu rd ra ki nu tv) ro
          have am7' : fndF 7 (hrF Y e (p + 1)) 3 0 = none := am7
          refine ev_istore_n (lv' := [(3, .int (-1)), (2, .int (nI j6)), (1, .int (hrF Y e p)), (0, .ref (a 0))]) hC dX12_factor_150 rfl (by decide) rfl ?_
          refine ev_aload_n hC dX12_factor_151 rfl 3 rfl ?_
          refine ev_aload_n hC dX12_factor_152 rfl 3 rfl ?_
          refine ev_get hC fl_X12_54_12 (mw 0 rfl) rfl dX12_factor_153 ?_
          refine ev_if_neN (tgt := 164) hC dX12_factor_156 (by decide) (by omega) (fun c_12 => absurd c_12 (by omega)) (fun c_12 => ?_)
          refine ev_iload_n hC dX12_factor_159 rfl 0 rfl ?_
          refine ev_iconst (v := (-1)) hC dX12_factor_160 (by decide) ?_
          refine ev_icmp_ne (tgt := 168) hC dX12_factor_161 (by decide) (fun c_13 => absurd c_13 (fun q => q rfl)) (fun c_13 => ?_)
          refine ev_iconst (v := (nI 1)) hC dX12_factor_164 (by decide) ?_
          refine ev_goto (tgt := 169) hC dX12_factor_165 (by decide) ?_
          refine ev_put (ws' := (MW G a S I F B T R K D hI (nI h) (nI (p + 1)) (nI e) (nI 1) (nI o) mu rd ra ki nu tv)) (q0 := 0) hC fp_X12_54_12 rfl (Nat.le_of_ble_eq_true rfl) (nar_01 (by decide)).1 (nar_01 (by decide)).2.1 rfl dX12_factor_169 ?_
          refine ev_aload_n hC dX12_factor_172 rfl 3 rfl ?_
          refine ev_callV (As := []) (st := []) (wf := []) hC cv_X12_98 (m_X12_figuresw G ro a S I F B T R K D hI (nI h) (nI (p + 1)) (nI e) (nI 1) (nI o) mu rd ra ki nu tv) (by omega) rfl rfl (Nat.le_of_ble_eq_true rfl) (List.Perm.of_eq (List.append_nil _).symm) (mw 0 rfl) rfl dX12_factor_173 (by decide) (by decide) ?_
          rintro _ _ _ ⟨rfl, rfl, rfl⟩
          refine ev_ws (List.append_nil _) ?_
          show Ev G X 0 0 176 [(3, .int (-1)), (2, .int (nI j6)), (1, .int (hrF Y e p)), (0, .ref (a 0))] [.int (nI 0)] (MW G a S I F B T R K D hI (nI h) (nI (p + 1)) (nI e) (nI 1) (nI o) mu rd ra ki nu tv) ro
          refine ev_istore (lv' := [(4, .int (nI 0)), (3, .int (-1)), (2, .int (nI j6)), (1, .int (hrF Y e p)), (0, .ref (a 0))]) hC dX12_factor_176 (by decide) rfl ?_
          refine ev_aload_n hC dX12_factor_178 rfl 4 rfl ?_
          refine ev_iload_n hC dX12_factor_179 rfl 2 rfl ?_
          refine ev_bipush (v := (nI 8)) hC dX12_factor_180 (by decide) ?_
          refine ev_iload_n hC dX12_factor_182 rfl 1 rfl ?_
          refine ev_imul hC dX12_factor_183 ?_
          refine ev_iadd hC dX12_factor_184 ?_
          refine ev_bipush (v := (nI 32)) hC dX12_factor_185 (by decide) ?_
          refine ev_iload hC dX12_factor_187 0 rfl ?_
          refine ev_imul hC dX12_factor_189 ?_
          refine ev_top (y := (nI 0)) (pk_mul _ _) ?_
          refine ev_iadd hC dX12_factor_190 ?_
          refine ev_callV (As := [.int (((nI j6) + ((nI 8) * (-1))) + (nI 0))]) (st := []) (wf := []) hC cv_X12_84 (m_X12_emitsw G ro a S I F B T R K D hI (nI h) (nI (p + 1)) (nI e) (nI 1) (nI o) mu rd ra ki nu tv (((nI j6) + ((nI 8) * (-1))) + (nI 0))) (by omega) rfl rfl (Nat.le_of_ble_eq_true rfl) (List.Perm.of_eq (List.append_nil _).symm) (mw 0 rfl) rfl dX12_factor_191 (by decide) (by decide) ?_
          rintro _ _ _ ⟨rfl, rfl, rfl⟩
          refine ev_ws (List.append_nil _) ?_
          show Ev G X 0 0 194 [(4, .int (nI 0)), (3, .int (-1)), (2, .int (nI j6)), (1, .int (hrF Y e p)), (0, .ref (a 0))] [] (MW G a S I F B T R K D hI (nI h) (nI (p + 1)) (nI e) (nI 1) (nI o) mu rd ra ki nu tv) ro
          refine ev_vret hC hR rfl dX12_factor_194 ?_
          have hr0 : facD Y e (d + 1) p = tstF Y e p := by rw [facD, if_neg c_2, if_neg c_6]
          rw [hr0]
          have hr := tst_no2 (t := Y) (e := e) (p := p) am6' am7'
          exact ⟨_, _, Oth.rf, Or.inr ⟨rfl, by rw [hr]⟩, rfl, by rw [hr], rfl⟩
      · refine ev_ws (List.append_nil _) ?_
        show Ev G X 0 0 118 [(1, .int (hrF Y e p)), (0, .ref (a 0))] [.int (-1)] (MW G a S I F B T R K D hI (nI h) (nI p) (nI e) (nI 0) (nI o) mu rd ra ki nu tv) ro
        have am6' : fndF 6 (hrF Y e p) 6 0 = none := am6
        refine ev_istore_n (lv' := [(2, .int (-1)), (1, .int (hrF Y e p)), (0, .ref (a 0))]) hC dX12_factor_118 rfl (by decide) rfl ?_
        refine ev_aload_n hC dX12_factor_119 rfl 2 rfl ?_
        refine ev_iload_n hC dX12_factor_120 rfl 0 rfl ?_
        refine ev_iconst (v := (-1)) hC dX12_factor_121 (by decide) ?_
        refine ev_icmp_ne (tgt := 129) hC dX12_factor_122 (by decide) (fun c_14 => absurd c_14 (fun q => q rfl)) (fun c_14 => ?_)
        refine ev_iconst (v := (nI 1)) hC dX12_factor_125 (by decide) ?_
        refine ev_goto (tgt := 130) hC dX12_factor_126 (by decide) ?_
        refine ev_put (ws' := (MW G a S I F B T R K D hI (nI h) (nI p) (nI e) (nI 1) (nI o) mu rd ra ki nu tv)) (q0 := 0) hC fp_X12_54_12 rfl (Nat.le_of_ble_eq_true rfl) (nar_01 (by decide)).1 (nar_01 (by decide)).2.1 rfl dX12_factor_130 ?_
        refine ev_aload_n hC dX12_factor_133 rfl 2 rfl ?_
        refine ev_get hC fl_X12_54_12 (mw 0 rfl) rfl dX12_factor_134 ?_
        refine ev_if_eqN (tgt := 144) hC dX12_factor_137 (by decide) (by omega) (fun c_15 => absurd c_15 (by omega)) (fun c_15 => ?_)
        refine ev_iconst (v := (nI 0)) hC dX12_factor_140 (by decide) ?_
        refine ev_goto (tgt := 150) hC dX12_factor_141 (by decide) ?_
        refine ev_istore_n (lv' := [(3, .int (nI 0)), (2, .int (-1)), (1, .int (hrF Y e p)), (0, .ref (a 0))]) hC dX12_factor_150 rfl (by decide) rfl ?_
        refine ev_aload_n hC dX12_factor_151 rfl 3 rfl ?_
        refine ev_aload_n hC dX12_factor_152 rfl 3 rfl ?_
        refine ev_get hC fl_X12_54_12 (mw 0 rfl) rfl dX12_factor_153 ?_
        refine ev_if_neN (tgt := 164) hC dX12_factor_156 (by decide) (by omega) (fun c_16 => ?_) (fun c_16 => absurd c_16 (by omega))
        refine ev_iconst (v := (nI 1)) hC dX12_factor_164 (by decide) ?_
        refine ev_goto (tgt := 169) hC dX12_factor_165 (by decide) ?_
        refine ev_put (ws' := (MW G a S I F B T R K D hI (nI h) (nI p) (nI e) (nI 1) (nI o) mu rd ra ki nu tv)) (q0 := 0) hC fp_X12_54_12 rfl (Nat.le_of_ble_eq_true rfl) (nar_01 (by decide)).1 (nar_01 (by decide)).2.1 rfl dX12_factor_169 ?_
        refine ev_aload_n hC dX12_factor_172 rfl 3 rfl ?_
        refine ev_callV (As := []) (st := []) (wf := []) hC cv_X12_98 (m_X12_figuresw G ro a S I F B T R K D hI (nI h) (nI p) (nI e) (nI 1) (nI o) mu rd ra ki nu tv) (by omega) rfl rfl (Nat.le_of_ble_eq_true rfl) (List.Perm.of_eq (List.append_nil _).symm) (mw 0 rfl) rfl dX12_factor_173 (by decide) (by decide) ?_
        rintro _ _ _ ⟨rfl, rfl, rfl⟩
        refine ev_ws (List.append_nil _) ?_
        show Ev G X 0 0 176 [(3, .int (nI 0)), (2, .int (-1)), (1, .int (hrF Y e p)), (0, .ref (a 0))] [.int (nI 0)] (MW G a S I F B T R K D hI (nI h) (nI p) (nI e) (nI 1) (nI o) mu rd ra ki nu tv) ro
        refine ev_istore (lv' := [(4, .int (nI 0)), (3, .int (nI 0)), (2, .int (-1)), (1, .int (hrF Y e p)), (0, .ref (a 0))]) hC dX12_factor_176 (by decide) rfl ?_
        refine ev_aload_n hC dX12_factor_178 rfl 4 rfl ?_
        refine ev_iload_n hC dX12_factor_179 rfl 2 rfl ?_
        refine ev_bipush (v := (nI 8)) hC dX12_factor_180 (by decide) ?_
        refine ev_iload_n hC dX12_factor_182 rfl 1 rfl ?_
        refine ev_imul hC dX12_factor_183 ?_
        refine ev_top (y := (nI 0)) (pk_mul _ _) ?_
        refine ev_iadd hC dX12_factor_184 ?_
        refine ev_bipush (v := (nI 32)) hC dX12_factor_185 (by decide) ?_
        refine ev_iload hC dX12_factor_187 0 rfl ?_
        refine ev_imul hC dX12_factor_189 ?_
        refine ev_top (y := (nI 0)) (pk_mul _ _) ?_
        refine ev_iadd hC dX12_factor_190 ?_
        refine ev_callV (As := [.int (((-1) + (nI 0)) + (nI 0))]) (st := []) (wf := []) hC cv_X12_84 (m_X12_emitsw G ro a S I F B T R K D hI (nI h) (nI p) (nI e) (nI 1) (nI o) mu rd ra ki nu tv (((-1) + (nI 0)) + (nI 0))) (by omega) rfl rfl (Nat.le_of_ble_eq_true rfl) (List.Perm.of_eq (List.append_nil _).symm) (mw 0 rfl) rfl dX12_factor_191 (by decide) (by decide) ?_
        rintro _ _ _ ⟨rfl, rfl, rfl⟩
        refine ev_ws (List.append_nil _) ?_
        show Ev G X 0 0 194 [(4, .int (nI 0)), (3, .int (nI 0)), (2, .int (-1)), (1, .int (hrF Y e p)), (0, .ref (a 0))] [] (MW G a S I F B T R K D hI (nI h) (nI p) (nI e) (nI 1) (nI o) mu rd ra ki nu tv) ro
        refine ev_vret hC hR rfl dX12_factor_194 ?_
        have hr0 : facD Y e (d + 1) p = tstF Y e p := by rw [facD, if_neg c_2, if_neg c_6]
        rw [hr0]
        have hr := tst_no (t := Y) (e := e) (p := p) am6'
        exact ⟨_, _, Oth.rf, Or.inr ⟨rfl, by rw [hr]⟩, rfl, by rw [hr], rfl⟩
    · refine ev_aload_n hC dX12_factor_25 rfl 1 rfl ?_
      refine ev_aload_n hC dX12_factor_26 rfl 1 rfl ?_
      refine ev_get hC fl_X12_78_12 (mw 0 rfl) rfl dX12_factor_27 ?_
      refine ev_iconst (v := (nI 5)) hC dX12_factor_30 (by decide) ?_
      refine ev_icmp_neN (tgt := 38) hC dX12_factor_31 (by decide) (by omega) (by omega) (fun c_17 => ?_) (fun c_17 => absurd c_17 (by omega))
      refine ev_iconst (v := (nI 0)) hC dX12_factor_38 (by decide) ?_
      refine ev_put (ws' := (MW G a S I F B T R K D hI (nI h) (nI p) (nI e) (nI 0) (nI o) mu rd ra ki nu tv)) (q0 := 0) hC fp_X12_54_12 rfl (Nat.le_of_ble_eq_true rfl) (nar_01 (by decide)).1 (nar_01 (by decide)).2.1 rfl dX12_factor_39 ?_
      refine ev_aload_n hC dX12_factor_42 rfl 1 rfl ?_
      refine ev_dup hC dX12_factor_43 rfl ?_
      refine ev_get hC fl_X12_78_12 (mw 0 rfl) rfl dX12_factor_44 ?_
      refine ev_iconst (v := (nI 1)) hC dX12_factor_47 (by decide) ?_
      refine ev_iadd hC dX12_factor_48 ?_
      refine ev_top (y := (nI (o + 1))) ((nI_add _ _).trans (congrArg nI (by omega))) ?_
      refine ev_put (ws' := (MW G a S I F B T R K D hI (nI h) (nI p) (nI e) (nI 0) (nI (o + 1)) mu rd ra ki nu tv)) (q0 := 0) hC fp_X12_78_12 rfl (Nat.le_of_ble_eq_true rfl) rfl rfl rfl dX12_factor_49 ?_
      refine ev_aload_n hC dX12_factor_52 rfl 1 rfl ?_
      refine ev_dup hC dX12_factor_53 rfl ?_
      refine ev_get hC fl_X12_48_12 (mw 0 rfl) rfl dX12_factor_54 ?_
      refine ev_aload_n hC dX12_factor_57 rfl 1 rfl ?_
      refine ev_get hC fl_X12_54_12 (mw 0 rfl) rfl dX12_factor_58 ?_
      refine ev_if_eqN (tgt := 68) hC dX12_factor_61 (by decide) (by omega) (fun c_18 => ?_) (fun c_18 => absurd c_18 (by omega))
      refine ev_iconst (v := (nI 1)) hC dX12_factor_68 (by decide) ?_
      refine ev_iadd hC dX12_factor_69 ?_
      refine ev_top (y := (nI (p + 1))) ((nI_add _ _).trans (congrArg nI (by omega))) ?_
      refine ev_put (ws' := (MW G a S I F B T R K D hI (nI h) (nI (p + 1)) (nI e) (nI 0) (nI (o + 1)) mu rd ra ki nu tv)) (q0 := 0) hC fp_X12_48_12 rfl (Nat.le_of_ble_eq_true rfl) rfl rfl rfl dX12_factor_70 ?_
      refine ev_iload_n hC dX12_factor_73 rfl 0 rfl ?_
      refine ev_bipush (v := (nI 33)) hC dX12_factor_74 (by decide) ?_
      refine ev_icmp_ne (tgt := 91) hC dX12_factor_76 (by decide) (fun c_19 => ?_) (fun c_19 => absurd c_19 (fun q => c_2 q))
      have hlt := (hr_lt (by decide) c_6).1
      obtain ⟨g1, g2, g3, g4⟩ := somF_p (t := Y) (e := e) (fac := facD Y e d) (fun p hp => facD_p d hp) (p := p + 1) (by omega)
      refine ev_aload_n hC dX12_factor_91 rfl 1 rfl ?_
      refine ev_callV (As := []) (st := []) (wf := []) hC cv_X12_87 (hs ro a S I F B T R K D hI mu rd ra ki nu tv Y e (p + 1) l hT (by omega) hP0 (by omega)) (by omega) rfl rfl (Nat.le_of_ble_eq_true rfl) (List.Perm.of_eq (List.append_nil _).symm) (mw 0 rfl) rfl dX12_factor_92 (by decide) (by decide) ?_
      rintro _ _ _ ⟨S3, _, hO3, ⟨rfl, ok3, hP3⟩ | ⟨rfl, ok3⟩, rfl, rfl, rfl⟩
      · refine ev_ws (List.append_nil _) ?_
        show Ev G X 0 0 95 [(1, .int (hrF Y e p)), (0, .ref (a 0))] [] (MW G a S3 I F B T R K D hI (nI h) (nI ((somF Y e (facD Y e d) (p + 1)).2.1)) (nI e) (nI 0) (nI (o + 1)) mu rd ra ki nu tv) ro
        refine ev_aload_n hC dX12_factor_95 rfl 1 rfl ?_
        refine ev_bipush (v := (nI 41)) hC dX12_factor_96 (by decide) ?_
        refine ev_callV (As := [.int (nI 41)]) (st := []) (wf := []) hC cv_X12_71 (m_X12_must G ro a S3 I F B T R K D hI (nI h) (nI ((somF Y e (facD Y e d) (p + 1)).2.1)) (nI e) (nI 0) (nI (o + 1)) mu rd ra ki nu tv Y e ((somF Y e (facD Y e d) (p + 1)).2.1) 41 (hT.oth hO3) (by omega)) (by omega) rfl rfl (Nat.le_of_ble_eq_true rfl) (List.Perm.of_eq (List.append_nil _).symm) (mw 0 rfl) rfl dX12_factor_98 (by decide) (by decide) ?_
        rintro _ _ _ ⟨_, _, ⟨rfl, rfl, m_20⟩ | ⟨rfl, rfl, m_20⟩, rfl, rfl, rfl⟩
        · refine ev_ws (List.append_nil _) ?_
          show Ev G X 0 0 101 [(1, .int (hrF Y e p)), (0, .ref (a 0))] [] (MW G a S3 I F B T R K D hI (nI h) (nI (((somF Y e (facD Y e d) (p + 1)).2.1) + 1)) (nI e) (nI 0) (nI (o + 1)) mu rd ra ki nu tv) ro
          have lm_20 := (hr_lt (by omega) m_20).1
          refine ev_aload_n hC dX12_factor_101 rfl 1 rfl ?_
          refine ev_dup hC dX12_factor_102 rfl ?_
          refine ev_get hC fl_X12_78_12 (mw 0 rfl) rfl dX12_factor_103 ?_
          refine ev_iconst (v := (nI 1)) hC dX12_factor_106 (by decide) ?_
          refine ev_isub hC dX12_factor_107 ?_
          refine ev_top (y := (nI o)) ((pk_sub (by omega)).trans (congrArg nI (by omega))) ?_
          refine ev_put (ws' := (MW G a S3 I F B T R K D hI (nI h) (nI (((somF Y e (facD Y e d) (p + 1)).2.1) + 1)) (nI e) (nI 0) (nI o) mu rd ra ki nu tv)) (q0 := 0) hC fp_X12_78_12 rfl (Nat.le_of_ble_eq_true rfl) rfl rfl rfl dX12_factor_108 ?_
          refine ev_vret hC hR rfl dX12_factor_111 ?_
          have hr : facD Y e (d + 1) p = (true, (somF Y e (facD Y e d) (p + 1)).2.1 + 1, (somF Y e (facD Y e d) (p + 1)).2.2) := by rw [facD, if_neg c_2, if_pos c_6, if_pos ⟨ok3, m_20⟩]
          exact ⟨_, _, hO3, Or.inl ⟨rfl, by rw [hr], by rw [hr]; exact hP3⟩, rfl, by rw [hr], rfl⟩
        · refine ev_ws (List.append_nil _) ?_
          show Ev G X 0 0 101 [(1, .int (hrF Y e p)), (0, .ref (a 0))] [] (MW G a S3 I F B T R K D hI (nI h) (nI ((somF Y e (facD Y e d) (p + 1)).2.1)) (nI e) (nI 1) (nI (o + 1)) mu rd ra ki nu tv) ro
          refine ev_aload_n hC dX12_factor_101 rfl 1 rfl ?_
          refine ev_dup hC dX12_factor_102 rfl ?_
          refine ev_get hC fl_X12_78_12 (mw 0 rfl) rfl dX12_factor_103 ?_
          refine ev_iconst (v := (nI 1)) hC dX12_factor_106 (by decide) ?_
          refine ev_isub hC dX12_factor_107 ?_
          refine ev_top (y := (nI o)) ((pk_sub (by omega)).trans (congrArg nI (by omega))) ?_
          refine ev_put (ws' := (MW G a S3 I F B T R K D hI (nI h) (nI ((somF Y e (facD Y e d) (p + 1)).2.1)) (nI e) (nI 1) (nI o) mu rd ra ki nu tv)) (q0 := 0) hC fp_X12_78_12 rfl (Nat.le_of_ble_eq_true rfl) rfl rfl rfl dX12_factor_108 ?_
          refine ev_vret hC hR rfl dX12_factor_111 ?_
          have hr : facD Y e (d + 1) p = (false, (somF Y e (facD Y e d) (p + 1)).2.1, (somF Y e (facD Y e d) (p + 1)).2.2) := by rw [facD, if_neg c_2, if_pos c_6, if_neg (fun z => m_20 z.2)]
          exact ⟨_, _, hO3, Or.inr ⟨rfl, by rw [hr]⟩, rfl, by rw [hr], rfl⟩
      · refine ev_ws (List.append_nil _) ?_
        show Ev G X 0 0 95 [(1, .int (hrF Y e p)), (0, .ref (a 0))] [] (MW G a S3 I F B T R K D hI (nI h) (nI ((somF Y e (facD Y e d) (p + 1)).2.1)) (nI e) (nI 1) (nI (o + 1)) mu rd ra ki nu tv) ro
        refine ev_aload_n hC dX12_factor_95 rfl 1 rfl ?_
        refine ev_bipush (v := (nI 41)) hC dX12_factor_96 (by decide) ?_
        refine ev_callV (As := [.int (nI 41)]) (st := []) (wf := []) hC cv_X12_71 (m_X12_mustw G ro a S3 I F B T R K D hI (nI h) (nI ((somF Y e (facD Y e d) (p + 1)).2.1)) (nI e) (nI 1) (nI (o + 1)) mu rd ra ki nu tv 41 ((somF Y e (facD Y e d) (p + 1)).2.1)) (by omega) rfl rfl (Nat.le_of_ble_eq_true rfl) (List.Perm.of_eq (List.append_nil _).symm) (mw 0 rfl) rfl dX12_factor_98 (by decide) (by decide) ?_
        rintro _ _ _ ⟨rfl, rfl, rfl⟩
        refine ev_ws (List.append_nil _) ?_
        show Ev G X 0 0 101 [(1, .int (hrF Y e p)), (0, .ref (a 0))] [] (MW G a S3 I F B T R K D hI (nI h) (nI ((somF Y e (facD Y e d) (p + 1)).2.1)) (nI e) (nI 1) (nI (o + 1)) mu rd ra ki nu tv) ro
        refine ev_aload_n hC dX12_factor_101 rfl 1 rfl ?_
        refine ev_dup hC dX12_factor_102 rfl ?_
        refine ev_get hC fl_X12_78_12 (mw 0 rfl) rfl dX12_factor_103 ?_
        refine ev_iconst (v := (nI 1)) hC dX12_factor_106 (by decide) ?_
        refine ev_isub hC dX12_factor_107 ?_
        refine ev_top (y := (nI o)) ((pk_sub (by omega)).trans (congrArg nI (by omega))) ?_
        refine ev_put (ws' := (MW G a S3 I F B T R K D hI (nI h) (nI ((somF Y e (facD Y e d) (p + 1)).2.1)) (nI e) (nI 1) (nI o) mu rd ra ki nu tv)) (q0 := 0) hC fp_X12_78_12 rfl (Nat.le_of_ble_eq_true rfl) rfl rfl rfl dX12_factor_108 ?_
        refine ev_vret hC hR rfl dX12_factor_111 ?_
        have hr : facD Y e (d + 1) p = (false, (somF Y e (facD Y e d) (p + 1)).2.1, (somF Y e (facD Y e d) (p + 1)).2.2) := by rw [facD, if_neg c_2, if_pos c_6, if_neg (fun z => by rw [ok3] at z; exact absurd z.1 (by decide))]
        exact ⟨_, _, hO3, Or.inr ⟨rfl, by rw [hr]⟩, rfl, by rw [hr], rfl⟩

/-- the reference reads a factor: d more may be open -/
theorem fac_all {G : GG} {h : Nat} (hh : h ≤ 4) : ∀ (d o : Nat), o + d = 5 → PartK G M_X12_factor (6 + 3 * d) h o (fun Y e => facD Y e d)
  | 0, o, ho => by
    obtain rfl : o = 5 := by omega
    exact fun ro a S I F B T R K D hI mu rd ra ki nu tv Y e p l hT hp hP hl => m_X12_fac0 G ro h hh a S I F B T R K D hI mu rd ra ki nu tv Y e p l hT hp hP hl
  | d + 1, o, ho => by
    have hf := fac_all (G := G) hh d (o + 1) (by omega)
    have hs := some_of hh (by omega) hf (fun Y e p hp => facD_p d hp)
    exact fun ro a S I F B T R K D hI mu rd ra ki nu tv Y e p l hT hp hP hl => m_X12_facS G ro h o d hh (by omega) hf hs a S I F B T R K D hI mu rd ra ki nu tv Y e p l hT hp hP hl
/-- the reference reads an E -/
theorem som_all {G : GG} {h : Nat} (hh : h ≤ 4) : PartK G M_X12_some 23 h 0 (fun Y e => somF Y e (facD Y e 5)) := some_of hh (by omega) (fac_all hh 5 0 rfl) (fun Y e p hp => facD_p 5 hp)
