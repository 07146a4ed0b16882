def sqF (t : Nat → Int32) (e c : Nat) (code : Int32) (fac : Nat → RE) (p : Nat) : RE := loopF t e fac c code 101 (fac p)

set_option maxHeartbeats 4000000 in
set_option maxRecDepth 100000 in
theorem m_X12_every (G : GG) (ro : va_W) (h o dd : Nat) (hh : h ≤ 4) (h5 : 5 ≤ dd) (fac : (Nat → Int32) → Nat → Nat → RE) (hf : PartK G M_X12_factor dd h o fac) (a : Nat → Nat) (S I F B T R K D : Nat → Int32) (hI mu rd ra ki nu tv : Int32) (Y : Nat → Int32) (e p : Nat) (l : List Int32) (hT : TPE S Y e) (hp : p ≤ e) (hP0 : PSt S h l) (hl : l.length ≤ p) (hF : ∀ p, p ≤ e → Fgo e p (fac Y e p)) : Mth G M_X12_every (dd + 1) 0 0 [.ref (a 0)] (MW G a S I F B T R K D hI (nI h) (nI p) (nI e) (nI 0) (nI o) mu rd ra ki nu tv) ro (fun r ws' ro' => ∃ (S' : Nat → Int32), ∃ (w' : Int32), Oth h S S' ∧ ((w' = nI 0 ∧ (evrF Y e (fac Y e) p).1 = true ∧ PSt S' h (l ++ (evrF Y e (fac Y e) p).2.2)) ∨ (w' = nI 1 ∧ (evrF Y e (fac Y e) p).1 = false)) ∧ r = none ∧ ws' = (MW G a S' I F B T R K D hI (nI h) (nI ((evrF Y e (fac Y e) p).2.1)) (nI e) w' (nI o) mu rd ra ki nu tv) ∧ ro = ro') := by
  refine mth_of (by decide +kernel) (Nat.le_of_ble_eq_true rfl) (fun X hC hR => ?_)
  have he := hT.1
  obtain ⟨f1, f2, f3, f4⟩ := hF p hp
  show Ev G X 0 0 0 [(0, .ref (a 0))] [] (MW G a S I F B T R K D hI (nI h) (nI p) (nI e) (nI 0) (nI o) mu rd ra ki nu tv) ro
  refine ev_aload_n hC dX12_every_0 rfl 0 rfl ?_
  refine ev_callV (As := []) (st := []) (wf := []) hC cv_X12_81 (hf ro a S I F B T R K D hI mu rd ra ki nu tv Y e p l hT hp hP0 hl) (by omega) rfl rfl (Nat.le_of_ble_eq_true rfl) (List.Perm.of_eq (List.append_nil _).symm) (mw 0 rfl) rfl dX12_every_1 (by decide) (by decide) ?_
  rintro _ _ _ ⟨S1, w1, hO1, hc1, rfl, rfl, rfl⟩
  refine ev_ws (List.append_nil _) ?_
  show Ev G X 0 0 4 [(0, .ref (a 0))] [] (MW G a S1 I F B T R K D hI (nI h) (nI ((fac Y e p).2.1)) (nI e) w1 (nI o) mu rd ra ki nu tv) ro
  have lp_4 : ∀ (fu_4 : Nat) (S2 : Nat → Int32) (w : Int32) (r : RE) (n : Nat) (hLp : LpI S S2 h l w r) (hb : loopF Y e (fac Y e) 38 ((-2)) n r = evrF Y e (fac Y e) p) (hn2 : e - r.2.1 < n) (hq : r.2.1 ≤ e) (hlen : l.length + r.2.2.length ≤ r.2.1) (hn : n < fu_4), Ev G X 0 0 4 [(0, .ref (a 0))] [] (MW G a S2 I F B T R K D hI (nI h) (nI r.2.1) (nI e) w (nI o) mu rd ra ki nu tv) ro := by
    intro fu_4
    induction fu_4 with
    | zero => intro S2 w r n hLp hb hn2 hq hlen hn; exact absurd hn (Nat.not_lt_zero _)
    | succ fu_4 ih =>
      intro S2 w r n hLp hb hn2 hq hlen hn
      obtain ⟨hO, hw⟩ := hLp
      rcases hw with ⟨rfl, ok, hP⟩ | ⟨rfl, ok⟩
      · refine ev_aload_n hC dX12_every_4 rfl 0 rfl ?_
        refine ev_get hC fl_X12_54_12 (mw 0 rfl) rfl dX12_every_5 ?_
        refine ev_if_neN (tgt := 43) hC dX12_every_8 (by decide) (by omega) (fun c_1 => absurd c_1 (by omega)) (fun c_1 => ?_)
        refine ev_aload_n hC dX12_every_11 rfl 0 rfl ?_
        refine ev_callV (As := []) (st := []) (wf := []) hC cv_X12_58 (m_X12_here G ro a S2 I F B T R K D hI (nI h) (nI r.2.1) (nI e) (nI 0) (nI o) mu rd ra ki nu tv Y e r.2.1 (hT.oth hO) (by omega)) (by omega) rfl rfl (Nat.le_of_ble_eq_true rfl) (List.Perm.of_eq (List.append_nil _).symm) (mw 0 rfl) rfl dX12_every_12 (by decide) (by decide) ?_
        rintro _ _ _ ⟨rfl, rfl, rfl⟩
        refine ev_ws (List.append_nil _) ?_
        show Ev G X 0 0 15 [(0, .ref (a 0))] [.int (hrF Y e r.2.1)] (MW G a S2 I F B T R K D hI (nI h) (nI r.2.1) (nI e) (nI 0) (nI o) mu rd ra ki nu tv) ro
        refine ev_bipush (v := (nI 38)) hC dX12_every_15 (by decide) ?_
        refine ev_icmp_ne (tgt := 43) hC dX12_every_17 (by decide) (fun c_2 => ?_) (fun c_2 => ?_)
        · refine ev_vret hC hR rfl dX12_every_43 ?_
          have hr : evrF Y e (fac Y e) p = r := by rw [← hb]; exact loopF_f (fun z => absurd z.2 (by assumption)) n
          exact ⟨_, _, hO, by rw [hr]; exact Or.inl ⟨rfl, ok, hP⟩, rfl, by rw [hr], rfl⟩
        · have hlt := (hr_lt (by decide) (by assumption : hrF Y e r.2.1 = nI 38)).1
          obtain ⟨g1, g2, g3, g4⟩ := hF (r.2.1 + 1) (by omega)
          refine ev_aload_n hC dX12_every_20 rfl 0 rfl ?_
          refine ev_dup hC dX12_every_21 rfl ?_
          refine ev_get hC fl_X12_48_12 (mw 0 rfl) rfl dX12_every_22 ?_
          refine ev_iconst (v := (nI 1)) hC dX12_every_25 (by decide) ?_
          refine ev_iadd hC dX12_every_26 ?_
          refine ev_top (y := (nI (r.2.1 + 1))) ((nI_add _ _).trans (congrArg nI (by omega))) ?_
          refine ev_put (ws' := (MW G a S2 I F B T R K D hI (nI h) (nI (r.2.1 + 1)) (nI e) (nI 0) (nI o) mu rd ra ki nu tv)) (q0 := 0) hC fp_X12_48_12 rfl (Nat.le_of_ble_eq_true rfl) rfl rfl rfl dX12_every_27 ?_
          refine ev_aload_n hC dX12_every_30 rfl 0 rfl ?_
          refine ev_callV (As := []) (st := []) (wf := []) hC cv_X12_81 (hf ro a S2 I F B T R K D hI mu rd ra ki nu tv Y e (r.2.1 + 1) (l ++ r.2.2) (hT.oth hO) (by omega) hP (by rw [List.length_append]; omega)) (by omega) rfl rfl (Nat.le_of_ble_eq_true rfl) (List.Perm.of_eq (List.append_nil _).symm) (mw 0 rfl) rfl dX12_every_31 (by decide) (by decide) ?_
          rintro _ _ _ ⟨S3, _, hO3, ⟨rfl, ok3, hP3⟩ | ⟨rfl, ok3⟩, rfl, rfl, rfl⟩
          · refine ev_ws (List.append_nil _) ?_
            show Ev G X 0 0 34 [(0, .ref (a 0))] [] (MW G a S3 I F B T R K D hI (nI h) (nI ((fac Y e (r.2.1 + 1)).2.1)) (nI e) (nI 0) (nI o) mu rd ra ki nu tv) ro
            refine ev_aload_n hC dX12_every_34 rfl 0 rfl ?_
            refine ev_bipush (v := (-2)) hC dX12_every_35 (by decide) ?_
            refine ev_callV (As := [.int (-2)]) (st := []) (wf := []) hC cv_X12_84 (m_X12_emits G ro a S3 I F B T R K D hI (nI h) (nI ((fac Y e (r.2.1 + 1)).2.1)) (nI e) (nI 0) (nI o) mu rd ra ki nu tv h (l ++ r.2.2 ++ (fac Y e (r.2.1 + 1)).2.2).length (-2) hh hP3.1 (by simp only [List.length_append]; omega)) (by omega) rfl rfl (Nat.le_of_ble_eq_true rfl) (List.Perm.of_eq (List.append_nil _).symm) (mw 0 rfl) rfl dX12_every_37 (by decide) (by decide) ?_
            rintro _ _ _ ⟨rfl, rfl, rfl⟩
            refine ev_ws (List.append_nil _) ?_
            show Ev G X 0 0 40 [(0, .ref (a 0))] [] (MW G a (upd (upd S3 (237 + 140 * h + (l ++ r.2.2 ++ (fac Y e (r.2.1 + 1)).2.2).length) (-2)) (232 + h) (nI ((l ++ r.2.2 ++ (fac Y e (r.2.1 + 1)).2.2).length + 1))) I F B T R K D hI (nI h) (nI ((fac Y e (r.2.1 + 1)).2.1)) (nI e) (nI 0) (nI o) mu rd ra ki nu tv) ro
            refine ev_goto (tgt := 4) hC dX12_every_40 (by decide) ?_
            exact ih (upd (upd S3 (237 + 140 * h + (l ++ r.2.2 ++ (fac Y e (r.2.1 + 1)).2.2).length) (-2)) (232 + h) (nI ((l ++ r.2.2 ++ (fac Y e (r.2.1 + 1)).2.2).length + 1))) (nI 0) ((fac Y e (r.2.1 + 1)).1, (fac Y e (r.2.1 + 1)).2.1, r.2.2 ++ ((fac Y e (r.2.1 + 1)).2.2 ++ (if (fac Y e (r.2.1 + 1)).1 = true then [(-2)] else []))) (n - 1) ⟨(hO.tr hO3).tr (hP3.emit hh (by simp only [List.length_append]; omega) ((-2))).2, Or.inl ⟨rfl, ok3, by have := (hP3.emit hh (by simp only [List.length_append]; omega) ((-2))).1; rw [if_pos ok3]; simpa only [List.append_assoc] using this⟩⟩ ((loopF_t ok (by assumption) (by omega)).symm.trans hb) (by simp only; omega) g2 (by simp only [List.length_append]; split <;> simp only [List.length_cons, List.length_nil] <;> omega) (by omega)
          · refine ev_ws (List.append_nil _) ?_
            show Ev G X 0 0 34 [(0, .ref (a 0))] [] (MW G a S3 I F B T R K D hI (nI h) (nI ((fac Y e (r.2.1 + 1)).2.1)) (nI e) (nI 1) (nI o) mu rd ra ki nu tv) ro
            refine ev_aload_n hC dX12_every_34 rfl 0 rfl ?_
            refine ev_bipush (v := (-2)) hC dX12_every_35 (by decide) ?_
            refine ev_callV (As := [.int (-2)]) (st := []) (wf := []) hC cv_X12_84 (m_X12_emitsw G ro a S3 I F B T R K D hI (nI h) (nI ((fac Y e (r.2.1 + 1)).2.1)) (nI e) (nI 1) (nI o) mu rd ra ki nu tv (-2)) (by omega) rfl rfl (Nat.le_of_ble_eq_true rfl) (List.Perm.of_eq (List.append_nil _).symm) (mw 0 rfl) rfl dX12_every_37 (by decide) (by decide) ?_
            rintro _ _ _ ⟨rfl, rfl, rfl⟩
            refine ev_ws (List.append_nil _) ?_
            show Ev G X 0 0 40 [(0, .ref (a 0))] [] (MW G a S3 I F B T R K D hI (nI h) (nI ((fac Y e (r.2.1 + 1)).2.1)) (nI e) (nI 1) (nI o) mu rd ra ki nu tv) ro
            refine ev_goto (tgt := 4) hC dX12_every_40 (by decide) ?_
            exact ih S3 (nI 1) ((fac Y e (r.2.1 + 1)).1, (fac Y e (r.2.1 + 1)).2.1, r.2.2 ++ ((fac Y e (r.2.1 + 1)).2.2 ++ (if (fac Y e (r.2.1 + 1)).1 = true then [(-2)] else []))) (n - 1) ⟨hO.tr hO3, Or.inr ⟨rfl, ok3⟩⟩ ((loopF_t ok (by assumption) (by omega)).symm.trans hb) (by simp only; omega) g2 (by simp only [List.length_append]; split <;> simp only [List.length_cons, List.length_nil] <;> omega) (by omega)
      · refine ev_aload_n hC dX12_every_4 rfl 0 rfl ?_
        refine ev_get hC fl_X12_54_12 (mw 0 rfl) rfl dX12_every_5 ?_
        refine ev_if_neN (tgt := 43) hC dX12_every_8 (by decide) (by omega) (fun c_3 => ?_) (fun c_3 => absurd c_3 (by omega))
        refine ev_vret hC hR rfl dX12_every_43 ?_
        have hr : evrF Y e (fac Y e) p = r := by rw [← hb]; exact loopF_f (fun z => by rw [ok] at z; exact absurd z.1 (by decide)) n
        exact ⟨_, _, hO, by rw [hr]; exact Or.inr ⟨rfl, ok⟩, rfl, by rw [hr], rfl⟩
  exact lp_4 (101 + 1) S1 w1 (fac Y e p) 101 ⟨hO1, hc1⟩ rfl (by omega) f2 (by omega) (Nat.lt_succ_self _)

set_option maxHeartbeats 4000000 in
set_option maxRecDepth 100000 in
theorem m_X12_some (G : GG) (ro : va_W) (h o dd : Nat) (hh : h ≤ 4) (h5 : 5 ≤ dd) (fac : (Nat → Int32) → Nat → Nat → RE) (hf : PartK G M_X12_every dd h o fac) (a : Nat → Nat) (S I F B T R K D : Nat → Int32) (hI mu rd ra ki nu tv : Int32) (Y : Nat → Int32) (e p : Nat) (l : List Int32) (hT : TPE S Y e) (hp : p ≤ e) (hP0 : PSt S h l) (hl : l.length ≤ p) (hF : ∀ p, p ≤ e → Fgo e p (fac Y e p)) : Mth G M_X12_some (dd + 1) 0 0 [.ref (a 0)] (MW G a S I F B T R K D hI (nI h) (nI p) (nI e) (nI 0) (nI o) mu rd ra ki nu tv) ro (fun r ws' ro' => ∃ (S' : Nat → Int32), ∃ (w' : Int32), Oth h S S' ∧ ((w' = nI 0 ∧ (sqF Y e 124 (-3) (fac Y e) p).1 = true ∧ PSt S' h (l ++ (sqF Y e 124 (-3) (fac Y e) p).2.2)) ∨ (w' = nI 1 ∧ (sqF Y e 124 (-3) (fac Y e) p).1 = false)) ∧ r = none ∧ ws' = (MW G a S' I F B T R K D hI (nI h) (nI ((sqF Y e 124 (-3) (fac Y e) p).2.1)) (nI e) w' (nI o) mu rd ra ki nu tv) ∧ ro = ro') := by
  refine mth_of (by decide +kernel) (Nat.le_of_ble_eq_true rfl) (fun X hC hR => ?_)
  have he := hT.1
  obtain ⟨f1, f2, f3, f4⟩ := hF p hp
  show Ev G X 0 0 0 [(0, .ref (a 0))] [] (MW G a S I F B T R K D hI (nI h) (nI p) (nI e) (nI 0) (nI o) mu rd ra ki nu tv) ro
  refine ev_aload_n hC dX12_some_0 rfl 0 rfl ?_
  refine ev_callV (As := []) (st := []) (wf := []) hC cv_X12_101 (hf ro a S I F B T R K D hI mu rd ra ki nu tv Y e p l hT hp hP0 hl) (by omega) rfl rfl (Nat.le_of_ble_eq_true rfl) (List.Perm.of_eq (List.append_nil _).symm) (mw 0 rfl) rfl dX12_some_1 (by decide) (by decide) ?_
  rintro _ _ _ ⟨S1, w1, hO1, hc1, rfl, rfl, rfl⟩
  refine ev_ws (List.append_nil _) ?_
  show Ev G X 0 0 4 [(0, .ref (a 0))] [] (MW G a S1 I F B T R K D hI (nI h) (nI ((fac Y e p).2.1)) (nI e) w1 (nI o) mu rd ra ki nu tv) ro
  have lp_4 : ∀ (fu_4 : Nat) (S2 : Nat → Int32) (w : Int32) (r : RE) (n : Nat) (hLp : LpI S S2 h l w r) (hb : loopF Y e (fac Y e) 124 ((-3)) n r = sqF Y e 124 (-3) (fac Y e) p) (hn2 : e - r.2.1 < n) (hq : r.2.1 ≤ e) (hlen : l.length + r.2.2.length ≤ r.2.1) (hn : n < fu_4), Ev G X 0 0 4 [(0, .ref (a 0))] [] (MW G a S2 I F B T R K D hI (nI h) (nI r.2.1) (nI e) w (nI o) mu rd ra ki nu tv) ro := by
    intro fu_4
    induction fu_4 with
    | zero => intro S2 w r n hLp hb hn2 hq hlen hn; exact absurd hn (Nat.not_lt_zero _)
    | succ fu_4 ih =>
      intro S2 w r n hLp hb hn2 hq hlen hn
      obtain ⟨hO, hw⟩ := hLp
      rcases hw with ⟨rfl, ok, hP⟩ | ⟨rfl, ok⟩
      · refine ev_aload_n hC dX12_some_4 rfl 0 rfl ?_
        refine ev_get hC fl_X12_54_12 (mw 0 rfl) rfl dX12_some_5 ?_
        refine ev_if_neN (tgt := 43) hC dX12_some_8 (by decide) (by omega) (fun c_1 => absurd c_1 (by omega)) (fun c_1 => ?_)
        refine ev_aload_n hC dX12_some_11 rfl 0 rfl ?_
        refine ev_callV (As := []) (st := []) (wf := []) hC cv_X12_58 (m_X12_here G ro a S2 I F B T R K D hI (nI h) (nI r.2.1) (nI e) (nI 0) (nI o) mu rd ra ki nu tv Y e r.2.1 (hT.oth hO) (by omega)) (by omega) rfl rfl (Nat.le_of_ble_eq_true rfl) (List.Perm.of_eq (List.append_nil _).symm) (mw 0 rfl) rfl dX12_some_12 (by decide) (by decide) ?_
        rintro _ _ _ ⟨rfl, rfl, rfl⟩
        refine ev_ws (List.append_nil _) ?_
        show Ev G X 0 0 15 [(0, .ref (a 0))] [.int (hrF Y e r.2.1)] (MW G a S2 I F B T R K D hI (nI h) (nI r.2.1) (nI e) (nI 0) (nI o) mu rd ra ki nu tv) ro
        refine ev_bipush (v := (nI 124)) hC dX12_some_15 (by decide) ?_
        refine ev_icmp_ne (tgt := 43) hC dX12_some_17 (by decide) (fun c_2 => ?_) (fun c_2 => ?_)
        · refine ev_vret hC hR rfl dX12_some_43 ?_
          have hr : sqF Y e 124 (-3) (fac Y e) p = r := by rw [← hb]; exact loopF_f (fun z => absurd z.2 (by assumption)) n
          exact ⟨_, _, hO, by rw [hr]; exact Or.inl ⟨rfl, ok, hP⟩, rfl, by rw [hr], rfl⟩
        · have hlt := (hr_lt (by decide) (by assumption : hrF Y e r.2.1 = nI 124)).1
          obtain ⟨g1, g2, g3, g4⟩ := hF (r.2.1 + 1) (by omega)
          refine ev_aload_n hC dX12_some_20 rfl 0 rfl ?_
          refine ev_dup hC dX12_some_21 rfl ?_
          refine ev_get hC fl_X12_48_12 (mw 0 rfl) rfl dX12_some_22 ?_
          refine ev_iconst (v := (nI 1)) hC dX12_some_25 (by decide) ?_
          refine ev_iadd hC dX12_some_26 ?_
          refine ev_top (y := (nI (r.2.1 + 1))) ((nI_add _ _).trans (congrArg nI (by omega))) ?_
          refine ev_put (ws' := (MW G a S2 I F B T R K D hI (nI h) (nI (r.2.1 + 1)) (nI e) (nI 0) (nI o) mu rd ra ki nu tv)) (q0 := 0) hC fp_X12_48_12 rfl (Nat.le_of_ble_eq_true rfl) rfl rfl rfl dX12_some_27 ?_
          refine ev_aload_n hC dX12_some_30 rfl 0 rfl ?_
          refine ev_callV (As := []) (st := []) (wf := []) hC cv_X12_101 (hf ro a S2 I F B T R K D hI mu rd ra ki nu tv Y e (r.2.1 + 1) (l ++ r.2.2) (hT.oth hO) (by omega) hP (by rw [List.length_append]; omega)) (by omega) rfl rfl (Nat.le_of_ble_eq_true rfl) (List.Perm.of_eq (List.append_nil _).symm) (mw 0 rfl) rfl dX12_some_31 (by decide) (by decide) ?_
          rintro _ _ _ ⟨S3, _, hO3, ⟨rfl, ok3, hP3⟩ | ⟨rfl, ok3⟩, rfl, rfl, rfl⟩
          · refine ev_ws (List.append_nil _) ?_
            show Ev G X 0 0 34 [(0, .ref (a 0))] [] (MW G a S3 I F B T R K D hI (nI h) (nI ((fac Y e (r.2.1 + 1)).2.1)) (nI e) (nI 0) (nI o) mu rd ra ki nu tv) ro
            refine ev_aload_n hC dX12_some_34 rfl 0 rfl ?_
            refine ev_bipush (v := (-3)) hC dX12_some_35 (by decide) ?_
            refine ev_callV (As := [.int (-3)]) (st := []) (wf := []) hC cv_X12_84 (m_X12_emits G ro a S3 I F B T R K D hI (nI h) (nI ((fac Y e (r.2.1 + 1)).2.1)) (nI e) (nI 0) (nI o) mu rd ra ki nu tv h (l ++ r.2.2 ++ (fac Y e (r.2.1 + 1)).2.2).length (-3) hh hP3.1 (by simp only [List.length_append]; omega)) (by omega) rfl rfl (Nat.le_of_ble_eq_true rfl) (List.Perm.of_eq (List.append_nil _).symm) (mw 0 rfl) rfl dX12_some_37 (by decide) (by decide) ?_
            rintro _ _ _ ⟨rfl, rfl, rfl⟩
            refine ev_ws (List.append_nil _) ?_
            show Ev G X 0 0 40 [(0, .ref (a 0))] [] (MW G a (upd (upd S3 (237 + 140 * h + (l ++ r.2.2 ++ (fac Y e (r.2.1 + 1)).2.2).length) (-3)) (232 + h) (nI ((l ++ r.2.2 ++ (fac Y e (r.2.1 + 1)).2.2).length + 1))) I F B T R K D hI (nI h) (nI ((fac Y e (r.2.1 + 1)).2.1)) (nI e) (nI 0) (nI o) mu rd ra ki nu tv) ro
            refine ev_goto (tgt := 4) hC dX12_some_40 (by decide) ?_
            exact ih (upd (upd S3 (237 + 140 * h + (l ++ r.2.2 ++ (fac Y e (r.2.1 + 1)).2.2).length) (-3)) (232 + h) (nI ((l ++ r.2.2 ++ (fac Y e (r.2.1 + 1)).2.2).length + 1))) (nI 0) ((fac Y e (r.2.1 + 1)).1, (fac Y e (r.2.1 + 1)).2.1, r.2.2 ++ ((fac Y e (r.2.1 + 1)).2.2 ++ (if (fac Y e (r.2.1 + 1)).1 = true then [(-3)] else []))) (n - 1) ⟨(hO.tr hO3).tr (hP3.emit hh (by simp only [List.length_append]; omega) ((-3))).2, Or.inl ⟨rfl, ok3, by have := (hP3.emit hh (by simp only [List.length_append]; omega) ((-3))).1; rw [if_pos ok3]; simpa only [List.append_assoc] using this⟩⟩ ((loopF_t ok (by assumption) (by omega)).symm.trans hb) (by simp only; omega) g2 (by simp only [List.length_append]; split <;> simp only [List.length_cons, List.length_nil] <;> omega) (by omega)
          · refine ev_ws (List.append_nil _) ?_
            show Ev G X 0 0 34 [(0, .ref (a 0))] [] (MW G a S3 I F B T R K D hI (nI h) (nI ((fac Y e (r.2.1 + 1)).2.1)) (nI e) (nI 1) (nI o) mu rd ra ki nu tv) ro
            refine ev_aload_n hC dX12_some_34 rfl 0 rfl ?_
            refine ev_bipush (v := (-3)) hC dX12_some_35 (by decide) ?_
            refine ev_callV (As := [.int (-3)]) (st := []) (wf := []) hC cv_X12_84 (m_X12_emitsw G ro a S3 I F B T R K D hI (nI h) (nI ((fac Y e (r.2.1 + 1)).2.1)) (nI e) (nI 1) (nI o) mu rd ra ki nu tv (-3)) (by omega) rfl rfl (Nat.le_of_ble_eq_true rfl) (List.Perm.of_eq (List.append_nil _).symm) (mw 0 rfl) rfl dX12_some_37 (by decide) (by decide) ?_
            rintro _ _ _ ⟨rfl, rfl, rfl⟩
            refine ev_ws (List.append_nil _) ?_
            show Ev G X 0 0 40 [(0, .ref (a 0))] [] (MW G a S3 I F B T R K D hI (nI h) (nI ((fac Y e (r.2.1 + 1)).2.1)) (nI e) (nI 1) (nI o) mu rd ra ki nu tv) ro
            refine ev_goto (tgt := 4) hC dX12_some_40 (by decide) ?_
            exact ih S3 (nI 1) ((fac Y e (r.2.1 + 1)).1, (fac Y e (r.2.1 + 1)).2.1, r.2.2 ++ ((fac Y e (r.2.1 + 1)).2.2 ++ (if (fac Y e (r.2.1 + 1)).1 = true then [(-3)] else []))) (n - 1) ⟨hO.tr hO3, Or.inr ⟨rfl, ok3⟩⟩ ((loopF_t ok (by assumption) (by omega)).symm.trans hb) (by simp only; omega) g2 (by simp only [List.length_append]; split <;> simp only [List.length_cons, List.length_nil] <;> omega) (by omega)
      · refine ev_aload_n hC dX12_some_4 rfl 0 rfl ?_
        refine ev_get hC fl_X12_54_12 (mw 0 rfl) rfl dX12_some_5 ?_
        refine ev_if_neN (tgt := 43) hC dX12_some_8 (by decide) (by omega) (fun c_3 => ?_) (fun c_3 => absurd c_3 (by omega))
        refine ev_vret hC hR rfl dX12_some_43 ?_
        have hr : sqF Y e 124 (-3) (fac Y e) p = r := by rw [← hb]; exact loopF_f (fun z => by rw [ok] at z; exact absurd z.1 (by decide)) n
        exact ⟨_, _, hO, by rw [hr]; exact Or.inr ⟨rfl, ok⟩, rfl, by rw [hr], rfl⟩
  exact lp_4 (101 + 1) S1 w1 (fac Y e p) 101 ⟨hO1, hc1⟩ rfl (by omega) f2 (by omega) (Nat.lt_succ_self _)

theorem every_of {G : GG} {h o dd : Nat} (hh : h ≤ 4) (h5 : 5 ≤ dd) {fac : (Nat → Int32) → Nat → Nat → RE} (hf : PartK G M_X12_factor dd h o fac) (hF : ∀ Y e p, p ≤ e → Fgo e p (fac Y e p)) : PartK G M_X12_every (dd + 1) h o (fun Y e => evrF Y e (fac Y e)) := fun ro a S I F B T R K D hI mu rd ra ki nu tv Y e p l hT hp hP hl => m_X12_every G ro h o dd hh h5 fac hf a S I F B T R K D hI mu rd ra ki nu tv Y e p l hT hp hP hl (fun p hp => hF Y e p hp)
theorem some_of {G : GG} {h o dd : Nat} (hh : h ≤ 4) (h5 : 5 ≤ dd) {fac : (Nat → Int32) → Nat → Nat → RE} (hf : PartK G M_X12_factor dd h o fac) (hF : ∀ Y e p, p ≤ e → Fgo e p (fac Y e p)) : PartK G M_X12_some (dd + 2) h o (fun Y e => somF Y e (fac Y e)) := fun ro a S I F B T R K D hI mu rd ra ki nu tv Y e p l hT hp hP hl => m_X12_some G ro h o (dd + 1) hh (by omega) (fun Y e => evrF Y e (fac Y e)) (every_of hh h5 hf hF) a S I F B T R K D hI mu rd ra ki nu tv Y e p l hT hp hP hl (fun p hp => evrF_p (hF Y e) hp)
