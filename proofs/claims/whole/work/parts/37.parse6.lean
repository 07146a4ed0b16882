theorem splF_p {t : Nat → Int32} {e k : Nat} (hk : k < 12) : ∀ {f j p : Nat}, j + f ≤ strLen.getD k 0 → p ≤ e → p ≤ (splF t e k f j p).2 ∧ (splF t e k f j p).2 ≤ e ∧ ((splF t e k f j p).1 = true → (splF t e k f j p).2 = p + f)
  | 0, j, p, _, hp => ⟨Nat.le_refl _, hp, fun _ => rfl⟩
  | f + 1, j, p, hj, hp => by
    rw [splF]
    split
    · next c =>
      have hc := (chN_eq k hk j (by omega)).2
      have hl := (hr_lt (by omega) c).1
      obtain ⟨h1, h2, h3⟩ := splF_p (t := t) (e := e) (k := k) hk (f := f) (j := j + 1) (p := p + 1) (by omega) (by omega)
      exact ⟨by omega, h2, fun q => by rw [h3 q]; omega⟩
    · exact ⟨Nat.le_refl _, hp, fun q => by cases q⟩
/-- a word and its number -/
def tllF (t : Nat → Int32) (e k p : Nat) : Bool × Nat × Nat := if (splF t e k (strLen.getD k 0) 0 p).1 = true then numF t e (splF t e k (strLen.getD k 0) 0 p).2 else (false, (splF t e k (strLen.getD k 0) 0 p).2, 0)

set_option maxHeartbeats 4000000 in
set_option maxRecDepth 100000 in
theorem m_X12_tellsHere (G : GG) (ro : va_W) (a : Nat → Nat) (S I F B T R K D : Nat → Int32) (hI mu rd ra ki nu tv : Int32) (Y : Nat → Int32) (e p : Nat) (h o k w : Nat) (hT : TPE S Y e) (hp : p ≤ e) (hh : h ≤ 4) (hk : k < 12) (hw : w ≤ 900) : Mth G M_X12_tellsHere 6 0 0 [.ref (a 0), .int (nI w), .ref (gK G k)] (MW G a S I F B T R K D hI (nI h) (nI p) (nI e) (nI 0) (nI o) mu rd ra ki nu tv) ro (fun r ws' ro' => ∃ (S' : Nat → Int32), ∃ (w' : Int32), ((w' = nI 0 ∧ (tllF Y e k p).1 = true ∧ S' = upd S (w + h) (nI (tllF Y e k p).2.2)) ∨ (w' = nI 1 ∧ (tllF Y e k p).1 = false ∧ S' = S)) ∧ r = none ∧ ws' = (MW G a S' I F B T R K D hI (nI h) (nI ((tllF Y e k p).2.1)) (nI e) w' (nI o) mu rd ra ki nu tv) ∧ ro = ro') := by
  refine mth_of (by decide +kernel) (Nat.le_of_ble_eq_true rfl) (fun X hC hR => ?_)
  have he := hT.1
  show Ev G X 0 0 0 [(0, .ref (a 0)), (1, .int (nI w)), (2, .ref (gK G k))] [] (MW G a S I F B T R K D hI (nI h) (nI p) (nI e) (nI 0) (nI o) mu rd ra ki nu tv) ro
  refine ev_aload_n hC dX12_tellsHere_0 rfl 0 rfl ?_
  refine ev_aload_n hC dX12_tellsHere_1 rfl 2 rfl ?_
  refine ev_callV (As := [.ref (gK G k)]) (st := []) (wf := []) hC cv_X12_104 (m_X12_spells G ro a S I F B T R K D hI (nI h) (nI p) (nI e) (nI 0) (nI o) mu rd ra ki nu tv Y e p k hT (by omega) hk) (by omega) rfl rfl (Nat.le_of_ble_eq_true rfl) (List.Perm.of_eq (List.append_nil _).symm) (mw 0 rfl) rfl dX12_tellsHere_2 (by decide) (by decide) ?_
  rintro _ _ _ ⟨_, ⟨rfl, sk⟩ | ⟨rfl, sk⟩, rfl, rfl, rfl⟩
  · refine ev_ws (List.append_nil _) ?_
    show Ev G X 0 0 5 [(0, .ref (a 0)), (1, .int (nI w)), (2, .ref (gK G k))] [] (MW G a S I F B T R K D hI (nI h) (nI ((splF Y e k (strLen.getD k 0) 0 p).2)) (nI e) (nI 0) (nI o) mu rd ra ki nu tv) ro
    have spl := splF_p (t := Y) (e := e) (k := k) hk (f := strLen.getD k 0) (j := 0) (p := p) (by omega) (by omega)
    refine ev_aload_n hC dX12_tellsHere_5 rfl 0 rfl ?_
    refine ev_callV (As := []) (st := []) (wf := []) hC cv_X12_98 (m_X12_figures G ro a S I F B T R K D hI (nI h) (nI ((splF Y e k (strLen.getD k 0) 0 p).2)) (nI e) (nI 0) (nI o) mu rd ra ki nu tv Y e ((splF Y e k (strLen.getD k 0) 0 p).2) hT (by omega)) (by omega) rfl rfl (Nat.le_of_ble_eq_true rfl) (List.Perm.of_eq (List.append_nil _).symm) (mw 0 rfl) rfl dX12_tellsHere_6 (by decide) (by decide) ?_
    rintro _ _ _ ⟨_, ⟨rfl, nu_1⟩ | ⟨rfl, nu_1⟩, rfl, rfl, rfl⟩
    · refine ev_ws (List.append_nil _) ?_
      show Ev G X 0 0 9 [(0, .ref (a 0)), (1, .int (nI w)), (2, .ref (gK G k))] [.int (nI ((numF Y e ((splF Y e k (strLen.getD k 0) 0 p).2)).2.2))] (MW G a S I F B T R K D hI (nI h) (nI ((numF Y e ((splF Y e k (strLen.getD k 0) 0 p).2)).2.1)) (nI e) (nI 0) (nI o) mu rd ra ki nu tv) ro
      obtain ⟨nu_11, nu_12, nu_13, nu_14⟩ := numF_p (t := Y) (e := e) (p := ((splF Y e k (strLen.getD k 0) 0 p).2)) (by omega)
      refine ev_istore_n (lv' := [(3, .int (nI ((numF Y e ((splF Y e k (strLen.getD k 0) 0 p).2)).2.2))), (0, .ref (a 0)), (1, .int (nI w)), (2, .ref (gK G k))]) hC dX12_tellsHere_9 rfl (by decide) rfl ?_
      refine ev_aload_n hC dX12_tellsHere_10 rfl 1 rfl ?_
      refine ev_get hC fl_X12_54_12 (mw 0 rfl) rfl dX12_tellsHere_11 ?_
      refine ev_if_neN (tgt := 29) hC dX12_tellsHere_14 (by decide) (by omega) (fun c_2 => absurd c_2 (by omega)) (fun c_2 => ?_)
      refine ev_aload_n hC dX12_tellsHere_17 rfl 1 rfl ?_
      refine ev_get hC fl_X12_9_12 (mw 0 rfl) rfl dX12_tellsHere_18 ?_
      refine ev_iload_n hC dX12_tellsHere_21 rfl 2 rfl ?_
      refine ev_aload_n hC dX12_tellsHere_22 rfl 1 rfl ?_
      refine ev_get hC fl_X12_75_12 (mw 0 rfl) rfl dX12_tellsHere_23 ?_
      refine ev_iadd hC dX12_tellsHere_26 ?_
      refine ev_top (y := (nI (w + h))) ((nI_add _ _).trans (congrArg nI (by omega))) ?_
      refine ev_iload_n hC dX12_tellsHere_27 rfl 0 rfl ?_
      refine ev_iastN (i := w + h) (ws' := (MW G a (upd S (w + h) (nI ((numF Y e ((splF Y e k (strLen.getD k 0) 0 p).2)).2.2))) I F B T R K D hI (nI h) (nI ((numF Y e ((splF Y e k (strLen.getD k 0) 0 p).2)).2.1)) (nI e) (nI 0) (nI o) mu rd ra ki nu tv)) (q0 := 1) hC rfl (by omega) (by omega) rfl dX12_tellsHere_28 ?_
      refine ev_vret hC hR rfl dX12_tellsHere_29 ?_
      have hr : tllF Y e k p = numF Y e (splF Y e k (strLen.getD k 0) 0 p).2 := if_pos sk
      exact ⟨_, _, Or.inl ⟨rfl, by rw [hr]; exact nu_1, by rw [hr]⟩, rfl, by rw [hr], rfl⟩
    · refine ev_ws (List.append_nil _) ?_
      show Ev G X 0 0 9 [(0, .ref (a 0)), (1, .int (nI w)), (2, .ref (gK G k))] [.int (nI ((numF Y e ((splF Y e k (strLen.getD k 0) 0 p).2)).2.2))] (MW G a S I F B T R K D hI (nI h) (nI ((numF Y e ((splF Y e k (strLen.getD k 0) 0 p).2)).2.1)) (nI e) (nI 1) (nI o) mu rd ra ki nu tv) ro
      obtain ⟨nu_11, nu_12, nu_13, nu_14⟩ := numF_p (t := Y) (e := e) (p := ((splF Y e k (strLen.getD k 0) 0 p).2)) (by omega)
      refine ev_istore_n (lv' := [(3, .int (nI ((numF Y e ((splF Y e k (strLen.getD k 0) 0 p).2)).2.2))), (0, .ref (a 0)), (1, .int (nI w)), (2, .ref (gK G k))]) hC dX12_tellsHere_9 rfl (by decide) rfl ?_
      refine ev_aload_n hC dX12_tellsHere_10 rfl 1 rfl ?_
      refine ev_get hC fl_X12_54_12 (mw 0 rfl) rfl dX12_tellsHere_11 ?_
      refine ev_if_neN (tgt := 29) hC dX12_tellsHere_14 (by decide) (by omega) (fun c_3 => ?_) (fun c_3 => absurd c_3 (by omega))
      refine ev_vret hC hR rfl dX12_tellsHere_29 ?_
      have hr : tllF Y e k p = numF Y e (splF Y e k (strLen.getD k 0) 0 p).2 := if_pos sk
      exact ⟨_, _, Or.inr ⟨rfl, by rw [hr]; exact nu_1, rfl⟩, rfl, by rw [hr], rfl⟩
  · refine ev_ws (List.append_nil _) ?_
    show Ev G X 0 0 5 [(0, .ref (a 0)), (1, .int (nI w)), (2, .ref (gK G k))] [] (MW G a S I F B T R K D hI (nI h) (nI ((splF Y e k (strLen.getD k 0) 0 p).2)) (nI e) (nI 1) (nI o) mu rd ra ki nu tv) ro
    have spl := splF_p (t := Y) (e := e) (k := k) hk (f := strLen.getD k 0) (j := 0) (p := p) (by omega) (by omega)
    refine ev_aload_n hC dX12_tellsHere_5 rfl 0 rfl ?_
    refine ev_callV (As := []) (st := []) (wf := []) hC cv_X12_98 (m_X12_figuresw G ro a S I F B T R K D hI (nI h) (nI ((splF Y e k (strLen.getD k 0) 0 p).2)) (nI e) (nI 1) (nI o) mu rd ra ki nu tv) (by omega) rfl rfl (Nat.le_of_ble_eq_true rfl) (List.Perm.of_eq (List.append_nil _).symm) (mw 0 rfl) rfl dX12_tellsHere_6 (by decide) (by decide) ?_
    rintro _ _ _ ⟨rfl, rfl, rfl⟩
    refine ev_ws (List.append_nil _) ?_
    show Ev G X 0 0 9 [(0, .ref (a 0)), (1, .int (nI w)), (2, .ref (gK G k))] [.int (nI 0)] (MW G a S I F B T R K D hI (nI h) (nI ((splF Y e k (strLen.getD k 0) 0 p).2)) (nI e) (nI 1) (nI o) mu rd ra ki nu tv) ro
    refine ev_istore_n (lv' := [(3, .int (nI 0)), (0, .ref (a 0)), (1, .int (nI w)), (2, .ref (gK G k))]) hC dX12_tellsHere_9 rfl (by decide) rfl ?_
    refine ev_aload_n hC dX12_tellsHere_10 rfl 1 rfl ?_
    refine ev_get hC fl_X12_54_12 (mw 0 rfl) rfl dX12_tellsHere_11 ?_
    refine ev_if_neN (tgt := 29) hC dX12_tellsHere_14 (by decide) (by omega) (fun c_4 => ?_) (fun c_4 => absurd c_4 (by omega))
    refine ev_vret hC hR rfl dX12_tellsHere_29 ?_
    have hr : tllF Y e k p = (false, (splF Y e k (strLen.getD k 0) 0 p).2, 0) := if_neg (by rw [sk]; decide)
    exact ⟨_, _, Or.inr ⟨rfl, by rw [hr], rfl⟩, rfl, by rw [hr], rfl⟩

/-- wrong or calm: a word, a number, a blank, an E; its mark c - n -/
def mchF (t : Nat → Int32) (e k : Nat) (c : Int32) (p : Nat) : RE := if (tllF t e k p).1 = true then (if hrF t e (tllF t e k p).2.1 = nI 32 then ((somF t e (facD t e 5) ((tllF t e k p).2.1 + 1)).1, (somF t e (facD t e 5) ((tllF t e k p).2.1 + 1)).2.1, (somF t e (facD t e 5) ((tllF t e k p).2.1 + 1)).2.2 ++ (if (somF t e (facD t e 5) ((tllF t e k p).2.1 + 1)).1 = true then [c - nI (tllF t e k p).2.2] else [])) else (false, (tllF t e k p).2.1, [])) else (false, (tllF t e k p).2.1, [])

set_option maxHeartbeats 4000000 in
set_option maxRecDepth 100000 in
theorem m_X12_much (G : GG) (ro : va_W) (a : Nat → Nat) (S I F B T R K D : Nat → Int32) (hI mu rd ra ki nu tv : Int32) (Y : Nat → Int32) (e p : Nat) (l : List Int32) (h k : Nat) (c : Int32) (hT : TPE S Y e) (hp : p ≤ e) (hP0 : PSt S h l) (hl : l.length ≤ p) (hh : h ≤ 4) (hk : k < 12) (hs : PartK G M_X12_some 23 h 0 (fun Y e => somF Y e (facD Y e 5))) : Mth G M_X12_much 24 0 0 [.ref (a 0), .int c, .ref (gK G k)] (MW G a S I F B T R K D hI (nI h) (nI p) (nI e) (nI 0) (nI 0) mu rd ra ki nu tv) ro (fun r ws' ro' => ∃ (S' : Nat → Int32), ∃ (w' : Int32), Oth h S S' ∧ ((w' = nI 0 ∧ (mchF Y e k c p).1 = true ∧ PSt S' h (l ++ (mchF Y e k c p).2.2)) ∨ (w' = nI 1 ∧ (mchF Y e k c p).1 = false)) ∧ r = none ∧ ws' = (MW G a S' I F B T R K D hI (nI h) (nI ((mchF Y e k c p).2.1)) (nI e) w' (nI 0) mu rd ra ki nu tv) ∧ ro = ro') := by
  refine mth_of (by decide +kernel) (Nat.le_of_ble_eq_true rfl) (fun X hC hR => ?_)
  have he := hT.1
  show Ev G X 0 0 0 [(0, .ref (a 0)), (1, .int c), (2, .ref (gK G k))] [] (MW G a S I F B T R K D hI (nI h) (nI p) (nI e) (nI 0) (nI 0) mu rd ra ki nu tv) ro
  refine ev_aload_n hC dX12_much_0 rfl 0 rfl ?_
  refine ev_aload_n hC dX12_much_1 rfl 2 rfl ?_
  refine ev_callV (As := [.ref (gK G k)]) (st := []) (wf := []) hC cv_X12_104 (m_X12_spells G ro a S I F B T R K D hI (nI h) (nI p) (nI e) (nI 0) (nI 0) mu rd ra ki nu tv Y e p k hT (by omega) hk) (by omega) rfl rfl (Nat.le_of_ble_eq_true rfl) (List.Perm.of_eq (List.append_nil _).symm) (mw 0 rfl) rfl dX12_much_2 (by decide) (by decide) ?_
  rintro _ _ _ ⟨_, ⟨rfl, sk⟩ | ⟨rfl, sk⟩, rfl, rfl, rfl⟩
  · refine ev_ws (List.append_nil _) ?_
    show Ev G X 0 0 5 [(0, .ref (a 0)), (1, .int c), (2, .ref (gK G k))] [] (MW G a S I F B T R K D hI (nI h) (nI ((splF Y e k (strLen.getD k 0) 0 p).2)) (nI e) (nI 0) (nI 0) mu rd ra ki nu tv) ro
    have spl := splF_p (t := Y) (e := e) (k := k) hk (f := strLen.getD k 0) (j := 0) (p := p) (by omega) (by omega)
    refine ev_aload_n hC dX12_much_5 rfl 0 rfl ?_
    refine ev_callV (As := []) (st := []) (wf := []) hC cv_X12_98 (m_X12_figures G ro a S I F B T R K D hI (nI h) (nI ((splF Y e k (strLen.getD k 0) 0 p).2)) (nI e) (nI 0) (nI 0) mu rd ra ki nu tv Y e ((splF Y e k (strLen.getD k 0) 0 p).2) hT (by omega)) (by omega) rfl rfl (Nat.le_of_ble_eq_true rfl) (List.Perm.of_eq (List.append_nil _).symm) (mw 0 rfl) rfl dX12_much_6 (by decide) (by decide) ?_
    rintro _ _ _ ⟨_, ⟨rfl, nu_1⟩ | ⟨rfl, nu_1⟩, rfl, rfl, rfl⟩
    · refine ev_ws (List.append_nil _) ?_
      show Ev G X 0 0 9 [(0, .ref (a 0)), (1, .int c), (2, .ref (gK G k))] [.int (nI ((numF Y e ((splF Y e k (strLen.getD k 0) 0 p).2)).2.2))] (MW G a S I F B T R K D hI (nI h) (nI ((numF Y e ((splF Y e k (strLen.getD k 0) 0 p).2)).2.1)) (nI e) (nI 0) (nI 0) mu rd ra ki nu tv) ro
      obtain ⟨nu_11, nu_12, nu_13, nu_14⟩ := numF_p (t := Y) (e := e) (p := ((splF Y e k (strLen.getD k 0) 0 p).2)) (by omega)
      refine ev_istore_n (lv' := [(3, .int (nI ((numF Y e ((splF Y e k (strLen.getD k 0) 0 p).2)).2.2))), (0, .ref (a 0)), (1, .int c), (2, .ref (gK G k))]) hC dX12_much_9 rfl (by decide) rfl ?_
      refine ev_aload_n hC dX12_much_10 rfl 1 rfl ?_
      refine ev_bipush (v := (nI 32)) hC dX12_much_11 (by decide) ?_
      refine ev_callV (As := [.int (nI 32)]) (st := []) (wf := []) hC cv_X12_71 (m_X12_must G ro a S I F B T R K D hI (nI h) (nI ((numF Y e ((splF Y e k (strLen.getD k 0) 0 p).2)).2.1)) (nI e) (nI 0) (nI 0) mu rd ra ki nu tv Y e ((numF Y e ((splF Y e k (strLen.getD k 0) 0 p).2)).2.1) 32 hT (by omega)) (by omega) rfl rfl (Nat.le_of_ble_eq_true rfl) (List.Perm.of_eq (List.append_nil _).symm) (mw 0 rfl) rfl dX12_much_13 (by decide) (by decide) ?_
      rintro _ _ _ ⟨_, _, ⟨rfl, rfl, m_2⟩ | ⟨rfl, rfl, m_2⟩, rfl, rfl, rfl⟩
      · refine ev_ws (List.append_nil _) ?_
        show Ev G X 0 0 16 [(3, .int (nI ((numF Y e ((splF Y e k (strLen.getD k 0) 0 p).2)).2.2))), (0, .ref (a 0)), (1, .int c), (2, .ref (gK G k))] [] (MW G a S I F B T R K D hI (nI h) (nI (((numF Y e ((splF Y e k (strLen.getD k 0) 0 p).2)).2.1) + 1)) (nI e) (nI 0) (nI 0) mu rd ra ki nu tv) ro
        have lm_2 := (hr_lt (by omega) m_2).1
        obtain ⟨g1, g2, g3, g4⟩ := somF_p (t := Y) (e := e) (fac := facD Y e 5) (fun p hp => facD_p 5 hp) (p := (numF Y e (splF Y e k (strLen.getD k 0) 0 p).2).2.1 + 1) (by omega)
        refine ev_aload_n hC dX12_much_16 rfl 1 rfl ?_
        refine ev_callV (As := []) (st := []) (wf := []) hC cv_X12_87 (hs ro a S I F B T R K D hI mu rd ra ki nu tv Y e (((numF Y e ((splF Y e k (strLen.getD k 0) 0 p).2)).2.1) + 1) l hT (by omega) hP0 (by omega)) (by omega) rfl rfl (Nat.le_of_ble_eq_true rfl) (List.Perm.of_eq (List.append_nil _).symm) (mw 0 rfl) rfl dX12_much_17 (by decide) (by decide) ?_
        rintro _ _ _ ⟨S3, _, hO3, ⟨rfl, ok3, hP3⟩ | ⟨rfl, ok3⟩, rfl, rfl, rfl⟩
        · refine ev_ws (List.append_nil _) ?_
          show Ev G X 0 0 20 [(3, .int (nI ((numF Y e ((splF Y e k (strLen.getD k 0) 0 p).2)).2.2))), (0, .ref (a 0)), (1, .int c), (2, .ref (gK G k))] [] (MW G a S3 I F B T R K D hI (nI h) (nI ((somF Y e (facD Y e 5) (((numF Y e ((splF Y e k (strLen.getD k 0) 0 p).2)).2.1) + 1)).2.1)) (nI e) (nI 0) (nI 0) mu rd ra ki nu tv) ro
          refine ev_aload_n hC dX12_much_20 rfl 1 rfl ?_
          refine ev_iload_n hC dX12_much_21 rfl 2 rfl ?_
          refine ev_iload_n hC dX12_much_22 rfl 0 rfl ?_
          refine ev_isub hC dX12_much_23 ?_
          refine ev_callV (As := [.int (c - (nI ((numF Y e ((splF Y e k (strLen.getD k 0) 0 p).2)).2.2)))]) (st := []) (wf := []) hC cv_X12_84 (m_X12_emits G ro a S3 I F B T R K D hI (nI h) (nI ((somF Y e (facD Y e 5) (((numF Y e ((splF Y e k (strLen.getD k 0) 0 p).2)).2.1) + 1)).2.1)) (nI e) (nI 0) (nI 0) mu rd ra ki nu tv h (l ++ (somF Y e (facD Y e 5) ((numF Y e (splF Y e k (strLen.getD k 0) 0 p).2).2.1 + 1)).2.2).length (c - (nI ((numF Y e ((splF Y e k (strLen.getD k 0) 0 p).2)).2.2))) hh hP3.1 (by simp only [List.length_append]; omega)) (by omega) rfl rfl (Nat.le_of_ble_eq_true rfl) (List.Perm.of_eq (List.append_nil _).symm) (mw 0 rfl) rfl dX12_much_24 (by decide) (by decide) ?_
          rintro _ _ _ ⟨rfl, rfl, rfl⟩
          refine ev_ws (List.append_nil _) ?_
          show Ev G X 0 0 27 [(3, .int (nI ((numF Y e ((splF Y e k (strLen.getD k 0) 0 p).2)).2.2))), (0, .ref (a 0)), (1, .int c), (2, .ref (gK G k))] [] (MW G a (upd (upd S3 (237 + 140 * h + (l ++ (somF Y e (facD Y e 5) ((numF Y e (splF Y e k (strLen.getD k 0) 0 p).2).2.1 + 1)).2.2).length) (c - (nI ((numF Y e ((splF Y e k (strLen.getD k 0) 0 p).2)).2.2)))) (232 + h) (nI ((l ++ (somF Y e (facD Y e 5) ((numF Y e (splF Y e k (strLen.getD k 0) 0 p).2).2.1 + 1)).2.2).length + 1))) I F B T R K D hI (nI h) (nI ((somF Y e (facD Y e 5) (((numF Y e ((splF Y e k (strLen.getD k 0) 0 p).2)).2.1) + 1)).2.1)) (nI e) (nI 0) (nI 0) mu rd ra ki nu tv) ro
          refine ev_vret hC hR rfl dX12_much_27 ?_
          have h1 : tllF Y e k p = (numF Y e (splF Y e k (strLen.getD k 0) 0 p).2) := if_pos sk
          have hr : mchF Y e k c p = ((somF Y e (facD Y e 5) ((numF Y e (splF Y e k (strLen.getD k 0) 0 p).2).2.1 + 1)).1, (somF Y e (facD Y e 5) ((numF Y e (splF Y e k (strLen.getD k 0) 0 p).2).2.1 + 1)).2.1, (somF Y e (facD Y e 5) ((numF Y e (splF Y e k (strLen.getD k 0) 0 p).2).2.1 + 1)).2.2 ++ (if (somF Y e (facD Y e 5) ((numF Y e (splF Y e k (strLen.getD k 0) 0 p).2).2.1 + 1)).1 = true then [c - nI (numF Y e (splF Y e k (strLen.getD k 0) 0 p).2).2.2] else [])) := by rw [mchF, h1, if_pos nu_1, if_pos m_2]
          have em := hP3.emit hh (by simp only [List.length_append]; omega) (c - nI (numF Y e (splF Y e k (strLen.getD k 0) 0 p).2).2.2)
          exact ⟨_, _, hO3.tr em.2, Or.inl ⟨rfl, by rw [hr]; exact ok3, by rw [hr]; have := em.1; rw [if_pos ok3]; simpa only [List.append_assoc] using this⟩, rfl, by rw [hr], rfl⟩
        · refine ev_ws (List.append_nil _) ?_
          show Ev G X 0 0 20 [(3, .int (nI ((numF Y e ((splF Y e k (strLen.getD k 0) 0 p).2)).2.2))), (0, .ref (a 0)), (1, .int c), (2, .ref (gK G k))] [] (MW G a S3 I F B T R K D hI (nI h) (nI ((somF Y e (facD Y e 5) (((numF Y e ((splF Y e k (strLen.getD k 0) 0 p).2)).2.1) + 1)).2.1)) (nI e) (nI 1) (nI 0) mu rd ra ki nu tv) ro
          refine ev_aload_n hC dX12_much_20 rfl 1 rfl ?_
          refine ev_iload_n hC dX12_much_21 rfl 2 rfl ?_
          refine ev_iload_n hC dX12_much_22 rfl 0 rfl ?_
          refine ev_isub hC dX12_much_23 ?_
          refine ev_callV (As := [.int (c - (nI ((numF Y e ((splF Y e k (strLen.getD k 0) 0 p).2)).2.2)))]) (st := []) (wf := []) hC cv_X12_84 (m_X12_emitsw G ro a S3 I F B T R K D hI (nI h) (nI ((somF Y e (facD Y e 5) (((numF Y e ((splF Y e k (strLen.getD k 0) 0 p).2)).2.1) + 1)).2.1)) (nI e) (nI 1) (nI 0) mu rd ra ki nu tv (c - (nI ((numF Y e ((splF Y e k (strLen.getD k 0) 0 p).2)).2.2)))) (by omega) rfl rfl (Nat.le_of_ble_eq_true rfl) (List.Perm.of_eq (List.append_nil _).symm) (mw 0 rfl) rfl dX12_much_24 (by decide) (by decide) ?_
          rintro _ _ _ ⟨rfl, rfl, rfl⟩
          refine ev_ws (List.append_nil _) ?_
          show Ev G X 0 0 27 [(3, .int (nI ((numF Y e ((splF Y e k (strLen.getD k 0) 0 p).2)).2.2))), (0, .ref (a 0)), (1, .int c), (2, .ref (gK G k))] [] (MW G a S3 I F B T R K D hI (nI h) (nI ((somF Y e (facD Y e 5) (((numF Y e ((splF Y e k (strLen.getD k 0) 0 p).2)).2.1) + 1)).2.1)) (nI e) (nI 1) (nI 0) mu rd ra ki nu tv) ro
          refine ev_vret hC hR rfl dX12_much_27 ?_
          have h1 : tllF Y e k p = (numF Y e (splF Y e k (strLen.getD k 0) 0 p).2) := if_pos sk
          have hr : mchF Y e k c p = ((somF Y e (facD Y e 5) ((numF Y e (splF Y e k (strLen.getD k 0) 0 p).2).2.1 + 1)).1, (somF Y e (facD Y e 5) ((numF Y e (splF Y e k (strLen.getD k 0) 0 p).2).2.1 + 1)).2.1, (somF Y e (facD Y e 5) ((numF Y e (splF Y e k (strLen.getD k 0) 0 p).2).2.1 + 1)).2.2 ++ (if (somF Y e (facD Y e 5) ((numF Y e (splF Y e k (strLen.getD k 0) 0 p).2).2.1 + 1)).1 = true then [c - nI (numF Y e (splF Y e k (strLen.getD k 0) 0 p).2).2.2] else [])) := by rw [mchF, h1, if_pos nu_1, if_pos m_2]
          exact ⟨_, _, hO3, Or.inr ⟨rfl, by rw [hr]; exact ok3⟩, rfl, by rw [hr], rfl⟩
      · refine ev_ws (List.append_nil _) ?_
        show Ev G X 0 0 16 [(3, .int (nI ((numF Y e ((splF Y e k (strLen.getD k 0) 0 p).2)).2.2))), (0, .ref (a 0)), (1, .int c), (2, .ref (gK G k))] [] (MW G a S I F B T R K D hI (nI h) (nI ((numF Y e ((splF Y e k (strLen.getD k 0) 0 p).2)).2.1)) (nI e) (nI 1) (nI 0) mu rd ra ki nu tv) ro
        refine ev_aload_n hC dX12_much_16 rfl 1 rfl ?_
        refine ev_callV (As := []) (st := []) (wf := []) hC cv_X12_87 (m_X12_somew G ro a S I F B T R K D hI (nI h) (nI ((numF Y e ((splF Y e k (strLen.getD k 0) 0 p).2)).2.1)) (nI e) (nI 1) (nI 0) mu rd ra ki nu tv) (by omega) rfl rfl (Nat.le_of_ble_eq_true rfl) (List.Perm.of_eq (List.append_nil _).symm) (mw 0 rfl) rfl dX12_much_17 (by decide) (by decide) ?_
        rintro _ _ _ ⟨rfl, rfl, rfl⟩
        refine ev_ws (List.append_nil _) ?_
        show Ev G X 0 0 20 [(3, .int (nI ((numF Y e ((splF Y e k (strLen.getD k 0) 0 p).2)).2.2))), (0, .ref (a 0)), (1, .int c), (2, .ref (gK G k))] [] (MW G a S I F B T R K D hI (nI h) (nI ((numF Y e ((splF Y e k (strLen.getD k 0) 0 p).2)).2.1)) (nI e) (nI 1) (nI 0) mu rd ra ki nu tv) ro
        refine ev_aload_n hC dX12_much_20 rfl 1 rfl ?_
        refine ev_iload_n hC dX12_much_21 rfl 2 rfl ?_
        refine ev_iload_n hC dX12_much_22 rfl 0 rfl ?_
        refine ev_isub hC dX12_much_23 ?_
        refine ev_callV (As := [.int (c - (nI ((numF Y e ((splF Y e k (strLen.getD k 0) 0 p).2)).2.2)))]) (st := []) (wf := []) hC cv_X12_84 (m_X12_emitsw G ro a S I F B T R K D hI (nI h) (nI ((numF Y e ((splF Y e k (strLen.getD k 0) 0 p).2)).2.1)) (nI e) (nI 1) (nI 0) mu rd ra ki nu tv (c - (nI ((numF Y e ((splF Y e k (strLen.getD k 0) 0 p).2)).2.2)))) (by omega) rfl rfl (Nat.le_of_ble_eq_true rfl) (List.Perm.of_eq (List.append_nil _).symm) (mw 0 rfl) rfl dX12_much_24 (by decide) (by decide) ?_
        rintro _ _ _ ⟨rfl, rfl, rfl⟩
        refine ev_ws (List.append_nil _) ?_
        show Ev G X 0 0 27 [(3, .int (nI ((numF Y e ((splF Y e k (strLen.getD k 0) 0 p).2)).2.2))), (0, .ref (a 0)), (1, .int c), (2, .ref (gK G k))] [] (MW G a S I F B T R K D hI (nI h) (nI ((numF Y e ((splF Y e k (strLen.getD k 0) 0 p).2)).2.1)) (nI e) (nI 1) (nI 0) mu rd ra ki nu tv) ro
        refine ev_vret hC hR rfl dX12_much_27 ?_
        have h1 : tllF Y e k p = (numF Y e (splF Y e k (strLen.getD k 0) 0 p).2) := if_pos sk
        have hr : mchF Y e k c p = (false, (numF Y e (splF Y e k (strLen.getD k 0) 0 p).2).2.1, []) := by rw [mchF, h1, if_pos nu_1, if_neg m_2]
        exact ⟨_, _, Oth.rf, Or.inr ⟨rfl, by rw [hr]⟩, rfl, by rw [hr], rfl⟩
    · refine ev_ws (List.append_nil _) ?_
      show Ev G X 0 0 9 [(0, .ref (a 0)), (1, .int c), (2, .ref (gK G k))] [.int (nI ((numF Y e ((splF Y e k (strLen.getD k 0) 0 p).2)).2.2))] (MW G a S I F B T R K D hI (nI h) (nI ((numF Y e ((splF Y e k (strLen.getD k 0) 0 p).2)).2.1)) (nI e) (nI 1) (nI 0) mu rd ra ki nu tv) ro
      obtain ⟨nu_11, nu_12, nu_13, nu_14⟩ := numF_p (t := Y) (e := e) (p := ((splF Y e k (strLen.getD k 0) 0 p).2)) (by omega)
      refine ev_istore_n (lv' := [(3, .int (nI ((numF Y e ((splF Y e k (strLen.getD k 0) 0 p).2)).2.2))), (0, .ref (a 0)), (1, .int c), (2, .ref (gK G k))]) hC dX12_much_9 rfl (by decide) rfl ?_
      refine ev_aload_n hC dX12_much_10 rfl 1 rfl ?_
      refine ev_bipush (v := (nI 32)) hC dX12_much_11 (by decide) ?_
      refine ev_callV (As := [.int (nI 32)]) (st := []) (wf := []) hC cv_X12_71 (m_X12_mustw G ro a S I F B T R K D hI (nI h) (nI ((numF Y e ((splF Y e k (strLen.getD k 0) 0 p).2)).2.1)) (nI e) (nI 1) (nI 0) mu rd ra ki nu tv 32 ((numF Y e ((splF Y e k (strLen.getD k 0) 0 p).2)).2.1)) (by omega) rfl rfl (Nat.le_of_ble_eq_true rfl) (List.Perm.of_eq (List.append_nil _).symm) (mw 0 rfl) rfl dX12_much_13 (by decide) (by decide) ?_
      rintro _ _ _ ⟨rfl, rfl, rfl⟩
      refine ev_ws (List.append_nil _) ?_
      show Ev G X 0 0 16 [(3, .int (nI ((numF Y e ((splF Y e k (strLen.getD k 0) 0 p).2)).2.2))), (0, .ref (a 0)), (1, .int c), (2, .ref (gK G k))] [] (MW G a S I F B T R K D hI (nI h) (nI ((numF Y e ((splF Y e k (strLen.getD k 0) 0 p).2)).2.1)) (nI e) (nI 1) (nI 0) mu rd ra ki nu tv) ro
      refine ev_aload_n hC dX12_much_16 rfl 1 rfl ?_
      refine ev_callV (As := []) (st := []) (wf := []) hC cv_X12_87 (m_X12_somew G ro a S I F B T R K D hI (nI h) (nI ((numF Y e ((splF Y e k (strLen.getD k 0) 0 p).2)).2.1)) (nI e) (nI 1) (nI 0) mu rd ra ki nu tv) (by omega) rfl rfl (Nat.le_of_ble_eq_true rfl) (List.Perm.of_eq (List.append_nil _).symm) (mw 0 rfl) rfl dX12_much_17 (by decide) (by decide) ?_
      rintro _ _ _ ⟨rfl, rfl, rfl⟩
      refine ev_ws (List.append_nil _) ?_
      show Ev G X 0 0 20 [(3, .int (nI ((numF Y e ((splF Y e k (strLen.getD k 0) 0 p).2)).2.2))), (0, .ref (a 0)), (1, .int c), (2, .ref (gK G k))] [] (MW G a S I F B T R K D hI (nI h) (nI ((numF Y e ((splF Y e k (strLen.getD k 0) 0 p).2)).2.1)) (nI e) (nI 1) (nI 0) mu rd ra ki nu tv) ro
      refine ev_aload_n hC dX12_much_20 rfl 1 rfl ?_
      refine ev_iload_n hC dX12_much_21 rfl 2 rfl ?_
      refine ev_iload_n hC dX12_much_22 rfl 0 rfl ?_
      refine ev_isub hC dX12_much_23 ?_
      refine ev_callV (As := [.int (c - (nI ((numF Y e ((splF Y e k (strLen.getD k 0) 0 p).2)).2.2)))]) (st := []) (wf := []) hC cv_X12_84 (m_X12_emitsw G ro a S I F B T R K D hI (nI h) (nI ((numF Y e ((splF Y e k (strLen.getD k 0) 0 p).2)).2.1)) (nI e) (nI 1) (nI 0) mu rd ra ki nu tv (c - (nI ((numF Y e ((splF Y e k (strLen.getD k 0) 0 p).2)).2.2)))) (by omega) rfl rfl (Nat.le_of_ble_eq_true rfl) (List.Perm.of_eq (List.append_nil _).symm) (mw 0 rfl) rfl dX12_much_24 (by decide) (by decide) ?_
      rintro _ _ _ ⟨rfl, rfl, rfl⟩
      refine ev_ws (List.append_nil _) ?_
      show Ev G X 0 0 27 [(3, .int (nI ((numF Y e ((splF Y e k (strLen.getD k 0) 0 p).2)).2.2))), (0, .ref (a 0)), (1, .int c), (2, .ref (gK G k))] [] (MW G a S I F B T R K D hI (nI h) (nI ((numF Y e ((splF Y e k (strLen.getD k 0) 0 p).2)).2.1)) (nI e) (nI 1) (nI 0) mu rd ra ki nu tv) ro
      refine ev_vret hC hR rfl dX12_much_27 ?_
      have h1 : tllF Y e k p = (numF Y e (splF Y e k (strLen.getD k 0) 0 p).2) := if_pos sk
      have hr : mchF Y e k c p = (false, (numF Y e (splF Y e k (strLen.getD k 0) 0 p).2).2.1, []) := by rw [mchF, h1, if_neg (by rw [nu_1]; decide)]
      exact ⟨_, _, Oth.rf, Or.inr ⟨rfl, by rw [hr]⟩, rfl, by rw [hr], rfl⟩
  · refine ev_ws (List.append_nil _) ?_
    show Ev G X 0 0 5 [(0, .ref (a 0)), (1, .int c), (2, .ref (gK G k))] [] (MW G a S I F B T R K D hI (nI h) (nI ((splF Y e k (strLen.getD k 0) 0 p).2)) (nI e) (nI 1) (nI 0) mu rd ra ki nu tv) ro
    have spl := splF_p (t := Y) (e := e) (k := k) hk (f := strLen.getD k 0) (j := 0) (p := p) (by omega) (by omega)
    refine ev_aload_n hC dX12_much_5 rfl 0 rfl ?_
    refine ev_callV (As := []) (st := []) (wf := []) hC cv_X12_98 (m_X12_figuresw G ro a S I F B T R K D hI (nI h) (nI ((splF Y e k (strLen.getD k 0) 0 p).2)) (nI e) (nI 1) (nI 0) mu rd ra ki nu tv) (by omega) rfl rfl (Nat.le_of_ble_eq_true rfl) (List.Perm.of_eq (List.append_nil _).symm) (mw 0 rfl) rfl dX12_much_6 (by decide) (by decide) ?_
    rintro _ _ _ ⟨rfl, rfl, rfl⟩
    refine ev_ws (List.append_nil _) ?_
    show Ev G X 0 0 9 [(0, .ref (a 0)), (1, .int c), (2, .ref (gK G k))] [.int (nI 0)] (MW G a S I F B T R K D hI (nI h) (nI ((splF Y e k (strLen.getD k 0) 0 p).2)) (nI e) (nI 1) (nI 0) mu rd ra ki nu tv) ro
    refine ev_istore_n (lv' := [(3, .int (nI 0)), (0, .ref (a 0)), (1, .int c), (2, .ref (gK G k))]) hC dX12_much_9 rfl (by decide) rfl ?_
    refine ev_aload_n hC dX12_much_10 rfl 1 rfl ?_
    refine ev_bipush (v := (nI 32)) hC dX12_much_11 (by decide) ?_
    refine ev_callV (As := [.int (nI 32)]) (st := []) (wf := []) hC cv_X12_71 (m_X12_mustw G ro a S I F B T R K D hI (nI h) (nI ((splF Y e k (strLen.getD k 0) 0 p).2)) (nI e) (nI 1) (nI 0) mu rd ra ki nu tv 32 ((splF Y e k (strLen.getD k 0) 0 p).2)) (by omega) rfl rfl (Nat.le_of_ble_eq_true rfl) (List.Perm.of_eq (List.append_nil _).symm) (mw 0 rfl) rfl dX12_much_13 (by decide) (by decide) ?_
    rintro _ _ _ ⟨rfl, rfl, rfl⟩
    refine ev_ws (List.append_nil _) ?_
    show Ev G X 0 0 16 [(3, .int (nI 0)), (0, .ref (a 0)), (1, .int c), (2, .ref (gK G k))] [] (MW G a S I F B T R K D hI (nI h) (nI ((splF Y e k (strLen.getD k 0) 0 p).2)) (nI e) (nI 1) (nI 0) mu rd ra ki nu tv) ro
    refine ev_aload_n hC dX12_much_16 rfl 1 rfl ?_
    refine ev_callV (As := []) (st := []) (wf := []) hC cv_X12_87 (m_X12_somew G ro a S I F B T R K D hI (nI h) (nI ((splF Y e k (strLen.getD k 0) 0 p).2)) (nI e) (nI 1) (nI 0) mu rd ra ki nu tv) (by omega) rfl rfl (Nat.le_of_ble_eq_true rfl) (List.Perm.of_eq (List.append_nil _).symm) (mw 0 rfl) rfl dX12_much_17 (by decide) (by decide) ?_
    rintro _ _ _ ⟨rfl, rfl, rfl⟩
    refine ev_ws (List.append_nil _) ?_
    show Ev G X 0 0 20 [(3, .int (nI 0)), (0, .ref (a 0)), (1, .int c), (2, .ref (gK G k))] [] (MW G a S I F B T R K D hI (nI h) (nI ((splF Y e k (strLen.getD k 0) 0 p).2)) (nI e) (nI 1) (nI 0) mu rd ra ki nu tv) ro
    refine ev_aload_n hC dX12_much_20 rfl 1 rfl ?_
    refine ev_iload_n hC dX12_much_21 rfl 2 rfl ?_
    refine ev_iload_n hC dX12_much_22 rfl 0 rfl ?_
    refine ev_isub hC dX12_much_23 ?_
    refine ev_callV (As := [.int (c - (nI 0))]) (st := []) (wf := []) hC cv_X12_84 (m_X12_emitsw G ro a S I F B T R K D hI (nI h) (nI ((splF Y e k (strLen.getD k 0) 0 p).2)) (nI e) (nI 1) (nI 0) mu rd ra ki nu tv (c - (nI 0))) (by omega) rfl rfl (Nat.le_of_ble_eq_true rfl) (List.Perm.of_eq (List.append_nil _).symm) (mw 0 rfl) rfl dX12_much_24 (by decide) (by decide) ?_
    rintro _ _ _ ⟨rfl, rfl, rfl⟩
    refine ev_ws (List.append_nil _) ?_
    show Ev G X 0 0 27 [(3, .int (nI 0)), (0, .ref (a 0)), (1, .int c), (2, .ref (gK G k))] [] (MW G a S I F B T R K D hI (nI h) (nI ((splF Y e k (strLen.getD k 0) 0 p).2)) (nI e) (nI 1) (nI 0) mu rd ra ki nu tv) ro
    refine ev_vret hC hR rfl dX12_much_27 ?_
    have h1 : tllF Y e k p = (false, (splF Y e k (strLen.getD k 0) 0 p).2, 0) := if_neg (by rw [sk]; decide)
    have hr : mchF Y e k c p = (false, (splF Y e k (strLen.getD k 0) 0 p).2, []) := by rw [mchF, h1]; rfl
    exact ⟨_, _, Oth.rf, Or.inr ⟨rfl, by rw [hr]⟩, rfl, by rw [hr], rfl⟩
