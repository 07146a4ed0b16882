set_option maxHeartbeats 4000000 in
set_option maxRecDepth 100000 in
theorem m_X12_clauseHere (G : GG) (ro : va_W) (a : Nat → Nat) (S I F B T R K D : Nat → Int32) (hI mu rd ra ki nu tv : Int32) (Y : Nat → Int32) (e p rn ne : Nat) (l : List Int32) (h : Nat) (hT : TPE S Y e) (hp : p ≤ e) (hTS : TSt S h (true, p, rn, ne, l)) (hl : l.length ≤ p) (hh : h ≤ 4) (hs : PartK G M_X12_some 23 h 0 (fun Y e => somF Y e (facD Y e 5))) : Mth G M_X12_clauseHere 25 0 0 [.ref (a 0)] (MW G a S I F B T R K D hI (nI h) (nI p) (nI e) (nI 0) (nI 0) mu rd ra ki nu tv) ro (fun r ws' ro' => ∃ (S' : Nat → Int32), ∃ (w' : Int32), TLp S S' h w' (clF Y e p rn ne l) ∧ r = none ∧ ws' = (MW G a S' I F B T R K D hI (nI h) (nI ((clF Y e p rn ne l).2.1)) (nI e) w' (nI 0) mu rd ra ki nu tv) ∧ ro = ro') := by
  refine mth_of (by decide +kernel) (Nat.le_of_ble_eq_true rfl) (fun X hC hR => ?_)
  have he := hT.1
  show Ev G X 0 0 0 [(0, .ref (a 0))] [] (MW G a S I F B T R K D hI (nI h) (nI p) (nI e) (nI 0) (nI 0) mu rd ra ki nu tv) ro
  refine ev_aload_n hC dX12_clauseHere_0 rfl 0 rfl ?_
  refine ev_callV (As := []) (st := []) (wf := []) hC cv_X12_58 (m_X12_here G ro a S I F B T R K D hI (nI h) (nI p) (nI e) (nI 0) (nI 0) mu rd ra ki nu tv Y e p hT (by omega)) (by omega) rfl rfl (Nat.le_of_ble_eq_true rfl) (List.Perm.of_eq (List.append_nil _).symm) (mw 0 rfl) rfl dX12_clauseHere_1 (by decide) (by decide) ?_
  rintro _ _ _ ⟨rfl, rfl, rfl⟩
  refine ev_ws (List.append_nil _) ?_
  show Ev G X 0 0 4 [(0, .ref (a 0))] [.int (hrF Y e p)] (MW G a S I F B T R K D hI (nI h) (nI p) (nI e) (nI 0) (nI 0) mu rd ra ki nu tv) ro
  by_cases w_1_0 : (hrF Y e p) = (nI 99)
  · refine ev_top (y := (nI 99)) w_1_0 ?_
    refine ev_lookup (off := 79) (tgt := 83) hC dX12_clauseHere_4 (by decide) (by decide) (by decide) ?_
    refine ev_aload_n hC dX12_clauseHere_83 rfl 0 rfl ?_
    refine ev_sipush (v := (-200)) hC dX12_clauseHere_84 (by decide) ?_
    refine ev_ldcS (tx := "calm ") (i := 11) hC dX12_clauseHere_87 (by decide +kernel) ?_
    refine ev_callV (As := [.int (-200), .ref (gK G 11)]) (st := []) (wf := []) hC cv_X12_118 (m_X12_much G ro a S I F B T R K D hI mu rd ra ki nu tv Y e p l h 11 (-200) hT hp hTS.2.2 hl hh (by decide) hs) (by omega) rfl rfl (Nat.le_of_ble_eq_true rfl) (List.Perm.of_eq (List.append_nil _).symm) (mw 0 rfl) rfl dX12_clauseHere_89 (by decide) (by decide) ?_
    rintro _ _ _ ⟨S3, _, hO3, ⟨rfl, ok3, hP3⟩ | ⟨rfl, ok3⟩, rfl, rfl, rfl⟩
    · refine ev_ws (List.append_nil _) ?_
      show Ev G X 0 0 92 [(0, .ref (a 0))] [] (MW G a S3 I F B T R K D hI (nI h) (nI ((mchF Y e 11 (-200) p).2.1)) (nI e) (nI 0) (nI 0) mu rd ra ki nu tv) ro
      refine ev_goto (tgt := 100) hC dX12_clauseHere_92 (by decide) ?_
      refine ev_vret hC hR rfl dX12_clauseHere_100 ?_
      have hr := show clF Y e p rn ne l = _ from by rw [clF, if_neg (by rw [w_1_0]; decide), if_neg (by rw [w_1_0]; decide), if_neg (by rw [w_1_0]; decide), if_pos w_1_0]
      exact ⟨S3, _, by rw [hr]; exact ⟨hO3.otr, Or.inl ⟨rfl, ok3, hTS.steps hh hO3 hP3⟩⟩, rfl, by rw [hr], rfl⟩
    · refine ev_ws (List.append_nil _) ?_
      show Ev G X 0 0 92 [(0, .ref (a 0))] [] (MW G a S3 I F B T R K D hI (nI h) (nI ((mchF Y e 11 (-200) p).2.1)) (nI e) (nI 1) (nI 0) mu rd ra ki nu tv) ro
      refine ev_goto (tgt := 100) hC dX12_clauseHere_92 (by decide) ?_
      refine ev_vret hC hR rfl dX12_clauseHere_100 ?_
      have hr := show clF Y e p rn ne l = _ from by rw [clF, if_neg (by rw [w_1_0]; decide), if_neg (by rw [w_1_0]; decide), if_neg (by rw [w_1_0]; decide), if_pos w_1_0]
      exact ⟨S3, _, by rw [hr]; exact ⟨hO3.otr, Or.inr ⟨rfl, ok3⟩⟩, rfl, by rw [hr], rfl⟩
  by_cases w_1_1 : (hrF Y e p) = (nI 110)
  · refine ev_top (y := (nI 110)) w_1_1 ?_
    refine ev_lookup (off := 56) (tgt := 60) hC dX12_clauseHere_4 (by decide) (by decide) (by decide) ?_
    refine ev_aload_n hC dX12_clauseHere_60 rfl 0 rfl ?_
    refine ev_sipush (v := (nI 227)) hC dX12_clauseHere_61 (by decide) ?_
    refine ev_ldcS (tx := "need ") (i := 9) hC dX12_clauseHere_64 (by decide +kernel) ?_
    refine ev_callV (As := [.int (nI 227), .ref (gK G 9)]) (st := []) (wf := []) hC cv_X12_110 (m_X12_tellsHere G ro a S I F B T R K D hI mu rd ra ki nu tv Y e p h 0 9 227 hT hp hh (by decide) (by decide)) (by omega) rfl rfl (Nat.le_of_ble_eq_true rfl) (List.Perm.of_eq (List.append_nil _).symm) (mw 0 rfl) rfl dX12_clauseHere_66 (by decide) (by decide) ?_
    rintro _ _ _ ⟨S3, _, ⟨rfl, ok3, rfl⟩ | ⟨rfl, ok3, hS3⟩, rfl, rfl, rfl⟩
    · refine ev_ws (List.append_nil _) ?_
      show Ev G X 0 0 69 [(0, .ref (a 0))] [] (MW G a (upd S (227 + h) (nI (tllF Y e 9 p).2.2)) I F B T R K D hI (nI h) (nI ((tllF Y e 9 p).2.1)) (nI e) (nI 0) (nI 0) mu rd ra ki nu tv) ro
      refine ev_goto (tgt := 100) hC dX12_clauseHere_69 (by decide) ?_
      refine ev_vret hC hR rfl dX12_clauseHere_100 ?_
      have hr := show clF Y e p rn ne l = _ from by rw [clF, if_neg (by rw [w_1_1]; decide), if_pos w_1_1]
      exact ⟨(upd S (227 + h) (nI (tllF Y e 9 p).2.2)), _, by rw [hr]; exact ⟨(hTS.need hh (b := true) (q := 0)).2, Or.inl ⟨rfl, ok3, (hTS.need hh).1⟩⟩, rfl, by rw [hr], rfl⟩
    · refine ev_ws (List.append_nil _) ?_
      show Ev G X 0 0 69 [(0, .ref (a 0))] [] (MW G a S3 I F B T R K D hI (nI h) (nI ((tllF Y e 9 p).2.1)) (nI e) (nI 1) (nI 0) mu rd ra ki nu tv) ro
      refine ev_goto (tgt := 100) hC dX12_clauseHere_69 (by decide) ?_
      refine ev_vret hC hR rfl dX12_clauseHere_100 ?_
      have hr := show clF Y e p rn ne l = _ from by rw [clF, if_neg (by rw [w_1_1]; decide), if_pos w_1_1]
      exact ⟨S3, _, by rw [hr]; exact ⟨(by rw [hS3]; exact Otr.rf), Or.inr ⟨rfl, ok3⟩⟩, rfl, by rw [hr], rfl⟩
  by_cases w_1_2 : (hrF Y e p) = (nI 114)
  · refine ev_top (y := (nI 114)) w_1_2 ?_
    refine ev_lookup (off := 44) (tgt := 48) hC dX12_clauseHere_4 (by decide) (by decide) (by decide) ?_
    refine ev_aload_n hC dX12_clauseHere_48 rfl 0 rfl ?_
    refine ev_sipush (v := (nI 222)) hC dX12_clauseHere_49 (by decide) ?_
    refine ev_ldcS (tx := "rain ") (i := 8) hC dX12_clauseHere_52 (by decide +kernel) ?_
    refine ev_callV (As := [.int (nI 222), .ref (gK G 8)]) (st := []) (wf := []) hC cv_X12_110 (m_X12_tellsHere G ro a S I F B T R K D hI mu rd ra ki nu tv Y e p h 0 8 222 hT hp hh (by decide) (by decide)) (by omega) rfl rfl (Nat.le_of_ble_eq_true rfl) (List.Perm.of_eq (List.append_nil _).symm) (mw 0 rfl) rfl dX12_clauseHere_54 (by decide) (by decide) ?_
    rintro _ _ _ ⟨S3, _, ⟨rfl, ok3, rfl⟩ | ⟨rfl, ok3, hS3⟩, rfl, rfl, rfl⟩
    · refine ev_ws (List.append_nil _) ?_
      show Ev G X 0 0 57 [(0, .ref (a 0))] [] (MW G a (upd S (222 + h) (nI (tllF Y e 8 p).2.2)) I F B T R K D hI (nI h) (nI ((tllF Y e 8 p).2.1)) (nI e) (nI 0) (nI 0) mu rd ra ki nu tv) ro
      refine ev_goto (tgt := 100) hC dX12_clauseHere_57 (by decide) ?_
      refine ev_vret hC hR rfl dX12_clauseHere_100 ?_
      have hr := show clF Y e p rn ne l = _ from by rw [clF, if_pos w_1_2]
      exact ⟨(upd S (222 + h) (nI (tllF Y e 8 p).2.2)), _, by rw [hr]; exact ⟨(hTS.rain hh (b := true) (q := 0)).2, Or.inl ⟨rfl, ok3, (hTS.rain hh).1⟩⟩, rfl, by rw [hr], rfl⟩
    · refine ev_ws (List.append_nil _) ?_
      show Ev G X 0 0 57 [(0, .ref (a 0))] [] (MW G a S3 I F B T R K D hI (nI h) (nI ((tllF Y e 8 p).2.1)) (nI e) (nI 1) (nI 0) mu rd ra ki nu tv) ro
      refine ev_goto (tgt := 100) hC dX12_clauseHere_57 (by decide) ?_
      refine ev_vret hC hR rfl dX12_clauseHere_100 ?_
      have hr := show clF Y e p rn ne l = _ from by rw [clF, if_pos w_1_2]
      exact ⟨S3, _, by rw [hr]; exact ⟨(by rw [hS3]; exact Otr.rf), Or.inr ⟨rfl, ok3⟩⟩, rfl, by rw [hr], rfl⟩
  by_cases w_1_3 : (hrF Y e p) = (nI 119)
  · refine ev_top (y := (nI 119)) w_1_3 ?_
    refine ev_lookup (off := 68) (tgt := 72) hC dX12_clauseHere_4 (by decide) (by decide) (by decide) ?_
    refine ev_aload_n hC dX12_clauseHere_72 rfl 0 rfl ?_
    refine ev_bipush (v := (-10)) hC dX12_clauseHere_73 (by decide) ?_
    refine ev_ldcS (tx := "wrong ") (i := 10) hC dX12_clauseHere_75 (by decide +kernel) ?_
    refine ev_callV (As := [.int (-10), .ref (gK G 10)]) (st := []) (wf := []) hC cv_X12_118 (m_X12_much G ro a S I F B T R K D hI mu rd ra ki nu tv Y e p l h 10 (-10) hT hp hTS.2.2 hl hh (by decide) hs) (by omega) rfl rfl (Nat.le_of_ble_eq_true rfl) (List.Perm.of_eq (List.append_nil _).symm) (mw 0 rfl) rfl dX12_clauseHere_77 (by decide) (by decide) ?_
    rintro _ _ _ ⟨S3, _, hO3, ⟨rfl, ok3, hP3⟩ | ⟨rfl, ok3⟩, rfl, rfl, rfl⟩
    · refine ev_ws (List.append_nil _) ?_
      show Ev G X 0 0 80 [(0, .ref (a 0))] [] (MW G a S3 I F B T R K D hI (nI h) (nI ((mchF Y e 10 (-10) p).2.1)) (nI e) (nI 0) (nI 0) mu rd ra ki nu tv) ro
      refine ev_goto (tgt := 100) hC dX12_clauseHere_80 (by decide) ?_
      refine ev_vret hC hR rfl dX12_clauseHere_100 ?_
      have hr := show clF Y e p rn ne l = _ from by rw [clF, if_neg (by rw [w_1_3]; decide), if_neg (by rw [w_1_3]; decide), if_pos w_1_3]
      exact ⟨S3, _, by rw [hr]; exact ⟨hO3.otr, Or.inl ⟨rfl, ok3, hTS.steps hh hO3 hP3⟩⟩, rfl, by rw [hr], rfl⟩
    · refine ev_ws (List.append_nil _) ?_
      show Ev G X 0 0 80 [(0, .ref (a 0))] [] (MW G a S3 I F B T R K D hI (nI h) (nI ((mchF Y e 10 (-10) p).2.1)) (nI e) (nI 1) (nI 0) mu rd ra ki nu tv) ro
      refine ev_goto (tgt := 100) hC dX12_clauseHere_80 (by decide) ?_
      refine ev_vret hC hR rfl dX12_clauseHere_100 ?_
      have hr := show clF Y e p rn ne l = _ from by rw [clF, if_neg (by rw [w_1_3]; decide), if_neg (by rw [w_1_3]; decide), if_pos w_1_3]
      exact ⟨S3, _, by rw [hr]; exact ⟨hO3.otr, Or.inr ⟨rfl, ok3⟩⟩, rfl, by rw [hr], rfl⟩
  refine ev_lookup (off := 91) (tgt := 95) hC dX12_clauseHere_4 (by decide) (lk_out _ (fun q hq => ?_)) (by decide) ?_
  · have hq2 : q = (99, 79) ∨ q = (110, 56) ∨ q = (114, 44) ∨ q = (119, 68) := by simpa using hq
    rcases hq2 with rfl | rfl | rfl | rfl
    · exact fun e => w_1_0 (Int32.toInt_inj.mp (e.trans (by decide)))
    · exact fun e => w_1_1 (Int32.toInt_inj.mp (e.trans (by decide)))
    · exact fun e => w_1_2 (Int32.toInt_inj.mp (e.trans (by decide)))
    · exact fun e => w_1_3 (Int32.toInt_inj.mp (e.trans (by decide)))
  refine ev_aload_n hC dX12_clauseHere_95 rfl 0 rfl ?_
  refine ev_iconst (v := (nI 1)) hC dX12_clauseHere_96 (by decide) ?_
  refine ev_put (ws' := (MW G a S I F B T R K D hI (nI h) (nI p) (nI e) (nI 1) (nI 0) mu rd ra ki nu tv)) (q0 := 0) hC fp_X12_54_12 rfl (Nat.le_of_ble_eq_true rfl) (nar_01 (by decide)).1 (nar_01 (by decide)).2.1 rfl dX12_clauseHere_97 ?_
  refine ev_vret hC hR rfl dX12_clauseHere_100 ?_
  have hr := show clF Y e p rn ne l = _ from by rw [clF, if_neg w_1_2, if_neg w_1_1, if_neg w_1_3, if_neg w_1_0]
  exact ⟨S, _, by rw [hr]; exact ⟨Otr.rf, Or.inr ⟨rfl, rfl⟩⟩, rfl, by rw [hr], rfl⟩

theorem TSt.ne {S : Nat → Int32} {h j : Nat} {r : TR} (hs : TSt S h r) (hj : j < 222) (x : Int32) : TSt (upd S j x) h r := ⟨(upd_ne _ _ (by omega)).trans hs.1, (upd_ne _ _ (by omega)).trans hs.2.1, hs.2.2.ne (by omega) _⟩

set_option maxHeartbeats 4000000 in
set_option maxRecDepth 100000 in
theorem m_X12_treaty (G : GG) (ro : va_W) (a : Nat → Nat) (S I F B T R K D : Nat → Int32) (hI ac sp en iw op mu rd ra ki nu tv : Int32) (h e : Nat) (h33 : S 33 = nI h) (h37 : S 37 = nI e) (hh5 : h ≤ 5) (he : e ≤ 100) : Mth G M_X12_treaty 26 0 0 [.ref (a 0)] (MW G a S I F B T R K D hI ac sp en iw op mu rd ra ki nu tv) ro (fun r ws' ro' => ∃ (S' : Nat → Int32), ∃ (ac' : Int32), ∃ (sp' : Int32), ∃ (en' : Int32), ∃ (iw' : Int32), ∃ (op' : Int32), treT S S' ∧ r = some (.int (treR S)) ∧ ws' = (MW G a S' I F B T R K D hI ac' sp' en' iw' op' mu rd ra ki nu tv) ∧ ro = ro') := by
  refine mth_of (by decide +kernel) (Nat.le_of_ble_eq_true rfl) (fun X hC hR => ?_)
  have hsh : sn S 33 = h := sn_of (by omega) h33
  have hse : sn S 37 = e := sn_of (by omega) h37
  obtain ⟨Y, hY⟩ : ∃ Y, Y = tapF S := ⟨_, rfl⟩
  show Ev G X 0 0 0 [(0, .ref (a 0))] [] (MW G a S I F B T R K D hI ac sp en iw op mu rd ra ki nu tv) ro
  refine ev_aload_n hC dX12_treaty_0 rfl 0 rfl ?_
  refine ev_get hC fl_X12_9_12 (mw 0 rfl) rfl dX12_treaty_1 ?_
  refine ev_bipush (v := (nI 33)) hC dX12_treaty_4 (by decide) ?_
  refine ev_ialdN (i := 33) hC (mw 1 rfl) (by omega) (by omega) dX12_treaty_6 ?_
  refine ev_top (y := (nI h)) h33 ?_
  refine ev_iconst (v := (nI 5)) hC dX12_treaty_7 (by decide) ?_
  refine ev_icmp_neN (tgt := 14) hC dX12_treaty_8 (by decide) (by omega) (by omega) (fun c_1 => ?_) (fun c_1 => ?_)
  · have hh : h ≤ 4 := by omega
    have hs := som_all (G := G) hh
    refine ev_aload_n hC dX12_treaty_14 rfl 0 rfl ?_
    refine ev_aload_n hC dX12_treaty_15 rfl 0 rfl ?_
    refine ev_get hC fl_X12_9_12 (mw 0 rfl) rfl dX12_treaty_16 ?_
    refine ev_bipush (v := (nI 33)) hC dX12_treaty_19 (by decide) ?_
    refine ev_ialdN (i := 33) hC (mw 1 rfl) (by omega) (by omega) dX12_treaty_21 ?_
    refine ev_top (y := (nI h)) h33 ?_
    refine ev_put (ws' := (MW G a S I F B T R K D hI (nI h) sp en iw op mu rd ra ki nu tv)) (q0 := 0) hC fp_X12_75_12 rfl (Nat.le_of_ble_eq_true rfl) rfl rfl rfl dX12_treaty_22 ?_
    refine ev_aload_n hC dX12_treaty_25 rfl 0 rfl ?_
    refine ev_aload_n hC dX12_treaty_26 rfl 0 rfl ?_
    refine ev_get hC fl_X12_9_12 (mw 0 rfl) rfl dX12_treaty_27 ?_
    refine ev_bipush (v := (nI 37)) hC dX12_treaty_30 (by decide) ?_
    refine ev_ialdN (i := 37) hC (mw 1 rfl) (by omega) (by omega) dX12_treaty_32 ?_
    refine ev_top (y := (nI e)) h37 ?_
    refine ev_put (ws' := (MW G a S I F B T R K D hI (nI h) sp (nI e) iw op mu rd ra ki nu tv)) (q0 := 0) hC fp_X12_51_12 rfl (Nat.le_of_ble_eq_true rfl) rfl rfl rfl dX12_treaty_33 ?_
    refine ev_aload_n hC dX12_treaty_36 rfl 0 rfl ?_
    refine ev_get hC fl_X12_9_12 (mw 0 rfl) rfl dX12_treaty_37 ?_
    refine ev_bipush (v := (nI 37)) hC dX12_treaty_40 (by decide) ?_
    refine ev_iconst (v := (nI 0)) hC dX12_treaty_42 (by decide) ?_
    refine ev_iastN (i := 37) (ws' := (MW G a (upd S 37 (nI 0)) I F B T R K D hI (nI h) sp (nI e) iw op mu rd ra ki nu tv)) (q0 := 1) hC rfl (by omega) (by omega) rfl dX12_treaty_43 ?_
    refine ev_aload_n hC dX12_treaty_44 rfl 0 rfl ?_
    refine ev_get hC fl_X12_9_12 (mw 0 rfl) rfl dX12_treaty_45 ?_
    refine ev_sipush (v := (nI 222)) hC dX12_treaty_48 (by decide) ?_
    refine ev_aload_n hC dX12_treaty_51 rfl 0 rfl ?_
    refine ev_get hC fl_X12_75_12 (mw 0 rfl) rfl dX12_treaty_52 ?_
    refine ev_iadd hC dX12_treaty_55 ?_
    refine ev_top (y := (nI (222 + h))) ((nI_add _ _).trans (congrArg nI (by omega))) ?_
    refine ev_iconst (v := (nI 1)) hC dX12_treaty_56 (by decide) ?_
    refine ev_iastN (i := 222 + h) (ws' := (MW G a (upd (upd S 37 (nI 0)) (222 + h) (nI 1)) I F B T R K D hI (nI h) sp (nI e) iw op mu rd ra ki nu tv)) (q0 := 1) hC rfl (by omega) (by omega) rfl dX12_treaty_57 ?_
    refine ev_aload_n hC dX12_treaty_58 rfl 0 rfl ?_
    refine ev_get hC fl_X12_9_12 (mw 0 rfl) rfl dX12_treaty_59 ?_
    refine ev_sipush (v := (nI 227)) hC dX12_treaty_62 (by decide) ?_
    refine ev_aload_n hC dX12_treaty_65 rfl 0 rfl ?_
    refine ev_get hC fl_X12_75_12 (mw 0 rfl) rfl dX12_treaty_66 ?_
    refine ev_iadd hC dX12_treaty_69 ?_
    refine ev_top (y := (nI (227 + h))) ((nI_add _ _).trans (congrArg nI (by omega))) ?_
    refine ev_iconst (v := (nI 2)) hC dX12_treaty_70 (by decide) ?_
    refine ev_iastN (i := 227 + h) (ws' := (MW G a (upd (upd (upd S 37 (nI 0)) (222 + h) (nI 1)) (227 + h) (nI 2)) I F B T R K D hI (nI h) sp (nI e) iw op mu rd ra ki nu tv)) (q0 := 1) hC rfl (by omega) (by omega) rfl dX12_treaty_71 ?_
    refine ev_aload_n hC dX12_treaty_72 rfl 0 rfl ?_
    refine ev_get hC fl_X12_9_12 (mw 0 rfl) rfl dX12_treaty_73 ?_
    refine ev_sipush (v := (nI 232)) hC dX12_treaty_76 (by decide) ?_
    refine ev_aload_n hC dX12_treaty_79 rfl 0 rfl ?_
    refine ev_get hC fl_X12_75_12 (mw 0 rfl) rfl dX12_treaty_80 ?_
    refine ev_iadd hC dX12_treaty_83 ?_
    refine ev_top (y := (nI (232 + h))) ((nI_add _ _).trans (congrArg nI (by omega))) ?_
    refine ev_iconst (v := (nI 0)) hC dX12_treaty_84 (by decide) ?_
    refine ev_iastN (i := 232 + h) (ws' := (MW G a (upd (upd (upd (upd S 37 (nI 0)) (222 + h) (nI 1)) (227 + h) (nI 2)) (232 + h) (nI 0)) I F B T R K D hI (nI h) sp (nI e) iw op mu rd ra ki nu tv)) (q0 := 1) hC rfl (by omega) (by omega) rfl dX12_treaty_85 ?_
    refine ev_aload_n hC dX12_treaty_86 rfl 0 rfl ?_
    refine ev_iconst (v := (nI 0)) hC dX12_treaty_87 (by decide) ?_
    refine ev_put (ws' := (MW G a (upd (upd (upd (upd S 37 (nI 0)) (222 + h) (nI 1)) (227 + h) (nI 2)) (232 + h) (nI 0)) I F B T R K D hI (nI h) (nI 0) (nI e) iw op mu rd ra ki nu tv)) (q0 := 0) hC fp_X12_48_12 rfl (Nat.le_of_ble_eq_true rfl) rfl rfl rfl dX12_treaty_88 ?_
    refine ev_aload_n hC dX12_treaty_91 rfl 0 rfl ?_
    refine ev_iconst (v := (nI 0)) hC dX12_treaty_92 (by decide) ?_
    refine ev_put (ws' := (MW G a (upd (upd (upd (upd S 37 (nI 0)) (222 + h) (nI 1)) (227 + h) (nI 2)) (232 + h) (nI 0)) I F B T R K D hI (nI h) (nI 0) (nI e) (nI 0) op mu rd ra ki nu tv)) (q0 := 0) hC fp_X12_54_12 rfl (Nat.le_of_ble_eq_true rfl) (nar_01 (by decide)).1 (nar_01 (by decide)).2.1 rfl dX12_treaty_93 ?_
    refine ev_aload_n hC dX12_treaty_96 rfl 0 rfl ?_
    refine ev_iconst (v := (nI 0)) hC dX12_treaty_97 (by decide) ?_
    refine ev_put (ws' := (MW G a (upd (upd (upd (upd S 37 (nI 0)) (222 + h) (nI 1)) (227 + h) (nI 2)) (232 + h) (nI 0)) I F B T R K D hI (nI h) (nI 0) (nI e) (nI 0) (nI 0) mu rd ra ki nu tv)) (q0 := 0) hC fp_X12_78_12 rfl (Nat.le_of_ble_eq_true rfl) rfl rfl rfl dX12_treaty_98 ?_
    refine ev_iconst (v := (nI 1)) hC dX12_treaty_101 (by decide) ?_
    refine ev_istore_n (lv' := [(1, .int (nI 1)), (0, .ref (a 0))]) hC dX12_treaty_102 rfl (by decide) rfl ?_
    have hT0 : TPE (upd (upd (upd (upd S 37 (nI 0)) (222 + h) (nI 1)) (227 + h) (nI 2)) (232 + h) (nI 0)) Y e := ⟨he, fun i hi => by rw [hY]; simp [upd, tapF]; split <;> first | omega | (split <;> first | omega | (split <;> first | omega | (split <;> first | omega | rfl)))⟩
    have hTS0 : TSt (upd (upd (upd (upd S 37 (nI 0)) (222 + h) (nI 1)) (227 + h) (nI 2)) (232 + h) (nI 0)) h (true, 0, 1, 2, []) := ⟨by rw [upd_ne _ _ (by omega), upd_ne _ _ (by omega), upd_eq], by rw [upd_ne _ _ (by omega), upd_eq], by rw [upd_eq]; rfl, fun i hi => absurd hi (Nat.not_lt_zero _)⟩
    have h0 : ∀ j, j ≠ 37 → j ≠ 222 + h → j ≠ 227 + h → j ≠ 232 + h → (upd (upd (upd (upd S 37 (nI 0)) (222 + h) (nI 1)) (227 + h) (nI 2)) (232 + h) (nI 0)) j = S j := fun j a b c d => by rw [upd_ne _ _ d, upd_ne _ _ c, upd_ne _ _ b, upd_ne _ _ a]
    have h037 : (upd (upd (upd (upd S 37 (nI 0)) (222 + h) (nI 1)) (227 + h) (nI 2)) (232 + h) (nI 0)) 37 = nI 0 := by rw [upd_ne _ _ (by omega), upd_ne _ _ (by omega), upd_ne _ _ (by omega), upd_eq]
    generalize (upd (upd (upd (upd S 37 (nI 0)) (222 + h) (nI 1)) (227 + h) (nI 2)) (232 + h) (nI 0)) = S0 at hT0 hTS0 h0 h037 ⊢
    refine ev_aload_n hC dX12_treaty_103 rfl 1 rfl ?_
    refine ev_callV (As := []) (st := []) (wf := []) hC cv_X12_123 (m_X12_clauseHere G ro a S0 I F B T R K D hI mu rd ra ki nu tv Y e 0 1 2 [] h hT0 (Nat.zero_le _) hTS0 (Nat.le_refl _) hh hs) (by omega) rfl rfl (Nat.le_of_ble_eq_true rfl) (List.Perm.of_eq (List.append_nil _).symm) (mw 0 rfl) rfl dX12_treaty_104 (by decide) (by decide) ?_
    rintro _ _ _ ⟨S1, w1, hO1, rfl, rfl, rfl⟩
    refine ev_ws (List.append_nil _) ?_
    show Ev G X 0 0 107 [(1, .int (nI 1)), (0, .ref (a 0))] [] (MW G a S1 I F B T R K D hI (nI h) (nI ((clF Y e 0 1 2 []).2.1)) (nI e) w1 (nI 0) mu rd ra ki nu tv) ro
    have lp_107 : ∀ (fu_107 : Nat) (S2 : Nat → Int32) (w : Int32) (r : TR) (n : Nat) (hLp : TLp S0 S2 h w r) (hb : treL Y e (10 - n) r = treG Y e) (hnn : 1 ≤ n ∧ n ≤ 10) (hg : Tgo e 0 r) (hn : 11 - n < fu_107), Ev G X 0 0 107 [(0, .ref (a 0)), (1, .int (nI n))] [] (MW G a S2 I F B T R K D hI (nI h) (nI r.2.1) (nI e) w (nI 0) mu rd ra ki nu tv) ro := by
      intro fu_107
      induction fu_107 with
      | zero => intro S2 w r n hLp hb hnn hg hn; exact absurd hn (Nat.not_lt_zero _)
      | succ fu_107 ih =>
        intro S2 w r n hLp hb hnn hg hn
        obtain ⟨hO, hw⟩ := hLp
        have h233 : S2 33 = nI h := (hO 33 (by omega) (by omega) (by omega) (by omega)).trans ((h0 33 (by omega) (by omega) (by omega) (by omega)).trans h33)
        have hT2 := hT0.otr hO
        obtain ⟨hn1, hn10⟩ := hnn
        obtain ⟨q1, q2, q3, q4, q5, q6, q7⟩ := id hg
        rcases hw with ⟨rfl, ok, hP⟩ | ⟨rfl, ok⟩
        · refine ev_aload_n hC dX12_treaty_107 rfl 0 rfl ?_
          refine ev_get hC fl_X12_54_12 (mw 0 rfl) rfl dX12_treaty_108 ?_
          refine ev_if_neN (tgt := 149) hC dX12_treaty_111 (by decide) (by omega) (fun c_2 => absurd c_2 (by omega)) (fun c_2 => ?_)
          refine ev_iload_n hC dX12_treaty_114 rfl 1 rfl ?_
          refine ev_bipush (v := (nI 10)) hC dX12_treaty_115 (by decide) ?_
          refine ev_icmp_geN (tgt := 149) hC dX12_treaty_117 (by decide) (by omega) (by omega) (fun c_3 => ?_) (fun c_3 => ?_)
          · refine ev_aload_n hC dX12_treaty_149 rfl 0 rfl ?_
            refine ev_get hC fl_X12_54_12 (mw 0 rfl) rfl dX12_treaty_150 ?_
            refine ev_if_neN (tgt := 167) hC dX12_treaty_153 (by decide) (by omega) (fun c_4 => absurd c_4 (by omega)) (fun c_4 => ?_)
            refine ev_aload_n hC dX12_treaty_156 rfl 0 rfl ?_
            refine ev_get hC fl_X12_48_12 (mw 0 rfl) rfl dX12_treaty_157 ?_
            refine ev_aload_n hC dX12_treaty_160 rfl 0 rfl ?_
            refine ev_get hC fl_X12_51_12 (mw 0 rfl) rfl dX12_treaty_161 ?_
            refine ev_icmp_eqN (tgt := 175) hC dX12_treaty_164 (by decide) (by omega) (by omega) (fun c_5 => ?_) (fun c_5 => ?_)
            · refine ev_aload_n hC dX12_treaty_175 rfl 0 rfl ?_
              refine ev_get hC fl_X12_9_12 (mw 0 rfl) rfl dX12_treaty_176 ?_
              refine ev_bipush (v := (nI 33)) hC dX12_treaty_179 (by decide) ?_
              refine ev_dup2 hC dX12_treaty_181 rfl rfl ?_
              refine ev_ialdN (i := 33) hC (mw 1 rfl) (by omega) (by omega) dX12_treaty_182 ?_
              refine ev_top (y := (nI h)) h233 ?_
              refine ev_iconst (v := (nI 1)) hC dX12_treaty_183 (by decide) ?_
              refine ev_iadd hC dX12_treaty_184 ?_
              refine ev_top (y := (nI (h + 1))) ((nI_add _ _).trans (congrArg nI (by omega))) ?_
              refine ev_iastN (i := 33) (ws' := (MW G a (upd S2 33 (nI (h + 1))) I F B T R K D hI (nI h) (nI r.2.1) (nI e) (nI 0) (nI 0) mu rd ra ki nu tv)) (q0 := 1) hC rfl (by omega) (by omega) rfl dX12_treaty_185 ?_
              refine ev_aload_n hC dX12_treaty_186 rfl 0 rfl ?_
              refine ev_get hC fl_X12_9_12 (mw 0 rfl) rfl dX12_treaty_187 ?_
              refine ev_bipush (v := (nI 38)) hC dX12_treaty_190 (by decide) ?_
              refine ev_aload_n hC dX12_treaty_192 rfl 0 rfl ?_
              refine ev_get hC fl_X12_75_12 (mw 0 rfl) rfl dX12_treaty_193 ?_
              refine ev_iastN (i := 38) (ws' := (MW G a (upd (upd S2 33 (nI (h + 1))) 38 (nI h)) I F B T R K D hI (nI h) (nI r.2.1) (nI e) (nI 0) (nI 0) mu rd ra ki nu tv)) (q0 := 1) hC rfl (by omega) (by omega) rfl dX12_treaty_196 ?_
              refine ev_aload_n hC dX12_treaty_197 rfl 0 rfl ?_
              refine ev_get hC fl_X12_75_12 (mw 0 rfl) rfl dX12_treaty_198 ?_
              refine ev_iret hC hR rfl dX12_treaty_201 ?_
              have hr : treG Y e = r := by
                rw [← hb]
                first | exact treL_f (fun z => absurd z.2 (by assumption)) _ | (rw [show 10 - n = 0 by omega]; rfl)
              have hc : r.1 = true ∧ r.2.1 = e := ⟨ok, by omega⟩
              exact ⟨_, _, _, _, _, _, by unfold treT; rw [hsh, hse, ← hY, hr, if_neg (by omega), if_pos hc]; exact ⟨fun j a1 a2 a3 a4 a5 a6 a7 => (upd_ne _ _ a3).trans ((upd_ne _ _ a1).trans ((hO j a4 a5 a6 a7).trans (h0 j a2 a4 a5 a6))), (upd_ne _ _ (by omega)).trans ((upd_ne _ _ (by omega)).trans ((hO 37 (by omega) (by omega) (by omega) (by omega)).trans h037)), (upd_ne _ _ (by omega)).trans (upd_eq _ _ _), upd_eq _ _ _, (hP.ne (by omega) _).ne (by omega) _⟩, by unfold treR; rw [hsh, hse, ← hY, hr, if_neg (by omega), if_pos hc], rfl, rfl⟩
            · refine ev_bipush (v := (-10)) hC dX12_treaty_167 (by decide) ?_
              refine ev_aload_n hC dX12_treaty_169 rfl 0 rfl ?_
              refine ev_get hC fl_X12_48_12 (mw 0 rfl) rfl dX12_treaty_170 ?_
              refine ev_isub hC dX12_treaty_173 ?_
              refine ev_iret hC hR rfl dX12_treaty_174 ?_
              have hr : treG Y e = r := by
                rw [← hb]
                first | exact treL_f (fun z => absurd z.2 (by assumption)) _ | (rw [show 10 - n = 0 by omega]; rfl)
              have hc : ¬ (r.1 = true ∧ r.2.1 = e) := fun z => by have := z.2; omega
              exact ⟨_, _, _, _, _, _, by unfold treT; rw [hsh, hse, ← hY, hr, if_neg (by omega), if_neg hc]; exact ⟨fun j a1 a2 a3 a4 a5 a6 a7 => (hO j a4 a5 a6 a7).trans (h0 j a2 a4 a5 a6), (hO 37 (by omega) (by omega) (by omega) (by omega)).trans h037, h233.trans h33.symm, (hO 38 (by omega) (by omega) (by omega) (by omega)).trans (h0 38 (by omega) (by omega) (by omega) (by omega))⟩, by unfold treR; rw [hsh, hse, ← hY, hr, if_neg (by omega), if_neg hc], rfl, rfl⟩
          · refine ev_aload_n hC dX12_treaty_120 rfl 0 rfl ?_
            refine ev_callV (As := []) (st := []) (wf := []) hC cv_X12_58 (m_X12_here G ro a S2 I F B T R K D hI (nI h) (nI r.2.1) (nI e) (nI 0) (nI 0) mu rd ra ki nu tv Y e r.2.1 hT2 (by omega)) (by omega) rfl rfl (Nat.le_of_ble_eq_true rfl) (List.Perm.of_eq (List.append_nil _).symm) (mw 0 rfl) rfl dX12_treaty_121 (by decide) (by decide) ?_
            rintro _ _ _ ⟨rfl, rfl, rfl⟩
            refine ev_ws (List.append_nil _) ?_
            show Ev G X 0 0 124 [(0, .ref (a 0)), (1, .int (nI n))] [.int (hrF Y e r.2.1)] (MW G a S2 I F B T R K D hI (nI h) (nI r.2.1) (nI e) (nI 0) (nI 0) mu rd ra ki nu tv) ro
            refine ev_bipush (v := (nI 59)) hC dX12_treaty_124 (by decide) ?_
            refine ev_icmp_ne (tgt := 149) hC dX12_treaty_126 (by decide) (fun c_6 => ?_) (fun c_6 => ?_)
            · refine ev_aload_n hC dX12_treaty_149 rfl 0 rfl ?_
              refine ev_get hC fl_X12_54_12 (mw 0 rfl) rfl dX12_treaty_150 ?_
              refine ev_if_neN (tgt := 167) hC dX12_treaty_153 (by decide) (by omega) (fun c_7 => absurd c_7 (by omega)) (fun c_7 => ?_)
              refine ev_aload_n hC dX12_treaty_156 rfl 0 rfl ?_
              refine ev_get hC fl_X12_48_12 (mw 0 rfl) rfl dX12_treaty_157 ?_
              refine ev_aload_n hC dX12_treaty_160 rfl 0 rfl ?_
              refine ev_get hC fl_X12_51_12 (mw 0 rfl) rfl dX12_treaty_161 ?_
              refine ev_icmp_eqN (tgt := 175) hC dX12_treaty_164 (by decide) (by omega) (by omega) (fun c_8 => ?_) (fun c_8 => ?_)
              · refine ev_aload_n hC dX12_treaty_175 rfl 0 rfl ?_
                refine ev_get hC fl_X12_9_12 (mw 0 rfl) rfl dX12_treaty_176 ?_
                refine ev_bipush (v := (nI 33)) hC dX12_treaty_179 (by decide) ?_
                refine ev_dup2 hC dX12_treaty_181 rfl rfl ?_
                refine ev_ialdN (i := 33) hC (mw 1 rfl) (by omega) (by omega) dX12_treaty_182 ?_
                refine ev_top (y := (nI h)) h233 ?_
                refine ev_iconst (v := (nI 1)) hC dX12_treaty_183 (by decide) ?_
                refine ev_iadd hC dX12_treaty_184 ?_
                refine ev_top (y := (nI (h + 1))) ((nI_add _ _).trans (congrArg nI (by omega))) ?_
                refine ev_iastN (i := 33) (ws' := (MW G a (upd S2 33 (nI (h + 1))) I F B T R K D hI (nI h) (nI r.2.1) (nI e) (nI 0) (nI 0) mu rd ra ki nu tv)) (q0 := 1) hC rfl (by omega) (by omega) rfl dX12_treaty_185 ?_
                refine ev_aload_n hC dX12_treaty_186 rfl 0 rfl ?_
                refine ev_get hC fl_X12_9_12 (mw 0 rfl) rfl dX12_treaty_187 ?_
                refine ev_bipush (v := (nI 38)) hC dX12_treaty_190 (by decide) ?_
                refine ev_aload_n hC dX12_treaty_192 rfl 0 rfl ?_
                refine ev_get hC fl_X12_75_12 (mw 0 rfl) rfl dX12_treaty_193 ?_
                refine ev_iastN (i := 38) (ws' := (MW G a (upd (upd S2 33 (nI (h + 1))) 38 (nI h)) I F B T R K D hI (nI h) (nI r.2.1) (nI e) (nI 0) (nI 0) mu rd ra ki nu tv)) (q0 := 1) hC rfl (by omega) (by omega) rfl dX12_treaty_196 ?_
                refine ev_aload_n hC dX12_treaty_197 rfl 0 rfl ?_
                refine ev_get hC fl_X12_75_12 (mw 0 rfl) rfl dX12_treaty_198 ?_
                refine ev_iret hC hR rfl dX12_treaty_201 ?_
                have hr : treG Y e = r := by
                  rw [← hb]
                  first | exact treL_f (fun z => absurd z.2 (by assumption)) _ | (rw [show 10 - n = 0 by omega]; rfl)
                have hc : r.1 = true ∧ r.2.1 = e := ⟨ok, by omega⟩
                exact ⟨_, _, _, _, _, _, by unfold treT; rw [hsh, hse, ← hY, hr, if_neg (by omega), if_pos hc]; exact ⟨fun j a1 a2 a3 a4 a5 a6 a7 => (upd_ne _ _ a3).trans ((upd_ne _ _ a1).trans ((hO j a4 a5 a6 a7).trans (h0 j a2 a4 a5 a6))), (upd_ne _ _ (by omega)).trans ((upd_ne _ _ (by omega)).trans ((hO 37 (by omega) (by omega) (by omega) (by omega)).trans h037)), (upd_ne _ _ (by omega)).trans (upd_eq _ _ _), upd_eq _ _ _, (hP.ne (by omega) _).ne (by omega) _⟩, by unfold treR; rw [hsh, hse, ← hY, hr, if_neg (by omega), if_pos hc], rfl, rfl⟩
              · refine ev_bipush (v := (-10)) hC dX12_treaty_167 (by decide) ?_
                refine ev_aload_n hC dX12_treaty_169 rfl 0 rfl ?_
                refine ev_get hC fl_X12_48_12 (mw 0 rfl) rfl dX12_treaty_170 ?_
                refine ev_isub hC dX12_treaty_173 ?_
                refine ev_iret hC hR rfl dX12_treaty_174 ?_
                have hr : treG Y e = r := by
                  rw [← hb]
                  first | exact treL_f (fun z => absurd z.2 (by assumption)) _ | (rw [show 10 - n = 0 by omega]; rfl)
                have hc : ¬ (r.1 = true ∧ r.2.1 = e) := fun z => by have := z.2; omega
                exact ⟨_, _, _, _, _, _, by unfold treT; rw [hsh, hse, ← hY, hr, if_neg (by omega), if_neg hc]; exact ⟨fun j a1 a2 a3 a4 a5 a6 a7 => (hO j a4 a5 a6 a7).trans (h0 j a2 a4 a5 a6), (hO 37 (by omega) (by omega) (by omega) (by omega)).trans h037, h233.trans h33.symm, (hO 38 (by omega) (by omega) (by omega) (by omega)).trans (h0 38 (by omega) (by omega) (by omega) (by omega))⟩, by unfold treR; rw [hsh, hse, ← hY, hr, if_neg (by omega), if_neg hc], rfl, rfl⟩
            · have hlt := (hr_lt (by decide) (by assumption : hrF Y e r.2.1 = nI 59)).1
              refine ev_aload_n hC dX12_treaty_129 rfl 0 rfl ?_
              refine ev_dup hC dX12_treaty_130 rfl ?_
              refine ev_get hC fl_X12_48_12 (mw 0 rfl) rfl dX12_treaty_131 ?_
              refine ev_iconst (v := (nI 1)) hC dX12_treaty_134 (by decide) ?_
              refine ev_iadd hC dX12_treaty_135 ?_
              refine ev_top (y := (nI (r.2.1 + 1))) ((nI_add _ _).trans (congrArg nI (by omega))) ?_
              refine ev_put (ws' := (MW G a S2 I F B T R K D hI (nI h) (nI (r.2.1 + 1)) (nI e) (nI 0) (nI 0) mu rd ra ki nu tv)) (q0 := 0) hC fp_X12_48_12 rfl (Nat.le_of_ble_eq_true rfl) rfl rfl rfl dX12_treaty_136 ?_
              refine ev_aload_n hC dX12_treaty_139 rfl 0 rfl ?_
              refine ev_callV (As := []) (st := []) (wf := []) hC cv_X12_123 (m_X12_clauseHere G ro a S2 I F B T R K D hI mu rd ra ki nu tv Y e (r.2.1 + 1) r.2.2.1 r.2.2.2.1 r.2.2.2.2 h hT2 (by omega) hP.at (by have := q6 ok; omega) hh hs) (by omega) rfl rfl (Nat.le_of_ble_eq_true rfl) (List.Perm.of_eq (List.append_nil _).symm) (mw 0 rfl) rfl dX12_treaty_140 (by decide) (by decide) ?_
              rintro _ _ _ ⟨S1, w1, hO1, rfl, rfl, rfl⟩
              refine ev_ws (List.append_nil _) ?_
              show Ev G X 0 0 143 [(0, .ref (a 0)), (1, .int (nI n))] [] (MW G a S1 I F B T R K D hI (nI h) (nI ((clF Y e (r.2.1 + 1) r.2.2.1 r.2.2.2.1 r.2.2.2.2).2.1)) (nI e) w1 (nI 0) mu rd ra ki nu tv) ro
              refine ev_iinc (v := (nI (n + 1))) (lv' := [(1, .int (nI (n + 1))), (0, .ref (a 0))]) hC dX12_treaty_143 (q := 1) rfl (nI_k _ _ 1 (by decide)) (by decide) rfl ?_
              refine ev_goto (tgt := 107) hC dX12_treaty_146 (by decide) ?_
              refine ev_lv [1, 0] rfl ?_
              exact ih S1 w1 (clF Y e (r.2.1 + 1) r.2.2.1 r.2.2.2.1 r.2.2.2.2) (n + 1) ⟨hO.tr hO1.1, hO1.2⟩ ((treL_t (n := 10 - n) ok (by assumption) (by omega)).symm.trans hb) (by omega) (hg.nx ok hlt) (by omega)
        · refine ev_aload_n hC dX12_treaty_107 rfl 0 rfl ?_
          refine ev_get hC fl_X12_54_12 (mw 0 rfl) rfl dX12_treaty_108 ?_
          refine ev_if_neN (tgt := 149) hC dX12_treaty_111 (by decide) (by omega) (fun c_9 => ?_) (fun c_9 => absurd c_9 (by omega))
          refine ev_aload_n hC dX12_treaty_149 rfl 0 rfl ?_
          refine ev_get hC fl_X12_54_12 (mw 0 rfl) rfl dX12_treaty_150 ?_
          refine ev_if_neN (tgt := 167) hC dX12_treaty_153 (by decide) (by omega) (fun c_10 => ?_) (fun c_10 => absurd c_10 (by omega))
          refine ev_bipush (v := (-10)) hC dX12_treaty_167 (by decide) ?_
          refine ev_aload_n hC dX12_treaty_169 rfl 0 rfl ?_
          refine ev_get hC fl_X12_48_12 (mw 0 rfl) rfl dX12_treaty_170 ?_
          refine ev_isub hC dX12_treaty_173 ?_
          refine ev_iret hC hR rfl dX12_treaty_174 ?_
          have hr : treG Y e = r := by
            rw [← hb]
            exact treL_f (fun z => by rw [ok] at z; exact absurd z.1 (by decide)) _
          have hc : ¬ (r.1 = true ∧ r.2.1 = e) := fun z => by rw [ok] at z; exact absurd z.1 (by decide)
          exact ⟨_, _, _, _, _, _, by unfold treT; rw [hsh, hse, ← hY, hr, if_neg (by omega), if_neg hc]; exact ⟨fun j a1 a2 a3 a4 a5 a6 a7 => (hO j a4 a5 a6 a7).trans (h0 j a2 a4 a5 a6), (hO 37 (by omega) (by omega) (by omega) (by omega)).trans h037, h233.trans h33.symm, (hO 38 (by omega) (by omega) (by omega) (by omega)).trans (h0 38 (by omega) (by omega) (by omega) (by omega))⟩, by unfold treR; rw [hsh, hse, ← hY, hr, if_neg (by omega), if_neg hc], rfl, rfl⟩
    refine ev_lv [1, 0] rfl ?_
    exact lp_107 (11 - 1 + 1) S1 w1 (clF Y e 0 1 2 []) 1 hO1 rfl (by omega) (clF_p (Nat.zero_le _) (by omega) (by omega) (Nat.le_refl _) (fun _ h => h)) (Nat.lt_succ_self _)
  · refine ev_bipush (v := (-4)) hC dX12_treaty_11 (by decide) ?_
    refine ev_iret hC hR rfl dX12_treaty_13 ?_
    exact ⟨S, _, _, _, _, _, by unfold treT; rw [hsh, if_pos (by assumption)], by unfold treR; rw [hsh, if_pos (by assumption)], rfl, rfl⟩
