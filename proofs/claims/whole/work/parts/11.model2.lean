/-! WHAT THE REFERENCE ANSWERS, call by call (R), and what s is then (T) -/
theorem isP {S : Nat → Int32} {D E : Nat} (h : WF S D E) {x : Int32} (c : nI 0 ≤ x ∧ x ≤ S 32 - nI 1) : ∃ p, p < sn S 32 ∧ x = nI p := by
  have h1 := h.peo.le
  rw [h.peo.eq] at c
  rcases Nat.eq_zero_or_pos (sn S 32) with z | z
  · rw [z] at c
    have e : (nI 0 - nI 1).toInt = -1 := by decide
    have c1 := Int32.le_iff_toInt_le.mp c.1
    have c2 := Int32.le_iff_toInt_le.mp c.2
    rw [e] at c2
    rw [nI_toInt (by omega)] at c1
    omega
  · rw [pk_sub (by omega)] at c
    obtain ⟨j, hj, e⟩ := nI_of2 (n := sn S 32 - 1) (nI_toInt (by omega)) (Int32.not_lt.mpr (by rw [← nI_0]; exact c.1)) c.2
    exact ⟨j, by omega, e⟩
theorem inN {x : Int32} {m : Nat} (hm : m < 2 ^ 31) (c : nI 0 ≤ x ∧ x ≤ nI m) : ∃ k, k ≤ m ∧ x = nI k := nI_of2 (nI_toInt hm) (Int32.not_lt.mpr (by rw [← nI_0]; exact c.1)) c.2
theorem nI_isN {m k : Nat} (hm : m < 2 ^ 31) (hk : k ≤ m) : nI 0 ≤ nI k ∧ nI k ≤ nI m := ⟨nI_le (Nat.zero_le k) (by omega), nI_le hk hm⟩
theorem isP_of {S : Nat → Int32} {D E p : Nat} (h : WF S D E) (hp : p < sn S 32) : nI 0 ≤ nI p ∧ nI p ≤ S 32 - nI 1 := by
  have h1 := h.peo.le
  rw [h.peo.eq, pk_sub (by omega)]
  exact nI_isN (by omega) (by omega)
theorem hold_nb {S : Nat → Int32} (h : HoldOK S) (c : ¬ S 38 = -1) : NB S 38 4 := by
  rcases h with z | z
  · exact absurd z c
  · exact z.1
theorem inSub {x : Int32} {m c : Nat} (hm : m + c < 2 ^ 31) (h : nI 0 ≤ x - nI c ∧ x - nI c ≤ nI m) : ∃ k, k ≤ m ∧ x = nI (k + c) := by
  obtain ⟨k, hk, e⟩ := inN (m := m) (by omega) h
  exact ⟨k, hk, by rw [← nI_add, ← e, Int32.sub_add_cancel]⟩
abbrev pn (x : Int32) : Nat := x.toNatClampNeg
def feedR (S : Nat → Int32) (x : Int32) : Int32 := if nI 0 ≤ x ∧ x ≤ nI 127 then if sn S 37 = 100 then -4 else nI (sn S 37 + 1) else -2
def feedT (S : Nat → Int32) (x : Int32) : Nat → Int32 := if nI 0 ≤ x ∧ x ≤ nI 127 then if sn S 37 = 100 then S else upd (upd S (122 + sn S 37) x) 37 (nI (sn S 37 + 1)) else S
def saltR (S : Nat → Int32) (k x : Int32) : Int32 := if nI 0 ≤ k ∧ k ≤ nI 5 then if nI 0 ≤ x ∧ x ≤ nI 999 then S (2 + pn k) else -2 else -1
def saltT (S : Nat → Int32) (k x : Int32) : Nat → Int32 := if nI 0 ≤ k ∧ k ≤ nI 5 then if nI 0 ≤ x ∧ x ≤ nI 999 then upd S (2 + pn k) x else S else S
def roofR (S : Nat → Int32) (k : Int32) : Int32 := if nI 0 ≤ k ∧ k ≤ nI 5 then S (8 + pn k) else -1
def roofT (S : Nat → Int32) (k : Int32) (b : Int32) : Nat → Int32 := if nI 0 ≤ k ∧ k ≤ nI 5 then upd S (8 + pn k) (if b = 0 then nI 0 else nI 1) else S
def rowR (S : Nat → Int32) (p k n : Int32) : Int32 := if (nI 0 ≤ p ∧ p ≤ S 32 - nI 1) ∧ nI 0 ≤ k ∧ k ≤ nI 3 then if nI 0 ≤ n ∧ n ≤ nI 9 then if sn S (39 + pn p) = 6 then S (51 + 4 * pn p + pn k) else -3 else -2 else -1
def rowT (S : Nat → Int32) (p k n : Int32) : Nat → Int32 := if (nI 0 ≤ p ∧ p ≤ S 32 - nI 1) ∧ nI 0 ≤ k ∧ k ≤ nI 3 then if nI 0 ≤ n ∧ n ≤ nI 9 then if sn S (39 + pn p) = 6 then upd S (51 + 4 * pn p + pn k) n else S else S else S
def setR (S : Nat → Int32) (p w n : Int32) : Int32 := if (nI 0 ≤ p ∧ p ≤ S 32 - nI 1) ∧ nI 0 ≤ w ∧ w ≤ nI 1 then if nI 0 ≤ n ∧ n ≤ (if w = nI 0 then nI 5 else nI 99) then S (14 + 6 * pn w + pn p) else -2 else -1
def setT (S : Nat → Int32) (p w n : Int32) : Nat → Int32 := if (nI 0 ≤ p ∧ p ≤ S 32 - nI 1) ∧ nI 0 ≤ w ∧ w ≤ nI 1 then if nI 0 ≤ n ∧ n ≤ (if w = nI 0 then nI 5 else nI 99) then upd S (14 + 6 * pn w + pn p) n else S else S
def personR (S : Nat → Int32) (k v s : Int32) : Int32 := if (nI 0 ≤ k ∧ k ≤ nI 6) ∧ nI 0 ≤ s ∧ s ≤ nI 5 then if nI 0 ≤ v ∧ v ≤ nI 9 then if sn S 32 = 6 then -4 else nI (sn S 32) else -2 else -1
def comesF (S : Nat → Int32) (p : Nat) (k v s : Int32) : Nat → Int32 := upd (upd (upd (upd (upd (upd (upd (upd (upd (upd S (39 + p) k) (45 + p) v) (14 + p) s) (20 + p) (nI 0)) (26 + p) (nI 0)) (51 + 4 * p) (nI 0)) (51 + 4 * p + 1) (nI 0)) (51 + 4 * p + 2) (nI 0)) (51 + 4 * p + 3) (nI 0)) 32 (nI (p + 1))
def personT (S : Nat → Int32) (k v s : Int32) : Nat → Int32 := if (nI 0 ≤ k ∧ k ≤ nI 6) ∧ nI 0 ≤ s ∧ s ≤ nI 5 then if nI 0 ≤ v ∧ v ≤ nI 9 then if sn S 32 = 6 then S else comesF S (sn S 32) k v s else S else S
/-- the sum of six places from w on -/
def sum6 (S : Nat → Int32) (w : Nat) : Int32 := nI 0 + S w + S (w + 1) + S (w + 2) + S (w + 3) + S (w + 4) + S (w + 5)
/-- the GRUDGE of the first n -/
def gruF (S : Nat → Int32) : Nat → Int32
  | 0 => nI 0
  | n + 1 => gruF S n + S (20 + n)
def bitF (S : Nat → Int32) : Int32 := nI 0 ||| S 8 <<< (nI 0 &&& 31) ||| S 9 <<< (nI 1 &&& 31) ||| S 10 <<< (nI 2 &&& 31) ||| S 11 <<< (nI 3 &&& 31) ||| S 12 <<< (nI 4 &&& 31) ||| S 13 <<< (nI 5 &&& 31)
/-- the first of the least of the first k of six -/
def thinF (S : Nat → Int32) : Nat → Nat
  | 0 => 0
  | n + 1 => if S (2 + (n + 1)) < S (2 + thinF S n) then n + 1 else thinF S n
theorem thinF_le (S : Nat → Int32) (n : Nat) : thinF S n ≤ n := by
  induction n with
  | zero => exact Nat.le_refl 0
  | succ n ih => unfold thinF; split <;> omega
def toldR (S : Nat → Int32) (w : Int32) : Int32 := if w = nI 0 then S 0 else if w = nI 1 then rainF S else if w = nI 2 then needF S else if w = nI 3 then S 1 else if w = nI 4 then sum6 S 2 else if w = nI 5 then gruF S (sn S 32) else if w = nI 6 then bitF S else if nI 0 ≤ w - nI 10 ∧ w - nI 10 ≤ nI 5 then S (2 + pn (w - nI 10)) else -1

set_option maxHeartbeats 4000000 in
set_option maxRecDepth 100000 in
theorem m_X12_feed (G : GG) (ro : va_W) (a : Nat → Nat) (S I F B T R K D : Nat → Int32) (hI ac sp en iw op mu rd ra ki nu tv : Int32) (x : Int32) {DD EE : Nat} (hW : WF S DD EE) : Mth G M_X12_feed 1 0 0 [.ref (a 0), .int x] (MW G a S I F B T R K D hI ac sp en iw op mu rd ra ki nu tv) ro (fun r ws' ro' => r = some (.int (feedR S x)) ∧ ws' = (MW G a (feedT S x) I F B T R K D hI ac sp en iw op mu rd ra ki nu tv) ∧ ro = ro') := by
  refine mth_of (by decide +kernel) (Nat.le_of_ble_eq_true rfl) (fun X hC hR => ?_)
  have b32 := hW.peo.le
  have b33 := hW.tre.le
  have b34 := hW.seen.le
  have b35 := hW.plan.le
  have b36 := hW.book.le
  have b37 := hW.tape.le
  show Ev G X 0 0 0 [(0, .ref (a 0)), (1, .int x)] [] (MW G a S I F B T R K D hI ac sp en iw op mu rd ra ki nu tv) ro
  refine ev_iload_n hC dX12_feed_0 rfl 1 rfl ?_
  refine ev_iconst (v := (nI 0)) hC dX12_feed_1 (by decide) ?_
  refine ev_bipush (v := (nI 127)) hC dX12_feed_2 (by decide) ?_
  refine ev_callS (As := [.int x, .int (nI 0), .int (nI 127)]) (st := []) (wc := []) (wf := (MW G a S I F B T R K D hI ac sp en iw op mu rd ra ki nu tv)) hC ct_X12_44 (m_X12_in G ro x (nI 0) (nI 127)) (by decide) rfl rfl (Nat.le_of_ble_eq_true rfl) (List.Perm.refl _) dX12_feed_4 (by decide) (by decide) ?_
  rintro _ _ _ ⟨rfl, rfl, rfl⟩
  refine ev_ws (List.nil_append _) ?_
  show Ev G X 0 0 7 [(0, .ref (a 0)), (1, .int x)] [.int (bI ((nI 0) ≤ x ∧ x ≤ (nI 127)))] (MW G a S I F B T R K D hI ac sp en iw op mu rd ra ki nu tv) ro
  refine ev_if_neB (tgt := 13) hC dX12_feed_7 (by decide) (fun c_1 => ?_) (fun c_1 => ?_)
  · refine ev_aload_n hC dX12_feed_13 rfl 0 rfl ?_
    refine ev_get hC fl_X12_9_12 (mw 0 rfl) rfl dX12_feed_14 ?_
    refine ev_bipush (v := (nI 37)) hC dX12_feed_17 (by decide) ?_
    refine ev_ialdN (i := 37) hC (mw 1 rfl) (by omega) (by omega) dX12_feed_19 ?_
    have bk_2 : NB S 37 _ := hW.tape
    have k_2 := bk_2.eq
    have lk_2 := bk_2.le
    have mk_2 := bk_2.lt
    refine ev_top (y := (nI (sn S 37))) k_2 ?_
    refine ev_bipush (v := (nI 100)) hC dX12_feed_20 (by decide) ?_
    refine ev_icmp_neN (tgt := 28) hC dX12_feed_22 (by decide) (by omega) (by omega) (fun c_3 => ?_) (fun c_3 => ?_)
    · refine ev_aload_n hC dX12_feed_28 rfl 0 rfl ?_
      refine ev_get hC fl_X12_9_12 (mw 0 rfl) rfl dX12_feed_29 ?_
      refine ev_bipush (v := (nI 122)) hC dX12_feed_32 (by decide) ?_
      refine ev_aload_n hC dX12_feed_34 rfl 0 rfl ?_
      refine ev_get hC fl_X12_9_12 (mw 0 rfl) rfl dX12_feed_35 ?_
      refine ev_bipush (v := (nI 37)) hC dX12_feed_38 (by decide) ?_
      refine ev_ialdN (i := 37) hC (mw 1 rfl) (by omega) (by omega) dX12_feed_40 ?_
      have bk_4 : NB S 37 _ := hW.tape
      have k_4 := bk_4.eq
      have lk_4 := bk_4.le
      have mk_4 := bk_4.lt
      refine ev_top (y := (nI (sn S 37))) k_4 ?_
      refine ev_iadd hC dX12_feed_41 ?_
      refine ev_top (y := (nI (122 + (sn S 37)))) ((nI_add _ _).trans (congrArg nI (by omega))) ?_
      refine ev_iload_n hC dX12_feed_42 rfl 1 rfl ?_
      refine ev_iastN (i := 122 + (sn S 37)) (ws' := (MW G a (upd S (122 + (sn S 37)) x) I F B T R K D hI ac sp en iw op mu rd ra ki nu tv)) (q0 := 1) hC rfl (by omega) (by omega) rfl dX12_feed_43 ?_
      refine ev_aload_n hC dX12_feed_44 rfl 0 rfl ?_
      refine ev_get hC fl_X12_9_12 (mw 0 rfl) rfl dX12_feed_45 ?_
      refine ev_bipush (v := (nI 37)) hC dX12_feed_48 (by decide) ?_
      refine ev_dup2 hC dX12_feed_50 rfl rfl ?_
      refine ev_ialdN (i := 37) hC (mw 1 rfl) (by omega) (by omega) dX12_feed_51 ?_
      refine ev_top (y := (S 37)) (if_neg (by omega)) ?_
      have bk_5 : NB S 37 _ := hW.tape
      have k_5 := bk_5.eq
      have lk_5 := bk_5.le
      have mk_5 := bk_5.lt
      refine ev_top (y := (nI (sn S 37))) k_5 ?_
      refine ev_iconst (v := (nI 1)) hC dX12_feed_52 (by decide) ?_
      refine ev_iadd hC dX12_feed_53 ?_
      refine ev_top (y := (nI (sn S 37 + 1))) ((nI_add _ _).trans (congrArg nI (by omega))) ?_
      refine ev_iastN (i := 37) (ws' := (MW G a (upd (upd S (122 + (sn S 37)) x) 37 (nI (sn S 37 + 1))) I F B T R K D hI ac sp en iw op mu rd ra ki nu tv)) (q0 := 1) hC rfl (by omega) (by omega) rfl dX12_feed_54 ?_
      refine ev_aload_n hC dX12_feed_55 rfl 0 rfl ?_
      refine ev_get hC fl_X12_9_12 (mw 0 rfl) rfl dX12_feed_56 ?_
      refine ev_bipush (v := (nI 37)) hC dX12_feed_59 (by decide) ?_
      refine ev_ialdN (i := 37) hC (mw 1 rfl) (by omega) (by omega) dX12_feed_61 ?_
      refine ev_top (y := (nI (sn S 37 + 1))) (if_pos rfl) ?_
      refine ev_iret hC hR rfl dX12_feed_62 ?_
      have e_6 : (feedT S x) = (upd (upd S (122 + (sn S 37)) x) 37 (nI (sn S 37 + 1))) := by simp [feedR, feedT, *]
      have e_7 : (feedR S x) = (nI (sn S 37 + 1)) := by simp [feedR, feedT, *]
      exact ⟨(by rw [e_7]), (by rw [e_6]), rfl⟩
    · refine ev_bipush (v := (-4)) hC dX12_feed_25 (by decide) ?_
      refine ev_iret hC hR rfl dX12_feed_27 ?_
      have e_8 : (feedT S x) = S := by simp [feedR, feedT, *]
      have e_9 : (feedR S x) = (-4) := by simp [feedR, feedT, *]
      exact ⟨(by rw [e_9]), (by rw [e_8]), rfl⟩
  · refine ev_bipush (v := (-2)) hC dX12_feed_10 (by decide) ?_
    refine ev_iret hC hR rfl dX12_feed_12 ?_
    have e_10 : (feedT S x) = S := by simp [feedR, feedT, *]
    have e_11 : (feedR S x) = (-2) := by simp [feedR, feedT, *]
    exact ⟨(by rw [e_11]), (by rw [e_10]), rfl⟩

set_option maxHeartbeats 4000000 in
set_option maxRecDepth 100000 in
theorem m_X12_salt (G : GG) (ro : va_W) (a : Nat → Nat) (S I F B T R K D : Nat → Int32) (hI ac sp en iw op mu rd ra ki nu tv : Int32) (k x : Int32) {DD EE : Nat} (hW : WF S DD EE) : Mth G M_X12_salt 2 0 0 [.ref (a 0), .int k, .int x] (MW G a S I F B T R K D hI ac sp en iw op mu rd ra ki nu tv) ro (fun r ws' ro' => r = some (.int (saltR S k x)) ∧ ws' = (MW G a (saltT S k x) I F B T R K D hI ac sp en iw op mu rd ra ki nu tv) ∧ ro = ro') := by
  refine mth_of (by decide +kernel) (Nat.le_of_ble_eq_true rfl) (fun X hC hR => ?_)
  have b32 := hW.peo.le
  have b33 := hW.tre.le
  have b34 := hW.seen.le
  have b35 := hW.plan.le
  have b36 := hW.book.le
  have b37 := hW.tape.le
  show Ev G X 0 0 0 [(0, .ref (a 0)), (1, .int k), (2, .int x)] [] (MW G a S I F B T R K D hI ac sp en iw op mu rd ra ki nu tv) ro
  refine ev_iload_n hC dX12_salt_0 rfl 1 rfl ?_
  refine ev_callS (As := [.int k]) (st := []) (wc := []) (wf := (MW G a S I F B T R K D hI ac sp en iw op mu rd ra ki nu tv)) hC ct_X12_143 (m_X12_isSide G ro k) (by decide) rfl rfl (Nat.le_of_ble_eq_true rfl) (List.Perm.refl _) dX12_salt_1 (by decide) (by decide) ?_
  rintro _ _ _ ⟨rfl, rfl, rfl⟩
  refine ev_ws (List.nil_append _) ?_
  show Ev G X 0 0 4 [(0, .ref (a 0)), (1, .int k), (2, .int x)] [.int (bI ((nI 0) ≤ k ∧ k ≤ (nI 5)))] (MW G a S I F B T R K D hI ac sp en iw op mu rd ra ki nu tv) ro
  refine ev_if_neB (tgt := 9) hC dX12_salt_4 (by decide) (fun c_1 => ?_) (fun c_1 => ?_)
  · refine ev_iload_n hC dX12_salt_9 rfl 2 rfl ?_
    refine ev_iconst (v := (nI 0)) hC dX12_salt_10 (by decide) ?_
    refine ev_sipush (v := (nI 999)) hC dX12_salt_11 (by decide) ?_
    obtain ⟨kk, hkk, rfl⟩ := inN (m := 5) (by omega) (by assumption)
    have hpn_kk : pn (nI kk) = kk := nI_clamp (by omega)
    refine ev_callS (As := [.int x, .int (nI 0), .int (nI 999)]) (st := []) (wc := []) (wf := (MW G a S I F B T R K D hI ac sp en iw op mu rd ra ki nu tv)) hC ct_X12_44 (m_X12_in G ro x (nI 0) (nI 999)) (by decide) rfl rfl (Nat.le_of_ble_eq_true rfl) (List.Perm.refl _) dX12_salt_14 (by decide) (by decide) ?_
    rintro _ _ _ ⟨rfl, rfl, rfl⟩
    refine ev_ws (List.nil_append _) ?_
    show Ev G X 0 0 17 [(0, .ref (a 0)), (1, .int (nI kk)), (2, .int x)] [.int (bI ((nI 0) ≤ x ∧ x ≤ (nI 999)))] (MW G a S I F B T R K D hI ac sp en iw op mu rd ra ki nu tv) ro
    refine ev_if_neB (tgt := 23) hC dX12_salt_17 (by decide) (fun c_2 => ?_) (fun c_2 => ?_)
    · refine ev_aload_n hC dX12_salt_23 rfl 0 rfl ?_
      refine ev_get hC fl_X12_9_12 (mw 0 rfl) rfl dX12_salt_24 ?_
      refine ev_iconst (v := (nI 2)) hC dX12_salt_27 (by decide) ?_
      refine ev_iload_n hC dX12_salt_28 rfl 1 rfl ?_
      refine ev_iadd hC dX12_salt_29 ?_
      refine ev_top (y := (nI (2 + kk))) ((nI_add _ _).trans (congrArg nI (by omega))) ?_
      refine ev_ialdN (i := 2 + kk) hC (mw 1 rfl) (by omega) (by omega) dX12_salt_30 ?_
      have bk_3 : NB S (2 + kk) _ := (hW.salt kk (by omega))
      have k_3 := bk_3.eq
      have lk_3 := bk_3.le
      have mk_3 := bk_3.lt
      refine ev_top (y := (nI (sn S (2 + kk)))) k_3 ?_
      refine ev_istore_n (lv' := [(3, .int (nI (sn S (2 + kk)))), (0, .ref (a 0)), (1, .int (nI kk)), (2, .int x)]) hC dX12_salt_31 rfl (by decide) rfl ?_
      refine ev_aload_n hC dX12_salt_32 rfl 1 rfl ?_
      refine ev_get hC fl_X12_9_12 (mw 0 rfl) rfl dX12_salt_33 ?_
      refine ev_iconst (v := (nI 2)) hC dX12_salt_36 (by decide) ?_
      refine ev_iload_n hC dX12_salt_37 rfl 2 rfl ?_
      refine ev_iadd hC dX12_salt_38 ?_
      refine ev_top (y := (nI (2 + kk))) ((nI_add _ _).trans (congrArg nI (by omega))) ?_
      refine ev_iload_n hC dX12_salt_39 rfl 3 rfl ?_
      refine ev_iastN (i := 2 + kk) (ws' := (MW G a (upd S (2 + kk) x) I F B T R K D hI ac sp en iw op mu rd ra ki nu tv)) (q0 := 1) hC rfl (by omega) (by omega) rfl dX12_salt_40 ?_
      refine ev_iload_n hC dX12_salt_41 rfl 0 rfl ?_
      refine ev_iret hC hR rfl dX12_salt_42 ?_
      have e_4 : (saltT S (nI kk) x) = (upd S (2 + kk) x) := by simp [saltR, saltT, *]
      have e_5 : (saltR S (nI kk) x) = (nI (sn S (2 + kk))) := by simp [saltR, saltT, *]
      exact ⟨(by rw [e_5]), (by rw [e_4]), rfl⟩
    · refine ev_bipush (v := (-2)) hC dX12_salt_20 (by decide) ?_
      refine ev_iret hC hR rfl dX12_salt_22 ?_
      have e_6 : (saltT S (nI kk) x) = S := by simp [saltR, saltT, *]
      have e_7 : (saltR S (nI kk) x) = (-2) := by simp [saltR, saltT, *]
      exact ⟨(by rw [e_7]), (by rw [e_6]), rfl⟩
  · refine ev_iconst (v := (-1)) hC dX12_salt_7 (by decide) ?_
    refine ev_iret hC hR rfl dX12_salt_8 ?_
    have e_8 : (saltT S k x) = S := by simp [saltR, saltT, *]
    have e_9 : (saltR S k x) = (-1) := by simp [saltR, saltT, *]
    exact ⟨(by rw [e_9]), (by rw [e_8]), rfl⟩

set_option maxHeartbeats 4000000 in
set_option maxRecDepth 100000 in
theorem m_X12_roof (G : GG) (ro : va_W) (a : Nat → Nat) (S I F B T R K D : Nat → Int32) (hI ac sp en iw op mu rd ra ki nu tv : Int32) (k b : Int32) (hb : b = 0 ∨ b = 1) {DD EE : Nat} (hW : WF S DD EE) : Mth G M_X12_roof 2 0 0 [.ref (a 0), .int k, .int b] (MW G a S I F B T R K D hI ac sp en iw op mu rd ra ki nu tv) ro (fun r ws' ro' => r = some (.int (roofR S k)) ∧ ws' = (MW G a (roofT S k b) I F B T R K D hI ac sp en iw op mu rd ra ki nu tv) ∧ ro = ro') := by
  refine mth_of (by decide +kernel) (Nat.le_of_ble_eq_true rfl) (fun X hC hR => ?_)
  have b32 := hW.peo.le
  have b33 := hW.tre.le
  have b34 := hW.seen.le
  have b35 := hW.plan.le
  have b36 := hW.book.le
  have b37 := hW.tape.le
  show Ev G X 0 0 0 [(0, .ref (a 0)), (1, .int k), (2, .int b)] [] (MW G a S I F B T R K D hI ac sp en iw op mu rd ra ki nu tv) ro
  refine ev_iload_n hC dX12_roof_0 rfl 1 rfl ?_
  refine ev_callS (As := [.int k]) (st := []) (wc := []) (wf := (MW G a S I F B T R K D hI ac sp en iw op mu rd ra ki nu tv)) hC ct_X12_143 (m_X12_isSide G ro k) (by decide) rfl rfl (Nat.le_of_ble_eq_true rfl) (List.Perm.refl _) dX12_roof_1 (by decide) (by decide) ?_
  rintro _ _ _ ⟨rfl, rfl, rfl⟩
  refine ev_ws (List.nil_append _) ?_
  show Ev G X 0 0 4 [(0, .ref (a 0)), (1, .int k), (2, .int b)] [.int (bI ((nI 0) ≤ k ∧ k ≤ (nI 5)))] (MW G a S I F B T R K D hI ac sp en iw op mu rd ra ki nu tv) ro
  refine ev_if_neB (tgt := 9) hC dX12_roof_4 (by decide) (fun c_1 => ?_) (fun c_1 => ?_)
  · obtain ⟨kk, hkk, rfl⟩ := inN (m := 5) (by omega) (by assumption)
    have hpn_kk : pn (nI kk) = kk := nI_clamp (by omega)
    refine ev_aload_n hC dX12_roof_9 rfl 0 rfl ?_
    refine ev_get hC fl_X12_9_12 (mw 0 rfl) rfl dX12_roof_10 ?_
    refine ev_bipush (v := (nI 8)) hC dX12_roof_13 (by decide) ?_
    refine ev_iload_n hC dX12_roof_15 rfl 1 rfl ?_
    refine ev_iadd hC dX12_roof_16 ?_
    refine ev_top (y := (nI (8 + kk))) ((nI_add _ _).trans (congrArg nI (by omega))) ?_
    refine ev_ialdN (i := 8 + kk) hC (mw 1 rfl) (by omega) (by omega) dX12_roof_17 ?_
    have bk_2 : NB S (8 + kk) _ := (hW.roof kk (by omega))
    have k_2 := bk_2.eq
    have lk_2 := bk_2.le
    have mk_2 := bk_2.lt
    refine ev_top (y := (nI (sn S (8 + kk)))) k_2 ?_
    refine ev_istore_n (lv' := [(3, .int (nI (sn S (8 + kk)))), (0, .ref (a 0)), (1, .int (nI kk)), (2, .int b)]) hC dX12_roof_18 rfl (by decide) rfl ?_
    refine ev_aload_n hC dX12_roof_19 rfl 1 rfl ?_
    refine ev_get hC fl_X12_9_12 (mw 0 rfl) rfl dX12_roof_20 ?_
    refine ev_bipush (v := (nI 8)) hC dX12_roof_23 (by decide) ?_
    refine ev_iload_n hC dX12_roof_25 rfl 2 rfl ?_
    refine ev_iadd hC dX12_roof_26 ?_
    refine ev_top (y := (nI (8 + kk))) ((nI_add _ _).trans (congrArg nI (by omega))) ?_
    refine ev_iload_n hC dX12_roof_27 rfl 3 rfl ?_
    refine ev_if_eq (tgt := 35) hC dX12_roof_28 (by decide) (fun c_3 => ?_) (fun c_3 => ?_)
    · refine ev_iconst (v := (nI 0)) hC dX12_roof_35 (by decide) ?_
      refine ev_iastN (i := 8 + kk) (ws' := (MW G a (upd S (8 + kk) (nI 0)) I F B T R K D hI ac sp en iw op mu rd ra ki nu tv)) (q0 := 1) hC rfl (by omega) (by omega) rfl dX12_roof_36 ?_
      refine ev_iload_n hC dX12_roof_37 rfl 0 rfl ?_
      refine ev_iret hC hR rfl dX12_roof_38 ?_
      have e_4 : (roofT S (nI kk) b) = (upd S (8 + kk) (nI 0)) := by simp [roofR, roofT, *]
      have e_5 : (roofR S (nI kk)) = (nI (sn S (8 + kk))) := by simp [roofR, roofT, *]
      exact ⟨(by rw [e_5]), (by rw [e_4]), rfl⟩
    · refine ev_iconst (v := (nI 1)) hC dX12_roof_31 (by decide) ?_
      refine ev_goto (tgt := 36) hC dX12_roof_32 (by decide) ?_
      refine ev_iastN (i := 8 + kk) (ws' := (MW G a (upd S (8 + kk) (nI 1)) I F B T R K D hI ac sp en iw op mu rd ra ki nu tv)) (q0 := 1) hC rfl (by omega) (by omega) rfl dX12_roof_36 ?_
      refine ev_iload_n hC dX12_roof_37 rfl 0 rfl ?_
      refine ev_iret hC hR rfl dX12_roof_38 ?_
      have e_6 : (roofT S (nI kk) b) = (upd S (8 + kk) (nI 1)) := by simp [roofR, roofT, *]
      have e_7 : (roofR S (nI kk)) = (nI (sn S (8 + kk))) := by simp [roofR, roofT, *]
      exact ⟨(by rw [e_7]), (by rw [e_6]), rfl⟩
  · refine ev_iconst (v := (-1)) hC dX12_roof_7 (by decide) ?_
    refine ev_iret hC hR rfl dX12_roof_8 ?_
    have e_8 : (roofT S k b) = S := by simp [roofR, roofT, *]
    have e_9 : (roofR S k) = (-1) := by simp [roofR, roofT, *]
    exact ⟨(by rw [e_9]), (by rw [e_8]), rfl⟩

set_option maxHeartbeats 4000000 in
set_option maxRecDepth 100000 in
theorem m_X12_row (G : GG) (ro : va_W) (a : Nat → Nat) (S I F B T R K D : Nat → Int32) (hI ac sp en iw op mu rd ra ki nu tv : Int32) (p k n : Int32) {DD EE : Nat} (hW : WF S DD EE) : Mth G M_X12_row 2 0 0 [.ref (a 0), .int p, .int k, .int n] (MW G a S I F B T R K D hI ac sp en iw op mu rd ra ki nu tv) ro (fun r ws' ro' => r = some (.int (rowR S p k n)) ∧ ws' = (MW G a (rowT S p k n) I F B T R K D hI ac sp en iw op mu rd ra ki nu tv) ∧ ro = ro') := by
  refine mth_of (by decide +kernel) (Nat.le_of_ble_eq_true rfl) (fun X hC hR => ?_)
  have b32 := hW.peo.le
  have b33 := hW.tre.le
  have b34 := hW.seen.le
  have b35 := hW.plan.le
  have b36 := hW.book.le
  have b37 := hW.tape.le
  show Ev G X 0 0 0 [(0, .ref (a 0)), (1, .int p), (2, .int k), (3, .int n)] [] (MW G a S I F B T R K D hI ac sp en iw op mu rd ra ki nu tv) ro
  refine ev_aload_n hC dX12_row_0 rfl 0 rfl ?_
  refine ev_iload_n hC dX12_row_1 rfl 1 rfl ?_
  refine ev_callV (As := [.int p]) (st := []) (wf := []) hC cv_X12_147 (m_X12_isPerson G ro a S I F B T R K D hI ac sp en iw op mu rd ra ki nu tv p) (by decide) rfl rfl (Nat.le_of_ble_eq_true rfl) (List.Perm.of_eq (List.append_nil _).symm) (mw 0 rfl) rfl dX12_row_2 (by decide) (by decide) ?_
  rintro _ _ _ ⟨rfl, rfl, rfl⟩
  refine ev_ws (List.append_nil _) ?_
  show Ev G X 0 0 5 [(0, .ref (a 0)), (1, .int p), (2, .int k), (3, .int n)] [.int (bI ((nI 0) ≤ p ∧ p ≤ ((S 32) - nI 1)))] (MW G a S I F B T R K D hI ac sp en iw op mu rd ra ki nu tv) ro
  refine ev_if_eqB (tgt := 17) hC dX12_row_5 (by decide) (fun c_1 => ?_) (fun c_1 => ?_)
  · refine ev_iconst (v := (-1)) hC dX12_row_17 (by decide) ?_
    refine ev_iret hC hR rfl dX12_row_18 ?_
    have e_2 : (rowT S p k n) = S := by simp [rowR, rowT, *]
    have e_3 : (rowR S p k n) = (-1) := by simp [rowR, rowT, *]
    exact ⟨(by rw [e_3]), (by rw [e_2]), rfl⟩
  · refine ev_iload_n hC dX12_row_8 rfl 2 rfl ?_
    refine ev_iconst (v := (nI 0)) hC dX12_row_9 (by decide) ?_
    refine ev_iconst (v := (nI 3)) hC dX12_row_10 (by decide) ?_
    refine ev_callS (As := [.int k, .int (nI 0), .int (nI 3)]) (st := []) (wc := []) (wf := (MW G a S I F B T R K D hI ac sp en iw op mu rd ra ki nu tv)) hC ct_X12_44 (m_X12_in G ro k (nI 0) (nI 3)) (by decide) rfl rfl (Nat.le_of_ble_eq_true rfl) (List.Perm.refl _) dX12_row_11 (by decide) (by decide) ?_
    rintro _ _ _ ⟨rfl, rfl, rfl⟩
    refine ev_ws (List.nil_append _) ?_
    show Ev G X 0 0 14 [(0, .ref (a 0)), (1, .int p), (2, .int k), (3, .int n)] [.int (bI ((nI 0) ≤ k ∧ k ≤ (nI 3)))] (MW G a S I F B T R K D hI ac sp en iw op mu rd ra ki nu tv) ro
    refine ev_if_neB (tgt := 19) hC dX12_row_14 (by decide) (fun c_4 => ?_) (fun c_4 => ?_)
    · obtain ⟨pp, hpp, rfl⟩ := isP hW (by assumption)
      have hpn_pp : pn (nI pp) = pp := nI_clamp (by omega)
      obtain ⟨kk, hkk, rfl⟩ := inN (m := 3) (by omega) (by assumption)
      have hpn_kk : pn (nI kk) = kk := nI_clamp (by omega)
      refine ev_iload_n hC dX12_row_19 rfl 3 rfl ?_
      refine ev_iconst (v := (nI 0)) hC dX12_row_20 (by decide) ?_
      refine ev_bipush (v := (nI 9)) hC dX12_row_21 (by decide) ?_
      refine ev_callS (As := [.int n, .int (nI 0), .int (nI 9)]) (st := []) (wc := []) (wf := (MW G a S I F B T R K D hI ac sp en iw op mu rd ra ki nu tv)) hC ct_X12_44 (m_X12_in G ro n (nI 0) (nI 9)) (by decide) rfl rfl (Nat.le_of_ble_eq_true rfl) (List.Perm.refl _) dX12_row_23 (by decide) (by decide) ?_
      rintro _ _ _ ⟨rfl, rfl, rfl⟩
      refine ev_ws (List.nil_append _) ?_
      show Ev G X 0 0 26 [(0, .ref (a 0)), (1, .int (nI pp)), (2, .int (nI kk)), (3, .int n)] [.int (bI ((nI 0) ≤ n ∧ n ≤ (nI 9)))] (MW G a S I F B T R K D hI ac sp en iw op mu rd ra ki nu tv) ro
      refine ev_if_neB (tgt := 32) hC dX12_row_26 (by decide) (fun c_5 => ?_) (fun c_5 => ?_)
      · refine ev_aload_n hC dX12_row_32 rfl 0 rfl ?_
        refine ev_get hC fl_X12_9_12 (mw 0 rfl) rfl dX12_row_33 ?_
        refine ev_bipush (v := (nI 39)) hC dX12_row_36 (by decide) ?_
        refine ev_iload_n hC dX12_row_38 rfl 1 rfl ?_
        refine ev_iadd hC dX12_row_39 ?_
        refine ev_top (y := (nI (39 + pp))) ((nI_add _ _).trans (congrArg nI (by omega))) ?_
        refine ev_ialdN (i := 39 + pp) hC (mw 1 rfl) (by omega) (by omega) dX12_row_40 ?_
        have bk_6 : NB S (39 + pp) _ := (hW.kind pp (by omega))
        have k_6 := bk_6.eq
        have lk_6 := bk_6.le
        have mk_6 := bk_6.lt
        refine ev_top (y := (nI (sn S (39 + pp)))) k_6 ?_
        refine ev_bipush (v := (nI 6)) hC dX12_row_41 (by decide) ?_
        refine ev_icmp_eqN (tgt := 49) hC dX12_row_43 (by decide) (by omega) (by omega) (fun c_7 => ?_) (fun c_7 => ?_)
        · refine ev_aload_n hC dX12_row_49 rfl 0 rfl ?_
          refine ev_get hC fl_X12_9_12 (mw 0 rfl) rfl dX12_row_50 ?_
          refine ev_bipush (v := (nI 51)) hC dX12_row_53 (by decide) ?_
          refine ev_iconst (v := (nI 4)) hC dX12_row_55 (by decide) ?_
          refine ev_iload_n hC dX12_row_56 rfl 1 rfl ?_
          refine ev_imul hC dX12_row_57 ?_
          refine ev_top (y := (nI (4 * pp))) (pk_mul _ _) ?_
          refine ev_iadd hC dX12_row_58 ?_
          refine ev_top (y := (nI (51 + (4 * pp)))) ((nI_add _ _).trans (congrArg nI (by omega))) ?_
          refine ev_iload_n hC dX12_row_59 rfl 2 rfl ?_
          refine ev_iadd hC dX12_row_60 ?_
          refine ev_top (y := (nI ((51 + (4 * pp)) + kk))) ((nI_add _ _).trans (congrArg nI (by omega))) ?_
          refine ev_ialdN (i := (51 + (4 * pp)) + kk) hC (mw 1 rfl) (by omega) (by omega) dX12_row_61 ?_
          have bk_8 : NB S ((51 + (4 * pp)) + kk) _ := ((hW.row ((4 * pp) + kk) (by omega)).congr (congrArg S (by omega)))
          have k_8 := bk_8.eq
          have lk_8 := bk_8.le
          have mk_8 := bk_8.lt
          refine ev_top (y := (nI (sn S ((51 + (4 * pp)) + kk)))) k_8 ?_
          refine ev_istore (lv' := [(4, .int (nI (sn S ((51 + (4 * pp)) + kk)))), (0, .ref (a 0)), (1, .int (nI pp)), (2, .int (nI kk)), (3, .int n)]) hC dX12_row_62 (by decide) rfl ?_
          refine ev_aload_n hC dX12_row_64 rfl 1 rfl ?_
          refine ev_get hC fl_X12_9_12 (mw 0 rfl) rfl dX12_row_65 ?_
          refine ev_bipush (v := (nI 51)) hC dX12_row_68 (by decide) ?_
          refine ev_iconst (v := (nI 4)) hC dX12_row_70 (by decide) ?_
          refine ev_iload_n hC dX12_row_71 rfl 2 rfl ?_
          refine ev_imul hC dX12_row_72 ?_
          refine ev_top (y := (nI (4 * pp))) (pk_mul _ _) ?_
          refine ev_iadd hC dX12_row_73 ?_
          refine ev_top (y := (nI (51 + (4 * pp)))) ((nI_add _ _).trans (congrArg nI (by omega))) ?_
          refine ev_iload_n hC dX12_row_74 rfl 3 rfl ?_
          refine ev_iadd hC dX12_row_75 ?_
          refine ev_top (y := (nI ((51 + (4 * pp)) + kk))) ((nI_add _ _).trans (congrArg nI (by omega))) ?_
          refine ev_iload_n hC dX12_row_76 rfl 4 rfl ?_
          refine ev_iastN (i := (51 + (4 * pp)) + kk) (ws' := (MW G a (upd S ((51 + (4 * pp)) + kk) n) I F B T R K D hI ac sp en iw op mu rd ra ki nu tv)) (q0 := 1) hC rfl (by omega) (by omega) rfl dX12_row_77 ?_
          refine ev_iload hC dX12_row_78 0 rfl ?_
          refine ev_iret hC hR rfl dX12_row_80 ?_
          have e_9 : (rowT S (nI pp) (nI kk) n) = (upd S ((51 + (4 * pp)) + kk) n) := by simp [rowR, rowT, *]
          have e_10 : (rowR S (nI pp) (nI kk) n) = (nI (sn S ((51 + (4 * pp)) + kk))) := by simp [rowR, rowT, *]
          exact ⟨(by rw [e_10]), (by rw [e_9]), rfl⟩
        · refine ev_bipush (v := (-3)) hC dX12_row_46 (by decide) ?_
          refine ev_iret hC hR rfl dX12_row_48 ?_
          have e_11 : (rowT S (nI pp) (nI kk) n) = S := by simp [rowR, rowT, *]
          have e_12 : (rowR S (nI pp) (nI kk) n) = (-3) := by simp [rowR, rowT, *]
          exact ⟨(by rw [e_12]), (by rw [e_11]), rfl⟩
      · refine ev_bipush (v := (-2)) hC dX12_row_29 (by decide) ?_
        refine ev_iret hC hR rfl dX12_row_31 ?_
        have e_13 : (rowT S (nI pp) (nI kk) n) = S := by simp [rowR, rowT, *]
        have e_14 : (rowR S (nI pp) (nI kk) n) = (-2) := by simp [rowR, rowT, *]
        exact ⟨(by rw [e_14]), (by rw [e_13]), rfl⟩
    · refine ev_iconst (v := (-1)) hC dX12_row_17 (by decide) ?_
      refine ev_iret hC hR rfl dX12_row_18 ?_
      have e_15 : (rowT S p k n) = S := by simp [rowR, rowT, *]
      have e_16 : (rowR S p k n) = (-1) := by simp [rowR, rowT, *]
      exact ⟨(by rw [e_16]), (by rw [e_15]), rfl⟩

set_option maxHeartbeats 4000000 in
set_option maxRecDepth 100000 in
theorem m_X12_set (G : GG) (ro : va_W) (a : Nat → Nat) (S I F B T R K D : Nat → Int32) (hI ac sp en iw op mu rd ra ki nu tv : Int32) (p w n : Int32) {DD EE : Nat} (hW : WF S DD EE) : Mth G M_X12_set 2 0 0 [.ref (a 0), .int p, .int w, .int n] (MW G a S I F B T R K D hI ac sp en iw op mu rd ra ki nu tv) ro (fun r ws' ro' => r = some (.int (setR S p w n)) ∧ ws' = (MW G a (setT S p w n) I F B T R K D hI ac sp en iw op mu rd ra ki nu tv) ∧ ro = ro') := by
  refine mth_of (by decide +kernel) (Nat.le_of_ble_eq_true rfl) (fun X hC hR => ?_)
  have b32 := hW.peo.le
  have b33 := hW.tre.le
  have b34 := hW.seen.le
  have b35 := hW.plan.le
  have b36 := hW.book.le
  have b37 := hW.tape.le
  show Ev G X 0 0 0 [(0, .ref (a 0)), (1, .int p), (2, .int w), (3, .int n)] [] (MW G a S I F B T R K D hI ac sp en iw op mu rd ra ki nu tv) ro
  refine ev_aload_n hC dX12_set_0 rfl 0 rfl ?_
  refine ev_iload_n hC dX12_set_1 rfl 1 rfl ?_
  refine ev_callV (As := [.int p]) (st := []) (wf := []) hC cv_X12_147 (m_X12_isPerson G ro a S I F B T R K D hI ac sp en iw op mu rd ra ki nu tv p) (by decide) rfl rfl (Nat.le_of_ble_eq_true rfl) (List.Perm.of_eq (List.append_nil _).symm) (mw 0 rfl) rfl dX12_set_2 (by decide) (by decide) ?_
  rintro _ _ _ ⟨rfl, rfl, rfl⟩
  refine ev_ws (List.append_nil _) ?_
  show Ev G X 0 0 5 [(0, .ref (a 0)), (1, .int p), (2, .int w), (3, .int n)] [.int (bI ((nI 0) ≤ p ∧ p ≤ ((S 32) - nI 1)))] (MW G a S I F B T R K D hI ac sp en iw op mu rd ra ki nu tv) ro
  refine ev_if_eqB (tgt := 17) hC dX12_set_5 (by decide) (fun c_1 => ?_) (fun c_1 => ?_)
  · refine ev_iconst (v := (-1)) hC dX12_set_17 (by decide) ?_
    refine ev_iret hC hR rfl dX12_set_18 ?_
    have e_2 : (setT S p w n) = S := by simp [setR, setT, show nI 0 ≤ nI 1 by decide, show pn (nI 0) = 0 from rfl, *]
    have e_3 : (setR S p w n) = (-1) := by simp [setR, setT, show nI 0 ≤ nI 1 by decide, show pn (nI 0) = 0 from rfl, *]
    exact ⟨(by rw [e_3]), (by rw [e_2]), rfl⟩
  · refine ev_iload_n hC dX12_set_8 rfl 2 rfl ?_
    refine ev_iconst (v := (nI 0)) hC dX12_set_9 (by decide) ?_
    refine ev_iconst (v := (nI 1)) hC dX12_set_10 (by decide) ?_
    refine ev_callS (As := [.int w, .int (nI 0), .int (nI 1)]) (st := []) (wc := []) (wf := (MW G a S I F B T R K D hI ac sp en iw op mu rd ra ki nu tv)) hC ct_X12_44 (m_X12_in G ro w (nI 0) (nI 1)) (by decide) rfl rfl (Nat.le_of_ble_eq_true rfl) (List.Perm.refl _) dX12_set_11 (by decide) (by decide) ?_
    rintro _ _ _ ⟨rfl, rfl, rfl⟩
    refine ev_ws (List.nil_append _) ?_
    show Ev G X 0 0 14 [(0, .ref (a 0)), (1, .int p), (2, .int w), (3, .int n)] [.int (bI ((nI 0) ≤ w ∧ w ≤ (nI 1)))] (MW G a S I F B T R K D hI ac sp en iw op mu rd ra ki nu tv) ro
    refine ev_if_neB (tgt := 19) hC dX12_set_14 (by decide) (fun c_4 => ?_) (fun c_4 => ?_)
    · obtain ⟨pp, hpp, rfl⟩ := isP hW (by assumption)
      have hpn_pp : pn (nI pp) = pp := nI_clamp (by omega)
      obtain ⟨wk, hwk, rfl⟩ := inN (m := 1) (by omega) (by assumption)
      have hpn_wk : pn (nI wk) = wk := nI_clamp (by omega)
      have hz_wk : (nI wk = nI 0) = (wk = 0) := propext (nI_eq (by omega) (by omega))
      refine ev_iload_n hC dX12_set_19 rfl 3 rfl ?_
      refine ev_iconst (v := (nI 0)) hC dX12_set_20 (by decide) ?_
      refine ev_iload_n hC dX12_set_21 rfl 2 rfl ?_
      refine ev_if_neN (tgt := 29) hC dX12_set_22 (by decide) (by omega) (fun c_5 => ?_) (fun c_5 => ?_)
      · refine ev_bipush (v := (nI 99)) hC dX12_set_29 (by decide) ?_
        refine ev_callS (As := [.int n, .int (nI 0), .int (nI 99)]) (st := []) (wc := []) (wf := (MW G a S I F B T R K D hI ac sp en iw op mu rd ra ki nu tv)) hC ct_X12_44 (m_X12_in G ro n (nI 0) (nI 99)) (by decide) rfl rfl (Nat.le_of_ble_eq_true rfl) (List.Perm.refl _) dX12_set_31 (by decide) (by decide) ?_
        rintro _ _ _ ⟨rfl, rfl, rfl⟩
        refine ev_ws (List.nil_append _) ?_
        show Ev G X 0 0 34 [(0, .ref (a 0)), (1, .int (nI pp)), (2, .int (nI wk)), (3, .int n)] [.int (bI ((nI 0) ≤ n ∧ n ≤ (nI 99)))] (MW G a S I F B T R K D hI ac sp en iw op mu rd ra ki nu tv) ro
        refine ev_if_neB (tgt := 40) hC dX12_set_34 (by decide) (fun c_6 => ?_) (fun c_6 => ?_)
        · refine ev_bipush (v := (nI 14)) hC dX12_set_40 (by decide) ?_
          refine ev_bipush (v := (nI 6)) hC dX12_set_42 (by decide) ?_
          refine ev_iload_n hC dX12_set_44 rfl 2 rfl ?_
          refine ev_imul hC dX12_set_45 ?_
          refine ev_top (y := (nI (6 * wk))) (pk_mul _ _) ?_
          refine ev_iadd hC dX12_set_46 ?_
          refine ev_top (y := (nI (14 + (6 * wk)))) ((nI_add _ _).trans (congrArg nI (by omega))) ?_
          refine ev_iload_n hC dX12_set_47 rfl 1 rfl ?_
          refine ev_iadd hC dX12_set_48 ?_
          refine ev_top (y := (nI ((14 + (6 * wk)) + pp))) ((nI_add _ _).trans (congrArg nI (by omega))) ?_
          refine ev_istore (lv' := [(4, .int (nI ((14 + (6 * wk)) + pp))), (0, .ref (a 0)), (1, .int (nI pp)), (2, .int (nI wk)), (3, .int n)]) hC dX12_set_49 (by decide) rfl ?_
          refine ev_aload_n hC dX12_set_51 rfl 1 rfl ?_
          refine ev_get hC fl_X12_9_12 (mw 0 rfl) rfl dX12_set_52 ?_
          refine ev_iload hC dX12_set_55 0 rfl ?_
          refine ev_ialdN (i := (14 + (6 * wk)) + pp) hC (mw 1 rfl) (by omega) (by omega) dX12_set_57 ?_
          refine ev_istore (lv' := [(5, .int (S ((14 + (6 * wk)) + pp))), (4, .int (nI ((14 + (6 * wk)) + pp))), (0, .ref (a 0)), (1, .int (nI pp)), (2, .int (nI wk)), (3, .int n)]) hC dX12_set_58 (by decide) rfl ?_
          refine ev_aload_n hC dX12_set_60 rfl 2 rfl ?_
          refine ev_get hC fl_X12_9_12 (mw 0 rfl) rfl dX12_set_61 ?_
          refine ev_iload hC dX12_set_64 1 rfl ?_
          refine ev_iload_n hC dX12_set_66 rfl 5 rfl ?_
          refine ev_iastN (i := (14 + (6 * wk)) + pp) (ws' := (MW G a (upd S ((14 + (6 * wk)) + pp) n) I F B T R K D hI ac sp en iw op mu rd ra ki nu tv)) (q0 := 1) hC rfl (by omega) (by omega) rfl dX12_set_67 ?_
          refine ev_iload hC dX12_set_68 0 rfl ?_
          refine ev_iret hC hR rfl dX12_set_70 ?_
          have e_7 : (setT S (nI pp) (nI wk) n) = (upd S ((14 + (6 * wk)) + pp) n) := by simp [setR, setT, show nI 0 ≤ nI 1 by decide, show pn (nI 0) = 0 from rfl, *]
          have e_8 : (setR S (nI pp) (nI wk) n) = (S ((14 + (6 * wk)) + pp)) := by simp [setR, setT, show nI 0 ≤ nI 1 by decide, show pn (nI 0) = 0 from rfl, *]
          exact ⟨(by rw [e_8]), (by rw [e_7]), rfl⟩
        · refine ev_bipush (v := (-2)) hC dX12_set_37 (by decide) ?_
          refine ev_iret hC hR rfl dX12_set_39 ?_
          have e_9 : (setT S (nI pp) (nI wk) n) = S := by simp [setR, setT, show nI 0 ≤ nI 1 by decide, show pn (nI 0) = 0 from rfl, *]
          have e_10 : (setR S (nI pp) (nI wk) n) = (-2) := by simp [setR, setT, show nI 0 ≤ nI 1 by decide, show pn (nI 0) = 0 from rfl, *]
          exact ⟨(by rw [e_10]), (by rw [e_9]), rfl⟩
      · refine ev_iconst (v := (nI 5)) hC dX12_set_25 (by decide) ?_
        refine ev_goto (tgt := 31) hC dX12_set_26 (by decide) ?_
        refine ev_callS (As := [.int n, .int (nI 0), .int (nI 5)]) (st := []) (wc := []) (wf := (MW G a S I F B T R K D hI ac sp en iw op mu rd ra ki nu tv)) hC ct_X12_44 (m_X12_in G ro n (nI 0) (nI 5)) (by decide) rfl rfl (Nat.le_of_ble_eq_true rfl) (List.Perm.refl _) dX12_set_31 (by decide) (by decide) ?_
        rintro _ _ _ ⟨rfl, rfl, rfl⟩
        refine ev_ws (List.nil_append _) ?_
        show Ev G X 0 0 34 [(0, .ref (a 0)), (1, .int (nI pp)), (2, .int (nI wk)), (3, .int n)] [.int (bI ((nI 0) ≤ n ∧ n ≤ (nI 5)))] (MW G a S I F B T R K D hI ac sp en iw op mu rd ra ki nu tv) ro
        refine ev_if_neB (tgt := 40) hC dX12_set_34 (by decide) (fun c_11 => ?_) (fun c_11 => ?_)
        · refine ev_bipush (v := (nI 14)) hC dX12_set_40 (by decide) ?_
          refine ev_bipush (v := (nI 6)) hC dX12_set_42 (by decide) ?_
          refine ev_iload_n hC dX12_set_44 rfl 2 rfl ?_
          refine ev_imul hC dX12_set_45 ?_
          refine ev_top (y := (nI (6 * wk))) (pk_mul _ _) ?_
          refine ev_iadd hC dX12_set_46 ?_
          refine ev_top (y := (nI (14 + (6 * wk)))) ((nI_add _ _).trans (congrArg nI (by omega))) ?_
          refine ev_iload_n hC dX12_set_47 rfl 1 rfl ?_
          refine ev_iadd hC dX12_set_48 ?_
          refine ev_top (y := (nI ((14 + (6 * wk)) + pp))) ((nI_add _ _).trans (congrArg nI (by omega))) ?_
          refine ev_istore (lv' := [(4, .int (nI ((14 + (6 * wk)) + pp))), (0, .ref (a 0)), (1, .int (nI pp)), (2, .int (nI wk)), (3, .int n)]) hC dX12_set_49 (by decide) rfl ?_
          refine ev_aload_n hC dX12_set_51 rfl 1 rfl ?_
          refine ev_get hC fl_X12_9_12 (mw 0 rfl) rfl dX12_set_52 ?_
          refine ev_iload hC dX12_set_55 0 rfl ?_
          refine ev_ialdN (i := (14 + (6 * wk)) + pp) hC (mw 1 rfl) (by omega) (by omega) dX12_set_57 ?_
          refine ev_istore (lv' := [(5, .int (S ((14 + (6 * wk)) + pp))), (4, .int (nI ((14 + (6 * wk)) + pp))), (0, .ref (a 0)), (1, .int (nI pp)), (2, .int (nI wk)), (3, .int n)]) hC dX12_set_58 (by decide) rfl ?_
          refine ev_aload_n hC dX12_set_60 rfl 2 rfl ?_
          refine ev_get hC fl_X12_9_12 (mw 0 rfl) rfl dX12_set_61 ?_
          refine ev_iload hC dX12_set_64 1 rfl ?_
          refine ev_iload_n hC dX12_set_66 rfl 5 rfl ?_
          refine ev_iastN (i := (14 + (6 * wk)) + pp) (ws' := (MW G a (upd S ((14 + (6 * wk)) + pp) n) I F B T R K D hI ac sp en iw op mu rd ra ki nu tv)) (q0 := 1) hC rfl (by omega) (by omega) rfl dX12_set_67 ?_
          refine ev_iload hC dX12_set_68 0 rfl ?_
          refine ev_iret hC hR rfl dX12_set_70 ?_
          have e_12 : (setT S (nI pp) (nI wk) n) = (upd S ((14 + (6 * wk)) + pp) n) := by simp [setR, setT, show nI 0 ≤ nI 1 by decide, show pn (nI 0) = 0 from rfl, *]
          have e_13 : (setR S (nI pp) (nI wk) n) = (S ((14 + (6 * wk)) + pp)) := by simp [setR, setT, show nI 0 ≤ nI 1 by decide, show pn (nI 0) = 0 from rfl, *]
          exact ⟨(by rw [e_13]), (by rw [e_12]), rfl⟩
        · refine ev_bipush (v := (-2)) hC dX12_set_37 (by decide) ?_
          refine ev_iret hC hR rfl dX12_set_39 ?_
          have e_14 : (setT S (nI pp) (nI wk) n) = S := by simp [setR, setT, show nI 0 ≤ nI 1 by decide, show pn (nI 0) = 0 from rfl, *]
          have e_15 : (setR S (nI pp) (nI wk) n) = (-2) := by simp [setR, setT, show nI 0 ≤ nI 1 by decide, show pn (nI 0) = 0 from rfl, *]
          exact ⟨(by rw [e_15]), (by rw [e_14]), rfl⟩
    · refine ev_iconst (v := (-1)) hC dX12_set_17 (by decide) ?_
      refine ev_iret hC hR rfl dX12_set_18 ?_
      have e_16 : (setT S p w n) = S := by simp [setR, setT, show nI 0 ≤ nI 1 by decide, show pn (nI 0) = 0 from rfl, *]
      have e_17 : (setR S p w n) = (-1) := by simp [setR, setT, show nI 0 ≤ nI 1 by decide, show pn (nI 0) = 0 from rfl, *]
      exact ⟨(by rw [e_17]), (by rw [e_16]), rfl⟩

set_option maxHeartbeats 4000000 in
set_option maxRecDepth 100000 in
theorem m_X12_sumOf (G : GG) (ro : va_W) (a : Nat → Nat) (S I F B T R K D : Nat → Int32) (hI ac sp en iw op mu rd ra ki nu tv : Int32) (w : Nat) (hw : w + 6 ≤ 937)  : Mth G M_X12_sumOf 0 0 0 [.ref (a 0), .int (nI w)] (MW G a S I F B T R K D hI ac sp en iw op mu rd ra ki nu tv) ro (fun r ws' ro' => r = some (.int (sum6 S w)) ∧ ws' = (MW G a S I F B T R K D hI ac sp en iw op mu rd ra ki nu tv) ∧ ro = ro') := by
  refine mth_of (by decide +kernel) (Nat.le_of_ble_eq_true rfl) (fun X hC hR => ?_)
  show Ev G X 0 0 0 [(0, .ref (a 0)), (1, .int (nI w))] [] (MW G a S I F B T R K D hI ac sp en iw op mu rd ra ki nu tv) ro
  refine ev_iconst (v := (nI 0)) hC dX12_sumOf_0 (by decide) ?_
  refine ev_istore_n (lv' := [(2, .int (nI 0)), (0, .ref (a 0)), (1, .int (nI w))]) hC dX12_sumOf_1 rfl (by decide) rfl ?_
  refine ev_iconst (v := (nI 0)) hC dX12_sumOf_2 (by decide) ?_
  refine ev_istore_n (lv' := [(3, .int (nI 0)), (2, .int (nI 0)), (0, .ref (a 0)), (1, .int (nI w))]) hC dX12_sumOf_3 rfl (by decide) rfl ?_
  refine ev_iload_n hC dX12_sumOf_4 rfl 0 rfl ?_
  refine ev_bipush (v := (nI 6)) hC dX12_sumOf_5 (by decide) ?_
  refine ev_icmp_geN (tgt := 27) hC dX12_sumOf_7 (by decide) (by omega) (by omega) (fun c_1 => absurd c_1 (by omega)) (fun c_1 => ?_)
  refine ev_iload_n hC dX12_sumOf_10 rfl 1 rfl ?_
  refine ev_aload_n hC dX12_sumOf_11 rfl 2 rfl ?_
  refine ev_get hC fl_X12_9_12 (mw 0 rfl) rfl dX12_sumOf_12 ?_
  refine ev_iload_n hC dX12_sumOf_15 rfl 3 rfl ?_
  refine ev_iload_n hC dX12_sumOf_16 rfl 0 rfl ?_
  refine ev_iadd hC dX12_sumOf_17 ?_
  refine ev_top (y := (nI w)) ((nI_add _ _).trans (congrArg nI (by omega))) ?_
  refine ev_ialdN (i := w) hC (mw 1 rfl) (by omega) (by omega) dX12_sumOf_18 ?_
  refine ev_iadd hC dX12_sumOf_19 ?_
  refine ev_istore_n (lv' := [(2, .int ((nI 0) + (S w))), (3, .int (nI 0)), (0, .ref (a 0)), (1, .int (nI w))]) hC dX12_sumOf_20 rfl (by decide) rfl ?_
  refine ev_iinc (v := (nI 1)) (lv' := [(3, .int (nI 1)), (2, .int ((nI 0) + (S w))), (0, .ref (a 0)), (1, .int (nI w))]) hC dX12_sumOf_21 (q := 1) rfl (nI_k _ _ 1 (by decide)) (by decide) rfl ?_
  refine ev_goto (tgt := 4) hC dX12_sumOf_24 (by decide) ?_
  refine ev_iload_n hC dX12_sumOf_4 rfl 0 rfl ?_
  refine ev_bipush (v := (nI 6)) hC dX12_sumOf_5 (by decide) ?_
  refine ev_icmp_geN (tgt := 27) hC dX12_sumOf_7 (by decide) (by omega) (by omega) (fun c_2 => absurd c_2 (by omega)) (fun c_2 => ?_)
  refine ev_iload_n hC dX12_sumOf_10 rfl 1 rfl ?_
  refine ev_aload_n hC dX12_sumOf_11 rfl 2 rfl ?_
  refine ev_get hC fl_X12_9_12 (mw 0 rfl) rfl dX12_sumOf_12 ?_
  refine ev_iload_n hC dX12_sumOf_15 rfl 3 rfl ?_
  refine ev_iload_n hC dX12_sumOf_16 rfl 0 rfl ?_
  refine ev_iadd hC dX12_sumOf_17 ?_
  refine ev_top (y := (nI (w + 1))) ((nI_add _ _).trans (congrArg nI (by omega))) ?_
  refine ev_ialdN (i := w + 1) hC (mw 1 rfl) (by omega) (by omega) dX12_sumOf_18 ?_
  refine ev_iadd hC dX12_sumOf_19 ?_
  refine ev_istore_n (lv' := [(2, .int (((nI 0) + (S w)) + (S (w + 1)))), (3, .int (nI 1)), (0, .ref (a 0)), (1, .int (nI w))]) hC dX12_sumOf_20 rfl (by decide) rfl ?_
  refine ev_iinc (v := (nI 2)) (lv' := [(3, .int (nI 2)), (2, .int (((nI 0) + (S w)) + (S (w + 1)))), (0, .ref (a 0)), (1, .int (nI w))]) hC dX12_sumOf_21 (q := 1) rfl (nI_k _ _ 1 (by decide)) (by decide) rfl ?_
  refine ev_goto (tgt := 4) hC dX12_sumOf_24 (by decide) ?_
  refine ev_iload_n hC dX12_sumOf_4 rfl 0 rfl ?_
  refine ev_bipush (v := (nI 6)) hC dX12_sumOf_5 (by decide) ?_
  refine ev_icmp_geN (tgt := 27) hC dX12_sumOf_7 (by decide) (by omega) (by omega) (fun c_3 => absurd c_3 (by omega)) (fun c_3 => ?_)
  refine ev_iload_n hC dX12_sumOf_10 rfl 1 rfl ?_
  refine ev_aload_n hC dX12_sumOf_11 rfl 2 rfl ?_
  refine ev_get hC fl_X12_9_12 (mw 0 rfl) rfl dX12_sumOf_12 ?_
  refine ev_iload_n hC dX12_sumOf_15 rfl 3 rfl ?_
  refine ev_iload_n hC dX12_sumOf_16 rfl 0 rfl ?_
  refine ev_iadd hC dX12_sumOf_17 ?_
  refine ev_top (y := (nI (w + 2))) ((nI_add _ _).trans (congrArg nI (by omega))) ?_
  refine ev_ialdN (i := w + 2) hC (mw 1 rfl) (by omega) (by omega) dX12_sumOf_18 ?_
  refine ev_iadd hC dX12_sumOf_19 ?_
  refine ev_istore_n (lv' := [(2, .int ((((nI 0) + (S w)) + (S (w + 1))) + (S (w + 2)))), (3, .int (nI 2)), (0, .ref (a 0)), (1, .int (nI w))]) hC dX12_sumOf_20 rfl (by decide) rfl ?_
  refine ev_iinc (v := (nI 3)) (lv' := [(3, .int (nI 3)), (2, .int ((((nI 0) + (S w)) + (S (w + 1))) + (S (w + 2)))), (0, .ref (a 0)), (1, .int (nI w))]) hC dX12_sumOf_21 (q := 1) rfl (nI_k _ _ 1 (by decide)) (by decide) rfl ?_
  refine ev_goto (tgt := 4) hC dX12_sumOf_24 (by decide) ?_
  refine ev_iload_n hC dX12_sumOf_4 rfl 0 rfl ?_
  refine ev_bipush (v := (nI 6)) hC dX12_sumOf_5 (by decide) ?_
  refine ev_icmp_geN (tgt := 27) hC dX12_sumOf_7 (by decide) (by omega) (by omega) (fun c_4 => absurd c_4 (by omega)) (fun c_4 => ?_)
  refine ev_iload_n hC dX12_sumOf_10 rfl 1 rfl ?_
  refine ev_aload_n hC dX12_sumOf_11 rfl 2 rfl ?_
  refine ev_get hC fl_X12_9_12 (mw 0 rfl) rfl dX12_sumOf_12 ?_
  refine ev_iload_n hC dX12_sumOf_15 rfl 3 rfl ?_
  refine ev_iload_n hC dX12_sumOf_16 rfl 0 rfl ?_
  refine ev_iadd hC dX12_sumOf_17 ?_
  refine ev_top (y := (nI (w + 3))) ((nI_add _ _).trans (congrArg nI (by omega))) ?_
  refine ev_ialdN (i := w + 3) hC (mw 1 rfl) (by omega) (by omega) dX12_sumOf_18 ?_
  refine ev_iadd hC dX12_sumOf_19 ?_
  refine ev_istore_n (lv' := [(2, .int (((((nI 0) + (S w)) + (S (w + 1))) + (S (w + 2))) + (S (w + 3)))), (3, .int (nI 3)), (0, .ref (a 0)), (1, .int (nI w))]) hC dX12_sumOf_20 rfl (by decide) rfl ?_
  refine ev_iinc (v := (nI 4)) (lv' := [(3, .int (nI 4)), (2, .int (((((nI 0) + (S w)) + (S (w + 1))) + (S (w + 2))) + (S (w + 3)))), (0, .ref (a 0)), (1, .int (nI w))]) hC dX12_sumOf_21 (q := 1) rfl (nI_k _ _ 1 (by decide)) (by decide) rfl ?_
  refine ev_goto (tgt := 4) hC dX12_sumOf_24 (by decide) ?_
  refine ev_iload_n hC dX12_sumOf_4 rfl 0 rfl ?_
  refine ev_bipush (v := (nI 6)) hC dX12_sumOf_5 (by decide) ?_
  refine ev_icmp_geN (tgt := 27) hC dX12_sumOf_7 (by decide) (by omega) (by omega) (fun c_5 => absurd c_5 (by omega)) (fun c_5 => ?_)
  refine ev_iload_n hC dX12_sumOf_10 rfl 1 rfl ?_
  refine ev_aload_n hC dX12_sumOf_11 rfl 2 rfl ?_
  refine ev_get hC fl_X12_9_12 (mw 0 rfl) rfl dX12_sumOf_12 ?_
  refine ev_iload_n hC dX12_sumOf_15 rfl 3 rfl ?_
  refine ev_iload_n hC dX12_sumOf_16 rfl 0 rfl ?_
  refine ev_iadd hC dX12_sumOf_17 ?_
  refine ev_top (y := (nI (w + 4))) ((nI_add _ _).trans (congrArg nI (by omega))) ?_
  refine ev_ialdN (i := w + 4) hC (mw 1 rfl) (by omega) (by omega) dX12_sumOf_18 ?_
  refine ev_iadd hC dX12_sumOf_19 ?_
  refine ev_istore_n (lv' := [(2, .int ((((((nI 0) + (S w)) + (S (w + 1))) + (S (w + 2))) + (S (w + 3))) + (S (w + 4)))), (3, .int (nI 4)), (0, .ref (a 0)), (1, .int (nI w))]) hC dX12_sumOf_20 rfl (by decide) rfl ?_
  refine ev_iinc (v := (nI 5)) (lv' := [(3, .int (nI 5)), (2, .int ((((((nI 0) + (S w)) + (S (w + 1))) + (S (w + 2))) + (S (w + 3))) + (S (w + 4)))), (0, .ref (a 0)), (1, .int (nI w))]) hC dX12_sumOf_21 (q := 1) rfl (nI_k _ _ 1 (by decide)) (by decide) rfl ?_
  refine ev_goto (tgt := 4) hC dX12_sumOf_24 (by decide) ?_
  refine ev_iload_n hC dX12_sumOf_4 rfl 0 rfl ?_
  refine ev_bipush (v := (nI 6)) hC dX12_sumOf_5 (by decide) ?_
  refine ev_icmp_geN (tgt := 27) hC dX12_sumOf_7 (by decide) (by omega) (by omega) (fun c_6 => absurd c_6 (by omega)) (fun c_6 => ?_)
  refine ev_iload_n hC dX12_sumOf_10 rfl 1 rfl ?_
  refine ev_aload_n hC dX12_sumOf_11 rfl 2 rfl ?_
  refine ev_get hC fl_X12_9_12 (mw 0 rfl) rfl dX12_sumOf_12 ?_
  refine ev_iload_n hC dX12_sumOf_15 rfl 3 rfl ?_
  refine ev_iload_n hC dX12_sumOf_16 rfl 0 rfl ?_
  refine ev_iadd hC dX12_sumOf_17 ?_
  refine ev_top (y := (nI (w + 5))) ((nI_add _ _).trans (congrArg nI (by omega))) ?_
  refine ev_ialdN (i := w + 5) hC (mw 1 rfl) (by omega) (by omega) dX12_sumOf_18 ?_
  refine ev_iadd hC dX12_sumOf_19 ?_
  refine ev_istore_n (lv' := [(2, .int (((((((nI 0) + (S w)) + (S (w + 1))) + (S (w + 2))) + (S (w + 3))) + (S (w + 4))) + (S (w + 5)))), (3, .int (nI 5)), (0, .ref (a 0)), (1, .int (nI w))]) hC dX12_sumOf_20 rfl (by decide) rfl ?_
  refine ev_iinc (v := (nI 6)) (lv' := [(3, .int (nI 6)), (2, .int (((((((nI 0) + (S w)) + (S (w + 1))) + (S (w + 2))) + (S (w + 3))) + (S (w + 4))) + (S (w + 5)))), (0, .ref (a 0)), (1, .int (nI w))]) hC dX12_sumOf_21 (q := 1) rfl (nI_k _ _ 1 (by decide)) (by decide) rfl ?_
  refine ev_goto (tgt := 4) hC dX12_sumOf_24 (by decide) ?_
  refine ev_iload_n hC dX12_sumOf_4 rfl 0 rfl ?_
  refine ev_bipush (v := (nI 6)) hC dX12_sumOf_5 (by decide) ?_
  refine ev_icmp_geN (tgt := 27) hC dX12_sumOf_7 (by decide) (by omega) (by omega) (fun c_7 => ?_) (fun c_7 => absurd c_7 (by omega))
  refine ev_iload_n hC dX12_sumOf_27 rfl 1 rfl ?_
  refine ev_iret hC hR rfl dX12_sumOf_28 ?_
  have e_8 : (sum6 S w) = (((((((nI 0) + (S w)) + (S (w + 1))) + (S (w + 2))) + (S (w + 3))) + (S (w + 4))) + (S (w + 5))) := by simp [sum6, *]
  exact ⟨(by rw [e_8]), rfl, rfl⟩

set_option maxHeartbeats 4000000 in
set_option maxRecDepth 100000 in
theorem m_X12_tellsOf (G : GG) (ro : va_W) (a : Nat → Nat) (S I F B T R K D : Nat → Int32) (hI ac sp en iw op mu rd ra ki nu tv : Int32) (w : Nat) (o : Int32) (hw : w + 4 < 937) (hH : HoldOK S) : Mth G M_X12_tellsOf 0 0 0 [.ref (a 0), .int (nI w), .int o] (MW G a S I F B T R K D hI ac sp en iw op mu rd ra ki nu tv) ro (fun r ws' ro' => r = some (.int (tellF S w o)) ∧ ws' = (MW G a S I F B T R K D hI ac sp en iw op mu rd ra ki nu tv) ∧ ro = ro') := by
  refine mth_of (by decide +kernel) (Nat.le_of_ble_eq_true rfl) (fun X hC hR => ?_)
  show Ev G X 0 0 0 [(0, .ref (a 0)), (1, .int (nI w)), (2, .int o)] [] (MW G a S I F B T R K D hI ac sp en iw op mu rd ra ki nu tv) ro
  refine ev_aload_n hC dX12_tellsOf_0 rfl 0 rfl ?_
  refine ev_get hC fl_X12_9_12 (mw 0 rfl) rfl dX12_tellsOf_1 ?_
  refine ev_bipush (v := (nI 38)) hC dX12_tellsOf_4 (by decide) ?_
  refine ev_ialdN (i := 38) hC (mw 1 rfl) (by omega) (by omega) dX12_tellsOf_6 ?_
  refine ev_iconst (v := (-1)) hC dX12_tellsOf_7 (by decide) ?_
  refine ev_icmp_ne (tgt := 15) hC dX12_tellsOf_8 (by decide) (fun c_1 => ?_) (fun c_1 => ?_)
  · have hh := hold_nb hH (by assumption)
    have hh4 := hh.le
    refine ev_aload_n hC dX12_tellsOf_15 rfl 0 rfl ?_
    refine ev_get hC fl_X12_9_12 (mw 0 rfl) rfl dX12_tellsOf_16 ?_
    refine ev_iload_n hC dX12_tellsOf_19 rfl 1 rfl ?_
    refine ev_aload_n hC dX12_tellsOf_20 rfl 0 rfl ?_
    refine ev_get hC fl_X12_9_12 (mw 0 rfl) rfl dX12_tellsOf_21 ?_
    refine ev_bipush (v := (nI 38)) hC dX12_tellsOf_24 (by decide) ?_
    refine ev_ialdN (i := 38) hC (mw 1 rfl) (by omega) (by omega) dX12_tellsOf_26 ?_
    refine ev_top (y := (nI (sn S 38))) hh.eq ?_
    refine ev_iadd hC dX12_tellsOf_27 ?_
    refine ev_top (y := (nI (w + (sn S 38)))) ((nI_add _ _).trans (congrArg nI (by omega))) ?_
    refine ev_ialdN (i := w + (sn S 38)) hC (mw 1 rfl) (by omega) (by omega) dX12_tellsOf_28 ?_
    refine ev_iret hC hR rfl dX12_tellsOf_29 ?_
    have e_2 : (tellF S w o) = (S (w + (sn S 38))) := by simp [tellF, *]
    exact ⟨(by rw [e_2]), rfl, rfl⟩
  · refine ev_iload_n hC dX12_tellsOf_11 rfl 2 rfl ?_
    refine ev_goto (tgt := 29) hC dX12_tellsOf_12 (by decide) ?_
    refine ev_iret hC hR rfl dX12_tellsOf_29 ?_
    have e_3 : (tellF S w o) = o := by simp [tellF, *]
    exact ⟨(by rw [e_3]), rfl, rfl⟩

set_option maxHeartbeats 4000000 in
set_option maxRecDepth 100000 in
theorem m_X12_rainNow (G : GG) (ro : va_W) (a : Nat → Nat) (S I F B T R K D : Nat → Int32) (hI ac sp en iw op mu rd ra ki nu tv : Int32)  (hH : HoldOK S) : Mth G M_X12_rainNow 1 0 0 [.ref (a 0)] (MW G a S I F B T R K D hI ac sp en iw op mu rd ra ki nu tv) ro (fun r ws' ro' => r = some (.int (rainF S)) ∧ ws' = (MW G a S I F B T R K D hI ac sp en iw op mu rd ra ki nu tv) ∧ ro = ro') := by
  refine mth_of (by decide +kernel) (Nat.le_of_ble_eq_true rfl) (fun X hC hR => ?_)
  show Ev G X 0 0 0 [(0, .ref (a 0))] [] (MW G a S I F B T R K D hI ac sp en iw op mu rd ra ki nu tv) ro
  refine ev_aload_n hC dX12_rainNow_0 rfl 0 rfl ?_
  refine ev_sipush (v := (nI 222)) hC dX12_rainNow_1 (by decide) ?_
  refine ev_iconst (v := (nI 1)) hC dX12_rainNow_4 (by decide) ?_
  refine ev_callV (As := [.int (nI 222), .int (nI 1)]) (st := []) (wf := []) hC cv_X12_126 (m_X12_tellsOf G ro a S I F B T R K D hI ac sp en iw op mu rd ra ki nu tv 222 (nI 1) (by omega) hH) (by decide) rfl rfl (Nat.le_of_ble_eq_true rfl) (List.Perm.of_eq (List.append_nil _).symm) (mw 0 rfl) rfl dX12_rainNow_5 (by decide) (by decide) ?_
  rintro _ _ _ ⟨rfl, rfl, rfl⟩
  refine ev_ws (List.append_nil _) ?_
  show Ev G X 0 0 8 [(0, .ref (a 0))] [.int (tellF S 222 (nI 1))] (MW G a S I F B T R K D hI ac sp en iw op mu rd ra ki nu tv) ro
  refine ev_iret hC hR rfl dX12_rainNow_8 ?_
  have e_1 : (rainF S) = (tellF S 222 (nI 1)) := by simp [rainF, *]
  exact ⟨(by rw [e_1]), rfl, rfl⟩

set_option maxHeartbeats 4000000 in
set_option maxRecDepth 100000 in
theorem m_X12_needNow (G : GG) (ro : va_W) (a : Nat → Nat) (S I F B T R K D : Nat → Int32) (hI ac sp en iw op mu rd ra ki nu tv : Int32)  (hH : HoldOK S) : Mth G M_X12_needNow 1 0 0 [.ref (a 0)] (MW G a S I F B T R K D hI ac sp en iw op mu rd ra ki nu tv) ro (fun r ws' ro' => r = some (.int (needF S)) ∧ ws' = (MW G a S I F B T R K D hI ac sp en iw op mu rd ra ki nu tv) ∧ ro = ro') := by
  refine mth_of (by decide +kernel) (Nat.le_of_ble_eq_true rfl) (fun X hC hR => ?_)
  show Ev G X 0 0 0 [(0, .ref (a 0))] [] (MW G a S I F B T R K D hI ac sp en iw op mu rd ra ki nu tv) ro
  refine ev_aload_n hC dX12_needNow_0 rfl 0 rfl ?_
  refine ev_sipush (v := (nI 227)) hC dX12_needNow_1 (by decide) ?_
  refine ev_iconst (v := (nI 2)) hC dX12_needNow_4 (by decide) ?_
  refine ev_callV (As := [.int (nI 227), .int (nI 2)]) (st := []) (wf := []) hC cv_X12_126 (m_X12_tellsOf G ro a S I F B T R K D hI ac sp en iw op mu rd ra ki nu tv 227 (nI 2) (by omega) hH) (by decide) rfl rfl (Nat.le_of_ble_eq_true rfl) (List.Perm.of_eq (List.append_nil _).symm) (mw 0 rfl) rfl dX12_needNow_5 (by decide) (by decide) ?_
  rintro _ _ _ ⟨rfl, rfl, rfl⟩
  refine ev_ws (List.append_nil _) ?_
  show Ev G X 0 0 8 [(0, .ref (a 0))] [.int (tellF S 227 (nI 2))] (MW G a S I F B T R K D hI ac sp en iw op mu rd ra ki nu tv) ro
  refine ev_istore_n (lv' := [(1, .int (tellF S 227 (nI 2))), (0, .ref (a 0))]) hC dX12_needNow_8 rfl (by decide) rfl ?_
  refine ev_iload_n hC dX12_needNow_9 rfl 0 rfl ?_
  refine ev_iconst (v := (nI 1)) hC dX12_needNow_10 (by decide) ?_
  refine ev_icmp_ge (tgt := 18) hC dX12_needNow_11 (by decide) (fun c_1 => ?_) (fun c_1 => ?_)
  · refine ev_iload_n hC dX12_needNow_18 rfl 0 rfl ?_
    refine ev_iret hC hR rfl dX12_needNow_19 ?_
    have e_2 : (needF S) = (tellF S 227 (nI 2)) := by simp [needF, ← Int32.not_le, *]
    exact ⟨(by rw [e_2]), rfl, rfl⟩
  · refine ev_iconst (v := (nI 1)) hC dX12_needNow_14 (by decide) ?_
    refine ev_goto (tgt := 19) hC dX12_needNow_15 (by decide) ?_
    refine ev_iret hC hR rfl dX12_needNow_19 ?_
    have e_3 : (needF S) = (nI 1) := by simp [needF, ← Int32.not_le, *]
    exact ⟨(by rw [e_3]), rfl, rfl⟩

set_option maxHeartbeats 4000000 in
set_option maxRecDepth 100000 in
theorem m_X12_grudges (G : GG) (ro : va_W) (a : Nat → Nat) (S I F B T R K D : Nat → Int32) (hI ac sp en iw op mu rd ra ki nu tv : Int32)  {DD EE : Nat} (hW : WF S DD EE) : Mth G M_X12_grudges 0 0 0 [.ref (a 0)] (MW G a S I F B T R K D hI ac sp en iw op mu rd ra ki nu tv) ro (fun r ws' ro' => r = some (.int (gruF S (sn S 32))) ∧ ws' = (MW G a S I F B T R K D hI ac sp en iw op mu rd ra ki nu tv) ∧ ro = ro') := by
  refine mth_of (by decide +kernel) (Nat.le_of_ble_eq_true rfl) (fun X hC hR => ?_)
  have b32 := hW.peo.le
  have b33 := hW.tre.le
  have b34 := hW.seen.le
  have b35 := hW.plan.le
  have b36 := hW.book.le
  have b37 := hW.tape.le
  show Ev G X 0 0 0 [(0, .ref (a 0))] [] (MW G a S I F B T R K D hI ac sp en iw op mu rd ra ki nu tv) ro
  refine ev_iconst (v := (nI 0)) hC dX12_grudges_0 (by decide) ?_
  refine ev_istore_n (lv' := [(1, .int (nI 0)), (0, .ref (a 0))]) hC dX12_grudges_1 rfl (by decide) rfl ?_
  refine ev_iconst (v := (nI 0)) hC dX12_grudges_2 (by decide) ?_
  refine ev_istore_n (lv' := [(2, .int (nI 0)), (1, .int (nI 0)), (0, .ref (a 0))]) hC dX12_grudges_3 rfl (by decide) rfl ?_
  have lp_4 : ∀ (n : Nat) (i : Nat) (g : Int32) (hi : i ≤ sn S 32) (hg : g = gruF S i) (hn : sn S 32 - i < n), Ev G X 0 0 4 [(0, .ref (a 0)), (1, .int g), (2, .int (nI i))] [] (MW G a S I F B T R K D hI ac sp en iw op mu rd ra ki nu tv) ro := by
    intro n
    induction n with
    | zero => intro i g hi hg hn; exact absurd hn (Nat.not_lt_zero _)
    | succ n ih =>
      intro i g hi hg hn
      refine ev_iload_n hC dX12_grudges_4 rfl 2 rfl ?_
      refine ev_aload_n hC dX12_grudges_5 rfl 0 rfl ?_
      refine ev_get hC fl_X12_9_12 (mw 0 rfl) rfl dX12_grudges_6 ?_
      refine ev_bipush (v := (nI 32)) hC dX12_grudges_9 (by decide) ?_
      refine ev_ialdN (i := 32) hC (mw 1 rfl) (by omega) (by omega) dX12_grudges_11 ?_
      have bk_1 : NB S 32 _ := hW.peo
      have k_1 := bk_1.eq
      have lk_1 := bk_1.le
      have mk_1 := bk_1.lt
      refine ev_top (y := (nI (sn S 32))) k_1 ?_
      refine ev_icmp_geN (tgt := 33) hC dX12_grudges_12 (by decide) (by omega) (by omega) (fun c_2 => ?_) (fun c_2 => ?_)
      · refine ev_iload_n hC dX12_grudges_33 rfl 1 rfl ?_
        refine ev_iret hC hR rfl dX12_grudges_34 ?_
        obtain rfl : i = sn S 32 := by omega
        exact ⟨by rw [hg], rfl, rfl⟩
      · refine ev_iload_n hC dX12_grudges_15 rfl 1 rfl ?_
        refine ev_aload_n hC dX12_grudges_16 rfl 0 rfl ?_
        refine ev_get hC fl_X12_9_12 (mw 0 rfl) rfl dX12_grudges_17 ?_
        refine ev_bipush (v := (nI 20)) hC dX12_grudges_20 (by decide) ?_
        refine ev_iload_n hC dX12_grudges_22 rfl 2 rfl ?_
        refine ev_iadd hC dX12_grudges_23 ?_
        refine ev_top (y := (nI (20 + i))) ((nI_add _ _).trans (congrArg nI (by omega))) ?_
        refine ev_ialdN (i := 20 + i) hC (mw 1 rfl) (by omega) (by omega) dX12_grudges_24 ?_
        refine ev_iadd hC dX12_grudges_25 ?_
        refine ev_istore_n (lv' := [(1, .int (g + (S (20 + i)))), (0, .ref (a 0)), (2, .int (nI i))]) hC dX12_grudges_26 rfl (by decide) rfl ?_
        refine ev_iinc (v := (nI (i + 1))) (lv' := [(2, .int (nI (i + 1))), (1, .int (g + (S (20 + i)))), (0, .ref (a 0))]) hC dX12_grudges_27 (q := 2) rfl (nI_k _ _ 1 (by decide)) (by decide) rfl ?_
        refine ev_goto (tgt := 4) hC dX12_grudges_30 (by decide) ?_
        refine ev_lv [2, 1, 0] rfl ?_
        exact ih (i + 1) (g + (S (20 + i))) (by omega) (by rw [hg]; rfl) (by omega)
  refine ev_lv [2, 1, 0] rfl ?_
  exact lp_4 (sn S 32 - 0 + 1) 0 (nI 0) (by omega) rfl (Nat.lt_succ_self _)

set_option maxHeartbeats 4000000 in
set_option maxRecDepth 100000 in
theorem m_X12_underRoofs (G : GG) (ro : va_W) (a : Nat → Nat) (S I F B T R K D : Nat → Int32) (hI ac sp en iw op mu rd ra ki nu tv : Int32)  {DD EE : Nat} (hW : WF S DD EE) : Mth G M_X12_underRoofs 0 0 0 [.ref (a 0)] (MW G a S I F B T R K D hI ac sp en iw op mu rd ra ki nu tv) ro (fun r ws' ro' => r = some (.int (bitF S)) ∧ ws' = (MW G a S I F B T R K D hI ac sp en iw op mu rd ra ki nu tv) ∧ ro = ro') := by
  refine mth_of (by decide +kernel) (Nat.le_of_ble_eq_true rfl) (fun X hC hR => ?_)
  have b32 := hW.peo.le
  have b33 := hW.tre.le
  have b34 := hW.seen.le
  have b35 := hW.plan.le
  have b36 := hW.book.le
  have b37 := hW.tape.le
  show Ev G X 0 0 0 [(0, .ref (a 0))] [] (MW G a S I F B T R K D hI ac sp en iw op mu rd ra ki nu tv) ro
  refine ev_iconst (v := (nI 0)) hC dX12_underRoofs_0 (by decide) ?_
  refine ev_istore_n (lv' := [(1, .int (nI 0)), (0, .ref (a 0))]) hC dX12_underRoofs_1 rfl (by decide) rfl ?_
  refine ev_iconst (v := (nI 0)) hC dX12_underRoofs_2 (by decide) ?_
  refine ev_istore_n (lv' := [(2, .int (nI 0)), (1, .int (nI 0)), (0, .ref (a 0))]) hC dX12_underRoofs_3 rfl (by decide) rfl ?_
  refine ev_iload_n hC dX12_underRoofs_4 rfl 0 rfl ?_
  refine ev_bipush (v := (nI 6)) hC dX12_underRoofs_5 (by decide) ?_
  refine ev_icmp_geN (tgt := 30) hC dX12_underRoofs_7 (by decide) (by omega) (by omega) (fun c_1 => absurd c_1 (by omega)) (fun c_1 => ?_)
  refine ev_iload_n hC dX12_underRoofs_10 rfl 1 rfl ?_
  refine ev_aload_n hC dX12_underRoofs_11 rfl 2 rfl ?_
  refine ev_get hC fl_X12_9_12 (mw 0 rfl) rfl dX12_underRoofs_12 ?_
  refine ev_bipush (v := (nI 8)) hC dX12_underRoofs_15 (by decide) ?_
  refine ev_iload_n hC dX12_underRoofs_17 rfl 0 rfl ?_
  refine ev_iadd hC dX12_underRoofs_18 ?_
  refine ev_top (y := (nI 8)) ((nI_add _ _).trans (congrArg nI (by omega))) ?_
  refine ev_ialdN (i := 8) hC (mw 1 rfl) (by omega) (by omega) dX12_underRoofs_19 ?_
  refine ev_iload_n hC dX12_underRoofs_20 rfl 0 rfl ?_
  refine ev_ishl hC dX12_underRoofs_21 ?_
  refine ev_ior hC dX12_underRoofs_22 ?_
  refine ev_istore_n (lv' := [(1, .int ((nI 0) ||| ((S 8) <<< ((nI 0) &&& 31)))), (2, .int (nI 0)), (0, .ref (a 0))]) hC dX12_underRoofs_23 rfl (by decide) rfl ?_
  refine ev_iinc (v := (nI 1)) (lv' := [(2, .int (nI 1)), (1, .int ((nI 0) ||| ((S 8) <<< ((nI 0) &&& 31)))), (0, .ref (a 0))]) hC dX12_underRoofs_24 (q := 1) rfl (nI_k _ _ 1 (by decide)) (by decide) rfl ?_
  refine ev_goto (tgt := 4) hC dX12_underRoofs_27 (by decide) ?_
  refine ev_iload_n hC dX12_underRoofs_4 rfl 0 rfl ?_
  refine ev_bipush (v := (nI 6)) hC dX12_underRoofs_5 (by decide) ?_
  refine ev_icmp_geN (tgt := 30) hC dX12_underRoofs_7 (by decide) (by omega) (by omega) (fun c_2 => absurd c_2 (by omega)) (fun c_2 => ?_)
  refine ev_iload_n hC dX12_underRoofs_10 rfl 1 rfl ?_
  refine ev_aload_n hC dX12_underRoofs_11 rfl 2 rfl ?_
  refine ev_get hC fl_X12_9_12 (mw 0 rfl) rfl dX12_underRoofs_12 ?_
  refine ev_bipush (v := (nI 8)) hC dX12_underRoofs_15 (by decide) ?_
  refine ev_iload_n hC dX12_underRoofs_17 rfl 0 rfl ?_
  refine ev_iadd hC dX12_underRoofs_18 ?_
  refine ev_top (y := (nI 9)) ((nI_add _ _).trans (congrArg nI (by omega))) ?_
  refine ev_ialdN (i := 9) hC (mw 1 rfl) (by omega) (by omega) dX12_underRoofs_19 ?_
  refine ev_iload_n hC dX12_underRoofs_20 rfl 0 rfl ?_
  refine ev_ishl hC dX12_underRoofs_21 ?_
  refine ev_ior hC dX12_underRoofs_22 ?_
  refine ev_istore_n (lv' := [(1, .int (((nI 0) ||| ((S 8) <<< ((nI 0) &&& 31))) ||| ((S 9) <<< ((nI 1) &&& 31)))), (2, .int (nI 1)), (0, .ref (a 0))]) hC dX12_underRoofs_23 rfl (by decide) rfl ?_
  refine ev_iinc (v := (nI 2)) (lv' := [(2, .int (nI 2)), (1, .int (((nI 0) ||| ((S 8) <<< ((nI 0) &&& 31))) ||| ((S 9) <<< ((nI 1) &&& 31)))), (0, .ref (a 0))]) hC dX12_underRoofs_24 (q := 1) rfl (nI_k _ _ 1 (by decide)) (by decide) rfl ?_
  refine ev_goto (tgt := 4) hC dX12_underRoofs_27 (by decide) ?_
  refine ev_iload_n hC dX12_underRoofs_4 rfl 0 rfl ?_
  refine ev_bipush (v := (nI 6)) hC dX12_underRoofs_5 (by decide) ?_
  refine ev_icmp_geN (tgt := 30) hC dX12_underRoofs_7 (by decide) (by omega) (by omega) (fun c_3 => absurd c_3 (by omega)) (fun c_3 => ?_)
  refine ev_iload_n hC dX12_underRoofs_10 rfl 1 rfl ?_
  refine ev_aload_n hC dX12_underRoofs_11 rfl 2 rfl ?_
  refine ev_get hC fl_X12_9_12 (mw 0 rfl) rfl dX12_underRoofs_12 ?_
  refine ev_bipush (v := (nI 8)) hC dX12_underRoofs_15 (by decide) ?_
  refine ev_iload_n hC dX12_underRoofs_17 rfl 0 rfl ?_
  refine ev_iadd hC dX12_underRoofs_18 ?_
  refine ev_top (y := (nI 10)) ((nI_add _ _).trans (congrArg nI (by omega))) ?_
  refine ev_ialdN (i := 10) hC (mw 1 rfl) (by omega) (by omega) dX12_underRoofs_19 ?_
  refine ev_iload_n hC dX12_underRoofs_20 rfl 0 rfl ?_
  refine ev_ishl hC dX12_underRoofs_21 ?_
  refine ev_ior hC dX12_underRoofs_22 ?_
  refine ev_istore_n (lv' := [(1, .int ((((nI 0) ||| ((S 8) <<< ((nI 0) &&& 31))) ||| ((S 9) <<< ((nI 1) &&& 31))) ||| ((S 10) <<< ((nI 2) &&& 31)))), (2, .int (nI 2)), (0, .ref (a 0))]) hC dX12_underRoofs_23 rfl (by decide) rfl ?_
  refine ev_iinc (v := (nI 3)) (lv' := [(2, .int (nI 3)), (1, .int ((((nI 0) ||| ((S 8) <<< ((nI 0) &&& 31))) ||| ((S 9) <<< ((nI 1) &&& 31))) ||| ((S 10) <<< ((nI 2) &&& 31)))), (0, .ref (a 0))]) hC dX12_underRoofs_24 (q := 1) rfl (nI_k _ _ 1 (by decide)) (by decide) rfl ?_
  refine ev_goto (tgt := 4) hC dX12_underRoofs_27 (by decide) ?_
  refine ev_iload_n hC dX12_underRoofs_4 rfl 0 rfl ?_
  refine ev_bipush (v := (nI 6)) hC dX12_underRoofs_5 (by decide) ?_
  refine ev_icmp_geN (tgt := 30) hC dX12_underRoofs_7 (by decide) (by omega) (by omega) (fun c_4 => absurd c_4 (by omega)) (fun c_4 => ?_)
  refine ev_iload_n hC dX12_underRoofs_10 rfl 1 rfl ?_
  refine ev_aload_n hC dX12_underRoofs_11 rfl 2 rfl ?_
  refine ev_get hC fl_X12_9_12 (mw 0 rfl) rfl dX12_underRoofs_12 ?_
  refine ev_bipush (v := (nI 8)) hC dX12_underRoofs_15 (by decide) ?_
  refine ev_iload_n hC dX12_underRoofs_17 rfl 0 rfl ?_
  refine ev_iadd hC dX12_underRoofs_18 ?_
  refine ev_top (y := (nI 11)) ((nI_add _ _).trans (congrArg nI (by omega))) ?_
  refine ev_ialdN (i := 11) hC (mw 1 rfl) (by omega) (by omega) dX12_underRoofs_19 ?_
  refine ev_iload_n hC dX12_underRoofs_20 rfl 0 rfl ?_
  refine ev_ishl hC dX12_underRoofs_21 ?_
  refine ev_ior hC dX12_underRoofs_22 ?_
  refine ev_istore_n (lv' := [(1, .int (((((nI 0) ||| ((S 8) <<< ((nI 0) &&& 31))) ||| ((S 9) <<< ((nI 1) &&& 31))) ||| ((S 10) <<< ((nI 2) &&& 31))) ||| ((S 11) <<< ((nI 3) &&& 31)))), (2, .int (nI 3)), (0, .ref (a 0))]) hC dX12_underRoofs_23 rfl (by decide) rfl ?_
  refine ev_iinc (v := (nI 4)) (lv' := [(2, .int (nI 4)), (1, .int (((((nI 0) ||| ((S 8) <<< ((nI 0) &&& 31))) ||| ((S 9) <<< ((nI 1) &&& 31))) ||| ((S 10) <<< ((nI 2) &&& 31))) ||| ((S 11) <<< ((nI 3) &&& 31)))), (0, .ref (a 0))]) hC dX12_underRoofs_24 (q := 1) rfl (nI_k _ _ 1 (by decide)) (by decide) rfl ?_
  refine ev_goto (tgt := 4) hC dX12_underRoofs_27 (by decide) ?_
  refine ev_iload_n hC dX12_underRoofs_4 rfl 0 rfl ?_
  refine ev_bipush (v := (nI 6)) hC dX12_underRoofs_5 (by decide) ?_
  refine ev_icmp_geN (tgt := 30) hC dX12_underRoofs_7 (by decide) (by omega) (by omega) (fun c_5 => absurd c_5 (by omega)) (fun c_5 => ?_)
  refine ev_iload_n hC dX12_underRoofs_10 rfl 1 rfl ?_
  refine ev_aload_n hC dX12_underRoofs_11 rfl 2 rfl ?_
  refine ev_get hC fl_X12_9_12 (mw 0 rfl) rfl dX12_underRoofs_12 ?_
  refine ev_bipush (v := (nI 8)) hC dX12_underRoofs_15 (by decide) ?_
  refine ev_iload_n hC dX12_underRoofs_17 rfl 0 rfl ?_
  refine ev_iadd hC dX12_underRoofs_18 ?_
  refine ev_top (y := (nI 12)) ((nI_add _ _).trans (congrArg nI (by omega))) ?_
  refine ev_ialdN (i := 12) hC (mw 1 rfl) (by omega) (by omega) dX12_underRoofs_19 ?_
  refine ev_iload_n hC dX12_underRoofs_20 rfl 0 rfl ?_
  refine ev_ishl hC dX12_underRoofs_21 ?_
  refine ev_ior hC dX12_underRoofs_22 ?_
  refine ev_istore_n (lv' := [(1, .int ((((((nI 0) ||| ((S 8) <<< ((nI 0) &&& 31))) ||| ((S 9) <<< ((nI 1) &&& 31))) ||| ((S 10) <<< ((nI 2) &&& 31))) ||| ((S 11) <<< ((nI 3) &&& 31))) ||| ((S 12) <<< ((nI 4) &&& 31)))), (2, .int (nI 4)), (0, .ref (a 0))]) hC dX12_underRoofs_23 rfl (by decide) rfl ?_
  refine ev_iinc (v := (nI 5)) (lv' := [(2, .int (nI 5)), (1, .int ((((((nI 0) ||| ((S 8) <<< ((nI 0) &&& 31))) ||| ((S 9) <<< ((nI 1) &&& 31))) ||| ((S 10) <<< ((nI 2) &&& 31))) ||| ((S 11) <<< ((nI 3) &&& 31))) ||| ((S 12) <<< ((nI 4) &&& 31)))), (0, .ref (a 0))]) hC dX12_underRoofs_24 (q := 1) rfl (nI_k _ _ 1 (by decide)) (by decide) rfl ?_
  refine ev_goto (tgt := 4) hC dX12_underRoofs_27 (by decide) ?_
  refine ev_iload_n hC dX12_underRoofs_4 rfl 0 rfl ?_
  refine ev_bipush (v := (nI 6)) hC dX12_underRoofs_5 (by decide) ?_
  refine ev_icmp_geN (tgt := 30) hC dX12_underRoofs_7 (by decide) (by omega) (by omega) (fun c_6 => absurd c_6 (by omega)) (fun c_6 => ?_)
  refine ev_iload_n hC dX12_underRoofs_10 rfl 1 rfl ?_
  refine ev_aload_n hC dX12_underRoofs_11 rfl 2 rfl ?_
  refine ev_get hC fl_X12_9_12 (mw 0 rfl) rfl dX12_underRoofs_12 ?_
  refine ev_bipush (v := (nI 8)) hC dX12_underRoofs_15 (by decide) ?_
  refine ev_iload_n hC dX12_underRoofs_17 rfl 0 rfl ?_
  refine ev_iadd hC dX12_underRoofs_18 ?_
  refine ev_top (y := (nI 13)) ((nI_add _ _).trans (congrArg nI (by omega))) ?_
  refine ev_ialdN (i := 13) hC (mw 1 rfl) (by omega) (by omega) dX12_underRoofs_19 ?_
  refine ev_iload_n hC dX12_underRoofs_20 rfl 0 rfl ?_
  refine ev_ishl hC dX12_underRoofs_21 ?_
  refine ev_ior hC dX12_underRoofs_22 ?_
  refine ev_istore_n (lv' := [(1, .int (((((((nI 0) ||| ((S 8) <<< ((nI 0) &&& 31))) ||| ((S 9) <<< ((nI 1) &&& 31))) ||| ((S 10) <<< ((nI 2) &&& 31))) ||| ((S 11) <<< ((nI 3) &&& 31))) ||| ((S 12) <<< ((nI 4) &&& 31))) ||| ((S 13) <<< ((nI 5) &&& 31)))), (2, .int (nI 5)), (0, .ref (a 0))]) hC dX12_underRoofs_23 rfl (by decide) rfl ?_
  refine ev_iinc (v := (nI 6)) (lv' := [(2, .int (nI 6)), (1, .int (((((((nI 0) ||| ((S 8) <<< ((nI 0) &&& 31))) ||| ((S 9) <<< ((nI 1) &&& 31))) ||| ((S 10) <<< ((nI 2) &&& 31))) ||| ((S 11) <<< ((nI 3) &&& 31))) ||| ((S 12) <<< ((nI 4) &&& 31))) ||| ((S 13) <<< ((nI 5) &&& 31)))), (0, .ref (a 0))]) hC dX12_underRoofs_24 (q := 1) rfl (nI_k _ _ 1 (by decide)) (by decide) rfl ?_
  refine ev_goto (tgt := 4) hC dX12_underRoofs_27 (by decide) ?_
  refine ev_iload_n hC dX12_underRoofs_4 rfl 0 rfl ?_
  refine ev_bipush (v := (nI 6)) hC dX12_underRoofs_5 (by decide) ?_
  refine ev_icmp_geN (tgt := 30) hC dX12_underRoofs_7 (by decide) (by omega) (by omega) (fun c_7 => ?_) (fun c_7 => absurd c_7 (by omega))
  refine ev_iload_n hC dX12_underRoofs_30 rfl 1 rfl ?_
  refine ev_iret hC hR rfl dX12_underRoofs_31 ?_
  have e_8 : (bitF S) = (((((((nI 0) ||| ((S 8) <<< ((nI 0) &&& 31))) ||| ((S 9) <<< ((nI 1) &&& 31))) ||| ((S 10) <<< ((nI 2) &&& 31))) ||| ((S 11) <<< ((nI 3) &&& 31))) ||| ((S 12) <<< ((nI 4) &&& 31))) ||| ((S 13) <<< ((nI 5) &&& 31))) := by simp [bitF, *]
  exact ⟨(by rw [e_8]), rfl, rfl⟩

set_option maxHeartbeats 4000000 in
set_option maxRecDepth 100000 in
theorem m_X12_thinSide (G : GG) (ro : va_W) (a : Nat → Nat) (S I F B T R K D : Nat → Int32) (hI ac sp en iw op mu rd ra ki nu tv : Int32)  {DD EE : Nat} (hW : WF S DD EE) : Mth G M_X12_thinSide 0 0 0 [.ref (a 0)] (MW G a S I F B T R K D hI ac sp en iw op mu rd ra ki nu tv) ro (fun r ws' ro' => r = some (.int (nI (thinF S 5))) ∧ ws' = (MW G a S I F B T R K D hI ac sp en iw op mu rd ra ki nu tv) ∧ ro = ro') := by
  refine mth_of (by decide +kernel) (Nat.le_of_ble_eq_true rfl) (fun X hC hR => ?_)
  have b32 := hW.peo.le
  have b33 := hW.tre.le
  have b34 := hW.seen.le
  have b35 := hW.plan.le
  have b36 := hW.book.le
  have b37 := hW.tape.le
  show Ev G X 0 0 0 [(0, .ref (a 0))] [] (MW G a S I F B T R K D hI ac sp en iw op mu rd ra ki nu tv) ro
  refine ev_iconst (v := (nI 0)) hC dX12_thinSide_0 (by decide) ?_
  refine ev_istore_n (lv' := [(1, .int (nI 0)), (0, .ref (a 0))]) hC dX12_thinSide_1 rfl (by decide) rfl ?_
  refine ev_iconst (v := (nI 1)) hC dX12_thinSide_2 (by decide) ?_
  refine ev_istore_n (lv' := [(2, .int (nI 1)), (1, .int (nI 0)), (0, .ref (a 0))]) hC dX12_thinSide_3 rfl (by decide) rfl ?_
  have lp_4 : ∀ (n : Nat) (j : Nat) (b : Nat) (hj : j ≤ 5) (hb : b = thinF S j) (hn : 5 - j < n), Ev G X 0 0 4 [(0, .ref (a 0)), (1, .int (nI b)), (2, .int (nI (j + 1)))] [] (MW G a S I F B T R K D hI ac sp en iw op mu rd ra ki nu tv) ro := by
    intro n
    induction n with
    | zero => intro j b hj hb hn; exact absurd hn (Nat.not_lt_zero _)
    | succ n ih =>
      intro j b hj hb hn
      have hb6 := thinF_le S j
      refine ev_iload_n hC dX12_thinSide_4 rfl 2 rfl ?_
      refine ev_bipush (v := (nI 6)) hC dX12_thinSide_5 (by decide) ?_
      refine ev_icmp_geN (tgt := 41) hC dX12_thinSide_7 (by decide) (by omega) (by omega) (fun c_1 => ?_) (fun c_1 => ?_)
      · refine ev_iload_n hC dX12_thinSide_41 rfl 1 rfl ?_
        refine ev_iret hC hR rfl dX12_thinSide_42 ?_
        obtain rfl : j = 5 := by omega
        exact ⟨by rw [hb], rfl, rfl⟩
      · refine ev_aload_n hC dX12_thinSide_10 rfl 0 rfl ?_
        refine ev_get hC fl_X12_9_12 (mw 0 rfl) rfl dX12_thinSide_11 ?_
        refine ev_iconst (v := (nI 2)) hC dX12_thinSide_14 (by decide) ?_
        refine ev_iload_n hC dX12_thinSide_15 rfl 2 rfl ?_
        refine ev_iadd hC dX12_thinSide_16 ?_
        refine ev_top (y := (nI (j + 3))) ((nI_add _ _).trans (congrArg nI (by omega))) ?_
        refine ev_ialdN (i := j + 3) hC (mw 1 rfl) (by omega) (by omega) dX12_thinSide_17 ?_
        refine ev_aload_n hC dX12_thinSide_18 rfl 0 rfl ?_
        refine ev_get hC fl_X12_9_12 (mw 0 rfl) rfl dX12_thinSide_19 ?_
        refine ev_iconst (v := (nI 2)) hC dX12_thinSide_22 (by decide) ?_
        refine ev_iload_n hC dX12_thinSide_23 rfl 1 rfl ?_
        refine ev_iadd hC dX12_thinSide_24 ?_
        refine ev_top (y := (nI (2 + b))) ((nI_add _ _).trans (congrArg nI (by omega))) ?_
        refine ev_ialdN (i := 2 + b) hC (mw 1 rfl) (by omega) (by omega) dX12_thinSide_25 ?_
        refine ev_icmp_ge (tgt := 33) hC dX12_thinSide_26 (by decide) (fun c_2 => ?_) (fun c_2 => ?_)
        · refine ev_iload_n hC dX12_thinSide_33 rfl 1 rfl ?_
          refine ev_istore_n (lv' := [(1, .int (nI b)), (0, .ref (a 0)), (2, .int (nI (j + 1)))]) hC dX12_thinSide_34 rfl (by decide) rfl ?_
          refine ev_iinc (v := (nI (j + 2))) (lv' := [(2, .int (nI (j + 2))), (1, .int (nI b)), (0, .ref (a 0))]) hC dX12_thinSide_35 (q := 2) rfl (nI_k _ _ 1 (by decide)) (by decide) rfl ?_
          refine ev_goto (tgt := 4) hC dX12_thinSide_38 (by decide) ?_
          refine ev_lv [2, 1, 0] rfl ?_
          exact ih (j + 1) b (by omega) (by subst hb; simp only [thinF, ← Int32.not_le]; simp [show 2 + (j + 1) = j + 3 by omega, *]) (by omega)
        · refine ev_iload_n hC dX12_thinSide_29 rfl 2 rfl ?_
          refine ev_goto (tgt := 34) hC dX12_thinSide_30 (by decide) ?_
          refine ev_istore_n (lv' := [(1, .int (nI (j + 1))), (0, .ref (a 0)), (2, .int (nI (j + 1)))]) hC dX12_thinSide_34 rfl (by decide) rfl ?_
          refine ev_iinc (v := (nI (j + 2))) (lv' := [(2, .int (nI (j + 2))), (1, .int (nI (j + 1))), (0, .ref (a 0))]) hC dX12_thinSide_35 (q := 2) rfl (nI_k _ _ 1 (by decide)) (by decide) rfl ?_
          refine ev_goto (tgt := 4) hC dX12_thinSide_38 (by decide) ?_
          refine ev_lv [2, 1, 0] rfl ?_
          exact ih (j + 1) (j + 1) (by omega) (by subst hb; simp only [thinF, ← Int32.not_le]; simp [show 2 + (j + 1) = j + 3 by omega, *]) (by omega)
  refine ev_lv [2, 1, 0] rfl ?_
  exact lp_4 (5 - 0 + 1) 0 0 (by omega) rfl (Nat.lt_succ_self _)

set_option maxHeartbeats 4000000 in
set_option maxRecDepth 100000 in
theorem m_X12_hollow (G : GG) (ro : va_W) (a : Nat → Nat) (S I F B T R K D : Nat → Int32) (hI ac sp en iw op mu rd ra ki nu tv : Int32)  {DD EE : Nat} (hW : WF S DD EE) : Mth G M_X12_hollow 1 0 0 [.ref (a 0)] (MW G a S I F B T R K D hI ac sp en iw op mu rd ra ki nu tv) ro (fun r ws' ro' => r = some (.int (nI (thinF S 5))) ∧ ws' = (MW G a S I F B T R K D hI ac sp en iw op mu rd ra ki nu tv) ∧ ro = ro') := by
  refine mth_of (by decide +kernel) (Nat.le_of_ble_eq_true rfl) (fun X hC hR => ?_)
  have b32 := hW.peo.le
  have b33 := hW.tre.le
  have b34 := hW.seen.le
  have b35 := hW.plan.le
  have b36 := hW.book.le
  have b37 := hW.tape.le
  show Ev G X 0 0 0 [(0, .ref (a 0))] [] (MW G a S I F B T R K D hI ac sp en iw op mu rd ra ki nu tv) ro
  refine ev_aload_n hC dX12_hollow_0 rfl 0 rfl ?_
  refine ev_callV (As := []) (st := []) (wf := []) hC cv_X12_193 (m_X12_thinSide G ro a S I F B T R K D hI ac sp en iw op mu rd ra ki nu tv  hW) (by decide) rfl rfl (Nat.le_of_ble_eq_true rfl) (List.Perm.of_eq (List.append_nil _).symm) (mw 0 rfl) rfl dX12_hollow_1 (by decide) (by decide) ?_
  rintro _ _ _ ⟨rfl, rfl, rfl⟩
  refine ev_ws (List.append_nil _) ?_
  show Ev G X 0 0 4 [(0, .ref (a 0))] [.int (nI (thinF S 5))] (MW G a S I F B T R K D hI ac sp en iw op mu rd ra ki nu tv) ro
  refine ev_iret hC hR rfl dX12_hollow_4 ?_
  exact ⟨rfl, rfl, rfl⟩

set_option maxHeartbeats 4000000 in
set_option maxRecDepth 100000 in
theorem m_X12_told (G : GG) (ro : va_W) (a : Nat → Nat) (S I F B T R K D : Nat → Int32) (hI ac sp en iw op mu rd ra ki nu tv : Int32) (w : Int32) {DD EE : Nat} (hW : WF S DD EE) : Mth G M_X12_told 2 0 0 [.ref (a 0), .int w] (MW G a S I F B T R K D hI ac sp en iw op mu rd ra ki nu tv) ro (fun r ws' ro' => r = some (.int (toldR S w)) ∧ ws' = (MW G a S I F B T R K D hI ac sp en iw op mu rd ra ki nu tv) ∧ ro = ro') := by
  refine mth_of (by decide +kernel) (Nat.le_of_ble_eq_true rfl) (fun X hC hR => ?_)
  have b32 := hW.peo.le
  have b33 := hW.tre.le
  have b34 := hW.seen.le
  have b35 := hW.plan.le
  have b36 := hW.book.le
  have b37 := hW.tape.le
  show Ev G X 0 0 0 [(0, .ref (a 0)), (1, .int w)] [] (MW G a S I F B T R K D hI ac sp en iw op mu rd ra ki nu tv) ro
  refine ev_iload_n hC dX12_told_0 rfl 1 rfl ?_
  by_cases w_1_0 : w = nI 0
  · subst w_1_0
    refine ev_tabIn (off := 43) (tgt := 44) hC dX12_told_1 (by decide) (by decide) (by decide) (by decide) ?_
    refine ev_aload_n hC dX12_told_44 rfl 0 rfl ?_
    refine ev_get hC fl_X12_9_12 (mw 0 rfl) rfl dX12_told_45 ?_
    refine ev_iconst (v := (nI 0)) hC dX12_told_48 (by decide) ?_
    refine ev_ialdN (i := 0) hC (mw 1 rfl) (by omega) (by omega) dX12_told_49 ?_
    refine ev_iret hC hR rfl dX12_told_50 ?_
    have e_2 : (toldR S (nI 0)) = (S 0) := by simp [toldR, show (nI 1 = nI 0) = False from by decide, show (nI 2 = nI 0) = False from by decide, show (nI 2 = nI 1) = False from by decide, show (nI 3 = nI 0) = False from by decide, show (nI 3 = nI 1) = False from by decide, show (nI 3 = nI 2) = False from by decide, show (nI 4 = nI 0) = False from by decide, show (nI 4 = nI 1) = False from by decide, show (nI 4 = nI 2) = False from by decide, show (nI 4 = nI 3) = False from by decide, show (nI 5 = nI 0) = False from by decide, show (nI 5 = nI 1) = False from by decide, show (nI 5 = nI 2) = False from by decide, show (nI 5 = nI 3) = False from by decide, show (nI 5 = nI 4) = False from by decide, show (nI 6 = nI 0) = False from by decide, show (nI 6 = nI 1) = False from by decide, show (nI 6 = nI 2) = False from by decide, show (nI 6 = nI 3) = False from by decide, show (nI 6 = nI 4) = False from by decide, show (nI 6 = nI 5) = False from by decide, *]
    exact ⟨(by rw [e_2]), rfl, rfl⟩
  by_cases w_1_1 : w = nI 1
  · subst w_1_1
    refine ev_tabIn (off := 50) (tgt := 51) hC dX12_told_1 (by decide) (by decide) (by decide) (by decide) ?_
    refine ev_aload_n hC dX12_told_51 rfl 0 rfl ?_
    refine ev_callV (As := []) (st := []) (wf := []) hC cv_X12_156 (m_X12_rainNow G ro a S I F B T R K D hI ac sp en iw op mu rd ra ki nu tv  hW.hold) (by decide) rfl rfl (Nat.le_of_ble_eq_true rfl) (List.Perm.of_eq (List.append_nil _).symm) (mw 0 rfl) rfl dX12_told_52 (by decide) (by decide) ?_
    rintro _ _ _ ⟨rfl, rfl, rfl⟩
    refine ev_ws (List.append_nil _) ?_
    show Ev G X 0 0 55 [(0, .ref (a 0)), (1, .int (nI 1))] [.int (rainF S)] (MW G a S I F B T R K D hI ac sp en iw op mu rd ra ki nu tv) ro
    refine ev_iret hC hR rfl dX12_told_55 ?_
    have e_3 : (toldR S (nI 1)) = (rainF S) := by simp [toldR, show (nI 1 = nI 0) = False from by decide, show (nI 2 = nI 0) = False from by decide, show (nI 2 = nI 1) = False from by decide, show (nI 3 = nI 0) = False from by decide, show (nI 3 = nI 1) = False from by decide, show (nI 3 = nI 2) = False from by decide, show (nI 4 = nI 0) = False from by decide, show (nI 4 = nI 1) = False from by decide, show (nI 4 = nI 2) = False from by decide, show (nI 4 = nI 3) = False from by decide, show (nI 5 = nI 0) = False from by decide, show (nI 5 = nI 1) = False from by decide, show (nI 5 = nI 2) = False from by decide, show (nI 5 = nI 3) = False from by decide, show (nI 5 = nI 4) = False from by decide, show (nI 6 = nI 0) = False from by decide, show (nI 6 = nI 1) = False from by decide, show (nI 6 = nI 2) = False from by decide, show (nI 6 = nI 3) = False from by decide, show (nI 6 = nI 4) = False from by decide, show (nI 6 = nI 5) = False from by decide, *]
    exact ⟨(by rw [e_3]), rfl, rfl⟩
  by_cases w_1_2 : w = nI 2
  · subst w_1_2
    refine ev_tabIn (off := 55) (tgt := 56) hC dX12_told_1 (by decide) (by decide) (by decide) (by decide) ?_
    refine ev_aload_n hC dX12_told_56 rfl 0 rfl ?_
    refine ev_callV (As := []) (st := []) (wf := []) hC cv_X12_137 (m_X12_needNow G ro a S I F B T R K D hI ac sp en iw op mu rd ra ki nu tv  hW.hold) (by decide) rfl rfl (Nat.le_of_ble_eq_true rfl) (List.Perm.of_eq (List.append_nil _).symm) (mw 0 rfl) rfl dX12_told_57 (by decide) (by decide) ?_
    rintro _ _ _ ⟨rfl, rfl, rfl⟩
    refine ev_ws (List.append_nil _) ?_
    show Ev G X 0 0 60 [(0, .ref (a 0)), (1, .int (nI 2))] [.int (needF S)] (MW G a S I F B T R K D hI ac sp en iw op mu rd ra ki nu tv) ro
    refine ev_iret hC hR rfl dX12_told_60 ?_
    have e_4 : (toldR S (nI 2)) = (needF S) := by simp [toldR, show (nI 1 = nI 0) = False from by decide, show (nI 2 = nI 0) = False from by decide, show (nI 2 = nI 1) = False from by decide, show (nI 3 = nI 0) = False from by decide, show (nI 3 = nI 1) = False from by decide, show (nI 3 = nI 2) = False from by decide, show (nI 4 = nI 0) = False from by decide, show (nI 4 = nI 1) = False from by decide, show (nI 4 = nI 2) = False from by decide, show (nI 4 = nI 3) = False from by decide, show (nI 5 = nI 0) = False from by decide, show (nI 5 = nI 1) = False from by decide, show (nI 5 = nI 2) = False from by decide, show (nI 5 = nI 3) = False from by decide, show (nI 5 = nI 4) = False from by decide, show (nI 6 = nI 0) = False from by decide, show (nI 6 = nI 1) = False from by decide, show (nI 6 = nI 2) = False from by decide, show (nI 6 = nI 3) = False from by decide, show (nI 6 = nI 4) = False from by decide, show (nI 6 = nI 5) = False from by decide, *]
    exact ⟨(by rw [e_4]), rfl, rfl⟩
  by_cases w_1_3 : w = nI 3
  · subst w_1_3
    refine ev_tabIn (off := 60) (tgt := 61) hC dX12_told_1 (by decide) (by decide) (by decide) (by decide) ?_
    refine ev_aload_n hC dX12_told_61 rfl 0 rfl ?_
    refine ev_get hC fl_X12_9_12 (mw 0 rfl) rfl dX12_told_62 ?_
    refine ev_iconst (v := (nI 1)) hC dX12_told_65 (by decide) ?_
    refine ev_ialdN (i := 1) hC (mw 1 rfl) (by omega) (by omega) dX12_told_66 ?_
    refine ev_iret hC hR rfl dX12_told_67 ?_
    have e_5 : (toldR S (nI 3)) = (S 1) := by simp [toldR, show (nI 1 = nI 0) = False from by decide, show (nI 2 = nI 0) = False from by decide, show (nI 2 = nI 1) = False from by decide, show (nI 3 = nI 0) = False from by decide, show (nI 3 = nI 1) = False from by decide, show (nI 3 = nI 2) = False from by decide, show (nI 4 = nI 0) = False from by decide, show (nI 4 = nI 1) = False from by decide, show (nI 4 = nI 2) = False from by decide, show (nI 4 = nI 3) = False from by decide, show (nI 5 = nI 0) = False from by decide, show (nI 5 = nI 1) = False from by decide, show (nI 5 = nI 2) = False from by decide, show (nI 5 = nI 3) = False from by decide, show (nI 5 = nI 4) = False from by decide, show (nI 6 = nI 0) = False from by decide, show (nI 6 = nI 1) = False from by decide, show (nI 6 = nI 2) = False from by decide, show (nI 6 = nI 3) = False from by decide, show (nI 6 = nI 4) = False from by decide, show (nI 6 = nI 5) = False from by decide, *]
    exact ⟨(by rw [e_5]), rfl, rfl⟩
  by_cases w_1_4 : w = nI 4
  · subst w_1_4
    refine ev_tabIn (off := 67) (tgt := 68) hC dX12_told_1 (by decide) (by decide) (by decide) (by decide) ?_
    refine ev_aload_n hC dX12_told_68 rfl 0 rfl ?_
    refine ev_iconst (v := (nI 2)) hC dX12_told_69 (by decide) ?_
    refine ev_callV (As := [.int (nI 2)]) (st := []) (wf := []) hC cv_X12_159 (m_X12_sumOf G ro a S I F B T R K D hI ac sp en iw op mu rd ra ki nu tv 2 (by omega)) (by decide) rfl rfl (Nat.le_of_ble_eq_true rfl) (List.Perm.of_eq (List.append_nil _).symm) (mw 0 rfl) rfl dX12_told_70 (by decide) (by decide) ?_
    rintro _ _ _ ⟨rfl, rfl, rfl⟩
    refine ev_ws (List.append_nil _) ?_
    show Ev G X 0 0 73 [(0, .ref (a 0)), (1, .int (nI 4))] [.int (sum6 S 2)] (MW G a S I F B T R K D hI ac sp en iw op mu rd ra ki nu tv) ro
    refine ev_iret hC hR rfl dX12_told_73 ?_
    have e_6 : (toldR S (nI 4)) = (sum6 S 2) := by simp [toldR, show (nI 1 = nI 0) = False from by decide, show (nI 2 = nI 0) = False from by decide, show (nI 2 = nI 1) = False from by decide, show (nI 3 = nI 0) = False from by decide, show (nI 3 = nI 1) = False from by decide, show (nI 3 = nI 2) = False from by decide, show (nI 4 = nI 0) = False from by decide, show (nI 4 = nI 1) = False from by decide, show (nI 4 = nI 2) = False from by decide, show (nI 4 = nI 3) = False from by decide, show (nI 5 = nI 0) = False from by decide, show (nI 5 = nI 1) = False from by decide, show (nI 5 = nI 2) = False from by decide, show (nI 5 = nI 3) = False from by decide, show (nI 5 = nI 4) = False from by decide, show (nI 6 = nI 0) = False from by decide, show (nI 6 = nI 1) = False from by decide, show (nI 6 = nI 2) = False from by decide, show (nI 6 = nI 3) = False from by decide, show (nI 6 = nI 4) = False from by decide, show (nI 6 = nI 5) = False from by decide, *]
    exact ⟨(by rw [e_6]), rfl, rfl⟩
  by_cases w_1_5 : w = nI 5
  · subst w_1_5
    refine ev_tabIn (off := 73) (tgt := 74) hC dX12_told_1 (by decide) (by decide) (by decide) (by decide) ?_
    refine ev_aload_n hC dX12_told_74 rfl 0 rfl ?_
    refine ev_callV (As := []) (st := []) (wf := []) hC cv_X12_162 (m_X12_grudges G ro a S I F B T R K D hI ac sp en iw op mu rd ra ki nu tv  hW) (by decide) rfl rfl (Nat.le_of_ble_eq_true rfl) (List.Perm.of_eq (List.append_nil _).symm) (mw 0 rfl) rfl dX12_told_75 (by decide) (by decide) ?_
    rintro _ _ _ ⟨rfl, rfl, rfl⟩
    refine ev_ws (List.append_nil _) ?_
    show Ev G X 0 0 78 [(0, .ref (a 0)), (1, .int (nI 5))] [.int (gruF S (sn S 32))] (MW G a S I F B T R K D hI ac sp en iw op mu rd ra ki nu tv) ro
    refine ev_iret hC hR rfl dX12_told_78 ?_
    have e_7 : (toldR S (nI 5)) = (gruF S (sn S 32)) := by simp [toldR, show (nI 1 = nI 0) = False from by decide, show (nI 2 = nI 0) = False from by decide, show (nI 2 = nI 1) = False from by decide, show (nI 3 = nI 0) = False from by decide, show (nI 3 = nI 1) = False from by decide, show (nI 3 = nI 2) = False from by decide, show (nI 4 = nI 0) = False from by decide, show (nI 4 = nI 1) = False from by decide, show (nI 4 = nI 2) = False from by decide, show (nI 4 = nI 3) = False from by decide, show (nI 5 = nI 0) = False from by decide, show (nI 5 = nI 1) = False from by decide, show (nI 5 = nI 2) = False from by decide, show (nI 5 = nI 3) = False from by decide, show (nI 5 = nI 4) = False from by decide, show (nI 6 = nI 0) = False from by decide, show (nI 6 = nI 1) = False from by decide, show (nI 6 = nI 2) = False from by decide, show (nI 6 = nI 3) = False from by decide, show (nI 6 = nI 4) = False from by decide, show (nI 6 = nI 5) = False from by decide, *]
    exact ⟨(by rw [e_7]), rfl, rfl⟩
  by_cases w_1_6 : w = nI 6
  · subst w_1_6
    refine ev_tabIn (off := 78) (tgt := 79) hC dX12_told_1 (by decide) (by decide) (by decide) (by decide) ?_
    refine ev_aload_n hC dX12_told_79 rfl 0 rfl ?_
    refine ev_callV (As := []) (st := []) (wf := []) hC cv_X12_165 (m_X12_underRoofs G ro a S I F B T R K D hI ac sp en iw op mu rd ra ki nu tv  hW) (by decide) rfl rfl (Nat.le_of_ble_eq_true rfl) (List.Perm.of_eq (List.append_nil _).symm) (mw 0 rfl) rfl dX12_told_80 (by decide) (by decide) ?_
    rintro _ _ _ ⟨rfl, rfl, rfl⟩
    refine ev_ws (List.append_nil _) ?_
    show Ev G X 0 0 83 [(0, .ref (a 0)), (1, .int (nI 6))] [.int (bitF S)] (MW G a S I F B T R K D hI ac sp en iw op mu rd ra ki nu tv) ro
    refine ev_iret hC hR rfl dX12_told_83 ?_
    have e_8 : (toldR S (nI 6)) = (bitF S) := by simp [toldR, show (nI 1 = nI 0) = False from by decide, show (nI 2 = nI 0) = False from by decide, show (nI 2 = nI 1) = False from by decide, show (nI 3 = nI 0) = False from by decide, show (nI 3 = nI 1) = False from by decide, show (nI 3 = nI 2) = False from by decide, show (nI 4 = nI 0) = False from by decide, show (nI 4 = nI 1) = False from by decide, show (nI 4 = nI 2) = False from by decide, show (nI 4 = nI 3) = False from by decide, show (nI 5 = nI 0) = False from by decide, show (nI 5 = nI 1) = False from by decide, show (nI 5 = nI 2) = False from by decide, show (nI 5 = nI 3) = False from by decide, show (nI 5 = nI 4) = False from by decide, show (nI 6 = nI 0) = False from by decide, show (nI 6 = nI 1) = False from by decide, show (nI 6 = nI 2) = False from by decide, show (nI 6 = nI 3) = False from by decide, show (nI 6 = nI 4) = False from by decide, show (nI 6 = nI 5) = False from by decide, *]
    exact ⟨(by rw [e_8]), rfl, rfl⟩
  refine ev_tabOut (tgt := 84) hC dX12_told_1 (sw_out (lo := 0) (hi := 6) (fun j h1 h2 => ?_)) (by decide) ?_
  · intro e
    have hj : j = 0 ∨ j = 1 ∨ j = 2 ∨ j = 3 ∨ j = 4 ∨ j = 5 ∨ j = 6 := by omega
    rcases hj with rfl | rfl | rfl | rfl | rfl | rfl | rfl
    · exact w_1_0 (Int32.toInt_inj.mp (e.trans (by decide)))
    · exact w_1_1 (Int32.toInt_inj.mp (e.trans (by decide)))
    · exact w_1_2 (Int32.toInt_inj.mp (e.trans (by decide)))
    · exact w_1_3 (Int32.toInt_inj.mp (e.trans (by decide)))
    · exact w_1_4 (Int32.toInt_inj.mp (e.trans (by decide)))
    · exact w_1_5 (Int32.toInt_inj.mp (e.trans (by decide)))
    · exact w_1_6 (Int32.toInt_inj.mp (e.trans (by decide)))
  refine ev_iload_n hC dX12_told_84 rfl 1 rfl ?_
  refine ev_bipush (v := (nI 10)) hC dX12_told_85 (by decide) ?_
  refine ev_isub hC dX12_told_87 ?_
  refine ev_callS (As := [.int (w - (nI 10))]) (st := []) (wc := []) (wf := (MW G a S I F B T R K D hI ac sp en iw op mu rd ra ki nu tv)) hC ct_X12_143 (m_X12_isSide G ro (w - (nI 10))) (by decide) rfl rfl (Nat.le_of_ble_eq_true rfl) (List.Perm.refl _) dX12_told_88 (by decide) (by decide) ?_
  rintro _ _ _ ⟨rfl, rfl, rfl⟩
  refine ev_ws (List.nil_append _) ?_
  show Ev G X 0 0 91 [(0, .ref (a 0)), (1, .int w)] [.int (bI ((nI 0) ≤ (w - (nI 10)) ∧ (w - (nI 10)) ≤ (nI 5)))] (MW G a S I F B T R K D hI ac sp en iw op mu rd ra ki nu tv) ro
  refine ev_if_eqB (tgt := 108) hC dX12_told_91 (by decide) (fun c_9 => ?_) (fun c_9 => ?_)
  · refine ev_iconst (v := (-1)) hC dX12_told_108 (by decide) ?_
    refine ev_iret hC hR rfl dX12_told_109 ?_
    have e_10 : (toldR S w) = (-1) := by simp [toldR, show (nI 1 = nI 0) = False from by decide, show (nI 2 = nI 0) = False from by decide, show (nI 2 = nI 1) = False from by decide, show (nI 3 = nI 0) = False from by decide, show (nI 3 = nI 1) = False from by decide, show (nI 3 = nI 2) = False from by decide, show (nI 4 = nI 0) = False from by decide, show (nI 4 = nI 1) = False from by decide, show (nI 4 = nI 2) = False from by decide, show (nI 4 = nI 3) = False from by decide, show (nI 5 = nI 0) = False from by decide, show (nI 5 = nI 1) = False from by decide, show (nI 5 = nI 2) = False from by decide, show (nI 5 = nI 3) = False from by decide, show (nI 5 = nI 4) = False from by decide, show (nI 6 = nI 0) = False from by decide, show (nI 6 = nI 1) = False from by decide, show (nI 6 = nI 2) = False from by decide, show (nI 6 = nI 3) = False from by decide, show (nI 6 = nI 4) = False from by decide, show (nI 6 = nI 5) = False from by decide, *]
    exact ⟨(by rw [e_10]), rfl, rfl⟩
  · obtain ⟨k, hk, rfl⟩ := inSub (m := 5) (c := 10) (by omega) (by assumption)
    have hs : nI (k + 10) - nI 10 = nI k := pk_sub (by omega)
    have hpn : pn (nI k) = k := nI_clamp (by omega)
    have hk2 := nI_isN (m := 5) (k := k) (by omega) hk
    have hk3 : 2 + k = k + 2 := by omega
    refine ev_aload_n hC dX12_told_94 rfl 0 rfl ?_
    refine ev_get hC fl_X12_9_12 (mw 0 rfl) rfl dX12_told_95 ?_
    refine ev_iconst (v := (nI 2)) hC dX12_told_98 (by decide) ?_
    refine ev_iload_n hC dX12_told_99 rfl 1 rfl ?_
    refine ev_iadd hC dX12_told_100 ?_
    refine ev_top (y := (nI (k + 12))) ((nI_add _ _).trans (congrArg nI (by omega))) ?_
    refine ev_bipush (v := (nI 10)) hC dX12_told_101 (by decide) ?_
    refine ev_isub hC dX12_told_103 ?_
    refine ev_top (y := (nI (k + 2))) ((pk_sub (by omega)).trans (congrArg nI (by omega))) ?_
    refine ev_ialdN (i := k + 2) hC (mw 1 rfl) (by omega) (by omega) dX12_told_104 ?_
    refine ev_goto (tgt := 109) hC dX12_told_105 (by decide) ?_
    refine ev_iret hC hR rfl dX12_told_109 ?_
    have e_11 : (toldR S (nI (k + 10))) = (S (k + 2)) := by simp [toldR, show (nI 1 = nI 0) = False from by decide, show (nI 2 = nI 0) = False from by decide, show (nI 2 = nI 1) = False from by decide, show (nI 3 = nI 0) = False from by decide, show (nI 3 = nI 1) = False from by decide, show (nI 3 = nI 2) = False from by decide, show (nI 4 = nI 0) = False from by decide, show (nI 4 = nI 1) = False from by decide, show (nI 4 = nI 2) = False from by decide, show (nI 4 = nI 3) = False from by decide, show (nI 5 = nI 0) = False from by decide, show (nI 5 = nI 1) = False from by decide, show (nI 5 = nI 2) = False from by decide, show (nI 5 = nI 3) = False from by decide, show (nI 5 = nI 4) = False from by decide, show (nI 6 = nI 0) = False from by decide, show (nI 6 = nI 1) = False from by decide, show (nI 6 = nI 2) = False from by decide, show (nI 6 = nI 3) = False from by decide, show (nI 6 = nI 4) = False from by decide, show (nI 6 = nI 5) = False from by decide, *]
    exact ⟨(by rw [e_11]), rfl, rfl⟩

set_option maxHeartbeats 4000000 in
set_option maxRecDepth 100000 in
theorem m_X12_person (G : GG) (ro : va_W) (a : Nat → Nat) (S I F B T R K D : Nat → Int32) (hI ac sp en iw op mu rd ra ki nu tv : Int32) (k v s : Int32) {DD EE : Nat} (hW : WF S DD EE) : Mth G M_X12_person 2 0 0 [.ref (a 0), .int k, .int v, .int s] (MW G a S I F B T R K D hI ac sp en iw op mu rd ra ki nu tv) ro (fun r ws' ro' => r = some (.int (personR S k v s)) ∧ ws' = (MW G a (personT S k v s) I F B T R K D hI ac sp en iw op mu rd ra ki nu tv) ∧ ro = ro') := by
  refine mth_of (by decide +kernel) (Nat.le_of_ble_eq_true rfl) (fun X hC hR => ?_)
  have b32 := hW.peo.le
  have b33 := hW.tre.le
  have b34 := hW.seen.le
  have b35 := hW.plan.le
  have b36 := hW.book.le
  have b37 := hW.tape.le
  show Ev G X 0 0 0 [(0, .ref (a 0)), (1, .int k), (2, .int v), (3, .int s)] [] (MW G a S I F B T R K D hI ac sp en iw op mu rd ra ki nu tv) ro
  refine ev_iload_n hC dX12_person_0 rfl 1 rfl ?_
  refine ev_iconst (v := (nI 0)) hC dX12_person_1 (by decide) ?_
  refine ev_bipush (v := (nI 6)) hC dX12_person_2 (by decide) ?_
  refine ev_callS (As := [.int k, .int (nI 0), .int (nI 6)]) (st := []) (wc := []) (wf := (MW G a S I F B T R K D hI ac sp en iw op mu rd ra ki nu tv)) hC ct_X12_44 (m_X12_in G ro k (nI 0) (nI 6)) (by decide) rfl rfl (Nat.le_of_ble_eq_true rfl) (List.Perm.refl _) dX12_person_4 (by decide) (by decide) ?_
  rintro _ _ _ ⟨rfl, rfl, rfl⟩
  refine ev_ws (List.nil_append _) ?_
  show Ev G X 0 0 7 [(0, .ref (a 0)), (1, .int k), (2, .int v), (3, .int s)] [.int (bI ((nI 0) ≤ k ∧ k ≤ (nI 6)))] (MW G a S I F B T R K D hI ac sp en iw op mu rd ra ki nu tv) ro
  refine ev_if_eqB (tgt := 17) hC dX12_person_7 (by decide) (fun c_1 => ?_) (fun c_1 => ?_)
  · refine ev_iconst (v := (-1)) hC dX12_person_17 (by decide) ?_
    refine ev_iret hC hR rfl dX12_person_18 ?_
    have e_2 : (personT S k v s) = S := by simp [personR, personT, comesF, *]
    have e_3 : (personR S k v s) = (-1) := by simp [personR, personT, comesF, *]
    exact ⟨(by rw [e_3]), (by rw [e_2]), rfl⟩
  · refine ev_iload_n hC dX12_person_10 rfl 3 rfl ?_
    refine ev_callS (As := [.int s]) (st := []) (wc := []) (wf := (MW G a S I F B T R K D hI ac sp en iw op mu rd ra ki nu tv)) hC ct_X12_143 (m_X12_isSide G ro s) (by decide) rfl rfl (Nat.le_of_ble_eq_true rfl) (List.Perm.refl _) dX12_person_11 (by decide) (by decide) ?_
    rintro _ _ _ ⟨rfl, rfl, rfl⟩
    refine ev_ws (List.nil_append _) ?_
    show Ev G X 0 0 14 [(0, .ref (a 0)), (1, .int k), (2, .int v), (3, .int s)] [.int (bI ((nI 0) ≤ s ∧ s ≤ (nI 5)))] (MW G a S I F B T R K D hI ac sp en iw op mu rd ra ki nu tv) ro
    refine ev_if_neB (tgt := 19) hC dX12_person_14 (by decide) (fun c_4 => ?_) (fun c_4 => ?_)
    · refine ev_iload_n hC dX12_person_19 rfl 2 rfl ?_
      refine ev_iconst (v := (nI 0)) hC dX12_person_20 (by decide) ?_
      refine ev_bipush (v := (nI 9)) hC dX12_person_21 (by decide) ?_
      refine ev_callS (As := [.int v, .int (nI 0), .int (nI 9)]) (st := []) (wc := []) (wf := (MW G a S I F B T R K D hI ac sp en iw op mu rd ra ki nu tv)) hC ct_X12_44 (m_X12_in G ro v (nI 0) (nI 9)) (by decide) rfl rfl (Nat.le_of_ble_eq_true rfl) (List.Perm.refl _) dX12_person_23 (by decide) (by decide) ?_
      rintro _ _ _ ⟨rfl, rfl, rfl⟩
      refine ev_ws (List.nil_append _) ?_
      show Ev G X 0 0 26 [(0, .ref (a 0)), (1, .int k), (2, .int v), (3, .int s)] [.int (bI ((nI 0) ≤ v ∧ v ≤ (nI 9)))] (MW G a S I F B T R K D hI ac sp en iw op mu rd ra ki nu tv) ro
      refine ev_if_neB (tgt := 32) hC dX12_person_26 (by decide) (fun c_5 => ?_) (fun c_5 => ?_)
      · refine ev_aload_n hC dX12_person_32 rfl 0 rfl ?_
        refine ev_get hC fl_X12_9_12 (mw 0 rfl) rfl dX12_person_33 ?_
        refine ev_bipush (v := (nI 32)) hC dX12_person_36 (by decide) ?_
        refine ev_ialdN (i := 32) hC (mw 1 rfl) (by omega) (by omega) dX12_person_38 ?_
        have bk_6 : NB S 32 _ := hW.peo
        have k_6 := bk_6.eq
        have lk_6 := bk_6.le
        have mk_6 := bk_6.lt
        refine ev_top (y := (nI (sn S 32))) k_6 ?_
        refine ev_bipush (v := (nI 6)) hC dX12_person_39 (by decide) ?_
        refine ev_icmp_neN (tgt := 47) hC dX12_person_41 (by decide) (by omega) (by omega) (fun c_7 => ?_) (fun c_7 => ?_)
        · refine ev_aload_n hC dX12_person_47 rfl 0 rfl ?_
          refine ev_get hC fl_X12_9_12 (mw 0 rfl) rfl dX12_person_48 ?_
          refine ev_bipush (v := (nI 32)) hC dX12_person_51 (by decide) ?_
          refine ev_ialdN (i := 32) hC (mw 1 rfl) (by omega) (by omega) dX12_person_53 ?_
          have bk_8 : NB S 32 _ := hW.peo
          have k_8 := bk_8.eq
          have lk_8 := bk_8.le
          have mk_8 := bk_8.lt
          refine ev_top (y := (nI (sn S 32))) k_8 ?_
          refine ev_istore (lv' := [(4, .int (nI (sn S 32))), (0, .ref (a 0)), (1, .int k), (2, .int v), (3, .int s)]) hC dX12_person_54 (by decide) rfl ?_
          refine ev_aload_n hC dX12_person_56 rfl 1 rfl ?_
          refine ev_get hC fl_X12_9_12 (mw 0 rfl) rfl dX12_person_57 ?_
          refine ev_bipush (v := (nI 39)) hC dX12_person_60 (by decide) ?_
          refine ev_iload hC dX12_person_62 0 rfl ?_
          refine ev_iadd hC dX12_person_64 ?_
          refine ev_top (y := (nI (39 + (sn S 32)))) ((nI_add _ _).trans (congrArg nI (by omega))) ?_
          refine ev_iload_n hC dX12_person_65 rfl 2 rfl ?_
          refine ev_iastN (i := 39 + (sn S 32)) (ws' := (MW G a (upd S (39 + (sn S 32)) k) I F B T R K D hI ac sp en iw op mu rd ra ki nu tv)) (q0 := 1) hC rfl (by omega) (by omega) rfl dX12_person_66 ?_
          refine ev_aload_n hC dX12_person_67 rfl 1 rfl ?_
          refine ev_get hC fl_X12_9_12 (mw 0 rfl) rfl dX12_person_68 ?_
          refine ev_bipush (v := (nI 45)) hC dX12_person_71 (by decide) ?_
          refine ev_iload hC dX12_person_73 0 rfl ?_
          refine ev_iadd hC dX12_person_75 ?_
          refine ev_top (y := (nI (45 + (sn S 32)))) ((nI_add _ _).trans (congrArg nI (by omega))) ?_
          refine ev_iload_n hC dX12_person_76 rfl 3 rfl ?_
          refine ev_iastN (i := 45 + (sn S 32)) (ws' := (MW G a (upd (upd S (39 + (sn S 32)) k) (45 + (sn S 32)) v) I F B T R K D hI ac sp en iw op mu rd ra ki nu tv)) (q0 := 1) hC rfl (by omega) (by omega) rfl dX12_person_77 ?_
          refine ev_aload_n hC dX12_person_78 rfl 1 rfl ?_
          refine ev_get hC fl_X12_9_12 (mw 0 rfl) rfl dX12_person_79 ?_
          refine ev_bipush (v := (nI 14)) hC dX12_person_82 (by decide) ?_
          refine ev_iload hC dX12_person_84 0 rfl ?_
          refine ev_iadd hC dX12_person_86 ?_
          refine ev_top (y := (nI (14 + (sn S 32)))) ((nI_add _ _).trans (congrArg nI (by omega))) ?_
          refine ev_iload_n hC dX12_person_87 rfl 4 rfl ?_
          refine ev_iastN (i := 14 + (sn S 32)) (ws' := (MW G a (upd (upd (upd S (39 + (sn S 32)) k) (45 + (sn S 32)) v) (14 + (sn S 32)) s) I F B T R K D hI ac sp en iw op mu rd ra ki nu tv)) (q0 := 1) hC rfl (by omega) (by omega) rfl dX12_person_88 ?_
          refine ev_aload_n hC dX12_person_89 rfl 1 rfl ?_
          refine ev_get hC fl_X12_9_12 (mw 0 rfl) rfl dX12_person_90 ?_
          refine ev_bipush (v := (nI 20)) hC dX12_person_93 (by decide) ?_
          refine ev_iload hC dX12_person_95 0 rfl ?_
          refine ev_iadd hC dX12_person_97 ?_
          refine ev_top (y := (nI (20 + (sn S 32)))) ((nI_add _ _).trans (congrArg nI (by omega))) ?_
          refine ev_iconst (v := (nI 0)) hC dX12_person_98 (by decide) ?_
          refine ev_iastN (i := 20 + (sn S 32)) (ws' := (MW G a (upd (upd (upd (upd S (39 + (sn S 32)) k) (45 + (sn S 32)) v) (14 + (sn S 32)) s) (20 + (sn S 32)) (nI 0)) I F B T R K D hI ac sp en iw op mu rd ra ki nu tv)) (q0 := 1) hC rfl (by omega) (by omega) rfl dX12_person_99 ?_
          refine ev_aload_n hC dX12_person_100 rfl 1 rfl ?_
          refine ev_get hC fl_X12_9_12 (mw 0 rfl) rfl dX12_person_101 ?_
          refine ev_bipush (v := (nI 26)) hC dX12_person_104 (by decide) ?_
          refine ev_iload hC dX12_person_106 0 rfl ?_
          refine ev_iadd hC dX12_person_108 ?_
          refine ev_top (y := (nI (26 + (sn S 32)))) ((nI_add _ _).trans (congrArg nI (by omega))) ?_
          refine ev_iconst (v := (nI 0)) hC dX12_person_109 (by decide) ?_
          refine ev_iastN (i := 26 + (sn S 32)) (ws' := (MW G a (upd (upd (upd (upd (upd S (39 + (sn S 32)) k) (45 + (sn S 32)) v) (14 + (sn S 32)) s) (20 + (sn S 32)) (nI 0)) (26 + (sn S 32)) (nI 0)) I F B T R K D hI ac sp en iw op mu rd ra ki nu tv)) (q0 := 1) hC rfl (by omega) (by omega) rfl dX12_person_110 ?_
          refine ev_iconst (v := (nI 0)) hC dX12_person_111 (by decide) ?_
          refine ev_istore (lv' := [(5, .int (nI 0)), (4, .int (nI (sn S 32))), (0, .ref (a 0)), (1, .int k), (2, .int v), (3, .int s)]) hC dX12_person_112 (by decide) rfl ?_
          refine ev_iload hC dX12_person_114 0 rfl ?_
          refine ev_iconst (v := (nI 4)) hC dX12_person_116 (by decide) ?_
          refine ev_icmp_geN (tgt := 142) hC dX12_person_117 (by decide) (by omega) (by omega) (fun c_9 => absurd c_9 (by omega)) (fun c_9 => ?_)
          refine ev_aload_n hC dX12_person_120 rfl 2 rfl ?_
          refine ev_get hC fl_X12_9_12 (mw 0 rfl) rfl dX12_person_121 ?_
          refine ev_bipush (v := (nI 51)) hC dX12_person_124 (by decide) ?_
          refine ev_iconst (v := (nI 4)) hC dX12_person_126 (by decide) ?_
          refine ev_iload hC dX12_person_127 1 rfl ?_
          refine ev_imul hC dX12_person_129 ?_
          refine ev_top (y := (nI (4 * (sn S 32)))) (pk_mul _ _) ?_
          refine ev_iadd hC dX12_person_130 ?_
          refine ev_top (y := (nI (51 + (4 * (sn S 32))))) ((nI_add _ _).trans (congrArg nI (by omega))) ?_
          refine ev_iload hC dX12_person_131 0 rfl ?_
          refine ev_iadd hC dX12_person_133 ?_
          refine ev_top (y := (nI (51 + (4 * (sn S 32))))) ((nI_add _ _).trans (congrArg nI (by omega))) ?_
          refine ev_iconst (v := (nI 0)) hC dX12_person_134 (by decide) ?_
          refine ev_iastN (i := 51 + (4 * (sn S 32))) (ws' := (MW G a (upd (upd (upd (upd (upd (upd S (39 + (sn S 32)) k) (45 + (sn S 32)) v) (14 + (sn S 32)) s) (20 + (sn S 32)) (nI 0)) (26 + (sn S 32)) (nI 0)) (51 + (4 * (sn S 32))) (nI 0)) I F B T R K D hI ac sp en iw op mu rd ra ki nu tv)) (q0 := 1) hC rfl (by omega) (by omega) rfl dX12_person_135 ?_
          refine ev_iinc (v := (nI 1)) (lv' := [(5, .int (nI 1)), (4, .int (nI (sn S 32))), (0, .ref (a 0)), (1, .int k), (2, .int v), (3, .int s)]) hC dX12_person_136 (q := 0) rfl (nI_k _ _ 1 (by decide)) (by decide) rfl ?_
          refine ev_goto (tgt := 114) hC dX12_person_139 (by decide) ?_
          refine ev_iload hC dX12_person_114 0 rfl ?_
          refine ev_iconst (v := (nI 4)) hC dX12_person_116 (by decide) ?_
          refine ev_icmp_geN (tgt := 142) hC dX12_person_117 (by decide) (by omega) (by omega) (fun c_10 => absurd c_10 (by omega)) (fun c_10 => ?_)
          refine ev_aload_n hC dX12_person_120 rfl 2 rfl ?_
          refine ev_get hC fl_X12_9_12 (mw 0 rfl) rfl dX12_person_121 ?_
          refine ev_bipush (v := (nI 51)) hC dX12_person_124 (by decide) ?_
          refine ev_iconst (v := (nI 4)) hC dX12_person_126 (by decide) ?_
          refine ev_iload hC dX12_person_127 1 rfl ?_
          refine ev_imul hC dX12_person_129 ?_
          refine ev_top (y := (nI (4 * (sn S 32)))) (pk_mul _ _) ?_
          refine ev_iadd hC dX12_person_130 ?_
          refine ev_top (y := (nI (51 + (4 * (sn S 32))))) ((nI_add _ _).trans (congrArg nI (by omega))) ?_
          refine ev_iload hC dX12_person_131 0 rfl ?_
          refine ev_iadd hC dX12_person_133 ?_
          refine ev_top (y := (nI ((51 + (4 * (sn S 32))) + 1))) ((nI_add _ _).trans (congrArg nI (by omega))) ?_
          refine ev_iconst (v := (nI 0)) hC dX12_person_134 (by decide) ?_
          refine ev_iastN (i := (51 + (4 * (sn S 32))) + 1) (ws' := (MW G a (upd (upd (upd (upd (upd (upd (upd S (39 + (sn S 32)) k) (45 + (sn S 32)) v) (14 + (sn S 32)) s) (20 + (sn S 32)) (nI 0)) (26 + (sn S 32)) (nI 0)) (51 + (4 * (sn S 32))) (nI 0)) ((51 + (4 * (sn S 32))) + 1) (nI 0)) I F B T R K D hI ac sp en iw op mu rd ra ki nu tv)) (q0 := 1) hC rfl (by omega) (by omega) rfl dX12_person_135 ?_
          refine ev_iinc (v := (nI 2)) (lv' := [(5, .int (nI 2)), (4, .int (nI (sn S 32))), (0, .ref (a 0)), (1, .int k), (2, .int v), (3, .int s)]) hC dX12_person_136 (q := 0) rfl (nI_k _ _ 1 (by decide)) (by decide) rfl ?_
          refine ev_goto (tgt := 114) hC dX12_person_139 (by decide) ?_
          refine ev_iload hC dX12_person_114 0 rfl ?_
          refine ev_iconst (v := (nI 4)) hC dX12_person_116 (by decide) ?_
          refine ev_icmp_geN (tgt := 142) hC dX12_person_117 (by decide) (by omega) (by omega) (fun c_11 => absurd c_11 (by omega)) (fun c_11 => ?_)
          refine ev_aload_n hC dX12_person_120 rfl 2 rfl ?_
          refine ev_get hC fl_X12_9_12 (mw 0 rfl) rfl dX12_person_121 ?_
          refine ev_bipush (v := (nI 51)) hC dX12_person_124 (by decide) ?_
          refine ev_iconst (v := (nI 4)) hC dX12_person_126 (by decide) ?_
          refine ev_iload hC dX12_person_127 1 rfl ?_
          refine ev_imul hC dX12_person_129 ?_
          refine ev_top (y := (nI (4 * (sn S 32)))) (pk_mul _ _) ?_
          refine ev_iadd hC dX12_person_130 ?_
          refine ev_top (y := (nI (51 + (4 * (sn S 32))))) ((nI_add _ _).trans (congrArg nI (by omega))) ?_
          refine ev_iload hC dX12_person_131 0 rfl ?_
          refine ev_iadd hC dX12_person_133 ?_
          refine ev_top (y := (nI ((51 + (4 * (sn S 32))) + 2))) ((nI_add _ _).trans (congrArg nI (by omega))) ?_
          refine ev_iconst (v := (nI 0)) hC dX12_person_134 (by decide) ?_
          refine ev_iastN (i := (51 + (4 * (sn S 32))) + 2) (ws' := (MW G a (upd (upd (upd (upd (upd (upd (upd (upd S (39 + (sn S 32)) k) (45 + (sn S 32)) v) (14 + (sn S 32)) s) (20 + (sn S 32)) (nI 0)) (26 + (sn S 32)) (nI 0)) (51 + (4 * (sn S 32))) (nI 0)) ((51 + (4 * (sn S 32))) + 1) (nI 0)) ((51 + (4 * (sn S 32))) + 2) (nI 0)) I F B T R K D hI ac sp en iw op mu rd ra ki nu tv)) (q0 := 1) hC rfl (by omega) (by omega) rfl dX12_person_135 ?_
          refine ev_iinc (v := (nI 3)) (lv' := [(5, .int (nI 3)), (4, .int (nI (sn S 32))), (0, .ref (a 0)), (1, .int k), (2, .int v), (3, .int s)]) hC dX12_person_136 (q := 0) rfl (nI_k _ _ 1 (by decide)) (by decide) rfl ?_
          refine ev_goto (tgt := 114) hC dX12_person_139 (by decide) ?_
          refine ev_iload hC dX12_person_114 0 rfl ?_
          refine ev_iconst (v := (nI 4)) hC dX12_person_116 (by decide) ?_
          refine ev_icmp_geN (tgt := 142) hC dX12_person_117 (by decide) (by omega) (by omega) (fun c_12 => absurd c_12 (by omega)) (fun c_12 => ?_)
          refine ev_aload_n hC dX12_person_120 rfl 2 rfl ?_
          refine ev_get hC fl_X12_9_12 (mw 0 rfl) rfl dX12_person_121 ?_
          refine ev_bipush (v := (nI 51)) hC dX12_person_124 (by decide) ?_
          refine ev_iconst (v := (nI 4)) hC dX12_person_126 (by decide) ?_
          refine ev_iload hC dX12_person_127 1 rfl ?_
          refine ev_imul hC dX12_person_129 ?_
          refine ev_top (y := (nI (4 * (sn S 32)))) (pk_mul _ _) ?_
          refine ev_iadd hC dX12_person_130 ?_
          refine ev_top (y := (nI (51 + (4 * (sn S 32))))) ((nI_add _ _).trans (congrArg nI (by omega))) ?_
          refine ev_iload hC dX12_person_131 0 rfl ?_
          refine ev_iadd hC dX12_person_133 ?_
          refine ev_top (y := (nI ((51 + (4 * (sn S 32))) + 3))) ((nI_add _ _).trans (congrArg nI (by omega))) ?_
          refine ev_iconst (v := (nI 0)) hC dX12_person_134 (by decide) ?_
          refine ev_iastN (i := (51 + (4 * (sn S 32))) + 3) (ws' := (MW G a (upd (upd (upd (upd (upd (upd (upd (upd (upd S (39 + (sn S 32)) k) (45 + (sn S 32)) v) (14 + (sn S 32)) s) (20 + (sn S 32)) (nI 0)) (26 + (sn S 32)) (nI 0)) (51 + (4 * (sn S 32))) (nI 0)) ((51 + (4 * (sn S 32))) + 1) (nI 0)) ((51 + (4 * (sn S 32))) + 2) (nI 0)) ((51 + (4 * (sn S 32))) + 3) (nI 0)) I F B T R K D hI ac sp en iw op mu rd ra ki nu tv)) (q0 := 1) hC rfl (by omega) (by omega) rfl dX12_person_135 ?_
          refine ev_iinc (v := (nI 4)) (lv' := [(5, .int (nI 4)), (4, .int (nI (sn S 32))), (0, .ref (a 0)), (1, .int k), (2, .int v), (3, .int s)]) hC dX12_person_136 (q := 0) rfl (nI_k _ _ 1 (by decide)) (by decide) rfl ?_
          refine ev_goto (tgt := 114) hC dX12_person_139 (by decide) ?_
          refine ev_iload hC dX12_person_114 0 rfl ?_
          refine ev_iconst (v := (nI 4)) hC dX12_person_116 (by decide) ?_
          refine ev_icmp_geN (tgt := 142) hC dX12_person_117 (by decide) (by omega) (by omega) (fun c_13 => ?_) (fun c_13 => absurd c_13 (by omega))
          refine ev_aload_n hC dX12_person_142 rfl 2 rfl ?_
          refine ev_get hC fl_X12_9_12 (mw 0 rfl) rfl dX12_person_143 ?_
          refine ev_bipush (v := (nI 32)) hC dX12_person_146 (by decide) ?_
          refine ev_dup2 hC dX12_person_148 rfl rfl ?_
          refine ev_ialdN (i := 32) hC (mw 1 rfl) (by omega) (by omega) dX12_person_149 ?_
          refine ev_top (y := ((upd (upd (upd (upd (upd (upd (upd (upd S (39 + (sn S 32)) k) (45 + (sn S 32)) v) (14 + (sn S 32)) s) (20 + (sn S 32)) (nI 0)) (26 + (sn S 32)) (nI 0)) (51 + (4 * (sn S 32))) (nI 0)) ((51 + (4 * (sn S 32))) + 1) (nI 0)) ((51 + (4 * (sn S 32))) + 2) (nI 0)) 32)) (if_neg (by omega)) ?_
          refine ev_top (y := ((upd (upd (upd (upd (upd (upd (upd S (39 + (sn S 32)) k) (45 + (sn S 32)) v) (14 + (sn S 32)) s) (20 + (sn S 32)) (nI 0)) (26 + (sn S 32)) (nI 0)) (51 + (4 * (sn S 32))) (nI 0)) ((51 + (4 * (sn S 32))) + 1) (nI 0)) 32)) (if_neg (by omega)) ?_
          refine ev_top (y := ((upd (upd (upd (upd (upd (upd S (39 + (sn S 32)) k) (45 + (sn S 32)) v) (14 + (sn S 32)) s) (20 + (sn S 32)) (nI 0)) (26 + (sn S 32)) (nI 0)) (51 + (4 * (sn S 32))) (nI 0)) 32)) (if_neg (by omega)) ?_
          refine ev_top (y := ((upd (upd (upd (upd (upd S (39 + (sn S 32)) k) (45 + (sn S 32)) v) (14 + (sn S 32)) s) (20 + (sn S 32)) (nI 0)) (26 + (sn S 32)) (nI 0)) 32)) (if_neg (by omega)) ?_
          refine ev_top (y := ((upd (upd (upd (upd S (39 + (sn S 32)) k) (45 + (sn S 32)) v) (14 + (sn S 32)) s) (20 + (sn S 32)) (nI 0)) 32)) (if_neg (by omega)) ?_
          refine ev_top (y := ((upd (upd (upd S (39 + (sn S 32)) k) (45 + (sn S 32)) v) (14 + (sn S 32)) s) 32)) (if_neg (by omega)) ?_
          refine ev_top (y := ((upd (upd S (39 + (sn S 32)) k) (45 + (sn S 32)) v) 32)) (if_neg (by omega)) ?_
          refine ev_top (y := ((upd S (39 + (sn S 32)) k) 32)) (if_neg (by omega)) ?_
          refine ev_top (y := (S 32)) (if_neg (by omega)) ?_
          have bk_14 : NB S 32 _ := hW.peo
          have k_14 := bk_14.eq
          have lk_14 := bk_14.le
          have mk_14 := bk_14.lt
          refine ev_top (y := (nI (sn S 32))) k_14 ?_
          refine ev_iconst (v := (nI 1)) hC dX12_person_150 (by decide) ?_
          refine ev_iadd hC dX12_person_151 ?_
          refine ev_top (y := (nI (sn S 32 + 1))) ((nI_add _ _).trans (congrArg nI (by omega))) ?_
          refine ev_iastN (i := 32) (ws' := (MW G a (upd (upd (upd (upd (upd (upd (upd (upd (upd (upd S (39 + (sn S 32)) k) (45 + (sn S 32)) v) (14 + (sn S 32)) s) (20 + (sn S 32)) (nI 0)) (26 + (sn S 32)) (nI 0)) (51 + (4 * (sn S 32))) (nI 0)) ((51 + (4 * (sn S 32))) + 1) (nI 0)) ((51 + (4 * (sn S 32))) + 2) (nI 0)) ((51 + (4 * (sn S 32))) + 3) (nI 0)) 32 (nI (sn S 32 + 1))) I F B T R K D hI ac sp en iw op mu rd ra ki nu tv)) (q0 := 1) hC rfl (by omega) (by omega) rfl dX12_person_152 ?_
          refine ev_iload hC dX12_person_153 1 rfl ?_
          refine ev_iret hC hR rfl dX12_person_155 ?_
          have e_15 : (personT S k v s) = (upd (upd (upd (upd (upd (upd (upd (upd (upd (upd S (39 + (sn S 32)) k) (45 + (sn S 32)) v) (14 + (sn S 32)) s) (20 + (sn S 32)) (nI 0)) (26 + (sn S 32)) (nI 0)) (51 + (4 * (sn S 32))) (nI 0)) ((51 + (4 * (sn S 32))) + 1) (nI 0)) ((51 + (4 * (sn S 32))) + 2) (nI 0)) ((51 + (4 * (sn S 32))) + 3) (nI 0)) 32 (nI (sn S 32 + 1))) := by simp [personR, personT, comesF, *]
          have e_16 : (personR S k v s) = (nI (sn S 32)) := by simp [personR, personT, comesF, *]
          exact ⟨(by rw [e_16]), (by rw [e_15]), rfl⟩
        · refine ev_bipush (v := (-4)) hC dX12_person_44 (by decide) ?_
          refine ev_iret hC hR rfl dX12_person_46 ?_
          have e_17 : (personT S k v s) = S := by simp [personR, personT, comesF, *]
          have e_18 : (personR S k v s) = (-4) := by simp [personR, personT, comesF, *]
          exact ⟨(by rw [e_18]), (by rw [e_17]), rfl⟩
      · refine ev_bipush (v := (-2)) hC dX12_person_29 (by decide) ?_
        refine ev_iret hC hR rfl dX12_person_31 ?_
        have e_19 : (personT S k v s) = S := by simp [personR, personT, comesF, *]
        have e_20 : (personR S k v s) = (-2) := by simp [personR, personT, comesF, *]
        exact ⟨(by rw [e_20]), (by rw [e_19]), rfl⟩
    · refine ev_iconst (v := (-1)) hC dX12_person_17 (by decide) ?_
      refine ev_iret hC hR rfl dX12_person_18 ?_
      have e_21 : (personT S k v s) = S := by simp [personR, personT, comesF, *]
      have e_22 : (personR S k v s) = (-1) := by simp [personR, personT, comesF, *]
      exact ⟨(by rw [e_22]), (by rw [e_21]), rfl⟩
