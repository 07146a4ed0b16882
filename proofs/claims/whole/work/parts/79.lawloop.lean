/-! THE LAW: its loop, its body -/
theorem ini_0 {j : Nat} (h1 : j ≠ 38) (h2 : ¬ (2 ≤ j ∧ j < 8)) : iniF j = nI 0 := (if_neg h1).trans (if_neg h2)
theorem ini_s {j : Nat} (h2 : 2 ≤ j ∧ j < 8) : iniF j = nI 100 := (if_neg (by omega)).trans (if_pos h2)
theorem ite_le' {p : Prop} {dp : Decidable p} {x y n : Nat} (hx : x ≤ n) (hy : y ≤ n) : @ite Nat p dp x y ≤ n := by
  cases dp with
  | isTrue h => rw [if_pos h]; exact hx
  | isFalse h => rw [if_neg h]; exact hy
theorem bd_le (j : Nat) : bd 9999 9999 j ≤ 9999 := by
  unfold bd
  refine ite_le' (by omega) ?_
  refine ite_le' (by omega) ?_
  refine ite_le' (by omega) ?_
  refine ite_le' (by omega) ?_
  refine ite_le' (by omega) ?_
  refine ite_le' (by omega) ?_
  refine ite_le' (by omega) ?_
  refine ite_le' (by omega) ?_
  refine ite_le' (by omega) ?_
  refine ite_le' (by omega) ?_
  refine ite_le' (by omega) ?_
  refine ite_le' (by omega) ?_
  refine ite_le' (by omega) ?_
  refine ite_le' (by omega) ?_
  refine ite_le' (by omega) ?_
  refine ite_le' (by omega) ?_
  refine ite_le' (by omega) ?_
  refine ite_le' (by omega) ?_
  refine ite_le' (by omega) ?_
  omega
theorem ini_wf : WF iniF 9999 9999 := by
  refine WF.of_bd (fun j hj => ?_) (fun k hk => ?_) (Or.inl (if_pos rfl))
  · have hb := bd_le j
    by_cases c : 2 ≤ j ∧ j < 8
    · refine NB.of (k := 100) (by omega) ?_ (ini_s c)
      rw [bd_salt 9999 9999 c.1 c.2]
      omega
    · exact NB.of (k := 0) (by omega) (Nat.zero_le _) (ini_0 hj.2.1 c)
  · have e : iniF (90 + k) = nI 0 := ini_0 (by omega) (by omega)
    refine ⟨fun h => ?_, fun h => ?_⟩
    · rcases h with h | h
      · exact absurd (nI_inj (by omega) (by omega) (e.symm.trans h)) (by omega)
      · exact absurd (nI_inj (by omega) (by omega) (e.symm.trans h)) (by omega)
    · exact absurd (nI_inj (by omega) (by omega) (e.symm.trans h)) (by omega)
theorem ini_c {j : Nat} (h1 : j ≠ 38) (h2 : ¬ (2 ≤ j ∧ j < 8)) : 0 = sn iniF j := (sn_of (by omega) (ini_0 h1 h2)).symm
theorem rw_eq {G : GG} {r : Nat → Nat} {n : Nat} {f1 f1' f2 f2' f3 f3' g1 g1' g2 g2' g3 g3' : Nat → Int32} {c c' gc gc' : Int32} (h1 : f1 = f1') (h2 : f2 = f2') (h3 : f3 = f3') (h4 : c = c') (h5 : g1 = g1') (h6 : g2 = g2') (h7 : g3 = g3') (h8 : gc = gc') : RW G r n f1 f2 f3 c g1 g2 g3 gc = RW G r n f1' f2' f3' c' g1' g2' g3' gc' := by
  rw [h1, h2, h3, h4, h5, h6, h7, h8]
set_option maxHeartbeats 8000000 in
set_option maxRecDepth 100000 in
theorem law_loop {G : GG} {X : Cx} (hC : Cok G M_L_law 30 X) (x sA NN : Nat) (r1 r2 r3 r4 r5 d b1 b2 b3 a : Nat → Nat) (f : Nat → Int32) (hX : Scr G X sA NN f) (hN : NN ≤ 2048) (hE : ∀ (bc bs : Nat) (lv : List (Nat × Value)) (ws ro : va_W), Ev G X bc bs 1350 lv [] ws ro) : ∀ (n i : Nat), i ≤ NN → NN ≤ i + 4 * n + 3 → LGo G X x sA NN r1 r2 r3 r4 r5 d b1 b2 b3 a f i (10 * n) (400 * n) := by
  intro n
  induction n with
  | zero =>
    intro i hi hn
    intro ro S K T I F B TT R KK D tk le tk2 le2 tk3 le3 a2 a3 ag2 ag3 p3 pg3 k3 bg3 q2 q3 g1 g2 g3 sg am en sp os os2 os3 t t2 t3 rn hI gc sz ap ju sd rr nd wa wa2 wa3 st2 st3 ac spp eni iw op rd ki nu tv hW hO hr hK
    show Ev G X (10 * 0) (400 * 0) 18 [(3, .int (nI i)), (2, .ref (a 0)), (1, .ref x), (0, .ref sA)] [] (List.flatten [SP x r1 r2 r3 r4 r5 d b1 b2 b3 hI, RW G r1 100 (vwn S 122 100) a2 a3 (nI (sn S 37)) (vwn K 122 100) ag2 ag3 (nI (sn K 37)), RW G r2 5 (vwn S 75 5) (vwn S 80 5) (vwn S 85 5) (nI (sn S 34)) (vwn K 75 5) (vwn K 80 5) (vwn K 85 5) (nI (sn K 34)), RW G r3 8 (vwn S 90 8) (vwn S 98 8) p3 (nI (sn S 35)) (vwn K 90 8) (vwn K 98 8) pg3 (nI (sn K 35)), RW G r4 8 (vwn S 106 8) (vwn S 114 8) k3 (nI (sn S 36)) (vwn K 106 8) (vwn K 114 8) bg3 (nI (sn K 36)), RW G r5 20 D q2 q3 (nI rn) g1 g2 g3 gc, RD G d sg am en sp sz ap ju sd rr nd, MO G b1 (vwn S 2 6) tk os (vwn S 14 6) (vwn S 20 6) (vwn S 26 6) (vwn S 51 24) le (S 32) (bitF S) (S 0) (S 1) t (S 33) (-1) wa, MO G b2 (vwn K 2 6) tk2 os2 (vwn K 14 6) (vwn K 20 6) (vwn K 26 6) (vwn K 51 24) le2 (K 32) (bitF K) (K 0) (K 1) t2 (K 33) st2 wa2, MO G b3 (vwn T 2 6) tk3 os3 (vwn T 14 6) (vwn T 20 6) (vwn T 26 6) (vwn T 51 24) le3 (T 32) (bitF T) (T 0) (T 1) t3 (T 33) st3 wa3, MW G a S I F B TT R KK D hI ac spp eni iw op (-1) rd (nI rn) ki nu tv]) ro
    refine ev_iload_n hC dL_law_18 rfl 0 rfl ?_
    refine ev_aload_n hC dL_law_19 rfl 3 rfl ?_
    refine ev_slen hC hX dL_law_20 ?_
    refine ev_iconst (v := (nI 4)) hC dL_law_21 (by decide) ?_
    refine ev_isub hC dL_law_22 ?_
    refine ev_icmp_gt (tgt := 1350) hC dL_law_23 (by decide) (fun c => hE _ _ _ _ _) (fun c => ?_)
    have hi4 : i + 4 ≤ NN := Nat.not_lt.mp fun z => c ((len_lt (by omega) hN).mpr z)
    exact absurd hi4 (by omega)
  | succ n ih =>
    intro i hi hn
    intro ro S K T I F B TT R KK D tk le tk2 le2 tk3 le3 a2 a3 ag2 ag3 p3 pg3 k3 bg3 q2 q3 g1 g2 g3 sg am en sp os os2 os3 t t2 t3 rn hI gc sz ap ju sd rr nd wa wa2 wa3 st2 st3 ac spp eni iw op rd ki nu tv hW hO hr hK
    refine ev_less (bc' := 10 * n + 10) (bs' := 400 * n + 400) (by omega) (by omega) ?_
    show Ev G X (10 * n + 10) (400 * n + 400) 18 [(3, .int (nI i)), (2, .ref (a 0)), (1, .ref x), (0, .ref sA)] [] (List.flatten [SP x r1 r2 r3 r4 r5 d b1 b2 b3 hI, RW G r1 100 (vwn S 122 100) a2 a3 (nI (sn S 37)) (vwn K 122 100) ag2 ag3 (nI (sn K 37)), RW G r2 5 (vwn S 75 5) (vwn S 80 5) (vwn S 85 5) (nI (sn S 34)) (vwn K 75 5) (vwn K 80 5) (vwn K 85 5) (nI (sn K 34)), RW G r3 8 (vwn S 90 8) (vwn S 98 8) p3 (nI (sn S 35)) (vwn K 90 8) (vwn K 98 8) pg3 (nI (sn K 35)), RW G r4 8 (vwn S 106 8) (vwn S 114 8) k3 (nI (sn S 36)) (vwn K 106 8) (vwn K 114 8) bg3 (nI (sn K 36)), RW G r5 20 D q2 q3 (nI rn) g1 g2 g3 gc, RD G d sg am en sp sz ap ju sd rr nd, MO G b1 (vwn S 2 6) tk os (vwn S 14 6) (vwn S 20 6) (vwn S 26 6) (vwn S 51 24) le (S 32) (bitF S) (S 0) (S 1) t (S 33) (-1) wa, MO G b2 (vwn K 2 6) tk2 os2 (vwn K 14 6) (vwn K 20 6) (vwn K 26 6) (vwn K 51 24) le2 (K 32) (bitF K) (K 0) (K 1) t2 (K 33) st2 wa2, MO G b3 (vwn T 2 6) tk3 os3 (vwn T 14 6) (vwn T 20 6) (vwn T 26 6) (vwn T 51 24) le3 (T 32) (bitF T) (T 0) (T 1) t3 (T 33) st3 wa3, MW G a S I F B TT R KK D hI ac spp eni iw op (-1) rd (nI rn) ki nu tv]) ro
    refine ev_iload_n hC dL_law_18 rfl 0 rfl ?_
    refine ev_aload_n hC dL_law_19 rfl 3 rfl ?_
    refine ev_slen hC hX dL_law_20 ?_
    refine ev_iconst (v := (nI 4)) hC dL_law_21 (by decide) ?_
    refine ev_isub hC dL_law_22 ?_
    refine ev_icmp_gt (tgt := 1350) hC dL_law_23 (by decide) (fun c => hE _ _ _ _ _) (fun c => ?_)
    have hi4 : i + 4 ≤ NN := Nat.not_lt.mp fun z => c ((len_lt (by omega) hN).mpr z)
    refine ev_aload_n hC dL_law_26 rfl 3 rfl ?_
    refine ev_iload_n hC dL_law_27 rfl 0 rfl ?_
    refine ev_sld hC hX (i := i) (by omega) hN dL_law_28 ?_
    refine ev_bipush (v := (nI 63)) hC dL_law_29 (by decide) ?_
    refine ev_iand hC dL_law_31 ?_
    have LL := ih (i + 4) hi4 (by omega)
    by_cases w_0 : (f i) &&& (nI 63) = nI 0
    · refine ev_top w_0 ?_
      refine ev_tabIn (off := 180) (tgt := 212) hC dL_law_32 (by decide) (by decide) (by decide) (by decide) ?_
      exact case_feed hC x sA NN r1 r2 r3 r4 r5 d b1 b2 b3 a f hX hN hi4 LL ro S K T I F B TT R KK D tk le tk2 le2 tk3 le3 a2 a3 ag2 ag3 p3 pg3 k3 bg3 q2 q3 g1 g2 g3 sg am en sp os os2 os3 t t2 t3 rn hI gc sz ap ju sd rr nd wa wa2 wa3 st2 st3 ac spp eni iw op rd ki nu tv hW hO hr hK
    by_cases w_1 : (f i) &&& (nI 63) = nI 1
    · refine ev_top w_1 ?_
      refine ev_tabIn (off := 203) (tgt := 235) hC dL_law_32 (by decide) (by decide) (by decide) (by decide) ?_
      exact case_treaty hC x sA NN r1 r2 r3 r4 r5 d b1 b2 b3 a f hX hN hi4 LL ro S K T I F B TT R KK D tk le tk2 le2 tk3 le3 a2 a3 ag2 ag3 p3 pg3 k3 bg3 q2 q3 g1 g2 g3 sg am en sp os os2 os3 t t2 t3 rn hI gc sz ap ju sd rr nd wa wa2 wa3 st2 st3 ac spp eni iw op rd ki nu tv hW hO hr hK
    by_cases w_2 : (f i) &&& (nI 63) = nI 2
    · refine ev_top w_2 ?_
      refine ev_tabIn (off := 216) (tgt := 248) hC dL_law_32 (by decide) (by decide) (by decide) (by decide) ?_
      exact case_person hC x sA NN r1 r2 r3 r4 r5 d b1 b2 b3 a f hX hN hi4 LL ro S K T I F B TT R KK D tk le tk2 le2 tk3 le3 a2 a3 ag2 ag3 p3 pg3 k3 bg3 q2 q3 g1 g2 g3 sg am en sp os os2 os3 t t2 t3 rn hI gc sz ap ju sd rr nd wa wa2 wa3 st2 st3 ac spp eni iw op rd ki nu tv hW hO hr hK
    by_cases w_3 : (f i) &&& (nI 63) = nI 3
    · refine ev_top w_3 ?_
      refine ev_tabIn (off := 259) (tgt := 291) hC dL_law_32 (by decide) (by decide) (by decide) (by decide) ?_
      exact case_of hC x sA NN r1 r2 r3 r4 r5 d b1 b2 b3 a f hX hN hi4 LL ro S K T I F B TT R KK D tk le tk2 le2 tk3 le3 a2 a3 ag2 ag3 p3 pg3 k3 bg3 q2 q3 g1 g2 g3 sg am en sp os os2 os3 t t2 t3 rn hI gc sz ap ju sd rr nd wa wa2 wa3 st2 st3 ac spp eni iw op rd ki nu tv hW hO hr hK
    by_cases w_4 : (f i) &&& (nI 63) = nI 4
    · refine ev_top w_4 ?_
      refine ev_tabIn (off := 292) (tgt := 324) hC dL_law_32 (by decide) (by decide) (by decide) (by decide) ?_
      exact case_row hC x sA NN r1 r2 r3 r4 r5 d b1 b2 b3 a f hX hN hi4 LL ro S K T I F B TT R KK D tk le tk2 le2 tk3 le3 a2 a3 ag2 ag3 p3 pg3 k3 bg3 q2 q3 g1 g2 g3 sg am en sp os os2 os3 t t2 t3 rn hI gc sz ap ju sd rr nd wa wa2 wa3 st2 st3 ac spp eni iw op rd ki nu tv hW hO hr hK
    by_cases w_5 : (f i) &&& (nI 63) = nI 5
    · refine ev_top w_5 ?_
      refine ev_tabIn (off := 335) (tgt := 367) hC dL_law_32 (by decide) (by decide) (by decide) (by decide) ?_
      exact case_set hC x sA NN r1 r2 r3 r4 r5 d b1 b2 b3 a f hX hN hi4 LL ro S K T I F B TT R KK D tk le tk2 le2 tk3 le3 a2 a3 ag2 ag3 p3 pg3 k3 bg3 q2 q3 g1 g2 g3 sg am en sp os os2 os3 t t2 t3 rn hI gc sz ap ju sd rr nd wa wa2 wa3 st2 st3 ac spp eni iw op rd ki nu tv hW hO hr hK
    by_cases w_6 : (f i) &&& (nI 63) = nI 6
    · refine ev_top w_6 ?_
      refine ev_tabIn (off := 378) (tgt := 410) hC dL_law_32 (by decide) (by decide) (by decide) (by decide) ?_
      exact case_salt hC x sA NN r1 r2 r3 r4 r5 d b1 b2 b3 a f hX hN hi4 LL ro S K T I F B TT R KK D tk le tk2 le2 tk3 le3 a2 a3 ag2 ag3 p3 pg3 k3 bg3 q2 q3 g1 g2 g3 sg am en sp os os2 os3 t t2 t3 rn hI gc sz ap ju sd rr nd wa wa2 wa3 st2 st3 ac spp eni iw op rd ki nu tv hW hO hr hK
    by_cases w_7 : (f i) &&& (nI 63) = nI 7
    · refine ev_top w_7 ?_
      refine ev_tabIn (off := 411) (tgt := 443) hC dL_law_32 (by decide) (by decide) (by decide) (by decide) ?_
      exact case_roof hC x sA NN r1 r2 r3 r4 r5 d b1 b2 b3 a f hX hN hi4 LL ro S K T I F B TT R KK D tk le tk2 le2 tk3 le3 a2 a3 ag2 ag3 p3 pg3 k3 bg3 q2 q3 g1 g2 g3 sg am en sp os os2 os3 t t2 t3 rn hI gc sz ap ju sd rr nd wa wa2 wa3 st2 st3 ac spp eni iw op rd ki nu tv hW hO hr hK
    by_cases w_8 : (f i) &&& (nI 63) = nI 8
    · refine ev_top w_8 ?_
      refine ev_tabIn (off := 460) (tgt := 492) hC dL_law_32 (by decide) (by decide) (by decide) (by decide) ?_
      exact case_told hC x sA NN r1 r2 r3 r4 r5 d b1 b2 b3 a f hX hN hi4 LL ro S K T I F B TT R KK D tk le tk2 le2 tk3 le3 a2 a3 ag2 ag3 p3 pg3 k3 bg3 q2 q3 g1 g2 g3 sg am en sp os os2 os3 t t2 t3 rn hI gc sz ap ju sd rr nd wa wa2 wa3 st2 st3 ac spp eni iw op rd ki nu tv hW hO hr hK
    by_cases w_9 : (f i) &&& (nI 63) = nI 9
    · refine ev_top w_9 ?_
      refine ev_tabIn (off := 483) (tgt := 515) hC dL_law_32 (by decide) (by decide) (by decide) (by decide) ?_
      exact case_pass hC x sA NN r1 r2 r3 r4 r5 d b1 b2 b3 a f hX hN hi4 LL ro S K T I F B TT R KK D tk le tk2 le2 tk3 le3 a2 a3 ag2 ag3 p3 pg3 k3 bg3 q2 q3 g1 g2 g3 sg am en sp os os2 os3 t t2 t3 rn hI gc sz ap ju sd rr nd wa wa2 wa3 st2 st3 ac spp eni iw op rd ki nu tv hW hO hr hK
    by_cases w_10 : (f i) &&& (nI 63) = nI 10
    · refine ev_top w_10 ?_
      refine ev_tabIn (off := 506) (tgt := 538) hC dL_law_32 (by decide) (by decide) (by decide) (by decide) ?_
      exact case_on hC x sA NN r1 r2 r3 r4 r5 d b1 b2 b3 a f hX hN hi4 LL ro S K T I F B TT R KK D tk le tk2 le2 tk3 le3 a2 a3 ag2 ag3 p3 pg3 k3 bg3 q2 q3 g1 g2 g3 sg am en sp os os2 os3 t t2 t3 rn hI gc sz ap ju sd rr nd wa wa2 wa3 st2 st3 ac spp eni iw op rd ki nu tv hW hO hr hK
    by_cases w_11 : (f i) &&& (nI 63) = nI 11
    · refine ev_top w_11 ?_
      refine ev_tabIn (off := 539) (tgt := 571) hC dL_law_32 (by decide) (by decide) (by decide) (by decide) ?_
      exact case_lasts hC x sA NN r1 r2 r3 r4 r5 d b1 b2 b3 a f hX hN hi4 LL ro S K T I F B TT R KK D tk le tk2 le2 tk3 le3 a2 a3 ag2 ag3 p3 pg3 k3 bg3 q2 q3 g1 g2 g3 sg am en sp os os2 os3 t t2 t3 rn hI gc sz ap ju sd rr nd wa wa2 wa3 st2 st3 ac spp eni iw op rd ki nu tv hW hO hr hK
    by_cases w_12 : (f i) &&& (nI 63) = nI 12
    · refine ev_top w_12 ?_
      refine ev_tabIn (off := 552) (tgt := 584) hC dL_law_32 (by decide) (by decide) (by decide) (by decide) ?_
      exact case_hollow hC x sA NN r1 r2 r3 r4 r5 d b1 b2 b3 a f hX hN hi4 LL ro S K T I F B TT R KK D tk le tk2 le2 tk3 le3 a2 a3 ag2 ag3 p3 pg3 k3 bg3 q2 q3 g1 g2 g3 sg am en sp os os2 os3 t t2 t3 rn hI gc sz ap ju sd rr nd wa wa2 wa3 st2 st3 ac spp eni iw op rd ki nu tv hW hO hr hK
    by_cases w_13 : (f i) &&& (nI 63) = nI 13
    · refine ev_top w_13 ?_
      refine ev_tabIn (off := 565) (tgt := 597) hC dL_law_32 (by decide) (by decide) (by decide) (by decide) ?_
      exact case_thinnest hC x sA NN r1 r2 r3 r4 r5 d b1 b2 b3 a f hX hN hi4 LL ro S K T I F B TT R KK D tk le tk2 le2 tk3 le3 a2 a3 ag2 ag3 p3 pg3 k3 bg3 q2 q3 g1 g2 g3 sg am en sp os os2 os3 t t2 t3 rn hI gc sz ap ju sd rr nd wa wa2 wa3 st2 st3 ac spp eni iw op rd ki nu tv hW hO hr hK
    by_cases w_14 : (f i) &&& (nI 63) = nI 14
    · refine ev_top w_14 ?_
      refine ev_tabIn (off := 598) (tgt := 630) hC dL_law_32 (by decide) (by decide) (by decide) (by decide) ?_
      exact case_greediest hC x sA NN r1 r2 r3 r4 r5 d b1 b2 b3 a f hX hN hi4 LL ro S K T I F B TT R KK D tk le tk2 le2 tk3 le3 a2 a3 ag2 ag3 p3 pg3 k3 bg3 q2 q3 g1 g2 g3 sg am en sp os os2 os3 t t2 t3 rn hI gc sz ap ju sd rr nd wa wa2 wa3 st2 st3 ac spp eni iw op rd ki nu tv hW hO hr hK
    by_cases w_15 : (f i) &&& (nI 63) = nI 15
    · refine ev_top w_15 ?_
      refine ev_tabIn (off := 621) (tgt := 653) hC dL_law_32 (by decide) (by decide) (by decide) (by decide) ?_
      exact case_forgive hC x sA NN r1 r2 r3 r4 r5 d b1 b2 b3 a f hX hN hi4 LL ro S K T I F B TT R KK D tk le tk2 le2 tk3 le3 a2 a3 ag2 ag3 p3 pg3 k3 bg3 q2 q3 g1 g2 g3 sg am en sp os os2 os3 t t2 t3 rn hI gc sz ap ju sd rr nd wa wa2 wa3 st2 st3 ac spp eni iw op rd ki nu tv hW hO hr hK
    by_cases w_16 : (f i) &&& (nI 63) = nI 16
    · refine ev_top w_16 ?_
      refine ev_tabIn (off := 634) (tgt := 666) hC dL_law_32 (by decide) (by decide) (by decide) (by decide) ?_
      exact case_move hC x sA NN r1 r2 r3 r4 r5 d b1 b2 b3 a f hX hN hi4 LL ro S K T I F B TT R KK D tk le tk2 le2 tk3 le3 a2 a3 ag2 ag3 p3 pg3 k3 bg3 q2 q3 g1 g2 g3 sg am en sp os os2 os3 t t2 t3 rn hI gc sz ap ju sd rr nd wa wa2 wa3 st2 st3 ac spp eni iw op rd ki nu tv hW hO hr hK
    by_cases w_17 : (f i) &&& (nI 63) = nI 17
    · refine ev_top w_17 ?_
      refine ev_tabIn (off := 657) (tgt := 689) hC dL_law_32 (by decide) (by decide) (by decide) (by decide) ?_
      exact case_roofs hC x sA NN r1 r2 r3 r4 r5 d b1 b2 b3 a f hX hN hi4 LL ro S K T I F B TT R KK D tk le tk2 le2 tk3 le3 a2 a3 ag2 ag3 p3 pg3 k3 bg3 q2 q3 g1 g2 g3 sg am en sp os os2 os3 t t2 t3 rn hI gc sz ap ju sd rr nd wa wa2 wa3 st2 st3 ac spp eni iw op rd ki nu tv hW hO hr hK
    by_cases w_18 : (f i) &&& (nI 63) = nI 18
    · refine ev_top w_18 ?_
      refine ev_tabIn (off := 670) (tgt := 702) hC dL_law_32 (by decide) (by decide) (by decide) (by decide) ?_
      exact case_share hC x sA NN r1 r2 r3 r4 r5 d b1 b2 b3 a f hX hN hi4 LL ro S K T I F B TT R KK D tk le tk2 le2 tk3 le3 a2 a3 ag2 ag3 p3 pg3 k3 bg3 q2 q3 g1 g2 g3 sg am en sp os os2 os3 t t2 t3 rn hI gc sz ap ju sd rr nd wa wa2 wa3 st2 st3 ac spp eni iw op rd ki nu tv hW hO hr hK
    by_cases w_19 : (f i) &&& (nI 63) = nI 19
    · refine ev_top w_19 ?_
      refine ev_tabIn (off := 714) (tgt := 746) hC dL_law_32 (by decide) (by decide) (by decide) (by decide) ?_
      exact case_angry hC x sA NN r1 r2 r3 r4 r5 d b1 b2 b3 a f hX hN hi4 LL ro S K T I F B TT R KK D tk le tk2 le2 tk3 le3 a2 a3 ag2 ag3 p3 pg3 k3 bg3 q2 q3 g1 g2 g3 sg am en sp os os2 os3 t t2 t3 rn hI gc sz ap ju sd rr nd wa wa2 wa3 st2 st3 ac spp eni iw op rd ki nu tv hW hO hr hK
    by_cases w_20 : (f i) &&& (nI 63) = nI 20
    · refine ev_top w_20 ?_
      refine ev_tabIn (off := 737) (tgt := 769) hC dL_law_32 (by decide) (by decide) (by decide) (by decide) ?_
      exact case_held hC x sA NN r1 r2 r3 r4 r5 d b1 b2 b3 a f hX hN hi4 LL ro S K T I F B TT R KK D tk le tk2 le2 tk3 le3 a2 a3 ag2 ag3 p3 pg3 k3 bg3 q2 q3 g1 g2 g3 sg am en sp os os2 os3 t t2 t3 rn hI gc sz ap ju sd rr nd wa wa2 wa3 st2 st3 ac spp eni iw op rd ki nu tv hW hO hr hK
    by_cases w_21 : (f i) &&& (nI 63) = nI 21
    · refine ev_top w_21 ?_
      refine ev_tabIn (off := 760) (tgt := 792) hC dL_law_32 (by decide) (by decide) (by decide) (by decide) ?_
      exact case_worst hC x sA NN r1 r2 r3 r4 r5 d b1 b2 b3 a f hX hN hi4 LL ro S K T I F B TT R KK D tk le tk2 le2 tk3 le3 a2 a3 ag2 ag3 p3 pg3 k3 bg3 q2 q3 g1 g2 g3 sg am en sp os os2 os3 t t2 t3 rn hI gc sz ap ju sd rr nd wa wa2 wa3 st2 st3 ac spp eni iw op rd ki nu tv hW hO hr hK
    by_cases w_22 : (f i) &&& (nI 63) = nI 22
    · refine ev_top w_22 ?_
      refine ev_tabIn (off := 793) (tgt := 825) hC dL_law_32 (by decide) (by decide) (by decide) (by decide) ?_
      exact case_watch hC x sA NN r1 r2 r3 r4 r5 d b1 b2 b3 a f hX hN hi4 LL ro S K T I F B TT R KK D tk le tk2 le2 tk3 le3 a2 a3 ag2 ag3 p3 pg3 k3 bg3 q2 q3 g1 g2 g3 sg am en sp os os2 os3 t t2 t3 rn hI gc sz ap ju sd rr nd wa wa2 wa3 st2 st3 ac spp eni iw op rd ki nu tv hW hO hr hK
    by_cases w_23 : (f i) &&& (nI 63) = nI 23
    · refine ev_top w_23 ?_
      refine ev_tabIn (off := 826) (tgt := 858) hC dL_law_32 (by decide) (by decide) (by decide) (by decide) ?_
      exact case_fill hC x sA NN r1 r2 r3 r4 r5 d b1 b2 b3 a f hX hN hi4 LL ro S K T I F B TT R KK D tk le tk2 le2 tk3 le3 a2 a3 ag2 ag3 p3 pg3 k3 bg3 q2 q3 g1 g2 g3 sg am en sp os os2 os3 t t2 t3 rn hI gc sz ap ju sd rr nd wa wa2 wa3 st2 st3 ac spp eni iw op rd ki nu tv hW hO hr hK
    by_cases w_24 : (f i) &&& (nI 63) = nI 24
    · refine ev_top w_24 ?_
      refine ev_tabIn (off := 859) (tgt := 891) hC dL_law_32 (by decide) (by decide) (by decide) (by decide) ?_
      exact case_see hC x sA NN r1 r2 r3 r4 r5 d b1 b2 b3 a f hX hN hi4 LL ro S K T I F B TT R KK D tk le tk2 le2 tk3 le3 a2 a3 ag2 ag3 p3 pg3 k3 bg3 q2 q3 g1 g2 g3 sg am en sp os os2 os3 t t2 t3 rn hI gc sz ap ju sd rr nd wa wa2 wa3 st2 st3 ac spp eni iw op rd ki nu tv hW hO hr hK
    by_cases w_25 : (f i) &&& (nI 63) = nI 25
    · refine ev_top w_25 ?_
      refine ev_tabIn (off := 902) (tgt := 934) hC dL_law_32 (by decide) (by decide) (by decide) (by decide) ?_
      exact case_who hC x sA NN r1 r2 r3 r4 r5 d b1 b2 b3 a f hX hN hi4 LL ro S K T I F B TT R KK D tk le tk2 le2 tk3 le3 a2 a3 ag2 ag3 p3 pg3 k3 bg3 q2 q3 g1 g2 g3 sg am en sp os os2 os3 t t2 t3 rn hI gc sz ap ju sd rr nd wa wa2 wa3 st2 st3 ac spp eni iw op rd ki nu tv hW hO hr hK
    by_cases w_26 : (f i) &&& (nI 63) = nI 26
    · refine ev_top w_26 ?_
      refine ev_tabIn (off := 915) (tgt := 947) hC dL_law_32 (by decide) (by decide) (by decide) (by decide) ?_
      exact case_firm hC x sA NN r1 r2 r3 r4 r5 d b1 b2 b3 a f hX hN hi4 LL ro S K T I F B TT R KK D tk le tk2 le2 tk3 le3 a2 a3 ag2 ag3 p3 pg3 k3 bg3 q2 q3 g1 g2 g3 sg am en sp os os2 os3 t t2 t3 rn hI gc sz ap ju sd rr nd wa wa2 wa3 st2 st3 ac spp eni iw op rd ki nu tv hW hO hr hK
    by_cases w_27 : (f i) &&& (nI 63) = nI 27
    · refine ev_top w_27 ?_
      refine ev_tabIn (off := 948) (tgt := 980) hC dL_law_32 (by decide) (by decide) (by decide) (by decide) ?_
      exact case_where hC x sA NN r1 r2 r3 r4 r5 d b1 b2 b3 a f hX hN hi4 LL ro S K T I F B TT R KK D tk le tk2 le2 tk3 le3 a2 a3 ag2 ag3 p3 pg3 k3 bg3 q2 q3 g1 g2 g3 sg am en sp os os2 os3 t t2 t3 rn hI gc sz ap ju sd rr nd wa wa2 wa3 st2 st3 ac spp eni iw op rd ki nu tv hW hO hr hK
    by_cases w_28 : (f i) &&& (nI 63) = nI 28
    · refine ev_top w_28 ?_
      refine ev_tabIn (off := 971) (tgt := 1003) hC dL_law_32 (by decide) (by decide) (by decide) (by decide) ?_
      exact case_odds hC x sA NN r1 r2 r3 r4 r5 d b1 b2 b3 a f hX hN hi4 LL ro S K T I F B TT R KK D tk le tk2 le2 tk3 le3 a2 a3 ag2 ag3 p3 pg3 k3 bg3 q2 q3 g1 g2 g3 sg am en sp os os2 os3 t t2 t3 rn hI gc sz ap ju sd rr nd wa wa2 wa3 st2 st3 ac spp eni iw op rd ki nu tv hW hO hr hK
    by_cases w_29 : (f i) &&& (nI 63) = nI 29
    · refine ev_top w_29 ?_
      refine ev_tabIn (off := 1005) (tgt := 1037) hC dL_law_32 (by decide) (by decide) (by decide) (by decide) ?_
      exact case_mean hC x sA NN r1 r2 r3 r4 r5 d b1 b2 b3 a f hX hN hi4 LL ro S K T I F B TT R KK D tk le tk2 le2 tk3 le3 a2 a3 ag2 ag3 p3 pg3 k3 bg3 q2 q3 g1 g2 g3 sg am en sp os os2 os3 t t2 t3 rn hI gc sz ap ju sd rr nd wa wa2 wa3 st2 st3 ac spp eni iw op rd ki nu tv hW hO hr hK
    by_cases w_30 : (f i) &&& (nI 63) = nI 30
    · refine ev_top w_30 ?_
      refine ev_tabIn (off := 1039) (tgt := 1071) hC dL_law_32 (by decide) (by decide) (by decide) (by decide) ?_
      exact case_chips hC x sA NN r1 r2 r3 r4 r5 d b1 b2 b3 a f hX hN hi4 LL ro S K T I F B TT R KK D tk le tk2 le2 tk3 le3 a2 a3 ag2 ag3 p3 pg3 k3 bg3 q2 q3 g1 g2 g3 sg am en sp os os2 os3 t t2 t3 rn hI gc sz ap ju sd rr nd wa wa2 wa3 st2 st3 ac spp eni iw op rd ki nu tv hW hO hr hK
    by_cases w_31 : (f i) &&& (nI 63) = nI 31
    · refine ev_top w_31 ?_
      refine ev_tabIn (off := 1062) (tgt := 1094) hC dL_law_32 (by decide) (by decide) (by decide) (by decide) ?_
      exact case_plan hC x sA NN r1 r2 r3 r4 r5 d b1 b2 b3 a f hX hN hi4 LL ro S K T I F B TT R KK D tk le tk2 le2 tk3 le3 a2 a3 ag2 ag3 p3 pg3 k3 bg3 q2 q3 g1 g2 g3 sg am en sp os os2 os3 t t2 t3 rn hI gc sz ap ju sd rr nd wa wa2 wa3 st2 st3 ac spp eni iw op rd ki nu tv hW hO hr hK
    by_cases w_32 : (f i) &&& (nI 63) = nI 32
    · refine ev_top w_32 ?_
      refine ev_tabIn (off := 1095) (tgt := 1127) hC dL_law_32 (by decide) (by decide) (by decide) (by decide) ?_
      exact case_done hC x sA NN r1 r2 r3 r4 r5 d b1 b2 b3 a f hX hN hi4 LL ro S K T I F B TT R KK D tk le tk2 le2 tk3 le3 a2 a3 ag2 ag3 p3 pg3 k3 bg3 q2 q3 g1 g2 g3 sg am en sp os os2 os3 t t2 t3 rn hI gc sz ap ju sd rr nd wa wa2 wa3 st2 st3 ac spp eni iw op rd ki nu tv hW hO hr hK
    by_cases w_33 : (f i) &&& (nI 63) = nI 33
    · refine ev_top w_33 ?_
      refine ev_tabIn (off := 1118) (tgt := 1150) hC dL_law_32 (by decide) (by decide) (by decide) (by decide) ?_
      exact case_book hC x sA NN r1 r2 r3 r4 r5 d b1 b2 b3 a f hX hN hi4 LL ro S K T I F B TT R KK D tk le tk2 le2 tk3 le3 a2 a3 ag2 ag3 p3 pg3 k3 bg3 q2 q3 g1 g2 g3 sg am en sp os os2 os3 t t2 t3 rn hI gc sz ap ju sd rr nd wa wa2 wa3 st2 st3 ac spp eni iw op rd ki nu tv hW hO hr hK
    by_cases w_34 : (f i) &&& (nI 63) = nI 34
    · refine ev_top w_34 ?_
      refine ev_tabIn (off := 1151) (tgt := 1183) hC dL_law_32 (by decide) (by decide) (by decide) (by decide) ?_
      exact case_looked hC x sA NN r1 r2 r3 r4 r5 d b1 b2 b3 a f hX hN hi4 LL ro S K T I F B TT R KK D tk le tk2 le2 tk3 le3 a2 a3 ag2 ag3 p3 pg3 k3 bg3 q2 q3 g1 g2 g3 sg am en sp os os2 os3 t t2 t3 rn hI gc sz ap ju sd rr nd wa wa2 wa3 st2 st3 ac spp eni iw op rd ki nu tv hW hO hr hK
    by_cases w_35 : (f i) &&& (nI 63) = nI 35
    · refine ev_top w_35 ?_
      refine ev_tabIn (off := 1164) (tgt := 1196) hC dL_law_32 (by decide) (by decide) (by decide) (by decide) ?_
      exact case_act hC x sA NN r1 r2 r3 r4 r5 d b1 b2 b3 a f hX hN hi4 LL ro S K T I F B TT R KK D tk le tk2 le2 tk3 le3 a2 a3 ag2 ag3 p3 pg3 k3 bg3 q2 q3 g1 g2 g3 sg am en sp os os2 os3 t t2 t3 rn hI gc sz ap ju sd rr nd wa wa2 wa3 st2 st3 ac spp eni iw op rd ki nu tv hW hO hr hK
    by_cases w_36 : (f i) &&& (nI 63) = nI 36
    · refine ev_top w_36 ?_
      refine ev_tabIn (off := 1207) (tgt := 1239) hC dL_law_32 (by decide) (by decide) (by decide) (by decide) ?_
      exact case_trace hC x sA NN r1 r2 r3 r4 r5 d b1 b2 b3 a f hX hN hi4 LL ro S K T I F B TT R KK D tk le tk2 le2 tk3 le3 a2 a3 ag2 ag3 p3 pg3 k3 bg3 q2 q3 g1 g2 g3 sg am en sp os os2 os3 t t2 t3 rn hI gc sz ap ju sd rr nd wa wa2 wa3 st2 st3 ac spp eni iw op rd ki nu tv hW hO hr hK
    by_cases w_37 : (f i) &&& (nI 63) = nI 37
    · refine ev_top w_37 ?_
      refine ev_tabIn (off := 1230) (tgt := 1262) hC dL_law_32 (by decide) (by decide) (by decide) (by decide) ?_
      exact case_as hC x sA NN r1 r2 r3 r4 r5 d b1 b2 b3 a f hX hN hi4 LL ro S K T I F B TT R KK D tk le tk2 le2 tk3 le3 a2 a3 ag2 ag3 p3 pg3 k3 bg3 q2 q3 g1 g2 g3 sg am en sp os os2 os3 t t2 t3 rn hI gc sz ap ju sd rr nd wa wa2 wa3 st2 st3 ac spp eni iw op rd ki nu tv hW hO hr hK
    by_cases w_38 : (f i) &&& (nI 63) = nI 38
    · refine ev_top w_38 ?_
      refine ev_tabIn (off := 1263) (tgt := 1295) hC dL_law_32 (by decide) (by decide) (by decide) (by decide) ?_
      exact case_image hC x sA NN r1 r2 r3 r4 r5 d b1 b2 b3 a f hX hN hi4 LL ro S K T I F B TT R KK D tk le tk2 le2 tk3 le3 a2 a3 ag2 ag3 p3 pg3 k3 bg3 q2 q3 g1 g2 g3 sg am en sp os os2 os3 t t2 t3 rn hI gc sz ap ju sd rr nd wa wa2 wa3 st2 st3 ac spp eni iw op rd ki nu tv hW hO hr hK
    by_cases w_39 : (f i) &&& (nI 63) = nI 39
    · refine ev_top w_39 ?_
      refine ev_tabIn (off := 1276) (tgt := 1308) hC dL_law_32 (by decide) (by decide) (by decide) (by decide) ?_
      rcases hK with rfl | ⟨rfl, hWK, hOK, hIK⟩
      · exact case_undo0 hC x sA NN r1 r2 r3 r4 r5 d b1 b2 b3 a f hX hN hi4 LL ro S K T I F B TT R KK D tk le tk2 le2 tk3 le3 a2 a3 ag2 ag3 p3 pg3 k3 bg3 q2 q3 g1 g2 g3 sg am en sp os os2 os3 t t2 t3 rn gc sz ap ju sd rr nd wa wa2 wa3 st2 st3 ac spp eni iw op rd ki nu tv hW hO hr
      · exact case_undo1 hC x sA NN r1 r2 r3 r4 r5 d b1 b2 b3 a f hX hN hi4 LL ro S K T I F B TT R KK D tk le tk2 le2 tk3 le3 a2 a3 ag2 ag3 p3 pg3 k3 bg3 q2 q3 g1 g2 g3 sg am en sp os os2 os3 t t2 t3 rn gc sz ap ju sd rr nd wa wa2 wa3 st2 st3 ac spp eni iw op rd ki nu tv hW hO hr hWK hOK hIK
    by_cases w_40 : (f i) &&& (nI 63) = nI 40
    · refine ev_top w_40 ?_
      refine ev_tabIn (off := 1289) (tgt := 1321) hC dL_law_32 (by decide) (by decide) (by decide) (by decide) ?_
      exact case_count hC x sA NN r1 r2 r3 r4 r5 d b1 b2 b3 a f hX hN hi4 LL ro S K T I F B TT R KK D tk le tk2 le2 tk3 le3 a2 a3 ag2 ag3 p3 pg3 k3 bg3 q2 q3 g1 g2 g3 sg am en sp os os2 os3 t t2 t3 rn hI gc sz ap ju sd rr nd wa wa2 wa3 st2 st3 ac spp eni iw op rd ki nu tv hW hO hr hK
    refine ev_tabOut (tgt := 1344) hC dL_law_32 (sw_out (lo := 0) (hi := 40) (fun j h1 h2 => ?_)) (by decide) ?_
    · intro e
      have hj : j = 0 ∨ j = 1 ∨ j = 2 ∨ j = 3 ∨ j = 4 ∨ j = 5 ∨ j = 6 ∨ j = 7 ∨ j = 8 ∨ j = 9 ∨ j = 10 ∨ j = 11 ∨ j = 12 ∨ j = 13 ∨ j = 14 ∨ j = 15 ∨ j = 16 ∨ j = 17 ∨ j = 18 ∨ j = 19 ∨ j = 20 ∨ j = 21 ∨ j = 22 ∨ j = 23 ∨ j = 24 ∨ j = 25 ∨ j = 26 ∨ j = 27 ∨ j = 28 ∨ j = 29 ∨ j = 30 ∨ j = 31 ∨ j = 32 ∨ j = 33 ∨ j = 34 ∨ j = 35 ∨ j = 36 ∨ j = 37 ∨ j = 38 ∨ j = 39 ∨ j = 40 := by omega
      rcases hj with rfl | rfl | rfl | rfl | rfl | rfl | rfl | rfl | rfl | rfl | rfl | rfl | rfl | rfl | rfl | rfl | rfl | rfl | rfl | rfl | rfl | rfl | rfl | rfl | rfl | rfl | rfl | rfl | rfl | rfl | rfl | rfl | rfl | rfl | rfl | rfl | rfl | rfl | rfl | rfl | rfl
      · exact w_0 (Int32.toInt_inj.mp (e.trans (by decide)))
      · exact w_1 (Int32.toInt_inj.mp (e.trans (by decide)))
      · exact w_2 (Int32.toInt_inj.mp (e.trans (by decide)))
      · exact w_3 (Int32.toInt_inj.mp (e.trans (by decide)))
      · exact w_4 (Int32.toInt_inj.mp (e.trans (by decide)))
      · exact w_5 (Int32.toInt_inj.mp (e.trans (by decide)))
      · exact w_6 (Int32.toInt_inj.mp (e.trans (by decide)))
      · exact w_7 (Int32.toInt_inj.mp (e.trans (by decide)))
      · exact w_8 (Int32.toInt_inj.mp (e.trans (by decide)))
      · exact w_9 (Int32.toInt_inj.mp (e.trans (by decide)))
      · exact w_10 (Int32.toInt_inj.mp (e.trans (by decide)))
      · exact w_11 (Int32.toInt_inj.mp (e.trans (by decide)))
      · exact w_12 (Int32.toInt_inj.mp (e.trans (by decide)))
      · exact w_13 (Int32.toInt_inj.mp (e.trans (by decide)))
      · exact w_14 (Int32.toInt_inj.mp (e.trans (by decide)))
      · exact w_15 (Int32.toInt_inj.mp (e.trans (by decide)))
      · exact w_16 (Int32.toInt_inj.mp (e.trans (by decide)))
      · exact w_17 (Int32.toInt_inj.mp (e.trans (by decide)))
      · exact w_18 (Int32.toInt_inj.mp (e.trans (by decide)))
      · exact w_19 (Int32.toInt_inj.mp (e.trans (by decide)))
      · exact w_20 (Int32.toInt_inj.mp (e.trans (by decide)))
      · exact w_21 (Int32.toInt_inj.mp (e.trans (by decide)))
      · exact w_22 (Int32.toInt_inj.mp (e.trans (by decide)))
      · exact w_23 (Int32.toInt_inj.mp (e.trans (by decide)))
      · exact w_24 (Int32.toInt_inj.mp (e.trans (by decide)))
      · exact w_25 (Int32.toInt_inj.mp (e.trans (by decide)))
      · exact w_26 (Int32.toInt_inj.mp (e.trans (by decide)))
      · exact w_27 (Int32.toInt_inj.mp (e.trans (by decide)))
      · exact w_28 (Int32.toInt_inj.mp (e.trans (by decide)))
      · exact w_29 (Int32.toInt_inj.mp (e.trans (by decide)))
      · exact w_30 (Int32.toInt_inj.mp (e.trans (by decide)))
      · exact w_31 (Int32.toInt_inj.mp (e.trans (by decide)))
      · exact w_32 (Int32.toInt_inj.mp (e.trans (by decide)))
      · exact w_33 (Int32.toInt_inj.mp (e.trans (by decide)))
      · exact w_34 (Int32.toInt_inj.mp (e.trans (by decide)))
      · exact w_35 (Int32.toInt_inj.mp (e.trans (by decide)))
      · exact w_36 (Int32.toInt_inj.mp (e.trans (by decide)))
      · exact w_37 (Int32.toInt_inj.mp (e.trans (by decide)))
      · exact w_38 (Int32.toInt_inj.mp (e.trans (by decide)))
      · exact w_39 (Int32.toInt_inj.mp (e.trans (by decide)))
      · exact w_40 (Int32.toInt_inj.mp (e.trans (by decide)))
    refine ev_iinc (v := (nI (i + 4))) (lv' := [(3, .int (nI (i + 4))), (2, .ref (a 0)), (1, .ref x), (0, .ref sA)]) hC dL_law_1344 (q := 0) rfl (nI_k _ _ 4 (by decide)) (by decide) rfl ?_
    refine ev_goto (tgt := 18) hC dL_law_1347 (by decide) ?_
    refine ev_less (bc' := 10 * n) (bs' := 400 * n) (by omega) (by omega) ?_
    exact LL ro S K T I F B TT R KK D tk le tk2 le2 tk3 le3 a2 a3 ag2 ag3 p3 pg3 k3 bg3 q2 q3 g1 g2 g3 sg am en sp os os2 os3 t t2 t3 rn hI gc sz ap ju sd rr nd wa wa2 wa3 st2 st3 ac spp eni iw op rd ki nu tv hW hO hr hK
set_option maxHeartbeats 4000000 in
set_option maxRecDepth 100000 in
theorem law_body {G : GG} {X : Cx} (hC : Cok G M_L_law 30 X) (sA NN : Nat) (f : Nat → Int32) (hX : Scr G X sA NN f) (hN : NN ≤ 2048) (hE : ∀ (bc bs : Nat) (lv : List (Nat × Value)) (ws ro : va_W), Ev G X bc bs 1350 lv [] ws ro) (ro : va_W) : Ev G X 600000 7302250 0 [(0, .ref sA)] [] [] ro := by
  show Ev G X 600000 7302250 0 [(0, .ref sA)] [] [] ro
  refine ev_new hC nw_L_7 dL_law_0 (Nat.le_of_ble_eq_true rfl) (Nat.le_of_ble_eq_true rfl) (fun q_1 => ?_)
  show Ev G X 599999 7302240 3 [(0, .ref sA)] [.ref q_1] ([(q_1, ob 11 [.null, .null, .null, .null, .null, .null, .null, .null, .null, .int 0])]) ro
  refine ev_dup hC dL_law_3 rfl ?_
  refine ev_callI (As := []) (st := [.ref q_1]) (wf := []) hC co_L_9 (m_X11_init G ro q_1) (by omega) rfl rfl (Nat.le_of_ble_eq_true rfl) (List.Perm.of_eq (List.append_nil _).symm) dL_law_4 (by omega) (by omega) ?_
  rintro _ _ ro ⟨r1, r2, r3, r4, r5, d, b1, b2, b3, t, nb, rfl, rfl, hSb, hO⟩
  refine ev_ws (List.append_nil _) ?_
  show Ev G X 599919 7300740 7 [(0, .ref sA)] [.ref q_1] (List.flatten [SP q_1 r1 r2 r3 r4 r5 d b1 b2 b3 (nI 0), RW G r1 100 (fun _ => 0) (fun _ => 0) (fun _ => 0) (nI 0) (fun _ => 0) (fun _ => 0) (fun _ => 0) (nI 0), RW G r2 5 (fun _ => 0) (fun _ => 0) (fun _ => 0) (nI 0) (fun _ => 0) (fun _ => 0) (fun _ => 0) (nI 0), RW G r3 8 (fun _ => 0) (fun _ => 0) (fun _ => 0) (nI 0) (fun _ => 0) (fun _ => 0) (fun _ => 0) (nI 0), RW G r4 8 (fun _ => 0) (fun _ => 0) (fun _ => 0) (nI 0) (fun _ => 0) (fun _ => 0) (fun _ => 0) (nI 0), RW G r5 20 (fun _ => 0) (fun _ => 0) (fun _ => 0) (nI 0) (fun _ => 0) (fun _ => 0) (fun _ => 0) (nI 0), RD G d (fun _ => 0) (fun _ => 0) (fun _ => 0) (fun _ => 0) (nI 0) (nI 0) (nI 0) (nI 0) (nI 1) (nI 2), MO G b1 (vwn iniF 2 6) (fun _ => 0) (nbO 6 nb) (vwn iniF 14 6) (vwn iniF 20 6) (vwn iniF 26 6) (vwn iniF 51 24) (fun _ => 0) (iniF 32) (bitF iniF) (iniF 0) (iniF 1) t (iniF 33) (-1) (nI 0), MO G b2 (vwn iniF 2 6) (fun _ => 0) (nbO 6 nb) (vwn iniF 14 6) (vwn iniF 20 6) (vwn iniF 26 6) (vwn iniF 51 24) (fun _ => 0) (iniF 32) (bitF iniF) (iniF 0) (iniF 1) t (iniF 33) (-1) (nI 0), MO G b3 (vwn iniF 2 6) (fun _ => 0) (nbO 6 nb) (vwn iniF 14 6) (vwn iniF 20 6) (vwn iniF 26 6) (vwn iniF 51 24) (fun _ => 0) (iniF 32) (bitF iniF) (iniF 0) (iniF 1) t (iniF 33) (-1) (nI 0)]) ro
  refine ev_astore_n (lv' := [(1, .ref q_1), (0, .ref sA)]) hC dL_law_7 rfl (by decide) rfl ?_
  refine ev_new hC nw_L_10 dL_law_8 (Nat.le_of_ble_eq_true rfl) (Nat.le_of_ble_eq_true rfl) (fun q_2 => ?_)
  show Ev G X 599918 7300719 11 [(1, .ref q_1), (0, .ref sA)] [.ref q_2] (List.flatten [SP q_1 r1 r2 r3 r4 r5 d b1 b2 b3 (nI 0), RW G r1 100 (fun _ => 0) (fun _ => 0) (fun _ => 0) (nI 0) (fun _ => 0) (fun _ => 0) (fun _ => 0) (nI 0), RW G r2 5 (fun _ => 0) (fun _ => 0) (fun _ => 0) (nI 0) (fun _ => 0) (fun _ => 0) (fun _ => 0) (nI 0), RW G r3 8 (fun _ => 0) (fun _ => 0) (fun _ => 0) (nI 0) (fun _ => 0) (fun _ => 0) (fun _ => 0) (nI 0), RW G r4 8 (fun _ => 0) (fun _ => 0) (fun _ => 0) (nI 0) (fun _ => 0) (fun _ => 0) (fun _ => 0) (nI 0), RW G r5 20 (fun _ => 0) (fun _ => 0) (fun _ => 0) (nI 0) (fun _ => 0) (fun _ => 0) (fun _ => 0) (nI 0), RD G d (fun _ => 0) (fun _ => 0) (fun _ => 0) (fun _ => 0) (nI 0) (nI 0) (nI 0) (nI 0) (nI 1) (nI 2), MO G b1 (vwn iniF 2 6) (fun _ => 0) (nbO 6 nb) (vwn iniF 14 6) (vwn iniF 20 6) (vwn iniF 26 6) (vwn iniF 51 24) (fun _ => 0) (iniF 32) (bitF iniF) (iniF 0) (iniF 1) t (iniF 33) (-1) (nI 0), MO G b2 (vwn iniF 2 6) (fun _ => 0) (nbO 6 nb) (vwn iniF 14 6) (vwn iniF 20 6) (vwn iniF 26 6) (vwn iniF 51 24) (fun _ => 0) (iniF 32) (bitF iniF) (iniF 0) (iniF 1) t (iniF 33) (-1) (nI 0), MO G b3 (vwn iniF 2 6) (fun _ => 0) (nbO 6 nb) (vwn iniF 14 6) (vwn iniF 20 6) (vwn iniF 26 6) (vwn iniF 51 24) (fun _ => 0) (iniF 32) (bitF iniF) (iniF 0) (iniF 1) t (iniF 33) (-1) (nI 0), [(q_2, ob 12 [.int 0, .null, .null, .null, .int 0, .int 0, .int 0, .int 0, .int 0, .int 0, .null, .null, .int 0, .null, .null, .int 0, .null, .int 0, .int 0, .int 0, .int 0])]]) ro
  refine ev_dup hC dL_law_11 rfl ?_
  refine ev_callI (As := []) (st := [.ref q_2]) (wf := (List.flatten [SP q_1 r1 r2 r3 r4 r5 d b1 b2 b3 (nI 0), RW G r1 100 (fun _ => 0) (fun _ => 0) (fun _ => 0) (nI 0) (fun _ => 0) (fun _ => 0) (fun _ => 0) (nI 0), RW G r2 5 (fun _ => 0) (fun _ => 0) (fun _ => 0) (nI 0) (fun _ => 0) (fun _ => 0) (fun _ => 0) (nI 0), RW G r3 8 (fun _ => 0) (fun _ => 0) (fun _ => 0) (nI 0) (fun _ => 0) (fun _ => 0) (fun _ => 0) (nI 0), RW G r4 8 (fun _ => 0) (fun _ => 0) (fun _ => 0) (nI 0) (fun _ => 0) (fun _ => 0) (fun _ => 0) (nI 0), RW G r5 20 (fun _ => 0) (fun _ => 0) (fun _ => 0) (nI 0) (fun _ => 0) (fun _ => 0) (fun _ => 0) (nI 0), RD G d (fun _ => 0) (fun _ => 0) (fun _ => 0) (fun _ => 0) (nI 0) (nI 0) (nI 0) (nI 0) (nI 1) (nI 2), MO G b1 (vwn iniF 2 6) (fun _ => 0) (nbO 6 nb) (vwn iniF 14 6) (vwn iniF 20 6) (vwn iniF 26 6) (vwn iniF 51 24) (fun _ => 0) (iniF 32) (bitF iniF) (iniF 0) (iniF 1) t (iniF 33) (-1) (nI 0), MO G b2 (vwn iniF 2 6) (fun _ => 0) (nbO 6 nb) (vwn iniF 14 6) (vwn iniF 20 6) (vwn iniF 26 6) (vwn iniF 51 24) (fun _ => 0) (iniF 32) (bitF iniF) (iniF 0) (iniF 1) t (iniF 33) (-1) (nI 0), MO G b3 (vwn iniF 2 6) (fun _ => 0) (nbO 6 nb) (vwn iniF 14 6) (vwn iniF 20 6) (vwn iniF 26 6) (vwn iniF 51 24) (fun _ => 0) (iniF 32) (bitF iniF) (iniF 0) (iniF 1) t (iniF 33) (-1) (nI 0)])) hC co_L_12 (m_X12_init G ro q_2) (by omega) rfl rfl (Nat.le_of_ble_eq_true rfl) (perm_sg (n := 11) [10, 0, 1, 2, 3, 4, 5, 6, 7, 8, 9] rfl rfl (by decide)) dL_law_12 (by omega) (by omega) ?_
  rintro _ _ _ ⟨a, rfl, rfl, rfl, hq⟩
  show Ev G X 599910 7298711 15 [(1, .ref q_1), (0, .ref sA)] [.ref q_2] (List.flatten [MW G a iniF (fun _ => 0) (fun _ => 0) (fun _ => 0) (fun _ => 0) (fun _ => 0) (fun _ => 0) (fun _ => 0) (nI 0) (nI 0) (nI 0) (nI 0) (nI 0) (nI 0) (-1) (nI 0) (nI 0) (nI 0) (nI 0) (nI 0), SP q_1 r1 r2 r3 r4 r5 d b1 b2 b3 (nI 0), RW G r1 100 (fun _ => 0) (fun _ => 0) (fun _ => 0) (nI 0) (fun _ => 0) (fun _ => 0) (fun _ => 0) (nI 0), RW G r2 5 (fun _ => 0) (fun _ => 0) (fun _ => 0) (nI 0) (fun _ => 0) (fun _ => 0) (fun _ => 0) (nI 0), RW G r3 8 (fun _ => 0) (fun _ => 0) (fun _ => 0) (nI 0) (fun _ => 0) (fun _ => 0) (fun _ => 0) (nI 0), RW G r4 8 (fun _ => 0) (fun _ => 0) (fun _ => 0) (nI 0) (fun _ => 0) (fun _ => 0) (fun _ => 0) (nI 0), RW G r5 20 (fun _ => 0) (fun _ => 0) (fun _ => 0) (nI 0) (fun _ => 0) (fun _ => 0) (fun _ => 0) (nI 0), RD G d (fun _ => 0) (fun _ => 0) (fun _ => 0) (fun _ => 0) (nI 0) (nI 0) (nI 0) (nI 0) (nI 1) (nI 2), MO G b1 (vwn iniF 2 6) (fun _ => 0) (nbO 6 nb) (vwn iniF 14 6) (vwn iniF 20 6) (vwn iniF 26 6) (vwn iniF 51 24) (fun _ => 0) (iniF 32) (bitF iniF) (iniF 0) (iniF 1) t (iniF 33) (-1) (nI 0), MO G b2 (vwn iniF 2 6) (fun _ => 0) (nbO 6 nb) (vwn iniF 14 6) (vwn iniF 20 6) (vwn iniF 26 6) (vwn iniF 51 24) (fun _ => 0) (iniF 32) (bitF iniF) (iniF 0) (iniF 1) t (iniF 33) (-1) (nI 0), MO G b3 (vwn iniF 2 6) (fun _ => 0) (nbO 6 nb) (vwn iniF 14 6) (vwn iniF 20 6) (vwn iniF 26 6) (vwn iniF 51 24) (fun _ => 0) (iniF 32) (bitF iniF) (iniF 0) (iniF 1) t (iniF 33) (-1) (nI 0)]) ro
  refine ev_perm (ws' := (List.flatten [SP q_1 r1 r2 r3 r4 r5 d b1 b2 b3 (nI 0), RW G r1 100 (fun _ => 0) (fun _ => 0) (fun _ => 0) (nI 0) (fun _ => 0) (fun _ => 0) (fun _ => 0) (nI 0), RW G r2 5 (fun _ => 0) (fun _ => 0) (fun _ => 0) (nI 0) (fun _ => 0) (fun _ => 0) (fun _ => 0) (nI 0), RW G r3 8 (fun _ => 0) (fun _ => 0) (fun _ => 0) (nI 0) (fun _ => 0) (fun _ => 0) (fun _ => 0) (nI 0), RW G r4 8 (fun _ => 0) (fun _ => 0) (fun _ => 0) (nI 0) (fun _ => 0) (fun _ => 0) (fun _ => 0) (nI 0), RW G r5 20 (fun _ => 0) (fun _ => 0) (fun _ => 0) (nI 0) (fun _ => 0) (fun _ => 0) (fun _ => 0) (nI 0), RD G d (fun _ => 0) (fun _ => 0) (fun _ => 0) (fun _ => 0) (nI 0) (nI 0) (nI 0) (nI 0) (nI 1) (nI 2), MO G b1 (vwn iniF 2 6) (fun _ => 0) (nbO 6 nb) (vwn iniF 14 6) (vwn iniF 20 6) (vwn iniF 26 6) (vwn iniF 51 24) (fun _ => 0) (iniF 32) (bitF iniF) (iniF 0) (iniF 1) t (iniF 33) (-1) (nI 0), MO G b2 (vwn iniF 2 6) (fun _ => 0) (nbO 6 nb) (vwn iniF 14 6) (vwn iniF 20 6) (vwn iniF 26 6) (vwn iniF 51 24) (fun _ => 0) (iniF 32) (bitF iniF) (iniF 0) (iniF 1) t (iniF 33) (-1) (nI 0), MO G b3 (vwn iniF 2 6) (fun _ => 0) (nbO 6 nb) (vwn iniF 14 6) (vwn iniF 20 6) (vwn iniF 26 6) (vwn iniF 51 24) (fun _ => 0) (iniF 32) (bitF iniF) (iniF 0) (iniF 1) t (iniF 33) (-1) (nI 0), MW G a iniF (fun _ => 0) (fun _ => 0) (fun _ => 0) (fun _ => 0) (fun _ => 0) (fun _ => 0) (fun _ => 0) (nI 0) (nI 0) (nI 0) (nI 0) (nI 0) (nI 0) (-1) (nI 0) (nI 0) (nI 0) (nI 0) (nI 0)])) (perm_sg2 (n := 11) [1, 2, 3, 4, 5, 6, 7, 8, 9, 10, 0] rfl rfl (by decide)) ?_
  subst hq
  show Ev G X 599910 7298711 15 [(1, .ref q_1), (0, .ref sA)] [.ref (a 0)] (List.flatten [SP q_1 r1 r2 r3 r4 r5 d b1 b2 b3 (nI 0), RW G r1 100 (fun _ => 0) (fun _ => 0) (fun _ => 0) (nI 0) (fun _ => 0) (fun _ => 0) (fun _ => 0) (nI 0), RW G r2 5 (fun _ => 0) (fun _ => 0) (fun _ => 0) (nI 0) (fun _ => 0) (fun _ => 0) (fun _ => 0) (nI 0), RW G r3 8 (fun _ => 0) (fun _ => 0) (fun _ => 0) (nI 0) (fun _ => 0) (fun _ => 0) (fun _ => 0) (nI 0), RW G r4 8 (fun _ => 0) (fun _ => 0) (fun _ => 0) (nI 0) (fun _ => 0) (fun _ => 0) (fun _ => 0) (nI 0), RW G r5 20 (fun _ => 0) (fun _ => 0) (fun _ => 0) (nI 0) (fun _ => 0) (fun _ => 0) (fun _ => 0) (nI 0), RD G d (fun _ => 0) (fun _ => 0) (fun _ => 0) (fun _ => 0) (nI 0) (nI 0) (nI 0) (nI 0) (nI 1) (nI 2), MO G b1 (vwn iniF 2 6) (fun _ => 0) (nbO 6 nb) (vwn iniF 14 6) (vwn iniF 20 6) (vwn iniF 26 6) (vwn iniF 51 24) (fun _ => 0) (iniF 32) (bitF iniF) (iniF 0) (iniF 1) t (iniF 33) (-1) (nI 0), MO G b2 (vwn iniF 2 6) (fun _ => 0) (nbO 6 nb) (vwn iniF 14 6) (vwn iniF 20 6) (vwn iniF 26 6) (vwn iniF 51 24) (fun _ => 0) (iniF 32) (bitF iniF) (iniF 0) (iniF 1) t (iniF 33) (-1) (nI 0), MO G b3 (vwn iniF 2 6) (fun _ => 0) (nbO 6 nb) (vwn iniF 14 6) (vwn iniF 20 6) (vwn iniF 26 6) (vwn iniF 51 24) (fun _ => 0) (iniF 32) (bitF iniF) (iniF 0) (iniF 1) t (iniF 33) (-1) (nI 0), MW G a iniF (fun _ => 0) (fun _ => 0) (fun _ => 0) (fun _ => 0) (fun _ => 0) (fun _ => 0) (fun _ => 0) (nI 0) (nI 0) (nI 0) (nI 0) (nI 0) (nI 0) (-1) (nI 0) (nI 0) (nI 0) (nI 0) (nI 0)]) ro
  refine ev_astore_n (lv' := [(2, .ref (a 0)), (1, .ref q_1), (0, .ref sA)]) hC dL_law_15 rfl (by decide) rfl ?_
  refine ev_iconst (v := (nI 0)) hC dL_law_16 (by decide) ?_
  refine ev_istore_n (lv' := [(3, .int (nI 0)), (2, .ref (a 0)), (1, .ref q_1), (0, .ref sA)]) hC dL_law_17 rfl (by decide) rfl ?_
  have e1 : (RW G r1 100 (fun _ => 0) (fun _ => 0) (fun _ => 0) (nI 0) (fun _ => 0) (fun _ => 0) (fun _ => 0) (nI 0)) = (RW G r1 100 (vwn iniF 122 100) (fun _ => 0) (fun _ => 0) (nI (sn iniF 37)) (vwn iniF 122 100) (fun _ => 0) (fun _ => 0) (nI (sn iniF 37))) := rw_eq (ini_z2 (o := 122) (n := 100) (by omega)) (rfl) (rfl) ((congrArg nI (ini_c (j := 37) (by omega) (by omega)))) (ini_z2 (o := 122) (n := 100) (by omega)) (rfl) (rfl) ((congrArg nI (ini_c (j := 37) (by omega) (by omega))))
  have e2 : (RW G r2 5 (fun _ => 0) (fun _ => 0) (fun _ => 0) (nI 0) (fun _ => 0) (fun _ => 0) (fun _ => 0) (nI 0)) = (RW G r2 5 (vwn iniF 75 5) (vwn iniF 80 5) (vwn iniF 85 5) (nI (sn iniF 34)) (vwn iniF 75 5) (vwn iniF 80 5) (vwn iniF 85 5) (nI (sn iniF 34))) := rw_eq (ini_z2 (o := 75) (n := 5) (by omega)) (ini_z2 (o := 80) (n := 5) (by omega)) (ini_z2 (o := 85) (n := 5) (by omega)) ((congrArg nI (ini_c (j := 34) (by omega) (by omega)))) (ini_z2 (o := 75) (n := 5) (by omega)) (ini_z2 (o := 80) (n := 5) (by omega)) (ini_z2 (o := 85) (n := 5) (by omega)) ((congrArg nI (ini_c (j := 34) (by omega) (by omega))))
  have e3 : (RW G r3 8 (fun _ => 0) (fun _ => 0) (fun _ => 0) (nI 0) (fun _ => 0) (fun _ => 0) (fun _ => 0) (nI 0)) = (RW G r3 8 (vwn iniF 90 8) (vwn iniF 98 8) (fun _ => 0) (nI (sn iniF 35)) (vwn iniF 90 8) (vwn iniF 98 8) (fun _ => 0) (nI (sn iniF 35))) := rw_eq (ini_z2 (o := 90) (n := 8) (by omega)) (ini_z2 (o := 98) (n := 8) (by omega)) (rfl) ((congrArg nI (ini_c (j := 35) (by omega) (by omega)))) (ini_z2 (o := 90) (n := 8) (by omega)) (ini_z2 (o := 98) (n := 8) (by omega)) (rfl) ((congrArg nI (ini_c (j := 35) (by omega) (by omega))))
  have e4 : (RW G r4 8 (fun _ => 0) (fun _ => 0) (fun _ => 0) (nI 0) (fun _ => 0) (fun _ => 0) (fun _ => 0) (nI 0)) = (RW G r4 8 (vwn iniF 106 8) (vwn iniF 114 8) (fun _ => 0) (nI (sn iniF 36)) (vwn iniF 106 8) (vwn iniF 114 8) (fun _ => 0) (nI (sn iniF 36))) := rw_eq (ini_z2 (o := 106) (n := 8) (by omega)) (ini_z2 (o := 114) (n := 8) (by omega)) (rfl) ((congrArg nI (ini_c (j := 36) (by omega) (by omega)))) (ini_z2 (o := 106) (n := 8) (by omega)) (ini_z2 (o := 114) (n := 8) (by omega)) (rfl) ((congrArg nI (ini_c (j := 36) (by omega) (by omega))))
  refine ev_ws (ws' := (List.flatten [SP q_1 r1 r2 r3 r4 r5 d b1 b2 b3 (nI 0), RW G r1 100 (vwn iniF 122 100) (fun _ => 0) (fun _ => 0) (nI (sn iniF 37)) (vwn iniF 122 100) (fun _ => 0) (fun _ => 0) (nI (sn iniF 37)), RW G r2 5 (vwn iniF 75 5) (vwn iniF 80 5) (vwn iniF 85 5) (nI (sn iniF 34)) (vwn iniF 75 5) (vwn iniF 80 5) (vwn iniF 85 5) (nI (sn iniF 34)), RW G r3 8 (vwn iniF 90 8) (vwn iniF 98 8) (fun _ => 0) (nI (sn iniF 35)) (vwn iniF 90 8) (vwn iniF 98 8) (fun _ => 0) (nI (sn iniF 35)), RW G r4 8 (vwn iniF 106 8) (vwn iniF 114 8) (fun _ => 0) (nI (sn iniF 36)) (vwn iniF 106 8) (vwn iniF 114 8) (fun _ => 0) (nI (sn iniF 36)), RW G r5 20 (fun _ => 0) (fun _ => 0) (fun _ => 0) (nI 0) (fun _ => 0) (fun _ => 0) (fun _ => 0) (nI 0), RD G d (fun _ => 0) (fun _ => 0) (fun _ => 0) (fun _ => 0) (nI 0) (nI 0) (nI 0) (nI 0) (nI 1) (nI 2), MO G b1 (vwn iniF 2 6) (fun _ => 0) (nbO 6 nb) (vwn iniF 14 6) (vwn iniF 20 6) (vwn iniF 26 6) (vwn iniF 51 24) (fun _ => 0) (iniF 32) (bitF iniF) (iniF 0) (iniF 1) t (iniF 33) (-1) (nI 0), MO G b2 (vwn iniF 2 6) (fun _ => 0) (nbO 6 nb) (vwn iniF 14 6) (vwn iniF 20 6) (vwn iniF 26 6) (vwn iniF 51 24) (fun _ => 0) (iniF 32) (bitF iniF) (iniF 0) (iniF 1) t (iniF 33) (-1) (nI 0), MO G b3 (vwn iniF 2 6) (fun _ => 0) (nbO 6 nb) (vwn iniF 14 6) (vwn iniF 20 6) (vwn iniF 26 6) (vwn iniF 51 24) (fun _ => 0) (iniF 32) (bitF iniF) (iniF 0) (iniF 1) t (iniF 33) (-1) (nI 0), MW G a iniF (fun _ => 0) (fun _ => 0) (fun _ => 0) (fun _ => 0) (fun _ => 0) (fun _ => 0) (fun _ => 0) (nI 0) (nI 0) (nI 0) (nI 0) (nI 0) (nI 0) (-1) (nI 0) (nI 0) (nI 0) (nI 0) (nI 0)])) (by rw [e1, e2, e3, e4]) ?_
  refine ev_less (bc' := 10 * 512) (bs' := 400 * 512) (Nat.le_of_ble_eq_true rfl) (Nat.le_of_ble_eq_true rfl) ?_
  exact law_loop hC q_1 sA NN r1 r2 r3 r4 r5 d b1 b2 b3 a f hX hN hE 512 0 (Nat.zero_le _) (by omega) ro iniF iniF iniF (fun _ => 0) (fun _ => 0) (fun _ => 0) (fun _ => 0) (fun _ => 0) (fun _ => 0) (fun _ => 0) (fun _ => 0) (fun _ => 0) (fun _ => 0) (fun _ => 0) (fun _ => 0) (fun _ => 0) (fun _ => 0) (fun _ => 0) (fun _ => 0) (fun _ => 0) (fun _ => 0) (fun _ => 0) (fun _ => 0) (fun _ => 0) (fun _ => 0) (fun _ => 0) (fun _ => 0) (fun _ => 0) (fun _ => 0) (fun _ => 0) (fun _ => 0) (fun _ => 0) (fun _ => 0) (nbO 6 nb) (nbO 6 nb) (nbO 6 nb) t t t 0 (nI 0) (nI 0) (nI 0) (nI 0) (nI 0) (nI 0) (nI 1) (nI 2) (nI 0) (nI 0) (nI 0) (-1) (-1) (nI 0) (nI 0) (nI 0) (nI 0) (nI 0) (nI 0) (nI 0) (nI 0) (nI 0) ini_wf hO (by omega) (Or.inl rfl)
