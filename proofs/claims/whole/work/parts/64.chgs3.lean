set_option maxHeartbeats 4000000 in
set_option maxRecDepth 100000 in
theorem m_X11_image (G : GG) (ro : va_W) (x : Nat) (r1 r2 r3 r4 r5 d b1 b2 b3 : Nat → Nat) (hi : Int32) (S tk le T tk3 le3 : Nat → Int32) (os os3 : Nat → Option Nat) (t t3 : Nat) (wa st3 wa3 : Int32)  (K tk2 le2 : Nat → Int32) (os2 : Nat → Option Nat) (t2 : Nat) (st2 wa2 : Int32) (a2 a3 ag2 ag3 p3 pg3 k3 bg3 : Nat → Int32) (hW : WF S 9999 9999) (hO : MoOK G ro (r5 0) S os t)  : Mth G M_X11_image 8 0 0 [.ref x] (List.flatten [SP x r1 r2 r3 r4 r5 d b1 b2 b3 hi, MO G b1 (vwn S 2 6) tk os (vwn S 14 6) (vwn S 20 6) (vwn S 26 6) (vwn S 51 24) le (S 32) (bitF S) (S 0) (S 1) t (S 33) (-1) wa, MO G b2 (vwn K 2 6) tk2 os2 (vwn K 14 6) (vwn K 20 6) (vwn K 26 6) (vwn K 51 24) le2 (K 32) (bitF K) (K 0) (K 1) t2 (K 33) st2 wa2, RW G r1 100 (vwn S 122 100) a2 a3 (nI (sn S 37)) (vwn K 122 100) ag2 ag3 (nI (sn K 37)), RW G r2 5 (vwn S 75 5) (vwn S 80 5) (vwn S 85 5) (nI (sn S 34)) (vwn K 75 5) (vwn K 80 5) (vwn K 85 5) (nI (sn K 34)), RW G r3 8 (vwn S 90 8) (vwn S 98 8) p3 (nI (sn S 35)) (vwn K 90 8) (vwn K 98 8) pg3 (nI (sn K 35)), RW G r4 8 (vwn S 106 8) (vwn S 114 8) k3 (nI (sn S 36)) (vwn K 106 8) (vwn K 114 8) bg3 (nI (sn K 36))]) ro (fun r ws' ro' => ∃ (ag2' : Nat → Int32), ∃ (ag3' : Nat → Int32), ∃ (pg3' : Nat → Int32), ∃ (bg3' : Nat → Int32), r = some (.int (S 32)) ∧ ws' = (List.flatten [SP x r1 r2 r3 r4 r5 d b1 b2 b3 (nI 1), MO G b1 (vwn S 2 6) tk os (vwn S 14 6) (vwn S 20 6) (vwn S 26 6) (vwn S 51 24) le (S 32) (bitF S) (S 0) (S 1) t (S 33) (-1) wa, MO G b2 (vwn S 2 6) tk2 (cpO 6 os os2) (vwn S 14 6) (vwn S 20 6) (vwn S 26 6) (vwn S 51 24) le2 (S 32) (bitF S) (S 0) (S 1) t (S 33) (-1) (nI 0), RW G r1 100 (vwn S 122 100) a2 a3 (nI (sn S 37)) (vwn S 122 100) ag2' ag3' (nI (sn S 37)), RW G r2 5 (vwn S 75 5) (vwn S 80 5) (vwn S 85 5) (nI (sn S 34)) (vwn S 75 5) (vwn S 80 5) (vwn S 85 5) (nI (sn S 34)), RW G r3 8 (vwn S 90 8) (vwn S 98 8) p3 (nI (sn S 35)) (vwn S 90 8) (vwn S 98 8) pg3' (nI (sn S 35)), RW G r4 8 (vwn S 106 8) (vwn S 114 8) k3 (nI (sn S 36)) (vwn S 106 8) (vwn S 114 8) bg3' (nI (sn S 36))]) ∧ ro = ro') := by
  refine mth_of (by decide +kernel) (Nat.le_of_ble_eq_true rfl) (fun X hC hR => ?_)
  have b32 := hW.peo.le
  show Ev G X 0 0 0 [(0, .ref x)] [] (List.flatten [SP x r1 r2 r3 r4 r5 d b1 b2 b3 hi, MO G b1 (vwn S 2 6) tk os (vwn S 14 6) (vwn S 20 6) (vwn S 26 6) (vwn S 51 24) le (S 32) (bitF S) (S 0) (S 1) t (S 33) (-1) wa, MO G b2 (vwn K 2 6) tk2 os2 (vwn K 14 6) (vwn K 20 6) (vwn K 26 6) (vwn K 51 24) le2 (K 32) (bitF K) (K 0) (K 1) t2 (K 33) st2 wa2, RW G r1 100 (vwn S 122 100) a2 a3 (nI (sn S 37)) (vwn K 122 100) ag2 ag3 (nI (sn K 37)), RW G r2 5 (vwn S 75 5) (vwn S 80 5) (vwn S 85 5) (nI (sn S 34)) (vwn K 75 5) (vwn K 80 5) (vwn K 85 5) (nI (sn K 34)), RW G r3 8 (vwn S 90 8) (vwn S 98 8) p3 (nI (sn S 35)) (vwn K 90 8) (vwn K 98 8) pg3 (nI (sn K 35)), RW G r4 8 (vwn S 106 8) (vwn S 114 8) k3 (nI (sn S 36)) (vwn K 106 8) (vwn K 114 8) bg3 (nI (sn K 36))]) ro
  refine ev_aload_n hC dX11_image_0 rfl 0 rfl ?_
  refine ev_get hC fl_X11_62_11 (mw 0 rfl) rfl dX11_image_1 ?_
  refine ev_aload_n hC dX11_image_4 rfl 0 rfl ?_
  refine ev_get hC fl_X11_58_11 (mw 0 rfl) rfl dX11_image_5 ?_
  refine ev_callV (As := [.ref (b1 0)]) (st := []) (wf := (List.flatten [SP x r1 r2 r3 r4 r5 d b1 b2 b3 hi, RW G r1 100 (vwn S 122 100) a2 a3 (nI (sn S 37)) (vwn K 122 100) ag2 ag3 (nI (sn K 37)), RW G r2 5 (vwn S 75 5) (vwn S 80 5) (vwn S 85 5) (nI (sn S 34)) (vwn K 75 5) (vwn K 80 5) (vwn K 85 5) (nI (sn K 34)), RW G r3 8 (vwn S 90 8) (vwn S 98 8) p3 (nI (sn S 35)) (vwn K 90 8) (vwn K 98 8) pg3 (nI (sn K 35)), RW G r4 8 (vwn S 106 8) (vwn S 114 8) k3 (nI (sn S 36)) (vwn K 106 8) (vwn K 114 8) bg3 (nI (sn K 36))])) hC cv_X11_270 (m_X3_copyFrom G ro b2 b1 K S tk2 le2 tk le os2 os t2 t (r5 0) st2 wa2 (-1) wa hW hO) (by omega) rfl rfl (Nat.le_of_ble_eq_true rfl) (perm_sg (n := 7) [2, 1, 0, 3, 4, 5, 6] rfl rfl (by decide)) (mw 10 rfl) rfl dX11_image_8 (by omega) (by omega) ?_
  rintro _ _ _ ⟨rfl, rfl, rfl⟩
  show Ev G X 0 0 11 [(0, .ref x)] [] (List.flatten [MO G b2 (vwn S 2 6) tk2 (cpO 6 os os2) (vwn S 14 6) (vwn S 20 6) (vwn S 26 6) (vwn S 51 24) le2 (S 32) (bitF S) (S 0) (S 1) t (S 33) (-1) (nI 0), MO G b1 (vwn S 2 6) tk os (vwn S 14 6) (vwn S 20 6) (vwn S 26 6) (vwn S 51 24) le (S 32) (bitF S) (S 0) (S 1) t (S 33) (-1) wa, SP x r1 r2 r3 r4 r5 d b1 b2 b3 hi, RW G r1 100 (vwn S 122 100) a2 a3 (nI (sn S 37)) (vwn K 122 100) ag2 ag3 (nI (sn K 37)), RW G r2 5 (vwn S 75 5) (vwn S 80 5) (vwn S 85 5) (nI (sn S 34)) (vwn K 75 5) (vwn K 80 5) (vwn K 85 5) (nI (sn K 34)), RW G r3 8 (vwn S 90 8) (vwn S 98 8) p3 (nI (sn S 35)) (vwn K 90 8) (vwn K 98 8) pg3 (nI (sn K 35)), RW G r4 8 (vwn S 106 8) (vwn S 114 8) k3 (nI (sn S 36)) (vwn K 106 8) (vwn K 114 8) bg3 (nI (sn K 36))]) ro
  refine ev_perm (ws' := (List.flatten [SP x r1 r2 r3 r4 r5 d b1 b2 b3 hi, MO G b1 (vwn S 2 6) tk os (vwn S 14 6) (vwn S 20 6) (vwn S 26 6) (vwn S 51 24) le (S 32) (bitF S) (S 0) (S 1) t (S 33) (-1) wa, MO G b2 (vwn S 2 6) tk2 (cpO 6 os os2) (vwn S 14 6) (vwn S 20 6) (vwn S 26 6) (vwn S 51 24) le2 (S 32) (bitF S) (S 0) (S 1) t (S 33) (-1) (nI 0), RW G r1 100 (vwn S 122 100) a2 a3 (nI (sn S 37)) (vwn K 122 100) ag2 ag3 (nI (sn K 37)), RW G r2 5 (vwn S 75 5) (vwn S 80 5) (vwn S 85 5) (nI (sn S 34)) (vwn K 75 5) (vwn K 80 5) (vwn K 85 5) (nI (sn K 34)), RW G r3 8 (vwn S 90 8) (vwn S 98 8) p3 (nI (sn S 35)) (vwn K 90 8) (vwn K 98 8) pg3 (nI (sn K 35)), RW G r4 8 (vwn S 106 8) (vwn S 114 8) k3 (nI (sn S 36)) (vwn K 106 8) (vwn K 114 8) bg3 (nI (sn K 36))])) (perm_sg2 (n := 7) [2, 1, 0, 3, 4, 5, 6] rfl rfl (by decide)) ?_
  refine ev_aload_n hC dX11_image_11 rfl 0 rfl ?_
  refine ev_get hC fl_X11_16_11 (mw 0 rfl) rfl dX11_image_12 ?_
  refine ev_callV (As := []) (st := []) (wf := (List.flatten [SP x r1 r2 r3 r4 r5 d b1 b2 b3 hi, MO G b1 (vwn S 2 6) tk os (vwn S 14 6) (vwn S 20 6) (vwn S 26 6) (vwn S 51 24) le (S 32) (bitF S) (S 0) (S 1) t (S 33) (-1) wa, MO G b2 (vwn S 2 6) tk2 (cpO 6 os os2) (vwn S 14 6) (vwn S 20 6) (vwn S 26 6) (vwn S 51 24) le2 (S 32) (bitF S) (S 0) (S 1) t (S 33) (-1) (nI 0), RW G r2 5 (vwn S 75 5) (vwn S 80 5) (vwn S 85 5) (nI (sn S 34)) (vwn K 75 5) (vwn K 80 5) (vwn K 85 5) (nI (sn K 34)), RW G r3 8 (vwn S 90 8) (vwn S 98 8) p3 (nI (sn S 35)) (vwn K 90 8) (vwn K 98 8) pg3 (nI (sn K 35)), RW G r4 8 (vwn S 106 8) (vwn S 114 8) k3 (nI (sn S 36)) (vwn K 106 8) (vwn K 114 8) bg3 (nI (sn K 36))])) hC cv_X11_274 (m_X7_keep G ro r1 100 (vwn S 122 100) a2 a3 (vwn K 122 100) ag2 ag3 (nI (sn S 37)) (nI (sn K 37)) (by omega)) (by omega) rfl rfl (Nat.le_of_ble_eq_true rfl) (perm_sg (n := 7) [3, 0, 1, 2, 4, 5, 6] rfl rfl (by decide)) (mw 19 rfl) rfl dX11_image_15 (by omega) (by omega) ?_
  rintro _ _ _ ⟨rfl, rfl, rfl⟩
  show Ev G X 0 0 18 [(0, .ref x)] [] (List.flatten [RW G r1 100 (vwn S 122 100) a2 a3 (nI (sn S 37)) (cpF 100 (vwn S 122 100) (vwn K 122 100)) (cpF 100 a2 ag2) (cpF 100 a3 ag3) (nI (sn S 37)), SP x r1 r2 r3 r4 r5 d b1 b2 b3 hi, MO G b1 (vwn S 2 6) tk os (vwn S 14 6) (vwn S 20 6) (vwn S 26 6) (vwn S 51 24) le (S 32) (bitF S) (S 0) (S 1) t (S 33) (-1) wa, MO G b2 (vwn S 2 6) tk2 (cpO 6 os os2) (vwn S 14 6) (vwn S 20 6) (vwn S 26 6) (vwn S 51 24) le2 (S 32) (bitF S) (S 0) (S 1) t (S 33) (-1) (nI 0), RW G r2 5 (vwn S 75 5) (vwn S 80 5) (vwn S 85 5) (nI (sn S 34)) (vwn K 75 5) (vwn K 80 5) (vwn K 85 5) (nI (sn K 34)), RW G r3 8 (vwn S 90 8) (vwn S 98 8) p3 (nI (sn S 35)) (vwn K 90 8) (vwn K 98 8) pg3 (nI (sn K 35)), RW G r4 8 (vwn S 106 8) (vwn S 114 8) k3 (nI (sn S 36)) (vwn K 106 8) (vwn K 114 8) bg3 (nI (sn K 36))]) ro
  refine ev_perm (ws' := (List.flatten [SP x r1 r2 r3 r4 r5 d b1 b2 b3 hi, MO G b1 (vwn S 2 6) tk os (vwn S 14 6) (vwn S 20 6) (vwn S 26 6) (vwn S 51 24) le (S 32) (bitF S) (S 0) (S 1) t (S 33) (-1) wa, MO G b2 (vwn S 2 6) tk2 (cpO 6 os os2) (vwn S 14 6) (vwn S 20 6) (vwn S 26 6) (vwn S 51 24) le2 (S 32) (bitF S) (S 0) (S 1) t (S 33) (-1) (nI 0), RW G r1 100 (vwn S 122 100) a2 a3 (nI (sn S 37)) (cpF 100 (vwn S 122 100) (vwn K 122 100)) (cpF 100 a2 ag2) (cpF 100 a3 ag3) (nI (sn S 37)), RW G r2 5 (vwn S 75 5) (vwn S 80 5) (vwn S 85 5) (nI (sn S 34)) (vwn K 75 5) (vwn K 80 5) (vwn K 85 5) (nI (sn K 34)), RW G r3 8 (vwn S 90 8) (vwn S 98 8) p3 (nI (sn S 35)) (vwn K 90 8) (vwn K 98 8) pg3 (nI (sn K 35)), RW G r4 8 (vwn S 106 8) (vwn S 114 8) k3 (nI (sn S 36)) (vwn K 106 8) (vwn K 114 8) bg3 (nI (sn K 36))])) (perm_sg2 (n := 7) [1, 2, 3, 0, 4, 5, 6] rfl rfl (by decide)) ?_
  refine ev_aload_n hC dX11_image_18 rfl 0 rfl ?_
  refine ev_get hC fl_X11_20_11 (mw 0 rfl) rfl dX11_image_19 ?_
  refine ev_callV (As := []) (st := []) (wf := (List.flatten [SP x r1 r2 r3 r4 r5 d b1 b2 b3 hi, MO G b1 (vwn S 2 6) tk os (vwn S 14 6) (vwn S 20 6) (vwn S 26 6) (vwn S 51 24) le (S 32) (bitF S) (S 0) (S 1) t (S 33) (-1) wa, MO G b2 (vwn S 2 6) tk2 (cpO 6 os os2) (vwn S 14 6) (vwn S 20 6) (vwn S 26 6) (vwn S 51 24) le2 (S 32) (bitF S) (S 0) (S 1) t (S 33) (-1) (nI 0), RW G r1 100 (vwn S 122 100) a2 a3 (nI (sn S 37)) (cpF 100 (vwn S 122 100) (vwn K 122 100)) (cpF 100 a2 ag2) (cpF 100 a3 ag3) (nI (sn S 37)), RW G r3 8 (vwn S 90 8) (vwn S 98 8) p3 (nI (sn S 35)) (vwn K 90 8) (vwn K 98 8) pg3 (nI (sn K 35)), RW G r4 8 (vwn S 106 8) (vwn S 114 8) k3 (nI (sn S 36)) (vwn K 106 8) (vwn K 114 8) bg3 (nI (sn K 36))])) hC cv_X11_274 (m_X7_keep G ro r2 5 (vwn S 75 5) (vwn S 80 5) (vwn S 85 5) (vwn K 75 5) (vwn K 80 5) (vwn K 85 5) (nI (sn S 34)) (nI (sn K 34)) (by omega)) (by omega) rfl rfl (Nat.le_of_ble_eq_true rfl) (perm_sg (n := 7) [4, 0, 1, 2, 3, 5, 6] rfl rfl (by decide)) (mw 26 rfl) rfl dX11_image_22 (by omega) (by omega) ?_
  rintro _ _ _ ⟨rfl, rfl, rfl⟩
  show Ev G X 0 0 25 [(0, .ref x)] [] (List.flatten [RW G r2 5 (vwn S 75 5) (vwn S 80 5) (vwn S 85 5) (nI (sn S 34)) (cpF 5 (vwn S 75 5) (vwn K 75 5)) (cpF 5 (vwn S 80 5) (vwn K 80 5)) (cpF 5 (vwn S 85 5) (vwn K 85 5)) (nI (sn S 34)), SP x r1 r2 r3 r4 r5 d b1 b2 b3 hi, MO G b1 (vwn S 2 6) tk os (vwn S 14 6) (vwn S 20 6) (vwn S 26 6) (vwn S 51 24) le (S 32) (bitF S) (S 0) (S 1) t (S 33) (-1) wa, MO G b2 (vwn S 2 6) tk2 (cpO 6 os os2) (vwn S 14 6) (vwn S 20 6) (vwn S 26 6) (vwn S 51 24) le2 (S 32) (bitF S) (S 0) (S 1) t (S 33) (-1) (nI 0), RW G r1 100 (vwn S 122 100) a2 a3 (nI (sn S 37)) (cpF 100 (vwn S 122 100) (vwn K 122 100)) (cpF 100 a2 ag2) (cpF 100 a3 ag3) (nI (sn S 37)), RW G r3 8 (vwn S 90 8) (vwn S 98 8) p3 (nI (sn S 35)) (vwn K 90 8) (vwn K 98 8) pg3 (nI (sn K 35)), RW G r4 8 (vwn S 106 8) (vwn S 114 8) k3 (nI (sn S 36)) (vwn K 106 8) (vwn K 114 8) bg3 (nI (sn K 36))]) ro
  refine ev_perm (ws' := (List.flatten [SP x r1 r2 r3 r4 r5 d b1 b2 b3 hi, MO G b1 (vwn S 2 6) tk os (vwn S 14 6) (vwn S 20 6) (vwn S 26 6) (vwn S 51 24) le (S 32) (bitF S) (S 0) (S 1) t (S 33) (-1) wa, MO G b2 (vwn S 2 6) tk2 (cpO 6 os os2) (vwn S 14 6) (vwn S 20 6) (vwn S 26 6) (vwn S 51 24) le2 (S 32) (bitF S) (S 0) (S 1) t (S 33) (-1) (nI 0), RW G r1 100 (vwn S 122 100) a2 a3 (nI (sn S 37)) (cpF 100 (vwn S 122 100) (vwn K 122 100)) (cpF 100 a2 ag2) (cpF 100 a3 ag3) (nI (sn S 37)), RW G r2 5 (vwn S 75 5) (vwn S 80 5) (vwn S 85 5) (nI (sn S 34)) (cpF 5 (vwn S 75 5) (vwn K 75 5)) (cpF 5 (vwn S 80 5) (vwn K 80 5)) (cpF 5 (vwn S 85 5) (vwn K 85 5)) (nI (sn S 34)), RW G r3 8 (vwn S 90 8) (vwn S 98 8) p3 (nI (sn S 35)) (vwn K 90 8) (vwn K 98 8) pg3 (nI (sn K 35)), RW G r4 8 (vwn S 106 8) (vwn S 114 8) k3 (nI (sn S 36)) (vwn K 106 8) (vwn K 114 8) bg3 (nI (sn K 36))])) (perm_sg2 (n := 7) [1, 2, 3, 4, 0, 5, 6] rfl rfl (by decide)) ?_
  refine ev_aload_n hC dX11_image_25 rfl 0 rfl ?_
  refine ev_get hC fl_X11_23_11 (mw 0 rfl) rfl dX11_image_26 ?_
  refine ev_callV (As := []) (st := []) (wf := (List.flatten [SP x r1 r2 r3 r4 r5 d b1 b2 b3 hi, MO G b1 (vwn S 2 6) tk os (vwn S 14 6) (vwn S 20 6) (vwn S 26 6) (vwn S 51 24) le (S 32) (bitF S) (S 0) (S 1) t (S 33) (-1) wa, MO G b2 (vwn S 2 6) tk2 (cpO 6 os os2) (vwn S 14 6) (vwn S 20 6) (vwn S 26 6) (vwn S 51 24) le2 (S 32) (bitF S) (S 0) (S 1) t (S 33) (-1) (nI 0), RW G r1 100 (vwn S 122 100) a2 a3 (nI (sn S 37)) (cpF 100 (vwn S 122 100) (vwn K 122 100)) (cpF 100 a2 ag2) (cpF 100 a3 ag3) (nI (sn S 37)), RW G r2 5 (vwn S 75 5) (vwn S 80 5) (vwn S 85 5) (nI (sn S 34)) (cpF 5 (vwn S 75 5) (vwn K 75 5)) (cpF 5 (vwn S 80 5) (vwn K 80 5)) (cpF 5 (vwn S 85 5) (vwn K 85 5)) (nI (sn S 34)), RW G r4 8 (vwn S 106 8) (vwn S 114 8) k3 (nI (sn S 36)) (vwn K 106 8) (vwn K 114 8) bg3 (nI (sn K 36))])) hC cv_X11_274 (m_X7_keep G ro r3 8 (vwn S 90 8) (vwn S 98 8) p3 (vwn K 90 8) (vwn K 98 8) pg3 (nI (sn S 35)) (nI (sn K 35)) (by omega)) (by omega) rfl rfl (Nat.le_of_ble_eq_true rfl) (perm_sg (n := 7) [5, 0, 1, 2, 3, 4, 6] rfl rfl (by decide)) (mw 33 rfl) rfl dX11_image_29 (by omega) (by omega) ?_
  rintro _ _ _ ⟨rfl, rfl, rfl⟩
  show Ev G X 0 0 32 [(0, .ref x)] [] (List.flatten [RW G r3 8 (vwn S 90 8) (vwn S 98 8) p3 (nI (sn S 35)) (cpF 8 (vwn S 90 8) (vwn K 90 8)) (cpF 8 (vwn S 98 8) (vwn K 98 8)) (cpF 8 p3 pg3) (nI (sn S 35)), SP x r1 r2 r3 r4 r5 d b1 b2 b3 hi, MO G b1 (vwn S 2 6) tk os (vwn S 14 6) (vwn S 20 6) (vwn S 26 6) (vwn S 51 24) le (S 32) (bitF S) (S 0) (S 1) t (S 33) (-1) wa, MO G b2 (vwn S 2 6) tk2 (cpO 6 os os2) (vwn S 14 6) (vwn S 20 6) (vwn S 26 6) (vwn S 51 24) le2 (S 32) (bitF S) (S 0) (S 1) t (S 33) (-1) (nI 0), RW G r1 100 (vwn S 122 100) a2 a3 (nI (sn S 37)) (cpF 100 (vwn S 122 100) (vwn K 122 100)) (cpF 100 a2 ag2) (cpF 100 a3 ag3) (nI (sn S 37)), RW G r2 5 (vwn S 75 5) (vwn S 80 5) (vwn S 85 5) (nI (sn S 34)) (cpF 5 (vwn S 75 5) (vwn K 75 5)) (cpF 5 (vwn S 80 5) (vwn K 80 5)) (cpF 5 (vwn S 85 5) (vwn K 85 5)) (nI (sn S 34)), RW G r4 8 (vwn S 106 8) (vwn S 114 8) k3 (nI (sn S 36)) (vwn K 106 8) (vwn K 114 8) bg3 (nI (sn K 36))]) ro
  refine ev_perm (ws' := (List.flatten [SP x r1 r2 r3 r4 r5 d b1 b2 b3 hi, MO G b1 (vwn S 2 6) tk os (vwn S 14 6) (vwn S 20 6) (vwn S 26 6) (vwn S 51 24) le (S 32) (bitF S) (S 0) (S 1) t (S 33) (-1) wa, MO G b2 (vwn S 2 6) tk2 (cpO 6 os os2) (vwn S 14 6) (vwn S 20 6) (vwn S 26 6) (vwn S 51 24) le2 (S 32) (bitF S) (S 0) (S 1) t (S 33) (-1) (nI 0), RW G r1 100 (vwn S 122 100) a2 a3 (nI (sn S 37)) (cpF 100 (vwn S 122 100) (vwn K 122 100)) (cpF 100 a2 ag2) (cpF 100 a3 ag3) (nI (sn S 37)), RW G r2 5 (vwn S 75 5) (vwn S 80 5) (vwn S 85 5) (nI (sn S 34)) (cpF 5 (vwn S 75 5) (vwn K 75 5)) (cpF 5 (vwn S 80 5) (vwn K 80 5)) (cpF 5 (vwn S 85 5) (vwn K 85 5)) (nI (sn S 34)), RW G r3 8 (vwn S 90 8) (vwn S 98 8) p3 (nI (sn S 35)) (cpF 8 (vwn S 90 8) (vwn K 90 8)) (cpF 8 (vwn S 98 8) (vwn K 98 8)) (cpF 8 p3 pg3) (nI (sn S 35)), RW G r4 8 (vwn S 106 8) (vwn S 114 8) k3 (nI (sn S 36)) (vwn K 106 8) (vwn K 114 8) bg3 (nI (sn K 36))])) (perm_sg2 (n := 7) [1, 2, 3, 4, 5, 0, 6] rfl rfl (by decide)) ?_
  refine ev_aload_n hC dX11_image_32 rfl 0 rfl ?_
  refine ev_get hC fl_X11_26_11 (mw 0 rfl) rfl dX11_image_33 ?_
  refine ev_callV (As := []) (st := []) (wf := (List.flatten [SP x r1 r2 r3 r4 r5 d b1 b2 b3 hi, MO G b1 (vwn S 2 6) tk os (vwn S 14 6) (vwn S 20 6) (vwn S 26 6) (vwn S 51 24) le (S 32) (bitF S) (S 0) (S 1) t (S 33) (-1) wa, MO G b2 (vwn S 2 6) tk2 (cpO 6 os os2) (vwn S 14 6) (vwn S 20 6) (vwn S 26 6) (vwn S 51 24) le2 (S 32) (bitF S) (S 0) (S 1) t (S 33) (-1) (nI 0), RW G r1 100 (vwn S 122 100) a2 a3 (nI (sn S 37)) (cpF 100 (vwn S 122 100) (vwn K 122 100)) (cpF 100 a2 ag2) (cpF 100 a3 ag3) (nI (sn S 37)), RW G r2 5 (vwn S 75 5) (vwn S 80 5) (vwn S 85 5) (nI (sn S 34)) (cpF 5 (vwn S 75 5) (vwn K 75 5)) (cpF 5 (vwn S 80 5) (vwn K 80 5)) (cpF 5 (vwn S 85 5) (vwn K 85 5)) (nI (sn S 34)), RW G r3 8 (vwn S 90 8) (vwn S 98 8) p3 (nI (sn S 35)) (cpF 8 (vwn S 90 8) (vwn K 90 8)) (cpF 8 (vwn S 98 8) (vwn K 98 8)) (cpF 8 p3 pg3) (nI (sn S 35))])) hC cv_X11_274 (m_X7_keep G ro r4 8 (vwn S 106 8) (vwn S 114 8) k3 (vwn K 106 8) (vwn K 114 8) bg3 (nI (sn S 36)) (nI (sn K 36)) (by omega)) (by omega) rfl rfl (Nat.le_of_ble_eq_true rfl) (perm_sg (n := 7) [6, 0, 1, 2, 3, 4, 5] rfl rfl (by decide)) (mw 40 rfl) rfl dX11_image_36 (by omega) (by omega) ?_
  rintro _ _ _ ⟨rfl, rfl, rfl⟩
  show Ev G X 0 0 39 [(0, .ref x)] [] (List.flatten [RW G r4 8 (vwn S 106 8) (vwn S 114 8) k3 (nI (sn S 36)) (cpF 8 (vwn S 106 8) (vwn K 106 8)) (cpF 8 (vwn S 114 8) (vwn K 114 8)) (cpF 8 k3 bg3) (nI (sn S 36)), SP x r1 r2 r3 r4 r5 d b1 b2 b3 hi, MO G b1 (vwn S 2 6) tk os (vwn S 14 6) (vwn S 20 6) (vwn S 26 6) (vwn S 51 24) le (S 32) (bitF S) (S 0) (S 1) t (S 33) (-1) wa, MO G b2 (vwn S 2 6) tk2 (cpO 6 os os2) (vwn S 14 6) (vwn S 20 6) (vwn S 26 6) (vwn S 51 24) le2 (S 32) (bitF S) (S 0) (S 1) t (S 33) (-1) (nI 0), RW G r1 100 (vwn S 122 100) a2 a3 (nI (sn S 37)) (cpF 100 (vwn S 122 100) (vwn K 122 100)) (cpF 100 a2 ag2) (cpF 100 a3 ag3) (nI (sn S 37)), RW G r2 5 (vwn S 75 5) (vwn S 80 5) (vwn S 85 5) (nI (sn S 34)) (cpF 5 (vwn S 75 5) (vwn K 75 5)) (cpF 5 (vwn S 80 5) (vwn K 80 5)) (cpF 5 (vwn S 85 5) (vwn K 85 5)) (nI (sn S 34)), RW G r3 8 (vwn S 90 8) (vwn S 98 8) p3 (nI (sn S 35)) (cpF 8 (vwn S 90 8) (vwn K 90 8)) (cpF 8 (vwn S 98 8) (vwn K 98 8)) (cpF 8 p3 pg3) (nI (sn S 35))]) ro
  refine ev_perm (ws' := (List.flatten [SP x r1 r2 r3 r4 r5 d b1 b2 b3 hi, MO G b1 (vwn S 2 6) tk os (vwn S 14 6) (vwn S 20 6) (vwn S 26 6) (vwn S 51 24) le (S 32) (bitF S) (S 0) (S 1) t (S 33) (-1) wa, MO G b2 (vwn S 2 6) tk2 (cpO 6 os os2) (vwn S 14 6) (vwn S 20 6) (vwn S 26 6) (vwn S 51 24) le2 (S 32) (bitF S) (S 0) (S 1) t (S 33) (-1) (nI 0), RW G r1 100 (vwn S 122 100) a2 a3 (nI (sn S 37)) (cpF 100 (vwn S 122 100) (vwn K 122 100)) (cpF 100 a2 ag2) (cpF 100 a3 ag3) (nI (sn S 37)), RW G r2 5 (vwn S 75 5) (vwn S 80 5) (vwn S 85 5) (nI (sn S 34)) (cpF 5 (vwn S 75 5) (vwn K 75 5)) (cpF 5 (vwn S 80 5) (vwn K 80 5)) (cpF 5 (vwn S 85 5) (vwn K 85 5)) (nI (sn S 34)), RW G r3 8 (vwn S 90 8) (vwn S 98 8) p3 (nI (sn S 35)) (cpF 8 (vwn S 90 8) (vwn K 90 8)) (cpF 8 (vwn S 98 8) (vwn K 98 8)) (cpF 8 p3 pg3) (nI (sn S 35)), RW G r4 8 (vwn S 106 8) (vwn S 114 8) k3 (nI (sn S 36)) (cpF 8 (vwn S 106 8) (vwn K 106 8)) (cpF 8 (vwn S 114 8) (vwn K 114 8)) (cpF 8 k3 bg3) (nI (sn S 36))])) (perm_sg2 (n := 7) [1, 2, 3, 4, 5, 6, 0] rfl rfl (by decide)) ?_
  refine ev_aload_n hC dX11_image_39 rfl 0 rfl ?_
  refine ev_iconst (v := (nI 1)) hC dX11_image_40 (by decide) ?_
  refine ev_put (ws' := (List.flatten [SP x r1 r2 r3 r4 r5 d b1 b2 b3 (nI 1), MO G b1 (vwn S 2 6) tk os (vwn S 14 6) (vwn S 20 6) (vwn S 26 6) (vwn S 51 24) le (S 32) (bitF S) (S 0) (S 1) t (S 33) (-1) wa, MO G b2 (vwn S 2 6) tk2 (cpO 6 os os2) (vwn S 14 6) (vwn S 20 6) (vwn S 26 6) (vwn S 51 24) le2 (S 32) (bitF S) (S 0) (S 1) t (S 33) (-1) (nI 0), RW G r1 100 (vwn S 122 100) a2 a3 (nI (sn S 37)) (cpF 100 (vwn S 122 100) (vwn K 122 100)) (cpF 100 a2 ag2) (cpF 100 a3 ag3) (nI (sn S 37)), RW G r2 5 (vwn S 75 5) (vwn S 80 5) (vwn S 85 5) (nI (sn S 34)) (cpF 5 (vwn S 75 5) (vwn K 75 5)) (cpF 5 (vwn S 80 5) (vwn K 80 5)) (cpF 5 (vwn S 85 5) (vwn K 85 5)) (nI (sn S 34)), RW G r3 8 (vwn S 90 8) (vwn S 98 8) p3 (nI (sn S 35)) (cpF 8 (vwn S 90 8) (vwn K 90 8)) (cpF 8 (vwn S 98 8) (vwn K 98 8)) (cpF 8 p3 pg3) (nI (sn S 35)), RW G r4 8 (vwn S 106 8) (vwn S 114 8) k3 (nI (sn S 36)) (cpF 8 (vwn S 106 8) (vwn K 106 8)) (cpF 8 (vwn S 114 8) (vwn K 114 8)) (cpF 8 k3 bg3) (nI (sn S 36))])) (q0 := 0) hC fp_X11_39_11 rfl (Nat.le_of_ble_eq_true rfl) (nar_01 (by decide)).1 (nar_01 (by decide)).2.1 rfl dX11_image_41 ?_
  refine ev_aload_n hC dX11_image_44 rfl 0 rfl ?_
  refine ev_get hC fl_X11_58_11 (mw 0 rfl) rfl dX11_image_45 ?_
  refine ev_get hC fl_X11_107_3 (mw 1 rfl) rfl dX11_image_48 ?_
  refine ev_iret hC hR rfl dX11_image_51 ?_
  exact ⟨(cpF 100 a2 ag2), (cpF 100 a3 ag3), (cpF 8 p3 pg3), (cpF 8 k3 bg3), rfl, by simp only [cpF_vwn], rfl⟩

set_option maxHeartbeats 4000000 in
set_option maxRecDepth 100000 in
theorem m_X11_undo0 (G : GG) (ro : va_W) (x : Nat) (r1 r2 r3 r4 r5 d b1 b2 b3 : Nat → Nat) (hi : Int32) (S tk le T tk3 le3 : Nat → Int32) (os os3 : Nat → Option Nat) (t t3 : Nat) (wa st3 wa3 : Int32)  (K tk2 le2 : Nat → Int32) (os2 : Nat → Option Nat) (t2 : Nat) (st2 wa2 : Int32) (a2 a3 ag2 ag3 p3 pg3 k3 bg3 : Nat → Int32) (hW : WF S 9999 9999) (hO : MoOK G ro (r5 0) S os t) (hhi : hi = nI 0) : Mth G M_X11_undo 8 0 0 [.ref x] (SP x r1 r2 r3 r4 r5 d b1 b2 b3 hi) ro (fun r ws' ro' => r = some (.int (-3)) ∧ ws' = (SP x r1 r2 r3 r4 r5 d b1 b2 b3 hi) ∧ ro = ro') := by
  refine mth_of (by decide +kernel) (Nat.le_of_ble_eq_true rfl) (fun X hC hR => ?_)
  have b32 := hW.peo.le
  show Ev G X 0 0 0 [(0, .ref x)] [] (SP x r1 r2 r3 r4 r5 d b1 b2 b3 hi) ro
  refine ev_aload_n hC dX11_undo_0 rfl 0 rfl ?_
  refine ev_get hC fl_X11_39_11 (mw 0 rfl) rfl dX11_undo_1 ?_
  refine ev_top (y := (nI 0)) hhi ?_
  refine ev_if_neN (tgt := 10) hC dX11_undo_4 (by decide) (by omega) (fun c_1 => absurd c_1 (by omega)) (fun c_1 => ?_)
  refine ev_bipush (v := (-3)) hC dX11_undo_7 (by decide) ?_
  refine ev_iret hC hR rfl dX11_undo_9 ?_
  exact ⟨rfl, rfl, rfl⟩

set_option maxHeartbeats 4000000 in
set_option maxRecDepth 100000 in
theorem m_X11_undo1 (G : GG) (ro : va_W) (x : Nat) (r1 r2 r3 r4 r5 d b1 b2 b3 : Nat → Nat) (hi : Int32) (S tk le T tk3 le3 : Nat → Int32) (os os3 : Nat → Option Nat) (t t3 : Nat) (wa st3 wa3 : Int32)  (K tk2 le2 : Nat → Int32) (os2 : Nat → Option Nat) (t2 : Nat) (st2 wa2 : Int32) (a2 a3 ag2 ag3 p3 pg3 k3 bg3 : Nat → Int32) (hW : WF S 9999 9999) (hO : MoOK G ro (r5 0) S os t) (hWK : WF K 9999 9999) (hOK : MoOK G ro (r5 0) K os2 t2) (hhi : hi = nI 1) : Mth G M_X11_undo 8 0 0 [.ref x] (List.flatten [SP x r1 r2 r3 r4 r5 d b1 b2 b3 hi, MO G b1 (vwn S 2 6) tk os (vwn S 14 6) (vwn S 20 6) (vwn S 26 6) (vwn S 51 24) le (S 32) (bitF S) (S 0) (S 1) t (S 33) (-1) wa, MO G b2 (vwn K 2 6) tk2 os2 (vwn K 14 6) (vwn K 20 6) (vwn K 26 6) (vwn K 51 24) le2 (K 32) (bitF K) (K 0) (K 1) t2 (K 33) st2 wa2, RW G r1 100 (vwn S 122 100) a2 a3 (nI (sn S 37)) (vwn K 122 100) ag2 ag3 (nI (sn K 37)), RW G r2 5 (vwn S 75 5) (vwn S 80 5) (vwn S 85 5) (nI (sn S 34)) (vwn K 75 5) (vwn K 80 5) (vwn K 85 5) (nI (sn K 34)), RW G r3 8 (vwn S 90 8) (vwn S 98 8) p3 (nI (sn S 35)) (vwn K 90 8) (vwn K 98 8) pg3 (nI (sn K 35)), RW G r4 8 (vwn S 106 8) (vwn S 114 8) k3 (nI (sn S 36)) (vwn K 106 8) (vwn K 114 8) bg3 (nI (sn K 36))]) ro (fun r ws' ro' => ∃ (a2' : Nat → Int32), ∃ (a3' : Nat → Int32), ∃ (p3' : Nat → Int32), ∃ (k3' : Nat → Int32), r = some (.int (K 32)) ∧ ws' = (List.flatten [SP x r1 r2 r3 r4 r5 d b1 b2 b3 hi, MO G b1 (vwn K 2 6) tk (cpO 6 os2 os) (vwn K 14 6) (vwn K 20 6) (vwn K 26 6) (vwn K 51 24) le (K 32) (bitF K) (K 0) (K 1) t2 (K 33) (-1) (nI 0), MO G b2 (vwn K 2 6) tk2 os2 (vwn K 14 6) (vwn K 20 6) (vwn K 26 6) (vwn K 51 24) le2 (K 32) (bitF K) (K 0) (K 1) t2 (K 33) st2 wa2, RW G r1 100 (vwn K 122 100) a2' a3' (nI (sn K 37)) (vwn K 122 100) ag2 ag3 (nI (sn K 37)), RW G r2 5 (vwn K 75 5) (vwn K 80 5) (vwn K 85 5) (nI (sn K 34)) (vwn K 75 5) (vwn K 80 5) (vwn K 85 5) (nI (sn K 34)), RW G r3 8 (vwn K 90 8) (vwn K 98 8) p3' (nI (sn K 35)) (vwn K 90 8) (vwn K 98 8) pg3 (nI (sn K 35)), RW G r4 8 (vwn K 106 8) (vwn K 114 8) k3' (nI (sn K 36)) (vwn K 106 8) (vwn K 114 8) bg3 (nI (sn K 36))]) ∧ ro = ro') := by
  refine mth_of (by decide +kernel) (Nat.le_of_ble_eq_true rfl) (fun X hC hR => ?_)
  have b32 := hW.peo.le
  show Ev G X 0 0 0 [(0, .ref x)] [] (List.flatten [SP x r1 r2 r3 r4 r5 d b1 b2 b3 hi, MO G b1 (vwn S 2 6) tk os (vwn S 14 6) (vwn S 20 6) (vwn S 26 6) (vwn S 51 24) le (S 32) (bitF S) (S 0) (S 1) t (S 33) (-1) wa, MO G b2 (vwn K 2 6) tk2 os2 (vwn K 14 6) (vwn K 20 6) (vwn K 26 6) (vwn K 51 24) le2 (K 32) (bitF K) (K 0) (K 1) t2 (K 33) st2 wa2, RW G r1 100 (vwn S 122 100) a2 a3 (nI (sn S 37)) (vwn K 122 100) ag2 ag3 (nI (sn K 37)), RW G r2 5 (vwn S 75 5) (vwn S 80 5) (vwn S 85 5) (nI (sn S 34)) (vwn K 75 5) (vwn K 80 5) (vwn K 85 5) (nI (sn K 34)), RW G r3 8 (vwn S 90 8) (vwn S 98 8) p3 (nI (sn S 35)) (vwn K 90 8) (vwn K 98 8) pg3 (nI (sn K 35)), RW G r4 8 (vwn S 106 8) (vwn S 114 8) k3 (nI (sn S 36)) (vwn K 106 8) (vwn K 114 8) bg3 (nI (sn K 36))]) ro
  refine ev_aload_n hC dX11_undo_0 rfl 0 rfl ?_
  refine ev_get hC fl_X11_39_11 (mw 0 rfl) rfl dX11_undo_1 ?_
  refine ev_top (y := (nI 1)) hhi ?_
  refine ev_if_neN (tgt := 10) hC dX11_undo_4 (by decide) (by omega) (fun c_1 => ?_) (fun c_1 => absurd c_1 (by omega))
  refine ev_aload_n hC dX11_undo_10 rfl 0 rfl ?_
  refine ev_get hC fl_X11_58_11 (mw 0 rfl) rfl dX11_undo_11 ?_
  refine ev_aload_n hC dX11_undo_14 rfl 0 rfl ?_
  refine ev_get hC fl_X11_62_11 (mw 0 rfl) rfl dX11_undo_15 ?_
  refine ev_callV (As := [.ref (b2 0)]) (st := []) (wf := (List.flatten [SP x r1 r2 r3 r4 r5 d b1 b2 b3 hi, RW G r1 100 (vwn S 122 100) a2 a3 (nI (sn S 37)) (vwn K 122 100) ag2 ag3 (nI (sn K 37)), RW G r2 5 (vwn S 75 5) (vwn S 80 5) (vwn S 85 5) (nI (sn S 34)) (vwn K 75 5) (vwn K 80 5) (vwn K 85 5) (nI (sn K 34)), RW G r3 8 (vwn S 90 8) (vwn S 98 8) p3 (nI (sn S 35)) (vwn K 90 8) (vwn K 98 8) pg3 (nI (sn K 35)), RW G r4 8 (vwn S 106 8) (vwn S 114 8) k3 (nI (sn S 36)) (vwn K 106 8) (vwn K 114 8) bg3 (nI (sn K 36))])) hC cv_X11_270 (m_X3_copyFrom G ro b1 b2 S K tk le tk2 le2 os os2 t t2 (r5 0) (-1) wa st2 wa2 hWK hOK) (by omega) rfl rfl (Nat.le_of_ble_eq_true rfl) (perm_sg (n := 7) [1, 2, 0, 3, 4, 5, 6] rfl rfl (by decide)) (mw 1 rfl) rfl dX11_undo_18 (by omega) (by omega) ?_
  rintro _ _ _ ⟨rfl, rfl, rfl⟩
  show Ev G X 0 0 21 [(0, .ref x)] [] (List.flatten [MO G b1 (vwn K 2 6) tk (cpO 6 os2 os) (vwn K 14 6) (vwn K 20 6) (vwn K 26 6) (vwn K 51 24) le (K 32) (bitF K) (K 0) (K 1) t2 (K 33) (-1) (nI 0), MO G b2 (vwn K 2 6) tk2 os2 (vwn K 14 6) (vwn K 20 6) (vwn K 26 6) (vwn K 51 24) le2 (K 32) (bitF K) (K 0) (K 1) t2 (K 33) st2 wa2, SP x r1 r2 r3 r4 r5 d b1 b2 b3 hi, RW G r1 100 (vwn S 122 100) a2 a3 (nI (sn S 37)) (vwn K 122 100) ag2 ag3 (nI (sn K 37)), RW G r2 5 (vwn S 75 5) (vwn S 80 5) (vwn S 85 5) (nI (sn S 34)) (vwn K 75 5) (vwn K 80 5) (vwn K 85 5) (nI (sn K 34)), RW G r3 8 (vwn S 90 8) (vwn S 98 8) p3 (nI (sn S 35)) (vwn K 90 8) (vwn K 98 8) pg3 (nI (sn K 35)), RW G r4 8 (vwn S 106 8) (vwn S 114 8) k3 (nI (sn S 36)) (vwn K 106 8) (vwn K 114 8) bg3 (nI (sn K 36))]) ro
  refine ev_perm (ws' := (List.flatten [SP x r1 r2 r3 r4 r5 d b1 b2 b3 hi, MO G b1 (vwn K 2 6) tk (cpO 6 os2 os) (vwn K 14 6) (vwn K 20 6) (vwn K 26 6) (vwn K 51 24) le (K 32) (bitF K) (K 0) (K 1) t2 (K 33) (-1) (nI 0), MO G b2 (vwn K 2 6) tk2 os2 (vwn K 14 6) (vwn K 20 6) (vwn K 26 6) (vwn K 51 24) le2 (K 32) (bitF K) (K 0) (K 1) t2 (K 33) st2 wa2, RW G r1 100 (vwn S 122 100) a2 a3 (nI (sn S 37)) (vwn K 122 100) ag2 ag3 (nI (sn K 37)), RW G r2 5 (vwn S 75 5) (vwn S 80 5) (vwn S 85 5) (nI (sn S 34)) (vwn K 75 5) (vwn K 80 5) (vwn K 85 5) (nI (sn K 34)), RW G r3 8 (vwn S 90 8) (vwn S 98 8) p3 (nI (sn S 35)) (vwn K 90 8) (vwn K 98 8) pg3 (nI (sn K 35)), RW G r4 8 (vwn S 106 8) (vwn S 114 8) k3 (nI (sn S 36)) (vwn K 106 8) (vwn K 114 8) bg3 (nI (sn K 36))])) (perm_sg2 (n := 7) [2, 0, 1, 3, 4, 5, 6] rfl rfl (by decide)) ?_
  refine ev_aload_n hC dX11_undo_21 rfl 0 rfl ?_
  refine ev_get hC fl_X11_16_11 (mw 0 rfl) rfl dX11_undo_22 ?_
  refine ev_callV (As := []) (st := []) (wf := (List.flatten [SP x r1 r2 r3 r4 r5 d b1 b2 b3 hi, MO G b1 (vwn K 2 6) tk (cpO 6 os2 os) (vwn K 14 6) (vwn K 20 6) (vwn K 26 6) (vwn K 51 24) le (K 32) (bitF K) (K 0) (K 1) t2 (K 33) (-1) (nI 0), MO G b2 (vwn K 2 6) tk2 os2 (vwn K 14 6) (vwn K 20 6) (vwn K 26 6) (vwn K 51 24) le2 (K 32) (bitF K) (K 0) (K 1) t2 (K 33) st2 wa2, RW G r2 5 (vwn S 75 5) (vwn S 80 5) (vwn S 85 5) (nI (sn S 34)) (vwn K 75 5) (vwn K 80 5) (vwn K 85 5) (nI (sn K 34)), RW G r3 8 (vwn S 90 8) (vwn S 98 8) p3 (nI (sn S 35)) (vwn K 90 8) (vwn K 98 8) pg3 (nI (sn K 35)), RW G r4 8 (vwn S 106 8) (vwn S 114 8) k3 (nI (sn S 36)) (vwn K 106 8) (vwn K 114 8) bg3 (nI (sn K 36))])) hC cv_X11_277 (m_X7_comeBack G ro r1 100 (vwn S 122 100) a2 a3 (vwn K 122 100) ag2 ag3 (nI (sn S 37)) (nI (sn K 37)) (by omega)) (by omega) rfl rfl (Nat.le_of_ble_eq_true rfl) (perm_sg (n := 7) [3, 0, 1, 2, 4, 5, 6] rfl rfl (by decide)) (mw 19 rfl) rfl dX11_undo_25 (by omega) (by omega) ?_
  rintro _ _ _ ⟨rfl, rfl, rfl⟩
  show Ev G X 0 0 28 [(0, .ref x)] [] (List.flatten [RW G r1 100 (cpF 100 (vwn K 122 100) (vwn S 122 100)) (cpF 100 ag2 a2) (cpF 100 ag3 a3) (nI (sn K 37)) (vwn K 122 100) ag2 ag3 (nI (sn K 37)), SP x r1 r2 r3 r4 r5 d b1 b2 b3 hi, MO G b1 (vwn K 2 6) tk (cpO 6 os2 os) (vwn K 14 6) (vwn K 20 6) (vwn K 26 6) (vwn K 51 24) le (K 32) (bitF K) (K 0) (K 1) t2 (K 33) (-1) (nI 0), MO G b2 (vwn K 2 6) tk2 os2 (vwn K 14 6) (vwn K 20 6) (vwn K 26 6) (vwn K 51 24) le2 (K 32) (bitF K) (K 0) (K 1) t2 (K 33) st2 wa2, RW G r2 5 (vwn S 75 5) (vwn S 80 5) (vwn S 85 5) (nI (sn S 34)) (vwn K 75 5) (vwn K 80 5) (vwn K 85 5) (nI (sn K 34)), RW G r3 8 (vwn S 90 8) (vwn S 98 8) p3 (nI (sn S 35)) (vwn K 90 8) (vwn K 98 8) pg3 (nI (sn K 35)), RW G r4 8 (vwn S 106 8) (vwn S 114 8) k3 (nI (sn S 36)) (vwn K 106 8) (vwn K 114 8) bg3 (nI (sn K 36))]) ro
  refine ev_perm (ws' := (List.flatten [SP x r1 r2 r3 r4 r5 d b1 b2 b3 hi, MO G b1 (vwn K 2 6) tk (cpO 6 os2 os) (vwn K 14 6) (vwn K 20 6) (vwn K 26 6) (vwn K 51 24) le (K 32) (bitF K) (K 0) (K 1) t2 (K 33) (-1) (nI 0), MO G b2 (vwn K 2 6) tk2 os2 (vwn K 14 6) (vwn K 20 6) (vwn K 26 6) (vwn K 51 24) le2 (K 32) (bitF K) (K 0) (K 1) t2 (K 33) st2 wa2, RW G r1 100 (cpF 100 (vwn K 122 100) (vwn S 122 100)) (cpF 100 ag2 a2) (cpF 100 ag3 a3) (nI (sn K 37)) (vwn K 122 100) ag2 ag3 (nI (sn K 37)), RW G r2 5 (vwn S 75 5) (vwn S 80 5) (vwn S 85 5) (nI (sn S 34)) (vwn K 75 5) (vwn K 80 5) (vwn K 85 5) (nI (sn K 34)), RW G r3 8 (vwn S 90 8) (vwn S 98 8) p3 (nI (sn S 35)) (vwn K 90 8) (vwn K 98 8) pg3 (nI (sn K 35)), RW G r4 8 (vwn S 106 8) (vwn S 114 8) k3 (nI (sn S 36)) (vwn K 106 8) (vwn K 114 8) bg3 (nI (sn K 36))])) (perm_sg2 (n := 7) [1, 2, 3, 0, 4, 5, 6] rfl rfl (by decide)) ?_
  refine ev_aload_n hC dX11_undo_28 rfl 0 rfl ?_
  refine ev_get hC fl_X11_20_11 (mw 0 rfl) rfl dX11_undo_29 ?_
  refine ev_callV (As := []) (st := []) (wf := (List.flatten [SP x r1 r2 r3 r4 r5 d b1 b2 b3 hi, MO G b1 (vwn K 2 6) tk (cpO 6 os2 os) (vwn K 14 6) (vwn K 20 6) (vwn K 26 6) (vwn K 51 24) le (K 32) (bitF K) (K 0) (K 1) t2 (K 33) (-1) (nI 0), MO G b2 (vwn K 2 6) tk2 os2 (vwn K 14 6) (vwn K 20 6) (vwn K 26 6) (vwn K 51 24) le2 (K 32) (bitF K) (K 0) (K 1) t2 (K 33) st2 wa2, RW G r1 100 (cpF 100 (vwn K 122 100) (vwn S 122 100)) (cpF 100 ag2 a2) (cpF 100 ag3 a3) (nI (sn K 37)) (vwn K 122 100) ag2 ag3 (nI (sn K 37)), RW G r3 8 (vwn S 90 8) (vwn S 98 8) p3 (nI (sn S 35)) (vwn K 90 8) (vwn K 98 8) pg3 (nI (sn K 35)), RW G r4 8 (vwn S 106 8) (vwn S 114 8) k3 (nI (sn S 36)) (vwn K 106 8) (vwn K 114 8) bg3 (nI (sn K 36))])) hC cv_X11_277 (m_X7_comeBack G ro r2 5 (vwn S 75 5) (vwn S 80 5) (vwn S 85 5) (vwn K 75 5) (vwn K 80 5) (vwn K 85 5) (nI (sn S 34)) (nI (sn K 34)) (by omega)) (by omega) rfl rfl (Nat.le_of_ble_eq_true rfl) (perm_sg (n := 7) [4, 0, 1, 2, 3, 5, 6] rfl rfl (by decide)) (mw 26 rfl) rfl dX11_undo_32 (by omega) (by omega) ?_
  rintro _ _ _ ⟨rfl, rfl, rfl⟩
  show Ev G X 0 0 35 [(0, .ref x)] [] (List.flatten [RW G r2 5 (cpF 5 (vwn K 75 5) (vwn S 75 5)) (cpF 5 (vwn K 80 5) (vwn S 80 5)) (cpF 5 (vwn K 85 5) (vwn S 85 5)) (nI (sn K 34)) (vwn K 75 5) (vwn K 80 5) (vwn K 85 5) (nI (sn K 34)), SP x r1 r2 r3 r4 r5 d b1 b2 b3 hi, MO G b1 (vwn K 2 6) tk (cpO 6 os2 os) (vwn K 14 6) (vwn K 20 6) (vwn K 26 6) (vwn K 51 24) le (K 32) (bitF K) (K 0) (K 1) t2 (K 33) (-1) (nI 0), MO G b2 (vwn K 2 6) tk2 os2 (vwn K 14 6) (vwn K 20 6) (vwn K 26 6) (vwn K 51 24) le2 (K 32) (bitF K) (K 0) (K 1) t2 (K 33) st2 wa2, RW G r1 100 (cpF 100 (vwn K 122 100) (vwn S 122 100)) (cpF 100 ag2 a2) (cpF 100 ag3 a3) (nI (sn K 37)) (vwn K 122 100) ag2 ag3 (nI (sn K 37)), RW G r3 8 (vwn S 90 8) (vwn S 98 8) p3 (nI (sn S 35)) (vwn K 90 8) (vwn K 98 8) pg3 (nI (sn K 35)), RW G r4 8 (vwn S 106 8) (vwn S 114 8) k3 (nI (sn S 36)) (vwn K 106 8) (vwn K 114 8) bg3 (nI (sn K 36))]) ro
  refine ev_perm (ws' := (List.flatten [SP x r1 r2 r3 r4 r5 d b1 b2 b3 hi, MO G b1 (vwn K 2 6) tk (cpO 6 os2 os) (vwn K 14 6) (vwn K 20 6) (vwn K 26 6) (vwn K 51 24) le (K 32) (bitF K) (K 0) (K 1) t2 (K 33) (-1) (nI 0), MO G b2 (vwn K 2 6) tk2 os2 (vwn K 14 6) (vwn K 20 6) (vwn K 26 6) (vwn K 51 24) le2 (K 32) (bitF K) (K 0) (K 1) t2 (K 33) st2 wa2, RW G r1 100 (cpF 100 (vwn K 122 100) (vwn S 122 100)) (cpF 100 ag2 a2) (cpF 100 ag3 a3) (nI (sn K 37)) (vwn K 122 100) ag2 ag3 (nI (sn K 37)), RW G r2 5 (cpF 5 (vwn K 75 5) (vwn S 75 5)) (cpF 5 (vwn K 80 5) (vwn S 80 5)) (cpF 5 (vwn K 85 5) (vwn S 85 5)) (nI (sn K 34)) (vwn K 75 5) (vwn K 80 5) (vwn K 85 5) (nI (sn K 34)), RW G r3 8 (vwn S 90 8) (vwn S 98 8) p3 (nI (sn S 35)) (vwn K 90 8) (vwn K 98 8) pg3 (nI (sn K 35)), RW G r4 8 (vwn S 106 8) (vwn S 114 8) k3 (nI (sn S 36)) (vwn K 106 8) (vwn K 114 8) bg3 (nI (sn K 36))])) (perm_sg2 (n := 7) [1, 2, 3, 4, 0, 5, 6] rfl rfl (by decide)) ?_
  refine ev_aload_n hC dX11_undo_35 rfl 0 rfl ?_
  refine ev_get hC fl_X11_23_11 (mw 0 rfl) rfl dX11_undo_36 ?_
  refine ev_callV (As := []) (st := []) (wf := (List.flatten [SP x r1 r2 r3 r4 r5 d b1 b2 b3 hi, MO G b1 (vwn K 2 6) tk (cpO 6 os2 os) (vwn K 14 6) (vwn K 20 6) (vwn K 26 6) (vwn K 51 24) le (K 32) (bitF K) (K 0) (K 1) t2 (K 33) (-1) (nI 0), MO G b2 (vwn K 2 6) tk2 os2 (vwn K 14 6) (vwn K 20 6) (vwn K 26 6) (vwn K 51 24) le2 (K 32) (bitF K) (K 0) (K 1) t2 (K 33) st2 wa2, RW G r1 100 (cpF 100 (vwn K 122 100) (vwn S 122 100)) (cpF 100 ag2 a2) (cpF 100 ag3 a3) (nI (sn K 37)) (vwn K 122 100) ag2 ag3 (nI (sn K 37)), RW G r2 5 (cpF 5 (vwn K 75 5) (vwn S 75 5)) (cpF 5 (vwn K 80 5) (vwn S 80 5)) (cpF 5 (vwn K 85 5) (vwn S 85 5)) (nI (sn K 34)) (vwn K 75 5) (vwn K 80 5) (vwn K 85 5) (nI (sn K 34)), RW G r4 8 (vwn S 106 8) (vwn S 114 8) k3 (nI (sn S 36)) (vwn K 106 8) (vwn K 114 8) bg3 (nI (sn K 36))])) hC cv_X11_277 (m_X7_comeBack G ro r3 8 (vwn S 90 8) (vwn S 98 8) p3 (vwn K 90 8) (vwn K 98 8) pg3 (nI (sn S 35)) (nI (sn K 35)) (by omega)) (by omega) rfl rfl (Nat.le_of_ble_eq_true rfl) (perm_sg (n := 7) [5, 0, 1, 2, 3, 4, 6] rfl rfl (by decide)) (mw 33 rfl) rfl dX11_undo_39 (by omega) (by omega) ?_
  rintro _ _ _ ⟨rfl, rfl, rfl⟩
  show Ev G X 0 0 42 [(0, .ref x)] [] (List.flatten [RW G r3 8 (cpF 8 (vwn K 90 8) (vwn S 90 8)) (cpF 8 (vwn K 98 8) (vwn S 98 8)) (cpF 8 pg3 p3) (nI (sn K 35)) (vwn K 90 8) (vwn K 98 8) pg3 (nI (sn K 35)), SP x r1 r2 r3 r4 r5 d b1 b2 b3 hi, MO G b1 (vwn K 2 6) tk (cpO 6 os2 os) (vwn K 14 6) (vwn K 20 6) (vwn K 26 6) (vwn K 51 24) le (K 32) (bitF K) (K 0) (K 1) t2 (K 33) (-1) (nI 0), MO G b2 (vwn K 2 6) tk2 os2 (vwn K 14 6) (vwn K 20 6) (vwn K 26 6) (vwn K 51 24) le2 (K 32) (bitF K) (K 0) (K 1) t2 (K 33) st2 wa2, RW G r1 100 (cpF 100 (vwn K 122 100) (vwn S 122 100)) (cpF 100 ag2 a2) (cpF 100 ag3 a3) (nI (sn K 37)) (vwn K 122 100) ag2 ag3 (nI (sn K 37)), RW G r2 5 (cpF 5 (vwn K 75 5) (vwn S 75 5)) (cpF 5 (vwn K 80 5) (vwn S 80 5)) (cpF 5 (vwn K 85 5) (vwn S 85 5)) (nI (sn K 34)) (vwn K 75 5) (vwn K 80 5) (vwn K 85 5) (nI (sn K 34)), RW G r4 8 (vwn S 106 8) (vwn S 114 8) k3 (nI (sn S 36)) (vwn K 106 8) (vwn K 114 8) bg3 (nI (sn K 36))]) ro
  refine ev_perm (ws' := (List.flatten [SP x r1 r2 r3 r4 r5 d b1 b2 b3 hi, MO G b1 (vwn K 2 6) tk (cpO 6 os2 os) (vwn K 14 6) (vwn K 20 6) (vwn K 26 6) (vwn K 51 24) le (K 32) (bitF K) (K 0) (K 1) t2 (K 33) (-1) (nI 0), MO G b2 (vwn K 2 6) tk2 os2 (vwn K 14 6) (vwn K 20 6) (vwn K 26 6) (vwn K 51 24) le2 (K 32) (bitF K) (K 0) (K 1) t2 (K 33) st2 wa2, RW G r1 100 (cpF 100 (vwn K 122 100) (vwn S 122 100)) (cpF 100 ag2 a2) (cpF 100 ag3 a3) (nI (sn K 37)) (vwn K 122 100) ag2 ag3 (nI (sn K 37)), RW G r2 5 (cpF 5 (vwn K 75 5) (vwn S 75 5)) (cpF 5 (vwn K 80 5) (vwn S 80 5)) (cpF 5 (vwn K 85 5) (vwn S 85 5)) (nI (sn K 34)) (vwn K 75 5) (vwn K 80 5) (vwn K 85 5) (nI (sn K 34)), RW G r3 8 (cpF 8 (vwn K 90 8) (vwn S 90 8)) (cpF 8 (vwn K 98 8) (vwn S 98 8)) (cpF 8 pg3 p3) (nI (sn K 35)) (vwn K 90 8) (vwn K 98 8) pg3 (nI (sn K 35)), RW G r4 8 (vwn S 106 8) (vwn S 114 8) k3 (nI (sn S 36)) (vwn K 106 8) (vwn K 114 8) bg3 (nI (sn K 36))])) (perm_sg2 (n := 7) [1, 2, 3, 4, 5, 0, 6] rfl rfl (by decide)) ?_
  refine ev_aload_n hC dX11_undo_42 rfl 0 rfl ?_
  refine ev_get hC fl_X11_26_11 (mw 0 rfl) rfl dX11_undo_43 ?_
  refine ev_callV (As := []) (st := []) (wf := (List.flatten [SP x r1 r2 r3 r4 r5 d b1 b2 b3 hi, MO G b1 (vwn K 2 6) tk (cpO 6 os2 os) (vwn K 14 6) (vwn K 20 6) (vwn K 26 6) (vwn K 51 24) le (K 32) (bitF K) (K 0) (K 1) t2 (K 33) (-1) (nI 0), MO G b2 (vwn K 2 6) tk2 os2 (vwn K 14 6) (vwn K 20 6) (vwn K 26 6) (vwn K 51 24) le2 (K 32) (bitF K) (K 0) (K 1) t2 (K 33) st2 wa2, RW G r1 100 (cpF 100 (vwn K 122 100) (vwn S 122 100)) (cpF 100 ag2 a2) (cpF 100 ag3 a3) (nI (sn K 37)) (vwn K 122 100) ag2 ag3 (nI (sn K 37)), RW G r2 5 (cpF 5 (vwn K 75 5) (vwn S 75 5)) (cpF 5 (vwn K 80 5) (vwn S 80 5)) (cpF 5 (vwn K 85 5) (vwn S 85 5)) (nI (sn K 34)) (vwn K 75 5) (vwn K 80 5) (vwn K 85 5) (nI (sn K 34)), RW G r3 8 (cpF 8 (vwn K 90 8) (vwn S 90 8)) (cpF 8 (vwn K 98 8) (vwn S 98 8)) (cpF 8 pg3 p3) (nI (sn K 35)) (vwn K 90 8) (vwn K 98 8) pg3 (nI (sn K 35))])) hC cv_X11_277 (m_X7_comeBack G ro r4 8 (vwn S 106 8) (vwn S 114 8) k3 (vwn K 106 8) (vwn K 114 8) bg3 (nI (sn S 36)) (nI (sn K 36)) (by omega)) (by omega) rfl rfl (Nat.le_of_ble_eq_true rfl) (perm_sg (n := 7) [6, 0, 1, 2, 3, 4, 5] rfl rfl (by decide)) (mw 40 rfl) rfl dX11_undo_46 (by omega) (by omega) ?_
  rintro _ _ _ ⟨rfl, rfl, rfl⟩
  show Ev G X 0 0 49 [(0, .ref x)] [] (List.flatten [RW G r4 8 (cpF 8 (vwn K 106 8) (vwn S 106 8)) (cpF 8 (vwn K 114 8) (vwn S 114 8)) (cpF 8 bg3 k3) (nI (sn K 36)) (vwn K 106 8) (vwn K 114 8) bg3 (nI (sn K 36)), SP x r1 r2 r3 r4 r5 d b1 b2 b3 hi, MO G b1 (vwn K 2 6) tk (cpO 6 os2 os) (vwn K 14 6) (vwn K 20 6) (vwn K 26 6) (vwn K 51 24) le (K 32) (bitF K) (K 0) (K 1) t2 (K 33) (-1) (nI 0), MO G b2 (vwn K 2 6) tk2 os2 (vwn K 14 6) (vwn K 20 6) (vwn K 26 6) (vwn K 51 24) le2 (K 32) (bitF K) (K 0) (K 1) t2 (K 33) st2 wa2, RW G r1 100 (cpF 100 (vwn K 122 100) (vwn S 122 100)) (cpF 100 ag2 a2) (cpF 100 ag3 a3) (nI (sn K 37)) (vwn K 122 100) ag2 ag3 (nI (sn K 37)), RW G r2 5 (cpF 5 (vwn K 75 5) (vwn S 75 5)) (cpF 5 (vwn K 80 5) (vwn S 80 5)) (cpF 5 (vwn K 85 5) (vwn S 85 5)) (nI (sn K 34)) (vwn K 75 5) (vwn K 80 5) (vwn K 85 5) (nI (sn K 34)), RW G r3 8 (cpF 8 (vwn K 90 8) (vwn S 90 8)) (cpF 8 (vwn K 98 8) (vwn S 98 8)) (cpF 8 pg3 p3) (nI (sn K 35)) (vwn K 90 8) (vwn K 98 8) pg3 (nI (sn K 35))]) ro
  refine ev_perm (ws' := (List.flatten [SP x r1 r2 r3 r4 r5 d b1 b2 b3 hi, MO G b1 (vwn K 2 6) tk (cpO 6 os2 os) (vwn K 14 6) (vwn K 20 6) (vwn K 26 6) (vwn K 51 24) le (K 32) (bitF K) (K 0) (K 1) t2 (K 33) (-1) (nI 0), MO G b2 (vwn K 2 6) tk2 os2 (vwn K 14 6) (vwn K 20 6) (vwn K 26 6) (vwn K 51 24) le2 (K 32) (bitF K) (K 0) (K 1) t2 (K 33) st2 wa2, RW G r1 100 (cpF 100 (vwn K 122 100) (vwn S 122 100)) (cpF 100 ag2 a2) (cpF 100 ag3 a3) (nI (sn K 37)) (vwn K 122 100) ag2 ag3 (nI (sn K 37)), RW G r2 5 (cpF 5 (vwn K 75 5) (vwn S 75 5)) (cpF 5 (vwn K 80 5) (vwn S 80 5)) (cpF 5 (vwn K 85 5) (vwn S 85 5)) (nI (sn K 34)) (vwn K 75 5) (vwn K 80 5) (vwn K 85 5) (nI (sn K 34)), RW G r3 8 (cpF 8 (vwn K 90 8) (vwn S 90 8)) (cpF 8 (vwn K 98 8) (vwn S 98 8)) (cpF 8 pg3 p3) (nI (sn K 35)) (vwn K 90 8) (vwn K 98 8) pg3 (nI (sn K 35)), RW G r4 8 (cpF 8 (vwn K 106 8) (vwn S 106 8)) (cpF 8 (vwn K 114 8) (vwn S 114 8)) (cpF 8 bg3 k3) (nI (sn K 36)) (vwn K 106 8) (vwn K 114 8) bg3 (nI (sn K 36))])) (perm_sg2 (n := 7) [1, 2, 3, 4, 5, 6, 0] rfl rfl (by decide)) ?_
  refine ev_aload_n hC dX11_undo_49 rfl 0 rfl ?_
  refine ev_get hC fl_X11_58_11 (mw 0 rfl) rfl dX11_undo_50 ?_
  refine ev_get hC fl_X11_107_3 (mw 1 rfl) rfl dX11_undo_53 ?_
  refine ev_iret hC hR rfl dX11_undo_56 ?_
  exact ⟨(cpF 100 ag2 a2), (cpF 100 ag3 a3), (cpF 8 pg3 p3), (cpF 8 bg3 k3), rfl, by simp only [cpF_vwn], rfl⟩

theorem undY {kd k : Nat} (h : undF kd k) {α : Type} {a b : α} : (if undF kd k then a else b) = a := if_pos h
theorem undN {kd k : Nat} (h : ¬ undF kd k) {α : Type} {a b : α} : (if undF kd k then a else b) = b := if_neg h

set_option maxHeartbeats 4000000 in
set_option maxRecDepth 100000 in
theorem m_X11_act (G : GG) (ro : va_W) (x : Nat) (r1 r2 r3 r4 r5 d b1 b2 b3 : Nat → Nat) (hi : Int32) (S tk le T tk3 le3 : Nat → Int32) (os os3 : Nat → Option Nat) (t t3 : Nat) (wa st3 wa3 : Int32)  (D q2 q3 g1 g2 g3 : Nat → Int32) (gc : Int32) (rn : Nat) (y z x3 : Int32) (hW : WF S 9999 9999) (hO : MoOK G ro (r5 0) S os t)  : Mth G M_X11_act 8 0 0 [.ref x, .int y, .int z, .int x3] (List.flatten [SP x r1 r2 r3 r4 r5 d b1 b2 b3 hi, RW G r5 20 D q2 q3 (nI rn) g1 g2 g3 gc, MO G b1 (vwn S 2 6) tk os (vwn S 14 6) (vwn S 20 6) (vwn S 26 6) (vwn S 51 24) le (S 32) (bitF S) (S 0) (S 1) t (S 33) (-1) wa]) ro (fun r ws' ro' => ∃ (q2' : Nat → Int32), ∃ (q3' : Nat → Int32), r = some (.int (actR S y z x3)) ∧ ws' = (List.flatten [SP x r1 r2 r3 r4 r5 d b1 b2 b3 hi, RW G r5 20 (actD S D y z) q2' q3' (nI (actN S y z)) g1 g2 g3 gc, MO G b1 (vwn S 2 6) tk os (vwn S 14 6) (vwn S 20 6) (vwn S 26 6) (vwn S 51 24) le (S 32) (bitF S) (S 0) (S 1) t (S 33) (-1) wa]) ∧ ro = ro') := by
  refine mth_of (by decide +kernel) (Nat.le_of_ble_eq_true rfl) (fun X hC hR => ?_)
  have b32 := hW.peo.le
  show Ev G X 0 0 0 [(0, .ref x), (1, .int y), (2, .int z), (3, .int x3)] [] (List.flatten [SP x r1 r2 r3 r4 r5 d b1 b2 b3 hi, RW G r5 20 D q2 q3 (nI rn) g1 g2 g3 gc, MO G b1 (vwn S 2 6) tk os (vwn S 14 6) (vwn S 20 6) (vwn S 26 6) (vwn S 51 24) le (S 32) (bitF S) (S 0) (S 1) t (S 33) (-1) wa]) ro
  refine ev_aload_n hC dX11_act_0 rfl 0 rfl ?_
  refine ev_get hC fl_X11_29_11 (mw 0 rfl) rfl dX11_act_1 ?_
  refine ev_callV (As := []) (st := []) (wf := (List.flatten [SP x r1 r2 r3 r4 r5 d b1 b2 b3 hi, MO G b1 (vwn S 2 6) tk os (vwn S 14 6) (vwn S 20 6) (vwn S 26 6) (vwn S 51 24) le (S 32) (bitF S) (S 0) (S 1) t (S 33) (-1) wa])) hC cv_X11_88 (m_X7_clear G ro r5 20 D q2 q3 g1 g2 g3 (nI rn) gc) (by omega) rfl rfl (Nat.le_of_ble_eq_true rfl) (perm_sg (n := 3) [1, 0, 2] rfl rfl (by decide)) (mw 1 rfl) rfl dX11_act_4 (by omega) (by omega) ?_
  rintro _ _ _ ⟨rfl, rfl, rfl⟩
  show Ev G X 0 0 7 [(0, .ref x), (1, .int y), (2, .int z), (3, .int x3)] [.int (nI 0)] (List.flatten [RW G r5 20 D q2 q3 (nI 0) g1 g2 g3 gc, SP x r1 r2 r3 r4 r5 d b1 b2 b3 hi, MO G b1 (vwn S 2 6) tk os (vwn S 14 6) (vwn S 20 6) (vwn S 26 6) (vwn S 51 24) le (S 32) (bitF S) (S 0) (S 1) t (S 33) (-1) wa]) ro
  refine ev_perm (ws' := (List.flatten [SP x r1 r2 r3 r4 r5 d b1 b2 b3 hi, RW G r5 20 D q2 q3 (nI 0) g1 g2 g3 gc, MO G b1 (vwn S 2 6) tk os (vwn S 14 6) (vwn S 20 6) (vwn S 26 6) (vwn S 51 24) le (S 32) (bitF S) (S 0) (S 1) t (S 33) (-1) wa])) (perm_sg2 (n := 3) [1, 0, 2] rfl rfl (by decide)) ?_
  refine ev_pop hC dX11_act_7 rfl ?_
  refine ev_aload_n hC dX11_act_8 rfl 0 rfl ?_
  refine ev_iload_n hC dX11_act_9 rfl 1 rfl ?_
  refine ev_callV (As := [.int y]) (st := []) (wf := (List.flatten [RW G r5 20 D q2 q3 (nI 0) g1 g2 g3 gc])) hC cv_X11_118 (m_X11_isPerson G ro x r1 r2 r3 r4 r5 d b1 b2 b3 hi S tk le os t (-1) wa y) (by omega) rfl rfl (Nat.le_of_ble_eq_true rfl) (perm_sg (n := 3) [0, 2, 1] rfl rfl (by decide)) (mw 0 rfl) rfl dX11_act_10 (by omega) (by omega) ?_
  rintro _ _ _ ⟨rfl, rfl, rfl⟩
  show Ev G X 0 0 13 [(0, .ref x), (1, .int y), (2, .int z), (3, .int x3)] [.int (bI ((nI 0) ≤ y ∧ y ≤ (S 32 - nI 1)))] (List.flatten [SP x r1 r2 r3 r4 r5 d b1 b2 b3 hi, MO G b1 (vwn S 2 6) tk os (vwn S 14 6) (vwn S 20 6) (vwn S 26 6) (vwn S 51 24) le (S 32) (bitF S) (S 0) (S 1) t (S 33) (-1) wa, RW G r5 20 D q2 q3 (nI 0) g1 g2 g3 gc]) ro
  refine ev_perm (ws' := (List.flatten [SP x r1 r2 r3 r4 r5 d b1 b2 b3 hi, RW G r5 20 D q2 q3 (nI 0) g1 g2 g3 gc, MO G b1 (vwn S 2 6) tk os (vwn S 14 6) (vwn S 20 6) (vwn S 26 6) (vwn S 51 24) le (S 32) (bitF S) (S 0) (S 1) t (S 33) (-1) wa])) (perm_sg2 (n := 3) [0, 2, 1] rfl rfl (by decide)) ?_
  refine ev_if_neB (tgt := 18) hC dX11_act_13 (by decide) (fun c_1 => ?_) (fun c_1 => ?_)
  · obtain ⟨pp, hpp, rfl⟩ := isP hW (by assumption)
    have hpn_pp : pn (nI pp) = pp := nI_clamp (by omega)
    refine ev_iload_n hC dX11_act_18 rfl 2 rfl ?_
    by_cases w_2_0 : z = nI 0
    · subst w_2_0
      refine ev_tabIn (off := 25) (tgt := 44) hC dX11_act_19 (by decide) (by decide) (by decide) (by decide) ?_
      refine ev_aload_n hC dX11_act_44 rfl 0 rfl ?_
      refine ev_get hC fl_X11_58_11 (mw 0 rfl) rfl dX11_act_45 ?_
      refine ev_get hC fl_X11_121_3 (mw 8 rfl) rfl dX11_act_48 ?_
      refine ev_iload_n hC dX11_act_51 rfl 1 rfl ?_
      obtain ⟨r, hr1, hr2⟩ := hO.1 pp (by omega)
      obtain ⟨kd, hkd⟩ : ∃ kd, kd = sn S (39 + pp) := ⟨_, rfl⟩
      rw [← hkd] at hr2
      have hk6 : kd ≤ 6 := by rw [hkd]; exact (hW.kind pp (by omega)).le
      have hv9 := (hW.v pp (by omega)).le
      rcases (show kd = 0 ∨ kd = 1 ∨ kd = 2 ∨ kd = 3 ∨ kd = 4 ∨ kd = 5 ∨ kd = 6 by omega) with rfl | rfl | rfl | rfl | rfl | rfl | rfl
      · have he : (r, ob 4 [.int (nI 0), .int (nI pp), .int (nI (sn S (45 + pp))), .ref (r5 0)]) ∈ ro := hr2
        refine ev_aaldN (i := pp) (r := r) hC (mw 11 rfl) (by omega) (by omega) hr1 dX11_act_52 ?_
        refine ev_iload_n hC dX11_act_53 rfl 3 rfl ?_
        refine ev_callU (As := [.int x3]) (st := []) (wf := (List.flatten [SP x r1 r2 r3 r4 r5 d b1 b2 b3 hi, MO G b1 (vwn S 2 6) tk os (vwn S 14 6) (vwn S 20 6) (vwn S 26 6) (vwn S 51 24) le (S 32) (bitF S) (S 0) (S 1) t (S 33) (-1) wa])) hC cu_X11_257_4 (m_X4_wrongs_k0 G ro r pp (sn S (45 + pp)) r5 D q2 q3 g1 g2 g3 gc 0 x3 he (by omega)) (by omega) rfl rfl (Nat.le_of_ble_eq_true rfl) (perm_sg (n := 3) [1, 0, 2] rfl rfl (by decide)) (mr he) rfl dX11_act_54 (by omega) (by omega) ?_
        rintro _ _ _ ⟨f_3, f_4, rfl, rfl, rfl⟩
        show Ev G X 0 0 57 [(0, .ref x), (1, .int (nI pp)), (2, .int (nI 0)), (3, .int x3)] [.int (x3 + (nI pp))] (List.flatten [RW G r5 20 (upd D 0 (nI 1)) f_3 f_4 (nI 1) g1 g2 g3 gc, SP x r1 r2 r3 r4 r5 d b1 b2 b3 hi, MO G b1 (vwn S 2 6) tk os (vwn S 14 6) (vwn S 20 6) (vwn S 26 6) (vwn S 51 24) le (S 32) (bitF S) (S 0) (S 1) t (S 33) (-1) wa]) ro
        refine ev_perm (ws' := (List.flatten [SP x r1 r2 r3 r4 r5 d b1 b2 b3 hi, RW G r5 20 (upd D 0 (nI 1)) f_3 f_4 (nI 1) g1 g2 g3 gc, MO G b1 (vwn S 2 6) tk os (vwn S 14 6) (vwn S 20 6) (vwn S 26 6) (vwn S 51 24) le (S 32) (bitF S) (S 0) (S 1) t (S 33) (-1) wa])) (perm_sg2 (n := 3) [1, 0, 2] rfl rfl (by decide)) ?_
        refine ev_iret hC hR rfl dX11_act_57 ?_
        have ev := (hW.v pp (by omega)).eq
        have eR : actR S (nI pp) (nI 0) x3 = (x3 + (nI pp)) := by
          rw [actR, if_pos ⟨by assumption, by decide⟩, hpn_pp, show pn (nI 0) = 0 from rfl, ← hkd, ev]
          rfl
        have eD : actD S D (nI pp) (nI 0) = upd D 0 (nI 1) := by
          rw [actD, if_pos ⟨by assumption, by decide⟩, hpn_pp, show pn (nI 0) = 0 from rfl, ← hkd]
          rfl
        have eN : actN S (nI pp) (nI 0) = 1 := by
          rw [actN, if_pos ⟨by assumption, by decide⟩, hpn_pp, show pn (nI 0) = 0 from rfl, ← hkd]
          rfl
        exact ⟨f_3, f_4, by rw [eR], by rw [eD, eN], rfl⟩
      · have he : (r, ob 1 [.int (nI 1), .int (nI pp), .int (nI (sn S (45 + pp))), .ref (r5 0)]) ∈ ro := hr2
        refine ev_aaldN (i := pp) (r := r) hC (mw 11 rfl) (by omega) (by omega) hr1 dX11_act_52 ?_
        refine ev_iload_n hC dX11_act_53 rfl 3 rfl ?_
        refine ev_callU (As := [.int x3]) (st := []) (wf := (List.flatten [SP x r1 r2 r3 r4 r5 d b1 b2 b3 hi, MO G b1 (vwn S 2 6) tk os (vwn S 14 6) (vwn S 20 6) (vwn S 26 6) (vwn S 51 24) le (S 32) (bitF S) (S 0) (S 1) t (S 33) (-1) wa])) hC cu_X11_257_1 (m_X1_wrongs_k1 G ro r pp (sn S (45 + pp)) r5 D q2 q3 g1 g2 g3 gc 0 x3 he (by omega)) (by omega) rfl rfl (Nat.le_of_ble_eq_true rfl) (perm_sg (n := 3) [1, 0, 2] rfl rfl (by decide)) (mr he) rfl dX11_act_54 (by omega) (by omega) ?_
        rintro _ _ _ ⟨f_5, f_6, rfl, rfl, rfl⟩
        show Ev G X 0 0 57 [(0, .ref x), (1, .int (nI pp)), (2, .int (nI 0)), (3, .int x3)] [.int ((x3 * (nI 3)) + (nI pp))] (List.flatten [RW G r5 20 (upd (upd D 0 (nI 11)) 1 (nI 1)) f_5 f_6 (nI 2) g1 g2 g3 gc, SP x r1 r2 r3 r4 r5 d b1 b2 b3 hi, MO G b1 (vwn S 2 6) tk os (vwn S 14 6) (vwn S 20 6) (vwn S 26 6) (vwn S 51 24) le (S 32) (bitF S) (S 0) (S 1) t (S 33) (-1) wa]) ro
        refine ev_perm (ws' := (List.flatten [SP x r1 r2 r3 r4 r5 d b1 b2 b3 hi, RW G r5 20 (upd (upd D 0 (nI 11)) 1 (nI 1)) f_5 f_6 (nI 2) g1 g2 g3 gc, MO G b1 (vwn S 2 6) tk os (vwn S 14 6) (vwn S 20 6) (vwn S 26 6) (vwn S 51 24) le (S 32) (bitF S) (S 0) (S 1) t (S 33) (-1) wa])) (perm_sg2 (n := 3) [1, 0, 2] rfl rfl (by decide)) ?_
        refine ev_iret hC hR rfl dX11_act_57 ?_
        have ev := (hW.v pp (by omega)).eq
        have eR : actR S (nI pp) (nI 0) x3 = ((x3 * (nI 3)) + (nI pp)) := by
          rw [actR, if_pos ⟨by assumption, by decide⟩, hpn_pp, show pn (nI 0) = 0 from rfl, ← hkd, ev]
          rfl
        have eD : actD S D (nI pp) (nI 0) = upd (upd D 0 (nI 11)) 1 (nI 1) := by
          rw [actD, if_pos ⟨by assumption, by decide⟩, hpn_pp, show pn (nI 0) = 0 from rfl, ← hkd]
          rfl
        have eN : actN S (nI pp) (nI 0) = 2 := by
          rw [actN, if_pos ⟨by assumption, by decide⟩, hpn_pp, show pn (nI 0) = 0 from rfl, ← hkd]
          rfl
        exact ⟨f_5, f_6, by rw [eR], by rw [eD, eN], rfl⟩
      · have he : (r, ob 0 [.int (nI 2), .int (nI pp), .int (nI (sn S (45 + pp))), .ref (r5 0)]) ∈ ro := hr2
        refine ev_aaldN (i := pp) (r := r) hC (mw 11 rfl) (by omega) (by omega) hr1 dX11_act_52 ?_
        refine ev_iload_n hC dX11_act_53 rfl 3 rfl ?_
        refine ev_callU (As := [.int x3]) (st := []) (wf := (List.flatten [SP x r1 r2 r3 r4 r5 d b1 b2 b3 hi, MO G b1 (vwn S 2 6) tk os (vwn S 14 6) (vwn S 20 6) (vwn S 26 6) (vwn S 51 24) le (S 32) (bitF S) (S 0) (S 1) t (S 33) (-1) wa])) hC cu_X11_257_0 (m_X4_wrongs_k2 G ro r pp (sn S (45 + pp)) r5 D q2 q3 g1 g2 g3 gc 0 x3 he (by omega)) (by omega) rfl rfl (Nat.le_of_ble_eq_true rfl) (perm_sg (n := 3) [1, 0, 2] rfl rfl (by decide)) (mr he) rfl dX11_act_54 (by omega) (by omega) ?_
        rintro _ _ _ ⟨f_7, f_8, rfl, rfl, rfl⟩
        show Ev G X 0 0 57 [(0, .ref x), (1, .int (nI pp)), (2, .int (nI 0)), (3, .int x3)] [.int (x3 + (nI pp))] (List.flatten [RW G r5 20 (upd D 0 (nI 1)) f_7 f_8 (nI 1) g1 g2 g3 gc, SP x r1 r2 r3 r4 r5 d b1 b2 b3 hi, MO G b1 (vwn S 2 6) tk os (vwn S 14 6) (vwn S 20 6) (vwn S 26 6) (vwn S 51 24) le (S 32) (bitF S) (S 0) (S 1) t (S 33) (-1) wa]) ro
        refine ev_perm (ws' := (List.flatten [SP x r1 r2 r3 r4 r5 d b1 b2 b3 hi, RW G r5 20 (upd D 0 (nI 1)) f_7 f_8 (nI 1) g1 g2 g3 gc, MO G b1 (vwn S 2 6) tk os (vwn S 14 6) (vwn S 20 6) (vwn S 26 6) (vwn S 51 24) le (S 32) (bitF S) (S 0) (S 1) t (S 33) (-1) wa])) (perm_sg2 (n := 3) [1, 0, 2] rfl rfl (by decide)) ?_
        refine ev_iret hC hR rfl dX11_act_57 ?_
        have ev := (hW.v pp (by omega)).eq
        have eR : actR S (nI pp) (nI 0) x3 = (x3 + (nI pp)) := by
          rw [actR, if_pos ⟨by assumption, by decide⟩, hpn_pp, show pn (nI 0) = 0 from rfl, ← hkd, ev]
          rfl
        have eD : actD S D (nI pp) (nI 0) = upd D 0 (nI 1) := by
          rw [actD, if_pos ⟨by assumption, by decide⟩, hpn_pp, show pn (nI 0) = 0 from rfl, ← hkd]
          rfl
        have eN : actN S (nI pp) (nI 0) = 1 := by
          rw [actN, if_pos ⟨by assumption, by decide⟩, hpn_pp, show pn (nI 0) = 0 from rfl, ← hkd]
          rfl
        exact ⟨f_7, f_8, by rw [eR], by rw [eD, eN], rfl⟩
      · have he : (r, ob 8 [.int (nI 3), .int (nI pp), .int (nI (sn S (45 + pp))), .ref (r5 0)]) ∈ ro := hr2
        refine ev_aaldN (i := pp) (r := r) hC (mw 11 rfl) (by omega) (by omega) hr1 dX11_act_52 ?_
        refine ev_iload_n hC dX11_act_53 rfl 3 rfl ?_
        refine ev_callU (As := [.int x3]) (st := []) (wf := (List.flatten [SP x r1 r2 r3 r4 r5 d b1 b2 b3 hi, MO G b1 (vwn S 2 6) tk os (vwn S 14 6) (vwn S 20 6) (vwn S 26 6) (vwn S 51 24) le (S 32) (bitF S) (S 0) (S 1) t (S 33) (-1) wa])) hC cu_X11_257_8 (m_X4_wrongs_k3 G ro r pp (sn S (45 + pp)) r5 D q2 q3 g1 g2 g3 gc 0 x3 he (by omega)) (by omega) rfl rfl (Nat.le_of_ble_eq_true rfl) (perm_sg (n := 3) [1, 0, 2] rfl rfl (by decide)) (mr he) rfl dX11_act_54 (by omega) (by omega) ?_
        rintro _ _ _ ⟨f_9, f_10, rfl, rfl, rfl⟩
        show Ev G X 0 0 57 [(0, .ref x), (1, .int (nI pp)), (2, .int (nI 0)), (3, .int x3)] [.int (x3 + (nI pp))] (List.flatten [RW G r5 20 (upd D 0 (nI 1)) f_9 f_10 (nI 1) g1 g2 g3 gc, SP x r1 r2 r3 r4 r5 d b1 b2 b3 hi, MO G b1 (vwn S 2 6) tk os (vwn S 14 6) (vwn S 20 6) (vwn S 26 6) (vwn S 51 24) le (S 32) (bitF S) (S 0) (S 1) t (S 33) (-1) wa]) ro
        refine ev_perm (ws' := (List.flatten [SP x r1 r2 r3 r4 r5 d b1 b2 b3 hi, RW G r5 20 (upd D 0 (nI 1)) f_9 f_10 (nI 1) g1 g2 g3 gc, MO G b1 (vwn S 2 6) tk os (vwn S 14 6) (vwn S 20 6) (vwn S 26 6) (vwn S 51 24) le (S 32) (bitF S) (S 0) (S 1) t (S 33) (-1) wa])) (perm_sg2 (n := 3) [1, 0, 2] rfl rfl (by decide)) ?_
        refine ev_iret hC hR rfl dX11_act_57 ?_
        have ev := (hW.v pp (by omega)).eq
        have eR : actR S (nI pp) (nI 0) x3 = (x3 + (nI pp)) := by
          rw [actR, if_pos ⟨by assumption, by decide⟩, hpn_pp, show pn (nI 0) = 0 from rfl, ← hkd, ev]
          rfl
        have eD : actD S D (nI pp) (nI 0) = upd D 0 (nI 1) := by
          rw [actD, if_pos ⟨by assumption, by decide⟩, hpn_pp, show pn (nI 0) = 0 from rfl, ← hkd]
          rfl
        have eN : actN S (nI pp) (nI 0) = 1 := by
          rw [actN, if_pos ⟨by assumption, by decide⟩, hpn_pp, show pn (nI 0) = 0 from rfl, ← hkd]
          rfl
        exact ⟨f_9, f_10, by rw [eR], by rw [eD, eN], rfl⟩
      · have he : (r, ob 2 [.int (nI 4), .int (nI pp), .int (nI (sn S (45 + pp))), .ref (r5 0)]) ∈ ro := hr2
        refine ev_aaldN (i := pp) (r := r) hC (mw 11 rfl) (by omega) (by omega) hr1 dX11_act_52 ?_
        refine ev_iload_n hC dX11_act_53 rfl 3 rfl ?_
        refine ev_callU (As := [.int x3]) (st := []) (wf := (List.flatten [SP x r1 r2 r3 r4 r5 d b1 b2 b3 hi, MO G b1 (vwn S 2 6) tk os (vwn S 14 6) (vwn S 20 6) (vwn S 26 6) (vwn S 51 24) le (S 32) (bitF S) (S 0) (S 1) t (S 33) (-1) wa])) hC cu_X11_257_2 (m_X1_wrongs_k4 G ro r pp (sn S (45 + pp)) r5 D q2 q3 g1 g2 g3 gc 0 x3 he (by omega)) (by omega) rfl rfl (Nat.le_of_ble_eq_true rfl) (perm_sg (n := 3) [1, 0, 2] rfl rfl (by decide)) (mr he) rfl dX11_act_54 (by omega) (by omega) ?_
        rintro _ _ _ ⟨f_11, f_12, rfl, rfl, rfl⟩
        show Ev G X 0 0 57 [(0, .ref x), (1, .int (nI pp)), (2, .int (nI 0)), (3, .int x3)] [.int ((x3 * (nI 3)) + (nI pp))] (List.flatten [RW G r5 20 (upd (upd D 0 (nI 11)) 1 (nI 1)) f_11 f_12 (nI 2) g1 g2 g3 gc, SP x r1 r2 r3 r4 r5 d b1 b2 b3 hi, MO G b1 (vwn S 2 6) tk os (vwn S 14 6) (vwn S 20 6) (vwn S 26 6) (vwn S 51 24) le (S 32) (bitF S) (S 0) (S 1) t (S 33) (-1) wa]) ro
        refine ev_perm (ws' := (List.flatten [SP x r1 r2 r3 r4 r5 d b1 b2 b3 hi, RW G r5 20 (upd (upd D 0 (nI 11)) 1 (nI 1)) f_11 f_12 (nI 2) g1 g2 g3 gc, MO G b1 (vwn S 2 6) tk os (vwn S 14 6) (vwn S 20 6) (vwn S 26 6) (vwn S 51 24) le (S 32) (bitF S) (S 0) (S 1) t (S 33) (-1) wa])) (perm_sg2 (n := 3) [1, 0, 2] rfl rfl (by decide)) ?_
        refine ev_iret hC hR rfl dX11_act_57 ?_
        have ev := (hW.v pp (by omega)).eq
        have eR : actR S (nI pp) (nI 0) x3 = ((x3 * (nI 3)) + (nI pp)) := by
          rw [actR, if_pos ⟨by assumption, by decide⟩, hpn_pp, show pn (nI 0) = 0 from rfl, ← hkd, ev]
          rfl
        have eD : actD S D (nI pp) (nI 0) = upd (upd D 0 (nI 11)) 1 (nI 1) := by
          rw [actD, if_pos ⟨by assumption, by decide⟩, hpn_pp, show pn (nI 0) = 0 from rfl, ← hkd]
          rfl
        have eN : actN S (nI pp) (nI 0) = 2 := by
          rw [actN, if_pos ⟨by assumption, by decide⟩, hpn_pp, show pn (nI 0) = 0 from rfl, ← hkd]
          rfl
        exact ⟨f_11, f_12, by rw [eR], by rw [eD, eN], rfl⟩
      · have he : (r, ob 5 [.int (nI 5), .int (nI pp), .int (nI (sn S (45 + pp))), .ref (r5 0)]) ∈ ro := hr2
        refine ev_aaldN (i := pp) (r := r) hC (mw 11 rfl) (by omega) (by omega) hr1 dX11_act_52 ?_
        refine ev_iload_n hC dX11_act_53 rfl 3 rfl ?_
        refine ev_callU (As := [.int x3]) (st := []) (wf := (List.flatten [SP x r1 r2 r3 r4 r5 d b1 b2 b3 hi, MO G b1 (vwn S 2 6) tk os (vwn S 14 6) (vwn S 20 6) (vwn S 26 6) (vwn S 51 24) le (S 32) (bitF S) (S 0) (S 1) t (S 33) (-1) wa])) hC cu_X11_257_5 (m_X5_wrongs_k5 G ro r pp (sn S (45 + pp)) r5 D q2 q3 g1 g2 g3 gc 0 x3 he (by omega)) (by omega) rfl rfl (Nat.le_of_ble_eq_true rfl) (perm_sg (n := 3) [1, 0, 2] rfl rfl (by decide)) (mr he) rfl dX11_act_54 (by omega) (by omega) ?_
        rintro _ _ _ ⟨f_13, f_14, rfl, rfl, rfl⟩
        show Ev G X 0 0 57 [(0, .ref x), (1, .int (nI pp)), (2, .int (nI 0)), (3, .int x3)] [.int ((x3 + (nI pp)) ^^^ (nI pp))] (List.flatten [RW G r5 20 (upd (upd D 0 (nI 51)) 1 (nI 1)) f_13 f_14 (nI 2) g1 g2 g3 gc, SP x r1 r2 r3 r4 r5 d b1 b2 b3 hi, MO G b1 (vwn S 2 6) tk os (vwn S 14 6) (vwn S 20 6) (vwn S 26 6) (vwn S 51 24) le (S 32) (bitF S) (S 0) (S 1) t (S 33) (-1) wa]) ro
        refine ev_perm (ws' := (List.flatten [SP x r1 r2 r3 r4 r5 d b1 b2 b3 hi, RW G r5 20 (upd (upd D 0 (nI 51)) 1 (nI 1)) f_13 f_14 (nI 2) g1 g2 g3 gc, MO G b1 (vwn S 2 6) tk os (vwn S 14 6) (vwn S 20 6) (vwn S 26 6) (vwn S 51 24) le (S 32) (bitF S) (S 0) (S 1) t (S 33) (-1) wa])) (perm_sg2 (n := 3) [1, 0, 2] rfl rfl (by decide)) ?_
        refine ev_iret hC hR rfl dX11_act_57 ?_
        have ev := (hW.v pp (by omega)).eq
        have eR : actR S (nI pp) (nI 0) x3 = ((x3 + (nI pp)) ^^^ (nI pp)) := by
          rw [actR, if_pos ⟨by assumption, by decide⟩, hpn_pp, show pn (nI 0) = 0 from rfl, ← hkd, ev]
          rfl
        have eD : actD S D (nI pp) (nI 0) = upd (upd D 0 (nI 51)) 1 (nI 1) := by
          rw [actD, if_pos ⟨by assumption, by decide⟩, hpn_pp, show pn (nI 0) = 0 from rfl, ← hkd]
          rfl
        have eN : actN S (nI pp) (nI 0) = 2 := by
          rw [actN, if_pos ⟨by assumption, by decide⟩, hpn_pp, show pn (nI 0) = 0 from rfl, ← hkd]
          rfl
        exact ⟨f_13, f_14, by rw [eR], by rw [eD, eN], rfl⟩
      · have he : (r, ob 9 [.int (nI 6), .int (nI pp), .int (nI (sn S (45 + pp))), .ref (r5 0)]) ∈ ro := hr2
        refine ev_aaldN (i := pp) (r := r) hC (mw 11 rfl) (by omega) (by omega) hr1 dX11_act_52 ?_
        refine ev_iload_n hC dX11_act_53 rfl 3 rfl ?_
        refine ev_callU (As := [.int x3]) (st := []) (wf := (List.flatten [SP x r1 r2 r3 r4 r5 d b1 b2 b3 hi, MO G b1 (vwn S 2 6) tk os (vwn S 14 6) (vwn S 20 6) (vwn S 26 6) (vwn S 51 24) le (S 32) (bitF S) (S 0) (S 1) t (S 33) (-1) wa])) hC cu_X11_257_9 (m_X4_wrongs_k6 G ro r pp (sn S (45 + pp)) r5 D q2 q3 g1 g2 g3 gc 0 x3 he (by omega)) (by omega) rfl rfl (Nat.le_of_ble_eq_true rfl) (perm_sg (n := 3) [1, 0, 2] rfl rfl (by decide)) (mr he) rfl dX11_act_54 (by omega) (by omega) ?_
        rintro _ _ _ ⟨f_15, f_16, rfl, rfl, rfl⟩
        show Ev G X 0 0 57 [(0, .ref x), (1, .int (nI pp)), (2, .int (nI 0)), (3, .int x3)] [.int (x3 + (nI pp))] (List.flatten [RW G r5 20 (upd D 0 (nI 1)) f_15 f_16 (nI 1) g1 g2 g3 gc, SP x r1 r2 r3 r4 r5 d b1 b2 b3 hi, MO G b1 (vwn S 2 6) tk os (vwn S 14 6) (vwn S 20 6) (vwn S 26 6) (vwn S 51 24) le (S 32) (bitF S) (S 0) (S 1) t (S 33) (-1) wa]) ro
        refine ev_perm (ws' := (List.flatten [SP x r1 r2 r3 r4 r5 d b1 b2 b3 hi, RW G r5 20 (upd D 0 (nI 1)) f_15 f_16 (nI 1) g1 g2 g3 gc, MO G b1 (vwn S 2 6) tk os (vwn S 14 6) (vwn S 20 6) (vwn S 26 6) (vwn S 51 24) le (S 32) (bitF S) (S 0) (S 1) t (S 33) (-1) wa])) (perm_sg2 (n := 3) [1, 0, 2] rfl rfl (by decide)) ?_
        refine ev_iret hC hR rfl dX11_act_57 ?_
        have ev := (hW.v pp (by omega)).eq
        have eR : actR S (nI pp) (nI 0) x3 = (x3 + (nI pp)) := by
          rw [actR, if_pos ⟨by assumption, by decide⟩, hpn_pp, show pn (nI 0) = 0 from rfl, ← hkd, ev]
          rfl
        have eD : actD S D (nI pp) (nI 0) = upd D 0 (nI 1) := by
          rw [actD, if_pos ⟨by assumption, by decide⟩, hpn_pp, show pn (nI 0) = 0 from rfl, ← hkd]
          rfl
        have eN : actN S (nI pp) (nI 0) = 1 := by
          rw [actN, if_pos ⟨by assumption, by decide⟩, hpn_pp, show pn (nI 0) = 0 from rfl, ← hkd]
          rfl
        exact ⟨f_15, f_16, by rw [eR], by rw [eD, eN], rfl⟩
    by_cases w_2_1 : z = nI 1
    · subst w_2_1
      refine ev_tabIn (off := 39) (tgt := 58) hC dX11_act_19 (by decide) (by decide) (by decide) (by decide) ?_
      refine ev_aload_n hC dX11_act_58 rfl 0 rfl ?_
      refine ev_get hC fl_X11_58_11 (mw 0 rfl) rfl dX11_act_59 ?_
      refine ev_get hC fl_X11_121_3 (mw 8 rfl) rfl dX11_act_62 ?_
      refine ev_iload_n hC dX11_act_65 rfl 1 rfl ?_
      obtain ⟨r, hr1, hr2⟩ := hO.1 pp (by omega)
      obtain ⟨kd, hkd⟩ : ∃ kd, kd = sn S (39 + pp) := ⟨_, rfl⟩
      rw [← hkd] at hr2
      have hk6 : kd ≤ 6 := by rw [hkd]; exact (hW.kind pp (by omega)).le
      have hv9 := (hW.v pp (by omega)).le
      rcases (show kd = 0 ∨ kd = 1 ∨ kd = 2 ∨ kd = 3 ∨ kd = 4 ∨ kd = 5 ∨ kd = 6 by omega) with rfl | rfl | rfl | rfl | rfl | rfl | rfl
      · have he : (r, ob 4 [.int (nI 0), .int (nI pp), .int (nI (sn S (45 + pp))), .ref (r5 0)]) ∈ ro := hr2
        refine ev_aaldN (i := pp) (r := r) hC (mw 11 rfl) (by omega) (by omega) hr1 dX11_act_66 ?_
        refine ev_iload_n hC dX11_act_67 rfl 3 rfl ?_
        refine ev_callU (As := [.int x3]) (st := []) (wf := (List.flatten [SP x r1 r2 r3 r4 r5 d b1 b2 b3 hi, MO G b1 (vwn S 2 6) tk os (vwn S 14 6) (vwn S 20 6) (vwn S 26 6) (vwn S 51 24) le (S 32) (bitF S) (S 0) (S 1) t (S 33) (-1) wa])) hC cu_X11_260_4 (m_X4_licks_k0 G ro r pp (sn S (45 + pp)) r5 D q2 q3 g1 g2 g3 gc 0 x3 he (by omega)) (by omega) rfl rfl (Nat.le_of_ble_eq_true rfl) (perm_sg (n := 3) [1, 0, 2] rfl rfl (by decide)) (mr he) rfl dX11_act_68 (by omega) (by omega) ?_
        rintro _ _ _ ⟨f_17, f_18, rfl, rfl, rfl⟩
        show Ev G X 0 0 71 [(0, .ref x), (1, .int (nI pp)), (2, .int (nI 1)), (3, .int x3)] [.int ((x3 + (nI pp)) - (nI (sn S (45 + pp))))] (List.flatten [RW G r5 20 (upd (upd D 0 (nI 2)) 1 (nI 1)) f_17 f_18 (nI 2) g1 g2 g3 gc, SP x r1 r2 r3 r4 r5 d b1 b2 b3 hi, MO G b1 (vwn S 2 6) tk os (vwn S 14 6) (vwn S 20 6) (vwn S 26 6) (vwn S 51 24) le (S 32) (bitF S) (S 0) (S 1) t (S 33) (-1) wa]) ro
        refine ev_perm (ws' := (List.flatten [SP x r1 r2 r3 r4 r5 d b1 b2 b3 hi, RW G r5 20 (upd (upd D 0 (nI 2)) 1 (nI 1)) f_17 f_18 (nI 2) g1 g2 g3 gc, MO G b1 (vwn S 2 6) tk os (vwn S 14 6) (vwn S 20 6) (vwn S 26 6) (vwn S 51 24) le (S 32) (bitF S) (S 0) (S 1) t (S 33) (-1) wa])) (perm_sg2 (n := 3) [1, 0, 2] rfl rfl (by decide)) ?_
        refine ev_iret hC hR rfl dX11_act_71 ?_
        have ev := (hW.v pp (by omega)).eq
        have eR : actR S (nI pp) (nI 1) x3 = ((x3 + (nI pp)) - (nI (sn S (45 + pp)))) := by
          rw [actR, if_pos ⟨by assumption, by decide⟩, hpn_pp, show pn (nI 1) = 1 from rfl, ← hkd, ev]
          rfl
        have eD : actD S D (nI pp) (nI 1) = upd (upd D 0 (nI 2)) 1 (nI 1) := by
          rw [actD, if_pos ⟨by assumption, by decide⟩, hpn_pp, show pn (nI 1) = 1 from rfl, ← hkd]
          rfl
        have eN : actN S (nI pp) (nI 1) = 2 := by
          rw [actN, if_pos ⟨by assumption, by decide⟩, hpn_pp, show pn (nI 1) = 1 from rfl, ← hkd]
          rfl
        exact ⟨f_17, f_18, by rw [eR], by rw [eD, eN], rfl⟩
      · have he : (r, ob 1 [.int (nI 1), .int (nI pp), .int (nI (sn S (45 + pp))), .ref (r5 0)]) ∈ ro := hr2
        refine ev_aaldN (i := pp) (r := r) hC (mw 11 rfl) (by omega) (by omega) hr1 dX11_act_66 ?_
        refine ev_iload_n hC dX11_act_67 rfl 3 rfl ?_
        refine ev_callU (As := [.int x3]) (st := []) (wf := (List.flatten [SP x r1 r2 r3 r4 r5 d b1 b2 b3 hi, MO G b1 (vwn S 2 6) tk os (vwn S 14 6) (vwn S 20 6) (vwn S 26 6) (vwn S 51 24) le (S 32) (bitF S) (S 0) (S 1) t (S 33) (-1) wa])) hC cu_X11_260_1 (m_X4_licks_k1 G ro r pp (sn S (45 + pp)) r5 D q2 q3 g1 g2 g3 gc 0 x3 he (by omega)) (by omega) rfl rfl (Nat.le_of_ble_eq_true rfl) (perm_sg (n := 3) [1, 0, 2] rfl rfl (by decide)) (mr he) rfl dX11_act_68 (by omega) (by omega) ?_
        rintro _ _ _ ⟨f_19, f_20, rfl, rfl, rfl⟩
        show Ev G X 0 0 71 [(0, .ref x), (1, .int (nI pp)), (2, .int (nI 1)), (3, .int x3)] [.int (((x3 * (nI 3)) + (nI pp)) - (nI (sn S (45 + pp))))] (List.flatten [RW G r5 20 (upd (upd (upd D 0 (nI 2)) 1 (nI 11)) 2 (nI 1)) f_19 f_20 (nI 3) g1 g2 g3 gc, SP x r1 r2 r3 r4 r5 d b1 b2 b3 hi, MO G b1 (vwn S 2 6) tk os (vwn S 14 6) (vwn S 20 6) (vwn S 26 6) (vwn S 51 24) le (S 32) (bitF S) (S 0) (S 1) t (S 33) (-1) wa]) ro
        refine ev_perm (ws' := (List.flatten [SP x r1 r2 r3 r4 r5 d b1 b2 b3 hi, RW G r5 20 (upd (upd (upd D 0 (nI 2)) 1 (nI 11)) 2 (nI 1)) f_19 f_20 (nI 3) g1 g2 g3 gc, MO G b1 (vwn S 2 6) tk os (vwn S 14 6) (vwn S 20 6) (vwn S 26 6) (vwn S 51 24) le (S 32) (bitF S) (S 0) (S 1) t (S 33) (-1) wa])) (perm_sg2 (n := 3) [1, 0, 2] rfl rfl (by decide)) ?_
        refine ev_iret hC hR rfl dX11_act_71 ?_
        have ev := (hW.v pp (by omega)).eq
        have eR : actR S (nI pp) (nI 1) x3 = (((x3 * (nI 3)) + (nI pp)) - (nI (sn S (45 + pp)))) := by
          rw [actR, if_pos ⟨by assumption, by decide⟩, hpn_pp, show pn (nI 1) = 1 from rfl, ← hkd, ev]
          rfl
        have eD : actD S D (nI pp) (nI 1) = upd (upd (upd D 0 (nI 2)) 1 (nI 11)) 2 (nI 1) := by
          rw [actD, if_pos ⟨by assumption, by decide⟩, hpn_pp, show pn (nI 1) = 1 from rfl, ← hkd]
          rfl
        have eN : actN S (nI pp) (nI 1) = 3 := by
          rw [actN, if_pos ⟨by assumption, by decide⟩, hpn_pp, show pn (nI 1) = 1 from rfl, ← hkd]
          rfl
        exact ⟨f_19, f_20, by rw [eR], by rw [eD, eN], rfl⟩
      · have he : (r, ob 0 [.int (nI 2), .int (nI pp), .int (nI (sn S (45 + pp))), .ref (r5 0)]) ∈ ro := hr2
        refine ev_aaldN (i := pp) (r := r) hC (mw 11 rfl) (by omega) (by omega) hr1 dX11_act_66 ?_
        refine ev_iload_n hC dX11_act_67 rfl 3 rfl ?_
        refine ev_callU (As := [.int x3]) (st := []) (wf := (List.flatten [SP x r1 r2 r3 r4 r5 d b1 b2 b3 hi, MO G b1 (vwn S 2 6) tk os (vwn S 14 6) (vwn S 20 6) (vwn S 26 6) (vwn S 51 24) le (S 32) (bitF S) (S 0) (S 1) t (S 33) (-1) wa])) hC cu_X11_260_0 (m_X0_licks_k2 G ro r pp (sn S (45 + pp)) r5 D q2 q3 g1 g2 g3 gc 0 x3 he (by omega)) (by omega) rfl rfl (Nat.le_of_ble_eq_true rfl) (perm_sg (n := 3) [1, 0, 2] rfl rfl (by decide)) (mr he) rfl dX11_act_68 (by omega) (by omega) ?_
        rintro _ _ _ ⟨f_21, f_22, rfl, rfl, rfl⟩
        show Ev G X 0 0 71 [(0, .ref x), (1, .int (nI pp)), (2, .int (nI 1)), (3, .int x3)] [.int (-((x3 + (nI pp)) - (nI (sn S (45 + pp)))))] (List.flatten [RW G r5 20 (upd (upd (upd D 0 (nI 21)) 1 (nI 2)) 2 (nI 1)) f_21 f_22 (nI 3) g1 g2 g3 gc, SP x r1 r2 r3 r4 r5 d b1 b2 b3 hi, MO G b1 (vwn S 2 6) tk os (vwn S 14 6) (vwn S 20 6) (vwn S 26 6) (vwn S 51 24) le (S 32) (bitF S) (S 0) (S 1) t (S 33) (-1) wa]) ro
        refine ev_perm (ws' := (List.flatten [SP x r1 r2 r3 r4 r5 d b1 b2 b3 hi, RW G r5 20 (upd (upd (upd D 0 (nI 21)) 1 (nI 2)) 2 (nI 1)) f_21 f_22 (nI 3) g1 g2 g3 gc, MO G b1 (vwn S 2 6) tk os (vwn S 14 6) (vwn S 20 6) (vwn S 26 6) (vwn S 51 24) le (S 32) (bitF S) (S 0) (S 1) t (S 33) (-1) wa])) (perm_sg2 (n := 3) [1, 0, 2] rfl rfl (by decide)) ?_
        refine ev_iret hC hR rfl dX11_act_71 ?_
        have ev := (hW.v pp (by omega)).eq
        have eR : actR S (nI pp) (nI 1) x3 = (-((x3 + (nI pp)) - (nI (sn S (45 + pp))))) := by
          rw [actR, if_pos ⟨by assumption, by decide⟩, hpn_pp, show pn (nI 1) = 1 from rfl, ← hkd, ev]
          rfl
        have eD : actD S D (nI pp) (nI 1) = upd (upd (upd D 0 (nI 21)) 1 (nI 2)) 2 (nI 1) := by
          rw [actD, if_pos ⟨by assumption, by decide⟩, hpn_pp, show pn (nI 1) = 1 from rfl, ← hkd]
          rfl
        have eN : actN S (nI pp) (nI 1) = 3 := by
          rw [actN, if_pos ⟨by assumption, by decide⟩, hpn_pp, show pn (nI 1) = 1 from rfl, ← hkd]
          rfl
        exact ⟨f_21, f_22, by rw [eR], by rw [eD, eN], rfl⟩
      · have he : (r, ob 8 [.int (nI 3), .int (nI pp), .int (nI (sn S (45 + pp))), .ref (r5 0)]) ∈ ro := hr2
        refine ev_aaldN (i := pp) (r := r) hC (mw 11 rfl) (by omega) (by omega) hr1 dX11_act_66 ?_
        refine ev_iload_n hC dX11_act_67 rfl 3 rfl ?_
        refine ev_callU (As := [.int x3]) (st := []) (wf := (List.flatten [SP x r1 r2 r3 r4 r5 d b1 b2 b3 hi, MO G b1 (vwn S 2 6) tk os (vwn S 14 6) (vwn S 20 6) (vwn S 26 6) (vwn S 51 24) le (S 32) (bitF S) (S 0) (S 1) t (S 33) (-1) wa])) hC cu_X11_260_8 (m_X4_licks_k3 G ro r pp (sn S (45 + pp)) r5 D q2 q3 g1 g2 g3 gc 0 x3 he (by omega)) (by omega) rfl rfl (Nat.le_of_ble_eq_true rfl) (perm_sg (n := 3) [1, 0, 2] rfl rfl (by decide)) (mr he) rfl dX11_act_68 (by omega) (by omega) ?_
        rintro _ _ _ ⟨f_23, f_24, rfl, rfl, rfl⟩
        show Ev G X 0 0 71 [(0, .ref x), (1, .int (nI pp)), (2, .int (nI 1)), (3, .int x3)] [.int ((x3 + (nI pp)) - (nI (sn S (45 + pp))))] (List.flatten [RW G r5 20 (upd (upd D 0 (nI 2)) 1 (nI 1)) f_23 f_24 (nI 2) g1 g2 g3 gc, SP x r1 r2 r3 r4 r5 d b1 b2 b3 hi, MO G b1 (vwn S 2 6) tk os (vwn S 14 6) (vwn S 20 6) (vwn S 26 6) (vwn S 51 24) le (S 32) (bitF S) (S 0) (S 1) t (S 33) (-1) wa]) ro
        refine ev_perm (ws' := (List.flatten [SP x r1 r2 r3 r4 r5 d b1 b2 b3 hi, RW G r5 20 (upd (upd D 0 (nI 2)) 1 (nI 1)) f_23 f_24 (nI 2) g1 g2 g3 gc, MO G b1 (vwn S 2 6) tk os (vwn S 14 6) (vwn S 20 6) (vwn S 26 6) (vwn S 51 24) le (S 32) (bitF S) (S 0) (S 1) t (S 33) (-1) wa])) (perm_sg2 (n := 3) [1, 0, 2] rfl rfl (by decide)) ?_
        refine ev_iret hC hR rfl dX11_act_71 ?_
        have ev := (hW.v pp (by omega)).eq
        have eR : actR S (nI pp) (nI 1) x3 = ((x3 + (nI pp)) - (nI (sn S (45 + pp)))) := by
          rw [actR, if_pos ⟨by assumption, by decide⟩, hpn_pp, show pn (nI 1) = 1 from rfl, ← hkd, ev]
          rfl
        have eD : actD S D (nI pp) (nI 1) = upd (upd D 0 (nI 2)) 1 (nI 1) := by
          rw [actD, if_pos ⟨by assumption, by decide⟩, hpn_pp, show pn (nI 1) = 1 from rfl, ← hkd]
          rfl
        have eN : actN S (nI pp) (nI 1) = 2 := by
          rw [actN, if_pos ⟨by assumption, by decide⟩, hpn_pp, show pn (nI 1) = 1 from rfl, ← hkd]
          rfl
        exact ⟨f_23, f_24, by rw [eR], by rw [eD, eN], rfl⟩
      · have he : (r, ob 2 [.int (nI 4), .int (nI pp), .int (nI (sn S (45 + pp))), .ref (r5 0)]) ∈ ro := hr2
        refine ev_aaldN (i := pp) (r := r) hC (mw 11 rfl) (by omega) (by omega) hr1 dX11_act_66 ?_
        refine ev_iload_n hC dX11_act_67 rfl 3 rfl ?_
        refine ev_callU (As := [.int x3]) (st := []) (wf := (List.flatten [SP x r1 r2 r3 r4 r5 d b1 b2 b3 hi, MO G b1 (vwn S 2 6) tk os (vwn S 14 6) (vwn S 20 6) (vwn S 26 6) (vwn S 51 24) le (S 32) (bitF S) (S 0) (S 1) t (S 33) (-1) wa])) hC cu_X11_260_2 (m_X4_licks_k4 G ro r pp (sn S (45 + pp)) r5 D q2 q3 g1 g2 g3 gc 0 x3 he (by omega)) (by omega) rfl rfl (Nat.le_of_ble_eq_true rfl) (perm_sg (n := 3) [1, 0, 2] rfl rfl (by decide)) (mr he) rfl dX11_act_68 (by omega) (by omega) ?_
        rintro _ _ _ ⟨f_25, f_26, rfl, rfl, rfl⟩
        show Ev G X 0 0 71 [(0, .ref x), (1, .int (nI pp)), (2, .int (nI 1)), (3, .int x3)] [.int (((x3 * (nI 3)) + (nI pp)) - (nI (sn S (45 + pp))))] (List.flatten [RW G r5 20 (upd (upd (upd D 0 (nI 2)) 1 (nI 11)) 2 (nI 1)) f_25 f_26 (nI 3) g1 g2 g3 gc, SP x r1 r2 r3 r4 r5 d b1 b2 b3 hi, MO G b1 (vwn S 2 6) tk os (vwn S 14 6) (vwn S 20 6) (vwn S 26 6) (vwn S 51 24) le (S 32) (bitF S) (S 0) (S 1) t (S 33) (-1) wa]) ro
        refine ev_perm (ws' := (List.flatten [SP x r1 r2 r3 r4 r5 d b1 b2 b3 hi, RW G r5 20 (upd (upd (upd D 0 (nI 2)) 1 (nI 11)) 2 (nI 1)) f_25 f_26 (nI 3) g1 g2 g3 gc, MO G b1 (vwn S 2 6) tk os (vwn S 14 6) (vwn S 20 6) (vwn S 26 6) (vwn S 51 24) le (S 32) (bitF S) (S 0) (S 1) t (S 33) (-1) wa])) (perm_sg2 (n := 3) [1, 0, 2] rfl rfl (by decide)) ?_
        refine ev_iret hC hR rfl dX11_act_71 ?_
        have ev := (hW.v pp (by omega)).eq
        have eR : actR S (nI pp) (nI 1) x3 = (((x3 * (nI 3)) + (nI pp)) - (nI (sn S (45 + pp)))) := by
          rw [actR, if_pos ⟨by assumption, by decide⟩, hpn_pp, show pn (nI 1) = 1 from rfl, ← hkd, ev]
          rfl
        have eD : actD S D (nI pp) (nI 1) = upd (upd (upd D 0 (nI 2)) 1 (nI 11)) 2 (nI 1) := by
          rw [actD, if_pos ⟨by assumption, by decide⟩, hpn_pp, show pn (nI 1) = 1 from rfl, ← hkd]
          rfl
        have eN : actN S (nI pp) (nI 1) = 3 := by
          rw [actN, if_pos ⟨by assumption, by decide⟩, hpn_pp, show pn (nI 1) = 1 from rfl, ← hkd]
          rfl
        exact ⟨f_25, f_26, by rw [eR], by rw [eD, eN], rfl⟩
      · have he : (r, ob 5 [.int (nI 5), .int (nI pp), .int (nI (sn S (45 + pp))), .ref (r5 0)]) ∈ ro := hr2
        refine ev_aaldN (i := pp) (r := r) hC (mw 11 rfl) (by omega) (by omega) hr1 dX11_act_66 ?_
        refine ev_iload_n hC dX11_act_67 rfl 3 rfl ?_
        refine ev_callU (As := [.int x3]) (st := []) (wf := (List.flatten [SP x r1 r2 r3 r4 r5 d b1 b2 b3 hi, MO G b1 (vwn S 2 6) tk os (vwn S 14 6) (vwn S 20 6) (vwn S 26 6) (vwn S 51 24) le (S 32) (bitF S) (S 0) (S 1) t (S 33) (-1) wa])) hC cu_X11_260_5 (m_X0_licks_k5 G ro r pp (sn S (45 + pp)) r5 D q2 q3 g1 g2 g3 gc 0 x3 he (by omega)) (by omega) rfl rfl (Nat.le_of_ble_eq_true rfl) (perm_sg (n := 3) [1, 0, 2] rfl rfl (by decide)) (mr he) rfl dX11_act_68 (by omega) (by omega) ?_
        rintro _ _ _ ⟨f_27, f_28, rfl, rfl, rfl⟩
        show Ev G X 0 0 71 [(0, .ref x), (1, .int (nI pp)), (2, .int (nI 1)), (3, .int x3)] [.int (-(((x3 + (nI pp)) ^^^ (nI pp)) - (nI (sn S (45 + pp)))))] (List.flatten [RW G r5 20 (upd (upd (upd (upd D 0 (nI 21)) 1 (nI 2)) 2 (nI 51)) 3 (nI 1)) f_27 f_28 (nI 4) g1 g2 g3 gc, SP x r1 r2 r3 r4 r5 d b1 b2 b3 hi, MO G b1 (vwn S 2 6) tk os (vwn S 14 6) (vwn S 20 6) (vwn S 26 6) (vwn S 51 24) le (S 32) (bitF S) (S 0) (S 1) t (S 33) (-1) wa]) ro
        refine ev_perm (ws' := (List.flatten [SP x r1 r2 r3 r4 r5 d b1 b2 b3 hi, RW G r5 20 (upd (upd (upd (upd D 0 (nI 21)) 1 (nI 2)) 2 (nI 51)) 3 (nI 1)) f_27 f_28 (nI 4) g1 g2 g3 gc, MO G b1 (vwn S 2 6) tk os (vwn S 14 6) (vwn S 20 6) (vwn S 26 6) (vwn S 51 24) le (S 32) (bitF S) (S 0) (S 1) t (S 33) (-1) wa])) (perm_sg2 (n := 3) [1, 0, 2] rfl rfl (by decide)) ?_
        refine ev_iret hC hR rfl dX11_act_71 ?_
        have ev := (hW.v pp (by omega)).eq
        have eR : actR S (nI pp) (nI 1) x3 = (-(((x3 + (nI pp)) ^^^ (nI pp)) - (nI (sn S (45 + pp))))) := by
          rw [actR, if_pos ⟨by assumption, by decide⟩, hpn_pp, show pn (nI 1) = 1 from rfl, ← hkd, ev]
          rfl
        have eD : actD S D (nI pp) (nI 1) = upd (upd (upd (upd D 0 (nI 21)) 1 (nI 2)) 2 (nI 51)) 3 (nI 1) := by
          rw [actD, if_pos ⟨by assumption, by decide⟩, hpn_pp, show pn (nI 1) = 1 from rfl, ← hkd]
          rfl
        have eN : actN S (nI pp) (nI 1) = 4 := by
          rw [actN, if_pos ⟨by assumption, by decide⟩, hpn_pp, show pn (nI 1) = 1 from rfl, ← hkd]
          rfl
        exact ⟨f_27, f_28, by rw [eR], by rw [eD, eN], rfl⟩
      · have he : (r, ob 9 [.int (nI 6), .int (nI pp), .int (nI (sn S (45 + pp))), .ref (r5 0)]) ∈ ro := hr2
        refine ev_aaldN (i := pp) (r := r) hC (mw 11 rfl) (by omega) (by omega) hr1 dX11_act_66 ?_
        refine ev_iload_n hC dX11_act_67 rfl 3 rfl ?_
        refine ev_callU (As := [.int x3]) (st := []) (wf := (List.flatten [SP x r1 r2 r3 r4 r5 d b1 b2 b3 hi, MO G b1 (vwn S 2 6) tk os (vwn S 14 6) (vwn S 20 6) (vwn S 26 6) (vwn S 51 24) le (S 32) (bitF S) (S 0) (S 1) t (S 33) (-1) wa])) hC cu_X11_260_9 (m_X9_licks_k6 G ro r pp (sn S (45 + pp)) r5 D q2 q3 g1 g2 g3 gc 0 x3 he (by omega)) (by omega) rfl rfl (Nat.le_of_ble_eq_true rfl) (perm_sg (n := 3) [1, 0, 2] rfl rfl (by decide)) (mr he) rfl dX11_act_68 (by omega) (by omega) ?_
        rintro _ _ _ ⟨f_29, f_30, rfl, rfl, rfl⟩
        show Ev G X 0 0 71 [(0, .ref x), (1, .int (nI pp)), (2, .int (nI 1)), (3, .int x3)] [.int (((x3 + (nI pp)) - (nI (sn S (45 + pp)))) + (nI (sn S (45 + pp))))] (List.flatten [RW G r5 20 (upd (upd (upd D 0 (nI 61)) 1 (nI 2)) 2 (nI 1)) f_29 f_30 (nI 3) g1 g2 g3 gc, SP x r1 r2 r3 r4 r5 d b1 b2 b3 hi, MO G b1 (vwn S 2 6) tk os (vwn S 14 6) (vwn S 20 6) (vwn S 26 6) (vwn S 51 24) le (S 32) (bitF S) (S 0) (S 1) t (S 33) (-1) wa]) ro
        refine ev_perm (ws' := (List.flatten [SP x r1 r2 r3 r4 r5 d b1 b2 b3 hi, RW G r5 20 (upd (upd (upd D 0 (nI 61)) 1 (nI 2)) 2 (nI 1)) f_29 f_30 (nI 3) g1 g2 g3 gc, MO G b1 (vwn S 2 6) tk os (vwn S 14 6) (vwn S 20 6) (vwn S 26 6) (vwn S 51 24) le (S 32) (bitF S) (S 0) (S 1) t (S 33) (-1) wa])) (perm_sg2 (n := 3) [1, 0, 2] rfl rfl (by decide)) ?_
        refine ev_iret hC hR rfl dX11_act_71 ?_
        have ev := (hW.v pp (by omega)).eq
        have eR : actR S (nI pp) (nI 1) x3 = (((x3 + (nI pp)) - (nI (sn S (45 + pp)))) + (nI (sn S (45 + pp)))) := by
          rw [actR, if_pos ⟨by assumption, by decide⟩, hpn_pp, show pn (nI 1) = 1 from rfl, ← hkd, ev]
          rfl
        have eD : actD S D (nI pp) (nI 1) = upd (upd (upd D 0 (nI 61)) 1 (nI 2)) 2 (nI 1) := by
          rw [actD, if_pos ⟨by assumption, by decide⟩, hpn_pp, show pn (nI 1) = 1 from rfl, ← hkd]
          rfl
        have eN : actN S (nI pp) (nI 1) = 3 := by
          rw [actN, if_pos ⟨by assumption, by decide⟩, hpn_pp, show pn (nI 1) = 1 from rfl, ← hkd]
          rfl
        exact ⟨f_29, f_30, by rw [eR], by rw [eD, eN], rfl⟩
    by_cases w_2_2 : z = nI 2
    · subst w_2_2
      refine ev_tabIn (off := 53) (tgt := 72) hC dX11_act_19 (by decide) (by decide) (by decide) (by decide) ?_
      refine ev_aload_n hC dX11_act_72 rfl 0 rfl ?_
      refine ev_get hC fl_X11_58_11 (mw 0 rfl) rfl dX11_act_73 ?_
      refine ev_get hC fl_X11_121_3 (mw 8 rfl) rfl dX11_act_76 ?_
      refine ev_iload_n hC dX11_act_79 rfl 1 rfl ?_
      obtain ⟨r, hr1, hr2⟩ := hO.1 pp (by omega)
      obtain ⟨kd, hkd⟩ : ∃ kd, kd = sn S (39 + pp) := ⟨_, rfl⟩
      rw [← hkd] at hr2
      have hk6 : kd ≤ 6 := by rw [hkd]; exact (hW.kind pp (by omega)).le
      have hv9 := (hW.v pp (by omega)).le
      rcases (show kd = 0 ∨ kd = 1 ∨ kd = 2 ∨ kd = 3 ∨ kd = 4 ∨ kd = 5 ∨ kd = 6 by omega) with rfl | rfl | rfl | rfl | rfl | rfl | rfl
      · have he : (r, ob 4 [.int (nI 0), .int (nI pp), .int (nI (sn S (45 + pp))), .ref (r5 0)]) ∈ ro := hr2
        refine ev_aaldN (i := pp) (r := r) hC (mw 11 rfl) (by omega) (by omega) hr1 dX11_act_80 ?_
        refine ev_iload_n hC dX11_act_81 rfl 3 rfl ?_
        refine ev_callU (As := [.int x3]) (st := []) (wf := (List.flatten [SP x r1 r2 r3 r4 r5 d b1 b2 b3 hi, MO G b1 (vwn S 2 6) tk os (vwn S 14 6) (vwn S 20 6) (vwn S 26 6) (vwn S 51 24) le (S 32) (bitF S) (S 0) (S 1) t (S 33) (-1) wa])) hC cu_X11_263_4 (m_X4_tells_k0 G ro r pp (sn S (45 + pp)) r5 D q2 q3 g1 g2 g3 gc 0 x3 he (by omega)) (by omega) rfl rfl (Nat.le_of_ble_eq_true rfl) (perm_sg (n := 3) [1, 0, 2] rfl rfl (by decide)) (mr he) rfl dX11_act_82 (by omega) (by omega) ?_
        rintro _ _ _ ⟨f_31, f_32, rfl, rfl, rfl⟩
        show Ev G X 0 0 85 [(0, .ref x), (1, .int (nI pp)), (2, .int (nI 2)), (3, .int x3)] [.int (((x3 + (nI pp)) - (nI (sn S (45 + pp)))) * (nI 2))] (List.flatten [RW G r5 20 (upd (upd (upd D 0 (nI 3)) 1 (nI 2)) 2 (nI 1)) f_31 f_32 (nI 3) g1 g2 g3 gc, SP x r1 r2 r3 r4 r5 d b1 b2 b3 hi, MO G b1 (vwn S 2 6) tk os (vwn S 14 6) (vwn S 20 6) (vwn S 26 6) (vwn S 51 24) le (S 32) (bitF S) (S 0) (S 1) t (S 33) (-1) wa]) ro
        refine ev_perm (ws' := (List.flatten [SP x r1 r2 r3 r4 r5 d b1 b2 b3 hi, RW G r5 20 (upd (upd (upd D 0 (nI 3)) 1 (nI 2)) 2 (nI 1)) f_31 f_32 (nI 3) g1 g2 g3 gc, MO G b1 (vwn S 2 6) tk os (vwn S 14 6) (vwn S 20 6) (vwn S 26 6) (vwn S 51 24) le (S 32) (bitF S) (S 0) (S 1) t (S 33) (-1) wa])) (perm_sg2 (n := 3) [1, 0, 2] rfl rfl (by decide)) ?_
        refine ev_iret hC hR rfl dX11_act_85 ?_
        have ev := (hW.v pp (by omega)).eq
        have eR : actR S (nI pp) (nI 2) x3 = (((x3 + (nI pp)) - (nI (sn S (45 + pp)))) * (nI 2)) := by
          rw [actR, if_pos ⟨by assumption, by decide⟩, hpn_pp, show pn (nI 2) = 2 from rfl, ← hkd, ev]
          rfl
        have eD : actD S D (nI pp) (nI 2) = upd (upd (upd D 0 (nI 3)) 1 (nI 2)) 2 (nI 1) := by
          rw [actD, if_pos ⟨by assumption, by decide⟩, hpn_pp, show pn (nI 2) = 2 from rfl, ← hkd]
          rfl
        have eN : actN S (nI pp) (nI 2) = 3 := by
          rw [actN, if_pos ⟨by assumption, by decide⟩, hpn_pp, show pn (nI 2) = 2 from rfl, ← hkd]
          rfl
        exact ⟨f_31, f_32, by rw [eR], by rw [eD, eN], rfl⟩
      · have he : (r, ob 1 [.int (nI 1), .int (nI pp), .int (nI (sn S (45 + pp))), .ref (r5 0)]) ∈ ro := hr2
        refine ev_aaldN (i := pp) (r := r) hC (mw 11 rfl) (by omega) (by omega) hr1 dX11_act_80 ?_
        refine ev_iload_n hC dX11_act_81 rfl 3 rfl ?_
        refine ev_callU (As := [.int x3]) (st := []) (wf := (List.flatten [SP x r1 r2 r3 r4 r5 d b1 b2 b3 hi, MO G b1 (vwn S 2 6) tk os (vwn S 14 6) (vwn S 20 6) (vwn S 26 6) (vwn S 51 24) le (S 32) (bitF S) (S 0) (S 1) t (S 33) (-1) wa])) hC cu_X11_263_1 (m_X4_tells_k1 G ro r pp (sn S (45 + pp)) r5 D q2 q3 g1 g2 g3 gc 0 x3 he (by omega)) (by omega) rfl rfl (Nat.le_of_ble_eq_true rfl) (perm_sg (n := 3) [1, 0, 2] rfl rfl (by decide)) (mr he) rfl dX11_act_82 (by omega) (by omega) ?_
        rintro _ _ _ ⟨f_33, f_34, rfl, rfl, rfl⟩
        show Ev G X 0 0 85 [(0, .ref x), (1, .int (nI pp)), (2, .int (nI 2)), (3, .int x3)] [.int ((((x3 * (nI 3)) + (nI pp)) - (nI (sn S (45 + pp)))) * (nI 2))] (List.flatten [RW G r5 20 (upd (upd (upd (upd D 0 (nI 3)) 1 (nI 2)) 2 (nI 11)) 3 (nI 1)) f_33 f_34 (nI 4) g1 g2 g3 gc, SP x r1 r2 r3 r4 r5 d b1 b2 b3 hi, MO G b1 (vwn S 2 6) tk os (vwn S 14 6) (vwn S 20 6) (vwn S 26 6) (vwn S 51 24) le (S 32) (bitF S) (S 0) (S 1) t (S 33) (-1) wa]) ro
        refine ev_perm (ws' := (List.flatten [SP x r1 r2 r3 r4 r5 d b1 b2 b3 hi, RW G r5 20 (upd (upd (upd (upd D 0 (nI 3)) 1 (nI 2)) 2 (nI 11)) 3 (nI 1)) f_33 f_34 (nI 4) g1 g2 g3 gc, MO G b1 (vwn S 2 6) tk os (vwn S 14 6) (vwn S 20 6) (vwn S 26 6) (vwn S 51 24) le (S 32) (bitF S) (S 0) (S 1) t (S 33) (-1) wa])) (perm_sg2 (n := 3) [1, 0, 2] rfl rfl (by decide)) ?_
        refine ev_iret hC hR rfl dX11_act_85 ?_
        have ev := (hW.v pp (by omega)).eq
        have eR : actR S (nI pp) (nI 2) x3 = ((((x3 * (nI 3)) + (nI pp)) - (nI (sn S (45 + pp)))) * (nI 2)) := by
          rw [actR, if_pos ⟨by assumption, by decide⟩, hpn_pp, show pn (nI 2) = 2 from rfl, ← hkd, ev]
          rfl
        have eD : actD S D (nI pp) (nI 2) = upd (upd (upd (upd D 0 (nI 3)) 1 (nI 2)) 2 (nI 11)) 3 (nI 1) := by
          rw [actD, if_pos ⟨by assumption, by decide⟩, hpn_pp, show pn (nI 2) = 2 from rfl, ← hkd]
          rfl
        have eN : actN S (nI pp) (nI 2) = 4 := by
          rw [actN, if_pos ⟨by assumption, by decide⟩, hpn_pp, show pn (nI 2) = 2 from rfl, ← hkd]
          rfl
        exact ⟨f_33, f_34, by rw [eR], by rw [eD, eN], rfl⟩
      · have he : (r, ob 0 [.int (nI 2), .int (nI pp), .int (nI (sn S (45 + pp))), .ref (r5 0)]) ∈ ro := hr2
        refine ev_aaldN (i := pp) (r := r) hC (mw 11 rfl) (by omega) (by omega) hr1 dX11_act_80 ?_
        refine ev_iload_n hC dX11_act_81 rfl 3 rfl ?_
        refine ev_callU (As := [.int x3]) (st := []) (wf := (List.flatten [SP x r1 r2 r3 r4 r5 d b1 b2 b3 hi, MO G b1 (vwn S 2 6) tk os (vwn S 14 6) (vwn S 20 6) (vwn S 26 6) (vwn S 51 24) le (S 32) (bitF S) (S 0) (S 1) t (S 33) (-1) wa])) hC cu_X11_263_0 (m_X4_tells_k2 G ro r pp (sn S (45 + pp)) r5 D q2 q3 g1 g2 g3 gc 0 x3 he (by omega)) (by omega) rfl rfl (Nat.le_of_ble_eq_true rfl) (perm_sg (n := 3) [1, 0, 2] rfl rfl (by decide)) (mr he) rfl dX11_act_82 (by omega) (by omega) ?_
        rintro _ _ _ ⟨f_35, f_36, rfl, rfl, rfl⟩
        show Ev G X 0 0 85 [(0, .ref x), (1, .int (nI pp)), (2, .int (nI 2)), (3, .int x3)] [.int ((-((x3 + (nI pp)) - (nI (sn S (45 + pp))))) * (nI 2))] (List.flatten [RW G r5 20 (upd (upd (upd (upd D 0 (nI 3)) 1 (nI 21)) 2 (nI 2)) 3 (nI 1)) f_35 f_36 (nI 4) g1 g2 g3 gc, SP x r1 r2 r3 r4 r5 d b1 b2 b3 hi, MO G b1 (vwn S 2 6) tk os (vwn S 14 6) (vwn S 20 6) (vwn S 26 6) (vwn S 51 24) le (S 32) (bitF S) (S 0) (S 1) t (S 33) (-1) wa]) ro
        refine ev_perm (ws' := (List.flatten [SP x r1 r2 r3 r4 r5 d b1 b2 b3 hi, RW G r5 20 (upd (upd (upd (upd D 0 (nI 3)) 1 (nI 21)) 2 (nI 2)) 3 (nI 1)) f_35 f_36 (nI 4) g1 g2 g3 gc, MO G b1 (vwn S 2 6) tk os (vwn S 14 6) (vwn S 20 6) (vwn S 26 6) (vwn S 51 24) le (S 32) (bitF S) (S 0) (S 1) t (S 33) (-1) wa])) (perm_sg2 (n := 3) [1, 0, 2] rfl rfl (by decide)) ?_
        refine ev_iret hC hR rfl dX11_act_85 ?_
        have ev := (hW.v pp (by omega)).eq
        have eR : actR S (nI pp) (nI 2) x3 = ((-((x3 + (nI pp)) - (nI (sn S (45 + pp))))) * (nI 2)) := by
          rw [actR, if_pos ⟨by assumption, by decide⟩, hpn_pp, show pn (nI 2) = 2 from rfl, ← hkd, ev]
          rfl
        have eD : actD S D (nI pp) (nI 2) = upd (upd (upd (upd D 0 (nI 3)) 1 (nI 21)) 2 (nI 2)) 3 (nI 1) := by
          rw [actD, if_pos ⟨by assumption, by decide⟩, hpn_pp, show pn (nI 2) = 2 from rfl, ← hkd]
          rfl
        have eN : actN S (nI pp) (nI 2) = 4 := by
          rw [actN, if_pos ⟨by assumption, by decide⟩, hpn_pp, show pn (nI 2) = 2 from rfl, ← hkd]
          rfl
        exact ⟨f_35, f_36, by rw [eR], by rw [eD, eN], rfl⟩
      · have he : (r, ob 8 [.int (nI 3), .int (nI pp), .int (nI (sn S (45 + pp))), .ref (r5 0)]) ∈ ro := hr2
        refine ev_aaldN (i := pp) (r := r) hC (mw 11 rfl) (by omega) (by omega) hr1 dX11_act_80 ?_
        refine ev_iload_n hC dX11_act_81 rfl 3 rfl ?_
        refine ev_callU (As := [.int x3]) (st := []) (wf := (List.flatten [SP x r1 r2 r3 r4 r5 d b1 b2 b3 hi, MO G b1 (vwn S 2 6) tk os (vwn S 14 6) (vwn S 20 6) (vwn S 26 6) (vwn S 51 24) le (S 32) (bitF S) (S 0) (S 1) t (S 33) (-1) wa])) hC cu_X11_263_8 (m_X8_tells_k3 G ro r pp (sn S (45 + pp)) r5 D q2 q3 g1 g2 g3 gc 0 x3 he (by omega)) (by omega) rfl rfl (Nat.le_of_ble_eq_true rfl) (perm_sg (n := 3) [1, 0, 2] rfl rfl (by decide)) (mr he) rfl dX11_act_82 (by omega) (by omega) ?_
        rintro _ _ _ ⟨f_37, f_38, rfl, rfl, rfl⟩
        show Ev G X 0 0 85 [(0, .ref x), (1, .int (nI pp)), (2, .int (nI 2)), (3, .int x3)] [.int ((((x3 + (nI pp)) - (nI (sn S (45 + pp)))) * (nI 2)) ^^^ (nI 7))] (List.flatten [RW G r5 20 (upd (upd (upd (upd D 0 (nI 31)) 1 (nI 3)) 2 (nI 2)) 3 (nI 1)) f_37 f_38 (nI 4) g1 g2 g3 gc, SP x r1 r2 r3 r4 r5 d b1 b2 b3 hi, MO G b1 (vwn S 2 6) tk os (vwn S 14 6) (vwn S 20 6) (vwn S 26 6) (vwn S 51 24) le (S 32) (bitF S) (S 0) (S 1) t (S 33) (-1) wa]) ro
        refine ev_perm (ws' := (List.flatten [SP x r1 r2 r3 r4 r5 d b1 b2 b3 hi, RW G r5 20 (upd (upd (upd (upd D 0 (nI 31)) 1 (nI 3)) 2 (nI 2)) 3 (nI 1)) f_37 f_38 (nI 4) g1 g2 g3 gc, MO G b1 (vwn S 2 6) tk os (vwn S 14 6) (vwn S 20 6) (vwn S 26 6) (vwn S 51 24) le (S 32) (bitF S) (S 0) (S 1) t (S 33) (-1) wa])) (perm_sg2 (n := 3) [1, 0, 2] rfl rfl (by decide)) ?_
        refine ev_iret hC hR rfl dX11_act_85 ?_
        have ev := (hW.v pp (by omega)).eq
        have eR : actR S (nI pp) (nI 2) x3 = ((((x3 + (nI pp)) - (nI (sn S (45 + pp)))) * (nI 2)) ^^^ (nI 7)) := by
          rw [actR, if_pos ⟨by assumption, by decide⟩, hpn_pp, show pn (nI 2) = 2 from rfl, ← hkd, ev]
          rfl
        have eD : actD S D (nI pp) (nI 2) = upd (upd (upd (upd D 0 (nI 31)) 1 (nI 3)) 2 (nI 2)) 3 (nI 1) := by
          rw [actD, if_pos ⟨by assumption, by decide⟩, hpn_pp, show pn (nI 2) = 2 from rfl, ← hkd]
          rfl
        have eN : actN S (nI pp) (nI 2) = 4 := by
          rw [actN, if_pos ⟨by assumption, by decide⟩, hpn_pp, show pn (nI 2) = 2 from rfl, ← hkd]
          rfl
        exact ⟨f_37, f_38, by rw [eR], by rw [eD, eN], rfl⟩
      · have he : (r, ob 2 [.int (nI 4), .int (nI pp), .int (nI (sn S (45 + pp))), .ref (r5 0)]) ∈ ro := hr2
        refine ev_aaldN (i := pp) (r := r) hC (mw 11 rfl) (by omega) (by omega) hr1 dX11_act_80 ?_
        refine ev_iload_n hC dX11_act_81 rfl 3 rfl ?_
        refine ev_callU (As := [.int x3]) (st := []) (wf := (List.flatten [SP x r1 r2 r3 r4 r5 d b1 b2 b3 hi, MO G b1 (vwn S 2 6) tk os (vwn S 14 6) (vwn S 20 6) (vwn S 26 6) (vwn S 51 24) le (S 32) (bitF S) (S 0) (S 1) t (S 33) (-1) wa])) hC cu_X11_263_2 (m_X2_tells_k4 G ro r pp (sn S (45 + pp)) r5 D q2 q3 g1 g2 g3 gc 0 x3 he (by omega)) (by omega) rfl rfl (Nat.le_of_ble_eq_true rfl) (perm_sg (n := 3) [1, 0, 2] rfl rfl (by decide)) (mr he) rfl dX11_act_82 (by omega) (by omega) ?_
        rintro _ _ _ ⟨f_39, f_40, rfl, rfl, rfl⟩
        show Ev G X 0 0 85 [(0, .ref x), (1, .int (nI pp)), (2, .int (nI 2)), (3, .int x3)] [.int ((((((x3 - (nI 1)) * (nI 3)) + (nI pp)) - (nI (sn S (45 + pp)))) * (nI 2)) + (((nI 2) * (nI 3)) + (nI pp)))] (List.flatten [RW G r5 20 (upd (upd (upd (upd (upd (upd (upd D 0 (nI 41)) 1 (nI 3)) 2 (nI 2)) 3 (nI 11)) 4 (nI 1)) 5 (nI 11)) 6 (nI 1)) f_39 f_40 (nI 7) g1 g2 g3 gc, SP x r1 r2 r3 r4 r5 d b1 b2 b3 hi, MO G b1 (vwn S 2 6) tk os (vwn S 14 6) (vwn S 20 6) (vwn S 26 6) (vwn S 51 24) le (S 32) (bitF S) (S 0) (S 1) t (S 33) (-1) wa]) ro
        refine ev_perm (ws' := (List.flatten [SP x r1 r2 r3 r4 r5 d b1 b2 b3 hi, RW G r5 20 (upd (upd (upd (upd (upd (upd (upd D 0 (nI 41)) 1 (nI 3)) 2 (nI 2)) 3 (nI 11)) 4 (nI 1)) 5 (nI 11)) 6 (nI 1)) f_39 f_40 (nI 7) g1 g2 g3 gc, MO G b1 (vwn S 2 6) tk os (vwn S 14 6) (vwn S 20 6) (vwn S 26 6) (vwn S 51 24) le (S 32) (bitF S) (S 0) (S 1) t (S 33) (-1) wa])) (perm_sg2 (n := 3) [1, 0, 2] rfl rfl (by decide)) ?_
        refine ev_iret hC hR rfl dX11_act_85 ?_
        have ev := (hW.v pp (by omega)).eq
        have eR : actR S (nI pp) (nI 2) x3 = ((((((x3 - (nI 1)) * (nI 3)) + (nI pp)) - (nI (sn S (45 + pp)))) * (nI 2)) + (((nI 2) * (nI 3)) + (nI pp))) := by
          rw [actR, if_pos ⟨by assumption, by decide⟩, hpn_pp, show pn (nI 2) = 2 from rfl, ← hkd, ev]
          rfl
        have eD : actD S D (nI pp) (nI 2) = upd (upd (upd (upd (upd (upd (upd D 0 (nI 41)) 1 (nI 3)) 2 (nI 2)) 3 (nI 11)) 4 (nI 1)) 5 (nI 11)) 6 (nI 1) := by
          rw [actD, if_pos ⟨by assumption, by decide⟩, hpn_pp, show pn (nI 2) = 2 from rfl, ← hkd]
          rfl
        have eN : actN S (nI pp) (nI 2) = 7 := by
          rw [actN, if_pos ⟨by assumption, by decide⟩, hpn_pp, show pn (nI 2) = 2 from rfl, ← hkd]
          rfl
        exact ⟨f_39, f_40, by rw [eR], by rw [eD, eN], rfl⟩
      · have he : (r, ob 5 [.int (nI 5), .int (nI pp), .int (nI (sn S (45 + pp))), .ref (r5 0)]) ∈ ro := hr2
        refine ev_aaldN (i := pp) (r := r) hC (mw 11 rfl) (by omega) (by omega) hr1 dX11_act_80 ?_
        refine ev_iload_n hC dX11_act_81 rfl 3 rfl ?_
        refine ev_callU (As := [.int x3]) (st := []) (wf := (List.flatten [SP x r1 r2 r3 r4 r5 d b1 b2 b3 hi, MO G b1 (vwn S 2 6) tk os (vwn S 14 6) (vwn S 20 6) (vwn S 26 6) (vwn S 51 24) le (S 32) (bitF S) (S 0) (S 1) t (S 33) (-1) wa])) hC cu_X11_263_5 (m_X4_tells_k5 G ro r pp (sn S (45 + pp)) r5 D q2 q3 g1 g2 g3 gc 0 x3 he (by omega)) (by omega) rfl rfl (Nat.le_of_ble_eq_true rfl) (perm_sg (n := 3) [1, 0, 2] rfl rfl (by decide)) (mr he) rfl dX11_act_82 (by omega) (by omega) ?_
        rintro _ _ _ ⟨f_41, f_42, rfl, rfl, rfl⟩
        show Ev G X 0 0 85 [(0, .ref x), (1, .int (nI pp)), (2, .int (nI 2)), (3, .int x3)] [.int ((-(((x3 + (nI pp)) ^^^ (nI pp)) - (nI (sn S (45 + pp))))) * (nI 2))] (List.flatten [RW G r5 20 (upd (upd (upd (upd (upd D 0 (nI 3)) 1 (nI 21)) 2 (nI 2)) 3 (nI 51)) 4 (nI 1)) f_41 f_42 (nI 5) g1 g2 g3 gc, SP x r1 r2 r3 r4 r5 d b1 b2 b3 hi, MO G b1 (vwn S 2 6) tk os (vwn S 14 6) (vwn S 20 6) (vwn S 26 6) (vwn S 51 24) le (S 32) (bitF S) (S 0) (S 1) t (S 33) (-1) wa]) ro
        refine ev_perm (ws' := (List.flatten [SP x r1 r2 r3 r4 r5 d b1 b2 b3 hi, RW G r5 20 (upd (upd (upd (upd (upd D 0 (nI 3)) 1 (nI 21)) 2 (nI 2)) 3 (nI 51)) 4 (nI 1)) f_41 f_42 (nI 5) g1 g2 g3 gc, MO G b1 (vwn S 2 6) tk os (vwn S 14 6) (vwn S 20 6) (vwn S 26 6) (vwn S 51 24) le (S 32) (bitF S) (S 0) (S 1) t (S 33) (-1) wa])) (perm_sg2 (n := 3) [1, 0, 2] rfl rfl (by decide)) ?_
        refine ev_iret hC hR rfl dX11_act_85 ?_
        have ev := (hW.v pp (by omega)).eq
        have eR : actR S (nI pp) (nI 2) x3 = ((-(((x3 + (nI pp)) ^^^ (nI pp)) - (nI (sn S (45 + pp))))) * (nI 2)) := by
          rw [actR, if_pos ⟨by assumption, by decide⟩, hpn_pp, show pn (nI 2) = 2 from rfl, ← hkd, ev]
          rfl
        have eD : actD S D (nI pp) (nI 2) = upd (upd (upd (upd (upd D 0 (nI 3)) 1 (nI 21)) 2 (nI 2)) 3 (nI 51)) 4 (nI 1) := by
          rw [actD, if_pos ⟨by assumption, by decide⟩, hpn_pp, show pn (nI 2) = 2 from rfl, ← hkd]
          rfl
        have eN : actN S (nI pp) (nI 2) = 5 := by
          rw [actN, if_pos ⟨by assumption, by decide⟩, hpn_pp, show pn (nI 2) = 2 from rfl, ← hkd]
          rfl
        exact ⟨f_41, f_42, by rw [eR], by rw [eD, eN], rfl⟩
      · have he : (r, ob 9 [.int (nI 6), .int (nI pp), .int (nI (sn S (45 + pp))), .ref (r5 0)]) ∈ ro := hr2
        refine ev_aaldN (i := pp) (r := r) hC (mw 11 rfl) (by omega) (by omega) hr1 dX11_act_80 ?_
        refine ev_iload_n hC dX11_act_81 rfl 3 rfl ?_
        refine ev_callU (As := [.int x3]) (st := []) (wf := (List.flatten [SP x r1 r2 r3 r4 r5 d b1 b2 b3 hi, MO G b1 (vwn S 2 6) tk os (vwn S 14 6) (vwn S 20 6) (vwn S 26 6) (vwn S 51 24) le (S 32) (bitF S) (S 0) (S 1) t (S 33) (-1) wa])) hC cu_X11_263_9 (m_X8_tells_k6 G ro r pp (sn S (45 + pp)) r5 D q2 q3 g1 g2 g3 gc 0 x3 he (by omega)) (by omega) rfl rfl (Nat.le_of_ble_eq_true rfl) (perm_sg (n := 3) [1, 0, 2] rfl rfl (by decide)) (mr he) rfl dX11_act_82 (by omega) (by omega) ?_
        rintro _ _ _ ⟨f_43, f_44, rfl, rfl, rfl⟩
        show Ev G X 0 0 85 [(0, .ref x), (1, .int (nI pp)), (2, .int (nI 2)), (3, .int x3)] [.int (((((x3 + (nI pp)) - (nI (sn S (45 + pp)))) + (nI (sn S (45 + pp)))) * (nI 2)) ^^^ (nI 7))] (List.flatten [RW G r5 20 (upd (upd (upd (upd (upd D 0 (nI 31)) 1 (nI 3)) 2 (nI 61)) 3 (nI 2)) 4 (nI 1)) f_43 f_44 (nI 5) g1 g2 g3 gc, SP x r1 r2 r3 r4 r5 d b1 b2 b3 hi, MO G b1 (vwn S 2 6) tk os (vwn S 14 6) (vwn S 20 6) (vwn S 26 6) (vwn S 51 24) le (S 32) (bitF S) (S 0) (S 1) t (S 33) (-1) wa]) ro
        refine ev_perm (ws' := (List.flatten [SP x r1 r2 r3 r4 r5 d b1 b2 b3 hi, RW G r5 20 (upd (upd (upd (upd (upd D 0 (nI 31)) 1 (nI 3)) 2 (nI 61)) 3 (nI 2)) 4 (nI 1)) f_43 f_44 (nI 5) g1 g2 g3 gc, MO G b1 (vwn S 2 6) tk os (vwn S 14 6) (vwn S 20 6) (vwn S 26 6) (vwn S 51 24) le (S 32) (bitF S) (S 0) (S 1) t (S 33) (-1) wa])) (perm_sg2 (n := 3) [1, 0, 2] rfl rfl (by decide)) ?_
        refine ev_iret hC hR rfl dX11_act_85 ?_
        have ev := (hW.v pp (by omega)).eq
        have eR : actR S (nI pp) (nI 2) x3 = (((((x3 + (nI pp)) - (nI (sn S (45 + pp)))) + (nI (sn S (45 + pp)))) * (nI 2)) ^^^ (nI 7)) := by
          rw [actR, if_pos ⟨by assumption, by decide⟩, hpn_pp, show pn (nI 2) = 2 from rfl, ← hkd, ev]
          rfl
        have eD : actD S D (nI pp) (nI 2) = upd (upd (upd (upd (upd D 0 (nI 31)) 1 (nI 3)) 2 (nI 61)) 3 (nI 2)) 4 (nI 1) := by
          rw [actD, if_pos ⟨by assumption, by decide⟩, hpn_pp, show pn (nI 2) = 2 from rfl, ← hkd]
          rfl
        have eN : actN S (nI pp) (nI 2) = 5 := by
          rw [actN, if_pos ⟨by assumption, by decide⟩, hpn_pp, show pn (nI 2) = 2 from rfl, ← hkd]
          rfl
        exact ⟨f_43, f_44, by rw [eR], by rw [eD, eN], rfl⟩
    refine ev_tabOut (tgt := 86) hC dX11_act_19 (sw_out (lo := 0) (hi := 2) (fun j h1 h2 => ?_)) (by decide) ?_
    · intro e
      have hj : j = 0 ∨ j = 1 ∨ j = 2 := by omega
      rcases hj with rfl | rfl | rfl
      · exact w_2_0 (Int32.toInt_inj.mp (e.trans (by decide)))
      · exact w_2_1 (Int32.toInt_inj.mp (e.trans (by decide)))
      · exact w_2_2 (Int32.toInt_inj.mp (e.trans (by decide)))
    refine ev_iconst (v := (nI 0)) hC dX11_act_86 (by decide) ?_
    refine ev_iret hC hR rfl dX11_act_87 ?_
    have eR : actR S (nI pp) z x3 = nI 0 := by rw [actR, if_neg (fun h => by obtain ⟨k, hk, rfl⟩ := inN (m := 2) (by omega) h.2; rcases (show k = 0 ∨ k = 1 ∨ k = 2 by omega) with rfl | rfl | rfl <;> contradiction)]
    have eD : actD S D (nI pp) z = D := by rw [actD, if_neg (fun h => by obtain ⟨k, hk, rfl⟩ := inN (m := 2) (by omega) h.2; rcases (show k = 0 ∨ k = 1 ∨ k = 2 by omega) with rfl | rfl | rfl <;> contradiction)]
    have eN : actN S (nI pp) z = 0 := by rw [actN, if_neg (fun h => by obtain ⟨k, hk, rfl⟩ := inN (m := 2) (by omega) h.2; rcases (show k = 0 ∨ k = 1 ∨ k = 2 by omega) with rfl | rfl | rfl <;> contradiction)]
    exact ⟨q2, q3, by rw [eR], by rw [eD, eN], rfl⟩
  · refine ev_iconst (v := (nI 0)) hC dX11_act_16 (by decide) ?_
    refine ev_iret hC hR rfl dX11_act_17 ?_
    have eR : actR S y z x3 = nI 0 := by rw [actR, if_neg (fun h => absurd h.1 (by assumption))]
    have eD : actD S D y z = D := by rw [actD, if_neg (fun h => absurd h.1 (by assumption))]
    have eN : actN S y z = 0 := by rw [actN, if_neg (fun h => absurd h.1 (by assumption))]
    exact ⟨q2, q3, by rw [eR], by rw [eD, eN], rfl⟩
