/-! call sites, field accesses -/
set_option maxRecDepth 20000 in
theorem co_X0_1 : CO RX0 1 M_X4_init 4 := ⟨(ft_in 591 (by decide +kernel) rfl), (ft_in 203 (by decide +kernel) rfl), (ft_in 71 (by decide +kernel) rfl), (ft_in 204 (by decide +kernel) rfl), rfl, ⟨by decide +kernel, by decide +kernel, by decide +kernel⟩, by decide, rfl⟩
set_option maxRecDepth 20000 in
theorem cs_X0_7 : CS RX0 7 M_X4_rises 4 := ⟨(ft_in 685 (by decide +kernel) rfl), (ft_in 681 (by decide +kernel) rfl), (ft_in 596 (by decide +kernel) rfl), (ft_in 679 (by decide +kernel) rfl), (ft_in 71 (by decide +kernel) rfl), (ft_in 706 (by decide +kernel) rfl), ⟨by decide +kernel, by decide +kernel⟩, by decide⟩
set_option maxRecDepth 20000 in
theorem fl_X0_11_0 : FL RX0 11 0 2 := ⟨RX0, TX0, 4, tyX0, "SaltPeace$Bitter", ci_0, by decide, (ft_in 213 (by decide +kernel) rfl), Or.inr (ft_in 214 (by decide +kernel) rfl)⟩
set_option maxRecDepth 20000 in
theorem fl_X0_11_5 : FL RX0 11 5 2 := ⟨RX5, TX5, 4, tyX5, "SaltPeace$Bitter", ci_5, by decide, (ft_in 213 (by decide +kernel) rfl), Or.inr (ft_in 214 (by decide +kernel) rfl)⟩
set_option maxRecDepth 20000 in
theorem fl_X0_17_0 : FL RX0 17 0 3 := ⟨RX0, TX0, 4, tyX0, "SaltPeace$Bitter", ci_0, by decide, (ft_in 230 (by decide +kernel) rfl), Or.inr (ft_in 231 (by decide +kernel) rfl)⟩
set_option maxRecDepth 20000 in
theorem fl_X0_17_5 : FL RX0 17 5 3 := ⟨RX5, TX5, 4, tyX5, "SaltPeace$Bitter", ci_5, by decide, (ft_in 230 (by decide +kernel) rfl), Or.inr (ft_in 231 (by decide +kernel) rfl)⟩
set_option maxRecDepth 20000 in
theorem cv_X0_21 : CV RX0 21 M_X7_add 3 := ⟨(ft_in 1000 (by decide +kernel) rfl), (ft_in 362 (by decide +kernel) rfl), (ft_in 363 (by decide +kernel) rfl), (ft_in 67 (by decide +kernel) rfl), (ft_in 364 (by decide +kernel) rfl), ⟨by decide +kernel, by decide +kernel, by decide +kernel⟩, by decide⟩
set_option maxRecDepth 20000 in
theorem cs_X0_27 : CS RX0 27 M_X4_licks 1 := ⟨(ft_in 1001 (by decide +kernel) rfl), (ft_in 996 (by decide +kernel) rfl), (ft_in 596 (by decide +kernel) rfl), (ft_in 994 (by decide +kernel) rfl), (ft_in 71 (by decide +kernel) rfl), (ft_in 1013 (by decide +kernel) rfl), ⟨by decide +kernel, by decide +kernel⟩, by decide⟩
set_option maxRecDepth 20000 in
theorem co_X1_1 : CO RX1 1 M_X4_init 4 := ⟨(ft_in 580 (by decide +kernel) rfl), (ft_in 203 (by decide +kernel) rfl), (ft_in 71 (by decide +kernel) rfl), (ft_in 204 (by decide +kernel) rfl), rfl, ⟨by decide +kernel, by decide +kernel, by decide +kernel⟩, by decide, rfl⟩
set_option maxRecDepth 20000 in
theorem fl_X1_7_1 : FL RX1 7 1 3 := ⟨RX1, TX1, 4, tyX1, "SaltPeace$Gentle", ci_1, by decide, (ft_in 226 (by decide +kernel) rfl), Or.inr (ft_in 227 (by decide +kernel) rfl)⟩
set_option maxRecDepth 20000 in
theorem fl_X1_7_2 : FL RX1 7 2 3 := ⟨RX2, TX2, 4, tyX2, "SaltPeace$Gentle", ci_2, by decide, (ft_in 226 (by decide +kernel) rfl), Or.inr (ft_in 227 (by decide +kernel) rfl)⟩
set_option maxRecDepth 20000 in
theorem cv_X1_13 : CV RX1 13 M_X7_add 3 := ⟨(ft_in 979 (by decide +kernel) rfl), (ft_in 362 (by decide +kernel) rfl), (ft_in 363 (by decide +kernel) rfl), (ft_in 67 (by decide +kernel) rfl), (ft_in 364 (by decide +kernel) rfl), ⟨by decide +kernel, by decide +kernel, by decide +kernel⟩, by decide⟩
set_option maxRecDepth 20000 in
theorem cs_X1_19 : CS RX1 19 M_X4_wrongs 1 := ⟨(ft_in 980 (by decide +kernel) rfl), (ft_in 974 (by decide +kernel) rfl), (ft_in 585 (by decide +kernel) rfl), (ft_in 972 (by decide +kernel) rfl), (ft_in 71 (by decide +kernel) rfl), (ft_in 991 (by decide +kernel) rfl), ⟨by decide +kernel, by decide +kernel⟩, by decide⟩
set_option maxRecDepth 20000 in
theorem co_X2_1 : CO RX2 1 M_X1_init 4 := ⟨(ft_in 613 (by decide +kernel) rfl), (ft_in 578 (by decide +kernel) rfl), (ft_in 81 (by decide +kernel) rfl), (ft_in 579 (by decide +kernel) rfl), rfl, ⟨by decide +kernel, by decide +kernel, by decide +kernel⟩, by decide, rfl⟩
set_option maxRecDepth 20000 in
theorem cs_X2_7 : CS RX2 7 M_X1_rises 4 := ⟨(ft_in 692 (by decide +kernel) rfl), (ft_in 1509 (by decide +kernel) rfl), (ft_in 618 (by decide +kernel) rfl), (ft_in 687 (by decide +kernel) rfl), (ft_in 81 (by decide +kernel) rfl), (ft_in 688 (by decide +kernel) rfl), ⟨by decide +kernel, by decide +kernel⟩, by decide⟩
set_option maxRecDepth 20000 in
theorem fl_X2_11_2 : FL RX2 11 2 2 := ⟨RX2, TX2, 4, tyX2, "SaltPeace$Meek", ci_2, by decide, (ft_in 215 (by decide +kernel) rfl), Or.inr (ft_in 216 (by decide +kernel) rfl)⟩
set_option maxRecDepth 20000 in
theorem fl_X2_17_2 : FL RX2 17 2 3 := ⟨RX2, TX2, 4, tyX2, "SaltPeace$Meek", ci_2, by decide, (ft_in 232 (by decide +kernel) rfl), Or.inr (ft_in 233 (by decide +kernel) rfl)⟩
set_option maxRecDepth 20000 in
theorem cv_X2_21 : CV RX2 21 M_X7_add 3 := ⟨(ft_in 1024 (by decide +kernel) rfl), (ft_in 362 (by decide +kernel) rfl), (ft_in 363 (by decide +kernel) rfl), (ft_in 67 (by decide +kernel) rfl), (ft_in 364 (by decide +kernel) rfl), ⟨by decide +kernel, by decide +kernel, by decide +kernel⟩, by decide⟩
set_option maxRecDepth 20000 in
theorem cu_X2_31_2 : CU RX2 31 RX2 "SaltPeace$Gentle" ⟨"SaltPeace$Meek", "wrongs", "(I)I"⟩ M_X1_wrongs 1 := ⟨(ft_in 1028 (by decide +kernel) rfl), (ft_in 1029 (by decide +kernel) rfl), (ft_in 977 (by decide +kernel) rfl), (ft_in 1031 (by decide +kernel) rfl), (ft_in 977 (by decide +kernel) rfl), (ft_in 81 (by decide +kernel) rfl), (ft_in 978 (by decide +kernel) rfl), ⟨_, _, _, (ft_in 978 (by decide +kernel) rfl : Cond.code M_X1_wrongs.1 M_X1_wrongs.2.1 M_X1_wrongs.2.2.1 M_X1_wrongs.2.2.2 ∈ FT)⟩, ⟨by decide +kernel, by decide +kernel, by decide +kernel⟩, by decide⟩
set_option maxRecDepth 20000 in
theorem oi_X3_3 : Cond.methodLink RX3 3 objectInit ∈ FT ∧ Cond.instanceMethod objectInit ∈ FT ∧ Cond.code objectInit ⟨#[0xb1]⟩ 1 none ∈ FT := ⟨(ft_in 250 (by decide +kernel) rfl), (ft_in 94 (by decide +kernel) rfl), (ft_in 95 (by decide +kernel) rfl)⟩
set_option maxRecDepth 20000 in
theorem fp_X3_9_3 : FP RX3 9 3 0 true (.array .int) := ⟨RX3, TX3, 16, tyX3, "SaltPeace$Moor", ci_3, by decide, (ft_in 256 (by decide +kernel) rfl), Or.inl rfl, rfl, by decide +kernel, fun _ => rfl⟩
set_option maxRecDepth 20000 in
theorem fp_X3_15_3 : FP RX3 15 3 1 true (.array .int) := ⟨RX3, TX3, 16, tyX3, "SaltPeace$Moor", ci_3, by decide, (ft_in 258 (by decide +kernel) rfl), Or.inl rfl, rfl, by decide +kernel, fun _ => rfl⟩
set_option maxRecDepth 20000 in
theorem fp_X3_20_3 : FP RX3 20 3 2 true (.array (.object "SaltPeace$Person")) := ⟨RX3, TX3, 16, tyX3, "SaltPeace$Moor", ci_3, by decide, (ft_in 259 (by decide +kernel) rfl), Or.inl rfl, rfl, by decide +kernel, fun _ => rfl⟩
set_option maxRecDepth 20000 in
theorem fp_X3_24_3 : FP RX3 24 3 3 true (.array .int) := ⟨RX3, TX3, 16, tyX3, "SaltPeace$Moor", ci_3, by decide, (ft_in 261 (by decide +kernel) rfl), Or.inl rfl, rfl, by decide +kernel, fun _ => rfl⟩
set_option maxRecDepth 20000 in
theorem fp_X3_27_3 : FP RX3 27 3 4 true (.array .int) := ⟨RX3, TX3, 16, tyX3, "SaltPeace$Moor", ci_3, by decide, (ft_in 263 (by decide +kernel) rfl), Or.inl rfl, rfl, by decide +kernel, fun _ => rfl⟩
set_option maxRecDepth 20000 in
theorem fp_X3_30_3 : FP RX3 30 3 5 true (.array .int) := ⟨RX3, TX3, 16, tyX3, "SaltPeace$Moor", ci_3, by decide, (ft_in 265 (by decide +kernel) rfl), Or.inl rfl, rfl, by decide +kernel, fun _ => rfl⟩
set_option maxRecDepth 20000 in
theorem fp_X3_33_3 : FP RX3 33 3 6 true (.array .int) := ⟨RX3, TX3, 16, tyX3, "SaltPeace$Moor", ci_3, by decide, (ft_in 267 (by decide +kernel) rfl), Or.inl rfl, rfl, by decide +kernel, fun _ => rfl⟩
set_option maxRecDepth 20000 in
theorem fp_X3_38_3 : FP RX3 38 3 7 true (.array .int) := ⟨RX3, TX3, 16, tyX3, "SaltPeace$Moor", ci_3, by decide, (ft_in 269 (by decide +kernel) rfl), Or.inl rfl, rfl, by decide +kernel, fun _ => rfl⟩
set_option maxRecDepth 20000 in
theorem fp_X3_41_3 : FP RX3 41 3 8 false .int := ⟨RX3, TX3, 16, tyX3, "SaltPeace$Moor", ci_3, by decide, (ft_in 270 (by decide +kernel) rfl), Or.inl rfl, rfl, by decide +kernel, fun h => absurd h (by decide)⟩
set_option maxRecDepth 20000 in
theorem fp_X3_45_3 : FP RX3 45 3 9 false .int := ⟨RX3, TX3, 16, tyX3, "SaltPeace$Moor", ci_3, by decide, (ft_in 272 (by decide +kernel) rfl), Or.inl rfl, rfl, by decide +kernel, fun h => absurd h (by decide)⟩
set_option maxRecDepth 20000 in
theorem fp_X3_48_3 : FP RX3 48 3 10 false .int := ⟨RX3, TX3, 16, tyX3, "SaltPeace$Moor", ci_3, by decide, (ft_in 274 (by decide +kernel) rfl), Or.inl rfl, rfl, by decide +kernel, fun h => absurd h (by decide)⟩
set_option maxRecDepth 20000 in
theorem fp_X3_51_3 : FP RX3 51 3 11 false .boolean := ⟨RX3, TX3, 16, tyX3, "SaltPeace$Moor", ci_3, by decide, (ft_in 276 (by decide +kernel) rfl), Or.inl rfl, rfl, by decide +kernel, fun h => absurd h (by decide)⟩
set_option maxRecDepth 20000 in
theorem fp_X3_55_3 : FP RX3 55 3 13 false .int := ⟨RX3, TX3, 16, tyX3, "SaltPeace$Moor", ci_3, by decide, (ft_in 280 (by decide +kernel) rfl), Or.inl rfl, rfl, by decide +kernel, fun h => absurd h (by decide)⟩
set_option maxRecDepth 20000 in
theorem fp_X3_58_3 : FP RX3 58 3 14 false .int := ⟨RX3, TX3, 16, tyX3, "SaltPeace$Moor", ci_3, by decide, (ft_in 282 (by decide +kernel) rfl), Or.inl rfl, rfl, by decide +kernel, fun h => absurd h (by decide)⟩
set_option maxRecDepth 20000 in
theorem fp_X3_61_3 : FP RX3 61 3 15 false .int := ⟨RX3, TX3, 16, tyX3, "SaltPeace$Moor", ci_3, by decide, (ft_in 284 (by decide +kernel) rfl), Or.inl rfl, rfl, by decide +kernel, fun h => absurd h (by decide)⟩
set_option maxRecDepth 20000 in
theorem fp_X3_64_3 : FP RX3 64 3 12 false (.object "SaltPeace$Treaty") := ⟨RX3, TX3, 16, tyX3, "SaltPeace$Moor", ci_3, by decide, (ft_in 278 (by decide +kernel) rfl), Or.inl rfl, rfl, by decide +kernel, fun h => absurd h (by decide)⟩
set_option maxRecDepth 20000 in
theorem fl_X3_20_3 : FL RX3 20 3 2 := ⟨RX3, TX3, 16, tyX3, "SaltPeace$Moor", ci_3, by decide, (ft_in 259 (by decide +kernel) rfl), Or.inl rfl⟩
set_option maxRecDepth 20000 in
theorem fl_X3_9_3 : FL RX3 9 3 0 := ⟨RX3, TX3, 16, tyX3, "SaltPeace$Moor", ci_3, by decide, (ft_in 256 (by decide +kernel) rfl), Or.inl rfl⟩
set_option maxRecDepth 20000 in
theorem ct_X3_68 : CT RX3 68 M_J7_fill_53178 2 := ⟨(ft_in 253 (by decide +kernel) rfl), (ft_in 254 (by decide +kernel) rfl), (ft_in 73 (by decide +kernel) rfl), (ft_in 255 (by decide +kernel) rfl), ⟨by decide +kernel, by decide +kernel, by decide +kernel⟩, by decide⟩
set_option maxRecDepth 20000 in
theorem fl_X3_24_3 : FL RX3 24 3 3 := ⟨RX3, TX3, 16, tyX3, "SaltPeace$Moor", ci_3, by decide, (ft_in 261 (by decide +kernel) rfl), Or.inl rfl⟩
set_option maxRecDepth 20000 in
theorem fl_X3_27_3 : FL RX3 27 3 4 := ⟨RX3, TX3, 16, tyX3, "SaltPeace$Moor", ci_3, by decide, (ft_in 263 (by decide +kernel) rfl), Or.inl rfl⟩
set_option maxRecDepth 20000 in
theorem fl_X3_30_3 : FL RX3 30 3 5 := ⟨RX3, TX3, 16, tyX3, "SaltPeace$Moor", ci_3, by decide, (ft_in 265 (by decide +kernel) rfl), Or.inl rfl⟩
set_option maxRecDepth 20000 in
theorem fl_X3_33_3 : FL RX3 33 3 6 := ⟨RX3, TX3, 16, tyX3, "SaltPeace$Moor", ci_3, by decide, (ft_in 267 (by decide +kernel) rfl), Or.inl rfl⟩
set_option maxRecDepth 20000 in
theorem fl_X3_41_3 : FL RX3 41 3 8 := ⟨RX3, TX3, 16, tyX3, "SaltPeace$Moor", ci_3, by decide, (ft_in 270 (by decide +kernel) rfl), Or.inl rfl⟩
set_option maxRecDepth 20000 in
theorem fl_X3_45_3 : FL RX3 45 3 9 := ⟨RX3, TX3, 16, tyX3, "SaltPeace$Moor", ci_3, by decide, (ft_in 272 (by decide +kernel) rfl), Or.inl rfl⟩
set_option maxRecDepth 20000 in
theorem fl_X3_48_3 : FL RX3 48 3 10 := ⟨RX3, TX3, 16, tyX3, "SaltPeace$Moor", ci_3, by decide, (ft_in 274 (by decide +kernel) rfl), Or.inl rfl⟩
set_option maxRecDepth 20000 in
theorem fl_X3_51_3 : FL RX3 51 3 11 := ⟨RX3, TX3, 16, tyX3, "SaltPeace$Moor", ci_3, by decide, (ft_in 276 (by decide +kernel) rfl), Or.inl rfl⟩
set_option maxRecDepth 20000 in
theorem fl_X3_64_3 : FL RX3 64 3 12 := ⟨RX3, TX3, 16, tyX3, "SaltPeace$Moor", ci_3, by decide, (ft_in 278 (by decide +kernel) rfl), Or.inl rfl⟩
set_option maxRecDepth 20000 in
theorem fl_X3_55_3 : FL RX3 55 3 13 := ⟨RX3, TX3, 16, tyX3, "SaltPeace$Moor", ci_3, by decide, (ft_in 280 (by decide +kernel) rfl), Or.inl rfl⟩
set_option maxRecDepth 20000 in
theorem ct_X3_80 : CT RX3 80 M_J7_fill_fda19 4 := ⟨(ft_in 645 (by decide +kernel) rfl), (ft_in 646 (by decide +kernel) rfl), (ft_in 73 (by decide +kernel) rfl), (ft_in 647 (by decide +kernel) rfl), ⟨by decide +kernel, by decide +kernel, by decide +kernel⟩, by decide⟩
set_option maxRecDepth 20000 in
theorem cn_X3_83 : CN RX3 83 M_X11_isSide 1 := ⟨by decide +kernel, (ft_in 66 (by decide +kernel) rfl), (ft_in 570 (by decide +kernel) rfl), ⟨by decide +kernel, by decide +kernel, by decide +kernel⟩, by decide⟩
set_option maxRecDepth 20000 in
theorem st_X11_isSide : Cond.static M_X11_isSide.1 ∈ FT := (ft_in 569 (by decide +kernel) rfl)
set_option maxRecDepth 20000 in
theorem ct_X3_87 : CT RX3 87 M_J9_min_7cf53 2 := ⟨(ft_in 734 (by decide +kernel) rfl), (ft_in 382 (by decide +kernel) rfl), (ft_in 68 (by decide +kernel) rfl), (ft_in 383 (by decide +kernel) rfl), ⟨by decide +kernel, by decide +kernel, by decide +kernel⟩, by decide⟩
set_option maxRecDepth 20000 in
theorem cn_X3_93 : CN RX3 93 M_X11_isWithin 3 := ⟨by decide +kernel, (ft_in 66 (by decide +kernel) rfl), (ft_in 356 (by decide +kernel) rfl), ⟨by decide +kernel, by decide +kernel, by decide +kernel⟩, by decide⟩
set_option maxRecDepth 20000 in
theorem st_X11_isWithin : Cond.static M_X11_isWithin.1 ∈ FT := (ft_in 355 (by decide +kernel) rfl)
set_option maxRecDepth 20000 in
theorem fl_X3_15_3 : FL RX3 15 3 1 := ⟨RX3, TX3, 16, tyX3, "SaltPeace$Moor", ci_3, by decide, (ft_in 258 (by decide +kernel) rfl), Or.inl rfl⟩
set_option maxRecDepth 20000 in
theorem fl_X3_38_3 : FL RX3 38 3 7 := ⟨RX3, TX3, 16, tyX3, "SaltPeace$Moor", ci_3, by decide, (ft_in 269 (by decide +kernel) rfl), Or.inl rfl⟩
set_option maxRecDepth 20000 in
theorem fl_X3_97_0 : FL RX3 97 0 0 := ⟨RX0, TX0, 4, tyX0, "SaltPeace$Person", ci_0, by decide, (ft_in 208 (by decide +kernel) rfl), Or.inl rfl⟩
set_option maxRecDepth 20000 in
theorem fl_X3_97_1 : FL RX3 97 1 0 := ⟨RX1, TX1, 4, tyX1, "SaltPeace$Person", ci_1, by decide, (ft_in 208 (by decide +kernel) rfl), Or.inl rfl⟩
set_option maxRecDepth 20000 in
theorem fl_X3_97_2 : FL RX3 97 2 0 := ⟨RX2, TX2, 4, tyX2, "SaltPeace$Person", ci_2, by decide, (ft_in 208 (by decide +kernel) rfl), Or.inl rfl⟩
set_option maxRecDepth 20000 in
theorem fl_X3_97_4 : FL RX3 97 4 0 := ⟨RX4, TX4, 4, tyX4, "SaltPeace$Person", ci_4, by decide, (ft_in 208 (by decide +kernel) rfl), Or.inl rfl⟩
set_option maxRecDepth 20000 in
theorem fl_X3_97_5 : FL RX3 97 5 0 := ⟨RX5, TX5, 4, tyX5, "SaltPeace$Person", ci_5, by decide, (ft_in 208 (by decide +kernel) rfl), Or.inl rfl⟩
set_option maxRecDepth 20000 in
theorem fl_X3_97_8 : FL RX3 97 8 0 := ⟨RX8, TX8, 4, tyX8, "SaltPeace$Person", ci_8, by decide, (ft_in 208 (by decide +kernel) rfl), Or.inl rfl⟩
set_option maxRecDepth 20000 in
theorem fl_X3_97_9 : FL RX3 97 9 0 := ⟨RX9, TX9, 4, tyX9, "SaltPeace$Person", ci_9, by decide, (ft_in 208 (by decide +kernel) rfl), Or.inl rfl⟩
set_option maxRecDepth 20000 in
theorem fl_X3_100_0 : FL RX3 100 0 2 := ⟨RX0, TX0, 4, tyX0, "SaltPeace$Person", ci_0, by decide, (ft_in 222 (by decide +kernel) rfl), Or.inl rfl⟩
set_option maxRecDepth 20000 in
theorem fl_X3_100_1 : FL RX3 100 1 2 := ⟨RX1, TX1, 4, tyX1, "SaltPeace$Person", ci_1, by decide, (ft_in 222 (by decide +kernel) rfl), Or.inl rfl⟩
set_option maxRecDepth 20000 in
theorem fl_X3_100_2 : FL RX3 100 2 2 := ⟨RX2, TX2, 4, tyX2, "SaltPeace$Person", ci_2, by decide, (ft_in 222 (by decide +kernel) rfl), Or.inl rfl⟩
set_option maxRecDepth 20000 in
theorem fl_X3_100_4 : FL RX3 100 4 2 := ⟨RX4, TX4, 4, tyX4, "SaltPeace$Person", ci_4, by decide, (ft_in 222 (by decide +kernel) rfl), Or.inl rfl⟩
set_option maxRecDepth 20000 in
theorem fl_X3_100_5 : FL RX3 100 5 2 := ⟨RX5, TX5, 4, tyX5, "SaltPeace$Person", ci_5, by decide, (ft_in 222 (by decide +kernel) rfl), Or.inl rfl⟩
set_option maxRecDepth 20000 in
theorem fl_X3_100_8 : FL RX3 100 8 2 := ⟨RX8, TX8, 4, tyX8, "SaltPeace$Person", ci_8, by decide, (ft_in 222 (by decide +kernel) rfl), Or.inl rfl⟩
set_option maxRecDepth 20000 in
theorem fl_X3_100_9 : FL RX3 100 9 2 := ⟨RX9, TX9, 4, tyX9, "SaltPeace$Person", ci_9, by decide, (ft_in 222 (by decide +kernel) rfl), Or.inl rfl⟩
set_option maxRecDepth 20000 in
theorem cv_X3_103 : CV RX3 103 M_X10_anger 1 := ⟨(ft_in 663 (by decide +kernel) rfl), (ft_in 664 (by decide +kernel) rfl), (ft_in 665 (by decide +kernel) rfl), (ft_in 70 (by decide +kernel) rfl), (ft_in 666 (by decide +kernel) rfl), ⟨by decide +kernel, by decide +kernel, by decide +kernel⟩, by decide⟩
set_option maxRecDepth 20000 in
theorem cv_X3_107 : CV RX3 107 M_X3_saltAt 1 := ⟨(ft_in 674 (by decide +kernel) rfl), (ft_in 675 (by decide +kernel) rfl), (ft_in 676 (by decide +kernel) rfl), (ft_in 72 (by decide +kernel) rfl), (ft_in 677 (by decide +kernel) rfl), ⟨by decide +kernel, by decide +kernel, by decide +kernel⟩, by decide⟩
set_option maxRecDepth 20000 in
theorem cu_X3_111_4 : CU RX3 111 RX4 "SaltPeace$Person" ⟨"SaltPeace$Person", "rises", "(IIII)I"⟩ M_X4_rises 4 := ⟨(ft_in 678 (by decide +kernel) rfl), (ft_in 681 (by decide +kernel) rfl), (ft_in 679 (by decide +kernel) rfl), (ft_in 680 (by decide +kernel) rfl), (ft_in 679 (by decide +kernel) rfl), (ft_in 71 (by decide +kernel) rfl), (ft_in 706 (by decide +kernel) rfl), ⟨_, _, _, (ft_in 706 (by decide +kernel) rfl : Cond.code M_X4_rises.1 M_X4_rises.2.1 M_X4_rises.2.2.1 M_X4_rises.2.2.2 ∈ FT)⟩, ⟨by decide +kernel, by decide +kernel, by decide +kernel⟩, by decide⟩
set_option maxRecDepth 20000 in
theorem cu_X3_111_1 : CU RX3 111 RX1 "SaltPeace$Person" ⟨"SaltPeace$Person", "rises", "(IIII)I"⟩ M_X1_rises 4 := ⟨(ft_in 678 (by decide +kernel) rfl), (ft_in 681 (by decide +kernel) rfl), (ft_in 679 (by decide +kernel) rfl), (ft_in 686 (by decide +kernel) rfl), (ft_in 687 (by decide +kernel) rfl), (ft_in 81 (by decide +kernel) rfl), (ft_in 688 (by decide +kernel) rfl), ⟨_, _, _, (ft_in 706 (by decide +kernel) rfl : Cond.code M_X4_rises.1 M_X4_rises.2.1 M_X4_rises.2.2.1 M_X4_rises.2.2.2 ∈ FT)⟩, ⟨by decide +kernel, by decide +kernel, by decide +kernel⟩, by decide⟩
set_option maxRecDepth 20000 in
theorem cu_X3_111_0 : CU RX3 111 RX0 "SaltPeace$Person" ⟨"SaltPeace$Person", "rises", "(IIII)I"⟩ M_X0_rises 4 := ⟨(ft_in 678 (by decide +kernel) rfl), (ft_in 681 (by decide +kernel) rfl), (ft_in 679 (by decide +kernel) rfl), (ft_in 682 (by decide +kernel) rfl), (ft_in 683 (by decide +kernel) rfl), (ft_in 82 (by decide +kernel) rfl), (ft_in 684 (by decide +kernel) rfl), ⟨_, _, _, (ft_in 706 (by decide +kernel) rfl : Cond.code M_X4_rises.1 M_X4_rises.2.1 M_X4_rises.2.2.1 M_X4_rises.2.2.2 ∈ FT)⟩, ⟨by decide +kernel, by decide +kernel, by decide +kernel⟩, by decide⟩
set_option maxRecDepth 20000 in
theorem cu_X3_111_8 : CU RX3 111 RX8 "SaltPeace$Person" ⟨"SaltPeace$Person", "rises", "(IIII)I"⟩ M_X8_rises 4 := ⟨(ft_in 678 (by decide +kernel) rfl), (ft_in 681 (by decide +kernel) rfl), (ft_in 679 (by decide +kernel) rfl), (ft_in 698 (by decide +kernel) rfl), (ft_in 699 (by decide +kernel) rfl), (ft_in 83 (by decide +kernel) rfl), (ft_in 700 (by decide +kernel) rfl), ⟨_, _, _, (ft_in 706 (by decide +kernel) rfl : Cond.code M_X4_rises.1 M_X4_rises.2.1 M_X4_rises.2.2.1 M_X4_rises.2.2.2 ∈ FT)⟩, ⟨by decide +kernel, by decide +kernel, by decide +kernel⟩, by decide⟩
set_option maxRecDepth 20000 in
theorem cu_X3_111_2 : CU RX3 111 RX2 "SaltPeace$Person" ⟨"SaltPeace$Person", "rises", "(IIII)I"⟩ M_X2_rises 4 := ⟨(ft_in 678 (by decide +kernel) rfl), (ft_in 681 (by decide +kernel) rfl), (ft_in 679 (by decide +kernel) rfl), (ft_in 689 (by decide +kernel) rfl), (ft_in 690 (by decide +kernel) rfl), (ft_in 84 (by decide +kernel) rfl), (ft_in 691 (by decide +kernel) rfl), ⟨_, _, _, (ft_in 706 (by decide +kernel) rfl : Cond.code M_X4_rises.1 M_X4_rises.2.1 M_X4_rises.2.2.1 M_X4_rises.2.2.2 ∈ FT)⟩, ⟨by decide +kernel, by decide +kernel, by decide +kernel⟩, by decide⟩
set_option maxRecDepth 20000 in
theorem cu_X3_111_5 : CU RX3 111 RX5 "SaltPeace$Person" ⟨"SaltPeace$Person", "rises", "(IIII)I"⟩ M_X5_rises 4 := ⟨(ft_in 678 (by decide +kernel) rfl), (ft_in 681 (by decide +kernel) rfl), (ft_in 679 (by decide +kernel) rfl), (ft_in 693 (by decide +kernel) rfl), (ft_in 694 (by decide +kernel) rfl), (ft_in 85 (by decide +kernel) rfl), (ft_in 695 (by decide +kernel) rfl), ⟨_, _, _, (ft_in 706 (by decide +kernel) rfl : Cond.code M_X4_rises.1 M_X4_rises.2.1 M_X4_rises.2.2.1 M_X4_rises.2.2.2 ∈ FT)⟩, ⟨by decide +kernel, by decide +kernel, by decide +kernel⟩, by decide⟩
set_option maxRecDepth 20000 in
theorem cu_X3_111_9 : CU RX3 111 RX9 "SaltPeace$Person" ⟨"SaltPeace$Person", "rises", "(IIII)I"⟩ M_X9_rises 4 := ⟨(ft_in 678 (by decide +kernel) rfl), (ft_in 681 (by decide +kernel) rfl), (ft_in 679 (by decide +kernel) rfl), (ft_in 702 (by decide +kernel) rfl), (ft_in 703 (by decide +kernel) rfl), (ft_in 86 (by decide +kernel) rfl), (ft_in 704 (by decide +kernel) rfl), ⟨_, _, _, (ft_in 706 (by decide +kernel) rfl : Cond.code M_X4_rises.1 M_X4_rises.2.1 M_X4_rises.2.2.1 M_X4_rises.2.2.2 ∈ FT)⟩, ⟨by decide +kernel, by decide +kernel, by decide +kernel⟩, by decide⟩
set_option maxRecDepth 20000 in
theorem fl_X3_58_3 : FL RX3 58 3 14 := ⟨RX3, TX3, 16, tyX3, "SaltPeace$Moor", ci_3, by decide, (ft_in 282 (by decide +kernel) rfl), Or.inl rfl⟩
set_option maxRecDepth 20000 in
theorem cu_X3_115_4 : CU RX3 115 RX4 "SaltPeace$Person" ⟨"SaltPeace$Person", "mostLicked", "(II)I"⟩ M_X4_mostLicked 2 := ⟨(ft_in 733 (by decide +kernel) rfl), (ft_in 710 (by decide +kernel) rfl), (ft_in 708 (by decide +kernel) rfl), (ft_in 709 (by decide +kernel) rfl), (ft_in 708 (by decide +kernel) rfl), (ft_in 71 (by decide +kernel) rfl), (ft_in 728 (by decide +kernel) rfl), ⟨_, _, _, (ft_in 728 (by decide +kernel) rfl : Cond.code M_X4_mostLicked.1 M_X4_mostLicked.2.1 M_X4_mostLicked.2.2.1 M_X4_mostLicked.2.2.2 ∈ FT)⟩, ⟨by decide +kernel, by decide +kernel, by decide +kernel⟩, by decide⟩
set_option maxRecDepth 20000 in
theorem cu_X3_115_1 : CU RX3 115 RX1 "SaltPeace$Person" ⟨"SaltPeace$Person", "mostLicked", "(II)I"⟩ M_X1_mostLicked 2 := ⟨(ft_in 733 (by decide +kernel) rfl), (ft_in 710 (by decide +kernel) rfl), (ft_in 708 (by decide +kernel) rfl), (ft_in 714 (by decide +kernel) rfl), (ft_in 715 (by decide +kernel) rfl), (ft_in 81 (by decide +kernel) rfl), (ft_in 716 (by decide +kernel) rfl), ⟨_, _, _, (ft_in 728 (by decide +kernel) rfl : Cond.code M_X4_mostLicked.1 M_X4_mostLicked.2.1 M_X4_mostLicked.2.2.1 M_X4_mostLicked.2.2.2 ∈ FT)⟩, ⟨by decide +kernel, by decide +kernel, by decide +kernel⟩, by decide⟩
set_option maxRecDepth 20000 in
theorem cu_X3_115_0 : CU RX3 115 RX0 "SaltPeace$Person" ⟨"SaltPeace$Person", "mostLicked", "(II)I"⟩ M_X0_mostLicked 2 := ⟨(ft_in 733 (by decide +kernel) rfl), (ft_in 710 (by decide +kernel) rfl), (ft_in 708 (by decide +kernel) rfl), (ft_in 711 (by decide +kernel) rfl), (ft_in 712 (by decide +kernel) rfl), (ft_in 82 (by decide +kernel) rfl), (ft_in 713 (by decide +kernel) rfl), ⟨_, _, _, (ft_in 728 (by decide +kernel) rfl : Cond.code M_X4_mostLicked.1 M_X4_mostLicked.2.1 M_X4_mostLicked.2.2.1 M_X4_mostLicked.2.2.2 ∈ FT)⟩, ⟨by decide +kernel, by decide +kernel, by decide +kernel⟩, by decide⟩
set_option maxRecDepth 20000 in
theorem cu_X3_115_8 : CU RX3 115 RX8 "SaltPeace$Person" ⟨"SaltPeace$Person", "mostLicked", "(II)I"⟩ M_X8_mostLicked 2 := ⟨(ft_in 733 (by decide +kernel) rfl), (ft_in 710 (by decide +kernel) rfl), (ft_in 708 (by decide +kernel) rfl), (ft_in 724 (by decide +kernel) rfl), (ft_in 725 (by decide +kernel) rfl), (ft_in 83 (by decide +kernel) rfl), (ft_in 726 (by decide +kernel) rfl), ⟨_, _, _, (ft_in 728 (by decide +kernel) rfl : Cond.code M_X4_mostLicked.1 M_X4_mostLicked.2.1 M_X4_mostLicked.2.2.1 M_X4_mostLicked.2.2.2 ∈ FT)⟩, ⟨by decide +kernel, by decide +kernel, by decide +kernel⟩, by decide⟩
set_option maxRecDepth 20000 in
theorem cu_X3_115_2 : CU RX3 115 RX2 "SaltPeace$Person" ⟨"SaltPeace$Person", "mostLicked", "(II)I"⟩ M_X2_mostLicked 2 := ⟨(ft_in 733 (by decide +kernel) rfl), (ft_in 710 (by decide +kernel) rfl), (ft_in 708 (by decide +kernel) rfl), (ft_in 717 (by decide +kernel) rfl), (ft_in 718 (by decide +kernel) rfl), (ft_in 84 (by decide +kernel) rfl), (ft_in 719 (by decide +kernel) rfl), ⟨_, _, _, (ft_in 728 (by decide +kernel) rfl : Cond.code M_X4_mostLicked.1 M_X4_mostLicked.2.1 M_X4_mostLicked.2.2.1 M_X4_mostLicked.2.2.2 ∈ FT)⟩, ⟨by decide +kernel, by decide +kernel, by decide +kernel⟩, by decide⟩
set_option maxRecDepth 20000 in
theorem cu_X3_115_5 : CU RX3 115 RX5 "SaltPeace$Person" ⟨"SaltPeace$Person", "mostLicked", "(II)I"⟩ M_X5_mostLicked 2 := ⟨(ft_in 733 (by decide +kernel) rfl), (ft_in 710 (by decide +kernel) rfl), (ft_in 708 (by decide +kernel) rfl), (ft_in 720 (by decide +kernel) rfl), (ft_in 721 (by decide +kernel) rfl), (ft_in 85 (by decide +kernel) rfl), (ft_in 722 (by decide +kernel) rfl), ⟨_, _, _, (ft_in 728 (by decide +kernel) rfl : Cond.code M_X4_mostLicked.1 M_X4_mostLicked.2.1 M_X4_mostLicked.2.2.1 M_X4_mostLicked.2.2.2 ∈ FT)⟩, ⟨by decide +kernel, by decide +kernel, by decide +kernel⟩, by decide⟩
set_option maxRecDepth 20000 in
theorem cu_X3_115_9 : CU RX3 115 RX9 "SaltPeace$Person" ⟨"SaltPeace$Person", "mostLicked", "(II)I"⟩ M_X8_mostLicked 2 := ⟨(ft_in 733 (by decide +kernel) rfl), (ft_in 710 (by decide +kernel) rfl), (ft_in 708 (by decide +kernel) rfl), (ft_in 727 (by decide +kernel) rfl), (ft_in 725 (by decide +kernel) rfl), (ft_in 83 (by decide +kernel) rfl), (ft_in 726 (by decide +kernel) rfl), ⟨_, _, _, (ft_in 728 (by decide +kernel) rfl : Cond.code M_X4_mostLicked.1 M_X4_mostLicked.2.1 M_X4_mostLicked.2.2.1 M_X4_mostLicked.2.2.2 ∈ FT)⟩, ⟨by decide +kernel, by decide +kernel, by decide +kernel⟩, by decide⟩
set_option maxRecDepth 20000 in
theorem fl_X3_118_10 : FL RX3 118 10 1 := ⟨RX10, TX10, 5, tyX10, "SaltPeace$Treaty", ci_10, by decide, (ft_in 185 (by decide +kernel) rfl), Or.inl rfl⟩
set_option maxRecDepth 20000 in
theorem cv_X3_121 : CV RX3 121 M_X3_goDay 0 := ⟨(ft_in 775 (by decide +kernel) rfl), (ft_in 776 (by decide +kernel) rfl), (ft_in 777 (by decide +kernel) rfl), (ft_in 72 (by decide +kernel) rfl), (ft_in 778 (by decide +kernel) rfl), ⟨by decide +kernel, by decide +kernel, by decide +kernel⟩, by decide⟩
set_option maxRecDepth 20000 in
theorem cv_X3_124 : CV RX3 124 M_X3_risesOf 1 := ⟨(ft_in 779 (by decide +kernel) rfl), (ft_in 660 (by decide +kernel) rfl), (ft_in 661 (by decide +kernel) rfl), (ft_in 72 (by decide +kernel) rfl), (ft_in 662 (by decide +kernel) rfl), ⟨by decide +kernel, by decide +kernel, by decide +kernel⟩, by decide⟩
set_option maxRecDepth 20000 in
theorem ct_X3_127 : CT RX3 127 M_J9_max_7cf53 2 := ⟨(ft_in 780 (by decide +kernel) rfl), (ft_in 103 (by decide +kernel) rfl), (ft_in 68 (by decide +kernel) rfl), (ft_in 104 (by decide +kernel) rfl), ⟨by decide +kernel, by decide +kernel, by decide +kernel⟩, by decide⟩
set_option maxRecDepth 20000 in
theorem cv_X3_130 : CV RX3 130 M_X3_lick 1 := ⟨(ft_in 781 (by decide +kernel) rfl), (ft_in 783 (by decide +kernel) rfl), (ft_in 13 (by decide +kernel) rfl), (ft_in 72 (by decide +kernel) rfl), (ft_in 784 (by decide +kernel) rfl), ⟨by decide +kernel, by decide +kernel, by decide +kernel⟩, by decide⟩
set_option maxRecDepth 20000 in
theorem cv_X3_134 : CV RX3 134 M_X3_rainFalls 0 := ⟨(ft_in 786 (by decide +kernel) rfl), (ft_in 788 (by decide +kernel) rfl), (ft_in 14 (by decide +kernel) rfl), (ft_in 72 (by decide +kernel) rfl), (ft_in 789 (by decide +kernel) rfl), ⟨by decide +kernel, by decide +kernel, by decide +kernel⟩, by decide⟩
set_option maxRecDepth 20000 in
theorem cv_X3_137 : CV RX3 137 M_X3_allSalt 0 := ⟨(ft_in 791 (by decide +kernel) rfl), (ft_in 760 (by decide +kernel) rfl), (ft_in 761 (by decide +kernel) rfl), (ft_in 72 (by decide +kernel) rfl), (ft_in 762 (by decide +kernel) rfl), ⟨by decide +kernel, by decide +kernel, by decide +kernel⟩, by decide⟩
set_option maxRecDepth 20000 in
theorem cv_X3_141 : CV RX3 141 M_X3_takesNow 1 := ⟨(ft_in 785 (by decide +kernel) rfl), (ft_in 730 (by decide +kernel) rfl), (ft_in 731 (by decide +kernel) rfl), (ft_in 72 (by decide +kernel) rfl), (ft_in 732 (by decide +kernel) rfl), ⟨by decide +kernel, by decide +kernel, by decide +kernel⟩, by decide⟩
set_option maxRecDepth 20000 in
theorem cv_X3_144 : CV RX3 144 M_X3_hasRoof 1 := ⟨(ft_in 790 (by decide +kernel) rfl), (ft_in 752 (by decide +kernel) rfl), (ft_in 753 (by decide +kernel) rfl), (ft_in 72 (by decide +kernel) rfl), (ft_in 754 (by decide +kernel) rfl), ⟨by decide +kernel, by decide +kernel, by decide +kernel⟩, by decide⟩
set_option maxRecDepth 20000 in
theorem fl_X3_147_10 : FL RX3 147 10 0 := ⟨RX10, TX10, 5, tyX10, "SaltPeace$Treaty", ci_10, by decide, (ft_in 182 (by decide +kernel) rfl), Or.inl rfl⟩
set_option maxRecDepth 20000 in
theorem fl_X3_61_3 : FL RX3 61 3 15 := ⟨RX3, TX3, 16, tyX3, "SaltPeace$Moor", ci_3, by decide, (ft_in 284 (by decide +kernel) rfl), Or.inl rfl⟩
set_option maxRecDepth 20000 in
theorem oi_X4_1 : Cond.methodLink RX4 1 objectInit ∈ FT ∧ Cond.instanceMethod objectInit ∈ FT ∧ Cond.code objectInit ⟨#[0xb1]⟩ 1 none ∈ FT := ⟨(ft_in 205 (by decide +kernel) rfl), (ft_in 94 (by decide +kernel) rfl), (ft_in 95 (by decide +kernel) rfl)⟩
set_option maxRecDepth 20000 in
theorem fp_X4_7_0 : FP RX4 7 0 0 true .int := ⟨RX0, TX0, 4, tyX0, "SaltPeace$Person", ci_0, by decide, (ft_in 206 (by decide +kernel) rfl), Or.inl rfl, rfl, by decide +kernel, fun _ => rfl⟩
set_option maxRecDepth 20000 in
theorem fp_X4_7_1 : FP RX4 7 1 0 true .int := ⟨RX1, TX1, 4, tyX1, "SaltPeace$Person", ci_1, by decide, (ft_in 206 (by decide +kernel) rfl), Or.inl rfl, rfl, by decide +kernel, fun _ => rfl⟩
set_option maxRecDepth 20000 in
theorem fp_X4_7_2 : FP RX4 7 2 0 true .int := ⟨RX2, TX2, 4, tyX2, "SaltPeace$Person", ci_2, by decide, (ft_in 206 (by decide +kernel) rfl), Or.inl rfl, rfl, by decide +kernel, fun _ => rfl⟩
set_option maxRecDepth 20000 in
theorem fp_X4_7_4 : FP RX4 7 4 0 true .int := ⟨RX4, TX4, 4, tyX4, "SaltPeace$Person", ci_4, by decide, (ft_in 206 (by decide +kernel) rfl), Or.inl rfl, rfl, by decide +kernel, fun _ => rfl⟩
set_option maxRecDepth 20000 in
theorem fp_X4_7_5 : FP RX4 7 5 0 true .int := ⟨RX5, TX5, 4, tyX5, "SaltPeace$Person", ci_5, by decide, (ft_in 206 (by decide +kernel) rfl), Or.inl rfl, rfl, by decide +kernel, fun _ => rfl⟩
set_option maxRecDepth 20000 in
theorem fp_X4_7_8 : FP RX4 7 8 0 true .int := ⟨RX8, TX8, 4, tyX8, "SaltPeace$Person", ci_8, by decide, (ft_in 206 (by decide +kernel) rfl), Or.inl rfl, rfl, by decide +kernel, fun _ => rfl⟩
set_option maxRecDepth 20000 in
theorem fp_X4_7_9 : FP RX4 7 9 0 true .int := ⟨RX9, TX9, 4, tyX9, "SaltPeace$Person", ci_9, by decide, (ft_in 206 (by decide +kernel) rfl), Or.inl rfl, rfl, by decide +kernel, fun _ => rfl⟩
set_option maxRecDepth 20000 in
theorem fp_X4_13_0 : FP RX4 13 0 1 true .int := ⟨RX0, TX0, 4, tyX0, "SaltPeace$Person", ci_0, by decide, (ft_in 209 (by decide +kernel) rfl), Or.inl rfl, rfl, by decide +kernel, fun _ => rfl⟩
set_option maxRecDepth 20000 in
theorem fp_X4_13_1 : FP RX4 13 1 1 true .int := ⟨RX1, TX1, 4, tyX1, "SaltPeace$Person", ci_1, by decide, (ft_in 209 (by decide +kernel) rfl), Or.inl rfl, rfl, by decide +kernel, fun _ => rfl⟩
set_option maxRecDepth 20000 in
theorem fp_X4_13_2 : FP RX4 13 2 1 true .int := ⟨RX2, TX2, 4, tyX2, "SaltPeace$Person", ci_2, by decide, (ft_in 209 (by decide +kernel) rfl), Or.inl rfl, rfl, by decide +kernel, fun _ => rfl⟩
set_option maxRecDepth 20000 in
theorem fp_X4_13_4 : FP RX4 13 4 1 true .int := ⟨RX4, TX4, 4, tyX4, "SaltPeace$Person", ci_4, by decide, (ft_in 209 (by decide +kernel) rfl), Or.inl rfl, rfl, by decide +kernel, fun _ => rfl⟩
set_option maxRecDepth 20000 in
theorem fp_X4_13_5 : FP RX4 13 5 1 true .int := ⟨RX5, TX5, 4, tyX5, "SaltPeace$Person", ci_5, by decide, (ft_in 209 (by decide +kernel) rfl), Or.inl rfl, rfl, by decide +kernel, fun _ => rfl⟩
set_option maxRecDepth 20000 in
theorem fp_X4_13_8 : FP RX4 13 8 1 true .int := ⟨RX8, TX8, 4, tyX8, "SaltPeace$Person", ci_8, by decide, (ft_in 209 (by decide +kernel) rfl), Or.inl rfl, rfl, by decide +kernel, fun _ => rfl⟩
set_option maxRecDepth 20000 in
theorem fp_X4_13_9 : FP RX4 13 9 1 true .int := ⟨RX9, TX9, 4, tyX9, "SaltPeace$Person", ci_9, by decide, (ft_in 209 (by decide +kernel) rfl), Or.inl rfl, rfl, by decide +kernel, fun _ => rfl⟩
set_option maxRecDepth 20000 in
theorem fp_X4_16_0 : FP RX4 16 0 2 true .int := ⟨RX0, TX0, 4, tyX0, "SaltPeace$Person", ci_0, by decide, (ft_in 212 (by decide +kernel) rfl), Or.inl rfl, rfl, by decide +kernel, fun _ => rfl⟩
set_option maxRecDepth 20000 in
theorem fp_X4_16_1 : FP RX4 16 1 2 true .int := ⟨RX1, TX1, 4, tyX1, "SaltPeace$Person", ci_1, by decide, (ft_in 212 (by decide +kernel) rfl), Or.inl rfl, rfl, by decide +kernel, fun _ => rfl⟩
set_option maxRecDepth 20000 in
theorem fp_X4_16_2 : FP RX4 16 2 2 true .int := ⟨RX2, TX2, 4, tyX2, "SaltPeace$Person", ci_2, by decide, (ft_in 212 (by decide +kernel) rfl), Or.inl rfl, rfl, by decide +kernel, fun _ => rfl⟩
set_option maxRecDepth 20000 in
theorem fp_X4_16_4 : FP RX4 16 4 2 true .int := ⟨RX4, TX4, 4, tyX4, "SaltPeace$Person", ci_4, by decide, (ft_in 212 (by decide +kernel) rfl), Or.inl rfl, rfl, by decide +kernel, fun _ => rfl⟩
set_option maxRecDepth 20000 in
theorem fp_X4_16_5 : FP RX4 16 5 2 true .int := ⟨RX5, TX5, 4, tyX5, "SaltPeace$Person", ci_5, by decide, (ft_in 212 (by decide +kernel) rfl), Or.inl rfl, rfl, by decide +kernel, fun _ => rfl⟩
set_option maxRecDepth 20000 in
theorem fp_X4_16_8 : FP RX4 16 8 2 true .int := ⟨RX8, TX8, 4, tyX8, "SaltPeace$Person", ci_8, by decide, (ft_in 212 (by decide +kernel) rfl), Or.inl rfl, rfl, by decide +kernel, fun _ => rfl⟩
set_option maxRecDepth 20000 in
theorem fp_X4_16_9 : FP RX4 16 9 2 true .int := ⟨RX9, TX9, 4, tyX9, "SaltPeace$Person", ci_9, by decide, (ft_in 212 (by decide +kernel) rfl), Or.inl rfl, rfl, by decide +kernel, fun _ => rfl⟩
set_option maxRecDepth 20000 in
theorem fp_X4_19_0 : FP RX4 19 0 3 true (.object "SaltPeace$Rows") := ⟨RX0, TX0, 4, tyX0, "SaltPeace$Person", ci_0, by decide, (ft_in 223 (by decide +kernel) rfl), Or.inl rfl, rfl, by decide +kernel, fun _ => rfl⟩
set_option maxRecDepth 20000 in
theorem fp_X4_19_1 : FP RX4 19 1 3 true (.object "SaltPeace$Rows") := ⟨RX1, TX1, 4, tyX1, "SaltPeace$Person", ci_1, by decide, (ft_in 223 (by decide +kernel) rfl), Or.inl rfl, rfl, by decide +kernel, fun _ => rfl⟩
set_option maxRecDepth 20000 in
theorem fp_X4_19_2 : FP RX4 19 2 3 true (.object "SaltPeace$Rows") := ⟨RX2, TX2, 4, tyX2, "SaltPeace$Person", ci_2, by decide, (ft_in 223 (by decide +kernel) rfl), Or.inl rfl, rfl, by decide +kernel, fun _ => rfl⟩
set_option maxRecDepth 20000 in
theorem fp_X4_19_4 : FP RX4 19 4 3 true (.object "SaltPeace$Rows") := ⟨RX4, TX4, 4, tyX4, "SaltPeace$Person", ci_4, by decide, (ft_in 223 (by decide +kernel) rfl), Or.inl rfl, rfl, by decide +kernel, fun _ => rfl⟩
set_option maxRecDepth 20000 in
theorem fp_X4_19_5 : FP RX4 19 5 3 true (.object "SaltPeace$Rows") := ⟨RX5, TX5, 4, tyX5, "SaltPeace$Person", ci_5, by decide, (ft_in 223 (by decide +kernel) rfl), Or.inl rfl, rfl, by decide +kernel, fun _ => rfl⟩
set_option maxRecDepth 20000 in
theorem fp_X4_19_8 : FP RX4 19 8 3 true (.object "SaltPeace$Rows") := ⟨RX8, TX8, 4, tyX8, "SaltPeace$Person", ci_8, by decide, (ft_in 223 (by decide +kernel) rfl), Or.inl rfl, rfl, by decide +kernel, fun _ => rfl⟩
set_option maxRecDepth 20000 in
theorem fp_X4_19_9 : FP RX4 19 9 3 true (.object "SaltPeace$Rows") := ⟨RX9, TX9, 4, tyX9, "SaltPeace$Person", ci_9, by decide, (ft_in 223 (by decide +kernel) rfl), Or.inl rfl, rfl, by decide +kernel, fun _ => rfl⟩
set_option maxRecDepth 20000 in
theorem fl_X4_19_0 : FL RX4 19 0 3 := ⟨RX0, TX0, 4, tyX0, "SaltPeace$Person", ci_0, by decide, (ft_in 223 (by decide +kernel) rfl), Or.inl rfl⟩
set_option maxRecDepth 20000 in
theorem fl_X4_19_1 : FL RX4 19 1 3 := ⟨RX1, TX1, 4, tyX1, "SaltPeace$Person", ci_1, by decide, (ft_in 223 (by decide +kernel) rfl), Or.inl rfl⟩
set_option maxRecDepth 20000 in
theorem fl_X4_19_2 : FL RX4 19 2 3 := ⟨RX2, TX2, 4, tyX2, "SaltPeace$Person", ci_2, by decide, (ft_in 223 (by decide +kernel) rfl), Or.inl rfl⟩
set_option maxRecDepth 20000 in
theorem fl_X4_19_4 : FL RX4 19 4 3 := ⟨RX4, TX4, 4, tyX4, "SaltPeace$Person", ci_4, by decide, (ft_in 223 (by decide +kernel) rfl), Or.inl rfl⟩
set_option maxRecDepth 20000 in
theorem fl_X4_19_5 : FL RX4 19 5 3 := ⟨RX5, TX5, 4, tyX5, "SaltPeace$Person", ci_5, by decide, (ft_in 223 (by decide +kernel) rfl), Or.inl rfl⟩
set_option maxRecDepth 20000 in
theorem fl_X4_19_8 : FL RX4 19 8 3 := ⟨RX8, TX8, 4, tyX8, "SaltPeace$Person", ci_8, by decide, (ft_in 223 (by decide +kernel) rfl), Or.inl rfl⟩
set_option maxRecDepth 20000 in
theorem fl_X4_19_9 : FL RX4 19 9 3 := ⟨RX9, TX9, 4, tyX9, "SaltPeace$Person", ci_9, by decide, (ft_in 223 (by decide +kernel) rfl), Or.inl rfl⟩
set_option maxRecDepth 20000 in
theorem cv_X4_23 : CV RX4 23 M_X7_add 3 := ⟨(ft_in 992 (by decide +kernel) rfl), (ft_in 362 (by decide +kernel) rfl), (ft_in 363 (by decide +kernel) rfl), (ft_in 67 (by decide +kernel) rfl), (ft_in 364 (by decide +kernel) rfl), ⟨by decide +kernel, by decide +kernel, by decide +kernel⟩, by decide⟩
set_option maxRecDepth 20000 in
theorem fl_X4_13_0 : FL RX4 13 0 1 := ⟨RX0, TX0, 4, tyX0, "SaltPeace$Person", ci_0, by decide, (ft_in 209 (by decide +kernel) rfl), Or.inl rfl⟩
set_option maxRecDepth 20000 in
theorem fl_X4_13_1 : FL RX4 13 1 1 := ⟨RX1, TX1, 4, tyX1, "SaltPeace$Person", ci_1, by decide, (ft_in 209 (by decide +kernel) rfl), Or.inl rfl⟩
set_option maxRecDepth 20000 in
theorem fl_X4_13_2 : FL RX4 13 2 1 := ⟨RX2, TX2, 4, tyX2, "SaltPeace$Person", ci_2, by decide, (ft_in 209 (by decide +kernel) rfl), Or.inl rfl⟩
set_option maxRecDepth 20000 in
theorem fl_X4_13_4 : FL RX4 13 4 1 := ⟨RX4, TX4, 4, tyX4, "SaltPeace$Person", ci_4, by decide, (ft_in 209 (by decide +kernel) rfl), Or.inl rfl⟩
set_option maxRecDepth 20000 in
theorem fl_X4_13_5 : FL RX4 13 5 1 := ⟨RX5, TX5, 4, tyX5, "SaltPeace$Person", ci_5, by decide, (ft_in 209 (by decide +kernel) rfl), Or.inl rfl⟩
set_option maxRecDepth 20000 in
theorem fl_X4_13_8 : FL RX4 13 8 1 := ⟨RX8, TX8, 4, tyX8, "SaltPeace$Person", ci_8, by decide, (ft_in 209 (by decide +kernel) rfl), Or.inl rfl⟩
set_option maxRecDepth 20000 in
theorem fl_X4_13_9 : FL RX4 13 9 1 := ⟨RX9, TX9, 4, tyX9, "SaltPeace$Person", ci_9, by decide, (ft_in 209 (by decide +kernel) rfl), Or.inl rfl⟩
set_option maxRecDepth 20000 in
theorem cu_X4_29_4 : CU RX4 29 RX4 "SaltPeace$Person" ⟨"SaltPeace$Person", "wrongs", "(I)I"⟩ M_X4_wrongs 1 := ⟨(ft_in 1014 (by decide +kernel) rfl), (ft_in 974 (by decide +kernel) rfl), (ft_in 972 (by decide +kernel) rfl), (ft_in 973 (by decide +kernel) rfl), (ft_in 972 (by decide +kernel) rfl), (ft_in 71 (by decide +kernel) rfl), (ft_in 991 (by decide +kernel) rfl), ⟨_, _, _, (ft_in 991 (by decide +kernel) rfl : Cond.code M_X4_wrongs.1 M_X4_wrongs.2.1 M_X4_wrongs.2.2.1 M_X4_wrongs.2.2.2 ∈ FT)⟩, ⟨by decide +kernel, by decide +kernel, by decide +kernel⟩, by decide⟩
set_option maxRecDepth 20000 in
theorem cu_X4_29_1 : CU RX4 29 RX1 "SaltPeace$Person" ⟨"SaltPeace$Person", "wrongs", "(I)I"⟩ M_X1_wrongs 1 := ⟨(ft_in 1014 (by decide +kernel) rfl), (ft_in 974 (by decide +kernel) rfl), (ft_in 972 (by decide +kernel) rfl), (ft_in 976 (by decide +kernel) rfl), (ft_in 977 (by decide +kernel) rfl), (ft_in 81 (by decide +kernel) rfl), (ft_in 978 (by decide +kernel) rfl), ⟨_, _, _, (ft_in 991 (by decide +kernel) rfl : Cond.code M_X4_wrongs.1 M_X4_wrongs.2.1 M_X4_wrongs.2.2.1 M_X4_wrongs.2.2.2 ∈ FT)⟩, ⟨by decide +kernel, by decide +kernel, by decide +kernel⟩, by decide⟩
set_option maxRecDepth 20000 in
theorem cu_X4_29_0 : CU RX4 29 RX0 "SaltPeace$Person" ⟨"SaltPeace$Person", "wrongs", "(I)I"⟩ M_X4_wrongs 1 := ⟨(ft_in 1014 (by decide +kernel) rfl), (ft_in 974 (by decide +kernel) rfl), (ft_in 972 (by decide +kernel) rfl), (ft_in 975 (by decide +kernel) rfl), (ft_in 972 (by decide +kernel) rfl), (ft_in 71 (by decide +kernel) rfl), (ft_in 991 (by decide +kernel) rfl), ⟨_, _, _, (ft_in 991 (by decide +kernel) rfl : Cond.code M_X4_wrongs.1 M_X4_wrongs.2.1 M_X4_wrongs.2.2.1 M_X4_wrongs.2.2.2 ∈ FT)⟩, ⟨by decide +kernel, by decide +kernel, by decide +kernel⟩, by decide⟩
set_option maxRecDepth 20000 in
theorem cu_X4_29_8 : CU RX4 29 RX8 "SaltPeace$Person" ⟨"SaltPeace$Person", "wrongs", "(I)I"⟩ M_X4_wrongs 1 := ⟨(ft_in 1014 (by decide +kernel) rfl), (ft_in 974 (by decide +kernel) rfl), (ft_in 972 (by decide +kernel) rfl), (ft_in 989 (by decide +kernel) rfl), (ft_in 972 (by decide +kernel) rfl), (ft_in 71 (by decide +kernel) rfl), (ft_in 991 (by decide +kernel) rfl), ⟨_, _, _, (ft_in 991 (by decide +kernel) rfl : Cond.code M_X4_wrongs.1 M_X4_wrongs.2.1 M_X4_wrongs.2.2.1 M_X4_wrongs.2.2.2 ∈ FT)⟩, ⟨by decide +kernel, by decide +kernel, by decide +kernel⟩, by decide⟩
set_option maxRecDepth 20000 in
theorem cu_X4_29_2 : CU RX4 29 RX2 "SaltPeace$Person" ⟨"SaltPeace$Person", "wrongs", "(I)I"⟩ M_X1_wrongs 1 := ⟨(ft_in 1014 (by decide +kernel) rfl), (ft_in 974 (by decide +kernel) rfl), (ft_in 972 (by decide +kernel) rfl), (ft_in 981 (by decide +kernel) rfl), (ft_in 977 (by decide +kernel) rfl), (ft_in 81 (by decide +kernel) rfl), (ft_in 978 (by decide +kernel) rfl), ⟨_, _, _, (ft_in 991 (by decide +kernel) rfl : Cond.code M_X4_wrongs.1 M_X4_wrongs.2.1 M_X4_wrongs.2.2.1 M_X4_wrongs.2.2.2 ∈ FT)⟩, ⟨by decide +kernel, by decide +kernel, by decide +kernel⟩, by decide⟩
set_option maxRecDepth 20000 in
theorem cu_X4_29_5 : CU RX4 29 RX5 "SaltPeace$Person" ⟨"SaltPeace$Person", "wrongs", "(I)I"⟩ M_X5_wrongs 1 := ⟨(ft_in 1014 (by decide +kernel) rfl), (ft_in 974 (by decide +kernel) rfl), (ft_in 972 (by decide +kernel) rfl), (ft_in 982 (by decide +kernel) rfl), (ft_in 983 (by decide +kernel) rfl), (ft_in 85 (by decide +kernel) rfl), (ft_in 984 (by decide +kernel) rfl), ⟨_, _, _, (ft_in 991 (by decide +kernel) rfl : Cond.code M_X4_wrongs.1 M_X4_wrongs.2.1 M_X4_wrongs.2.2.1 M_X4_wrongs.2.2.2 ∈ FT)⟩, ⟨by decide +kernel, by decide +kernel, by decide +kernel⟩, by decide⟩
set_option maxRecDepth 20000 in
theorem cu_X4_29_9 : CU RX4 29 RX9 "SaltPeace$Person" ⟨"SaltPeace$Person", "wrongs", "(I)I"⟩ M_X4_wrongs 1 := ⟨(ft_in 1014 (by decide +kernel) rfl), (ft_in 974 (by decide +kernel) rfl), (ft_in 972 (by decide +kernel) rfl), (ft_in 990 (by decide +kernel) rfl), (ft_in 972 (by decide +kernel) rfl), (ft_in 71 (by decide +kernel) rfl), (ft_in 991 (by decide +kernel) rfl), ⟨_, _, _, (ft_in 991 (by decide +kernel) rfl : Cond.code M_X4_wrongs.1 M_X4_wrongs.2.1 M_X4_wrongs.2.2.1 M_X4_wrongs.2.2.2 ∈ FT)⟩, ⟨by decide +kernel, by decide +kernel, by decide +kernel⟩, by decide⟩
set_option maxRecDepth 20000 in
theorem fl_X4_16_0 : FL RX4 16 0 2 := ⟨RX0, TX0, 4, tyX0, "SaltPeace$Person", ci_0, by decide, (ft_in 212 (by decide +kernel) rfl), Or.inl rfl⟩
set_option maxRecDepth 20000 in
theorem fl_X4_16_1 : FL RX4 16 1 2 := ⟨RX1, TX1, 4, tyX1, "SaltPeace$Person", ci_1, by decide, (ft_in 212 (by decide +kernel) rfl), Or.inl rfl⟩
set_option maxRecDepth 20000 in
theorem fl_X4_16_2 : FL RX4 16 2 2 := ⟨RX2, TX2, 4, tyX2, "SaltPeace$Person", ci_2, by decide, (ft_in 212 (by decide +kernel) rfl), Or.inl rfl⟩
set_option maxRecDepth 20000 in
theorem fl_X4_16_4 : FL RX4 16 4 2 := ⟨RX4, TX4, 4, tyX4, "SaltPeace$Person", ci_4, by decide, (ft_in 212 (by decide +kernel) rfl), Or.inl rfl⟩
set_option maxRecDepth 20000 in
theorem fl_X4_16_5 : FL RX4 16 5 2 := ⟨RX5, TX5, 4, tyX5, "SaltPeace$Person", ci_5, by decide, (ft_in 212 (by decide +kernel) rfl), Or.inl rfl⟩
set_option maxRecDepth 20000 in
theorem fl_X4_16_8 : FL RX4 16 8 2 := ⟨RX8, TX8, 4, tyX8, "SaltPeace$Person", ci_8, by decide, (ft_in 212 (by decide +kernel) rfl), Or.inl rfl⟩
set_option maxRecDepth 20000 in
theorem fl_X4_16_9 : FL RX4 16 9 2 := ⟨RX9, TX9, 4, tyX9, "SaltPeace$Person", ci_9, by decide, (ft_in 212 (by decide +kernel) rfl), Or.inl rfl⟩
set_option maxRecDepth 20000 in
theorem cu_X4_33_4 : CU RX4 33 RX4 "SaltPeace$Person" ⟨"SaltPeace$Person", "licks", "(I)I"⟩ M_X4_licks 1 := ⟨(ft_in 1040 (by decide +kernel) rfl), (ft_in 996 (by decide +kernel) rfl), (ft_in 994 (by decide +kernel) rfl), (ft_in 995 (by decide +kernel) rfl), (ft_in 994 (by decide +kernel) rfl), (ft_in 71 (by decide +kernel) rfl), (ft_in 1013 (by decide +kernel) rfl), ⟨_, _, _, (ft_in 1013 (by decide +kernel) rfl : Cond.code M_X4_licks.1 M_X4_licks.2.1 M_X4_licks.2.2.1 M_X4_licks.2.2.2 ∈ FT)⟩, ⟨by decide +kernel, by decide +kernel, by decide +kernel⟩, by decide⟩
set_option maxRecDepth 20000 in
theorem cu_X4_33_1 : CU RX4 33 RX1 "SaltPeace$Person" ⟨"SaltPeace$Person", "licks", "(I)I"⟩ M_X4_licks 1 := ⟨(ft_in 1040 (by decide +kernel) rfl), (ft_in 996 (by decide +kernel) rfl), (ft_in 994 (by decide +kernel) rfl), (ft_in 1002 (by decide +kernel) rfl), (ft_in 994 (by decide +kernel) rfl), (ft_in 71 (by decide +kernel) rfl), (ft_in 1013 (by decide +kernel) rfl), ⟨_, _, _, (ft_in 1013 (by decide +kernel) rfl : Cond.code M_X4_licks.1 M_X4_licks.2.1 M_X4_licks.2.2.1 M_X4_licks.2.2.2 ∈ FT)⟩, ⟨by decide +kernel, by decide +kernel, by decide +kernel⟩, by decide⟩
set_option maxRecDepth 20000 in
theorem cu_X4_33_0 : CU RX4 33 RX0 "SaltPeace$Person" ⟨"SaltPeace$Person", "licks", "(I)I"⟩ M_X0_licks 1 := ⟨(ft_in 1040 (by decide +kernel) rfl), (ft_in 996 (by decide +kernel) rfl), (ft_in 994 (by decide +kernel) rfl), (ft_in 997 (by decide +kernel) rfl), (ft_in 998 (by decide +kernel) rfl), (ft_in 82 (by decide +kernel) rfl), (ft_in 999 (by decide +kernel) rfl), ⟨_, _, _, (ft_in 1013 (by decide +kernel) rfl : Cond.code M_X4_licks.1 M_X4_licks.2.1 M_X4_licks.2.2.1 M_X4_licks.2.2.2 ∈ FT)⟩, ⟨by decide +kernel, by decide +kernel, by decide +kernel⟩, by decide⟩
set_option maxRecDepth 20000 in
theorem cu_X4_33_8 : CU RX4 33 RX8 "SaltPeace$Person" ⟨"SaltPeace$Person", "licks", "(I)I"⟩ M_X4_licks 1 := ⟨(ft_in 1040 (by decide +kernel) rfl), (ft_in 996 (by decide +kernel) rfl), (ft_in 994 (by decide +kernel) rfl), (ft_in 1005 (by decide +kernel) rfl), (ft_in 994 (by decide +kernel) rfl), (ft_in 71 (by decide +kernel) rfl), (ft_in 1013 (by decide +kernel) rfl), ⟨_, _, _, (ft_in 1013 (by decide +kernel) rfl : Cond.code M_X4_licks.1 M_X4_licks.2.1 M_X4_licks.2.2.1 M_X4_licks.2.2.2 ∈ FT)⟩, ⟨by decide +kernel, by decide +kernel, by decide +kernel⟩, by decide⟩
set_option maxRecDepth 20000 in
theorem cu_X4_33_2 : CU RX4 33 RX2 "SaltPeace$Person" ⟨"SaltPeace$Person", "licks", "(I)I"⟩ M_X4_licks 1 := ⟨(ft_in 1040 (by decide +kernel) rfl), (ft_in 996 (by decide +kernel) rfl), (ft_in 994 (by decide +kernel) rfl), (ft_in 1003 (by decide +kernel) rfl), (ft_in 994 (by decide +kernel) rfl), (ft_in 71 (by decide +kernel) rfl), (ft_in 1013 (by decide +kernel) rfl), ⟨_, _, _, (ft_in 1013 (by decide +kernel) rfl : Cond.code M_X4_licks.1 M_X4_licks.2.1 M_X4_licks.2.2.1 M_X4_licks.2.2.2 ∈ FT)⟩, ⟨by decide +kernel, by decide +kernel, by decide +kernel⟩, by decide⟩
set_option maxRecDepth 20000 in
theorem cu_X4_33_5 : CU RX4 33 RX5 "SaltPeace$Person" ⟨"SaltPeace$Person", "licks", "(I)I"⟩ M_X0_licks 1 := ⟨(ft_in 1040 (by decide +kernel) rfl), (ft_in 996 (by decide +kernel) rfl), (ft_in 994 (by decide +kernel) rfl), (ft_in 1004 (by decide +kernel) rfl), (ft_in 998 (by decide +kernel) rfl), (ft_in 82 (by decide +kernel) rfl), (ft_in 999 (by decide +kernel) rfl), ⟨_, _, _, (ft_in 1013 (by decide +kernel) rfl : Cond.code M_X4_licks.1 M_X4_licks.2.1 M_X4_licks.2.2.1 M_X4_licks.2.2.2 ∈ FT)⟩, ⟨by decide +kernel, by decide +kernel, by decide +kernel⟩, by decide⟩
set_option maxRecDepth 20000 in
theorem cu_X4_33_9 : CU RX4 33 RX9 "SaltPeace$Person" ⟨"SaltPeace$Person", "licks", "(I)I"⟩ M_X9_licks 1 := ⟨(ft_in 1040 (by decide +kernel) rfl), (ft_in 996 (by decide +kernel) rfl), (ft_in 994 (by decide +kernel) rfl), (ft_in 1006 (by decide +kernel) rfl), (ft_in 1007 (by decide +kernel) rfl), (ft_in 86 (by decide +kernel) rfl), (ft_in 1008 (by decide +kernel) rfl), ⟨_, _, _, (ft_in 1013 (by decide +kernel) rfl : Cond.code M_X4_licks.1 M_X4_licks.2.1 M_X4_licks.2.2.1 M_X4_licks.2.2.2 ∈ FT)⟩, ⟨by decide +kernel, by decide +kernel, by decide +kernel⟩, by decide⟩
set_option maxRecDepth 20000 in
theorem co_X5_1 : CO RX5 1 M_X0_init 4 := ⟨(ft_in 624 (by decide +kernel) rfl), (ft_in 589 (by decide +kernel) rfl), (ft_in 82 (by decide +kernel) rfl), (ft_in 590 (by decide +kernel) rfl), rfl, ⟨by decide +kernel, by decide +kernel, by decide +kernel⟩, by decide, rfl⟩
set_option maxRecDepth 20000 in
theorem cs_X5_7 : CS RX5 7 M_X0_rises 4 := ⟨(ft_in 696 (by decide +kernel) rfl), (ft_in 1510 (by decide +kernel) rfl), (ft_in 629 (by decide +kernel) rfl), (ft_in 683 (by decide +kernel) rfl), (ft_in 82 (by decide +kernel) rfl), (ft_in 684 (by decide +kernel) rfl), ⟨by decide +kernel, by decide +kernel⟩, by decide⟩
set_option maxRecDepth 20000 in
theorem fl_X5_11_5 : FL RX5 11 5 2 := ⟨RX5, TX5, 4, tyX5, "SaltPeace$Proud", ci_5, by decide, (ft_in 217 (by decide +kernel) rfl), Or.inr (ft_in 218 (by decide +kernel) rfl)⟩
set_option maxRecDepth 20000 in
theorem ct_X5_17 : CT RX5 17 M_J9_max_7cf53 2 := ⟨(ft_in 697 (by decide +kernel) rfl), (ft_in 103 (by decide +kernel) rfl), (ft_in 68 (by decide +kernel) rfl), (ft_in 104 (by decide +kernel) rfl), ⟨by decide +kernel, by decide +kernel, by decide +kernel⟩, by decide⟩
set_option maxRecDepth 20000 in
theorem cs_X5_23 : CS RX5 23 M_X0_mostLicked 2 := ⟨(ft_in 723 (by decide +kernel) rfl), (ft_in 1512 (by decide +kernel) rfl), (ft_in 629 (by decide +kernel) rfl), (ft_in 712 (by decide +kernel) rfl), (ft_in 82 (by decide +kernel) rfl), (ft_in 713 (by decide +kernel) rfl), ⟨by decide +kernel, by decide +kernel⟩, by decide⟩
set_option maxRecDepth 20000 in
theorem fl_X5_26_5 : FL RX5 26 5 3 := ⟨RX5, TX5, 4, tyX5, "SaltPeace$Proud", ci_5, by decide, (ft_in 228 (by decide +kernel) rfl), Or.inr (ft_in 229 (by decide +kernel) rfl)⟩
set_option maxRecDepth 20000 in
theorem cv_X5_30 : CV RX5 30 M_X7_add 3 := ⟨(ft_in 985 (by decide +kernel) rfl), (ft_in 362 (by decide +kernel) rfl), (ft_in 363 (by decide +kernel) rfl), (ft_in 67 (by decide +kernel) rfl), (ft_in 364 (by decide +kernel) rfl), ⟨by decide +kernel, by decide +kernel, by decide +kernel⟩, by decide⟩
set_option maxRecDepth 20000 in
theorem fl_X5_40_5 : FL RX5 40 5 1 := ⟨RX5, TX5, 4, tyX5, "SaltPeace$Proud", ci_5, by decide, (ft_in 210 (by decide +kernel) rfl), Or.inr (ft_in 211 (by decide +kernel) rfl)⟩
set_option maxRecDepth 20000 in
theorem oi_X6_3 : Cond.methodLink RX6 3 objectInit ∈ FT ∧ Cond.instanceMethod objectInit ∈ FT ∧ Cond.code objectInit ⟨#[0xb1]⟩ 1 none ∈ FT := ⟨(ft_in 141 (by decide +kernel) rfl), (ft_in 94 (by decide +kernel) rfl), (ft_in 95 (by decide +kernel) rfl)⟩
set_option maxRecDepth 20000 in
theorem fp_X6_9_6 : FP RX6 9 6 0 true (.array .int) := ⟨RX6, TX6, 10, tyX6, "SaltPeace$Reader", ci_6, by decide, (ft_in 142 (by decide +kernel) rfl), Or.inl rfl, rfl, by decide +kernel, fun _ => rfl⟩
set_option maxRecDepth 20000 in
theorem fp_X6_15_6 : FP RX6 15 6 1 true (.array .int) := ⟨RX6, TX6, 10, tyX6, "SaltPeace$Reader", ci_6, by decide, (ft_in 143 (by decide +kernel) rfl), Or.inl rfl, rfl, by decide +kernel, fun _ => rfl⟩
set_option maxRecDepth 20000 in
theorem fp_X6_18_6 : FP RX6 18 6 2 true (.array .int) := ⟨RX6, TX6, 10, tyX6, "SaltPeace$Reader", ci_6, by decide, (ft_in 144 (by decide +kernel) rfl), Or.inl rfl, rfl, by decide +kernel, fun _ => rfl⟩
set_option maxRecDepth 20000 in
theorem fp_X6_21_6 : FP RX6 21 6 3 true (.array .int) := ⟨RX6, TX6, 10, tyX6, "SaltPeace$Reader", ci_6, by decide, (ft_in 145 (by decide +kernel) rfl), Or.inl rfl, rfl, by decide +kernel, fun _ => rfl⟩
set_option maxRecDepth 20000 in
theorem fp_X6_24_6 : FP RX6 24 6 4 false .int := ⟨RX6, TX6, 10, tyX6, "SaltPeace$Reader", ci_6, by decide, (ft_in 146 (by decide +kernel) rfl), Or.inl rfl, rfl, by decide +kernel, fun h => absurd h (by decide)⟩
set_option maxRecDepth 20000 in
theorem fp_X6_28_6 : FP RX6 28 6 5 false .int := ⟨RX6, TX6, 10, tyX6, "SaltPeace$Reader", ci_6, by decide, (ft_in 147 (by decide +kernel) rfl), Or.inl rfl, rfl, by decide +kernel, fun h => absurd h (by decide)⟩
set_option maxRecDepth 20000 in
theorem fp_X6_31_6 : FP RX6 31 6 6 false .int := ⟨RX6, TX6, 10, tyX6, "SaltPeace$Reader", ci_6, by decide, (ft_in 148 (by decide +kernel) rfl), Or.inl rfl, rfl, by decide +kernel, fun h => absurd h (by decide)⟩
set_option maxRecDepth 20000 in
theorem fp_X6_34_6 : FP RX6 34 6 7 false .int := ⟨RX6, TX6, 10, tyX6, "SaltPeace$Reader", ci_6, by decide, (ft_in 149 (by decide +kernel) rfl), Or.inl rfl, rfl, by decide +kernel, fun h => absurd h (by decide)⟩
set_option maxRecDepth 20000 in
theorem fp_X6_37_6 : FP RX6 37 6 8 false .int := ⟨RX6, TX6, 10, tyX6, "SaltPeace$Reader", ci_6, by decide, (ft_in 150 (by decide +kernel) rfl), Or.inl rfl, rfl, by decide +kernel, fun h => absurd h (by decide)⟩
set_option maxRecDepth 20000 in
theorem fp_X6_40_6 : FP RX6 40 6 9 false .int := ⟨RX6, TX6, 10, tyX6, "SaltPeace$Reader", ci_6, by decide, (ft_in 151 (by decide +kernel) rfl), Or.inl rfl, rfl, by decide +kernel, fun h => absurd h (by decide)⟩
set_option maxRecDepth 20000 in
theorem cv_X6_43 : CV RX6 43 M_X6_start 1 := ⟨(ft_in 373 (by decide +kernel) rfl), (ft_in 375 (by decide +kernel) rfl), (ft_in 0 (by decide +kernel) rfl), (ft_in 69 (by decide +kernel) rfl), (ft_in 376 (by decide +kernel) rfl), ⟨by decide +kernel, by decide +kernel, by decide +kernel⟩, by decide⟩
set_option maxRecDepth 20000 in
theorem cv_X6_47 : CV RX6 47 M_X6_clause 0 := ⟨(ft_in 388 (by decide +kernel) rfl), (ft_in 390 (by decide +kernel) rfl), (ft_in 1 (by decide +kernel) rfl), (ft_in 69 (by decide +kernel) rfl), (ft_in 391 (by decide +kernel) rfl), ⟨by decide +kernel, by decide +kernel, by decide +kernel⟩, by decide⟩
set_option maxRecDepth 20000 in
theorem fl_X6_28_6 : FL RX6 28 6 5 := ⟨RX6, TX6, 10, tyX6, "SaltPeace$Reader", ci_6, by decide, (ft_in 147 (by decide +kernel) rfl), Or.inl rfl⟩
set_option maxRecDepth 20000 in
theorem fl_X6_24_6 : FL RX6 24 6 4 := ⟨RX6, TX6, 10, tyX6, "SaltPeace$Reader", ci_6, by decide, (ft_in 146 (by decide +kernel) rfl), Or.inl rfl⟩
set_option maxRecDepth 20000 in
theorem cv_X6_51 : CV RX6 51 M_X6_accept 1 := ⟨(ft_in 508 (by decide +kernel) rfl), (ft_in 510 (by decide +kernel) rfl), (ft_in 4 (by decide +kernel) rfl), (ft_in 69 (by decide +kernel) rfl), (ft_in 511 (by decide +kernel) rfl), ⟨by decide +kernel, by decide +kernel, by decide +kernel⟩, by decide⟩
set_option maxRecDepth 20000 in
theorem nw_X6_55 : NW RX6 55 10 5 [.int 0, .int 0, .null, .null, .null] := ⟨RX10, TX10, tyX10, ci_10, (ft_in 546 (by decide +kernel) rfl), (ft_in 174 (by decide +kernel) rfl), (ft_in 70 (by decide +kernel) rfl), by decide +kernel⟩
set_option maxRecDepth 20000 in
theorem fl_X6_37_6 : FL RX6 37 6 8 := ⟨RX6, TX6, 10, tyX6, "SaltPeace$Reader", ci_6, by decide, (ft_in 150 (by decide +kernel) rfl), Or.inl rfl⟩
set_option maxRecDepth 20000 in
theorem fl_X6_40_6 : FL RX6 40 6 9 := ⟨RX6, TX6, 10, tyX6, "SaltPeace$Reader", ci_6, by decide, (ft_in 151 (by decide +kernel) rfl), Or.inl rfl⟩
set_option maxRecDepth 20000 in
theorem fl_X6_15_6 : FL RX6 15 6 1 := ⟨RX6, TX6, 10, tyX6, "SaltPeace$Reader", ci_6, by decide, (ft_in 143 (by decide +kernel) rfl), Or.inl rfl⟩
set_option maxRecDepth 20000 in
theorem fl_X6_31_6 : FL RX6 31 6 6 := ⟨RX6, TX6, 10, tyX6, "SaltPeace$Reader", ci_6, by decide, (ft_in 148 (by decide +kernel) rfl), Or.inl rfl⟩
set_option maxRecDepth 20000 in
theorem ct_X6_57 : CT RX6 57 M_J7_copyOf_59c91 2 := ⟨(ft_in 547 (by decide +kernel) rfl), (ft_in 548 (by decide +kernel) rfl), (ft_in 73 (by decide +kernel) rfl), (ft_in 549 (by decide +kernel) rfl), ⟨by decide +kernel, by decide +kernel, by decide +kernel⟩, by decide⟩
set_option maxRecDepth 20000 in
theorem fl_X6_18_6 : FL RX6 18 6 2 := ⟨RX6, TX6, 10, tyX6, "SaltPeace$Reader", ci_6, by decide, (ft_in 144 (by decide +kernel) rfl), Or.inl rfl⟩
set_option maxRecDepth 20000 in
theorem fl_X6_21_6 : FL RX6 21 6 3 := ⟨RX6, TX6, 10, tyX6, "SaltPeace$Reader", ci_6, by decide, (ft_in 145 (by decide +kernel) rfl), Or.inl rfl⟩
set_option maxRecDepth 20000 in
theorem fl_X6_34_6 : FL RX6 34 6 7 := ⟨RX6, TX6, 10, tyX6, "SaltPeace$Reader", ci_6, by decide, (ft_in 149 (by decide +kernel) rfl), Or.inl rfl⟩
set_option maxRecDepth 20000 in
theorem co_X6_63 : CO RX6 63 M_X10_init 5 := ⟨(ft_in 559 (by decide +kernel) rfl), (ft_in 176 (by decide +kernel) rfl), (ft_in 70 (by decide +kernel) rfl), (ft_in 177 (by decide +kernel) rfl), rfl, ⟨by decide +kernel, by decide +kernel, by decide +kernel⟩, by decide, rfl⟩
set_option maxRecDepth 20000 in
theorem cv_X6_66 : CV RX6 66 M_X7_kept 0 := ⟨(ft_in 377 (by decide +kernel) rfl), (ft_in 378 (by decide +kernel) rfl), (ft_in 379 (by decide +kernel) rfl), (ft_in 67 (by decide +kernel) rfl), (ft_in 380 (by decide +kernel) rfl), ⟨by decide +kernel, by decide +kernel, by decide +kernel⟩, by decide⟩
set_option maxRecDepth 20000 in
theorem ct_X6_72 : CT RX6 72 M_J9_min_7cf53 2 := ⟨(ft_in 384 (by decide +kernel) rfl), (ft_in 382 (by decide +kernel) rfl), (ft_in 68 (by decide +kernel) rfl), (ft_in 383 (by decide +kernel) rfl), ⟨by decide +kernel, by decide +kernel, by decide +kernel⟩, by decide⟩
set_option maxRecDepth 20000 in
theorem fl_X6_78_7 : FL RX6 78 7 0 := ⟨RX7, TX7, 8, tyX7, "SaltPeace$Rows", ci_7, by decide, (ft_in 106 (by decide +kernel) rfl), Or.inl rfl⟩
set_option maxRecDepth 20000 in
theorem fl_X6_9_6 : FL RX6 9 6 0 := ⟨RX6, TX6, 10, tyX6, "SaltPeace$Reader", ci_6, by decide, (ft_in 142 (by decide +kernel) rfl), Or.inl rfl⟩
set_option maxRecDepth 20000 in
theorem cv_X6_89 : CV RX6 89 M_X6_choice 1 := ⟨(ft_in 393 (by decide +kernel) rfl), (ft_in 395 (by decide +kernel) rfl), (ft_in 2 (by decide +kernel) rfl), (ft_in 69 (by decide +kernel) rfl), (ft_in 396 (by decide +kernel) rfl), ⟨by decide +kernel, by decide +kernel, by decide +kernel⟩, by decide⟩
set_option maxRecDepth 20000 in
theorem cv_X6_93 : CV RX6 93 M_X6_rest 1 := ⟨(ft_in 479 (by decide +kernel) rfl), (ft_in 481 (by decide +kernel) rfl), (ft_in 3 (by decide +kernel) rfl), (ft_in 69 (by decide +kernel) rfl), (ft_in 482 (by decide +kernel) rfl), ⟨by decide +kernel, by decide +kernel, by decide +kernel⟩, by decide⟩
set_option maxRecDepth 20000 in
theorem cv_X6_96 : CV RX6 96 M_X6_number 0 := ⟨(ft_in 512 (by decide +kernel) rfl), (ft_in 514 (by decide +kernel) rfl), (ft_in 5 (by decide +kernel) rfl), (ft_in 69 (by decide +kernel) rfl), (ft_in 515 (by decide +kernel) rfl), ⟨by decide +kernel, by decide +kernel, by decide +kernel⟩, by decide⟩
set_option maxRecDepth 20000 in
theorem cv_X6_99 : CV RX6 99 M_X6_expression 1 := ⟨(ft_in 517 (by decide +kernel) rfl), (ft_in 519 (by decide +kernel) rfl), (ft_in 6 (by decide +kernel) rfl), (ft_in 69 (by decide +kernel) rfl), (ft_in 520 (by decide +kernel) rfl), ⟨by decide +kernel, by decide +kernel, by decide +kernel⟩, by decide⟩
set_option maxRecDepth 20000 in
theorem cv_X6_102 : CV RX6 102 M_X6_judge 1 := ⟨(ft_in 534 (by decide +kernel) rfl), (ft_in 536 (by decide +kernel) rfl), (ft_in 9 (by decide +kernel) rfl), (ft_in 69 (by decide +kernel) rfl), (ft_in 537 (by decide +kernel) rfl), ⟨by decide +kernel, by decide +kernel, by decide +kernel⟩, by decide⟩
set_option maxRecDepth 20000 in
theorem cv_X6_113 : CV RX6 113 M_J0_length_8abf5 0 := ⟨(ft_in 487 (by decide +kernel) rfl), (ft_in 412 (by decide +kernel) rfl), (ft_in 413 (by decide +kernel) rfl), (ft_in 76 (by decide +kernel) rfl), (ft_in 414 (by decide +kernel) rfl), ⟨by decide +kernel, by decide +kernel, by decide +kernel⟩, by decide⟩
set_option maxRecDepth 20000 in
theorem cv_X6_118 : CV RX6 118 M_J0_charAt_5068e 1 := ⟨(ft_in 488 (by decide +kernel) rfl), (ft_in 489 (by decide +kernel) rfl), (ft_in 490 (by decide +kernel) rfl), (ft_in 76 (by decide +kernel) rfl), (ft_in 491 (by decide +kernel) rfl), ⟨by decide +kernel, by decide +kernel, by decide +kernel⟩, by decide⟩
set_option maxRecDepth 20000 in
theorem cv_X6_122 : CV RX6 122 M_X6_factor 1 := ⟨(ft_in 521 (by decide +kernel) rfl), (ft_in 523 (by decide +kernel) rfl), (ft_in 7 (by decide +kernel) rfl), (ft_in 69 (by decide +kernel) rfl), (ft_in 524 (by decide +kernel) rfl), ⟨by decide +kernel, by decide +kernel, by decide +kernel⟩, by decide⟩
set_option maxRecDepth 20000 in
theorem cv_X6_125 : CV RX6 125 M_X6_step 1 := ⟨(ft_in 525 (by decide +kernel) rfl), (ft_in 527 (by decide +kernel) rfl), (ft_in 8 (by decide +kernel) rfl), (ft_in 69 (by decide +kernel) rfl), (ft_in 528 (by decide +kernel) rfl), ⟨by decide +kernel, by decide +kernel, by decide +kernel⟩, by decide⟩
set_option maxRecDepth 20000 in
theorem ct_X6_133 : CT RX6 133 M_X10_testStep 3 := ⟨(ft_in 531 (by decide +kernel) rfl), (ft_in 532 (by decide +kernel) rfl), (ft_in 70 (by decide +kernel) rfl), (ft_in 533 (by decide +kernel) rfl), ⟨by decide +kernel, by decide +kernel, by decide +kernel⟩, by decide⟩
set_option maxRecDepth 20000 in
theorem cv_X6_139 : CV RX6 139 M_J0_indexOf_0f7a4 1 := ⟨(ft_in 397 (by decide +kernel) rfl), (ft_in 398 (by decide +kernel) rfl), (ft_in 399 (by decide +kernel) rfl), (ft_in 76 (by decide +kernel) rfl), (ft_in 400 (by decide +kernel) rfl), ⟨by decide +kernel, by decide +kernel, by decide +kernel⟩, by decide⟩
set_option maxRecDepth 20000 in
theorem oi_X7_1 : Cond.methodLink RX7 1 objectInit ∈ FT ∧ Cond.instanceMethod objectInit ∈ FT ∧ Cond.code objectInit ⟨#[0xb1]⟩ 1 none ∈ FT := ⟨(ft_in 101 (by decide +kernel) rfl), (ft_in 94 (by decide +kernel) rfl), (ft_in 95 (by decide +kernel) rfl)⟩
set_option maxRecDepth 20000 in
theorem fp_X7_7_7 : FP RX7 7 7 3 false .int := ⟨RX7, TX7, 8, tyX7, "SaltPeace$Rows", ci_7, by decide, (ft_in 112 (by decide +kernel) rfl), Or.inl rfl, rfl, by decide +kernel, fun h => absurd h (by decide)⟩
set_option maxRecDepth 20000 in
theorem fp_X7_13_7 : FP RX7 13 7 7 false .int := ⟨RX7, TX7, 8, tyX7, "SaltPeace$Rows", ci_7, by decide, (ft_in 117 (by decide +kernel) rfl), Or.inl rfl, rfl, by decide +kernel, fun h => absurd h (by decide)⟩
set_option maxRecDepth 20000 in
theorem ct_X7_16 : CT RX7 16 M_J9_max_7cf53 2 := ⟨(ft_in 102 (by decide +kernel) rfl), (ft_in 103 (by decide +kernel) rfl), (ft_in 68 (by decide +kernel) rfl), (ft_in 104 (by decide +kernel) rfl), ⟨by decide +kernel, by decide +kernel, by decide +kernel⟩, by decide⟩
set_option maxRecDepth 20000 in
theorem fp_X7_22_7 : FP RX7 22 7 0 true (.array .int) := ⟨RX7, TX7, 8, tyX7, "SaltPeace$Rows", ci_7, by decide, (ft_in 105 (by decide +kernel) rfl), Or.inl rfl, rfl, by decide +kernel, fun _ => rfl⟩
set_option maxRecDepth 20000 in
theorem fp_X7_26_7 : FP RX7 26 7 1 true (.array .int) := ⟨RX7, TX7, 8, tyX7, "SaltPeace$Rows", ci_7, by decide, (ft_in 108 (by decide +kernel) rfl), Or.inl rfl, rfl, by decide +kernel, fun _ => rfl⟩
set_option maxRecDepth 20000 in
theorem fp_X7_29_7 : FP RX7 29 7 2 true (.array .int) := ⟨RX7, TX7, 8, tyX7, "SaltPeace$Rows", ci_7, by decide, (ft_in 110 (by decide +kernel) rfl), Or.inl rfl, rfl, by decide +kernel, fun _ => rfl⟩
set_option maxRecDepth 20000 in
theorem fp_X7_32_7 : FP RX7 32 7 4 true (.array .int) := ⟨RX7, TX7, 8, tyX7, "SaltPeace$Rows", ci_7, by decide, (ft_in 114 (by decide +kernel) rfl), Or.inl rfl, rfl, by decide +kernel, fun _ => rfl⟩
set_option maxRecDepth 20000 in
theorem fp_X7_35_7 : FP RX7 35 7 5 true (.array .int) := ⟨RX7, TX7, 8, tyX7, "SaltPeace$Rows", ci_7, by decide, (ft_in 115 (by decide +kernel) rfl), Or.inl rfl, rfl, by decide +kernel, fun _ => rfl⟩
set_option maxRecDepth 20000 in
theorem fp_X7_38_7 : FP RX7 38 7 6 true (.array .int) := ⟨RX7, TX7, 8, tyX7, "SaltPeace$Rows", ci_7, by decide, (ft_in 116 (by decide +kernel) rfl), Or.inl rfl, rfl, by decide +kernel, fun _ => rfl⟩
set_option maxRecDepth 20000 in
theorem fl_X7_7_7 : FL RX7 7 7 3 := ⟨RX7, TX7, 8, tyX7, "SaltPeace$Rows", ci_7, by decide, (ft_in 112 (by decide +kernel) rfl), Or.inl rfl⟩
set_option maxRecDepth 20000 in
theorem fl_X7_22_7 : FL RX7 22 7 0 := ⟨RX7, TX7, 8, tyX7, "SaltPeace$Rows", ci_7, by decide, (ft_in 105 (by decide +kernel) rfl), Or.inl rfl⟩
set_option maxRecDepth 20000 in
theorem ct_X7_41 : CT RX7 41 M_J9_min_7cf53 2 := ⟨(ft_in 381 (by decide +kernel) rfl), (ft_in 382 (by decide +kernel) rfl), (ft_in 68 (by decide +kernel) rfl), (ft_in 383 (by decide +kernel) rfl), ⟨by decide +kernel, by decide +kernel, by decide +kernel⟩, by decide⟩
set_option maxRecDepth 20000 in
theorem fl_X7_26_7 : FL RX7 26 7 1 := ⟨RX7, TX7, 8, tyX7, "SaltPeace$Rows", ci_7, by decide, (ft_in 108 (by decide +kernel) rfl), Or.inl rfl⟩
set_option maxRecDepth 20000 in
theorem fl_X7_29_7 : FL RX7 29 7 2 := ⟨RX7, TX7, 8, tyX7, "SaltPeace$Rows", ci_7, by decide, (ft_in 110 (by decide +kernel) rfl), Or.inl rfl⟩
set_option maxRecDepth 20000 in
theorem fl_X7_32_7 : FL RX7 32 7 4 := ⟨RX7, TX7, 8, tyX7, "SaltPeace$Rows", ci_7, by decide, (ft_in 114 (by decide +kernel) rfl), Or.inl rfl⟩
set_option maxRecDepth 20000 in
theorem fl_X7_35_7 : FL RX7 35 7 5 := ⟨RX7, TX7, 8, tyX7, "SaltPeace$Rows", ci_7, by decide, (ft_in 115 (by decide +kernel) rfl), Or.inl rfl⟩
set_option maxRecDepth 20000 in
theorem fl_X7_38_7 : FL RX7 38 7 6 := ⟨RX7, TX7, 8, tyX7, "SaltPeace$Rows", ci_7, by decide, (ft_in 116 (by decide +kernel) rfl), Or.inl rfl⟩
set_option maxRecDepth 20000 in
theorem fl_X7_13_7 : FL RX7 13 7 7 := ⟨RX7, TX7, 8, tyX7, "SaltPeace$Rows", ci_7, by decide, (ft_in 117 (by decide +kernel) rfl), Or.inl rfl⟩
set_option maxRecDepth 20000 in
theorem co_X8_3 : CO RX8 3 M_X4_init 4 := ⟨(ft_in 602 (by decide +kernel) rfl), (ft_in 203 (by decide +kernel) rfl), (ft_in 71 (by decide +kernel) rfl), (ft_in 204 (by decide +kernel) rfl), rfl, ⟨by decide +kernel, by decide +kernel, by decide +kernel⟩, by decide, rfl⟩
set_option maxRecDepth 20000 in
theorem cs_X8_9 : CS RX8 9 M_X4_rises 4 := ⟨(ft_in 701 (by decide +kernel) rfl), (ft_in 681 (by decide +kernel) rfl), (ft_in 607 (by decide +kernel) rfl), (ft_in 679 (by decide +kernel) rfl), (ft_in 71 (by decide +kernel) rfl), (ft_in 706 (by decide +kernel) rfl), ⟨by decide +kernel, by decide +kernel⟩, by decide⟩
set_option maxRecDepth 20000 in
theorem fl_X8_13_8 : FL RX8 13 8 3 := ⟨RX8, TX8, 4, tyX8, "SaltPeace$Sly", ci_8, by decide, (ft_in 234 (by decide +kernel) rfl), Or.inr (ft_in 235 (by decide +kernel) rfl)⟩
set_option maxRecDepth 20000 in
theorem fl_X8_13_9 : FL RX8 13 9 3 := ⟨RX9, TX9, 4, tyX9, "SaltPeace$Sly", ci_9, by decide, (ft_in 234 (by decide +kernel) rfl), Or.inr (ft_in 235 (by decide +kernel) rfl)⟩
set_option maxRecDepth 20000 in
theorem cv_X8_19 : CV RX8 19 M_X7_add 3 := ⟨(ft_in 1036 (by decide +kernel) rfl), (ft_in 362 (by decide +kernel) rfl), (ft_in 363 (by decide +kernel) rfl), (ft_in 67 (by decide +kernel) rfl), (ft_in 364 (by decide +kernel) rfl), ⟨by decide +kernel, by decide +kernel, by decide +kernel⟩, by decide⟩
set_option maxRecDepth 20000 in
theorem cs_X8_25 : CS RX8 25 M_X4_tells 1 := ⟨(ft_in 1037 (by decide +kernel) rfl), (ft_in 1018 (by decide +kernel) rfl), (ft_in 607 (by decide +kernel) rfl), (ft_in 1016 (by decide +kernel) rfl), (ft_in 71 (by decide +kernel) rfl), (ft_in 1039 (by decide +kernel) rfl), ⟨by decide +kernel, by decide +kernel⟩, by decide⟩
set_option maxRecDepth 20000 in
theorem co_X9_1 : CO RX9 1 M_X8_init 4 := ⟨(ft_in 635 (by decide +kernel) rfl), (ft_in 600 (by decide +kernel) rfl), (ft_in 83 (by decide +kernel) rfl), (ft_in 601 (by decide +kernel) rfl), rfl, ⟨by decide +kernel, by decide +kernel, by decide +kernel⟩, by decide, rfl⟩
set_option maxRecDepth 20000 in
theorem cs_X9_7 : CS RX9 7 M_X8_rises 4 := ⟨(ft_in 705 (by decide +kernel) rfl), (ft_in 1511 (by decide +kernel) rfl), (ft_in 640 (by decide +kernel) rfl), (ft_in 699 (by decide +kernel) rfl), (ft_in 83 (by decide +kernel) rfl), (ft_in 700 (by decide +kernel) rfl), ⟨by decide +kernel, by decide +kernel⟩, by decide⟩
set_option maxRecDepth 20000 in
theorem fl_X9_11_9 : FL RX9 11 9 3 := ⟨RX9, TX9, 4, tyX9, "SaltPeace$Told", ci_9, by decide, (ft_in 224 (by decide +kernel) rfl), Or.inr (ft_in 225 (by decide +kernel) rfl)⟩
set_option maxRecDepth 20000 in
theorem cv_X9_17 : CV RX9 17 M_X7_add 3 := ⟨(ft_in 1009 (by decide +kernel) rfl), (ft_in 362 (by decide +kernel) rfl), (ft_in 363 (by decide +kernel) rfl), (ft_in 67 (by decide +kernel) rfl), (ft_in 364 (by decide +kernel) rfl), ⟨by decide +kernel, by decide +kernel, by decide +kernel⟩, by decide⟩
set_option maxRecDepth 20000 in
theorem fl_X9_27_9 : FL RX9 27 9 2 := ⟨RX9, TX9, 4, tyX9, "SaltPeace$Told", ci_9, by decide, (ft_in 219 (by decide +kernel) rfl), Or.inr (ft_in 220 (by decide +kernel) rfl)⟩
set_option maxRecDepth 20000 in
theorem oi_X10_1 : Cond.methodLink RX10 1 objectInit ∈ FT ∧ Cond.instanceMethod objectInit ∈ FT ∧ Cond.code objectInit ⟨#[0xb1]⟩ 1 none ∈ FT := ⟨(ft_in 178 (by decide +kernel) rfl), (ft_in 94 (by decide +kernel) rfl), (ft_in 95 (by decide +kernel) rfl)⟩
set_option maxRecDepth 20000 in
theorem fp_X10_7_10 : FP RX10 7 10 0 true .int := ⟨RX10, TX10, 5, tyX10, "SaltPeace$Treaty", ci_10, by decide, (ft_in 180 (by decide +kernel) rfl), Or.inl rfl, rfl, by decide +kernel, fun _ => rfl⟩
set_option maxRecDepth 20000 in
theorem ct_X10_13 : CT RX10 13 M_J9_max_7cf53 2 := ⟨(ft_in 179 (by decide +kernel) rfl), (ft_in 103 (by decide +kernel) rfl), (ft_in 68 (by decide +kernel) rfl), (ft_in 104 (by decide +kernel) rfl), ⟨by decide +kernel, by decide +kernel, by decide +kernel⟩, by decide⟩
set_option maxRecDepth 20000 in
theorem fp_X10_19_10 : FP RX10 19 10 1 true .int := ⟨RX10, TX10, 5, tyX10, "SaltPeace$Treaty", ci_10, by decide, (ft_in 183 (by decide +kernel) rfl), Or.inl rfl, rfl, by decide +kernel, fun _ => rfl⟩
set_option maxRecDepth 20000 in
theorem fp_X10_22_10 : FP RX10 22 10 2 true (.array .int) := ⟨RX10, TX10, 5, tyX10, "SaltPeace$Treaty", ci_10, by decide, (ft_in 186 (by decide +kernel) rfl), Or.inl rfl, rfl, by decide +kernel, fun _ => rfl⟩
set_option maxRecDepth 20000 in
theorem fp_X10_26_10 : FP RX10 26 10 3 true (.array .int) := ⟨RX10, TX10, 5, tyX10, "SaltPeace$Treaty", ci_10, by decide, (ft_in 187 (by decide +kernel) rfl), Or.inl rfl, rfl, by decide +kernel, fun _ => rfl⟩
set_option maxRecDepth 20000 in
theorem fp_X10_29_10 : FP RX10 29 10 4 true (.array .int) := ⟨RX10, TX10, 5, tyX10, "SaltPeace$Treaty", ci_10, by decide, (ft_in 188 (by decide +kernel) rfl), Or.inl rfl, rfl, by decide +kernel, fun _ => rfl⟩
set_option maxRecDepth 20000 in
theorem fl_X10_22_10 : FL RX10 22 10 2 := ⟨RX10, TX10, 5, tyX10, "SaltPeace$Treaty", ci_10, by decide, (ft_in 186 (by decide +kernel) rfl), Or.inl rfl⟩
set_option maxRecDepth 20000 in
theorem fl_X10_26_10 : FL RX10 26 10 3 := ⟨RX10, TX10, 5, tyX10, "SaltPeace$Treaty", ci_10, by decide, (ft_in 187 (by decide +kernel) rfl), Or.inl rfl⟩
set_option maxRecDepth 20000 in
theorem cv_X10_32 : CV RX10 32 M_X10_holds 3 := ⟨(ft_in 667 (by decide +kernel) rfl), (ft_in 669 (by decide +kernel) rfl), (ft_in 12 (by decide +kernel) rfl), (ft_in 70 (by decide +kernel) rfl), (ft_in 670 (by decide +kernel) rfl), ⟨by decide +kernel, by decide +kernel, by decide +kernel⟩, by decide⟩
set_option maxRecDepth 20000 in
theorem fl_X10_29_10 : FL RX10 29 10 4 := ⟨RX10, TX10, 5, tyX10, "SaltPeace$Treaty", ci_10, by decide, (ft_in 188 (by decide +kernel) rfl), Or.inl rfl⟩
set_option maxRecDepth 20000 in
theorem ct_X10_36 : CT RX10 36 M_X10_isSo 2 := ⟨(ft_in 671 (by decide +kernel) rfl), (ft_in 672 (by decide +kernel) rfl), (ft_in 70 (by decide +kernel) rfl), (ft_in 673 (by decide +kernel) rfl), ⟨by decide +kernel, by decide +kernel, by decide +kernel⟩, by decide⟩
set_option maxRecDepth 20000 in
theorem oi_X11_3 : Cond.methodLink RX11 3 objectInit ∈ FT ∧ Cond.instanceMethod objectInit ∈ FT ∧ Cond.code objectInit ⟨#[0xb1]⟩ 1 none ∈ FT := ⟨(ft_in 93 (by decide +kernel) rfl), (ft_in 94 (by decide +kernel) rfl), (ft_in 95 (by decide +kernel) rfl)⟩
set_option maxRecDepth 20000 in
theorem nw_X11_9 : NW RX11 9 7 8 [.null, .null, .null, .int 0, .null, .null, .null, .int 0] := ⟨RX7, TX7, tyX7, ci_7, (ft_in 96 (by decide +kernel) rfl), (ft_in 97 (by decide +kernel) rfl), (ft_in 67 (by decide +kernel) rfl), by decide +kernel⟩
set_option maxRecDepth 20000 in
theorem co_X11_13 : CO RX11 13 M_X7_init 1 := ⟨(ft_in 98 (by decide +kernel) rfl), (ft_in 99 (by decide +kernel) rfl), (ft_in 67 (by decide +kernel) rfl), (ft_in 100 (by decide +kernel) rfl), rfl, ⟨by decide +kernel, by decide +kernel, by decide +kernel⟩, by decide, rfl⟩
set_option maxRecDepth 20000 in
theorem fp_X11_16_11 : FP RX11 16 11 0 true (.object "SaltPeace$Rows") := ⟨RX11, TX11, 10, tyX11, "SaltPeace", ci_11, by decide, (ft_in 319 (by decide +kernel) rfl), Or.inl rfl, rfl, by decide +kernel, fun _ => rfl⟩
set_option maxRecDepth 20000 in
theorem fp_X11_20_11 : FP RX11 20 11 1 true (.object "SaltPeace$Rows") := ⟨RX11, TX11, 10, tyX11, "SaltPeace", ci_11, by decide, (ft_in 320 (by decide +kernel) rfl), Or.inl rfl, rfl, by decide +kernel, fun _ => rfl⟩
set_option maxRecDepth 20000 in
theorem fp_X11_23_11 : FP RX11 23 11 2 true (.object "SaltPeace$Rows") := ⟨RX11, TX11, 10, tyX11, "SaltPeace", ci_11, by decide, (ft_in 321 (by decide +kernel) rfl), Or.inl rfl, rfl, by decide +kernel, fun _ => rfl⟩
set_option maxRecDepth 20000 in
theorem fp_X11_26_11 : FP RX11 26 11 3 true (.object "SaltPeace$Rows") := ⟨RX11, TX11, 10, tyX11, "SaltPeace", ci_11, by decide, (ft_in 322 (by decide +kernel) rfl), Or.inl rfl, rfl, by decide +kernel, fun _ => rfl⟩
set_option maxRecDepth 20000 in
theorem fp_X11_29_11 : FP RX11 29 11 4 true (.object "SaltPeace$Rows") := ⟨RX11, TX11, 10, tyX11, "SaltPeace", ci_11, by decide, (ft_in 323 (by decide +kernel) rfl), Or.inl rfl, rfl, by decide +kernel, fun _ => rfl⟩
set_option maxRecDepth 20000 in
theorem nw_X11_32 : NW RX11 32 6 10 [.null, .null, .null, .null, .int 0, .int 0, .int 0, .int 0, .int 0, .int 0] := ⟨RX6, TX6, tyX6, ci_6, (ft_in 136 (by decide +kernel) rfl), (ft_in 137 (by decide +kernel) rfl), (ft_in 69 (by decide +kernel) rfl), by decide +kernel⟩
set_option maxRecDepth 20000 in
theorem cn_X11_34 : CN RX11 34 M_X6_init 0 := ⟨by decide +kernel, (ft_in 69 (by decide +kernel) rfl), (ft_in 140 (by decide +kernel) rfl), ⟨by decide +kernel, by decide +kernel, by decide +kernel⟩, by decide⟩
set_option maxRecDepth 20000 in
theorem im_X6_init : Cond.instanceMethod M_X6_init.1 ∈ FT := (ft_in 139 (by decide +kernel) rfl)
set_option maxRecDepth 20000 in
theorem fp_X11_35_11 : FP RX11 35 11 5 true (.object "SaltPeace$Reader") := ⟨RX11, TX11, 10, tyX11, "SaltPeace", ci_11, by decide, (ft_in 324 (by decide +kernel) rfl), Or.inl rfl, rfl, by decide +kernel, fun _ => rfl⟩
set_option maxRecDepth 20000 in
theorem fp_X11_39_11 : FP RX11 39 11 9 false .boolean := ⟨RX11, TX11, 10, tyX11, "SaltPeace", ci_11, by decide, (ft_in 328 (by decide +kernel) rfl), Or.inl rfl, rfl, by decide +kernel, fun h => absurd h (by decide)⟩
set_option maxRecDepth 20000 in
theorem nw_X11_43 : NW RX11 43 10 5 [.int 0, .int 0, .null, .null, .null] := ⟨RX10, TX10, tyX10, ci_10, (ft_in 173 (by decide +kernel) rfl), (ft_in 174 (by decide +kernel) rfl), (ft_in 70 (by decide +kernel) rfl), by decide +kernel⟩
set_option maxRecDepth 20000 in
theorem co_X11_45 : CO RX11 45 M_X10_init 5 := ⟨(ft_in 175 (by decide +kernel) rfl), (ft_in 176 (by decide +kernel) rfl), (ft_in 70 (by decide +kernel) rfl), (ft_in 177 (by decide +kernel) rfl), rfl, ⟨by decide +kernel, by decide +kernel, by decide +kernel⟩, by decide, rfl⟩
set_option maxRecDepth 20000 in
theorem nw_X11_48 : NW RX11 48 4 4 [.int 0, .int 0, .int 0, .null] := ⟨RX4, TX4, tyX4, ci_4, (ft_in 200 (by decide +kernel) rfl), (ft_in 201 (by decide +kernel) rfl), (ft_in 71 (by decide +kernel) rfl), by decide +kernel⟩
set_option maxRecDepth 20000 in
theorem fl_X11_29_11 : FL RX11 29 11 4 := ⟨RX11, TX11, 10, tyX11, "SaltPeace", ci_11, by decide, (ft_in 323 (by decide +kernel) rfl), Or.inl rfl⟩
set_option maxRecDepth 20000 in
theorem co_X11_50 : CO RX11 50 M_X4_init 4 := ⟨(ft_in 202 (by decide +kernel) rfl), (ft_in 203 (by decide +kernel) rfl), (ft_in 71 (by decide +kernel) rfl), (ft_in 204 (by decide +kernel) rfl), rfl, ⟨by decide +kernel, by decide +kernel, by decide +kernel⟩, by decide, rfl⟩
set_option maxRecDepth 20000 in
theorem nw_X11_53 : NW RX11 53 3 16 [.null, .null, .null, .null, .null, .null, .null, .null, .int 0, .int 0, .int 0, .int 0, .null, .int 0, .int 0, .int 0] := ⟨RX3, TX3, tyX3, ci_3, (ft_in 245 (by decide +kernel) rfl), (ft_in 246 (by decide +kernel) rfl), (ft_in 72 (by decide +kernel) rfl), by decide +kernel⟩
set_option maxRecDepth 20000 in
theorem co_X11_55 : CO RX11 55 M_X3_init 2 := ⟨(ft_in 247 (by decide +kernel) rfl), (ft_in 248 (by decide +kernel) rfl), (ft_in 72 (by decide +kernel) rfl), (ft_in 249 (by decide +kernel) rfl), rfl, ⟨by decide +kernel, by decide +kernel, by decide +kernel⟩, by decide, rfl⟩
set_option maxRecDepth 20000 in
theorem fp_X11_58_11 : FP RX11 58 11 6 true (.object "SaltPeace$Moor") := ⟨RX11, TX11, 10, tyX11, "SaltPeace", ci_11, by decide, (ft_in 325 (by decide +kernel) rfl), Or.inl rfl, rfl, by decide +kernel, fun _ => rfl⟩
set_option maxRecDepth 20000 in
theorem fp_X11_62_11 : FP RX11 62 11 7 true (.object "SaltPeace$Moor") := ⟨RX11, TX11, 10, tyX11, "SaltPeace", ci_11, by decide, (ft_in 326 (by decide +kernel) rfl), Or.inl rfl, rfl, by decide +kernel, fun _ => rfl⟩
set_option maxRecDepth 20000 in
theorem fp_X11_65_11 : FP RX11 65 11 8 true (.object "SaltPeace$Moor") := ⟨RX11, TX11, 10, tyX11, "SaltPeace", ci_11, by decide, (ft_in 327 (by decide +kernel) rfl), Or.inl rfl, rfl, by decide +kernel, fun _ => rfl⟩
set_option maxRecDepth 20000 in
theorem ct_X11_68 : CT RX11 68 M_X11_isWithin 3 := ⟨(ft_in 354 (by decide +kernel) rfl), (ft_in 355 (by decide +kernel) rfl), (ft_in 66 (by decide +kernel) rfl), (ft_in 356 (by decide +kernel) rfl), ⟨by decide +kernel, by decide +kernel, by decide +kernel⟩, by decide⟩
set_option maxRecDepth 20000 in
theorem fl_X11_16_11 : FL RX11 16 11 0 := ⟨RX11, TX11, 10, tyX11, "SaltPeace", ci_11, by decide, (ft_in 319 (by decide +kernel) rfl), Or.inl rfl⟩
set_option maxRecDepth 20000 in
theorem cv_X11_72 : CV RX11 72 M_X7_isFull 0 := ⟨(ft_in 357 (by decide +kernel) rfl), (ft_in 358 (by decide +kernel) rfl), (ft_in 359 (by decide +kernel) rfl), (ft_in 67 (by decide +kernel) rfl), (ft_in 360 (by decide +kernel) rfl), ⟨by decide +kernel, by decide +kernel, by decide +kernel⟩, by decide⟩
set_option maxRecDepth 20000 in
theorem cv_X11_76 : CV RX11 76 M_X7_add 3 := ⟨(ft_in 361 (by decide +kernel) rfl), (ft_in 362 (by decide +kernel) rfl), (ft_in 363 (by decide +kernel) rfl), (ft_in 67 (by decide +kernel) rfl), (ft_in 364 (by decide +kernel) rfl), ⟨by decide +kernel, by decide +kernel, by decide +kernel⟩, by decide⟩
set_option maxRecDepth 20000 in
theorem fl_X11_58_11 : FL RX11 58 11 6 := ⟨RX11, TX11, 10, tyX11, "SaltPeace", ci_11, by decide, (ft_in 325 (by decide +kernel) rfl), Or.inl rfl⟩
set_option maxRecDepth 20000 in
theorem fl_X11_80_3 : FL RX11 80 3 13 := ⟨RX3, TX3, 16, tyX3, "SaltPeace$Moor", ci_3, by decide, (ft_in 281 (by decide +kernel) rfl), Or.inl rfl⟩
set_option maxRecDepth 20000 in
theorem fl_X11_35_11 : FL RX11 35 11 5 := ⟨RX11, TX11, 10, tyX11, "SaltPeace", ci_11, by decide, (ft_in 324 (by decide +kernel) rfl), Or.inl rfl⟩
set_option maxRecDepth 20000 in
theorem cv_X11_84 : CV RX11 84 M_X6_faultIn 1 := ⟨(ft_in 369 (by decide +kernel) rfl), (ft_in 370 (by decide +kernel) rfl), (ft_in 371 (by decide +kernel) rfl), (ft_in 69 (by decide +kernel) rfl), (ft_in 372 (by decide +kernel) rfl), ⟨by decide +kernel, by decide +kernel, by decide +kernel⟩, by decide⟩
set_option maxRecDepth 20000 in
theorem cv_X11_88 : CV RX11 88 M_X7_clear 0 := ⟨(ft_in 538 (by decide +kernel) rfl), (ft_in 539 (by decide +kernel) rfl), (ft_in 540 (by decide +kernel) rfl), (ft_in 67 (by decide +kernel) rfl), (ft_in 541 (by decide +kernel) rfl), ⟨by decide +kernel, by decide +kernel, by decide +kernel⟩, by decide⟩
set_option maxRecDepth 20000 in
theorem cv_X11_92 : CV RX11 92 M_X6_treatyRead 0 := ⟨(ft_in 542 (by decide +kernel) rfl), (ft_in 543 (by decide +kernel) rfl), (ft_in 544 (by decide +kernel) rfl), (ft_in 69 (by decide +kernel) rfl), (ft_in 545 (by decide +kernel) rfl), ⟨by decide +kernel, by decide +kernel, by decide +kernel⟩, by decide⟩
set_option maxRecDepth 20000 in
theorem fp_X11_96_3 : FP RX11 96 3 12 false (.object "SaltPeace$Treaty") := ⟨RX3, TX3, 16, tyX3, "SaltPeace$Moor", ci_3, by decide, (ft_in 279 (by decide +kernel) rfl), Or.inl rfl, rfl, by decide +kernel, fun h => absurd h (by decide)⟩
set_option maxRecDepth 20000 in
theorem fp_X11_80_3 : FP RX11 80 3 13 false .int := ⟨RX3, TX3, 16, tyX3, "SaltPeace$Moor", ci_3, by decide, (ft_in 281 (by decide +kernel) rfl), Or.inl rfl, rfl, by decide +kernel, fun h => absurd h (by decide)⟩
set_option maxRecDepth 20000 in
theorem ct_X11_100 : CT RX11 100 M_X11_isKind 1 := ⟨(ft_in 565 (by decide +kernel) rfl), (ft_in 566 (by decide +kernel) rfl), (ft_in 66 (by decide +kernel) rfl), (ft_in 567 (by decide +kernel) rfl), ⟨by decide +kernel, by decide +kernel, by decide +kernel⟩, by decide⟩
set_option maxRecDepth 20000 in
theorem ct_X11_104 : CT RX11 104 M_X11_isSide 1 := ⟨(ft_in 568 (by decide +kernel) rfl), (ft_in 569 (by decide +kernel) rfl), (ft_in 66 (by decide +kernel) rfl), (ft_in 570 (by decide +kernel) rfl), ⟨by decide +kernel, by decide +kernel, by decide +kernel⟩, by decide⟩
set_option maxRecDepth 20000 in
theorem fl_X11_107_3 : FL RX11 107 3 8 := ⟨RX3, TX3, 16, tyX3, "SaltPeace$Moor", ci_3, by decide, (ft_in 271 (by decide +kernel) rfl), Or.inl rfl⟩
set_option maxRecDepth 20000 in
theorem cv_X11_110 : CV RX11 110 M_X11_personOf 3 := ⟨(ft_in 571 (by decide +kernel) rfl), (ft_in 573 (by decide +kernel) rfl), (ft_in 10 (by decide +kernel) rfl), (ft_in 66 (by decide +kernel) rfl), (ft_in 574 (by decide +kernel) rfl), ⟨by decide +kernel, by decide +kernel, by decide +kernel⟩, by decide⟩
set_option maxRecDepth 20000 in
theorem cv_X11_114 : CV RX11 114 M_X3_comes 2 := ⟨(ft_in 641 (by decide +kernel) rfl), (ft_in 642 (by decide +kernel) rfl), (ft_in 643 (by decide +kernel) rfl), (ft_in 72 (by decide +kernel) rfl), (ft_in 644 (by decide +kernel) rfl), ⟨by decide +kernel, by decide +kernel, by decide +kernel⟩, by decide⟩
set_option maxRecDepth 20000 in
theorem cv_X11_118 : CV RX11 118 M_X11_isPerson 1 := ⟨(ft_in 655 (by decide +kernel) rfl), (ft_in 657 (by decide +kernel) rfl), (ft_in 11 (by decide +kernel) rfl), (ft_in 66 (by decide +kernel) rfl), (ft_in 658 (by decide +kernel) rfl), ⟨by decide +kernel, by decide +kernel, by decide +kernel⟩, by decide⟩
set_option maxRecDepth 20000 in
theorem fl_X11_121_3 : FL RX11 121 3 2 := ⟨RX3, TX3, 16, tyX3, "SaltPeace$Moor", ci_3, by decide, (ft_in 260 (by decide +kernel) rfl), Or.inl rfl⟩
set_option maxRecDepth 20000 in
theorem fl_X11_125_0 : FL RX11 125 0 0 := ⟨RX0, TX0, 4, tyX0, "SaltPeace$Person", ci_0, by decide, (ft_in 207 (by decide +kernel) rfl), Or.inl rfl⟩
set_option maxRecDepth 20000 in
theorem fl_X11_125_1 : FL RX11 125 1 0 := ⟨RX1, TX1, 4, tyX1, "SaltPeace$Person", ci_1, by decide, (ft_in 207 (by decide +kernel) rfl), Or.inl rfl⟩
set_option maxRecDepth 20000 in
theorem fl_X11_125_2 : FL RX11 125 2 0 := ⟨RX2, TX2, 4, tyX2, "SaltPeace$Person", ci_2, by decide, (ft_in 207 (by decide +kernel) rfl), Or.inl rfl⟩
set_option maxRecDepth 20000 in
theorem fl_X11_125_4 : FL RX11 125 4 0 := ⟨RX4, TX4, 4, tyX4, "SaltPeace$Person", ci_4, by decide, (ft_in 207 (by decide +kernel) rfl), Or.inl rfl⟩
set_option maxRecDepth 20000 in
theorem fl_X11_125_5 : FL RX11 125 5 0 := ⟨RX5, TX5, 4, tyX5, "SaltPeace$Person", ci_5, by decide, (ft_in 207 (by decide +kernel) rfl), Or.inl rfl⟩
set_option maxRecDepth 20000 in
theorem fl_X11_125_8 : FL RX11 125 8 0 := ⟨RX8, TX8, 4, tyX8, "SaltPeace$Person", ci_8, by decide, (ft_in 207 (by decide +kernel) rfl), Or.inl rfl⟩
set_option maxRecDepth 20000 in
theorem fl_X11_125_9 : FL RX11 125 9 0 := ⟨RX9, TX9, 4, tyX9, "SaltPeace$Person", ci_9, by decide, (ft_in 207 (by decide +kernel) rfl), Or.inl rfl⟩
set_option maxRecDepth 20000 in
theorem fl_X11_128_0 : FL RX11 128 0 2 := ⟨RX0, TX0, 4, tyX0, "SaltPeace$Person", ci_0, by decide, (ft_in 221 (by decide +kernel) rfl), Or.inl rfl⟩
set_option maxRecDepth 20000 in
theorem fl_X11_128_1 : FL RX11 128 1 2 := ⟨RX1, TX1, 4, tyX1, "SaltPeace$Person", ci_1, by decide, (ft_in 221 (by decide +kernel) rfl), Or.inl rfl⟩
set_option maxRecDepth 20000 in
theorem fl_X11_128_2 : FL RX11 128 2 2 := ⟨RX2, TX2, 4, tyX2, "SaltPeace$Person", ci_2, by decide, (ft_in 221 (by decide +kernel) rfl), Or.inl rfl⟩
set_option maxRecDepth 20000 in
theorem fl_X11_128_4 : FL RX11 128 4 2 := ⟨RX4, TX4, 4, tyX4, "SaltPeace$Person", ci_4, by decide, (ft_in 221 (by decide +kernel) rfl), Or.inl rfl⟩
set_option maxRecDepth 20000 in
theorem fl_X11_128_5 : FL RX11 128 5 2 := ⟨RX5, TX5, 4, tyX5, "SaltPeace$Person", ci_5, by decide, (ft_in 221 (by decide +kernel) rfl), Or.inl rfl⟩
set_option maxRecDepth 20000 in
theorem fl_X11_128_8 : FL RX11 128 8 2 := ⟨RX8, TX8, 4, tyX8, "SaltPeace$Person", ci_8, by decide, (ft_in 221 (by decide +kernel) rfl), Or.inl rfl⟩
set_option maxRecDepth 20000 in
theorem fl_X11_128_9 : FL RX11 128 9 2 := ⟨RX9, TX9, 4, tyX9, "SaltPeace$Person", ci_9, by decide, (ft_in 221 (by decide +kernel) rfl), Or.inl rfl⟩
set_option maxRecDepth 20000 in
theorem fl_X11_131_3 : FL RX11 131 3 3 := ⟨RX3, TX3, 16, tyX3, "SaltPeace$Moor", ci_3, by decide, (ft_in 262 (by decide +kernel) rfl), Or.inl rfl⟩
set_option maxRecDepth 20000 in
theorem fl_X11_135_3 : FL RX11 135 3 4 := ⟨RX3, TX3, 16, tyX3, "SaltPeace$Moor", ci_3, by decide, (ft_in 264 (by decide +kernel) rfl), Or.inl rfl⟩
set_option maxRecDepth 20000 in
theorem fl_X11_138_3 : FL RX11 138 3 5 := ⟨RX3, TX3, 16, tyX3, "SaltPeace$Moor", ci_3, by decide, (ft_in 266 (by decide +kernel) rfl), Or.inl rfl⟩
set_option maxRecDepth 20000 in
theorem cv_X11_141 : CV RX11 141 M_X3_risesOf 1 := ⟨(ft_in 659 (by decide +kernel) rfl), (ft_in 660 (by decide +kernel) rfl), (ft_in 661 (by decide +kernel) rfl), (ft_in 72 (by decide +kernel) rfl), (ft_in 662 (by decide +kernel) rfl), ⟨by decide +kernel, by decide +kernel, by decide +kernel⟩, by decide⟩
set_option maxRecDepth 20000 in
theorem fl_X11_145_3 : FL RX11 145 3 10 := ⟨RX3, TX3, 16, tyX3, "SaltPeace$Moor", ci_3, by decide, (ft_in 275 (by decide +kernel) rfl), Or.inl rfl⟩
set_option maxRecDepth 20000 in
theorem cu_X11_148_4 : CU RX11 148 RX4 "SaltPeace$Person" ⟨"SaltPeace$Person", "mostLicked", "(II)I"⟩ M_X4_mostLicked 2 := ⟨(ft_in 707 (by decide +kernel) rfl), (ft_in 710 (by decide +kernel) rfl), (ft_in 708 (by decide +kernel) rfl), (ft_in 709 (by decide +kernel) rfl), (ft_in 708 (by decide +kernel) rfl), (ft_in 71 (by decide +kernel) rfl), (ft_in 728 (by decide +kernel) rfl), ⟨_, _, _, (ft_in 728 (by decide +kernel) rfl : Cond.code M_X4_mostLicked.1 M_X4_mostLicked.2.1 M_X4_mostLicked.2.2.1 M_X4_mostLicked.2.2.2 ∈ FT)⟩, ⟨by decide +kernel, by decide +kernel, by decide +kernel⟩, by decide⟩
set_option maxRecDepth 20000 in
theorem cu_X11_148_1 : CU RX11 148 RX1 "SaltPeace$Person" ⟨"SaltPeace$Person", "mostLicked", "(II)I"⟩ M_X1_mostLicked 2 := ⟨(ft_in 707 (by decide +kernel) rfl), (ft_in 710 (by decide +kernel) rfl), (ft_in 708 (by decide +kernel) rfl), (ft_in 714 (by decide +kernel) rfl), (ft_in 715 (by decide +kernel) rfl), (ft_in 81 (by decide +kernel) rfl), (ft_in 716 (by decide +kernel) rfl), ⟨_, _, _, (ft_in 728 (by decide +kernel) rfl : Cond.code M_X4_mostLicked.1 M_X4_mostLicked.2.1 M_X4_mostLicked.2.2.1 M_X4_mostLicked.2.2.2 ∈ FT)⟩, ⟨by decide +kernel, by decide +kernel, by decide +kernel⟩, by decide⟩
set_option maxRecDepth 20000 in
theorem cu_X11_148_0 : CU RX11 148 RX0 "SaltPeace$Person" ⟨"SaltPeace$Person", "mostLicked", "(II)I"⟩ M_X0_mostLicked 2 := ⟨(ft_in 707 (by decide +kernel) rfl), (ft_in 710 (by decide +kernel) rfl), (ft_in 708 (by decide +kernel) rfl), (ft_in 711 (by decide +kernel) rfl), (ft_in 712 (by decide +kernel) rfl), (ft_in 82 (by decide +kernel) rfl), (ft_in 713 (by decide +kernel) rfl), ⟨_, _, _, (ft_in 728 (by decide +kernel) rfl : Cond.code M_X4_mostLicked.1 M_X4_mostLicked.2.1 M_X4_mostLicked.2.2.1 M_X4_mostLicked.2.2.2 ∈ FT)⟩, ⟨by decide +kernel, by decide +kernel, by decide +kernel⟩, by decide⟩
set_option maxRecDepth 20000 in
theorem cu_X11_148_8 : CU RX11 148 RX8 "SaltPeace$Person" ⟨"SaltPeace$Person", "mostLicked", "(II)I"⟩ M_X8_mostLicked 2 := ⟨(ft_in 707 (by decide +kernel) rfl), (ft_in 710 (by decide +kernel) rfl), (ft_in 708 (by decide +kernel) rfl), (ft_in 724 (by decide +kernel) rfl), (ft_in 725 (by decide +kernel) rfl), (ft_in 83 (by decide +kernel) rfl), (ft_in 726 (by decide +kernel) rfl), ⟨_, _, _, (ft_in 728 (by decide +kernel) rfl : Cond.code M_X4_mostLicked.1 M_X4_mostLicked.2.1 M_X4_mostLicked.2.2.1 M_X4_mostLicked.2.2.2 ∈ FT)⟩, ⟨by decide +kernel, by decide +kernel, by decide +kernel⟩, by decide⟩
set_option maxRecDepth 20000 in
theorem cu_X11_148_2 : CU RX11 148 RX2 "SaltPeace$Person" ⟨"SaltPeace$Person", "mostLicked", "(II)I"⟩ M_X2_mostLicked 2 := ⟨(ft_in 707 (by decide +kernel) rfl), (ft_in 710 (by decide +kernel) rfl), (ft_in 708 (by decide +kernel) rfl), (ft_in 717 (by decide +kernel) rfl), (ft_in 718 (by decide +kernel) rfl), (ft_in 84 (by decide +kernel) rfl), (ft_in 719 (by decide +kernel) rfl), ⟨_, _, _, (ft_in 728 (by decide +kernel) rfl : Cond.code M_X4_mostLicked.1 M_X4_mostLicked.2.1 M_X4_mostLicked.2.2.1 M_X4_mostLicked.2.2.2 ∈ FT)⟩, ⟨by decide +kernel, by decide +kernel, by decide +kernel⟩, by decide⟩
set_option maxRecDepth 20000 in
theorem cu_X11_148_5 : CU RX11 148 RX5 "SaltPeace$Person" ⟨"SaltPeace$Person", "mostLicked", "(II)I"⟩ M_X5_mostLicked 2 := ⟨(ft_in 707 (by decide +kernel) rfl), (ft_in 710 (by decide +kernel) rfl), (ft_in 708 (by decide +kernel) rfl), (ft_in 720 (by decide +kernel) rfl), (ft_in 721 (by decide +kernel) rfl), (ft_in 85 (by decide +kernel) rfl), (ft_in 722 (by decide +kernel) rfl), ⟨_, _, _, (ft_in 728 (by decide +kernel) rfl : Cond.code M_X4_mostLicked.1 M_X4_mostLicked.2.1 M_X4_mostLicked.2.2.1 M_X4_mostLicked.2.2.2 ∈ FT)⟩, ⟨by decide +kernel, by decide +kernel, by decide +kernel⟩, by decide⟩
set_option maxRecDepth 20000 in
theorem cu_X11_148_9 : CU RX11 148 RX9 "SaltPeace$Person" ⟨"SaltPeace$Person", "mostLicked", "(II)I"⟩ M_X8_mostLicked 2 := ⟨(ft_in 707 (by decide +kernel) rfl), (ft_in 710 (by decide +kernel) rfl), (ft_in 708 (by decide +kernel) rfl), (ft_in 727 (by decide +kernel) rfl), (ft_in 725 (by decide +kernel) rfl), (ft_in 83 (by decide +kernel) rfl), (ft_in 726 (by decide +kernel) rfl), ⟨_, _, _, (ft_in 728 (by decide +kernel) rfl : Cond.code M_X4_mostLicked.1 M_X4_mostLicked.2.1 M_X4_mostLicked.2.2.1 M_X4_mostLicked.2.2.2 ∈ FT)⟩, ⟨by decide +kernel, by decide +kernel, by decide +kernel⟩, by decide⟩
set_option maxRecDepth 20000 in
theorem cv_X11_152 : CV RX11 152 M_X3_takesNow 1 := ⟨(ft_in 729 (by decide +kernel) rfl), (ft_in 730 (by decide +kernel) rfl), (ft_in 731 (by decide +kernel) rfl), (ft_in 72 (by decide +kernel) rfl), (ft_in 732 (by decide +kernel) rfl), ⟨by decide +kernel, by decide +kernel, by decide +kernel⟩, by decide⟩
set_option maxRecDepth 20000 in
theorem fl_X11_155_3 : FL RX11 155 3 6 := ⟨RX3, TX3, 16, tyX3, "SaltPeace$Moor", ci_3, by decide, (ft_in 268 (by decide +kernel) rfl), Or.inl rfl⟩
set_option maxRecDepth 20000 in
theorem fl_X11_158_3 : FL RX11 158 3 0 := ⟨RX3, TX3, 16, tyX3, "SaltPeace$Moor", ci_3, by decide, (ft_in 257 (by decide +kernel) rfl), Or.inl rfl⟩
set_option maxRecDepth 20000 in
theorem cv_X11_161 : CV RX11 161 M_X3_hasRoof 1 := ⟨(ft_in 751 (by decide +kernel) rfl), (ft_in 752 (by decide +kernel) rfl), (ft_in 753 (by decide +kernel) rfl), (ft_in 72 (by decide +kernel) rfl), (ft_in 754 (by decide +kernel) rfl), ⟨by decide +kernel, by decide +kernel, by decide +kernel⟩, by decide⟩
set_option maxRecDepth 20000 in
theorem fl_X11_164_3 : FL RX11 164 3 9 := ⟨RX3, TX3, 16, tyX3, "SaltPeace$Moor", ci_3, by decide, (ft_in 273 (by decide +kernel) rfl), Or.inl rfl⟩
set_option maxRecDepth 20000 in
theorem fp_X11_164_3 : FP RX11 164 3 9 false .int := ⟨RX3, TX3, 16, tyX3, "SaltPeace$Moor", ci_3, by decide, (ft_in 273 (by decide +kernel) rfl), Or.inl rfl, rfl, by decide +kernel, fun h => absurd h (by decide)⟩
set_option maxRecDepth 20000 in
theorem fl_X11_96_3 : FL RX11 96 3 12 := ⟨RX3, TX3, 16, tyX3, "SaltPeace$Moor", ci_3, by decide, (ft_in 279 (by decide +kernel) rfl), Or.inl rfl⟩
set_option maxRecDepth 20000 in
theorem fl_X11_167_10 : FL RX11 167 10 0 := ⟨RX10, TX10, 5, tyX10, "SaltPeace$Treaty", ci_10, by decide, (ft_in 181 (by decide +kernel) rfl), Or.inl rfl⟩
set_option maxRecDepth 20000 in
theorem fl_X11_170_10 : FL RX11 170 10 1 := ⟨RX10, TX10, 5, tyX10, "SaltPeace$Treaty", ci_10, by decide, (ft_in 184 (by decide +kernel) rfl), Or.inl rfl⟩
set_option maxRecDepth 20000 in
theorem fl_X11_173_3 : FL RX11 173 3 11 := ⟨RX3, TX3, 16, tyX3, "SaltPeace$Moor", ci_3, by decide, (ft_in 277 (by decide +kernel) rfl), Or.inl rfl⟩
set_option maxRecDepth 20000 in
theorem cv_X11_176 : CV RX11 176 M_X3_allSalt 0 := ⟨(ft_in 759 (by decide +kernel) rfl), (ft_in 760 (by decide +kernel) rfl), (ft_in 761 (by decide +kernel) rfl), (ft_in 72 (by decide +kernel) rfl), (ft_in 762 (by decide +kernel) rfl), ⟨by decide +kernel, by decide +kernel, by decide +kernel⟩, by decide⟩
set_option maxRecDepth 20000 in
theorem cv_X11_179 : CV RX11 179 M_X3_allGrudge 0 := ⟨(ft_in 763 (by decide +kernel) rfl), (ft_in 764 (by decide +kernel) rfl), (ft_in 765 (by decide +kernel) rfl), (ft_in 72 (by decide +kernel) rfl), (ft_in 766 (by decide +kernel) rfl), ⟨by decide +kernel, by decide +kernel, by decide +kernel⟩, by decide⟩
set_option maxRecDepth 20000 in
theorem cv_X11_182 : CV RX11 182 M_X3_goDays 1 := ⟨(ft_in 771 (by decide +kernel) rfl), (ft_in 772 (by decide +kernel) rfl), (ft_in 773 (by decide +kernel) rfl), (ft_in 72 (by decide +kernel) rfl), (ft_in 774 (by decide +kernel) rfl), ⟨by decide +kernel, by decide +kernel, by decide +kernel⟩, by decide⟩
set_option maxRecDepth 20000 in
theorem cv_X11_185 : CV RX11 185 M_X3_capEaten 0 := ⟨(ft_in 792 (by decide +kernel) rfl), (ft_in 793 (by decide +kernel) rfl), (ft_in 794 (by decide +kernel) rfl), (ft_in 72 (by decide +kernel) rfl), (ft_in 795 (by decide +kernel) rfl), ⟨by decide +kernel, by decide +kernel, by decide +kernel⟩, by decide⟩
set_option maxRecDepth 20000 in
theorem cv_X11_188 : CV RX11 188 M_X11_after 1 := ⟨(ft_in 800 (by decide +kernel) rfl), (ft_in 802 (by decide +kernel) rfl), (ft_in 15 (by decide +kernel) rfl), (ft_in 66 (by decide +kernel) rfl), (ft_in 803 (by decide +kernel) rfl), ⟨by decide +kernel, by decide +kernel, by decide +kernel⟩, by decide⟩
set_option maxRecDepth 20000 in
theorem cv_X11_192 : CV RX11 192 M_X11_asItIs 0 := ⟨(ft_in 813 (by decide +kernel) rfl), (ft_in 815 (by decide +kernel) rfl), (ft_in 16 (by decide +kernel) rfl), (ft_in 66 (by decide +kernel) rfl), (ft_in 816 (by decide +kernel) rfl), ⟨by decide +kernel, by decide +kernel, by decide +kernel⟩, by decide⟩
set_option maxRecDepth 20000 in
theorem ct_X11_196 : CT RX11 196 M_X11_daysLasting 1 := ⟨(ft_in 817 (by decide +kernel) rfl), (ft_in 818 (by decide +kernel) rfl), (ft_in 66 (by decide +kernel) rfl), (ft_in 819 (by decide +kernel) rfl), ⟨by decide +kernel, by decide +kernel, by decide +kernel⟩, by decide⟩
set_option maxRecDepth 20000 in
theorem cv_X11_200 : CV RX11 200 M_X3_thinnestSide 0 := ⟨(ft_in 825 (by decide +kernel) rfl), (ft_in 826 (by decide +kernel) rfl), (ft_in 827 (by decide +kernel) rfl), (ft_in 72 (by decide +kernel) rfl), (ft_in 828 (by decide +kernel) rfl), ⟨by decide +kernel, by decide +kernel, by decide +kernel⟩, by decide⟩
set_option maxRecDepth 20000 in
theorem cv_X11_203 : CV RX11 203 M_X11_asIfStill 1 := ⟨(ft_in 841 (by decide +kernel) rfl), (ft_in 843 (by decide +kernel) rfl), (ft_in 17 (by decide +kernel) rfl), (ft_in 66 (by decide +kernel) rfl), (ft_in 844 (by decide +kernel) rfl), ⟨by decide +kernel, by decide +kernel, by decide +kernel⟩, by decide⟩
set_option maxRecDepth 20000 in
theorem cv_X11_206 : CV RX11 206 M_X11_asIfAt 2 := ⟨(ft_in 849 (by decide +kernel) rfl), (ft_in 851 (by decide +kernel) rfl), (ft_in 18 (by decide +kernel) rfl), (ft_in 66 (by decide +kernel) rfl), (ft_in 852 (by decide +kernel) rfl), ⟨by decide +kernel, by decide +kernel, by decide +kernel⟩, by decide⟩
set_option maxRecDepth 20000 in
theorem ct_X11_212 : CT RX11 212 M_X11_partOf 3 := ⟨(ft_in 862 (by decide +kernel) rfl), (ft_in 863 (by decide +kernel) rfl), (ft_in 66 (by decide +kernel) rfl), (ft_in 864 (by decide +kernel) rfl), ⟨by decide +kernel, by decide +kernel, by decide +kernel⟩, by decide⟩
set_option maxRecDepth 20000 in
theorem cv_X11_216 : CV RX11 216 M_X3_goDay 0 := ⟨(ft_in 820 (by decide +kernel) rfl), (ft_in 776 (by decide +kernel) rfl), (ft_in 777 (by decide +kernel) rfl), (ft_in 72 (by decide +kernel) rfl), (ft_in 778 (by decide +kernel) rfl), ⟨by decide +kernel, by decide +kernel, by decide +kernel⟩, by decide⟩
set_option maxRecDepth 20000 in
theorem ct_X11_219 : CT RX11 219 M_J6_bitCount_0f7a4 1 := ⟨(ft_in 882 (by decide +kernel) rfl), (ft_in 883 (by decide +kernel) rfl), (ft_in 87 (by decide +kernel) rfl), (ft_in 884 (by decide +kernel) rfl), ⟨by decide +kernel, by decide +kernel, by decide +kernel⟩, by decide⟩
set_option maxRecDepth 20000 in
theorem cv_X11_224 : CV RX11 224 M_X3_takenFrom 1 := ⟨(ft_in 888 (by decide +kernel) rfl), (ft_in 889 (by decide +kernel) rfl), (ft_in 890 (by decide +kernel) rfl), (ft_in 72 (by decide +kernel) rfl), (ft_in 891 (by decide +kernel) rfl), ⟨by decide +kernel, by decide +kernel, by decide +kernel⟩, by decide⟩
set_option maxRecDepth 20000 in
theorem cv_X11_227 : CV RX11 227 M_X3_addSalt 2 := ⟨(ft_in 896 (by decide +kernel) rfl), (ft_in 897 (by decide +kernel) rfl), (ft_in 898 (by decide +kernel) rfl), (ft_in 72 (by decide +kernel) rfl), (ft_in 899 (by decide +kernel) rfl), ⟨by decide +kernel, by decide +kernel, by decide +kernel⟩, by decide⟩
set_option maxRecDepth 20000 in
theorem fl_X11_20_11 : FL RX11 20 11 1 := ⟨RX11, TX11, 10, tyX11, "SaltPeace", ci_11, by decide, (ft_in 320 (by decide +kernel) rfl), Or.inl rfl⟩
set_option maxRecDepth 20000 in
theorem cv_X11_231 : CV RX11 231 M_X11_isAllSeen 1 := ⟨(ft_in 909 (by decide +kernel) rfl), (ft_in 911 (by decide +kernel) rfl), (ft_in 19 (by decide +kernel) rfl), (ft_in 66 (by decide +kernel) rfl), (ft_in 912 (by decide +kernel) rfl), ⟨by decide +kernel, by decide +kernel, by decide +kernel⟩, by decide⟩
set_option maxRecDepth 20000 in
theorem fl_X11_235_3 : FL RX11 235 3 15 := ⟨RX3, TX3, 16, tyX3, "SaltPeace$Moor", ci_3, by decide, (ft_in 285 (by decide +kernel) rfl), Or.inl rfl⟩
set_option maxRecDepth 20000 in
theorem fl_X11_23_11 : FL RX11 23 11 2 := ⟨RX11, TX11, 10, tyX11, "SaltPeace", ci_11, by decide, (ft_in 321 (by decide +kernel) rfl), Or.inl rfl⟩
set_option maxRecDepth 20000 in
theorem cv_X11_238 : CV RX11 238 M_X11_isPlanned 2 := ⟨(ft_in 943 (by decide +kernel) rfl), (ft_in 945 (by decide +kernel) rfl), (ft_in 21 (by decide +kernel) rfl), (ft_in 66 (by decide +kernel) rfl), (ft_in 946 (by decide +kernel) rfl), ⟨by decide +kernel, by decide +kernel, by decide +kernel⟩, by decide⟩
set_option maxRecDepth 20000 in
theorem cv_X11_242 : CV RX11 242 M_X7_kept 0 := ⟨(ft_in 917 (by decide +kernel) rfl), (ft_in 378 (by decide +kernel) rfl), (ft_in 379 (by decide +kernel) rfl), (ft_in 67 (by decide +kernel) rfl), (ft_in 380 (by decide +kernel) rfl), ⟨by decide +kernel, by decide +kernel, by decide +kernel⟩, by decide⟩
set_option maxRecDepth 20000 in
theorem fl_X11_244_7 : FL RX11 244 7 0 := ⟨RX7, TX7, 8, tyX7, "SaltPeace$Rows", ci_7, by decide, (ft_in 107 (by decide +kernel) rfl), Or.inl rfl⟩
set_option maxRecDepth 20000 in
theorem fl_X11_247_7 : FL RX11 247 7 1 := ⟨RX7, TX7, 8, tyX7, "SaltPeace$Rows", ci_7, by decide, (ft_in 109 (by decide +kernel) rfl), Or.inl rfl⟩
set_option maxRecDepth 20000 in
theorem ct_X11_250 : CT RX11 250 M_X11_doRow 3 := ⟨(ft_in 951 (by decide +kernel) rfl), (ft_in 952 (by decide +kernel) rfl), (ft_in 66 (by decide +kernel) rfl), (ft_in 953 (by decide +kernel) rfl), ⟨by decide +kernel, by decide +kernel, by decide +kernel⟩, by decide⟩
set_option maxRecDepth 20000 in
theorem fl_X11_26_11 : FL RX11 26 11 3 := ⟨RX11, TX11, 10, tyX11, "SaltPeace", ci_11, by decide, (ft_in 322 (by decide +kernel) rfl), Or.inl rfl⟩
set_option maxRecDepth 20000 in
theorem cv_X11_254 : CV RX11 254 M_X3_saltAt 1 := ⟨(ft_in 918 (by decide +kernel) rfl), (ft_in 675 (by decide +kernel) rfl), (ft_in 676 (by decide +kernel) rfl), (ft_in 72 (by decide +kernel) rfl), (ft_in 677 (by decide +kernel) rfl), ⟨by decide +kernel, by decide +kernel, by decide +kernel⟩, by decide⟩
set_option maxRecDepth 20000 in
theorem cu_X11_257_4 : CU RX11 257 RX4 "SaltPeace$Person" ⟨"SaltPeace$Person", "wrongs", "(I)I"⟩ M_X4_wrongs 1 := ⟨(ft_in 971 (by decide +kernel) rfl), (ft_in 974 (by decide +kernel) rfl), (ft_in 972 (by decide +kernel) rfl), (ft_in 973 (by decide +kernel) rfl), (ft_in 972 (by decide +kernel) rfl), (ft_in 71 (by decide +kernel) rfl), (ft_in 991 (by decide +kernel) rfl), ⟨_, _, _, (ft_in 991 (by decide +kernel) rfl : Cond.code M_X4_wrongs.1 M_X4_wrongs.2.1 M_X4_wrongs.2.2.1 M_X4_wrongs.2.2.2 ∈ FT)⟩, ⟨by decide +kernel, by decide +kernel, by decide +kernel⟩, by decide⟩
set_option maxRecDepth 20000 in
theorem cu_X11_257_1 : CU RX11 257 RX1 "SaltPeace$Person" ⟨"SaltPeace$Person", "wrongs", "(I)I"⟩ M_X1_wrongs 1 := ⟨(ft_in 971 (by decide +kernel) rfl), (ft_in 974 (by decide +kernel) rfl), (ft_in 972 (by decide +kernel) rfl), (ft_in 976 (by decide +kernel) rfl), (ft_in 977 (by decide +kernel) rfl), (ft_in 81 (by decide +kernel) rfl), (ft_in 978 (by decide +kernel) rfl), ⟨_, _, _, (ft_in 991 (by decide +kernel) rfl : Cond.code M_X4_wrongs.1 M_X4_wrongs.2.1 M_X4_wrongs.2.2.1 M_X4_wrongs.2.2.2 ∈ FT)⟩, ⟨by decide +kernel, by decide +kernel, by decide +kernel⟩, by decide⟩
set_option maxRecDepth 20000 in
theorem cu_X11_257_0 : CU RX11 257 RX0 "SaltPeace$Person" ⟨"SaltPeace$Person", "wrongs", "(I)I"⟩ M_X4_wrongs 1 := ⟨(ft_in 971 (by decide +kernel) rfl), (ft_in 974 (by decide +kernel) rfl), (ft_in 972 (by decide +kernel) rfl), (ft_in 975 (by decide +kernel) rfl), (ft_in 972 (by decide +kernel) rfl), (ft_in 71 (by decide +kernel) rfl), (ft_in 991 (by decide +kernel) rfl), ⟨_, _, _, (ft_in 991 (by decide +kernel) rfl : Cond.code M_X4_wrongs.1 M_X4_wrongs.2.1 M_X4_wrongs.2.2.1 M_X4_wrongs.2.2.2 ∈ FT)⟩, ⟨by decide +kernel, by decide +kernel, by decide +kernel⟩, by decide⟩
set_option maxRecDepth 20000 in
theorem cu_X11_257_8 : CU RX11 257 RX8 "SaltPeace$Person" ⟨"SaltPeace$Person", "wrongs", "(I)I"⟩ M_X4_wrongs 1 := ⟨(ft_in 971 (by decide +kernel) rfl), (ft_in 974 (by decide +kernel) rfl), (ft_in 972 (by decide +kernel) rfl), (ft_in 989 (by decide +kernel) rfl), (ft_in 972 (by decide +kernel) rfl), (ft_in 71 (by decide +kernel) rfl), (ft_in 991 (by decide +kernel) rfl), ⟨_, _, _, (ft_in 991 (by decide +kernel) rfl : Cond.code M_X4_wrongs.1 M_X4_wrongs.2.1 M_X4_wrongs.2.2.1 M_X4_wrongs.2.2.2 ∈ FT)⟩, ⟨by decide +kernel, by decide +kernel, by decide +kernel⟩, by decide⟩
set_option maxRecDepth 20000 in
theorem cu_X11_257_2 : CU RX11 257 RX2 "SaltPeace$Person" ⟨"SaltPeace$Person", "wrongs", "(I)I"⟩ M_X1_wrongs 1 := ⟨(ft_in 971 (by decide +kernel) rfl), (ft_in 974 (by decide +kernel) rfl), (ft_in 972 (by decide +kernel) rfl), (ft_in 981 (by decide +kernel) rfl), (ft_in 977 (by decide +kernel) rfl), (ft_in 81 (by decide +kernel) rfl), (ft_in 978 (by decide +kernel) rfl), ⟨_, _, _, (ft_in 991 (by decide +kernel) rfl : Cond.code M_X4_wrongs.1 M_X4_wrongs.2.1 M_X4_wrongs.2.2.1 M_X4_wrongs.2.2.2 ∈ FT)⟩, ⟨by decide +kernel, by decide +kernel, by decide +kernel⟩, by decide⟩
set_option maxRecDepth 20000 in
theorem cu_X11_257_5 : CU RX11 257 RX5 "SaltPeace$Person" ⟨"SaltPeace$Person", "wrongs", "(I)I"⟩ M_X5_wrongs 1 := ⟨(ft_in 971 (by decide +kernel) rfl), (ft_in 974 (by decide +kernel) rfl), (ft_in 972 (by decide +kernel) rfl), (ft_in 982 (by decide +kernel) rfl), (ft_in 983 (by decide +kernel) rfl), (ft_in 85 (by decide +kernel) rfl), (ft_in 984 (by decide +kernel) rfl), ⟨_, _, _, (ft_in 991 (by decide +kernel) rfl : Cond.code M_X4_wrongs.1 M_X4_wrongs.2.1 M_X4_wrongs.2.2.1 M_X4_wrongs.2.2.2 ∈ FT)⟩, ⟨by decide +kernel, by decide +kernel, by decide +kernel⟩, by decide⟩
set_option maxRecDepth 20000 in
theorem cu_X11_257_9 : CU RX11 257 RX9 "SaltPeace$Person" ⟨"SaltPeace$Person", "wrongs", "(I)I"⟩ M_X4_wrongs 1 := ⟨(ft_in 971 (by decide +kernel) rfl), (ft_in 974 (by decide +kernel) rfl), (ft_in 972 (by decide +kernel) rfl), (ft_in 990 (by decide +kernel) rfl), (ft_in 972 (by decide +kernel) rfl), (ft_in 71 (by decide +kernel) rfl), (ft_in 991 (by decide +kernel) rfl), ⟨_, _, _, (ft_in 991 (by decide +kernel) rfl : Cond.code M_X4_wrongs.1 M_X4_wrongs.2.1 M_X4_wrongs.2.2.1 M_X4_wrongs.2.2.2 ∈ FT)⟩, ⟨by decide +kernel, by decide +kernel, by decide +kernel⟩, by decide⟩
set_option maxRecDepth 20000 in
theorem cu_X11_260_4 : CU RX11 260 RX4 "SaltPeace$Person" ⟨"SaltPeace$Person", "licks", "(I)I"⟩ M_X4_licks 1 := ⟨(ft_in 993 (by decide +kernel) rfl), (ft_in 996 (by decide +kernel) rfl), (ft_in 994 (by decide +kernel) rfl), (ft_in 995 (by decide +kernel) rfl), (ft_in 994 (by decide +kernel) rfl), (ft_in 71 (by decide +kernel) rfl), (ft_in 1013 (by decide +kernel) rfl), ⟨_, _, _, (ft_in 1013 (by decide +kernel) rfl : Cond.code M_X4_licks.1 M_X4_licks.2.1 M_X4_licks.2.2.1 M_X4_licks.2.2.2 ∈ FT)⟩, ⟨by decide +kernel, by decide +kernel, by decide +kernel⟩, by decide⟩
set_option maxRecDepth 20000 in
theorem cu_X11_260_1 : CU RX11 260 RX1 "SaltPeace$Person" ⟨"SaltPeace$Person", "licks", "(I)I"⟩ M_X4_licks 1 := ⟨(ft_in 993 (by decide +kernel) rfl), (ft_in 996 (by decide +kernel) rfl), (ft_in 994 (by decide +kernel) rfl), (ft_in 1002 (by decide +kernel) rfl), (ft_in 994 (by decide +kernel) rfl), (ft_in 71 (by decide +kernel) rfl), (ft_in 1013 (by decide +kernel) rfl), ⟨_, _, _, (ft_in 1013 (by decide +kernel) rfl : Cond.code M_X4_licks.1 M_X4_licks.2.1 M_X4_licks.2.2.1 M_X4_licks.2.2.2 ∈ FT)⟩, ⟨by decide +kernel, by decide +kernel, by decide +kernel⟩, by decide⟩
set_option maxRecDepth 20000 in
theorem cu_X11_260_0 : CU RX11 260 RX0 "SaltPeace$Person" ⟨"SaltPeace$Person", "licks", "(I)I"⟩ M_X0_licks 1 := ⟨(ft_in 993 (by decide +kernel) rfl), (ft_in 996 (by decide +kernel) rfl), (ft_in 994 (by decide +kernel) rfl), (ft_in 997 (by decide +kernel) rfl), (ft_in 998 (by decide +kernel) rfl), (ft_in 82 (by decide +kernel) rfl), (ft_in 999 (by decide +kernel) rfl), ⟨_, _, _, (ft_in 1013 (by decide +kernel) rfl : Cond.code M_X4_licks.1 M_X4_licks.2.1 M_X4_licks.2.2.1 M_X4_licks.2.2.2 ∈ FT)⟩, ⟨by decide +kernel, by decide +kernel, by decide +kernel⟩, by decide⟩
set_option maxRecDepth 20000 in
theorem cu_X11_260_8 : CU RX11 260 RX8 "SaltPeace$Person" ⟨"SaltPeace$Person", "licks", "(I)I"⟩ M_X4_licks 1 := ⟨(ft_in 993 (by decide +kernel) rfl), (ft_in 996 (by decide +kernel) rfl), (ft_in 994 (by decide +kernel) rfl), (ft_in 1005 (by decide +kernel) rfl), (ft_in 994 (by decide +kernel) rfl), (ft_in 71 (by decide +kernel) rfl), (ft_in 1013 (by decide +kernel) rfl), ⟨_, _, _, (ft_in 1013 (by decide +kernel) rfl : Cond.code M_X4_licks.1 M_X4_licks.2.1 M_X4_licks.2.2.1 M_X4_licks.2.2.2 ∈ FT)⟩, ⟨by decide +kernel, by decide +kernel, by decide +kernel⟩, by decide⟩
set_option maxRecDepth 20000 in
theorem cu_X11_260_2 : CU RX11 260 RX2 "SaltPeace$Person" ⟨"SaltPeace$Person", "licks", "(I)I"⟩ M_X4_licks 1 := ⟨(ft_in 993 (by decide +kernel) rfl), (ft_in 996 (by decide +kernel) rfl), (ft_in 994 (by decide +kernel) rfl), (ft_in 1003 (by decide +kernel) rfl), (ft_in 994 (by decide +kernel) rfl), (ft_in 71 (by decide +kernel) rfl), (ft_in 1013 (by decide +kernel) rfl), ⟨_, _, _, (ft_in 1013 (by decide +kernel) rfl : Cond.code M_X4_licks.1 M_X4_licks.2.1 M_X4_licks.2.2.1 M_X4_licks.2.2.2 ∈ FT)⟩, ⟨by decide +kernel, by decide +kernel, by decide +kernel⟩, by decide⟩
set_option maxRecDepth 20000 in
theorem cu_X11_260_5 : CU RX11 260 RX5 "SaltPeace$Person" ⟨"SaltPeace$Person", "licks", "(I)I"⟩ M_X0_licks 1 := ⟨(ft_in 993 (by decide +kernel) rfl), (ft_in 996 (by decide +kernel) rfl), (ft_in 994 (by decide +kernel) rfl), (ft_in 1004 (by decide +kernel) rfl), (ft_in 998 (by decide +kernel) rfl), (ft_in 82 (by decide +kernel) rfl), (ft_in 999 (by decide +kernel) rfl), ⟨_, _, _, (ft_in 1013 (by decide +kernel) rfl : Cond.code M_X4_licks.1 M_X4_licks.2.1 M_X4_licks.2.2.1 M_X4_licks.2.2.2 ∈ FT)⟩, ⟨by decide +kernel, by decide +kernel, by decide +kernel⟩, by decide⟩
set_option maxRecDepth 20000 in
theorem cu_X11_260_9 : CU RX11 260 RX9 "SaltPeace$Person" ⟨"SaltPeace$Person", "licks", "(I)I"⟩ M_X9_licks 1 := ⟨(ft_in 993 (by decide +kernel) rfl), (ft_in 996 (by decide +kernel) rfl), (ft_in 994 (by decide +kernel) rfl), (ft_in 1006 (by decide +kernel) rfl), (ft_in 1007 (by decide +kernel) rfl), (ft_in 86 (by decide +kernel) rfl), (ft_in 1008 (by decide +kernel) rfl), ⟨_, _, _, (ft_in 1013 (by decide +kernel) rfl : Cond.code M_X4_licks.1 M_X4_licks.2.1 M_X4_licks.2.2.1 M_X4_licks.2.2.2 ∈ FT)⟩, ⟨by decide +kernel, by decide +kernel, by decide +kernel⟩, by decide⟩
set_option maxRecDepth 20000 in
theorem cu_X11_263_4 : CU RX11 263 RX4 "SaltPeace$Person" ⟨"SaltPeace$Person", "tells", "(I)I"⟩ M_X4_tells 1 := ⟨(ft_in 1015 (by decide +kernel) rfl), (ft_in 1018 (by decide +kernel) rfl), (ft_in 1016 (by decide +kernel) rfl), (ft_in 1017 (by decide +kernel) rfl), (ft_in 1016 (by decide +kernel) rfl), (ft_in 71 (by decide +kernel) rfl), (ft_in 1039 (by decide +kernel) rfl), ⟨_, _, _, (ft_in 1039 (by decide +kernel) rfl : Cond.code M_X4_tells.1 M_X4_tells.2.1 M_X4_tells.2.2.1 M_X4_tells.2.2.2 ∈ FT)⟩, ⟨by decide +kernel, by decide +kernel, by decide +kernel⟩, by decide⟩
set_option maxRecDepth 20000 in
theorem cu_X11_263_1 : CU RX11 263 RX1 "SaltPeace$Person" ⟨"SaltPeace$Person", "tells", "(I)I"⟩ M_X4_tells 1 := ⟨(ft_in 1015 (by decide +kernel) rfl), (ft_in 1018 (by decide +kernel) rfl), (ft_in 1016 (by decide +kernel) rfl), (ft_in 1020 (by decide +kernel) rfl), (ft_in 1016 (by decide +kernel) rfl), (ft_in 71 (by decide +kernel) rfl), (ft_in 1039 (by decide +kernel) rfl), ⟨_, _, _, (ft_in 1039 (by decide +kernel) rfl : Cond.code M_X4_tells.1 M_X4_tells.2.1 M_X4_tells.2.2.1 M_X4_tells.2.2.2 ∈ FT)⟩, ⟨by decide +kernel, by decide +kernel, by decide +kernel⟩, by decide⟩
set_option maxRecDepth 20000 in
theorem cu_X11_263_0 : CU RX11 263 RX0 "SaltPeace$Person" ⟨"SaltPeace$Person", "tells", "(I)I"⟩ M_X4_tells 1 := ⟨(ft_in 1015 (by decide +kernel) rfl), (ft_in 1018 (by decide +kernel) rfl), (ft_in 1016 (by decide +kernel) rfl), (ft_in 1019 (by decide +kernel) rfl), (ft_in 1016 (by decide +kernel) rfl), (ft_in 71 (by decide +kernel) rfl), (ft_in 1039 (by decide +kernel) rfl), ⟨_, _, _, (ft_in 1039 (by decide +kernel) rfl : Cond.code M_X4_tells.1 M_X4_tells.2.1 M_X4_tells.2.2.1 M_X4_tells.2.2.2 ∈ FT)⟩, ⟨by decide +kernel, by decide +kernel, by decide +kernel⟩, by decide⟩
set_option maxRecDepth 20000 in
theorem cu_X11_263_8 : CU RX11 263 RX8 "SaltPeace$Person" ⟨"SaltPeace$Person", "tells", "(I)I"⟩ M_X8_tells 1 := ⟨(ft_in 1015 (by decide +kernel) rfl), (ft_in 1018 (by decide +kernel) rfl), (ft_in 1016 (by decide +kernel) rfl), (ft_in 1033 (by decide +kernel) rfl), (ft_in 1034 (by decide +kernel) rfl), (ft_in 83 (by decide +kernel) rfl), (ft_in 1035 (by decide +kernel) rfl), ⟨_, _, _, (ft_in 1039 (by decide +kernel) rfl : Cond.code M_X4_tells.1 M_X4_tells.2.1 M_X4_tells.2.2.1 M_X4_tells.2.2.2 ∈ FT)⟩, ⟨by decide +kernel, by decide +kernel, by decide +kernel⟩, by decide⟩
set_option maxRecDepth 20000 in
theorem cu_X11_263_2 : CU RX11 263 RX2 "SaltPeace$Person" ⟨"SaltPeace$Person", "tells", "(I)I"⟩ M_X2_tells 1 := ⟨(ft_in 1015 (by decide +kernel) rfl), (ft_in 1018 (by decide +kernel) rfl), (ft_in 1016 (by decide +kernel) rfl), (ft_in 1021 (by decide +kernel) rfl), (ft_in 1022 (by decide +kernel) rfl), (ft_in 84 (by decide +kernel) rfl), (ft_in 1023 (by decide +kernel) rfl), ⟨_, _, _, (ft_in 1039 (by decide +kernel) rfl : Cond.code M_X4_tells.1 M_X4_tells.2.1 M_X4_tells.2.2.1 M_X4_tells.2.2.2 ∈ FT)⟩, ⟨by decide +kernel, by decide +kernel, by decide +kernel⟩, by decide⟩
set_option maxRecDepth 20000 in
theorem cu_X11_263_5 : CU RX11 263 RX5 "SaltPeace$Person" ⟨"SaltPeace$Person", "tells", "(I)I"⟩ M_X4_tells 1 := ⟨(ft_in 1015 (by decide +kernel) rfl), (ft_in 1018 (by decide +kernel) rfl), (ft_in 1016 (by decide +kernel) rfl), (ft_in 1032 (by decide +kernel) rfl), (ft_in 1016 (by decide +kernel) rfl), (ft_in 71 (by decide +kernel) rfl), (ft_in 1039 (by decide +kernel) rfl), ⟨_, _, _, (ft_in 1039 (by decide +kernel) rfl : Cond.code M_X4_tells.1 M_X4_tells.2.1 M_X4_tells.2.2.1 M_X4_tells.2.2.2 ∈ FT)⟩, ⟨by decide +kernel, by decide +kernel, by decide +kernel⟩, by decide⟩
set_option maxRecDepth 20000 in
theorem cu_X11_263_9 : CU RX11 263 RX9 "SaltPeace$Person" ⟨"SaltPeace$Person", "tells", "(I)I"⟩ M_X8_tells 1 := ⟨(ft_in 1015 (by decide +kernel) rfl), (ft_in 1018 (by decide +kernel) rfl), (ft_in 1016 (by decide +kernel) rfl), (ft_in 1038 (by decide +kernel) rfl), (ft_in 1034 (by decide +kernel) rfl), (ft_in 83 (by decide +kernel) rfl), (ft_in 1035 (by decide +kernel) rfl), ⟨_, _, _, (ft_in 1039 (by decide +kernel) rfl : Cond.code M_X4_tells.1 M_X4_tells.2.1 M_X4_tells.2.2.1 M_X4_tells.2.2.2 ∈ FT)⟩, ⟨by decide +kernel, by decide +kernel, by decide +kernel⟩, by decide⟩
set_option maxRecDepth 20000 in
theorem ct_X11_266 : CT RX11 266 M_X11_isOfKind 2 := ⟨(ft_in 1049 (by decide +kernel) rfl), (ft_in 1050 (by decide +kernel) rfl), (ft_in 66 (by decide +kernel) rfl), (ft_in 1051 (by decide +kernel) rfl), ⟨by decide +kernel, by decide +kernel, by decide +kernel⟩, by decide⟩
set_option maxRecDepth 20000 in
theorem fl_X11_62_11 : FL RX11 62 11 7 := ⟨RX11, TX11, 10, tyX11, "SaltPeace", ci_11, by decide, (ft_in 326 (by decide +kernel) rfl), Or.inl rfl⟩
set_option maxRecDepth 20000 in
theorem cv_X11_270 : CV RX11 270 M_X3_copyFrom 1 := ⟨(ft_in 804 (by decide +kernel) rfl), (ft_in 805 (by decide +kernel) rfl), (ft_in 806 (by decide +kernel) rfl), (ft_in 72 (by decide +kernel) rfl), (ft_in 807 (by decide +kernel) rfl), ⟨by decide +kernel, by decide +kernel, by decide +kernel⟩, by decide⟩
set_option maxRecDepth 20000 in
theorem cv_X11_274 : CV RX11 274 M_X7_keep 0 := ⟨(ft_in 1056 (by decide +kernel) rfl), (ft_in 1057 (by decide +kernel) rfl), (ft_in 1058 (by decide +kernel) rfl), (ft_in 67 (by decide +kernel) rfl), (ft_in 1059 (by decide +kernel) rfl), ⟨by decide +kernel, by decide +kernel, by decide +kernel⟩, by decide⟩
set_option maxRecDepth 20000 in
theorem fl_X11_39_11 : FL RX11 39 11 9 := ⟨RX11, TX11, 10, tyX11, "SaltPeace", ci_11, by decide, (ft_in 328 (by decide +kernel) rfl), Or.inl rfl⟩
set_option maxRecDepth 20000 in
theorem cv_X11_277 : CV RX11 277 M_X7_comeBack 0 := ⟨(ft_in 1065 (by decide +kernel) rfl), (ft_in 1066 (by decide +kernel) rfl), (ft_in 1067 (by decide +kernel) rfl), (ft_in 67 (by decide +kernel) rfl), (ft_in 1068 (by decide +kernel) rfl), ⟨by decide +kernel, by decide +kernel, by decide +kernel⟩, by decide⟩
set_option maxRecDepth 20000 in
theorem fl_X11_280_7 : FL RX11 280 7 3 := ⟨RX7, TX7, 8, tyX7, "SaltPeace$Rows", ci_7, by decide, (ft_in 113 (by decide +kernel) rfl), Or.inl rfl⟩
set_option maxRecDepth 20000 in
theorem fl_X11_65_11 : FL RX11 65 11 8 := ⟨RX11, TX11, 10, tyX11, "SaltPeace", ci_11, by decide, (ft_in 327 (by decide +kernel) rfl), Or.inl rfl⟩
set_option maxRecDepth 20000 in
theorem fp_X11_283_3 : FP RX11 283 3 14 false .int := ⟨RX3, TX3, 16, tyX3, "SaltPeace$Moor", ci_3, by decide, (ft_in 283 (by decide +kernel) rfl), Or.inl rfl, rfl, by decide +kernel, fun h => absurd h (by decide)⟩
set_option maxRecDepth 20000 in
theorem cv_X11_286 : CV RX11 286 M_X11_isSeenAfter 2 := ⟨(ft_in 913 (by decide +kernel) rfl), (ft_in 915 (by decide +kernel) rfl), (ft_in 20 (by decide +kernel) rfl), (ft_in 66 (by decide +kernel) rfl), (ft_in 916 (by decide +kernel) rfl), ⟨by decide +kernel, by decide +kernel, by decide +kernel⟩, by decide⟩
set_option maxRecDepth 20000 in
theorem fl_X11_290_7 : FL RX11 290 7 2 := ⟨RX7, TX7, 8, tyX7, "SaltPeace$Rows", ci_7, by decide, (ft_in 111 (by decide +kernel) rfl), Or.inl rfl⟩
set_option maxRecDepth 20000 in
theorem cv_X11_293 : CV RX11 293 M_X3_forgets 1 := ⟨(ft_in 954 (by decide +kernel) rfl), (ft_in 955 (by decide +kernel) rfl), (ft_in 956 (by decide +kernel) rfl), (ft_in 72 (by decide +kernel) rfl), (ft_in 957 (by decide +kernel) rfl), ⟨by decide +kernel, by decide +kernel, by decide +kernel⟩, by decide⟩
set_option maxRecDepth 20000 in
theorem ct_X11_296 : CT RX11 296 M_J9_max_7cf53 2 := ⟨(ft_in 865 (by decide +kernel) rfl), (ft_in 103 (by decide +kernel) rfl), (ft_in 68 (by decide +kernel) rfl), (ft_in 104 (by decide +kernel) rfl), ⟨by decide +kernel, by decide +kernel, by decide +kernel⟩, by decide⟩
set_option maxRecDepth 20000 in
theorem nw_X11_301 : NW RX11 301 1 4 [.int 0, .int 0, .int 0, .null] := ⟨RX1, TX1, tyX1, ci_1, (ft_in 575 (by decide +kernel) rfl), (ft_in 576 (by decide +kernel) rfl), (ft_in 81 (by decide +kernel) rfl), by decide +kernel⟩
set_option maxRecDepth 20000 in
theorem co_X11_303 : CO RX11 303 M_X1_init 4 := ⟨(ft_in 577 (by decide +kernel) rfl), (ft_in 578 (by decide +kernel) rfl), (ft_in 81 (by decide +kernel) rfl), (ft_in 579 (by decide +kernel) rfl), rfl, ⟨by decide +kernel, by decide +kernel, by decide +kernel⟩, by decide, rfl⟩
set_option maxRecDepth 20000 in
theorem nw_X11_304 : NW RX11 304 0 4 [.int 0, .int 0, .int 0, .null] := ⟨RX0, TX0, tyX0, ci_0, (ft_in 586 (by decide +kernel) rfl), (ft_in 587 (by decide +kernel) rfl), (ft_in 82 (by decide +kernel) rfl), by decide +kernel⟩
set_option maxRecDepth 20000 in
theorem co_X11_306 : CO RX11 306 M_X0_init 4 := ⟨(ft_in 588 (by decide +kernel) rfl), (ft_in 589 (by decide +kernel) rfl), (ft_in 82 (by decide +kernel) rfl), (ft_in 590 (by decide +kernel) rfl), rfl, ⟨by decide +kernel, by decide +kernel, by decide +kernel⟩, by decide, rfl⟩
set_option maxRecDepth 20000 in
theorem nw_X11_307 : NW RX11 307 8 4 [.int 0, .int 0, .int 0, .null] := ⟨RX8, TX8, tyX8, ci_8, (ft_in 597 (by decide +kernel) rfl), (ft_in 598 (by decide +kernel) rfl), (ft_in 83 (by decide +kernel) rfl), by decide +kernel⟩
set_option maxRecDepth 20000 in
theorem co_X11_309 : CO RX11 309 M_X8_init 4 := ⟨(ft_in 599 (by decide +kernel) rfl), (ft_in 600 (by decide +kernel) rfl), (ft_in 83 (by decide +kernel) rfl), (ft_in 601 (by decide +kernel) rfl), rfl, ⟨by decide +kernel, by decide +kernel, by decide +kernel⟩, by decide, rfl⟩
set_option maxRecDepth 20000 in
theorem nw_X11_310 : NW RX11 310 2 4 [.int 0, .int 0, .int 0, .null] := ⟨RX2, TX2, tyX2, ci_2, (ft_in 608 (by decide +kernel) rfl), (ft_in 609 (by decide +kernel) rfl), (ft_in 84 (by decide +kernel) rfl), by decide +kernel⟩
set_option maxRecDepth 20000 in
theorem co_X11_312 : CO RX11 312 M_X2_init 4 := ⟨(ft_in 610 (by decide +kernel) rfl), (ft_in 611 (by decide +kernel) rfl), (ft_in 84 (by decide +kernel) rfl), (ft_in 612 (by decide +kernel) rfl), rfl, ⟨by decide +kernel, by decide +kernel, by decide +kernel⟩, by decide, rfl⟩
set_option maxRecDepth 20000 in
theorem nw_X11_313 : NW RX11 313 5 4 [.int 0, .int 0, .int 0, .null] := ⟨RX5, TX5, tyX5, ci_5, (ft_in 619 (by decide +kernel) rfl), (ft_in 620 (by decide +kernel) rfl), (ft_in 85 (by decide +kernel) rfl), by decide +kernel⟩
set_option maxRecDepth 20000 in
theorem co_X11_315 : CO RX11 315 M_X5_init 4 := ⟨(ft_in 621 (by decide +kernel) rfl), (ft_in 622 (by decide +kernel) rfl), (ft_in 85 (by decide +kernel) rfl), (ft_in 623 (by decide +kernel) rfl), rfl, ⟨by decide +kernel, by decide +kernel, by decide +kernel⟩, by decide, rfl⟩
set_option maxRecDepth 20000 in
theorem nw_X11_316 : NW RX11 316 9 4 [.int 0, .int 0, .int 0, .null] := ⟨RX9, TX9, tyX9, ci_9, (ft_in 630 (by decide +kernel) rfl), (ft_in 631 (by decide +kernel) rfl), (ft_in 86 (by decide +kernel) rfl), by decide +kernel⟩
set_option maxRecDepth 20000 in
theorem co_X11_318 : CO RX11 318 M_X9_init 4 := ⟨(ft_in 632 (by decide +kernel) rfl), (ft_in 633 (by decide +kernel) rfl), (ft_in 86 (by decide +kernel) rfl), (ft_in 634 (by decide +kernel) rfl), rfl, ⟨by decide +kernel, by decide +kernel, by decide +kernel⟩, by decide, rfl⟩
set_option maxRecDepth 20000 in
theorem oi_X12_3 : Cond.methodLink RX12 3 objectInit ∈ FT ∧ Cond.instanceMethod objectInit ∈ FT ∧ Cond.code objectInit ⟨#[0xb1]⟩ 1 none ∈ FT := ⟨(ft_in 1078 (by decide +kernel) rfl), (ft_in 94 (by decide +kernel) rfl), (ft_in 95 (by decide +kernel) rfl)⟩
set_option maxRecDepth 20000 in
theorem fp_X12_9_12 : FP RX12 9 12 1 true (.array .int) := ⟨RX12, TX12, 21, tyX12, "SaltPeaceModel", ci_12, by decide, (ft_in 1079 (by decide +kernel) rfl), Or.inl rfl, rfl, by decide +kernel, fun _ => rfl⟩
set_option maxRecDepth 20000 in
theorem fp_X12_15_12 : FP RX12 15 12 2 true (.array .int) := ⟨RX12, TX12, 21, tyX12, "SaltPeaceModel", ci_12, by decide, (ft_in 1080 (by decide +kernel) rfl), Or.inl rfl, rfl, by decide +kernel, fun _ => rfl⟩
set_option maxRecDepth 20000 in
theorem fp_X12_18_12 : FP RX12 18 12 3 true (.array .int) := ⟨RX12, TX12, 21, tyX12, "SaltPeaceModel", ci_12, by decide, (ft_in 1081 (by decide +kernel) rfl), Or.inl rfl, rfl, by decide +kernel, fun _ => rfl⟩
set_option maxRecDepth 20000 in
theorem fp_X12_21_12 : FP RX12 21 12 10 true (.array .int) := ⟨RX12, TX12, 21, tyX12, "SaltPeaceModel", ci_12, by decide, (ft_in 1088 (by decide +kernel) rfl), Or.inl rfl, rfl, by decide +kernel, fun _ => rfl⟩
set_option maxRecDepth 20000 in
theorem fp_X12_24_12 : FP RX12 24 12 11 true (.array .boolean) := ⟨RX12, TX12, 21, tyX12, "SaltPeaceModel", ci_12, by decide, (ft_in 1089 (by decide +kernel) rfl), Or.inl rfl, rfl, by decide +kernel, fun _ => rfl⟩
set_option maxRecDepth 20000 in
theorem fp_X12_28_12 : FP RX12 28 12 12 false .int := ⟨RX12, TX12, 21, tyX12, "SaltPeaceModel", ci_12, by decide, (ft_in 1090 (by decide +kernel) rfl), Or.inl rfl, rfl, by decide +kernel, fun h => absurd h (by decide)⟩
set_option maxRecDepth 20000 in
theorem fp_X12_32_12 : FP RX12 32 12 13 true (.array .int) := ⟨RX12, TX12, 21, tyX12, "SaltPeaceModel", ci_12, by decide, (ft_in 1091 (by decide +kernel) rfl), Or.inl rfl, rfl, by decide +kernel, fun _ => rfl⟩
set_option maxRecDepth 20000 in
theorem fp_X12_35_12 : FP RX12 35 12 14 true (.array .int) := ⟨RX12, TX12, 21, tyX12, "SaltPeaceModel", ci_12, by decide, (ft_in 1092 (by decide +kernel) rfl), Or.inl rfl, rfl, by decide +kernel, fun _ => rfl⟩
set_option maxRecDepth 20000 in
theorem fp_X12_38_12 : FP RX12 38 12 16 true (.array .int) := ⟨RX12, TX12, 21, tyX12, "SaltPeaceModel", ci_12, by decide, (ft_in 1094 (by decide +kernel) rfl), Or.inl rfl, rfl, by decide +kernel, fun _ => rfl⟩
set_option maxRecDepth 20000 in
theorem fl_X12_9_12 : FL RX12 9 12 1 := ⟨RX12, TX12, 21, tyX12, "SaltPeaceModel", ci_12, by decide, (ft_in 1079 (by decide +kernel) rfl), Or.inl rfl⟩
set_option maxRecDepth 20000 in
theorem ct_X12_44 : CT RX12 44 M_X12_in 3 := ⟨(ft_in 1147 (by decide +kernel) rfl), (ft_in 1148 (by decide +kernel) rfl), (ft_in 74 (by decide +kernel) rfl), (ft_in 1149 (by decide +kernel) rfl), ⟨by decide +kernel, by decide +kernel, by decide +kernel⟩, by decide⟩
set_option maxRecDepth 20000 in
theorem fl_X12_18_12 : FL RX12 18 12 3 := ⟨RX12, TX12, 21, tyX12, "SaltPeaceModel", ci_12, by decide, (ft_in 1081 (by decide +kernel) rfl), Or.inl rfl⟩
set_option maxRecDepth 20000 in
theorem fl_X12_48_12 : FL RX12 48 12 6 := ⟨RX12, TX12, 21, tyX12, "SaltPeaceModel", ci_12, by decide, (ft_in 1084 (by decide +kernel) rfl), Or.inl rfl⟩
set_option maxRecDepth 20000 in
theorem fl_X12_51_12 : FL RX12 51 12 7 := ⟨RX12, TX12, 21, tyX12, "SaltPeaceModel", ci_12, by decide, (ft_in 1085 (by decide +kernel) rfl), Or.inl rfl⟩
set_option maxRecDepth 20000 in
theorem fl_X12_54_12 : FL RX12 54 12 8 := ⟨RX12, TX12, 21, tyX12, "SaltPeaceModel", ci_12, by decide, (ft_in 1086 (by decide +kernel) rfl), Or.inl rfl⟩
set_option maxRecDepth 20000 in
theorem cv_X12_58 : CV RX12 58 M_X12_here 0 := ⟨(ft_in 1158 (by decide +kernel) rfl), (ft_in 1160 (by decide +kernel) rfl), (ft_in 23 (by decide +kernel) rfl), (ft_in 74 (by decide +kernel) rfl), (ft_in 1161 (by decide +kernel) rfl), ⟨by decide +kernel, by decide +kernel, by decide +kernel⟩, by decide⟩
set_option maxRecDepth 20000 in
theorem fp_X12_54_12 : FP RX12 54 12 8 false .boolean := ⟨RX12, TX12, 21, tyX12, "SaltPeaceModel", ci_12, by decide, (ft_in 1086 (by decide +kernel) rfl), Or.inl rfl, rfl, by decide +kernel, fun h => absurd h (by decide)⟩
set_option maxRecDepth 20000 in
theorem fp_X12_48_12 : FP RX12 48 12 6 false .int := ⟨RX12, TX12, 21, tyX12, "SaltPeaceModel", ci_12, by decide, (ft_in 1084 (by decide +kernel) rfl), Or.inl rfl, rfl, by decide +kernel, fun h => absurd h (by decide)⟩
set_option maxRecDepth 20000 in
theorem cv_X12_62 : CV RX12 62 M_J0_length_8abf5 0 := ⟨(ft_in 1171 (by decide +kernel) rfl), (ft_in 412 (by decide +kernel) rfl), (ft_in 413 (by decide +kernel) rfl), (ft_in 76 (by decide +kernel) rfl), (ft_in 414 (by decide +kernel) rfl), ⟨by decide +kernel, by decide +kernel, by decide +kernel⟩, by decide⟩
set_option maxRecDepth 20000 in
theorem cv_X12_67 : CV RX12 67 M_J0_charAt_5068e 1 := ⟨(ft_in 1172 (by decide +kernel) rfl), (ft_in 489 (by decide +kernel) rfl), (ft_in 490 (by decide +kernel) rfl), (ft_in 76 (by decide +kernel) rfl), (ft_in 491 (by decide +kernel) rfl), ⟨by decide +kernel, by decide +kernel, by decide +kernel⟩, by decide⟩
set_option maxRecDepth 20000 in
theorem cv_X12_71 : CV RX12 71 M_X12_must 1 := ⟨(ft_in 1173 (by decide +kernel) rfl), (ft_in 1175 (by decide +kernel) rfl), (ft_in 26 (by decide +kernel) rfl), (ft_in 74 (by decide +kernel) rfl), (ft_in 1176 (by decide +kernel) rfl), ⟨by decide +kernel, by decide +kernel, by decide +kernel⟩, by decide⟩
set_option maxRecDepth 20000 in
theorem fl_X12_75_12 : FL RX12 75 12 5 := ⟨RX12, TX12, 21, tyX12, "SaltPeaceModel", ci_12, by decide, (ft_in 1083 (by decide +kernel) rfl), Or.inl rfl⟩
set_option maxRecDepth 20000 in
theorem fl_X12_78_12 : FL RX12 78 12 9 := ⟨RX12, TX12, 21, tyX12, "SaltPeaceModel", ci_12, by decide, (ft_in 1087 (by decide +kernel) rfl), Or.inl rfl⟩
set_option maxRecDepth 20000 in
theorem fp_X12_78_12 : FP RX12 78 12 9 false .int := ⟨RX12, TX12, 21, tyX12, "SaltPeaceModel", ci_12, by decide, (ft_in 1087 (by decide +kernel) rfl), Or.inl rfl, rfl, by decide +kernel, fun h => absurd h (by decide)⟩
set_option maxRecDepth 20000 in
theorem cv_X12_81 : CV RX12 81 M_X12_factor 0 := ⟨(ft_in 1195 (by decide +kernel) rfl), (ft_in 1197 (by decide +kernel) rfl), (ft_in 31 (by decide +kernel) rfl), (ft_in 74 (by decide +kernel) rfl), (ft_in 1198 (by decide +kernel) rfl), ⟨by decide +kernel, by decide +kernel, by decide +kernel⟩, by decide⟩
set_option maxRecDepth 20000 in
theorem cv_X12_84 : CV RX12 84 M_X12_emits 1 := ⟨(ft_in 1199 (by decide +kernel) rfl), (ft_in 1201 (by decide +kernel) rfl), (ft_in 32 (by decide +kernel) rfl), (ft_in 74 (by decide +kernel) rfl), (ft_in 1202 (by decide +kernel) rfl), ⟨by decide +kernel, by decide +kernel, by decide +kernel⟩, by decide⟩
set_option maxRecDepth 20000 in
theorem cv_X12_87 : CV RX12 87 M_X12_some 0 := ⟨(ft_in 1187 (by decide +kernel) rfl), (ft_in 1189 (by decide +kernel) rfl), (ft_in 29 (by decide +kernel) rfl), (ft_in 74 (by decide +kernel) rfl), (ft_in 1190 (by decide +kernel) rfl), ⟨by decide +kernel, by decide +kernel, by decide +kernel⟩, by decide⟩
set_option maxRecDepth 20000 in
theorem cv_X12_92 : CV RX12 92 M_X12_among 1 := ⟨(ft_in 1204 (by decide +kernel) rfl), (ft_in 1206 (by decide +kernel) rfl), (ft_in 33 (by decide +kernel) rfl), (ft_in 74 (by decide +kernel) rfl), (ft_in 1207 (by decide +kernel) rfl), ⟨by decide +kernel, by decide +kernel, by decide +kernel⟩, by decide⟩
set_option maxRecDepth 20000 in
theorem cv_X12_98 : CV RX12 98 M_X12_figures 0 := ⟨(ft_in 1177 (by decide +kernel) rfl), (ft_in 1179 (by decide +kernel) rfl), (ft_in 27 (by decide +kernel) rfl), (ft_in 74 (by decide +kernel) rfl), (ft_in 1180 (by decide +kernel) rfl), ⟨by decide +kernel, by decide +kernel, by decide +kernel⟩, by decide⟩
set_option maxRecDepth 20000 in
theorem cv_X12_101 : CV RX12 101 M_X12_every 0 := ⟨(ft_in 1191 (by decide +kernel) rfl), (ft_in 1193 (by decide +kernel) rfl), (ft_in 30 (by decide +kernel) rfl), (ft_in 74 (by decide +kernel) rfl), (ft_in 1194 (by decide +kernel) rfl), ⟨by decide +kernel, by decide +kernel, by decide +kernel⟩, by decide⟩
set_option maxRecDepth 20000 in
theorem cv_X12_104 : CV RX12 104 M_X12_spells 1 := ⟨(ft_in 1167 (by decide +kernel) rfl), (ft_in 1169 (by decide +kernel) rfl), (ft_in 25 (by decide +kernel) rfl), (ft_in 74 (by decide +kernel) rfl), (ft_in 1170 (by decide +kernel) rfl), ⟨by decide +kernel, by decide +kernel, by decide +kernel⟩, by decide⟩
set_option maxRecDepth 20000 in
theorem cv_X12_110 : CV RX12 110 M_X12_tellsHere 2 := ⟨(ft_in 1163 (by decide +kernel) rfl), (ft_in 1165 (by decide +kernel) rfl), (ft_in 24 (by decide +kernel) rfl), (ft_in 74 (by decide +kernel) rfl), (ft_in 1166 (by decide +kernel) rfl), ⟨by decide +kernel, by decide +kernel, by decide +kernel⟩, by decide⟩
set_option maxRecDepth 20000 in
theorem cv_X12_118 : CV RX12 118 M_X12_much 2 := ⟨(ft_in 1183 (by decide +kernel) rfl), (ft_in 1185 (by decide +kernel) rfl), (ft_in 28 (by decide +kernel) rfl), (ft_in 74 (by decide +kernel) rfl), (ft_in 1186 (by decide +kernel) rfl), ⟨by decide +kernel, by decide +kernel, by decide +kernel⟩, by decide⟩
set_option maxRecDepth 20000 in
theorem fp_X12_75_12 : FP RX12 75 12 5 false .int := ⟨RX12, TX12, 21, tyX12, "SaltPeaceModel", ci_12, by decide, (ft_in 1083 (by decide +kernel) rfl), Or.inl rfl, rfl, by decide +kernel, fun h => absurd h (by decide)⟩
set_option maxRecDepth 20000 in
theorem fp_X12_51_12 : FP RX12 51 12 7 false .int := ⟨RX12, TX12, 21, tyX12, "SaltPeaceModel", ci_12, by decide, (ft_in 1085 (by decide +kernel) rfl), Or.inl rfl, rfl, by decide +kernel, fun h => absurd h (by decide)⟩
set_option maxRecDepth 20000 in
theorem cv_X12_123 : CV RX12 123 M_X12_clauseHere 0 := ⟨(ft_in 1154 (by decide +kernel) rfl), (ft_in 1156 (by decide +kernel) rfl), (ft_in 22 (by decide +kernel) rfl), (ft_in 74 (by decide +kernel) rfl), (ft_in 1157 (by decide +kernel) rfl), ⟨by decide +kernel, by decide +kernel, by decide +kernel⟩, by decide⟩
set_option maxRecDepth 20000 in
theorem cv_X12_126 : CV RX12 126 M_X12_tellsOf 2 := ⟨(ft_in 1233 (by decide +kernel) rfl), (ft_in 1235 (by decide +kernel) rfl), (ft_in 37 (by decide +kernel) rfl), (ft_in 74 (by decide +kernel) rfl), (ft_in 1236 (by decide +kernel) rfl), ⟨by decide +kernel, by decide +kernel, by decide +kernel⟩, by decide⟩
set_option maxRecDepth 20000 in
theorem fl_X12_21_12 : FL RX12 21 12 10 := ⟨RX12, TX12, 21, tyX12, "SaltPeaceModel", ci_12, by decide, (ft_in 1088 (by decide +kernel) rfl), Or.inl rfl⟩
set_option maxRecDepth 20000 in
theorem fl_X12_24_12 : FL RX12 24 12 11 := ⟨RX12, TX12, 21, tyX12, "SaltPeaceModel", ci_12, by decide, (ft_in 1089 (by decide +kernel) rfl), Or.inl rfl⟩
set_option maxRecDepth 20000 in
theorem cv_X12_130 : CV RX12 130 M_X12_looks 1 := ⟨(ft_in 1229 (by decide +kernel) rfl), (ft_in 1231 (by decide +kernel) rfl), (ft_in 36 (by decide +kernel) rfl), (ft_in 74 (by decide +kernel) rfl), (ft_in 1232 (by decide +kernel) rfl), ⟨by decide +kernel, by decide +kernel, by decide +kernel⟩, by decide⟩
set_option maxRecDepth 20000 in
theorem cv_X12_134 : CV RX12 134 M_X12_licksOf 1 := ⟨(ft_in 1237 (by decide +kernel) rfl), (ft_in 1239 (by decide +kernel) rfl), (ft_in 38 (by decide +kernel) rfl), (ft_in 74 (by decide +kernel) rfl), (ft_in 1240 (by decide +kernel) rfl), ⟨by decide +kernel, by decide +kernel, by decide +kernel⟩, by decide⟩
set_option maxRecDepth 20000 in
theorem cv_X12_137 : CV RX12 137 M_X12_needNow 0 := ⟨(ft_in 1245 (by decide +kernel) rfl), (ft_in 1247 (by decide +kernel) rfl), (ft_in 40 (by decide +kernel) rfl), (ft_in 74 (by decide +kernel) rfl), (ft_in 1248 (by decide +kernel) rfl), ⟨by decide +kernel, by decide +kernel, by decide +kernel⟩, by decide⟩
set_option maxRecDepth 20000 in
theorem ct_X12_140 : CT RX12 140 M_X12_less 2 := ⟨(ft_in 1249 (by decide +kernel) rfl), (ft_in 1250 (by decide +kernel) rfl), (ft_in 74 (by decide +kernel) rfl), (ft_in 1251 (by decide +kernel) rfl), ⟨by decide +kernel, by decide +kernel, by decide +kernel⟩, by decide⟩
set_option maxRecDepth 20000 in
theorem ct_X12_143 : CT RX12 143 M_X12_isSide 1 := ⟨(ft_in 1214 (by decide +kernel) rfl), (ft_in 1215 (by decide +kernel) rfl), (ft_in 74 (by decide +kernel) rfl), (ft_in 1216 (by decide +kernel) rfl), ⟨by decide +kernel, by decide +kernel, by decide +kernel⟩, by decide⟩
set_option maxRecDepth 20000 in
theorem cv_X12_147 : CV RX12 147 M_X12_isPerson 1 := ⟨(ft_in 1221 (by decide +kernel) rfl), (ft_in 1223 (by decide +kernel) rfl), (ft_in 34 (by decide +kernel) rfl), (ft_in 74 (by decide +kernel) rfl), (ft_in 1224 (by decide +kernel) rfl), ⟨by decide +kernel, by decide +kernel, by decide +kernel⟩, by decide⟩
set_option maxRecDepth 20000 in
theorem cv_X12_150 : CV RX12 150 M_X12_risesOf 1 := ⟨(ft_in 1225 (by decide +kernel) rfl), (ft_in 1227 (by decide +kernel) rfl), (ft_in 35 (by decide +kernel) rfl), (ft_in 74 (by decide +kernel) rfl), (ft_in 1228 (by decide +kernel) rfl), ⟨by decide +kernel, by decide +kernel, by decide +kernel⟩, by decide⟩
set_option maxRecDepth 20000 in
theorem cv_X12_153 : CV RX12 153 M_X12_takesOf 1 := ⟨(ft_in 1241 (by decide +kernel) rfl), (ft_in 1243 (by decide +kernel) rfl), (ft_in 39 (by decide +kernel) rfl), (ft_in 74 (by decide +kernel) rfl), (ft_in 1244 (by decide +kernel) rfl), ⟨by decide +kernel, by decide +kernel, by decide +kernel⟩, by decide⟩
set_option maxRecDepth 20000 in
theorem cv_X12_156 : CV RX12 156 M_X12_rainNow 0 := ⟨(ft_in 1272 (by decide +kernel) rfl), (ft_in 1274 (by decide +kernel) rfl), (ft_in 41 (by decide +kernel) rfl), (ft_in 74 (by decide +kernel) rfl), (ft_in 1275 (by decide +kernel) rfl), ⟨by decide +kernel, by decide +kernel, by decide +kernel⟩, by decide⟩
set_option maxRecDepth 20000 in
theorem cv_X12_159 : CV RX12 159 M_X12_sumOf 1 := ⟨(ft_in 1276 (by decide +kernel) rfl), (ft_in 1278 (by decide +kernel) rfl), (ft_in 42 (by decide +kernel) rfl), (ft_in 74 (by decide +kernel) rfl), (ft_in 1279 (by decide +kernel) rfl), ⟨by decide +kernel, by decide +kernel, by decide +kernel⟩, by decide⟩
set_option maxRecDepth 20000 in
theorem cv_X12_162 : CV RX12 162 M_X12_grudges 0 := ⟨(ft_in 1280 (by decide +kernel) rfl), (ft_in 1282 (by decide +kernel) rfl), (ft_in 43 (by decide +kernel) rfl), (ft_in 74 (by decide +kernel) rfl), (ft_in 1283 (by decide +kernel) rfl), ⟨by decide +kernel, by decide +kernel, by decide +kernel⟩, by decide⟩
set_option maxRecDepth 20000 in
theorem cv_X12_165 : CV RX12 165 M_X12_underRoofs 0 := ⟨(ft_in 1284 (by decide +kernel) rfl), (ft_in 1286 (by decide +kernel) rfl), (ft_in 44 (by decide +kernel) rfl), (ft_in 74 (by decide +kernel) rfl), (ft_in 1287 (by decide +kernel) rfl), ⟨by decide +kernel, by decide +kernel, by decide +kernel⟩, by decide⟩
set_option maxRecDepth 20000 in
theorem fl_X12_168_12 : FL RX12 168 12 15 := ⟨RX12, TX12, 21, tyX12, "SaltPeaceModel", ci_12, by decide, (ft_in 1093 (by decide +kernel) rfl), Or.inl rfl⟩
set_option maxRecDepth 20000 in
theorem fp_X12_168_12 : FP RX12 168 12 15 false .int := ⟨RX12, TX12, 21, tyX12, "SaltPeaceModel", ci_12, by decide, (ft_in 1093 (by decide +kernel) rfl), Or.inl rfl, rfl, by decide +kernel, fun h => absurd h (by decide)⟩
set_option maxRecDepth 20000 in
theorem fl_X12_32_12 : FL RX12 32 12 13 := ⟨RX12, TX12, 21, tyX12, "SaltPeaceModel", ci_12, by decide, (ft_in 1091 (by decide +kernel) rfl), Or.inl rfl⟩
set_option maxRecDepth 20000 in
theorem ct_X12_171 : CT RX12 171 M_X12_within 3 := ⟨(ft_in 1296 (by decide +kernel) rfl), (ft_in 1297 (by decide +kernel) rfl), (ft_in 74 (by decide +kernel) rfl), (ft_in 1298 (by decide +kernel) rfl), ⟨by decide +kernel, by decide +kernel, by decide +kernel⟩, by decide⟩
set_option maxRecDepth 20000 in
theorem fl_X12_35_12 : FL RX12 35 12 14 := ⟨RX12, TX12, 21, tyX12, "SaltPeaceModel", ci_12, by decide, (ft_in 1092 (by decide +kernel) rfl), Or.inl rfl⟩
set_option maxRecDepth 20000 in
theorem fl_X12_28_12 : FL RX12 28 12 12 := ⟨RX12, TX12, 21, tyX12, "SaltPeaceModel", ci_12, by decide, (ft_in 1090 (by decide +kernel) rfl), Or.inl rfl⟩
set_option maxRecDepth 20000 in
theorem cv_X12_175 : CV RX12 175 M_X12_rainsOn 1 := ⟨(ft_in 1299 (by decide +kernel) rfl), (ft_in 1301 (by decide +kernel) rfl), (ft_in 46 (by decide +kernel) rfl), (ft_in 74 (by decide +kernel) rfl), (ft_in 1302 (by decide +kernel) rfl), ⟨by decide +kernel, by decide +kernel, by decide +kernel⟩, by decide⟩
set_option maxRecDepth 20000 in
theorem cv_X12_178 : CV RX12 178 M_X12_goes 0 := ⟨(ft_in 1292 (by decide +kernel) rfl), (ft_in 1294 (by decide +kernel) rfl), (ft_in 45 (by decide +kernel) rfl), (ft_in 74 (by decide +kernel) rfl), (ft_in 1295 (by decide +kernel) rfl), ⟨by decide +kernel, by decide +kernel, by decide +kernel⟩, by decide⟩
set_option maxRecDepth 20000 in
theorem cv_X12_181 : CV RX12 181 M_X12_keeps 0 := ⟨(ft_in 1307 (by decide +kernel) rfl), (ft_in 1309 (by decide +kernel) rfl), (ft_in 47 (by decide +kernel) rfl), (ft_in 74 (by decide +kernel) rfl), (ft_in 1310 (by decide +kernel) rfl), ⟨by decide +kernel, by decide +kernel, by decide +kernel⟩, by decide⟩
set_option maxRecDepth 20000 in
theorem cv_X12_184 : CV RX12 184 M_X12_goesOn 1 := ⟨(ft_in 1311 (by decide +kernel) rfl), (ft_in 1313 (by decide +kernel) rfl), (ft_in 48 (by decide +kernel) rfl), (ft_in 74 (by decide +kernel) rfl), (ft_in 1314 (by decide +kernel) rfl), ⟨by decide +kernel, by decide +kernel, by decide +kernel⟩, by decide⟩
set_option maxRecDepth 20000 in
theorem cv_X12_187 : CV RX12 187 M_X12_goesBack 0 := ⟨(ft_in 1315 (by decide +kernel) rfl), (ft_in 1317 (by decide +kernel) rfl), (ft_in 49 (by decide +kernel) rfl), (ft_in 74 (by decide +kernel) rfl), (ft_in 1318 (by decide +kernel) rfl), ⟨by decide +kernel, by decide +kernel, by decide +kernel⟩, by decide⟩
set_option maxRecDepth 20000 in
theorem cv_X12_190 : CV RX12 190 M_X12_warBehind 0 := ⟨(ft_in 1323 (by decide +kernel) rfl), (ft_in 1325 (by decide +kernel) rfl), (ft_in 50 (by decide +kernel) rfl), (ft_in 74 (by decide +kernel) rfl), (ft_in 1326 (by decide +kernel) rfl), ⟨by decide +kernel, by decide +kernel, by decide +kernel⟩, by decide⟩
set_option maxRecDepth 20000 in
theorem cv_X12_193 : CV RX12 193 M_X12_thinSide 0 := ⟨(ft_in 1331 (by decide +kernel) rfl), (ft_in 1333 (by decide +kernel) rfl), (ft_in 51 (by decide +kernel) rfl), (ft_in 74 (by decide +kernel) rfl), (ft_in 1334 (by decide +kernel) rfl), ⟨by decide +kernel, by decide +kernel, by decide +kernel⟩, by decide⟩
set_option maxRecDepth 20000 in
theorem cv_X12_196 : CV RX12 196 M_X12_warMuting 1 := ⟨(ft_in 1347 (by decide +kernel) rfl), (ft_in 1349 (by decide +kernel) rfl), (ft_in 52 (by decide +kernel) rfl), (ft_in 74 (by decide +kernel) rfl), (ft_in 1350 (by decide +kernel) rfl), ⟨by decide +kernel, by decide +kernel, by decide +kernel⟩, by decide⟩
set_option maxRecDepth 20000 in
theorem ct_X12_201 : CT RX12 201 M_X12_lowest 3 := ⟨(ft_in 1364 (by decide +kernel) rfl), (ft_in 1365 (by decide +kernel) rfl), (ft_in 74 (by decide +kernel) rfl), (ft_in 1366 (by decide +kernel) rfl), ⟨by decide +kernel, by decide +kernel, by decide +kernel⟩, by decide⟩
set_option maxRecDepth 20000 in
theorem ct_X12_205 : CT RX12 205 M_X12_sizeOf 1 := ⟨(ft_in 1383 (by decide +kernel) rfl), (ft_in 1384 (by decide +kernel) rfl), (ft_in 74 (by decide +kernel) rfl), (ft_in 1385 (by decide +kernel) rfl), ⟨by decide +kernel, by decide +kernel, by decide +kernel⟩, by decide⟩
set_option maxRecDepth 20000 in
theorem cv_X12_208 : CV RX12 208 M_X12_takenAt 1 := ⟨(ft_in 1386 (by decide +kernel) rfl), (ft_in 1388 (by decide +kernel) rfl), (ft_in 53 (by decide +kernel) rfl), (ft_in 74 (by decide +kernel) rfl), (ft_in 1389 (by decide +kernel) rfl), ⟨by decide +kernel, by decide +kernel, by decide +kernel⟩, by decide⟩
set_option maxRecDepth 20000 in
theorem cv_X12_211 : CV RX12 211 M_X12_isLeft 2 := ⟨(ft_in 1394 (by decide +kernel) rfl), (ft_in 1396 (by decide +kernel) rfl), (ft_in 54 (by decide +kernel) rfl), (ft_in 74 (by decide +kernel) rfl), (ft_in 1397 (by decide +kernel) rfl), ⟨by decide +kernel, by decide +kernel, by decide +kernel⟩, by decide⟩
set_option maxRecDepth 20000 in
theorem cv_X12_215 : CV RX12 215 M_X12_isAsSeen 1 := ⟨(ft_in 1410 (by decide +kernel) rfl), (ft_in 1412 (by decide +kernel) rfl), (ft_in 56 (by decide +kernel) rfl), (ft_in 74 (by decide +kernel) rfl), (ft_in 1413 (by decide +kernel) rfl), ⟨by decide +kernel, by decide +kernel, by decide +kernel⟩, by decide⟩
set_option maxRecDepth 20000 in
theorem cv_X12_218 : CV RX12 218 M_X12_areAsSeen 0 := ⟨(ft_in 1406 (by decide +kernel) rfl), (ft_in 1408 (by decide +kernel) rfl), (ft_in 55 (by decide +kernel) rfl), (ft_in 74 (by decide +kernel) rfl), (ft_in 1409 (by decide +kernel) rfl), ⟨by decide +kernel, by decide +kernel, by decide +kernel⟩, by decide⟩
set_option maxRecDepth 20000 in
theorem cv_X12_222 : CV RX12 222 M_X12_does 2 := ⟨(ft_in 1442 (by decide +kernel) rfl), (ft_in 1444 (by decide +kernel) rfl), (ft_in 57 (by decide +kernel) rfl), (ft_in 74 (by decide +kernel) rfl), (ft_in 1445 (by decide +kernel) rfl), ⟨by decide +kernel, by decide +kernel, by decide +kernel⟩, by decide⟩
set_option maxRecDepth 20000 in
theorem fl_X12_226_12 : FL RX12 226 12 17 := ⟨RX12, TX12, 21, tyX12, "SaltPeaceModel", ci_12, by decide, (ft_in 1095 (by decide +kernel) rfl), Or.inl rfl⟩
set_option maxRecDepth 20000 in
theorem fl_X12_38_12 : FL RX12 38 12 16 := ⟨RX12, TX12, 21, tyX12, "SaltPeaceModel", ci_12, by decide, (ft_in 1094 (by decide +kernel) rfl), Or.inl rfl⟩
set_option maxRecDepth 20000 in
theorem fp_X12_226_12 : FP RX12 226 12 17 false .int := ⟨RX12, TX12, 21, tyX12, "SaltPeaceModel", ci_12, by decide, (ft_in 1095 (by decide +kernel) rfl), Or.inl rfl, rfl, by decide +kernel, fun h => absurd h (by decide)⟩
set_option maxRecDepth 20000 in
theorem cv_X12_229 : CV RX12 229 M_X12_ranBody 1 := ⟨(ft_in 1465 (by decide +kernel) rfl), (ft_in 1467 (by decide +kernel) rfl), (ft_in 59 (by decide +kernel) rfl), (ft_in 74 (by decide +kernel) rfl), (ft_in 1468 (by decide +kernel) rfl), ⟨by decide +kernel, by decide +kernel, by decide +kernel⟩, by decide⟩
set_option maxRecDepth 20000 in
theorem fl_X12_232_12 : FL RX12 232 12 19 := ⟨RX12, TX12, 21, tyX12, "SaltPeaceModel", ci_12, by decide, (ft_in 1097 (by decide +kernel) rfl), Or.inl rfl⟩
set_option maxRecDepth 20000 in
theorem fl_X12_235_12 : FL RX12 235 12 18 := ⟨RX12, TX12, 21, tyX12, "SaltPeaceModel", ci_12, by decide, (ft_in 1096 (by decide +kernel) rfl), Or.inl rfl⟩
set_option maxRecDepth 20000 in
theorem ct_X12_238 : CT RX12 238 M_X12_isUnder 2 := ⟨(ft_in 1462 (by decide +kernel) rfl), (ft_in 1463 (by decide +kernel) rfl), (ft_in 74 (by decide +kernel) rfl), (ft_in 1464 (by decide +kernel) rfl), ⟨by decide +kernel, by decide +kernel, by decide +kernel⟩, by decide⟩
set_option maxRecDepth 20000 in
theorem cv_X12_241 : CV RX12 241 M_X12_plainWrongs 1 := ⟨(ft_in 1469 (by decide +kernel) rfl), (ft_in 1471 (by decide +kernel) rfl), (ft_in 60 (by decide +kernel) rfl), (ft_in 74 (by decide +kernel) rfl), (ft_in 1472 (by decide +kernel) rfl), ⟨by decide +kernel, by decide +kernel, by decide +kernel⟩, by decide⟩
set_option maxRecDepth 20000 in
theorem cv_X12_244 : CV RX12 244 M_X12_wrongsActs 1 := ⟨(ft_in 1458 (by decide +kernel) rfl), (ft_in 1460 (by decide +kernel) rfl), (ft_in 58 (by decide +kernel) rfl), (ft_in 74 (by decide +kernel) rfl), (ft_in 1461 (by decide +kernel) rfl), ⟨by decide +kernel, by decide +kernel, by decide +kernel⟩, by decide⟩
set_option maxRecDepth 20000 in
theorem fl_X12_247_12 : FL RX12 247 12 20 := ⟨RX12, TX12, 21, tyX12, "SaltPeaceModel", ci_12, by decide, (ft_in 1098 (by decide +kernel) rfl), Or.inl rfl⟩
set_option maxRecDepth 20000 in
theorem cv_X12_250 : CV RX12 250 M_X12_plainLicks 1 := ⟨(ft_in 1477 (by decide +kernel) rfl), (ft_in 1479 (by decide +kernel) rfl), (ft_in 62 (by decide +kernel) rfl), (ft_in 74 (by decide +kernel) rfl), (ft_in 1480 (by decide +kernel) rfl), ⟨by decide +kernel, by decide +kernel, by decide +kernel⟩, by decide⟩
set_option maxRecDepth 20000 in
theorem cv_X12_253 : CV RX12 253 M_X12_licksActs 1 := ⟨(ft_in 1473 (by decide +kernel) rfl), (ft_in 1475 (by decide +kernel) rfl), (ft_in 61 (by decide +kernel) rfl), (ft_in 74 (by decide +kernel) rfl), (ft_in 1476 (by decide +kernel) rfl), ⟨by decide +kernel, by decide +kernel, by decide +kernel⟩, by decide⟩
set_option maxRecDepth 20000 in
theorem cv_X12_256 : CV RX12 256 M_X12_plainTelling 1 := ⟨(ft_in 1485 (by decide +kernel) rfl), (ft_in 1487 (by decide +kernel) rfl), (ft_in 64 (by decide +kernel) rfl), (ft_in 74 (by decide +kernel) rfl), (ft_in 1488 (by decide +kernel) rfl), ⟨by decide +kernel, by decide +kernel, by decide +kernel⟩, by decide⟩
set_option maxRecDepth 20000 in
theorem fp_X12_235_12 : FP RX12 235 12 18 false .int := ⟨RX12, TX12, 21, tyX12, "SaltPeaceModel", ci_12, by decide, (ft_in 1096 (by decide +kernel) rfl), Or.inl rfl, rfl, by decide +kernel, fun h => absurd h (by decide)⟩
set_option maxRecDepth 20000 in
theorem fp_X12_232_12 : FP RX12 232 12 19 false .int := ⟨RX12, TX12, 21, tyX12, "SaltPeaceModel", ci_12, by decide, (ft_in 1097 (by decide +kernel) rfl), Or.inl rfl, rfl, by decide +kernel, fun h => absurd h (by decide)⟩
set_option maxRecDepth 20000 in
theorem fp_X12_247_12 : FP RX12 247 12 20 false .int := ⟨RX12, TX12, 21, tyX12, "SaltPeaceModel", ci_12, by decide, (ft_in 1098 (by decide +kernel) rfl), Or.inl rfl, rfl, by decide +kernel, fun h => absurd h (by decide)⟩
set_option maxRecDepth 20000 in
theorem cv_X12_259 : CV RX12 259 M_X12_tellsActs 1 := ⟨(ft_in 1481 (by decide +kernel) rfl), (ft_in 1483 (by decide +kernel) rfl), (ft_in 63 (by decide +kernel) rfl), (ft_in 74 (by decide +kernel) rfl), (ft_in 1484 (by decide +kernel) rfl), ⟨by decide +kernel, by decide +kernel, by decide +kernel⟩, by decide⟩
set_option maxRecDepth 20000 in
theorem fl_X12_15_12 : FL RX12 15 12 2 := ⟨RX12, TX12, 21, tyX12, "SaltPeaceModel", ci_12, by decide, (ft_in 1080 (by decide +kernel) rfl), Or.inl rfl⟩
set_option maxRecDepth 20000 in
theorem fp_X12_262_12 : FP RX12 262 12 4 false .boolean := ⟨RX12, TX12, 21, tyX12, "SaltPeaceModel", ci_12, by decide, (ft_in 1082 (by decide +kernel) rfl), Or.inl rfl, rfl, by decide +kernel, fun h => absurd h (by decide)⟩
set_option maxRecDepth 20000 in
theorem fl_X12_262_12 : FL RX12 262 12 4 := ⟨RX12, TX12, 21, tyX12, "SaltPeaceModel", ci_12, by decide, (ft_in 1082 (by decide +kernel) rfl), Or.inl rfl⟩
set_option maxRecDepth 20000 in
theorem cv_J0_335 : CV RJ0 335 M_J0_coder_7d493 0 := ⟨(ft_in 415 (by decide +kernel) rfl), (ft_in 416 (by decide +kernel) rfl), (ft_in 417 (by decide +kernel) rfl), (ft_in 76 (by decide +kernel) rfl), (ft_in 418 (by decide +kernel) rfl), ⟨by decide +kernel, by decide +kernel, by decide +kernel⟩, by decide⟩
set_option maxRecDepth 20000 in
theorem cv_J0_492 : CV RJ0 492 M_J0_isLatin1_aae02 0 := ⟨(ft_in 405 (by decide +kernel) rfl), (ft_in 406 (by decide +kernel) rfl), (ft_in 407 (by decide +kernel) rfl), (ft_in 76 (by decide +kernel) rfl), (ft_in 408 (by decide +kernel) rfl), ⟨by decide +kernel, by decide +kernel, by decide +kernel⟩, by decide⟩
set_option maxRecDepth 20000 in
theorem ct_J0_495 : CT RJ0 495 M_J1_charAt_3b067 2 := ⟨(ft_in 492 (by decide +kernel) rfl), (ft_in 493 (by decide +kernel) rfl), (ft_in 77 (by decide +kernel) rfl), (ft_in 494 (by decide +kernel) rfl), ⟨by decide +kernel, by decide +kernel, by decide +kernel⟩, by decide⟩
set_option maxRecDepth 20000 in
theorem ct_J0_498 : CT RJ0 498 M_J2_charAt_3b067 2 := ⟨(ft_in 501 (by decide +kernel) rfl), (ft_in 502 (by decide +kernel) rfl), (ft_in 78 (by decide +kernel) rfl), (ft_in 503 (by decide +kernel) rfl), ⟨by decide +kernel, by decide +kernel, by decide +kernel⟩, by decide⟩
set_option maxRecDepth 20000 in
theorem cv_J0_633 : CV RJ0 633 M_J0_indexOf_7cf53 2 := ⟨(ft_in 401 (by decide +kernel) rfl), (ft_in 402 (by decide +kernel) rfl), (ft_in 403 (by decide +kernel) rfl), (ft_in 76 (by decide +kernel) rfl), (ft_in 404 (by decide +kernel) rfl), ⟨by decide +kernel, by decide +kernel, by decide +kernel⟩, by decide⟩
set_option maxRecDepth 20000 in
theorem cv_J0_505 : CV RJ0 505 M_J0_length_8abf5 0 := ⟨(ft_in 411 (by decide +kernel) rfl), (ft_in 412 (by decide +kernel) rfl), (ft_in 413 (by decide +kernel) rfl), (ft_in 76 (by decide +kernel) rfl), (ft_in 414 (by decide +kernel) rfl), ⟨by decide +kernel, by decide +kernel, by decide +kernel⟩, by decide⟩
set_option maxRecDepth 20000 in
theorem ct_J0_637 : CT RJ0 637 M_J1_indexOf_4cfef 4 := ⟨(ft_in 419 (by decide +kernel) rfl), (ft_in 420 (by decide +kernel) rfl), (ft_in 77 (by decide +kernel) rfl), (ft_in 421 (by decide +kernel) rfl), ⟨by decide +kernel, by decide +kernel, by decide +kernel⟩, by decide⟩
set_option maxRecDepth 20000 in
theorem ct_J0_640 : CT RJ0 640 M_J2_indexOf_4cfef 4 := ⟨(ft_in 430 (by decide +kernel) rfl), (ft_in 431 (by decide +kernel) rfl), (ft_in 78 (by decide +kernel) rfl), (ft_in 432 (by decide +kernel) rfl), ⟨by decide +kernel, by decide +kernel, by decide +kernel⟩, by decide⟩
set_option maxRecDepth 20000 in
theorem ct_J0_1059 : CT RJ0 1059 M_J3_checkIndex_8e157 3 := ⟨(ft_in 498 (by decide +kernel) rfl), (ft_in 499 (by decide +kernel) rfl), (ft_in 79 (by decide +kernel) rfl), (ft_in 500 (by decide +kernel) rfl), ⟨by decide +kernel, by decide +kernel, by decide +kernel⟩, by decide⟩
set_option maxRecDepth 20000 in
theorem ct_J1_9 : CT RJ1 9 M_J0_checkIndex_df160 2 := ⟨(ft_in 495 (by decide +kernel) rfl), (ft_in 496 (by decide +kernel) rfl), (ft_in 76 (by decide +kernel) rfl), (ft_in 497 (by decide +kernel) rfl), ⟨by decide +kernel, by decide +kernel, by decide +kernel⟩, by decide⟩
set_option maxRecDepth 20000 in
theorem ct_J1_88 : CT RJ1 88 M_J1_canEncode_9a6ad 1 := ⟨(ft_in 422 (by decide +kernel) rfl), (ft_in 423 (by decide +kernel) rfl), (ft_in 77 (by decide +kernel) rfl), (ft_in 424 (by decide +kernel) rfl), ⟨by decide +kernel, by decide +kernel, by decide +kernel⟩, by decide⟩
set_option maxRecDepth 20000 in
theorem ct_J1_92 : CT RJ1 92 M_J9_max_7cf53 2 := ⟨(ft_in 425 (by decide +kernel) rfl), (ft_in 103 (by decide +kernel) rfl), (ft_in 68 (by decide +kernel) rfl), (ft_in 104 (by decide +kernel) rfl), ⟨by decide +kernel, by decide +kernel, by decide +kernel⟩, by decide⟩
set_option maxRecDepth 20000 in
theorem ct_J1_38 : CT RJ1 38 M_J9_min_7cf53 2 := ⟨(ft_in 426 (by decide +kernel) rfl), (ft_in 382 (by decide +kernel) rfl), (ft_in 68 (by decide +kernel) rfl), (ft_in 383 (by decide +kernel) rfl), ⟨by decide +kernel, by decide +kernel, by decide +kernel⟩, by decide⟩
set_option maxRecDepth 20000 in
theorem ct_J1_95 : CT RJ1 95 M_J1_indexOfChar_4cfef 4 := ⟨(ft_in 427 (by decide +kernel) rfl), (ft_in 428 (by decide +kernel) rfl), (ft_in 77 (by decide +kernel) rfl), (ft_in 429 (by decide +kernel) rfl), ⟨by decide +kernel, by decide +kernel, by decide +kernel⟩, by decide⟩
set_option maxRecDepth 20000 in
theorem ct_J7_13 : CT RJ7 13 M_J7_rangeCheck_23922 3 := ⟨(ft_in 648 (by decide +kernel) rfl), (ft_in 649 (by decide +kernel) rfl), (ft_in 73 (by decide +kernel) rfl), (ft_in 650 (by decide +kernel) rfl), ⟨by decide +kernel, by decide +kernel, by decide +kernel⟩, by decide⟩
set_option maxRecDepth 20000 in
theorem ct_J7_304 : CT RJ7 304 M_J9_min_7cf53 2 := ⟨(ft_in 557 (by decide +kernel) rfl), (ft_in 382 (by decide +kernel) rfl), (ft_in 68 (by decide +kernel) rfl), (ft_in 383 (by decide +kernel) rfl), ⟨by decide +kernel, by decide +kernel, by decide +kernel⟩, by decide⟩
set_option maxRecDepth 20000 in
theorem nw_L_7 : NW RL 7 11 10 [.null, .null, .null, .null, .null, .null, .null, .null, .null, .int 0] := ⟨RX11, TX11, tyX11, ci_11, (ft_in 88 (by decide +kernel) rfl), (ft_in 89 (by decide +kernel) rfl), (ft_in 66 (by decide +kernel) rfl), by decide +kernel⟩
set_option maxRecDepth 20000 in
theorem co_L_9 : CO RL 9 M_X11_init 0 := ⟨(ft_in 90 (by decide +kernel) rfl), (ft_in 91 (by decide +kernel) rfl), (ft_in 66 (by decide +kernel) rfl), (ft_in 92 (by decide +kernel) rfl), rfl, ⟨by decide +kernel, by decide +kernel, by decide +kernel⟩, by decide, rfl⟩
set_option maxRecDepth 20000 in
theorem nw_L_10 : NW RL 10 12 21 [.int 0, .null, .null, .null, .int 0, .int 0, .int 0, .int 0, .int 0, .int 0, .null, .null, .int 0, .null, .null, .int 0, .null, .int 0, .int 0, .int 0, .int 0] := ⟨RX12, TX12, tyX12, ci_12, (ft_in 1073 (by decide +kernel) rfl), (ft_in 1074 (by decide +kernel) rfl), (ft_in 74 (by decide +kernel) rfl), by decide +kernel⟩
set_option maxRecDepth 20000 in
theorem co_L_12 : CO RL 12 M_X12_init 0 := ⟨(ft_in 1075 (by decide +kernel) rfl), (ft_in 1076 (by decide +kernel) rfl), (ft_in 74 (by decide +kernel) rfl), (ft_in 1077 (by decide +kernel) rfl), rfl, ⟨by decide +kernel, by decide +kernel, by decide +kernel⟩, by decide, rfl⟩
set_option maxRecDepth 20000 in
theorem cv_L_13 : CV RL 13 M_X11_feed 1 := ⟨(ft_in 350 (by decide +kernel) rfl), (ft_in 351 (by decide +kernel) rfl), (ft_in 352 (by decide +kernel) rfl), (ft_in 66 (by decide +kernel) rfl), (ft_in 353 (by decide +kernel) rfl), ⟨by decide +kernel, by decide +kernel, by decide +kernel⟩, by decide⟩
set_option maxRecDepth 20000 in
theorem cv_L_17 : CV RL 17 M_X12_feed 1 := ⟨(ft_in 1143 (by decide +kernel) rfl), (ft_in 1144 (by decide +kernel) rfl), (ft_in 1145 (by decide +kernel) rfl), (ft_in 74 (by decide +kernel) rfl), (ft_in 1146 (by decide +kernel) rfl), ⟨by decide +kernel, by decide +kernel, by decide +kernel⟩, by decide⟩
set_option maxRecDepth 20000 in
theorem cv_L_18 : CV RL 18 M_X11_treaty 0 := ⟨(ft_in 365 (by decide +kernel) rfl), (ft_in 366 (by decide +kernel) rfl), (ft_in 367 (by decide +kernel) rfl), (ft_in 66 (by decide +kernel) rfl), (ft_in 368 (by decide +kernel) rfl), ⟨by decide +kernel, by decide +kernel, by decide +kernel⟩, by decide⟩
set_option maxRecDepth 20000 in
theorem cv_L_22 : CV RL 22 M_X12_treaty 0 := ⟨(ft_in 1150 (by decide +kernel) rfl), (ft_in 1151 (by decide +kernel) rfl), (ft_in 1152 (by decide +kernel) rfl), (ft_in 74 (by decide +kernel) rfl), (ft_in 1153 (by decide +kernel) rfl), ⟨by decide +kernel, by decide +kernel, by decide +kernel⟩, by decide⟩
set_option maxRecDepth 20000 in
theorem cv_L_23 : CV RL 23 M_X11_person 3 := ⟨(ft_in 561 (by decide +kernel) rfl), (ft_in 562 (by decide +kernel) rfl), (ft_in 563 (by decide +kernel) rfl), (ft_in 66 (by decide +kernel) rfl), (ft_in 564 (by decide +kernel) rfl), ⟨by decide +kernel, by decide +kernel, by decide +kernel⟩, by decide⟩
set_option maxRecDepth 20000 in
theorem cv_L_27 : CV RL 27 M_X12_person 3 := ⟨(ft_in 1210 (by decide +kernel) rfl), (ft_in 1211 (by decide +kernel) rfl), (ft_in 1212 (by decide +kernel) rfl), (ft_in 74 (by decide +kernel) rfl), (ft_in 1213 (by decide +kernel) rfl), ⟨by decide +kernel, by decide +kernel, by decide +kernel⟩, by decide⟩
set_option maxRecDepth 20000 in
theorem cv_L_28 : CV RL 28 M_X11_of 2 := ⟨(ft_in 651 (by decide +kernel) rfl), (ft_in 652 (by decide +kernel) rfl), (ft_in 653 (by decide +kernel) rfl), (ft_in 66 (by decide +kernel) rfl), (ft_in 654 (by decide +kernel) rfl), ⟨by decide +kernel, by decide +kernel, by decide +kernel⟩, by decide⟩
set_option maxRecDepth 20000 in
theorem cv_L_32 : CV RL 32 M_X12_of 2 := ⟨(ft_in 1217 (by decide +kernel) rfl), (ft_in 1218 (by decide +kernel) rfl), (ft_in 1219 (by decide +kernel) rfl), (ft_in 74 (by decide +kernel) rfl), (ft_in 1220 (by decide +kernel) rfl), ⟨by decide +kernel, by decide +kernel, by decide +kernel⟩, by decide⟩
set_option maxRecDepth 20000 in
theorem cv_L_33 : CV RL 33 M_X11_row 3 := ⟨(ft_in 735 (by decide +kernel) rfl), (ft_in 736 (by decide +kernel) rfl), (ft_in 737 (by decide +kernel) rfl), (ft_in 66 (by decide +kernel) rfl), (ft_in 738 (by decide +kernel) rfl), ⟨by decide +kernel, by decide +kernel, by decide +kernel⟩, by decide⟩
set_option maxRecDepth 20000 in
theorem cv_L_36 : CV RL 36 M_X12_row 3 := ⟨(ft_in 1252 (by decide +kernel) rfl), (ft_in 1253 (by decide +kernel) rfl), (ft_in 1254 (by decide +kernel) rfl), (ft_in 74 (by decide +kernel) rfl), (ft_in 1255 (by decide +kernel) rfl), ⟨by decide +kernel, by decide +kernel, by decide +kernel⟩, by decide⟩
set_option maxRecDepth 20000 in
theorem cv_L_37 : CV RL 37 M_X11_set 3 := ⟨(ft_in 739 (by decide +kernel) rfl), (ft_in 740 (by decide +kernel) rfl), (ft_in 741 (by decide +kernel) rfl), (ft_in 66 (by decide +kernel) rfl), (ft_in 742 (by decide +kernel) rfl), ⟨by decide +kernel, by decide +kernel, by decide +kernel⟩, by decide⟩
set_option maxRecDepth 20000 in
theorem cv_L_40 : CV RL 40 M_X12_set 3 := ⟨(ft_in 1256 (by decide +kernel) rfl), (ft_in 1257 (by decide +kernel) rfl), (ft_in 1258 (by decide +kernel) rfl), (ft_in 74 (by decide +kernel) rfl), (ft_in 1259 (by decide +kernel) rfl), ⟨by decide +kernel, by decide +kernel, by decide +kernel⟩, by decide⟩
set_option maxRecDepth 20000 in
theorem cv_L_41 : CV RL 41 M_X11_salt 2 := ⟨(ft_in 743 (by decide +kernel) rfl), (ft_in 744 (by decide +kernel) rfl), (ft_in 745 (by decide +kernel) rfl), (ft_in 66 (by decide +kernel) rfl), (ft_in 746 (by decide +kernel) rfl), ⟨by decide +kernel, by decide +kernel, by decide +kernel⟩, by decide⟩
set_option maxRecDepth 20000 in
theorem cv_L_44 : CV RL 44 M_X12_salt 2 := ⟨(ft_in 1260 (by decide +kernel) rfl), (ft_in 1261 (by decide +kernel) rfl), (ft_in 1262 (by decide +kernel) rfl), (ft_in 74 (by decide +kernel) rfl), (ft_in 1263 (by decide +kernel) rfl), ⟨by decide +kernel, by decide +kernel, by decide +kernel⟩, by decide⟩
set_option maxRecDepth 20000 in
theorem cv_L_45 : CV RL 45 M_X11_roof 2 := ⟨(ft_in 747 (by decide +kernel) rfl), (ft_in 748 (by decide +kernel) rfl), (ft_in 749 (by decide +kernel) rfl), (ft_in 66 (by decide +kernel) rfl), (ft_in 750 (by decide +kernel) rfl), ⟨by decide +kernel, by decide +kernel, by decide +kernel⟩, by decide⟩
set_option maxRecDepth 20000 in
theorem cv_L_49 : CV RL 49 M_X12_roof 2 := ⟨(ft_in 1264 (by decide +kernel) rfl), (ft_in 1265 (by decide +kernel) rfl), (ft_in 1266 (by decide +kernel) rfl), (ft_in 74 (by decide +kernel) rfl), (ft_in 1267 (by decide +kernel) rfl), ⟨by decide +kernel, by decide +kernel, by decide +kernel⟩, by decide⟩
set_option maxRecDepth 20000 in
theorem cv_L_50 : CV RL 50 M_X11_told 1 := ⟨(ft_in 755 (by decide +kernel) rfl), (ft_in 756 (by decide +kernel) rfl), (ft_in 757 (by decide +kernel) rfl), (ft_in 66 (by decide +kernel) rfl), (ft_in 758 (by decide +kernel) rfl), ⟨by decide +kernel, by decide +kernel, by decide +kernel⟩, by decide⟩
set_option maxRecDepth 20000 in
theorem cv_L_53 : CV RL 53 M_X12_told 1 := ⟨(ft_in 1268 (by decide +kernel) rfl), (ft_in 1269 (by decide +kernel) rfl), (ft_in 1270 (by decide +kernel) rfl), (ft_in 74 (by decide +kernel) rfl), (ft_in 1271 (by decide +kernel) rfl), ⟨by decide +kernel, by decide +kernel, by decide +kernel⟩, by decide⟩
set_option maxRecDepth 20000 in
theorem cv_L_54 : CV RL 54 M_X11_pass 1 := ⟨(ft_in 767 (by decide +kernel) rfl), (ft_in 768 (by decide +kernel) rfl), (ft_in 769 (by decide +kernel) rfl), (ft_in 66 (by decide +kernel) rfl), (ft_in 770 (by decide +kernel) rfl), ⟨by decide +kernel, by decide +kernel, by decide +kernel⟩, by decide⟩
set_option maxRecDepth 20000 in
theorem cv_L_57 : CV RL 57 M_X12_pass 1 := ⟨(ft_in 1288 (by decide +kernel) rfl), (ft_in 1289 (by decide +kernel) rfl), (ft_in 1290 (by decide +kernel) rfl), (ft_in 74 (by decide +kernel) rfl), (ft_in 1291 (by decide +kernel) rfl), ⟨by decide +kernel, by decide +kernel, by decide +kernel⟩, by decide⟩
set_option maxRecDepth 20000 in
theorem cv_L_58 : CV RL 58 M_X11_on 2 := ⟨(ft_in 796 (by decide +kernel) rfl), (ft_in 797 (by decide +kernel) rfl), (ft_in 798 (by decide +kernel) rfl), (ft_in 66 (by decide +kernel) rfl), (ft_in 799 (by decide +kernel) rfl), ⟨by decide +kernel, by decide +kernel, by decide +kernel⟩, by decide⟩
set_option maxRecDepth 20000 in
theorem cv_L_61 : CV RL 61 M_X12_on 2 := ⟨(ft_in 1303 (by decide +kernel) rfl), (ft_in 1304 (by decide +kernel) rfl), (ft_in 1305 (by decide +kernel) rfl), (ft_in 74 (by decide +kernel) rfl), (ft_in 1306 (by decide +kernel) rfl), ⟨by decide +kernel, by decide +kernel, by decide +kernel⟩, by decide⟩
set_option maxRecDepth 20000 in
theorem cv_L_62 : CV RL 62 M_X11_lasts 0 := ⟨(ft_in 809 (by decide +kernel) rfl), (ft_in 810 (by decide +kernel) rfl), (ft_in 811 (by decide +kernel) rfl), (ft_in 66 (by decide +kernel) rfl), (ft_in 812 (by decide +kernel) rfl), ⟨by decide +kernel, by decide +kernel, by decide +kernel⟩, by decide⟩
set_option maxRecDepth 20000 in
theorem cv_L_65 : CV RL 65 M_X12_lasts 0 := ⟨(ft_in 1319 (by decide +kernel) rfl), (ft_in 1320 (by decide +kernel) rfl), (ft_in 1321 (by decide +kernel) rfl), (ft_in 74 (by decide +kernel) rfl), (ft_in 1322 (by decide +kernel) rfl), ⟨by decide +kernel, by decide +kernel, by decide +kernel⟩, by decide⟩
set_option maxRecDepth 20000 in
theorem cv_L_66 : CV RL 66 M_X11_hollow 0 := ⟨(ft_in 821 (by decide +kernel) rfl), (ft_in 822 (by decide +kernel) rfl), (ft_in 823 (by decide +kernel) rfl), (ft_in 66 (by decide +kernel) rfl), (ft_in 824 (by decide +kernel) rfl), ⟨by decide +kernel, by decide +kernel, by decide +kernel⟩, by decide⟩
set_option maxRecDepth 20000 in
theorem cv_L_69 : CV RL 69 M_X12_hollow 0 := ⟨(ft_in 1327 (by decide +kernel) rfl), (ft_in 1328 (by decide +kernel) rfl), (ft_in 1329 (by decide +kernel) rfl), (ft_in 74 (by decide +kernel) rfl), (ft_in 1330 (by decide +kernel) rfl), ⟨by decide +kernel, by decide +kernel, by decide +kernel⟩, by decide⟩
set_option maxRecDepth 20000 in
theorem cv_L_70 : CV RL 70 M_X11_thinnest 2 := ⟨(ft_in 829 (by decide +kernel) rfl), (ft_in 830 (by decide +kernel) rfl), (ft_in 831 (by decide +kernel) rfl), (ft_in 66 (by decide +kernel) rfl), (ft_in 832 (by decide +kernel) rfl), ⟨by decide +kernel, by decide +kernel, by decide +kernel⟩, by decide⟩
set_option maxRecDepth 20000 in
theorem cv_L_73 : CV RL 73 M_X12_thinnest 2 := ⟨(ft_in 1335 (by decide +kernel) rfl), (ft_in 1336 (by decide +kernel) rfl), (ft_in 1337 (by decide +kernel) rfl), (ft_in 74 (by decide +kernel) rfl), (ft_in 1338 (by decide +kernel) rfl), ⟨by decide +kernel, by decide +kernel, by decide +kernel⟩, by decide⟩
set_option maxRecDepth 20000 in
theorem cv_L_74 : CV RL 74 M_X11_greediest 1 := ⟨(ft_in 833 (by decide +kernel) rfl), (ft_in 834 (by decide +kernel) rfl), (ft_in 835 (by decide +kernel) rfl), (ft_in 66 (by decide +kernel) rfl), (ft_in 836 (by decide +kernel) rfl), ⟨by decide +kernel, by decide +kernel, by decide +kernel⟩, by decide⟩
set_option maxRecDepth 20000 in
theorem cv_L_77 : CV RL 77 M_X12_greediest 1 := ⟨(ft_in 1339 (by decide +kernel) rfl), (ft_in 1340 (by decide +kernel) rfl), (ft_in 1341 (by decide +kernel) rfl), (ft_in 74 (by decide +kernel) rfl), (ft_in 1342 (by decide +kernel) rfl), ⟨by decide +kernel, by decide +kernel, by decide +kernel⟩, by decide⟩
set_option maxRecDepth 20000 in
theorem cv_L_78 : CV RL 78 M_X11_forgive 0 := ⟨(ft_in 837 (by decide +kernel) rfl), (ft_in 838 (by decide +kernel) rfl), (ft_in 839 (by decide +kernel) rfl), (ft_in 66 (by decide +kernel) rfl), (ft_in 840 (by decide +kernel) rfl), ⟨by decide +kernel, by decide +kernel, by decide +kernel⟩, by decide⟩
set_option maxRecDepth 20000 in
theorem cv_L_81 : CV RL 81 M_X12_forgive 0 := ⟨(ft_in 1343 (by decide +kernel) rfl), (ft_in 1344 (by decide +kernel) rfl), (ft_in 1345 (by decide +kernel) rfl), (ft_in 74 (by decide +kernel) rfl), (ft_in 1346 (by decide +kernel) rfl), ⟨by decide +kernel, by decide +kernel, by decide +kernel⟩, by decide⟩
set_option maxRecDepth 20000 in
theorem cv_L_82 : CV RL 82 M_X11_move 1 := ⟨(ft_in 845 (by decide +kernel) rfl), (ft_in 846 (by decide +kernel) rfl), (ft_in 847 (by decide +kernel) rfl), (ft_in 66 (by decide +kernel) rfl), (ft_in 848 (by decide +kernel) rfl), ⟨by decide +kernel, by decide +kernel, by decide +kernel⟩, by decide⟩
set_option maxRecDepth 20000 in
theorem cv_L_85 : CV RL 85 M_X12_move 1 := ⟨(ft_in 1351 (by decide +kernel) rfl), (ft_in 1352 (by decide +kernel) rfl), (ft_in 1353 (by decide +kernel) rfl), (ft_in 74 (by decide +kernel) rfl), (ft_in 1354 (by decide +kernel) rfl), ⟨by decide +kernel, by decide +kernel, by decide +kernel⟩, by decide⟩
set_option maxRecDepth 20000 in
theorem cv_L_86 : CV RL 86 M_X11_roofs 0 := ⟨(ft_in 853 (by decide +kernel) rfl), (ft_in 854 (by decide +kernel) rfl), (ft_in 855 (by decide +kernel) rfl), (ft_in 66 (by decide +kernel) rfl), (ft_in 856 (by decide +kernel) rfl), ⟨by decide +kernel, by decide +kernel, by decide +kernel⟩, by decide⟩
set_option maxRecDepth 20000 in
theorem cv_L_89 : CV RL 89 M_X12_roofs 0 := ⟨(ft_in 1355 (by decide +kernel) rfl), (ft_in 1356 (by decide +kernel) rfl), (ft_in 1357 (by decide +kernel) rfl), (ft_in 74 (by decide +kernel) rfl), (ft_in 1358 (by decide +kernel) rfl), ⟨by decide +kernel, by decide +kernel, by decide +kernel⟩, by decide⟩
set_option maxRecDepth 20000 in
theorem cv_L_90 : CV RL 90 M_X11_share 3 := ⟨(ft_in 857 (by decide +kernel) rfl), (ft_in 858 (by decide +kernel) rfl), (ft_in 859 (by decide +kernel) rfl), (ft_in 66 (by decide +kernel) rfl), (ft_in 860 (by decide +kernel) rfl), ⟨by decide +kernel, by decide +kernel, by decide +kernel⟩, by decide⟩
set_option maxRecDepth 20000 in
theorem cv_L_94 : CV RL 94 M_X12_share 3 := ⟨(ft_in 1359 (by decide +kernel) rfl), (ft_in 1360 (by decide +kernel) rfl), (ft_in 1361 (by decide +kernel) rfl), (ft_in 74 (by decide +kernel) rfl), (ft_in 1362 (by decide +kernel) rfl), ⟨by decide +kernel, by decide +kernel, by decide +kernel⟩, by decide⟩
set_option maxRecDepth 20000 in
theorem cv_L_95 : CV RL 95 M_X11_angry 1 := ⟨(ft_in 866 (by decide +kernel) rfl), (ft_in 867 (by decide +kernel) rfl), (ft_in 868 (by decide +kernel) rfl), (ft_in 66 (by decide +kernel) rfl), (ft_in 869 (by decide +kernel) rfl), ⟨by decide +kernel, by decide +kernel, by decide +kernel⟩, by decide⟩
set_option maxRecDepth 20000 in
theorem cv_L_98 : CV RL 98 M_X12_angry 1 := ⟨(ft_in 1367 (by decide +kernel) rfl), (ft_in 1368 (by decide +kernel) rfl), (ft_in 1369 (by decide +kernel) rfl), (ft_in 74 (by decide +kernel) rfl), (ft_in 1370 (by decide +kernel) rfl), ⟨by decide +kernel, by decide +kernel, by decide +kernel⟩, by decide⟩
set_option maxRecDepth 20000 in
theorem cv_L_99 : CV RL 99 M_X11_held 1 := ⟨(ft_in 870 (by decide +kernel) rfl), (ft_in 871 (by decide +kernel) rfl), (ft_in 872 (by decide +kernel) rfl), (ft_in 66 (by decide +kernel) rfl), (ft_in 873 (by decide +kernel) rfl), ⟨by decide +kernel, by decide +kernel, by decide +kernel⟩, by decide⟩
set_option maxRecDepth 20000 in
theorem cv_L_102 : CV RL 102 M_X12_held 1 := ⟨(ft_in 1371 (by decide +kernel) rfl), (ft_in 1372 (by decide +kernel) rfl), (ft_in 1373 (by decide +kernel) rfl), (ft_in 74 (by decide +kernel) rfl), (ft_in 1374 (by decide +kernel) rfl), ⟨by decide +kernel, by decide +kernel, by decide +kernel⟩, by decide⟩
set_option maxRecDepth 20000 in
theorem cv_L_103 : CV RL 103 M_X11_worst 2 := ⟨(ft_in 874 (by decide +kernel) rfl), (ft_in 875 (by decide +kernel) rfl), (ft_in 876 (by decide +kernel) rfl), (ft_in 66 (by decide +kernel) rfl), (ft_in 877 (by decide +kernel) rfl), ⟨by decide +kernel, by decide +kernel, by decide +kernel⟩, by decide⟩
set_option maxRecDepth 20000 in
theorem cv_L_106 : CV RL 106 M_X12_worst 2 := ⟨(ft_in 1375 (by decide +kernel) rfl), (ft_in 1376 (by decide +kernel) rfl), (ft_in 1377 (by decide +kernel) rfl), (ft_in 74 (by decide +kernel) rfl), (ft_in 1378 (by decide +kernel) rfl), ⟨by decide +kernel, by decide +kernel, by decide +kernel⟩, by decide⟩
set_option maxRecDepth 20000 in
theorem cv_L_107 : CV RL 107 M_X11_watch 2 := ⟨(ft_in 878 (by decide +kernel) rfl), (ft_in 879 (by decide +kernel) rfl), (ft_in 880 (by decide +kernel) rfl), (ft_in 66 (by decide +kernel) rfl), (ft_in 881 (by decide +kernel) rfl), ⟨by decide +kernel, by decide +kernel, by decide +kernel⟩, by decide⟩
set_option maxRecDepth 20000 in
theorem cv_L_110 : CV RL 110 M_X12_watch 2 := ⟨(ft_in 1379 (by decide +kernel) rfl), (ft_in 1380 (by decide +kernel) rfl), (ft_in 1381 (by decide +kernel) rfl), (ft_in 74 (by decide +kernel) rfl), (ft_in 1382 (by decide +kernel) rfl), ⟨by decide +kernel, by decide +kernel, by decide +kernel⟩, by decide⟩
set_option maxRecDepth 20000 in
theorem cv_L_111 : CV RL 111 M_X11_fill 2 := ⟨(ft_in 892 (by decide +kernel) rfl), (ft_in 893 (by decide +kernel) rfl), (ft_in 894 (by decide +kernel) rfl), (ft_in 66 (by decide +kernel) rfl), (ft_in 895 (by decide +kernel) rfl), ⟨by decide +kernel, by decide +kernel, by decide +kernel⟩, by decide⟩
set_option maxRecDepth 20000 in
theorem cv_L_114 : CV RL 114 M_X12_fill 2 := ⟨(ft_in 1390 (by decide +kernel) rfl), (ft_in 1391 (by decide +kernel) rfl), (ft_in 1392 (by decide +kernel) rfl), (ft_in 74 (by decide +kernel) rfl), (ft_in 1393 (by decide +kernel) rfl), ⟨by decide +kernel, by decide +kernel, by decide +kernel⟩, by decide⟩
set_option maxRecDepth 20000 in
theorem cv_L_115 : CV RL 115 M_X11_see 3 := ⟨(ft_in 901 (by decide +kernel) rfl), (ft_in 902 (by decide +kernel) rfl), (ft_in 903 (by decide +kernel) rfl), (ft_in 66 (by decide +kernel) rfl), (ft_in 904 (by decide +kernel) rfl), ⟨by decide +kernel, by decide +kernel, by decide +kernel⟩, by decide⟩
set_option maxRecDepth 20000 in
theorem cv_L_118 : CV RL 118 M_X12_see 3 := ⟨(ft_in 1398 (by decide +kernel) rfl), (ft_in 1399 (by decide +kernel) rfl), (ft_in 1400 (by decide +kernel) rfl), (ft_in 74 (by decide +kernel) rfl), (ft_in 1401 (by decide +kernel) rfl), ⟨by decide +kernel, by decide +kernel, by decide +kernel⟩, by decide⟩
set_option maxRecDepth 20000 in
theorem cv_L_119 : CV RL 119 M_X11_who 0 := ⟨(ft_in 905 (by decide +kernel) rfl), (ft_in 906 (by decide +kernel) rfl), (ft_in 907 (by decide +kernel) rfl), (ft_in 66 (by decide +kernel) rfl), (ft_in 908 (by decide +kernel) rfl), ⟨by decide +kernel, by decide +kernel, by decide +kernel⟩, by decide⟩
set_option maxRecDepth 20000 in
theorem cv_L_122 : CV RL 122 M_X12_who 0 := ⟨(ft_in 1402 (by decide +kernel) rfl), (ft_in 1403 (by decide +kernel) rfl), (ft_in 1404 (by decide +kernel) rfl), (ft_in 74 (by decide +kernel) rfl), (ft_in 1405 (by decide +kernel) rfl), ⟨by decide +kernel, by decide +kernel, by decide +kernel⟩, by decide⟩
set_option maxRecDepth 20000 in
theorem cv_L_123 : CV RL 123 M_X11_firm 2 := ⟨(ft_in 919 (by decide +kernel) rfl), (ft_in 920 (by decide +kernel) rfl), (ft_in 921 (by decide +kernel) rfl), (ft_in 66 (by decide +kernel) rfl), (ft_in 922 (by decide +kernel) rfl), ⟨by decide +kernel, by decide +kernel, by decide +kernel⟩, by decide⟩
set_option maxRecDepth 20000 in
theorem cv_L_126 : CV RL 126 M_X12_firm 2 := ⟨(ft_in 1414 (by decide +kernel) rfl), (ft_in 1415 (by decide +kernel) rfl), (ft_in 1416 (by decide +kernel) rfl), (ft_in 74 (by decide +kernel) rfl), (ft_in 1417 (by decide +kernel) rfl), ⟨by decide +kernel, by decide +kernel, by decide +kernel⟩, by decide⟩
set_option maxRecDepth 20000 in
theorem cv_L_127 : CV RL 127 M_X11_where 1 := ⟨(ft_in 923 (by decide +kernel) rfl), (ft_in 924 (by decide +kernel) rfl), (ft_in 925 (by decide +kernel) rfl), (ft_in 66 (by decide +kernel) rfl), (ft_in 926 (by decide +kernel) rfl), ⟨by decide +kernel, by decide +kernel, by decide +kernel⟩, by decide⟩
set_option maxRecDepth 20000 in
theorem cv_L_130 : CV RL 130 M_X12_where 1 := ⟨(ft_in 1418 (by decide +kernel) rfl), (ft_in 1419 (by decide +kernel) rfl), (ft_in 1420 (by decide +kernel) rfl), (ft_in 74 (by decide +kernel) rfl), (ft_in 1421 (by decide +kernel) rfl), ⟨by decide +kernel, by decide +kernel, by decide +kernel⟩, by decide⟩
set_option maxRecDepth 20000 in
theorem cv_L_131 : CV RL 131 M_X11_odds 2 := ⟨(ft_in 927 (by decide +kernel) rfl), (ft_in 928 (by decide +kernel) rfl), (ft_in 929 (by decide +kernel) rfl), (ft_in 66 (by decide +kernel) rfl), (ft_in 930 (by decide +kernel) rfl), ⟨by decide +kernel, by decide +kernel, by decide +kernel⟩, by decide⟩
set_option maxRecDepth 20000 in
theorem cv_L_135 : CV RL 135 M_X12_odds 2 := ⟨(ft_in 1422 (by decide +kernel) rfl), (ft_in 1423 (by decide +kernel) rfl), (ft_in 1424 (by decide +kernel) rfl), (ft_in 74 (by decide +kernel) rfl), (ft_in 1425 (by decide +kernel) rfl), ⟨by decide +kernel, by decide +kernel, by decide +kernel⟩, by decide⟩
set_option maxRecDepth 20000 in
theorem cv_L_136 : CV RL 136 M_X11_mean 2 := ⟨(ft_in 931 (by decide +kernel) rfl), (ft_in 932 (by decide +kernel) rfl), (ft_in 933 (by decide +kernel) rfl), (ft_in 66 (by decide +kernel) rfl), (ft_in 934 (by decide +kernel) rfl), ⟨by decide +kernel, by decide +kernel, by decide +kernel⟩, by decide⟩
set_option maxRecDepth 20000 in
theorem cv_L_139 : CV RL 139 M_X12_mean 2 := ⟨(ft_in 1426 (by decide +kernel) rfl), (ft_in 1427 (by decide +kernel) rfl), (ft_in 1428 (by decide +kernel) rfl), (ft_in 74 (by decide +kernel) rfl), (ft_in 1429 (by decide +kernel) rfl), ⟨by decide +kernel, by decide +kernel, by decide +kernel⟩, by decide⟩
set_option maxRecDepth 20000 in
theorem cv_L_140 : CV RL 140 M_X11_chips 1 := ⟨(ft_in 935 (by decide +kernel) rfl), (ft_in 936 (by decide +kernel) rfl), (ft_in 937 (by decide +kernel) rfl), (ft_in 66 (by decide +kernel) rfl), (ft_in 938 (by decide +kernel) rfl), ⟨by decide +kernel, by decide +kernel, by decide +kernel⟩, by decide⟩
set_option maxRecDepth 20000 in
theorem cv_L_143 : CV RL 143 M_X12_chips 1 := ⟨(ft_in 1430 (by decide +kernel) rfl), (ft_in 1431 (by decide +kernel) rfl), (ft_in 1432 (by decide +kernel) rfl), (ft_in 74 (by decide +kernel) rfl), (ft_in 1433 (by decide +kernel) rfl), ⟨by decide +kernel, by decide +kernel, by decide +kernel⟩, by decide⟩
set_option maxRecDepth 20000 in
theorem cv_L_144 : CV RL 144 M_X11_plan 2 := ⟨(ft_in 939 (by decide +kernel) rfl), (ft_in 940 (by decide +kernel) rfl), (ft_in 941 (by decide +kernel) rfl), (ft_in 66 (by decide +kernel) rfl), (ft_in 942 (by decide +kernel) rfl), ⟨by decide +kernel, by decide +kernel, by decide +kernel⟩, by decide⟩
set_option maxRecDepth 20000 in
theorem cv_L_147 : CV RL 147 M_X12_plan 2 := ⟨(ft_in 1434 (by decide +kernel) rfl), (ft_in 1435 (by decide +kernel) rfl), (ft_in 1436 (by decide +kernel) rfl), (ft_in 74 (by decide +kernel) rfl), (ft_in 1437 (by decide +kernel) rfl), ⟨by decide +kernel, by decide +kernel, by decide +kernel⟩, by decide⟩
set_option maxRecDepth 20000 in
theorem cv_L_148 : CV RL 148 M_X11_done 1 := ⟨(ft_in 947 (by decide +kernel) rfl), (ft_in 948 (by decide +kernel) rfl), (ft_in 949 (by decide +kernel) rfl), (ft_in 66 (by decide +kernel) rfl), (ft_in 950 (by decide +kernel) rfl), ⟨by decide +kernel, by decide +kernel, by decide +kernel⟩, by decide⟩
set_option maxRecDepth 20000 in
theorem cv_L_151 : CV RL 151 M_X12_done 1 := ⟨(ft_in 1438 (by decide +kernel) rfl), (ft_in 1439 (by decide +kernel) rfl), (ft_in 1440 (by decide +kernel) rfl), (ft_in 74 (by decide +kernel) rfl), (ft_in 1441 (by decide +kernel) rfl), ⟨by decide +kernel, by decide +kernel, by decide +kernel⟩, by decide⟩
set_option maxRecDepth 20000 in
theorem cv_L_152 : CV RL 152 M_X11_book 2 := ⟨(ft_in 959 (by decide +kernel) rfl), (ft_in 960 (by decide +kernel) rfl), (ft_in 961 (by decide +kernel) rfl), (ft_in 66 (by decide +kernel) rfl), (ft_in 962 (by decide +kernel) rfl), ⟨by decide +kernel, by decide +kernel, by decide +kernel⟩, by decide⟩
set_option maxRecDepth 20000 in
theorem cv_L_155 : CV RL 155 M_X12_book 2 := ⟨(ft_in 1446 (by decide +kernel) rfl), (ft_in 1447 (by decide +kernel) rfl), (ft_in 1448 (by decide +kernel) rfl), (ft_in 74 (by decide +kernel) rfl), (ft_in 1449 (by decide +kernel) rfl), ⟨by decide +kernel, by decide +kernel, by decide +kernel⟩, by decide⟩
set_option maxRecDepth 20000 in
theorem cv_L_156 : CV RL 156 M_X11_looked 0 := ⟨(ft_in 963 (by decide +kernel) rfl), (ft_in 964 (by decide +kernel) rfl), (ft_in 965 (by decide +kernel) rfl), (ft_in 66 (by decide +kernel) rfl), (ft_in 966 (by decide +kernel) rfl), ⟨by decide +kernel, by decide +kernel, by decide +kernel⟩, by decide⟩
set_option maxRecDepth 20000 in
theorem cv_L_159 : CV RL 159 M_X12_looked 0 := ⟨(ft_in 1450 (by decide +kernel) rfl), (ft_in 1451 (by decide +kernel) rfl), (ft_in 1452 (by decide +kernel) rfl), (ft_in 74 (by decide +kernel) rfl), (ft_in 1453 (by decide +kernel) rfl), ⟨by decide +kernel, by decide +kernel, by decide +kernel⟩, by decide⟩
set_option maxRecDepth 20000 in
theorem cv_L_160 : CV RL 160 M_X11_act 3 := ⟨(ft_in 967 (by decide +kernel) rfl), (ft_in 968 (by decide +kernel) rfl), (ft_in 969 (by decide +kernel) rfl), (ft_in 66 (by decide +kernel) rfl), (ft_in 970 (by decide +kernel) rfl), ⟨by decide +kernel, by decide +kernel, by decide +kernel⟩, by decide⟩
set_option maxRecDepth 20000 in
theorem cv_L_163 : CV RL 163 M_X12_act 3 := ⟨(ft_in 1454 (by decide +kernel) rfl), (ft_in 1455 (by decide +kernel) rfl), (ft_in 1456 (by decide +kernel) rfl), (ft_in 74 (by decide +kernel) rfl), (ft_in 1457 (by decide +kernel) rfl), ⟨by decide +kernel, by decide +kernel, by decide +kernel⟩, by decide⟩
set_option maxRecDepth 20000 in
theorem cv_L_164 : CV RL 164 M_X11_trace 1 := ⟨(ft_in 1041 (by decide +kernel) rfl), (ft_in 1042 (by decide +kernel) rfl), (ft_in 1043 (by decide +kernel) rfl), (ft_in 66 (by decide +kernel) rfl), (ft_in 1044 (by decide +kernel) rfl), ⟨by decide +kernel, by decide +kernel, by decide +kernel⟩, by decide⟩
set_option maxRecDepth 20000 in
theorem cv_L_167 : CV RL 167 M_X12_trace 1 := ⟨(ft_in 1489 (by decide +kernel) rfl), (ft_in 1490 (by decide +kernel) rfl), (ft_in 1491 (by decide +kernel) rfl), (ft_in 74 (by decide +kernel) rfl), (ft_in 1492 (by decide +kernel) rfl), ⟨by decide +kernel, by decide +kernel, by decide +kernel⟩, by decide⟩
set_option maxRecDepth 20000 in
theorem cv_L_168 : CV RL 168 M_X11_as 2 := ⟨(ft_in 1045 (by decide +kernel) rfl), (ft_in 1046 (by decide +kernel) rfl), (ft_in 1047 (by decide +kernel) rfl), (ft_in 66 (by decide +kernel) rfl), (ft_in 1048 (by decide +kernel) rfl), ⟨by decide +kernel, by decide +kernel, by decide +kernel⟩, by decide⟩
set_option maxRecDepth 20000 in
theorem cv_L_171 : CV RL 171 M_X12_as 2 := ⟨(ft_in 1493 (by decide +kernel) rfl), (ft_in 1494 (by decide +kernel) rfl), (ft_in 1495 (by decide +kernel) rfl), (ft_in 74 (by decide +kernel) rfl), (ft_in 1496 (by decide +kernel) rfl), ⟨by decide +kernel, by decide +kernel, by decide +kernel⟩, by decide⟩
set_option maxRecDepth 20000 in
theorem cv_L_172 : CV RL 172 M_X11_image 0 := ⟨(ft_in 1052 (by decide +kernel) rfl), (ft_in 1053 (by decide +kernel) rfl), (ft_in 1054 (by decide +kernel) rfl), (ft_in 66 (by decide +kernel) rfl), (ft_in 1055 (by decide +kernel) rfl), ⟨by decide +kernel, by decide +kernel, by decide +kernel⟩, by decide⟩
set_option maxRecDepth 20000 in
theorem cv_L_175 : CV RL 175 M_X12_image 0 := ⟨(ft_in 1497 (by decide +kernel) rfl), (ft_in 1498 (by decide +kernel) rfl), (ft_in 1499 (by decide +kernel) rfl), (ft_in 74 (by decide +kernel) rfl), (ft_in 1500 (by decide +kernel) rfl), ⟨by decide +kernel, by decide +kernel, by decide +kernel⟩, by decide⟩
set_option maxRecDepth 20000 in
theorem cv_L_176 : CV RL 176 M_X11_undo 0 := ⟨(ft_in 1061 (by decide +kernel) rfl), (ft_in 1062 (by decide +kernel) rfl), (ft_in 1063 (by decide +kernel) rfl), (ft_in 66 (by decide +kernel) rfl), (ft_in 1064 (by decide +kernel) rfl), ⟨by decide +kernel, by decide +kernel, by decide +kernel⟩, by decide⟩
set_option maxRecDepth 20000 in
theorem cv_L_179 : CV RL 179 M_X12_undo 0 := ⟨(ft_in 1501 (by decide +kernel) rfl), (ft_in 1502 (by decide +kernel) rfl), (ft_in 1503 (by decide +kernel) rfl), (ft_in 74 (by decide +kernel) rfl), (ft_in 1504 (by decide +kernel) rfl), ⟨by decide +kernel, by decide +kernel, by decide +kernel⟩, by decide⟩
set_option maxRecDepth 20000 in
theorem cv_L_180 : CV RL 180 M_X11_count 1 := ⟨(ft_in 1069 (by decide +kernel) rfl), (ft_in 1070 (by decide +kernel) rfl), (ft_in 1071 (by decide +kernel) rfl), (ft_in 66 (by decide +kernel) rfl), (ft_in 1072 (by decide +kernel) rfl), ⟨by decide +kernel, by decide +kernel, by decide +kernel⟩, by decide⟩
set_option maxRecDepth 20000 in
theorem cv_L_183 : CV RL 183 M_X12_count 1 := ⟨(ft_in 1505 (by decide +kernel) rfl), (ft_in 1506 (by decide +kernel) rfl), (ft_in 1507 (by decide +kernel) rfl), (ft_in 74 (by decide +kernel) rfl), (ft_in 1508 (by decide +kernel) rfl), ⟨by decide +kernel, by decide +kernel, by decide +kernel⟩, by decide⟩
