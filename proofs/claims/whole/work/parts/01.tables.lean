-- ===== PART A: goes FIRST, ahead of the names: the tables' words, and 'selects' of the private methods out of them =====
/-- a private method of a class that the tables say can be made, by its rows of tables_1 -/
def lw_okq (q : MethodName × Nat) : Prop := (q.1.cls ≠ "java/lang/invoke/MethodHandle" ∧ q.1.cls ≠ "java/lang/invoke/VarHandle") ∧ Cond.instantiable q.1.cls q.2 ∈ tables_1 ∧ Cond.privateMethod q.1 ∈ tables_1 ∧ Cond.instanceMethod q.1 ∈ tables_1
theorem lw_p0 : lw_okq (⟨"SaltPeace$Reader", "start", "(LSaltPeace$Rows;)V"⟩, 10) := ⟨⟨by decide +kernel, by decide +kernel⟩, List.mem_of_getElem? (i := 72) (by decide +kernel), List.mem_of_getElem? (i := 309) (by decide +kernel), List.mem_of_getElem? (i := 310) (by decide +kernel)⟩
theorem lw_p1 : lw_okq (⟨"SaltPeace$Reader", "clause", "()Z"⟩, 10) := ⟨⟨by decide +kernel, by decide +kernel⟩, List.mem_of_getElem? (i := 72) (by decide +kernel), List.mem_of_getElem? (i := 324) (by decide +kernel), List.mem_of_getElem? (i := 325) (by decide +kernel)⟩
theorem lw_p2 : lw_okq (⟨"SaltPeace$Reader", "choice", "(Ljava/lang/String;)I"⟩, 10) := ⟨⟨by decide +kernel, by decide +kernel⟩, List.mem_of_getElem? (i := 72) (by decide +kernel), List.mem_of_getElem? (i := 329) (by decide +kernel), List.mem_of_getElem? (i := 330) (by decide +kernel)⟩
theorem lw_p3 : lw_okq (⟨"SaltPeace$Reader", "rest", "(I)Z"⟩, 10) := ⟨⟨by decide +kernel, by decide +kernel⟩, List.mem_of_getElem? (i := 72) (by decide +kernel), List.mem_of_getElem? (i := 415) (by decide +kernel), List.mem_of_getElem? (i := 416) (by decide +kernel)⟩
theorem lw_p4 : lw_okq (⟨"SaltPeace$Reader", "accept", "(I)Z"⟩, 10) := ⟨⟨by decide +kernel, by decide +kernel⟩, List.mem_of_getElem? (i := 72) (by decide +kernel), List.mem_of_getElem? (i := 444) (by decide +kernel), List.mem_of_getElem? (i := 445) (by decide +kernel)⟩
theorem lw_p5 : lw_okq (⟨"SaltPeace$Reader", "number", "()I"⟩, 10) := ⟨⟨by decide +kernel, by decide +kernel⟩, List.mem_of_getElem? (i := 72) (by decide +kernel), List.mem_of_getElem? (i := 448) (by decide +kernel), List.mem_of_getElem? (i := 449) (by decide +kernel)⟩
theorem lw_p6 : lw_okq (⟨"SaltPeace$Reader", "expression", "(I)Z"⟩, 10) := ⟨⟨by decide +kernel, by decide +kernel⟩, List.mem_of_getElem? (i := 72) (by decide +kernel), List.mem_of_getElem? (i := 453) (by decide +kernel), List.mem_of_getElem? (i := 454) (by decide +kernel)⟩
theorem lw_p7 : lw_okq (⟨"SaltPeace$Reader", "factor", "(I)Z"⟩, 10) := ⟨⟨by decide +kernel, by decide +kernel⟩, List.mem_of_getElem? (i := 72) (by decide +kernel), List.mem_of_getElem? (i := 457) (by decide +kernel), List.mem_of_getElem? (i := 458) (by decide +kernel)⟩
theorem lw_p8 : lw_okq (⟨"SaltPeace$Reader", "step", "(I)V"⟩, 10) := ⟨⟨by decide +kernel, by decide +kernel⟩, List.mem_of_getElem? (i := 72) (by decide +kernel), List.mem_of_getElem? (i := 461) (by decide +kernel), List.mem_of_getElem? (i := 462) (by decide +kernel)⟩
theorem lw_p9 : lw_okq (⟨"SaltPeace$Reader", "judge", "(I)Z"⟩, 10) := ⟨⟨by decide +kernel, by decide +kernel⟩, List.mem_of_getElem? (i := 72) (by decide +kernel), List.mem_of_getElem? (i := 470) (by decide +kernel), List.mem_of_getElem? (i := 471) (by decide +kernel)⟩
theorem lw_p10 : lw_okq (⟨"SaltPeace", "personOf", "(III)LSaltPeace$Person;"⟩, 10) := ⟨⟨by decide +kernel, by decide +kernel⟩, List.mem_of_getElem? (i := 24) (by decide +kernel), List.mem_of_getElem? (i := 507) (by decide +kernel), List.mem_of_getElem? (i := 508) (by decide +kernel)⟩
theorem lw_p11 : lw_okq (⟨"SaltPeace", "isPerson", "(I)Z"⟩, 10) := ⟨⟨by decide +kernel, by decide +kernel⟩, List.mem_of_getElem? (i := 24) (by decide +kernel), List.mem_of_getElem? (i := 591) (by decide +kernel), List.mem_of_getElem? (i := 592) (by decide +kernel)⟩
theorem lw_p12 : lw_okq (⟨"SaltPeace$Treaty", "holds", "(II[I)Z"⟩, 5) := ⟨⟨by decide +kernel, by decide +kernel⟩, List.mem_of_getElem? (i := 109) (by decide +kernel), List.mem_of_getElem? (i := 603) (by decide +kernel), List.mem_of_getElem? (i := 604) (by decide +kernel)⟩
theorem lw_p13 : lw_okq (⟨"SaltPeace$Moor", "lick", "(I)V"⟩, 16) := ⟨⟨by decide +kernel, by decide +kernel⟩, List.mem_of_getElem? (i := 181) (by decide +kernel), List.mem_of_getElem? (i := 717) (by decide +kernel), List.mem_of_getElem? (i := 718) (by decide +kernel)⟩
theorem lw_p14 : lw_okq (⟨"SaltPeace$Moor", "rainFalls", "()V"⟩, 16) := ⟨⟨by decide +kernel, by decide +kernel⟩, List.mem_of_getElem? (i := 181) (by decide +kernel), List.mem_of_getElem? (i := 722) (by decide +kernel), List.mem_of_getElem? (i := 723) (by decide +kernel)⟩
theorem lw_p15 : lw_okq (⟨"SaltPeace", "after", "(I)LSaltPeace$Moor;"⟩, 10) := ⟨⟨by decide +kernel, by decide +kernel⟩, List.mem_of_getElem? (i := 24) (by decide +kernel), List.mem_of_getElem? (i := 736) (by decide +kernel), List.mem_of_getElem? (i := 737) (by decide +kernel)⟩
def lw_privs_1 : List (MethodName × Nat) := [(⟨"SaltPeace$Reader", "start", "(LSaltPeace$Rows;)V"⟩, 10), (⟨"SaltPeace$Reader", "clause", "()Z"⟩, 10), (⟨"SaltPeace$Reader", "choice", "(Ljava/lang/String;)I"⟩, 10), (⟨"SaltPeace$Reader", "rest", "(I)Z"⟩, 10), (⟨"SaltPeace$Reader", "accept", "(I)Z"⟩, 10), (⟨"SaltPeace$Reader", "number", "()I"⟩, 10), (⟨"SaltPeace$Reader", "expression", "(I)Z"⟩, 10), (⟨"SaltPeace$Reader", "factor", "(I)Z"⟩, 10), (⟨"SaltPeace$Reader", "step", "(I)V"⟩, 10), (⟨"SaltPeace$Reader", "judge", "(I)Z"⟩, 10), (⟨"SaltPeace", "personOf", "(III)LSaltPeace$Person;"⟩, 10), (⟨"SaltPeace", "isPerson", "(I)Z"⟩, 10), (⟨"SaltPeace$Treaty", "holds", "(II[I)Z"⟩, 5), (⟨"SaltPeace$Moor", "lick", "(I)V"⟩, 16), (⟨"SaltPeace$Moor", "rainFalls", "()V"⟩, 16), (⟨"SaltPeace", "after", "(I)LSaltPeace$Moor;"⟩, 10)]
theorem lw_r1 : ∀ q ∈ lw_privs_1, lw_okq q := List.forall_mem_cons.mpr ⟨lw_p0, List.forall_mem_cons.mpr ⟨lw_p1, List.forall_mem_cons.mpr ⟨lw_p2, List.forall_mem_cons.mpr ⟨lw_p3, List.forall_mem_cons.mpr ⟨lw_p4, List.forall_mem_cons.mpr ⟨lw_p5, List.forall_mem_cons.mpr ⟨lw_p6, List.forall_mem_cons.mpr ⟨lw_p7, List.forall_mem_cons.mpr ⟨lw_p8, List.forall_mem_cons.mpr ⟨lw_p9, List.forall_mem_cons.mpr ⟨lw_p10, List.forall_mem_cons.mpr ⟨lw_p11, List.forall_mem_cons.mpr ⟨lw_p12, List.forall_mem_cons.mpr ⟨lw_p13, List.forall_mem_cons.mpr ⟨lw_p14, List.forall_mem_cons.mpr ⟨lw_p15, fun _ h => absurd h List.not_mem_nil⟩⟩⟩⟩⟩⟩⟩⟩⟩⟩⟩⟩⟩⟩⟩⟩
theorem lw_p16 : lw_okq (⟨"SaltPeace", "asItIs", "()LSaltPeace$Moor;"⟩, 10) := ⟨⟨by decide +kernel, by decide +kernel⟩, List.mem_of_getElem? (i := 24) (by decide +kernel), List.mem_of_getElem? (i := 749) (by decide +kernel), List.mem_of_getElem? (i := 750) (by decide +kernel)⟩
theorem lw_p17 : lw_okq (⟨"SaltPeace", "asIfStill", "(I)LSaltPeace$Moor;"⟩, 10) := ⟨⟨by decide +kernel, by decide +kernel⟩, List.mem_of_getElem? (i := 24) (by decide +kernel), List.mem_of_getElem? (i := 777) (by decide +kernel), List.mem_of_getElem? (i := 778) (by decide +kernel)⟩
theorem lw_p18 : lw_okq (⟨"SaltPeace", "asIfAt", "(II)LSaltPeace$Moor;"⟩, 10) := ⟨⟨by decide +kernel, by decide +kernel⟩, List.mem_of_getElem? (i := 24) (by decide +kernel), List.mem_of_getElem? (i := 785) (by decide +kernel), List.mem_of_getElem? (i := 786) (by decide +kernel)⟩
theorem lw_p19 : lw_okq (⟨"SaltPeace", "isAllSeen", "(LSaltPeace$Moor;)Z"⟩, 10) := ⟨⟨by decide +kernel, by decide +kernel⟩, List.mem_of_getElem? (i := 24) (by decide +kernel), List.mem_of_getElem? (i := 845) (by decide +kernel), List.mem_of_getElem? (i := 846) (by decide +kernel)⟩
theorem lw_p20 : lw_okq (⟨"SaltPeace", "isSeenAfter", "(LSaltPeace$Moor;I)Z"⟩, 10) := ⟨⟨by decide +kernel, by decide +kernel⟩, List.mem_of_getElem? (i := 24) (by decide +kernel), List.mem_of_getElem? (i := 849) (by decide +kernel), List.mem_of_getElem? (i := 850) (by decide +kernel)⟩
theorem lw_p21 : lw_okq (⟨"SaltPeace", "isPlanned", "(II)Z"⟩, 10) := ⟨⟨by decide +kernel, by decide +kernel⟩, List.mem_of_getElem? (i := 24) (by decide +kernel), List.mem_of_getElem? (i := 879) (by decide +kernel), List.mem_of_getElem? (i := 880) (by decide +kernel)⟩
theorem lw_p22 : lw_okq (⟨"SaltPeaceModel", "clauseHere", "()V"⟩, 21) := ⟨⟨by decide +kernel, by decide +kernel⟩, List.mem_of_getElem? (i := 1009) (by decide +kernel), List.mem_of_getElem? (i := 1090) (by decide +kernel), List.mem_of_getElem? (i := 1091) (by decide +kernel)⟩
theorem lw_p23 : lw_okq (⟨"SaltPeaceModel", "here", "()I"⟩, 21) := ⟨⟨by decide +kernel, by decide +kernel⟩, List.mem_of_getElem? (i := 1009) (by decide +kernel), List.mem_of_getElem? (i := 1094) (by decide +kernel), List.mem_of_getElem? (i := 1095) (by decide +kernel)⟩
theorem lw_p24 : lw_okq (⟨"SaltPeaceModel", "tellsHere", "(ILjava/lang/String;)V"⟩, 21) := ⟨⟨by decide +kernel, by decide +kernel⟩, List.mem_of_getElem? (i := 1009) (by decide +kernel), List.mem_of_getElem? (i := 1099) (by decide +kernel), List.mem_of_getElem? (i := 1100) (by decide +kernel)⟩
theorem lw_p25 : lw_okq (⟨"SaltPeaceModel", "spells", "(Ljava/lang/String;)V"⟩, 21) := ⟨⟨by decide +kernel, by decide +kernel⟩, List.mem_of_getElem? (i := 1009) (by decide +kernel), List.mem_of_getElem? (i := 1103) (by decide +kernel), List.mem_of_getElem? (i := 1104) (by decide +kernel)⟩
theorem lw_p26 : lw_okq (⟨"SaltPeaceModel", "must", "(I)V"⟩, 21) := ⟨⟨by decide +kernel, by decide +kernel⟩, List.mem_of_getElem? (i := 1009) (by decide +kernel), List.mem_of_getElem? (i := 1109) (by decide +kernel), List.mem_of_getElem? (i := 1110) (by decide +kernel)⟩
theorem lw_p27 : lw_okq (⟨"SaltPeaceModel", "figures", "()I"⟩, 21) := ⟨⟨by decide +kernel, by decide +kernel⟩, List.mem_of_getElem? (i := 1009) (by decide +kernel), List.mem_of_getElem? (i := 1113) (by decide +kernel), List.mem_of_getElem? (i := 1114) (by decide +kernel)⟩
theorem lw_p28 : lw_okq (⟨"SaltPeaceModel", "much", "(ILjava/lang/String;)V"⟩, 21) := ⟨⟨by decide +kernel, by decide +kernel⟩, List.mem_of_getElem? (i := 1009) (by decide +kernel), List.mem_of_getElem? (i := 1119) (by decide +kernel), List.mem_of_getElem? (i := 1120) (by decide +kernel)⟩
theorem lw_p29 : lw_okq (⟨"SaltPeaceModel", "some", "()V"⟩, 21) := ⟨⟨by decide +kernel, by decide +kernel⟩, List.mem_of_getElem? (i := 1009) (by decide +kernel), List.mem_of_getElem? (i := 1123) (by decide +kernel), List.mem_of_getElem? (i := 1124) (by decide +kernel)⟩
theorem lw_p30 : lw_okq (⟨"SaltPeaceModel", "every", "()V"⟩, 21) := ⟨⟨by decide +kernel, by decide +kernel⟩, List.mem_of_getElem? (i := 1009) (by decide +kernel), List.mem_of_getElem? (i := 1127) (by decide +kernel), List.mem_of_getElem? (i := 1128) (by decide +kernel)⟩
theorem lw_p31 : lw_okq (⟨"SaltPeaceModel", "factor", "()V"⟩, 21) := ⟨⟨by decide +kernel, by decide +kernel⟩, List.mem_of_getElem? (i := 1009) (by decide +kernel), List.mem_of_getElem? (i := 1131) (by decide +kernel), List.mem_of_getElem? (i := 1132) (by decide +kernel)⟩
def lw_privs_2 : List (MethodName × Nat) := [(⟨"SaltPeace", "asItIs", "()LSaltPeace$Moor;"⟩, 10), (⟨"SaltPeace", "asIfStill", "(I)LSaltPeace$Moor;"⟩, 10), (⟨"SaltPeace", "asIfAt", "(II)LSaltPeace$Moor;"⟩, 10), (⟨"SaltPeace", "isAllSeen", "(LSaltPeace$Moor;)Z"⟩, 10), (⟨"SaltPeace", "isSeenAfter", "(LSaltPeace$Moor;I)Z"⟩, 10), (⟨"SaltPeace", "isPlanned", "(II)Z"⟩, 10), (⟨"SaltPeaceModel", "clauseHere", "()V"⟩, 21), (⟨"SaltPeaceModel", "here", "()I"⟩, 21), (⟨"SaltPeaceModel", "tellsHere", "(ILjava/lang/String;)V"⟩, 21), (⟨"SaltPeaceModel", "spells", "(Ljava/lang/String;)V"⟩, 21), (⟨"SaltPeaceModel", "must", "(I)V"⟩, 21), (⟨"SaltPeaceModel", "figures", "()I"⟩, 21), (⟨"SaltPeaceModel", "much", "(ILjava/lang/String;)V"⟩, 21), (⟨"SaltPeaceModel", "some", "()V"⟩, 21), (⟨"SaltPeaceModel", "every", "()V"⟩, 21), (⟨"SaltPeaceModel", "factor", "()V"⟩, 21)]
theorem lw_r2 : ∀ q ∈ lw_privs_2, lw_okq q := List.forall_mem_cons.mpr ⟨lw_p16, List.forall_mem_cons.mpr ⟨lw_p17, List.forall_mem_cons.mpr ⟨lw_p18, List.forall_mem_cons.mpr ⟨lw_p19, List.forall_mem_cons.mpr ⟨lw_p20, List.forall_mem_cons.mpr ⟨lw_p21, List.forall_mem_cons.mpr ⟨lw_p22, List.forall_mem_cons.mpr ⟨lw_p23, List.forall_mem_cons.mpr ⟨lw_p24, List.forall_mem_cons.mpr ⟨lw_p25, List.forall_mem_cons.mpr ⟨lw_p26, List.forall_mem_cons.mpr ⟨lw_p27, List.forall_mem_cons.mpr ⟨lw_p28, List.forall_mem_cons.mpr ⟨lw_p29, List.forall_mem_cons.mpr ⟨lw_p30, List.forall_mem_cons.mpr ⟨lw_p31, fun _ h => absurd h List.not_mem_nil⟩⟩⟩⟩⟩⟩⟩⟩⟩⟩⟩⟩⟩⟩⟩⟩
theorem lw_p32 : lw_okq (⟨"SaltPeaceModel", "emits", "(I)V"⟩, 21) := ⟨⟨by decide +kernel, by decide +kernel⟩, List.mem_of_getElem? (i := 1009) (by decide +kernel), List.mem_of_getElem? (i := 1135) (by decide +kernel), List.mem_of_getElem? (i := 1136) (by decide +kernel)⟩
theorem lw_p33 : lw_okq (⟨"SaltPeaceModel", "among", "(Ljava/lang/String;)I"⟩, 21) := ⟨⟨by decide +kernel, by decide +kernel⟩, List.mem_of_getElem? (i := 1009) (by decide +kernel), List.mem_of_getElem? (i := 1140) (by decide +kernel), List.mem_of_getElem? (i := 1141) (by decide +kernel)⟩
theorem lw_p34 : lw_okq (⟨"SaltPeaceModel", "isPerson", "(I)Z"⟩, 21) := ⟨⟨by decide +kernel, by decide +kernel⟩, List.mem_of_getElem? (i := 1009) (by decide +kernel), List.mem_of_getElem? (i := 1157) (by decide +kernel), List.mem_of_getElem? (i := 1158) (by decide +kernel)⟩
theorem lw_p35 : lw_okq (⟨"SaltPeaceModel", "risesOf", "(I)I"⟩, 21) := ⟨⟨by decide +kernel, by decide +kernel⟩, List.mem_of_getElem? (i := 1009) (by decide +kernel), List.mem_of_getElem? (i := 1161) (by decide +kernel), List.mem_of_getElem? (i := 1162) (by decide +kernel)⟩
theorem lw_p36 : lw_okq (⟨"SaltPeaceModel", "looks", "(I)I"⟩, 21) := ⟨⟨by decide +kernel, by decide +kernel⟩, List.mem_of_getElem? (i := 1009) (by decide +kernel), List.mem_of_getElem? (i := 1165) (by decide +kernel), List.mem_of_getElem? (i := 1166) (by decide +kernel)⟩
theorem lw_p37 : lw_okq (⟨"SaltPeaceModel", "tellsOf", "(II)I"⟩, 21) := ⟨⟨by decide +kernel, by decide +kernel⟩, List.mem_of_getElem? (i := 1009) (by decide +kernel), List.mem_of_getElem? (i := 1169) (by decide +kernel), List.mem_of_getElem? (i := 1170) (by decide +kernel)⟩
theorem lw_p38 : lw_okq (⟨"SaltPeaceModel", "licksOf", "(I)I"⟩, 21) := ⟨⟨by decide +kernel, by decide +kernel⟩, List.mem_of_getElem? (i := 1009) (by decide +kernel), List.mem_of_getElem? (i := 1173) (by decide +kernel), List.mem_of_getElem? (i := 1174) (by decide +kernel)⟩
theorem lw_p39 : lw_okq (⟨"SaltPeaceModel", "takesOf", "(I)I"⟩, 21) := ⟨⟨by decide +kernel, by decide +kernel⟩, List.mem_of_getElem? (i := 1009) (by decide +kernel), List.mem_of_getElem? (i := 1177) (by decide +kernel), List.mem_of_getElem? (i := 1178) (by decide +kernel)⟩
theorem lw_p40 : lw_okq (⟨"SaltPeaceModel", "needNow", "()I"⟩, 21) := ⟨⟨by decide +kernel, by decide +kernel⟩, List.mem_of_getElem? (i := 1009) (by decide +kernel), List.mem_of_getElem? (i := 1181) (by decide +kernel), List.mem_of_getElem? (i := 1182) (by decide +kernel)⟩
theorem lw_p41 : lw_okq (⟨"SaltPeaceModel", "rainNow", "()I"⟩, 21) := ⟨⟨by decide +kernel, by decide +kernel⟩, List.mem_of_getElem? (i := 1009) (by decide +kernel), List.mem_of_getElem? (i := 1208) (by decide +kernel), List.mem_of_getElem? (i := 1209) (by decide +kernel)⟩
theorem lw_p42 : lw_okq (⟨"SaltPeaceModel", "sumOf", "(I)I"⟩, 21) := ⟨⟨by decide +kernel, by decide +kernel⟩, List.mem_of_getElem? (i := 1009) (by decide +kernel), List.mem_of_getElem? (i := 1212) (by decide +kernel), List.mem_of_getElem? (i := 1213) (by decide +kernel)⟩
theorem lw_p43 : lw_okq (⟨"SaltPeaceModel", "grudges", "()I"⟩, 21) := ⟨⟨by decide +kernel, by decide +kernel⟩, List.mem_of_getElem? (i := 1009) (by decide +kernel), List.mem_of_getElem? (i := 1216) (by decide +kernel), List.mem_of_getElem? (i := 1217) (by decide +kernel)⟩
theorem lw_p44 : lw_okq (⟨"SaltPeaceModel", "underRoofs", "()I"⟩, 21) := ⟨⟨by decide +kernel, by decide +kernel⟩, List.mem_of_getElem? (i := 1009) (by decide +kernel), List.mem_of_getElem? (i := 1220) (by decide +kernel), List.mem_of_getElem? (i := 1221) (by decide +kernel)⟩
theorem lw_p45 : lw_okq (⟨"SaltPeaceModel", "goes", "()V"⟩, 21) := ⟨⟨by decide +kernel, by decide +kernel⟩, List.mem_of_getElem? (i := 1009) (by decide +kernel), List.mem_of_getElem? (i := 1228) (by decide +kernel), List.mem_of_getElem? (i := 1229) (by decide +kernel)⟩
theorem lw_p46 : lw_okq (⟨"SaltPeaceModel", "rainsOn", "(I)V"⟩, 21) := ⟨⟨by decide +kernel, by decide +kernel⟩, List.mem_of_getElem? (i := 1009) (by decide +kernel), List.mem_of_getElem? (i := 1235) (by decide +kernel), List.mem_of_getElem? (i := 1236) (by decide +kernel)⟩
theorem lw_p47 : lw_okq (⟨"SaltPeaceModel", "keeps", "()V"⟩, 21) := ⟨⟨by decide +kernel, by decide +kernel⟩, List.mem_of_getElem? (i := 1009) (by decide +kernel), List.mem_of_getElem? (i := 1243) (by decide +kernel), List.mem_of_getElem? (i := 1244) (by decide +kernel)⟩
def lw_privs_3 : List (MethodName × Nat) := [(⟨"SaltPeaceModel", "emits", "(I)V"⟩, 21), (⟨"SaltPeaceModel", "among", "(Ljava/lang/String;)I"⟩, 21), (⟨"SaltPeaceModel", "isPerson", "(I)Z"⟩, 21), (⟨"SaltPeaceModel", "risesOf", "(I)I"⟩, 21), (⟨"SaltPeaceModel", "looks", "(I)I"⟩, 21), (⟨"SaltPeaceModel", "tellsOf", "(II)I"⟩, 21), (⟨"SaltPeaceModel", "licksOf", "(I)I"⟩, 21), (⟨"SaltPeaceModel", "takesOf", "(I)I"⟩, 21), (⟨"SaltPeaceModel", "needNow", "()I"⟩, 21), (⟨"SaltPeaceModel", "rainNow", "()I"⟩, 21), (⟨"SaltPeaceModel", "sumOf", "(I)I"⟩, 21), (⟨"SaltPeaceModel", "grudges", "()I"⟩, 21), (⟨"SaltPeaceModel", "underRoofs", "()I"⟩, 21), (⟨"SaltPeaceModel", "goes", "()V"⟩, 21), (⟨"SaltPeaceModel", "rainsOn", "(I)V"⟩, 21), (⟨"SaltPeaceModel", "keeps", "()V"⟩, 21)]
theorem lw_r3 : ∀ q ∈ lw_privs_3, lw_okq q := List.forall_mem_cons.mpr ⟨lw_p32, List.forall_mem_cons.mpr ⟨lw_p33, List.forall_mem_cons.mpr ⟨lw_p34, List.forall_mem_cons.mpr ⟨lw_p35, List.forall_mem_cons.mpr ⟨lw_p36, List.forall_mem_cons.mpr ⟨lw_p37, List.forall_mem_cons.mpr ⟨lw_p38, List.forall_mem_cons.mpr ⟨lw_p39, List.forall_mem_cons.mpr ⟨lw_p40, List.forall_mem_cons.mpr ⟨lw_p41, List.forall_mem_cons.mpr ⟨lw_p42, List.forall_mem_cons.mpr ⟨lw_p43, List.forall_mem_cons.mpr ⟨lw_p44, List.forall_mem_cons.mpr ⟨lw_p45, List.forall_mem_cons.mpr ⟨lw_p46, List.forall_mem_cons.mpr ⟨lw_p47, fun _ h => absurd h List.not_mem_nil⟩⟩⟩⟩⟩⟩⟩⟩⟩⟩⟩⟩⟩⟩⟩⟩
theorem lw_p48 : lw_okq (⟨"SaltPeaceModel", "goesOn", "(I)V"⟩, 21) := ⟨⟨by decide +kernel, by decide +kernel⟩, List.mem_of_getElem? (i := 1009) (by decide +kernel), List.mem_of_getElem? (i := 1247) (by decide +kernel), List.mem_of_getElem? (i := 1248) (by decide +kernel)⟩
theorem lw_p49 : lw_okq (⟨"SaltPeaceModel", "goesBack", "()V"⟩, 21) := ⟨⟨by decide +kernel, by decide +kernel⟩, List.mem_of_getElem? (i := 1009) (by decide +kernel), List.mem_of_getElem? (i := 1251) (by decide +kernel), List.mem_of_getElem? (i := 1252) (by decide +kernel)⟩
theorem lw_p50 : lw_okq (⟨"SaltPeaceModel", "warBehind", "()I"⟩, 21) := ⟨⟨by decide +kernel, by decide +kernel⟩, List.mem_of_getElem? (i := 1009) (by decide +kernel), List.mem_of_getElem? (i := 1259) (by decide +kernel), List.mem_of_getElem? (i := 1260) (by decide +kernel)⟩
theorem lw_p51 : lw_okq (⟨"SaltPeaceModel", "thinSide", "()I"⟩, 21) := ⟨⟨by decide +kernel, by decide +kernel⟩, List.mem_of_getElem? (i := 1009) (by decide +kernel), List.mem_of_getElem? (i := 1267) (by decide +kernel), List.mem_of_getElem? (i := 1268) (by decide +kernel)⟩
theorem lw_p52 : lw_okq (⟨"SaltPeaceModel", "warMuting", "(I)I"⟩, 21) := ⟨⟨by decide +kernel, by decide +kernel⟩, List.mem_of_getElem? (i := 1009) (by decide +kernel), List.mem_of_getElem? (i := 1283) (by decide +kernel), List.mem_of_getElem? (i := 1284) (by decide +kernel)⟩
theorem lw_p53 : lw_okq (⟨"SaltPeaceModel", "takenAt", "(I)I"⟩, 21) := ⟨⟨by decide +kernel, by decide +kernel⟩, List.mem_of_getElem? (i := 1009) (by decide +kernel), List.mem_of_getElem? (i := 1322) (by decide +kernel), List.mem_of_getElem? (i := 1323) (by decide +kernel)⟩
theorem lw_p54 : lw_okq (⟨"SaltPeaceModel", "isLeft", "(II)Z"⟩, 21) := ⟨⟨by decide +kernel, by decide +kernel⟩, List.mem_of_getElem? (i := 1009) (by decide +kernel), List.mem_of_getElem? (i := 1330) (by decide +kernel), List.mem_of_getElem? (i := 1331) (by decide +kernel)⟩
theorem lw_p55 : lw_okq (⟨"SaltPeaceModel", "areAsSeen", "()Z"⟩, 21) := ⟨⟨by decide +kernel, by decide +kernel⟩, List.mem_of_getElem? (i := 1009) (by decide +kernel), List.mem_of_getElem? (i := 1342) (by decide +kernel), List.mem_of_getElem? (i := 1343) (by decide +kernel)⟩
theorem lw_p56 : lw_okq (⟨"SaltPeaceModel", "isAsSeen", "(I)Z"⟩, 21) := ⟨⟨by decide +kernel, by decide +kernel⟩, List.mem_of_getElem? (i := 1009) (by decide +kernel), List.mem_of_getElem? (i := 1346) (by decide +kernel), List.mem_of_getElem? (i := 1347) (by decide +kernel)⟩
theorem lw_p57 : lw_okq (⟨"SaltPeaceModel", "does", "(II)V"⟩, 21) := ⟨⟨by decide +kernel, by decide +kernel⟩, List.mem_of_getElem? (i := 1009) (by decide +kernel), List.mem_of_getElem? (i := 1378) (by decide +kernel), List.mem_of_getElem? (i := 1379) (by decide +kernel)⟩
theorem lw_p58 : lw_okq (⟨"SaltPeaceModel", "wrongsActs", "(I)I"⟩, 21) := ⟨⟨by decide +kernel, by decide +kernel⟩, List.mem_of_getElem? (i := 1009) (by decide +kernel), List.mem_of_getElem? (i := 1394) (by decide +kernel), List.mem_of_getElem? (i := 1395) (by decide +kernel)⟩
theorem lw_p59 : lw_okq (⟨"SaltPeaceModel", "ranBody", "(I)V"⟩, 21) := ⟨⟨by decide +kernel, by decide +kernel⟩, List.mem_of_getElem? (i := 1009) (by decide +kernel), List.mem_of_getElem? (i := 1401) (by decide +kernel), List.mem_of_getElem? (i := 1402) (by decide +kernel)⟩
theorem lw_p60 : lw_okq (⟨"SaltPeaceModel", "plainWrongs", "(I)I"⟩, 21) := ⟨⟨by decide +kernel, by decide +kernel⟩, List.mem_of_getElem? (i := 1009) (by decide +kernel), List.mem_of_getElem? (i := 1405) (by decide +kernel), List.mem_of_getElem? (i := 1406) (by decide +kernel)⟩
theorem lw_p61 : lw_okq (⟨"SaltPeaceModel", "licksActs", "(I)I"⟩, 21) := ⟨⟨by decide +kernel, by decide +kernel⟩, List.mem_of_getElem? (i := 1009) (by decide +kernel), List.mem_of_getElem? (i := 1409) (by decide +kernel), List.mem_of_getElem? (i := 1410) (by decide +kernel)⟩
theorem lw_p62 : lw_okq (⟨"SaltPeaceModel", "plainLicks", "(I)I"⟩, 21) := ⟨⟨by decide +kernel, by decide +kernel⟩, List.mem_of_getElem? (i := 1009) (by decide +kernel), List.mem_of_getElem? (i := 1413) (by decide +kernel), List.mem_of_getElem? (i := 1414) (by decide +kernel)⟩
theorem lw_p63 : lw_okq (⟨"SaltPeaceModel", "tellsActs", "(I)I"⟩, 21) := ⟨⟨by decide +kernel, by decide +kernel⟩, List.mem_of_getElem? (i := 1009) (by decide +kernel), List.mem_of_getElem? (i := 1417) (by decide +kernel), List.mem_of_getElem? (i := 1418) (by decide +kernel)⟩
def lw_privs_4 : List (MethodName × Nat) := [(⟨"SaltPeaceModel", "goesOn", "(I)V"⟩, 21), (⟨"SaltPeaceModel", "goesBack", "()V"⟩, 21), (⟨"SaltPeaceModel", "warBehind", "()I"⟩, 21), (⟨"SaltPeaceModel", "thinSide", "()I"⟩, 21), (⟨"SaltPeaceModel", "warMuting", "(I)I"⟩, 21), (⟨"SaltPeaceModel", "takenAt", "(I)I"⟩, 21), (⟨"SaltPeaceModel", "isLeft", "(II)Z"⟩, 21), (⟨"SaltPeaceModel", "areAsSeen", "()Z"⟩, 21), (⟨"SaltPeaceModel", "isAsSeen", "(I)Z"⟩, 21), (⟨"SaltPeaceModel", "does", "(II)V"⟩, 21), (⟨"SaltPeaceModel", "wrongsActs", "(I)I"⟩, 21), (⟨"SaltPeaceModel", "ranBody", "(I)V"⟩, 21), (⟨"SaltPeaceModel", "plainWrongs", "(I)I"⟩, 21), (⟨"SaltPeaceModel", "licksActs", "(I)I"⟩, 21), (⟨"SaltPeaceModel", "plainLicks", "(I)I"⟩, 21), (⟨"SaltPeaceModel", "tellsActs", "(I)I"⟩, 21)]
theorem lw_r4 : ∀ q ∈ lw_privs_4, lw_okq q := List.forall_mem_cons.mpr ⟨lw_p48, List.forall_mem_cons.mpr ⟨lw_p49, List.forall_mem_cons.mpr ⟨lw_p50, List.forall_mem_cons.mpr ⟨lw_p51, List.forall_mem_cons.mpr ⟨lw_p52, List.forall_mem_cons.mpr ⟨lw_p53, List.forall_mem_cons.mpr ⟨lw_p54, List.forall_mem_cons.mpr ⟨lw_p55, List.forall_mem_cons.mpr ⟨lw_p56, List.forall_mem_cons.mpr ⟨lw_p57, List.forall_mem_cons.mpr ⟨lw_p58, List.forall_mem_cons.mpr ⟨lw_p59, List.forall_mem_cons.mpr ⟨lw_p60, List.forall_mem_cons.mpr ⟨lw_p61, List.forall_mem_cons.mpr ⟨lw_p62, List.forall_mem_cons.mpr ⟨lw_p63, fun _ h => absurd h List.not_mem_nil⟩⟩⟩⟩⟩⟩⟩⟩⟩⟩⟩⟩⟩⟩⟩⟩
theorem lw_p64 : lw_okq (⟨"SaltPeaceModel", "plainTelling", "(I)I"⟩, 21) := ⟨⟨by decide +kernel, by decide +kernel⟩, List.mem_of_getElem? (i := 1009) (by decide +kernel), List.mem_of_getElem? (i := 1421) (by decide +kernel), List.mem_of_getElem? (i := 1422) (by decide +kernel)⟩
def lw_privs_5 : List (MethodName × Nat) := [(⟨"SaltPeaceModel", "plainTelling", "(I)I"⟩, 21)]
theorem lw_r5 : ∀ q ∈ lw_privs_5, lw_okq q := List.forall_mem_cons.mpr ⟨lw_p64, fun _ h => absurd h List.not_mem_nil⟩
def lw_privs : List (MethodName × Nat) := lw_privs_1 ++ (lw_privs_2 ++ (lw_privs_3 ++ (lw_privs_4 ++ (lw_privs_5))))
def lw_tbl : List Cond := k2_sels lw_privs ++ tables_1
theorem lw_privs_ok : ∀ q ∈ lw_privs, lw_okq q := by
  show ∀ q ∈ lw_privs_1 ++ (lw_privs_2 ++ (lw_privs_3 ++ (lw_privs_4 ++ (lw_privs_5)))), lw_okq q
  exact List.forall_mem_append.mpr ⟨lw_r1, List.forall_mem_append.mpr ⟨lw_r2, List.forall_mem_append.mpr ⟨lw_r3, List.forall_mem_append.mpr ⟨lw_r4, lw_r5⟩⟩⟩⟩

/-! the words that are steady -/
def FT : List Cond := lw_tbl.filter goodWord
theorem ft_good {w : Cond} (h : w ∈ FT) : goodWord w = true := (List.mem_filter.mp h).2
theorem ft_tbl {w : Cond} (h : w ∈ FT) : w ∈ lw_tbl := (List.mem_filter.mp h).1
theorem ft_in (i : Nat) {w : Cond} (h : lw_tbl[i]? = some w) (hg : goodWord w = true) : w ∈ FT := List.mem_filter.mpr ⟨List.mem_of_getElem? h, hg⟩
def ftOk (ps : List (Nat × Cond)) : Bool := ps.all fun q => decide (lw_tbl[q.1]? = some q.2) && goodWord q.2
theorem ft_all {ps : List (Nat × Cond)} (h : ftOk ps = true) : ∀ q ∈ ps, q.2 ∈ FT := by
  intro q hq
  have h1 := List.all_eq_true.mp h q hq
  simp only [Bool.and_eq_true, decide_eq_true_eq] at h1
  exact ft_in q.1 h1.1 h1.2
/-- a method: its name, code, size of its locals, what it returns -/
abbrev MI : Type := MethodName × ByteArray × Nat × Option FieldType
def wsOf (M : MI) : List Cond := .code M.1 M.2.1 M.2.2.1 M.2.2.2 :: FT
theorem ft_goodIn {big : List Cond} (hb : ∀ w ∈ FT, w ∈ big) (ws : List Cond) (h : ∀ w ∈ ws, w ∈ FT) : GoodIn big ws := fun w hw => ⟨hb w (h w hw), good_of_word (ft_good (h w hw))⟩
/-! names, fields, codes -/
def RX0 : String := "SaltPeace$Bitter"
def TX0 : u_T := fun k => match k with
  | 0 => ("SaltPeace$Person", "kind", "I", true)
  | 1 => ("SaltPeace$Person", "number", "I", true)
  | 2 => ("SaltPeace$Person", "v", "I", true)
  | _ => ("SaltPeace$Person", "trace", "LSaltPeace$Rows;", true)
def tyX0 : Nat → FieldType := fun k => match k with
  | 0 => .int
  | 1 => .int
  | 2 => .int
  | _ => .object "SaltPeace$Rows"
abbrev wsX00 : List Cond := u_ws RX0 TX0 4
theorem nmX0 : ∀ a, a < 4 → ∀ b, b < 4 → a ≠ b → (TX0 a).2.1 ≠ (TX0 b).2.1 := by decide +kernel
theorem tyX0_ok : ∀ k, k < 4 → parseFieldDescriptor (TX0 k).2.2.1 = some (tyX0 k) := by decide +kernel
abbrev cX0_init : ByteArray := prog_2_method_1_code
def yX0_init : MethodName := ⟨RX0, "<init>", "(IIILSaltPeace$Rows;)V"⟩
abbrev cX0_rises : ByteArray := prog_2_method_2_code
def yX0_rises : MethodName := ⟨RX0, "rises", "(IIII)I"⟩
abbrev cX0_mostLicked : ByteArray := prog_2_method_3_code
def yX0_mostLicked : MethodName := ⟨RX0, "mostLicked", "(II)I"⟩
abbrev cX0_licks : ByteArray := prog_2_method_4_code
def yX0_licks : MethodName := ⟨RX0, "licks", "(I)I"⟩
def RX1 : String := "SaltPeace$Gentle"
def TX1 : u_T := fun k => match k with
  | 0 => ("SaltPeace$Person", "kind", "I", true)
  | 1 => ("SaltPeace$Person", "number", "I", true)
  | 2 => ("SaltPeace$Person", "v", "I", true)
  | _ => ("SaltPeace$Person", "trace", "LSaltPeace$Rows;", true)
def tyX1 : Nat → FieldType := fun k => match k with
  | 0 => .int
  | 1 => .int
  | 2 => .int
  | _ => .object "SaltPeace$Rows"
abbrev wsX10 : List Cond := u_ws RX1 TX1 4
theorem nmX1 : ∀ a, a < 4 → ∀ b, b < 4 → a ≠ b → (TX1 a).2.1 ≠ (TX1 b).2.1 := by decide +kernel
theorem tyX1_ok : ∀ k, k < 4 → parseFieldDescriptor (TX1 k).2.2.1 = some (tyX1 k) := by decide +kernel
abbrev cX1_init : ByteArray := prog_3_method_1_code
def yX1_init : MethodName := ⟨RX1, "<init>", "(IIILSaltPeace$Rows;)V"⟩
abbrev cX1_rises : ByteArray := prog_3_method_2_code
def yX1_rises : MethodName := ⟨RX1, "rises", "(IIII)I"⟩
abbrev cX1_mostLicked : ByteArray := prog_3_method_3_code
def yX1_mostLicked : MethodName := ⟨RX1, "mostLicked", "(II)I"⟩
abbrev cX1_wrongs : ByteArray := prog_3_method_4_code
def yX1_wrongs : MethodName := ⟨RX1, "wrongs", "(I)I"⟩
def RX2 : String := "SaltPeace$Meek"
def TX2 : u_T := fun k => match k with
  | 0 => ("SaltPeace$Person", "kind", "I", true)
  | 1 => ("SaltPeace$Person", "number", "I", true)
  | 2 => ("SaltPeace$Person", "v", "I", true)
  | _ => ("SaltPeace$Person", "trace", "LSaltPeace$Rows;", true)
def tyX2 : Nat → FieldType := fun k => match k with
  | 0 => .int
  | 1 => .int
  | 2 => .int
  | _ => .object "SaltPeace$Rows"
abbrev wsX20 : List Cond := u_ws RX2 TX2 4
theorem nmX2 : ∀ a, a < 4 → ∀ b, b < 4 → a ≠ b → (TX2 a).2.1 ≠ (TX2 b).2.1 := by decide +kernel
theorem tyX2_ok : ∀ k, k < 4 → parseFieldDescriptor (TX2 k).2.2.1 = some (tyX2 k) := by decide +kernel
abbrev cX2_init : ByteArray := prog_4_method_1_code
def yX2_init : MethodName := ⟨RX2, "<init>", "(IIILSaltPeace$Rows;)V"⟩
abbrev cX2_rises : ByteArray := prog_4_method_2_code
def yX2_rises : MethodName := ⟨RX2, "rises", "(IIII)I"⟩
abbrev cX2_mostLicked : ByteArray := prog_4_method_3_code
def yX2_mostLicked : MethodName := ⟨RX2, "mostLicked", "(II)I"⟩
abbrev cX2_tells : ByteArray := prog_4_method_4_code
def yX2_tells : MethodName := ⟨RX2, "tells", "(I)I"⟩
def RX3 : String := "SaltPeace$Moor"
def TX3 : u_T := fun k => match k with
  | 0 => ("SaltPeace$Moor", "salt", "[I", true)
  | 1 => ("SaltPeace$Moor", "taken", "[I", true)
  | 2 => ("SaltPeace$Moor", "ones", "[LSaltPeace$Person;", true)
  | 3 => ("SaltPeace$Moor", "side", "[I", true)
  | 4 => ("SaltPeace$Moor", "grudge", "[I", true)
  | 5 => ("SaltPeace$Moor", "eaten", "[I", true)
  | 6 => ("SaltPeace$Moor", "rows", "[I", true)
  | 7 => ("SaltPeace$Moor", "letters", "[I", true)
  | 8 => ("SaltPeace$Moor", "people", "I", false)
  | 9 => ("SaltPeace$Moor", "roofs", "I", false)
  | 10 => ("SaltPeace$Moor", "day", "I", false)
  | 11 => ("SaltPeace$Moor", "war", "Z", false)
  | 12 => ("SaltPeace$Moor", "treaty", "LSaltPeace$Treaty;", false)
  | 13 => ("SaltPeace$Moor", "treaties", "I", false)
  | 14 => ("SaltPeace$Moor", "still", "I", false)
  | _ => ("SaltPeace$Moor", "washed", "I", false)
def tyX3 : Nat → FieldType := fun k => match k with
  | 0 => .array .int
  | 1 => .array .int
  | 2 => .array (.object "SaltPeace$Person")
  | 3 => .array .int
  | 4 => .array .int
  | 5 => .array .int
  | 6 => .array .int
  | 7 => .array .int
  | 8 => .int
  | 9 => .int
  | 10 => .int
  | 11 => .boolean
  | 12 => .object "SaltPeace$Treaty"
  | 13 => .int
  | 14 => .int
  | _ => .int
abbrev wsX30 : List Cond := u_ws RX3 TX3 16
theorem nmX3 : ∀ a, a < 16 → ∀ b, b < 16 → a ≠ b → (TX3 a).2.1 ≠ (TX3 b).2.1 := by decide +kernel
theorem tyX3_ok : ∀ k, k < 16 → parseFieldDescriptor (TX3 k).2.2.1 = some (tyX3 k) := by decide +kernel
abbrev cX3_init : ByteArray := prog_5_method_1_code
def yX3_init : MethodName := ⟨RX3, "<init>", "(LSaltPeace$Treaty;LSaltPeace$Person;)V"⟩
abbrev cX3_copyFrom : ByteArray := prog_5_method_2_code
def yX3_copyFrom : MethodName := ⟨RX3, "copyFrom", "(LSaltPeace$Moor;)V"⟩
abbrev cX3_comes : ByteArray := prog_5_method_3_code
def yX3_comes : MethodName := ⟨RX3, "comes", "(LSaltPeace$Person;I)I"⟩
abbrev cX3_hasRoof : ByteArray := prog_5_method_4_code
def yX3_hasRoof : MethodName := ⟨RX3, "hasRoof", "(I)Z"⟩
abbrev cX3_saltAt : ByteArray := prog_5_method_5_code
def yX3_saltAt : MethodName := ⟨RX3, "saltAt", "(I)I"⟩
abbrev cX3_addSalt : ByteArray := prog_5_method_6_code
def yX3_addSalt : MethodName := ⟨RX3, "addSalt", "(II)V"⟩
abbrev cX3_forgets : ByteArray := prog_5_method_7_code
def yX3_forgets : MethodName := ⟨RX3, "forgets", "(I)V"⟩
abbrev cX3_allSalt : ByteArray := prog_5_method_8_code
def yX3_allSalt : MethodName := ⟨RX3, "allSalt", "()I"⟩
abbrev cX3_allGrudge : ByteArray := prog_5_method_9_code
def yX3_allGrudge : MethodName := ⟨RX3, "allGrudge", "()I"⟩
abbrev cX3_thinnestSide : ByteArray := prog_5_method_10_code
def yX3_thinnestSide : MethodName := ⟨RX3, "thinnestSide", "()I"⟩
abbrev cX3_takenFrom : ByteArray := prog_5_method_11_code
def yX3_takenFrom : MethodName := ⟨RX3, "takenFrom", "(I)I"⟩
abbrev cX3_capEaten : ByteArray := prog_5_method_12_code
def yX3_capEaten : MethodName := ⟨RX3, "capEaten", "()V"⟩
abbrev cX3_risesOf : ByteArray := prog_5_method_13_code
def yX3_risesOf : MethodName := ⟨RX3, "risesOf", "(I)I"⟩
abbrev cX3_takesNow : ByteArray := prog_5_method_14_code
def yX3_takesNow : MethodName := ⟨RX3, "takesNow", "(I)I"⟩
abbrev cX3_goDays : ByteArray := prog_5_method_15_code
def yX3_goDays : MethodName := ⟨RX3, "goDays", "(I)V"⟩
abbrev cX3_goDay : ByteArray := prog_5_method_16_code
def yX3_goDay : MethodName := ⟨RX3, "goDay", "()V"⟩
abbrev cX3_lick : ByteArray := prog_5_method_17_code
def yX3_lick : MethodName := ⟨RX3, "lick", "(I)V"⟩
abbrev cX3_rainFalls : ByteArray := prog_5_method_18_code
def yX3_rainFalls : MethodName := ⟨RX3, "rainFalls", "()V"⟩
def RX4 : String := "SaltPeace$Person"
def TX4 : u_T := fun k => match k with
  | 0 => ("SaltPeace$Person", "kind", "I", true)
  | 1 => ("SaltPeace$Person", "number", "I", true)
  | 2 => ("SaltPeace$Person", "v", "I", true)
  | _ => ("SaltPeace$Person", "trace", "LSaltPeace$Rows;", true)
def tyX4 : Nat → FieldType := fun k => match k with
  | 0 => .int
  | 1 => .int
  | 2 => .int
  | _ => .object "SaltPeace$Rows"
abbrev wsX40 : List Cond := u_ws RX4 TX4 4
theorem nmX4 : ∀ a, a < 4 → ∀ b, b < 4 → a ≠ b → (TX4 a).2.1 ≠ (TX4 b).2.1 := by decide +kernel
theorem tyX4_ok : ∀ k, k < 4 → parseFieldDescriptor (TX4 k).2.2.1 = some (tyX4 k) := by decide +kernel
abbrev cX4_init : ByteArray := prog_6_method_1_code
def yX4_init : MethodName := ⟨RX4, "<init>", "(IIILSaltPeace$Rows;)V"⟩
abbrev cX4_rises : ByteArray := prog_6_method_2_code
def yX4_rises : MethodName := ⟨RX4, "rises", "(IIII)I"⟩
abbrev cX4_mostLicked : ByteArray := prog_6_method_3_code
def yX4_mostLicked : MethodName := ⟨RX4, "mostLicked", "(II)I"⟩
abbrev cX4_wrongs : ByteArray := prog_6_method_4_code
def yX4_wrongs : MethodName := ⟨RX4, "wrongs", "(I)I"⟩
abbrev cX4_licks : ByteArray := prog_6_method_5_code
def yX4_licks : MethodName := ⟨RX4, "licks", "(I)I"⟩
abbrev cX4_tells : ByteArray := prog_6_method_6_code
def yX4_tells : MethodName := ⟨RX4, "tells", "(I)I"⟩
def RX5 : String := "SaltPeace$Proud"
def TX5 : u_T := fun k => match k with
  | 0 => ("SaltPeace$Person", "kind", "I", true)
  | 1 => ("SaltPeace$Person", "number", "I", true)
  | 2 => ("SaltPeace$Person", "v", "I", true)
  | _ => ("SaltPeace$Person", "trace", "LSaltPeace$Rows;", true)
def tyX5 : Nat → FieldType := fun k => match k with
  | 0 => .int
  | 1 => .int
  | 2 => .int
  | _ => .object "SaltPeace$Rows"
abbrev wsX50 : List Cond := u_ws RX5 TX5 4
theorem nmX5 : ∀ a, a < 4 → ∀ b, b < 4 → a ≠ b → (TX5 a).2.1 ≠ (TX5 b).2.1 := by decide +kernel
theorem tyX5_ok : ∀ k, k < 4 → parseFieldDescriptor (TX5 k).2.2.1 = some (tyX5 k) := by decide +kernel
abbrev cX5_init : ByteArray := prog_7_method_1_code
def yX5_init : MethodName := ⟨RX5, "<init>", "(IIILSaltPeace$Rows;)V"⟩
abbrev cX5_rises : ByteArray := prog_7_method_2_code
def yX5_rises : MethodName := ⟨RX5, "rises", "(IIII)I"⟩
abbrev cX5_mostLicked : ByteArray := prog_7_method_3_code
def yX5_mostLicked : MethodName := ⟨RX5, "mostLicked", "(II)I"⟩
abbrev cX5_wrongs : ByteArray := prog_7_method_4_code
def yX5_wrongs : MethodName := ⟨RX5, "wrongs", "(I)I"⟩
def RX6 : String := "SaltPeace$Reader"
def TX6 : u_T := fun k => match k with
  | 0 => ("SaltPeace$Reader", "signs", "[I", true)
  | 1 => ("SaltPeace$Reader", "amounts", "[I", true)
  | 2 => ("SaltPeace$Reader", "ends", "[I", true)
  | 3 => ("SaltPeace$Reader", "steps", "[I", true)
  | 4 => ("SaltPeace$Reader", "size", "I", false)
  | 5 => ("SaltPeace$Reader", "at", "I", false)
  | 6 => ("SaltPeace$Reader", "judged", "I", false)
  | 7 => ("SaltPeace$Reader", "stepped", "I", false)
  | 8 => ("SaltPeace$Reader", "rain", "I", false)
  | _ => ("SaltPeace$Reader", "need", "I", false)
def tyX6 : Nat → FieldType := fun k => match k with
  | 0 => .array .int
  | 1 => .array .int
  | 2 => .array .int
  | 3 => .array .int
  | 4 => .int
  | 5 => .int
  | 6 => .int
  | 7 => .int
  | 8 => .int
  | _ => .int
abbrev wsX60 : List Cond := u_ws RX6 TX6 10
theorem nmX6 : ∀ a, a < 10 → ∀ b, b < 10 → a ≠ b → (TX6 a).2.1 ≠ (TX6 b).2.1 := by decide +kernel
theorem tyX6_ok : ∀ k, k < 10 → parseFieldDescriptor (TX6 k).2.2.1 = some (tyX6 k) := by decide +kernel
abbrev cX6_init : ByteArray := prog_8_method_1_code
def yX6_init : MethodName := ⟨RX6, "<init>", "()V"⟩
abbrev cX6_faultIn : ByteArray := prog_8_method_2_code
def yX6_faultIn : MethodName := ⟨RX6, "faultIn", "(LSaltPeace$Rows;)I"⟩
abbrev cX6_treatyRead : ByteArray := prog_8_method_3_code
def yX6_treatyRead : MethodName := ⟨RX6, "treatyRead", "()LSaltPeace$Treaty;"⟩
abbrev cX6_start : ByteArray := prog_8_method_4_code
def yX6_start : MethodName := ⟨RX6, "start", "(LSaltPeace$Rows;)V"⟩
abbrev cX6_clause : ByteArray := prog_8_method_5_code
def yX6_clause : MethodName := ⟨RX6, "clause", "()Z"⟩
abbrev cX6_rest : ByteArray := prog_8_method_6_code
def yX6_rest : MethodName := ⟨RX6, "rest", "(I)Z"⟩
abbrev cX6_judge : ByteArray := prog_8_method_7_code
def yX6_judge : MethodName := ⟨RX6, "judge", "(I)Z"⟩
abbrev cX6_expression : ByteArray := prog_8_method_8_code
def yX6_expression : MethodName := ⟨RX6, "expression", "(I)Z"⟩
abbrev cX6_factor : ByteArray := prog_8_method_9_code
def yX6_factor : MethodName := ⟨RX6, "factor", "(I)Z"⟩
abbrev cX6_number : ByteArray := prog_8_method_10_code
def yX6_number : MethodName := ⟨RX6, "number", "()I"⟩
abbrev cX6_step : ByteArray := prog_8_method_11_code
def yX6_step : MethodName := ⟨RX6, "step", "(I)V"⟩
abbrev cX6_accept : ByteArray := prog_8_method_12_code
def yX6_accept : MethodName := ⟨RX6, "accept", "(I)Z"⟩
abbrev cX6_choice : ByteArray := prog_8_method_13_code
def yX6_choice : MethodName := ⟨RX6, "choice", "(Ljava/lang/String;)I"⟩
def RX7 : String := "SaltPeace$Rows"
def TX7 : u_T := fun k => match k with
  | 0 => ("SaltPeace$Rows", "first", "[I", true)
  | 1 => ("SaltPeace$Rows", "second", "[I", true)
  | 2 => ("SaltPeace$Rows", "third", "[I", true)
  | 3 => ("SaltPeace$Rows", "count", "I", false)
  | 4 => ("SaltPeace$Rows", "imageFirst", "[I", true)
  | 5 => ("SaltPeace$Rows", "imageSecond", "[I", true)
  | 6 => ("SaltPeace$Rows", "imageThird", "[I", true)
  | _ => ("SaltPeace$Rows", "imageCount", "I", false)
def tyX7 : Nat → FieldType := fun k => match k with
  | 0 => .array .int
  | 1 => .array .int
  | 2 => .array .int
  | 3 => .int
  | 4 => .array .int
  | 5 => .array .int
  | 6 => .array .int
  | _ => .int
abbrev wsX70 : List Cond := u_ws RX7 TX7 8
theorem nmX7 : ∀ a, a < 8 → ∀ b, b < 8 → a ≠ b → (TX7 a).2.1 ≠ (TX7 b).2.1 := by decide +kernel
theorem tyX7_ok : ∀ k, k < 8 → parseFieldDescriptor (TX7 k).2.2.1 = some (tyX7 k) := by decide +kernel
abbrev cX7_init : ByteArray := prog_9_method_1_code
def yX7_init : MethodName := ⟨RX7, "<init>", "(I)V"⟩
abbrev cX7_isFull : ByteArray := prog_9_method_2_code
def yX7_isFull : MethodName := ⟨RX7, "isFull", "()Z"⟩
abbrev cX7_kept : ByteArray := prog_9_method_3_code
def yX7_kept : MethodName := ⟨RX7, "kept", "()I"⟩
abbrev cX7_add : ByteArray := prog_9_method_4_code
def yX7_add : MethodName := ⟨RX7, "add", "(III)I"⟩
abbrev cX7_clear : ByteArray := prog_9_method_5_code
def yX7_clear : MethodName := ⟨RX7, "clear", "()I"⟩
abbrev cX7_keep : ByteArray := prog_9_method_6_code
def yX7_keep : MethodName := ⟨RX7, "keep", "()V"⟩
abbrev cX7_comeBack : ByteArray := prog_9_method_7_code
def yX7_comeBack : MethodName := ⟨RX7, "comeBack", "()V"⟩
def RX8 : String := "SaltPeace$Sly"
def TX8 : u_T := fun k => match k with
  | 0 => ("SaltPeace$Person", "kind", "I", true)
  | 1 => ("SaltPeace$Person", "number", "I", true)
  | 2 => ("SaltPeace$Person", "v", "I", true)
  | _ => ("SaltPeace$Person", "trace", "LSaltPeace$Rows;", true)
def tyX8 : Nat → FieldType := fun k => match k with
  | 0 => .int
  | 1 => .int
  | 2 => .int
  | _ => .object "SaltPeace$Rows"
abbrev wsX80 : List Cond := u_ws RX8 TX8 4
theorem nmX8 : ∀ a, a < 4 → ∀ b, b < 4 → a ≠ b → (TX8 a).2.1 ≠ (TX8 b).2.1 := by decide +kernel
theorem tyX8_ok : ∀ k, k < 4 → parseFieldDescriptor (TX8 k).2.2.1 = some (tyX8 k) := by decide +kernel
abbrev cX8_init : ByteArray := prog_10_method_1_code
def yX8_init : MethodName := ⟨RX8, "<init>", "(IIILSaltPeace$Rows;)V"⟩
abbrev cX8_rises : ByteArray := prog_10_method_2_code
def yX8_rises : MethodName := ⟨RX8, "rises", "(IIII)I"⟩
abbrev cX8_mostLicked : ByteArray := prog_10_method_3_code
def yX8_mostLicked : MethodName := ⟨RX8, "mostLicked", "(II)I"⟩
abbrev cX8_tells : ByteArray := prog_10_method_4_code
def yX8_tells : MethodName := ⟨RX8, "tells", "(I)I"⟩
def RX9 : String := "SaltPeace$Told"
def TX9 : u_T := fun k => match k with
  | 0 => ("SaltPeace$Person", "kind", "I", true)
  | 1 => ("SaltPeace$Person", "number", "I", true)
  | 2 => ("SaltPeace$Person", "v", "I", true)
  | _ => ("SaltPeace$Person", "trace", "LSaltPeace$Rows;", true)
def tyX9 : Nat → FieldType := fun k => match k with
  | 0 => .int
  | 1 => .int
  | 2 => .int
  | _ => .object "SaltPeace$Rows"
abbrev wsX90 : List Cond := u_ws RX9 TX9 4
theorem nmX9 : ∀ a, a < 4 → ∀ b, b < 4 → a ≠ b → (TX9 a).2.1 ≠ (TX9 b).2.1 := by decide +kernel
theorem tyX9_ok : ∀ k, k < 4 → parseFieldDescriptor (TX9 k).2.2.1 = some (tyX9 k) := by decide +kernel
abbrev cX9_init : ByteArray := prog_11_method_1_code
def yX9_init : MethodName := ⟨RX9, "<init>", "(IIILSaltPeace$Rows;)V"⟩
abbrev cX9_rises : ByteArray := prog_11_method_2_code
def yX9_rises : MethodName := ⟨RX9, "rises", "(IIII)I"⟩
abbrev cX9_licks : ByteArray := prog_11_method_3_code
def yX9_licks : MethodName := ⟨RX9, "licks", "(I)I"⟩
def RX10 : String := "SaltPeace$Treaty"
def TX10 : u_T := fun k => match k with
  | 0 => ("SaltPeace$Treaty", "rain", "I", true)
  | 1 => ("SaltPeace$Treaty", "need", "I", true)
  | 2 => ("SaltPeace$Treaty", "amounts", "[I", true)
  | 3 => ("SaltPeace$Treaty", "ends", "[I", true)
  | _ => ("SaltPeace$Treaty", "steps", "[I", true)
def tyX10 : Nat → FieldType := fun k => match k with
  | 0 => .int
  | 1 => .int
  | 2 => .array .int
  | 3 => .array .int
  | _ => .array .int
abbrev wsX100 : List Cond := u_ws RX10 TX10 5
theorem nmX10 : ∀ a, a < 5 → ∀ b, b < 5 → a ≠ b → (TX10 a).2.1 ≠ (TX10 b).2.1 := by decide +kernel
theorem tyX10_ok : ∀ k, k < 5 → parseFieldDescriptor (TX10 k).2.2.1 = some (tyX10 k) := by decide +kernel
abbrev cX10_init : ByteArray := prog_12_method_1_code
def yX10_init : MethodName := ⟨RX10, "<init>", "(II[I[I[I)V"⟩
abbrev cX10_testStep : ByteArray := prog_12_method_2_code
def yX10_testStep : MethodName := ⟨RX10, "testStep", "(III)I"⟩
abbrev cX10_anger : ByteArray := prog_12_method_3_code
def yX10_anger : MethodName := ⟨RX10, "anger", "([I)I"⟩
abbrev cX10_holds : ByteArray := prog_12_method_4_code
def yX10_holds : MethodName := ⟨RX10, "holds", "(II[I)Z"⟩
abbrev cX10_isSo : ByteArray := prog_12_method_5_code
def yX10_isSo : MethodName := ⟨RX10, "isSo", "(I[I)Z"⟩
def RX11 : String := "SaltPeace"
def TX11 : u_T := fun k => match k with
  | 0 => ("SaltPeace", "tape", "LSaltPeace$Rows;", true)
  | 1 => ("SaltPeace", "seen", "LSaltPeace$Rows;", true)
  | 2 => ("SaltPeace", "plan", "LSaltPeace$Rows;", true)
  | 3 => ("SaltPeace", "book", "LSaltPeace$Rows;", true)
  | 4 => ("SaltPeace", "trace", "LSaltPeace$Rows;", true)
  | 5 => ("SaltPeace", "reader", "LSaltPeace$Reader;", true)
  | 6 => ("SaltPeace", "moor", "LSaltPeace$Moor;", true)
  | 7 => ("SaltPeace", "kept", "LSaltPeace$Moor;", true)
  | 8 => ("SaltPeace", "trial", "LSaltPeace$Moor;", true)
  | _ => ("SaltPeace", "hasImage", "Z", false)
def tyX11 : Nat → FieldType := fun k => match k with
  | 0 => .object "SaltPeace$Rows"
  | 1 => .object "SaltPeace$Rows"
  | 2 => .object "SaltPeace$Rows"
  | 3 => .object "SaltPeace$Rows"
  | 4 => .object "SaltPeace$Rows"
  | 5 => .object "SaltPeace$Reader"
  | 6 => .object "SaltPeace$Moor"
  | 7 => .object "SaltPeace$Moor"
  | 8 => .object "SaltPeace$Moor"
  | _ => .boolean
abbrev wsX110 : List Cond := u_ws RX11 TX11 10
theorem nmX11 : ∀ a, a < 10 → ∀ b, b < 10 → a ≠ b → (TX11 a).2.1 ≠ (TX11 b).2.1 := by decide +kernel
theorem tyX11_ok : ∀ k, k < 10 → parseFieldDescriptor (TX11 k).2.2.1 = some (tyX11 k) := by decide +kernel
abbrev cX11_init : ByteArray := prog_1_method_1_code
def yX11_init : MethodName := ⟨RX11, "<init>", "()V"⟩
abbrev cX11_feed : ByteArray := prog_1_method_2_code
def yX11_feed : MethodName := ⟨RX11, "feed", "(I)I"⟩
abbrev cX11_treaty : ByteArray := prog_1_method_3_code
def yX11_treaty : MethodName := ⟨RX11, "treaty", "()I"⟩
abbrev cX11_person : ByteArray := prog_1_method_4_code
def yX11_person : MethodName := ⟨RX11, "person", "(III)I"⟩
abbrev cX11_of : ByteArray := prog_1_method_5_code
def yX11_of : MethodName := ⟨RX11, "of", "(II)I"⟩
abbrev cX11_row : ByteArray := prog_1_method_6_code
def yX11_row : MethodName := ⟨RX11, "row", "(III)I"⟩
abbrev cX11_set : ByteArray := prog_1_method_7_code
def yX11_set : MethodName := ⟨RX11, "set", "(III)I"⟩
abbrev cX11_salt : ByteArray := prog_1_method_8_code
def yX11_salt : MethodName := ⟨RX11, "salt", "(II)I"⟩
abbrev cX11_roof : ByteArray := prog_1_method_9_code
def yX11_roof : MethodName := ⟨RX11, "roof", "(IZ)I"⟩
abbrev cX11_told : ByteArray := prog_1_method_10_code
def yX11_told : MethodName := ⟨RX11, "told", "(I)I"⟩
abbrev cX11_pass : ByteArray := prog_1_method_11_code
def yX11_pass : MethodName := ⟨RX11, "pass", "(I)I"⟩
abbrev cX11_on : ByteArray := prog_1_method_12_code
def yX11_on : MethodName := ⟨RX11, "on", "(II)I"⟩
abbrev cX11_lasts : ByteArray := prog_1_method_13_code
def yX11_lasts : MethodName := ⟨RX11, "lasts", "()I"⟩
abbrev cX11_hollow : ByteArray := prog_1_method_14_code
def yX11_hollow : MethodName := ⟨RX11, "hollow", "()I"⟩
abbrev cX11_thinnest : ByteArray := prog_1_method_15_code
def yX11_thinnest : MethodName := ⟨RX11, "thinnest", "(II)I"⟩
abbrev cX11_greediest : ByteArray := prog_1_method_16_code
def yX11_greediest : MethodName := ⟨RX11, "greediest", "(I)I"⟩
abbrev cX11_forgive : ByteArray := prog_1_method_17_code
def yX11_forgive : MethodName := ⟨RX11, "forgive", "()I"⟩
abbrev cX11_move : ByteArray := prog_1_method_18_code
def yX11_move : MethodName := ⟨RX11, "move", "(I)I"⟩
abbrev cX11_roofs : ByteArray := prog_1_method_19_code
def yX11_roofs : MethodName := ⟨RX11, "roofs", "()I"⟩
abbrev cX11_share : ByteArray := prog_1_method_20_code
def yX11_share : MethodName := ⟨RX11, "share", "(III)J"⟩
abbrev cX11_angry : ByteArray := prog_1_method_21_code
def yX11_angry : MethodName := ⟨RX11, "angry", "(I)I"⟩
abbrev cX11_held : ByteArray := prog_1_method_22_code
def yX11_held : MethodName := ⟨RX11, "held", "(I)I"⟩
abbrev cX11_worst : ByteArray := prog_1_method_23_code
def yX11_worst : MethodName := ⟨RX11, "worst", "(II)I"⟩
abbrev cX11_watch : ByteArray := prog_1_method_24_code
def yX11_watch : MethodName := ⟨RX11, "watch", "(II)I"⟩
abbrev cX11_fill : ByteArray := prog_1_method_25_code
def yX11_fill : MethodName := ⟨RX11, "fill", "(II)I"⟩
abbrev cX11_see : ByteArray := prog_1_method_26_code
def yX11_see : MethodName := ⟨RX11, "see", "(III)I"⟩
abbrev cX11_who : ByteArray := prog_1_method_27_code
def yX11_who : MethodName := ⟨RX11, "who", "()I"⟩
abbrev cX11_firm : ByteArray := prog_1_method_28_code
def yX11_firm : MethodName := ⟨RX11, "firm", "(II)I"⟩
abbrev cX11_where : ByteArray := prog_1_method_29_code
def yX11_where : MethodName := ⟨RX11, "where", "(I)I"⟩
abbrev cX11_odds : ByteArray := prog_1_method_30_code
def yX11_odds : MethodName := ⟨RX11, "odds", "(II)J"⟩
abbrev cX11_mean : ByteArray := prog_1_method_31_code
def yX11_mean : MethodName := ⟨RX11, "mean", "(II)J"⟩
abbrev cX11_chips : ByteArray := prog_1_method_32_code
def yX11_chips : MethodName := ⟨RX11, "chips", "(I)I"⟩
abbrev cX11_plan : ByteArray := prog_1_method_33_code
def yX11_plan : MethodName := ⟨RX11, "plan", "(II)I"⟩
abbrev cX11_done : ByteArray := prog_1_method_34_code
def yX11_done : MethodName := ⟨RX11, "done", "(I)I"⟩
abbrev cX11_book : ByteArray := prog_1_method_35_code
def yX11_book : MethodName := ⟨RX11, "book", "(II)I"⟩
abbrev cX11_looked : ByteArray := prog_1_method_36_code
def yX11_looked : MethodName := ⟨RX11, "looked", "()I"⟩
abbrev cX11_act : ByteArray := prog_1_method_37_code
def yX11_act : MethodName := ⟨RX11, "act", "(III)I"⟩
abbrev cX11_trace : ByteArray := prog_1_method_38_code
def yX11_trace : MethodName := ⟨RX11, "trace", "(I)I"⟩
abbrev cX11_as : ByteArray := prog_1_method_39_code
def yX11_as : MethodName := ⟨RX11, "as", "(II)I"⟩
abbrev cX11_image : ByteArray := prog_1_method_40_code
def yX11_image : MethodName := ⟨RX11, "image", "()I"⟩
abbrev cX11_undo : ByteArray := prog_1_method_41_code
def yX11_undo : MethodName := ⟨RX11, "undo", "()I"⟩
abbrev cX11_count : ByteArray := prog_1_method_42_code
def yX11_count : MethodName := ⟨RX11, "count", "(I)I"⟩
abbrev cX11_isWithin : ByteArray := prog_1_method_43_code
def yX11_isWithin : MethodName := ⟨RX11, "isWithin", "(III)Z"⟩
abbrev cX11_isSide : ByteArray := prog_1_method_44_code
def yX11_isSide : MethodName := ⟨RX11, "isSide", "(I)Z"⟩
abbrev cX11_isKind : ByteArray := prog_1_method_45_code
def yX11_isKind : MethodName := ⟨RX11, "isKind", "(I)Z"⟩
abbrev cX11_isPerson : ByteArray := prog_1_method_46_code
def yX11_isPerson : MethodName := ⟨RX11, "isPerson", "(I)Z"⟩
abbrev cX11_isPlanned : ByteArray := prog_1_method_47_code
def yX11_isPlanned : MethodName := ⟨RX11, "isPlanned", "(II)Z"⟩
abbrev cX11_asItIs : ByteArray := prog_1_method_48_code
def yX11_asItIs : MethodName := ⟨RX11, "asItIs", "()LSaltPeace$Moor;"⟩
abbrev cX11_asIfStill : ByteArray := prog_1_method_49_code
def yX11_asIfStill : MethodName := ⟨RX11, "asIfStill", "(I)LSaltPeace$Moor;"⟩
abbrev cX11_asIfAt : ByteArray := prog_1_method_50_code
def yX11_asIfAt : MethodName := ⟨RX11, "asIfAt", "(II)LSaltPeace$Moor;"⟩
abbrev cX11_after : ByteArray := prog_1_method_51_code
def yX11_after : MethodName := ⟨RX11, "after", "(I)LSaltPeace$Moor;"⟩
abbrev cX11_daysLasting : ByteArray := prog_1_method_52_code
def yX11_daysLasting : MethodName := ⟨RX11, "daysLasting", "(LSaltPeace$Moor;)I"⟩
abbrev cX11_isAllSeen : ByteArray := prog_1_method_53_code
def yX11_isAllSeen : MethodName := ⟨RX11, "isAllSeen", "(LSaltPeace$Moor;)Z"⟩
abbrev cX11_isSeenAfter : ByteArray := prog_1_method_54_code
def yX11_isSeenAfter : MethodName := ⟨RX11, "isSeenAfter", "(LSaltPeace$Moor;I)Z"⟩
abbrev cX11_doRow : ByteArray := prog_1_method_55_code
def yX11_doRow : MethodName := ⟨RX11, "doRow", "(LSaltPeace$Moor;II)V"⟩
abbrev cX11_partOf : ByteArray := prog_1_method_56_code
def yX11_partOf : MethodName := ⟨RX11, "partOf", "(III)J"⟩
abbrev cX11_personOf : ByteArray := prog_1_method_57_code
def yX11_personOf : MethodName := ⟨RX11, "personOf", "(III)LSaltPeace$Person;"⟩
abbrev cX11_isOfKind : ByteArray := prog_1_method_58_code
def yX11_isOfKind : MethodName := ⟨RX11, "isOfKind", "(LSaltPeace$Person;I)Z"⟩
def RX12 : String := "SaltPeaceModel"
def TX12 : u_T := fun k => match k with
  | 0 => ("SaltPeaceModel", "thrown", "I", false)
  | 1 => ("SaltPeaceModel", "s", "[I", true)
  | 2 => ("SaltPeaceModel", "image", "[I", true)
  | 3 => ("SaltPeaceModel", "frame", "[I", true)
  | 4 => ("SaltPeaceModel", "hasImage", "Z", false)
  | 5 => ("SaltPeaceModel", "act", "I", false)
  | 6 => ("SaltPeaceModel", "spot", "I", false)
  | 7 => ("SaltPeaceModel", "end", "I", false)
  | 8 => ("SaltPeaceModel", "isWrong", "Z", false)
  | 9 => ("SaltPeaceModel", "open", "I", false)
  | 10 => ("SaltPeaceModel", "by", "[I", true)
  | 11 => ("SaltPeaceModel", "truths", "[Z", true)
  | 12 => ("SaltPeaceModel", "mute", "I", false)
  | 13 => ("SaltPeaceModel", "rises", "[I", true)
  | 14 => ("SaltPeaceModel", "taken", "[I", true)
  | 15 => ("SaltPeaceModel", "rained", "I", false)
  | 16 => ("SaltPeaceModel", "bodies", "[I", true)
  | 17 => ("SaltPeaceModel", "ran", "I", false)
  | 18 => ("SaltPeaceModel", "kind", "I", false)
  | 19 => ("SaltPeaceModel", "number", "I", false)
  | _ => ("SaltPeaceModel", "tellsV", "I", false)
def tyX12 : Nat → FieldType := fun k => match k with
  | 0 => .int
  | 1 => .array .int
  | 2 => .array .int
  | 3 => .array .int
  | 4 => .boolean
  | 5 => .int
  | 6 => .int
  | 7 => .int
  | 8 => .boolean
  | 9 => .int
  | 10 => .array .int
  | 11 => .array .boolean
  | 12 => .int
  | 13 => .array .int
  | 14 => .array .int
  | 15 => .int
  | 16 => .array .int
  | 17 => .int
  | 18 => .int
  | 19 => .int
  | _ => .int
abbrev wsX120 : List Cond := u_ws RX12 TX12 21
theorem nmX12 : ∀ a, a < 21 → ∀ b, b < 21 → a ≠ b → (TX12 a).2.1 ≠ (TX12 b).2.1 := by decide +kernel
theorem tyX12_ok : ∀ k, k < 21 → parseFieldDescriptor (TX12 k).2.2.1 = some (tyX12 k) := by decide +kernel
abbrev cX12_init : ByteArray := prog_14_method_1_code
def yX12_init : MethodName := ⟨RX12, "<init>", "()V"⟩
abbrev cX12_in : ByteArray := prog_14_method_3_code
def yX12_in : MethodName := ⟨RX12, "in", "(III)Z"⟩
abbrev cX12_within : ByteArray := prog_14_method_4_code
def yX12_within : MethodName := ⟨RX12, "within", "(III)I"⟩
abbrev cX12_less : ByteArray := prog_14_method_5_code
def yX12_less : MethodName := ⟨RX12, "less", "(II)I"⟩
abbrev cX12_isPerson : ByteArray := prog_14_method_6_code
def yX12_isPerson : MethodName := ⟨RX12, "isPerson", "(I)Z"⟩
abbrev cX12_isSide : ByteArray := prog_14_method_7_code
def yX12_isSide : MethodName := ⟨RX12, "isSide", "(I)Z"⟩
abbrev cX12_keeps : ByteArray := prog_14_method_8_code
def yX12_keeps : MethodName := ⟨RX12, "keeps", "()V"⟩
abbrev cX12_goesBack : ByteArray := prog_14_method_9_code
def yX12_goesBack : MethodName := ⟨RX12, "goesBack", "()V"⟩
abbrev cX12_feed : ByteArray := prog_14_method_10_code
def yX12_feed : MethodName := ⟨RX12, "feed", "(I)I"⟩
abbrev cX12_here : ByteArray := prog_14_method_11_code
def yX12_here : MethodName := ⟨RX12, "here", "()I"⟩
abbrev cX12_must : ByteArray := prog_14_method_12_code
def yX12_must : MethodName := ⟨RX12, "must", "(I)V"⟩
abbrev cX12_spells : ByteArray := prog_14_method_13_code
def yX12_spells : MethodName := ⟨RX12, "spells", "(Ljava/lang/String;)V"⟩
abbrev cX12_figures : ByteArray := prog_14_method_14_code
def yX12_figures : MethodName := ⟨RX12, "figures", "()I"⟩
abbrev cX12_among : ByteArray := prog_14_method_15_code
def yX12_among : MethodName := ⟨RX12, "among", "(Ljava/lang/String;)I"⟩
abbrev cX12_emits : ByteArray := prog_14_method_16_code
def yX12_emits : MethodName := ⟨RX12, "emits", "(I)V"⟩
abbrev cX12_factor : ByteArray := prog_14_method_17_code
def yX12_factor : MethodName := ⟨RX12, "factor", "()V"⟩
abbrev cX12_every : ByteArray := prog_14_method_18_code
def yX12_every : MethodName := ⟨RX12, "every", "()V"⟩
abbrev cX12_some : ByteArray := prog_14_method_19_code
def yX12_some : MethodName := ⟨RX12, "some", "()V"⟩
abbrev cX12_much : ByteArray := prog_14_method_20_code
def yX12_much : MethodName := ⟨RX12, "much", "(ILjava/lang/String;)V"⟩
abbrev cX12_tellsHere : ByteArray := prog_14_method_21_code
def yX12_tellsHere : MethodName := ⟨RX12, "tellsHere", "(ILjava/lang/String;)V"⟩
abbrev cX12_clauseHere : ByteArray := prog_14_method_22_code
def yX12_clauseHere : MethodName := ⟨RX12, "clauseHere", "()V"⟩
abbrev cX12_treaty : ByteArray := prog_14_method_23_code
def yX12_treaty : MethodName := ⟨RX12, "treaty", "()I"⟩
abbrev cX12_tellsOf : ByteArray := prog_14_method_24_code
def yX12_tellsOf : MethodName := ⟨RX12, "tellsOf", "(II)I"⟩
abbrev cX12_rainNow : ByteArray := prog_14_method_25_code
def yX12_rainNow : MethodName := ⟨RX12, "rainNow", "()I"⟩
abbrev cX12_needNow : ByteArray := prog_14_method_26_code
def yX12_needNow : MethodName := ⟨RX12, "needNow", "()I"⟩
abbrev cX12_looks : ByteArray := prog_14_method_27_code
def yX12_looks : MethodName := ⟨RX12, "looks", "(I)I"⟩
abbrev cX12_risesOf : ByteArray := prog_14_method_28_code
def yX12_risesOf : MethodName := ⟨RX12, "risesOf", "(I)I"⟩
abbrev cX12_licksOf : ByteArray := prog_14_method_29_code
def yX12_licksOf : MethodName := ⟨RX12, "licksOf", "(I)I"⟩
abbrev cX12_takesOf : ByteArray := prog_14_method_30_code
def yX12_takesOf : MethodName := ⟨RX12, "takesOf", "(I)I"⟩
abbrev cX12_person : ByteArray := prog_14_method_31_code
def yX12_person : MethodName := ⟨RX12, "person", "(III)I"⟩
abbrev cX12_of : ByteArray := prog_14_method_32_code
def yX12_of : MethodName := ⟨RX12, "of", "(II)I"⟩
abbrev cX12_row : ByteArray := prog_14_method_33_code
def yX12_row : MethodName := ⟨RX12, "row", "(III)I"⟩
abbrev cX12_set : ByteArray := prog_14_method_34_code
def yX12_set : MethodName := ⟨RX12, "set", "(III)I"⟩
abbrev cX12_salt : ByteArray := prog_14_method_35_code
def yX12_salt : MethodName := ⟨RX12, "salt", "(II)I"⟩
abbrev cX12_roof : ByteArray := prog_14_method_36_code
def yX12_roof : MethodName := ⟨RX12, "roof", "(IZ)I"⟩
abbrev cX12_sumOf : ByteArray := prog_14_method_37_code
def yX12_sumOf : MethodName := ⟨RX12, "sumOf", "(I)I"⟩
abbrev cX12_grudges : ByteArray := prog_14_method_38_code
def yX12_grudges : MethodName := ⟨RX12, "grudges", "()I"⟩
abbrev cX12_underRoofs : ByteArray := prog_14_method_39_code
def yX12_underRoofs : MethodName := ⟨RX12, "underRoofs", "()I"⟩
abbrev cX12_told : ByteArray := prog_14_method_40_code
def yX12_told : MethodName := ⟨RX12, "told", "(I)I"⟩
abbrev cX12_rainsOn : ByteArray := prog_14_method_41_code
def yX12_rainsOn : MethodName := ⟨RX12, "rainsOn", "(I)V"⟩
abbrev cX12_goes : ByteArray := prog_14_method_42_code
def yX12_goes : MethodName := ⟨RX12, "goes", "()V"⟩
abbrev cX12_goesOn : ByteArray := prog_14_method_43_code
def yX12_goesOn : MethodName := ⟨RX12, "goesOn", "(I)V"⟩
abbrev cX12_pass : ByteArray := prog_14_method_44_code
def yX12_pass : MethodName := ⟨RX12, "pass", "(I)I"⟩
abbrev cX12_on : ByteArray := prog_14_method_45_code
def yX12_on : MethodName := ⟨RX12, "on", "(II)I"⟩
abbrev cX12_warBehind : ByteArray := prog_14_method_46_code
def yX12_warBehind : MethodName := ⟨RX12, "warBehind", "()I"⟩
abbrev cX12_lasts : ByteArray := prog_14_method_47_code
def yX12_lasts : MethodName := ⟨RX12, "lasts", "()I"⟩
abbrev cX12_thinSide : ByteArray := prog_14_method_48_code
def yX12_thinSide : MethodName := ⟨RX12, "thinSide", "()I"⟩
abbrev cX12_hollow : ByteArray := prog_14_method_49_code
def yX12_hollow : MethodName := ⟨RX12, "hollow", "()I"⟩
abbrev cX12_thinnest : ByteArray := prog_14_method_50_code
def yX12_thinnest : MethodName := ⟨RX12, "thinnest", "(II)I"⟩
abbrev cX12_greediest : ByteArray := prog_14_method_51_code
def yX12_greediest : MethodName := ⟨RX12, "greediest", "(I)I"⟩
abbrev cX12_warMuting : ByteArray := prog_14_method_52_code
def yX12_warMuting : MethodName := ⟨RX12, "warMuting", "(I)I"⟩
abbrev cX12_forgive : ByteArray := prog_14_method_53_code
def yX12_forgive : MethodName := ⟨RX12, "forgive", "()I"⟩
abbrev cX12_move : ByteArray := prog_14_method_54_code
def yX12_move : MethodName := ⟨RX12, "move", "(I)I"⟩
abbrev cX12_roofs : ByteArray := prog_14_method_55_code
def yX12_roofs : MethodName := ⟨RX12, "roofs", "()I"⟩
abbrev cX12_lowest : ByteArray := prog_14_method_56_code
def yX12_lowest : MethodName := ⟨RX12, "lowest", "(JJI)J"⟩
abbrev cX12_share : ByteArray := prog_14_method_57_code
def yX12_share : MethodName := ⟨RX12, "share", "(III)J"⟩
abbrev cX12_angry : ByteArray := prog_14_method_58_code
def yX12_angry : MethodName := ⟨RX12, "angry", "(I)I"⟩
abbrev cX12_held : ByteArray := prog_14_method_59_code
def yX12_held : MethodName := ⟨RX12, "held", "(I)I"⟩
abbrev cX12_worst : ByteArray := prog_14_method_60_code
def yX12_worst : MethodName := ⟨RX12, "worst", "(II)I"⟩
abbrev cX12_sizeOf : ByteArray := prog_14_method_61_code
def yX12_sizeOf : MethodName := ⟨RX12, "sizeOf", "(I)I"⟩
abbrev cX12_takenAt : ByteArray := prog_14_method_62_code
def yX12_takenAt : MethodName := ⟨RX12, "takenAt", "(I)I"⟩
abbrev cX12_watch : ByteArray := prog_14_method_63_code
def yX12_watch : MethodName := ⟨RX12, "watch", "(II)I"⟩
abbrev cX12_isLeft : ByteArray := prog_14_method_64_code
def yX12_isLeft : MethodName := ⟨RX12, "isLeft", "(II)Z"⟩
abbrev cX12_fill : ByteArray := prog_14_method_65_code
def yX12_fill : MethodName := ⟨RX12, "fill", "(II)I"⟩
abbrev cX12_see : ByteArray := prog_14_method_66_code
def yX12_see : MethodName := ⟨RX12, "see", "(III)I"⟩
abbrev cX12_isAsSeen : ByteArray := prog_14_method_67_code
def yX12_isAsSeen : MethodName := ⟨RX12, "isAsSeen", "(I)Z"⟩
abbrev cX12_areAsSeen : ByteArray := prog_14_method_68_code
def yX12_areAsSeen : MethodName := ⟨RX12, "areAsSeen", "()Z"⟩
abbrev cX12_who : ByteArray := prog_14_method_69_code
def yX12_who : MethodName := ⟨RX12, "who", "()I"⟩
abbrev cX12_firm : ByteArray := prog_14_method_70_code
def yX12_firm : MethodName := ⟨RX12, "firm", "(II)I"⟩
abbrev cX12_where : ByteArray := prog_14_method_71_code
def yX12_where : MethodName := ⟨RX12, "where", "(I)I"⟩
abbrev cX12_odds : ByteArray := prog_14_method_72_code
def yX12_odds : MethodName := ⟨RX12, "odds", "(II)J"⟩
abbrev cX12_mean : ByteArray := prog_14_method_73_code
def yX12_mean : MethodName := ⟨RX12, "mean", "(II)J"⟩
abbrev cX12_chips : ByteArray := prog_14_method_74_code
def yX12_chips : MethodName := ⟨RX12, "chips", "(I)I"⟩
abbrev cX12_plan : ByteArray := prog_14_method_75_code
def yX12_plan : MethodName := ⟨RX12, "plan", "(II)I"⟩
abbrev cX12_does : ByteArray := prog_14_method_76_code
def yX12_does : MethodName := ⟨RX12, "does", "(II)V"⟩
abbrev cX12_done : ByteArray := prog_14_method_77_code
def yX12_done : MethodName := ⟨RX12, "done", "(I)I"⟩
abbrev cX12_book : ByteArray := prog_14_method_78_code
def yX12_book : MethodName := ⟨RX12, "book", "(II)I"⟩
abbrev cX12_looked : ByteArray := prog_14_method_79_code
def yX12_looked : MethodName := ⟨RX12, "looked", "()I"⟩
abbrev cX12_ranBody : ByteArray := prog_14_method_80_code
def yX12_ranBody : MethodName := ⟨RX12, "ranBody", "(I)V"⟩
abbrev cX12_isUnder : ByteArray := prog_14_method_81_code
def yX12_isUnder : MethodName := ⟨RX12, "isUnder", "(II)Z"⟩
abbrev cX12_plainWrongs : ByteArray := prog_14_method_82_code
def yX12_plainWrongs : MethodName := ⟨RX12, "plainWrongs", "(I)I"⟩
abbrev cX12_wrongsActs : ByteArray := prog_14_method_83_code
def yX12_wrongsActs : MethodName := ⟨RX12, "wrongsActs", "(I)I"⟩
abbrev cX12_plainLicks : ByteArray := prog_14_method_84_code
def yX12_plainLicks : MethodName := ⟨RX12, "plainLicks", "(I)I"⟩
abbrev cX12_licksActs : ByteArray := prog_14_method_85_code
def yX12_licksActs : MethodName := ⟨RX12, "licksActs", "(I)I"⟩
abbrev cX12_plainTelling : ByteArray := prog_14_method_86_code
def yX12_plainTelling : MethodName := ⟨RX12, "plainTelling", "(I)I"⟩
abbrev cX12_tellsActs : ByteArray := prog_14_method_87_code
def yX12_tellsActs : MethodName := ⟨RX12, "tellsActs", "(I)I"⟩
abbrev cX12_act : ByteArray := prog_14_method_88_code
def yX12_act : MethodName := ⟨RX12, "act", "(III)I"⟩
abbrev cX12_trace : ByteArray := prog_14_method_89_code
def yX12_trace : MethodName := ⟨RX12, "trace", "(I)I"⟩
abbrev cX12_as : ByteArray := prog_14_method_90_code
def yX12_as : MethodName := ⟨RX12, "as", "(II)I"⟩
abbrev cX12_image : ByteArray := prog_14_method_91_code
def yX12_image : MethodName := ⟨RX12, "image", "()I"⟩
abbrev cX12_undo : ByteArray := prog_14_method_92_code
def yX12_undo : MethodName := ⟨RX12, "undo", "()I"⟩
abbrev cX12_count : ByteArray := prog_14_method_93_code
def yX12_count : MethodName := ⟨RX12, "count", "(I)I"⟩
def RJ11 : String := "java/lang/Character"
def RJ6 : String := "java/lang/Integer"
def RJ9 : String := "java/lang/Math"
def RJ0 : String := "java/lang/String"
def RJ1 : String := "java/lang/StringLatin1"
def RJ2 : String := "java/lang/StringUTF16"
def RJ10 : String := "java/lang/System"
def RJ7 : String := "java/util/Arrays"
def RJ3 : String := "jdk/internal/util/Preconditions"
abbrev cJ11_isValidCodePoint_9a6ad : ByteArray := prog_15_method_11_code
def yJ11_isValidCodePoint_9a6ad : MethodName := ⟨RJ11, "isValidCodePoint", "(I)Z"⟩
abbrev cJ11_highSurrogate_5068e : ByteArray := prog_15_method_28_code
def yJ11_highSurrogate_5068e : MethodName := ⟨RJ11, "highSurrogate", "(I)C"⟩
abbrev cJ11_lowSurrogate_5068e : ByteArray := prog_15_method_29_code
def yJ11_lowSurrogate_5068e : MethodName := ⟨RJ11, "lowSurrogate", "(I)C"⟩
abbrev cJ6_bitCount_0f7a4 : ByteArray := prog_17_method_49_code
def yJ6_bitCount_0f7a4 : MethodName := ⟨RJ6, "bitCount", "(I)I"⟩
abbrev cJ9_max_7cf53 : ByteArray := prog_18_method_65_code
def yJ9_max_7cf53 : MethodName := ⟨RJ9, "max", "(II)I"⟩
abbrev cJ9_min_7cf53 : ByteArray := prog_18_method_69_code
def yJ9_min_7cf53 : MethodName := ⟨RJ9, "min", "(II)I"⟩
abbrev cJ0_length_8abf5 : ByteArray := prog_19_method_54_code
def yJ0_length_8abf5 : MethodName := ⟨RJ0, "length", "()I"⟩
abbrev cJ0_charAt_5068e : ByteArray := prog_19_method_56_code
def yJ0_charAt_5068e : MethodName := ⟨RJ0, "charAt", "(I)C"⟩
abbrev cJ0_indexOf_0f7a4 : ByteArray := prog_19_method_79_code
def yJ0_indexOf_0f7a4 : MethodName := ⟨RJ0, "indexOf", "(I)I"⟩
abbrev cJ0_indexOf_7cf53 : ByteArray := prog_19_method_80_code
def yJ0_indexOf_7cf53 : MethodName := ⟨RJ0, "indexOf", "(II)I"⟩
abbrev cJ0_coder_7d493 : ByteArray := prog_19_method_152_code
def yJ0_coder_7d493 : MethodName := ⟨RJ0, "coder", "()B"⟩
abbrev cJ0_isLatin1_aae02 : ByteArray := prog_19_method_154_code
def yJ0_isLatin1_aae02 : MethodName := ⟨RJ0, "isLatin1", "()Z"⟩
abbrev cJ0_checkIndex_df160 : ByteArray := prog_19_method_155_code
def yJ0_checkIndex_df160 : MethodName := ⟨RJ0, "checkIndex", "(II)V"⟩
abbrev cJ0_checkBoundsBeginEnd_23922 : ByteArray := prog_19_method_158_code
def yJ0_checkBoundsBeginEnd_23922 : MethodName := ⟨RJ0, "checkBoundsBeginEnd", "(III)V"⟩
abbrev cJ1_charAt_3b067 : ByteArray := prog_20_method_2_code
def yJ1_charAt_3b067 : MethodName := ⟨RJ1, "charAt", "([BI)C"⟩
abbrev cJ1_canEncode_9a6ad : ByteArray := prog_20_method_4_code
def yJ1_canEncode_9a6ad : MethodName := ⟨RJ1, "canEncode", "(I)Z"⟩
abbrev cJ1_indexOf_4cfef : ByteArray := prog_20_method_22_code
def yJ1_indexOf_4cfef : MethodName := ⟨RJ1, "indexOf", "([BIII)I"⟩
abbrev cJ1_indexOfChar_4cfef : ByteArray := prog_20_method_23_code
def yJ1_indexOfChar_4cfef : MethodName := ⟨RJ1, "indexOfChar", "([BIII)I"⟩
abbrev cJ2_getChar_3b067 : ByteArray := prog_21_method_5_code
def yJ2_getChar_3b067 : MethodName := ⟨RJ2, "getChar", "([BI)C"⟩
abbrev cJ2_length_9d52b : ByteArray := prog_21_method_6_code
def yJ2_length_9d52b : MethodName := ⟨RJ2, "length", "([B)I"⟩
abbrev cJ2_indexOf_4cfef : ByteArray := prog_21_method_40_code
def yJ2_indexOf_4cfef : MethodName := ⟨RJ2, "indexOf", "([BIII)I"⟩
abbrev cJ2_indexOfChar_4cfef : ByteArray := prog_21_method_47_code
def yJ2_indexOfChar_4cfef : MethodName := ⟨RJ2, "indexOfChar", "([BIII)I"⟩
abbrev cJ2_indexOfCharUnsafe_4cfef : ByteArray := prog_21_method_48_code
def yJ2_indexOfCharUnsafe_4cfef : MethodName := ⟨RJ2, "indexOfCharUnsafe", "([BIII)I"⟩
abbrev cJ2_indexOfSupplementary_4cfef : ByteArray := prog_21_method_49_code
def yJ2_indexOfSupplementary_4cfef : MethodName := ⟨RJ2, "indexOfSupplementary", "([BIII)I"⟩
abbrev cJ2_charAt_3b067 : ByteArray := prog_21_method_83_code
def yJ2_charAt_3b067 : MethodName := ⟨RJ2, "charAt", "([BI)C"⟩
abbrev cJ2_checkIndex_2214a : ByteArray := prog_21_method_91_code
def yJ2_checkIndex_2214a : MethodName := ⟨RJ2, "checkIndex", "(I[B)V"⟩
abbrev cJ2_checkBoundsBeginEnd_d044e : ByteArray := prog_21_method_93_code
def yJ2_checkBoundsBeginEnd_d044e : MethodName := ⟨RJ2, "checkBoundsBeginEnd", "(II[B)V"⟩
abbrev cJ7_rangeCheck_23922 : ByteArray := prog_23_method_30_code
def yJ7_rangeCheck_23922 : MethodName := ⟨RJ7, "rangeCheck", "(III)V"⟩
abbrev cJ7_fill_53178 : ByteArray := prog_23_method_103_code
def yJ7_fill_53178 : MethodName := ⟨RJ7, "fill", "([II)V"⟩
abbrev cJ7_fill_fda19 : ByteArray := prog_23_method_104_code
def yJ7_fill_fda19 : MethodName := ⟨RJ7, "fill", "([IIII)V"⟩
abbrev cJ7_copyOf_59c91 : ByteArray := prog_23_method_123_code
def yJ7_copyOf_59c91 : MethodName := ⟨RJ7, "copyOf", "([II)[I"⟩
abbrev cJ3_checkIndex_8e157 : ByteArray := prog_24_method_11_code
def yJ3_checkIndex_8e157 : MethodName := ⟨RJ3, "checkIndex", "(IILjava/util/function/BiFunction;)I"⟩
abbrev cJ3_checkFromToIndex_8c36e : ByteArray := prog_24_method_12_code
def yJ3_checkFromToIndex_8c36e : MethodName := ⟨RJ3, "checkFromToIndex", "(IIILjava/util/function/BiFunction;)I"⟩
def RL : String := "SaltPeaceLaw"
abbrev cL_law : ByteArray := code
def yL_law : MethodName := ⟨RL, "law", "([I)Z"⟩
abbrev M_X0_init : MI := (yX0_init, cX0_init, 5, none)
abbrev M_X0_rises : MI := (yX0_rises, cX0_rises, 5, (some .int))
abbrev M_X0_mostLicked : MI := (yX0_mostLicked, cX0_mostLicked, 3, (some .int))
abbrev M_X0_licks : MI := (yX0_licks, cX0_licks, 2, (some .int))
abbrev M_X1_init : MI := (yX1_init, cX1_init, 5, none)
abbrev M_X1_rises : MI := (yX1_rises, cX1_rises, 5, (some .int))
abbrev M_X1_mostLicked : MI := (yX1_mostLicked, cX1_mostLicked, 3, (some .int))
abbrev M_X1_wrongs : MI := (yX1_wrongs, cX1_wrongs, 2, (some .int))
abbrev M_X2_init : MI := (yX2_init, cX2_init, 5, none)
abbrev M_X2_rises : MI := (yX2_rises, cX2_rises, 5, (some .int))
abbrev M_X2_mostLicked : MI := (yX2_mostLicked, cX2_mostLicked, 3, (some .int))
abbrev M_X2_tells : MI := (yX2_tells, cX2_tells, 2, (some .int))
abbrev M_X3_init : MI := (yX3_init, cX3_init, 4, none)
abbrev M_X3_copyFrom : MI := (yX3_copyFrom, cX3_copyFrom, 3, none)
abbrev M_X3_comes : MI := (yX3_comes, cX3_comes, 4, (some .int))
abbrev M_X3_hasRoof : MI := (yX3_hasRoof, cX3_hasRoof, 2, (some .boolean))
abbrev M_X3_saltAt : MI := (yX3_saltAt, cX3_saltAt, 2, (some .int))
abbrev M_X3_addSalt : MI := (yX3_addSalt, cX3_addSalt, 3, none)
abbrev M_X3_forgets : MI := (yX3_forgets, cX3_forgets, 2, none)
abbrev M_X3_allSalt : MI := (yX3_allSalt, cX3_allSalt, 3, (some .int))
abbrev M_X3_allGrudge : MI := (yX3_allGrudge, cX3_allGrudge, 3, (some .int))
abbrev M_X3_thinnestSide : MI := (yX3_thinnestSide, cX3_thinnestSide, 3, (some .int))
abbrev M_X3_takenFrom : MI := (yX3_takenFrom, cX3_takenFrom, 4, (some .int))
abbrev M_X3_capEaten : MI := (yX3_capEaten, cX3_capEaten, 2, none)
abbrev M_X3_risesOf : MI := (yX3_risesOf, cX3_risesOf, 4, (some .int))
abbrev M_X3_takesNow : MI := (yX3_takesNow, cX3_takesNow, 3, (some .int))
abbrev M_X3_goDays : MI := (yX3_goDays, cX3_goDays, 3, none)
abbrev M_X3_goDay : MI := (yX3_goDay, cX3_goDay, 2, none)
abbrev M_X3_lick : MI := (yX3_lick, cX3_lick, 4, none)
abbrev M_X3_rainFalls : MI := (yX3_rainFalls, cX3_rainFalls, 3, none)
abbrev M_X4_init : MI := (yX4_init, cX4_init, 5, none)
abbrev M_X4_rises : MI := (yX4_rises, cX4_rises, 5, (some .int))
abbrev M_X4_mostLicked : MI := (yX4_mostLicked, cX4_mostLicked, 3, (some .int))
abbrev M_X4_wrongs : MI := (yX4_wrongs, cX4_wrongs, 2, (some .int))
abbrev M_X4_licks : MI := (yX4_licks, cX4_licks, 2, (some .int))
abbrev M_X4_tells : MI := (yX4_tells, cX4_tells, 2, (some .int))
abbrev M_X5_init : MI := (yX5_init, cX5_init, 5, none)
abbrev M_X5_rises : MI := (yX5_rises, cX5_rises, 7, (some .int))
abbrev M_X5_mostLicked : MI := (yX5_mostLicked, cX5_mostLicked, 3, (some .int))
abbrev M_X5_wrongs : MI := (yX5_wrongs, cX5_wrongs, 2, (some .int))
abbrev M_X6_init : MI := (yX6_init, cX6_init, 1, none)
abbrev M_X6_faultIn : MI := (yX6_faultIn, cX6_faultIn, 3, (some .int))
abbrev M_X6_treatyRead : MI := (yX6_treatyRead, cX6_treatyRead, 1, (some (.object "SaltPeace$Treaty")))
abbrev M_X6_start : MI := (yX6_start, cX6_start, 2, none)
abbrev M_X6_clause : MI := (yX6_clause, cX6_clause, 3, (some .boolean))
abbrev M_X6_rest : MI := (yX6_rest, cX6_rest, 4, (some .boolean))
abbrev M_X6_judge : MI := (yX6_judge, cX6_judge, 2, (some .boolean))
abbrev M_X6_expression : MI := (yX6_expression, cX6_expression, 5, (some .boolean))
abbrev M_X6_factor : MI := (yX6_factor, cX6_factor, 5, (some .boolean))
abbrev M_X6_number : MI := (yX6_number, cX6_number, 3, (some .int))
abbrev M_X6_step : MI := (yX6_step, cX6_step, 2, none)
abbrev M_X6_accept : MI := (yX6_accept, cX6_accept, 2, (some .boolean))
abbrev M_X6_choice : MI := (yX6_choice, cX6_choice, 3, (some .int))
abbrev M_X7_init : MI := (yX7_init, cX7_init, 3, none)
abbrev M_X7_isFull : MI := (yX7_isFull, cX7_isFull, 1, (some .boolean))
abbrev M_X7_kept : MI := (yX7_kept, cX7_kept, 1, (some .int))
abbrev M_X7_add : MI := (yX7_add, cX7_add, 4, (some .int))
abbrev M_X7_clear : MI := (yX7_clear, cX7_clear, 1, (some .int))
abbrev M_X7_keep : MI := (yX7_keep, cX7_keep, 1, none)
abbrev M_X7_comeBack : MI := (yX7_comeBack, cX7_comeBack, 1, none)
abbrev M_X8_init : MI := (yX8_init, cX8_init, 5, none)
abbrev M_X8_rises : MI := (yX8_rises, cX8_rises, 5, (some .int))
abbrev M_X8_mostLicked : MI := (yX8_mostLicked, cX8_mostLicked, 3, (some .int))
abbrev M_X8_tells : MI := (yX8_tells, cX8_tells, 2, (some .int))
abbrev M_X9_init : MI := (yX9_init, cX9_init, 5, none)
abbrev M_X9_rises : MI := (yX9_rises, cX9_rises, 5, (some .int))
abbrev M_X9_licks : MI := (yX9_licks, cX9_licks, 2, (some .int))
abbrev M_X10_init : MI := (yX10_init, cX10_init, 6, none)
abbrev M_X10_testStep : MI := (yX10_testStep, cX10_testStep, 3, (some .int))
abbrev M_X10_anger : MI := (yX10_anger, cX10_anger, 5, (some .int))
abbrev M_X10_holds : MI := (yX10_holds, cX10_holds, 7, (some .boolean))
abbrev M_X10_isSo : MI := (yX10_isSo, cX10_isSo, 5, (some .boolean))
abbrev M_X11_init : MI := (yX11_init, cX11_init, 3, none)
abbrev M_X11_feed : MI := (yX11_feed, cX11_feed, 2, (some .int))
abbrev M_X11_treaty : MI := (yX11_treaty, cX11_treaty, 2, (some .int))
abbrev M_X11_person : MI := (yX11_person, cX11_person, 4, (some .int))
abbrev M_X11_of : MI := (yX11_of, cX11_of, 3, (some .int))
abbrev M_X11_row : MI := (yX11_row, cX11_row, 5, (some .int))
abbrev M_X11_set : MI := (yX11_set, cX11_set, 6, (some .int))
abbrev M_X11_salt : MI := (yX11_salt, cX11_salt, 4, (some .int))
abbrev M_X11_roof : MI := (yX11_roof, cX11_roof, 4, (some .int))
abbrev M_X11_told : MI := (yX11_told, cX11_told, 2, (some .int))
abbrev M_X11_pass : MI := (yX11_pass, cX11_pass, 2, (some .int))
abbrev M_X11_on : MI := (yX11_on, cX11_on, 5, (some .int))
abbrev M_X11_lasts : MI := (yX11_lasts, cX11_lasts, 2, (some .int))
abbrev M_X11_hollow : MI := (yX11_hollow, cX11_hollow, 1, (some .int))
abbrev M_X11_thinnest : MI := (yX11_thinnest, cX11_thinnest, 5, (some .int))
abbrev M_X11_greediest : MI := (yX11_greediest, cX11_greediest, 7, (some .int))
abbrev M_X11_forgive : MI := (yX11_forgive, cX11_forgive, 5, (some .int))
abbrev M_X11_move : MI := (yX11_move, cX11_move, 6, (some .int))
abbrev M_X11_roofs : MI := (yX11_roofs, cX11_roofs, 6, (some .int))
abbrev M_X11_share : MI := (yX11_share, cX11_share, 7, (some .long))
abbrev M_X11_angry : MI := (yX11_angry, cX11_angry, 4, (some .int))
abbrev M_X11_held : MI := (yX11_held, cX11_held, 4, (some .int))
abbrev M_X11_worst : MI := (yX11_worst, cX11_worst, 7, (some .int))
abbrev M_X11_watch : MI := (yX11_watch, cX11_watch, 8, (some .int))
abbrev M_X11_fill : MI := (yX11_fill, cX11_fill, 5, (some .int))
abbrev M_X11_see : MI := (yX11_see, cX11_see, 4, (some .int))
abbrev M_X11_who : MI := (yX11_who, cX11_who, 3, (some .int))
abbrev M_X11_firm : MI := (yX11_firm, cX11_firm, 7, (some .int))
abbrev M_X11_where : MI := (yX11_where, cX11_where, 4, (some .int))
abbrev M_X11_odds : MI := (yX11_odds, cX11_odds, 5, (some .long))
abbrev M_X11_mean : MI := (yX11_mean, cX11_mean, 3, (some .long))
abbrev M_X11_chips : MI := (yX11_chips, cX11_chips, 2, (some .int))
abbrev M_X11_plan : MI := (yX11_plan, cX11_plan, 3, (some .int))
abbrev M_X11_done : MI := (yX11_done, cX11_done, 4, (some .int))
abbrev M_X11_book : MI := (yX11_book, cX11_book, 3, (some .int))
abbrev M_X11_looked : MI := (yX11_looked, cX11_looked, 2, (some .int))
abbrev M_X11_act : MI := (yX11_act, cX11_act, 4, (some .int))
abbrev M_X11_trace : MI := (yX11_trace, cX11_trace, 2, (some .int))
abbrev M_X11_as : MI := (yX11_as, cX11_as, 3, (some .int))
abbrev M_X11_image : MI := (yX11_image, cX11_image, 1, (some .int))
abbrev M_X11_undo : MI := (yX11_undo, cX11_undo, 1, (some .int))
abbrev M_X11_count : MI := (yX11_count, cX11_count, 2, (some .int))
abbrev M_X11_isWithin : MI := (yX11_isWithin, cX11_isWithin, 3, (some .boolean))
abbrev M_X11_isSide : MI := (yX11_isSide, cX11_isSide, 1, (some .boolean))
abbrev M_X11_isKind : MI := (yX11_isKind, cX11_isKind, 1, (some .boolean))
abbrev M_X11_isPerson : MI := (yX11_isPerson, cX11_isPerson, 2, (some .boolean))
abbrev M_X11_isPlanned : MI := (yX11_isPlanned, cX11_isPlanned, 3, (some .boolean))
abbrev M_X11_asItIs : MI := (yX11_asItIs, cX11_asItIs, 1, (some (.object "SaltPeace$Moor")))
abbrev M_X11_asIfStill : MI := (yX11_asIfStill, cX11_asIfStill, 2, (some (.object "SaltPeace$Moor")))
abbrev M_X11_asIfAt : MI := (yX11_asIfAt, cX11_asIfAt, 3, (some (.object "SaltPeace$Moor")))
abbrev M_X11_after : MI := (yX11_after, cX11_after, 2, (some (.object "SaltPeace$Moor")))
abbrev M_X11_daysLasting : MI := (yX11_daysLasting, cX11_daysLasting, 2, (some .int))
abbrev M_X11_isAllSeen : MI := (yX11_isAllSeen, cX11_isAllSeen, 3, (some .boolean))
abbrev M_X11_isSeenAfter : MI := (yX11_isSeenAfter, cX11_isSeenAfter, 4, (some .boolean))
abbrev M_X11_doRow : MI := (yX11_doRow, cX11_doRow, 3, none)
abbrev M_X11_partOf : MI := (yX11_partOf, cX11_partOf, 7, (some .long))
abbrev M_X11_personOf : MI := (yX11_personOf, cX11_personOf, 4, (some (.object "SaltPeace$Person")))
abbrev M_X11_isOfKind : MI := (yX11_isOfKind, cX11_isOfKind, 2, (some .boolean))
abbrev M_X12_init : MI := (yX12_init, cX12_init, 2, none)
abbrev M_X12_in : MI := (yX12_in, cX12_in, 3, (some .boolean))
abbrev M_X12_within : MI := (yX12_within, cX12_within, 3, (some .int))
abbrev M_X12_less : MI := (yX12_less, cX12_less, 2, (some .int))
abbrev M_X12_isPerson : MI := (yX12_isPerson, cX12_isPerson, 2, (some .boolean))
abbrev M_X12_isSide : MI := (yX12_isSide, cX12_isSide, 1, (some .boolean))
abbrev M_X12_keeps : MI := (yX12_keeps, cX12_keeps, 2, none)
abbrev M_X12_goesBack : MI := (yX12_goesBack, cX12_goesBack, 2, none)
abbrev M_X12_feed : MI := (yX12_feed, cX12_feed, 2, (some .int))
abbrev M_X12_here : MI := (yX12_here, cX12_here, 1, (some .int))
abbrev M_X12_must : MI := (yX12_must, cX12_must, 2, none)
abbrev M_X12_spells : MI := (yX12_spells, cX12_spells, 3, none)
abbrev M_X12_figures : MI := (yX12_figures, cX12_figures, 3, (some .int))
abbrev M_X12_among : MI := (yX12_among, cX12_among, 3, (some .int))
abbrev M_X12_emits : MI := (yX12_emits, cX12_emits, 2, none)
abbrev M_X12_factor : MI := (yX12_factor, cX12_factor, 5, none)
abbrev M_X12_every : MI := (yX12_every, cX12_every, 1, none)
abbrev M_X12_some : MI := (yX12_some, cX12_some, 1, none)
abbrev M_X12_much : MI := (yX12_much, cX12_much, 4, none)
abbrev M_X12_tellsHere : MI := (yX12_tellsHere, cX12_tellsHere, 4, none)
abbrev M_X12_clauseHere : MI := (yX12_clauseHere, cX12_clauseHere, 1, none)
abbrev M_X12_treaty : MI := (yX12_treaty, cX12_treaty, 2, (some .int))
abbrev M_X12_tellsOf : MI := (yX12_tellsOf, cX12_tellsOf, 3, (some .int))
abbrev M_X12_rainNow : MI := (yX12_rainNow, cX12_rainNow, 1, (some .int))
abbrev M_X12_needNow : MI := (yX12_needNow, cX12_needNow, 2, (some .int))
abbrev M_X12_looks : MI := (yX12_looks, cX12_looks, 11, (some .int))
abbrev M_X12_risesOf : MI := (yX12_risesOf, cX12_risesOf, 5, (some .int))
abbrev M_X12_licksOf : MI := (yX12_licksOf, cX12_licksOf, 2, (some .int))
abbrev M_X12_takesOf : MI := (yX12_takesOf, cX12_takesOf, 2, (some .int))
abbrev M_X12_person : MI := (yX12_person, cX12_person, 6, (some .int))
abbrev M_X12_of : MI := (yX12_of, cX12_of, 3, (some .int))
abbrev M_X12_row : MI := (yX12_row, cX12_row, 5, (some .int))
abbrev M_X12_set : MI := (yX12_set, cX12_set, 6, (some .int))
abbrev M_X12_salt : MI := (yX12_salt, cX12_salt, 4, (some .int))
abbrev M_X12_roof : MI := (yX12_roof, cX12_roof, 4, (some .int))
abbrev M_X12_sumOf : MI := (yX12_sumOf, cX12_sumOf, 4, (some .int))
abbrev M_X12_grudges : MI := (yX12_grudges, cX12_grudges, 3, (some .int))
abbrev M_X12_underRoofs : MI := (yX12_underRoofs, cX12_underRoofs, 3, (some .int))
abbrev M_X12_told : MI := (yX12_told, cX12_told, 2, (some .int))
abbrev M_X12_rainsOn : MI := (yX12_rainsOn, cX12_rainsOn, 3, none)
abbrev M_X12_goes : MI := (yX12_goes, cX12_goes, 4, none)
abbrev M_X12_goesOn : MI := (yX12_goesOn, cX12_goesOn, 3, none)
abbrev M_X12_pass : MI := (yX12_pass, cX12_pass, 4, (some .int))
abbrev M_X12_on : MI := (yX12_on, cX12_on, 4, (some .int))
abbrev M_X12_warBehind : MI := (yX12_warBehind, cX12_warBehind, 2, (some .int))
abbrev M_X12_lasts : MI := (yX12_lasts, cX12_lasts, 2, (some .int))
abbrev M_X12_thinSide : MI := (yX12_thinSide, cX12_thinSide, 3, (some .int))
abbrev M_X12_hollow : MI := (yX12_hollow, cX12_hollow, 1, (some .int))
abbrev M_X12_thinnest : MI := (yX12_thinnest, cX12_thinnest, 5, (some .int))
abbrev M_X12_greediest : MI := (yX12_greediest, cX12_greediest, 6, (some .int))
abbrev M_X12_warMuting : MI := (yX12_warMuting, cX12_warMuting, 3, (some .int))
abbrev M_X12_forgive : MI := (yX12_forgive, cX12_forgive, 5, (some .int))
abbrev M_X12_move : MI := (yX12_move, cX12_move, 6, (some .int))
abbrev M_X12_roofs : MI := (yX12_roofs, cX12_roofs, 5, (some .int))
abbrev M_X12_lowest : MI := (yX12_lowest, cX12_lowest, 11, (some .long))
abbrev M_X12_share : MI := (yX12_share, cX12_share, 8, (some .long))
abbrev M_X12_angry : MI := (yX12_angry, cX12_angry, 4, (some .int))
abbrev M_X12_held : MI := (yX12_held, cX12_held, 4, (some .int))
abbrev M_X12_worst : MI := (yX12_worst, cX12_worst, 7, (some .int))
abbrev M_X12_sizeOf : MI := (yX12_sizeOf, cX12_sizeOf, 3, (some .int))
abbrev M_X12_takenAt : MI := (yX12_takenAt, cX12_takenAt, 4, (some .int))
abbrev M_X12_watch : MI := (yX12_watch, cX12_watch, 6, (some .int))
abbrev M_X12_isLeft : MI := (yX12_isLeft, cX12_isLeft, 4, (some .boolean))
abbrev M_X12_fill : MI := (yX12_fill, cX12_fill, 4, (some .int))
abbrev M_X12_see : MI := (yX12_see, cX12_see, 4, (some .int))
abbrev M_X12_isAsSeen : MI := (yX12_isAsSeen, cX12_isAsSeen, 4, (some .boolean))
abbrev M_X12_areAsSeen : MI := (yX12_areAsSeen, cX12_areAsSeen, 3, (some .boolean))
abbrev M_X12_who : MI := (yX12_who, cX12_who, 3, (some .int))
abbrev M_X12_firm : MI := (yX12_firm, cX12_firm, 8, (some .int))
abbrev M_X12_where : MI := (yX12_where, cX12_where, 4, (some .int))
abbrev M_X12_odds : MI := (yX12_odds, cX12_odds, 6, (some .long))
abbrev M_X12_mean : MI := (yX12_mean, cX12_mean, 4, (some .long))
abbrev M_X12_chips : MI := (yX12_chips, cX12_chips, 2, (some .int))
abbrev M_X12_plan : MI := (yX12_plan, cX12_plan, 3, (some .int))
abbrev M_X12_does : MI := (yX12_does, cX12_does, 3, none)
abbrev M_X12_done : MI := (yX12_done, cX12_done, 3, (some .int))
abbrev M_X12_book : MI := (yX12_book, cX12_book, 3, (some .int))
abbrev M_X12_looked : MI := (yX12_looked, cX12_looked, 2, (some .int))
abbrev M_X12_ranBody : MI := (yX12_ranBody, cX12_ranBody, 2, none)
abbrev M_X12_isUnder : MI := (yX12_isUnder, cX12_isUnder, 2, (some .boolean))
abbrev M_X12_plainWrongs : MI := (yX12_plainWrongs, cX12_plainWrongs, 2, (some .int))
abbrev M_X12_wrongsActs : MI := (yX12_wrongsActs, cX12_wrongsActs, 2, (some .int))
abbrev M_X12_plainLicks : MI := (yX12_plainLicks, cX12_plainLicks, 2, (some .int))
abbrev M_X12_licksActs : MI := (yX12_licksActs, cX12_licksActs, 2, (some .int))
abbrev M_X12_plainTelling : MI := (yX12_plainTelling, cX12_plainTelling, 2, (some .int))
abbrev M_X12_tellsActs : MI := (yX12_tellsActs, cX12_tellsActs, 3, (some .int))
abbrev M_X12_act : MI := (yX12_act, cX12_act, 4, (some .int))
abbrev M_X12_trace : MI := (yX12_trace, cX12_trace, 2, (some .int))
abbrev M_X12_as : MI := (yX12_as, cX12_as, 3, (some .int))
abbrev M_X12_image : MI := (yX12_image, cX12_image, 2, (some .int))
abbrev M_X12_undo : MI := (yX12_undo, cX12_undo, 2, (some .int))
abbrev M_X12_count : MI := (yX12_count, cX12_count, 2, (some .int))
abbrev M_J11_isValidCodePoint_9a6ad : MI := (yJ11_isValidCodePoint_9a6ad, cJ11_isValidCodePoint_9a6ad, 2, (some .boolean))
abbrev M_J11_highSurrogate_5068e : MI := (yJ11_highSurrogate_5068e, cJ11_highSurrogate_5068e, 1, (some .char))
abbrev M_J11_lowSurrogate_5068e : MI := (yJ11_lowSurrogate_5068e, cJ11_lowSurrogate_5068e, 1, (some .char))
abbrev M_J6_bitCount_0f7a4 : MI := (yJ6_bitCount_0f7a4, cJ6_bitCount_0f7a4, 1, (some .int))
abbrev M_J9_max_7cf53 : MI := (yJ9_max_7cf53, cJ9_max_7cf53, 2, (some .int))
abbrev M_J9_min_7cf53 : MI := (yJ9_min_7cf53, cJ9_min_7cf53, 2, (some .int))
abbrev M_J0_length_8abf5 : MI := (yJ0_length_8abf5, cJ0_length_8abf5, 1, (some .int))
abbrev M_J0_charAt_5068e : MI := (yJ0_charAt_5068e, cJ0_charAt_5068e, 2, (some .char))
abbrev M_J0_indexOf_0f7a4 : MI := (yJ0_indexOf_0f7a4, cJ0_indexOf_0f7a4, 2, (some .int))
abbrev M_J0_indexOf_7cf53 : MI := (yJ0_indexOf_7cf53, cJ0_indexOf_7cf53, 3, (some .int))
abbrev M_J0_coder_7d493 : MI := (yJ0_coder_7d493, cJ0_coder_7d493, 1, (some .byte))
abbrev M_J0_isLatin1_aae02 : MI := (yJ0_isLatin1_aae02, cJ0_isLatin1_aae02, 1, (some .boolean))
abbrev M_J0_checkIndex_df160 : MI := (yJ0_checkIndex_df160, cJ0_checkIndex_df160, 2, none)
abbrev M_J0_checkBoundsBeginEnd_23922 : MI := (yJ0_checkBoundsBeginEnd_23922, cJ0_checkBoundsBeginEnd_23922, 3, none)
abbrev M_J1_charAt_3b067 : MI := (yJ1_charAt_3b067, cJ1_charAt_3b067, 2, (some .char))
abbrev M_J1_canEncode_9a6ad : MI := (yJ1_canEncode_9a6ad, cJ1_canEncode_9a6ad, 1, (some .boolean))
abbrev M_J1_indexOf_4cfef : MI := (yJ1_indexOf_4cfef, cJ1_indexOf_4cfef, 4, (some .int))
abbrev M_J1_indexOfChar_4cfef : MI := (yJ1_indexOfChar_4cfef, cJ1_indexOfChar_4cfef, 6, (some .int))
abbrev M_J2_getChar_3b067 : MI := (yJ2_getChar_3b067, cJ2_getChar_3b067, 2, (some .char))
abbrev M_J2_length_9d52b : MI := (yJ2_length_9d52b, cJ2_length_9d52b, 1, (some .int))
abbrev M_J2_indexOf_4cfef : MI := (yJ2_indexOf_4cfef, cJ2_indexOf_4cfef, 4, (some .int))
abbrev M_J2_indexOfChar_4cfef : MI := (yJ2_indexOfChar_4cfef, cJ2_indexOfChar_4cfef, 4, (some .int))
abbrev M_J2_indexOfCharUnsafe_4cfef : MI := (yJ2_indexOfCharUnsafe_4cfef, cJ2_indexOfCharUnsafe_4cfef, 5, (some .int))
abbrev M_J2_indexOfSupplementary_4cfef : MI := (yJ2_indexOfSupplementary_4cfef, cJ2_indexOfSupplementary_4cfef, 7, (some .int))
abbrev M_J2_charAt_3b067 : MI := (yJ2_charAt_3b067, cJ2_charAt_3b067, 2, (some .char))
abbrev M_J2_checkIndex_2214a : MI := (yJ2_checkIndex_2214a, cJ2_checkIndex_2214a, 2, none)
abbrev M_J2_checkBoundsBeginEnd_d044e : MI := (yJ2_checkBoundsBeginEnd_d044e, cJ2_checkBoundsBeginEnd_d044e, 3, none)
abbrev M_J7_rangeCheck_23922 : MI := (yJ7_rangeCheck_23922, cJ7_rangeCheck_23922, 3, none)
abbrev M_J7_fill_53178 : MI := (yJ7_fill_53178, cJ7_fill_53178, 4, none)
abbrev M_J7_fill_fda19 : MI := (yJ7_fill_fda19, cJ7_fill_fda19, 5, none)
abbrev M_J7_copyOf_59c91 : MI := (yJ7_copyOf_59c91, cJ7_copyOf_59c91, 3, (some (.array .int)))
abbrev M_J3_checkIndex_8e157 : MI := (yJ3_checkIndex_8e157, cJ3_checkIndex_8e157, 3, (some .int))
abbrev M_J3_checkFromToIndex_8c36e : MI := (yJ3_checkFromToIndex_8c36e, cJ3_checkFromToIndex_8c36e, 4, (some .int))
abbrev M_L_law : MI := (yL_law, cL_law, 4, (some .boolean))
abbrev vwCl : List vw_C := [(RX0, TX0, 4), (RX1, TX1, 4), (RX2, TX2, 4), (RX3, TX3, 16), (RX4, TX4, 4), (RX5, TX5, 4), (RX6, TX6, 10), (RX7, TX7, 8), (RX8, TX8, 4), (RX9, TX9, 4), (RX10, TX10, 5), (RX11, TX11, 10), (RX12, TX12, 21)]
theorem ft_goodIn2 {ws : List Cond} {ps : List Nat} (h : (decide (ws.map some = ps.map (fun i => lw_tbl[i]?)) && ws.all goodWord) = true) : ∀ w ∈ ws, w ∈ FT := by
  simp only [Bool.and_eq_true, decide_eq_true_eq] at h
  intro w hw
  have h1 : some w ∈ ps.map (fun i => lw_tbl[i]?) := h.1 ▸ List.mem_map.mpr ⟨w, hw, rfl⟩
  obtain ⟨i, -, hi⟩ := List.mem_map.mp h1
  exact ft_in i hi (List.all_eq_true.mp h.2 w hw)
/-- a class of the tables: its name, fields, how many, their types -/
def CI (ci : Nat) (C : String) (T : u_T) (N : Nat) (ty : Nat → FieldType) : Prop := vwCl[ci]? = some (C, T, N) ∧ (∀ w ∈ u_ws C T N, w ∈ FT) ∧ (∀ k, k < N → parseFieldDescriptor (T k).2.2.1 = some (ty k)) ∧ ∀ a, a < N → ∀ b, b < N → a ≠ b → (T a).2.1 ≠ (T b).2.1
set_option maxRecDepth 20000 in
theorem ci_0 : CI 0 RX0 TX0 4 tyX0 := ⟨rfl, fun w hw => ft_goodIn2 (ps := [592, 593, 594, 595]) (by decide +kernel) w hw, tyX0_ok, nmX0⟩
set_option maxRecDepth 20000 in
theorem ci_1 : CI 1 RX1 TX1 4 tyX1 := ⟨rfl, fun w hw => ft_goodIn2 (ps := [581, 582, 583, 584]) (by decide +kernel) w hw, tyX1_ok, nmX1⟩
set_option maxRecDepth 20000 in
theorem ci_2 : CI 2 RX2 TX2 4 tyX2 := ⟨rfl, fun w hw => ft_goodIn2 (ps := [614, 615, 616, 617]) (by decide +kernel) w hw, tyX2_ok, nmX2⟩
set_option maxRecDepth 20000 in
theorem ci_3 : CI 3 RX3 TX3 16 tyX3 := ⟨rfl, fun w hw => ft_goodIn2 (ps := [286, 288, 290, 292, 294, 296, 298, 300, 302, 304, 306, 308, 310, 312, 314, 316]) (by decide +kernel) w hw, tyX3_ok, nmX3⟩
set_option maxRecDepth 20000 in
theorem ci_4 : CI 4 RX4 TX4 4 tyX4 := ⟨rfl, fun w hw => ft_goodIn2 (ps := [236, 238, 240, 242]) (by decide +kernel) w hw, tyX4_ok, nmX4⟩
set_option maxRecDepth 20000 in
theorem ci_5 : CI 5 RX5 TX5 4 tyX5 := ⟨rfl, fun w hw => ft_goodIn2 (ps := [625, 626, 627, 628]) (by decide +kernel) w hw, tyX5_ok, nmX5⟩
set_option maxRecDepth 20000 in
theorem ci_6 : CI 6 RX6 TX6 10 tyX6 := ⟨rfl, fun w hw => ft_goodIn2 (ps := [152, 154, 156, 158, 160, 162, 164, 166, 168, 170]) (by decide +kernel) w hw, tyX6_ok, nmX6⟩
set_option maxRecDepth 20000 in
theorem ci_7 : CI 7 RX7 TX7 8 tyX7 := ⟨rfl, fun w hw => ft_goodIn2 (ps := [118, 120, 122, 124, 126, 128, 130, 132]) (by decide +kernel) w hw, tyX7_ok, nmX7⟩
set_option maxRecDepth 20000 in
theorem ci_8 : CI 8 RX8 TX8 4 tyX8 := ⟨rfl, fun w hw => ft_goodIn2 (ps := [603, 604, 605, 606]) (by decide +kernel) w hw, tyX8_ok, nmX8⟩
set_option maxRecDepth 20000 in
theorem ci_9 : CI 9 RX9 TX9 4 tyX9 := ⟨rfl, fun w hw => ft_goodIn2 (ps := [636, 637, 638, 639]) (by decide +kernel) w hw, tyX9_ok, nmX9⟩
set_option maxRecDepth 20000 in
theorem ci_10 : CI 10 RX10 TX10 5 tyX10 := ⟨rfl, fun w hw => ft_goodIn2 (ps := [189, 191, 193, 195, 197]) (by decide +kernel) w hw, tyX10_ok, nmX10⟩
set_option maxRecDepth 20000 in
theorem ci_11 : CI 11 RX11 TX11 10 tyX11 := ⟨rfl, fun w hw => ft_goodIn2 (ps := [329, 331, 333, 335, 337, 339, 341, 343, 345, 347]) (by decide +kernel) w hw, tyX11_ok, nmX11⟩
set_option maxRecDepth 20000 in
theorem ci_12 : CI 12 RX12 TX12 21 tyX12 := ⟨rfl, fun w hw => ft_goodIn2 (ps := [1099, 1101, 1103, 1105, 1107, 1109, 1111, 1113, 1115, 1117, 1119, 1121, 1123, 1125, 1127, 1129, 1131, 1133, 1135, 1137, 1139]) (by decide +kernel) w hw, tyX12_ok, nmX12⟩
/-! String constants, links of nest mates, casts -/
def strLen : List Nat := [4, 4, 4, 5, 4, 10, 6, 3, 5, 5, 6, 5]
def strByt : List (List Int32) := [[114, 110, 119, 99], [97, 105, 110, 32], [101, 101, 100, 32], [114, 111, 110, 103, 32], [97, 108, 109, 32], [48, 49, 50, 51, 52, 53, 54, 55, 56, 57], [112, 107, 118, 115, 103, 100], [60, 61, 62], [114, 97, 105, 110, 32], [110, 101, 101, 100, 32], [119, 114, 111, 110, 103, 32], [99, 97, 108, 109, 32]]
def strRefs : List (String × Nat × String × Nat) := [("SaltPeace$Reader", 87, "rnwc", 0), ("SaltPeace$Reader", 105, "ain ", 1), ("SaltPeace$Reader", 107, "eed ", 2), ("SaltPeace$Reader", 109, "rong ", 3), ("SaltPeace$Reader", 111, "alm ", 4), ("SaltPeace$Reader", 137, "0123456789", 5), ("SaltPeace$Reader", 129, "pkvsgd", 6), ("SaltPeace$Reader", 131, "<=>", 7), ("SaltPeaceModel", 108, "rain ", 8), ("SaltPeaceModel", 114, "need ", 9), ("SaltPeaceModel", 116, "wrong ", 10), ("SaltPeaceModel", 90, "pkvsgd", 6), ("SaltPeaceModel", 96, "<=>", 7), ("SaltPeaceModel", 121, "calm ", 11)]
def nestRefs : List (String × Nat × MethodName × String) := [("SaltPeace", 34, ⟨"SaltPeace$Reader", "<init>", "()V"⟩, "SaltPeace"), ("SaltPeace$Moor", 83, ⟨"SaltPeace", "isSide", "(I)Z"⟩, "SaltPeace"), ("SaltPeace$Moor", 93, ⟨"SaltPeace", "isWithin", "(III)Z"⟩, "SaltPeace")]
def castYes : List (String × String) := [("[I", "java/lang/Cloneable"), ("SaltPeace$Meek", "SaltPeace$Gentle"), ("SaltPeace$Proud", "SaltPeace$Bitter"), ("SaltPeace$Told", "SaltPeace$Sly"), ("SaltPeace$Gentle", "SaltPeace$Person"), ("SaltPeace$Bitter", "SaltPeace$Person"), ("SaltPeace$Sly", "SaltPeace$Person"), ("SaltPeace$Meek", "SaltPeace$Person"), ("SaltPeace$Proud", "SaltPeace$Person"), ("SaltPeace$Told", "SaltPeace$Person")]
def castNo : List (String × String) := [("SaltPeace$Person", "SaltPeace$Gentle"), ("SaltPeace$Bitter", "SaltPeace$Gentle"), ("SaltPeace$Sly", "SaltPeace$Gentle"), ("SaltPeace$Proud", "SaltPeace$Gentle"), ("SaltPeace$Told", "SaltPeace$Gentle"), ("SaltPeace$Person", "SaltPeace$Bitter"), ("SaltPeace$Gentle", "SaltPeace$Bitter"), ("SaltPeace$Sly", "SaltPeace$Bitter"), ("SaltPeace$Meek", "SaltPeace$Bitter"), ("SaltPeace$Told", "SaltPeace$Bitter"), ("SaltPeace$Person", "SaltPeace$Sly"), ("SaltPeace$Gentle", "SaltPeace$Sly"), ("SaltPeace$Bitter", "SaltPeace$Sly"), ("SaltPeace$Meek", "SaltPeace$Sly"), ("SaltPeace$Proud", "SaltPeace$Sly"), ("SaltPeace$Person", "SaltPeace$Meek"), ("SaltPeace$Gentle", "SaltPeace$Meek"), ("SaltPeace$Bitter", "SaltPeace$Meek"), ("SaltPeace$Sly", "SaltPeace$Meek"), ("SaltPeace$Proud", "SaltPeace$Meek"), ("SaltPeace$Told", "SaltPeace$Meek"), ("SaltPeace$Person", "SaltPeace$Proud"), ("SaltPeace$Gentle", "SaltPeace$Proud"), ("SaltPeace$Bitter", "SaltPeace$Proud"), ("SaltPeace$Sly", "SaltPeace$Proud"), ("SaltPeace$Meek", "SaltPeace$Proud"), ("SaltPeace$Told", "SaltPeace$Proud"), ("SaltPeace$Person", "SaltPeace$Told"), ("SaltPeace$Gentle", "SaltPeace$Told"), ("SaltPeace$Bitter", "SaltPeace$Told"), ("SaltPeace$Sly", "SaltPeace$Told"), ("SaltPeace$Meek", "SaltPeace$Told"), ("SaltPeace$Proud", "SaltPeace$Told")]

