-- ===== PART A: goes FIRST, ahead of the names: the tables' words, and 'selects' of the private methods out of them =====
/-- a private method of a class that the tables say can be made, by its rows of tables_1 -/
def lw_okq (q : MethodName × Nat) : Prop := (q.1.cls ≠ "java/lang/invoke/MethodHandle" ∧ q.1.cls ≠ "java/lang/invoke/VarHandle") ∧ Cond.instantiable q.1.cls q.2 ∈ tables_1 ∧ Cond.privateMethod q.1 ∈ tables_1 ∧ Cond.instanceMethod q.1 ∈ tables_1
theorem lw_p0 : lw_okq (⟨"QuayCranes$Tape", "byteAt", "(I)I"⟩, 6) := ⟨⟨by decide +kernel, by decide +kernel⟩, List.mem_of_getElem? (i := 39) (by decide +kernel), List.mem_of_getElem? (i := 421) (by decide +kernel), List.mem_of_getElem? (i := 422) (by decide +kernel)⟩
theorem lw_p1 : lw_okq (⟨"QuayCranes$Reader", "isNamed", "(Ljava/lang/String;II)Z"⟩, 5) := ⟨⟨by decide +kernel, by decide +kernel⟩, List.mem_of_getElem? (i := 33) (by decide +kernel), List.mem_of_getElem? (i := 432) (by decide +kernel), List.mem_of_getElem? (i := 433) (by decide +kernel)⟩
theorem lw_p2 : lw_okq (⟨"QuayCranes$Reader", "isNextLine", "()Z"⟩, 5) := ⟨⟨by decide +kernel, by decide +kernel⟩, List.mem_of_getElem? (i := 33) (by decide +kernel), List.mem_of_getElem? (i := 497) (by decide +kernel), List.mem_of_getElem? (i := 498) (by decide +kernel)⟩
theorem lw_p3 : lw_okq (⟨"QuayCranes$Reader", "readsCrane", "()Z"⟩, 5) := ⟨⟨by decide +kernel, by decide +kernel⟩, List.mem_of_getElem? (i := 33) (by decide +kernel), List.mem_of_getElem? (i := 503) (by decide +kernel), List.mem_of_getElem? (i := 504) (by decide +kernel)⟩
theorem lw_p4 : lw_okq (⟨"QuayCranes$Reader", "readsTasks", "()Z"⟩, 5) := ⟨⟨by decide +kernel, by decide +kernel⟩, List.mem_of_getElem? (i := 33) (by decide +kernel), List.mem_of_getElem? (i := 512) (by decide +kernel), List.mem_of_getElem? (i := 513) (by decide +kernel)⟩
theorem lw_p5 : lw_okq (⟨"QuayCranes$Reader", "readsTask", "(I)Z"⟩, 5) := ⟨⟨by decide +kernel, by decide +kernel⟩, List.mem_of_getElem? (i := 33) (by decide +kernel), List.mem_of_getElem? (i := 516) (by decide +kernel), List.mem_of_getElem? (i := 517) (by decide +kernel)⟩
theorem lw_p6 : lw_okq (⟨"QuayCranes", "hasQuay", "()Z"⟩, 15) := ⟨⟨by decide +kernel, by decide +kernel⟩, List.mem_of_getElem? (i := 25) (by decide +kernel), List.mem_of_getElem? (i := 529) (by decide +kernel), List.mem_of_getElem? (i := 530) (by decide +kernel)⟩
theorem lw_p7 : lw_okq (⟨"QuayCranes$Reader", "readsList", "(LQuayCranes$Yard;I)Z"⟩, 5) := ⟨⟨by decide +kernel, by decide +kernel⟩, List.mem_of_getElem? (i := 33) (by decide +kernel), List.mem_of_getElem? (i := 538) (by decide +kernel), List.mem_of_getElem? (i := 539) (by decide +kernel)⟩
theorem lw_p8 : lw_okq (⟨"QuayCranes$Plan", "find", "(I)I"⟩, 2) := ⟨⟨by decide +kernel, by decide +kernel⟩, List.mem_of_getElem? (i := 75) (by decide +kernel), List.mem_of_getElem? (i := 554) (by decide +kernel), List.mem_of_getElem? (i := 555) (by decide +kernel)⟩
theorem lw_p9 : lw_okq (⟨"QuayCranes", "changed", "()V"⟩, 15) := ⟨⟨by decide +kernel, by decide +kernel⟩, List.mem_of_getElem? (i := 25) (by decide +kernel), List.mem_of_getElem? (i := 587) (by decide +kernel), List.mem_of_getElem? (i := 588) (by decide +kernel)⟩
theorem lw_p10 : lw_okq (⟨"QuayCranes", "refuse", "(I)I"⟩, 15) := ⟨⟨by decide +kernel, by decide +kernel⟩, List.mem_of_getElem? (i := 25) (by decide +kernel), List.mem_of_getElem? (i := 595) (by decide +kernel), List.mem_of_getElem? (i := 596) (by decide +kernel)⟩
theorem lw_p11 : lw_okq (⟨"QuayCranes", "ahead", "()LQuayCranes$Course;"⟩, 15) := ⟨⟨by decide +kernel, by decide +kernel⟩, List.mem_of_getElem? (i := 25) (by decide +kernel), List.mem_of_getElem? (i := 606) (by decide +kernel), List.mem_of_getElem? (i := 607) (by decide +kernel)⟩
theorem lw_p12 : lw_okq (⟨"QuayCranes$Course", "mark", "(LQuayCranes$Yard;I)V"⟩, 6) := ⟨⟨by decide +kernel, by decide +kernel⟩, List.mem_of_getElem? (i := 237) (by decide +kernel), List.mem_of_getElem? (i := 618) (by decide +kernel), List.mem_of_getElem? (i := 619) (by decide +kernel)⟩
theorem lw_p13 : lw_okq (⟨"QuayCranes$Yard", "begin", "()Z"⟩, 20) := ⟨⟨by decide +kernel, by decide +kernel⟩, List.mem_of_getElem? (i := 69) (by decide +kernel), List.mem_of_getElem? (i := 631) (by decide +kernel), List.mem_of_getElem? (i := 632) (by decide +kernel)⟩
theorem lw_p14 : lw_okq (⟨"QuayCranes$Yard", "step", "(I)V"⟩, 20) := ⟨⟨by decide +kernel, by decide +kernel⟩, List.mem_of_getElem? (i := 69) (by decide +kernel), List.mem_of_getElem? (i := 635) (by decide +kernel), List.mem_of_getElem? (i := 636) (by decide +kernel)⟩
theorem lw_p15 : lw_okq (⟨"QuayCranes$Yard", "swing", "()Z"⟩, 20) := ⟨⟨by decide +kernel, by decide +kernel⟩, List.mem_of_getElem? (i := 69) (by decide +kernel), List.mem_of_getElem? (i := 639) (by decide +kernel), List.mem_of_getElem? (i := 640) (by decide +kernel)⟩
def lw_privs_1 : List (MethodName × Nat) := [(⟨"QuayCranes$Tape", "byteAt", "(I)I"⟩, 6), (⟨"QuayCranes$Reader", "isNamed", "(Ljava/lang/String;II)Z"⟩, 5), (⟨"QuayCranes$Reader", "isNextLine", "()Z"⟩, 5), (⟨"QuayCranes$Reader", "readsCrane", "()Z"⟩, 5), (⟨"QuayCranes$Reader", "readsTasks", "()Z"⟩, 5), (⟨"QuayCranes$Reader", "readsTask", "(I)Z"⟩, 5), (⟨"QuayCranes", "hasQuay", "()Z"⟩, 15), (⟨"QuayCranes$Reader", "readsList", "(LQuayCranes$Yard;I)Z"⟩, 5), (⟨"QuayCranes$Plan", "find", "(I)I"⟩, 2), (⟨"QuayCranes", "changed", "()V"⟩, 15), (⟨"QuayCranes", "refuse", "(I)I"⟩, 15), (⟨"QuayCranes", "ahead", "()LQuayCranes$Course;"⟩, 15), (⟨"QuayCranes$Course", "mark", "(LQuayCranes$Yard;I)V"⟩, 6), (⟨"QuayCranes$Yard", "begin", "()Z"⟩, 20), (⟨"QuayCranes$Yard", "step", "(I)V"⟩, 20), (⟨"QuayCranes$Yard", "swing", "()Z"⟩, 20)]
theorem lw_r1 : ∀ q ∈ lw_privs_1, lw_okq q := List.forall_mem_cons.mpr ⟨lw_p0, List.forall_mem_cons.mpr ⟨lw_p1, List.forall_mem_cons.mpr ⟨lw_p2, List.forall_mem_cons.mpr ⟨lw_p3, List.forall_mem_cons.mpr ⟨lw_p4, List.forall_mem_cons.mpr ⟨lw_p5, List.forall_mem_cons.mpr ⟨lw_p6, List.forall_mem_cons.mpr ⟨lw_p7, List.forall_mem_cons.mpr ⟨lw_p8, List.forall_mem_cons.mpr ⟨lw_p9, List.forall_mem_cons.mpr ⟨lw_p10, List.forall_mem_cons.mpr ⟨lw_p11, List.forall_mem_cons.mpr ⟨lw_p12, List.forall_mem_cons.mpr ⟨lw_p13, List.forall_mem_cons.mpr ⟨lw_p14, List.forall_mem_cons.mpr ⟨lw_p15, fun _ h => absurd h List.not_mem_nil⟩⟩⟩⟩⟩⟩⟩⟩⟩⟩⟩⟩⟩⟩⟩⟩
theorem lw_p16 : lw_okq (⟨"QuayCranes$Course", "markDeeds", "(LQuayCranes$Yard;I)V"⟩, 6) := ⟨⟨by decide +kernel, by decide +kernel⟩, List.mem_of_getElem? (i := 237) (by decide +kernel), List.mem_of_getElem? (i := 646) (by decide +kernel), List.mem_of_getElem? (i := 647) (by decide +kernel)⟩
theorem lw_p17 : lw_okq (⟨"QuayCranes", "isCrane", "(I)Z"⟩, 15) := ⟨⟨by decide +kernel, by decide +kernel⟩, List.mem_of_getElem? (i := 25) (by decide +kernel), List.mem_of_getElem? (i := 659) (by decide +kernel), List.mem_of_getElem? (i := 660) (by decide +kernel)⟩
theorem lw_p18 : lw_okq (⟨"QuayCranes", "isTask", "(I)Z"⟩, 15) := ⟨⟨by decide +kernel, by decide +kernel⟩, List.mem_of_getElem? (i := 25) (by decide +kernel), List.mem_of_getElem? (i := 677) (by decide +kernel), List.mem_of_getElem? (i := 678) (by decide +kernel)⟩
theorem lw_p19 : lw_okq (⟨"QuayCranes", "isSpan", "(I)Z"⟩, 15) := ⟨⟨by decide +kernel, by decide +kernel⟩, List.mem_of_getElem? (i := 25) (by decide +kernel), List.mem_of_getElem? (i := 701) (by decide +kernel), List.mem_of_getElem? (i := 702) (by decide +kernel)⟩
theorem lw_p20 : lw_okq (⟨"QuayCranes", "isTrue", "(I)Z"⟩, 15) := ⟨⟨by decide +kernel, by decide +kernel⟩, List.mem_of_getElem? (i := 25) (by decide +kernel), List.mem_of_getElem? (i := 744) (by decide +kernel), List.mem_of_getElem? (i := 745) (by decide +kernel)⟩
theorem lw_p21 : lw_okq (⟨"QuayCranes", "canTell", "(I)Z"⟩, 15) := ⟨⟨by decide +kernel, by decide +kernel⟩, List.mem_of_getElem? (i := 25) (by decide +kernel), List.mem_of_getElem? (i := 759) (by decide +kernel), List.mem_of_getElem? (i := 760) (by decide +kernel)⟩
theorem lw_p22 : lw_okq (⟨"QuayCranes", "tooManyLeft", "()Z"⟩, 15) := ⟨⟨by decide +kernel, by decide +kernel⟩, List.mem_of_getElem? (i := 25) (by decide +kernel), List.mem_of_getElem? (i := 763) (by decide +kernel), List.mem_of_getElem? (i := 764) (by decide +kernel)⟩
theorem lw_p23 : lw_okq (⟨"QuayCranes$Search", "begin", "(LQuayCranes$Yard;ILQuayCranes$Choice;)V"⟩, 7) := ⟨⟨by decide +kernel, by decide +kernel⟩, List.mem_of_getElem? (i := 265) (by decide +kernel), List.mem_of_getElem? (i := 775) (by decide +kernel), List.mem_of_getElem? (i := 776) (by decide +kernel)⟩
theorem lw_p24 : lw_okq (⟨"QuayCranes$Search", "sortByBay", "()V"⟩, 7) := ⟨⟨by decide +kernel, by decide +kernel⟩, List.mem_of_getElem? (i := 265) (by decide +kernel), List.mem_of_getElem? (i := 786) (by decide +kernel), List.mem_of_getElem? (i := 787) (by decide +kernel)⟩
theorem lw_p25 : lw_okq (⟨"QuayCranes$Search", "weigh", "(LQuayCranes$Choice;)Z"⟩, 7) := ⟨⟨by decide +kernel, by decide +kernel⟩, List.mem_of_getElem? (i := 265) (by decide +kernel), List.mem_of_getElem? (i := 794) (by decide +kernel), List.mem_of_getElem? (i := 795) (by decide +kernel)⟩
theorem lw_p26 : lw_okq (⟨"QuayCranes$Yard", "longestRow", "()I"⟩, 20) := ⟨⟨by decide +kernel, by decide +kernel⟩, List.mem_of_getElem? (i := 69) (by decide +kernel), List.mem_of_getElem? (i := 818) (by decide +kernel), List.mem_of_getElem? (i := 819) (by decide +kernel)⟩
theorem lw_p27 : lw_okq (⟨"QuayCranes$Yard", "busiestBays", "(I)I"⟩, 20) := ⟨⟨by decide +kernel, by decide +kernel⟩, List.mem_of_getElem? (i := 69) (by decide +kernel), List.mem_of_getElem? (i := 835) (by decide +kernel), List.mem_of_getElem? (i := 836) (by decide +kernel)⟩
theorem lw_p28 : lw_okq (⟨"QuayCranes$Search", "give", "(I)V"⟩, 7) := ⟨⟨by decide +kernel, by decide +kernel⟩, List.mem_of_getElem? (i := 265) (by decide +kernel), List.mem_of_getElem? (i := 866) (by decide +kernel), List.mem_of_getElem? (i := 867) (by decide +kernel)⟩
theorem lw_p29 : lw_okq (⟨"QuayCranes$Search", "tryPlaces", "(LQuayCranes$Choice;I)V"⟩, 7) := ⟨⟨by decide +kernel, by decide +kernel⟩, List.mem_of_getElem? (i := 265) (by decide +kernel), List.mem_of_getElem? (i := 889) (by decide +kernel), List.mem_of_getElem? (i := 890) (by decide +kernel)⟩
theorem lw_p30 : lw_okq (⟨"QuayCranes", "writtenOf", "(II)I"⟩, 15) := ⟨⟨by decide +kernel, by decide +kernel⟩, List.mem_of_getElem? (i := 25) (by decide +kernel), List.mem_of_getElem? (i := 909) (by decide +kernel), List.mem_of_getElem? (i := 910) (by decide +kernel)⟩
theorem lw_p31 : lw_okq (⟨"QuayCranes$Yard", "leftOf", "(I)I"⟩, 20) := ⟨⟨by decide +kernel, by decide +kernel⟩, List.mem_of_getElem? (i := 69) (by decide +kernel), List.mem_of_getElem? (i := 1003) (by decide +kernel), List.mem_of_getElem? (i := 1004) (by decide +kernel)⟩
def lw_privs_2 : List (MethodName × Nat) := [(⟨"QuayCranes$Course", "markDeeds", "(LQuayCranes$Yard;I)V"⟩, 6), (⟨"QuayCranes", "isCrane", "(I)Z"⟩, 15), (⟨"QuayCranes", "isTask", "(I)Z"⟩, 15), (⟨"QuayCranes", "isSpan", "(I)Z"⟩, 15), (⟨"QuayCranes", "isTrue", "(I)Z"⟩, 15), (⟨"QuayCranes", "canTell", "(I)Z"⟩, 15), (⟨"QuayCranes", "tooManyLeft", "()Z"⟩, 15), (⟨"QuayCranes$Search", "begin", "(LQuayCranes$Yard;ILQuayCranes$Choice;)V"⟩, 7), (⟨"QuayCranes$Search", "sortByBay", "()V"⟩, 7), (⟨"QuayCranes$Search", "weigh", "(LQuayCranes$Choice;)Z"⟩, 7), (⟨"QuayCranes$Yard", "longestRow", "()I"⟩, 20), (⟨"QuayCranes$Yard", "busiestBays", "(I)I"⟩, 20), (⟨"QuayCranes$Search", "give", "(I)V"⟩, 7), (⟨"QuayCranes$Search", "tryPlaces", "(LQuayCranes$Choice;I)V"⟩, 7), (⟨"QuayCranes", "writtenOf", "(II)I"⟩, 15), (⟨"QuayCranes$Yard", "leftOf", "(I)I"⟩, 20)]
theorem lw_r2 : ∀ q ∈ lw_privs_2, lw_okq q := List.forall_mem_cons.mpr ⟨lw_p16, List.forall_mem_cons.mpr ⟨lw_p17, List.forall_mem_cons.mpr ⟨lw_p18, List.forall_mem_cons.mpr ⟨lw_p19, List.forall_mem_cons.mpr ⟨lw_p20, List.forall_mem_cons.mpr ⟨lw_p21, List.forall_mem_cons.mpr ⟨lw_p22, List.forall_mem_cons.mpr ⟨lw_p23, List.forall_mem_cons.mpr ⟨lw_p24, List.forall_mem_cons.mpr ⟨lw_p25, List.forall_mem_cons.mpr ⟨lw_p26, List.forall_mem_cons.mpr ⟨lw_p27, List.forall_mem_cons.mpr ⟨lw_p28, List.forall_mem_cons.mpr ⟨lw_p29, List.forall_mem_cons.mpr ⟨lw_p30, List.forall_mem_cons.mpr ⟨lw_p31, fun _ h => absurd h List.not_mem_nil⟩⟩⟩⟩⟩⟩⟩⟩⟩⟩⟩⟩⟩⟩⟩⟩
theorem lw_p32 : lw_okq (⟨"java/lang/Throwable", "fillInStackTrace", "(I)Ljava/lang/Throwable;"⟩, 6) := ⟨⟨by decide +kernel, by decide +kernel⟩, List.mem_of_getElem? (i := 1068) (by decide +kernel), List.mem_of_getElem? (i := 1066) (by decide +kernel), List.mem_of_getElem? (i := 1067) (by decide +kernel)⟩
theorem lw_p33 : lw_okq (⟨"QuayCranesModel", "readsQuay", "()I"⟩, 42) := ⟨⟨by decide +kernel, by decide +kernel⟩, List.mem_of_getElem? (i := 1095) (by decide +kernel), List.mem_of_getElem? (i := 1252) (by decide +kernel), List.mem_of_getElem? (i := 1253) (by decide +kernel)⟩
theorem lw_p34 : lw_okq (⟨"QuayCranesModel", "begins", "()V"⟩, 42) := ⟨⟨by decide +kernel, by decide +kernel⟩, List.mem_of_getElem? (i := 1095) (by decide +kernel), List.mem_of_getElem? (i := 1256) (by decide +kernel), List.mem_of_getElem? (i := 1257) (by decide +kernel)⟩
theorem lw_p35 : lw_okq (⟨"QuayCranesModel", "next", "()V"⟩, 42) := ⟨⟨by decide +kernel, by decide +kernel⟩, List.mem_of_getElem? (i := 1095) (by decide +kernel), List.mem_of_getElem? (i := 1260) (by decide +kernel), List.mem_of_getElem? (i := 1261) (by decide +kernel)⟩
theorem lw_p36 : lw_okq (⟨"QuayCranesModel", "see", "(I)I"⟩, 42) := ⟨⟨by decide +kernel, by decide +kernel⟩, List.mem_of_getElem? (i := 1095) (by decide +kernel), List.mem_of_getElem? (i := 1264) (by decide +kernel), List.mem_of_getElem? (i := 1265) (by decide +kernel)⟩
theorem lw_p37 : lw_okq (⟨"QuayCranesModel", "mustWord", "(Ljava/lang/String;)V"⟩, 42) := ⟨⟨by decide +kernel, by decide +kernel⟩, List.mem_of_getElem? (i := 1095) (by decide +kernel), List.mem_of_getElem? (i := 1277) (by decide +kernel), List.mem_of_getElem? (i := 1278) (by decide +kernel)⟩
theorem lw_p38 : lw_okq (⟨"QuayCranesModel", "takesWord", "(Ljava/lang/String;)Z"⟩, 42) := ⟨⟨by decide +kernel, by decide +kernel⟩, List.mem_of_getElem? (i := 1095) (by decide +kernel), List.mem_of_getElem? (i := 1281) (by decide +kernel), List.mem_of_getElem? (i := 1282) (by decide +kernel)⟩
theorem lw_p39 : lw_okq (⟨"QuayCranesModel", "isWord", "(Ljava/lang/String;)Z"⟩, 42) := ⟨⟨by decide +kernel, by decide +kernel⟩, List.mem_of_getElem? (i := 1095) (by decide +kernel), List.mem_of_getElem? (i := 1285) (by decide +kernel), List.mem_of_getElem? (i := 1286) (by decide +kernel)⟩
theorem lw_p40 : lw_okq (⟨"QuayCranesModel", "bad", "()V"⟩, 42) := ⟨⟨by decide +kernel, by decide +kernel⟩, List.mem_of_getElem? (i := 1095) (by decide +kernel), List.mem_of_getElem? (i := 1291) (by decide +kernel), List.mem_of_getElem? (i := 1292) (by decide +kernel)⟩
theorem lw_p41 : lw_okq (⟨"QuayCranesModel", "takesNumber", "(II)I"⟩, 42) := ⟨⟨by decide +kernel, by decide +kernel⟩, List.mem_of_getElem? (i := 1095) (by decide +kernel), List.mem_of_getElem? (i := 1295) (by decide +kernel), List.mem_of_getElem? (i := 1296) (by decide +kernel)⟩
theorem lw_p42 : lw_okq (⟨"QuayCranesModel", "isNumber", "(II)Z"⟩, 42) := ⟨⟨by decide +kernel, by decide +kernel⟩, List.mem_of_getElem? (i := 1095) (by decide +kernel), List.mem_of_getElem? (i := 1299) (by decide +kernel), List.mem_of_getElem? (i := 1300) (by decide +kernel)⟩
theorem lw_p43 : lw_okq (⟨"QuayCranesModel", "takesSemicolon", "()Z"⟩, 42) := ⟨⟨by decide +kernel, by decide +kernel⟩, List.mem_of_getElem? (i := 1095) (by decide +kernel), List.mem_of_getElem? (i := 1303) (by decide +kernel), List.mem_of_getElem? (i := 1304) (by decide +kernel)⟩
theorem lw_p44 : lw_okq (⟨"QuayCranesModel", "readsCrane", "()V"⟩, 42) := ⟨⟨by decide +kernel, by decide +kernel⟩, List.mem_of_getElem? (i := 1095) (by decide +kernel), List.mem_of_getElem? (i := 1309) (by decide +kernel), List.mem_of_getElem? (i := 1310) (by decide +kernel)⟩
theorem lw_p45 : lw_okq (⟨"QuayCranesModel", "readsTask", "()V"⟩, 42) := ⟨⟨by decide +kernel, by decide +kernel⟩, List.mem_of_getElem? (i := 1095) (by decide +kernel), List.mem_of_getElem? (i := 1318) (by decide +kernel), List.mem_of_getElem? (i := 1319) (by decide +kernel)⟩
theorem lw_p46 : lw_okq (⟨"QuayCranesModel", "mustEnd", "()V"⟩, 42) := ⟨⟨by decide +kernel, by decide +kernel⟩, List.mem_of_getElem? (i := 1095) (by decide +kernel), List.mem_of_getElem? (i := 1329) (by decide +kernel), List.mem_of_getElem? (i := 1330) (by decide +kernel)⟩
theorem lw_p47 : lw_okq (⟨"QuayCranesModel", "readsPlan", "()I"⟩, 42) := ⟨⟨by decide +kernel, by decide +kernel⟩, List.mem_of_getElem? (i := 1095) (by decide +kernel), List.mem_of_getElem? (i := 1333) (by decide +kernel), List.mem_of_getElem? (i := 1334) (by decide +kernel)⟩
def lw_privs_3 : List (MethodName × Nat) := [(⟨"java/lang/Throwable", "fillInStackTrace", "(I)Ljava/lang/Throwable;"⟩, 6), (⟨"QuayCranesModel", "readsQuay", "()I"⟩, 42), (⟨"QuayCranesModel", "begins", "()V"⟩, 42), (⟨"QuayCranesModel", "next", "()V"⟩, 42), (⟨"QuayCranesModel", "see", "(I)I"⟩, 42), (⟨"QuayCranesModel", "mustWord", "(Ljava/lang/String;)V"⟩, 42), (⟨"QuayCranesModel", "takesWord", "(Ljava/lang/String;)Z"⟩, 42), (⟨"QuayCranesModel", "isWord", "(Ljava/lang/String;)Z"⟩, 42), (⟨"QuayCranesModel", "bad", "()V"⟩, 42), (⟨"QuayCranesModel", "takesNumber", "(II)I"⟩, 42), (⟨"QuayCranesModel", "isNumber", "(II)Z"⟩, 42), (⟨"QuayCranesModel", "takesSemicolon", "()Z"⟩, 42), (⟨"QuayCranesModel", "readsCrane", "()V"⟩, 42), (⟨"QuayCranesModel", "readsTask", "()V"⟩, 42), (⟨"QuayCranesModel", "mustEnd", "()V"⟩, 42), (⟨"QuayCranesModel", "readsPlan", "()I"⟩, 42)]
theorem lw_r3 : ∀ q ∈ lw_privs_3, lw_okq q := List.forall_mem_cons.mpr ⟨lw_p32, List.forall_mem_cons.mpr ⟨lw_p33, List.forall_mem_cons.mpr ⟨lw_p34, List.forall_mem_cons.mpr ⟨lw_p35, List.forall_mem_cons.mpr ⟨lw_p36, List.forall_mem_cons.mpr ⟨lw_p37, List.forall_mem_cons.mpr ⟨lw_p38, List.forall_mem_cons.mpr ⟨lw_p39, List.forall_mem_cons.mpr ⟨lw_p40, List.forall_mem_cons.mpr ⟨lw_p41, List.forall_mem_cons.mpr ⟨lw_p42, List.forall_mem_cons.mpr ⟨lw_p43, List.forall_mem_cons.mpr ⟨lw_p44, List.forall_mem_cons.mpr ⟨lw_p45, List.forall_mem_cons.mpr ⟨lw_p46, List.forall_mem_cons.mpr ⟨lw_p47, fun _ h => absurd h List.not_mem_nil⟩⟩⟩⟩⟩⟩⟩⟩⟩⟩⟩⟩⟩⟩⟩⟩
theorem lw_p48 : lw_okq (⟨"QuayCranesModel", "clears", "([I)V"⟩, 42) := ⟨⟨by decide +kernel, by decide +kernel⟩, List.mem_of_getElem? (i := 1095) (by decide +kernel), List.mem_of_getElem? (i := 1337) (by decide +kernel), List.mem_of_getElem? (i := 1338) (by decide +kernel)⟩
theorem lw_p49 : lw_okq (⟨"QuayCranesModel", "isLeft", "([II)Z"⟩, 42) := ⟨⟨by decide +kernel, by decide +kernel⟩, List.mem_of_getElem? (i := 1095) (by decide +kernel), List.mem_of_getElem? (i := 1341) (by decide +kernel), List.mem_of_getElem? (i := 1342) (by decide +kernel)⟩
theorem lw_p50 : lw_okq (⟨"QuayCranesModel", "canLift", "(II)Z"⟩, 42) := ⟨⟨by decide +kernel, by decide +kernel⟩, List.mem_of_getElem? (i := 1095) (by decide +kernel), List.mem_of_getElem? (i := 1345) (by decide +kernel), List.mem_of_getElem? (i := 1346) (by decide +kernel)⟩
theorem lw_p51 : lw_okq (⟨"QuayCranesModel", "readsMoves", "()I"⟩, 42) := ⟨⟨by decide +kernel, by decide +kernel⟩, List.mem_of_getElem? (i := 1095) (by decide +kernel), List.mem_of_getElem? (i := 1352) (by decide +kernel), List.mem_of_getElem? (i := 1353) (by decide +kernel)⟩
theorem lw_p52 : lw_okq (⟨"QuayCranesModel", "refuses", "(I)I"⟩, 42) := ⟨⟨by decide +kernel, by decide +kernel⟩, List.mem_of_getElem? (i := 1095) (by decide +kernel), List.mem_of_getElem? (i := 1376) (by decide +kernel), List.mem_of_getElem? (i := 1377) (by decide +kernel)⟩
theorem lw_p53 : lw_okq (⟨"QuayCranesModel", "keeps", "()V"⟩, 42) := ⟨⟨by decide +kernel, by decide +kernel⟩, List.mem_of_getElem? (i := 1095) (by decide +kernel), List.mem_of_getElem? (i := 1381) (by decide +kernel), List.mem_of_getElem? (i := 1382) (by decide +kernel)⟩
theorem lw_p54 : lw_okq (⟨"QuayCranesModel", "takes", "([I[I)V"⟩, 42) := ⟨⟨by decide +kernel, by decide +kernel⟩, List.mem_of_getElem? (i := 1095) (by decide +kernel), List.mem_of_getElem? (i := 1385) (by decide +kernel), List.mem_of_getElem? (i := 1386) (by decide +kernel)⟩
theorem lw_p55 : lw_okq (⟨"QuayCranesModel", "lastOf", "([I)I"⟩, 42) := ⟨⟨by decide +kernel, by decide +kernel⟩, List.mem_of_getElem? (i := 1095) (by decide +kernel), List.mem_of_getElem? (i := 1389) (by decide +kernel), List.mem_of_getElem? (i := 1390) (by decide +kernel)⟩
theorem lw_p56 : lw_okq (⟨"QuayCranesModel", "lastOf", "([II)I"⟩, 42) := ⟨⟨by decide +kernel, by decide +kernel⟩, List.mem_of_getElem? (i := 1095) (by decide +kernel), List.mem_of_getElem? (i := 1393) (by decide +kernel), List.mem_of_getElem? (i := 1394) (by decide +kernel)⟩
theorem lw_p57 : lw_okq (⟨"QuayCranesModel", "isOver", "([I)Z"⟩, 42) := ⟨⟨by decide +kernel, by decide +kernel⟩, List.mem_of_getElem? (i := 1095) (by decide +kernel), List.mem_of_getElem? (i := 1397) (by decide +kernel), List.mem_of_getElem? (i := 1398) (by decide +kernel)⟩
theorem lw_p58 : lw_okq (⟨"QuayCranesModel", "goesMinute", "([I)V"⟩, 42) := ⟨⟨by decide +kernel, by decide +kernel⟩, List.mem_of_getElem? (i := 1095) (by decide +kernel), List.mem_of_getElem? (i := 1407) (by decide +kernel), List.mem_of_getElem? (i := 1408) (by decide +kernel)⟩
theorem lw_p59 : lw_okq (⟨"QuayCranesModel", "steps", "([II)V"⟩, 42) := ⟨⟨by decide +kernel, by decide +kernel⟩, List.mem_of_getElem? (i := 1095) (by decide +kernel), List.mem_of_getElem? (i := 1423) (by decide +kernel), List.mem_of_getElem? (i := 1424) (by decide +kernel)⟩
theorem lw_p60 : lw_okq (⟨"QuayCranesModel", "canGo", "([III)Z"⟩, 42) := ⟨⟨by decide +kernel, by decide +kernel⟩, List.mem_of_getElem? (i := 1095) (by decide +kernel), List.mem_of_getElem? (i := 1427) (by decide +kernel), List.mem_of_getElem? (i := 1428) (by decide +kernel)⟩
theorem lw_p61 : lw_okq (⟨"QuayCranesModel", "goes", "([III)V"⟩, 42) := ⟨⟨by decide +kernel, by decide +kernel⟩, List.mem_of_getElem? (i := 1095) (by decide +kernel), List.mem_of_getElem? (i := 1432) (by decide +kernel), List.mem_of_getElem? (i := 1433) (by decide +kernel)⟩
theorem lw_p62 : lw_okq (⟨"QuayCranesModel", "swings", "([II)V"⟩, 42) := ⟨⟨by decide +kernel, by decide +kernel⟩, List.mem_of_getElem? (i := 1095) (by decide +kernel), List.mem_of_getElem? (i := 1436) (by decide +kernel), List.mem_of_getElem? (i := 1437) (by decide +kernel)⟩
theorem lw_p63 : lw_okq (⟨"QuayCranesModel", "works", "([II)V"⟩, 42) := ⟨⟨by decide +kernel, by decide +kernel⟩, List.mem_of_getElem? (i := 1095) (by decide +kernel), List.mem_of_getElem? (i := 1453) (by decide +kernel), List.mem_of_getElem? (i := 1454) (by decide +kernel)⟩
def lw_privs_4 : List (MethodName × Nat) := [(⟨"QuayCranesModel", "clears", "([I)V"⟩, 42), (⟨"QuayCranesModel", "isLeft", "([II)Z"⟩, 42), (⟨"QuayCranesModel", "canLift", "(II)Z"⟩, 42), (⟨"QuayCranesModel", "readsMoves", "()I"⟩, 42), (⟨"QuayCranesModel", "refuses", "(I)I"⟩, 42), (⟨"QuayCranesModel", "keeps", "()V"⟩, 42), (⟨"QuayCranesModel", "takes", "([I[I)V"⟩, 42), (⟨"QuayCranesModel", "lastOf", "([I)I"⟩, 42), (⟨"QuayCranesModel", "lastOf", "([II)I"⟩, 42), (⟨"QuayCranesModel", "isOver", "([I)Z"⟩, 42), (⟨"QuayCranesModel", "goesMinute", "([I)V"⟩, 42), (⟨"QuayCranesModel", "steps", "([II)V"⟩, 42), (⟨"QuayCranesModel", "canGo", "([III)Z"⟩, 42), (⟨"QuayCranesModel", "goes", "([III)V"⟩, 42), (⟨"QuayCranesModel", "swings", "([II)V"⟩, 42), (⟨"QuayCranesModel", "works", "([II)V"⟩, 42)]
theorem lw_r4 : ∀ q ∈ lw_privs_4, lw_okq q := List.forall_mem_cons.mpr ⟨lw_p48, List.forall_mem_cons.mpr ⟨lw_p49, List.forall_mem_cons.mpr ⟨lw_p50, List.forall_mem_cons.mpr ⟨lw_p51, List.forall_mem_cons.mpr ⟨lw_p52, List.forall_mem_cons.mpr ⟨lw_p53, List.forall_mem_cons.mpr ⟨lw_p54, List.forall_mem_cons.mpr ⟨lw_p55, List.forall_mem_cons.mpr ⟨lw_p56, List.forall_mem_cons.mpr ⟨lw_p57, List.forall_mem_cons.mpr ⟨lw_p58, List.forall_mem_cons.mpr ⟨lw_p59, List.forall_mem_cons.mpr ⟨lw_p60, List.forall_mem_cons.mpr ⟨lw_p61, List.forall_mem_cons.mpr ⟨lw_p62, List.forall_mem_cons.mpr ⟨lw_p63, fun _ h => absurd h List.not_mem_nil⟩⟩⟩⟩⟩⟩⟩⟩⟩⟩⟩⟩⟩⟩⟩⟩
theorem lw_p64 : lw_okq (⟨"QuayCranesModel", "isCrane", "(I)Z"⟩, 42) := ⟨⟨by decide +kernel, by decide +kernel⟩, List.mem_of_getElem? (i := 1095) (by decide +kernel), List.mem_of_getElem? (i := 1469) (by decide +kernel), List.mem_of_getElem? (i := 1470) (by decide +kernel)⟩
theorem lw_p65 : lw_okq (⟨"QuayCranesModel", "brokenSet", "()I"⟩, 42) := ⟨⟨by decide +kernel, by decide +kernel⟩, List.mem_of_getElem? (i := 1095) (by decide +kernel), List.mem_of_getElem? (i := 1473) (by decide +kernel), List.mem_of_getElem? (i := 1474) (by decide +kernel)⟩
theorem lw_p66 : lw_okq (⟨"QuayCranesModel", "isTask", "(I)Z"⟩, 42) := ⟨⟨by decide +kernel, by decide +kernel⟩, List.mem_of_getElem? (i := 1095) (by decide +kernel), List.mem_of_getElem? (i := 1482) (by decide +kernel), List.mem_of_getElem? (i := 1483) (by decide +kernel)⟩
theorem lw_p67 : lw_okq (⟨"QuayCranesModel", "allTasks", "()I"⟩, 42) := ⟨⟨by decide +kernel, by decide +kernel⟩, List.mem_of_getElem? (i := 1095) (by decide +kernel), List.mem_of_getElem? (i := 1492) (by decide +kernel), List.mem_of_getElem? (i := 1493) (by decide +kernel)⟩
theorem lw_p68 : lw_okq (⟨"QuayCranesModel", "leftSet", "()I"⟩, 42) := ⟨⟨by decide +kernel, by decide +kernel⟩, List.mem_of_getElem? (i := 1095) (by decide +kernel), List.mem_of_getElem? (i := 1496) (by decide +kernel), List.mem_of_getElem? (i := 1497) (by decide +kernel)⟩
theorem lw_p69 : lw_okq (⟨"QuayCranesModel", "toldSet", "()I"⟩, 42) := ⟨⟨by decide +kernel, by decide +kernel⟩, List.mem_of_getElem? (i := 1095) (by decide +kernel), List.mem_of_getElem? (i := 1500) (by decide +kernel), List.mem_of_getElem? (i := 1501) (by decide +kernel)⟩
theorem lw_p70 : lw_okq (⟨"QuayCranesModel", "toldBy", "(I)I"⟩, 42) := ⟨⟨by decide +kernel, by decide +kernel⟩, List.mem_of_getElem? (i := 1095) (by decide +kernel), List.mem_of_getElem? (i := 1514) (by decide +kernel), List.mem_of_getElem? (i := 1515) (by decide +kernel)⟩
theorem lw_p71 : lw_okq (⟨"QuayCranesModel", "foretells", "(I)V"⟩, 42) := ⟨⟨by decide +kernel, by decide +kernel⟩, List.mem_of_getElem? (i := 1095) (by decide +kernel), List.mem_of_getElem? (i := 1527) (by decide +kernel), List.mem_of_getElem? (i := 1528) (by decide +kernel)⟩
theorem lw_p72 : lw_okq (⟨"QuayCranesModel", "isTrue", "(I)Z"⟩, 42) := ⟨⟨by decide +kernel, by decide +kernel⟩, List.mem_of_getElem? (i := 1095) (by decide +kernel), List.mem_of_getElem? (i := 1553) (by decide +kernel), List.mem_of_getElem? (i := 1554) (by decide +kernel)⟩
theorem lw_p73 : lw_okq (⟨"QuayCranesModel", "isSuch", "(I)Z"⟩, 42) := ⟨⟨by decide +kernel, by decide +kernel⟩, List.mem_of_getElem? (i := 1095) (by decide +kernel), List.mem_of_getElem? (i := 1561) (by decide +kernel), List.mem_of_getElem? (i := 1562) (by decide +kernel)⟩
theorem lw_p74 : lw_okq (⟨"QuayCranesModel", "isFew", "()Z"⟩, 42) := ⟨⟨by decide +kernel, by decide +kernel⟩, List.mem_of_getElem? (i := 1095) (by decide +kernel), List.mem_of_getElem? (i := 1566) (by decide +kernel), List.mem_of_getElem? (i := 1567) (by decide +kernel)⟩
theorem lw_p75 : lw_okq (⟨"QuayCranesModel", "seeksBest", "(I)V"⟩, 42) := ⟨⟨by decide +kernel, by decide +kernel⟩, List.mem_of_getElem? (i := 1095) (by decide +kernel), List.mem_of_getElem? (i := 1570) (by decide +kernel), List.mem_of_getElem? (i := 1571) (by decide +kernel)⟩
theorem lw_p76 : lw_okq (⟨"QuayCranesModel", "clearsTrial", "()V"⟩, 42) := ⟨⟨by decide +kernel, by decide +kernel⟩, List.mem_of_getElem? (i := 1095) (by decide +kernel), List.mem_of_getElem? (i := 1574) (by decide +kernel), List.mem_of_getElem? (i := 1575) (by decide +kernel)⟩
theorem lw_p77 : lw_okq (⟨"QuayCranesModel", "seeks", "(II)V"⟩, 42) := ⟨⟨by decide +kernel, by decide +kernel⟩, List.mem_of_getElem? (i := 1095) (by decide +kernel), List.mem_of_getElem? (i := 1578) (by decide +kernel), List.mem_of_getElem? (i := 1579) (by decide +kernel)⟩
theorem lw_p78 : lw_okq (⟨"QuayCranesModel", "judges", "()V"⟩, 42) := ⟨⟨by decide +kernel, by decide +kernel⟩, List.mem_of_getElem? (i := 1095) (by decide +kernel), List.mem_of_getElem? (i := 1582) (by decide +kernel), List.mem_of_getElem? (i := 1583) (by decide +kernel)⟩
theorem lw_p79 : lw_okq (⟨"QuayCranesModel", "finds", "([II)V"⟩, 42) := ⟨⟨by decide +kernel, by decide +kernel⟩, List.mem_of_getElem? (i := 1095) (by decide +kernel), List.mem_of_getElem? (i := 1586) (by decide +kernel), List.mem_of_getElem? (i := 1587) (by decide +kernel)⟩
def lw_privs_5 : List (MethodName × Nat) := [(⟨"QuayCranesModel", "isCrane", "(I)Z"⟩, 42), (⟨"QuayCranesModel", "brokenSet", "()I"⟩, 42), (⟨"QuayCranesModel", "isTask", "(I)Z"⟩, 42), (⟨"QuayCranesModel", "allTasks", "()I"⟩, 42), (⟨"QuayCranesModel", "leftSet", "()I"⟩, 42), (⟨"QuayCranesModel", "toldSet", "()I"⟩, 42), (⟨"QuayCranesModel", "toldBy", "(I)I"⟩, 42), (⟨"QuayCranesModel", "foretells", "(I)V"⟩, 42), (⟨"QuayCranesModel", "isTrue", "(I)Z"⟩, 42), (⟨"QuayCranesModel", "isSuch", "(I)Z"⟩, 42), (⟨"QuayCranesModel", "isFew", "()Z"⟩, 42), (⟨"QuayCranesModel", "seeksBest", "(I)V"⟩, 42), (⟨"QuayCranesModel", "clearsTrial", "()V"⟩, 42), (⟨"QuayCranesModel", "seeks", "(II)V"⟩, 42), (⟨"QuayCranesModel", "judges", "()V"⟩, 42), (⟨"QuayCranesModel", "finds", "([II)V"⟩, 42)]
theorem lw_r5 : ∀ q ∈ lw_privs_5, lw_okq q := List.forall_mem_cons.mpr ⟨lw_p64, List.forall_mem_cons.mpr ⟨lw_p65, List.forall_mem_cons.mpr ⟨lw_p66, List.forall_mem_cons.mpr ⟨lw_p67, List.forall_mem_cons.mpr ⟨lw_p68, List.forall_mem_cons.mpr ⟨lw_p69, List.forall_mem_cons.mpr ⟨lw_p70, List.forall_mem_cons.mpr ⟨lw_p71, List.forall_mem_cons.mpr ⟨lw_p72, List.forall_mem_cons.mpr ⟨lw_p73, List.forall_mem_cons.mpr ⟨lw_p74, List.forall_mem_cons.mpr ⟨lw_p75, List.forall_mem_cons.mpr ⟨lw_p76, List.forall_mem_cons.mpr ⟨lw_p77, List.forall_mem_cons.mpr ⟨lw_p78, List.forall_mem_cons.mpr ⟨lw_p79, fun _ h => absurd h List.not_mem_nil⟩⟩⟩⟩⟩⟩⟩⟩⟩⟩⟩⟩⟩⟩⟩⟩
theorem lw_p80 : lw_okq (⟨"QuayCranesModel", "tells", "(I)I"⟩, 42) := ⟨⟨by decide +kernel, by decide +kernel⟩, List.mem_of_getElem? (i := 1095) (by decide +kernel), List.mem_of_getElem? (i := 1590) (by decide +kernel), List.mem_of_getElem? (i := 1591) (by decide +kernel)⟩
theorem lw_p81 : lw_okq (⟨"QuayCranesModel", "seeksEasy", "()V"⟩, 42) := ⟨⟨by decide +kernel, by decide +kernel⟩, List.mem_of_getElem? (i := 1095) (by decide +kernel), List.mem_of_getElem? (i := 1598) (by decide +kernel), List.mem_of_getElem? (i := 1599) (by decide +kernel)⟩
theorem lw_p82 : lw_okq (⟨"QuayCranesModel", "isAllDone", "([I)Z"⟩, 42) := ⟨⟨by decide +kernel, by decide +kernel⟩, List.mem_of_getElem? (i := 1095) (by decide +kernel), List.mem_of_getElem? (i := 1602) (by decide +kernel), List.mem_of_getElem? (i := 1603) (by decide +kernel)⟩
theorem lw_p83 : lw_okq (⟨"QuayCranesModel", "gives", "(I)V"⟩, 42) := ⟨⟨by decide +kernel, by decide +kernel⟩, List.mem_of_getElem? (i := 1095) (by decide +kernel), List.mem_of_getElem? (i := 1606) (by decide +kernel), List.mem_of_getElem? (i := 1607) (by decide +kernel)⟩
theorem lw_p84 : lw_okq (⟨"QuayCranesModel", "nearestFor", "(I)I"⟩, 42) := ⟨⟨by decide +kernel, by decide +kernel⟩, List.mem_of_getElem? (i := 1095) (by decide +kernel), List.mem_of_getElem? (i := 1610) (by decide +kernel), List.mem_of_getElem? (i := 1611) (by decide +kernel)⟩
theorem lw_p85 : lw_okq (⟨"QuayCranesModel", "seeksZones", "()V"⟩, 42) := ⟨⟨by decide +kernel, by decide +kernel⟩, List.mem_of_getElem? (i := 1095) (by decide +kernel), List.mem_of_getElem? (i := 1618) (by decide +kernel), List.mem_of_getElem? (i := 1619) (by decide +kernel)⟩
theorem lw_p86 : lw_okq (⟨"QuayCranesModel", "sorts", "()V"⟩, 42) := ⟨⟨by decide +kernel, by decide +kernel⟩, List.mem_of_getElem? (i := 1095) (by decide +kernel), List.mem_of_getElem? (i := 1622) (by decide +kernel), List.mem_of_getElem? (i := 1623) (by decide +kernel)⟩
theorem lw_p87 : lw_okq (⟨"QuayCranesModel", "cuts", "(II)V"⟩, 42) := ⟨⟨by decide +kernel, by decide +kernel⟩, List.mem_of_getElem? (i := 1095) (by decide +kernel), List.mem_of_getElem? (i := 1626) (by decide +kernel), List.mem_of_getElem? (i := 1627) (by decide +kernel)⟩
theorem lw_p88 : lw_okq (⟨"QuayCranesModel", "seeksBetter", "()Z"⟩, 42) := ⟨⟨by decide +kernel, by decide +kernel⟩, List.mem_of_getElem? (i := 1095) (by decide +kernel), List.mem_of_getElem? (i := 1634) (by decide +kernel), List.mem_of_getElem? (i := 1635) (by decide +kernel)⟩
theorem lw_p89 : lw_okq (⟨"QuayCranesModel", "triesPlaces", "(III)V"⟩, 42) := ⟨⟨by decide +kernel, by decide +kernel⟩, List.mem_of_getElem? (i := 1095) (by decide +kernel), List.mem_of_getElem? (i := 1638) (by decide +kernel), List.mem_of_getElem? (i := 1639) (by decide +kernel)⟩
theorem lw_p90 : lw_okq (⟨"QuayCranesModel", "takesOut", "(II)V"⟩, 42) := ⟨⟨by decide +kernel, by decide +kernel⟩, List.mem_of_getElem? (i := 1095) (by decide +kernel), List.mem_of_getElem? (i := 1642) (by decide +kernel), List.mem_of_getElem? (i := 1643) (by decide +kernel)⟩
theorem lw_p91 : lw_okq (⟨"QuayCranesModel", "putsIn", "(III)V"⟩, 42) := ⟨⟨by decide +kernel, by decide +kernel⟩, List.mem_of_getElem? (i := 1095) (by decide +kernel), List.mem_of_getElem? (i := 1646) (by decide +kernel), List.mem_of_getElem? (i := 1647) (by decide +kernel)⟩
theorem lw_p92 : lw_okq (⟨"QuayCranesModel", "seeksWhich", "(I)Z"⟩, 42) := ⟨⟨by decide +kernel, by decide +kernel⟩, List.mem_of_getElem? (i := 1095) (by decide +kernel), List.mem_of_getElem? (i := 1654) (by decide +kernel), List.mem_of_getElem? (i := 1655) (by decide +kernel)⟩
theorem lw_p93 : lw_okq (⟨"QuayCranesModel", "writes", "(I)V"⟩, 42) := ⟨⟨by decide +kernel, by decide +kernel⟩, List.mem_of_getElem? (i := 1095) (by decide +kernel), List.mem_of_getElem? (i := 1662) (by decide +kernel), List.mem_of_getElem? (i := 1663) (by decide +kernel)⟩
theorem lw_p94 : lw_okq (⟨"QuayCranesModel", "nearestNow", "([I)I"⟩, 42) := ⟨⟨by decide +kernel, by decide +kernel⟩, List.mem_of_getElem? (i := 1095) (by decide +kernel), List.mem_of_getElem? (i := 1670) (by decide +kernel), List.mem_of_getElem? (i := 1671) (by decide +kernel)⟩
theorem lw_p95 : lw_okq (⟨"QuayCranesModel", "nobodyWorks", "()Z"⟩, 42) := ⟨⟨by decide +kernel, by decide +kernel⟩, List.mem_of_getElem? (i := 1095) (by decide +kernel), List.mem_of_getElem? (i := 1688) (by decide +kernel), List.mem_of_getElem? (i := 1689) (by decide +kernel)⟩
def lw_privs_6 : List (MethodName × Nat) := [(⟨"QuayCranesModel", "tells", "(I)I"⟩, 42), (⟨"QuayCranesModel", "seeksEasy", "()V"⟩, 42), (⟨"QuayCranesModel", "isAllDone", "([I)Z"⟩, 42), (⟨"QuayCranesModel", "gives", "(I)V"⟩, 42), (⟨"QuayCranesModel", "nearestFor", "(I)I"⟩, 42), (⟨"QuayCranesModel", "seeksZones", "()V"⟩, 42), (⟨"QuayCranesModel", "sorts", "()V"⟩, 42), (⟨"QuayCranesModel", "cuts", "(II)V"⟩, 42), (⟨"QuayCranesModel", "seeksBetter", "()Z"⟩, 42), (⟨"QuayCranesModel", "triesPlaces", "(III)V"⟩, 42), (⟨"QuayCranesModel", "takesOut", "(II)V"⟩, 42), (⟨"QuayCranesModel", "putsIn", "(III)V"⟩, 42), (⟨"QuayCranesModel", "seeksWhich", "(I)Z"⟩, 42), (⟨"QuayCranesModel", "writes", "(I)V"⟩, 42), (⟨"QuayCranesModel", "nearestNow", "([I)I"⟩, 42), (⟨"QuayCranesModel", "nobodyWorks", "()Z"⟩, 42)]
theorem lw_r6 : ∀ q ∈ lw_privs_6, lw_okq q := List.forall_mem_cons.mpr ⟨lw_p80, List.forall_mem_cons.mpr ⟨lw_p81, List.forall_mem_cons.mpr ⟨lw_p82, List.forall_mem_cons.mpr ⟨lw_p83, List.forall_mem_cons.mpr ⟨lw_p84, List.forall_mem_cons.mpr ⟨lw_p85, List.forall_mem_cons.mpr ⟨lw_p86, List.forall_mem_cons.mpr ⟨lw_p87, List.forall_mem_cons.mpr ⟨lw_p88, List.forall_mem_cons.mpr ⟨lw_p89, List.forall_mem_cons.mpr ⟨lw_p90, List.forall_mem_cons.mpr ⟨lw_p91, List.forall_mem_cons.mpr ⟨lw_p92, List.forall_mem_cons.mpr ⟨lw_p93, List.forall_mem_cons.mpr ⟨lw_p94, List.forall_mem_cons.mpr ⟨lw_p95, fun _ h => absurd h List.not_mem_nil⟩⟩⟩⟩⟩⟩⟩⟩⟩⟩⟩⟩⟩⟩⟩⟩
theorem lw_p96 : lw_okq (⟨"QuayCranesModel", "firstBound", "()I"⟩, 42) := ⟨⟨by decide +kernel, by decide +kernel⟩, List.mem_of_getElem? (i := 1095) (by decide +kernel), List.mem_of_getElem? (i := 1705) (by decide +kernel), List.mem_of_getElem? (i := 1706) (by decide +kernel)⟩
theorem lw_p97 : lw_okq (⟨"QuayCranesModel", "rowOf", "(I)I"⟩, 42) := ⟨⟨by decide +kernel, by decide +kernel⟩, List.mem_of_getElem? (i := 1095) (by decide +kernel), List.mem_of_getElem? (i := 1709) (by decide +kernel), List.mem_of_getElem? (i := 1710) (by decide +kernel)⟩
theorem lw_p98 : lw_okq (⟨"QuayCranesModel", "secondBound", "()I"⟩, 42) := ⟨⟨by decide +kernel, by decide +kernel⟩, List.mem_of_getElem? (i := 1095) (by decide +kernel), List.mem_of_getElem? (i := 1716) (by decide +kernel), List.mem_of_getElem? (i := 1717) (by decide +kernel)⟩
theorem lw_p99 : lw_okq (⟨"QuayCranesModel", "thirdBound", "()I"⟩, 42) := ⟨⟨by decide +kernel, by decide +kernel⟩, List.mem_of_getElem? (i := 1095) (by decide +kernel), List.mem_of_getElem? (i := 1720) (by decide +kernel), List.mem_of_getElem? (i := 1721) (by decide +kernel)⟩
theorem lw_p100 : lw_okq (⟨"QuayCranesModel", "busiest", "()I"⟩, 42) := ⟨⟨by decide +kernel, by decide +kernel⟩, List.mem_of_getElem? (i := 1095) (by decide +kernel), List.mem_of_getElem? (i := 1755) (by decide +kernel), List.mem_of_getElem? (i := 1756) (by decide +kernel)⟩
theorem lw_p101 : lw_okq (⟨"QuayCranesModel", "leftBy", "(I)I"⟩, 42) := ⟨⟨by decide +kernel, by decide +kernel⟩, List.mem_of_getElem? (i := 1095) (by decide +kernel), List.mem_of_getElem? (i := 1759) (by decide +kernel), List.mem_of_getElem? (i := 1760) (by decide +kernel)⟩
theorem lw_p102 : lw_okq (⟨"QuayCranesModel", "fullest", "()I"⟩, 42) := ⟨⟨by decide +kernel, by decide +kernel⟩, List.mem_of_getElem? (i := 1095) (by decide +kernel), List.mem_of_getElem? (i := 1763) (by decide +kernel), List.mem_of_getElem? (i := 1764) (by decide +kernel)⟩
theorem lw_p103 : lw_okq (⟨"QuayCranesModel", "leftAt", "(I)I"⟩, 42) := ⟨⟨by decide +kernel, by decide +kernel⟩, List.mem_of_getElem? (i := 1095) (by decide +kernel), List.mem_of_getElem? (i := 1767) (by decide +kernel), List.mem_of_getElem? (i := 1768) (by decide +kernel)⟩
theorem lw_p104 : lw_okq (⟨"QuayCranesModel", "longest", "()I"⟩, 42) := ⟨⟨by decide +kernel, by decide +kernel⟩, List.mem_of_getElem? (i := 1095) (by decide +kernel), List.mem_of_getElem? (i := 1771) (by decide +kernel), List.mem_of_getElem? (i := 1772) (by decide +kernel)⟩
theorem lw_p105 : lw_okq (⟨"QuayCranesModel", "wildest", "()I"⟩, 42) := ⟨⟨by decide +kernel, by decide +kernel⟩, List.mem_of_getElem? (i := 1095) (by decide +kernel), List.mem_of_getElem? (i := 1775) (by decide +kernel), List.mem_of_getElem? (i := 1776) (by decide +kernel)⟩
def lw_privs_7 : List (MethodName × Nat) := [(⟨"QuayCranesModel", "firstBound", "()I"⟩, 42), (⟨"QuayCranesModel", "rowOf", "(I)I"⟩, 42), (⟨"QuayCranesModel", "secondBound", "()I"⟩, 42), (⟨"QuayCranesModel", "thirdBound", "()I"⟩, 42), (⟨"QuayCranesModel", "busiest", "()I"⟩, 42), (⟨"QuayCranesModel", "leftBy", "(I)I"⟩, 42), (⟨"QuayCranesModel", "fullest", "()I"⟩, 42), (⟨"QuayCranesModel", "leftAt", "(I)I"⟩, 42), (⟨"QuayCranesModel", "longest", "()I"⟩, 42), (⟨"QuayCranesModel", "wildest", "()I"⟩, 42)]
theorem lw_r7 : ∀ q ∈ lw_privs_7, lw_okq q := List.forall_mem_cons.mpr ⟨lw_p96, List.forall_mem_cons.mpr ⟨lw_p97, List.forall_mem_cons.mpr ⟨lw_p98, List.forall_mem_cons.mpr ⟨lw_p99, List.forall_mem_cons.mpr ⟨lw_p100, List.forall_mem_cons.mpr ⟨lw_p101, List.forall_mem_cons.mpr ⟨lw_p102, List.forall_mem_cons.mpr ⟨lw_p103, List.forall_mem_cons.mpr ⟨lw_p104, List.forall_mem_cons.mpr ⟨lw_p105, fun _ h => absurd h List.not_mem_nil⟩⟩⟩⟩⟩⟩⟩⟩⟩⟩
def lw_privs : List (MethodName × Nat) := lw_privs_1 ++ (lw_privs_2 ++ (lw_privs_3 ++ (lw_privs_4 ++ (lw_privs_5 ++ (lw_privs_6 ++ (lw_privs_7))))))
def lw_tbl : List Cond := k2_sels lw_privs ++ tables_1
theorem lw_privs_ok : ∀ q ∈ lw_privs, lw_okq q := by
  show ∀ q ∈ lw_privs_1 ++ (lw_privs_2 ++ (lw_privs_3 ++ (lw_privs_4 ++ (lw_privs_5 ++ (lw_privs_6 ++ (lw_privs_7)))))), lw_okq q
  exact List.forall_mem_append.mpr ⟨lw_r1, List.forall_mem_append.mpr ⟨lw_r2, List.forall_mem_append.mpr ⟨lw_r3, List.forall_mem_append.mpr ⟨lw_r4, List.forall_mem_append.mpr ⟨lw_r5, List.forall_mem_append.mpr ⟨lw_r6, lw_r7⟩⟩⟩⟩⟩⟩
/-- the streams that the claim lets the run draw from -/
abbrev lw_cs : List Choice := [Jvm.Choice.named "NaN.bits", Jvm.Choice.named "NaN.copy"]
theorem lw_bits : nanBits ∈ lw_cs := by first | decide | exact List.mem_cons_self | simp [lw_cs, nanBits]
def RX0 : String := "QuayCranes$Acts"
def TX0 : u_T := fun k => match k with
  | 0 => ("QuayCranes$Acts", "ahead", "[LQuayCranes$Yard;", true)
  | 1 => ("QuayCranes$Acts", "first", "I", false)
  | _ => ("QuayCranes$Acts", "many", "I", false)
def tyX0 : Nat → FieldType := fun k => match k with
  | 0 => .array (.object "QuayCranes$Yard")
  | 1 => .int
  | _ => .int
abbrev wsX00 : List Cond := u_ws RX0 TX0 3
theorem nmX0 : ∀ a, a < 3 → ∀ b, b < 3 → a ≠ b → (TX0 a).2.1 ≠ (TX0 b).2.1 := by decide +kernel
theorem tyX0_ok : ∀ k, k < 3 → parseFieldDescriptor (TX0 k).2.2.1 = some (tyX0 k) := by decide +kernel
abbrev cX0_init : ByteArray := prog_2_method_1_code
def yX0_init : MethodName := ⟨RX0, "<init>", "()V"⟩
abbrev cX0_forget : ByteArray := prog_2_method_2_code
def yX0_forget : MethodName := ⟨RX0, "forget", "()V"⟩
abbrev cX0_keep : ByteArray := prog_2_method_3_code
def yX0_keep : MethodName := ⟨RX0, "keep", "(LQuayCranes$Yard;)V"⟩
abbrev cX0_canUndo : ByteArray := prog_2_method_4_code
def yX0_canUndo : MethodName := ⟨RX0, "canUndo", "()Z"⟩
abbrev cX0_takeBack : ByteArray := prog_2_method_5_code
def yX0_takeBack : MethodName := ⟨RX0, "takeBack", "(LQuayCranes$Yard;)V"⟩
def RX1 : String := "QuayCranes$Choice"
def TX1 : u_T := fun k => match k with
  | 0 => ("QuayCranes$Choice", "plan", "LQuayCranes$Plan;", true)
  | 1 => ("QuayCranes$Choice", "known", "Z", false)
  | 2 => ("QuayCranes$Choice", "last", "I", false)
  | 3 => ("QuayCranes$Choice", "task", "I", false)
  | 4 => ("QuayCranes$Choice", "limit", "I", false)
  | _ => ("QuayCranes$Choice", "least", "I", false)
def tyX1 : Nat → FieldType := fun k => match k with
  | 0 => .object "QuayCranes$Plan"
  | 1 => .boolean
  | 2 => .int
  | 3 => .int
  | 4 => .int
  | _ => .int
abbrev wsX10 : List Cond := u_ws RX1 TX1 6
theorem nmX1 : ∀ a, a < 6 → ∀ b, b < 6 → a ≠ b → (TX1 a).2.1 ≠ (TX1 b).2.1 := by decide +kernel
theorem tyX1_ok : ∀ k, k < 6 → parseFieldDescriptor (TX1 k).2.2.1 = some (tyX1 k) := by decide +kernel
abbrev cX1_init : ByteArray := prog_3_method_1_code
def yX1_init : MethodName := ⟨RX1, "<init>", "()V"⟩
abbrev cX1_open : ByteArray := prog_3_method_2_code
def yX1_open : MethodName := ⟨RX1, "open", "(I)V"⟩
abbrev cX1_take : ByteArray := prog_3_method_3_code
def yX1_take : MethodName := ⟨RX1, "take", "(LQuayCranes$Plan;I)V"⟩
abbrev cX1_tell : ByteArray := prog_3_method_4_code
def yX1_tell : MethodName := ⟨RX1, "tell", "(I)I"⟩
def RX2 : String := "QuayCranes$Course"
def TX2 : u_T := fun k => match k with
  | 0 => ("QuayCranes$Course", "bay", "[I", true)
  | 1 => ("QuayCranes$Course", "sway", "[F", true)
  | 2 => ("QuayCranes$Course", "deed", "[I", true)
  | 3 => ("QuayCranes$Course", "doneIn", "[I", true)
  | 4 => ("QuayCranes$Course", "last", "I", false)
  | _ => ("QuayCranes$Course", "known", "Z", false)
def tyX2 : Nat → FieldType := fun k => match k with
  | 0 => .array .int
  | 1 => .array .float
  | 2 => .array .int
  | 3 => .array .int
  | 4 => .int
  | _ => .boolean
abbrev wsX20 : List Cond := u_ws RX2 TX2 6
theorem nmX2 : ∀ a, a < 6 → ∀ b, b < 6 → a ≠ b → (TX2 a).2.1 ≠ (TX2 b).2.1 := by decide +kernel
theorem tyX2_ok : ∀ k, k < 6 → parseFieldDescriptor (TX2 k).2.2.1 = some (tyX2 k) := by decide +kernel
abbrev cX2_init : ByteArray := prog_4_method_1_code
def yX2_init : MethodName := ⟨RX2, "<init>", "()V"⟩
abbrev cX2_goThrough : ByteArray := prog_4_method_2_code
def yX2_goThrough : MethodName := ⟨RX2, "goThrough", "(LQuayCranes$Yard;)V"⟩
abbrev cX2_mark : ByteArray := prog_4_method_3_code
def yX2_mark : MethodName := ⟨RX2, "mark", "(LQuayCranes$Yard;I)V"⟩
abbrev cX2_markDeeds : ByteArray := prog_4_method_4_code
def yX2_markDeeds : MethodName := ⟨RX2, "markDeeds", "(LQuayCranes$Yard;I)V"⟩
abbrev cX2_bayAt : ByteArray := prog_4_method_5_code
def yX2_bayAt : MethodName := ⟨RX2, "bayAt", "(II)I"⟩
abbrev cX2_swayAt : ByteArray := prog_4_method_6_code
def yX2_swayAt : MethodName := ⟨RX2, "swayAt", "(II)F"⟩
abbrev cX2_deedAt : ByteArray := prog_4_method_7_code
def yX2_deedAt : MethodName := ⟨RX2, "deedAt", "(II)I"⟩
abbrev cX2_deedsOf : ByteArray := prog_4_method_8_code
def yX2_deedsOf : MethodName := ⟨RX2, "deedsOf", "(III)I"⟩
abbrev cX2_idleIn : ByteArray := prog_4_method_9_code
def yX2_idleIn : MethodName := ⟨RX2, "idleIn", "(II)I"⟩
def RX3 : String := "QuayCranes$Plan"
def TX3 : u_T := fun k => match k with
  | 0 => ("QuayCranes$Plan", "list", "[I", true)
  | _ => ("QuayCranes$Plan", "size", "[I", true)
def tyX3 : Nat → FieldType := fun k => match k with
  | 0 => .array .int
  | _ => .array .int
abbrev wsX30 : List Cond := u_ws RX3 TX3 2
theorem nmX3 : ∀ a, a < 2 → ∀ b, b < 2 → a ≠ b → (TX3 a).2.1 ≠ (TX3 b).2.1 := by decide +kernel
theorem tyX3_ok : ∀ k, k < 2 → parseFieldDescriptor (TX3 k).2.2.1 = some (tyX3 k) := by decide +kernel
abbrev cX3_init : ByteArray := prog_5_method_1_code
def yX3_init : MethodName := ⟨RX3, "<init>", "()V"⟩
abbrev cX3_clear : ByteArray := prog_5_method_2_code
def yX3_clear : MethodName := ⟨RX3, "clear", "()V"⟩
abbrev cX3_copyOf : ByteArray := prog_5_method_3_code
def yX3_copyOf : MethodName := ⟨RX3, "copyOf", "(LQuayCranes$Plan;)V"⟩
abbrev cX3_at : ByteArray := prog_5_method_4_code
def yX3_at : MethodName := ⟨RX3, "at", "(II)I"⟩
abbrev cX3_add : ByteArray := prog_5_method_5_code
def yX3_add : MethodName := ⟨RX3, "add", "(II)V"⟩
abbrev cX3_insert : ByteArray := prog_5_method_6_code
def yX3_insert : MethodName := ⟨RX3, "insert", "(III)V"⟩
abbrev cX3_remove : ByteArray := prog_5_method_7_code
def yX3_remove : MethodName := ⟨RX3, "remove", "(I)V"⟩
abbrev cX3_dropLast : ByteArray := prog_5_method_8_code
def yX3_dropLast : MethodName := ⟨RX3, "dropLast", "(I)V"⟩
abbrev cX3_holder : ByteArray := prog_5_method_9_code
def yX3_holder : MethodName := ⟨RX3, "holder", "(I)I"⟩
abbrev cX3_spot : ByteArray := prog_5_method_10_code
def yX3_spot : MethodName := ⟨RX3, "spot", "(I)I"⟩
abbrev cX3_find : ByteArray := prog_5_method_11_code
def yX3_find : MethodName := ⟨RX3, "find", "(I)I"⟩
abbrev cX3_bits : ByteArray := prog_5_method_12_code
def yX3_bits : MethodName := ⟨RX3, "bits", "()I"⟩
def RX4 : String := "QuayCranes$Reader"
def TX4 : u_T := fun k => match k with
  | 0 => ("QuayCranes$Reader", "tape", "LQuayCranes$Tape;", true)
  | 1 => ("QuayCranes$Reader", "draft", "LQuayCranes$Yard;", true)
  | 2 => ("QuayCranes$Reader", "told", "LQuayCranes$Plan;", true)
  | 3 => ("QuayCranes$Reader", "rows", "[I", true)
  | _ => ("QuayCranes$Reader", "lines", "I", false)
def tyX4 : Nat → FieldType := fun k => match k with
  | 0 => .object "QuayCranes$Tape"
  | 1 => .object "QuayCranes$Yard"
  | 2 => .object "QuayCranes$Plan"
  | 3 => .array .int
  | _ => .int
abbrev wsX40 : List Cond := u_ws RX4 TX4 5
theorem nmX4 : ∀ a, a < 5 → ∀ b, b < 5 → a ≠ b → (TX4 a).2.1 ≠ (TX4 b).2.1 := by decide +kernel
theorem tyX4_ok : ∀ k, k < 5 → parseFieldDescriptor (TX4 k).2.2.1 = some (tyX4 k) := by decide +kernel
abbrev cX4_init : ByteArray := prog_6_method_1_code
def yX4_init : MethodName := ⟨RX4, "<init>", "()V"⟩
abbrev cX4_readsQuay : ByteArray := prog_6_method_2_code
def yX4_readsQuay : MethodName := ⟨RX4, "readsQuay", "()Z"⟩
abbrev cX4_readsPlan : ByteArray := prog_6_method_3_code
def yX4_readsPlan : MethodName := ⟨RX4, "readsPlan", "(LQuayCranes$Yard;)Z"⟩
abbrev cX4_readsMoves : ByteArray := prog_6_method_4_code
def yX4_readsMoves : MethodName := ⟨RX4, "readsMoves", "(I)Z"⟩
abbrev cX4_bayTold : ByteArray := prog_6_method_5_code
def yX4_bayTold : MethodName := ⟨RX4, "bayTold", "(II)I"⟩
abbrev cX4_isNamed : ByteArray := prog_6_method_6_code
def yX4_isNamed : MethodName := ⟨RX4, "isNamed", "(Ljava/lang/String;II)Z"⟩
abbrev cX4_isNextLine : ByteArray := prog_6_method_7_code
def yX4_isNextLine : MethodName := ⟨RX4, "isNextLine", "()Z"⟩
abbrev cX4_readsCrane : ByteArray := prog_6_method_8_code
def yX4_readsCrane : MethodName := ⟨RX4, "readsCrane", "()Z"⟩
abbrev cX4_readsTasks : ByteArray := prog_6_method_9_code
def yX4_readsTasks : MethodName := ⟨RX4, "readsTasks", "()Z"⟩
abbrev cX4_readsTask : ByteArray := prog_6_method_10_code
def yX4_readsTask : MethodName := ⟨RX4, "readsTask", "(I)Z"⟩
abbrev cX4_readsList : ByteArray := prog_6_method_11_code
def yX4_readsList : MethodName := ⟨RX4, "readsList", "(LQuayCranes$Yard;I)Z"⟩
def RX5 : String := "QuayCranes$Search"
def TX5 : u_T := fun k => match k with
  | 0 => ("QuayCranes$Search", "from", "LQuayCranes$Yard;", true)
  | 1 => ("QuayCranes$Search", "apart", "LQuayCranes$Yard;", true)
  | 2 => ("QuayCranes$Search", "trial", "LQuayCranes$Plan;", true)
  | 3 => ("QuayCranes$Search", "rest", "LQuayCranes$Plan;", true)
  | 4 => ("QuayCranes$Search", "rough", "LQuayCranes$Choice;", true)
  | 5 => ("QuayCranes$Search", "order", "[I", true)
  | _ => ("QuayCranes$Search", "many", "I", false)
def tyX5 : Nat → FieldType := fun k => match k with
  | 0 => .object "QuayCranes$Yard"
  | 1 => .object "QuayCranes$Yard"
  | 2 => .object "QuayCranes$Plan"
  | 3 => .object "QuayCranes$Plan"
  | 4 => .object "QuayCranes$Choice"
  | 5 => .array .int
  | _ => .int
abbrev wsX50 : List Cond := u_ws RX5 TX5 7
theorem nmX5 : ∀ a, a < 7 → ∀ b, b < 7 → a ≠ b → (TX5 a).2.1 ≠ (TX5 b).2.1 := by decide +kernel
theorem tyX5_ok : ∀ k, k < 7 → parseFieldDescriptor (TX5 k).2.2.1 = some (tyX5 k) := by decide +kernel
abbrev cX5_init : ByteArray := prog_7_method_1_code
def yX5_init : MethodName := ⟨RX5, "<init>", "()V"⟩
abbrev cX5_findBest : ByteArray := prog_7_method_2_code
def yX5_findBest : MethodName := ⟨RX5, "findBest", "(LQuayCranes$Yard;ILQuayCranes$Choice;)V"⟩
abbrev cX5_extend : ByteArray := prog_7_method_3_code
def yX5_extend : MethodName := ⟨RX5, "extend", "(LQuayCranes$Search;LQuayCranes$Choice;IIIII)V"⟩
abbrev cX5_findZones : ByteArray := prog_7_method_4_code
def yX5_findZones : MethodName := ⟨RX5, "findZones", "(LQuayCranes$Yard;LQuayCranes$Choice;)V"⟩
abbrev cX5_begin : ByteArray := prog_7_method_5_code
def yX5_begin : MethodName := ⟨RX5, "begin", "(LQuayCranes$Yard;ILQuayCranes$Choice;)V"⟩
abbrev cX5_cut : ByteArray := prog_7_method_6_code
def yX5_cut : MethodName := ⟨RX5, "cut", "(LQuayCranes$Search;LQuayCranes$Choice;III)V"⟩
abbrev cX5_sortByBay : ByteArray := prog_7_method_7_code
def yX5_sortByBay : MethodName := ⟨RX5, "sortByBay", "()V"⟩
abbrev cX5_findBetter : ByteArray := prog_7_method_8_code
def yX5_findBetter : MethodName := ⟨RX5, "findBetter", "(LQuayCranes$Yard;ILQuayCranes$Choice;)V"⟩
abbrev cX5_tryPlaces : ByteArray := prog_7_method_9_code
def yX5_tryPlaces : MethodName := ⟨RX5, "tryPlaces", "(LQuayCranes$Choice;I)V"⟩
abbrev cX5_weigh : ByteArray := prog_7_method_10_code
def yX5_weigh : MethodName := ⟨RX5, "weigh", "(LQuayCranes$Choice;)Z"⟩
abbrev cX5_findEasy : ByteArray := prog_7_method_11_code
def yX5_findEasy : MethodName := ⟨RX5, "findEasy", "(LQuayCranes$Yard;LQuayCranes$Choice;)V"⟩
abbrev cX5_give : ByteArray := prog_7_method_12_code
def yX5_give : MethodName := ⟨RX5, "give", "(I)V"⟩
def RX6 : String := "QuayCranes$Tape"
def TX6 : u_T := fun k => match k with
  | 0 => ("QuayCranes$Tape", "bytes", "[I", true)
  | 1 => ("QuayCranes$Tape", "length", "I", false)
  | 2 => ("QuayCranes$Tape", "start", "I", false)
  | 3 => ("QuayCranes$Tape", "kind", "I", false)
  | 4 => ("QuayCranes$Tape", "value", "I", false)
  | _ => ("QuayCranes$Tape", "cursor", "I", false)
def tyX6 : Nat → FieldType := fun k => match k with
  | 0 => .array .int
  | 1 => .int
  | 2 => .int
  | 3 => .int
  | 4 => .int
  | _ => .int
abbrev wsX60 : List Cond := u_ws RX6 TX6 6
theorem nmX6 : ∀ a, a < 6 → ∀ b, b < 6 → a ≠ b → (TX6 a).2.1 ≠ (TX6 b).2.1 := by decide +kernel
theorem tyX6_ok : ∀ k, k < 6 → parseFieldDescriptor (TX6 k).2.2.1 = some (tyX6 k) := by decide +kernel
abbrev cX6_init : ByteArray := prog_8_method_1_code
def yX6_init : MethodName := ⟨RX6, "<init>", "()V"⟩
abbrev cX6_append : ByteArray := prog_8_method_2_code
def yX6_append : MethodName := ⟨RX6, "append", "(I)V"⟩
abbrev cX6_rewind : ByteArray := prog_8_method_3_code
def yX6_rewind : MethodName := ⟨RX6, "rewind", "()V"⟩
abbrev cX6_advance : ByteArray := prog_8_method_4_code
def yX6_advance : MethodName := ⟨RX6, "advance", "()V"⟩
abbrev cX6_isWord : ByteArray := prog_8_method_5_code
def yX6_isWord : MethodName := ⟨RX6, "isWord", "(Ljava/lang/String;)Z"⟩
abbrev cX6_isNumber : ByteArray := prog_8_method_6_code
def yX6_isNumber : MethodName := ⟨RX6, "isNumber", "(II)Z"⟩
abbrev cX6_taken : ByteArray := prog_8_method_7_code
def yX6_taken : MethodName := ⟨RX6, "taken", "()I"⟩
abbrev cX6_byteAt : ByteArray := prog_8_method_8_code
def yX6_byteAt : MethodName := ⟨RX6, "byteAt", "(I)I"⟩
abbrev cX6_isLetter : ByteArray := prog_8_method_9_code
def yX6_isLetter : MethodName := ⟨RX6, "isLetter", "(I)Z"⟩
abbrev cX6_isDigit : ByteArray := prog_8_method_10_code
def yX6_isDigit : MethodName := ⟨RX6, "isDigit", "(I)Z"⟩
def RX7 : String := "QuayCranes$Yard"
def TX7 : u_T := fun k => match k with
  | 0 => ("QuayCranes$Yard", "bays", "I", false)
  | 1 => ("QuayCranes$Yard", "gap", "I", false)
  | 2 => ("QuayCranes$Yard", "cranes", "I", false)
  | 3 => ("QuayCranes$Yard", "tasks", "I", false)
  | 4 => ("QuayCranes$Yard", "minute", "I", false)
  | 5 => ("QuayCranes$Yard", "broken", "I", false)
  | 6 => ("QuayCranes$Yard", "done", "I", false)
  | 7 => ("QuayCranes$Yard", "bay", "[I", true)
  | 8 => ("QuayCranes$Yard", "lift", "[I", true)
  | 9 => ("QuayCranes$Yard", "sway", "[F", true)
  | 10 => ("QuayCranes$Yard", "next", "[I", true)
  | 11 => ("QuayCranes$Yard", "deed", "[I", true)
  | 12 => ("QuayCranes$Yard", "site", "[I", true)
  | 13 => ("QuayCranes$Yard", "takes", "[I", true)
  | 14 => ("QuayCranes$Yard", "heavy", "[I", true)
  | 15 => ("QuayCranes$Yard", "after", "[I", true)
  | 16 => ("QuayCranes$Yard", "did", "[I", true)
  | 17 => ("QuayCranes$Yard", "doneAt", "[I", true)
  | 18 => ("QuayCranes$Yard", "doer", "[I", true)
  | _ => ("QuayCranes$Yard", "plan", "LQuayCranes$Plan;", true)
def tyX7 : Nat → FieldType := fun k => match k with
  | 0 => .int
  | 1 => .int
  | 2 => .int
  | 3 => .int
  | 4 => .int
  | 5 => .int
  | 6 => .int
  | 7 => .array .int
  | 8 => .array .int
  | 9 => .array .float
  | 10 => .array .int
  | 11 => .array .int
  | 12 => .array .int
  | 13 => .array .int
  | 14 => .array .int
  | 15 => .array .int
  | 16 => .array .int
  | 17 => .array .int
  | 18 => .array .int
  | _ => .object "QuayCranes$Plan"
abbrev wsX70 : List Cond := u_ws RX7 TX7 20
theorem nmX7 : ∀ a, a < 20 → ∀ b, b < 20 → a ≠ b → (TX7 a).2.1 ≠ (TX7 b).2.1 := by decide +kernel
theorem tyX7_ok : ∀ k, k < 20 → parseFieldDescriptor (TX7 k).2.2.1 = some (tyX7 k) := by decide +kernel
abbrev cX7_init : ByteArray := prog_9_method_1_code
def yX7_init : MethodName := ⟨RX7, "<init>", "()V"⟩
abbrev cX7_clear : ByteArray := prog_9_method_2_code
def yX7_clear : MethodName := ⟨RX7, "clear", "()V"⟩
abbrev cX7_copyOf : ByteArray := prog_9_method_3_code
def yX7_copyOf : MethodName := ⟨RX7, "copyOf", "(LQuayCranes$Yard;)V"⟩
abbrev cX7_addCrane : ByteArray := prog_9_method_4_code
def yX7_addCrane : MethodName := ⟨RX7, "addCrane", "(II)V"⟩
abbrev cX7_addTask : ByteArray := prog_9_method_5_code
def yX7_addTask : MethodName := ⟨RX7, "addTask", "(IIII)I"⟩
abbrev cX7_isBroken : ByteArray := prog_9_method_6_code
def yX7_isBroken : MethodName := ⟨RX7, "isBroken", "(I)Z"⟩
abbrev cX7_isDone : ByteArray := prog_9_method_7_code
def yX7_isDone : MethodName := ⟨RX7, "isDone", "(I)Z"⟩
abbrev cX7_canLift : ByteArray := prog_9_method_8_code
def yX7_canLift : MethodName := ⟨RX7, "canLift", "(II)Z"⟩
abbrev cX7_canReach : ByteArray := prog_9_method_9_code
def yX7_canReach : MethodName := ⟨RX7, "canReach", "(II)Z"⟩
abbrev cX7_leftBits : ByteArray := prog_9_method_10_code
def yX7_leftBits : MethodName := ⟨RX7, "leftBits", "()I"⟩
abbrev cX7_nextOf : ByteArray := prog_9_method_11_code
def yX7_nextOf : MethodName := ⟨RX7, "nextOf", "(I)I"⟩
abbrev cX7_lastWithin : ByteArray := prog_9_method_12_code
def yX7_lastWithin : MethodName := ⟨RX7, "lastWithin", "(I)I"⟩
abbrev cX7_pass : ByteArray := prog_9_method_13_code
def yX7_pass : MethodName := ⟨RX7, "pass", "()Z"⟩
abbrev cX7_begin : ByteArray := prog_9_method_14_code
def yX7_begin : MethodName := ⟨RX7, "begin", "()Z"⟩
abbrev cX7_step : ByteArray := prog_9_method_15_code
def yX7_step : MethodName := ⟨RX7, "step", "(I)V"⟩
abbrev cX7_swing : ByteArray := prog_9_method_16_code
def yX7_swing : MethodName := ⟨RX7, "swing", "()Z"⟩
abbrev cX7_boundOf : ByteArray := prog_9_method_17_code
def yX7_boundOf : MethodName := ⟨RX7, "boundOf", "(I)I"⟩
abbrev cX7_leftWithin : ByteArray := prog_9_method_18_code
def yX7_leftWithin : MethodName := ⟨RX7, "leftWithin", "(II)I"⟩
abbrev cX7_busiestBays : ByteArray := prog_9_method_19_code
def yX7_busiestBays : MethodName := ⟨RX7, "busiestBays", "(I)I"⟩
abbrev cX7_busiestBay : ByteArray := prog_9_method_20_code
def yX7_busiestBay : MethodName := ⟨RX7, "busiestBay", "()I"⟩
abbrev cX7_busiestCrane : ByteArray := prog_9_method_21_code
def yX7_busiestCrane : MethodName := ⟨RX7, "busiestCrane", "()I"⟩
abbrev cX7_wildestCrane : ByteArray := prog_9_method_22_code
def yX7_wildestCrane : MethodName := ⟨RX7, "wildestCrane", "()I"⟩
abbrev cX7_longestTask : ByteArray := prog_9_method_23_code
def yX7_longestTask : MethodName := ⟨RX7, "longestTask", "()I"⟩
abbrev cX7_longestRow : ByteArray := prog_9_method_24_code
def yX7_longestRow : MethodName := ⟨RX7, "longestRow", "()I"⟩
abbrev cX7_rowTo : ByteArray := prog_9_method_25_code
def yX7_rowTo : MethodName := ⟨RX7, "rowTo", "(LQuayCranes$Yard;II)I"⟩
abbrev cX7_leftOf : ByteArray := prog_9_method_26_code
def yX7_leftOf : MethodName := ⟨RX7, "leftOf", "(I)I"⟩
def RX8 : String := "QuayCranes"
def TX8 : u_T := fun k => match k with
  | 0 => ("QuayCranes", "reader", "LQuayCranes$Reader;", true)
  | 1 => ("QuayCranes", "tape", "LQuayCranes$Tape;", true)
  | 2 => ("QuayCranes", "now", "LQuayCranes$Yard;", true)
  | 3 => ("QuayCranes", "apart", "LQuayCranes$Yard;", true)
  | 4 => ("QuayCranes", "image", "LQuayCranes$Yard;", true)
  | 5 => ("QuayCranes", "imaged", "Z", false)
  | 6 => ("QuayCranes", "acts", "LQuayCranes$Acts;", true)
  | 7 => ("QuayCranes", "course", "LQuayCranes$Course;", true)
  | 8 => ("QuayCranes", "search", "LQuayCranes$Search;", true)
  | 9 => ("QuayCranes", "best", "LQuayCranes$Choice;", true)
  | 10 => ("QuayCranes", "easy", "LQuayCranes$Choice;", true)
  | 11 => ("QuayCranes", "zones", "LQuayCranes$Choice;", true)
  | 12 => ("QuayCranes", "better", "LQuayCranes$Choice;", true)
  | 13 => ("QuayCranes", "lacking", "[LQuayCranes$Choice;", true)
  | _ => ("QuayCranes", "refused", "[I", true)
def tyX8 : Nat → FieldType := fun k => match k with
  | 0 => .object "QuayCranes$Reader"
  | 1 => .object "QuayCranes$Tape"
  | 2 => .object "QuayCranes$Yard"
  | 3 => .object "QuayCranes$Yard"
  | 4 => .object "QuayCranes$Yard"
  | 5 => .boolean
  | 6 => .object "QuayCranes$Acts"
  | 7 => .object "QuayCranes$Course"
  | 8 => .object "QuayCranes$Search"
  | 9 => .object "QuayCranes$Choice"
  | 10 => .object "QuayCranes$Choice"
  | 11 => .object "QuayCranes$Choice"
  | 12 => .object "QuayCranes$Choice"
  | 13 => .array (.object "QuayCranes$Choice")
  | _ => .array .int
abbrev wsX80 : List Cond := u_ws RX8 TX8 15
theorem nmX8 : ∀ a, a < 15 → ∀ b, b < 15 → a ≠ b → (TX8 a).2.1 ≠ (TX8 b).2.1 := by decide +kernel
theorem tyX8_ok : ∀ k, k < 15 → parseFieldDescriptor (TX8 k).2.2.1 = some (tyX8 k) := by decide +kernel
abbrev cX8_init : ByteArray := prog_1_method_1_code
def yX8_init : MethodName := ⟨RX8, "<init>", "()V"⟩
abbrev cX8_feed : ByteArray := prog_1_method_2_code
def yX8_feed : MethodName := ⟨RX8, "feed", "(IIIII)I"⟩
abbrev cX8_end : ByteArray := prog_1_method_3_code
def yX8_end : MethodName := ⟨RX8, "end", "(I)Z"⟩
abbrev cX8_fault : ByteArray := prog_1_method_4_code
def yX8_fault : MethodName := ⟨RX8, "fault", "(I)I"⟩
abbrev cX8_quay : ByteArray := prog_1_method_5_code
def yX8_quay : MethodName := ⟨RX8, "quay", "()I"⟩
abbrev cX8_plan : ByteArray := prog_1_method_6_code
def yX8_plan : MethodName := ⟨RX8, "plan", "()I"⟩
abbrev cX8_go : ByteArray := prog_1_method_7_code
def yX8_go : MethodName := ⟨RX8, "go", "(I)I"⟩
abbrev cX8_breaks : ByteArray := prog_1_method_8_code
def yX8_breaks : MethodName := ⟨RX8, "breaks", "(IZ)I"⟩
abbrev cX8_more : ByteArray := prog_1_method_9_code
def yX8_more : MethodName := ⟨RX8, "more", "(IIII)I"⟩
abbrev cX8_rule : ByteArray := prog_1_method_10_code
def yX8_rule : MethodName := ⟨RX8, "rule", "(I)I"⟩
abbrev cX8_crane : ByteArray := prog_1_method_11_code
def yX8_crane : MethodName := ⟨RX8, "crane", "(II)I"⟩
abbrev cX8_task : ByteArray := prog_1_method_12_code
def yX8_task : MethodName := ⟨RX8, "task", "(II)I"⟩
abbrev cX8_last : ByteArray := prog_1_method_13_code
def yX8_last : MethodName := ⟨RX8, "last", "()I"⟩
abbrev cX8_where : ByteArray := prog_1_method_14_code
def yX8_where : MethodName := ⟨RX8, "where", "(II)I"⟩
abbrev cX8_deed : ByteArray := prog_1_method_15_code
def yX8_deed : MethodName := ⟨RX8, "deed", "(II)I"⟩
abbrev cX8_deeds : ByteArray := prog_1_method_16_code
def yX8_deeds : MethodName := ⟨RX8, "deeds", "(III)I"⟩
abbrev cX8_doneBy : ByteArray := prog_1_method_17_code
def yX8_doneBy : MethodName := ⟨RX8, "doneBy", "(I)I"⟩
abbrev cX8_tried : ByteArray := prog_1_method_18_code
def yX8_tried : MethodName := ⟨RX8, "tried", "()I"⟩
abbrev cX8_moves : ByteArray := prog_1_method_19_code
def yX8_moves : MethodName := ⟨RX8, "moves", "()I"⟩
abbrev cX8_best : ByteArray := prog_1_method_20_code
def yX8_best : MethodName := ⟨RX8, "best", "(I)I"⟩
abbrev cX8_easy : ByteArray := prog_1_method_21_code
def yX8_easy : MethodName := ⟨RX8, "easy", "(I)I"⟩
abbrev cX8_zones : ByteArray := prog_1_method_22_code
def yX8_zones : MethodName := ⟨RX8, "zones", "(I)I"⟩
abbrev cX8_better : ByteArray := prog_1_method_23_code
def yX8_better : MethodName := ⟨RX8, "better", "(I)I"⟩
abbrev cX8_follow : ByteArray := prog_1_method_24_code
def yX8_follow : MethodName := ⟨RX8, "follow", "(I)I"⟩
abbrev cX8_written : ByteArray := prog_1_method_25_code
def yX8_written : MethodName := ⟨RX8, "written", "(I)I"⟩
abbrev cX8_nearest : ByteArray := prog_1_method_26_code
def yX8_nearest : MethodName := ⟨RX8, "nearest", "(I)I"⟩
abbrev cX8_swings : ByteArray := prog_1_method_27_code
def yX8_swings : MethodName := ⟨RX8, "swings", "(II)I"⟩
abbrev cX8_idle : ByteArray := prog_1_method_28_code
def yX8_idle : MethodName := ⟨RX8, "idle", "(I)I"⟩
abbrev cX8_dearest : ByteArray := prog_1_method_29_code
def yX8_dearest : MethodName := ⟨RX8, "dearest", "(I)I"⟩
abbrev cX8_bound : ByteArray := prog_1_method_30_code
def yX8_bound : MethodName := ⟨RX8, "bound", "(I)I"⟩
abbrev cX8_without : ByteArray := prog_1_method_31_code
def yX8_without : MethodName := ⟨RX8, "without", "(I)I"⟩
abbrev cX8_slack : ByteArray := prog_1_method_32_code
def yX8_slack : MethodName := ⟨RX8, "slack", "(I)I"⟩
abbrev cX8_mean : ByteArray := prog_1_method_33_code
def yX8_mean : MethodName := ⟨RX8, "mean", "(I)J"⟩
abbrev cX8_undo : ByteArray := prog_1_method_34_code
def yX8_undo : MethodName := ⟨RX8, "undo", "()I"⟩
abbrev cX8_image : ByteArray := prog_1_method_35_code
def yX8_image : MethodName := ⟨RX8, "image", "()I"⟩
abbrev cX8_back : ByteArray := prog_1_method_36_code
def yX8_back : MethodName := ⟨RX8, "back", "()I"⟩
abbrev cX8_status : ByteArray := prog_1_method_37_code
def yX8_status : MethodName := ⟨RX8, "status", "(I)I"⟩
abbrev cX8_most : ByteArray := prog_1_method_38_code
def yX8_most : MethodName := ⟨RX8, "most", "(I)I"⟩
abbrev cX8_count : ByteArray := prog_1_method_39_code
def yX8_count : MethodName := ⟨RX8, "count", "(I)I"⟩
abbrev cX8_hasQuay : ByteArray := prog_1_method_40_code
def yX8_hasQuay : MethodName := ⟨RX8, "hasQuay", "()Z"⟩
abbrev cX8_isCrane : ByteArray := prog_1_method_41_code
def yX8_isCrane : MethodName := ⟨RX8, "isCrane", "(I)Z"⟩
abbrev cX8_isTask : ByteArray := prog_1_method_42_code
def yX8_isTask : MethodName := ⟨RX8, "isTask", "(I)Z"⟩
abbrev cX8_isSpan : ByteArray := prog_1_method_43_code
def yX8_isSpan : MethodName := ⟨RX8, "isSpan", "(I)Z"⟩
abbrev cX8_canTell : ByteArray := prog_1_method_44_code
def yX8_canTell : MethodName := ⟨RX8, "canTell", "(I)Z"⟩
abbrev cX8_tooManyLeft : ByteArray := prog_1_method_45_code
def yX8_tooManyLeft : MethodName := ⟨RX8, "tooManyLeft", "()Z"⟩
abbrev cX8_refuse : ByteArray := prog_1_method_46_code
def yX8_refuse : MethodName := ⟨RX8, "refuse", "(I)I"⟩
abbrev cX8_changed : ByteArray := prog_1_method_47_code
def yX8_changed : MethodName := ⟨RX8, "changed", "()V"⟩
abbrev cX8_ahead : ByteArray := prog_1_method_48_code
def yX8_ahead : MethodName := ⟨RX8, "ahead", "()LQuayCranes$Course;"⟩
abbrev cX8_writtenOf : ByteArray := prog_1_method_49_code
def yX8_writtenOf : MethodName := ⟨RX8, "writtenOf", "(II)I"⟩
abbrev cX8_isTrue : ByteArray := prog_1_method_50_code
def yX8_isTrue : MethodName := ⟨RX8, "isTrue", "(I)Z"⟩
abbrev cX8_bytesIn : ByteArray := prog_1_method_51_code
def yX8_bytesIn : MethodName := ⟨RX8, "bytesIn", "(I)I"⟩
abbrev cX8_bitsOfFloat : ByteArray := prog_1_method_52_code
def yX8_bitsOfFloat : MethodName := ⟨RX8, "bitsOfFloat", "(F)I"⟩
abbrev cX8_bitsOfDouble : ByteArray := prog_1_method_53_code
def yX8_bitsOfDouble : MethodName := ⟨RX8, "bitsOfDouble", "(D)J"⟩
def RX9 : String := "QuayCranesModel"
def TX9 : u_T := fun k => match k with
  | 0 => ("QuayCranesModel", "thrown", "I", false)
  | 1 => ("QuayCranesModel", "tape", "[I", true)
  | 2 => ("QuayCranesModel", "taped", "I", false)
  | 3 => ("QuayCranesModel", "at", "I", false)
  | 4 => ("QuayCranesModel", "from", "I", false)
  | 5 => ("QuayCranesModel", "wrong", "I", false)
  | 6 => ("QuayCranesModel", "part", "I", false)
  | 7 => ("QuayCranesModel", "number", "I", false)
  | 8 => ("QuayCranesModel", "bays", "I", false)
  | 9 => ("QuayCranesModel", "gap", "I", false)
  | 10 => ("QuayCranesModel", "cranes", "I", false)
  | 11 => ("QuayCranesModel", "lift", "[I", true)
  | 12 => ("QuayCranesModel", "now", "[I", true)
  | 13 => ("QuayCranesModel", "isQuay", "Z", false)
  | 14 => ("QuayCranesModel", "readBays", "I", false)
  | 15 => ("QuayCranesModel", "readGap", "I", false)
  | 16 => ("QuayCranesModel", "readCranes", "I", false)
  | 17 => ("QuayCranesModel", "readLift", "[I", true)
  | 18 => ("QuayCranesModel", "read", "[I", true)
  | 19 => ("QuayCranesModel", "list", "[I", true)
  | 20 => ("QuayCranesModel", "bayRow", "[I", true)
  | 21 => ("QuayCranesModel", "lines", "I", false)
  | 22 => ("QuayCranesModel", "were", "[I", true)
  | 23 => ("QuayCranesModel", "acts", "I", false)
  | 24 => ("QuayCranesModel", "refused", "[I", true)
  | 25 => ("QuayCranesModel", "does", "[I", true)
  | 26 => ("QuayCranesModel", "moved", "[Z", true)
  | 27 => ("QuayCranesModel", "then", "[I", true)
  | 28 => ("QuayCranesModel", "trial", "[I", true)
  | 29 => ("QuayCranesModel", "found", "[I", true)
  | 30 => ("QuayCranesModel", "foundLast", "I", false)
  | 31 => ("QuayCranesModel", "given", "I", false)
  | 32 => ("QuayCranesModel", "byBay", "[I", true)
  | 33 => ("QuayCranesModel", "byBays", "I", false)
  | 34 => ("QuayCranesModel", "betterTask", "I", false)
  | 35 => ("QuayCranesModel", "betterCrane", "I", false)
  | 36 => ("QuayCranesModel", "betterPlace", "I", false)
  | 37 => ("QuayCranesModel", "written", "I", false)
  | 38 => ("QuayCranesModel", "askedByte", "I", false)
  | 39 => ("QuayCranesModel", "byteThere", "I", false)
  | 40 => ("QuayCranesModel", "imaged", "[I", true)
  | _ => ("QuayCranesModel", "hasImage", "Z", false)
def tyX9 : Nat → FieldType := fun k => match k with
  | 0 => .int
  | 1 => .array .int
  | 2 => .int
  | 3 => .int
  | 4 => .int
  | 5 => .int
  | 6 => .int
  | 7 => .int
  | 8 => .int
  | 9 => .int
  | 10 => .int
  | 11 => .array .int
  | 12 => .array .int
  | 13 => .boolean
  | 14 => .int
  | 15 => .int
  | 16 => .int
  | 17 => .array .int
  | 18 => .array .int
  | 19 => .array .int
  | 20 => .array .int
  | 21 => .int
  | 22 => .array .int
  | 23 => .int
  | 24 => .array .int
  | 25 => .array .int
  | 26 => .array .boolean
  | 27 => .array .int
  | 28 => .array .int
  | 29 => .array .int
  | 30 => .int
  | 31 => .int
  | 32 => .array .int
  | 33 => .int
  | 34 => .int
  | 35 => .int
  | 36 => .int
  | 37 => .int
  | 38 => .int
  | 39 => .int
  | 40 => .array .int
  | _ => .boolean
abbrev wsX90 : List Cond := u_ws RX9 TX9 42
theorem nmX9 : ∀ a, a < 42 → ∀ b, b < 42 → a ≠ b → (TX9 a).2.1 ≠ (TX9 b).2.1 := by decide +kernel
theorem tyX9_ok : ∀ k, k < 42 → parseFieldDescriptor (TX9 k).2.2.1 = some (tyX9 k) := by decide +kernel
abbrev cX9_in : ByteArray := prog_11_method_1_code
def yX9_in : MethodName := ⟨RX9, "in", "(JJJ)Z"⟩
abbrev cX9_init : ByteArray := prog_11_method_2_code
def yX9_init : MethodName := ⟨RX9, "<init>", "()V"⟩
abbrev cX9_thrown : ByteArray := prog_11_method_3_code
def yX9_thrown : MethodName := ⟨RX9, "thrown", "()I"⟩
abbrev cX9_byteOf : ByteArray := prog_11_method_4_code
def yX9_byteOf : MethodName := ⟨RX9, "byteOf", "(IIIIII)I"⟩
abbrev cX9_feed : ByteArray := prog_11_method_5_code
def yX9_feed : MethodName := ⟨RX9, "feed", "(IIIII)I"⟩
abbrev cX9_end : ByteArray := prog_11_method_6_code
def yX9_end : MethodName := ⟨RX9, "end", "(I)Z"⟩
abbrev cX9_see : ByteArray := prog_11_method_7_code
def yX9_see : MethodName := ⟨RX9, "see", "(I)I"⟩
abbrev cX9_isSmall : ByteArray := prog_11_method_8_code
def yX9_isSmall : MethodName := ⟨RX9, "isSmall", "(I)Z"⟩
abbrev cX9_isDigit : ByteArray := prog_11_method_9_code
def yX9_isDigit : MethodName := ⟨RX9, "isDigit", "(I)Z"⟩
abbrev cX9_next : ByteArray := prog_11_method_10_code
def yX9_next : MethodName := ⟨RX9, "next", "()V"⟩
abbrev cX9_begins : ByteArray := prog_11_method_11_code
def yX9_begins : MethodName := ⟨RX9, "begins", "()V"⟩
abbrev cX9_bad : ByteArray := prog_11_method_12_code
def yX9_bad : MethodName := ⟨RX9, "bad", "()V"⟩
abbrev cX9_isWord : ByteArray := prog_11_method_13_code
def yX9_isWord : MethodName := ⟨RX9, "isWord", "(Ljava/lang/String;)Z"⟩
abbrev cX9_takesWord : ByteArray := prog_11_method_14_code
def yX9_takesWord : MethodName := ⟨RX9, "takesWord", "(Ljava/lang/String;)Z"⟩
abbrev cX9_mustWord : ByteArray := prog_11_method_15_code
def yX9_mustWord : MethodName := ⟨RX9, "mustWord", "(Ljava/lang/String;)V"⟩
abbrev cX9_takesSemicolon : ByteArray := prog_11_method_16_code
def yX9_takesSemicolon : MethodName := ⟨RX9, "takesSemicolon", "()Z"⟩
abbrev cX9_isNumber : ByteArray := prog_11_method_17_code
def yX9_isNumber : MethodName := ⟨RX9, "isNumber", "(II)Z"⟩
abbrev cX9_takesNumber : ByteArray := prog_11_method_18_code
def yX9_takesNumber : MethodName := ⟨RX9, "takesNumber", "(II)I"⟩
abbrev cX9_mustEnd : ByteArray := prog_11_method_19_code
def yX9_mustEnd : MethodName := ⟨RX9, "mustEnd", "()V"⟩
abbrev cX9_craneAt : ByteArray := prog_11_method_20_code
def yX9_craneAt : MethodName := ⟨RX9, "craneAt", "(II)I"⟩
abbrev cX9_taskAt : ByteArray := prog_11_method_21_code
def yX9_taskAt : MethodName := ⟨RX9, "taskAt", "(II)I"⟩
abbrev cX9_readsCrane : ByteArray := prog_11_method_22_code
def yX9_readsCrane : MethodName := ⟨RX9, "readsCrane", "()V"⟩
abbrev cX9_readsTask : ByteArray := prog_11_method_23_code
def yX9_readsTask : MethodName := ⟨RX9, "readsTask", "()V"⟩
abbrev cX9_readsQuay : ByteArray := prog_11_method_24_code
def yX9_readsQuay : MethodName := ⟨RX9, "readsQuay", "()I"⟩
abbrev cX9_listAt : ByteArray := prog_11_method_25_code
def yX9_listAt : MethodName := ⟨RX9, "listAt", "(I)I"⟩
abbrev cX9_clears : ByteArray := prog_11_method_26_code
def yX9_clears : MethodName := ⟨RX9, "clears", "([I)V"⟩
abbrev cX9_isLeft : ByteArray := prog_11_method_27_code
def yX9_isLeft : MethodName := ⟨RX9, "isLeft", "([II)Z"⟩
abbrev cX9_canLift : ByteArray := prog_11_method_28_code
def yX9_canLift : MethodName := ⟨RX9, "canLift", "(II)Z"⟩
abbrev cX9_readsPlan : ByteArray := prog_11_method_29_code
def yX9_readsPlan : MethodName := ⟨RX9, "readsPlan", "()I"⟩
abbrev cX9_readsMoves : ByteArray := prog_11_method_30_code
def yX9_readsMoves : MethodName := ⟨RX9, "readsMoves", "()I"⟩
abbrev cX9_fault : ByteArray := prog_11_method_31_code
def yX9_fault : MethodName := ⟨RX9, "fault", "(I)I"⟩
abbrev cX9_quay : ByteArray := prog_11_method_32_code
def yX9_quay : MethodName := ⟨RX9, "quay", "()I"⟩
abbrev cX9_copies : ByteArray := prog_11_method_33_code
def yX9_copies : MethodName := ⟨RX9, "copies", "([I[I)V"⟩
abbrev cX9_keeps : ByteArray := prog_11_method_34_code
def yX9_keeps : MethodName := ⟨RX9, "keeps", "()V"⟩
abbrev cX9_undo : ByteArray := prog_11_method_35_code
def yX9_undo : MethodName := ⟨RX9, "undo", "()I"⟩
abbrev cX9_refuses : ByteArray := prog_11_method_36_code
def yX9_refuses : MethodName := ⟨RX9, "refuses", "(I)I"⟩
abbrev cX9_status : ByteArray := prog_11_method_37_code
def yX9_status : MethodName := ⟨RX9, "status", "(I)I"⟩
abbrev cX9_sway : ByteArray := prog_11_method_38_code
def yX9_sway : MethodName := ⟨RX9, "sway", "([II)F"⟩
abbrev cX9_isDone : ByteArray := prog_11_method_39_code
def yX9_isDone : MethodName := ⟨RX9, "isDone", "([II)Z"⟩
abbrev cX9_nextOf : ByteArray := prog_11_method_40_code
def yX9_nextOf : MethodName := ⟨RX9, "nextOf", "([II)I"⟩
abbrev cX9_isFree : ByteArray := prog_11_method_41_code
def yX9_isFree : MethodName := ⟨RX9, "isFree", "([II)Z"⟩
abbrev cX9_worksNow : ByteArray := prog_11_method_42_code
def yX9_worksNow : MethodName := ⟨RX9, "worksNow", "([II)Z"⟩
abbrev cX9_canGo : ByteArray := prog_11_method_43_code
def yX9_canGo : MethodName := ⟨RX9, "canGo", "([III)Z"⟩
abbrev cX9_goes : ByteArray := prog_11_method_44_code
def yX9_goes : MethodName := ⟨RX9, "goes", "([III)V"⟩
abbrev cX9_steps : ByteArray := prog_11_method_45_code
def yX9_steps : MethodName := ⟨RX9, "steps", "([II)V"⟩
abbrev cX9_swings : ByteArray := prog_11_method_46_code
def yX9_swings : MethodName := ⟨RX9, "swings", "([II)V"⟩
abbrev cX9_works : ByteArray := prog_11_method_47_code
def yX9_works : MethodName := ⟨RX9, "works", "([II)V"⟩
abbrev cX9_goesMinute : ByteArray := prog_11_method_48_code
def yX9_goesMinute : MethodName := ⟨RX9, "goesMinute", "([I)V"⟩
abbrev cX9_isOver : ByteArray := prog_11_method_49_code
def yX9_isOver : MethodName := ⟨RX9, "isOver", "([I)Z"⟩
abbrev cX9_lastOf : ByteArray := prog_11_method_50_code
def yX9_lastOf : MethodName := ⟨RX9, "lastOf", "([II)I"⟩
abbrev cX9_lastOf_ : ByteArray := prog_11_method_51_code
def yX9_lastOf_ : MethodName := ⟨RX9, "lastOf", "([I)I"⟩
abbrev cX9_told : ByteArray := prog_11_method_52_code
def yX9_told : MethodName := ⟨RX9, "told", "(I)I"⟩
abbrev cX9_takes : ByteArray := prog_11_method_53_code
def yX9_takes : MethodName := ⟨RX9, "takes", "([I[I)V"⟩
abbrev cX9_plan : ByteArray := prog_11_method_54_code
def yX9_plan : MethodName := ⟨RX9, "plan", "()I"⟩
abbrev cX9_go : ByteArray := prog_11_method_55_code
def yX9_go : MethodName := ⟨RX9, "go", "(I)I"⟩
abbrev cX9_isCrane : ByteArray := prog_11_method_56_code
def yX9_isCrane : MethodName := ⟨RX9, "isCrane", "(I)Z"⟩
abbrev cX9_isTask : ByteArray := prog_11_method_57_code
def yX9_isTask : MethodName := ⟨RX9, "isTask", "(I)Z"⟩
abbrev cX9_brokenSet : ByteArray := prog_11_method_58_code
def yX9_brokenSet : MethodName := ⟨RX9, "brokenSet", "()I"⟩
abbrev cX9_breaks : ByteArray := prog_11_method_59_code
def yX9_breaks : MethodName := ⟨RX9, "breaks", "(IZ)I"⟩
abbrev cX9_more : ByteArray := prog_11_method_60_code
def yX9_more : MethodName := ⟨RX9, "more", "(IIII)I"⟩
abbrev cX9_rule : ByteArray := prog_11_method_61_code
def yX9_rule : MethodName := ⟨RX9, "rule", "(I)I"⟩
abbrev cX9_allTasks : ByteArray := prog_11_method_62_code
def yX9_allTasks : MethodName := ⟨RX9, "allTasks", "()I"⟩
abbrev cX9_leftSet : ByteArray := prog_11_method_63_code
def yX9_leftSet : MethodName := ⟨RX9, "leftSet", "()I"⟩
abbrev cX9_toldSet : ByteArray := prog_11_method_64_code
def yX9_toldSet : MethodName := ⟨RX9, "toldSet", "()I"⟩
abbrev cX9_crane : ByteArray := prog_11_method_65_code
def yX9_crane : MethodName := ⟨RX9, "crane", "(II)I"⟩
abbrev cX9_toldBy : ByteArray := prog_11_method_66_code
def yX9_toldBy : MethodName := ⟨RX9, "toldBy", "(I)I"⟩
abbrev cX9_task : ByteArray := prog_11_method_67_code
def yX9_task : MethodName := ⟨RX9, "task", "(II)I"⟩
abbrev cX9_last : ByteArray := prog_11_method_68_code
def yX9_last : MethodName := ⟨RX9, "last", "()I"⟩
abbrev cX9_foretells : ByteArray := prog_11_method_69_code
def yX9_foretells : MethodName := ⟨RX9, "foretells", "(I)V"⟩
abbrev cX9_where : ByteArray := prog_11_method_70_code
def yX9_where : MethodName := ⟨RX9, "where", "(II)I"⟩
abbrev cX9_deed : ByteArray := prog_11_method_71_code
def yX9_deed : MethodName := ⟨RX9, "deed", "(II)I"⟩
abbrev cX9_deeds : ByteArray := prog_11_method_72_code
def yX9_deeds : MethodName := ⟨RX9, "deeds", "(III)I"⟩
abbrev cX9_doneBy : ByteArray := prog_11_method_73_code
def yX9_doneBy : MethodName := ⟨RX9, "doneBy", "(I)I"⟩
abbrev cX9_tried : ByteArray := prog_11_method_74_code
def yX9_tried : MethodName := ⟨RX9, "tried", "()I"⟩
abbrev cX9_isTrue : ByteArray := prog_11_method_75_code
def yX9_isTrue : MethodName := ⟨RX9, "isTrue", "(I)Z"⟩
abbrev cX9_moves : ByteArray := prog_11_method_76_code
def yX9_moves : MethodName := ⟨RX9, "moves", "()I"⟩
abbrev cX9_clearsTrial : ByteArray := prog_11_method_77_code
def yX9_clearsTrial : MethodName := ⟨RX9, "clearsTrial", "()V"⟩
abbrev cX9_finds : ByteArray := prog_11_method_78_code
def yX9_finds : MethodName := ⟨RX9, "finds", "([II)V"⟩
abbrev cX9_judges : ByteArray := prog_11_method_79_code
def yX9_judges : MethodName := ⟨RX9, "judges", "()V"⟩
abbrev cX9_seeks : ByteArray := prog_11_method_80_code
def yX9_seeks : MethodName := ⟨RX9, "seeks", "(II)V"⟩
abbrev cX9_isFew : ByteArray := prog_11_method_81_code
def yX9_isFew : MethodName := ⟨RX9, "isFew", "()Z"⟩
abbrev cX9_seeksBest : ByteArray := prog_11_method_82_code
def yX9_seeksBest : MethodName := ⟨RX9, "seeksBest", "(I)V"⟩
abbrev cX9_isSuch : ByteArray := prog_11_method_83_code
def yX9_isSuch : MethodName := ⟨RX9, "isSuch", "(I)Z"⟩
abbrev cX9_tells : ByteArray := prog_11_method_84_code
def yX9_tells : MethodName := ⟨RX9, "tells", "(I)I"⟩
abbrev cX9_best : ByteArray := prog_11_method_85_code
def yX9_best : MethodName := ⟨RX9, "best", "(I)I"⟩
abbrev cX9_nearestFor : ByteArray := prog_11_method_86_code
def yX9_nearestFor : MethodName := ⟨RX9, "nearestFor", "(I)I"⟩
abbrev cX9_gives : ByteArray := prog_11_method_87_code
def yX9_gives : MethodName := ⟨RX9, "gives", "(I)V"⟩
abbrev cX9_isAllDone : ByteArray := prog_11_method_88_code
def yX9_isAllDone : MethodName := ⟨RX9, "isAllDone", "([I)Z"⟩
abbrev cX9_seeksEasy : ByteArray := prog_11_method_89_code
def yX9_seeksEasy : MethodName := ⟨RX9, "seeksEasy", "()V"⟩
abbrev cX9_easy : ByteArray := prog_11_method_90_code
def yX9_easy : MethodName := ⟨RX9, "easy", "(I)I"⟩
abbrev cX9_sorts : ByteArray := prog_11_method_91_code
def yX9_sorts : MethodName := ⟨RX9, "sorts", "()V"⟩
abbrev cX9_cuts : ByteArray := prog_11_method_92_code
def yX9_cuts : MethodName := ⟨RX9, "cuts", "(II)V"⟩
abbrev cX9_seeksZones : ByteArray := prog_11_method_93_code
def yX9_seeksZones : MethodName := ⟨RX9, "seeksZones", "()V"⟩
abbrev cX9_zones : ByteArray := prog_11_method_94_code
def yX9_zones : MethodName := ⟨RX9, "zones", "(I)I"⟩
abbrev cX9_takesOut : ByteArray := prog_11_method_95_code
def yX9_takesOut : MethodName := ⟨RX9, "takesOut", "(II)V"⟩
abbrev cX9_putsIn : ByteArray := prog_11_method_96_code
def yX9_putsIn : MethodName := ⟨RX9, "putsIn", "(III)V"⟩
abbrev cX9_triesPlaces : ByteArray := prog_11_method_97_code
def yX9_triesPlaces : MethodName := ⟨RX9, "triesPlaces", "(III)V"⟩
abbrev cX9_seeksBetter : ByteArray := prog_11_method_98_code
def yX9_seeksBetter : MethodName := ⟨RX9, "seeksBetter", "()Z"⟩
abbrev cX9_better : ByteArray := prog_11_method_99_code
def yX9_better : MethodName := ⟨RX9, "better", "(I)I"⟩
abbrev cX9_seeksWhich : ByteArray := prog_11_method_100_code
def yX9_seeksWhich : MethodName := ⟨RX9, "seeksWhich", "(I)Z"⟩
abbrev cX9_follow : ByteArray := prog_11_method_101_code
def yX9_follow : MethodName := ⟨RX9, "follow", "(I)I"⟩
abbrev cX9_writes : ByteArray := prog_11_method_102_code
def yX9_writes : MethodName := ⟨RX9, "writes", "(I)V"⟩
abbrev cX9_written : ByteArray := prog_11_method_103_code
def yX9_written : MethodName := ⟨RX9, "written", "(I)I"⟩
abbrev cX9_nearestNow : ByteArray := prog_11_method_104_code
def yX9_nearestNow : MethodName := ⟨RX9, "nearestNow", "([I)I"⟩
abbrev cX9_nearest : ByteArray := prog_11_method_105_code
def yX9_nearest : MethodName := ⟨RX9, "nearest", "(I)I"⟩
abbrev cX9_swings_ : ByteArray := prog_11_method_106_code
def yX9_swings_ : MethodName := ⟨RX9, "swings", "(II)I"⟩
abbrev cX9_nobodyWorks : ByteArray := prog_11_method_107_code
def yX9_nobodyWorks : MethodName := ⟨RX9, "nobodyWorks", "()Z"⟩
abbrev cX9_idle : ByteArray := prog_11_method_108_code
def yX9_idle : MethodName := ⟨RX9, "idle", "(I)I"⟩
abbrev cX9_without : ByteArray := prog_11_method_109_code
def yX9_without : MethodName := ⟨RX9, "without", "(I)I"⟩
abbrev cX9_dearest : ByteArray := prog_11_method_110_code
def yX9_dearest : MethodName := ⟨RX9, "dearest", "(I)I"⟩
abbrev cX9_leftOf : ByteArray := prog_11_method_111_code
def yX9_leftOf : MethodName := ⟨RX9, "leftOf", "([II)I"⟩
abbrev cX9_rowOf : ByteArray := prog_11_method_112_code
def yX9_rowOf : MethodName := ⟨RX9, "rowOf", "(I)I"⟩
abbrev cX9_firstBound : ByteArray := prog_11_method_113_code
def yX9_firstBound : MethodName := ⟨RX9, "firstBound", "()I"⟩
abbrev cX9_secondBound : ByteArray := prog_11_method_114_code
def yX9_secondBound : MethodName := ⟨RX9, "secondBound", "()I"⟩
abbrev cX9_thirdBound : ByteArray := prog_11_method_115_code
def yX9_thirdBound : MethodName := ⟨RX9, "thirdBound", "()I"⟩
abbrev cX9_bound : ByteArray := prog_11_method_116_code
def yX9_bound : MethodName := ⟨RX9, "bound", "(I)I"⟩
abbrev cX9_slack : ByteArray := prog_11_method_117_code
def yX9_slack : MethodName := ⟨RX9, "slack", "(I)I"⟩
abbrev cX9_mean : ByteArray := prog_11_method_118_code
def yX9_mean : MethodName := ⟨RX9, "mean", "(I)J"⟩
abbrev cX9_image : ByteArray := prog_11_method_119_code
def yX9_image : MethodName := ⟨RX9, "image", "()I"⟩
abbrev cX9_back : ByteArray := prog_11_method_120_code
def yX9_back : MethodName := ⟨RX9, "back", "()I"⟩
abbrev cX9_leftBy : ByteArray := prog_11_method_121_code
def yX9_leftBy : MethodName := ⟨RX9, "leftBy", "(I)I"⟩
abbrev cX9_busiest : ByteArray := prog_11_method_122_code
def yX9_busiest : MethodName := ⟨RX9, "busiest", "()I"⟩
abbrev cX9_leftAt : ByteArray := prog_11_method_123_code
def yX9_leftAt : MethodName := ⟨RX9, "leftAt", "(I)I"⟩
abbrev cX9_fullest : ByteArray := prog_11_method_124_code
def yX9_fullest : MethodName := ⟨RX9, "fullest", "()I"⟩
abbrev cX9_longest : ByteArray := prog_11_method_125_code
def yX9_longest : MethodName := ⟨RX9, "longest", "()I"⟩
abbrev cX9_wildest : ByteArray := prog_11_method_126_code
def yX9_wildest : MethodName := ⟨RX9, "wildest", "()I"⟩
abbrev cX9_most : ByteArray := prog_11_method_127_code
def yX9_most : MethodName := ⟨RX9, "most", "(I)I"⟩
abbrev cX9_count : ByteArray := prog_11_method_128_code
def yX9_count : MethodName := ⟨RX9, "count", "(I)I"⟩
def RJx145de : String := "java/io/Serializable"
def TJx145de : u_T := fun k => match k with
  | _ => ("", "", "", false)
def tyJx145de : Nat → FieldType := fun k => match k with
  | _ => .int
abbrev wsJx145de0 : List Cond := u_ws RJx145de TJx145de 0
theorem nmJx145de : ∀ a, a < 0 → ∀ b, b < 0 → a ≠ b → (TJx145de a).2.1 ≠ (TJx145de b).2.1 := by decide +kernel
theorem tyJx145de_ok : ∀ k, k < 0 → parseFieldDescriptor (TJx145de k).2.2.1 = some (tyJx145de k) := by decide +kernel
def RJx9f9b0 : String := "java/lang/CharSequence"
def TJx9f9b0 : u_T := fun k => match k with
  | _ => ("", "", "", false)
def tyJx9f9b0 : Nat → FieldType := fun k => match k with
  | _ => .int
abbrev wsJx9f9b00 : List Cond := u_ws RJx9f9b0 TJx9f9b0 0
theorem nmJx9f9b0 : ∀ a, a < 0 → ∀ b, b < 0 → a ≠ b → (TJx9f9b0 a).2.1 ≠ (TJx9f9b0 b).2.1 := by decide +kernel
theorem tyJx9f9b0_ok : ∀ k, k < 0 → parseFieldDescriptor (TJx9f9b0 k).2.2.1 = some (tyJx9f9b0 k) := by decide +kernel
def RJxb160c : String := "java/lang/Comparable"
def TJxb160c : u_T := fun k => match k with
  | _ => ("", "", "", false)
def tyJxb160c : Nat → FieldType := fun k => match k with
  | _ => .int
abbrev wsJxb160c0 : List Cond := u_ws RJxb160c TJxb160c 0
theorem nmJxb160c : ∀ a, a < 0 → ∀ b, b < 0 → a ≠ b → (TJxb160c a).2.1 ≠ (TJxb160c b).2.1 := by decide +kernel
theorem tyJxb160c_ok : ∀ k, k < 0 → parseFieldDescriptor (TJxb160c k).2.2.1 = some (tyJxb160c k) := by decide +kernel
def RJxe99ae : String := "java/lang/Double"
def TJxe99ae : u_T := fun k => match k with
  | _ => ("", "", "", false)
def tyJxe99ae : Nat → FieldType := fun k => match k with
  | _ => .int
abbrev wsJxe99ae0 : List Cond := u_ws RJxe99ae TJxe99ae 0
theorem nmJxe99ae : ∀ a, a < 0 → ∀ b, b < 0 → a ≠ b → (TJxe99ae a).2.1 ≠ (TJxe99ae b).2.1 := by decide +kernel
theorem tyJxe99ae_ok : ∀ k, k < 0 → parseFieldDescriptor (TJxe99ae k).2.2.1 = some (tyJxe99ae k) := by decide +kernel
abbrev cJxe99ae_isNaN_b9ae7 : ByteArray := prog_15_method_6_code
def yJxe99ae_isNaN_b9ae7 : MethodName := ⟨RJxe99ae, "isNaN", "(D)Z"⟩
abbrev cJxe99ae_doubleToLongBits_ccdee : ByteArray := prog_15_method_23_code
def yJxe99ae_doubleToLongBits_ccdee : MethodName := ⟨RJxe99ae, "doubleToLongBits", "(D)J"⟩
def RJxf58ca : String := "java/lang/Float"
def TJxf58ca : u_T := fun k => match k with
  | _ => ("", "", "", false)
def tyJxf58ca : Nat → FieldType := fun k => match k with
  | _ => .int
abbrev wsJxf58ca0 : List Cond := u_ws RJxf58ca TJxf58ca 0
theorem nmJxf58ca : ∀ a, a < 0 → ∀ b, b < 0 → a ≠ b → (TJxf58ca a).2.1 ≠ (TJxf58ca b).2.1 := by decide +kernel
theorem tyJxf58ca_ok : ∀ k, k < 0 → parseFieldDescriptor (TJxf58ca k).2.2.1 = some (tyJxf58ca k) := by decide +kernel
abbrev cJxf58ca_isNaN_12338 : ByteArray := prog_17_method_6_code
def yJxf58ca_isNaN_12338 : MethodName := ⟨RJxf58ca, "isNaN", "(F)Z"⟩
abbrev cJxf58ca_floatToIntBits_5c35a : ByteArray := prog_17_method_24_code
def yJxf58ca_floatToIntBits_5c35a : MethodName := ⟨RJxf58ca, "floatToIntBits", "(F)I"⟩
def RJ6 : String := "java/lang/Integer"
def TJ6 : u_T := fun k => match k with
  | _ => ("", "", "", false)
def tyJ6 : Nat → FieldType := fun k => match k with
  | _ => .int
abbrev wsJ60 : List Cond := u_ws RJ6 TJ6 0
theorem nmJ6 : ∀ a, a < 0 → ∀ b, b < 0 → a ≠ b → (TJ6 a).2.1 ≠ (TJ6 b).2.1 := by decide +kernel
theorem tyJ6_ok : ∀ k, k < 0 → parseFieldDescriptor (TJ6 k).2.2.1 = some (tyJ6 k) := by decide +kernel
abbrev cJ6_bitCount_0f7a4 : ByteArray := prog_18_method_49_code
def yJ6_bitCount_0f7a4 : MethodName := ⟨RJ6, "bitCount", "(I)I"⟩
def RJ9 : String := "java/lang/Math"
def TJ9 : u_T := fun k => match k with
  | _ => ("", "", "", false)
def tyJ9 : Nat → FieldType := fun k => match k with
  | _ => .int
abbrev wsJ90 : List Cond := u_ws RJ9 TJ9 0
theorem nmJ9 : ∀ a, a < 0 → ∀ b, b < 0 → a ≠ b → (TJ9 a).2.1 ≠ (TJ9 b).2.1 := by decide +kernel
theorem tyJ9_ok : ∀ k, k < 0 → parseFieldDescriptor (TJ9 k).2.2.1 = some (tyJ9 k) := by decide +kernel
abbrev cJ9_abs_0f7a4 : ByteArray := prog_19_method_59_code
def yJ9_abs_0f7a4 : MethodName := ⟨RJ9, "abs", "(I)I"⟩
abbrev cJ9_max_7cf53 : ByteArray := prog_19_method_65_code
def yJ9_max_7cf53 : MethodName := ⟨RJ9, "max", "(II)I"⟩
abbrev cJ9_max_e70c8 : ByteArray := prog_19_method_67_code
def yJ9_max_e70c8 : MethodName := ⟨RJ9, "max", "(FF)F"⟩
abbrev cJ9_min_7cf53 : ByteArray := prog_19_method_69_code
def yJ9_min_7cf53 : MethodName := ⟨RJ9, "min", "(II)I"⟩
def RJxd2413 : String := "java/lang/Number"
def TJxd2413 : u_T := fun k => match k with
  | _ => ("", "", "", false)
def tyJxd2413 : Nat → FieldType := fun k => match k with
  | _ => .int
abbrev wsJxd24130 : List Cond := u_ws RJxd2413 TJxd2413 0
theorem nmJxd2413 : ∀ a, a < 0 → ∀ b, b < 0 → a ≠ b → (TJxd2413 a).2.1 ≠ (TJxd2413 b).2.1 := by decide +kernel
theorem tyJxd2413_ok : ∀ k, k < 0 → parseFieldDescriptor (TJxd2413 k).2.2.1 = some (tyJxd2413 k) := by decide +kernel
def RJ0 : String := "java/lang/String"
def TJ0 : u_T := fun k => match k with
  | _ => ("", "", "", false)
def tyJ0 : Nat → FieldType := fun k => match k with
  | _ => .int
abbrev wsJ00 : List Cond := u_ws RJ0 TJ0 0
theorem nmJ0 : ∀ a, a < 0 → ∀ b, b < 0 → a ≠ b → (TJ0 a).2.1 ≠ (TJ0 b).2.1 := by decide +kernel
theorem tyJ0_ok : ∀ k, k < 0 → parseFieldDescriptor (TJ0 k).2.2.1 = some (tyJ0 k) := by decide +kernel
abbrev cJ0_length_8abf5 : ByteArray := prog_22_method_54_code
def yJ0_length_8abf5 : MethodName := ⟨RJ0, "length", "()I"⟩
abbrev cJ0_charAt_5068e : ByteArray := prog_22_method_56_code
def yJ0_charAt_5068e : MethodName := ⟨RJ0, "charAt", "(I)C"⟩
abbrev cJ0_coder_7d493 : ByteArray := prog_22_method_152_code
def yJ0_coder_7d493 : MethodName := ⟨RJ0, "coder", "()B"⟩
abbrev cJ0_isLatin1_aae02 : ByteArray := prog_22_method_154_code
def yJ0_isLatin1_aae02 : MethodName := ⟨RJ0, "isLatin1", "()Z"⟩
abbrev cJ0_checkIndex_df160 : ByteArray := prog_22_method_155_code
def yJ0_checkIndex_df160 : MethodName := ⟨RJ0, "checkIndex", "(II)V"⟩
def RJ1 : String := "java/lang/StringLatin1"
def TJ1 : u_T := fun k => match k with
  | _ => ("", "", "", false)
def tyJ1 : Nat → FieldType := fun k => match k with
  | _ => .int
abbrev wsJ10 : List Cond := u_ws RJ1 TJ1 0
theorem nmJ1 : ∀ a, a < 0 → ∀ b, b < 0 → a ≠ b → (TJ1 a).2.1 ≠ (TJ1 b).2.1 := by decide +kernel
theorem tyJ1_ok : ∀ k, k < 0 → parseFieldDescriptor (TJ1 k).2.2.1 = some (tyJ1 k) := by decide +kernel
abbrev cJ1_charAt_3b067 : ByteArray := prog_23_method_2_code
def yJ1_charAt_3b067 : MethodName := ⟨RJ1, "charAt", "([BI)C"⟩
def RJ2 : String := "java/lang/StringUTF16"
def TJ2 : u_T := fun k => match k with
  | _ => ("", "", "", false)
def tyJ2 : Nat → FieldType := fun k => match k with
  | _ => .int
abbrev wsJ20 : List Cond := u_ws RJ2 TJ2 0
theorem nmJ2 : ∀ a, a < 0 → ∀ b, b < 0 → a ≠ b → (TJ2 a).2.1 ≠ (TJ2 b).2.1 := by decide +kernel
theorem tyJ2_ok : ∀ k, k < 0 → parseFieldDescriptor (TJ2 k).2.2.1 = some (tyJ2 k) := by decide +kernel
abbrev cJ2_getChar_3b067 : ByteArray := prog_24_method_5_code
def yJ2_getChar_3b067 : MethodName := ⟨RJ2, "getChar", "([BI)C"⟩
abbrev cJ2_length_9d52b : ByteArray := prog_24_method_6_code
def yJ2_length_9d52b : MethodName := ⟨RJ2, "length", "([B)I"⟩
abbrev cJ2_charAt_3b067 : ByteArray := prog_24_method_83_code
def yJ2_charAt_3b067 : MethodName := ⟨RJ2, "charAt", "([BI)C"⟩
abbrev cJ2_checkIndex_2214a : ByteArray := prog_24_method_91_code
def yJ2_checkIndex_2214a : MethodName := ⟨RJ2, "checkIndex", "(I[B)V"⟩
def RJxfd54e : String := "java/lang/constant/Constable"
def TJxfd54e : u_T := fun k => match k with
  | _ => ("", "", "", false)
def tyJxfd54e : Nat → FieldType := fun k => match k with
  | _ => .int
abbrev wsJxfd54e0 : List Cond := u_ws RJxfd54e TJxfd54e 0
theorem nmJxfd54e : ∀ a, a < 0 → ∀ b, b < 0 → a ≠ b → (TJxfd54e a).2.1 ≠ (TJxfd54e b).2.1 := by decide +kernel
theorem tyJxfd54e_ok : ∀ k, k < 0 → parseFieldDescriptor (TJxfd54e k).2.2.1 = some (tyJxfd54e k) := by decide +kernel
def RJx3cf43 : String := "java/lang/constant/ConstantDesc"
def TJx3cf43 : u_T := fun k => match k with
  | _ => ("", "", "", false)
def tyJx3cf43 : Nat → FieldType := fun k => match k with
  | _ => .int
abbrev wsJx3cf430 : List Cond := u_ws RJx3cf43 TJx3cf43 0
theorem nmJx3cf43 : ∀ a, a < 0 → ∀ b, b < 0 → a ≠ b → (TJx3cf43 a).2.1 ≠ (TJx3cf43 b).2.1 := by decide +kernel
theorem tyJx3cf43_ok : ∀ k, k < 0 → parseFieldDescriptor (TJx3cf43 k).2.2.1 = some (tyJx3cf43 k) := by decide +kernel
def RJ3 : String := "jdk/internal/util/Preconditions"
def TJ3 : u_T := fun k => match k with
  | _ => ("", "", "", false)
def tyJ3 : Nat → FieldType := fun k => match k with
  | _ => .int
abbrev wsJ30 : List Cond := u_ws RJ3 TJ3 0
theorem nmJ3 : ∀ a, a < 0 → ∀ b, b < 0 → a ≠ b → (TJ3 a).2.1 ≠ (TJ3 b).2.1 := by decide +kernel
theorem tyJ3_ok : ∀ k, k < 0 → parseFieldDescriptor (TJ3 k).2.2.1 = some (tyJ3 k) := by decide +kernel
abbrev cJ3_checkIndex_8e157 : ByteArray := prog_29_method_11_code
def yJ3_checkIndex_8e157 : MethodName := ⟨RJ3, "checkIndex", "(IILjava/util/function/BiFunction;)I"⟩
def RL : String := "QuayCranesLaw"
abbrev cL_crane : ByteArray := method_3_code
def yL_crane : MethodName := ⟨RL, "crane", "(LQuayCranes;II[J)I"⟩
abbrev cL_law : ByteArray := code
def yL_law : MethodName := ⟨RL, "law", "([I)Z"⟩
