/-! the JDK's own methods: String.length, charAt, Math.max of floats -/
theorem dJ0_length_8abf5_0 : decode cJ0_length_8abf5 0 = .ok (.aload_n 0, 1) := by decide +kernel
theorem dJ0_length_8abf5_1 : decode cJ0_length_8abf5 1 = .ok (.getfield 9, 3) := by decide +kernel
theorem dJ0_length_8abf5_4 : decode cJ0_length_8abf5 4 = .ok (.arraylength, 1) := by decide +kernel
theorem dJ0_length_8abf5_5 : decode cJ0_length_8abf5 5 = .ok (.aload_n 0, 1) := by decide +kernel
theorem dJ0_length_8abf5_6 : decode cJ0_length_8abf5 6 = .ok (.invokevirtual 335, 3) := by decide +kernel
theorem dJ0_length_8abf5_9 : decode cJ0_length_8abf5 9 = .ok (.ishr, 1) := by decide +kernel
theorem dJ0_length_8abf5_10 : decode cJ0_length_8abf5 10 = .ok (.ireturn, 1) := by decide +kernel
theorem dJ0_charAt_5068e_0 : decode cJ0_charAt_5068e 0 = .ok (.aload_n 0, 1) := by decide +kernel
theorem dJ0_charAt_5068e_1 : decode cJ0_charAt_5068e 1 = .ok (.invokevirtual 492, 3) := by decide +kernel
theorem dJ0_charAt_5068e_4 : decode cJ0_charAt_5068e 4 = .ok (.ifCond .eq 12, 3) := by decide +kernel
theorem dJ0_charAt_5068e_7 : decode cJ0_charAt_5068e 7 = .ok (.aload_n 0, 1) := by decide +kernel
theorem dJ0_charAt_5068e_8 : decode cJ0_charAt_5068e 8 = .ok (.getfield 9, 3) := by decide +kernel
theorem dJ0_charAt_5068e_11 : decode cJ0_charAt_5068e 11 = .ok (.iload_n 1, 1) := by decide +kernel
theorem dJ0_charAt_5068e_12 : decode cJ0_charAt_5068e 12 = .ok (.invokestatic 495, 3) := by decide +kernel
theorem dJ0_charAt_5068e_15 : decode cJ0_charAt_5068e 15 = .ok (.ireturn, 1) := by decide +kernel
theorem dJ0_charAt_5068e_16 : decode cJ0_charAt_5068e 16 = .ok (.aload_n 0, 1) := by decide +kernel
theorem dJ0_charAt_5068e_17 : decode cJ0_charAt_5068e 17 = .ok (.getfield 9, 3) := by decide +kernel
theorem dJ0_charAt_5068e_20 : decode cJ0_charAt_5068e 20 = .ok (.iload_n 1, 1) := by decide +kernel
theorem dJ0_charAt_5068e_21 : decode cJ0_charAt_5068e 21 = .ok (.invokestatic 498, 3) := by decide +kernel
theorem dJ0_charAt_5068e_24 : decode cJ0_charAt_5068e 24 = .ok (.ireturn, 1) := by decide +kernel
theorem dJ0_coder_7d493_0 : decode cJ0_coder_7d493 0 = .ok (.getstatic 38, 3) := by decide +kernel
theorem dJ0_coder_7d493_3 : decode cJ0_coder_7d493 3 = .ok (.ifCond .eq 10, 3) := by decide +kernel
theorem dJ0_coder_7d493_6 : decode cJ0_coder_7d493 6 = .ok (.aload_n 0, 1) := by decide +kernel
theorem dJ0_coder_7d493_7 : decode cJ0_coder_7d493 7 = .ok (.getfield 15, 3) := by decide +kernel
theorem dJ0_coder_7d493_10 : decode cJ0_coder_7d493 10 = .ok (.goto 4, 3) := by decide +kernel
theorem dJ0_coder_7d493_13 : decode cJ0_coder_7d493 13 = .ok (.iconst 1, 1) := by decide +kernel
theorem dJ0_coder_7d493_14 : decode cJ0_coder_7d493 14 = .ok (.ireturn, 1) := by decide +kernel
theorem dJ0_isLatin1_aae02_0 : decode cJ0_isLatin1_aae02 0 = .ok (.getstatic 38, 3) := by decide +kernel
theorem dJ0_isLatin1_aae02_3 : decode cJ0_isLatin1_aae02 3 = .ok (.ifCond .eq 14, 3) := by decide +kernel
theorem dJ0_isLatin1_aae02_6 : decode cJ0_isLatin1_aae02 6 = .ok (.aload_n 0, 1) := by decide +kernel
theorem dJ0_isLatin1_aae02_7 : decode cJ0_isLatin1_aae02 7 = .ok (.getfield 15, 3) := by decide +kernel
theorem dJ0_isLatin1_aae02_10 : decode cJ0_isLatin1_aae02 10 = .ok (.ifCond .ne 7, 3) := by decide +kernel
theorem dJ0_isLatin1_aae02_13 : decode cJ0_isLatin1_aae02 13 = .ok (.iconst 1, 1) := by decide +kernel
theorem dJ0_isLatin1_aae02_14 : decode cJ0_isLatin1_aae02 14 = .ok (.goto 4, 3) := by decide +kernel
theorem dJ0_isLatin1_aae02_17 : decode cJ0_isLatin1_aae02 17 = .ok (.iconst 0, 1) := by decide +kernel
theorem dJ0_isLatin1_aae02_18 : decode cJ0_isLatin1_aae02 18 = .ok (.ireturn, 1) := by decide +kernel
theorem dJ0_checkIndex_df160_0 : decode cJ0_checkIndex_df160 0 = .ok (.iload_n 0, 1) := by decide +kernel
theorem dJ0_checkIndex_df160_1 : decode cJ0_checkIndex_df160 1 = .ok (.iload_n 1, 1) := by decide +kernel
theorem dJ0_checkIndex_df160_2 : decode cJ0_checkIndex_df160 2 = .ok (.getstatic 1053, 3) := by decide +kernel
theorem dJ0_checkIndex_df160_5 : decode cJ0_checkIndex_df160 5 = .ok (.invokestatic 1059, 3) := by decide +kernel
theorem dJ0_checkIndex_df160_8 : decode cJ0_checkIndex_df160 8 = .ok (.pop, 1) := by decide +kernel
theorem dJ0_checkIndex_df160_9 : decode cJ0_checkIndex_df160 9 = .ok (.return_, 1) := by decide +kernel
theorem dJ1_charAt_3b067_0 : decode cJ1_charAt_3b067 0 = .ok (.iload_n 1, 1) := by decide +kernel
theorem dJ1_charAt_3b067_1 : decode cJ1_charAt_3b067 1 = .ok (.aload_n 0, 1) := by decide +kernel
theorem dJ1_charAt_3b067_2 : decode cJ1_charAt_3b067 2 = .ok (.arraylength, 1) := by decide +kernel
theorem dJ1_charAt_3b067_3 : decode cJ1_charAt_3b067 3 = .ok (.invokestatic 9, 3) := by decide +kernel
theorem dJ1_charAt_3b067_6 : decode cJ1_charAt_3b067 6 = .ok (.aload_n 0, 1) := by decide +kernel
theorem dJ1_charAt_3b067_7 : decode cJ1_charAt_3b067 7 = .ok (.iload_n 1, 1) := by decide +kernel
theorem dJ1_charAt_3b067_8 : decode cJ1_charAt_3b067 8 = .ok (.baload, 1) := by decide +kernel
theorem dJ1_charAt_3b067_9 : decode cJ1_charAt_3b067 9 = .ok (.sipush 255, 3) := by decide +kernel
theorem dJ1_charAt_3b067_12 : decode cJ1_charAt_3b067 12 = .ok (.iand, 1) := by decide +kernel
theorem dJ1_charAt_3b067_13 : decode cJ1_charAt_3b067 13 = .ok (.i2c, 1) := by decide +kernel
theorem dJ1_charAt_3b067_14 : decode cJ1_charAt_3b067 14 = .ok (.ireturn, 1) := by decide +kernel
theorem dJ3_checkIndex_8e157_0 : decode cJ3_checkIndex_8e157 0 = .ok (.iload_n 0, 1) := by decide +kernel
theorem dJ3_checkIndex_8e157_1 : decode cJ3_checkIndex_8e157 1 = .ok (.ifCond .lt 8, 3) := by decide +kernel
theorem dJ3_checkIndex_8e157_4 : decode cJ3_checkIndex_8e157 4 = .ok (.iload_n 0, 1) := by decide +kernel
theorem dJ3_checkIndex_8e157_5 : decode cJ3_checkIndex_8e157 5 = .ok (.iload_n 1, 1) := by decide +kernel
theorem dJ3_checkIndex_8e157_6 : decode cJ3_checkIndex_8e157 6 = .ok (.if_icmp .lt 10, 3) := by decide +kernel
theorem dJ3_checkIndex_8e157_9 : decode cJ3_checkIndex_8e157 9 = .ok (.aload_n 2, 1) := by decide +kernel
theorem dJ3_checkIndex_8e157_10 : decode cJ3_checkIndex_8e157 10 = .ok (.iload_n 0, 1) := by decide +kernel
theorem dJ3_checkIndex_8e157_11 : decode cJ3_checkIndex_8e157 11 = .ok (.iload_n 1, 1) := by decide +kernel
theorem dJ3_checkIndex_8e157_12 : decode cJ3_checkIndex_8e157 12 = .ok (.invokestatic 95, 3) := by decide +kernel
theorem dJ3_checkIndex_8e157_15 : decode cJ3_checkIndex_8e157 15 = .ok (.athrow, 1) := by decide +kernel
theorem dJ3_checkIndex_8e157_16 : decode cJ3_checkIndex_8e157 16 = .ok (.iload_n 0, 1) := by decide +kernel
theorem dJ3_checkIndex_8e157_17 : decode cJ3_checkIndex_8e157 17 = .ok (.ireturn, 1) := by decide +kernel
theorem dJ9_max_e70c8_0 : decode cJ9_max_e70c8 0 = .ok (.fload_n 0, 1) := by decide +kernel
theorem dJ9_max_e70c8_1 : decode cJ9_max_e70c8 1 = .ok (.fload_n 0, 1) := by decide +kernel
theorem dJ9_max_e70c8_2 : decode cJ9_max_e70c8 2 = .ok (.fcmp .l, 1) := by decide +kernel
theorem dJ9_max_e70c8_3 : decode cJ9_max_e70c8 3 = .ok (.ifCond .eq 5, 3) := by decide +kernel
theorem dJ9_max_e70c8_6 : decode cJ9_max_e70c8 6 = .ok (.fload_n 0, 1) := by decide +kernel
theorem dJ9_max_e70c8_7 : decode cJ9_max_e70c8 7 = .ok (.freturn, 1) := by decide +kernel
theorem dJ9_max_e70c8_8 : decode cJ9_max_e70c8 8 = .ok (.fload_n 0, 1) := by decide +kernel
theorem dJ9_max_e70c8_9 : decode cJ9_max_e70c8 9 = .ok (.fconst 0, 1) := by decide +kernel
theorem dJ9_max_e70c8_10 : decode cJ9_max_e70c8 10 = .ok (.fcmp .l, 1) := by decide +kernel
theorem dJ9_max_e70c8_11 : decode cJ9_max_e70c8 11 = .ok (.ifCond .ne 23, 3) := by decide +kernel
theorem dJ9_max_e70c8_14 : decode cJ9_max_e70c8 14 = .ok (.fload_n 1, 1) := by decide +kernel
theorem dJ9_max_e70c8_15 : decode cJ9_max_e70c8 15 = .ok (.fconst 0, 1) := by decide +kernel
theorem dJ9_max_e70c8_16 : decode cJ9_max_e70c8 16 = .ok (.fcmp .l, 1) := by decide +kernel
theorem dJ9_max_e70c8_17 : decode cJ9_max_e70c8 17 = .ok (.ifCond .ne 17, 3) := by decide +kernel
theorem dJ9_max_e70c8_20 : decode cJ9_max_e70c8 20 = .ok (.fload_n 0, 1) := by decide +kernel
theorem dJ9_max_e70c8_21 : decode cJ9_max_e70c8 21 = .ok (.invokestatic 68, 3) := by decide +kernel
theorem dJ9_max_e70c8_24 : decode cJ9_max_e70c8 24 = .ok (.i2l, 1) := by decide +kernel
theorem dJ9_max_e70c8_25 : decode cJ9_max_e70c8 25 = .ok (.getstatic 170, 3) := by decide +kernel
theorem dJ9_max_e70c8_28 : decode cJ9_max_e70c8 28 = .ok (.lcmp, 1) := by decide +kernel
theorem dJ9_max_e70c8_29 : decode cJ9_max_e70c8 29 = .ok (.ifCond .ne 5, 3) := by decide +kernel
theorem dJ9_max_e70c8_32 : decode cJ9_max_e70c8 32 = .ok (.fload_n 1, 1) := by decide +kernel
theorem dJ9_max_e70c8_33 : decode cJ9_max_e70c8 33 = .ok (.freturn, 1) := by decide +kernel
theorem dJ9_max_e70c8_34 : decode cJ9_max_e70c8 34 = .ok (.fload_n 0, 1) := by decide +kernel
theorem dJ9_max_e70c8_35 : decode cJ9_max_e70c8 35 = .ok (.fload_n 1, 1) := by decide +kernel
theorem dJ9_max_e70c8_36 : decode cJ9_max_e70c8 36 = .ok (.fcmp .l, 1) := by decide +kernel
theorem dJ9_max_e70c8_37 : decode cJ9_max_e70c8 37 = .ok (.ifCond .lt 7, 3) := by decide +kernel
theorem dJ9_max_e70c8_40 : decode cJ9_max_e70c8 40 = .ok (.fload_n 0, 1) := by decide +kernel
theorem dJ9_max_e70c8_41 : decode cJ9_max_e70c8 41 = .ok (.goto 4, 3) := by decide +kernel
theorem dJ9_max_e70c8_44 : decode cJ9_max_e70c8 44 = .ok (.fload_n 1, 1) := by decide +kernel
theorem dJ9_max_e70c8_45 : decode cJ9_max_e70c8 45 = .ok (.freturn, 1) := by decide +kernel
theorem jc_J0_length_8abf5 : Jvm.Cond.code yJ0_length_8abf5 cJ0_length_8abf5 1 (some .int) ∈ s_gt := s_gt_of (i := 548) (by decide +kernel) rfl
theorem ji_J0_length_8abf5 : Jvm.Cond.instanceMethod yJ0_length_8abf5 ∈ s_gt := s_gt_of (i := 546) (by decide +kernel) rfl
theorem js_J0_length_8abf5 : Jvm.Cond.selects RJ0 yJ0_length_8abf5 yJ0_length_8abf5 ∈ s_gt := s_gt_of (i := 547) (by decide +kernel) rfl
theorem jc_J0_charAt_5068e : Jvm.Cond.code yJ0_charAt_5068e cJ0_charAt_5068e 2 (some .char) ∈ s_gt := s_gt_of (i := 558) (by decide +kernel) rfl
theorem ji_J0_charAt_5068e : Jvm.Cond.instanceMethod yJ0_charAt_5068e ∈ s_gt := s_gt_of (i := 556) (by decide +kernel) rfl
theorem js_J0_charAt_5068e : Jvm.Cond.selects RJ0 yJ0_charAt_5068e yJ0_charAt_5068e ∈ s_gt := s_gt_of (i := 557) (by decide +kernel) rfl
theorem jc_J0_coder_7d493 : Jvm.Cond.code yJ0_coder_7d493 cJ0_coder_7d493 1 (some .byte) ∈ s_gt := s_gt_of (i := 552) (by decide +kernel) rfl
theorem ji_J0_coder_7d493 : Jvm.Cond.instanceMethod yJ0_coder_7d493 ∈ s_gt := s_gt_of (i := 550) (by decide +kernel) rfl
theorem js_J0_coder_7d493 : Jvm.Cond.selects RJ0 yJ0_coder_7d493 yJ0_coder_7d493 ∈ s_gt := s_gt_of (i := 551) (by decide +kernel) rfl
theorem jc_J0_isLatin1_aae02 : Jvm.Cond.code yJ0_isLatin1_aae02 cJ0_isLatin1_aae02 1 (some .boolean) ∈ s_gt := s_gt_of (i := 562) (by decide +kernel) rfl
theorem ji_J0_isLatin1_aae02 : Jvm.Cond.instanceMethod yJ0_isLatin1_aae02 ∈ s_gt := s_gt_of (i := 560) (by decide +kernel) rfl
theorem js_J0_isLatin1_aae02 : Jvm.Cond.selects RJ0 yJ0_isLatin1_aae02 yJ0_isLatin1_aae02 ∈ s_gt := s_gt_of (i := 561) (by decide +kernel) rfl
theorem jc_J0_checkIndex_df160 : Jvm.Cond.code yJ0_checkIndex_df160 cJ0_checkIndex_df160 2 none ∈ s_gt := s_gt_of (i := 568) (by decide +kernel) rfl
theorem ji_J0_checkIndex_df160 : Jvm.Cond.static yJ0_checkIndex_df160 ∈ s_gt := s_gt_of (i := 567) (by decide +kernel) rfl
theorem jc_J1_charAt_3b067 : Jvm.Cond.code yJ1_charAt_3b067 cJ1_charAt_3b067 2 (some .char) ∈ s_gt := s_gt_of (i := 565) (by decide +kernel) rfl
theorem ji_J1_charAt_3b067 : Jvm.Cond.static yJ1_charAt_3b067 ∈ s_gt := s_gt_of (i := 564) (by decide +kernel) rfl
theorem jc_J3_checkIndex_8e157 : Jvm.Cond.code yJ3_checkIndex_8e157 cJ3_checkIndex_8e157 3 (some .int) ∈ s_gt := s_gt_of (i := 573) (by decide +kernel) rfl
theorem ji_J3_checkIndex_8e157 : Jvm.Cond.static yJ3_checkIndex_8e157 ∈ s_gt := s_gt_of (i := 572) (by decide +kernel) rfl
theorem jc_J9_max_e70c8 : Jvm.Cond.code yJ9_max_e70c8 cJ9_max_e70c8 2 (some .float) ∈ s_gt := s_gt_of (i := 1785) (by decide +kernel) rfl
theorem ji_J9_max_e70c8 : Jvm.Cond.static yJ9_max_e70c8 ∈ s_gt := s_gt_of (i := 1784) (by decide +kernel) rfl
theorem jn_RJ0 : Jvm.Cond.initialized RJ0 ∈ s_gt := s_gt_of (i := 117) (by decide +kernel) rfl
theorem jn_RJ1 : Jvm.Cond.initialized RJ1 ∈ s_gt := s_gt_of (i := 118) (by decide +kernel) rfl
theorem jn_RJ3 : Jvm.Cond.initialized RJ3 ∈ s_gt := s_gt_of (i := 119) (by decide +kernel) rfl
theorem jn_RJ9 : Jvm.Cond.initialized RJ9 ∈ s_gt := s_gt_of (i := 121) (by decide +kernel) rfl
theorem jl_335 : Jvm.Cond.methodLink RJ0 335 yJ0_coder_7d493 ∈ s_gt := s_gt_of (i := 549) (by decide +kernel) rfl
theorem jl_492 : Jvm.Cond.methodLink RJ0 492 yJ0_isLatin1_aae02 ∈ s_gt := s_gt_of (i := 559) (by decide +kernel) rfl
theorem jl_495 : Jvm.Cond.methodLink RJ0 495 yJ1_charAt_3b067 ∈ s_gt := s_gt_of (i := 563) (by decide +kernel) rfl
theorem jl_9 : Jvm.Cond.methodLink RJ1 9 yJ0_checkIndex_df160 ∈ s_gt := s_gt_of (i := 566) (by decide +kernel) rfl
theorem jl_1059 : Jvm.Cond.methodLink RJ0 1059 yJ3_checkIndex_8e157 ∈ s_gt := s_gt_of (i := 571) (by decide +kernel) rfl
theorem jl_X6_45 : Jvm.Cond.methodLink RX6 45 yJ0_length_8abf5 ∈ s_gt := s_gt_of (i := 545) (by decide +kernel) rfl
theorem jl_X6_50 : Jvm.Cond.methodLink RX6 50 yJ0_charAt_5068e ∈ s_gt := s_gt_of (i := 555) (by decide +kernel) rfl
theorem jl_X9_110 : Jvm.Cond.methodLink RX9 110 yJ0_length_8abf5 ∈ s_gt := s_gt_of (i := 1394) (by decide +kernel) rfl
theorem jl_X9_116 : Jvm.Cond.methodLink RX9 116 yJ0_charAt_5068e ∈ s_gt := s_gt_of (i := 1395) (by decide +kernel) rfl
theorem jl_X9_460 : Jvm.Cond.methodLink RX9 460 yJ9_max_e70c8 ∈ s_gt := s_gt_of (i := 1783) (by decide +kernel) rfl
theorem jf_38 : Jvm.Cond.fieldLink RJ0 38 "java/lang/String" "COMPACT_STRINGS" "Z" ∈ s_gt := s_gt_of (i := 553) (by decide +kernel) rfl
theorem jf_9 : Jvm.Cond.fieldLink RJ0 9 "java/lang/String" "value" "[B" ∈ s_gt := s_gt_of (i := 1903) (by decide +kernel) rfl
theorem jf_15 : Jvm.Cond.fieldLink RJ0 15 "java/lang/String" "coder" "B" ∈ s_gt := s_gt_of (i := 1904) (by decide +kernel) rfl
theorem jf_1053 : Jvm.Cond.fieldLink RJ0 1053 "jdk/internal/util/Preconditions" "SIOOBE_FORMATTER" "Ljava/util/function/BiFunction;" ∈ s_gt := s_gt_of (i := 569) (by decide +kernel) rfl
theorem jf_170 : Jvm.Cond.fieldLink RJ9 170 "java/lang/Math" "negativeZeroFloatBits" "J" ∈ s_gt := s_gt_of (i := 1787) (by decide +kernel) rfl
theorem jl_68 : Jvm.Cond.methodLink RJ9 68 ⟨"java/lang/Float", "floatToRawIntBits", "(F)I"⟩ ∈ s_gt := s_gt_of (i := 1786) (by decide +kernel) rfl
def j_Q (r : Option Value) : Array Value → State → Outcome → State → Prop := fun _ st oc t => oc = .returned r ∧ t.heap = st.heap
def j_ws (y : MethodName) (cc : ByteArray) (maxL : Nat) (ret : Option FieldType) : List Jvm.Cond := Jvm.Cond.code y cc maxL ret :: s_gt
def j_rm (k : Nat) : Room := { frames := k, cells := 0, slots := 0, locals := 60 * k }
/-- a text at a, its bytes f at t -/
def j_St (A : Nat → Prop) (a t n : Nat) (f : Nat → Value) (U : State) (H : Heap) : Prop := va_Z "java/lang/String" "COMPACT_STRINGS" "Z" (.int 1) A U H ∧ va_Zq "jdk/internal/util/Preconditions" "SIOOBE_FORMATTER" "Ljava/util/function/BiFunction;" A U H ∧ va_O "java/lang/String" a A U H ∧ va_OF "java/lang/String" "coder" "B" (.int 0) a A U H ∧ va_OF "java/lang/String" "value" "[B" (.ref t) a A U H ∧ va_T .byte t n f A U H
section JDK
variable {l : Launch} {A : Nat → Prop} {a t n : Nat} {f : Nat → Value}
theorem j_St.moved {u U : State} {H : Heap} (hv : u.vm.Alike U.vm) (h : j_St A a t n f u H) : j_St A a t n f U H := ⟨va_Z.moved hv h.1, va_Zq.moved hv h.2.1, va_O.moved hv h.2.2.1, va_OF.moved hv h.2.2.2.1, va_OF.moved hv h.2.2.2.2.1, va_T.moved hv h.2.2.2.2.2⟩
theorem j_St.kept {U : State} {H H1 : Heap} (h : j_St A a t n f U H) (hq : ∀ a : Nat, a < H.size → ¬ A a → H1[a]? = H[a]?) : j_St A a t n f U H1 := ⟨va_Z.kept h.1 hq, va_Zq.kept h.2.1 hq, h.2.2.1.kept hq, h.2.2.2.1.kept hq, h.2.2.2.2.1.kept hq, h.2.2.2.2.2.kept hq⟩
theorem j_blind (as : List Value) : FrameBlind (va_Pc as fun U => j_St A a t n f U U.heap) := fun a' U g mk h => ⟨h.1, j_St.moved (U := U.calling g mk a') (Vm.Alike.refl U.vm) h.2⟩
theorem j_pre (as : List Value) {s : State} {H : Heap} {locs : List Loc} (hJ : j_St A a t n f s s.heap) (hS : va_S A s.heap H locs) : ∀ U : State, U.heap = H → s.WarmedH U.vm → (va_Pc as fun U => j_St A a t n f U U.heap) as.toArray U := fun U hU hW => ⟨rfl, by show j_St A a t n f U U.heap; rw [hU]; exact (j_St.moved hW.alike hJ).kept hS.2.1⟩
theorem j_recv {s : State} {H : Heap} {locs : List Loc} (hJ : j_St A a t n f s s.heap) (hS : va_S A s.heap H locs) : ∃ cell : Cell, H[a]? = some cell ∧ cell.vm.isStatics = false ∧ s.vm.findClass "java/lang/String" = some cell.cls := by
  obtain ⟨cell, h1, h2, h3, -⟩ := hJ.2.2.1.kept hS.2.1
  exact ⟨cell, h1, h2, h3⟩
theorem j_cb {R : Room} {s : State} {args : Array Value} {own : String} {index maxL k n : Nat} {y : MethodName} {cc : ByteArray} {ret : Option FieldType} (hts : ∀ w ∈ s_gt, w.before args s = true) (hc : Jvm.Cond.code y cc maxL ret ∈ s_gt) (hi : Jvm.Cond.initialized y.cls ∈ s_gt) (hl : Jvm.Cond.methodLink own index y ∈ s_gt) (hd : (y.cls ≠ "java/lang/invoke/MethodHandle" ∧ y.cls ≠ "java/lang/invoke/VarHandle") ∧ (parseMethodDescriptor y.desc).map (fun d => d.parameters.length) = some n) (hR1 : k + 1 ≤ R.frames) (hR2 : 8 + (maxL + 11) + 60 * k ≤ R.locals) : CallB R s args own index y cc maxL ret (j_ws y cc maxL ret) (j_rm k) 0 0 n := by
  refine ⟨rfl, rfl, hR1, hR2, ?_, List.mem_cons_self, hts _ hc, hts _ hi, hd.1, fun sig h => ?_, hts _ hl⟩
  · intro w hw a' U hW
    have hm : w ∈ s_gt := by
      rcases List.mem_cons.mp hw with h | h
      · rw [h]; exact hc
      · exact h
    exact word_at hW (good_of_word (List.mem_filter.mp hm).2) (hts w hm)
  · have h2 := hd.2
    rw [h] at h2
    exact (Option.some.inj h2).symm
theorem j_callW {p : Program} {e : Env} {R : Room} {s : State} {mm : MethodId} {args : Array Value} {below : List Frame} {meth : Method} {c : Code} {Qm : State → Prop} {H : Heap} {locs : List Loc} {cells slots pc : Nat} {ls : Array Slot} {st0 rest : List Value} {r : Option Value} {a0 : Array Value}
    (hr : va_Run p l e R s mm args below meth c H locs cells slots 0 0 (F0 mm pc ls st0) rest (j_Q r a0) A) (hS : va_S A s.heap H locs)
    (kk : ∀ locs1 : List Loc, va_S A s.heap H locs1 → W p l e R s mm args below meth c H locs1 cells slots Qm (F0 mm (pc + 3) ls (r.toList ++ rest))) : W p l e R s mm args below meth c H locs cells slots Qm (F0 mm pc ls st0) := by
  intro T hT X
  obtain ⟨v, st₀, t, T', L, h0, X', hL, e1, e2, ⟨hv, hq⟩, st⟩ := hr T hT X
  cases hv
  obtain ⟨t2, a1, b1⟩ := kk (locs ++ L) ⟨hS.1, hS.2.1, fun q hq => by
      rcases List.mem_append.mp hq with h | h
      · exact hS.2.2 q h
      · exact hL q h⟩ T' (by rw [e1, hq, h0]) X'
  exact ⟨t2, st t2 a1, b1⟩
set_option maxHeartbeats 4000000 in
theorem j_coder  : Met l yJ0_coder_7d493 (j_ws yJ0_coder_7d493 cJ0_coder_7d493 1 (some .byte)) (j_rm 1) (va_Pc [.ref a] fun U => j_St A a t n f U U.heap) (j_Q (some (.int 0))) 0 0 A := by
  refine s_ofW (cc := cJ0_coder_7d493) (maxL := 1) (ret := (some .byte)) (by decide +kernel) rfl ?_
  intro p e s m args below meth c s₁ B hml hv
  obtain ⟨rfl, hv⟩ := hv
  have hts0 := atoms_spec (ws := j_ws yJ0_coder_7d493 cJ0_coder_7d493 1 (some .byte)) B.pre
  have hx := B.exec
  have hb := B.bytes
  have hr := B.returns
  have hlocks := B.notSynchronized
  have hown : s.vm.findClass RJ0 = some m.cls := findClass_of_methodNamed B.named
  have hts : ∀ w ∈ s_gt, w.before _ s = true := fun w hw => hts0 w (List.mem_cons_of_mem _ hw)
  have hS : va_S A s.heap s.heap [] := va_S.rf
  have hl := lv_entry [.ref a] (n := 1) (Nat.le_of_ble_eq_true rfl)
  rw [lg_entry_eq]
  generalize (lg_sl [.ref a] ++ List.replicate (1 - (lg_sl [.ref a]).length) Slot.unset).toArray = ls at hl ⊢
  have hl : lv_has ls 1 [(0, .ref a)] := hl
  refine va_gets hx hb hv.1 hS hown (hts _ jf_38) (fun _ h => h) dJ0_coder_7d493_0 ?_
  refine lv_if_eq (tgt := 13) hx hb dJ0_coder_7d493_3 (by decide) (fun q => absurd q (by decide)) (fun _ => ?_)
  refine lv_aload_n hx hb dJ0_coder_7d493_6 rfl (lv_at hl 0 rfl) ?_
  refine vk_getf hx hb hv.2.2.2.1 hS hown (hts _ jf_15) (fun _ h => h) dJ0_coder_7d493_7 ?_
  refine lv_goto (tgt := 14) hx hb dJ0_coder_7d493_10 (by decide) ?_
  exact W.zret hx hb hr rfl (fun t ht _ => ⟨rfl, ht⟩) hS.2.2 dJ0_coder_7d493_14 hlocks
set_option maxHeartbeats 4000000 in
theorem j_isLatin1  : Met l yJ0_isLatin1_aae02 (j_ws yJ0_isLatin1_aae02 cJ0_isLatin1_aae02 1 (some .boolean)) (j_rm 1) (va_Pc [.ref a] fun U => j_St A a t n f U U.heap) (j_Q (some (.int 1))) 0 0 A := by
  refine s_ofW (cc := cJ0_isLatin1_aae02) (maxL := 1) (ret := (some .boolean)) (by decide +kernel) rfl ?_
  intro p e s m args below meth c s₁ B hml hv
  obtain ⟨rfl, hv⟩ := hv
  have hts0 := atoms_spec (ws := j_ws yJ0_isLatin1_aae02 cJ0_isLatin1_aae02 1 (some .boolean)) B.pre
  have hx := B.exec
  have hb := B.bytes
  have hr := B.returns
  have hlocks := B.notSynchronized
  have hown : s.vm.findClass RJ0 = some m.cls := findClass_of_methodNamed B.named
  have hts : ∀ w ∈ s_gt, w.before _ s = true := fun w hw => hts0 w (List.mem_cons_of_mem _ hw)
  have hS : va_S A s.heap s.heap [] := va_S.rf
  have hl := lv_entry [.ref a] (n := 1) (Nat.le_of_ble_eq_true rfl)
  rw [lg_entry_eq]
  generalize (lg_sl [.ref a] ++ List.replicate (1 - (lg_sl [.ref a]).length) Slot.unset).toArray = ls at hl ⊢
  have hl : lv_has ls 1 [(0, .ref a)] := hl
  refine va_gets hx hb hv.1 hS hown (hts _ jf_38) (fun _ h => h) dJ0_isLatin1_aae02_0 ?_
  refine lv_if_eq (tgt := 17) hx hb dJ0_isLatin1_aae02_3 (by decide) (fun q => absurd q (by decide)) (fun _ => ?_)
  refine lv_aload_n hx hb dJ0_isLatin1_aae02_6 rfl (lv_at hl 0 rfl) ?_
  refine vk_getf hx hb hv.2.2.2.1 hS hown (hts _ jf_15) (fun _ h => h) dJ0_isLatin1_aae02_7 ?_
  refine lv_if_ne (tgt := 17) hx hb dJ0_isLatin1_aae02_10 (by decide) (fun q => absurd rfl q) (fun _ => ?_)
  refine lv_iconst (v := 1) hx hb dJ0_isLatin1_aae02_13 (by decide) ?_
  refine lv_goto (tgt := 18) hx hb dJ0_isLatin1_aae02_14 (by decide) ?_
  exact W.zret hx hb hr rfl (fun t ht _ => ⟨rfl, ht⟩) hS.2.2 dJ0_isLatin1_aae02_18 hlocks
set_option maxHeartbeats 4000000 in
theorem j_ck0 {i N : Int32} (h1 : ¬ i < 0) (h2 : i < N) : Met l yJ3_checkIndex_8e157 (j_ws yJ3_checkIndex_8e157 cJ3_checkIndex_8e157 3 (some .int)) (j_rm 1) (va_Pc [.int i, .int N, .null] fun U => j_St A a t n f U U.heap) (j_Q (some (.int i))) 0 0 A := by
  refine s_ofW (cc := cJ3_checkIndex_8e157) (maxL := 3) (ret := (some .int)) (by decide +kernel) rfl ?_
  intro p e s m args below meth c s₁ B hml hv
  obtain ⟨rfl, hv⟩ := hv
  have hts0 := atoms_spec (ws := j_ws yJ3_checkIndex_8e157 cJ3_checkIndex_8e157 3 (some .int)) B.pre
  have hx := B.exec
  have hb := B.bytes
  have hr := B.returns
  have hlocks := B.notSynchronized
  have hown : s.vm.findClass RJ3 = some m.cls := findClass_of_methodNamed B.named
  have hts : ∀ w ∈ s_gt, w.before _ s = true := fun w hw => hts0 w (List.mem_cons_of_mem _ hw)
  have hS : va_S A s.heap s.heap [] := va_S.rf
  have hl := lv_entry [.int i, .int N, .null] (n := 3) (Nat.le_of_ble_eq_true rfl)
  rw [lg_entry_eq]
  generalize (lg_sl [.int i, .int N, .null] ++ List.replicate (3 - (lg_sl [.int i, .int N, .null]).length) Slot.unset).toArray = ls at hl ⊢
  have hl : lv_has ls 3 [(0, .int i), (1, .int N), (2, .null)] := hl
  refine lv_iload_n hx hb dJ3_checkIndex_8e157_0 rfl (lv_at hl 0 rfl) ?_
  refine lv_if_lt (tgt := 9) hx hb dJ3_checkIndex_8e157_1 (by decide) (fun q => absurd q h1) (fun _ => ?_)
  refine lv_iload_n hx hb dJ3_checkIndex_8e157_4 rfl (lv_at hl 0 rfl) ?_
  refine lv_iload_n hx hb dJ3_checkIndex_8e157_5 rfl (lv_at hl 1 rfl) ?_
  refine lv_icmp_lt (tgt := 16) hx hb dJ3_checkIndex_8e157_6 (by decide) (fun _ => ?_) (fun q => absurd h2 q)
  refine lv_iload_n hx hb dJ3_checkIndex_8e157_16 rfl (lv_at hl 0 rfl) ?_
  exact W.zret hx hb hr rfl (fun t ht _ => ⟨rfl, ht⟩) hS.2.2 dJ3_checkIndex_8e157_17 hlocks
set_option maxHeartbeats 4000000 in
theorem j_ck1 {i N : Int32} {b : Nat} (h1 : ¬ i < 0) (h2 : i < N) : Met l yJ3_checkIndex_8e157 (j_ws yJ3_checkIndex_8e157 cJ3_checkIndex_8e157 3 (some .int)) (j_rm 1) (va_Pc [.int i, .int N, .ref b] fun U => j_St A a t n f U U.heap) (j_Q (some (.int i))) 0 0 A := by
  refine s_ofW (cc := cJ3_checkIndex_8e157) (maxL := 3) (ret := (some .int)) (by decide +kernel) rfl ?_
  intro p e s m args below meth c s₁ B hml hv
  obtain ⟨rfl, hv⟩ := hv
  have hts0 := atoms_spec (ws := j_ws yJ3_checkIndex_8e157 cJ3_checkIndex_8e157 3 (some .int)) B.pre
  have hx := B.exec
  have hb := B.bytes
  have hr := B.returns
  have hlocks := B.notSynchronized
  have hown : s.vm.findClass RJ3 = some m.cls := findClass_of_methodNamed B.named
  have hts : ∀ w ∈ s_gt, w.before _ s = true := fun w hw => hts0 w (List.mem_cons_of_mem _ hw)
  have hS : va_S A s.heap s.heap [] := va_S.rf
  have hl := lv_entry [.int i, .int N, .ref b] (n := 3) (Nat.le_of_ble_eq_true rfl)
  rw [lg_entry_eq]
  generalize (lg_sl [.int i, .int N, .ref b] ++ List.replicate (3 - (lg_sl [.int i, .int N, .ref b]).length) Slot.unset).toArray = ls at hl ⊢
  have hl : lv_has ls 3 [(0, .int i), (1, .int N), (2, .ref b)] := hl
  refine lv_iload_n hx hb dJ3_checkIndex_8e157_0 rfl (lv_at hl 0 rfl) ?_
  refine lv_if_lt (tgt := 9) hx hb dJ3_checkIndex_8e157_1 (by decide) (fun q => absurd q h1) (fun _ => ?_)
  refine lv_iload_n hx hb dJ3_checkIndex_8e157_4 rfl (lv_at hl 0 rfl) ?_
  refine lv_iload_n hx hb dJ3_checkIndex_8e157_5 rfl (lv_at hl 1 rfl) ?_
  refine lv_icmp_lt (tgt := 16) hx hb dJ3_checkIndex_8e157_6 (by decide) (fun _ => ?_) (fun q => absurd h2 q)
  refine lv_iload_n hx hb dJ3_checkIndex_8e157_16 rfl (lv_at hl 0 rfl) ?_
  exact W.zret hx hb hr rfl (fun t ht _ => ⟨rfl, ht⟩) hS.2.2 dJ3_checkIndex_8e157_17 hlocks
set_option maxHeartbeats 4000000 in
theorem j_ckS {i N : Int32} (h1 : ¬ i < 0) (h2 : i < N) : Met l yJ0_checkIndex_df160 (j_ws yJ0_checkIndex_df160 cJ0_checkIndex_df160 2 none) (j_rm 2) (va_Pc [.int i, .int N] fun U => j_St A a t n f U U.heap) (j_Q none) 0 0 A := by
  refine s_ofW (cc := cJ0_checkIndex_df160) (maxL := 2) (ret := none) (by decide +kernel) rfl ?_
  intro p e s m args below meth c s₁ B hml hv
  obtain ⟨rfl, hv⟩ := hv
  have hts0 := atoms_spec (ws := j_ws yJ0_checkIndex_df160 cJ0_checkIndex_df160 2 none) B.pre
  have hx := B.exec
  have hb := B.bytes
  have hr := B.returns
  have hlocks := B.notSynchronized
  have hown : s.vm.findClass RJ0 = some m.cls := findClass_of_methodNamed B.named
  have hts : ∀ w ∈ s_gt, w.before _ s = true := fun w hw => hts0 w (List.mem_cons_of_mem _ hw)
  have hS : va_S A s.heap s.heap [] := va_S.rf
  have hl := lv_entry [.int i, .int N] (n := 2) (Nat.le_of_ble_eq_true rfl)
  rw [lg_entry_eq]
  generalize (lg_sl [.int i, .int N] ++ List.replicate (2 - (lg_sl [.int i, .int N]).length) Slot.unset).toArray = ls at hl ⊢
  have hl : lv_has ls 2 [(0, .int i), (1, .int N)] := hl
  refine lv_iload_n hx hb dJ0_checkIndex_df160_0 rfl (lv_at hl 0 rfl) ?_
  refine lv_iload_n hx hb dJ0_checkIndex_df160_1 rfl (lv_at hl 1 rfl) ?_
  rcases hv.2.1 with hz | ⟨b, hz⟩
  · refine va_gets hx hb hz hS hown (hts _ jf_1053) (fun _ h => h) dJ0_checkIndex_df160_2 ?_
    refine j_callW (va_runS (n := 3) (As := [.int i, .int N, .null]) (rest := []) (Ts := s_gt) ⟨hx, hb, hml, hown, hts⟩ (j_ck0 (a := a) (t := t) (n := n) (f := f) h1 h2) ⟨j_cb (n := 3) (k := 1) hts jc_J3_checkIndex_8e157 jn_RJ3 jl_1059 ⟨by decide, by decide +kernel⟩ (Nat.le_of_ble_eq_true rfl) (Nat.le_of_ble_eq_true rfl), hts _ ji_J3_checkIndex_8e157⟩ ⟨j_blind _, j_pre _ hv hS⟩ rfl rfl hl.1 rfl (lv_room (Nat.le_of_ble_eq_true rfl)) dJ0_checkIndex_df160_5 ⟨Nat.zero_le _, Nat.zero_le _⟩) hS fun locs1 hS1 => ?_
    refine lv_pop hx hb dJ0_checkIndex_df160_8 rfl ?_
    exact W.vret hx hb hr (fun t ht _ => ⟨rfl, ht⟩) hS1.2.2 dJ0_checkIndex_df160_9 hlocks
  · refine va_gets hx hb hz hS hown (hts _ jf_1053) (fun _ h => h) dJ0_checkIndex_df160_2 ?_
    refine j_callW (va_runS (n := 3) (As := [.int i, .int N, .ref b]) (rest := []) (Ts := s_gt) ⟨hx, hb, hml, hown, hts⟩ (j_ck1 (a := a) (t := t) (n := n) (f := f) h1 h2) ⟨j_cb (n := 3) (k := 1) hts jc_J3_checkIndex_8e157 jn_RJ3 jl_1059 ⟨by decide, by decide +kernel⟩ (Nat.le_of_ble_eq_true rfl) (Nat.le_of_ble_eq_true rfl), hts _ ji_J3_checkIndex_8e157⟩ ⟨j_blind _, j_pre _ hv hS⟩ rfl rfl hl.1 rfl (lv_room (Nat.le_of_ble_eq_true rfl)) dJ0_checkIndex_df160_5 ⟨Nat.zero_le _, Nat.zero_le _⟩) hS fun locs1 hS1 => ?_
    refine lv_pop hx hb dJ0_checkIndex_df160_8 rfl ?_
    exact W.vret hx hb hr (fun t ht _ => ⟨rfl, ht⟩) hS1.2.2 dJ0_checkIndex_df160_9 hlocks
set_option maxHeartbeats 4000000 in
theorem j_chL {i x y : Int32} (h1 : ¬ i < 0) (h2 : i < Int32.ofNat n) (h3 : vp_in i n) (h4 : f i.toNatClampNeg = .int x) (h5 : ((x &&& 255).toUInt32 % 65536).toInt32 = y) (h6 : narrow .char (.int y) = .int y) : Met l yJ1_charAt_3b067 (j_ws yJ1_charAt_3b067 cJ1_charAt_3b067 2 (some .char)) (j_rm 3) (va_Pc [.ref t, .int i] fun U => j_St A a t n f U U.heap) (j_Q (some (.int y))) 0 0 A := by
  refine s_ofW (cc := cJ1_charAt_3b067) (maxL := 2) (ret := (some .char)) (by decide +kernel) rfl ?_
  intro p e s m args below meth c s₁ B hml hv
  obtain ⟨rfl, hv⟩ := hv
  have hts0 := atoms_spec (ws := j_ws yJ1_charAt_3b067 cJ1_charAt_3b067 2 (some .char)) B.pre
  have hx := B.exec
  have hb := B.bytes
  have hr := B.returns
  have hlocks := B.notSynchronized
  have hown : s.vm.findClass RJ1 = some m.cls := findClass_of_methodNamed B.named
  have hts : ∀ w ∈ s_gt, w.before _ s = true := fun w hw => hts0 w (List.mem_cons_of_mem _ hw)
  have hS : va_S A s.heap s.heap [] := va_S.rf
  have hl := lv_entry [.ref t, .int i] (n := 2) (Nat.le_of_ble_eq_true rfl)
  rw [lg_entry_eq]
  generalize (lg_sl [.ref t, .int i] ++ List.replicate (2 - (lg_sl [.ref t, .int i]).length) Slot.unset).toArray = ls at hl ⊢
  have hl : lv_has ls 2 [(0, .ref t), (1, .int i)] := hl
  refine lv_iload_n hx hb dJ1_charAt_3b067_0 rfl (lv_at hl 1 rfl) ?_
  refine lv_aload_n hx hb dJ1_charAt_3b067_1 rfl (lv_at hl 0 rfl) ?_
  refine va_tlen hx hb hv.2.2.2.2.2 hS rfl dJ1_charAt_3b067_2 ?_
  refine j_callW (va_runS (n := 2) (As := [.int i, .int (Int32.ofNat n)]) (rest := []) (Ts := s_gt) ⟨hx, hb, hml, hown, hts⟩ (j_ckS (a := a) (t := t) (n := n) (f := f) h1 h2) ⟨j_cb (n := 2) (k := 2) hts jc_J0_checkIndex_df160 jn_RJ0 jl_9 ⟨by decide, by decide +kernel⟩ (Nat.le_of_ble_eq_true rfl) (Nat.le_of_ble_eq_true rfl), hts _ ji_J0_checkIndex_df160⟩ ⟨j_blind _, j_pre _ hv hS⟩ rfl rfl hl.1 rfl (lv_room (Nat.le_of_ble_eq_true rfl)) dJ1_charAt_3b067_3 ⟨Nat.zero_le _, Nat.zero_le _⟩) hS fun locs1 hS1 => ?_
  refine lv_aload_n hx hb dJ1_charAt_3b067_6 rfl (lv_at hl 0 rfl) ?_
  refine lv_iload_n hx hb dJ1_charAt_3b067_7 rfl (lv_at hl 1 rfl) ?_
  refine va_tb hx hb hv.2.2.2.2.2 hS1 h3 h4 dJ1_charAt_3b067_8 ?_
  refine lv_sipush (v := 255) hx hb dJ1_charAt_3b067_9 (by decide) ?_
  refine lv_iand hx hb dJ1_charAt_3b067_12 ?_
  refine lv_i2c hx hb dJ1_charAt_3b067_13 h5 ?_
  exact W.zret hx hb hr h6 (fun t ht _ => ⟨rfl, ht⟩) hS1.2.2 dJ1_charAt_3b067_14 hlocks
set_option maxHeartbeats 4000000 in
theorem j_charAt {i x y : Int32} (h1 : ¬ i < 0) (h2 : i < Int32.ofNat n) (h3 : vp_in i n) (h4 : f i.toNatClampNeg = .int x) (h5 : ((x &&& 255).toUInt32 % 65536).toInt32 = y) (h6 : narrow .char (.int y) = .int y) : Met l yJ0_charAt_5068e (j_ws yJ0_charAt_5068e cJ0_charAt_5068e 2 (some .char)) (j_rm 4) (va_Pc [.ref a, .int i] fun U => j_St A a t n f U U.heap) (j_Q (some (.int y))) 0 0 A := by
  refine s_ofW (cc := cJ0_charAt_5068e) (maxL := 2) (ret := (some .char)) (by decide +kernel) rfl ?_
  intro p e s m args below meth c s₁ B hml hv
  obtain ⟨rfl, hv⟩ := hv
  have hts0 := atoms_spec (ws := j_ws yJ0_charAt_5068e cJ0_charAt_5068e 2 (some .char)) B.pre
  have hx := B.exec
  have hb := B.bytes
  have hr := B.returns
  have hlocks := B.notSynchronized
  have hown : s.vm.findClass RJ0 = some m.cls := findClass_of_methodNamed B.named
  have hts : ∀ w ∈ s_gt, w.before _ s = true := fun w hw => hts0 w (List.mem_cons_of_mem _ hw)
  have hS : va_S A s.heap s.heap [] := va_S.rf
  have hl := lv_entry [.ref a, .int i] (n := 2) (Nat.le_of_ble_eq_true rfl)
  rw [lg_entry_eq]
  generalize (lg_sl [.ref a, .int i] ++ List.replicate (2 - (lg_sl [.ref a, .int i]).length) Slot.unset).toArray = ls at hl ⊢
  have hl : lv_has ls 2 [(0, .ref a), (1, .int i)] := hl
  refine lv_aload_n hx hb dJ0_charAt_5068e_0 rfl (lv_at hl 0 rfl) ?_
  refine j_callW (va_runV (C := RJ0) (n := 0) (b := a) (As := []) (rest := []) (Ts := s_gt) ⟨hx, hb, hml, hown, hts⟩ (j_isLatin1 (a := a) (t := t) (n := n) (f := f)) ⟨j_cb (n := 0) (k := 1) hts jc_J0_isLatin1_aae02 jn_RJ0 jl_492 ⟨by decide, by decide +kernel⟩ (Nat.le_of_ble_eq_true rfl) (Nat.le_of_ble_eq_true rfl), hts _ ji_J0_isLatin1_aae02, hts _ js_J0_isLatin1_aae02⟩ ⟨j_blind _, j_recv hv hS, j_pre _ hv hS⟩ rfl rfl hl.1 rfl (lv_room (Nat.le_of_ble_eq_true rfl)) dJ0_charAt_5068e_1 ⟨Nat.zero_le _, Nat.zero_le _⟩) hS fun locs1 hS1 => ?_
  refine lv_if_eq (tgt := 16) hx hb dJ0_charAt_5068e_4 (by decide) (fun q => absurd q (by decide)) (fun _ => ?_)
  refine lv_aload_n hx hb dJ0_charAt_5068e_7 rfl (lv_at hl 0 rfl) ?_
  refine vk_getf hx hb hv.2.2.2.2.1 hS1 hown (hts _ jf_9) (fun _ h => h) dJ0_charAt_5068e_8 ?_
  refine lv_iload_n hx hb dJ0_charAt_5068e_11 rfl (lv_at hl 1 rfl) ?_
  refine j_callW (va_runS (n := 2) (As := [.ref t, .int i]) (rest := []) (Ts := s_gt) ⟨hx, hb, hml, hown, hts⟩ (j_chL (a := a) (t := t) (n := n) (f := f) h1 h2 h3 h4 h5 h6) ⟨j_cb (n := 2) (k := 3) hts jc_J1_charAt_3b067 jn_RJ1 jl_495 ⟨by decide, by decide +kernel⟩ (Nat.le_of_ble_eq_true rfl) (Nat.le_of_ble_eq_true rfl), hts _ ji_J1_charAt_3b067⟩ ⟨j_blind _, j_pre _ hv hS1⟩ rfl rfl hl.1 rfl (lv_room (Nat.le_of_ble_eq_true rfl)) dJ0_charAt_5068e_12 ⟨Nat.zero_le _, Nat.zero_le _⟩) hS1 fun locs2 hS2 => ?_
  exact W.zret hx hb hr h6 (fun t ht _ => ⟨rfl, ht⟩) hS2.2.2 dJ0_charAt_5068e_15 hlocks
set_option maxHeartbeats 4000000 in
theorem j_length (h1 : Int32.ofNat n >>> ((0 : Int32) &&& 31) = Int32.ofNat n) : Met l yJ0_length_8abf5 (j_ws yJ0_length_8abf5 cJ0_length_8abf5 1 (some .int)) (j_rm 2) (va_Pc [.ref a] fun U => j_St A a t n f U U.heap) (j_Q (some (.int (Int32.ofNat n)))) 0 0 A := by
  refine s_ofW (cc := cJ0_length_8abf5) (maxL := 1) (ret := (some .int)) (by decide +kernel) rfl ?_
  intro p e s m args below meth c s₁ B hml hv
  obtain ⟨rfl, hv⟩ := hv
  have hts0 := atoms_spec (ws := j_ws yJ0_length_8abf5 cJ0_length_8abf5 1 (some .int)) B.pre
  have hx := B.exec
  have hb := B.bytes
  have hr := B.returns
  have hlocks := B.notSynchronized
  have hown : s.vm.findClass RJ0 = some m.cls := findClass_of_methodNamed B.named
  have hts : ∀ w ∈ s_gt, w.before _ s = true := fun w hw => hts0 w (List.mem_cons_of_mem _ hw)
  have hS : va_S A s.heap s.heap [] := va_S.rf
  have hl := lv_entry [.ref a] (n := 1) (Nat.le_of_ble_eq_true rfl)
  rw [lg_entry_eq]
  generalize (lg_sl [.ref a] ++ List.replicate (1 - (lg_sl [.ref a]).length) Slot.unset).toArray = ls at hl ⊢
  have hl : lv_has ls 1 [(0, .ref a)] := hl
  refine lv_aload_n hx hb dJ0_length_8abf5_0 rfl (lv_at hl 0 rfl) ?_
  refine vk_getf hx hb hv.2.2.2.2.1 hS hown (hts _ jf_9) (fun _ h => h) dJ0_length_8abf5_1 ?_
  refine va_tlen hx hb hv.2.2.2.2.2 hS rfl dJ0_length_8abf5_4 ?_
  refine lv_aload_n hx hb dJ0_length_8abf5_5 rfl (lv_at hl 0 rfl) ?_
  refine j_callW (va_runV (C := RJ0) (n := 0) (b := a) (As := []) (rest := [.int (Int32.ofNat n)]) (Ts := s_gt) ⟨hx, hb, hml, hown, hts⟩ (j_coder (a := a) (t := t) (n := n) (f := f)) ⟨j_cb (n := 0) (k := 1) hts jc_J0_coder_7d493 jn_RJ0 jl_335 ⟨by decide, by decide +kernel⟩ (Nat.le_of_ble_eq_true rfl) (Nat.le_of_ble_eq_true rfl), hts _ ji_J0_coder_7d493, hts _ js_J0_coder_7d493⟩ ⟨j_blind _, j_recv hv hS, j_pre _ hv hS⟩ rfl rfl hl.1 rfl (lv_room (Nat.le_of_ble_eq_true rfl)) dJ0_length_8abf5_6 ⟨Nat.zero_le _, Nat.zero_le _⟩) hS fun locs1 hS1 => ?_
  refine lv_ishr hx hb dJ0_length_8abf5_9 ?_
  rw [h1]
  exact W.zret hx hb hr rfl (fun t ht _ => ⟨rfl, ht⟩) hS1.2.2 dJ0_length_8abf5_10 hlocks
end JDK
/-! Math.max of two floats: the machine answers it by an entry of its own; where neither is NaN nothing is drawn (the manner is the library's own for abs) -/
theorem mx_nan {a : UInt32} (h : a.toNat < 2139095040) : FP.fIsNaN a = false := by
  show decide (FP.Core.decode FP.Core.b32 a.toNat = .nan) = false
  rw [dec_n h]
  exact decide_eq_false fun z => by cases z
theorem mx_pick {a b : UInt32} (ha : a.toNat < 2139095040) (hb : b.toNat < 2139095040) : Native.java_lang_Math.nans.pick32 true a b = if b.toNat ≤ a.toNat then a else b := by
  unfold Native.java_lang_Math.nans.pick32
  rw [fcmp_v ha hb]
  unfold compareOfLessAndEq
  by_cases c1 : a.toNat < b.toNat
  · rw [if_pos c1]
    show (if true = true then b else a) = if b.toNat ≤ a.toNat then a else b
    rw [if_pos rfl, if_neg (by omega)]
  · rw [if_neg c1]
    by_cases c2 : a.toNat = b.toNat
    · have e : a = b := UInt32.toNat_inj.mp c2
      subst e
      rw [if_pos rfl, if_pos (Nat.le_refl _)]
      show (if _ then a else a) = a
      exact ite_self _
    · rw [if_neg c2]
      show (if true = true then a else b) = if b.toNat ≤ a.toNat then a else b
      rw [if_pos rfl, if_pos (by omega)]
def mxRow : NativeRow := (NativeRow.find? Native.java_lang_Math.nans.rows "java/lang/Math" "max" "(FF)F").get (by decide +kernel)
set_option maxRecDepth 100000 in
theorem mx_row (p : Program) : NativeRow.find? p.tables.natives "java/lang/Math" "max" "(FF)F" = some mxRow := by
  cases p <;> rfl
theorem mx_run {a b : UInt32} (ha : a.toNat < 2139095040) (hb : b.toNat < 2139095040) (e : Env) (S : State) : ∃ acts, (mxRow.sem #[.float a, .float b]).run e S = .ok (some (.float (if b.toNat ≤ a.toNat then a else b))) S acts := by
  have h1 : mxRow.sem #[.float a, .float b] = (do
      let r ← if FP.fIsNaN a then anyNaN32 a else if FP.fIsNaN b then anyNaN32 b else Pure.pure (Native.java_lang_Math.nans.pick32 true a b)
      mark "nat.java_lang_Math.max/float"
      Pure.pure (some (.float r))) := rfl
  have h2 : wpRun (mxRow.sem #[.float a, .float b]) (fun v s₂ _ => v = some (.float (if b.toNat ≤ a.toNat then a else b)) ∧ s₂ = S) (fun _ _ _ => False) e S := by
    rw [h1]
    simp [jvm, wpRun, mx_nan ha, mx_nan hb, mx_pick ha hb]
  have h3 := (wpRun_iff_run _ _ _ _ _).mp h2
  cases hr : (mxRow.sem #[.float a, .float b]).run e S with
  | ok v s₂ acts₂ => rw [hr] at h3; obtain ⟨rfl, rfl⟩ := h3; exact ⟨_, rfl⟩
  | ctl x s₂ acts₂ => rw [hr] at h3; cases x <;> exact h3.elim
theorem mx_ov {tb : Tables} {e : Env} {s : State} {f : JFrame} {k : Class} {x : Method} {row : NativeRow} (hpc : f.pc = 0) (hk : s.vm.classes[f.method.cls]? = some k) (hin : k.name ∈ overriddenIn) (hboot : k.loader = none) (hx : k.methods[f.method.idx]? = some x) (hrow : NativeRow.find? tb.natives k.name x.name x.desc = some row) : overridden tb e s f = some row := by
  unfold overridden
  simp [hpc, hk, hboot, hx, hrow]
  intro h
  exact absurd hin h
theorem mx_go (p : Program) {e : Env} {below : List Frame} {s target : State} {g : JFrame} {c : Code}
    (htopS : s.topJava?.isSome) (habove : ∃ mid, s.frames.tail = mid ++ below) (hrunning : s.status = .running) (hrunnable : s.curStatus? = some .runnable) (haloneS : s.alone = true) (hcodeG : s.code? g.method = some c)
    {m : MethodId} {meth : Method} {k : Class} {cm : Code} {a b : UInt32}
    (hk : s.vm.classes[m.cls]? = some k) (hx : k.methods[m.idx]? = some meth) (hboot : k.loader = none)
    (hkn : k.name = "java/lang/Math") (hmn : meth.name = "max") (hmd : meth.desc = "(FF)F") (hsig : parseMethodDescriptor "(FF)F" = some meth.sig)
    (hc : meth.code = some cm) (hml : cm.maxLocals = 2) (hl : meth.locks = false)
    (hroom : (s.calling g m #[.float a, .float b]).hasRoom e.platform {} = true)
    (ha : a.toNat < 2139095040) (hb : b.toNat < 2139095040) {ig : Instr} {len : Nat} (hdg : decode c.code g.pc = .ok (ig, len))
    (hrest : Steps p.tables e below (s.setTop { g with pc := g.pc + len, stack := .float (if b.toNat ≤ a.toNat then a else b) :: g.stack }) target) :
    Steps p.tables e below (doInvoke e (s.setTop g) [] m #[.float a, .float b]).1 target := by
  obtain ⟨g₀, hg⟩ := Option.isSome_iff_exists.mp htopS
  obtain ⟨r, hr⟩ := State.topJava?_eq_some.mp hg
  obtain ⟨mid, hmid⟩ := habove
  have hcur : s.cur < s.threads.size := State.cur_lt_of_frames hr
  have hm : s.vm.method? m = some meth := by simp [Vm.method?, hk, hx]
  have htop : s.setTop g = s.setFrames (.java g :: r) := State.setTop_of_frames _ hr
  have htail : s.frames.tail = r := by rw [hr]; rfl
  have hfull : e.platform.stackFull (s.setTop g).me (s.setTop g).frames cm.maxLocals = false := by
    have hfc := State.frames_calling htopS g m #[.float a, .float b]
    obtain ⟨-, r2, -, r4⟩ := State.hasRoom_stack hroom
    rw [State.localsInUse_invoking hfc (meth := meth) (c := cm) hm hc] at r4
    rw [hfc, htail] at r2
    rw [htail] at r4
    have hw := stackUse_le_stackWeight (.java g :: r)
    rw [State.calling_eq htopS, State.stackLimits_setFrames] at r2 r4
    rw [htop, State.frames_setFrames _ hcur]
    refine Platform.stackFull_eq_false (by rw [State.stackLimits_setFrames]; simp only [List.length_cons] at r2 ⊢; have : ({} : Room).frames = 0 := rfl; omega) (by rw [State.stackLimits_setFrames]; have : ({} : Room).locals = 0 := rfl; omega)
  rw [(doInvoke_java (s := s.setTop g) (e := e) (acts := []) (args := #[.float a, .float b]) (meth := meth) (code := cm) hm hc hl hfull).1, hml]
  have hU : (s.setTop g).pushFrame (.java { method := m, pc := 0, locals := argsToLocals #[.float a, .float b] 2, stack := [], locked := none }) = s.setFrames (.java (entryFrame m #[.float a, .float b] 2) :: .java g :: r) := by
    rw [State.pushFrame, State.frames_setTop _ hr, htop, State.setFrames_setFrames]
    rfl
  rw [hU]
  have hf1 : (s.setFrames (.java (entryFrame m #[.float a, .float b] 2) :: .java g :: r)).frames = .java (entryFrame m #[.float a, .float b] 2) :: .java g :: r := State.frames_setFrames _ hcur
  have hov : overridden p.tables e (s.setFrames (.java (entryFrame m #[.float a, .float b] 2) :: .java g :: r)) (entryFrame m #[.float a, .float b] 2) = some mxRow :=
    mx_ov (k := k) (x := meth) rfl hk (by rw [hkn]; decide) hboot hx (by rw [hkn, hmn, hmd]; exact mx_row p)
  have hb2 : ∀ F : List Frame, ((s.setFrames F).vm.classes[m.cls]?.bind fun y => y.methods[m.idx]?) = some meth := by
    intro F
    show (s.vm.classes[m.cls]?.bind fun y => y.methods[m.idx]?) = some meth
    simp [hk, hx]
  have hsig2 : parseMethodDescriptor "(FF)F" = some { parameters := [.float, .float], returnType := some .float } := by decide +kernel
  have hparams : meth.sig.parameters.length = 2 := by
    have h3 := hsig
    rw [hsig2] at h3
    rw [← Option.some.inj h3]
    rfl
  have htake : ∀ n : Nat, List.take (2 + n) [Value.float a, Value.float b] = [Value.float a, Value.float b] := fun n => List.take_of_length_le (Nat.le_add_right 2 n)
  obtain ⟨acts₂, hr2⟩ := mx_run ha hb e (s.setFrames (.native { method := m, args := #[.float a, .float b] } :: .java g :: r))
  have hcode : ∀ F : List Frame, (s.setFrames F).code? g.method = some c := by
    intro F
    have := hcodeG
    rw [State.code?_eq] at this ⊢
    simpa [State.setFrames] using this
  have hfs : handOver (s.setFrames (.native { method := m, args := #[.float a, .float b] } :: .java g :: r)) (some (.float (if b.toNat ≤ a.toNat then a else b))) (.java g :: r)
      = some (.java { g with pc := g.pc + len, stack := .float (if b.toNat ≤ a.toNat then a else b) :: g.stack } :: r) := by
    simp [handOver, hcode, hdg, Except.toOption]
  have hstep2 : (stepThread p.tables e (s.setFrames (.java (entryFrame m #[.float a, .float b] 2) :: .java g :: r))).1 = s.setTop { g with pc := g.pc + len, stack := .float (if b.toNat ≤ a.toNat then a else b) :: g.stack } := by
    unfold stepThread
    simp only [hf1, hov]
    simp [entryFrame, argsToLocals, Value.category, argCount, hb2, hk, hx, hparams, htake, hr2, afterNative]
    rw [doReturn_native (f := { method := m, args := #[.float a, .float b] }) (below := .java g :: r) (State.frames_setFrames _ hcur) rfl hfs, State.setFrames_setFrames, ← State.setTop_of_frames _ hr]
  refine Steps.head ⟨hrunning, by simpa using hrunnable, by simpa using haloneS⟩ ⟨.java (entryFrame m #[.float a, .float b] 2) :: .java g :: mid, by rw [hf1]; rw [hr] at hmid; simp at hmid; simp [hmid], by simp, by simp⟩ ?_
  rw [hstep2]
  exact hrest
theorem mx_pays {l : Launch} {R : Room} {p : Program} {e : Env} {below : List Frame} {s : State} {sargs : Array Value} {len W9 : Nat} {a b : UInt32} (ha : a.toNat < 2139095040) (hb : b.toNat < 2139095040) (hcode : (Jvm.Cond.code yJ9_max_e70c8 cJ9_max_e70c8 2 (some .float)).before sargs s = true) (hfr : 1 ≤ R.frames) (hlo : W9 + 13 ≤ R.locals) :
    Back l R p e below s sargs yJ9_max_e70c8 len W9 (fun A a' => A.cells ≤ R.cells ∧ A.slots ≤ R.slots ∧ a' = #[.float a, .float b]) (fun A _ v B => v = some (.float (if b.toNat ≤ a.toNat then a else b)) ∧ B = A) := by
  intro m meth c A g ig mk a' X hg hsize hdg hW hnamed hp
  obtain ⟨hc, hs, rfl⟩ := hp
  have hcodeU : (Jvm.Cond.code yJ9_max_e70c8 cJ9_max_e70c8 2 (some .float)).before sargs A.U = true := word_at X.warmed (good_of_word rfl) hcode
  obtain ⟨methM, cM, hmethM, hcodeM', -, hlocalsM, -, hlocksM, -, hsigM⟩ := Cond.code_spec hnamed hcodeU
  obtain ⟨kP, hkP, hkname⟩ := className_of_methodNamed hnamed
  obtain ⟨hmnM, hmdM⟩ := name_of_methodNamed hnamed hmethM
  have hxP : kP.methods[mk.idx]? = some methM := by simpa [Vm.method?, hkP] using hmethM
  have hbootP : kP.loader = none := Vm.bootOf_findClass (findClass_of_methodNamed hnamed) hkP
  refine ⟨some (.float (if b.toNat ≤ a.toNat then a else b)), A, X, ⟨rfl, rfl⟩, ?_⟩
  exact mx_go p X.here.top X.here.above X.here.running X.here.runnable X.here.alone (by rw [hg]; exact X.here.code) hkP hxP hbootP hkname hmnM hmdM hsigM hcodeM' hlocalsM hlocksM
    (X.room_calling hsize hmethM hcodeM' (R' := {}) (by show 0 + 1 ≤ R.frames; omega) (by rw [hlocalsM]; show _ + (2 + 11) + 0 ≤ R.locals; omega) (by show A.cells + 0 ≤ R.cells; omega) (by show A.slots + 0 ≤ R.slots; omega)) ha hb hdg (Steps.refl _)
theorem w_max {p : Program} {l : Launch} {e : Env} {R : Room} {s : State} {m : MethodId} {args : Array Value} {below : List Frame} {meth : Method} {c : Code} {H : Heap} {locs : List Loc} {cells slots : Nat} {Q : State → Prop} {cc : ByteArray} {pc : Nat} {ls : Array Slot} {rest : List Value}
    (hexec : p.tables.exec = Jvm.exec) (hb9 : c.code = cc) (hml : c.maxLocals = ls.size) {own : String} {index : Nat} (hown : s.vm.findClass own = some m.cls) (hlink : (Jvm.Cond.methodLink own index yJ9_max_e70c8).before args s = true) (hstat : (Jvm.Cond.static yJ9_max_e70c8).before args s = true) (hinit : (Jvm.Cond.initialized RJ9).before args s = true) (hcode : (Jvm.Cond.code yJ9_max_e70c8 cJ9_max_e70c8 2 (some .float)).before args s = true)
    {a b : UInt32} (ha : a.toNat < 2139095040) (hb : b.toNat < 2139095040) (hfr : 1 ≤ R.frames) (hlo : 8 + 13 ≤ R.locals) (hW : 2 * (F0 m pc ls (.float b :: .float a :: rest)).monitorRoom + (rest.map fun v => v.category).sum ≤ 8) (hcl : cells ≤ R.cells) (hsl : slots ≤ R.slots) (hdg : decode cc pc = .ok (.invokestatic index, 3))
    (k : W p l e R s m args below meth c H locs cells slots Q (F0 m (pc + 3) ls (.float (if b.toNat ≤ a.toNat then a else b) :: rest))) : W p l e R s m args below meth c H locs cells slots Q (F0 m pc ls (.float b :: .float a :: rest)) := by
  intro T hT X
  obtain ⟨v, vm₁, B, hW₁, X', ⟨rfl, rfl⟩, st⟩ := callS X hexec (bytes := cJ9_max_e70c8) (maxL := 2) (ret := some .float) hown hlink hstat hinit hcode (by decide) (mx_pays (W9 := 8) ha hb hcode hfr hlo) (g := F0 m pc ls (.float b :: .float a :: rest)) rfl hml.symm (argsL := [.float a, .float b]) (rest := rest) (fun sig h => by
      have h2 : (parseMethodDescriptor yJ9_max_e70c8.desc).map (fun d => d.parameters.length) = some 2 := by decide +kernel
      rw [h] at h2
      exact (Option.some.inj h2).symm) rfl hW (by rw [hb9]; exact hdg) (fun vm₁ hW₁ => ⟨hcl, hsl, rfl⟩)
  obtain ⟨t, a1, b1⟩ := k (T.setVm vm₁) hT X'
  exact ⟨t, st t a1, b1⟩
