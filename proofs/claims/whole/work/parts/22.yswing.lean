/-! Yard: loads swing, work goes on -/
section YV
variable {a d : Nat} {y : tY} {h : sH} {k : sK} {Q : sQ} {i x w : Int32}
def movB (y : tY) (c : Nat) : Bool := decide (yA y 11 c = nI 1) || decide (yA y 11 c = nI 2)
def swF (m : Bool) (w : UInt32) : UInt32 := if m then FP.fadd (FP.fmul w 1061158912) 1069547520 else FP.fmul w 1056964608
def nice (w : UInt32) : Prop := vf_n32 (FP.fmul w 1061158912) ∧ vf_n32 (FP.fadd (FP.fmul w 1061158912) 1069547520) ∧ vf_n32 (FP.fmul w 1056964608)
def sw1 (y : tY) (c : Nat) : tY := uW y (vf_upd (yW y) c (swF (movB y c) (yW y c)))
theorem vfu_tw {f : Nat → UInt32} {c : Nat} {u w : UInt32} : vf_upd (vf_upd f c u) c w = vf_upd f c w := by
  funext q
  unfold vf_upd
  by_cases e : q = c
  · rw [if_pos e, if_pos e]
  · rw [if_neg e, if_neg e, if_neg e]
theorem vfu_s {f : Nat → UInt32} {c : Nat} {u : UInt32} : vf_upd f c u c = u := by
  unfold vf_upd
  rw [if_pos rfl]
theorem uW_tw {y : tY} {f g : Nat → UInt32} : uW (uW y f) g = uW y g := rfl
theorem swing_a {c : Nat} {s : Bool} {v3 : Value} (hc : c < 4) (hw : nice (yW y c)) : WP d 78 12 [.ref a, .int (iB s), .int (nI c), v3] [] (pY a y h) k Q ↔ WP d 78 82 [.ref a, .int (iB (s || movB y c)), .int (nI c), v3] [] (pY a (sw1 y c) h) k Q := by
  obtain ⟨w1, w2, w3⟩ := hw
  have st : (s || true) = true := by cases s <;> rfl
  have sf : (s || false) = s := by cases s <;> rfl
  unfold sw1 swF
  by_cases h1 : yA y 11 c = nI 1
  · rw [show movB y c = true by unfold movB; rw [decide_eq_true h1, Bool.true_or], if_pos rfl, st]
    simp (disch := omega) only [u_78_12, u_78_13, u_78_16, u_78_17, u_78_18, u_78_19, u_78_22, u_78_23, u_78_26, u_78_27, u_78_28, u_78_29, u_78_32, u_78_33, u_78_36, u_78_37, u_78_38, u_78_41, u_78_42, u_78_43, u_78_45, u_78_46, u_78_47, u_78_48, u_78_51, u_78_52, u_78_53, u_78_56, u_78_57, u_78_58, u_78_60, u_78_61, u_78_62, u_78_63, u_78_64, gI0, gIs, gR0, gRs, gF0, gFs, st0, st_i, st_r, st_f, st_n, st_s, true_and, and_true, ↓ifLeT, ↓ifLeF, ↓ifLtT, ↓ifLtF, ↓ifEqT, ↓ifEqF, if_tt, if_ff, if_pos, if_neg, nLe, nLt, nEq, nInT, nCl, pk_mul, nI_add, Nat.reduceAdd, s_cat_nil, s_cat_i, s_cat_r, s_cat_f, s_cat_l, tl_s, tl_n, cat_i, cat_r, cat_f, nb0, nb1, nbI, if_bI, if_bIr, Nat.zero_le, Nat.reduceLeDiff, Y_g0, Y_g1, Y_g2, Y_g3, Y_g4, Y_g5, Y_g6, Y_g7, Y_g8, Y_g9, Y_g10, Y_g11, Y_g12, Y_g13, Y_g14, Y_g15, Y_g16, Y_g17, Y_g18, Y_g19, Y_a7, Y_a8, Y_a10, Y_a11, Y_a12, Y_a13, Y_a14, Y_a15, Y_a16, Y_a17, Y_a18, Y_sw, Y_w7, Y_w8, Y_w10, Y_w11, Y_w12, Y_w13, Y_w14, Y_w15, Y_w16, Y_w17, Y_w18, Y_wsw, yC_uS, yT_uS, yW_uS, yP_uS, yB_uS, yA_uS, yC_uC, yT_uC, yW_uC, yP_uC, yB_uC, yA_uC, yC_uT, yT_uT, yW_uT, yP_uT, yB_uT, yA_uT, yC_uA, yT_uA, yW_uA, yP_uA, yB_uA, yA_uA, yC_uW, yT_uW, yW_uW, yP_uW, yB_uW, yA_uW, yC_uP, yT_uP, yW_uP, yP_uP, yB_uP, yA_uP, h1, w1, w2, vfu_s, vfu_tw, uW_tw, iB]
  · by_cases h2 : yA y 11 c = nI 2
    · rw [show movB y c = true by unfold movB; rw [decide_eq_true h2, Bool.or_true], if_pos rfl, st]
      simp (disch := omega) only [u_78_12, u_78_13, u_78_16, u_78_17, u_78_18, u_78_19, u_78_22, u_78_23, u_78_26, u_78_27, u_78_28, u_78_29, u_78_32, u_78_33, u_78_36, u_78_37, u_78_38, u_78_41, u_78_42, u_78_43, u_78_45, u_78_46, u_78_47, u_78_48, u_78_51, u_78_52, u_78_53, u_78_56, u_78_57, u_78_58, u_78_60, u_78_61, u_78_62, u_78_63, u_78_64, gI0, gIs, gR0, gRs, gF0, gFs, st0, st_i, st_r, st_f, st_n, st_s, true_and, and_true, ↓ifLeT, ↓ifLeF, ↓ifLtT, ↓ifLtF, ↓ifEqT, ↓ifEqF, if_tt, if_ff, if_pos, if_neg, nLe, nLt, nEq, nInT, nCl, pk_mul, nI_add, Nat.reduceAdd, s_cat_nil, s_cat_i, s_cat_r, s_cat_f, s_cat_l, tl_s, tl_n, cat_i, cat_r, cat_f, nb0, nb1, nbI, if_bI, if_bIr, Nat.zero_le, Nat.reduceLeDiff, Y_g0, Y_g1, Y_g2, Y_g3, Y_g4, Y_g5, Y_g6, Y_g7, Y_g8, Y_g9, Y_g10, Y_g11, Y_g12, Y_g13, Y_g14, Y_g15, Y_g16, Y_g17, Y_g18, Y_g19, Y_a7, Y_a8, Y_a10, Y_a11, Y_a12, Y_a13, Y_a14, Y_a15, Y_a16, Y_a17, Y_a18, Y_sw, Y_w7, Y_w8, Y_w10, Y_w11, Y_w12, Y_w13, Y_w14, Y_w15, Y_w16, Y_w17, Y_w18, Y_wsw, yC_uS, yT_uS, yW_uS, yP_uS, yB_uS, yA_uS, yC_uC, yT_uC, yW_uC, yP_uC, yB_uC, yA_uC, yC_uT, yT_uT, yW_uT, yP_uT, yB_uT, yA_uT, yC_uA, yT_uA, yW_uA, yP_uA, yB_uA, yA_uA, yC_uW, yT_uW, yW_uW, yP_uW, yB_uW, yA_uW, yC_uP, yT_uP, yW_uP, yP_uP, yB_uP, yA_uP, h1, h2, w1, w2, vfu_s, vfu_tw, uW_tw, iB, reduceIte]
    · rw [show movB y c = false by unfold movB; rw [decide_eq_false h1, decide_eq_false h2]; rfl, if_neg (by decide), sf]
      simp (disch := omega) only [u_78_12, u_78_13, u_78_16, u_78_17, u_78_18, u_78_19, u_78_22, u_78_23, u_78_26, u_78_27, u_78_28, u_78_29, u_78_67, u_78_68, u_78_71, u_78_72, u_78_73, u_78_76, u_78_77, u_78_78, u_78_80, u_78_81, gI0, gIs, gR0, gRs, gF0, gFs, st0, st_i, st_r, st_f, st_n, st_s, true_and, and_true, ↓ifLeT, ↓ifLeF, ↓ifLtT, ↓ifLtF, ↓ifEqT, ↓ifEqF, if_tt, if_ff, if_pos, if_neg, nLe, nLt, nEq, nInT, nCl, pk_mul, nI_add, Nat.reduceAdd, s_cat_nil, s_cat_i, s_cat_r, s_cat_f, s_cat_l, tl_s, tl_n, cat_i, cat_r, cat_f, nb0, nb1, nbI, if_bI, if_bIr, Nat.zero_le, Nat.reduceLeDiff, Y_g0, Y_g1, Y_g2, Y_g3, Y_g4, Y_g5, Y_g6, Y_g7, Y_g8, Y_g9, Y_g10, Y_g11, Y_g12, Y_g13, Y_g14, Y_g15, Y_g16, Y_g17, Y_g18, Y_g19, Y_a7, Y_a8, Y_a10, Y_a11, Y_a12, Y_a13, Y_a14, Y_a15, Y_a16, Y_a17, Y_a18, Y_sw, Y_w7, Y_w8, Y_w10, Y_w11, Y_w12, Y_w13, Y_w14, Y_w15, Y_w16, Y_w17, Y_w18, Y_wsw, yC_uS, yT_uS, yW_uS, yP_uS, yB_uS, yA_uS, yC_uC, yT_uC, yW_uC, yP_uC, yB_uC, yA_uC, yC_uT, yT_uT, yW_uT, yP_uT, yB_uT, yA_uT, yC_uA, yT_uA, yW_uA, yP_uA, yB_uA, yA_uA, yC_uW, yT_uW, yW_uW, yP_uW, yB_uW, yA_uW, yC_uP, yT_uP, yW_uP, yP_uP, yB_uP, yA_uP, h1, h2, w3, reduceIte]
def wk0 (y : tY) (c : Nat) : tY := uA y 16 (upd (yA y 16) (yA y 10 c).toNatClampNeg (yA y 16 (yA y 10 c).toNatClampNeg + nI 1))
def wk1 (y : tY) (c : Nat) : tY := uA (uA (uS (wk0 y c) 6 (yB y 6 ||| (nI 1 <<< (yA y 10 c &&& 31)))) 17 (upd (yA y 17) (yA y 10 c).toNatClampNeg (yB y 4))) 18 (upd (yA y 18) (yA y 10 c).toNatClampNeg (nI c))
def wkY (y : tY) (c : Nat) : tY := if ¬ yA y 11 c = nI 4 then y else if yA y 10 c < nI 0 then y else if yA y 16 (yA y 10 c).toNatClampNeg + nI 1 < yA y 13 (yA y 10 c).toNatClampNeg then wk0 y c else wk1 y c
theorem swing_b {c : Nat} {s : Bool} {v3 : Value} (hc : c < 4) (hn : okN y c) : WP d 78 82 [.ref a, .int (iB s), .int (nI c), v3] [] (pY a y h) k Q ↔ WP d 78 4 [.ref a, .int (iB s), .int (nI (c + 1)), .int (yA y 10 c)] [] (pY a (wkY y c) h) k Q := by
  by_cases h1 : yA y 11 c = nI 4
  · by_cases h2 : yA y 10 c < nI 0
    · rw [show wkY y c = y by unfold wkY; rw [if_neg (fun z => z h1), if_pos h2]]
      simp (disch := omega) only [u_78_82, u_78_83, u_78_86, u_78_87, u_78_88, u_78_89, u_78_90, u_78_93, u_78_94, u_78_95, u_78_96, u_78_99, u_78_100, u_78_103, u_78_104, u_78_107, u_78_108, u_78_109, u_78_110, u_78_111, u_78_112, u_78_113, u_78_114, u_78_117, u_78_118, u_78_119, u_78_120, u_78_123, u_78_124, u_78_125, u_78_128, u_78_129, u_78_130, u_78_133, u_78_134, u_78_135, u_78_136, u_78_137, u_78_140, u_78_141, u_78_144, u_78_145, u_78_146, u_78_149, u_78_150, u_78_151, u_78_154, u_78_155, u_78_156, u_78_157, u_78_160, gI0, gIs, gR0, gRs, gF0, gFs, st0, st_i, st_r, st_f, st_n, st_s, true_and, and_true, ↓ifLeT, ↓ifLeF, ↓ifLtT, ↓ifLtF, ↓ifEqT, ↓ifEqF, if_tt, if_ff, if_pos, if_neg, nLe, nLt, nEq, nInT, nCl, pk_mul, nI_add, Nat.reduceAdd, s_cat_nil, s_cat_i, s_cat_r, s_cat_f, s_cat_l, tl_s, tl_n, cat_i, cat_r, cat_f, nb0, nb1, nbI, if_bI, if_bIr, Nat.zero_le, Nat.reduceLeDiff, Y_g0, Y_g1, Y_g2, Y_g3, Y_g4, Y_g5, Y_g6, Y_g7, Y_g8, Y_g9, Y_g10, Y_g11, Y_g12, Y_g13, Y_g14, Y_g15, Y_g16, Y_g17, Y_g18, Y_g19, Y_a7, Y_a8, Y_a10, Y_a11, Y_a12, Y_a13, Y_a14, Y_a15, Y_a16, Y_a17, Y_a18, Y_sw, h1, h2]
    · have hv := hn h2
      by_cases h3 : yA y 16 (yA y 10 c).toNatClampNeg + nI 1 < yA y 13 (yA y 10 c).toNatClampNeg
      · rw [show wkY y c = wk0 y c by unfold wkY; rw [if_neg (fun z => z h1), if_neg h2, if_pos h3]]
        simp (disch := omega) only [u_78_82, u_78_83, u_78_86, u_78_87, u_78_88, u_78_89, u_78_90, u_78_93, u_78_94, u_78_95, u_78_96, u_78_99, u_78_100, u_78_103, u_78_104, u_78_107, u_78_108, u_78_109, u_78_110, u_78_111, u_78_112, u_78_113, u_78_114, u_78_117, u_78_118, u_78_119, u_78_120, u_78_123, u_78_124, u_78_125, u_78_128, u_78_129, u_78_130, u_78_133, u_78_134, u_78_135, u_78_136, u_78_137, u_78_140, u_78_141, u_78_144, u_78_145, u_78_146, u_78_149, u_78_150, u_78_151, u_78_154, u_78_155, u_78_156, u_78_157, u_78_160, gI0, gIs, gR0, gRs, gF0, gFs, st0, st_i, st_r, st_f, st_n, st_s, true_and, and_true, ↓ifLeT, ↓ifLeF, ↓ifLtT, ↓ifLtF, ↓ifEqT, ↓ifEqF, if_tt, if_ff, if_pos, if_neg, nLe, nLt, nEq, nInT, nCl, pk_mul, nI_add, Nat.reduceAdd, s_cat_nil, s_cat_i, s_cat_r, s_cat_f, s_cat_l, tl_s, tl_n, cat_i, cat_r, cat_f, nb0, nb1, nbI, if_bI, if_bIr, Nat.zero_le, Nat.reduceLeDiff, Y_g0, Y_g1, Y_g2, Y_g3, Y_g4, Y_g5, Y_g6, Y_g7, Y_g8, Y_g9, Y_g10, Y_g11, Y_g12, Y_g13, Y_g14, Y_g15, Y_g16, Y_g17, Y_g18, Y_g19, Y_a7, Y_a8, Y_a10, Y_a11, Y_a12, Y_a13, Y_a14, Y_a15, Y_a16, Y_a17, Y_a18, Y_sw, Y_w7, Y_w8, Y_w10, Y_w11, Y_w12, Y_w13, Y_w14, Y_w15, Y_w16, Y_w17, Y_w18, Y_wsw, yC_uS, yT_uS, yW_uS, yP_uS, yB_uS, yA_uS, yC_uC, yT_uC, yW_uC, yP_uC, yB_uC, yA_uC, yC_uT, yT_uT, yW_uT, yP_uT, yB_uT, yA_uT, yC_uA, yT_uA, yW_uA, yP_uA, yB_uA, yA_uA, yC_uW, yT_uW, yW_uW, yP_uW, yB_uW, yA_uW, yC_uP, yT_uP, yW_uP, yP_uP, yB_uP, yA_uP, Nat.reduceEqDiff, reduceIte, h1, h2, hv, pk_us, h3]
        exact Iff.rfl
      · rw [show wkY y c = wk1 y c by unfold wkY; rw [if_neg (fun z => z h1), if_neg h2, if_neg h3]]
        simp (disch := omega) only [u_78_82, u_78_83, u_78_86, u_78_87, u_78_88, u_78_89, u_78_90, u_78_93, u_78_94, u_78_95, u_78_96, u_78_99, u_78_100, u_78_103, u_78_104, u_78_107, u_78_108, u_78_109, u_78_110, u_78_111, u_78_112, u_78_113, u_78_114, u_78_117, u_78_118, u_78_119, u_78_120, u_78_123, u_78_124, u_78_125, u_78_128, u_78_129, u_78_130, u_78_133, u_78_134, u_78_135, u_78_136, u_78_137, u_78_140, u_78_141, u_78_144, u_78_145, u_78_146, u_78_149, u_78_150, u_78_151, u_78_154, u_78_155, u_78_156, u_78_157, u_78_160, gI0, gIs, gR0, gRs, gF0, gFs, st0, st_i, st_r, st_f, st_n, st_s, true_and, and_true, ↓ifLeT, ↓ifLeF, ↓ifLtT, ↓ifLtF, ↓ifEqT, ↓ifEqF, if_tt, if_ff, if_pos, if_neg, nLe, nLt, nEq, nInT, nCl, pk_mul, nI_add, Nat.reduceAdd, s_cat_nil, s_cat_i, s_cat_r, s_cat_f, s_cat_l, tl_s, tl_n, cat_i, cat_r, cat_f, nb0, nb1, nbI, if_bI, if_bIr, Nat.zero_le, Nat.reduceLeDiff, Y_g0, Y_g1, Y_g2, Y_g3, Y_g4, Y_g5, Y_g6, Y_g7, Y_g8, Y_g9, Y_g10, Y_g11, Y_g12, Y_g13, Y_g14, Y_g15, Y_g16, Y_g17, Y_g18, Y_g19, Y_s0, Y_s1, Y_s2, Y_s3, Y_s4, Y_s5, Y_s6, Y_a7, Y_a8, Y_a10, Y_a11, Y_a12, Y_a13, Y_a14, Y_a15, Y_a16, Y_a17, Y_a18, Y_sw, Y_w7, Y_w8, Y_w10, Y_w11, Y_w12, Y_w13, Y_w14, Y_w15, Y_w16, Y_w17, Y_w18, Y_wsw, yC_uS, yT_uS, yW_uS, yP_uS, yB_uS, yA_uS, yC_uC, yT_uC, yW_uC, yP_uC, yB_uC, yA_uC, yC_uT, yT_uT, yW_uT, yP_uT, yB_uT, yA_uT, yC_uA, yT_uA, yW_uA, yP_uA, yB_uA, yA_uA, yC_uW, yT_uW, yW_uW, yP_uW, yB_uW, yA_uW, yC_uP, yT_uP, yW_uP, yP_uP, yB_uP, yA_uP, Nat.reduceEqDiff, reduceIte, h1, h2, hv, pk_us, h3]
        exact Iff.rfl
  · rw [show wkY y c = y by unfold wkY; rw [if_pos h1]]
    simp (disch := omega) only [u_78_82, u_78_83, u_78_86, u_78_87, u_78_88, u_78_89, u_78_90, u_78_93, u_78_94, u_78_95, u_78_96, u_78_99, u_78_100, u_78_103, u_78_104, u_78_107, u_78_108, u_78_109, u_78_110, u_78_111, u_78_112, u_78_113, u_78_114, u_78_117, u_78_118, u_78_119, u_78_120, u_78_123, u_78_124, u_78_125, u_78_128, u_78_129, u_78_130, u_78_133, u_78_134, u_78_135, u_78_136, u_78_137, u_78_140, u_78_141, u_78_144, u_78_145, u_78_146, u_78_149, u_78_150, u_78_151, u_78_154, u_78_155, u_78_156, u_78_157, u_78_160, gI0, gIs, gR0, gRs, gF0, gFs, st0, st_i, st_r, st_f, st_n, st_s, true_and, and_true, ↓ifLeT, ↓ifLeF, ↓ifLtT, ↓ifLtF, ↓ifEqT, ↓ifEqF, if_tt, if_ff, if_pos, if_neg, nLe, nLt, nEq, nInT, nCl, pk_mul, nI_add, Nat.reduceAdd, s_cat_nil, s_cat_i, s_cat_r, s_cat_f, s_cat_l, tl_s, tl_n, cat_i, cat_r, cat_f, nb0, nb1, nbI, if_bI, if_bIr, Nat.zero_le, Nat.reduceLeDiff, Y_g0, Y_g1, Y_g2, Y_g3, Y_g4, Y_g5, Y_g6, Y_g7, Y_g8, Y_g9, Y_g10, Y_g11, Y_g12, Y_g13, Y_g14, Y_g15, Y_g16, Y_g17, Y_g18, Y_g19, Y_a7, Y_a8, Y_a10, Y_a11, Y_a12, Y_a13, Y_a14, Y_a15, Y_a16, Y_a17, Y_a18, Y_sw, h1, reduceIte]
def sw2 (c : Nat) (y : tY) : tY := wkY (sw1 y c) c
theorem wkY_C {c : Nat} : yC (wkY y c) = yC y := by unfold wkY; split; rfl; split; rfl; split <;> rfl
theorem wkY_10 {c : Nat} : yA (wkY y c) 10 = yA y 10 := by unfold wkY; split; rfl; split; rfl; split <;> rfl
theorem wkY_11 {c : Nat} : yA (wkY y c) 11 = yA y 11 := by unfold wkY; split; rfl; split; rfl; split <;> rfl
theorem wkY_W {c : Nat} : yW (wkY y c) = yW y := by unfold wkY; split; rfl; split; rfl; split <;> rfl
theorem sw2_C {c : Nat} : yC (sw2 c y) = yC y := wkY_C
theorem sw2_10 {c : Nat} : yA (sw2 c y) 10 = yA y 10 := wkY_10
theorem sw2_11 {c : Nat} : yA (sw2 c y) 11 = yA y 11 := wkY_11
theorem sw2_W {c q : Nat} (h : q ≠ c) : yW (sw2 c y) q = yW y q := by
  unfold sw2
  rw [wkY_W]
  show vf_upd (yW y) c _ q = _
  unfold vf_upd
  rw [if_neg h]
theorem sw1_N {c q : Nat} (h : okN y q) : okN (sw1 y c) q := h
theorem sw2_N {c q : Nat} (h : okN y q) : okN (sw2 c y) q := by
  unfold okN at *
  rw [sw2_10]
  exact h
theorem swing_lp : ∀ n i s y v3, i + n = yC y → yC y ≤ 4 → (∀ c, c < yC y → okN y c) → (∀ c, i ≤ c → c < yC y → nice (yW y c)) → (WP d 78 4 [.ref a, .int (iB s), .int (nI i), v3] [] (pY a y h) k Q ↔ Q (some (.int (iB (iter (fun c s => s || movB y c) i n s)))) (pY a (iter sw2 i n y) h)) := by
  intro n
  induction n with
  | zero =>
    intro i s y v3 hi hC hn hw
    have e : i = yC y := by omega
    subst e
    simp (disch := omega) only [u_78_4, u_78_5, u_78_6, u_78_9, u_78_163, u_78_164, gI0, gIs, gR0, gRs, gF0, gFs, st0, st_i, st_r, st_f, st_n, st_s, true_and, and_true, ↓ifLeT, ↓ifLeF, ↓ifLtT, ↓ifLtF, ↓ifEqT, ↓ifEqF, if_tt, if_ff, if_pos, if_neg, nLe, nLt, nEq, nInT, nCl, pk_mul, nI_add, Nat.reduceAdd, s_cat_nil, s_cat_i, s_cat_r, s_cat_f, s_cat_l, tl_s, tl_n, cat_i, cat_r, cat_f, nb0, nb1, nbI, if_bI, if_bIr, Nat.zero_le, Nat.reduceLeDiff, Y_g0, Y_g1, Y_g2, Y_g3, Y_g4, Y_g5, Y_g6, Y_g7, Y_g8, Y_g9, Y_g10, Y_g11, Y_g12, Y_g13, Y_g14, Y_g15, Y_g16, Y_g17, Y_g18, Y_g19, iter, Nat.le_refl, nbB]
  | succ n ih =>
    intro i s y v3 hi hC hn hw
    rw [u_78_4]
    simp (disch := omega) only [u_78_5, u_78_6, u_78_9, gI0, gIs, gR0, gRs, gF0, gFs, st0, st_i, st_r, st_f, st_n, st_s, true_and, and_true, ↓ifLeT, ↓ifLeF, ↓ifLtT, ↓ifLtF, ↓ifEqT, ↓ifEqF, if_tt, if_ff, if_pos, if_neg, nLe, nLt, nEq, nInT, nCl, pk_mul, nI_add, Nat.reduceAdd, s_cat_nil, s_cat_i, s_cat_r, s_cat_f, s_cat_l, tl_s, tl_n, cat_i, cat_r, cat_f, nb0, nb1, nbI, if_bI, if_bIr, Nat.zero_le, Nat.reduceLeDiff, Y_g0, Y_g1, Y_g2, Y_g3, Y_g4, Y_g5, Y_g6, Y_g7, Y_g8, Y_g9, Y_g10, Y_g11, Y_g12, Y_g13, Y_g14, Y_g15, Y_g16, Y_g17, Y_g18, Y_g19]
    rw [swing_a (by omega) (hw i (Nat.le_refl _) (by omega)), swing_b (by omega) (sw1_N (hn i (by omega)))]
    have e := ih (i + 1) (s || movB y i) (sw2 i y) (.int (yA (sw1 y i) 10 i)) (by rw [sw2_C]; omega) (by rw [sw2_C]; exact hC) (fun c hc => sw2_N (hn c (by rw [sw2_C] at hc; exact hc))) (fun c h1 h2 => by rw [sw2_W (by omega)]; exact hw c (by omega) (by rw [sw2_C] at h2; exact h2))
    refine e.trans ?_
    have e2 : (fun c s => s || movB (sw2 i y) c) = fun c s => s || movB y c := by
      funext c s
      unfold movB
      rw [sw2_11]
    rw [e2]
    exact Iff.rfl
def swY (y : tY) : tY := iter sw2 0 (yC y) y
def stirW (y : tY) : Bool := iter (fun c s => s || movB y c) 0 (yC y) false
theorem m_swing (hC : yC y ≤ 4) (hn : ∀ c, c < yC y → okN y c) (hw : ∀ c, c < yC y → nice (yW y c)) : MT (d + 1) 78 [.ref a] (pY a y h) Q ↔ Q (some (.int (iB (stirW y)))) (pY a (swY y) h) := by
  rw [MT_go (by decide) _ _ _ (Nat.le_of_ble_eq_true rfl), show s_entry 78 [.ref a] = [.ref a, s_no, s_no, s_no] from rfl]
  have e := swing_lp (d := d) (a := a) (h := h) (k := (0, 0)) (Q := Q) (yC y) 0 false y s_no (by omega) hC hn (fun c _ hc => hw c hc)
  simp (disch := omega) only [u_78_0, u_78_1, u_78_2, u_78_3, gI0, gIs, gR0, gRs, gF0, gFs, st0, st_i, st_r, st_f, st_n, st_s, true_and, and_true, ↓ifLeT, ↓ifLeF, ↓ifLtT, ↓ifLtF, ↓ifEqT, ↓ifEqF, if_tt, if_ff, if_pos, if_neg, nLe, nLt, nEq, nInT, nCl, pk_mul, nI_add, Nat.reduceAdd, s_cat_nil, s_cat_i, s_cat_r, s_cat_f, s_cat_l, tl_s, tl_n, cat_i, cat_r, cat_f, nb0, nb1, nbI, if_bI, if_bIr, Nat.zero_le, Nat.reduceLeDiff]
  exact e
end YV
