/-! Yard: a step -/
section YT
variable {a d : Nat} {y : tY} {h : sH} {k : sK} {Q : sQ} {i x w : Int32}
def stillB (y : tY) (p : Nat) : Bool := decide (yA y 11 p = nI 3) || (decide (yA y 11 p = nI 0) && decide (bitS (yB y 5) (nI p) = nI 0))
def roomB (y : tY) (w : Int32) (p : Nat) : Bool := decide (nI 0 ≤ yA y 7 p + w) && decide (yA y 7 p + w < yB y 0)
def goB (y : tY) (w : Int32) (p : Nat) : Bool := stillB y p && roomB y w p
def freeB (y : tY) (w : Int32) (p b : Nat) : Bool := decide (yB y 1 ≤ (yA y 7 b - (yA y 7 p + w)) * w)
theorem step_a {p m : Nat} {c t : Int32} {v7 v8 v9 : Value} (hp : p < 4) (hpC : p < yC y) (hC : yC y ≤ 4) : WP d 77 57 [.ref a, .int c, .int t, .int w, .int (nI m), .int (nI 0), .int (nI p), v7, v8, v9] [] (pY a y h) k Q ↔ WP d 77 116 [.ref a, .int c, .int t, .int w, .int (nI m), .int (nI 0), .int (nI p), .int (iB (stillB y p)), v8, v9] [] (pY a y h) k Q := by
  unfold stillB
  by_cases h1 : yA y 11 p = nI 3
  · rw [decide_eq_true h1, Bool.true_or]
    simp (disch := omega) only [u_77_57, u_77_59, u_77_62, u_77_64, u_77_65, u_77_68, u_77_71, u_77_73, u_77_76, u_77_77, u_77_80, u_77_82, u_77_83, u_77_84, u_77_87, u_77_88, u_77_91, u_77_93, u_77_94, u_77_97, u_77_98, u_77_101, u_77_103, u_77_104, u_77_105, u_77_106, u_77_109, u_77_110, u_77_113, u_77_114, gI0, gIs, gR0, gRs, gF0, gFs, st0, st_i, st_r, st_f, st_n, st_s, true_and, and_true, ↓ifLeT, ↓ifLeF, ↓ifLtT, ↓ifLtF, ↓ifEqT, ↓ifEqF, if_tt, if_ff, if_pos, if_neg, nLe, nLt, nEq, nInT, nCl, pk_mul, nI_add, Nat.reduceAdd, s_cat_nil, s_cat_i, s_cat_r, s_cat_f, s_cat_l, tl_s, tl_n, cat_i, cat_r, cat_f, nb0, nb1, nbI, if_bI, if_bIr, Nat.zero_le, Nat.reduceLeDiff, Y_g0, Y_g1, Y_g2, Y_g3, Y_g4, Y_g5, Y_g6, Y_g7, Y_g8, Y_g9, Y_g10, Y_g11, Y_g12, Y_g13, Y_g14, Y_g15, Y_g16, Y_g17, Y_g18, Y_g19, Y_a7, Y_a8, Y_a10, Y_a11, Y_a12, Y_a13, Y_a14, Y_a15, Y_a16, Y_a17, Y_a18, Y_sw, h1, iB]
  · by_cases h2 : yA y 11 p = nI 0
    · by_cases h3 : bitS (yB y 5) (nI p) = nI 0
      · rw [decide_eq_false h1, decide_eq_true h2, decide_eq_true h3]
        unfold bitS at h3
        simp (disch := omega) only [u_77_57, u_77_59, u_77_62, u_77_64, u_77_65, u_77_68, u_77_71, u_77_73, u_77_76, u_77_77, u_77_80, u_77_82, u_77_83, u_77_84, u_77_87, u_77_88, u_77_91, u_77_93, u_77_94, u_77_97, u_77_98, u_77_101, u_77_103, u_77_104, u_77_105, u_77_106, u_77_109, u_77_110, u_77_113, u_77_114, gI0, gIs, gR0, gRs, gF0, gFs, st0, st_i, st_r, st_f, st_n, st_s, true_and, and_true, ↓ifLeT, ↓ifLeF, ↓ifLtT, ↓ifLtF, ↓ifEqT, ↓ifEqF, if_tt, if_ff, if_pos, if_neg, nLe, nLt, nEq, nInT, nCl, pk_mul, nI_add, Nat.reduceAdd, s_cat_nil, s_cat_i, s_cat_r, s_cat_f, s_cat_l, tl_s, tl_n, cat_i, cat_r, cat_f, nb0, nb1, nbI, if_bI, if_bIr, Nat.zero_le, Nat.reduceLeDiff, Y_g0, Y_g1, Y_g2, Y_g3, Y_g4, Y_g5, Y_g6, Y_g7, Y_g8, Y_g9, Y_g10, Y_g11, Y_g12, Y_g13, Y_g14, Y_g15, Y_g16, Y_g17, Y_g18, Y_g19, Y_a7, Y_a8, Y_a10, Y_a11, Y_a12, Y_a13, Y_a14, Y_a15, Y_a16, Y_a17, Y_a18, Y_sw, h1, h2, h3, reduceIte, Bool.true_and, Bool.false_or, iB]
      · rw [decide_eq_false h1, decide_eq_true h2, decide_eq_false h3]
        unfold bitS at h3
        simp (disch := omega) only [u_77_57, u_77_59, u_77_62, u_77_64, u_77_65, u_77_68, u_77_71, u_77_73, u_77_76, u_77_77, u_77_80, u_77_82, u_77_83, u_77_84, u_77_87, u_77_88, u_77_91, u_77_93, u_77_94, u_77_97, u_77_98, u_77_101, u_77_103, u_77_104, u_77_105, u_77_106, u_77_109, u_77_110, u_77_113, u_77_114, gI0, gIs, gR0, gRs, gF0, gFs, st0, st_i, st_r, st_f, st_n, st_s, true_and, and_true, ↓ifLeT, ↓ifLeF, ↓ifLtT, ↓ifLtF, ↓ifEqT, ↓ifEqF, if_tt, if_ff, if_pos, if_neg, nLe, nLt, nEq, nInT, nCl, pk_mul, nI_add, Nat.reduceAdd, s_cat_nil, s_cat_i, s_cat_r, s_cat_f, s_cat_l, tl_s, tl_n, cat_i, cat_r, cat_f, nb0, nb1, nbI, if_bI, if_bIr, Nat.zero_le, Nat.reduceLeDiff, Y_g0, Y_g1, Y_g2, Y_g3, Y_g4, Y_g5, Y_g6, Y_g7, Y_g8, Y_g9, Y_g10, Y_g11, Y_g12, Y_g13, Y_g14, Y_g15, Y_g16, Y_g17, Y_g18, Y_g19, Y_a7, Y_a8, Y_a10, Y_a11, Y_a12, Y_a13, Y_a14, Y_a15, Y_a16, Y_a17, Y_a18, Y_sw, h1, h2, h3, reduceIte, Bool.and_false, Bool.false_or, iB]
    · rw [decide_eq_false h1, decide_eq_false h2]
      simp (disch := omega) only [u_77_57, u_77_59, u_77_62, u_77_64, u_77_65, u_77_68, u_77_71, u_77_73, u_77_76, u_77_77, u_77_80, u_77_82, u_77_83, u_77_84, u_77_87, u_77_88, u_77_91, u_77_93, u_77_94, u_77_97, u_77_98, u_77_101, u_77_103, u_77_104, u_77_105, u_77_106, u_77_109, u_77_110, u_77_113, u_77_114, gI0, gIs, gR0, gRs, gF0, gFs, st0, st_i, st_r, st_f, st_n, st_s, true_and, and_true, ↓ifLeT, ↓ifLeF, ↓ifLtT, ↓ifLtF, ↓ifEqT, ↓ifEqF, if_tt, if_ff, if_pos, if_neg, nLe, nLt, nEq, nInT, nCl, pk_mul, nI_add, Nat.reduceAdd, s_cat_nil, s_cat_i, s_cat_r, s_cat_f, s_cat_l, tl_s, tl_n, cat_i, cat_r, cat_f, nb0, nb1, nbI, if_bI, if_bIr, Nat.zero_le, Nat.reduceLeDiff, Y_g0, Y_g1, Y_g2, Y_g3, Y_g4, Y_g5, Y_g6, Y_g7, Y_g8, Y_g9, Y_g10, Y_g11, Y_g12, Y_g13, Y_g14, Y_g15, Y_g16, Y_g17, Y_g18, Y_g19, Y_a7, Y_a8, Y_a10, Y_a11, Y_a12, Y_a13, Y_a14, Y_a15, Y_a16, Y_a17, Y_a18, Y_sw, h1, h2, reduceIte, Bool.false_and, Bool.false_or, iB]
theorem step_b {p m : Nat} {c t : Int32} {v8 v9 : Value} (hp : p < 4) : WP d 77 116 [.ref a, .int c, .int t, .int w, .int (nI m), .int (nI 0), .int (nI p), .int (iB (stillB y p)), v8, v9] [] (pY a y h) k Q ↔ if goB y w p then WP d 77 147 [.ref a, .int c, .int t, .int w, .int (nI m), .int (nI 0), .int (nI p), .int (iB (stillB y p)), .int (yA y 7 p + w), v9] [] (pY a y h) k Q else Q none (pY a y h) := by
  unfold goB roomB
  cases hs : stillB y p with
  | false => simp (disch := omega) only [u_77_116, u_77_117, u_77_120, u_77_122, u_77_123, u_77_124, u_77_125, u_77_127, u_77_129, u_77_132, u_77_134, u_77_137, u_77_139, u_77_140, u_77_143, u_77_146, gI0, gIs, gR0, gRs, gF0, gFs, st0, st_i, st_r, st_f, st_n, st_s, true_and, and_true, ↓ifLeT, ↓ifLeF, ↓ifLtT, ↓ifLtF, ↓ifEqT, ↓ifEqF, if_tt, if_ff, if_pos, if_neg, nLe, nLt, nEq, nInT, nCl, pk_mul, nI_add, Nat.reduceAdd, s_cat_nil, s_cat_i, s_cat_r, s_cat_f, s_cat_l, tl_s, tl_n, cat_i, cat_r, cat_f, nb0, nb1, nbI, if_bI, if_bIr, Nat.zero_le, Nat.reduceLeDiff, Y_g0, Y_g1, Y_g2, Y_g3, Y_g4, Y_g5, Y_g6, Y_g7, Y_g8, Y_g9, Y_g10, Y_g11, Y_g12, Y_g13, Y_g14, Y_g15, Y_g16, Y_g17, Y_g18, Y_g19, Y_a7, Y_a8, Y_a10, Y_a11, Y_a12, Y_a13, Y_a14, Y_a15, Y_a16, Y_a17, Y_a18, Y_sw, iB, Bool.false_and, reduceIte, Bool.false_eq_true]
  | true =>
    simp (disch := omega) only [u_77_116, u_77_117, u_77_120, u_77_122, u_77_123, u_77_124, u_77_125, u_77_127, u_77_129, u_77_132, u_77_134, u_77_137, gI0, gIs, gR0, gRs, gF0, gFs, st0, st_i, st_r, st_f, st_n, st_s, true_and, and_true, ↓ifLeT, ↓ifLeF, ↓ifLtT, ↓ifLtF, ↓ifEqT, ↓ifEqF, if_tt, if_ff, if_pos, if_neg, nLe, nLt, nEq, nInT, nCl, pk_mul, nI_add, Nat.reduceAdd, s_cat_nil, s_cat_i, s_cat_r, s_cat_f, s_cat_l, tl_s, tl_n, cat_i, cat_r, cat_f, nb0, nb1, nbI, if_bI, if_bIr, Nat.zero_le, Nat.reduceLeDiff, Y_g0, Y_g1, Y_g2, Y_g3, Y_g4, Y_g5, Y_g6, Y_g7, Y_g8, Y_g9, Y_g10, Y_g11, Y_g12, Y_g13, Y_g14, Y_g15, Y_g16, Y_g17, Y_g18, Y_g19, Y_a7, Y_a8, Y_a10, Y_a11, Y_a12, Y_a13, Y_a14, Y_a15, Y_a16, Y_a17, Y_a18, Y_sw, iB, Bool.true_and, nI10, reduceIte, Bool.and_eq_true, decide_eq_true_eq]
    by_cases h1 : yA y 7 p + w < nI 0
    · rw [if_pos h1, if_neg (fun z => Int32.not_le.mpr h1 z.1)]
      simp (disch := omega) only [u_77_146, gI0, gIs, gR0, gRs, gF0, gFs, st0, st_i, st_r, st_f, st_n, st_s, true_and, and_true, ↓ifLeT, ↓ifLeF, ↓ifLtT, ↓ifLtF, ↓ifEqT, ↓ifEqF, if_tt, if_ff, if_pos, if_neg, nLe, nLt, nEq, nInT, nCl, pk_mul, nI_add, Nat.reduceAdd, s_cat_nil, s_cat_i, s_cat_r, s_cat_f, s_cat_l, tl_s, tl_n, cat_i, cat_r, cat_f, nb0, nb1, nbI, if_bI, if_bIr, Nat.zero_le, Nat.reduceLeDiff]
    · rw [if_neg h1]
      simp (disch := omega) only [u_77_137, u_77_139, u_77_140, u_77_143, gI0, gIs, gR0, gRs, gF0, gFs, st0, st_i, st_r, st_f, st_n, st_s, true_and, and_true, ↓ifLeT, ↓ifLeF, ↓ifLtT, ↓ifLtF, ↓ifEqT, ↓ifEqF, if_tt, if_ff, if_pos, if_neg, nLe, nLt, nEq, nInT, nCl, pk_mul, nI_add, Nat.reduceAdd, s_cat_nil, s_cat_i, s_cat_r, s_cat_f, s_cat_l, tl_s, tl_n, cat_i, cat_r, cat_f, nb0, nb1, nbI, if_bI, if_bIr, Nat.zero_le, Nat.reduceLeDiff, Y_g0, Y_g1, Y_g2, Y_g3, Y_g4, Y_g5, Y_g6, Y_g7, Y_g8, Y_g9, Y_g10, Y_g11, Y_g12, Y_g13, Y_g14, Y_g15, Y_g16, Y_g17, Y_g18, Y_g19]
      by_cases h2 : yA y 7 p + w < yB y 0
      · rw [if_pos h2, if_pos ⟨Int32.not_lt.mp h1, h2⟩]
      · rw [if_neg h2, if_neg (fun z => h2 z.2)]
        simp (disch := omega) only [u_77_146, gI0, gIs, gR0, gRs, gF0, gFs, st0, st_i, st_r, st_f, st_n, st_s, true_and, and_true, ↓ifLeT, ↓ifLeF, ↓ifLtT, ↓ifLtF, ↓ifEqT, ↓ifEqF, if_tt, if_ff, if_pos, if_neg, nLe, nLt, nEq, nInT, nCl, pk_mul, nI_add, Nat.reduceAdd, s_cat_nil, s_cat_i, s_cat_r, s_cat_f, s_cat_l, tl_s, tl_n, cat_i, cat_r, cat_f, nb0, nb1, nbI, if_bI, if_bIr, Nat.zero_le, Nat.reduceLeDiff]
theorem up_c {p m : Nat} {c t s7 : Int32} {v9 : Value} (hp : p < yC y) (hC : yC y ≤ 4) (hm : m < 4) : WP d 77 147 [.ref a, .int c, .int t, .int (nI 1), .int (nI m), .int (nI 0), .int (nI p), .int s7, .int (yA y 7 p + nI 1), v9] [] (pY a y h) k Q ↔ WP d 77 57 [.ref a, .int c, .int t, .int (nI 1), .int (nI (m + 1)), .int (iB (decide (p + 1 = yC y) || freeB y (nI 1) p (p + 1))), .int (nI (p + 1)), .int s7, .int (yA y 7 p + nI 1), .int (nI (p + 1))] [] (pY a y h) k Q := by
  by_cases h1 : p + 1 = yC y
  · rw [decide_eq_true h1, Bool.true_or]
    simp (disch := omega) only [u_77_147, u_77_149, u_77_150, u_77_151, u_77_153, u_77_155, u_77_158, u_77_160, u_77_161, u_77_164, u_77_167, u_77_168, u_77_171, u_77_173, u_77_174, u_77_176, u_77_177, u_77_178, u_77_179, u_77_180, u_77_183, u_77_186, u_77_187, u_77_190, u_77_191, u_77_193, u_77_196, u_77_198, u_77_199, u_77_200, u_77_202, gI0, gIs, gR0, gRs, gF0, gFs, st0, st_i, st_r, st_f, st_n, st_s, true_and, and_true, ↓ifLeT, ↓ifLeF, ↓ifLtT, ↓ifLtF, ↓ifEqT, ↓ifEqF, if_tt, if_ff, if_pos, if_neg, nLe, nLt, nEq, nInT, nCl, pk_mul, nI_add, Nat.reduceAdd, s_cat_nil, s_cat_i, s_cat_r, s_cat_f, s_cat_l, tl_s, tl_n, cat_i, cat_r, cat_f, nb0, nb1, nbI, if_bI, if_bIr, Nat.zero_le, Nat.reduceLeDiff, Y_g0, Y_g1, Y_g2, Y_g3, Y_g4, Y_g5, Y_g6, Y_g7, Y_g8, Y_g9, Y_g10, Y_g11, Y_g12, Y_g13, Y_g14, Y_g15, Y_g16, Y_g17, Y_g18, Y_g19, Y_a7, Y_a8, Y_a10, Y_a11, Y_a12, Y_a13, Y_a14, Y_a15, Y_a16, Y_a17, Y_a18, Y_sw, iB]
  · rw [decide_eq_false h1, Bool.false_or]
    unfold freeB
    by_cases h2 : yB y 1 ≤ (yA y 7 (p + 1) - (yA y 7 p + nI 1)) * nI 1
    · rw [decide_eq_true h2]
      simp (disch := omega) only [u_77_147, u_77_149, u_77_150, u_77_151, u_77_153, u_77_155, u_77_158, u_77_160, u_77_161, u_77_164, u_77_167, u_77_168, u_77_171, u_77_173, u_77_174, u_77_176, u_77_177, u_77_178, u_77_179, u_77_180, u_77_183, u_77_186, u_77_187, u_77_190, u_77_191, u_77_193, u_77_196, u_77_198, u_77_199, u_77_200, u_77_202, gI0, gIs, gR0, gRs, gF0, gFs, st0, st_i, st_r, st_f, st_n, st_s, true_and, and_true, ↓ifLeT, ↓ifLeF, ↓ifLtT, ↓ifLtF, ↓ifEqT, ↓ifEqF, if_tt, if_ff, if_pos, if_neg, nLe, nLt, nEq, nInT, nCl, pk_mul, nI_add, Nat.reduceAdd, s_cat_nil, s_cat_i, s_cat_r, s_cat_f, s_cat_l, tl_s, tl_n, cat_i, cat_r, cat_f, nb0, nb1, nbI, if_bI, if_bIr, Nat.zero_le, Nat.reduceLeDiff, Y_g0, Y_g1, Y_g2, Y_g3, Y_g4, Y_g5, Y_g6, Y_g7, Y_g8, Y_g9, Y_g10, Y_g11, Y_g12, Y_g13, Y_g14, Y_g15, Y_g16, Y_g17, Y_g18, Y_g19, Y_a7, Y_a8, Y_a10, Y_a11, Y_a12, Y_a13, Y_a14, Y_a15, Y_a16, Y_a17, Y_a18, Y_sw, iB, if_neg (Int32.not_lt.mpr h2)]
    · rw [decide_eq_false h2]
      simp (disch := omega) only [u_77_147, u_77_149, u_77_150, u_77_151, u_77_153, u_77_155, u_77_158, u_77_160, u_77_161, u_77_164, u_77_167, u_77_168, u_77_171, u_77_173, u_77_174, u_77_176, u_77_177, u_77_178, u_77_179, u_77_180, u_77_183, u_77_186, u_77_187, u_77_190, u_77_191, u_77_193, u_77_196, u_77_198, u_77_199, u_77_200, u_77_202, gI0, gIs, gR0, gRs, gF0, gFs, st0, st_i, st_r, st_f, st_n, st_s, true_and, and_true, ↓ifLeT, ↓ifLeF, ↓ifLtT, ↓ifLtF, ↓ifEqT, ↓ifEqF, if_tt, if_ff, if_pos, if_neg, nLe, nLt, nEq, nInT, nCl, pk_mul, nI_add, Nat.reduceAdd, s_cat_nil, s_cat_i, s_cat_r, s_cat_f, s_cat_l, tl_s, tl_n, cat_i, cat_r, cat_f, nb0, nb1, nbI, if_bI, if_bIr, Nat.zero_le, Nat.reduceLeDiff, Y_g0, Y_g1, Y_g2, Y_g3, Y_g4, Y_g5, Y_g6, Y_g7, Y_g8, Y_g9, Y_g10, Y_g11, Y_g12, Y_g13, Y_g14, Y_g15, Y_g16, Y_g17, Y_g18, Y_g19, Y_a7, Y_a8, Y_a10, Y_a11, Y_a12, Y_a13, Y_a14, Y_a15, Y_a16, Y_a17, Y_a18, Y_sw, iB, if_pos (Int32.not_le.mp h2)]
theorem dn_c {q m : Nat} {c t s7 : Int32} {v9 : Value} (hp : q + 1 < yC y) (hC : yC y ≤ 4) (hm : m < 4) : WP d 77 147 [.ref a, .int c, .int t, .int (-1), .int (nI m), .int (nI 0), .int (nI (q + 1)), .int s7, .int (yA y 7 (q + 1) + (-1)), v9] [] (pY a y h) k Q ↔ WP d 77 57 [.ref a, .int c, .int t, .int (-1), .int (nI (m + 1)), .int (iB (freeB y (-1) (q + 1) q)), .int (nI q), .int s7, .int (yA y 7 (q + 1) + (-1)), .int (nI q)] [] (pY a y h) k Q := by
  unfold freeB
  by_cases h2 : yB y 1 ≤ (yA y 7 q - (yA y 7 (q + 1) + (-1))) * (-1)
  · rw [decide_eq_true h2]
    simp (disch := omega) only [u_77_147, u_77_149, u_77_150, u_77_151, u_77_153, u_77_155, u_77_158, u_77_160, u_77_161, u_77_164, u_77_167, u_77_168, u_77_171, u_77_173, u_77_174, u_77_176, u_77_177, u_77_178, u_77_179, u_77_180, u_77_183, u_77_186, u_77_187, u_77_190, u_77_191, u_77_193, u_77_196, u_77_198, u_77_199, u_77_200, u_77_202, gI0, gIs, gR0, gRs, gF0, gFs, st0, st_i, st_r, st_f, st_n, st_s, true_and, and_true, ↓ifLeT, ↓ifLeF, ↓ifLtT, ↓ifLtF, ↓ifEqT, ↓ifEqF, if_tt, if_ff, if_pos, if_neg, nLe, nLt, nEq, nInT, nCl, pk_mul, nI_add, Nat.reduceAdd, s_cat_nil, s_cat_i, s_cat_r, s_cat_f, s_cat_l, tl_s, tl_n, cat_i, cat_r, cat_f, nb0, nb1, nbI, if_bI, if_bIr, Nat.zero_le, Nat.reduceLeDiff, Y_g0, Y_g1, Y_g2, Y_g3, Y_g4, Y_g5, Y_g6, Y_g7, Y_g8, Y_g9, Y_g10, Y_g11, Y_g12, Y_g13, Y_g14, Y_g15, Y_g16, Y_g17, Y_g18, Y_g19, Y_a7, Y_a8, Y_a10, Y_a11, Y_a12, Y_a13, Y_a14, Y_a15, Y_a16, Y_a17, Y_a18, Y_sw, iB, pk_m1, if_neg (Int32.not_lt.mpr h2)]
  · rw [decide_eq_false h2]
    simp (disch := omega) only [u_77_147, u_77_149, u_77_150, u_77_151, u_77_153, u_77_155, u_77_158, u_77_160, u_77_161, u_77_164, u_77_167, u_77_168, u_77_171, u_77_173, u_77_174, u_77_176, u_77_177, u_77_178, u_77_179, u_77_180, u_77_183, u_77_186, u_77_187, u_77_190, u_77_191, u_77_193, u_77_196, u_77_198, u_77_199, u_77_200, u_77_202, gI0, gIs, gR0, gRs, gF0, gFs, st0, st_i, st_r, st_f, st_n, st_s, true_and, and_true, ↓ifLeT, ↓ifLeF, ↓ifLtT, ↓ifLtF, ↓ifEqT, ↓ifEqF, if_tt, if_ff, if_pos, if_neg, nLe, nLt, nEq, nInT, nCl, pk_mul, nI_add, Nat.reduceAdd, s_cat_nil, s_cat_i, s_cat_r, s_cat_f, s_cat_l, tl_s, tl_n, cat_i, cat_r, cat_f, nb0, nb1, nbI, if_bI, if_bIr, Nat.zero_le, Nat.reduceLeDiff, Y_g0, Y_g1, Y_g2, Y_g3, Y_g4, Y_g5, Y_g6, Y_g7, Y_g8, Y_g9, Y_g10, Y_g11, Y_g12, Y_g13, Y_g14, Y_g15, Y_g16, Y_g17, Y_g18, Y_g19, Y_a7, Y_a8, Y_a10, Y_a11, Y_a12, Y_a13, Y_a14, Y_a15, Y_a16, Y_a17, Y_a18, Y_sw, iB, pk_m1, if_pos (Int32.not_le.mp h2)]
theorem n0m1 : nI 0 + (-1) = -1 := by decide
theorem dn_0 {m : Nat} {c t s7 : Int32} {v9 : Value} (hm : m < 4) : WP d 77 147 [.ref a, .int c, .int t, .int (-1), .int (nI m), .int (nI 0), .int (nI 0), .int s7, .int (yA y 7 0 + (-1)), v9] [] (pY a y h) k Q ↔ WP d 77 57 [.ref a, .int c, .int t, .int (-1), .int (nI (m + 1)), .int (iB true), .int (-1), .int s7, .int (yA y 7 0 + (-1)), .int (-1)] [] (pY a y h) k Q := by
  simp (disch := omega) only [u_77_147, u_77_149, u_77_150, u_77_151, u_77_153, u_77_155, u_77_158, u_77_160, u_77_161, u_77_164, u_77_167, u_77_168, u_77_171, u_77_173, u_77_174, u_77_176, u_77_177, u_77_178, u_77_179, u_77_180, u_77_183, u_77_186, u_77_187, u_77_190, u_77_191, u_77_193, u_77_196, u_77_198, u_77_199, u_77_200, u_77_202, gI0, gIs, gR0, gRs, gF0, gFs, st0, st_i, st_r, st_f, st_n, st_s, true_and, and_true, ↓ifLeT, ↓ifLeF, ↓ifLtT, ↓ifLtF, ↓ifEqT, ↓ifEqF, if_tt, if_ff, if_pos, if_neg, nLe, nLt, nEq, nInT, nCl, pk_mul, nI_add, Nat.reduceAdd, s_cat_nil, s_cat_i, s_cat_r, s_cat_f, s_cat_l, tl_s, tl_n, cat_i, cat_r, cat_f, nb0, nb1, nbI, if_bI, if_bIr, Nat.zero_le, Nat.reduceLeDiff, Y_g0, Y_g1, Y_g2, Y_g3, Y_g4, Y_g5, Y_g6, Y_g7, Y_g8, Y_g9, Y_g10, Y_g11, Y_g12, Y_g13, Y_g14, Y_g15, Y_g16, Y_g17, Y_g18, Y_g19, Y_a7, Y_a8, Y_a10, Y_a11, Y_a12, Y_a13, Y_a14, Y_a15, Y_a16, Y_a17, Y_a18, Y_sw, iB, n0m1, m1_lt]
theorem out_f {c t s7 s8 s9 : Int32} {m p : Nat} (hp : p < 5) (hC : yC y ≤ 4) : WP d 77 57 [.ref a, .int c, .int t, .int w, .int (nI m), .int (iB true), .int (nI p), .int s7, .int s8, .int s9] [] (pY a y h) k Q ↔ WP d 77 205 [.ref a, .int c, .int t, .int w, .int (nI m), .int (iB true), .int (nI p), .int s7, .int s8, .int s9] [] (pY a y h) k Q := by
  by_cases h1 : yC y ≤ p
  · simp (disch := omega) only [u_77_57, u_77_59, u_77_62, u_77_64, u_77_65, u_77_68, u_77_71, u_77_73, gI0, gIs, gR0, gRs, gF0, gFs, st0, st_i, st_r, st_f, st_n, st_s, true_and, and_true, ↓ifLeT, ↓ifLeF, ↓ifLtT, ↓ifLtF, ↓ifEqT, ↓ifEqF, if_tt, if_ff, if_pos, if_neg, nLe, nLt, nEq, nInT, nCl, pk_mul, nI_add, Nat.reduceAdd, s_cat_nil, s_cat_i, s_cat_r, s_cat_f, s_cat_l, tl_s, tl_n, cat_i, cat_r, cat_f, nb0, nb1, nbI, if_bI, if_bIr, Nat.zero_le, Nat.reduceLeDiff, Y_g0, Y_g1, Y_g2, Y_g3, Y_g4, Y_g5, Y_g6, Y_g7, Y_g8, Y_g9, Y_g10, Y_g11, Y_g12, Y_g13, Y_g14, Y_g15, Y_g16, Y_g17, Y_g18, Y_g19, iB, h1]
  · simp (disch := omega) only [u_77_57, u_77_59, u_77_62, u_77_64, u_77_65, u_77_68, u_77_71, u_77_73, gI0, gIs, gR0, gRs, gF0, gFs, st0, st_i, st_r, st_f, st_n, st_s, true_and, and_true, ↓ifLeT, ↓ifLeF, ↓ifLtT, ↓ifLtF, ↓ifEqT, ↓ifEqF, if_tt, if_ff, if_pos, if_neg, nLe, nLt, nEq, nInT, nCl, pk_mul, nI_add, Nat.reduceAdd, s_cat_nil, s_cat_i, s_cat_r, s_cat_f, s_cat_l, tl_s, tl_n, cat_i, cat_r, cat_f, nb0, nb1, nbI, if_bI, if_bIr, Nat.zero_le, Nat.reduceLeDiff, Y_g0, Y_g1, Y_g2, Y_g3, Y_g4, Y_g5, Y_g6, Y_g7, Y_g8, Y_g9, Y_g10, Y_g11, Y_g12, Y_g13, Y_g14, Y_g15, Y_g16, Y_g17, Y_g18, Y_g19, iB, h1, nI10, reduceIte]
theorem out_m {c t s7 s8 s9 s5 : Int32} {m : Nat} : WP d 77 57 [.ref a, .int c, .int t, .int w, .int (nI m), .int s5, .int (-1), .int s7, .int s8, .int s9] [] (pY a y h) k Q ↔ WP d 77 205 [.ref a, .int c, .int t, .int w, .int (nI m), .int s5, .int (-1), .int s7, .int s8, .int s9] [] (pY a y h) k Q := by
  simp (disch := omega) only [u_77_57, u_77_59, gI0, gIs, gR0, gRs, gF0, gFs, st0, st_i, st_r, st_f, st_n, st_s, true_and, and_true, ↓ifLeT, ↓ifLeF, ↓ifLtT, ↓ifLtF, ↓ifEqT, ↓ifEqF, if_tt, if_ff, if_pos, if_neg, nLe, nLt, nEq, nInT, nCl, pk_mul, nI_add, Nat.reduceAdd, s_cat_nil, s_cat_i, s_cat_r, s_cat_f, s_cat_l, tl_s, tl_n, cat_i, cat_r, cat_f, nb0, nb1, nbI, if_bI, if_bIr, Nat.zero_le, Nat.reduceLeDiff, m1_lt]
def pushU (y : tY) : Nat → Nat → Nat → Option Nat
  | 0, p, m => if goB y (nI 1) p then some (m + 1) else none
  | n + 1, p, m => if goB y (nI 1) p then (if freeB y (nI 1) p (p + 1) then some (m + 1) else pushU y n (p + 1) (m + 1)) else none
def pushD (y : tY) : Nat → Nat → Option Nat
  | 0, m => if goB y (-1) 0 then some (m + 1) else none
  | q + 1, m => if goB y (-1) (q + 1) then (if freeB y (-1) (q + 1) q then some (m + 1) else pushD y q (m + 1)) else none
theorem up_lp {c t : Int32} {N : Nat} {R : Nat → Prop} (hC : yC y ≤ 4) (hR : ∀ M s5 s6 s7 s8 s9, M ≤ N → (WP d 77 205 [.ref a, .int c, .int t, .int (nI 1), .int (nI M), .int s5, .int s6, .int s7, .int s8, .int s9] [] (pY a y h) k Q ↔ R M)) : ∀ n p m v7 v8 v9, p + n + 1 = yC y → m ≤ p → m + n + 1 ≤ N → (WP d 77 57 [.ref a, .int c, .int t, .int (nI 1), .int (nI m), .int (nI 0), .int (nI p), v7, v8, v9] [] (pY a y h) k Q ↔ match pushU y n p m with | some M => R M | none => Q none (pY a y h)) := by
  intro n
  induction n with
  | zero =>
    intro p m v7 v8 v9 hp hm hN
    rw [step_a (by omega) (by omega) hC, step_b (by omega)]
    unfold pushU
    cases goB y (nI 1) p with
    | false => exact Iff.rfl
    | true =>
      rw [if_pos rfl, if_pos rfl, up_c (by omega) hC (by omega), show decide (p + 1 = yC y) = true from decide_eq_true (by omega), Bool.true_or, out_f (by omega) hC, hR _ _ _ _ _ _ (by omega)]
  | succ n ih =>
    intro p m v7 v8 v9 hp hm hN
    rw [step_a (by omega) (by omega) hC, step_b (by omega)]
    unfold pushU
    cases goB y (nI 1) p with
    | false => exact Iff.rfl
    | true =>
      rw [if_pos rfl, if_pos rfl, up_c (by omega) hC (by omega), show decide (p + 1 = yC y) = false from decide_eq_false (by omega), Bool.false_or]
      cases freeB y (nI 1) p (p + 1) with
      | true => rw [if_pos rfl, out_f (by omega) hC, hR _ _ _ _ _ _ (by omega)]
      | false => exact ih (p + 1) (m + 1) _ _ _ (by omega) (by omega) (by omega)
theorem dn_lp {c t : Int32} {N : Nat} {R : Nat → Prop} (hC : yC y ≤ 4) (hR : ∀ M s5 s6 s7 s8 s9, M ≤ N → (WP d 77 205 [.ref a, .int c, .int t, .int (-1), .int (nI M), .int s5, .int s6, .int s7, .int s8, .int s9] [] (pY a y h) k Q ↔ R M)) : ∀ p m v7 v8 v9, p + m < yC y → m + p + 1 ≤ N → (WP d 77 57 [.ref a, .int c, .int t, .int (-1), .int (nI m), .int (nI 0), .int (nI p), v7, v8, v9] [] (pY a y h) k Q ↔ match pushD y p m with | some M => R M | none => Q none (pY a y h)) := by
  intro p
  induction p with
  | zero =>
    intro m v7 v8 v9 hp hN
    rw [step_a (by omega) (by omega) hC, step_b (by omega)]
    unfold pushD
    cases goB y (-1) 0 with
    | false => exact Iff.rfl
    | true => rw [if_pos rfl, if_pos rfl, dn_0 (by omega), out_m, hR _ _ _ _ _ _ (by omega)]
  | succ q ih =>
    intro m v7 v8 v9 hp hN
    rw [step_a (by omega) (by omega) hC, step_b (by omega)]
    unfold pushD
    cases goB y (-1) (q + 1) with
    | false => exact Iff.rfl
    | true =>
      rw [if_pos rfl, if_pos rfl, dn_c (by omega) hC (by omega)]
      cases freeB y (-1) (q + 1) q with
      | true => rw [if_pos rfl, out_f (by omega) hC, hR _ _ _ _ _ _ (by omega)]
      | false => exact ih (m + 1) _ _ _ (by omega) (by omega)
theorem pushU_le : ∀ {n p m M}, pushU y n p m = some M → m < M ∧ M ≤ m + n + 1
  | 0, p, m, M, e => by
    unfold pushU at e
    split at e <;> cases e
    omega
  | n + 1, p, m, M, e => by
    unfold pushU at e
    split at e
    · split at e
      · cases e; omega
      · have := pushU_le e; omega
    · cases e
theorem pushD_le : ∀ {p m M}, pushD y p m = some M → m < M ∧ M ≤ m + p + 1
  | 0, m, M, e => by
    unfold pushD at e
    split at e <;> cases e
    omega
  | q + 1, m, M, e => by
    unfold pushD at e
    split at e
    · split at e
      · cases e; omega
      · have := pushD_le e; omega
    · cases e
def mvS (w : Int32) (p k : Nat) (y : tY) : tY := uA (uA y 7 (upd (yA y 7) p (yA y 7 p + w))) 11 (upd (yA y 11) p (if k = 0 then nI 1 else nI 2))
theorem mvS_C {w : Int32} {p k : Nat} : yC (mvS w p k y) = yC y := rfl
theorem mvU_lp {c M : Nat} {t s8 s9 s5 : Int32} : ∀ n j y s7, j + n = M → c + M ≤ yC y → yC y ≤ 4 → (WP d 77 208 [.ref a, .int (nI c), .int t, .int (nI 1), .int (nI M), .int s5, .int (nI j), .int s7, .int s8, .int s9] [] (pY a y h) k Q ↔ Q none (pY a (iter (fun j y => mvS (nI 1) (c + j) j y) j n y) h)) := by
  intro n
  induction n with
  | zero =>
    intro j y s7 hj hM hC
    have e : j = M := by omega
    subst e
    simp (disch := omega) only [u_77_208, u_77_210, u_77_212, u_77_271, gI0, gIs, gR0, gRs, gF0, gFs, st0, st_i, st_r, st_f, st_n, st_s, true_and, and_true, ↓ifLeT, ↓ifLeF, ↓ifLtT, ↓ifLtF, ↓ifEqT, ↓ifEqF, if_tt, if_ff, if_pos, if_neg, nLe, nLt, nEq, nInT, nCl, pk_mul, nI_add, Nat.reduceAdd, s_cat_nil, s_cat_i, s_cat_r, s_cat_f, s_cat_l, tl_s, tl_n, cat_i, cat_r, cat_f, nb0, nb1, nbI, if_bI, if_bIr, Nat.zero_le, Nat.reduceLeDiff, iter, Nat.le_refl]
  | succ n ih =>
    intro j y s7 hj hM hC
    rw [u_77_208, iter]
    have ih := ih (j + 1) (mvS (nI 1) (c + j) j y) (nI (c + j)) (by omega) hM hC
    by_cases h0 : j = 0
    · subst h0
      rw [show mvS (nI 1) (c + 0) 0 y = uA (uA y 7 (upd (yA y 7) c (yA y 7 c + nI 1))) 11 (upd (yA y 11) c (nI 1)) from rfl] at ih ⊢
      simp (disch := omega) only [u_77_210, u_77_212, u_77_215, u_77_216, u_77_218, u_77_219, u_77_220, u_77_221, u_77_223, u_77_225, u_77_228, u_77_230, u_77_231, u_77_234, u_77_237, u_77_238, u_77_241, u_77_243, u_77_244, u_77_245, u_77_246, u_77_247, u_77_248, u_77_249, u_77_252, u_77_254, u_77_256, u_77_259, u_77_260, u_77_263, u_77_264, u_77_265, u_77_268, gI0, gIs, gR0, gRs, gF0, gFs, st0, st_i, st_r, st_f, st_n, st_s, true_and, and_true, ↓ifLeT, ↓ifLeF, ↓ifLtT, ↓ifLtF, ↓ifEqT, ↓ifEqF, if_tt, if_ff, if_pos, if_neg, nLe, nLt, nEq, nInT, nCl, pk_mul, nI_add, Nat.reduceAdd, s_cat_nil, s_cat_i, s_cat_r, s_cat_f, s_cat_l, tl_s, tl_n, cat_i, cat_r, cat_f, nb0, nb1, nbI, if_bI, if_bIr, Nat.zero_le, Nat.reduceLeDiff, Y_g0, Y_g1, Y_g2, Y_g3, Y_g4, Y_g5, Y_g6, Y_g7, Y_g8, Y_g9, Y_g10, Y_g11, Y_g12, Y_g13, Y_g14, Y_g15, Y_g16, Y_g17, Y_g18, Y_g19, Y_a7, Y_a8, Y_a10, Y_a11, Y_a12, Y_a13, Y_a14, Y_a15, Y_a16, Y_a17, Y_a18, Y_sw, Y_w7, Y_w8, Y_w10, Y_w11, Y_w12, Y_w13, Y_w14, Y_w15, Y_w16, Y_w17, Y_w18, Y_wsw, yC_uS, yT_uS, yW_uS, yP_uS, yB_uS, yA_uS, yC_uC, yT_uC, yW_uC, yP_uC, yB_uC, yA_uC, yC_uT, yT_uT, yW_uT, yP_uT, yB_uT, yA_uT, yC_uA, yT_uA, yW_uA, yP_uA, yB_uA, yA_uA, yC_uW, yT_uW, yW_uW, yP_uW, yB_uW, yA_uW, yC_uP, yT_uP, yW_uP, yP_uP, yB_uP, yA_uP, Nat.reduceEqDiff, reduceIte, Nat.mul_one, Nat.add_zero, Nat.zero_mul]
      exact ih
    · rw [show mvS (nI 1) (c + j) j y = uA (uA y 7 (upd (yA y 7) (c + j) (yA y 7 (c + j) + nI 1))) 11 (upd (yA y 11) (c + j) (nI 2)) by unfold mvS; rw [if_neg h0]] at ih ⊢
      simp (disch := omega) only [u_77_210, u_77_212, u_77_215, u_77_216, u_77_218, u_77_219, u_77_220, u_77_221, u_77_223, u_77_225, u_77_228, u_77_230, u_77_231, u_77_234, u_77_237, u_77_238, u_77_241, u_77_243, u_77_244, u_77_245, u_77_246, u_77_247, u_77_248, u_77_249, u_77_252, u_77_254, u_77_256, u_77_259, u_77_260, u_77_263, u_77_264, u_77_265, u_77_268, gI0, gIs, gR0, gRs, gF0, gFs, st0, st_i, st_r, st_f, st_n, st_s, true_and, and_true, ↓ifLeT, ↓ifLeF, ↓ifLtT, ↓ifLtF, ↓ifEqT, ↓ifEqF, if_tt, if_ff, if_pos, if_neg, nLe, nLt, nEq, nInT, nCl, pk_mul, nI_add, Nat.reduceAdd, s_cat_nil, s_cat_i, s_cat_r, s_cat_f, s_cat_l, tl_s, tl_n, cat_i, cat_r, cat_f, nb0, nb1, nbI, if_bI, if_bIr, Nat.zero_le, Nat.reduceLeDiff, Y_g0, Y_g1, Y_g2, Y_g3, Y_g4, Y_g5, Y_g6, Y_g7, Y_g8, Y_g9, Y_g10, Y_g11, Y_g12, Y_g13, Y_g14, Y_g15, Y_g16, Y_g17, Y_g18, Y_g19, Y_a7, Y_a8, Y_a10, Y_a11, Y_a12, Y_a13, Y_a14, Y_a15, Y_a16, Y_a17, Y_a18, Y_sw, Y_w7, Y_w8, Y_w10, Y_w11, Y_w12, Y_w13, Y_w14, Y_w15, Y_w16, Y_w17, Y_w18, Y_wsw, yC_uS, yT_uS, yW_uS, yP_uS, yB_uS, yA_uS, yC_uC, yT_uC, yW_uC, yP_uC, yB_uC, yA_uC, yC_uT, yT_uT, yW_uT, yP_uT, yB_uT, yA_uT, yC_uA, yT_uA, yW_uA, yP_uA, yB_uA, yA_uA, yC_uW, yT_uW, yW_uW, yP_uW, yB_uW, yA_uW, yC_uP, yT_uP, yW_uP, yP_uP, yB_uP, yA_uP, Nat.reduceEqDiff, reduceIte, Nat.mul_one, h0, ih]
theorem n_down {c j : Nat} (h : j ≤ c) : nI c + nI j * (-1) = nI (c - j) := by
  rw [Int32.mul_neg, Int32.mul_one, ← Int32.sub_eq_add_neg, pk_sub h]
theorem n_down0 {c : Nat} : nI c + nI 0 * (-1) = nI c := n_down (Nat.zero_le _)
theorem mvD_lp {c M : Nat} {t s8 s9 s5 : Int32} : ∀ n j y s7, j + n = M → M ≤ c + 1 → c < yC y → yC y ≤ 4 → (WP d 77 208 [.ref a, .int (nI c), .int t, .int (-1), .int (nI M), .int s5, .int (nI j), .int s7, .int s8, .int s9] [] (pY a y h) k Q ↔ Q none (pY a (iter (fun j y => mvS (-1) (c - j) j y) j n y) h)) := by
  intro n
  induction n with
  | zero =>
    intro j y s7 hj hM hc hC
    have e : j = M := by omega
    subst e
    simp (disch := omega) only [u_77_208, u_77_210, u_77_212, u_77_271, gI0, gIs, gR0, gRs, gF0, gFs, st0, st_i, st_r, st_f, st_n, st_s, true_and, and_true, ↓ifLeT, ↓ifLeF, ↓ifLtT, ↓ifLtF, ↓ifEqT, ↓ifEqF, if_tt, if_ff, if_pos, if_neg, nLe, nLt, nEq, nInT, nCl, pk_mul, nI_add, Nat.reduceAdd, s_cat_nil, s_cat_i, s_cat_r, s_cat_f, s_cat_l, tl_s, tl_n, cat_i, cat_r, cat_f, nb0, nb1, nbI, if_bI, if_bIr, Nat.zero_le, Nat.reduceLeDiff, iter, Nat.le_refl]
  | succ n ih =>
    intro j y s7 hj hM hc hC
    rw [u_77_208, iter]
    have ih := ih (j + 1) (mvS (-1) (c - j) j y) (nI (c - j)) (by omega) hM hc hC
    by_cases h0 : j = 0
    · subst h0
      rw [show mvS (-1) (c - 0) 0 y = uA (uA y 7 (upd (yA y 7) c (yA y 7 c + (-1)))) 11 (upd (yA y 11) c (nI 1)) from rfl] at ih ⊢
      simp (disch := omega) only [u_77_210, u_77_212, u_77_215, u_77_216, u_77_218, u_77_219, u_77_220, u_77_221, u_77_223, u_77_225, u_77_228, u_77_230, u_77_231, u_77_234, u_77_237, u_77_238, u_77_241, u_77_243, u_77_244, u_77_245, u_77_246, u_77_247, u_77_248, u_77_249, u_77_252, u_77_254, u_77_256, u_77_259, u_77_260, u_77_263, u_77_264, u_77_265, u_77_268, n_down, Nat.sub_zero, gI0, gIs, gR0, gRs, gF0, gFs, st0, st_i, st_r, st_f, st_n, st_s, true_and, and_true, ↓ifLeT, ↓ifLeF, ↓ifLtT, ↓ifLtF, ↓ifEqT, ↓ifEqF, if_tt, if_ff, if_pos, if_neg, nLe, nLt, nEq, nInT, nCl, pk_mul, nI_add, Nat.reduceAdd, s_cat_nil, s_cat_i, s_cat_r, s_cat_f, s_cat_l, tl_s, tl_n, cat_i, cat_r, cat_f, nb0, nb1, nbI, if_bI, if_bIr, Nat.zero_le, Nat.reduceLeDiff, Y_g0, Y_g1, Y_g2, Y_g3, Y_g4, Y_g5, Y_g6, Y_g7, Y_g8, Y_g9, Y_g10, Y_g11, Y_g12, Y_g13, Y_g14, Y_g15, Y_g16, Y_g17, Y_g18, Y_g19, Y_a7, Y_a8, Y_a10, Y_a11, Y_a12, Y_a13, Y_a14, Y_a15, Y_a16, Y_a17, Y_a18, Y_sw, Y_w7, Y_w8, Y_w10, Y_w11, Y_w12, Y_w13, Y_w14, Y_w15, Y_w16, Y_w17, Y_w18, Y_wsw, yC_uS, yT_uS, yW_uS, yP_uS, yB_uS, yA_uS, yC_uC, yT_uC, yW_uC, yP_uC, yB_uC, yA_uC, yC_uT, yT_uT, yW_uT, yP_uT, yB_uT, yA_uT, yC_uA, yT_uA, yW_uA, yP_uA, yB_uA, yA_uA, yC_uW, yT_uW, yW_uW, yP_uW, yB_uW, yA_uW, yC_uP, yT_uP, yW_uP, yP_uP, yB_uP, yA_uP, Nat.reduceEqDiff, reduceIte, Nat.mul_one, Nat.add_zero, Nat.zero_mul]
      exact ih
    · rw [show mvS (-1) (c - j) j y = uA (uA y 7 (upd (yA y 7) (c - j) (yA y 7 (c - j) + (-1)))) 11 (upd (yA y 11) (c - j) (nI 2)) by unfold mvS; rw [if_neg h0]] at ih ⊢
      simp (disch := omega) only [u_77_210, u_77_212, u_77_215, u_77_216, u_77_218, u_77_219, u_77_220, u_77_221, u_77_223, u_77_225, u_77_228, u_77_230, u_77_231, u_77_234, u_77_237, u_77_238, u_77_241, u_77_243, u_77_244, u_77_245, u_77_246, u_77_247, u_77_248, u_77_249, u_77_252, u_77_254, u_77_256, u_77_259, u_77_260, u_77_263, u_77_264, u_77_265, u_77_268, n_down, gI0, gIs, gR0, gRs, gF0, gFs, st0, st_i, st_r, st_f, st_n, st_s, true_and, and_true, ↓ifLeT, ↓ifLeF, ↓ifLtT, ↓ifLtF, ↓ifEqT, ↓ifEqF, if_tt, if_ff, if_pos, if_neg, nLe, nLt, nEq, nInT, nCl, pk_mul, nI_add, Nat.reduceAdd, s_cat_nil, s_cat_i, s_cat_r, s_cat_f, s_cat_l, tl_s, tl_n, cat_i, cat_r, cat_f, nb0, nb1, nbI, if_bI, if_bIr, Nat.zero_le, Nat.reduceLeDiff, Y_g0, Y_g1, Y_g2, Y_g3, Y_g4, Y_g5, Y_g6, Y_g7, Y_g8, Y_g9, Y_g10, Y_g11, Y_g12, Y_g13, Y_g14, Y_g15, Y_g16, Y_g17, Y_g18, Y_g19, Y_a7, Y_a8, Y_a10, Y_a11, Y_a12, Y_a13, Y_a14, Y_a15, Y_a16, Y_a17, Y_a18, Y_sw, Y_w7, Y_w8, Y_w10, Y_w11, Y_w12, Y_w13, Y_w14, Y_w15, Y_w16, Y_w17, Y_w18, Y_wsw, yC_uS, yT_uS, yW_uS, yP_uS, yB_uS, yA_uS, yC_uC, yT_uC, yW_uC, yP_uC, yB_uC, yA_uC, yC_uT, yT_uT, yW_uT, yP_uT, yB_uT, yA_uT, yC_uA, yT_uA, yW_uA, yP_uA, yB_uA, yA_uA, yC_uW, yT_uW, yW_uW, yP_uW, yB_uW, yA_uW, yC_uP, yT_uP, yW_uP, yP_uP, yB_uP, yA_uP, Nat.reduceEqDiff, reduceIte, Nat.mul_one, h0, ih]
def stepU (y : tY) (c : Nat) : tY := match pushU y (yC y - 1 - c) c 0 with | some M => iter (fun j y => mvS (nI 1) (c + j) j y) 0 M y | none => y
def stepD (y : tY) (c : Nat) : tY := match pushD y c 0 with | some M => iter (fun j y => mvS (-1) (c - j) j y) 0 M y | none => y
def stepY (y : tY) (c : Nat) : tY := if yA y 10 c < nI 0 then y else if yA y 12 (yA y 10 c).toNatClampNeg = yA y 7 c then y else if yA y 7 c < yA y 12 (yA y 10 c).toNatClampNeg then stepU y c else stepD y c
theorem mv_0 {c : Int32} {t s5 s6 s7 s8 s9 : Int32} {M : Nat} : WP d 77 205 [.ref a, .int c, .int t, .int w, .int (nI M), .int s5, .int s6, .int s7, .int s8, .int s9] [] (pY a y h) k Q ↔ WP d 77 208 [.ref a, .int c, .int t, .int w, .int (nI M), .int s5, .int (nI 0), .int s7, .int s8, .int s9] [] (pY a y h) k Q := by
  simp (disch := omega) only [u_77_205, u_77_206, gI0, gIs, gR0, gRs, gF0, gFs, st0, st_i, st_r, st_f, st_n, st_s, true_and, and_true, ↓ifLeT, ↓ifLeF, ↓ifLtT, ↓ifLtF, ↓ifEqT, ↓ifEqF, if_tt, if_ff, if_pos, if_neg, nLe, nLt, nEq, nInT, nCl, pk_mul, nI_add, Nat.reduceAdd, s_cat_nil, s_cat_i, s_cat_r, s_cat_f, s_cat_l, tl_s, tl_n, cat_i, cat_r, cat_f, nb0, nb1, nbI, if_bI, if_bIr, Nat.zero_le, Nat.reduceLeDiff]
theorem up_go {c : Nat} {t : Int32} {v7 v8 v9 : Value} (hC : yC y ≤ 4) (hc : c < yC y) : WP d 77 57 [.ref a, .int (nI c), .int t, .int (nI 1), .int (nI 0), .int (nI 0), .int (nI c), v7, v8, v9] [] (pY a y h) k Q ↔ Q none (pY a (stepU y c) h) := by
  have e := up_lp (d := d) (a := a) (h := h) (k := k) (Q := Q) (c := nI c) (t := t) (N := yC y - c) (R := fun M => Q none (pY a (iter (fun j y => mvS (nI 1) (c + j) j y) 0 M y) h)) hC (fun M s5 s6 s7 s8 s9 hM => by rw [mv_0, mvU_lp M 0 y s7 (by omega) (by omega) hC]) (yC y - 1 - c) c 0 v7 v8 v9 (by omega) (by omega) (by omega)
  refine e.trans ?_
  unfold stepU
  cases pushU y (yC y - 1 - c) c 0 <;> exact Iff.rfl
theorem dn_go {c : Nat} {t : Int32} {v7 v8 v9 : Value} (hC : yC y ≤ 4) (hc : c < yC y) : WP d 77 57 [.ref a, .int (nI c), .int t, .int (-1), .int (nI 0), .int (nI 0), .int (nI c), v7, v8, v9] [] (pY a y h) k Q ↔ Q none (pY a (stepD y c) h) := by
  have e := dn_lp (d := d) (a := a) (h := h) (k := k) (Q := Q) (c := nI c) (t := t) (N := c + 1) (R := fun M => Q none (pY a (iter (fun j y => mvS (-1) (c - j) j y) 0 M y) h)) hC (fun M s5 s6 s7 s8 s9 hM => by rw [mv_0, mvD_lp M 0 y s7 (by omega) (by omega) hc hC]) c 0 v7 v8 v9 (by omega) (by omega)
  refine e.trans ?_
  unfold stepD
  cases pushD y c 0 <;> exact Iff.rfl
theorem m_step {c : Nat} (hC : yC y ≤ 4) (hc : c < yC y) (hn : okN y c) : MT (d + 1) 77 [.ref a, .int (nI c)] (pY a y h) Q ↔ Q none (pY a (stepY y c) h) := by
  rw [MT_go (by decide) _ _ _ (Nat.le_of_ble_eq_true rfl), show s_entry 77 [.ref a, .int (nI c)] = [.ref a, .int (nI c), s_no, s_no, s_no, s_no, s_no, s_no, s_no, s_no] from rfl]
  by_cases h1 : yA y 10 c < nI 0
  · rw [show stepY y c = y from if_pos h1]
    simp (disch := omega) only [u_77_0, u_77_1, u_77_4, u_77_5, u_77_6, u_77_7, u_77_8, u_77_11, u_77_12, u_77_15, u_77_16, u_77_17, u_77_18, u_77_21, u_77_22, u_77_23, u_77_26, gI0, gIs, gR0, gRs, gF0, gFs, st0, st_i, st_r, st_f, st_n, st_s, true_and, and_true, ↓ifLeT, ↓ifLeF, ↓ifLtT, ↓ifLtF, ↓ifEqT, ↓ifEqF, if_tt, if_ff, if_pos, if_neg, nLe, nLt, nEq, nInT, nCl, pk_mul, nI_add, Nat.reduceAdd, s_cat_nil, s_cat_i, s_cat_r, s_cat_f, s_cat_l, tl_s, tl_n, cat_i, cat_r, cat_f, nb0, nb1, nbI, if_bI, if_bIr, Nat.zero_le, Nat.reduceLeDiff, Y_g0, Y_g1, Y_g2, Y_g3, Y_g4, Y_g5, Y_g6, Y_g7, Y_g8, Y_g9, Y_g10, Y_g11, Y_g12, Y_g13, Y_g14, Y_g15, Y_g16, Y_g17, Y_g18, Y_g19, Y_a7, Y_a8, Y_a10, Y_a11, Y_a12, Y_a13, Y_a14, Y_a15, Y_a16, Y_a17, Y_a18, Y_sw, h1]
  · have hv := hn h1
    by_cases h2 : yA y 12 (yA y 10 c).toNatClampNeg = yA y 7 c
    · rw [show stepY y c = y by unfold stepY; rw [if_neg h1, if_pos h2]]
      simp (disch := omega) only [u_77_0, u_77_1, u_77_4, u_77_5, u_77_6, u_77_7, u_77_8, u_77_11, u_77_12, u_77_15, u_77_16, u_77_17, u_77_18, u_77_21, u_77_22, u_77_23, u_77_26, gI0, gIs, gR0, gRs, gF0, gFs, st0, st_i, st_r, st_f, st_n, st_s, true_and, and_true, ↓ifLeT, ↓ifLeF, ↓ifLtT, ↓ifLtF, ↓ifEqT, ↓ifEqF, if_tt, if_ff, if_pos, if_neg, nLe, nLt, nEq, nInT, nCl, pk_mul, nI_add, Nat.reduceAdd, s_cat_nil, s_cat_i, s_cat_r, s_cat_f, s_cat_l, tl_s, tl_n, cat_i, cat_r, cat_f, nb0, nb1, nbI, if_bI, if_bIr, Nat.zero_le, Nat.reduceLeDiff, Y_g0, Y_g1, Y_g2, Y_g3, Y_g4, Y_g5, Y_g6, Y_g7, Y_g8, Y_g9, Y_g10, Y_g11, Y_g12, Y_g13, Y_g14, Y_g15, Y_g16, Y_g17, Y_g18, Y_g19, Y_a7, Y_a8, Y_a10, Y_a11, Y_a12, Y_a13, Y_a14, Y_a15, Y_a16, Y_a17, Y_a18, Y_sw, h1, h2, hv]
    · by_cases h3 : yA y 7 c < yA y 12 (yA y 10 c).toNatClampNeg
      · rw [show stepY y c = stepU y c by unfold stepY; rw [if_neg h1, if_neg h2, if_pos h3]]
        simp (disch := omega) only [u_77_0, u_77_1, u_77_4, u_77_5, u_77_6, u_77_7, u_77_8, u_77_11, u_77_12, u_77_15, u_77_16, u_77_17, u_77_18, u_77_21, u_77_22, u_77_23, u_77_26, u_77_27, u_77_28, u_77_31, u_77_32, u_77_33, u_77_34, u_77_37, u_77_38, u_77_39, u_77_42, u_77_43, u_77_46, u_77_47, u_77_48, u_77_49, u_77_51, u_77_52, u_77_54, u_77_55, gI0, gIs, gR0, gRs, gF0, gFs, st0, st_i, st_r, st_f, st_n, st_s, true_and, and_true, ↓ifLeT, ↓ifLeF, ↓ifLtT, ↓ifLtF, ↓ifEqT, ↓ifEqF, if_tt, if_ff, if_pos, if_neg, nLe, nLt, nEq, nInT, nCl, pk_mul, nI_add, Nat.reduceAdd, s_cat_nil, s_cat_i, s_cat_r, s_cat_f, s_cat_l, tl_s, tl_n, cat_i, cat_r, cat_f, nb0, nb1, nbI, if_bI, if_bIr, Nat.zero_le, Nat.reduceLeDiff, Y_g0, Y_g1, Y_g2, Y_g3, Y_g4, Y_g5, Y_g6, Y_g7, Y_g8, Y_g9, Y_g10, Y_g11, Y_g12, Y_g13, Y_g14, Y_g15, Y_g16, Y_g17, Y_g18, Y_g19, Y_a7, Y_a8, Y_a10, Y_a11, Y_a12, Y_a13, Y_a14, Y_a15, Y_a16, Y_a17, Y_a18, Y_sw, h1, h2, hv, if_neg (Int32.not_le.mpr h3), up_go hC hc]
      · rw [show stepY y c = stepD y c by unfold stepY; rw [if_neg h1, if_neg h2, if_neg h3]]
        simp (disch := omega) only [u_77_0, u_77_1, u_77_4, u_77_5, u_77_6, u_77_7, u_77_8, u_77_11, u_77_12, u_77_15, u_77_16, u_77_17, u_77_18, u_77_21, u_77_22, u_77_23, u_77_26, u_77_27, u_77_28, u_77_31, u_77_32, u_77_33, u_77_34, u_77_37, u_77_38, u_77_39, u_77_42, u_77_43, u_77_46, u_77_47, u_77_48, u_77_49, u_77_51, u_77_52, u_77_54, u_77_55, gI0, gIs, gR0, gRs, gF0, gFs, st0, st_i, st_r, st_f, st_n, st_s, true_and, and_true, ↓ifLeT, ↓ifLeF, ↓ifLtT, ↓ifLtF, ↓ifEqT, ↓ifEqF, if_tt, if_ff, if_pos, if_neg, nLe, nLt, nEq, nInT, nCl, pk_mul, nI_add, Nat.reduceAdd, s_cat_nil, s_cat_i, s_cat_r, s_cat_f, s_cat_l, tl_s, tl_n, cat_i, cat_r, cat_f, nb0, nb1, nbI, if_bI, if_bIr, Nat.zero_le, Nat.reduceLeDiff, Y_g0, Y_g1, Y_g2, Y_g3, Y_g4, Y_g5, Y_g6, Y_g7, Y_g8, Y_g9, Y_g10, Y_g11, Y_g12, Y_g13, Y_g14, Y_g15, Y_g16, Y_g17, Y_g18, Y_g19, Y_a7, Y_a8, Y_a10, Y_a11, Y_a12, Y_a13, Y_a14, Y_a15, Y_a16, Y_a17, Y_a18, Y_sw, h1, h2, hv, if_pos (Int32.not_lt.mp h3), dn_go hC hc]
end YT
