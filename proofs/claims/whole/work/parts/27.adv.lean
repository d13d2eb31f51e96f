/-! Tape: its parts -/
section TA
variable {b d : Nat} {t : tO} {h : sH} {k : sK} {Q : sQ} {i x : Int32}
def okT0 (t : tO) : Prop := eN t 1 ≤ 400 ∧ eN t 5 ≤ eN t 1
def okT (t : tO) : Prop := eN t 1 ≤ 400 ∧ eN t 5 ≤ eN t 1 ∧ eN t 2 ≤ eN t 5
theorem okT_0 (ht : okT t) : okT0 t := ⟨ht.1, ht.2.1⟩
theorem let59 : letB (nI 59) = false := by decide
theorem dig59 : digB (nI 59) = false := by decide
theorem eN_5 {t : tO} {n : Nat} : eN (vN t 5 n) 5 = n := rfl
theorem adv_a (hL : eN t 1 ≤ 400) : ∀ n i, i + n = eN t 1 → (WP (d + 1) 56 0 [.ref b, s_no] [] (pTp b (vN t 5 i) h) (0, 0) Q ↔ WP (d + 1) 56 37 [.ref b, s_no] [] (pTp b (vN t 5 (runF blkB (eA t 0) n i)) h) (0, 0) Q) := by
  intro n
  induction n with
  | zero =>
    intro i hi
    have e : i = eN t 1 := by omega
    subst e
    simp (disch := omega) only [u_56_0, u_56_1, u_56_4, u_56_5, u_56_8, gI0, gIs, gR0, gRs, gF0, gFs, st0, st_i, st_r, st_f, st_n, st_s, true_and, and_true, ↓ifLeT, ↓ifLeF, ↓ifLtT, ↓ifLtF, ↓ifEqT, ↓ifEqF, if_tt, if_ff, if_pos, if_neg, nLe, nLt, nEq, nInT, nCl, pk_mul, nI_add, Nat.reduceAdd, s_cat_nil, s_cat_i, s_cat_r, s_cat_f, s_cat_l, tl_s, tl_n, cat_i, cat_r, cat_f, nb0, nb1, nbI, if_bI, if_bIr, Nat.zero_le, Nat.reduceLeDiff, Tp_g0, Tp_g1, Tp_g2, Tp_g3, Tp_g4, Tp_g5, eN_vN, eI_vN, eB_vN, eA_vN, eF_vN, eP_vN, eN_vI, eI_vI, eB_vI, eA_vI, eF_vI, eP_vI, eN_vB, eI_vB, eB_vB, eA_vB, eF_vB, eP_vB, eN_vA, eI_vA, eB_vA, eA_vA, eF_vA, eP_vA, eN_vF, eI_vF, eB_vF, eA_vF, eF_vF, eP_vF, eN_vP, eI_vP, eB_vP, eA_vP, eF_vP, eP_vP, Nat.reduceEqDiff, reduceIte, runF, Nat.le_refl]
  | succ n ih =>
    intro i hi
    rw [u_56_0]
    have e1 := fun Q => m_byteAt (d := d) (b := b) (t := vN t 5 i) (h := h) (Q := Q) (j := i) (by omega)
    by_cases h1 : eA t 0 i = nI 32
    · rw [show runF blkB (eA t 0) (n + 1) i = runF blkB (eA t 0) n (i + 1) by rw [runF, if_pos (show blkB (eA t 0 i) = true from decide_eq_true h1)]]
      simp (disch := omega) only [u_56_1, u_56_4, u_56_5, u_56_8, u_56_11, u_56_12, u_56_13, u_56_16, u_56_19, u_56_21, u_56_24, u_56_25, u_56_26, u_56_29, u_56_30, u_56_31, u_56_34, gI0, gIs, gR0, gRs, gF0, gFs, st0, st_i, st_r, st_f, st_n, st_s, true_and, and_true, ↓ifLeT, ↓ifLeF, ↓ifLtT, ↓ifLtF, ↓ifEqT, ↓ifEqF, if_tt, if_ff, if_pos, if_neg, nLe, nLt, nEq, nInT, nCl, pk_mul, nI_add, Nat.reduceAdd, s_cat_nil, s_cat_i, s_cat_r, s_cat_f, s_cat_l, tl_s, tl_n, cat_i, cat_r, cat_f, nb0, nb1, nbI, if_bI, if_bIr, Nat.zero_le, Nat.reduceLeDiff, Tp_g0, Tp_g1, Tp_g2, Tp_g3, Tp_g4, Tp_g5, Tp_s1, Tp_s2, Tp_s3, Tp_s4, Tp_s5, eN_vN, eI_vN, eB_vN, eA_vN, eF_vN, eP_vN, eN_vI, eI_vI, eB_vI, eA_vI, eF_vI, eP_vI, eN_vB, eI_vB, eB_vB, eA_vB, eF_vB, eP_vB, eN_vA, eI_vA, eB_vA, eA_vA, eF_vA, eP_vA, eN_vF, eI_vF, eB_vF, eA_vF, eF_vF, eP_vF, eN_vP, eI_vP, eB_vP, eA_vP, eF_vP, eP_vP, Nat.reduceEqDiff, reduceIte, Tp_ob, e1, h1, vN_tw, ih (i + 1) (by omega)]
    · rw [show runF blkB (eA t 0) (n + 1) i = i by rw [runF, if_neg (show ¬ blkB (eA t 0 i) = true by simpa [blkB] using h1)]]
      simp (disch := omega) only [u_56_1, u_56_4, u_56_5, u_56_8, u_56_11, u_56_12, u_56_13, u_56_16, u_56_19, u_56_21, u_56_24, u_56_25, u_56_26, u_56_29, u_56_30, u_56_31, u_56_34, gI0, gIs, gR0, gRs, gF0, gFs, st0, st_i, st_r, st_f, st_n, st_s, true_and, and_true, ↓ifLeT, ↓ifLeF, ↓ifLtT, ↓ifLtF, ↓ifEqT, ↓ifEqF, if_tt, if_ff, if_pos, if_neg, nLe, nLt, nEq, nInT, nCl, pk_mul, nI_add, Nat.reduceAdd, s_cat_nil, s_cat_i, s_cat_r, s_cat_f, s_cat_l, tl_s, tl_n, cat_i, cat_r, cat_f, nb0, nb1, nbI, if_bI, if_bIr, Nat.zero_le, Nat.reduceLeDiff, Tp_g0, Tp_g1, Tp_g2, Tp_g3, Tp_g4, Tp_g5, Tp_s1, Tp_s2, Tp_s3, Tp_s4, Tp_s5, eN_vN, eI_vN, eB_vN, eA_vN, eF_vN, eP_vN, eN_vI, eI_vI, eB_vI, eA_vI, eF_vI, eP_vI, eN_vB, eI_vB, eB_vB, eA_vB, eF_vB, eP_vB, eN_vA, eI_vA, eB_vA, eA_vA, eF_vA, eP_vA, eN_vF, eI_vF, eB_vF, eA_vF, eF_vF, eP_vF, eN_vP, eI_vP, eB_vP, eA_vP, eF_vP, eP_vP, Nat.reduceEqDiff, reduceIte, Tp_ob, e1, h1]
theorem adv_w (hL : eN t 1 ≤ 400) : ∀ n i, i + n = eN t 1 → (WP (d + 1) 56 83 [.ref b, s_no] [] (pTp b (vN t 5 i) h) (0, 0) Q ↔ Q none (pTp b (vN t 5 (runF letB (eA t 0) n i)) h)) := by
  intro n
  induction n with
  | zero =>
    intro i hi
    have e : i = eN t 1 := by omega
    subst e
    simp (disch := omega) only [u_56_83, u_56_84, u_56_87, u_56_88, u_56_91, u_56_257, gI0, gIs, gR0, gRs, gF0, gFs, st0, st_i, st_r, st_f, st_n, st_s, true_and, and_true, ↓ifLeT, ↓ifLeF, ↓ifLtT, ↓ifLtF, ↓ifEqT, ↓ifEqF, if_tt, if_ff, if_pos, if_neg, nLe, nLt, nEq, nInT, nCl, pk_mul, nI_add, Nat.reduceAdd, s_cat_nil, s_cat_i, s_cat_r, s_cat_f, s_cat_l, tl_s, tl_n, cat_i, cat_r, cat_f, nb0, nb1, nbI, if_bI, if_bIr, Nat.zero_le, Nat.reduceLeDiff, Tp_g0, Tp_g1, Tp_g2, Tp_g3, Tp_g4, Tp_g5, eN_vN, eI_vN, eB_vN, eA_vN, eF_vN, eP_vN, eN_vI, eI_vI, eB_vI, eA_vI, eF_vI, eP_vI, eN_vB, eI_vB, eB_vB, eA_vB, eF_vB, eP_vB, eN_vA, eI_vA, eB_vA, eA_vA, eF_vA, eP_vA, eN_vF, eI_vF, eB_vF, eA_vF, eF_vF, eP_vF, eN_vP, eI_vP, eB_vP, eA_vP, eF_vP, eP_vP, Nat.reduceEqDiff, reduceIte, runF, Nat.le_refl]
  | succ n ih =>
    intro i hi
    rw [u_56_83]
    have e1 := fun Q => m_byteAt (d := d) (b := b) (t := vN t 5 i) (h := h) (Q := Q) (j := i) (by omega)
    cases h1 : letB (eA t 0 i) with
    | true =>
      rw [show runF letB (eA t 0) (n + 1) i = runF letB (eA t 0) n (i + 1) by rw [runF, if_pos h1]]
      simp (disch := omega) only [u_56_84, u_56_87, u_56_88, u_56_91, u_56_94, u_56_95, u_56_96, u_56_99, u_56_102, u_56_105, u_56_108, u_56_109, u_56_110, u_56_113, u_56_114, u_56_115, u_56_118, u_56_257, gI0, gIs, gR0, gRs, gF0, gFs, st0, st_i, st_r, st_f, st_n, st_s, true_and, and_true, ↓ifLeT, ↓ifLeF, ↓ifLtT, ↓ifLtF, ↓ifEqT, ↓ifEqF, if_tt, if_ff, if_pos, if_neg, nLe, nLt, nEq, nInT, nCl, pk_mul, nI_add, Nat.reduceAdd, s_cat_nil, s_cat_i, s_cat_r, s_cat_f, s_cat_l, tl_s, tl_n, cat_i, cat_r, cat_f, nb0, nb1, nbI, if_bI, if_bIr, Nat.zero_le, Nat.reduceLeDiff, Tp_g0, Tp_g1, Tp_g2, Tp_g3, Tp_g4, Tp_g5, Tp_s1, Tp_s2, Tp_s3, Tp_s4, Tp_s5, eN_vN, eI_vN, eB_vN, eA_vN, eF_vN, eP_vN, eN_vI, eI_vI, eB_vI, eA_vI, eF_vI, eP_vI, eN_vB, eI_vB, eB_vB, eA_vB, eF_vB, eP_vB, eN_vA, eI_vA, eB_vA, eA_vA, eF_vA, eP_vA, eN_vF, eI_vF, eB_vF, eA_vF, eF_vF, eP_vF, eN_vP, eI_vP, eB_vP, eA_vP, eF_vP, eP_vP, Nat.reduceEqDiff, reduceIte, Tp_ob, e1, m_isLetter, h1, iB, nI10, vN_tw, ih (i + 1) (by omega)]
    | false =>
      rw [show runF letB (eA t 0) (n + 1) i = i by rw [runF, h1]; rfl]
      simp (disch := omega) only [u_56_84, u_56_87, u_56_88, u_56_91, u_56_94, u_56_95, u_56_96, u_56_99, u_56_102, u_56_105, u_56_108, u_56_109, u_56_110, u_56_113, u_56_114, u_56_115, u_56_118, u_56_257, gI0, gIs, gR0, gRs, gF0, gFs, st0, st_i, st_r, st_f, st_n, st_s, true_and, and_true, ↓ifLeT, ↓ifLeF, ↓ifLtT, ↓ifLtF, ↓ifEqT, ↓ifEqF, if_tt, if_ff, if_pos, if_neg, nLe, nLt, nEq, nInT, nCl, pk_mul, nI_add, Nat.reduceAdd, s_cat_nil, s_cat_i, s_cat_r, s_cat_f, s_cat_l, tl_s, tl_n, cat_i, cat_r, cat_f, nb0, nb1, nbI, if_bI, if_bIr, Nat.zero_le, Nat.reduceLeDiff, Tp_g0, Tp_g1, Tp_g2, Tp_g3, Tp_g4, Tp_g5, Tp_s1, Tp_s2, Tp_s3, Tp_s4, Tp_s5, eN_vN, eI_vN, eB_vN, eA_vN, eF_vN, eP_vN, eN_vI, eI_vI, eB_vI, eA_vI, eF_vI, eP_vI, eN_vB, eI_vB, eB_vB, eA_vB, eF_vB, eP_vB, eN_vA, eI_vA, eB_vA, eA_vA, eF_vA, eP_vA, eN_vF, eI_vF, eB_vF, eA_vF, eF_vF, eP_vF, eN_vP, eI_vP, eB_vP, eA_vP, eF_vP, eP_vP, Nat.reduceEqDiff, reduceIte, Tp_ob, e1, m_isLetter, h1, iB]
theorem adv_d (hL : eN t 1 ≤ 400) : ∀ n i x, i + n = eN t 1 → (WP (d + 1) 56 142 [.ref b, .int x] [] (pTp b (vN t 5 i) h) (0, 0) Q ↔ WP (d + 1) 56 200 [.ref b, .int (sumF (eA t 0) n i x)] [] (pTp b (vN t 5 (runF digB (eA t 0) n i)) h) (0, 0) Q) := by
  intro n
  induction n with
  | zero =>
    intro i x hi
    have e : i = eN t 1 := by omega
    subst e
    simp (disch := omega) only [u_56_142, u_56_143, u_56_146, u_56_147, u_56_150, gI0, gIs, gR0, gRs, gF0, gFs, st0, st_i, st_r, st_f, st_n, st_s, true_and, and_true, ↓ifLeT, ↓ifLeF, ↓ifLtT, ↓ifLtF, ↓ifEqT, ↓ifEqF, if_tt, if_ff, if_pos, if_neg, nLe, nLt, nEq, nInT, nCl, pk_mul, nI_add, Nat.reduceAdd, s_cat_nil, s_cat_i, s_cat_r, s_cat_f, s_cat_l, tl_s, tl_n, cat_i, cat_r, cat_f, nb0, nb1, nbI, if_bI, if_bIr, Nat.zero_le, Nat.reduceLeDiff, Tp_g0, Tp_g1, Tp_g2, Tp_g3, Tp_g4, Tp_g5, eN_vN, eI_vN, eB_vN, eA_vN, eF_vN, eP_vN, eN_vI, eI_vI, eB_vI, eA_vI, eF_vI, eP_vI, eN_vB, eI_vB, eB_vB, eA_vB, eF_vB, eP_vB, eN_vA, eI_vA, eB_vA, eA_vA, eF_vA, eP_vA, eN_vF, eI_vF, eB_vF, eA_vF, eF_vF, eP_vF, eN_vP, eI_vP, eB_vP, eA_vP, eF_vP, eP_vP, Nat.reduceEqDiff, reduceIte, runF, sumF, Nat.le_refl]
  | succ n ih =>
    intro i x hi
    rw [u_56_142]
    have e1 := fun Q => m_byteAt (d := d) (b := b) (t := vN t 5 i) (h := h) (Q := Q) (j := i) (by omega)
    have h10 : ¬ nI 10 = 0 := by decide
    cases h1 : digB (eA t 0 i) with
    | true =>
      rw [show runF digB (eA t 0) (n + 1) i = runF digB (eA t 0) n (i + 1) by rw [runF, if_pos h1], show sumF (eA t 0) (n + 1) i x = sumF (eA t 0) n (i + 1) ((x - x / nI 10 * nI 10) * nI 10 + eA t 0 i - nI 48) by rw [sumF, if_pos h1]]
      simp (disch := omega) only [u_56_143, u_56_146, u_56_147, u_56_150, u_56_153, u_56_154, u_56_155, u_56_158, u_56_161, u_56_164, u_56_167, u_56_168, u_56_170, u_56_171, u_56_173, u_56_174, u_56_175, u_56_176, u_56_179, u_56_182, u_56_183, u_56_185, u_56_186, u_56_187, u_56_188, u_56_189, u_56_192, u_56_193, u_56_194, u_56_197, gI0, gIs, gR0, gRs, gF0, gFs, st0, st_i, st_r, st_f, st_n, st_s, true_and, and_true, ↓ifLeT, ↓ifLeF, ↓ifLtT, ↓ifLtF, ↓ifEqT, ↓ifEqF, if_tt, if_ff, if_pos, if_neg, nLe, nLt, nEq, nInT, nCl, pk_mul, nI_add, Nat.reduceAdd, s_cat_nil, s_cat_i, s_cat_r, s_cat_f, s_cat_l, tl_s, tl_n, cat_i, cat_r, cat_f, nb0, nb1, nbI, if_bI, if_bIr, Nat.zero_le, Nat.reduceLeDiff, Tp_g0, Tp_g1, Tp_g2, Tp_g3, Tp_g4, Tp_g5, Tp_s1, Tp_s2, Tp_s3, Tp_s4, Tp_s5, eN_vN, eI_vN, eB_vN, eA_vN, eF_vN, eP_vN, eN_vI, eI_vI, eB_vI, eA_vI, eF_vI, eP_vI, eN_vB, eI_vB, eB_vB, eA_vB, eF_vB, eP_vB, eN_vA, eI_vA, eB_vA, eA_vA, eF_vA, eP_vA, eN_vF, eI_vF, eB_vF, eA_vF, eF_vF, eP_vF, eN_vP, eI_vP, eB_vP, eA_vP, eF_vP, eP_vP, Nat.reduceEqDiff, reduceIte, Tp_ob, e1, m_isDigit, h1, iB, nI10, h10, not_false_eq_true, vN_tw, ih (i + 1) _ (by omega)]
    | false =>
      rw [show runF digB (eA t 0) (n + 1) i = i by rw [runF, h1]; rfl, show sumF (eA t 0) (n + 1) i x = x by rw [sumF, h1]; rfl]
      simp (disch := omega) only [u_56_143, u_56_146, u_56_147, u_56_150, u_56_153, u_56_154, u_56_155, u_56_158, u_56_161, u_56_164, u_56_167, u_56_168, u_56_170, u_56_171, u_56_173, u_56_174, u_56_175, u_56_176, u_56_179, u_56_182, u_56_183, u_56_185, u_56_186, u_56_187, u_56_188, u_56_189, u_56_192, u_56_193, u_56_194, u_56_197, gI0, gIs, gR0, gRs, gF0, gFs, st0, st_i, st_r, st_f, st_n, st_s, true_and, and_true, ↓ifLeT, ↓ifLeF, ↓ifLtT, ↓ifLtF, ↓ifEqT, ↓ifEqF, if_tt, if_ff, if_pos, if_neg, nLe, nLt, nEq, nInT, nCl, pk_mul, nI_add, Nat.reduceAdd, s_cat_nil, s_cat_i, s_cat_r, s_cat_f, s_cat_l, tl_s, tl_n, cat_i, cat_r, cat_f, nb0, nb1, nbI, if_bI, if_bIr, Nat.zero_le, Nat.reduceLeDiff, Tp_g0, Tp_g1, Tp_g2, Tp_g3, Tp_g4, Tp_g5, Tp_s1, Tp_s2, Tp_s3, Tp_s4, Tp_s5, eN_vN, eI_vN, eB_vN, eA_vN, eF_vN, eP_vN, eN_vI, eI_vI, eB_vI, eA_vI, eF_vI, eP_vI, eN_vB, eI_vB, eB_vB, eA_vB, eF_vB, eP_vB, eN_vA, eI_vA, eB_vA, eA_vA, eF_vA, eP_vA, eN_vF, eI_vF, eB_vF, eA_vF, eF_vF, eP_vF, eN_vP, eI_vP, eB_vP, eA_vP, eF_vP, eP_vP, Nat.reduceEqDiff, reduceIte, Tp_ob, e1, m_isDigit, h1, iB]
def skT (t : tO) : Nat := runF blkB (eA t 0) (eN t 1 - eN t 5) (eN t 5)
def adS (t : tO) : tO := vN (vN t 5 (skT t)) 2 (skT t)
def advT (t : tO) : tO := if eN t 1 ≤ skT t then vI (adS t) 3 (nI 0) else if letB (eA t 0 (skT t)) then vN (vI (adS t) 3 (nI 1)) 5 (runF letB (eA t 0) (eN t 1 - skT t) (skT t)) else if digB (eA t 0 (skT t)) then vI (vN (vI (adS t) 3 (nI 2)) 5 (runF digB (eA t 0) (eN t 1 - skT t) (skT t))) 4 (if runF digB (eA t 0) (eN t 1 - skT t) (skT t) - skT t ≤ 2 then sumF (eA t 0) (eN t 1 - skT t) (skT t) (nI 0) else -1) else vN (vI (adS t) 3 (if eA t 0 (skT t) = nI 59 then nI 3 else nI 4)) 5 (skT t + 1)
theorem skT_le (ht : okT0 t) : eN t 5 ≤ skT t ∧ skT t ≤ eN t 1 := by
  obtain ⟨h1, h2⟩ := ht
  have := runF_le (f := blkB) (g := eA t 0) (eN t 1 - eN t 5) (eN t 5)
  unfold skT
  omega
theorem m_advance (ht : okT0 t) : MT (d + 2) 56 [.ref b] (pTp b t h) Q ↔ Q none (pTp b (advT t) h) := by
  obtain ⟨s1, s2⟩ := skT_le ht
  have hL := ht.1
  have hc := ht.2
  rw [MT_go (by decide) _ _ _ (Nat.le_of_ble_eq_true rfl), show s_entry 56 [.ref b] = [.ref b, s_no] from rfl]
  have e0 := adv_a (d := d) (b := b) (t := t) (h := h) (Q := Q) hL (eN t 1 - eN t 5) (eN t 5) (by omega)
  rw [vN_eta] at e0
  refine e0.trans ?_
  show WP _ _ 37 _ _ (pTp b (vN t 5 (skT t)) h) _ _ ↔ _
  have e1 := fun Q => m_byteAt (d := d) (b := b) (t := adS t) (h := h) (Q := Q) (j := skT t)
  have a1 : eA (adS t) 0 = eA t 0 := rfl
  rw [a1] at e1
  have step1 : WP (d + 1) 56 37 [.ref b, s_no] [] (pTp b (vN t 5 (skT t)) h) (0, 0) Q ↔ WP (d + 1) 56 45 [.ref b, s_no] [] (pTp b (adS t) h) (0, 0) Q := by
    simp (disch := omega) only [u_56_37, u_56_38, u_56_39, u_56_42, gI0, gIs, gR0, gRs, gF0, gFs, st0, st_i, st_r, st_f, st_n, st_s, true_and, and_true, ↓ifLeT, ↓ifLeF, ↓ifLtT, ↓ifLtF, ↓ifEqT, ↓ifEqF, if_tt, if_ff, if_pos, if_neg, nLe, nLt, nEq, nInT, nCl, pk_mul, nI_add, Nat.reduceAdd, s_cat_nil, s_cat_i, s_cat_r, s_cat_f, s_cat_l, tl_s, tl_n, cat_i, cat_r, cat_f, nb0, nb1, nbI, if_bI, if_bIr, Nat.zero_le, Nat.reduceLeDiff, Tp_g0, Tp_g1, Tp_g2, Tp_g3, Tp_g4, Tp_g5, Tp_s1, Tp_s2, Tp_s3, Tp_s4, Tp_s5, eN_vN, eI_vN, eB_vN, eA_vN, eF_vN, eP_vN, eN_vI, eI_vI, eB_vI, eA_vI, eF_vI, eP_vI, eN_vB, eI_vB, eB_vB, eA_vB, eF_vB, eP_vB, eN_vA, eI_vA, eB_vA, eA_vA, eF_vA, eP_vA, eN_vF, eI_vF, eB_vF, eA_vF, eF_vF, eP_vF, eN_vP, eI_vP, eB_vP, eA_vP, eF_vP, eP_vP, reduceIte]
    exact Iff.rfl
  rw [step1]
  have n1 : eN (adS t) 1 = eN t 1 := rfl
  have n5 : eN (adS t) 5 = skT t := rfl
  have n2 : eN (adS t) 2 = skT t := rfl
  unfold advT
  by_cases c0 : eN t 1 ≤ skT t
  · rw [if_pos c0]
    simp (disch := omega) only [u_56_45, u_56_46, u_56_49, u_56_50, u_56_53, u_56_56, u_56_57, u_56_58, u_56_61, u_56_257, gI0, gIs, gR0, gRs, gF0, gFs, st0, st_i, st_r, st_f, st_n, st_s, true_and, and_true, ↓ifLeT, ↓ifLeF, ↓ifLtT, ↓ifLtF, ↓ifEqT, ↓ifEqF, if_tt, if_ff, if_pos, if_neg, nLe, nLt, nEq, nInT, nCl, pk_mul, nI_add, Nat.reduceAdd, s_cat_nil, s_cat_i, s_cat_r, s_cat_f, s_cat_l, tl_s, tl_n, cat_i, cat_r, cat_f, nb0, nb1, nbI, if_bI, if_bIr, Nat.zero_le, Nat.reduceLeDiff, Tp_g0, Tp_g1, Tp_g2, Tp_g3, Tp_g4, Tp_g5, Tp_s1, Tp_s2, Tp_s3, Tp_s4, Tp_s5, n1, n5]
  · rw [if_neg c0]
    have e1 := fun Q => e1 Q (by omega)
    cases c1 : letB (eA t 0 (skT t)) with
    | true =>
      rw [if_pos rfl]
      have w := adv_w (d := d) (b := b) (t := vI (adS t) 3 (nI 1)) (h := h) (Q := Q) (show eN (vI (adS t) 3 (nI 1)) 1 ≤ 400 from hL) (eN t 1 - skT t) (skT t) (show skT t + _ = eN t 1 by omega)
      rw [show vN (vI (adS t) 3 (nI 1)) 5 (skT t) = vI (adS t) 3 (nI 1) by rw [show skT t = eN (vI (adS t) 3 (nI 1)) 5 from rfl, vN_eta]] at w
      simp (disch := omega) only [u_56_45, u_56_46, u_56_49, u_56_50, u_56_53, u_56_56, u_56_57, u_56_58, u_56_61, u_56_64, u_56_65, u_56_66, u_56_69, u_56_72, u_56_75, u_56_78, u_56_79, u_56_80, gI0, gIs, gR0, gRs, gF0, gFs, st0, st_i, st_r, st_f, st_n, st_s, true_and, and_true, ↓ifLeT, ↓ifLeF, ↓ifLtT, ↓ifLtF, ↓ifEqT, ↓ifEqF, if_tt, if_ff, if_pos, if_neg, nLe, nLt, nEq, nInT, nCl, pk_mul, nI_add, Nat.reduceAdd, s_cat_nil, s_cat_i, s_cat_r, s_cat_f, s_cat_l, tl_s, tl_n, cat_i, cat_r, cat_f, nb0, nb1, nbI, if_bI, if_bIr, Nat.zero_le, Nat.reduceLeDiff, Tp_g0, Tp_g1, Tp_g2, Tp_g3, Tp_g4, Tp_g5, Tp_s1, Tp_s2, Tp_s3, Tp_s4, Tp_s5, n1, n5, Tp_ob, e1, m_isLetter, c1, iB, nI10, reduceIte]
      exact w
    | false =>
      rw [if_neg (by decide)]
      cases c2 : digB (eA t 0 (skT t)) with
      | true =>
        rw [if_pos rfl]
        have w := adv_d (d := d) (b := b) (t := vI (adS t) 3 (nI 2)) (h := h) (Q := Q) (show eN (vI (adS t) 3 (nI 2)) 1 ≤ 400 from hL) (eN t 1 - skT t) (skT t) (nI 0) (show skT t + _ = eN t 1 by omega)
        rw [show vN (vI (adS t) 3 (nI 2)) 5 (skT t) = vI (adS t) 3 (nI 2) by rw [show skT t = eN (vI (adS t) 3 (nI 2)) 5 from rfl, vN_eta]] at w
        simp (disch := omega) only [u_56_45, u_56_46, u_56_49, u_56_50, u_56_53, u_56_56, u_56_57, u_56_58, u_56_61, u_56_64, u_56_65, u_56_66, u_56_69, u_56_72, u_56_75, u_56_121, u_56_122, u_56_123, u_56_126, u_56_129, u_56_132, u_56_135, u_56_136, u_56_137, u_56_140, u_56_141, gI0, gIs, gR0, gRs, gF0, gFs, st0, st_i, st_r, st_f, st_n, st_s, true_and, and_true, ↓ifLeT, ↓ifLeF, ↓ifLtT, ↓ifLtF, ↓ifEqT, ↓ifEqF, if_tt, if_ff, if_pos, if_neg, nLe, nLt, nEq, nInT, nCl, pk_mul, nI_add, Nat.reduceAdd, s_cat_nil, s_cat_i, s_cat_r, s_cat_f, s_cat_l, tl_s, tl_n, cat_i, cat_r, cat_f, nb0, nb1, nbI, if_bI, if_bIr, Nat.zero_le, Nat.reduceLeDiff, Tp_g0, Tp_g1, Tp_g2, Tp_g3, Tp_g4, Tp_g5, Tp_s1, Tp_s2, Tp_s3, Tp_s4, Tp_s5, n1, n5, Tp_ob, e1, m_isLetter, m_isDigit, c1, c2, iB, nI10, reduceIte]
        refine w.trans ?_
        have r1 := runF_le (f := digB) (g := eA t 0) (eN t 1 - skT t) (skT t)
        have a2 : eA (vI (adS t) 3 (nI 2)) 0 = eA t 0 := rfl
        rw [a2]
        generalize runF digB (eA t 0) (eN t 1 - skT t) (skT t) = e at r1
        by_cases c3 : e - skT t ≤ 2
        · rw [if_pos c3]
          simp (disch := omega) only [u_56_200, u_56_201, u_56_202, u_56_205, u_56_206, u_56_209, u_56_210, u_56_211, u_56_214, u_56_215, u_56_218, u_56_219, u_56_222, u_56_257, gI0, gIs, gR0, gRs, gF0, gFs, st0, st_i, st_r, st_f, st_n, st_s, true_and, and_true, ↓ifLeT, ↓ifLeF, ↓ifLtT, ↓ifLtF, ↓ifEqT, ↓ifEqF, if_tt, if_ff, if_pos, if_neg, nLe, nLt, nEq, nInT, nCl, pk_mul, nI_add, Nat.reduceAdd, s_cat_nil, s_cat_i, s_cat_r, s_cat_f, s_cat_l, tl_s, tl_n, cat_i, cat_r, cat_f, nb0, nb1, nbI, if_bI, if_bIr, Nat.zero_le, Nat.reduceLeDiff, Tp_g0, Tp_g1, Tp_g2, Tp_g3, Tp_g4, Tp_g5, Tp_s1, Tp_s2, Tp_s3, Tp_s4, Tp_s5, eN_vN, eI_vN, eB_vN, eA_vN, eF_vN, eP_vN, eN_vI, eI_vI, eB_vI, eA_vI, eF_vI, eP_vI, eN_vB, eI_vB, eB_vB, eA_vB, eF_vB, eP_vB, eN_vA, eI_vA, eB_vA, eA_vA, eF_vA, eP_vA, eN_vF, eI_vF, eB_vF, eA_vF, eF_vF, eP_vF, eN_vP, eI_vP, eB_vP, eA_vP, eF_vP, eP_vP, Nat.reduceEqDiff, n2, pk_sub, c3, reduceIte]
        · rw [if_neg c3]
          simp (disch := omega) only [u_56_200, u_56_201, u_56_202, u_56_205, u_56_206, u_56_209, u_56_210, u_56_211, u_56_214, u_56_215, u_56_218, u_56_219, u_56_222, u_56_257, gI0, gIs, gR0, gRs, gF0, gFs, st0, st_i, st_r, st_f, st_n, st_s, true_and, and_true, ↓ifLeT, ↓ifLeF, ↓ifLtT, ↓ifLtF, ↓ifEqT, ↓ifEqF, if_tt, if_ff, if_pos, if_neg, nLe, nLt, nEq, nInT, nCl, pk_mul, nI_add, Nat.reduceAdd, s_cat_nil, s_cat_i, s_cat_r, s_cat_f, s_cat_l, tl_s, tl_n, cat_i, cat_r, cat_f, nb0, nb1, nbI, if_bI, if_bIr, Nat.zero_le, Nat.reduceLeDiff, Tp_g0, Tp_g1, Tp_g2, Tp_g3, Tp_g4, Tp_g5, Tp_s1, Tp_s2, Tp_s3, Tp_s4, Tp_s5, eN_vN, eI_vN, eB_vN, eA_vN, eF_vN, eP_vN, eN_vI, eI_vI, eB_vI, eA_vI, eF_vI, eP_vI, eN_vB, eI_vB, eB_vB, eA_vB, eF_vB, eP_vB, eN_vA, eI_vA, eB_vA, eA_vA, eF_vA, eP_vA, eN_vF, eI_vF, eB_vF, eA_vF, eF_vF, eP_vF, eN_vP, eI_vP, eB_vP, eA_vP, eF_vP, eP_vP, Nat.reduceEqDiff, n2, pk_sub, c3, reduceIte]
      | false =>
        rw [if_neg (by decide)]
        by_cases c3 : eA t 0 (skT t) = nI 59
        · rw [if_pos c3]
          simp (disch := omega) only [u_56_45, u_56_46, u_56_49, u_56_50, u_56_53, u_56_56, u_56_57, u_56_58, u_56_61, u_56_64, u_56_65, u_56_66, u_56_69, u_56_72, u_56_75, u_56_121, u_56_122, u_56_123, u_56_126, u_56_129, u_56_132, u_56_225, u_56_226, u_56_227, u_56_228, u_56_231, u_56_234, u_56_236, u_56_239, u_56_240, u_56_243, u_56_244, u_56_247, u_56_248, u_56_249, u_56_252, u_56_253, u_56_254, u_56_257, gI0, gIs, gR0, gRs, gF0, gFs, st0, st_i, st_r, st_f, st_n, st_s, true_and, and_true, ↓ifLeT, ↓ifLeF, ↓ifLtT, ↓ifLtF, ↓ifEqT, ↓ifEqF, if_tt, if_ff, if_pos, if_neg, nLe, nLt, nEq, nInT, nCl, pk_mul, nI_add, Nat.reduceAdd, s_cat_nil, s_cat_i, s_cat_r, s_cat_f, s_cat_l, tl_s, tl_n, cat_i, cat_r, cat_f, nb0, nb1, nbI, if_bI, if_bIr, Nat.zero_le, Nat.reduceLeDiff, Tp_g0, Tp_g1, Tp_g2, Tp_g3, Tp_g4, Tp_g5, Tp_s1, Tp_s2, Tp_s3, Tp_s4, Tp_s5, eN_vN, eI_vN, eB_vN, eA_vN, eF_vN, eP_vN, eN_vI, eI_vI, eB_vI, eA_vI, eF_vI, eP_vI, eN_vB, eI_vB, eB_vB, eA_vB, eF_vB, eP_vB, eN_vA, eI_vA, eB_vA, eA_vA, eF_vA, eP_vA, eN_vF, eI_vF, eB_vF, eA_vF, eF_vF, eP_vF, eN_vP, eI_vP, eB_vP, eA_vP, eF_vP, eP_vP, n1, n5, Tp_ob, e1, m_isLetter, m_isDigit, let59, dig59, iB, reduceIte, c3]
        · rw [if_neg c3]
          simp (disch := omega) only [u_56_45, u_56_46, u_56_49, u_56_50, u_56_53, u_56_56, u_56_57, u_56_58, u_56_61, u_56_64, u_56_65, u_56_66, u_56_69, u_56_72, u_56_75, u_56_121, u_56_122, u_56_123, u_56_126, u_56_129, u_56_132, u_56_225, u_56_226, u_56_227, u_56_228, u_56_231, u_56_234, u_56_236, u_56_239, u_56_240, u_56_243, u_56_244, u_56_247, u_56_248, u_56_249, u_56_252, u_56_253, u_56_254, u_56_257, gI0, gIs, gR0, gRs, gF0, gFs, st0, st_i, st_r, st_f, st_n, st_s, true_and, and_true, ↓ifLeT, ↓ifLeF, ↓ifLtT, ↓ifLtF, ↓ifEqT, ↓ifEqF, if_tt, if_ff, if_pos, if_neg, nLe, nLt, nEq, nInT, nCl, pk_mul, nI_add, Nat.reduceAdd, s_cat_nil, s_cat_i, s_cat_r, s_cat_f, s_cat_l, tl_s, tl_n, cat_i, cat_r, cat_f, nb0, nb1, nbI, if_bI, if_bIr, Nat.zero_le, Nat.reduceLeDiff, Tp_g0, Tp_g1, Tp_g2, Tp_g3, Tp_g4, Tp_g5, Tp_s1, Tp_s2, Tp_s3, Tp_s4, Tp_s5, eN_vN, eI_vN, eB_vN, eA_vN, eF_vN, eP_vN, eN_vI, eI_vI, eB_vI, eA_vI, eF_vI, eP_vI, eN_vB, eI_vB, eB_vB, eA_vB, eF_vB, eP_vB, eN_vA, eI_vA, eB_vA, eA_vA, eF_vA, eP_vA, eN_vF, eI_vF, eB_vF, eA_vF, eF_vF, eP_vF, eN_vP, eI_vP, eB_vP, eA_vP, eF_vP, eP_vP, n1, n5, Tp_ob, e1, m_isLetter, m_isDigit, c1, c2, iB, reduceIte, c3]
theorem okT_adv (ht : okT0 t) : okT (advT t) := by
  obtain ⟨s1, s2⟩ := skT_le ht
  have r1 := runF_le (f := letB) (g := eA t 0) (eN t 1 - skT t) (skT t)
  have r2 := runF_le (f := digB) (g := eA t 0) (eN t 1 - skT t) (skT t)
  have h1 := ht.1
  unfold advT
  split
  · exact ⟨h1, s2, Nat.le_refl _⟩
  · split
    · exact ⟨h1, show runF letB _ _ _ ≤ eN t 1 by omega, show skT t ≤ runF letB _ _ _ from r1.1⟩
    · split
      · exact ⟨h1, show runF digB _ _ _ ≤ eN t 1 by omega, show skT t ≤ runF digB _ _ _ from r2.1⟩
      · exact ⟨h1, show skT t + 1 ≤ eN t 1 by omega, show skT t ≤ skT t + 1 by omega⟩
def rewT (t : tO) : tO := advT (vN t 5 0)
theorem okT_rew (hL : eN t 1 ≤ 400) : okT (rewT t) := okT_adv (t := vN t 5 0) ⟨hL, Nat.zero_le _⟩
theorem m_rewind (hL : eN t 1 ≤ 400) : MT (d + 3) 55 [.ref b] (pTp b t h) Q ↔ Q none (pTp b (rewT t) h) := by
  have ht : okT0 (vN t 5 0) := ⟨hL, Nat.zero_le _⟩
  rw [MT_go (by decide) _ _ _ (Nat.le_of_ble_eq_true rfl), show s_entry 55 [.ref b] = [.ref b] from rfl]
  simp (disch := omega) only [u_55_0, u_55_1, u_55_2, u_55_5, u_55_6, u_55_9, gI0, gIs, gR0, gRs, gF0, gFs, st0, st_i, st_r, st_f, st_n, st_s, true_and, and_true, ↓ifLeT, ↓ifLeF, ↓ifLtT, ↓ifLtF, ↓ifEqT, ↓ifEqF, if_tt, if_ff, if_pos, if_neg, nLe, nLt, nEq, nInT, nCl, pk_mul, nI_add, Nat.reduceAdd, s_cat_nil, s_cat_i, s_cat_r, s_cat_f, s_cat_l, tl_s, tl_n, cat_i, cat_r, cat_f, nb0, nb1, nbI, if_bI, if_bIr, Nat.zero_le, Nat.reduceLeDiff, Tp_g0, Tp_g1, Tp_g2, Tp_g3, Tp_g4, Tp_g5, Tp_s1, Tp_s2, Tp_s3, Tp_s4, Tp_s5, Tp_ob, m_advance ht]
  exact Iff.rfl
theorem m_taken (ht : okT0 t) : MT (d + 3) 59 [.ref b] (pTp b t h) Q ↔ Q (some (.int (eI t 4))) (pTp b (advT t) h) := by
  rw [MT_go (by decide) _ _ _ (Nat.le_of_ble_eq_true rfl), show s_entry 59 [.ref b] = [.ref b, s_no] from rfl]
  simp (disch := omega) only [u_59_0, u_59_1, u_59_4, u_59_5, u_59_6, u_59_9, u_59_10, gI0, gIs, gR0, gRs, gF0, gFs, st0, st_i, st_r, st_f, st_n, st_s, true_and, and_true, ↓ifLeT, ↓ifLeF, ↓ifLtT, ↓ifLtF, ↓ifEqT, ↓ifEqF, if_tt, if_ff, if_pos, if_neg, nLe, nLt, nEq, nInT, nCl, pk_mul, nI_add, Nat.reduceAdd, s_cat_nil, s_cat_i, s_cat_r, s_cat_f, s_cat_l, tl_s, tl_n, cat_i, cat_r, cat_f, nb0, nb1, nbI, if_bI, if_bIr, Nat.zero_le, Nat.reduceLeDiff, Tp_g0, Tp_g1, Tp_g2, Tp_g3, Tp_g4, Tp_g5, Tp_ob, m_advance ht]
/-- the texts -/
def txF (j : Nat) : List Int32 := s_txt.getD j []
theorem MT_ext {m : Nat} {as : List Value} (hm : ¬ m < 1000) : MT (d + 1) m as h Q = s_ext (MT d) m as h Q := if_neg hm
theorem x_len {j : Nat} (hj : j < 9) : MT (d + 1) 1000 [.ref (1000001 + j)] h Q ↔ Q (some (.int (nI (txF j).length))) h := by
  rw [MT_ext (by decide)]
  show (∃ j', j' < 9 ∧ [Value.ref (1000001 + j)] = [Value.ref (1000001 + j')] ∧ _) ↔ _
  constructor
  · rintro ⟨j', -, e, hq⟩
    have e1 : j = j' := by simp only [List.cons.injEq, Value.ref.injEq, and_true] at e; exact Nat.add_left_cancel (n := 1000001) e
    rw [e1]
    exact hq
  · exact fun hq => ⟨j, hj, rfl, hq⟩
theorem x_at {j q : Nat} (hj : j < 9) (hq : q < (txF j).length) (hl : (txF j).length < 2 ^ 31) : MT (d + 1) 1001 [.ref (1000001 + j), .int (nI q)] h Q ↔ Q (some (.int ((txF j).getD q 0))) h := by
  rw [MT_ext (by decide)]
  have hc : (nI q).toNatClampNeg = q := nCl (by omega)
  show (∃ j' i, j' < 9 ∧ [Value.ref (1000001 + j), Value.int (nI q)] = [Value.ref (1000001 + j'), Value.int i] ∧ _ ∧ _) ↔ _
  constructor
  · rintro ⟨j', i, -, e, -, hq⟩
    simp only [List.cons.injEq, Value.ref.injEq, Value.int.injEq, and_true] at e
    have e1 : j = j' := Nat.add_left_cancel (n := 1000001) e.1
    rw [← e.2, ← e1, hc] at hq
    exact hq
  · exact fun z => ⟨j, nI q, hj, rfl, (nIn (by omega)).mpr hq, by rw [hc]; exact z⟩
theorem tx_len {j : Nat} : (txF j).length ≤ 5 := by
  match j with
  | 0 => decide
  | 1 => decide
  | 2 => decide
  | 3 => decide
  | 4 => decide
  | 5 => decide
  | 6 => decide
  | 7 => decide
  | 8 => decide
  | n + 9 => exact Nat.zero_le 5
/-- the bytes of a word -/
def eqF (g : Nat → Int32) (s : Nat) (w : List Int32) : Nat → Nat → Bool
  | 0, _ => true
  | n + 1, q => if g (s + q) = w.getD q 0 then eqF g s w n (q + 1) else false
def isWB (t : tO) (j : Nat) : Bool := decide (eI t 3 = nI 1) && (decide (eN t 5 - eN t 2 = (txF j).length) && eqF (eA t 0) (eN t 2) (txF j) (txF j).length 0)
theorem isWord_lp {j : Nat} (hj : j < 9) (ht : okT t) (hl : eN t 5 - eN t 2 = (txF j).length) : ∀ n q, q + n = (txF j).length → (WP (d + 1) 57 28 [.ref b, .ref (1000001 + j), .int (nI q)] [] (pTp b t h) (0, 0) Q ↔ Q (some (.int (iB (eqF (eA t 0) (eN t 2) (txF j) n q)))) (pTp b t h)) := by
  have h5 := tx_len (j := j)
  obtain ⟨t1, t2, t3⟩ := ht
  have e0 := fun h Q => x_len (d := d) (h := h) (Q := Q) hj
  intro n
  induction n with
  | zero =>
    intro q hq
    have e : q = (txF j).length := by omega
    subst e
    simp (disch := omega) only [u_57_28, u_57_29, u_57_30, u_57_33, u_57_62, u_57_63, gI0, gIs, gR0, gRs, gF0, gFs, st0, st_i, st_r, st_f, st_n, st_s, true_and, and_true, ↓ifLeT, ↓ifLeF, ↓ifLtT, ↓ifLtF, ↓ifEqT, ↓ifEqF, if_tt, if_ff, if_pos, if_neg, nLe, nLt, nEq, nInT, nCl, pk_mul, nI_add, Nat.reduceAdd, s_cat_nil, s_cat_i, s_cat_r, s_cat_f, s_cat_l, tl_s, tl_n, cat_i, cat_r, cat_f, nb0, nb1, nbI, if_bI, if_bIr, Nat.zero_le, Nat.reduceLeDiff, e0, eqF, iB, Nat.le_refl]
  | succ n ih =>
    intro q hq
    rw [u_57_28, eqF]
    have e1 := fun Q => m_byteAt (d := d) (b := b) (t := t) (h := h) (Q := Q) (j := eN t 2 + q) (by omega)
    have e2 := fun h Q => x_at (d := d) (h := h) (Q := Q) (q := q) hj (by omega) (by omega)
    by_cases h1 : eA t 0 (eN t 2 + q) = (txF j).getD q 0
    · rw [if_pos h1]
      simp (disch := omega) only [u_57_29, u_57_30, u_57_33, u_57_36, u_57_37, u_57_38, u_57_41, u_57_42, u_57_43, u_57_46, u_57_47, u_57_48, u_57_51, u_57_54, u_57_55, u_57_56, u_57_59, gI0, gIs, gR0, gRs, gF0, gFs, st0, st_i, st_r, st_f, st_n, st_s, true_and, and_true, ↓ifLeT, ↓ifLeF, ↓ifLtT, ↓ifLtF, ↓ifEqT, ↓ifEqF, if_tt, if_ff, if_pos, if_neg, nLe, nLt, nEq, nInT, nCl, pk_mul, nI_add, Nat.reduceAdd, s_cat_nil, s_cat_i, s_cat_r, s_cat_f, s_cat_l, tl_s, tl_n, cat_i, cat_r, cat_f, nb0, nb1, nbI, if_bI, if_bIr, Nat.zero_le, Nat.reduceLeDiff, Tp_g0, Tp_g1, Tp_g2, Tp_g3, Tp_g4, Tp_g5, Tp_ob, e0, e1, e2, h1, ih (q + 1) (by omega)]
    · rw [if_neg h1]
      simp (disch := omega) only [u_57_29, u_57_30, u_57_33, u_57_36, u_57_37, u_57_38, u_57_41, u_57_42, u_57_43, u_57_46, u_57_47, u_57_48, u_57_51, u_57_54, u_57_55, u_57_56, u_57_59, gI0, gIs, gR0, gRs, gF0, gFs, st0, st_i, st_r, st_f, st_n, st_s, true_and, and_true, ↓ifLeT, ↓ifLeF, ↓ifLtT, ↓ifLtF, ↓ifEqT, ↓ifEqF, if_tt, if_ff, if_pos, if_neg, nLe, nLt, nEq, nInT, nCl, pk_mul, nI_add, Nat.reduceAdd, s_cat_nil, s_cat_i, s_cat_r, s_cat_f, s_cat_l, tl_s, tl_n, cat_i, cat_r, cat_f, nb0, nb1, nbI, if_bI, if_bIr, Nat.zero_le, Nat.reduceLeDiff, Tp_g0, Tp_g1, Tp_g2, Tp_g3, Tp_g4, Tp_g5, Tp_ob, e0, e1, e2, h1, iB, reduceIte]
theorem m_isWord {j : Nat} (hj : j < 9) (ht : okT t) : MT (d + 2) 57 [.ref b, .ref (1000001 + j)] (pTp b t h) Q ↔ Q (some (.int (iB (isWB t j)))) (pTp b t h) := by
  have h5 := tx_len (j := j)
  have e0 := fun h Q => x_len (d := d) (h := h) (Q := Q) hj
  rw [MT_go (by decide) _ _ _ (Nat.le_of_ble_eq_true rfl), show s_entry 57 [.ref b, .ref (1000001 + j)] = [.ref b, .ref (1000001 + j), s_no] from rfl]
  unfold isWB
  by_cases h1 : eI t 3 = nI 1
  · rw [decide_eq_true h1, Bool.true_and]
    by_cases h2 : eN t 5 - eN t 2 = (txF j).length
    · rw [decide_eq_true h2, Bool.true_and]
      have e1 := isWord_lp (d := d) (b := b) (h := h) (Q := Q) hj ht h2 (txF j).length 0 (Nat.zero_add _)
      obtain ⟨t1, t2, t3⟩ := ht
      simp (disch := omega) only [u_57_0, u_57_1, u_57_4, u_57_5, u_57_8, u_57_9, u_57_12, u_57_13, u_57_16, u_57_17, u_57_18, u_57_21, u_57_24, u_57_25, u_57_26, u_57_27, gI0, gIs, gR0, gRs, gF0, gFs, st0, st_i, st_r, st_f, st_n, st_s, true_and, and_true, ↓ifLeT, ↓ifLeF, ↓ifLtT, ↓ifLtF, ↓ifEqT, ↓ifEqF, if_tt, if_ff, if_pos, if_neg, nLe, nLt, nEq, nInT, nCl, pk_mul, nI_add, Nat.reduceAdd, s_cat_nil, s_cat_i, s_cat_r, s_cat_f, s_cat_l, tl_s, tl_n, cat_i, cat_r, cat_f, nb0, nb1, nbI, if_bI, if_bIr, Nat.zero_le, Nat.reduceLeDiff, Tp_g0, Tp_g1, Tp_g2, Tp_g3, Tp_g4, Tp_g5, h1, pk_sub, e0, h2, e1]
    · rw [decide_eq_false h2, Bool.false_and]
      obtain ⟨t1, t2, t3⟩ := ht
      simp (disch := omega) only [u_57_0, u_57_1, u_57_4, u_57_5, u_57_8, u_57_9, u_57_12, u_57_13, u_57_16, u_57_17, u_57_18, u_57_21, u_57_24, u_57_25, u_57_26, u_57_27, gI0, gIs, gR0, gRs, gF0, gFs, st0, st_i, st_r, st_f, st_n, st_s, true_and, and_true, ↓ifLeT, ↓ifLeF, ↓ifLtT, ↓ifLtF, ↓ifEqT, ↓ifEqF, if_tt, if_ff, if_pos, if_neg, nLe, nLt, nEq, nInT, nCl, pk_mul, nI_add, Nat.reduceAdd, s_cat_nil, s_cat_i, s_cat_r, s_cat_f, s_cat_l, tl_s, tl_n, cat_i, cat_r, cat_f, nb0, nb1, nbI, if_bI, if_bIr, Nat.zero_le, Nat.reduceLeDiff, Tp_g0, Tp_g1, Tp_g2, Tp_g3, Tp_g4, Tp_g5, h1, pk_sub, e0, h2, reduceIte, iB]
  · rw [decide_eq_false h1, Bool.false_and]
    simp (disch := omega) only [u_57_0, u_57_1, u_57_4, u_57_5, u_57_8, u_57_9, u_57_12, u_57_13, u_57_16, u_57_17, u_57_18, u_57_21, u_57_24, u_57_25, u_57_26, u_57_27, gI0, gIs, gR0, gRs, gF0, gFs, st0, st_i, st_r, st_f, st_n, st_s, true_and, and_true, ↓ifLeT, ↓ifLeF, ↓ifLtT, ↓ifLtF, ↓ifEqT, ↓ifEqF, if_tt, if_ff, if_pos, if_neg, nLe, nLt, nEq, nInT, nCl, pk_mul, nI_add, Nat.reduceAdd, s_cat_nil, s_cat_i, s_cat_r, s_cat_f, s_cat_l, tl_s, tl_n, cat_i, cat_r, cat_f, nb0, nb1, nbI, if_bI, if_bIr, Nat.zero_le, Nat.reduceLeDiff, Tp_g0, Tp_g1, Tp_g2, Tp_g3, Tp_g4, Tp_g5, h1, reduceIte, iB]
end TA
