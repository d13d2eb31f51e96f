/-! the reference's reader: a QUAY's lines -/
def RDF (m : tM) (y : tY) : Prop := RD m y ∧ ∀ t, t < 8 → kA m 322 (50 + 7 * t + 5) = -1 ∧ kA m 322 (50 + 7 * t + 6) = -1
/-- what is behind the reading of a QUAY -/
def KQ (Q : sQ) (h : sH) (m : tM) (R : Bool × tO × tY) : Prop := (R.1 = true → ∀ m', frU m m' → TT m' R.2.1 → RDF m' R.2.2 → Q (some (.int (-1))) (pM m' h)) ∧ (R.1 = false → ∀ m', frU m m' → TT m' R.2.1 → eN R.2.1 2 ≤ 400 → Q (some (.int (nI (eN R.2.1 2)))) (pM m' h))
theorem KQ_fr {Q : sQ} {h : sH} {m m' : tM} {R : Bool × tO × tY} (hf : frU m m') (K : KQ Q h m R) : KQ Q h m' R := ⟨fun e m2 f => K.1 e m2 (frU_t hf f), fun e m2 f => K.2 e m2 (frU_t hf f)⟩
theorem w24 {t : tO} (h : isWB t 2 = true) : isWB t 4 = false := by
  unfold isWB at h ⊢
  rw [Bool.and_eq_true, Bool.and_eq_true, decide_eq_true_eq, decide_eq_true_eq] at h
  have e : (txF 2).length = 5 := rfl
  have e2 : (txF 4).length = 4 := rfl
  rw [decide_eq_false (show ¬ eN t 5 - eN t 2 = (txF 4).length by omega), Bool.false_and, Bool.and_false]
theorem RD_0 {m : tM} {y : tY} (h1 : kI m 14 = yB y 0) (h2 : kI m 15 = yB y 1) (h3 : kI m 16 = nI 0) (h4 : yC y = 0) (h5 : yT y = 0) (h6 : ∀ j, j < 106 → kA m 322 j = nI 0) : RD m y := by
  refine ⟨h1, h2, by rw [h4]; exact h3, by rw [h5]; exact h6 1 (by decide), fun c hc => ?_, fun t ht => ?_, fun c i hc hi hi3 => h6 _ (by omega), fun t ht => h6 _ (by omega), h6 0 (by decide)⟩
  · rw [h4] at hc; exact absurd hc (Nat.not_lt_zero c)
  · rw [h5] at ht; exact absurd ht (Nat.not_lt_zero t)
section MQU
variable {d : Nat} {m : tM} {t : tO} {y : tY} {h : sH} {Q : sQ} {n : tN}
theorem rq_fin {v1 : Int32} {m0 : tM} (K : ∀ f, (∀ t, t < 8 → f (50 + 7 * t + 5) = -1 ∧ f (50 + 7 * t + 6) = -1) → (∀ j, (∀ t, t < 8 → j ≠ 50 + 7 * t + 5 ∧ j ≠ 50 + 7 * t + 6) → f j = kA m0 322 j) → Q (some (.int (kI m0 5))) (pM (xA m0 322 f) h)) : ∀ q k f, k + q = 8 → (∀ t, t < k → f (50 + 7 * t + 5) = -1 ∧ f (50 + 7 * t + 6) = -1) → (∀ j, (∀ t, t < 8 → j ≠ 50 + 7 * t + 5 ∧ j ≠ 50 + 7 * t + 6) → f j = kA m0 322 j) → WP (d + 5) 165 167 [.ref 317, .int v1, .int (nI k)] [] (pM (xA m0 322 f) h) (0, 0) Q := by
  intro q
  induction q with
  | zero =>
    intro k f hk h1 h2
    have e : k = 8 := by omega
    subst e
    rw [u_165_167]
    simp (disch := omega) only [u_165_168, u_165_170, u_165_173, u_165_174, u_165_177, u_165_178, u_165_179, u_165_182, u_165_183, u_165_184, u_165_185, u_165_188, u_165_189, u_165_191, u_165_194, u_165_195, u_165_196, u_165_199, u_165_202, u_165_203, u_165_206, gI0, gIs, gR0, gRs, gF0, gFs, st0, st_i, st_r, st_f, st_n, st_s, true_and, and_true, ↓ifLeT, ↓ifLeF, ↓ifLtT, ↓ifLtF, ↓ifEqT, ↓ifEqF, if_tt, if_ff, if_pos, if_neg, nLe, nLt, nEq, nInT, nCl, pk_mul, nI_add, Nat.reduceAdd, s_cat_nil, s_cat_i, s_cat_r, s_cat_f, s_cat_l, tl_s, tl_n, cat_i, cat_r, cat_f, nb0, nb1, nbI, if_bI, if_bIr, Nat.zero_le, Nat.reduceLeDiff, M_g0, M_g1, M_g2, M_g3, M_g4, M_g5, M_g6, M_g7, M_g8, M_g9, M_g10, M_g11, M_g12, M_g13, M_g14, M_g15, M_g16, M_g17, M_g18, M_g19, M_g20, M_g21, M_g22, M_g23, M_g24, M_g25, M_g26, M_g27, M_g28, M_g29, M_g30, M_g31, M_g32, M_g33, M_g34, M_g35, M_g36, M_g37, M_g38, M_g39, M_g40, M_g41, kI_xI, kI_xB, kI_xA, kI_xV, kB_xI, kB_xB, kB_xA, kB_xV, kA_xI, kA_xB, kA_xA, kA_xV, kV_xI, kV_xB, kV_xA, kV_xV, Nat.reduceEqDiff, reduceIte]
    exact K f h1 h2
  | succ q ih =>
    intro k f hk h1 h2
    rw [u_165_167]
    simp (disch := omega) only [u_165_168, u_165_170, u_165_173, u_165_174, u_165_177, u_165_178, u_165_179, u_165_182, u_165_183, u_165_184, u_165_185, u_165_188, u_165_189, u_165_191, u_165_194, u_165_195, u_165_196, u_165_199, u_165_202, u_165_203, u_165_206, gI0, gIs, gR0, gRs, gF0, gFs, st0, st_i, st_r, st_f, st_n, st_s, true_and, and_true, ↓ifLeT, ↓ifLeF, ↓ifLtT, ↓ifLtF, ↓ifEqT, ↓ifEqF, if_tt, if_ff, if_pos, if_neg, nLe, nLt, nEq, nInT, nCl, pk_mul, nI_add, Nat.reduceAdd, s_cat_nil, s_cat_i, s_cat_r, s_cat_f, s_cat_l, tl_s, tl_n, cat_i, cat_r, cat_f, nb0, nb1, nbI, if_bI, if_bIr, Nat.zero_le, Nat.reduceLeDiff, M_g0, M_g1, M_g2, M_g3, M_g4, M_g5, M_g6, M_g7, M_g8, M_g9, M_g10, M_g11, M_g12, M_g13, M_g14, M_g15, M_g16, M_g17, M_g18, M_g19, M_g20, M_g21, M_g22, M_g23, M_g24, M_g25, M_g26, M_g27, M_g28, M_g29, M_g30, M_g31, M_g32, M_g33, M_g34, M_g35, M_g36, M_g37, M_g38, M_g39, M_g40, M_g41, m_tAt, M_rw rb322, kA_eq, xA_tw]
    refine ih (k + 1) _ (by omega) (fun t ht => ?_) fun j hj => ?_
    · by_cases e : t = k
      · subst e
        exact ⟨by rw [upd_ne (by omega)]; exact upd_eq _ _ _, upd_eq _ _ _⟩
      · rw [upd_ne (by omega), upd_ne (by omega), upd_ne (by omega), upd_ne (by omega)]
        exact h1 t (by omega)
    · obtain ⟨a, b⟩ := hj k (by omega)
      rw [upd_ne b, upd_ne a]
      exact h2 j hj
theorem rq_fin0 {v1 : Int32} (K : ∀ f, (∀ t, t < 8 → f (50 + 7 * t + 5) = -1 ∧ f (50 + 7 * t + 6) = -1) → (∀ j, (∀ t, t < 8 → j ≠ 50 + 7 * t + 5 ∧ j ≠ 50 + 7 * t + 6) → f j = kA m 322 j) → Q (some (.int (kI m 5))) (pM (xA m 322 f) h)) : WP (d + 5) 165 167 [.ref 317, .int v1, .int (nI 0)] [] (pM m h) (0, 0) Q := by
  have := rq_fin (d := d) (v1 := v1) K 8 0 (kA m 322) rfl (fun t ht => absurd ht (Nat.not_lt_zero t)) fun _ _ => rfl
  rw [xA_eta] at this
  exact this
/-- a fault stands -/
theorem rq_b85 {v2 : Value} (o : eN t 2 ≤ 400) (h5 : kI m 5 = nI (eN t 2)) (hT : TT m t) (K : KQ Q h m (false, t, y)) : WP (d + 5) 165 85 [.ref 317, .int (nI 0), v2] [] (pM m h) (0, 0) Q := by
  have n5' := m1_ne (j := eN t 2) (by omega)
  have n5 : ¬ kI m 5 = -1 := by rw [h5]; exact n5'
  have e2 := fun Q => r_end1 (d := d + 3) (h := h) (Q := Q) n5
  rw [u_165_85]
  simp (disch := omega) only [u_165_86, u_165_89, u_165_90, u_165_92, u_165_95, u_165_98, u_165_99, u_165_102, u_165_103, u_165_104, u_165_107, u_165_108, u_165_111, u_165_114, u_165_115, u_165_117, u_165_120, u_165_123, u_165_124, u_165_127, u_165_130, u_165_131, u_165_134, u_165_135, u_165_138, u_165_139, u_165_142, u_165_143, u_165_146, u_165_147, u_165_150, u_165_151, u_165_154, u_165_155, u_165_158, u_165_161, u_165_162, u_165_165, u_165_166, gI0, gIs, gR0, gRs, gF0, gFs, st0, st_i, st_r, st_f, st_n, st_s, true_and, and_true, ↓ifLeT, ↓ifLeF, ↓ifLtT, ↓ifLtF, ↓ifEqT, ↓ifEqF, if_tt, if_ff, if_pos, if_neg, nLe, nLt, nEq, nInT, nCl, pk_mul, nI_add, Nat.reduceAdd, s_cat_nil, s_cat_i, s_cat_r, s_cat_f, s_cat_l, tl_s, tl_n, cat_i, cat_r, cat_f, nb0, nb1, nbI, if_bI, if_bIr, Nat.zero_le, Nat.reduceLeDiff, M_ob, M_g0, M_g1, M_g2, M_g3, M_g4, M_g5, M_g6, M_g7, M_g8, M_g9, M_g10, M_g11, M_g12, M_g13, M_g14, M_g15, M_g16, M_g17, M_g18, M_g19, M_g20, M_g21, M_g22, M_g23, M_g24, M_g25, M_g26, M_g27, M_g28, M_g29, M_g30, M_g31, M_g32, M_g33, M_g34, M_g35, M_g36, M_g37, M_g38, M_g39, M_g40, M_g41, e2, h5, n5', reduceIte]
  refine rq_fin0 (d := d) fun f h1 h2 => ?_
  rw [h5]
  exact K.2 rfl _ (frU_A (Or.inr rfl)) (TT_W frW_A hT) o
theorem rq_b134 {v1 : Int32} {v2 : Value} (o : eN t 2 ≤ 400) (h5 : kI m 5 = nI (eN t 2)) (hT : TT m t) (K : KQ Q h m (false, t, y)) : WP (d + 5) 165 134 [.ref 317, .int v1, v2] [] (pM m h) (0, 0) Q := by
  have n5 : ¬ kI m 5 = -1 := by rw [h5]; exact m1_ne (by omega)
  have e1 := fun Q => r_semi1 (d := d + 2) (h := h) (Q := Q) n5
  simp (disch := omega) only [u_165_134, u_165_135, u_165_138, u_165_139, gI0, gIs, gR0, gRs, gF0, gFs, st0, st_i, st_r, st_f, st_n, st_s, true_and, and_true, ↓ifLeT, ↓ifLeF, ↓ifLtT, ↓ifLtF, ↓ifEqT, ↓ifEqF, if_tt, if_ff, if_pos, if_neg, nLe, nLt, nEq, nInT, nCl, pk_mul, nI_add, Nat.reduceAdd, s_cat_nil, s_cat_i, s_cat_r, s_cat_f, s_cat_l, tl_s, tl_n, cat_i, cat_r, cat_f, nb0, nb1, nbI, if_bI, if_bIr, Nat.zero_le, Nat.reduceLeDiff, M_ob, e1]
  exact rq_b85 (d := d) o h5 hT K
theorem rq_b130 {v1 : Int32} {v2 : Value} (hG : GD m t) (K : KQ Q h m (false, t, y)) : WP (d + 5) 165 130 [.ref 317, .int v1, v2] [] (pM m h) (0, 0) Q := by
  have e2 := fun Q => r_bad0 (d := d + 4) (h := h) (Q := Q) hG.2.2.2 hG.2.2.1.1
  simp (disch := omega) only [u_165_130, u_165_131, gI0, gIs, gR0, gRs, gF0, gFs, st0, st_i, st_r, st_f, st_n, st_s, true_and, and_true, ↓ifLeT, ↓ifLeF, ↓ifLtT, ↓ifLtF, ↓ifEqT, ↓ifEqF, if_tt, if_ff, if_pos, if_neg, nLe, nLt, nEq, nInT, nCl, pk_mul, nI_add, Nat.reduceAdd, s_cat_nil, s_cat_i, s_cat_r, s_cat_f, s_cat_l, tl_s, tl_n, cat_i, cat_r, cat_f, nb0, nb1, nbI, if_bI, if_bIr, Nat.zero_le, Nat.reduceLeDiff, M_ob, e2]
  exact rq_b134 (d := d) (tk_max hG) rfl (TT_I hG.1 (by decide)) (KQ_fr (frU_I (by decide)) K)
/-- the end is there, or is wanting -/
theorem rq_end {v2 : Value} (hG : GD m t) (hR : RD m y) (hC : yC y ≤ 4) (K : KQ Q h m (decide (eI t 3 = nI 0 ∧ ¬ yC y = 0), t, y)) : WP (d + 5) 165 85 [.ref 317, .int (nI 0), v2] [] (pM m h) (0, 0) Q := by
  have e2 := fun Q => r_end (d := d + 3) (h := h) (Q := Q) hG
  have o := tk_max hG
  have n5' := m1_ne (j := eN t 2) (by omega)
  have h5 := hG.2.2.2
  have r16 := hR.2.2.1
  have bad : (decide (eI t 3 = nI 0 ∧ ¬ yC y = 0)) = false → ∀ v1 : Int32, WP (d + 5) 165 167 [.ref 317, .int v1, .int (nI 0)] [] (pM (xI m 5 (nI (eN t 2))) h) (0, 0) Q := fun e v1 => by
    rw [e] at K
    refine rq_fin0 (d := d) fun f h1 h2 => ?_
    exact K.2 rfl _ (frU_t (frU_I (by decide)) (frU_A (Or.inr rfl))) (TT_W (frW_t frW_5 frW_A) hG.1) o
  rw [u_165_85]
  simp (disch := omega) only [u_165_86, u_165_142, u_165_143, gI0, gIs, gR0, gRs, gF0, gFs, st0, st_i, st_r, st_f, st_n, st_s, true_and, and_true, ↓ifLeT, ↓ifLeF, ↓ifLtT, ↓ifLtF, ↓ifEqT, ↓ifEqF, if_tt, if_ff, if_pos, if_neg, nLe, nLt, nEq, nInT, nCl, pk_mul, nI_add, Nat.reduceAdd, s_cat_nil, s_cat_i, s_cat_r, s_cat_f, s_cat_l, tl_s, tl_n, cat_i, cat_r, cat_f, nb0, nb1, nbI, if_bI, if_bIr, Nat.zero_le, Nat.reduceLeDiff, M_ob, e2]
  by_cases e0 : eI t 3 = nI 0
  · simp only [if_pos e0]
    by_cases c0 : yC y = 0
    · have bad := bad (decide_eq_false fun z => z.2 c0)
      have e3 := fun Q => r_bad0 (d := d + 4) (h := h) (Q := Q) hG.2.2.2 hG.2.2.1.1
      rw [c0] at r16
      simp (disch := omega) only [u_165_146, u_165_147, u_165_150, u_165_151, u_165_154, u_165_155, u_165_158, u_165_161, u_165_162, u_165_165, u_165_166, gI0, gIs, gR0, gRs, gF0, gFs, st0, st_i, st_r, st_f, st_n, st_s, true_and, and_true, ↓ifLeT, ↓ifLeF, ↓ifLtT, ↓ifLtF, ↓ifEqT, ↓ifEqF, if_tt, if_ff, if_pos, if_neg, nLe, nLt, nEq, nInT, nCl, pk_mul, nI_add, Nat.reduceAdd, s_cat_nil, s_cat_i, s_cat_r, s_cat_f, s_cat_l, tl_s, tl_n, cat_i, cat_r, cat_f, nb0, nb1, nbI, if_bI, if_bIr, Nat.zero_le, Nat.reduceLeDiff, M_ob, M_g0, M_g1, M_g2, M_g3, M_g4, M_g5, M_g6, M_g7, M_g8, M_g9, M_g10, M_g11, M_g12, M_g13, M_g14, M_g15, M_g16, M_g17, M_g18, M_g19, M_g20, M_g21, M_g22, M_g23, M_g24, M_g25, M_g26, M_g27, M_g28, M_g29, M_g30, M_g31, M_g32, M_g33, M_g34, M_g35, M_g36, M_g37, M_g38, M_g39, M_g40, M_g41, h5, r16, e3, reduceIte]
      exact bad _
    · rw [decide_eq_true (show eI t 3 = nI 0 ∧ ¬ yC y = 0 from ⟨e0, c0⟩)] at K
      have ne : ¬ nI (yC y) = nI 0 := fun q => c0 ((nI_eq (by omega) (by omega)).mp q)
      simp (disch := omega) only [u_165_146, u_165_147, u_165_150, u_165_151, u_165_154, u_165_155, u_165_158, u_165_161, u_165_162, u_165_165, u_165_166, gI0, gIs, gR0, gRs, gF0, gFs, st0, st_i, st_r, st_f, st_n, st_s, true_and, and_true, ↓ifLeT, ↓ifLeF, ↓ifLtT, ↓ifLtF, ↓ifEqT, ↓ifEqF, if_tt, if_ff, if_pos, if_neg, nLe, nLt, nEq, nInT, nCl, pk_mul, nI_add, Nat.reduceAdd, s_cat_nil, s_cat_i, s_cat_r, s_cat_f, s_cat_l, tl_s, tl_n, cat_i, cat_r, cat_f, nb0, nb1, nbI, if_bI, if_bIr, Nat.zero_le, Nat.reduceLeDiff, M_ob, M_g0, M_g1, M_g2, M_g3, M_g4, M_g5, M_g6, M_g7, M_g8, M_g9, M_g10, M_g11, M_g12, M_g13, M_g14, M_g15, M_g16, M_g17, M_g18, M_g19, M_g20, M_g21, M_g22, M_g23, M_g24, M_g25, M_g26, M_g27, M_g28, M_g29, M_g30, M_g31, M_g32, M_g33, M_g34, M_g35, M_g36, M_g37, M_g38, M_g39, M_g40, M_g41, h5, r16, ne, reduceIte]
      refine rq_fin0 (d := d) fun f h1 h2 => ?_
      rw [h5]
      refine K.1 rfl _ (frU_A (Or.inr rfl)) (TT_W frW_A hG.1) ⟨?_, by rw [kA_eq]; exact h1⟩
      obtain ⟨r1, r2, r3, r4, rc, rt, r5, r6, r7⟩ := hR
      have ee : ∀ j, (∀ t, t < 8 → j ≠ 50 + 7 * t + 5 ∧ j ≠ 50 + 7 * t + 6) → kA (xA m 322 f) 322 j = kA m 322 j := fun j hj => by rw [kA_eq]; exact h2 j hj
      have e21 : kA (xA m 322 f) 321 = kA m 321 := kA_ne (by decide)
      refine ⟨r1, r2, r3, (ee _ (fun t _ => by omega)).trans r4, fun c hc => ?_, fun t ht => ?_, fun c i hc hi hi3 => (ee _ (fun t _ => by omega)).trans (r5 c i hc hi hi3), fun t ht => (ee _ (fun t _ => by omega)).trans (r6 t ht), (ee _ (fun t _ => by omega)).trans r7⟩
      · have hc : c < yC y := hc
        obtain ⟨a1, a2, a3⟩ := rc c hc
        exact ⟨(ee _ (fun t _ => by omega)).trans a1, by rw [e21]; exact a2, a3⟩
      · obtain ⟨a1, a2, a3, a4, a5⟩ := rt t ht
        exact ⟨(ee _ (fun t _ => by omega)).trans a1, (ee _ (fun t _ => by omega)).trans a2, (ee _ (fun t _ => by omega)).trans a3, (ee _ (fun t _ => by omega)).trans a4, a5⟩
  · simp only [if_neg e0]
    have bad := bad (decide_eq_false fun z => e0 z.1)
    simp (disch := omega) only [u_165_146, u_165_147, u_165_150, u_165_151, u_165_154, u_165_155, u_165_158, u_165_161, u_165_162, u_165_165, u_165_166, gI0, gIs, gR0, gRs, gF0, gFs, st0, st_i, st_r, st_f, st_n, st_s, true_and, and_true, ↓ifLeT, ↓ifLeF, ↓ifLtT, ↓ifLtF, ↓ifEqT, ↓ifEqF, if_tt, if_ff, if_pos, if_neg, nLe, nLt, nEq, nInT, nCl, pk_mul, nI_add, Nat.reduceAdd, s_cat_nil, s_cat_i, s_cat_r, s_cat_f, s_cat_l, tl_s, tl_n, cat_i, cat_r, cat_f, nb0, nb1, nbI, if_bI, if_bIr, Nat.zero_le, Nat.reduceLeDiff, M_ob, M_g0, M_g1, M_g2, M_g3, M_g4, M_g5, M_g6, M_g7, M_g8, M_g9, M_g10, M_g11, M_g12, M_g13, M_g14, M_g15, M_g16, M_g17, M_g18, M_g19, M_g20, M_g21, M_g22, M_g23, M_g24, M_g25, M_g26, M_g27, M_g28, M_g29, M_g30, M_g31, M_g32, M_g33, M_g34, M_g35, M_g36, M_g37, M_g38, M_g39, M_g40, M_g41, kI_xI, kI_xB, kI_xA, kI_xV, kB_xI, kB_xB, kB_xA, kB_xV, kA_xI, kA_xB, kA_xA, kA_xV, kV_xI, kV_xB, kV_xA, kV_xV, Nat.reduceEqDiff, reduceIte, n5', reduceIte]
    exact bad _
/-- behind a line -/
theorem rq_semi {v1 : Int32} {v2 : Value} (hG : GD m t) (hR : RD m y) (h1 : 1 ≤ yC y) (hC : yC y ≤ 4) (K3 : eI t 3 = nI 3 → ∀ m', frR m m' → GD m' (advT t) → WP (d + 5) 165 85 [.ref 317, .int (nI 1), v2] [] (pM m' h) (0, 0) Q) (K : ¬ eI t 3 = nI 3 → KQ Q h m (if eI t 3 = nI 0 then (true, t, y) else (false, t, y))) : WP (d + 5) 165 134 [.ref 317, .int v1, v2] [] (pM m h) (0, 0) Q := by
  simp (disch := omega) only [u_165_134, u_165_135, gI0, gIs, gR0, gRs, gF0, gFs, st0, st_i, st_r, st_f, st_n, st_s, true_and, and_true, ↓ifLeT, ↓ifLeF, ↓ifLtT, ↓ifLtF, ↓ifEqT, ↓ifEqF, if_tt, if_ff, if_pos, if_neg, nLe, nLt, nEq, nInT, nCl, pk_mul, nI_add, Nat.reduceAdd, s_cat_nil, s_cat_i, s_cat_r, s_cat_f, s_cat_l, tl_s, tl_n, cat_i, cat_r, cat_f, nb0, nb1, nbI, if_bI, if_bIr, Nat.zero_le, Nat.reduceLeDiff, M_ob]
  refine r_semi (d := d + 2) hG (fun e3 m' f G => ?_) fun e3 => ?_
  · simp (disch := omega) only [u_165_138, u_165_139, gI0, gIs, gR0, gRs, gF0, gFs, st0, st_i, st_r, st_f, st_n, st_s, true_and, and_true, ↓ifLeT, ↓ifLeF, ↓ifLtT, ↓ifLtF, ↓ifEqT, ↓ifEqF, if_tt, if_ff, if_pos, if_neg, nLe, nLt, nEq, nInT, nCl, pk_mul, nI_add, Nat.reduceAdd, s_cat_nil, s_cat_i, s_cat_r, s_cat_f, s_cat_l, tl_s, tl_n, cat_i, cat_r, cat_f, nb0, nb1, nbI, if_bI, if_bIr, Nat.zero_le, Nat.reduceLeDiff]
    exact K3 e3 m' f G
  · simp (disch := omega) only [u_165_138, u_165_139, gI0, gIs, gR0, gRs, gF0, gFs, st0, st_i, st_r, st_f, st_n, st_s, true_and, and_true, ↓ifLeT, ↓ifLeF, ↓ifLtT, ↓ifLtF, ↓ifEqT, ↓ifEqF, if_tt, if_ff, if_pos, if_neg, nLe, nLt, nEq, nInT, nCl, pk_mul, nI_add, Nat.reduceAdd, s_cat_nil, s_cat_i, s_cat_r, s_cat_f, s_cat_l, tl_s, tl_n, cat_i, cat_r, cat_f, nb0, nb1, nbI, if_bI, if_bIr, Nat.zero_le, Nat.reduceLeDiff]
    refine rq_end (d := d) hG hR hC ?_
    have K := K e3
    by_cases e0 : eI t 3 = nI 0
    · rw [if_pos e0] at K
      rw [decide_eq_true (show eI t 3 = nI 0 ∧ ¬ yC y = 0 from ⟨e0, by omega⟩)]
      exact K
    · rw [if_neg e0] at K
      rw [decide_eq_false (show ¬ (eI t 3 = nI 0 ∧ ¬ yC y = 0) from fun z => e0 z.1)]
      exact K
theorem addT_C {a b c e : Int32} : yC (addT y a b c e) = yC y := by
  unfold addT
  split <;> rfl
theorem addT_T {a b c e : Int32} (hT : yT y < 8) : yT (addT y a b c e) = yT y + 1 := by
  unfold addT
  rw [if_pos hT]
  rfl
theorem rdT_add {w : Int32} (ok : (rdT w t y).1 = true) : ∃ a b c e, (rdT w t y).2.2 = addT y a b c e := by
  unfold rdT enF at ok ⊢
  by_cases h1 : isWB t 4 = true
  · simp only [h1, if_true] at ok ⊢
    split at ok
    · rename_i h2
      simp only [h2, if_true]
      split at ok
      · rename_i h3
        simp only [h3, if_true]
        split at ok
        · rename_i h4
          simp only [h4, if_true]
          split at ok
          · rename_i h5
            simp only [h5, if_true]
            exact ⟨_, _, _, _, rfl⟩
          · cases ok
        · cases ok
      · cases ok
    · cases ok
  · rw [if_neg h1] at ok
    cases ok
theorem rq_tasks {v2 : Value} : ∀ k j m t y, yT y = j → j + k = 8 → 1 ≤ yC y → yC y ≤ 4 → RD m y → GD m t → (j = 0 → isWB t 2 = true → yC y = 4) → KQ Q h m (rdL k j t y) → WP (d + 5) 165 85 [.ref 317, .int (nI 1), v2] [] (pM m h) (0, 0) Q := by
  have c1 : (nI 1).toNatClampNeg = 1 := rfl
  intro k
  induction k with
  | zero =>
    intro j m t y hj hk h1 hC hR hG h2 K
    have e8 : yT y = 8 := by omega
    have r1 : kA m 322 1 = nI 8 := by rw [hR.2.2.2.1, e8]
    have w2 := fun Q => r_word (d := d + 3) (h := h) (Q := Q) (j := 2) (by decide) hG
    have w2 : ∀ Q, MT (d + 5) 154 [.ref 317, .ref 1000003] (pM m h) Q ↔ Q (some (.int (iB (isWB t 2)))) (pM m h) := w2
    have w4 := fun Q => r_word (d := d + 3) (h := h) (Q := Q) (j := 4) (by decide) hG
    have w4 : ∀ Q, MT (d + 5) 154 [.ref 317, .ref 1000005] (pM m h) Q ↔ Q (some (.int (iB (isWB t 4)))) (pM m h) := w4
    have K : KQ Q h m (false, t, y) := K
    have go : WP (d + 5) 165 114 [.ref 317, .int (nI 1), v2] [] (pM m h) (0, 0) Q := by
      cases h4 : isWB t 4 with
      | true =>
        rw [h4] at w4
        simp (disch := omega) only [u_165_114, u_165_115, u_165_117, u_165_120, u_165_123, u_165_124, gI0, gIs, gR0, gRs, gF0, gFs, st0, st_i, st_r, st_f, st_n, st_s, true_and, and_true, ↓ifLeT, ↓ifLeF, ↓ifLtT, ↓ifLtF, ↓ifEqT, ↓ifEqF, if_tt, if_ff, if_pos, if_neg, nLe, nLt, nEq, nInT, nCl, pk_mul, nI_add, Nat.reduceAdd, s_cat_nil, s_cat_i, s_cat_r, s_cat_f, s_cat_l, tl_s, tl_n, cat_i, cat_r, cat_f, nb0, nb1, nbI, if_bI, if_bIr, Nat.zero_le, Nat.reduceLeDiff, M_ob, w4, iBt, nI10]
        refine r_taskB (d := d) hG hR (by omega) hC (Or.inl e8) ?_
        simp (disch := omega) only [u_165_127, gI0, gIs, gR0, gRs, gF0, gFs, st0, st_i, st_r, st_f, st_n, st_s, true_and, and_true, ↓ifLeT, ↓ifLeF, ↓ifLtT, ↓ifLtF, ↓ifEqT, ↓ifEqF, if_tt, if_ff, if_pos, if_neg, nLe, nLt, nEq, nInT, nCl, pk_mul, nI_add, Nat.reduceAdd, s_cat_nil, s_cat_i, s_cat_r, s_cat_f, s_cat_l, tl_s, tl_n, cat_i, cat_r, cat_f, nb0, nb1, nbI, if_bI, if_bIr, Nat.zero_le, Nat.reduceLeDiff]
        exact rq_b134 (d := d) (tk_max hG) rfl (TT_I hG.1 (by decide)) (KQ_fr (frU_I (by decide)) K)
      | false =>
        rw [h4] at w4
        simp (disch := omega) only [u_165_114, u_165_115, u_165_117, u_165_120, gI0, gIs, gR0, gRs, gF0, gFs, st0, st_i, st_r, st_f, st_n, st_s, true_and, and_true, ↓ifLeT, ↓ifLeF, ↓ifLtT, ↓ifLtF, ↓ifEqT, ↓ifEqF, if_tt, if_ff, if_pos, if_neg, nLe, nLt, nEq, nInT, nCl, pk_mul, nI_add, Nat.reduceAdd, s_cat_nil, s_cat_i, s_cat_r, s_cat_f, s_cat_l, tl_s, tl_n, cat_i, cat_r, cat_f, nb0, nb1, nbI, if_bI, if_bIr, Nat.zero_le, Nat.reduceLeDiff, M_ob, w4, iBf]
        exact rq_b130 (d := d) hG K
    rw [u_165_85]
    cases h2 : isWB t 2 with
    | true =>
      rw [h2] at w2
      simp (disch := omega) only [u_165_86, u_165_89, u_165_90, u_165_92, u_165_95, u_165_98, u_165_99, u_165_102, u_165_103, u_165_104, gI0, gIs, gR0, gRs, gF0, gFs, st0, st_i, st_r, st_f, st_n, st_s, true_and, and_true, ↓ifLeT, ↓ifLeF, ↓ifLtT, ↓ifLtF, ↓ifEqT, ↓ifEqF, if_tt, if_ff, if_pos, if_neg, nLe, nLt, nEq, nInT, nCl, pk_mul, nI_add, Nat.reduceAdd, s_cat_nil, s_cat_i, s_cat_r, s_cat_f, s_cat_l, tl_s, tl_n, cat_i, cat_r, cat_f, nb0, nb1, nbI, if_bI, if_bIr, Nat.zero_le, Nat.reduceLeDiff, M_ob, M_g0, M_g1, M_g2, M_g3, M_g4, M_g5, M_g6, M_g7, M_g8, M_g9, M_g10, M_g11, M_g12, M_g13, M_g14, M_g15, M_g16, M_g17, M_g18, M_g19, M_g20, M_g21, M_g22, M_g23, M_g24, M_g25, M_g26, M_g27, M_g28, M_g29, M_g30, M_g31, M_g32, M_g33, M_g34, M_g35, M_g36, M_g37, M_g38, M_g39, M_g40, M_g41, M_r rb322, c1, r1, w2, iBt, nI10]
      exact go
    | false =>
      rw [h2] at w2
      simp (disch := omega) only [u_165_86, u_165_89, u_165_90, u_165_92, u_165_95, u_165_98, u_165_99, u_165_102, u_165_103, u_165_104, gI0, gIs, gR0, gRs, gF0, gFs, st0, st_i, st_r, st_f, st_n, st_s, true_and, and_true, ↓ifLeT, ↓ifLeF, ↓ifLtT, ↓ifLtF, ↓ifEqT, ↓ifEqF, if_tt, if_ff, if_pos, if_neg, nLe, nLt, nEq, nInT, nCl, pk_mul, nI_add, Nat.reduceAdd, s_cat_nil, s_cat_i, s_cat_r, s_cat_f, s_cat_l, tl_s, tl_n, cat_i, cat_r, cat_f, nb0, nb1, nbI, if_bI, if_bIr, Nat.zero_le, Nat.reduceLeDiff, M_ob, w2, iBf]
      exact go
  | succ k ih =>
    intro j m t y hj hk h1 hC hR hG h2 K
    subst hj
    have r1 := hR.2.2.2.1
    have w2 := fun Q => r_word (d := d + 3) (h := h) (Q := Q) (j := 2) (by decide) hG
    have w2 : ∀ Q, MT (d + 5) 154 [.ref 317, .ref 1000003] (pM m h) Q ↔ Q (some (.int (iB (isWB t 2)))) (pM m h) := w2
    have w4 := fun Q => r_word (d := d + 3) (h := h) (Q := Q) (j := 4) (by decide) hG
    have w4 : ∀ Q, MT (d + 5) 154 [.ref 317, .ref 1000005] (pM m h) Q ↔ Q (some (.int (iB (isWB t 4)))) (pM m h) := w4
    have no : isWB t 4 = false → KQ Q h m (false, t, y) := fun h4 => by
      have e : rdT (nI (yT y)) t y = (false, t, y) := by
        unfold rdT
        rw [h4]
        rfl
      rw [rdL, e] at K
      exact K
    have go : WP (d + 5) 165 114 [.ref 317, .int (nI 1), v2] [] (pM m h) (0, 0) Q := by
      cases h4 : isWB t 4 with
      | false =>
        rw [h4] at w4
        simp (disch := omega) only [u_165_114, u_165_115, u_165_117, u_165_120, gI0, gIs, gR0, gRs, gF0, gFs, st0, st_i, st_r, st_f, st_n, st_s, true_and, and_true, ↓ifLeT, ↓ifLeF, ↓ifLtT, ↓ifLtF, ↓ifEqT, ↓ifEqF, if_tt, if_ff, if_pos, if_neg, nLe, nLt, nEq, nInT, nCl, pk_mul, nI_add, Nat.reduceAdd, s_cat_nil, s_cat_i, s_cat_r, s_cat_f, s_cat_l, tl_s, tl_n, cat_i, cat_r, cat_f, nb0, nb1, nbI, if_bI, if_bIr, Nat.zero_le, Nat.reduceLeDiff, M_ob, w4, iBf]
        exact rq_b130 (d := d) hG (no h4)
      | true =>
        rw [h4] at w4
        simp (disch := omega) only [u_165_114, u_165_115, u_165_117, u_165_120, u_165_123, u_165_124, gI0, gIs, gR0, gRs, gF0, gFs, st0, st_i, st_r, st_f, st_n, st_s, true_and, and_true, ↓ifLeT, ↓ifLeF, ↓ifLtT, ↓ifLtF, ↓ifEqT, ↓ifEqF, if_tt, if_ff, if_pos, if_neg, nLe, nLt, nEq, nInT, nCl, pk_mul, nI_add, Nat.reduceAdd, s_cat_nil, s_cat_i, s_cat_r, s_cat_f, s_cat_l, tl_s, tl_n, cat_i, cat_r, cat_f, nb0, nb1, nbI, if_bI, if_bIr, Nat.zero_le, Nat.reduceLeDiff, M_ob, w4, iBt, nI10]
        refine r_readsT (d := d) hG h4 hR h1 hC (by omega) (fun e m' f G' R' => ?_) fun e m' f o e5 T' => ?_
        · obtain ⟨a1, a2, a3, a4, ea⟩ := rdT_add e
          have eC : yC (rdT (nI (yT y)) t y).2.2 = yC y := by rw [ea]; exact addT_C
          have eT : yT (rdT (nI (yT y)) t y).2.2 = yT y + 1 := by rw [ea]; exact addT_T (by omega)
          rw [rdL, if_pos e] at K
          simp (disch := omega) only [u_165_127, gI0, gIs, gR0, gRs, gF0, gFs, st0, st_i, st_r, st_f, st_n, st_s, true_and, and_true, ↓ifLeT, ↓ifLeF, ↓ifLtT, ↓ifLtF, ↓ifEqT, ↓ifEqF, if_tt, if_ff, if_pos, if_neg, nLe, nLt, nEq, nInT, nCl, pk_mul, nI_add, Nat.reduceAdd, s_cat_nil, s_cat_i, s_cat_r, s_cat_f, s_cat_l, tl_s, tl_n, cat_i, cat_r, cat_f, nb0, nb1, nbI, if_bI, if_bIr, Nat.zero_le, Nat.reduceLeDiff]
          refine rq_semi (d := d) G' R' (by omega) (by omega) (fun e3 m2 f2 G2 => ?_) fun e3 => ?_
          · rw [if_neg (by rw [e3]; decide), if_pos e3] at K
            exact ih (yT y + 1) m2 _ _ eT (by omega) (by omega) (by omega) (RD_fr f2 R') G2 (fun q => absurd q (by omega)) (KQ_fr (frU_t (frU_W f) (frU_R f2)) K)
          · rw [if_neg e3] at K
            exact KQ_fr (frU_W f) K
        · rw [rdL, if_neg (by rw [e]; decide)] at K
          simp (disch := omega) only [u_165_127, gI0, gIs, gR0, gRs, gF0, gFs, st0, st_i, st_r, st_f, st_n, st_s, true_and, and_true, ↓ifLeT, ↓ifLeF, ↓ifLtT, ↓ifLtF, ↓ifEqT, ↓ifEqF, if_tt, if_ff, if_pos, if_neg, nLe, nLt, nEq, nInT, nCl, pk_mul, nI_add, Nat.reduceAdd, s_cat_nil, s_cat_i, s_cat_r, s_cat_f, s_cat_l, tl_s, tl_n, cat_i, cat_r, cat_f, nb0, nb1, nbI, if_bI, if_bIr, Nat.zero_le, Nat.reduceLeDiff]
          exact rq_b134 (d := d) (y := (rdT (nI (yT y)) t y).2.2) o e5 T' (KQ_fr (frU_W f) K)
    rw [u_165_85]
    cases hw2 : isWB t 2 with
    | false =>
      rw [hw2] at w2
      simp (disch := omega) only [u_165_86, u_165_89, u_165_90, u_165_92, u_165_95, u_165_98, u_165_99, u_165_102, u_165_103, u_165_104, gI0, gIs, gR0, gRs, gF0, gFs, st0, st_i, st_r, st_f, st_n, st_s, true_and, and_true, ↓ifLeT, ↓ifLeF, ↓ifLtT, ↓ifLtF, ↓ifEqT, ↓ifEqF, if_tt, if_ff, if_pos, if_neg, nLe, nLt, nEq, nInT, nCl, pk_mul, nI_add, Nat.reduceAdd, s_cat_nil, s_cat_i, s_cat_r, s_cat_f, s_cat_l, tl_s, tl_n, cat_i, cat_r, cat_f, nb0, nb1, nbI, if_bI, if_bIr, Nat.zero_le, Nat.reduceLeDiff, M_ob, w2, iBf]
      exact go
    | true =>
      rw [hw2] at w2
      by_cases e0 : yT y = 0
      · rw [e0] at r1
        simp (disch := omega) only [u_165_86, u_165_89, u_165_90, u_165_92, u_165_95, u_165_98, u_165_99, u_165_102, u_165_103, u_165_104, u_165_107, u_165_108, gI0, gIs, gR0, gRs, gF0, gFs, st0, st_i, st_r, st_f, st_n, st_s, true_and, and_true, ↓ifLeT, ↓ifLeF, ↓ifLtT, ↓ifLtF, ↓ifEqT, ↓ifEqF, if_tt, if_ff, if_pos, if_neg, nLe, nLt, nEq, nInT, nCl, pk_mul, nI_add, Nat.reduceAdd, s_cat_nil, s_cat_i, s_cat_r, s_cat_f, s_cat_l, tl_s, tl_n, cat_i, cat_r, cat_f, nb0, nb1, nbI, if_bI, if_bIr, Nat.zero_le, Nat.reduceLeDiff, M_ob, M_g0, M_g1, M_g2, M_g3, M_g4, M_g5, M_g6, M_g7, M_g8, M_g9, M_g10, M_g11, M_g12, M_g13, M_g14, M_g15, M_g16, M_g17, M_g18, M_g19, M_g20, M_g21, M_g22, M_g23, M_g24, M_g25, M_g26, M_g27, M_g28, M_g29, M_g30, M_g31, M_g32, M_g33, M_g34, M_g35, M_g36, M_g37, M_g38, M_g39, M_g40, M_g41, M_r rb322, c1, r1, w2, iBt, nI10]
        refine r_crane4 (d := d + 1) hG hR (h2 e0 hw2) ?_
        simp (disch := omega) only [u_165_111, gI0, gIs, gR0, gRs, gF0, gFs, st0, st_i, st_r, st_f, st_n, st_s, true_and, and_true, ↓ifLeT, ↓ifLeF, ↓ifLtT, ↓ifLtF, ↓ifEqT, ↓ifEqF, if_tt, if_ff, if_pos, if_neg, nLe, nLt, nEq, nInT, nCl, pk_mul, nI_add, Nat.reduceAdd, s_cat_nil, s_cat_i, s_cat_r, s_cat_f, s_cat_l, tl_s, tl_n, cat_i, cat_r, cat_f, nb0, nb1, nbI, if_bI, if_bIr, Nat.zero_le, Nat.reduceLeDiff]
        exact rq_b134 (d := d) (tk_max hG) rfl (TT_I hG.1 (by decide)) (KQ_fr (frU_I (by decide)) (no (w24 hw2)))
      · have ne : ¬ nI (yT y) = nI 0 := fun q => e0 ((nI_eq (by omega) (by omega)).mp q)
        simp (disch := omega) only [u_165_86, u_165_89, u_165_90, u_165_92, u_165_95, u_165_98, u_165_99, u_165_102, u_165_103, u_165_104, gI0, gIs, gR0, gRs, gF0, gFs, st0, st_i, st_r, st_f, st_n, st_s, true_and, and_true, ↓ifLeT, ↓ifLeF, ↓ifLtT, ↓ifLtF, ↓ifEqT, ↓ifEqF, if_tt, if_ff, if_pos, if_neg, nLe, nLt, nEq, nInT, nCl, pk_mul, nI_add, Nat.reduceAdd, s_cat_nil, s_cat_i, s_cat_r, s_cat_f, s_cat_l, tl_s, tl_n, cat_i, cat_r, cat_f, nb0, nb1, nbI, if_bI, if_bIr, Nat.zero_le, Nat.reduceLeDiff, M_ob, M_g0, M_g1, M_g2, M_g3, M_g4, M_g5, M_g6, M_g7, M_g8, M_g9, M_g10, M_g11, M_g12, M_g13, M_g14, M_g15, M_g16, M_g17, M_g18, M_g19, M_g20, M_g21, M_g22, M_g23, M_g24, M_g25, M_g26, M_g27, M_g28, M_g29, M_g30, M_g31, M_g32, M_g33, M_g34, M_g35, M_g36, M_g37, M_g38, M_g39, M_g40, M_g41, M_r rb322, c1, r1, w2, iBt, nI10, ne, reduceIte]
        exact go
theorem addC_C {a b : Int32} (hC : yC y < 4) : yC (addC y a b) = yC y + 1 := by
  unfold addC
  rw [if_pos hC]
  rfl
theorem addC_T {a b : Int32} : yT (addC y a b) = yT y := by
  unfold addC
  split <;> rfl
theorem rq_cranes {v2 : Value} : ∀ k c m t y n, yC y = c → c + k = 4 → yT y = 0 → DI y n → RD m y → GD m t → KQ Q h m (rdK k c t y) → WP (d + 5) 165 85 [.ref 317, .int (nI 1), v2] [] (pM m h) (0, 0) Q := by
  have c1 : (nI 1).toNatClampNeg = 1 := rfl
  intro k
  induction k with
  | zero =>
    intro c m t y n hc hk hT hD hR hG K
    exact rq_tasks (d := d) 8 0 m t y hT rfl (by omega) (by omega) hR hG (fun _ _ => by omega) K
  | succ k ih =>
    intro c m t y n hc hk hT hD hR hG K
    subst hc
    rw [rdK] at K
    have r1 : kA m 322 1 = nI 0 := by rw [hR.2.2.2.1, hT]
    have w2 := fun Q => r_word (d := d + 3) (h := h) (Q := Q) (j := 2) (by decide) hG
    have w2 : ∀ Q, MT (d + 5) 154 [.ref 317, .ref 1000003] (pM m h) Q ↔ Q (some (.int (iB (isWB t 2)))) (pM m h) := w2
    cases hw : isWB t 2 with
    | true =>
      rw [if_pos (Or.inr hw)] at K
      rw [hw] at w2
      rw [u_165_85]
      simp (disch := omega) only [u_165_86, u_165_89, u_165_90, u_165_92, u_165_95, u_165_98, u_165_99, u_165_102, u_165_103, u_165_104, u_165_107, u_165_108, gI0, gIs, gR0, gRs, gF0, gFs, st0, st_i, st_r, st_f, st_n, st_s, true_and, and_true, ↓ifLeT, ↓ifLeF, ↓ifLtT, ↓ifLtF, ↓ifEqT, ↓ifEqF, if_tt, if_ff, if_pos, if_neg, nLe, nLt, nEq, nInT, nCl, pk_mul, nI_add, Nat.reduceAdd, s_cat_nil, s_cat_i, s_cat_r, s_cat_f, s_cat_l, tl_s, tl_n, cat_i, cat_r, cat_f, nb0, nb1, nbI, if_bI, if_bIr, Nat.zero_le, Nat.reduceLeDiff, M_ob, M_g0, M_g1, M_g2, M_g3, M_g4, M_g5, M_g6, M_g7, M_g8, M_g9, M_g10, M_g11, M_g12, M_g13, M_g14, M_g15, M_g16, M_g17, M_g18, M_g19, M_g20, M_g21, M_g22, M_g23, M_g24, M_g25, M_g26, M_g27, M_g28, M_g29, M_g30, M_g31, M_g32, M_g33, M_g34, M_g35, M_g36, M_g37, M_g38, M_g39, M_g40, M_g41, M_r rb322, c1, r1, w2, iBt, nI10]
      refine r_readsC (d := d + 1) hG hw hD hR (by omega) (fun e m' f G' R' => ?_) fun e m' f o e5 T' => ?_
      · obtain ⟨b, l, eb, b1, b2, b3, b4⟩ := rdC_n hD e
        have hD2 := DI_C2 hD (by have := hD.1.1.2.2.1; omega) b1 b2 b3 b4
        rw [← eb] at hD2
        have eC : yC (rdC t y).2.2 = yC y + 1 := by rw [eb]; exact addC_C (by omega)
        have eT : yT (rdC t y).2.2 = 0 := by rw [eb, addC_T, hT]
        rw [if_pos e] at K
        simp (disch := omega) only [u_165_111, gI0, gIs, gR0, gRs, gF0, gFs, st0, st_i, st_r, st_f, st_n, st_s, true_and, and_true, ↓ifLeT, ↓ifLeF, ↓ifLtT, ↓ifLtF, ↓ifEqT, ↓ifEqF, if_tt, if_ff, if_pos, if_neg, nLe, nLt, nEq, nInT, nCl, pk_mul, nI_add, Nat.reduceAdd, s_cat_nil, s_cat_i, s_cat_r, s_cat_f, s_cat_l, tl_s, tl_n, cat_i, cat_r, cat_f, nb0, nb1, nbI, if_bI, if_bIr, Nat.zero_le, Nat.reduceLeDiff]
        refine rq_semi (d := d) G' R' (by omega) (by omega) (fun e3 m2 f2 G2 => ?_) fun e3 => ?_
        · rw [if_neg (by rw [e3]; decide), if_pos e3] at K
          exact ih (yC y + 1) m2 _ _ _ eC (by omega) eT hD2 (RD_fr f2 R') G2 (KQ_fr (frU_t f (frU_R f2)) K)
        · rw [if_neg e3] at K
          exact KQ_fr f K
      · rw [if_neg (by rw [e]; decide)] at K
        simp (disch := omega) only [u_165_111, gI0, gIs, gR0, gRs, gF0, gFs, st0, st_i, st_r, st_f, st_n, st_s, true_and, and_true, ↓ifLeT, ↓ifLeF, ↓ifLtT, ↓ifLtF, ↓ifEqT, ↓ifEqF, if_tt, if_ff, if_pos, if_neg, nLe, nLt, nEq, nInT, nCl, pk_mul, nI_add, Nat.reduceAdd, s_cat_nil, s_cat_i, s_cat_r, s_cat_f, s_cat_l, tl_s, tl_n, cat_i, cat_r, cat_f, nb0, nb1, nbI, if_bI, if_bIr, Nat.zero_le, Nat.reduceLeDiff]
        exact rq_b134 (d := d) (y := (rdC t y).2.2) o e5 T' (KQ_fr f K)
    | false =>
      by_cases c0 : yC y = 0
      · rw [if_pos (Or.inl c0), rdC_f0 hw] at K
        have K : KQ Q h m (false, t, y) := K
        rw [hw] at w2
        have w4 := fun Q => r_word (d := d + 3) (h := h) (Q := Q) (j := 4) (by decide) hG
        have w4 : ∀ Q, MT (d + 5) 154 [.ref 317, .ref 1000005] (pM m h) Q ↔ Q (some (.int (iB (isWB t 4)))) (pM m h) := w4
        rw [u_165_85]
        cases h4 : isWB t 4 with
        | true =>
          rw [h4] at w4
          simp (disch := omega) only [u_165_86, u_165_89, u_165_90, u_165_92, u_165_95, u_165_98, u_165_99, u_165_102, u_165_103, u_165_104, u_165_107, u_165_108, u_165_111, u_165_114, u_165_115, u_165_117, u_165_120, u_165_123, u_165_124, gI0, gIs, gR0, gRs, gF0, gFs, st0, st_i, st_r, st_f, st_n, st_s, true_and, and_true, ↓ifLeT, ↓ifLeF, ↓ifLtT, ↓ifLtF, ↓ifEqT, ↓ifEqF, if_tt, if_ff, if_pos, if_neg, nLe, nLt, nEq, nInT, nCl, pk_mul, nI_add, Nat.reduceAdd, s_cat_nil, s_cat_i, s_cat_r, s_cat_f, s_cat_l, tl_s, tl_n, cat_i, cat_r, cat_f, nb0, nb1, nbI, if_bI, if_bIr, Nat.zero_le, Nat.reduceLeDiff, M_ob, w2, w4, iBt, iBf, nI10]
          refine r_taskB (d := d) hG hR (by omega) (by omega) (Or.inr c0) ?_
          simp (disch := omega) only [u_165_127, gI0, gIs, gR0, gRs, gF0, gFs, st0, st_i, st_r, st_f, st_n, st_s, true_and, and_true, ↓ifLeT, ↓ifLeF, ↓ifLtT, ↓ifLtF, ↓ifEqT, ↓ifEqF, if_tt, if_ff, if_pos, if_neg, nLe, nLt, nEq, nInT, nCl, pk_mul, nI_add, Nat.reduceAdd, s_cat_nil, s_cat_i, s_cat_r, s_cat_f, s_cat_l, tl_s, tl_n, cat_i, cat_r, cat_f, nb0, nb1, nbI, if_bI, if_bIr, Nat.zero_le, Nat.reduceLeDiff]
          exact rq_b134 (d := d) (tk_max hG) rfl (TT_I hG.1 (by decide)) (KQ_fr (frU_I (by decide)) K)
        | false =>
          rw [h4] at w4
          simp (disch := omega) only [u_165_86, u_165_89, u_165_90, u_165_92, u_165_95, u_165_98, u_165_99, u_165_102, u_165_103, u_165_104, u_165_107, u_165_108, u_165_111, u_165_114, u_165_115, u_165_117, u_165_120, gI0, gIs, gR0, gRs, gF0, gFs, st0, st_i, st_r, st_f, st_n, st_s, true_and, and_true, ↓ifLeT, ↓ifLeF, ↓ifLtT, ↓ifLtF, ↓ifEqT, ↓ifEqF, if_tt, if_ff, if_pos, if_neg, nLe, nLt, nEq, nInT, nCl, pk_mul, nI_add, Nat.reduceAdd, s_cat_nil, s_cat_i, s_cat_r, s_cat_f, s_cat_l, tl_s, tl_n, cat_i, cat_r, cat_f, nb0, nb1, nbI, if_bI, if_bIr, Nat.zero_le, Nat.reduceLeDiff, M_ob, w2, w4, iBf]
          exact rq_b130 (d := d) hG K
      · rw [if_neg (by rw [hw]; simp [c0])] at K
        exact rq_tasks (d := d) 8 0 m t y hT rfl (by omega) (by omega) hR hG (fun _ q => absurd (hw.symm.trans q) (by decide)) K
end MQU
