/-! Choice -/
section CH
variable {b d : Nat} {t : tO} {h : sH} {k : sK} {Q : sQ} {i x : Int32}
theorem ChP_ob {c : Nat} : (oO (pCh b t h) (b + 1) fun x _ => x = c) ↔ 3 = c := P'_ob isP_Ch
theorem Ch_clear : MT (d + 1) 19 [.ref (b + 1)] (pCh b t h) Q ↔ Q none (pCh b (vP t ((eP t).1, fun _ => 0)) h) := by
  have e := m_clear (d := d) (b := b + 1) (p := eP t) (h := pCh b t h) (Q := Q)
  rw [pCh_P, pCh_P] at e
  exact e
theorem Ch_holder {w : Int32} (hs : okS (eP t)) : MT (d + 2) 26 [.ref (b + 1), .int w] (pCh b t h) Q ↔ Q (some (.int (holdP (eP t) w))) (pCh b t h) := by
  have e := m_holder (d := d) (b := b + 1) (p := eP t) (h := pCh b t h) (Q := Q) (t := w) hs
  rw [pCh_P] at e
  exact e
theorem Ch_spot {w : Int32} (hs : okS (eP t)) : MT (d + 2) 27 [.ref (b + 1), .int w] (pCh b t h) Q ↔ Q (some (.int (spotP (eP t) w))) (pCh b t h) := by
  have e := m_spot (d := d) (b := b + 1) (p := eP t) (h := pCh b t h) (Q := Q) (t := w) hs
  rw [pCh_P] at e
  exact e
/-- opened -/
def opnC (t : tO) (most : Int32) : tO := vP (vI (vI (vI (vI (vB t 1 true) 2 (-1)) 3 (-1)) 4 most) 5 (nI 0)) ((eP t).1, fun _ => 0)
theorem m_open {most : Int32} : MT (d + 2) 6 [.ref b, .int most] (pCh b t h) Q ↔ Q none (pCh b (opnC t most) h) := by
  rw [MT_go (by decide) _ _ _ (Nat.le_of_ble_eq_true rfl), show s_entry 6 [.ref b, .int most] = [.ref b, .int most] from rfl]
  simp (disch := omega) only [u_6_0, u_6_1, u_6_2, u_6_5, u_6_6, u_6_7, u_6_10, u_6_11, u_6_12, u_6_15, u_6_16, u_6_17, u_6_20, u_6_21, u_6_22, u_6_25, u_6_26, u_6_29, u_6_32, gI0, gIs, gR0, gRs, gF0, gFs, st0, st_i, st_r, st_f, st_n, st_s, true_and, and_true, ↓ifLeT, ↓ifLeF, ↓ifLtT, ↓ifLtF, ↓ifEqT, ↓ifEqF, if_tt, if_ff, if_pos, if_neg, nLe, nLt, nEq, nInT, nCl, pk_mul, nI_add, Nat.reduceAdd, s_cat_nil, s_cat_i, s_cat_r, s_cat_f, s_cat_l, tl_s, tl_n, cat_i, cat_r, cat_f, nb0, nb1, nbI, if_bI, if_bIr, Nat.zero_le, Nat.reduceLeDiff, Ch_g0, Ch_g1, Ch_g2, Ch_g3, Ch_g4, Ch_g5, Ch_s1, Ch_s1t, Ch_s1f, Ch_s2, Ch_s3, Ch_s4, Ch_s5, ChP_ob, Ch_clear, eN_vN, eI_vN, eB_vN, eA_vN, eF_vN, eP_vN, eN_vI, eI_vI, eB_vI, eA_vI, eF_vI, eP_vI, eN_vB, eI_vB, eB_vB, eA_vB, eF_vB, eP_vB, eN_vA, eI_vA, eB_vA, eA_vA, eF_vA, eP_vA, eN_vF, eI_vF, eB_vF, eA_vF, eF_vF, eP_vF, eN_vP, eI_vP, eB_vP, eA_vP, eF_vP, eP_vP]
  exact Iff.rfl
def takC (t : tO) (p : tP) (l : Int32) : tO := vI (vI (vP t p) 2 l) 4 (l - nI 1)
theorem m_take {c : Nat} {p : tP} {l : Int32} (hp : isP h c p) (hd : b + 4 ≤ c ∨ c + 3 ≤ b) : MT (d + 2) 7 [.ref b, .ref c, .int l] (pCh b t h) Q ↔ Q none (pCh b (takC t p l) h) := by
  have hq : isP (pCh b t h) c p := by
    unfold isP pP pCh at *
    rw [pC_comm (by omega), hp]
  have e := fun Q => m_copyP (d := d) (b := b + 1) (p := eP t) (h := pCh b t h) (Q := Q) hq (by omega)
  simp only [pCh_P] at e
  have e0 : vP t (eP t) = t := rfl
  rw [e0] at e
  rw [MT_go (by decide) _ _ _ (Nat.le_of_ble_eq_true rfl), show s_entry 7 [.ref b, .ref c, .int l] = [.ref b, .ref c, .int l] from rfl]
  simp (disch := omega) only [u_7_0, u_7_1, u_7_4, u_7_5, u_7_8, u_7_9, u_7_10, u_7_13, u_7_14, u_7_15, u_7_16, u_7_17, u_7_20, gI0, gIs, gR0, gRs, gF0, gFs, st0, st_i, st_r, st_f, st_n, st_s, true_and, and_true, ↓ifLeT, ↓ifLeF, ↓ifLtT, ↓ifLtF, ↓ifEqT, ↓ifEqF, if_tt, if_ff, if_pos, if_neg, nLe, nLt, nEq, nInT, nCl, pk_mul, nI_add, Nat.reduceAdd, s_cat_nil, s_cat_i, s_cat_r, s_cat_f, s_cat_l, tl_s, tl_n, cat_i, cat_r, cat_f, nb0, nb1, nbI, if_bI, if_bIr, Nat.zero_le, Nat.reduceLeDiff, Ch_g0, Ch_g1, Ch_g2, Ch_g3, Ch_g4, Ch_g5, Ch_s1, Ch_s1t, Ch_s1f, Ch_s2, Ch_s3, Ch_s4, Ch_s5, ChP_ob, e, eN_vN, eI_vN, eB_vN, eA_vN, eF_vN, eP_vN, eN_vI, eI_vI, eB_vI, eA_vI, eF_vI, eP_vI, eN_vB, eI_vB, eB_vB, eA_vB, eF_vB, eP_vB, eN_vA, eI_vA, eB_vA, eA_vA, eF_vA, eP_vA, eN_vF, eI_vF, eB_vF, eA_vF, eF_vF, eP_vF, eN_vP, eI_vP, eB_vP, eA_vP, eF_vP, eP_vP]
  exact Iff.rfl
def telC (t : tO) (w : Int32) : Int32 := if eI t 2 = -1 then eI t 2 else if w = -1 then eI t 2 else if w < nI 10 then holdP (eP t) w else spotP (eP t) (w - nI 10)
theorem m_tell {w : Int32} (hs : okS (eP t)) : MT (d + 3) 8 [.ref b, .int w] (pCh b t h) Q ↔ Q (some (.int (telC t w))) (pCh b t h) := by
  rw [MT_go (by decide) _ _ _ (Nat.le_of_ble_eq_true rfl), show s_entry 8 [.ref b, .int w] = [.ref b, .int w] from rfl]
  unfold telC
  by_cases h1 : eI t 2 = -1
  · rw [if_pos h1]
    simp (disch := omega) only [u_8_0, u_8_1, u_8_4, u_8_5, u_8_8, u_8_9, u_8_10, u_8_13, u_8_14, u_8_17, u_8_18, u_8_19, u_8_21, u_8_24, u_8_25, u_8_28, u_8_29, u_8_32, u_8_35, u_8_36, u_8_39, u_8_40, u_8_42, u_8_43, u_8_46, gI0, gIs, gR0, gRs, gF0, gFs, st0, st_i, st_r, st_f, st_n, st_s, true_and, and_true, ↓ifLeT, ↓ifLeF, ↓ifLtT, ↓ifLtF, ↓ifEqT, ↓ifEqF, if_tt, if_ff, if_pos, if_neg, nLe, nLt, nEq, nInT, nCl, pk_mul, nI_add, Nat.reduceAdd, s_cat_nil, s_cat_i, s_cat_r, s_cat_f, s_cat_l, tl_s, tl_n, cat_i, cat_r, cat_f, nb0, nb1, nbI, if_bI, if_bIr, Nat.zero_le, Nat.reduceLeDiff, Ch_g0, Ch_g1, Ch_g2, Ch_g3, Ch_g4, Ch_g5, h1]
  · rw [if_neg h1]
    by_cases h2 : w = -1
    · rw [if_pos h2]
      simp (disch := omega) only [u_8_0, u_8_1, u_8_4, u_8_5, u_8_8, u_8_9, u_8_10, u_8_13, u_8_14, u_8_17, u_8_18, u_8_19, u_8_21, u_8_24, u_8_25, u_8_28, u_8_29, u_8_32, u_8_35, u_8_36, u_8_39, u_8_40, u_8_42, u_8_43, u_8_46, gI0, gIs, gR0, gRs, gF0, gFs, st0, st_i, st_r, st_f, st_n, st_s, true_and, and_true, ↓ifLeT, ↓ifLeF, ↓ifLtT, ↓ifLtF, ↓ifEqT, ↓ifEqF, if_tt, if_ff, if_pos, if_neg, nLe, nLt, nEq, nInT, nCl, pk_mul, nI_add, Nat.reduceAdd, s_cat_nil, s_cat_i, s_cat_r, s_cat_f, s_cat_l, tl_s, tl_n, cat_i, cat_r, cat_f, nb0, nb1, nbI, if_bI, if_bIr, Nat.zero_le, Nat.reduceLeDiff, Ch_g0, Ch_g1, Ch_g2, Ch_g3, Ch_g4, Ch_g5, h1, h2]
    · rw [if_neg h2]
      by_cases h3 : w < nI 10
      · rw [if_pos h3]
        simp (disch := omega) only [u_8_0, u_8_1, u_8_4, u_8_5, u_8_8, u_8_9, u_8_10, u_8_13, u_8_14, u_8_17, u_8_18, u_8_19, u_8_21, u_8_24, u_8_25, u_8_28, u_8_29, u_8_32, u_8_35, u_8_36, u_8_39, u_8_40, u_8_42, u_8_43, u_8_46, gI0, gIs, gR0, gRs, gF0, gFs, st0, st_i, st_r, st_f, st_n, st_s, true_and, and_true, ↓ifLeT, ↓ifLeF, ↓ifLtT, ↓ifLtF, ↓ifEqT, ↓ifEqF, if_tt, if_ff, if_pos, if_neg, nLe, nLt, nEq, nInT, nCl, pk_mul, nI_add, Nat.reduceAdd, s_cat_nil, s_cat_i, s_cat_r, s_cat_f, s_cat_l, tl_s, tl_n, cat_i, cat_r, cat_f, nb0, nb1, nbI, if_bI, if_bIr, Nat.zero_le, Nat.reduceLeDiff, Ch_g0, Ch_g1, Ch_g2, Ch_g3, Ch_g4, Ch_g5, h1, h2, if_neg (Int32.not_le.mpr h3), ChP_ob, Ch_holder hs]
      · rw [if_neg h3]
        simp (disch := omega) only [u_8_0, u_8_1, u_8_4, u_8_5, u_8_8, u_8_9, u_8_10, u_8_13, u_8_14, u_8_17, u_8_18, u_8_19, u_8_21, u_8_24, u_8_25, u_8_28, u_8_29, u_8_32, u_8_35, u_8_36, u_8_39, u_8_40, u_8_42, u_8_43, u_8_46, gI0, gIs, gR0, gRs, gF0, gFs, st0, st_i, st_r, st_f, st_n, st_s, true_and, and_true, ↓ifLeT, ↓ifLeF, ↓ifLtT, ↓ifLtF, ↓ifEqT, ↓ifEqF, if_tt, if_ff, if_pos, if_neg, nLe, nLt, nEq, nInT, nCl, pk_mul, nI_add, Nat.reduceAdd, s_cat_nil, s_cat_i, s_cat_r, s_cat_f, s_cat_l, tl_s, tl_n, cat_i, cat_r, cat_f, nb0, nb1, nbI, if_bI, if_bIr, Nat.zero_le, Nat.reduceLeDiff, Ch_g0, Ch_g1, Ch_g2, Ch_g3, Ch_g4, Ch_g5, h1, h2, if_pos (Int32.not_lt.mp h3), ChP_ob, Ch_spot hs]
end CH
