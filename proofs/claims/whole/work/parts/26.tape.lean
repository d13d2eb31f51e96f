/-! Tape -/
theorem vN_tw {o : tO} {k x z : Nat} : vN (vN o k x) k z = vN o k z := by
  unfold vN
  refine Prod.ext (funext fun q => ?_) rfl
  show (if q = k then z else if q = k then x else _) = if q = k then z else _
  by_cases e : q = k
  · rw [if_pos e, if_pos e]
  · rw [if_neg e, if_neg e, if_neg e]
theorem vN_eta {o : tO} {k : Nat} : vN o k (eN o k) = o := by
  unfold vN
  refine Prod.ext (funext fun q => ?_) rfl
  show (if q = k then eN o k else _) = _
  by_cases e : q = k
  · rw [if_pos e, e]; rfl
  · rw [if_neg e]
theorem vN_vI {o : tO} {k x j : Nat} {z : Int32} : vN (vI o j z) k x = vI (vN o k x) j z := rfl
def letB (x : Int32) : Bool := decide (nI 97 ≤ x) && decide (x ≤ nI 122)
def digB (x : Int32) : Bool := decide (nI 48 ≤ x) && decide (x ≤ nI 57)
def blkB (x : Int32) : Bool := decide (x = nI 32)
def runF (f : Int32 → Bool) (g : Nat → Int32) : Nat → Nat → Nat
  | 0, i => i
  | n + 1, i => if f (g i) then runF f g n (i + 1) else i
theorem runF_le {f : Int32 → Bool} {g : Nat → Int32} : ∀ n i, i ≤ runF f g n i ∧ runF f g n i ≤ i + n
  | 0, i => ⟨Nat.le_refl _, Nat.le_refl _⟩
  | n + 1, i => by
    unfold runF
    split
    · have := runF_le (f := f) (g := g) n (i + 1); omega
    · omega
def sumF (g : Nat → Int32) : Nat → Nat → Int32 → Int32
  | 0, _, x => x
  | n + 1, i, x => if digB (g i) then sumF g n (i + 1) ((x - x / nI 10 * nI 10) * nI 10 + g i - nI 48) else x
section TP
variable {b d : Nat} {t : tO} {h : sH} {k : sK} {Q : sQ} {i x : Int32}
theorem m_isLetter : MT (d + 1) 61 [.int x] h Q ↔ Q (some (.int (iB (letB x)))) h := by
  rw [MT_go (by decide) _ _ _ (Nat.le_of_ble_eq_true rfl), show s_entry 61 [.int x] = [.int x] from rfl]
  unfold letB
  by_cases h1 : x < nI 97
  · rw [decide_eq_false (Int32.not_le.mpr h1)]
    simp (disch := omega) only [u_61_0, u_61_1, u_61_3, u_61_6, u_61_7, u_61_9, u_61_12, u_61_13, u_61_16, u_61_17, gI0, gIs, gR0, gRs, gF0, gFs, st0, st_i, st_r, st_f, st_n, st_s, true_and, and_true, ↓ifLeT, ↓ifLeF, ↓ifLtT, ↓ifLtF, ↓ifEqT, ↓ifEqF, if_tt, if_ff, if_pos, if_neg, nLe, nLt, nEq, nInT, nCl, pk_mul, nI_add, Nat.reduceAdd, s_cat_nil, s_cat_i, s_cat_r, s_cat_f, s_cat_l, tl_s, tl_n, cat_i, cat_r, cat_f, nb0, nb1, nbI, if_bI, if_bIr, Nat.zero_le, Nat.reduceLeDiff, h1, Bool.false_and, iB]
  · rw [decide_eq_true (Int32.not_lt.mp h1)]
    by_cases h2 : nI 122 < x
    · rw [decide_eq_false (Int32.not_le.mpr h2)]
      simp (disch := omega) only [u_61_0, u_61_1, u_61_3, u_61_6, u_61_7, u_61_9, u_61_12, u_61_13, u_61_16, u_61_17, gI0, gIs, gR0, gRs, gF0, gFs, st0, st_i, st_r, st_f, st_n, st_s, true_and, and_true, ↓ifLeT, ↓ifLeF, ↓ifLtT, ↓ifLtF, ↓ifEqT, ↓ifEqF, if_tt, if_ff, if_pos, if_neg, nLe, nLt, nEq, nInT, nCl, pk_mul, nI_add, Nat.reduceAdd, s_cat_nil, s_cat_i, s_cat_r, s_cat_f, s_cat_l, tl_s, tl_n, cat_i, cat_r, cat_f, nb0, nb1, nbI, if_bI, if_bIr, Nat.zero_le, Nat.reduceLeDiff, h1, h2, Bool.true_and, iB]
    · rw [decide_eq_true (Int32.not_lt.mp h2)]
      simp (disch := omega) only [u_61_0, u_61_1, u_61_3, u_61_6, u_61_7, u_61_9, u_61_12, u_61_13, u_61_16, u_61_17, gI0, gIs, gR0, gRs, gF0, gFs, st0, st_i, st_r, st_f, st_n, st_s, true_and, and_true, ↓ifLeT, ↓ifLeF, ↓ifLtT, ↓ifLtF, ↓ifEqT, ↓ifEqF, if_tt, if_ff, if_pos, if_neg, nLe, nLt, nEq, nInT, nCl, pk_mul, nI_add, Nat.reduceAdd, s_cat_nil, s_cat_i, s_cat_r, s_cat_f, s_cat_l, tl_s, tl_n, cat_i, cat_r, cat_f, nb0, nb1, nbI, if_bI, if_bIr, Nat.zero_le, Nat.reduceLeDiff, h1, h2, Bool.true_and, iB]
theorem m_isDigit : MT (d + 1) 62 [.int x] h Q ↔ Q (some (.int (iB (digB x)))) h := by
  rw [MT_go (by decide) _ _ _ (Nat.le_of_ble_eq_true rfl), show s_entry 62 [.int x] = [.int x] from rfl]
  unfold digB
  by_cases h1 : x < nI 48
  · rw [decide_eq_false (Int32.not_le.mpr h1)]
    simp (disch := omega) only [u_62_0, u_62_1, u_62_3, u_62_6, u_62_7, u_62_9, u_62_12, u_62_13, u_62_16, u_62_17, gI0, gIs, gR0, gRs, gF0, gFs, st0, st_i, st_r, st_f, st_n, st_s, true_and, and_true, ↓ifLeT, ↓ifLeF, ↓ifLtT, ↓ifLtF, ↓ifEqT, ↓ifEqF, if_tt, if_ff, if_pos, if_neg, nLe, nLt, nEq, nInT, nCl, pk_mul, nI_add, Nat.reduceAdd, s_cat_nil, s_cat_i, s_cat_r, s_cat_f, s_cat_l, tl_s, tl_n, cat_i, cat_r, cat_f, nb0, nb1, nbI, if_bI, if_bIr, Nat.zero_le, Nat.reduceLeDiff, h1, Bool.false_and, iB]
  · rw [decide_eq_true (Int32.not_lt.mp h1)]
    by_cases h2 : nI 57 < x
    · rw [decide_eq_false (Int32.not_le.mpr h2)]
      simp (disch := omega) only [u_62_0, u_62_1, u_62_3, u_62_6, u_62_7, u_62_9, u_62_12, u_62_13, u_62_16, u_62_17, gI0, gIs, gR0, gRs, gF0, gFs, st0, st_i, st_r, st_f, st_n, st_s, true_and, and_true, ↓ifLeT, ↓ifLeF, ↓ifLtT, ↓ifLtF, ↓ifEqT, ↓ifEqF, if_tt, if_ff, if_pos, if_neg, nLe, nLt, nEq, nInT, nCl, pk_mul, nI_add, Nat.reduceAdd, s_cat_nil, s_cat_i, s_cat_r, s_cat_f, s_cat_l, tl_s, tl_n, cat_i, cat_r, cat_f, nb0, nb1, nbI, if_bI, if_bIr, Nat.zero_le, Nat.reduceLeDiff, h1, h2, Bool.true_and, iB]
    · rw [decide_eq_true (Int32.not_lt.mp h2)]
      simp (disch := omega) only [u_62_0, u_62_1, u_62_3, u_62_6, u_62_7, u_62_9, u_62_12, u_62_13, u_62_16, u_62_17, gI0, gIs, gR0, gRs, gF0, gFs, st0, st_i, st_r, st_f, st_n, st_s, true_and, and_true, ↓ifLeT, ↓ifLeF, ↓ifLtT, ↓ifLtF, ↓ifEqT, ↓ifEqF, if_tt, if_ff, if_pos, if_neg, nLe, nLt, nEq, nInT, nCl, pk_mul, nI_add, Nat.reduceAdd, s_cat_nil, s_cat_i, s_cat_r, s_cat_f, s_cat_l, tl_s, tl_n, cat_i, cat_r, cat_f, nb0, nb1, nbI, if_bI, if_bIr, Nat.zero_le, Nat.reduceLeDiff, h1, h2, Bool.true_and, iB]
theorem m_byteAt {j : Nat} (hj : j < 400) : MT (d + 1) 60 [.ref b, .int (nI j)] (pTp b t h) Q ↔ Q (some (.int (eA t 0 j))) (pTp b t h) := by
  rw [MT_go (by decide) _ _ _ (Nat.le_of_ble_eq_true rfl), show s_entry 60 [.ref b, .int (nI j)] = [.ref b, .int (nI j)] from rfl]
  simp (disch := omega) only [u_60_0, u_60_1, u_60_4, u_60_5, u_60_6, u_60_9, u_60_10, u_60_13, u_60_14, u_60_17, u_60_18, u_60_19, u_60_22, u_60_23, gI0, gIs, gR0, gRs, gF0, gFs, st0, st_i, st_r, st_f, st_n, st_s, true_and, and_true, ↓ifLeT, ↓ifLeF, ↓ifLtT, ↓ifLtF, ↓ifEqT, ↓ifEqF, if_tt, if_ff, if_pos, if_neg, nLe, nLt, nEq, nInT, nCl, pk_mul, nI_add, Nat.reduceAdd, s_cat_nil, s_cat_i, s_cat_r, s_cat_f, s_cat_l, tl_s, tl_n, cat_i, cat_r, cat_f, nb0, nb1, nbI, if_bI, if_bIr, Nat.zero_le, Nat.reduceLeDiff, Tp_g0, Tp_g1, Tp_g2, Tp_g3, Tp_g4, Tp_g5, Tp_a0, Tp_n0]
def isNB (t : tO) (lo hi : Int32) : Bool := decide (eI t 3 = nI 2) && (decide (lo ≤ eI t 4) && decide (eI t 4 ≤ hi))
theorem m_isNumber {lo hi : Int32} : MT (d + 1) 58 [.ref b, .int lo, .int hi] (pTp b t h) Q ↔ Q (some (.int (iB (isNB t lo hi)))) (pTp b t h) := by
  rw [MT_go (by decide) _ _ _ (Nat.le_of_ble_eq_true rfl), show s_entry 58 [.ref b, .int lo, .int hi] = [.ref b, .int lo, .int hi] from rfl]
  unfold isNB
  by_cases h0 : eI t 3 = nI 2
  · rw [decide_eq_true h0]
    by_cases h1 : eI t 4 < lo
    · rw [decide_eq_false (Int32.not_le.mpr h1)]
      simp (disch := omega) only [u_58_0, u_58_1, u_58_4, u_58_5, u_58_8, u_58_9, u_58_12, u_58_13, u_58_16, u_58_17, u_58_20, u_58_21, u_58_24, u_58_25, u_58_28, u_58_29, gI0, gIs, gR0, gRs, gF0, gFs, st0, st_i, st_r, st_f, st_n, st_s, true_and, and_true, ↓ifLeT, ↓ifLeF, ↓ifLtT, ↓ifLtF, ↓ifEqT, ↓ifEqF, if_tt, if_ff, if_pos, if_neg, nLe, nLt, nEq, nInT, nCl, pk_mul, nI_add, Nat.reduceAdd, s_cat_nil, s_cat_i, s_cat_r, s_cat_f, s_cat_l, tl_s, tl_n, cat_i, cat_r, cat_f, nb0, nb1, nbI, if_bI, if_bIr, Nat.zero_le, Nat.reduceLeDiff, Tp_g0, Tp_g1, Tp_g2, Tp_g3, Tp_g4, Tp_g5, h0, h1, Bool.false_and, Bool.true_and, iB]
    · rw [decide_eq_true (Int32.not_lt.mp h1)]
      by_cases h2 : hi < eI t 4
      · rw [decide_eq_false (Int32.not_le.mpr h2)]
        simp (disch := omega) only [u_58_0, u_58_1, u_58_4, u_58_5, u_58_8, u_58_9, u_58_12, u_58_13, u_58_16, u_58_17, u_58_20, u_58_21, u_58_24, u_58_25, u_58_28, u_58_29, gI0, gIs, gR0, gRs, gF0, gFs, st0, st_i, st_r, st_f, st_n, st_s, true_and, and_true, ↓ifLeT, ↓ifLeF, ↓ifLtT, ↓ifLtF, ↓ifEqT, ↓ifEqF, if_tt, if_ff, if_pos, if_neg, nLe, nLt, nEq, nInT, nCl, pk_mul, nI_add, Nat.reduceAdd, s_cat_nil, s_cat_i, s_cat_r, s_cat_f, s_cat_l, tl_s, tl_n, cat_i, cat_r, cat_f, nb0, nb1, nbI, if_bI, if_bIr, Nat.zero_le, Nat.reduceLeDiff, Tp_g0, Tp_g1, Tp_g2, Tp_g3, Tp_g4, Tp_g5, h0, h1, h2, Bool.true_and, iB]
      · rw [decide_eq_true (Int32.not_lt.mp h2)]
        simp (disch := omega) only [u_58_0, u_58_1, u_58_4, u_58_5, u_58_8, u_58_9, u_58_12, u_58_13, u_58_16, u_58_17, u_58_20, u_58_21, u_58_24, u_58_25, u_58_28, u_58_29, gI0, gIs, gR0, gRs, gF0, gFs, st0, st_i, st_r, st_f, st_n, st_s, true_and, and_true, ↓ifLeT, ↓ifLeF, ↓ifLtT, ↓ifLtF, ↓ifEqT, ↓ifEqF, if_tt, if_ff, if_pos, if_neg, nLe, nLt, nEq, nInT, nCl, pk_mul, nI_add, Nat.reduceAdd, s_cat_nil, s_cat_i, s_cat_r, s_cat_f, s_cat_l, tl_s, tl_n, cat_i, cat_r, cat_f, nb0, nb1, nbI, if_bI, if_bIr, Nat.zero_le, Nat.reduceLeDiff, Tp_g0, Tp_g1, Tp_g2, Tp_g3, Tp_g4, Tp_g5, h0, h1, h2, Bool.true_and, iB]
  · rw [decide_eq_false h0]
    simp (disch := omega) only [u_58_0, u_58_1, u_58_4, u_58_5, u_58_8, u_58_9, u_58_12, u_58_13, u_58_16, u_58_17, u_58_20, u_58_21, u_58_24, u_58_25, u_58_28, u_58_29, gI0, gIs, gR0, gRs, gF0, gFs, st0, st_i, st_r, st_f, st_n, st_s, true_and, and_true, ↓ifLeT, ↓ifLeF, ↓ifLtT, ↓ifLtF, ↓ifEqT, ↓ifEqF, if_tt, if_ff, if_pos, if_neg, nLe, nLt, nEq, nInT, nCl, pk_mul, nI_add, Nat.reduceAdd, s_cat_nil, s_cat_i, s_cat_r, s_cat_f, s_cat_l, tl_s, tl_n, cat_i, cat_r, cat_f, nb0, nb1, nbI, if_bI, if_bIr, Nat.zero_le, Nat.reduceLeDiff, Tp_g0, Tp_g1, Tp_g2, Tp_g3, Tp_g4, Tp_g5, h0, reduceIte, Bool.false_and, iB]
def ap1 (x : Int32) (s : Nat) (t : tO) : tO := if ((x.toUInt32 >>> ((nI s).toUInt32 &&& Int32.toUInt32 31)).toInt32 &&& nI 255) = nI 0 then t else if eN t 1 < 400 then vN (vA t 0 (upd (eA t 0) (eN t 1) ((x.toUInt32 >>> ((nI s).toUInt32 &&& Int32.toUInt32 31)).toInt32 &&& nI 255))) 1 (eN t 1 + 1) else t
theorem append_1 {s : Nat} {v3 : Value} (hs : s ≤ 24) (hl : eN t 1 ≤ 400) : WP d 54 3 [.ref b, .int x, .int (nI s), v3] [] (pTp b t h) k Q ↔ WP d 54 3 [.ref b, .int x, .int (nI s + (-8)), .int ((x.toUInt32 >>> ((nI s).toUInt32 &&& Int32.toUInt32 31)).toInt32 &&& nI 255)] [] (pTp b (ap1 x s t) h) k Q := by
  rw [u_54_3]
  by_cases h1 : ((x.toUInt32 >>> ((nI s).toUInt32 &&& Int32.toUInt32 31)).toInt32 &&& nI 255) = nI 0
  · rw [show ap1 x s t = t from if_pos h1]
    simp (disch := omega) only [u_54_4, u_54_7, u_54_8, u_54_9, u_54_10, u_54_13, u_54_14, u_54_15, u_54_16, u_54_19, u_54_20, u_54_23, u_54_24, u_54_27, u_54_28, u_54_31, u_54_32, u_54_35, u_54_36, u_54_39, u_54_40, u_54_41, u_54_42, u_54_43, u_54_46, u_54_47, u_54_48, u_54_51, u_54_54, gI0, gIs, gR0, gRs, gF0, gFs, st0, st_i, st_r, st_f, st_n, st_s, true_and, and_true, ↓ifLeT, ↓ifLeF, ↓ifLtT, ↓ifLtF, ↓ifEqT, ↓ifEqF, if_tt, if_ff, if_pos, if_neg, nLe, nLt, nEq, nInT, nCl, pk_mul, nI_add, Nat.reduceAdd, s_cat_nil, s_cat_i, s_cat_r, s_cat_f, s_cat_l, tl_s, tl_n, cat_i, cat_r, cat_f, nb0, nb1, nbI, if_bI, if_bIr, Nat.zero_le, Nat.reduceLeDiff, Tp_g0, Tp_g1, Tp_g2, Tp_g3, Tp_g4, Tp_g5, h1]
  · by_cases h2 : eN t 1 < 400
    · rw [show ap1 x s t = _ from (if_neg h1).trans (if_pos h2)]
      simp (disch := omega) only [u_54_4, u_54_7, u_54_8, u_54_9, u_54_10, u_54_13, u_54_14, u_54_15, u_54_16, u_54_19, u_54_20, u_54_23, u_54_24, u_54_27, u_54_28, u_54_31, u_54_32, u_54_35, u_54_36, u_54_39, u_54_40, u_54_41, u_54_42, u_54_43, u_54_46, u_54_47, u_54_48, u_54_51, u_54_54, gI0, gIs, gR0, gRs, gF0, gFs, st0, st_i, st_r, st_f, st_n, st_s, true_and, and_true, ↓ifLeT, ↓ifLeF, ↓ifLtT, ↓ifLtF, ↓ifEqT, ↓ifEqF, if_tt, if_ff, if_pos, if_neg, nLe, nLt, nEq, nInT, nCl, pk_mul, nI_add, Nat.reduceAdd, s_cat_nil, s_cat_i, s_cat_r, s_cat_f, s_cat_l, tl_s, tl_n, cat_i, cat_r, cat_f, nb0, nb1, nbI, if_bI, if_bIr, Nat.zero_le, Nat.reduceLeDiff, Tp_g0, Tp_g1, Tp_g2, Tp_g3, Tp_g4, Tp_g5, Tp_n0, Tp_w0, Tp_s1, Tp_s2, Tp_s3, Tp_s4, Tp_s5, eN_vN, eI_vN, eB_vN, eA_vN, eF_vN, eP_vN, eN_vI, eI_vI, eB_vI, eA_vI, eF_vI, eP_vI, eN_vB, eI_vB, eB_vB, eA_vB, eF_vB, eP_vB, eN_vA, eI_vA, eB_vA, eA_vA, eF_vA, eP_vA, eN_vF, eI_vF, eB_vF, eA_vF, eF_vF, eP_vF, eN_vP, eI_vP, eB_vP, eA_vP, eF_vP, eP_vP, h1, reduceIte]
    · have e : eN t 1 = 400 := by omega
      rw [show ap1 x s t = t from (if_neg h1).trans (if_neg h2)]
      simp (disch := omega) only [u_54_4, u_54_7, u_54_8, u_54_9, u_54_10, u_54_13, u_54_14, u_54_15, u_54_16, u_54_19, u_54_20, u_54_23, u_54_24, u_54_27, u_54_28, u_54_31, u_54_32, u_54_35, u_54_36, u_54_39, u_54_40, u_54_41, u_54_42, u_54_43, u_54_46, u_54_47, u_54_48, u_54_51, u_54_54, gI0, gIs, gR0, gRs, gF0, gFs, st0, st_i, st_r, st_f, st_n, st_s, true_and, and_true, ↓ifLeT, ↓ifLeF, ↓ifLtT, ↓ifLtF, ↓ifEqT, ↓ifEqF, if_tt, if_ff, if_pos, if_neg, nLe, nLt, nEq, nInT, nCl, pk_mul, nI_add, Nat.reduceAdd, s_cat_nil, s_cat_i, s_cat_r, s_cat_f, s_cat_l, tl_s, tl_n, cat_i, cat_r, cat_f, nb0, nb1, nbI, if_bI, if_bIr, Nat.zero_le, Nat.reduceLeDiff, Tp_g0, Tp_g1, Tp_g2, Tp_g3, Tp_g4, Tp_g5, Tp_n0, Tp_w0, Tp_s1, Tp_s2, Tp_s3, Tp_s4, Tp_s5, eN_vN, eI_vN, eB_vN, eA_vN, eF_vN, eP_vN, eN_vI, eI_vI, eB_vI, eA_vI, eF_vI, eP_vI, eN_vB, eI_vB, eB_vB, eA_vB, eF_vB, eP_vB, eN_vA, eI_vA, eB_vA, eA_vA, eF_vA, eP_vA, eN_vF, eI_vF, eB_vF, eA_vF, eF_vF, eP_vF, eN_vP, eI_vP, eB_vP, eA_vP, eF_vP, eP_vP, h1, reduceIte, e]
def apT (x : Int32) (t : tO) : tO := ap1 x 0 (ap1 x 8 (ap1 x 16 (ap1 x 24 t)))
theorem ap1_le {s : Nat} (hl : eN t 1 ≤ 400) : eN (ap1 x s t) 1 ≤ 400 := by
  unfold ap1
  split
  · exact hl
  · split
    · rw [eN_vN, if_pos rfl]; omega
    · exact hl
theorem m_append (hl : eN t 1 ≤ 400) : MT (d + 1) 54 [.ref b, .int x] (pTp b t h) Q ↔ Q none (pTp b (apT x t) h) := by
  rw [MT_go (by decide) _ _ _ (Nat.le_of_ble_eq_true rfl), show s_entry 54 [.ref b, .int x] = [.ref b, .int x, s_no, s_no] from rfl]
  simp (disch := omega) only [u_54_0, u_54_2, gI0, gIs, gR0, gRs, gF0, gFs, st0, st_i, st_r, st_f, st_n, st_s, true_and, and_true, ↓ifLeT, ↓ifLeF, ↓ifLtT, ↓ifLtF, ↓ifEqT, ↓ifEqF, if_tt, if_ff, if_pos, if_neg, nLe, nLt, nEq, nInT, nCl, pk_mul, nI_add, Nat.reduceAdd, s_cat_nil, s_cat_i, s_cat_r, s_cat_f, s_cat_l, tl_s, tl_n, cat_i, cat_r, cat_f, nb0, nb1, nbI, if_bI, if_bIr, Nat.zero_le, Nat.reduceLeDiff]
  rw [append_1 (by decide) hl, show nI 24 + (-8) = nI 16 by decide, append_1 (by decide) (ap1_le hl), show nI 16 + (-8) = nI 8 by decide, append_1 (by decide) (ap1_le (ap1_le hl)), show nI 8 + (-8) = nI 0 by decide, append_1 (by decide) (ap1_le (ap1_le (ap1_le hl))), show nI 0 + (-8) = (-8 : Int32) by decide]
  simp (disch := omega) only [u_54_3, u_54_4, u_54_57, gI0, gIs, gR0, gRs, gF0, gFs, st0, st_i, st_r, st_f, st_n, st_s, true_and, and_true, ↓ifLeT, ↓ifLeF, ↓ifLtT, ↓ifLtF, ↓ifEqT, ↓ifEqF, if_tt, if_ff, if_pos, if_neg, nLe, nLt, nEq, nInT, nCl, pk_mul, nI_add, Nat.reduceAdd, s_cat_nil, s_cat_i, s_cat_r, s_cat_f, s_cat_l, tl_s, tl_n, cat_i, cat_r, cat_f, nb0, nb1, nbI, if_bI, if_bIr, Nat.zero_le, Nat.reduceLeDiff, show ((-8 : Int32) < nI 0) ↔ True by decide]
  exact Iff.rfl
end TP
