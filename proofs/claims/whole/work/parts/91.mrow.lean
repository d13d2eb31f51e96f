/-! the reference: a row tells a quay -/
def rb (b : Nat) : Prop := b = 320 ∨ b = 322 ∨ b = 329 ∨ b = 330 ∨ b = 333
def RRc (f : Nat → Int32) (n : tN) (c : Nat) : Prop := f (2 + 12 * c + 0) = nI (nA n 7 c) ∧ f (2 + 12 * c + 1) = iB (nK n c) ∧ f (2 + 12 * c + 2) = nI (nW n c).toNat ∧ f (2 + 12 * c + 3) = nI (nL n c).length ∧ ∀ k, k < (nL n c).length → f (2 + 12 * c + (4 + k)) = nI ((nL n c).getD k 0)
def RRt (f : Nat → Int32) (n : tN) (t : Nat) : Prop := f (50 + 7 * t + 0) = nI (nA n 12 t) ∧ f (50 + 7 * t + 1) = nI (nA n 13 t) ∧ f (50 + 7 * t + 2) = nI (nA n 14 t) ∧ f (50 + 7 * t + 3) = nI (bitsN (nV n t) 8) ∧ f (50 + 7 * t + 4) = nI (nA n 16 t) ∧ f (50 + 7 * t + 5) = nX n 17 t ∧ f (50 + 7 * t + 6) = nX n 18 t
def RR (f : Nat → Int32) (n : tN) : Prop := f 0 = nI (nF n 4) ∧ f 1 = nI (nF n 3) ∧ (∀ c, c < nF n 2 → RRc f n c) ∧ ∀ t, t < nF n 3 → RRt f n t
def MG (m : tM) (n : tN) : Prop := kI m 8 = nI (nF n 0) ∧ kI m 9 = nI (nF n 1) ∧ kI m 10 = nI (nF n 2) ∧ ∀ c, c < nF n 2 → kA m 319 c = nI (nA n 8 c)
theorem RR_cong {f g : Nat → Int32} {n : tN} (hn : wfN n) (h : ∀ j, j < 106 → g j = f j) (hr : RR f n) : RR g n := by
  have h4 := hn.1.1
  have h8 := hn.1.2.1
  obtain ⟨r0, r1, rc, rt⟩ := hr
  refine ⟨(h _ (by decide)).trans r0, (h _ (by decide)).trans r1, fun c hc => ?_, fun t ht => ?_⟩
  · obtain ⟨a, b, d, e, k⟩ := rc c hc
    have l8 := wfL_len hn.1 hn.2.2.2 c
    exact ⟨(h _ (by omega)).trans a, (h _ (by omega)).trans b, (h _ (by omega)).trans d, (h _ (by omega)).trans e, fun q hq => (h _ (by omega)).trans (k q hq)⟩
  · obtain ⟨a, b, d, e, k, l, m⟩ := rt t ht
    exact ⟨(h _ (by omega)).trans a, (h _ (by omega)).trans b, (h _ (by omega)).trans d, (h _ (by omega)).trans e, (h _ (by omega)).trans k, (h _ (by omega)).trans l, (h _ (by omega)).trans m⟩
section MR
variable {b d : Nat} {m : tM} {h : sH} {i x y z : Int32} {Q : sQ} {n : tN} {k : sK}
theorem M_r {f : Int32 → Prop} (hb : rb b) : aG (pM m h) b i f ↔ vp_in i 106 ∧ f (kA m b i.toNatClampNeg) := by
  rcases hb with e | e | e | e | e <;> subst e
  · exact M_a320
  · exact M_a322
  · exact M_a329
  · exact M_a330
  · exact M_a333
theorem M_rw {f : sH → Prop} (hb : rb b) : aS (pM m h) b i x f ↔ vp_in i 106 ∧ f (pM (xA m b (upd (kA m b) i.toNatClampNeg x)) h) := by
  rcases hb with e | e | e | e | e <;> subst e
  · exact M_w320
  · exact M_w322
  · exact M_w329
  · exact M_w330
  · exact M_w333
theorem rb320 : rb 320 := Or.inl rfl
theorem rb322 : rb 322 := Or.inr (Or.inl rfl)
theorem rb329 : rb 329 := Or.inr (Or.inr (Or.inl rfl))
theorem rb330 : rb 330 := Or.inr (Or.inr (Or.inr (Or.inl rfl)))
theorem rb333 : rb 333 := Or.inr (Or.inr (Or.inr (Or.inr rfl)))
theorem m_cAt {c w : Nat} : MT (d + 1) 161 [.int (nI c), .int (nI w)] h Q ↔ Q (some (.int (nI (2 + 12 * c + w)))) h := by
  rw [MT_go (by decide) _ _ _ (Nat.le_of_ble_eq_true rfl), show s_entry 161 [.int (nI c), .int (nI w)] = [.int (nI c), .int (nI w)] from rfl]
  simp (disch := omega) only [u_161_0, u_161_1, u_161_3, u_161_4, u_161_5, u_161_6, u_161_7, u_161_8, gI0, gIs, gR0, gRs, gF0, gFs, st0, st_i, st_r, st_f, st_n, st_s, true_and, and_true, ↓ifLeT, ↓ifLeF, ↓ifLtT, ↓ifLtF, ↓ifEqT, ↓ifEqF, if_tt, if_ff, if_pos, if_neg, nLe, nLt, nEq, nInT, nCl, pk_mul, nI_add, Nat.reduceAdd, s_cat_nil, s_cat_i, s_cat_r, s_cat_f, s_cat_l, tl_s, tl_n, cat_i, cat_r, cat_f, nb0, nb1, nbI, if_bI, if_bIr, Nat.zero_le, Nat.reduceLeDiff]
theorem m_tAt {c w : Nat} : MT (d + 1) 162 [.int (nI c), .int (nI w)] h Q ↔ Q (some (.int (nI (50 + 7 * c + w)))) h := by
  rw [MT_go (by decide) _ _ _ (Nat.le_of_ble_eq_true rfl), show s_entry 162 [.int (nI c), .int (nI w)] = [.int (nI c), .int (nI w)] from rfl]
  simp (disch := omega) only [u_162_0, u_162_2, u_162_4, u_162_5, u_162_6, u_162_7, u_162_8, u_162_9, gI0, gIs, gR0, gRs, gF0, gFs, st0, st_i, st_r, st_f, st_n, st_s, true_and, and_true, ↓ifLeT, ↓ifLeF, ↓ifLtT, ↓ifLtF, ↓ifEqT, ↓ifEqF, if_tt, if_ff, if_pos, if_neg, nLe, nLt, nEq, nInT, nCl, pk_mul, nI_add, Nat.reduceAdd, s_cat_nil, s_cat_i, s_cat_r, s_cat_f, s_cat_l, tl_s, tl_n, cat_i, cat_r, cat_f, nb0, nb1, nbI, if_bI, if_bIr, Nat.zero_le, Nat.reduceLeDiff]
theorem m_lAt {c : Nat} : MT (d + 1) 166 [.int (nI c)] h Q ↔ Q (some (.int (nI (9 * c)))) h := by
  rw [MT_go (by decide) _ _ _ (Nat.le_of_ble_eq_true rfl), show s_entry 166 [.int (nI c)] = [.int (nI c)] from rfl]
  simp (disch := omega) only [u_166_0, u_166_2, u_166_3, u_166_4, gI0, gIs, gR0, gRs, gF0, gFs, st0, st_i, st_r, st_f, st_n, st_s, true_and, and_true, ↓ifLeT, ↓ifLeF, ↓ifLtT, ↓ifLtF, ↓ifEqT, ↓ifEqF, if_tt, if_ff, if_pos, if_neg, nLe, nLt, nEq, nInT, nCl, pk_mul, nI_add, Nat.reduceAdd, s_cat_nil, s_cat_i, s_cat_r, s_cat_f, s_cat_l, tl_s, tl_n, cat_i, cat_r, cat_f, nb0, nb1, nbI, if_bI, if_bIr, Nat.zero_le, Nat.reduceLeDiff]
theorem lc0 {a b : Int64} : lg_cmp a b < nI 0 ↔ a < b := lg_cmp_lt a b
theorem lc1 {a b : Int64} : nI 0 < lg_cmp a b ↔ b < a := lg_cmp_gt a b
theorem m_in {a b c : Int64} : MT (d + 1) 142 [.long a, .long b, .long c] h Q ↔ Q (some (.int (iB (decide (b ≤ a) && decide (a ≤ c))))) h := by
  rw [MT_go (by decide) _ _ _ (Nat.le_of_ble_eq_true rfl), show s_entry 142 [.long a, .long b, .long c] = [.long a, s_no, .long b, s_no, .long c, s_no] from rfl]
  by_cases h1 : a < b
  · rw [decide_eq_false (Int64.not_le.mpr h1), Bool.false_and]
    simp (disch := omega) only [u_142_0, u_142_1, u_142_2, u_142_3, u_142_6, u_142_7, u_142_9, u_142_10, u_142_13, u_142_14, u_142_17, u_142_18, gI0, gIs, gR0, gRs, gF0, gFs, st0, st_i, st_r, st_f, st_n, st_s, true_and, and_true, ↓ifLeT, ↓ifLeF, ↓ifLtT, ↓ifLtF, ↓ifEqT, ↓ifEqF, if_tt, if_ff, if_pos, if_neg, nLe, nLt, nEq, nInT, nCl, pk_mul, nI_add, Nat.reduceAdd, s_cat_nil, s_cat_i, s_cat_r, s_cat_f, s_cat_l, tl_s, tl_n, cat_i, cat_r, cat_f, nb0, nb1, nbI, if_bI, if_bIr, Nat.zero_le, Nat.reduceLeDiff, gL0, gLs, lc0, lc1, h1, iBf]
  · rw [decide_eq_true (Int64.not_lt.mp h1), Bool.true_and]
    by_cases h2 : c < a
    · rw [decide_eq_false (Int64.not_le.mpr h2)]
      simp (disch := omega) only [u_142_0, u_142_1, u_142_2, u_142_3, u_142_6, u_142_7, u_142_9, u_142_10, u_142_13, u_142_14, u_142_17, u_142_18, gI0, gIs, gR0, gRs, gF0, gFs, st0, st_i, st_r, st_f, st_n, st_s, true_and, and_true, ↓ifLeT, ↓ifLeF, ↓ifLtT, ↓ifLtF, ↓ifEqT, ↓ifEqF, if_tt, if_ff, if_pos, if_neg, nLe, nLt, nEq, nInT, nCl, pk_mul, nI_add, Nat.reduceAdd, s_cat_nil, s_cat_i, s_cat_r, s_cat_f, s_cat_l, tl_s, tl_n, cat_i, cat_r, cat_f, nb0, nb1, nbI, if_bI, if_bIr, Nat.zero_le, Nat.reduceLeDiff, gL0, gLs, lc0, lc1, h1, h2, iBf]
    · rw [decide_eq_true (Int64.not_lt.mp h2)]
      simp (disch := omega) only [u_142_0, u_142_1, u_142_2, u_142_3, u_142_6, u_142_7, u_142_9, u_142_10, u_142_13, u_142_14, u_142_17, u_142_18, gI0, gIs, gR0, gRs, gF0, gFs, st0, st_i, st_r, st_f, st_n, st_s, true_and, and_true, ↓ifLeT, ↓ifLeF, ↓ifLtT, ↓ifLtF, ↓ifEqT, ↓ifEqF, if_tt, if_ff, if_pos, if_neg, nLe, nLt, nEq, nInT, nCl, pk_mul, nI_add, Nat.reduceAdd, s_cat_nil, s_cat_i, s_cat_r, s_cat_f, s_cat_l, tl_s, tl_n, cat_i, cat_r, cat_f, nb0, nb1, nbI, if_bI, if_bIr, Nat.zero_le, Nat.reduceLeDiff, gL0, gLs, lc0, lc1, h1, h2, iBt]
theorem i2l_le {a b : Int32} : a.toInt64 ≤ b.toInt64 ↔ a ≤ b := by
  rw [Int64.le_iff_toInt_le, Int32.le_iff_toInt_le, Int32.toInt_toInt64, Int32.toInt_toInt64]
theorem l_0 : (Int64.ofNat 0) = (nI 0).toInt64 := by decide
/-- within 0 and N - 1 -/
theorem m_inN {N : Nat} (h0 : 0 < N) (hN : N < 2 ^ 30) : MT (d + 1) 142 [.long x.toInt64, .long (nI 0).toInt64, .long (nI (N - 1)).toInt64] h Q ↔ Q (some (.int (iB (ixN x N).isSome))) h := by
  rw [m_in]
  have e : (decide ((nI 0).toInt64 ≤ x.toInt64) && decide (x.toInt64 ≤ (nI (N - 1)).toInt64)) = (ixN x N).isSome := by
    rw [ix_is]
    congr 1
    · exact decide_eq_decide.mpr i2l_le
    · refine decide_eq_decide.mpr (i2l_le.trans ?_)
      rw [le_lt (by omega), show N - 1 + 1 = N by omega]
  rw [e]
/-- small questions of a row -/
theorem r_done {t : Nat} (hb : rb b) (hn : wfN n) (hr : RR (kA m b) n) (ht : t < nF n 3) : MT (d + 2) 180 [.ref b, .int (nI t)] (pM m h) Q ↔ Q (some (.int (iB (nDone n t)))) (pM m h) := by
  have h8 := hn.1.2.1
  obtain ⟨-, a2, -, -, a5, -⟩ := hr.2.2.2 t ht
  obtain ⟨-, -, b3, -, -, b6, -⟩ := hn.2.2.1 t ht
  rw [MT_go (by decide) _ _ _ (Nat.le_of_ble_eq_true rfl), show s_entry 180 [.ref b, .int (nI t)] = [.ref b, .int (nI t)] from rfl]
  unfold nDone
  by_cases e : nA n 16 t = nA n 13 t
  · rw [decide_eq_true e]
    simp (disch := omega) only [u_180_0, u_180_1, u_180_2, u_180_3, u_180_6, u_180_7, u_180_8, u_180_9, u_180_10, u_180_13, u_180_14, u_180_17, u_180_18, u_180_21, u_180_22, gI0, gIs, gR0, gRs, gF0, gFs, st0, st_i, st_r, st_f, st_n, st_s, true_and, and_true, ↓ifLeT, ↓ifLeF, ↓ifLtT, ↓ifLtF, ↓ifEqT, ↓ifEqF, if_tt, if_ff, if_pos, if_neg, nLe, nLt, nEq, nInT, nCl, pk_mul, nI_add, Nat.reduceAdd, s_cat_nil, s_cat_i, s_cat_r, s_cat_f, s_cat_l, tl_s, tl_n, cat_i, cat_r, cat_f, nb0, nb1, nbI, if_bI, if_bIr, Nat.zero_le, Nat.reduceLeDiff, m_tAt, M_r hb, a2, a5, e, iBt]
  · rw [decide_eq_false e]
    simp (disch := omega) only [u_180_0, u_180_1, u_180_2, u_180_3, u_180_6, u_180_7, u_180_8, u_180_9, u_180_10, u_180_13, u_180_14, u_180_17, u_180_18, u_180_21, u_180_22, gI0, gIs, gR0, gRs, gF0, gFs, st0, st_i, st_r, st_f, st_n, st_s, true_and, and_true, ↓ifLeT, ↓ifLeF, ↓ifLtT, ↓ifLtF, ↓ifEqT, ↓ifEqF, if_tt, if_ff, if_pos, if_neg, nLe, nLt, nEq, nInT, nCl, pk_mul, nI_add, Nat.reduceAdd, s_cat_nil, s_cat_i, s_cat_r, s_cat_f, s_cat_l, tl_s, tl_n, cat_i, cat_r, cat_f, nb0, nb1, nbI, if_bI, if_bIr, Nat.zero_le, Nat.reduceLeDiff, m_tAt, M_r hb, a2, a5, e, iBf]
theorem r_left {t : Nat} (hb : rb b) (hn : wfN n) (hr : RR (kA m b) n) (ht : t < nF n 3) : MT (d + 2) 168 [.ref 317, .ref b, .int (nI t)] (pM m h) Q ↔ Q (some (.int (iB (!nDone n t)))) (pM m h) := by
  have h8 := hn.1.2.1
  obtain ⟨-, a2, -, -, a5, -⟩ := hr.2.2.2 t ht
  obtain ⟨-, -, b3, -, -, b6, -⟩ := hn.2.2.1 t ht
  rw [MT_go (by decide) _ _ _ (Nat.le_of_ble_eq_true rfl), show s_entry 168 [.ref 317, .ref b, .int (nI t)] = [.ref 317, .ref b, .int (nI t)] from rfl]
  unfold nDone
  by_cases e : nA n 16 t = nA n 13 t
  · rw [decide_eq_true e]
    simp (disch := omega) only [u_168_0, u_168_1, u_168_2, u_168_3, u_168_6, u_168_7, u_168_8, u_168_9, u_168_10, u_168_13, u_168_14, u_168_17, u_168_18, u_168_21, u_168_22, gI0, gIs, gR0, gRs, gF0, gFs, st0, st_i, st_r, st_f, st_n, st_s, true_and, and_true, ↓ifLeT, ↓ifLeF, ↓ifLtT, ↓ifLtF, ↓ifEqT, ↓ifEqF, if_tt, if_ff, if_pos, if_neg, nLe, nLt, nEq, nInT, nCl, pk_mul, nI_add, Nat.reduceAdd, s_cat_nil, s_cat_i, s_cat_r, s_cat_f, s_cat_l, tl_s, tl_n, cat_i, cat_r, cat_f, nb0, nb1, nbI, if_bI, if_bIr, Nat.zero_le, Nat.reduceLeDiff, m_tAt, M_r hb, a2, a5, e, iBf, Bool.not_true, Nat.le_refl]
  · rw [decide_eq_false e]
    have l : ¬ nI (nA n 13 t) ≤ nI (nA n 16 t) := nI_ge (by omega) (by omega)
    simp (disch := omega) only [u_168_0, u_168_1, u_168_2, u_168_3, u_168_6, u_168_7, u_168_8, u_168_9, u_168_10, u_168_13, u_168_14, u_168_17, u_168_18, u_168_21, u_168_22, gI0, gIs, gR0, gRs, gF0, gFs, st0, st_i, st_r, st_f, st_n, st_s, true_and, and_true, ↓ifLeT, ↓ifLeF, ↓ifLtT, ↓ifLtF, ↓ifEqT, ↓ifEqF, if_tt, if_ff, if_pos, if_neg, nLe, nLt, nEq, nInT, nCl, pk_mul, nI_add, Nat.reduceAdd, s_cat_nil, s_cat_i, s_cat_r, s_cat_f, s_cat_l, tl_s, tl_n, cat_i, cat_r, cat_f, nb0, nb1, nbI, if_bI, if_bIr, Nat.zero_le, Nat.reduceLeDiff, m_tAt, M_r hb, a2, a5, l, iBt, Bool.not_false]
theorem r_lift {c t : Nat} (hn : wfN n) (hg : MG m n) (hr : RR (kA m 320) n) (hc : c < nF n 2) (ht : t < nF n 3) : MT (d + 2) 169 [.ref 317, .int (nI c), .int (nI t)] (pM m h) Q ↔ Q (some (.int (iB (nLift n c t)))) (pM m h) := by
  have h4 := hn.1.1
  have h8 := hn.1.2.1
  obtain ⟨-, -, a3, -⟩ := hr.2.2.2 t ht
  have e8 := hg.2.2.2 c hc
  have b1 := (hn.2.1.1 c hc).2.2.1
  have b2 := (hn.2.2.1 t ht).2.2.2.2.1
  rw [MT_go (by decide) _ _ _ (Nat.le_of_ble_eq_true rfl), show s_entry 169 [.ref 317, .int (nI c), .int (nI t)] = [.ref 317, .int (nI c), .int (nI t)] from rfl]
  unfold nLift
  by_cases e : nA n 14 t ≤ nA n 8 c
  · rw [decide_eq_true e]
    simp (disch := omega) only [u_169_0, u_169_1, u_169_4, u_169_5, u_169_6, u_169_9, u_169_10, u_169_11, u_169_14, u_169_15, u_169_16, u_169_19, u_169_20, u_169_23, u_169_24, gI0, gIs, gR0, gRs, gF0, gFs, st0, st_i, st_r, st_f, st_n, st_s, true_and, and_true, ↓ifLeT, ↓ifLeF, ↓ifLtT, ↓ifLtF, ↓ifEqT, ↓ifEqF, if_tt, if_ff, if_pos, if_neg, nLe, nLt, nEq, nInT, nCl, pk_mul, nI_add, Nat.reduceAdd, s_cat_nil, s_cat_i, s_cat_r, s_cat_f, s_cat_l, tl_s, tl_n, cat_i, cat_r, cat_f, nb0, nb1, nbI, if_bI, if_bIr, Nat.zero_le, Nat.reduceLeDiff, m_tAt, M_g0, M_g1, M_g2, M_g3, M_g4, M_g5, M_g6, M_g7, M_g8, M_g9, M_g10, M_g11, M_g12, M_g13, M_g14, M_g15, M_g16, M_g17, M_g18, M_g19, M_g20, M_g21, M_g22, M_g23, M_g24, M_g25, M_g26, M_g27, M_g28, M_g29, M_g30, M_g31, M_g32, M_g33, M_g34, M_g35, M_g36, M_g37, M_g38, M_g39, M_g40, M_g41, M_a319, M_r rb320, a3, e8, iBt]
  · rw [decide_eq_false e]
    simp (disch := omega) only [u_169_0, u_169_1, u_169_4, u_169_5, u_169_6, u_169_9, u_169_10, u_169_11, u_169_14, u_169_15, u_169_16, u_169_19, u_169_20, u_169_23, u_169_24, gI0, gIs, gR0, gRs, gF0, gFs, st0, st_i, st_r, st_f, st_n, st_s, true_and, and_true, ↓ifLeT, ↓ifLeF, ↓ifLtT, ↓ifLtF, ↓ifEqT, ↓ifEqF, if_tt, if_ff, if_pos, if_neg, nLe, nLt, nEq, nInT, nCl, pk_mul, nI_add, Nat.reduceAdd, s_cat_nil, s_cat_i, s_cat_r, s_cat_f, s_cat_l, tl_s, tl_n, cat_i, cat_r, cat_f, nb0, nb1, nbI, if_bI, if_bIr, Nat.zero_le, Nat.reduceLeDiff, m_tAt, M_g0, M_g1, M_g2, M_g3, M_g4, M_g5, M_g6, M_g7, M_g8, M_g9, M_g10, M_g11, M_g12, M_g13, M_g14, M_g15, M_g16, M_g17, M_g18, M_g19, M_g20, M_g21, M_g22, M_g23, M_g24, M_g25, M_g26, M_g27, M_g28, M_g29, M_g30, M_g31, M_g32, M_g33, M_g34, M_g35, M_g36, M_g37, M_g38, M_g39, M_g40, M_g41, M_a319, M_r rb320, a3, e8, iBf]
theorem r_next {c : Nat} (hb : rb b) (hn : wfN n) (hr : RR (kA m b) n) (hc : c < nF n 2) : MT (d + 3) 181 [.ref b, .int (nI c)] (pM m h) Q ↔ Q (some (.int (oI1 (nNext n c)))) (pM m h) := by
  have h4 := hn.1.1
  have h8 := hn.1.2.1
  obtain ⟨-, -, -, a4, a5⟩ := hr.2.2.1 c hc
  have l8 := wfL_len hn.1 hn.2.2.2 c
  rw [MT_go (by decide) _ _ _ (Nat.le_of_ble_eq_true rfl), show s_entry 181 [.ref b, .int (nI c)] = [.ref b, .int (nI c), s_no, s_no] from rfl]
  have lp : ∀ q k v, k + q = (nL n c).length → (WP (d + 2) 181 2 [.ref b, .int (nI c), .int (nI k), v] [] (pM m h) (0, 0) Q ↔ Q (some (.int (oI1 (((nL n c).drop k).find? (fun t => !nDone n t))))) (pM m h)) := by
    intro q
    induction q with
    | zero =>
      intro k v hk
      have e : k = (nL n c).length := by omega
      subst e
      rw [u_181_2, List.drop_of_length_le (Nat.le_refl _)]
      simp (disch := omega) only [u_181_0, u_181_1, u_181_3, u_181_4, u_181_5, u_181_6, u_181_9, u_181_10, u_181_13, u_181_14, u_181_15, u_181_16, u_181_17, u_181_18, u_181_21, u_181_22, u_181_23, u_181_24, u_181_25, u_181_28, u_181_31, u_181_32, u_181_33, u_181_36, u_181_39, u_181_40, gI0, gIs, gR0, gRs, gF0, gFs, st0, st_i, st_r, st_f, st_n, st_s, true_and, and_true, ↓ifLeT, ↓ifLeF, ↓ifLtT, ↓ifLtF, ↓ifEqT, ↓ifEqF, if_tt, if_ff, if_pos, if_neg, nLe, nLt, nEq, nInT, nCl, pk_mul, nI_add, Nat.reduceAdd, s_cat_nil, s_cat_i, s_cat_r, s_cat_f, s_cat_l, tl_s, tl_n, cat_i, cat_r, cat_f, nb0, nb1, nbI, if_bI, if_bIr, Nat.zero_le, Nat.reduceLeDiff, m_cAt, M_r hb, a4, Nat.le_refl]
      exact Iff.rfl
    | succ q ih =>
      intro k v hk
      have hk' : k < (nL n c).length := by omega
      have e := a5 k hk'
      have ht := (hn.2.2.2.2.1 c).2 _ (getD_mem hk')
      have e1 := fun Q => r_done (d := d) (h := h) (Q := Q) hb hn hr ht
      rw [u_181_2, List.drop_eq_getElem_cons hk', List.find?_cons, ← getD_of hk']
      cases hd : nDone n ((nL n c).getD k 0) with
      | false =>
        rw [hd] at e1
        simp (disch := omega) only [u_181_0, u_181_1, u_181_3, u_181_4, u_181_5, u_181_6, u_181_9, u_181_10, u_181_13, u_181_14, u_181_15, u_181_16, u_181_17, u_181_18, u_181_21, u_181_22, u_181_23, u_181_24, u_181_25, u_181_28, u_181_31, u_181_32, u_181_33, u_181_36, u_181_39, u_181_40, gI0, gIs, gR0, gRs, gF0, gFs, st0, st_i, st_r, st_f, st_n, st_s, true_and, and_true, ↓ifLeT, ↓ifLeF, ↓ifLtT, ↓ifLtF, ↓ifEqT, ↓ifEqF, if_tt, if_ff, if_pos, if_neg, nLe, nLt, nEq, nInT, nCl, pk_mul, nI_add, Nat.reduceAdd, s_cat_nil, s_cat_i, s_cat_r, s_cat_f, s_cat_l, tl_s, tl_n, cat_i, cat_r, cat_f, nb0, nb1, nbI, if_bI, if_bIr, Nat.zero_le, Nat.reduceLeDiff, m_cAt, M_r hb, a4, e, e1, iBf]
        exact Iff.rfl
      | true =>
        rw [hd] at e1
        simp (disch := omega) only [u_181_0, u_181_1, u_181_3, u_181_4, u_181_5, u_181_6, u_181_9, u_181_10, u_181_13, u_181_14, u_181_15, u_181_16, u_181_17, u_181_18, u_181_21, u_181_22, u_181_23, u_181_24, u_181_25, u_181_28, u_181_31, u_181_32, u_181_33, u_181_36, u_181_39, u_181_40, gI0, gIs, gR0, gRs, gF0, gFs, st0, st_i, st_r, st_f, st_n, st_s, true_and, and_true, ↓ifLeT, ↓ifLeF, ↓ifLtT, ↓ifLtF, ↓ifEqT, ↓ifEqF, if_tt, if_ff, if_pos, if_neg, nLe, nLt, nEq, nInT, nCl, pk_mul, nI_add, Nat.reduceAdd, s_cat_nil, s_cat_i, s_cat_r, s_cat_f, s_cat_l, tl_s, tl_n, cat_i, cat_r, cat_f, nb0, nb1, nbI, if_bI, if_bIr, Nat.zero_le, Nat.reduceLeDiff, m_cAt, M_r hb, a4, e, e1, iBt, nI10, reduceIte, ih (k + 1) _ (by omega)]
        exact Iff.rfl
  simp (disch := omega) only [u_181_0, u_181_1, u_181_3, u_181_4, u_181_5, u_181_6, u_181_9, u_181_10, u_181_13, u_181_14, u_181_15, u_181_16, u_181_17, u_181_18, u_181_21, u_181_22, u_181_23, u_181_24, u_181_25, u_181_28, u_181_31, u_181_32, u_181_33, u_181_36, u_181_39, u_181_40, gI0, gIs, gR0, gRs, gF0, gFs, st0, st_i, st_r, st_f, st_n, st_s, true_and, and_true, ↓ifLeT, ↓ifLeF, ↓ifLtT, ↓ifLtF, ↓ifEqT, ↓ifEqF, if_tt, if_ff, if_pos, if_neg, nLe, nLt, nEq, nInT, nCl, pk_mul, nI_add, Nat.reduceAdd, s_cat_nil, s_cat_i, s_cat_r, s_cat_f, s_cat_l, tl_s, tl_n, cat_i, cat_r, cat_f, nb0, nb1, nbI, if_bI, if_bIr, Nat.zero_le, Nat.reduceLeDiff, lp (nL n c).length 0 _ (Nat.zero_add _), List.drop_zero]
  exact Iff.rfl
theorem bn_0 {v : Bool} {A B : Prop} : (if iB v = nI 0 then A else B) ↔ (if v = true then B else A) := by cases v <;> simp [iB, nI10]
theorem all_acc {p : Nat → Bool} : ∀ q k, (List.range' k (q + 1)).all p = (p k && (List.range' (k + 1) q).all p) := fun q k => by rw [List.range'_succ, List.all_cons]
theorem r_free {t : Nat} (hb : rb b) (hn : wfN n) (hr : RR (kA m b) n) (ht : t < nF n 3) : MT (d + 3) 182 [.ref b, .int (nI t)] (pM m h) Q ↔ Q (some (.int (iB (nFree n t)))) (pM m h) := by
  have h8 := hn.1.2.1
  obtain ⟨-, -, -, a4, -⟩ := hr.2.2.2 t ht
  have r1 := hr.2.1
  have c1 : (nI 1).toNatClampNeg = 1 := rfl
  have b256 := bitsN_256 (f := nV n t) (k := 8) (by decide)
  rw [MT_go (by decide) _ _ _ (Nat.le_of_ble_eq_true rfl), show s_entry 182 [.ref b, .int (nI t)] = [.ref b, .int (nI t), s_no, s_no] from rfl]
  have lp : ∀ q k v, k + q = nF n 3 → (WP (d + 2) 182 4 [.ref b, .int (nI t), .int (iB v), .int (nI k)] [] (pM m h) (0, 0) Q ↔ Q (some (.int (iB (v && (List.range' k q).all fun u => !nV n t u || nDone n u)))) (pM m h)) := by
    intro q
    induction q with
    | zero =>
      intro k v hk
      have e : k = nF n 3 := by omega
      subst e
      rw [u_182_4]
      simp (disch := omega) only [u_182_0, u_182_1, u_182_2, u_182_3, u_182_5, u_182_6, u_182_7, u_182_8, u_182_11, u_182_12, u_182_15, u_182_16, u_182_17, u_182_18, u_182_21, u_182_22, u_182_23, u_182_24, u_182_25, u_182_26, u_182_29, u_182_30, u_182_31, u_182_34, u_182_37, u_182_38, u_182_41, u_182_42, u_182_43, u_182_46, u_182_49, u_182_50, gI0, gIs, gR0, gRs, gF0, gFs, st0, st_i, st_r, st_f, st_n, st_s, true_and, and_true, ↓ifLeT, ↓ifLeF, ↓ifLtT, ↓ifLtF, ↓ifEqT, ↓ifEqF, if_tt, if_ff, if_pos, if_neg, nLe, nLt, nEq, nInT, nCl, pk_mul, nI_add, Nat.reduceAdd, s_cat_nil, s_cat_i, s_cat_r, s_cat_f, s_cat_l, tl_s, tl_n, cat_i, cat_r, cat_f, nb0, nb1, nbI, if_bI, if_bIr, Nat.zero_le, Nat.reduceLeDiff, M_r hb, c1, r1, Nat.le_refl]
      rw [List.range'_zero, List.all_nil, Bool.and_true]
      exact ⟨fun z => z.2, fun z => ⟨nbB.mpr trivial, z⟩⟩
    | succ q ih =>
      intro k v hk
      have e1 := fun Q => r_done (d := d) (h := h) (Q := Q) (t := k) hb hn hr (by omega)
      rw [u_182_4, all_acc]
      have bt := i_bit0 (m := bitsN (nV n t) 8) (c := k) (by omega) (by omega)
      rw [bitsN_tb, decide_eq_true (show k < 8 by omega), Bool.true_and] at bt
      have ih := fun v => ih (k + 1) v (by omega)
      cases v with
      | false =>
        simp (disch := omega) only [u_182_0, u_182_1, u_182_2, u_182_3, u_182_5, u_182_6, u_182_7, u_182_8, u_182_11, u_182_12, u_182_15, u_182_16, u_182_17, u_182_18, u_182_21, u_182_22, u_182_23, u_182_24, u_182_25, u_182_26, u_182_29, u_182_30, u_182_31, u_182_34, u_182_37, u_182_38, u_182_41, u_182_42, u_182_43, u_182_46, u_182_49, u_182_50, gI0, gIs, gR0, gRs, gF0, gFs, st0, st_i, st_r, st_f, st_n, st_s, true_and, and_true, ↓ifLeT, ↓ifLeF, ↓ifLtT, ↓ifLtF, ↓ifEqT, ↓ifEqF, if_tt, if_ff, if_pos, if_neg, nLe, nLt, nEq, nInT, nCl, pk_mul, nI_add, Nat.reduceAdd, s_cat_nil, s_cat_i, s_cat_r, s_cat_f, s_cat_l, tl_s, tl_n, cat_i, cat_r, cat_f, nb0, nb1, nbI, if_bI, if_bIr, Nat.zero_le, Nat.reduceLeDiff, M_r hb, c1, r1, iBf]
        have := ih false
        rw [Bool.false_and] at this
        rw [Bool.false_and]
        exact this
      | true =>
        cases hv : nV n t k with
        | false =>
          have bt := bt.mpr hv
          have := ih true
          simp (disch := omega) only [u_182_0, u_182_1, u_182_2, u_182_3, u_182_5, u_182_6, u_182_7, u_182_8, u_182_11, u_182_12, u_182_15, u_182_16, u_182_17, u_182_18, u_182_21, u_182_22, u_182_23, u_182_24, u_182_25, u_182_26, u_182_29, u_182_30, u_182_31, u_182_34, u_182_37, u_182_38, u_182_41, u_182_42, u_182_43, u_182_46, u_182_49, u_182_50, gI0, gIs, gR0, gRs, gF0, gFs, st0, st_i, st_r, st_f, st_n, st_s, true_and, and_true, ↓ifLeT, ↓ifLeF, ↓ifLtT, ↓ifLtF, ↓ifEqT, ↓ifEqF, if_tt, if_ff, if_pos, if_neg, nLe, nLt, nEq, nInT, nCl, pk_mul, nI_add, Nat.reduceAdd, s_cat_nil, s_cat_i, s_cat_r, s_cat_f, s_cat_l, tl_s, tl_n, cat_i, cat_r, cat_f, nb0, nb1, nbI, if_bI, if_bIr, Nat.zero_le, Nat.reduceLeDiff, m_tAt, M_r hb, c1, r1, a4, iBt, nI10, reduceIte, bt]
          rw [Bool.not_false, Bool.true_or, Bool.true_and]
          exact this
        | true =>
          have bt : ¬ nI (bitsN (nV n t) 8) >>> (nI k &&& 31) &&& nI 1 = nI 0 := fun z => by have := bt.mp z; rw [hv] at this; cases this
          cases hd : nDone n k with
          | true =>
            rw [hd] at e1
            have := ih true
            simp (disch := omega) only [u_182_0, u_182_1, u_182_2, u_182_3, u_182_5, u_182_6, u_182_7, u_182_8, u_182_11, u_182_12, u_182_15, u_182_16, u_182_17, u_182_18, u_182_21, u_182_22, u_182_23, u_182_24, u_182_25, u_182_26, u_182_29, u_182_30, u_182_31, u_182_34, u_182_37, u_182_38, u_182_41, u_182_42, u_182_43, u_182_46, u_182_49, u_182_50, gI0, gIs, gR0, gRs, gF0, gFs, st0, st_i, st_r, st_f, st_n, st_s, true_and, and_true, ↓ifLeT, ↓ifLeF, ↓ifLtT, ↓ifLtF, ↓ifEqT, ↓ifEqF, if_tt, if_ff, if_pos, if_neg, nLe, nLt, nEq, nInT, nCl, pk_mul, nI_add, Nat.reduceAdd, s_cat_nil, s_cat_i, s_cat_r, s_cat_f, s_cat_l, tl_s, tl_n, cat_i, cat_r, cat_f, nb0, nb1, nbI, if_bI, if_bIr, Nat.zero_le, Nat.reduceLeDiff, m_tAt, M_r hb, c1, r1, a4, iBt, nI10, reduceIte, bt, e1]
            rw [Bool.or_true, Bool.true_and]
            exact this
          | false =>
            rw [hd] at e1
            have := ih false
            simp (disch := omega) only [u_182_0, u_182_1, u_182_2, u_182_3, u_182_5, u_182_6, u_182_7, u_182_8, u_182_11, u_182_12, u_182_15, u_182_16, u_182_17, u_182_18, u_182_21, u_182_22, u_182_23, u_182_24, u_182_25, u_182_26, u_182_29, u_182_30, u_182_31, u_182_34, u_182_37, u_182_38, u_182_41, u_182_42, u_182_43, u_182_46, u_182_49, u_182_50, gI0, gIs, gR0, gRs, gF0, gFs, st0, st_i, st_r, st_f, st_n, st_s, true_and, and_true, ↓ifLeT, ↓ifLeF, ↓ifLtT, ↓ifLtF, ↓ifEqT, ↓ifEqF, if_tt, if_ff, if_pos, if_neg, nLe, nLt, nEq, nInT, nCl, pk_mul, nI_add, Nat.reduceAdd, s_cat_nil, s_cat_i, s_cat_r, s_cat_f, s_cat_l, tl_s, tl_n, cat_i, cat_r, cat_f, nb0, nb1, nbI, if_bI, if_bIr, Nat.zero_le, Nat.reduceLeDiff, m_tAt, M_r hb, c1, r1, a4, iBt, iBf, nI10, reduceIte, bt, e1]
            rw [Bool.not_true, Bool.false_or, Bool.false_and, Bool.and_false]
            rw [Bool.false_and] at this
            exact this
  have lp0 := lp (nF n 3) 0 true (Nat.zero_add _)
  have lp0 : WP (d + 2) 182 4 [.ref b, .int (nI t), .int (nI 1), .int (nI 0)] [] (pM m h) (0, 0) Q ↔ _ := lp0
  simp (disch := omega) only [u_182_0, u_182_1, u_182_2, u_182_3, u_182_5, u_182_6, u_182_7, u_182_8, u_182_11, u_182_12, u_182_15, u_182_16, u_182_17, u_182_18, u_182_21, u_182_22, u_182_23, u_182_24, u_182_25, u_182_26, u_182_29, u_182_30, u_182_31, u_182_34, u_182_37, u_182_38, u_182_41, u_182_42, u_182_43, u_182_46, u_182_49, u_182_50, gI0, gIs, gR0, gRs, gF0, gFs, st0, st_i, st_r, st_f, st_n, st_s, true_and, and_true, ↓ifLeT, ↓ifLeF, ↓ifLtT, ↓ifLtF, ↓ifEqT, ↓ifEqF, if_tt, if_ff, if_pos, if_neg, nLe, nLt, nEq, nInT, nCl, pk_mul, nI_add, Nat.reduceAdd, s_cat_nil, s_cat_i, s_cat_r, s_cat_f, s_cat_l, tl_s, tl_n, cat_i, cat_r, cat_f, nb0, nb1, nbI, if_bI, if_bIr, Nat.zero_le, Nat.reduceLeDiff, lp0]
  unfold nFree
  rw [Bool.true_and, List.range_eq_range']
theorem sni_ok {w : UInt32} (hw : goodW w) : vn_sni2f (nI w.toNat) = false ∧ (nI w.toNat).toUInt32 = w := by
  have e : (nI w.toNat).toUInt32 = w := by rw [← toI_n]; exact UInt32.toUInt32_toInt32 w
  refine ⟨?_, e⟩
  unfold vn_sni2f
  rw [e]
  have : ¬ (w &&& 0x7fffffff > 0x7f800000) := by
    intro q
    have := n32_of (good_fin hw)
    unfold vf_n32 at this
    exact absurd q (UInt32.not_lt.mpr this)
  rw [decide_eq_false this, Bool.false_and]
theorem r_sway {c : Nat} (hb : rb b) (hn : wfN n) (hr : RR (kA m b) n) (hc : c < nF n 2) : MT (d + 2) 179 [.ref b, .int (nI c)] (pM m h) Q ↔ Q (some (.float (nW n c))) (pM m h) := by
  have h4 := hn.1.1
  obtain ⟨-, -, a3, -, -⟩ := hr.2.2.1 c hc
  obtain ⟨s1, s2⟩ := sni_ok (hn.2.1.1 c hc).2.2.2
  rw [MT_go (by decide) _ _ _ (Nat.le_of_ble_eq_true rfl), show s_entry 179 [.ref b, .int (nI c)] = [.ref b, .int (nI c)] from rfl]
  simp (disch := omega) only [u_179_0, u_179_1, u_179_2, u_179_3, u_179_6, u_179_7, u_179_10, gI0, gIs, gR0, gRs, gF0, gFs, st0, st_i, st_r, st_f, st_n, st_s, true_and, and_true, ↓ifLeT, ↓ifLeF, ↓ifLtT, ↓ifLtF, ↓ifEqT, ↓ifEqF, if_tt, if_ff, if_pos, if_neg, nLe, nLt, nEq, nInT, nCl, pk_mul, nI_add, Nat.reduceAdd, s_cat_nil, s_cat_i, s_cat_r, s_cat_f, s_cat_l, tl_s, tl_n, cat_i, cat_r, cat_f, nb0, nb1, nbI, if_bI, if_bIr, Nat.zero_le, Nat.reduceLeDiff, m_cAt, M_r hb, a3, s1, s2]
theorem r_works {c : Nat} (hb : rb b) (hn : wfN n) (hr : RR (kA m b) n) (hc : c < nF n 2) : MT (d + 4) 183 [.ref b, .int (nI c)] (pM m h) Q ↔ Q (some (.int (iB (nWorks n c)))) (pM m h) := by
  have h4 := hn.1.1
  have h8 := hn.1.2.1
  have hB := hn.1.2.2.2.1
  obtain ⟨a1, a2, -⟩ := hr.2.2.1 c hc
  have b1 := (hn.2.1.1 c hc).1
  have e1 := fun Q => r_next (d := d) (h := h) (Q := Q) hb hn hr hc
  rw [MT_go (by decide) _ _ _ (Nat.le_of_ble_eq_true rfl), show s_entry 183 [.ref b, .int (nI c)] = [.ref b, .int (nI c), s_no] from rfl]
  unfold nWorks
  cases hx : nNext n c with
  | none =>
    rw [hx] at e1
    have o : oI1 none = -1 := rfl
    simp (disch := omega) only [u_183_0, u_183_1, u_183_2, u_183_5, u_183_6, u_183_7, u_183_8, u_183_11, u_183_12, u_183_13, u_183_14, u_183_17, u_183_18, u_183_21, u_183_22, u_183_23, u_183_24, u_183_27, u_183_28, u_183_29, u_183_30, u_183_31, u_183_34, u_183_35, u_183_38, u_183_39, u_183_40, u_183_43, u_183_46, u_183_47, u_183_48, u_183_51, u_183_52, u_183_53, u_183_56, u_183_57, u_183_60, u_183_61, gI0, gIs, gR0, gRs, gF0, gFs, st0, st_i, st_r, st_f, st_n, st_s, true_and, and_true, ↓ifLeT, ↓ifLeF, ↓ifLtT, ↓ifLtF, ↓ifEqT, ↓ifEqF, if_tt, if_ff, if_pos, if_neg, nLe, nLt, nEq, nInT, nCl, pk_mul, nI_add, Nat.reduceAdd, s_cat_nil, s_cat_i, s_cat_r, s_cat_f, s_cat_l, tl_s, tl_n, cat_i, cat_r, cat_f, nb0, nb1, nbI, if_bI, if_bIr, Nat.zero_le, Nat.reduceLeDiff, e1, o, iBf]
  | some t =>
    obtain ⟨t1, -, -⟩ := next_lt hn.2.2.2 hx
    rw [hx] at e1
    have o : oI1 (some t) = nI t := rfl
    have o2 : ¬ nI t = -1 := m1_ne (by omega)
    obtain ⟨t12, -⟩ := hr.2.2.2 t t1
    have b2 := (hn.2.2.1 t t1).1
    have e2 := fun Q => r_free (d := d) (h := h) (Q := Q) hb hn hr t1
    have e3 := fun Q => r_sway (d := d + 1) (h := h) (Q := Q) hb hn hr hc
    show _ ↔ Q (some (.int (iB (!nK n c && (decide (nA n 7 c = nA n 12 t) && (nFree n t && calmW (nW n c))))))) (pM m h)
    cases hk : nK n c with
    | true =>
      rw [hk] at a2
      simp (disch := omega) only [u_183_0, u_183_1, u_183_2, u_183_5, u_183_6, u_183_7, u_183_8, u_183_11, u_183_12, u_183_13, u_183_14, u_183_17, u_183_18, u_183_21, u_183_22, u_183_23, u_183_24, u_183_27, u_183_28, u_183_29, u_183_30, u_183_31, u_183_34, u_183_35, u_183_38, u_183_39, u_183_40, u_183_43, u_183_46, u_183_47, u_183_48, u_183_51, u_183_52, u_183_53, u_183_56, u_183_57, u_183_60, u_183_61, gI0, gIs, gR0, gRs, gF0, gFs, st0, st_i, st_r, st_f, st_n, st_s, true_and, and_true, ↓ifLeT, ↓ifLeF, ↓ifLtT, ↓ifLtF, ↓ifEqT, ↓ifEqF, if_tt, if_ff, if_pos, if_neg, nLe, nLt, nEq, nInT, nCl, pk_mul, nI_add, Nat.reduceAdd, s_cat_nil, s_cat_i, s_cat_r, s_cat_f, s_cat_l, tl_s, tl_n, cat_i, cat_r, cat_f, nb0, nb1, nbI, if_bI, if_bIr, Nat.zero_le, Nat.reduceLeDiff, e1, o, o2, m_cAt, m_tAt, M_r hb, a2, iBt, nI10, reduceIte]
      exact Iff.rfl
    | false =>
      rw [hk] at a2
      by_cases ha : nA n 7 c = nA n 12 t
      · rw [decide_eq_true ha]
        cases hf : nFree n t with
        | false =>
          rw [hf] at e2
          simp (disch := omega) only [u_183_0, u_183_1, u_183_2, u_183_5, u_183_6, u_183_7, u_183_8, u_183_11, u_183_12, u_183_13, u_183_14, u_183_17, u_183_18, u_183_21, u_183_22, u_183_23, u_183_24, u_183_27, u_183_28, u_183_29, u_183_30, u_183_31, u_183_34, u_183_35, u_183_38, u_183_39, u_183_40, u_183_43, u_183_46, u_183_47, u_183_48, u_183_51, u_183_52, u_183_53, u_183_56, u_183_57, u_183_60, u_183_61, gI0, gIs, gR0, gRs, gF0, gFs, st0, st_i, st_r, st_f, st_n, st_s, true_and, and_true, ↓ifLeT, ↓ifLeF, ↓ifLtT, ↓ifLtF, ↓ifEqT, ↓ifEqF, if_tt, if_ff, if_pos, if_neg, nLe, nLt, nEq, nInT, nCl, pk_mul, nI_add, Nat.reduceAdd, s_cat_nil, s_cat_i, s_cat_r, s_cat_f, s_cat_l, tl_s, tl_n, cat_i, cat_r, cat_f, nb0, nb1, nbI, if_bI, if_bIr, Nat.zero_le, Nat.reduceLeDiff, e1, o, o2, m_cAt, m_tAt, M_r hb, a1, a2, t12, ha, iBf, e2, reduceIte]
          exact Iff.rfl
        | true =>
          rw [hf] at e2
          cases hw : calmW (nW n c) with
          | true =>
            have hw2 : ¬ nI 0 ≤ Op.cmpValue (FP.fcmp (nW n c) FP.fconst1) .g := of_decide_eq_true hw
            simp (disch := omega) only [u_183_0, u_183_1, u_183_2, u_183_5, u_183_6, u_183_7, u_183_8, u_183_11, u_183_12, u_183_13, u_183_14, u_183_17, u_183_18, u_183_21, u_183_22, u_183_23, u_183_24, u_183_27, u_183_28, u_183_29, u_183_30, u_183_31, u_183_34, u_183_35, u_183_38, u_183_39, u_183_40, u_183_43, u_183_46, u_183_47, u_183_48, u_183_51, u_183_52, u_183_53, u_183_56, u_183_57, u_183_60, u_183_61, gI0, gIs, gR0, gRs, gF0, gFs, st0, st_i, st_r, st_f, st_n, st_s, true_and, and_true, ↓ifLeT, ↓ifLeF, ↓ifLtT, ↓ifLtF, ↓ifEqT, ↓ifEqF, if_tt, if_ff, if_pos, if_neg, nLe, nLt, nEq, nInT, nCl, pk_mul, nI_add, Nat.reduceAdd, s_cat_nil, s_cat_i, s_cat_r, s_cat_f, s_cat_l, tl_s, tl_n, cat_i, cat_r, cat_f, nb0, nb1, nbI, if_bI, if_bIr, Nat.zero_le, Nat.reduceLeDiff, e1, o, o2, m_cAt, m_tAt, M_r hb, a1, a2, t12, ha, iBt, iBf, nI10, e2, e3, hw2, reduceIte]
            exact Iff.rfl
          | false =>
            have hw2 : nI 0 ≤ Op.cmpValue (FP.fcmp (nW n c) FP.fconst1) .g := Classical.not_not.mp (of_decide_eq_false hw)
            simp (disch := omega) only [u_183_0, u_183_1, u_183_2, u_183_5, u_183_6, u_183_7, u_183_8, u_183_11, u_183_12, u_183_13, u_183_14, u_183_17, u_183_18, u_183_21, u_183_22, u_183_23, u_183_24, u_183_27, u_183_28, u_183_29, u_183_30, u_183_31, u_183_34, u_183_35, u_183_38, u_183_39, u_183_40, u_183_43, u_183_46, u_183_47, u_183_48, u_183_51, u_183_52, u_183_53, u_183_56, u_183_57, u_183_60, u_183_61, gI0, gIs, gR0, gRs, gF0, gFs, st0, st_i, st_r, st_f, st_n, st_s, true_and, and_true, ↓ifLeT, ↓ifLeF, ↓ifLtT, ↓ifLtF, ↓ifEqT, ↓ifEqF, if_tt, if_ff, if_pos, if_neg, nLe, nLt, nEq, nInT, nCl, pk_mul, nI_add, Nat.reduceAdd, s_cat_nil, s_cat_i, s_cat_r, s_cat_f, s_cat_l, tl_s, tl_n, cat_i, cat_r, cat_f, nb0, nb1, nbI, if_bI, if_bIr, Nat.zero_le, Nat.reduceLeDiff, e1, o, o2, m_cAt, m_tAt, M_r hb, a1, a2, t12, ha, iBt, iBf, nI10, e2, e3, hw2, reduceIte]
            exact Iff.rfl
      · rw [decide_eq_false ha]
        simp (disch := omega) only [u_183_0, u_183_1, u_183_2, u_183_5, u_183_6, u_183_7, u_183_8, u_183_11, u_183_12, u_183_13, u_183_14, u_183_17, u_183_18, u_183_21, u_183_22, u_183_23, u_183_24, u_183_27, u_183_28, u_183_29, u_183_30, u_183_31, u_183_34, u_183_35, u_183_38, u_183_39, u_183_40, u_183_43, u_183_46, u_183_47, u_183_48, u_183_51, u_183_52, u_183_53, u_183_56, u_183_57, u_183_60, u_183_61, gI0, gIs, gR0, gRs, gF0, gFs, st0, st_i, st_r, st_f, st_n, st_s, true_and, and_true, ↓ifLeT, ↓ifLeF, ↓ifLtT, ↓ifLtF, ↓ifEqT, ↓ifEqF, if_tt, if_ff, if_pos, if_neg, nLe, nLt, nEq, nInT, nCl, pk_mul, nI_add, Nat.reduceAdd, s_cat_nil, s_cat_i, s_cat_r, s_cat_f, s_cat_l, tl_s, tl_n, cat_i, cat_r, cat_f, nb0, nb1, nbI, if_bI, if_bIr, Nat.zero_le, Nat.reduceLeDiff, e1, o, o2, m_cAt, m_tAt, M_r hb, a1, a2, t12, ha, iBf, reduceIte]
        exact Iff.rfl
theorem r_over (hb : rb b) (hn : wfN n) (hg : MG m n) (hr : RR (kA m b) n) : MT (d + 4) 190 [.ref 317, .ref b] (pM m h) Q ↔ Q (some (.int (iB (overN n)))) (pM m h) := by
  have h4 := hn.1.1
  have h8 := hn.1.2.1
  have g2 := hg.2.2.1
  rw [MT_go (by decide) _ _ _ (Nat.le_of_ble_eq_true rfl), show s_entry 190 [.ref 317, .ref b] = [.ref 317, .ref b, s_no, s_no] from rfl]
  have lp : ∀ q k v, k + q = nF n 2 → (WP (d + 3) 190 4 [.ref 317, .ref b, .int (iB v), .int (nI k)] [] (pM m h) (0, 0) Q ↔ Q (some (.int (iB (v && (List.range' k q).all fun c => (nNext n c).isNone)))) (pM m h)) := by
    intro q
    induction q with
    | zero =>
      intro k v hk
      have e : k = nF n 2 := by omega
      subst e
      rw [u_190_4]
      simp (disch := omega) only [u_190_0, u_190_1, u_190_2, u_190_3, u_190_5, u_190_6, u_190_9, u_190_12, u_190_13, u_190_16, u_190_17, u_190_18, u_190_21, u_190_22, u_190_25, u_190_26, u_190_29, u_190_30, u_190_31, u_190_34, u_190_37, u_190_38, gI0, gIs, gR0, gRs, gF0, gFs, st0, st_i, st_r, st_f, st_n, st_s, true_and, and_true, ↓ifLeT, ↓ifLeF, ↓ifLtT, ↓ifLtF, ↓ifEqT, ↓ifEqF, if_tt, if_ff, if_pos, if_neg, nLe, nLt, nEq, nInT, nCl, pk_mul, nI_add, Nat.reduceAdd, s_cat_nil, s_cat_i, s_cat_r, s_cat_f, s_cat_l, tl_s, tl_n, cat_i, cat_r, cat_f, nb0, nb1, nbI, if_bI, if_bIr, Nat.zero_le, Nat.reduceLeDiff, M_g0, M_g1, M_g2, M_g3, M_g4, M_g5, M_g6, M_g7, M_g8, M_g9, M_g10, M_g11, M_g12, M_g13, M_g14, M_g15, M_g16, M_g17, M_g18, M_g19, M_g20, M_g21, M_g22, M_g23, M_g24, M_g25, M_g26, M_g27, M_g28, M_g29, M_g30, M_g31, M_g32, M_g33, M_g34, M_g35, M_g36, M_g37, M_g38, M_g39, M_g40, M_g41, g2, Nat.le_refl]
      rw [List.range'_zero, List.all_nil, Bool.and_true]
      exact ⟨fun z => z.2, fun z => ⟨nbB.mpr trivial, z⟩⟩
    | succ q ih =>
      intro k v hk
      have e1 := fun Q => r_next (d := d) (h := h) (Q := Q) (c := k) hb hn hr (by omega)
      have ih := fun v => ih (k + 1) v (by omega)
      rw [u_190_4, all_acc]
      cases v with
      | false =>
        simp (disch := omega) only [u_190_0, u_190_1, u_190_2, u_190_3, u_190_5, u_190_6, u_190_9, u_190_12, u_190_13, u_190_16, u_190_17, u_190_18, u_190_21, u_190_22, u_190_25, u_190_26, u_190_29, u_190_30, u_190_31, u_190_34, u_190_37, u_190_38, gI0, gIs, gR0, gRs, gF0, gFs, st0, st_i, st_r, st_f, st_n, st_s, true_and, and_true, ↓ifLeT, ↓ifLeF, ↓ifLtT, ↓ifLtF, ↓ifEqT, ↓ifEqF, if_tt, if_ff, if_pos, if_neg, nLe, nLt, nEq, nInT, nCl, pk_mul, nI_add, Nat.reduceAdd, s_cat_nil, s_cat_i, s_cat_r, s_cat_f, s_cat_l, tl_s, tl_n, cat_i, cat_r, cat_f, nb0, nb1, nbI, if_bI, if_bIr, Nat.zero_le, Nat.reduceLeDiff, M_g0, M_g1, M_g2, M_g3, M_g4, M_g5, M_g6, M_g7, M_g8, M_g9, M_g10, M_g11, M_g12, M_g13, M_g14, M_g15, M_g16, M_g17, M_g18, M_g19, M_g20, M_g21, M_g22, M_g23, M_g24, M_g25, M_g26, M_g27, M_g28, M_g29, M_g30, M_g31, M_g32, M_g33, M_g34, M_g35, M_g36, M_g37, M_g38, M_g39, M_g40, M_g41, g2, iBf]
        have := ih false
        rw [Bool.false_and] at this
        rw [Bool.false_and]
        exact this
      | true =>
        cases hx : nNext n k with
        | none =>
          rw [hx] at e1
          have o : oI1 none = -1 := rfl
          have := ih true
          simp (disch := omega) only [u_190_0, u_190_1, u_190_2, u_190_3, u_190_5, u_190_6, u_190_9, u_190_12, u_190_13, u_190_16, u_190_17, u_190_18, u_190_21, u_190_22, u_190_25, u_190_26, u_190_29, u_190_30, u_190_31, u_190_34, u_190_37, u_190_38, gI0, gIs, gR0, gRs, gF0, gFs, st0, st_i, st_r, st_f, st_n, st_s, true_and, and_true, ↓ifLeT, ↓ifLeF, ↓ifLtT, ↓ifLtF, ↓ifEqT, ↓ifEqF, if_tt, if_ff, if_pos, if_neg, nLe, nLt, nEq, nInT, nCl, pk_mul, nI_add, Nat.reduceAdd, s_cat_nil, s_cat_i, s_cat_r, s_cat_f, s_cat_l, tl_s, tl_n, cat_i, cat_r, cat_f, nb0, nb1, nbI, if_bI, if_bIr, Nat.zero_le, Nat.reduceLeDiff, M_g0, M_g1, M_g2, M_g3, M_g4, M_g5, M_g6, M_g7, M_g8, M_g9, M_g10, M_g11, M_g12, M_g13, M_g14, M_g15, M_g16, M_g17, M_g18, M_g19, M_g20, M_g21, M_g22, M_g23, M_g24, M_g25, M_g26, M_g27, M_g28, M_g29, M_g30, M_g31, M_g32, M_g33, M_g34, M_g35, M_g36, M_g37, M_g38, M_g39, M_g40, M_g41, g2, iBt, nI10, reduceIte, e1, o]
          rw [show (none : Option Nat).isNone = true from rfl, Bool.true_and]
          exact this
        | some t =>
          obtain ⟨t1, -, -⟩ := next_lt hn.2.2.2 hx
          rw [hx] at e1
          have o : oI1 (some t) = nI t := rfl
          have o2 : ¬ nI t = -1 := m1_ne (by omega)
          have := ih false
          simp (disch := omega) only [u_190_0, u_190_1, u_190_2, u_190_3, u_190_5, u_190_6, u_190_9, u_190_12, u_190_13, u_190_16, u_190_17, u_190_18, u_190_21, u_190_22, u_190_25, u_190_26, u_190_29, u_190_30, u_190_31, u_190_34, u_190_37, u_190_38, gI0, gIs, gR0, gRs, gF0, gFs, st0, st_i, st_r, st_f, st_n, st_s, true_and, and_true, ↓ifLeT, ↓ifLeF, ↓ifLtT, ↓ifLtF, ↓ifEqT, ↓ifEqF, if_tt, if_ff, if_pos, if_neg, nLe, nLt, nEq, nInT, nCl, pk_mul, nI_add, Nat.reduceAdd, s_cat_nil, s_cat_i, s_cat_r, s_cat_f, s_cat_l, tl_s, tl_n, cat_i, cat_r, cat_f, nb0, nb1, nbI, if_bI, if_bIr, Nat.zero_le, Nat.reduceLeDiff, M_g0, M_g1, M_g2, M_g3, M_g4, M_g5, M_g6, M_g7, M_g8, M_g9, M_g10, M_g11, M_g12, M_g13, M_g14, M_g15, M_g16, M_g17, M_g18, M_g19, M_g20, M_g21, M_g22, M_g23, M_g24, M_g25, M_g26, M_g27, M_g28, M_g29, M_g30, M_g31, M_g32, M_g33, M_g34, M_g35, M_g36, M_g37, M_g38, M_g39, M_g40, M_g41, g2, iBt, iBf, nI10, reduceIte, e1, o, o2]
          rw [show (some t).isNone = false from rfl, Bool.false_and, Bool.and_false]
          rw [Bool.false_and] at this
          exact this
  have lp0 : WP (d + 3) 190 4 [.ref 317, .ref b, .int (nI 1), .int (nI 0)] [] (pM m h) (0, 0) Q ↔ _ := lp (nF n 2) 0 true (Nat.zero_add _)
  simp (disch := omega) only [u_190_0, u_190_1, u_190_2, u_190_3, u_190_5, u_190_6, u_190_9, u_190_12, u_190_13, u_190_16, u_190_17, u_190_18, u_190_21, u_190_22, u_190_25, u_190_26, u_190_29, u_190_30, u_190_31, u_190_34, u_190_37, u_190_38, gI0, gIs, gR0, gRs, gF0, gFs, st0, st_i, st_r, st_f, st_n, st_s, true_and, and_true, ↓ifLeT, ↓ifLeF, ↓ifLtT, ↓ifLtF, ↓ifEqT, ↓ifEqF, if_tt, if_ff, if_pos, if_neg, nLe, nLt, nEq, nInT, nCl, pk_mul, nI_add, Nat.reduceAdd, s_cat_nil, s_cat_i, s_cat_r, s_cat_f, s_cat_l, tl_s, tl_n, cat_i, cat_r, cat_f, nb0, nb1, nbI, if_bI, if_bIr, Nat.zero_le, Nat.reduceLeDiff, lp0]
  unfold overN
  rw [Bool.true_and, List.range_eq_range']
/-- a row is copied -/
theorem r_copy {a : Nat} (ha : rb a) (hb : rb b) (hab : a ≠ b) (K : ∀ f, (∀ j, j < 106 → f j = kA m a j) → Q none (pM (xA m b f) h)) : MT (d + 1) 174 [.ref a, .ref b] (pM m h) Q := by
  rw [MT_go (by decide) _ _ _ (Nat.le_of_ble_eq_true rfl), show s_entry 174 [.ref a, .ref b] = [.ref a, .ref b, s_no] from rfl]
  have lp : ∀ q k f, k + q = 106 → (∀ j, j < k → f j = kA m a j) → WP d 174 2 [.ref a, .ref b, .int (nI k)] [] (pM (xA m b f) h) (0, 0) Q := by
    intro q
    induction q with
    | zero =>
      intro k f hk hf
      have e : k = 106 := by omega
      subst e
      rw [u_174_2]
      simp (disch := omega) only [u_174_0, u_174_1, u_174_3, u_174_5, u_174_8, u_174_9, u_174_10, u_174_11, u_174_12, u_174_13, u_174_14, u_174_17, u_174_20, gI0, gIs, gR0, gRs, gF0, gFs, st0, st_i, st_r, st_f, st_n, st_s, true_and, and_true, ↓ifLeT, ↓ifLeF, ↓ifLtT, ↓ifLtF, ↓ifEqT, ↓ifEqF, if_tt, if_ff, if_pos, if_neg, nLe, nLt, nEq, nInT, nCl, pk_mul, nI_add, Nat.reduceAdd, s_cat_nil, s_cat_i, s_cat_r, s_cat_f, s_cat_l, tl_s, tl_n, cat_i, cat_r, cat_f, nb0, nb1, nbI, if_bI, if_bIr, Nat.zero_le, Nat.reduceLeDiff]
      exact K f hf
    | succ q ih =>
      intro k f hk hf
      rw [u_174_2]
      simp (disch := omega) only [u_174_0, u_174_1, u_174_3, u_174_5, u_174_8, u_174_9, u_174_10, u_174_11, u_174_12, u_174_13, u_174_14, u_174_17, u_174_20, gI0, gIs, gR0, gRs, gF0, gFs, st0, st_i, st_r, st_f, st_n, st_s, true_and, and_true, ↓ifLeT, ↓ifLeF, ↓ifLtT, ↓ifLtF, ↓ifEqT, ↓ifEqF, if_tt, if_ff, if_pos, if_neg, nLe, nLt, nEq, nInT, nCl, pk_mul, nI_add, Nat.reduceAdd, s_cat_nil, s_cat_i, s_cat_r, s_cat_f, s_cat_l, tl_s, tl_n, cat_i, cat_r, cat_f, nb0, nb1, nbI, if_bI, if_bIr, Nat.zero_le, Nat.reduceLeDiff, M_r ha, M_rw hb, kA_ne hab, kA_eq, xA_tw]
      refine ih (k + 1) _ (by omega) fun j hj => ?_
      unfold upd
      by_cases e : j = k
      · rw [if_pos e, e]
      · rw [if_neg e]; exact hf j (by omega)
  have := lp 106 0 (kA m b) (by omega) (fun j hj => absurd hj (Nat.not_lt_zero j))
  rw [xA_eta] at this
  simp (disch := omega) only [u_174_0, u_174_1, u_174_3, u_174_5, u_174_8, u_174_9, u_174_10, u_174_11, u_174_12, u_174_13, u_174_14, u_174_17, u_174_20, gI0, gIs, gR0, gRs, gF0, gFs, st0, st_i, st_r, st_f, st_n, st_s, true_and, and_true, ↓ifLeT, ↓ifLeF, ↓ifLtT, ↓ifLtF, ↓ifEqT, ↓ifEqF, if_tt, if_ff, if_pos, if_neg, nLe, nLt, nEq, nInT, nCl, pk_mul, nI_add, Nat.reduceAdd, s_cat_nil, s_cat_i, s_cat_r, s_cat_f, s_cat_l, tl_s, tl_n, cat_i, cat_r, cat_f, nb0, nb1, nbI, if_bI, if_bIr, Nat.zero_le, Nat.reduceLeDiff]
  exact this
end MR
