/-! Reader: words and numbers -/
theorem iBt : iB true = nI 1 := rfl
theorem iBf : iB false = nI 0 := rfl
section RD
variable {a b d m : Nat} {s : tS} {h : sH} {i x lo hi : Int32} {Q : sQ}
theorem isTp_S : pTp 2 (SO s 2) (pS s h) = pS s h := by rw [S_O2, wSO_eta]
theorem T_g2 {f : Value → Prop} : fG (pS s h) 2 6 2 f ↔ f (.int (nI (eN (SO s 2) 2))) := by
  have e := Tp_g2 (b := 2) (o := SO s 2) (h := pS s h) (f := f)
  rwa [isTp_S] at e
theorem T_g1 {f : Value → Prop} : fG (pS s h) 2 6 1 f ↔ f (.int (nI (eN (SO s 2) 1))) := by
  have e := Tp_g1 (b := 2) (o := SO s 2) (h := pS s h) (f := f)
  rwa [isTp_S] at e
theorem T_g3 {f : Value → Prop} : fG (pS s h) 2 6 3 f ↔ f (.int (eI (SO s 2) 3)) := by
  have e := Tp_g3 (b := 2) (o := SO s 2) (h := pS s h) (f := f)
  rwa [isTp_S] at e
theorem T_g4 {f : Value → Prop} : fG (pS s h) 2 6 4 f ↔ f (.int (eI (SO s 2) 4)) := by
  have e := Tp_g4 (b := 2) (o := SO s 2) (h := pS s h) (f := f)
  rwa [isTp_S] at e
theorem T_s1 {n : Nat} {f : sH → Prop} : fS (pS s h) 2 6 1 (.int (nI n)) f ↔ f (pS (wSO s 2 (vN (SO s 2) 1 n)) h) := by
  have e := Tp_s1 (b := 2) (o := SO s 2) (h := pS s h) (f := f) (n := n)
  rwa [isTp_S, S_O2] at e
theorem T_ob {c : Nat} : (oO (pS s h) 2 fun c' _ => c' = c) ↔ 6 = c := by
  have e := Tp_ob (b := 2) (o := SO s 2) (h := pS s h) (c := c)
  rwa [isTp_S] at e
theorem T_isWord {j : Nat} (hj : j < 9) (ht : okT (SO s 2)) : MT (d + 2) 57 [.ref 2, .ref (1000001 + j)] (pS s h) Q ↔ Q (some (.int (iB (isWB (SO s 2) j)))) (pS s h) := tl_Tp fun h Q => m_isWord hj ht
theorem T_isNumber : MT (d + 1) 58 [.ref 2, .int lo, .int hi] (pS s h) Q ↔ Q (some (.int (iB (isNB (SO s 2) lo hi)))) (pS s h) := tl_Tp fun h Q => m_isNumber
theorem T_advance (ht : okT0 (SO s 2)) : MT (d + 2) 56 [.ref 2] (pS s h) Q ↔ Q none (pS (wSO s 2 (advT (SO s 2))) h) := tr_Tp fun h Q => m_advance ht
theorem T_rewind (hL : eN (SO s 2) 1 ≤ 400) : MT (d + 3) 55 [.ref 2] (pS s h) Q ↔ Q none (pS (wSO s 2 (rewT (SO s 2))) h) := tr_Tp fun h Q => m_rewind hL
theorem T_taken (ht : okT0 (SO s 2)) : MT (d + 3) 59 [.ref 2] (pS s h) Q ↔ Q (some (.int (eI (SO s 2) 4))) (pS (wSO s 2 (advT (SO s 2))) h) := tr_Tp fun h Q => m_taken ht
theorem wSO_tw (s : tS) (b : Nat) (y z : tO) : wSO (wSO s b y) b z = wSO s b z := by
  unfold wSO
  refine Prod.ext rfl (Prod.ext rfl (Prod.ext rfl (funext fun q => ?_)))
  show (if q = b then z else if q = b then y else _) = if q = b then z else _
  by_cases e : q = b
  · rw [if_pos e, if_pos e]
  · rw [if_neg e, if_neg e, if_neg e]
/-- a word, and a number behind it -/
def nmB (t : tO) (j : Nat) (lo hi : Int32) : Bool := isWB t j && isNB (advT t) lo hi
def nmT (t : tO) (j : Nat) : tO := if isWB t j then advT t else t
theorem okT_nm {t : tO} {j : Nat} (ht : okT t) : okT (nmT t j) := by
  unfold nmT
  split
  · exact okT_adv (okT_0 ht)
  · exact ht
theorem m_isNamed {j : Nat} (hj : j < 9) (ht : okT (SO s 2)) : MT (d + 3) 35 [.ref 1, .ref (1000001 + j), .int lo, .int hi] (pS s h) Q ↔ Q (some (.int (iB (nmB (SO s 2) j lo hi)))) (pS (wSO s 2 (nmT (SO s 2) j)) h) := by
  rw [MT_go (by decide) _ _ _ (Nat.le_of_ble_eq_true rfl), show s_entry 35 [.ref 1, .ref (1000001 + j), .int lo, .int hi] = [.ref 1, .ref (1000001 + j), .int lo, .int hi] from rfl]
  have e1 := fun Q => T_isWord (d := d) (s := s) (h := h) (Q := Q) hj ht
  have e2 := fun Q => T_advance (d := d) (s := s) (h := h) (Q := Q) (okT_0 ht)
  have e3 := fun s Q => T_isNumber (d := d + 1) (s := s) (h := h) (lo := lo) (hi := hi) (Q := Q)
  unfold nmB nmT
  cases h1 : isWB (SO s 2) j with
  | true =>
    rw [if_pos rfl, Bool.true_and]
    simp (disch := omega) only [u_35_0, u_35_1, u_35_4, u_35_5, u_35_8, u_35_11, u_35_12, u_35_13, u_35_14, u_35_17, u_35_20, u_35_21, u_35_24, u_35_25, u_35_26, u_35_29, gI0, gIs, gR0, gRs, gF0, gFs, st0, st_i, st_r, st_f, st_n, st_s, true_and, and_true, ↓ifLeT, ↓ifLeF, ↓ifLtT, ↓ifLtF, ↓ifEqT, ↓ifEqF, if_tt, if_ff, if_pos, if_neg, nLe, nLt, nEq, nInT, nCl, pk_mul, nI_add, Nat.reduceAdd, s_cat_nil, s_cat_i, s_cat_r, s_cat_f, s_cat_l, tl_s, tl_n, cat_i, cat_r, cat_f, nb0, nb1, nbI, if_bI, if_bIr, Nat.zero_le, Nat.reduceLeDiff, S_g0_0, S_g0_1, S_g0_2, S_g0_3, S_g0_4, S_g0_5, S_g0_6, S_g0_7, S_g0_8, S_g0_9, S_g0_10, S_g0_11, S_g0_12, S_g0_13, S_g0_14, S_g1_0, S_g1_1, S_g1_2, S_g1_3, S_g1_4, S_g72_0, S_g72_1, S_g72_2, S_g239_0, S_g239_1, S_g239_2, S_g239_3, S_g239_4, S_g239_5, S_g239_6, S_a23, S_n23, S_a282, S_n282, S_a300, S_n300, S_n73, S_n299, T_ob, e1, h1, iBt, nI10, reduceIte, e2, e3, SG_wG, SY_wG, SP_wG, SO_wG, SG_wY, SY_wY, SP_wY, SO_wY, SG_wP, SY_wP, SP_wP, SO_wP, SG_wO, SY_wO, SP_wO, SO_wO, wSG_tw, nbB]
  | false =>
    rw [if_neg (by decide), Bool.false_and, wSO_eta]
    simp (disch := omega) only [u_35_0, u_35_1, u_35_4, u_35_5, u_35_8, u_35_11, u_35_12, u_35_13, u_35_14, u_35_17, u_35_20, u_35_21, u_35_24, u_35_25, u_35_26, u_35_29, gI0, gIs, gR0, gRs, gF0, gFs, st0, st_i, st_r, st_f, st_n, st_s, true_and, and_true, ↓ifLeT, ↓ifLeF, ↓ifLtT, ↓ifLtF, ↓ifEqT, ↓ifEqF, if_tt, if_ff, if_pos, if_neg, nLe, nLt, nEq, nInT, nCl, pk_mul, nI_add, Nat.reduceAdd, s_cat_nil, s_cat_i, s_cat_r, s_cat_f, s_cat_l, tl_s, tl_n, cat_i, cat_r, cat_f, nb0, nb1, nbI, if_bI, if_bIr, Nat.zero_le, Nat.reduceLeDiff, S_g0_0, S_g0_1, S_g0_2, S_g0_3, S_g0_4, S_g0_5, S_g0_6, S_g0_7, S_g0_8, S_g0_9, S_g0_10, S_g0_11, S_g0_12, S_g0_13, S_g0_14, S_g1_0, S_g1_1, S_g1_2, S_g1_3, S_g1_4, S_g72_0, S_g72_1, S_g72_2, S_g239_0, S_g239_1, S_g239_2, S_g239_3, S_g239_4, S_g239_5, S_g239_6, S_a23, S_n23, S_a282, S_n282, S_a300, S_n300, S_n73, S_n299, T_ob, e1, h1, iBf]
theorem m_isNextLine (ht : okT0 (SO s 2)) : MT (d + 3) 36 [.ref 1] (pS s h) Q ↔ Q (some (.int (iB (decide (eI (SO s 2) 3 = nI 3))))) (pS (wSO s 2 (if eI (SO s 2) 3 = nI 3 then advT (SO s 2) else SO s 2)) h) := by
  rw [MT_go (by decide) _ _ _ (Nat.le_of_ble_eq_true rfl), show s_entry 36 [.ref 1] = [.ref 1] from rfl]
  have e2 := fun Q => T_advance (d := d) (s := s) (h := h) (Q := Q) ht
  by_cases h1 : eI (SO s 2) 3 = nI 3
  · rw [decide_eq_true h1, if_pos h1]
    simp (disch := omega) only [u_36_0, u_36_1, u_36_4, u_36_7, u_36_8, u_36_11, u_36_12, u_36_13, u_36_14, u_36_17, u_36_20, u_36_21, gI0, gIs, gR0, gRs, gF0, gFs, st0, st_i, st_r, st_f, st_n, st_s, true_and, and_true, ↓ifLeT, ↓ifLeF, ↓ifLtT, ↓ifLtF, ↓ifEqT, ↓ifEqF, if_tt, if_ff, if_pos, if_neg, nLe, nLt, nEq, nInT, nCl, pk_mul, nI_add, Nat.reduceAdd, s_cat_nil, s_cat_i, s_cat_r, s_cat_f, s_cat_l, tl_s, tl_n, cat_i, cat_r, cat_f, nb0, nb1, nbI, if_bI, if_bIr, Nat.zero_le, Nat.reduceLeDiff, S_g0_0, S_g0_1, S_g0_2, S_g0_3, S_g0_4, S_g0_5, S_g0_6, S_g0_7, S_g0_8, S_g0_9, S_g0_10, S_g0_11, S_g0_12, S_g0_13, S_g0_14, S_g1_0, S_g1_1, S_g1_2, S_g1_3, S_g1_4, S_g72_0, S_g72_1, S_g72_2, S_g239_0, S_g239_1, S_g239_2, S_g239_3, S_g239_4, S_g239_5, S_g239_6, S_a23, S_n23, S_a282, S_n282, S_a300, S_n300, S_n73, S_n299, T_ob, T_g3, h1, e2, iB]
  · rw [decide_eq_false h1, if_neg h1, wSO_eta]
    simp (disch := omega) only [u_36_0, u_36_1, u_36_4, u_36_7, u_36_8, u_36_11, u_36_12, u_36_13, u_36_14, u_36_17, u_36_20, u_36_21, gI0, gIs, gR0, gRs, gF0, gFs, st0, st_i, st_r, st_f, st_n, st_s, true_and, and_true, ↓ifLeT, ↓ifLeF, ↓ifLtT, ↓ifLtF, ↓ifEqT, ↓ifEqF, if_tt, if_ff, if_pos, if_neg, nLe, nLt, nEq, nInT, nCl, pk_mul, nI_add, Nat.reduceAdd, s_cat_nil, s_cat_i, s_cat_r, s_cat_f, s_cat_l, tl_s, tl_n, cat_i, cat_r, cat_f, nb0, nb1, nbI, if_bI, if_bIr, Nat.zero_le, Nat.reduceLeDiff, S_g0_0, S_g0_1, S_g0_2, S_g0_3, S_g0_4, S_g0_5, S_g0_6, S_g0_7, S_g0_8, S_g0_9, S_g0_10, S_g0_11, S_g0_12, S_g0_13, S_g0_14, S_g1_0, S_g1_1, S_g1_2, S_g1_3, S_g1_4, S_g72_0, S_g72_1, S_g72_2, S_g239_0, S_g239_1, S_g239_2, S_g239_3, S_g239_4, S_g239_5, S_g239_6, S_a23, S_n23, S_a282, S_n282, S_a300, S_n300, S_n73, S_n299, T_ob, T_g3, h1, reduceIte, iB]
theorem m_bayTold {l c : Nat} (hl : l < 40) (hc : c < 4) : MT (d + 1) 34 [.ref 1, .int (nI l), .int (nI c)] (pS s h) Q ↔ Q (some (.int (eA (SG s) 103 (l * 4 + c)))) (pS s h) := by
  rw [MT_go (by decide) _ _ _ (Nat.le_of_ble_eq_true rfl), show s_entry 34 [.ref 1, .int (nI l), .int (nI c)] = [.ref 1, .int (nI l), .int (nI c), s_no] from rfl]
  simp (disch := omega) only [u_34_0, u_34_1, u_34_2, u_34_3, u_34_4, u_34_5, u_34_6, u_34_7, u_34_10, u_34_11, u_34_12, u_34_15, u_34_16, u_34_19, u_34_20, u_34_23, u_34_24, u_34_25, u_34_28, u_34_29, gI0, gIs, gR0, gRs, gF0, gFs, st0, st_i, st_r, st_f, st_n, st_s, true_and, and_true, ↓ifLeT, ↓ifLeF, ↓ifLtT, ↓ifLtF, ↓ifEqT, ↓ifEqF, if_tt, if_ff, if_pos, if_neg, nLe, nLt, nEq, nInT, nCl, pk_mul, nI_add, Nat.reduceAdd, s_cat_nil, s_cat_i, s_cat_r, s_cat_f, s_cat_l, tl_s, tl_n, cat_i, cat_r, cat_f, nb0, nb1, nbI, if_bI, if_bIr, Nat.zero_le, Nat.reduceLeDiff, S_g0_0, S_g0_1, S_g0_2, S_g0_3, S_g0_4, S_g0_5, S_g0_6, S_g0_7, S_g0_8, S_g0_9, S_g0_10, S_g0_11, S_g0_12, S_g0_13, S_g0_14, S_g1_0, S_g1_1, S_g1_2, S_g1_3, S_g1_4, S_g72_0, S_g72_1, S_g72_2, S_g239_0, S_g239_1, S_g239_2, S_g239_3, S_g239_4, S_g239_5, S_g239_6, S_a23, S_n23, S_a282, S_n282, S_a300, S_n300, S_n73, S_n299]
end RD
