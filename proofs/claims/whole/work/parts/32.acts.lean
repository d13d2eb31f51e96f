/-! The whole: accessors -/
theorem SG_wG (s : tS) (g : tO) : SG (wSG s g) = g := rfl
theorem SY_wG (s : tS) (g : tO) : SY (wSG s g) = SY s := rfl
theorem SP_wG (s : tS) (g : tO) : SP (wSG s g) = SP s := rfl
theorem SO_wG (s : tS) (g : tO) : SO (wSG s g) = SO s := rfl
theorem SG_wY (s : tS) (b : Nat) (v : tY) : SG (wSY s b v) = SG s := rfl
theorem SY_wY (s : tS) (b : Nat) (v : tY) (q : Nat) : SY (wSY s b v) q = if q = b then v else SY s q := rfl
theorem SP_wY (s : tS) (b : Nat) (v : tY) : SP (wSY s b v) = SP s := rfl
theorem SO_wY (s : tS) (b : Nat) (v : tY) : SO (wSY s b v) = SO s := rfl
theorem SG_wP (s : tS) (b : Nat) (v : tP) : SG (wSP s b v) = SG s := rfl
theorem SY_wP (s : tS) (b : Nat) (v : tP) : SY (wSP s b v) = SY s := rfl
theorem SP_wP (s : tS) (b : Nat) (v : tP) (q : Nat) : SP (wSP s b v) q = if q = b then v else SP s q := rfl
theorem SO_wP (s : tS) (b : Nat) (v : tP) : SO (wSP s b v) = SO s := rfl
theorem SG_wO (s : tS) (b : Nat) (v : tO) : SG (wSO s b v) = SG s := rfl
theorem SY_wO (s : tS) (b : Nat) (v : tO) : SY (wSO s b v) = SY s := rfl
theorem SP_wO (s : tS) (b : Nat) (v : tO) : SP (wSO s b v) = SP s := rfl
theorem SO_wO (s : tS) (b : Nat) (v : tO) (q : Nat) : SO (wSO s b v) q = if q = b then v else SO s q := rfl
theorem wSG_tw (s : tS) (g g' : tO) : wSG (wSG s g) g' = wSG s g' := rfl
theorem wSY_tw (s : tS) (b : Nat) (y z : tY) : wSY (wSY s b y) b z = wSY s b z := by
  unfold wSY
  refine Prod.ext rfl (Prod.ext (funext fun q => ?_) rfl)
  show (if q = b then z else if q = b then y else _) = if q = b then z else _
  by_cases e : q = b
  · rw [if_pos e, if_pos e]
  · rw [if_neg e, if_neg e, if_neg e]
theorem wSY_wSG (s : tS) (b : Nat) (y : tY) (g : tO) : wSG (wSY s b y) g = wSY (wSG s g) b y := rfl
theorem wSO_wSG (s : tS) (b : Nat) (y : tO) (g : tO) : wSG (wSO s b y) g = wSO (wSG s g) b y := rfl
theorem wSP_wSG (s : tS) (b : Nat) (y : tP) (g : tO) : wSG (wSP s b y) g = wSP (wSG s g) b y := rfl
section AC
variable {a b d m : Nat} {s : tS} {h : sH} {i x : Int32} {Q : sQ}
theorem n10 : ¬ nI 10 = 0 := by decide
theorem m_forget : MT (d + 1) 1 [.ref 72] (pS s h) Q ↔ Q none (pS (wSG s (vN (vN (SG s) 201 0) 202 0)) h) := by
  rw [MT_go (by decide) _ _ _ (Nat.le_of_ble_eq_true rfl), show s_entry 1 [.ref 72] = [.ref 72] from rfl]
  simp (disch := omega) only [u_1_0, u_1_1, u_1_2, u_1_5, u_1_6, u_1_7, u_1_10, gI0, gIs, gR0, gRs, gF0, gFs, st0, st_i, st_r, st_f, st_n, st_s, true_and, and_true, ↓ifLeT, ↓ifLeF, ↓ifLtT, ↓ifLtF, ↓ifEqT, ↓ifEqF, if_tt, if_ff, if_pos, if_neg, nLe, nLt, nEq, nInT, nCl, pk_mul, nI_add, Nat.reduceAdd, s_cat_nil, s_cat_i, s_cat_r, s_cat_f, s_cat_l, tl_s, tl_n, cat_i, cat_r, cat_f, nb0, nb1, nbI, if_bI, if_bIr, Nat.zero_le, Nat.reduceLeDiff, S_g0_0, S_g0_1, S_g0_2, S_g0_3, S_g0_4, S_g0_5, S_g0_6, S_g0_7, S_g0_8, S_g0_9, S_g0_10, S_g0_11, S_g0_12, S_g0_13, S_g0_14, S_g1_0, S_g1_1, S_g1_2, S_g1_3, S_g1_4, S_g72_0, S_g72_1, S_g72_2, S_g239_0, S_g239_1, S_g239_2, S_g239_3, S_g239_4, S_g239_5, S_g239_6, S_a23, S_n23, S_a282, S_n282, S_a300, S_n300, S_n73, S_n299, S_s0_5, S_s0_5t, S_s0_5f, S_s1_4, S_s72_1, S_s72_2, S_s239_6, S_w23, S_w282, S_w300, SG_wG, SY_wG, SP_wG, SO_wG, SG_wY, SY_wY, SP_wY, SO_wY, SG_wP, SY_wP, SP_wP, SO_wP, SG_wO, SY_wO, SP_wO, SO_wO, wSG_tw]
def okG (g : tO) : Prop := eN g 201 < 10 ∧ eN g 202 ≤ 10
theorem m_canUndo (hg : okG (SG s)) : MT (d + 1) 3 [.ref 72] (pS s h) Q ↔ Q (some (.int (iB (decide (0 < eN (SG s) 202))))) (pS s h) := by
  obtain ⟨g1, g2⟩ := hg
  rw [MT_go (by decide) _ _ _ (Nat.le_of_ble_eq_true rfl), show s_entry 3 [.ref 72] = [.ref 72] from rfl]
  by_cases h0 : 0 < eN (SG s) 202
  · rw [decide_eq_true h0]
    have e : ¬ nI (eN (SG s) 202) ≤ nI 0 := fun z => by rw [nLe (by omega) (by decide)] at z; omega
    simp (disch := omega) only [u_3_0, u_3_1, u_3_4, u_3_7, u_3_8, u_3_11, u_3_12, gI0, gIs, gR0, gRs, gF0, gFs, st0, st_i, st_r, st_f, st_n, st_s, true_and, and_true, ↓ifLeT, ↓ifLeF, ↓ifLtT, ↓ifLtF, ↓ifEqT, ↓ifEqF, if_tt, if_ff, if_pos, if_neg, nLe, nLt, nEq, nInT, nCl, pk_mul, nI_add, Nat.reduceAdd, s_cat_nil, s_cat_i, s_cat_r, s_cat_f, s_cat_l, tl_s, tl_n, cat_i, cat_r, cat_f, nb0, nb1, nbI, if_bI, if_bIr, Nat.zero_le, Nat.reduceLeDiff, S_g0_0, S_g0_1, S_g0_2, S_g0_3, S_g0_4, S_g0_5, S_g0_6, S_g0_7, S_g0_8, S_g0_9, S_g0_10, S_g0_11, S_g0_12, S_g0_13, S_g0_14, S_g1_0, S_g1_1, S_g1_2, S_g1_3, S_g1_4, S_g72_0, S_g72_1, S_g72_2, S_g239_0, S_g239_1, S_g239_2, S_g239_3, S_g239_4, S_g239_5, S_g239_6, S_a23, S_n23, S_a282, S_n282, S_a300, S_n300, S_n73, S_n299, e, reduceIte, iB]
  · rw [decide_eq_false h0]
    have e : nI (eN (SG s) 202) ≤ nI 0 := by rw [show eN (SG s) 202 = 0 by omega]; decide
    simp (disch := omega) only [u_3_0, u_3_1, u_3_4, u_3_7, u_3_8, u_3_11, u_3_12, gI0, gIs, gR0, gRs, gF0, gFs, st0, st_i, st_r, st_f, st_n, st_s, true_and, and_true, ↓ifLeT, ↓ifLeF, ↓ifLtT, ↓ifLtF, ↓ifEqT, ↓ifEqF, if_tt, if_ff, if_pos, if_neg, nLe, nLt, nEq, nInT, nCl, pk_mul, nI_add, Nat.reduceAdd, s_cat_nil, s_cat_i, s_cat_r, s_cat_f, s_cat_l, tl_s, tl_n, cat_i, cat_r, cat_f, nb0, nb1, nbI, if_bI, if_bIr, Nat.zero_le, Nat.reduceLeDiff, S_g0_0, S_g0_1, S_g0_2, S_g0_3, S_g0_4, S_g0_5, S_g0_6, S_g0_7, S_g0_8, S_g0_9, S_g0_10, S_g0_11, S_g0_12, S_g0_13, S_g0_14, S_g1_0, S_g1_1, S_g1_2, S_g1_3, S_g1_4, S_g72_0, S_g72_1, S_g72_2, S_g239_0, S_g239_1, S_g239_2, S_g239_3, S_g239_4, S_g239_5, S_g239_6, S_a23, S_n23, S_a282, S_n282, S_a300, S_n300, S_n73, S_n299, e, iB]
def kpG (g : tO) : tO := if eN g 202 = 10 then vN (vN g 201 ((eN g 201 + 1) % 10)) 202 9 else g
def kpA (g : tO) : Nat := 74 + 16 * ((eN (kpG g) 201 + eN (kpG g) 202) % 10)
def kpS (s : tS) (b : Nat) : tS := wSY (wSG s (vN (kpG (SG s)) 202 (eN (kpG (SG s)) 202 + 1))) (kpA (SG s)) (cpY (SY s (kpA (SG s))) (SY s b))
theorem kpG_ok {g : tO} (hg : okG g) : eN (kpG g) 201 < 10 ∧ eN (kpG g) 202 < 10 := by
  unfold kpG
  split
  · exact ⟨Nat.mod_lt _ (by decide), by show (9 : Nat) < 10; decide⟩
  · obtain ⟨h1, h2⟩ := hg; omega
theorem keep_2 {g : tO} {L : List Value} (hb : b = 24) (g1 : eN g 201 < 10) (g2 : eN g 202 < 10) (hg : SG s = g) : WP (d + 2) 2 32 [.ref 72, .ref b] [] (pS s h) (0, 0) Q ↔ Q none (pS (wSY (wSG s (vN g 202 (eN g 202 + 1))) (74 + 16 * ((eN g 201 + eN g 202) % 10)) (cpY (SY s (74 + 16 * ((eN g 201 + eN g 202) % 10))) (SY s b))) h) := by
  subst hg
  subst hb
  have hj : (eN (SG s) 201 + eN (SG s) 202) % 10 < 10 := Nat.mod_lt _ (by decide)
  have e := fun Q => S_copyY (d := d) (s := s) (h := h) (Q := Q) (ybA hj) yb24 (by omega)
  have e2 := fun (c : Nat) => Y'_ob (c := c) (isY_S (s := s) (h := h) (ybA hj))
  have e3 := fun f => S_r73 (s := s) (h := h) (f := f) hj
  simp (disch := omega) only [u_2_32, u_2_33, u_2_36, u_2_37, u_2_40, u_2_41, u_2_44, u_2_45, u_2_47, u_2_48, u_2_49, u_2_50, u_2_53, u_2_54, u_2_55, u_2_58, u_2_59, u_2_60, u_2_63, gI0, gIs, gR0, gRs, gF0, gFs, st0, st_i, st_r, st_f, st_n, st_s, true_and, and_true, ↓ifLeT, ↓ifLeF, ↓ifLtT, ↓ifLtF, ↓ifEqT, ↓ifEqF, if_tt, if_ff, if_pos, if_neg, nLe, nLt, nEq, nInT, nCl, pk_mul, nI_add, Nat.reduceAdd, s_cat_nil, s_cat_i, s_cat_r, s_cat_f, s_cat_l, tl_s, tl_n, cat_i, cat_r, cat_f, nb0, nb1, nbI, if_bI, if_bIr, Nat.zero_le, Nat.reduceLeDiff, S_g0_0, S_g0_1, S_g0_2, S_g0_3, S_g0_4, S_g0_5, S_g0_6, S_g0_7, S_g0_8, S_g0_9, S_g0_10, S_g0_11, S_g0_12, S_g0_13, S_g0_14, S_g1_0, S_g1_1, S_g1_2, S_g1_3, S_g1_4, S_g72_0, S_g72_1, S_g72_2, S_g239_0, S_g239_1, S_g239_2, S_g239_3, S_g239_4, S_g239_5, S_g239_6, S_a23, S_n23, S_a282, S_n282, S_a300, S_n300, S_n73, S_n299, S_s0_5, S_s0_5t, S_s0_5f, S_s1_4, S_s72_1, S_s72_2, S_s239_6, S_w23, S_w282, S_w300, SG_wG, SY_wG, SP_wG, SO_wG, SG_wY, SY_wY, SP_wY, SO_wY, SG_wP, SY_wP, SP_wP, SO_wP, SG_wO, SY_wO, SP_wO, SO_wO, wSG_tw, pk_rem, n10, not_false_eq_true, e3, e2, e, wSY_wSG]
theorem m_keep (hg : okG (SG s)) : MT (d + 3) 2 [.ref 72, .ref 24] (pS s h) Q ↔ Q none (pS (kpS s 24) h) := by
  obtain ⟨g1, g2⟩ := hg
  have k := kpG_ok ⟨g1, g2⟩
  rw [MT_go (by decide) _ _ _ (Nat.le_of_ble_eq_true rfl), show s_entry 2 [.ref 72, .ref 24] = [.ref 72, .ref 24] from rfl]
  have e := keep_2 (d := d) (s := wSG s (kpG (SG s))) (h := h) (Q := Q) (L := []) (b := 24) rfl k.1 k.2 rfl
  rw [wSG_tw] at e
  refine Iff.trans ?_ e
  by_cases h1 : eN (SG s) 202 = 10
  · rw [show kpG (SG s) = vN (vN (SG s) 201 ((eN (SG s) 201 + 1) % 10)) 202 9 from if_pos h1]
    simp (disch := omega) only [u_2_0, u_2_1, u_2_4, u_2_6, u_2_9, u_2_10, u_2_11, u_2_14, u_2_15, u_2_16, u_2_18, u_2_19, u_2_22, u_2_23, u_2_24, u_2_27, u_2_28, u_2_29, gI0, gIs, gR0, gRs, gF0, gFs, st0, st_i, st_r, st_f, st_n, st_s, true_and, and_true, ↓ifLeT, ↓ifLeF, ↓ifLtT, ↓ifLtF, ↓ifEqT, ↓ifEqF, if_tt, if_ff, if_pos, if_neg, nLe, nLt, nEq, nInT, nCl, pk_mul, nI_add, Nat.reduceAdd, s_cat_nil, s_cat_i, s_cat_r, s_cat_f, s_cat_l, tl_s, tl_n, cat_i, cat_r, cat_f, nb0, nb1, nbI, if_bI, if_bIr, Nat.zero_le, Nat.reduceLeDiff, S_g0_0, S_g0_1, S_g0_2, S_g0_3, S_g0_4, S_g0_5, S_g0_6, S_g0_7, S_g0_8, S_g0_9, S_g0_10, S_g0_11, S_g0_12, S_g0_13, S_g0_14, S_g1_0, S_g1_1, S_g1_2, S_g1_3, S_g1_4, S_g72_0, S_g72_1, S_g72_2, S_g239_0, S_g239_1, S_g239_2, S_g239_3, S_g239_4, S_g239_5, S_g239_6, S_a23, S_n23, S_a282, S_n282, S_a300, S_n300, S_n73, S_n299, S_s0_5, S_s0_5t, S_s0_5f, S_s1_4, S_s72_1, S_s72_2, S_s239_6, S_w23, S_w282, S_w300, SG_wG, SY_wG, SP_wG, SO_wG, SG_wY, SY_wY, SP_wY, SO_wY, SG_wP, SY_wP, SP_wP, SO_wP, SG_wO, SY_wO, SP_wO, SO_wO, wSG_tw, eN_vN, eI_vN, eB_vN, eA_vN, eF_vN, eP_vN, eN_vI, eI_vI, eB_vI, eA_vI, eF_vI, eP_vI, eN_vB, eI_vB, eB_vB, eA_vB, eF_vB, eP_vB, eN_vA, eI_vA, eB_vA, eA_vA, eF_vA, eP_vA, eN_vF, eI_vF, eB_vF, eA_vF, eF_vF, eP_vF, eN_vP, eI_vP, eB_vP, eA_vP, eF_vP, eP_vP, Nat.reduceEqDiff, reduceIte, h1, pk_rem, n10, not_false_eq_true, pk_sub]
  · rw [show kpG (SG s) = SG s from if_neg h1, show wSG s (SG s) = s from rfl]
    simp (disch := omega) only [u_2_0, u_2_1, u_2_4, u_2_6, u_2_9, u_2_10, u_2_11, u_2_14, u_2_15, u_2_16, u_2_18, u_2_19, u_2_22, u_2_23, u_2_24, u_2_27, u_2_28, u_2_29, gI0, gIs, gR0, gRs, gF0, gFs, st0, st_i, st_r, st_f, st_n, st_s, true_and, and_true, ↓ifLeT, ↓ifLeF, ↓ifLtT, ↓ifLtF, ↓ifEqT, ↓ifEqF, if_tt, if_ff, if_pos, if_neg, nLe, nLt, nEq, nInT, nCl, pk_mul, nI_add, Nat.reduceAdd, s_cat_nil, s_cat_i, s_cat_r, s_cat_f, s_cat_l, tl_s, tl_n, cat_i, cat_r, cat_f, nb0, nb1, nbI, if_bI, if_bIr, Nat.zero_le, Nat.reduceLeDiff, S_g0_0, S_g0_1, S_g0_2, S_g0_3, S_g0_4, S_g0_5, S_g0_6, S_g0_7, S_g0_8, S_g0_9, S_g0_10, S_g0_11, S_g0_12, S_g0_13, S_g0_14, S_g1_0, S_g1_1, S_g1_2, S_g1_3, S_g1_4, S_g72_0, S_g72_1, S_g72_2, S_g239_0, S_g239_1, S_g239_2, S_g239_3, S_g239_4, S_g239_5, S_g239_6, S_a23, S_n23, S_a282, S_n282, S_a300, S_n300, S_n73, S_n299, h1, reduceIte]
def tbA (g : tO) : Nat := 74 + 16 * ((eN g 201 + (eN g 202 - 1)) % 10)
def tbS (s : tS) (b : Nat) : tS := if 0 < eN (SG s) 202 then wSY (wSG s (vN (SG s) 202 (eN (SG s) 202 - 1))) b (cpY (SY s b) (SY s (tbA (SG s)))) else s
theorem m_takeBack (hg : okG (SG s)) : MT (d + 3) 4 [.ref 72, .ref 24] (pS s h) Q ↔ Q none (pS (tbS s 24) h) := by
  obtain ⟨g1, g2⟩ := hg
  rw [MT_go (by decide) _ _ _ (Nat.le_of_ble_eq_true rfl), show s_entry 4 [.ref 72, .ref 24] = [.ref 72, .ref 24] from rfl]
  by_cases h0 : 0 < eN (SG s) 202
  · rw [show tbS s 24 = _ from if_pos h0]
    have e1 : ¬ nI (eN (SG s) 202) ≤ nI 0 := fun z => by rw [nLe (by omega) (by decide)] at z; omega
    have hj : (eN (SG s) 201 + (eN (SG s) 202 - 1)) % 10 < 10 := Nat.mod_lt _ (by decide)
    have e := fun Q => S_copyY (d := d) (s := wSG s (vN (SG s) 202 (eN (SG s) 202 - 1))) (h := h) (Q := Q) yb24 (ybA hj) (by omega)
    have e2 := fun (c : Nat) s => Y'_ob (c := c) (isY_S (s := s) (h := h) yb24)
    have e3 := fun s f => S_r73 (s := s) (h := h) (f := f) hj
    simp (disch := omega) only [u_4_0, u_4_1, u_4_4, u_4_7, u_4_8, u_4_9, u_4_12, u_4_13, u_4_14, u_4_17, u_4_18, u_4_19, u_4_22, u_4_23, u_4_26, u_4_27, u_4_30, u_4_31, u_4_33, u_4_34, u_4_35, u_4_38, gI0, gIs, gR0, gRs, gF0, gFs, st0, st_i, st_r, st_f, st_n, st_s, true_and, and_true, ↓ifLeT, ↓ifLeF, ↓ifLtT, ↓ifLtF, ↓ifEqT, ↓ifEqF, if_tt, if_ff, if_pos, if_neg, nLe, nLt, nEq, nInT, nCl, pk_mul, nI_add, Nat.reduceAdd, s_cat_nil, s_cat_i, s_cat_r, s_cat_f, s_cat_l, tl_s, tl_n, cat_i, cat_r, cat_f, nb0, nb1, nbI, if_bI, if_bIr, Nat.zero_le, Nat.reduceLeDiff, S_g0_0, S_g0_1, S_g0_2, S_g0_3, S_g0_4, S_g0_5, S_g0_6, S_g0_7, S_g0_8, S_g0_9, S_g0_10, S_g0_11, S_g0_12, S_g0_13, S_g0_14, S_g1_0, S_g1_1, S_g1_2, S_g1_3, S_g1_4, S_g72_0, S_g72_1, S_g72_2, S_g239_0, S_g239_1, S_g239_2, S_g239_3, S_g239_4, S_g239_5, S_g239_6, S_a23, S_n23, S_a282, S_n282, S_a300, S_n300, S_n73, S_n299, S_s0_5, S_s0_5t, S_s0_5f, S_s1_4, S_s72_1, S_s72_2, S_s239_6, S_w23, S_w282, S_w300, SG_wG, SY_wG, SP_wG, SO_wG, SG_wY, SY_wY, SP_wY, SO_wY, SG_wP, SY_wP, SP_wP, SO_wP, SG_wO, SY_wO, SP_wO, SO_wO, wSG_tw, eN_vN, eI_vN, eB_vN, eA_vN, eF_vN, eP_vN, eN_vI, eI_vI, eB_vI, eA_vI, eF_vI, eP_vI, eN_vB, eI_vB, eB_vB, eA_vB, eF_vB, eP_vB, eN_vA, eI_vA, eB_vA, eA_vA, eF_vA, eP_vA, eN_vF, eI_vF, eB_vF, eA_vF, eF_vF, eP_vF, eN_vP, eI_vP, eB_vP, eA_vP, eF_vP, eP_vP, Nat.reduceEqDiff, reduceIte, e1, pk_rem, n10, not_false_eq_true, pk_sub, e3, e2, e]
    exact Iff.rfl
  · rw [show tbS s 24 = s from if_neg h0]
    have e : nI (eN (SG s) 202) ≤ nI 0 := by rw [show eN (SG s) 202 = 0 by omega]; decide
    simp (disch := omega) only [u_4_0, u_4_1, u_4_4, u_4_7, u_4_8, u_4_9, u_4_12, u_4_13, u_4_14, u_4_17, u_4_18, u_4_19, u_4_22, u_4_23, u_4_26, u_4_27, u_4_30, u_4_31, u_4_33, u_4_34, u_4_35, u_4_38, gI0, gIs, gR0, gRs, gF0, gFs, st0, st_i, st_r, st_f, st_n, st_s, true_and, and_true, ↓ifLeT, ↓ifLeF, ↓ifLtT, ↓ifLtF, ↓ifEqT, ↓ifEqF, if_tt, if_ff, if_pos, if_neg, nLe, nLt, nEq, nInT, nCl, pk_mul, nI_add, Nat.reduceAdd, s_cat_nil, s_cat_i, s_cat_r, s_cat_f, s_cat_l, tl_s, tl_n, cat_i, cat_r, cat_f, nb0, nb1, nbI, if_bI, if_bIr, Nat.zero_le, Nat.reduceLeDiff, S_g0_0, S_g0_1, S_g0_2, S_g0_3, S_g0_4, S_g0_5, S_g0_6, S_g0_7, S_g0_8, S_g0_9, S_g0_10, S_g0_11, S_g0_12, S_g0_13, S_g0_14, S_g1_0, S_g1_1, S_g1_2, S_g1_3, S_g1_4, S_g72_0, S_g72_1, S_g72_2, S_g239_0, S_g239_1, S_g239_2, S_g239_3, S_g239_4, S_g239_5, S_g239_6, S_a23, S_n23, S_a282, S_n282, S_a300, S_n300, S_n73, S_n299, e]
end AC
