/-! the class's calls: end, feed, nearest, swings, written -/
section Q8
variable {b d : Nat} {s s' : tS} {h : sH} {i x w c t m : Int32} {Q : sQ} {z : tQ} {n n' : tN} {y y' : tY} {k : sK}
theorem IC_tape {t : tO} (hI : IC s z) (ht : eN t 1 ≤ 400) : IC (wSO s 2 t) (jT z t) := by
  obtain ⟨⟨t1, t2, t3, t4⟩, hq, ha, hi, hr, ⟨c1, c2⟩⟩ := hI
  refine ⟨⟨?_, t2, t3, ht, t4.2⟩, hq, ha, hi, hr, ⟨?_, fun b hb => ?_⟩⟩
  · rw [SOw]; rfl
  · rw [SO_wO, if_neg (by decide)]; exact c1
  · rw [SO_wO, if_neg (by rcases hb with e | e | e | e | ⟨j, hj, e⟩ <;> omega)]; exact c2 b hb
theorem q_end (hI : IC s z) (K : ∀ s', IC s' (zend z x).2 → Q (some (.int (iB (zend z x).1))) (pS s' h)) : MT (d + 2) 91 [.ref 0, .int x] (pS s h) Q := by
  rw [MT_go (by decide) _ _ _ (Nat.le_of_ble_eq_true rfl), show s_entry 91 [.ref 0, .int x] = [.ref 0, .int x] from rfl]
  unfold zend at K
  have h4 := hI.1.2.2.2.1
  have ht := hI.1.1
  cases h1 : ixN x (eN (zT z) 1 + 1) with
  | none =>
    simp only [h1] at K
    rcases ix_out (by omega) (by omega) h1 with a | ⟨a, -, -, b, -⟩
    · simp (disch := omega) only [u_91_0, u_91_1, u_91_4, u_91_5, u_91_6, u_91_9, u_91_12, u_91_15, u_91_16, u_91_17, u_91_18, u_91_21, u_91_22, u_91_25, u_91_26, gI0, gIs, gR0, gRs, gF0, gFs, st0, st_i, st_r, st_f, st_n, st_s, true_and, and_true, ↓ifLeT, ↓ifLeF, ↓ifLtT, ↓ifLtF, ↓ifEqT, ↓ifEqF, if_tt, if_ff, if_pos, if_neg, nLe, nLt, nEq, nInT, nCl, pk_mul, nI_add, Nat.reduceAdd, s_cat_nil, s_cat_i, s_cat_r, s_cat_f, s_cat_l, tl_s, tl_n, cat_i, cat_r, cat_f, nb0, nb1, nbI, if_bI, if_bIr, Nat.zero_le, Nat.reduceLeDiff, S_ob0, S_g0_0, S_g0_1, S_g0_2, S_g0_3, S_g0_4, S_g0_5, S_g0_6, S_g0_7, S_g0_8, S_g0_9, S_g0_10, S_g0_11, S_g0_12, S_g0_13, S_g0_14, S_g1_0, S_g1_1, S_g1_2, S_g1_3, S_g1_4, S_g72_0, S_g72_1, S_g72_2, S_g239_0, S_g239_1, S_g239_2, S_g239_3, S_g239_4, S_g239_5, S_g239_6, S_a23, S_n23, S_a282, S_n282, S_a300, S_n300, S_n73, S_n299, T_g1, ht, a]
      exact K s hI
    · rw [Nat.add_sub_cancel] at b
      have b2 : ¬ x ≤ nI (eN (zT z) 1) := Int32.not_le.mpr b
      simp (disch := omega) only [u_91_0, u_91_1, u_91_4, u_91_5, u_91_6, u_91_9, u_91_12, u_91_15, u_91_16, u_91_17, u_91_18, u_91_21, u_91_22, u_91_25, u_91_26, gI0, gIs, gR0, gRs, gF0, gFs, st0, st_i, st_r, st_f, st_n, st_s, true_and, and_true, ↓ifLeT, ↓ifLeF, ↓ifLtT, ↓ifLtF, ↓ifEqT, ↓ifEqF, if_tt, if_ff, if_pos, if_neg, nLe, nLt, nEq, nInT, nCl, pk_mul, nI_add, Nat.reduceAdd, s_cat_nil, s_cat_i, s_cat_r, s_cat_f, s_cat_l, tl_s, tl_n, cat_i, cat_r, cat_f, nb0, nb1, nbI, if_bI, if_bIr, Nat.zero_le, Nat.reduceLeDiff, S_ob0, S_g0_0, S_g0_1, S_g0_2, S_g0_3, S_g0_4, S_g0_5, S_g0_6, S_g0_7, S_g0_8, S_g0_9, S_g0_10, S_g0_11, S_g0_12, S_g0_13, S_g0_14, S_g1_0, S_g1_1, S_g1_2, S_g1_3, S_g1_4, S_g72_0, S_g72_1, S_g72_2, S_g239_0, S_g239_1, S_g239_2, S_g239_3, S_g239_4, S_g239_5, S_g239_6, S_a23, S_n23, S_a282, S_n282, S_a300, S_n300, S_n73, S_n299, T_g1, ht, a, b2]
      exact K s hI
  | some j =>
    simp only [h1] at K
    obtain ⟨j1, rfl⟩ := ix_some (by omega) h1
    simp (disch := omega) only [u_91_0, u_91_1, u_91_4, u_91_5, u_91_6, u_91_9, u_91_12, u_91_15, u_91_16, u_91_17, u_91_18, u_91_21, u_91_22, u_91_25, u_91_26, gI0, gIs, gR0, gRs, gF0, gFs, st0, st_i, st_r, st_f, st_n, st_s, true_and, and_true, ↓ifLeT, ↓ifLeF, ↓ifLtT, ↓ifLtF, ↓ifEqT, ↓ifEqF, if_tt, if_ff, if_pos, if_neg, nLe, nLt, nEq, nInT, nCl, pk_mul, nI_add, Nat.reduceAdd, s_cat_nil, s_cat_i, s_cat_r, s_cat_f, s_cat_l, tl_s, tl_n, cat_i, cat_r, cat_f, nb0, nb1, nbI, if_bI, if_bIr, Nat.zero_le, Nat.reduceLeDiff, S_ob0, S_g0_0, S_g0_1, S_g0_2, S_g0_3, S_g0_4, S_g0_5, S_g0_6, S_g0_7, S_g0_8, S_g0_9, S_g0_10, S_g0_11, S_g0_12, S_g0_13, S_g0_14, S_g1_0, S_g1_1, S_g1_2, S_g1_3, S_g1_4, S_g72_0, S_g72_1, S_g72_2, S_g239_0, S_g239_1, S_g239_2, S_g239_3, S_g239_4, S_g239_5, S_g239_6, S_a23, S_n23, S_a282, S_n282, S_a300, S_n300, S_n73, S_n299, T_g1, T_s1, ht]
    exact K _ (IC_tape hI (by rw [eN_vN, if_pos rfl]; omega))
theorem bin_1 {s m : Nat} (hs : s ≤ 24) : WP d 139 5 [.int x, .int (nI m), .int (nI s)] [] h k Q ↔ WP d 139 5 [.int x, .int (nI (m + b1N x s)), .int (nI s + (-8))] [] h k Q := by
  rw [u_139_5]
  unfold b1N byI
  by_cases h1 : ((x.toUInt32 >>> ((nI s).toUInt32 &&& Int32.toUInt32 31)).toInt32 &&& nI 255) = nI 0
  · rw [if_pos h1]
    simp (disch := omega) only [u_139_0, u_139_1, u_139_2, u_139_4, u_139_6, u_139_9, u_139_10, u_139_11, u_139_12, u_139_15, u_139_16, u_139_19, u_139_22, u_139_25, u_139_28, u_139_29, gI0, gIs, gR0, gRs, gF0, gFs, st0, st_i, st_r, st_f, st_n, st_s, true_and, and_true, ↓ifLeT, ↓ifLeF, ↓ifLtT, ↓ifLtF, ↓ifEqT, ↓ifEqF, if_tt, if_ff, if_pos, if_neg, nLe, nLt, nEq, nInT, nCl, pk_mul, nI_add, Nat.reduceAdd, s_cat_nil, s_cat_i, s_cat_r, s_cat_f, s_cat_l, tl_s, tl_n, cat_i, cat_r, cat_f, nb0, nb1, nbI, if_bI, if_bIr, Nat.zero_le, Nat.reduceLeDiff, h1]
    rfl
  · rw [if_neg h1]
    simp (disch := omega) only [u_139_0, u_139_1, u_139_2, u_139_4, u_139_6, u_139_9, u_139_10, u_139_11, u_139_12, u_139_15, u_139_16, u_139_19, u_139_22, u_139_25, u_139_28, u_139_29, gI0, gIs, gR0, gRs, gF0, gFs, st0, st_i, st_r, st_f, st_n, st_s, true_and, and_true, ↓ifLeT, ↓ifLeF, ↓ifLtT, ↓ifLtF, ↓ifEqT, ↓ifEqF, if_tt, if_ff, if_pos, if_neg, nLe, nLt, nEq, nInT, nCl, pk_mul, nI_add, Nat.reduceAdd, s_cat_nil, s_cat_i, s_cat_r, s_cat_f, s_cat_l, tl_s, tl_n, cat_i, cat_r, cat_f, nb0, nb1, nbI, if_bI, if_bIr, Nat.zero_le, Nat.reduceLeDiff, h1, reduceIte]
theorem m_bytesIn : MT (d + 1) 139 [.int x] h Q ↔ Q (some (.int (nI (bcN x)))) h := by
  rw [MT_go (by decide) _ _ _ (Nat.le_of_ble_eq_true rfl), show s_entry 139 [.int x] = [.int x, s_no, s_no] from rfl]
  simp (disch := omega) only [u_139_0, u_139_1, u_139_2, u_139_4, u_139_6, u_139_9, u_139_10, u_139_11, u_139_12, u_139_15, u_139_16, u_139_19, u_139_22, u_139_25, u_139_28, u_139_29, gI0, gIs, gR0, gRs, gF0, gFs, st0, st_i, st_r, st_f, st_n, st_s, true_and, and_true, ↓ifLeT, ↓ifLeF, ↓ifLtT, ↓ifLtF, ↓ifEqT, ↓ifEqF, if_tt, if_ff, if_pos, if_neg, nLe, nLt, nEq, nInT, nCl, pk_mul, nI_add, Nat.reduceAdd, s_cat_nil, s_cat_i, s_cat_r, s_cat_f, s_cat_l, tl_s, tl_n, cat_i, cat_r, cat_f, nb0, nb1, nbI, if_bI, if_bIr, Nat.zero_le, Nat.reduceLeDiff]
  rw [bin_1 (by decide), show nI 24 + (-8) = nI 16 by decide, bin_1 (by decide), show nI 16 + (-8) = nI 8 by decide, bin_1 (by decide), show nI 8 + (-8) = nI 0 by decide, bin_1 (by decide), show nI 0 + (-8) = (-8 : Int32) by decide, u_139_5]
  simp (disch := omega) only [u_139_0, u_139_1, u_139_2, u_139_4, u_139_6, u_139_9, u_139_10, u_139_11, u_139_12, u_139_15, u_139_16, u_139_19, u_139_22, u_139_25, u_139_28, u_139_29, gI0, gIs, gR0, gRs, gF0, gFs, st0, st_i, st_r, st_f, st_n, st_s, true_and, and_true, ↓ifLeT, ↓ifLeF, ↓ifLtT, ↓ifLtF, ↓ifEqT, ↓ifEqF, if_tt, if_ff, if_pos, if_neg, nLe, nLt, nEq, nInT, nCl, pk_mul, nI_add, Nat.reduceAdd, s_cat_nil, s_cat_i, s_cat_r, s_cat_f, s_cat_l, tl_s, tl_n, cat_i, cat_r, cat_f, nb0, nb1, nbI, if_bI, if_bIr, Nat.zero_le, Nat.reduceLeDiff, show ((-8 : Int32) < nI 0) ↔ True by decide]
  unfold bcN
  rw [Nat.zero_add]
theorem apT_le {t : tO} (hl : eN t 1 ≤ 400) : eN (apT x t) 1 ≤ 400 := ap1_le (ap1_le (ap1_le (ap1_le hl)))
theorem T_append {t : tO} (hl : eN t 1 ≤ 400) : MT (d + 1) 54 [.ref 2, .int x] (pS (wSO s 2 t) h) Q ↔ Q none (pS (wSO s 2 (apT x t)) h) := by
  have e := tr_Tp (s := wSO s 2 t) (h := h) (Q := Q) fun h Q => m_append (d := d) (b := 2) (t := SO (wSO s 2 t) 2) (h := h) (Q := Q) (x := x) (by rw [SOw]; exact hl)
  rw [SOw, wSO_tw] at e
  exact e
theorem bc_le {x : Int32} : bcN x ≤ 4 := by
  have : ∀ s, b1N x s ≤ 1 := fun s => by unfold b1N; split <;> omega
  have h1 := this 24
  have h2 := this 16
  have h3 := this 8
  have h4 := this 0
  unfold bcN
  omega
theorem q_feed {a1 a2 a3 a4 a5 : Int32} (hI : IC s z) (K : ∀ s', IC s' (zfeed z a1 a2 a3 a4 a5).2 → Q (some (.int (zfeed z a1 a2 a3 a4 a5).1)) (pS s' h)) : MT (d + 2) 90 [.ref 0, .int a1, .int a2, .int a3, .int a4, .int a5] (pS s h) Q := by
  rw [MT_go (by decide) _ _ _ (Nat.le_of_ble_eq_true rfl), show s_entry 90 [.ref 0, .int a1, .int a2, .int a3, .int a4, .int a5] = [.ref 0, .int a1, .int a2, .int a3, .int a4, .int a5, s_no] from rfl]
  unfold zfeed fdF fdT at K
  have h4 := hI.1.2.2.2.1
  have ht := hI.1.1
  have b1 := bc_le (x := a1)
  have b2 := bc_le (x := a2)
  have b3 := bc_le (x := a3)
  have b4 := bc_le (x := a4)
  have b5 := bc_le (x := a5)
  by_cases hc : eN (zT z) 1 + (bcN a1 + bcN a2 + bcN a3 + bcN a4 + bcN a5) ≤ 400
  · rw [decide_eq_true hc] at K
    simp only [if_true] at K
    have l1 := apT_le (x := a1) h4
    have l2 := apT_le (x := a2) l1
    have l3 := apT_le (x := a3) l2
    have l4 := apT_le (x := a4) l3
    have l5 := apT_le (x := a5) l4
    have e1 := fun Q => T_append (d := d) (s := s) (h := h) (Q := Q) (x := a1) h4
    have e2 := fun Q => T_append (d := d) (s := s) (h := h) (Q := Q) (x := a2) l1
    have e3 := fun Q => T_append (d := d) (s := s) (h := h) (Q := Q) (x := a3) l2
    have e4 := fun Q => T_append (d := d) (s := s) (h := h) (Q := Q) (x := a4) l3
    have e5 := fun Q => T_append (d := d) (s := s) (h := h) (Q := Q) (x := a5) l4
    rw [← ht] at e1
    rw [wSO_eta, ht] at e1
    have hn1 : eN (SO s 2) 1 = eN (zT z) 1 := by rw [ht]
    simp (disch := omega) only [u_90_0, u_90_1, u_90_4, u_90_5, u_90_8, u_90_9, u_90_10, u_90_13, u_90_14, u_90_16, u_90_19, u_90_20, u_90_22, u_90_25, u_90_26, u_90_28, u_90_29, u_90_32, u_90_35, u_90_37, u_90_38, u_90_41, u_90_44, u_90_45, u_90_46, u_90_47, u_90_50, u_90_51, u_90_54, u_90_55, u_90_58, u_90_59, u_90_62, u_90_63, u_90_66, u_90_67, u_90_70, u_90_71, u_90_74, u_90_76, u_90_79, u_90_80, u_90_83, u_90_85, u_90_88, u_90_89, u_90_92, u_90_95, gI0, gIs, gR0, gRs, gF0, gFs, st0, st_i, st_r, st_f, st_n, st_s, true_and, and_true, ↓ifLeT, ↓ifLeF, ↓ifLtT, ↓ifLtF, ↓ifEqT, ↓ifEqF, if_tt, if_ff, if_pos, if_neg, nLe, nLt, nEq, nInT, nCl, pk_mul, nI_add, Nat.reduceAdd, s_cat_nil, s_cat_i, s_cat_r, s_cat_f, s_cat_l, tl_s, tl_n, cat_i, cat_r, cat_f, nb0, nb1, nbI, if_bI, if_bIr, Nat.zero_le, Nat.reduceLeDiff, S_ob0, S_g0_0, S_g0_1, S_g0_2, S_g0_3, S_g0_4, S_g0_5, S_g0_6, S_g0_7, S_g0_8, S_g0_9, S_g0_10, S_g0_11, S_g0_12, S_g0_13, S_g0_14, S_g1_0, S_g1_1, S_g1_2, S_g1_3, S_g1_4, S_g72_0, S_g72_1, S_g72_2, S_g239_0, S_g239_1, S_g239_2, S_g239_3, S_g239_4, S_g239_5, S_g239_6, S_a23, S_n23, S_a282, S_n282, S_a300, S_n300, S_n73, S_n299, m_bytesIn, T_g1, T_ob, hn1, e1, e2, e3, e4, e5, SOw]
    exact K _ (IC_tape hI l5)
  · rw [decide_eq_false hc] at K
    simp only [Bool.false_eq_true, if_false] at K
    have hn1 : eN (SO s 2) 1 = eN (zT z) 1 := by rw [ht]
    have l : ¬ nI (eN (zT z) 1 + (bcN a1 + bcN a2 + bcN a3 + bcN a4 + bcN a5)) ≤ nI 400 := nI_ge (by omega) (by omega)
    simp (disch := omega) only [u_90_0, u_90_1, u_90_4, u_90_5, u_90_8, u_90_9, u_90_10, u_90_13, u_90_14, u_90_16, u_90_19, u_90_20, u_90_22, u_90_25, u_90_26, u_90_28, u_90_29, u_90_32, u_90_35, u_90_37, u_90_38, u_90_41, u_90_44, u_90_45, u_90_46, u_90_47, u_90_50, u_90_51, u_90_54, u_90_55, u_90_58, u_90_59, u_90_62, u_90_63, u_90_66, u_90_67, u_90_70, u_90_71, u_90_74, u_90_76, u_90_79, u_90_80, u_90_83, u_90_85, u_90_88, u_90_89, u_90_92, u_90_95, gI0, gIs, gR0, gRs, gF0, gFs, st0, st_i, st_r, st_f, st_n, st_s, true_and, and_true, ↓ifLeT, ↓ifLeF, ↓ifLtT, ↓ifLtF, ↓ifEqT, ↓ifEqF, if_tt, if_ff, if_pos, if_neg, nLe, nLt, nEq, nInT, nCl, pk_mul, nI_add, Nat.reduceAdd, s_cat_nil, s_cat_i, s_cat_r, s_cat_f, s_cat_l, tl_s, tl_n, cat_i, cat_r, cat_f, nb0, nb1, nbI, if_bI, if_bIr, Nat.zero_le, Nat.reduceLeDiff, S_ob0, S_g0_0, S_g0_1, S_g0_2, S_g0_3, S_g0_4, S_g0_5, S_g0_6, S_g0_7, S_g0_8, S_g0_9, S_g0_10, S_g0_11, S_g0_12, S_g0_13, S_g0_14, S_g1_0, S_g1_1, S_g1_2, S_g1_3, S_g1_4, S_g72_0, S_g72_1, S_g72_2, S_g239_0, S_g239_1, S_g239_2, S_g239_3, S_g239_4, S_g239_5, S_g239_6, S_a23, S_n23, S_a282, S_n282, S_a300, S_n300, S_n73, S_n299, m_bytesIn, T_g1, hn1, l]
    exact K s hI
theorem min_r {a b : Nat} : (if b < a then nI b else nI a) = nI (min a b) := by
  by_cases g : b < a
  · rw [if_pos g, Nat.min_eq_right (by omega)]
  · rw [if_neg g, Nat.min_eq_left (by omega)]
theorem minN_le {f : Nat → Nat} {b : Nat} : ∀ k, minN f b k ≤ b
  | 0 => Nat.le_refl _
  | k + 1 => Nat.le_trans (Nat.min_le_left _ _) (minN_le k)
theorem near_lp {N j : Nat} {v2 : Value} (hy : RY (SY s 24) n) (hn : wfN n) (hc : CoOK (SO s 234) n) (hj : j ≤ 300) (hN : N ≤ 300) {a : Nat} (ha : a ≤ nF n 0) (K : ∀ v5, WP (d + 1) 114 96 [.ref 0, .int (nI N), .ref 234, .int (nI (min a (minN (gapN (runN j n)) (nF n 0) (nF n 2 - 1)))), .int (nI j), v5] [] (pS s h) (0, 0) Q) : ∀ m q, q + m = nF n 2 - 1 → WP (d + 1) 114 46 [.ref 0, .int (nI N), .ref 234, .int (nI (min a (minN (gapN (runN j n)) (nF n 0) q))), .int (nI j), .int (nI (q + 1))] [] (pS s h) (0, 0) Q := by
  intro m
  have h4 := hn.1.1
  have hb := hn.1.2.2.2.1
  have fC := hy.1.2.2.1
  have fG := hy.1.2.1
  induction m with
  | zero =>
    intro q hq
    have e : q = nF n 2 - 1 := by omega
    subst e
    rw [u_114_46]
    simp (disch := omega) only [u_114_0, u_114_1, u_114_4, u_114_7, u_114_8, u_114_11, u_114_12, u_114_13, u_114_16, u_114_19, u_114_20, u_114_21, u_114_22, u_114_25, u_114_26, u_114_27, u_114_30, u_114_33, u_114_34, u_114_35, u_114_39, u_114_40, u_114_43, u_114_44, u_114_48, u_114_49, u_114_52, u_114_55, u_114_58, u_114_59, u_114_60, u_114_62, u_114_64, u_114_67, u_114_68, u_114_70, u_114_71, u_114_72, u_114_74, u_114_77, u_114_78, u_114_79, u_114_82, u_114_85, u_114_86, u_114_89, u_114_90, u_114_93, u_114_99, u_114_102, u_114_103, gI0, gIs, gR0, gRs, gF0, gFs, st0, st_i, st_r, st_f, st_n, st_s, true_and, and_true, ↓ifLeT, ↓ifLeF, ↓ifLtT, ↓ifLtF, ↓ifEqT, ↓ifEqF, if_tt, if_ff, if_pos, if_neg, nLe, nLt, nEq, nInT, nCl, pk_mul, nI_add, Nat.reduceAdd, s_cat_nil, s_cat_i, s_cat_r, s_cat_f, s_cat_l, tl_s, tl_n, cat_i, cat_r, cat_f, nb0, nb1, nbI, if_bI, if_bIr, Nat.zero_le, Nat.reduceLeDiff, S_ob0, S_g0_0, S_g0_1, S_g0_2, S_g0_3, S_g0_4, S_g0_5, S_g0_6, S_g0_7, S_g0_8, S_g0_9, S_g0_10, S_g0_11, S_g0_12, S_g0_13, S_g0_14, S_g1_0, S_g1_1, S_g1_2, S_g1_3, S_g1_4, S_g72_0, S_g72_1, S_g72_2, S_g239_0, S_g239_1, S_g239_2, S_g239_3, S_g239_4, S_g239_5, S_g239_6, S_a23, S_n23, S_a282, S_n282, S_a300, S_n300, S_n73, S_n299, Y'_ob (isY_S yb24), Y'_g0 (isY_S yb24), Y'_g1 (isY_S yb24), Y'_g2 (isY_S yb24), Y'_g3 (isY_S yb24), Y'_g4 (isY_S yb24), Y'_g5 (isY_S yb24), Y'_g6 (isY_S yb24), Y'_g7 (isY_S yb24), Y'_g8 (isY_S yb24), Y'_g9 (isY_S yb24), Y'_g10 (isY_S yb24), Y'_g11 (isY_S yb24), Y'_g12 (isY_S yb24), Y'_g13 (isY_S yb24), Y'_g14 (isY_S yb24), Y'_g15 (isY_S yb24), Y'_g16 (isY_S yb24), Y'_g17 (isY_S yb24), Y'_g18 (isY_S yb24), Y'_g19 (isY_S yb24), Y'_a7 (isY_S yb24), Y'_a8 (isY_S yb24), Y'_a10 (isY_S yb24), Y'_a11 (isY_S yb24), Y'_a12 (isY_S yb24), Y'_a13 (isY_S yb24), Y'_a14 (isY_S yb24), Y'_a15 (isY_S yb24), Y'_a16 (isY_S yb24), Y'_a17 (isY_S yb24), Y'_a18 (isY_S yb24), Y'_sw (isY_S yb24), fC]
    exact K _
  | succ m ih =>
    intro q hq
    have hw := wf_run hn j
    have f2 : nF (runN j n) 2 = nF n 2 := run_F (by decide) j
    have f1 : nF (runN j n) 1 = nF n 1 := run_F (by decide) j
    have f0 : nF (runN j n) 0 = nF n 0 := run_F (by decide) j
    have g1 := hw.2.1.2 q (by omega)
    have g2 := (hw.2.1.1 (q + 1) (by omega)).1
    have e1 := fun Q => tl_Co (s := s) (h := h) (Q := Q) fun h Q => m_bayAt (d := d) (b := 234) (c := SO s 234) (q := q + 1) (m := j) (h := h) (Q := Q) (by omega) hj
    have e2 := fun Q => tl_Co (s := s) (h := h) (Q := Q) fun h Q => m_bayAt (d := d) (b := 234) (c := SO s 234) (q := q) (m := j) (h := h) (Q := Q) (by omega) hj
    rw [(hc.1 j (q + 1) (by omega) (by omega)).1] at e1
    rw [(hc.1 j q (by omega) (by omega)).1] at e2
    have sb : nI (q + 1) - nI 1 = nI q := by rw [pk_sub (by omega)]; rfl
    have df : nI (nA (runN j n) 7 (q + 1)) - nI (nA (runN j n) 7 q) - nI (nF n 1) = nI (gapN (runN j n) q) := by
      rw [pk_sub (by omega), pk_sub (by omega)]
      unfold gapN
      rw [f1]
    have gl : gapN (runN j n) q < 2 ^ 20 := by unfold gapN; omega
    have ml := minN_le (f := gapN (runN j n)) (b := nF n 0) q
    have mr := min_r (a := min a (minN (gapN (runN j n)) (nF n 0) q)) (b := gapN (runN j n) q)
    rw [u_114_46]
    simp (disch := omega) only [u_114_0, u_114_1, u_114_4, u_114_7, u_114_8, u_114_11, u_114_12, u_114_13, u_114_16, u_114_19, u_114_20, u_114_21, u_114_22, u_114_25, u_114_26, u_114_27, u_114_30, u_114_33, u_114_34, u_114_35, u_114_39, u_114_40, u_114_43, u_114_44, u_114_48, u_114_49, u_114_52, u_114_55, u_114_58, u_114_59, u_114_60, u_114_62, u_114_64, u_114_67, u_114_68, u_114_70, u_114_71, u_114_72, u_114_74, u_114_77, u_114_78, u_114_79, u_114_82, u_114_85, u_114_86, u_114_89, u_114_90, u_114_93, u_114_99, u_114_102, u_114_103, gI0, gIs, gR0, gRs, gF0, gFs, st0, st_i, st_r, st_f, st_n, st_s, true_and, and_true, ↓ifLeT, ↓ifLeF, ↓ifLtT, ↓ifLtF, ↓ifEqT, ↓ifEqF, if_tt, if_ff, if_pos, if_neg, nLe, nLt, nEq, nInT, nCl, pk_mul, nI_add, Nat.reduceAdd, s_cat_nil, s_cat_i, s_cat_r, s_cat_f, s_cat_l, tl_s, tl_n, cat_i, cat_r, cat_f, nb0, nb1, nbI, if_bI, if_bIr, Nat.zero_le, Nat.reduceLeDiff, S_ob0, S_g0_0, S_g0_1, S_g0_2, S_g0_3, S_g0_4, S_g0_5, S_g0_6, S_g0_7, S_g0_8, S_g0_9, S_g0_10, S_g0_11, S_g0_12, S_g0_13, S_g0_14, S_g1_0, S_g1_1, S_g1_2, S_g1_3, S_g1_4, S_g72_0, S_g72_1, S_g72_2, S_g239_0, S_g239_1, S_g239_2, S_g239_3, S_g239_4, S_g239_5, S_g239_6, S_a23, S_n23, S_a282, S_n282, S_a300, S_n300, S_n73, S_n299, Y'_ob (isY_S yb24), Y'_g0 (isY_S yb24), Y'_g1 (isY_S yb24), Y'_g2 (isY_S yb24), Y'_g3 (isY_S yb24), Y'_g4 (isY_S yb24), Y'_g5 (isY_S yb24), Y'_g6 (isY_S yb24), Y'_g7 (isY_S yb24), Y'_g8 (isY_S yb24), Y'_g9 (isY_S yb24), Y'_g10 (isY_S yb24), Y'_g11 (isY_S yb24), Y'_g12 (isY_S yb24), Y'_g13 (isY_S yb24), Y'_g14 (isY_S yb24), Y'_g15 (isY_S yb24), Y'_g16 (isY_S yb24), Y'_g17 (isY_S yb24), Y'_g18 (isY_S yb24), Y'_g19 (isY_S yb24), Y'_a7 (isY_S yb24), Y'_a8 (isY_S yb24), Y'_a10 (isY_S yb24), Y'_a11 (isY_S yb24), Y'_a12 (isY_S yb24), Y'_a13 (isY_S yb24), Y'_a14 (isY_S yb24), Y'_a15 (isY_S yb24), Y'_a16 (isY_S yb24), Y'_a17 (isY_S yb24), Y'_a18 (isY_S yb24), Y'_sw (isY_S yb24), fC, fG, K_ob, e1, e2, sb, df, mr]
    have := ih (q + 1) (by omega)
    rw [minN] at this
    rw [Nat.min_assoc]
    exact this
theorem near_out {N : Nat} (hy : RY (SY s 24) n) (hn : wfN n) (hc : CoOK (SO s 234) n) (h2 : 2 ≤ nF n 2) (hN : N ≤ 300) : ∀ m j v5, j + m = N + 1 → (Q (some (.int (nI (minN (fun i => minN (gapN (runN i n)) (nF n 0) (nF n 2 - 1)) (nF n 0) (N + 1))))) (pS s h)) → WP (d + 1) 114 37 [.ref 0, .int (nI N), .ref 234, .int (nI (minN (fun i => minN (gapN (runN i n)) (nF n 0) (nF n 2 - 1)) (nF n 0) j)), .int (nI j), v5] [] (pS s h) (0, 0) Q := by
  intro m
  have hb := hn.1.2.2.2.1
  induction m with
  | zero =>
    intro j v5 hj K
    have e : j = N + 1 := by omega
    subst e
    rw [u_114_37]
    simp (disch := omega) only [u_114_0, u_114_1, u_114_4, u_114_7, u_114_8, u_114_11, u_114_12, u_114_13, u_114_16, u_114_19, u_114_20, u_114_21, u_114_22, u_114_25, u_114_26, u_114_27, u_114_30, u_114_33, u_114_34, u_114_35, u_114_39, u_114_40, u_114_43, u_114_44, u_114_48, u_114_49, u_114_52, u_114_55, u_114_58, u_114_59, u_114_60, u_114_62, u_114_64, u_114_67, u_114_68, u_114_70, u_114_71, u_114_72, u_114_74, u_114_77, u_114_78, u_114_79, u_114_82, u_114_85, u_114_86, u_114_89, u_114_90, u_114_93, u_114_96, u_114_99, u_114_102, u_114_103, gI0, gIs, gR0, gRs, gF0, gFs, st0, st_i, st_r, st_f, st_n, st_s, true_and, and_true, ↓ifLeT, ↓ifLeF, ↓ifLtT, ↓ifLtF, ↓ifEqT, ↓ifEqF, if_tt, if_ff, if_pos, if_neg, nLe, nLt, nEq, nInT, nCl, pk_mul, nI_add, Nat.reduceAdd, s_cat_nil, s_cat_i, s_cat_r, s_cat_f, s_cat_l, tl_s, tl_n, cat_i, cat_r, cat_f, nb0, nb1, nbI, if_bI, if_bIr, Nat.zero_le, Nat.reduceLeDiff]
    exact K
  | succ m ih =>
    intro j v5 hj K
    have ml := minN_le (f := fun i => minN (gapN (runN i n)) (nF n 0) (nF n 2 - 1)) (b := nF n 0) j
    rw [u_114_37]
    simp (disch := omega) only [u_114_0, u_114_1, u_114_4, u_114_7, u_114_8, u_114_11, u_114_12, u_114_13, u_114_16, u_114_19, u_114_20, u_114_21, u_114_22, u_114_25, u_114_26, u_114_27, u_114_30, u_114_33, u_114_34, u_114_35, u_114_39, u_114_40, u_114_43, u_114_44, u_114_48, u_114_49, u_114_52, u_114_55, u_114_58, u_114_59, u_114_60, u_114_62, u_114_64, u_114_67, u_114_68, u_114_70, u_114_71, u_114_72, u_114_74, u_114_77, u_114_78, u_114_79, u_114_82, u_114_85, u_114_86, u_114_89, u_114_90, u_114_93, u_114_96, u_114_99, u_114_102, u_114_103, gI0, gIs, gR0, gRs, gF0, gFs, st0, st_i, st_r, st_f, st_n, st_s, true_and, and_true, ↓ifLeT, ↓ifLeF, ↓ifLtT, ↓ifLtF, ↓ifEqT, ↓ifEqF, if_tt, if_ff, if_pos, if_neg, nLe, nLt, nEq, nInT, nCl, pk_mul, nI_add, Nat.reduceAdd, s_cat_nil, s_cat_i, s_cat_r, s_cat_f, s_cat_l, tl_s, tl_n, cat_i, cat_r, cat_f, nb0, nb1, nbI, if_bI, if_bIr, Nat.zero_le, Nat.reduceLeDiff]
    have go := near_lp (d := d) (h := h) (Q := Q) (N := N) (j := j) (v2 := .ref 0) hy hn hc (by omega) hN (a := minN (fun i => minN (gapN (runN i n)) (nF n 0) (nF n 2 - 1)) (nF n 0) j) ml (fun v5 => by
      simp (disch := omega) only [u_114_0, u_114_1, u_114_4, u_114_7, u_114_8, u_114_11, u_114_12, u_114_13, u_114_16, u_114_19, u_114_20, u_114_21, u_114_22, u_114_25, u_114_26, u_114_27, u_114_30, u_114_33, u_114_34, u_114_35, u_114_39, u_114_40, u_114_43, u_114_44, u_114_48, u_114_49, u_114_52, u_114_55, u_114_58, u_114_59, u_114_60, u_114_62, u_114_64, u_114_67, u_114_68, u_114_70, u_114_71, u_114_72, u_114_74, u_114_77, u_114_78, u_114_79, u_114_82, u_114_85, u_114_86, u_114_89, u_114_90, u_114_93, u_114_96, u_114_99, u_114_102, u_114_103, gI0, gIs, gR0, gRs, gF0, gFs, st0, st_i, st_r, st_f, st_n, st_s, true_and, and_true, ↓ifLeT, ↓ifLeF, ↓ifLtT, ↓ifLtF, ↓ifEqT, ↓ifEqF, if_tt, if_ff, if_pos, if_neg, nLe, nLt, nEq, nInT, nCl, pk_mul, nI_add, Nat.reduceAdd, s_cat_nil, s_cat_i, s_cat_r, s_cat_f, s_cat_l, tl_s, tl_n, cat_i, cat_r, cat_f, nb0, nb1, nbI, if_bI, if_bIr, Nat.zero_le, Nat.reduceLeDiff]
      exact ih (j + 1) v5 (by omega) K) (nF n 2 - 1) 0 (Nat.zero_add _)
    have e : min (minN (fun i => minN (gapN (runN i n)) (nF n 0) (nF n 2 - 1)) (nF n 0) j) (minN (gapN (runN j n)) (nF n 0) 0) = minN (fun i => minN (gapN (runN i n)) (nF n 0) (nF n 2 - 1)) (nF n 0) j := Nat.min_eq_left ml
    rw [e] at go
    exact go
theorem q_nearest (hI : IC s z) (K : ∀ s', IC s' z → Q (some (.int (znearest z m))) (pS s' h)) : MT (d + 5) 114 [.ref 0, .int m] (pS s h) Q := by
  rw [MT_go (by decide) _ _ _ (Nat.le_of_ble_eq_true rfl), show s_entry 114 [.ref 0, .int m] = [.ref 0, .int m, s_no, s_no, s_no, s_no] from rfl]
  have e2 := fun Q => q_isSpan (d := d + 3) (s := s) (h := h) (Q := Q) (x := m)
  unfold znearest at K
  cases hq : zQ z with
  | none =>
    simp only [hq] at K
    have hC := (IC_0 hI hq).1
    simp (disch := omega) only [u_114_0, u_114_1, u_114_4, u_114_7, u_114_8, u_114_11, u_114_12, u_114_13, u_114_16, u_114_19, u_114_20, u_114_21, u_114_22, u_114_25, u_114_26, u_114_27, u_114_30, u_114_33, u_114_34, u_114_35, u_114_39, u_114_40, u_114_43, u_114_44, u_114_48, u_114_49, u_114_52, u_114_55, u_114_58, u_114_59, u_114_60, u_114_62, u_114_64, u_114_67, u_114_68, u_114_70, u_114_71, u_114_72, u_114_74, u_114_77, u_114_78, u_114_79, u_114_82, u_114_85, u_114_86, u_114_89, u_114_90, u_114_93, u_114_96, u_114_99, u_114_102, u_114_103, gI0, gIs, gR0, gRs, gF0, gFs, st0, st_i, st_r, st_f, st_n, st_s, true_and, and_true, ↓ifLeT, ↓ifLeF, ↓ifLtT, ↓ifLtF, ↓ifEqT, ↓ifEqF, if_tt, if_ff, if_pos, if_neg, nLe, nLt, nEq, nInT, nCl, pk_mul, nI_add, Nat.reduceAdd, s_cat_nil, s_cat_i, s_cat_r, s_cat_f, s_cat_l, tl_s, tl_n, cat_i, cat_r, cat_f, nb0, nb1, nbI, if_bI, if_bIr, Nat.zero_le, Nat.reduceLeDiff, S_ob0, S_g0_0, S_g0_1, S_g0_2, S_g0_3, S_g0_4, S_g0_5, S_g0_6, S_g0_7, S_g0_8, S_g0_9, S_g0_10, S_g0_11, S_g0_12, S_g0_13, S_g0_14, S_g1_0, S_g1_1, S_g1_2, S_g1_3, S_g1_4, S_g72_0, S_g72_1, S_g72_2, S_g239_0, S_g239_1, S_g239_2, S_g239_3, S_g239_4, S_g239_5, S_g239_6, S_a23, S_n23, S_a282, S_n282, S_a300, S_n300, S_n73, S_n299, Y'_ob (isY_S yb24), Y'_g0 (isY_S yb24), Y'_g1 (isY_S yb24), Y'_g2 (isY_S yb24), Y'_g3 (isY_S yb24), Y'_g4 (isY_S yb24), Y'_g5 (isY_S yb24), Y'_g6 (isY_S yb24), Y'_g7 (isY_S yb24), Y'_g8 (isY_S yb24), Y'_g9 (isY_S yb24), Y'_g10 (isY_S yb24), Y'_g11 (isY_S yb24), Y'_g12 (isY_S yb24), Y'_g13 (isY_S yb24), Y'_g14 (isY_S yb24), Y'_g15 (isY_S yb24), Y'_g16 (isY_S yb24), Y'_g17 (isY_S yb24), Y'_g18 (isY_S yb24), Y'_g19 (isY_S yb24), Y'_a7 (isY_S yb24), Y'_a8 (isY_S yb24), Y'_a10 (isY_S yb24), Y'_a11 (isY_S yb24), Y'_a12 (isY_S yb24), Y'_a13 (isY_S yb24), Y'_a14 (isY_S yb24), Y'_a15 (isY_S yb24), Y'_a16 (isY_S yb24), Y'_a17 (isY_S yb24), Y'_a18 (isY_S yb24), Y'_sw (isY_S yb24), hC]
    exact K s hI
  | some n =>
    simp only [hq] at K
    obtain ⟨hy, hok⟩ := IC_y hI hq
    have h4 := hok.1.1.1
    have hC := hy.1.2.2.1
    by_cases h2 : nF n 2 < 2
    · simp only [if_pos h2] at K
      simp (disch := omega) only [u_114_0, u_114_1, u_114_4, u_114_7, u_114_8, u_114_11, u_114_12, u_114_13, u_114_16, u_114_19, u_114_20, u_114_21, u_114_22, u_114_25, u_114_26, u_114_27, u_114_30, u_114_33, u_114_34, u_114_35, u_114_39, u_114_40, u_114_43, u_114_44, u_114_48, u_114_49, u_114_52, u_114_55, u_114_58, u_114_59, u_114_60, u_114_62, u_114_64, u_114_67, u_114_68, u_114_70, u_114_71, u_114_72, u_114_74, u_114_77, u_114_78, u_114_79, u_114_82, u_114_85, u_114_86, u_114_89, u_114_90, u_114_93, u_114_96, u_114_99, u_114_102, u_114_103, gI0, gIs, gR0, gRs, gF0, gFs, st0, st_i, st_r, st_f, st_n, st_s, true_and, and_true, ↓ifLeT, ↓ifLeF, ↓ifLtT, ↓ifLtF, ↓ifEqT, ↓ifEqF, if_tt, if_ff, if_pos, if_neg, nLe, nLt, nEq, nInT, nCl, pk_mul, nI_add, Nat.reduceAdd, s_cat_nil, s_cat_i, s_cat_r, s_cat_f, s_cat_l, tl_s, tl_n, cat_i, cat_r, cat_f, nb0, nb1, nbI, if_bI, if_bIr, Nat.zero_le, Nat.reduceLeDiff, S_ob0, S_g0_0, S_g0_1, S_g0_2, S_g0_3, S_g0_4, S_g0_5, S_g0_6, S_g0_7, S_g0_8, S_g0_9, S_g0_10, S_g0_11, S_g0_12, S_g0_13, S_g0_14, S_g1_0, S_g1_1, S_g1_2, S_g1_3, S_g1_4, S_g72_0, S_g72_1, S_g72_2, S_g239_0, S_g239_1, S_g239_2, S_g239_3, S_g239_4, S_g239_5, S_g239_6, S_a23, S_n23, S_a282, S_n282, S_a300, S_n300, S_n73, S_n299, Y'_ob (isY_S yb24), Y'_g0 (isY_S yb24), Y'_g1 (isY_S yb24), Y'_g2 (isY_S yb24), Y'_g3 (isY_S yb24), Y'_g4 (isY_S yb24), Y'_g5 (isY_S yb24), Y'_g6 (isY_S yb24), Y'_g7 (isY_S yb24), Y'_g8 (isY_S yb24), Y'_g9 (isY_S yb24), Y'_g10 (isY_S yb24), Y'_g11 (isY_S yb24), Y'_g12 (isY_S yb24), Y'_g13 (isY_S yb24), Y'_g14 (isY_S yb24), Y'_g15 (isY_S yb24), Y'_g16 (isY_S yb24), Y'_g17 (isY_S yb24), Y'_g18 (isY_S yb24), Y'_g19 (isY_S yb24), Y'_a7 (isY_S yb24), Y'_a8 (isY_S yb24), Y'_a10 (isY_S yb24), Y'_a11 (isY_S yb24), Y'_a12 (isY_S yb24), Y'_a13 (isY_S yb24), Y'_a14 (isY_S yb24), Y'_a15 (isY_S yb24), Y'_a16 (isY_S yb24), Y'_a17 (isY_S yb24), Y'_a18 (isY_S yb24), Y'_sw (isY_S yb24), hC]
      exact K s hI
    · simp only [if_neg h2] at K
      cases h3 : ixN m 301 with
      | none =>
        rw [h3] at e2
        simp only [h3] at K
        simp (disch := omega) only [u_114_0, u_114_1, u_114_4, u_114_7, u_114_8, u_114_11, u_114_12, u_114_13, u_114_16, u_114_19, u_114_20, u_114_21, u_114_22, u_114_25, u_114_26, u_114_27, u_114_30, u_114_33, u_114_34, u_114_35, u_114_39, u_114_40, u_114_43, u_114_44, u_114_48, u_114_49, u_114_52, u_114_55, u_114_58, u_114_59, u_114_60, u_114_62, u_114_64, u_114_67, u_114_68, u_114_70, u_114_71, u_114_72, u_114_74, u_114_77, u_114_78, u_114_79, u_114_82, u_114_85, u_114_86, u_114_89, u_114_90, u_114_93, u_114_96, u_114_99, u_114_102, u_114_103, gI0, gIs, gR0, gRs, gF0, gFs, st0, st_i, st_r, st_f, st_n, st_s, true_and, and_true, ↓ifLeT, ↓ifLeF, ↓ifLtT, ↓ifLtF, ↓ifEqT, ↓ifEqF, if_tt, if_ff, if_pos, if_neg, nLe, nLt, nEq, nInT, nCl, pk_mul, nI_add, Nat.reduceAdd, s_cat_nil, s_cat_i, s_cat_r, s_cat_f, s_cat_l, tl_s, tl_n, cat_i, cat_r, cat_f, nb0, nb1, nbI, if_bI, if_bIr, Nat.zero_le, Nat.reduceLeDiff, S_ob0, S_g0_0, S_g0_1, S_g0_2, S_g0_3, S_g0_4, S_g0_5, S_g0_6, S_g0_7, S_g0_8, S_g0_9, S_g0_10, S_g0_11, S_g0_12, S_g0_13, S_g0_14, S_g1_0, S_g1_1, S_g1_2, S_g1_3, S_g1_4, S_g72_0, S_g72_1, S_g72_2, S_g239_0, S_g239_1, S_g239_2, S_g239_3, S_g239_4, S_g239_5, S_g239_6, S_a23, S_n23, S_a282, S_n282, S_a300, S_n300, S_n73, S_n299, Y'_ob (isY_S yb24), Y'_g0 (isY_S yb24), Y'_g1 (isY_S yb24), Y'_g2 (isY_S yb24), Y'_g3 (isY_S yb24), Y'_g4 (isY_S yb24), Y'_g5 (isY_S yb24), Y'_g6 (isY_S yb24), Y'_g7 (isY_S yb24), Y'_g8 (isY_S yb24), Y'_g9 (isY_S yb24), Y'_g10 (isY_S yb24), Y'_g11 (isY_S yb24), Y'_g12 (isY_S yb24), Y'_g13 (isY_S yb24), Y'_g14 (isY_S yb24), Y'_g15 (isY_S yb24), Y'_g16 (isY_S yb24), Y'_g17 (isY_S yb24), Y'_g18 (isY_S yb24), Y'_g19 (isY_S yb24), Y'_a7 (isY_S yb24), Y'_a8 (isY_S yb24), Y'_a10 (isY_S yb24), Y'_a11 (isY_S yb24), Y'_a12 (isY_S yb24), Y'_a13 (isY_S yb24), Y'_a14 (isY_S yb24), Y'_a15 (isY_S yb24), Y'_a16 (isY_S yb24), Y'_a17 (isY_S yb24), Y'_a18 (isY_S yb24), Y'_sw (isY_S yb24), hC, e2, Option.isSome, iBf]
        exact K s hI
      | some k =>
        rw [h3] at e2
        simp only [h3] at K
        obtain ⟨k1, rfl⟩ := ix_some (by omega) h3
        simp (disch := omega) only [u_114_0, u_114_1, u_114_4, u_114_7, u_114_8, u_114_11, u_114_12, u_114_13, u_114_16, u_114_19, u_114_20, u_114_21, u_114_22, u_114_25, u_114_26, u_114_27, u_114_30, u_114_33, u_114_34, u_114_35, u_114_39, u_114_40, u_114_43, u_114_44, u_114_48, u_114_49, u_114_52, u_114_55, u_114_58, u_114_59, u_114_60, u_114_62, u_114_64, u_114_67, u_114_68, u_114_70, u_114_71, u_114_72, u_114_74, u_114_77, u_114_78, u_114_79, u_114_82, u_114_85, u_114_86, u_114_89, u_114_90, u_114_93, u_114_96, u_114_99, u_114_102, u_114_103, gI0, gIs, gR0, gRs, gF0, gFs, st0, st_i, st_r, st_f, st_n, st_s, true_and, and_true, ↓ifLeT, ↓ifLeF, ↓ifLtT, ↓ifLtF, ↓ifEqT, ↓ifEqF, if_tt, if_ff, if_pos, if_neg, nLe, nLt, nEq, nInT, nCl, pk_mul, nI_add, Nat.reduceAdd, s_cat_nil, s_cat_i, s_cat_r, s_cat_f, s_cat_l, tl_s, tl_n, cat_i, cat_r, cat_f, nb0, nb1, nbI, if_bI, if_bIr, Nat.zero_le, Nat.reduceLeDiff, S_ob0, S_g0_0, S_g0_1, S_g0_2, S_g0_3, S_g0_4, S_g0_5, S_g0_6, S_g0_7, S_g0_8, S_g0_9, S_g0_10, S_g0_11, S_g0_12, S_g0_13, S_g0_14, S_g1_0, S_g1_1, S_g1_2, S_g1_3, S_g1_4, S_g72_0, S_g72_1, S_g72_2, S_g239_0, S_g239_1, S_g239_2, S_g239_3, S_g239_4, S_g239_5, S_g239_6, S_a23, S_n23, S_a282, S_n282, S_a300, S_n300, S_n73, S_n299, Y'_ob (isY_S yb24), Y'_g0 (isY_S yb24), Y'_g1 (isY_S yb24), Y'_g2 (isY_S yb24), Y'_g3 (isY_S yb24), Y'_g4 (isY_S yb24), Y'_g5 (isY_S yb24), Y'_g6 (isY_S yb24), Y'_g7 (isY_S yb24), Y'_g8 (isY_S yb24), Y'_g9 (isY_S yb24), Y'_g10 (isY_S yb24), Y'_g11 (isY_S yb24), Y'_g12 (isY_S yb24), Y'_g13 (isY_S yb24), Y'_g14 (isY_S yb24), Y'_g15 (isY_S yb24), Y'_g16 (isY_S yb24), Y'_g17 (isY_S yb24), Y'_g18 (isY_S yb24), Y'_g19 (isY_S yb24), Y'_a7 (isY_S yb24), Y'_a8 (isY_S yb24), Y'_a10 (isY_S yb24), Y'_a11 (isY_S yb24), Y'_a12 (isY_S yb24), Y'_a13 (isY_S yb24), Y'_a14 (isY_S yb24), Y'_a15 (isY_S yb24), Y'_a16 (isY_S yb24), Y'_a17 (isY_S yb24), Y'_a18 (isY_S yb24), Y'_sw (isY_S yb24), hC, e2, Option.isSome, iBt, nI10, reduceIte]
        refine q_ahead (d := d) hI hq fun s' hI' hc => ?_
        have hy' := (IC_y hI' hq).1
        have f0 := hy'.1.1
        simp (disch := omega) only [u_114_0, u_114_1, u_114_4, u_114_7, u_114_8, u_114_11, u_114_12, u_114_13, u_114_16, u_114_19, u_114_20, u_114_21, u_114_22, u_114_25, u_114_26, u_114_27, u_114_30, u_114_33, u_114_34, u_114_35, u_114_39, u_114_40, u_114_43, u_114_44, u_114_48, u_114_49, u_114_52, u_114_55, u_114_58, u_114_59, u_114_60, u_114_62, u_114_64, u_114_67, u_114_68, u_114_70, u_114_71, u_114_72, u_114_74, u_114_77, u_114_78, u_114_79, u_114_82, u_114_85, u_114_86, u_114_89, u_114_90, u_114_93, u_114_96, u_114_99, u_114_102, u_114_103, gI0, gIs, gR0, gRs, gF0, gFs, st0, st_i, st_r, st_f, st_n, st_s, true_and, and_true, ↓ifLeT, ↓ifLeF, ↓ifLtT, ↓ifLtF, ↓ifEqT, ↓ifEqF, if_tt, if_ff, if_pos, if_neg, nLe, nLt, nEq, nInT, nCl, pk_mul, nI_add, Nat.reduceAdd, s_cat_nil, s_cat_i, s_cat_r, s_cat_f, s_cat_l, tl_s, tl_n, cat_i, cat_r, cat_f, nb0, nb1, nbI, if_bI, if_bIr, Nat.zero_le, Nat.reduceLeDiff, S_ob0, S_g0_0, S_g0_1, S_g0_2, S_g0_3, S_g0_4, S_g0_5, S_g0_6, S_g0_7, S_g0_8, S_g0_9, S_g0_10, S_g0_11, S_g0_12, S_g0_13, S_g0_14, S_g1_0, S_g1_1, S_g1_2, S_g1_3, S_g1_4, S_g72_0, S_g72_1, S_g72_2, S_g239_0, S_g239_1, S_g239_2, S_g239_3, S_g239_4, S_g239_5, S_g239_6, S_a23, S_n23, S_a282, S_n282, S_a300, S_n300, S_n73, S_n299, Y'_ob (isY_S yb24), Y'_g0 (isY_S yb24), Y'_g1 (isY_S yb24), Y'_g2 (isY_S yb24), Y'_g3 (isY_S yb24), Y'_g4 (isY_S yb24), Y'_g5 (isY_S yb24), Y'_g6 (isY_S yb24), Y'_g7 (isY_S yb24), Y'_g8 (isY_S yb24), Y'_g9 (isY_S yb24), Y'_g10 (isY_S yb24), Y'_g11 (isY_S yb24), Y'_g12 (isY_S yb24), Y'_g13 (isY_S yb24), Y'_g14 (isY_S yb24), Y'_g15 (isY_S yb24), Y'_g16 (isY_S yb24), Y'_g17 (isY_S yb24), Y'_g18 (isY_S yb24), Y'_g19 (isY_S yb24), Y'_a7 (isY_S yb24), Y'_a8 (isY_S yb24), Y'_a10 (isY_S yb24), Y'_a11 (isY_S yb24), Y'_a12 (isY_S yb24), Y'_a13 (isY_S yb24), Y'_a14 (isY_S yb24), Y'_a15 (isY_S yb24), Y'_a16 (isY_S yb24), Y'_a17 (isY_S yb24), Y'_a18 (isY_S yb24), Y'_sw (isY_S yb24), f0]
        exact near_out (d := d + 3) hy' hok.1 hc (by omega) (by omega) (k + 1) 0 _ (by omega) (K s' hI')
theorem cmp_le {a b : UInt32} {o : ClassFile.CmpOp} (ha : a.toNat < 2139095040) (hb : b.toNat < 2139095040) : Op.cmpValue (FP.fcmp a b) o ≤ nI 0 ↔ a.toNat ≤ b.toNat := by
  rw [fcmp_v ha hb]
  unfold compareOfLessAndEq
  by_cases c1 : a.toNat < b.toNat
  · rw [if_pos c1]; exact ⟨fun _ => by omega, fun _ => by cases o <;> decide⟩
  · rw [if_neg c1]
    by_cases c2 : a.toNat = b.toNat
    · rw [if_pos c2]; exact ⟨fun _ => by omega, fun _ => by cases o <;> decide⟩
    · rw [if_neg c2]
      refine ⟨fun q => absurd q ?_, fun q => absurd q (by omega)⟩
      cases o <;> decide
theorem swings_lp {N j : Nat} {v1 : Value} (hn : wfN n) (hc : CoOK (SO s 234) n) (hj : j < nF n 2) (hN : N ≤ 300) (K : ∀ g : UInt32, goodW g → g.toNat = maxN (fun i => (nW (runN i n) j).toNat) (N + 1) → Q (some (.int g.toInt32)) (pS s h)) : ∀ m i (g : UInt32) v6, i + m = N + 1 → goodW g → g.toNat = maxN (fun i => (nW (runN i n) j).toNat) i → WP (d + 1) 115 29 [.ref 0, .int (nI j), .int (nI N), .ref 234, .float g, .int (nI i), v6] [] (pS s h) (0, 0) Q := by
  intro m
  have h4 := hn.1.1
  induction m with
  | zero =>
    intro i g v6 hi hg hv
    have e : i = N + 1 := by omega
    subst e
    have e3 := fun Q => m_bitsOfFloat (d := d) (h := pS s h) (Q := Q) hg
    rw [u_115_29]
    simp (disch := omega) only [u_115_0, u_115_1, u_115_2, u_115_5, u_115_8, u_115_9, u_115_10, u_115_13, u_115_16, u_115_17, u_115_18, u_115_19, u_115_22, u_115_23, u_115_24, u_115_26, u_115_27, u_115_31, u_115_32, u_115_35, u_115_36, u_115_37, u_115_39, u_115_42, u_115_44, u_115_46, u_115_48, u_115_49, u_115_52, u_115_54, u_115_57, u_115_59, u_115_61, u_115_64, u_115_67, u_115_69, u_115_72, gI0, gIs, gR0, gRs, gF0, gFs, st0, st_i, st_r, st_f, st_n, st_s, true_and, and_true, ↓ifLeT, ↓ifLeF, ↓ifLtT, ↓ifLtF, ↓ifEqT, ↓ifEqF, if_tt, if_ff, if_pos, if_neg, nLe, nLt, nEq, nInT, nCl, pk_mul, nI_add, Nat.reduceAdd, s_cat_nil, s_cat_i, s_cat_r, s_cat_f, s_cat_l, tl_s, tl_n, cat_i, cat_r, cat_f, nb0, nb1, nbI, if_bI, if_bIr, Nat.zero_le, Nat.reduceLeDiff, e3]
    exact K g hg hv
  | succ m ih =>
    intro i g v6 hi hg hv
    have f2 : nF (runN i n) 2 = nF n 2 := run_F (by decide) i
    have gw := ((wf_run hn i).2.1.1 j (by omega)).2.2.2
    have e1 := fun Q => tl_Co (s := s) (h := h) (Q := Q) fun h Q => m_swayAt (d := d) (b := 234) (c := SO s 234) (q := j) (m := i) (h := h) (Q := Q) (by omega) (by omega)
    rw [(hc.1 i j (by omega) hj).2] at e1
    have cl := cmp_le (o := .l) (good_fin gw) (good_fin hg)
    rw [u_115_29]
    by_cases hl : (nW (runN i n) j).toNat ≤ g.toNat
    · have cl := cl.mpr hl
      simp (disch := omega) only [u_115_0, u_115_1, u_115_2, u_115_5, u_115_8, u_115_9, u_115_10, u_115_13, u_115_16, u_115_17, u_115_18, u_115_19, u_115_22, u_115_23, u_115_24, u_115_26, u_115_27, u_115_31, u_115_32, u_115_35, u_115_36, u_115_37, u_115_39, u_115_42, u_115_44, u_115_46, u_115_48, u_115_49, u_115_52, u_115_54, u_115_57, u_115_59, u_115_61, u_115_64, u_115_67, u_115_69, u_115_72, gI0, gIs, gR0, gRs, gF0, gFs, st0, st_i, st_r, st_f, st_n, st_s, true_and, and_true, ↓ifLeT, ↓ifLeF, ↓ifLtT, ↓ifLtF, ↓ifEqT, ↓ifEqF, if_tt, if_ff, if_pos, if_neg, nLe, nLt, nEq, nInT, nCl, pk_mul, nI_add, Nat.reduceAdd, s_cat_nil, s_cat_i, s_cat_r, s_cat_f, s_cat_l, tl_s, tl_n, cat_i, cat_r, cat_f, nb0, nb1, nbI, if_bI, if_bIr, Nat.zero_le, Nat.reduceLeDiff, K_ob, e1, cl]
      refine ih (i + 1) g _ (by omega) hg ?_
      rw [maxN, ← hv, Nat.max_eq_left hl]
    · have cl : ¬ _ := fun q => hl (cl.mp q)
      simp (disch := omega) only [u_115_0, u_115_1, u_115_2, u_115_5, u_115_8, u_115_9, u_115_10, u_115_13, u_115_16, u_115_17, u_115_18, u_115_19, u_115_22, u_115_23, u_115_24, u_115_26, u_115_27, u_115_31, u_115_32, u_115_35, u_115_36, u_115_37, u_115_39, u_115_42, u_115_44, u_115_46, u_115_48, u_115_49, u_115_52, u_115_54, u_115_57, u_115_59, u_115_61, u_115_64, u_115_67, u_115_69, u_115_72, gI0, gIs, gR0, gRs, gF0, gFs, st0, st_i, st_r, st_f, st_n, st_s, true_and, and_true, ↓ifLeT, ↓ifLeF, ↓ifLtT, ↓ifLtF, ↓ifEqT, ↓ifEqF, if_tt, if_ff, if_pos, if_neg, nLe, nLt, nEq, nInT, nCl, pk_mul, nI_add, Nat.reduceAdd, s_cat_nil, s_cat_i, s_cat_r, s_cat_f, s_cat_l, tl_s, tl_n, cat_i, cat_r, cat_f, nb0, nb1, nbI, if_bI, if_bIr, Nat.zero_le, Nat.reduceLeDiff, K_ob, e1, cl]
      refine ih (i + 1) _ _ (by omega) gw ?_
      rw [maxN, ← hv, Nat.max_eq_right (by omega)]
theorem q_swings (hI : IC s z) (K : ∀ s', IC s' z → Q (some (.int (zswings z c m))) (pS s' h)) : MT (d + 5) 115 [.ref 0, .int c, .int m] (pS s h) Q := by
  rw [MT_go (by decide) _ _ _ (Nat.le_of_ble_eq_true rfl), show s_entry 115 [.ref 0, .int c, .int m] = [.ref 0, .int c, .int m, s_no, s_no, s_no, s_no] from rfl]
  have e1 := fun Q => q_isC (d := d + 3) (h := h) (Q := Q) (x := c) hI
  have e2 := fun Q => q_isSpan (d := d + 3) (s := s) (h := h) (Q := Q) (x := m)
  unfold zswings at K
  cases hq : zQ z with
  | none =>
    simp only [hq] at K
    rw [zC_0 hq, ix_0] at e1
    simp (disch := omega) only [u_115_0, u_115_1, u_115_2, u_115_5, u_115_8, u_115_9, u_115_10, u_115_13, u_115_16, u_115_17, u_115_18, u_115_19, u_115_22, u_115_23, u_115_24, u_115_26, u_115_27, u_115_31, u_115_32, u_115_35, u_115_36, u_115_37, u_115_39, u_115_42, u_115_44, u_115_46, u_115_48, u_115_49, u_115_52, u_115_54, u_115_57, u_115_59, u_115_61, u_115_64, u_115_67, u_115_69, u_115_72, gI0, gIs, gR0, gRs, gF0, gFs, st0, st_i, st_r, st_f, st_n, st_s, true_and, and_true, ↓ifLeT, ↓ifLeF, ↓ifLtT, ↓ifLtF, ↓ifEqT, ↓ifEqF, if_tt, if_ff, if_pos, if_neg, nLe, nLt, nEq, nInT, nCl, pk_mul, nI_add, Nat.reduceAdd, s_cat_nil, s_cat_i, s_cat_r, s_cat_f, s_cat_l, tl_s, tl_n, cat_i, cat_r, cat_f, nb0, nb1, nbI, if_bI, if_bIr, Nat.zero_le, Nat.reduceLeDiff, S_ob0, e1, Option.isSome, iBf]
    exact K s hI
  | some n =>
    simp only [hq] at K
    rw [zC_s hq] at e1
    obtain ⟨hy, hok⟩ := IC_y hI hq
    have h4 := hok.1.1.1
    cases h1 : ixN c (nF n 2) with
    | none =>
      rw [h1] at e1
      simp only [h1] at K
      simp (disch := omega) only [u_115_0, u_115_1, u_115_2, u_115_5, u_115_8, u_115_9, u_115_10, u_115_13, u_115_16, u_115_17, u_115_18, u_115_19, u_115_22, u_115_23, u_115_24, u_115_26, u_115_27, u_115_31, u_115_32, u_115_35, u_115_36, u_115_37, u_115_39, u_115_42, u_115_44, u_115_46, u_115_48, u_115_49, u_115_52, u_115_54, u_115_57, u_115_59, u_115_61, u_115_64, u_115_67, u_115_69, u_115_72, gI0, gIs, gR0, gRs, gF0, gFs, st0, st_i, st_r, st_f, st_n, st_s, true_and, and_true, ↓ifLeT, ↓ifLeF, ↓ifLtT, ↓ifLtF, ↓ifEqT, ↓ifEqF, if_tt, if_ff, if_pos, if_neg, nLe, nLt, nEq, nInT, nCl, pk_mul, nI_add, Nat.reduceAdd, s_cat_nil, s_cat_i, s_cat_r, s_cat_f, s_cat_l, tl_s, tl_n, cat_i, cat_r, cat_f, nb0, nb1, nbI, if_bI, if_bIr, Nat.zero_le, Nat.reduceLeDiff, S_ob0, e1, Option.isSome, iBf]
      exact K s hI
    | some j =>
      rw [h1] at e1
      cases h2 : ixN m 301 with
      | none =>
        rw [h2] at e2
        simp only [h1, h2] at K
        simp (disch := omega) only [u_115_0, u_115_1, u_115_2, u_115_5, u_115_8, u_115_9, u_115_10, u_115_13, u_115_16, u_115_17, u_115_18, u_115_19, u_115_22, u_115_23, u_115_24, u_115_26, u_115_27, u_115_31, u_115_32, u_115_35, u_115_36, u_115_37, u_115_39, u_115_42, u_115_44, u_115_46, u_115_48, u_115_49, u_115_52, u_115_54, u_115_57, u_115_59, u_115_61, u_115_64, u_115_67, u_115_69, u_115_72, gI0, gIs, gR0, gRs, gF0, gFs, st0, st_i, st_r, st_f, st_n, st_s, true_and, and_true, ↓ifLeT, ↓ifLeF, ↓ifLtT, ↓ifLtF, ↓ifEqT, ↓ifEqF, if_tt, if_ff, if_pos, if_neg, nLe, nLt, nEq, nInT, nCl, pk_mul, nI_add, Nat.reduceAdd, s_cat_nil, s_cat_i, s_cat_r, s_cat_f, s_cat_l, tl_s, tl_n, cat_i, cat_r, cat_f, nb0, nb1, nbI, if_bI, if_bIr, Nat.zero_le, Nat.reduceLeDiff, S_ob0, e1, e2, Option.isSome, iBt, iBf, nI10, reduceIte]
        exact K s hI
      | some k =>
        rw [h2] at e2
        simp only [h1, h2] at K
        obtain ⟨j1, rfl⟩ := ix_some (by omega) h1
        obtain ⟨k1, rfl⟩ := ix_some (by omega) h2
        simp (disch := omega) only [u_115_0, u_115_1, u_115_2, u_115_5, u_115_8, u_115_9, u_115_10, u_115_13, u_115_16, u_115_17, u_115_18, u_115_19, u_115_22, u_115_23, u_115_24, u_115_26, u_115_27, u_115_31, u_115_32, u_115_35, u_115_36, u_115_37, u_115_39, u_115_42, u_115_44, u_115_46, u_115_48, u_115_49, u_115_52, u_115_54, u_115_57, u_115_59, u_115_61, u_115_64, u_115_67, u_115_69, u_115_72, gI0, gIs, gR0, gRs, gF0, gFs, st0, st_i, st_r, st_f, st_n, st_s, true_and, and_true, ↓ifLeT, ↓ifLeF, ↓ifLtT, ↓ifLtF, ↓ifEqT, ↓ifEqF, if_tt, if_ff, if_pos, if_neg, nLe, nLt, nEq, nInT, nCl, pk_mul, nI_add, Nat.reduceAdd, s_cat_nil, s_cat_i, s_cat_r, s_cat_f, s_cat_l, tl_s, tl_n, cat_i, cat_r, cat_f, nb0, nb1, nbI, if_bI, if_bIr, Nat.zero_le, Nat.reduceLeDiff, S_ob0, e1, e2, Option.isSome, iBt, nI10, reduceIte]
        refine q_ahead (d := d) hI hq fun s' hI' hc => ?_
        simp (disch := omega) only [u_115_0, u_115_1, u_115_2, u_115_5, u_115_8, u_115_9, u_115_10, u_115_13, u_115_16, u_115_17, u_115_18, u_115_19, u_115_22, u_115_23, u_115_24, u_115_26, u_115_27, u_115_31, u_115_32, u_115_35, u_115_36, u_115_37, u_115_39, u_115_42, u_115_44, u_115_46, u_115_48, u_115_49, u_115_52, u_115_54, u_115_57, u_115_59, u_115_61, u_115_64, u_115_67, u_115_69, u_115_72, gI0, gIs, gR0, gRs, gF0, gFs, st0, st_i, st_r, st_f, st_n, st_s, true_and, and_true, ↓ifLeT, ↓ifLeF, ↓ifLtT, ↓ifLtF, ↓ifEqT, ↓ifEqF, if_tt, if_ff, if_pos, if_neg, nLe, nLt, nEq, nInT, nCl, pk_mul, nI_add, Nat.reduceAdd, s_cat_nil, s_cat_i, s_cat_r, s_cat_f, s_cat_l, tl_s, tl_n, cat_i, cat_r, cat_f, nb0, nb1, nbI, if_bI, if_bIr, Nat.zero_le, Nat.reduceLeDiff]
        refine swings_lp (d := d + 3) (v1 := .ref 0) hok.1 hc j1 (by omega) (fun g hg hv => ?_) (k + 1) 0 _ _ (by omega) good_0 rfl
        rw [toI_n, hv]
        exact K s' hI'
end Q8
