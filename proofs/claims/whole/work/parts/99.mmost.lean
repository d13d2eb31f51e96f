/-! the reference's most, slack, written -/
section MO
variable {b d : Nat} {m : tM} {h : sH} {i x y w c v : Int32} {Q : sQ} {n : tN} {z : tQ} {k : sK}
theorem r_leftOf {t : Nat} (hb : rb b) (hn : wfN n) (hr : RR (kA m b) n) (ht : t < nF n 3) : MT (d + 2) 252 [.ref b, .int (nI t)] (pM m h) Q ↔ Q (some (.int (nI (leftN n t)))) (pM m h) := by
  have h8 := hn.1.2.1
  obtain ⟨-, a13, -, -, a16, -⟩ := hr.2.2.2 t ht
  obtain ⟨-, -, b3, -, -, b6, -⟩ := hn.2.2.1 t ht
  have e : nI (nA n 13 t) - nI (nA n 16 t) = nI (leftN n t) := pk_sub b6
  rw [MT_go (by decide) _ _ _ (Nat.le_of_ble_eq_true rfl), show s_entry 252 [.ref b, .int (nI t)] = [.ref b, .int (nI t)] from rfl]
  simp (disch := omega) only [u_252_0, u_252_1, u_252_2, u_252_3, u_252_6, u_252_7, u_252_8, u_252_9, u_252_10, u_252_13, u_252_14, u_252_15, gI0, gIs, gR0, gRs, gF0, gFs, st0, st_i, st_r, st_f, st_n, st_s, true_and, and_true, ↓ifLeT, ↓ifLeF, ↓ifLtT, ↓ifLtF, ↓ifEqT, ↓ifEqF, if_tt, if_ff, if_pos, if_neg, nLe, nLt, nEq, nInT, nCl, pk_mul, nI_add, Nat.reduceAdd, s_cat_nil, s_cat_i, s_cat_r, s_cat_f, s_cat_l, tl_s, tl_n, cat_i, cat_r, cat_f, nb0, nb1, nbI, if_bI, if_bIr, Nat.zero_le, Nat.reduceLeDiff, m_tAt, M_r hb, a13, a16, e]
theorem r_leftBy {c : Nat} (hn : wfN n) (hr : RR (kA m 320) n) (hc : c < nF n 2) : MT (d + 3) 262 [.ref 317, .int (nI c)] (pM m h) Q ↔ Q (some (.int (nI (planN n c)))) (pM m h) := by
  have h4 := hn.1.1
  have h8 := hn.1.2.1
  obtain ⟨-, -, -, a4, a5⟩ := hr.2.2.1 c hc
  have l8 := wfL_len hn.1 hn.2.2.2 c
  rw [MT_go (by decide) _ _ _ (Nat.le_of_ble_eq_true rfl), show s_entry 262 [.ref 317, .int (nI c)] = [.ref 317, .int (nI c), s_no, s_no] from rfl]
  have lp : ∀ q k, k + q = (nL n c).length → (WP (d + 2) 262 4 [.ref 317, .int (nI c), .int (nI (sumN (fun k => leftN n ((nL n c).getD k 0)) k)), .int (nI k)] [] (pM m h) (0, 0) Q ↔ Q (some (.int (nI (planN n c)))) (pM m h)) := by
    intro q
    induction q with
    | zero =>
      intro k hk
      have e : k = (nL n c).length := by omega
      subst e
      rw [u_262_4]
      simp (disch := omega) only [u_262_0, u_262_1, u_262_2, u_262_3, u_262_5, u_262_6, u_262_9, u_262_10, u_262_11, u_262_14, u_262_15, u_262_18, u_262_19, u_262_20, u_262_23, u_262_24, u_262_27, u_262_28, u_262_29, u_262_30, u_262_31, u_262_34, u_262_35, u_262_38, u_262_39, u_262_40, u_262_43, u_262_46, u_262_47, gI0, gIs, gR0, gRs, gF0, gFs, st0, st_i, st_r, st_f, st_n, st_s, true_and, and_true, ↓ifLeT, ↓ifLeF, ↓ifLtT, ↓ifLtF, ↓ifEqT, ↓ifEqF, if_tt, if_ff, if_pos, if_neg, nLe, nLt, nEq, nInT, nCl, pk_mul, nI_add, Nat.reduceAdd, s_cat_nil, s_cat_i, s_cat_r, s_cat_f, s_cat_l, tl_s, tl_n, cat_i, cat_r, cat_f, nb0, nb1, nbI, if_bI, if_bIr, Nat.zero_le, Nat.reduceLeDiff, M_g0, M_g1, M_g2, M_g3, M_g4, M_g5, M_g6, M_g7, M_g8, M_g9, M_g10, M_g11, M_g12, M_g13, M_g14, M_g15, M_g16, M_g17, M_g18, M_g19, M_g20, M_g21, M_g22, M_g23, M_g24, M_g25, M_g26, M_g27, M_g28, M_g29, M_g30, M_g31, M_g32, M_g33, M_g34, M_g35, M_g36, M_g37, M_g38, M_g39, M_g40, M_g41, m_cAt, M_r rb320, a4]
      exact Iff.rfl
    | succ q ih =>
      intro k hk
      have ih := ih (k + 1) (by omega)
      have hk' : k < (nL n c).length := by omega
      have e := a5 k hk'
      have ht2 := (hn.2.2.2.2.1 c).2 _ (getD_mem hk')
      have e1 := fun Q => r_leftOf (d := d) (h := h) (Q := Q) rb320 hn hr ht2
      rw [sumN] at ih
      rw [u_262_4]
      simp (disch := omega) only [u_262_0, u_262_1, u_262_2, u_262_3, u_262_5, u_262_6, u_262_9, u_262_10, u_262_11, u_262_14, u_262_15, u_262_18, u_262_19, u_262_20, u_262_23, u_262_24, u_262_27, u_262_28, u_262_29, u_262_30, u_262_31, u_262_34, u_262_35, u_262_38, u_262_39, u_262_40, u_262_43, u_262_46, u_262_47, gI0, gIs, gR0, gRs, gF0, gFs, st0, st_i, st_r, st_f, st_n, st_s, true_and, and_true, ↓ifLeT, ↓ifLeF, ↓ifLtT, ↓ifLtF, ↓ifEqT, ↓ifEqF, if_tt, if_ff, if_pos, if_neg, nLe, nLt, nEq, nInT, nCl, pk_mul, nI_add, Nat.reduceAdd, s_cat_nil, s_cat_i, s_cat_r, s_cat_f, s_cat_l, tl_s, tl_n, cat_i, cat_r, cat_f, nb0, nb1, nbI, if_bI, if_bIr, Nat.zero_le, Nat.reduceLeDiff, M_g0, M_g1, M_g2, M_g3, M_g4, M_g5, M_g6, M_g7, M_g8, M_g9, M_g10, M_g11, M_g12, M_g13, M_g14, M_g15, M_g16, M_g17, M_g18, M_g19, M_g20, M_g21, M_g22, M_g23, M_g24, M_g25, M_g26, M_g27, M_g28, M_g29, M_g30, M_g31, M_g32, M_g33, M_g34, M_g35, M_g36, M_g37, M_g38, M_g39, M_g40, M_g41, m_cAt, M_r rb320, a4, e, e1]
      exact ih
  have := lp (nL n c).length 0 (Nat.zero_add _)
  simp (disch := omega) only [u_262_0, u_262_1, u_262_2, u_262_3, u_262_5, u_262_6, u_262_9, u_262_10, u_262_11, u_262_14, u_262_15, u_262_18, u_262_19, u_262_20, u_262_23, u_262_24, u_262_27, u_262_28, u_262_29, u_262_30, u_262_31, u_262_34, u_262_35, u_262_38, u_262_39, u_262_40, u_262_43, u_262_46, u_262_47, gI0, gIs, gR0, gRs, gF0, gFs, st0, st_i, st_r, st_f, st_n, st_s, true_and, and_true, ↓ifLeT, ↓ifLeF, ↓ifLtT, ↓ifLtF, ↓ifEqT, ↓ifEqF, if_tt, if_ff, if_pos, if_neg, nLe, nLt, nEq, nInT, nCl, pk_mul, nI_add, Nat.reduceAdd, s_cat_nil, s_cat_i, s_cat_r, s_cat_f, s_cat_l, tl_s, tl_n, cat_i, cat_r, cat_f, nb0, nb1, nbI, if_bI, if_bIr, Nat.zero_le, Nat.reduceLeDiff]
  exact this
theorem r_leftAt {a : Nat} (hn : wfN n) (hr : RR (kA m 320) n) (ha : a < nF n 0) : MT (d + 3) 264 [.ref 317, .int (nI a)] (pM m h) Q ↔ Q (some (.int (nI (crowdN n a (a + 1))))) (pM m h) := by
  have h8 := hn.1.2.1
  have hb := hn.1.2.2.2.1
  have r1 := hr.2.1
  have c1 : (nI 1).toNatClampNeg = 1 := rfl
  rw [MT_go (by decide) _ _ _ (Nat.le_of_ble_eq_true rfl), show s_entry 264 [.ref 317, .int (nI a)] = [.ref 317, .int (nI a), s_no, s_no] from rfl]
  have lp : ∀ q k, k + q = nF n 3 → (WP (d + 2) 264 4 [.ref 317, .int (nI a), .int (nI (sumN (fun t => if a ≤ nA n 12 t ∧ nA n 12 t < a + 1 then leftN n t else 0) k)), .int (nI k)] [] (pM m h) (0, 0) Q ↔ Q (some (.int (nI (crowdN n a (a + 1))))) (pM m h)) := by
    intro q
    induction q with
    | zero =>
      intro k hk
      have e : k = nF n 3 := by omega
      subst e
      rw [u_264_4]
      simp (disch := omega) only [u_264_0, u_264_1, u_264_2, u_264_3, u_264_5, u_264_6, u_264_9, u_264_10, u_264_11, u_264_14, u_264_15, u_264_16, u_264_19, u_264_20, u_264_21, u_264_24, u_264_25, u_264_26, u_264_29, u_264_30, u_264_33, u_264_34, u_264_37, u_264_40, u_264_41, u_264_42, u_264_43, u_264_46, u_264_49, u_264_50, gI0, gIs, gR0, gRs, gF0, gFs, st0, st_i, st_r, st_f, st_n, st_s, true_and, and_true, ↓ifLeT, ↓ifLeF, ↓ifLtT, ↓ifLtF, ↓ifEqT, ↓ifEqF, if_tt, if_ff, if_pos, if_neg, nLe, nLt, nEq, nInT, nCl, pk_mul, nI_add, Nat.reduceAdd, s_cat_nil, s_cat_i, s_cat_r, s_cat_f, s_cat_l, tl_s, tl_n, cat_i, cat_r, cat_f, nb0, nb1, nbI, if_bI, if_bIr, Nat.zero_le, Nat.reduceLeDiff, M_g0, M_g1, M_g2, M_g3, M_g4, M_g5, M_g6, M_g7, M_g8, M_g9, M_g10, M_g11, M_g12, M_g13, M_g14, M_g15, M_g16, M_g17, M_g18, M_g19, M_g20, M_g21, M_g22, M_g23, M_g24, M_g25, M_g26, M_g27, M_g28, M_g29, M_g30, M_g31, M_g32, M_g33, M_g34, M_g35, M_g36, M_g37, M_g38, M_g39, M_g40, M_g41, M_r rb320, c1, r1]
      exact Iff.rfl
    | succ q ih =>
      intro k hk
      have ih := ih (k + 1) (by omega)
      have a12 := (hr.2.2.2 k (by omega)).1
      have b12 := (hn.2.2.1 k (by omega)).1
      have e1 := fun Q => r_leftOf (d := d) (h := h) (Q := Q) (t := k) rb320 hn hr (by omega)
      rw [sumN] at ih
      rw [u_264_4]
      by_cases g : nA n 12 k = a
      · rw [if_pos (by omega)] at ih
        rw [g] at a12
        simp (disch := omega) only [u_264_0, u_264_1, u_264_2, u_264_3, u_264_5, u_264_6, u_264_9, u_264_10, u_264_11, u_264_14, u_264_15, u_264_16, u_264_19, u_264_20, u_264_21, u_264_24, u_264_25, u_264_26, u_264_29, u_264_30, u_264_33, u_264_34, u_264_37, u_264_40, u_264_41, u_264_42, u_264_43, u_264_46, u_264_49, u_264_50, gI0, gIs, gR0, gRs, gF0, gFs, st0, st_i, st_r, st_f, st_n, st_s, true_and, and_true, ↓ifLeT, ↓ifLeF, ↓ifLtT, ↓ifLtF, ↓ifEqT, ↓ifEqF, if_tt, if_ff, if_pos, if_neg, nLe, nLt, nEq, nInT, nCl, pk_mul, nI_add, Nat.reduceAdd, s_cat_nil, s_cat_i, s_cat_r, s_cat_f, s_cat_l, tl_s, tl_n, cat_i, cat_r, cat_f, nb0, nb1, nbI, if_bI, if_bIr, Nat.zero_le, Nat.reduceLeDiff, M_g0, M_g1, M_g2, M_g3, M_g4, M_g5, M_g6, M_g7, M_g8, M_g9, M_g10, M_g11, M_g12, M_g13, M_g14, M_g15, M_g16, M_g17, M_g18, M_g19, M_g20, M_g21, M_g22, M_g23, M_g24, M_g25, M_g26, M_g27, M_g28, M_g29, M_g30, M_g31, M_g32, M_g33, M_g34, M_g35, M_g36, M_g37, M_g38, M_g39, M_g40, M_g41, m_tAt, M_r rb320, c1, r1, a12, e1]
        exact ih
      · rw [if_neg (by omega)] at ih
        have ne : ¬ nI (nA n 12 k) = nI a := fun q => g ((nI_eq (by omega) (by omega)).mp q)
        simp (disch := omega) only [u_264_0, u_264_1, u_264_2, u_264_3, u_264_5, u_264_6, u_264_9, u_264_10, u_264_11, u_264_14, u_264_15, u_264_16, u_264_19, u_264_20, u_264_21, u_264_24, u_264_25, u_264_26, u_264_29, u_264_30, u_264_33, u_264_34, u_264_37, u_264_40, u_264_41, u_264_42, u_264_43, u_264_46, u_264_49, u_264_50, gI0, gIs, gR0, gRs, gF0, gFs, st0, st_i, st_r, st_f, st_n, st_s, true_and, and_true, ↓ifLeT, ↓ifLeF, ↓ifLtT, ↓ifLtF, ↓ifEqT, ↓ifEqF, if_tt, if_ff, if_pos, if_neg, nLe, nLt, nEq, nInT, nCl, pk_mul, nI_add, Nat.reduceAdd, s_cat_nil, s_cat_i, s_cat_r, s_cat_f, s_cat_l, tl_s, tl_n, cat_i, cat_r, cat_f, nb0, nb1, nbI, if_bI, if_bIr, Nat.zero_le, Nat.reduceLeDiff, M_g0, M_g1, M_g2, M_g3, M_g4, M_g5, M_g6, M_g7, M_g8, M_g9, M_g10, M_g11, M_g12, M_g13, M_g14, M_g15, M_g16, M_g17, M_g18, M_g19, M_g20, M_g21, M_g22, M_g23, M_g24, M_g25, M_g26, M_g27, M_g28, M_g29, M_g30, M_g31, M_g32, M_g33, M_g34, M_g35, M_g36, M_g37, M_g38, M_g39, M_g40, M_g41, m_tAt, M_r rb320, c1, r1, a12, ne, reduceIte]
        exact ih
  have := lp (nF n 3) 0 (Nat.zero_add _)
  simp (disch := omega) only [u_264_0, u_264_1, u_264_2, u_264_3, u_264_5, u_264_6, u_264_9, u_264_10, u_264_11, u_264_14, u_264_15, u_264_16, u_264_19, u_264_20, u_264_21, u_264_24, u_264_25, u_264_26, u_264_29, u_264_30, u_264_33, u_264_34, u_264_37, u_264_40, u_264_41, u_264_42, u_264_43, u_264_46, u_264_49, u_264_50, gI0, gIs, gR0, gRs, gF0, gFs, st0, st_i, st_r, st_f, st_n, st_s, true_and, and_true, ↓ifLeT, ↓ifLeF, ↓ifLtT, ↓ifLtF, ↓ifEqT, ↓ifEqF, if_tt, if_ff, if_pos, if_neg, nLe, nLt, nEq, nInT, nCl, pk_mul, nI_add, Nat.reduceAdd, s_cat_nil, s_cat_i, s_cat_r, s_cat_f, s_cat_l, tl_s, tl_n, cat_i, cat_r, cat_f, nb0, nb1, nbI, if_bI, if_bIr, Nat.zero_le, Nat.reduceLeDiff]
  exact this
theorem r_busiest (hn : wfN n) (h1 : 1 ≤ nF n 2) (h10 : kI m 10 = nI (nF n 2)) (hr : RR (kA m 320) n) : MT (d + 4) 263 [.ref 317] (pM m h) Q ↔ Q (some (.int (nI (topN (planN n) (nF n 2))))) (pM m h) := by
  have h4 := hn.1.1
  rw [MT_go (by decide) _ _ _ (Nat.le_of_ble_eq_true rfl), show s_entry 263 [.ref 317] = [.ref 317, s_no, s_no] from rfl]
  have lp : ∀ q k b, k + q = nF n 2 → b < nF n 2 → (WP (d + 3) 263 4 [.ref 317, .int (nI b), .int (nI k)] [] (pM m h) (0, 0) Q ↔ Q (some (.int (nI (iter (fun i b => if planN n b < planN n i then i else b) k q b)))) (pM m h)) := by
    intro q
    induction q with
    | zero =>
      intro k b hk hb
      rw [u_263_4]
      simp (disch := omega) only [u_263_0, u_263_1, u_263_2, u_263_3, u_263_5, u_263_6, u_263_9, u_263_12, u_263_13, u_263_14, u_263_17, u_263_18, u_263_19, u_263_22, u_263_25, u_263_26, u_263_29, u_263_30, u_263_31, u_263_34, u_263_37, u_263_38, gI0, gIs, gR0, gRs, gF0, gFs, st0, st_i, st_r, st_f, st_n, st_s, true_and, and_true, ↓ifLeT, ↓ifLeF, ↓ifLtT, ↓ifLtF, ↓ifEqT, ↓ifEqF, if_tt, if_ff, if_pos, if_neg, nLe, nLt, nEq, nInT, nCl, pk_mul, nI_add, Nat.reduceAdd, s_cat_nil, s_cat_i, s_cat_r, s_cat_f, s_cat_l, tl_s, tl_n, cat_i, cat_r, cat_f, nb0, nb1, nbI, if_bI, if_bIr, Nat.zero_le, Nat.reduceLeDiff, M_g0, M_g1, M_g2, M_g3, M_g4, M_g5, M_g6, M_g7, M_g8, M_g9, M_g10, M_g11, M_g12, M_g13, M_g14, M_g15, M_g16, M_g17, M_g18, M_g19, M_g20, M_g21, M_g22, M_g23, M_g24, M_g25, M_g26, M_g27, M_g28, M_g29, M_g30, M_g31, M_g32, M_g33, M_g34, M_g35, M_g36, M_g37, M_g38, M_g39, M_g40, M_g41, h10]
      exact Iff.rfl
    | succ q ih =>
      intro k b hk hb
      have e1 := fun Q => r_leftBy (d := d) (h := h) (Q := Q) (c := k) hn hr (by omega)
      have e2 := fun Q => r_leftBy (d := d) (h := h) (Q := Q) (c := b) hn hr hb
      have p1 := plan_bd hn (c := k)
      have p2 := plan_bd hn (c := b)
      rw [u_263_4, iter]
      by_cases g : planN n b < planN n k
      · rw [if_pos g]
        have ih := ih (k + 1) k (by omega) (by omega)
        simp (disch := omega) only [u_263_0, u_263_1, u_263_2, u_263_3, u_263_5, u_263_6, u_263_9, u_263_12, u_263_13, u_263_14, u_263_17, u_263_18, u_263_19, u_263_22, u_263_25, u_263_26, u_263_29, u_263_30, u_263_31, u_263_34, u_263_37, u_263_38, gI0, gIs, gR0, gRs, gF0, gFs, st0, st_i, st_r, st_f, st_n, st_s, true_and, and_true, ↓ifLeT, ↓ifLeF, ↓ifLtT, ↓ifLtF, ↓ifEqT, ↓ifEqF, if_tt, if_ff, if_pos, if_neg, nLe, nLt, nEq, nInT, nCl, pk_mul, nI_add, Nat.reduceAdd, s_cat_nil, s_cat_i, s_cat_r, s_cat_f, s_cat_l, tl_s, tl_n, cat_i, cat_r, cat_f, nb0, nb1, nbI, if_bI, if_bIr, Nat.zero_le, Nat.reduceLeDiff, M_ob, M_g0, M_g1, M_g2, M_g3, M_g4, M_g5, M_g6, M_g7, M_g8, M_g9, M_g10, M_g11, M_g12, M_g13, M_g14, M_g15, M_g16, M_g17, M_g18, M_g19, M_g20, M_g21, M_g22, M_g23, M_g24, M_g25, M_g26, M_g27, M_g28, M_g29, M_g30, M_g31, M_g32, M_g33, M_g34, M_g35, M_g36, M_g37, M_g38, M_g39, M_g40, M_g41, h10, e1, e2]
        exact ih
      · rw [if_neg g]
        have ih := ih (k + 1) b (by omega) hb
        simp (disch := omega) only [u_263_0, u_263_1, u_263_2, u_263_3, u_263_5, u_263_6, u_263_9, u_263_12, u_263_13, u_263_14, u_263_17, u_263_18, u_263_19, u_263_22, u_263_25, u_263_26, u_263_29, u_263_30, u_263_31, u_263_34, u_263_37, u_263_38, gI0, gIs, gR0, gRs, gF0, gFs, st0, st_i, st_r, st_f, st_n, st_s, true_and, and_true, ↓ifLeT, ↓ifLeF, ↓ifLtT, ↓ifLtF, ↓ifEqT, ↓ifEqF, if_tt, if_ff, if_pos, if_neg, nLe, nLt, nEq, nInT, nCl, pk_mul, nI_add, Nat.reduceAdd, s_cat_nil, s_cat_i, s_cat_r, s_cat_f, s_cat_l, tl_s, tl_n, cat_i, cat_r, cat_f, nb0, nb1, nbI, if_bI, if_bIr, Nat.zero_le, Nat.reduceLeDiff, M_ob, M_g0, M_g1, M_g2, M_g3, M_g4, M_g5, M_g6, M_g7, M_g8, M_g9, M_g10, M_g11, M_g12, M_g13, M_g14, M_g15, M_g16, M_g17, M_g18, M_g19, M_g20, M_g21, M_g22, M_g23, M_g24, M_g25, M_g26, M_g27, M_g28, M_g29, M_g30, M_g31, M_g32, M_g33, M_g34, M_g35, M_g36, M_g37, M_g38, M_g39, M_g40, M_g41, h10, e1, e2]
        exact ih
  have := lp (nF n 2 - 1) 1 0 (by omega) (by omega)
  simp (disch := omega) only [u_263_0, u_263_1, u_263_2, u_263_3, u_263_5, u_263_6, u_263_9, u_263_12, u_263_13, u_263_14, u_263_17, u_263_18, u_263_19, u_263_22, u_263_25, u_263_26, u_263_29, u_263_30, u_263_31, u_263_34, u_263_37, u_263_38, gI0, gIs, gR0, gRs, gF0, gFs, st0, st_i, st_r, st_f, st_n, st_s, true_and, and_true, ↓ifLeT, ↓ifLeF, ↓ifLtT, ↓ifLtF, ↓ifEqT, ↓ifEqF, if_tt, if_ff, if_pos, if_neg, nLe, nLt, nEq, nInT, nCl, pk_mul, nI_add, Nat.reduceAdd, s_cat_nil, s_cat_i, s_cat_r, s_cat_f, s_cat_l, tl_s, tl_n, cat_i, cat_r, cat_f, nb0, nb1, nbI, if_bI, if_bIr, Nat.zero_le, Nat.reduceLeDiff]
  exact this
theorem r_fullest (hn : wfN n) (h8' : kI m 8 = nI (nF n 0)) (hr : RR (kA m 320) n) : MT (d + 4) 265 [.ref 317] (pM m h) Q ↔ Q (some (.int (nI (topN (fun b => crowdN n b (b + 1)) (nF n 0))))) (pM m h) := by
  have hb0 := hn.1.2.2.2.1
  have hb2 := hn.1.2.2.1
  rw [MT_go (by decide) _ _ _ (Nat.le_of_ble_eq_true rfl), show s_entry 265 [.ref 317] = [.ref 317, s_no, s_no] from rfl]
  have lp : ∀ q k b, k + q = nF n 0 → b < nF n 0 → (WP (d + 3) 265 4 [.ref 317, .int (nI b), .int (nI k)] [] (pM m h) (0, 0) Q ↔ Q (some (.int (nI (iter (fun i b => if crowdN n b (b + 1) < crowdN n i (i + 1) then i else b) k q b)))) (pM m h)) := by
    intro q
    induction q with
    | zero =>
      intro k b hk hb
      rw [u_265_4]
      simp (disch := omega) only [u_265_0, u_265_1, u_265_2, u_265_3, u_265_5, u_265_6, u_265_9, u_265_12, u_265_13, u_265_14, u_265_17, u_265_18, u_265_19, u_265_22, u_265_25, u_265_26, u_265_29, u_265_30, u_265_31, u_265_34, u_265_37, u_265_38, gI0, gIs, gR0, gRs, gF0, gFs, st0, st_i, st_r, st_f, st_n, st_s, true_and, and_true, ↓ifLeT, ↓ifLeF, ↓ifLtT, ↓ifLtF, ↓ifEqT, ↓ifEqF, if_tt, if_ff, if_pos, if_neg, nLe, nLt, nEq, nInT, nCl, pk_mul, nI_add, Nat.reduceAdd, s_cat_nil, s_cat_i, s_cat_r, s_cat_f, s_cat_l, tl_s, tl_n, cat_i, cat_r, cat_f, nb0, nb1, nbI, if_bI, if_bIr, Nat.zero_le, Nat.reduceLeDiff, M_g0, M_g1, M_g2, M_g3, M_g4, M_g5, M_g6, M_g7, M_g8, M_g9, M_g10, M_g11, M_g12, M_g13, M_g14, M_g15, M_g16, M_g17, M_g18, M_g19, M_g20, M_g21, M_g22, M_g23, M_g24, M_g25, M_g26, M_g27, M_g28, M_g29, M_g30, M_g31, M_g32, M_g33, M_g34, M_g35, M_g36, M_g37, M_g38, M_g39, M_g40, M_g41, h8']
      exact Iff.rfl
    | succ q ih =>
      intro k b hk hb
      have e1 := fun Q => r_leftAt (d := d) (h := h) (Q := Q) (a := k) hn hr (by omega)
      have e2 := fun Q => r_leftAt (d := d) (h := h) (Q := Q) (a := b) hn hr hb
      have p1 := crowd_bd hn (lo := k) (hi := k + 1)
      have p2 := crowd_bd hn (lo := b) (hi := b + 1)
      rw [u_265_4, iter]
      by_cases g : crowdN n b (b + 1) < crowdN n k (k + 1)
      · rw [if_pos g]
        have ih := ih (k + 1) k (by omega) (by omega)
        simp (disch := omega) only [u_265_0, u_265_1, u_265_2, u_265_3, u_265_5, u_265_6, u_265_9, u_265_12, u_265_13, u_265_14, u_265_17, u_265_18, u_265_19, u_265_22, u_265_25, u_265_26, u_265_29, u_265_30, u_265_31, u_265_34, u_265_37, u_265_38, gI0, gIs, gR0, gRs, gF0, gFs, st0, st_i, st_r, st_f, st_n, st_s, true_and, and_true, ↓ifLeT, ↓ifLeF, ↓ifLtT, ↓ifLtF, ↓ifEqT, ↓ifEqF, if_tt, if_ff, if_pos, if_neg, nLe, nLt, nEq, nInT, nCl, pk_mul, nI_add, Nat.reduceAdd, s_cat_nil, s_cat_i, s_cat_r, s_cat_f, s_cat_l, tl_s, tl_n, cat_i, cat_r, cat_f, nb0, nb1, nbI, if_bI, if_bIr, Nat.zero_le, Nat.reduceLeDiff, M_ob, M_g0, M_g1, M_g2, M_g3, M_g4, M_g5, M_g6, M_g7, M_g8, M_g9, M_g10, M_g11, M_g12, M_g13, M_g14, M_g15, M_g16, M_g17, M_g18, M_g19, M_g20, M_g21, M_g22, M_g23, M_g24, M_g25, M_g26, M_g27, M_g28, M_g29, M_g30, M_g31, M_g32, M_g33, M_g34, M_g35, M_g36, M_g37, M_g38, M_g39, M_g40, M_g41, h8', e1, e2]
        exact ih
      · rw [if_neg g]
        have ih := ih (k + 1) b (by omega) hb
        simp (disch := omega) only [u_265_0, u_265_1, u_265_2, u_265_3, u_265_5, u_265_6, u_265_9, u_265_12, u_265_13, u_265_14, u_265_17, u_265_18, u_265_19, u_265_22, u_265_25, u_265_26, u_265_29, u_265_30, u_265_31, u_265_34, u_265_37, u_265_38, gI0, gIs, gR0, gRs, gF0, gFs, st0, st_i, st_r, st_f, st_n, st_s, true_and, and_true, ↓ifLeT, ↓ifLeF, ↓ifLtT, ↓ifLtF, ↓ifEqT, ↓ifEqF, if_tt, if_ff, if_pos, if_neg, nLe, nLt, nEq, nInT, nCl, pk_mul, nI_add, Nat.reduceAdd, s_cat_nil, s_cat_i, s_cat_r, s_cat_f, s_cat_l, tl_s, tl_n, cat_i, cat_r, cat_f, nb0, nb1, nbI, if_bI, if_bIr, Nat.zero_le, Nat.reduceLeDiff, M_ob, M_g0, M_g1, M_g2, M_g3, M_g4, M_g5, M_g6, M_g7, M_g8, M_g9, M_g10, M_g11, M_g12, M_g13, M_g14, M_g15, M_g16, M_g17, M_g18, M_g19, M_g20, M_g21, M_g22, M_g23, M_g24, M_g25, M_g26, M_g27, M_g28, M_g29, M_g30, M_g31, M_g32, M_g33, M_g34, M_g35, M_g36, M_g37, M_g38, M_g39, M_g40, M_g41, h8', e1, e2]
        exact ih
  have := lp (nF n 0 - 1) 1 0 (by omega) (by omega)
  simp (disch := omega) only [u_265_0, u_265_1, u_265_2, u_265_3, u_265_5, u_265_6, u_265_9, u_265_12, u_265_13, u_265_14, u_265_17, u_265_18, u_265_19, u_265_22, u_265_25, u_265_26, u_265_29, u_265_30, u_265_31, u_265_34, u_265_37, u_265_38, gI0, gIs, gR0, gRs, gF0, gFs, st0, st_i, st_r, st_f, st_n, st_s, true_and, and_true, ↓ifLeT, ↓ifLeF, ↓ifLtT, ↓ifLtF, ↓ifEqT, ↓ifEqF, if_tt, if_ff, if_pos, if_neg, nLe, nLt, nEq, nInT, nCl, pk_mul, nI_add, Nat.reduceAdd, s_cat_nil, s_cat_i, s_cat_r, s_cat_f, s_cat_l, tl_s, tl_n, cat_i, cat_r, cat_f, nb0, nb1, nbI, if_bI, if_bIr, Nat.zero_le, Nat.reduceLeDiff]
  exact this
theorem r_wildest (hn : wfN n) (h1 : 1 ≤ nF n 2) (h10 : kI m 10 = nI (nF n 2)) (hr : RR (kA m 320) n) : MT (d + 3) 267 [.ref 317] (pM m h) Q ↔ Q (some (.int (nI (topN (fun c => (nW n c).toNat) (nF n 2))))) (pM m h) := by
  have h4 := hn.1.1
  rw [MT_go (by decide) _ _ _ (Nat.le_of_ble_eq_true rfl), show s_entry 267 [.ref 317] = [.ref 317, s_no, s_no] from rfl]
  have lp : ∀ q k b, k + q = nF n 2 → b < nF n 2 → (WP (d + 2) 267 4 [.ref 317, .int (nI b), .int (nI k)] [] (pM m h) (0, 0) Q ↔ Q (some (.int (nI (iter (fun i b => if (nW n b).toNat < (nW n i).toNat then i else b) k q b)))) (pM m h)) := by
    intro q
    induction q with
    | zero =>
      intro k b hk hb
      rw [u_267_4]
      simp (disch := omega) only [u_267_0, u_267_1, u_267_2, u_267_3, u_267_5, u_267_6, u_267_9, u_267_12, u_267_13, u_267_16, u_267_17, u_267_20, u_267_21, u_267_24, u_267_25, u_267_28, u_267_29, u_267_32, u_267_33, u_267_36, u_267_37, u_267_38, u_267_41, u_267_44, u_267_45, gI0, gIs, gR0, gRs, gF0, gFs, st0, st_i, st_r, st_f, st_n, st_s, true_and, and_true, ↓ifLeT, ↓ifLeF, ↓ifLtT, ↓ifLtF, ↓ifEqT, ↓ifEqF, if_tt, if_ff, if_pos, if_neg, nLe, nLt, nEq, nInT, nCl, pk_mul, nI_add, Nat.reduceAdd, s_cat_nil, s_cat_i, s_cat_r, s_cat_f, s_cat_l, tl_s, tl_n, cat_i, cat_r, cat_f, nb0, nb1, nbI, if_bI, if_bIr, Nat.zero_le, Nat.reduceLeDiff, M_g0, M_g1, M_g2, M_g3, M_g4, M_g5, M_g6, M_g7, M_g8, M_g9, M_g10, M_g11, M_g12, M_g13, M_g14, M_g15, M_g16, M_g17, M_g18, M_g19, M_g20, M_g21, M_g22, M_g23, M_g24, M_g25, M_g26, M_g27, M_g28, M_g29, M_g30, M_g31, M_g32, M_g33, M_g34, M_g35, M_g36, M_g37, M_g38, M_g39, M_g40, M_g41, h10]
      exact Iff.rfl
    | succ q ih =>
      intro k b hk hb
      have e1 := fun Q => r_sway (d := d) (h := h) (Q := Q) (c := k) rb320 hn hr (by omega)
      have e2 := fun Q => r_sway (d := d) (h := h) (Q := Q) (c := b) rb320 hn hr hb
      have g1 := (hn.2.1.1 k (by omega)).2.2.2
      have g2 := (hn.2.1.1 b (by omega)).2.2.2
      have cl := cmp_le (o := .l) (good_fin g1) (good_fin g2)
      rw [u_267_4, iter]
      by_cases g : (nW n b).toNat < (nW n k).toNat
      · rw [if_pos g]
        have ih := ih (k + 1) k (by omega) (by omega)
        have cl : ¬ _ := fun q => absurd (cl.mp q) (by omega)
        simp (disch := omega) only [u_267_0, u_267_1, u_267_2, u_267_3, u_267_5, u_267_6, u_267_9, u_267_12, u_267_13, u_267_16, u_267_17, u_267_20, u_267_21, u_267_24, u_267_25, u_267_28, u_267_29, u_267_32, u_267_33, u_267_36, u_267_37, u_267_38, u_267_41, u_267_44, u_267_45, gI0, gIs, gR0, gRs, gF0, gFs, st0, st_i, st_r, st_f, st_n, st_s, true_and, and_true, ↓ifLeT, ↓ifLeF, ↓ifLtT, ↓ifLtF, ↓ifEqT, ↓ifEqF, if_tt, if_ff, if_pos, if_neg, nLe, nLt, nEq, nInT, nCl, pk_mul, nI_add, Nat.reduceAdd, s_cat_nil, s_cat_i, s_cat_r, s_cat_f, s_cat_l, tl_s, tl_n, cat_i, cat_r, cat_f, nb0, nb1, nbI, if_bI, if_bIr, Nat.zero_le, Nat.reduceLeDiff, M_ob, M_g0, M_g1, M_g2, M_g3, M_g4, M_g5, M_g6, M_g7, M_g8, M_g9, M_g10, M_g11, M_g12, M_g13, M_g14, M_g15, M_g16, M_g17, M_g18, M_g19, M_g20, M_g21, M_g22, M_g23, M_g24, M_g25, M_g26, M_g27, M_g28, M_g29, M_g30, M_g31, M_g32, M_g33, M_g34, M_g35, M_g36, M_g37, M_g38, M_g39, M_g40, M_g41, h10, e1, e2, cl, reduceIte]
        exact ih
      · rw [if_neg g]
        have ih := ih (k + 1) b (by omega) hb
        have cl := cl.mpr (by omega)
        simp (disch := omega) only [u_267_0, u_267_1, u_267_2, u_267_3, u_267_5, u_267_6, u_267_9, u_267_12, u_267_13, u_267_16, u_267_17, u_267_20, u_267_21, u_267_24, u_267_25, u_267_28, u_267_29, u_267_32, u_267_33, u_267_36, u_267_37, u_267_38, u_267_41, u_267_44, u_267_45, gI0, gIs, gR0, gRs, gF0, gFs, st0, st_i, st_r, st_f, st_n, st_s, true_and, and_true, ↓ifLeT, ↓ifLeF, ↓ifLtT, ↓ifLtF, ↓ifEqT, ↓ifEqF, if_tt, if_ff, if_pos, if_neg, nLe, nLt, nEq, nInT, nCl, pk_mul, nI_add, Nat.reduceAdd, s_cat_nil, s_cat_i, s_cat_r, s_cat_f, s_cat_l, tl_s, tl_n, cat_i, cat_r, cat_f, nb0, nb1, nbI, if_bI, if_bIr, Nat.zero_le, Nat.reduceLeDiff, M_ob, M_g0, M_g1, M_g2, M_g3, M_g4, M_g5, M_g6, M_g7, M_g8, M_g9, M_g10, M_g11, M_g12, M_g13, M_g14, M_g15, M_g16, M_g17, M_g18, M_g19, M_g20, M_g21, M_g22, M_g23, M_g24, M_g25, M_g26, M_g27, M_g28, M_g29, M_g30, M_g31, M_g32, M_g33, M_g34, M_g35, M_g36, M_g37, M_g38, M_g39, M_g40, M_g41, h10, e1, e2, cl, reduceIte]
        exact ih
  have := lp (nF n 2 - 1) 1 0 (by omega) (by omega)
  simp (disch := omega) only [u_267_0, u_267_1, u_267_2, u_267_3, u_267_5, u_267_6, u_267_9, u_267_12, u_267_13, u_267_16, u_267_17, u_267_20, u_267_21, u_267_24, u_267_25, u_267_28, u_267_29, u_267_32, u_267_33, u_267_36, u_267_37, u_267_38, u_267_41, u_267_44, u_267_45, gI0, gIs, gR0, gRs, gF0, gFs, st0, st_i, st_r, st_f, st_n, st_s, true_and, and_true, ↓ifLeT, ↓ifLeF, ↓ifLtT, ↓ifLtF, ↓ifEqT, ↓ifEqF, if_tt, if_ff, if_pos, if_neg, nLe, nLt, nEq, nInT, nCl, pk_mul, nI_add, Nat.reduceAdd, s_cat_nil, s_cat_i, s_cat_r, s_cat_f, s_cat_l, tl_s, tl_n, cat_i, cat_r, cat_f, nb0, nb1, nbI, if_bI, if_bIr, Nat.zero_le, Nat.reduceLeDiff]
  exact this
theorem r_longest (hn : wfN n) (hr : RR (kA m 320) n) : MT (d + 2) 266 [.ref 317] (pM m h) Q ↔ Q (some (.int (if nF n 3 = 0 then -1 else nI (topN (nA n 13) (nF n 3))))) (pM m h) := by
  have h8 := hn.1.2.1
  have r1 := hr.2.1
  have c1 : (nI 1).toNatClampNeg = 1 := rfl
  rw [MT_go (by decide) _ _ _ (Nat.le_of_ble_eq_true rfl), show s_entry 266 [.ref 317] = [.ref 317, s_no, s_no] from rfl]
  have lp : ∀ q k b, k + q = nF n 3 → b < nF n 3 → (WP (d + 1) 266 4 [.ref 317, .int (nI b), .int (nI k)] [] (pM m h) (0, 0) Q ↔ Q (some (.int (nI (iter (fun i b => if nA n 13 b < nA n 13 i then i else b) k q b)))) (pM m h)) := by
    intro q
    induction q with
    | zero =>
      intro k b hk hb
      have e : k = nF n 3 := by omega
      subst e
      rw [u_266_4]
      simp (disch := omega) only [u_266_0, u_266_1, u_266_2, u_266_3, u_266_5, u_266_6, u_266_9, u_266_10, u_266_11, u_266_14, u_266_15, u_266_16, u_266_19, u_266_20, u_266_23, u_266_24, u_266_25, u_266_28, u_266_29, u_266_30, u_266_33, u_266_34, u_266_35, u_266_38, u_266_39, u_266_42, u_266_43, u_266_46, u_266_47, u_266_48, u_266_51, u_266_54, u_266_55, gI0, gIs, gR0, gRs, gF0, gFs, st0, st_i, st_r, st_f, st_n, st_s, true_and, and_true, ↓ifLeT, ↓ifLeF, ↓ifLtT, ↓ifLtF, ↓ifEqT, ↓ifEqF, if_tt, if_ff, if_pos, if_neg, nLe, nLt, nEq, nInT, nCl, pk_mul, nI_add, Nat.reduceAdd, s_cat_nil, s_cat_i, s_cat_r, s_cat_f, s_cat_l, tl_s, tl_n, cat_i, cat_r, cat_f, nb0, nb1, nbI, if_bI, if_bIr, Nat.zero_le, Nat.reduceLeDiff, M_g0, M_g1, M_g2, M_g3, M_g4, M_g5, M_g6, M_g7, M_g8, M_g9, M_g10, M_g11, M_g12, M_g13, M_g14, M_g15, M_g16, M_g17, M_g18, M_g19, M_g20, M_g21, M_g22, M_g23, M_g24, M_g25, M_g26, M_g27, M_g28, M_g29, M_g30, M_g31, M_g32, M_g33, M_g34, M_g35, M_g36, M_g37, M_g38, M_g39, M_g40, M_g41, M_r rb320, c1, r1]
      exact Iff.rfl
    | succ q ih =>
      intro k b hk hb
      have e1 := (hr.2.2.2 k (by omega)).2.1
      have e2 := (hr.2.2.2 b hb).2.1
      have p1 := (hn.2.2.1 k (by omega)).2.2.1
      have p2 := (hn.2.2.1 b hb).2.2.1
      have ne := m1_ne (j := b) (by omega)
      rw [u_266_4, iter]
      by_cases g : nA n 13 b < nA n 13 k
      · rw [if_pos g]
        have ih := ih (k + 1) k (by omega) (by omega)
        simp (disch := omega) only [u_266_0, u_266_1, u_266_2, u_266_3, u_266_5, u_266_6, u_266_9, u_266_10, u_266_11, u_266_14, u_266_15, u_266_16, u_266_19, u_266_20, u_266_23, u_266_24, u_266_25, u_266_28, u_266_29, u_266_30, u_266_33, u_266_34, u_266_35, u_266_38, u_266_39, u_266_42, u_266_43, u_266_46, u_266_47, u_266_48, u_266_51, u_266_54, u_266_55, gI0, gIs, gR0, gRs, gF0, gFs, st0, st_i, st_r, st_f, st_n, st_s, true_and, and_true, ↓ifLeT, ↓ifLeF, ↓ifLtT, ↓ifLtF, ↓ifEqT, ↓ifEqF, if_tt, if_ff, if_pos, if_neg, nLe, nLt, nEq, nInT, nCl, pk_mul, nI_add, Nat.reduceAdd, s_cat_nil, s_cat_i, s_cat_r, s_cat_f, s_cat_l, tl_s, tl_n, cat_i, cat_r, cat_f, nb0, nb1, nbI, if_bI, if_bIr, Nat.zero_le, Nat.reduceLeDiff, M_ob, M_g0, M_g1, M_g2, M_g3, M_g4, M_g5, M_g6, M_g7, M_g8, M_g9, M_g10, M_g11, M_g12, M_g13, M_g14, M_g15, M_g16, M_g17, M_g18, M_g19, M_g20, M_g21, M_g22, M_g23, M_g24, M_g25, M_g26, M_g27, M_g28, M_g29, M_g30, M_g31, M_g32, M_g33, M_g34, M_g35, M_g36, M_g37, M_g38, M_g39, M_g40, M_g41, m_tAt, M_r rb320, c1, r1, e1, e2, ne, reduceIte]
        exact ih
      · rw [if_neg g]
        have ih := ih (k + 1) b (by omega) hb
        simp (disch := omega) only [u_266_0, u_266_1, u_266_2, u_266_3, u_266_5, u_266_6, u_266_9, u_266_10, u_266_11, u_266_14, u_266_15, u_266_16, u_266_19, u_266_20, u_266_23, u_266_24, u_266_25, u_266_28, u_266_29, u_266_30, u_266_33, u_266_34, u_266_35, u_266_38, u_266_39, u_266_42, u_266_43, u_266_46, u_266_47, u_266_48, u_266_51, u_266_54, u_266_55, gI0, gIs, gR0, gRs, gF0, gFs, st0, st_i, st_r, st_f, st_n, st_s, true_and, and_true, ↓ifLeT, ↓ifLeF, ↓ifLtT, ↓ifLtF, ↓ifEqT, ↓ifEqF, if_tt, if_ff, if_pos, if_neg, nLe, nLt, nEq, nInT, nCl, pk_mul, nI_add, Nat.reduceAdd, s_cat_nil, s_cat_i, s_cat_r, s_cat_f, s_cat_l, tl_s, tl_n, cat_i, cat_r, cat_f, nb0, nb1, nbI, if_bI, if_bIr, Nat.zero_le, Nat.reduceLeDiff, M_ob, M_g0, M_g1, M_g2, M_g3, M_g4, M_g5, M_g6, M_g7, M_g8, M_g9, M_g10, M_g11, M_g12, M_g13, M_g14, M_g15, M_g16, M_g17, M_g18, M_g19, M_g20, M_g21, M_g22, M_g23, M_g24, M_g25, M_g26, M_g27, M_g28, M_g29, M_g30, M_g31, M_g32, M_g33, M_g34, M_g35, M_g36, M_g37, M_g38, M_g39, M_g40, M_g41, m_tAt, M_r rb320, c1, r1, e1, e2, ne, reduceIte]
        exact ih
  by_cases h0 : nF n 3 = 0
  · rw [if_pos h0]
    rw [h0] at r1
    simp (disch := omega) only [u_266_0, u_266_1, u_266_2, u_266_3, u_266_5, u_266_6, u_266_9, u_266_10, u_266_11, u_266_14, u_266_15, u_266_16, u_266_19, u_266_20, u_266_23, u_266_24, u_266_25, u_266_28, u_266_29, u_266_30, u_266_33, u_266_34, u_266_35, u_266_38, u_266_39, u_266_42, u_266_43, u_266_46, u_266_47, u_266_48, u_266_51, u_266_54, u_266_55, gI0, gIs, gR0, gRs, gF0, gFs, st0, st_i, st_r, st_f, st_n, st_s, true_and, and_true, ↓ifLeT, ↓ifLeF, ↓ifLtT, ↓ifLtF, ↓ifEqT, ↓ifEqF, if_tt, if_ff, if_pos, if_neg, nLe, nLt, nEq, nInT, nCl, pk_mul, nI_add, Nat.reduceAdd, s_cat_nil, s_cat_i, s_cat_r, s_cat_f, s_cat_l, tl_s, tl_n, cat_i, cat_r, cat_f, nb0, nb1, nbI, if_bI, if_bIr, Nat.zero_le, Nat.reduceLeDiff]
    rw [u_266_4]
    simp (disch := omega) only [u_266_0, u_266_1, u_266_2, u_266_3, u_266_5, u_266_6, u_266_9, u_266_10, u_266_11, u_266_14, u_266_15, u_266_16, u_266_19, u_266_20, u_266_23, u_266_24, u_266_25, u_266_28, u_266_29, u_266_30, u_266_33, u_266_34, u_266_35, u_266_38, u_266_39, u_266_42, u_266_43, u_266_46, u_266_47, u_266_48, u_266_51, u_266_54, u_266_55, gI0, gIs, gR0, gRs, gF0, gFs, st0, st_i, st_r, st_f, st_n, st_s, true_and, and_true, ↓ifLeT, ↓ifLeF, ↓ifLtT, ↓ifLtF, ↓ifEqT, ↓ifEqF, if_tt, if_ff, if_pos, if_neg, nLe, nLt, nEq, nInT, nCl, pk_mul, nI_add, Nat.reduceAdd, s_cat_nil, s_cat_i, s_cat_r, s_cat_f, s_cat_l, tl_s, tl_n, cat_i, cat_r, cat_f, nb0, nb1, nbI, if_bI, if_bIr, Nat.zero_le, Nat.reduceLeDiff, M_g0, M_g1, M_g2, M_g3, M_g4, M_g5, M_g6, M_g7, M_g8, M_g9, M_g10, M_g11, M_g12, M_g13, M_g14, M_g15, M_g16, M_g17, M_g18, M_g19, M_g20, M_g21, M_g22, M_g23, M_g24, M_g25, M_g26, M_g27, M_g28, M_g29, M_g30, M_g31, M_g32, M_g33, M_g34, M_g35, M_g36, M_g37, M_g38, M_g39, M_g40, M_g41, M_r rb320, c1, r1]
  · rw [if_neg h0]
    have := lp (nF n 3 - 1) 1 0 (by omega) (by omega)
    simp (disch := omega) only [u_266_0, u_266_1, u_266_2, u_266_3, u_266_5, u_266_6, u_266_9, u_266_10, u_266_11, u_266_14, u_266_15, u_266_16, u_266_19, u_266_20, u_266_23, u_266_24, u_266_25, u_266_28, u_266_29, u_266_30, u_266_33, u_266_34, u_266_35, u_266_38, u_266_39, u_266_42, u_266_43, u_266_46, u_266_47, u_266_48, u_266_51, u_266_54, u_266_55, gI0, gIs, gR0, gRs, gF0, gFs, st0, st_i, st_r, st_f, st_n, st_s, true_and, and_true, ↓ifLeT, ↓ifLeF, ↓ifLtT, ↓ifLtF, ↓ifEqT, ↓ifEqF, if_tt, if_ff, if_pos, if_neg, nLe, nLt, nEq, nInT, nCl, pk_mul, nI_add, Nat.reduceAdd, s_cat_nil, s_cat_i, s_cat_r, s_cat_f, s_cat_l, tl_s, tl_n, cat_i, cat_r, cat_f, nb0, nb1, nbI, if_bI, if_bIr, Nat.zero_le, Nat.reduceLeDiff]
    rw [u_266_4]
    simp (disch := omega) only [u_266_0, u_266_1, u_266_2, u_266_3, u_266_5, u_266_6, u_266_9, u_266_10, u_266_11, u_266_14, u_266_15, u_266_16, u_266_19, u_266_20, u_266_23, u_266_24, u_266_25, u_266_28, u_266_29, u_266_30, u_266_33, u_266_34, u_266_35, u_266_38, u_266_39, u_266_42, u_266_43, u_266_46, u_266_47, u_266_48, u_266_51, u_266_54, u_266_55, gI0, gIs, gR0, gRs, gF0, gFs, st0, st_i, st_r, st_f, st_n, st_s, true_and, and_true, ↓ifLeT, ↓ifLeF, ↓ifLtT, ↓ifLtF, ↓ifEqT, ↓ifEqF, if_tt, if_ff, if_pos, if_neg, nLe, nLt, nEq, nInT, nCl, pk_mul, nI_add, Nat.reduceAdd, s_cat_nil, s_cat_i, s_cat_r, s_cat_f, s_cat_l, tl_s, tl_n, cat_i, cat_r, cat_f, nb0, nb1, nbI, if_bI, if_bIr, Nat.zero_le, Nat.reduceLeDiff, M_g0, M_g1, M_g2, M_g3, M_g4, M_g5, M_g6, M_g7, M_g8, M_g9, M_g10, M_g11, M_g12, M_g13, M_g14, M_g15, M_g16, M_g17, M_g18, M_g19, M_g20, M_g21, M_g22, M_g23, M_g24, M_g25, M_g26, M_g27, M_g28, M_g29, M_g30, M_g31, M_g32, M_g33, M_g34, M_g35, M_g36, M_g37, M_g38, M_g39, M_g40, M_g41, M_r rb320, c1, r1]
    exact this
theorem z_most (hm : RM m z) (K : ∀ m', RM m' z → Q (some (.int (zmost z w))) (pM m' h)) : MT (d + 5) 268 [.ref 317, .int w] (pM m h) Q := by
  rw [MT_go (by decide) _ _ _ (Nat.le_of_ble_eq_true rfl), show s_entry 268 [.ref 317, .int w] = [.ref 317, .int w] from rfl]
  have hm0 := RM_0 (x := nI 0) hm
  have q1 := hm.2.1.1
  unfold zmost at K
  cases hq : zQ z with
  | none =>
    simp only [hq] at K
    rw [hq] at q1
    simp (disch := omega) only [u_268_0, u_268_1, u_268_2, u_268_5, u_268_6, u_268_9, u_268_12, u_268_13, u_268_14, u_268_15, u_268_44, u_268_45, u_268_48, u_268_49, u_268_50, u_268_53, u_268_54, u_268_55, u_268_58, u_268_59, u_268_60, u_268_63, u_268_64, u_268_65, gI0, gIs, gR0, gRs, gF0, gFs, st0, st_i, st_r, st_f, st_n, st_s, true_and, and_true, ↓ifLeT, ↓ifLeF, ↓ifLtT, ↓ifLtF, ↓ifEqT, ↓ifEqF, if_tt, if_ff, if_pos, if_neg, nLe, nLt, nEq, nInT, nCl, pk_mul, nI_add, Nat.reduceAdd, s_cat_nil, s_cat_i, s_cat_r, s_cat_f, s_cat_l, tl_s, tl_n, cat_i, cat_r, cat_f, nb0, nb1, nbI, if_bI, if_bIr, Nat.zero_le, Nat.reduceLeDiff, M_ob, M_g0, M_g1, M_g2, M_g3, M_g4, M_g5, M_g6, M_g7, M_g8, M_g9, M_g10, M_g11, M_g12, M_g13, M_g14, M_g15, M_g16, M_g17, M_g18, M_g19, M_g20, M_g21, M_g22, M_g23, M_g24, M_g25, M_g26, M_g27, M_g28, M_g29, M_g30, M_g31, M_g32, M_g33, M_g34, M_g35, M_g36, M_g37, M_g38, M_g39, M_g40, M_g41, M_s0, kI_xI, kI_xB, kI_xA, kI_xV, kB_xI, kB_xB, kB_xA, kB_xV, kA_xI, kA_xB, kA_xA, kA_xV, kV_xI, kV_xB, kV_xA, kV_xV, Nat.reduceEqDiff, reduceIte, q1, Option.isSome, iBf]
    exact K _ hm0
  | some n =>
    simp only [hq] at K
    rw [hq] at q1
    obtain ⟨hg, hr, hok⟩ := RM_q hm0 hq
    have K := K _ hm0
    have e1 := fun Q => r_busiest (d := d) (h := h) (Q := Q) hok.1 hok.2.1 hg.2.2.1 hr
    have e2 := fun Q => r_fullest (d := d) (h := h) (Q := Q) hok.1 hg.1 hr
    have e3 := fun Q => r_longest (d := d + 2) (h := h) (Q := Q) hok.1 hr
    have e4 := fun Q => r_wildest (d := d + 1) (h := h) (Q := Q) hok.1 hok.2.1 hg.2.2.1 hr
    simp (maxSteps := 2000000) (disch := omega) only [u_268_0, u_268_1, u_268_2, u_268_5, u_268_6, u_268_9, u_268_12, u_268_13, u_268_14, u_268_15, u_268_44, u_268_45, u_268_48, u_268_49, u_268_50, u_268_53, u_268_54, u_268_55, u_268_58, u_268_59, u_268_60, u_268_63, u_268_64, u_268_65, gI0, gIs, gR0, gRs, gF0, gFs, st0, st_i, st_r, st_f, st_n, st_s, true_and, and_true, ↓ifLeT, ↓ifLeF, ↓ifLtT, ↓ifLtF, ↓ifEqT, ↓ifEqF, if_tt, if_ff, if_pos, if_neg, nLe, nLt, nEq, nInT, nCl, pk_mul, nI_add, Nat.reduceAdd, s_cat_nil, s_cat_i, s_cat_r, s_cat_f, s_cat_l, tl_s, tl_n, cat_i, cat_r, cat_f, nb0, nb1, nbI, if_bI, if_bIr, Nat.zero_le, Nat.reduceLeDiff, M_ob, M_g0, M_g1, M_g2, M_g3, M_g4, M_g5, M_g6, M_g7, M_g8, M_g9, M_g10, M_g11, M_g12, M_g13, M_g14, M_g15, M_g16, M_g17, M_g18, M_g19, M_g20, M_g21, M_g22, M_g23, M_g24, M_g25, M_g26, M_g27, M_g28, M_g29, M_g30, M_g31, M_g32, M_g33, M_g34, M_g35, M_g36, M_g37, M_g38, M_g39, M_g40, M_g41, M_s0, kI_xI, kI_xB, kI_xA, kI_xV, kB_xI, kB_xB, kB_xA, kB_xV, kA_xI, kA_xB, kA_xA, kA_xV, kV_xI, kV_xB, kV_xA, kV_xV, Nat.reduceEqDiff, reduceIte, q1, Option.isSome, iBt, nI10, swt_c, swt_n, e1, e2, e3, e4]
    exact (iff_ite (P := fun v => Q (some (.int v)) (pM (xI m 0 (nI 0)) h)) (fun _ => Iff.rfl) fun _ => iff_ite (P := fun v => Q (some (.int v)) (pM (xI m 0 (nI 0)) h)) (fun _ => Iff.rfl) fun _ => iff_ite (P := fun v => Q (some (.int v)) (pM (xI m 0 (nI 0)) h)) (fun _ => Iff.rfl) fun _ => iff_ite (P := fun v => Q (some (.int v)) (pM (xI m 0 (nI 0)) h)) (fun _ => Iff.rfl) fun _ => Iff.rfl).mpr K
end MO
