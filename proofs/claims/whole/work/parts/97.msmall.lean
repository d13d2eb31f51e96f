/-! the reference's calls that look -/
section ML
variable {b d : Nat} {m : tM} {h : sH} {i x y w c t v : Int32} {Q : sQ} {n : tN} {z : tQ} {k : sK}
theorem z_thrown : MT (d + 1) 144 [.ref 317] (pM m h) Q ↔ Q (some (.int (kI m 0))) (pM m h) := by
  rw [MT_go (by decide) _ _ _ (Nat.le_of_ble_eq_true rfl), show s_entry 144 [.ref 317] = [.ref 317] from rfl]
  simp (disch := omega) only [u_144_0, u_144_1, u_144_4, gI0, gIs, gR0, gRs, gF0, gFs, st0, st_i, st_r, st_f, st_n, st_s, true_and, and_true, ↓ifLeT, ↓ifLeF, ↓ifLtT, ↓ifLtF, ↓ifEqT, ↓ifEqF, if_tt, if_ff, if_pos, if_neg, nLe, nLt, nEq, nInT, nCl, pk_mul, nI_add, Nat.reduceAdd, s_cat_nil, s_cat_i, s_cat_r, s_cat_f, s_cat_l, tl_s, tl_n, cat_i, cat_r, cat_f, nb0, nb1, nbI, if_bI, if_bIr, Nat.zero_le, Nat.reduceLeDiff, M_ob, M_g0, M_g1, M_g2, M_g3, M_g4, M_g5, M_g6, M_g7, M_g8, M_g9, M_g10, M_g11, M_g12, M_g13, M_g14, M_g15, M_g16, M_g17, M_g18, M_g19, M_g20, M_g21, M_g22, M_g23, M_g24, M_g25, M_g26, M_g27, M_g28, M_g29, M_g30, M_g31, M_g32, M_g33, M_g34, M_g35, M_g36, M_g37, M_g38, M_g39, M_g40, M_g41]
theorem z_status (hm : RM m z) (K : ∀ m', RM m' z → Q (some (.int (zstatus z w))) (pM m' h)) : MT (d + 2) 178 [.ref 317, .int w] (pM m h) Q := by
  rw [MT_go (by decide) _ _ _ (Nat.le_of_ble_eq_true rfl), show s_entry 178 [.ref 317, .int w] = [.ref 317, .int w] from rfl]
  have hm0 := RM_0 (x := nI 0) hm
  unfold zstatus at K
  cases h1 : ixN w 4 with
  | none =>
    simp only [h1] at K
    simp (disch := omega) only [u_178_0, u_178_1, u_178_2, u_178_5, u_178_6, u_178_7, u_178_8, u_178_11, u_178_14, u_178_17, u_178_18, u_178_21, u_178_22, u_178_23, u_178_26, u_178_27, gI0, gIs, gR0, gRs, gF0, gFs, st0, st_i, st_r, st_f, st_n, st_s, true_and, and_true, ↓ifLeT, ↓ifLeF, ↓ifLtT, ↓ifLtF, ↓ifEqT, ↓ifEqF, if_tt, if_ff, if_pos, if_neg, nLe, nLt, nEq, nInT, nCl, pk_mul, nI_add, Nat.reduceAdd, s_cat_nil, s_cat_i, s_cat_r, s_cat_f, s_cat_l, tl_s, tl_n, cat_i, cat_r, cat_f, nb0, nb1, nbI, if_bI, if_bIr, Nat.zero_le, Nat.reduceLeDiff, M_ob, M_g0, M_g1, M_g2, M_g3, M_g4, M_g5, M_g6, M_g7, M_g8, M_g9, M_g10, M_g11, M_g12, M_g13, M_g14, M_g15, M_g16, M_g17, M_g18, M_g19, M_g20, M_g21, M_g22, M_g23, M_g24, M_g25, M_g26, M_g27, M_g28, M_g29, M_g30, M_g31, M_g32, M_g33, M_g34, M_g35, M_g36, M_g37, M_g38, M_g39, M_g40, M_g41, M_s0, in4, h1, Option.isSome, iBf]
    exact K _ hm0
  | some j =>
    simp only [h1] at K
    obtain ⟨j1, rfl⟩ := ix_some (by omega) h1
    have i4 : vp_in (nI j) 4 := (nIn (by omega)).mpr (by omega)
    have hr := hm0.2.2.2.2 j j1
    simp (disch := omega) only [u_178_0, u_178_1, u_178_2, u_178_5, u_178_6, u_178_7, u_178_8, u_178_11, u_178_14, u_178_17, u_178_18, u_178_21, u_178_22, u_178_23, u_178_26, u_178_27, gI0, gIs, gR0, gRs, gF0, gFs, st0, st_i, st_r, st_f, st_n, st_s, true_and, and_true, ↓ifLeT, ↓ifLeF, ↓ifLtT, ↓ifLtF, ↓ifEqT, ↓ifEqF, if_tt, if_ff, if_pos, if_neg, nLe, nLt, nEq, nInT, nCl, pk_mul, nI_add, Nat.reduceAdd, s_cat_nil, s_cat_i, s_cat_r, s_cat_f, s_cat_l, tl_s, tl_n, cat_i, cat_r, cat_f, nb0, nb1, nbI, if_bI, if_bIr, Nat.zero_le, Nat.reduceLeDiff, M_ob, M_g0, M_g1, M_g2, M_g3, M_g4, M_g5, M_g6, M_g7, M_g8, M_g9, M_g10, M_g11, M_g12, M_g13, M_g14, M_g15, M_g16, M_g17, M_g18, M_g19, M_g20, M_g21, M_g22, M_g23, M_g24, M_g25, M_g26, M_g27, M_g28, M_g29, M_g30, M_g31, M_g32, M_g33, M_g34, M_g35, M_g36, M_g37, M_g38, M_g39, M_g40, M_g41, M_s0, in4, h1, Option.isSome, iBt, nI10, reduceIte, M_a326, i4, hr]
    exact K _ hm0
theorem z_count (hm : RM m z) (K : ∀ m', RM m' z → Q (some (.int (zcount z w))) (pM m' h)) : MT (d + 1) 269 [.ref 317, .int w] (pM m h) Q := by
  rw [MT_go (by decide) _ _ _ (Nat.le_of_ble_eq_true rfl), show s_entry 269 [.ref 317, .int w] = [.ref 317, .int w] from rfl]
  have hm0 := RM_0 (x := nI 0) hm
  have t1 := hm0.1.1
  have a1 := hm0.2.2.1.1
  unfold zcount at K
  by_cases e0 : w = nI 0
  · simp only [if_pos e0] at K
    simp (disch := omega) only [u_269_0, u_269_1, u_269_2, u_269_5, u_269_6, u_269_9, u_269_10, u_269_13, u_269_16, u_269_17, u_269_18, u_269_21, u_269_22, u_269_25, u_269_28, u_269_29, gI0, gIs, gR0, gRs, gF0, gFs, st0, st_i, st_r, st_f, st_n, st_s, true_and, and_true, ↓ifLeT, ↓ifLeF, ↓ifLtT, ↓ifLtF, ↓ifEqT, ↓ifEqF, if_tt, if_ff, if_pos, if_neg, nLe, nLt, nEq, nInT, nCl, pk_mul, nI_add, Nat.reduceAdd, s_cat_nil, s_cat_i, s_cat_r, s_cat_f, s_cat_l, tl_s, tl_n, cat_i, cat_r, cat_f, nb0, nb1, nbI, if_bI, if_bIr, Nat.zero_le, Nat.reduceLeDiff, M_ob, M_g0, M_g1, M_g2, M_g3, M_g4, M_g5, M_g6, M_g7, M_g8, M_g9, M_g10, M_g11, M_g12, M_g13, M_g14, M_g15, M_g16, M_g17, M_g18, M_g19, M_g20, M_g21, M_g22, M_g23, M_g24, M_g25, M_g26, M_g27, M_g28, M_g29, M_g30, M_g31, M_g32, M_g33, M_g34, M_g35, M_g36, M_g37, M_g38, M_g39, M_g40, M_g41, M_s0, e0, t1]
    exact K _ hm0
  · simp only [if_neg e0] at K
    by_cases e1 : w = nI 1
    · simp only [if_pos e1] at K
      simp (disch := omega) only [u_269_0, u_269_1, u_269_2, u_269_5, u_269_6, u_269_9, u_269_10, u_269_13, u_269_16, u_269_17, u_269_18, u_269_21, u_269_22, u_269_25, u_269_28, u_269_29, gI0, gIs, gR0, gRs, gF0, gFs, st0, st_i, st_r, st_f, st_n, st_s, true_and, and_true, ↓ifLeT, ↓ifLeF, ↓ifLtT, ↓ifLtF, ↓ifEqT, ↓ifEqF, if_tt, if_ff, if_pos, if_neg, nLe, nLt, nEq, nInT, nCl, pk_mul, nI_add, Nat.reduceAdd, s_cat_nil, s_cat_i, s_cat_r, s_cat_f, s_cat_l, tl_s, tl_n, cat_i, cat_r, cat_f, nb0, nb1, nbI, if_bI, if_bIr, Nat.zero_le, Nat.reduceLeDiff, M_ob, M_g0, M_g1, M_g2, M_g3, M_g4, M_g5, M_g6, M_g7, M_g8, M_g9, M_g10, M_g11, M_g12, M_g13, M_g14, M_g15, M_g16, M_g17, M_g18, M_g19, M_g20, M_g21, M_g22, M_g23, M_g24, M_g25, M_g26, M_g27, M_g28, M_g29, M_g30, M_g31, M_g32, M_g33, M_g34, M_g35, M_g36, M_g37, M_g38, M_g39, M_g40, M_g41, M_s0, e0, e1, a1, nI10, reduceIte]
      exact K _ hm0
    · simp only [if_neg e1] at K
      simp (disch := omega) only [u_269_0, u_269_1, u_269_2, u_269_5, u_269_6, u_269_9, u_269_10, u_269_13, u_269_16, u_269_17, u_269_18, u_269_21, u_269_22, u_269_25, u_269_28, u_269_29, gI0, gIs, gR0, gRs, gF0, gFs, st0, st_i, st_r, st_f, st_n, st_s, true_and, and_true, ↓ifLeT, ↓ifLeF, ↓ifLtT, ↓ifLtF, ↓ifEqT, ↓ifEqF, if_tt, if_ff, if_pos, if_neg, nLe, nLt, nEq, nInT, nCl, pk_mul, nI_add, Nat.reduceAdd, s_cat_nil, s_cat_i, s_cat_r, s_cat_f, s_cat_l, tl_s, tl_n, cat_i, cat_r, cat_f, nb0, nb1, nbI, if_bI, if_bIr, Nat.zero_le, Nat.reduceLeDiff, M_ob, M_g0, M_g1, M_g2, M_g3, M_g4, M_g5, M_g6, M_g7, M_g8, M_g9, M_g10, M_g11, M_g12, M_g13, M_g14, M_g15, M_g16, M_g17, M_g18, M_g19, M_g20, M_g21, M_g22, M_g23, M_g24, M_g25, M_g26, M_g27, M_g28, M_g29, M_g30, M_g31, M_g32, M_g33, M_g34, M_g35, M_g36, M_g37, M_g38, M_g39, M_g40, M_g41, M_s0, e0, e1, reduceIte]
      exact K _ hm0
theorem hold_C {t : Nat} (hn : wfN n) : holdN (nL n) t = (List.range' 0 (nF n 2)).find? fun c => decide (t ∈ nL n c) := by
  have h4 := hn.1.1
  unfold holdN
  rw [List.range_eq_range', show 4 = nF n 2 + (4 - nF n 2) by omega, ← List.range'_append_1, List.find?_append]
  have : (List.range' (0 + nF n 2) (4 - nF n 2)).find? (fun c => decide (t ∈ nL n c)) = none := by
    rw [List.find?_eq_none]
    intro c hc
    rw [List.mem_range'_1] at hc
    rw [hn.2.2.2.1 c (by omega)]
    simp
  rw [this, Option.or_none]
theorem told_in {c t : Nat} (hn : wfN n) (hr : RR (kA m 320) n) (hc : c < nF n 2) (ht : t < 31) (A : t ∈ nL n c → Q (some (.int (nI c))) (pM m h)) (B : ¬ t ∈ nL n c → WP (d + 1) 207 50 [.ref 317, .int (nI t), .int (nI c), .int (nI (nL n c).length)] [] (pM m h) (0, 0) Q) : ∀ q k, k + q = (nL n c).length → (∀ j, j < k → (nL n c).getD j 0 ≠ t) → WP (d + 1) 207 12 [.ref 317, .int (nI t), .int (nI c), .int (nI k)] [] (pM m h) (0, 0) Q := by
  have h4 := hn.1.1
  have h8 := hn.1.2.1
  obtain ⟨-, -, -, a4, a5⟩ := hr.2.2.1 c hc
  have l8 := wfL_len hn.1 hn.2.2.2 c
  intro q
  induction q with
  | zero =>
    intro k hk hno
    have e : k = (nL n c).length := by omega
    subst e
    rw [u_207_12]
    simp (disch := omega) only [u_207_0, u_207_1, u_207_3, u_207_4, u_207_7, u_207_10, u_207_11, u_207_13, u_207_14, u_207_17, u_207_18, u_207_19, u_207_22, u_207_23, u_207_26, u_207_27, u_207_30, u_207_31, u_207_32, u_207_33, u_207_34, u_207_37, u_207_38, u_207_39, u_207_42, u_207_43, u_207_44, u_207_47, u_207_53, u_207_56, u_207_57, gI0, gIs, gR0, gRs, gF0, gFs, st0, st_i, st_r, st_f, st_n, st_s, true_and, and_true, ↓ifLeT, ↓ifLeF, ↓ifLtT, ↓ifLtF, ↓ifEqT, ↓ifEqF, if_tt, if_ff, if_pos, if_neg, nLe, nLt, nEq, nInT, nCl, pk_mul, nI_add, Nat.reduceAdd, s_cat_nil, s_cat_i, s_cat_r, s_cat_f, s_cat_l, tl_s, tl_n, cat_i, cat_r, cat_f, nb0, nb1, nbI, if_bI, if_bIr, Nat.zero_le, Nat.reduceLeDiff, M_g0, M_g1, M_g2, M_g3, M_g4, M_g5, M_g6, M_g7, M_g8, M_g9, M_g10, M_g11, M_g12, M_g13, M_g14, M_g15, M_g16, M_g17, M_g18, M_g19, M_g20, M_g21, M_g22, M_g23, M_g24, M_g25, M_g26, M_g27, M_g28, M_g29, M_g30, M_g31, M_g32, M_g33, M_g34, M_g35, M_g36, M_g37, M_g38, M_g39, M_g40, M_g41, m_cAt, M_r rb320, a4]
    refine B fun hmem => ?_
    obtain ⟨j, hj, e⟩ := List.getElem_of_mem hmem
    exact hno j hj (by rw [getD_of hj]; exact e)
  | succ q ih =>
    intro k hk hno
    have hk' : k < (nL n c).length := by omega
    have e := a5 k hk'
    have ht2 := (hn.2.2.2.2.1 c).2 _ (getD_mem hk')
    rw [u_207_12]
    by_cases g : (nL n c).getD k 0 = t
    · rw [g] at e
      simp (disch := omega) only [u_207_0, u_207_1, u_207_3, u_207_4, u_207_7, u_207_10, u_207_11, u_207_13, u_207_14, u_207_17, u_207_18, u_207_19, u_207_22, u_207_23, u_207_26, u_207_27, u_207_30, u_207_31, u_207_32, u_207_33, u_207_34, u_207_37, u_207_38, u_207_39, u_207_42, u_207_43, u_207_44, u_207_47, u_207_53, u_207_56, u_207_57, gI0, gIs, gR0, gRs, gF0, gFs, st0, st_i, st_r, st_f, st_n, st_s, true_and, and_true, ↓ifLeT, ↓ifLeF, ↓ifLtT, ↓ifLtF, ↓ifEqT, ↓ifEqF, if_tt, if_ff, if_pos, if_neg, nLe, nLt, nEq, nInT, nCl, pk_mul, nI_add, Nat.reduceAdd, s_cat_nil, s_cat_i, s_cat_r, s_cat_f, s_cat_l, tl_s, tl_n, cat_i, cat_r, cat_f, nb0, nb1, nbI, if_bI, if_bIr, Nat.zero_le, Nat.reduceLeDiff, M_g0, M_g1, M_g2, M_g3, M_g4, M_g5, M_g6, M_g7, M_g8, M_g9, M_g10, M_g11, M_g12, M_g13, M_g14, M_g15, M_g16, M_g17, M_g18, M_g19, M_g20, M_g21, M_g22, M_g23, M_g24, M_g25, M_g26, M_g27, M_g28, M_g29, M_g30, M_g31, M_g32, M_g33, M_g34, M_g35, M_g36, M_g37, M_g38, M_g39, M_g40, M_g41, m_cAt, M_r rb320, a4, e]
      exact A (by rw [← g]; exact getD_mem hk')
    · have ne : ¬ nI ((nL n c).getD k 0) = nI t := fun q => g ((nI_eq (by omega) (by omega)).mp q)
      simp (disch := omega) only [u_207_0, u_207_1, u_207_3, u_207_4, u_207_7, u_207_10, u_207_11, u_207_13, u_207_14, u_207_17, u_207_18, u_207_19, u_207_22, u_207_23, u_207_26, u_207_27, u_207_30, u_207_31, u_207_32, u_207_33, u_207_34, u_207_37, u_207_38, u_207_39, u_207_42, u_207_43, u_207_44, u_207_47, u_207_53, u_207_56, u_207_57, gI0, gIs, gR0, gRs, gF0, gFs, st0, st_i, st_r, st_f, st_n, st_s, true_and, and_true, ↓ifLeT, ↓ifLeF, ↓ifLtT, ↓ifLtF, ↓ifEqT, ↓ifEqF, if_tt, if_ff, if_pos, if_neg, nLe, nLt, nEq, nInT, nCl, pk_mul, nI_add, Nat.reduceAdd, s_cat_nil, s_cat_i, s_cat_r, s_cat_f, s_cat_l, tl_s, tl_n, cat_i, cat_r, cat_f, nb0, nb1, nbI, if_bI, if_bIr, Nat.zero_le, Nat.reduceLeDiff, M_g0, M_g1, M_g2, M_g3, M_g4, M_g5, M_g6, M_g7, M_g8, M_g9, M_g10, M_g11, M_g12, M_g13, M_g14, M_g15, M_g16, M_g17, M_g18, M_g19, M_g20, M_g21, M_g22, M_g23, M_g24, M_g25, M_g26, M_g27, M_g28, M_g29, M_g30, M_g31, M_g32, M_g33, M_g34, M_g35, M_g36, M_g37, M_g38, M_g39, M_g40, M_g41, m_cAt, M_r rb320, a4, e, ne]
      refine ih (k + 1) (by omega) fun j hj => ?_
      by_cases e : j = k
      · rw [e]; exact g
      · exact hno j (by omega)
theorem z_toldBy {t : Nat} (hn : wfN n) (h10 : kI m 10 = nI (nF n 2)) (hr : RR (kA m 320) n) (ht : t < 31) (K : Q (some (.int (oI1 (holdN (nL n) t)))) (pM m h)) : MT (d + 2) 207 [.ref 317, .int (nI t)] (pM m h) Q := by
  have h4 := hn.1.1
  rw [MT_go (by decide) _ _ _ (Nat.le_of_ble_eq_true rfl), show s_entry 207 [.ref 317, .int (nI t)] = [.ref 317, .int (nI t), s_no, s_no] from rfl]
  rw [hold_C hn] at K
  have lp : ∀ q k v, k + q = nF n 2 → (Q (some (.int (oI1 ((List.range' k q).find? fun c => decide (t ∈ nL n c))))) (pM m h)) → WP (d + 1) 207 2 [.ref 317, .int (nI t), .int (nI k), v] [] (pM m h) (0, 0) Q := by
    intro q
    induction q with
    | zero =>
      intro k v hk K
      have e : k = nF n 2 := by omega
      subst e
      rw [u_207_2]
      simp (disch := omega) only [u_207_0, u_207_1, u_207_3, u_207_4, u_207_7, u_207_10, u_207_11, u_207_13, u_207_14, u_207_17, u_207_18, u_207_19, u_207_22, u_207_23, u_207_26, u_207_27, u_207_30, u_207_31, u_207_32, u_207_33, u_207_34, u_207_37, u_207_38, u_207_39, u_207_42, u_207_43, u_207_44, u_207_47, u_207_50, u_207_53, u_207_56, u_207_57, gI0, gIs, gR0, gRs, gF0, gFs, st0, st_i, st_r, st_f, st_n, st_s, true_and, and_true, ↓ifLeT, ↓ifLeF, ↓ifLtT, ↓ifLtF, ↓ifEqT, ↓ifEqF, if_tt, if_ff, if_pos, if_neg, nLe, nLt, nEq, nInT, nCl, pk_mul, nI_add, Nat.reduceAdd, s_cat_nil, s_cat_i, s_cat_r, s_cat_f, s_cat_l, tl_s, tl_n, cat_i, cat_r, cat_f, nb0, nb1, nbI, if_bI, if_bIr, Nat.zero_le, Nat.reduceLeDiff, M_g0, M_g1, M_g2, M_g3, M_g4, M_g5, M_g6, M_g7, M_g8, M_g9, M_g10, M_g11, M_g12, M_g13, M_g14, M_g15, M_g16, M_g17, M_g18, M_g19, M_g20, M_g21, M_g22, M_g23, M_g24, M_g25, M_g26, M_g27, M_g28, M_g29, M_g30, M_g31, M_g32, M_g33, M_g34, M_g35, M_g36, M_g37, M_g38, M_g39, M_g40, M_g41, h10]
      exact K
    | succ q ih =>
      intro k v hk K
      rw [List.range'_succ, List.find?_cons] at K
      rw [u_207_2]
      simp (disch := omega) only [u_207_0, u_207_1, u_207_3, u_207_4, u_207_7, u_207_10, u_207_11, u_207_13, u_207_14, u_207_17, u_207_18, u_207_19, u_207_22, u_207_23, u_207_26, u_207_27, u_207_30, u_207_31, u_207_32, u_207_33, u_207_34, u_207_37, u_207_38, u_207_39, u_207_42, u_207_43, u_207_44, u_207_47, u_207_50, u_207_53, u_207_56, u_207_57, gI0, gIs, gR0, gRs, gF0, gFs, st0, st_i, st_r, st_f, st_n, st_s, true_and, and_true, ↓ifLeT, ↓ifLeF, ↓ifLtT, ↓ifLtF, ↓ifEqT, ↓ifEqF, if_tt, if_ff, if_pos, if_neg, nLe, nLt, nEq, nInT, nCl, pk_mul, nI_add, Nat.reduceAdd, s_cat_nil, s_cat_i, s_cat_r, s_cat_f, s_cat_l, tl_s, tl_n, cat_i, cat_r, cat_f, nb0, nb1, nbI, if_bI, if_bIr, Nat.zero_le, Nat.reduceLeDiff, M_g0, M_g1, M_g2, M_g3, M_g4, M_g5, M_g6, M_g7, M_g8, M_g9, M_g10, M_g11, M_g12, M_g13, M_g14, M_g15, M_g16, M_g17, M_g18, M_g19, M_g20, M_g21, M_g22, M_g23, M_g24, M_g25, M_g26, M_g27, M_g28, M_g29, M_g30, M_g31, M_g32, M_g33, M_g34, M_g35, M_g36, M_g37, M_g38, M_g39, M_g40, M_g41, h10]
      refine told_in (d := d) hn hr (by omega) ht (fun hm => ?_) (fun hm => ?_) (nL n k).length 0 (Nat.zero_add _) (fun j hj => absurd hj (Nat.not_lt_zero j))
      · simp only [decide_eq_true hm] at K
        exact K
      · simp only [decide_eq_false hm] at K
        simp (disch := omega) only [u_207_0, u_207_1, u_207_3, u_207_4, u_207_7, u_207_10, u_207_11, u_207_13, u_207_14, u_207_17, u_207_18, u_207_19, u_207_22, u_207_23, u_207_26, u_207_27, u_207_30, u_207_31, u_207_32, u_207_33, u_207_34, u_207_37, u_207_38, u_207_39, u_207_42, u_207_43, u_207_44, u_207_47, u_207_50, u_207_53, u_207_56, u_207_57, gI0, gIs, gR0, gRs, gF0, gFs, st0, st_i, st_r, st_f, st_n, st_s, true_and, and_true, ↓ifLeT, ↓ifLeF, ↓ifLtT, ↓ifLtF, ↓ifEqT, ↓ifEqF, if_tt, if_ff, if_pos, if_neg, nLe, nLt, nEq, nInT, nCl, pk_mul, nI_add, Nat.reduceAdd, s_cat_nil, s_cat_i, s_cat_r, s_cat_f, s_cat_l, tl_s, tl_n, cat_i, cat_r, cat_f, nb0, nb1, nbI, if_bI, if_bIr, Nat.zero_le, Nat.reduceLeDiff]
        exact ih (k + 1) _ (by omega) K
  have := lp (nF n 2) 0 s_no (Nat.zero_add _) K
  simp (disch := omega) only [u_207_0, u_207_1, u_207_3, u_207_4, u_207_7, u_207_10, u_207_11, u_207_13, u_207_14, u_207_17, u_207_18, u_207_19, u_207_22, u_207_23, u_207_26, u_207_27, u_207_30, u_207_31, u_207_32, u_207_33, u_207_34, u_207_37, u_207_38, u_207_39, u_207_42, u_207_43, u_207_44, u_207_47, u_207_50, u_207_53, u_207_56, u_207_57, gI0, gIs, gR0, gRs, gF0, gFs, st0, st_i, st_r, st_f, st_n, st_s, true_and, and_true, ↓ifLeT, ↓ifLeF, ↓ifLtT, ↓ifLtF, ↓ifEqT, ↓ifEqF, if_tt, if_ff, if_pos, if_neg, nLe, nLt, nEq, nInT, nCl, pk_mul, nI_add, Nat.reduceAdd, s_cat_nil, s_cat_i, s_cat_r, s_cat_f, s_cat_l, tl_s, tl_n, cat_i, cat_r, cat_f, nb0, nb1, nbI, if_bI, if_bIr, Nat.zero_le, Nat.reduceLeDiff]
  exact this
theorem z_leftSet (hn : wfN n) (hr : RR (kA m 320) n) : MT (d + 3) 204 [.ref 317] (pM m h) Q ↔ Q (some (.int (nI (bitsN (fun t => !nDone n t) (nF n 3))))) (pM m h) := by
  have h8 := hn.1.2.1
  have r1 := hr.2.1
  have c1 : (nI 1).toNatClampNeg = 1 := rfl
  rw [MT_go (by decide) _ _ _ (Nat.le_of_ble_eq_true rfl), show s_entry 204 [.ref 317] = [.ref 317, s_no, s_no] from rfl]
  have lp : ∀ q k, k + q = nF n 3 → (WP (d + 2) 204 4 [.ref 317, .int (nI (bitsN (fun t => !nDone n t) k)), .int (nI k)] [] (pM m h) (0, 0) Q ↔ Q (some (.int (nI (bitsN (fun t => !nDone n t) (nF n 3))))) (pM m h)) := by
    intro q
    induction q with
    | zero =>
      intro k hk
      have e : k = nF n 3 := by omega
      subst e
      rw [u_204_4]
      simp (disch := omega) only [u_204_0, u_204_1, u_204_2, u_204_3, u_204_5, u_204_6, u_204_9, u_204_10, u_204_11, u_204_14, u_204_15, u_204_16, u_204_17, u_204_20, u_204_21, u_204_24, u_204_27, u_204_28, u_204_29, u_204_30, u_204_33, u_204_34, u_204_35, u_204_36, u_204_39, u_204_42, u_204_43, gI0, gIs, gR0, gRs, gF0, gFs, st0, st_i, st_r, st_f, st_n, st_s, true_and, and_true, ↓ifLeT, ↓ifLeF, ↓ifLtT, ↓ifLtF, ↓ifEqT, ↓ifEqF, if_tt, if_ff, if_pos, if_neg, nLe, nLt, nEq, nInT, nCl, pk_mul, nI_add, Nat.reduceAdd, s_cat_nil, s_cat_i, s_cat_r, s_cat_f, s_cat_l, tl_s, tl_n, cat_i, cat_r, cat_f, nb0, nb1, nbI, if_bI, if_bIr, Nat.zero_le, Nat.reduceLeDiff, M_g0, M_g1, M_g2, M_g3, M_g4, M_g5, M_g6, M_g7, M_g8, M_g9, M_g10, M_g11, M_g12, M_g13, M_g14, M_g15, M_g16, M_g17, M_g18, M_g19, M_g20, M_g21, M_g22, M_g23, M_g24, M_g25, M_g26, M_g27, M_g28, M_g29, M_g30, M_g31, M_g32, M_g33, M_g34, M_g35, M_g36, M_g37, M_g38, M_g39, M_g40, M_g41, M_r rb320, c1, r1]
    | succ q ih =>
      intro k hk
      have ih := ih (k + 1) (by omega)
      have e1 := fun Q => r_left (d := d) (h := h) (Q := Q) (t := k) rb320 hn hr (by omega)
      have s1 := i_shl1 (c := k) (by omega)
      rw [bitsN] at ih
      rw [u_204_4]
      cases hd : (!nDone n k) with
      | true =>
        rw [hd] at e1 ih
        simp (disch := omega) only [u_204_0, u_204_1, u_204_2, u_204_3, u_204_5, u_204_6, u_204_9, u_204_10, u_204_11, u_204_14, u_204_15, u_204_16, u_204_17, u_204_20, u_204_21, u_204_24, u_204_27, u_204_28, u_204_29, u_204_30, u_204_33, u_204_34, u_204_35, u_204_36, u_204_39, u_204_42, u_204_43, gI0, gIs, gR0, gRs, gF0, gFs, st0, st_i, st_r, st_f, st_n, st_s, true_and, and_true, ↓ifLeT, ↓ifLeF, ↓ifLtT, ↓ifLtF, ↓ifEqT, ↓ifEqF, if_tt, if_ff, if_pos, if_neg, nLe, nLt, nEq, nInT, nCl, pk_mul, nI_add, Nat.reduceAdd, s_cat_nil, s_cat_i, s_cat_r, s_cat_f, s_cat_l, tl_s, tl_n, cat_i, cat_r, cat_f, nb0, nb1, nbI, if_bI, if_bIr, Nat.zero_le, Nat.reduceLeDiff, M_ob, M_g0, M_g1, M_g2, M_g3, M_g4, M_g5, M_g6, M_g7, M_g8, M_g9, M_g10, M_g11, M_g12, M_g13, M_g14, M_g15, M_g16, M_g17, M_g18, M_g19, M_g20, M_g21, M_g22, M_g23, M_g24, M_g25, M_g26, M_g27, M_g28, M_g29, M_g30, M_g31, M_g32, M_g33, M_g34, M_g35, M_g36, M_g37, M_g38, M_g39, M_g40, M_g41, M_r rb320, c1, r1, e1, iBt, nI10, reduceIte, s1, fa_or]
        exact ih
      | false =>
        rw [hd] at e1 ih
        simp (disch := omega) only [u_204_0, u_204_1, u_204_2, u_204_3, u_204_5, u_204_6, u_204_9, u_204_10, u_204_11, u_204_14, u_204_15, u_204_16, u_204_17, u_204_20, u_204_21, u_204_24, u_204_27, u_204_28, u_204_29, u_204_30, u_204_33, u_204_34, u_204_35, u_204_36, u_204_39, u_204_42, u_204_43, gI0, gIs, gR0, gRs, gF0, gFs, st0, st_i, st_r, st_f, st_n, st_s, true_and, and_true, ↓ifLeT, ↓ifLeF, ↓ifLtT, ↓ifLtF, ↓ifEqT, ↓ifEqF, if_tt, if_ff, if_pos, if_neg, nLe, nLt, nEq, nInT, nCl, pk_mul, nI_add, Nat.reduceAdd, s_cat_nil, s_cat_i, s_cat_r, s_cat_f, s_cat_l, tl_s, tl_n, cat_i, cat_r, cat_f, nb0, nb1, nbI, if_bI, if_bIr, Nat.zero_le, Nat.reduceLeDiff, M_ob, M_g0, M_g1, M_g2, M_g3, M_g4, M_g5, M_g6, M_g7, M_g8, M_g9, M_g10, M_g11, M_g12, M_g13, M_g14, M_g15, M_g16, M_g17, M_g18, M_g19, M_g20, M_g21, M_g22, M_g23, M_g24, M_g25, M_g26, M_g27, M_g28, M_g29, M_g30, M_g31, M_g32, M_g33, M_g34, M_g35, M_g36, M_g37, M_g38, M_g39, M_g40, M_g41, M_r rb320, c1, r1, e1, iBf, fa_or]
        exact ih
  have := lp (nF n 3) 0 (Nat.zero_add _)
  simp (disch := omega) only [u_204_0, u_204_1, u_204_2, u_204_3, u_204_5, u_204_6, u_204_9, u_204_10, u_204_11, u_204_14, u_204_15, u_204_16, u_204_17, u_204_20, u_204_21, u_204_24, u_204_27, u_204_28, u_204_29, u_204_30, u_204_33, u_204_34, u_204_35, u_204_36, u_204_39, u_204_42, u_204_43, gI0, gIs, gR0, gRs, gF0, gFs, st0, st_i, st_r, st_f, st_n, st_s, true_and, and_true, ↓ifLeT, ↓ifLeF, ↓ifLtT, ↓ifLtF, ↓ifEqT, ↓ifEqF, if_tt, if_ff, if_pos, if_neg, nLe, nLt, nEq, nInT, nCl, pk_mul, nI_add, Nat.reduceAdd, s_cat_nil, s_cat_i, s_cat_r, s_cat_f, s_cat_l, tl_s, tl_n, cat_i, cat_r, cat_f, nb0, nb1, nbI, if_bI, if_bIr, Nat.zero_le, Nat.reduceLeDiff]
  exact this
theorem shl_0 : ∀ c, c < 4 → nI 0 <<< (nI c &&& 31) = nI 0 := by decide +kernel
theorem z_brokenSet (hn : wfN n) (h10 : kI m 10 = nI (nF n 2)) (hr : RR (kA m 320) n) : MT (d + 2) 199 [.ref 317] (pM m h) Q ↔ Q (some (.int (nI (bitsN (nK n) (nF n 2))))) (pM m h) := by
  have h4 := hn.1.1
  rw [MT_go (by decide) _ _ _ (Nat.le_of_ble_eq_true rfl), show s_entry 199 [.ref 317] = [.ref 317, s_no, s_no] from rfl]
  have lp : ∀ q k, k + q = nF n 2 → (WP (d + 1) 199 4 [.ref 317, .int (nI (bitsN (nK n) k)), .int (nI k)] [] (pM m h) (0, 0) Q ↔ Q (some (.int (nI (bitsN (nK n) (nF n 2))))) (pM m h)) := by
    intro q
    induction q with
    | zero =>
      intro k hk
      have e : k = nF n 2 := by omega
      subst e
      rw [u_199_4]
      simp (disch := omega) only [u_199_0, u_199_1, u_199_2, u_199_3, u_199_5, u_199_6, u_199_9, u_199_12, u_199_13, u_199_14, u_199_17, u_199_18, u_199_19, u_199_22, u_199_23, u_199_24, u_199_25, u_199_26, u_199_27, u_199_30, u_199_33, u_199_34, gI0, gIs, gR0, gRs, gF0, gFs, st0, st_i, st_r, st_f, st_n, st_s, true_and, and_true, ↓ifLeT, ↓ifLeF, ↓ifLtT, ↓ifLtF, ↓ifEqT, ↓ifEqF, if_tt, if_ff, if_pos, if_neg, nLe, nLt, nEq, nInT, nCl, pk_mul, nI_add, Nat.reduceAdd, s_cat_nil, s_cat_i, s_cat_r, s_cat_f, s_cat_l, tl_s, tl_n, cat_i, cat_r, cat_f, nb0, nb1, nbI, if_bI, if_bIr, Nat.zero_le, Nat.reduceLeDiff, M_g0, M_g1, M_g2, M_g3, M_g4, M_g5, M_g6, M_g7, M_g8, M_g9, M_g10, M_g11, M_g12, M_g13, M_g14, M_g15, M_g16, M_g17, M_g18, M_g19, M_g20, M_g21, M_g22, M_g23, M_g24, M_g25, M_g26, M_g27, M_g28, M_g29, M_g30, M_g31, M_g32, M_g33, M_g34, M_g35, M_g36, M_g37, M_g38, M_g39, M_g40, M_g41, h10]
    | succ q ih =>
      intro k hk
      have ih := ih (k + 1) (by omega)
      have e1 := (hr.2.2.1 k (by omega)).2.1
      have s0 := shl_0 k (by omega)
      have s1 := i_shl1 (c := k) (by omega)
      rw [bitsN] at ih
      rw [u_199_4]
      cases hd : nK n k with
      | true =>
        rw [hd] at e1 ih
        have e1 : _ = nI 1 := e1
        simp (disch := omega) only [u_199_0, u_199_1, u_199_2, u_199_3, u_199_5, u_199_6, u_199_9, u_199_12, u_199_13, u_199_14, u_199_17, u_199_18, u_199_19, u_199_22, u_199_23, u_199_24, u_199_25, u_199_26, u_199_27, u_199_30, u_199_33, u_199_34, gI0, gIs, gR0, gRs, gF0, gFs, st0, st_i, st_r, st_f, st_n, st_s, true_and, and_true, ↓ifLeT, ↓ifLeF, ↓ifLtT, ↓ifLtF, ↓ifEqT, ↓ifEqF, if_tt, if_ff, if_pos, if_neg, nLe, nLt, nEq, nInT, nCl, pk_mul, nI_add, Nat.reduceAdd, s_cat_nil, s_cat_i, s_cat_r, s_cat_f, s_cat_l, tl_s, tl_n, cat_i, cat_r, cat_f, nb0, nb1, nbI, if_bI, if_bIr, Nat.zero_le, Nat.reduceLeDiff, M_g0, M_g1, M_g2, M_g3, M_g4, M_g5, M_g6, M_g7, M_g8, M_g9, M_g10, M_g11, M_g12, M_g13, M_g14, M_g15, M_g16, M_g17, M_g18, M_g19, M_g20, M_g21, M_g22, M_g23, M_g24, M_g25, M_g26, M_g27, M_g28, M_g29, M_g30, M_g31, M_g32, M_g33, M_g34, M_g35, M_g36, M_g37, M_g38, M_g39, M_g40, M_g41, M_r rb320, m_cAt, h10, e1, s1, fa_or]
        exact ih
      | false =>
        rw [hd] at e1 ih
        have e1 : _ = nI 0 := e1
        simp (disch := omega) only [u_199_0, u_199_1, u_199_2, u_199_3, u_199_5, u_199_6, u_199_9, u_199_12, u_199_13, u_199_14, u_199_17, u_199_18, u_199_19, u_199_22, u_199_23, u_199_24, u_199_25, u_199_26, u_199_27, u_199_30, u_199_33, u_199_34, gI0, gIs, gR0, gRs, gF0, gFs, st0, st_i, st_r, st_f, st_n, st_s, true_and, and_true, ↓ifLeT, ↓ifLeF, ↓ifLtT, ↓ifLtF, ↓ifEqT, ↓ifEqF, if_tt, if_ff, if_pos, if_neg, nLe, nLt, nEq, nInT, nCl, pk_mul, nI_add, Nat.reduceAdd, s_cat_nil, s_cat_i, s_cat_r, s_cat_f, s_cat_l, tl_s, tl_n, cat_i, cat_r, cat_f, nb0, nb1, nbI, if_bI, if_bIr, Nat.zero_le, Nat.reduceLeDiff, M_g0, M_g1, M_g2, M_g3, M_g4, M_g5, M_g6, M_g7, M_g8, M_g9, M_g10, M_g11, M_g12, M_g13, M_g14, M_g15, M_g16, M_g17, M_g18, M_g19, M_g20, M_g21, M_g22, M_g23, M_g24, M_g25, M_g26, M_g27, M_g28, M_g29, M_g30, M_g31, M_g32, M_g33, M_g34, M_g35, M_g36, M_g37, M_g38, M_g39, M_g40, M_g41, M_r rb320, m_cAt, h10, e1, s0, fa_or]
        exact ih
  have := lp (nF n 2) 0 (Nat.zero_add _)
  simp (disch := omega) only [u_199_0, u_199_1, u_199_2, u_199_3, u_199_5, u_199_6, u_199_9, u_199_12, u_199_13, u_199_14, u_199_17, u_199_18, u_199_19, u_199_22, u_199_23, u_199_24, u_199_25, u_199_26, u_199_27, u_199_30, u_199_33, u_199_34, gI0, gIs, gR0, gRs, gF0, gFs, st0, st_i, st_r, st_f, st_n, st_s, true_and, and_true, ↓ifLeT, ↓ifLeF, ↓ifLtT, ↓ifLtF, ↓ifEqT, ↓ifEqF, if_tt, if_ff, if_pos, if_neg, nLe, nLt, nEq, nInT, nCl, pk_mul, nI_add, Nat.reduceAdd, s_cat_nil, s_cat_i, s_cat_r, s_cat_f, s_cat_l, tl_s, tl_n, cat_i, cat_r, cat_f, nb0, nb1, nbI, if_bI, if_bIr, Nat.zero_le, Nat.reduceLeDiff]
  exact this
def orN (f : Nat → List Nat) : Nat → Nat
  | 0 => 0
  | k + 1 => orN f k ||| lbits (f k)
theorem orN_no {f : Nat → List Nat} {C : Nat} (hf : ∀ c, C ≤ c → f c = []) : ∀ q, orN f (C + q) = orN f C
  | 0 => rfl
  | q + 1 => by
    rw [show C + (q + 1) = C + q + 1 from rfl, orN, orN_no hf q, hf _ (by omega)]
    exact Nat.or_zero _
theorem orN_t (hn : wfN n) : orN (nL n) (nF n 2) = tbits (nL n) := by
  have h4 := hn.1.1
  have := orN_no (f := nL n) (C := nF n 2) hn.2.2.2.1 (4 - nF n 2)
  rw [show nF n 2 + (4 - nF n 2) = 4 by omega] at this
  rw [← this]
  show (((0 ||| _) ||| _) ||| _) ||| _ = _
  rw [Nat.zero_or]
  rfl
theorem set_in {c X : Nat} (hn : wfN n) (hr : RR (kA m 320) n) (hc : c < nF n 2) : ∀ q k X, k + q = (nL n c).length → (WP (d + 1) 205 51 [.ref 317, .int (nI (X ||| lbits ((nL n c).drop k))), .int (nI c), .int (nI (nL n c).length)] [] (pM m h) (0, 0) Q) → WP (d + 1) 205 14 [.ref 317, .int (nI X), .int (nI c), .int (nI k)] [] (pM m h) (0, 0) Q := by
  have h4 := hn.1.1
  have h8 := hn.1.2.1
  obtain ⟨-, -, -, a4, a5⟩ := hr.2.2.1 c hc
  have l8 := wfL_len hn.1 hn.2.2.2 c
  intro q
  induction q with
  | zero =>
    intro k X hk B
    have e : k = (nL n c).length := by omega
    subst e
    rw [List.drop_of_length_le (Nat.le_refl _)] at B
    rw [u_205_14]
    simp (disch := omega) only [u_205_0, u_205_1, u_205_2, u_205_3, u_205_5, u_205_6, u_205_9, u_205_12, u_205_13, u_205_15, u_205_16, u_205_19, u_205_20, u_205_21, u_205_24, u_205_25, u_205_28, u_205_29, u_205_30, u_205_31, u_205_34, u_205_35, u_205_36, u_205_37, u_205_38, u_205_41, u_205_42, u_205_43, u_205_44, u_205_45, u_205_48, u_205_54, u_205_57, u_205_58, gI0, gIs, gR0, gRs, gF0, gFs, st0, st_i, st_r, st_f, st_n, st_s, true_and, and_true, ↓ifLeT, ↓ifLeF, ↓ifLtT, ↓ifLtF, ↓ifEqT, ↓ifEqF, if_tt, if_ff, if_pos, if_neg, nLe, nLt, nEq, nInT, nCl, pk_mul, nI_add, Nat.reduceAdd, s_cat_nil, s_cat_i, s_cat_r, s_cat_f, s_cat_l, tl_s, tl_n, cat_i, cat_r, cat_f, nb0, nb1, nbI, if_bI, if_bIr, Nat.zero_le, Nat.reduceLeDiff, M_g0, M_g1, M_g2, M_g3, M_g4, M_g5, M_g6, M_g7, M_g8, M_g9, M_g10, M_g11, M_g12, M_g13, M_g14, M_g15, M_g16, M_g17, M_g18, M_g19, M_g20, M_g21, M_g22, M_g23, M_g24, M_g25, M_g26, M_g27, M_g28, M_g29, M_g30, M_g31, M_g32, M_g33, M_g34, M_g35, M_g36, M_g37, M_g38, M_g39, M_g40, M_g41, m_cAt, M_r rb320, a4]
    have e : X ||| lbits [] = X := Nat.or_zero X
    rw [e] at B
    exact B
  | succ q ih =>
    intro k X hk B
    have hk' : k < (nL n c).length := by omega
    have e := a5 k hk'
    have ht2 := (hn.2.2.2.2.1 c).2 _ (getD_mem hk')
    have s1 := i_shl1 (c := (nL n c).getD k 0) (by omega)
    rw [u_205_14]
    rw [List.drop_eq_getElem_cons hk', lbits, ← Nat.or_assoc, ← getD_of hk'] at B
    simp (disch := omega) only [u_205_0, u_205_1, u_205_2, u_205_3, u_205_5, u_205_6, u_205_9, u_205_12, u_205_13, u_205_15, u_205_16, u_205_19, u_205_20, u_205_21, u_205_24, u_205_25, u_205_28, u_205_29, u_205_30, u_205_31, u_205_34, u_205_35, u_205_36, u_205_37, u_205_38, u_205_41, u_205_42, u_205_43, u_205_44, u_205_45, u_205_48, u_205_54, u_205_57, u_205_58, gI0, gIs, gR0, gRs, gF0, gFs, st0, st_i, st_r, st_f, st_n, st_s, true_and, and_true, ↓ifLeT, ↓ifLeF, ↓ifLtT, ↓ifLtF, ↓ifEqT, ↓ifEqF, if_tt, if_ff, if_pos, if_neg, nLe, nLt, nEq, nInT, nCl, pk_mul, nI_add, Nat.reduceAdd, s_cat_nil, s_cat_i, s_cat_r, s_cat_f, s_cat_l, tl_s, tl_n, cat_i, cat_r, cat_f, nb0, nb1, nbI, if_bI, if_bIr, Nat.zero_le, Nat.reduceLeDiff, M_g0, M_g1, M_g2, M_g3, M_g4, M_g5, M_g6, M_g7, M_g8, M_g9, M_g10, M_g11, M_g12, M_g13, M_g14, M_g15, M_g16, M_g17, M_g18, M_g19, M_g20, M_g21, M_g22, M_g23, M_g24, M_g25, M_g26, M_g27, M_g28, M_g29, M_g30, M_g31, M_g32, M_g33, M_g34, M_g35, M_g36, M_g37, M_g38, M_g39, M_g40, M_g41, m_cAt, M_r rb320, a4, e, s1, fa_or]
    exact ih (k + 1) _ (by omega) B
theorem z_toldSet (hn : wfN n) (h10 : kI m 10 = nI (nF n 2)) (hr : RR (kA m 320) n) (K : Q (some (.int (nI (tbits (nL n))))) (pM m h)) : MT (d + 2) 205 [.ref 317] (pM m h) Q := by
  have h4 := hn.1.1
  rw [MT_go (by decide) _ _ _ (Nat.le_of_ble_eq_true rfl), show s_entry 205 [.ref 317] = [.ref 317, s_no, s_no, s_no] from rfl]
  rw [← orN_t hn] at K
  have lp : ∀ q k v, k + q = nF n 2 → WP (d + 1) 205 4 [.ref 317, .int (nI (orN (nL n) k)), .int (nI k), v] [] (pM m h) (0, 0) Q := by
    intro q
    induction q with
    | zero =>
      intro k v hk
      have e : k = nF n 2 := by omega
      subst e
      rw [u_205_4]
      simp (disch := omega) only [u_205_0, u_205_1, u_205_2, u_205_3, u_205_5, u_205_6, u_205_9, u_205_12, u_205_13, u_205_15, u_205_16, u_205_19, u_205_20, u_205_21, u_205_24, u_205_25, u_205_28, u_205_29, u_205_30, u_205_31, u_205_34, u_205_35, u_205_36, u_205_37, u_205_38, u_205_41, u_205_42, u_205_43, u_205_44, u_205_45, u_205_48, u_205_51, u_205_54, u_205_57, u_205_58, gI0, gIs, gR0, gRs, gF0, gFs, st0, st_i, st_r, st_f, st_n, st_s, true_and, and_true, ↓ifLeT, ↓ifLeF, ↓ifLtT, ↓ifLtF, ↓ifEqT, ↓ifEqF, if_tt, if_ff, if_pos, if_neg, nLe, nLt, nEq, nInT, nCl, pk_mul, nI_add, Nat.reduceAdd, s_cat_nil, s_cat_i, s_cat_r, s_cat_f, s_cat_l, tl_s, tl_n, cat_i, cat_r, cat_f, nb0, nb1, nbI, if_bI, if_bIr, Nat.zero_le, Nat.reduceLeDiff, M_g0, M_g1, M_g2, M_g3, M_g4, M_g5, M_g6, M_g7, M_g8, M_g9, M_g10, M_g11, M_g12, M_g13, M_g14, M_g15, M_g16, M_g17, M_g18, M_g19, M_g20, M_g21, M_g22, M_g23, M_g24, M_g25, M_g26, M_g27, M_g28, M_g29, M_g30, M_g31, M_g32, M_g33, M_g34, M_g35, M_g36, M_g37, M_g38, M_g39, M_g40, M_g41, h10]
      exact K
    | succ q ih =>
      intro k v hk
      have ih := fun v => ih (k + 1) v (by omega)
      rw [orN] at ih
      rw [u_205_4]
      simp (disch := omega) only [u_205_0, u_205_1, u_205_2, u_205_3, u_205_5, u_205_6, u_205_9, u_205_12, u_205_13, u_205_15, u_205_16, u_205_19, u_205_20, u_205_21, u_205_24, u_205_25, u_205_28, u_205_29, u_205_30, u_205_31, u_205_34, u_205_35, u_205_36, u_205_37, u_205_38, u_205_41, u_205_42, u_205_43, u_205_44, u_205_45, u_205_48, u_205_51, u_205_54, u_205_57, u_205_58, gI0, gIs, gR0, gRs, gF0, gFs, st0, st_i, st_r, st_f, st_n, st_s, true_and, and_true, ↓ifLeT, ↓ifLeF, ↓ifLtT, ↓ifLtF, ↓ifEqT, ↓ifEqF, if_tt, if_ff, if_pos, if_neg, nLe, nLt, nEq, nInT, nCl, pk_mul, nI_add, Nat.reduceAdd, s_cat_nil, s_cat_i, s_cat_r, s_cat_f, s_cat_l, tl_s, tl_n, cat_i, cat_r, cat_f, nb0, nb1, nbI, if_bI, if_bIr, Nat.zero_le, Nat.reduceLeDiff, M_g0, M_g1, M_g2, M_g3, M_g4, M_g5, M_g6, M_g7, M_g8, M_g9, M_g10, M_g11, M_g12, M_g13, M_g14, M_g15, M_g16, M_g17, M_g18, M_g19, M_g20, M_g21, M_g22, M_g23, M_g24, M_g25, M_g26, M_g27, M_g28, M_g29, M_g30, M_g31, M_g32, M_g33, M_g34, M_g35, M_g36, M_g37, M_g38, M_g39, M_g40, M_g41, h10]
      refine set_in (d := d) (X := 0) hn hr (by omega) (nL n k).length 0 _ (Nat.zero_add _) ?_
      simp (disch := omega) only [u_205_0, u_205_1, u_205_2, u_205_3, u_205_5, u_205_6, u_205_9, u_205_12, u_205_13, u_205_15, u_205_16, u_205_19, u_205_20, u_205_21, u_205_24, u_205_25, u_205_28, u_205_29, u_205_30, u_205_31, u_205_34, u_205_35, u_205_36, u_205_37, u_205_38, u_205_41, u_205_42, u_205_43, u_205_44, u_205_45, u_205_48, u_205_51, u_205_54, u_205_57, u_205_58, gI0, gIs, gR0, gRs, gF0, gFs, st0, st_i, st_r, st_f, st_n, st_s, true_and, and_true, ↓ifLeT, ↓ifLeF, ↓ifLtT, ↓ifLtF, ↓ifEqT, ↓ifEqF, if_tt, if_ff, if_pos, if_neg, nLe, nLt, nEq, nInT, nCl, pk_mul, nI_add, Nat.reduceAdd, s_cat_nil, s_cat_i, s_cat_r, s_cat_f, s_cat_l, tl_s, tl_n, cat_i, cat_r, cat_f, nb0, nb1, nbI, if_bI, if_bIr, Nat.zero_le, Nat.reduceLeDiff]
      exact ih _
  have := lp (nF n 2) 0 s_no (Nat.zero_add _)
  simp (disch := omega) only [u_205_0, u_205_1, u_205_2, u_205_3, u_205_5, u_205_6, u_205_9, u_205_12, u_205_13, u_205_15, u_205_16, u_205_19, u_205_20, u_205_21, u_205_24, u_205_25, u_205_28, u_205_29, u_205_30, u_205_31, u_205_34, u_205_35, u_205_36, u_205_37, u_205_38, u_205_41, u_205_42, u_205_43, u_205_44, u_205_45, u_205_48, u_205_51, u_205_54, u_205_57, u_205_58, gI0, gIs, gR0, gRs, gF0, gFs, st0, st_i, st_r, st_f, st_n, st_s, true_and, and_true, ↓ifLeT, ↓ifLeF, ↓ifLtT, ↓ifLtF, ↓ifEqT, ↓ifEqF, if_tt, if_ff, if_pos, if_neg, nLe, nLt, nEq, nInT, nCl, pk_mul, nI_add, Nat.reduceAdd, s_cat_nil, s_cat_i, s_cat_r, s_cat_f, s_cat_l, tl_s, tl_n, cat_i, cat_r, cat_f, nb0, nb1, nbI, if_bI, if_bIr, Nat.zero_le, Nat.reduceLeDiff]
  exact this
theorem z_toldSetI (hn : wfN n) (h10 : kI m 10 = nI (nF n 2)) (hr : RR (kA m 320) n) : MT (d + 2) 205 [.ref 317] (pM m h) Q ↔ Q (some (.int (nI (tbits (nL n))))) (pM m h) := MT_iff (z_toldSet hn h10 hr ⟨rfl, rfl⟩) Q
theorem all_m1 {T : Nat} (hT : T ≤ 8) : nI 1 <<< (nI T &&& 31) - nI 1 = nI (2 ^ T - 1) := by
  have := Nat.two_pow_pos T
  rw [i_shl1 (by omega), pk_sub (by omega)]
theorem done_bits : nI (2 ^ nF n 3 - 1) &&& (nI (bitsN (fun t => !nDone n t) (nF n 3)) ^^^ (-1)) = nI (bitsN (nDone n) (nF n 3)) ∨ 8 < nF n 3 := by
  by_cases h8 : 8 < nF n 3
  · exact Or.inr h8
  left
  have := Nat.two_pow_pos (nF n 3)
  have l8 : 2 ^ nF n 3 ≤ 2 ^ 8 := Nat.pow_le_pow_right (by decide) (by omega)
  have l9 : (2 : Nat) ^ 8 = 256 := rfl
  rw [i_andn (by omega)]
  congr 1
  have e : ∀ i, (andn (2 ^ nF n 3 - 1) (bitsN (fun t => !nDone n t) (nF n 3))).testBit i = (decide (i < nF n 3) && nDone n i) := fun i => by
    rw [andn_tb (by omega), full_tb, bitsN_tb]
    by_cases g : i < nF n 3
    · rw [decide_eq_true g, Bool.true_and, Bool.true_and, Bool.true_and, Bool.not_not]
    · rw [decide_eq_false g]; rfl
  refine bitsN_eq (Nat.lt_pow_two_of_testBit _ fun i hi => ?_) fun i hi => ?_
  · show (andn (2 ^ nF n 3 - 1) (bitsN (fun t => !nDone n t) (nF n 3))).testBit i = false
    rw [e, decide_eq_false (Nat.not_lt.mpr hi)]; rfl
  · show (andn (2 ^ nF n 3 - 1) (bitsN (fun t => !nDone n t) (nF n 3))).testBit i = _
    rw [e, decide_eq_true hi]; rfl
theorem z_rule (hm : RM m z) (K : ∀ m', RM m' z → Q (some (.int (zrule z w))) (pM m' h)) : MT (d + 4) 202 [.ref 317, .int w] (pM m h) Q := by
  rw [MT_go (by decide) _ _ _ (Nat.le_of_ble_eq_true rfl), show s_entry 202 [.ref 317, .int w] = [.ref 317, .int w] from rfl]
  have hm0 := RM_0 (x := nI 0) hm
  have q1 := hm.2.1.1
  unfold zrule at K
  cases hq : zQ z with
  | none =>
    simp only [hq] at K
    rw [hq] at q1
    simp (disch := omega) only [u_202_0, u_202_1, u_202_2, u_202_5, u_202_6, u_202_9, u_202_12, u_202_15, u_202_16, u_202_17, u_202_64, u_202_65, u_202_68, u_202_69, u_202_70, u_202_73, u_202_74, u_202_75, u_202_78, u_202_79, u_202_80, u_202_83, u_202_84, u_202_85, u_202_86, u_202_87, u_202_90, u_202_91, u_202_92, u_202_93, u_202_94, u_202_97, u_202_98, u_202_101, u_202_102, u_202_103, u_202_104, u_202_105, u_202_106, u_202_109, u_202_110, u_202_111, u_202_114, u_202_115, u_202_118, gI0, gIs, gR0, gRs, gF0, gFs, st0, st_i, st_r, st_f, st_n, st_s, true_and, and_true, ↓ifLeT, ↓ifLeF, ↓ifLtT, ↓ifLtF, ↓ifEqT, ↓ifEqF, if_tt, if_ff, if_pos, if_neg, nLe, nLt, nEq, nInT, nCl, pk_mul, nI_add, Nat.reduceAdd, s_cat_nil, s_cat_i, s_cat_r, s_cat_f, s_cat_l, tl_s, tl_n, cat_i, cat_r, cat_f, nb0, nb1, nbI, if_bI, if_bIr, Nat.zero_le, Nat.reduceLeDiff, M_ob, M_g0, M_g1, M_g2, M_g3, M_g4, M_g5, M_g6, M_g7, M_g8, M_g9, M_g10, M_g11, M_g12, M_g13, M_g14, M_g15, M_g16, M_g17, M_g18, M_g19, M_g20, M_g21, M_g22, M_g23, M_g24, M_g25, M_g26, M_g27, M_g28, M_g29, M_g30, M_g31, M_g32, M_g33, M_g34, M_g35, M_g36, M_g37, M_g38, M_g39, M_g40, M_g41, M_s0, kI_xI, kI_xB, kI_xA, kI_xV, kB_xI, kB_xB, kB_xA, kB_xV, kA_xI, kA_xB, kA_xA, kA_xV, kV_xI, kV_xB, kV_xA, kV_xV, Nat.reduceEqDiff, reduceIte, q1, Option.isSome, iBf]
    exact K _ hm0
  | some n =>
    simp only [hq] at K
    rw [hq] at q1
    obtain ⟨hg, hr, hok⟩ := RM_q hm0 hq
    obtain ⟨g8, g9, g10, -⟩ := hg
    have h8 := hok.1.1.2.1
    have r0 := hr.1
    have r1 := hr.2.1
    have c1 : (nI 1).toNatClampNeg = 1 := rfl
    have c0 : (nI 0).toNatClampNeg = 0 := rfl
    have K := K _ hm0
    have e1 := fun Q => z_leftSet (d := d) (h := h) (Q := Q) hok.1 hr
    have e2 := fun Q => z_brokenSet (d := d + 1) (h := h) (Q := Q) hok.1 g10 hr
    have e4 := fun Q => z_toldSetI (d := d + 1) (h := h) (Q := Q) hok.1 g10 hr
    have am := all_m1 h8
    have db := (done_bits (n := n)).resolve_right (by omega)
    have e3 : ∀ Q, MT (d + 3) 203 [.ref 317] (pM (xI m 0 (nI 0)) h) Q ↔ Q (some (.int (nI (2 ^ nF n 3 - 1)))) (pM (xI m 0 (nI 0)) h) := fun Q => by
      rw [MT_go (by decide) _ _ _ (Nat.le_of_ble_eq_true rfl), show s_entry 203 [.ref 317] = [.ref 317] from rfl]
      simp (disch := omega) only [u_203_0, u_203_1, u_203_2, u_203_5, u_203_6, u_203_7, u_203_8, u_203_9, u_203_10, gI0, gIs, gR0, gRs, gF0, gFs, st0, st_i, st_r, st_f, st_n, st_s, true_and, and_true, ↓ifLeT, ↓ifLeF, ↓ifLtT, ↓ifLtF, ↓ifEqT, ↓ifEqF, if_tt, if_ff, if_pos, if_neg, nLe, nLt, nEq, nInT, nCl, pk_mul, nI_add, Nat.reduceAdd, s_cat_nil, s_cat_i, s_cat_r, s_cat_f, s_cat_l, tl_s, tl_n, cat_i, cat_r, cat_f, nb0, nb1, nbI, if_bI, if_bIr, Nat.zero_le, Nat.reduceLeDiff, M_g0, M_g1, M_g2, M_g3, M_g4, M_g5, M_g6, M_g7, M_g8, M_g9, M_g10, M_g11, M_g12, M_g13, M_g14, M_g15, M_g16, M_g17, M_g18, M_g19, M_g20, M_g21, M_g22, M_g23, M_g24, M_g25, M_g26, M_g27, M_g28, M_g29, M_g30, M_g31, M_g32, M_g33, M_g34, M_g35, M_g36, M_g37, M_g38, M_g39, M_g40, M_g41, M_r rb320, c1, r1, am]
    simp (maxSteps := 2000000) (disch := omega) only [u_202_0, u_202_1, u_202_2, u_202_5, u_202_6, u_202_9, u_202_12, u_202_15, u_202_16, u_202_17, u_202_64, u_202_65, u_202_68, u_202_69, u_202_70, u_202_73, u_202_74, u_202_75, u_202_78, u_202_79, u_202_80, u_202_83, u_202_84, u_202_85, u_202_86, u_202_87, u_202_90, u_202_91, u_202_92, u_202_93, u_202_94, u_202_97, u_202_98, u_202_101, u_202_102, u_202_103, u_202_104, u_202_105, u_202_106, u_202_109, u_202_110, u_202_111, u_202_114, u_202_115, u_202_118, gI0, gIs, gR0, gRs, gF0, gFs, st0, st_i, st_r, st_f, st_n, st_s, true_and, and_true, ↓ifLeT, ↓ifLeF, ↓ifLtT, ↓ifLtF, ↓ifEqT, ↓ifEqF, if_tt, if_ff, if_pos, if_neg, nLe, nLt, nEq, nInT, nCl, pk_mul, nI_add, Nat.reduceAdd, s_cat_nil, s_cat_i, s_cat_r, s_cat_f, s_cat_l, tl_s, tl_n, cat_i, cat_r, cat_f, nb0, nb1, nbI, if_bI, if_bIr, Nat.zero_le, Nat.reduceLeDiff, M_ob, M_g0, M_g1, M_g2, M_g3, M_g4, M_g5, M_g6, M_g7, M_g8, M_g9, M_g10, M_g11, M_g12, M_g13, M_g14, M_g15, M_g16, M_g17, M_g18, M_g19, M_g20, M_g21, M_g22, M_g23, M_g24, M_g25, M_g26, M_g27, M_g28, M_g29, M_g30, M_g31, M_g32, M_g33, M_g34, M_g35, M_g36, M_g37, M_g38, M_g39, M_g40, M_g41, M_s0, kI_xI, kI_xB, kI_xA, kI_xV, kB_xI, kB_xB, kB_xA, kB_xV, kA_xI, kA_xB, kA_xA, kA_xV, kV_xI, kV_xB, kV_xA, kV_xV, Nat.reduceEqDiff, reduceIte, q1, Option.isSome, iBt, nI10, swt_c, swt_n, M_r rb320, c0, c1, g8, g9, g10, r0, r1, e1, e2, e3, e4, db]
    exact (iff_ite (P := fun v => Q (some (.int v)) (pM (xI m 0 (nI 0)) h)) (fun _ => Iff.rfl) fun _ => iff_ite (P := fun v => Q (some (.int v)) (pM (xI m 0 (nI 0)) h)) (fun _ => Iff.rfl) fun _ => iff_ite (P := fun v => Q (some (.int v)) (pM (xI m 0 (nI 0)) h)) (fun _ => Iff.rfl) fun _ => iff_ite (P := fun v => Q (some (.int v)) (pM (xI m 0 (nI 0)) h)) (fun _ => Iff.rfl) fun _ => iff_ite (P := fun v => Q (some (.int v)) (pM (xI m 0 (nI 0)) h)) (fun _ => Iff.rfl) fun _ => iff_ite (P := fun v => Q (some (.int v)) (pM (xI m 0 (nI 0)) h)) (fun _ => Iff.rfl) fun _ => iff_ite (P := fun v => Q (some (.int v)) (pM (xI m 0 (nI 0)) h)) (fun _ => Iff.rfl) fun _ => iff_ite (P := fun v => Q (some (.int v)) (pM (xI m 0 (nI 0)) h)) (fun _ => Iff.rfl) fun _ => Iff.rfl).mpr K
end ML
