/-! the reference's best and dearest */ -/
theorem rem_10 : ∀ a, a < 20 → nI a - nI a / nI 10 * nI 10 = nI (a % 10) := by decide +kernel
section MTL
variable {b d : Nat} {m : tM} {h : sH} {x y w c : Int32} {Q : sQ} {n : tN} {z : tQ} {l : tL} {g : tG}
theorem tell_in {c t a : Nat} (hn : wfN (jL n l)) (hfl : FL (kA m 331) (nF n 2) l) (hc : c < nF n 2) (ha : a < 20) (hat : a % 10 = t) (A : t ∈ l c → Q (some (.int (if a < 10 then nI c else nI (idxN t (l c))))) (pM m h)) (B : ¬ t ∈ l c → WP (d + 1) 225 85 [.ref 317, .int (nI a), .int (nI c), .int (nI (l c).length)] [] (pM m h) (0, 0) Q) : ∀ q k, k + q = (l c).length → (∀ j, j < k → (l c).getD j 0 ≠ t) → WP (d + 1) 225 34 [.ref 317, .int (nI a), .int (nI c), .int (nI k)] [] (pM m h) (0, 0) Q := by
  have h4 : nF n 2 ≤ 4 := hn.1.1
  have h8 : nF n 3 ≤ 8 := hn.1.2.1
  obtain ⟨a4, a5⟩ := hfl c hc
  have l8 : (l c).length ≤ 8 := wfL_len hn.1 hn.2.2.2 c
  have i0 : vp_in (nI (9 * c)) 36 := (nIn (by omega)).mpr (by omega)
  have c0 : (nI (9 * c)).toNatClampNeg = 9 * c := nCl (by omega)
  have r10 := rem_10 a ha
  rw [hat] at r10
  have n10 : ¬ nI 10 = (0 : Int32) := by decide
  intro q
  induction q with
  | zero =>
    intro k hk hno
    have e : k = (l c).length := by omega
    subst e
    rw [u_225_34]
    simp (disch := omega) only [u_225_0, u_225_1, u_225_2, u_225_5, u_225_6, u_225_9, u_225_11, u_225_14, u_225_15, u_225_18, u_225_21, u_225_22, u_225_23, u_225_25, u_225_26, u_225_29, u_225_32, u_225_33, u_225_35, u_225_36, u_225_39, u_225_40, u_225_43, u_225_44, u_225_47, u_225_48, u_225_51, u_225_52, u_225_55, u_225_56, u_225_57, u_225_58, u_225_59, u_225_60, u_225_61, u_225_63, u_225_64, u_225_67, u_225_68, u_225_70, u_225_73, u_225_74, u_225_77, u_225_78, u_225_79, u_225_82, u_225_88, u_225_91, u_225_92, gI0, gIs, gR0, gRs, gF0, gFs, st0, st_i, st_r, st_f, st_n, st_s, true_and, and_true, ↓ifLeT, ↓ifLeF, ↓ifLtT, ↓ifLtF, ↓ifEqT, ↓ifEqF, if_tt, if_ff, if_pos, if_neg, nLe, nLt, nEq, nInT, nCl, pk_mul, nI_add, Nat.reduceAdd, s_cat_nil, s_cat_i, s_cat_r, s_cat_f, s_cat_l, tl_s, tl_n, cat_i, cat_r, cat_f, nb0, nb1, nbI, if_bI, if_bIr, Nat.zero_le, Nat.reduceLeDiff, M_g0, M_g1, M_g2, M_g3, M_g4, M_g5, M_g6, M_g7, M_g8, M_g9, M_g10, M_g11, M_g12, M_g13, M_g14, M_g15, M_g16, M_g17, M_g18, M_g19, M_g20, M_g21, M_g22, M_g23, M_g24, M_g25, M_g26, M_g27, M_g28, M_g29, M_g30, M_g31, M_g32, M_g33, M_g34, M_g35, M_g36, M_g37, M_g38, M_g39, M_g40, M_g41, m_lAt, M_a331, i0, c0, a4]
    refine B fun hmem => ?_
    obtain ⟨j, hj, e⟩ := List.getElem_of_mem hmem
    exact hno j hj (by rw [getD_of hj]; exact e)
  | succ q ih =>
    intro k hk hno
    have hk' : k < (l c).length := by omega
    have e := a5 k hk'
    have ht2 : (l c).getD k 0 < nF n 3 := (hn.2.2.2.2.1 c).2 _ (getD_mem hk')
    have i1 : vp_in (nI (9 * c + 1 + k)) 36 := (nIn (by omega)).mpr (by omega)
    have c1 : (nI (9 * c + 1 + k)).toNatClampNeg = 9 * c + 1 + k := nCl (by omega)
    rw [← Nat.add_assoc] at e
    rw [u_225_34]
    by_cases g : (l c).getD k 0 = t
    · rw [g] at e
      have A := A (by rw [← g]; exact getD_mem hk')
      rw [idx_first hk' g hno] at A
      by_cases s : a < 10
      · rw [if_pos s] at A
        simp (disch := omega) only [u_225_0, u_225_1, u_225_2, u_225_5, u_225_6, u_225_9, u_225_11, u_225_14, u_225_15, u_225_18, u_225_21, u_225_22, u_225_23, u_225_25, u_225_26, u_225_29, u_225_32, u_225_33, u_225_35, u_225_36, u_225_39, u_225_40, u_225_43, u_225_44, u_225_47, u_225_48, u_225_51, u_225_52, u_225_55, u_225_56, u_225_57, u_225_58, u_225_59, u_225_60, u_225_61, u_225_63, u_225_64, u_225_67, u_225_68, u_225_70, u_225_73, u_225_74, u_225_77, u_225_78, u_225_79, u_225_82, u_225_88, u_225_91, u_225_92, gI0, gIs, gR0, gRs, gF0, gFs, st0, st_i, st_r, st_f, st_n, st_s, true_and, and_true, ↓ifLeT, ↓ifLeF, ↓ifLtT, ↓ifLtF, ↓ifEqT, ↓ifEqF, if_tt, if_ff, if_pos, if_neg, nLe, nLt, nEq, nInT, nCl, pk_mul, nI_add, Nat.reduceAdd, s_cat_nil, s_cat_i, s_cat_r, s_cat_f, s_cat_l, tl_s, tl_n, cat_i, cat_r, cat_f, nb0, nb1, nbI, if_bI, if_bIr, Nat.zero_le, Nat.reduceLeDiff, M_g0, M_g1, M_g2, M_g3, M_g4, M_g5, M_g6, M_g7, M_g8, M_g9, M_g10, M_g11, M_g12, M_g13, M_g14, M_g15, M_g16, M_g17, M_g18, M_g19, M_g20, M_g21, M_g22, M_g23, M_g24, M_g25, M_g26, M_g27, M_g28, M_g29, M_g30, M_g31, M_g32, M_g33, M_g34, M_g35, M_g36, M_g37, M_g38, M_g39, M_g40, M_g41, m_lAt, M_a331, i0, c0, i1, c1, a4, e, r10, n10, not_false_iff]
        exact A
      · rw [if_neg s] at A
        simp (disch := omega) only [u_225_0, u_225_1, u_225_2, u_225_5, u_225_6, u_225_9, u_225_11, u_225_14, u_225_15, u_225_18, u_225_21, u_225_22, u_225_23, u_225_25, u_225_26, u_225_29, u_225_32, u_225_33, u_225_35, u_225_36, u_225_39, u_225_40, u_225_43, u_225_44, u_225_47, u_225_48, u_225_51, u_225_52, u_225_55, u_225_56, u_225_57, u_225_58, u_225_59, u_225_60, u_225_61, u_225_63, u_225_64, u_225_67, u_225_68, u_225_70, u_225_73, u_225_74, u_225_77, u_225_78, u_225_79, u_225_82, u_225_88, u_225_91, u_225_92, gI0, gIs, gR0, gRs, gF0, gFs, st0, st_i, st_r, st_f, st_n, st_s, true_and, and_true, ↓ifLeT, ↓ifLeF, ↓ifLtT, ↓ifLtF, ↓ifEqT, ↓ifEqF, if_tt, if_ff, if_pos, if_neg, nLe, nLt, nEq, nInT, nCl, pk_mul, nI_add, Nat.reduceAdd, s_cat_nil, s_cat_i, s_cat_r, s_cat_f, s_cat_l, tl_s, tl_n, cat_i, cat_r, cat_f, nb0, nb1, nbI, if_bI, if_bIr, Nat.zero_le, Nat.reduceLeDiff, M_g0, M_g1, M_g2, M_g3, M_g4, M_g5, M_g6, M_g7, M_g8, M_g9, M_g10, M_g11, M_g12, M_g13, M_g14, M_g15, M_g16, M_g17, M_g18, M_g19, M_g20, M_g21, M_g22, M_g23, M_g24, M_g25, M_g26, M_g27, M_g28, M_g29, M_g30, M_g31, M_g32, M_g33, M_g34, M_g35, M_g36, M_g37, M_g38, M_g39, M_g40, M_g41, m_lAt, M_a331, i0, c0, i1, c1, a4, e, r10, n10, not_false_iff]
        exact A
    · have ne : ¬ nI ((l c).getD k 0) = nI t := fun q => g ((nI_eq (by omega) (by omega)).mp q)
      simp (disch := omega) only [u_225_0, u_225_1, u_225_2, u_225_5, u_225_6, u_225_9, u_225_11, u_225_14, u_225_15, u_225_18, u_225_21, u_225_22, u_225_23, u_225_25, u_225_26, u_225_29, u_225_32, u_225_33, u_225_35, u_225_36, u_225_39, u_225_40, u_225_43, u_225_44, u_225_47, u_225_48, u_225_51, u_225_52, u_225_55, u_225_56, u_225_57, u_225_58, u_225_59, u_225_60, u_225_61, u_225_63, u_225_64, u_225_67, u_225_68, u_225_70, u_225_73, u_225_74, u_225_77, u_225_78, u_225_79, u_225_82, u_225_88, u_225_91, u_225_92, gI0, gIs, gR0, gRs, gF0, gFs, st0, st_i, st_r, st_f, st_n, st_s, true_and, and_true, ↓ifLeT, ↓ifLeF, ↓ifLtT, ↓ifLtF, ↓ifEqT, ↓ifEqF, if_tt, if_ff, if_pos, if_neg, nLe, nLt, nEq, nInT, nCl, pk_mul, nI_add, Nat.reduceAdd, s_cat_nil, s_cat_i, s_cat_r, s_cat_f, s_cat_l, tl_s, tl_n, cat_i, cat_r, cat_f, nb0, nb1, nbI, if_bI, if_bIr, Nat.zero_le, Nat.reduceLeDiff, M_g0, M_g1, M_g2, M_g3, M_g4, M_g5, M_g6, M_g7, M_g8, M_g9, M_g10, M_g11, M_g12, M_g13, M_g14, M_g15, M_g16, M_g17, M_g18, M_g19, M_g20, M_g21, M_g22, M_g23, M_g24, M_g25, M_g26, M_g27, M_g28, M_g29, M_g30, M_g31, M_g32, M_g33, M_g34, M_g35, M_g36, M_g37, M_g38, M_g39, M_g40, M_g41, m_lAt, M_a331, i0, c0, i1, c1, a4, e, r10, n10, not_false_iff, ne]
      refine ih (k + 1) (by omega) fun j hj => ?_
      by_cases e : j = k
      · rw [e]; exact g
      · exact hno j (by omega)
theorem tell_out {t a : Nat} (hn : wfN (jL n l)) (hfl : FL (kA m 331) (nF n 2) l) (h10 : kI m 10 = nI (nF n 2)) (ha : a < 20) (hat : a % 10 = t) : ∀ q k v, k + q = nF n 2 → (Q (some (.int (match (List.range' k q).find? (fun c => decide (t ∈ l c)) with | none => -1 | some c => if a < 10 then nI c else nI (idxN t (l c))))) (pM m h)) → WP (d + 1) 225 24 [.ref 317, .int (nI a), .int (nI k), v] [] (pM m h) (0, 0) Q := by
  have h4 : nF n 2 ≤ 4 := hn.1.1
  intro q
  induction q with
  | zero =>
    intro k v hk K
    have e : k = nF n 2 := by omega
    subst e
    rw [u_225_24]
    simp (disch := omega) only [u_225_0, u_225_1, u_225_2, u_225_5, u_225_6, u_225_9, u_225_11, u_225_14, u_225_15, u_225_18, u_225_21, u_225_22, u_225_23, u_225_25, u_225_26, u_225_29, u_225_32, u_225_33, u_225_35, u_225_36, u_225_39, u_225_40, u_225_43, u_225_44, u_225_47, u_225_48, u_225_51, u_225_52, u_225_55, u_225_56, u_225_57, u_225_58, u_225_59, u_225_60, u_225_61, u_225_63, u_225_64, u_225_67, u_225_68, u_225_70, u_225_73, u_225_74, u_225_77, u_225_78, u_225_79, u_225_82, u_225_85, u_225_88, u_225_91, u_225_92, gI0, gIs, gR0, gRs, gF0, gFs, st0, st_i, st_r, st_f, st_n, st_s, true_and, and_true, ↓ifLeT, ↓ifLeF, ↓ifLtT, ↓ifLtF, ↓ifEqT, ↓ifEqF, if_tt, if_ff, if_pos, if_neg, nLe, nLt, nEq, nInT, nCl, pk_mul, nI_add, Nat.reduceAdd, s_cat_nil, s_cat_i, s_cat_r, s_cat_f, s_cat_l, tl_s, tl_n, cat_i, cat_r, cat_f, nb0, nb1, nbI, if_bI, if_bIr, Nat.zero_le, Nat.reduceLeDiff, M_g0, M_g1, M_g2, M_g3, M_g4, M_g5, M_g6, M_g7, M_g8, M_g9, M_g10, M_g11, M_g12, M_g13, M_g14, M_g15, M_g16, M_g17, M_g18, M_g19, M_g20, M_g21, M_g22, M_g23, M_g24, M_g25, M_g26, M_g27, M_g28, M_g29, M_g30, M_g31, M_g32, M_g33, M_g34, M_g35, M_g36, M_g37, M_g38, M_g39, M_g40, M_g41, h10]
    exact K
  | succ q ih =>
    intro k v hk K
    rw [List.range'_succ, List.find?_cons] at K
    rw [u_225_24]
    simp (disch := omega) only [u_225_0, u_225_1, u_225_2, u_225_5, u_225_6, u_225_9, u_225_11, u_225_14, u_225_15, u_225_18, u_225_21, u_225_22, u_225_23, u_225_25, u_225_26, u_225_29, u_225_32, u_225_33, u_225_35, u_225_36, u_225_39, u_225_40, u_225_43, u_225_44, u_225_47, u_225_48, u_225_51, u_225_52, u_225_55, u_225_56, u_225_57, u_225_58, u_225_59, u_225_60, u_225_61, u_225_63, u_225_64, u_225_67, u_225_68, u_225_70, u_225_73, u_225_74, u_225_77, u_225_78, u_225_79, u_225_82, u_225_85, u_225_88, u_225_91, u_225_92, gI0, gIs, gR0, gRs, gF0, gFs, st0, st_i, st_r, st_f, st_n, st_s, true_and, and_true, ↓ifLeT, ↓ifLeF, ↓ifLtT, ↓ifLtF, ↓ifEqT, ↓ifEqF, if_tt, if_ff, if_pos, if_neg, nLe, nLt, nEq, nInT, nCl, pk_mul, nI_add, Nat.reduceAdd, s_cat_nil, s_cat_i, s_cat_r, s_cat_f, s_cat_l, tl_s, tl_n, cat_i, cat_r, cat_f, nb0, nb1, nbI, if_bI, if_bIr, Nat.zero_le, Nat.reduceLeDiff, M_g0, M_g1, M_g2, M_g3, M_g4, M_g5, M_g6, M_g7, M_g8, M_g9, M_g10, M_g11, M_g12, M_g13, M_g14, M_g15, M_g16, M_g17, M_g18, M_g19, M_g20, M_g21, M_g22, M_g23, M_g24, M_g25, M_g26, M_g27, M_g28, M_g29, M_g30, M_g31, M_g32, M_g33, M_g34, M_g35, M_g36, M_g37, M_g38, M_g39, M_g40, M_g41, h10]
    refine tell_in (d := d) hn hfl (by omega) ha hat (fun hm => ?_) (fun hm => ?_) (l k).length 0 (Nat.zero_add _) (fun j hj => absurd hj (Nat.not_lt_zero j))
    · simp only [decide_eq_true hm] at K
      exact K
    · simp only [decide_eq_false hm] at K
      simp (disch := omega) only [u_225_0, u_225_1, u_225_2, u_225_5, u_225_6, u_225_9, u_225_11, u_225_14, u_225_15, u_225_18, u_225_21, u_225_22, u_225_23, u_225_25, u_225_26, u_225_29, u_225_32, u_225_33, u_225_35, u_225_36, u_225_39, u_225_40, u_225_43, u_225_44, u_225_47, u_225_48, u_225_51, u_225_52, u_225_55, u_225_56, u_225_57, u_225_58, u_225_59, u_225_60, u_225_61, u_225_63, u_225_64, u_225_67, u_225_68, u_225_70, u_225_73, u_225_74, u_225_77, u_225_78, u_225_79, u_225_82, u_225_85, u_225_88, u_225_91, u_225_92, gI0, gIs, gR0, gRs, gF0, gFs, st0, st_i, st_r, st_f, st_n, st_s, true_and, and_true, ↓ifLeT, ↓ifLeF, ↓ifLtT, ↓ifLtF, ↓ifEqT, ↓ifEqF, if_tt, if_ff, if_pos, if_neg, nLe, nLt, nEq, nInT, nCl, pk_mul, nI_add, Nat.reduceAdd, s_cat_nil, s_cat_i, s_cat_r, s_cat_f, s_cat_l, tl_s, tl_n, cat_i, cat_r, cat_f, nb0, nb1, nbI, if_bI, if_bIr, Nat.zero_le, Nat.reduceLeDiff]
      exact ih (k + 1) _ (by omega) K
theorem r_tells (hn : wfN n) (h10 : kI m 10 = nI (nF n 2)) (mf : MF m (nF n 2) g) (hw : ∀ v l, g.2 = some (v, l) → wfL (jL n l)) (hs : suchN n w = true) (K : Q (some (.int (tellN g.2 w))) (pM m h)) : MT (d + 2) 225 [.ref 317, .int w] (pM m h) Q := by
  have h8 := hn.1.2.1
  rw [MT_go (by decide) _ _ _ (Nat.le_of_ble_eq_true rfl), show s_entry 225 [.ref 317, .int w] = [.ref 317, .int w, s_no, s_no] from rfl]
  obtain ⟨m30, mle⟩ := MF_30 mf
  have e3 := fun Q => m_told (d := d) (h := pM m h) (Q := Q) mle
  cases hg : g.2 with
  | none =>
    rw [hg] at m30 e3 K
    have m30 : kI m 30 = nI 1000000 := m30
    have e3 : ∀ Q, MT (d + 1) 193 [.int (nI 1000000)] (pM m h) Q ↔ Q (some (.int (-1))) (pM m h) := e3
    by_cases e : w = -1
    · simp (disch := omega) only [u_225_0, u_225_1, u_225_2, u_225_5, u_225_6, u_225_9, u_225_11, u_225_14, u_225_15, u_225_18, u_225_21, gI0, gIs, gR0, gRs, gF0, gFs, st0, st_i, st_r, st_f, st_n, st_s, true_and, and_true, ↓ifLeT, ↓ifLeF, ↓ifLtT, ↓ifLtF, ↓ifEqT, ↓ifEqF, if_tt, if_ff, if_pos, if_neg, nLe, nLt, nEq, nInT, nCl, pk_mul, nI_add, Nat.reduceAdd, s_cat_nil, s_cat_i, s_cat_r, s_cat_f, s_cat_l, tl_s, tl_n, cat_i, cat_r, cat_f, nb0, nb1, nbI, if_bI, if_bIr, Nat.zero_le, Nat.reduceLeDiff, M_g0, M_g1, M_g2, M_g3, M_g4, M_g5, M_g6, M_g7, M_g8, M_g9, M_g10, M_g11, M_g12, M_g13, M_g14, M_g15, M_g16, M_g17, M_g18, M_g19, M_g20, M_g21, M_g22, M_g23, M_g24, M_g25, M_g26, M_g27, M_g28, M_g29, M_g30, M_g31, M_g32, M_g33, M_g34, M_g35, M_g36, M_g37, M_g38, M_g39, M_g40, M_g41, m30, e, reduceIte, e3]
      exact K
    · simp (disch := omega) only [u_225_0, u_225_1, u_225_2, u_225_5, u_225_6, u_225_9, u_225_11, u_225_14, u_225_15, u_225_18, u_225_21, gI0, gIs, gR0, gRs, gF0, gFs, st0, st_i, st_r, st_f, st_n, st_s, true_and, and_true, ↓ifLeT, ↓ifLeF, ↓ifLtT, ↓ifLtF, ↓ifEqT, ↓ifEqF, if_tt, if_ff, if_pos, if_neg, nLe, nLt, nEq, nInT, nCl, pk_mul, nI_add, Nat.reduceAdd, s_cat_nil, s_cat_i, s_cat_r, s_cat_f, s_cat_l, tl_s, tl_n, cat_i, cat_r, cat_f, nb0, nb1, nbI, if_bI, if_bIr, Nat.zero_le, Nat.reduceLeDiff, M_g0, M_g1, M_g2, M_g3, M_g4, M_g5, M_g6, M_g7, M_g8, M_g9, M_g10, M_g11, M_g12, M_g13, M_g14, M_g15, M_g16, M_g17, M_g18, M_g19, M_g20, M_g21, M_g22, M_g23, M_g24, M_g25, M_g26, M_g27, M_g28, M_g29, M_g30, M_g31, M_g32, M_g33, M_g34, M_g35, M_g36, M_g37, M_g38, M_g39, M_g40, M_g41, m30, e, reduceIte, e3]
      exact K
  | some p =>
    obtain ⟨v, l⟩ := p
    rw [hg] at m30 e3 K
    unfold MF at mf
    simp only [hg] at mf
    obtain ⟨-, v3, -, hfl, -⟩ := mf
    have m30 : kI m 30 = nI v := m30
    have e3 : ∀ Q, MT (d + 1) 193 [.int (nI v)] (pM m h) Q ↔ Q (some (.int (nI v))) (pM m h) := e3
    have wl := hw v l hg
    have hnl : wfN (jL n l) := ⟨hn.1, hn.2.1, hn.2.2.1, wl⟩
    have hC := fun t => hold_C (n := jL n l) (t := t) hnl
    have hC : ∀ t, holdN l t = (List.range' 0 (nF n 2)).find? fun c => decide (t ∈ l c) := hC
    by_cases e : w = -1
    · have K : Q (some (.int (if w = -1 then nI v else if w < nI 10 then oI1 (holdN l w.toNatClampNeg) else oI1 (spotN l (w - nI 10).toNatClampNeg)))) (pM m h) := K
      rw [if_pos e] at K
      simp (disch := omega) only [u_225_0, u_225_1, u_225_2, u_225_5, u_225_6, u_225_9, u_225_11, u_225_14, u_225_15, u_225_18, u_225_21, gI0, gIs, gR0, gRs, gF0, gFs, st0, st_i, st_r, st_f, st_n, st_s, true_and, and_true, ↓ifLeT, ↓ifLeF, ↓ifLtT, ↓ifLtF, ↓ifEqT, ↓ifEqF, if_tt, if_ff, if_pos, if_neg, nLe, nLt, nEq, nInT, nCl, pk_mul, nI_add, Nat.reduceAdd, s_cat_nil, s_cat_i, s_cat_r, s_cat_f, s_cat_l, tl_s, tl_n, cat_i, cat_r, cat_f, nb0, nb1, nbI, if_bI, if_bIr, Nat.zero_le, Nat.reduceLeDiff, M_g0, M_g1, M_g2, M_g3, M_g4, M_g5, M_g6, M_g7, M_g8, M_g9, M_g10, M_g11, M_g12, M_g13, M_g14, M_g15, M_g16, M_g17, M_g18, M_g19, M_g20, M_g21, M_g22, M_g23, M_g24, M_g25, M_g26, M_g27, M_g28, M_g29, M_g30, M_g31, M_g32, M_g33, M_g34, M_g35, M_g36, M_g37, M_g38, M_g39, M_g40, M_g41, m30, e, reduceIte, e3]
      exact K
    · have K : Q (some (.int (if w = -1 then nI v else if w < nI 10 then oI1 (holdN l w.toNatClampNeg) else oI1 (spotN l (w - nI 10).toNatClampNeg)))) (pM m h) := K
      rw [if_neg e] at K
      unfold suchN at hs
      rw [decide_eq_false e, Bool.false_or] at hs
      have nv : ¬ nI v = nI 1000000 := fun q => by have := (nI_eq (by omega) (by omega)).mp q; omega
      cases h1 : ixN w (nF n 3) with
      | some j =>
        obtain ⟨j1, rfl⟩ := ix_some (by omega) h1
        rw [if_pos (nI_lt (by omega) (by omega)), nCl (by omega)] at K
        simp (disch := omega) only [u_225_0, u_225_1, u_225_2, u_225_5, u_225_6, u_225_9, u_225_11, u_225_14, u_225_15, u_225_18, u_225_21, u_225_22, u_225_23, gI0, gIs, gR0, gRs, gF0, gFs, st0, st_i, st_r, st_f, st_n, st_s, true_and, and_true, ↓ifLeT, ↓ifLeF, ↓ifLtT, ↓ifLtF, ↓ifEqT, ↓ifEqF, if_tt, if_ff, if_pos, if_neg, nLe, nLt, nEq, nInT, nCl, pk_mul, nI_add, Nat.reduceAdd, s_cat_nil, s_cat_i, s_cat_r, s_cat_f, s_cat_l, tl_s, tl_n, cat_i, cat_r, cat_f, nb0, nb1, nbI, if_bI, if_bIr, Nat.zero_le, Nat.reduceLeDiff, M_g0, M_g1, M_g2, M_g3, M_g4, M_g5, M_g6, M_g7, M_g8, M_g9, M_g10, M_g11, M_g12, M_g13, M_g14, M_g15, M_g16, M_g17, M_g18, M_g19, M_g20, M_g21, M_g22, M_g23, M_g24, M_g25, M_g26, M_g27, M_g28, M_g29, M_g30, M_g31, M_g32, M_g33, M_g34, M_g35, M_g36, M_g37, M_g38, M_g39, M_g40, M_g41, m30, e, nv, reduceIte]
        refine tell_out (d := d) (t := j) hnl hfl h10 (by omega) (by omega) (nF n 2) 0 _ (Nat.zero_add _) ?_
        rw [hC] at K
        cases hf : (List.range' 0 (nF n 2)).find? fun c => decide (j ∈ l c) with
        | none => rw [hf] at K; exact K
        | some c =>
          rw [hf] at K
          show Q (some (.int (if j < 10 then _ else _))) _
          rw [if_pos (by omega)]
          exact K
      | none =>
        rw [h1, Option.isSome_none, Bool.false_or] at hs
        cases h2 : ixN (w - nI 10) (nF n 3) with
        | none => rw [h2] at hs; cases hs
        | some j =>
          obtain ⟨j1, e2⟩ := ix_some (by omega) h2
          have ew : w = nI (j + 10) := by rw [← nI_add, ← e2, Int32.sub_add_cancel]
          rw [e2] at K
          subst ew
          rw [if_neg (nI_nlt (by omega) (by omega)), nCl (by omega)] at K
          simp (disch := omega) only [u_225_0, u_225_1, u_225_2, u_225_5, u_225_6, u_225_9, u_225_11, u_225_14, u_225_15, u_225_18, u_225_21, u_225_22, u_225_23, gI0, gIs, gR0, gRs, gF0, gFs, st0, st_i, st_r, st_f, st_n, st_s, true_and, and_true, ↓ifLeT, ↓ifLeF, ↓ifLtT, ↓ifLtF, ↓ifEqT, ↓ifEqF, if_tt, if_ff, if_pos, if_neg, nLe, nLt, nEq, nInT, nCl, pk_mul, nI_add, Nat.reduceAdd, s_cat_nil, s_cat_i, s_cat_r, s_cat_f, s_cat_l, tl_s, tl_n, cat_i, cat_r, cat_f, nb0, nb1, nbI, if_bI, if_bIr, Nat.zero_le, Nat.reduceLeDiff, M_g0, M_g1, M_g2, M_g3, M_g4, M_g5, M_g6, M_g7, M_g8, M_g9, M_g10, M_g11, M_g12, M_g13, M_g14, M_g15, M_g16, M_g17, M_g18, M_g19, M_g20, M_g21, M_g22, M_g23, M_g24, M_g25, M_g26, M_g27, M_g28, M_g29, M_g30, M_g31, M_g32, M_g33, M_g34, M_g35, M_g36, M_g37, M_g38, M_g39, M_g40, M_g41, m30, e, nv, reduceIte]
          refine tell_out (d := d) (t := j) hnl hfl h10 (by omega) (by omega) (nF n 2) 0 _ (Nat.zero_add _) ?_
          unfold spotN at K
          rw [hC] at K
          cases hf : (List.range' 0 (nF n 2)).find? fun c => decide (j ∈ l c) with
          | none => rw [hf] at K; exact K
          | some c =>
            rw [hf] at K
            show Q (some (.int (if j + 10 < 10 then _ else _))) _
            rw [if_neg (by omega)]
            exact K
theorem z_best (hm : RM m z) (K : ∀ m', RM m' z → Q (some (.int (zbest z w))) (pM m' h)) : MT (d + 27) 226 [.ref 317, .int w] (pM m h) Q := by
  rw [MT_go (by decide) _ _ _ (Nat.le_of_ble_eq_true rfl), show s_entry 226 [.ref 317, .int w] = [.ref 317, .int w] from rfl]
  have hm0 := RM_0 (x := nI 0) hm
  have e1 := fun Q => r_such (d := d + 24) (h := h) (Q := Q) (x := w) hm0
  unfold zbest at K
  cases hq : zQ z with
  | none =>
    simp only [hq] at K e1
    simp (disch := omega) only [u_226_0, u_226_1, u_226_2, u_226_5, u_226_6, u_226_7, u_226_10, u_226_13, u_226_16, u_226_17, u_226_18, u_226_21, u_226_24, u_226_26, u_226_27, u_226_28, u_226_29, u_226_32, u_226_33, u_226_34, u_226_37, gI0, gIs, gR0, gRs, gF0, gFs, st0, st_i, st_r, st_f, st_n, st_s, true_and, and_true, ↓ifLeT, ↓ifLeF, ↓ifLtT, ↓ifLtF, ↓ifEqT, ↓ifEqF, if_tt, if_ff, if_pos, if_neg, nLe, nLt, nEq, nInT, nCl, pk_mul, nI_add, Nat.reduceAdd, s_cat_nil, s_cat_i, s_cat_r, s_cat_f, s_cat_l, tl_s, tl_n, cat_i, cat_r, cat_f, nb0, nb1, nbI, if_bI, if_bIr, Nat.zero_le, Nat.reduceLeDiff, M_ob, M_s0, e1, iBf]
    exact K _ hm0
  | some n =>
    simp only [hq] at K e1
    obtain ⟨hg, hr, hok⟩ := RM_q hm0 hq
    have e2 := fun Q => r_few (d := d + 22) (h := h) (Q := Q) hok.1 hr
    cases hs : suchN n w with
    | false =>
      rw [hs] at e1
      simp only [hs, Bool.false_eq_true, if_false] at K
      simp (disch := omega) only [u_226_0, u_226_1, u_226_2, u_226_5, u_226_6, u_226_7, u_226_10, u_226_13, u_226_16, u_226_17, u_226_18, u_226_21, u_226_24, u_226_26, u_226_27, u_226_28, u_226_29, u_226_32, u_226_33, u_226_34, u_226_37, gI0, gIs, gR0, gRs, gF0, gFs, st0, st_i, st_r, st_f, st_n, st_s, true_and, and_true, ↓ifLeT, ↓ifLeF, ↓ifLtT, ↓ifLtF, ↓ifEqT, ↓ifEqF, if_tt, if_ff, if_pos, if_neg, nLe, nLt, nEq, nInT, nCl, pk_mul, nI_add, Nat.reduceAdd, s_cat_nil, s_cat_i, s_cat_r, s_cat_f, s_cat_l, tl_s, tl_n, cat_i, cat_r, cat_f, nb0, nb1, nbI, if_bI, if_bIr, Nat.zero_le, Nat.reduceLeDiff, M_ob, M_s0, e1, iBf]
      exact K _ hm0
    | true =>
      rw [hs] at e1
      simp only [hs, if_true] at K
      cases hf : fewN n with
      | false =>
        rw [hf] at e2
        simp only [hf, Bool.false_eq_true, if_false] at K
        simp (disch := omega) only [u_226_0, u_226_1, u_226_2, u_226_5, u_226_6, u_226_7, u_226_10, u_226_13, u_226_16, u_226_17, u_226_18, u_226_21, u_226_24, u_226_26, u_226_27, u_226_28, u_226_29, u_226_32, u_226_33, u_226_34, u_226_37, gI0, gIs, gR0, gRs, gF0, gFs, st0, st_i, st_r, st_f, st_n, st_s, true_and, and_true, ↓ifLeT, ↓ifLeF, ↓ifLtT, ↓ifLtF, ↓ifEqT, ↓ifEqF, if_tt, if_ff, if_pos, if_neg, nLe, nLt, nEq, nInT, nCl, pk_mul, nI_add, Nat.reduceAdd, s_cat_nil, s_cat_i, s_cat_r, s_cat_f, s_cat_l, tl_s, tl_n, cat_i, cat_r, cat_f, nb0, nb1, nbI, if_bI, if_bIr, Nat.zero_le, Nat.reduceLeDiff, M_ob, M_s0, e1, e2, iBt, iBf, nI10, reduceIte]
        exact K _ hm0
      | true =>
        rw [hf] at e2
        simp only [hf, if_true] at K
        simp (disch := omega) only [u_226_0, u_226_1, u_226_2, u_226_5, u_226_6, u_226_7, u_226_10, u_226_13, u_226_16, u_226_17, u_226_18, u_226_21, u_226_24, u_226_26, u_226_27, u_226_28, u_226_29, u_226_32, u_226_33, u_226_34, u_226_37, gI0, gIs, gR0, gRs, gF0, gFs, st0, st_i, st_r, st_f, st_n, st_s, true_and, and_true, ↓ifLeT, ↓ifLeF, ↓ifLtT, ↓ifLtF, ↓ifEqT, ↓ifEqF, if_tt, if_ff, if_pos, if_neg, nLe, nLt, nEq, nInT, nCl, pk_mul, nI_add, Nat.reduceAdd, s_cat_nil, s_cat_i, s_cat_r, s_cat_f, s_cat_l, tl_s, tl_n, cat_i, cat_r, cat_f, nb0, nb1, nbI, if_bI, if_bIr, Nat.zero_le, Nat.reduceLeDiff, M_ob, M_s0, e1, e2, iBt, nI10, reduceIte]
        refine r_seeksB (d := d) (o := none) (lo := 0) hm0 hq (Or.inl ⟨rfl, rfl⟩) fun m' f1 mf => ?_
        rw [lostN_0] at mf
        simp (disch := omega) only [u_226_0, u_226_1, u_226_2, u_226_5, u_226_6, u_226_7, u_226_10, u_226_13, u_226_16, u_226_17, u_226_18, u_226_21, u_226_24, u_226_26, u_226_27, u_226_28, u_226_29, u_226_32, u_226_33, u_226_34, u_226_37, gI0, gIs, gR0, gRs, gF0, gFs, st0, st_i, st_r, st_f, st_n, st_s, true_and, and_true, ↓ifLeT, ↓ifLeF, ↓ifLtT, ↓ifLtF, ↓ifEqT, ↓ifEqF, if_tt, if_ff, if_pos, if_neg, nLe, nLt, nEq, nInT, nCl, pk_mul, nI_add, Nat.reduceAdd, s_cat_nil, s_cat_i, s_cat_r, s_cat_f, s_cat_l, tl_s, tl_n, cat_i, cat_r, cat_f, nb0, nb1, nbI, if_bI, if_bIr, Nat.zero_le, Nat.reduceLeDiff, M_ob]
        refine r_tells (d := d + 24) hok.1 (MG_T hg f1).2.2.1 mf (fun v l e => best_wf e) hs ?_
        simp (disch := omega) only [u_226_0, u_226_1, u_226_2, u_226_5, u_226_6, u_226_7, u_226_10, u_226_13, u_226_16, u_226_17, u_226_18, u_226_21, u_226_24, u_226_26, u_226_27, u_226_28, u_226_29, u_226_32, u_226_33, u_226_34, u_226_37, gI0, gIs, gR0, gRs, gF0, gFs, st0, st_i, st_r, st_f, st_n, st_s, true_and, and_true, ↓ifLeT, ↓ifLeF, ↓ifLtT, ↓ifLtF, ↓ifEqT, ↓ifEqF, if_tt, if_ff, if_pos, if_neg, nLe, nLt, nEq, nInT, nCl, pk_mul, nI_add, Nat.reduceAdd, s_cat_nil, s_cat_i, s_cat_r, s_cat_f, s_cat_l, tl_s, tl_n, cat_i, cat_r, cat_f, nb0, nb1, nbI, if_bI, if_bIr, Nat.zero_le, Nat.reduceLeDiff]
        exact K m' (RM_fr (frT_Z f1) hm0)
end MTL
