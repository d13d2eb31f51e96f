/-! the class's calls: WITHOUT, the dearest, SLACK, BETTER -/
section Q4
variable {b d : Nat} {s s' : tS} {h : sH} {i x w c t m : Int32} {Q : sQ} {z : tQ} {n : tN} {y : tY}
theorem RF_2 {o : tO} {r : Option (Nat × tL)} (h : RF o r) : eI o 2 = oI1 (r.map (·.1)) := by
  cases r with
  | none => exact h
  | some v => obtain ⟨m, l⟩ := v; exact h.1
theorem lack_300 {j v : Nat} (h : lackN n j = some v) : v ≤ 300 := by
  unfold lackN at h
  cases e : (bestN (lostN n (2 ^ j))).2 with
  | none => rw [e] at h; cases h
  | some q =>
    obtain ⟨m, l⟩ := q
    rw [e] at h
    cases h
    have : m < 301 := (best_in e).2.2
    show m ≤ 300
    omega
theorem q_without (hI : IC s z) (K : ∀ s', IC s' z → Q (some (.int (zwithout z c))) (pS s' h)) : MT (d + 21) 119 [.ref 0, .int c] (pS s h) Q := by
  rw [MT_go (by decide) _ _ _ (Nat.le_of_ble_eq_true rfl), show s_entry 119 [.ref 0, .int c] = [.ref 0, .int c] from rfl]
  have e1 := fun Q => q_isC (d := d + 19) (h := h) (Q := Q) (x := c) hI
  unfold zwithout at K
  cases hq : zQ z with
  | none =>
    simp only [hq] at K
    rw [zC_0 hq, ix_0] at e1
    simp (disch := omega) only [u_119_0, u_119_1, u_119_2, u_119_5, u_119_8, u_119_10, u_119_11, u_119_12, u_119_15, u_119_18, u_119_20, u_119_21, u_119_22, u_119_25, u_119_26, u_119_29, u_119_30, u_119_31, u_119_32, u_119_33, u_119_36, u_119_37, u_119_38, u_119_41, u_119_42, u_119_45, u_119_46, u_119_47, u_119_50, gI0, gIs, gR0, gRs, gF0, gFs, st0, st_i, st_r, st_f, st_n, st_s, true_and, and_true, ↓ifLeT, ↓ifLeF, ↓ifLtT, ↓ifLtF, ↓ifEqT, ↓ifEqF, if_tt, if_ff, if_pos, if_neg, nLe, nLt, nEq, nInT, nCl, pk_mul, nI_add, Nat.reduceAdd, s_cat_nil, s_cat_i, s_cat_r, s_cat_f, s_cat_l, tl_s, tl_n, cat_i, cat_r, cat_f, nb0, nb1, nbI, if_bI, if_bIr, Nat.zero_le, Nat.reduceLeDiff, S_ob0, S_ob239, e1, Option.isSome, iBf]
    exact K s hI
  | some n =>
    simp only [hq] at K
    rw [zC_s hq] at e1
    obtain ⟨hy, hok⟩ := IC_y hI hq
    have h4 := hok.1.1.1
    have e2 := fun Q => q_few (d := d + 18) (h := h) (Q := Q) hI hq
    cases h1 : ixN c (nF n 2) with
    | none =>
      rw [h1] at e1
      simp only [h1] at K
      simp (disch := omega) only [u_119_0, u_119_1, u_119_2, u_119_5, u_119_8, u_119_10, u_119_11, u_119_12, u_119_15, u_119_18, u_119_20, u_119_21, u_119_22, u_119_25, u_119_26, u_119_29, u_119_30, u_119_31, u_119_32, u_119_33, u_119_36, u_119_37, u_119_38, u_119_41, u_119_42, u_119_45, u_119_46, u_119_47, u_119_50, gI0, gIs, gR0, gRs, gF0, gFs, st0, st_i, st_r, st_f, st_n, st_s, true_and, and_true, ↓ifLeT, ↓ifLeF, ↓ifLtT, ↓ifLtF, ↓ifEqT, ↓ifEqF, if_tt, if_ff, if_pos, if_neg, nLe, nLt, nEq, nInT, nCl, pk_mul, nI_add, Nat.reduceAdd, s_cat_nil, s_cat_i, s_cat_r, s_cat_f, s_cat_l, tl_s, tl_n, cat_i, cat_r, cat_f, nb0, nb1, nbI, if_bI, if_bIr, Nat.zero_le, Nat.reduceLeDiff, S_ob0, S_ob239, e1, Option.isSome, iBf]
      exact K s hI
    | some j =>
      rw [h1] at e1
      simp only [h1] at K
      obtain ⟨j1, rfl⟩ := ix_some (by omega) h1
      have hj4 : j < 4 := by omega
      cases h2 : fewN n with
      | false =>
        rw [h2] at e2
        simp only [h2, Bool.false_eq_true, if_false] at K
        simp (disch := omega) only [u_119_0, u_119_1, u_119_2, u_119_5, u_119_8, u_119_10, u_119_11, u_119_12, u_119_15, u_119_18, u_119_20, u_119_21, u_119_22, u_119_25, u_119_26, u_119_29, u_119_30, u_119_31, u_119_32, u_119_33, u_119_36, u_119_37, u_119_38, u_119_41, u_119_42, u_119_45, u_119_46, u_119_47, u_119_50, gI0, gIs, gR0, gRs, gF0, gFs, st0, st_i, st_r, st_f, st_n, st_s, true_and, and_true, ↓ifLeT, ↓ifLeF, ↓ifLtT, ↓ifLtF, ↓ifEqT, ↓ifEqF, if_tt, if_ff, if_pos, if_neg, nLe, nLt, nEq, nInT, nCl, pk_mul, nI_add, Nat.reduceAdd, s_cat_nil, s_cat_i, s_cat_r, s_cat_f, s_cat_l, tl_s, tl_n, cat_i, cat_r, cat_f, nb0, nb1, nbI, if_bI, if_bIr, Nat.zero_le, Nat.reduceLeDiff, S_ob0, S_ob239, e1, e2, Option.isSome, iBt, nI10, reduceIte, Bool.not_false]
        exact K s hI
      | true =>
        rw [h2] at e2
        simp only [h2, if_true] at K
        have e3 := fun s f => S_r299 (s := s) (h := h) (f := f) hj4
        have e4 := i_shl1 (c := j) (by omega)
        simp (disch := omega) only [u_119_0, u_119_1, u_119_2, u_119_5, u_119_8, u_119_10, u_119_11, u_119_12, u_119_15, u_119_18, u_119_20, u_119_21, u_119_22, u_119_25, u_119_26, u_119_29, u_119_30, u_119_31, u_119_32, u_119_33, u_119_36, u_119_37, u_119_38, u_119_41, u_119_42, u_119_45, u_119_46, u_119_47, u_119_50, gI0, gIs, gR0, gRs, gF0, gFs, st0, st_i, st_r, st_f, st_n, st_s, true_and, and_true, ↓ifLeT, ↓ifLeF, ↓ifLtT, ↓ifLtF, ↓ifEqT, ↓ifEqF, if_tt, if_ff, if_pos, if_neg, nLe, nLt, nEq, nInT, nCl, pk_mul, nI_add, Nat.reduceAdd, s_cat_nil, s_cat_i, s_cat_r, s_cat_f, s_cat_l, tl_s, tl_n, cat_i, cat_r, cat_f, nb0, nb1, nbI, if_bI, if_bIr, Nat.zero_le, Nat.reduceLeDiff, S_ob0, S_ob239, S_g0_0, S_g0_1, S_g0_2, S_g0_3, S_g0_4, S_g0_5, S_g0_6, S_g0_7, S_g0_8, S_g0_9, S_g0_10, S_g0_11, S_g0_12, S_g0_13, S_g0_14, S_g1_0, S_g1_1, S_g1_2, S_g1_3, S_g1_4, S_g72_0, S_g72_1, S_g72_2, S_g239_0, S_g239_1, S_g239_2, S_g239_3, S_g239_4, S_g239_5, S_g239_6, S_a23, S_n23, S_a282, S_n282, S_a300, S_n300, S_n73, S_n299, e1, e2, Option.isSome, iBt, iBf, nI10, reduceIte, Bool.not_true, e3, e4]
        refine f_lack hI hq j1 fun s' hI' hr => ?_
        simp (disch := omega) only [u_119_0, u_119_1, u_119_2, u_119_5, u_119_8, u_119_10, u_119_11, u_119_12, u_119_15, u_119_18, u_119_20, u_119_21, u_119_22, u_119_25, u_119_26, u_119_29, u_119_30, u_119_31, u_119_32, u_119_33, u_119_36, u_119_37, u_119_38, u_119_41, u_119_42, u_119_45, u_119_46, u_119_47, u_119_50, gI0, gIs, gR0, gRs, gF0, gFs, st0, st_i, st_r, st_f, st_n, st_s, true_and, and_true, ↓ifLeT, ↓ifLeF, ↓ifLtT, ↓ifLtF, ↓ifEqT, ↓ifEqF, if_tt, if_ff, if_pos, if_neg, nLe, nLt, nEq, nInT, nCl, pk_mul, nI_add, Nat.reduceAdd, s_cat_nil, s_cat_i, s_cat_r, s_cat_f, s_cat_l, tl_s, tl_n, cat_i, cat_r, cat_f, nb0, nb1, nbI, if_bI, if_bIr, Nat.zero_le, Nat.reduceLeDiff, S_ob0, S_ob239, S_g0_0, S_g0_1, S_g0_2, S_g0_3, S_g0_4, S_g0_5, S_g0_6, S_g0_7, S_g0_8, S_g0_9, S_g0_10, S_g0_11, S_g0_12, S_g0_13, S_g0_14, S_g1_0, S_g1_1, S_g1_2, S_g1_3, S_g1_4, S_g72_0, S_g72_1, S_g72_2, S_g239_0, S_g239_1, S_g239_2, S_g239_3, S_g239_4, S_g239_5, S_g239_6, S_a23, S_n23, S_a282, S_n282, S_a300, S_n300, S_n73, S_n299, e3, C_g2 (cbA hj4), RF_2 hr]
        exact K s' hI'
theorem neg1_le {k : Nat} (hk : k < 2 ^ 31) : ¬ nI k ≤ -1 := by
  rw [Int32.le_iff_toInt_le, nI_toInt hk, show (-1 : Int32).toInt = -1 by decide]
  omega
theorem dear_n {c : Nat} (hk : nK n c = false) : dearS n c none = some (c, (lackN n c).getD 301) := by
  unfold dearS; rw [if_neg (by rw [hk]; decide)]
theorem dear_s {c b p : Nat} (hk : nK n c = false) : dearS n c (some (b, p)) = if p < (lackN n c).getD 301 then some (c, (lackN n c).getD 301) else some (b, p) := by
  unfold dearS; rw [if_neg (by rw [hk]; decide)]
theorem cost_r {c : Nat} (A : Int32 → Prop) : (if oI1 (lackN n c) = -1 then A (nI 301) else A (oI1 (lackN n c))) ↔ A (nI ((lackN n c).getD 301)) := by
  cases e : lackN n c with
  | none => rw [show oI1 none = -1 from rfl, if_pos rfl]; exact Iff.rfl
  | some v =>
    have := lack_300 e
    rw [show oI1 (some v) = nI v from rfl, if_neg (m1_ne (by omega))]; exact Iff.rfl
theorem dear_lp {w v1 : Int32} (hq : zQ z = some n) : ∀ m c s (st : Option (Nat × Nat)) v5, c + m = nF n 2 → IC s z → (∀ p, st = some p → p.1 < 4 ∧ p.2 ≤ 301) → (∀ s' v, IC s' z → (∀ p, iter (dearS n) c m st = some p → p.1 < 4 ∧ p.2 ≤ 301) → WP (d + 20) 117 132 [.ref 0, .int w, .int (oI1 ((iter (dearS n) c m st).map (·.1))), .int (oI1 ((iter (dearS n) c m st).map (·.2))), .int (nI (nF n 2)), v] [] (pS s' h) (0, 0) Q) → WP (d + 20) 117 36 [.ref 0, .int w, .int (oI1 (st.map (·.1))), .int (oI1 (st.map (·.2))), .int (nI c), v5] [] (pS s h) (0, 0) Q := by
  intro m
  induction m with
  | zero =>
    intro c s st v5 hc hI hst K
    have e : c = nF n 2 := by omega
    subst e
    obtain ⟨hy, hok⟩ := IC_y hI hq
    have h4 := hok.1.1.1
    have hC := hy.1.2.2.1
    rw [u_117_36]
    simp (disch := omega) only [u_117_0, u_117_1, u_117_4, u_117_7, u_117_8, u_117_11, u_117_12, u_117_13, u_117_16, u_117_18, u_117_19, u_117_20, u_117_23, u_117_26, u_117_28, u_117_29, u_117_30, u_117_31, u_117_32, u_117_33, u_117_34, u_117_38, u_117_39, u_117_42, u_117_45, u_117_48, u_117_49, u_117_52, u_117_54, u_117_57, u_117_60, u_117_61, u_117_64, u_117_65, u_117_68, u_117_69, u_117_71, u_117_72, u_117_73, u_117_76, u_117_78, u_117_79, u_117_82, u_117_83, u_117_86, u_117_88, u_117_89, u_117_92, u_117_93, u_117_96, u_117_99, u_117_102, u_117_103, u_117_106, u_117_108, u_117_109, u_117_112, u_117_114, u_117_116, u_117_117, u_117_120, u_117_122, u_117_123, u_117_125, u_117_126, u_117_129, u_117_133, u_117_136, u_117_137, u_117_140, u_117_141, u_117_144, u_117_147, u_117_148, u_117_151, u_117_152, gI0, gIs, gR0, gRs, gF0, gFs, st0, st_i, st_r, st_f, st_n, st_s, true_and, and_true, ↓ifLeT, ↓ifLeF, ↓ifLtT, ↓ifLtF, ↓ifEqT, ↓ifEqF, if_tt, if_ff, if_pos, if_neg, nLe, nLt, nEq, nInT, nCl, pk_mul, nI_add, Nat.reduceAdd, s_cat_nil, s_cat_i, s_cat_r, s_cat_f, s_cat_l, tl_s, tl_n, cat_i, cat_r, cat_f, nb0, nb1, nbI, if_bI, if_bIr, Nat.zero_le, Nat.reduceLeDiff, S_ob0, S_ob239, S_g0_0, S_g0_1, S_g0_2, S_g0_3, S_g0_4, S_g0_5, S_g0_6, S_g0_7, S_g0_8, S_g0_9, S_g0_10, S_g0_11, S_g0_12, S_g0_13, S_g0_14, S_g1_0, S_g1_1, S_g1_2, S_g1_3, S_g1_4, S_g72_0, S_g72_1, S_g72_2, S_g239_0, S_g239_1, S_g239_2, S_g239_3, S_g239_4, S_g239_5, S_g239_6, S_a23, S_n23, S_a282, S_n282, S_a300, S_n300, S_n73, S_n299, Y'_ob (isY_S yb24), Y'_g0 (isY_S yb24), Y'_g1 (isY_S yb24), Y'_g2 (isY_S yb24), Y'_g3 (isY_S yb24), Y'_g4 (isY_S yb24), Y'_g5 (isY_S yb24), Y'_g6 (isY_S yb24), Y'_g7 (isY_S yb24), Y'_g8 (isY_S yb24), Y'_g9 (isY_S yb24), Y'_g10 (isY_S yb24), Y'_g11 (isY_S yb24), Y'_g12 (isY_S yb24), Y'_g13 (isY_S yb24), Y'_g14 (isY_S yb24), Y'_g15 (isY_S yb24), Y'_g16 (isY_S yb24), Y'_g17 (isY_S yb24), Y'_g18 (isY_S yb24), Y'_g19 (isY_S yb24), Y'_a7 (isY_S yb24), Y'_a8 (isY_S yb24), Y'_a10 (isY_S yb24), Y'_a11 (isY_S yb24), Y'_a12 (isY_S yb24), Y'_a13 (isY_S yb24), Y'_a14 (isY_S yb24), Y'_a15 (isY_S yb24), Y'_a16 (isY_S yb24), Y'_a17 (isY_S yb24), Y'_a18 (isY_S yb24), Y'_sw (isY_S yb24), hC]
    exact K s v5 hI hst
  | succ m ih =>
    intro c s st v5 hc hI hst K
    obtain ⟨hy, hok⟩ := IC_y hI hq
    have h4 := hok.1.1.1
    have hC := hy.1.2.2.1
    have hc4 : c < 4 := by omega
    have e1 := fun Q => N_brk (d := d + 19) (h := h) (Q := Q) hy hok.1 (j := c) (by omega)
    rw [iter] at K
    rw [u_117_36]
    cases hk : nK n c with
    | true =>
      have e2 : dearS n c st = st := by unfold dearS; rw [if_pos hk]
      rw [e2] at K
      rw [hk] at e1
      simp (disch := omega) only [u_117_0, u_117_1, u_117_4, u_117_7, u_117_8, u_117_11, u_117_12, u_117_13, u_117_16, u_117_18, u_117_19, u_117_20, u_117_23, u_117_26, u_117_28, u_117_29, u_117_30, u_117_31, u_117_32, u_117_33, u_117_34, u_117_38, u_117_39, u_117_42, u_117_45, u_117_48, u_117_49, u_117_52, u_117_54, u_117_57, u_117_60, u_117_61, u_117_64, u_117_65, u_117_68, u_117_69, u_117_71, u_117_72, u_117_73, u_117_76, u_117_78, u_117_79, u_117_82, u_117_83, u_117_86, u_117_88, u_117_89, u_117_92, u_117_93, u_117_96, u_117_99, u_117_102, u_117_103, u_117_106, u_117_108, u_117_109, u_117_112, u_117_114, u_117_116, u_117_117, u_117_120, u_117_122, u_117_123, u_117_125, u_117_126, u_117_129, u_117_133, u_117_136, u_117_137, u_117_140, u_117_141, u_117_144, u_117_147, u_117_148, u_117_151, u_117_152, gI0, gIs, gR0, gRs, gF0, gFs, st0, st_i, st_r, st_f, st_n, st_s, true_and, and_true, ↓ifLeT, ↓ifLeF, ↓ifLtT, ↓ifLtF, ↓ifEqT, ↓ifEqF, if_tt, if_ff, if_pos, if_neg, nLe, nLt, nEq, nInT, nCl, pk_mul, nI_add, Nat.reduceAdd, s_cat_nil, s_cat_i, s_cat_r, s_cat_f, s_cat_l, tl_s, tl_n, cat_i, cat_r, cat_f, nb0, nb1, nbI, if_bI, if_bIr, Nat.zero_le, Nat.reduceLeDiff, S_ob0, S_ob239, S_g0_0, S_g0_1, S_g0_2, S_g0_3, S_g0_4, S_g0_5, S_g0_6, S_g0_7, S_g0_8, S_g0_9, S_g0_10, S_g0_11, S_g0_12, S_g0_13, S_g0_14, S_g1_0, S_g1_1, S_g1_2, S_g1_3, S_g1_4, S_g72_0, S_g72_1, S_g72_2, S_g239_0, S_g239_1, S_g239_2, S_g239_3, S_g239_4, S_g239_5, S_g239_6, S_a23, S_n23, S_a282, S_n282, S_a300, S_n300, S_n73, S_n299, Y'_ob (isY_S yb24), Y'_g0 (isY_S yb24), Y'_g1 (isY_S yb24), Y'_g2 (isY_S yb24), Y'_g3 (isY_S yb24), Y'_g4 (isY_S yb24), Y'_g5 (isY_S yb24), Y'_g6 (isY_S yb24), Y'_g7 (isY_S yb24), Y'_g8 (isY_S yb24), Y'_g9 (isY_S yb24), Y'_g10 (isY_S yb24), Y'_g11 (isY_S yb24), Y'_g12 (isY_S yb24), Y'_g13 (isY_S yb24), Y'_g14 (isY_S yb24), Y'_g15 (isY_S yb24), Y'_g16 (isY_S yb24), Y'_g17 (isY_S yb24), Y'_g18 (isY_S yb24), Y'_g19 (isY_S yb24), Y'_a7 (isY_S yb24), Y'_a8 (isY_S yb24), Y'_a10 (isY_S yb24), Y'_a11 (isY_S yb24), Y'_a12 (isY_S yb24), Y'_a13 (isY_S yb24), Y'_a14 (isY_S yb24), Y'_a15 (isY_S yb24), Y'_a16 (isY_S yb24), Y'_a17 (isY_S yb24), Y'_a18 (isY_S yb24), Y'_sw (isY_S yb24), hC, e1, iBt, nI10, reduceIte]
      exact ih (c + 1) s st v5 (by omega) hI hst K
    | false =>
      rw [hk] at e1
      have e3 := fun s f => S_r299 (s := s) (h := h) (f := f) hc4
      have e4 := i_shl1 (c := c) (by omega)
      simp (disch := omega) only [u_117_0, u_117_1, u_117_4, u_117_7, u_117_8, u_117_11, u_117_12, u_117_13, u_117_16, u_117_18, u_117_19, u_117_20, u_117_23, u_117_26, u_117_28, u_117_29, u_117_30, u_117_31, u_117_32, u_117_33, u_117_34, u_117_38, u_117_39, u_117_42, u_117_45, u_117_48, u_117_49, u_117_52, u_117_54, u_117_57, u_117_60, u_117_61, u_117_64, u_117_65, u_117_68, u_117_69, u_117_71, u_117_72, u_117_73, u_117_76, u_117_78, u_117_79, u_117_82, u_117_83, u_117_86, u_117_88, u_117_89, u_117_92, u_117_93, u_117_96, u_117_99, u_117_102, u_117_103, u_117_106, u_117_108, u_117_109, u_117_112, u_117_114, u_117_116, u_117_117, u_117_120, u_117_122, u_117_123, u_117_125, u_117_126, u_117_129, u_117_133, u_117_136, u_117_137, u_117_140, u_117_141, u_117_144, u_117_147, u_117_148, u_117_151, u_117_152, gI0, gIs, gR0, gRs, gF0, gFs, st0, st_i, st_r, st_f, st_n, st_s, true_and, and_true, ↓ifLeT, ↓ifLeF, ↓ifLtT, ↓ifLtF, ↓ifEqT, ↓ifEqF, if_tt, if_ff, if_pos, if_neg, nLe, nLt, nEq, nInT, nCl, pk_mul, nI_add, Nat.reduceAdd, s_cat_nil, s_cat_i, s_cat_r, s_cat_f, s_cat_l, tl_s, tl_n, cat_i, cat_r, cat_f, nb0, nb1, nbI, if_bI, if_bIr, Nat.zero_le, Nat.reduceLeDiff, S_ob0, S_ob239, S_g0_0, S_g0_1, S_g0_2, S_g0_3, S_g0_4, S_g0_5, S_g0_6, S_g0_7, S_g0_8, S_g0_9, S_g0_10, S_g0_11, S_g0_12, S_g0_13, S_g0_14, S_g1_0, S_g1_1, S_g1_2, S_g1_3, S_g1_4, S_g72_0, S_g72_1, S_g72_2, S_g239_0, S_g239_1, S_g239_2, S_g239_3, S_g239_4, S_g239_5, S_g239_6, S_a23, S_n23, S_a282, S_n282, S_a300, S_n300, S_n73, S_n299, Y'_ob (isY_S yb24), Y'_g0 (isY_S yb24), Y'_g1 (isY_S yb24), Y'_g2 (isY_S yb24), Y'_g3 (isY_S yb24), Y'_g4 (isY_S yb24), Y'_g5 (isY_S yb24), Y'_g6 (isY_S yb24), Y'_g7 (isY_S yb24), Y'_g8 (isY_S yb24), Y'_g9 (isY_S yb24), Y'_g10 (isY_S yb24), Y'_g11 (isY_S yb24), Y'_g12 (isY_S yb24), Y'_g13 (isY_S yb24), Y'_g14 (isY_S yb24), Y'_g15 (isY_S yb24), Y'_g16 (isY_S yb24), Y'_g17 (isY_S yb24), Y'_g18 (isY_S yb24), Y'_g19 (isY_S yb24), Y'_a7 (isY_S yb24), Y'_a8 (isY_S yb24), Y'_a10 (isY_S yb24), Y'_a11 (isY_S yb24), Y'_a12 (isY_S yb24), Y'_a13 (isY_S yb24), Y'_a14 (isY_S yb24), Y'_a15 (isY_S yb24), Y'_a16 (isY_S yb24), Y'_a17 (isY_S yb24), Y'_a18 (isY_S yb24), Y'_sw (isY_S yb24), S_ob239, hC, e1, iBf, e3, e4]
      refine f_lack (d := d) hI hq (j := c) (by omega) fun s' hI' hr => ?_
      have hr2 : eI (SO s' (301 + 4 * c)) 2 = oI1 (lackN n c) := RF_2 hr
      have hC' := (IC_y hI' hq).1.1.2.2.1
      have hl : (lackN n c).getD 301 ≤ 301 := by
        cases e : lackN n c with
        | none => exact Nat.le_refl _
        | some v => have := lack_300 e; show v ≤ 301; omega
      have go : WP (d + 20) 117 114 [.ref 0, .int w, .int (oI1 (st.map (·.1))), .int (oI1 (st.map (·.2))), .int (nI c), .int (nI ((lackN n c).getD 301))] [] (pS s' h) (0, 0) Q := by
        cases st with
        | none =>
          have e2 := dear_n hk
          rw [e2] at K
          have l : ¬ nI ((lackN n c).getD 301) ≤ -1 := neg1_le (by omega)
          have o1 : oI1 ((none : Option (Nat × Nat)).map (·.2)) = -1 := rfl
          simp (disch := omega) only [u_117_0, u_117_1, u_117_4, u_117_7, u_117_8, u_117_11, u_117_12, u_117_13, u_117_16, u_117_18, u_117_19, u_117_20, u_117_23, u_117_26, u_117_28, u_117_29, u_117_30, u_117_31, u_117_32, u_117_33, u_117_34, u_117_38, u_117_39, u_117_42, u_117_45, u_117_48, u_117_49, u_117_52, u_117_54, u_117_57, u_117_60, u_117_61, u_117_64, u_117_65, u_117_68, u_117_69, u_117_71, u_117_72, u_117_73, u_117_76, u_117_78, u_117_79, u_117_82, u_117_83, u_117_86, u_117_88, u_117_89, u_117_92, u_117_93, u_117_96, u_117_99, u_117_102, u_117_103, u_117_106, u_117_108, u_117_109, u_117_112, u_117_114, u_117_116, u_117_117, u_117_120, u_117_122, u_117_123, u_117_125, u_117_126, u_117_129, u_117_133, u_117_136, u_117_137, u_117_140, u_117_141, u_117_144, u_117_147, u_117_148, u_117_151, u_117_152, gI0, gIs, gR0, gRs, gF0, gFs, st0, st_i, st_r, st_f, st_n, st_s, true_and, and_true, ↓ifLeT, ↓ifLeF, ↓ifLtT, ↓ifLtF, ↓ifEqT, ↓ifEqF, if_tt, if_ff, if_pos, if_neg, nLe, nLt, nEq, nInT, nCl, pk_mul, nI_add, Nat.reduceAdd, s_cat_nil, s_cat_i, s_cat_r, s_cat_f, s_cat_l, tl_s, tl_n, cat_i, cat_r, cat_f, nb0, nb1, nbI, if_bI, if_bIr, Nat.zero_le, Nat.reduceLeDiff, S_ob0, S_ob239, S_g0_0, S_g0_1, S_g0_2, S_g0_3, S_g0_4, S_g0_5, S_g0_6, S_g0_7, S_g0_8, S_g0_9, S_g0_10, S_g0_11, S_g0_12, S_g0_13, S_g0_14, S_g1_0, S_g1_1, S_g1_2, S_g1_3, S_g1_4, S_g72_0, S_g72_1, S_g72_2, S_g239_0, S_g239_1, S_g239_2, S_g239_3, S_g239_4, S_g239_5, S_g239_6, S_a23, S_n23, S_a282, S_n282, S_a300, S_n300, S_n73, S_n299, Y'_ob (isY_S yb24), Y'_g0 (isY_S yb24), Y'_g1 (isY_S yb24), Y'_g2 (isY_S yb24), Y'_g3 (isY_S yb24), Y'_g4 (isY_S yb24), Y'_g5 (isY_S yb24), Y'_g6 (isY_S yb24), Y'_g7 (isY_S yb24), Y'_g8 (isY_S yb24), Y'_g9 (isY_S yb24), Y'_g10 (isY_S yb24), Y'_g11 (isY_S yb24), Y'_g12 (isY_S yb24), Y'_g13 (isY_S yb24), Y'_g14 (isY_S yb24), Y'_g15 (isY_S yb24), Y'_g16 (isY_S yb24), Y'_g17 (isY_S yb24), Y'_g18 (isY_S yb24), Y'_g19 (isY_S yb24), Y'_a7 (isY_S yb24), Y'_a8 (isY_S yb24), Y'_a10 (isY_S yb24), Y'_a11 (isY_S yb24), Y'_a12 (isY_S yb24), Y'_a13 (isY_S yb24), Y'_a14 (isY_S yb24), Y'_a15 (isY_S yb24), Y'_a16 (isY_S yb24), Y'_a17 (isY_S yb24), Y'_a18 (isY_S yb24), Y'_sw (isY_S yb24), hC', o1, l]
          exact ih (c + 1) s' (some (c, (lackN n c).getD 301)) _ (by omega) hI' (fun p hp => by cases hp; exact ⟨hc4, hl⟩) K
        | some v =>
          obtain ⟨b, p⟩ := v
          obtain ⟨b4, p1⟩ := hst (b, p) rfl
          have b4 : b < 4 := b4
          have p1 : p ≤ 301 := p1
          have o1 : oI1 ((some (b, p)).map (·.2)) = nI p := rfl
          by_cases hp : p < (lackN n c).getD 301
          · have e2 : dearS n c (some (b, p)) = some (c, (lackN n c).getD 301) := (dear_s hk).trans (if_pos hp)
            rw [e2] at K
            have l : ¬ nI ((lackN n c).getD 301) ≤ nI p := nI_ge hp (by omega)
            simp (disch := omega) only [u_117_0, u_117_1, u_117_4, u_117_7, u_117_8, u_117_11, u_117_12, u_117_13, u_117_16, u_117_18, u_117_19, u_117_20, u_117_23, u_117_26, u_117_28, u_117_29, u_117_30, u_117_31, u_117_32, u_117_33, u_117_34, u_117_38, u_117_39, u_117_42, u_117_45, u_117_48, u_117_49, u_117_52, u_117_54, u_117_57, u_117_60, u_117_61, u_117_64, u_117_65, u_117_68, u_117_69, u_117_71, u_117_72, u_117_73, u_117_76, u_117_78, u_117_79, u_117_82, u_117_83, u_117_86, u_117_88, u_117_89, u_117_92, u_117_93, u_117_96, u_117_99, u_117_102, u_117_103, u_117_106, u_117_108, u_117_109, u_117_112, u_117_114, u_117_116, u_117_117, u_117_120, u_117_122, u_117_123, u_117_125, u_117_126, u_117_129, u_117_133, u_117_136, u_117_137, u_117_140, u_117_141, u_117_144, u_117_147, u_117_148, u_117_151, u_117_152, gI0, gIs, gR0, gRs, gF0, gFs, st0, st_i, st_r, st_f, st_n, st_s, true_and, and_true, ↓ifLeT, ↓ifLeF, ↓ifLtT, ↓ifLtF, ↓ifEqT, ↓ifEqF, if_tt, if_ff, if_pos, if_neg, nLe, nLt, nEq, nInT, nCl, pk_mul, nI_add, Nat.reduceAdd, s_cat_nil, s_cat_i, s_cat_r, s_cat_f, s_cat_l, tl_s, tl_n, cat_i, cat_r, cat_f, nb0, nb1, nbI, if_bI, if_bIr, Nat.zero_le, Nat.reduceLeDiff, S_ob0, S_ob239, S_g0_0, S_g0_1, S_g0_2, S_g0_3, S_g0_4, S_g0_5, S_g0_6, S_g0_7, S_g0_8, S_g0_9, S_g0_10, S_g0_11, S_g0_12, S_g0_13, S_g0_14, S_g1_0, S_g1_1, S_g1_2, S_g1_3, S_g1_4, S_g72_0, S_g72_1, S_g72_2, S_g239_0, S_g239_1, S_g239_2, S_g239_3, S_g239_4, S_g239_5, S_g239_6, S_a23, S_n23, S_a282, S_n282, S_a300, S_n300, S_n73, S_n299, Y'_ob (isY_S yb24), Y'_g0 (isY_S yb24), Y'_g1 (isY_S yb24), Y'_g2 (isY_S yb24), Y'_g3 (isY_S yb24), Y'_g4 (isY_S yb24), Y'_g5 (isY_S yb24), Y'_g6 (isY_S yb24), Y'_g7 (isY_S yb24), Y'_g8 (isY_S yb24), Y'_g9 (isY_S yb24), Y'_g10 (isY_S yb24), Y'_g11 (isY_S yb24), Y'_g12 (isY_S yb24), Y'_g13 (isY_S yb24), Y'_g14 (isY_S yb24), Y'_g15 (isY_S yb24), Y'_g16 (isY_S yb24), Y'_g17 (isY_S yb24), Y'_g18 (isY_S yb24), Y'_g19 (isY_S yb24), Y'_a7 (isY_S yb24), Y'_a8 (isY_S yb24), Y'_a10 (isY_S yb24), Y'_a11 (isY_S yb24), Y'_a12 (isY_S yb24), Y'_a13 (isY_S yb24), Y'_a14 (isY_S yb24), Y'_a15 (isY_S yb24), Y'_a16 (isY_S yb24), Y'_a17 (isY_S yb24), Y'_a18 (isY_S yb24), Y'_sw (isY_S yb24), hC', o1, l]
            exact ih (c + 1) s' (some (c, (lackN n c).getD 301)) _ (by omega) hI' (fun p hp => by cases hp; exact ⟨hc4, hl⟩) K
          · have e2 : dearS n c (some (b, p)) = some (b, p) := (dear_s hk).trans (if_neg hp)
            rw [e2] at K
            have l : nI ((lackN n c).getD 301) ≤ nI p := nI_le (by omega) (by omega)
            have o3 : oI1 ((some (b, p)).map (·.1)) = nI b := rfl
            simp (disch := omega) only [u_117_0, u_117_1, u_117_4, u_117_7, u_117_8, u_117_11, u_117_12, u_117_13, u_117_16, u_117_18, u_117_19, u_117_20, u_117_23, u_117_26, u_117_28, u_117_29, u_117_30, u_117_31, u_117_32, u_117_33, u_117_34, u_117_38, u_117_39, u_117_42, u_117_45, u_117_48, u_117_49, u_117_52, u_117_54, u_117_57, u_117_60, u_117_61, u_117_64, u_117_65, u_117_68, u_117_69, u_117_71, u_117_72, u_117_73, u_117_76, u_117_78, u_117_79, u_117_82, u_117_83, u_117_86, u_117_88, u_117_89, u_117_92, u_117_93, u_117_96, u_117_99, u_117_102, u_117_103, u_117_106, u_117_108, u_117_109, u_117_112, u_117_114, u_117_116, u_117_117, u_117_120, u_117_122, u_117_123, u_117_125, u_117_126, u_117_129, u_117_133, u_117_136, u_117_137, u_117_140, u_117_141, u_117_144, u_117_147, u_117_148, u_117_151, u_117_152, gI0, gIs, gR0, gRs, gF0, gFs, st0, st_i, st_r, st_f, st_n, st_s, true_and, and_true, ↓ifLeT, ↓ifLeF, ↓ifLtT, ↓ifLtF, ↓ifEqT, ↓ifEqF, if_tt, if_ff, if_pos, if_neg, nLe, nLt, nEq, nInT, nCl, pk_mul, nI_add, Nat.reduceAdd, s_cat_nil, s_cat_i, s_cat_r, s_cat_f, s_cat_l, tl_s, tl_n, cat_i, cat_r, cat_f, nb0, nb1, nbI, if_bI, if_bIr, Nat.zero_le, Nat.reduceLeDiff, S_ob0, S_ob239, S_g0_0, S_g0_1, S_g0_2, S_g0_3, S_g0_4, S_g0_5, S_g0_6, S_g0_7, S_g0_8, S_g0_9, S_g0_10, S_g0_11, S_g0_12, S_g0_13, S_g0_14, S_g1_0, S_g1_1, S_g1_2, S_g1_3, S_g1_4, S_g72_0, S_g72_1, S_g72_2, S_g239_0, S_g239_1, S_g239_2, S_g239_3, S_g239_4, S_g239_5, S_g239_6, S_a23, S_n23, S_a282, S_n282, S_a300, S_n300, S_n73, S_n299, Y'_ob (isY_S yb24), Y'_g0 (isY_S yb24), Y'_g1 (isY_S yb24), Y'_g2 (isY_S yb24), Y'_g3 (isY_S yb24), Y'_g4 (isY_S yb24), Y'_g5 (isY_S yb24), Y'_g6 (isY_S yb24), Y'_g7 (isY_S yb24), Y'_g8 (isY_S yb24), Y'_g9 (isY_S yb24), Y'_g10 (isY_S yb24), Y'_g11 (isY_S yb24), Y'_g12 (isY_S yb24), Y'_g13 (isY_S yb24), Y'_g14 (isY_S yb24), Y'_g15 (isY_S yb24), Y'_g16 (isY_S yb24), Y'_g17 (isY_S yb24), Y'_g18 (isY_S yb24), Y'_g19 (isY_S yb24), Y'_a7 (isY_S yb24), Y'_a8 (isY_S yb24), Y'_a10 (isY_S yb24), Y'_a11 (isY_S yb24), Y'_a12 (isY_S yb24), Y'_a13 (isY_S yb24), Y'_a14 (isY_S yb24), Y'_a15 (isY_S yb24), Y'_a16 (isY_S yb24), Y'_a17 (isY_S yb24), Y'_a18 (isY_S yb24), Y'_sw (isY_S yb24), hC', o1, o3, l]
            exact ih (c + 1) s' (some (b, p)) _ (by omega) hI' hst K
      simp (disch := omega) only [u_117_0, u_117_1, u_117_4, u_117_7, u_117_8, u_117_11, u_117_12, u_117_13, u_117_16, u_117_18, u_117_19, u_117_20, u_117_23, u_117_26, u_117_28, u_117_29, u_117_30, u_117_31, u_117_32, u_117_33, u_117_34, u_117_38, u_117_39, u_117_42, u_117_45, u_117_48, u_117_49, u_117_52, u_117_54, u_117_57, u_117_60, u_117_61, u_117_64, u_117_65, u_117_68, u_117_69, u_117_71, u_117_72, u_117_73, u_117_76, u_117_78, u_117_79, u_117_82, u_117_83, u_117_86, u_117_88, u_117_89, u_117_92, u_117_93, u_117_96, u_117_99, u_117_102, u_117_103, u_117_106, u_117_108, u_117_109, u_117_112, u_117_116, u_117_117, u_117_120, u_117_122, u_117_123, u_117_125, u_117_126, u_117_129, u_117_133, u_117_136, u_117_137, u_117_140, u_117_141, u_117_144, u_117_147, u_117_148, u_117_151, u_117_152, gI0, gIs, gR0, gRs, gF0, gFs, st0, st_i, st_r, st_f, st_n, st_s, true_and, and_true, ↓ifLeT, ↓ifLeF, ↓ifLtT, ↓ifLtF, ↓ifEqT, ↓ifEqF, if_tt, if_ff, if_pos, if_neg, nLe, nLt, nEq, nInT, nCl, pk_mul, nI_add, Nat.reduceAdd, s_cat_nil, s_cat_i, s_cat_r, s_cat_f, s_cat_l, tl_s, tl_n, cat_i, cat_r, cat_f, nb0, nb1, nbI, if_bI, if_bIr, Nat.zero_le, Nat.reduceLeDiff, S_ob0, S_ob239, S_g0_0, S_g0_1, S_g0_2, S_g0_3, S_g0_4, S_g0_5, S_g0_6, S_g0_7, S_g0_8, S_g0_9, S_g0_10, S_g0_11, S_g0_12, S_g0_13, S_g0_14, S_g1_0, S_g1_1, S_g1_2, S_g1_3, S_g1_4, S_g72_0, S_g72_1, S_g72_2, S_g239_0, S_g239_1, S_g239_2, S_g239_3, S_g239_4, S_g239_5, S_g239_6, S_a23, S_n23, S_a282, S_n282, S_a300, S_n300, S_n73, S_n299, e3, C_g2 (cbA hc4), hr2]
      exact (cost_r fun v => WP (d + 20) 117 114 [.ref 0, .int w, .int (oI1 (st.map (·.1))), .int (oI1 (st.map (·.2))), .int (nI c), .int v] [] (pS s' h) (0, 0) Q).mpr go
theorem q_dearest (hI : IC s z) (K : ∀ s', IC s' z → Q (some (.int (zdearest z w))) (pS s' h)) : MT (d + 21) 117 [.ref 0, .int w] (pS s h) Q := by
  rw [MT_go (by decide) _ _ _ (Nat.le_of_ble_eq_true rfl), show s_entry 117 [.ref 0, .int w] = [.ref 0, .int w, s_no, s_no, s_no, s_no] from rfl]
  have e0 := fun Q => q_has (d := d + 19) (h := h) (Q := Q) hI
  unfold zdearest at K
  cases hq : zQ z with
  | none =>
    simp only [hq] at K
    simp (disch := omega) only [u_117_0, u_117_1, u_117_4, u_117_7, u_117_8, u_117_11, u_117_12, u_117_13, u_117_16, u_117_18, u_117_19, u_117_20, u_117_23, u_117_26, u_117_28, u_117_29, u_117_30, u_117_31, u_117_32, u_117_33, u_117_34, u_117_38, u_117_39, u_117_42, u_117_45, u_117_48, u_117_49, u_117_52, u_117_54, u_117_57, u_117_60, u_117_61, u_117_64, u_117_65, u_117_68, u_117_69, u_117_71, u_117_72, u_117_73, u_117_76, u_117_78, u_117_79, u_117_82, u_117_83, u_117_86, u_117_88, u_117_89, u_117_92, u_117_93, u_117_96, u_117_99, u_117_102, u_117_103, u_117_106, u_117_108, u_117_109, u_117_112, u_117_114, u_117_116, u_117_117, u_117_120, u_117_122, u_117_123, u_117_125, u_117_126, u_117_129, u_117_132, u_117_133, u_117_136, u_117_137, u_117_140, u_117_141, u_117_144, u_117_147, u_117_148, u_117_151, u_117_152, gI0, gIs, gR0, gRs, gF0, gFs, st0, st_i, st_r, st_f, st_n, st_s, true_and, and_true, ↓ifLeT, ↓ifLeF, ↓ifLtT, ↓ifLtF, ↓ifEqT, ↓ifEqF, if_tt, if_ff, if_pos, if_neg, nLe, nLt, nEq, nInT, nCl, pk_mul, nI_add, Nat.reduceAdd, s_cat_nil, s_cat_i, s_cat_r, s_cat_f, s_cat_l, tl_s, tl_n, cat_i, cat_r, cat_f, nb0, nb1, nbI, if_bI, if_bIr, Nat.zero_le, Nat.reduceLeDiff, S_ob0, S_ob239, e0, hq, Option.isSome, iBf]
    exact K s hI
  | some n =>
    simp only [hq] at K
    obtain ⟨hy, hok⟩ := IC_y hI hq
    have e1 := fun Q => q_few (d := d + 18) (h := h) (Q := Q) hI hq
    cases h1 : ixN w 2 with
    | none =>
      simp only [h1] at K
      rcases ix_out (by decide) (by decide) h1 with a | ⟨a, -, -, b1, b2⟩
      · simp (disch := omega) only [u_117_0, u_117_1, u_117_4, u_117_7, u_117_8, u_117_11, u_117_12, u_117_13, u_117_16, u_117_18, u_117_19, u_117_20, u_117_23, u_117_26, u_117_28, u_117_29, u_117_30, u_117_31, u_117_32, u_117_33, u_117_34, u_117_38, u_117_39, u_117_42, u_117_45, u_117_48, u_117_49, u_117_52, u_117_54, u_117_57, u_117_60, u_117_61, u_117_64, u_117_65, u_117_68, u_117_69, u_117_71, u_117_72, u_117_73, u_117_76, u_117_78, u_117_79, u_117_82, u_117_83, u_117_86, u_117_88, u_117_89, u_117_92, u_117_93, u_117_96, u_117_99, u_117_102, u_117_103, u_117_106, u_117_108, u_117_109, u_117_112, u_117_114, u_117_116, u_117_117, u_117_120, u_117_122, u_117_123, u_117_125, u_117_126, u_117_129, u_117_132, u_117_133, u_117_136, u_117_137, u_117_140, u_117_141, u_117_144, u_117_147, u_117_148, u_117_151, u_117_152, gI0, gIs, gR0, gRs, gF0, gFs, st0, st_i, st_r, st_f, st_n, st_s, true_and, and_true, ↓ifLeT, ↓ifLeF, ↓ifLtT, ↓ifLtF, ↓ifEqT, ↓ifEqF, if_tt, if_ff, if_pos, if_neg, nLe, nLt, nEq, nInT, nCl, pk_mul, nI_add, Nat.reduceAdd, s_cat_nil, s_cat_i, s_cat_r, s_cat_f, s_cat_l, tl_s, tl_n, cat_i, cat_r, cat_f, nb0, nb1, nbI, if_bI, if_bIr, Nat.zero_le, Nat.reduceLeDiff, S_ob0, S_ob239, e0, hq, Option.isSome, iBt, nI10, reduceIte, a]
        exact K s hI
      · have b2 : ¬ w ≤ nI 1 := b2
        simp (disch := omega) only [u_117_0, u_117_1, u_117_4, u_117_7, u_117_8, u_117_11, u_117_12, u_117_13, u_117_16, u_117_18, u_117_19, u_117_20, u_117_23, u_117_26, u_117_28, u_117_29, u_117_30, u_117_31, u_117_32, u_117_33, u_117_34, u_117_38, u_117_39, u_117_42, u_117_45, u_117_48, u_117_49, u_117_52, u_117_54, u_117_57, u_117_60, u_117_61, u_117_64, u_117_65, u_117_68, u_117_69, u_117_71, u_117_72, u_117_73, u_117_76, u_117_78, u_117_79, u_117_82, u_117_83, u_117_86, u_117_88, u_117_89, u_117_92, u_117_93, u_117_96, u_117_99, u_117_102, u_117_103, u_117_106, u_117_108, u_117_109, u_117_112, u_117_114, u_117_116, u_117_117, u_117_120, u_117_122, u_117_123, u_117_125, u_117_126, u_117_129, u_117_132, u_117_133, u_117_136, u_117_137, u_117_140, u_117_141, u_117_144, u_117_147, u_117_148, u_117_151, u_117_152, gI0, gIs, gR0, gRs, gF0, gFs, st0, st_i, st_r, st_f, st_n, st_s, true_and, and_true, ↓ifLeT, ↓ifLeF, ↓ifLtT, ↓ifLtF, ↓ifEqT, ↓ifEqF, if_tt, if_ff, if_pos, if_neg, nLe, nLt, nEq, nInT, nCl, pk_mul, nI_add, Nat.reduceAdd, s_cat_nil, s_cat_i, s_cat_r, s_cat_f, s_cat_l, tl_s, tl_n, cat_i, cat_r, cat_f, nb0, nb1, nbI, if_bI, if_bIr, Nat.zero_le, Nat.reduceLeDiff, S_ob0, S_ob239, e0, hq, Option.isSome, iBt, nI10, reduceIte, a, b2]
        exact K s hI
    | some k =>
      simp only [h1] at K
      obtain ⟨k1, rfl⟩ := ix_some (by omega) h1
      cases h2 : fewN n with
      | false =>
        rw [h2] at e1
        simp only [h2, Bool.false_eq_true, if_false] at K
        simp (disch := omega) only [u_117_0, u_117_1, u_117_4, u_117_7, u_117_8, u_117_11, u_117_12, u_117_13, u_117_16, u_117_18, u_117_19, u_117_20, u_117_23, u_117_26, u_117_28, u_117_29, u_117_30, u_117_31, u_117_32, u_117_33, u_117_34, u_117_38, u_117_39, u_117_42, u_117_45, u_117_48, u_117_49, u_117_52, u_117_54, u_117_57, u_117_60, u_117_61, u_117_64, u_117_65, u_117_68, u_117_69, u_117_71, u_117_72, u_117_73, u_117_76, u_117_78, u_117_79, u_117_82, u_117_83, u_117_86, u_117_88, u_117_89, u_117_92, u_117_93, u_117_96, u_117_99, u_117_102, u_117_103, u_117_106, u_117_108, u_117_109, u_117_112, u_117_114, u_117_116, u_117_117, u_117_120, u_117_122, u_117_123, u_117_125, u_117_126, u_117_129, u_117_132, u_117_133, u_117_136, u_117_137, u_117_140, u_117_141, u_117_144, u_117_147, u_117_148, u_117_151, u_117_152, gI0, gIs, gR0, gRs, gF0, gFs, st0, st_i, st_r, st_f, st_n, st_s, true_and, and_true, ↓ifLeT, ↓ifLeF, ↓ifLtT, ↓ifLtF, ↓ifEqT, ↓ifEqF, if_tt, if_ff, if_pos, if_neg, nLe, nLt, nEq, nInT, nCl, pk_mul, nI_add, Nat.reduceAdd, s_cat_nil, s_cat_i, s_cat_r, s_cat_f, s_cat_l, tl_s, tl_n, cat_i, cat_r, cat_f, nb0, nb1, nbI, if_bI, if_bIr, Nat.zero_le, Nat.reduceLeDiff, S_ob0, S_ob239, e0, e1, hq, Option.isSome, iBt, nI10, reduceIte, Bool.not_false]
        exact K s hI
      | true =>
        rw [h2] at e1
        simp only [h2, if_true] at K
        simp (disch := omega) only [u_117_0, u_117_1, u_117_4, u_117_7, u_117_8, u_117_11, u_117_12, u_117_13, u_117_16, u_117_18, u_117_19, u_117_20, u_117_23, u_117_26, u_117_28, u_117_29, u_117_30, u_117_31, u_117_32, u_117_33, u_117_34, u_117_38, u_117_39, u_117_42, u_117_45, u_117_48, u_117_49, u_117_52, u_117_54, u_117_57, u_117_60, u_117_61, u_117_64, u_117_65, u_117_68, u_117_69, u_117_71, u_117_72, u_117_73, u_117_76, u_117_78, u_117_79, u_117_82, u_117_83, u_117_86, u_117_88, u_117_89, u_117_92, u_117_93, u_117_96, u_117_99, u_117_102, u_117_103, u_117_106, u_117_108, u_117_109, u_117_112, u_117_114, u_117_116, u_117_117, u_117_120, u_117_122, u_117_123, u_117_125, u_117_126, u_117_129, u_117_132, u_117_133, u_117_136, u_117_137, u_117_140, u_117_141, u_117_144, u_117_147, u_117_148, u_117_151, u_117_152, gI0, gIs, gR0, gRs, gF0, gFs, st0, st_i, st_r, st_f, st_n, st_s, true_and, and_true, ↓ifLeT, ↓ifLeF, ↓ifLtT, ↓ifLtF, ↓ifEqT, ↓ifEqF, if_tt, if_ff, if_pos, if_neg, nLe, nLt, nEq, nInT, nCl, pk_mul, nI_add, Nat.reduceAdd, s_cat_nil, s_cat_i, s_cat_r, s_cat_f, s_cat_l, tl_s, tl_n, cat_i, cat_r, cat_f, nb0, nb1, nbI, if_bI, if_bIr, Nat.zero_le, Nat.reduceLeDiff, S_ob0, S_ob239, e0, e1, hq, Option.isSome, iBt, iBf, nI10, reduceIte, Bool.not_true]
        refine dear_lp (w := nI k) (v1 := nI 0) hq (nF n 2) 0 s none _ (by omega) hI (fun p hp => by cases hp) fun s' v hI' hst => ?_
        unfold dearN at K
        cases hd : iter (dearS n) 0 (nF n 2) none with
        | none =>
          rw [hd] at K
          have o1 : oI1 ((none : Option (Nat × Nat)).map (·.1)) = -1 := rfl
          have o2 : oI1 ((none : Option (Nat × Nat)).map (·.2)) = -1 := rfl
          have l : (-1 : Int32) ≤ nI 300 := by decide
          rw [o1, o2]
          by_cases k0 : k = 0
          · subst k0
            simp (disch := omega) only [u_117_0, u_117_1, u_117_4, u_117_7, u_117_8, u_117_11, u_117_12, u_117_13, u_117_16, u_117_18, u_117_19, u_117_20, u_117_23, u_117_26, u_117_28, u_117_29, u_117_30, u_117_31, u_117_32, u_117_33, u_117_34, u_117_38, u_117_39, u_117_42, u_117_45, u_117_48, u_117_49, u_117_52, u_117_54, u_117_57, u_117_60, u_117_61, u_117_64, u_117_65, u_117_68, u_117_69, u_117_71, u_117_72, u_117_73, u_117_76, u_117_78, u_117_79, u_117_82, u_117_83, u_117_86, u_117_88, u_117_89, u_117_92, u_117_93, u_117_96, u_117_99, u_117_102, u_117_103, u_117_106, u_117_108, u_117_109, u_117_112, u_117_114, u_117_116, u_117_117, u_117_120, u_117_122, u_117_123, u_117_125, u_117_126, u_117_129, u_117_132, u_117_133, u_117_136, u_117_137, u_117_140, u_117_141, u_117_144, u_117_147, u_117_148, u_117_151, u_117_152, gI0, gIs, gR0, gRs, gF0, gFs, st0, st_i, st_r, st_f, st_n, st_s, true_and, and_true, ↓ifLeT, ↓ifLeF, ↓ifLtT, ↓ifLtF, ↓ifEqT, ↓ifEqF, if_tt, if_ff, if_pos, if_neg, nLe, nLt, nEq, nInT, nCl, pk_mul, nI_add, Nat.reduceAdd, s_cat_nil, s_cat_i, s_cat_r, s_cat_f, s_cat_l, tl_s, tl_n, cat_i, cat_r, cat_f, nb0, nb1, nbI, if_bI, if_bIr, Nat.zero_le, Nat.reduceLeDiff]
            exact K s' hI'
          · have e : k = 1 := by omega
            subst e
            simp (disch := omega) only [u_117_0, u_117_1, u_117_4, u_117_7, u_117_8, u_117_11, u_117_12, u_117_13, u_117_16, u_117_18, u_117_19, u_117_20, u_117_23, u_117_26, u_117_28, u_117_29, u_117_30, u_117_31, u_117_32, u_117_33, u_117_34, u_117_38, u_117_39, u_117_42, u_117_45, u_117_48, u_117_49, u_117_52, u_117_54, u_117_57, u_117_60, u_117_61, u_117_64, u_117_65, u_117_68, u_117_69, u_117_71, u_117_72, u_117_73, u_117_76, u_117_78, u_117_79, u_117_82, u_117_83, u_117_86, u_117_88, u_117_89, u_117_92, u_117_93, u_117_96, u_117_99, u_117_102, u_117_103, u_117_106, u_117_108, u_117_109, u_117_112, u_117_114, u_117_116, u_117_117, u_117_120, u_117_122, u_117_123, u_117_125, u_117_126, u_117_129, u_117_132, u_117_133, u_117_136, u_117_137, u_117_140, u_117_141, u_117_144, u_117_147, u_117_148, u_117_151, u_117_152, gI0, gIs, gR0, gRs, gF0, gFs, st0, st_i, st_r, st_f, st_n, st_s, true_and, and_true, ↓ifLeT, ↓ifLeF, ↓ifLtT, ↓ifLtF, ↓ifEqT, ↓ifEqF, if_tt, if_ff, if_pos, if_neg, nLe, nLt, nEq, nInT, nCl, pk_mul, nI_add, Nat.reduceAdd, s_cat_nil, s_cat_i, s_cat_r, s_cat_f, s_cat_l, tl_s, tl_n, cat_i, cat_r, cat_f, nb0, nb1, nbI, if_bI, if_bIr, Nat.zero_le, Nat.reduceLeDiff, S_ob0, S_ob239, nI10, reduceIte, l]
            exact K s' hI'
        | some v =>
          obtain ⟨b, p⟩ := v
          rw [hd] at K hst
          obtain ⟨b4, p1⟩ := hst (b, p) rfl
          have b4 : b < 4 := b4
          have p1 : p ≤ 301 := p1
          have o1 : oI1 ((some (b, p)).map (·.1)) = nI b := rfl
          have o2 : oI1 ((some (b, p)).map (·.2)) = nI p := rfl
          rw [o1, o2]
          by_cases k0 : k = 0
          · subst k0
            simp (disch := omega) only [u_117_0, u_117_1, u_117_4, u_117_7, u_117_8, u_117_11, u_117_12, u_117_13, u_117_16, u_117_18, u_117_19, u_117_20, u_117_23, u_117_26, u_117_28, u_117_29, u_117_30, u_117_31, u_117_32, u_117_33, u_117_34, u_117_38, u_117_39, u_117_42, u_117_45, u_117_48, u_117_49, u_117_52, u_117_54, u_117_57, u_117_60, u_117_61, u_117_64, u_117_65, u_117_68, u_117_69, u_117_71, u_117_72, u_117_73, u_117_76, u_117_78, u_117_79, u_117_82, u_117_83, u_117_86, u_117_88, u_117_89, u_117_92, u_117_93, u_117_96, u_117_99, u_117_102, u_117_103, u_117_106, u_117_108, u_117_109, u_117_112, u_117_114, u_117_116, u_117_117, u_117_120, u_117_122, u_117_123, u_117_125, u_117_126, u_117_129, u_117_132, u_117_133, u_117_136, u_117_137, u_117_140, u_117_141, u_117_144, u_117_147, u_117_148, u_117_151, u_117_152, gI0, gIs, gR0, gRs, gF0, gFs, st0, st_i, st_r, st_f, st_n, st_s, true_and, and_true, ↓ifLeT, ↓ifLeF, ↓ifLtT, ↓ifLtF, ↓ifEqT, ↓ifEqF, if_tt, if_ff, if_pos, if_neg, nLe, nLt, nEq, nInT, nCl, pk_mul, nI_add, Nat.reduceAdd, s_cat_nil, s_cat_i, s_cat_r, s_cat_f, s_cat_l, tl_s, tl_n, cat_i, cat_r, cat_f, nb0, nb1, nbI, if_bI, if_bIr, Nat.zero_le, Nat.reduceLeDiff]
            exact K s' hI'
          · have e : k = 1 := by omega
            subst e
            by_cases p3 : p = 301
            · subst p3
              simp only [if_neg (show ¬ 1 = 0 by decide), if_true] at K
              simp (disch := omega) only [u_117_0, u_117_1, u_117_4, u_117_7, u_117_8, u_117_11, u_117_12, u_117_13, u_117_16, u_117_18, u_117_19, u_117_20, u_117_23, u_117_26, u_117_28, u_117_29, u_117_30, u_117_31, u_117_32, u_117_33, u_117_34, u_117_38, u_117_39, u_117_42, u_117_45, u_117_48, u_117_49, u_117_52, u_117_54, u_117_57, u_117_60, u_117_61, u_117_64, u_117_65, u_117_68, u_117_69, u_117_71, u_117_72, u_117_73, u_117_76, u_117_78, u_117_79, u_117_82, u_117_83, u_117_86, u_117_88, u_117_89, u_117_92, u_117_93, u_117_96, u_117_99, u_117_102, u_117_103, u_117_106, u_117_108, u_117_109, u_117_112, u_117_114, u_117_116, u_117_117, u_117_120, u_117_122, u_117_123, u_117_125, u_117_126, u_117_129, u_117_132, u_117_133, u_117_136, u_117_137, u_117_140, u_117_141, u_117_144, u_117_147, u_117_148, u_117_151, u_117_152, gI0, gIs, gR0, gRs, gF0, gFs, st0, st_i, st_r, st_f, st_n, st_s, true_and, and_true, ↓ifLeT, ↓ifLeF, ↓ifLtT, ↓ifLtF, ↓ifEqT, ↓ifEqF, if_tt, if_ff, if_pos, if_neg, nLe, nLt, nEq, nInT, nCl, pk_mul, nI_add, Nat.reduceAdd, s_cat_nil, s_cat_i, s_cat_r, s_cat_f, s_cat_l, tl_s, tl_n, cat_i, cat_r, cat_f, nb0, nb1, nbI, if_bI, if_bIr, Nat.zero_le, Nat.reduceLeDiff, S_ob0, S_ob239, nI10, reduceIte]
              exact K s' hI'
            · simp only [if_neg (show ¬ 1 = 0 by decide), if_neg p3] at K
              simp (disch := omega) only [u_117_0, u_117_1, u_117_4, u_117_7, u_117_8, u_117_11, u_117_12, u_117_13, u_117_16, u_117_18, u_117_19, u_117_20, u_117_23, u_117_26, u_117_28, u_117_29, u_117_30, u_117_31, u_117_32, u_117_33, u_117_34, u_117_38, u_117_39, u_117_42, u_117_45, u_117_48, u_117_49, u_117_52, u_117_54, u_117_57, u_117_60, u_117_61, u_117_64, u_117_65, u_117_68, u_117_69, u_117_71, u_117_72, u_117_73, u_117_76, u_117_78, u_117_79, u_117_82, u_117_83, u_117_86, u_117_88, u_117_89, u_117_92, u_117_93, u_117_96, u_117_99, u_117_102, u_117_103, u_117_106, u_117_108, u_117_109, u_117_112, u_117_114, u_117_116, u_117_117, u_117_120, u_117_122, u_117_123, u_117_125, u_117_126, u_117_129, u_117_132, u_117_133, u_117_136, u_117_137, u_117_140, u_117_141, u_117_144, u_117_147, u_117_148, u_117_151, u_117_152, gI0, gIs, gR0, gRs, gF0, gFs, st0, st_i, st_r, st_f, st_n, st_s, true_and, and_true, ↓ifLeT, ↓ifLeF, ↓ifLtT, ↓ifLtF, ↓ifEqT, ↓ifEqF, if_tt, if_ff, if_pos, if_neg, nLe, nLt, nEq, nInT, nCl, pk_mul, nI_add, Nat.reduceAdd, s_cat_nil, s_cat_i, s_cat_r, s_cat_f, s_cat_l, tl_s, tl_n, cat_i, cat_r, cat_f, nb0, nb1, nbI, if_bI, if_bIr, Nat.zero_le, Nat.reduceLeDiff, S_ob0, S_ob239, nI10, reduceIte]
              exact K s' hI'
/-- a task that takes more -/
theorem slack_done {j x : Nat} (hT : wfT n) (hj : j < nF n 3) (hd : nDone n j = false) (u : Nat) : nDone (slackN n j x) u = nDone n u := by
  have h := (nDone_ge hT hj).mp hd
  unfold nDone
  have e : nA (slackN n j x) 13 u = if u = j then nA n 13 j + x else nA n 13 u := rfl
  have e2 : nA (slackN n j x) 16 u = nA n 16 u := rfl
  rw [e, e2]
  by_cases hu : u = j
  · subst hu
    rw [if_pos rfl, decide_eq_false (by omega), decide_eq_false (by omega)]
  · rw [if_neg hu]
theorem wf_slack {j x : Nat} (hn : wfN n) (hj : j < nF n 3) (hd : nDone n j = false) (h30 : nA n 13 j + x ≤ 91) : wfN (slackN n j x) := by
  obtain ⟨hF, hC, hT, hL⟩ := hn
  refine ⟨hF, hC, fun t ht => ?_, hL⟩
  obtain ⟨a1, a2, a3, a4, a5, a6, a7⟩ := hT t ht
  have e : nA (slackN n j x) 13 t = if t = j then nA n 13 j + x else nA n 13 t := rfl
  refine ⟨a1, ?_, ?_, a4, a5, ?_, fun u hu => ?_⟩
  · rw [e]; split <;> rename_i q
    · rw [q] at a2; omega
    · exact a2
  · rw [e]; split
    · exact h30
    · exact a3
  · rw [e]
    show nA n 16 t ≤ _
    split <;> rename_i q
    · rw [q] at a6 ⊢; omega
    · exact a6
  · obtain ⟨b1, b2⟩ := a7 u hu
    exact ⟨b1, fun hz => by rw [slack_done hT hj hd]; exact b2 hz⟩
theorem RY_slack {y : tY} {j x : Nat} (hn : wfN n) (hy : RY y n) (hj : j < nF n 3) (hd : nDone n j = false) : RY (uA y 13 (upd (yA y 13) j (nI (nA n 13 j + x)))) (slackN n j x) := by
  obtain ⟨⟨f0, f1, f2, f3, f4, f5, f6⟩, h2, h3, h4⟩ := hy
  refine ⟨⟨f0, f1, f2, f3, f4, f5, ?_⟩, h2, fun t ht => ?_, h4⟩
  · show yB y 6 = _
    rw [f6]
    exact congrArg nI (bitsN_cong fun u _ => (slack_done hn.2.2.1 hj hd u).symm)
  · obtain ⟨a12, a13, a14, a15, a16, a17, a18⟩ := h3 t ht
    refine ⟨a12, ?_, a14, a15, a16, a17, a18⟩
    show upd (yA y 13) j (nI (nA n 13 j + x)) t = nI (if t = j then nA n 13 j + x else nA n 13 t)
    unfold upd
    by_cases e : t = j
    · rw [if_pos e, if_pos e]
    · rw [if_neg e, if_neg e]; exact a13
theorem SY_w13 {b : Nat} (hb : yb b) {f : sH → Prop} : aS (pS s h) (b + 7) i x f ↔ vp_in i 8 ∧ f (pS (wSY s b (uA (SY s b) 13 (upd (yA (SY s b) 13) i.toNatClampNeg x))) h) := by
  have e := Y_w13 (a := b) (y := SY s b) (h := pS s h) (f := f) (i := i) (x := x)
  rwa [isY_S hb, S_Y hb] at e
theorem last_m {k m : Nat} (hm : m ≤ k) : lastN m n = some m ↔ lastN k n = some m := by
  rw [lastN_iff, lastN_iff]
  exact ⟨fun q => ⟨hm, q.2⟩, fun q => ⟨Nat.le_refl _, q.2⟩⟩
theorem last_le {k m : Nat} (h : lastN k n = some m) : m ≤ k := (lastN_iff.mp h).1
theorem find_drop {p : Nat → Bool} {k : Nat} : ∀ {m : Nat}, (∀ i, i < k → p i = false) → (List.range' k m).find? p = (List.range (k + m)).find? p := by
  intro m hp
  rw [List.range_eq_range', ← List.range'_append_1, List.find?_append, Nat.zero_add]
  have : (List.range' 0 k).find? p = none := by
    rw [List.find?_eq_none]
    intro a ha
    rw [hp a (by have := List.mem_range'_1.mp ha; omega)]
    decide
  rw [this]
  rfl
theorem slack_lp {j l : Nat} (hq : zQ z = some n) (hj : j < nF n 3) (hd : nDone n j = false) (hl : l ≤ 300) : ∀ m x s, x + m = 61 → IC s z → (∀ s', IC s' z → Q (some (.int (match (List.range' x m).find? (fun x => decide (¬ lastN 300 (slackN n j (x + 1)) = some l)) with | some x => nI x | none => nI 61))) (pS s' h)) → WP (d + 3) 120 39 [.ref 0, .int (nI j), .int (nI l), .int (nI (x + 1))] [] (pS s h) (0, 0) Q := by
  intro m
  induction m with
  | zero =>
    intro x s hx hI K
    have e : x = 61 := by omega
    subst e
    rw [u_120_39]
    simp (disch := omega) only [u_120_0, u_120_1, u_120_2, u_120_5, u_120_8, u_120_9, u_120_12, u_120_13, u_120_16, u_120_19, u_120_21, u_120_22, u_120_23, u_120_26, u_120_29, u_120_30, u_120_31, u_120_32, u_120_35, u_120_36, u_120_37, u_120_38, u_120_40, u_120_42, u_120_45, u_120_46, u_120_49, u_120_50, u_120_53, u_120_56, u_120_57, u_120_60, u_120_63, u_120_64, u_120_65, u_120_66, u_120_67, u_120_68, u_120_69, u_120_70, u_120_73, u_120_74, u_120_77, u_120_78, u_120_81, u_120_82, u_120_83, u_120_84, u_120_85, u_120_88, u_120_91, u_120_93, gI0, gIs, gR0, gRs, gF0, gFs, st0, st_i, st_r, st_f, st_n, st_s, true_and, and_true, ↓ifLeT, ↓ifLeF, ↓ifLtT, ↓ifLtF, ↓ifEqT, ↓ifEqF, if_tt, if_ff, if_pos, if_neg, nLe, nLt, nEq, nInT, nCl, pk_mul, nI_add, Nat.reduceAdd, s_cat_nil, s_cat_i, s_cat_r, s_cat_f, s_cat_l, tl_s, tl_n, cat_i, cat_r, cat_f, nb0, nb1, nbI, if_bI, if_bIr, Nat.zero_le, Nat.reduceLeDiff]
    exact K s hI
  | succ m ih =>
    intro x s hx hI K
    obtain ⟨hy, hok⟩ := IC_y hI hq
    have h8 := hok.1.1.2.1
    have h30 := hok.2.2.2 j hj
    have i1 : vp_in (nI j) 8 := (nIn (by omega)).mpr (by omega)
    have e1 := fun Q => S_copyY (d := d + 1) (s := s) (h := h) (Q := Q) yb40 yb24 (by decide)
    have hy1 : RY (cpY (SY s 40) (SY s 24)) n := RY_cp hy
    have a13 := (hy1.2.2.1 j hj).2.1
    have hy2 := RY_slack (x := x + 1) hok.1 hy1 hj hd
    have w2 := wf_slack (x := x + 1) hok.1 hj hd (by omega)
    generalize hY : uA (cpY (SY s 40) (SY s 24)) 13 (upd (yA (cpY (SY s 40) (SY s 24)) 13) j (nI (nA n 13 j + (x + 1)))) = Y at hy2
    have e2 : ∀ Q, MT (d + 3) 74 [.ref 40, .int (nI l)] (pS (wSY s 40 Y) h) Q ↔ Q (some (.int (lastY Y l).1)) (pS (wSY s 40 (lastY Y l).2) h) := fun Q => by
      have e := tr_Y (s := wSY s 40 Y) (h := h) (Q := Q) yb40 fun h Q => m_lastWithin (d := d) (a := 40) (y := SY (wSY s 40 Y) 40) (N := l) (h := h) (Q := Q) (by omega) (by rw [SYw]; exact RY_ok w2 hy2)
      rw [SYw, wSY_tw] at e
      exact e
    have lr := lastY_rel w2 hy2 (N := l)
    generalize (lastY Y l).1 = R at e2 lr
    generalize (lastY Y l).2 = Y' at e2
    have hI' : IC (wSY s 40 Y') z := IC_same hI rfl (fun q a _ _ => if_neg a) rfl (fun q _ => rfl) hI.2.2.2.2.2.1
    rw [List.range'_succ, List.find?_cons] at K
    rw [u_120_39]
    by_cases hc : lastN 300 (slackN n j (x + 1)) = some l
    · have g : R = nI l := by rw [lr, (last_m hl).mpr hc]; rfl
      rw [decide_eq_false (fun q => q hc)] at K
      simp (disch := omega) only [u_120_0, u_120_1, u_120_2, u_120_5, u_120_8, u_120_9, u_120_12, u_120_13, u_120_16, u_120_19, u_120_21, u_120_22, u_120_23, u_120_26, u_120_29, u_120_30, u_120_31, u_120_32, u_120_35, u_120_36, u_120_37, u_120_38, u_120_40, u_120_42, u_120_45, u_120_46, u_120_49, u_120_50, u_120_53, u_120_56, u_120_57, u_120_60, u_120_63, u_120_64, u_120_65, u_120_66, u_120_67, u_120_68, u_120_69, u_120_70, u_120_73, u_120_74, u_120_77, u_120_78, u_120_81, u_120_82, u_120_83, u_120_84, u_120_85, u_120_88, u_120_91, u_120_93, gI0, gIs, gR0, gRs, gF0, gFs, st0, st_i, st_r, st_f, st_n, st_s, true_and, and_true, ↓ifLeT, ↓ifLeF, ↓ifLtT, ↓ifLtF, ↓ifEqT, ↓ifEqF, if_tt, if_ff, if_pos, if_neg, nLe, nLt, nEq, nInT, nCl, pk_mul, nI_add, Nat.reduceAdd, s_cat_nil, s_cat_i, s_cat_r, s_cat_f, s_cat_l, tl_s, tl_n, cat_i, cat_r, cat_f, nb0, nb1, nbI, if_bI, if_bIr, Nat.zero_le, Nat.reduceLeDiff, S_ob0, S_ob239, S_g0_0, S_g0_1, S_g0_2, S_g0_3, S_g0_4, S_g0_5, S_g0_6, S_g0_7, S_g0_8, S_g0_9, S_g0_10, S_g0_11, S_g0_12, S_g0_13, S_g0_14, S_g1_0, S_g1_1, S_g1_2, S_g1_3, S_g1_4, S_g72_0, S_g72_1, S_g72_2, S_g239_0, S_g239_1, S_g239_2, S_g239_3, S_g239_4, S_g239_5, S_g239_6, S_a23, S_n23, S_a282, S_n282, S_a300, S_n300, S_n73, S_n299, Y'_ob (isY_S yb40), Y'_g0 (isY_S yb40), Y'_g1 (isY_S yb40), Y'_g2 (isY_S yb40), Y'_g3 (isY_S yb40), Y'_g4 (isY_S yb40), Y'_g5 (isY_S yb40), Y'_g6 (isY_S yb40), Y'_g7 (isY_S yb40), Y'_g8 (isY_S yb40), Y'_g9 (isY_S yb40), Y'_g10 (isY_S yb40), Y'_g11 (isY_S yb40), Y'_g12 (isY_S yb40), Y'_g13 (isY_S yb40), Y'_g14 (isY_S yb40), Y'_g15 (isY_S yb40), Y'_g16 (isY_S yb40), Y'_g17 (isY_S yb40), Y'_g18 (isY_S yb40), Y'_g19 (isY_S yb40), Y'_a7 (isY_S yb40), Y'_a8 (isY_S yb40), Y'_a10 (isY_S yb40), Y'_a11 (isY_S yb40), Y'_a12 (isY_S yb40), Y'_a13 (isY_S yb40), Y'_a14 (isY_S yb40), Y'_a15 (isY_S yb40), Y'_a16 (isY_S yb40), Y'_a17 (isY_S yb40), Y'_a18 (isY_S yb40), Y'_sw (isY_S yb40), e1, SYw, SY_w13 yb40, i1, a13, wSY_tw, hY, e2, g]
      exact ih (x + 1) _ (by omega) hI' K
    · have g : ¬ R = nI l := by
        intro q
        rw [lr] at q
        cases e : lastN l (slackN n j (x + 1)) with
        | none => rw [e] at q; exact m1_ne (j := l) (by omega) q.symm
        | some v =>
          rw [e] at q
          have v1 := last_le e
          have := (nI_eq (by omega) (by omega)).mp q
          subst this
          exact hc ((last_m hl).mp e)
      rw [decide_eq_true hc] at K
      have sb : nI (x + 1) - nI 1 = nI x := by rw [pk_sub (by omega)]; rfl
      simp (disch := omega) only [u_120_0, u_120_1, u_120_2, u_120_5, u_120_8, u_120_9, u_120_12, u_120_13, u_120_16, u_120_19, u_120_21, u_120_22, u_120_23, u_120_26, u_120_29, u_120_30, u_120_31, u_120_32, u_120_35, u_120_36, u_120_37, u_120_38, u_120_40, u_120_42, u_120_45, u_120_46, u_120_49, u_120_50, u_120_53, u_120_56, u_120_57, u_120_60, u_120_63, u_120_64, u_120_65, u_120_66, u_120_67, u_120_68, u_120_69, u_120_70, u_120_73, u_120_74, u_120_77, u_120_78, u_120_81, u_120_82, u_120_83, u_120_84, u_120_85, u_120_88, u_120_91, u_120_93, gI0, gIs, gR0, gRs, gF0, gFs, st0, st_i, st_r, st_f, st_n, st_s, true_and, and_true, ↓ifLeT, ↓ifLeF, ↓ifLtT, ↓ifLtF, ↓ifEqT, ↓ifEqF, if_tt, if_ff, if_pos, if_neg, nLe, nLt, nEq, nInT, nCl, pk_mul, nI_add, Nat.reduceAdd, s_cat_nil, s_cat_i, s_cat_r, s_cat_f, s_cat_l, tl_s, tl_n, cat_i, cat_r, cat_f, nb0, nb1, nbI, if_bI, if_bIr, Nat.zero_le, Nat.reduceLeDiff, S_ob0, S_ob239, S_g0_0, S_g0_1, S_g0_2, S_g0_3, S_g0_4, S_g0_5, S_g0_6, S_g0_7, S_g0_8, S_g0_9, S_g0_10, S_g0_11, S_g0_12, S_g0_13, S_g0_14, S_g1_0, S_g1_1, S_g1_2, S_g1_3, S_g1_4, S_g72_0, S_g72_1, S_g72_2, S_g239_0, S_g239_1, S_g239_2, S_g239_3, S_g239_4, S_g239_5, S_g239_6, S_a23, S_n23, S_a282, S_n282, S_a300, S_n300, S_n73, S_n299, Y'_ob (isY_S yb40), Y'_g0 (isY_S yb40), Y'_g1 (isY_S yb40), Y'_g2 (isY_S yb40), Y'_g3 (isY_S yb40), Y'_g4 (isY_S yb40), Y'_g5 (isY_S yb40), Y'_g6 (isY_S yb40), Y'_g7 (isY_S yb40), Y'_g8 (isY_S yb40), Y'_g9 (isY_S yb40), Y'_g10 (isY_S yb40), Y'_g11 (isY_S yb40), Y'_g12 (isY_S yb40), Y'_g13 (isY_S yb40), Y'_g14 (isY_S yb40), Y'_g15 (isY_S yb40), Y'_g16 (isY_S yb40), Y'_g17 (isY_S yb40), Y'_g18 (isY_S yb40), Y'_g19 (isY_S yb40), Y'_a7 (isY_S yb40), Y'_a8 (isY_S yb40), Y'_a10 (isY_S yb40), Y'_a11 (isY_S yb40), Y'_a12 (isY_S yb40), Y'_a13 (isY_S yb40), Y'_a14 (isY_S yb40), Y'_a15 (isY_S yb40), Y'_a16 (isY_S yb40), Y'_a17 (isY_S yb40), Y'_a18 (isY_S yb40), Y'_sw (isY_S yb40), e1, SYw, SY_w13 yb40, i1, a13, wSY_tw, hY, e2, g, sb]
      exact K _ hI'
theorem q_slack (hI : IC s z) (K : ∀ s', IC s' z → Q (some (.int (zslack z t))) (pS s' h)) : MT (d + 5) 120 [.ref 0, .int t] (pS s h) Q := by
  rw [MT_go (by decide) _ _ _ (Nat.le_of_ble_eq_true rfl), show s_entry 120 [.ref 0, .int t] = [.ref 0, .int t, s_no, s_no] from rfl]
  have e1 := fun Q => q_isT (d := d + 3) (h := h) (Q := Q) (x := t) hI
  unfold zslack at K
  cases hq : zQ z with
  | none =>
    simp only [hq] at K
    rw [zN_0 hq, ix_0] at e1
    simp (disch := omega) only [u_120_0, u_120_1, u_120_2, u_120_5, u_120_8, u_120_9, u_120_12, u_120_13, u_120_16, u_120_19, u_120_21, u_120_22, u_120_23, u_120_26, u_120_29, u_120_30, u_120_31, u_120_32, u_120_35, u_120_36, u_120_37, u_120_38, u_120_40, u_120_42, u_120_45, u_120_46, u_120_49, u_120_50, u_120_53, u_120_56, u_120_57, u_120_60, u_120_63, u_120_64, u_120_65, u_120_66, u_120_67, u_120_68, u_120_69, u_120_70, u_120_73, u_120_74, u_120_77, u_120_78, u_120_81, u_120_82, u_120_83, u_120_84, u_120_85, u_120_88, u_120_91, u_120_93, gI0, gIs, gR0, gRs, gF0, gFs, st0, st_i, st_r, st_f, st_n, st_s, true_and, and_true, ↓ifLeT, ↓ifLeF, ↓ifLtT, ↓ifLtF, ↓ifEqT, ↓ifEqF, if_tt, if_ff, if_pos, if_neg, nLe, nLt, nEq, nInT, nCl, pk_mul, nI_add, Nat.reduceAdd, s_cat_nil, s_cat_i, s_cat_r, s_cat_f, s_cat_l, tl_s, tl_n, cat_i, cat_r, cat_f, nb0, nb1, nbI, if_bI, if_bIr, Nat.zero_le, Nat.reduceLeDiff, S_ob0, S_ob239, e1, Option.isSome, iBf]
    exact K s hI
  | some n =>
    simp only [hq] at K
    rw [zN_s hq] at e1
    obtain ⟨hy, hok⟩ := IC_y hI hq
    have h8 := hok.1.1.2.1
    cases h1 : ixN t (nF n 3) with
    | none =>
      rw [h1] at e1
      simp only [h1] at K
      simp (disch := omega) only [u_120_0, u_120_1, u_120_2, u_120_5, u_120_8, u_120_9, u_120_12, u_120_13, u_120_16, u_120_19, u_120_21, u_120_22, u_120_23, u_120_26, u_120_29, u_120_30, u_120_31, u_120_32, u_120_35, u_120_36, u_120_37, u_120_38, u_120_40, u_120_42, u_120_45, u_120_46, u_120_49, u_120_50, u_120_53, u_120_56, u_120_57, u_120_60, u_120_63, u_120_64, u_120_65, u_120_66, u_120_67, u_120_68, u_120_69, u_120_70, u_120_73, u_120_74, u_120_77, u_120_78, u_120_81, u_120_82, u_120_83, u_120_84, u_120_85, u_120_88, u_120_91, u_120_93, gI0, gIs, gR0, gRs, gF0, gFs, st0, st_i, st_r, st_f, st_n, st_s, true_and, and_true, ↓ifLeT, ↓ifLeF, ↓ifLtT, ↓ifLtF, ↓ifEqT, ↓ifEqF, if_tt, if_ff, if_pos, if_neg, nLe, nLt, nEq, nInT, nCl, pk_mul, nI_add, Nat.reduceAdd, s_cat_nil, s_cat_i, s_cat_r, s_cat_f, s_cat_l, tl_s, tl_n, cat_i, cat_r, cat_f, nb0, nb1, nbI, if_bI, if_bIr, Nat.zero_le, Nat.reduceLeDiff, S_ob0, S_ob239, e1, Option.isSome, iBf]
      exact K s hI
    | some j =>
      rw [h1] at e1
      simp only [h1] at K
      obtain ⟨j1, rfl⟩ := ix_some (by omega) h1
      have e2 := fun Q => N_done (d := d + 3) (h := h) (Q := Q) hy hok.1 j1
      cases hd : nDone n j with
      | true =>
        rw [hd] at e2
        simp only [hd, if_true] at K
        simp (disch := omega) only [u_120_0, u_120_1, u_120_2, u_120_5, u_120_8, u_120_9, u_120_12, u_120_13, u_120_16, u_120_19, u_120_21, u_120_22, u_120_23, u_120_26, u_120_29, u_120_30, u_120_31, u_120_32, u_120_35, u_120_36, u_120_37, u_120_38, u_120_40, u_120_42, u_120_45, u_120_46, u_120_49, u_120_50, u_120_53, u_120_56, u_120_57, u_120_60, u_120_63, u_120_64, u_120_65, u_120_66, u_120_67, u_120_68, u_120_69, u_120_70, u_120_73, u_120_74, u_120_77, u_120_78, u_120_81, u_120_82, u_120_83, u_120_84, u_120_85, u_120_88, u_120_91, u_120_93, gI0, gIs, gR0, gRs, gF0, gFs, st0, st_i, st_r, st_f, st_n, st_s, true_and, and_true, ↓ifLeT, ↓ifLeF, ↓ifLtT, ↓ifLtF, ↓ifEqT, ↓ifEqF, if_tt, if_ff, if_pos, if_neg, nLe, nLt, nEq, nInT, nCl, pk_mul, nI_add, Nat.reduceAdd, s_cat_nil, s_cat_i, s_cat_r, s_cat_f, s_cat_l, tl_s, tl_n, cat_i, cat_r, cat_f, nb0, nb1, nbI, if_bI, if_bIr, Nat.zero_le, Nat.reduceLeDiff, S_ob0, S_ob239, S_g0_0, S_g0_1, S_g0_2, S_g0_3, S_g0_4, S_g0_5, S_g0_6, S_g0_7, S_g0_8, S_g0_9, S_g0_10, S_g0_11, S_g0_12, S_g0_13, S_g0_14, S_g1_0, S_g1_1, S_g1_2, S_g1_3, S_g1_4, S_g72_0, S_g72_1, S_g72_2, S_g239_0, S_g239_1, S_g239_2, S_g239_3, S_g239_4, S_g239_5, S_g239_6, S_a23, S_n23, S_a282, S_n282, S_a300, S_n300, S_n73, S_n299, Y'_ob (isY_S yb24), Y'_g0 (isY_S yb24), Y'_g1 (isY_S yb24), Y'_g2 (isY_S yb24), Y'_g3 (isY_S yb24), Y'_g4 (isY_S yb24), Y'_g5 (isY_S yb24), Y'_g6 (isY_S yb24), Y'_g7 (isY_S yb24), Y'_g8 (isY_S yb24), Y'_g9 (isY_S yb24), Y'_g10 (isY_S yb24), Y'_g11 (isY_S yb24), Y'_g12 (isY_S yb24), Y'_g13 (isY_S yb24), Y'_g14 (isY_S yb24), Y'_g15 (isY_S yb24), Y'_g16 (isY_S yb24), Y'_g17 (isY_S yb24), Y'_g18 (isY_S yb24), Y'_g19 (isY_S yb24), Y'_a7 (isY_S yb24), Y'_a8 (isY_S yb24), Y'_a10 (isY_S yb24), Y'_a11 (isY_S yb24), Y'_a12 (isY_S yb24), Y'_a13 (isY_S yb24), Y'_a14 (isY_S yb24), Y'_a15 (isY_S yb24), Y'_a16 (isY_S yb24), Y'_a17 (isY_S yb24), Y'_a18 (isY_S yb24), Y'_sw (isY_S yb24), e1, e2, Option.isSome, iBt, nI10, reduceIte]
        exact K s hI
      | false =>
        rw [hd] at e2
        simp only [hd, Bool.false_eq_true, if_false] at K
        simp (disch := omega) only [u_120_0, u_120_1, u_120_2, u_120_5, u_120_8, u_120_9, u_120_12, u_120_13, u_120_16, u_120_19, u_120_21, u_120_22, u_120_23, u_120_26, u_120_29, u_120_30, u_120_31, u_120_32, u_120_35, u_120_36, u_120_37, u_120_38, u_120_40, u_120_42, u_120_45, u_120_46, u_120_49, u_120_50, u_120_53, u_120_56, u_120_57, u_120_60, u_120_63, u_120_64, u_120_65, u_120_66, u_120_67, u_120_68, u_120_69, u_120_70, u_120_73, u_120_74, u_120_77, u_120_78, u_120_81, u_120_82, u_120_83, u_120_84, u_120_85, u_120_88, u_120_91, u_120_93, gI0, gIs, gR0, gRs, gF0, gFs, st0, st_i, st_r, st_f, st_n, st_s, true_and, and_true, ↓ifLeT, ↓ifLeF, ↓ifLtT, ↓ifLtF, ↓ifEqT, ↓ifEqF, if_tt, if_ff, if_pos, if_neg, nLe, nLt, nEq, nInT, nCl, pk_mul, nI_add, Nat.reduceAdd, s_cat_nil, s_cat_i, s_cat_r, s_cat_f, s_cat_l, tl_s, tl_n, cat_i, cat_r, cat_f, nb0, nb1, nbI, if_bI, if_bIr, Nat.zero_le, Nat.reduceLeDiff, S_ob0, S_ob239, S_g0_0, S_g0_1, S_g0_2, S_g0_3, S_g0_4, S_g0_5, S_g0_6, S_g0_7, S_g0_8, S_g0_9, S_g0_10, S_g0_11, S_g0_12, S_g0_13, S_g0_14, S_g1_0, S_g1_1, S_g1_2, S_g1_3, S_g1_4, S_g72_0, S_g72_1, S_g72_2, S_g239_0, S_g239_1, S_g239_2, S_g239_3, S_g239_4, S_g239_5, S_g239_6, S_a23, S_n23, S_a282, S_n282, S_a300, S_n300, S_n73, S_n299, Y'_ob (isY_S yb24), Y'_g0 (isY_S yb24), Y'_g1 (isY_S yb24), Y'_g2 (isY_S yb24), Y'_g3 (isY_S yb24), Y'_g4 (isY_S yb24), Y'_g5 (isY_S yb24), Y'_g6 (isY_S yb24), Y'_g7 (isY_S yb24), Y'_g8 (isY_S yb24), Y'_g9 (isY_S yb24), Y'_g10 (isY_S yb24), Y'_g11 (isY_S yb24), Y'_g12 (isY_S yb24), Y'_g13 (isY_S yb24), Y'_g14 (isY_S yb24), Y'_g15 (isY_S yb24), Y'_g16 (isY_S yb24), Y'_g17 (isY_S yb24), Y'_g18 (isY_S yb24), Y'_g19 (isY_S yb24), Y'_a7 (isY_S yb24), Y'_a8 (isY_S yb24), Y'_a10 (isY_S yb24), Y'_a11 (isY_S yb24), Y'_a12 (isY_S yb24), Y'_a13 (isY_S yb24), Y'_a14 (isY_S yb24), Y'_a15 (isY_S yb24), Y'_a16 (isY_S yb24), Y'_a17 (isY_S yb24), Y'_a18 (isY_S yb24), Y'_sw (isY_S yb24), e1, e2, Option.isSome, iBt, iBf, nI10, reduceIte]
        refine q_ahead hI hq fun s' hI' hc => ?_
        have hl := hc.2.2.2
        unfold cuD at hl
        rw [← over_last] at hl
        cases hl' : lastN 300 n with
        | none =>
          rw [hl'] at hl K
          have hl : eI (SO s' 234) 4 = -1 := hl
          simp (disch := omega) only [u_120_0, u_120_1, u_120_2, u_120_5, u_120_8, u_120_9, u_120_12, u_120_13, u_120_16, u_120_19, u_120_21, u_120_22, u_120_23, u_120_26, u_120_29, u_120_30, u_120_31, u_120_32, u_120_35, u_120_36, u_120_37, u_120_38, u_120_40, u_120_42, u_120_45, u_120_46, u_120_49, u_120_50, u_120_53, u_120_56, u_120_57, u_120_60, u_120_63, u_120_64, u_120_65, u_120_66, u_120_67, u_120_68, u_120_69, u_120_70, u_120_73, u_120_74, u_120_77, u_120_78, u_120_81, u_120_82, u_120_83, u_120_84, u_120_85, u_120_88, u_120_91, u_120_93, gI0, gIs, gR0, gRs, gF0, gFs, st0, st_i, st_r, st_f, st_n, st_s, true_and, and_true, ↓ifLeT, ↓ifLeF, ↓ifLtT, ↓ifLtF, ↓ifEqT, ↓ifEqF, if_tt, if_ff, if_pos, if_neg, nLe, nLt, nEq, nInT, nCl, pk_mul, nI_add, Nat.reduceAdd, s_cat_nil, s_cat_i, s_cat_r, s_cat_f, s_cat_l, tl_s, tl_n, cat_i, cat_r, cat_f, nb0, nb1, nbI, if_bI, if_bIr, Nat.zero_le, Nat.reduceLeDiff, S_ob0, S_ob239, K_g4, hl]
          exact K s' hI'
        | some l =>
          rw [hl'] at hl K
          have hl : eI (SO s' 234) 4 = nI l := hl
          have l3 := last_le hl'
          have g : ¬ nI l = -1 := m1_ne (by omega)
          simp (disch := omega) only [u_120_0, u_120_1, u_120_2, u_120_5, u_120_8, u_120_9, u_120_12, u_120_13, u_120_16, u_120_19, u_120_21, u_120_22, u_120_23, u_120_26, u_120_29, u_120_30, u_120_31, u_120_32, u_120_35, u_120_36, u_120_37, u_120_38, u_120_40, u_120_42, u_120_45, u_120_46, u_120_49, u_120_50, u_120_53, u_120_56, u_120_57, u_120_60, u_120_63, u_120_64, u_120_65, u_120_66, u_120_67, u_120_68, u_120_69, u_120_70, u_120_73, u_120_74, u_120_77, u_120_78, u_120_81, u_120_82, u_120_83, u_120_84, u_120_85, u_120_88, u_120_91, u_120_93, gI0, gIs, gR0, gRs, gF0, gFs, st0, st_i, st_r, st_f, st_n, st_s, true_and, and_true, ↓ifLeT, ↓ifLeF, ↓ifLtT, ↓ifLtF, ↓ifEqT, ↓ifEqF, if_tt, if_ff, if_pos, if_neg, nLe, nLt, nEq, nInT, nCl, pk_mul, nI_add, Nat.reduceAdd, s_cat_nil, s_cat_i, s_cat_r, s_cat_f, s_cat_l, tl_s, tl_n, cat_i, cat_r, cat_f, nb0, nb1, nbI, if_bI, if_bIr, Nat.zero_le, Nat.reduceLeDiff, S_ob0, S_ob239, K_g4, hl, g]
          refine slack_lp (d := d + 1) hq j1 hd l3 61 0 s' rfl hI' fun s'' hI'' => ?_
          have := K s'' hI''
          unfold firstN at this
          rw [← List.range_eq_range']
          exact this
end Q4
