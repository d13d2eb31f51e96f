/-! the reference's better, on -/
section MBV
variable {b d : Nat} {m : tM} {h : sH} {w x : Int32} {Q : sQ} {n : tN} {z : tQ}
theorem bet_in {w t : Nat} (hn : wfN n) (hw : w < nF n 2) (ht : t < nF n 3) (hmem : t ∈ nL n w) : ∀ q c m g, c + q = nF n 2 → MG m n → RR (kA m 320) n → MB m (nF n 2) g → (∀ m', frB2 m m' → MB m' (nF n 2) (pickB n ((List.range' c q).flatMap (atC n w t)) g) → WP (d + 12) 239 101 [.ref 317, .int (nI t), .int (nI w), .int (nI (nF n 2))] [] (pM m' h) (0, 0) Q) → WP (d + 12) 239 53 [.ref 317, .int (nI t), .int (nI w), .int (nI c)] [] (pM m h) (0, 0) Q := by
  have h4 := hn.1.1
  have ne := m1_ne (j := w) (by omega)
  intro q
  induction q with
  | zero =>
    intro c m g hc hg hr hb K
    have g10 := hg.2.2.1
    have e : c = nF n 2 := by omega
    subst e
    rw [u_239_53]
    simp (disch := omega) only [u_239_0, u_239_1, u_239_2, u_239_3, u_239_6, u_239_9, u_239_12, u_239_13, u_239_14, u_239_17, u_239_18, u_239_20, u_239_21, u_239_24, u_239_25, u_239_26, u_239_29, u_239_30, u_239_31, u_239_34, u_239_35, u_239_38, u_239_41, u_239_42, u_239_43, u_239_46, u_239_49, u_239_50, u_239_51, u_239_52, u_239_54, u_239_55, u_239_58, u_239_61, u_239_62, u_239_63, u_239_66, u_239_67, u_239_70, u_239_71, u_239_72, u_239_75, u_239_76, u_239_79, u_239_80, u_239_81, u_239_82, u_239_85, u_239_88, u_239_89, u_239_90, u_239_91, u_239_92, u_239_95, u_239_98, u_239_104, u_239_107, u_239_108, u_239_111, u_239_112, u_239_115, u_239_116, u_239_119, u_239_120, gI0, gIs, gR0, gRs, gF0, gFs, st0, st_i, st_r, st_f, st_n, st_s, true_and, and_true, ↓ifLeT, ↓ifLeF, ↓ifLtT, ↓ifLtF, ↓ifEqT, ↓ifEqF, if_tt, if_ff, if_pos, if_neg, nLe, nLt, nEq, nInT, nCl, pk_mul, nI_add, Nat.reduceAdd, s_cat_nil, s_cat_i, s_cat_r, s_cat_f, s_cat_l, tl_s, tl_n, cat_i, cat_r, cat_f, nb0, nb1, nbI, if_bI, if_bIr, Nat.zero_le, Nat.reduceLeDiff, M_g0, M_g1, M_g2, M_g3, M_g4, M_g5, M_g6, M_g7, M_g8, M_g9, M_g10, M_g11, M_g12, M_g13, M_g14, M_g15, M_g16, M_g17, M_g18, M_g19, M_g20, M_g21, M_g22, M_g23, M_g24, M_g25, M_g26, M_g27, M_g28, M_g29, M_g30, M_g31, M_g32, M_g33, M_g34, M_g35, M_g36, M_g37, M_g38, M_g39, M_g40, M_g41, g10]
    exact K m frB2_r hb
  | succ q ih =>
    intro c m g hc hg hr hb K
    have g10 := hg.2.2.1
    have hcC : c < nF n 2 := by omega
    have bk := (hr.2.2.1 c hcC).2.1
    have e1 := fun Q => r_lift (d := d + 10) (h := h) (Q := Q) (c := c) (t := t) hn hg hr hcC ht
    rw [List.range'_succ, List.flatMap_cons] at K
    simp only [pickB_app] at K
    rw [u_239_53]
    cases hk : nK n c with
    | true =>
      have ea : atC n w t c = [] := if_neg (by rw [hk]; exact Bool.false_ne_true)
      rw [ea] at K
      rw [hk] at bk
      simp (disch := omega) only [u_239_0, u_239_1, u_239_2, u_239_3, u_239_6, u_239_9, u_239_12, u_239_13, u_239_14, u_239_17, u_239_18, u_239_20, u_239_21, u_239_24, u_239_25, u_239_26, u_239_29, u_239_30, u_239_31, u_239_34, u_239_35, u_239_38, u_239_41, u_239_42, u_239_43, u_239_46, u_239_49, u_239_50, u_239_51, u_239_52, u_239_54, u_239_55, u_239_58, u_239_61, u_239_62, u_239_63, u_239_66, u_239_67, u_239_70, u_239_71, u_239_72, u_239_75, u_239_76, u_239_79, u_239_80, u_239_81, u_239_82, u_239_85, u_239_88, u_239_89, u_239_90, u_239_91, u_239_92, u_239_95, u_239_98, u_239_104, u_239_107, u_239_108, u_239_111, u_239_112, u_239_115, u_239_116, u_239_119, u_239_120, gI0, gIs, gR0, gRs, gF0, gFs, st0, st_i, st_r, st_f, st_n, st_s, true_and, and_true, ↓ifLeT, ↓ifLeF, ↓ifLtT, ↓ifLtF, ↓ifEqT, ↓ifEqF, if_tt, if_ff, if_pos, if_neg, nLe, nLt, nEq, nInT, nCl, pk_mul, nI_add, Nat.reduceAdd, s_cat_nil, s_cat_i, s_cat_r, s_cat_f, s_cat_l, tl_s, tl_n, cat_i, cat_r, cat_f, nb0, nb1, nbI, if_bI, if_bIr, Nat.zero_le, Nat.reduceLeDiff, M_ob, M_g0, M_g1, M_g2, M_g3, M_g4, M_g5, M_g6, M_g7, M_g8, M_g9, M_g10, M_g11, M_g12, M_g13, M_g14, M_g15, M_g16, M_g17, M_g18, M_g19, M_g20, M_g21, M_g22, M_g23, M_g24, M_g25, M_g26, M_g27, M_g28, M_g29, M_g30, M_g31, M_g32, M_g33, M_g34, M_g35, M_g36, M_g37, M_g38, M_g39, M_g40, M_g41, g10, ne, reduceIte, m_cAt, M_r rb320, bk, iBt, nI10]
      exact ih (c + 1) m g (by omega) hg hr hb K
    | false =>
      rw [hk] at bk
      cases hl : nLift n c t with
      | false =>
        have ea : atC n w t c = [] := if_neg (by rw [hk, hl]; exact Bool.false_ne_true)
        rw [ea] at K
        rw [hl] at e1
        simp (disch := omega) only [u_239_0, u_239_1, u_239_2, u_239_3, u_239_6, u_239_9, u_239_12, u_239_13, u_239_14, u_239_17, u_239_18, u_239_20, u_239_21, u_239_24, u_239_25, u_239_26, u_239_29, u_239_30, u_239_31, u_239_34, u_239_35, u_239_38, u_239_41, u_239_42, u_239_43, u_239_46, u_239_49, u_239_50, u_239_51, u_239_52, u_239_54, u_239_55, u_239_58, u_239_61, u_239_62, u_239_63, u_239_66, u_239_67, u_239_70, u_239_71, u_239_72, u_239_75, u_239_76, u_239_79, u_239_80, u_239_81, u_239_82, u_239_85, u_239_88, u_239_89, u_239_90, u_239_91, u_239_92, u_239_95, u_239_98, u_239_104, u_239_107, u_239_108, u_239_111, u_239_112, u_239_115, u_239_116, u_239_119, u_239_120, gI0, gIs, gR0, gRs, gF0, gFs, st0, st_i, st_r, st_f, st_n, st_s, true_and, and_true, ↓ifLeT, ↓ifLeF, ↓ifLtT, ↓ifLtF, ↓ifEqT, ↓ifEqF, if_tt, if_ff, if_pos, if_neg, nLe, nLt, nEq, nInT, nCl, pk_mul, nI_add, Nat.reduceAdd, s_cat_nil, s_cat_i, s_cat_r, s_cat_f, s_cat_l, tl_s, tl_n, cat_i, cat_r, cat_f, nb0, nb1, nbI, if_bI, if_bIr, Nat.zero_le, Nat.reduceLeDiff, M_ob, M_g0, M_g1, M_g2, M_g3, M_g4, M_g5, M_g6, M_g7, M_g8, M_g9, M_g10, M_g11, M_g12, M_g13, M_g14, M_g15, M_g16, M_g17, M_g18, M_g19, M_g20, M_g21, M_g22, M_g23, M_g24, M_g25, M_g26, M_g27, M_g28, M_g29, M_g30, M_g31, M_g32, M_g33, M_g34, M_g35, M_g36, M_g37, M_g38, M_g39, M_g40, M_g41, g10, ne, reduceIte, m_cAt, M_r rb320, bk, iBf, e1]
        exact ih (c + 1) m g (by omega) hg hr hb K
      | true =>
        have ea : atC n w t c = (List.range ((restN n w t c).length + 1)).map (fun j => (t, putN n w t c j)) := if_pos (by rw [hk, hl]; rfl)
        rw [ea] at K
        rw [hl] at e1
        simp (disch := omega) only [u_239_0, u_239_1, u_239_2, u_239_3, u_239_6, u_239_9, u_239_12, u_239_13, u_239_14, u_239_17, u_239_18, u_239_20, u_239_21, u_239_24, u_239_25, u_239_26, u_239_29, u_239_30, u_239_31, u_239_34, u_239_35, u_239_38, u_239_41, u_239_42, u_239_43, u_239_46, u_239_49, u_239_50, u_239_51, u_239_52, u_239_54, u_239_55, u_239_58, u_239_61, u_239_62, u_239_63, u_239_66, u_239_67, u_239_70, u_239_71, u_239_72, u_239_75, u_239_76, u_239_79, u_239_80, u_239_81, u_239_82, u_239_85, u_239_88, u_239_89, u_239_90, u_239_91, u_239_92, u_239_95, u_239_98, u_239_104, u_239_107, u_239_108, u_239_111, u_239_112, u_239_115, u_239_116, u_239_119, u_239_120, gI0, gIs, gR0, gRs, gF0, gFs, st0, st_i, st_r, st_f, st_n, st_s, true_and, and_true, ↓ifLeT, ↓ifLeF, ↓ifLtT, ↓ifLtF, ↓ifEqT, ↓ifEqF, if_tt, if_ff, if_pos, if_neg, nLe, nLt, nEq, nInT, nCl, pk_mul, nI_add, Nat.reduceAdd, s_cat_nil, s_cat_i, s_cat_r, s_cat_f, s_cat_l, tl_s, tl_n, cat_i, cat_r, cat_f, nb0, nb1, nbI, if_bI, if_bIr, Nat.zero_le, Nat.reduceLeDiff, M_ob, M_g0, M_g1, M_g2, M_g3, M_g4, M_g5, M_g6, M_g7, M_g8, M_g9, M_g10, M_g11, M_g12, M_g13, M_g14, M_g15, M_g16, M_g17, M_g18, M_g19, M_g20, M_g21, M_g22, M_g23, M_g24, M_g25, M_g26, M_g27, M_g28, M_g29, M_g30, M_g31, M_g32, M_g33, M_g34, M_g35, M_g36, M_g37, M_g38, M_g39, M_g40, M_g41, g10, ne, reduceIte, m_cAt, M_r rb320, bk, iBf, iBt, nI10, e1]
        refine r_triesP (d := d + 1) hn hw hcC ht hmem hg hr hb fun m1 f1 b1 => ?_
        simp (disch := omega) only [u_239_0, u_239_1, u_239_2, u_239_3, u_239_6, u_239_9, u_239_12, u_239_13, u_239_14, u_239_17, u_239_18, u_239_20, u_239_21, u_239_24, u_239_25, u_239_26, u_239_29, u_239_30, u_239_31, u_239_34, u_239_35, u_239_38, u_239_41, u_239_42, u_239_43, u_239_46, u_239_49, u_239_50, u_239_51, u_239_52, u_239_54, u_239_55, u_239_58, u_239_61, u_239_62, u_239_63, u_239_66, u_239_67, u_239_70, u_239_71, u_239_72, u_239_75, u_239_76, u_239_79, u_239_80, u_239_81, u_239_82, u_239_85, u_239_88, u_239_89, u_239_90, u_239_91, u_239_92, u_239_95, u_239_98, u_239_104, u_239_107, u_239_108, u_239_111, u_239_112, u_239_115, u_239_116, u_239_119, u_239_120, gI0, gIs, gR0, gRs, gF0, gFs, st0, st_i, st_r, st_f, st_n, st_s, true_and, and_true, ↓ifLeT, ↓ifLeF, ↓ifLtT, ↓ifLtF, ↓ifEqT, ↓ifEqF, if_tt, if_ff, if_pos, if_neg, nLe, nLt, nEq, nInT, nCl, pk_mul, nI_add, Nat.reduceAdd, s_cat_nil, s_cat_i, s_cat_r, s_cat_f, s_cat_l, tl_s, tl_n, cat_i, cat_r, cat_f, nb0, nb1, nbI, if_bI, if_bIr, Nat.zero_le, Nat.reduceLeDiff]
        exact ih (c + 1) m1 _ (by omega) (MG_fz hg (frB2_Z f1)) (by rw [f1.2.2 320 (by decide) (by decide) (by decide) (by decide)]; exact hr) b1 fun m' f' b' => K m' (frB2_t f1 f') b'
theorem bet_out (hn : wfN n) : ∀ q t m g (v2 v3 : Value), t + q = nF n 3 → MG m n → RR (kA m 320) n → MB m (nF n 2) g → (∀ m' v2 v3, frB2 m m' → MB m' (nF n 2) (pickB n ((List.range' t q).flatMap (atT n)) g) → WP (d + 12) 239 107 [.ref 317, .int (nI (nF n 3)), v2, v3] [] (pM m' h) (0, 0) Q) → WP (d + 12) 239 19 [.ref 317, .int (nI t), v2, v3] [] (pM m h) (0, 0) Q := by
  have h4 := hn.1.1
  have h8 := hn.1.2.1
  have c1 : (nI 1).toNatClampNeg = 1 := rfl
  intro q
  induction q with
  | zero =>
    intro t m g v2 v3 ht hg hr hb K
    have r1 := hr.2.1
    have e : t = nF n 3 := by omega
    subst e
    rw [u_239_19]
    simp (disch := omega) only [u_239_0, u_239_1, u_239_2, u_239_3, u_239_6, u_239_9, u_239_12, u_239_13, u_239_14, u_239_17, u_239_18, u_239_20, u_239_21, u_239_24, u_239_25, u_239_26, u_239_29, u_239_30, u_239_31, u_239_34, u_239_35, u_239_38, u_239_41, u_239_42, u_239_43, u_239_46, u_239_49, u_239_50, u_239_51, u_239_52, u_239_54, u_239_55, u_239_58, u_239_61, u_239_62, u_239_63, u_239_66, u_239_67, u_239_70, u_239_71, u_239_72, u_239_75, u_239_76, u_239_79, u_239_80, u_239_81, u_239_82, u_239_85, u_239_88, u_239_89, u_239_90, u_239_91, u_239_92, u_239_95, u_239_98, u_239_101, u_239_104, u_239_108, u_239_111, u_239_112, u_239_115, u_239_116, u_239_119, u_239_120, gI0, gIs, gR0, gRs, gF0, gFs, st0, st_i, st_r, st_f, st_n, st_s, true_and, and_true, ↓ifLeT, ↓ifLeF, ↓ifLtT, ↓ifLtF, ↓ifEqT, ↓ifEqF, if_tt, if_ff, if_pos, if_neg, nLe, nLt, nEq, nInT, nCl, pk_mul, nI_add, Nat.reduceAdd, s_cat_nil, s_cat_i, s_cat_r, s_cat_f, s_cat_l, tl_s, tl_n, cat_i, cat_r, cat_f, nb0, nb1, nbI, if_bI, if_bIr, Nat.zero_le, Nat.reduceLeDiff, M_g0, M_g1, M_g2, M_g3, M_g4, M_g5, M_g6, M_g7, M_g8, M_g9, M_g10, M_g11, M_g12, M_g13, M_g14, M_g15, M_g16, M_g17, M_g18, M_g19, M_g20, M_g21, M_g22, M_g23, M_g24, M_g25, M_g26, M_g27, M_g28, M_g29, M_g30, M_g31, M_g32, M_g33, M_g34, M_g35, M_g36, M_g37, M_g38, M_g39, M_g40, M_g41, M_r rb320, c1, r1]
    exact K m _ _ frB2_r hb
  | succ q ih =>
    intro t m g v2 v3 ht hg hr hb K
    have r1 := hr.2.1
    have g10 := hg.2.2.1
    have e1 := fun Q => r_left (d := d + 10) (h := h) (Q := Q) (t := t) rb320 hn hr (by omega)
    have z0 : 0 ≤ nF n 2 := Nat.zero_le _
    rw [List.range'_succ, List.flatMap_cons] at K
    simp only [pickB_app] at K
    have skip : atT n t = [] → WP (d + 12) 239 53 [.ref 317, .int (nI t), .int (-1), .int (nI 0)] [] (pM m h) (0, 0) Q := fun ea => by
      rw [ea] at K
      rw [u_239_53]
      by_cases c0 : nF n 2 = 0
      · rw [c0] at g10
        simp (disch := omega) only [u_239_0, u_239_1, u_239_2, u_239_3, u_239_6, u_239_9, u_239_12, u_239_13, u_239_14, u_239_17, u_239_18, u_239_20, u_239_21, u_239_24, u_239_25, u_239_26, u_239_29, u_239_30, u_239_31, u_239_34, u_239_35, u_239_38, u_239_41, u_239_42, u_239_43, u_239_46, u_239_49, u_239_50, u_239_51, u_239_52, u_239_54, u_239_55, u_239_58, u_239_61, u_239_62, u_239_63, u_239_66, u_239_67, u_239_70, u_239_71, u_239_72, u_239_75, u_239_76, u_239_79, u_239_80, u_239_81, u_239_82, u_239_85, u_239_88, u_239_89, u_239_90, u_239_91, u_239_92, u_239_95, u_239_98, u_239_101, u_239_104, u_239_108, u_239_111, u_239_112, u_239_115, u_239_116, u_239_119, u_239_120, gI0, gIs, gR0, gRs, gF0, gFs, st0, st_i, st_r, st_f, st_n, st_s, true_and, and_true, ↓ifLeT, ↓ifLeF, ↓ifLtT, ↓ifLtF, ↓ifEqT, ↓ifEqF, if_tt, if_ff, if_pos, if_neg, nLe, nLt, nEq, nInT, nCl, pk_mul, nI_add, Nat.reduceAdd, s_cat_nil, s_cat_i, s_cat_r, s_cat_f, s_cat_l, tl_s, tl_n, cat_i, cat_r, cat_f, nb0, nb1, nbI, if_bI, if_bIr, Nat.zero_le, Nat.reduceLeDiff, M_g0, M_g1, M_g2, M_g3, M_g4, M_g5, M_g6, M_g7, M_g8, M_g9, M_g10, M_g11, M_g12, M_g13, M_g14, M_g15, M_g16, M_g17, M_g18, M_g19, M_g20, M_g21, M_g22, M_g23, M_g24, M_g25, M_g26, M_g27, M_g28, M_g29, M_g30, M_g31, M_g32, M_g33, M_g34, M_g35, M_g36, M_g37, M_g38, M_g39, M_g40, M_g41, g10]
        exact ih (t + 1) m g _ _ (by omega) hg hr hb K
      · simp (disch := omega) only [u_239_0, u_239_1, u_239_2, u_239_3, u_239_6, u_239_9, u_239_12, u_239_13, u_239_14, u_239_17, u_239_18, u_239_20, u_239_21, u_239_24, u_239_25, u_239_26, u_239_29, u_239_30, u_239_31, u_239_34, u_239_35, u_239_38, u_239_41, u_239_42, u_239_43, u_239_46, u_239_49, u_239_50, u_239_51, u_239_52, u_239_54, u_239_55, u_239_58, u_239_61, u_239_62, u_239_63, u_239_66, u_239_67, u_239_70, u_239_71, u_239_72, u_239_75, u_239_76, u_239_79, u_239_80, u_239_81, u_239_82, u_239_85, u_239_88, u_239_89, u_239_90, u_239_91, u_239_92, u_239_95, u_239_98, u_239_101, u_239_104, u_239_108, u_239_111, u_239_112, u_239_115, u_239_116, u_239_119, u_239_120, gI0, gIs, gR0, gRs, gF0, gFs, st0, st_i, st_r, st_f, st_n, st_s, true_and, and_true, ↓ifLeT, ↓ifLeF, ↓ifLtT, ↓ifLtF, ↓ifEqT, ↓ifEqF, if_tt, if_ff, if_pos, if_neg, nLe, nLt, nEq, nInT, nCl, pk_mul, nI_add, Nat.reduceAdd, s_cat_nil, s_cat_i, s_cat_r, s_cat_f, s_cat_l, tl_s, tl_n, cat_i, cat_r, cat_f, nb0, nb1, nbI, if_bI, if_bIr, Nat.zero_le, Nat.reduceLeDiff, M_g0, M_g1, M_g2, M_g3, M_g4, M_g5, M_g6, M_g7, M_g8, M_g9, M_g10, M_g11, M_g12, M_g13, M_g14, M_g15, M_g16, M_g17, M_g18, M_g19, M_g20, M_g21, M_g22, M_g23, M_g24, M_g25, M_g26, M_g27, M_g28, M_g29, M_g30, M_g31, M_g32, M_g33, M_g34, M_g35, M_g36, M_g37, M_g38, M_g39, M_g40, M_g41, g10, reduceIte]
        exact ih (t + 1) m g _ _ (by omega) hg hr hb K
    rw [u_239_19]
    cases hd : nDone n t with
    | true =>
      rw [hd] at e1
      simp (disch := omega) only [u_239_0, u_239_1, u_239_2, u_239_3, u_239_6, u_239_9, u_239_12, u_239_13, u_239_14, u_239_17, u_239_18, u_239_20, u_239_21, u_239_24, u_239_25, u_239_26, u_239_29, u_239_30, u_239_31, u_239_34, u_239_35, u_239_38, u_239_41, u_239_42, u_239_43, u_239_46, u_239_49, u_239_50, u_239_51, u_239_52, u_239_54, u_239_55, u_239_58, u_239_61, u_239_62, u_239_63, u_239_66, u_239_67, u_239_70, u_239_71, u_239_72, u_239_75, u_239_76, u_239_79, u_239_80, u_239_81, u_239_82, u_239_85, u_239_88, u_239_89, u_239_90, u_239_91, u_239_92, u_239_95, u_239_98, u_239_101, u_239_104, u_239_108, u_239_111, u_239_112, u_239_115, u_239_116, u_239_119, u_239_120, gI0, gIs, gR0, gRs, gF0, gFs, st0, st_i, st_r, st_f, st_n, st_s, true_and, and_true, ↓ifLeT, ↓ifLeF, ↓ifLtT, ↓ifLtF, ↓ifEqT, ↓ifEqF, if_tt, if_ff, if_pos, if_neg, nLe, nLt, nEq, nInT, nCl, pk_mul, nI_add, Nat.reduceAdd, s_cat_nil, s_cat_i, s_cat_r, s_cat_f, s_cat_l, tl_s, tl_n, cat_i, cat_r, cat_f, nb0, nb1, nbI, if_bI, if_bIr, Nat.zero_le, Nat.reduceLeDiff, M_ob, M_g0, M_g1, M_g2, M_g3, M_g4, M_g5, M_g6, M_g7, M_g8, M_g9, M_g10, M_g11, M_g12, M_g13, M_g14, M_g15, M_g16, M_g17, M_g18, M_g19, M_g20, M_g21, M_g22, M_g23, M_g24, M_g25, M_g26, M_g27, M_g28, M_g29, M_g30, M_g31, M_g32, M_g33, M_g34, M_g35, M_g36, M_g37, M_g38, M_g39, M_g40, M_g41, M_r rb320, c1, r1, e1, iBf, Bool.not_true]
      exact skip (if_pos hd)
    | false =>
      rw [hd] at e1
      have ea : atT n t = match holdN (nL n) t with
        | some w => (List.range (nF n 2)).flatMap (atC n w t)
        | none => [] := if_neg (by rw [hd]; exact Bool.false_ne_true)
      simp (disch := omega) only [u_239_0, u_239_1, u_239_2, u_239_3, u_239_6, u_239_9, u_239_12, u_239_13, u_239_14, u_239_17, u_239_18, u_239_20, u_239_21, u_239_24, u_239_25, u_239_26, u_239_29, u_239_30, u_239_31, u_239_34, u_239_35, u_239_38, u_239_41, u_239_42, u_239_43, u_239_46, u_239_49, u_239_50, u_239_51, u_239_52, u_239_54, u_239_55, u_239_58, u_239_61, u_239_62, u_239_63, u_239_66, u_239_67, u_239_70, u_239_71, u_239_72, u_239_75, u_239_76, u_239_79, u_239_80, u_239_81, u_239_82, u_239_85, u_239_88, u_239_89, u_239_90, u_239_91, u_239_92, u_239_95, u_239_98, u_239_101, u_239_104, u_239_108, u_239_111, u_239_112, u_239_115, u_239_116, u_239_119, u_239_120, gI0, gIs, gR0, gRs, gF0, gFs, st0, st_i, st_r, st_f, st_n, st_s, true_and, and_true, ↓ifLeT, ↓ifLeF, ↓ifLtT, ↓ifLtF, ↓ifEqT, ↓ifEqF, if_tt, if_ff, if_pos, if_neg, nLe, nLt, nEq, nInT, nCl, pk_mul, nI_add, Nat.reduceAdd, s_cat_nil, s_cat_i, s_cat_r, s_cat_f, s_cat_l, tl_s, tl_n, cat_i, cat_r, cat_f, nb0, nb1, nbI, if_bI, if_bIr, Nat.zero_le, Nat.reduceLeDiff, M_ob, M_g0, M_g1, M_g2, M_g3, M_g4, M_g5, M_g6, M_g7, M_g8, M_g9, M_g10, M_g11, M_g12, M_g13, M_g14, M_g15, M_g16, M_g17, M_g18, M_g19, M_g20, M_g21, M_g22, M_g23, M_g24, M_g25, M_g26, M_g27, M_g28, M_g29, M_g30, M_g31, M_g32, M_g33, M_g34, M_g35, M_g36, M_g37, M_g38, M_g39, M_g40, M_g41, M_r rb320, c1, r1, e1, iBt, nI10, reduceIte, Bool.not_false]
      refine z_toldBy (d := d + 10) hn g10 hr (by omega) ?_
      cases hh : holdN (nL n) t with
      | none =>
        rw [hh] at ea
        simp (disch := omega) only [u_239_0, u_239_1, u_239_2, u_239_3, u_239_6, u_239_9, u_239_12, u_239_13, u_239_14, u_239_17, u_239_18, u_239_20, u_239_21, u_239_24, u_239_25, u_239_26, u_239_29, u_239_30, u_239_31, u_239_34, u_239_35, u_239_38, u_239_41, u_239_42, u_239_43, u_239_46, u_239_49, u_239_50, u_239_51, u_239_52, u_239_54, u_239_55, u_239_58, u_239_61, u_239_62, u_239_63, u_239_66, u_239_67, u_239_70, u_239_71, u_239_72, u_239_75, u_239_76, u_239_79, u_239_80, u_239_81, u_239_82, u_239_85, u_239_88, u_239_89, u_239_90, u_239_91, u_239_92, u_239_95, u_239_98, u_239_101, u_239_104, u_239_108, u_239_111, u_239_112, u_239_115, u_239_116, u_239_119, u_239_120, gI0, gIs, gR0, gRs, gF0, gFs, st0, st_i, st_r, st_f, st_n, st_s, true_and, and_true, ↓ifLeT, ↓ifLeF, ↓ifLtT, ↓ifLtF, ↓ifEqT, ↓ifEqF, if_tt, if_ff, if_pos, if_neg, nLe, nLt, nEq, nInT, nCl, pk_mul, nI_add, Nat.reduceAdd, s_cat_nil, s_cat_i, s_cat_r, s_cat_f, s_cat_l, tl_s, tl_n, cat_i, cat_r, cat_f, nb0, nb1, nbI, if_bI, if_bIr, Nat.zero_le, Nat.reduceLeDiff, show oI1 none = -1 from rfl]
        exact skip ea
      | some w =>
        rw [hh] at ea
        rw [ea] at K
        obtain ⟨w4, wm⟩ := hold_some hh
        have hw : w < nF n 2 := Nat.lt_of_not_le fun q => by rw [hn.2.2.2.1 w q] at wm; cases wm
        simp (disch := omega) only [u_239_0, u_239_1, u_239_2, u_239_3, u_239_6, u_239_9, u_239_12, u_239_13, u_239_14, u_239_17, u_239_18, u_239_20, u_239_21, u_239_24, u_239_25, u_239_26, u_239_29, u_239_30, u_239_31, u_239_34, u_239_35, u_239_38, u_239_41, u_239_42, u_239_43, u_239_46, u_239_49, u_239_50, u_239_51, u_239_52, u_239_54, u_239_55, u_239_58, u_239_61, u_239_62, u_239_63, u_239_66, u_239_67, u_239_70, u_239_71, u_239_72, u_239_75, u_239_76, u_239_79, u_239_80, u_239_81, u_239_82, u_239_85, u_239_88, u_239_89, u_239_90, u_239_91, u_239_92, u_239_95, u_239_98, u_239_101, u_239_104, u_239_108, u_239_111, u_239_112, u_239_115, u_239_116, u_239_119, u_239_120, gI0, gIs, gR0, gRs, gF0, gFs, st0, st_i, st_r, st_f, st_n, st_s, true_and, and_true, ↓ifLeT, ↓ifLeF, ↓ifLtT, ↓ifLtF, ↓ifEqT, ↓ifEqF, if_tt, if_ff, if_pos, if_neg, nLe, nLt, nEq, nInT, nCl, pk_mul, nI_add, Nat.reduceAdd, s_cat_nil, s_cat_i, s_cat_r, s_cat_f, s_cat_l, tl_s, tl_n, cat_i, cat_r, cat_f, nb0, nb1, nbI, if_bI, if_bIr, Nat.zero_le, Nat.reduceLeDiff, show oI1 (some w) = nI w from rfl]
        refine bet_in (d := d) hn hw (by omega) wm (nF n 2) 0 m g (Nat.zero_add _) hg hr hb fun m1 f1 b1 => ?_
        simp (disch := omega) only [u_239_0, u_239_1, u_239_2, u_239_3, u_239_6, u_239_9, u_239_12, u_239_13, u_239_14, u_239_17, u_239_18, u_239_20, u_239_21, u_239_24, u_239_25, u_239_26, u_239_29, u_239_30, u_239_31, u_239_34, u_239_35, u_239_38, u_239_41, u_239_42, u_239_43, u_239_46, u_239_49, u_239_50, u_239_51, u_239_52, u_239_54, u_239_55, u_239_58, u_239_61, u_239_62, u_239_63, u_239_66, u_239_67, u_239_70, u_239_71, u_239_72, u_239_75, u_239_76, u_239_79, u_239_80, u_239_81, u_239_82, u_239_85, u_239_88, u_239_89, u_239_90, u_239_91, u_239_92, u_239_95, u_239_98, u_239_101, u_239_104, u_239_108, u_239_111, u_239_112, u_239_115, u_239_116, u_239_119, u_239_120, gI0, gIs, gR0, gRs, gF0, gFs, st0, st_i, st_r, st_f, st_n, st_s, true_and, and_true, ↓ifLeT, ↓ifLeF, ↓ifLtT, ↓ifLtF, ↓ifEqT, ↓ifEqF, if_tt, if_ff, if_pos, if_neg, nLe, nLt, nEq, nInT, nCl, pk_mul, nI_add, Nat.reduceAdd, s_cat_nil, s_cat_i, s_cat_r, s_cat_f, s_cat_l, tl_s, tl_n, cat_i, cat_r, cat_f, nb0, nb1, nbI, if_bI, if_bIr, Nat.zero_le, Nat.reduceLeDiff]
        rw [← List.range_eq_range'] at b1
        exact ih (t + 1) m1 _ _ _ (by omega) (MG_fz hg (frB2_Z f1)) (by rw [f1.2.2 320 (by decide) (by decide) (by decide) (by decide)]; exact hr) b1 fun m' v2 v3 f' b' => K m' v2 v3 (frB2_t f1 f') b'
theorem r_seeksW (hm : RM m z) (hq : zQ z = some n) (K : ∀ m', RM m' z → MB m' (nF n 2) (betterN n) → Q (some (.int (iB (betterN n).2.isSome))) (pM m' h)) : MT (d + 13) 239 [.ref 317] (pM m h) Q := by
  obtain ⟨hg, hr, hok⟩ := RM_q hm hq
  have hn := hok.1
  rw [MT_go (by decide) _ _ _ (Nat.le_of_ble_eq_true rfl), show s_entry 239 [.ref 317] = [.ref 317, s_no, s_no, s_no] from rfl]
  simp (disch := omega) only [u_239_0, u_239_1, u_239_2, u_239_3, u_239_6, u_239_9, u_239_12, u_239_13, u_239_14, u_239_17, u_239_18, u_239_20, u_239_21, u_239_24, u_239_25, u_239_26, u_239_29, u_239_30, u_239_31, u_239_34, u_239_35, u_239_38, u_239_41, u_239_42, u_239_43, u_239_46, u_239_49, u_239_50, u_239_51, u_239_52, u_239_54, u_239_55, u_239_58, u_239_61, u_239_62, u_239_63, u_239_66, u_239_67, u_239_70, u_239_71, u_239_72, u_239_75, u_239_76, u_239_79, u_239_80, u_239_81, u_239_82, u_239_85, u_239_88, u_239_89, u_239_90, u_239_91, u_239_92, u_239_95, u_239_98, u_239_101, u_239_104, u_239_107, u_239_108, u_239_111, u_239_112, u_239_115, u_239_116, u_239_119, u_239_120, gI0, gIs, gR0, gRs, gF0, gFs, st0, st_i, st_r, st_f, st_n, st_s, true_and, and_true, ↓ifLeT, ↓ifLeF, ↓ifLtT, ↓ifLtF, ↓ifEqT, ↓ifEqF, if_tt, if_ff, if_pos, if_neg, nLe, nLt, nEq, nInT, nCl, pk_mul, nI_add, Nat.reduceAdd, s_cat_nil, s_cat_i, s_cat_r, s_cat_f, s_cat_l, tl_s, tl_n, cat_i, cat_r, cat_f, nb0, nb1, nbI, if_bI, if_bIr, Nat.zero_le, Nat.reduceLeDiff, M_ob, M_g0, M_g1, M_g2, M_g3, M_g4, M_g5, M_g6, M_g7, M_g8, M_g9, M_g10, M_g11, M_g12, M_g13, M_g14, M_g15, M_g16, M_g17, M_g18, M_g19, M_g20, M_g21, M_g22, M_g23, M_g24, M_g25, M_g26, M_g27, M_g28, M_g29, M_g30, M_g31, M_g32, M_g33, M_g34, M_g35, M_g36, M_g37, M_g38, M_g39, M_g40, M_g41]
  refine r_lastV (d := d + 1) rb320 (by decide) hn hg hr fun m1 f1 => ?_
  simp (disch := omega) only [u_239_0, u_239_1, u_239_2, u_239_3, u_239_6, u_239_9, u_239_12, u_239_13, u_239_14, u_239_17, u_239_18, u_239_20, u_239_21, u_239_24, u_239_25, u_239_26, u_239_29, u_239_30, u_239_31, u_239_34, u_239_35, u_239_38, u_239_41, u_239_42, u_239_43, u_239_46, u_239_49, u_239_50, u_239_51, u_239_52, u_239_54, u_239_55, u_239_58, u_239_61, u_239_62, u_239_63, u_239_66, u_239_67, u_239_70, u_239_71, u_239_72, u_239_75, u_239_76, u_239_79, u_239_80, u_239_81, u_239_82, u_239_85, u_239_88, u_239_89, u_239_90, u_239_91, u_239_92, u_239_95, u_239_98, u_239_101, u_239_104, u_239_107, u_239_108, u_239_111, u_239_112, u_239_115, u_239_116, u_239_119, u_239_120, gI0, gIs, gR0, gRs, gF0, gFs, st0, st_i, st_r, st_f, st_n, st_s, true_and, and_true, ↓ifLeT, ↓ifLeF, ↓ifLtT, ↓ifLtF, ↓ifEqT, ↓ifEqF, if_tt, if_ff, if_pos, if_neg, nLe, nLt, nEq, nInT, nCl, pk_mul, nI_add, Nat.reduceAdd, s_cat_nil, s_cat_i, s_cat_r, s_cat_f, s_cat_l, tl_s, tl_n, cat_i, cat_r, cat_f, nb0, nb1, nbI, if_bI, if_bIr, Nat.zero_le, Nat.reduceLeDiff, M_s30, M_s34]
  have f0 : frB2 m (xI (xI m1 30 (nI (lastV n))) 34 (-1)) := frB2_t (frB2_T (frT_M f1)) (frB2_t (frB2_I (by decide)) (frB2_I (by decide)))
  have hb : MB (xI (xI m1 30 (nI (lastV n))) 34 (-1)) (nF n 2) ((match lastN 300 n with | some m => m | none => 301), none) := by
    refine ⟨?_, ?_, rfl⟩
    · cases hl : lastN 300 n with
      | none => exact Nat.le_refl _
      | some v => have := last_le hl; show v ≤ 301; omega
    · show nI (lastV n) = _
      rw [lastV_e]
      cases hl : lastN 300 n with
      | none => rfl
      | some v =>
        have := last_le hl
        show nI v = nI (valD v)
        unfold valD
        rw [if_neg (by omega)]
  refine bet_out (d := d) hn (nF n 3) 0 _ _ _ _ (Nat.zero_add _) (MG_fz hg (frB2_Z f0)) (by rw [f0.2.2 320 (by decide) (by decide) (by decide) (by decide)]; exact hr) hb fun m2 v2 v3 f2 b2 => ?_
  rw [← List.range_eq_range'] at b2
  have b2 : MB m2 (nF n 2) (betterN n) := b2
  have K := K m2 (RM_fr (frB2_Z (frB2_t f0 f2)) hm) b2
  obtain ⟨-, -, b3⟩ := b2
  cases hg2 : (betterN n).2 with
  | none =>
    simp only [hg2] at b3
    rw [hg2] at K
    simp (disch := omega) only [u_239_0, u_239_1, u_239_2, u_239_3, u_239_6, u_239_9, u_239_12, u_239_13, u_239_14, u_239_17, u_239_18, u_239_20, u_239_21, u_239_24, u_239_25, u_239_26, u_239_29, u_239_30, u_239_31, u_239_34, u_239_35, u_239_38, u_239_41, u_239_42, u_239_43, u_239_46, u_239_49, u_239_50, u_239_51, u_239_52, u_239_54, u_239_55, u_239_58, u_239_61, u_239_62, u_239_63, u_239_66, u_239_67, u_239_70, u_239_71, u_239_72, u_239_75, u_239_76, u_239_79, u_239_80, u_239_81, u_239_82, u_239_85, u_239_88, u_239_89, u_239_90, u_239_91, u_239_92, u_239_95, u_239_98, u_239_101, u_239_104, u_239_107, u_239_108, u_239_111, u_239_112, u_239_115, u_239_116, u_239_119, u_239_120, gI0, gIs, gR0, gRs, gF0, gFs, st0, st_i, st_r, st_f, st_n, st_s, true_and, and_true, ↓ifLeT, ↓ifLeF, ↓ifLtT, ↓ifLtF, ↓ifEqT, ↓ifEqF, if_tt, if_ff, if_pos, if_neg, nLe, nLt, nEq, nInT, nCl, pk_mul, nI_add, Nat.reduceAdd, s_cat_nil, s_cat_i, s_cat_r, s_cat_f, s_cat_l, tl_s, tl_n, cat_i, cat_r, cat_f, nb0, nb1, nbI, if_bI, if_bIr, Nat.zero_le, Nat.reduceLeDiff, M_g0, M_g1, M_g2, M_g3, M_g4, M_g5, M_g6, M_g7, M_g8, M_g9, M_g10, M_g11, M_g12, M_g13, M_g14, M_g15, M_g16, M_g17, M_g18, M_g19, M_g20, M_g21, M_g22, M_g23, M_g24, M_g25, M_g26, M_g27, M_g28, M_g29, M_g30, M_g31, M_g32, M_g33, M_g34, M_g35, M_g36, M_g37, M_g38, M_g39, M_g40, M_g41, b3, reduceIte]
    exact K
  | some p =>
    obtain ⟨v, l, t⟩ := p
    simp only [hg2] at b3
    obtain ⟨-, -, -, -, t8, b34, -⟩ := b3
    have ne := m1_ne (j := t) (by omega)
    rw [hg2] at K
    simp (disch := omega) only [u_239_0, u_239_1, u_239_2, u_239_3, u_239_6, u_239_9, u_239_12, u_239_13, u_239_14, u_239_17, u_239_18, u_239_20, u_239_21, u_239_24, u_239_25, u_239_26, u_239_29, u_239_30, u_239_31, u_239_34, u_239_35, u_239_38, u_239_41, u_239_42, u_239_43, u_239_46, u_239_49, u_239_50, u_239_51, u_239_52, u_239_54, u_239_55, u_239_58, u_239_61, u_239_62, u_239_63, u_239_66, u_239_67, u_239_70, u_239_71, u_239_72, u_239_75, u_239_76, u_239_79, u_239_80, u_239_81, u_239_82, u_239_85, u_239_88, u_239_89, u_239_90, u_239_91, u_239_92, u_239_95, u_239_98, u_239_101, u_239_104, u_239_107, u_239_108, u_239_111, u_239_112, u_239_115, u_239_116, u_239_119, u_239_120, gI0, gIs, gR0, gRs, gF0, gFs, st0, st_i, st_r, st_f, st_n, st_s, true_and, and_true, ↓ifLeT, ↓ifLeF, ↓ifLtT, ↓ifLtF, ↓ifEqT, ↓ifEqF, if_tt, if_ff, if_pos, if_neg, nLe, nLt, nEq, nInT, nCl, pk_mul, nI_add, Nat.reduceAdd, s_cat_nil, s_cat_i, s_cat_r, s_cat_f, s_cat_l, tl_s, tl_n, cat_i, cat_r, cat_f, nb0, nb1, nbI, if_bI, if_bIr, Nat.zero_le, Nat.reduceLeDiff, M_g0, M_g1, M_g2, M_g3, M_g4, M_g5, M_g6, M_g7, M_g8, M_g9, M_g10, M_g11, M_g12, M_g13, M_g14, M_g15, M_g16, M_g17, M_g18, M_g19, M_g20, M_g21, M_g22, M_g23, M_g24, M_g25, M_g26, M_g27, M_g28, M_g29, M_g30, M_g31, M_g32, M_g33, M_g34, M_g35, M_g36, M_g37, M_g38, M_g39, M_g40, M_g41, b34, ne, reduceIte]
    exact K
theorem z_better (hm : RM m z) (K : ∀ m', RM m' z → Q (some (.int (zbetter z w))) (pM m' h)) : MT (d + 14) 240 [.ref 317, .int w] (pM m h) Q := by
  rw [MT_go (by decide) _ _ _ (Nat.le_of_ble_eq_true rfl), show s_entry 240 [.ref 317, .int w] = [.ref 317, .int w] from rfl]
  have hm0 := RM_0 (x := nI 0) hm
  have q1 := hm.2.1.1
  unfold zbetter at K
  cases hq : zQ z with
  | none =>
    simp only [hq] at K
    rw [hq] at q1
    simp (disch := omega) only [u_240_0, u_240_1, u_240_2, u_240_5, u_240_6, u_240_9, u_240_12, u_240_13, u_240_14, u_240_15, u_240_18, u_240_21, u_240_24, u_240_27, u_240_28, u_240_29, u_240_32, u_240_35, u_240_36, u_240_37, u_240_38, u_240_41, u_240_42, u_240_45, u_240_48, u_240_49, u_240_50, u_240_53, u_240_54, u_240_57, u_240_60, u_240_61, u_240_62, u_240_65, u_240_66, u_240_69, u_240_72, u_240_73, u_240_76, gI0, gIs, gR0, gRs, gF0, gFs, st0, st_i, st_r, st_f, st_n, st_s, true_and, and_true, ↓ifLeT, ↓ifLeF, ↓ifLtT, ↓ifLtF, ↓ifEqT, ↓ifEqF, if_tt, if_ff, if_pos, if_neg, nLe, nLt, nEq, nInT, nCl, pk_mul, nI_add, Nat.reduceAdd, s_cat_nil, s_cat_i, s_cat_r, s_cat_f, s_cat_l, tl_s, tl_n, cat_i, cat_r, cat_f, nb0, nb1, nbI, if_bI, if_bIr, Nat.zero_le, Nat.reduceLeDiff, M_ob, M_g0, M_g1, M_g2, M_g3, M_g4, M_g5, M_g6, M_g7, M_g8, M_g9, M_g10, M_g11, M_g12, M_g13, M_g14, M_g15, M_g16, M_g17, M_g18, M_g19, M_g20, M_g21, M_g22, M_g23, M_g24, M_g25, M_g26, M_g27, M_g28, M_g29, M_g30, M_g31, M_g32, M_g33, M_g34, M_g35, M_g36, M_g37, M_g38, M_g39, M_g40, M_g41, M_s0, kI_xI, kI_xB, kI_xA, kI_xV, kB_xI, kB_xB, kB_xA, kB_xV, kA_xI, kA_xB, kA_xA, kA_xV, kV_xI, kV_xB, kV_xA, kV_xV, Nat.reduceEqDiff, reduceIte, q1, Option.isSome, iBf]
    exact K _ hm0
  | some n =>
    simp only [hq] at K
    rw [hq] at q1
    cases h1 : ixN w 4 with
    | none =>
      simp only [h1] at K
      simp (disch := omega) only [u_240_0, u_240_1, u_240_2, u_240_5, u_240_6, u_240_9, u_240_12, u_240_13, u_240_14, u_240_15, u_240_18, u_240_21, u_240_24, u_240_27, u_240_28, u_240_29, u_240_32, u_240_35, u_240_36, u_240_37, u_240_38, u_240_41, u_240_42, u_240_45, u_240_48, u_240_49, u_240_50, u_240_53, u_240_54, u_240_57, u_240_60, u_240_61, u_240_62, u_240_65, u_240_66, u_240_69, u_240_72, u_240_73, u_240_76, gI0, gIs, gR0, gRs, gF0, gFs, st0, st_i, st_r, st_f, st_n, st_s, true_and, and_true, ↓ifLeT, ↓ifLeF, ↓ifLtT, ↓ifLtF, ↓ifEqT, ↓ifEqF, if_tt, if_ff, if_pos, if_neg, nLe, nLt, nEq, nInT, nCl, pk_mul, nI_add, Nat.reduceAdd, s_cat_nil, s_cat_i, s_cat_r, s_cat_f, s_cat_l, tl_s, tl_n, cat_i, cat_r, cat_f, nb0, nb1, nbI, if_bI, if_bIr, Nat.zero_le, Nat.reduceLeDiff, M_ob, M_g0, M_g1, M_g2, M_g3, M_g4, M_g5, M_g6, M_g7, M_g8, M_g9, M_g10, M_g11, M_g12, M_g13, M_g14, M_g15, M_g16, M_g17, M_g18, M_g19, M_g20, M_g21, M_g22, M_g23, M_g24, M_g25, M_g26, M_g27, M_g28, M_g29, M_g30, M_g31, M_g32, M_g33, M_g34, M_g35, M_g36, M_g37, M_g38, M_g39, M_g40, M_g41, M_s0, kI_xI, kI_xB, kI_xA, kI_xV, kB_xI, kB_xB, kB_xA, kB_xV, kA_xI, kA_xB, kA_xA, kA_xV, kV_xI, kV_xB, kV_xA, kV_xV, Nat.reduceEqDiff, reduceIte, q1, in4, h1, Option.isSome, iBt, iBf, nI10]
      exact K _ hm0
    | some k =>
      simp only [h1] at K
      obtain ⟨k1, rfl⟩ := ix_some (by omega) h1
      simp (disch := omega) only [u_240_0, u_240_1, u_240_2, u_240_5, u_240_6, u_240_9, u_240_12, u_240_13, u_240_14, u_240_15, u_240_18, u_240_21, u_240_24, u_240_27, u_240_28, u_240_29, u_240_32, u_240_35, u_240_36, u_240_37, u_240_38, u_240_41, u_240_42, u_240_45, u_240_48, u_240_49, u_240_50, u_240_53, u_240_54, u_240_57, u_240_60, u_240_61, u_240_62, u_240_65, u_240_66, u_240_69, u_240_72, u_240_73, u_240_76, gI0, gIs, gR0, gRs, gF0, gFs, st0, st_i, st_r, st_f, st_n, st_s, true_and, and_true, ↓ifLeT, ↓ifLeF, ↓ifLtT, ↓ifLtF, ↓ifEqT, ↓ifEqF, if_tt, if_ff, if_pos, if_neg, nLe, nLt, nEq, nInT, nCl, pk_mul, nI_add, Nat.reduceAdd, s_cat_nil, s_cat_i, s_cat_r, s_cat_f, s_cat_l, tl_s, tl_n, cat_i, cat_r, cat_f, nb0, nb1, nbI, if_bI, if_bIr, Nat.zero_le, Nat.reduceLeDiff, M_ob, M_g0, M_g1, M_g2, M_g3, M_g4, M_g5, M_g6, M_g7, M_g8, M_g9, M_g10, M_g11, M_g12, M_g13, M_g14, M_g15, M_g16, M_g17, M_g18, M_g19, M_g20, M_g21, M_g22, M_g23, M_g24, M_g25, M_g26, M_g27, M_g28, M_g29, M_g30, M_g31, M_g32, M_g33, M_g34, M_g35, M_g36, M_g37, M_g38, M_g39, M_g40, M_g41, M_s0, kI_xI, kI_xB, kI_xA, kI_xV, kB_xI, kB_xB, kB_xA, kB_xV, kA_xI, kA_xB, kA_xA, kA_xV, kV_xI, kV_xB, kV_xA, kV_xV, Nat.reduceEqDiff, reduceIte, q1, in4, h1, Option.isSome, iBt, nI10]
      refine r_seeksW (d := d) hm0 hq fun m' hm' mb => ?_
      have K := K m' hm'
      obtain ⟨b1, b2, b3⟩ := mb
      cases hg2 : (betterN n).2 with
      | none =>
        rw [hg2] at K
        simp (disch := omega) only [u_240_0, u_240_1, u_240_2, u_240_5, u_240_6, u_240_9, u_240_12, u_240_13, u_240_14, u_240_15, u_240_18, u_240_21, u_240_24, u_240_27, u_240_28, u_240_29, u_240_32, u_240_35, u_240_36, u_240_37, u_240_38, u_240_41, u_240_42, u_240_45, u_240_48, u_240_49, u_240_50, u_240_53, u_240_54, u_240_57, u_240_60, u_240_61, u_240_62, u_240_65, u_240_66, u_240_69, u_240_72, u_240_73, u_240_76, gI0, gIs, gR0, gRs, gF0, gFs, st0, st_i, st_r, st_f, st_n, st_s, true_and, and_true, ↓ifLeT, ↓ifLeF, ↓ifLtT, ↓ifLtF, ↓ifEqT, ↓ifEqF, if_tt, if_ff, if_pos, if_neg, nLe, nLt, nEq, nInT, nCl, pk_mul, nI_add, Nat.reduceAdd, s_cat_nil, s_cat_i, s_cat_r, s_cat_f, s_cat_l, tl_s, tl_n, cat_i, cat_r, cat_f, nb0, nb1, nbI, if_bI, if_bIr, Nat.zero_le, Nat.reduceLeDiff, Option.isSome, iBf]
        exact K
      | some p =>
        obtain ⟨v, l, t⟩ := p
        simp only [hg2] at b3
        rw [hg2] at K
        obtain ⟨c1, c2, -, -, t8, b34, b35, b36⟩ := b3
        have bv : kI m' 30 = nI v := by
          rw [b2, c1]
          unfold valD
          rw [if_neg (by omega)]
        match k, k1 with
        | 0, _ | 1, _ | 2, _ | 3, _ =>
          simp (disch := omega) only [u_240_0, u_240_1, u_240_2, u_240_5, u_240_6, u_240_9, u_240_12, u_240_13, u_240_14, u_240_15, u_240_18, u_240_21, u_240_24, u_240_27, u_240_28, u_240_29, u_240_32, u_240_35, u_240_36, u_240_37, u_240_38, u_240_41, u_240_42, u_240_45, u_240_48, u_240_49, u_240_50, u_240_53, u_240_54, u_240_57, u_240_60, u_240_61, u_240_62, u_240_65, u_240_66, u_240_69, u_240_72, u_240_73, u_240_76, gI0, gIs, gR0, gRs, gF0, gFs, st0, st_i, st_r, st_f, st_n, st_s, true_and, and_true, ↓ifLeT, ↓ifLeF, ↓ifLtT, ↓ifLtF, ↓ifEqT, ↓ifEqF, if_tt, if_ff, if_pos, if_neg, nLe, nLt, nEq, nInT, nCl, pk_mul, nI_add, Nat.reduceAdd, s_cat_nil, s_cat_i, s_cat_r, s_cat_f, s_cat_l, tl_s, tl_n, cat_i, cat_r, cat_f, nb0, nb1, nbI, if_bI, if_bIr, Nat.zero_le, Nat.reduceLeDiff, M_g0, M_g1, M_g2, M_g3, M_g4, M_g5, M_g6, M_g7, M_g8, M_g9, M_g10, M_g11, M_g12, M_g13, M_g14, M_g15, M_g16, M_g17, M_g18, M_g19, M_g20, M_g21, M_g22, M_g23, M_g24, M_g25, M_g26, M_g27, M_g28, M_g29, M_g30, M_g31, M_g32, M_g33, M_g34, M_g35, M_g36, M_g37, M_g38, M_g39, M_g40, M_g41, Option.isSome, iBt, nI10, reduceIte, bv, b34, b35, b36]
          exact K
end MBV
