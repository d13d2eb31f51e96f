/-! the reference's reader: a PLAN -/
def cntB (w : Nat) : Nat := (w.testBit 0).toNat + (w.testBit 1).toNat + (w.testBit 2).toNat + (w.testBit 3).toNat
theorem cnt_add : ∀ w, w < 16 → ∀ j, j < 4 → w.testBit j = false → cntB (w ||| 2 ^ j) = cntB w + 1 := by decide
theorem cnt_4 : ∀ w, w < 16 → cntB w = 4 → ∀ j, j < 4 → w.testBit j = true := by decide
section MPM
variable {d : Nat} {m : tM} {t : tO} {h : sH} {Q : sQ} {n : tN}
theorem pl_all (hn : wfN n) : ∀ k m t p l w (v4 : Value), cntB w + k = 4 → w < 16 → GD m t → okP t → MG m n → RR (kA m 320) n → FL (kA m 323) (nF n 2) l → RP p l → wfL (jL n l) → ((rpN n k w t p).1 = true → ∀ m' l', frL m m' → TT m' (rpN n k w t p).2.1 → FL (kA m' 323) (nF n 2) l' → RP (rpN n k w t p).2.2 l' → wfL (jL n l') → Q (some (.int (-1))) (pM m' h)) → ((rpN n k w t p).1 = false → ∀ m', frL m m' → TT m' (rpN n k w t p).2.1 → eN (rpN n k w t p).2.1 2 ≤ 400 → Q (some (.int (nI (eN (rpN n k w t p).2.1 2)))) (pM m' h)) → WP (d + 3) 170 37 [.ref 317, .int (nI w), .int (nI (tbits l)), .int (nI 1), v4] [] (pM m h) (0, 0) Q := by
  have h4 := hn.1.1
  intro k
  induction k with
  | zero =>
    intro m t p l w v4 hw h16 hG hP hg hr hf hp hl K1 K2
    have h5 := hG.2.2.2
    have mx := tk_max hG
    have k10 := hg.2.2.1
    have e1 := fun Q => r_isNum (d := d + 1) (h := h) (Q := Q) (lo := nI 0) (hi := nI (nF n 2) - nI 1) hG (by decide)
    have e2 := fun Q => r_bad0 (d := d + 2) (h := h) (Q := Q) h5 hG.2.2.1.1
    have k10' : kI (xI m 5 (nI (eN t 2))) 10 = nI (nF n 2) := k10
    have n5 : ¬ kI (xI m 5 (nI (eN t 2))) 5 = -1 := by
      show ¬ nI (eN t 2) = -1
      exact m1_ne (by omega)
    have e3 := fun Q => r_num1 (d := d) (h := h) (Q := Q) (lo := nI 0) (hi := nI (nF n 2) - nI 1) n5
    have go := fun v1 v2 v3 v4 => pl_bad (d := d) (h := h) (Q := Q) (m := xI m 5 (nI (eN t 2))) (v1 := v1) (v2 := v2) (v3 := v3) (v4 := v4) mx rfl (K2 rfl _ frL_5 (TT_I hG.1 (by decide)) mx)
    rw [u_170_37]
    cases hb : isNB t (nI 0) (nI (nF n 2) - nI 1) with
    | false =>
      rw [hb] at e1
      simp (disch := omega) only [u_170_38, u_170_41, u_170_42, u_170_43, u_170_44, u_170_47, u_170_48, u_170_49, u_170_52, u_170_55, u_170_56, u_170_57, u_170_60, u_170_61, u_170_62, u_170_63, u_170_64, u_170_67, u_170_68, u_170_71, u_170_72, u_170_73, u_170_74, u_170_77, u_170_78, u_170_79, u_170_82, u_170_84, u_170_85, u_170_86, u_170_88, u_170_89, u_170_90, gI0, gIs, gR0, gRs, gF0, gFs, st0, st_i, st_r, st_f, st_n, st_s, true_and, and_true, ↓ifLeT, ↓ifLeF, ↓ifLtT, ↓ifLtF, ↓ifEqT, ↓ifEqF, if_tt, if_ff, if_pos, if_neg, nLe, nLt, nEq, nInT, nCl, pk_mul, nI_add, Nat.reduceAdd, s_cat_nil, s_cat_i, s_cat_r, s_cat_f, s_cat_l, tl_s, tl_n, cat_i, cat_r, cat_f, nb0, nb1, nbI, if_bI, if_bIr, Nat.zero_le, Nat.reduceLeDiff, M_ob, M_g0, M_g1, M_g2, M_g3, M_g4, M_g5, M_g6, M_g7, M_g8, M_g9, M_g10, M_g11, M_g12, M_g13, M_g14, M_g15, M_g16, M_g17, M_g18, M_g19, M_g20, M_g21, M_g22, M_g23, M_g24, M_g25, M_g26, M_g27, M_g28, M_g29, M_g30, M_g31, M_g32, M_g33, M_g34, M_g35, M_g36, M_g37, M_g38, M_g39, M_g40, M_g41, k10, e1, iBf, e2, k10', e3]
      exact go _ _ _ _
    | true =>
      obtain ⟨j, hj, ej⟩ := nb_in (T := nF n 2) (by omega) hb
      have e7 : kI m 7 = nI j := (isNB_v hG (by decide) hb).2.1.trans ej
      have hbit := i_bit (m := w) (c := j) (by omega) (by omega)
      rw [cnt_4 w h16 (by omega) j (by omega), if_pos rfl] at hbit
      rw [hb] at e1
      simp (disch := omega) only [u_170_38, u_170_41, u_170_42, u_170_43, u_170_44, u_170_47, u_170_48, u_170_49, u_170_52, u_170_55, u_170_56, u_170_57, u_170_60, u_170_61, u_170_62, u_170_63, u_170_64, u_170_67, u_170_68, u_170_71, u_170_72, u_170_73, u_170_74, u_170_77, u_170_78, u_170_79, u_170_82, u_170_84, u_170_85, u_170_86, u_170_88, u_170_89, u_170_90, gI0, gIs, gR0, gRs, gF0, gFs, st0, st_i, st_r, st_f, st_n, st_s, true_and, and_true, ↓ifLeT, ↓ifLeF, ↓ifLtT, ↓ifLtF, ↓ifEqT, ↓ifEqF, if_tt, if_ff, if_pos, if_neg, nLe, nLt, nEq, nInT, nCl, pk_mul, nI_add, Nat.reduceAdd, s_cat_nil, s_cat_i, s_cat_r, s_cat_f, s_cat_l, tl_s, tl_n, cat_i, cat_r, cat_f, nb0, nb1, nbI, if_bI, if_bIr, Nat.zero_le, Nat.reduceLeDiff, M_ob, M_g0, M_g1, M_g2, M_g3, M_g4, M_g5, M_g6, M_g7, M_g8, M_g9, M_g10, M_g11, M_g12, M_g13, M_g14, M_g15, M_g16, M_g17, M_g18, M_g19, M_g20, M_g21, M_g22, M_g23, M_g24, M_g25, M_g26, M_g27, M_g28, M_g29, M_g30, M_g31, M_g32, M_g33, M_g34, M_g35, M_g36, M_g37, M_g38, M_g39, M_g40, M_g41, k10, e1, iBt, nI10, e7, hbit, e2, k10', e3, reduceIte]
      exact go _ _ _ _
  | succ k ih =>
    intro m t p l w v4 hw h16 hG hP hg hr hf hp hl K1 K2
    have h5 := hG.2.2.2
    have mx := tk_max hG
    have k10 := hg.2.2.1
    have e1 := fun Q => r_isNum (d := d + 1) (h := h) (Q := Q) (lo := nI 0) (hi := nI (nF n 2) - nI 1) hG (by decide)
    have e2 := fun Q => r_bad0 (d := d + 2) (h := h) (Q := Q) h5 hG.2.2.1.1
    have k10' : kI (xI m 5 (nI (eN t 2))) 10 = nI (nF n 2) := k10
    have n5 : ¬ kI (xI m 5 (nI (eN t 2))) 5 = -1 := by
      show ¬ nI (eN t 2) = -1
      exact m1_ne (by omega)
    have e3 := fun Q => r_num1 (d := d) (h := h) (Q := Q) (lo := nI 0) (hi := nI (nF n 2) - nI 1) n5
    have go := fun K v1 v2 v3 v4 => pl_bad (d := d) (h := h) (Q := Q) (m := xI m 5 (nI (eN t 2))) (v1 := v1) (v2 := v2) (v3 := v3) (v4 := v4) mx rfl K
    rw [rpN] at K1 K2
    rw [u_170_37]
    cases hb : isNB t (nI 0) (nI (nF n 2) - nI 1) with
    | false =>
      rw [hb] at e1
      simp only [hb, Bool.false_eq_true, if_false] at K2
      simp (disch := omega) only [u_170_38, u_170_41, u_170_42, u_170_43, u_170_44, u_170_47, u_170_48, u_170_49, u_170_52, u_170_55, u_170_56, u_170_57, u_170_60, u_170_61, u_170_62, u_170_63, u_170_64, u_170_67, u_170_68, u_170_71, u_170_72, u_170_73, u_170_74, u_170_77, u_170_78, u_170_79, u_170_82, u_170_84, u_170_85, u_170_86, u_170_88, u_170_89, u_170_90, gI0, gIs, gR0, gRs, gF0, gFs, st0, st_i, st_r, st_f, st_n, st_s, true_and, and_true, ↓ifLeT, ↓ifLeF, ↓ifLtT, ↓ifLtF, ↓ifEqT, ↓ifEqF, if_tt, if_ff, if_pos, if_neg, nLe, nLt, nEq, nInT, nCl, pk_mul, nI_add, Nat.reduceAdd, s_cat_nil, s_cat_i, s_cat_r, s_cat_f, s_cat_l, tl_s, tl_n, cat_i, cat_r, cat_f, nb0, nb1, nbI, if_bI, if_bIr, Nat.zero_le, Nat.reduceLeDiff, M_ob, M_g0, M_g1, M_g2, M_g3, M_g4, M_g5, M_g6, M_g7, M_g8, M_g9, M_g10, M_g11, M_g12, M_g13, M_g14, M_g15, M_g16, M_g17, M_g18, M_g19, M_g20, M_g21, M_g22, M_g23, M_g24, M_g25, M_g26, M_g27, M_g28, M_g29, M_g30, M_g31, M_g32, M_g33, M_g34, M_g35, M_g36, M_g37, M_g38, M_g39, M_g40, M_g41, k10, e1, iBf, e2, k10', e3]
      exact go (K2 trivial _ frL_5 (TT_I hG.1 (by decide)) mx) _ _ _ _
    | true =>
      obtain ⟨j, hj, ej⟩ := nb_in (T := nF n 2) (by omega) hb
      have e7 : kI m 7 = nI j := (isNB_v hG (by decide) hb).2.1.trans ej
      have cj : (nI j).toNatClampNeg = j := nCl (by omega)
      have hbit := i_bit (m := w) (c := j) (by omega) (by omega)
      rw [hb] at e1
      simp only [hb, if_true, ej, cj] at K1 K2
      cases ht : w.testBit j with
      | true =>
        rw [ht, if_pos rfl] at hbit
        simp only [ht, if_true] at K2
        simp (disch := omega) only [u_170_38, u_170_41, u_170_42, u_170_43, u_170_44, u_170_47, u_170_48, u_170_49, u_170_52, u_170_55, u_170_56, u_170_57, u_170_60, u_170_61, u_170_62, u_170_63, u_170_64, u_170_67, u_170_68, u_170_71, u_170_72, u_170_73, u_170_74, u_170_77, u_170_78, u_170_79, u_170_82, u_170_84, u_170_85, u_170_86, u_170_88, u_170_89, u_170_90, gI0, gIs, gR0, gRs, gF0, gFs, st0, st_i, st_r, st_f, st_n, st_s, true_and, and_true, ↓ifLeT, ↓ifLeF, ↓ifLtT, ↓ifLtF, ↓ifEqT, ↓ifEqF, if_tt, if_ff, if_pos, if_neg, nLe, nLt, nEq, nInT, nCl, pk_mul, nI_add, Nat.reduceAdd, s_cat_nil, s_cat_i, s_cat_r, s_cat_f, s_cat_l, tl_s, tl_n, cat_i, cat_r, cat_f, nb0, nb1, nbI, if_bI, if_bIr, Nat.zero_le, Nat.reduceLeDiff, M_ob, M_g0, M_g1, M_g2, M_g3, M_g4, M_g5, M_g6, M_g7, M_g8, M_g9, M_g10, M_g11, M_g12, M_g13, M_g14, M_g15, M_g16, M_g17, M_g18, M_g19, M_g20, M_g21, M_g22, M_g23, M_g24, M_g25, M_g26, M_g27, M_g28, M_g29, M_g30, M_g31, M_g32, M_g33, M_g34, M_g35, M_g36, M_g37, M_g38, M_g39, M_g40, M_g41, k10, e1, iBt, nI10, e7, hbit, e2, k10', e3, reduceIte]
        exact go (K2 trivial _ frL_5 (TT_I hG.1 (by decide)) mx) _ _ _ _
      | false =>
        rw [ht, if_neg Bool.false_ne_true] at hbit
        simp only [ht, Bool.false_eq_true, if_false] at K1 K2
        have n01 : ¬ nI 0 = nI 1 := by decide
        have ew : nI w ||| nI 1 <<< (nI j &&& 31) = nI (w ||| 2 ^ j) := by rw [i_shl1 (by omega), fa_or]
        simp (disch := omega) only [u_170_38, u_170_41, u_170_42, u_170_43, u_170_44, u_170_47, u_170_48, u_170_49, u_170_52, u_170_55, u_170_56, u_170_57, u_170_60, u_170_61, u_170_62, u_170_63, u_170_64, u_170_67, u_170_68, u_170_71, u_170_72, u_170_73, u_170_74, u_170_77, u_170_78, u_170_79, gI0, gIs, gR0, gRs, gF0, gFs, st0, st_i, st_r, st_f, st_n, st_s, true_and, and_true, ↓ifLeT, ↓ifLeF, ↓ifLtT, ↓ifLtF, ↓ifEqT, ↓ifEqF, if_tt, if_ff, if_pos, if_neg, nLe, nLt, nEq, nInT, nCl, pk_mul, nI_add, Nat.reduceAdd, s_cat_nil, s_cat_i, s_cat_r, s_cat_f, s_cat_l, tl_s, tl_n, cat_i, cat_r, cat_f, nb0, nb1, nbI, if_bI, if_bIr, Nat.zero_le, Nat.reduceLeDiff, M_ob, M_g0, M_g1, M_g2, M_g3, M_g4, M_g5, M_g6, M_g7, M_g8, M_g9, M_g10, M_g11, M_g12, M_g13, M_g14, M_g15, M_g16, M_g17, M_g18, M_g19, M_g20, M_g21, M_g22, M_g23, M_g24, M_g25, M_g26, M_g27, M_g28, M_g29, M_g30, M_g31, M_g32, M_g33, M_g34, M_g35, M_g36, M_g37, M_g38, M_g39, M_g40, M_g41, k10, e1, iBt, nI10, e7, hbit, n01, reduceIte]
        refine r_num (d := d) hG (by decide) (fun _ m1 f1 g1 => ?_) fun q => absurd (hb.symm.trans q) (by decide)
        have f1L := frL_R f1
        simp (disch := omega) only [u_170_82, u_170_84, u_170_85, u_170_86, u_170_88, u_170_89, u_170_90, gI0, gIs, gR0, gRs, gF0, gFs, st0, st_i, st_r, st_f, st_n, st_s, true_and, and_true, ↓ifLeT, ↓ifLeF, ↓ifLtT, ↓ifLtF, ↓ifEqT, ↓ifEqF, if_tt, if_ff, if_pos, if_neg, nLe, nLt, nEq, nInT, nCl, pk_mul, nI_add, Nat.reduceAdd, s_cat_nil, s_cat_i, s_cat_r, s_cat_f, s_cat_l, tl_s, tl_n, cat_i, cat_r, cat_f, nb0, nb1, nbI, if_bI, if_bIr, Nat.zero_le, Nat.reduceLeDiff, ej, ew]
        refine pl_list (d := d) hn hj 400 m1 (advT t) p l g1 (okP_adv hG.2.1) (by omega) (MG_fz hg (frL_Z f1L)) (by rw [f1L.2.2 320 (by decide)]; exact hr) (by rw [kA_R f1]; exact hf) hp hl (fun e m2 l2 f2 g2 P2 d2 fl2 rp2 wl2 => ?_) fun e m2 f2 T2 o2 => ?_
        · have f12 := frL_t f1L f2
          simp only [e, if_true] at K1 K2
          simp (disch := omega) only [u_170_227, u_170_228, gI0, gIs, gR0, gRs, gF0, gFs, st0, st_i, st_r, st_f, st_n, st_s, true_and, and_true, ↓ifLeT, ↓ifLeF, ↓ifLtT, ↓ifLtF, ↓ifEqT, ↓ifEqF, if_tt, if_ff, if_pos, if_neg, nLe, nLt, nEq, nInT, nCl, pk_mul, nI_add, Nat.reduceAdd, s_cat_nil, s_cat_i, s_cat_r, s_cat_f, s_cat_l, tl_s, tl_n, cat_i, cat_r, cat_f, nb0, nb1, nbI, if_bI, if_bIr, Nat.zero_le, Nat.reduceLeDiff, M_ob]
          refine r_semi (d := d) g2 (fun e3 m3 f3 g3 => ?_) fun e3 => ?_
          · have ne0 : ¬ eI (rlN n j 400 (advT t) p).2.1 3 = nI 0 := by rw [e3]; decide
            simp only [if_neg ne0, if_pos e3] at K1 K2
            have f13 := frL_t f12 (frL_R f3)
            simp (disch := omega) only [u_170_231, u_170_232, gI0, gIs, gR0, gRs, gF0, gFs, st0, st_i, st_r, st_f, st_n, st_s, true_and, and_true, ↓ifLeT, ↓ifLeF, ↓ifLtT, ↓ifLtF, ↓ifEqT, ↓ifEqF, if_tt, if_ff, if_pos, if_neg, nLe, nLt, nEq, nInT, nCl, pk_mul, nI_add, Nat.reduceAdd, s_cat_nil, s_cat_i, s_cat_r, s_cat_f, s_cat_l, tl_s, tl_n, cat_i, cat_r, cat_f, nb0, nb1, nbI, if_bI, if_bIr, Nat.zero_le, Nat.reduceLeDiff]
            refine ih m3 (advT (rlN n j 400 (advT t) p).2.1) (rlN n j 400 (advT t) p).2.2 l2 (w ||| 2 ^ j) _ (by have := cnt_add w h16 j (by omega) ht; omega) (Nat.or_lt_two_pow (n := 4) h16 (Nat.pow_lt_pow_right (by decide) (by omega))) g3 (okP_adv g2.2.1) (MG_fz hg (frL_Z f13)) (by rw [f13.2.2 320 (by decide)]; exact hr) (by rw [kA_R f3]; exact fl2) rp2 wl2 (fun a m' l' f => K1 a m' l' (frL_t f13 f)) fun a m' f => K2 a m' (frL_t f13 f)
          · have e9 := fun Q => r_end (d := d + 1) (h := h) (Q := Q) g2
            simp (disch := omega) only [u_170_231, u_170_232, gI0, gIs, gR0, gRs, gF0, gFs, st0, st_i, st_r, st_f, st_n, st_s, true_and, and_true, ↓ifLeT, ↓ifLeF, ↓ifLtT, ↓ifLtF, ↓ifEqT, ↓ifEqF, if_tt, if_ff, if_pos, if_neg, nLe, nLt, nEq, nInT, nCl, pk_mul, nI_add, Nat.reduceAdd, s_cat_nil, s_cat_i, s_cat_r, s_cat_f, s_cat_l, tl_s, tl_n, cat_i, cat_r, cat_f, nb0, nb1, nbI, if_bI, if_bIr, Nat.zero_le, Nat.reduceLeDiff]
            rw [u_170_37]
            simp (disch := omega) only [u_170_38, u_170_235, u_170_236, u_170_239, u_170_240, u_170_243, gI0, gIs, gR0, gRs, gF0, gFs, st0, st_i, st_r, st_f, st_n, st_s, true_and, and_true, ↓ifLeT, ↓ifLeF, ↓ifLtT, ↓ifLtF, ↓ifEqT, ↓ifEqF, if_tt, if_ff, if_pos, if_neg, nLe, nLt, nEq, nInT, nCl, pk_mul, nI_add, Nat.reduceAdd, s_cat_nil, s_cat_i, s_cat_r, s_cat_f, s_cat_l, tl_s, tl_n, cat_i, cat_r, cat_f, nb0, nb1, nbI, if_bI, if_bIr, Nat.zero_le, Nat.reduceLeDiff, M_ob, e9]
            by_cases e0 : eI (rlN n j 400 (advT t) p).2.1 3 = nI 0
            · simp only [if_pos e0] at K1 ⊢
              have k5 := g2.2.2.2
              simp (disch := omega) only [u_170_235, u_170_236, u_170_239, u_170_240, u_170_243, gI0, gIs, gR0, gRs, gF0, gFs, st0, st_i, st_r, st_f, st_n, st_s, true_and, and_true, ↓ifLeT, ↓ifLeF, ↓ifLtT, ↓ifLtF, ↓ifEqT, ↓ifEqF, if_tt, if_ff, if_pos, if_neg, nLe, nLt, nEq, nInT, nCl, pk_mul, nI_add, Nat.reduceAdd, s_cat_nil, s_cat_i, s_cat_r, s_cat_f, s_cat_l, tl_s, tl_n, cat_i, cat_r, cat_f, nb0, nb1, nbI, if_bI, if_bIr, Nat.zero_le, Nat.reduceLeDiff, M_g0, M_g1, M_g2, M_g3, M_g4, M_g5, M_g6, M_g7, M_g8, M_g9, M_g10, M_g11, M_g12, M_g13, M_g14, M_g15, M_g16, M_g17, M_g18, M_g19, M_g20, M_g21, M_g22, M_g23, M_g24, M_g25, M_g26, M_g27, M_g28, M_g29, M_g30, M_g31, M_g32, M_g33, M_g34, M_g35, M_g36, M_g37, M_g38, M_g39, M_g40, M_g41, k5]
              exact K1 trivial m2 l2 f12 g2.1 fl2 rp2 wl2
            · simp only [if_neg e0, if_neg e3] at K2 ⊢
              simp (disch := omega) only [u_170_235, u_170_236, u_170_239, u_170_240, u_170_243, gI0, gIs, gR0, gRs, gF0, gFs, st0, st_i, st_r, st_f, st_n, st_s, true_and, and_true, ↓ifLeT, ↓ifLeF, ↓ifLtT, ↓ifLtF, ↓ifEqT, ↓ifEqF, if_tt, if_ff, if_pos, if_neg, nLe, nLt, nEq, nInT, nCl, pk_mul, nI_add, Nat.reduceAdd, s_cat_nil, s_cat_i, s_cat_r, s_cat_f, s_cat_l, tl_s, tl_n, cat_i, cat_r, cat_f, nb0, nb1, nbI, if_bI, if_bIr, Nat.zero_le, Nat.reduceLeDiff, M_g0, M_g1, M_g2, M_g3, M_g4, M_g5, M_g6, M_g7, M_g8, M_g9, M_g10, M_g11, M_g12, M_g13, M_g14, M_g15, M_g16, M_g17, M_g18, M_g19, M_g20, M_g21, M_g22, M_g23, M_g24, M_g25, M_g26, M_g27, M_g28, M_g29, M_g30, M_g31, M_g32, M_g33, M_g34, M_g35, M_g36, M_g37, M_g38, M_g39, M_g40, M_g41, kI_xI, kI_xB, kI_xA, kI_xV, kB_xI, kB_xB, kB_xA, kB_xV, kA_xI, kA_xB, kA_xA, kA_xV, kV_xI, kV_xB, kV_xA, kV_xV, Nat.reduceEqDiff, reduceIte]
              exact K2 trivial _ (frL_t f12 frL_5) (TT_I g2.1 (by decide)) (tk_max g2)
        · simp only [e, Bool.false_eq_true, if_false] at K2
          exact K2 trivial m2 (frL_t f1L f2) T2 o2
theorem tbits_nil : tbits (fun _ => []) = 0 := rfl
theorem r_readsP {p : tP} (hn : wfN n) (hg : MG m n) (hr : RR (kA m 320) n) (hT : TT m t) (K1 : (rdPN t p n).1 = true → ∀ m' l', frL m m' → TT m' (rdPN t p n).2.1 → FL (kA m' 323) (nF n 2) l' → lP (rdPN t p n).2.2 = l' → wfL (jL n l') → Q (some (.int (-1))) (pM m' h)) (K2 : (rdPN t p n).1 = false → ∀ m', frL m m' → TT m' (rdPN t p n).2.1 → eN (rdPN t p n).2.1 2 ≤ 400 → Q (some (.int (nI (eN (rdPN t p n).2.1 2)))) (pM m' h)) : MT (d + 4) 170 [.ref 317] (pM m h) Q := by
  have h4 := hn.1.1
  have K1 : (rdPN t p n).1 = true → ∀ m' l', frL m m' → TT m' (rdPN t p n).2.1 → FL (kA m' 323) (nF n 2) l' → RP (rdPN t p n).2.2 l' → wfL (jL n l') → Q (some (.int (-1))) (pM m' h) := fun a m' l' b c e rp wl => K1 a m' l' b c e (lP_of rp (fun c hc => wl.1 c (by show nF n 2 ≤ c; omega)) (wl_31 hn wl).1) wl
  rw [MT_go (by decide) _ _ _ (Nat.le_of_ble_eq_true rfl), show s_entry 170 [.ref 317] = [.ref 317, s_no, s_no, s_no, s_no] from rfl]
  simp (disch := omega) only [u_170_0, u_170_1, u_170_4, u_170_5, u_170_6, u_170_9, gI0, gIs, gR0, gRs, gF0, gFs, st0, st_i, st_r, st_f, st_n, st_s, true_and, and_true, ↓ifLeT, ↓ifLeF, ↓ifLtT, ↓ifLtF, ↓ifEqT, ↓ifEqF, if_tt, if_ff, if_pos, if_neg, nLe, nLt, nEq, nInT, nCl, pk_mul, nI_add, Nat.reduceAdd, s_cat_nil, s_cat_i, s_cat_r, s_cat_f, s_cat_l, tl_s, tl_n, cat_i, cat_r, cat_f, nb0, nb1, nbI, if_bI, if_bIr, Nat.zero_le, Nat.reduceLeDiff, M_ob]
  refine r_begins (d := d) hT fun m1 f1 G1 => ?_
  simp (disch := omega) only [u_170_4, u_170_5, u_170_6, u_170_9, gI0, gIs, gR0, gRs, gF0, gFs, st0, st_i, st_r, st_f, st_n, st_s, true_and, and_true, ↓ifLeT, ↓ifLeF, ↓ifLtT, ↓ifLtF, ↓ifEqT, ↓ifEqF, if_tt, if_ff, if_pos, if_neg, nLe, nLt, nEq, nInT, nCl, pk_mul, nI_add, Nat.reduceAdd, s_cat_nil, s_cat_i, s_cat_r, s_cat_f, s_cat_l, tl_s, tl_n, cat_i, cat_r, cat_f, nb0, nb1, nbI, if_bI, if_bIr, Nat.zero_le, Nat.reduceLeDiff, M_ob, M_g0, M_g1, M_g2, M_g3, M_g4, M_g5, M_g6, M_g7, M_g8, M_g9, M_g10, M_g11, M_g12, M_g13, M_g14, M_g15, M_g16, M_g17, M_g18, M_g19, M_g20, M_g21, M_g22, M_g23, M_g24, M_g25, M_g26, M_g27, M_g28, M_g29, M_g30, M_g31, M_g32, M_g33, M_g34, M_g35, M_g36, M_g37, M_g38, M_g39, M_g40, M_g41]
  refine m_clears (d := d + 2) fun f hf => ?_
  have f2 : frL m (xA m1 323 f) := frL_t (frL_R f1) frL_A
  have G2 : GD (xA m1 323 f) (rewT t) := GD_Q (by decide) G1
  have h5 := G2.2.2.2
  have FL0 : FL (kA (xA m1 323 f) 323) (nF n 2) (fun _ => []) := fun c hc => ⟨by rw [kA_eq]; exact hf _ (by omega), fun k hk => absurd hk (Nat.not_lt_zero k)⟩
  unfold rdPN at K1 K2
  by_cases e0 : eI (rewT t) 3 = nI 0
  · simp only [if_pos e0] at K1
    have h6 := (tk_ovr G2).mpr e0
    have e9 := fun Q => r_end (d := d + 1) (h := h) (Q := Q) G2
    simp only [if_pos e0] at e9
    simp (disch := omega) only [u_170_12, u_170_13, u_170_14, u_170_15, u_170_16, u_170_17, u_170_20, u_170_21, u_170_24, u_170_25, u_170_28, u_170_31, u_170_32, u_170_35, u_170_36, gI0, gIs, gR0, gRs, gF0, gFs, st0, st_i, st_r, st_f, st_n, st_s, true_and, and_true, ↓ifLeT, ↓ifLeF, ↓ifLtT, ↓ifLtF, ↓ifEqT, ↓ifEqF, if_tt, if_ff, if_pos, if_neg, nLe, nLt, nEq, nInT, nCl, pk_mul, nI_add, Nat.reduceAdd, s_cat_nil, s_cat_i, s_cat_r, s_cat_f, s_cat_l, tl_s, tl_n, cat_i, cat_r, cat_f, nb0, nb1, nbI, if_bI, if_bIr, Nat.zero_le, Nat.reduceLeDiff, M_g0, M_g1, M_g2, M_g3, M_g4, M_g5, M_g6, M_g7, M_g8, M_g9, M_g10, M_g11, M_g12, M_g13, M_g14, M_g15, M_g16, M_g17, M_g18, M_g19, M_g20, M_g21, M_g22, M_g23, M_g24, M_g25, M_g26, M_g27, M_g28, M_g29, M_g30, M_g31, M_g32, M_g33, M_g34, M_g35, M_g36, M_g37, M_g38, M_g39, M_g40, M_g41, h5, h6, reduceIte]
    rw [u_170_37]
    simp (disch := omega) only [u_170_38, u_170_235, u_170_236, u_170_239, u_170_240, u_170_243, gI0, gIs, gR0, gRs, gF0, gFs, st0, st_i, st_r, st_f, st_n, st_s, true_and, and_true, ↓ifLeT, ↓ifLeF, ↓ifLtT, ↓ifLtF, ↓ifEqT, ↓ifEqF, if_tt, if_ff, if_pos, if_neg, nLe, nLt, nEq, nInT, nCl, pk_mul, nI_add, Nat.reduceAdd, s_cat_nil, s_cat_i, s_cat_r, s_cat_f, s_cat_l, tl_s, tl_n, cat_i, cat_r, cat_f, nb0, nb1, nbI, if_bI, if_bIr, Nat.zero_le, Nat.reduceLeDiff, M_ob, M_g0, M_g1, M_g2, M_g3, M_g4, M_g5, M_g6, M_g7, M_g8, M_g9, M_g10, M_g11, M_g12, M_g13, M_g14, M_g15, M_g16, M_g17, M_g18, M_g19, M_g20, M_g21, M_g22, M_g23, M_g24, M_g25, M_g26, M_g27, M_g28, M_g29, M_g30, M_g31, M_g32, M_g33, M_g34, M_g35, M_g36, M_g37, M_g38, M_g39, M_g40, M_g41, e9, h5]
    exact K1 trivial _ _ f2 G2.1 FL0 RP_nil wfL_nil
  · simp only [if_neg e0] at K1 K2
    have h6 : ¬ kI (xA m1 323 f) 6 = nI 0 := fun q => e0 ((tk_ovr G2).mp q)
    simp (disch := omega) only [u_170_12, u_170_13, u_170_14, u_170_15, u_170_16, u_170_17, u_170_20, u_170_21, u_170_24, u_170_25, u_170_28, u_170_31, u_170_32, u_170_35, u_170_36, gI0, gIs, gR0, gRs, gF0, gFs, st0, st_i, st_r, st_f, st_n, st_s, true_and, and_true, ↓ifLeT, ↓ifLeF, ↓ifLtT, ↓ifLtF, ↓ifEqT, ↓ifEqF, if_tt, if_ff, if_pos, if_neg, nLe, nLt, nEq, nInT, nCl, pk_mul, nI_add, Nat.reduceAdd, s_cat_nil, s_cat_i, s_cat_r, s_cat_f, s_cat_l, tl_s, tl_n, cat_i, cat_r, cat_f, nb0, nb1, nbI, if_bI, if_bIr, Nat.zero_le, Nat.reduceLeDiff, M_g0, M_g1, M_g2, M_g3, M_g4, M_g5, M_g6, M_g7, M_g8, M_g9, M_g10, M_g11, M_g12, M_g13, M_g14, M_g15, M_g16, M_g17, M_g18, M_g19, M_g20, M_g21, M_g22, M_g23, M_g24, M_g25, M_g26, M_g27, M_g28, M_g29, M_g30, M_g31, M_g32, M_g33, M_g34, M_g35, M_g36, M_g37, M_g38, M_g39, M_g40, M_g41, h5, h6, reduceIte]
    exact pl_all (d := d) hn 4 _ (rewT t) (p.1, fun _ => 0) (fun _ => []) 0 s_no rfl (by decide) G2 (okP_rew hT.2.1) (MG_fz hg (frL_Z f2)) (by rw [f2.2.2 320 (by decide)]; exact hr) FL0 RP_nil wfL_nil (fun a m' l' f => K1 a m' l' (frL_t f2 f)) fun a m' f => K2 a m' (frL_t f2 f)
end MPM
