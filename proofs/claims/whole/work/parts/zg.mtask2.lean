/-! the reference's reader: a task's line -/
section MTL
variable {d : Nat} {m : tM} {t : tO} {y : tY} {h : sH} {Q : sQ} {n : tN} {w : Int32}
theorem rdT_0 (h0 : isWB t 4 = true) (h1 : isWB (advT t) 5 = false) : rdT w t y = (false, advT t, y) := by
  unfold rdT nmB nmT
  simp only [h0, h1, Bool.false_and, if_true, Bool.false_eq_true, if_false]
theorem rdT_1 (h0 : isWB t 4 = true) (h1 : isWB (advT t) 5 = true) (h2 : isNB (advT (advT t)) (nI 0) (yB y 0 - nI 1) = false) : rdT w t y = (false, advT (advT t), y) := by
  unfold rdT nmB nmT
  simp only [h0, h1, h2, Bool.true_and, if_true, Bool.false_eq_true, if_false]
theorem rdT_2 (h0 : isWB t 4 = true) (h1 : isWB (advT t) 5 = true) (h2 : isNB (advT (advT t)) (nI 0) (yB y 0 - nI 1) = true) (h3 : isWB (advT (advT (advT t))) 6 = false) : rdT w t y = (false, advT (advT (advT t)), y) := by
  unfold rdT nmB nmT
  simp only [h0, h1, h2, h3, Bool.true_and, Bool.false_and, if_true, Bool.false_eq_true, if_false]
theorem rdT_3 (h0 : isWB t 4 = true) (h1 : isWB (advT t) 5 = true) (h2 : isNB (advT (advT t)) (nI 0) (yB y 0 - nI 1) = true) (h3 : isWB (advT (advT (advT t))) 6 = true) (h4 : isNB (advT (advT (advT (advT t)))) (nI 1) (nI 30) = false) : rdT w t y = (false, advT (advT (advT (advT t))), y) := by
  unfold rdT nmB nmT
  simp only [h0, h1, h2, h3, h4, Bool.true_and, if_true, Bool.false_eq_true, if_false]
theorem rdT_4 (h0 : isWB t 4 = true) (h1 : isWB (advT t) 5 = true) (h2 : isNB (advT (advT t)) (nI 0) (yB y 0 - nI 1) = true) (h3 : isWB (advT (advT (advT t))) 6 = true) (h4 : isNB (advT (advT (advT (advT t)))) (nI 1) (nI 30) = true) : rdT w t y = if (hvF (advT (advT (advT (advT (advT t)))))).1 then enF w (eI (advT (advT t)) 4) (eI (advT (advT (advT (advT t)))) 4) (hvF (advT (advT (advT (advT (advT t)))))).2.2 (hvF (advT (advT (advT (advT (advT t)))))).2.1 y else (false, (hvF (advT (advT (advT (advT (advT t)))))).2.1, y) := by
  unfold rdT nmB nmT
  simp only [h0, h1, h2, h3, h4, Bool.true_and, if_true]
theorem hv_0 (h : isWB t 7 = false) : hvF t = (true, t, nI 1) := by
  unfold hvF
  rw [h]
  rfl
theorem hv_1 (h : isWB t 7 = true) (h2 : isNB (advT t) (nI 1) (nI 99) = false) : hvF t = (false, advT t, nI 1) := by
  unfold hvF nmB nmT
  simp only [h, h2, Bool.true_and, if_true, Bool.false_eq_true, if_false]
theorem hv_2 (h : isWB t 7 = true) (h2 : isNB (advT t) (nI 1) (nI 99) = true) : hvF t = (true, advT (advT t), eI (advT t) 4) := by
  unfold hvF nmB nmT
  simp only [h, h2, Bool.true_and, if_true]
/-- heavy, what it is after, the end -/
theorem rt_84 {T : Nat} {a b : Int32} {u : tO} {m0 : tM} (hT : yT y < 8) (eT : yT y = T) (hC : yC y ≤ 4) (hR : RD m0 y) (hf : frW m0 m) (hG : GD m u) (hP : okP u) (hA : kA m 322 = upd (upd (kA m0 322) (50 + 7 * T + 0) a) (50 + 7 * T + 1) b) (e : rdT (nI T) t y = if (hvF u).1 then enF (nI T) a b (hvF u).2.2 (hvF u).2.1 y else (false, (hvF u).2.1, y)) (K1 : (rdT (nI T) t y).1 = true → ∀ m', frW m0 m' → GD m' (rdT (nI T) t y).2.1 → RD m' (rdT (nI T) t y).2.2 → Q none (pM m' h)) (K2 : (rdT (nI T) t y).1 = false → ∀ m', frW m0 m' → eN (rdT (nI T) t y).2.1 2 ≤ 400 → kI m' 5 = nI (eN (rdT (nI T) t y).2.1 2) → TT m' (rdT (nI T) t y).2.1 → Q none (pM m' h)) : WP (d + 4) 164 84 [.ref 317, .int (nI T)] [] (pM m h) (0, 0) Q := by
  subst eT
  have c1 : (nI 1).toNatClampNeg = 1 := rfl
  rw [e] at K1 K2
  clear e
  have tail : ∀ m1 (v : Int32), (hvF u).1 = true → (hvF u).2.2 = v → frW m0 m1 → kA m1 322 = kA m 322 → GD m1 (hvF u).2.1 → okP (hvF u).2.1 → WP (d + 4) 164 113 [.ref 317, .int (nI (yT y))] [.int v, .int (nI (50 + 7 * yT y + 2)), .ref 322] (pM m1 h) (0, 0) Q := fun m1 v ok ev f1 a1 G1 P1 => by
    simp only [ok, if_true, ev] at K1 K2
    unfold enF at K1 K2
    simp (disch := omega) only [u_164_113, u_164_114, u_164_115, u_164_118, u_164_119, u_164_120, u_164_123, u_164_124, gI0, gIs, gR0, gRs, gF0, gFs, st0, st_i, st_r, st_f, st_n, st_s, true_and, and_true, ↓ifLeT, ↓ifLeF, ↓ifLtT, ↓ifLtF, ↓ifEqT, ↓ifEqF, if_tt, if_ff, if_pos, if_neg, nLe, nLt, nEq, nInT, nCl, pk_mul, nI_add, Nat.reduceAdd, s_cat_nil, s_cat_i, s_cat_r, s_cat_f, s_cat_l, tl_s, tl_n, cat_i, cat_r, cat_f, nb0, nb1, nbI, if_bI, if_bIr, Nat.zero_le, Nat.reduceLeDiff, M_g0, M_g1, M_g2, M_g3, M_g4, M_g5, M_g6, M_g7, M_g8, M_g9, M_g10, M_g11, M_g12, M_g13, M_g14, M_g15, M_g16, M_g17, M_g18, M_g19, M_g20, M_g21, M_g22, M_g23, M_g24, M_g25, M_g26, M_g27, M_g28, M_g29, M_g30, M_g31, M_g32, M_g33, M_g34, M_g35, M_g36, M_g37, M_g38, M_g39, M_g40, M_g41, m_tAt, M_rw rb322, kA_eq, xA_tw]
    refine rt_after (d := d) hT (g := upd (upd (kA m1 322) (50 + 7 * yT y + 2) v) (50 + 7 * yT y + 3) (nI 0)) 400 _ (hvF u).2.1 (nI 0) (GD_Q (by decide) G1) P1 (by omega) ?_ (fun e2 m2 f2 G2 a2 => ?_) fun e2 m2 f2 o2 e5 T2 => ?_
    · rw [kA_eq, upd_tw]
    · simp only [e2, if_true] at K1
      have f02 : frW m0 m2 := frW_t f1 (frW_t frW_A f2)
      have r1 : kA m2 322 1 = nI (yT y) := by
        rw [a2, upd_ne (by omega), upd_ne (by omega), upd_ne (by omega), a1, hA, upd_ne (by omega), upd_ne (by omega)]
        exact hR.2.2.2.1
      simp (disch := omega) only [u_164_160, u_164_161, u_164_164, u_164_165, u_164_166, u_164_167, u_164_168, u_164_169, u_164_170, gI0, gIs, gR0, gRs, gF0, gFs, st0, st_i, st_r, st_f, st_n, st_s, true_and, and_true, ↓ifLeT, ↓ifLeF, ↓ifLtT, ↓ifLtF, ↓ifEqT, ↓ifEqF, if_tt, if_ff, if_pos, if_neg, nLe, nLt, nEq, nInT, nCl, pk_mul, nI_add, Nat.reduceAdd, s_cat_nil, s_cat_i, s_cat_r, s_cat_f, s_cat_l, tl_s, tl_n, cat_i, cat_r, cat_f, nb0, nb1, nbI, if_bI, if_bIr, Nat.zero_le, Nat.reduceLeDiff, M_g0, M_g1, M_g2, M_g3, M_g4, M_g5, M_g6, M_g7, M_g8, M_g9, M_g10, M_g11, M_g12, M_g13, M_g14, M_g15, M_g16, M_g17, M_g18, M_g19, M_g20, M_g21, M_g22, M_g23, M_g24, M_g25, M_g26, M_g27, M_g28, M_g29, M_g30, M_g31, M_g32, M_g33, M_g34, M_g35, M_g36, M_g37, M_g38, M_g39, M_g40, M_g41, M_r rb322, M_rw rb322, c1, r1]
      refine K1 trivial _ (frW_t f02 frW_A) (GD_Q (by decide) G2) (RD_T hC hT hR (frW_t f02 frW_A) ?_)
      rw [kA_eq, a2, a1, hA]
    · simp only [e2, Bool.false_eq_true, if_false] at K2
      exact K2 trivial m2 (frW_t f1 (frW_t frW_A f2)) o2 e5 T2
  simp (disch := omega) only [u_164_84, u_164_85, u_164_88, u_164_89, u_164_90, u_164_93, u_164_94, u_164_96, gI0, gIs, gR0, gRs, gF0, gFs, st0, st_i, st_r, st_f, st_n, st_s, true_and, and_true, ↓ifLeT, ↓ifLeF, ↓ifLtT, ↓ifLtF, ↓ifEqT, ↓ifEqF, if_tt, if_ff, if_pos, if_neg, nLe, nLt, nEq, nInT, nCl, pk_mul, nI_add, Nat.reduceAdd, s_cat_nil, s_cat_i, s_cat_r, s_cat_f, s_cat_l, tl_s, tl_n, cat_i, cat_r, cat_f, nb0, nb1, nbI, if_bI, if_bIr, Nat.zero_le, Nat.reduceLeDiff, M_ob, M_g0, M_g1, M_g2, M_g3, M_g4, M_g5, M_g6, M_g7, M_g8, M_g9, M_g10, M_g11, M_g12, M_g13, M_g14, M_g15, M_g16, M_g17, M_g18, M_g19, M_g20, M_g21, M_g22, M_g23, M_g24, M_g25, M_g26, M_g27, M_g28, M_g29, M_g30, M_g31, M_g32, M_g33, M_g34, M_g35, M_g36, M_g37, M_g38, M_g39, M_g40, M_g41, m_tAt]
  refine r_takesW (d := d + 1) (j := 7) (by decide) hG (fun hw m1 f1 G1 => ?_) fun hw => ?_
  · simp (disch := omega) only [u_164_99, u_164_102, u_164_103, u_164_104, u_164_106, gI0, gIs, gR0, gRs, gF0, gFs, st0, st_i, st_r, st_f, st_n, st_s, true_and, and_true, ↓ifLeT, ↓ifLeF, ↓ifLtT, ↓ifLtF, ↓ifEqT, ↓ifEqF, if_tt, if_ff, if_pos, if_neg, nLe, nLt, nEq, nInT, nCl, pk_mul, nI_add, Nat.reduceAdd, s_cat_nil, s_cat_i, s_cat_r, s_cat_f, s_cat_l, tl_s, tl_n, cat_i, cat_r, cat_f, nb0, nb1, nbI, if_bI, if_bIr, Nat.zero_le, Nat.reduceLeDiff, M_ob]
    refine r_num (d := d + 1) G1 (by decide) (fun hb m2 f2 G2 => ?_) fun hb => ?_
    · have e := hv_2 hw hb
      simp (disch := omega) only [u_164_109, gI0, gIs, gR0, gRs, gF0, gFs, st0, st_i, st_r, st_f, st_n, st_s, true_and, and_true, ↓ifLeT, ↓ifLeF, ↓ifLtT, ↓ifLtF, ↓ifEqT, ↓ifEqF, if_tt, if_ff, if_pos, if_neg, nLe, nLt, nEq, nInT, nCl, pk_mul, nI_add, Nat.reduceAdd, s_cat_nil, s_cat_i, s_cat_r, s_cat_f, s_cat_l, tl_s, tl_n, cat_i, cat_r, cat_f, nb0, nb1, nbI, if_bI, if_bIr, Nat.zero_le, Nat.reduceLeDiff]
      exact tail m2 _ (by rw [e]) (by rw [e]) (frW_t hf (frW_t (frW_R f1) (frW_R f2))) (by rw [kA_R f2, kA_R f1]) (by rw [e]; exact G2) (by rw [e]; exact okP_adv G1.2.1)
    · have e := hv_1 hw hb
      simp only [e, Bool.false_eq_true, if_false] at K2
      have o := tk_max G1
      simp (disch := omega) only [u_164_109, gI0, gIs, gR0, gRs, gF0, gFs, st0, st_i, st_r, st_f, st_n, st_s, true_and, and_true, ↓ifLeT, ↓ifLeF, ↓ifLtT, ↓ifLtF, ↓ifEqT, ↓ifEqF, if_tt, if_ff, if_pos, if_neg, nLe, nLt, nEq, nInT, nCl, pk_mul, nI_add, Nat.reduceAdd, s_cat_nil, s_cat_i, s_cat_r, s_cat_f, s_cat_l, tl_s, tl_n, cat_i, cat_r, cat_f, nb0, nb1, nbI, if_bI, if_bIr, Nat.zero_le, Nat.reduceLeDiff]
      exact tb_113 (d := d) hT o rfl fun m' f e5 => K2 trivial m' (frW_t hf (frW_t (frW_R f1) (frW_t frW_5 f))) o e5 (TT_W (frW_t frW_5 f) G1.1)
  · have e := hv_0 hw
    simp (disch := omega) only [u_164_99, u_164_112, gI0, gIs, gR0, gRs, gF0, gFs, st0, st_i, st_r, st_f, st_n, st_s, true_and, and_true, ↓ifLeT, ↓ifLeF, ↓ifLtT, ↓ifLtF, ↓ifEqT, ↓ifEqF, if_tt, if_ff, if_pos, if_neg, nLe, nLt, nEq, nInT, nCl, pk_mul, nI_add, Nat.reduceAdd, s_cat_nil, s_cat_i, s_cat_r, s_cat_f, s_cat_l, tl_s, tl_n, cat_i, cat_r, cat_f, nb0, nb1, nbI, if_bI, if_bIr, Nat.zero_le, Nat.reduceLeDiff]
    exact tail m _ (by rw [e]) (by rw [e]) hf rfl (by rw [e]; exact hG) (by rw [e]; exact hP)
theorem r_readsT (hG : GD m t) (hW : isWB t 4 = true) (hR : RD m y) (h1 : 1 ≤ yC y) (hC : yC y ≤ 4) (hT : yT y < 8) (K1 : (rdT (nI (yT y)) t y).1 = true → ∀ m', frW m m' → GD m' (rdT (nI (yT y)) t y).2.1 → RD m' (rdT (nI (yT y)) t y).2.2 → Q none (pM m' h)) (K2 : (rdT (nI (yT y)) t y).1 = false → ∀ m', frW m m' → eN (rdT (nI (yT y)) t y).2.1 2 ≤ 400 → kI m' 5 = nI (eN (rdT (nI (yT y)) t y).2.1 2) → TT m' (rdT (nI (yT y)) t y).2.1 → Q none (pM m' h)) : MT (d + 5) 164 [.ref 317] (pM m h) Q := by
  obtain ⟨r14, r15, r16, r1, -⟩ := id hR
  have c1 : (nI 1).toNatClampNeg = 1 := rfl
  have n8 : ¬ nI (yT y) = nI 8 := fun q => by have := (nI_eq (by omega) (by omega)).mp q; omega
  have n0 : ¬ nI (yC y) = nI 0 := fun q => by have := (nI_eq (by omega) (by omega)).mp q; omega
  rw [MT_go (by decide) _ _ _ (Nat.le_of_ble_eq_true rfl), show s_entry 164 [.ref 317] = [.ref 317, s_no] from rfl]
  simp (disch := omega) only [u_164_0, u_164_1, u_164_4, u_164_5, u_164_6, u_164_8, u_164_11, u_164_12, u_164_15, u_164_18, u_164_19, u_164_22, u_164_23, u_164_24, gI0, gIs, gR0, gRs, gF0, gFs, st0, st_i, st_r, st_f, st_n, st_s, true_and, and_true, ↓ifLeT, ↓ifLeF, ↓ifLtT, ↓ifLtF, ↓ifEqT, ↓ifEqF, if_tt, if_ff, if_pos, if_neg, nLe, nLt, nEq, nInT, nCl, pk_mul, nI_add, Nat.reduceAdd, s_cat_nil, s_cat_i, s_cat_r, s_cat_f, s_cat_l, tl_s, tl_n, cat_i, cat_r, cat_f, nb0, nb1, nbI, if_bI, if_bIr, Nat.zero_le, Nat.reduceLeDiff, M_ob, M_g0, M_g1, M_g2, M_g3, M_g4, M_g5, M_g6, M_g7, M_g8, M_g9, M_g10, M_g11, M_g12, M_g13, M_g14, M_g15, M_g16, M_g17, M_g18, M_g19, M_g20, M_g21, M_g22, M_g23, M_g24, M_g25, M_g26, M_g27, M_g28, M_g29, M_g30, M_g31, M_g32, M_g33, M_g34, M_g35, M_g36, M_g37, M_g38, M_g39, M_g40, M_g41, M_r rb322, c1, r1, r16, n8, n0, reduceIte]
  refine r_nextT (d := d + 2) hG fun m1 f1 G1 => ?_
  simp (disch := omega) only [u_164_27, u_164_28, u_164_30, gI0, gIs, gR0, gRs, gF0, gFs, st0, st_i, st_r, st_f, st_n, st_s, true_and, and_true, ↓ifLeT, ↓ifLeF, ↓ifLtT, ↓ifLtF, ↓ifEqT, ↓ifEqF, if_tt, if_ff, if_pos, if_neg, nLe, nLt, nEq, nInT, nCl, pk_mul, nI_add, Nat.reduceAdd, s_cat_nil, s_cat_i, s_cat_r, s_cat_f, s_cat_l, tl_s, tl_n, cat_i, cat_r, cat_f, nb0, nb1, nbI, if_bI, if_bIr, Nat.zero_le, Nat.reduceLeDiff, M_ob]
  have b1 : kA m1 322 1 = nI (yT y) := by rw [kA_R f1]; exact r1
  refine r_mustW (d := d) (j := 5) (by decide) G1 (fun hw5 m2 f2 G2 => ?_) fun hw5 => ?_
  · have f02 : frW m m2 := frW_t (frW_R f1) (frW_R f2)
    have b2 : kA m2 322 1 = nI (yT y) := by rw [kA_R f2]; exact b1
    have q14 : kI m2 14 = yB y 0 := (f02.1 14 (by decide) (by decide) (by decide) (by decide) (by decide)).trans r14
    simp (disch := omega) only [u_164_33, u_164_34, u_164_37, u_164_38, u_164_39, u_164_40, u_164_41, u_164_44, u_164_45, u_164_46, u_164_49, u_164_50, u_164_51, u_164_52, u_164_55, u_164_56, u_164_57, gI0, gIs, gR0, gRs, gF0, gFs, st0, st_i, st_r, st_f, st_n, st_s, true_and, and_true, ↓ifLeT, ↓ifLeF, ↓ifLtT, ↓ifLtF, ↓ifEqT, ↓ifEqF, if_tt, if_ff, if_pos, if_neg, nLe, nLt, nEq, nInT, nCl, pk_mul, nI_add, Nat.reduceAdd, s_cat_nil, s_cat_i, s_cat_r, s_cat_f, s_cat_l, tl_s, tl_n, cat_i, cat_r, cat_f, nb0, nb1, nbI, if_bI, if_bIr, Nat.zero_le, Nat.reduceLeDiff, M_ob, M_g0, M_g1, M_g2, M_g3, M_g4, M_g5, M_g6, M_g7, M_g8, M_g9, M_g10, M_g11, M_g12, M_g13, M_g14, M_g15, M_g16, M_g17, M_g18, M_g19, M_g20, M_g21, M_g22, M_g23, M_g24, M_g25, M_g26, M_g27, M_g28, M_g29, M_g30, M_g31, M_g32, M_g33, M_g34, M_g35, M_g36, M_g37, M_g38, M_g39, M_g40, M_g41, m_tAt, M_r rb322, c1, b2, q14]
    refine r_num (d := d + 1) G2 (by decide) (fun hb m3 f3 G3 => ?_) fun hb => ?_
    · simp (disch := omega) only [u_164_60, u_164_61, u_164_62, u_164_64, gI0, gIs, gR0, gRs, gF0, gFs, st0, st_i, st_r, st_f, st_n, st_s, true_and, and_true, ↓ifLeT, ↓ifLeF, ↓ifLtT, ↓ifLtF, ↓ifEqT, ↓ifEqF, if_tt, if_ff, if_pos, if_neg, nLe, nLt, nEq, nInT, nCl, pk_mul, nI_add, Nat.reduceAdd, s_cat_nil, s_cat_i, s_cat_r, s_cat_f, s_cat_l, tl_s, tl_n, cat_i, cat_r, cat_f, nb0, nb1, nbI, if_bI, if_bIr, Nat.zero_le, Nat.reduceLeDiff, M_ob, M_g0, M_g1, M_g2, M_g3, M_g4, M_g5, M_g6, M_g7, M_g8, M_g9, M_g10, M_g11, M_g12, M_g13, M_g14, M_g15, M_g16, M_g17, M_g18, M_g19, M_g20, M_g21, M_g22, M_g23, M_g24, M_g25, M_g26, M_g27, M_g28, M_g29, M_g30, M_g31, M_g32, M_g33, M_g34, M_g35, M_g36, M_g37, M_g38, M_g39, M_g40, M_g41, M_rw rb322]
      have f04 : frW m (xA m3 322 (upd (kA m3 322) (50 + 7 * yT y + 0) (eI (advT (advT t)) 4))) := frW_t (frW_t f02 (frW_R f3)) frW_A
      refine r_mustW (d := d) (j := 6) (by decide) (GD_Q (by decide) G3) (fun hw6 m4 f4 G4 => ?_) fun hw6 => ?_
      · simp (disch := omega) only [u_164_67, u_164_68, u_164_71, u_164_72, u_164_73, u_164_76, u_164_77, u_164_78, u_164_80, gI0, gIs, gR0, gRs, gF0, gFs, st0, st_i, st_r, st_f, st_n, st_s, true_and, and_true, ↓ifLeT, ↓ifLeF, ↓ifLtT, ↓ifLtF, ↓ifEqT, ↓ifEqF, if_tt, if_ff, if_pos, if_neg, nLe, nLt, nEq, nInT, nCl, pk_mul, nI_add, Nat.reduceAdd, s_cat_nil, s_cat_i, s_cat_r, s_cat_f, s_cat_l, tl_s, tl_n, cat_i, cat_r, cat_f, nb0, nb1, nbI, if_bI, if_bIr, Nat.zero_le, Nat.reduceLeDiff, M_ob, M_g0, M_g1, M_g2, M_g3, M_g4, M_g5, M_g6, M_g7, M_g8, M_g9, M_g10, M_g11, M_g12, M_g13, M_g14, M_g15, M_g16, M_g17, M_g18, M_g19, M_g20, M_g21, M_g22, M_g23, M_g24, M_g25, M_g26, M_g27, M_g28, M_g29, M_g30, M_g31, M_g32, M_g33, M_g34, M_g35, M_g36, M_g37, M_g38, M_g39, M_g40, M_g41, m_tAt]
        have f05 := frW_t f04 (frW_R f4)
        refine r_num (d := d + 1) G4 (by decide) (fun hb2 m5 f5 G5 => ?_) fun hb2 => ?_
        · simp (disch := omega) only [u_164_83, gI0, gIs, gR0, gRs, gF0, gFs, st0, st_i, st_r, st_f, st_n, st_s, true_and, and_true, ↓ifLeT, ↓ifLeF, ↓ifLtT, ↓ifLtF, ↓ifEqT, ↓ifEqF, if_tt, if_ff, if_pos, if_neg, nLe, nLt, nEq, nInT, nCl, pk_mul, nI_add, Nat.reduceAdd, s_cat_nil, s_cat_i, s_cat_r, s_cat_f, s_cat_l, tl_s, tl_n, cat_i, cat_r, cat_f, nb0, nb1, nbI, if_bI, if_bIr, Nat.zero_le, Nat.reduceLeDiff, M_g0, M_g1, M_g2, M_g3, M_g4, M_g5, M_g6, M_g7, M_g8, M_g9, M_g10, M_g11, M_g12, M_g13, M_g14, M_g15, M_g16, M_g17, M_g18, M_g19, M_g20, M_g21, M_g22, M_g23, M_g24, M_g25, M_g26, M_g27, M_g28, M_g29, M_g30, M_g31, M_g32, M_g33, M_g34, M_g35, M_g36, M_g37, M_g38, M_g39, M_g40, M_g41, M_rw rb322]
          refine rt_84 (d := d) hT rfl hC hR (frW_t f05 (frW_t (frW_R f5) frW_A)) (GD_Q (by decide) G5) (okP_adv G4.2.1) ?_ (rdT_4 hW hw5 hb hw6 hb2) K1 K2
          rw [kA_eq, kA_R f5, kA_R f4, kA_eq, kA_R f3, kA_R f2, kA_R f1]
        · rw [rdT_3 hW hw5 hb hw6 hb2] at K2
          have o := tk_max G4
          exact tb_83 (d := d) hT o rfl fun m' f e5 => K2 rfl m' (frW_t f05 (frW_t frW_5 f)) o e5 (TT_W (frW_t frW_5 f) G4.1)
      · rw [rdT_2 hW hw5 hb hw6] at K2
        have o := tk_max G3
        exact tb_67 (d := d) hT o rfl fun m' f e5 => K2 rfl m' (frW_t f04 (frW_t frW_5 f)) o e5 (TT_W (frW_t (frW_t frW_A frW_5) f) G3.1)
    · rw [rdT_1 hW hw5 hb] at K2
      have o := tk_max G2
      exact tb_60 (d := d) hT o rfl fun m' f e5 => K2 rfl m' (frW_t f02 (frW_t frW_5 f)) o e5 (TT_W (frW_t frW_5 f) G2.1)
  · rw [rdT_0 hW hw5] at K2
    have o := tk_max G1
    exact tb_33 (d := d) hT o rfl b1 fun m' f e5 => K2 rfl m' (frW_t (frW_R f1) (frW_t frW_5 f)) o e5 (TT_W (frW_t frW_5 f) G1.1)
theorem r_taskB (hG : GD m t) (hR : RD m y) (hT8 : yT y ≤ 8) (hC : yC y ≤ 4) (hT : yT y = 8 ∨ yC y = 0) (K : Q none (pM (xI m 5 (nI (eN t 2))) h)) : MT (d + 5) 164 [.ref 317] (pM m h) Q := by
  obtain ⟨r14, r15, r16, r1, -⟩ := id hR
  have c1 : (nI 1).toNatClampNeg = 1 := rfl
  have e2 := fun Q => r_bad0 (d := d + 3) (h := h) (Q := Q) hG.2.2.2 hG.2.2.1.1
  rw [MT_go (by decide) _ _ _ (Nat.le_of_ble_eq_true rfl), show s_entry 164 [.ref 317] = [.ref 317, s_no] from rfl]
  by_cases e8 : yT y = 8
  · rw [e8] at r1
    simp (disch := omega) only [u_164_0, u_164_1, u_164_4, u_164_5, u_164_6, u_164_8, u_164_11, u_164_12, u_164_15, u_164_18, u_164_19, u_164_22, gI0, gIs, gR0, gRs, gF0, gFs, st0, st_i, st_r, st_f, st_n, st_s, true_and, and_true, ↓ifLeT, ↓ifLeF, ↓ifLtT, ↓ifLtF, ↓ifEqT, ↓ifEqF, if_tt, if_ff, if_pos, if_neg, nLe, nLt, nEq, nInT, nCl, pk_mul, nI_add, Nat.reduceAdd, s_cat_nil, s_cat_i, s_cat_r, s_cat_f, s_cat_l, tl_s, tl_n, cat_i, cat_r, cat_f, nb0, nb1, nbI, if_bI, if_bIr, Nat.zero_le, Nat.reduceLeDiff, M_ob, M_g0, M_g1, M_g2, M_g3, M_g4, M_g5, M_g6, M_g7, M_g8, M_g9, M_g10, M_g11, M_g12, M_g13, M_g14, M_g15, M_g16, M_g17, M_g18, M_g19, M_g20, M_g21, M_g22, M_g23, M_g24, M_g25, M_g26, M_g27, M_g28, M_g29, M_g30, M_g31, M_g32, M_g33, M_g34, M_g35, M_g36, M_g37, M_g38, M_g39, M_g40, M_g41, M_r rb322, c1, r1, e2]
    exact K
  · have n8 : ¬ nI (yT y) = nI 8 := fun q => e8 ((nI_eq (by omega) (by omega)).mp q)
    rw [show yC y = 0 by omega] at r16
    simp (disch := omega) only [u_164_0, u_164_1, u_164_4, u_164_5, u_164_6, u_164_8, u_164_11, u_164_12, u_164_15, u_164_18, u_164_19, u_164_22, gI0, gIs, gR0, gRs, gF0, gFs, st0, st_i, st_r, st_f, st_n, st_s, true_and, and_true, ↓ifLeT, ↓ifLeF, ↓ifLtT, ↓ifLtF, ↓ifEqT, ↓ifEqF, if_tt, if_ff, if_pos, if_neg, nLe, nLt, nEq, nInT, nCl, pk_mul, nI_add, Nat.reduceAdd, s_cat_nil, s_cat_i, s_cat_r, s_cat_f, s_cat_l, tl_s, tl_n, cat_i, cat_r, cat_f, nb0, nb1, nbI, if_bI, if_bIr, Nat.zero_le, Nat.reduceLeDiff, M_ob, M_g0, M_g1, M_g2, M_g3, M_g4, M_g5, M_g6, M_g7, M_g8, M_g9, M_g10, M_g11, M_g12, M_g13, M_g14, M_g15, M_g16, M_g17, M_g18, M_g19, M_g20, M_g21, M_g22, M_g23, M_g24, M_g25, M_g26, M_g27, M_g28, M_g29, M_g30, M_g31, M_g32, M_g33, M_g34, M_g35, M_g36, M_g37, M_g38, M_g39, M_g40, M_g41, M_r rb322, c1, r1, r16, n8, e2, reduceIte]
    exact K
end MTL
