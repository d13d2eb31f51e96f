/-! the reference's reader: a QUAY -/
section MQV
variable {d : Nat} {m : tM} {t u w : tO} {y : tY} {h : sH} {Q : sQ} {n : tN}
theorem rdQ_0 (h0 : isWB (rewT t) 0 = false) : rdQ t y = (false, rewT t, clrY y) := by
  unfold rdQ nmB nmT
  simp only [h0, Bool.false_and, Bool.false_eq_true, if_false]
theorem rdQ_1 (h0 : isWB (rewT t) 0 = true) (h1 : isNB (advT (rewT t)) (nI 2) (nI 30) = false) : rdQ t y = (false, advT (rewT t), clrY y) := by
  unfold rdQ nmB nmT
  simp only [h0, h1, Bool.true_and, Bool.false_eq_true, if_false, if_true]
theorem rdQ_2 (h0 : isWB (rewT t) 0 = true) (h1 : isNB (advT (rewT t)) (nI 2) (nI 30) = true) (h2 : ¬ eI (advT (advT (rewT t))) 3 = nI 3) : rdQ t y = (false, advT (advT (rewT t)), uS (clrY y) 0 (eI (advT (rewT t)) 4)) := by
  unfold rdQ nmB nmT
  simp only [h0, h1, Bool.true_and, if_true, if_neg h2]
theorem rdQ_3 (h0 : isWB (rewT t) 0 = true) (h1 : isNB (advT (rewT t)) (nI 2) (nI 30) = true) (h2 : eI (advT (advT (rewT t))) 3 = nI 3) : rdQ t y = if (gpF (advT (advT (advT (rewT t)))) (uS (clrY y) 0 (eI (advT (rewT t)) 4))).1 then rdK 4 0 (gpF (advT (advT (advT (rewT t)))) (uS (clrY y) 0 (eI (advT (rewT t)) 4))).2.1 (gpF (advT (advT (advT (rewT t)))) (uS (clrY y) 0 (eI (advT (rewT t)) 4))).2.2 else (false, (gpF (advT (advT (advT (rewT t)))) (uS (clrY y) 0 (eI (advT (rewT t)) 4))).2) := by
  unfold rdQ nmB nmT
  simp only [h0, h1, Bool.true_and, if_true, if_pos h2]
theorem gp_0 (h : isWB w 1 = false) : gpF w y = (true, w, y) := by
  unfold gpF
  simp only [h, Bool.false_eq_true, if_false]
theorem gp_1 (h : isWB w 1 = true) (h2 : isNB (advT w) (nI 1) (nI 5) = false) : gpF w y = (false, advT w, y) := by
  unfold gpF nmB nmT
  simp only [h, h2, Bool.true_and, if_true, Bool.false_eq_true, if_false]
theorem gp_2 (h : isWB w 1 = true) (h2 : isNB (advT w) (nI 1) (nI 5) = true) (h3 : ¬ eI (advT (advT w)) 3 = nI 3) : gpF w y = (false, advT (advT w), uS y 1 (eI (advT w) 4)) := by
  unfold gpF nmB nmT
  simp only [h, h2, Bool.true_and, if_true, if_neg h3]
theorem gp_3 (h : isWB w 1 = true) (h2 : isNB (advT w) (nI 1) (nI 5) = true) (h3 : eI (advT (advT w)) 3 = nI 3) : gpF w y = (true, advT (advT (advT w)), uS y 1 (eI (advT w) 4)) := by
  unfold gpF nmB nmT
  simp only [h, h2, Bool.true_and, if_true, if_pos h3]
theorem zero_lp {v2 : Value} (K : ∀ f, (∀ j, j < 106 → f j = nI 0) → WP (d + 5) 165 25 [.ref 317, .int (nI 106), v2] [] (pM (xA m 322 f) h) (0, 0) Q) : ∀ q k f, k + q = 106 → (∀ j, j < k → f j = nI 0) → WP (d + 5) 165 6 [.ref 317, .int (nI k), v2] [] (pM (xA m 322 f) h) (0, 0) Q := by
  intro q
  induction q with
  | zero =>
    intro k f hk hf
    have e : k = 106 := by omega
    subst e
    rw [u_165_6]
    simp (disch := omega) only [u_165_7, u_165_9, u_165_12, u_165_13, u_165_16, u_165_17, u_165_18, u_165_19, u_165_22, gI0, gIs, gR0, gRs, gF0, gFs, st0, st_i, st_r, st_f, st_n, st_s, true_and, and_true, ↓ifLeT, ↓ifLeF, ↓ifLtT, ↓ifLtF, ↓ifEqT, ↓ifEqF, if_tt, if_ff, if_pos, if_neg, nLe, nLt, nEq, nInT, nCl, pk_mul, nI_add, Nat.reduceAdd, s_cat_nil, s_cat_i, s_cat_r, s_cat_f, s_cat_l, tl_s, tl_n, cat_i, cat_r, cat_f, nb0, nb1, nbI, if_bI, if_bIr, Nat.zero_le, Nat.reduceLeDiff]
    exact K f hf
  | succ q ih =>
    intro k f hk hf
    rw [u_165_6]
    simp (disch := omega) only [u_165_7, u_165_9, u_165_12, u_165_13, u_165_16, u_165_17, u_165_18, u_165_19, u_165_22, gI0, gIs, gR0, gRs, gF0, gFs, st0, st_i, st_r, st_f, st_n, st_s, true_and, and_true, ↓ifLeT, ↓ifLeF, ↓ifLtT, ↓ifLtF, ↓ifEqT, ↓ifEqF, if_tt, if_ff, if_pos, if_neg, nLe, nLt, nEq, nInT, nCl, pk_mul, nI_add, Nat.reduceAdd, s_cat_nil, s_cat_i, s_cat_r, s_cat_f, s_cat_l, tl_s, tl_n, cat_i, cat_r, cat_f, nb0, nb1, nbI, if_bI, if_bIr, Nat.zero_le, Nat.reduceLeDiff, M_g0, M_g1, M_g2, M_g3, M_g4, M_g5, M_g6, M_g7, M_g8, M_g9, M_g10, M_g11, M_g12, M_g13, M_g14, M_g15, M_g16, M_g17, M_g18, M_g19, M_g20, M_g21, M_g22, M_g23, M_g24, M_g25, M_g26, M_g27, M_g28, M_g29, M_g30, M_g31, M_g32, M_g33, M_g34, M_g35, M_g36, M_g37, M_g38, M_g39, M_g40, M_g41, M_rw rb322, kA_eq, xA_tw]
    refine ih (k + 1) _ (by omega) fun j hj => ?_
    by_cases e : j = k
    · exact if_pos e
    · rw [upd_ne e]
      exact hf j (by omega)
/-- behind the bays: the gap, the rest -/
theorem rq_gap {v1 : Int32} {v2 : Value} {B : Nat} (hW : gW y) (hB : 2 ≤ B) (hB2 : B ≤ 30) (hG : GD m w) (h14 : kI m 14 = nI B) (h15 : kI m 15 = nI 1) (h16 : kI m 16 = nI 0) (hA : ∀ j, j < 106 → kA m 322 j = nI 0) (K : KQ Q h m (if (gpF w (uS (clrY y) 0 (nI B))).1 then rdK 4 0 (gpF w (uS (clrY y) 0 (nI B))).2.1 (gpF w (uS (clrY y) 0 (nI B))).2.2 else (false, (gpF w (uS (clrY y) 0 (nI B))).2))) : WP (d + 5) 165 57 [.ref 317, .int (nI 1), v2] [] (pM m h) (0, 0) Q := by
  simp (disch := omega) only [u_165_57, u_165_58, u_165_61, u_165_62, u_165_64, gI0, gIs, gR0, gRs, gF0, gFs, st0, st_i, st_r, st_f, st_n, st_s, true_and, and_true, ↓ifLeT, ↓ifLeF, ↓ifLtT, ↓ifLtF, ↓ifEqT, ↓ifEqF, if_tt, if_ff, if_pos, if_neg, nLe, nLt, nEq, nInT, nCl, pk_mul, nI_add, Nat.reduceAdd, s_cat_nil, s_cat_i, s_cat_r, s_cat_f, s_cat_l, tl_s, tl_n, cat_i, cat_r, cat_f, nb0, nb1, nbI, if_bI, if_bIr, Nat.zero_le, Nat.reduceLeDiff, M_ob]
  refine r_takesW (d := d + 2) (j := 1) (by decide) hG (fun hw m1 f1 G1 => ?_) fun hw => ?_
  · have e14 := (f1.1 14 (by decide) (by decide) (by decide) (by decide) (by decide)).trans h14
    have e15 := (f1.1 15 (by decide) (by decide) (by decide) (by decide) (by decide)).trans h15
    have e16 := (f1.1 16 (by decide) (by decide) (by decide) (by decide) (by decide)).trans h16
    simp (disch := omega) only [u_165_67, u_165_70, u_165_71, u_165_72, u_165_73, u_165_74, gI0, gIs, gR0, gRs, gF0, gFs, st0, st_i, st_r, st_f, st_n, st_s, true_and, and_true, ↓ifLeT, ↓ifLeF, ↓ifLtT, ↓ifLtF, ↓ifEqT, ↓ifEqF, if_tt, if_ff, if_pos, if_neg, nLe, nLt, nEq, nInT, nCl, pk_mul, nI_add, Nat.reduceAdd, s_cat_nil, s_cat_i, s_cat_r, s_cat_f, s_cat_l, tl_s, tl_n, cat_i, cat_r, cat_f, nb0, nb1, nbI, if_bI, if_bIr, Nat.zero_le, Nat.reduceLeDiff, M_ob]
    refine r_num (d := d + 2) G1 (by decide) (fun hb m2 f2 G2 => ?_) fun hb => ?_
    · obtain ⟨-, g, q2, q3, q4⟩ := nb_of (a := 1) (c := 5) (by decide) (by decide) hb
      have G3 : GD (xI m2 15 (eI (advT w) 4)) (advT (advT w)) := GD_k (by decide) G2
      have hA3 : ∀ j, j < 106 → kA (xI m2 15 (eI (advT w) 4)) 322 j = nI 0 := fun j hj => by
        have : kA (xI m2 15 (eI (advT w) 4)) 322 = kA m2 322 := rfl
        rw [this, kA_R f2, kA_R f1]
        exact hA j hj
      have R3 : RD (xI m2 15 (eI (advT w) 4)) (uS (uS (clrY y) 0 (nI B)) 1 (eI (advT w) 4)) := RD_0 ((f2.1 14 (by decide) (by decide) (by decide) (by decide) (by decide)).trans e14) rfl ((f2.1 16 (by decide) (by decide) (by decide) (by decide) (by decide)).trans e16) rfl rfl hA3
      have fr : frU m (xI m2 15 (eI (advT w) 4)) := frU_t (frU_R f1) (frU_t (frU_R f2) (frU_I (by decide)))
      simp (disch := omega) only [u_165_77, u_165_80, u_165_81, gI0, gIs, gR0, gRs, gF0, gFs, st0, st_i, st_r, st_f, st_n, st_s, true_and, and_true, ↓ifLeT, ↓ifLeF, ↓ifLtT, ↓ifLtF, ↓ifEqT, ↓ifEqF, if_tt, if_ff, if_pos, if_neg, nLe, nLt, nEq, nInT, nCl, pk_mul, nI_add, Nat.reduceAdd, s_cat_nil, s_cat_i, s_cat_r, s_cat_f, s_cat_l, tl_s, tl_n, cat_i, cat_r, cat_f, nb0, nb1, nbI, if_bI, if_bIr, Nat.zero_le, Nat.reduceLeDiff, M_ob, M_s15]
      refine r_semi (d := d + 2) G3 (fun e3 m4 f4 G4 => ?_) fun e3 => ?_
      · simp only [gp_3 hw hb e3, if_true] at K
        simp (disch := omega) only [u_165_84, gI0, gIs, gR0, gRs, gF0, gFs, st0, st_i, st_r, st_f, st_n, st_s, true_and, and_true, ↓ifLeT, ↓ifLeF, ↓ifLtT, ↓ifLtF, ↓ifEqT, ↓ifEqF, if_tt, if_ff, if_pos, if_neg, nLe, nLt, nEq, nInT, nCl, pk_mul, nI_add, Nat.reduceAdd, s_cat_nil, s_cat_i, s_cat_r, s_cat_f, s_cat_l, tl_s, tl_n, cat_i, cat_r, cat_f, nb0, nb1, nbI, if_bI, if_bIr, Nat.zero_le, Nat.reduceLeDiff]
        refine rq_cranes (d := d) 4 0 m4 _ _ (quay0 B g) rfl rfl rfl ?_ (RD_fr f4 R3) G4 (KQ_fr (frU_t fr (frU_R f4)) K)
        rw [q2]
        exact DI_q1 hW hB hB2 q3 q4
      · simp only [gp_2 hw hb e3, Bool.false_eq_true, if_false] at K
        simp (disch := omega) only [u_165_84, gI0, gIs, gR0, gRs, gF0, gFs, st0, st_i, st_r, st_f, st_n, st_s, true_and, and_true, ↓ifLeT, ↓ifLeF, ↓ifLtT, ↓ifLtF, ↓ifEqT, ↓ifEqF, if_tt, if_ff, if_pos, if_neg, nLe, nLt, nEq, nInT, nCl, pk_mul, nI_add, Nat.reduceAdd, s_cat_nil, s_cat_i, s_cat_r, s_cat_f, s_cat_l, tl_s, tl_n, cat_i, cat_r, cat_f, nb0, nb1, nbI, if_bI, if_bIr, Nat.zero_le, Nat.reduceLeDiff]
        refine rq_end (d := d) G3 R3 (Nat.zero_le _) ?_
        rw [decide_eq_false (fun z => z.2 rfl)]
        exact KQ_fr fr K
    · simp only [gp_1 hw hb, Bool.false_eq_true, if_false] at K
      have o := tk_max G1
      have n5 : ¬ kI (xI (xI m1 5 (nI (eN (advT w) 2))) 15 (nI 1)) 5 = -1 := by
        show ¬ nI (eN (advT w) 2) = -1
        exact m1_ne (by omega)
      have e1 := fun Q => r_semi1 (d := d + 2) (h := h) (Q := Q) n5
      simp (disch := omega) only [u_165_77, u_165_80, u_165_81, u_165_84, gI0, gIs, gR0, gRs, gF0, gFs, st0, st_i, st_r, st_f, st_n, st_s, true_and, and_true, ↓ifLeT, ↓ifLeF, ↓ifLtT, ↓ifLtF, ↓ifEqT, ↓ifEqF, if_tt, if_ff, if_pos, if_neg, nLe, nLt, nEq, nInT, nCl, pk_mul, nI_add, Nat.reduceAdd, s_cat_nil, s_cat_i, s_cat_r, s_cat_f, s_cat_l, tl_s, tl_n, cat_i, cat_r, cat_f, nb0, nb1, nbI, if_bI, if_bIr, Nat.zero_le, Nat.reduceLeDiff, M_ob, M_s15, e1]
      exact rq_b85 (d := d) o rfl (TT_I (TT_I G1.1 (by decide)) (by decide)) (KQ_fr (frU_t (frU_R f1) (frU_t (frU_I (by decide)) (frU_I (by decide)))) K)
  · simp only [gp_0 hw, if_true] at K
    simp (disch := omega) only [u_165_67, gI0, gIs, gR0, gRs, gF0, gFs, st0, st_i, st_r, st_f, st_n, st_s, true_and, and_true, ↓ifLeT, ↓ifLeF, ↓ifLtT, ↓ifLtF, ↓ifEqT, ↓ifEqF, if_tt, if_ff, if_pos, if_neg, nLe, nLt, nEq, nInT, nCl, pk_mul, nI_add, Nat.reduceAdd, s_cat_nil, s_cat_i, s_cat_r, s_cat_f, s_cat_l, tl_s, tl_n, cat_i, cat_r, cat_f, nb0, nb1, nbI, if_bI, if_bIr, Nat.zero_le, Nat.reduceLeDiff]
    exact rq_cranes (d := d) 4 0 m _ _ (quay0 B 1) rfl rfl rfl (DI_q0 hW hB hB2) (RD_0 h14 h15 h16 rfl rfl hA) hG K
theorem r_readsQ (hT : TT m t) (hW : gW y) (K : KQ Q h m (rdQ t y)) : MT (d + 6) 165 [.ref 317] (pM m h) Q := by
  rw [MT_go (by decide) _ _ _ (Nat.le_of_ble_eq_true rfl), show s_entry 165 [.ref 317] = [.ref 317, s_no, s_no] from rfl]
  simp (disch := omega) only [u_165_0, u_165_1, gI0, gIs, gR0, gRs, gF0, gFs, st0, st_i, st_r, st_f, st_n, st_s, true_and, and_true, ↓ifLeT, ↓ifLeF, ↓ifLtT, ↓ifLtF, ↓ifEqT, ↓ifEqF, if_tt, if_ff, if_pos, if_neg, nLe, nLt, nEq, nInT, nCl, pk_mul, nI_add, Nat.reduceAdd, s_cat_nil, s_cat_i, s_cat_r, s_cat_f, s_cat_l, tl_s, tl_n, cat_i, cat_r, cat_f, nb0, nb1, nbI, if_bI, if_bIr, Nat.zero_le, Nat.reduceLeDiff, M_ob]
  refine r_begins (d := d + 2) hT fun m1 f1 G1 => ?_
  simp (disch := omega) only [u_165_4, u_165_5, gI0, gIs, gR0, gRs, gF0, gFs, st0, st_i, st_r, st_f, st_n, st_s, true_and, and_true, ↓ifLeT, ↓ifLeF, ↓ifLtT, ↓ifLtF, ↓ifEqT, ↓ifEqF, if_tt, if_ff, if_pos, if_neg, nLe, nLt, nEq, nInT, nCl, pk_mul, nI_add, Nat.reduceAdd, s_cat_nil, s_cat_i, s_cat_r, s_cat_f, s_cat_l, tl_s, tl_n, cat_i, cat_r, cat_f, nb0, nb1, nbI, if_bI, if_bIr, Nat.zero_le, Nat.reduceLeDiff]
  have z := fun K => zero_lp (d := d) (m := m1) (h := h) (Q := Q) (v2 := s_no) K 106 0 (kA m1 322) rfl fun j hj => absurd hj (Nat.not_lt_zero j)
  rw [xA_eta] at z
  refine z fun f hf => ?_
  clear z
  have G2 : GD (xI (xI (xA m1 322 f) 16 (nI 0)) 15 (nI 1)) (rewT t) := GD_k (by decide) (GD_k (by decide) (GD_Q (by decide) G1))
  have fr2 : frU m (xI (xI (xA m1 322 f) 16 (nI 0)) 15 (nI 1)) := frU_t (frU_R f1) (frU_t (frU_A (Or.inr rfl)) (frU_t (frU_I (by decide)) (frU_I (by decide))))
  have A2 : ∀ j, j < 106 → kA (xI (xI (xA m1 322 f) 16 (nI 0)) 15 (nI 1)) 322 j = nI 0 := fun j hj => by
    have : kA (xI (xI (xA m1 322 f) 16 (nI 0)) 15 (nI 1)) 322 = f := kA_eq _ _ _
    rw [this]
    exact hf j hj
  have c16 : kI (xI (xI (xA m1 322 f) 16 (nI 0)) 15 (nI 1)) 16 = nI 0 := rfl
  have c15 : kI (xI (xI (xA m1 322 f) 16 (nI 0)) 15 (nI 1)) 15 = nI 1 := rfl
  simp (disch := omega) only [u_165_25, u_165_26, u_165_27, u_165_30, u_165_31, u_165_32, u_165_35, u_165_36, u_165_38, gI0, gIs, gR0, gRs, gF0, gFs, st0, st_i, st_r, st_f, st_n, st_s, true_and, and_true, ↓ifLeT, ↓ifLeF, ↓ifLtT, ↓ifLtF, ↓ifEqT, ↓ifEqF, if_tt, if_ff, if_pos, if_neg, nLe, nLt, nEq, nInT, nCl, pk_mul, nI_add, Nat.reduceAdd, s_cat_nil, s_cat_i, s_cat_r, s_cat_f, s_cat_l, tl_s, tl_n, cat_i, cat_r, cat_f, nb0, nb1, nbI, if_bI, if_bIr, Nat.zero_le, Nat.reduceLeDiff, M_ob, M_s16, M_s15]
  generalize xI (xI (xA m1 322 f) 16 (nI 0)) 15 (nI 1) = m2 at G2 fr2 A2 c16 c15 ⊢
  refine r_mustW (d := d + 1) (j := 0) (by decide) G2 (fun hw m3 f3 G3 => ?_) fun hw => ?_
  · simp (disch := omega) only [u_165_41, u_165_42, u_165_43, u_165_44, u_165_46, gI0, gIs, gR0, gRs, gF0, gFs, st0, st_i, st_r, st_f, st_n, st_s, true_and, and_true, ↓ifLeT, ↓ifLeF, ↓ifLtT, ↓ifLtF, ↓ifEqT, ↓ifEqF, if_tt, if_ff, if_pos, if_neg, nLe, nLt, nEq, nInT, nCl, pk_mul, nI_add, Nat.reduceAdd, s_cat_nil, s_cat_i, s_cat_r, s_cat_f, s_cat_l, tl_s, tl_n, cat_i, cat_r, cat_f, nb0, nb1, nbI, if_bI, if_bIr, Nat.zero_le, Nat.reduceLeDiff, M_ob]
    refine r_num (d := d + 2) G3 (by decide) (fun hb m4 f4 G4 => ?_) fun hb => ?_
    · obtain ⟨-, B, q2, q3, q4⟩ := nb_of (a := 2) (c := 30) (by decide) (by decide) hb
      have G5 : GD (xI m4 14 (nI B)) (advT (advT (rewT t))) := GD_k (by decide) G4
      have fr5 : frU m (xI m4 14 (nI B)) := frU_t fr2 (frU_t (frU_R f3) (frU_t (frU_R f4) (frU_I (by decide))))
      have A5 : ∀ j, j < 106 → kA (xI m4 14 (nI B)) 322 j = nI 0 := fun j hj => by
        have : kA (xI m4 14 (nI B)) 322 = kA m4 322 := rfl
        rw [this, kA_R f4, kA_R f3]
        exact A2 j hj
      have d15 : kI (xI m4 14 (nI B)) 15 = nI 1 := ((f4.1 15 (by decide) (by decide) (by decide) (by decide) (by decide)).trans (f3.1 15 (by decide) (by decide) (by decide) (by decide) (by decide))).trans c15
      have d16 : kI (xI m4 14 (nI B)) 16 = nI 0 := ((f4.1 16 (by decide) (by decide) (by decide) (by decide) (by decide)).trans (f3.1 16 (by decide) (by decide) (by decide) (by decide) (by decide))).trans c16
      have d14 : kI (xI m4 14 (nI B)) 14 = nI B := rfl
      simp (disch := omega) only [u_165_49, u_165_52, u_165_53, gI0, gIs, gR0, gRs, gF0, gFs, st0, st_i, st_r, st_f, st_n, st_s, true_and, and_true, ↓ifLeT, ↓ifLeF, ↓ifLtT, ↓ifLtF, ↓ifEqT, ↓ifEqF, if_tt, if_ff, if_pos, if_neg, nLe, nLt, nEq, nInT, nCl, pk_mul, nI_add, Nat.reduceAdd, s_cat_nil, s_cat_i, s_cat_r, s_cat_f, s_cat_l, tl_s, tl_n, cat_i, cat_r, cat_f, nb0, nb1, nbI, if_bI, if_bIr, Nat.zero_le, Nat.reduceLeDiff, M_ob, M_s14, q2]
      refine r_semi (d := d + 2) G5 (fun e3 m6 f6 G6 => ?_) fun e3 => ?_
      · rw [rdQ_3 hw hb e3, q2] at K
        simp (disch := omega) only [u_165_56, gI0, gIs, gR0, gRs, gF0, gFs, st0, st_i, st_r, st_f, st_n, st_s, true_and, and_true, ↓ifLeT, ↓ifLeF, ↓ifLtT, ↓ifLtF, ↓ifEqT, ↓ifEqF, if_tt, if_ff, if_pos, if_neg, nLe, nLt, nEq, nInT, nCl, pk_mul, nI_add, Nat.reduceAdd, s_cat_nil, s_cat_i, s_cat_r, s_cat_f, s_cat_l, tl_s, tl_n, cat_i, cat_r, cat_f, nb0, nb1, nbI, if_bI, if_bIr, Nat.zero_le, Nat.reduceLeDiff]
        exact rq_gap (d := d) (v1 := nI 0) hW q3 q4 G6 ((f6.1 14 (by decide) (by decide) (by decide) (by decide) (by decide)).trans d14) ((f6.1 15 (by decide) (by decide) (by decide) (by decide) (by decide)).trans d15) ((f6.1 16 (by decide) (by decide) (by decide) (by decide) (by decide)).trans d16) (fun j hj => by rw [kA_R f6]; exact A5 j hj) (KQ_fr (frU_t fr5 (frU_R f6)) K)
      · rw [rdQ_2 hw hb e3, q2] at K
        simp (disch := omega) only [u_165_56, u_165_57, u_165_58, gI0, gIs, gR0, gRs, gF0, gFs, st0, st_i, st_r, st_f, st_n, st_s, true_and, and_true, ↓ifLeT, ↓ifLeF, ↓ifLtT, ↓ifLtF, ↓ifEqT, ↓ifEqF, if_tt, if_ff, if_pos, if_neg, nLe, nLt, nEq, nInT, nCl, pk_mul, nI_add, Nat.reduceAdd, s_cat_nil, s_cat_i, s_cat_r, s_cat_f, s_cat_l, tl_s, tl_n, cat_i, cat_r, cat_f, nb0, nb1, nbI, if_bI, if_bIr, Nat.zero_le, Nat.reduceLeDiff]
        refine rq_end (d := d) (y := uS (clrY y) 0 (nI B)) G5 (RD_0 d14 d15 d16 rfl rfl A5) (Nat.zero_le _) ?_
        rw [decide_eq_false (fun z => z.2 rfl)]
        exact KQ_fr fr5 K
    · rw [rdQ_1 hw hb] at K
      have o := tk_max G3
      have n5 : ¬ kI (xI (xI m3 5 (nI (eN (advT (rewT t)) 2))) 14 (nI 2)) 5 = -1 := by
        show ¬ nI (eN (advT (rewT t)) 2) = -1
        exact m1_ne (by omega)
      have e1 := fun Q => r_semi1 (d := d + 2) (h := h) (Q := Q) n5
      simp (disch := omega) only [u_165_49, u_165_52, u_165_53, u_165_56, u_165_57, u_165_58, gI0, gIs, gR0, gRs, gF0, gFs, st0, st_i, st_r, st_f, st_n, st_s, true_and, and_true, ↓ifLeT, ↓ifLeF, ↓ifLtT, ↓ifLtF, ↓ifEqT, ↓ifEqF, if_tt, if_ff, if_pos, if_neg, nLe, nLt, nEq, nInT, nCl, pk_mul, nI_add, Nat.reduceAdd, s_cat_nil, s_cat_i, s_cat_r, s_cat_f, s_cat_l, tl_s, tl_n, cat_i, cat_r, cat_f, nb0, nb1, nbI, if_bI, if_bIr, Nat.zero_le, Nat.reduceLeDiff, M_ob, M_s14, e1]
      exact rq_b85 (d := d) o rfl (TT_I (TT_I G3.1 (by decide)) (by decide)) (KQ_fr (frU_t fr2 (frU_t (frU_R f3) (frU_t (frU_I (by decide)) (frU_I (by decide))))) K)
  · rw [rdQ_0 hw] at K
    have o := tk_max G2
    have n5 : ¬ kI (xI m2 5 (nI (eN (rewT t) 2))) 5 = -1 := by
      show ¬ nI (eN (rewT t) 2) = -1
      exact m1_ne (by omega)
    have e0 := fun Q => r_num1 (d := d + 2) (h := h) (Q := Q) (lo := nI 2) (hi := nI 30) n5
    have n6 : ¬ kI (xI (xI m2 5 (nI (eN (rewT t) 2))) 14 (nI 2)) 5 = -1 := n5
    have e1 := fun Q => r_semi1 (d := d + 2) (h := h) (Q := Q) n6
    simp (disch := omega) only [u_165_41, u_165_42, u_165_43, u_165_44, u_165_46, u_165_49, u_165_52, u_165_53, u_165_56, u_165_57, u_165_58, gI0, gIs, gR0, gRs, gF0, gFs, st0, st_i, st_r, st_f, st_n, st_s, true_and, and_true, ↓ifLeT, ↓ifLeF, ↓ifLtT, ↓ifLtF, ↓ifEqT, ↓ifEqF, if_tt, if_ff, if_pos, if_neg, nLe, nLt, nEq, nInT, nCl, pk_mul, nI_add, Nat.reduceAdd, s_cat_nil, s_cat_i, s_cat_r, s_cat_f, s_cat_l, tl_s, tl_n, cat_i, cat_r, cat_f, nb0, nb1, nbI, if_bI, if_bIr, Nat.zero_le, Nat.reduceLeDiff, M_ob, M_s14, e0, e1]
    exact rq_b85 (d := d) o rfl (TT_I (TT_I G2.1 (by decide)) (by decide)) (KQ_fr (frU_t fr2 (frU_t (frU_I (by decide)) (frU_I (by decide)))) K)
end MQV
