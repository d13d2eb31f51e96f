/-! the reference's easy, on */ -/
def gE (r : Option (Nat × tL)) : tG := ((r.map (·.1)).getD 301, r)
section MEB
variable {b d : Nat} {m : tM} {h : sH} {x y w : Int32} {Q : sQ} {n N : tN} {z : tQ}
theorem gives_all (hn : wfN n) : ∀ q c m N (v1 : Int32), c + q = nF n 2 → wfN N → EQ n N → MG m n → RR (kA m 320) n → RR (kA m 330) N → kI m 31 = nI (tbits (nL N)) → (∀ m', frE m m' → wfN (iter giveN c q N) → EQ n (iter giveN c q N) → RR (kA m' 330) (iter giveN c q N) → kI m' 31 = nI (tbits (nL (iter giveN c q N))) → WP (d + 8) 230 50 [.ref 317, .int v1, .int (nI (nF n 2))] [] (pM m' h) (0, 0) Q) → WP (d + 8) 230 31 [.ref 317, .int v1, .int (nI c)] [] (pM m h) (0, 0) Q := by
  intro q
  have h4 := hn.1.1
  induction q with
  | zero =>
    intro c m N v1 hc hN hE hg hr0 hr h31 K
    have g10 := hg.2.2.1
    have e : c = nF n 2 := by omega
    subst e
    rw [u_230_31]
    simp (disch := omega) only [u_230_0, u_230_1, u_230_4, u_230_5, u_230_6, u_230_9, u_230_10, u_230_12, u_230_13, u_230_16, u_230_19, u_230_22, u_230_23, u_230_26, u_230_29, u_230_30, u_230_32, u_230_33, u_230_36, u_230_39, u_230_40, u_230_41, u_230_44, u_230_47, u_230_51, u_230_52, u_230_55, u_230_58, u_230_61, u_230_64, u_230_65, u_230_66, u_230_69, u_230_70, u_230_71, u_230_74, u_230_77, u_230_80, u_230_81, u_230_84, u_230_86, u_230_89, gI0, gIs, gR0, gRs, gF0, gFs, st0, st_i, st_r, st_f, st_n, st_s, true_and, and_true, ↓ifLeT, ↓ifLeF, ↓ifLtT, ↓ifLtF, ↓ifEqT, ↓ifEqF, if_tt, if_ff, if_pos, if_neg, nLe, nLt, nEq, nInT, nCl, pk_mul, nI_add, Nat.reduceAdd, s_cat_nil, s_cat_i, s_cat_r, s_cat_f, s_cat_l, tl_s, tl_n, cat_i, cat_r, cat_f, nb0, nb1, nbI, if_bI, if_bIr, Nat.zero_le, Nat.reduceLeDiff, M_g0, M_g1, M_g2, M_g3, M_g4, M_g5, M_g6, M_g7, M_g8, M_g9, M_g10, M_g11, M_g12, M_g13, M_g14, M_g15, M_g16, M_g17, M_g18, M_g19, M_g20, M_g21, M_g22, M_g23, M_g24, M_g25, M_g26, M_g27, M_g28, M_g29, M_g30, M_g31, M_g32, M_g33, M_g34, M_g35, M_g36, M_g37, M_g38, M_g39, M_g40, M_g41, g10]
    exact K m frE_r hN hE hr h31
  | succ q ih =>
    intro c m N v1 hc hN hE hg hr0 hr h31 K
    have g10 := hg.2.2.1
    have hc2 : c < nF N 2 := by rw [hE.1 2 (by decide)]; omega
    rw [u_230_31]
    simp (disch := omega) only [u_230_0, u_230_1, u_230_4, u_230_5, u_230_6, u_230_9, u_230_10, u_230_12, u_230_13, u_230_16, u_230_19, u_230_22, u_230_23, u_230_26, u_230_29, u_230_30, u_230_32, u_230_33, u_230_36, u_230_39, u_230_40, u_230_41, u_230_44, u_230_47, u_230_51, u_230_52, u_230_55, u_230_58, u_230_61, u_230_64, u_230_65, u_230_66, u_230_69, u_230_70, u_230_71, u_230_74, u_230_77, u_230_80, u_230_81, u_230_84, u_230_86, u_230_89, gI0, gIs, gR0, gRs, gF0, gFs, st0, st_i, st_r, st_f, st_n, st_s, true_and, and_true, ↓ifLeT, ↓ifLeF, ↓ifLtT, ↓ifLtF, ↓ifEqT, ↓ifEqF, if_tt, if_ff, if_pos, if_neg, nLe, nLt, nEq, nInT, nCl, pk_mul, nI_add, Nat.reduceAdd, s_cat_nil, s_cat_i, s_cat_r, s_cat_f, s_cat_l, tl_s, tl_n, cat_i, cat_r, cat_f, nb0, nb1, nbI, if_bI, if_bIr, Nat.zero_le, Nat.reduceLeDiff, M_ob, M_g0, M_g1, M_g2, M_g3, M_g4, M_g5, M_g6, M_g7, M_g8, M_g9, M_g10, M_g11, M_g12, M_g13, M_g14, M_g15, M_g16, M_g17, M_g18, M_g19, M_g20, M_g21, M_g22, M_g23, M_g24, M_g25, M_g26, M_g27, M_g28, M_g29, M_g30, M_g31, M_g32, M_g33, M_g34, M_g35, M_g36, M_g37, M_g38, M_g39, M_g40, M_g41, g10]
    refine r_gives (d := d + 3) hn hN hE hg hr0 hr h31 hc2 fun m1 f1 r1 g1 => ?_
    simp (disch := omega) only [u_230_0, u_230_1, u_230_4, u_230_5, u_230_6, u_230_9, u_230_10, u_230_12, u_230_13, u_230_16, u_230_19, u_230_22, u_230_23, u_230_26, u_230_29, u_230_30, u_230_32, u_230_33, u_230_36, u_230_39, u_230_40, u_230_41, u_230_44, u_230_47, u_230_51, u_230_52, u_230_55, u_230_58, u_230_61, u_230_64, u_230_65, u_230_66, u_230_69, u_230_70, u_230_71, u_230_74, u_230_77, u_230_80, u_230_81, u_230_84, u_230_86, u_230_89, gI0, gIs, gR0, gRs, gF0, gFs, st0, st_i, st_r, st_f, st_n, st_s, true_and, and_true, ↓ifLeT, ↓ifLeF, ↓ifLtT, ↓ifLtF, ↓ifEqT, ↓ifEqF, if_tt, if_ff, if_pos, if_neg, nLe, nLt, nEq, nInT, nCl, pk_mul, nI_add, Nat.reduceAdd, s_cat_nil, s_cat_i, s_cat_r, s_cat_f, s_cat_l, tl_s, tl_n, cat_i, cat_r, cat_f, nb0, nb1, nbI, if_bI, if_bIr, Nat.zero_le, Nat.reduceLeDiff]
    refine ih (c + 1) m1 (giveN c N) v1 (by omega) (wf_give hN hc2) (EQ_give hE) (MG_fz hg (frE_Z f1)) (by rw [f1.2.2 320 (by decide) (by decide)]; exact hr0) r1 g1 fun m' f2 w2 e2 r2 g2 => ?_
    exact K m' (frE_t f1 f2) w2 e2 r2 g2
theorem easy_all (hn : wfN n) {v2 : Value} : ∀ k mm m N v2, mm + k = 301 → wfN N → EQ n N → MG m n → RR (kA m 320) n → RR (kA m 330) N → kI m 31 = nI (tbits (nL N)) → (∀ m', frZ m m' → MF m' (nF n 2) (gE (easyF k mm N)) → Q none (pM m' h)) → 1 ≤ k → WP (d + 8) 230 11 [.ref 317, .int (nI mm), v2] [] (pM m h) (0, 0) Q := by
  intro k
  induction k with
  | zero => intro mm m N v2 _ _ _ _ _ _ _ _ h1; exact absurd h1 (by decide)
  | succ k ih =>
    intro mm m N v2 hk hN hE hg hr0 hr h31 K _
    have e1 := fun Q => r_allD (d := d + 5) (h := h) (Q := Q) rb330 hN hr
    have F2 := hE.1 2 (by decide)
    have l8 : ∀ c, (nL N c).length ≤ 8 := fun c => wfL_len hN.1 hN.2.2.2 c
    rw [easyF] at K
    rw [u_230_11]
    cases ha : allD N with
    | true =>
      rw [ha] at e1
      rw [ha, if_pos rfl] at K
      simp (disch := omega) only [u_230_0, u_230_1, u_230_4, u_230_5, u_230_6, u_230_9, u_230_10, u_230_12, u_230_13, u_230_16, u_230_19, u_230_22, u_230_23, u_230_26, u_230_29, u_230_30, u_230_32, u_230_33, u_230_36, u_230_39, u_230_40, u_230_41, u_230_44, u_230_47, u_230_50, u_230_51, u_230_52, u_230_55, u_230_58, u_230_61, u_230_64, u_230_65, u_230_66, u_230_69, u_230_70, u_230_71, u_230_74, u_230_77, u_230_80, u_230_81, u_230_84, u_230_86, u_230_89, gI0, gIs, gR0, gRs, gF0, gFs, st0, st_i, st_r, st_f, st_n, st_s, true_and, and_true, ↓ifLeT, ↓ifLeF, ↓ifLtT, ↓ifLtF, ↓ifEqT, ↓ifEqF, if_tt, if_ff, if_pos, if_neg, nLe, nLt, nEq, nInT, nCl, pk_mul, nI_add, Nat.reduceAdd, s_cat_nil, s_cat_i, s_cat_r, s_cat_f, s_cat_l, tl_s, tl_n, cat_i, cat_r, cat_f, nb0, nb1, nbI, if_bI, if_bIr, Nat.zero_le, Nat.reduceLeDiff, M_ob, M_g0, M_g1, M_g2, M_g3, M_g4, M_g5, M_g6, M_g7, M_g8, M_g9, M_g10, M_g11, M_g12, M_g13, M_g14, M_g15, M_g16, M_g17, M_g18, M_g19, M_g20, M_g21, M_g22, M_g23, M_g24, M_g25, M_g26, M_g27, M_g28, M_g29, M_g30, M_g31, M_g32, M_g33, M_g34, M_g35, M_g36, M_g37, M_g38, M_g39, M_g40, M_g41, e1, iBt, nI10, reduceIte]
      refine r_finds (d := d + 6) rb330 hN hr fun f hf => ?_
      simp (disch := omega) only [u_230_0, u_230_1, u_230_4, u_230_5, u_230_6, u_230_9, u_230_10, u_230_12, u_230_13, u_230_16, u_230_19, u_230_22, u_230_23, u_230_26, u_230_29, u_230_30, u_230_32, u_230_33, u_230_36, u_230_39, u_230_40, u_230_41, u_230_44, u_230_47, u_230_50, u_230_51, u_230_52, u_230_55, u_230_58, u_230_61, u_230_64, u_230_65, u_230_66, u_230_69, u_230_70, u_230_71, u_230_74, u_230_77, u_230_80, u_230_81, u_230_84, u_230_86, u_230_89, gI0, gIs, gR0, gRs, gF0, gFs, st0, st_i, st_r, st_f, st_n, st_s, true_and, and_true, ↓ifLeT, ↓ifLeF, ↓ifLtT, ↓ifLtF, ↓ifEqT, ↓ifEqF, if_tt, if_ff, if_pos, if_neg, nLe, nLt, nEq, nInT, nCl, pk_mul, nI_add, Nat.reduceAdd, s_cat_nil, s_cat_i, s_cat_r, s_cat_f, s_cat_l, tl_s, tl_n, cat_i, cat_r, cat_f, nb0, nb1, nbI, if_bI, if_bIr, Nat.zero_le, Nat.reduceLeDiff]
      refine K _ (frZ_t (frZ_I (by decide)) (frZ_A (by decide))) ⟨rfl, by omega, rfl, ?_, l8⟩
      rw [kA_eq, ← F2]
      exact hf
    | false =>
      rw [ha] at e1
      rw [ha, if_neg Bool.false_ne_true] at K
      by_cases hm : mm = 300
      · have k0 : k = 0 := by omega
        subst k0
        subst hm
        simp (disch := omega) only [u_230_0, u_230_1, u_230_4, u_230_5, u_230_6, u_230_9, u_230_10, u_230_12, u_230_13, u_230_16, u_230_19, u_230_22, u_230_23, u_230_26, u_230_29, u_230_30, u_230_32, u_230_33, u_230_36, u_230_39, u_230_40, u_230_41, u_230_44, u_230_47, u_230_50, u_230_51, u_230_52, u_230_55, u_230_58, u_230_61, u_230_64, u_230_65, u_230_66, u_230_69, u_230_70, u_230_71, u_230_74, u_230_77, u_230_80, u_230_81, u_230_84, u_230_86, u_230_89, gI0, gIs, gR0, gRs, gF0, gFs, st0, st_i, st_r, st_f, st_n, st_s, true_and, and_true, ↓ifLeT, ↓ifLeF, ↓ifLtT, ↓ifLtF, ↓ifEqT, ↓ifEqF, if_tt, if_ff, if_pos, if_neg, nLe, nLt, nEq, nInT, nCl, pk_mul, nI_add, Nat.reduceAdd, s_cat_nil, s_cat_i, s_cat_r, s_cat_f, s_cat_l, tl_s, tl_n, cat_i, cat_r, cat_f, nb0, nb1, nbI, if_bI, if_bIr, Nat.zero_le, Nat.reduceLeDiff, M_ob, M_g0, M_g1, M_g2, M_g3, M_g4, M_g5, M_g6, M_g7, M_g8, M_g9, M_g10, M_g11, M_g12, M_g13, M_g14, M_g15, M_g16, M_g17, M_g18, M_g19, M_g20, M_g21, M_g22, M_g23, M_g24, M_g25, M_g26, M_g27, M_g28, M_g29, M_g30, M_g31, M_g32, M_g33, M_g34, M_g35, M_g36, M_g37, M_g38, M_g39, M_g40, M_g41, e1, iBf, Nat.le_refl]
        refine r_finds (d := d + 6) rb330 hN hr fun f hf => ?_
        simp (disch := omega) only [u_230_0, u_230_1, u_230_4, u_230_5, u_230_6, u_230_9, u_230_10, u_230_12, u_230_13, u_230_16, u_230_19, u_230_22, u_230_23, u_230_26, u_230_29, u_230_30, u_230_32, u_230_33, u_230_36, u_230_39, u_230_40, u_230_41, u_230_44, u_230_47, u_230_50, u_230_51, u_230_52, u_230_55, u_230_58, u_230_61, u_230_64, u_230_65, u_230_66, u_230_69, u_230_70, u_230_71, u_230_74, u_230_77, u_230_80, u_230_81, u_230_84, u_230_86, u_230_89, gI0, gIs, gR0, gRs, gF0, gFs, st0, st_i, st_r, st_f, st_n, st_s, true_and, and_true, ↓ifLeT, ↓ifLeF, ↓ifLtT, ↓ifLtF, ↓ifEqT, ↓ifEqF, if_tt, if_ff, if_pos, if_neg, nLe, nLt, nEq, nInT, nCl, pk_mul, nI_add, Nat.reduceAdd, s_cat_nil, s_cat_i, s_cat_r, s_cat_f, s_cat_l, tl_s, tl_n, cat_i, cat_r, cat_f, nb0, nb1, nbI, if_bI, if_bIr, Nat.zero_le, Nat.reduceLeDiff]
        exact K _ (frZ_t (frZ_I (by decide)) (frZ_A (by decide))) ⟨rfl, rfl⟩
      · simp (disch := omega) only [u_230_0, u_230_1, u_230_4, u_230_5, u_230_6, u_230_9, u_230_10, u_230_12, u_230_13, u_230_16, u_230_19, u_230_22, u_230_23, u_230_26, u_230_29, u_230_30, u_230_32, u_230_33, u_230_36, u_230_39, u_230_40, u_230_41, u_230_44, u_230_47, u_230_50, u_230_51, u_230_52, u_230_55, u_230_58, u_230_61, u_230_64, u_230_65, u_230_66, u_230_69, u_230_70, u_230_71, u_230_74, u_230_77, u_230_80, u_230_81, u_230_84, u_230_86, u_230_89, gI0, gIs, gR0, gRs, gF0, gFs, st0, st_i, st_r, st_f, st_n, st_s, true_and, and_true, ↓ifLeT, ↓ifLeF, ↓ifLtT, ↓ifLtF, ↓ifEqT, ↓ifEqF, if_tt, if_ff, if_pos, if_neg, nLe, nLt, nEq, nInT, nCl, pk_mul, nI_add, Nat.reduceAdd, s_cat_nil, s_cat_i, s_cat_r, s_cat_f, s_cat_l, tl_s, tl_n, cat_i, cat_r, cat_f, nb0, nb1, nbI, if_bI, if_bIr, Nat.zero_le, Nat.reduceLeDiff, M_ob, M_g0, M_g1, M_g2, M_g3, M_g4, M_g5, M_g6, M_g7, M_g8, M_g9, M_g10, M_g11, M_g12, M_g13, M_g14, M_g15, M_g16, M_g17, M_g18, M_g19, M_g20, M_g21, M_g22, M_g23, M_g24, M_g25, M_g26, M_g27, M_g28, M_g29, M_g30, M_g31, M_g32, M_g33, M_g34, M_g35, M_g36, M_g37, M_g38, M_g39, M_g40, M_g41, e1, iBf]
        refine gives_all (d := d) hn (nF n 2) 0 m N _ (Nat.zero_add _) hN hE hg hr0 hr h31 fun m1 f1 w1 q1 r1 g1 => ?_
        have eg : iter giveN 0 (nF n 2) N = givesN N := by unfold givesN; rw [F2]
        rw [eg] at w1 q1 r1 g1
        have hg1 := MG_fz hg (frE_Z f1)
        simp (disch := omega) only [u_230_0, u_230_1, u_230_4, u_230_5, u_230_6, u_230_9, u_230_10, u_230_12, u_230_13, u_230_16, u_230_19, u_230_22, u_230_23, u_230_26, u_230_29, u_230_30, u_230_32, u_230_33, u_230_36, u_230_39, u_230_40, u_230_41, u_230_44, u_230_47, u_230_50, u_230_51, u_230_52, u_230_55, u_230_58, u_230_61, u_230_64, u_230_65, u_230_66, u_230_69, u_230_70, u_230_71, u_230_74, u_230_77, u_230_80, u_230_81, u_230_84, u_230_86, u_230_89, gI0, gIs, gR0, gRs, gF0, gFs, st0, st_i, st_r, st_f, st_n, st_s, true_and, and_true, ↓ifLeT, ↓ifLeF, ↓ifLtT, ↓ifLtF, ↓ifEqT, ↓ifEqF, if_tt, if_ff, if_pos, if_neg, nLe, nLt, nEq, nInT, nCl, pk_mul, nI_add, Nat.reduceAdd, s_cat_nil, s_cat_i, s_cat_r, s_cat_f, s_cat_l, tl_s, tl_n, cat_i, cat_r, cat_f, nb0, nb1, nbI, if_bI, if_bIr, Nat.zero_le, Nat.reduceLeDiff, M_ob, M_g0, M_g1, M_g2, M_g3, M_g4, M_g5, M_g6, M_g7, M_g8, M_g9, M_g10, M_g11, M_g12, M_g13, M_g14, M_g15, M_g16, M_g17, M_g18, M_g19, M_g20, M_g21, M_g22, M_g23, M_g24, M_g25, M_g26, M_g27, M_g28, M_g29, M_g30, M_g31, M_g32, M_g33, M_g34, M_g35, M_g36, M_g37, M_g38, M_g39, M_g40, M_g41]
        refine r_minute (d := d) rb330 w1 (MG_EQ hg1 q1) r1 fun m2 f2 r2 _ => ?_
        simp (disch := omega) only [u_230_0, u_230_1, u_230_4, u_230_5, u_230_6, u_230_9, u_230_10, u_230_12, u_230_13, u_230_16, u_230_19, u_230_22, u_230_23, u_230_26, u_230_29, u_230_30, u_230_32, u_230_33, u_230_36, u_230_39, u_230_40, u_230_41, u_230_44, u_230_47, u_230_50, u_230_51, u_230_52, u_230_55, u_230_58, u_230_61, u_230_64, u_230_65, u_230_66, u_230_69, u_230_70, u_230_71, u_230_74, u_230_77, u_230_80, u_230_81, u_230_84, u_230_86, u_230_89, gI0, gIs, gR0, gRs, gF0, gFs, st0, st_i, st_r, st_f, st_n, st_s, true_and, and_true, ↓ifLeT, ↓ifLeF, ↓ifLtT, ↓ifLtF, ↓ifEqT, ↓ifEqF, if_tt, if_ff, if_pos, if_neg, nLe, nLt, nEq, nInT, nCl, pk_mul, nI_add, Nat.reduceAdd, s_cat_nil, s_cat_i, s_cat_r, s_cat_f, s_cat_l, tl_s, tl_n, cat_i, cat_r, cat_f, nb0, nb1, nbI, if_bI, if_bIr, Nat.zero_le, Nat.reduceLeDiff]
        have fz := frZ_t (frE_Z f1) (frE_Z (frE_M f2))
        refine ih (mm + 1) m2 (passN (givesN N)) _ (by omega) (wf_pass w1) (EQ_pass q1) (MG_fz hg1 (frE_Z (frE_M f2))) (by rw [f2.2.2 320 (by decide) (by decide), f1.2.2 320 (by decide) (by decide)]; exact hr0) r2 ((f2.1 31).trans g1) (fun m' fz' mf => K m' (frZ_t fz fz') mf) (by omega)
theorem r_seeksE (hm : RM m z) (hq : zQ z = some n) (K : ∀ m', RM m' z → MF m' (nF n 2) (gE (easyN n)) → Q none (pM m' h)) : MT (d + 9) 230 [.ref 317] (pM m h) Q := by
  obtain ⟨hg, hr, hok⟩ := RM_q hm hq
  have hn := hok.1
  rw [MT_go (by decide) _ _ _ (Nat.le_of_ble_eq_true rfl), show s_entry 230 [.ref 317] = [.ref 317, s_no, s_no] from rfl]
  simp (disch := omega) only [u_230_0, u_230_1, u_230_4, u_230_5, u_230_6, u_230_9, u_230_10, u_230_12, u_230_13, u_230_16, u_230_19, u_230_22, u_230_23, u_230_26, u_230_29, u_230_30, u_230_32, u_230_33, u_230_36, u_230_39, u_230_40, u_230_41, u_230_44, u_230_47, u_230_50, u_230_51, u_230_52, u_230_55, u_230_58, u_230_61, u_230_64, u_230_65, u_230_66, u_230_69, u_230_70, u_230_71, u_230_74, u_230_77, u_230_80, u_230_81, u_230_84, u_230_86, u_230_89, gI0, gIs, gR0, gRs, gF0, gFs, st0, st_i, st_r, st_f, st_n, st_s, true_and, and_true, ↓ifLeT, ↓ifLeF, ↓ifLtT, ↓ifLtF, ↓ifEqT, ↓ifEqF, if_tt, if_ff, if_pos, if_neg, nLe, nLt, nEq, nInT, nCl, pk_mul, nI_add, Nat.reduceAdd, s_cat_nil, s_cat_i, s_cat_r, s_cat_f, s_cat_l, tl_s, tl_n, cat_i, cat_r, cat_f, nb0, nb1, nbI, if_bI, if_bIr, Nat.zero_le, Nat.reduceLeDiff, M_ob]
  refine r_clears (d := d + 6) hn hr fun f hf => ?_
  simp (disch := omega) only [u_230_0, u_230_1, u_230_4, u_230_5, u_230_6, u_230_9, u_230_10, u_230_12, u_230_13, u_230_16, u_230_19, u_230_22, u_230_23, u_230_26, u_230_29, u_230_30, u_230_32, u_230_33, u_230_36, u_230_39, u_230_40, u_230_41, u_230_44, u_230_47, u_230_50, u_230_51, u_230_52, u_230_55, u_230_58, u_230_61, u_230_64, u_230_65, u_230_66, u_230_69, u_230_70, u_230_71, u_230_74, u_230_77, u_230_80, u_230_81, u_230_84, u_230_86, u_230_89, gI0, gIs, gR0, gRs, gF0, gFs, st0, st_i, st_r, st_f, st_n, st_s, true_and, and_true, ↓ifLeT, ↓ifLeF, ↓ifLtT, ↓ifLtF, ↓ifEqT, ↓ifEqF, if_tt, if_ff, if_pos, if_neg, nLe, nLt, nEq, nInT, nCl, pk_mul, nI_add, Nat.reduceAdd, s_cat_nil, s_cat_i, s_cat_r, s_cat_f, s_cat_l, tl_s, tl_n, cat_i, cat_r, cat_f, nb0, nb1, nbI, if_bI, if_bIr, Nat.zero_le, Nat.reduceLeDiff, M_s31]
  have fz : frZ m (xI (xA m 330 f) 31 (nI 0)) := frZ_t (frZ_A (by decide)) (frZ_I (by decide))
  have t0 : tbits (fun _ => ([] : List Nat)) = 0 := by decide
  refine easy_all (d := d) (n := n) (v2 := s_no) hn 301 0 _ (jL n (fun _ => [])) _ rfl ⟨hn.1, hn.2.1, hn.2.2.1, wfL_nil⟩ ⟨fun _ _ => rfl, rfl, rfl⟩ (MG_fz hg fz) hr (by show RR (kA (xA m 330 f) 330) _; rw [kA_eq]; exact hf) (show nI 0 = nI (tbits fun _ => []) from by rw [t0]) (fun m' f' mf => K m' (RM_fr (frZ_t fz f') hm) mf) (by decide)
theorem z_easy (hm : RM m z) (K : ∀ m', RM m' z → Q (some (.int (zeasy z w))) (pM m' h)) : MT (d + 10) 231 [.ref 317, .int w] (pM m h) Q := by
  rw [MT_go (by decide) _ _ _ (Nat.le_of_ble_eq_true rfl), show s_entry 231 [.ref 317, .int w] = [.ref 317, .int w] from rfl]
  have hm0 := RM_0 (x := nI 0) hm
  have e1 := fun Q => r_such (d := d + 7) (h := h) (Q := Q) (x := w) hm0
  unfold zeasy at K
  cases hq : zQ z with
  | none =>
    simp only [hq] at K e1
    simp (disch := omega) only [u_231_0, u_231_1, u_231_2, u_231_5, u_231_6, u_231_7, u_231_10, u_231_13, u_231_16, u_231_17, u_231_18, u_231_21, u_231_22, u_231_23, u_231_26, gI0, gIs, gR0, gRs, gF0, gFs, st0, st_i, st_r, st_f, st_n, st_s, true_and, and_true, ↓ifLeT, ↓ifLeF, ↓ifLtT, ↓ifLtF, ↓ifEqT, ↓ifEqF, if_tt, if_ff, if_pos, if_neg, nLe, nLt, nEq, nInT, nCl, pk_mul, nI_add, Nat.reduceAdd, s_cat_nil, s_cat_i, s_cat_r, s_cat_f, s_cat_l, tl_s, tl_n, cat_i, cat_r, cat_f, nb0, nb1, nbI, if_bI, if_bIr, Nat.zero_le, Nat.reduceLeDiff, M_ob, M_s0, e1, iBf]
    exact K _ hm0
  | some n =>
    simp only [hq] at K e1
    obtain ⟨hg, hr, hok⟩ := RM_q hm0 hq
    cases hs : suchN n w with
    | false =>
      rw [hs] at e1
      simp only [hs, Bool.false_eq_true, if_false] at K
      simp (disch := omega) only [u_231_0, u_231_1, u_231_2, u_231_5, u_231_6, u_231_7, u_231_10, u_231_13, u_231_16, u_231_17, u_231_18, u_231_21, u_231_22, u_231_23, u_231_26, gI0, gIs, gR0, gRs, gF0, gFs, st0, st_i, st_r, st_f, st_n, st_s, true_and, and_true, ↓ifLeT, ↓ifLeF, ↓ifLtT, ↓ifLtF, ↓ifEqT, ↓ifEqF, if_tt, if_ff, if_pos, if_neg, nLe, nLt, nEq, nInT, nCl, pk_mul, nI_add, Nat.reduceAdd, s_cat_nil, s_cat_i, s_cat_r, s_cat_f, s_cat_l, tl_s, tl_n, cat_i, cat_r, cat_f, nb0, nb1, nbI, if_bI, if_bIr, Nat.zero_le, Nat.reduceLeDiff, M_ob, M_s0, e1, iBf]
      exact K _ hm0
    | true =>
      rw [hs] at e1
      simp only [hs, if_true] at K
      simp (disch := omega) only [u_231_0, u_231_1, u_231_2, u_231_5, u_231_6, u_231_7, u_231_10, u_231_13, u_231_16, u_231_17, u_231_18, u_231_21, u_231_22, u_231_23, u_231_26, gI0, gIs, gR0, gRs, gF0, gFs, st0, st_i, st_r, st_f, st_n, st_s, true_and, and_true, ↓ifLeT, ↓ifLeF, ↓ifLtT, ↓ifLtF, ↓ifEqT, ↓ifEqF, if_tt, if_ff, if_pos, if_neg, nLe, nLt, nEq, nInT, nCl, pk_mul, nI_add, Nat.reduceAdd, s_cat_nil, s_cat_i, s_cat_r, s_cat_f, s_cat_l, tl_s, tl_n, cat_i, cat_r, cat_f, nb0, nb1, nbI, if_bI, if_bIr, Nat.zero_le, Nat.reduceLeDiff, M_ob, M_s0, e1, iBt, nI10, reduceIte]
      refine r_seeksE (d := d) hm0 hq fun m' hm' mf => ?_
      obtain ⟨hg', -, -⟩ := RM_q hm' hq
      simp (disch := omega) only [u_231_0, u_231_1, u_231_2, u_231_5, u_231_6, u_231_7, u_231_10, u_231_13, u_231_16, u_231_17, u_231_18, u_231_21, u_231_22, u_231_23, u_231_26, gI0, gIs, gR0, gRs, gF0, gFs, st0, st_i, st_r, st_f, st_n, st_s, true_and, and_true, ↓ifLeT, ↓ifLeF, ↓ifLtT, ↓ifLtF, ↓ifEqT, ↓ifEqF, if_tt, if_ff, if_pos, if_neg, nLe, nLt, nEq, nInT, nCl, pk_mul, nI_add, Nat.reduceAdd, s_cat_nil, s_cat_i, s_cat_r, s_cat_f, s_cat_l, tl_s, tl_n, cat_i, cat_r, cat_f, nb0, nb1, nbI, if_bI, if_bIr, Nat.zero_le, Nat.reduceLeDiff, M_ob]
      refine r_tells (d := d + 7) (g := gE (easyN n)) hok.1 hg'.2.2.1 mf (fun v l e => easy_wf hok.1 e) hs ?_
      simp (disch := omega) only [u_231_0, u_231_1, u_231_2, u_231_5, u_231_6, u_231_7, u_231_10, u_231_13, u_231_16, u_231_17, u_231_18, u_231_21, u_231_22, u_231_23, u_231_26, gI0, gIs, gR0, gRs, gF0, gFs, st0, st_i, st_r, st_f, st_n, st_s, true_and, and_true, ↓ifLeT, ↓ifLeF, ↓ifLtT, ↓ifLtF, ↓ifEqT, ↓ifEqF, if_tt, if_ff, if_pos, if_neg, nLe, nLt, nEq, nInT, nCl, pk_mul, nI_add, Nat.reduceAdd, s_cat_nil, s_cat_i, s_cat_r, s_cat_f, s_cat_l, tl_s, tl_n, cat_i, cat_r, cat_f, nb0, nb1, nbI, if_bI, if_bIr, Nat.zero_le, Nat.reduceLeDiff]
      exact K m' hm'
end MEB
