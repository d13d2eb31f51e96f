/-! the reference's search: all plans */ -/
section MSE
variable {b d : Nat} {m : tM} {h : sH} {Q : sQ} {n : tN} {l : tL} {g : tG}
theorem MG_T {m' : tM} (hg : MG m n) (hf : frT m m') : MG m' n := MG_fz hg (frT_Z hf)
theorem RR_T {m' : tM} (hr : RR (kA m 320) n) (hf : frT m m') : RR (kA m' 320) n := by
  rw [hf.2.2 320 (by decide) (by decide) (by decide) (by decide)]
  exact hr
theorem r_seeks {n0 : tN} (hn : wfN n) (hn0 : wfN n0) (hF : nF n = nF n0) (hL : nLift n = nLift n0) : ∀ f c X l g m d Q, (nF n 2 - c) + sumN (fun u => (X.testBit u).toNat) 8 < f → c ≤ nF n 2 → X < 256 → invE n c (fun t => X.testBit t) l → MG m n → MG m n0 → RR (kA m 320) n0 → RR (kA m 330) (jL n l) → MF m (nF n 2) g → (∀ m', frT m m' → RR (kA m' 330) (jL n l) → MF m' (nF n 2) (pickN n (enN n f c (fun t => X.testBit t) l) g) → Q none (pM m' h)) → MT (d + f + 12) 221 [.ref 317, .int (nI c), .int (nI X)] (pM m h) Q := by
  intro f
  have h4 := hn.1.1
  have h8 := hn.1.2.1
  have c1 : (nI 1).toNatClampNeg = 1 := rfl
  induction f with
  | zero => intro c X l g m d Q hf; exact absurd hf (Nat.not_lt_zero _)
  | succ f ih =>
    intro c X l g m d Q hf hc hX hi hg hg0 hr hr3 hm K
    show MT (d + f + 12 + 1) _ _ _ _
    rw [MT_go (by decide) _ _ _ (Nat.le_of_ble_eq_true rfl), show s_entry 221 [.ref 317, .int (nI c), .int (nI X)] = [.ref 317, .int (nI c), .int (nI X), s_no] from rfl]
    have g10 := hg.2.2.1
    have wl := hi.1
    have hnl : wfN (jL n l) := ⟨hn.1, hn.2.1, hn.2.2.1, wl⟩
    by_cases hC : c = nF n 2
    · subst hC
      have e : enN n (f + 1) (nF n 2) (fun t => X.testBit t) l = if X = 0 then [l] else [] := by
        rw [enN, if_pos (Nat.le_refl _)]
        by_cases x0 : X = 0
        · rw [if_pos x0, if_pos (List.all_eq_true.mpr fun t _ => by rw [x0, Nat.zero_testBit]; rfl)]
        · rw [if_neg x0, if_neg fun q => x0 (nz_tb.mpr fun i => by
            cases hb : X.testBit i with
            | false => rfl
            | true =>
              have := List.all_eq_true.mp q i (List.mem_range.mpr (hi.2.2.1 i hb).1)
              rw [hb] at this
              cases this)]
      rw [e] at K
      by_cases x0 : X = 0
      · rw [if_pos x0] at K
        subst x0
        simp (disch := omega) only [u_221_0, u_221_1, u_221_2, u_221_5, u_221_8, u_221_9, u_221_12, u_221_13, u_221_16, gI0, gIs, gR0, gRs, gF0, gFs, st0, st_i, st_r, st_f, st_n, st_s, true_and, and_true, ↓ifLeT, ↓ifLeF, ↓ifLtT, ↓ifLtF, ↓ifEqT, ↓ifEqF, if_tt, if_ff, if_pos, if_neg, nLe, nLt, nEq, nInT, nCl, pk_mul, nI_add, Nat.reduceAdd, s_cat_nil, s_cat_i, s_cat_r, s_cat_f, s_cat_l, tl_s, tl_n, cat_i, cat_r, cat_f, nb0, nb1, nbI, if_bI, if_bIr, Nat.zero_le, Nat.reduceLeDiff, M_ob, M_g0, M_g1, M_g2, M_g3, M_g4, M_g5, M_g6, M_g7, M_g8, M_g9, M_g10, M_g11, M_g12, M_g13, M_g14, M_g15, M_g16, M_g17, M_g18, M_g19, M_g20, M_g21, M_g22, M_g23, M_g24, M_g25, M_g26, M_g27, M_g28, M_g29, M_g30, M_g31, M_g32, M_g33, M_g34, M_g35, M_g36, M_g37, M_g38, M_g39, M_g40, M_g41, g10]
        refine r_judges (d := d + f + 1) hnl hg hr3 hm fun m' f1 e1 f2 => ?_
        simp (disch := omega) only [u_221_0, u_221_1, u_221_2, u_221_5, u_221_8, u_221_9, u_221_12, u_221_13, u_221_16, gI0, gIs, gR0, gRs, gF0, gFs, st0, st_i, st_r, st_f, st_n, st_s, true_and, and_true, ↓ifLeT, ↓ifLeF, ↓ifLtT, ↓ifLtF, ↓ifEqT, ↓ifEqF, if_tt, if_ff, if_pos, if_neg, nLe, nLt, nEq, nInT, nCl, pk_mul, nI_add, Nat.reduceAdd, s_cat_nil, s_cat_i, s_cat_r, s_cat_f, s_cat_l, tl_s, tl_n, cat_i, cat_r, cat_f, nb0, nb1, nbI, if_bI, if_bIr, Nat.zero_le, Nat.reduceLeDiff]
        exact K m' f1 (by rw [e1]; exact hr3) f2
      · rw [if_neg x0] at K
        have nx : ¬ nI X = nI 0 := fun q => x0 ((nI_eq (by omega) (by omega)).mp q)
        simp (disch := omega) only [u_221_0, u_221_1, u_221_2, u_221_5, u_221_8, u_221_9, u_221_12, u_221_13, u_221_16, gI0, gIs, gR0, gRs, gF0, gFs, st0, st_i, st_r, st_f, st_n, st_s, true_and, and_true, ↓ifLeT, ↓ifLeF, ↓ifLtT, ↓ifLtF, ↓ifEqT, ↓ifEqF, if_tt, if_ff, if_pos, if_neg, nLe, nLt, nEq, nInT, nCl, pk_mul, nI_add, Nat.reduceAdd, s_cat_nil, s_cat_i, s_cat_r, s_cat_f, s_cat_l, tl_s, tl_n, cat_i, cat_r, cat_f, nb0, nb1, nbI, if_bI, if_bIr, Nat.zero_le, Nat.reduceLeDiff, M_ob, M_g0, M_g1, M_g2, M_g3, M_g4, M_g5, M_g6, M_g7, M_g8, M_g9, M_g10, M_g11, M_g12, M_g13, M_g14, M_g15, M_g16, M_g17, M_g18, M_g19, M_g20, M_g21, M_g22, M_g23, M_g24, M_g25, M_g26, M_g27, M_g28, M_g29, M_g30, M_g31, M_g32, M_g33, M_g34, M_g35, M_g36, M_g37, M_g38, M_g39, M_g40, M_g41, g10, nx]
        exact K m frT_r hr3 hm
    · have hcC : c < nF n 2 := by omega
      have nc : ¬ nI c = nI (nF n 2) := fun q => hC ((nI_eq (by omega) (by omega)).mp q)
      have e : enN n (f + 1) c (fun t => X.testBit t) l = enN n f (c + 1) (fun t => X.testBit t) l ++ (if nK n c then [] else (List.range' 0 (nF n 3)).flatMap (fun t => if X.testBit t && nLift n c t then enN n f c (rmvF (fun t => X.testBit t) t) (appF l c t) else [])) := by
        rw [enN, if_neg (by omega), List.range_eq_range']
      rw [e] at K
      simp only [pick_app] at K
      have lp : ∀ q t m1 g1, t + q = nF n 3 → frT m m1 → RR (kA m1 330) (jL n l) → MF m1 (nF n 2) g1 → (∀ m', frT m m' → RR (kA m' 330) (jL n l) → MF m' (nF n 2) (pickN n (if nK n c then [] else (List.range' t q).flatMap (fun t => if X.testBit t && nLift n c t then enN n f c (rmvF (fun t => X.testBit t) t) (appF l c t) else [])) g1) → Q none (pM m' h)) → WP (d + f + 12) 221 27 [.ref 317, .int (nI c), .int (nI X), .int (nI t)] [] (pM m1 h) (0, 0) Q := by
        intro q
        induction q with
        | zero =>
          intro t m1 g1 ht f1 r3 hm1 K
          have e : t = nF n 3 := by omega
          subst e
          have r1 : kA m1 320 1 = nI (nF n 3) := by rw [hF]; exact (RR_T hr f1).2.1
          rw [u_221_27]
          simp (disch := omega) only [u_221_0, u_221_1, u_221_2, u_221_5, u_221_8, u_221_9, u_221_12, u_221_13, u_221_16, u_221_17, u_221_18, u_221_19, u_221_20, u_221_21, u_221_22, u_221_25, u_221_26, u_221_28, u_221_29, u_221_32, u_221_33, u_221_34, u_221_37, u_221_38, u_221_41, u_221_42, u_221_43, u_221_46, u_221_47, u_221_50, u_221_51, u_221_52, u_221_53, u_221_54, u_221_55, u_221_56, u_221_59, u_221_60, u_221_61, u_221_62, u_221_65, u_221_68, u_221_69, u_221_72, u_221_73, u_221_74, u_221_75, u_221_78, u_221_79, u_221_80, u_221_83, u_221_84, u_221_85, u_221_88, u_221_89, u_221_90, u_221_91, u_221_94, u_221_95, u_221_96, u_221_99, u_221_100, u_221_101, u_221_102, u_221_103, u_221_104, u_221_105, u_221_106, u_221_107, u_221_108, u_221_109, u_221_110, u_221_111, u_221_112, u_221_113, u_221_116, u_221_117, u_221_120, u_221_121, u_221_122, u_221_125, u_221_126, u_221_127, u_221_128, u_221_129, u_221_130, u_221_133, u_221_136, gI0, gIs, gR0, gRs, gF0, gFs, st0, st_i, st_r, st_f, st_n, st_s, true_and, and_true, ↓ifLeT, ↓ifLeF, ↓ifLtT, ↓ifLtF, ↓ifEqT, ↓ifEqF, if_tt, if_ff, if_pos, if_neg, nLe, nLt, nEq, nInT, nCl, pk_mul, nI_add, Nat.reduceAdd, s_cat_nil, s_cat_i, s_cat_r, s_cat_f, s_cat_l, tl_s, tl_n, cat_i, cat_r, cat_f, nb0, nb1, nbI, if_bI, if_bIr, Nat.zero_le, Nat.reduceLeDiff, M_g0, M_g1, M_g2, M_g3, M_g4, M_g5, M_g6, M_g7, M_g8, M_g9, M_g10, M_g11, M_g12, M_g13, M_g14, M_g15, M_g16, M_g17, M_g18, M_g19, M_g20, M_g21, M_g22, M_g23, M_g24, M_g25, M_g26, M_g27, M_g28, M_g29, M_g30, M_g31, M_g32, M_g33, M_g34, M_g35, M_g36, M_g37, M_g38, M_g39, M_g40, M_g41, M_r rb320, c1, r1]
          refine K m1 f1 r3 ?_
          rw [List.range'_zero, List.flatMap_nil]
          cases nK n c <;> exact hm1
        | succ q ihq =>
          intro t m1 g1 ht f1 r3 hm1 K
          have hr1 := RR_T hr f1
          have hg1 := MG_T hg f1
          have hg01 := MG_T hg0 f1
          have r1 : kA m1 320 1 = nI (nF n 3) := by rw [hF]; exact hr1.2.1
          have bk : kA m1 330 (2 + 12 * c + 1) = iB (nK n c) := (r3.2.2.1 c hcC).2.1
          have ln : kA m1 330 (2 + 12 * c + 3) = nI (l c).length := (r3.2.2.1 c hcC).2.2.2.1
          have l8 : ∀ q, (l q).length ≤ 8 := fun q => wfL_len (n := jL n l) hn.1 wl q
          rw [u_221_27]
          cases hk : nK n c with
          | true =>
            rw [hk] at bk
            simp only [hk, if_true] at K
            simp (disch := omega) only [u_221_0, u_221_1, u_221_2, u_221_5, u_221_8, u_221_9, u_221_12, u_221_13, u_221_16, u_221_17, u_221_18, u_221_19, u_221_20, u_221_21, u_221_22, u_221_25, u_221_26, u_221_28, u_221_29, u_221_32, u_221_33, u_221_34, u_221_37, u_221_38, u_221_41, u_221_42, u_221_43, u_221_46, u_221_47, u_221_50, u_221_51, u_221_52, u_221_53, u_221_54, u_221_55, u_221_56, u_221_59, u_221_60, u_221_61, u_221_62, u_221_65, u_221_68, u_221_69, u_221_72, u_221_73, u_221_74, u_221_75, u_221_78, u_221_79, u_221_80, u_221_83, u_221_84, u_221_85, u_221_88, u_221_89, u_221_90, u_221_91, u_221_94, u_221_95, u_221_96, u_221_99, u_221_100, u_221_101, u_221_102, u_221_103, u_221_104, u_221_105, u_221_106, u_221_107, u_221_108, u_221_109, u_221_110, u_221_111, u_221_112, u_221_113, u_221_116, u_221_117, u_221_120, u_221_121, u_221_122, u_221_125, u_221_126, u_221_127, u_221_128, u_221_129, u_221_130, u_221_133, u_221_136, gI0, gIs, gR0, gRs, gF0, gFs, st0, st_i, st_r, st_f, st_n, st_s, true_and, and_true, ↓ifLeT, ↓ifLeF, ↓ifLtT, ↓ifLtF, ↓ifEqT, ↓ifEqF, if_tt, if_ff, if_pos, if_neg, nLe, nLt, nEq, nInT, nCl, pk_mul, nI_add, Nat.reduceAdd, s_cat_nil, s_cat_i, s_cat_r, s_cat_f, s_cat_l, tl_s, tl_n, cat_i, cat_r, cat_f, nb0, nb1, nbI, if_bI, if_bIr, Nat.zero_le, Nat.reduceLeDiff, M_g0, M_g1, M_g2, M_g3, M_g4, M_g5, M_g6, M_g7, M_g8, M_g9, M_g10, M_g11, M_g12, M_g13, M_g14, M_g15, M_g16, M_g17, M_g18, M_g19, M_g20, M_g21, M_g22, M_g23, M_g24, M_g25, M_g26, M_g27, M_g28, M_g29, M_g30, M_g31, M_g32, M_g33, M_g34, M_g35, M_g36, M_g37, M_g38, M_g39, M_g40, M_g41, M_r rb320, M_r rb330, m_cAt, c1, r1, bk, iBt, nI10, reduceIte]
            exact K m1 f1 r3 hm1
          | false =>
            rw [hk] at bk
            simp only [hk, Bool.false_eq_true, if_false, List.range'_succ, List.flatMap_cons, pick_app] at K
            have bt := i_bit (m := X) (c := t) (by omega) (by omega)
            have nxt : ∀ m2 g2, frT m m2 → RR (kA m2 330) (jL n l) → MF m2 (nF n 2) g2 → g2 = pickN n (if X.testBit t && nLift n c t then enN n f c (rmvF (fun t => X.testBit t) t) (appF l c t) else []) g1 → WP (d + f + 12) 221 27 [.ref 317, .int (nI c), .int (nI X), .int (nI (t + 1))] [] (pM m2 h) (0, 0) Q := fun m2 g2 f2 r2 hm2 eg => by
              refine ihq (t + 1) m2 g2 (by omega) f2 r2 hm2 fun m' f' r' hm' => K m' f' r' ?_
              simp only [hk, Bool.false_eq_true, if_false] at hm'
              rw [← eg]
              exact hm'
            cases hb : X.testBit t with
            | false =>
              rw [hb] at bt
              have bt : _ = nI 0 := bt
              simp (disch := omega) only [u_221_0, u_221_1, u_221_2, u_221_5, u_221_8, u_221_9, u_221_12, u_221_13, u_221_16, u_221_17, u_221_18, u_221_19, u_221_20, u_221_21, u_221_22, u_221_25, u_221_26, u_221_28, u_221_29, u_221_32, u_221_33, u_221_34, u_221_37, u_221_38, u_221_41, u_221_42, u_221_43, u_221_46, u_221_47, u_221_50, u_221_51, u_221_52, u_221_53, u_221_54, u_221_55, u_221_56, u_221_59, u_221_60, u_221_61, u_221_62, u_221_65, u_221_68, u_221_69, u_221_72, u_221_73, u_221_74, u_221_75, u_221_78, u_221_79, u_221_80, u_221_83, u_221_84, u_221_85, u_221_88, u_221_89, u_221_90, u_221_91, u_221_94, u_221_95, u_221_96, u_221_99, u_221_100, u_221_101, u_221_102, u_221_103, u_221_104, u_221_105, u_221_106, u_221_107, u_221_108, u_221_109, u_221_110, u_221_111, u_221_112, u_221_113, u_221_116, u_221_117, u_221_120, u_221_121, u_221_122, u_221_125, u_221_126, u_221_127, u_221_128, u_221_129, u_221_130, u_221_133, u_221_136, gI0, gIs, gR0, gRs, gF0, gFs, st0, st_i, st_r, st_f, st_n, st_s, true_and, and_true, ↓ifLeT, ↓ifLeF, ↓ifLtT, ↓ifLtF, ↓ifEqT, ↓ifEqF, if_tt, if_ff, if_pos, if_neg, nLe, nLt, nEq, nInT, nCl, pk_mul, nI_add, Nat.reduceAdd, s_cat_nil, s_cat_i, s_cat_r, s_cat_f, s_cat_l, tl_s, tl_n, cat_i, cat_r, cat_f, nb0, nb1, nbI, if_bI, if_bIr, Nat.zero_le, Nat.reduceLeDiff, M_g0, M_g1, M_g2, M_g3, M_g4, M_g5, M_g6, M_g7, M_g8, M_g9, M_g10, M_g11, M_g12, M_g13, M_g14, M_g15, M_g16, M_g17, M_g18, M_g19, M_g20, M_g21, M_g22, M_g23, M_g24, M_g25, M_g26, M_g27, M_g28, M_g29, M_g30, M_g31, M_g32, M_g33, M_g34, M_g35, M_g36, M_g37, M_g38, M_g39, M_g40, M_g41, M_r rb320, M_r rb330, m_cAt, c1, r1, bk, iBf, bt]
              exact nxt m1 g1 f1 r3 hm1 (by rw [hb]; rfl)
            | true =>
              rw [hb] at bt
              have bt : _ = nI 1 := bt
              have e1 := fun Q => r_lift (d := d + f + 10) (h := h) (Q := Q) (c := c) (t := t) hn0 hg01 hr1 (by rw [← hF]; exact hcC) (by rw [← hF]; omega)
              rw [← hL] at e1
              cases hl : nLift n c t with
              | false =>
                rw [hl] at e1
                simp (disch := omega) only [u_221_0, u_221_1, u_221_2, u_221_5, u_221_8, u_221_9, u_221_12, u_221_13, u_221_16, u_221_17, u_221_18, u_221_19, u_221_20, u_221_21, u_221_22, u_221_25, u_221_26, u_221_28, u_221_29, u_221_32, u_221_33, u_221_34, u_221_37, u_221_38, u_221_41, u_221_42, u_221_43, u_221_46, u_221_47, u_221_50, u_221_51, u_221_52, u_221_53, u_221_54, u_221_55, u_221_56, u_221_59, u_221_60, u_221_61, u_221_62, u_221_65, u_221_68, u_221_69, u_221_72, u_221_73, u_221_74, u_221_75, u_221_78, u_221_79, u_221_80, u_221_83, u_221_84, u_221_85, u_221_88, u_221_89, u_221_90, u_221_91, u_221_94, u_221_95, u_221_96, u_221_99, u_221_100, u_221_101, u_221_102, u_221_103, u_221_104, u_221_105, u_221_106, u_221_107, u_221_108, u_221_109, u_221_110, u_221_111, u_221_112, u_221_113, u_221_116, u_221_117, u_221_120, u_221_121, u_221_122, u_221_125, u_221_126, u_221_127, u_221_128, u_221_129, u_221_130, u_221_133, u_221_136, gI0, gIs, gR0, gRs, gF0, gFs, st0, st_i, st_r, st_f, st_n, st_s, true_and, and_true, ↓ifLeT, ↓ifLeF, ↓ifLtT, ↓ifLtF, ↓ifEqT, ↓ifEqF, if_tt, if_ff, if_pos, if_neg, nLe, nLt, nEq, nInT, nCl, pk_mul, nI_add, Nat.reduceAdd, s_cat_nil, s_cat_i, s_cat_r, s_cat_f, s_cat_l, tl_s, tl_n, cat_i, cat_r, cat_f, nb0, nb1, nbI, if_bI, if_bIr, Nat.zero_le, Nat.reduceLeDiff, M_ob, M_g0, M_g1, M_g2, M_g3, M_g4, M_g5, M_g6, M_g7, M_g8, M_g9, M_g10, M_g11, M_g12, M_g13, M_g14, M_g15, M_g16, M_g17, M_g18, M_g19, M_g20, M_g21, M_g22, M_g23, M_g24, M_g25, M_g26, M_g27, M_g28, M_g29, M_g30, M_g31, M_g32, M_g33, M_g34, M_g35, M_g36, M_g37, M_g38, M_g39, M_g40, M_g41, M_r rb320, M_r rb330, m_cAt, c1, r1, bk, iBf, bt, e1]
                exact nxt m1 g1 f1 r3 hm1 (by rw [hb, hl]; rfl)
              | true =>
                rw [hl] at e1
                have ha := invE_app hi hcC hb
                have l82 : ∀ q, (appF l c t q).length ≤ 8 := fun q => wfL_len (n := jL n (appF l c t)) hn.1 ha.1 q
                have l7 : (l c).length ≤ 7 := by
                  have := l82 c
                  rw [app_at, List.length_append] at this
                  have : (l c).length + 1 ≤ 8 := this
                  omega
                have ra := RR_app (t := t) h4 l8 l7 hcC r3
                have eL : nI X &&& ((nI 1 <<< (nI t &&& 31)) ^^^ (-1)) = nI (andn X (2 ^ t)) := by
                  rw [i_shl1 (by omega), i_andn (by omega)]
                have un : upd (kA m1 330) (2 + 12 * c + (4 + (l c).length)) (nI t) (2 + 12 * c + 3) = nI (l c).length := by
                  rw [upd_ne (by omega)]; exact ln
                have rm := rmv_X (X := X) (t := t) hX (by omega)
                have cn := cnt_rm (left := fun u => X.testBit u) hb 8 (by omega)
                rw [rm] at cn
                have cn : sumN (fun u => ((andn X (2 ^ t)).testBit u).toNat) 8 + 1 = sumN (fun u => (X.testBit u).toNat) 8 := cn
                simp (disch := omega) only [u_221_0, u_221_1, u_221_2, u_221_5, u_221_8, u_221_9, u_221_12, u_221_13, u_221_16, u_221_17, u_221_18, u_221_19, u_221_20, u_221_21, u_221_22, u_221_25, u_221_26, u_221_28, u_221_29, u_221_32, u_221_33, u_221_34, u_221_37, u_221_38, u_221_41, u_221_42, u_221_43, u_221_46, u_221_47, u_221_50, u_221_51, u_221_52, u_221_53, u_221_54, u_221_55, u_221_56, u_221_59, u_221_60, u_221_61, u_221_62, u_221_65, u_221_68, u_221_69, u_221_72, u_221_73, u_221_74, u_221_75, u_221_78, u_221_79, u_221_80, u_221_83, u_221_84, u_221_85, u_221_88, u_221_89, u_221_90, u_221_91, u_221_94, u_221_95, u_221_96, u_221_99, u_221_100, u_221_101, u_221_102, u_221_103, u_221_104, u_221_105, u_221_106, u_221_107, u_221_108, u_221_109, u_221_110, u_221_111, u_221_112, u_221_113, u_221_116, u_221_117, u_221_120, u_221_121, u_221_122, u_221_125, u_221_126, u_221_127, u_221_128, u_221_129, u_221_130, u_221_133, u_221_136, gI0, gIs, gR0, gRs, gF0, gFs, st0, st_i, st_r, st_f, st_n, st_s, true_and, and_true, ↓ifLeT, ↓ifLeF, ↓ifLtT, ↓ifLtF, ↓ifEqT, ↓ifEqF, if_tt, if_ff, if_pos, if_neg, nLe, nLt, nEq, nInT, nCl, pk_mul, nI_add, Nat.reduceAdd, s_cat_nil, s_cat_i, s_cat_r, s_cat_f, s_cat_l, tl_s, tl_n, cat_i, cat_r, cat_f, nb0, nb1, nbI, if_bI, if_bIr, Nat.zero_le, Nat.reduceLeDiff, M_ob, M_g0, M_g1, M_g2, M_g3, M_g4, M_g5, M_g6, M_g7, M_g8, M_g9, M_g10, M_g11, M_g12, M_g13, M_g14, M_g15, M_g16, M_g17, M_g18, M_g19, M_g20, M_g21, M_g22, M_g23, M_g24, M_g25, M_g26, M_g27, M_g28, M_g29, M_g30, M_g31, M_g32, M_g33, M_g34, M_g35, M_g36, M_g37, M_g38, M_g39, M_g40, M_g41, M_r rb320, M_r rb330, M_rw rb330, m_cAt, c1, r1, bk, iBf, iBt, nI10, reduceIte, bt, e1, ln, kA_eq, xA_tw, un, eL]
                refine ih c (andn X (2 ^ t)) (appF l c t) g1 _ d _ (by omega) hc (andn_256 hX) (rm ▸ ha) (MG_T hg1 frT_330) (MG_T hg01 frT_330) (RR_T hr1 frT_330) (by rw [kA_eq]; exact ra) (MF_fr hm1 rfl (kA_ne (by decide))) fun m2 f2 r2 hm2 => ?_
                have ln2 : kA m2 330 (2 + 12 * c + 3) = nI ((l c).length + 1) := by
                  have := (r2.2.2.1 c hcC).2.2.2.1
                  have e : nL (jL n (appF l c t)) c = l c ++ [t] := app_at
                  rw [e, List.length_append] at this
                  exact this
                have sb : nI ((l c).length + 1) - nI 1 = nI (l c).length := by rw [pk_sub (by omega)]; rfl
                simp (disch := omega) only [u_221_0, u_221_1, u_221_2, u_221_5, u_221_8, u_221_9, u_221_12, u_221_13, u_221_16, u_221_17, u_221_18, u_221_19, u_221_20, u_221_21, u_221_22, u_221_25, u_221_26, u_221_28, u_221_29, u_221_32, u_221_33, u_221_34, u_221_37, u_221_38, u_221_41, u_221_42, u_221_43, u_221_46, u_221_47, u_221_50, u_221_51, u_221_52, u_221_53, u_221_54, u_221_55, u_221_56, u_221_59, u_221_60, u_221_61, u_221_62, u_221_65, u_221_68, u_221_69, u_221_72, u_221_73, u_221_74, u_221_75, u_221_78, u_221_79, u_221_80, u_221_83, u_221_84, u_221_85, u_221_88, u_221_89, u_221_90, u_221_91, u_221_94, u_221_95, u_221_96, u_221_99, u_221_100, u_221_101, u_221_102, u_221_103, u_221_104, u_221_105, u_221_106, u_221_107, u_221_108, u_221_109, u_221_110, u_221_111, u_221_112, u_221_113, u_221_116, u_221_117, u_221_120, u_221_121, u_221_122, u_221_125, u_221_126, u_221_127, u_221_128, u_221_129, u_221_130, u_221_133, u_221_136, gI0, gIs, gR0, gRs, gF0, gFs, st0, st_i, st_r, st_f, st_n, st_s, true_and, and_true, ↓ifLeT, ↓ifLeF, ↓ifLtT, ↓ifLtF, ↓ifEqT, ↓ifEqF, if_tt, if_ff, if_pos, if_neg, nLe, nLt, nEq, nInT, nCl, pk_mul, nI_add, Nat.reduceAdd, s_cat_nil, s_cat_i, s_cat_r, s_cat_f, s_cat_l, tl_s, tl_n, cat_i, cat_r, cat_f, nb0, nb1, nbI, if_bI, if_bIr, Nat.zero_le, Nat.reduceLeDiff, M_g0, M_g1, M_g2, M_g3, M_g4, M_g5, M_g6, M_g7, M_g8, M_g9, M_g10, M_g11, M_g12, M_g13, M_g14, M_g15, M_g16, M_g17, M_g18, M_g19, M_g20, M_g21, M_g22, M_g23, M_g24, M_g25, M_g26, M_g27, M_g28, M_g29, M_g30, M_g31, M_g32, M_g33, M_g34, M_g35, M_g36, M_g37, M_g38, M_g39, M_g40, M_g41, M_r rb330, M_rw rb330, m_cAt, ln2, sb]
                refine nxt _ _ (frT_t f1 (frT_t frT_330 (frT_t f2 frT_330))) (by rw [kA_eq]; exact RR_drp h4 l82 hcC r2) (MF_fr hm2 rfl (kA_ne (by decide))) ?_
                rw [hb, hl, rm]
                rfl
      simp (disch := omega) only [u_221_0, u_221_1, u_221_2, u_221_5, u_221_8, u_221_9, u_221_12, u_221_13, u_221_16, u_221_17, u_221_18, u_221_19, u_221_20, u_221_21, u_221_22, u_221_25, u_221_26, gI0, gIs, gR0, gRs, gF0, gFs, st0, st_i, st_r, st_f, st_n, st_s, true_and, and_true, ↓ifLeT, ↓ifLeF, ↓ifLtT, ↓ifLtF, ↓ifEqT, ↓ifEqF, if_tt, if_ff, if_pos, if_neg, nLe, nLt, nEq, nInT, nCl, pk_mul, nI_add, Nat.reduceAdd, s_cat_nil, s_cat_i, s_cat_r, s_cat_f, s_cat_l, tl_s, tl_n, cat_i, cat_r, cat_f, nb0, nb1, nbI, if_bI, if_bIr, Nat.zero_le, Nat.reduceLeDiff, M_ob, M_g0, M_g1, M_g2, M_g3, M_g4, M_g5, M_g6, M_g7, M_g8, M_g9, M_g10, M_g11, M_g12, M_g13, M_g14, M_g15, M_g16, M_g17, M_g18, M_g19, M_g20, M_g21, M_g22, M_g23, M_g24, M_g25, M_g26, M_g27, M_g28, M_g29, M_g30, M_g31, M_g32, M_g33, M_g34, M_g35, M_g36, M_g37, M_g38, M_g39, M_g40, M_g41, g10, nc]
      refine ih (c + 1) X l g m d _ (by omega) (by omega) hX (invE_next hi) hg hg0 hr hr3 hm fun m1 f1 r1 hm1 => ?_
      simp (disch := omega) only [u_221_0, u_221_1, u_221_2, u_221_5, u_221_8, u_221_9, u_221_12, u_221_13, u_221_16, u_221_17, u_221_18, u_221_19, u_221_20, u_221_21, u_221_22, u_221_25, u_221_26, gI0, gIs, gR0, gRs, gF0, gFs, st0, st_i, st_r, st_f, st_n, st_s, true_and, and_true, ↓ifLeT, ↓ifLeF, ↓ifLtT, ↓ifLtF, ↓ifEqT, ↓ifEqF, if_tt, if_ff, if_pos, if_neg, nLe, nLt, nEq, nInT, nCl, pk_mul, nI_add, Nat.reduceAdd, s_cat_nil, s_cat_i, s_cat_r, s_cat_f, s_cat_l, tl_s, tl_n, cat_i, cat_r, cat_f, nb0, nb1, nbI, if_bI, if_bIr, Nat.zero_le, Nat.reduceLeDiff]
      exact lp (nF n 3) 0 m1 _ (Nat.zero_add _) f1 r1 hm1 K
end MSE
