/-! the class's calls: BETTER, FOLLOW, most, end, feed -/
section Q7
variable {b d : Nat} {s s' : tS} {h : sH} {i x w c t m : Int32} {Q : sQ} {z : tQ} {n n' : tN} {y y' : tY}
theorem C_hold (hb : cb b) (hs : okS (eP (SO s b))) : MT (d + 2) 26 [.ref (b + 1), .int w] (pS s h) Q ↔ Q (some (.int (holdP (eP (SO s b)) w))) (pS s h) := tl_Ch hb fun h Q => Ch_holder hs
theorem C_spot (hb : cb b) (hs : okS (eP (SO s b))) : MT (d + 2) 27 [.ref (b + 1), .int w] (pS s h) Q ↔ Q (some (.int (spotP (eP (SO s b)) w))) (pS s h) := tl_Ch hb fun h Q => Ch_spot hs
theorem CP_ob (hb : cb b) {q : Nat} : (oO (pS s h) (b + 1) fun c' _ => c' = q) ↔ 3 = q := P'_ob (isP_CS hb)
theorem q_better (hI : IC s z) (K : ∀ s', IC s' z → Q (some (.int (zbetter z w))) (pS s' h)) : MT (d + 9) 111 [.ref 0, .int w] (pS s h) Q := by
  rw [MT_go (by decide) _ _ _ (Nat.le_of_ble_eq_true rfl), show s_entry 111 [.ref 0, .int w] = [.ref 0, .int w] from rfl]
  have e0 := fun Q => q_has (d := d + 7) (h := h) (Q := Q) hI
  unfold zbetter at K
  cases hq : zQ z with
  | none =>
    simp only [hq] at K
    simp (disch := omega) only [u_111_0, u_111_1, u_111_4, u_111_7, u_111_8, u_111_11, u_111_12, u_111_13, u_111_16, u_111_18, u_111_19, u_111_20, u_111_23, u_111_24, u_111_27, u_111_28, u_111_31, u_111_34, u_111_35, u_111_38, u_111_41, u_111_42, u_111_45, u_111_48, u_111_49, u_111_52, u_111_53, u_111_54, u_111_55, u_111_80, u_111_81, u_111_84, u_111_87, u_111_88, u_111_89, u_111_92, u_111_95, u_111_96, u_111_97, u_111_100, u_111_103, u_111_104, u_111_107, u_111_110, u_111_113, u_111_114, u_111_115, u_111_118, u_111_121, u_111_122, u_111_125, u_111_128, u_111_131, gI0, gIs, gR0, gRs, gF0, gFs, st0, st_i, st_r, st_f, st_n, st_s, true_and, and_true, ↓ifLeT, ↓ifLeF, ↓ifLtT, ↓ifLtF, ↓ifEqT, ↓ifEqF, if_tt, if_ff, if_pos, if_neg, nLe, nLt, nEq, nInT, nCl, pk_mul, nI_add, Nat.reduceAdd, s_cat_nil, s_cat_i, s_cat_r, s_cat_f, s_cat_l, tl_s, tl_n, cat_i, cat_r, cat_f, nb0, nb1, nbI, if_bI, if_bIr, Nat.zero_le, Nat.reduceLeDiff, S_ob0, e0, hq, Option.isSome, iBf]
    exact K s hI
  | some n =>
    simp only [hq] at K
    obtain ⟨hy, hok⟩ := IC_y hI hq
    have h8 := hok.1.1.2.1
    cases h1 : ixN w 4 with
    | none =>
      simp only [h1] at K
      rcases ix_out (by decide) (by decide) h1 with a | ⟨a, -, -, b1, b2⟩
      · simp (disch := omega) only [u_111_0, u_111_1, u_111_4, u_111_7, u_111_8, u_111_11, u_111_12, u_111_13, u_111_16, u_111_18, u_111_19, u_111_20, u_111_23, u_111_24, u_111_27, u_111_28, u_111_31, u_111_34, u_111_35, u_111_38, u_111_41, u_111_42, u_111_45, u_111_48, u_111_49, u_111_52, u_111_53, u_111_54, u_111_55, u_111_80, u_111_81, u_111_84, u_111_87, u_111_88, u_111_89, u_111_92, u_111_95, u_111_96, u_111_97, u_111_100, u_111_103, u_111_104, u_111_107, u_111_110, u_111_113, u_111_114, u_111_115, u_111_118, u_111_121, u_111_122, u_111_125, u_111_128, u_111_131, gI0, gIs, gR0, gRs, gF0, gFs, st0, st_i, st_r, st_f, st_n, st_s, true_and, and_true, ↓ifLeT, ↓ifLeF, ↓ifLtT, ↓ifLtF, ↓ifEqT, ↓ifEqF, if_tt, if_ff, if_pos, if_neg, nLe, nLt, nEq, nInT, nCl, pk_mul, nI_add, Nat.reduceAdd, s_cat_nil, s_cat_i, s_cat_r, s_cat_f, s_cat_l, tl_s, tl_n, cat_i, cat_r, cat_f, nb0, nb1, nbI, if_bI, if_bIr, Nat.zero_le, Nat.reduceLeDiff, S_ob0, e0, hq, Option.isSome, iBt, nI10, reduceIte, a]
        exact K s hI
      · have b2 : ¬ w ≤ nI 3 := b2
        simp (disch := omega) only [u_111_0, u_111_1, u_111_4, u_111_7, u_111_8, u_111_11, u_111_12, u_111_13, u_111_16, u_111_18, u_111_19, u_111_20, u_111_23, u_111_24, u_111_27, u_111_28, u_111_31, u_111_34, u_111_35, u_111_38, u_111_41, u_111_42, u_111_45, u_111_48, u_111_49, u_111_52, u_111_53, u_111_54, u_111_55, u_111_80, u_111_81, u_111_84, u_111_87, u_111_88, u_111_89, u_111_92, u_111_95, u_111_96, u_111_97, u_111_100, u_111_103, u_111_104, u_111_107, u_111_110, u_111_113, u_111_114, u_111_115, u_111_118, u_111_121, u_111_122, u_111_125, u_111_128, u_111_131, gI0, gIs, gR0, gRs, gF0, gFs, st0, st_i, st_r, st_f, st_n, st_s, true_and, and_true, ↓ifLeT, ↓ifLeF, ↓ifLtT, ↓ifLtF, ↓ifEqT, ↓ifEqF, if_tt, if_ff, if_pos, if_neg, nLe, nLt, nEq, nInT, nCl, pk_mul, nI_add, Nat.reduceAdd, s_cat_nil, s_cat_i, s_cat_r, s_cat_f, s_cat_l, tl_s, tl_n, cat_i, cat_r, cat_f, nb0, nb1, nbI, if_bI, if_bIr, Nat.zero_le, Nat.reduceLeDiff, S_ob0, e0, hq, Option.isSome, iBt, nI10, reduceIte, a, b2]
        exact K s hI
    | some k =>
      simp only [h1] at K
      obtain ⟨k1, rfl⟩ := ix_some (by omega) h1
      simp (disch := omega) only [u_111_0, u_111_1, u_111_4, u_111_7, u_111_8, u_111_11, u_111_12, u_111_13, u_111_16, u_111_18, u_111_19, u_111_20, u_111_23, u_111_24, u_111_27, u_111_28, u_111_31, u_111_34, u_111_35, u_111_38, u_111_41, u_111_42, u_111_45, u_111_48, u_111_49, u_111_52, u_111_53, u_111_54, u_111_55, u_111_80, u_111_81, u_111_84, u_111_87, u_111_88, u_111_89, u_111_92, u_111_95, u_111_96, u_111_97, u_111_100, u_111_103, u_111_104, u_111_107, u_111_110, u_111_113, u_111_114, u_111_115, u_111_118, u_111_121, u_111_122, u_111_125, u_111_128, u_111_131, gI0, gIs, gR0, gRs, gF0, gFs, st0, st_i, st_r, st_f, st_n, st_s, true_and, and_true, ↓ifLeT, ↓ifLeF, ↓ifLtT, ↓ifLtF, ↓ifEqT, ↓ifEqF, if_tt, if_ff, if_pos, if_neg, nLe, nLt, nEq, nInT, nCl, pk_mul, nI_add, Nat.reduceAdd, s_cat_nil, s_cat_i, s_cat_r, s_cat_f, s_cat_l, tl_s, tl_n, cat_i, cat_r, cat_f, nb0, nb1, nbI, if_bI, if_bIr, Nat.zero_le, Nat.reduceLeDiff, S_ob0, S_g0_0, S_g0_1, S_g0_2, S_g0_3, S_g0_4, S_g0_5, S_g0_6, S_g0_7, S_g0_8, S_g0_9, S_g0_10, S_g0_11, S_g0_12, S_g0_13, S_g0_14, S_g1_0, S_g1_1, S_g1_2, S_g1_3, S_g1_4, S_g72_0, S_g72_1, S_g72_2, S_g239_0, S_g239_1, S_g239_2, S_g239_3, S_g239_4, S_g239_5, S_g239_6, S_a23, S_n23, S_a282, S_n282, S_a300, S_n300, S_n73, S_n299, e0, hq, Option.isSome, iBt, nI10, reduceIte]
      refine q_ahead (d := d + 4) hI hq fun s' hI' hc => ?_
      have hl := hc.2.2.2
      unfold cuD at hl
      rw [← over_last] at hl
      simp (disch := omega) only [u_111_0, u_111_1, u_111_4, u_111_7, u_111_8, u_111_11, u_111_12, u_111_13, u_111_16, u_111_18, u_111_19, u_111_20, u_111_23, u_111_24, u_111_27, u_111_28, u_111_31, u_111_34, u_111_35, u_111_38, u_111_41, u_111_42, u_111_45, u_111_48, u_111_49, u_111_52, u_111_53, u_111_54, u_111_55, u_111_80, u_111_81, u_111_84, u_111_87, u_111_88, u_111_89, u_111_92, u_111_95, u_111_96, u_111_97, u_111_100, u_111_103, u_111_104, u_111_107, u_111_110, u_111_113, u_111_114, u_111_115, u_111_118, u_111_121, u_111_122, u_111_125, u_111_128, u_111_131, gI0, gIs, gR0, gRs, gF0, gFs, st0, st_i, st_r, st_f, st_n, st_s, true_and, and_true, ↓ifLeT, ↓ifLeF, ↓ifLtT, ↓ifLtF, ↓ifEqT, ↓ifEqF, if_tt, if_ff, if_pos, if_neg, nLe, nLt, nEq, nInT, nCl, pk_mul, nI_add, Nat.reduceAdd, s_cat_nil, s_cat_i, s_cat_r, s_cat_f, s_cat_l, tl_s, tl_n, cat_i, cat_r, cat_f, nb0, nb1, nbI, if_bI, if_bIr, Nat.zero_le, Nat.reduceLeDiff, S_ob0, S_ob239, S_g0_0, S_g0_1, S_g0_2, S_g0_3, S_g0_4, S_g0_5, S_g0_6, S_g0_7, S_g0_8, S_g0_9, S_g0_10, S_g0_11, S_g0_12, S_g0_13, S_g0_14, S_g1_0, S_g1_1, S_g1_2, S_g1_3, S_g1_4, S_g72_0, S_g72_1, S_g72_2, S_g239_0, S_g239_1, S_g239_2, S_g239_3, S_g239_4, S_g239_5, S_g239_6, S_a23, S_n23, S_a282, S_n282, S_a300, S_n300, S_n73, S_n299, K_g4, hl]
      refine f_better (d := d) hI' hq fun s2 hI2 hr => ?_
      cases hb : (betterN n).2 with
      | none =>
        rw [hb] at hr
        have hr : eI (SO s2 295) 2 = -1 := hr
        simp only [hb] at K
        simp (disch := omega) only [u_111_0, u_111_1, u_111_4, u_111_7, u_111_8, u_111_11, u_111_12, u_111_13, u_111_16, u_111_18, u_111_19, u_111_20, u_111_23, u_111_24, u_111_27, u_111_28, u_111_31, u_111_34, u_111_35, u_111_38, u_111_41, u_111_42, u_111_45, u_111_48, u_111_49, u_111_52, u_111_53, u_111_54, u_111_55, u_111_80, u_111_81, u_111_84, u_111_87, u_111_88, u_111_89, u_111_92, u_111_95, u_111_96, u_111_97, u_111_100, u_111_103, u_111_104, u_111_107, u_111_110, u_111_113, u_111_114, u_111_115, u_111_118, u_111_121, u_111_122, u_111_125, u_111_128, u_111_131, gI0, gIs, gR0, gRs, gF0, gFs, st0, st_i, st_r, st_f, st_n, st_s, true_and, and_true, ↓ifLeT, ↓ifLeF, ↓ifLtT, ↓ifLtF, ↓ifEqT, ↓ifEqF, if_tt, if_ff, if_pos, if_neg, nLe, nLt, nEq, nInT, nCl, pk_mul, nI_add, Nat.reduceAdd, s_cat_nil, s_cat_i, s_cat_r, s_cat_f, s_cat_l, tl_s, tl_n, cat_i, cat_r, cat_f, nb0, nb1, nbI, if_bI, if_bIr, Nat.zero_le, Nat.reduceLeDiff, S_g0_0, S_g0_1, S_g0_2, S_g0_3, S_g0_4, S_g0_5, S_g0_6, S_g0_7, S_g0_8, S_g0_9, S_g0_10, S_g0_11, S_g0_12, S_g0_13, S_g0_14, S_g1_0, S_g1_1, S_g1_2, S_g1_3, S_g1_4, S_g72_0, S_g72_1, S_g72_2, S_g239_0, S_g239_1, S_g239_2, S_g239_3, S_g239_4, S_g239_5, S_g239_6, S_a23, S_n23, S_a282, S_n282, S_a300, S_n300, S_n73, S_n299, C_g2 cb295, hr]
        exact K s2 hI2
      | some v =>
        obtain ⟨m, l, t⟩ := v
        rw [hb] at hr
        obtain ⟨r1, r2, r3, r4⟩ := hr
        simp only [hb] at K
        obtain ⟨w1, w2⟩ := better_wf hok.1 hb
        obtain ⟨l1, l2⟩ := wl_31 hok.1 w1
        have hm : ¬ nI m = -1 := m1_ne (by omega)
        have e3 := fun w Q => C_hold (d := d + 6) (s := s2) (h := h) (w := w) (Q := Q) cb295 (ok_RP r3 l2)
        have e4 := fun w Q => C_spot (d := d + 6) (s := s2) (h := h) (w := w) (Q := Q) cb295 (ok_RP r3 l2)
        have ob : ∀ q : Nat, (oO (pS s2 h) (295 + 1) fun c' _ => c' = q) ↔ 3 = q := fun q => CP_ob cb295
        match k, k1 with
        | 0, _ | 1, _ | 2, _ | 3, _ =>
          simp (disch := omega) only [u_111_0, u_111_1, u_111_4, u_111_7, u_111_8, u_111_11, u_111_12, u_111_13, u_111_16, u_111_18, u_111_19, u_111_20, u_111_23, u_111_24, u_111_27, u_111_28, u_111_31, u_111_34, u_111_35, u_111_38, u_111_41, u_111_42, u_111_45, u_111_48, u_111_49, u_111_52, u_111_53, u_111_54, u_111_55, u_111_80, u_111_81, u_111_84, u_111_87, u_111_88, u_111_89, u_111_92, u_111_95, u_111_96, u_111_97, u_111_100, u_111_103, u_111_104, u_111_107, u_111_110, u_111_113, u_111_114, u_111_115, u_111_118, u_111_121, u_111_122, u_111_125, u_111_128, u_111_131, gI0, gIs, gR0, gRs, gF0, gFs, st0, st_i, st_r, st_f, st_n, st_s, true_and, and_true, ↓ifLeT, ↓ifLeF, ↓ifLtT, ↓ifLtF, ↓ifEqT, ↓ifEqF, if_tt, if_ff, if_pos, if_neg, nLe, nLt, nEq, nInT, nCl, pk_mul, nI_add, Nat.reduceAdd, s_cat_nil, s_cat_i, s_cat_r, s_cat_f, s_cat_l, tl_s, tl_n, cat_i, cat_r, cat_f, nb0, nb1, nbI, if_bI, if_bIr, Nat.zero_le, Nat.reduceLeDiff, S_g0_0, S_g0_1, S_g0_2, S_g0_3, S_g0_4, S_g0_5, S_g0_6, S_g0_7, S_g0_8, S_g0_9, S_g0_10, S_g0_11, S_g0_12, S_g0_13, S_g0_14, S_g1_0, S_g1_1, S_g1_2, S_g1_3, S_g1_4, S_g72_0, S_g72_1, S_g72_2, S_g239_0, S_g239_1, S_g239_2, S_g239_3, S_g239_4, S_g239_5, S_g239_6, S_a23, S_n23, S_a282, S_n282, S_a300, S_n300, S_n73, S_n299, C_g2 cb295, C_g3 cb295, C_g0 cb295, r1, r4, hm, reduceIte, swt_c, swt_n, ob, e3, e4, hold_rel r3 l1 l2, spot_rel r3 l1 l2]
          exact K s2 hI2
theorem RB_F {o : tO} {r : Option (Nat × tL × Nat)} (h : RB o r) : RF o (r.map fun x => (x.1, x.2.1)) := by
  cases r with
  | none => exact h
  | some v => obtain ⟨m, l, t⟩ := v; exact ⟨h.1, h.2.1, h.2.2.1⟩
def folA (z : tQ) (n : tN) (r : Option (Nat × tL)) : Int32 × tQ := match r with
  | none => (-1, refZ z 1)
  | some (_, l) => (oI1 (lastN 300 (jL n l)), actZ z n (jL n l))
theorem follow_t {k : Nat} {v1 : Value} (hb : cb b) (hI : IC s z) (hq : zQ z = some n) (hr : RF (SO s b) (foundN n k)) (K : ∀ s', IC s' (folA z n (foundN n k)).2 → Q (some (.int (folA z n (foundN n k)).1)) (pS s' h)) : WP (d + 4) 112 185 [.ref 0, v1, .ref b] [] (pS s h) (0, 0) Q := by
  obtain ⟨hy, hok⟩ := IC_y hI hq
  cases hf : foundN n k with
  | none =>
    rw [hf] at hr K
    have hr : eI (SO s b) 2 = -1 := hr
    simp (disch := omega) only [u_112_0, u_112_1, u_112_4, u_112_7, u_112_8, u_112_9, u_112_12, u_112_13, u_112_14, u_112_17, u_112_18, u_112_19, u_112_22, u_112_23, u_112_24, u_112_27, u_112_28, u_112_31, u_112_34, u_112_35, u_112_36, u_112_39, u_112_40, u_112_41, u_112_44, u_112_45, u_112_48, u_112_51, u_112_52, u_112_53, u_112_56, u_112_57, u_112_60, u_112_63, u_112_64, u_112_65, u_112_68, u_112_69, u_112_72, u_112_75, u_112_76, u_112_79, u_112_80, u_112_81, u_112_108, u_112_109, u_112_112, u_112_113, u_112_116, u_112_117, u_112_120, u_112_123, u_112_126, u_112_127, u_112_130, u_112_131, u_112_134, u_112_135, u_112_138, u_112_141, u_112_144, u_112_145, u_112_148, u_112_149, u_112_152, u_112_153, u_112_154, u_112_157, u_112_160, u_112_163, u_112_164, u_112_167, u_112_168, u_112_171, u_112_172, u_112_175, u_112_178, u_112_179, u_112_182, u_112_185, u_112_186, u_112_189, u_112_190, u_112_193, u_112_194, u_112_195, u_112_198, u_112_199, u_112_200, u_112_203, u_112_204, u_112_207, u_112_210, u_112_211, u_112_214, u_112_217, u_112_218, u_112_221, u_112_224, u_112_225, u_112_228, u_112_229, u_112_232, u_112_235, gI0, gIs, gR0, gRs, gF0, gFs, st0, st_i, st_r, st_f, st_n, st_s, true_and, and_true, ↓ifLeT, ↓ifLeF, ↓ifLtT, ↓ifLtF, ↓ifEqT, ↓ifEqF, if_tt, if_ff, if_pos, if_neg, nLe, nLt, nEq, nInT, nCl, pk_mul, nI_add, Nat.reduceAdd, s_cat_nil, s_cat_i, s_cat_r, s_cat_f, s_cat_l, tl_s, tl_n, cat_i, cat_r, cat_f, nb0, nb1, nbI, if_bI, if_bIr, Nat.zero_le, Nat.reduceLeDiff, S_ob0, C_g2 hb, hr]
    refine q_ref hI (k := 1) (by decide) fun s' hI' => ?_
    simp (disch := omega) only [u_112_0, u_112_1, u_112_4, u_112_7, u_112_8, u_112_9, u_112_12, u_112_13, u_112_14, u_112_17, u_112_18, u_112_19, u_112_22, u_112_23, u_112_24, u_112_27, u_112_28, u_112_31, u_112_34, u_112_35, u_112_36, u_112_39, u_112_40, u_112_41, u_112_44, u_112_45, u_112_48, u_112_51, u_112_52, u_112_53, u_112_56, u_112_57, u_112_60, u_112_63, u_112_64, u_112_65, u_112_68, u_112_69, u_112_72, u_112_75, u_112_76, u_112_79, u_112_80, u_112_81, u_112_108, u_112_109, u_112_112, u_112_113, u_112_116, u_112_117, u_112_120, u_112_123, u_112_126, u_112_127, u_112_130, u_112_131, u_112_134, u_112_135, u_112_138, u_112_141, u_112_144, u_112_145, u_112_148, u_112_149, u_112_152, u_112_153, u_112_154, u_112_157, u_112_160, u_112_163, u_112_164, u_112_167, u_112_168, u_112_171, u_112_172, u_112_175, u_112_178, u_112_179, u_112_182, u_112_185, u_112_186, u_112_189, u_112_190, u_112_193, u_112_194, u_112_195, u_112_198, u_112_199, u_112_200, u_112_203, u_112_204, u_112_207, u_112_210, u_112_211, u_112_214, u_112_217, u_112_218, u_112_221, u_112_224, u_112_225, u_112_228, u_112_229, u_112_232, u_112_235, gI0, gIs, gR0, gRs, gF0, gFs, st0, st_i, st_r, st_f, st_n, st_s, true_and, and_true, ↓ifLeT, ↓ifLeF, ↓ifLtT, ↓ifLtF, ↓ifEqT, ↓ifEqF, if_tt, if_ff, if_pos, if_neg, nLe, nLt, nEq, nInT, nCl, pk_mul, nI_add, Nat.reduceAdd, s_cat_nil, s_cat_i, s_cat_r, s_cat_f, s_cat_l, tl_s, tl_n, cat_i, cat_r, cat_f, nb0, nb1, nbI, if_bI, if_bIr, Nat.zero_le, Nat.reduceLeDiff]
    exact K s' hI'
  | some v =>
    obtain ⟨m, l⟩ := v
    rw [hf] at hr K
    obtain ⟨r1, r2, r3⟩ := hr
    have wf := found_wf hok.1 hok.2.1 hf
    have hm : ¬ nI m = -1 := m1_ne (by omega)
    have ka := kpA_ne (g := SG s)
    have y24 : SY (kpS s 24) 24 = SY s 24 := by rw [SY_kp, if_neg (by omega)]
    have hbb : 24 + 16 ≤ b + 1 := by rcases hb with e | e | e | e | e | ⟨j, hj, e⟩ <;> omega
    have e2 := fun Q => S_copyP (d := d + 3) (s := kpS s 24) (h := h) (Q := Q) (c := b + 1) (q := eP (SO s b)) yb24 (isP_CS (s := kpS s 24) hb) (Or.inl hbb)
    rw [y24] at e2
    have hy' : RY (uP (SY s 24) (eP (SO s b))) (jL n l) := RY_uP hy r3
    have hok' : okQ (jL n l) := ⟨⟨hok.1.1, hok.1.2.1, hok.1.2.2.1, wf⟩, hok.2⟩
    have ob : ∀ q : Nat, (oO (pS (kpS s 24) h) (24 + 13) fun c' _ => c' = q) ↔ 3 = q := fun q => P'_ob (isP_YS yb24)
    simp (disch := omega) only [u_112_0, u_112_1, u_112_4, u_112_7, u_112_8, u_112_9, u_112_12, u_112_13, u_112_14, u_112_17, u_112_18, u_112_19, u_112_22, u_112_23, u_112_24, u_112_27, u_112_28, u_112_31, u_112_34, u_112_35, u_112_36, u_112_39, u_112_40, u_112_41, u_112_44, u_112_45, u_112_48, u_112_51, u_112_52, u_112_53, u_112_56, u_112_57, u_112_60, u_112_63, u_112_64, u_112_65, u_112_68, u_112_69, u_112_72, u_112_75, u_112_76, u_112_79, u_112_80, u_112_81, u_112_108, u_112_109, u_112_112, u_112_113, u_112_116, u_112_117, u_112_120, u_112_123, u_112_126, u_112_127, u_112_130, u_112_131, u_112_134, u_112_135, u_112_138, u_112_141, u_112_144, u_112_145, u_112_148, u_112_149, u_112_152, u_112_153, u_112_154, u_112_157, u_112_160, u_112_163, u_112_164, u_112_167, u_112_168, u_112_171, u_112_172, u_112_175, u_112_178, u_112_179, u_112_182, u_112_185, u_112_186, u_112_189, u_112_190, u_112_193, u_112_194, u_112_195, u_112_198, u_112_199, u_112_200, u_112_203, u_112_204, u_112_207, u_112_210, u_112_211, u_112_214, u_112_217, u_112_218, u_112_221, u_112_224, u_112_225, u_112_228, u_112_229, u_112_232, u_112_235, gI0, gIs, gR0, gRs, gF0, gFs, st0, st_i, st_r, st_f, st_n, st_s, true_and, and_true, ↓ifLeT, ↓ifLeF, ↓ifLtT, ↓ifLtF, ↓ifEqT, ↓ifEqF, if_tt, if_ff, if_pos, if_neg, nLe, nLt, nEq, nInT, nCl, pk_mul, nI_add, Nat.reduceAdd, s_cat_nil, s_cat_i, s_cat_r, s_cat_f, s_cat_l, tl_s, tl_n, cat_i, cat_r, cat_f, nb0, nb1, nbI, if_bI, if_bIr, Nat.zero_le, Nat.reduceLeDiff, S_ob0, S_ob72, S_g0_0, S_g0_1, S_g0_2, S_g0_3, S_g0_4, S_g0_5, S_g0_6, S_g0_7, S_g0_8, S_g0_9, S_g0_10, S_g0_11, S_g0_12, S_g0_13, S_g0_14, S_g1_0, S_g1_1, S_g1_2, S_g1_3, S_g1_4, S_g72_0, S_g72_1, S_g72_2, S_g239_0, S_g239_1, S_g239_2, S_g239_3, S_g239_4, S_g239_5, S_g239_6, S_a23, S_n23, S_a282, S_n282, S_a300, S_n300, S_n73, S_n299, Y'_ob (isY_S yb24), Y'_g0 (isY_S yb24), Y'_g1 (isY_S yb24), Y'_g2 (isY_S yb24), Y'_g3 (isY_S yb24), Y'_g4 (isY_S yb24), Y'_g5 (isY_S yb24), Y'_g6 (isY_S yb24), Y'_g7 (isY_S yb24), Y'_g8 (isY_S yb24), Y'_g9 (isY_S yb24), Y'_g10 (isY_S yb24), Y'_g11 (isY_S yb24), Y'_g12 (isY_S yb24), Y'_g13 (isY_S yb24), Y'_g14 (isY_S yb24), Y'_g15 (isY_S yb24), Y'_g16 (isY_S yb24), Y'_g17 (isY_S yb24), Y'_g18 (isY_S yb24), Y'_g19 (isY_S yb24), Y'_a7 (isY_S yb24), Y'_a8 (isY_S yb24), Y'_a10 (isY_S yb24), Y'_a11 (isY_S yb24), Y'_a12 (isY_S yb24), Y'_a13 (isY_S yb24), Y'_a14 (isY_S yb24), Y'_a15 (isY_S yb24), Y'_a16 (isY_S yb24), Y'_a17 (isY_S yb24), Y'_a18 (isY_S yb24), Y'_sw (isY_S yb24), C_g2 hb, C_g0 hb, r1, hm, reduceIte, k_keep hI, ob, e2]
    refine q_changed fun s' hx h5 hc => ?_
    have hI' := IC_act hI hq hy' hok' ⟨rfl, rfl, rfl, fun _ _ => rfl⟩ hx h5 hc
    simp (disch := omega) only [u_112_0, u_112_1, u_112_4, u_112_7, u_112_8, u_112_9, u_112_12, u_112_13, u_112_14, u_112_17, u_112_18, u_112_19, u_112_22, u_112_23, u_112_24, u_112_27, u_112_28, u_112_31, u_112_34, u_112_35, u_112_36, u_112_39, u_112_40, u_112_41, u_112_44, u_112_45, u_112_48, u_112_51, u_112_52, u_112_53, u_112_56, u_112_57, u_112_60, u_112_63, u_112_64, u_112_65, u_112_68, u_112_69, u_112_72, u_112_75, u_112_76, u_112_79, u_112_80, u_112_81, u_112_108, u_112_109, u_112_112, u_112_113, u_112_116, u_112_117, u_112_120, u_112_123, u_112_126, u_112_127, u_112_130, u_112_131, u_112_134, u_112_135, u_112_138, u_112_141, u_112_144, u_112_145, u_112_148, u_112_149, u_112_152, u_112_153, u_112_154, u_112_157, u_112_160, u_112_163, u_112_164, u_112_167, u_112_168, u_112_171, u_112_172, u_112_175, u_112_178, u_112_179, u_112_182, u_112_185, u_112_186, u_112_189, u_112_190, u_112_193, u_112_194, u_112_195, u_112_198, u_112_199, u_112_200, u_112_203, u_112_204, u_112_207, u_112_210, u_112_211, u_112_214, u_112_217, u_112_218, u_112_221, u_112_224, u_112_225, u_112_228, u_112_229, u_112_232, u_112_235, gI0, gIs, gR0, gRs, gF0, gFs, st0, st_i, st_r, st_f, st_n, st_s, true_and, and_true, ↓ifLeT, ↓ifLeF, ↓ifLtT, ↓ifLtF, ↓ifEqT, ↓ifEqF, if_tt, if_ff, if_pos, if_neg, nLe, nLt, nEq, nInT, nCl, pk_mul, nI_add, Nat.reduceAdd, s_cat_nil, s_cat_i, s_cat_r, s_cat_f, s_cat_l, tl_s, tl_n, cat_i, cat_r, cat_f, nb0, nb1, nbI, if_bI, if_bIr, Nat.zero_le, Nat.reduceLeDiff, S_ob0]
    refine q_ahead (d := d) hI' rfl fun s2 hI2 hc2 => ?_
    have hl := hc2.2.2.2
    unfold cuD at hl
    rw [← over_last] at hl
    simp (disch := omega) only [u_112_0, u_112_1, u_112_4, u_112_7, u_112_8, u_112_9, u_112_12, u_112_13, u_112_14, u_112_17, u_112_18, u_112_19, u_112_22, u_112_23, u_112_24, u_112_27, u_112_28, u_112_31, u_112_34, u_112_35, u_112_36, u_112_39, u_112_40, u_112_41, u_112_44, u_112_45, u_112_48, u_112_51, u_112_52, u_112_53, u_112_56, u_112_57, u_112_60, u_112_63, u_112_64, u_112_65, u_112_68, u_112_69, u_112_72, u_112_75, u_112_76, u_112_79, u_112_80, u_112_81, u_112_108, u_112_109, u_112_112, u_112_113, u_112_116, u_112_117, u_112_120, u_112_123, u_112_126, u_112_127, u_112_130, u_112_131, u_112_134, u_112_135, u_112_138, u_112_141, u_112_144, u_112_145, u_112_148, u_112_149, u_112_152, u_112_153, u_112_154, u_112_157, u_112_160, u_112_163, u_112_164, u_112_167, u_112_168, u_112_171, u_112_172, u_112_175, u_112_178, u_112_179, u_112_182, u_112_185, u_112_186, u_112_189, u_112_190, u_112_193, u_112_194, u_112_195, u_112_198, u_112_199, u_112_200, u_112_203, u_112_204, u_112_207, u_112_210, u_112_211, u_112_214, u_112_217, u_112_218, u_112_221, u_112_224, u_112_225, u_112_228, u_112_229, u_112_232, u_112_235, gI0, gIs, gR0, gRs, gF0, gFs, st0, st_i, st_r, st_f, st_n, st_s, true_and, and_true, ↓ifLeT, ↓ifLeF, ↓ifLtT, ↓ifLtF, ↓ifEqT, ↓ifEqF, if_tt, if_ff, if_pos, if_neg, nLe, nLt, nEq, nInT, nCl, pk_mul, nI_add, Nat.reduceAdd, s_cat_nil, s_cat_i, s_cat_r, s_cat_f, s_cat_l, tl_s, tl_n, cat_i, cat_r, cat_f, nb0, nb1, nbI, if_bI, if_bIr, Nat.zero_le, Nat.reduceLeDiff, K_g4, hl]
    exact K s2 hI2
theorem q_follow (hI : IC s z) (K : ∀ s', IC s' (zfollow z w).2 → Q (some (.int (zfollow z w).1)) (pS s' h)) : MT (d + 21) 112 [.ref 0, .int w] (pS s h) Q := by
  rw [MT_go (by decide) _ _ _ (Nat.le_of_ble_eq_true rfl), show s_entry 112 [.ref 0, .int w] = [.ref 0, .int w, s_no] from rfl]
  have e0 := fun Q => q_has (d := d + 19) (h := h) (Q := Q) hI
  unfold zfollow at K
  cases hq : zQ z with
  | none =>
    simp only [hq] at K
    simp (disch := omega) only [u_112_0, u_112_1, u_112_4, u_112_7, u_112_8, u_112_9, u_112_12, u_112_13, u_112_14, u_112_17, u_112_18, u_112_19, u_112_22, u_112_23, u_112_24, u_112_27, u_112_28, u_112_31, u_112_34, u_112_35, u_112_36, u_112_39, u_112_40, u_112_41, u_112_44, u_112_45, u_112_48, u_112_51, u_112_52, u_112_53, u_112_56, u_112_57, u_112_60, u_112_63, u_112_64, u_112_65, u_112_68, u_112_69, u_112_72, u_112_75, u_112_76, u_112_79, u_112_80, u_112_81, u_112_108, u_112_109, u_112_112, u_112_113, u_112_116, u_112_117, u_112_120, u_112_123, u_112_126, u_112_127, u_112_130, u_112_131, u_112_134, u_112_135, u_112_138, u_112_141, u_112_144, u_112_145, u_112_148, u_112_149, u_112_152, u_112_153, u_112_154, u_112_157, u_112_160, u_112_163, u_112_164, u_112_167, u_112_168, u_112_171, u_112_172, u_112_175, u_112_178, u_112_179, u_112_182, u_112_185, u_112_186, u_112_189, u_112_190, u_112_193, u_112_194, u_112_195, u_112_198, u_112_199, u_112_200, u_112_203, u_112_204, u_112_207, u_112_210, u_112_211, u_112_214, u_112_217, u_112_218, u_112_221, u_112_224, u_112_225, u_112_228, u_112_229, u_112_232, u_112_235, gI0, gIs, gR0, gRs, gF0, gFs, st0, st_i, st_r, st_f, st_n, st_s, true_and, and_true, ↓ifLeT, ↓ifLeF, ↓ifLtT, ↓ifLtF, ↓ifEqT, ↓ifEqF, if_tt, if_ff, if_pos, if_neg, nLe, nLt, nEq, nInT, nCl, pk_mul, nI_add, Nat.reduceAdd, s_cat_nil, s_cat_i, s_cat_r, s_cat_f, s_cat_l, tl_s, tl_n, cat_i, cat_r, cat_f, nb0, nb1, nbI, if_bI, if_bIr, Nat.zero_le, Nat.reduceLeDiff, S_ob0, e0, hq, Option.isSome, iBf]
    refine q_ref hI (k := 0) (by decide) fun s' hI' => ?_
    simp (disch := omega) only [u_112_0, u_112_1, u_112_4, u_112_7, u_112_8, u_112_9, u_112_12, u_112_13, u_112_14, u_112_17, u_112_18, u_112_19, u_112_22, u_112_23, u_112_24, u_112_27, u_112_28, u_112_31, u_112_34, u_112_35, u_112_36, u_112_39, u_112_40, u_112_41, u_112_44, u_112_45, u_112_48, u_112_51, u_112_52, u_112_53, u_112_56, u_112_57, u_112_60, u_112_63, u_112_64, u_112_65, u_112_68, u_112_69, u_112_72, u_112_75, u_112_76, u_112_79, u_112_80, u_112_81, u_112_108, u_112_109, u_112_112, u_112_113, u_112_116, u_112_117, u_112_120, u_112_123, u_112_126, u_112_127, u_112_130, u_112_131, u_112_134, u_112_135, u_112_138, u_112_141, u_112_144, u_112_145, u_112_148, u_112_149, u_112_152, u_112_153, u_112_154, u_112_157, u_112_160, u_112_163, u_112_164, u_112_167, u_112_168, u_112_171, u_112_172, u_112_175, u_112_178, u_112_179, u_112_182, u_112_185, u_112_186, u_112_189, u_112_190, u_112_193, u_112_194, u_112_195, u_112_198, u_112_199, u_112_200, u_112_203, u_112_204, u_112_207, u_112_210, u_112_211, u_112_214, u_112_217, u_112_218, u_112_221, u_112_224, u_112_225, u_112_228, u_112_229, u_112_232, u_112_235, gI0, gIs, gR0, gRs, gF0, gFs, st0, st_i, st_r, st_f, st_n, st_s, true_and, and_true, ↓ifLeT, ↓ifLeF, ↓ifLtT, ↓ifLtF, ↓ifEqT, ↓ifEqF, if_tt, if_ff, if_pos, if_neg, nLe, nLt, nEq, nInT, nCl, pk_mul, nI_add, Nat.reduceAdd, s_cat_nil, s_cat_i, s_cat_r, s_cat_f, s_cat_l, tl_s, tl_n, cat_i, cat_r, cat_f, nb0, nb1, nbI, if_bI, if_bIr, Nat.zero_le, Nat.reduceLeDiff]
    exact K s' hI'
  | some n =>
    simp only [hq] at K
    obtain ⟨hy, hok⟩ := IC_y hI hq
    have e1 := fun Q => q_few (d := d + 18) (h := h) (Q := Q) hI hq
    cases h1 : ixN w 4 with
    | none =>
      simp only [h1] at K
      rcases ix_out (by decide) (by decide) h1 with a | ⟨a, -, -, b1, b2⟩
      · simp (disch := omega) only [u_112_0, u_112_1, u_112_4, u_112_7, u_112_8, u_112_9, u_112_12, u_112_13, u_112_14, u_112_17, u_112_18, u_112_19, u_112_22, u_112_23, u_112_24, u_112_27, u_112_28, u_112_31, u_112_34, u_112_35, u_112_36, u_112_39, u_112_40, u_112_41, u_112_44, u_112_45, u_112_48, u_112_51, u_112_52, u_112_53, u_112_56, u_112_57, u_112_60, u_112_63, u_112_64, u_112_65, u_112_68, u_112_69, u_112_72, u_112_75, u_112_76, u_112_79, u_112_80, u_112_81, u_112_108, u_112_109, u_112_112, u_112_113, u_112_116, u_112_117, u_112_120, u_112_123, u_112_126, u_112_127, u_112_130, u_112_131, u_112_134, u_112_135, u_112_138, u_112_141, u_112_144, u_112_145, u_112_148, u_112_149, u_112_152, u_112_153, u_112_154, u_112_157, u_112_160, u_112_163, u_112_164, u_112_167, u_112_168, u_112_171, u_112_172, u_112_175, u_112_178, u_112_179, u_112_182, u_112_185, u_112_186, u_112_189, u_112_190, u_112_193, u_112_194, u_112_195, u_112_198, u_112_199, u_112_200, u_112_203, u_112_204, u_112_207, u_112_210, u_112_211, u_112_214, u_112_217, u_112_218, u_112_221, u_112_224, u_112_225, u_112_228, u_112_229, u_112_232, u_112_235, gI0, gIs, gR0, gRs, gF0, gFs, st0, st_i, st_r, st_f, st_n, st_s, true_and, and_true, ↓ifLeT, ↓ifLeF, ↓ifLtT, ↓ifLtF, ↓ifEqT, ↓ifEqF, if_tt, if_ff, if_pos, if_neg, nLe, nLt, nEq, nInT, nCl, pk_mul, nI_add, Nat.reduceAdd, s_cat_nil, s_cat_i, s_cat_r, s_cat_f, s_cat_l, tl_s, tl_n, cat_i, cat_r, cat_f, nb0, nb1, nbI, if_bI, if_bIr, Nat.zero_le, Nat.reduceLeDiff, S_ob0, e0, hq, Option.isSome, iBt, nI10, reduceIte, a]
        refine q_ref hI (k := 1) (by decide) fun s' hI' => ?_
        simp (disch := omega) only [u_112_0, u_112_1, u_112_4, u_112_7, u_112_8, u_112_9, u_112_12, u_112_13, u_112_14, u_112_17, u_112_18, u_112_19, u_112_22, u_112_23, u_112_24, u_112_27, u_112_28, u_112_31, u_112_34, u_112_35, u_112_36, u_112_39, u_112_40, u_112_41, u_112_44, u_112_45, u_112_48, u_112_51, u_112_52, u_112_53, u_112_56, u_112_57, u_112_60, u_112_63, u_112_64, u_112_65, u_112_68, u_112_69, u_112_72, u_112_75, u_112_76, u_112_79, u_112_80, u_112_81, u_112_108, u_112_109, u_112_112, u_112_113, u_112_116, u_112_117, u_112_120, u_112_123, u_112_126, u_112_127, u_112_130, u_112_131, u_112_134, u_112_135, u_112_138, u_112_141, u_112_144, u_112_145, u_112_148, u_112_149, u_112_152, u_112_153, u_112_154, u_112_157, u_112_160, u_112_163, u_112_164, u_112_167, u_112_168, u_112_171, u_112_172, u_112_175, u_112_178, u_112_179, u_112_182, u_112_185, u_112_186, u_112_189, u_112_190, u_112_193, u_112_194, u_112_195, u_112_198, u_112_199, u_112_200, u_112_203, u_112_204, u_112_207, u_112_210, u_112_211, u_112_214, u_112_217, u_112_218, u_112_221, u_112_224, u_112_225, u_112_228, u_112_229, u_112_232, u_112_235, gI0, gIs, gR0, gRs, gF0, gFs, st0, st_i, st_r, st_f, st_n, st_s, true_and, and_true, ↓ifLeT, ↓ifLeF, ↓ifLtT, ↓ifLtF, ↓ifEqT, ↓ifEqF, if_tt, if_ff, if_pos, if_neg, nLe, nLt, nEq, nInT, nCl, pk_mul, nI_add, Nat.reduceAdd, s_cat_nil, s_cat_i, s_cat_r, s_cat_f, s_cat_l, tl_s, tl_n, cat_i, cat_r, cat_f, nb0, nb1, nbI, if_bI, if_bIr, Nat.zero_le, Nat.reduceLeDiff]
        exact K s' hI'
      · have b1 : nI 3 < w := b1
        simp (disch := omega) only [u_112_0, u_112_1, u_112_4, u_112_7, u_112_8, u_112_9, u_112_12, u_112_13, u_112_14, u_112_17, u_112_18, u_112_19, u_112_22, u_112_23, u_112_24, u_112_27, u_112_28, u_112_31, u_112_34, u_112_35, u_112_36, u_112_39, u_112_40, u_112_41, u_112_44, u_112_45, u_112_48, u_112_51, u_112_52, u_112_53, u_112_56, u_112_57, u_112_60, u_112_63, u_112_64, u_112_65, u_112_68, u_112_69, u_112_72, u_112_75, u_112_76, u_112_79, u_112_80, u_112_81, u_112_108, u_112_109, u_112_112, u_112_113, u_112_116, u_112_117, u_112_120, u_112_123, u_112_126, u_112_127, u_112_130, u_112_131, u_112_134, u_112_135, u_112_138, u_112_141, u_112_144, u_112_145, u_112_148, u_112_149, u_112_152, u_112_153, u_112_154, u_112_157, u_112_160, u_112_163, u_112_164, u_112_167, u_112_168, u_112_171, u_112_172, u_112_175, u_112_178, u_112_179, u_112_182, u_112_185, u_112_186, u_112_189, u_112_190, u_112_193, u_112_194, u_112_195, u_112_198, u_112_199, u_112_200, u_112_203, u_112_204, u_112_207, u_112_210, u_112_211, u_112_214, u_112_217, u_112_218, u_112_221, u_112_224, u_112_225, u_112_228, u_112_229, u_112_232, u_112_235, gI0, gIs, gR0, gRs, gF0, gFs, st0, st_i, st_r, st_f, st_n, st_s, true_and, and_true, ↓ifLeT, ↓ifLeF, ↓ifLtT, ↓ifLtF, ↓ifEqT, ↓ifEqF, if_tt, if_ff, if_pos, if_neg, nLe, nLt, nEq, nInT, nCl, pk_mul, nI_add, Nat.reduceAdd, s_cat_nil, s_cat_i, s_cat_r, s_cat_f, s_cat_l, tl_s, tl_n, cat_i, cat_r, cat_f, nb0, nb1, nbI, if_bI, if_bIr, Nat.zero_le, Nat.reduceLeDiff, S_ob0, e0, hq, Option.isSome, iBt, nI10, reduceIte, a, b1]
        refine q_ref hI (k := 1) (by decide) fun s' hI' => ?_
        simp (disch := omega) only [u_112_0, u_112_1, u_112_4, u_112_7, u_112_8, u_112_9, u_112_12, u_112_13, u_112_14, u_112_17, u_112_18, u_112_19, u_112_22, u_112_23, u_112_24, u_112_27, u_112_28, u_112_31, u_112_34, u_112_35, u_112_36, u_112_39, u_112_40, u_112_41, u_112_44, u_112_45, u_112_48, u_112_51, u_112_52, u_112_53, u_112_56, u_112_57, u_112_60, u_112_63, u_112_64, u_112_65, u_112_68, u_112_69, u_112_72, u_112_75, u_112_76, u_112_79, u_112_80, u_112_81, u_112_108, u_112_109, u_112_112, u_112_113, u_112_116, u_112_117, u_112_120, u_112_123, u_112_126, u_112_127, u_112_130, u_112_131, u_112_134, u_112_135, u_112_138, u_112_141, u_112_144, u_112_145, u_112_148, u_112_149, u_112_152, u_112_153, u_112_154, u_112_157, u_112_160, u_112_163, u_112_164, u_112_167, u_112_168, u_112_171, u_112_172, u_112_175, u_112_178, u_112_179, u_112_182, u_112_185, u_112_186, u_112_189, u_112_190, u_112_193, u_112_194, u_112_195, u_112_198, u_112_199, u_112_200, u_112_203, u_112_204, u_112_207, u_112_210, u_112_211, u_112_214, u_112_217, u_112_218, u_112_221, u_112_224, u_112_225, u_112_228, u_112_229, u_112_232, u_112_235, gI0, gIs, gR0, gRs, gF0, gFs, st0, st_i, st_r, st_f, st_n, st_s, true_and, and_true, ↓ifLeT, ↓ifLeF, ↓ifLtT, ↓ifLtF, ↓ifEqT, ↓ifEqF, if_tt, if_ff, if_pos, if_neg, nLe, nLt, nEq, nInT, nCl, pk_mul, nI_add, Nat.reduceAdd, s_cat_nil, s_cat_i, s_cat_r, s_cat_f, s_cat_l, tl_s, tl_n, cat_i, cat_r, cat_f, nb0, nb1, nbI, if_bI, if_bIr, Nat.zero_le, Nat.reduceLeDiff]
        exact K s' hI'
    | some k =>
      simp only [h1] at K
      obtain ⟨k1, rfl⟩ := ix_some (by omega) h1
      by_cases h2 : k = 2 ∧ fewN n = false
      · simp only [if_pos h2] at K
        obtain ⟨rfl, h2⟩ := h2
        rw [h2] at e1
        simp (disch := omega) only [u_112_0, u_112_1, u_112_4, u_112_7, u_112_8, u_112_9, u_112_12, u_112_13, u_112_14, u_112_17, u_112_18, u_112_19, u_112_22, u_112_23, u_112_24, u_112_27, u_112_28, u_112_31, u_112_34, u_112_35, u_112_36, u_112_39, u_112_40, u_112_41, u_112_44, u_112_45, u_112_48, u_112_51, u_112_52, u_112_53, u_112_56, u_112_57, u_112_60, u_112_63, u_112_64, u_112_65, u_112_68, u_112_69, u_112_72, u_112_75, u_112_76, u_112_79, u_112_80, u_112_81, u_112_108, u_112_109, u_112_112, u_112_113, u_112_116, u_112_117, u_112_120, u_112_123, u_112_126, u_112_127, u_112_130, u_112_131, u_112_134, u_112_135, u_112_138, u_112_141, u_112_144, u_112_145, u_112_148, u_112_149, u_112_152, u_112_153, u_112_154, u_112_157, u_112_160, u_112_163, u_112_164, u_112_167, u_112_168, u_112_171, u_112_172, u_112_175, u_112_178, u_112_179, u_112_182, u_112_185, u_112_186, u_112_189, u_112_190, u_112_193, u_112_194, u_112_195, u_112_198, u_112_199, u_112_200, u_112_203, u_112_204, u_112_207, u_112_210, u_112_211, u_112_214, u_112_217, u_112_218, u_112_221, u_112_224, u_112_225, u_112_228, u_112_229, u_112_232, u_112_235, gI0, gIs, gR0, gRs, gF0, gFs, st0, st_i, st_r, st_f, st_n, st_s, true_and, and_true, ↓ifLeT, ↓ifLeF, ↓ifLtT, ↓ifLtF, ↓ifEqT, ↓ifEqF, if_tt, if_ff, if_pos, if_neg, nLe, nLt, nEq, nInT, nCl, pk_mul, nI_add, Nat.reduceAdd, s_cat_nil, s_cat_i, s_cat_r, s_cat_f, s_cat_l, tl_s, tl_n, cat_i, cat_r, cat_f, nb0, nb1, nbI, if_bI, if_bIr, Nat.zero_le, Nat.reduceLeDiff, S_ob0, e0, hq, Option.isSome, iBt, nI10, reduceIte, e1, Bool.not_false]
        refine q_ref hI (k := 1) (by decide) fun s' hI' => ?_
        simp (disch := omega) only [u_112_0, u_112_1, u_112_4, u_112_7, u_112_8, u_112_9, u_112_12, u_112_13, u_112_14, u_112_17, u_112_18, u_112_19, u_112_22, u_112_23, u_112_24, u_112_27, u_112_28, u_112_31, u_112_34, u_112_35, u_112_36, u_112_39, u_112_40, u_112_41, u_112_44, u_112_45, u_112_48, u_112_51, u_112_52, u_112_53, u_112_56, u_112_57, u_112_60, u_112_63, u_112_64, u_112_65, u_112_68, u_112_69, u_112_72, u_112_75, u_112_76, u_112_79, u_112_80, u_112_81, u_112_108, u_112_109, u_112_112, u_112_113, u_112_116, u_112_117, u_112_120, u_112_123, u_112_126, u_112_127, u_112_130, u_112_131, u_112_134, u_112_135, u_112_138, u_112_141, u_112_144, u_112_145, u_112_148, u_112_149, u_112_152, u_112_153, u_112_154, u_112_157, u_112_160, u_112_163, u_112_164, u_112_167, u_112_168, u_112_171, u_112_172, u_112_175, u_112_178, u_112_179, u_112_182, u_112_185, u_112_186, u_112_189, u_112_190, u_112_193, u_112_194, u_112_195, u_112_198, u_112_199, u_112_200, u_112_203, u_112_204, u_112_207, u_112_210, u_112_211, u_112_214, u_112_217, u_112_218, u_112_221, u_112_224, u_112_225, u_112_228, u_112_229, u_112_232, u_112_235, gI0, gIs, gR0, gRs, gF0, gFs, st0, st_i, st_r, st_f, st_n, st_s, true_and, and_true, ↓ifLeT, ↓ifLeF, ↓ifLtT, ↓ifLtF, ↓ifEqT, ↓ifEqF, if_tt, if_ff, if_pos, if_neg, nLe, nLt, nEq, nInT, nCl, pk_mul, nI_add, Nat.reduceAdd, s_cat_nil, s_cat_i, s_cat_r, s_cat_f, s_cat_l, tl_s, tl_n, cat_i, cat_r, cat_f, nb0, nb1, nbI, if_bI, if_bIr, Nat.zero_le, Nat.reduceLeDiff]
        exact K s' hI'
      · simp only [if_neg h2] at K
        have K : ∀ s', IC s' (folA z n (foundN n k)).2 → Q (some (.int (folA z n (foundN n k)).1)) (pS s' h) := by
          intro s' hI'
          have := K s'
          unfold folA at hI' ⊢
          cases hf : foundN n k with
          | none =>
            simp only [hf] at this hI' ⊢
            exact this hI'
          | some v =>
            obtain ⟨m, l⟩ := v
            simp only [hf] at this hI' ⊢
            exact this hI'
        match k, k1 with
        | 0, _ =>
          simp (maxSteps := 2000000) (disch := omega) only [u_112_0, u_112_1, u_112_4, u_112_7, u_112_8, u_112_9, u_112_12, u_112_13, u_112_14, u_112_17, u_112_18, u_112_19, u_112_22, u_112_23, u_112_24, u_112_27, u_112_28, u_112_31, u_112_34, u_112_35, u_112_36, u_112_39, u_112_40, u_112_41, u_112_44, u_112_45, u_112_48, u_112_51, u_112_52, u_112_53, u_112_56, u_112_57, u_112_60, u_112_63, u_112_64, u_112_65, u_112_68, u_112_69, u_112_72, u_112_75, u_112_76, u_112_79, u_112_80, u_112_81, u_112_108, u_112_109, u_112_112, u_112_113, u_112_116, u_112_117, u_112_120, u_112_123, u_112_126, u_112_127, u_112_130, u_112_131, u_112_134, u_112_135, u_112_138, u_112_141, u_112_144, u_112_145, u_112_148, u_112_149, u_112_152, u_112_153, u_112_154, u_112_157, u_112_160, u_112_163, u_112_164, u_112_167, u_112_168, u_112_171, u_112_172, u_112_175, u_112_178, u_112_179, u_112_182, u_112_186, u_112_189, u_112_190, u_112_193, u_112_194, u_112_195, u_112_198, u_112_199, u_112_200, u_112_203, u_112_204, u_112_207, u_112_210, u_112_211, u_112_214, u_112_217, u_112_218, u_112_221, u_112_224, u_112_225, u_112_228, u_112_229, u_112_232, u_112_235, gI0, gIs, gR0, gRs, gF0, gFs, st0, st_i, st_r, st_f, st_n, st_s, true_and, and_true, ↓ifLeT, ↓ifLeF, ↓ifLtT, ↓ifLtF, ↓ifEqT, ↓ifEqF, if_tt, if_ff, if_pos, if_neg, nLe, nLt, nEq, nInT, nCl, pk_mul, nI_add, Nat.reduceAdd, s_cat_nil, s_cat_i, s_cat_r, s_cat_f, s_cat_l, tl_s, tl_n, cat_i, cat_r, cat_f, nb0, nb1, nbI, if_bI, if_bIr, Nat.zero_le, Nat.reduceLeDiff, S_ob0, S_ob239, S_g0_0, S_g0_1, S_g0_2, S_g0_3, S_g0_4, S_g0_5, S_g0_6, S_g0_7, S_g0_8, S_g0_9, S_g0_10, S_g0_11, S_g0_12, S_g0_13, S_g0_14, S_g1_0, S_g1_1, S_g1_2, S_g1_3, S_g1_4, S_g72_0, S_g72_1, S_g72_2, S_g239_0, S_g239_1, S_g239_2, S_g239_3, S_g239_4, S_g239_5, S_g239_6, S_a23, S_n23, S_a282, S_n282, S_a300, S_n300, S_n73, S_n299, e0, hq, Option.isSome, iBt, nI10, reduceIte, swt_c, swt_n]
          refine f_easy (d := d + 16) hI hq fun s' hI' hr => ?_
          simp (disch := omega) only [u_112_0, u_112_1, u_112_4, u_112_7, u_112_8, u_112_9, u_112_12, u_112_13, u_112_14, u_112_17, u_112_18, u_112_19, u_112_22, u_112_23, u_112_24, u_112_27, u_112_28, u_112_31, u_112_34, u_112_35, u_112_36, u_112_39, u_112_40, u_112_41, u_112_44, u_112_45, u_112_48, u_112_51, u_112_52, u_112_53, u_112_56, u_112_57, u_112_60, u_112_63, u_112_64, u_112_65, u_112_68, u_112_69, u_112_72, u_112_75, u_112_76, u_112_79, u_112_80, u_112_81, u_112_108, u_112_109, u_112_112, u_112_113, u_112_116, u_112_117, u_112_120, u_112_123, u_112_126, u_112_127, u_112_130, u_112_131, u_112_134, u_112_135, u_112_138, u_112_141, u_112_144, u_112_145, u_112_148, u_112_149, u_112_152, u_112_153, u_112_154, u_112_157, u_112_160, u_112_163, u_112_164, u_112_167, u_112_168, u_112_171, u_112_172, u_112_175, u_112_178, u_112_179, u_112_182, u_112_186, u_112_189, u_112_190, u_112_193, u_112_194, u_112_195, u_112_198, u_112_199, u_112_200, u_112_203, u_112_204, u_112_207, u_112_210, u_112_211, u_112_214, u_112_217, u_112_218, u_112_221, u_112_224, u_112_225, u_112_228, u_112_229, u_112_232, u_112_235, gI0, gIs, gR0, gRs, gF0, gFs, st0, st_i, st_r, st_f, st_n, st_s, true_and, and_true, ↓ifLeT, ↓ifLeF, ↓ifLtT, ↓ifLtF, ↓ifEqT, ↓ifEqF, if_tt, if_ff, if_pos, if_neg, nLe, nLt, nEq, nInT, nCl, pk_mul, nI_add, Nat.reduceAdd, s_cat_nil, s_cat_i, s_cat_r, s_cat_f, s_cat_l, tl_s, tl_n, cat_i, cat_r, cat_f, nb0, nb1, nbI, if_bI, if_bIr, Nat.zero_le, Nat.reduceLeDiff]
          exact follow_t (d := d + 16) (k := 0) cb287 hI' hq hr K
        | 1, _ =>
          simp (maxSteps := 2000000) (disch := omega) only [u_112_0, u_112_1, u_112_4, u_112_7, u_112_8, u_112_9, u_112_12, u_112_13, u_112_14, u_112_17, u_112_18, u_112_19, u_112_22, u_112_23, u_112_24, u_112_27, u_112_28, u_112_31, u_112_34, u_112_35, u_112_36, u_112_39, u_112_40, u_112_41, u_112_44, u_112_45, u_112_48, u_112_51, u_112_52, u_112_53, u_112_56, u_112_57, u_112_60, u_112_63, u_112_64, u_112_65, u_112_68, u_112_69, u_112_72, u_112_75, u_112_76, u_112_79, u_112_80, u_112_81, u_112_108, u_112_109, u_112_112, u_112_113, u_112_116, u_112_117, u_112_120, u_112_123, u_112_126, u_112_127, u_112_130, u_112_131, u_112_134, u_112_135, u_112_138, u_112_141, u_112_144, u_112_145, u_112_148, u_112_149, u_112_152, u_112_153, u_112_154, u_112_157, u_112_160, u_112_163, u_112_164, u_112_167, u_112_168, u_112_171, u_112_172, u_112_175, u_112_178, u_112_179, u_112_182, u_112_186, u_112_189, u_112_190, u_112_193, u_112_194, u_112_195, u_112_198, u_112_199, u_112_200, u_112_203, u_112_204, u_112_207, u_112_210, u_112_211, u_112_214, u_112_217, u_112_218, u_112_221, u_112_224, u_112_225, u_112_228, u_112_229, u_112_232, u_112_235, gI0, gIs, gR0, gRs, gF0, gFs, st0, st_i, st_r, st_f, st_n, st_s, true_and, and_true, ↓ifLeT, ↓ifLeF, ↓ifLtT, ↓ifLtF, ↓ifEqT, ↓ifEqF, if_tt, if_ff, if_pos, if_neg, nLe, nLt, nEq, nInT, nCl, pk_mul, nI_add, Nat.reduceAdd, s_cat_nil, s_cat_i, s_cat_r, s_cat_f, s_cat_l, tl_s, tl_n, cat_i, cat_r, cat_f, nb0, nb1, nbI, if_bI, if_bIr, Nat.zero_le, Nat.reduceLeDiff, S_ob0, S_ob239, S_g0_0, S_g0_1, S_g0_2, S_g0_3, S_g0_4, S_g0_5, S_g0_6, S_g0_7, S_g0_8, S_g0_9, S_g0_10, S_g0_11, S_g0_12, S_g0_13, S_g0_14, S_g1_0, S_g1_1, S_g1_2, S_g1_3, S_g1_4, S_g72_0, S_g72_1, S_g72_2, S_g239_0, S_g239_1, S_g239_2, S_g239_3, S_g239_4, S_g239_5, S_g239_6, S_a23, S_n23, S_a282, S_n282, S_a300, S_n300, S_n73, S_n299, e0, hq, Option.isSome, iBt, nI10, reduceIte, swt_c, swt_n]
          refine f_zones (d := d + 8) hI hq fun s' hI' hr => ?_
          simp (disch := omega) only [u_112_0, u_112_1, u_112_4, u_112_7, u_112_8, u_112_9, u_112_12, u_112_13, u_112_14, u_112_17, u_112_18, u_112_19, u_112_22, u_112_23, u_112_24, u_112_27, u_112_28, u_112_31, u_112_34, u_112_35, u_112_36, u_112_39, u_112_40, u_112_41, u_112_44, u_112_45, u_112_48, u_112_51, u_112_52, u_112_53, u_112_56, u_112_57, u_112_60, u_112_63, u_112_64, u_112_65, u_112_68, u_112_69, u_112_72, u_112_75, u_112_76, u_112_79, u_112_80, u_112_81, u_112_108, u_112_109, u_112_112, u_112_113, u_112_116, u_112_117, u_112_120, u_112_123, u_112_126, u_112_127, u_112_130, u_112_131, u_112_134, u_112_135, u_112_138, u_112_141, u_112_144, u_112_145, u_112_148, u_112_149, u_112_152, u_112_153, u_112_154, u_112_157, u_112_160, u_112_163, u_112_164, u_112_167, u_112_168, u_112_171, u_112_172, u_112_175, u_112_178, u_112_179, u_112_182, u_112_186, u_112_189, u_112_190, u_112_193, u_112_194, u_112_195, u_112_198, u_112_199, u_112_200, u_112_203, u_112_204, u_112_207, u_112_210, u_112_211, u_112_214, u_112_217, u_112_218, u_112_221, u_112_224, u_112_225, u_112_228, u_112_229, u_112_232, u_112_235, gI0, gIs, gR0, gRs, gF0, gFs, st0, st_i, st_r, st_f, st_n, st_s, true_and, and_true, ↓ifLeT, ↓ifLeF, ↓ifLtT, ↓ifLtF, ↓ifEqT, ↓ifEqF, if_tt, if_ff, if_pos, if_neg, nLe, nLt, nEq, nInT, nCl, pk_mul, nI_add, Nat.reduceAdd, s_cat_nil, s_cat_i, s_cat_r, s_cat_f, s_cat_l, tl_s, tl_n, cat_i, cat_r, cat_f, nb0, nb1, nbI, if_bI, if_bIr, Nat.zero_le, Nat.reduceLeDiff]
          exact follow_t (d := d + 16) (k := 1) cb291 hI' hq hr K
        | 2, _ =>
          have h2 : fewN n = true := by cases hf : fewN n with
            | true => rfl
            | false => exact absurd ⟨rfl, hf⟩ h2
          rw [h2] at e1
          simp (maxSteps := 2000000) (disch := omega) only [u_112_0, u_112_1, u_112_4, u_112_7, u_112_8, u_112_9, u_112_12, u_112_13, u_112_14, u_112_17, u_112_18, u_112_19, u_112_22, u_112_23, u_112_24, u_112_27, u_112_28, u_112_31, u_112_34, u_112_35, u_112_36, u_112_39, u_112_40, u_112_41, u_112_44, u_112_45, u_112_48, u_112_51, u_112_52, u_112_53, u_112_56, u_112_57, u_112_60, u_112_63, u_112_64, u_112_65, u_112_68, u_112_69, u_112_72, u_112_75, u_112_76, u_112_79, u_112_80, u_112_81, u_112_108, u_112_109, u_112_112, u_112_113, u_112_116, u_112_117, u_112_120, u_112_123, u_112_126, u_112_127, u_112_130, u_112_131, u_112_134, u_112_135, u_112_138, u_112_141, u_112_144, u_112_145, u_112_148, u_112_149, u_112_152, u_112_153, u_112_154, u_112_157, u_112_160, u_112_163, u_112_164, u_112_167, u_112_168, u_112_171, u_112_172, u_112_175, u_112_178, u_112_179, u_112_182, u_112_186, u_112_189, u_112_190, u_112_193, u_112_194, u_112_195, u_112_198, u_112_199, u_112_200, u_112_203, u_112_204, u_112_207, u_112_210, u_112_211, u_112_214, u_112_217, u_112_218, u_112_221, u_112_224, u_112_225, u_112_228, u_112_229, u_112_232, u_112_235, gI0, gIs, gR0, gRs, gF0, gFs, st0, st_i, st_r, st_f, st_n, st_s, true_and, and_true, ↓ifLeT, ↓ifLeF, ↓ifLtT, ↓ifLtF, ↓ifEqT, ↓ifEqF, if_tt, if_ff, if_pos, if_neg, nLe, nLt, nEq, nInT, nCl, pk_mul, nI_add, Nat.reduceAdd, s_cat_nil, s_cat_i, s_cat_r, s_cat_f, s_cat_l, tl_s, tl_n, cat_i, cat_r, cat_f, nb0, nb1, nbI, if_bI, if_bIr, Nat.zero_le, Nat.reduceLeDiff, S_ob0, S_ob239, S_g0_0, S_g0_1, S_g0_2, S_g0_3, S_g0_4, S_g0_5, S_g0_6, S_g0_7, S_g0_8, S_g0_9, S_g0_10, S_g0_11, S_g0_12, S_g0_13, S_g0_14, S_g1_0, S_g1_1, S_g1_2, S_g1_3, S_g1_4, S_g72_0, S_g72_1, S_g72_2, S_g239_0, S_g239_1, S_g239_2, S_g239_3, S_g239_4, S_g239_5, S_g239_6, S_a23, S_n23, S_a282, S_n282, S_a300, S_n300, S_n73, S_n299, e0, hq, Option.isSome, iBt, iBf, nI10, reduceIte, swt_c, swt_n, e1, Bool.not_true]
          refine f_best (d := d) hI hq fun s' hI' hr => ?_
          simp (disch := omega) only [u_112_0, u_112_1, u_112_4, u_112_7, u_112_8, u_112_9, u_112_12, u_112_13, u_112_14, u_112_17, u_112_18, u_112_19, u_112_22, u_112_23, u_112_24, u_112_27, u_112_28, u_112_31, u_112_34, u_112_35, u_112_36, u_112_39, u_112_40, u_112_41, u_112_44, u_112_45, u_112_48, u_112_51, u_112_52, u_112_53, u_112_56, u_112_57, u_112_60, u_112_63, u_112_64, u_112_65, u_112_68, u_112_69, u_112_72, u_112_75, u_112_76, u_112_79, u_112_80, u_112_81, u_112_108, u_112_109, u_112_112, u_112_113, u_112_116, u_112_117, u_112_120, u_112_123, u_112_126, u_112_127, u_112_130, u_112_131, u_112_134, u_112_135, u_112_138, u_112_141, u_112_144, u_112_145, u_112_148, u_112_149, u_112_152, u_112_153, u_112_154, u_112_157, u_112_160, u_112_163, u_112_164, u_112_167, u_112_168, u_112_171, u_112_172, u_112_175, u_112_178, u_112_179, u_112_182, u_112_186, u_112_189, u_112_190, u_112_193, u_112_194, u_112_195, u_112_198, u_112_199, u_112_200, u_112_203, u_112_204, u_112_207, u_112_210, u_112_211, u_112_214, u_112_217, u_112_218, u_112_221, u_112_224, u_112_225, u_112_228, u_112_229, u_112_232, u_112_235, gI0, gIs, gR0, gRs, gF0, gFs, st0, st_i, st_r, st_f, st_n, st_s, true_and, and_true, ↓ifLeT, ↓ifLeF, ↓ifLtT, ↓ifLtF, ↓ifEqT, ↓ifEqF, if_tt, if_ff, if_pos, if_neg, nLe, nLt, nEq, nInT, nCl, pk_mul, nI_add, Nat.reduceAdd, s_cat_nil, s_cat_i, s_cat_r, s_cat_f, s_cat_l, tl_s, tl_n, cat_i, cat_r, cat_f, nb0, nb1, nbI, if_bI, if_bIr, Nat.zero_le, Nat.reduceLeDiff]
          exact follow_t (d := d + 16) (k := 2) cb283 hI' hq hr K
        | 3, _ =>
          simp (maxSteps := 2000000) (disch := omega) only [u_112_0, u_112_1, u_112_4, u_112_7, u_112_8, u_112_9, u_112_12, u_112_13, u_112_14, u_112_17, u_112_18, u_112_19, u_112_22, u_112_23, u_112_24, u_112_27, u_112_28, u_112_31, u_112_34, u_112_35, u_112_36, u_112_39, u_112_40, u_112_41, u_112_44, u_112_45, u_112_48, u_112_51, u_112_52, u_112_53, u_112_56, u_112_57, u_112_60, u_112_63, u_112_64, u_112_65, u_112_68, u_112_69, u_112_72, u_112_75, u_112_76, u_112_79, u_112_80, u_112_81, u_112_108, u_112_109, u_112_112, u_112_113, u_112_116, u_112_117, u_112_120, u_112_123, u_112_126, u_112_127, u_112_130, u_112_131, u_112_134, u_112_135, u_112_138, u_112_141, u_112_144, u_112_145, u_112_148, u_112_149, u_112_152, u_112_153, u_112_154, u_112_157, u_112_160, u_112_163, u_112_164, u_112_167, u_112_168, u_112_171, u_112_172, u_112_175, u_112_178, u_112_179, u_112_182, u_112_186, u_112_189, u_112_190, u_112_193, u_112_194, u_112_195, u_112_198, u_112_199, u_112_200, u_112_203, u_112_204, u_112_207, u_112_210, u_112_211, u_112_214, u_112_217, u_112_218, u_112_221, u_112_224, u_112_225, u_112_228, u_112_229, u_112_232, u_112_235, gI0, gIs, gR0, gRs, gF0, gFs, st0, st_i, st_r, st_f, st_n, st_s, true_and, and_true, ↓ifLeT, ↓ifLeF, ↓ifLtT, ↓ifLtF, ↓ifEqT, ↓ifEqF, if_tt, if_ff, if_pos, if_neg, nLe, nLt, nEq, nInT, nCl, pk_mul, nI_add, Nat.reduceAdd, s_cat_nil, s_cat_i, s_cat_r, s_cat_f, s_cat_l, tl_s, tl_n, cat_i, cat_r, cat_f, nb0, nb1, nbI, if_bI, if_bIr, Nat.zero_le, Nat.reduceLeDiff, S_ob0, S_ob239, S_g0_0, S_g0_1, S_g0_2, S_g0_3, S_g0_4, S_g0_5, S_g0_6, S_g0_7, S_g0_8, S_g0_9, S_g0_10, S_g0_11, S_g0_12, S_g0_13, S_g0_14, S_g1_0, S_g1_1, S_g1_2, S_g1_3, S_g1_4, S_g72_0, S_g72_1, S_g72_2, S_g239_0, S_g239_1, S_g239_2, S_g239_3, S_g239_4, S_g239_5, S_g239_6, S_a23, S_n23, S_a282, S_n282, S_a300, S_n300, S_n73, S_n299, e0, hq, Option.isSome, iBt, nI10, reduceIte, swt_c, swt_n]
          refine q_ahead (d := d + 16) hI hq fun s' hI' hc => ?_
          have hl := hc.2.2.2
          unfold cuD at hl
          rw [← over_last] at hl
          simp (disch := omega) only [u_112_0, u_112_1, u_112_4, u_112_7, u_112_8, u_112_9, u_112_12, u_112_13, u_112_14, u_112_17, u_112_18, u_112_19, u_112_22, u_112_23, u_112_24, u_112_27, u_112_28, u_112_31, u_112_34, u_112_35, u_112_36, u_112_39, u_112_40, u_112_41, u_112_44, u_112_45, u_112_48, u_112_51, u_112_52, u_112_53, u_112_56, u_112_57, u_112_60, u_112_63, u_112_64, u_112_65, u_112_68, u_112_69, u_112_72, u_112_75, u_112_76, u_112_79, u_112_80, u_112_81, u_112_108, u_112_109, u_112_112, u_112_113, u_112_116, u_112_117, u_112_120, u_112_123, u_112_126, u_112_127, u_112_130, u_112_131, u_112_134, u_112_135, u_112_138, u_112_141, u_112_144, u_112_145, u_112_148, u_112_149, u_112_152, u_112_153, u_112_154, u_112_157, u_112_160, u_112_163, u_112_164, u_112_167, u_112_168, u_112_171, u_112_172, u_112_175, u_112_178, u_112_179, u_112_182, u_112_186, u_112_189, u_112_190, u_112_193, u_112_194, u_112_195, u_112_198, u_112_199, u_112_200, u_112_203, u_112_204, u_112_207, u_112_210, u_112_211, u_112_214, u_112_217, u_112_218, u_112_221, u_112_224, u_112_225, u_112_228, u_112_229, u_112_232, u_112_235, gI0, gIs, gR0, gRs, gF0, gFs, st0, st_i, st_r, st_f, st_n, st_s, true_and, and_true, ↓ifLeT, ↓ifLeF, ↓ifLtT, ↓ifLtF, ↓ifEqT, ↓ifEqF, if_tt, if_ff, if_pos, if_neg, nLe, nLt, nEq, nInT, nCl, pk_mul, nI_add, Nat.reduceAdd, s_cat_nil, s_cat_i, s_cat_r, s_cat_f, s_cat_l, tl_s, tl_n, cat_i, cat_r, cat_f, nb0, nb1, nbI, if_bI, if_bIr, Nat.zero_le, Nat.reduceLeDiff, S_ob0, S_ob239, S_g0_0, S_g0_1, S_g0_2, S_g0_3, S_g0_4, S_g0_5, S_g0_6, S_g0_7, S_g0_8, S_g0_9, S_g0_10, S_g0_11, S_g0_12, S_g0_13, S_g0_14, S_g1_0, S_g1_1, S_g1_2, S_g1_3, S_g1_4, S_g72_0, S_g72_1, S_g72_2, S_g239_0, S_g239_1, S_g239_2, S_g239_3, S_g239_4, S_g239_5, S_g239_6, S_a23, S_n23, S_a282, S_n282, S_a300, S_n300, S_n73, S_n299, K_g4, hl]
          refine f_better (d := d + 12) hI' hq fun s2 hI2 hr => ?_
          simp (disch := omega) only [u_112_0, u_112_1, u_112_4, u_112_7, u_112_8, u_112_9, u_112_12, u_112_13, u_112_14, u_112_17, u_112_18, u_112_19, u_112_22, u_112_23, u_112_24, u_112_27, u_112_28, u_112_31, u_112_34, u_112_35, u_112_36, u_112_39, u_112_40, u_112_41, u_112_44, u_112_45, u_112_48, u_112_51, u_112_52, u_112_53, u_112_56, u_112_57, u_112_60, u_112_63, u_112_64, u_112_65, u_112_68, u_112_69, u_112_72, u_112_75, u_112_76, u_112_79, u_112_80, u_112_81, u_112_108, u_112_109, u_112_112, u_112_113, u_112_116, u_112_117, u_112_120, u_112_123, u_112_126, u_112_127, u_112_130, u_112_131, u_112_134, u_112_135, u_112_138, u_112_141, u_112_144, u_112_145, u_112_148, u_112_149, u_112_152, u_112_153, u_112_154, u_112_157, u_112_160, u_112_163, u_112_164, u_112_167, u_112_168, u_112_171, u_112_172, u_112_175, u_112_178, u_112_179, u_112_182, u_112_186, u_112_189, u_112_190, u_112_193, u_112_194, u_112_195, u_112_198, u_112_199, u_112_200, u_112_203, u_112_204, u_112_207, u_112_210, u_112_211, u_112_214, u_112_217, u_112_218, u_112_221, u_112_224, u_112_225, u_112_228, u_112_229, u_112_232, u_112_235, gI0, gIs, gR0, gRs, gF0, gFs, st0, st_i, st_r, st_f, st_n, st_s, true_and, and_true, ↓ifLeT, ↓ifLeF, ↓ifLtT, ↓ifLtF, ↓ifEqT, ↓ifEqF, if_tt, if_ff, if_pos, if_neg, nLe, nLt, nEq, nInT, nCl, pk_mul, nI_add, Nat.reduceAdd, s_cat_nil, s_cat_i, s_cat_r, s_cat_f, s_cat_l, tl_s, tl_n, cat_i, cat_r, cat_f, nb0, nb1, nbI, if_bI, if_bIr, Nat.zero_le, Nat.reduceLeDiff]
          exact follow_t (d := d + 16) (k := 3) cb295 hI2 hq (RB_F hr) K
/-! the first of the greatest -/
theorem lo_rel (hn : wfN n) (hy : RY y n) {c : Nat} (hc : c < 4) : loY y c = nI (planN n c) := by
  have hp := hy.2.2.2 c hc
  have h8 := hn.1.2.1
  unfold loY planN
  rw [hp.1]
  have key : ∀ m j x, j + m = (nL n c).length → iter (loF y c) j m (nI x) = nI (x + sumN (fun k => leftN n ((nL n c).getD (j + k) 0)) m) := by
    intro m
    induction m with
    | zero => intro j x hj; rfl
    | succ m ih =>
      intro j x hj
      have hj' : j < (nL n c).length := by omega
      have e := hp.2 j hj'
      have ht := (hn.2.2.2.2.1 c).2 _ (getD_mem hj')
      obtain ⟨-, a13, -, -, a16, -, -⟩ := hy.2.2.1 _ ht
      obtain ⟨-, -, -, -, -, a6, -⟩ := hn.2.2.1 _ ht
      have e2 : loF y c j (nI x) = nI (x + leftN n ((nL n c).getD j 0)) := by
        unfold loF
        rw [e, if_pos ⟨nI_le (Nat.zero_le _) (by omega), by rw [hy.1.2.2.2.1]; exact nI_lt ht (by omega)⟩, nCl (by omega), a13, a16, pk_sub a6, nI_add]
        rfl
      rw [iter, e2, ih (j + 1) _ (by omega), sum_shift]
      have : sumN (fun k => leftN n ((nL n c).getD (j + 1 + k) 0)) m = sumN (fun k => leftN n ((nL n c).getD (j + (k + 1)) 0)) m := sum_cong fun k _ => by rw [show j + 1 + k = j + (k + 1) by omega]
      rw [this]
      simp only [Nat.add_zero]
      rw [Nat.add_assoc]
  have := key (nL n c).length 0 0 (Nat.zero_add _)
  rw [this, Nat.zero_add]
  congr 1
  exact sum_cong fun k _ => by rw [Nat.zero_add]
theorem plan_bd (hn : wfN n) {c : Nat} : planN n c ≤ 728 := by
  have h8 := wfL_len hn.1 hn.2.2.2 c
  have : planN n c ≤ (nL n c).length * 91 := sum_bd fun k hk => left_le hn.2.2.1 ((hn.2.2.2.2.1 c).2 _ (getD_mem hk))
  have : (nL n c).length * 91 ≤ 8 * 91 := Nat.mul_le_mul_right _ h8
  omega
theorem q_most (hI : IC s z) : MT (d + 5) 126 [.ref 0, .int w] (pS s h) Q ↔ Q (some (.int (zmost z w))) (pS s h) := by
  rw [MT_go (by decide) _ _ _ (Nat.le_of_ble_eq_true rfl), show s_entry 126 [.ref 0, .int w] = [.ref 0, .int w] from rfl]
  have e0 := fun Q => q_has (d := d + 3) (h := h) (Q := Q) hI
  unfold zmost
  cases hq : zQ z with
  | none =>
    simp (disch := omega) only [u_126_0, u_126_1, u_126_4, u_126_7, u_126_8, u_126_9, u_126_10, u_126_40, u_126_41, u_126_44, u_126_47, u_126_48, u_126_49, u_126_52, u_126_55, u_126_56, u_126_57, u_126_60, u_126_63, u_126_64, u_126_65, u_126_68, u_126_71, u_126_72, u_126_73, gI0, gIs, gR0, gRs, gF0, gFs, st0, st_i, st_r, st_f, st_n, st_s, true_and, and_true, ↓ifLeT, ↓ifLeF, ↓ifLtT, ↓ifLtF, ↓ifEqT, ↓ifEqF, if_tt, if_ff, if_pos, if_neg, nLe, nLt, nEq, nInT, nCl, pk_mul, nI_add, Nat.reduceAdd, s_cat_nil, s_cat_i, s_cat_r, s_cat_f, s_cat_l, tl_s, tl_n, cat_i, cat_r, cat_f, nb0, nb1, nbI, if_bI, if_bIr, Nat.zero_le, Nat.reduceLeDiff, S_ob0, e0, hq, Option.isSome, iBf]
  | some n =>
    obtain ⟨hy, hok⟩ := IC_y hI hq
    have hn := hok.1
    have h4 := hn.1.1
    have h8 := hn.1.2.1
    have hb := hn.1.2.2.2.1
    have hb2 := hn.1.2.2.1
    have h1 := hok.2.1
    have fC := hy.1.2.2.1
    have fT := hy.1.2.2.2.1
    have hs := RP_okS hn.1 hn.2.2.2 hy.2.2.2
    have e1 := fun Q => tl_Y (s := s) (h := h) (Q := Q) yb24 fun h Q => m_busiestCrane (d := d + 1) (a := 24) (y := SY s 24) (h := h) (Q := Q) (by omega) hs (by omega) (by omega)
    have e2 := fun Q => tl_Y (s := s) (h := h) (Q := Q) yb24 fun h Q => m_busiestBay (d := d + 2) (a := 24) (y := SY s 24) (B := nF n 0) (h := h) (Q := Q) (by omega) hy.1.1 (by omega) (by omega)
    have e3 := fun Q => tl_Y (s := s) (h := h) (Q := Q) yb24 fun h Q => m_longestTask (d := d + 3) (a := 24) (y := SY s 24) (h := h) (Q := Q) (by omega)
    have e4 := fun Q => tl_Y (s := s) (h := h) (Q := Q) yb24 fun h Q => m_wildest (d := d + 3) (a := 24) (y := SY s 24) (h := h) (Q := Q) (by omega) (by omega)
    have g1 : bcY (SY s 24) = topN (planN n) (nF n 2) := by
      unfold bcY topN
      rw [fC]
      refine iter_cg (P := fun q => q < nF n 2) (N := nF n 2) (fun i q hi hq2 => ?_) _ _ _ (by omega) (by omega)
      have : bcF (SY s 24) i q = if planN n q < planN n i then i else q := by
        unfold bcF
        rw [lo_rel hn hy (by omega), lo_rel hn hy (by omega)]
        have b1 := plan_bd hn (c := q)
        have b2 := plan_bd hn (c := i)
        by_cases g : planN n q < planN n i
        · rw [if_pos g, if_pos (nI_lt g (by omega))]
        · rw [if_neg g, if_neg (nI_nlt (by omega) (by omega))]
      refine ⟨this, ?_⟩
      rw [this]
      split <;> omega
    have g2 : bbY (SY s 24) (nF n 0) = topN (fun b => crowdN n b (b + 1)) (nF n 0) := by
      unfold bbY topN
      refine iter_cg (P := fun q => q < nF n 0) (N := nF n 0) (fun i q hi hq2 => ?_) _ _ _ (by omega) (by omega)
      have : bbF (SY s 24) i q = if crowdN n q (q + 1) < crowdN n i (i + 1) then i else q := by
        unfold bbF
        rw [lw_rel hn hy (by omega) (by omega), lw_rel hn hy (by omega) (by omega)]
        have b1 := crowd_bd hn (lo := q) (hi := q + 1)
        have b2 := crowd_bd hn (lo := i) (hi := i + 1)
        by_cases g : crowdN n q (q + 1) < crowdN n i (i + 1)
        · rw [if_pos g, if_pos (nI_lt g (by omega))]
        · rw [if_neg g, if_neg (nI_nlt (by omega) (by omega))]
      refine ⟨this, ?_⟩
      rw [this]
      split <;> omega
    have g3 : oI1 (ltY (SY s 24)) = if nF n 3 = 0 then -1 else nI (topN (nA n 13) (nF n 3)) := by
      unfold ltY topN
      rw [fT]
      by_cases g0 : nF n 3 = 0
      · rw [if_pos g0, g0]; rfl
      · rw [if_neg g0]
        obtain ⟨k, hk⟩ : ∃ k, nF n 3 = k + 1 := ⟨nF n 3 - 1, by omega⟩
        have key : ∀ m i q, i + m = nF n 3 → q < i → iter (ltF (SY s 24)) i m (some q) = some (iter (fun i b => if nA n 13 b < nA n 13 i then i else b) i m q) := by
          intro m
          induction m with
          | zero => intro i q _ _; rfl
          | succ m ih =>
            intro i q hi hq2
            rw [iter, iter]
            have a1 := (hy.2.2.1 i (by omega)).2.1
            have a2 := (hy.2.2.1 q (by omega)).2.1
            have b1 := (hn.2.2.1 i (by omega)).2.2.1
            have b2 := (hn.2.2.1 q (by omega)).2.2.1
            have : ltF (SY s 24) i (some q) = some (if nA n 13 q < nA n 13 i then i else q) := by
              unfold ltF
              simp only [a1, a2]
              by_cases g : nA n 13 q < nA n 13 i
              · rw [if_pos g, if_pos (nI_lt g (by omega))]
              · rw [if_neg g, if_neg (nI_nlt (by omega) (by omega))]
            rw [this]
            exact ih (i + 1) _ (by omega) (by split <;> omega)
        rw [hk, iter]
        have : ltF (SY s 24) 0 none = some 0 := rfl
        rw [this, key k 1 0 (by omega) (by omega)]
        rfl
    have g4 : wcY (SY s 24) = topN (fun c => (nW n c).toNat) (nF n 2) := by
      unfold wcY topN
      rw [fC]
      refine iter_cg (P := fun q => q < nF n 2) (N := nF n 2) (fun i q hi hq2 => ?_) _ _ _ (by omega) (by omega)
      have : wcF (SY s 24) i q = if (nW n q).toNat < (nW n i).toNat then i else q := by
        unfold wcF
        rw [(hy.2.1.1 i hi).2.2, (hy.2.1.1 q hq2).2.2]
        have w1 := good_fin (hn.2.1.1 i hi).2.2.2
        have w2 := good_fin (hn.2.1.1 q hq2).2.2.2
        rw [fcmp_v w1 w2]
        unfold compareOfLessAndEq
        by_cases c1 : (nW n i).toNat < (nW n q).toNat
        · rw [if_pos c1, if_pos (by decide), if_neg (by omega)]
        · rw [if_neg c1]
          by_cases c2 : (nW n i).toNat = (nW n q).toNat
          · rw [if_pos c2, if_pos (by decide), if_neg (by omega)]
          · rw [if_neg c2, if_neg (by decide), if_pos (by omega)]
      refine ⟨this, ?_⟩
      rw [this]
      split <;> omega
    rw [g1] at e1
    rw [g2] at e2
    rw [g3] at e3
    rw [g4] at e4
    simp (maxSteps := 2000000) (disch := omega) only [u_126_0, u_126_1, u_126_4, u_126_7, u_126_8, u_126_9, u_126_10, u_126_40, u_126_41, u_126_44, u_126_47, u_126_48, u_126_49, u_126_52, u_126_55, u_126_56, u_126_57, u_126_60, u_126_63, u_126_64, u_126_65, u_126_68, u_126_71, u_126_72, u_126_73, gI0, gIs, gR0, gRs, gF0, gFs, st0, st_i, st_r, st_f, st_n, st_s, true_and, and_true, ↓ifLeT, ↓ifLeF, ↓ifLtT, ↓ifLtF, ↓ifEqT, ↓ifEqF, if_tt, if_ff, if_pos, if_neg, nLe, nLt, nEq, nInT, nCl, pk_mul, nI_add, Nat.reduceAdd, s_cat_nil, s_cat_i, s_cat_r, s_cat_f, s_cat_l, tl_s, tl_n, cat_i, cat_r, cat_f, nb0, nb1, nbI, if_bI, if_bIr, Nat.zero_le, Nat.reduceLeDiff, S_ob0, S_g0_0, S_g0_1, S_g0_2, S_g0_3, S_g0_4, S_g0_5, S_g0_6, S_g0_7, S_g0_8, S_g0_9, S_g0_10, S_g0_11, S_g0_12, S_g0_13, S_g0_14, S_g1_0, S_g1_1, S_g1_2, S_g1_3, S_g1_4, S_g72_0, S_g72_1, S_g72_2, S_g239_0, S_g239_1, S_g239_2, S_g239_3, S_g239_4, S_g239_5, S_g239_6, S_a23, S_n23, S_a282, S_n282, S_a300, S_n300, S_n73, S_n299, Y'_ob (isY_S yb24), Y'_g0 (isY_S yb24), Y'_g1 (isY_S yb24), Y'_g2 (isY_S yb24), Y'_g3 (isY_S yb24), Y'_g4 (isY_S yb24), Y'_g5 (isY_S yb24), Y'_g6 (isY_S yb24), Y'_g7 (isY_S yb24), Y'_g8 (isY_S yb24), Y'_g9 (isY_S yb24), Y'_g10 (isY_S yb24), Y'_g11 (isY_S yb24), Y'_g12 (isY_S yb24), Y'_g13 (isY_S yb24), Y'_g14 (isY_S yb24), Y'_g15 (isY_S yb24), Y'_g16 (isY_S yb24), Y'_g17 (isY_S yb24), Y'_g18 (isY_S yb24), Y'_g19 (isY_S yb24), Y'_a7 (isY_S yb24), Y'_a8 (isY_S yb24), Y'_a10 (isY_S yb24), Y'_a11 (isY_S yb24), Y'_a12 (isY_S yb24), Y'_a13 (isY_S yb24), Y'_a14 (isY_S yb24), Y'_a15 (isY_S yb24), Y'_a16 (isY_S yb24), Y'_a17 (isY_S yb24), Y'_a18 (isY_S yb24), Y'_sw (isY_S yb24), e0, hq, Option.isSome, iBt, nI10, reduceIte, swt_c, swt_n, e1, e2, e3, e4]
    exact iff_ite (P := fun v => Q (some (.int v)) (pS s h)) (fun _ => Iff.rfl) fun _ => iff_ite (P := fun v => Q (some (.int v)) (pS s h)) (fun _ => Iff.rfl) fun _ => iff_ite (P := fun v => Q (some (.int v)) (pS s h)) (fun _ => Iff.rfl) fun _ => iff_ite (P := fun v => Q (some (.int v)) (pS s h)) (fun _ => Iff.rfl) fun _ => Iff.rfl
end Q7
