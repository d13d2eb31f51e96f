/-! Reader: a crane -/
section RC
variable {a b d m : Nat} {s : tS} {h : sH} {i x lo hi : Int32} {Q : sQ}
def lstC (y : tY) : Int32 := if yC y = 0 then nI 0 else yA y 7 (yC y - 1) + yB y 1
def rdC (t : tO) (y : tY) : Bool × tO × tY :=
  if nmB t 2 (lstC y) (yB y 0 - nI 1) then
    (if isWB (advT (nmT t 2)) 3 then
      (if nmB (advT (nmT t 2)) 3 (nI 1) (nI 99) then (true, advT (nmT (advT (nmT t 2)) 3), addC y (eI (nmT t 2) 4) (eI (nmT (advT (nmT t 2)) 3) 4))
      else (false, nmT (advT (nmT t 2)) 3, y))
    else (true, advT (nmT t 2), addC y (eI (nmT t 2) 4) (nI 99)))
  else (false, nmT t 2, y)
def s24 (s : tS) (t : tO) (y : tY) : tS := wSY (wSO s 2 t) 4 y
theorem s24_y {t : tO} : s24 s t (SY s 4) = wSO s 2 t := wSY_eta (s := wSO s 2 t)
theorem S_addCrane {w l : Int32} (hc : yC (SY s 4) ≤ 4) : MT (d + 1) 66 [.ref 4, .int w, .int l] (pS s h) Q ↔ Q none (pS (wSY s 4 (addC (SY s 4) w l)) h) := tr_Y yb4 fun h Q => m_addCrane hc
theorem m_readsCrane (hc : yC (SY s 4) ≤ 4) (ht : okT (SO s 2)) : MT (d + 4) 37 [.ref 1] (pS s h) Q ↔ Q (some (.int (iB (rdC (SO s 2) (SY s 4)).1))) (pS (s24 s (rdC (SO s 2) (SY s 4)).2.1 (rdC (SO s 2) (SY s 4)).2.2) h) := by
  rw [MT_go (by decide) _ _ _ (Nat.le_of_ble_eq_true rfl), show s_entry 37 [.ref 1] = [.ref 1, s_no, s_no, s_no] from rfl]
  have g := isY_S (s := s) (h := h) yb4
  have s1 : WP (d + 3) 37 0 [.ref 1, s_no, s_no, s_no] [] (pS s h) (0, 0) Q ↔ WP (d + 3) 37 40 [.ref 1, .int (lstC (SY s 4)), s_no, s_no] [] (pS s h) (0, 0) Q := by
    unfold lstC
    by_cases h0 : yC (SY s 4) = 0
    · rw [if_pos h0]
      simp (disch := omega) only [u_37_0, u_37_1, u_37_4, u_37_7, u_37_10, u_37_11, u_37_14, u_37_15, u_37_18, u_37_21, u_37_22, u_37_25, u_37_28, u_37_29, u_37_30, u_37_31, u_37_32, u_37_35, u_37_38, u_37_39, gI0, gIs, gR0, gRs, gF0, gFs, st0, st_i, st_r, st_f, st_n, st_s, true_and, and_true, ↓ifLeT, ↓ifLeF, ↓ifLtT, ↓ifLtF, ↓ifEqT, ↓ifEqF, if_tt, if_ff, if_pos, if_neg, nLe, nLt, nEq, nInT, nCl, pk_mul, nI_add, Nat.reduceAdd, s_cat_nil, s_cat_i, s_cat_r, s_cat_f, s_cat_l, tl_s, tl_n, cat_i, cat_r, cat_f, nb0, nb1, nbI, if_bI, if_bIr, Nat.zero_le, Nat.reduceLeDiff, S_g0_0, S_g0_1, S_g0_2, S_g0_3, S_g0_4, S_g0_5, S_g0_6, S_g0_7, S_g0_8, S_g0_9, S_g0_10, S_g0_11, S_g0_12, S_g0_13, S_g0_14, S_g1_0, S_g1_1, S_g1_2, S_g1_3, S_g1_4, S_g72_0, S_g72_1, S_g72_2, S_g239_0, S_g239_1, S_g239_2, S_g239_3, S_g239_4, S_g239_5, S_g239_6, S_a23, S_n23, S_a282, S_n282, S_a300, S_n300, S_n73, S_n299, Y'_g2 g, h0]
    · rw [if_neg h0]
      have h1 : vp_in (nI (yC (SY s 4) - 1)) 4 := (nIn (by omega)).mpr (by omega)
      simp (disch := omega) only [u_37_0, u_37_1, u_37_4, u_37_7, u_37_10, u_37_11, u_37_14, u_37_15, u_37_18, u_37_21, u_37_22, u_37_25, u_37_28, u_37_29, u_37_30, u_37_31, u_37_32, u_37_35, u_37_38, u_37_39, gI0, gIs, gR0, gRs, gF0, gFs, st0, st_i, st_r, st_f, st_n, st_s, true_and, and_true, ↓ifLeT, ↓ifLeF, ↓ifLtT, ↓ifLtF, ↓ifEqT, ↓ifEqF, if_tt, if_ff, if_pos, if_neg, nLe, nLt, nEq, nInT, nCl, pk_mul, nI_add, Nat.reduceAdd, s_cat_nil, s_cat_i, s_cat_r, s_cat_f, s_cat_l, tl_s, tl_n, cat_i, cat_r, cat_f, nb0, nb1, nbI, if_bI, if_bIr, Nat.zero_le, Nat.reduceLeDiff, S_g0_0, S_g0_1, S_g0_2, S_g0_3, S_g0_4, S_g0_5, S_g0_6, S_g0_7, S_g0_8, S_g0_9, S_g0_10, S_g0_11, S_g0_12, S_g0_13, S_g0_14, S_g1_0, S_g1_1, S_g1_2, S_g1_3, S_g1_4, S_g72_0, S_g72_1, S_g72_2, S_g239_0, S_g239_1, S_g239_2, S_g239_3, S_g239_4, S_g239_5, S_g239_6, S_a23, S_n23, S_a282, S_n282, S_a300, S_n300, S_n73, S_n299, Y'_g2 g, Y'_g7 g, Y'_a7 g, Y'_g1 g, pk_sub, h0, reduceIte]
  refine s1.trans ?_
  generalize htt : SO s 2 = t at ht
  generalize hyy : SY s 4 = y
  have e1 := fun Q => m_isNamed (d := d) (s := s) (h := h) (j := 2) (lo := lstC y) (hi := yB y 0 - nI 1) (Q := Q) (by decide) (by rw [htt]; exact ht)
  rw [htt] at e1
  have e1 : ∀ Q, MT (d + 3) 35 [.ref 1, .ref 1000003, .int (lstC y), .int (yB y 0 - nI 1)] (pS s h) Q ↔ Q (some (.int (iB (nmB t 2 (lstC y) (yB y 0 - nI 1))))) (pS (wSO s 2 (nmT t 2)) h) := e1
  unfold rdC
  have o1 : okT (nmT t 2) := okT_nm ht
  generalize nmT t 2 = t1 at e1 o1
  have o2 : okT (advT t1) := okT_adv (okT_0 o1)
  cases c1 : nmB t 2 (lstC y) (yB y 0 - nI 1) with
  | false =>
    rw [if_neg (show ¬ (false = true) by decide)]
    show _ ↔ Q (some (.int (iB false))) (pS (s24 s t1 y) h)
    rw [← hyy, s24_y, hyy]
    simp (disch := omega) only [u_37_40, u_37_41, u_37_43, u_37_44, u_37_45, u_37_48, u_37_51, u_37_52, u_37_53, u_37_56, u_37_59, u_37_60, gI0, gIs, gR0, gRs, gF0, gFs, st0, st_i, st_r, st_f, st_n, st_s, true_and, and_true, ↓ifLeT, ↓ifLeF, ↓ifLtT, ↓ifLtF, ↓ifEqT, ↓ifEqF, if_tt, if_ff, if_pos, if_neg, nLe, nLt, nEq, nInT, nCl, pk_mul, nI_add, Nat.reduceAdd, s_cat_nil, s_cat_i, s_cat_r, s_cat_f, s_cat_l, tl_s, tl_n, cat_i, cat_r, cat_f, nb0, nb1, nbI, if_bI, if_bIr, Nat.zero_le, Nat.reduceLeDiff, S_g0_0, S_g0_1, S_g0_2, S_g0_3, S_g0_4, S_g0_5, S_g0_6, S_g0_7, S_g0_8, S_g0_9, S_g0_10, S_g0_11, S_g0_12, S_g0_13, S_g0_14, S_g1_0, S_g1_1, S_g1_2, S_g1_3, S_g1_4, S_g72_0, S_g72_1, S_g72_2, S_g239_0, S_g239_1, S_g239_2, S_g239_3, S_g239_4, S_g239_5, S_g239_6, S_a23, S_n23, S_a282, S_n282, S_a300, S_n300, S_n73, S_n299, S_ob1, Y'_g0 g, hyy, e1, c1, iBf]
  | true =>
    rw [if_pos rfl]
    have e2 := fun Q => T_taken (d := d) (s := wSO s 2 t1) (h := h) (Q := Q) (okT_0 o1)
    have e3 := fun Q => T_isWord (d := d + 1) (s := wSO s 2 (advT t1)) (h := h) (j := 3) (Q := Q) (by decide) o2
    have e4 := fun Q => m_isNamed (d := d) (s := wSO s 2 (advT t1)) (h := h) (j := 3) (lo := nI 1) (hi := nI 99) (Q := Q) (by decide) o2
    have e2 : ∀ Q, MT (d + 3) 59 [.ref 2] (pS (wSO s 2 t1) h) Q ↔ Q (some (.int (eI t1 4))) (pS (wSO (wSO s 2 t1) 2 (advT t1)) h) := e2
    have e3 : ∀ Q, MT (d + 3) 57 [.ref 2, .ref 1000004] (pS (wSO s 2 (advT t1)) h) Q ↔ Q (some (.int (iB (isWB (advT t1) 3)))) (pS (wSO s 2 (advT t1)) h) := e3
    have e4 : ∀ Q, MT (d + 3) 35 [.ref 1, .ref 1000004, .int (nI 1), .int (nI 99)] (pS (wSO s 2 (advT t1)) h) Q ↔ Q (some (.int (iB (nmB (advT t1) 3 (nI 1) (nI 99))))) (pS (wSO (wSO s 2 (advT t1)) 2 (nmT (advT t1) 3)) h) := e4
    simp only [wSO_tw] at e2 e4
    have s2 : WP (d + 3) 37 40 [.ref 1, .int (lstC y), s_no, s_no] [] (pS s h) (0, 0) Q ↔ WP (d + 3) 37 72 [.ref 1, .int (lstC y), .int (eI t1 4), .int (nI 99)] [] (pS (wSO s 2 (advT t1)) h) (0, 0) Q := by
      simp (disch := omega) only [u_37_40, u_37_41, u_37_43, u_37_44, u_37_45, u_37_48, u_37_51, u_37_52, u_37_53, u_37_56, u_37_59, u_37_60, u_37_61, u_37_62, u_37_65, u_37_68, u_37_69, u_37_71, gI0, gIs, gR0, gRs, gF0, gFs, st0, st_i, st_r, st_f, st_n, st_s, true_and, and_true, ↓ifLeT, ↓ifLeF, ↓ifLtT, ↓ifLtF, ↓ifEqT, ↓ifEqF, if_tt, if_ff, if_pos, if_neg, nLe, nLt, nEq, nInT, nCl, pk_mul, nI_add, Nat.reduceAdd, s_cat_nil, s_cat_i, s_cat_r, s_cat_f, s_cat_l, tl_s, tl_n, cat_i, cat_r, cat_f, nb0, nb1, nbI, if_bI, if_bIr, Nat.zero_le, Nat.reduceLeDiff, S_g0_0, S_g0_1, S_g0_2, S_g0_3, S_g0_4, S_g0_5, S_g0_6, S_g0_7, S_g0_8, S_g0_9, S_g0_10, S_g0_11, S_g0_12, S_g0_13, S_g0_14, S_g1_0, S_g1_1, S_g1_2, S_g1_3, S_g1_4, S_g72_0, S_g72_1, S_g72_2, S_g239_0, S_g239_1, S_g239_2, S_g239_3, S_g239_4, S_g239_5, S_g239_6, S_a23, S_n23, S_a282, S_n282, S_a300, S_n300, S_n73, S_n299, S_ob1, T_ob, Y'_g0 g, hyy, e1, c1, iBt, nI10, reduceIte, e2]
    rw [s2]
    have ad := fun t w l Q => S_addCrane (d := d + 2) (s := wSO s 2 t) (h := h) (w := w) (l := l) (Q := Q) hc
    have ad : ∀ t w l Q, MT (d + 3) 66 [.ref 4, .int w, .int l] (pS (wSO s 2 t) h) Q ↔ Q none (pS (wSY (wSO s 2 t) 4 (addC (SY s 4) w l)) h) := ad
    rw [hyy] at ad
    have yo := fun t (c : Nat) => Y'_ob (c := c) (isY_S (s := wSO s 2 t) (h := h) yb4)
    cases c2 : isWB (advT t1) 3 with
    | false =>
      rw [if_neg (show ¬ (false = true) by decide)]
      show _ ↔ Q (some (.int (iB true))) (pS (s24 s (advT t1) (addC y (eI t1 4) (nI 99))) h)
      simp (disch := omega) only [u_37_72, u_37_73, u_37_76, u_37_78, u_37_81, u_37_106, u_37_107, u_37_110, u_37_111, u_37_112, u_37_115, u_37_116, gI0, gIs, gR0, gRs, gF0, gFs, st0, st_i, st_r, st_f, st_n, st_s, true_and, and_true, ↓ifLeT, ↓ifLeF, ↓ifLtT, ↓ifLtF, ↓ifEqT, ↓ifEqF, if_tt, if_ff, if_pos, if_neg, nLe, nLt, nEq, nInT, nCl, pk_mul, nI_add, Nat.reduceAdd, s_cat_nil, s_cat_i, s_cat_r, s_cat_f, s_cat_l, tl_s, tl_n, cat_i, cat_r, cat_f, nb0, nb1, nbI, if_bI, if_bIr, Nat.zero_le, Nat.reduceLeDiff, S_g0_0, S_g0_1, S_g0_2, S_g0_3, S_g0_4, S_g0_5, S_g0_6, S_g0_7, S_g0_8, S_g0_9, S_g0_10, S_g0_11, S_g0_12, S_g0_13, S_g0_14, S_g1_0, S_g1_1, S_g1_2, S_g1_3, S_g1_4, S_g72_0, S_g72_1, S_g72_2, S_g239_0, S_g239_1, S_g239_2, S_g239_3, S_g239_4, S_g239_5, S_g239_6, S_a23, S_n23, S_a282, S_n282, S_a300, S_n300, S_n73, S_n299, T_ob, e3, c2, iBf, iBt, ad, yo]
      exact Iff.rfl
    | true =>
      rw [if_pos rfl]
      have o3 : okT (nmT (advT t1) 3) := okT_nm o2
      generalize nmT (advT t1) 3 = t3 at e4 o3
      have e5 := fun Q => T_taken (d := d) (s := wSO s 2 t3) (h := h) (Q := Q) (okT_0 o3)
      have e5 : ∀ Q, MT (d + 3) 59 [.ref 2] (pS (wSO s 2 t3) h) Q ↔ Q (some (.int (eI t3 4))) (pS (wSO (wSO s 2 t3) 2 (advT t3)) h) := e5
      simp only [wSO_tw] at e5
      cases c3 : nmB (advT t1) 3 (nI 1) (nI 99) with
      | false =>
        rw [if_neg (show ¬ (false = true) by decide)]
        show _ ↔ Q (some (.int (iB false))) (pS (s24 s t3 y) h)
        rw [← hyy, s24_y]
        simp (disch := omega) only [u_37_72, u_37_73, u_37_76, u_37_78, u_37_81, u_37_84, u_37_85, u_37_87, u_37_88, u_37_90, u_37_93, u_37_96, u_37_97, gI0, gIs, gR0, gRs, gF0, gFs, st0, st_i, st_r, st_f, st_n, st_s, true_and, and_true, ↓ifLeT, ↓ifLeF, ↓ifLtT, ↓ifLtF, ↓ifEqT, ↓ifEqF, if_tt, if_ff, if_pos, if_neg, nLe, nLt, nEq, nInT, nCl, pk_mul, nI_add, Nat.reduceAdd, s_cat_nil, s_cat_i, s_cat_r, s_cat_f, s_cat_l, tl_s, tl_n, cat_i, cat_r, cat_f, nb0, nb1, nbI, if_bI, if_bIr, Nat.zero_le, Nat.reduceLeDiff, S_g0_0, S_g0_1, S_g0_2, S_g0_3, S_g0_4, S_g0_5, S_g0_6, S_g0_7, S_g0_8, S_g0_9, S_g0_10, S_g0_11, S_g0_12, S_g0_13, S_g0_14, S_g1_0, S_g1_1, S_g1_2, S_g1_3, S_g1_4, S_g72_0, S_g72_1, S_g72_2, S_g239_0, S_g239_1, S_g239_2, S_g239_3, S_g239_4, S_g239_5, S_g239_6, S_a23, S_n23, S_a282, S_n282, S_a300, S_n300, S_n73, S_n299, S_ob1, T_ob, e3, c2, iBt, nI10, reduceIte, e4, c3, iBf]
      | true =>
        rw [if_pos rfl]
        show _ ↔ Q (some (.int (iB true))) (pS (s24 s (advT t3) (addC y (eI t1 4) (eI t3 4))) h)
        simp (disch := omega) only [u_37_72, u_37_73, u_37_76, u_37_78, u_37_81, u_37_84, u_37_85, u_37_87, u_37_88, u_37_90, u_37_93, u_37_96, u_37_97, u_37_98, u_37_99, u_37_102, u_37_105, u_37_106, u_37_107, u_37_110, u_37_111, u_37_112, u_37_115, u_37_116, gI0, gIs, gR0, gRs, gF0, gFs, st0, st_i, st_r, st_f, st_n, st_s, true_and, and_true, ↓ifLeT, ↓ifLeF, ↓ifLtT, ↓ifLtF, ↓ifEqT, ↓ifEqF, if_tt, if_ff, if_pos, if_neg, nLe, nLt, nEq, nInT, nCl, pk_mul, nI_add, Nat.reduceAdd, s_cat_nil, s_cat_i, s_cat_r, s_cat_f, s_cat_l, tl_s, tl_n, cat_i, cat_r, cat_f, nb0, nb1, nbI, if_bI, if_bIr, Nat.zero_le, Nat.reduceLeDiff, S_g0_0, S_g0_1, S_g0_2, S_g0_3, S_g0_4, S_g0_5, S_g0_6, S_g0_7, S_g0_8, S_g0_9, S_g0_10, S_g0_11, S_g0_12, S_g0_13, S_g0_14, S_g1_0, S_g1_1, S_g1_2, S_g1_3, S_g1_4, S_g72_0, S_g72_1, S_g72_2, S_g239_0, S_g239_1, S_g239_2, S_g239_3, S_g239_4, S_g239_5, S_g239_6, S_a23, S_n23, S_a282, S_n282, S_a300, S_n300, S_n73, S_n299, S_ob1, T_ob, e3, c2, iBt, nI10, reduceIte, e4, c3, e5, ad, yo]
        exact Iff.rfl
end RC
