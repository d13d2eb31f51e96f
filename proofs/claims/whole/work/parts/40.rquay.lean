/-! Reader: QUAY -/
section RQ
variable {a b d m : Nat} {s : tS} {h : sH} {i w : Int32} {Q : sQ}
theorem SY_s0 {x : Int32} {f : sH → Prop} (hb : yb b) : fS (pS s h) b 7 0 (.int x) f ↔ f (pS (wSY s b (uS (SY s b) 0 x)) h) := by
  have e := Y_s0 (a := b) (y := SY s b) (h := pS s h) (f := f) (x := x)
  rwa [isY_S hb, S_Y hb] at e
theorem SY_s1 {x : Int32} {f : sH → Prop} (hb : yb b) : fS (pS s h) b 7 1 (.int x) f ↔ f (pS (wSY s b (uS (SY s b) 1 x)) h) := by
  have e := Y_s1 (a := b) (y := SY s b) (h := pS s h) (f := f) (x := x)
  rwa [isY_S hb, S_Y hb] at e
theorem s24_wY {t : tO} {y y' : tY} : wSY (s24 s t y) 4 y' = s24 s t y' := wSY_tw _ _ _ _
theorem q24_s0 {t : tO} {y : tY} {x : Int32} {f : sH → Prop} : fS (pS (s24 s t y) h) 4 7 0 (.int x) f ↔ f (pS (s24 s t (uS y 0 x)) h) := by
  rw [SY_s0 yb4, s24_wY, s24_Y]
theorem q24_s1 {t : tO} {y : tY} {x : Int32} {f : sH → Prop} : fS (pS (s24 s t y) h) 4 7 1 (.int x) f ↔ f (pS (s24 s t (uS y 1 x)) h) := by
  rw [SY_s1 yb4, s24_wY, s24_Y]
theorem q_next {t : tO} {y : tY} (ht : okT0 t) : MT (d + 3) 36 [.ref 1] (pS (s24 s t y) h) Q ↔ Q (some (.int (iB (decide (eI t 3 = nI 3))))) (pS (s24 s (if eI t 3 = nI 3 then advT t else t) y) h) := by
  have e := m_isNextLine (d := d) (s := s24 s t y) (h := h) (Q := Q) ht
  rw [s24_O, s24_w] at e
  exact e
theorem q_taken {t : tO} {y : tY} (ht : okT t) : MT (d + 3) 59 [.ref 2] (pS (s24 s t y) h) Q ↔ Q (some (.int (eI t 4))) (pS (s24 s (advT t) y) h) := by
  have e := T_taken (d := d) (s := s24 s t y) (h := h) (Q := Q) (okT_0 ht)
  rw [s24_O, s24_w] at e
  exact e
theorem q_named {t : tO} {y : tY} {j : Nat} {lo hi : Int32} (hj : j < 9) (ht : okT t) : MT (d + 3) 35 [.ref 1, .ref (1000001 + j), .int lo, .int hi] (pS (s24 s t y) h) Q ↔ Q (some (.int (iB (nmB t j lo hi)))) (pS (s24 s (nmT t j) y) h) := by
  have e := m_isNamed (d := d) (s := s24 s t y) (h := h) (lo := lo) (hi := hi) (Q := Q) hj ht
  rw [s24_O, s24_w] at e
  exact e
theorem q_word {t : tO} {y : tY} {j : Nat} (hj : j < 9) (ht : okT t) : MT (d + 2) 57 [.ref 2, .ref (1000001 + j)] (pS (s24 s t y) h) Q ↔ Q (some (.int (iB (isWB t j)))) (pS (s24 s t y) h) := T_isWord (s := s24 s t y) hj ht
def gpF (t : tO) (y : tY) : Bool × tO × tY := if isWB t 1 then (if nmB t 1 (nI 1) (nI 5) then (if eI (advT (nmT t 1)) 3 = nI 3 then (true, advT (advT (nmT t 1)), uS y 1 (eI (nmT t 1) 4)) else (false, advT (nmT t 1), uS y 1 (eI (nmT t 1) 4))) else (false, nmT t 1, y)) else (true, t, y)
theorem gpF_ok {t : tO} {y : tY} (ht : okT t) : okT (gpF t y).2.1 ∧ yC (gpF t y).2.2 = yC y ∧ yT (gpF t y).2.2 = yT y := by
  have o1 := okT_nm (j := 1) ht
  have o2 := okT_adv (okT_0 o1)
  unfold gpF
  split
  · split
    · split
      · exact ⟨okT_adv (okT_0 o2), rfl, rfl⟩
      · exact ⟨o2, rfl, rfl⟩
    · exact ⟨o1, rfl, rfl⟩
  · exact ⟨ht, rfl, rfl⟩
theorem quay_g {t : tO} {y : tY} (ht : okT t) : WP (d + 5) 31 51 [.ref 1, s_no] [] (pS (s24 s t y) h) (0, 0) Q ↔ if (gpF t y).1 then WP (d + 5) 31 101 [.ref 1, .int (nI 0)] [] (pS (s24 s (gpF t y).2.1 (gpF t y).2.2) h) (0, 0) Q else Q (some (.int (nI 0))) (pS (s24 s (gpF t y).2.1 (gpF t y).2.2) h) := by
  have w0 : ∀ Q, MT (d + 5) 57 [.ref 2, .ref 1000002] (pS (s24 s t y) h) Q ↔ Q (some (.int (iB (isWB t 1)))) (pS (s24 s t y) h) := fun Q => q_word (d := d + 3) (j := 1) (by decide) ht
  have e1 : ∀ Q, MT (d + 5) 35 [.ref 1, .ref 1000002, .int (nI 1), .int (nI 5)] (pS (s24 s t y) h) Q ↔ Q (some (.int (iB (nmB t 1 (nI 1) (nI 5))))) (pS (s24 s (nmT t 1) y) h) := fun Q => q_named (d := d + 2) (j := 1) (by decide) ht
  have o1 : okT (nmT t 1) := okT_nm ht
  unfold gpF
  cases c0 : isWB t 1 with
  | false =>
    rw [if_neg (show ¬ (false = true) by decide), if_pos rfl]
    simp (disch := omega) only [u_31_51, u_31_52, u_31_55, u_31_57, u_31_60, u_31_99, u_31_100, gI0, gIs, gR0, gRs, gF0, gFs, st0, st_i, st_r, st_f, st_n, st_s, true_and, and_true, ↓ifLeT, ↓ifLeF, ↓ifLtT, ↓ifLtF, ↓ifEqT, ↓ifEqF, if_tt, if_ff, if_pos, if_neg, nLe, nLt, nEq, nInT, nCl, pk_mul, nI_add, Nat.reduceAdd, s_cat_nil, s_cat_i, s_cat_r, s_cat_f, s_cat_l, tl_s, tl_n, cat_i, cat_r, cat_f, nb0, nb1, nbI, if_bI, if_bIr, Nat.zero_le, Nat.reduceLeDiff, S_g0_0, S_g0_1, S_g0_2, S_g0_3, S_g0_4, S_g0_5, S_g0_6, S_g0_7, S_g0_8, S_g0_9, S_g0_10, S_g0_11, S_g0_12, S_g0_13, S_g0_14, S_g1_0, S_g1_1, S_g1_2, S_g1_3, S_g1_4, S_g72_0, S_g72_1, S_g72_2, S_g239_0, S_g239_1, S_g239_2, S_g239_3, S_g239_4, S_g239_5, S_g239_6, S_a23, S_n23, S_a282, S_n282, S_a300, S_n300, S_n73, S_n299, T_ob, w0, c0, iBf]
  | true =>
    rw [if_pos (show true = true from rfl)]
    generalize nmT t 1 = t1 at e1 o1
    cases c1 : nmB t 1 (nI 1) (nI 5) with
    | false =>
      rw [if_neg (show ¬ (false = true) by decide), if_neg (show ¬ (false = true) by decide)]
      simp (disch := omega) only [u_31_51, u_31_52, u_31_55, u_31_57, u_31_60, u_31_63, u_31_64, u_31_66, u_31_67, u_31_68, u_31_71, u_31_74, u_31_75, gI0, gIs, gR0, gRs, gF0, gFs, st0, st_i, st_r, st_f, st_n, st_s, true_and, and_true, ↓ifLeT, ↓ifLeF, ↓ifLtT, ↓ifLtF, ↓ifEqT, ↓ifEqF, if_tt, if_ff, if_pos, if_neg, nLe, nLt, nEq, nInT, nCl, pk_mul, nI_add, Nat.reduceAdd, s_cat_nil, s_cat_i, s_cat_r, s_cat_f, s_cat_l, tl_s, tl_n, cat_i, cat_r, cat_f, nb0, nb1, nbI, if_bI, if_bIr, Nat.zero_le, Nat.reduceLeDiff, S_g0_0, S_g0_1, S_g0_2, S_g0_3, S_g0_4, S_g0_5, S_g0_6, S_g0_7, S_g0_8, S_g0_9, S_g0_10, S_g0_11, S_g0_12, S_g0_13, S_g0_14, S_g1_0, S_g1_1, S_g1_2, S_g1_3, S_g1_4, S_g72_0, S_g72_1, S_g72_2, S_g239_0, S_g239_1, S_g239_2, S_g239_3, S_g239_4, S_g239_5, S_g239_6, S_a23, S_n23, S_a282, S_n282, S_a300, S_n300, S_n73, S_n299, S_ob1, T_ob, w0, c0, iBt, nI10, reduceIte, e1, c1, iBf]
    | true =>
      rw [if_pos (show true = true from rfl)]
      have k1 := fun Q => q_taken (d := d + 2) (s := s) (h := h) (y := y) (Q := Q) o1
      have o2 : okT (advT t1) := okT_adv (okT_0 o1)
      generalize advT t1 = t2 at k1 o2
      have e2 := fun Q => q_next (d := d + 2) (s := s) (h := h) (y := uS y 1 (eI t1 4)) (Q := Q) (okT_0 o2)
      by_cases k3 : eI t2 3 = nI 3
      · simp only [k3, reduceIte, decide_true] at e2
        rw [if_pos k3, if_pos rfl]
        simp (disch := omega) only [u_31_51, u_31_52, u_31_55, u_31_57, u_31_60, u_31_63, u_31_64, u_31_66, u_31_67, u_31_68, u_31_71, u_31_74, u_31_75, u_31_76, u_31_77, u_31_80, u_31_81, u_31_84, u_31_87, u_31_90, u_31_91, u_31_94, u_31_97, u_31_98, u_31_99, u_31_100, gI0, gIs, gR0, gRs, gF0, gFs, st0, st_i, st_r, st_f, st_n, st_s, true_and, and_true, ↓ifLeT, ↓ifLeF, ↓ifLtT, ↓ifLtF, ↓ifEqT, ↓ifEqF, if_tt, if_ff, if_pos, if_neg, nLe, nLt, nEq, nInT, nCl, pk_mul, nI_add, Nat.reduceAdd, s_cat_nil, s_cat_i, s_cat_r, s_cat_f, s_cat_l, tl_s, tl_n, cat_i, cat_r, cat_f, nb0, nb1, nbI, if_bI, if_bIr, Nat.zero_le, Nat.reduceLeDiff, S_g0_0, S_g0_1, S_g0_2, S_g0_3, S_g0_4, S_g0_5, S_g0_6, S_g0_7, S_g0_8, S_g0_9, S_g0_10, S_g0_11, S_g0_12, S_g0_13, S_g0_14, S_g1_0, S_g1_1, S_g1_2, S_g1_3, S_g1_4, S_g72_0, S_g72_1, S_g72_2, S_g239_0, S_g239_1, S_g239_2, S_g239_3, S_g239_4, S_g239_5, S_g239_6, S_a23, S_n23, S_a282, S_n282, S_a300, S_n300, S_n73, S_n299, S_ob1, T_ob, w0, c0, iBt, nI10, reduceIte, e1, c1, k1, q24_s1, e2]
      · simp only [k3, reduceIte, decide_false] at e2
        rw [if_neg k3, if_neg (show ¬ (false = true) by decide)]
        simp (disch := omega) only [u_31_51, u_31_52, u_31_55, u_31_57, u_31_60, u_31_63, u_31_64, u_31_66, u_31_67, u_31_68, u_31_71, u_31_74, u_31_75, u_31_76, u_31_77, u_31_80, u_31_81, u_31_84, u_31_87, u_31_90, u_31_91, u_31_94, u_31_97, u_31_98, u_31_99, u_31_100, gI0, gIs, gR0, gRs, gF0, gFs, st0, st_i, st_r, st_f, st_n, st_s, true_and, and_true, ↓ifLeT, ↓ifLeF, ↓ifLtT, ↓ifLtF, ↓ifEqT, ↓ifEqF, if_tt, if_ff, if_pos, if_neg, nLe, nLt, nEq, nInT, nCl, pk_mul, nI_add, Nat.reduceAdd, s_cat_nil, s_cat_i, s_cat_r, s_cat_f, s_cat_l, tl_s, tl_n, cat_i, cat_r, cat_f, nb0, nb1, nbI, if_bI, if_bIr, Nat.zero_le, Nat.reduceLeDiff, S_g0_0, S_g0_1, S_g0_2, S_g0_3, S_g0_4, S_g0_5, S_g0_6, S_g0_7, S_g0_8, S_g0_9, S_g0_10, S_g0_11, S_g0_12, S_g0_13, S_g0_14, S_g1_0, S_g1_1, S_g1_2, S_g1_3, S_g1_4, S_g72_0, S_g72_1, S_g72_2, S_g239_0, S_g239_1, S_g239_2, S_g239_3, S_g239_4, S_g239_5, S_g239_6, S_a23, S_n23, S_a282, S_n282, S_a300, S_n300, S_n73, S_n299, S_ob1, T_ob, w0, c0, iBt, iBf, nI10, reduceIte, e1, c1, k1, q24_s1, e2]
/-- QUAY read -/
def rdQ (t : tO) (y : tY) : Bool × tO × tY :=
  if nmB (rewT t) 0 (nI 2) (nI 30) then
    (if eI (advT (nmT (rewT t) 0)) 3 = nI 3 then
      (if (gpF (advT (advT (nmT (rewT t) 0))) (uS (clrY y) 0 (eI (nmT (rewT t) 0) 4))).1 then rdK 4 0 (gpF (advT (advT (nmT (rewT t) 0))) (uS (clrY y) 0 (eI (nmT (rewT t) 0) 4))).2.1 (gpF (advT (advT (nmT (rewT t) 0))) (uS (clrY y) 0 (eI (nmT (rewT t) 0) 4))).2.2
      else (false, (gpF (advT (advT (nmT (rewT t) 0))) (uS (clrY y) 0 (eI (nmT (rewT t) 0) 4))).2))
    else (false, advT (nmT (rewT t) 0), uS (clrY y) 0 (eI (nmT (rewT t) 0) 4)))
  else (false, nmT (rewT t) 0, clrY y)
theorem m_readsQuay (hL : eN (SO s 2) 1 ≤ 400) : MT (d + 6) 31 [.ref 1] (pS s h) Q ↔ Q (some (.int (iB (rdQ (SO s 2) (SY s 4)).1))) (pS (s24 s (rdQ (SO s 2) (SY s 4)).2.1 (rdQ (SO s 2) (SY s 4)).2.2) h) := by
  rw [MT_go (by decide) _ _ _ (Nat.le_of_ble_eq_true rfl), show s_entry 31 [.ref 1] = [.ref 1, s_no] from rfl]
  have c0 := fun Q => tr_Y (d := d + 5) (m := 64) (s := s) (h := h) (Q := Q) yb4 (fun h Q => m_clearY (d := d + 3) (a := 4) (y := SY s 4) (h := h) (Q := Q))
  have yo := fun (c : Nat) => Y'_ob (c := c) (isY_S (s := s) (h := h) yb4)
  have r0 : ∀ Q, MT (d + 5) 55 [.ref 2] (pS (wSY s 4 (clrY (SY s 4))) h) Q ↔ Q none (pS (s24 s (rewT (SO s 2)) (clrY (SY s 4))) h) := fun Q => T_rewind (d := d + 2) (s := wSY s 4 (clrY (SY s 4))) (h := h) (Q := Q) hL
  have o0 := okT_rew hL
  unfold rdQ
  generalize rewT (SO s 2) = t0 at r0 o0
  have y1 : yC (clrY (SY s 4)) = 0 := rfl
  have y2 : yT (clrY (SY s 4)) = 0 := rfl
  generalize clrY (SY s 4) = y0 at c0 r0 y1 y2
  have e1 : ∀ Q, MT (d + 5) 35 [.ref 1, .ref 1000001, .int (nI 2), .int (nI 30)] (pS (s24 s t0 y0) h) Q ↔ Q (some (.int (iB (nmB t0 0 (nI 2) (nI 30))))) (pS (s24 s (nmT t0 0) y0) h) := fun Q => q_named (d := d + 2) (j := 0) (by decide) o0
  have o1 : okT (nmT t0 0) := okT_nm o0
  generalize nmT t0 0 = t1 at e1 o1
  cases c1 : nmB t0 0 (nI 2) (nI 30) with
  | false =>
    rw [if_neg (show ¬ (false = true) by decide)]
    simp (disch := omega) only [u_31_0, u_31_1, u_31_4, u_31_7, u_31_8, u_31_11, u_31_14, u_31_15, u_31_17, u_31_18, u_31_20, u_31_23, u_31_26, u_31_27, gI0, gIs, gR0, gRs, gF0, gFs, st0, st_i, st_r, st_f, st_n, st_s, true_and, and_true, ↓ifLeT, ↓ifLeF, ↓ifLtT, ↓ifLtF, ↓ifEqT, ↓ifEqF, if_tt, if_ff, if_pos, if_neg, nLe, nLt, nEq, nInT, nCl, pk_mul, nI_add, Nat.reduceAdd, s_cat_nil, s_cat_i, s_cat_r, s_cat_f, s_cat_l, tl_s, tl_n, cat_i, cat_r, cat_f, nb0, nb1, nbI, if_bI, if_bIr, Nat.zero_le, Nat.reduceLeDiff, S_g0_0, S_g0_1, S_g0_2, S_g0_3, S_g0_4, S_g0_5, S_g0_6, S_g0_7, S_g0_8, S_g0_9, S_g0_10, S_g0_11, S_g0_12, S_g0_13, S_g0_14, S_g1_0, S_g1_1, S_g1_2, S_g1_3, S_g1_4, S_g72_0, S_g72_1, S_g72_2, S_g239_0, S_g239_1, S_g239_2, S_g239_3, S_g239_4, S_g239_5, S_g239_6, S_a23, S_n23, S_a282, S_n282, S_a300, S_n300, S_n73, S_n299, S_ob1, T_ob, yo, c0, r0, e1, c1, iBf]
  | true =>
    rw [if_pos (show true = true from rfl)]
    have k1 := fun Q => q_taken (d := d + 2) (s := s) (h := h) (y := y0) (Q := Q) o1
    have o2 : okT (advT t1) := okT_adv (okT_0 o1)
    generalize advT t1 = t2 at k1 o2
    have e2 := fun Q => q_next (d := d + 2) (s := s) (h := h) (y := uS y0 0 (eI t1 4)) (Q := Q) (okT_0 o2)
    by_cases k3 : eI t2 3 = nI 3
    · simp only [k3, reduceIte, decide_true] at e2
      rw [if_pos k3]
      have o3 : okT (advT t2) := okT_adv (okT_0 o2)
      have qg := quay_g (d := d) (s := s) (h := h) (y := uS y0 0 (eI t1 4)) (Q := Q) o3
      obtain ⟨g1, g2, g3⟩ := gpF_ok (y := uS y0 0 (eI t1 4)) o3
      simp (disch := omega) only [u_31_0, u_31_1, u_31_4, u_31_7, u_31_8, u_31_11, u_31_14, u_31_15, u_31_17, u_31_18, u_31_20, u_31_23, u_31_26, u_31_27, u_31_28, u_31_29, u_31_32, u_31_33, u_31_36, u_31_39, u_31_42, u_31_43, u_31_46, u_31_49, u_31_50, gI0, gIs, gR0, gRs, gF0, gFs, st0, st_i, st_r, st_f, st_n, st_s, true_and, and_true, ↓ifLeT, ↓ifLeF, ↓ifLtT, ↓ifLtF, ↓ifEqT, ↓ifEqF, if_tt, if_ff, if_pos, if_neg, nLe, nLt, nEq, nInT, nCl, pk_mul, nI_add, Nat.reduceAdd, s_cat_nil, s_cat_i, s_cat_r, s_cat_f, s_cat_l, tl_s, tl_n, cat_i, cat_r, cat_f, nb0, nb1, nbI, if_bI, if_bIr, Nat.zero_le, Nat.reduceLeDiff, S_g0_0, S_g0_1, S_g0_2, S_g0_3, S_g0_4, S_g0_5, S_g0_6, S_g0_7, S_g0_8, S_g0_9, S_g0_10, S_g0_11, S_g0_12, S_g0_13, S_g0_14, S_g1_0, S_g1_1, S_g1_2, S_g1_3, S_g1_4, S_g72_0, S_g72_1, S_g72_2, S_g239_0, S_g239_1, S_g239_2, S_g239_3, S_g239_4, S_g239_5, S_g239_6, S_a23, S_n23, S_a282, S_n282, S_a300, S_n300, S_n73, S_n299, S_ob1, T_ob, yo, c0, r0, e1, c1, iBt, nI10, reduceIte, k1, q24_s0, e2]
      refine qg.trans ?_
      generalize gpF (advT t2) (uS y0 0 (eI t1 4)) = r at g1 g2 g3
      obtain ⟨r1, t3, y3⟩ := r
      cases r1 with
      | false => exact Iff.rfl
      | true =>
        have g2 : yC y3 = 0 := g2.trans y1
        have g3 : yT y3 = 0 := g3.trans y2
        exact cr_lp 4 0 t3 y3 rfl g1 (by omega) (by omega)
    · simp only [k3, reduceIte, decide_false] at e2
      rw [if_neg k3]
      simp (disch := omega) only [u_31_0, u_31_1, u_31_4, u_31_7, u_31_8, u_31_11, u_31_14, u_31_15, u_31_17, u_31_18, u_31_20, u_31_23, u_31_26, u_31_27, u_31_28, u_31_29, u_31_32, u_31_33, u_31_36, u_31_39, u_31_42, u_31_43, u_31_46, u_31_49, u_31_50, gI0, gIs, gR0, gRs, gF0, gFs, st0, st_i, st_r, st_f, st_n, st_s, true_and, and_true, ↓ifLeT, ↓ifLeF, ↓ifLtT, ↓ifLtF, ↓ifEqT, ↓ifEqF, if_tt, if_ff, if_pos, if_neg, nLe, nLt, nEq, nInT, nCl, pk_mul, nI_add, Nat.reduceAdd, s_cat_nil, s_cat_i, s_cat_r, s_cat_f, s_cat_l, tl_s, tl_n, cat_i, cat_r, cat_f, nb0, nb1, nbI, if_bI, if_bIr, Nat.zero_le, Nat.reduceLeDiff, S_g0_0, S_g0_1, S_g0_2, S_g0_3, S_g0_4, S_g0_5, S_g0_6, S_g0_7, S_g0_8, S_g0_9, S_g0_10, S_g0_11, S_g0_12, S_g0_13, S_g0_14, S_g1_0, S_g1_1, S_g1_2, S_g1_3, S_g1_4, S_g72_0, S_g72_1, S_g72_2, S_g239_0, S_g239_1, S_g239_2, S_g239_3, S_g239_4, S_g239_5, S_g239_6, S_a23, S_n23, S_a282, S_n282, S_a300, S_n300, S_n73, S_n299, S_ob1, T_ob, yo, c0, r0, e1, c1, iBt, iBf, nI10, reduceIte, k1, q24_s0, e2]
end RQ
