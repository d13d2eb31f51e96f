/-! Reader: a task -/
section RT
variable {a b d m : Nat} {s : tS} {h : sH} {i w v2 v3 : Int32} {Q : sQ}
def hvF (t : tO) : Bool × tO × Int32 := if isWB t 7 then (if nmB t 7 (nI 1) (nI 99) then (true, advT (nmT t 7), eI (nmT t 7) 4) else (false, nmT t 7, nI 1)) else (true, t, nI 1)
theorem hvF_ok {t : tO} (ht : okT t) : okT (hvF t).2.1 := by
  unfold hvF
  split
  · split
    · exact okT_adv (okT_0 (okT_nm ht))
    · exact okT_nm ht
  · exact ht
theorem task_h {t : tO} (ht : okT t) : WP (d + 3) 39 72 [.ref 1, .int w, .int v2, .int v3, s_no, s_no, s_no] [] (pS (wSO s 2 t) h) (0, 0) Q ↔ if (hvF t).1 then WP (d + 3) 39 116 [.ref 1, .int w, .int v2, .int v3, .int (hvF t).2.2, .int (nI 0), .int (nI 0)] [] (pS (wSO s 2 (hvF t).2.1) h) (0, 0) Q else Q (some (.int (nI 0))) (pS (wSO s 2 (hvF t).2.1) h) := by
  have e3 := fun Q => T_isWord (d := d + 1) (s := wSO s 2 t) (h := h) (j := 7) (Q := Q) (by decide) ht
  have e4 := fun Q => m_isNamed (d := d) (s := wSO s 2 t) (h := h) (j := 7) (lo := nI 1) (hi := nI 99) (Q := Q) (by decide) ht
  have e3 : ∀ Q, MT (d + 3) 57 [.ref 2, .ref 1000008] (pS (wSO s 2 t) h) Q ↔ Q (some (.int (iB (isWB t 7)))) (pS (wSO s 2 t) h) := e3
  have e4 : ∀ Q, MT (d + 3) 35 [.ref 1, .ref 1000008, .int (nI 1), .int (nI 99)] (pS (wSO s 2 t) h) Q ↔ Q (some (.int (iB (nmB t 7 (nI 1) (nI 99))))) (pS (wSO (wSO s 2 t) 2 (nmT t 7)) h) := e4
  simp only [wSO_tw] at e4
  have o1 : okT (nmT t 7) := okT_nm ht
  unfold hvF
  cases c1 : isWB t 7 with
  | false =>
    rw [if_neg (show ¬ (false = true) by decide), if_pos rfl]
    simp (disch := omega) only [u_39_72, u_39_73, u_39_75, u_39_76, u_39_79, u_39_81, u_39_84, u_39_87, u_39_88, u_39_90, u_39_91, u_39_93, u_39_96, u_39_99, u_39_100, u_39_101, u_39_102, u_39_105, u_39_108, u_39_110, u_39_111, u_39_113, u_39_114, gI0, gIs, gR0, gRs, gF0, gFs, st0, st_i, st_r, st_f, st_n, st_s, true_and, and_true, ↓ifLeT, ↓ifLeF, ↓ifLtT, ↓ifLtF, ↓ifEqT, ↓ifEqF, if_tt, if_ff, if_pos, if_neg, nLe, nLt, nEq, nInT, nCl, pk_mul, nI_add, Nat.reduceAdd, s_cat_nil, s_cat_i, s_cat_r, s_cat_f, s_cat_l, tl_s, tl_n, cat_i, cat_r, cat_f, nb0, nb1, nbI, if_bI, if_bIr, Nat.zero_le, Nat.reduceLeDiff, S_g0_0, S_g0_1, S_g0_2, S_g0_3, S_g0_4, S_g0_5, S_g0_6, S_g0_7, S_g0_8, S_g0_9, S_g0_10, S_g0_11, S_g0_12, S_g0_13, S_g0_14, S_g1_0, S_g1_1, S_g1_2, S_g1_3, S_g1_4, S_g72_0, S_g72_1, S_g72_2, S_g239_0, S_g239_1, S_g239_2, S_g239_3, S_g239_4, S_g239_5, S_g239_6, S_a23, S_n23, S_a282, S_n282, S_a300, S_n300, S_n73, S_n299, T_ob, e3, c1, iBf]
  | true =>
    rw [if_pos (show true = true from rfl)]
    cases c2 : nmB t 7 (nI 1) (nI 99) with
    | false =>
      rw [if_neg (show ¬ (false = true) by decide), if_neg (show ¬ (false = true) by decide)]
      simp (disch := omega) only [u_39_72, u_39_73, u_39_75, u_39_76, u_39_79, u_39_81, u_39_84, u_39_87, u_39_88, u_39_90, u_39_91, u_39_93, u_39_96, u_39_99, u_39_100, u_39_101, u_39_102, u_39_105, u_39_108, u_39_110, u_39_111, u_39_113, u_39_114, gI0, gIs, gR0, gRs, gF0, gFs, st0, st_i, st_r, st_f, st_n, st_s, true_and, and_true, ↓ifLeT, ↓ifLeF, ↓ifLtT, ↓ifLtF, ↓ifEqT, ↓ifEqF, if_tt, if_ff, if_pos, if_neg, nLe, nLt, nEq, nInT, nCl, pk_mul, nI_add, Nat.reduceAdd, s_cat_nil, s_cat_i, s_cat_r, s_cat_f, s_cat_l, tl_s, tl_n, cat_i, cat_r, cat_f, nb0, nb1, nbI, if_bI, if_bIr, Nat.zero_le, Nat.reduceLeDiff, S_g0_0, S_g0_1, S_g0_2, S_g0_3, S_g0_4, S_g0_5, S_g0_6, S_g0_7, S_g0_8, S_g0_9, S_g0_10, S_g0_11, S_g0_12, S_g0_13, S_g0_14, S_g1_0, S_g1_1, S_g1_2, S_g1_3, S_g1_4, S_g72_0, S_g72_1, S_g72_2, S_g239_0, S_g239_1, S_g239_2, S_g239_3, S_g239_4, S_g239_5, S_g239_6, S_a23, S_n23, S_a282, S_n282, S_a300, S_n300, S_n73, S_n299, S_ob1, T_ob, e3, c1, iBt, nI10, reduceIte, e4, c2, iBf]
    | true =>
      rw [if_pos (show true = true from rfl), if_pos rfl]
      have e2 := fun Q => T_taken (d := d) (s := wSO s 2 (nmT t 7)) (h := h) (Q := Q) (okT_0 o1)
      have e2 : ∀ Q, MT (d + 3) 59 [.ref 2] (pS (wSO s 2 (nmT t 7)) h) Q ↔ Q (some (.int (eI (nmT t 7) 4))) (pS (wSO (wSO s 2 (nmT t 7)) 2 (advT (nmT t 7))) h) := e2
      simp only [wSO_tw] at e2
      simp (disch := omega) only [u_39_72, u_39_73, u_39_75, u_39_76, u_39_79, u_39_81, u_39_84, u_39_87, u_39_88, u_39_90, u_39_91, u_39_93, u_39_96, u_39_99, u_39_100, u_39_101, u_39_102, u_39_105, u_39_108, u_39_110, u_39_111, u_39_113, u_39_114, gI0, gIs, gR0, gRs, gF0, gFs, st0, st_i, st_r, st_f, st_n, st_s, true_and, and_true, ↓ifLeT, ↓ifLeF, ↓ifLtT, ↓ifLtF, ↓ifEqT, ↓ifEqF, if_tt, if_ff, if_pos, if_neg, nLe, nLt, nEq, nInT, nCl, pk_mul, nI_add, Nat.reduceAdd, s_cat_nil, s_cat_i, s_cat_r, s_cat_f, s_cat_l, tl_s, tl_n, cat_i, cat_r, cat_f, nb0, nb1, nbI, if_bI, if_bIr, Nat.zero_le, Nat.reduceLeDiff, S_g0_0, S_g0_1, S_g0_2, S_g0_3, S_g0_4, S_g0_5, S_g0_6, S_g0_7, S_g0_8, S_g0_9, S_g0_10, S_g0_11, S_g0_12, S_g0_13, S_g0_14, S_g1_0, S_g1_1, S_g1_2, S_g1_3, S_g1_4, S_g72_0, S_g72_1, S_g72_2, S_g239_0, S_g239_1, S_g239_2, S_g239_3, S_g239_4, S_g239_5, S_g239_6, S_a23, S_n23, S_a282, S_n282, S_a300, S_n300, S_n73, S_n299, S_ob1, T_ob, e3, c1, iBt, nI10, reduceIte, e4, c2, e2]
/-- a task's end: what it is after, and in it goes -/
def enF (w v2 v3 v4 : Int32) (t : tO) (y : tY) : Bool × tO × tY := if (afF (w - nI 1) 400 t (nI 0)).1 then (true, (afF (w - nI 1) 400 t (nI 0)).2.1, addT y v2 v3 v4 (afF (w - nI 1) 400 t (nI 0)).2.2) else (false, (afF (w - nI 1) 400 t (nI 0)).2.1, y)
theorem task_e {v4 : Int32} {t : tO} (ht : okT t) (hT : yT (SY s 4) ≤ 8) : WP (d + 3) 39 116 [.ref 1, .int w, .int v2, .int v3, .int v4, .int (nI 0), .int (nI 0)] [] (pS (wSO s 2 t) h) (0, 0) Q ↔ Q (some (.int (iB (enF w v2 v3 v4 t (SY s 4)).1))) (pS (s24 s (enF w v2 v3 v4 t (SY s 4)).2.1 (enF w v2 v3 v4 t (SY s 4)).2.2) h) := by
  obtain ⟨v, e⟩ := after_lp (d := d) (s := s) (h := h) (w := w) (v2 := v2) (v3 := v3) (v4 := v4) (Q := Q) 400 0 t (nI 0) rfl ht
  refine e.trans ?_
  unfold enF
  generalize afF (w - nI 1) 400 t (nI 0) = r
  obtain ⟨r1, t1, x1⟩ := r
  cases r1 with
  | false =>
    show Q (some (.int (nI 0))) (pS (wSO s 2 t1) h) ↔ Q (some (.int (nI 0))) (pS (s24 s t1 (SY s 4)) h)
    rw [s24_y]
  | true =>
    have ad : MT (d + 3) 67 [.ref 4, .int v2, .int v3, .int v4, .int x1] (pS (wSO s 2 t1) h) = MT (d + 3) 67 [.ref 4, .int v2, .int v3, .int v4, .int x1] (pS (wSO s 2 t1) h) := rfl
    have ad := fun Q => tr_Y (d := d + 3) (m := 67) (s := wSO s 2 t1) (h := h) (Q := Q) yb4 (fun h Q => m_addTask (d := d + 2) (a := 4) (y := SY s 4) (h := h) (Q := Q) (w := v2) (t := v3) (v := v4) (b := x1) hT)
    have yo := fun (c : Nat) => Y'_ob (c := c) (isY_S (s := wSO s 2 t1) (h := h) yb4)
    show WP _ _ 171 _ _ (pS (wSO s 2 t1) h) _ _ ↔ Q (some (.int (nI 1))) (pS (s24 s t1 (addT (SY s 4) v2 v3 v4 x1)) h)
    simp (disch := omega) only [u_39_171, u_39_172, u_39_175, u_39_176, u_39_177, u_39_179, u_39_181, u_39_184, u_39_185, u_39_186, gI0, gIs, gR0, gRs, gF0, gFs, st0, st_i, st_r, st_f, st_n, st_s, true_and, and_true, ↓ifLeT, ↓ifLeF, ↓ifLtT, ↓ifLtF, ↓ifEqT, ↓ifEqF, if_tt, if_ff, if_pos, if_neg, nLe, nLt, nEq, nInT, nCl, pk_mul, nI_add, Nat.reduceAdd, s_cat_nil, s_cat_i, s_cat_r, s_cat_f, s_cat_l, tl_s, tl_n, cat_i, cat_r, cat_f, nb0, nb1, nbI, if_bI, if_bIr, Nat.zero_le, Nat.reduceLeDiff, S_g0_0, S_g0_1, S_g0_2, S_g0_3, S_g0_4, S_g0_5, S_g0_6, S_g0_7, S_g0_8, S_g0_9, S_g0_10, S_g0_11, S_g0_12, S_g0_13, S_g0_14, S_g1_0, S_g1_1, S_g1_2, S_g1_3, S_g1_4, S_g72_0, S_g72_1, S_g72_2, S_g239_0, S_g239_1, S_g239_2, S_g239_3, S_g239_4, S_g239_5, S_g239_6, S_a23, S_n23, S_a282, S_n282, S_a300, S_n300, S_n73, S_n299, yo, ad]
    exact Iff.rfl
end RT
