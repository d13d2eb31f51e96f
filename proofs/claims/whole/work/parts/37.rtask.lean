/-! Reader: a task -/
section RT
variable {a b d m : Nat} {s : tS} {h : sH} {i w v2 v3 : Int32} {Q : sQ}
def hvF (t : tO) : Bool × tO × Int32 := if isWB t 7 then (if nmB t 7 (nI 1) (nI 99) then (true, advT (nmT t 7), eI (nmT t 7) 4) else (false, nmT t 7, nI 1)) else (true, t, nI 1)
theorem hvF_ok {t : tO} (ht : okT t) : okT (hvF t).2.1 := by
  unfold hvF
  split
  · split
    · exact okT_adv (okT_0 (okT_nm ht))
    · exact okT_nm ht
  · exact ht
theorem task_h {t : tO} (ht : okT t) : WP (d + 3) 39 72 [.ref 1, .int w, .int v2, .int v3, s_no, s_no, s_no] [] (pS (wSO s 2 t) h) (0, 0) Q ↔ if (hvF t).1 then WP (d + 3) 39 116 [.ref 1, .int w, .int v2, .int v3, .int (hvF t).2.2, .int (nI 0), .int (nI 0)] [] (pS (wSO s 2 (hvF t).2.1) h) (0, 0) Q else Q (some (.int (nI 0))) (pS (wSO s 2 (hvF t).2.1) h) := by
  have e3 := fun Q => T_isWord (d := d + 1) (s := wSO s 2 t) (h := h) (j := 7) (Q := Q) (by decide) ht
  have e4 := fun Q => m_isNamed (d := d) (s := wSO s 2 t) (h := h) (j := 7) (lo := nI 1) (hi := nI 99) (Q := Q) (by decide) ht
  have e3 : ∀ Q, MT (d + 3) 57 [.ref 2, .ref 1000008] (pS (wSO s 2 t) h) Q ↔ Q (some (.int (iB (isWB t 7)))) (pS (wSO s 2 t) h) := e3
  have e4 : ∀ Q, MT (d + 3) 35 [.ref 1, .ref 1000008, .int (nI 1), .int (nI 99)] (pS (wSO s 2 t) h) Q ↔ Q (some (.int (iB (nmB t 7 (nI 1) (nI 99))))) (pS (wSO (wSO s 2 t) 2 (nmT t 7)) h) := e4
  simp only [wSO_tw] at e4
  have o1 : okT (nmT t 7) := okT_nm ht
  unfold hvF
  cases c1 : isWB t 7 with
  | false =>
    rw [if_neg (show ¬ (false = true) by decide), if_pos rfl]
    simp (disch := omega) only [u_39_72, u_39_73, u_39_75, u_39_76, u_39_79, u_39_81, u_39_84, u_39_87, u_39_88, u_39_90, u_39_91, u_39_93, u_39_96, u_39_99, u_39_100, u_39_101, u_39_102, u_39_105, u_39_108, u_39_110, u_39_111, u_39_113, u_39_114, gI0, gIs, gR0, gRs, gF0, gFs, st0, st_i, st_r, st_f, st_n, st_s, true_and, and_true, ↓ifLeT, ↓ifLeF, ↓ifLtT, ↓ifLtF, ↓ifEqT, ↓ifEqF, if_tt, if_ff, if_pos, if_neg, nLe, nLt, nEq, nInT, nCl, pk_mul, nI_add, Nat.reduceAdd, s_cat_nil, s_cat_i, s_cat_r, s_cat_f, s_cat_l, tl_s, tl_n, cat_i, cat_r, cat_f, nb0, nb1, nbI, if_bI, if_bIr, Nat.zero_le, Nat.reduceLeDiff, S_g0_0, S_g0_1, S_g0_2, S_g0_3, S_g0_4, S_g0_5, S_g0_6, S_g0_7, S_g0_8, S_g0_9, S_g0_10, S_g0_11, S_g0_12, S_g0_13, S_g0_14, S_g1_0, S_g1_1, S_g1_2, S_g1_3, S_g1_4, S_g72_0, S_g72_1, S_g72_2, S_g239_0, S_g239_1, S_g239_2, S_g239_3, S_g239_4, S_g239_5, S_g239_6, S_a23, S_n23, S_a282, S_n282, S_a300, S_n300, S_n73, S_n299, T_ob, e3, c1, iBf]
  | true =>
    rw [if_pos (show true = true from rfl)]
    cases c2 : nmB t 7 (nI 1) (nI 99) with
    | false =>
      rw [if_neg (show ¬ (false = true) by decide), if_neg (show ¬ (false = true) by decide)]
      simp (disch := omega) only [u_39_72, u_39_73, u_39_75, u_39_76, u_39_79, u_39_81, u_39_84, u_39_87, u_39_88, u_39_90, u_39_91, u_39_93, u_39_96, u_39_99, u_39_100, u_39_101, u_39_102, u_39_105, u_39_108, u_39_110, u_39_111, u_39_113, u_39_114, gI0, gIs, gR0, gRs, gF0, gFs, st0, st_i, st_r, st_f, st_n, st_s, true_and, and_true, ↓ifLeT, ↓ifLeF, ↓ifLtT, ↓ifLtF, ↓ifEqT, ↓ifEqF, if_tt, if_ff, if_pos, if_neg, nLe, nLt, nEq, nInT, nCl, pk_mul, nI_add, Nat.reduceAdd, s_cat_nil, s_cat_i, s_cat_r, s_cat_f, s_cat_l, tl_s, tl_n, cat_i, cat_r, cat_f, nb0, nb1, nbI, if_bI, if_bIr, Nat.zero_le, Nat.reduceLeDiff, S_g0_0, S_g0_1, S_g0_2, S_g0_3, S_g0_4, S_g0_5, S_g0_6, S_g0_7, S_g0_8, S_g0_9, S_g0_10, S_g0_11, S_g0_12, S_g0_13, S_g0_14, S_g1_0, S_g1_1, S_g1_2, S_g1_3, S_g1_4, S_g72_0, S_g72_1, S_g72_2, S_g239_0, S_g239_1, S_g239_2, S_g239_3, S_g239_4, S_g239_5, S_g239_6, S_a23, S_n23, S_a282, S_n282, S_a300, S_n300, S_n73, S_n299, S_ob1, T_ob, e3, c1, iBt, nI10, reduceIte, e4, c2, iBf]
    | true =>
      rw [if_pos (show true = true from rfl), if_pos rfl]
      have e2 := fun Q => T_taken (d := d) (s := wSO s 2 (nmT t 7)) (h := h) (Q := Q) (okT_0 o1)
      have e2 : ∀ Q, MT (d + 3) 59 [.ref 2] (pS (wSO s 2 (nmT t 7)) h) Q ↔ Q (some (.int (eI (nmT t 7) 4))) (pS (wSO (wSO s 2 (nmT t 7)) 2 (advT (nmT t 7))) h) := e2
      simp only [wSO_tw] at e2
      simp (disch := omega) only [u_39_72, u_39_73, u_39_75, u_39_76, u_39_79, u_39_81, u_39_84, u_39_87, u_39_88, u_39_90, u_39_91, u_39_93, u_39_96, u_39_99, u_39_100, u_39_101, u_39_102, u_39_105, u_39_108, u_39_110, u_39_111, u_39_113, u_39_114, gI0, gIs, gR0, gRs, gF0, gFs, st0, st_i, st_r, st_f, st_n, st_s, true_and, and_true, ↓ifLeT, ↓ifLeF, ↓ifLtT, ↓ifLtF, ↓ifEqT, ↓ifEqF, if_tt, if_ff, if_pos, if_neg, nLe, nLt, nEq, nInT, nCl, pk_mul, nI_add, Nat.reduceAdd, s_cat_nil, s_cat_i, s_cat_r, s_cat_f, s_cat_l, tl_s, tl_n, cat_i, cat_r, cat_f, nb0, nb1, nbI, if_bI, if_bIr, Nat.zero_le, Nat.reduceLeDiff, S_g0_0, S_g0_1, S_g0_2, S_g0_3, S_g0_4, S_g0_5, S_g0_6, S_g0_7, S_g0_8, S_g0_9, S_g0_10, S_g0_11, S_g0_12, S_g0_13, S_g0_14, S_g1_0, S_g1_1, S_g1_2, S_g1_3, S_g1_4, S_g72_0, S_g72_1, S_g72_2, S_g239_0, S_g239_1, S_g239_2, S_g239_3, S_g239_4, S_g239_5, S_g239_6, S_a23, S_n23, S_a282, S_n282, S_a300, S_n300, S_n73, S_n299, S_ob1, T_ob, e3, c1, iBt, nI10, reduceIte, e4, c2, e2]
/-- a task's end: what it is after, and in it goes -/
def enF (w v2 v3 v4 : Int32) (t : tO) (y : tY) : Bool × tO × tY := if (afF (w - nI 1) 400 t (nI 0)).1 then (true, (afF (w - nI 1) 400 t (nI 0)).2.1, addT y v2 v3 v4 (afF (w - nI 1) 400 t (nI 0)).2.2) else (false, (afF (w - nI 1) 400 t (nI 0)).2.1, y)
theorem task_e {v4 : Int32} {t : tO} (ht : okT t) (hT : yT (SY s 4) ≤ 8) : WP (d + 3) 39 116 [.ref 1, .int w, .int v2, .int v3, .int v4, .int (nI 0), .int (nI 0)] [] (pS (wSO s 2 t) h) (0, 0) Q ↔ Q (some (.int (iB (enF w v2 v3 v4 t (SY s 4)).1))) (pS (s24 s (enF w v2 v3 v4 t (SY s 4)).2.1 (enF w v2 v3 v4 t (SY s 4)).2.2) h) := by
  obtain ⟨v, e⟩ := after_lp (d := d) (s := s) (h := h) (w := w) (v2 := v2) (v3 := v3) (v4 := v4) (Q := Q) 400 0 t (nI 0) rfl ht
  refine e.trans ?_
  unfold enF
  generalize afF (w - nI 1) 400 t (nI 0) = r
  obtain ⟨r1, t1, x1⟩ := r
  cases r1 with
  | false =>
    show Q (some (.int (nI 0))) (pS (wSO s 2 t1) h) ↔ Q (some (.int (nI 0))) (pS (s24 s t1 (SY s 4)) h)
    rw [s24_y]
  | true =>
    have ad : MT (d + 3) 67 [.ref 4, .int v2, .int v3, .int v4, .int x1] (pS (wSO s 2 t1) h) = MT (d + 3) 67 [.ref 4, .int v2, .int v3, .int v4, .int x1] (pS (wSO s 2 t1) h) := rfl
    have ad := fun Q => tr_Y (d := d + 3) (m := 67) (s := wSO s 2 t1) (h := h) (Q := Q) yb4 (fun h Q => m_addTask (d := d + 2) (a := 4) (y := SY s 4) (h := h) (Q := Q) (w := v2) (t := v3) (v := v4) (b := x1) hT)
    have yo := fun (c : Nat) => Y'_ob (c := c) (isY_S (s := wSO s 2 t1) (h := h) yb4)
    show WP _ _ 171 _ _ (pS (wSO s 2 t1) h) _ _ ↔ Q (some (.int (nI 1))) (pS (s24 s t1 (addT (SY s 4) v2 v3 v4 x1)) h)
    simp (disch := omega) only [u_39_171, u_39_172, u_39_175, u_39_176, u_39_177, u_39_179, u_39_181, u_39_184, u_39_185, u_39_186, gI0, gIs, gR0, gRs, gF0, gFs, st0, st_i, st_r, st_f, st_n, st_s, true_and, and_true, ↓ifLeT, ↓ifLeF, ↓ifLtT, ↓ifLtF, ↓ifEqT, ↓ifEqF, if_tt, if_ff, if_pos, if_neg, nLe, nLt, nEq, nInT, nCl, pk_mul, nI_add, Nat.reduceAdd, s_cat_nil, s_cat_i, s_cat_r, s_cat_f, s_cat_l, tl_s, tl_n, cat_i, cat_r, cat_f, nb0, nb1, nbI, if_bI, if_bIr, Nat.zero_le, Nat.reduceLeDiff, S_g0_0, S_g0_1, S_g0_2, S_g0_3, S_g0_4, S_g0_5, S_g0_6, S_g0_7, S_g0_8, S_g0_9, S_g0_10, S_g0_11, S_g0_12, S_g0_13, S_g0_14, S_g1_0, S_g1_1, S_g1_2, S_g1_3, S_g1_4, S_g72_0, S_g72_1, S_g72_2, S_g239_0, S_g239_1, S_g239_2, S_g239_3, S_g239_4, S_g239_5, S_g239_6, S_a23, S_n23, S_a282, S_n282, S_a300, S_n300, S_n73, S_n299, yo, ad]
    exact Iff.rfl
/-- a task's line -/
def rdT (w : Int32) (t : tO) (y : tY) : Bool × tO × tY :=
  if isWB t 4 then
    (if nmB (advT t) 5 (nI 0) (yB y 0 - nI 1) then
      (if nmB (advT (nmT (advT t) 5)) 6 (nI 1) (nI 30) then
        (if (hvF (advT (nmT (advT (nmT (advT t) 5)) 6))).1 then enF w (eI (nmT (advT t) 5) 4) (eI (nmT (advT (nmT (advT t) 5)) 6) 4) (hvF (advT (nmT (advT (nmT (advT t) 5)) 6))).2.2 (hvF (advT (nmT (advT (nmT (advT t) 5)) 6))).2.1 y
        else (false, (hvF (advT (nmT (advT (nmT (advT t) 5)) 6))).2.1, y))
      else (false, nmT (advT (nmT (advT t) 5)) 6, y))
    else (false, nmT (advT t) 5, y))
  else (false, t, y)
theorem task_t {t : tO} (hT : yT (SY s 4) ≤ 8) (ht : okT t) : MT (d + 4) 39 [.ref 1, .int w] (pS (wSO s 2 t) h) Q ↔ Q (some (.int (iB (rdT w t (SY s 4)).1))) (pS (s24 s (rdT w t (SY s 4)).2.1 (rdT w t (SY s 4)).2.2) h) := by
  rw [MT_go (by decide) _ _ _ (Nat.le_of_ble_eq_true rfl), show s_entry 39 [.ref 1, .int w] = [.ref 1, .int w, s_no, s_no, s_no, s_no, s_no] from rfl]
  have nm := fun (t : tO) (j : Nat) (lo hi : Int32) (hj : j < 9) (ht : okT t) Q => m_isNamed (d := d) (s := wSO s 2 t) (h := h) (j := j) (lo := lo) (hi := hi) (Q := Q) hj ht
  have tk := fun (t : tO) (ht : okT t) Q => T_taken (d := d) (s := wSO s 2 t) (h := h) (Q := Q) (okT_0 ht)
  have e0 := fun Q => T_isWord (d := d + 1) (s := wSO s 2 t) (h := h) (j := 4) (Q := Q) (by decide) ht
  have e0 : ∀ Q, MT (d + 3) 57 [.ref 2, .ref 1000005] (pS (wSO s 2 t) h) Q ↔ Q (some (.int (iB (isWB t 4)))) (pS (wSO s 2 t) h) := e0
  unfold rdT
  cases c0 : isWB t 4 with
  | false =>
    rw [if_neg (show ¬ (false = true) by decide)]
    show _ ↔ Q (some (.int (iB false))) (pS (s24 s t (SY s 4)) h)
    rw [s24_y]
    simp (disch := omega) only [u_39_0, u_39_1, u_39_4, u_39_6, u_39_9, u_39_12, u_39_13, gI0, gIs, gR0, gRs, gF0, gFs, st0, st_i, st_r, st_f, st_n, st_s, true_and, and_true, ↓ifLeT, ↓ifLeF, ↓ifLtT, ↓ifLtF, ↓ifEqT, ↓ifEqF, if_tt, if_ff, if_pos, if_neg, nLe, nLt, nEq, nInT, nCl, pk_mul, nI_add, Nat.reduceAdd, s_cat_nil, s_cat_i, s_cat_r, s_cat_f, s_cat_l, tl_s, tl_n, cat_i, cat_r, cat_f, nb0, nb1, nbI, if_bI, if_bIr, Nat.zero_le, Nat.reduceLeDiff, S_g0_0, S_g0_1, S_g0_2, S_g0_3, S_g0_4, S_g0_5, S_g0_6, S_g0_7, S_g0_8, S_g0_9, S_g0_10, S_g0_11, S_g0_12, S_g0_13, S_g0_14, S_g1_0, S_g1_1, S_g1_2, S_g1_3, S_g1_4, S_g72_0, S_g72_1, S_g72_2, S_g239_0, S_g239_1, S_g239_2, S_g239_3, S_g239_4, S_g239_5, S_g239_6, S_a23, S_n23, S_a282, S_n282, S_a300, S_n300, S_n73, S_n299, T_ob, e0, c0, iBf]
  | true =>
    rw [if_pos rfl]
    have a0 := fun Q => T_advance (d := d + 1) (s := wSO s 2 t) (h := h) (Q := Q) (okT_0 ht)
    have a0 : ∀ Q, MT (d + 3) 56 [.ref 2] (pS (wSO s 2 t) h) Q ↔ Q none (pS (wSO (wSO s 2 t) 2 (advT t)) h) := a0
    simp only [wSO_tw] at a0
    have oa : okT (advT t) := okT_adv (okT_0 ht)
    generalize advT t = ta at a0 oa
    have g := isY_S (s := wSO s 2 ta) (h := h) yb4
    have g0 : ∀ f : Value → Prop, fG (pS (wSO s 2 ta) h) 4 7 0 f ↔ f (.int (yB (SY s 4) 0)) := fun f => Y'_g0 (f := f) g
    have e1 : ∀ Q, MT (d + 3) 35 [.ref 1, .ref 1000006, .int (nI 0), .int (yB (SY s 4) 0 - nI 1)] (pS (wSO s 2 ta) h) Q ↔ Q (some (.int (iB (nmB ta 5 (nI 0) (yB (SY s 4) 0 - nI 1))))) (pS (wSO (wSO s 2 ta) 2 (nmT ta 5)) h) := nm ta 5 _ _ (by decide) oa
    simp only [wSO_tw] at e1
    have ob : okT (nmT ta 5) := okT_nm oa
    generalize nmT ta 5 = tb at e1 ob
    cases c1 : nmB ta 5 (nI 0) (yB (SY s 4) 0 - nI 1) with
    | false =>
      rw [if_neg (show ¬ (false = true) by decide)]
      show _ ↔ Q (some (.int (iB false))) (pS (s24 s tb (SY s 4)) h)
      rw [s24_y]
      simp (disch := omega) only [u_39_0, u_39_1, u_39_4, u_39_6, u_39_9, u_39_12, u_39_13, u_39_14, u_39_15, u_39_18, u_39_21, u_39_22, u_39_24, u_39_25, u_39_26, u_39_29, u_39_32, u_39_33, u_39_34, u_39_37, u_39_40, u_39_41, gI0, gIs, gR0, gRs, gF0, gFs, st0, st_i, st_r, st_f, st_n, st_s, true_and, and_true, ↓ifLeT, ↓ifLeF, ↓ifLtT, ↓ifLtF, ↓ifEqT, ↓ifEqF, if_tt, if_ff, if_pos, if_neg, nLe, nLt, nEq, nInT, nCl, pk_mul, nI_add, Nat.reduceAdd, s_cat_nil, s_cat_i, s_cat_r, s_cat_f, s_cat_l, tl_s, tl_n, cat_i, cat_r, cat_f, nb0, nb1, nbI, if_bI, if_bIr, Nat.zero_le, Nat.reduceLeDiff, S_g0_0, S_g0_1, S_g0_2, S_g0_3, S_g0_4, S_g0_5, S_g0_6, S_g0_7, S_g0_8, S_g0_9, S_g0_10, S_g0_11, S_g0_12, S_g0_13, S_g0_14, S_g1_0, S_g1_1, S_g1_2, S_g1_3, S_g1_4, S_g72_0, S_g72_1, S_g72_2, S_g239_0, S_g239_1, S_g239_2, S_g239_3, S_g239_4, S_g239_5, S_g239_6, S_a23, S_n23, S_a282, S_n282, S_a300, S_n300, S_n73, S_n299, S_ob1, T_ob, e0, c0, iBt, nI10, reduceIte, a0, g0, e1, c1, iBf]
    | true =>
      rw [if_pos rfl]
      have k1 : ∀ Q, MT (d + 3) 59 [.ref 2] (pS (wSO s 2 tb) h) Q ↔ Q (some (.int (eI tb 4))) (pS (wSO (wSO s 2 tb) 2 (advT tb)) h) := tk tb ob
      simp only [wSO_tw] at k1
      have oc : okT (advT tb) := okT_adv (okT_0 ob)
      generalize advT tb = tc at k1 oc
      have e2 : ∀ Q, MT (d + 3) 35 [.ref 1, .ref 1000007, .int (nI 1), .int (nI 30)] (pS (wSO s 2 tc) h) Q ↔ Q (some (.int (iB (nmB tc 6 (nI 1) (nI 30))))) (pS (wSO (wSO s 2 tc) 2 (nmT tc 6)) h) := nm tc 6 _ _ (by decide) oc
      simp only [wSO_tw] at e2
      have od : okT (nmT tc 6) := okT_nm oc
      generalize nmT tc 6 = td at e2 od
      cases c2 : nmB tc 6 (nI 1) (nI 30) with
      | false =>
        rw [if_neg (show ¬ (false = true) by decide)]
        show _ ↔ Q (some (.int (iB false))) (pS (s24 s td (SY s 4)) h)
        rw [s24_y]
        simp (disch := omega) only [u_39_0, u_39_1, u_39_4, u_39_6, u_39_9, u_39_12, u_39_13, u_39_14, u_39_15, u_39_18, u_39_21, u_39_22, u_39_24, u_39_25, u_39_26, u_39_29, u_39_32, u_39_33, u_39_34, u_39_37, u_39_40, u_39_41, u_39_42, u_39_43, u_39_46, u_39_49, u_39_50, u_39_51, u_39_53, u_39_54, u_39_56, u_39_59, u_39_62, u_39_63, gI0, gIs, gR0, gRs, gF0, gFs, st0, st_i, st_r, st_f, st_n, st_s, true_and, and_true, ↓ifLeT, ↓ifLeF, ↓ifLtT, ↓ifLtF, ↓ifEqT, ↓ifEqF, if_tt, if_ff, if_pos, if_neg, nLe, nLt, nEq, nInT, nCl, pk_mul, nI_add, Nat.reduceAdd, s_cat_nil, s_cat_i, s_cat_r, s_cat_f, s_cat_l, tl_s, tl_n, cat_i, cat_r, cat_f, nb0, nb1, nbI, if_bI, if_bIr, Nat.zero_le, Nat.reduceLeDiff, S_g0_0, S_g0_1, S_g0_2, S_g0_3, S_g0_4, S_g0_5, S_g0_6, S_g0_7, S_g0_8, S_g0_9, S_g0_10, S_g0_11, S_g0_12, S_g0_13, S_g0_14, S_g1_0, S_g1_1, S_g1_2, S_g1_3, S_g1_4, S_g72_0, S_g72_1, S_g72_2, S_g239_0, S_g239_1, S_g239_2, S_g239_3, S_g239_4, S_g239_5, S_g239_6, S_a23, S_n23, S_a282, S_n282, S_a300, S_n300, S_n73, S_n299, S_ob1, T_ob, e0, c0, iBt, nI10, reduceIte, a0, g0, e1, c1, k1, e2, c2, iBf]
      | true =>
        rw [if_pos rfl]
        have k2 : ∀ Q, MT (d + 3) 59 [.ref 2] (pS (wSO s 2 td) h) Q ↔ Q (some (.int (eI td 4))) (pS (wSO (wSO s 2 td) 2 (advT td)) h) := tk td od
        simp only [wSO_tw] at k2
        have oe : okT (advT td) := okT_adv (okT_0 od)
        generalize advT td = te at k2 oe
        have hh := task_h (d := d) (s := s) (h := h) (w := w) (v2 := eI tb 4) (v3 := eI td 4) (Q := Q) oe
        have ho := hvF_ok oe
        simp (disch := omega) only [u_39_0, u_39_1, u_39_4, u_39_6, u_39_9, u_39_12, u_39_13, u_39_14, u_39_15, u_39_18, u_39_21, u_39_22, u_39_24, u_39_25, u_39_26, u_39_29, u_39_32, u_39_33, u_39_34, u_39_37, u_39_40, u_39_41, u_39_42, u_39_43, u_39_46, u_39_49, u_39_50, u_39_51, u_39_53, u_39_54, u_39_56, u_39_59, u_39_62, u_39_63, u_39_64, u_39_65, u_39_68, u_39_71, gI0, gIs, gR0, gRs, gF0, gFs, st0, st_i, st_r, st_f, st_n, st_s, true_and, and_true, ↓ifLeT, ↓ifLeF, ↓ifLtT, ↓ifLtF, ↓ifEqT, ↓ifEqF, if_tt, if_ff, if_pos, if_neg, nLe, nLt, nEq, nInT, nCl, pk_mul, nI_add, Nat.reduceAdd, s_cat_nil, s_cat_i, s_cat_r, s_cat_f, s_cat_l, tl_s, tl_n, cat_i, cat_r, cat_f, nb0, nb1, nbI, if_bI, if_bIr, Nat.zero_le, Nat.reduceLeDiff, S_g0_0, S_g0_1, S_g0_2, S_g0_3, S_g0_4, S_g0_5, S_g0_6, S_g0_7, S_g0_8, S_g0_9, S_g0_10, S_g0_11, S_g0_12, S_g0_13, S_g0_14, S_g1_0, S_g1_1, S_g1_2, S_g1_3, S_g1_4, S_g72_0, S_g72_1, S_g72_2, S_g239_0, S_g239_1, S_g239_2, S_g239_3, S_g239_4, S_g239_5, S_g239_6, S_a23, S_n23, S_a282, S_n282, S_a300, S_n300, S_n73, S_n299, S_ob1, T_ob, e0, c0, iBt, nI10, reduceIte, a0, g0, e1, c1, k1, e2, c2, k2]
        refine hh.trans ?_
        generalize hvF te = r at ho
        obtain ⟨r1, tf, x⟩ := r
        cases r1 with
        | false =>
          show Q (some (.int (nI 0))) (pS (wSO s 2 tf) h) ↔ Q (some (.int (nI 0))) (pS (s24 s tf (SY s 4)) h)
          rw [s24_y]
        | true => exact task_e ho hT
end RT
