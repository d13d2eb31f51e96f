/-! Reader: what a task is after -/
section RF
variable {a b d m : Nat} {s : tS} {h : sH} {i w v2 v3 v4 : Int32} {Q : sQ}
def afF (hi : Int32) : Nat → tO → Int32 → Bool × tO × Int32
  | 0, t, x => (true, t, x)
  | n + 1, t, x => if isWB t 8 then (if nmB t 8 (nI 0) hi then afF hi n (advT (nmT t 8)) (x ||| (nI 1 <<< (eI (nmT t 8) 4 &&& 31))) else (false, nmT t 8, x)) else (true, t, x)
theorem afF_ok {hi : Int32} : ∀ n t x, okT t → okT (afF hi n t x).2.1
  | 0, _, _, ht => ht
  | n + 1, t, x, ht => by
    unfold afF
    split
    · split
      · exact afF_ok n _ _ (okT_adv (okT_0 (okT_nm ht)))
      · exact okT_nm ht
    · exact ht
theorem after_lp : ∀ n i t x, i + n = 400 → okT t → (∃ v, WP (d + 3) 39 116 [.ref 1, .int w, .int v2, .int v3, .int v4, .int x, .int (nI i)] [] (pS (wSO s 2 t) h) (0, 0) Q ↔ if (afF (w - nI 1) n t x).1 then WP (d + 3) 39 171 [.ref 1, .int w, .int v2, .int v3, .int v4, .int (afF (w - nI 1) n t x).2.2, v] [] (pS (wSO s 2 (afF (w - nI 1) n t x).2.1) h) (0, 0) Q else Q (some (.int (nI 0))) (pS (wSO s 2 (afF (w - nI 1) n t x).2.1) h)) := by
  intro n
  induction n with
  | zero =>
    intro i t x hi ht
    have e : i = 400 := by omega
    subst e
    refine ⟨.int (nI 400), ?_⟩
    rw [show afF (w - nI 1) 0 t x = (true, t, x) from rfl, if_pos rfl]
    simp (disch := omega) only [u_39_116, u_39_118, u_39_121, gI0, gIs, gR0, gRs, gF0, gFs, st0, st_i, st_r, st_f, st_n, st_s, true_and, and_true, ↓ifLeT, ↓ifLeF, ↓ifLtT, ↓ifLtF, ↓ifEqT, ↓ifEqF, if_tt, if_ff, if_pos, if_neg, nLe, nLt, nEq, nInT, nCl, pk_mul, nI_add, Nat.reduceAdd, s_cat_nil, s_cat_i, s_cat_r, s_cat_f, s_cat_l, tl_s, tl_n, cat_i, cat_r, cat_f, nb0, nb1, nbI, if_bI, if_bIr, Nat.zero_le, Nat.reduceLeDiff]
  | succ n ih =>
    intro i t x hi ht
    have e3 := fun Q => T_isWord (d := d + 1) (s := wSO s 2 t) (h := h) (j := 8) (Q := Q) (by decide) ht
    have e4 := fun Q => m_isNamed (d := d) (s := wSO s 2 t) (h := h) (j := 8) (lo := nI 0) (hi := w - nI 1) (Q := Q) (by decide) ht
    have e3 : ∀ Q, MT (d + 3) 57 [.ref 2, .ref 1000009] (pS (wSO s 2 t) h) Q ↔ Q (some (.int (iB (isWB t 8)))) (pS (wSO s 2 t) h) := e3
    have e4 : ∀ Q, MT (d + 3) 35 [.ref 1, .ref 1000009, .int (nI 0), .int (w - nI 1)] (pS (wSO s 2 t) h) Q ↔ Q (some (.int (iB (nmB t 8 (nI 0) (w - nI 1))))) (pS (wSO (wSO s 2 t) 2 (nmT t 8)) h) := e4
    simp only [wSO_tw] at e4
    have o1 : okT (nmT t 8) := okT_nm ht
    cases c1 : isWB t 8 with
    | false =>
      refine ⟨.int (nI i), ?_⟩
      rw [show afF (w - nI 1) (n + 1) t x = (true, t, x) by rw [afF, c1]; rfl, if_pos rfl, u_39_116]
      simp (disch := omega) only [u_39_118, u_39_121, u_39_124, u_39_125, u_39_128, u_39_130, u_39_133, gI0, gIs, gR0, gRs, gF0, gFs, st0, st_i, st_r, st_f, st_n, st_s, true_and, and_true, ↓ifLeT, ↓ifLeF, ↓ifLtT, ↓ifLtF, ↓ifEqT, ↓ifEqF, if_tt, if_ff, if_pos, if_neg, nLe, nLt, nEq, nInT, nCl, pk_mul, nI_add, Nat.reduceAdd, s_cat_nil, s_cat_i, s_cat_r, s_cat_f, s_cat_l, tl_s, tl_n, cat_i, cat_r, cat_f, nb0, nb1, nbI, if_bI, if_bIr, Nat.zero_le, Nat.reduceLeDiff, S_g0_0, S_g0_1, S_g0_2, S_g0_3, S_g0_4, S_g0_5, S_g0_6, S_g0_7, S_g0_8, S_g0_9, S_g0_10, S_g0_11, S_g0_12, S_g0_13, S_g0_14, S_g1_0, S_g1_1, S_g1_2, S_g1_3, S_g1_4, S_g72_0, S_g72_1, S_g72_2, S_g239_0, S_g239_1, S_g239_2, S_g239_3, S_g239_4, S_g239_5, S_g239_6, S_a23, S_n23, S_a282, S_n282, S_a300, S_n300, S_n73, S_n299, T_ob, e3, c1, iBf]
    | true =>
      cases c2 : nmB t 8 (nI 0) (w - nI 1) with
      | false =>
        refine ⟨.int (nI i), ?_⟩
        rw [show afF (w - nI 1) (n + 1) t x = (false, nmT t 8, x) by rw [afF, c1, c2]; rfl, if_neg (show ¬ (false = true) by decide), u_39_116]
        simp (disch := omega) only [u_39_118, u_39_121, u_39_124, u_39_125, u_39_128, u_39_130, u_39_133, u_39_136, u_39_137, u_39_139, u_39_140, u_39_141, u_39_142, u_39_143, u_39_146, u_39_149, u_39_150, gI0, gIs, gR0, gRs, gF0, gFs, st0, st_i, st_r, st_f, st_n, st_s, true_and, and_true, ↓ifLeT, ↓ifLeF, ↓ifLtT, ↓ifLtF, ↓ifEqT, ↓ifEqF, if_tt, if_ff, if_pos, if_neg, nLe, nLt, nEq, nInT, nCl, pk_mul, nI_add, Nat.reduceAdd, s_cat_nil, s_cat_i, s_cat_r, s_cat_f, s_cat_l, tl_s, tl_n, cat_i, cat_r, cat_f, nb0, nb1, nbI, if_bI, if_bIr, Nat.zero_le, Nat.reduceLeDiff, S_g0_0, S_g0_1, S_g0_2, S_g0_3, S_g0_4, S_g0_5, S_g0_6, S_g0_7, S_g0_8, S_g0_9, S_g0_10, S_g0_11, S_g0_12, S_g0_13, S_g0_14, S_g1_0, S_g1_1, S_g1_2, S_g1_3, S_g1_4, S_g72_0, S_g72_1, S_g72_2, S_g239_0, S_g239_1, S_g239_2, S_g239_3, S_g239_4, S_g239_5, S_g239_6, S_a23, S_n23, S_a282, S_n282, S_a300, S_n300, S_n73, S_n299, S_ob1, T_ob, e3, c1, iBt, nI10, reduceIte, e4, c2, iBf]
      | true =>
        have e2 := fun Q => T_taken (d := d) (s := wSO s 2 (nmT t 8)) (h := h) (Q := Q) (okT_0 o1)
        have e2 : ∀ Q, MT (d + 3) 59 [.ref 2] (pS (wSO s 2 (nmT t 8)) h) Q ↔ Q (some (.int (eI (nmT t 8) 4))) (pS (wSO (wSO s 2 (nmT t 8)) 2 (advT (nmT t 8))) h) := e2
        simp only [wSO_tw] at e2
        obtain ⟨v, e⟩ := ih (i + 1) (advT (nmT t 8)) (x ||| (nI 1 <<< (eI (nmT t 8) 4 &&& 31))) (by omega) (okT_adv (okT_0 o1))
        refine ⟨v, ?_⟩
        rw [show afF (w - nI 1) (n + 1) t x = afF (w - nI 1) n (advT (nmT t 8)) (x ||| (nI 1 <<< (eI (nmT t 8) 4 &&& 31))) by rw [afF, c1, c2]; rfl]
        refine Iff.trans ?_ e
        rw [u_39_116]
        simp (disch := omega) only [u_39_118, u_39_121, u_39_124, u_39_125, u_39_128, u_39_130, u_39_133, u_39_136, u_39_137, u_39_139, u_39_140, u_39_141, u_39_142, u_39_143, u_39_146, u_39_149, u_39_150, u_39_151, u_39_153, u_39_154, u_39_155, u_39_158, u_39_161, u_39_162, u_39_163, u_39_165, u_39_168, gI0, gIs, gR0, gRs, gF0, gFs, st0, st_i, st_r, st_f, st_n, st_s, true_and, and_true, ↓ifLeT, ↓ifLeF, ↓ifLtT, ↓ifLtF, ↓ifEqT, ↓ifEqF, if_tt, if_ff, if_pos, if_neg, nLe, nLt, nEq, nInT, nCl, pk_mul, nI_add, Nat.reduceAdd, s_cat_nil, s_cat_i, s_cat_r, s_cat_f, s_cat_l, tl_s, tl_n, cat_i, cat_r, cat_f, nb0, nb1, nbI, if_bI, if_bIr, Nat.zero_le, Nat.reduceLeDiff, S_g0_0, S_g0_1, S_g0_2, S_g0_3, S_g0_4, S_g0_5, S_g0_6, S_g0_7, S_g0_8, S_g0_9, S_g0_10, S_g0_11, S_g0_12, S_g0_13, S_g0_14, S_g1_0, S_g1_1, S_g1_2, S_g1_3, S_g1_4, S_g72_0, S_g72_1, S_g72_2, S_g239_0, S_g239_1, S_g239_2, S_g239_3, S_g239_4, S_g239_5, S_g239_6, S_a23, S_n23, S_a282, S_n282, S_a300, S_n300, S_n73, S_n299, S_ob1, T_ob, e3, c1, iBt, nI10, reduceIte, e4, c2, e2]
end RF
