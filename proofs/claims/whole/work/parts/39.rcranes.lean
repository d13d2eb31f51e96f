/-! Reader: the cranes -/
section RV
variable {a b d m : Nat} {s : tS} {h : sH} {i w : Int32} {Q : sQ}
theorem addC_le {y : tY} {w l : Int32} (hC : yC y ≤ 4) : yC (addC y w l) ≤ 4 ∧ yT (addC y w l) = yT y := by
  unfold addC
  split
  · exact ⟨by show yC y + 1 ≤ 4; omega, rfl⟩
  · exact ⟨hC, rfl⟩
theorem rdC_ok {t : tO} {y : tY} (ht : okT t) (hC : yC y ≤ 4) : okT (rdC t y).2.1 ∧ yC (rdC t y).2.2 ≤ 4 ∧ yT (rdC t y).2.2 = yT y := by
  have o1 := okT_nm (j := 2) ht
  have o2 := okT_adv (okT_0 o1)
  have o3 := okT_nm (j := 3) o2
  unfold rdC
  split
  · split
    · split
      · exact ⟨okT_adv (okT_0 o3), addC_le hC⟩
      · exact ⟨o3, hC, rfl⟩
    · exact ⟨o2, addC_le hC⟩
  · exact ⟨o1, hC, rfl⟩
theorem m_readsCrane2 {t : tO} {y : tY} (hC : yC y ≤ 4) (ht : okT t) : MT (d + 4) 37 [.ref 1] (pS (s24 s t y) h) Q ↔ Q (some (.int (iB (rdC t y).1))) (pS (s24 s (rdC t y).2.1 (rdC t y).2.2) h) := by
  have e := m_readsCrane (d := d) (s := s24 s t y) (h := h) (Q := Q) hC ht
  rw [s24_O, s24_Y, s24_s] at e
  exact e
def rdK : Nat → Nat → tO → tY → Bool × tO × tY
  | 0, _, t, y => rdL 8 0 t y
  | n + 1, c, t, y => if c = 0 ∨ isWB t 2 = true then (if (rdC t y).1 then (if eI (rdC t y).2.1 3 = nI 0 then (true, (rdC t y).2) else if eI (rdC t y).2.1 3 = nI 3 then rdK n (c + 1) (advT (rdC t y).2.1) (rdC t y).2.2 else (false, (rdC t y).2)) else (false, (rdC t y).2)) else rdL 8 0 t y
theorem cr_e {t : tO} {y : tY} {c : Nat} (ht : okT t) (hT : yT y ≤ 8) : WP (d + 5) 31 158 [.ref 1, .int (nI c)] [] (pS (s24 s t y) h) (0, 0) Q ↔ Q (some (.int (iB (rdL 8 0 t y).1))) (pS (s24 s (rdL 8 0 t y).2.1 (rdL 8 0 t y).2.2) h) := by
  have e := fun Q => m_readsTasks (d := d) (s := s) (h := h) (Q := Q) hT ht
  simp (disch := omega) only [u_31_158, u_31_159, u_31_162, gI0, gIs, gR0, gRs, gF0, gFs, st0, st_i, st_r, st_f, st_n, st_s, true_and, and_true, ↓ifLeT, ↓ifLeF, ↓ifLtT, ↓ifLtF, ↓ifEqT, ↓ifEqF, if_tt, if_ff, if_pos, if_neg, nLe, nLt, nEq, nInT, nCl, pk_mul, nI_add, Nat.reduceAdd, s_cat_nil, s_cat_i, s_cat_r, s_cat_f, s_cat_l, tl_s, tl_n, cat_i, cat_r, cat_f, nb0, nb1, nbI, if_bI, if_bIr, Nat.zero_le, Nat.reduceLeDiff, S_ob1, e, nbB]
theorem cr_lp : ∀ n c t y, c + n = 4 → okT t → yC y ≤ 4 → yT y ≤ 8 → (WP (d + 5) 31 101 [.ref 1, .int (nI c)] [] (pS (s24 s t y) h) (0, 0) Q ↔ Q (some (.int (iB (rdK n c t y).1))) (pS (s24 s (rdK n c t y).2.1 (rdK n c t y).2.2) h)) := by
  intro n
  induction n with
  | zero =>
    intro c t y hc ht hC hT
    have e : c = 4 := by omega
    subst e
    refine Iff.trans ?_ (cr_e (d := d) (c := 4) ht hT)
    simp (disch := omega) only [u_31_101, u_31_102, u_31_105, u_31_106, u_31_107, gI0, gIs, gR0, gRs, gF0, gFs, st0, st_i, st_r, st_f, st_n, st_s, true_and, and_true, ↓ifLeT, ↓ifLeF, ↓ifLtT, ↓ifLtF, ↓ifEqT, ↓ifEqF, if_tt, if_ff, if_pos, if_neg, nLe, nLt, nEq, nInT, nCl, pk_mul, nI_add, Nat.reduceAdd, s_cat_nil, s_cat_i, s_cat_r, s_cat_f, s_cat_l, tl_s, tl_n, cat_i, cat_r, cat_f, nb0, nb1, nbI, if_bI, if_bIr, Nat.zero_le, Nat.reduceLeDiff]
  | succ n ih =>
    intro c t y hc ht hC hT
    have w0 := fun Q => T_isWord (d := d + 3) (s := s24 s t y) (h := h) (j := 2) (Q := Q) (by decide) ht
    have w0 : ∀ Q, MT (d + 5) 57 [.ref 2, .ref 1000003] (pS (s24 s t y) h) Q ↔ Q (some (.int (iB (isWB t 2)))) (pS (s24 s t y) h) := w0
    rw [rdK]
    by_cases c0 : c = 0 ∨ isWB t 2 = true
    · rw [if_pos c0]
      have s1 : WP (d + 5) 31 101 [.ref 1, .int (nI c)] [] (pS (s24 s t y) h) (0, 0) Q ↔ WP (d + 5) 31 122 [.ref 1, .int (nI c)] [] (pS (s24 s t y) h) (0, 0) Q := by
        by_cases cz : c = 0
        · subst cz
          simp (disch := omega) only [u_31_101, u_31_102, gI0, gIs, gR0, gRs, gF0, gFs, st0, st_i, st_r, st_f, st_n, st_s, true_and, and_true, ↓ifLeT, ↓ifLeF, ↓ifLtT, ↓ifLtF, ↓ifEqT, ↓ifEqF, if_tt, if_ff, if_pos, if_neg, nLe, nLt, nEq, nInT, nCl, pk_mul, nI_add, Nat.reduceAdd, s_cat_nil, s_cat_i, s_cat_r, s_cat_f, s_cat_l, tl_s, tl_n, cat_i, cat_r, cat_f, nb0, nb1, nbI, if_bI, if_bIr, Nat.zero_le, Nat.reduceLeDiff]
        · have hw : isWB t 2 = true := c0.resolve_left cz
          simp (disch := omega) only [u_31_101, u_31_102, u_31_105, u_31_106, u_31_107, u_31_110, u_31_111, u_31_114, u_31_116, u_31_119, gI0, gIs, gR0, gRs, gF0, gFs, st0, st_i, st_r, st_f, st_n, st_s, true_and, and_true, ↓ifLeT, ↓ifLeF, ↓ifLtT, ↓ifLtF, ↓ifEqT, ↓ifEqF, if_tt, if_ff, if_pos, if_neg, nLe, nLt, nEq, nInT, nCl, pk_mul, nI_add, Nat.reduceAdd, s_cat_nil, s_cat_i, s_cat_r, s_cat_f, s_cat_l, tl_s, tl_n, cat_i, cat_r, cat_f, nb0, nb1, nbI, if_bI, if_bIr, Nat.zero_le, Nat.reduceLeDiff, S_g0_0, S_g0_1, S_g0_2, S_g0_3, S_g0_4, S_g0_5, S_g0_6, S_g0_7, S_g0_8, S_g0_9, S_g0_10, S_g0_11, S_g0_12, S_g0_13, S_g0_14, S_g1_0, S_g1_1, S_g1_2, S_g1_3, S_g1_4, S_g72_0, S_g72_1, S_g72_2, S_g239_0, S_g239_1, S_g239_2, S_g239_3, S_g239_4, S_g239_5, S_g239_6, S_a23, S_n23, S_a282, S_n282, S_a300, S_n300, S_n73, S_n299, T_ob, w0, hw, iBt, nI10, cz, reduceIte]
      refine s1.trans ?_
      have e1 := fun Q => m_readsCrane2 (d := d + 1) (s := s) (h := h) (Q := Q) hC ht
      obtain ⟨o1, o2, o3⟩ := rdC_ok ht hC
      rw [← o3] at hT
      generalize rdC t y = r at e1 o1 o2 hT
      obtain ⟨r1, t1, y1⟩ := r
      cases r1 with
      | false =>
        show _ ↔ Q (some (.int (iB false))) (pS (s24 s t1 y1) h)
        simp (disch := omega) only [u_31_122, u_31_123, u_31_126, u_31_129, u_31_130, gI0, gIs, gR0, gRs, gF0, gFs, st0, st_i, st_r, st_f, st_n, st_s, true_and, and_true, ↓ifLeT, ↓ifLeF, ↓ifLtT, ↓ifLtF, ↓ifEqT, ↓ifEqF, if_tt, if_ff, if_pos, if_neg, nLe, nLt, nEq, nInT, nCl, pk_mul, nI_add, Nat.reduceAdd, s_cat_nil, s_cat_i, s_cat_r, s_cat_f, s_cat_l, tl_s, tl_n, cat_i, cat_r, cat_f, nb0, nb1, nbI, if_bI, if_bIr, Nat.zero_le, Nat.reduceLeDiff, S_ob1, e1, iBf]
      | true =>
        have e2 := fun Q => m_isNextLine (d := d + 2) (s := s24 s t1 y1) (h := h) (Q := Q) (okT_0 o1)
        simp only [s24_O, s24_w] at e2
        have g3 : ∀ f : Value → Prop, fG (pS (s24 s t1 y1) h) 2 6 3 f ↔ f (.int (eI t1 3)) := fun f => T_g3
        simp only [if_true]
        by_cases k0 : eI t1 3 = nI 0
        · simp (disch := omega) only [u_31_122, u_31_123, u_31_126, u_31_129, u_31_130, u_31_131, u_31_132, u_31_135, u_31_138, u_31_141, u_31_142, gI0, gIs, gR0, gRs, gF0, gFs, st0, st_i, st_r, st_f, st_n, st_s, true_and, and_true, ↓ifLeT, ↓ifLeF, ↓ifLtT, ↓ifLtF, ↓ifEqT, ↓ifEqF, if_tt, if_ff, if_pos, if_neg, nLe, nLt, nEq, nInT, nCl, pk_mul, nI_add, Nat.reduceAdd, s_cat_nil, s_cat_i, s_cat_r, s_cat_f, s_cat_l, tl_s, tl_n, cat_i, cat_r, cat_f, nb0, nb1, nbI, if_bI, if_bIr, Nat.zero_le, Nat.reduceLeDiff, S_g0_0, S_g0_1, S_g0_2, S_g0_3, S_g0_4, S_g0_5, S_g0_6, S_g0_7, S_g0_8, S_g0_9, S_g0_10, S_g0_11, S_g0_12, S_g0_13, S_g0_14, S_g1_0, S_g1_1, S_g1_2, S_g1_3, S_g1_4, S_g72_0, S_g72_1, S_g72_2, S_g239_0, S_g239_1, S_g239_2, S_g239_3, S_g239_4, S_g239_5, S_g239_6, S_a23, S_n23, S_a282, S_n282, S_a300, S_n300, S_n73, S_n299, S_ob1, e1, iBt, nI10, g3, k0, reduceIte]
        · by_cases k3 : eI t1 3 = nI 3
          · have e3 := ih (c + 1) (advT t1) y1 (by omega) (okT_adv (okT_0 o1)) o2 hT
            simp only [k3, reduceIte, decide_true] at e2
            simp (disch := omega) only [u_31_122, u_31_123, u_31_126, u_31_129, u_31_130, u_31_131, u_31_132, u_31_135, u_31_138, u_31_141, u_31_142, u_31_143, u_31_144, u_31_147, u_31_150, u_31_151, u_31_152, u_31_155, gI0, gIs, gR0, gRs, gF0, gFs, st0, st_i, st_r, st_f, st_n, st_s, true_and, and_true, ↓ifLeT, ↓ifLeF, ↓ifLtT, ↓ifLtF, ↓ifEqT, ↓ifEqF, if_tt, if_ff, if_pos, if_neg, nLe, nLt, nEq, nInT, nCl, pk_mul, nI_add, Nat.reduceAdd, s_cat_nil, s_cat_i, s_cat_r, s_cat_f, s_cat_l, tl_s, tl_n, cat_i, cat_r, cat_f, nb0, nb1, nbI, if_bI, if_bIr, Nat.zero_le, Nat.reduceLeDiff, S_g0_0, S_g0_1, S_g0_2, S_g0_3, S_g0_4, S_g0_5, S_g0_6, S_g0_7, S_g0_8, S_g0_9, S_g0_10, S_g0_11, S_g0_12, S_g0_13, S_g0_14, S_g1_0, S_g1_1, S_g1_2, S_g1_3, S_g1_4, S_g72_0, S_g72_1, S_g72_2, S_g239_0, S_g239_1, S_g239_2, S_g239_3, S_g239_4, S_g239_5, S_g239_6, S_a23, S_n23, S_a282, S_n282, S_a300, S_n300, S_n73, S_n299, S_ob1, e1, iBt, nI10, g3, k0, k3, reduceIte, e2, e3]
          · simp only [k3, reduceIte, decide_false] at e2
            simp (disch := omega) only [u_31_122, u_31_123, u_31_126, u_31_129, u_31_130, u_31_131, u_31_132, u_31_135, u_31_138, u_31_141, u_31_142, u_31_143, u_31_144, u_31_147, u_31_150, u_31_151, u_31_152, u_31_155, gI0, gIs, gR0, gRs, gF0, gFs, st0, st_i, st_r, st_f, st_n, st_s, true_and, and_true, ↓ifLeT, ↓ifLeF, ↓ifLtT, ↓ifLtF, ↓ifEqT, ↓ifEqF, if_tt, if_ff, if_pos, if_neg, nLe, nLt, nEq, nInT, nCl, pk_mul, nI_add, Nat.reduceAdd, s_cat_nil, s_cat_i, s_cat_r, s_cat_f, s_cat_l, tl_s, tl_n, cat_i, cat_r, cat_f, nb0, nb1, nbI, if_bI, if_bIr, Nat.zero_le, Nat.reduceLeDiff, S_g0_0, S_g0_1, S_g0_2, S_g0_3, S_g0_4, S_g0_5, S_g0_6, S_g0_7, S_g0_8, S_g0_9, S_g0_10, S_g0_11, S_g0_12, S_g0_13, S_g0_14, S_g1_0, S_g1_1, S_g1_2, S_g1_3, S_g1_4, S_g72_0, S_g72_1, S_g72_2, S_g239_0, S_g239_1, S_g239_2, S_g239_3, S_g239_4, S_g239_5, S_g239_6, S_a23, S_n23, S_a282, S_n282, S_a300, S_n300, S_n73, S_n299, S_ob1, e1, iBt, iBf, nI10, g3, k0, k3, reduceIte, e2]
    · rw [if_neg c0]
      have cz : ¬ c = 0 := fun z => c0 (Or.inl z)
      have hw : isWB t 2 = false := by
        cases hx : isWB t 2 with
        | false => rfl
        | true => exact absurd (Or.inr hx) c0
      refine Iff.trans ?_ (cr_e (d := d) (c := c) ht hT)
      simp (disch := omega) only [u_31_101, u_31_102, u_31_105, u_31_106, u_31_107, u_31_110, u_31_111, u_31_114, u_31_116, u_31_119, gI0, gIs, gR0, gRs, gF0, gFs, st0, st_i, st_r, st_f, st_n, st_s, true_and, and_true, ↓ifLeT, ↓ifLeF, ↓ifLtT, ↓ifLtF, ↓ifEqT, ↓ifEqF, if_tt, if_ff, if_pos, if_neg, nLe, nLt, nEq, nInT, nCl, pk_mul, nI_add, Nat.reduceAdd, s_cat_nil, s_cat_i, s_cat_r, s_cat_f, s_cat_l, tl_s, tl_n, cat_i, cat_r, cat_f, nb0, nb1, nbI, if_bI, if_bIr, Nat.zero_le, Nat.reduceLeDiff, S_g0_0, S_g0_1, S_g0_2, S_g0_3, S_g0_4, S_g0_5, S_g0_6, S_g0_7, S_g0_8, S_g0_9, S_g0_10, S_g0_11, S_g0_12, S_g0_13, S_g0_14, S_g1_0, S_g1_1, S_g1_2, S_g1_3, S_g1_4, S_g72_0, S_g72_1, S_g72_2, S_g239_0, S_g239_1, S_g239_2, S_g239_3, S_g239_4, S_g239_5, S_g239_6, S_a23, S_n23, S_a282, S_n282, S_a300, S_n300, S_n73, S_n299, T_ob, w0, hw, iBf, cz, reduceIte]
end RV
