/-! Reader: the tasks -/
section RU
variable {a b d m : Nat} {s : tS} {h : sH} {i w : Int32} {Q : sQ}
theorem addT_le {y : tY} {w t v b : Int32} (hT : yT y ≤ 8) : yT (addT y w t v b) ≤ 8 := by
  unfold addT
  split
  · show yT y + 1 ≤ 8
    omega
  · exact hT
theorem enF_ok {w v2 v3 v4 : Int32} {t : tO} {y : tY} (ht : okT t) (hT : yT y ≤ 8) : okT (enF w v2 v3 v4 t y).2.1 ∧ yT (enF w v2 v3 v4 t y).2.2 ≤ 8 := by
  have h1 := afF_ok (hi := w - nI 1) 400 t (nI 0) ht
  unfold enF
  split
  · exact ⟨h1, addT_le hT⟩
  · exact ⟨h1, hT⟩
theorem rdT_ok {w : Int32} {t : tO} {y : tY} (ht : okT t) (hT : yT y ≤ 8) : okT (rdT w t y).2.1 ∧ yT (rdT w t y).2.2 ≤ 8 := by
  have oa := okT_adv (okT_0 ht)
  have ob := okT_nm (j := 5) oa
  have oc := okT_adv (okT_0 ob)
  have od := okT_nm (j := 6) oc
  have oe := okT_adv (okT_0 od)
  unfold rdT
  split
  · split
    · split
      · split
        · exact enF_ok (hvF_ok oe) hT
        · exact ⟨hvF_ok oe, hT⟩
      · exact ⟨od, hT⟩
    · exact ⟨ob, hT⟩
  · exact ⟨ht, hT⟩
theorem s24_O {t : tO} {y : tY} : SO (s24 s t y) 2 = t := rfl
theorem s24_Y {t : tO} {y : tY} : SY (s24 s t y) 4 = y := rfl
theorem s24_w {t t' : tO} {y : tY} : wSO (s24 s t y) 2 t' = s24 s t' y := by
  show wSY (wSO (wSO s 2 t) 2 t') 4 y = _
  rw [wSO_tw]
  rfl
theorem s24_s {t t' : tO} {y y' : tY} : s24 (s24 s t y) t' y' = s24 s t' y' := by
  show wSY (wSO (s24 s t y) 2 t') 4 y' = _
  rw [s24_w]
  exact wSY_tw _ _ _ _
theorem s24_eta : s24 s (SO s 2) (SY s 4) = s := by rw [s24_y, wSO_eta]
theorem m_readsTask {t : tO} {y : tY} (hT : yT y ≤ 8) (ht : okT t) : MT (d + 4) 39 [.ref 1, .int w] (pS (s24 s t y) h) Q ↔ Q (some (.int (iB (rdT w t y).1))) (pS (s24 s (rdT w t y).2.1 (rdT w t y).2.2) h) := by
  have e := task_t (d := d) (s := s24 s t y) (h := h) (w := w) (Q := Q) (t := t) hT ht
  rw [s24_w, s24_s] at e
  exact e
def rdL : Nat → Nat → tO → tY → Bool × tO × tY
  | 0, _, t, y => (false, t, y)
  | n + 1, k, t, y => if (rdT (nI k) t y).1 then (if eI (rdT (nI k) t y).2.1 3 = nI 0 then (true, (rdT (nI k) t y).2) else if eI (rdT (nI k) t y).2.1 3 = nI 3 then rdL n (k + 1) (advT (rdT (nI k) t y).2.1) (rdT (nI k) t y).2.2 else (false, (rdT (nI k) t y).2)) else (false, (rdT (nI k) t y).2)
theorem tasks_lp : ∀ n k t y, k + n = 8 → okT t → yT y ≤ 8 → (WP (d + 4) 38 2 [.ref 1, .int (nI k)] [] (pS (s24 s t y) h) (0, 0) Q ↔ Q (some (.int (iB (rdL n k t y).1))) (pS (s24 s (rdL n k t y).2.1 (rdL n k t y).2.2) h)) := by
  intro n
  induction n with
  | zero =>
    intro k t y hk ht hT
    have e : k = 8 := by omega
    subst e
    simp (disch := omega) only [u_38_2, u_38_3, u_38_5, u_38_45, u_38_46, gI0, gIs, gR0, gRs, gF0, gFs, st0, st_i, st_r, st_f, st_n, st_s, true_and, and_true, ↓ifLeT, ↓ifLeF, ↓ifLtT, ↓ifLtF, ↓ifEqT, ↓ifEqF, if_tt, if_ff, if_pos, if_neg, nLe, nLt, nEq, nInT, nCl, pk_mul, nI_add, Nat.reduceAdd, s_cat_nil, s_cat_i, s_cat_r, s_cat_f, s_cat_l, tl_s, tl_n, cat_i, cat_r, cat_f, nb0, nb1, nbI, if_bI, if_bIr, Nat.zero_le, Nat.reduceLeDiff, rdL, iBf]
  | succ n ih =>
    intro k t y hk ht hT
    have e1 := fun Q => m_readsTask (d := d) (s := s) (h := h) (w := nI k) (Q := Q) hT ht
    obtain ⟨o1, o2⟩ := rdT_ok (w := nI k) ht hT
    rw [u_38_2, rdL]
    generalize rdT (nI k) t y = r at e1 o1 o2
    obtain ⟨r1, t1, y1⟩ := r
    cases r1 with
    | false =>
      show _ ↔ Q (some (.int (iB false))) (pS (s24 s t1 y1) h)
      simp (disch := omega) only [u_38_3, u_38_5, u_38_8, u_38_9, u_38_10, u_38_13, u_38_16, u_38_17, gI0, gIs, gR0, gRs, gF0, gFs, st0, st_i, st_r, st_f, st_n, st_s, true_and, and_true, ↓ifLeT, ↓ifLeF, ↓ifLtT, ↓ifLtF, ↓ifEqT, ↓ifEqF, if_tt, if_ff, if_pos, if_neg, nLe, nLt, nEq, nInT, nCl, pk_mul, nI_add, Nat.reduceAdd, s_cat_nil, s_cat_i, s_cat_r, s_cat_f, s_cat_l, tl_s, tl_n, cat_i, cat_r, cat_f, nb0, nb1, nbI, if_bI, if_bIr, Nat.zero_le, Nat.reduceLeDiff, S_ob1, e1, iBf]
    | true =>
      have e2 := fun Q => m_isNextLine (d := d + 1) (s := s24 s t1 y1) (h := h) (Q := Q) (okT_0 o1)
      simp only [s24_O, s24_w] at e2
      have g3 : ∀ f : Value → Prop, fG (pS (s24 s t1 y1) h) 2 6 3 f ↔ f (.int (eI t1 3)) := fun f => T_g3
      simp only [if_true]
      by_cases k0 : eI t1 3 = nI 0
      · simp (disch := omega) only [u_38_3, u_38_5, u_38_8, u_38_9, u_38_10, u_38_13, u_38_16, u_38_17, u_38_18, u_38_19, u_38_22, u_38_25, u_38_28, u_38_29, gI0, gIs, gR0, gRs, gF0, gFs, st0, st_i, st_r, st_f, st_n, st_s, true_and, and_true, ↓ifLeT, ↓ifLeF, ↓ifLtT, ↓ifLtF, ↓ifEqT, ↓ifEqF, if_tt, if_ff, if_pos, if_neg, nLe, nLt, nEq, nInT, nCl, pk_mul, nI_add, Nat.reduceAdd, s_cat_nil, s_cat_i, s_cat_r, s_cat_f, s_cat_l, tl_s, tl_n, cat_i, cat_r, cat_f, nb0, nb1, nbI, if_bI, if_bIr, Nat.zero_le, Nat.reduceLeDiff, S_g0_0, S_g0_1, S_g0_2, S_g0_3, S_g0_4, S_g0_5, S_g0_6, S_g0_7, S_g0_8, S_g0_9, S_g0_10, S_g0_11, S_g0_12, S_g0_13, S_g0_14, S_g1_0, S_g1_1, S_g1_2, S_g1_3, S_g1_4, S_g72_0, S_g72_1, S_g72_2, S_g239_0, S_g239_1, S_g239_2, S_g239_3, S_g239_4, S_g239_5, S_g239_6, S_a23, S_n23, S_a282, S_n282, S_a300, S_n300, S_n73, S_n299, S_ob1, e1, iBt, nI10, g3, k0, reduceIte]
      · by_cases k3 : eI t1 3 = nI 3
        · have e3 := ih (k + 1) (advT t1) y1 (by omega) (okT_adv (okT_0 o1)) o2
          simp only [k3, reduceIte, decide_true] at e2
          simp (disch := omega) only [u_38_3, u_38_5, u_38_8, u_38_9, u_38_10, u_38_13, u_38_16, u_38_17, u_38_18, u_38_19, u_38_22, u_38_25, u_38_28, u_38_29, u_38_30, u_38_31, u_38_34, u_38_37, u_38_38, u_38_39, u_38_42, gI0, gIs, gR0, gRs, gF0, gFs, st0, st_i, st_r, st_f, st_n, st_s, true_and, and_true, ↓ifLeT, ↓ifLeF, ↓ifLtT, ↓ifLtF, ↓ifEqT, ↓ifEqF, if_tt, if_ff, if_pos, if_neg, nLe, nLt, nEq, nInT, nCl, pk_mul, nI_add, Nat.reduceAdd, s_cat_nil, s_cat_i, s_cat_r, s_cat_f, s_cat_l, tl_s, tl_n, cat_i, cat_r, cat_f, nb0, nb1, nbI, if_bI, if_bIr, Nat.zero_le, Nat.reduceLeDiff, S_g0_0, S_g0_1, S_g0_2, S_g0_3, S_g0_4, S_g0_5, S_g0_6, S_g0_7, S_g0_8, S_g0_9, S_g0_10, S_g0_11, S_g0_12, S_g0_13, S_g0_14, S_g1_0, S_g1_1, S_g1_2, S_g1_3, S_g1_4, S_g72_0, S_g72_1, S_g72_2, S_g239_0, S_g239_1, S_g239_2, S_g239_3, S_g239_4, S_g239_5, S_g239_6, S_a23, S_n23, S_a282, S_n282, S_a300, S_n300, S_n73, S_n299, S_ob1, e1, iBt, nI10, g3, k0, k3, reduceIte, e2, e3]
        · simp only [k3, reduceIte, decide_false] at e2
          simp (disch := omega) only [u_38_3, u_38_5, u_38_8, u_38_9, u_38_10, u_38_13, u_38_16, u_38_17, u_38_18, u_38_19, u_38_22, u_38_25, u_38_28, u_38_29, u_38_30, u_38_31, u_38_34, u_38_37, u_38_38, u_38_39, u_38_42, gI0, gIs, gR0, gRs, gF0, gFs, st0, st_i, st_r, st_f, st_n, st_s, true_and, and_true, ↓ifLeT, ↓ifLeF, ↓ifLtT, ↓ifLtF, ↓ifEqT, ↓ifEqF, if_tt, if_ff, if_pos, if_neg, nLe, nLt, nEq, nInT, nCl, pk_mul, nI_add, Nat.reduceAdd, s_cat_nil, s_cat_i, s_cat_r, s_cat_f, s_cat_l, tl_s, tl_n, cat_i, cat_r, cat_f, nb0, nb1, nbI, if_bI, if_bIr, Nat.zero_le, Nat.reduceLeDiff, S_g0_0, S_g0_1, S_g0_2, S_g0_3, S_g0_4, S_g0_5, S_g0_6, S_g0_7, S_g0_8, S_g0_9, S_g0_10, S_g0_11, S_g0_12, S_g0_13, S_g0_14, S_g1_0, S_g1_1, S_g1_2, S_g1_3, S_g1_4, S_g72_0, S_g72_1, S_g72_2, S_g239_0, S_g239_1, S_g239_2, S_g239_3, S_g239_4, S_g239_5, S_g239_6, S_a23, S_n23, S_a282, S_n282, S_a300, S_n300, S_n73, S_n299, S_ob1, e1, iBt, iBf, nI10, g3, k0, k3, reduceIte, e2]
theorem m_readsTasks {t : tO} {y : tY} (hT : yT y ≤ 8) (ht : okT t) : MT (d + 5) 38 [.ref 1] (pS (s24 s t y) h) Q ↔ Q (some (.int (iB (rdL 8 0 t y).1))) (pS (s24 s (rdL 8 0 t y).2.1 (rdL 8 0 t y).2.2) h) := by
  rw [MT_go (by decide) _ _ _ (Nat.le_of_ble_eq_true rfl), show s_entry 38 [.ref 1] = [.ref 1, s_no] from rfl]
  have e := tasks_lp (d := d) (s := s) (h := h) (Q := Q) 8 0 t y rfl ht hT
  simp (disch := omega) only [u_38_0, u_38_1, gI0, gIs, gR0, gRs, gF0, gFs, st0, st_i, st_r, st_f, st_n, st_s, true_and, and_true, ↓ifLeT, ↓ifLeF, ↓ifLtT, ↓ifLtF, ↓ifEqT, ↓ifEqF, if_tt, if_ff, if_pos, if_neg, nLe, nLt, nEq, nInT, nCl, pk_mul, nI_add, Nat.reduceAdd, s_cat_nil, s_cat_i, s_cat_r, s_cat_f, s_cat_l, tl_s, tl_n, cat_i, cat_r, cat_f, nb0, nb1, nbI, if_bI, if_bIr, Nat.zero_le, Nat.reduceLeDiff]
  exact e
end RU
