/-! Yard: in how many minutes all is done -/
section YL
variable {a d : Nat} {y : tY} {h : sH} {k : sK} {Q : sQ} {i x w : Int32}
theorem wkY_T {c : Nat} : yT (wkY y c) = yT y := by unfold wkY; split; rfl; split; rfl; split <;> rfl
theorem wkY_P {c : Nat} : yP (wkY y c) = yP y := by unfold wkY; split; rfl; split; rfl; split <;> rfl
theorem okY_sw2 {c : Nat} (hy : okY y) : okY (sw2 c y) := by
  obtain ⟨hC, hT, hS, hW⟩ := hy
  refine ⟨by rw [sw2_C]; exact hC, ?_, ?_, fun q hq => ?_⟩
  · unfold sw2; rw [wkY_T]; exact hT
  · unfold sw2; rw [wkY_P]; exact hS
  · unfold sw2
    rw [wkY_W]
    show fine (vf_upd (yW y) c _ q)
    unfold vf_upd
    by_cases e : q = c
    · rw [if_pos e]
      by_cases hc : c < 4
      · exact fine_s (hW c hc)
      · omega
    · rw [if_neg e]; exact hW q hq
theorem okY_it {f : Nat → tY → tY} (hf : ∀ j y, okY y → okY (f j y)) : ∀ n i y, okY y → okY (iter f i n y)
  | 0, _, _, hy => hy
  | n + 1, i, y, hy => by rw [iter]; exact okY_it hf n (i + 1) _ (hf i y hy)
theorem okY_eqS {z : tY} (e : eqS y z) (hy : okY y) : okY z := by obtain ⟨f, g, rfl⟩ := e; exact hy
theorem okY_mid (hy : okY y) : okY (midY y) := okY_eqS (y := begY (nxtY y)) (z := stpY (begY (nxtY y))) (eqS_i (fun j y => eqS_1) _ _ _) hy
theorem okY_pass (hy : okY y) : okY (passY y) := okY_it (fun j y => okY_sw2) _ _ _ (okY_mid hy)
theorem wkY_q {c : Nat} : yC (sw2 c y) = yC y ∧ yT (sw2 c y) = yT y ∧ yP (sw2 c y) = yP y := ⟨wkY_C, wkY_T, wkY_P⟩
theorem sw_same : ∀ n i y, yC (iter sw2 i n y) = yC y ∧ yT (iter sw2 i n y) = yT y ∧ yP (iter sw2 i n y) = yP y
  | 0, _, _ => ⟨rfl, rfl, rfl⟩
  | n + 1, i, y => by
    rw [iter]
    obtain ⟨h1, h2, h3⟩ := sw_same n (i + 1) (sw2 i y)
    obtain ⟨g1, g2, g3⟩ := wkY_q (y := y) (c := i)
    exact ⟨h1.trans g1, h2.trans g2, h3.trans g3⟩
theorem mid_same : yC (midY y) = yC y ∧ yT (midY y) = yT y ∧ yP (midY y) = yP y := by
  have e : eqS (begY (nxtY y)) (stpY (begY (nxtY y))) := eqS_i (fun j y => eqS_1) _ _ _
  have e1 := eqS_C e
  have e2 := eqS_T e
  have e3 := eqS_P e
  exact ⟨e1, e2, e3⟩
theorem pass_same : yC (passY y) = yC y ∧ yT (passY y) = yT y ∧ yP (passY y) = yP y := by
  obtain ⟨h1, h2, h3⟩ := sw_same (yC (midY y)) 0 (midY y)
  obtain ⟨g1, g2, g3⟩ := mid_same (y := y)
  exact ⟨h1.trans g1, h2.trans g2, h3.trans g3⟩
/-- told and not done -/
def leftT (told : Int32) (y : tY) : Int32 := told &&& (yB y 6 ^^^ (-1))
def lastF (told : Int32) : Nat → Nat → tY → Int32 × tY
  | 0, _, y => (-1, y)
  | n + 1, m, y => if leftT told y = nI 0 then (nI m, y) else if passB y then lastF told n (m + 1) (passY y) else (-1, passY y)
theorem last_lp {told : Int32} {N : Nat} (hN : N < 2 ^ 20) : ∀ n m y, m + n = N + 1 → okY y → (WP (d + 2) 74 10 [.ref a, .int (nI N), .int told, .int (nI m)] [] (pY a y h) (0, 0) Q ↔ Q (some (.int (lastF told n m y).1)) (pY a (lastF told n m y).2 h)) := by
  intro n
  induction n with
  | zero =>
    intro m y hm hy
    simp (disch := omega) only [u_74_10, u_74_11, u_74_12, u_74_43, u_74_44, gI0, gIs, gR0, gRs, gF0, gFs, st0, st_i, st_r, st_f, st_n, st_s, true_and, and_true, ↓ifLeT, ↓ifLeF, ↓ifLtT, ↓ifLtF, ↓ifEqT, ↓ifEqF, if_tt, if_ff, if_pos, if_neg, nLe, nLt, nEq, nInT, nCl, pk_mul, nI_add, Nat.reduceAdd, s_cat_nil, s_cat_i, s_cat_r, s_cat_f, s_cat_l, tl_s, tl_n, cat_i, cat_r, cat_f, nb0, nb1, nbI, if_bI, if_bIr, Nat.zero_le, Nat.reduceLeDiff, lastF]
  | succ n ih =>
    intro m y hm hy
    have e := fun Q => m_pass (d := d) (a := a) (h := h) (Q := Q) hy
    have ih := ih (m + 1) (passY y) (by omega) (okY_pass hy)
    rw [u_74_10, lastF]
    by_cases h1 : leftT told y = nI 0
    · rw [if_pos h1]
      unfold leftT at h1
      simp (disch := omega) only [u_74_11, u_74_12, u_74_15, u_74_16, u_74_17, u_74_20, u_74_21, u_74_22, u_74_23, u_74_26, u_74_27, gI0, gIs, gR0, gRs, gF0, gFs, st0, st_i, st_r, st_f, st_n, st_s, true_and, and_true, ↓ifLeT, ↓ifLeF, ↓ifLtT, ↓ifLtF, ↓ifEqT, ↓ifEqF, if_tt, if_ff, if_pos, if_neg, nLe, nLt, nEq, nInT, nCl, pk_mul, nI_add, Nat.reduceAdd, s_cat_nil, s_cat_i, s_cat_r, s_cat_f, s_cat_l, tl_s, tl_n, cat_i, cat_r, cat_f, nb0, nb1, nbI, if_bI, if_bIr, Nat.zero_le, Nat.reduceLeDiff, Y_g0, Y_g1, Y_g2, Y_g3, Y_g4, Y_g5, Y_g6, Y_g7, Y_g8, Y_g9, Y_g10, Y_g11, Y_g12, Y_g13, Y_g14, Y_g15, Y_g16, Y_g17, Y_g18, Y_g19, h1]
    · rw [if_neg h1]
      unfold leftT at h1
      cases hb : passB y with
      | true =>
        simp (disch := omega) only [u_74_11, u_74_12, u_74_15, u_74_16, u_74_17, u_74_20, u_74_21, u_74_22, u_74_23, u_74_26, u_74_27, u_74_28, u_74_29, u_74_32, u_74_35, u_74_36, u_74_37, u_74_40, gI0, gIs, gR0, gRs, gF0, gFs, st0, st_i, st_r, st_f, st_n, st_s, true_and, and_true, ↓ifLeT, ↓ifLeF, ↓ifLtT, ↓ifLtF, ↓ifEqT, ↓ifEqF, if_tt, if_ff, if_pos, if_neg, nLe, nLt, nEq, nInT, nCl, pk_mul, nI_add, Nat.reduceAdd, s_cat_nil, s_cat_i, s_cat_r, s_cat_f, s_cat_l, tl_s, tl_n, cat_i, cat_r, cat_f, nb0, nb1, nbI, if_bI, if_bIr, Nat.zero_le, Nat.reduceLeDiff, Y_g0, Y_g1, Y_g2, Y_g3, Y_g4, Y_g5, Y_g6, Y_g7, Y_g8, Y_g9, Y_g10, Y_g11, Y_g12, Y_g13, Y_g14, Y_g15, Y_g16, Y_g17, Y_g18, Y_g19, h1, Y_ob, e, hb, iB, nI10, reduceIte, ih]
      | false =>
        simp (disch := omega) only [u_74_11, u_74_12, u_74_15, u_74_16, u_74_17, u_74_20, u_74_21, u_74_22, u_74_23, u_74_26, u_74_27, u_74_28, u_74_29, u_74_32, u_74_35, u_74_36, u_74_37, u_74_40, gI0, gIs, gR0, gRs, gF0, gFs, st0, st_i, st_r, st_f, st_n, st_s, true_and, and_true, ↓ifLeT, ↓ifLeF, ↓ifLtT, ↓ifLtF, ↓ifEqT, ↓ifEqF, if_tt, if_ff, if_pos, if_neg, nLe, nLt, nEq, nInT, nCl, pk_mul, nI_add, Nat.reduceAdd, s_cat_nil, s_cat_i, s_cat_r, s_cat_f, s_cat_l, tl_s, tl_n, cat_i, cat_r, cat_f, nb0, nb1, nbI, if_bI, if_bIr, Nat.zero_le, Nat.reduceLeDiff, Y_g0, Y_g1, Y_g2, Y_g3, Y_g4, Y_g5, Y_g6, Y_g7, Y_g8, Y_g9, Y_g10, Y_g11, Y_g12, Y_g13, Y_g14, Y_g15, Y_g16, Y_g17, Y_g18, Y_g19, h1, Y_ob, e, hb, iB, reduceIte, Bool.false_eq_true]
theorem Y_bits (hs : okS (yP y)) : MT (d + 1) 29 [.ref (a + 13)] (pY a y h) Q ↔ Q (some (.int (bitsP (yP y)))) (pY a y h) := by
  have e := m_bits (d := d) (b := a + 13) (p := yP y) (h := pY a y h) (Q := Q) hs
  rw [pY_P] at e
  exact e
def lastY (y : tY) (N : Nat) : Int32 × tY := lastF (bitsP (yP y)) (N + 1) 0 y
theorem m_lastWithin {N : Nat} (hN : N < 2 ^ 20) (hy : okY y) : MT (d + 3) 74 [.ref a, .int (nI N)] (pY a y h) Q ↔ Q (some (.int (lastY y N).1)) (pY a (lastY y N).2 h) := by
  rw [MT_go (by decide) _ _ _ (Nat.le_of_ble_eq_true rfl), show s_entry 74 [.ref a, .int (nI N)] = [.ref a, .int (nI N), s_no, s_no] from rfl]
  have e := last_lp (d := d) (a := a) (h := h) (Q := Q) (told := bitsP (yP y)) hN (N + 1) 0 y (by omega) hy
  simp (disch := omega) only [u_74_0, u_74_1, u_74_4, u_74_7, u_74_8, u_74_9, gI0, gIs, gR0, gRs, gF0, gFs, st0, st_i, st_r, st_f, st_n, st_s, true_and, and_true, ↓ifLeT, ↓ifLeF, ↓ifLtT, ↓ifLtF, ↓ifEqT, ↓ifEqF, if_tt, if_ff, if_pos, if_neg, nLe, nLt, nEq, nInT, nCl, pk_mul, nI_add, Nat.reduceAdd, s_cat_nil, s_cat_i, s_cat_r, s_cat_f, s_cat_l, tl_s, tl_n, cat_i, cat_r, cat_f, nb0, nb1, nbI, if_bI, if_bIr, Nat.zero_le, Nat.reduceLeDiff, Y_g0, Y_g1, Y_g2, Y_g3, Y_g4, Y_g5, Y_g6, Y_g7, Y_g8, Y_g9, Y_g10, Y_g11, Y_g12, Y_g13, Y_g14, Y_g15, Y_g16, Y_g17, Y_g18, Y_g19, YP_ob, Y_bits hy.2.2.1]
  exact e
end YL
