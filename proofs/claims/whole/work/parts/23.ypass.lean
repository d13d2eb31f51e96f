/-! Yard: a minute goes by -/
def swL (l : List Bool) (w : UInt32) : UInt32 := l.foldl (fun w b => swF b w) w
/-- whatever comes, no float is not a number -/
def fine (w : UInt32) : Prop := ∀ l, nice (swL l w)
theorem fine_n {w : UInt32} (h : fine w) : nice w := h []
theorem fine_s {w : UInt32} {b : Bool} (h : fine w) : fine (swF b w) := fun l => h (b :: l)
section YE
variable {a d : Nat} {y : tY} {h : sH} {k : sK} {Q : sQ} {i x w : Int32}
def okY (y : tY) : Prop := yC y ≤ 4 ∧ yT y ≤ 8 ∧ okS (yP y) ∧ ∀ c, c < 4 → fine (yW y c)
theorem nx_ok {c : Nat} (hT : yT y ≤ 8) : ¬ nxY y c < nI 0 → vp_in (nxY y c) 8 := by
  unfold nxY
  cases e : nxF y c 0 ((yP y).2 c) with
  | none => intro z; exact absurd (show (-1 : Int32) < nI 0 by decide) z
  | some t =>
    intro _
    unfold nxF at e
    obtain ⟨j, -, -, hj⟩ := sfrom_some e
    split at hj
    · rename_i hx
      cases hj
      exact vp_ofLt hx.1 hx.2.1 hT (by decide)
    · cases hj
def nxtY (y : tY) : tY := uA y 10 (fil (yC y) (nxY y) (yA y 10))
theorem nxt_lp (hy : okY y) : ∀ n i v2, i + n = yC y → (WP (d + 1) 75 2 [.ref a, .int (nI i), v2] [] (pY a (uA y 10 (fil i (nxY y) (yA y 10))) h) (0, 0) Q ↔ WP (d + 1) 75 27 [.ref a, .int (nI (yC y)), v2] [] (pY a (nxtY y) h) (0, 0) Q) := by
  obtain ⟨hC, hT, hS, -⟩ := hy
  intro n
  induction n with
  | zero =>
    intro i v2 hi
    have e : i = yC y := by omega
    subst e
    simp (disch := omega) only [u_75_2, u_75_3, u_75_4, u_75_7, gI0, gIs, gR0, gRs, gF0, gFs, st0, st_i, st_r, st_f, st_n, st_s, true_and, and_true, ↓ifLeT, ↓ifLeF, ↓ifLtT, ↓ifLtF, ↓ifEqT, ↓ifEqF, if_tt, if_ff, if_pos, if_neg, nLe, nLt, nEq, nInT, nCl, pk_mul, nI_add, Nat.reduceAdd, s_cat_nil, s_cat_i, s_cat_r, s_cat_f, s_cat_l, tl_s, tl_n, cat_i, cat_r, cat_f, nb0, nb1, nbI, if_bI, if_bIr, Nat.zero_le, Nat.reduceLeDiff, Y_g0, Y_g1, Y_g2, Y_g3, Y_g4, Y_g5, Y_g6, Y_g7, Y_g8, Y_g9, Y_g10, Y_g11, Y_g12, Y_g13, Y_g14, Y_g15, Y_g16, Y_g17, Y_g18, Y_g19, yC_uS, yT_uS, yW_uS, yP_uS, yB_uS, yA_uS, yC_uC, yT_uC, yW_uC, yP_uC, yB_uC, yA_uC, yC_uT, yT_uT, yW_uT, yP_uT, yB_uT, yA_uT, yC_uA, yT_uA, yW_uA, yP_uA, yB_uA, yA_uA, yC_uW, yT_uW, yW_uW, yP_uW, yB_uW, yA_uW, yC_uP, yT_uP, yW_uP, yP_uP, yB_uP, yA_uP, Nat.le_refl]
    exact Iff.rfl
  | succ n ih =>
    intro i v2 hi
    have e := fun Q => m_nextOf (d := d) (a := a) (y := uA y 10 (fil i (nxY y) (yA y 10))) (h := h) (Q := Q) (c := i) (by omega) (hS i (by omega))
    have e2 : nxY (uA y 10 (fil i (nxY y) (yA y 10))) i = nxY y i := rfl
    rw [e2] at e
    rw [u_75_2]
    simp (disch := omega) only [u_75_3, u_75_4, u_75_7, u_75_10, u_75_11, u_75_14, u_75_15, u_75_16, u_75_17, u_75_20, u_75_21, u_75_24, gI0, gIs, gR0, gRs, gF0, gFs, st0, st_i, st_r, st_f, st_n, st_s, true_and, and_true, ↓ifLeT, ↓ifLeF, ↓ifLtT, ↓ifLtF, ↓ifEqT, ↓ifEqF, if_tt, if_ff, if_pos, if_neg, nLe, nLt, nEq, nInT, nCl, pk_mul, nI_add, Nat.reduceAdd, s_cat_nil, s_cat_i, s_cat_r, s_cat_f, s_cat_l, tl_s, tl_n, cat_i, cat_r, cat_f, nb0, nb1, nbI, if_bI, if_bIr, Nat.zero_le, Nat.reduceLeDiff, Y_g0, Y_g1, Y_g2, Y_g3, Y_g4, Y_g5, Y_g6, Y_g7, Y_g8, Y_g9, Y_g10, Y_g11, Y_g12, Y_g13, Y_g14, Y_g15, Y_g16, Y_g17, Y_g18, Y_g19, Y_a7, Y_a8, Y_a10, Y_a11, Y_a12, Y_a13, Y_a14, Y_a15, Y_a16, Y_a17, Y_a18, Y_sw, Y_w7, Y_w8, Y_w10, Y_w11, Y_w12, Y_w13, Y_w14, Y_w15, Y_w16, Y_w17, Y_w18, Y_wsw, yC_uS, yT_uS, yW_uS, yP_uS, yB_uS, yA_uS, yC_uC, yT_uC, yW_uC, yP_uC, yB_uC, yA_uC, yC_uT, yT_uT, yW_uT, yP_uT, yB_uT, yA_uT, yC_uA, yT_uA, yW_uA, yP_uA, yB_uA, yA_uA, yC_uW, yT_uW, yW_uW, yP_uW, yB_uW, yA_uW, yC_uP, yT_uP, yW_uP, yP_uP, yB_uP, yA_uP, Nat.reduceEqDiff, reduceIte, Y_ob, e, uA_tw, fil_updS, ih (i + 1) _ (by omega)]
def eqS (y z : tY) : Prop := ∃ f g, z = uA (uA y 7 f) 11 g
theorem uA_comm {f g : Nat → Int32} {p q : Nat} (hn : p ≠ q) : uA (uA y p f) q g = uA (uA y q g) p f := by
  unfold uA
  refine Prod.ext rfl (Prod.ext rfl (Prod.ext (funext fun r => ?_) rfl))
  show (if r = q then g else if r = p then f else _) = if r = p then f else if r = q then g else _
  by_cases e : r = q
  · rw [if_pos e, if_neg (by omega), if_pos e]
  · rw [if_neg e]
    by_cases e2 : r = p
    · rw [if_pos e2, if_pos e2]
    · rw [if_neg e2, if_neg e2, if_neg e]
theorem eqS_r : eqS y y := ⟨yA y 7, yA y 11, by rw [show uA y 7 (yA y 7) = y from uA_eta, uA_eta]⟩
theorem eqS_t {z u : tY} (h1 : eqS y z) (h2 : eqS z u) : eqS y u := by
  obtain ⟨f, g, rfl⟩ := h1
  obtain ⟨f', g', rfl⟩ := h2
  exact ⟨f', g', by rw [uA_comm (y := uA y 7 f) (p := 11) (q := 7) (by decide), uA_tw, uA_tw]⟩
theorem eqS_m {w : Int32} {p j : Nat} : eqS y (mvS w p j y) := ⟨_, _, rfl⟩
theorem eqS_i {f : Nat → tY → tY} (hf : ∀ j y, eqS y (f j y)) : ∀ n i y, eqS y (iter f i n y)
  | 0, _, _ => eqS_r
  | n + 1, i, y => by rw [iter]; exact eqS_t (hf i y) (eqS_i hf n (i + 1) _)
theorem eqS_step {c : Nat} : eqS y (stepY y c) := by
  unfold stepY
  split
  · exact eqS_r
  · split
    · exact eqS_r
    · split
      · unfold stepU
        split
        · exact eqS_i (fun j y => eqS_m) _ _ _
        · exact eqS_r
      · unfold stepD
        split
        · exact eqS_i (fun j y => eqS_m) _ _ _
        · exact eqS_r
def stp1 (c : Nat) (y : tY) : tY := if yA y 11 c = nI 3 then stepY y c else y
theorem eqS_1 {c : Nat} : eqS y (stp1 c y) := by
  unfold stp1
  split
  · exact eqS_step
  · exact eqS_r
theorem eqS_C {z : tY} (e : eqS y z) : yC z = yC y := by obtain ⟨f, g, rfl⟩ := e; rfl
theorem eqS_T {z : tY} (e : eqS y z) : yT z = yT y := by obtain ⟨f, g, rfl⟩ := e; rfl
theorem eqS_W {z : tY} (e : eqS y z) : yW z = yW y := by obtain ⟨f, g, rfl⟩ := e; rfl
theorem eqS_P {z : tY} (e : eqS y z) : yP z = yP y := by obtain ⟨f, g, rfl⟩ := e; rfl
theorem eqS_B {z : tY} (e : eqS y z) : yB z = yB y := by obtain ⟨f, g, rfl⟩ := e; rfl
theorem eqS_N {z : tY} {c : Nat} (e : eqS y z) (hn : okN y c) : okN z c := by obtain ⟨f, g, rfl⟩ := e; exact hn
def stpY (y : tY) : tY := iter stp1 0 (yC y) y
theorem stp_lp {v : Int32} : ∀ n i y, i + n = yC y → yC y ≤ 4 → (∀ c, c < yC y → okN y c) → (WP (d + 1) 75 34 [.ref a, .int v, .int (nI i)] [] (pY a y h) (0, 0) Q ↔ WP (d + 1) 75 63 [.ref a, .int v, .int (nI (yC y))] [] (pY a (iter stp1 i n y) h) (0, 0) Q) := by
  intro n
  induction n with
  | zero =>
    intro i y hi hC hn
    have e : i = yC y := by omega
    subst e
    simp (disch := omega) only [u_75_34, u_75_35, u_75_36, u_75_39, gI0, gIs, gR0, gRs, gF0, gFs, st0, st_i, st_r, st_f, st_n, st_s, true_and, and_true, ↓ifLeT, ↓ifLeF, ↓ifLtT, ↓ifLtF, ↓ifEqT, ↓ifEqF, if_tt, if_ff, if_pos, if_neg, nLe, nLt, nEq, nInT, nCl, pk_mul, nI_add, Nat.reduceAdd, s_cat_nil, s_cat_i, s_cat_r, s_cat_f, s_cat_l, tl_s, tl_n, cat_i, cat_r, cat_f, nb0, nb1, nbI, if_bI, if_bIr, Nat.zero_le, Nat.reduceLeDiff, Y_g0, Y_g1, Y_g2, Y_g3, Y_g4, Y_g5, Y_g6, Y_g7, Y_g8, Y_g9, Y_g10, Y_g11, Y_g12, Y_g13, Y_g14, Y_g15, Y_g16, Y_g17, Y_g18, Y_g19, yC_uS, yT_uS, yW_uS, yP_uS, yB_uS, yA_uS, yC_uC, yT_uC, yW_uC, yP_uC, yB_uC, yA_uC, yC_uT, yT_uT, yW_uT, yP_uT, yB_uT, yA_uT, yC_uA, yT_uA, yW_uA, yP_uA, yB_uA, yA_uA, yC_uW, yT_uW, yW_uW, yP_uW, yB_uW, yA_uW, yC_uP, yT_uP, yW_uP, yP_uP, yB_uP, yA_uP, Nat.le_refl, iter]
  | succ n ih =>
    intro i y hi hC hn
    have e := fun Q => m_step (d := d) (a := a) (y := y) (h := h) (Q := Q) (c := i) hC (by omega) (hn i (by omega))
    have e1 : eqS y (stp1 i y) := eqS_1
    have ih := ih (i + 1) (stp1 i y) (by rw [eqS_C e1]; omega) (by rw [eqS_C e1]; exact hC) (fun c hc => eqS_N e1 (hn c (by rw [eqS_C e1] at hc; exact hc)))
    rw [eqS_C e1] at ih
    rw [u_75_34, iter]
    by_cases h0 : yA y 11 i = nI 3
    · rw [show stp1 i y = stepY y i from if_pos h0] at ih ⊢
      simp (disch := omega) only [u_75_35, u_75_36, u_75_39, u_75_42, u_75_43, u_75_46, u_75_47, u_75_48, u_75_49, u_75_52, u_75_53, u_75_54, u_75_57, u_75_60, gI0, gIs, gR0, gRs, gF0, gFs, st0, st_i, st_r, st_f, st_n, st_s, true_and, and_true, ↓ifLeT, ↓ifLeF, ↓ifLtT, ↓ifLtF, ↓ifEqT, ↓ifEqF, if_tt, if_ff, if_pos, if_neg, nLe, nLt, nEq, nInT, nCl, pk_mul, nI_add, Nat.reduceAdd, s_cat_nil, s_cat_i, s_cat_r, s_cat_f, s_cat_l, tl_s, tl_n, cat_i, cat_r, cat_f, nb0, nb1, nbI, if_bI, if_bIr, Nat.zero_le, Nat.reduceLeDiff, Y_g0, Y_g1, Y_g2, Y_g3, Y_g4, Y_g5, Y_g6, Y_g7, Y_g8, Y_g9, Y_g10, Y_g11, Y_g12, Y_g13, Y_g14, Y_g15, Y_g16, Y_g17, Y_g18, Y_g19, Y_a7, Y_a8, Y_a10, Y_a11, Y_a12, Y_a13, Y_a14, Y_a15, Y_a16, Y_a17, Y_a18, Y_sw, h0, reduceIte, Y_ob, e, ih]
    · rw [show stp1 i y = y from if_neg h0] at ih ⊢
      simp (disch := omega) only [u_75_35, u_75_36, u_75_39, u_75_42, u_75_43, u_75_46, u_75_47, u_75_48, u_75_49, u_75_52, u_75_53, u_75_54, u_75_57, u_75_60, gI0, gIs, gR0, gRs, gF0, gFs, st0, st_i, st_r, st_f, st_n, st_s, true_and, and_true, ↓ifLeT, ↓ifLeF, ↓ifLtT, ↓ifLtF, ↓ifEqT, ↓ifEqF, if_tt, if_ff, if_pos, if_neg, nLe, nLt, nEq, nInT, nCl, pk_mul, nI_add, Nat.reduceAdd, s_cat_nil, s_cat_i, s_cat_r, s_cat_f, s_cat_l, tl_s, tl_n, cat_i, cat_r, cat_f, nb0, nb1, nbI, if_bI, if_bIr, Nat.zero_le, Nat.reduceLeDiff, Y_g0, Y_g1, Y_g2, Y_g3, Y_g4, Y_g5, Y_g6, Y_g7, Y_g8, Y_g9, Y_g10, Y_g11, Y_g12, Y_g13, Y_g14, Y_g15, Y_g16, Y_g17, Y_g18, Y_g19, Y_a7, Y_a8, Y_a10, Y_a11, Y_a12, Y_a13, Y_a14, Y_a15, Y_a16, Y_a17, Y_a18, Y_sw, h0, reduceIte, Y_ob, e, ih]
def midY (y : tY) : tY := uS (stpY (begY (nxtY y))) 4 (yB y 4 + nI 1)
def passY (y : tY) : tY := swY (midY y)
def passB (y : tY) : Bool := stirW (midY y) || stirB (nxtY y)
theorem m_pass (hy : okY y) : MT (d + 2) 75 [.ref a] (pY a y h) Q ↔ Q (some (.int (iB (passB y)))) (pY a (passY y) h) := by
  rw [MT_go (by decide) _ _ _ (Nat.le_of_ble_eq_true rfl), show s_entry 75 [.ref a] = [.ref a, s_no, s_no] from rfl]
  have e1 := nxt_lp (d := d) (a := a) (h := h) (Q := Q) hy (yC y) 0 s_no (by omega)
  rw [fil_0, uA_eta] at e1
  obtain ⟨hC, hT, hS, hW⟩ := hy
  have n0 : ∀ c, c < yC y → okN (nxtY y) c := fun c hc => by
    show ¬ fil (yC y) (nxY y) (yA y 10) c < nI 0 → vp_in (fil (yC y) (nxY y) (yA y 10) c) 8
    rw [fil_in hc]
    exact nx_ok hT
  have n1 : ∀ c, c < yC y → okN (begY (nxtY y)) c := n0
  have s1 : eqS (begY (nxtY y)) (stpY (begY (nxtY y))) := eqS_i (fun j y => eqS_1) _ _ _
  have e2 := fun Q => m_begin (d := d) (a := a) (y := nxtY y) (h := h) (Q := Q) hC n0
  have e3 := stp_lp (d := d) (a := a) (h := h) (Q := Q) (v := iB (stirB (nxtY y))) (yC y) 0 (begY (nxtY y)) (Nat.zero_add _) hC n1
  have s2 : yC (midY y) = yC y := by
    show yC (stpY (begY (nxtY y))) = yC y
    rw [eqS_C s1]
    rfl
  have s3 : yB (stpY (begY (nxtY y))) 4 = yB y 4 := by rw [eqS_B s1]; rfl
  have e4 := fun Q => m_swing (d := d) (a := a) (y := midY y) (h := h) (Q := Q) (by rw [s2]; exact hC) (fun c hc => show okN (stpY (begY (nxtY y))) c from eqS_N s1 (n1 c (by rw [s2] at hc; exact hc))) (fun c hc => by
    have : yW (midY y) = yW y := by
      show yW (stpY (begY (nxtY y))) = yW y
      rw [eqS_W s1]
      rfl
    rw [this]
    exact fine_n (hW c (by rw [s2] at hc; omega)))
  simp (disch := omega) only [u_75_0, u_75_1, gI0, gIs, gR0, gRs, gF0, gFs, st0, st_i, st_r, st_f, st_n, st_s, true_and, and_true, ↓ifLeT, ↓ifLeF, ↓ifLtT, ↓ifLtF, ↓ifEqT, ↓ifEqF, if_tt, if_ff, if_pos, if_neg, nLe, nLt, nEq, nInT, nCl, pk_mul, nI_add, Nat.reduceAdd, s_cat_nil, s_cat_i, s_cat_r, s_cat_f, s_cat_l, tl_s, tl_n, cat_i, cat_r, cat_f, nb0, nb1, nbI, if_bI, if_bIr, Nat.zero_le, Nat.reduceLeDiff, e1]
  simp (disch := omega) only [u_75_27, u_75_28, u_75_31, u_75_32, u_75_33, gI0, gIs, gR0, gRs, gF0, gFs, st0, st_i, st_r, st_f, st_n, st_s, true_and, and_true, ↓ifLeT, ↓ifLeF, ↓ifLtT, ↓ifLtF, ↓ifEqT, ↓ifEqF, if_tt, if_ff, if_pos, if_neg, nLe, nLt, nEq, nInT, nCl, pk_mul, nI_add, Nat.reduceAdd, s_cat_nil, s_cat_i, s_cat_r, s_cat_f, s_cat_l, tl_s, tl_n, cat_i, cat_r, cat_f, nb0, nb1, nbI, if_bI, if_bIr, Nat.zero_le, Nat.reduceLeDiff, Y_ob, e2]
  refine e3.trans ?_
  simp (disch := omega) only [u_75_63, u_75_64, u_75_65, u_75_68, u_75_69, u_75_70, gI0, gIs, gR0, gRs, gF0, gFs, st0, st_i, st_r, st_f, st_n, st_s, true_and, and_true, ↓ifLeT, ↓ifLeF, ↓ifLtT, ↓ifLtF, ↓ifEqT, ↓ifEqF, if_tt, if_ff, if_pos, if_neg, nLe, nLt, nEq, nInT, nCl, pk_mul, nI_add, Nat.reduceAdd, s_cat_nil, s_cat_i, s_cat_r, s_cat_f, s_cat_l, tl_s, tl_n, cat_i, cat_r, cat_f, nb0, nb1, nbI, if_bI, if_bIr, Nat.zero_le, Nat.reduceLeDiff, Y_g0, Y_g1, Y_g2, Y_g3, Y_g4, Y_g5, Y_g6, Y_g7, Y_g8, Y_g9, Y_g10, Y_g11, Y_g12, Y_g13, Y_g14, Y_g15, Y_g16, Y_g17, Y_g18, Y_g19, Y_s0, Y_s1, Y_s2, Y_s3, Y_s4, Y_s5, Y_s6]
  rw [show iter stp1 0 (yC y) (begY (nxtY y)) = stpY (begY (nxtY y)) from rfl, s3]
  show WP _ _ 73 _ _ (pY a (midY y) h) _ _ ↔ _
  simp (disch := omega) only [u_75_73, u_75_74, u_75_77, u_75_78, u_75_79, gI0, gIs, gR0, gRs, gF0, gFs, st0, st_i, st_r, st_f, st_n, st_s, true_and, and_true, ↓ifLeT, ↓ifLeF, ↓ifLtT, ↓ifLtF, ↓ifEqT, ↓ifEqF, if_tt, if_ff, if_pos, if_neg, nLe, nLt, nEq, nInT, nCl, pk_mul, nI_add, Nat.reduceAdd, s_cat_nil, s_cat_i, s_cat_r, s_cat_f, s_cat_l, tl_s, tl_n, cat_i, cat_r, cat_f, nb0, nb1, nbI, if_bI, if_bIr, Nat.zero_le, Nat.reduceLeDiff, Y_ob, e4, iB_or, nbB]
  exact Iff.rfl
end YE
