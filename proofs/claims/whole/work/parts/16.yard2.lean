/-! Yard: what is told, sums, greatest -/
def mx (a b : Int32) : Int32 := if a < b then b else a
def mn (a b : Int32) : Int32 := if b < a then b else a
theorem mx_d {a b : Int32} : (if a < b then b else a) = mx a b := rfl
theorem mn_d {a b : Int32} : (if b < a then b else a) = mn a b := rfl
section YS
variable {a d : Nat} {y : tY} {h : sH} {k : sK} {Q : sQ} {i x : Int32}
theorem Y_clearP : MT (d + 1) 19 [.ref (a + 13)] (pY a y h) Q ↔ Q none (pY a (uP y ((yP y).1, fun _ => 0)) h) := by
  have e := m_clear (d := d) (b := a + 13) (p := yP y) (h := pY a y h) (Q := Q)
  rw [pY_P, pY_P] at e
  exact e
theorem uP_eta {y : tY} : uP y (yP y) = y := rfl
def clrY (y : tY) : tY := (fun q => if q = 1 then nI 1 else if q = 0 ∨ q = 4 ∨ q = 5 ∨ q = 6 then nI 0 else y.1 q, (0, 0), y.2.2.1, y.2.2.2.1, ((yP y).1, fun _ => 0))
theorem clrY_e : uP (uS (uS (uS (uT (uC (uS (uS y 0 (nI 0)) 1 (nI 1)) 0) 0) 4 (nI 0)) 5 (nI 0)) 6 (nI 0)) ((yP y).1, fun _ => 0) = clrY y := by
  unfold uP uS uT uC clrY
  refine Prod.ext (funext fun q => ?_) rfl
  show (if q = 6 then nI 0 else if q = 5 then nI 0 else if q = 4 then nI 0 else if q = 1 then nI 1 else if q = 0 then nI 0 else y.1 q) = if q = 1 then nI 1 else if q = 0 ∨ q = 4 ∨ q = 5 ∨ q = 6 then nI 0 else y.1 q
  by_cases h1 : q = 1
  · subst h1; simp
  · by_cases h2 : q = 0 ∨ q = 4 ∨ q = 5 ∨ q = 6
    · rcases h2 with h2 | h2 | h2 | h2 <;> subst h2 <;> simp
    · rw [if_neg h1, if_neg h2, if_neg (fun z => h2 (by simp [z])), if_neg (fun z => h2 (by simp [z])), if_neg (fun z => h2 (by simp [z])), if_neg h1, if_neg (fun z => h2 (by simp [z]))]
theorem m_clearY : MT (d + 2) 64 [.ref a] (pY a y h) Q ↔ Q none (pY a (clrY y) h) := by
  rw [MT_go (by decide) _ _ _ (Nat.le_of_ble_eq_true rfl), show s_entry 64 [.ref a] = [.ref a] from rfl]
  simp (disch := omega) only [u_64_0, u_64_1, u_64_2, u_64_5, u_64_6, u_64_7, u_64_10, u_64_11, u_64_12, u_64_15, u_64_16, u_64_17, u_64_20, u_64_21, u_64_22, u_64_25, u_64_26, u_64_27, u_64_30, u_64_31, u_64_32, u_64_35, u_64_36, u_64_39, u_64_42, gI0, gIs, gR0, gRs, gF0, gFs, st0, st_i, st_r, st_f, st_n, st_s, true_and, and_true, ↓ifLeT, ↓ifLeF, ↓ifLtT, ↓ifLtF, ↓ifEqT, ↓ifEqF, if_tt, if_ff, if_pos, if_neg, nLe, nLt, nEq, nInT, nCl, pk_mul, nI_add, Nat.reduceAdd, s_cat_nil, s_cat_i, s_cat_r, s_cat_f, s_cat_l, tl_s, tl_n, cat_i, cat_r, cat_f, nb0, nb1, nbI, if_bI, if_bIr, Nat.zero_le, Nat.reduceLeDiff, Y_g0, Y_g1, Y_g2, Y_g3, Y_g4, Y_g5, Y_g6, Y_g7, Y_g8, Y_g9, Y_g10, Y_g11, Y_g12, Y_g13, Y_g14, Y_g15, Y_g16, Y_g17, Y_g18, Y_g19, Y_s0, Y_s1, Y_s2, Y_s3, Y_s4, Y_s5, Y_s6, Y_clearP, YP_ob, yC_uS, yT_uS, yW_uS, yP_uS, yB_uS, yA_uS, yC_uC, yT_uC, yW_uC, yP_uC, yB_uC, yA_uC, yC_uT, yT_uT, yW_uT, yP_uT, yB_uT, yA_uT, yC_uA, yT_uA, yW_uA, yP_uA, yB_uA, yA_uA, yC_uW, yT_uW, yW_uW, yP_uW, yB_uW, yA_uW, yC_uP, yT_uP, yW_uP, yP_uP, yB_uP, yA_uP, clrY_e]
def addC (y : tY) (w l : Int32) : tY := if yC y < 4 then uC (uW (uA (uA y 7 (upd (yA y 7) (yC y) w)) 8 (upd (yA y 8) (yC y) l)) (vf_upd (yW y) (yC y) FP.fconst0)) (yC y + 1) else y
theorem m_addCrane {w l : Int32} (hc : yC y ≤ 4) : MT (d + 1) 66 [.ref a, .int w, .int l] (pY a y h) Q ↔ Q none (pY a (addC y w l) h) := by
  rw [MT_go (by decide) _ _ _ (Nat.le_of_ble_eq_true rfl), show s_entry 66 [.ref a, .int w, .int l] = [.ref a, .int w, .int l] from rfl]
  unfold addC
  by_cases hx : yC y < 4
  · simp (disch := omega) only [u_66_0, u_66_1, u_66_4, u_66_5, u_66_8, u_66_9, u_66_12, u_66_13, u_66_16, u_66_17, u_66_18, u_66_19, u_66_22, u_66_23, u_66_26, u_66_27, u_66_28, u_66_29, u_66_32, u_66_33, u_66_36, u_66_37, u_66_38, u_66_39, u_66_40, u_66_43, u_66_44, u_66_45, u_66_48, gI0, gIs, gR0, gRs, gF0, gFs, st0, st_i, st_r, st_f, st_n, st_s, true_and, and_true, ↓ifLeT, ↓ifLeF, ↓ifLtT, ↓ifLtF, ↓ifEqT, ↓ifEqF, if_tt, if_ff, if_pos, if_neg, nLe, nLt, nEq, nInT, nCl, pk_mul, nI_add, Nat.reduceAdd, s_cat_nil, s_cat_i, s_cat_r, s_cat_f, s_cat_l, tl_s, tl_n, cat_i, cat_r, cat_f, nb0, nb1, nbI, if_bI, if_bIr, Nat.zero_le, Nat.reduceLeDiff, Y_g0, Y_g1, Y_g2, Y_g3, Y_g4, Y_g5, Y_g6, Y_g7, Y_g8, Y_g9, Y_g10, Y_g11, Y_g12, Y_g13, Y_g14, Y_g15, Y_g16, Y_g17, Y_g18, Y_g19, Y_s0, Y_s1, Y_s2, Y_s3, Y_s4, Y_s5, Y_s6, Y_a7, Y_a8, Y_a10, Y_a11, Y_a12, Y_a13, Y_a14, Y_a15, Y_a16, Y_a17, Y_a18, Y_sw, Y_w7, Y_w8, Y_w10, Y_w11, Y_w12, Y_w13, Y_w14, Y_w15, Y_w16, Y_w17, Y_w18, Y_wsw, yC_uS, yT_uS, yW_uS, yP_uS, yB_uS, yA_uS, yC_uC, yT_uC, yW_uC, yP_uC, yB_uC, yA_uC, yC_uT, yT_uT, yW_uT, yP_uT, yB_uT, yA_uT, yC_uA, yT_uA, yW_uA, yP_uA, yB_uA, yA_uA, yC_uW, yT_uW, yW_uW, yP_uW, yB_uW, yA_uW, yC_uP, yT_uP, yW_uP, yP_uP, yB_uP, yA_uP, hx, reduceIte]
  · have e : yC y = 4 := by omega
    simp (disch := omega) only [u_66_0, u_66_1, u_66_4, u_66_5, u_66_8, u_66_9, u_66_12, u_66_13, u_66_16, u_66_17, u_66_18, u_66_19, u_66_22, u_66_23, u_66_26, u_66_27, u_66_28, u_66_29, u_66_32, u_66_33, u_66_36, u_66_37, u_66_38, u_66_39, u_66_40, u_66_43, u_66_44, u_66_45, u_66_48, gI0, gIs, gR0, gRs, gF0, gFs, st0, st_i, st_r, st_f, st_n, st_s, true_and, and_true, ↓ifLeT, ↓ifLeF, ↓ifLtT, ↓ifLtF, ↓ifEqT, ↓ifEqF, if_tt, if_ff, if_pos, if_neg, nLe, nLt, nEq, nInT, nCl, pk_mul, nI_add, Nat.reduceAdd, s_cat_nil, s_cat_i, s_cat_r, s_cat_f, s_cat_l, tl_s, tl_n, cat_i, cat_r, cat_f, nb0, nb1, nbI, if_bI, if_bIr, Nat.zero_le, Nat.reduceLeDiff, Y_g0, Y_g1, Y_g2, Y_g3, Y_g4, Y_g5, Y_g6, Y_g7, Y_g8, Y_g9, Y_g10, Y_g11, Y_g12, Y_g13, Y_g14, Y_g15, Y_g16, Y_g17, Y_g18, Y_g19, Y_s0, Y_s1, Y_s2, Y_s3, Y_s4, Y_s5, Y_s6, Y_a7, Y_a8, Y_a10, Y_a11, Y_a12, Y_a13, Y_a14, Y_a15, Y_a16, Y_a17, Y_a18, Y_sw, Y_w7, Y_w8, Y_w10, Y_w11, Y_w12, Y_w13, Y_w14, Y_w15, Y_w16, Y_w17, Y_w18, Y_wsw, yC_uS, yT_uS, yW_uS, yP_uS, yB_uS, yA_uS, yC_uC, yT_uC, yW_uC, yP_uC, yB_uC, yA_uC, yC_uT, yT_uT, yW_uT, yP_uT, yB_uT, yA_uT, yC_uA, yT_uA, yW_uA, yP_uA, yB_uA, yA_uA, yC_uW, yT_uW, yW_uW, yP_uW, yB_uW, yA_uW, yC_uP, yT_uP, yW_uP, yP_uP, yB_uP, yA_uP, e, reduceIte, Nat.lt_irrefl]
def addT (y : tY) (w t v b : Int32) : tY := if yT y < 8 then uT (uA (uA (uA (uA (uA (uA (uA y 12 (upd (yA y 12) (yT y) w)) 13 (upd (yA y 13) (yT y) t)) 14 (upd (yA y 14) (yT y) v)) 15 (upd (yA y 15) (yT y) b)) 16 (upd (yA y 16) (yT y) (nI 0))) 17 (upd (yA y 17) (yT y) (-1))) 18 (upd (yA y 18) (yT y) (-1))) (yT y + 1) else y
theorem m_addTask {w t v b : Int32} (hc : yT y ≤ 8) : MT (d + 1) 67 [.ref a, .int w, .int t, .int v, .int b] (pY a y h) Q ↔ Q (some (.int (if yT y < 8 then nI (yT y) else -1))) (pY a (addT y w t v b) h) := by
  rw [MT_go (by decide) _ _ _ (Nat.le_of_ble_eq_true rfl), show s_entry 67 [.ref a, .int w, .int t, .int v, .int b] = [.ref a, .int w, .int t, .int v, .int b, s_no] from rfl]
  unfold addT
  by_cases hx : yT y < 8
  · simp (disch := omega) only [u_67_0, u_67_1, u_67_4, u_67_6, u_67_9, u_67_10, u_67_11, u_67_12, u_67_15, u_67_17, u_67_18, u_67_21, u_67_23, u_67_24, u_67_25, u_67_26, u_67_29, u_67_31, u_67_32, u_67_33, u_67_34, u_67_37, u_67_39, u_67_40, u_67_41, u_67_42, u_67_45, u_67_47, u_67_49, u_67_50, u_67_51, u_67_54, u_67_56, u_67_57, u_67_58, u_67_59, u_67_62, u_67_64, u_67_65, u_67_66, u_67_67, u_67_70, u_67_72, u_67_73, u_67_74, u_67_75, u_67_76, u_67_79, u_67_80, u_67_81, u_67_84, u_67_86, gI0, gIs, gR0, gRs, gF0, gFs, st0, st_i, st_r, st_f, st_n, st_s, true_and, and_true, ↓ifLeT, ↓ifLeF, ↓ifLtT, ↓ifLtF, ↓ifEqT, ↓ifEqF, if_tt, if_ff, if_pos, if_neg, nLe, nLt, nEq, nInT, nCl, pk_mul, nI_add, Nat.reduceAdd, s_cat_nil, s_cat_i, s_cat_r, s_cat_f, s_cat_l, tl_s, tl_n, cat_i, cat_r, cat_f, nb0, nb1, nbI, if_bI, if_bIr, Nat.zero_le, Nat.reduceLeDiff, Y_g0, Y_g1, Y_g2, Y_g3, Y_g4, Y_g5, Y_g6, Y_g7, Y_g8, Y_g9, Y_g10, Y_g11, Y_g12, Y_g13, Y_g14, Y_g15, Y_g16, Y_g17, Y_g18, Y_g19, Y_s0, Y_s1, Y_s2, Y_s3, Y_s4, Y_s5, Y_s6, Y_a7, Y_a8, Y_a10, Y_a11, Y_a12, Y_a13, Y_a14, Y_a15, Y_a16, Y_a17, Y_a18, Y_sw, Y_w7, Y_w8, Y_w10, Y_w11, Y_w12, Y_w13, Y_w14, Y_w15, Y_w16, Y_w17, Y_w18, Y_wsw, yC_uS, yT_uS, yW_uS, yP_uS, yB_uS, yA_uS, yC_uC, yT_uC, yW_uC, yP_uC, yB_uC, yA_uC, yC_uT, yT_uT, yW_uT, yP_uT, yB_uT, yA_uT, yC_uA, yT_uA, yW_uA, yP_uA, yB_uA, yA_uA, yC_uW, yT_uW, yW_uW, yP_uW, yB_uW, yA_uW, yC_uP, yT_uP, yW_uP, yP_uP, yB_uP, yA_uP, hx, reduceIte]
  · have e : yT y = 8 := by omega
    simp (disch := omega) only [u_67_0, u_67_1, u_67_4, u_67_6, u_67_9, u_67_10, u_67_11, u_67_12, u_67_15, u_67_17, u_67_18, u_67_21, u_67_23, u_67_24, u_67_25, u_67_26, u_67_29, u_67_31, u_67_32, u_67_33, u_67_34, u_67_37, u_67_39, u_67_40, u_67_41, u_67_42, u_67_45, u_67_47, u_67_49, u_67_50, u_67_51, u_67_54, u_67_56, u_67_57, u_67_58, u_67_59, u_67_62, u_67_64, u_67_65, u_67_66, u_67_67, u_67_70, u_67_72, u_67_73, u_67_74, u_67_75, u_67_76, u_67_79, u_67_80, u_67_81, u_67_84, u_67_86, gI0, gIs, gR0, gRs, gF0, gFs, st0, st_i, st_r, st_f, st_n, st_s, true_and, and_true, ↓ifLeT, ↓ifLeF, ↓ifLtT, ↓ifLtF, ↓ifEqT, ↓ifEqF, if_tt, if_ff, if_pos, if_neg, nLe, nLt, nEq, nInT, nCl, pk_mul, nI_add, Nat.reduceAdd, s_cat_nil, s_cat_i, s_cat_r, s_cat_f, s_cat_l, tl_s, tl_n, cat_i, cat_r, cat_f, nb0, nb1, nbI, if_bI, if_bIr, Nat.zero_le, Nat.reduceLeDiff, Y_g0, Y_g1, Y_g2, Y_g3, Y_g4, Y_g5, Y_g6, Y_g7, Y_g8, Y_g9, Y_g10, Y_g11, Y_g12, Y_g13, Y_g14, Y_g15, Y_g16, Y_g17, Y_g18, Y_g19, Y_s0, Y_s1, Y_s2, Y_s3, Y_s4, Y_s5, Y_s6, Y_a7, Y_a8, Y_a10, Y_a11, Y_a12, Y_a13, Y_a14, Y_a15, Y_a16, Y_a17, Y_a18, Y_sw, Y_w7, Y_w8, Y_w10, Y_w11, Y_w12, Y_w13, Y_w14, Y_w15, Y_w16, Y_w17, Y_w18, Y_wsw, yC_uS, yT_uS, yW_uS, yP_uS, yB_uS, yA_uS, yC_uC, yT_uC, yW_uC, yP_uC, yB_uC, yA_uC, yC_uT, yT_uT, yW_uT, yP_uT, yB_uT, yA_uT, yC_uA, yT_uA, yW_uA, yP_uA, yB_uA, yA_uA, yC_uW, yT_uW, yW_uW, yP_uW, yB_uW, yA_uW, yC_uP, yT_uP, yW_uP, yP_uP, yB_uP, yA_uP, e, reduceIte, Nat.lt_irrefl]
/-- what is left to do between two bays -/
def lwF (y : tY) (f g : Int32) (t : Nat) (s : Int32) : Int32 := if f ≤ yA y 12 t ∧ yA y 12 t < g then s + (yA y 13 t - yA y 16 t) else s
def lwY (y : tY) (f g : Int32) : Int32 := iter (lwF y f g) 0 (yT y) (nI 0)
theorem leftWithin_lp {f g : Int32} (hT : yT y ≤ 8) : ∀ n i s, i + n = yT y → (WP d 80 5 [.ref a, .int f, .int g, .int s, .int (nI i)] [] (pY a y h) k Q ↔ Q (some (.int (iter (lwF y f g) i n s))) (pY a y h)) := by
  intro n
  induction n with
  | zero =>
    intro i s hi
    have e : i = yT y := by omega
    subst e
    simp (disch := omega) only [u_80_5, u_80_7, u_80_8, u_80_11, u_80_60, u_80_61, gI0, gIs, gR0, gRs, gF0, gFs, st0, st_i, st_r, st_f, st_n, st_s, true_and, and_true, ↓ifLeT, ↓ifLeF, ↓ifLtT, ↓ifLtF, ↓ifEqT, ↓ifEqF, if_tt, if_ff, if_pos, if_neg, nLe, nLt, nEq, nInT, nCl, pk_mul, nI_add, Nat.reduceAdd, s_cat_nil, s_cat_i, s_cat_r, s_cat_f, s_cat_l, tl_s, tl_n, cat_i, cat_r, cat_f, nb0, nb1, nbI, if_bI, if_bIr, Nat.zero_le, Nat.reduceLeDiff, Y_g0, Y_g1, Y_g2, Y_g3, Y_g4, Y_g5, Y_g6, Y_g7, Y_g8, Y_g9, Y_g10, Y_g11, Y_g12, Y_g13, Y_g14, Y_g15, Y_g16, Y_g17, Y_g18, Y_g19, iter, Nat.le_refl]
  | succ n ih =>
    intro i s hi
    rw [u_80_5]
    simp (disch := omega) only [u_80_7, u_80_8, u_80_11, u_80_14, u_80_15, u_80_18, u_80_20, u_80_21, u_80_22, u_80_25, u_80_26, u_80_29, u_80_31, u_80_32, u_80_33, u_80_36, u_80_37, u_80_38, u_80_41, u_80_43, u_80_44, u_80_45, u_80_48, u_80_50, u_80_51, u_80_52, u_80_53, u_80_54, u_80_57, gI0, gIs, gR0, gRs, gF0, gFs, st0, st_i, st_r, st_f, st_n, st_s, true_and, and_true, ↓ifLeT, ↓ifLeF, ↓ifLtT, ↓ifLtF, ↓ifEqT, ↓ifEqF, if_tt, if_ff, if_pos, if_neg, nLe, nLt, nEq, nInT, nCl, pk_mul, nI_add, Nat.reduceAdd, s_cat_nil, s_cat_i, s_cat_r, s_cat_f, s_cat_l, tl_s, tl_n, cat_i, cat_r, cat_f, nb0, nb1, nbI, if_bI, if_bIr, Nat.zero_le, Nat.reduceLeDiff, Y_g0, Y_g1, Y_g2, Y_g3, Y_g4, Y_g5, Y_g6, Y_g7, Y_g8, Y_g9, Y_g10, Y_g11, Y_g12, Y_g13, Y_g14, Y_g15, Y_g16, Y_g17, Y_g18, Y_g19, Y_a7, Y_a8, Y_a10, Y_a11, Y_a12, Y_a13, Y_a14, Y_a15, Y_a16, Y_a17, Y_a18, Y_sw, ih (i + 1) _ (by omega), iter, lwF]
    by_cases h1 : yA y 12 i < f
    · rw [if_pos h1, if_neg (fun z => Int32.not_le.mpr h1 z.1)]
    · rw [if_neg h1]
      have h1 : f ≤ yA y 12 i := Int32.not_lt.mp h1
      by_cases h2 : g ≤ yA y 12 i
      · rw [if_pos h2, if_neg (fun z => Int32.not_lt.mpr h2 z.2)]
      · rw [if_neg h2, if_pos ⟨h1, Int32.not_le.mp h2⟩]
theorem m_leftWithin {f g : Int32} (hT : yT y ≤ 8) : MT (d + 1) 80 [.ref a, .int f, .int g] (pY a y h) Q ↔ Q (some (.int (lwY y f g))) (pY a y h) := by
  rw [MT_go (by decide) _ _ _ (Nat.le_of_ble_eq_true rfl), show s_entry 80 [.ref a, .int f, .int g] = [.ref a, .int f, .int g, s_no, s_no] from rfl]
  simp (disch := omega) only [u_80_0, u_80_1, u_80_2, u_80_3, gI0, gIs, gR0, gRs, gF0, gFs, st0, st_i, st_r, st_f, st_n, st_s, true_and, and_true, ↓ifLeT, ↓ifLeF, ↓ifLtT, ↓ifLtF, ↓ifEqT, ↓ifEqF, if_tt, if_ff, if_pos, if_neg, nLe, nLt, nEq, nInT, nCl, pk_mul, nI_add, Nat.reduceAdd, s_cat_nil, s_cat_i, s_cat_r, s_cat_f, s_cat_l, tl_s, tl_n, cat_i, cat_r, cat_f, nb0, nb1, nbI, if_bI, if_bIr, Nat.zero_le, Nat.reduceLeDiff, leftWithin_lp hT (yT y) 0 _ (by omega)]
  exact Iff.rfl
def crowdY (y : tY) (w B : Nat) : Int32 := iter (fun b m => mx m (lwY y (nI b) (nI (b + w)))) 0 (B + 1 - w) (nI 0)
theorem busiestBays_lp {w B : Nat} (hT : yT y ≤ 8) (hB : yB y 0 = nI B) (hl : B < 2 ^ 20) (hw : w ≤ B + 1) : ∀ n i s, i + n = B + 1 - w → (WP (d + 1) 81 4 [.ref a, .int (nI w), .int s, .int (nI i)] [] (pY a y h) (0, 0) Q ↔ Q (some (.int (iter (fun b m => mx m (lwY y (nI b) (nI (b + w)))) i n s))) (pY a y h)) := by
  intro n
  induction n with
  | zero =>
    intro i s hi
    simp (disch := omega) only [u_81_4, u_81_5, u_81_6, u_81_7, u_81_8, u_81_11, u_81_33, u_81_34, gI0, gIs, gR0, gRs, gF0, gFs, st0, st_i, st_r, st_f, st_n, st_s, true_and, and_true, ↓ifLeT, ↓ifLeF, ↓ifLtT, ↓ifLtF, ↓ifEqT, ↓ifEqF, if_tt, if_ff, if_pos, if_neg, nLe, nLt, nEq, nInT, nCl, pk_mul, nI_add, Nat.reduceAdd, s_cat_nil, s_cat_i, s_cat_r, s_cat_f, s_cat_l, tl_s, tl_n, cat_i, cat_r, cat_f, nb0, nb1, nbI, if_bI, if_bIr, Nat.zero_le, Nat.reduceLeDiff, Y_g0, Y_g1, Y_g2, Y_g3, Y_g4, Y_g5, Y_g6, Y_g7, Y_g8, Y_g9, Y_g10, Y_g11, Y_g12, Y_g13, Y_g14, Y_g15, Y_g16, Y_g17, Y_g18, Y_g19, hB, iter, Nat.le_refl]
  | succ n ih =>
    intro i s hi
    rw [u_81_4]
    simp (disch := omega) only [u_81_5, u_81_6, u_81_7, u_81_8, u_81_11, u_81_14, u_81_15, u_81_16, u_81_17, u_81_18, u_81_19, u_81_20, u_81_23, u_81_26, u_81_27, u_81_30, gI0, gIs, gR0, gRs, gF0, gFs, st0, st_i, st_r, st_f, st_n, st_s, true_and, and_true, ↓ifLeT, ↓ifLeF, ↓ifLtT, ↓ifLtF, ↓ifEqT, ↓ifEqF, if_tt, if_ff, if_pos, if_neg, nLe, nLt, nEq, nInT, nCl, pk_mul, nI_add, Nat.reduceAdd, s_cat_nil, s_cat_i, s_cat_r, s_cat_f, s_cat_l, tl_s, tl_n, cat_i, cat_r, cat_f, nb0, nb1, nbI, if_bI, if_bIr, Nat.zero_le, Nat.reduceLeDiff, Y_g0, Y_g1, Y_g2, Y_g3, Y_g4, Y_g5, Y_g6, Y_g7, Y_g8, Y_g9, Y_g10, Y_g11, Y_g12, Y_g13, Y_g14, Y_g15, Y_g16, Y_g17, Y_g18, Y_g19, Y_a7, Y_a8, Y_a10, Y_a11, Y_a12, Y_a13, Y_a14, Y_a15, Y_a16, Y_a17, Y_a18, Y_sw, Y_ob, hB, m_leftWithin hT, ih (i + 1) _ (by omega), iter, mx_d]
theorem m_busiestBays {w B : Nat} (hT : yT y ≤ 8) (hB : yB y 0 = nI B) (hl : B < 2 ^ 20) (hw : w ≤ B + 1) : MT (d + 2) 81 [.ref a, .int (nI w)] (pY a y h) Q ↔ Q (some (.int (crowdY y w B))) (pY a y h) := by
  rw [MT_go (by decide) _ _ _ (Nat.le_of_ble_eq_true rfl), show s_entry 81 [.ref a, .int (nI w)] = [.ref a, .int (nI w), s_no, s_no] from rfl]
  simp (disch := omega) only [u_81_0, u_81_1, u_81_2, u_81_3, gI0, gIs, gR0, gRs, gF0, gFs, st0, st_i, st_r, st_f, st_n, st_s, true_and, and_true, ↓ifLeT, ↓ifLeF, ↓ifLtT, ↓ifLtF, ↓ifEqT, ↓ifEqF, if_tt, if_ff, if_pos, if_neg, nLe, nLt, nEq, nInT, nCl, pk_mul, nI_add, Nat.reduceAdd, s_cat_nil, s_cat_i, s_cat_r, s_cat_f, s_cat_l, tl_s, tl_n, cat_i, cat_r, cat_f, nb0, nb1, nbI, if_bI, if_bIr, Nat.zero_le, Nat.reduceLeDiff, busiestBays_lp hT hB hl hw _ 0 _ (Nat.zero_add _)]
  exact Iff.rfl
/-- the first of the greatest -/
def ftop {α : Type} (gt : Nat → Nat → Prop) [∀ x z, Decidable (gt x z)] (i n : Nat) (f : Nat) : Nat := iter (fun b f => if gt b f then b else f) i n f
theorem ftop_lt {gt : Nat → Nat → Prop} [∀ x z, Decidable (gt x z)] {N : Nat} : ∀ {n i f : Nat}, i + n ≤ N → f < N → iter (fun b f => if gt b f then b else f) i n f < N := by
  intro n
  induction n with
  | zero => intro i f hi hf; exact hf
  | succ n ih =>
    intro i f hi hf
    rw [iter]
    refine ih (by omega) ?_
    by_cases hg : gt i f
    · rw [if_pos hg]; omega
    · rw [if_neg hg]; exact hf
def bbF (y : tY) (b f : Nat) : Nat := if lwY y (nI f) (nI (f + 1)) < lwY y (nI b) (nI (b + 1)) then b else f
def bbY (y : tY) (B : Nat) : Nat := iter (bbF y) 1 (B - 1) 0
theorem busiestBay_lp {B : Nat} (hT : yT y ≤ 8) (hB : yB y 0 = nI B) (hl : B < 2 ^ 20) : ∀ n i s, i + n = B → s < B → 0 < i → (WP (d + 1) 82 4 [.ref a, .int (nI s), .int (nI i)] [] (pY a y h) (0, 0) Q ↔ Q (some (.int (nI (iter (bbF y) i n s)))) (pY a y h)) := by
  intro n
  induction n with
  | zero =>
    intro i s hi hs h0
    simp (disch := omega) only [u_82_4, u_82_5, u_82_6, u_82_9, u_82_39, u_82_40, gI0, gIs, gR0, gRs, gF0, gFs, st0, st_i, st_r, st_f, st_n, st_s, true_and, and_true, ↓ifLeT, ↓ifLeF, ↓ifLtT, ↓ifLtF, ↓ifEqT, ↓ifEqF, if_tt, if_ff, if_pos, if_neg, nLe, nLt, nEq, nInT, nCl, pk_mul, nI_add, Nat.reduceAdd, s_cat_nil, s_cat_i, s_cat_r, s_cat_f, s_cat_l, tl_s, tl_n, cat_i, cat_r, cat_f, nb0, nb1, nbI, if_bI, if_bIr, Nat.zero_le, Nat.reduceLeDiff, Y_g0, Y_g1, Y_g2, Y_g3, Y_g4, Y_g5, Y_g6, Y_g7, Y_g8, Y_g9, Y_g10, Y_g11, Y_g12, Y_g13, Y_g14, Y_g15, Y_g16, Y_g17, Y_g18, Y_g19, hB, iter, Nat.le_refl]
  | succ n ih =>
    intro i s hi hs h0
    rw [u_82_4]
    have ih1 := ih (i + 1) i (by omega) (by omega) (by omega)
    have ih2 := ih (i + 1) s (by omega) (by omega) (by omega)
    simp (disch := omega) only [u_82_5, u_82_6, u_82_9, u_82_12, u_82_13, u_82_14, u_82_15, u_82_16, u_82_17, u_82_20, u_82_21, u_82_22, u_82_23, u_82_24, u_82_25, u_82_28, u_82_31, u_82_32, u_82_33, u_82_36, gI0, gIs, gR0, gRs, gF0, gFs, st0, st_i, st_r, st_f, st_n, st_s, true_and, and_true, ↓ifLeT, ↓ifLeF, ↓ifLtT, ↓ifLtF, ↓ifEqT, ↓ifEqF, if_tt, if_ff, if_pos, if_neg, nLe, nLt, nEq, nInT, nCl, pk_mul, nI_add, Nat.reduceAdd, s_cat_nil, s_cat_i, s_cat_r, s_cat_f, s_cat_l, tl_s, tl_n, cat_i, cat_r, cat_f, nb0, nb1, nbI, if_bI, if_bIr, Nat.zero_le, Nat.reduceLeDiff, Y_g0, Y_g1, Y_g2, Y_g3, Y_g4, Y_g5, Y_g6, Y_g7, Y_g8, Y_g9, Y_g10, Y_g11, Y_g12, Y_g13, Y_g14, Y_g15, Y_g16, Y_g17, Y_g18, Y_g19, Y_a7, Y_a8, Y_a10, Y_a11, Y_a12, Y_a13, Y_a14, Y_a15, Y_a16, Y_a17, Y_a18, Y_sw, Y_ob, hB, m_leftWithin hT, ih1, ih2, iter, bbF]
    by_cases h1 : lwY y (nI i) (nI (i + 1)) ≤ lwY y (nI s) (nI (s + 1))
    · rw [if_pos h1, if_neg (Int32.not_lt.mpr h1)]
    · rw [if_neg h1, if_pos (Int32.not_le.mp h1)]
theorem m_busiestBay {B : Nat} (hT : yT y ≤ 8) (hB : yB y 0 = nI B) (hl : B < 2 ^ 20) (h0 : 0 < B) : MT (d + 2) 82 [.ref a] (pY a y h) Q ↔ Q (some (.int (nI (bbY y B)))) (pY a y h) := by
  rw [MT_go (by decide) _ _ _ (Nat.le_of_ble_eq_true rfl), show s_entry 82 [.ref a] = [.ref a, s_no, s_no] from rfl]
  simp (disch := omega) only [u_82_0, u_82_1, u_82_2, u_82_3, gI0, gIs, gR0, gRs, gF0, gFs, st0, st_i, st_r, st_f, st_n, st_s, true_and, and_true, ↓ifLeT, ↓ifLeF, ↓ifLtT, ↓ifLtF, ↓ifEqT, ↓ifEqF, if_tt, if_ff, if_pos, if_neg, nLe, nLt, nEq, nInT, nCl, pk_mul, nI_add, Nat.reduceAdd, s_cat_nil, s_cat_i, s_cat_r, s_cat_f, s_cat_l, tl_s, tl_n, cat_i, cat_r, cat_f, nb0, nb1, nbI, if_bI, if_bIr, Nat.zero_le, Nat.reduceLeDiff, busiestBay_lp hT hB hl (B - 1) 1 0 (by omega) h0 (by omega)]
  exact Iff.rfl
/-- a crane's work left -/
def loF (y : tY) (c j : Nat) (s : Int32) : Int32 := if nI 0 ≤ (yP y).1 (c * 8 + j) ∧ (yP y).1 (c * 8 + j) < nI (yT y) then s + (yA y 13 ((yP y).1 (c * 8 + j)).toNatClampNeg - yA y 16 ((yP y).1 (c * 8 + j)).toNatClampNeg) else s
def loY (y : tY) (c : Nat) : Int32 := iter (loF y c) 0 ((yP y).2 c) (nI 0)
theorem Y_at {c j : Nat} (hs : okS (yP y)) (hc : c < 4) (hj : j < (yP y).2 c) : MT (d + 1) 21 [.ref (a + 13), .int (nI c), .int (nI j)] (pY a y h) Q ↔ Q (some (.int ((yP y).1 (c * 8 + j)))) (pY a y h) := by
  have e := m_at (d := d) (b := a + 13) (p := yP y) (h := pY a y h) (Q := Q) hs hc hj
  rw [pY_P] at e
  exact e
theorem vp_ofLt {t : Int32} {n N : Nat} (h0 : nI 0 ≤ t) (h1 : t < nI n) (hn : n ≤ N) (hN : N < 2 ^ 31) : vp_in t N := by
  intro z
  rcases z with z | z
  · exact absurd z (Int32.not_lt.mpr h0)
  · have e : t.toInt < (nI n).toInt := Int32.lt_iff_toInt_lt.mp h1
    rw [nI_toInt (by omega)] at e
    have h0 : (nI 0).toInt ≤ t.toInt := Int32.le_iff_toInt_le.mp h0
    rw [nI_toInt (by decide)] at h0
    have : t.toNatClampNeg = t.toInt.toNat := rfl
    omega
theorem leftOf_lp {c : Nat} (hT : yT y ≤ 8) (hs : okS (yP y)) (hc : c < 4) : ∀ n i s v, i + n = (yP y).2 c → (WP (d + 1) 88 4 [.ref a, .int (nI c), .int s, .int (nI i), v] [] (pY a y h) (0, 0) Q ↔ Q (some (.int (iter (loF y c) i n s))) (pY a y h)) := by
  have h8 := hs c hc
  intro n
  induction n with
  | zero =>
    intro i s v hi
    have e : i = (yP y).2 c := by omega
    subst e
    simp (disch := omega) only [u_88_4, u_88_5, u_88_6, u_88_9, u_88_12, u_88_13, u_88_14, u_88_66, u_88_67, gI0, gIs, gR0, gRs, gF0, gFs, st0, st_i, st_r, st_f, st_n, st_s, true_and, and_true, ↓ifLeT, ↓ifLeF, ↓ifLtT, ↓ifLtF, ↓ifEqT, ↓ifEqF, if_tt, if_ff, if_pos, if_neg, nLe, nLt, nEq, nInT, nCl, pk_mul, nI_add, Nat.reduceAdd, s_cat_nil, s_cat_i, s_cat_r, s_cat_f, s_cat_l, tl_s, tl_n, cat_i, cat_r, cat_f, nb0, nb1, nbI, if_bI, if_bIr, Nat.zero_le, Nat.reduceLeDiff, Y_g0, Y_g1, Y_g2, Y_g3, Y_g4, Y_g5, Y_g6, Y_g7, Y_g8, Y_g9, Y_g10, Y_g11, Y_g12, Y_g13, Y_g14, Y_g15, Y_g16, Y_g17, Y_g18, Y_g19, YP_size, YP_sz, iter, Nat.le_refl]
  | succ n ih =>
    intro i s v hi
    rw [u_88_4]
    simp (disch := omega) only [u_88_5, u_88_6, u_88_9, u_88_12, u_88_13, u_88_14, u_88_17, u_88_18, u_88_21, u_88_22, u_88_23, u_88_26, gI0, gIs, gR0, gRs, gF0, gFs, st0, st_i, st_r, st_f, st_n, st_s, true_and, and_true, ↓ifLeT, ↓ifLeF, ↓ifLtT, ↓ifLtF, ↓ifEqT, ↓ifEqF, if_tt, if_ff, if_pos, if_neg, nLe, nLt, nEq, nInT, nCl, pk_mul, nI_add, Nat.reduceAdd, s_cat_nil, s_cat_i, s_cat_r, s_cat_f, s_cat_l, tl_s, tl_n, cat_i, cat_r, cat_f, nb0, nb1, nbI, if_bI, if_bIr, Nat.zero_le, Nat.reduceLeDiff, Y_g0, Y_g1, Y_g2, Y_g3, Y_g4, Y_g5, Y_g6, Y_g7, Y_g8, Y_g9, Y_g10, Y_g11, Y_g12, Y_g13, Y_g14, Y_g15, Y_g16, Y_g17, Y_g18, Y_g19, YP_size, YP_sz, YP_ob, Y_at hs hc (show i < (yP y).2 c by omega)]
    simp (disch := omega) only [u_88_28, u_88_30, u_88_33, u_88_35, u_88_36, u_88_39, u_88_42, u_88_43, u_88_44, u_88_47, u_88_49, u_88_50, u_88_51, u_88_54, u_88_56, u_88_57, u_88_58, u_88_59, u_88_60, u_88_63, gI0, gIs, gR0, gRs, gF0, gFs, st0, st_i, st_r, st_f, st_n, st_s, true_and, and_true, ↓ifLeT, ↓ifLeF, ↓ifLtT, ↓ifLtF, ↓ifEqT, ↓ifEqF, if_tt, if_ff, if_pos, if_neg, nLe, nLt, nEq, nInT, nCl, pk_mul, nI_add, Nat.reduceAdd, s_cat_nil, s_cat_i, s_cat_r, s_cat_f, s_cat_l, tl_s, tl_n, cat_i, cat_r, cat_f, nb0, nb1, nbI, if_bI, if_bIr, Nat.zero_le, Nat.reduceLeDiff, Y_g0, Y_g1, Y_g2, Y_g3, Y_g4, Y_g5, Y_g6, Y_g7, Y_g8, Y_g9, Y_g10, Y_g11, Y_g12, Y_g13, Y_g14, Y_g15, Y_g16, Y_g17, Y_g18, Y_g19, Y_a7, Y_a8, Y_a10, Y_a11, Y_a12, Y_a13, Y_a14, Y_a15, Y_a16, Y_a17, Y_a18, Y_sw, ih (i + 1) _ _ (by omega), iter, loF]
    generalize (yP y).1 (c * 8 + i) = t
    by_cases h1 : t < nI 0
    · rw [if_pos h1, if_neg (fun z => Int32.not_le.mpr h1 z.1)]
    · rw [if_neg h1]
      have h1 : nI 0 ≤ t := Int32.not_lt.mp h1
      by_cases h2 : nI (yT y) ≤ t
      · rw [if_pos h2, if_neg (fun z => Int32.not_lt.mpr h2 z.2)]
      · have h2' := Int32.not_le.mp h2
        rw [if_neg h2, if_pos ⟨h1, h2'⟩]
        have hv : vp_in t 8 := vp_ofLt h1 h2' hT (by decide)
        simp only [hv, true_and]
theorem m_leftOf {c : Nat} (hT : yT y ≤ 8) (hs : okS (yP y)) (hc : c < 4) : MT (d + 2) 88 [.ref a, .int (nI c)] (pY a y h) Q ↔ Q (some (.int (loY y c))) (pY a y h) := by
  rw [MT_go (by decide) _ _ _ (Nat.le_of_ble_eq_true rfl), show s_entry 88 [.ref a, .int (nI c)] = [.ref a, .int (nI c), s_no, s_no, s_no] from rfl]
  simp (disch := omega) only [u_88_0, u_88_1, u_88_2, u_88_3, gI0, gIs, gR0, gRs, gF0, gFs, st0, st_i, st_r, st_f, st_n, st_s, true_and, and_true, ↓ifLeT, ↓ifLeF, ↓ifLtT, ↓ifLtF, ↓ifEqT, ↓ifEqF, if_tt, if_ff, if_pos, if_neg, nLe, nLt, nEq, nInT, nCl, pk_mul, nI_add, Nat.reduceAdd, s_cat_nil, s_cat_i, s_cat_r, s_cat_f, s_cat_l, tl_s, tl_n, cat_i, cat_r, cat_f, nb0, nb1, nbI, if_bI, if_bIr, Nat.zero_le, Nat.reduceLeDiff, leftOf_lp hT hs hc ((yP y).2 c) 0 _ _ (by omega)]
  exact Iff.rfl
def bcF (y : tY) (b f : Nat) : Nat := if loY y f < loY y b then b else f
def bcY (y : tY) : Nat := iter (bcF y) 1 (yC y - 1) 0
theorem busiestCrane_lp (hT : yT y ≤ 8) (hs : okS (yP y)) (hC : yC y ≤ 4) : ∀ n i s, i + n = yC y → s < yC y → 0 < i → (WP (d + 2) 83 4 [.ref a, .int (nI s), .int (nI i)] [] (pY a y h) (0, 0) Q ↔ Q (some (.int (nI (iter (bcF y) i n s)))) (pY a y h)) := by
  intro n
  induction n with
  | zero =>
    intro i s hi hs h0
    have e : i = yC y := by omega
    subst e
    simp (disch := omega) only [u_83_4, u_83_5, u_83_6, u_83_9, u_83_33, u_83_34, gI0, gIs, gR0, gRs, gF0, gFs, st0, st_i, st_r, st_f, st_n, st_s, true_and, and_true, ↓ifLeT, ↓ifLeF, ↓ifLtT, ↓ifLtF, ↓ifEqT, ↓ifEqF, if_tt, if_ff, if_pos, if_neg, nLe, nLt, nEq, nInT, nCl, pk_mul, nI_add, Nat.reduceAdd, s_cat_nil, s_cat_i, s_cat_r, s_cat_f, s_cat_l, tl_s, tl_n, cat_i, cat_r, cat_f, nb0, nb1, nbI, if_bI, if_bIr, Nat.zero_le, Nat.reduceLeDiff, Y_g0, Y_g1, Y_g2, Y_g3, Y_g4, Y_g5, Y_g6, Y_g7, Y_g8, Y_g9, Y_g10, Y_g11, Y_g12, Y_g13, Y_g14, Y_g15, Y_g16, Y_g17, Y_g18, Y_g19, iter, Nat.le_refl]
  | succ n ih =>
    intro i s hi hs' h0
    rw [u_83_4]
    have ih1 := ih (i + 1) i (by omega) (by omega) (by omega)
    have ih2 := ih (i + 1) s (by omega) (by omega) (by omega)
    have e1 := fun Q => m_leftOf (d := d) (a := a) (h := h) (Q := Q) hT hs (show i < 4 by omega)
    have e2 := fun Q => m_leftOf (d := d) (a := a) (h := h) (Q := Q) hT hs (show s < 4 by omega)
    simp (disch := omega) only [u_83_5, u_83_6, u_83_9, u_83_12, u_83_13, u_83_14, u_83_17, u_83_18, u_83_19, u_83_22, u_83_25, u_83_26, u_83_27, u_83_30, gI0, gIs, gR0, gRs, gF0, gFs, st0, st_i, st_r, st_f, st_n, st_s, true_and, and_true, ↓ifLeT, ↓ifLeF, ↓ifLtT, ↓ifLtF, ↓ifEqT, ↓ifEqF, if_tt, if_ff, if_pos, if_neg, nLe, nLt, nEq, nInT, nCl, pk_mul, nI_add, Nat.reduceAdd, s_cat_nil, s_cat_i, s_cat_r, s_cat_f, s_cat_l, tl_s, tl_n, cat_i, cat_r, cat_f, nb0, nb1, nbI, if_bI, if_bIr, Nat.zero_le, Nat.reduceLeDiff, Y_g0, Y_g1, Y_g2, Y_g3, Y_g4, Y_g5, Y_g6, Y_g7, Y_g8, Y_g9, Y_g10, Y_g11, Y_g12, Y_g13, Y_g14, Y_g15, Y_g16, Y_g17, Y_g18, Y_g19, Y_a7, Y_a8, Y_a10, Y_a11, Y_a12, Y_a13, Y_a14, Y_a15, Y_a16, Y_a17, Y_a18, Y_sw, Y_ob, e1, e2, ih1, ih2, iter, bcF]
    by_cases h1 : loY y i ≤ loY y s
    · rw [if_pos h1, if_neg (Int32.not_lt.mpr h1)]
    · rw [if_neg h1, if_pos (Int32.not_le.mp h1)]
theorem m_busiestCrane (hT : yT y ≤ 8) (hs : okS (yP y)) (hC : yC y ≤ 4) (h0 : 0 < yC y) : MT (d + 3) 83 [.ref a] (pY a y h) Q ↔ Q (some (.int (nI (bcY y)))) (pY a y h) := by
  rw [MT_go (by decide) _ _ _ (Nat.le_of_ble_eq_true rfl), show s_entry 83 [.ref a] = [.ref a, s_no, s_no] from rfl]
  simp (disch := omega) only [u_83_0, u_83_1, u_83_2, u_83_3, gI0, gIs, gR0, gRs, gF0, gFs, st0, st_i, st_r, st_f, st_n, st_s, true_and, and_true, ↓ifLeT, ↓ifLeF, ↓ifLtT, ↓ifLtF, ↓ifEqT, ↓ifEqF, if_tt, if_ff, if_pos, if_neg, nLe, nLt, nEq, nInT, nCl, pk_mul, nI_add, Nat.reduceAdd, s_cat_nil, s_cat_i, s_cat_r, s_cat_f, s_cat_l, tl_s, tl_n, cat_i, cat_r, cat_f, nb0, nb1, nbI, if_bI, if_bIr, Nat.zero_le, Nat.reduceLeDiff, busiestCrane_lp hT hs hC (yC y - 1) 1 0 (by omega) h0 (by omega)]
  exact Iff.rfl
def wcF (y : tY) (b f : Nat) : Nat := if Op.cmpValue (FP.fcmp (yW y b) (yW y f)) .l ≤ nI 0 then f else b
def wcY (y : tY) : Nat := iter (wcF y) 1 (yC y - 1) 0
theorem wildest_lp (hC : yC y ≤ 4) : ∀ n i s, i + n = yC y → s < yC y → 0 < i → (WP d 84 4 [.ref a, .int (nI s), .int (nI i)] [] (pY a y h) (0, 0) Q ↔ Q (some (.int (nI (iter (wcF y) i n s)))) (pY a y h)) := by
  intro n
  induction n with
  | zero =>
    intro i s hi hs h0
    have e : i = yC y := by omega
    subst e
    simp (disch := omega) only [u_84_4, u_84_5, u_84_6, u_84_9, u_84_36, u_84_37, gI0, gIs, gR0, gRs, gF0, gFs, st0, st_i, st_r, st_f, st_n, st_s, true_and, and_true, ↓ifLeT, ↓ifLeF, ↓ifLtT, ↓ifLtF, ↓ifEqT, ↓ifEqF, if_tt, if_ff, if_pos, if_neg, nLe, nLt, nEq, nInT, nCl, pk_mul, nI_add, Nat.reduceAdd, s_cat_nil, s_cat_i, s_cat_r, s_cat_f, s_cat_l, tl_s, tl_n, cat_i, cat_r, cat_f, nb0, nb1, nbI, if_bI, if_bIr, Nat.zero_le, Nat.reduceLeDiff, Y_g0, Y_g1, Y_g2, Y_g3, Y_g4, Y_g5, Y_g6, Y_g7, Y_g8, Y_g9, Y_g10, Y_g11, Y_g12, Y_g13, Y_g14, Y_g15, Y_g16, Y_g17, Y_g18, Y_g19, iter, Nat.le_refl]
  | succ n ih =>
    intro i s hi hs' h0
    rw [u_84_4]
    have ih1 := ih (i + 1) i (by omega) (by omega) (by omega)
    have ih2 := ih (i + 1) s (by omega) (by omega) (by omega)
    simp (disch := omega) only [u_84_5, u_84_6, u_84_9, u_84_12, u_84_13, u_84_16, u_84_17, u_84_18, u_84_19, u_84_22, u_84_23, u_84_24, u_84_25, u_84_28, u_84_29, u_84_30, u_84_33, gI0, gIs, gR0, gRs, gF0, gFs, st0, st_i, st_r, st_f, st_n, st_s, true_and, and_true, ↓ifLeT, ↓ifLeF, ↓ifLtT, ↓ifLtF, ↓ifEqT, ↓ifEqF, if_tt, if_ff, if_pos, if_neg, nLe, nLt, nEq, nInT, nCl, pk_mul, nI_add, Nat.reduceAdd, s_cat_nil, s_cat_i, s_cat_r, s_cat_f, s_cat_l, tl_s, tl_n, cat_i, cat_r, cat_f, nb0, nb1, nbI, if_bI, if_bIr, Nat.zero_le, Nat.reduceLeDiff, Y_g0, Y_g1, Y_g2, Y_g3, Y_g4, Y_g5, Y_g6, Y_g7, Y_g8, Y_g9, Y_g10, Y_g11, Y_g12, Y_g13, Y_g14, Y_g15, Y_g16, Y_g17, Y_g18, Y_g19, Y_a7, Y_a8, Y_a10, Y_a11, Y_a12, Y_a13, Y_a14, Y_a15, Y_a16, Y_a17, Y_a18, Y_sw, ih1, ih2, iter, wcF]
    by_cases h1 : Op.cmpValue (FP.fcmp (yW y i) (yW y s)) .l ≤ nI 0
    · rw [if_pos h1, if_pos h1]
    · rw [if_neg h1, if_neg h1]
theorem m_wildest (hC : yC y ≤ 4) (h0 : 0 < yC y) : MT (d + 1) 84 [.ref a] (pY a y h) Q ↔ Q (some (.int (nI (wcY y)))) (pY a y h) := by
  rw [MT_go (by decide) _ _ _ (Nat.le_of_ble_eq_true rfl), show s_entry 84 [.ref a] = [.ref a, s_no, s_no] from rfl]
  simp (disch := omega) only [u_84_0, u_84_1, u_84_2, u_84_3, gI0, gIs, gR0, gRs, gF0, gFs, st0, st_i, st_r, st_f, st_n, st_s, true_and, and_true, ↓ifLeT, ↓ifLeF, ↓ifLtT, ↓ifLtF, ↓ifEqT, ↓ifEqF, if_tt, if_ff, if_pos, if_neg, nLe, nLt, nEq, nInT, nCl, pk_mul, nI_add, Nat.reduceAdd, s_cat_nil, s_cat_i, s_cat_r, s_cat_f, s_cat_l, tl_s, tl_n, cat_i, cat_r, cat_f, nb0, nb1, nbI, if_bI, if_bIr, Nat.zero_le, Nat.reduceLeDiff, wildest_lp hC (yC y - 1) 1 0 (by omega) h0 (by omega)]
  exact Iff.rfl
def ltF (y : tY) (b : Nat) (f : Option Nat) : Option Nat := match f with | none => some b | some f => if yA y 13 f < yA y 13 b then some b else some f
def ltY (y : tY) : Option Nat := iter (ltF y) 0 (yT y) none
def oI1 : Option Nat → Int32
  | none => -1
  | some n => nI n
theorem longest_lp (hT : yT y ≤ 8) : ∀ n i (s : Option Nat), i + n = yT y → (∀ q, s = some q → q < yT y) → (WP d 85 4 [.ref a, .int (oI1 s), .int (nI i)] [] (pY a y h) (0, 0) Q ↔ Q (some (.int (oI1 (iter (ltF y) i n s)))) (pY a y h)) := by
  intro n
  induction n with
  | zero =>
    intro i s hi hs
    have e : i = yT y := by omega
    subst e
    simp (disch := omega) only [u_85_4, u_85_5, u_85_6, u_85_9, u_85_40, u_85_41, gI0, gIs, gR0, gRs, gF0, gFs, st0, st_i, st_r, st_f, st_n, st_s, true_and, and_true, ↓ifLeT, ↓ifLeF, ↓ifLtT, ↓ifLtF, ↓ifEqT, ↓ifEqF, if_tt, if_ff, if_pos, if_neg, nLe, nLt, nEq, nInT, nCl, pk_mul, nI_add, Nat.reduceAdd, s_cat_nil, s_cat_i, s_cat_r, s_cat_f, s_cat_l, tl_s, tl_n, cat_i, cat_r, cat_f, nb0, nb1, nbI, if_bI, if_bIr, Nat.zero_le, Nat.reduceLeDiff, Y_g0, Y_g1, Y_g2, Y_g3, Y_g4, Y_g5, Y_g6, Y_g7, Y_g8, Y_g9, Y_g10, Y_g11, Y_g12, Y_g13, Y_g14, Y_g15, Y_g16, Y_g17, Y_g18, Y_g19, iter, Nat.le_refl]
  | succ n ih =>
    intro i s hi hs'
    rw [u_85_4]
    have ih1 := ih (i + 1) (some i) (by omega) (fun q e => by cases e; omega)
    cases s with
    | none =>
      unfold oI1 at ih1
      simp (disch := omega) only [u_85_5, u_85_6, u_85_9, u_85_12, gI0, gIs, gR0, gRs, gF0, gFs, st0, st_i, st_r, st_f, st_n, st_s, true_and, and_true, ↓ifLeT, ↓ifLeF, ↓ifLtT, ↓ifLtF, ↓ifEqT, ↓ifEqF, if_tt, if_ff, if_pos, if_neg, nLe, nLt, nEq, nInT, nCl, pk_mul, nI_add, Nat.reduceAdd, s_cat_nil, s_cat_i, s_cat_r, s_cat_f, s_cat_l, tl_s, tl_n, cat_i, cat_r, cat_f, nb0, nb1, nbI, if_bI, if_bIr, Nat.zero_le, Nat.reduceLeDiff, Y_g0, Y_g1, Y_g2, Y_g3, Y_g4, Y_g5, Y_g6, Y_g7, Y_g8, Y_g9, Y_g10, Y_g11, Y_g12, Y_g13, Y_g14, Y_g15, Y_g16, Y_g17, Y_g18, Y_g19, oI1]
      simp (disch := omega) only [u_85_13, u_85_14, u_85_17, u_85_18, u_85_21, u_85_22, u_85_23, u_85_24, u_85_27, u_85_28, u_85_29, u_85_32, u_85_33, u_85_34, u_85_37, gI0, gIs, gR0, gRs, gF0, gFs, st0, st_i, st_r, st_f, st_n, st_s, true_and, and_true, ↓ifLeT, ↓ifLeF, ↓ifLtT, ↓ifLtF, ↓ifEqT, ↓ifEqF, if_tt, if_ff, if_pos, if_neg, nLe, nLt, nEq, nInT, nCl, pk_mul, nI_add, Nat.reduceAdd, s_cat_nil, s_cat_i, s_cat_r, s_cat_f, s_cat_l, tl_s, tl_n, cat_i, cat_r, cat_f, nb0, nb1, nbI, if_bI, if_bIr, Nat.zero_le, Nat.reduceLeDiff, Y_g0, Y_g1, Y_g2, Y_g3, Y_g4, Y_g5, Y_g6, Y_g7, Y_g8, Y_g9, Y_g10, Y_g11, Y_g12, Y_g13, Y_g14, Y_g15, Y_g16, Y_g17, Y_g18, Y_g19, Y_a7, Y_a8, Y_a10, Y_a11, Y_a12, Y_a13, Y_a14, Y_a15, Y_a16, Y_a17, Y_a18, Y_sw, ih1, iter, ltF, oI1]
    | some s =>
      have hq := hs' s rfl
      have ih2 := ih (i + 1) (some s) (by omega) hs'
      have e4 : ¬ nI s = (-1 : Int32) := fun z => nI_pos (show s < 2 ^ 31 by omega) (by rw [z]; decide)
      unfold oI1 at ih1 ih2
      simp (disch := omega) only [u_85_5, u_85_6, u_85_9, u_85_12, u_85_13, u_85_14, u_85_17, u_85_18, u_85_21, u_85_22, u_85_23, u_85_24, u_85_27, u_85_28, u_85_29, u_85_32, u_85_33, u_85_34, u_85_37, gI0, gIs, gR0, gRs, gF0, gFs, st0, st_i, st_r, st_f, st_n, st_s, true_and, and_true, ↓ifLeT, ↓ifLeF, ↓ifLtT, ↓ifLtF, ↓ifEqT, ↓ifEqF, if_tt, if_ff, if_pos, if_neg, nLe, nLt, nEq, nInT, nCl, pk_mul, nI_add, Nat.reduceAdd, s_cat_nil, s_cat_i, s_cat_r, s_cat_f, s_cat_l, tl_s, tl_n, cat_i, cat_r, cat_f, nb0, nb1, nbI, if_bI, if_bIr, Nat.zero_le, Nat.reduceLeDiff, Y_g0, Y_g1, Y_g2, Y_g3, Y_g4, Y_g5, Y_g6, Y_g7, Y_g8, Y_g9, Y_g10, Y_g11, Y_g12, Y_g13, Y_g14, Y_g15, Y_g16, Y_g17, Y_g18, Y_g19, Y_a7, Y_a8, Y_a10, Y_a11, Y_a12, Y_a13, Y_a14, Y_a15, Y_a16, Y_a17, Y_a18, Y_sw, ih1, ih2, iter, ltF, oI1, e4]
      by_cases h1 : yA y 13 i ≤ yA y 13 s
      · simp only [if_pos h1, if_neg (Int32.not_lt.mpr h1)]
      · simp only [if_neg h1, if_pos (Int32.not_le.mp h1)]
theorem m_longestTask (hT : yT y ≤ 8) : MT (d + 1) 85 [.ref a] (pY a y h) Q ↔ Q (some (.int (oI1 (ltY y)))) (pY a y h) := by
  rw [MT_go (by decide) _ _ _ (Nat.le_of_ble_eq_true rfl), show s_entry 85 [.ref a] = [.ref a, s_no, s_no] from rfl]
  have e := longest_lp (d := d) (a := a) (h := h) (Q := Q) hT (yT y) 0 none (by omega) (fun q e => by cases e)
  unfold oI1 at e
  simp (disch := omega) only [u_85_0, u_85_1, u_85_2, u_85_3, gI0, gIs, gR0, gRs, gF0, gFs, st0, st_i, st_r, st_f, st_n, st_s, true_and, and_true, ↓ifLeT, ↓ifLeF, ↓ifLtT, ↓ifLtF, ↓ifEqT, ↓ifEqF, if_tt, if_ff, if_pos, if_neg, nLe, nLt, nEq, nInT, nCl, pk_mul, nI_add, Nat.reduceAdd, s_cat_nil, s_cat_i, s_cat_r, s_cat_f, s_cat_l, tl_s, tl_n, cat_i, cat_r, cat_f, nb0, nb1, nbI, if_bI, if_bIr, Nat.zero_le, Nat.reduceLeDiff, e]
  exact Iff.rfl
end YS
