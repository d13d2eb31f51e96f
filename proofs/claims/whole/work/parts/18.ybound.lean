/-! Yard: rows of tasks, bounds, reach -/
section YR
variable {a d : Nat} {y : tY} {h : sH} {k : sK} {Q : sQ} {i x : Int32}
def rowG (y : tY) (f : Nat → Int32) (t s : Nat) (x : Int32) : Int32 := if bitS (yA y 15 t) (nI s) = nI 0 then x else mx x (f s)
def rowF (y : tY) : Nat → Nat → Int32
  | 0, _ => nI 0
  | m + 1, t => iter (rowG y (rowF y m) t) 0 t (nI 0) + yA y 13 t - yA y 16 t
theorem rowTo_lp {f : Nat → Int32} {t q : Nat} (ht : t < 8) (hq : q + t ≤ 8) (hf : ∀ s Q, s < t → (MT d 87 [.ref a, .int (nI s), .int (nI (q + 1))] (pY a y h) Q ↔ Q (some (.int (f s))) (pY a y h))) : ∀ n i x, i + n = t → (WP d 87 25 [.ref a, .int (nI t), .int (nI q), .int x, .int (nI i)] [] (pY a y h) (0, 0) Q ↔ Q (some (.int (iter (rowG y f t) i n x + yA y 13 t - yA y 16 t))) (pY a y h)) := by
  intro n
  induction n with
  | zero =>
    intro i x hi
    have e : i = t := by omega
    subst e
    simp (disch := omega) only [u_87_25, u_87_27, u_87_28, u_87_65, u_87_66, u_87_67, u_87_70, u_87_71, u_87_72, u_87_73, u_87_74, u_87_77, u_87_78, u_87_79, u_87_80, gI0, gIs, gR0, gRs, gF0, gFs, st0, st_i, st_r, st_f, st_n, st_s, true_and, and_true, ↓ifLeT, ↓ifLeF, ↓ifLtT, ↓ifLtF, ↓ifEqT, ↓ifEqF, if_tt, if_ff, if_pos, if_neg, nLe, nLt, nEq, nInT, nCl, pk_mul, nI_add, Nat.reduceAdd, s_cat_nil, s_cat_i, s_cat_r, s_cat_f, s_cat_l, tl_s, tl_n, cat_i, cat_r, cat_f, nb0, nb1, nbI, if_bI, if_bIr, Nat.zero_le, Nat.reduceLeDiff, Y_g0, Y_g1, Y_g2, Y_g3, Y_g4, Y_g5, Y_g6, Y_g7, Y_g8, Y_g9, Y_g10, Y_g11, Y_g12, Y_g13, Y_g14, Y_g15, Y_g16, Y_g17, Y_g18, Y_g19, Y_a7, Y_a8, Y_a10, Y_a11, Y_a12, Y_a13, Y_a14, Y_a15, Y_a16, Y_a17, Y_a18, Y_sw, iter, Nat.le_refl]
  | succ n ih =>
    intro i x hi
    rw [u_87_25]
    rw [iter]
    by_cases h0 : bitS (yA y 15 t) (nI i) = nI 0
    · have h0' := h0
      unfold bitS at h0'
      rw [show rowG y f t i x = x from if_pos h0]
      simp (disch := omega) only [u_87_27, u_87_28, u_87_31, u_87_32, u_87_35, u_87_36, u_87_37, u_87_39, u_87_40, u_87_41, u_87_42, u_87_45, u_87_46, u_87_47, u_87_49, u_87_50, u_87_51, u_87_52, u_87_55, u_87_58, u_87_59, u_87_62, gI0, gIs, gR0, gRs, gF0, gFs, st0, st_i, st_r, st_f, st_n, st_s, true_and, and_true, ↓ifLeT, ↓ifLeF, ↓ifLtT, ↓ifLtF, ↓ifEqT, ↓ifEqF, if_tt, if_ff, if_pos, if_neg, nLe, nLt, nEq, nInT, nCl, pk_mul, nI_add, Nat.reduceAdd, s_cat_nil, s_cat_i, s_cat_r, s_cat_f, s_cat_l, tl_s, tl_n, cat_i, cat_r, cat_f, nb0, nb1, nbI, if_bI, if_bIr, Nat.zero_le, Nat.reduceLeDiff, Y_g0, Y_g1, Y_g2, Y_g3, Y_g4, Y_g5, Y_g6, Y_g7, Y_g8, Y_g9, Y_g10, Y_g11, Y_g12, Y_g13, Y_g14, Y_g15, Y_g16, Y_g17, Y_g18, Y_g19, Y_a7, Y_a8, Y_a10, Y_a11, Y_a12, Y_a13, Y_a14, Y_a15, Y_a16, Y_a17, Y_a18, Y_sw, h0', ih (i + 1) _ (by omega)]
    · have h0' := h0
      unfold bitS at h0'
      rw [show rowG y f t i x = mx x (f i) from if_neg h0]
      simp (disch := omega) only [u_87_27, u_87_28, u_87_31, u_87_32, u_87_35, u_87_36, u_87_37, u_87_39, u_87_40, u_87_41, u_87_42, u_87_45, u_87_46, u_87_47, u_87_49, u_87_50, u_87_51, u_87_52, u_87_55, u_87_58, u_87_59, u_87_62, gI0, gIs, gR0, gRs, gF0, gFs, st0, st_i, st_r, st_f, st_n, st_s, true_and, and_true, ↓ifLeT, ↓ifLeF, ↓ifLtT, ↓ifLtF, ↓ifEqT, ↓ifEqF, if_tt, if_ff, if_pos, if_neg, nLe, nLt, nEq, nInT, nCl, pk_mul, nI_add, Nat.reduceAdd, s_cat_nil, s_cat_i, s_cat_r, s_cat_f, s_cat_l, tl_s, tl_n, cat_i, cat_r, cat_f, nb0, nb1, nbI, if_bI, if_bIr, Nat.zero_le, Nat.reduceLeDiff, Y_g0, Y_g1, Y_g2, Y_g3, Y_g4, Y_g5, Y_g6, Y_g7, Y_g8, Y_g9, Y_g10, Y_g11, Y_g12, Y_g13, Y_g14, Y_g15, Y_g16, Y_g17, Y_g18, Y_g19, Y_a7, Y_a8, Y_a10, Y_a11, Y_a12, Y_a13, Y_a14, Y_a15, Y_a16, Y_a17, Y_a18, Y_sw, h0', reduceIte, hf i _ (by omega), ih (i + 1) _ (by omega), mx_d]
theorem m_rowTo (hT : yT y ≤ 8) : ∀ m t q Q, t < m → t < yT y → q + t ≤ 8 → (MT (d + m) 87 [.ref a, .int (nI t), .int (nI q)] (pY a y h) Q ↔ Q (some (.int (rowF y m t))) (pY a y h)) := by
  intro m
  induction m with
  | zero => intro t q Q ht; omega
  | succ m ih =>
    intro t q Q ht hq hqt
    show MT (d + m + 1) _ _ _ _ ↔ _
    rw [MT_go (by decide) _ _ _ (Nat.le_of_ble_eq_true rfl), show s_entry 87 [.ref a, .int (nI t), .int (nI q)] = [.ref a, .int (nI t), .int (nI q), s_no, s_no] from rfl]
    have hf : ∀ s Q, s < t → (MT (d + m) 87 [.ref a, .int (nI s), .int (nI (q + 1))] (pY a y h) Q ↔ Q (some (.int (rowF y m s))) (pY a y h)) := fun s Q hs => ih s (q + 1) Q (by omega) (by omega) (by omega)
    simp (disch := omega) only [u_87_0, u_87_1, u_87_3, u_87_6, u_87_7, u_87_10, u_87_11, u_87_12, u_87_15, u_87_18, u_87_19, u_87_20, u_87_21, u_87_22, u_87_23, gI0, gIs, gR0, gRs, gF0, gFs, st0, st_i, st_r, st_f, st_n, st_s, true_and, and_true, ↓ifLeT, ↓ifLeF, ↓ifLtT, ↓ifLtF, ↓ifEqT, ↓ifEqF, if_tt, if_ff, if_pos, if_neg, nLe, nLt, nEq, nInT, nCl, pk_mul, nI_add, Nat.reduceAdd, s_cat_nil, s_cat_i, s_cat_r, s_cat_f, s_cat_l, tl_s, tl_n, cat_i, cat_r, cat_f, nb0, nb1, nbI, if_bI, if_bIr, Nat.zero_le, Nat.reduceLeDiff, Y_g0, Y_g1, Y_g2, Y_g3, Y_g4, Y_g5, Y_g6, Y_g7, Y_g8, Y_g9, Y_g10, Y_g11, Y_g12, Y_g13, Y_g14, Y_g15, Y_g16, Y_g17, Y_g18, Y_g19, rowTo_lp (by omega) hqt hf t 0 _ (by omega), rowF]
def rowsY (y : tY) : Int32 := iter (fun t x => mx x (rowF y 8 t)) 0 (yT y) (nI 0)
theorem longestRow_lp (hT : yT y ≤ 8) : ∀ n i x, i + n = yT y → (WP (d + 8) 86 4 [.ref a, .int x, .int (nI i)] [] (pY a y h) (0, 0) Q ↔ Q (some (.int (iter (fun t x => mx x (rowF y 8 t)) i n x))) (pY a y h)) := by
  intro n
  induction n with
  | zero =>
    intro i x hi
    have e : i = yT y := by omega
    subst e
    simp (disch := omega) only [u_86_4, u_86_5, u_86_6, u_86_9, u_86_29, u_86_30, gI0, gIs, gR0, gRs, gF0, gFs, st0, st_i, st_r, st_f, st_n, st_s, true_and, and_true, ↓ifLeT, ↓ifLeF, ↓ifLtT, ↓ifLtF, ↓ifEqT, ↓ifEqF, if_tt, if_ff, if_pos, if_neg, nLe, nLt, nEq, nInT, nCl, pk_mul, nI_add, Nat.reduceAdd, s_cat_nil, s_cat_i, s_cat_r, s_cat_f, s_cat_l, tl_s, tl_n, cat_i, cat_r, cat_f, nb0, nb1, nbI, if_bI, if_bIr, Nat.zero_le, Nat.reduceLeDiff, Y_g0, Y_g1, Y_g2, Y_g3, Y_g4, Y_g5, Y_g6, Y_g7, Y_g8, Y_g9, Y_g10, Y_g11, Y_g12, Y_g13, Y_g14, Y_g15, Y_g16, Y_g17, Y_g18, Y_g19, iter, Nat.le_refl]
  | succ n ih =>
    intro i x hi
    rw [u_86_4]
    simp (disch := omega) only [u_86_5, u_86_6, u_86_9, u_86_12, u_86_13, u_86_14, u_86_15, u_86_16, u_86_19, u_86_22, u_86_23, u_86_26, gI0, gIs, gR0, gRs, gF0, gFs, st0, st_i, st_r, st_f, st_n, st_s, true_and, and_true, ↓ifLeT, ↓ifLeF, ↓ifLtT, ↓ifLtF, ↓ifEqT, ↓ifEqF, if_tt, if_ff, if_pos, if_neg, nLe, nLt, nEq, nInT, nCl, pk_mul, nI_add, Nat.reduceAdd, s_cat_nil, s_cat_i, s_cat_r, s_cat_f, s_cat_l, tl_s, tl_n, cat_i, cat_r, cat_f, nb0, nb1, nbI, if_bI, if_bIr, Nat.zero_le, Nat.reduceLeDiff, Y_g0, Y_g1, Y_g2, Y_g3, Y_g4, Y_g5, Y_g6, Y_g7, Y_g8, Y_g9, Y_g10, Y_g11, Y_g12, Y_g13, Y_g14, Y_g15, Y_g16, Y_g17, Y_g18, Y_g19, m_rowTo hT 8 i 0 _ (by omega) (by omega) (by omega), ih (i + 1) _ (by omega), iter, mx_d]
theorem m_longestRow (hT : yT y ≤ 8) : MT (d + 9) 86 [.ref a] (pY a y h) Q ↔ Q (some (.int (rowsY y))) (pY a y h) := by
  rw [MT_go (by decide) _ _ _ (Nat.le_of_ble_eq_true rfl), show s_entry 86 [.ref a] = [.ref a, s_no, s_no] from rfl]
  simp (disch := omega) only [u_86_0, u_86_1, u_86_2, u_86_3, gI0, gIs, gR0, gRs, gF0, gFs, st0, st_i, st_r, st_f, st_n, st_s, true_and, and_true, ↓ifLeT, ↓ifLeF, ↓ifLtT, ↓ifLtF, ↓ifEqT, ↓ifEqF, if_tt, if_ff, if_pos, if_neg, nLe, nLt, nEq, nInT, nCl, pk_mul, nI_add, Nat.reduceAdd, s_cat_nil, s_cat_i, s_cat_r, s_cat_f, s_cat_l, tl_s, tl_n, cat_i, cat_r, cat_f, nb0, nb1, nbI, if_bI, if_bIr, Nat.zero_le, Nat.reduceLeDiff, longestRow_lp hT (yT y) 0 _ (by omega)]
  exact Iff.rfl
/-- could a crane ever stand there -/
def crF (y : tY) (c i : Nat) (p : Int32 × Int32) : Int32 × Int32 := if bitS (yB y 5) (nI i) = nI 0 then p else (if i < c then mx p.1 (yA y 7 i + yB y 1 * (nI c - nI i)) else p.1, if c < i then mn p.2 (yA y 7 i + yB y 1 * (nI c - nI i)) else p.2)
def rngI (p : Int32 × Int32) (x : Int32) : Int32 := if x < p.1 then nI 0 else if p.2 < x then nI 0 else nI 1
def cr0 (y : tY) (c : Nat) : Int32 × Int32 := (yB y 1 * nI c, yB y 0 - nI 1 - yB y 1 * (nI (yC y) - nI 1 - nI c))
def crY (y : tY) (c t : Nat) : Int32 := rngI (iter (crF y c) 0 (yC y) (cr0 y c)) (yA y 12 t)
theorem canReach_lp {c t : Nat} (hC : yC y ≤ 4) (hc : c < 4) (ht : t < 8) : ∀ n i p v, i + n = yC y → (WP d 71 32 [.ref a, .int (nI c), .int (nI t), .int p.1, .int p.2, .int (nI i), v] [] (pY a y h) (0, 0) Q ↔ Q (some (.int (rngI (iter (crF y c) i n p) (yA y 12 t)))) (pY a y h)) := by
  intro n
  induction n with
  | zero =>
    intro i p v hi
    have e : i = yC y := by omega
    subst e
    simp (disch := omega) only [u_71_32, u_71_34, u_71_35, u_71_38, u_71_115, u_71_116, u_71_119, u_71_120, u_71_121, u_71_122, u_71_125, u_71_126, u_71_129, u_71_130, u_71_131, u_71_133, u_71_136, u_71_137, u_71_140, u_71_141, gI0, gIs, gR0, gRs, gF0, gFs, st0, st_i, st_r, st_f, st_n, st_s, true_and, and_true, ↓ifLeT, ↓ifLeF, ↓ifLtT, ↓ifLtF, ↓ifEqT, ↓ifEqF, if_tt, if_ff, if_pos, if_neg, nLe, nLt, nEq, nInT, nCl, pk_mul, nI_add, Nat.reduceAdd, s_cat_nil, s_cat_i, s_cat_r, s_cat_f, s_cat_l, tl_s, tl_n, cat_i, cat_r, cat_f, nb0, nb1, nbI, if_bI, if_bIr, Nat.zero_le, Nat.reduceLeDiff, Y_g0, Y_g1, Y_g2, Y_g3, Y_g4, Y_g5, Y_g6, Y_g7, Y_g8, Y_g9, Y_g10, Y_g11, Y_g12, Y_g13, Y_g14, Y_g15, Y_g16, Y_g17, Y_g18, Y_g19, Y_a7, Y_a8, Y_a10, Y_a11, Y_a12, Y_a13, Y_a14, Y_a15, Y_a16, Y_a17, Y_a18, Y_sw, iter, Nat.le_refl]
    unfold rngI
    by_cases h1 : yA y 12 t < p.1
    · rw [if_pos h1, if_pos h1]
    · rw [if_neg h1, if_neg h1]
      by_cases h2 : p.2 < yA y 12 t
      · rw [if_pos h2, if_pos h2]
      · rw [if_neg h2, if_neg h2]
  | succ n ih =>
    intro i p v hi
    rw [u_71_32]
    rw [iter]
    by_cases h0 : bitS (yB y 5) (nI i) = nI 0
    · have h0' := h0
      unfold bitS at h0'
      have e : crF y c i p = p := if_pos h0
      rw [e]
      simp (disch := omega) only [u_71_34, u_71_35, u_71_38, u_71_41, u_71_42, u_71_45, u_71_47, u_71_48, u_71_49, u_71_50, u_71_53, u_71_54, u_71_57, u_71_59, u_71_60, u_71_61, u_71_64, u_71_65, u_71_67, u_71_68, u_71_69, u_71_70, u_71_72, u_71_74, u_71_75, u_71_78, u_71_79, u_71_81, u_71_84, u_71_87, u_71_88, u_71_89, u_71_91, u_71_92, u_71_95, u_71_97, u_71_99, u_71_102, u_71_105, u_71_107, u_71_109, u_71_112, gI0, gIs, gR0, gRs, gF0, gFs, st0, st_i, st_r, st_f, st_n, st_s, true_and, and_true, ↓ifLeT, ↓ifLeF, ↓ifLtT, ↓ifLtF, ↓ifEqT, ↓ifEqF, if_tt, if_ff, if_pos, if_neg, nLe, nLt, nEq, nInT, nCl, pk_mul, nI_add, Nat.reduceAdd, s_cat_nil, s_cat_i, s_cat_r, s_cat_f, s_cat_l, tl_s, tl_n, cat_i, cat_r, cat_f, nb0, nb1, nbI, if_bI, if_bIr, Nat.zero_le, Nat.reduceLeDiff, Y_g0, Y_g1, Y_g2, Y_g3, Y_g4, Y_g5, Y_g6, Y_g7, Y_g8, Y_g9, Y_g10, Y_g11, Y_g12, Y_g13, Y_g14, Y_g15, Y_g16, Y_g17, Y_g18, Y_g19, Y_a7, Y_a8, Y_a10, Y_a11, Y_a12, Y_a13, Y_a14, Y_a15, Y_a16, Y_a17, Y_a18, Y_sw, h0', reduceIte, ih (i + 1) p _ (by omega)]
    · have h0' := h0
      unfold bitS at h0'
      have e : crF y c i p = (if i < c then mx p.1 (yA y 7 i + yB y 1 * (nI c - nI i)) else p.1, if c < i then mn p.2 (yA y 7 i + yB y 1 * (nI c - nI i)) else p.2) := if_neg h0
      rw [e]
      have ih := fun u w v => ih (i + 1) (u, w) v (by omega)
      by_cases h1 : i < c
      · simp (disch := omega) only [u_71_34, u_71_35, u_71_38, u_71_41, u_71_42, u_71_45, u_71_47, u_71_48, u_71_49, u_71_50, u_71_53, u_71_54, u_71_57, u_71_59, u_71_60, u_71_61, u_71_64, u_71_65, u_71_67, u_71_68, u_71_69, u_71_70, u_71_72, u_71_74, u_71_75, u_71_78, u_71_79, u_71_81, u_71_84, u_71_87, u_71_88, u_71_89, u_71_91, u_71_92, u_71_95, u_71_97, u_71_99, u_71_102, u_71_105, u_71_107, u_71_109, u_71_112, gI0, gIs, gR0, gRs, gF0, gFs, st0, st_i, st_r, st_f, st_n, st_s, true_and, and_true, ↓ifLeT, ↓ifLeF, ↓ifLtT, ↓ifLtF, ↓ifEqT, ↓ifEqF, if_tt, if_ff, if_pos, if_neg, nLe, nLt, nEq, nInT, nCl, pk_mul, nI_add, Nat.reduceAdd, s_cat_nil, s_cat_i, s_cat_r, s_cat_f, s_cat_l, tl_s, tl_n, cat_i, cat_r, cat_f, nb0, nb1, nbI, if_bI, if_bIr, Nat.zero_le, Nat.reduceLeDiff, Y_g0, Y_g1, Y_g2, Y_g3, Y_g4, Y_g5, Y_g6, Y_g7, Y_g8, Y_g9, Y_g10, Y_g11, Y_g12, Y_g13, Y_g14, Y_g15, Y_g16, Y_g17, Y_g18, Y_g19, Y_a7, Y_a8, Y_a10, Y_a11, Y_a12, Y_a13, Y_a14, Y_a15, Y_a16, Y_a17, Y_a18, Y_sw, h0', reduceIte, h1, mx_d, ih, show ¬ c < i by omega]
      · by_cases h2 : c < i
        · simp (disch := omega) only [u_71_34, u_71_35, u_71_38, u_71_41, u_71_42, u_71_45, u_71_47, u_71_48, u_71_49, u_71_50, u_71_53, u_71_54, u_71_57, u_71_59, u_71_60, u_71_61, u_71_64, u_71_65, u_71_67, u_71_68, u_71_69, u_71_70, u_71_72, u_71_74, u_71_75, u_71_78, u_71_79, u_71_81, u_71_84, u_71_87, u_71_88, u_71_89, u_71_91, u_71_92, u_71_95, u_71_97, u_71_99, u_71_102, u_71_105, u_71_107, u_71_109, u_71_112, gI0, gIs, gR0, gRs, gF0, gFs, st0, st_i, st_r, st_f, st_n, st_s, true_and, and_true, ↓ifLeT, ↓ifLeF, ↓ifLtT, ↓ifLtF, ↓ifEqT, ↓ifEqF, if_tt, if_ff, if_pos, if_neg, nLe, nLt, nEq, nInT, nCl, pk_mul, nI_add, Nat.reduceAdd, s_cat_nil, s_cat_i, s_cat_r, s_cat_f, s_cat_l, tl_s, tl_n, cat_i, cat_r, cat_f, nb0, nb1, nbI, if_bI, if_bIr, Nat.zero_le, Nat.reduceLeDiff, Y_g0, Y_g1, Y_g2, Y_g3, Y_g4, Y_g5, Y_g6, Y_g7, Y_g8, Y_g9, Y_g10, Y_g11, Y_g12, Y_g13, Y_g14, Y_g15, Y_g16, Y_g17, Y_g18, Y_g19, Y_a7, Y_a8, Y_a10, Y_a11, Y_a12, Y_a13, Y_a14, Y_a15, Y_a16, Y_a17, Y_a18, Y_sw, h0', reduceIte, h1, h2, mn_d, ih]
        · simp (disch := omega) only [u_71_34, u_71_35, u_71_38, u_71_41, u_71_42, u_71_45, u_71_47, u_71_48, u_71_49, u_71_50, u_71_53, u_71_54, u_71_57, u_71_59, u_71_60, u_71_61, u_71_64, u_71_65, u_71_67, u_71_68, u_71_69, u_71_70, u_71_72, u_71_74, u_71_75, u_71_78, u_71_79, u_71_81, u_71_84, u_71_87, u_71_88, u_71_89, u_71_91, u_71_92, u_71_95, u_71_97, u_71_99, u_71_102, u_71_105, u_71_107, u_71_109, u_71_112, gI0, gIs, gR0, gRs, gF0, gFs, st0, st_i, st_r, st_f, st_n, st_s, true_and, and_true, ↓ifLeT, ↓ifLeF, ↓ifLtT, ↓ifLtF, ↓ifEqT, ↓ifEqF, if_tt, if_ff, if_pos, if_neg, nLe, nLt, nEq, nInT, nCl, pk_mul, nI_add, Nat.reduceAdd, s_cat_nil, s_cat_i, s_cat_r, s_cat_f, s_cat_l, tl_s, tl_n, cat_i, cat_r, cat_f, nb0, nb1, nbI, if_bI, if_bIr, Nat.zero_le, Nat.reduceLeDiff, Y_g0, Y_g1, Y_g2, Y_g3, Y_g4, Y_g5, Y_g6, Y_g7, Y_g8, Y_g9, Y_g10, Y_g11, Y_g12, Y_g13, Y_g14, Y_g15, Y_g16, Y_g17, Y_g18, Y_g19, Y_a7, Y_a8, Y_a10, Y_a11, Y_a12, Y_a13, Y_a14, Y_a15, Y_a16, Y_a17, Y_a18, Y_sw, h0', reduceIte, h1, h2, ih]
theorem m_canReach {c t : Nat} (hC : yC y ≤ 4) (hc : c < 4) (ht : t < 8) : MT (d + 1) 71 [.ref a, .int (nI c), .int (nI t)] (pY a y h) Q ↔ Q (some (.int (crY y c t))) (pY a y h) := by
  rw [MT_go (by decide) _ _ _ (Nat.le_of_ble_eq_true rfl), show s_entry 71 [.ref a, .int (nI c), .int (nI t)] = [.ref a, .int (nI c), .int (nI t), s_no, s_no, s_no, s_no] from rfl]
  have e := canReach_lp (d := d) (a := a) (y := y) (h := h) (Q := Q) hC hc ht (yC y) 0 (cr0 y c) s_no (by omega)
  simp (disch := omega) only [u_71_0, u_71_1, u_71_4, u_71_5, u_71_6, u_71_7, u_71_8, u_71_11, u_71_12, u_71_13, u_71_14, u_71_17, u_71_18, u_71_21, u_71_22, u_71_23, u_71_24, u_71_25, u_71_26, u_71_27, u_71_29, u_71_30, gI0, gIs, gR0, gRs, gF0, gFs, st0, st_i, st_r, st_f, st_n, st_s, true_and, and_true, ↓ifLeT, ↓ifLeF, ↓ifLtT, ↓ifLtF, ↓ifEqT, ↓ifEqF, if_tt, if_ff, if_pos, if_neg, nLe, nLt, nEq, nInT, nCl, pk_mul, nI_add, Nat.reduceAdd, s_cat_nil, s_cat_i, s_cat_r, s_cat_f, s_cat_l, tl_s, tl_n, cat_i, cat_r, cat_f, nb0, nb1, nbI, if_bI, if_bIr, Nat.zero_le, Nat.reduceLeDiff, Y_g0, Y_g1, Y_g2, Y_g3, Y_g4, Y_g5, Y_g6, Y_g7, Y_g8, Y_g9, Y_g10, Y_g11, Y_g12, Y_g13, Y_g14, Y_g15, Y_g16, Y_g17, Y_g18, Y_g19]
  exact e
def bcI (x : Int32) : Int32 :=
  let s := fun (x : Int32) (n : Nat) => ((x.toUInt32 >>> ((nI n).toUInt32 &&& Int32.toUInt32 31)).toInt32 : Int32)
  let x := x - (s x 1 &&& nI 1431655765)
  let x := (x &&& nI 858993459) + (s x 2 &&& nI 858993459)
  let x := (x + s x 4) &&& nI 252645135
  let x := x + s x 8
  let x := x + s x 16
  x &&& nI 63
theorem m_bitCountI {x : Int32} : MT (d + 1) 270 [.int x] h Q ↔ Q (some (.int (bcI x))) h := by
  rw [MT_go (by decide) _ _ _ (Nat.le_of_ble_eq_true rfl), show s_entry 270 [.int x] = [.int x] from rfl]
  simp (disch := omega) only [u_270_0, u_270_1, u_270_2, u_270_3, u_270_4, u_270_7, u_270_8, u_270_9, u_270_10, u_270_11, u_270_14, u_270_15, u_270_16, u_270_17, u_270_18, u_270_21, u_270_22, u_270_23, u_270_24, u_270_25, u_270_26, u_270_27, u_270_28, u_270_29, u_270_32, u_270_33, u_270_34, u_270_35, u_270_36, u_270_38, u_270_39, u_270_40, u_270_41, u_270_42, u_270_43, u_270_45, u_270_46, u_270_47, u_270_48, u_270_49, u_270_51, u_270_52, gI0, gIs, gR0, gRs, gF0, gFs, st0, st_i, st_r, st_f, st_n, st_s, true_and, and_true, ↓ifLeT, ↓ifLeF, ↓ifLtT, ↓ifLtF, ↓ifEqT, ↓ifEqF, if_tt, if_ff, if_pos, if_neg, nLe, nLt, nEq, nInT, nCl, pk_mul, nI_add, Nat.reduceAdd, s_cat_nil, s_cat_i, s_cat_r, s_cat_f, s_cat_l, tl_s, tl_n, cat_i, cat_r, cat_f, nb0, nb1, nbI, if_bI, if_bIr, Nat.zero_le, Nat.reduceLeDiff]
  exact Iff.rfl
def pop (n : Nat) : Nat := n % 2 + n / 2 % 2 + n / 4 % 2 + n / 8 % 2 + n / 16 % 2 + n / 32 % 2 + n / 64 % 2 + n / 128 % 2
theorem bcI_pop : ∀ n, n < 256 → bcI (nI n) = nI (pop n) := by decide +kernel
theorem pop_le (n : Nat) : pop n ≤ 8 := by unfold pop; omega
theorem m_bitCount {n : Nat} (hn : n < 256) : MT (d + 1) 270 [.int (nI n)] h Q ↔ Q (some (.int (nI (pop n)))) h := by
  rw [m_bitCountI, bcI_pop n hn]
end YR
