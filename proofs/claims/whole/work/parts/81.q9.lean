/-! the class's calls: written, mean -/
def wrB (l : tL) (c : Nat) : List Nat := (48 + c) :: (l c).flatMap fun t => [32, 48 + t]
theorem wrC_e {l : tL} {c : Nat} : wrC l c = (if c = 0 then [] else [59]) ++ wrB l c := rfl
theorem fl_len : ∀ l : List Nat, (l.flatMap fun t => [32, 48 + t]).length = 2 * l.length
  | [] => rfl
  | a :: l => by
    rw [List.flatMap_cons, List.length_append, fl_len l]
    show 2 + 2 * l.length = 2 * (l.length + 1)
    omega
theorem fl_at : ∀ (l : List Nat) (i : Nat), i < 2 * l.length → (l.flatMap fun t => [32, 48 + t]).getD i 0 = if i % 2 = 0 then 32 else 48 + l.getD (i / 2) 0
  | [], i, h => absurd h (Nat.not_lt_zero i)
  | a :: l, 0, _ => rfl
  | a :: l, 1, _ => rfl
  | a :: l, i + 2, h => by
    rw [List.length_cons] at h
    have e : ((a :: l).flatMap fun t => [32, 48 + t]).getD (i + 2) 0 = (l.flatMap fun t => [32, 48 + t]).getD i 0 := rfl
    rw [e, fl_at l i (by omega), show (i + 2) % 2 = i % 2 by omega, show (i + 2) / 2 = i / 2 + 1 by omega, List.getD_cons_succ]
theorem wrB_len {l : tL} {c : Nat} : (wrB l c).length = 1 + 2 * (l c).length := by
  unfold wrB
  rw [List.length_cons, fl_len]
  omega
def wrS (n : tN) (c : Nat) : Nat := ((List.range c).flatMap (wrC (nL n))).length
theorem wrS_s {n : tN} {c : Nat} : wrS n (c + 1) = wrS n c + (wrC (nL n) c).length := by
  unfold wrS
  rw [List.range_succ, List.flatMap_append, List.length_append]
  congr 1
  simp
theorem wr_at {n : tN} {c i : Nat} (hc : c < nF n 2) (hi : i < (wrC (nL n) c).length) : (wrN n).getD (wrS n c + i) 0 = (wrC (nL n) c).getD i 0 := by
  have e : wrN n = (List.range c).flatMap (wrC (nL n)) ++ (wrC (nL n) c ++ (List.range' (c + 1) (nF n 2 - (c + 1))).flatMap (wrC (nL n))) := by
    unfold wrN
    have e1 : List.range (nF n 2) = List.range c ++ (c :: List.range' (c + 1) (nF n 2 - (c + 1))) := by
      rw [List.range_eq_range', List.range_eq_range', ← List.range'_succ, show nF n 2 - (c + 1) + 1 = nF n 2 - c by omega]
      have := List.range'_append_1 (s := 0) (m := c) (n := nF n 2 - c)
      rw [Nat.zero_add] at this
      rw [this, show c + (nF n 2 - c) = nF n 2 by omega]
    rw [e1, List.flatMap_append, List.flatMap_cons]
  rw [e, List.getD_eq_getElem?_getD, List.getElem?_append_right (by unfold wrS; omega), show wrS n c + i - ((List.range c).flatMap (wrC (nL n))).length = i by unfold wrS; omega, List.getElem?_append_left hi, List.getD_eq_getElem?_getD]
def wrT (n : tN) (c : Nat) : Nat := if c = 0 then 0 else if c < nF n 2 then wrS n c + 1 else wrS n c
theorem wrT_0 {n : tN} : wrT n 0 = 0 := rfl
theorem wr_B {n : tN} {c i : Nat} (hc : c < nF n 2) (hi : i < 1 + 2 * (nL n c).length) : (wrN n).getD (wrT n c + i) 0 = (wrB (nL n) c).getD i 0 := by
  by_cases h0 : c = 0
  · subst h0
    have := wr_at (i := i) hc (by rw [wrC_e, if_pos rfl, List.nil_append, wrB_len]; exact hi)
    rw [wrC_e, if_pos rfl, List.nil_append] at this
    exact this
  · have := wr_at (i := 1 + i) hc (by rw [wrC_e, if_neg h0, List.length_append, wrB_len, List.length_singleton]; omega)
    rw [wrC_e, if_neg h0] at this
    unfold wrT
    rw [if_neg h0, if_pos hc, Nat.add_assoc, this, Nat.add_comm 1 i]
    rfl
theorem wr_sep {n : tN} {c : Nat} (hc : c < nF n 2) (h0 : ¬ c = 0) : (wrN n).getD (wrS n c) 0 = 59 := by
  have := wr_at (i := 0) hc (by rw [wrC_e, if_neg h0, List.length_append, wrB_len, List.length_singleton]; omega)
  rw [wrC_e, if_neg h0] at this
  exact this
theorem wrT_s {n : tN} {c : Nat} (hc : c < nF n 2) : wrT n c + (1 + 2 * (nL n c).length) = wrS n (c + 1) := by
  rw [wrS_s, wrC_e, List.length_append, wrB_len]
  unfold wrT
  by_cases h0 : c = 0
  · subst h0
    rw [if_pos rfl, if_pos rfl]
    have : wrS n 0 = 0 := rfl
    rw [this, List.length_nil]
    omega
  · rw [if_neg h0, if_pos hc, if_neg h0, List.length_singleton]
    omega
theorem wrT_n {n : tN} {c : Nat} : wrT n (c + 1) = if c + 1 < nF n 2 then wrS n (c + 1) + 1 else wrS n (c + 1) := if_neg (by omega)
theorem wrS_bd {n : tN} (hn : wfN n) : ∀ c, wrS n c ≤ 18 * c
  | 0 => Nat.le_refl _
  | c + 1 => by
    have := wrS_bd hn c
    have h8 := wfL_len hn.1 hn.2.2.2 c
    rw [wrS_s, wrC_e, List.length_append, wrB_len]
    have : (if c = 0 then ([] : List Nat) else [59]).length ≤ 1 := by split <;> simp
    omega
def zwR (n : tN) (k : Int32) : Int32 := if k = -1 then nI (wrN n).length else match ixN k (wrN n).length with
  | some j => nI ((wrN n).getD j 0)
  | none => -1
section Q9
variable {b d : Nat} {s s' : tS} {h : sH} {i x w t m : Int32} {Q : sQ} {z : tQ} {n n' : tN} {y y' : tY} {k : sK}
theorem q_wo {c i : Nat} (hy : RY (SY s 24) n) (hn : wfN n) (hc : c < 4) (hi : i < 1 + 2 * (nL n c).length) : MT (d + 2) 137 [.ref 0, .int (nI c), .int (nI i)] (pS s h) Q ↔ Q (some (.int (nI ((wrB (nL n) c).getD i 0)))) (pS s h) := by
  rw [MT_go (by decide) _ _ _ (Nat.le_of_ble_eq_true rfl), show s_entry 137 [.ref 0, .int (nI c), .int (nI i)] = [.ref 0, .int (nI c), .int (nI i)] from rfl]
  have h8 := wfL_len hn.1 hn.2.2.2 c
  have hs := RP_okS hn.1 hn.2.2.2 hy.2.2.2
  by_cases h0 : i = 0
  · subst h0
    simp (disch := omega) only [u_137_0, u_137_1, u_137_4, u_137_6, u_137_7, u_137_8, u_137_9, u_137_10, u_137_11, u_137_12, u_137_13, u_137_16, u_137_18, u_137_21, u_137_23, u_137_24, u_137_27, u_137_30, u_137_31, u_137_32, u_137_33, u_137_34, u_137_35, u_137_36, u_137_39, u_137_40, gI0, gIs, gR0, gRs, gF0, gFs, st0, st_i, st_r, st_f, st_n, st_s, true_and, and_true, ↓ifLeT, ↓ifLeF, ↓ifLtT, ↓ifLtF, ↓ifEqT, ↓ifEqF, if_tt, if_ff, if_pos, if_neg, nLe, nLt, nEq, nInT, nCl, pk_mul, nI_add, Nat.reduceAdd, s_cat_nil, s_cat_i, s_cat_r, s_cat_f, s_cat_l, tl_s, tl_n, cat_i, cat_r, cat_f, nb0, nb1, nbI, if_bI, if_bIr, Nat.zero_le, Nat.reduceLeDiff]
    exact Iff.rfl
  · obtain ⟨q, rfl⟩ : ∃ q, i = q + 1 := ⟨i - 1, by omega⟩
    have e : (wrB (nL n) c).getD (q + 1) 0 = if q % 2 = 0 then 32 else 48 + (nL n c).getD (q / 2) 0 := fl_at (nL n c) q (by omega)
    rw [e]
    have hq0 : ¬ nI (q + 1) = nI 0 := fun z => by rw [nI_eq (by omega) (by decide)] at z; omega
    have n2 : ¬ nI 2 = 0 := by decide
    by_cases h1 : q % 2 = 0
    · rw [if_pos h1]
      have r : nI (q + 1) - nI (q + 1) / nI 2 * nI 2 = nI 1 := by rw [pk_rem (by omega) (by decide) (by decide), show (q + 1) % 2 = 1 by omega]
      simp (disch := omega) only [u_137_0, u_137_1, u_137_4, u_137_6, u_137_7, u_137_8, u_137_9, u_137_10, u_137_11, u_137_12, u_137_13, u_137_16, u_137_18, u_137_21, u_137_23, u_137_24, u_137_27, u_137_30, u_137_31, u_137_32, u_137_33, u_137_34, u_137_35, u_137_36, u_137_39, u_137_40, gI0, gIs, gR0, gRs, gF0, gFs, st0, st_i, st_r, st_f, st_n, st_s, true_and, and_true, ↓ifLeT, ↓ifLeF, ↓ifLtT, ↓ifLtF, ↓ifEqT, ↓ifEqF, if_tt, if_ff, if_pos, if_neg, nLe, nLt, nEq, nInT, nCl, pk_mul, nI_add, Nat.reduceAdd, s_cat_nil, s_cat_i, s_cat_r, s_cat_f, s_cat_l, tl_s, tl_n, cat_i, cat_r, cat_f, nb0, nb1, nbI, if_bI, if_bIr, Nat.zero_le, Nat.reduceLeDiff, n2, not_false_eq_true, r]
    · rw [if_neg h1]
      have r : nI (q + 1) - nI (q + 1) / nI 2 * nI 2 = nI 0 := by rw [pk_rem (by omega) (by decide) (by decide), show (q + 1) % 2 = 0 by omega]
      have dv : nI (q + 1) / nI 2 - nI 1 = nI (q / 2) := by rw [pk_div (by omega) (by decide) (by decide), pk_sub (by omega), show (q + 1) / 2 - 1 = q / 2 by omega]
      have e1 := fun Q => tl_YP (s := s) (h := h) (Q := Q) yb24 fun h Q => m_at (d := d) (b := 24 + 13) (p := yP (SY s 24)) (c := c) (j := q / 2) (h := h) (Q := Q) hs hc (by rw [(hy.2.2.2 c hc).1]; omega)
      rw [(hy.2.2.2 c hc).2 (q / 2) (by omega)] at e1
      simp (disch := omega) only [u_137_0, u_137_1, u_137_4, u_137_6, u_137_7, u_137_8, u_137_9, u_137_10, u_137_11, u_137_12, u_137_13, u_137_16, u_137_18, u_137_21, u_137_23, u_137_24, u_137_27, u_137_30, u_137_31, u_137_32, u_137_33, u_137_34, u_137_35, u_137_36, u_137_39, u_137_40, gI0, gIs, gR0, gRs, gF0, gFs, st0, st_i, st_r, st_f, st_n, st_s, true_and, and_true, ↓ifLeT, ↓ifLeF, ↓ifLtT, ↓ifLtF, ↓ifEqT, ↓ifEqF, if_tt, if_ff, if_pos, if_neg, nLe, nLt, nEq, nInT, nCl, pk_mul, nI_add, Nat.reduceAdd, s_cat_nil, s_cat_i, s_cat_r, s_cat_f, s_cat_l, tl_s, tl_n, cat_i, cat_r, cat_f, nb0, nb1, nbI, if_bI, if_bIr, Nat.zero_le, Nat.reduceLeDiff, S_g0_0, S_g0_1, S_g0_2, S_g0_3, S_g0_4, S_g0_5, S_g0_6, S_g0_7, S_g0_8, S_g0_9, S_g0_10, S_g0_11, S_g0_12, S_g0_13, S_g0_14, S_g1_0, S_g1_1, S_g1_2, S_g1_3, S_g1_4, S_g72_0, S_g72_1, S_g72_2, S_g239_0, S_g239_1, S_g239_2, S_g239_3, S_g239_4, S_g239_5, S_g239_6, S_a23, S_n23, S_a282, S_n282, S_a300, S_n300, S_n73, S_n299, Y'_ob (isY_S yb24), Y'_g0 (isY_S yb24), Y'_g1 (isY_S yb24), Y'_g2 (isY_S yb24), Y'_g3 (isY_S yb24), Y'_g4 (isY_S yb24), Y'_g5 (isY_S yb24), Y'_g6 (isY_S yb24), Y'_g7 (isY_S yb24), Y'_g8 (isY_S yb24), Y'_g9 (isY_S yb24), Y'_g10 (isY_S yb24), Y'_g11 (isY_S yb24), Y'_g12 (isY_S yb24), Y'_g13 (isY_S yb24), Y'_g14 (isY_S yb24), Y'_g15 (isY_S yb24), Y'_g16 (isY_S yb24), Y'_g17 (isY_S yb24), Y'_g18 (isY_S yb24), Y'_g19 (isY_S yb24), Y'_a7 (isY_S yb24), Y'_a8 (isY_S yb24), Y'_a10 (isY_S yb24), Y'_a11 (isY_S yb24), Y'_a12 (isY_S yb24), Y'_a13 (isY_S yb24), Y'_a14 (isY_S yb24), Y'_a15 (isY_S yb24), Y'_a16 (isY_S yb24), Y'_a17 (isY_S yb24), Y'_a18 (isY_S yb24), Y'_sw (isY_S yb24), n2, not_false_eq_true, r, dv, YSP_ob, e1]
theorem wr_lp {x : Int32} (hy : RY (SY s 24) n) (hn : wfN n) (h1 : 1 ≤ nF n 2) : ∀ m c v4, c + m = nF n 2 → (x = -1 ∨ ∃ j, x = nI j ∧ j < 2 ^ 31 ∧ wrT n c ≤ j) → (WP (d + 2) 113 18 [.ref 0, .int x, .int (nI (wrT n c)), .int (nI c), v4] [] (pS s h) (0, 0) Q ↔ Q (some (.int (zwR n x))) (pS s h)) := by
  intro m
  have h4 := hn.1.1
  have fC := hy.1.2.2.1
  have szG : ∀ f, fG (pS s h) (24 + 13) 3 1 f ↔ f (.ref (24 + 13 + 2)) := fun f => P'_size (isP_YS yb24)
  have szA : ∀ i f, aG (pS s h) (24 + 13 + 2) i f ↔ vp_in i 4 ∧ f (nI ((yP (SY s 24)).2 i.toNatClampNeg)) := fun i f => P'_sz (isP_YS yb24)
  have LN : (wrN n).length = wrS n (nF n 2) := rfl
  induction m with
  | zero =>
    intro c v4 hc hx
    have e : c = nF n 2 := by omega
    subst e
    have bd := wrS_bd hn (nF n 2)
    have eT : wrT n (nF n 2) = wrS n (nF n 2) := by unfold wrT; rw [if_neg (by omega), if_neg (by omega)]
    rw [eT] at hx ⊢
    rw [u_113_18]
    unfold zwR
    rw [LN]
    rcases hx with rfl | ⟨j, rfl, hj, hj2⟩
    · rw [if_pos rfl]
      simp (disch := omega) only [u_113_0, u_113_1, u_113_4, u_113_7, u_113_8, u_113_9, u_113_12, u_113_13, u_113_14, u_113_15, u_113_16, u_113_17, u_113_19, u_113_20, u_113_23, u_113_26, u_113_29, u_113_30, u_113_31, u_113_32, u_113_35, u_113_38, u_113_41, u_113_42, u_113_43, u_113_44, u_113_45, u_113_47, u_113_48, u_113_49, u_113_52, u_113_53, u_113_54, u_113_56, u_113_57, u_113_60, u_113_61, u_113_62, u_113_63, u_113_64, u_113_65, u_113_68, u_113_69, u_113_70, u_113_72, u_113_73, u_113_74, u_113_75, u_113_76, u_113_77, u_113_78, u_113_81, u_113_84, u_113_87, u_113_88, u_113_89, u_113_92, u_113_94, u_113_95, u_113_98, u_113_101, u_113_104, u_113_105, u_113_106, u_113_109, u_113_110, u_113_113, u_113_114, gI0, gIs, gR0, gRs, gF0, gFs, st0, st_i, st_r, st_f, st_n, st_s, true_and, and_true, ↓ifLeT, ↓ifLeF, ↓ifLtT, ↓ifLtF, ↓ifEqT, ↓ifEqF, if_tt, if_ff, if_pos, if_neg, nLe, nLt, nEq, nInT, nCl, pk_mul, nI_add, Nat.reduceAdd, s_cat_nil, s_cat_i, s_cat_r, s_cat_f, s_cat_l, tl_s, tl_n, cat_i, cat_r, cat_f, nb0, nb1, nbI, if_bI, if_bIr, Nat.zero_le, Nat.reduceLeDiff, S_ob0, S_g0_0, S_g0_1, S_g0_2, S_g0_3, S_g0_4, S_g0_5, S_g0_6, S_g0_7, S_g0_8, S_g0_9, S_g0_10, S_g0_11, S_g0_12, S_g0_13, S_g0_14, S_g1_0, S_g1_1, S_g1_2, S_g1_3, S_g1_4, S_g72_0, S_g72_1, S_g72_2, S_g239_0, S_g239_1, S_g239_2, S_g239_3, S_g239_4, S_g239_5, S_g239_6, S_a23, S_n23, S_a282, S_n282, S_a300, S_n300, S_n73, S_n299, Y'_ob (isY_S yb24), Y'_g0 (isY_S yb24), Y'_g1 (isY_S yb24), Y'_g2 (isY_S yb24), Y'_g3 (isY_S yb24), Y'_g4 (isY_S yb24), Y'_g5 (isY_S yb24), Y'_g6 (isY_S yb24), Y'_g7 (isY_S yb24), Y'_g8 (isY_S yb24), Y'_g9 (isY_S yb24), Y'_g10 (isY_S yb24), Y'_g11 (isY_S yb24), Y'_g12 (isY_S yb24), Y'_g13 (isY_S yb24), Y'_g14 (isY_S yb24), Y'_g15 (isY_S yb24), Y'_g16 (isY_S yb24), Y'_g17 (isY_S yb24), Y'_g18 (isY_S yb24), Y'_g19 (isY_S yb24), Y'_a7 (isY_S yb24), Y'_a8 (isY_S yb24), Y'_a10 (isY_S yb24), Y'_a11 (isY_S yb24), Y'_a12 (isY_S yb24), Y'_a13 (isY_S yb24), Y'_a14 (isY_S yb24), Y'_a15 (isY_S yb24), Y'_a16 (isY_S yb24), Y'_a17 (isY_S yb24), Y'_a18 (isY_S yb24), Y'_sw (isY_S yb24), fC]
    · have g : ¬ nI j = -1 := m1_ne hj
      have g2 : ixN (nI j) (wrS n (nF n 2)) = none := if_neg (fun q => nI_nlt hj2 hj q.2)
      rw [if_neg g, g2]
      simp (disch := omega) only [u_113_0, u_113_1, u_113_4, u_113_7, u_113_8, u_113_9, u_113_12, u_113_13, u_113_14, u_113_15, u_113_16, u_113_17, u_113_19, u_113_20, u_113_23, u_113_26, u_113_29, u_113_30, u_113_31, u_113_32, u_113_35, u_113_38, u_113_41, u_113_42, u_113_43, u_113_44, u_113_45, u_113_47, u_113_48, u_113_49, u_113_52, u_113_53, u_113_54, u_113_56, u_113_57, u_113_60, u_113_61, u_113_62, u_113_63, u_113_64, u_113_65, u_113_68, u_113_69, u_113_70, u_113_72, u_113_73, u_113_74, u_113_75, u_113_76, u_113_77, u_113_78, u_113_81, u_113_84, u_113_87, u_113_88, u_113_89, u_113_92, u_113_94, u_113_95, u_113_98, u_113_101, u_113_104, u_113_105, u_113_106, u_113_109, u_113_110, u_113_113, u_113_114, gI0, gIs, gR0, gRs, gF0, gFs, st0, st_i, st_r, st_f, st_n, st_s, true_and, and_true, ↓ifLeT, ↓ifLeF, ↓ifLtT, ↓ifLtF, ↓ifEqT, ↓ifEqF, if_tt, if_ff, if_pos, if_neg, nLe, nLt, nEq, nInT, nCl, pk_mul, nI_add, Nat.reduceAdd, s_cat_nil, s_cat_i, s_cat_r, s_cat_f, s_cat_l, tl_s, tl_n, cat_i, cat_r, cat_f, nb0, nb1, nbI, if_bI, if_bIr, Nat.zero_le, Nat.reduceLeDiff, S_ob0, S_g0_0, S_g0_1, S_g0_2, S_g0_3, S_g0_4, S_g0_5, S_g0_6, S_g0_7, S_g0_8, S_g0_9, S_g0_10, S_g0_11, S_g0_12, S_g0_13, S_g0_14, S_g1_0, S_g1_1, S_g1_2, S_g1_3, S_g1_4, S_g72_0, S_g72_1, S_g72_2, S_g239_0, S_g239_1, S_g239_2, S_g239_3, S_g239_4, S_g239_5, S_g239_6, S_a23, S_n23, S_a282, S_n282, S_a300, S_n300, S_n73, S_n299, Y'_ob (isY_S yb24), Y'_g0 (isY_S yb24), Y'_g1 (isY_S yb24), Y'_g2 (isY_S yb24), Y'_g3 (isY_S yb24), Y'_g4 (isY_S yb24), Y'_g5 (isY_S yb24), Y'_g6 (isY_S yb24), Y'_g7 (isY_S yb24), Y'_g8 (isY_S yb24), Y'_g9 (isY_S yb24), Y'_g10 (isY_S yb24), Y'_g11 (isY_S yb24), Y'_g12 (isY_S yb24), Y'_g13 (isY_S yb24), Y'_g14 (isY_S yb24), Y'_g15 (isY_S yb24), Y'_g16 (isY_S yb24), Y'_g17 (isY_S yb24), Y'_g18 (isY_S yb24), Y'_g19 (isY_S yb24), Y'_a7 (isY_S yb24), Y'_a8 (isY_S yb24), Y'_a10 (isY_S yb24), Y'_a11 (isY_S yb24), Y'_a12 (isY_S yb24), Y'_a13 (isY_S yb24), Y'_a14 (isY_S yb24), Y'_a15 (isY_S yb24), Y'_a16 (isY_S yb24), Y'_a17 (isY_S yb24), Y'_a18 (isY_S yb24), Y'_sw (isY_S yb24), fC, g, reduceIte]
  | succ m ih =>
    intro c v4 hc hx
    have bd := wrS_bd hn (c + 1)
    have bdN := wrS_bd hn (nF n 2)
    have h8 := wfL_len hn.1 hn.2.2.2 c
    have st := wrT_s (n := n) (c := c) (by omega)
    have nx := wrT_n (n := n) (c := c)
    have i1 : vp_in (nI c) 4 := (nIn (by omega)).mpr (by omega)
    have sz := (hy.2.2.2 c (by omega)).1
    have sz2 : nI 1 + nI 2 * nI (nL n c).length = nI (1 + 2 * (nL n c).length) := by rw [pk_mul, nI_add]
    have sz3 : nI (wrT n c) + nI (1 + 2 * (nL n c).length) = nI (wrS n (c + 1)) := by rw [nI_add, st]
    have mono : wrS n (c + 1) ≤ (wrN n).length := by
      rw [LN]
      have : ∀ k, wrS n (c + 1) ≤ wrS n (c + 1 + k) := fun k => by
        induction k with
        | zero => exact Nat.le_refl _
        | succ k ih => exact Nat.le_trans ih (by rw [← Nat.add_assoc, wrS_s]; omega)
      have := this (nF n 2 - (c + 1))
      rwa [show c + 1 + (nF n 2 - (c + 1)) = nF n 2 by omega] at this
    have ih := fun v4 => ih (c + 1) v4 (by omega)
    rw [u_113_18]
    rcases hx with rfl | ⟨j, rfl, hj, hj2⟩
    · have ih := fun v4 => ih v4 (Or.inl rfl)
      rw [nx] at ih
      have l1 : (-1 : Int32) < nI (wrT n c) := by
        rw [Int32.lt_iff_toInt_lt, nI_toInt (by omega), show (-1 : Int32).toInt = -1 by decide]; omega
      have l2 : ¬ (-1 : Int32) = nI (wrS n (c + 1)) := fun q => m1_ne (j := wrS n (c + 1)) (by omega) q.symm
      by_cases hc2 : c + 1 < nF n 2
      · rw [if_pos hc2] at ih
        simp (disch := omega) only [u_113_0, u_113_1, u_113_4, u_113_7, u_113_8, u_113_9, u_113_12, u_113_13, u_113_14, u_113_15, u_113_16, u_113_17, u_113_19, u_113_20, u_113_23, u_113_26, u_113_29, u_113_30, u_113_31, u_113_32, u_113_35, u_113_38, u_113_41, u_113_42, u_113_43, u_113_44, u_113_45, u_113_47, u_113_48, u_113_49, u_113_52, u_113_53, u_113_54, u_113_56, u_113_57, u_113_60, u_113_61, u_113_62, u_113_63, u_113_64, u_113_65, u_113_68, u_113_69, u_113_70, u_113_72, u_113_73, u_113_74, u_113_75, u_113_76, u_113_77, u_113_78, u_113_81, u_113_84, u_113_87, u_113_88, u_113_89, u_113_92, u_113_94, u_113_95, u_113_98, u_113_101, u_113_104, u_113_105, u_113_106, u_113_109, u_113_110, u_113_113, u_113_114, gI0, gIs, gR0, gRs, gF0, gFs, st0, st_i, st_r, st_f, st_n, st_s, true_and, and_true, ↓ifLeT, ↓ifLeF, ↓ifLtT, ↓ifLtF, ↓ifEqT, ↓ifEqF, if_tt, if_ff, if_pos, if_neg, nLe, nLt, nEq, nInT, nCl, pk_mul, nI_add, Nat.reduceAdd, s_cat_nil, s_cat_i, s_cat_r, s_cat_f, s_cat_l, tl_s, tl_n, cat_i, cat_r, cat_f, nb0, nb1, nbI, if_bI, if_bIr, Nat.zero_le, Nat.reduceLeDiff, S_ob0, S_g0_0, S_g0_1, S_g0_2, S_g0_3, S_g0_4, S_g0_5, S_g0_6, S_g0_7, S_g0_8, S_g0_9, S_g0_10, S_g0_11, S_g0_12, S_g0_13, S_g0_14, S_g1_0, S_g1_1, S_g1_2, S_g1_3, S_g1_4, S_g72_0, S_g72_1, S_g72_2, S_g239_0, S_g239_1, S_g239_2, S_g239_3, S_g239_4, S_g239_5, S_g239_6, S_a23, S_n23, S_a282, S_n282, S_a300, S_n300, S_n73, S_n299, Y'_ob (isY_S yb24), Y'_g0 (isY_S yb24), Y'_g1 (isY_S yb24), Y'_g2 (isY_S yb24), Y'_g3 (isY_S yb24), Y'_g4 (isY_S yb24), Y'_g5 (isY_S yb24), Y'_g6 (isY_S yb24), Y'_g7 (isY_S yb24), Y'_g8 (isY_S yb24), Y'_g9 (isY_S yb24), Y'_g10 (isY_S yb24), Y'_g11 (isY_S yb24), Y'_g12 (isY_S yb24), Y'_g13 (isY_S yb24), Y'_g14 (isY_S yb24), Y'_g15 (isY_S yb24), Y'_g16 (isY_S yb24), Y'_g17 (isY_S yb24), Y'_g18 (isY_S yb24), Y'_g19 (isY_S yb24), Y'_a7 (isY_S yb24), Y'_a8 (isY_S yb24), Y'_a10 (isY_S yb24), Y'_a11 (isY_S yb24), Y'_a12 (isY_S yb24), Y'_a13 (isY_S yb24), Y'_a14 (isY_S yb24), Y'_a15 (isY_S yb24), Y'_a16 (isY_S yb24), Y'_a17 (isY_S yb24), Y'_a18 (isY_S yb24), Y'_sw (isY_S yb24), fC, szG, szA, i1, sz, sz2, sz3, l1, l2, reduceIte, ih]
      · rw [if_neg hc2] at ih
        simp (disch := omega) only [u_113_0, u_113_1, u_113_4, u_113_7, u_113_8, u_113_9, u_113_12, u_113_13, u_113_14, u_113_15, u_113_16, u_113_17, u_113_19, u_113_20, u_113_23, u_113_26, u_113_29, u_113_30, u_113_31, u_113_32, u_113_35, u_113_38, u_113_41, u_113_42, u_113_43, u_113_44, u_113_45, u_113_47, u_113_48, u_113_49, u_113_52, u_113_53, u_113_54, u_113_56, u_113_57, u_113_60, u_113_61, u_113_62, u_113_63, u_113_64, u_113_65, u_113_68, u_113_69, u_113_70, u_113_72, u_113_73, u_113_74, u_113_75, u_113_76, u_113_77, u_113_78, u_113_81, u_113_84, u_113_87, u_113_88, u_113_89, u_113_92, u_113_94, u_113_95, u_113_98, u_113_101, u_113_104, u_113_105, u_113_106, u_113_109, u_113_110, u_113_113, u_113_114, gI0, gIs, gR0, gRs, gF0, gFs, st0, st_i, st_r, st_f, st_n, st_s, true_and, and_true, ↓ifLeT, ↓ifLeF, ↓ifLtT, ↓ifLtF, ↓ifEqT, ↓ifEqF, if_tt, if_ff, if_pos, if_neg, nLe, nLt, nEq, nInT, nCl, pk_mul, nI_add, Nat.reduceAdd, s_cat_nil, s_cat_i, s_cat_r, s_cat_f, s_cat_l, tl_s, tl_n, cat_i, cat_r, cat_f, nb0, nb1, nbI, if_bI, if_bIr, Nat.zero_le, Nat.reduceLeDiff, S_ob0, S_g0_0, S_g0_1, S_g0_2, S_g0_3, S_g0_4, S_g0_5, S_g0_6, S_g0_7, S_g0_8, S_g0_9, S_g0_10, S_g0_11, S_g0_12, S_g0_13, S_g0_14, S_g1_0, S_g1_1, S_g1_2, S_g1_3, S_g1_4, S_g72_0, S_g72_1, S_g72_2, S_g239_0, S_g239_1, S_g239_2, S_g239_3, S_g239_4, S_g239_5, S_g239_6, S_a23, S_n23, S_a282, S_n282, S_a300, S_n300, S_n73, S_n299, Y'_ob (isY_S yb24), Y'_g0 (isY_S yb24), Y'_g1 (isY_S yb24), Y'_g2 (isY_S yb24), Y'_g3 (isY_S yb24), Y'_g4 (isY_S yb24), Y'_g5 (isY_S yb24), Y'_g6 (isY_S yb24), Y'_g7 (isY_S yb24), Y'_g8 (isY_S yb24), Y'_g9 (isY_S yb24), Y'_g10 (isY_S yb24), Y'_g11 (isY_S yb24), Y'_g12 (isY_S yb24), Y'_g13 (isY_S yb24), Y'_g14 (isY_S yb24), Y'_g15 (isY_S yb24), Y'_g16 (isY_S yb24), Y'_g17 (isY_S yb24), Y'_g18 (isY_S yb24), Y'_g19 (isY_S yb24), Y'_a7 (isY_S yb24), Y'_a8 (isY_S yb24), Y'_a10 (isY_S yb24), Y'_a11 (isY_S yb24), Y'_a12 (isY_S yb24), Y'_a13 (isY_S yb24), Y'_a14 (isY_S yb24), Y'_a15 (isY_S yb24), Y'_a16 (isY_S yb24), Y'_a17 (isY_S yb24), Y'_a18 (isY_S yb24), Y'_sw (isY_S yb24), fC, szG, szA, i1, sz, sz2, sz3, l1, l2, reduceIte, ih]
    · have g : ¬ nI j = -1 := m1_ne hj
      by_cases hin : j < wrS n (c + 1)
      · have e1 := fun Q => q_wo (d := d) (s := s) (h := h) (Q := Q) (c := c) (i := j - wrT n c) hy hn (by omega) (by omega)
        have e2 := wr_B (n := n) (c := c) (i := j - wrT n c) (by omega) (by omega)
        rw [show wrT n c + (j - wrT n c) = j by omega] at e2
        have r : zwR n (nI j) = nI ((wrB (nL n) c).getD (j - wrT n c) 0) := by
          unfold zwR
          rw [if_neg g, ix_nI (by omega) (by omega)]
          exact congrArg nI e2
        have sb : nI j - nI (wrT n c) = nI (j - wrT n c) := pk_sub hj2
        rw [r]
        simp (disch := omega) only [u_113_0, u_113_1, u_113_4, u_113_7, u_113_8, u_113_9, u_113_12, u_113_13, u_113_14, u_113_15, u_113_16, u_113_17, u_113_19, u_113_20, u_113_23, u_113_26, u_113_29, u_113_30, u_113_31, u_113_32, u_113_35, u_113_38, u_113_41, u_113_42, u_113_43, u_113_44, u_113_45, u_113_47, u_113_48, u_113_49, u_113_52, u_113_53, u_113_54, u_113_56, u_113_57, u_113_60, u_113_61, u_113_62, u_113_63, u_113_64, u_113_65, u_113_68, u_113_69, u_113_70, u_113_72, u_113_73, u_113_74, u_113_75, u_113_76, u_113_77, u_113_78, u_113_81, u_113_84, u_113_87, u_113_88, u_113_89, u_113_92, u_113_94, u_113_95, u_113_98, u_113_101, u_113_104, u_113_105, u_113_106, u_113_109, u_113_110, u_113_113, u_113_114, gI0, gIs, gR0, gRs, gF0, gFs, st0, st_i, st_r, st_f, st_n, st_s, true_and, and_true, ↓ifLeT, ↓ifLeF, ↓ifLtT, ↓ifLtF, ↓ifEqT, ↓ifEqF, if_tt, if_ff, if_pos, if_neg, nLe, nLt, nEq, nInT, nCl, pk_mul, nI_add, Nat.reduceAdd, s_cat_nil, s_cat_i, s_cat_r, s_cat_f, s_cat_l, tl_s, tl_n, cat_i, cat_r, cat_f, nb0, nb1, nbI, if_bI, if_bIr, Nat.zero_le, Nat.reduceLeDiff, S_ob0, S_g0_0, S_g0_1, S_g0_2, S_g0_3, S_g0_4, S_g0_5, S_g0_6, S_g0_7, S_g0_8, S_g0_9, S_g0_10, S_g0_11, S_g0_12, S_g0_13, S_g0_14, S_g1_0, S_g1_1, S_g1_2, S_g1_3, S_g1_4, S_g72_0, S_g72_1, S_g72_2, S_g239_0, S_g239_1, S_g239_2, S_g239_3, S_g239_4, S_g239_5, S_g239_6, S_a23, S_n23, S_a282, S_n282, S_a300, S_n300, S_n73, S_n299, Y'_ob (isY_S yb24), Y'_g0 (isY_S yb24), Y'_g1 (isY_S yb24), Y'_g2 (isY_S yb24), Y'_g3 (isY_S yb24), Y'_g4 (isY_S yb24), Y'_g5 (isY_S yb24), Y'_g6 (isY_S yb24), Y'_g7 (isY_S yb24), Y'_g8 (isY_S yb24), Y'_g9 (isY_S yb24), Y'_g10 (isY_S yb24), Y'_g11 (isY_S yb24), Y'_g12 (isY_S yb24), Y'_g13 (isY_S yb24), Y'_g14 (isY_S yb24), Y'_g15 (isY_S yb24), Y'_g16 (isY_S yb24), Y'_g17 (isY_S yb24), Y'_g18 (isY_S yb24), Y'_g19 (isY_S yb24), Y'_a7 (isY_S yb24), Y'_a8 (isY_S yb24), Y'_a10 (isY_S yb24), Y'_a11 (isY_S yb24), Y'_a12 (isY_S yb24), Y'_a13 (isY_S yb24), Y'_a14 (isY_S yb24), Y'_a15 (isY_S yb24), Y'_a16 (isY_S yb24), Y'_a17 (isY_S yb24), Y'_a18 (isY_S yb24), Y'_sw (isY_S yb24), fC, szG, szA, i1, sz, sz2, sz3, sb, e1]
      · by_cases hc2 : c + 1 < nF n 2
        · rw [if_pos hc2] at nx
          by_cases he : j = wrS n (c + 1)
          · have e2 := wr_sep (n := n) (c := c + 1) hc2 (by omega)
            have bd2 : wrS n (c + 1) < (wrN n).length := by
              have a1 := wrS_s (n := n) (c := c + 1)
              have a2 : 1 ≤ (wrC (nL n) (c + 1)).length := by rw [wrC_e, List.length_append, wrB_len]; omega
              have : ∀ k, wrS n (c + 1 + 1) ≤ wrS n (c + 1 + 1 + k) := fun k => by
                induction k with
                | zero => exact Nat.le_refl _
                | succ k ih => exact Nat.le_trans ih (by rw [← Nat.add_assoc, wrS_s]; omega)
              have := this (nF n 2 - (c + 1 + 1))
              rw [show c + 1 + 1 + (nF n 2 - (c + 1 + 1)) = nF n 2 by omega] at this
              rw [LN]
              omega
            have r : zwR n (nI j) = nI 59 := by
              unfold zwR
              rw [if_neg g, ix_nI (by omega) (by omega), he]
              exact congrArg nI e2
            rw [r]
            subst he
            simp (disch := omega) only [u_113_0, u_113_1, u_113_4, u_113_7, u_113_8, u_113_9, u_113_12, u_113_13, u_113_14, u_113_15, u_113_16, u_113_17, u_113_19, u_113_20, u_113_23, u_113_26, u_113_29, u_113_30, u_113_31, u_113_32, u_113_35, u_113_38, u_113_41, u_113_42, u_113_43, u_113_44, u_113_45, u_113_47, u_113_48, u_113_49, u_113_52, u_113_53, u_113_54, u_113_56, u_113_57, u_113_60, u_113_61, u_113_62, u_113_63, u_113_64, u_113_65, u_113_68, u_113_69, u_113_70, u_113_72, u_113_73, u_113_74, u_113_75, u_113_76, u_113_77, u_113_78, u_113_81, u_113_84, u_113_87, u_113_88, u_113_89, u_113_92, u_113_94, u_113_95, u_113_98, u_113_101, u_113_104, u_113_105, u_113_106, u_113_109, u_113_110, u_113_113, u_113_114, gI0, gIs, gR0, gRs, gF0, gFs, st0, st_i, st_r, st_f, st_n, st_s, true_and, and_true, ↓ifLeT, ↓ifLeF, ↓ifLtT, ↓ifLtF, ↓ifEqT, ↓ifEqF, if_tt, if_ff, if_pos, if_neg, nLe, nLt, nEq, nInT, nCl, pk_mul, nI_add, Nat.reduceAdd, s_cat_nil, s_cat_i, s_cat_r, s_cat_f, s_cat_l, tl_s, tl_n, cat_i, cat_r, cat_f, nb0, nb1, nbI, if_bI, if_bIr, Nat.zero_le, Nat.reduceLeDiff, S_ob0, S_g0_0, S_g0_1, S_g0_2, S_g0_3, S_g0_4, S_g0_5, S_g0_6, S_g0_7, S_g0_8, S_g0_9, S_g0_10, S_g0_11, S_g0_12, S_g0_13, S_g0_14, S_g1_0, S_g1_1, S_g1_2, S_g1_3, S_g1_4, S_g72_0, S_g72_1, S_g72_2, S_g239_0, S_g239_1, S_g239_2, S_g239_3, S_g239_4, S_g239_5, S_g239_6, S_a23, S_n23, S_a282, S_n282, S_a300, S_n300, S_n73, S_n299, Y'_ob (isY_S yb24), Y'_g0 (isY_S yb24), Y'_g1 (isY_S yb24), Y'_g2 (isY_S yb24), Y'_g3 (isY_S yb24), Y'_g4 (isY_S yb24), Y'_g5 (isY_S yb24), Y'_g6 (isY_S yb24), Y'_g7 (isY_S yb24), Y'_g8 (isY_S yb24), Y'_g9 (isY_S yb24), Y'_g10 (isY_S yb24), Y'_g11 (isY_S yb24), Y'_g12 (isY_S yb24), Y'_g13 (isY_S yb24), Y'_g14 (isY_S yb24), Y'_g15 (isY_S yb24), Y'_g16 (isY_S yb24), Y'_g17 (isY_S yb24), Y'_g18 (isY_S yb24), Y'_g19 (isY_S yb24), Y'_a7 (isY_S yb24), Y'_a8 (isY_S yb24), Y'_a10 (isY_S yb24), Y'_a11 (isY_S yb24), Y'_a12 (isY_S yb24), Y'_a13 (isY_S yb24), Y'_a14 (isY_S yb24), Y'_a15 (isY_S yb24), Y'_a16 (isY_S yb24), Y'_a17 (isY_S yb24), Y'_a18 (isY_S yb24), Y'_sw (isY_S yb24), fC, szG, szA, i1, sz, sz2, sz3]
          · have ih := fun v4 => ih v4 (Or.inr ⟨j, rfl, hj, by omega⟩)
            rw [nx] at ih
            simp (disch := omega) only [u_113_0, u_113_1, u_113_4, u_113_7, u_113_8, u_113_9, u_113_12, u_113_13, u_113_14, u_113_15, u_113_16, u_113_17, u_113_19, u_113_20, u_113_23, u_113_26, u_113_29, u_113_30, u_113_31, u_113_32, u_113_35, u_113_38, u_113_41, u_113_42, u_113_43, u_113_44, u_113_45, u_113_47, u_113_48, u_113_49, u_113_52, u_113_53, u_113_54, u_113_56, u_113_57, u_113_60, u_113_61, u_113_62, u_113_63, u_113_64, u_113_65, u_113_68, u_113_69, u_113_70, u_113_72, u_113_73, u_113_74, u_113_75, u_113_76, u_113_77, u_113_78, u_113_81, u_113_84, u_113_87, u_113_88, u_113_89, u_113_92, u_113_94, u_113_95, u_113_98, u_113_101, u_113_104, u_113_105, u_113_106, u_113_109, u_113_110, u_113_113, u_113_114, gI0, gIs, gR0, gRs, gF0, gFs, st0, st_i, st_r, st_f, st_n, st_s, true_and, and_true, ↓ifLeT, ↓ifLeF, ↓ifLtT, ↓ifLtF, ↓ifEqT, ↓ifEqF, if_tt, if_ff, if_pos, if_neg, nLe, nLt, nEq, nInT, nCl, pk_mul, nI_add, Nat.reduceAdd, s_cat_nil, s_cat_i, s_cat_r, s_cat_f, s_cat_l, tl_s, tl_n, cat_i, cat_r, cat_f, nb0, nb1, nbI, if_bI, if_bIr, Nat.zero_le, Nat.reduceLeDiff, S_ob0, S_g0_0, S_g0_1, S_g0_2, S_g0_3, S_g0_4, S_g0_5, S_g0_6, S_g0_7, S_g0_8, S_g0_9, S_g0_10, S_g0_11, S_g0_12, S_g0_13, S_g0_14, S_g1_0, S_g1_1, S_g1_2, S_g1_3, S_g1_4, S_g72_0, S_g72_1, S_g72_2, S_g239_0, S_g239_1, S_g239_2, S_g239_3, S_g239_4, S_g239_5, S_g239_6, S_a23, S_n23, S_a282, S_n282, S_a300, S_n300, S_n73, S_n299, Y'_ob (isY_S yb24), Y'_g0 (isY_S yb24), Y'_g1 (isY_S yb24), Y'_g2 (isY_S yb24), Y'_g3 (isY_S yb24), Y'_g4 (isY_S yb24), Y'_g5 (isY_S yb24), Y'_g6 (isY_S yb24), Y'_g7 (isY_S yb24), Y'_g8 (isY_S yb24), Y'_g9 (isY_S yb24), Y'_g10 (isY_S yb24), Y'_g11 (isY_S yb24), Y'_g12 (isY_S yb24), Y'_g13 (isY_S yb24), Y'_g14 (isY_S yb24), Y'_g15 (isY_S yb24), Y'_g16 (isY_S yb24), Y'_g17 (isY_S yb24), Y'_g18 (isY_S yb24), Y'_g19 (isY_S yb24), Y'_a7 (isY_S yb24), Y'_a8 (isY_S yb24), Y'_a10 (isY_S yb24), Y'_a11 (isY_S yb24), Y'_a12 (isY_S yb24), Y'_a13 (isY_S yb24), Y'_a14 (isY_S yb24), Y'_a15 (isY_S yb24), Y'_a16 (isY_S yb24), Y'_a17 (isY_S yb24), Y'_a18 (isY_S yb24), Y'_sw (isY_S yb24), fC, szG, szA, i1, sz, sz2, sz3, ih]
        · rw [if_neg hc2] at nx
          have ih := fun v4 => ih v4 (Or.inr ⟨j, rfl, hj, by omega⟩)
          rw [nx] at ih
          simp (disch := omega) only [u_113_0, u_113_1, u_113_4, u_113_7, u_113_8, u_113_9, u_113_12, u_113_13, u_113_14, u_113_15, u_113_16, u_113_17, u_113_19, u_113_20, u_113_23, u_113_26, u_113_29, u_113_30, u_113_31, u_113_32, u_113_35, u_113_38, u_113_41, u_113_42, u_113_43, u_113_44, u_113_45, u_113_47, u_113_48, u_113_49, u_113_52, u_113_53, u_113_54, u_113_56, u_113_57, u_113_60, u_113_61, u_113_62, u_113_63, u_113_64, u_113_65, u_113_68, u_113_69, u_113_70, u_113_72, u_113_73, u_113_74, u_113_75, u_113_76, u_113_77, u_113_78, u_113_81, u_113_84, u_113_87, u_113_88, u_113_89, u_113_92, u_113_94, u_113_95, u_113_98, u_113_101, u_113_104, u_113_105, u_113_106, u_113_109, u_113_110, u_113_113, u_113_114, gI0, gIs, gR0, gRs, gF0, gFs, st0, st_i, st_r, st_f, st_n, st_s, true_and, and_true, ↓ifLeT, ↓ifLeF, ↓ifLtT, ↓ifLtF, ↓ifEqT, ↓ifEqF, if_tt, if_ff, if_pos, if_neg, nLe, nLt, nEq, nInT, nCl, pk_mul, nI_add, Nat.reduceAdd, s_cat_nil, s_cat_i, s_cat_r, s_cat_f, s_cat_l, tl_s, tl_n, cat_i, cat_r, cat_f, nb0, nb1, nbI, if_bI, if_bIr, Nat.zero_le, Nat.reduceLeDiff, S_ob0, S_g0_0, S_g0_1, S_g0_2, S_g0_3, S_g0_4, S_g0_5, S_g0_6, S_g0_7, S_g0_8, S_g0_9, S_g0_10, S_g0_11, S_g0_12, S_g0_13, S_g0_14, S_g1_0, S_g1_1, S_g1_2, S_g1_3, S_g1_4, S_g72_0, S_g72_1, S_g72_2, S_g239_0, S_g239_1, S_g239_2, S_g239_3, S_g239_4, S_g239_5, S_g239_6, S_a23, S_n23, S_a282, S_n282, S_a300, S_n300, S_n73, S_n299, Y'_ob (isY_S yb24), Y'_g0 (isY_S yb24), Y'_g1 (isY_S yb24), Y'_g2 (isY_S yb24), Y'_g3 (isY_S yb24), Y'_g4 (isY_S yb24), Y'_g5 (isY_S yb24), Y'_g6 (isY_S yb24), Y'_g7 (isY_S yb24), Y'_g8 (isY_S yb24), Y'_g9 (isY_S yb24), Y'_g10 (isY_S yb24), Y'_g11 (isY_S yb24), Y'_g12 (isY_S yb24), Y'_g13 (isY_S yb24), Y'_g14 (isY_S yb24), Y'_g15 (isY_S yb24), Y'_g16 (isY_S yb24), Y'_g17 (isY_S yb24), Y'_g18 (isY_S yb24), Y'_g19 (isY_S yb24), Y'_a7 (isY_S yb24), Y'_a8 (isY_S yb24), Y'_a10 (isY_S yb24), Y'_a11 (isY_S yb24), Y'_a12 (isY_S yb24), Y'_a13 (isY_S yb24), Y'_a14 (isY_S yb24), Y'_a15 (isY_S yb24), Y'_a16 (isY_S yb24), Y'_a17 (isY_S yb24), Y'_a18 (isY_S yb24), Y'_sw (isY_S yb24), fC, szG, szA, i1, sz, sz2, sz3, ih]
theorem q_written (hI : IC s z) : MT (d + 3) 113 [.ref 0, .int x] (pS s h) Q ↔ Q (some (.int (zwritten z x))) (pS s h) := by
  rw [MT_go (by decide) _ _ _ (Nat.le_of_ble_eq_true rfl), show s_entry 113 [.ref 0, .int x] = [.ref 0, .int x, s_no, s_no, s_no] from rfl]
  have e0 := fun Q => q_has (d := d + 1) (h := h) (Q := Q) hI
  unfold zwritten
  cases hq : zQ z with
  | none =>
    simp (disch := omega) only [u_113_0, u_113_1, u_113_4, u_113_7, u_113_8, u_113_9, u_113_12, u_113_13, u_113_14, u_113_15, u_113_16, u_113_17, u_113_19, u_113_20, u_113_23, u_113_26, u_113_29, u_113_30, u_113_31, u_113_32, u_113_35, u_113_38, u_113_41, u_113_42, u_113_43, u_113_44, u_113_45, u_113_47, u_113_48, u_113_49, u_113_52, u_113_53, u_113_54, u_113_56, u_113_57, u_113_60, u_113_61, u_113_62, u_113_63, u_113_64, u_113_65, u_113_68, u_113_69, u_113_70, u_113_72, u_113_73, u_113_74, u_113_75, u_113_76, u_113_77, u_113_78, u_113_81, u_113_84, u_113_87, u_113_88, u_113_89, u_113_92, u_113_94, u_113_95, u_113_98, u_113_101, u_113_104, u_113_105, u_113_106, u_113_109, u_113_110, u_113_113, u_113_114, gI0, gIs, gR0, gRs, gF0, gFs, st0, st_i, st_r, st_f, st_n, st_s, true_and, and_true, ↓ifLeT, ↓ifLeF, ↓ifLtT, ↓ifLtF, ↓ifEqT, ↓ifEqF, if_tt, if_ff, if_pos, if_neg, nLe, nLt, nEq, nInT, nCl, pk_mul, nI_add, Nat.reduceAdd, s_cat_nil, s_cat_i, s_cat_r, s_cat_f, s_cat_l, tl_s, tl_n, cat_i, cat_r, cat_f, nb0, nb1, nbI, if_bI, if_bIr, Nat.zero_le, Nat.reduceLeDiff, S_ob0, e0, hq, Option.isSome, iBf]
  | some n =>
    obtain ⟨hy, hok⟩ := IC_y hI hq
    show _ ↔ Q (some (.int (zwR n x))) (pS s h)
    by_cases h1 : x = -1
    · subst h1
      have l := wr_lp (d := d) (h := h) (Q := Q) hy hok.1 hok.2.1 (nF n 2) 0 s_no (Nat.zero_add _) (Or.inl rfl)
      rw [wrT_0] at l
      have g : (-1 : Int32) ≤ -1 := by decide
      simp (disch := omega) only [u_113_0, u_113_1, u_113_4, u_113_7, u_113_8, u_113_9, u_113_12, u_113_13, u_113_14, u_113_15, u_113_16, u_113_17, u_113_19, u_113_20, u_113_23, u_113_26, u_113_29, u_113_30, u_113_31, u_113_32, u_113_35, u_113_38, u_113_41, u_113_42, u_113_43, u_113_44, u_113_45, u_113_47, u_113_48, u_113_49, u_113_52, u_113_53, u_113_54, u_113_56, u_113_57, u_113_60, u_113_61, u_113_62, u_113_63, u_113_64, u_113_65, u_113_68, u_113_69, u_113_70, u_113_72, u_113_73, u_113_74, u_113_75, u_113_76, u_113_77, u_113_78, u_113_81, u_113_84, u_113_87, u_113_88, u_113_89, u_113_92, u_113_94, u_113_95, u_113_98, u_113_101, u_113_104, u_113_105, u_113_106, u_113_109, u_113_110, u_113_113, u_113_114, gI0, gIs, gR0, gRs, gF0, gFs, st0, st_i, st_r, st_f, st_n, st_s, true_and, and_true, ↓ifLeT, ↓ifLeF, ↓ifLtT, ↓ifLtF, ↓ifEqT, ↓ifEqF, if_tt, if_ff, if_pos, if_neg, nLe, nLt, nEq, nInT, nCl, pk_mul, nI_add, Nat.reduceAdd, s_cat_nil, s_cat_i, s_cat_r, s_cat_f, s_cat_l, tl_s, tl_n, cat_i, cat_r, cat_f, nb0, nb1, nbI, if_bI, if_bIr, Nat.zero_le, Nat.reduceLeDiff, S_ob0, e0, hq, Option.isSome, iBt, nI10, reduceIte, g, l]
    · by_cases h2 : nI 0 ≤ x
      · obtain ⟨j, hj, rfl⟩ := nI_of (x := x) (Int32.not_lt.mpr h2)
        have l := wr_lp (d := d) (h := h) (Q := Q) hy hok.1 hok.2.1 (nF n 2) 0 s_no (Nat.zero_add _) (Or.inr ⟨j, rfl, hj, Nat.zero_le _⟩)
        rw [wrT_0] at l
        have g : (-1 : Int32) ≤ nI j := by
          rw [Int32.le_iff_toInt_le, nI_toInt hj, show (-1 : Int32).toInt = -1 by decide]; omega
        simp (disch := omega) only [u_113_0, u_113_1, u_113_4, u_113_7, u_113_8, u_113_9, u_113_12, u_113_13, u_113_14, u_113_15, u_113_16, u_113_17, u_113_19, u_113_20, u_113_23, u_113_26, u_113_29, u_113_30, u_113_31, u_113_32, u_113_35, u_113_38, u_113_41, u_113_42, u_113_43, u_113_44, u_113_45, u_113_47, u_113_48, u_113_49, u_113_52, u_113_53, u_113_54, u_113_56, u_113_57, u_113_60, u_113_61, u_113_62, u_113_63, u_113_64, u_113_65, u_113_68, u_113_69, u_113_70, u_113_72, u_113_73, u_113_74, u_113_75, u_113_76, u_113_77, u_113_78, u_113_81, u_113_84, u_113_87, u_113_88, u_113_89, u_113_92, u_113_94, u_113_95, u_113_98, u_113_101, u_113_104, u_113_105, u_113_106, u_113_109, u_113_110, u_113_113, u_113_114, gI0, gIs, gR0, gRs, gF0, gFs, st0, st_i, st_r, st_f, st_n, st_s, true_and, and_true, ↓ifLeT, ↓ifLeF, ↓ifLtT, ↓ifLtF, ↓ifEqT, ↓ifEqF, if_tt, if_ff, if_pos, if_neg, nLe, nLt, nEq, nInT, nCl, pk_mul, nI_add, Nat.reduceAdd, s_cat_nil, s_cat_i, s_cat_r, s_cat_f, s_cat_l, tl_s, tl_n, cat_i, cat_r, cat_f, nb0, nb1, nbI, if_bI, if_bIr, Nat.zero_le, Nat.reduceLeDiff, S_ob0, e0, hq, Option.isSome, iBt, nI10, reduceIte, g, l]
      · have g : ¬ (-1 : Int32) ≤ x := by
          intro q
          rw [Int32.le_iff_toInt_le] at q h2
          rw [← Int32.toInt_inj] at h1
          rw [show (-1 : Int32).toInt = -1 by decide] at h1 q
          rw [show (nI 0).toInt = 0 by decide] at h2
          omega
        have r : zwR n x = -1 := by
          unfold zwR
          rw [if_neg h1, show ixN x (wrN n).length = none from if_neg (fun q => h2 q.1)]
        rw [r]
        simp (disch := omega) only [u_113_0, u_113_1, u_113_4, u_113_7, u_113_8, u_113_9, u_113_12, u_113_13, u_113_14, u_113_15, u_113_16, u_113_17, u_113_19, u_113_20, u_113_23, u_113_26, u_113_29, u_113_30, u_113_31, u_113_32, u_113_35, u_113_38, u_113_41, u_113_42, u_113_43, u_113_44, u_113_45, u_113_47, u_113_48, u_113_49, u_113_52, u_113_53, u_113_54, u_113_56, u_113_57, u_113_60, u_113_61, u_113_62, u_113_63, u_113_64, u_113_65, u_113_68, u_113_69, u_113_70, u_113_72, u_113_73, u_113_74, u_113_75, u_113_76, u_113_77, u_113_78, u_113_81, u_113_84, u_113_87, u_113_88, u_113_89, u_113_92, u_113_94, u_113_95, u_113_98, u_113_101, u_113_104, u_113_105, u_113_106, u_113_109, u_113_110, u_113_113, u_113_114, gI0, gIs, gR0, gRs, gF0, gFs, st0, st_i, st_r, st_f, st_n, st_s, true_and, and_true, ↓ifLeT, ↓ifLeF, ↓ifLtT, ↓ifLtF, ↓ifEqT, ↓ifEqF, if_tt, if_ff, if_pos, if_neg, nLe, nLt, nEq, nInT, nCl, pk_mul, nI_add, Nat.reduceAdd, s_cat_nil, s_cat_i, s_cat_r, s_cat_f, s_cat_l, tl_s, tl_n, cat_i, cat_r, cat_f, nb0, nb1, nbI, if_bI, if_bIr, Nat.zero_le, Nat.reduceLeDiff, S_ob0, e0, hq, Option.isSome, iBt, nI10, reduceIte, g]
end Q9
