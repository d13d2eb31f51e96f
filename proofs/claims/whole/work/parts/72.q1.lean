/-! the class's calls: what is asked -/
theorem iff_ite {c : Prop} [Decidable c] {A B : Prop} {α : Type} {P : α → Prop} {a b : α} (h1 : c → (A ↔ P a)) (h2 : ¬ c → (B ↔ P b)) : (if c then A else B) ↔ P (if c then a else b) := by
  by_cases hc : c
  · rw [if_pos hc, if_pos hc]; exact h1 hc
  · rw [if_neg hc, if_neg hc]; exact h2 hc
theorem swt_c {f : Nat → Prop} {x : Int32} {t j df : Nat} {ts : List Nat} : s_sw f x (t :: ts) j df ↔ if x = nI j then f t else s_sw f x ts (j + 1) df := Iff.rfl
theorem swt_n {f : Nat → Prop} {x : Int32} {j df : Nat} : s_sw f x [] j df ↔ f df := Iff.rfl
theorem sum_shift {f : Nat → Nat} : ∀ k, sumN f (k + 1) = f 0 + sumN (fun j => f (j + 1)) k
  | 0 => by show 0 + f 0 = f 0 + 0; omega
  | k + 1 => by rw [sumN, sum_shift k, sumN]; omega
theorem sum_cong {f g : Nat → Nat} : ∀ {k}, (∀ i, i < k → f i = g i) → sumN f k = sumN g k
  | 0, _ => rfl
  | k + 1, h => by rw [sumN, sumN, sum_cong fun i hi => h i (by omega), h k (by omega)]
theorem cnt_sum {g : Nat → Bool} : ∀ n i x, cntF g n i x = x + sumN (fun j => (g (i + j)).toNat) n
  | 0, _, _ => rfl
  | n + 1, i, x => by
    rw [cntF, cnt_sum n, sum_shift]
    have e : sumN (fun j => (g (i + 1 + j)).toNat) n = sumN (fun j => (g (i + (j + 1))).toNat) n := sum_cong fun j _ => by rw [show i + 1 + j = i + (j + 1) by omega]
    rw [e]
    cases h : g i with
    | true => simp only [if_true, Nat.add_zero, h, Bool.toNat_true]; omega
    | false => simp only [Bool.false_eq_true, if_false, Nat.add_zero, h, Bool.toNat_false]; omega
theorem any_range {g : Nat → Bool} : ∀ n i x, anyF g n i x = (x || (List.range' i n).any g)
  | 0, i, x => by simp [anyF]
  | n + 1, i, x => by rw [anyF, any_range n, List.range'_succ, List.any_cons, Bool.or_assoc]
theorem sum_cut {g : Nat → Nat} {C : Nat} : ∀ k, C ≤ k → sumN (fun i => if i < C then g i else 0) k = sumN g C
  | 0, h => by rw [show C = 0 by omega]; rfl
  | k + 1, h => by
    by_cases e : C = k + 1
    · subst e
      exact sum_cong fun i hi => if_pos hi
    · rw [sumN, sum_cut k (by omega), if_neg (by omega)]; rfl
theorem pop_tb (n : Nat) : pop n = sumN (fun i => (n.testBit i).toNat) 8 := by
  have e : ∀ i, (n.testBit i).toNat = n / 2 ^ i % 2 := fun i => Nat.toNat_testBit n i
  unfold pop
  simp only [sumN, e, Nat.reducePow, Nat.div_one, Nat.zero_add]
theorem pop_bits8 {f : Nat → Bool} {C : Nat} (hC : C ≤ 8) : pop (bitsN f C) = sumN (fun c => (f c).toNat) C := by
  rw [pop_tb, ← sum_cut (g := fun c => (f c).toNat) 8 hC]
  refine sum_cong fun i _ => ?_
  rw [bitsN_tb]
  by_cases e : i < C
  · rw [decide_eq_true e, if_pos e, Bool.true_and]
  · rw [decide_eq_false e, if_neg e]; rfl
section Q1
variable {b d : Nat} {s s' : tS} {h : sH} {i x w c t m : Int32} {Q : sQ} {z : tQ} {n : tN}
theorem ix_0 : ixN x 0 = none := if_neg (fun q => absurd (Int32.lt_of_le_of_lt q.1 q.2) (by decide))
theorem ix_out {N : Nat} (h0 : 0 < N) (hN : N < 2 ^ 30) (h : ixN x N = none) : x < nI 0 ∨ (¬ x < nI 0 ∧ nI N ≤ x ∧ ¬ x < nI N ∧ nI (N - 1) < x ∧ ¬ x ≤ nI (N - 1)) := by
  have h1 := ix_none h
  by_cases h2 : x < nI 0
  · exact Or.inl h2
  · have h3 : ¬ x < nI N := fun q => h1 ⟨Int32.not_lt.mp h2, q⟩
    have h4 : ¬ x ≤ nI (N - 1) := fun q => h3 (by have := (le_lt (x := x) (k := N - 1) (by omega)).mp q; rwa [show N - 1 + 1 = N by omega] at this)
    exact Or.inr ⟨h2, Int32.not_lt.mp h3, h3, Int32.not_le.mp h4, h4⟩
def zC (z : tQ) : Nat := match zQ z with | none => 0 | some n => nF n 2
def zN (z : tQ) : Nat := match zQ z with | none => 0 | some n => nF n 3
theorem zC_0 (hq : zQ z = none) : zC z = 0 := by unfold zC; rw [hq]
theorem zC_s (hq : zQ z = some n) : zC z = nF n 2 := by unfold zC; rw [hq]
theorem zN_0 (hq : zQ z = none) : zN z = 0 := by unfold zN; rw [hq]
theorem zN_s (hq : zQ z = some n) : zN z = nF n 3 := by unfold zN; rw [hq]
theorem IC_y (hI : IC s z) (hq : zQ z = some n) : RY (SY s 24) n ∧ okQ n := by
  have h := hI.2.1
  rw [hq] at h
  exact h
theorem IC_0 (hI : IC s z) (hq : zQ z = none) : yC (SY s 24) = 0 ∧ yT (SY s 24) = 0 := by
  have h := hI.2.1
  rw [hq] at h
  exact h
theorem IC_C (hI : IC s z) : yC (SY s 24) = zC z := by
  cases hq : zQ z with
  | none => rw [zC_0 hq]; exact (IC_0 hI hq).1
  | some n => rw [zC_s hq]; exact (IC_y hI hq).1.1.2.2.1
theorem IC_T (hI : IC s z) : yT (SY s 24) = zN z := by
  cases hq : zQ z with
  | none => rw [zN_0 hq]; exact (IC_0 hI hq).2
  | some n => rw [zN_s hq]; exact (IC_y hI hq).1.1.2.2.2.1
theorem IC_C4 (hI : IC s z) : yC (SY s 24) ≤ 4 := by
  cases hq : zQ z with
  | none => rw [(IC_0 hI hq).1]; omega
  | some n => rw [(IC_y hI hq).1.1.2.2.1]; exact (IC_y hI hq).2.1.1.1
theorem q_has (hI : IC s z) : MT (d + 1) 128 [.ref 0] (pS s h) Q ↔ Q (some (.int (iB (zQ z).isSome))) (pS s h) := by
  rw [q_hasQuay (IC_C4 hI)]
  cases hq : zQ z with
  | none => rw [(IC_0 hI hq).1]; exact Iff.rfl
  | some n =>
    have h1 := (IC_y hI hq).2.2.1
    rw [decide_eq_true (show 0 < yC (SY s 24) by rw [(IC_y hI hq).1.1.2.2.1]; omega)]
    exact Iff.rfl
theorem q_isC (hI : IC s z) : MT (d + 1) 129 [.ref 0, .int x] (pS s h) Q ↔ Q (some (.int (iB (ixN x (zC z)).isSome))) (pS s h) := by rw [q_isCrane, IC_C hI]
theorem q_isT (hI : IC s z) : MT (d + 1) 130 [.ref 0, .int x] (pS s h) Q ↔ Q (some (.int (iB (ixN x (zN z)).isSome))) (pS s h) := by rw [q_isTask, IC_T hI]
theorem YS_bits (hs : okS (yP (SY s 24))) : MT (d + 1) 29 [.ref (24 + 13)] (pS s h) Q ↔ Q (some (.int (bitsP (yP (SY s 24))))) (pS s h) := tl_Y yb24 (fun h Q => Y_bits hs)
theorem YSP_ob : (oO (pS s h) (24 + 13) fun c' _ => c' = b) ↔ 3 = b := P'_ob (isP_YS yb24)
theorem q_rule (hI : IC s z) : MT (d + 4) 98 [.ref 0, .int w] (pS s h) Q ↔ Q (some (.int (zrule z w))) (pS s h) := by
  rw [MT_go (by decide) _ _ _ (Nat.le_of_ble_eq_true rfl), show s_entry 98 [.ref 0, .int w] = [.ref 0, .int w] from rfl]
  have e0 := fun Q => q_has (d := d + 2) (h := h) (Q := Q) hI
  unfold zrule
  cases hq : zQ z with
  | none =>
    simp (disch := omega) only [u_98_0, u_98_1, u_98_4, u_98_7, u_98_9, u_98_10, u_98_11, u_98_56, u_98_57, u_98_60, u_98_63, u_98_64, u_98_65, u_98_68, u_98_71, u_98_72, u_98_73, u_98_76, u_98_79, u_98_80, u_98_81, u_98_84, u_98_87, u_98_88, u_98_89, u_98_92, u_98_95, u_98_96, u_98_97, u_98_100, u_98_103, u_98_104, u_98_105, u_98_108, u_98_111, u_98_112, u_98_113, u_98_116, u_98_119, u_98_122, u_98_123, u_98_125, gI0, gIs, gR0, gRs, gF0, gFs, st0, st_i, st_r, st_f, st_n, st_s, true_and, and_true, ↓ifLeT, ↓ifLeF, ↓ifLtT, ↓ifLtF, ↓ifEqT, ↓ifEqF, if_tt, if_ff, if_pos, if_neg, nLe, nLt, nEq, nInT, nCl, pk_mul, nI_add, Nat.reduceAdd, s_cat_nil, s_cat_i, s_cat_r, s_cat_f, s_cat_l, tl_s, tl_n, cat_i, cat_r, cat_f, nb0, nb1, nbI, if_bI, if_bIr, Nat.zero_le, Nat.reduceLeDiff, S_ob0, S_ob239, e0, hq, Option.isSome, iBf]
    exact Iff.rfl
  | some n =>
    obtain ⟨hy, hok⟩ := IC_y hI hq
    have hs := RP_okS hok.1.1 hok.1.2.2.2 hy.2.2.2
    have hb := bitsP_rel hy.2.2.2 (fun c t h => wfL31 hok.1 c t h)
    obtain ⟨f0, f1, f2, f3, f4, f5, f6⟩ := hy.1
    have e1 := fun Q => YS_bits (d := d + 2) (h := h) (Q := Q) hs
    rw [hb] at e1
    simp (maxSteps := 2000000) (disch := omega) only [u_98_0, u_98_1, u_98_4, u_98_7, u_98_9, u_98_10, u_98_11, u_98_56, u_98_57, u_98_60, u_98_63, u_98_64, u_98_65, u_98_68, u_98_71, u_98_72, u_98_73, u_98_76, u_98_79, u_98_80, u_98_81, u_98_84, u_98_87, u_98_88, u_98_89, u_98_92, u_98_95, u_98_96, u_98_97, u_98_100, u_98_103, u_98_104, u_98_105, u_98_108, u_98_111, u_98_112, u_98_113, u_98_116, u_98_119, u_98_122, u_98_123, u_98_125, gI0, gIs, gR0, gRs, gF0, gFs, st0, st_i, st_r, st_f, st_n, st_s, true_and, and_true, ↓ifLeT, ↓ifLeF, ↓ifLtT, ↓ifLtF, ↓ifEqT, ↓ifEqF, if_tt, if_ff, if_pos, if_neg, nLe, nLt, nEq, nInT, nCl, pk_mul, nI_add, Nat.reduceAdd, s_cat_nil, s_cat_i, s_cat_r, s_cat_f, s_cat_l, tl_s, tl_n, cat_i, cat_r, cat_f, nb0, nb1, nbI, if_bI, if_bIr, Nat.zero_le, Nat.reduceLeDiff, S_ob0, S_ob239, S_g0_0, S_g0_1, S_g0_2, S_g0_3, S_g0_4, S_g0_5, S_g0_6, S_g0_7, S_g0_8, S_g0_9, S_g0_10, S_g0_11, S_g0_12, S_g0_13, S_g0_14, S_g1_0, S_g1_1, S_g1_2, S_g1_3, S_g1_4, S_g72_0, S_g72_1, S_g72_2, S_g239_0, S_g239_1, S_g239_2, S_g239_3, S_g239_4, S_g239_5, S_g239_6, S_a23, S_n23, S_a282, S_n282, S_a300, S_n300, S_n73, S_n299, Y'_ob (isY_S yb24), Y'_g0 (isY_S yb24), Y'_g1 (isY_S yb24), Y'_g2 (isY_S yb24), Y'_g3 (isY_S yb24), Y'_g4 (isY_S yb24), Y'_g5 (isY_S yb24), Y'_g6 (isY_S yb24), Y'_g7 (isY_S yb24), Y'_g8 (isY_S yb24), Y'_g9 (isY_S yb24), Y'_g10 (isY_S yb24), Y'_g11 (isY_S yb24), Y'_g12 (isY_S yb24), Y'_g13 (isY_S yb24), Y'_g14 (isY_S yb24), Y'_g15 (isY_S yb24), Y'_g16 (isY_S yb24), Y'_g17 (isY_S yb24), Y'_g18 (isY_S yb24), Y'_g19 (isY_S yb24), Y'_a7 (isY_S yb24), Y'_a8 (isY_S yb24), Y'_a10 (isY_S yb24), Y'_a11 (isY_S yb24), Y'_a12 (isY_S yb24), Y'_a13 (isY_S yb24), Y'_a14 (isY_S yb24), Y'_a15 (isY_S yb24), Y'_a16 (isY_S yb24), Y'_a17 (isY_S yb24), Y'_a18 (isY_S yb24), Y'_sw (isY_S yb24), e0, hq, Option.isSome, iBt, nI10, reduceIte, swt_c, swt_n, YSP_ob, e1, f0, f1, f2, f3, f4, f5, f6]
    refine iff_ite (P := fun v => Q (some (.int v)) (pS s h)) (fun _ => Iff.rfl) fun _ => iff_ite (P := fun v => Q (some (.int v)) (pS s h)) (fun _ => Iff.rfl) fun _ => iff_ite (P := fun v => Q (some (.int v)) (pS s h)) (fun _ => Iff.rfl) fun _ => iff_ite (P := fun v => Q (some (.int v)) (pS s h)) (fun _ => Iff.rfl) fun _ => iff_ite (P := fun v => Q (some (.int v)) (pS s h)) (fun _ => Iff.rfl) fun _ => iff_ite (P := fun v => Q (some (.int v)) (pS s h)) (fun _ => Iff.rfl) fun _ => iff_ite (P := fun v => Q (some (.int v)) (pS s h)) (fun _ => Iff.rfl) fun _ => iff_ite (P := fun v => Q (some (.int v)) (pS s h)) (fun _ => Iff.rfl) fun _ => Iff.rfl
theorem q_last (hI : IC s z) (K : ∀ s', IC s' z → Q (some (.int (zlast z))) (pS s' h)) : MT (d + 5) 101 [.ref 0] (pS s h) Q := by
  rw [MT_go (by decide) _ _ _ (Nat.le_of_ble_eq_true rfl), show s_entry 101 [.ref 0] = [.ref 0] from rfl]
  have e0 := fun Q => q_has (d := d + 3) (h := h) (Q := Q) hI
  unfold zlast at K
  cases hq : zQ z with
  | none =>
    simp only [hq] at K
    simp (disch := omega) only [u_101_0, u_101_1, u_101_4, u_101_7, u_101_8, u_101_11, u_101_14, u_101_17, u_101_19, gI0, gIs, gR0, gRs, gF0, gFs, st0, st_i, st_r, st_f, st_n, st_s, true_and, and_true, ↓ifLeT, ↓ifLeF, ↓ifLtT, ↓ifLtF, ↓ifEqT, ↓ifEqF, if_tt, if_ff, if_pos, if_neg, nLe, nLt, nEq, nInT, nCl, pk_mul, nI_add, Nat.reduceAdd, s_cat_nil, s_cat_i, s_cat_r, s_cat_f, s_cat_l, tl_s, tl_n, cat_i, cat_r, cat_f, nb0, nb1, nbI, if_bI, if_bIr, Nat.zero_le, Nat.reduceLeDiff, S_ob0, S_ob239, e0, hq, Option.isSome, iBf]
    exact K s hI
  | some n =>
    simp only [hq] at K
    simp (disch := omega) only [u_101_0, u_101_1, u_101_4, u_101_7, u_101_8, u_101_11, u_101_14, u_101_17, u_101_19, gI0, gIs, gR0, gRs, gF0, gFs, st0, st_i, st_r, st_f, st_n, st_s, true_and, and_true, ↓ifLeT, ↓ifLeF, ↓ifLtT, ↓ifLtF, ↓ifEqT, ↓ifEqF, if_tt, if_ff, if_pos, if_neg, nLe, nLt, nEq, nInT, nCl, pk_mul, nI_add, Nat.reduceAdd, s_cat_nil, s_cat_i, s_cat_r, s_cat_f, s_cat_l, tl_s, tl_n, cat_i, cat_r, cat_f, nb0, nb1, nbI, if_bI, if_bIr, Nat.zero_le, Nat.reduceLeDiff, S_ob0, S_ob239, e0, hq, Option.isSome, iBt, nI10, reduceIte]
    refine q_ahead hI hq fun s' hI' hc => ?_
    simp (disch := omega) only [u_101_0, u_101_1, u_101_4, u_101_7, u_101_8, u_101_11, u_101_14, u_101_17, u_101_19, gI0, gIs, gR0, gRs, gF0, gFs, st0, st_i, st_r, st_f, st_n, st_s, true_and, and_true, ↓ifLeT, ↓ifLeF, ↓ifLtT, ↓ifLtF, ↓ifEqT, ↓ifEqF, if_tt, if_ff, if_pos, if_neg, nLe, nLt, nEq, nInT, nCl, pk_mul, nI_add, Nat.reduceAdd, s_cat_nil, s_cat_i, s_cat_r, s_cat_f, s_cat_l, tl_s, tl_n, cat_i, cat_r, cat_f, nb0, nb1, nbI, if_bI, if_bIr, Nat.zero_le, Nat.reduceLeDiff, S_ob0, S_ob239, K_g4]
    rw [hc.2.2.2, ← over_last]
    exact K s' hI'
theorem q_where (hI : IC s z) (K : ∀ s', IC s' z → Q (some (.int (zwhere z c m))) (pS s' h)) : MT (d + 5) 102 [.ref 0, .int c, .int m] (pS s h) Q := by
  rw [MT_go (by decide) _ _ _ (Nat.le_of_ble_eq_true rfl), show s_entry 102 [.ref 0, .int c, .int m] = [.ref 0, .int c, .int m] from rfl]
  have e1 := fun Q => q_isC (d := d + 3) (h := h) (Q := Q) (x := c) hI
  have e2 := fun Q => q_isSpan (d := d + 3) (s := s) (h := h) (Q := Q) (x := m)
  unfold zwhere at K
  cases hq : zQ z with
  | none =>
    simp only [hq] at K
    rw [zC_0 hq, ix_0] at e1
    simp (disch := omega) only [u_102_0, u_102_1, u_102_2, u_102_5, u_102_8, u_102_9, u_102_10, u_102_13, u_102_16, u_102_17, u_102_20, u_102_21, u_102_22, u_102_25, u_102_28, u_102_29, gI0, gIs, gR0, gRs, gF0, gFs, st0, st_i, st_r, st_f, st_n, st_s, true_and, and_true, ↓ifLeT, ↓ifLeF, ↓ifLtT, ↓ifLtF, ↓ifEqT, ↓ifEqF, if_tt, if_ff, if_pos, if_neg, nLe, nLt, nEq, nInT, nCl, pk_mul, nI_add, Nat.reduceAdd, s_cat_nil, s_cat_i, s_cat_r, s_cat_f, s_cat_l, tl_s, tl_n, cat_i, cat_r, cat_f, nb0, nb1, nbI, if_bI, if_bIr, Nat.zero_le, Nat.reduceLeDiff, S_ob0, S_ob239, e1, Option.isSome, iBf]
    exact K s hI
  | some n =>
    simp only [hq] at K
    rw [zC_s hq] at e1
    obtain ⟨hy, hok⟩ := IC_y hI hq
    have h4 := hok.1.1.1
    cases h1 : ixN c (nF n 2) with
    | none =>
      rw [h1] at e1
      simp only [h1] at K
      simp (disch := omega) only [u_102_0, u_102_1, u_102_2, u_102_5, u_102_8, u_102_9, u_102_10, u_102_13, u_102_16, u_102_17, u_102_20, u_102_21, u_102_22, u_102_25, u_102_28, u_102_29, gI0, gIs, gR0, gRs, gF0, gFs, st0, st_i, st_r, st_f, st_n, st_s, true_and, and_true, ↓ifLeT, ↓ifLeF, ↓ifLtT, ↓ifLtF, ↓ifEqT, ↓ifEqF, if_tt, if_ff, if_pos, if_neg, nLe, nLt, nEq, nInT, nCl, pk_mul, nI_add, Nat.reduceAdd, s_cat_nil, s_cat_i, s_cat_r, s_cat_f, s_cat_l, tl_s, tl_n, cat_i, cat_r, cat_f, nb0, nb1, nbI, if_bI, if_bIr, Nat.zero_le, Nat.reduceLeDiff, S_ob0, S_ob239, e1, Option.isSome, iBf]
      exact K s hI
    | some j =>
      cases h2 : ixN m 301 with
      | none =>
        rw [h1] at e1
        rw [h2] at e2
        simp only [h1, h2] at K
        simp (disch := omega) only [u_102_0, u_102_1, u_102_2, u_102_5, u_102_8, u_102_9, u_102_10, u_102_13, u_102_16, u_102_17, u_102_20, u_102_21, u_102_22, u_102_25, u_102_28, u_102_29, gI0, gIs, gR0, gRs, gF0, gFs, st0, st_i, st_r, st_f, st_n, st_s, true_and, and_true, ↓ifLeT, ↓ifLeF, ↓ifLtT, ↓ifLtF, ↓ifEqT, ↓ifEqF, if_tt, if_ff, if_pos, if_neg, nLe, nLt, nEq, nInT, nCl, pk_mul, nI_add, Nat.reduceAdd, s_cat_nil, s_cat_i, s_cat_r, s_cat_f, s_cat_l, tl_s, tl_n, cat_i, cat_r, cat_f, nb0, nb1, nbI, if_bI, if_bIr, Nat.zero_le, Nat.reduceLeDiff, S_ob0, S_ob239, e1, e2, Option.isSome, iBt, iBf, nI10, reduceIte]
        exact K s hI
      | some k =>
        rw [h1] at e1
        rw [h2] at e2
        simp only [h1, h2] at K
        simp (disch := omega) only [u_102_0, u_102_1, u_102_2, u_102_5, u_102_8, u_102_9, u_102_10, u_102_13, u_102_16, u_102_17, u_102_20, u_102_21, u_102_22, u_102_25, u_102_28, u_102_29, gI0, gIs, gR0, gRs, gF0, gFs, st0, st_i, st_r, st_f, st_n, st_s, true_and, and_true, ↓ifLeT, ↓ifLeF, ↓ifLtT, ↓ifLtF, ↓ifEqT, ↓ifEqF, if_tt, if_ff, if_pos, if_neg, nLe, nLt, nEq, nInT, nCl, pk_mul, nI_add, Nat.reduceAdd, s_cat_nil, s_cat_i, s_cat_r, s_cat_f, s_cat_l, tl_s, tl_n, cat_i, cat_r, cat_f, nb0, nb1, nbI, if_bI, if_bIr, Nat.zero_le, Nat.reduceLeDiff, S_ob0, S_ob239, e1, e2, Option.isSome, iBt, nI10, reduceIte]
        refine q_ahead hI hq fun s' hI' hc => ?_
        obtain ⟨j1, rfl⟩ := ix_some (by omega) h1
        obtain ⟨k1, rfl⟩ := ix_some (by omega) h2
        have e3 := fun Q => tl_Co (s := s') (h := h) (Q := Q) fun h Q => m_bayAt (d := d + 3) (b := 234) (c := SO s' 234) (q := j) (m := k) (h := h) (Q := Q) (by omega) (by omega)
        simp (disch := omega) only [u_102_0, u_102_1, u_102_2, u_102_5, u_102_8, u_102_9, u_102_10, u_102_13, u_102_16, u_102_17, u_102_20, u_102_21, u_102_22, u_102_25, u_102_28, u_102_29, gI0, gIs, gR0, gRs, gF0, gFs, st0, st_i, st_r, st_f, st_n, st_s, true_and, and_true, ↓ifLeT, ↓ifLeF, ↓ifLtT, ↓ifLtF, ↓ifEqT, ↓ifEqF, if_tt, if_ff, if_pos, if_neg, nLe, nLt, nEq, nInT, nCl, pk_mul, nI_add, Nat.reduceAdd, s_cat_nil, s_cat_i, s_cat_r, s_cat_f, s_cat_l, tl_s, tl_n, cat_i, cat_r, cat_f, nb0, nb1, nbI, if_bI, if_bIr, Nat.zero_le, Nat.reduceLeDiff, S_ob0, S_ob239, K_ob, e3]
        rw [(hc.1 k j k1 j1).1]
        exact K s' hI'
theorem q_deed (hI : IC s z) (K : ∀ s', IC s' z → Q (some (.int (zdeed z c m))) (pS s' h)) : MT (d + 5) 103 [.ref 0, .int c, .int m] (pS s h) Q := by
  rw [MT_go (by decide) _ _ _ (Nat.le_of_ble_eq_true rfl), show s_entry 103 [.ref 0, .int c, .int m] = [.ref 0, .int c, .int m] from rfl]
  have e1 := fun Q => q_isC (d := d + 3) (h := h) (Q := Q) (x := c) hI
  have e2 := fun Q => q_isSpan (d := d + 3) (s := s) (h := h) (Q := Q) (x := m)
  unfold zdeed at K
  cases hq : zQ z with
  | none =>
    simp only [hq] at K
    rw [zC_0 hq, ix_0] at e1
    simp (disch := omega) only [u_103_0, u_103_1, u_103_2, u_103_5, u_103_8, u_103_9, u_103_10, u_103_13, u_103_16, u_103_17, u_103_20, u_103_23, u_103_24, u_103_27, u_103_28, u_103_29, u_103_32, u_103_35, u_103_36, gI0, gIs, gR0, gRs, gF0, gFs, st0, st_i, st_r, st_f, st_n, st_s, true_and, and_true, ↓ifLeT, ↓ifLeF, ↓ifLtT, ↓ifLtF, ↓ifEqT, ↓ifEqF, if_tt, if_ff, if_pos, if_neg, nLe, nLt, nEq, nInT, nCl, pk_mul, nI_add, Nat.reduceAdd, s_cat_nil, s_cat_i, s_cat_r, s_cat_f, s_cat_l, tl_s, tl_n, cat_i, cat_r, cat_f, nb0, nb1, nbI, if_bI, if_bIr, Nat.zero_le, Nat.reduceLeDiff, S_ob0, S_ob239, e1, Option.isSome, iBf]
    exact K s hI
  | some n =>
    simp only [hq] at K
    rw [zC_s hq] at e1
    obtain ⟨hy, hok⟩ := IC_y hI hq
    have h4 := hok.1.1.1
    cases h1 : ixN c (nF n 2) with
    | none =>
      rw [h1] at e1
      simp only [h1] at K
      simp (disch := omega) only [u_103_0, u_103_1, u_103_2, u_103_5, u_103_8, u_103_9, u_103_10, u_103_13, u_103_16, u_103_17, u_103_20, u_103_23, u_103_24, u_103_27, u_103_28, u_103_29, u_103_32, u_103_35, u_103_36, gI0, gIs, gR0, gRs, gF0, gFs, st0, st_i, st_r, st_f, st_n, st_s, true_and, and_true, ↓ifLeT, ↓ifLeF, ↓ifLtT, ↓ifLtF, ↓ifEqT, ↓ifEqF, if_tt, if_ff, if_pos, if_neg, nLe, nLt, nEq, nInT, nCl, pk_mul, nI_add, Nat.reduceAdd, s_cat_nil, s_cat_i, s_cat_r, s_cat_f, s_cat_l, tl_s, tl_n, cat_i, cat_r, cat_f, nb0, nb1, nbI, if_bI, if_bIr, Nat.zero_le, Nat.reduceLeDiff, S_ob0, S_ob239, e1, Option.isSome, iBf]
      exact K s hI
    | some j =>
      cases h2 : ixN m 301 with
      | none =>
        rw [h1] at e1
        rw [h2] at e2
        have h3 : ixN m 300 = none := by
          cases h3 : ixN m 300 with
          | none => rfl
          | some k =>
            obtain ⟨k1, rfl⟩ := ix_some (by omega) h3
            rw [ix_nI (by omega) (by omega)] at h2
            cases h2
        simp only [h1, h3] at K
        simp (disch := omega) only [u_103_0, u_103_1, u_103_2, u_103_5, u_103_8, u_103_9, u_103_10, u_103_13, u_103_16, u_103_17, u_103_20, u_103_23, u_103_24, u_103_27, u_103_28, u_103_29, u_103_32, u_103_35, u_103_36, gI0, gIs, gR0, gRs, gF0, gFs, st0, st_i, st_r, st_f, st_n, st_s, true_and, and_true, ↓ifLeT, ↓ifLeF, ↓ifLtT, ↓ifLtF, ↓ifEqT, ↓ifEqF, if_tt, if_ff, if_pos, if_neg, nLe, nLt, nEq, nInT, nCl, pk_mul, nI_add, Nat.reduceAdd, s_cat_nil, s_cat_i, s_cat_r, s_cat_f, s_cat_l, tl_s, tl_n, cat_i, cat_r, cat_f, nb0, nb1, nbI, if_bI, if_bIr, Nat.zero_le, Nat.reduceLeDiff, S_ob0, S_ob239, e1, e2, Option.isSome, iBt, iBf, nI10, reduceIte]
        exact K s hI
      | some k =>
        rw [h1] at e1
        rw [h2] at e2
        obtain ⟨j1, rfl⟩ := ix_some (by omega) h1
        obtain ⟨k1, rfl⟩ := ix_some (by omega) h2
        by_cases hk : k < 300
        · simp only [h1, ix_nI hk (show 300 < 2 ^ 31 by decide)] at K
          simp (disch := omega) only [u_103_0, u_103_1, u_103_2, u_103_5, u_103_8, u_103_9, u_103_10, u_103_13, u_103_16, u_103_17, u_103_20, u_103_23, u_103_24, u_103_27, u_103_28, u_103_29, u_103_32, u_103_35, u_103_36, gI0, gIs, gR0, gRs, gF0, gFs, st0, st_i, st_r, st_f, st_n, st_s, true_and, and_true, ↓ifLeT, ↓ifLeF, ↓ifLtT, ↓ifLtF, ↓ifEqT, ↓ifEqF, if_tt, if_ff, if_pos, if_neg, nLe, nLt, nEq, nInT, nCl, pk_mul, nI_add, Nat.reduceAdd, s_cat_nil, s_cat_i, s_cat_r, s_cat_f, s_cat_l, tl_s, tl_n, cat_i, cat_r, cat_f, nb0, nb1, nbI, if_bI, if_bIr, Nat.zero_le, Nat.reduceLeDiff, S_ob0, S_ob239, e1, e2, Option.isSome, iBt, nI10, reduceIte]
          refine q_ahead hI hq fun s' hI' hc => ?_
          have e3 := fun Q => tl_Co (s := s') (h := h) (Q := Q) fun h Q => m_deedAt (d := d + 3) (b := 234) (c := SO s' 234) (q := j) (m := k) (h := h) (Q := Q) (by omega) (by omega)
          simp (disch := omega) only [u_103_0, u_103_1, u_103_2, u_103_5, u_103_8, u_103_9, u_103_10, u_103_13, u_103_16, u_103_17, u_103_20, u_103_23, u_103_24, u_103_27, u_103_28, u_103_29, u_103_32, u_103_35, u_103_36, gI0, gIs, gR0, gRs, gF0, gFs, st0, st_i, st_r, st_f, st_n, st_s, true_and, and_true, ↓ifLeT, ↓ifLeF, ↓ifLtT, ↓ifLtF, ↓ifEqT, ↓ifEqF, if_tt, if_ff, if_pos, if_neg, nLe, nLt, nEq, nInT, nCl, pk_mul, nI_add, Nat.reduceAdd, s_cat_nil, s_cat_i, s_cat_r, s_cat_f, s_cat_l, tl_s, tl_n, cat_i, cat_r, cat_f, nb0, nb1, nbI, if_bI, if_bIr, Nat.zero_le, Nat.reduceLeDiff, S_ob0, S_ob239, K_ob, e3]
          rw [hc.2.1 k j hk j1]
          exact K s' hI'
        · have h3 : ixN (nI k) 300 = none := by
            cases h3 : ixN (nI k) 300 with
            | none => rfl
            | some q =>
              obtain ⟨k2, e⟩ := ix_some (by omega) h3
              have := (nI_eq (by omega) (by omega)).mp e
              omega
          simp only [h1, h3] at K
          simp (disch := omega) only [u_103_0, u_103_1, u_103_2, u_103_5, u_103_8, u_103_9, u_103_10, u_103_13, u_103_16, u_103_17, u_103_20, u_103_23, u_103_24, u_103_27, u_103_28, u_103_29, u_103_32, u_103_35, u_103_36, gI0, gIs, gR0, gRs, gF0, gFs, st0, st_i, st_r, st_f, st_n, st_s, true_and, and_true, ↓ifLeT, ↓ifLeF, ↓ifLtT, ↓ifLtF, ↓ifEqT, ↓ifEqF, if_tt, if_ff, if_pos, if_neg, nLe, nLt, nEq, nInT, nCl, pk_mul, nI_add, Nat.reduceAdd, s_cat_nil, s_cat_i, s_cat_r, s_cat_f, s_cat_l, tl_s, tl_n, cat_i, cat_r, cat_f, nb0, nb1, nbI, if_bI, if_bIr, Nat.zero_le, Nat.reduceLeDiff, S_ob0, S_ob239, e1, e2, Option.isSome, iBt, nI10, reduceIte]
          exact K s hI
end Q1
