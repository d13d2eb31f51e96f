/-! the class's calls: what is asked, on -/
theorem iter_cg {α : Type} {P : α → Prop} {f g : Nat → α → α} {N : Nat} (H : ∀ i x, i < N → P x → f i x = g i x ∧ P (f i x)) : ∀ m i x, i + m = N → P x → iter f i m x = iter g i m x
  | 0, _, _, _, _ => rfl
  | m + 1, i, x, hi, hx => by
    obtain ⟨h1, h2⟩ := H i x (by omega) hx
    rw [iter, iter, ← h1]
    exact iter_cg H m (i + 1) _ (by omega) h2
section Q2
variable {b d : Nat} {s s' : tS} {h : sH} {i x w c t m : Int32} {Q : sQ} {z : tQ} {n : tN} {y : tY}
theorem q_deeds (hI : IC s z) (K : ∀ s', IC s' z → Q (some (.int (zdeeds z c m w))) (pS s' h)) : MT (d + 5) 104 [.ref 0, .int c, .int m, .int w] (pS s h) Q := by
  rw [MT_go (by decide) _ _ _ (Nat.le_of_ble_eq_true rfl), show s_entry 104 [.ref 0, .int c, .int m, .int w] = [.ref 0, .int c, .int m, .int w] from rfl]
  have e1 := fun Q => q_isC (d := d + 3) (h := h) (Q := Q) (x := c) hI
  have e2 := fun Q => q_isSpan (d := d + 3) (s := s) (h := h) (Q := Q) (x := m)
  unfold zdeeds at K
  cases hq : zQ z with
  | none =>
    simp only [hq] at K
    rw [zC_0 hq, ix_0] at e1
    simp (disch := omega) only [u_104_0, u_104_1, u_104_2, u_104_5, u_104_8, u_104_9, u_104_10, u_104_13, u_104_16, u_104_17, u_104_20, u_104_21, u_104_22, u_104_25, u_104_26, u_104_27, u_104_28, u_104_31, u_104_32, u_104_33, u_104_34, u_104_37, gI0, gIs, gR0, gRs, gF0, gFs, st0, st_i, st_r, st_f, st_n, st_s, true_and, and_true, ↓ifLeT, ↓ifLeF, ↓ifLtT, ↓ifLtF, ↓ifEqT, ↓ifEqF, if_tt, if_ff, if_pos, if_neg, nLe, nLt, nEq, nInT, nCl, pk_mul, nI_add, Nat.reduceAdd, s_cat_nil, s_cat_i, s_cat_r, s_cat_f, s_cat_l, tl_s, tl_n, cat_i, cat_r, cat_f, nb0, nb1, nbI, if_bI, if_bIr, Nat.zero_le, Nat.reduceLeDiff, S_ob0, S_ob239, e1, Option.isSome, iBf]
    exact K s hI
  | some n =>
    simp only [hq] at K
    rw [zC_s hq] at e1
    obtain ⟨hy, hok⟩ := IC_y hI hq
    have h4 := hok.1.1.1
    cases h1 : ixN c (nF n 2) with
    | none =>
      rw [h1] at e1
      simp only [h1] at K
      simp (disch := omega) only [u_104_0, u_104_1, u_104_2, u_104_5, u_104_8, u_104_9, u_104_10, u_104_13, u_104_16, u_104_17, u_104_20, u_104_21, u_104_22, u_104_25, u_104_26, u_104_27, u_104_28, u_104_31, u_104_32, u_104_33, u_104_34, u_104_37, gI0, gIs, gR0, gRs, gF0, gFs, st0, st_i, st_r, st_f, st_n, st_s, true_and, and_true, ↓ifLeT, ↓ifLeF, ↓ifLtT, ↓ifLtF, ↓ifEqT, ↓ifEqF, if_tt, if_ff, if_pos, if_neg, nLe, nLt, nEq, nInT, nCl, pk_mul, nI_add, Nat.reduceAdd, s_cat_nil, s_cat_i, s_cat_r, s_cat_f, s_cat_l, tl_s, tl_n, cat_i, cat_r, cat_f, nb0, nb1, nbI, if_bI, if_bIr, Nat.zero_le, Nat.reduceLeDiff, S_ob0, S_ob239, e1, Option.isSome, iBf]
      exact K s hI
    | some j =>
      rw [h1] at e1
      simp only [h1] at K
      cases h2 : ixN m 301 with
      | none =>
        rw [h2] at e2
        simp only [h2] at K
        simp (disch := omega) only [u_104_0, u_104_1, u_104_2, u_104_5, u_104_8, u_104_9, u_104_10, u_104_13, u_104_16, u_104_17, u_104_20, u_104_21, u_104_22, u_104_25, u_104_26, u_104_27, u_104_28, u_104_31, u_104_32, u_104_33, u_104_34, u_104_37, gI0, gIs, gR0, gRs, gF0, gFs, st0, st_i, st_r, st_f, st_n, st_s, true_and, and_true, ↓ifLeT, ↓ifLeF, ↓ifLtT, ↓ifLtF, ↓ifEqT, ↓ifEqF, if_tt, if_ff, if_pos, if_neg, nLe, nLt, nEq, nInT, nCl, pk_mul, nI_add, Nat.reduceAdd, s_cat_nil, s_cat_i, s_cat_r, s_cat_f, s_cat_l, tl_s, tl_n, cat_i, cat_r, cat_f, nb0, nb1, nbI, if_bI, if_bIr, Nat.zero_le, Nat.reduceLeDiff, S_ob0, S_ob239, e1, e2, Option.isSome, iBt, iBf, nI10, reduceIte]
        exact K s hI
      | some k =>
        rw [h2] at e2
        simp only [h2] at K
        cases h3 : ixN w 5 with
        | none =>
          simp only [h3] at K
          rcases ix_out (by decide) (by decide) h3 with a | ⟨a, -, -, b1, b2⟩
          · simp (disch := omega) only [u_104_0, u_104_1, u_104_2, u_104_5, u_104_8, u_104_9, u_104_10, u_104_13, u_104_16, u_104_17, u_104_20, u_104_21, u_104_22, u_104_25, u_104_26, u_104_27, u_104_28, u_104_31, u_104_32, u_104_33, u_104_34, u_104_37, gI0, gIs, gR0, gRs, gF0, gFs, st0, st_i, st_r, st_f, st_n, st_s, true_and, and_true, ↓ifLeT, ↓ifLeF, ↓ifLtT, ↓ifLtF, ↓ifEqT, ↓ifEqF, if_tt, if_ff, if_pos, if_neg, nLe, nLt, nEq, nInT, nCl, pk_mul, nI_add, Nat.reduceAdd, s_cat_nil, s_cat_i, s_cat_r, s_cat_f, s_cat_l, tl_s, tl_n, cat_i, cat_r, cat_f, nb0, nb1, nbI, if_bI, if_bIr, Nat.zero_le, Nat.reduceLeDiff, S_ob0, S_ob239, e1, e2, Option.isSome, iBt, nI10, reduceIte, a]
            exact K s hI
          · have b2 : ¬ w ≤ nI 4 := b2
            simp (disch := omega) only [u_104_0, u_104_1, u_104_2, u_104_5, u_104_8, u_104_9, u_104_10, u_104_13, u_104_16, u_104_17, u_104_20, u_104_21, u_104_22, u_104_25, u_104_26, u_104_27, u_104_28, u_104_31, u_104_32, u_104_33, u_104_34, u_104_37, gI0, gIs, gR0, gRs, gF0, gFs, st0, st_i, st_r, st_f, st_n, st_s, true_and, and_true, ↓ifLeT, ↓ifLeF, ↓ifLtT, ↓ifLtF, ↓ifEqT, ↓ifEqF, if_tt, if_ff, if_pos, if_neg, nLe, nLt, nEq, nInT, nCl, pk_mul, nI_add, Nat.reduceAdd, s_cat_nil, s_cat_i, s_cat_r, s_cat_f, s_cat_l, tl_s, tl_n, cat_i, cat_r, cat_f, nb0, nb1, nbI, if_bI, if_bIr, Nat.zero_le, Nat.reduceLeDiff, S_ob0, S_ob239, e1, e2, Option.isSome, iBt, nI10, reduceIte, a, b2]
            exact K s hI
        | some v =>
          simp only [h3] at K
          obtain ⟨j1, rfl⟩ := ix_some (by omega) h1
          obtain ⟨k1, rfl⟩ := ix_some (by omega) h2
          obtain ⟨v1, rfl⟩ := ix_some (by omega) h3
          simp (disch := omega) only [u_104_0, u_104_1, u_104_2, u_104_5, u_104_8, u_104_9, u_104_10, u_104_13, u_104_16, u_104_17, u_104_20, u_104_21, u_104_22, u_104_25, u_104_26, u_104_27, u_104_28, u_104_31, u_104_32, u_104_33, u_104_34, u_104_37, gI0, gIs, gR0, gRs, gF0, gFs, st0, st_i, st_r, st_f, st_n, st_s, true_and, and_true, ↓ifLeT, ↓ifLeF, ↓ifLtT, ↓ifLtF, ↓ifEqT, ↓ifEqF, if_tt, if_ff, if_pos, if_neg, nLe, nLt, nEq, nInT, nCl, pk_mul, nI_add, Nat.reduceAdd, s_cat_nil, s_cat_i, s_cat_r, s_cat_f, s_cat_l, tl_s, tl_n, cat_i, cat_r, cat_f, nb0, nb1, nbI, if_bI, if_bIr, Nat.zero_le, Nat.reduceLeDiff, S_ob0, S_ob239, e1, e2, Option.isSome, iBt, nI10, reduceIte]
          refine q_ahead hI hq fun s' hI' hc => ?_
          have e3 := fun Q => tl_Co (s := s') (h := h) (Q := Q) fun h Q => m_deedsOf (d := d + 2) (b := 234) (c := SO s' 234) (q := j) (N := k) (w := nI v) (h := h) (Q := Q) (by omega) (by omega)
          rw [cnt_sum, Nat.zero_add] at e3
          have e4 : sumN (fun q => (decide (eA (SO s' 234) 2 ((0 + q) * 4 + j) = nI v)).toNat) k = sumN (fun i => (decide (nDeed (runN i n) j = v)).toNat) k := sum_cong fun q hq => by
            have l := jN_le (jN_mid (wf_run hok.1 q).2.1) (c := j) (by rw [run_F (by decide)]; exact j1)
            have l : nDeed (runN q n) j ≤ 4 := l
            rw [Nat.zero_add, hc.2.1 q j (by omega) j1]
            congr 1
            exact decide_eq_decide.mpr (nI_eq (by omega) (by omega))
          rw [e4] at e3
          simp (disch := omega) only [u_104_0, u_104_1, u_104_2, u_104_5, u_104_8, u_104_9, u_104_10, u_104_13, u_104_16, u_104_17, u_104_20, u_104_21, u_104_22, u_104_25, u_104_26, u_104_27, u_104_28, u_104_31, u_104_32, u_104_33, u_104_34, u_104_37, gI0, gIs, gR0, gRs, gF0, gFs, st0, st_i, st_r, st_f, st_n, st_s, true_and, and_true, ↓ifLeT, ↓ifLeF, ↓ifLtT, ↓ifLtF, ↓ifEqT, ↓ifEqF, if_tt, if_ff, if_pos, if_neg, nLe, nLt, nEq, nInT, nCl, pk_mul, nI_add, Nat.reduceAdd, s_cat_nil, s_cat_i, s_cat_r, s_cat_f, s_cat_l, tl_s, tl_n, cat_i, cat_r, cat_f, nb0, nb1, nbI, if_bI, if_bIr, Nat.zero_le, Nat.reduceLeDiff, S_ob0, S_ob239, K_ob, e3]
          exact K s' hI'
theorem q_doneBy (hI : IC s z) (K : ∀ s', IC s' z → Q (some (.int (zdoneBy z t))) (pS s' h)) : MT (d + 5) 105 [.ref 0, .int t] (pS s h) Q := by
  rw [MT_go (by decide) _ _ _ (Nat.le_of_ble_eq_true rfl), show s_entry 105 [.ref 0, .int t] = [.ref 0, .int t] from rfl]
  have e1 := fun Q => q_isT (d := d + 3) (h := h) (Q := Q) (x := t) hI
  unfold zdoneBy at K
  cases hq : zQ z with
  | none =>
    simp only [hq] at K
    rw [zN_0 hq, ix_0] at e1
    simp (disch := omega) only [u_105_0, u_105_1, u_105_2, u_105_5, u_105_8, u_105_9, u_105_12, u_105_15, u_105_16, u_105_17, u_105_20, u_105_21, gI0, gIs, gR0, gRs, gF0, gFs, st0, st_i, st_r, st_f, st_n, st_s, true_and, and_true, ↓ifLeT, ↓ifLeF, ↓ifLtT, ↓ifLtF, ↓ifEqT, ↓ifEqF, if_tt, if_ff, if_pos, if_neg, nLe, nLt, nEq, nInT, nCl, pk_mul, nI_add, Nat.reduceAdd, s_cat_nil, s_cat_i, s_cat_r, s_cat_f, s_cat_l, tl_s, tl_n, cat_i, cat_r, cat_f, nb0, nb1, nbI, if_bI, if_bIr, Nat.zero_le, Nat.reduceLeDiff, S_ob0, S_ob239, e1, Option.isSome, iBf]
    exact K s hI
  | some n =>
    simp only [hq] at K
    rw [zN_s hq] at e1
    obtain ⟨hy, hok⟩ := IC_y hI hq
    have h8 := hok.1.1.2.1
    cases h1 : ixN t (nF n 3) with
    | none =>
      rw [h1] at e1
      simp only [h1] at K
      simp (disch := omega) only [u_105_0, u_105_1, u_105_2, u_105_5, u_105_8, u_105_9, u_105_12, u_105_15, u_105_16, u_105_17, u_105_20, u_105_21, gI0, gIs, gR0, gRs, gF0, gFs, st0, st_i, st_r, st_f, st_n, st_s, true_and, and_true, ↓ifLeT, ↓ifLeF, ↓ifLtT, ↓ifLtF, ↓ifEqT, ↓ifEqF, if_tt, if_ff, if_pos, if_neg, nLe, nLt, nEq, nInT, nCl, pk_mul, nI_add, Nat.reduceAdd, s_cat_nil, s_cat_i, s_cat_r, s_cat_f, s_cat_l, tl_s, tl_n, cat_i, cat_r, cat_f, nb0, nb1, nbI, if_bI, if_bIr, Nat.zero_le, Nat.reduceLeDiff, S_ob0, S_ob239, e1, Option.isSome, iBf]
      exact K s hI
    | some j =>
      rw [h1] at e1
      simp only [h1] at K
      obtain ⟨j1, rfl⟩ := ix_some (by omega) h1
      simp (disch := omega) only [u_105_0, u_105_1, u_105_2, u_105_5, u_105_8, u_105_9, u_105_12, u_105_15, u_105_16, u_105_17, u_105_20, u_105_21, gI0, gIs, gR0, gRs, gF0, gFs, st0, st_i, st_r, st_f, st_n, st_s, true_and, and_true, ↓ifLeT, ↓ifLeF, ↓ifLtT, ↓ifLtF, ↓ifEqT, ↓ifEqF, if_tt, if_ff, if_pos, if_neg, nLe, nLt, nEq, nInT, nCl, pk_mul, nI_add, Nat.reduceAdd, s_cat_nil, s_cat_i, s_cat_r, s_cat_f, s_cat_l, tl_s, tl_n, cat_i, cat_r, cat_f, nb0, nb1, nbI, if_bI, if_bIr, Nat.zero_le, Nat.reduceLeDiff, S_ob0, S_ob239, e1, Option.isSome, iBt, nI10, reduceIte]
      refine q_ahead hI hq fun s' hI' hc => ?_
      have i1 : vp_in (nI j) 8 := (nIn (by omega)).mpr (by omega)
      simp (disch := omega) only [u_105_0, u_105_1, u_105_2, u_105_5, u_105_8, u_105_9, u_105_12, u_105_15, u_105_16, u_105_17, u_105_20, u_105_21, gI0, gIs, gR0, gRs, gF0, gFs, st0, st_i, st_r, st_f, st_n, st_s, true_and, and_true, ↓ifLeT, ↓ifLeF, ↓ifLtT, ↓ifLtF, ↓ifEqT, ↓ifEqF, if_tt, if_ff, if_pos, if_neg, nLe, nLt, nEq, nInT, nCl, pk_mul, nI_add, Nat.reduceAdd, s_cat_nil, s_cat_i, s_cat_r, s_cat_f, s_cat_l, tl_s, tl_n, cat_i, cat_r, cat_f, nb0, nb1, nbI, if_bI, if_bIr, Nat.zero_le, Nat.reduceLeDiff, S_ob0, S_ob239, K_g3, K_a3, i1]
      rw [hc.2.2.1 j j1]
      exact K s' hI'
theorem q_idle (hI : IC s z) (K : ∀ s', IC s' z → Q (some (.int (zidle z m))) (pS s' h)) : MT (d + 5) 116 [.ref 0, .int m] (pS s h) Q := by
  rw [MT_go (by decide) _ _ _ (Nat.le_of_ble_eq_true rfl), show s_entry 116 [.ref 0, .int m] = [.ref 0, .int m] from rfl]
  have e0 := fun Q => q_has (d := d + 3) (h := h) (Q := Q) hI
  have e2 := fun Q => q_isSpan (d := d + 3) (s := s) (h := h) (Q := Q) (x := m)
  unfold zidle at K
  cases hq : zQ z with
  | none =>
    simp only [hq] at K
    simp (disch := omega) only [u_116_0, u_116_1, u_116_4, u_116_7, u_116_8, u_116_9, u_116_12, u_116_15, u_116_16, u_116_19, u_116_20, u_116_21, u_116_24, u_116_27, u_116_30, u_116_33, u_116_34, gI0, gIs, gR0, gRs, gF0, gFs, st0, st_i, st_r, st_f, st_n, st_s, true_and, and_true, ↓ifLeT, ↓ifLeF, ↓ifLtT, ↓ifLtF, ↓ifEqT, ↓ifEqF, if_tt, if_ff, if_pos, if_neg, nLe, nLt, nEq, nInT, nCl, pk_mul, nI_add, Nat.reduceAdd, s_cat_nil, s_cat_i, s_cat_r, s_cat_f, s_cat_l, tl_s, tl_n, cat_i, cat_r, cat_f, nb0, nb1, nbI, if_bI, if_bIr, Nat.zero_le, Nat.reduceLeDiff, S_ob0, S_ob239, e0, hq, Option.isSome, iBf]
    exact K s hI
  | some n =>
    simp only [hq] at K
    obtain ⟨hy, hok⟩ := IC_y hI hq
    have h4 := hok.1.1.1
    cases h2 : ixN m 301 with
    | none =>
      rw [h2] at e2
      simp only [h2] at K
      simp (disch := omega) only [u_116_0, u_116_1, u_116_4, u_116_7, u_116_8, u_116_9, u_116_12, u_116_15, u_116_16, u_116_19, u_116_20, u_116_21, u_116_24, u_116_27, u_116_30, u_116_33, u_116_34, gI0, gIs, gR0, gRs, gF0, gFs, st0, st_i, st_r, st_f, st_n, st_s, true_and, and_true, ↓ifLeT, ↓ifLeF, ↓ifLtT, ↓ifLtF, ↓ifEqT, ↓ifEqF, if_tt, if_ff, if_pos, if_neg, nLe, nLt, nEq, nInT, nCl, pk_mul, nI_add, Nat.reduceAdd, s_cat_nil, s_cat_i, s_cat_r, s_cat_f, s_cat_l, tl_s, tl_n, cat_i, cat_r, cat_f, nb0, nb1, nbI, if_bI, if_bIr, Nat.zero_le, Nat.reduceLeDiff, S_ob0, S_ob239, e0, e2, hq, Option.isSome, iBt, iBf, nI10, reduceIte]
      exact K s hI
    | some k =>
      rw [h2] at e2
      simp only [h2] at K
      obtain ⟨k1, rfl⟩ := ix_some (by omega) h2
      simp (disch := omega) only [u_116_0, u_116_1, u_116_4, u_116_7, u_116_8, u_116_9, u_116_12, u_116_15, u_116_16, u_116_19, u_116_20, u_116_21, u_116_24, u_116_27, u_116_30, u_116_33, u_116_34, gI0, gIs, gR0, gRs, gF0, gFs, st0, st_i, st_r, st_f, st_n, st_s, true_and, and_true, ↓ifLeT, ↓ifLeF, ↓ifLtT, ↓ifLtF, ↓ifEqT, ↓ifEqF, if_tt, if_ff, if_pos, if_neg, nLe, nLt, nEq, nInT, nCl, pk_mul, nI_add, Nat.reduceAdd, s_cat_nil, s_cat_i, s_cat_r, s_cat_f, s_cat_l, tl_s, tl_n, cat_i, cat_r, cat_f, nb0, nb1, nbI, if_bI, if_bIr, Nat.zero_le, Nat.reduceLeDiff, S_ob0, S_ob239, e0, e2, hq, Option.isSome, iBt, nI10, reduceIte]
      refine q_ahead hI hq fun s' hI' hc => ?_
      have hC := (IC_y hI' hq).1.1.2.2.1
      have e3 := fun Q => tl_Co (s := s') (h := h) (Q := Q) fun h Q => m_idleIn (d := d + 2) (b := 234) (c := SO s' 234) (C := nF n 2) (N := k) (h := h) (Q := Q) (by omega) (by omega)
      rw [cnt_sum, Nat.zero_add] at e3
      have e4 : sumN (fun q => (idlB (SO s' 234) (nF n 2) (0 + q)).toNat) k = sumN (fun i => (idleN (runN i n)).toNat) k := sum_cong fun q hq => by
        congr 1
        unfold idlB idleN
        rw [any_range, Bool.false_or, Nat.zero_add, run_F (by decide), ← List.range_eq_range']
        rw [Bool.eq_iff_iff, Bool.not_eq_true', List.all_eq_true, List.any_eq_false]
        constructor
        · intro g c hcc
          have := g c hcc
          rw [hc.2.1 q c (by omega) (List.mem_range.mp hcc)] at this
          have l := jN_le (jN_mid (wf_run hok.1 q).2.1) (c := c) (by rw [run_F (by decide)]; exact List.mem_range.mp hcc)
          have l : nDeed (runN q n) c ≤ 4 := l
          refine decide_eq_true fun e => this (decide_eq_true (by rw [e]))
        · intro g c hcc
          have := of_decide_eq_true (g c hcc)
          rw [hc.2.1 q c (by omega) (List.mem_range.mp hcc)]
          have l := jN_le (jN_mid (wf_run hok.1 q).2.1) (c := c) (by rw [run_F (by decide)]; exact List.mem_range.mp hcc)
          have l : nDeed (runN q n) c ≤ 4 := l
          exact fun e => this ((nI_eq (by omega) (by omega)).mp (of_decide_eq_true e))
      rw [e4] at e3
      simp (disch := omega) only [u_116_0, u_116_1, u_116_4, u_116_7, u_116_8, u_116_9, u_116_12, u_116_15, u_116_16, u_116_19, u_116_20, u_116_21, u_116_24, u_116_27, u_116_30, u_116_33, u_116_34, gI0, gIs, gR0, gRs, gF0, gFs, st0, st_i, st_r, st_f, st_n, st_s, true_and, and_true, ↓ifLeT, ↓ifLeF, ↓ifLtT, ↓ifLtF, ↓ifEqT, ↓ifEqF, if_tt, if_ff, if_pos, if_neg, nLe, nLt, nEq, nInT, nCl, pk_mul, nI_add, Nat.reduceAdd, s_cat_nil, s_cat_i, s_cat_r, s_cat_f, s_cat_l, tl_s, tl_n, cat_i, cat_r, cat_f, nb0, nb1, nbI, if_bI, if_bIr, Nat.zero_le, Nat.reduceLeDiff, S_ob0, S_ob239, S_g0_0, S_g0_1, S_g0_2, S_g0_3, S_g0_4, S_g0_5, S_g0_6, S_g0_7, S_g0_8, S_g0_9, S_g0_10, S_g0_11, S_g0_12, S_g0_13, S_g0_14, S_g1_0, S_g1_1, S_g1_2, S_g1_3, S_g1_4, S_g72_0, S_g72_1, S_g72_2, S_g239_0, S_g239_1, S_g239_2, S_g239_3, S_g239_4, S_g239_5, S_g239_6, S_a23, S_n23, S_a282, S_n282, S_a300, S_n300, S_n73, S_n299, Y'_ob (isY_S yb24), Y'_g0 (isY_S yb24), Y'_g1 (isY_S yb24), Y'_g2 (isY_S yb24), Y'_g3 (isY_S yb24), Y'_g4 (isY_S yb24), Y'_g5 (isY_S yb24), Y'_g6 (isY_S yb24), Y'_g7 (isY_S yb24), Y'_g8 (isY_S yb24), Y'_g9 (isY_S yb24), Y'_g10 (isY_S yb24), Y'_g11 (isY_S yb24), Y'_g12 (isY_S yb24), Y'_g13 (isY_S yb24), Y'_g14 (isY_S yb24), Y'_g15 (isY_S yb24), Y'_g16 (isY_S yb24), Y'_g17 (isY_S yb24), Y'_g18 (isY_S yb24), Y'_g19 (isY_S yb24), Y'_a7 (isY_S yb24), Y'_a8 (isY_S yb24), Y'_a10 (isY_S yb24), Y'_a11 (isY_S yb24), Y'_a12 (isY_S yb24), Y'_a13 (isY_S yb24), Y'_a14 (isY_S yb24), Y'_a15 (isY_S yb24), Y'_a16 (isY_S yb24), Y'_a17 (isY_S yb24), Y'_a18 (isY_S yb24), Y'_sw (isY_S yb24), hC, K_ob, e3]
      exact K s' hI'
theorem q_bound (hI : IC s z) : MT (d + 12) 118 [.ref 0, .int w] (pS s h) Q ↔ Q (some (.int (zbound z w))) (pS s h) := by
  rw [MT_go (by decide) _ _ _ (Nat.le_of_ble_eq_true rfl), show s_entry 118 [.ref 0, .int w] = [.ref 0, .int w] from rfl]
  have e0 := fun Q => q_has (d := d + 10) (h := h) (Q := Q) hI
  unfold zbound
  cases hq : zQ z with
  | none =>
    simp (disch := omega) only [u_118_0, u_118_1, u_118_4, u_118_7, u_118_8, u_118_11, u_118_12, u_118_13, u_118_16, u_118_18, u_118_19, u_118_20, u_118_23, u_118_24, u_118_27, gI0, gIs, gR0, gRs, gF0, gFs, st0, st_i, st_r, st_f, st_n, st_s, true_and, and_true, ↓ifLeT, ↓ifLeF, ↓ifLtT, ↓ifLtF, ↓ifEqT, ↓ifEqF, if_tt, if_ff, if_pos, if_neg, nLe, nLt, nEq, nInT, nCl, pk_mul, nI_add, Nat.reduceAdd, s_cat_nil, s_cat_i, s_cat_r, s_cat_f, s_cat_l, tl_s, tl_n, cat_i, cat_r, cat_f, nb0, nb1, nbI, if_bI, if_bIr, Nat.zero_le, Nat.reduceLeDiff, S_ob0, S_ob239, e0, hq, Option.isSome, iBf]
    exact Iff.rfl
  | some n =>
    obtain ⟨hy, hok⟩ := IC_y hI hq
    have hb := hok.1.1.2.2.2.1
    have hg := hok.1.1.2.2.2.2.2
    cases h1 : ixN w 4 with
    | none =>
      rcases ix_out (by decide) (by decide) h1 with a | ⟨a, -, -, b1, b2⟩
      · simp (disch := omega) only [u_118_0, u_118_1, u_118_4, u_118_7, u_118_8, u_118_11, u_118_12, u_118_13, u_118_16, u_118_18, u_118_19, u_118_20, u_118_23, u_118_24, u_118_27, gI0, gIs, gR0, gRs, gF0, gFs, st0, st_i, st_r, st_f, st_n, st_s, true_and, and_true, ↓ifLeT, ↓ifLeF, ↓ifLtT, ↓ifLtF, ↓ifEqT, ↓ifEqF, if_tt, if_ff, if_pos, if_neg, nLe, nLt, nEq, nInT, nCl, pk_mul, nI_add, Nat.reduceAdd, s_cat_nil, s_cat_i, s_cat_r, s_cat_f, s_cat_l, tl_s, tl_n, cat_i, cat_r, cat_f, nb0, nb1, nbI, if_bI, if_bIr, Nat.zero_le, Nat.reduceLeDiff, S_ob0, S_ob239, e0, hq, Option.isSome, iBt, nI10, reduceIte, a]
        exact Iff.rfl
      · have b2 : ¬ w ≤ nI 3 := b2
        simp (disch := omega) only [u_118_0, u_118_1, u_118_4, u_118_7, u_118_8, u_118_11, u_118_12, u_118_13, u_118_16, u_118_18, u_118_19, u_118_20, u_118_23, u_118_24, u_118_27, gI0, gIs, gR0, gRs, gF0, gFs, st0, st_i, st_r, st_f, st_n, st_s, true_and, and_true, ↓ifLeT, ↓ifLeF, ↓ifLtT, ↓ifLtF, ↓ifEqT, ↓ifEqF, if_tt, if_ff, if_pos, if_neg, nLe, nLt, nEq, nInT, nCl, pk_mul, nI_add, Nat.reduceAdd, s_cat_nil, s_cat_i, s_cat_r, s_cat_f, s_cat_l, tl_s, tl_n, cat_i, cat_r, cat_f, nb0, nb1, nbI, if_bI, if_bIr, Nat.zero_le, Nat.reduceLeDiff, S_ob0, S_ob239, e0, hq, Option.isSome, iBt, nI10, reduceIte, a, b2]
        exact Iff.rfl
    | some k =>
      obtain ⟨k1, rfl⟩ := ix_some (by omega) h1
      have e3 := fun Q => tl_Y (s := s) (h := h) (Q := Q) yb24 fun h Q => m_boundOf (d := d + 1) (a := 24) (y := SY s 24) (g := nF n 1) (B := nF n 0) (what := nI k) (h := h) (Q := Q) (by rw [hy.1.2.2.2.1]; exact hok.1.1.2.1) hy.1.1 hy.1.2.1 (by omega) (by omega)
      rw [bo_rel hok.1 hy] at e3
      simp (disch := omega) only [u_118_0, u_118_1, u_118_4, u_118_7, u_118_8, u_118_11, u_118_12, u_118_13, u_118_16, u_118_18, u_118_19, u_118_20, u_118_23, u_118_24, u_118_27, gI0, gIs, gR0, gRs, gF0, gFs, st0, st_i, st_r, st_f, st_n, st_s, true_and, and_true, ↓ifLeT, ↓ifLeF, ↓ifLtT, ↓ifLtF, ↓ifEqT, ↓ifEqF, if_tt, if_ff, if_pos, if_neg, nLe, nLt, nEq, nInT, nCl, pk_mul, nI_add, Nat.reduceAdd, s_cat_nil, s_cat_i, s_cat_r, s_cat_f, s_cat_l, tl_s, tl_n, cat_i, cat_r, cat_f, nb0, nb1, nbI, if_bI, if_bIr, Nat.zero_le, Nat.reduceLeDiff, S_ob0, S_ob239, S_g0_0, S_g0_1, S_g0_2, S_g0_3, S_g0_4, S_g0_5, S_g0_6, S_g0_7, S_g0_8, S_g0_9, S_g0_10, S_g0_11, S_g0_12, S_g0_13, S_g0_14, S_g1_0, S_g1_1, S_g1_2, S_g1_3, S_g1_4, S_g72_0, S_g72_1, S_g72_2, S_g239_0, S_g239_1, S_g239_2, S_g239_3, S_g239_4, S_g239_5, S_g239_6, S_a23, S_n23, S_a282, S_n282, S_a300, S_n300, S_n73, S_n299, Y'_ob (isY_S yb24), Y'_g0 (isY_S yb24), Y'_g1 (isY_S yb24), Y'_g2 (isY_S yb24), Y'_g3 (isY_S yb24), Y'_g4 (isY_S yb24), Y'_g5 (isY_S yb24), Y'_g6 (isY_S yb24), Y'_g7 (isY_S yb24), Y'_g8 (isY_S yb24), Y'_g9 (isY_S yb24), Y'_g10 (isY_S yb24), Y'_g11 (isY_S yb24), Y'_g12 (isY_S yb24), Y'_g13 (isY_S yb24), Y'_g14 (isY_S yb24), Y'_g15 (isY_S yb24), Y'_g16 (isY_S yb24), Y'_g17 (isY_S yb24), Y'_g18 (isY_S yb24), Y'_g19 (isY_S yb24), Y'_a7 (isY_S yb24), Y'_a8 (isY_S yb24), Y'_a10 (isY_S yb24), Y'_a11 (isY_S yb24), Y'_a12 (isY_S yb24), Y'_a13 (isY_S yb24), Y'_a14 (isY_S yb24), Y'_a15 (isY_S yb24), Y'_a16 (isY_S yb24), Y'_a17 (isY_S yb24), Y'_a18 (isY_S yb24), Y'_sw (isY_S yb24), e0, hq, Option.isSome, iBt, nI10, reduceIte, e3]
theorem q_status (hI : IC s z) : MT (d + 2) 125 [.ref 0, .int w] (pS s h) Q ↔ Q (some (.int (zstatus z w))) (pS s h) := by
  rw [MT_go (by decide) _ _ _ (Nat.le_of_ble_eq_true rfl), show s_entry 125 [.ref 0, .int w] = [.ref 0, .int w] from rfl]
  unfold zstatus
  cases h1 : ixN w 4 with
  | none =>
    rcases ix_out (by decide) (by decide) h1 with a | ⟨a, b0, -, b1, b2⟩
    · simp (disch := omega) only [u_125_0, u_125_1, u_125_4, u_125_5, u_125_6, u_125_9, u_125_10, u_125_13, u_125_14, u_125_17, u_125_18, u_125_19, u_125_22, u_125_23, gI0, gIs, gR0, gRs, gF0, gFs, st0, st_i, st_r, st_f, st_n, st_s, true_and, and_true, ↓ifLeT, ↓ifLeF, ↓ifLtT, ↓ifLtF, ↓ifEqT, ↓ifEqF, if_tt, if_ff, if_pos, if_neg, nLe, nLt, nEq, nInT, nCl, pk_mul, nI_add, Nat.reduceAdd, s_cat_nil, s_cat_i, s_cat_r, s_cat_f, s_cat_l, tl_s, tl_n, cat_i, cat_r, cat_f, nb0, nb1, nbI, if_bI, if_bIr, Nat.zero_le, Nat.reduceLeDiff, S_ob0, S_ob239, S_g0_0, S_g0_1, S_g0_2, S_g0_3, S_g0_4, S_g0_5, S_g0_6, S_g0_7, S_g0_8, S_g0_9, S_g0_10, S_g0_11, S_g0_12, S_g0_13, S_g0_14, S_g1_0, S_g1_1, S_g1_2, S_g1_3, S_g1_4, S_g72_0, S_g72_1, S_g72_2, S_g239_0, S_g239_1, S_g239_2, S_g239_3, S_g239_4, S_g239_5, S_g239_6, S_a23, S_n23, S_a282, S_n282, S_a300, S_n300, S_n73, S_n299, a]
    · simp (disch := omega) only [u_125_0, u_125_1, u_125_4, u_125_5, u_125_6, u_125_9, u_125_10, u_125_13, u_125_14, u_125_17, u_125_18, u_125_19, u_125_22, u_125_23, gI0, gIs, gR0, gRs, gF0, gFs, st0, st_i, st_r, st_f, st_n, st_s, true_and, and_true, ↓ifLeT, ↓ifLeF, ↓ifLtT, ↓ifLtF, ↓ifEqT, ↓ifEqF, if_tt, if_ff, if_pos, if_neg, nLe, nLt, nEq, nInT, nCl, pk_mul, nI_add, Nat.reduceAdd, s_cat_nil, s_cat_i, s_cat_r, s_cat_f, s_cat_l, tl_s, tl_n, cat_i, cat_r, cat_f, nb0, nb1, nbI, if_bI, if_bIr, Nat.zero_le, Nat.reduceLeDiff, S_ob0, S_ob239, S_g0_0, S_g0_1, S_g0_2, S_g0_3, S_g0_4, S_g0_5, S_g0_6, S_g0_7, S_g0_8, S_g0_9, S_g0_10, S_g0_11, S_g0_12, S_g0_13, S_g0_14, S_g1_0, S_g1_1, S_g1_2, S_g1_3, S_g1_4, S_g72_0, S_g72_1, S_g72_2, S_g239_0, S_g239_1, S_g239_2, S_g239_3, S_g239_4, S_g239_5, S_g239_6, S_a23, S_n23, S_a282, S_n282, S_a300, S_n300, S_n73, S_n299, a, b0]
  | some k =>
    obtain ⟨k1, rfl⟩ := ix_some (by omega) h1
    have i1 : vp_in (nI k) 4 := (nIn (by omega)).mpr (by omega)
    simp (disch := omega) only [u_125_0, u_125_1, u_125_4, u_125_5, u_125_6, u_125_9, u_125_10, u_125_13, u_125_14, u_125_17, u_125_18, u_125_19, u_125_22, u_125_23, gI0, gIs, gR0, gRs, gF0, gFs, st0, st_i, st_r, st_f, st_n, st_s, true_and, and_true, ↓ifLeT, ↓ifLeF, ↓ifLtT, ↓ifLtF, ↓ifEqT, ↓ifEqF, if_tt, if_ff, if_pos, if_neg, nLe, nLt, nEq, nInT, nCl, pk_mul, nI_add, Nat.reduceAdd, s_cat_nil, s_cat_i, s_cat_r, s_cat_f, s_cat_l, tl_s, tl_n, cat_i, cat_r, cat_f, nb0, nb1, nbI, if_bI, if_bIr, Nat.zero_le, Nat.reduceLeDiff, S_ob0, S_ob239, S_g0_0, S_g0_1, S_g0_2, S_g0_3, S_g0_4, S_g0_5, S_g0_6, S_g0_7, S_g0_8, S_g0_9, S_g0_10, S_g0_11, S_g0_12, S_g0_13, S_g0_14, S_g1_0, S_g1_1, S_g1_2, S_g1_3, S_g1_4, S_g72_0, S_g72_1, S_g72_2, S_g239_0, S_g239_1, S_g239_2, S_g239_3, S_g239_4, S_g239_5, S_g239_6, S_a23, S_n23, S_a282, S_n282, S_a300, S_n300, S_n73, S_n299, i1]
    rw [hI.2.2.2.2.1 k k1]
theorem q_count (hI : IC s z) : MT (d + 2) 127 [.ref 0, .int w] (pS s h) Q ↔ Q (some (.int (zcount z w))) (pS s h) := by
  rw [MT_go (by decide) _ _ _ (Nat.le_of_ble_eq_true rfl), show s_entry 127 [.ref 0, .int w] = [.ref 0, .int w] from rfl]
  unfold zcount
  rw [← hI.1.1, ← hI.2.2.1.2.1]
  by_cases h0 : w = nI 0
  · rw [if_pos h0]
    subst h0
    simp (disch := omega) only [u_127_0, u_127_1, u_127_4, u_127_5, u_127_8, u_127_11, u_127_14, u_127_15, u_127_16, u_127_19, u_127_20, u_127_23, u_127_26, u_127_29, u_127_30, gI0, gIs, gR0, gRs, gF0, gFs, st0, st_i, st_r, st_f, st_n, st_s, true_and, and_true, ↓ifLeT, ↓ifLeF, ↓ifLtT, ↓ifLtF, ↓ifEqT, ↓ifEqF, if_tt, if_ff, if_pos, if_neg, nLe, nLt, nEq, nInT, nCl, pk_mul, nI_add, Nat.reduceAdd, s_cat_nil, s_cat_i, s_cat_r, s_cat_f, s_cat_l, tl_s, tl_n, cat_i, cat_r, cat_f, nb0, nb1, nbI, if_bI, if_bIr, Nat.zero_le, Nat.reduceLeDiff, S_ob0, S_ob239, S_g0_0, S_g0_1, S_g0_2, S_g0_3, S_g0_4, S_g0_5, S_g0_6, S_g0_7, S_g0_8, S_g0_9, S_g0_10, S_g0_11, S_g0_12, S_g0_13, S_g0_14, S_g1_0, S_g1_1, S_g1_2, S_g1_3, S_g1_4, S_g72_0, S_g72_1, S_g72_2, S_g239_0, S_g239_1, S_g239_2, S_g239_3, S_g239_4, S_g239_5, S_g239_6, S_a23, S_n23, S_a282, S_n282, S_a300, S_n300, S_n73, S_n299, T_g1]
  · rw [if_neg h0]
    by_cases h1 : w = nI 1
    · rw [if_pos h1]
      subst h1
      simp (disch := omega) only [u_127_0, u_127_1, u_127_4, u_127_5, u_127_8, u_127_11, u_127_14, u_127_15, u_127_16, u_127_19, u_127_20, u_127_23, u_127_26, u_127_29, u_127_30, gI0, gIs, gR0, gRs, gF0, gFs, st0, st_i, st_r, st_f, st_n, st_s, true_and, and_true, ↓ifLeT, ↓ifLeF, ↓ifLtT, ↓ifLtF, ↓ifEqT, ↓ifEqF, if_tt, if_ff, if_pos, if_neg, nLe, nLt, nEq, nInT, nCl, pk_mul, nI_add, Nat.reduceAdd, s_cat_nil, s_cat_i, s_cat_r, s_cat_f, s_cat_l, tl_s, tl_n, cat_i, cat_r, cat_f, nb0, nb1, nbI, if_bI, if_bIr, Nat.zero_le, Nat.reduceLeDiff, S_ob0, S_ob239, S_g0_0, S_g0_1, S_g0_2, S_g0_3, S_g0_4, S_g0_5, S_g0_6, S_g0_7, S_g0_8, S_g0_9, S_g0_10, S_g0_11, S_g0_12, S_g0_13, S_g0_14, S_g1_0, S_g1_1, S_g1_2, S_g1_3, S_g1_4, S_g72_0, S_g72_1, S_g72_2, S_g239_0, S_g239_1, S_g239_2, S_g239_3, S_g239_4, S_g239_5, S_g239_6, S_a23, S_n23, S_a282, S_n282, S_a300, S_n300, S_n73, S_n299, nI10]
    · rw [if_neg h1]
      simp (disch := omega) only [u_127_0, u_127_1, u_127_4, u_127_5, u_127_8, u_127_11, u_127_14, u_127_15, u_127_16, u_127_19, u_127_20, u_127_23, u_127_26, u_127_29, u_127_30, gI0, gIs, gR0, gRs, gF0, gFs, st0, st_i, st_r, st_f, st_n, st_s, true_and, and_true, ↓ifLeT, ↓ifLeF, ↓ifLtT, ↓ifLtF, ↓ifEqT, ↓ifEqF, if_tt, if_ff, if_pos, if_neg, nLe, nLt, nEq, nInT, nCl, pk_mul, nI_add, Nat.reduceAdd, s_cat_nil, s_cat_i, s_cat_r, s_cat_f, s_cat_l, tl_s, tl_n, cat_i, cat_r, cat_f, nb0, nb1, nbI, if_bI, if_bIr, Nat.zero_le, Nat.reduceLeDiff, S_ob0, S_ob239, S_g0_0, S_g0_1, S_g0_2, S_g0_3, S_g0_4, S_g0_5, S_g0_6, S_g0_7, S_g0_8, S_g0_9, S_g0_10, S_g0_11, S_g0_12, S_g0_13, S_g0_14, S_g1_0, S_g1_1, S_g1_2, S_g1_3, S_g1_4, S_g72_0, S_g72_1, S_g72_2, S_g239_0, S_g239_1, S_g239_2, S_g239_3, S_g239_4, S_g239_5, S_g239_6, S_a23, S_n23, S_a282, S_n282, S_a300, S_n300, S_n73, S_n299, h0, h1]
theorem N_done (hy : RY (SY s 24) n) (hn : wfN n) {j : Nat} (hj : j < nF n 3) : MT (d + 1) 69 [.ref 24, .int (nI j)] (pS s h) Q ↔ Q (some (.int (iB (nDone n j)))) (pS s h) := by
  have e := tl_Y (s := s) (h := h) (Q := Q) yb24 fun h Q => m_isDone (d := d) (a := 24) (y := SY s 24) (x := nI j) (h := h) (Q := Q)
  rw [e, hy.1.2.2.2.2.2.2]
  have hb := bit_done hn.1 hj
  cases hd : nDone n j with
  | true =>
    have k : ¬ bitS (nI (bitsN (nDone n) (nF n 3))) (nI j) = nI 0 := fun q => by have := hb.mp q; rw [hd] at this; cases this
    rw [bI_t k]; exact Iff.rfl
  | false =>
    have k : ¬ ¬ bitS (nI (bitsN (nDone n) (nF n 3))) (nI j) = nI 0 := fun q => q (hb.mpr hd)
    rw [bI_f k]; exact Iff.rfl
theorem N_brk (hy : RY (SY s 24) n) (hn : wfN n) {j : Nat} (hj : j < nF n 2) : MT (d + 1) 68 [.ref 24, .int (nI j)] (pS s h) Q ↔ Q (some (.int (iB (nK n j)))) (pS s h) := by
  have e := tl_Y (s := s) (h := h) (Q := Q) yb24 fun h Q => m_isBroken (d := d) (a := 24) (y := SY s 24) (x := nI j) (h := h) (Q := Q)
  rw [e, hy.1.2.2.2.2.2.1]
  have hb := bit_brk hn.1 hj
  cases hd : nK n j with
  | true =>
    have k : ¬ bitS (nI (bitsN (nK n) (nF n 2))) (nI j) = nI 0 := fun q => by have := hb.mp q; rw [hd] at this; cases this
    rw [bI_t k]; exact Iff.rfl
  | false =>
    have k : ¬ ¬ bitS (nI (bitsN (nK n) (nF n 2))) (nI j) = nI 0 := fun q => q (hb.mpr hd)
    rw [bI_f k]; exact Iff.rfl
theorem N_hold (hy : RY (SY s 24) n) (hn : wfN n) {j : Nat} (hj : j < nF n 3) : MT (d + 2) 26 [.ref (24 + 13), .int (nI j)] (pS s h) Q ↔ Q (some (.int (oI1 (holdN (nL n) j)))) (pS s h) := by
  have h8 := hn.1.2.1
  have e := tl_YP (s := s) (h := h) (Q := Q) yb24 fun h Q => m_holder (d := d) (b := 24 + 13) (p := yP (SY s 24)) (h := h) (Q := Q) (t := nI j) (RP_okS hn.1 hn.2.2.2 hy.2.2.2)
  rw [hold_rel hy.2.2.2 (fun c t h => wfL31 hn c t h) (fun c => wfL_len hn.1 hn.2.2.2 c) (by omega)] at e
  exact e
theorem q_task (hI : IC s z) : MT (d + 4) 100 [.ref 0, .int t, .int w] (pS s h) Q ↔ Q (some (.int (ztask z t w))) (pS s h) := by
  rw [MT_go (by decide) _ _ _ (Nat.le_of_ble_eq_true rfl), show s_entry 100 [.ref 0, .int t, .int w] = [.ref 0, .int t, .int w] from rfl]
  have e1 := fun Q => q_isT (d := d + 2) (h := h) (Q := Q) (x := t) hI
  unfold ztask
  cases hq : zQ z with
  | none =>
    rw [zN_0 hq, ix_0] at e1
    simp (disch := omega) only [u_100_0, u_100_1, u_100_2, u_100_5, u_100_8, u_100_9, u_100_10, u_100_11, u_100_60, u_100_61, u_100_64, u_100_67, u_100_68, u_100_69, u_100_70, u_100_71, u_100_74, u_100_77, u_100_78, u_100_79, u_100_80, u_100_81, u_100_84, u_100_87, u_100_88, u_100_89, u_100_90, u_100_91, u_100_94, u_100_97, u_100_98, u_100_99, u_100_100, u_100_101, u_100_104, u_100_107, u_100_108, u_100_109, u_100_110, u_100_111, u_100_114, u_100_115, u_100_118, u_100_121, u_100_122, u_100_125, u_100_126, u_100_127, u_100_128, u_100_131, u_100_134, u_100_135, u_100_138, u_100_139, u_100_140, u_100_143, u_100_146, u_100_147, u_100_148, u_100_149, u_100_150, u_100_153, u_100_156, u_100_157, u_100_158, u_100_159, u_100_160, gI0, gIs, gR0, gRs, gF0, gFs, st0, st_i, st_r, st_f, st_n, st_s, true_and, and_true, ↓ifLeT, ↓ifLeF, ↓ifLtT, ↓ifLtF, ↓ifEqT, ↓ifEqF, if_tt, if_ff, if_pos, if_neg, nLe, nLt, nEq, nInT, nCl, pk_mul, nI_add, Nat.reduceAdd, s_cat_nil, s_cat_i, s_cat_r, s_cat_f, s_cat_l, tl_s, tl_n, cat_i, cat_r, cat_f, nb0, nb1, nbI, if_bI, if_bIr, Nat.zero_le, Nat.reduceLeDiff, S_ob0, S_ob239, e1, Option.isSome, iBf]
  | some n =>
    rw [zN_s hq] at e1
    obtain ⟨hy, hok⟩ := IC_y hI hq
    have h8 := hok.1.1.2.1
    cases h1 : ixN t (nF n 3) with
    | none =>
      rw [h1] at e1
      simp (disch := omega) only [u_100_0, u_100_1, u_100_2, u_100_5, u_100_8, u_100_9, u_100_10, u_100_11, u_100_60, u_100_61, u_100_64, u_100_67, u_100_68, u_100_69, u_100_70, u_100_71, u_100_74, u_100_77, u_100_78, u_100_79, u_100_80, u_100_81, u_100_84, u_100_87, u_100_88, u_100_89, u_100_90, u_100_91, u_100_94, u_100_97, u_100_98, u_100_99, u_100_100, u_100_101, u_100_104, u_100_107, u_100_108, u_100_109, u_100_110, u_100_111, u_100_114, u_100_115, u_100_118, u_100_121, u_100_122, u_100_125, u_100_126, u_100_127, u_100_128, u_100_131, u_100_134, u_100_135, u_100_138, u_100_139, u_100_140, u_100_143, u_100_146, u_100_147, u_100_148, u_100_149, u_100_150, u_100_153, u_100_156, u_100_157, u_100_158, u_100_159, u_100_160, gI0, gIs, gR0, gRs, gF0, gFs, st0, st_i, st_r, st_f, st_n, st_s, true_and, and_true, ↓ifLeT, ↓ifLeF, ↓ifLtT, ↓ifLtF, ↓ifEqT, ↓ifEqF, if_tt, if_ff, if_pos, if_neg, nLe, nLt, nEq, nInT, nCl, pk_mul, nI_add, Nat.reduceAdd, s_cat_nil, s_cat_i, s_cat_r, s_cat_f, s_cat_l, tl_s, tl_n, cat_i, cat_r, cat_f, nb0, nb1, nbI, if_bI, if_bIr, Nat.zero_le, Nat.reduceLeDiff, S_ob0, S_ob239, e1, h1, Option.isSome, iBf]
    | some j =>
      rw [h1] at e1
      obtain ⟨j1, rfl⟩ := ix_some (by omega) h1
      have i1 : vp_in (nI j) 8 := (nIn (by omega)).mpr (by omega)
      obtain ⟨a12, a13, a14, a15, a16, a17, a18⟩ := hy.2.2.1 j j1
      have e2 := fun Q => N_done (d := d + 2) (h := h) (Q := Q) hy hok.1 j1
      have e3 := fun Q => N_hold (d := d + 1) (h := h) (Q := Q) hy hok.1 j1
      have e4 : ∀ {A B : Prop}, (if iB (nDone n j) = nI 0 then A else B) ↔ (if nDone n j = true then B else A) := fun {A B} => by cases nDone n j <;> simp [iB, nI10]
      simp only [h1]
      simp (maxSteps := 2000000) (disch := omega) only [u_100_0, u_100_1, u_100_2, u_100_5, u_100_8, u_100_9, u_100_10, u_100_11, u_100_60, u_100_61, u_100_64, u_100_67, u_100_68, u_100_69, u_100_70, u_100_71, u_100_74, u_100_77, u_100_78, u_100_79, u_100_80, u_100_81, u_100_84, u_100_87, u_100_88, u_100_89, u_100_90, u_100_91, u_100_94, u_100_97, u_100_98, u_100_99, u_100_100, u_100_101, u_100_104, u_100_107, u_100_108, u_100_109, u_100_110, u_100_111, u_100_114, u_100_115, u_100_118, u_100_121, u_100_122, u_100_125, u_100_126, u_100_127, u_100_128, u_100_131, u_100_134, u_100_135, u_100_138, u_100_139, u_100_140, u_100_143, u_100_146, u_100_147, u_100_148, u_100_149, u_100_150, u_100_153, u_100_156, u_100_157, u_100_158, u_100_159, u_100_160, gI0, gIs, gR0, gRs, gF0, gFs, st0, st_i, st_r, st_f, st_n, st_s, true_and, and_true, ↓ifLeT, ↓ifLeF, ↓ifLtT, ↓ifLtF, ↓ifEqT, ↓ifEqF, if_tt, if_ff, if_pos, if_neg, nLe, nLt, nEq, nInT, nCl, pk_mul, nI_add, Nat.reduceAdd, s_cat_nil, s_cat_i, s_cat_r, s_cat_f, s_cat_l, tl_s, tl_n, cat_i, cat_r, cat_f, nb0, nb1, nbI, if_bI, if_bIr, Nat.zero_le, Nat.reduceLeDiff, S_ob0, S_ob239, S_g0_0, S_g0_1, S_g0_2, S_g0_3, S_g0_4, S_g0_5, S_g0_6, S_g0_7, S_g0_8, S_g0_9, S_g0_10, S_g0_11, S_g0_12, S_g0_13, S_g0_14, S_g1_0, S_g1_1, S_g1_2, S_g1_3, S_g1_4, S_g72_0, S_g72_1, S_g72_2, S_g239_0, S_g239_1, S_g239_2, S_g239_3, S_g239_4, S_g239_5, S_g239_6, S_a23, S_n23, S_a282, S_n282, S_a300, S_n300, S_n73, S_n299, Y'_ob (isY_S yb24), Y'_g0 (isY_S yb24), Y'_g1 (isY_S yb24), Y'_g2 (isY_S yb24), Y'_g3 (isY_S yb24), Y'_g4 (isY_S yb24), Y'_g5 (isY_S yb24), Y'_g6 (isY_S yb24), Y'_g7 (isY_S yb24), Y'_g8 (isY_S yb24), Y'_g9 (isY_S yb24), Y'_g10 (isY_S yb24), Y'_g11 (isY_S yb24), Y'_g12 (isY_S yb24), Y'_g13 (isY_S yb24), Y'_g14 (isY_S yb24), Y'_g15 (isY_S yb24), Y'_g16 (isY_S yb24), Y'_g17 (isY_S yb24), Y'_g18 (isY_S yb24), Y'_g19 (isY_S yb24), Y'_a7 (isY_S yb24), Y'_a8 (isY_S yb24), Y'_a10 (isY_S yb24), Y'_a11 (isY_S yb24), Y'_a12 (isY_S yb24), Y'_a13 (isY_S yb24), Y'_a14 (isY_S yb24), Y'_a15 (isY_S yb24), Y'_a16 (isY_S yb24), Y'_a17 (isY_S yb24), Y'_a18 (isY_S yb24), Y'_sw (isY_S yb24), e1, Option.isSome, iBt, nI10, reduceIte, swt_c, swt_n, i1, e2, e3, e4, YSP_ob, a12, a13, a14, a15, a16, a17, a18]
      refine iff_ite (P := fun v => Q (some (.int v)) (pS s h)) (fun _ => Iff.rfl) fun _ => iff_ite (P := fun v => Q (some (.int v)) (pS s h)) (fun _ => Iff.rfl) fun _ => iff_ite (P := fun v => Q (some (.int v)) (pS s h)) (fun _ => Iff.rfl) fun _ => iff_ite (P := fun v => Q (some (.int v)) (pS s h)) (fun _ => Iff.rfl) fun _ => iff_ite (P := fun v => Q (some (.int v)) (pS s h)) (fun _ => Iff.rfl) fun _ => iff_ite (P := fun v => Q (some (.int v)) (pS s h)) (fun _ => ?_) fun _ => iff_ite (P := fun v => Q (some (.int v)) (pS s h)) (fun _ => Iff.rfl) fun _ => iff_ite (P := fun v => Q (some (.int v)) (pS s h)) (fun _ => Iff.rfl) fun _ => iff_ite (P := fun v => Q (some (.int v)) (pS s h)) (fun _ => Iff.rfl) fun _ => Iff.rfl
      cases nDone n j <;> exact Iff.rfl
theorem ten_v {u : UInt32} (hw : goodW u) : vf_n32 (FP.fmul u 1092616192) := by
  have e : fsig (1092616192 : UInt32).toNat * 2 ^ (fex (1092616192 : UInt32).toNat - 85) ≤ 2 ^ 70 := by decide +kernel
  have h1 : fv u.toNat ≤ 3 * 2 ^ 150 := good_fv.mp hw
  have hl : (fv u.toNat * (fsig (1092616192 : UInt32).toNat * 2 ^ (fex (1092616192 : UInt32).toNat - 85))).log2 ≤ 23 + 220 := log_le (S := 3) (Nat.le_trans (Nat.mul_le_mul h1 e) (by decide +kernel)) (by decide)
  exact n32_of (fmul_v (a := u) (b := 1092616192) (good_fin hw) (by decide) (by decide) (by decide) (by omega)).1
theorem q_crane (hI : IC s z) (hq : zQ z = some n) {j k : Nat} (hj : j < nF n 2) (hk : k < 6) {v : Int32} (hv : zcrane z (nI j) (nI k) = some v) : MT (d + 4) 99 [.ref 0, .int (nI j), .int (nI k)] (pS s h) Q ↔ Q (some (.int v)) (pS s h) := by
  rw [MT_go (by decide) _ _ _ (Nat.le_of_ble_eq_true rfl), show s_entry 99 [.ref 0, .int (nI j), .int (nI k)] = [.ref 0, .int (nI j), .int (nI k)] from rfl]
  have e1 := fun Q => q_isC (d := d + 2) (h := h) (Q := Q) (x := nI j) hI
  obtain ⟨hy, hok⟩ := IC_y hI hq
  have h4 := hok.1.1.1
  rw [zC_s hq, ix_nI hj (by omega)] at e1
  unfold zcrane at hv
  rw [hq] at hv
  simp only [ix_nI hj (by omega), ix_nI hk (by omega)] at hv
  have i1 : vp_in (nI j) 4 := (nIn (by omega)).mpr (by omega)
  obtain ⟨a7, a8, aw⟩ := hy.2.1.1 j hj
  have hs := RP_okS hok.1.1 hok.1.2.2.2 hy.2.2.2
  have gw := (hok.1.2.1.1 j hj).2.2.2
  have e2 := fun Q => tl_Y (s := s) (h := h) (Q := Q) yb24 fun h Q => m_nextOf (d := d + 2) (a := 24) (y := SY s 24) (c := j) (h := h) (Q := Q) (by omega) (hs j (by omega))
  rw [nx_rel hok.1.1 hok.1.2.2.2 hy (by omega)] at e2
  have e3 := fun Q => m_bitsOfFloat (d := d + 2) (h := pS s h) (Q := Q) gw
  have e4 := ten_v gw
  have e5 := (hy.2.2.2 j (by omega)).1
  have szG : ∀ f, fG (pS s h) (24 + 13) 3 1 f ↔ f (.ref (24 + 13 + 2)) := fun f => P'_size (isP_YS yb24)
  have szA : ∀ i f, aG (pS s h) (24 + 13 + 2) i f ↔ vp_in i 4 ∧ f (nI ((yP (SY s 24)).2 i.toNatClampNeg)) := fun i f => P'_sz (isP_YS yb24)
  match k, hk with
  | 0, _ | 1, _ | 2, _ | 3, _ | 4, _ | 5, _ =>
    cases hv
    simp (disch := omega) only [u_99_0, u_99_1, u_99_2, u_99_5, u_99_8, u_99_9, u_99_12, u_99_13, u_99_14, u_99_25, u_99_26, u_99_60, u_99_61, u_99_64, u_99_67, u_99_68, u_99_69, u_99_70, u_99_71, u_99_74, u_99_77, u_99_78, u_99_79, u_99_80, u_99_81, u_99_84, u_99_85, u_99_88, u_99_89, u_99_90, u_99_93, u_99_96, u_99_99, u_99_100, u_99_101, u_99_102, u_99_103, u_99_106, u_99_109, u_99_110, u_99_111, u_99_113, u_99_114, u_99_115, u_99_116, u_99_117, u_99_120, u_99_123, u_99_124, u_99_125, u_99_128, gI0, gIs, gR0, gRs, gF0, gFs, st0, st_i, st_r, st_f, st_n, st_s, true_and, and_true, ↓ifLeT, ↓ifLeF, ↓ifLtT, ↓ifLtF, ↓ifEqT, ↓ifEqF, if_tt, if_ff, if_pos, if_neg, nLe, nLt, nEq, nInT, nCl, pk_mul, nI_add, Nat.reduceAdd, s_cat_nil, s_cat_i, s_cat_r, s_cat_f, s_cat_l, tl_s, tl_n, cat_i, cat_r, cat_f, nb0, nb1, nbI, if_bI, if_bIr, Nat.zero_le, Nat.reduceLeDiff, S_ob0, S_ob239, S_g0_0, S_g0_1, S_g0_2, S_g0_3, S_g0_4, S_g0_5, S_g0_6, S_g0_7, S_g0_8, S_g0_9, S_g0_10, S_g0_11, S_g0_12, S_g0_13, S_g0_14, S_g1_0, S_g1_1, S_g1_2, S_g1_3, S_g1_4, S_g72_0, S_g72_1, S_g72_2, S_g239_0, S_g239_1, S_g239_2, S_g239_3, S_g239_4, S_g239_5, S_g239_6, S_a23, S_n23, S_a282, S_n282, S_a300, S_n300, S_n73, S_n299, Y'_ob (isY_S yb24), Y'_g0 (isY_S yb24), Y'_g1 (isY_S yb24), Y'_g2 (isY_S yb24), Y'_g3 (isY_S yb24), Y'_g4 (isY_S yb24), Y'_g5 (isY_S yb24), Y'_g6 (isY_S yb24), Y'_g7 (isY_S yb24), Y'_g8 (isY_S yb24), Y'_g9 (isY_S yb24), Y'_g10 (isY_S yb24), Y'_g11 (isY_S yb24), Y'_g12 (isY_S yb24), Y'_g13 (isY_S yb24), Y'_g14 (isY_S yb24), Y'_g15 (isY_S yb24), Y'_g16 (isY_S yb24), Y'_g17 (isY_S yb24), Y'_g18 (isY_S yb24), Y'_g19 (isY_S yb24), Y'_a7 (isY_S yb24), Y'_a8 (isY_S yb24), Y'_a10 (isY_S yb24), Y'_a11 (isY_S yb24), Y'_a12 (isY_S yb24), Y'_a13 (isY_S yb24), Y'_a14 (isY_S yb24), Y'_a15 (isY_S yb24), Y'_a16 (isY_S yb24), Y'_a17 (isY_S yb24), Y'_a18 (isY_S yb24), Y'_sw (isY_S yb24), e1, Option.isSome, iBt, nI10, reduceIte, swt_c, swt_n, i1, e2, e3, e4, e5, a7, a8, aw, szG, szA]
end Q2
