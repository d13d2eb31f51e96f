/-! the reference's best, without, dearest */ -/
theorem idx_first {t : Nat} : ∀ {l : List Nat} {k : Nat}, k < l.length → l.getD k 0 = t → (∀ j, j < k → l.getD j 0 ≠ t) → idxN t l = k
  | [], k, h, _, _ => absurd h (Nat.not_lt_zero k)
  | u :: l, 0, _, h2, _ => if_pos h2
  | u :: l, k + 1, h1, h2, h3 => by
    rw [idxN, if_neg (show ¬ u = t from h3 0 (Nat.succ_pos k)), idx_first (l := l) (k := k) (Nat.lt_of_succ_lt_succ h1) h2 fun j hj => h3 (j + 1) (Nat.succ_lt_succ hj)]
theorem MF_30 {m : tM} {C : Nat} {g : tG} (h : MF m C g) : kI m 30 = nI ((g.2.map (·.1)).getD 1000000) ∧ ∀ v, g.2.map (·.1) = some v → v ≤ 300 := by
  unfold MF at h
  cases hg : g.2 with
  | none =>
    simp only [hg] at h
    exact ⟨h.2, fun v e => by cases e⟩
  | some p =>
    obtain ⟨v, l⟩ := p
    simp only [hg] at h
    exact ⟨h.2.2.1, fun w e => by cases e; exact h.2.1⟩
theorem set_lost {n : tN} {j : Nat} : set1 (nK n) j true = fun q => nK n q || (2 ^ j).testBit q := by
  funext q
  unfold set1
  rw [Nat.testBit_two_pow]
  by_cases e : q = j
  · rw [if_pos e, decide_eq_true e.symm, Bool.or_true]
  · rw [if_neg e, decide_eq_false (fun q => e q.symm), Bool.or_false]
section MBE
variable {b d : Nat} {m : tM} {h : sH} {x y w c t : Int32} {Q : sQ} {n : tN} {z : tQ} {l : tL} {g : tG}
theorem r_few (hn : wfN n) (hr : RR (kA m 320) n) : MT (d + 4) 222 [.ref 317] (pM m h) Q ↔ Q (some (.int (iB (fewN n)))) (pM m h) := by
  have h8 := hn.1.2.1
  have e1 := fun Q => z_leftSet (d := d) (h := h) (Q := Q) hn hr
  have e2 := fun Q => m_bitCount (d := d + 2) (h := pM m h) (Q := Q) (n := bitsN (fun t => !nDone n t) (nF n 3)) (bitsN_256 h8)
  rw [pop_bits8 h8] at e2
  have sb : sumN (fun t => (!nDone n t).toNat) (nF n 3) ≤ nF n 3 * 1 := sum_bd fun t _ => by cases nDone n t <;> decide
  rw [MT_go (by decide) _ _ _ (Nat.le_of_ble_eq_true rfl), show s_entry 222 [.ref 317] = [.ref 317] from rfl]
  unfold fewN
  by_cases g : sumN (fun t => (!nDone n t).toNat) (nF n 3) ≤ 5
  · rw [decide_eq_true g]
    simp (disch := omega) only [u_222_0, u_222_1, u_222_4, u_222_7, u_222_8, u_222_11, u_222_12, u_222_15, u_222_16, gI0, gIs, gR0, gRs, gF0, gFs, st0, st_i, st_r, st_f, st_n, st_s, true_and, and_true, ↓ifLeT, ↓ifLeF, ↓ifLtT, ↓ifLtF, ↓ifEqT, ↓ifEqF, if_tt, if_ff, if_pos, if_neg, nLe, nLt, nEq, nInT, nCl, pk_mul, nI_add, Nat.reduceAdd, s_cat_nil, s_cat_i, s_cat_r, s_cat_f, s_cat_l, tl_s, tl_n, cat_i, cat_r, cat_f, nb0, nb1, nbI, if_bI, if_bIr, Nat.zero_le, Nat.reduceLeDiff, M_ob, e1, e2, iBt]
  · rw [decide_eq_false g]
    simp (disch := omega) only [u_222_0, u_222_1, u_222_4, u_222_7, u_222_8, u_222_11, u_222_12, u_222_15, u_222_16, gI0, gIs, gR0, gRs, gF0, gFs, st0, st_i, st_r, st_f, st_n, st_s, true_and, and_true, ↓ifLeT, ↓ifLeF, ↓ifLtT, ↓ifLtF, ↓ifEqT, ↓ifEqF, if_tt, if_ff, if_pos, if_neg, nLe, nLt, nEq, nInT, nCl, pk_mul, nI_add, Nat.reduceAdd, s_cat_nil, s_cat_i, s_cat_r, s_cat_f, s_cat_l, tl_s, tl_n, cat_i, cat_r, cat_f, nb0, nb1, nbI, if_bI, if_bIr, Nat.zero_le, Nat.reduceLeDiff, M_ob, e1, e2, iBf]
theorem in_T {N : Nat} (hN : N < 2 ^ 20) : MT (d + 1) 142 [.long x.toInt64, .long 0, .long (nI N - nI 1).toInt64] h Q ↔ Q (some (.int (iB (ixN x N).isSome))) h := by
  by_cases h0 : N = 0
  · rw [m_in, h0, ix_0]
    have : (decide ((0 : Int64) ≤ x.toInt64) && decide (x.toInt64 ≤ (nI 0 - nI 1).toInt64)) = false := by
      rw [show (0 : Int64) = (nI 0).toInt64 by decide, Bool.and_eq_false_iff, decide_eq_false_iff_not, decide_eq_false_iff_not, i2l_le, i2l_le]
      by_cases g : nI 0 ≤ x
      · refine Or.inr fun q => ?_
        exact absurd (Int32.le_trans g q) (by decide)
      · exact Or.inl g
    rw [this]
    exact Iff.rfl
  · rw [sub1 (by omega)]
    exact m_in0 (by omega) (by omega)
theorem le_10 {N : Nat} (hN : N < 2 ^ 20) : (decide (nI 10 ≤ x) && decide (x ≤ nI (9 + N))) = (ixN (x - nI 10) N).isSome := by
  rw [ix_is]
  have e : (nI 10 ≤ x ∧ x ≤ nI (9 + N)) ↔ (nI 0 ≤ x - nI 10 ∧ x - nI 10 < nI N) := by
    rw [Int32.le_iff_toInt_le, Int32.le_iff_toInt_le, Int32.le_iff_toInt_le, Int32.lt_iff_toInt_lt, Int32.toInt_sub, nI_toInt (show 10 < 2 ^ 31 by decide), nI_toInt (show 0 < 2 ^ 31 by decide), nI_toInt (show N < 2 ^ 31 by omega), nI_toInt (show 9 + N < 2 ^ 31 by omega)]
    have h1 := Int32.toInt_lt x
    have h2 := Int32.le_toInt x
    by_cases g : x.toInt - 10 < -2147483648
    · rw [show (x.toInt - ((10 : Nat) : Int)).bmod (2 ^ 32) = x.toInt - 10 + 4294967296 from by
        rw [Int.bmod_def]
        split <;> omega]
      omega
    · rw [show (x.toInt - ((10 : Nat) : Int)).bmod (2 ^ 32) = x.toInt - 10 from by
        rw [Int.bmod_def]
        split <;> omega]
      omega
  by_cases g : nI 10 ≤ x ∧ x ≤ nI (9 + N)
  · have g2 := e.mp g
    rw [decide_eq_true g.1, decide_eq_true g.2, decide_eq_true g2.1, decide_eq_true g2.2]
  · have g2 := fun q => g (e.mpr q)
    rw [← Bool.decide_and, ← Bool.decide_and, decide_eq_false g, decide_eq_false g2]
theorem r_such (hm : RM m z) : MT (d + 2) 224 [.ref 317, .int x] (pM m h) Q ↔ Q (some (.int (iB (match zQ z with | none => false | some n => suchN n x)))) (pM m h) := by
  rw [MT_go (by decide) _ _ _ (Nat.le_of_ble_eq_true rfl), show s_entry 224 [.ref 317, .int x] = [.ref 317, .int x] from rfl]
  have q1 := hm.2.1.1
  have c1 : (nI 1).toNatClampNeg = 1 := rfl
  cases hq : zQ z with
  | none =>
    rw [hq] at q1
    simp (disch := omega) only [u_224_0, u_224_1, u_224_4, u_224_7, u_224_8, u_224_9, u_224_12, u_224_13, u_224_14, u_224_15, u_224_16, u_224_19, u_224_20, u_224_21, u_224_22, u_224_23, u_224_24, u_224_27, u_224_30, u_224_31, u_224_32, u_224_35, u_224_37, u_224_38, u_224_41, u_224_42, u_224_43, u_224_44, u_224_45, u_224_48, u_224_51, u_224_52, u_224_55, u_224_56, gI0, gIs, gR0, gRs, gF0, gFs, st0, st_i, st_r, st_f, st_n, st_s, true_and, and_true, ↓ifLeT, ↓ifLeF, ↓ifLtT, ↓ifLtF, ↓ifEqT, ↓ifEqF, if_tt, if_ff, if_pos, if_neg, nLe, nLt, nEq, nInT, nCl, pk_mul, nI_add, Nat.reduceAdd, s_cat_nil, s_cat_i, s_cat_r, s_cat_f, s_cat_l, tl_s, tl_n, cat_i, cat_r, cat_f, nb0, nb1, nbI, if_bI, if_bIr, Nat.zero_le, Nat.reduceLeDiff, M_ob, M_g0, M_g1, M_g2, M_g3, M_g4, M_g5, M_g6, M_g7, M_g8, M_g9, M_g10, M_g11, M_g12, M_g13, M_g14, M_g15, M_g16, M_g17, M_g18, M_g19, M_g20, M_g21, M_g22, M_g23, M_g24, M_g25, M_g26, M_g27, M_g28, M_g29, M_g30, M_g31, M_g32, M_g33, M_g34, M_g35, M_g36, M_g37, M_g38, M_g39, M_g40, M_g41, q1, Option.isSome, iBf]
  | some n =>
    rw [hq] at q1
    obtain ⟨hg, hr, hok⟩ := RM_q hm hq
    have h8 := hok.1.1.2.1
    have r1 := hr.2.1
    have i1 := fun Q => in_T (d := d) (h := pM m h) (Q := Q) (x := x) (N := nF n 3) (by omega)
    have i2 : ∀ Q, MT (d + 1) 142 [.long x.toInt64, .long 10, .long (nI (9 + nF n 3)).toInt64] (pM m h) Q ↔ Q (some (.int (iB (ixN (x - nI 10) (nF n 3)).isSome))) (pM m h) := fun Q => by
      rw [m_in, show (10 : Int64) = (nI 10).toInt64 by decide, ← le_10 (by omega)]
      have e1 : decide ((nI 10).toInt64 ≤ x.toInt64) = decide (nI 10 ≤ x) := decide_eq_decide.mpr i2l_le
      have e2 : decide (x.toInt64 ≤ (nI (9 + nF n 3)).toInt64) = decide (x ≤ nI (9 + nF n 3)) := decide_eq_decide.mpr i2l_le
      rw [e1, e2]
    show _ ↔ Q (some (.int (iB (suchN n x)))) (pM m h)
    unfold suchN
    by_cases g : x = -1
    · rw [decide_eq_true g, Bool.true_or]
      simp (disch := omega) only [u_224_0, u_224_1, u_224_4, u_224_7, u_224_8, u_224_9, u_224_12, u_224_13, u_224_14, u_224_15, u_224_16, u_224_19, u_224_20, u_224_21, u_224_22, u_224_23, u_224_24, u_224_27, u_224_30, u_224_31, u_224_32, u_224_35, u_224_37, u_224_38, u_224_41, u_224_42, u_224_43, u_224_44, u_224_45, u_224_48, u_224_51, u_224_52, u_224_55, u_224_56, gI0, gIs, gR0, gRs, gF0, gFs, st0, st_i, st_r, st_f, st_n, st_s, true_and, and_true, ↓ifLeT, ↓ifLeF, ↓ifLtT, ↓ifLtF, ↓ifEqT, ↓ifEqF, if_tt, if_ff, if_pos, if_neg, nLe, nLt, nEq, nInT, nCl, pk_mul, nI_add, Nat.reduceAdd, s_cat_nil, s_cat_i, s_cat_r, s_cat_f, s_cat_l, tl_s, tl_n, cat_i, cat_r, cat_f, nb0, nb1, nbI, if_bI, if_bIr, Nat.zero_le, Nat.reduceLeDiff, M_ob, M_g0, M_g1, M_g2, M_g3, M_g4, M_g5, M_g6, M_g7, M_g8, M_g9, M_g10, M_g11, M_g12, M_g13, M_g14, M_g15, M_g16, M_g17, M_g18, M_g19, M_g20, M_g21, M_g22, M_g23, M_g24, M_g25, M_g26, M_g27, M_g28, M_g29, M_g30, M_g31, M_g32, M_g33, M_g34, M_g35, M_g36, M_g37, M_g38, M_g39, M_g40, M_g41, q1, g, Option.isSome, iBt, nI10, reduceIte]
    · rw [decide_eq_false g, Bool.false_or]
      cases h1 : (ixN x (nF n 3)).isSome with
      | true =>
        rw [h1] at i1
        rw [Bool.true_or]
        simp (disch := omega) only [u_224_0, u_224_1, u_224_4, u_224_7, u_224_8, u_224_9, u_224_12, u_224_13, u_224_14, u_224_15, u_224_16, u_224_19, u_224_20, u_224_21, u_224_22, u_224_23, u_224_24, u_224_27, u_224_30, u_224_31, u_224_32, u_224_35, u_224_37, u_224_38, u_224_41, u_224_42, u_224_43, u_224_44, u_224_45, u_224_48, u_224_51, u_224_52, u_224_55, u_224_56, gI0, gIs, gR0, gRs, gF0, gFs, st0, st_i, st_r, st_f, st_n, st_s, true_and, and_true, ↓ifLeT, ↓ifLeF, ↓ifLtT, ↓ifLtF, ↓ifEqT, ↓ifEqF, if_tt, if_ff, if_pos, if_neg, nLe, nLt, nEq, nInT, nCl, pk_mul, nI_add, Nat.reduceAdd, s_cat_nil, s_cat_i, s_cat_r, s_cat_f, s_cat_l, tl_s, tl_n, cat_i, cat_r, cat_f, nb0, nb1, nbI, if_bI, if_bIr, Nat.zero_le, Nat.reduceLeDiff, M_ob, M_g0, M_g1, M_g2, M_g3, M_g4, M_g5, M_g6, M_g7, M_g8, M_g9, M_g10, M_g11, M_g12, M_g13, M_g14, M_g15, M_g16, M_g17, M_g18, M_g19, M_g20, M_g21, M_g22, M_g23, M_g24, M_g25, M_g26, M_g27, M_g28, M_g29, M_g30, M_g31, M_g32, M_g33, M_g34, M_g35, M_g36, M_g37, M_g38, M_g39, M_g40, M_g41, M_r rb320, c1, r1, q1, g, i1, Option.isSome, iBt, nI10, reduceIte]
      | false =>
        rw [h1] at i1
        rw [Bool.false_or]
        cases h2 : (ixN (x - nI 10) (nF n 3)).isSome with
        | true =>
          rw [h2] at i2
          simp (disch := omega) only [u_224_0, u_224_1, u_224_4, u_224_7, u_224_8, u_224_9, u_224_12, u_224_13, u_224_14, u_224_15, u_224_16, u_224_19, u_224_20, u_224_21, u_224_22, u_224_23, u_224_24, u_224_27, u_224_30, u_224_31, u_224_32, u_224_35, u_224_37, u_224_38, u_224_41, u_224_42, u_224_43, u_224_44, u_224_45, u_224_48, u_224_51, u_224_52, u_224_55, u_224_56, gI0, gIs, gR0, gRs, gF0, gFs, st0, st_i, st_r, st_f, st_n, st_s, true_and, and_true, ↓ifLeT, ↓ifLeF, ↓ifLtT, ↓ifLtF, ↓ifEqT, ↓ifEqF, if_tt, if_ff, if_pos, if_neg, nLe, nLt, nEq, nInT, nCl, pk_mul, nI_add, Nat.reduceAdd, s_cat_nil, s_cat_i, s_cat_r, s_cat_f, s_cat_l, tl_s, tl_n, cat_i, cat_r, cat_f, nb0, nb1, nbI, if_bI, if_bIr, Nat.zero_le, Nat.reduceLeDiff, M_ob, M_g0, M_g1, M_g2, M_g3, M_g4, M_g5, M_g6, M_g7, M_g8, M_g9, M_g10, M_g11, M_g12, M_g13, M_g14, M_g15, M_g16, M_g17, M_g18, M_g19, M_g20, M_g21, M_g22, M_g23, M_g24, M_g25, M_g26, M_g27, M_g28, M_g29, M_g30, M_g31, M_g32, M_g33, M_g34, M_g35, M_g36, M_g37, M_g38, M_g39, M_g40, M_g41, M_r rb320, c1, r1, q1, g, i1, i2, Option.isSome, iBt, iBf, nI10, reduceIte]
        | false =>
          rw [h2] at i2
          simp (disch := omega) only [u_224_0, u_224_1, u_224_4, u_224_7, u_224_8, u_224_9, u_224_12, u_224_13, u_224_14, u_224_15, u_224_16, u_224_19, u_224_20, u_224_21, u_224_22, u_224_23, u_224_24, u_224_27, u_224_30, u_224_31, u_224_32, u_224_35, u_224_37, u_224_38, u_224_41, u_224_42, u_224_43, u_224_44, u_224_45, u_224_48, u_224_51, u_224_52, u_224_55, u_224_56, gI0, gIs, gR0, gRs, gF0, gFs, st0, st_i, st_r, st_f, st_n, st_s, true_and, and_true, ↓ifLeT, ↓ifLeF, ↓ifLtT, ↓ifLtF, ↓ifEqT, ↓ifEqF, if_tt, if_ff, if_pos, if_neg, nLe, nLt, nEq, nInT, nCl, pk_mul, nI_add, Nat.reduceAdd, s_cat_nil, s_cat_i, s_cat_r, s_cat_f, s_cat_l, tl_s, tl_n, cat_i, cat_r, cat_f, nb0, nb1, nbI, if_bI, if_bIr, Nat.zero_le, Nat.reduceLeDiff, M_ob, M_g0, M_g1, M_g2, M_g3, M_g4, M_g5, M_g6, M_g7, M_g8, M_g9, M_g10, M_g11, M_g12, M_g13, M_g14, M_g15, M_g16, M_g17, M_g18, M_g19, M_g20, M_g21, M_g22, M_g23, M_g24, M_g25, M_g26, M_g27, M_g28, M_g29, M_g30, M_g31, M_g32, M_g33, M_g34, M_g35, M_g36, M_g37, M_g38, M_g39, M_g40, M_g41, M_r rb320, c1, r1, q1, g, i1, i2, Option.isSome, iBt, iBf, nI10, reduceIte]
theorem r_clears (hn : wfN n) (hr : RR (kA m 320) n) (K : ∀ f, RR f (jL n (fun _ => [])) → Q none (pM (xA m 330 f) h)) : MT (d + 2) 218 [.ref 317] (pM m h) Q := by
  have h4 := hn.1.1
  have h8 := hn.1.2.1
  rw [MT_go (by decide) _ _ _ (Nat.le_of_ble_eq_true rfl), show s_entry 218 [.ref 317] = [.ref 317, s_no] from rfl]
  simp (disch := omega) only [u_218_0, u_218_1, u_218_4, u_218_5, u_218_8, u_218_11, u_218_12, u_218_14, u_218_15, u_218_18, u_218_19, u_218_22, u_218_23, u_218_24, u_218_27, u_218_28, u_218_29, u_218_32, u_218_35, gI0, gIs, gR0, gRs, gF0, gFs, st0, st_i, st_r, st_f, st_n, st_s, true_and, and_true, ↓ifLeT, ↓ifLeF, ↓ifLtT, ↓ifLtF, ↓ifEqT, ↓ifEqF, if_tt, if_ff, if_pos, if_neg, nLe, nLt, nEq, nInT, nCl, pk_mul, nI_add, Nat.reduceAdd, s_cat_nil, s_cat_i, s_cat_r, s_cat_f, s_cat_l, tl_s, tl_n, cat_i, cat_r, cat_f, nb0, nb1, nbI, if_bI, if_bIr, Nat.zero_le, Nat.reduceLeDiff, M_g0, M_g1, M_g2, M_g3, M_g4, M_g5, M_g6, M_g7, M_g8, M_g9, M_g10, M_g11, M_g12, M_g13, M_g14, M_g15, M_g16, M_g17, M_g18, M_g19, M_g20, M_g21, M_g22, M_g23, M_g24, M_g25, M_g26, M_g27, M_g28, M_g29, M_g30, M_g31, M_g32, M_g33, M_g34, M_g35, M_g36, M_g37, M_g38, M_g39, M_g40, M_g41]
  refine r_copy rb320 rb330 (by decide) fun f hf => ?_
  simp (disch := omega) only [u_218_0, u_218_1, u_218_4, u_218_5, u_218_8, u_218_11, u_218_12, u_218_14, u_218_15, u_218_18, u_218_19, u_218_22, u_218_23, u_218_24, u_218_27, u_218_28, u_218_29, u_218_32, u_218_35, gI0, gIs, gR0, gRs, gF0, gFs, st0, st_i, st_r, st_f, st_n, st_s, true_and, and_true, ↓ifLeT, ↓ifLeF, ↓ifLtT, ↓ifLtF, ↓ifEqT, ↓ifEqF, if_tt, if_ff, if_pos, if_neg, nLe, nLt, nEq, nInT, nCl, pk_mul, nI_add, Nat.reduceAdd, s_cat_nil, s_cat_i, s_cat_r, s_cat_f, s_cat_l, tl_s, tl_n, cat_i, cat_r, cat_f, nb0, nb1, nbI, if_bI, if_bIr, Nat.zero_le, Nat.reduceLeDiff]
  have lp : ∀ q c g, c + q = 4 → (∀ j, (∀ c', c' < 4 → j ≠ 2 + 12 * c' + 3) → g j = f j) → (∀ c', c' < c → g (2 + 12 * c' + 3) = nI 0) → WP (d + 1) 218 13 [.ref 317, .int (nI c)] [] (pM (xA m 330 g) h) (0, 0) Q := by
    intro q
    induction q with
    | zero =>
      intro c g hc h1 h2
      have e : c = 4 := by omega
      subst e
      rw [u_218_13]
      simp (disch := omega) only [u_218_0, u_218_1, u_218_4, u_218_5, u_218_8, u_218_11, u_218_12, u_218_14, u_218_15, u_218_18, u_218_19, u_218_22, u_218_23, u_218_24, u_218_27, u_218_28, u_218_29, u_218_32, u_218_35, gI0, gIs, gR0, gRs, gF0, gFs, st0, st_i, st_r, st_f, st_n, st_s, true_and, and_true, ↓ifLeT, ↓ifLeF, ↓ifLtT, ↓ifLtF, ↓ifEqT, ↓ifEqF, if_tt, if_ff, if_pos, if_neg, nLe, nLt, nEq, nInT, nCl, pk_mul, nI_add, Nat.reduceAdd, s_cat_nil, s_cat_i, s_cat_r, s_cat_f, s_cat_l, tl_s, tl_n, cat_i, cat_r, cat_f, nb0, nb1, nbI, if_bI, if_bIr, Nat.zero_le, Nat.reduceLeDiff]
      refine K g ?_
      obtain ⟨r0, r1, rc, rt⟩ := RR_cong hn hf hr
      refine ⟨(h1 0 (fun c' _ => by omega)).trans r0, (h1 1 (fun c' _ => by omega)).trans r1, fun c hc => ?_, fun t ht => ?_⟩
      · have hc : c < nF n 2 := hc
        obtain ⟨a, b, e, -, -⟩ := rc c hc
        exact ⟨(h1 _ (fun c' _ => by omega)).trans a, (h1 _ (fun c' _ => by omega)).trans b, (h1 _ (fun c' _ => by omega)).trans e, h2 c (by omega), fun k hk => absurd hk (Nat.not_lt_zero k)⟩
      · have ht : t < nF n 3 := ht
        obtain ⟨a, b, e, u, v, x, y⟩ := rt t ht
        exact ⟨(h1 _ (fun c' _ => by omega)).trans a, (h1 _ (fun c' _ => by omega)).trans b, (h1 _ (fun c' _ => by omega)).trans e, (h1 _ (fun c' _ => by omega)).trans u, (h1 _ (fun c' _ => by omega)).trans v, (h1 _ (fun c' _ => by omega)).trans x, (h1 _ (fun c' _ => by omega)).trans y⟩
    | succ q ih =>
      intro c g hc h1 h2
      rw [u_218_13]
      simp (disch := omega) only [u_218_0, u_218_1, u_218_4, u_218_5, u_218_8, u_218_11, u_218_12, u_218_14, u_218_15, u_218_18, u_218_19, u_218_22, u_218_23, u_218_24, u_218_27, u_218_28, u_218_29, u_218_32, u_218_35, gI0, gIs, gR0, gRs, gF0, gFs, st0, st_i, st_r, st_f, st_n, st_s, true_and, and_true, ↓ifLeT, ↓ifLeF, ↓ifLtT, ↓ifLtF, ↓ifEqT, ↓ifEqF, if_tt, if_ff, if_pos, if_neg, nLe, nLt, nEq, nInT, nCl, pk_mul, nI_add, Nat.reduceAdd, s_cat_nil, s_cat_i, s_cat_r, s_cat_f, s_cat_l, tl_s, tl_n, cat_i, cat_r, cat_f, nb0, nb1, nbI, if_bI, if_bIr, Nat.zero_le, Nat.reduceLeDiff, M_g0, M_g1, M_g2, M_g3, M_g4, M_g5, M_g6, M_g7, M_g8, M_g9, M_g10, M_g11, M_g12, M_g13, M_g14, M_g15, M_g16, M_g17, M_g18, M_g19, M_g20, M_g21, M_g22, M_g23, M_g24, M_g25, M_g26, M_g27, M_g28, M_g29, M_g30, M_g31, M_g32, M_g33, M_g34, M_g35, M_g36, M_g37, M_g38, M_g39, M_g40, M_g41, m_cAt, M_rw rb330, kA_eq, xA_tw]
      refine ih (c + 1) _ (by omega) (fun j hj => ?_) fun c' hc' => ?_
      · rw [upd_ne (hj c (by omega))]
        exact h1 j hj
      · by_cases e : c' = c
        · subst e; exact if_pos rfl
        · rw [upd_ne (by omega)]
          exact h2 c' (by omega)
  exact lp 4 0 f rfl (fun j _ => rfl) fun c' hc' => absurd hc' (Nat.not_lt_zero c')
theorem r_seeksB {o : Option Nat} {lo : Nat} (hm : RM m z) (hq : zQ z = some n) (ho : (o = none ∧ lo = 0) ∨ ∃ j, j < nF n 2 ∧ o = some j ∧ lo = 2 ^ j) (K : ∀ m', frT m m' → MF m' (nF n 2) (bestN (lostN n lo)) → Q none (pM m' h)) : MT (d + 26) 223 [.ref 317, .int (oI1 o)] (pM m h) Q := by
  obtain ⟨hg, hr, hok⟩ := RM_q hm hq
  have hn := hok.1
  have h4 := hn.1.1
  have h8 := hn.1.2.1
  have hl : wfN (lostN n lo) := wf_lost hn
  have ll := lfB_lt hn
  have fin : ∀ f, RR f (jL (lostN n lo) (fun _ => [])) → WP (d + 25) 223 20 [.ref 317, .int (oI1 o)] [] (pM (xA m 330 f) h) (0, 0) Q := fun f hf => by
    have hr2 : RR (kA (xI (xA m 330 f) 30 (nI 1000000)) 320) n := hr
    have e1 := fun Q => z_leftSet (d := d + 22) (m := xI (xA m 330 f) 30 (nI 1000000)) (h := h) (Q := Q) hn hr2
    have lf : bitsN (fun t => !nDone n t) (nF n 3) = lfB n := rfl
    rw [lf] at e1
    simp (disch := omega) only [u_223_0, u_223_1, u_223_4, u_223_5, u_223_6, u_223_9, u_223_10, u_223_13, u_223_14, u_223_15, u_223_18, u_223_19, u_223_20, u_223_21, u_223_23, u_223_26, u_223_27, u_223_28, u_223_29, u_223_32, u_223_35, gI0, gIs, gR0, gRs, gF0, gFs, st0, st_i, st_r, st_f, st_n, st_s, true_and, and_true, ↓ifLeT, ↓ifLeF, ↓ifLtT, ↓ifLtF, ↓ifEqT, ↓ifEqF, if_tt, if_ff, if_pos, if_neg, nLe, nLt, nEq, nInT, nCl, pk_mul, nI_add, Nat.reduceAdd, s_cat_nil, s_cat_i, s_cat_r, s_cat_f, s_cat_l, tl_s, tl_n, cat_i, cat_r, cat_f, nb0, nb1, nbI, if_bI, if_bIr, Nat.zero_le, Nat.reduceLeDiff, M_ob, M_g0, M_g1, M_g2, M_g3, M_g4, M_g5, M_g6, M_g7, M_g8, M_g9, M_g10, M_g11, M_g12, M_g13, M_g14, M_g15, M_g16, M_g17, M_g18, M_g19, M_g20, M_g21, M_g22, M_g23, M_g24, M_g25, M_g26, M_g27, M_g28, M_g29, M_g30, M_g31, M_g32, M_g33, M_g34, M_g35, M_g36, M_g37, M_g38, M_g39, M_g40, M_g41, M_s30, e1]
    have sb : sumN (fun u => ((lfB n).testBit u).toNat) 8 ≤ 8 * 1 := sum_bd fun u _ => by cases (lfB n).testBit u <;> decide
    refine r_seeks (n := lostN n lo) hl hn rfl rfl 13 0 (lfB n) (fun _ => []) (301, none) _ d _ (by show nF n 2 - 0 + _ < 13; omega) (Nat.zero_le _) ll (invE_0 (n := lostN n lo)) hg hg hr2 hf ⟨rfl, rfl⟩ fun m' f1 r1 hm1 => ?_
    simp (disch := omega) only [u_223_0, u_223_1, u_223_4, u_223_5, u_223_6, u_223_9, u_223_10, u_223_13, u_223_14, u_223_15, u_223_18, u_223_19, u_223_20, u_223_21, u_223_23, u_223_26, u_223_27, u_223_28, u_223_29, u_223_32, u_223_35, gI0, gIs, gR0, gRs, gF0, gFs, st0, st_i, st_r, st_f, st_n, st_s, true_and, and_true, ↓ifLeT, ↓ifLeF, ↓ifLtT, ↓ifLtF, ↓ifEqT, ↓ifEqF, if_tt, if_ff, if_pos, if_neg, nLe, nLt, nEq, nInT, nCl, pk_mul, nI_add, Nat.reduceAdd, s_cat_nil, s_cat_i, s_cat_r, s_cat_f, s_cat_l, tl_s, tl_n, cat_i, cat_r, cat_f, nb0, nb1, nbI, if_bI, if_bIr, Nat.zero_le, Nat.reduceLeDiff]
    exact K m' (frT_t frT_330 (frT_t frT_30 f1)) hm1
  rw [MT_go (by decide) _ _ _ (Nat.le_of_ble_eq_true rfl), show s_entry 223 [.ref 317, .int (oI1 o)] = [.ref 317, .int (oI1 o)] from rfl]
  simp (disch := omega) only [u_223_0, u_223_1, gI0, gIs, gR0, gRs, gF0, gFs, st0, st_i, st_r, st_f, st_n, st_s, true_and, and_true, ↓ifLeT, ↓ifLeF, ↓ifLtT, ↓ifLtF, ↓ifEqT, ↓ifEqF, if_tt, if_ff, if_pos, if_neg, nLe, nLt, nEq, nInT, nCl, pk_mul, nI_add, Nat.reduceAdd, s_cat_nil, s_cat_i, s_cat_r, s_cat_f, s_cat_l, tl_s, tl_n, cat_i, cat_r, cat_f, nb0, nb1, nbI, if_bI, if_bIr, Nat.zero_le, Nat.reduceLeDiff, M_ob]
  refine r_clears (d := d + 23) hn hr fun f hf => ?_
  rcases ho with ⟨e1, e2⟩ | ⟨j, hj, e1, e2⟩
  · have : oI1 o = -1 := by rw [e1]; rfl
    simp (disch := omega) only [u_223_4, u_223_5, u_223_6, u_223_9, u_223_10, u_223_13, u_223_14, u_223_15, u_223_18, u_223_19, gI0, gIs, gR0, gRs, gF0, gFs, st0, st_i, st_r, st_f, st_n, st_s, true_and, and_true, ↓ifLeT, ↓ifLeF, ↓ifLtT, ↓ifLtF, ↓ifEqT, ↓ifEqF, if_tt, if_ff, if_pos, if_neg, nLe, nLt, nEq, nInT, nCl, pk_mul, nI_add, Nat.reduceAdd, s_cat_nil, s_cat_i, s_cat_r, s_cat_f, s_cat_l, tl_s, tl_n, cat_i, cat_r, cat_f, nb0, nb1, nbI, if_bI, if_bIr, Nat.zero_le, Nat.reduceLeDiff, this, reduceIte]
    rw [this] at fin
    exact fin f (by rw [e2, lostN_0]; exact hf)
  · have : oI1 o = nI j := by rw [e1]; rfl
    have ne := m1_ne (j := j) (by omega)
    rw [this] at fin ⊢
    simp (disch := omega) only [u_223_4, u_223_5, u_223_6, u_223_9, u_223_10, u_223_13, u_223_14, u_223_15, u_223_18, u_223_19, gI0, gIs, gR0, gRs, gF0, gFs, st0, st_i, st_r, st_f, st_n, st_s, true_and, and_true, ↓ifLeT, ↓ifLeF, ↓ifLtT, ↓ifLtF, ↓ifEqT, ↓ifEqF, if_tt, if_ff, if_pos, if_neg, nLe, nLt, nEq, nInT, nCl, pk_mul, nI_add, Nat.reduceAdd, s_cat_nil, s_cat_i, s_cat_r, s_cat_f, s_cat_l, tl_s, tl_n, cat_i, cat_r, cat_f, nb0, nb1, nbI, if_bI, if_bIr, Nat.zero_le, Nat.reduceLeDiff, ne, reduceIte, M_g0, M_g1, M_g2, M_g3, M_g4, M_g5, M_g6, M_g7, M_g8, M_g9, M_g10, M_g11, M_g12, M_g13, M_g14, M_g15, M_g16, M_g17, M_g18, M_g19, M_g20, M_g21, M_g22, M_g23, M_g24, M_g25, M_g26, M_g27, M_g28, M_g29, M_g30, M_g31, M_g32, M_g33, M_g34, M_g35, M_g36, M_g37, M_g38, M_g39, M_g40, M_g41, m_cAt, M_rw rb330, kA_eq, xA_tw]
    refine fin _ ?_
    have := RR_K2 (v := true) (n := jL n (fun _ => [])) h4 (fun _ => Nat.zero_le _) hf hj
    rw [show nK (jL n (fun _ => [])) = nK n from rfl, set_lost, ← e2, iBt] at this
    exact this
theorem z_without (hm : RM m z) (K : ∀ m', RM m' z → Q (some (.int (zwithout z c))) (pM m' h)) : MT (d + 27) 250 [.ref 317, .int c] (pM m h) Q := by
  rw [MT_go (by decide) _ _ _ (Nat.le_of_ble_eq_true rfl), show s_entry 250 [.ref 317, .int c] = [.ref 317, .int c] from rfl]
  have hm0 := RM_0 (x := nI 0) hm
  have e1 := fun Q => z_isC (d := d + 24) (h := h) (Q := Q) (x := c) hm0
  unfold zwithout at K
  cases hq : zQ z with
  | none =>
    simp only [hq] at K
    rw [zC_0 hq, ix_0] at e1
    simp (disch := omega) only [u_250_0, u_250_1, u_250_2, u_250_5, u_250_6, u_250_7, u_250_10, u_250_13, u_250_16, u_250_17, u_250_18, u_250_21, u_250_24, u_250_26, u_250_27, u_250_28, u_250_29, u_250_32, u_250_33, u_250_36, u_250_39, gI0, gIs, gR0, gRs, gF0, gFs, st0, st_i, st_r, st_f, st_n, st_s, true_and, and_true, ↓ifLeT, ↓ifLeF, ↓ifLtT, ↓ifLtF, ↓ifEqT, ↓ifEqF, if_tt, if_ff, if_pos, if_neg, nLe, nLt, nEq, nInT, nCl, pk_mul, nI_add, Nat.reduceAdd, s_cat_nil, s_cat_i, s_cat_r, s_cat_f, s_cat_l, tl_s, tl_n, cat_i, cat_r, cat_f, nb0, nb1, nbI, if_bI, if_bIr, Nat.zero_le, Nat.reduceLeDiff, M_ob, M_s0, e1, Option.isSome, iBf]
    exact K _ hm0
  | some n =>
    simp only [hq] at K
    rw [zC_s hq] at e1
    obtain ⟨hg, hr, hok⟩ := RM_q hm0 hq
    have h4 := hok.1.1.1
    cases h1 : ixN c (nF n 2) with
    | none =>
      rw [h1] at e1
      simp only [h1] at K
      simp (disch := omega) only [u_250_0, u_250_1, u_250_2, u_250_5, u_250_6, u_250_7, u_250_10, u_250_13, u_250_16, u_250_17, u_250_18, u_250_21, u_250_24, u_250_26, u_250_27, u_250_28, u_250_29, u_250_32, u_250_33, u_250_36, u_250_39, gI0, gIs, gR0, gRs, gF0, gFs, st0, st_i, st_r, st_f, st_n, st_s, true_and, and_true, ↓ifLeT, ↓ifLeF, ↓ifLtT, ↓ifLtF, ↓ifEqT, ↓ifEqF, if_tt, if_ff, if_pos, if_neg, nLe, nLt, nEq, nInT, nCl, pk_mul, nI_add, Nat.reduceAdd, s_cat_nil, s_cat_i, s_cat_r, s_cat_f, s_cat_l, tl_s, tl_n, cat_i, cat_r, cat_f, nb0, nb1, nbI, if_bI, if_bIr, Nat.zero_le, Nat.reduceLeDiff, M_ob, M_s0, e1, Option.isSome, iBf]
      exact K _ hm0
    | some j =>
      rw [h1] at e1
      simp only [h1] at K
      obtain ⟨j1, rfl⟩ := ix_some (by omega) h1
      have e2 := fun Q => r_few (d := d + 22) (h := h) (Q := Q) hok.1 hr
      cases hf : fewN n with
      | false =>
        rw [hf] at e2
        simp only [hf, Bool.false_eq_true, if_false] at K
        simp (disch := omega) only [u_250_0, u_250_1, u_250_2, u_250_5, u_250_6, u_250_7, u_250_10, u_250_13, u_250_16, u_250_17, u_250_18, u_250_21, u_250_24, u_250_26, u_250_27, u_250_28, u_250_29, u_250_32, u_250_33, u_250_36, u_250_39, gI0, gIs, gR0, gRs, gF0, gFs, st0, st_i, st_r, st_f, st_n, st_s, true_and, and_true, ↓ifLeT, ↓ifLeF, ↓ifLtT, ↓ifLtF, ↓ifEqT, ↓ifEqF, if_tt, if_ff, if_pos, if_neg, nLe, nLt, nEq, nInT, nCl, pk_mul, nI_add, Nat.reduceAdd, s_cat_nil, s_cat_i, s_cat_r, s_cat_f, s_cat_l, tl_s, tl_n, cat_i, cat_r, cat_f, nb0, nb1, nbI, if_bI, if_bIr, Nat.zero_le, Nat.reduceLeDiff, M_ob, M_s0, e1, e2, Option.isSome, iBt, iBf, nI10, reduceIte]
        exact K _ hm0
      | true =>
        rw [hf] at e2
        simp only [hf, if_true] at K
        simp (disch := omega) only [u_250_0, u_250_1, u_250_2, u_250_5, u_250_6, u_250_7, u_250_10, u_250_13, u_250_16, u_250_17, u_250_18, u_250_21, u_250_24, u_250_26, u_250_27, u_250_28, u_250_29, u_250_32, u_250_33, u_250_36, u_250_39, gI0, gIs, gR0, gRs, gF0, gFs, st0, st_i, st_r, st_f, st_n, st_s, true_and, and_true, ↓ifLeT, ↓ifLeF, ↓ifLtT, ↓ifLtF, ↓ifEqT, ↓ifEqF, if_tt, if_ff, if_pos, if_neg, nLe, nLt, nEq, nInT, nCl, pk_mul, nI_add, Nat.reduceAdd, s_cat_nil, s_cat_i, s_cat_r, s_cat_f, s_cat_l, tl_s, tl_n, cat_i, cat_r, cat_f, nb0, nb1, nbI, if_bI, if_bIr, Nat.zero_le, Nat.reduceLeDiff, M_ob, M_s0, e1, e2, Option.isSome, iBt, nI10, reduceIte]
        refine r_seeksB (d := d) (o := some j) (lo := 2 ^ j) hm0 hq (Or.inr ⟨j, j1, rfl, rfl⟩) fun m' f1 mf => ?_
        obtain ⟨m30, mle⟩ := MF_30 mf
        have e3 := fun Q => m_told (d := d + 25) (h := pM m' h) (Q := Q) mle
        simp (disch := omega) only [u_250_0, u_250_1, u_250_2, u_250_5, u_250_6, u_250_7, u_250_10, u_250_13, u_250_16, u_250_17, u_250_18, u_250_21, u_250_24, u_250_26, u_250_27, u_250_28, u_250_29, u_250_32, u_250_33, u_250_36, u_250_39, gI0, gIs, gR0, gRs, gF0, gFs, st0, st_i, st_r, st_f, st_n, st_s, true_and, and_true, ↓ifLeT, ↓ifLeF, ↓ifLtT, ↓ifLtF, ↓ifEqT, ↓ifEqF, if_tt, if_ff, if_pos, if_neg, nLe, nLt, nEq, nInT, nCl, pk_mul, nI_add, Nat.reduceAdd, s_cat_nil, s_cat_i, s_cat_r, s_cat_f, s_cat_l, tl_s, tl_n, cat_i, cat_r, cat_f, nb0, nb1, nbI, if_bI, if_bIr, Nat.zero_le, Nat.reduceLeDiff, M_g0, M_g1, M_g2, M_g3, M_g4, M_g5, M_g6, M_g7, M_g8, M_g9, M_g10, M_g11, M_g12, M_g13, M_g14, M_g15, M_g16, M_g17, M_g18, M_g19, M_g20, M_g21, M_g22, M_g23, M_g24, M_g25, M_g26, M_g27, M_g28, M_g29, M_g30, M_g31, M_g32, M_g33, M_g34, M_g35, M_g36, M_g37, M_g38, M_g39, M_g40, M_g41, m30, e3]
        exact K m' (RM_fr (frT_Z f1) hm0)
end MBE
