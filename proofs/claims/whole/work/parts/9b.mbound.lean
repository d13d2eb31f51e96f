/-! the reference's bounds -/
theorem max_r {a b : Nat} : (if a < b then nI b else nI a) = nI (max a b) := by
  by_cases g : a < b
  · rw [if_pos g, Nat.max_eq_right (by omega)]
  · rw [if_neg g, Nat.max_eq_left (by omega)]
theorem crowd_le {n : tN} {a b c e : Nat} (H : ∀ t, t < nF n 3 → a ≤ nA n 12 t → nA n 12 t < b → c ≤ nA n 12 t ∧ nA n 12 t < e) : crowdN n a b ≤ crowdN n c e := sum_le fun t ht => by
  show (if _ then _ else _) ≤ (if _ then _ else _)
  by_cases g : a ≤ nA n 12 t ∧ nA n 12 t < b
  · rw [if_pos g, if_pos (H t ht g.1 g.2)]
    exact Nat.le_refl _
  · rw [if_neg g]
    exact Nat.zero_le _
theorem crw_all {n : tN} (hn : wfN n) : maxN (fun b => crowdN n b (b + nF n 1)) (nF n 0) = crwN n (min (nF n 1) (nF n 0)) := by
  have g1 := hn.1.2.2.2.2.1
  have b2 := hn.1.2.2.1
  have hs : ∀ t, t < nF n 3 → nA n 12 t < nF n 0 := fun t ht => (hn.2.2.1 t ht).1
  unfold crwN
  by_cases g : nF n 1 ≤ nF n 0
  · rw [Nat.min_eq_left g]
    refine Nat.le_antisymm (max_le fun b hb => ?_) (max_le fun b hb => max_ge (f := fun b => crowdN n b (b + nF n 1)) (by omega))
    by_cases e : b < nF n 0 + 1 - nF n 1
    · exact max_ge (f := fun b => crowdN n b (b + nF n 1)) e
    · refine Nat.le_trans (crowd_le (c := nF n 0 - nF n 1) (e := nF n 0 - nF n 1 + nF n 1) fun t ht h1 h2 => ?_) (max_ge (f := fun b => crowdN n b (b + nF n 1)) (j := nF n 0 - nF n 1) (by omega))
      have := hs t ht
      omega
  · rw [Nat.min_eq_right (by omega)]
    refine Nat.le_antisymm (max_le fun b hb => ?_) (max_le fun b hb => ?_)
    · refine Nat.le_trans (crowd_le (c := 0) (e := 0 + nF n 0) fun t ht h1 h2 => ?_) (max_ge (f := fun b => crowdN n b (b + nF n 0)) (j := 0) (by omega))
      have := hs t ht
      omega
    · have e : b = 0 := by omega
      subst e
      refine Nat.le_trans (crowd_le (c := 0) (e := 0 + nF n 1) fun t ht h1 h2 => ?_) (max_ge (f := fun b => crowdN n b (b + nF n 1)) (j := 0) (by omega))
      have := hs t ht
      omega
theorem crowd_sum {n : tN} (hn : wfN n) : crowdN n 0 (nF n 0) = sumN (leftN n) (nF n 3) := sum_cong fun t ht => if_pos ⟨Nat.zero_le _, (hn.2.2.1 t ht).1⟩
theorem able_0 {n : tN} : bitsN (nK n) (nF n 2) = 2 ^ nF n 2 - 1 ↔ ableN n = 0 := by
  have key : bitsN (nK n) (nF n 2) = 2 ^ nF n 2 - 1 ↔ ∀ c, c < nF n 2 → nK n c = true := by
    constructor
    · intro e c hc
      have h1 := bitsN_tb (f := nK n) (i := c) (nF n 2)
      rw [e, full_tb, decide_eq_true hc] at h1
      simpa using h1.symm
    · intro H
      refine (bitsN_eq (Nat.sub_lt (Nat.two_pow_pos _) (by decide)) fun c hc => ?_).symm
      rw [full_tb, decide_eq_true hc, H c hc]
  rw [key]
  constructor
  · intro H
    exact sum_zero fun c hc => by rw [H c hc]; rfl
  · intro e c hc
    have : (!nK n c).toNat ≤ ableN n := sum_ge (f := fun c => (!nK n c).toNat) hc
    rw [e] at this
    cases hk : nK n c with
    | true => rfl
    | false => rw [hk] at this; exact absurd this (by decide)
section MB
variable {b d : Nat} {m : tM} {h : sH} {i x y w c v t : Int32} {Q : sQ} {n : tN} {z : tQ} {k : sK}
theorem in_nn {a b c : Nat} (ha : a < 2 ^ 20) (hb : b < 2 ^ 20) (hc : c < 2 ^ 20) : MT (d + 1) 142 [.long (nI a).toInt64, .long (nI b).toInt64, .long (nI c).toInt64] h Q ↔ Q (some (.int (iB (decide (b ≤ a) && decide (a ≤ c))))) h := by
  rw [m_in]
  have e1 : decide ((nI b).toInt64 ≤ (nI a).toInt64) = decide (b ≤ a) := decide_eq_decide.mpr (by rw [i2l_le]; exact nI_leI (by omega) (by omega))
  have e2 : decide ((nI a).toInt64 ≤ (nI c).toInt64) = decide (a ≤ c) := decide_eq_decide.mpr (by rw [i2l_le]; exact nI_leI (by omega) (by omega))
  rw [e1, e2]
theorem r_rowOf (hn : wfN n) (hr : RR (kA m 320) n) : ∀ t, t < nF n 3 → ∀ d f, t < f → ∀ Q, (MT (d + t + 3) 253 [.ref 317, .int (nI t)] (pM m h) Q ↔ Q (some (.int (nI (rowN n f t)))) (pM m h)) := by
  intro t
  have h8 := hn.1.2.1
  induction t using Nat.strongRecOn with
  | ind t IH =>
    intro ht d f hf Q
    obtain ⟨f, rfl⟩ : ∃ g, f = g + 1 := ⟨f - 1, by omega⟩
    obtain ⟨-, -, -, a15, -⟩ := hr.2.2.2 t ht
    have b256 := bitsN_256 (f := nV n t) (k := 8) (by decide)
    rw [MT_go (by decide) _ _ _ (Nat.le_of_ble_eq_true rfl), show s_entry 253 [.ref 317, .int (nI t)] = [.ref 317, .int (nI t), s_no, s_no] from rfl]
    have bd : ∀ u, u ≤ t → maxN (fun u => if nV n t u then rowN n f u else 0) u ≤ 728 := fun u hu => max_le fun j hj => by
      have := row_bd hn.2.2.1 f j (by omega)
      show (if _ then _ else _) ≤ _
      split <;> omega
    have lp : ∀ q u, u + q = t → (WP (d + t + 2) 253 4 [.ref 317, .int (nI t), .int (nI (maxN (fun u => if nV n t u then rowN n f u else 0) u)), .int (nI u)] [] (pM m h) (0, 0) Q ↔ Q (some (.int (nI (rowN n (f + 1) t)))) (pM m h)) := by
      intro q
      induction q with
      | zero =>
        intro u hu
        have e : u = t := by omega
        subst e
        have e1 := fun Q => r_leftOf (d := d + u) (h := h) (Q := Q) rb320 hn hr ht
        rw [u_253_4]
        simp (disch := omega) only [u_253_0, u_253_1, u_253_2, u_253_3, u_253_5, u_253_6, u_253_9, u_253_10, u_253_13, u_253_14, u_253_15, u_253_18, u_253_19, u_253_20, u_253_21, u_253_22, u_253_23, u_253_24, u_253_27, u_253_28, u_253_29, u_253_30, u_253_33, u_253_36, u_253_39, u_253_40, u_253_41, u_253_44, u_253_47, u_253_48, u_253_49, u_253_52, u_253_53, u_253_56, u_253_57, gI0, gIs, gR0, gRs, gF0, gFs, st0, st_i, st_r, st_f, st_n, st_s, true_and, and_true, ↓ifLeT, ↓ifLeF, ↓ifLtT, ↓ifLtF, ↓ifEqT, ↓ifEqF, if_tt, if_ff, if_pos, if_neg, nLe, nLt, nEq, nInT, nCl, pk_mul, nI_add, Nat.reduceAdd, s_cat_nil, s_cat_i, s_cat_r, s_cat_f, s_cat_l, tl_s, tl_n, cat_i, cat_r, cat_f, nb0, nb1, nbI, if_bI, if_bIr, Nat.zero_le, Nat.reduceLeDiff, M_g0, M_g1, M_g2, M_g3, M_g4, M_g5, M_g6, M_g7, M_g8, M_g9, M_g10, M_g11, M_g12, M_g13, M_g14, M_g15, M_g16, M_g17, M_g18, M_g19, M_g20, M_g21, M_g22, M_g23, M_g24, M_g25, M_g26, M_g27, M_g28, M_g29, M_g30, M_g31, M_g32, M_g33, M_g34, M_g35, M_g36, M_g37, M_g38, M_g39, M_g40, M_g41, e1]
        exact Iff.rfl
      | succ q ih =>
        intro u hu
        have ih := ih (u + 1) (by omega)
        have b1 := bd u (by omega)
        have b2 := row_bd hn.2.2.1 f u (by omega)
        have bt := i_bit (m := bitsN (nV n t) 8) (c := u) (by omega) (by omega)
        rw [bitsN_tb, decide_eq_true (show u < 8 by omega), Bool.true_and] at bt
        rw [maxN] at ih
        rw [u_253_4]
        cases hv : nV n t u with
        | true =>
          rw [hv] at bt
          have bt : _ = nI 1 := bt
          simp only [hv, if_true] at ih
          have e1 := fun Q => IH u (by omega) (by omega) (d + t - u - 1) f (by omega) Q
          rw [show d + t - u - 1 + u + 3 = d + t + 2 by omega] at e1
          have mr := max_r (a := maxN (fun u => if nV n t u then rowN n f u else 0) u) (b := rowN n f u)
          simp (disch := omega) only [u_253_0, u_253_1, u_253_2, u_253_3, u_253_5, u_253_6, u_253_9, u_253_10, u_253_13, u_253_14, u_253_15, u_253_18, u_253_19, u_253_20, u_253_21, u_253_22, u_253_23, u_253_24, u_253_27, u_253_28, u_253_29, u_253_30, u_253_33, u_253_36, u_253_39, u_253_40, u_253_41, u_253_44, u_253_47, u_253_48, u_253_49, u_253_52, u_253_53, u_253_56, u_253_57, gI0, gIs, gR0, gRs, gF0, gFs, st0, st_i, st_r, st_f, st_n, st_s, true_and, and_true, ↓ifLeT, ↓ifLeF, ↓ifLtT, ↓ifLtF, ↓ifEqT, ↓ifEqF, if_tt, if_ff, if_pos, if_neg, nLe, nLt, nEq, nInT, nCl, pk_mul, nI_add, Nat.reduceAdd, s_cat_nil, s_cat_i, s_cat_r, s_cat_f, s_cat_l, tl_s, tl_n, cat_i, cat_r, cat_f, nb0, nb1, nbI, if_bI, if_bIr, Nat.zero_le, Nat.reduceLeDiff, M_ob, M_g0, M_g1, M_g2, M_g3, M_g4, M_g5, M_g6, M_g7, M_g8, M_g9, M_g10, M_g11, M_g12, M_g13, M_g14, M_g15, M_g16, M_g17, M_g18, M_g19, M_g20, M_g21, M_g22, M_g23, M_g24, M_g25, M_g26, M_g27, M_g28, M_g29, M_g30, M_g31, M_g32, M_g33, M_g34, M_g35, M_g36, M_g37, M_g38, M_g39, M_g40, M_g41, m_tAt, M_r rb320, a15, bt, e1, mr]
          exact ih
        | false =>
          rw [hv] at bt
          have bt : _ = nI 0 := bt
          simp only [hv, Bool.false_eq_true, if_false, Nat.max_zero] at ih
          simp (disch := omega) only [u_253_0, u_253_1, u_253_2, u_253_3, u_253_5, u_253_6, u_253_9, u_253_10, u_253_13, u_253_14, u_253_15, u_253_18, u_253_19, u_253_20, u_253_21, u_253_22, u_253_23, u_253_24, u_253_27, u_253_28, u_253_29, u_253_30, u_253_33, u_253_36, u_253_39, u_253_40, u_253_41, u_253_44, u_253_47, u_253_48, u_253_49, u_253_52, u_253_53, u_253_56, u_253_57, gI0, gIs, gR0, gRs, gF0, gFs, st0, st_i, st_r, st_f, st_n, st_s, true_and, and_true, ↓ifLeT, ↓ifLeF, ↓ifLtT, ↓ifLtF, ↓ifEqT, ↓ifEqF, if_tt, if_ff, if_pos, if_neg, nLe, nLt, nEq, nInT, nCl, pk_mul, nI_add, Nat.reduceAdd, s_cat_nil, s_cat_i, s_cat_r, s_cat_f, s_cat_l, tl_s, tl_n, cat_i, cat_r, cat_f, nb0, nb1, nbI, if_bI, if_bIr, Nat.zero_le, Nat.reduceLeDiff, M_ob, M_g0, M_g1, M_g2, M_g3, M_g4, M_g5, M_g6, M_g7, M_g8, M_g9, M_g10, M_g11, M_g12, M_g13, M_g14, M_g15, M_g16, M_g17, M_g18, M_g19, M_g20, M_g21, M_g22, M_g23, M_g24, M_g25, M_g26, M_g27, M_g28, M_g29, M_g30, M_g31, M_g32, M_g33, M_g34, M_g35, M_g36, M_g37, M_g38, M_g39, M_g40, M_g41, m_tAt, M_r rb320, a15, bt]
          exact ih
    have := lp t 0 (Nat.zero_add _)
    simp (disch := omega) only [u_253_0, u_253_1, u_253_2, u_253_3, u_253_5, u_253_6, u_253_9, u_253_10, u_253_13, u_253_14, u_253_15, u_253_18, u_253_19, u_253_20, u_253_21, u_253_22, u_253_23, u_253_24, u_253_27, u_253_28, u_253_29, u_253_30, u_253_33, u_253_36, u_253_39, u_253_40, u_253_41, u_253_44, u_253_47, u_253_48, u_253_49, u_253_52, u_253_53, u_253_56, u_253_57, gI0, gIs, gR0, gRs, gF0, gFs, st0, st_i, st_r, st_f, st_n, st_s, true_and, and_true, ↓ifLeT, ↓ifLeF, ↓ifLtT, ↓ifLtF, ↓ifEqT, ↓ifEqF, if_tt, if_ff, if_pos, if_neg, nLe, nLt, nEq, nInT, nCl, pk_mul, nI_add, Nat.reduceAdd, s_cat_nil, s_cat_i, s_cat_r, s_cat_f, s_cat_l, tl_s, tl_n, cat_i, cat_r, cat_f, nb0, nb1, nbI, if_bI, if_bIr, Nat.zero_le, Nat.reduceLeDiff]
    exact this
theorem r_first (hn : wfN n) (hr : RR (kA m 320) n) : MT (d + 12) 254 [.ref 317] (pM m h) Q ↔ Q (some (.int (nI (rowsN n)))) (pM m h) := by
  have h8 := hn.1.2.1
  have r1 := hr.2.1
  have c1 : (nI 1).toNatClampNeg = 1 := rfl
  rw [MT_go (by decide) _ _ _ (Nat.le_of_ble_eq_true rfl), show s_entry 254 [.ref 317] = [.ref 317, s_no, s_no] from rfl]
  have lp : ∀ q t, t + q = nF n 3 → (WP (d + 11) 254 4 [.ref 317, .int (nI (maxN (rowN n 8) t)), .int (nI t)] [] (pM m h) (0, 0) Q ↔ Q (some (.int (nI (rowsN n)))) (pM m h)) := by
    intro q
    induction q with
    | zero =>
      intro t ht
      have e : t = nF n 3 := by omega
      subst e
      rw [u_254_4]
      simp (disch := omega) only [u_254_0, u_254_1, u_254_2, u_254_3, u_254_5, u_254_6, u_254_9, u_254_10, u_254_11, u_254_14, u_254_15, u_254_16, u_254_17, u_254_20, u_254_23, u_254_24, u_254_27, u_254_30, u_254_31, gI0, gIs, gR0, gRs, gF0, gFs, st0, st_i, st_r, st_f, st_n, st_s, true_and, and_true, ↓ifLeT, ↓ifLeF, ↓ifLtT, ↓ifLtF, ↓ifEqT, ↓ifEqF, if_tt, if_ff, if_pos, if_neg, nLe, nLt, nEq, nInT, nCl, pk_mul, nI_add, Nat.reduceAdd, s_cat_nil, s_cat_i, s_cat_r, s_cat_f, s_cat_l, tl_s, tl_n, cat_i, cat_r, cat_f, nb0, nb1, nbI, if_bI, if_bIr, Nat.zero_le, Nat.reduceLeDiff, M_g0, M_g1, M_g2, M_g3, M_g4, M_g5, M_g6, M_g7, M_g8, M_g9, M_g10, M_g11, M_g12, M_g13, M_g14, M_g15, M_g16, M_g17, M_g18, M_g19, M_g20, M_g21, M_g22, M_g23, M_g24, M_g25, M_g26, M_g27, M_g28, M_g29, M_g30, M_g31, M_g32, M_g33, M_g34, M_g35, M_g36, M_g37, M_g38, M_g39, M_g40, M_g41, M_r rb320, c1, r1]
      exact Iff.rfl
    | succ q ih =>
      intro t ht
      have ih := ih (t + 1) (by omega)
      have b1 := rows_bd hn (k := t) (by omega)
      have b2 := row_bd hn.2.2.1 8 t (by omega)
      have e1 := fun Q => r_rowOf (h := h) hn hr t (by omega) (d + 8 - t) 8 (by omega) Q
      rw [show d + 8 - t + t + 3 = d + 11 by omega] at e1
      have mr := max_r (a := maxN (rowN n 8) t) (b := rowN n 8 t)
      rw [maxN] at ih
      rw [u_254_4]
      simp (disch := omega) only [u_254_0, u_254_1, u_254_2, u_254_3, u_254_5, u_254_6, u_254_9, u_254_10, u_254_11, u_254_14, u_254_15, u_254_16, u_254_17, u_254_20, u_254_23, u_254_24, u_254_27, u_254_30, u_254_31, gI0, gIs, gR0, gRs, gF0, gFs, st0, st_i, st_r, st_f, st_n, st_s, true_and, and_true, ↓ifLeT, ↓ifLeF, ↓ifLtT, ↓ifLtF, ↓ifEqT, ↓ifEqF, if_tt, if_ff, if_pos, if_neg, nLe, nLt, nEq, nInT, nCl, pk_mul, nI_add, Nat.reduceAdd, s_cat_nil, s_cat_i, s_cat_r, s_cat_f, s_cat_l, tl_s, tl_n, cat_i, cat_r, cat_f, nb0, nb1, nbI, if_bI, if_bIr, Nat.zero_le, Nat.reduceLeDiff, M_ob, M_g0, M_g1, M_g2, M_g3, M_g4, M_g5, M_g6, M_g7, M_g8, M_g9, M_g10, M_g11, M_g12, M_g13, M_g14, M_g15, M_g16, M_g17, M_g18, M_g19, M_g20, M_g21, M_g22, M_g23, M_g24, M_g25, M_g26, M_g27, M_g28, M_g29, M_g30, M_g31, M_g32, M_g33, M_g34, M_g35, M_g36, M_g37, M_g38, M_g39, M_g40, M_g41, M_r rb320, c1, r1, e1, mr]
      exact ih
  have := lp (nF n 3) 0 (Nat.zero_add _)
  simp (disch := omega) only [u_254_0, u_254_1, u_254_2, u_254_3, u_254_5, u_254_6, u_254_9, u_254_10, u_254_11, u_254_14, u_254_15, u_254_16, u_254_17, u_254_20, u_254_23, u_254_24, u_254_27, u_254_30, u_254_31, gI0, gIs, gR0, gRs, gF0, gFs, st0, st_i, st_r, st_f, st_n, st_s, true_and, and_true, ↓ifLeT, ↓ifLeF, ↓ifLtT, ↓ifLtF, ↓ifEqT, ↓ifEqF, if_tt, if_ff, if_pos, if_neg, nLe, nLt, nEq, nInT, nCl, pk_mul, nI_add, Nat.reduceAdd, s_cat_nil, s_cat_i, s_cat_r, s_cat_f, s_cat_l, tl_s, tl_n, cat_i, cat_r, cat_f, nb0, nb1, nbI, if_bI, if_bIr, Nat.zero_le, Nat.reduceLeDiff]
  exact this
theorem r_second (hn : wfN n) (ha : 1 ≤ ableN n) (h10 : kI m 10 = nI (nF n 2)) (hr : RR (kA m 320) n) : MT (d + 3) 255 [.ref 317] (pM m h) Q ↔ Q (some (.int (nI (shareN n)))) (pM m h) := by
  have h4 := hn.1.1
  have h8 := hn.1.2.1
  have r1 := hr.2.1
  have c1 : (nI 1).toNatClampNeg = 1 := rfl
  have cs := crowd_sum hn
  have cb := crowd_bd hn (lo := 0) (hi := nF n 0)
  have sn := sum_not (f := nK n) (nF n 2)
  have an : ableN n = sumN (fun c => (!nK n c).toNat) (nF n 2) := rfl
  have bb := bitsN_256 (f := nK n) (k := nF n 2) (by omega)
  rw [MT_go (by decide) _ _ _ (Nat.le_of_ble_eq_true rfl), show s_entry 255 [.ref 317] = [.ref 317, s_no, s_no] from rfl]
  have lp : ∀ q t, t + q = nF n 3 → (WP (d + 2) 255 4 [.ref 317, .int (nI (sumN (leftN n) t)), .int (nI t)] [] (pM m h) (0, 0) Q ↔ Q (some (.int (nI (shareN n)))) (pM m h)) := by
    intro q
    induction q with
    | zero =>
      intro t ht
      have e : t = nF n 3 := by omega
      subst e
      have e1 := fun Q => z_brokenSet (d := d) (h := h) (Q := Q) hn h10 hr
      have e2 := fun Q => m_bitCount (d := d + 1) (h := pM m h) (Q := Q) bb
      rw [pop_bits h4] at e2
      have sa : nI (nF n 2) - nI (sumN (fun c => (nK n c).toNat) (nF n 2)) = nI (ableN n) := by
        rw [pk_sub (by omega)]
        congr 1
        omega
      have sb : nI (sumN (leftN n) (nF n 3) + ableN n) - nI 1 = nI (sumN (leftN n) (nF n 3) + ableN n - 1) := pk_sub (by omega)
      have dv : nI (sumN (leftN n) (nF n 3) + ableN n - 1) / nI (ableN n) = nI (shareN n) := by
        rw [pk_div (by omega) (by omega) (by omega), ← cs]
        rfl
      have ne : ¬ nI (ableN n) = 0 := fun q => by have := (nI_eq (a := ableN n) (b := 0) (by omega) (by omega)).mp q; omega
      rw [u_255_4]
      simp (disch := omega) only [u_255_0, u_255_1, u_255_2, u_255_3, u_255_5, u_255_6, u_255_9, u_255_10, u_255_11, u_255_14, u_255_15, u_255_16, u_255_19, u_255_20, u_255_23, u_255_24, u_255_25, u_255_28, u_255_31, u_255_32, u_255_35, u_255_36, u_255_39, u_255_42, u_255_43, u_255_44, u_255_45, u_255_46, u_255_47, u_255_48, u_255_49, u_255_50, u_255_51, gI0, gIs, gR0, gRs, gF0, gFs, st0, st_i, st_r, st_f, st_n, st_s, true_and, and_true, ↓ifLeT, ↓ifLeF, ↓ifLtT, ↓ifLtF, ↓ifEqT, ↓ifEqF, if_tt, if_ff, if_pos, if_neg, nLe, nLt, nEq, nInT, nCl, pk_mul, nI_add, Nat.reduceAdd, s_cat_nil, s_cat_i, s_cat_r, s_cat_f, s_cat_l, tl_s, tl_n, cat_i, cat_r, cat_f, nb0, nb1, nbI, if_bI, if_bIr, Nat.zero_le, Nat.reduceLeDiff, M_ob, M_g0, M_g1, M_g2, M_g3, M_g4, M_g5, M_g6, M_g7, M_g8, M_g9, M_g10, M_g11, M_g12, M_g13, M_g14, M_g15, M_g16, M_g17, M_g18, M_g19, M_g20, M_g21, M_g22, M_g23, M_g24, M_g25, M_g26, M_g27, M_g28, M_g29, M_g30, M_g31, M_g32, M_g33, M_g34, M_g35, M_g36, M_g37, M_g38, M_g39, M_g40, M_g41, M_r rb320, c1, r1, h10, e1, e2, sa, sb, dv, ne, not_false_iff]
    | succ q ih =>
      intro t ht
      have ih := ih (t + 1) (by omega)
      have e1 := fun Q => r_leftOf (d := d) (h := h) (Q := Q) (t := t) rb320 hn hr (by omega)
      rw [sumN] at ih
      rw [u_255_4]
      simp (disch := omega) only [u_255_0, u_255_1, u_255_2, u_255_3, u_255_5, u_255_6, u_255_9, u_255_10, u_255_11, u_255_14, u_255_15, u_255_16, u_255_19, u_255_20, u_255_23, u_255_24, u_255_25, u_255_28, u_255_31, u_255_32, u_255_35, u_255_36, u_255_39, u_255_42, u_255_43, u_255_44, u_255_45, u_255_46, u_255_47, u_255_48, u_255_49, u_255_50, u_255_51, gI0, gIs, gR0, gRs, gF0, gFs, st0, st_i, st_r, st_f, st_n, st_s, true_and, and_true, ↓ifLeT, ↓ifLeF, ↓ifLtT, ↓ifLtF, ↓ifEqT, ↓ifEqF, if_tt, if_ff, if_pos, if_neg, nLe, nLt, nEq, nInT, nCl, pk_mul, nI_add, Nat.reduceAdd, s_cat_nil, s_cat_i, s_cat_r, s_cat_f, s_cat_l, tl_s, tl_n, cat_i, cat_r, cat_f, nb0, nb1, nbI, if_bI, if_bIr, Nat.zero_le, Nat.reduceLeDiff, M_ob, M_g0, M_g1, M_g2, M_g3, M_g4, M_g5, M_g6, M_g7, M_g8, M_g9, M_g10, M_g11, M_g12, M_g13, M_g14, M_g15, M_g16, M_g17, M_g18, M_g19, M_g20, M_g21, M_g22, M_g23, M_g24, M_g25, M_g26, M_g27, M_g28, M_g29, M_g30, M_g31, M_g32, M_g33, M_g34, M_g35, M_g36, M_g37, M_g38, M_g39, M_g40, M_g41, M_r rb320, c1, r1, e1]
      exact ih
  have := lp (nF n 3) 0 (Nat.zero_add _)
  simp (disch := omega) only [u_255_0, u_255_1, u_255_2, u_255_3, u_255_5, u_255_6, u_255_9, u_255_10, u_255_11, u_255_14, u_255_15, u_255_16, u_255_19, u_255_20, u_255_23, u_255_24, u_255_25, u_255_28, u_255_31, u_255_32, u_255_35, u_255_36, u_255_39, u_255_42, u_255_43, u_255_44, u_255_45, u_255_46, u_255_47, u_255_48, u_255_49, u_255_50, u_255_51, gI0, gIs, gR0, gRs, gF0, gFs, st0, st_i, st_r, st_f, st_n, st_s, true_and, and_true, ↓ifLeT, ↓ifLeF, ↓ifLtT, ↓ifLtF, ↓ifEqT, ↓ifEqF, if_tt, if_ff, if_pos, if_neg, nLe, nLt, nEq, nInT, nCl, pk_mul, nI_add, Nat.reduceAdd, s_cat_nil, s_cat_i, s_cat_r, s_cat_f, s_cat_l, tl_s, tl_n, cat_i, cat_r, cat_f, nb0, nb1, nbI, if_bI, if_bIr, Nat.zero_le, Nat.reduceLeDiff]
  exact this
theorem r_third_in {a X : Nat} (hn : wfN n) (hr : RR (kA m 320) n) (h9 : kI m 9 = nI (nF n 1)) (ha : a < nF n 0) : ∀ q t, t + q = nF n 3 → (WP (d + 2) 256 17 [.ref 317, .int (nI X), .int (nI a), .int (nI (sumN (fun t => if a ≤ nA n 12 t ∧ nA n 12 t < a + nF n 1 then leftN n t else 0) t)), .int (nI t)] [] (pM m h) (0, 0) Q ↔ WP (d + 2) 256 79 [.ref 317, .int (nI X), .int (nI a), .int (nI (crowdN n a (a + nF n 1))), .int (nI (nF n 3))] [] (pM m h) (0, 0) Q) := by
  have h8 := hn.1.2.1
  have hb := hn.1.2.2.2.1
  have g1 := hn.1.2.2.2.2.1
  have g5 := hn.1.2.2.2.2.2
  have r1 := hr.2.1
  have c1 : (nI 1).toNatClampNeg = 1 := rfl
  intro q
  induction q with
  | zero =>
    intro t ht
    have e : t = nF n 3 := by omega
    subst e
    rw [u_256_17]
    simp (disch := omega) only [u_256_0, u_256_1, u_256_2, u_256_3, u_256_5, u_256_6, u_256_9, u_256_12, u_256_13, u_256_14, u_256_15, u_256_19, u_256_20, u_256_23, u_256_24, u_256_25, u_256_28, u_256_29, u_256_30, u_256_33, u_256_35, u_256_36, u_256_39, u_256_40, u_256_41, u_256_42, u_256_43, u_256_44, u_256_45, u_256_48, u_256_49, u_256_50, u_256_51, u_256_52, u_256_55, u_256_58, u_256_59, u_256_62, u_256_64, u_256_67, u_256_70, u_256_71, u_256_72, u_256_73, u_256_76, u_256_80, u_256_81, u_256_84, u_256_85, u_256_88, u_256_91, u_256_92, gI0, gIs, gR0, gRs, gF0, gFs, st0, st_i, st_r, st_f, st_n, st_s, true_and, and_true, ↓ifLeT, ↓ifLeF, ↓ifLtT, ↓ifLtF, ↓ifEqT, ↓ifEqF, if_tt, if_ff, if_pos, if_neg, nLe, nLt, nEq, nInT, nCl, pk_mul, nI_add, Nat.reduceAdd, s_cat_nil, s_cat_i, s_cat_r, s_cat_f, s_cat_l, tl_s, tl_n, cat_i, cat_r, cat_f, nb0, nb1, nbI, if_bI, if_bIr, Nat.zero_le, Nat.reduceLeDiff, M_g0, M_g1, M_g2, M_g3, M_g4, M_g5, M_g6, M_g7, M_g8, M_g9, M_g10, M_g11, M_g12, M_g13, M_g14, M_g15, M_g16, M_g17, M_g18, M_g19, M_g20, M_g21, M_g22, M_g23, M_g24, M_g25, M_g26, M_g27, M_g28, M_g29, M_g30, M_g31, M_g32, M_g33, M_g34, M_g35, M_g36, M_g37, M_g38, M_g39, M_g40, M_g41, M_r rb320, c1, r1]
    exact Iff.rfl
  | succ q ih =>
    intro t ht
    have ih := ih (t + 1) (by omega)
    have a12 := (hr.2.2.2 t (by omega)).1
    have b12 := (hn.2.2.1 t (by omega)).1
    have e1 := fun Q => r_leftOf (d := d) (h := h) (Q := Q) (t := t) rb320 hn hr (by omega)
    have sb : nI (a + nF n 1) - nI 1 = nI (a + nF n 1 - 1) := pk_sub (by omega)
    have e2 := fun Q => in_nn (d := d + 1) (h := pM m h) (Q := Q) (a := nA n 12 t) (b := a) (c := a + nF n 1 - 1) (by omega) (by omega) (by omega)
    rw [sumN] at ih
    rw [u_256_17]
    by_cases g : a ≤ nA n 12 t ∧ nA n 12 t < a + nF n 1
    · rw [if_pos g] at ih
      rw [decide_eq_true g.1, decide_eq_true (show nA n 12 t ≤ a + nF n 1 - 1 by omega)] at e2
      simp (disch := omega) only [u_256_0, u_256_1, u_256_2, u_256_3, u_256_5, u_256_6, u_256_9, u_256_12, u_256_13, u_256_14, u_256_15, u_256_19, u_256_20, u_256_23, u_256_24, u_256_25, u_256_28, u_256_29, u_256_30, u_256_33, u_256_35, u_256_36, u_256_39, u_256_40, u_256_41, u_256_42, u_256_43, u_256_44, u_256_45, u_256_48, u_256_49, u_256_50, u_256_51, u_256_52, u_256_55, u_256_58, u_256_59, u_256_62, u_256_64, u_256_67, u_256_70, u_256_71, u_256_72, u_256_73, u_256_76, u_256_80, u_256_81, u_256_84, u_256_85, u_256_88, u_256_91, u_256_92, gI0, gIs, gR0, gRs, gF0, gFs, st0, st_i, st_r, st_f, st_n, st_s, true_and, and_true, ↓ifLeT, ↓ifLeF, ↓ifLtT, ↓ifLtF, ↓ifEqT, ↓ifEqF, if_tt, if_ff, if_pos, if_neg, nLe, nLt, nEq, nInT, nCl, pk_mul, nI_add, Nat.reduceAdd, s_cat_nil, s_cat_i, s_cat_r, s_cat_f, s_cat_l, tl_s, tl_n, cat_i, cat_r, cat_f, nb0, nb1, nbI, if_bI, if_bIr, Nat.zero_le, Nat.reduceLeDiff, M_g0, M_g1, M_g2, M_g3, M_g4, M_g5, M_g6, M_g7, M_g8, M_g9, M_g10, M_g11, M_g12, M_g13, M_g14, M_g15, M_g16, M_g17, M_g18, M_g19, M_g20, M_g21, M_g22, M_g23, M_g24, M_g25, M_g26, M_g27, M_g28, M_g29, M_g30, M_g31, M_g32, M_g33, M_g34, M_g35, M_g36, M_g37, M_g38, M_g39, M_g40, M_g41, m_tAt, M_r rb320, c1, r1, h9, a12, e1, e2, sb, Bool.and_self, iBt, nI10, reduceIte]
      exact ih
    · rw [if_neg g] at ih
      have f : (decide (a ≤ nA n 12 t) && decide (nA n 12 t ≤ a + nF n 1 - 1)) = false := by
        rw [Bool.and_eq_false_iff, decide_eq_false_iff_not, decide_eq_false_iff_not]
        omega
      rw [f] at e2
      simp (disch := omega) only [u_256_0, u_256_1, u_256_2, u_256_3, u_256_5, u_256_6, u_256_9, u_256_12, u_256_13, u_256_14, u_256_15, u_256_19, u_256_20, u_256_23, u_256_24, u_256_25, u_256_28, u_256_29, u_256_30, u_256_33, u_256_35, u_256_36, u_256_39, u_256_40, u_256_41, u_256_42, u_256_43, u_256_44, u_256_45, u_256_48, u_256_49, u_256_50, u_256_51, u_256_52, u_256_55, u_256_58, u_256_59, u_256_62, u_256_64, u_256_67, u_256_70, u_256_71, u_256_72, u_256_73, u_256_76, u_256_80, u_256_81, u_256_84, u_256_85, u_256_88, u_256_91, u_256_92, gI0, gIs, gR0, gRs, gF0, gFs, st0, st_i, st_r, st_f, st_n, st_s, true_and, and_true, ↓ifLeT, ↓ifLeF, ↓ifLtT, ↓ifLtF, ↓ifEqT, ↓ifEqF, if_tt, if_ff, if_pos, if_neg, nLe, nLt, nEq, nInT, nCl, pk_mul, nI_add, Nat.reduceAdd, s_cat_nil, s_cat_i, s_cat_r, s_cat_f, s_cat_l, tl_s, tl_n, cat_i, cat_r, cat_f, nb0, nb1, nbI, if_bI, if_bIr, Nat.zero_le, Nat.reduceLeDiff, M_g0, M_g1, M_g2, M_g3, M_g4, M_g5, M_g6, M_g7, M_g8, M_g9, M_g10, M_g11, M_g12, M_g13, M_g14, M_g15, M_g16, M_g17, M_g18, M_g19, M_g20, M_g21, M_g22, M_g23, M_g24, M_g25, M_g26, M_g27, M_g28, M_g29, M_g30, M_g31, M_g32, M_g33, M_g34, M_g35, M_g36, M_g37, M_g38, M_g39, M_g40, M_g41, m_tAt, M_r rb320, c1, r1, h9, a12, e2, sb, iBf]
      exact ih
theorem r_third (hn : wfN n) (h8' : kI m 8 = nI (nF n 0)) (h9 : kI m 9 = nI (nF n 1)) (hr : RR (kA m 320) n) : MT (d + 3) 256 [.ref 317] (pM m h) Q ↔ Q (some (.int (nI (crwN n (min (nF n 1) (nF n 0)))))) (pM m h) := by
  have hb := hn.1.2.2.2.1
  rw [← crw_all hn]
  rw [MT_go (by decide) _ _ _ (Nat.le_of_ble_eq_true rfl), show s_entry 256 [.ref 317] = [.ref 317, s_no, s_no, s_no, s_no] from rfl]
  have lp : ∀ q a v w, a + q = nF n 0 → (WP (d + 2) 256 4 [.ref 317, .int (nI (maxN (fun b => crowdN n b (b + nF n 1)) a)), .int (nI a), v, w] [] (pM m h) (0, 0) Q ↔ Q (some (.int (nI (maxN (fun b => crowdN n b (b + nF n 1)) (nF n 0))))) (pM m h)) := by
    intro q
    induction q with
    | zero =>
      intro a v w ht
      have e : a = nF n 0 := by omega
      subst e
      rw [u_256_4]
      simp (disch := omega) only [u_256_0, u_256_1, u_256_2, u_256_3, u_256_5, u_256_6, u_256_9, u_256_12, u_256_13, u_256_14, u_256_15, u_256_19, u_256_20, u_256_23, u_256_24, u_256_25, u_256_28, u_256_29, u_256_30, u_256_33, u_256_35, u_256_36, u_256_39, u_256_40, u_256_41, u_256_42, u_256_43, u_256_44, u_256_45, u_256_48, u_256_49, u_256_50, u_256_51, u_256_52, u_256_55, u_256_58, u_256_59, u_256_62, u_256_64, u_256_67, u_256_70, u_256_71, u_256_72, u_256_73, u_256_76, u_256_79, u_256_80, u_256_81, u_256_84, u_256_85, u_256_88, u_256_91, u_256_92, gI0, gIs, gR0, gRs, gF0, gFs, st0, st_i, st_r, st_f, st_n, st_s, true_and, and_true, ↓ifLeT, ↓ifLeF, ↓ifLtT, ↓ifLtF, ↓ifEqT, ↓ifEqF, if_tt, if_ff, if_pos, if_neg, nLe, nLt, nEq, nInT, nCl, pk_mul, nI_add, Nat.reduceAdd, s_cat_nil, s_cat_i, s_cat_r, s_cat_f, s_cat_l, tl_s, tl_n, cat_i, cat_r, cat_f, nb0, nb1, nbI, if_bI, if_bIr, Nat.zero_le, Nat.reduceLeDiff, M_g0, M_g1, M_g2, M_g3, M_g4, M_g5, M_g6, M_g7, M_g8, M_g9, M_g10, M_g11, M_g12, M_g13, M_g14, M_g15, M_g16, M_g17, M_g18, M_g19, M_g20, M_g21, M_g22, M_g23, M_g24, M_g25, M_g26, M_g27, M_g28, M_g29, M_g30, M_g31, M_g32, M_g33, M_g34, M_g35, M_g36, M_g37, M_g38, M_g39, M_g40, M_g41, h8']
    | succ q ih =>
      intro a v w ht
      have ih := fun v w => ih (a + 1) v w (by omega)
      have b1 := crw_bd hn (w := nF n 1) (k := a)
      have b2 := crowd_bd hn (lo := a) (hi := a + nF n 1)
      have lp := r_third_in (d := d) (h := h) (Q := Q) (X := maxN (fun b => crowdN n b (b + nF n 1)) a) hn hr h9 (a := a) (by omega) (nF n 3) 0 (Nat.zero_add _)
      have mr := max_r (a := maxN (fun b => crowdN n b (b + nF n 1)) a) (b := crowdN n a (a + nF n 1))
      rw [maxN] at ih
      have lp : WP (d + 2) 256 17 [.ref 317, .int (nI (maxN (fun b => crowdN n b (b + nF n 1)) a)), .int (nI a), .int (nI 0), .int (nI 0)] [] (pM m h) (0, 0) Q ↔ _ := lp
      rw [u_256_4]
      simp (disch := omega) only [u_256_0, u_256_1, u_256_2, u_256_3, u_256_5, u_256_6, u_256_9, u_256_12, u_256_13, u_256_14, u_256_15, u_256_19, u_256_20, u_256_23, u_256_24, u_256_25, u_256_28, u_256_29, u_256_30, u_256_33, u_256_35, u_256_36, u_256_39, u_256_40, u_256_41, u_256_42, u_256_43, u_256_44, u_256_45, u_256_48, u_256_49, u_256_50, u_256_51, u_256_52, u_256_55, u_256_58, u_256_59, u_256_62, u_256_64, u_256_67, u_256_70, u_256_71, u_256_72, u_256_73, u_256_76, u_256_79, u_256_80, u_256_81, u_256_84, u_256_85, u_256_88, u_256_91, u_256_92, gI0, gIs, gR0, gRs, gF0, gFs, st0, st_i, st_r, st_f, st_n, st_s, true_and, and_true, ↓ifLeT, ↓ifLeF, ↓ifLtT, ↓ifLtF, ↓ifEqT, ↓ifEqF, if_tt, if_ff, if_pos, if_neg, nLe, nLt, nEq, nInT, nCl, pk_mul, nI_add, Nat.reduceAdd, s_cat_nil, s_cat_i, s_cat_r, s_cat_f, s_cat_l, tl_s, tl_n, cat_i, cat_r, cat_f, nb0, nb1, nbI, if_bI, if_bIr, Nat.zero_le, Nat.reduceLeDiff, M_g0, M_g1, M_g2, M_g3, M_g4, M_g5, M_g6, M_g7, M_g8, M_g9, M_g10, M_g11, M_g12, M_g13, M_g14, M_g15, M_g16, M_g17, M_g18, M_g19, M_g20, M_g21, M_g22, M_g23, M_g24, M_g25, M_g26, M_g27, M_g28, M_g29, M_g30, M_g31, M_g32, M_g33, M_g34, M_g35, M_g36, M_g37, M_g38, M_g39, M_g40, M_g41, h8', lp, mr]
      exact ih _ _
  have := lp (nF n 0) 0 s_no s_no (Nat.zero_add _)
  simp (disch := omega) only [u_256_0, u_256_1, u_256_2, u_256_3, u_256_5, u_256_6, u_256_9, u_256_12, u_256_13, u_256_14, u_256_15, u_256_19, u_256_20, u_256_23, u_256_24, u_256_25, u_256_28, u_256_29, u_256_30, u_256_33, u_256_35, u_256_36, u_256_39, u_256_40, u_256_41, u_256_42, u_256_43, u_256_44, u_256_45, u_256_48, u_256_49, u_256_50, u_256_51, u_256_52, u_256_55, u_256_58, u_256_59, u_256_62, u_256_64, u_256_67, u_256_70, u_256_71, u_256_72, u_256_73, u_256_76, u_256_79, u_256_80, u_256_81, u_256_84, u_256_85, u_256_88, u_256_91, u_256_92, gI0, gIs, gR0, gRs, gF0, gFs, st0, st_i, st_r, st_f, st_n, st_s, true_and, and_true, ↓ifLeT, ↓ifLeF, ↓ifLtT, ↓ifLtF, ↓ifEqT, ↓ifEqF, if_tt, if_ff, if_pos, if_neg, nLe, nLt, nEq, nInT, nCl, pk_mul, nI_add, Nat.reduceAdd, s_cat_nil, s_cat_i, s_cat_r, s_cat_f, s_cat_l, tl_s, tl_n, cat_i, cat_r, cat_f, nb0, nb1, nbI, if_bI, if_bIr, Nat.zero_le, Nat.reduceLeDiff]
  exact this
theorem z_bound (hm : RM m z) (K : ∀ m', RM m' z → Q (some (.int (zbound z w))) (pM m' h)) : MT (d + 13) 257 [.ref 317, .int w] (pM m h) Q := by
  rw [MT_go (by decide) _ _ _ (Nat.le_of_ble_eq_true rfl), show s_entry 257 [.ref 317, .int w] = [.ref 317, .int w] from rfl]
  have hm0 := RM_0 (x := nI 0) hm
  have q1 := hm.2.1.1
  unfold zbound at K
  cases hq : zQ z with
  | none =>
    simp only [hq] at K
    rw [hq] at q1
    simp (disch := omega) only [u_257_0, u_257_1, u_257_2, u_257_5, u_257_6, u_257_9, u_257_12, u_257_13, u_257_14, u_257_15, u_257_18, u_257_21, u_257_24, u_257_27, u_257_28, u_257_29, u_257_32, u_257_35, u_257_36, u_257_37, u_257_38, u_257_41, u_257_42, u_257_43, u_257_46, u_257_47, u_257_48, u_257_49, u_257_52, u_257_53, u_257_54, u_257_55, u_257_80, u_257_81, u_257_84, u_257_85, u_257_86, u_257_89, u_257_90, u_257_91, u_257_94, u_257_95, u_257_96, u_257_99, u_257_100, u_257_103, u_257_104, u_257_107, u_257_110, u_257_113, gI0, gIs, gR0, gRs, gF0, gFs, st0, st_i, st_r, st_f, st_n, st_s, true_and, and_true, ↓ifLeT, ↓ifLeF, ↓ifLtT, ↓ifLtF, ↓ifEqT, ↓ifEqF, if_tt, if_ff, if_pos, if_neg, nLe, nLt, nEq, nInT, nCl, pk_mul, nI_add, Nat.reduceAdd, s_cat_nil, s_cat_i, s_cat_r, s_cat_f, s_cat_l, tl_s, tl_n, cat_i, cat_r, cat_f, nb0, nb1, nbI, if_bI, if_bIr, Nat.zero_le, Nat.reduceLeDiff, M_ob, M_g0, M_g1, M_g2, M_g3, M_g4, M_g5, M_g6, M_g7, M_g8, M_g9, M_g10, M_g11, M_g12, M_g13, M_g14, M_g15, M_g16, M_g17, M_g18, M_g19, M_g20, M_g21, M_g22, M_g23, M_g24, M_g25, M_g26, M_g27, M_g28, M_g29, M_g30, M_g31, M_g32, M_g33, M_g34, M_g35, M_g36, M_g37, M_g38, M_g39, M_g40, M_g41, M_s0, kI_xI, kI_xB, kI_xA, kI_xV, kB_xI, kB_xB, kB_xA, kB_xV, kA_xI, kA_xB, kA_xA, kA_xV, kV_xI, kV_xB, kV_xA, kV_xV, Nat.reduceEqDiff, reduceIte, q1, Option.isSome, iBf]
    exact K _ hm0
  | some n =>
    simp only [hq] at K
    rw [hq] at q1
    cases h1 : ixN w 4 with
    | none =>
      simp only [h1] at K
      simp (disch := omega) only [u_257_0, u_257_1, u_257_2, u_257_5, u_257_6, u_257_9, u_257_12, u_257_13, u_257_14, u_257_15, u_257_18, u_257_21, u_257_24, u_257_27, u_257_28, u_257_29, u_257_32, u_257_35, u_257_36, u_257_37, u_257_38, u_257_41, u_257_42, u_257_43, u_257_46, u_257_47, u_257_48, u_257_49, u_257_52, u_257_53, u_257_54, u_257_55, u_257_80, u_257_81, u_257_84, u_257_85, u_257_86, u_257_89, u_257_90, u_257_91, u_257_94, u_257_95, u_257_96, u_257_99, u_257_100, u_257_103, u_257_104, u_257_107, u_257_110, u_257_113, gI0, gIs, gR0, gRs, gF0, gFs, st0, st_i, st_r, st_f, st_n, st_s, true_and, and_true, ↓ifLeT, ↓ifLeF, ↓ifLtT, ↓ifLtF, ↓ifEqT, ↓ifEqF, if_tt, if_ff, if_pos, if_neg, nLe, nLt, nEq, nInT, nCl, pk_mul, nI_add, Nat.reduceAdd, s_cat_nil, s_cat_i, s_cat_r, s_cat_f, s_cat_l, tl_s, tl_n, cat_i, cat_r, cat_f, nb0, nb1, nbI, if_bI, if_bIr, Nat.zero_le, Nat.reduceLeDiff, M_ob, M_g0, M_g1, M_g2, M_g3, M_g4, M_g5, M_g6, M_g7, M_g8, M_g9, M_g10, M_g11, M_g12, M_g13, M_g14, M_g15, M_g16, M_g17, M_g18, M_g19, M_g20, M_g21, M_g22, M_g23, M_g24, M_g25, M_g26, M_g27, M_g28, M_g29, M_g30, M_g31, M_g32, M_g33, M_g34, M_g35, M_g36, M_g37, M_g38, M_g39, M_g40, M_g41, M_s0, kI_xI, kI_xB, kI_xA, kI_xV, kB_xI, kB_xB, kB_xA, kB_xV, kA_xI, kA_xB, kA_xA, kA_xV, kV_xI, kV_xB, kV_xA, kV_xV, Nat.reduceEqDiff, reduceIte, q1, in4, h1, Option.isSome, iBt, iBf, nI10]
      exact K _ hm0
    | some k =>
      simp only [h1] at K
      obtain ⟨hg, hr, hok⟩ := RM_q hm0 hq
      have hn := hok.1
      have h4 := hn.1.1
      have h8 := hn.1.2.1
      have e1 := fun Q => z_leftSet (d := d + 9) (h := h) (Q := Q) hn hr
      have e2 := fun Q => z_brokenSet (d := d + 10) (h := h) (Q := Q) hn hg.2.2.1 hr
      have K := K _ hm0
      unfold boN at K
      have lf : bitsN (fun t => !nDone n t) (nF n 3) = lfB n := rfl
      rw [lf] at e1
      have ll := lfB_lt hn
      have am := i_full (T := nF n 2) (by omega)
      have p2 := Nat.two_pow_pos (nF n 2)
      have p4 : 2 ^ nF n 2 ≤ 2 ^ 4 := Nat.pow_le_pow_right (by decide) h4
      have p5 : (2 : Nat) ^ 4 = 16 := rfl
      have bb := bitsN_256 (f := nK n) (k := nF n 2) (by omega)
      have g10 : kI m 10 = nI (nF n 2) := hg.2.2.1
      simp (disch := omega) only [u_257_0, u_257_1, u_257_2, u_257_5, u_257_6, u_257_9, u_257_12, u_257_13, u_257_14, u_257_15, u_257_18, u_257_21, u_257_24, u_257_27, u_257_28, u_257_29, gI0, gIs, gR0, gRs, gF0, gFs, st0, st_i, st_r, st_f, st_n, st_s, true_and, and_true, ↓ifLeT, ↓ifLeF, ↓ifLtT, ↓ifLtF, ↓ifEqT, ↓ifEqF, if_tt, if_ff, if_pos, if_neg, nLe, nLt, nEq, nInT, nCl, pk_mul, nI_add, Nat.reduceAdd, s_cat_nil, s_cat_i, s_cat_r, s_cat_f, s_cat_l, tl_s, tl_n, cat_i, cat_r, cat_f, nb0, nb1, nbI, if_bI, if_bIr, Nat.zero_le, Nat.reduceLeDiff, M_ob, M_g0, M_g1, M_g2, M_g3, M_g4, M_g5, M_g6, M_g7, M_g8, M_g9, M_g10, M_g11, M_g12, M_g13, M_g14, M_g15, M_g16, M_g17, M_g18, M_g19, M_g20, M_g21, M_g22, M_g23, M_g24, M_g25, M_g26, M_g27, M_g28, M_g29, M_g30, M_g31, M_g32, M_g33, M_g34, M_g35, M_g36, M_g37, M_g38, M_g39, M_g40, M_g41, M_s0, kI_xI, kI_xB, kI_xA, kI_xV, kB_xI, kB_xB, kB_xA, kB_xV, kA_xI, kA_xB, kA_xA, kA_xV, kV_xI, kV_xB, kV_xA, kV_xV, Nat.reduceEqDiff, reduceIte, q1, in4, h1, Option.isSome, iBt, nI10, e1]
      by_cases l0 : allD n = true
      · rw [if_pos l0] at K
        have z0 := lfB_0.mpr l0
        rw [z0]
        simp (disch := omega) only [u_257_32, u_257_35, u_257_36, gI0, gIs, gR0, gRs, gF0, gFs, st0, st_i, st_r, st_f, st_n, st_s, true_and, and_true, ↓ifLeT, ↓ifLeF, ↓ifLtT, ↓ifLtF, ↓ifEqT, ↓ifEqF, if_tt, if_ff, if_pos, if_neg, nLe, nLt, nEq, nInT, nCl, pk_mul, nI_add, Nat.reduceAdd, s_cat_nil, s_cat_i, s_cat_r, s_cat_f, s_cat_l, tl_s, tl_n, cat_i, cat_r, cat_f, nb0, nb1, nbI, if_bI, if_bIr, Nat.zero_le, Nat.reduceLeDiff]
        exact K
      · rw [if_neg l0] at K
        have z0 : ¬ nI (lfB n) = nI 0 := fun q => l0 (lfB_0.mp ((nI_eq (by omega) (by decide)).mp q))
        simp (disch := omega) only [u_257_32, u_257_35, u_257_36, u_257_37, u_257_38, u_257_41, u_257_42, u_257_43, u_257_46, gI0, gIs, gR0, gRs, gF0, gFs, st0, st_i, st_r, st_f, st_n, st_s, true_and, and_true, ↓ifLeT, ↓ifLeF, ↓ifLtT, ↓ifLtF, ↓ifEqT, ↓ifEqF, if_tt, if_ff, if_pos, if_neg, nLe, nLt, nEq, nInT, nCl, pk_mul, nI_add, Nat.reduceAdd, s_cat_nil, s_cat_i, s_cat_r, s_cat_f, s_cat_l, tl_s, tl_n, cat_i, cat_r, cat_f, nb0, nb1, nbI, if_bI, if_bIr, Nat.zero_le, Nat.reduceLeDiff, M_ob, M_g0, M_g1, M_g2, M_g3, M_g4, M_g5, M_g6, M_g7, M_g8, M_g9, M_g10, M_g11, M_g12, M_g13, M_g14, M_g15, M_g16, M_g17, M_g18, M_g19, M_g20, M_g21, M_g22, M_g23, M_g24, M_g25, M_g26, M_g27, M_g28, M_g29, M_g30, M_g31, M_g32, M_g33, M_g34, M_g35, M_g36, M_g37, M_g38, M_g39, M_g40, M_g41, kI_xI, kI_xB, kI_xA, kI_xV, kB_xI, kB_xB, kB_xA, kB_xV, kA_xI, kA_xB, kA_xA, kA_xV, kV_xI, kV_xB, kV_xA, kV_xV, Nat.reduceEqDiff, reduceIte, z0, e2, g10]
        simp (disch := omega) only [u_257_47, u_257_48, gI0, gIs, gR0, gRs, gF0, gFs, st0, st_i, st_r, st_f, st_n, st_s, true_and, and_true, ↓ifLeT, ↓ifLeF, ↓ifLtT, ↓ifLtF, ↓ifEqT, ↓ifEqF, if_tt, if_ff, if_pos, if_neg, nLe, nLt, nEq, nInT, nCl, pk_mul, nI_add, Nat.reduceAdd, s_cat_nil, s_cat_i, s_cat_r, s_cat_f, s_cat_l, tl_s, tl_n, cat_i, cat_r, cat_f, nb0, nb1, nbI, if_bI, if_bIr, Nat.zero_le, Nat.reduceLeDiff, am]
        by_cases a0 : ableN n = 0
        · rw [if_pos a0] at K
          have b0 := able_0.mpr a0
          simp (disch := omega) only [u_257_49, u_257_52, u_257_53, gI0, gIs, gR0, gRs, gF0, gFs, st0, st_i, st_r, st_f, st_n, st_s, true_and, and_true, ↓ifLeT, ↓ifLeF, ↓ifLtT, ↓ifLtF, ↓ifEqT, ↓ifEqF, if_tt, if_ff, if_pos, if_neg, nLe, nLt, nEq, nInT, nCl, pk_mul, nI_add, Nat.reduceAdd, s_cat_nil, s_cat_i, s_cat_r, s_cat_f, s_cat_l, tl_s, tl_n, cat_i, cat_r, cat_f, nb0, nb1, nbI, if_bI, if_bIr, Nat.zero_le, Nat.reduceLeDiff, b0]
          exact K
        · rw [if_neg a0] at K
          have b0 : ¬ nI (bitsN (nK n) (nF n 2)) = nI (2 ^ nF n 2 - 1) := fun q => a0 (able_0.mp ((nI_eq (by omega) (by omega)).mp q))
          have f1 := fun Q => r_first (d := d) (h := h) (Q := Q) hn hr
          have f2 := fun Q => r_second (d := d + 9) (h := h) (Q := Q) hn (by omega) hg.2.2.1 hr
          have f3 := fun Q => r_third (d := d + 9) (h := h) (Q := Q) hn hg.1 hg.2.1 hr
          simp (disch := omega) only [u_257_49, u_257_52, u_257_53, u_257_54, u_257_55, gI0, gIs, gR0, gRs, gF0, gFs, st0, st_i, st_r, st_f, st_n, st_s, true_and, and_true, ↓ifLeT, ↓ifLeF, ↓ifLtT, ↓ifLtF, ↓ifEqT, ↓ifEqF, if_tt, if_ff, if_pos, if_neg, nLe, nLt, nEq, nInT, nCl, pk_mul, nI_add, Nat.reduceAdd, s_cat_nil, s_cat_i, s_cat_r, s_cat_f, s_cat_l, tl_s, tl_n, cat_i, cat_r, cat_f, nb0, nb1, nbI, if_bI, if_bIr, Nat.zero_le, Nat.reduceLeDiff, b0]
          obtain ⟨k1, rfl⟩ := ix_some (by omega) h1
          have sh2 : shareN n ≤ 732 := by
            have cb := crowd_bd hn (lo := 0) (hi := nF n 0)
            have ha : ableN n ≤ 4 := by have := sum_not (f := nK n) (nF n 2); unfold ableN; omega
            unfold shareN
            exact Nat.le_trans (Nat.div_le_self _ _) (by omega)
          have rb := rows_bd hn (Nat.le_refl _)
          have rb : rowsN n ≤ 728 := rb
          have cb : crwN n (min (nF n 1) (nF n 0)) ≤ 728 := crw_bd hn
          match k, k1 with
          | 0, _ =>
            have K : Q (some (.int (mx (nI (rowsN n)) (mx (nI (shareN n)) (nI (crwN n (min (nF n 1) (nF n 0)))))))) _ := K
            simp (disch := omega) only [swt_c, swt_n, Nat.reduceAdd, ↓ifEqT, ↓ifEqF]
            simp (disch := omega) only [u_257_80, u_257_81, u_257_84, u_257_85, u_257_86, u_257_89, u_257_90, u_257_91, u_257_94, u_257_95, u_257_96, u_257_99, u_257_100, u_257_103, u_257_104, u_257_107, u_257_110, u_257_113, M_ob, gI0, gIs, gR0, gRs, s_cat_nil, s_cat_i, s_cat_r, f1, f2, f3, mx_d, Nat.reduceLeDiff, true_and, Option.toList, List.cons_append, List.nil_append, Nat.zero_le, tl_s, tl_n, cat_i, cat_r, nb0, nb1, nbI, Nat.reduceAdd]
            exact K
          | 1, _ | 2, _ | 3, _ =>
            simp (disch := omega) only [swt_c, swt_n, Nat.reduceAdd, ↓ifEqT, ↓ifEqF]
            simp (disch := omega) only [u_257_80, u_257_81, u_257_84, u_257_85, u_257_86, u_257_89, u_257_90, u_257_91, u_257_94, gI0, gIs, gR0, gRs, gF0, gFs, st0, st_i, st_r, st_f, st_n, st_s, true_and, and_true, ↓ifLeT, ↓ifLeF, ↓ifLtT, ↓ifLtF, ↓ifEqT, ↓ifEqF, if_tt, if_ff, if_pos, if_neg, nLe, nLt, nEq, nInT, nCl, pk_mul, nI_add, Nat.reduceAdd, s_cat_nil, s_cat_i, s_cat_r, s_cat_f, s_cat_l, tl_s, tl_n, cat_i, cat_r, cat_f, nb0, nb1, nbI, if_bI, if_bIr, Nat.zero_le, Nat.reduceLeDiff, M_ob, f1, f2, f3]
            exact K
end MB
