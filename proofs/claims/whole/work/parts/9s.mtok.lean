/-! the reference's reader: a token -/
def TT (m : tM) (t : tO) : Prop := kI m 2 = nI (eN t 1) ∧ eN t 1 ≤ 400 ∧ ∀ j, j < eN t 1 → kA m 318 j = eA t 0 j ∧ ∃ v, eA t 0 j = nI v ∧ v < 256
def seeB (t : tO) (i : Nat) : Int32 := if i < eN t 1 then eA t 0 i else -1
def numF (g : Nat → Int32) : Nat → Nat → Nat → Nat
  | 0, _, x => x
  | n + 1, i, x => if digB (g i) then numF g n (i + 1) (min 1000000 (10 * x + (g i).toNatClampNeg - 48)) else x
theorem dig_v {y : Int32} {v : Nat} (e : y = nI v) (hv : v < 256) (h : digB y = true) : 48 ≤ v ∧ v ≤ 57 := by
  subst e
  unfold digB at h
  rw [Bool.and_eq_true, decide_eq_true_eq, decide_eq_true_eq, nI_leI (by omega) (by omega), nI_leI (by omega) (by omega)] at h
  exact h
theorem num_sum {g : Nat → Int32} : ∀ n i, (∀ j, i ≤ j → j < i + n → ∃ v, g j = nI v ∧ v < 256) → runF digB g n i - i ≤ 2 → sumF g n i (nI 0) = nI (numF g n i 0) ∧ numF g n i 0 < 100 := by
  intro n i hb hr
  have st : ∀ (x v : Nat), x < 10 → 48 ≤ v → v ≤ 57 → (nI x - nI x / nI 10 * nI 10) * nI 10 + nI v - nI 48 = nI (10 * x + v - 48) := fun x v hx h1 h2 => by
    have e1 : nI x - nI x / nI 10 * nI 10 = nI x := by
      have := rem_10 x (by omega)
      rw [Nat.mod_eq_of_lt hx] at this
      exact this
    rw [e1, pk_mul, nI_add, pk_sub (by omega)]
    congr 1
    omega
  match n with
  | 0 => exact ⟨rfl, by show 0 < 100; omega⟩
  | n + 1 =>
    rw [runF] at hr
    rw [sumF, numF]
    cases d0 : digB (g i) with
    | false => exact ⟨rfl, by show 0 < 100; omega⟩
    | true =>
      obtain ⟨v, e, hv⟩ := hb i (Nat.le_refl _) (by omega)
      obtain ⟨v1, v2⟩ := dig_v e hv d0
      rw [d0, if_pos rfl] at hr
      rw [if_pos rfl, if_pos rfl, e, st 0 v (by omega) v1 v2, nCl (by omega), Nat.min_eq_right (by omega)]
      match n with
      | 0 => exact ⟨rfl, by show 10 * 0 + v - 48 < 100; omega⟩
      | n + 1 =>
        rw [runF] at hr
        rw [sumF, numF]
        cases d1 : digB (g (i + 1)) with
        | false => exact ⟨rfl, by show 10 * 0 + v - 48 < 100; omega⟩
        | true =>
          obtain ⟨w, e2, hw⟩ := hb (i + 1) (by omega) (by omega)
          obtain ⟨w1, w2⟩ := dig_v e2 hw d1
          rw [d1, if_pos rfl] at hr
          rw [if_pos rfl, if_pos rfl, e2, st (10 * 0 + v - 48) w (by omega) w1 w2, nCl (by omega), Nat.min_eq_right (by omega)]
          match n with
          | 0 => exact ⟨rfl, by show 10 * (10 * 0 + v - 48) + w - 48 < 100; omega⟩
          | n + 1 =>
            rw [runF] at hr
            rw [sumF, numF]
            cases d2 : digB (g (i + 1 + 1)) with
            | false => exact ⟨rfl, by show 10 * (10 * 0 + v - 48) + w - 48 < 100; omega⟩
            | true =>
              rw [d2, if_pos rfl] at hr
              have := (runF_le (f := digB) (g := g) n (i + 1 + 1 + 1)).1
              omega
section MTK
variable {d : Nat} {m : tM} {t : tO} {h : sH} {x : Int32} {Q : sQ}
theorem m_small : MT (d + 1) 149 [.int x] h Q ↔ Q (some (.int (iB (letB x)))) h := by
  rw [MT_go (by decide) _ _ _ (Nat.le_of_ble_eq_true rfl), show s_entry 149 [.int x] = [.int x] from rfl]
  unfold letB
  by_cases h1 : x < nI 97
  · rw [decide_eq_false (Int32.not_le.mpr h1)]
    simp (disch := omega) only [u_149_0, u_149_1, u_149_3, u_149_6, u_149_7, u_149_9, u_149_12, u_149_13, u_149_16, u_149_17, gI0, gIs, gR0, gRs, gF0, gFs, st0, st_i, st_r, st_f, st_n, st_s, true_and, and_true, ↓ifLeT, ↓ifLeF, ↓ifLtT, ↓ifLtF, ↓ifEqT, ↓ifEqF, if_tt, if_ff, if_pos, if_neg, nLe, nLt, nEq, nInT, nCl, pk_mul, nI_add, Nat.reduceAdd, s_cat_nil, s_cat_i, s_cat_r, s_cat_f, s_cat_l, tl_s, tl_n, cat_i, cat_r, cat_f, nb0, nb1, nbI, if_bI, if_bIr, Nat.zero_le, Nat.reduceLeDiff, h1, Bool.false_and, iB]
  · rw [decide_eq_true (Int32.not_lt.mp h1)]
    by_cases h2 : nI 122 < x
    · rw [decide_eq_false (Int32.not_le.mpr h2)]
      simp (disch := omega) only [u_149_0, u_149_1, u_149_3, u_149_6, u_149_7, u_149_9, u_149_12, u_149_13, u_149_16, u_149_17, gI0, gIs, gR0, gRs, gF0, gFs, st0, st_i, st_r, st_f, st_n, st_s, true_and, and_true, ↓ifLeT, ↓ifLeF, ↓ifLtT, ↓ifLtF, ↓ifEqT, ↓ifEqF, if_tt, if_ff, if_pos, if_neg, nLe, nLt, nEq, nInT, nCl, pk_mul, nI_add, Nat.reduceAdd, s_cat_nil, s_cat_i, s_cat_r, s_cat_f, s_cat_l, tl_s, tl_n, cat_i, cat_r, cat_f, nb0, nb1, nbI, if_bI, if_bIr, Nat.zero_le, Nat.reduceLeDiff, h1, h2, Bool.true_and, iB]
    · rw [decide_eq_true (Int32.not_lt.mp h2)]
      simp (disch := omega) only [u_149_0, u_149_1, u_149_3, u_149_6, u_149_7, u_149_9, u_149_12, u_149_13, u_149_16, u_149_17, gI0, gIs, gR0, gRs, gF0, gFs, st0, st_i, st_r, st_f, st_n, st_s, true_and, and_true, ↓ifLeT, ↓ifLeF, ↓ifLtT, ↓ifLtF, ↓ifEqT, ↓ifEqF, if_tt, if_ff, if_pos, if_neg, nLe, nLt, nEq, nInT, nCl, pk_mul, nI_add, Nat.reduceAdd, s_cat_nil, s_cat_i, s_cat_r, s_cat_f, s_cat_l, tl_s, tl_n, cat_i, cat_r, cat_f, nb0, nb1, nbI, if_bI, if_bIr, Nat.zero_le, Nat.reduceLeDiff, h1, h2, Bool.true_and, iB]
theorem m_digit : MT (d + 1) 150 [.int x] h Q ↔ Q (some (.int (iB (digB x)))) h := by
  rw [MT_go (by decide) _ _ _ (Nat.le_of_ble_eq_true rfl), show s_entry 150 [.int x] = [.int x] from rfl]
  unfold digB
  by_cases h1 : x < nI 48
  · rw [decide_eq_false (Int32.not_le.mpr h1)]
    simp (disch := omega) only [u_150_0, u_150_1, u_150_3, u_150_6, u_150_7, u_150_9, u_150_12, u_150_13, u_150_16, u_150_17, gI0, gIs, gR0, gRs, gF0, gFs, st0, st_i, st_r, st_f, st_n, st_s, true_and, and_true, ↓ifLeT, ↓ifLeF, ↓ifLtT, ↓ifLtF, ↓ifEqT, ↓ifEqF, if_tt, if_ff, if_pos, if_neg, nLe, nLt, nEq, nInT, nCl, pk_mul, nI_add, Nat.reduceAdd, s_cat_nil, s_cat_i, s_cat_r, s_cat_f, s_cat_l, tl_s, tl_n, cat_i, cat_r, cat_f, nb0, nb1, nbI, if_bI, if_bIr, Nat.zero_le, Nat.reduceLeDiff, h1, Bool.false_and, iB]
  · rw [decide_eq_true (Int32.not_lt.mp h1)]
    by_cases h2 : nI 57 < x
    · rw [decide_eq_false (Int32.not_le.mpr h2)]
      simp (disch := omega) only [u_150_0, u_150_1, u_150_3, u_150_6, u_150_7, u_150_9, u_150_12, u_150_13, u_150_16, u_150_17, gI0, gIs, gR0, gRs, gF0, gFs, st0, st_i, st_r, st_f, st_n, st_s, true_and, and_true, ↓ifLeT, ↓ifLeF, ↓ifLtT, ↓ifLtF, ↓ifEqT, ↓ifEqF, if_tt, if_ff, if_pos, if_neg, nLe, nLt, nEq, nInT, nCl, pk_mul, nI_add, Nat.reduceAdd, s_cat_nil, s_cat_i, s_cat_r, s_cat_f, s_cat_l, tl_s, tl_n, cat_i, cat_r, cat_f, nb0, nb1, nbI, if_bI, if_bIr, Nat.zero_le, Nat.reduceLeDiff, h1, h2, Bool.true_and, iB]
    · rw [decide_eq_true (Int32.not_lt.mp h2)]
      simp (disch := omega) only [u_150_0, u_150_1, u_150_3, u_150_6, u_150_7, u_150_9, u_150_12, u_150_13, u_150_16, u_150_17, gI0, gIs, gR0, gRs, gF0, gFs, st0, st_i, st_r, st_f, st_n, st_s, true_and, and_true, ↓ifLeT, ↓ifLeF, ↓ifLtT, ↓ifLtF, ↓ifEqT, ↓ifEqF, if_tt, if_ff, if_pos, if_neg, nLe, nLt, nEq, nInT, nCl, pk_mul, nI_add, Nat.reduceAdd, s_cat_nil, s_cat_i, s_cat_r, s_cat_f, s_cat_l, tl_s, tl_n, cat_i, cat_r, cat_f, nb0, nb1, nbI, if_bI, if_bIr, Nat.zero_le, Nat.reduceLeDiff, h1, h2, Bool.true_and, iB]
theorem m_see {i : Nat} (hT : TT m t) (hi : i ≤ 400) : MT (d + 1) 148 [.ref 317, .int (nI i)] (pM m h) Q ↔ Q (some (.int (seeB t i))) (pM m h) := by
  obtain ⟨t1, t2, t3⟩ := hT
  rw [MT_go (by decide) _ _ _ (Nat.le_of_ble_eq_true rfl), show s_entry 148 [.ref 317, .int (nI i)] = [.ref 317, .int (nI i)] from rfl]
  unfold seeB
  by_cases g : i < eN t 1
  · have e := (t3 i g).1
    have i1 : vp_in (nI i) 400 := (nIn (by omega)).mpr (by omega)
    rw [if_pos g]
    simp (disch := omega) only [u_148_0, u_148_1, u_148_2, u_148_5, u_148_8, u_148_9, u_148_12, u_148_13, u_148_14, u_148_17, u_148_18, gI0, gIs, gR0, gRs, gF0, gFs, st0, st_i, st_r, st_f, st_n, st_s, true_and, and_true, ↓ifLeT, ↓ifLeF, ↓ifLtT, ↓ifLtF, ↓ifEqT, ↓ifEqF, if_tt, if_ff, if_pos, if_neg, nLe, nLt, nEq, nInT, nCl, pk_mul, nI_add, Nat.reduceAdd, s_cat_nil, s_cat_i, s_cat_r, s_cat_f, s_cat_l, tl_s, tl_n, cat_i, cat_r, cat_f, nb0, nb1, nbI, if_bI, if_bIr, Nat.zero_le, Nat.reduceLeDiff, M_g0, M_g1, M_g2, M_g3, M_g4, M_g5, M_g6, M_g7, M_g8, M_g9, M_g10, M_g11, M_g12, M_g13, M_g14, M_g15, M_g16, M_g17, M_g18, M_g19, M_g20, M_g21, M_g22, M_g23, M_g24, M_g25, M_g26, M_g27, M_g28, M_g29, M_g30, M_g31, M_g32, M_g33, M_g34, M_g35, M_g36, M_g37, M_g38, M_g39, M_g40, M_g41, M_a318, t1, i1, e]
  · rw [if_neg g]
    simp (disch := omega) only [u_148_0, u_148_1, u_148_2, u_148_5, u_148_8, u_148_9, u_148_12, u_148_13, u_148_14, u_148_17, u_148_18, gI0, gIs, gR0, gRs, gF0, gFs, st0, st_i, st_r, st_f, st_n, st_s, true_and, and_true, ↓ifLeT, ↓ifLeF, ↓ifLtT, ↓ifLtF, ↓ifEqT, ↓ifEqF, if_tt, if_ff, if_pos, if_neg, nLe, nLt, nEq, nInT, nCl, pk_mul, nI_add, Nat.reduceAdd, s_cat_nil, s_cat_i, s_cat_r, s_cat_f, s_cat_l, tl_s, tl_n, cat_i, cat_r, cat_f, nb0, nb1, nbI, if_bI, if_bIr, Nat.zero_le, Nat.reduceLeDiff, M_g0, M_g1, M_g2, M_g3, M_g4, M_g5, M_g6, M_g7, M_g8, M_g9, M_g10, M_g11, M_g12, M_g13, M_g14, M_g15, M_g16, M_g17, M_g18, M_g19, M_g20, M_g21, M_g22, M_g23, M_g24, M_g25, M_g26, M_g27, M_g28, M_g29, M_g30, M_g31, M_g32, M_g33, M_g34, M_g35, M_g36, M_g37, M_g38, M_g39, M_g40, M_g41, t1]
theorem TT_I {k : Nat} (hT : TT m t) (hk : k ≠ 2) : TT (xI m k x) t := ⟨(kI_ne (fun q => hk q.symm)).trans hT.1, hT.2⟩
theorem nx_a (hT : TT m t) : ∀ n i, i + n = eN t 1 → (WP (d + 1) 151 0 [.ref 317, s_no] [] (pM (xI m 3 (nI i)) h) (0, 0) Q ↔ WP (d + 1) 151 26 [.ref 317, s_no] [] (pM (xI m 3 (nI (runF blkB (eA t 0) n i))) h) (0, 0) Q) := by
  have t2 := hT.2.1
  intro n
  induction n with
  | zero =>
    intro i hi
    have e1 := fun Q => m_see (d := d) (h := h) (Q := Q) (TT_I (k := 3) (x := nI i) hT (by decide)) (i := i) (by omega)
    rw [show seeB t i = -1 from if_neg (by omega)] at e1
    have ne : ¬ (-1 : Int32) = nI 32 := by decide
    simp (disch := omega) only [u_151_0, u_151_1, u_151_2, u_151_5, u_151_8, u_151_10, u_151_13, u_151_14, u_151_15, u_151_18, u_151_19, u_151_20, u_151_23, gI0, gIs, gR0, gRs, gF0, gFs, st0, st_i, st_r, st_f, st_n, st_s, true_and, and_true, ↓ifLeT, ↓ifLeF, ↓ifLtT, ↓ifLtF, ↓ifEqT, ↓ifEqF, if_tt, if_ff, if_pos, if_neg, nLe, nLt, nEq, nInT, nCl, pk_mul, nI_add, Nat.reduceAdd, s_cat_nil, s_cat_i, s_cat_r, s_cat_f, s_cat_l, tl_s, tl_n, cat_i, cat_r, cat_f, nb0, nb1, nbI, if_bI, if_bIr, Nat.zero_le, Nat.reduceLeDiff, M_ob, M_g0, M_g1, M_g2, M_g3, M_g4, M_g5, M_g6, M_g7, M_g8, M_g9, M_g10, M_g11, M_g12, M_g13, M_g14, M_g15, M_g16, M_g17, M_g18, M_g19, M_g20, M_g21, M_g22, M_g23, M_g24, M_g25, M_g26, M_g27, M_g28, M_g29, M_g30, M_g31, M_g32, M_g33, M_g34, M_g35, M_g36, M_g37, M_g38, M_g39, M_g40, M_g41, kI_xI, kI_xB, kI_xA, kI_xV, kB_xI, kB_xB, kB_xA, kB_xV, kA_xI, kA_xB, kA_xA, kA_xV, kV_xI, kV_xB, kV_xA, kV_xV, Nat.reduceEqDiff, reduceIte, e1, ne, reduceIte, runF]
  | succ n ih =>
    intro i hi
    have e1 := fun Q => m_see (d := d) (h := h) (Q := Q) (TT_I (k := 3) (x := nI i) hT (by decide)) (i := i) (by omega)
    rw [show seeB t i = eA t 0 i from if_pos (by omega)] at e1
    have ih := ih (i + 1) (by omega)
    by_cases g : eA t 0 i = nI 32
    · rw [show runF blkB (eA t 0) (n + 1) i = runF blkB (eA t 0) n (i + 1) by rw [runF, if_pos (show blkB (eA t 0 i) = true from decide_eq_true g)]]
      rw [g] at e1
      rw [u_151_0]
      simp (disch := omega) only [u_151_1, u_151_2, u_151_5, u_151_8, u_151_10, u_151_13, u_151_14, u_151_15, u_151_18, u_151_19, u_151_20, u_151_23, gI0, gIs, gR0, gRs, gF0, gFs, st0, st_i, st_r, st_f, st_n, st_s, true_and, and_true, ↓ifLeT, ↓ifLeF, ↓ifLtT, ↓ifLtF, ↓ifEqT, ↓ifEqF, if_tt, if_ff, if_pos, if_neg, nLe, nLt, nEq, nInT, nCl, pk_mul, nI_add, Nat.reduceAdd, s_cat_nil, s_cat_i, s_cat_r, s_cat_f, s_cat_l, tl_s, tl_n, cat_i, cat_r, cat_f, nb0, nb1, nbI, if_bI, if_bIr, Nat.zero_le, Nat.reduceLeDiff, M_ob, M_g0, M_g1, M_g2, M_g3, M_g4, M_g5, M_g6, M_g7, M_g8, M_g9, M_g10, M_g11, M_g12, M_g13, M_g14, M_g15, M_g16, M_g17, M_g18, M_g19, M_g20, M_g21, M_g22, M_g23, M_g24, M_g25, M_g26, M_g27, M_g28, M_g29, M_g30, M_g31, M_g32, M_g33, M_g34, M_g35, M_g36, M_g37, M_g38, M_g39, M_g40, M_g41, M_s3, kI_xI, kI_xB, kI_xA, kI_xV, kB_xI, kB_xB, kB_xA, kB_xV, kA_xI, kA_xB, kA_xA, kA_xV, kV_xI, kV_xB, kV_xA, kV_xV, Nat.reduceEqDiff, reduceIte, e1, xI_tw]
      exact ih
    · rw [show runF blkB (eA t 0) (n + 1) i = i by rw [runF, if_neg (show ¬ blkB (eA t 0 i) = true by simpa [blkB] using g)]]
      simp (disch := omega) only [u_151_0, u_151_1, u_151_2, u_151_5, u_151_8, u_151_10, u_151_13, u_151_14, u_151_15, u_151_18, u_151_19, u_151_20, u_151_23, gI0, gIs, gR0, gRs, gF0, gFs, st0, st_i, st_r, st_f, st_n, st_s, true_and, and_true, ↓ifLeT, ↓ifLeF, ↓ifLtT, ↓ifLtF, ↓ifEqT, ↓ifEqF, if_tt, if_ff, if_pos, if_neg, nLe, nLt, nEq, nInT, nCl, pk_mul, nI_add, Nat.reduceAdd, s_cat_nil, s_cat_i, s_cat_r, s_cat_f, s_cat_l, tl_s, tl_n, cat_i, cat_r, cat_f, nb0, nb1, nbI, if_bI, if_bIr, Nat.zero_le, Nat.reduceLeDiff, M_ob, M_g0, M_g1, M_g2, M_g3, M_g4, M_g5, M_g6, M_g7, M_g8, M_g9, M_g10, M_g11, M_g12, M_g13, M_g14, M_g15, M_g16, M_g17, M_g18, M_g19, M_g20, M_g21, M_g22, M_g23, M_g24, M_g25, M_g26, M_g27, M_g28, M_g29, M_g30, M_g31, M_g32, M_g33, M_g34, M_g35, M_g36, M_g37, M_g38, M_g39, M_g40, M_g41, kI_xI, kI_xB, kI_xA, kI_xV, kB_xI, kB_xB, kB_xA, kB_xV, kA_xI, kA_xB, kA_xA, kA_xV, kV_xI, kV_xB, kV_xA, kV_xV, Nat.reduceEqDiff, reduceIte, e1, g, reduceIte]
theorem nx_w {c : Int32} (hT : TT m t) (h6 : kI m 6 = nI 1) : ∀ n i, i + n = eN t 1 → (WP (d + 1) 151 102 [.ref 317, .int c] [] (pM (xI m 3 (nI i)) h) (0, 0) Q ↔ Q none (pM (xI m 3 (nI (runF letB (eA t 0) n i))) h)) := by
  have t2 := hT.2.1
  intro n
  induction n with
  | zero =>
    intro i hi
    have e1 := fun Q => m_see (d := d) (h := h) (Q := Q) (TT_I (k := 3) (x := nI i) hT (by decide)) (i := i) (by omega)
    rw [show seeB t i = -1 from if_neg (by omega)] at e1
    have ne : letB (-1) = false := by decide
    simp (disch := omega) only [u_151_102, u_151_103, u_151_106, u_151_107, u_151_110, u_151_111, u_151_112, u_151_115, u_151_118, u_151_121, u_151_124, u_151_125, u_151_126, u_151_129, u_151_130, u_151_131, u_151_134, u_151_137, u_151_138, u_151_141, u_151_142, u_151_145, u_151_146, u_151_147, u_151_150, u_151_153, u_151_156, u_151_159, u_151_160, u_151_162, u_151_164, u_151_165, u_151_168, u_151_169, u_151_170, u_151_171, u_151_174, u_151_177, u_151_178, u_151_180, u_151_181, u_151_184, u_151_187, u_151_188, u_151_189, u_151_192, u_151_193, u_151_194, u_151_197, u_151_200, gI0, gIs, gR0, gRs, gF0, gFs, st0, st_i, st_r, st_f, st_n, st_s, true_and, and_true, ↓ifLeT, ↓ifLeF, ↓ifLtT, ↓ifLtF, ↓ifEqT, ↓ifEqF, if_tt, if_ff, if_pos, if_neg, nLe, nLt, nEq, nInT, nCl, pk_mul, nI_add, Nat.reduceAdd, s_cat_nil, s_cat_i, s_cat_r, s_cat_f, s_cat_l, tl_s, tl_n, cat_i, cat_r, cat_f, nb0, nb1, nbI, if_bI, if_bIr, Nat.zero_le, Nat.reduceLeDiff, M_ob, M_g0, M_g1, M_g2, M_g3, M_g4, M_g5, M_g6, M_g7, M_g8, M_g9, M_g10, M_g11, M_g12, M_g13, M_g14, M_g15, M_g16, M_g17, M_g18, M_g19, M_g20, M_g21, M_g22, M_g23, M_g24, M_g25, M_g26, M_g27, M_g28, M_g29, M_g30, M_g31, M_g32, M_g33, M_g34, M_g35, M_g36, M_g37, M_g38, M_g39, M_g40, M_g41, kI_xI, kI_xB, kI_xA, kI_xV, kB_xI, kB_xB, kB_xA, kB_xV, kA_xI, kA_xB, kA_xA, kA_xV, kV_xI, kV_xB, kV_xA, kV_xV, Nat.reduceEqDiff, reduceIte, h6, e1, m_small, ne, iBf, runF]
  | succ n ih =>
    intro i hi
    have e1 := fun Q => m_see (d := d) (h := h) (Q := Q) (TT_I (k := 3) (x := nI i) hT (by decide)) (i := i) (by omega)
    rw [show seeB t i = eA t 0 i from if_pos (by omega)] at e1
    have ih := ih (i + 1) (by omega)
    cases g : letB (eA t 0 i) with
    | true =>
      rw [show runF letB (eA t 0) (n + 1) i = runF letB (eA t 0) n (i + 1) by rw [runF, if_pos g]]
      rw [u_151_102]
      simp (disch := omega) only [u_151_103, u_151_106, u_151_107, u_151_110, u_151_111, u_151_112, u_151_115, u_151_118, u_151_121, u_151_124, u_151_125, u_151_126, u_151_129, u_151_130, u_151_131, u_151_134, gI0, gIs, gR0, gRs, gF0, gFs, st0, st_i, st_r, st_f, st_n, st_s, true_and, and_true, ↓ifLeT, ↓ifLeF, ↓ifLtT, ↓ifLtF, ↓ifEqT, ↓ifEqF, if_tt, if_ff, if_pos, if_neg, nLe, nLt, nEq, nInT, nCl, pk_mul, nI_add, Nat.reduceAdd, s_cat_nil, s_cat_i, s_cat_r, s_cat_f, s_cat_l, tl_s, tl_n, cat_i, cat_r, cat_f, nb0, nb1, nbI, if_bI, if_bIr, Nat.zero_le, Nat.reduceLeDiff, M_ob, M_g0, M_g1, M_g2, M_g3, M_g4, M_g5, M_g6, M_g7, M_g8, M_g9, M_g10, M_g11, M_g12, M_g13, M_g14, M_g15, M_g16, M_g17, M_g18, M_g19, M_g20, M_g21, M_g22, M_g23, M_g24, M_g25, M_g26, M_g27, M_g28, M_g29, M_g30, M_g31, M_g32, M_g33, M_g34, M_g35, M_g36, M_g37, M_g38, M_g39, M_g40, M_g41, M_s3, kI_xI, kI_xB, kI_xA, kI_xV, kB_xI, kB_xB, kB_xA, kB_xV, kA_xI, kA_xB, kA_xA, kA_xV, kV_xI, kV_xB, kV_xA, kV_xV, Nat.reduceEqDiff, reduceIte, h6, e1, m_small, g, iBt, nI10, xI_tw]
      exact ih
    | false =>
      rw [show runF letB (eA t 0) (n + 1) i = i by rw [runF, g]; rfl]
      simp (disch := omega) only [u_151_102, u_151_103, u_151_106, u_151_107, u_151_110, u_151_111, u_151_112, u_151_115, u_151_118, u_151_121, u_151_124, u_151_125, u_151_126, u_151_129, u_151_130, u_151_131, u_151_134, u_151_137, u_151_138, u_151_141, u_151_142, u_151_145, u_151_146, u_151_147, u_151_150, u_151_153, u_151_156, u_151_159, u_151_160, u_151_162, u_151_164, u_151_165, u_151_168, u_151_169, u_151_170, u_151_171, u_151_174, u_151_177, u_151_178, u_151_180, u_151_181, u_151_184, u_151_187, u_151_188, u_151_189, u_151_192, u_151_193, u_151_194, u_151_197, u_151_200, gI0, gIs, gR0, gRs, gF0, gFs, st0, st_i, st_r, st_f, st_n, st_s, true_and, and_true, ↓ifLeT, ↓ifLeF, ↓ifLtT, ↓ifLtF, ↓ifEqT, ↓ifEqF, if_tt, if_ff, if_pos, if_neg, nLe, nLt, nEq, nInT, nCl, pk_mul, nI_add, Nat.reduceAdd, s_cat_nil, s_cat_i, s_cat_r, s_cat_f, s_cat_l, tl_s, tl_n, cat_i, cat_r, cat_f, nb0, nb1, nbI, if_bI, if_bIr, Nat.zero_le, Nat.reduceLeDiff, M_ob, M_g0, M_g1, M_g2, M_g3, M_g4, M_g5, M_g6, M_g7, M_g8, M_g9, M_g10, M_g11, M_g12, M_g13, M_g14, M_g15, M_g16, M_g17, M_g18, M_g19, M_g20, M_g21, M_g22, M_g23, M_g24, M_g25, M_g26, M_g27, M_g28, M_g29, M_g30, M_g31, M_g32, M_g33, M_g34, M_g35, M_g36, M_g37, M_g38, M_g39, M_g40, M_g41, kI_xI, kI_xB, kI_xA, kI_xV, kB_xI, kB_xB, kB_xA, kB_xV, kA_xI, kA_xB, kA_xA, kA_xV, kV_xI, kV_xB, kV_xA, kV_xV, Nat.reduceEqDiff, reduceIte, h6, e1, m_small, g, iBf]
theorem nx_d {c : Int32} (hT : TT m t) (h6 : kI m 6 = nI 2) : ∀ n i y, i + n = eN t 1 → y ≤ 1000000 → (WP (d + 1) 151 137 [.ref 317, .int c] [] (pM (xI (xI m 7 (nI y)) 3 (nI i)) h) (0, 0) Q ↔ Q none (pM (xI (xI m 7 (nI (numF (eA t 0) n i y))) 3 (nI (runF digB (eA t 0) n i))) h)) := by
  have t2 := hT.2.1
  intro n
  induction n with
  | zero =>
    intro i y hi hy
    have e1 := fun Q => m_see (d := d) (h := h) (Q := Q) (TT_I (k := 3) (x := nI i) (TT_I (k := 7) (x := nI y) hT (by decide)) (by decide)) (i := i) (by omega)
    rw [show seeB t i = -1 from if_neg (by omega)] at e1
    have ne : digB (-1) = false := by decide
    simp (disch := omega) only [u_151_137, u_151_138, u_151_141, u_151_142, u_151_145, u_151_146, u_151_147, u_151_150, u_151_153, u_151_156, u_151_159, u_151_160, u_151_162, u_151_164, u_151_165, u_151_168, u_151_169, u_151_170, u_151_171, u_151_174, u_151_177, u_151_178, u_151_180, u_151_181, u_151_184, u_151_187, u_151_188, u_151_189, u_151_192, u_151_193, u_151_194, u_151_197, u_151_200, gI0, gIs, gR0, gRs, gF0, gFs, st0, st_i, st_r, st_f, st_n, st_s, true_and, and_true, ↓ifLeT, ↓ifLeF, ↓ifLtT, ↓ifLtF, ↓ifEqT, ↓ifEqF, if_tt, if_ff, if_pos, if_neg, nLe, nLt, nEq, nInT, nCl, pk_mul, nI_add, Nat.reduceAdd, s_cat_nil, s_cat_i, s_cat_r, s_cat_f, s_cat_l, tl_s, tl_n, cat_i, cat_r, cat_f, nb0, nb1, nbI, if_bI, if_bIr, Nat.zero_le, Nat.reduceLeDiff, M_ob, M_g0, M_g1, M_g2, M_g3, M_g4, M_g5, M_g6, M_g7, M_g8, M_g9, M_g10, M_g11, M_g12, M_g13, M_g14, M_g15, M_g16, M_g17, M_g18, M_g19, M_g20, M_g21, M_g22, M_g23, M_g24, M_g25, M_g26, M_g27, M_g28, M_g29, M_g30, M_g31, M_g32, M_g33, M_g34, M_g35, M_g36, M_g37, M_g38, M_g39, M_g40, M_g41, kI_xI, kI_xB, kI_xA, kI_xV, kB_xI, kB_xB, kB_xA, kB_xV, kA_xI, kA_xB, kA_xA, kA_xV, kV_xI, kV_xB, kV_xA, kV_xV, Nat.reduceEqDiff, reduceIte, h6, e1, m_digit, ne, iBf, runF, numF]
  | succ n ih =>
    intro i y hi hy
    have e1 := fun Q => m_see (d := d) (h := h) (Q := Q) (TT_I (k := 3) (x := nI i) (TT_I (k := 7) (x := nI y) hT (by decide)) (by decide)) (i := i) (by omega)
    rw [show seeB t i = eA t 0 i from if_pos (by omega)] at e1
    cases g : digB (eA t 0 i) with
    | true =>
      obtain ⟨v, ev, hv⟩ := (hT.2.2 i (by omega)).2
      obtain ⟨v1, v2⟩ := dig_v ev hv g
      have cl : (eA t 0 i).toNatClampNeg = v := by rw [ev]; exact nCl (by omega)
      have ih := ih (i + 1) (min 1000000 (10 * y + v - 48)) (by omega) (Nat.min_le_left _ _)
      rw [show runF digB (eA t 0) (n + 1) i = runF digB (eA t 0) n (i + 1) by rw [runF, if_pos g], show numF (eA t 0) (n + 1) i y = numF (eA t 0) n (i + 1) (min 1000000 (10 * y + v - 48)) by rw [numF, if_pos g, cl]]
      rw [ev] at e1
      rw [ev] at g
      have sb : nI (10 * y + v) - nI 48 = nI (10 * y + v - 48) := pk_sub (by omega)
      have mr := min_r (a := 1000000) (b := 10 * y + v - 48)
      have sw : ∀ x x' : Int32, xI (xI (xI m 7 (nI y)) 3 x) 7 x' = xI (xI m 7 x') 3 x := fun x x' => by
        unfold xI
        refine Prod.ext (funext fun q => ?_) rfl
        show (if q = 7 then x' else if q = 3 then x else if q = 7 then nI y else m.1 q) = if q = 3 then x else if q = 7 then x' else m.1 q
        by_cases e7 : q = 7
        · rw [if_pos e7, if_neg (by omega), if_pos e7]
        · rw [if_neg e7, if_neg e7, if_neg e7]
      rw [u_151_137]
      simp (disch := omega) only [u_151_138, u_151_141, u_151_142, u_151_145, u_151_146, u_151_147, u_151_150, u_151_153, u_151_156, u_151_159, u_151_160, u_151_162, u_151_164, u_151_165, u_151_168, u_151_169, u_151_170, u_151_171, u_151_174, u_151_177, u_151_178, u_151_180, u_151_181, u_151_184, u_151_187, u_151_188, u_151_189, u_151_192, u_151_193, u_151_194, u_151_197, gI0, gIs, gR0, gRs, gF0, gFs, st0, st_i, st_r, st_f, st_n, st_s, true_and, and_true, ↓ifLeT, ↓ifLeF, ↓ifLtT, ↓ifLtF, ↓ifEqT, ↓ifEqF, if_tt, if_ff, if_pos, if_neg, nLe, nLt, nEq, nInT, nCl, pk_mul, nI_add, Nat.reduceAdd, s_cat_nil, s_cat_i, s_cat_r, s_cat_f, s_cat_l, tl_s, tl_n, cat_i, cat_r, cat_f, nb0, nb1, nbI, if_bI, if_bIr, Nat.zero_le, Nat.reduceLeDiff, M_ob, M_g0, M_g1, M_g2, M_g3, M_g4, M_g5, M_g6, M_g7, M_g8, M_g9, M_g10, M_g11, M_g12, M_g13, M_g14, M_g15, M_g16, M_g17, M_g18, M_g19, M_g20, M_g21, M_g22, M_g23, M_g24, M_g25, M_g26, M_g27, M_g28, M_g29, M_g30, M_g31, M_g32, M_g33, M_g34, M_g35, M_g36, M_g37, M_g38, M_g39, M_g40, M_g41, M_s3, M_s7, kI_xI, kI_xB, kI_xA, kI_xV, kB_xI, kB_xB, kB_xA, kB_xV, kA_xI, kA_xB, kA_xA, kA_xV, kV_xI, kV_xB, kV_xA, kV_xV, Nat.reduceEqDiff, reduceIte, h6, e1, m_digit, g, iBt, nI10, sb, mr, sw, xI_tw]
      exact ih
    | false =>
      rw [show runF digB (eA t 0) (n + 1) i = i by rw [runF, g]; rfl, show numF (eA t 0) (n + 1) i y = y by rw [numF, g]; rfl]
      simp (disch := omega) only [u_151_137, u_151_138, u_151_141, u_151_142, u_151_145, u_151_146, u_151_147, u_151_150, u_151_153, u_151_156, u_151_159, u_151_160, u_151_162, u_151_164, u_151_165, u_151_168, u_151_169, u_151_170, u_151_171, u_151_174, u_151_177, u_151_178, u_151_180, u_151_181, u_151_184, u_151_187, u_151_188, u_151_189, u_151_192, u_151_193, u_151_194, u_151_197, u_151_200, gI0, gIs, gR0, gRs, gF0, gFs, st0, st_i, st_r, st_f, st_n, st_s, true_and, and_true, ↓ifLeT, ↓ifLeF, ↓ifLtT, ↓ifLtF, ↓ifEqT, ↓ifEqF, if_tt, if_ff, if_pos, if_neg, nLe, nLt, nEq, nInT, nCl, pk_mul, nI_add, Nat.reduceAdd, s_cat_nil, s_cat_i, s_cat_r, s_cat_f, s_cat_l, tl_s, tl_n, cat_i, cat_r, cat_f, nb0, nb1, nbI, if_bI, if_bIr, Nat.zero_le, Nat.reduceLeDiff, M_ob, M_g0, M_g1, M_g2, M_g3, M_g4, M_g5, M_g6, M_g7, M_g8, M_g9, M_g10, M_g11, M_g12, M_g13, M_g14, M_g15, M_g16, M_g17, M_g18, M_g19, M_g20, M_g21, M_g22, M_g23, M_g24, M_g25, M_g26, M_g27, M_g28, M_g29, M_g30, M_g31, M_g32, M_g33, M_g34, M_g35, M_g36, M_g37, M_g38, M_g39, M_g40, M_g41, kI_xI, kI_xB, kI_xA, kI_xV, kB_xI, kB_xB, kB_xA, kB_xV, kA_xI, kA_xB, kA_xA, kA_xV, kV_xI, kV_xB, kV_xA, kV_xV, Nat.reduceEqDiff, reduceIte, h6, e1, m_digit, g, iBf]
end MTK
