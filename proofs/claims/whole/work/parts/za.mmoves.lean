/-! the reference's moves -/
section MMZ
variable {d : Nat} {m : tM} {t : tO} {h : sH} {Q : sQ} {n : tN} {z : tQ}
theorem RM_T (hm : RM m z) (hT : TT m t) : RM m (jT z t) := ⟨hT, hm.2⟩
theorem RM_cut (hm : RM m z) : RM (xI m 2 (nI 0)) (jT z (vN t 1 0)) := by
  obtain ⟨-, hq, ha, hi, hr⟩ := hm
  exact ⟨⟨rfl, Nat.zero_le _, fun j hj => absurd hj (Nat.not_lt_zero j)⟩, hq, ha, hi, hr⟩
theorem zmov_lp {L : Nat} {f : Nat → Nat → Int32} (hn : wfN n) (hg : MG m n) (hr : RR (kA m 320) n) (hL : L ≤ 40) (h21 : kI m 21 = nI L) (hf : ∀ l' c, l' < L → c < nF n 2 → kA m 324 (4 * l' + c) = f l' c) (hv : ∀ j q, ∃ b, f j q = nI b ∧ b ≤ 99) : ∀ q l, l + q = L → (WP (d + 3) 217 31 [.ref 317, .int (nI l)] [] (pM m h) (0, 0) Q ↔ Q (some (.int (oI1 ((List.range' l q).find? fun l => !trueN n f l)))) (pM m h)) := by
  intro q
  induction q with
  | zero =>
    intro l hl
    have e : l = L := by omega
    subst e
    rw [u_217_31]
    simp (disch := omega) only [u_217_0, u_217_1, u_217_2, u_217_5, u_217_6, u_217_9, u_217_12, u_217_13, u_217_16, u_217_17, u_217_20, u_217_23, u_217_24, u_217_25, u_217_26, u_217_29, u_217_30, u_217_32, u_217_33, u_217_36, u_217_39, u_217_40, u_217_41, u_217_44, u_217_47, u_217_48, u_217_49, u_217_52, u_217_55, u_217_56, gI0, gIs, gR0, gRs, gF0, gFs, st0, st_i, st_r, st_f, st_n, st_s, true_and, and_true, ↓ifLeT, ↓ifLeF, ↓ifLtT, ↓ifLtF, ↓ifEqT, ↓ifEqF, if_tt, if_ff, if_pos, if_neg, nLe, nLt, nEq, nInT, nCl, pk_mul, nI_add, Nat.reduceAdd, s_cat_nil, s_cat_i, s_cat_r, s_cat_f, s_cat_l, tl_s, tl_n, cat_i, cat_r, cat_f, nb0, nb1, nbI, if_bI, if_bIr, Nat.zero_le, Nat.reduceLeDiff, M_g0, M_g1, M_g2, M_g3, M_g4, M_g5, M_g6, M_g7, M_g8, M_g9, M_g10, M_g11, M_g12, M_g13, M_g14, M_g15, M_g16, M_g17, M_g18, M_g19, M_g20, M_g21, M_g22, M_g23, M_g24, M_g25, M_g26, M_g27, M_g28, M_g29, M_g30, M_g31, M_g32, M_g33, M_g34, M_g35, M_g36, M_g37, M_g38, M_g39, M_g40, M_g41, h21]
    exact Iff.rfl
  | succ q ih =>
    intro l hl
    have ih := ih (l + 1) (by omega)
    have e1 := fun Q => r_isTrue (d := d + 1) (h := h) (Q := Q) (l := l) hn hg hr (by omega) hL hf hv
    rw [u_217_31, List.range'_succ, List.find?_cons]
    cases ht : trueN n f l with
    | true =>
      rw [ht] at e1
      simp (disch := omega) only [u_217_0, u_217_1, u_217_2, u_217_5, u_217_6, u_217_9, u_217_12, u_217_13, u_217_16, u_217_17, u_217_20, u_217_23, u_217_24, u_217_25, u_217_26, u_217_29, u_217_30, u_217_32, u_217_33, u_217_36, u_217_39, u_217_40, u_217_41, u_217_44, u_217_47, u_217_48, u_217_49, u_217_52, u_217_55, u_217_56, gI0, gIs, gR0, gRs, gF0, gFs, st0, st_i, st_r, st_f, st_n, st_s, true_and, and_true, ↓ifLeT, ↓ifLeF, ↓ifLtT, ↓ifLtF, ↓ifEqT, ↓ifEqF, if_tt, if_ff, if_pos, if_neg, nLe, nLt, nEq, nInT, nCl, pk_mul, nI_add, Nat.reduceAdd, s_cat_nil, s_cat_i, s_cat_r, s_cat_f, s_cat_l, tl_s, tl_n, cat_i, cat_r, cat_f, nb0, nb1, nbI, if_bI, if_bIr, Nat.zero_le, Nat.reduceLeDiff, M_ob, M_g0, M_g1, M_g2, M_g3, M_g4, M_g5, M_g6, M_g7, M_g8, M_g9, M_g10, M_g11, M_g12, M_g13, M_g14, M_g15, M_g16, M_g17, M_g18, M_g19, M_g20, M_g21, M_g22, M_g23, M_g24, M_g25, M_g26, M_g27, M_g28, M_g29, M_g30, M_g31, M_g32, M_g33, M_g34, M_g35, M_g36, M_g37, M_g38, M_g39, M_g40, M_g41, h21, e1, iBt, nI10, reduceIte, Bool.not_true]
      exact ih
    | false =>
      rw [ht] at e1
      simp (disch := omega) only [u_217_0, u_217_1, u_217_2, u_217_5, u_217_6, u_217_9, u_217_12, u_217_13, u_217_16, u_217_17, u_217_20, u_217_23, u_217_24, u_217_25, u_217_26, u_217_29, u_217_30, u_217_32, u_217_33, u_217_36, u_217_39, u_217_40, u_217_41, u_217_44, u_217_47, u_217_48, u_217_49, u_217_52, u_217_55, u_217_56, gI0, gIs, gR0, gRs, gF0, gFs, st0, st_i, st_r, st_f, st_n, st_s, true_and, and_true, ↓ifLeT, ↓ifLeF, ↓ifLtT, ↓ifLtF, ↓ifEqT, ↓ifEqF, if_tt, if_ff, if_pos, if_neg, nLe, nLt, nEq, nInT, nCl, pk_mul, nI_add, Nat.reduceAdd, s_cat_nil, s_cat_i, s_cat_r, s_cat_f, s_cat_l, tl_s, tl_n, cat_i, cat_r, cat_f, nb0, nb1, nbI, if_bI, if_bIr, Nat.zero_le, Nat.reduceLeDiff, M_ob, M_g0, M_g1, M_g2, M_g3, M_g4, M_g5, M_g6, M_g7, M_g8, M_g9, M_g10, M_g11, M_g12, M_g13, M_g14, M_g15, M_g16, M_g17, M_g18, M_g19, M_g20, M_g21, M_g22, M_g23, M_g24, M_g25, M_g26, M_g27, M_g28, M_g29, M_g30, M_g31, M_g32, M_g33, M_g34, M_g35, M_g36, M_g37, M_g38, M_g39, M_g40, M_g41, h21, e1, iBf, Bool.not_false]
      exact Iff.rfl
theorem z_moves (hm : RM m z) (K : ∀ m', RM m' (zmoves z).2 → Q (some (.int (zmoves z).1)) (pM m' h)) : MT (d + 5) 217 [.ref 317] (pM m h) Q := by
  rw [MT_go (by decide) _ _ _ (Nat.le_of_ble_eq_true rfl), show s_entry 217 [.ref 317] = [.ref 317, s_no] from rfl]
  have hm0 := RM_0 (x := nI 0) hm
  have q1 := hm.2.1.1
  unfold zmoves at K
  cases hq : zQ z with
  | none =>
    simp only [hq] at K
    rw [hq] at q1
    simp (disch := omega) only [u_217_0, u_217_1, u_217_2, u_217_5, u_217_6, u_217_9, u_217_12, u_217_13, u_217_16, u_217_17, u_217_20, u_217_23, u_217_24, u_217_25, u_217_26, u_217_29, u_217_30, u_217_32, u_217_33, u_217_36, u_217_39, u_217_40, u_217_41, u_217_44, u_217_47, u_217_48, u_217_49, u_217_52, u_217_55, u_217_56, gI0, gIs, gR0, gRs, gF0, gFs, st0, st_i, st_r, st_f, st_n, st_s, true_and, and_true, ↓ifLeT, ↓ifLeF, ↓ifLtT, ↓ifLtF, ↓ifEqT, ↓ifEqF, if_tt, if_ff, if_pos, if_neg, nLe, nLt, nEq, nInT, nCl, pk_mul, nI_add, Nat.reduceAdd, s_cat_nil, s_cat_i, s_cat_r, s_cat_f, s_cat_l, tl_s, tl_n, cat_i, cat_r, cat_f, nb0, nb1, nbI, if_bI, if_bIr, Nat.zero_le, Nat.reduceLeDiff, M_ob, M_g0, M_g1, M_g2, M_g3, M_g4, M_g5, M_g6, M_g7, M_g8, M_g9, M_g10, M_g11, M_g12, M_g13, M_g14, M_g15, M_g16, M_g17, M_g18, M_g19, M_g20, M_g21, M_g22, M_g23, M_g24, M_g25, M_g26, M_g27, M_g28, M_g29, M_g30, M_g31, M_g32, M_g33, M_g34, M_g35, M_g36, M_g37, M_g38, M_g39, M_g40, M_g41, M_s0, kI_xI, kI_xB, kI_xA, kI_xV, kB_xI, kB_xB, kB_xA, kB_xV, kA_xI, kA_xB, kA_xA, kA_xV, kV_xI, kV_xB, kV_xA, kV_xV, Nat.reduceEqDiff, reduceIte, q1, Option.isSome, iBf]
    exact K _ hm0
  | some n =>
    simp only [hq] at K
    rw [hq] at q1
    obtain ⟨hg, hr, hok⟩ := RM_q hm0 hq
    have h4 := hok.1.1.1
    simp (disch := omega) only [u_217_0, u_217_1, u_217_2, u_217_5, u_217_6, u_217_9, u_217_12, u_217_13, u_217_16, u_217_17, gI0, gIs, gR0, gRs, gF0, gFs, st0, st_i, st_r, st_f, st_n, st_s, true_and, and_true, ↓ifLeT, ↓ifLeF, ↓ifLtT, ↓ifLtF, ↓ifEqT, ↓ifEqF, if_tt, if_ff, if_pos, if_neg, nLe, nLt, nEq, nInT, nCl, pk_mul, nI_add, Nat.reduceAdd, s_cat_nil, s_cat_i, s_cat_r, s_cat_f, s_cat_l, tl_s, tl_n, cat_i, cat_r, cat_f, nb0, nb1, nbI, if_bI, if_bIr, Nat.zero_le, Nat.reduceLeDiff, M_ob, M_g0, M_g1, M_g2, M_g3, M_g4, M_g5, M_g6, M_g7, M_g8, M_g9, M_g10, M_g11, M_g12, M_g13, M_g14, M_g15, M_g16, M_g17, M_g18, M_g19, M_g20, M_g21, M_g22, M_g23, M_g24, M_g25, M_g26, M_g27, M_g28, M_g29, M_g30, M_g31, M_g32, M_g33, M_g34, M_g35, M_g36, M_g37, M_g38, M_g39, M_g40, M_g41, M_s0, kI_xI, kI_xB, kI_xA, kI_xV, kB_xI, kB_xB, kB_xA, kB_xV, kA_xI, kA_xB, kA_xA, kA_xV, kV_xI, kV_xB, kV_xA, kV_xV, Nat.reduceEqDiff, reduceIte, q1, Option.isSome, iBt, nI10]
    refine r_readsM (d := d) (t := zT z) h4 hg.2.2.1 hm0.1 (fun e m1 f1 T1 l1 L1 r1 => ?_) fun e m1 f1 T1 o1 => ?_
    · simp only [e, if_true] at K
      have hm1 : RM m1 z := RM_fr (frV_Z f1) hm0
      have hm2 : RM (xI m1 2 (nI 0)) (jT z (vN (rdM (zT z) (nF n 2)).2.1 1 0)) := RM_cut hm1
      obtain ⟨hg2, hr2, -⟩ := RM_q hm2 hq
      have go := zmov_lp (d := d + 1) (m := xI m1 2 (nI 0)) (h := h) (Q := Q) hok.1 hg2 hr2 L1 l1 r1 rdM_v (rdM (zT z) (nF n 2)).2.2.1 0 (Nat.zero_add _)
      simp (disch := omega) only [u_217_0, u_217_1, u_217_2, u_217_5, u_217_6, u_217_9, u_217_12, u_217_13, u_217_16, u_217_17, u_217_20, u_217_23, u_217_24, u_217_25, u_217_26, u_217_29, u_217_30, u_217_32, u_217_33, u_217_36, u_217_39, u_217_40, u_217_41, u_217_44, u_217_47, u_217_48, u_217_49, u_217_52, u_217_55, u_217_56, gI0, gIs, gR0, gRs, gF0, gFs, st0, st_i, st_r, st_f, st_n, st_s, true_and, and_true, ↓ifLeT, ↓ifLeF, ↓ifLtT, ↓ifLtF, ↓ifEqT, ↓ifEqF, if_tt, if_ff, if_pos, if_neg, nLe, nLt, nEq, nInT, nCl, pk_mul, nI_add, Nat.reduceAdd, s_cat_nil, s_cat_i, s_cat_r, s_cat_f, s_cat_l, tl_s, tl_n, cat_i, cat_r, cat_f, nb0, nb1, nbI, if_bI, if_bIr, Nat.zero_le, Nat.reduceLeDiff, M_s2, reduceIte]
      refine go.mpr ?_
      have K := K _ hm2
      unfold firstN at K
      rw [List.range_eq_range'] at K
      exact K
    · simp only [e, Bool.false_eq_true, if_false] at K
      have o : ¬ nI (eN (rdM (zT z) (nF n 2)).2.1 2) = -1 := m1_ne (by omega)
      simp (disch := omega) only [u_217_0, u_217_1, u_217_2, u_217_5, u_217_6, u_217_9, u_217_12, u_217_13, u_217_16, u_217_17, u_217_20, u_217_23, u_217_24, u_217_25, u_217_26, u_217_29, u_217_30, u_217_32, u_217_33, u_217_36, u_217_39, u_217_40, u_217_41, u_217_44, u_217_47, u_217_48, u_217_49, u_217_52, u_217_55, u_217_56, gI0, gIs, gR0, gRs, gF0, gFs, st0, st_i, st_r, st_f, st_n, st_s, true_and, and_true, ↓ifLeT, ↓ifLeF, ↓ifLtT, ↓ifLtF, ↓ifEqT, ↓ifEqF, if_tt, if_ff, if_pos, if_neg, nLe, nLt, nEq, nInT, nCl, pk_mul, nI_add, Nat.reduceAdd, s_cat_nil, s_cat_i, s_cat_r, s_cat_f, s_cat_l, tl_s, tl_n, cat_i, cat_r, cat_f, nb0, nb1, nbI, if_bI, if_bIr, Nat.zero_le, Nat.reduceLeDiff, o, reduceIte]
      exact K m1 (RM_T (RM_fr (frV_Z f1) hm0) T1)
end MMZ
