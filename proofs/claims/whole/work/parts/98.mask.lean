/-! the reference's crane, task, most, mean -/
theorem dcmp_self {u : UInt64} (h : vf_n64 u) : FP.dcmp u u = some .eq := by
  have hn : u.toNat % 9223372036854775808 ≤ 9218868437227405312 := by
    have h : (u &&& 0x7fffffffffffffff).toNat ≤ 9218868437227405312 := h
    rw [UInt64.toNat_and] at h
    have e : u.toNat &&& (0x7fffffffffffffff : UInt64).toNat = u.toNat % 2 ^ 63 := Nat.and_two_pow_sub_one_eq_mod u.toNat 63
    rw [e] at h
    exact h
  have hd : FP.Core.decode FP.Core.b64 u.toNat ≠ .nan := by
    unfold FP.Core.decode
    split
    · rename_i e1
      split
      · intro q; cases q
      · rename_i e2
        exfalso
        have e1 : u.toNat / 4503599627370496 % 2048 = 2047 := e1
        have e2 : ¬ u.toNat % 4503599627370496 = 0 := e2
        omega
    · split <;> (intro q; cases q)
  have cs : ∀ x : Int, compare x x = .eq := fun x => by
    show compareOfLessAndEq x x = .eq
    unfold compareOfLessAndEq
    rw [if_neg (Int.lt_irrefl _), if_pos rfl]
  show FP.Core.order (FP.Core.decode FP.Core.b64 u.toNat) (FP.Core.decode FP.Core.b64 u.toNat) = _
  generalize FP.Core.decode FP.Core.b64 u.toNat = D at hd ⊢
  cases D with
  | nan => exact absurd rfl hd
  | inf s => show some (compare _ _) = _; rw [cs]
  | fin s c q => show some (compare _ _) = _; rw [cs]
section MA
variable {b d : Nat} {m : tM} {h : sH} {i x y w c t v : Int32} {Q : sQ} {n : tN} {z : tQ} {k : sK}
theorem m_dbits {u : UInt64} (hu : vf_n64 u) : MT (d + 2) 273 [.double u] h Q ↔ Q (some (.long u.toInt64)) h := by
  have e1 : ∀ Q, MT (d + 1) 274 [.double u] h Q ↔ Q (some (.int (nI 0))) h := fun Q => by
    rw [MT_go (by decide) _ _ _ (Nat.le_of_ble_eq_true rfl), show s_entry 274 [.double u] = [.double u, s_no] from rfl]
    have c0 : Op.cmpValue (FP.dcmp u u) .l = nI 0 := by rw [dcmp_self hu]; rfl
    simp (disch := omega) only [u_274_0, u_274_1, u_274_2, u_274_3, u_274_6, u_274_7, u_274_10, u_274_11, gI0, gIs, gR0, gRs, gF0, gFs, st0, st_i, st_r, st_f, st_n, st_s, true_and, and_true, ↓ifLeT, ↓ifLeF, ↓ifLtT, ↓ifLtF, ↓ifEqT, ↓ifEqF, if_tt, if_ff, if_pos, if_neg, nLe, nLt, nEq, nInT, nCl, pk_mul, nI_add, Nat.reduceAdd, s_cat_nil, s_cat_i, s_cat_r, s_cat_f, s_cat_l, tl_s, tl_n, cat_i, cat_r, cat_f, nb0, nb1, nbI, if_bI, if_bIr, Nat.zero_le, Nat.reduceLeDiff, gD0, gDs, c0]
  rw [MT_go (by decide) _ _ _ (Nat.le_of_ble_eq_true rfl), show s_entry 273 [.double u] = [.double u, s_no] from rfl]
  simp (disch := omega) only [u_273_0, u_273_1, u_273_4, u_273_7, u_273_8, u_273_11, u_273_12, u_273_15, gI0, gIs, gR0, gRs, gF0, gFs, st0, st_i, st_r, st_f, st_n, st_s, true_and, and_true, ↓ifLeT, ↓ifLeF, ↓ifLtT, ↓ifLtF, ↓ifEqT, ↓ifEqF, if_tt, if_ff, if_pos, if_neg, nLe, nLt, nEq, nInT, nCl, pk_mul, nI_add, Nat.reduceAdd, s_cat_nil, s_cat_i, s_cat_r, s_cat_f, s_cat_l, tl_s, tl_n, cat_i, cat_r, cat_f, nb0, nb1, nbI, if_bI, if_bIr, Nat.zero_le, Nat.reduceLeDiff, gD0, gDs, e1]
theorem zm_lp {k : Nat} (hk : k < 2) (hn : wfN n) (hr : RR (kA m 320) n) : ∀ q t, t + q = nF n 3 → (WP (d + 1) 259 39 [.ref 317, .int (nI k), .int (nI (sumN (fun t => if k = 0 then nA n 12 t else nA n 13 t) t)), .int (nI t)] [] (pM m h) (0, 0) Q ↔ WP (d + 1) 259 76 [.ref 317, .int (nI k), .int (nI (sumN (fun t => if k = 0 then nA n 12 t else nA n 13 t) (nF n 3))), .int (nI (nF n 3))] [] (pM m h) (0, 0) Q) := by
  intro q
  have h8 := hn.1.2.1
  have r1 := hr.2.1
  have c1 : (nI 1).toNatClampNeg = 1 := rfl
  induction q with
  | zero =>
    intro t ht
    have e : t = nF n 3 := by omega
    subst e
    rw [u_259_39]
    simp (disch := omega) only [u_259_0, u_259_1, u_259_2, u_259_5, u_259_6, u_259_9, u_259_12, u_259_13, u_259_16, u_259_17, u_259_18, u_259_21, u_259_22, u_259_23, u_259_24, u_259_25, u_259_28, u_259_31, u_259_34, u_259_35, u_259_36, u_259_37, u_259_38, u_259_40, u_259_41, u_259_44, u_259_45, u_259_46, u_259_49, u_259_50, u_259_51, u_259_54, u_259_55, u_259_56, u_259_59, u_259_60, u_259_63, u_259_64, u_259_67, u_259_68, u_259_69, u_259_70, u_259_73, u_259_77, u_259_78, u_259_79, u_259_82, u_259_83, u_259_84, u_259_85, u_259_86, u_259_89, gI0, gIs, gR0, gRs, gF0, gFs, st0, st_i, st_r, st_f, st_n, st_s, true_and, and_true, ↓ifLeT, ↓ifLeF, ↓ifLtT, ↓ifLtF, ↓ifEqT, ↓ifEqF, if_tt, if_ff, if_pos, if_neg, nLe, nLt, nEq, nInT, nCl, pk_mul, nI_add, Nat.reduceAdd, s_cat_nil, s_cat_i, s_cat_r, s_cat_f, s_cat_l, tl_s, tl_n, cat_i, cat_r, cat_f, nb0, nb1, nbI, if_bI, if_bIr, Nat.zero_le, Nat.reduceLeDiff, M_g0, M_g1, M_g2, M_g3, M_g4, M_g5, M_g6, M_g7, M_g8, M_g9, M_g10, M_g11, M_g12, M_g13, M_g14, M_g15, M_g16, M_g17, M_g18, M_g19, M_g20, M_g21, M_g22, M_g23, M_g24, M_g25, M_g26, M_g27, M_g28, M_g29, M_g30, M_g31, M_g32, M_g33, M_g34, M_g35, M_g36, M_g37, M_g38, M_g39, M_g40, M_g41, M_r rb320, c1, r1]
  | succ q ih =>
    intro t ht
    have ih := ih (t + 1) (by omega)
    rw [sumN] at ih
    obtain ⟨a12, a13, -⟩ := hr.2.2.2 t (by omega)
    rw [u_259_39]
    match k, hk with
    | 0, _ =>
      simp only [if_true] at ih ⊢
      simp (disch := omega) only [u_259_0, u_259_1, u_259_2, u_259_5, u_259_6, u_259_9, u_259_12, u_259_13, u_259_16, u_259_17, u_259_18, u_259_21, u_259_22, u_259_23, u_259_24, u_259_25, u_259_28, u_259_31, u_259_34, u_259_35, u_259_36, u_259_37, u_259_38, u_259_40, u_259_41, u_259_44, u_259_45, u_259_46, u_259_49, u_259_50, u_259_51, u_259_54, u_259_55, u_259_56, u_259_59, u_259_60, u_259_63, u_259_64, u_259_67, u_259_68, u_259_69, u_259_70, u_259_73, u_259_77, u_259_78, u_259_79, u_259_82, u_259_83, u_259_84, u_259_85, u_259_86, u_259_89, gI0, gIs, gR0, gRs, gF0, gFs, st0, st_i, st_r, st_f, st_n, st_s, true_and, and_true, ↓ifLeT, ↓ifLeF, ↓ifLtT, ↓ifLtF, ↓ifEqT, ↓ifEqF, if_tt, if_ff, if_pos, if_neg, nLe, nLt, nEq, nInT, nCl, pk_mul, nI_add, Nat.reduceAdd, s_cat_nil, s_cat_i, s_cat_r, s_cat_f, s_cat_l, tl_s, tl_n, cat_i, cat_r, cat_f, nb0, nb1, nbI, if_bI, if_bIr, Nat.zero_le, Nat.reduceLeDiff, M_g0, M_g1, M_g2, M_g3, M_g4, M_g5, M_g6, M_g7, M_g8, M_g9, M_g10, M_g11, M_g12, M_g13, M_g14, M_g15, M_g16, M_g17, M_g18, M_g19, M_g20, M_g21, M_g22, M_g23, M_g24, M_g25, M_g26, M_g27, M_g28, M_g29, M_g30, M_g31, M_g32, M_g33, M_g34, M_g35, M_g36, M_g37, M_g38, M_g39, M_g40, M_g41, m_tAt, M_r rb320, c1, r1, a12, ih]
    | 1, _ =>
      simp only [if_neg (show ¬ 1 = 0 by decide)] at ih ⊢
      simp (disch := omega) only [u_259_0, u_259_1, u_259_2, u_259_5, u_259_6, u_259_9, u_259_12, u_259_13, u_259_16, u_259_17, u_259_18, u_259_21, u_259_22, u_259_23, u_259_24, u_259_25, u_259_28, u_259_31, u_259_34, u_259_35, u_259_36, u_259_37, u_259_38, u_259_40, u_259_41, u_259_44, u_259_45, u_259_46, u_259_49, u_259_50, u_259_51, u_259_54, u_259_55, u_259_56, u_259_59, u_259_60, u_259_63, u_259_64, u_259_67, u_259_68, u_259_69, u_259_70, u_259_73, u_259_77, u_259_78, u_259_79, u_259_82, u_259_83, u_259_84, u_259_85, u_259_86, u_259_89, gI0, gIs, gR0, gRs, gF0, gFs, st0, st_i, st_r, st_f, st_n, st_s, true_and, and_true, ↓ifLeT, ↓ifLeF, ↓ifLtT, ↓ifLtF, ↓ifEqT, ↓ifEqF, if_tt, if_ff, if_pos, if_neg, nLe, nLt, nEq, nInT, nCl, pk_mul, nI_add, Nat.reduceAdd, s_cat_nil, s_cat_i, s_cat_r, s_cat_f, s_cat_l, tl_s, tl_n, cat_i, cat_r, cat_f, nb0, nb1, nbI, if_bI, if_bIr, Nat.zero_le, Nat.reduceLeDiff, M_g0, M_g1, M_g2, M_g3, M_g4, M_g5, M_g6, M_g7, M_g8, M_g9, M_g10, M_g11, M_g12, M_g13, M_g14, M_g15, M_g16, M_g17, M_g18, M_g19, M_g20, M_g21, M_g22, M_g23, M_g24, M_g25, M_g26, M_g27, M_g28, M_g29, M_g30, M_g31, M_g32, M_g33, M_g34, M_g35, M_g36, M_g37, M_g38, M_g39, M_g40, M_g41, m_tAt, M_r rb320, c1, r1, a13, nI10, reduceIte, ih]
theorem z_mean (hm : RM m z) (K : ∀ m', RM m' z → Q (some (.long (zmean z w))) (pM m' h)) : MT (d + 4) 259 [.ref 317, .int w] (pM m h) Q := by
  rw [MT_go (by decide) _ _ _ (Nat.le_of_ble_eq_true rfl), show s_entry 259 [.ref 317, .int w] = [.ref 317, .int w, s_no, s_no] from rfl]
  have hm0 := RM_0 (x := nI 0) hm
  have q1 := hm.2.1.1
  have c1 : (nI 1).toNatClampNeg = 1 := rfl
  unfold zmean at K
  cases hq : zQ z with
  | none =>
    simp only [hq] at K
    rw [hq] at q1
    simp (disch := omega) only [u_259_0, u_259_1, u_259_2, u_259_5, u_259_6, u_259_9, u_259_12, u_259_13, u_259_16, u_259_17, u_259_18, u_259_21, u_259_22, u_259_23, u_259_24, u_259_25, u_259_28, u_259_31, u_259_34, u_259_35, u_259_36, u_259_37, u_259_38, u_259_40, u_259_41, u_259_44, u_259_45, u_259_46, u_259_49, u_259_50, u_259_51, u_259_54, u_259_55, u_259_56, u_259_59, u_259_60, u_259_63, u_259_64, u_259_67, u_259_68, u_259_69, u_259_70, u_259_73, u_259_76, u_259_77, u_259_78, u_259_79, u_259_82, u_259_83, u_259_84, u_259_85, u_259_86, u_259_89, gI0, gIs, gR0, gRs, gF0, gFs, st0, st_i, st_r, st_f, st_n, st_s, true_and, and_true, ↓ifLeT, ↓ifLeF, ↓ifLtT, ↓ifLtF, ↓ifEqT, ↓ifEqF, if_tt, if_ff, if_pos, if_neg, nLe, nLt, nEq, nInT, nCl, pk_mul, nI_add, Nat.reduceAdd, s_cat_nil, s_cat_i, s_cat_r, s_cat_f, s_cat_l, tl_s, tl_n, cat_i, cat_r, cat_f, nb0, nb1, nbI, if_bI, if_bIr, Nat.zero_le, Nat.reduceLeDiff, M_ob, M_g0, M_g1, M_g2, M_g3, M_g4, M_g5, M_g6, M_g7, M_g8, M_g9, M_g10, M_g11, M_g12, M_g13, M_g14, M_g15, M_g16, M_g17, M_g18, M_g19, M_g20, M_g21, M_g22, M_g23, M_g24, M_g25, M_g26, M_g27, M_g28, M_g29, M_g30, M_g31, M_g32, M_g33, M_g34, M_g35, M_g36, M_g37, M_g38, M_g39, M_g40, M_g41, M_s0, kI_xI, kI_xB, kI_xA, kI_xV, kB_xI, kB_xB, kB_xA, kB_xV, kA_xI, kA_xB, kA_xA, kA_xV, kV_xI, kV_xB, kV_xA, kV_xV, Nat.reduceEqDiff, reduceIte, q1, Option.isSome, iBf]
    exact K _ hm0
  | some n =>
    simp only [hq] at K
    rw [hq] at q1
    obtain ⟨hg, hr, hok⟩ := RM_q hm0 hq
    have h8 := hok.1.1.2.1
    have r1 := hr.2.1
    by_cases h0 : nF n 3 = 0
    · simp only [if_pos h0] at K
      rw [h0] at r1
      have r1 : kA m 320 1 = nI 0 := r1
      simp (disch := omega) only [u_259_0, u_259_1, u_259_2, u_259_5, u_259_6, u_259_9, u_259_12, u_259_13, u_259_16, u_259_17, u_259_18, u_259_21, u_259_22, u_259_23, u_259_24, u_259_25, u_259_28, u_259_31, u_259_34, u_259_35, u_259_36, u_259_37, u_259_38, u_259_40, u_259_41, u_259_44, u_259_45, u_259_46, u_259_49, u_259_50, u_259_51, u_259_54, u_259_55, u_259_56, u_259_59, u_259_60, u_259_63, u_259_64, u_259_67, u_259_68, u_259_69, u_259_70, u_259_73, u_259_76, u_259_77, u_259_78, u_259_79, u_259_82, u_259_83, u_259_84, u_259_85, u_259_86, u_259_89, gI0, gIs, gR0, gRs, gF0, gFs, st0, st_i, st_r, st_f, st_n, st_s, true_and, and_true, ↓ifLeT, ↓ifLeF, ↓ifLtT, ↓ifLtF, ↓ifEqT, ↓ifEqF, if_tt, if_ff, if_pos, if_neg, nLe, nLt, nEq, nInT, nCl, pk_mul, nI_add, Nat.reduceAdd, s_cat_nil, s_cat_i, s_cat_r, s_cat_f, s_cat_l, tl_s, tl_n, cat_i, cat_r, cat_f, nb0, nb1, nbI, if_bI, if_bIr, Nat.zero_le, Nat.reduceLeDiff, M_ob, M_g0, M_g1, M_g2, M_g3, M_g4, M_g5, M_g6, M_g7, M_g8, M_g9, M_g10, M_g11, M_g12, M_g13, M_g14, M_g15, M_g16, M_g17, M_g18, M_g19, M_g20, M_g21, M_g22, M_g23, M_g24, M_g25, M_g26, M_g27, M_g28, M_g29, M_g30, M_g31, M_g32, M_g33, M_g34, M_g35, M_g36, M_g37, M_g38, M_g39, M_g40, M_g41, M_s0, kI_xI, kI_xB, kI_xA, kI_xV, kB_xI, kB_xB, kB_xA, kB_xV, kA_xI, kA_xB, kA_xA, kA_xV, kV_xI, kV_xB, kV_xA, kV_xV, Nat.reduceEqDiff, reduceIte, M_r rb320, c1, r1, q1, Option.isSome, iBt, nI10]
      exact K _ hm0
    · simp only [if_neg h0] at K
      have r1' : kA m 320 1 = nI (nF n 3) := r1
      have ne : ¬ nI (nF n 3) = nI 0 := fun q => h0 ((nI_eq (by omega) (by omega)).mp q)
      cases h1 : ixN w 2 with
      | none =>
        simp only [h1] at K
        simp (disch := omega) only [u_259_0, u_259_1, u_259_2, u_259_5, u_259_6, u_259_9, u_259_12, u_259_13, u_259_16, u_259_17, u_259_18, u_259_21, u_259_22, u_259_23, u_259_24, u_259_25, u_259_28, u_259_31, u_259_34, u_259_35, u_259_36, u_259_37, u_259_38, u_259_40, u_259_41, u_259_44, u_259_45, u_259_46, u_259_49, u_259_50, u_259_51, u_259_54, u_259_55, u_259_56, u_259_59, u_259_60, u_259_63, u_259_64, u_259_67, u_259_68, u_259_69, u_259_70, u_259_73, u_259_76, u_259_77, u_259_78, u_259_79, u_259_82, u_259_83, u_259_84, u_259_85, u_259_86, u_259_89, gI0, gIs, gR0, gRs, gF0, gFs, st0, st_i, st_r, st_f, st_n, st_s, true_and, and_true, ↓ifLeT, ↓ifLeF, ↓ifLtT, ↓ifLtF, ↓ifEqT, ↓ifEqF, if_tt, if_ff, if_pos, if_neg, nLe, nLt, nEq, nInT, nCl, pk_mul, nI_add, Nat.reduceAdd, s_cat_nil, s_cat_i, s_cat_r, s_cat_f, s_cat_l, tl_s, tl_n, cat_i, cat_r, cat_f, nb0, nb1, nbI, if_bI, if_bIr, Nat.zero_le, Nat.reduceLeDiff, M_ob, M_g0, M_g1, M_g2, M_g3, M_g4, M_g5, M_g6, M_g7, M_g8, M_g9, M_g10, M_g11, M_g12, M_g13, M_g14, M_g15, M_g16, M_g17, M_g18, M_g19, M_g20, M_g21, M_g22, M_g23, M_g24, M_g25, M_g26, M_g27, M_g28, M_g29, M_g30, M_g31, M_g32, M_g33, M_g34, M_g35, M_g36, M_g37, M_g38, M_g39, M_g40, M_g41, M_s0, kI_xI, kI_xB, kI_xA, kI_xV, kB_xI, kB_xB, kB_xA, kB_xV, kA_xI, kA_xB, kA_xA, kA_xV, kV_xI, kV_xB, kV_xA, kV_xV, Nat.reduceEqDiff, reduceIte, M_r rb320, c1, r1', q1, ne, in2, h1, Option.isSome, iBt, iBf, nI10]
        exact K _ hm0
      | some k =>
        simp only [h1] at K
        obtain ⟨k1, rfl⟩ := ix_some (by omega) h1
        have lp := zm_lp (d := d + 2) (h := h) (Q := Q) k1 hok.1 hr (nF n 3) 0 (Nat.zero_add _)
        have sb : sumN (fun t => if k = 0 then nA n 12 t else nA n 13 t) (nF n 3) ≤ 240 := by
          have : sumN (fun t => if k = 0 then nA n 12 t else nA n 13 t) (nF n 3) ≤ nF n 3 * 30 := sum_bd fun t ht => by
            have a1 := (hok.1.2.2.1 t ht).1
            have a2 := hok.2.2.2 t ht
            have a3 := hok.1.1.2.2.2.1
            split <;> omega
          omega
        obtain ⟨-, m2⟩ := mean_t (T := nF n 3) sb (by omega) h8
        unfold meanV at m2
        have e1 := fun Q => m_dbits (d := d + 1) (h := pM (xI m 0 (nI 0)) h) (Q := Q) m2
        have lp : WP (d + 3) 259 39 [.ref 317, .int (nI k), .int (nI 0), .int (nI 0)] [] (pM (xI m 0 (nI 0)) h) (0, 0) Q ↔ _ := lp
        simp (disch := omega) only [u_259_0, u_259_1, u_259_2, u_259_5, u_259_6, u_259_9, u_259_12, u_259_13, u_259_16, u_259_17, u_259_18, u_259_21, u_259_22, u_259_23, u_259_24, u_259_25, u_259_28, u_259_31, u_259_34, u_259_35, u_259_36, u_259_37, u_259_38, u_259_40, u_259_41, u_259_44, u_259_45, u_259_46, u_259_49, u_259_50, u_259_51, u_259_54, u_259_55, u_259_56, u_259_59, u_259_60, u_259_63, u_259_64, u_259_67, u_259_68, u_259_69, u_259_70, u_259_73, u_259_76, u_259_77, u_259_78, u_259_79, u_259_82, u_259_83, u_259_84, u_259_85, u_259_86, u_259_89, gI0, gIs, gR0, gRs, gF0, gFs, st0, st_i, st_r, st_f, st_n, st_s, true_and, and_true, ↓ifLeT, ↓ifLeF, ↓ifLtT, ↓ifLtF, ↓ifEqT, ↓ifEqF, if_tt, if_ff, if_pos, if_neg, nLe, nLt, nEq, nInT, nCl, pk_mul, nI_add, Nat.reduceAdd, s_cat_nil, s_cat_i, s_cat_r, s_cat_f, s_cat_l, tl_s, tl_n, cat_i, cat_r, cat_f, nb0, nb1, nbI, if_bI, if_bIr, Nat.zero_le, Nat.reduceLeDiff, M_ob, M_g0, M_g1, M_g2, M_g3, M_g4, M_g5, M_g6, M_g7, M_g8, M_g9, M_g10, M_g11, M_g12, M_g13, M_g14, M_g15, M_g16, M_g17, M_g18, M_g19, M_g20, M_g21, M_g22, M_g23, M_g24, M_g25, M_g26, M_g27, M_g28, M_g29, M_g30, M_g31, M_g32, M_g33, M_g34, M_g35, M_g36, M_g37, M_g38, M_g39, M_g40, M_g41, M_s0, kI_xI, kI_xB, kI_xA, kI_xV, kB_xI, kB_xB, kB_xA, kB_xV, kA_xI, kA_xB, kA_xA, kA_xV, kV_xI, kV_xB, kV_xA, kV_xV, Nat.reduceEqDiff, reduceIte, M_r rb320, c1, r1', q1, ne, in2, h1, Option.isSome, iBt, nI10, lp, m2, e1]
        exact K _ hm0
theorem z_task (hm : RM m z) (K : ∀ m', RM m' z → Q (some (.int (ztask z t w))) (pM m' h)) : MT (d + 4) 208 [.ref 317, .int t, .int w] (pM m h) Q := by
  rw [MT_go (by decide) _ _ _ (Nat.le_of_ble_eq_true rfl), show s_entry 208 [.ref 317, .int t, .int w] = [.ref 317, .int t, .int w] from rfl]
  have hm0 := RM_0 (x := nI 0) hm
  have e1 := fun Q => z_isT (d := d + 1) (h := h) (Q := Q) (x := t) hm0
  unfold ztask at K
  cases hq : zQ z with
  | none =>
    simp only [hq] at K
    rw [zN_0 hq, ix_0] at e1
    simp (disch := omega) only [u_208_0, u_208_1, u_208_2, u_208_5, u_208_6, u_208_7, u_208_10, u_208_13, u_208_14, u_208_15, u_208_16, u_208_68, u_208_69, u_208_72, u_208_73, u_208_74, u_208_77, u_208_78, u_208_79, u_208_80, u_208_83, u_208_84, u_208_87, u_208_90, u_208_91, u_208_94, u_208_95, u_208_96, u_208_97, u_208_98, u_208_101, u_208_102, u_208_103, u_208_106, u_208_107, u_208_108, u_208_111, u_208_112, u_208_113, u_208_114, u_208_117, u_208_118, u_208_120, u_208_123, u_208_124, u_208_125, u_208_126, gI0, gIs, gR0, gRs, gF0, gFs, st0, st_i, st_r, st_f, st_n, st_s, true_and, and_true, ↓ifLeT, ↓ifLeF, ↓ifLtT, ↓ifLtF, ↓ifEqT, ↓ifEqF, if_tt, if_ff, if_pos, if_neg, nLe, nLt, nEq, nInT, nCl, pk_mul, nI_add, Nat.reduceAdd, s_cat_nil, s_cat_i, s_cat_r, s_cat_f, s_cat_l, tl_s, tl_n, cat_i, cat_r, cat_f, nb0, nb1, nbI, if_bI, if_bIr, Nat.zero_le, Nat.reduceLeDiff, M_ob, M_s0, e1, Option.isSome, iBf]
    exact K _ hm0
  | some n =>
    simp only [hq] at K
    rw [zN_s hq] at e1
    obtain ⟨hg, hr, hok⟩ := RM_q hm0 hq
    have h8 := hok.1.1.2.1
    cases h1 : ixN t (nF n 3) with
    | none =>
      rw [h1] at e1
      simp only [h1] at K
      simp (disch := omega) only [u_208_0, u_208_1, u_208_2, u_208_5, u_208_6, u_208_7, u_208_10, u_208_13, u_208_14, u_208_15, u_208_16, u_208_68, u_208_69, u_208_72, u_208_73, u_208_74, u_208_77, u_208_78, u_208_79, u_208_80, u_208_83, u_208_84, u_208_87, u_208_90, u_208_91, u_208_94, u_208_95, u_208_96, u_208_97, u_208_98, u_208_101, u_208_102, u_208_103, u_208_106, u_208_107, u_208_108, u_208_111, u_208_112, u_208_113, u_208_114, u_208_117, u_208_118, u_208_120, u_208_123, u_208_124, u_208_125, u_208_126, gI0, gIs, gR0, gRs, gF0, gFs, st0, st_i, st_r, st_f, st_n, st_s, true_and, and_true, ↓ifLeT, ↓ifLeF, ↓ifLtT, ↓ifLtF, ↓ifEqT, ↓ifEqF, if_tt, if_ff, if_pos, if_neg, nLe, nLt, nEq, nInT, nCl, pk_mul, nI_add, Nat.reduceAdd, s_cat_nil, s_cat_i, s_cat_r, s_cat_f, s_cat_l, tl_s, tl_n, cat_i, cat_r, cat_f, nb0, nb1, nbI, if_bI, if_bIr, Nat.zero_le, Nat.reduceLeDiff, M_ob, M_s0, e1, Option.isSome, iBf]
      exact K _ hm0
    | some j =>
      rw [h1] at e1
      simp only [h1] at K
      obtain ⟨j1, rfl⟩ := ix_some (by omega) h1
      obtain ⟨a12, a13, a14, a15, a16, a17, a18⟩ := hr.2.2.2 j j1
      have e2 := fun Q => r_done (d := d + 1) (h := h) (Q := Q) rb320 hok.1 hr j1
      have K := K _ hm0
      simp (disch := omega) only [u_208_0, u_208_1, u_208_2, u_208_5, u_208_6, u_208_7, u_208_10, u_208_13, u_208_14, u_208_15, u_208_16, gI0, gIs, gR0, gRs, gF0, gFs, st0, st_i, st_r, st_f, st_n, st_s, true_and, and_true, ↓ifLeT, ↓ifLeF, ↓ifLtT, ↓ifLtF, ↓ifEqT, ↓ifEqF, if_tt, if_ff, if_pos, if_neg, nLe, nLt, nEq, nInT, nCl, pk_mul, nI_add, Nat.reduceAdd, s_cat_nil, s_cat_i, s_cat_r, s_cat_f, s_cat_l, tl_s, tl_n, cat_i, cat_r, cat_f, nb0, nb1, nbI, if_bI, if_bIr, Nat.zero_le, Nat.reduceLeDiff, M_ob, M_s0, e1, Option.isSome, iBt, nI10]
      cases h2 : ixN w 9 with
      | none =>
        have ne : ∀ k, k < 9 → ¬ w = nI k := fun k hk q => by
          rw [q, ix_nI hk (by decide)] at h2
          cases h2
        have n0 := ne 0 (by decide)
        have n1 := ne 1 (by decide)
        have n2 := ne 2 (by decide)
        have n3 := ne 3 (by decide)
        have n4 := ne 4 (by decide)
        have n5 := ne 5 (by decide)
        have n6 := ne 6 (by decide)
        have n7 := ne 7 (by decide)
        have n8 := ne 8 (by decide)
        rw [if_neg n0, if_neg n1, if_neg n2, if_neg n3, if_neg n4, if_neg n5, if_neg n6, if_neg n7, if_neg n8] at K
        simp only [swt_c, swt_n, Nat.reduceAdd, if_neg n0, if_neg n1, if_neg n2, if_neg n3, if_neg n4, if_neg n5, if_neg n6, if_neg n7, if_neg n8]
        simp (disch := omega) only [u_208_125, u_208_126, gI0, gIs, gR0, gRs, gF0, gFs, st0, st_i, st_r, st_f, st_n, st_s, true_and, and_true, ↓ifLeT, ↓ifLeF, ↓ifLtT, ↓ifLtF, ↓ifEqT, ↓ifEqF, if_tt, if_ff, if_pos, if_neg, nLe, nLt, nEq, nInT, nCl, pk_mul, nI_add, Nat.reduceAdd, s_cat_nil, s_cat_i, s_cat_r, s_cat_f, s_cat_l, tl_s, tl_n, cat_i, cat_r, cat_f, nb0, nb1, nbI, if_bI, if_bIr, Nat.zero_le, Nat.reduceLeDiff]
        exact K
      | some k =>
        obtain ⟨k1, rfl⟩ := ix_some (by omega) h2
        match k, k1 with
        | 0, _ | 1, _ | 2, _ | 3, _ | 4, _ | 7, _ | 8, _ =>
          simp (disch := omega) only [swt_c, swt_n, Nat.reduceAdd, ↓ifEqT, ↓ifEqF]
          simp (disch := omega) only [u_208_68, u_208_69, u_208_72, u_208_73, u_208_74, u_208_77, u_208_78, u_208_79, u_208_80, u_208_83, u_208_84, u_208_87, u_208_90, u_208_91, u_208_94, u_208_95, u_208_96, u_208_97, u_208_98, u_208_101, u_208_102, u_208_103, u_208_106, u_208_107, u_208_108, u_208_111, u_208_112, u_208_113, u_208_114, u_208_117, u_208_118, u_208_120, u_208_123, u_208_124, u_208_125, u_208_126, gI0, gIs, gR0, gRs, gF0, gFs, st0, st_i, st_r, st_f, st_n, st_s, true_and, and_true, ↓ifLeT, ↓ifLeF, ↓ifLtT, ↓ifLtF, ↓ifEqT, ↓ifEqF, if_tt, if_ff, if_pos, if_neg, nLe, nLt, nEq, nInT, nCl, pk_mul, nI_add, Nat.reduceAdd, s_cat_nil, s_cat_i, s_cat_r, s_cat_f, s_cat_l, tl_s, tl_n, cat_i, cat_r, cat_f, nb0, nb1, nbI, if_bI, if_bIr, Nat.zero_le, Nat.reduceLeDiff, M_g0, M_g1, M_g2, M_g3, M_g4, M_g5, M_g6, M_g7, M_g8, M_g9, M_g10, M_g11, M_g12, M_g13, M_g14, M_g15, M_g16, M_g17, M_g18, M_g19, M_g20, M_g21, M_g22, M_g23, M_g24, M_g25, M_g26, M_g27, M_g28, M_g29, M_g30, M_g31, M_g32, M_g33, M_g34, M_g35, M_g36, M_g37, M_g38, M_g39, M_g40, M_g41, m_tAt, M_r rb320, a12, a13, a14, a15, a16, a17, a18]
          exact K
        | 5, _ =>
          simp (disch := omega) only [swt_c, swt_n, Nat.reduceAdd, ↓ifEqT, ↓ifEqF]
          have K : Q (some (.int (iB (nDone n j)))) _ := K
          cases hd : nDone n j with
          | true =>
            rw [hd] at e2 K
            simp (disch := omega) only [u_208_68, u_208_69, u_208_72, u_208_73, u_208_74, u_208_77, u_208_78, u_208_79, u_208_80, u_208_83, u_208_84, u_208_87, u_208_90, u_208_91, u_208_94, u_208_95, u_208_96, u_208_97, u_208_98, u_208_101, u_208_102, u_208_103, u_208_106, u_208_107, u_208_108, u_208_111, u_208_112, u_208_113, u_208_114, u_208_117, u_208_118, u_208_120, u_208_123, u_208_124, u_208_125, u_208_126, gI0, gIs, gR0, gRs, gF0, gFs, st0, st_i, st_r, st_f, st_n, st_s, true_and, and_true, ↓ifLeT, ↓ifLeF, ↓ifLtT, ↓ifLtF, ↓ifEqT, ↓ifEqF, if_tt, if_ff, if_pos, if_neg, nLe, nLt, nEq, nInT, nCl, pk_mul, nI_add, Nat.reduceAdd, s_cat_nil, s_cat_i, s_cat_r, s_cat_f, s_cat_l, tl_s, tl_n, cat_i, cat_r, cat_f, nb0, nb1, nbI, if_bI, if_bIr, Nat.zero_le, Nat.reduceLeDiff, M_g0, M_g1, M_g2, M_g3, M_g4, M_g5, M_g6, M_g7, M_g8, M_g9, M_g10, M_g11, M_g12, M_g13, M_g14, M_g15, M_g16, M_g17, M_g18, M_g19, M_g20, M_g21, M_g22, M_g23, M_g24, M_g25, M_g26, M_g27, M_g28, M_g29, M_g30, M_g31, M_g32, M_g33, M_g34, M_g35, M_g36, M_g37, M_g38, M_g39, M_g40, M_g41, e2, iBt, nI10, reduceIte]
            exact K
          | false =>
            rw [hd] at e2 K
            simp (disch := omega) only [u_208_68, u_208_69, u_208_72, u_208_73, u_208_74, u_208_77, u_208_78, u_208_79, u_208_80, u_208_83, u_208_84, u_208_87, u_208_90, u_208_91, u_208_94, u_208_95, u_208_96, u_208_97, u_208_98, u_208_101, u_208_102, u_208_103, u_208_106, u_208_107, u_208_108, u_208_111, u_208_112, u_208_113, u_208_114, u_208_117, u_208_118, u_208_120, u_208_123, u_208_124, u_208_125, u_208_126, gI0, gIs, gR0, gRs, gF0, gFs, st0, st_i, st_r, st_f, st_n, st_s, true_and, and_true, ↓ifLeT, ↓ifLeF, ↓ifLtT, ↓ifLtF, ↓ifEqT, ↓ifEqF, if_tt, if_ff, if_pos, if_neg, nLe, nLt, nEq, nInT, nCl, pk_mul, nI_add, Nat.reduceAdd, s_cat_nil, s_cat_i, s_cat_r, s_cat_f, s_cat_l, tl_s, tl_n, cat_i, cat_r, cat_f, nb0, nb1, nbI, if_bI, if_bIr, Nat.zero_le, Nat.reduceLeDiff, M_g0, M_g1, M_g2, M_g3, M_g4, M_g5, M_g6, M_g7, M_g8, M_g9, M_g10, M_g11, M_g12, M_g13, M_g14, M_g15, M_g16, M_g17, M_g18, M_g19, M_g20, M_g21, M_g22, M_g23, M_g24, M_g25, M_g26, M_g27, M_g28, M_g29, M_g30, M_g31, M_g32, M_g33, M_g34, M_g35, M_g36, M_g37, M_g38, M_g39, M_g40, M_g41, e2, iBf]
            exact K
        | 6, _ =>
          simp (disch := omega) only [swt_c, swt_n, Nat.reduceAdd, ↓ifEqT, ↓ifEqF]
          simp (disch := omega) only [u_208_68, u_208_69, u_208_72, u_208_73, u_208_74, u_208_77, u_208_78, u_208_79, u_208_80, u_208_83, u_208_84, u_208_87, u_208_90, u_208_91, u_208_94, u_208_95, u_208_96, u_208_97, u_208_98, u_208_101, u_208_102, u_208_103, u_208_106, u_208_107, u_208_108, u_208_111, u_208_112, u_208_113, u_208_114, u_208_117, u_208_118, u_208_120, u_208_123, u_208_124, u_208_125, u_208_126, gI0, gIs, gR0, gRs, gF0, gFs, st0, st_i, st_r, st_f, st_n, st_s, true_and, and_true, ↓ifLeT, ↓ifLeF, ↓ifLtT, ↓ifLtF, ↓ifEqT, ↓ifEqF, if_tt, if_ff, if_pos, if_neg, nLe, nLt, nEq, nInT, nCl, pk_mul, nI_add, Nat.reduceAdd, s_cat_nil, s_cat_i, s_cat_r, s_cat_f, s_cat_l, tl_s, tl_n, cat_i, cat_r, cat_f, nb0, nb1, nbI, if_bI, if_bIr, Nat.zero_le, Nat.reduceLeDiff, M_ob]
          refine z_toldBy (d := d + 1) hok.1 hg.2.2.1 hr (by omega) ?_
          simp (disch := omega) only [u_208_68, u_208_69, u_208_72, u_208_73, u_208_74, u_208_77, u_208_78, u_208_79, u_208_80, u_208_83, u_208_84, u_208_87, u_208_90, u_208_91, u_208_94, u_208_95, u_208_96, u_208_97, u_208_98, u_208_101, u_208_102, u_208_103, u_208_106, u_208_107, u_208_108, u_208_111, u_208_112, u_208_113, u_208_114, u_208_117, u_208_118, u_208_120, u_208_123, u_208_124, u_208_125, u_208_126, gI0, gIs, gR0, gRs, gF0, gFs, st0, st_i, st_r, st_f, st_n, st_s, true_and, and_true, ↓ifLeT, ↓ifLeF, ↓ifLtT, ↓ifLtF, ↓ifEqT, ↓ifEqF, if_tt, if_ff, if_pos, if_neg, nLe, nLt, nEq, nInT, nCl, pk_mul, nI_add, Nat.reduceAdd, s_cat_nil, s_cat_i, s_cat_r, s_cat_f, s_cat_l, tl_s, tl_n, cat_i, cat_r, cat_f, nb0, nb1, nbI, if_bI, if_bIr, Nat.zero_le, Nat.reduceLeDiff]
          exact K
theorem z_crane (hm : RM m z) (K : ∀ m', RM m' z → kI m' 0 = iB (zcrane z c w).isNone → Q (some (.int ((zcrane z c w).getD (nI 0)))) (pM m' h)) : MT (d + 4) 206 [.ref 317, .int c, .int w] (pM m h) Q := by
  rw [MT_go (by decide) _ _ _ (Nat.le_of_ble_eq_true rfl), show s_entry 206 [.ref 317, .int c, .int w] = [.ref 317, .int c, .int w] from rfl]
  have e1 := fun Q => z_isC (d := d + 1) (h := h) (Q := Q) (x := c) hm
  have k1 : kI (xI m 0 (nI 1)) 0 = iB true := rfl
  have k0 : kI (xI m 0 (nI 0)) 0 = iB false := rfl
  unfold zcrane at K
  cases hq : zQ z with
  | none =>
    simp only [hq] at K
    rw [zC_0 hq, ix_0] at e1
    simp (disch := omega) only [u_206_0, u_206_1, u_206_2, u_206_3, u_206_6, u_206_9, u_206_10, u_206_11, u_206_12, u_206_15, u_206_18, u_206_21, u_206_22, u_206_25, u_206_26, u_206_29, u_206_30, u_206_33, u_206_34, u_206_37, u_206_38, u_206_39, u_206_40, u_206_76, u_206_77, u_206_80, u_206_81, u_206_82, u_206_85, u_206_86, u_206_87, u_206_88, u_206_91, u_206_92, u_206_93, u_206_94, u_206_95, u_206_98, u_206_99, u_206_102, u_206_103, u_206_104, u_206_107, u_206_108, u_206_109, u_206_112, u_206_113, u_206_114, u_206_115, u_206_118, u_206_119, u_206_122, u_206_125, u_206_126, u_206_127, u_206_128, u_206_129, u_206_132, u_206_133, u_206_134, u_206_137, u_206_138, gI0, gIs, gR0, gRs, gF0, gFs, st0, st_i, st_r, st_f, st_n, st_s, true_and, and_true, ↓ifLeT, ↓ifLeF, ↓ifLtT, ↓ifLtF, ↓ifEqT, ↓ifEqF, if_tt, if_ff, if_pos, if_neg, nLe, nLt, nEq, nInT, nCl, pk_mul, nI_add, Nat.reduceAdd, s_cat_nil, s_cat_i, s_cat_r, s_cat_f, s_cat_l, tl_s, tl_n, cat_i, cat_r, cat_f, nb0, nb1, nbI, if_bI, if_bIr, Nat.zero_le, Nat.reduceLeDiff, M_ob, M_s0, M_g0, M_g1, M_g2, M_g3, M_g4, M_g5, M_g6, M_g7, M_g8, M_g9, M_g10, M_g11, M_g12, M_g13, M_g14, M_g15, M_g16, M_g17, M_g18, M_g19, M_g20, M_g21, M_g22, M_g23, M_g24, M_g25, M_g26, M_g27, M_g28, M_g29, M_g30, M_g31, M_g32, M_g33, M_g34, M_g35, M_g36, M_g37, M_g38, M_g39, M_g40, M_g41, kI_xI, kI_xB, kI_xA, kI_xV, kB_xI, kB_xB, kB_xA, kB_xV, kA_xI, kA_xB, kA_xA, kA_xV, kV_xI, kV_xB, kV_xA, kV_xV, Nat.reduceEqDiff, reduceIte, e1, Option.isSome, iBf]
    exact K _ (RM_0 hm) k1
  | some n =>
    simp only [hq] at K
    rw [zC_s hq] at e1
    obtain ⟨hg, hr, hok⟩ := RM_q hm hq
    have h4 := hok.1.1.1
    cases h1 : ixN c (nF n 2) with
    | none =>
      rw [h1] at e1
      simp only [h1] at K
      simp (disch := omega) only [u_206_0, u_206_1, u_206_2, u_206_3, u_206_6, u_206_9, u_206_10, u_206_11, u_206_12, u_206_15, u_206_18, u_206_21, u_206_22, u_206_25, u_206_26, u_206_29, u_206_30, u_206_33, u_206_34, u_206_37, u_206_38, u_206_39, u_206_40, u_206_76, u_206_77, u_206_80, u_206_81, u_206_82, u_206_85, u_206_86, u_206_87, u_206_88, u_206_91, u_206_92, u_206_93, u_206_94, u_206_95, u_206_98, u_206_99, u_206_102, u_206_103, u_206_104, u_206_107, u_206_108, u_206_109, u_206_112, u_206_113, u_206_114, u_206_115, u_206_118, u_206_119, u_206_122, u_206_125, u_206_126, u_206_127, u_206_128, u_206_129, u_206_132, u_206_133, u_206_134, u_206_137, u_206_138, gI0, gIs, gR0, gRs, gF0, gFs, st0, st_i, st_r, st_f, st_n, st_s, true_and, and_true, ↓ifLeT, ↓ifLeF, ↓ifLtT, ↓ifLtF, ↓ifEqT, ↓ifEqF, if_tt, if_ff, if_pos, if_neg, nLe, nLt, nEq, nInT, nCl, pk_mul, nI_add, Nat.reduceAdd, s_cat_nil, s_cat_i, s_cat_r, s_cat_f, s_cat_l, tl_s, tl_n, cat_i, cat_r, cat_f, nb0, nb1, nbI, if_bI, if_bIr, Nat.zero_le, Nat.reduceLeDiff, M_ob, M_s0, M_g0, M_g1, M_g2, M_g3, M_g4, M_g5, M_g6, M_g7, M_g8, M_g9, M_g10, M_g11, M_g12, M_g13, M_g14, M_g15, M_g16, M_g17, M_g18, M_g19, M_g20, M_g21, M_g22, M_g23, M_g24, M_g25, M_g26, M_g27, M_g28, M_g29, M_g30, M_g31, M_g32, M_g33, M_g34, M_g35, M_g36, M_g37, M_g38, M_g39, M_g40, M_g41, kI_xI, kI_xB, kI_xA, kI_xV, kB_xI, kB_xB, kB_xA, kB_xV, kA_xI, kA_xB, kA_xA, kA_xV, kV_xI, kV_xB, kV_xA, kV_xV, Nat.reduceEqDiff, reduceIte, e1, Option.isSome, iBf]
      exact K _ (RM_0 hm) k1
    | some j =>
      rw [h1] at e1
      simp only [h1] at K
      cases h2 : ixN w 6 with
      | none =>
        simp only [h2] at K
        simp (disch := omega) only [u_206_0, u_206_1, u_206_2, u_206_3, u_206_6, u_206_9, u_206_10, u_206_11, u_206_12, u_206_15, u_206_18, u_206_21, u_206_22, u_206_25, u_206_26, u_206_29, u_206_30, u_206_33, u_206_34, u_206_37, u_206_38, u_206_39, u_206_40, u_206_76, u_206_77, u_206_80, u_206_81, u_206_82, u_206_85, u_206_86, u_206_87, u_206_88, u_206_91, u_206_92, u_206_93, u_206_94, u_206_95, u_206_98, u_206_99, u_206_102, u_206_103, u_206_104, u_206_107, u_206_108, u_206_109, u_206_112, u_206_113, u_206_114, u_206_115, u_206_118, u_206_119, u_206_122, u_206_125, u_206_126, u_206_127, u_206_128, u_206_129, u_206_132, u_206_133, u_206_134, u_206_137, u_206_138, gI0, gIs, gR0, gRs, gF0, gFs, st0, st_i, st_r, st_f, st_n, st_s, true_and, and_true, ↓ifLeT, ↓ifLeF, ↓ifLtT, ↓ifLtF, ↓ifEqT, ↓ifEqF, if_tt, if_ff, if_pos, if_neg, nLe, nLt, nEq, nInT, nCl, pk_mul, nI_add, Nat.reduceAdd, s_cat_nil, s_cat_i, s_cat_r, s_cat_f, s_cat_l, tl_s, tl_n, cat_i, cat_r, cat_f, nb0, nb1, nbI, if_bI, if_bIr, Nat.zero_le, Nat.reduceLeDiff, M_ob, M_s0, M_g0, M_g1, M_g2, M_g3, M_g4, M_g5, M_g6, M_g7, M_g8, M_g9, M_g10, M_g11, M_g12, M_g13, M_g14, M_g15, M_g16, M_g17, M_g18, M_g19, M_g20, M_g21, M_g22, M_g23, M_g24, M_g25, M_g26, M_g27, M_g28, M_g29, M_g30, M_g31, M_g32, M_g33, M_g34, M_g35, M_g36, M_g37, M_g38, M_g39, M_g40, M_g41, kI_xI, kI_xB, kI_xA, kI_xV, kB_xI, kB_xB, kB_xA, kB_xV, kA_xI, kA_xB, kA_xA, kA_xV, kV_xI, kV_xB, kV_xA, kV_xV, Nat.reduceEqDiff, reduceIte, e1, in6, h2, Option.isSome, iBt, iBf, nI10]
        exact K _ (RM_0 hm) k1
      | some k =>
        simp only [h2] at K
        obtain ⟨j1, rfl⟩ := ix_some (by omega) h1
        obtain ⟨k1, rfl⟩ := ix_some (by omega) h2
        have i4 : vp_in (nI j) 4 := (nIn (by omega)).mpr (by omega)
        have hr0 : RR (kA (xI m 0 (nI 0)) 320) n := hr
        obtain ⟨a0, a1, a2, a3, -⟩ := hr0.2.2.1 j j1
        have e8 : kA (xI m 0 (nI 0)) 319 j = nI (nA n 8 j) := hg.2.2.2 j j1
        have gw := (hok.1.2.1.1 j j1).2.2.2
        have e2 := fun Q => r_next (d := d) (h := h) (Q := Q) rb320 hok.1 hr0 j1
        have e3 := fun Q => r_sway (d := d + 1) (h := h) (Q := Q) rb320 hok.1 hr0 j1
        have e4 := ten_v gw
        have K := K _ (RM_0 hm) k0
        match k, k1 with
        | 0, _ | 1, _ | 2, _ | 3, _ | 4, _ =>
          simp (maxSteps := 2000000) (disch := omega) only [u_206_0, u_206_1, u_206_2, u_206_3, u_206_6, u_206_9, u_206_10, u_206_11, u_206_12, u_206_15, u_206_18, u_206_21, u_206_22, u_206_25, u_206_26, u_206_29, u_206_30, u_206_33, u_206_34, u_206_37, u_206_38, u_206_39, u_206_40, u_206_76, u_206_77, u_206_80, u_206_81, u_206_82, u_206_85, u_206_86, u_206_87, u_206_88, u_206_91, u_206_92, u_206_93, u_206_94, u_206_95, u_206_98, u_206_99, u_206_102, u_206_103, u_206_104, u_206_107, u_206_108, u_206_109, u_206_112, u_206_113, u_206_114, u_206_115, u_206_118, u_206_119, u_206_122, u_206_125, u_206_126, u_206_127, u_206_128, u_206_129, u_206_132, u_206_133, u_206_134, u_206_137, u_206_138, gI0, gIs, gR0, gRs, gF0, gFs, st0, st_i, st_r, st_f, st_n, st_s, true_and, and_true, ↓ifLeT, ↓ifLeF, ↓ifLtT, ↓ifLtF, ↓ifEqT, ↓ifEqF, if_tt, if_ff, if_pos, if_neg, nLe, nLt, nEq, nInT, nCl, pk_mul, nI_add, Nat.reduceAdd, s_cat_nil, s_cat_i, s_cat_r, s_cat_f, s_cat_l, tl_s, tl_n, cat_i, cat_r, cat_f, nb0, nb1, nbI, if_bI, if_bIr, Nat.zero_le, Nat.reduceLeDiff, M_ob, M_s0, M_g0, M_g1, M_g2, M_g3, M_g4, M_g5, M_g6, M_g7, M_g8, M_g9, M_g10, M_g11, M_g12, M_g13, M_g14, M_g15, M_g16, M_g17, M_g18, M_g19, M_g20, M_g21, M_g22, M_g23, M_g24, M_g25, M_g26, M_g27, M_g28, M_g29, M_g30, M_g31, M_g32, M_g33, M_g34, M_g35, M_g36, M_g37, M_g38, M_g39, M_g40, M_g41, kI_xI, e1, in6, h2, Option.isSome, iBt, iBf, nI10, swt_c, swt_n, m_cAt, M_r rb320, M_a319, i4, a0, a1, a2, a3, e8, e2, e3, e4, reduceIte]
          exact K
        | 5, _ =>
          simp (maxSteps := 2000000) (disch := omega) only [u_206_0, u_206_1, u_206_2, u_206_3, u_206_6, u_206_9, u_206_10, u_206_11, u_206_12, u_206_15, u_206_18, u_206_21, u_206_22, u_206_25, u_206_26, u_206_29, u_206_30, u_206_33, u_206_34, u_206_37, u_206_38, u_206_39, u_206_40, u_206_76, u_206_77, u_206_80, u_206_81, u_206_82, u_206_85, u_206_86, u_206_87, u_206_88, u_206_91, u_206_92, u_206_93, u_206_94, u_206_95, u_206_98, u_206_99, u_206_102, u_206_103, u_206_104, u_206_107, u_206_108, u_206_109, u_206_112, u_206_113, u_206_114, u_206_115, u_206_118, u_206_119, u_206_122, u_206_125, u_206_126, u_206_127, u_206_128, u_206_129, u_206_132, u_206_133, u_206_134, u_206_137, u_206_138, gI0, gIs, gR0, gRs, gF0, gFs, st0, st_i, st_r, st_f, st_n, st_s, true_and, and_true, ↓ifLeT, ↓ifLeF, ↓ifLtT, ↓ifLtF, ↓ifEqT, ↓ifEqF, if_tt, if_ff, if_pos, if_neg, nLe, nLt, nEq, nInT, nCl, pk_mul, nI_add, Nat.reduceAdd, s_cat_nil, s_cat_i, s_cat_r, s_cat_f, s_cat_l, tl_s, tl_n, cat_i, cat_r, cat_f, nb0, nb1, nbI, if_bI, if_bIr, Nat.zero_le, Nat.reduceLeDiff, M_ob, M_s0, M_g0, M_g1, M_g2, M_g3, M_g4, M_g5, M_g6, M_g7, M_g8, M_g9, M_g10, M_g11, M_g12, M_g13, M_g14, M_g15, M_g16, M_g17, M_g18, M_g19, M_g20, M_g21, M_g22, M_g23, M_g24, M_g25, M_g26, M_g27, M_g28, M_g29, M_g30, M_g31, M_g32, M_g33, M_g34, M_g35, M_g36, M_g37, M_g38, M_g39, M_g40, M_g41, kI_xI, e1, in6, h2, Option.isSome, iBt, iBf, nI10, swt_c, swt_n, m_cAt, M_r rb320, a2, reduceIte]
          have K : Q (some (.int (nW n j).toInt32)) _ := K
          rw [toI_n] at K
          exact K
end MA
