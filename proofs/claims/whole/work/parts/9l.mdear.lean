/-! the reference's dearest */ -/
def valD (p : Nat) : Nat := if p = 301 then 1000000 else p
def dC (st : Option (Nat × Nat)) : Int32 := match st with
  | none => -1
  | some (b, _) => nI b
def dV (st : Option (Nat × Nat)) : Int32 := match st with
  | none => -1
  | some (_, p) => nI (valD p)
theorem dC0 : dC none = -1 := rfl
theorem dV0 : dV none = -1 := rfl
theorem dCs {b p : Nat} : dC (some (b, p)) = nI b := rfl
theorem dVs {b p : Nat} : dV (some (b, p)) = nI (valD p) := rfl
theorem dS_0 {n : tN} {i : Nat} (hk : nK n i = false) : dearS n i none = some (i, (lackN n i).getD 301) := if_neg (by rw [hk]; exact Bool.false_ne_true)
theorem dS_1 {n : tN} {i b p : Nat} (hk : nK n i = false) : dearS n i (some (b, p)) = if p < (lackN n i).getD 301 then some (i, (lackN n i).getD 301) else some (b, p) := if_neg (by rw [hk]; exact Bool.false_ne_true)
theorem m1_ltn {F : Nat} (hF : F < 2 ^ 31) : (-1 : Int32) < nI F := by
  rw [Int32.lt_iff_toInt_lt, nI_toInt hF, show (-1 : Int32).toInt = -1 by decide]
  omega
section MDR
variable {b d : Nat} {m : tM} {h : sH} {x y w c : Int32} {Q : sQ} {n : tN} {z : tQ}
theorem dear_loop {k : Nat} (hq : zQ z = some n) : ∀ q i m st, i + q = nF n 2 → RM m z → (∀ b p, st = some (b, p) → p ≤ 301 ∧ b < 4) → (∀ m' r, RM m' z → (∀ b p, r = some (b, p) → p ≤ 301 ∧ b < 4) → r = iter (dearS n) i q st → WP (d + 26) 251 102 [.ref 317, .int (nI k), .int (dC r), .int (dV r), .int (nI (nF n 2))] [] (pM m' h) (0, 0) Q) → WP (d + 26) 251 43 [.ref 317, .int (nI k), .int (dC st), .int (dV st), .int (nI i)] [] (pM m h) (0, 0) Q := by
  intro q
  induction q with
  | zero =>
    intro i m st hi hm hst K
    obtain ⟨hg, hr, hok⟩ := RM_q hm hq
    have h4 := hok.1.1.1
    have g10 := hg.2.2.1
    have e : i = nF n 2 := by omega
    subst e
    rw [u_251_43]
    simp (disch := omega) only [u_251_0, u_251_1, u_251_2, u_251_5, u_251_6, u_251_9, u_251_12, u_251_13, u_251_14, u_251_15, u_251_16, u_251_19, u_251_22, u_251_25, u_251_26, u_251_27, u_251_30, u_251_33, u_251_35, u_251_36, u_251_37, u_251_38, u_251_39, u_251_40, u_251_41, u_251_45, u_251_46, u_251_49, u_251_52, u_251_53, u_251_56, u_251_58, u_251_59, u_251_62, u_251_63, u_251_66, u_251_67, u_251_69, u_251_72, u_251_73, u_251_76, u_251_77, u_251_80, u_251_82, u_251_85, u_251_86, u_251_87, u_251_88, u_251_89, u_251_92, u_251_95, u_251_96, u_251_99, u_251_103, u_251_104, u_251_107, u_251_108, u_251_111, u_251_112, u_251_115, u_251_116, u_251_119, gI0, gIs, gR0, gRs, gF0, gFs, st0, st_i, st_r, st_f, st_n, st_s, true_and, and_true, ↓ifLeT, ↓ifLeF, ↓ifLtT, ↓ifLtF, ↓ifEqT, ↓ifEqF, if_tt, if_ff, if_pos, if_neg, nLe, nLt, nEq, nInT, nCl, pk_mul, nI_add, Nat.reduceAdd, s_cat_nil, s_cat_i, s_cat_r, s_cat_f, s_cat_l, tl_s, tl_n, cat_i, cat_r, cat_f, nb0, nb1, nbI, if_bI, if_bIr, Nat.zero_le, Nat.reduceLeDiff, M_g0, M_g1, M_g2, M_g3, M_g4, M_g5, M_g6, M_g7, M_g8, M_g9, M_g10, M_g11, M_g12, M_g13, M_g14, M_g15, M_g16, M_g17, M_g18, M_g19, M_g20, M_g21, M_g22, M_g23, M_g24, M_g25, M_g26, M_g27, M_g28, M_g29, M_g30, M_g31, M_g32, M_g33, M_g34, M_g35, M_g36, M_g37, M_g38, M_g39, M_g40, M_g41, g10]
    exact K m st hm hst rfl
  | succ q ih =>
    intro i m st hi hm hst K
    obtain ⟨hg, hr, hok⟩ := RM_q hm hq
    have h4 := hok.1.1.1
    have g10 := hg.2.2.1
    have bk : kA m 320 (2 + 12 * i + 1) = iB (nK n i) := (hr.2.2.1 i (by omega)).2.1
    rw [u_251_43]
    cases hk : nK n i with
    | true =>
      have es : dearS n i st = st := if_pos hk
      rw [hk] at bk
      simp (disch := omega) only [u_251_0, u_251_1, u_251_2, u_251_5, u_251_6, u_251_9, u_251_12, u_251_13, u_251_14, u_251_15, u_251_16, u_251_19, u_251_22, u_251_25, u_251_26, u_251_27, u_251_30, u_251_33, u_251_35, u_251_36, u_251_37, u_251_38, u_251_39, u_251_40, u_251_41, u_251_45, u_251_46, u_251_49, u_251_52, u_251_53, u_251_56, u_251_58, u_251_59, u_251_62, u_251_63, u_251_66, u_251_67, u_251_69, u_251_72, u_251_73, u_251_76, u_251_77, u_251_80, u_251_82, u_251_85, u_251_86, u_251_87, u_251_88, u_251_89, u_251_92, u_251_95, u_251_96, u_251_99, u_251_103, u_251_104, u_251_107, u_251_108, u_251_111, u_251_112, u_251_115, u_251_116, u_251_119, gI0, gIs, gR0, gRs, gF0, gFs, st0, st_i, st_r, st_f, st_n, st_s, true_and, and_true, ↓ifLeT, ↓ifLeF, ↓ifLtT, ↓ifLtF, ↓ifEqT, ↓ifEqF, if_tt, if_ff, if_pos, if_neg, nLe, nLt, nEq, nInT, nCl, pk_mul, nI_add, Nat.reduceAdd, s_cat_nil, s_cat_i, s_cat_r, s_cat_f, s_cat_l, tl_s, tl_n, cat_i, cat_r, cat_f, nb0, nb1, nbI, if_bI, if_bIr, Nat.zero_le, Nat.reduceLeDiff, M_g0, M_g1, M_g2, M_g3, M_g4, M_g5, M_g6, M_g7, M_g8, M_g9, M_g10, M_g11, M_g12, M_g13, M_g14, M_g15, M_g16, M_g17, M_g18, M_g19, M_g20, M_g21, M_g22, M_g23, M_g24, M_g25, M_g26, M_g27, M_g28, M_g29, M_g30, M_g31, M_g32, M_g33, M_g34, M_g35, M_g36, M_g37, M_g38, M_g39, M_g40, M_g41, g10, m_cAt, M_r rb320, bk, iBt, nI10, reduceIte]
      refine ih (i + 1) m st (by omega) hm hst fun m' r h1 h2 h3 => K m' r h1 h2 ?_
      rw [iter, es]
      exact h3
    | false =>
      rw [hk] at bk
      simp (disch := omega) only [u_251_0, u_251_1, u_251_2, u_251_5, u_251_6, u_251_9, u_251_12, u_251_13, u_251_14, u_251_15, u_251_16, u_251_19, u_251_22, u_251_25, u_251_26, u_251_27, u_251_30, u_251_33, u_251_35, u_251_36, u_251_37, u_251_38, u_251_39, u_251_40, u_251_41, u_251_45, u_251_46, u_251_49, u_251_52, u_251_53, u_251_56, u_251_58, u_251_59, u_251_62, u_251_63, u_251_66, u_251_67, u_251_69, u_251_72, u_251_73, u_251_76, u_251_77, u_251_80, u_251_82, u_251_85, u_251_86, u_251_87, u_251_88, u_251_89, u_251_92, u_251_95, u_251_96, u_251_99, u_251_103, u_251_104, u_251_107, u_251_108, u_251_111, u_251_112, u_251_115, u_251_116, u_251_119, gI0, gIs, gR0, gRs, gF0, gFs, st0, st_i, st_r, st_f, st_n, st_s, true_and, and_true, ↓ifLeT, ↓ifLeF, ↓ifLtT, ↓ifLtF, ↓ifEqT, ↓ifEqF, if_tt, if_ff, if_pos, if_neg, nLe, nLt, nEq, nInT, nCl, pk_mul, nI_add, Nat.reduceAdd, s_cat_nil, s_cat_i, s_cat_r, s_cat_f, s_cat_l, tl_s, tl_n, cat_i, cat_r, cat_f, nb0, nb1, nbI, if_bI, if_bIr, Nat.zero_le, Nat.reduceLeDiff, M_ob, M_g0, M_g1, M_g2, M_g3, M_g4, M_g5, M_g6, M_g7, M_g8, M_g9, M_g10, M_g11, M_g12, M_g13, M_g14, M_g15, M_g16, M_g17, M_g18, M_g19, M_g20, M_g21, M_g22, M_g23, M_g24, M_g25, M_g26, M_g27, M_g28, M_g29, M_g30, M_g31, M_g32, M_g33, M_g34, M_g35, M_g36, M_g37, M_g38, M_g39, M_g40, M_g41, g10, m_cAt, M_r rb320, bk, iBf]
      refine r_seeksB (d := d) (o := some i) (lo := 2 ^ i) hm hq (Or.inr ⟨i, by omega, rfl, rfl⟩) fun m1 f1 mf => ?_
      obtain ⟨m30, mle⟩ := MF_30 mf
      have hm1 : RM m1 z := RM_fr (frT_Z f1) hm
      have hv : (lackN n i).getD 301 ≤ 301 ∧ ((lackN n i).getD 1000000 = valD ((lackN n i).getD 301)) := by
        cases hl : lackN n i with
        | none => exact ⟨Nat.le_refl _, rfl⟩
        | some v =>
          have := mle v hl
          refine ⟨by show v ≤ 301; omega, ?_⟩
          show v = if v = 301 then 1000000 else v
          rw [if_neg (by omega)]
      obtain ⟨hv1, hv2⟩ := hv
      have m30 : kI m1 30 = nI (valD ((lackN n i).getD 301)) := by rw [← hv2]; exact m30
      have vb : ∀ p, p ≤ 301 → valD p ≤ 1000000 := fun p hp => by unfold valD; split <;> omega
      have b1 := vb _ hv1
      have nxt : ∀ r, r = dearS n i st → (∀ b p, r = some (b, p) → p ≤ 301 ∧ b < 4) → WP (d + 26) 251 43 [.ref 317, .int (nI k), .int (dC r), .int (dV r), .int (nI (i + 1))] [] (pM m1 h) (0, 0) Q := fun r e hr => by
        refine ih (i + 1) m1 r (by omega) hm1 hr fun m' r' h1 h2 h3 => K m' r' h1 h2 ?_
        rw [iter, ← e]
        exact h3
      cases st with
      | none =>
        have l1 : ¬ nI (valD ((lackN n i).getD 301)) ≤ -1 := Int32.not_le.mpr (m1_ltn (by omega))
        have l2 : (-1 : Int32) < nI (valD ((lackN n i).getD 301)) := m1_ltn (by omega)
        simp (disch := omega) only [u_251_0, u_251_1, u_251_2, u_251_5, u_251_6, u_251_9, u_251_12, u_251_13, u_251_14, u_251_15, u_251_16, u_251_19, u_251_22, u_251_25, u_251_26, u_251_27, u_251_30, u_251_33, u_251_35, u_251_36, u_251_37, u_251_38, u_251_39, u_251_40, u_251_41, u_251_45, u_251_46, u_251_49, u_251_52, u_251_53, u_251_56, u_251_58, u_251_59, u_251_62, u_251_63, u_251_66, u_251_67, u_251_69, u_251_72, u_251_73, u_251_76, u_251_77, u_251_80, u_251_82, u_251_85, u_251_86, u_251_87, u_251_88, u_251_89, u_251_92, u_251_95, u_251_96, u_251_99, u_251_103, u_251_104, u_251_107, u_251_108, u_251_111, u_251_112, u_251_115, u_251_116, u_251_119, gI0, gIs, gR0, gRs, gF0, gFs, st0, st_i, st_r, st_f, st_n, st_s, true_and, and_true, ↓ifLeT, ↓ifLeF, ↓ifLtT, ↓ifLtF, ↓ifEqT, ↓ifEqF, if_tt, if_ff, if_pos, if_neg, nLe, nLt, nEq, nInT, nCl, pk_mul, nI_add, Nat.reduceAdd, s_cat_nil, s_cat_i, s_cat_r, s_cat_f, s_cat_l, tl_s, tl_n, cat_i, cat_r, cat_f, nb0, nb1, nbI, if_bI, if_bIr, Nat.zero_le, Nat.reduceLeDiff, M_g0, M_g1, M_g2, M_g3, M_g4, M_g5, M_g6, M_g7, M_g8, M_g9, M_g10, M_g11, M_g12, M_g13, M_g14, M_g15, M_g16, M_g17, M_g18, M_g19, M_g20, M_g21, M_g22, M_g23, M_g24, M_g25, M_g26, M_g27, M_g28, M_g29, M_g30, M_g31, M_g32, M_g33, M_g34, M_g35, M_g36, M_g37, M_g38, M_g39, M_g40, M_g41, dC0, dV0, m30, l1, l2]
        exact nxt (some (i, (lackN n i).getD 301)) (dS_0 hk).symm fun b p e => by cases e; exact ⟨hv1, by omega⟩
      | some bp =>
        obtain ⟨b, p⟩ := bp
        obtain ⟨hp, hb⟩ := hst b p rfl
        have b2 := vb p hp
        by_cases g : p < (lackN n i).getD 301
        · have eS : dearS n i (some (b, p)) = some (i, (lackN n i).getD 301) := (dS_1 hk).trans (if_pos g)
          have gl : valD p < valD ((lackN n i).getD 301) := by unfold valD; split <;> split <;> omega
          simp (disch := omega) only [u_251_0, u_251_1, u_251_2, u_251_5, u_251_6, u_251_9, u_251_12, u_251_13, u_251_14, u_251_15, u_251_16, u_251_19, u_251_22, u_251_25, u_251_26, u_251_27, u_251_30, u_251_33, u_251_35, u_251_36, u_251_37, u_251_38, u_251_39, u_251_40, u_251_41, u_251_45, u_251_46, u_251_49, u_251_52, u_251_53, u_251_56, u_251_58, u_251_59, u_251_62, u_251_63, u_251_66, u_251_67, u_251_69, u_251_72, u_251_73, u_251_76, u_251_77, u_251_80, u_251_82, u_251_85, u_251_86, u_251_87, u_251_88, u_251_89, u_251_92, u_251_95, u_251_96, u_251_99, u_251_103, u_251_104, u_251_107, u_251_108, u_251_111, u_251_112, u_251_115, u_251_116, u_251_119, gI0, gIs, gR0, gRs, gF0, gFs, st0, st_i, st_r, st_f, st_n, st_s, true_and, and_true, ↓ifLeT, ↓ifLeF, ↓ifLtT, ↓ifLtF, ↓ifEqT, ↓ifEqF, if_tt, if_ff, if_pos, if_neg, nLe, nLt, nEq, nInT, nCl, pk_mul, nI_add, Nat.reduceAdd, s_cat_nil, s_cat_i, s_cat_r, s_cat_f, s_cat_l, tl_s, tl_n, cat_i, cat_r, cat_f, nb0, nb1, nbI, if_bI, if_bIr, Nat.zero_le, Nat.reduceLeDiff, M_g0, M_g1, M_g2, M_g3, M_g4, M_g5, M_g6, M_g7, M_g8, M_g9, M_g10, M_g11, M_g12, M_g13, M_g14, M_g15, M_g16, M_g17, M_g18, M_g19, M_g20, M_g21, M_g22, M_g23, M_g24, M_g25, M_g26, M_g27, M_g28, M_g29, M_g30, M_g31, M_g32, M_g33, M_g34, M_g35, M_g36, M_g37, M_g38, M_g39, M_g40, M_g41, dCs, dVs, m30]
          exact nxt (some (i, (lackN n i).getD 301)) eS.symm fun b p e => by cases e; exact ⟨hv1, by omega⟩
        · have eS : dearS n i (some (b, p)) = some (b, p) := (dS_1 hk).trans (if_neg g)
          have gl : ¬ valD p < valD ((lackN n i).getD 301) := by unfold valD; split <;> split <;> omega
          simp (disch := omega) only [u_251_0, u_251_1, u_251_2, u_251_5, u_251_6, u_251_9, u_251_12, u_251_13, u_251_14, u_251_15, u_251_16, u_251_19, u_251_22, u_251_25, u_251_26, u_251_27, u_251_30, u_251_33, u_251_35, u_251_36, u_251_37, u_251_38, u_251_39, u_251_40, u_251_41, u_251_45, u_251_46, u_251_49, u_251_52, u_251_53, u_251_56, u_251_58, u_251_59, u_251_62, u_251_63, u_251_66, u_251_67, u_251_69, u_251_72, u_251_73, u_251_76, u_251_77, u_251_80, u_251_82, u_251_85, u_251_86, u_251_87, u_251_88, u_251_89, u_251_92, u_251_95, u_251_96, u_251_99, u_251_103, u_251_104, u_251_107, u_251_108, u_251_111, u_251_112, u_251_115, u_251_116, u_251_119, gI0, gIs, gR0, gRs, gF0, gFs, st0, st_i, st_r, st_f, st_n, st_s, true_and, and_true, ↓ifLeT, ↓ifLeF, ↓ifLtT, ↓ifLtF, ↓ifEqT, ↓ifEqF, if_tt, if_ff, if_pos, if_neg, nLe, nLt, nEq, nInT, nCl, pk_mul, nI_add, Nat.reduceAdd, s_cat_nil, s_cat_i, s_cat_r, s_cat_f, s_cat_l, tl_s, tl_n, cat_i, cat_r, cat_f, nb0, nb1, nbI, if_bI, if_bIr, Nat.zero_le, Nat.reduceLeDiff, M_g0, M_g1, M_g2, M_g3, M_g4, M_g5, M_g6, M_g7, M_g8, M_g9, M_g10, M_g11, M_g12, M_g13, M_g14, M_g15, M_g16, M_g17, M_g18, M_g19, M_g20, M_g21, M_g22, M_g23, M_g24, M_g25, M_g26, M_g27, M_g28, M_g29, M_g30, M_g31, M_g32, M_g33, M_g34, M_g35, M_g36, M_g37, M_g38, M_g39, M_g40, M_g41, dCs, dVs, m30]
          exact nxt (some (b, p)) eS.symm fun b p e => by cases e; exact ⟨hp, hb⟩
theorem z_dearest (hm : RM m z) (K : ∀ m', RM m' z → Q (some (.int (zdearest z w))) (pM m' h)) : MT (d + 27) 251 [.ref 317, .int w] (pM m h) Q := by
  rw [MT_go (by decide) _ _ _ (Nat.le_of_ble_eq_true rfl), show s_entry 251 [.ref 317, .int w] = [.ref 317, .int w, s_no, s_no, s_no] from rfl]
  have hm0 := RM_0 (x := nI 0) hm
  have q1 := hm.2.1.1
  unfold zdearest at K
  cases hq : zQ z with
  | none =>
    simp only [hq] at K
    rw [hq] at q1
    simp (disch := omega) only [u_251_0, u_251_1, u_251_2, u_251_5, u_251_6, u_251_9, u_251_12, u_251_13, u_251_14, u_251_15, u_251_16, u_251_19, u_251_22, u_251_25, u_251_26, u_251_27, u_251_30, u_251_33, u_251_35, u_251_36, u_251_37, u_251_38, u_251_39, u_251_40, u_251_41, u_251_45, u_251_46, u_251_49, u_251_52, u_251_53, u_251_56, u_251_58, u_251_59, u_251_62, u_251_63, u_251_66, u_251_67, u_251_69, u_251_72, u_251_73, u_251_76, u_251_77, u_251_80, u_251_82, u_251_85, u_251_86, u_251_87, u_251_88, u_251_89, u_251_92, u_251_95, u_251_96, u_251_99, u_251_102, u_251_103, u_251_104, u_251_107, u_251_108, u_251_111, u_251_112, u_251_115, u_251_116, u_251_119, gI0, gIs, gR0, gRs, gF0, gFs, st0, st_i, st_r, st_f, st_n, st_s, true_and, and_true, ↓ifLeT, ↓ifLeF, ↓ifLtT, ↓ifLtF, ↓ifEqT, ↓ifEqF, if_tt, if_ff, if_pos, if_neg, nLe, nLt, nEq, nInT, nCl, pk_mul, nI_add, Nat.reduceAdd, s_cat_nil, s_cat_i, s_cat_r, s_cat_f, s_cat_l, tl_s, tl_n, cat_i, cat_r, cat_f, nb0, nb1, nbI, if_bI, if_bIr, Nat.zero_le, Nat.reduceLeDiff, M_ob, M_g0, M_g1, M_g2, M_g3, M_g4, M_g5, M_g6, M_g7, M_g8, M_g9, M_g10, M_g11, M_g12, M_g13, M_g14, M_g15, M_g16, M_g17, M_g18, M_g19, M_g20, M_g21, M_g22, M_g23, M_g24, M_g25, M_g26, M_g27, M_g28, M_g29, M_g30, M_g31, M_g32, M_g33, M_g34, M_g35, M_g36, M_g37, M_g38, M_g39, M_g40, M_g41, M_s0, kI_xI, kI_xB, kI_xA, kI_xV, kB_xI, kB_xB, kB_xA, kB_xV, kA_xI, kA_xB, kA_xA, kA_xV, kV_xI, kV_xB, kV_xA, kV_xV, Nat.reduceEqDiff, reduceIte, q1, Option.isSome, iBf]
    exact K _ hm0
  | some n =>
    simp only [hq] at K
    rw [hq] at q1
    obtain ⟨hg, hr, hok⟩ := RM_q hm0 hq
    cases h1 : ixN w 2 with
    | none =>
      simp only [h1] at K
      simp (disch := omega) only [u_251_0, u_251_1, u_251_2, u_251_5, u_251_6, u_251_9, u_251_12, u_251_13, u_251_14, u_251_15, u_251_16, u_251_19, u_251_22, u_251_25, u_251_26, u_251_27, u_251_30, u_251_33, u_251_35, u_251_36, u_251_37, u_251_38, u_251_39, u_251_40, u_251_41, u_251_45, u_251_46, u_251_49, u_251_52, u_251_53, u_251_56, u_251_58, u_251_59, u_251_62, u_251_63, u_251_66, u_251_67, u_251_69, u_251_72, u_251_73, u_251_76, u_251_77, u_251_80, u_251_82, u_251_85, u_251_86, u_251_87, u_251_88, u_251_89, u_251_92, u_251_95, u_251_96, u_251_99, u_251_102, u_251_103, u_251_104, u_251_107, u_251_108, u_251_111, u_251_112, u_251_115, u_251_116, u_251_119, gI0, gIs, gR0, gRs, gF0, gFs, st0, st_i, st_r, st_f, st_n, st_s, true_and, and_true, ↓ifLeT, ↓ifLeF, ↓ifLtT, ↓ifLtF, ↓ifEqT, ↓ifEqF, if_tt, if_ff, if_pos, if_neg, nLe, nLt, nEq, nInT, nCl, pk_mul, nI_add, Nat.reduceAdd, s_cat_nil, s_cat_i, s_cat_r, s_cat_f, s_cat_l, tl_s, tl_n, cat_i, cat_r, cat_f, nb0, nb1, nbI, if_bI, if_bIr, Nat.zero_le, Nat.reduceLeDiff, M_ob, M_g0, M_g1, M_g2, M_g3, M_g4, M_g5, M_g6, M_g7, M_g8, M_g9, M_g10, M_g11, M_g12, M_g13, M_g14, M_g15, M_g16, M_g17, M_g18, M_g19, M_g20, M_g21, M_g22, M_g23, M_g24, M_g25, M_g26, M_g27, M_g28, M_g29, M_g30, M_g31, M_g32, M_g33, M_g34, M_g35, M_g36, M_g37, M_g38, M_g39, M_g40, M_g41, M_s0, kI_xI, kI_xB, kI_xA, kI_xV, kB_xI, kB_xB, kB_xA, kB_xV, kA_xI, kA_xB, kA_xA, kA_xV, kV_xI, kV_xB, kV_xA, kV_xV, Nat.reduceEqDiff, reduceIte, q1, in2, h1, Option.isSome, iBt, iBf, nI10]
      exact K _ hm0
    | some k =>
      simp only [h1] at K
      obtain ⟨k1, rfl⟩ := ix_some (by omega) h1
      have e2 := fun Q => r_few (d := d + 22) (h := h) (Q := Q) hok.1 hr
      cases hf : fewN n with
      | false =>
        rw [hf] at e2
        simp only [hf, Bool.false_eq_true, if_false] at K
        simp (disch := omega) only [u_251_0, u_251_1, u_251_2, u_251_5, u_251_6, u_251_9, u_251_12, u_251_13, u_251_14, u_251_15, u_251_16, u_251_19, u_251_22, u_251_25, u_251_26, u_251_27, u_251_30, u_251_33, u_251_35, u_251_36, u_251_37, u_251_38, u_251_39, u_251_40, u_251_41, u_251_45, u_251_46, u_251_49, u_251_52, u_251_53, u_251_56, u_251_58, u_251_59, u_251_62, u_251_63, u_251_66, u_251_67, u_251_69, u_251_72, u_251_73, u_251_76, u_251_77, u_251_80, u_251_82, u_251_85, u_251_86, u_251_87, u_251_88, u_251_89, u_251_92, u_251_95, u_251_96, u_251_99, u_251_102, u_251_103, u_251_104, u_251_107, u_251_108, u_251_111, u_251_112, u_251_115, u_251_116, u_251_119, gI0, gIs, gR0, gRs, gF0, gFs, st0, st_i, st_r, st_f, st_n, st_s, true_and, and_true, ↓ifLeT, ↓ifLeF, ↓ifLtT, ↓ifLtF, ↓ifEqT, ↓ifEqF, if_tt, if_ff, if_pos, if_neg, nLe, nLt, nEq, nInT, nCl, pk_mul, nI_add, Nat.reduceAdd, s_cat_nil, s_cat_i, s_cat_r, s_cat_f, s_cat_l, tl_s, tl_n, cat_i, cat_r, cat_f, nb0, nb1, nbI, if_bI, if_bIr, Nat.zero_le, Nat.reduceLeDiff, M_ob, M_g0, M_g1, M_g2, M_g3, M_g4, M_g5, M_g6, M_g7, M_g8, M_g9, M_g10, M_g11, M_g12, M_g13, M_g14, M_g15, M_g16, M_g17, M_g18, M_g19, M_g20, M_g21, M_g22, M_g23, M_g24, M_g25, M_g26, M_g27, M_g28, M_g29, M_g30, M_g31, M_g32, M_g33, M_g34, M_g35, M_g36, M_g37, M_g38, M_g39, M_g40, M_g41, M_s0, kI_xI, kI_xB, kI_xA, kI_xV, kB_xI, kB_xB, kB_xA, kB_xV, kA_xI, kA_xB, kA_xA, kA_xV, kV_xI, kV_xB, kV_xA, kV_xV, Nat.reduceEqDiff, reduceIte, q1, in2, h1, e2, Option.isSome, iBt, iBf, nI10]
        exact K _ hm0
      | true =>
        rw [hf] at e2
        simp only [hf, if_true] at K
        simp (disch := omega) only [u_251_0, u_251_1, u_251_2, u_251_5, u_251_6, u_251_9, u_251_12, u_251_13, u_251_14, u_251_15, u_251_16, u_251_19, u_251_22, u_251_25, u_251_26, u_251_27, u_251_30, u_251_33, u_251_35, u_251_36, u_251_37, u_251_38, u_251_39, u_251_40, u_251_41, u_251_45, u_251_46, u_251_49, u_251_52, u_251_53, u_251_56, u_251_58, u_251_59, u_251_62, u_251_63, u_251_66, u_251_67, u_251_69, u_251_72, u_251_73, u_251_76, u_251_77, u_251_80, u_251_82, u_251_85, u_251_86, u_251_87, u_251_88, u_251_89, u_251_92, u_251_95, u_251_96, u_251_99, u_251_102, u_251_103, u_251_104, u_251_107, u_251_108, u_251_111, u_251_112, u_251_115, u_251_116, u_251_119, gI0, gIs, gR0, gRs, gF0, gFs, st0, st_i, st_r, st_f, st_n, st_s, true_and, and_true, ↓ifLeT, ↓ifLeF, ↓ifLtT, ↓ifLtF, ↓ifEqT, ↓ifEqF, if_tt, if_ff, if_pos, if_neg, nLe, nLt, nEq, nInT, nCl, pk_mul, nI_add, Nat.reduceAdd, s_cat_nil, s_cat_i, s_cat_r, s_cat_f, s_cat_l, tl_s, tl_n, cat_i, cat_r, cat_f, nb0, nb1, nbI, if_bI, if_bIr, Nat.zero_le, Nat.reduceLeDiff, M_ob, M_g0, M_g1, M_g2, M_g3, M_g4, M_g5, M_g6, M_g7, M_g8, M_g9, M_g10, M_g11, M_g12, M_g13, M_g14, M_g15, M_g16, M_g17, M_g18, M_g19, M_g20, M_g21, M_g22, M_g23, M_g24, M_g25, M_g26, M_g27, M_g28, M_g29, M_g30, M_g31, M_g32, M_g33, M_g34, M_g35, M_g36, M_g37, M_g38, M_g39, M_g40, M_g41, M_s0, kI_xI, kI_xB, kI_xA, kI_xV, kB_xI, kB_xB, kB_xA, kB_xV, kA_xI, kA_xB, kA_xA, kA_xV, kV_xI, kV_xB, kV_xA, kV_xV, Nat.reduceEqDiff, reduceIte, q1, in2, h1, e2, Option.isSome, iBt, nI10]
        refine dear_loop (d := d) (k := k) hq (nF n 2) 0 _ none (Nat.zero_add _) hm0 (fun b p e => by cases e) fun m' r hm' hr' er => ?_
        have K := K m' hm'
        unfold dearN at K
        rw [← er] at K
        cases r with
        | none =>
          simp (disch := omega) only [u_251_0, u_251_1, u_251_2, u_251_5, u_251_6, u_251_9, u_251_12, u_251_13, u_251_14, u_251_15, u_251_16, u_251_19, u_251_22, u_251_25, u_251_26, u_251_27, u_251_30, u_251_33, u_251_35, u_251_36, u_251_37, u_251_38, u_251_39, u_251_40, u_251_41, u_251_45, u_251_46, u_251_49, u_251_52, u_251_53, u_251_56, u_251_58, u_251_59, u_251_62, u_251_63, u_251_66, u_251_67, u_251_69, u_251_72, u_251_73, u_251_76, u_251_77, u_251_80, u_251_82, u_251_85, u_251_86, u_251_87, u_251_88, u_251_89, u_251_92, u_251_95, u_251_96, u_251_99, u_251_102, u_251_103, u_251_104, u_251_107, u_251_108, u_251_111, u_251_112, u_251_115, u_251_116, u_251_119, gI0, gIs, gR0, gRs, gF0, gFs, st0, st_i, st_r, st_f, st_n, st_s, true_and, and_true, ↓ifLeT, ↓ifLeF, ↓ifLtT, ↓ifLtF, ↓ifEqT, ↓ifEqF, if_tt, if_ff, if_pos, if_neg, nLe, nLt, nEq, nInT, nCl, pk_mul, nI_add, Nat.reduceAdd, s_cat_nil, s_cat_i, s_cat_r, s_cat_f, s_cat_l, tl_s, tl_n, cat_i, cat_r, cat_f, nb0, nb1, nbI, if_bI, if_bIr, Nat.zero_le, Nat.reduceLeDiff, dC0, dV0, reduceIte]
          exact K
        | some bp =>
          obtain ⟨b, p⟩ := bp
          obtain ⟨hp, hb⟩ := hr' b p rfl
          have ne := m1_ne (j := b) (by omega)
          have K : Q (some (.int (if k = 0 then nI b else if p = 301 then -1 else nI p))) (pM m' h) := K
          match k, k1 with
          | 0, _ =>
            simp (disch := omega) only [u_251_0, u_251_1, u_251_2, u_251_5, u_251_6, u_251_9, u_251_12, u_251_13, u_251_14, u_251_15, u_251_16, u_251_19, u_251_22, u_251_25, u_251_26, u_251_27, u_251_30, u_251_33, u_251_35, u_251_36, u_251_37, u_251_38, u_251_39, u_251_40, u_251_41, u_251_45, u_251_46, u_251_49, u_251_52, u_251_53, u_251_56, u_251_58, u_251_59, u_251_62, u_251_63, u_251_66, u_251_67, u_251_69, u_251_72, u_251_73, u_251_76, u_251_77, u_251_80, u_251_82, u_251_85, u_251_86, u_251_87, u_251_88, u_251_89, u_251_92, u_251_95, u_251_96, u_251_99, u_251_102, u_251_103, u_251_104, u_251_107, u_251_108, u_251_111, u_251_112, u_251_115, u_251_116, u_251_119, gI0, gIs, gR0, gRs, gF0, gFs, st0, st_i, st_r, st_f, st_n, st_s, true_and, and_true, ↓ifLeT, ↓ifLeF, ↓ifLtT, ↓ifLtF, ↓ifEqT, ↓ifEqF, if_tt, if_ff, if_pos, if_neg, nLe, nLt, nEq, nInT, nCl, pk_mul, nI_add, Nat.reduceAdd, s_cat_nil, s_cat_i, s_cat_r, s_cat_f, s_cat_l, tl_s, tl_n, cat_i, cat_r, cat_f, nb0, nb1, nbI, if_bI, if_bIr, Nat.zero_le, Nat.reduceLeDiff, dCs, dVs, ne, reduceIte]
            exact K
          | 1, _ =>
            have e3 := fun Q => m_told (d := d + 25) (h := pM m' h) (Q := Q) (o := if p = 301 then none else some p) fun v hv => by
              split at hv
              · cases hv
              · cases hv; omega
            have eo : (if p = 301 then none else some p : Option Nat).getD 1000000 = valD p := by unfold valD; split <;> rfl
            rw [eo] at e3
            have eo2 : oI1 (if p = 301 then none else some p) = if p = 301 then -1 else nI p := by split <;> rfl
            rw [eo2] at e3
            simp (disch := omega) only [u_251_0, u_251_1, u_251_2, u_251_5, u_251_6, u_251_9, u_251_12, u_251_13, u_251_14, u_251_15, u_251_16, u_251_19, u_251_22, u_251_25, u_251_26, u_251_27, u_251_30, u_251_33, u_251_35, u_251_36, u_251_37, u_251_38, u_251_39, u_251_40, u_251_41, u_251_45, u_251_46, u_251_49, u_251_52, u_251_53, u_251_56, u_251_58, u_251_59, u_251_62, u_251_63, u_251_66, u_251_67, u_251_69, u_251_72, u_251_73, u_251_76, u_251_77, u_251_80, u_251_82, u_251_85, u_251_86, u_251_87, u_251_88, u_251_89, u_251_92, u_251_95, u_251_96, u_251_99, u_251_102, u_251_103, u_251_104, u_251_107, u_251_108, u_251_111, u_251_112, u_251_115, u_251_116, u_251_119, gI0, gIs, gR0, gRs, gF0, gFs, st0, st_i, st_r, st_f, st_n, st_s, true_and, and_true, ↓ifLeT, ↓ifLeF, ↓ifLtT, ↓ifLtF, ↓ifEqT, ↓ifEqF, if_tt, if_ff, if_pos, if_neg, nLe, nLt, nEq, nInT, nCl, pk_mul, nI_add, Nat.reduceAdd, s_cat_nil, s_cat_i, s_cat_r, s_cat_f, s_cat_l, tl_s, tl_n, cat_i, cat_r, cat_f, nb0, nb1, nbI, if_bI, if_bIr, Nat.zero_le, Nat.reduceLeDiff, dCs, dVs, ne, reduceIte, e3]
            exact K
end MDR
