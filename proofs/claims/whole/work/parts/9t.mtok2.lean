/-! the reference's reader: the next token -/
def frN2 (m m' : tM) : Prop := (∀ k, k ≠ 3 → k ≠ 4 → k ≠ 6 → k ≠ 7 → kI m' k = kI m k) ∧ m'.2 = m.2
theorem frN2_r {m : tM} : frN2 m m := ⟨fun _ _ _ _ _ => rfl, rfl⟩
theorem frN2_t {m m' m2 : tM} (h1 : frN2 m m') (h2 : frN2 m' m2) : frN2 m m2 := ⟨fun k a b c e => (h2.1 k a b c e).trans (h1.1 k a b c e), h2.2.trans h1.2⟩
theorem frN2_I {m : tM} {k : Nat} {x : Int32} (hk : k = 3 ∨ k = 4 ∨ k = 6 ∨ k = 7) : frN2 m (xI m k x) := ⟨fun q a b c e => if_neg (by omega), rfl⟩
def TK (m : tM) (t : tO) : Prop := kI m 4 = nI (eN t 2) ∧ kI m 3 = nI (eN t 5) ∧ ((eI t 3 = nI 0 ∧ kI m 6 = nI 0) ∨ (eI t 3 = nI 1 ∧ kI m 6 = nI 1) ∨ (eI t 3 = nI 2 ∧ kI m 6 = nI 2 ∧ ((eN t 5 - eN t 2 ≤ 2 ∧ kI m 7 = eI t 4 ∧ ∃ v, eI t 4 = nI v ∧ v < 100) ∨ (2 < eN t 5 - eN t 2 ∧ eI t 4 = -1))) ∨ (eI t 3 = nI 3 ∧ kI m 6 = nI 3 ∧ eN t 2 < eN t 1 ∧ eA t 0 (eN t 2) = nI 59) ∨ (eI t 3 = nI 4 ∧ kI m 6 = nI 3 ∧ eN t 2 < eN t 1 ∧ ¬ eA t 0 (eN t 2) = nI 59))
section MTN
variable {d : Nat} {m : tM} {t : tO} {h : sH} {x : Int32} {Q : sQ}
theorem r_next0 (hT : TT m t) (ok : okT0 t) (h3 : kI m 3 = nI (eN t 5)) (K : ∀ m', frN2 m m' → TK m' (advT t) → Q none (pM m' h)) : MT (d + 2) 151 [.ref 317] (pM m h) Q := by
  obtain ⟨s1, s2⟩ := skT_le ok
  have t2 := hT.2.1
  have hb : ∀ j, j < eN t 1 → ∃ v, eA t 0 j = nI v ∧ v < 256 := fun j hj => (hT.2.2 j hj).2
  rw [MT_go (by decide) _ _ _ (Nat.le_of_ble_eq_true rfl), show s_entry 151 [.ref 317] = [.ref 317, s_no] from rfl]
  have a := nx_a (d := d) (h := h) (Q := Q) hT (eN t 1 - eN t 5) (eN t 5) (by have := ok.2; omega)
  have e : xI m 3 (nI (eN t 5)) = m := by rw [← h3]; exact xI_eta m 3
  rw [e] at a
  refine a.mpr ?_
  have es : runF blkB (eA t 0) (eN t 1 - eN t 5) (eN t 5) = skT t := rfl
  rw [es]
  have e1 := fun Q => m_see (d := d) (h := h) (Q := Q) (TT_I (k := 4) (x := nI (skT t)) (TT_I (k := 3) (x := nI (skT t)) hT (by decide)) (by decide)) (i := skT t) (by omega)
  have fr : ∀ p, frN2 m (xI (xI (xI (xI m 3 (nI (skT t))) 4 (nI (skT t))) 6 p) 7 (nI 0)) := fun p => frN2_t (frN2_I (by decide)) (frN2_t (frN2_I (by decide)) (frN2_t (frN2_I (by decide)) (frN2_I (by decide))))
  have hTM : ∀ p, TT (xI (xI (xI (xI m 3 (nI (skT t))) 4 (nI (skT t))) 6 p) 7 (nI 0)) t := fun p => TT_I (TT_I (TT_I (TT_I hT (by decide)) (by decide)) (by decide)) (by decide)
  by_cases g : eN t 1 ≤ skT t
  · have ea : advT t = vI (adS t) 3 (nI 0) := by unfold advT; rw [if_pos g]
    rw [show seeB t (skT t) = -1 from if_neg (by omega)] at e1
    simp (disch := omega) only [u_151_1, u_151_2, u_151_5, u_151_8, u_151_10, u_151_13, u_151_14, u_151_15, u_151_18, u_151_19, u_151_20, u_151_23, u_151_26, u_151_27, u_151_28, u_151_31, u_151_34, u_151_35, u_151_36, u_151_39, u_151_42, u_151_43, u_151_44, u_151_45, u_151_46, u_151_49, u_151_50, u_151_53, u_151_54, u_151_57, u_151_60, u_151_61, u_151_64, u_151_65, u_151_68, u_151_71, u_151_72, u_151_75, u_151_76, u_151_79, u_151_80, u_151_81, u_151_84, u_151_85, u_151_88, u_151_89, u_151_92, u_151_93, u_151_94, u_151_97, u_151_98, u_151_99, u_151_103, u_151_106, u_151_107, u_151_110, u_151_111, u_151_112, u_151_115, u_151_118, u_151_121, u_151_124, u_151_125, u_151_126, u_151_129, u_151_130, u_151_131, u_151_134, u_151_138, u_151_141, u_151_142, u_151_145, u_151_146, u_151_147, u_151_150, u_151_153, u_151_156, u_151_159, u_151_160, u_151_162, u_151_164, u_151_165, u_151_168, u_151_169, u_151_170, u_151_171, u_151_174, u_151_177, u_151_178, u_151_180, u_151_181, u_151_184, u_151_187, u_151_188, u_151_189, u_151_192, u_151_193, u_151_194, u_151_197, u_151_200, u_151_102, u_151_137, gI0, gIs, gR0, gRs, gF0, gFs, st0, st_i, st_r, st_f, st_n, st_s, true_and, and_true, ↓ifLeT, ↓ifLeF, ↓ifLtT, ↓ifLtF, ↓ifEqT, ↓ifEqF, if_tt, if_ff, if_pos, if_neg, nLe, nLt, nEq, nInT, nCl, pk_mul, nI_add, Nat.reduceAdd, s_cat_nil, s_cat_i, s_cat_r, s_cat_f, s_cat_l, tl_s, tl_n, cat_i, cat_r, cat_f, nb0, nb1, nbI, if_bI, if_bIr, Nat.zero_le, Nat.reduceLeDiff, M_ob, M_g0, M_g1, M_g2, M_g3, M_g4, M_g5, M_g6, M_g7, M_g8, M_g9, M_g10, M_g11, M_g12, M_g13, M_g14, M_g15, M_g16, M_g17, M_g18, M_g19, M_g20, M_g21, M_g22, M_g23, M_g24, M_g25, M_g26, M_g27, M_g28, M_g29, M_g30, M_g31, M_g32, M_g33, M_g34, M_g35, M_g36, M_g37, M_g38, M_g39, M_g40, M_g41, M_s4, M_s6, M_s7, kI_xI, kI_xB, kI_xA, kI_xV, kB_xI, kB_xB, kB_xA, kB_xV, kA_xI, kA_xB, kA_xA, kA_xV, kV_xI, kV_xB, kV_xA, kV_xV, Nat.reduceEqDiff, reduceIte, e1]
    refine K _ (fr _) ?_
    rw [ea]
    exact ⟨rfl, rfl, Or.inl ⟨rfl, rfl⟩⟩
  · have hl : skT t < eN t 1 := by omega
    obtain ⟨v, ev, hv⟩ := hb _ hl
    have nm1 : ¬ eA t 0 (skT t) = -1 := by rw [ev]; exact m1_ne (by omega)
    rw [show seeB t (skT t) = eA t 0 (skT t) from if_pos hl] at e1
    cases gl : letB (eA t 0 (skT t)) with
    | true =>
      have ea : advT t = vN (vI (adS t) 3 (nI 1)) 5 (runF letB (eA t 0) (eN t 1 - skT t) (skT t)) := by unfold advT; rw [if_neg g, gl, if_pos rfl]
      have w := nx_w (d := d) (h := h) (Q := Q) (c := eA t 0 (skT t)) (hTM (nI 1)) rfl (eN t 1 - skT t) (skT t) (by omega)
      rw [show xI (xI (xI (xI (xI m 3 (nI (skT t))) 4 (nI (skT t))) 6 (nI 1)) 7 (nI 0)) 3 (nI (skT t)) = xI (xI (xI (xI m 3 (nI (skT t))) 4 (nI (skT t))) 6 (nI 1)) 7 (nI 0) from xI_eta _ 3] at w
      simp (disch := omega) only [u_151_26, u_151_27, u_151_28, u_151_31, u_151_34, u_151_35, u_151_36, u_151_39, u_151_42, u_151_43, u_151_44, u_151_45, u_151_46, u_151_49, u_151_50, u_151_53, u_151_54, u_151_57, u_151_60, u_151_61, u_151_64, u_151_65, u_151_68, u_151_71, u_151_72, u_151_75, u_151_76, u_151_79, u_151_80, u_151_81, u_151_84, u_151_85, u_151_88, u_151_89, u_151_92, u_151_93, u_151_94, u_151_97, u_151_98, u_151_99, gI0, gIs, gR0, gRs, gF0, gFs, st0, st_i, st_r, st_f, st_n, st_s, true_and, and_true, ↓ifLeT, ↓ifLeF, ↓ifLtT, ↓ifLtF, ↓ifEqT, ↓ifEqF, if_tt, if_ff, if_pos, if_neg, nLe, nLt, nEq, nInT, nCl, pk_mul, nI_add, Nat.reduceAdd, s_cat_nil, s_cat_i, s_cat_r, s_cat_f, s_cat_l, tl_s, tl_n, cat_i, cat_r, cat_f, nb0, nb1, nbI, if_bI, if_bIr, Nat.zero_le, Nat.reduceLeDiff, M_ob, M_g0, M_g1, M_g2, M_g3, M_g4, M_g5, M_g6, M_g7, M_g8, M_g9, M_g10, M_g11, M_g12, M_g13, M_g14, M_g15, M_g16, M_g17, M_g18, M_g19, M_g20, M_g21, M_g22, M_g23, M_g24, M_g25, M_g26, M_g27, M_g28, M_g29, M_g30, M_g31, M_g32, M_g33, M_g34, M_g35, M_g36, M_g37, M_g38, M_g39, M_g40, M_g41, M_s4, M_s6, M_s7, kI_xI, kI_xB, kI_xA, kI_xV, kB_xI, kB_xB, kB_xA, kB_xV, kA_xI, kA_xB, kA_xA, kA_xV, kV_xI, kV_xB, kV_xA, kV_xV, Nat.reduceEqDiff, reduceIte, e1, nm1, m_small, gl, iBt, nI10]
      refine w.mpr (K _ (frN2_t (fr _) (frN2_I (by decide))) ?_)
      rw [ea]
      exact ⟨rfl, rfl, Or.inr (Or.inl ⟨rfl, rfl⟩)⟩
    | false =>
      cases gd : digB (eA t 0 (skT t)) with
      | true =>
        have ea : advT t = vI (vN (vI (adS t) 3 (nI 2)) 5 (runF digB (eA t 0) (eN t 1 - skT t) (skT t))) 4 (if runF digB (eA t 0) (eN t 1 - skT t) (skT t) - skT t ≤ 2 then sumF (eA t 0) (eN t 1 - skT t) (skT t) (nI 0) else -1) := by
          unfold advT
          rw [if_neg g, gl, if_neg Bool.false_ne_true, gd, if_pos rfl]
        have w := nx_d (d := d) (h := h) (Q := Q) (c := eA t 0 (skT t)) (hTM (nI 2)) rfl (eN t 1 - skT t) (skT t) 0 (by omega) (by omega)
        rw [show xI (xI (xI (xI (xI m 3 (nI (skT t))) 4 (nI (skT t))) 6 (nI 2)) 7 (nI 0)) 7 (nI 0) = xI (xI (xI (xI m 3 (nI (skT t))) 4 (nI (skT t))) 6 (nI 2)) 7 (nI 0) from xI_eta _ 7, show xI (xI (xI (xI (xI m 3 (nI (skT t))) 4 (nI (skT t))) 6 (nI 2)) 7 (nI 0)) 3 (nI (skT t)) = xI (xI (xI (xI m 3 (nI (skT t))) 4 (nI (skT t))) 6 (nI 2)) 7 (nI 0) from xI_eta _ 3] at w
        simp (disch := omega) only [u_151_26, u_151_27, u_151_28, u_151_31, u_151_34, u_151_35, u_151_36, u_151_39, u_151_42, u_151_43, u_151_44, u_151_45, u_151_46, u_151_49, u_151_50, u_151_53, u_151_54, u_151_57, u_151_60, u_151_61, u_151_64, u_151_65, u_151_68, u_151_71, u_151_72, u_151_75, u_151_76, u_151_79, u_151_80, u_151_81, u_151_84, u_151_85, u_151_88, u_151_89, u_151_92, u_151_93, u_151_94, u_151_97, u_151_98, u_151_99, u_151_102, u_151_103, u_151_106, u_151_107, gI0, gIs, gR0, gRs, gF0, gFs, st0, st_i, st_r, st_f, st_n, st_s, true_and, and_true, ↓ifLeT, ↓ifLeF, ↓ifLtT, ↓ifLtF, ↓ifEqT, ↓ifEqF, if_tt, if_ff, if_pos, if_neg, nLe, nLt, nEq, nInT, nCl, pk_mul, nI_add, Nat.reduceAdd, s_cat_nil, s_cat_i, s_cat_r, s_cat_f, s_cat_l, tl_s, tl_n, cat_i, cat_r, cat_f, nb0, nb1, nbI, if_bI, if_bIr, Nat.zero_le, Nat.reduceLeDiff, M_ob, M_g0, M_g1, M_g2, M_g3, M_g4, M_g5, M_g6, M_g7, M_g8, M_g9, M_g10, M_g11, M_g12, M_g13, M_g14, M_g15, M_g16, M_g17, M_g18, M_g19, M_g20, M_g21, M_g22, M_g23, M_g24, M_g25, M_g26, M_g27, M_g28, M_g29, M_g30, M_g31, M_g32, M_g33, M_g34, M_g35, M_g36, M_g37, M_g38, M_g39, M_g40, M_g41, M_s4, M_s6, M_s7, kI_xI, kI_xB, kI_xA, kI_xV, kB_xI, kB_xB, kB_xA, kB_xV, kA_xI, kA_xB, kA_xA, kA_xV, kV_xI, kV_xB, kV_xA, kV_xV, Nat.reduceEqDiff, reduceIte, e1, nm1, m_small, m_digit, gl, gd, iBt, iBf, nI10]
        refine w.mpr (K _ (frN2_t (fr _) (frN2_t (frN2_I (by decide)) (frN2_I (by decide)))) ?_)
        rw [ea]
        refine ⟨rfl, rfl, Or.inr (Or.inr (Or.inl ⟨rfl, rfl, ?_⟩))⟩
        by_cases r2 : runF digB (eA t 0) (eN t 1 - skT t) (skT t) - skT t ≤ 2
        · obtain ⟨n1, n2⟩ := num_sum (g := eA t 0) (eN t 1 - skT t) (skT t) (fun j _ hj => hb j (by omega)) r2
          left
          refine ⟨r2, ?_, numF (eA t 0) (eN t 1 - skT t) (skT t) 0, ?_, n2⟩
          · show nI (numF (eA t 0) (eN t 1 - skT t) (skT t) 0) = if runF digB (eA t 0) (eN t 1 - skT t) (skT t) - skT t ≤ 2 then _ else _
            rw [if_pos r2, n1]
          · show (if runF digB (eA t 0) (eN t 1 - skT t) (skT t) - skT t ≤ 2 then _ else _) = _
            rw [if_pos r2, n1]
        · right
          refine ⟨Nat.lt_of_not_le r2, ?_⟩
          show (if runF digB (eA t 0) (eN t 1 - skT t) (skT t) - skT t ≤ 2 then _ else _) = _
          rw [if_neg r2]
      | false =>
        have ea : advT t = vN (vI (adS t) 3 (if eA t 0 (skT t) = nI 59 then nI 3 else nI 4)) 5 (skT t + 1) := by
          unfold advT
          rw [if_neg g, gl, if_neg Bool.false_ne_true, gd, if_neg Bool.false_ne_true]
        simp (disch := omega) only [u_151_1, u_151_2, u_151_5, u_151_8, u_151_10, u_151_13, u_151_14, u_151_15, u_151_18, u_151_19, u_151_20, u_151_23, u_151_26, u_151_27, u_151_28, u_151_31, u_151_34, u_151_35, u_151_36, u_151_39, u_151_42, u_151_43, u_151_44, u_151_45, u_151_46, u_151_49, u_151_50, u_151_53, u_151_54, u_151_57, u_151_60, u_151_61, u_151_64, u_151_65, u_151_68, u_151_71, u_151_72, u_151_75, u_151_76, u_151_79, u_151_80, u_151_81, u_151_84, u_151_85, u_151_88, u_151_89, u_151_92, u_151_93, u_151_94, u_151_97, u_151_98, u_151_99, u_151_103, u_151_106, u_151_107, u_151_110, u_151_111, u_151_112, u_151_115, u_151_118, u_151_121, u_151_124, u_151_125, u_151_126, u_151_129, u_151_130, u_151_131, u_151_134, u_151_138, u_151_141, u_151_142, u_151_145, u_151_146, u_151_147, u_151_150, u_151_153, u_151_156, u_151_159, u_151_160, u_151_162, u_151_164, u_151_165, u_151_168, u_151_169, u_151_170, u_151_171, u_151_174, u_151_177, u_151_178, u_151_180, u_151_181, u_151_184, u_151_187, u_151_188, u_151_189, u_151_192, u_151_193, u_151_194, u_151_197, u_151_200, u_151_102, u_151_137, gI0, gIs, gR0, gRs, gF0, gFs, st0, st_i, st_r, st_f, st_n, st_s, true_and, and_true, ↓ifLeT, ↓ifLeF, ↓ifLtT, ↓ifLtF, ↓ifEqT, ↓ifEqF, if_tt, if_ff, if_pos, if_neg, nLe, nLt, nEq, nInT, nCl, pk_mul, nI_add, Nat.reduceAdd, s_cat_nil, s_cat_i, s_cat_r, s_cat_f, s_cat_l, tl_s, tl_n, cat_i, cat_r, cat_f, nb0, nb1, nbI, if_bI, if_bIr, Nat.zero_le, Nat.reduceLeDiff, M_ob, M_g0, M_g1, M_g2, M_g3, M_g4, M_g5, M_g6, M_g7, M_g8, M_g9, M_g10, M_g11, M_g12, M_g13, M_g14, M_g15, M_g16, M_g17, M_g18, M_g19, M_g20, M_g21, M_g22, M_g23, M_g24, M_g25, M_g26, M_g27, M_g28, M_g29, M_g30, M_g31, M_g32, M_g33, M_g34, M_g35, M_g36, M_g37, M_g38, M_g39, M_g40, M_g41, M_s3, M_s4, M_s6, M_s7, kI_xI, kI_xB, kI_xA, kI_xV, kB_xI, kB_xB, kB_xA, kB_xV, kA_xI, kA_xB, kA_xA, kA_xV, kV_xI, kV_xB, kV_xA, kV_xV, Nat.reduceEqDiff, reduceIte, e1, nm1, m_small, m_digit, gl, gd, iBf]
        refine K _ (frN2_t (fr (nI 3)) (frN2_I (by decide))) ?_
        rw [ea]
        by_cases g59 : eA t 0 (skT t) = nI 59
        · rw [if_pos g59]
          exact ⟨rfl, rfl, Or.inr (Or.inr (Or.inr (Or.inl ⟨rfl, rfl, hl, g59⟩)))⟩
        · rw [if_neg g59]
          exact ⟨rfl, rfl, Or.inr (Or.inr (Or.inr (Or.inr ⟨rfl, rfl, hl, g59⟩)))⟩
end MTN
