/-! the bits of a float, by hand -/
theorem fv_dbl {n : Nat} (h : n < 8388608) : fv (2 * n) = 2 * fv n := by
  rw [fv_sub h]
  by_cases h2 : 2 * n < 8388608
  · exact fv_sub h2
  · rw [fv_nor (by omega), show 2 * n / 8388608 - 1 = 0 by omega, show 8388608 + 2 * n % 8388608 = 2 * n by omega]
    exact Nat.mul_one _
theorem fv_up1 {n : Nat} (h : 8388608 ≤ n) : fv (n + 8388608) = 2 * fv n := by
  rw [fv_nor h, fv_nor (by omega), show (n + 8388608) % 8388608 = n % 8388608 by omega, show (n + 8388608) / 8388608 - 1 = (n / 8388608 - 1) + 1 by omega, Nat.pow_succ, ← Nat.mul_assoc, Nat.mul_comm]
def dblN (n : Nat) : Nat := if n < 8388608 then 2 * n else n + 8388608
theorem fv_dblN {n : Nat} : fv (dblN n) = 2 * fv n := by
  unfold dblN
  by_cases h : n < 8388608
  · rw [if_pos h]; exact fv_dbl h
  · rw [if_neg h]; exact fv_up1 (by omega)
theorem fsig_lt {n : Nat} : fsig n < 16777216 := by unfold fsig; split <;> omega
theorem dbl_v {w : UInt32} (h : w.toNat < 1065353216) : (FP.fmul w FP.fconst2).toNat = dblN w.toNat := by
  have e : fsig FP.fconst2.toNat * 2 ^ (fex FP.fconst2.toNat - 85) = 2 ^ 65 := by decide +kernel
  have h1 : fv w.toNat ≤ 1 * 2 ^ 149 := by rw [Nat.one_mul, ← fv_one, fv_le]; omega
  have hl : (fv w.toNat * 2 ^ 65).log2 ≤ 23 + 214 := log_le (S := 1) (Nat.le_trans (Nat.mul_le_mul_right _ h1) (by decide +kernel)) (by decide)
  have r := fmul_v (a := w) (b := FP.fconst2) (by omega) (by decide) (by decide) (by decide) (by rw [e]; omega)
  rw [e] at r
  refine fv_inj (r.2.trans ?_)
  rw [fv_dblN, rN_exact (S := fsig w.toNat) (e := fex w.toNat + 65) (by unfold fv; rw [Nat.mul_assoc, ← Nat.pow_add]) fsig_lt (by omega), show fex w.toNat + 65 - 64 = fex w.toNat + 1 by omega, Nat.pow_succ, ← Nat.mul_assoc, Nat.mul_comm]
  rfl
theorem hlf_v {w : UInt32} (hw : goodW w) (h : 16777216 ≤ w.toNat) : (FP.fmul w 1056964608).toNat = w.toNat - 8388608 := by
  have r := half_v hw
  refine fv_inj (r.2.trans ?_)
  have e : fv w.toNat = 2 * fv (w.toNat - 8388608) := by rw [← fv_up1 (by omega), show w.toNat - 8388608 + 8388608 = w.toNat by omega]
  rw [e, rN_exact (S := fsig (w.toNat - 8388608)) (e := fex (w.toNat - 8388608) + 64) (by
    unfold fv
    rw [Nat.pow_add, show (2 : Nat) ^ 64 = 2 * 2 ^ 63 from rfl]
    generalize (2 : Nat) ^ 63 = R
    simp only [Nat.mul_comm, Nat.mul_left_comm, Nat.mul_assoc]) fsig_lt (by omega), show fex (w.toNat - 8388608) + 64 - 64 = fex (w.toNat - 8388608) by omega]
  rfl
theorem big_v {w : UInt32} {m : Nat} (hw : w.toNat < 2139095040) (hv : fv w.toNat = m * 2 ^ 126) (hm : m < 16777216) : (FP.fmul w 1258291200).toNat < 2139095040 ∧ fv (FP.fmul w 1258291200).toNat = m * 2 ^ 149 := by
  have e : fsig (1258291200 : UInt32).toNat * 2 ^ (fex (1258291200 : UInt32).toNat - 85) = 2 ^ 87 := by decide +kernel
  have hl : (fv w.toNat * 2 ^ 87).log2 ≤ 23 + 213 := log_le (S := m) (by rw [hv, Nat.mul_assoc, ← Nat.pow_add]; exact Nat.le_refl _) hm
  have r := fmul_v (a := w) (b := 1258291200) hw (by decide) (by decide) (by decide) (by rw [e]; omega)
  rw [e] at r
  refine ⟨r.1, r.2.trans ?_⟩
  rw [rN_exact (S := m) (e := 213) (by rw [hv, Nat.mul_assoc, ← Nat.pow_add]) hm (by decide)]
theorem sub1_v {w : UInt32} (h1 : 1065353216 ≤ w.toNat) (h2 : w.toNat < 1073741824) : (FP.fsub w FP.fconst1).toNat < 2139095040 ∧ fv (FP.fsub w FP.fconst1).toNat = (w.toNat - 1065353216) * 2 ^ 126 := by
  have hs : fsig w.toNat = 8388608 + (w.toNat - 1065353216) := by unfold fsig; rw [if_neg (by omega)]; omega
  have he : fex w.toNat = 126 := by unfold fex; omega
  generalize hm : w.toNat - 1065353216 = m at hs
  have hm2 : m < 8388608 := by omega
  have e : FP.fsub w FP.fconst1 = .ofNat (FP.Core.encode FP.Core.b32 (FP.Core.round FP.Core.b32 (.fin false m (-23)))) := by
    show UInt32.ofNat (FP.Core.encode _ (FP.Core.round _ (FP.Core.exactSum (FP.Core.decode _ _) (FP.Core.negate (FP.Core.decode _ _))))) = _
    rw [dec_n (by omega), dec_n (show FP.fconst1.toNat < 2139095040 by decide), hs, he]
    show UInt32.ofNat (FP.Core.encode _ (FP.Core.round _ (.fin (FP.Core.sumSign false true (FP.Core.sumUnits false (8388608 + m) (-23) true 8388608 (-23) (-23))) (FP.Core.sumUnits false (8388608 + m) (-23) true 8388608 (-23) (-23)).natAbs (-23)))) = _
    have hv : FP.Core.sumUnits false (8388608 + m) (-23) true 8388608 (-23) (-23) = (m : Int) := by
      show (((8388608 + m) * 2 ^ 0 : Nat) : Int) + -((8388608 * 2 ^ 0 : Nat) : Int) = m
      omega
    rw [hv, Int.natAbs_natCast]
    have e3 : FP.Core.sumSign false true (m : Int) = false := by
      unfold FP.Core.sumSign
      by_cases hz : (m : Int) = 0
      · rw [if_pos hz]; rfl
      · rw [if_neg hz]; exact decide_eq_false (by omega)
    rw [e3]
  rw [e]
  by_cases h0 : m = 0
  · subst h0
    have e2 : FP.Core.encode FP.Core.b32 (FP.Core.round FP.Core.b32 (.fin false 0 (-23))) = 0 := by
      show FP.Core.encode FP.Core.b32 (FP.Core.roundRatio _ _ _ _ _) = 0
      unfold FP.Core.roundRatio
      rw [if_pos rfl]
      rfl
    rw [e2]
    exact ⟨by decide, by decide +kernel⟩
  · obtain ⟨q, g1, g2, g3⟩ := round_v (c := m) (q := -23) (k := 190) (by omega) (by omega) (Nat.le_trans (log_le (S := m) (Nat.le_refl _) (by omega)) (by decide))
    rw [g1, of_lt g2]
    exact ⟨g2, by rw [g3, rN_exact (S := m) (e := 190) rfl (by omega) (by decide)]⟩
theorem f2i_v {w : UInt32} {m : Nat} (hw : w.toNat < 2139095040) (hv : fv w.toNat = m * 2 ^ 149) (hm : m < 2 ^ 31) : FP.f2i w = nI m := by
  have ht : FP.Core.truncate false (fsig w.toNat) (-149 + (fex w.toNat : Int)) = (m : Int) := by
    show ((fsig w.toNat * 2 ^ (-149 + (fex w.toNat : Int)).toNat / 2 ^ (-(-149 + (fex w.toNat : Int))).toNat : Nat) : Int) = m
    congr 1
    unfold fv at hv
    by_cases h : 149 ≤ fex w.toNat
    · rw [show (-149 + (fex w.toNat : Int)).toNat = fex w.toNat - 149 by omega, show (-(-149 + (fex w.toNat : Int))).toNat = 0 by omega, Nat.pow_zero, Nat.div_one]
      refine Nat.eq_of_mul_eq_mul_right (Nat.two_pow_pos 149) ?_
      rw [← hv, Nat.mul_assoc, ← Nat.pow_add, show fex w.toNat - 149 + 149 = fex w.toNat by omega]
    · rw [show (-149 + (fex w.toNat : Int)).toNat = 0 by omega, show (-(-149 + (fex w.toNat : Int))).toNat = 149 - fex w.toNat by omega, Nat.pow_zero, Nat.mul_one]
      have : fsig w.toNat = m * 2 ^ (149 - fex w.toNat) := by
        refine Nat.eq_of_mul_eq_mul_right (Nat.two_pow_pos (fex w.toNat)) ?_
        rw [hv, Nat.mul_assoc, ← Nat.pow_add, show 149 - fex w.toNat + fex w.toNat = 149 by omega]
      rw [this, Nat.mul_div_cancel _ (Nat.two_pow_pos _)]
  show Int32.ofInt (FP.Core.toInt _ _ (FP.Core.decode _ _)) = _
  rw [dec_n hw]
  show Int32.ofInt (max (-2 ^ 31) (min (2 ^ 31 - 1) (FP.Core.truncate _ _ _))) = _
  rw [ht, show max (-2 ^ 31) (min (2 ^ 31 - 1) (m : Int)) = (m : Int) by omega]
  exact congrArg Int32.ofBitVec (BitVec.ofInt_natCast 32 m)
theorem cmp_lt {a b : UInt32} {o : ClassFile.CmpOp} (ha : a.toNat < 2139095040) (hb : b.toNat < 2139095040) : Op.cmpValue (FP.fcmp a b) o < nI 0 ↔ a.toNat < b.toNat := by
  rw [fcmp_v ha hb]
  unfold compareOfLessAndEq
  by_cases c1 : a.toNat < b.toNat
  · rw [if_pos c1]; exact ⟨fun _ => c1, fun _ => by cases o <;> decide⟩
  · rw [if_neg c1]
    refine ⟨fun q => absurd q ?_, fun q => absurd q c1⟩
    by_cases c2 : a.toNat = b.toNat
    · rw [if_pos c2]; cases o <;> decide
    · rw [if_neg c2]; cases o <;> decide
theorem cmp_ge {a b : UInt32} {o : ClassFile.CmpOp} (ha : a.toNat < 2139095040) (hb : b.toNat < 2139095040) : nI 0 ≤ Op.cmpValue (FP.fcmp a b) o ↔ b.toNat ≤ a.toNat := by
  rw [← Int32.not_lt, cmp_lt ha hb, Nat.not_lt]
def pwI (p : Nat) : Int32 := Int32.ofInt (-(p : Int))
theorem pw_s : ∀ p, p < 126 → pwI p + (-1) = pwI (p + 1) := by decide +kernel
theorem pw_le : ∀ p, p < 127 → (pwI p ≤ -126 ↔ p = 126) := by decide +kernel
theorem pw_127 : ∀ p, p < 127 → pwI p + nI 127 = nI (127 - p) := by decide +kernel
section BF
variable {d : Nat} {h : sH} {k : sK} {Q : sQ} {w : UInt32} {v0 : UInt32} {v3 : Value}
theorem bf_end {P : Int32} {E : Nat} (hP : P + nI 127 = nI E) (hE : E ≤ 254) (h1 : 1065353216 ≤ w.toNat) (h2 : w.toNat < 1073741824) : WP d 140 68 [.float v0, .float w, .int P, v3] [] h k Q ↔ Q (some (.int (nI (E * 8388608 + (w.toNat - 1065353216))))) h := by
  obtain ⟨a1, a2⟩ := sub1_v h1 h2
  have b := big_v a1 a2 (by omega)
  have c := f2i_v b.1 b.2 (by omega)
  have g : nI 0 ≤ Op.cmpValue (FP.fcmp w FP.fconst1) .g := (cmp_ge (by omega) (by decide)).mpr h1
  have n1 := n32_of a1
  have n2 := n32_of b.1
  have sh : nI E <<< (nI 23 &&& 31) = nI (E * 8388608) := pk_shlN _ 23 (s_l 23 (by decide)) (by omega)
  have or : E * 8388608 ||| (w.toNat - 1065353216) = E * 8388608 + (w.toNat - 1065353216) := by
    rw [Nat.mul_comm]
    exact (Nat.two_pow_add_eq_or_of_lt (i := 23) (by omega) E).symm
  simp (disch := omega) only [u_140_68, u_140_69, u_140_70, u_140_71, u_140_74, u_140_75, u_140_78, u_140_79, u_140_80, u_140_81, u_140_82, u_140_84, u_140_85, u_140_87, u_140_88, u_140_89, u_140_90, u_140_91, u_140_94, u_140_95, u_140_96, u_140_97, gI0, gIs, gR0, gRs, gF0, gFs, st0, st_i, st_r, st_f, st_n, st_s, true_and, and_true, ↓ifLeT, ↓ifLeF, ↓ifLtT, ↓ifLtF, ↓ifEqT, ↓ifEqF, if_tt, if_ff, if_pos, if_neg, nLe, nLt, nEq, nInT, nCl, pk_mul, nI_add, Nat.reduceAdd, s_cat_nil, s_cat_i, s_cat_r, s_cat_f, s_cat_l, tl_s, tl_n, cat_i, cat_r, cat_f, nb0, nb1, nbI, if_bI, if_bIr, Nat.zero_le, Nat.reduceLeDiff, g, n1, n2, hP, sh, c, fa_or, or]
theorem bf_lp2 {n : Nat} (hn : n < 1073741824) : ∀ m p w, p + m = 126 → w.toNat < 1073741824 → fv w.toNat = fv n * 2 ^ p → (WP d 140 36 [.float v0, .float w, .int (pwI p), .int (nI p)] [] h k Q ↔ Q (some (.int (nI n))) h) := by
  intro m
  induction m with
  | zero =>
    intro p w hp hw hv
    have e : p = 126 := by omega
    subst e
    have l : pwI 126 ≤ -126 := (pw_le 126 (by decide)).mpr rfl
    rw [u_140_36]
    by_cases h1 : 1065353216 ≤ w.toNat
    · have g : nI 0 ≤ Op.cmpValue (FP.fcmp w FP.fconst1) .g := (cmp_ge (by omega) (by decide)).mpr h1
      have hn0 : n = (127 - 126) * 8388608 + (w.toNat - 1065353216) := by
        refine fv_inj (Nat.eq_of_mul_eq_mul_right (Nat.two_pow_pos 126) ?_)
        rw [← hv, fv_nor (by omega), fv_nor (by omega), Nat.mul_assoc, ← Nat.pow_add, show ((127 - 126) * 8388608 + (w.toNat - 1065353216)) % 8388608 = w.toNat % 8388608 by omega, show ((127 - 126) * 8388608 + (w.toNat - 1065353216)) / 8388608 - 1 + 126 = w.toNat / 8388608 - 1 by omega]
      simp (disch := omega) only [u_140_37, u_140_40, u_140_43, u_140_44, u_140_45, u_140_46, gI0, gIs, gR0, gRs, gF0, gFs, st0, st_i, st_r, st_f, st_n, st_s, true_and, and_true, ↓ifLeT, ↓ifLeF, ↓ifLtT, ↓ifLtF, ↓ifEqT, ↓ifEqF, if_tt, if_ff, if_pos, if_neg, nLe, nLt, nEq, nInT, nCl, pk_mul, nI_add, Nat.reduceAdd, s_cat_nil, s_cat_i, s_cat_r, s_cat_f, s_cat_l, tl_s, tl_n, cat_i, cat_r, cat_f, nb0, nb1, nbI, if_bI, if_bIr, Nat.zero_le, Nat.reduceLeDiff, g, bf_end (pw_127 126 (by decide)) (by decide) h1 hw, ← hn0]
    · have g : ¬ nI 0 ≤ Op.cmpValue (FP.fcmp w FP.fconst1) .g := fun q => h1 ((cmp_ge (by omega) (by decide)).mp q)
      have hn0 : n < 8388608 := by
        have a : fv w.toNat < 2 ^ 149 := by rw [← fv_one, fv_lt]; omega
        rw [hv, show 2 ^ 149 = 2 ^ 23 * 2 ^ 126 from rfl] at a
        have a := Nat.lt_of_mul_lt_mul_right a
        rw [show 2 ^ 23 = fv 8388608 by decide +kernel, fv_lt] at a
        exact a
      rw [fv_sub hn0] at hv
      have b := big_v (by omega) hv (by omega)
      have c := f2i_v b.1 b.2 (by omega)
      have n2 := n32_of b.1
      simp (disch := omega) only [u_140_37, u_140_40, u_140_43, u_140_44, u_140_45, u_140_46, u_140_49, u_140_50, u_140_52, u_140_55, u_140_56, u_140_57, u_140_58, u_140_59, u_140_62, u_140_65, u_140_68, u_140_69, u_140_70, u_140_71, u_140_74, u_140_75, u_140_78, u_140_79, u_140_80, gI0, gIs, gR0, gRs, gF0, gFs, st0, st_i, st_r, st_f, st_n, st_s, true_and, and_true, ↓ifLeT, ↓ifLeF, ↓ifLtT, ↓ifLtF, ↓ifEqT, ↓ifEqF, if_tt, if_ff, if_pos, if_neg, nLe, nLt, nEq, nInT, nCl, pk_mul, nI_add, Nat.reduceAdd, s_cat_nil, s_cat_i, s_cat_r, s_cat_f, s_cat_l, tl_s, tl_n, cat_i, cat_r, cat_f, nb0, nb1, nbI, if_bI, if_bIr, Nat.zero_le, Nat.reduceLeDiff, g, l, n2, c]
  | succ m ih =>
    intro p w hp hw hv
    have l : ¬ pwI p ≤ -126 := fun q => by have := (pw_le p (by omega)).mp q; omega
    rw [u_140_36]
    by_cases h1 : 1065353216 ≤ w.toNat
    · have g : nI 0 ≤ Op.cmpValue (FP.fcmp w FP.fconst1) .g := (cmp_ge (by omega) (by decide)).mpr h1
      have hn0 : n = (127 - p) * 8388608 + (w.toNat - 1065353216) := by
        refine fv_inj (Nat.eq_of_mul_eq_mul_right (Nat.two_pow_pos p) ?_)
        rw [← hv, fv_nor (by omega), fv_nor (by omega), Nat.mul_assoc, ← Nat.pow_add, show ((127 - p) * 8388608 + (w.toNat - 1065353216)) % 8388608 = w.toNat % 8388608 by omega, show ((127 - p) * 8388608 + (w.toNat - 1065353216)) / 8388608 - 1 + p = w.toNat / 8388608 - 1 by omega]
      simp (disch := omega) only [u_140_37, u_140_40, u_140_43, u_140_44, u_140_45, u_140_46, gI0, gIs, gR0, gRs, gF0, gFs, st0, st_i, st_r, st_f, st_n, st_s, true_and, and_true, ↓ifLeT, ↓ifLeF, ↓ifLtT, ↓ifLtF, ↓ifEqT, ↓ifEqF, if_tt, if_ff, if_pos, if_neg, nLe, nLt, nEq, nInT, nCl, pk_mul, nI_add, Nat.reduceAdd, s_cat_nil, s_cat_i, s_cat_r, s_cat_f, s_cat_l, tl_s, tl_n, cat_i, cat_r, cat_f, nb0, nb1, nbI, if_bI, if_bIr, Nat.zero_le, Nat.reduceLeDiff, g, bf_end (pw_127 p (by omega)) (by omega) h1 hw, ← hn0]
    · have g : ¬ nI 0 ≤ Op.cmpValue (FP.fcmp w FP.fconst1) .g := fun q => h1 ((cmp_ge (by omega) (by decide)).mp q)
      have dv := dbl_v (w := w) (by omega)
      have dl : dblN w.toNat < 1073741824 := by unfold dblN; split <;> omega
      have n2 := n32_of (w := FP.fmul w FP.fconst2) (by omega)
      have ih := ih (p + 1) (FP.fmul w FP.fconst2) (by omega) (by omega) (by rw [dv, fv_dblN, hv, Nat.pow_succ, Nat.mul_comm 2, Nat.mul_assoc])
      simp (disch := omega) only [u_140_37, u_140_40, u_140_43, u_140_44, u_140_45, u_140_46, u_140_49, u_140_50, u_140_52, u_140_55, u_140_56, u_140_57, u_140_58, u_140_59, u_140_62, u_140_65, gI0, gIs, gR0, gRs, gF0, gFs, st0, st_i, st_r, st_f, st_n, st_s, true_and, and_true, ↓ifLeT, ↓ifLeF, ↓ifLtT, ↓ifLtF, ↓ifEqT, ↓ifEqF, if_tt, if_ff, if_pos, if_neg, nLe, nLt, nEq, nInT, nCl, pk_mul, nI_add, Nat.reduceAdd, s_cat_nil, s_cat_i, s_cat_r, s_cat_f, s_cat_l, tl_s, tl_n, cat_i, cat_r, cat_f, nb0, nb1, nbI, if_bI, if_bIr, Nat.zero_le, Nat.reduceLeDiff, g, l, n2, pw_s p (by omega), ih]
theorem bf_lp1 {j : Nat} (hj : j < 100) (hw : w.toNat < 1073741824) : WP d 140 6 [.float v0, .float w, .int (nI j), .int (nI j)] [] h k Q ↔ WP d 140 36 [.float v0, .float w, .int (nI j), .int (nI 0)] [] h k Q := by
  have g : Op.cmpValue (FP.fcmp w FP.fconst2) .l < nI 0 := (cmp_lt (by omega) (by decide)).mpr hw
  rw [u_140_6]
  simp (disch := omega) only [u_140_7, u_140_10, u_140_13, u_140_14, u_140_15, u_140_16, u_140_19, u_140_20, u_140_23, u_140_24, u_140_25, u_140_28, u_140_31, u_140_34, u_140_35, gI0, gIs, gR0, gRs, gF0, gFs, st0, st_i, st_r, st_f, st_n, st_s, true_and, and_true, ↓ifLeT, ↓ifLeF, ↓ifLtT, ↓ifLtF, ↓ifEqT, ↓ifEqF, if_tt, if_ff, if_pos, if_neg, nLe, nLt, nEq, nInT, nCl, pk_mul, nI_add, Nat.reduceAdd, s_cat_nil, s_cat_i, s_cat_r, s_cat_f, s_cat_l, tl_s, tl_n, cat_i, cat_r, cat_f, nb0, nb1, nbI, if_bI, if_bIr, Nat.zero_le, Nat.reduceLeDiff, g]
theorem bf_lp1s {j : Nat} (hj : j < 100) (hg : goodW w) (hw : 1073741824 ≤ w.toNat) : WP d 140 6 [.float v0, .float w, .int (nI j), .int (nI j)] [] h k Q ↔ WP d 140 6 [.float v0, .float (FP.fmul w 1056964608), .int (nI (j + 1)), .int (nI (j + 1))] [] h k Q := by
  have g : ¬ Op.cmpValue (FP.fcmp w FP.fconst2) .l < nI 0 := fun q => by have := (cmp_lt (good_fin hg) (by decide)).mp q; have : w.toNat < 1073741824 := this; omega
  have n2 := n32_of (half_v hg).1
  rw [u_140_6]
  simp (disch := omega) only [u_140_7, u_140_10, u_140_13, u_140_14, u_140_15, u_140_16, u_140_19, u_140_20, u_140_23, u_140_24, u_140_25, u_140_28, u_140_31, gI0, gIs, gR0, gRs, gF0, gFs, st0, st_i, st_r, st_f, st_n, st_s, true_and, and_true, ↓ifLeT, ↓ifLeF, ↓ifLtT, ↓ifLtF, ↓ifEqT, ↓ifEqF, if_tt, if_ff, if_pos, if_neg, nLe, nLt, nEq, nInT, nCl, pk_mul, nI_add, Nat.reduceAdd, s_cat_nil, s_cat_i, s_cat_r, s_cat_f, s_cat_l, tl_s, tl_n, cat_i, cat_r, cat_f, nb0, nb1, nbI, if_bI, if_bIr, Nat.zero_le, Nat.reduceLeDiff, g, n2]
theorem bf_36 {j : Nat} (hj : j < 100) (h1 : 1065353216 ≤ w.toNat) (h2 : w.toNat < 1073741824) : WP d 140 36 [.float v0, .float w, .int (nI j), .int (nI 0)] [] h k Q ↔ Q (some (.int (nI ((127 + j) * 8388608 + (w.toNat - 1065353216))))) h := by
  have g : nI 0 ≤ Op.cmpValue (FP.fcmp w FP.fconst1) .g := (cmp_ge (by omega) (by decide)).mpr h1
  rw [u_140_36]
  simp (disch := omega) only [u_140_37, u_140_40, u_140_43, u_140_44, u_140_45, u_140_46, gI0, gIs, gR0, gRs, gF0, gFs, st0, st_i, st_r, st_f, st_n, st_s, true_and, and_true, ↓ifLeT, ↓ifLeF, ↓ifLtT, ↓ifLtF, ↓ifEqT, ↓ifEqF, if_tt, if_ff, if_pos, if_neg, nLe, nLt, nEq, nInT, nCl, pk_mul, nI_add, Nat.reduceAdd, s_cat_nil, s_cat_i, s_cat_r, s_cat_f, s_cat_l, tl_s, tl_n, cat_i, cat_r, cat_f, nb0, nb1, nbI, if_bI, if_bIr, Nat.zero_le, Nat.reduceLeDiff, g, bf_end (P := nI j) (E := 127 + j) (by rw [nI_add, Nat.add_comm]) (by omega) h1 h2]
theorem toI_n : w.toInt32 = nI w.toNat := by
  refine Int32.toBitVec_inj.mp ?_
  show w.toBitVec = BitVec.ofNat 32 w.toBitVec.toNat
  apply BitVec.eq_of_toNat_eq
  rw [BitVec.toNat_ofNat, Nat.mod_eq_of_lt w.toBitVec.isLt]
theorem m_bitsOfFloat (hg : goodW w) : MT (d + 1) 140 [.float w] h Q ↔ Q (some (.int w.toInt32)) h := by
  rw [MT_go (by decide) _ _ _ (Nat.le_of_ble_eq_true rfl), show s_entry 140 [.float w] = [.float w, s_no, s_no, s_no] from rfl]
  have hg' : w.toNat ≤ 1086324736 := hg
  rw [toI_n]
  simp (disch := omega) only [u_140_0, u_140_1, u_140_2, u_140_3, u_140_4, u_140_5, gI0, gIs, gR0, gRs, gF0, gFs, st0, st_i, st_r, st_f, st_n, st_s, true_and, and_true, ↓ifLeT, ↓ifLeF, ↓ifLtT, ↓ifLtF, ↓ifEqT, ↓ifEqF, if_tt, if_ff, if_pos, if_neg, nLe, nLt, nEq, nInT, nCl, pk_mul, nI_add, Nat.reduceAdd, s_cat_nil, s_cat_i, s_cat_r, s_cat_f, s_cat_l, tl_s, tl_n, cat_i, cat_r, cat_f, nb0, nb1, nbI, if_bI, if_bIr, Nat.zero_le, Nat.reduceLeDiff]
  by_cases h1 : w.toNat < 1073741824
  · rw [bf_lp1 (by decide) h1]
    exact bf_lp2 h1 126 0 w (by decide) h1 (Nat.mul_one _).symm
  · have e1 := hlf_v hg (by omega)
    have g1 : goodW (FP.fmul w 1056964608) := by unfold goodW; omega
    rw [bf_lp1s (by decide) hg (by omega)]
    by_cases h2 : (FP.fmul w 1056964608).toNat < 1073741824
    · rw [bf_lp1 (by decide) h2, bf_36 (by decide) (by omega) h2, e1, show (127 + (0 + 1)) * 8388608 + (w.toNat - 8388608 - 1065353216) = w.toNat by omega]
    · have e2 := hlf_v g1 (by omega)
      rw [bf_lp1s (by decide) g1 (by omega), bf_lp1 (by decide) (by omega), bf_36 (by decide) (by omega) (by omega), e2, e1, show (127 + (0 + 1 + 1)) * 8388608 + (w.toNat - 8388608 - 8388608 - 1065353216) = w.toNat by omega]
end BF
