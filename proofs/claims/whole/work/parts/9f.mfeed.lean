/-! the reference's feed -/
theorem u_l : ∀ n, n < 32 → (((nI n).toUInt32 &&& Int32.toUInt32 31).toBitVec % 32).toNat = n := by decide +kernel
theorem by_s {x : Int32} {s : Nat} (hs : s ≤ 24) : x >>> (nI s &&& 31) &&& nI 255 = byI x s := by
  unfold byI
  apply b_ext
  intro i hi
  rw [b_and, b_and, b_n hi]
  by_cases e : i < 8
  · have h1 : bt (x >>> (nI s &&& 31)) i = bt x (s + i) := by
      show (x >>> (nI s &&& 31)).toBitVec.getLsbD i = _
      rw [Int32.toBitVec_shiftRight]
      show (BitVec.sshiftRight x.toBitVec ((nI s &&& 31).toBitVec.smod 32).toNat).getLsbD i = _
      rw [s_l s (by omega), BitVec.getLsbD_sshiftRight, decide_eq_false (by omega), if_pos (by omega)]
      rfl
    have h2 : bt ((x.toUInt32 >>> ((nI s).toUInt32 &&& Int32.toUInt32 31)).toInt32) i = bt x (s + i) := by
      show (x.toUInt32 >>> ((nI s).toUInt32 &&& Int32.toUInt32 31)).toBitVec.getLsbD i = _
      rw [UInt32.toBitVec_shiftRight]
      show (x.toBitVec >>> (((nI s).toUInt32 &&& Int32.toUInt32 31).toBitVec % 32).toNat).getLsbD i = _
      rw [u_l s (by omega), BitVec.getLsbD_ushiftRight]
      rfl
    rw [h1, h2]
  · have : (255 : Nat).testBit i = false := by
      have := full_tb (T := 8) (i := i)
      rw [decide_eq_false e] at this
      exact this
    rw [this, Bool.and_false, Bool.and_false]
theorem i_self (y : Int32) : y = nI y.toBitVec.toNat := by
  refine Int32.toBitVec_inj.mp ?_
  show y.toBitVec = BitVec.ofNat 32 y.toBitVec.toNat
  apply BitVec.eq_of_toNat_eq
  rw [BitVec.toNat_ofNat, Nat.mod_eq_of_lt y.toBitVec.isLt]
theorem by_lt {x : Int32} {s : Nat} : ∃ v, byI x s = nI v ∧ v < 256 := by
  unfold byI
  generalize (x.toUInt32 >>> ((nI s).toUInt32 &&& Int32.toUInt32 31)).toInt32 = y
  refine ⟨y.toBitVec.toNat &&& 255, ?_, ?_⟩
  · rw [← fa_and, ← i_self]
  · have : y.toBitVec.toNat &&& 255 ≤ 255 := Nat.and_le_right
    omega
def wd (a b c e f : Int32) (q : Nat) : Int32 := match q with
  | 0 => a
  | 1 => b
  | 2 => c
  | 3 => e
  | _ => f
theorem sh_i : ∀ i, i < 20 → nI 24 - nI 8 * (nI i - nI i / nI 4 * nI 4) = nI (24 - 8 * (i % 4)) := by decide +kernel
theorem sum_mono {f : Nat → Nat} {k : Nat} : ∀ q, sumN f k ≤ sumN f (k + q)
  | 0 => Nat.le_refl _
  | q + 1 => Nat.le_trans (sum_mono q) (Nat.le_add_right _ _)
section MFD
variable {d : Nat} {m : tM} {h : sH} {a b c e f : Int32} {Q : sQ} {z : tQ}
def byK (a b c e f : Int32) (i : Nat) : Int32 := byI (wd a b c e f (i / 4)) (24 - 8 * (i % 4))
theorem m_byteOf {i : Nat} (hi : i < 20) : MT (d + 1) 145 [.int a, .int b, .int c, .int e, .int f, .int (nI i)] h Q ↔ Q (some (.int (byK a b c e f i))) h := by
  rw [MT_go (by decide) _ _ _ (Nat.le_of_ble_eq_true rfl), show s_entry 145 [.int a, .int b, .int c, .int e, .int f, .int (nI i)] = [.int a, .int b, .int c, .int e, .int f, .int (nI i), s_no] from rfl]
  have n4 : ¬ nI 4 = (0 : Int32) := by decide
  have sh := sh_i i hi
  unfold byK
  have bs := fun x => by_s (x := x) (s := 24 - 8 * (i % 4)) (by omega)
  by_cases h1 : i < 4
  · rw [show i / 4 = 0 by omega]
    simp (disch := omega) only [u_145_0, u_145_2, u_145_3, u_145_6, u_145_7, u_145_10, u_145_12, u_145_14, u_145_17, u_145_18, u_145_21, u_145_23, u_145_25, u_145_28, u_145_29, u_145_32, u_145_34, u_145_36, u_145_39, u_145_40, u_145_43, u_145_45, u_145_47, u_145_49, u_145_51, u_145_53, u_145_55, u_145_56, u_145_57, u_145_58, u_145_59, u_145_60, u_145_63, u_145_64, gI0, gIs, gR0, gRs, gF0, gFs, st0, st_i, st_r, st_f, st_n, st_s, true_and, and_true, ↓ifLeT, ↓ifLeF, ↓ifLtT, ↓ifLtF, ↓ifEqT, ↓ifEqF, if_tt, if_ff, if_pos, if_neg, nLe, nLt, nEq, nInT, nCl, pk_mul, nI_add, Nat.reduceAdd, s_cat_nil, s_cat_i, s_cat_r, s_cat_f, s_cat_l, tl_s, tl_n, cat_i, cat_r, cat_f, nb0, nb1, nbI, if_bI, if_bIr, Nat.zero_le, Nat.reduceLeDiff, n4, sh, bs, not_false_iff]
    exact Iff.rfl
  · by_cases h2 : i < 8
    · rw [show i / 4 = 1 by omega]
      simp (disch := omega) only [u_145_0, u_145_2, u_145_3, u_145_6, u_145_7, u_145_10, u_145_12, u_145_14, u_145_17, u_145_18, u_145_21, u_145_23, u_145_25, u_145_28, u_145_29, u_145_32, u_145_34, u_145_36, u_145_39, u_145_40, u_145_43, u_145_45, u_145_47, u_145_49, u_145_51, u_145_53, u_145_55, u_145_56, u_145_57, u_145_58, u_145_59, u_145_60, u_145_63, u_145_64, gI0, gIs, gR0, gRs, gF0, gFs, st0, st_i, st_r, st_f, st_n, st_s, true_and, and_true, ↓ifLeT, ↓ifLeF, ↓ifLtT, ↓ifLtF, ↓ifEqT, ↓ifEqF, if_tt, if_ff, if_pos, if_neg, nLe, nLt, nEq, nInT, nCl, pk_mul, nI_add, Nat.reduceAdd, s_cat_nil, s_cat_i, s_cat_r, s_cat_f, s_cat_l, tl_s, tl_n, cat_i, cat_r, cat_f, nb0, nb1, nbI, if_bI, if_bIr, Nat.zero_le, Nat.reduceLeDiff, n4, sh, bs, not_false_iff]
      exact Iff.rfl
    · by_cases h3 : i < 12
      · rw [show i / 4 = 2 by omega]
        simp (disch := omega) only [u_145_0, u_145_2, u_145_3, u_145_6, u_145_7, u_145_10, u_145_12, u_145_14, u_145_17, u_145_18, u_145_21, u_145_23, u_145_25, u_145_28, u_145_29, u_145_32, u_145_34, u_145_36, u_145_39, u_145_40, u_145_43, u_145_45, u_145_47, u_145_49, u_145_51, u_145_53, u_145_55, u_145_56, u_145_57, u_145_58, u_145_59, u_145_60, u_145_63, u_145_64, gI0, gIs, gR0, gRs, gF0, gFs, st0, st_i, st_r, st_f, st_n, st_s, true_and, and_true, ↓ifLeT, ↓ifLeF, ↓ifLtT, ↓ifLtF, ↓ifEqT, ↓ifEqF, if_tt, if_ff, if_pos, if_neg, nLe, nLt, nEq, nInT, nCl, pk_mul, nI_add, Nat.reduceAdd, s_cat_nil, s_cat_i, s_cat_r, s_cat_f, s_cat_l, tl_s, tl_n, cat_i, cat_r, cat_f, nb0, nb1, nbI, if_bI, if_bIr, Nat.zero_le, Nat.reduceLeDiff, n4, sh, bs, not_false_iff]
        exact Iff.rfl
      · by_cases h4 : i < 16
        · rw [show i / 4 = 3 by omega]
          simp (disch := omega) only [u_145_0, u_145_2, u_145_3, u_145_6, u_145_7, u_145_10, u_145_12, u_145_14, u_145_17, u_145_18, u_145_21, u_145_23, u_145_25, u_145_28, u_145_29, u_145_32, u_145_34, u_145_36, u_145_39, u_145_40, u_145_43, u_145_45, u_145_47, u_145_49, u_145_51, u_145_53, u_145_55, u_145_56, u_145_57, u_145_58, u_145_59, u_145_60, u_145_63, u_145_64, gI0, gIs, gR0, gRs, gF0, gFs, st0, st_i, st_r, st_f, st_n, st_s, true_and, and_true, ↓ifLeT, ↓ifLeF, ↓ifLtT, ↓ifLtF, ↓ifEqT, ↓ifEqF, if_tt, if_ff, if_pos, if_neg, nLe, nLt, nEq, nInT, nCl, pk_mul, nI_add, Nat.reduceAdd, s_cat_nil, s_cat_i, s_cat_r, s_cat_f, s_cat_l, tl_s, tl_n, cat_i, cat_r, cat_f, nb0, nb1, nbI, if_bI, if_bIr, Nat.zero_le, Nat.reduceLeDiff, n4, sh, bs, not_false_iff]
          exact Iff.rfl
        · rw [show i / 4 = 4 by omega]
          simp (disch := omega) only [u_145_0, u_145_2, u_145_3, u_145_6, u_145_7, u_145_10, u_145_12, u_145_14, u_145_17, u_145_18, u_145_21, u_145_23, u_145_25, u_145_28, u_145_29, u_145_32, u_145_34, u_145_36, u_145_39, u_145_40, u_145_43, u_145_45, u_145_47, u_145_49, u_145_51, u_145_53, u_145_55, u_145_56, u_145_57, u_145_58, u_145_59, u_145_60, u_145_63, u_145_64, gI0, gIs, gR0, gRs, gF0, gFs, st0, st_i, st_r, st_f, st_n, st_s, true_and, and_true, ↓ifLeT, ↓ifLeF, ↓ifLtT, ↓ifLtF, ↓ifEqT, ↓ifEqF, if_tt, if_ff, if_pos, if_neg, nLe, nLt, nEq, nInT, nCl, pk_mul, nI_add, Nat.reduceAdd, s_cat_nil, s_cat_i, s_cat_r, s_cat_f, s_cat_l, tl_s, tl_n, cat_i, cat_r, cat_f, nb0, nb1, nbI, if_bI, if_bIr, Nat.zero_le, Nat.reduceLeDiff, n4, sh, bs, not_false_iff]
          exact Iff.rfl
def oneK (a b c e f : Int32) (i : Nat) : Nat := if byK a b c e f i = nI 0 then 0 else 1
theorem one_sum : sumN (oneK a b c e f) 20 = bcN a + bcN b + bcN c + bcN e + bcN f := by
  have : sumN (oneK a b c e f) 20 = 0 + b1N a 24 + b1N a 16 + b1N a 8 + b1N a 0 + b1N b 24 + b1N b 16 + b1N b 8 + b1N b 0 + b1N c 24 + b1N c 16 + b1N c 8 + b1N c 0 + b1N e 24 + b1N e 16 + b1N e 8 + b1N e 0 + b1N f 24 + b1N f 16 + b1N f 8 + b1N f 0 := rfl
  rw [this]
  unfold bcN
  omega
def tpK (a b c e f : Int32) (t : tO) : Nat → tO
  | 0 => t
  | k + 1 => ap1 (wd a b c e f (k / 4)) (24 - 8 * (k % 4)) (tpK a b c e f t k)
theorem fd_1 : ∀ q k v, k + q = 20 → (WP (d + 1) 146 11 [.ref 317, .int a, .int b, .int c, .int e, .int f, .int (nI (sumN (oneK a b c e f) k)), .int (nI k), v] [] (pM m h) (0, 0) Q ↔ WP (d + 1) 146 49 [.ref 317, .int a, .int b, .int c, .int e, .int f, .int (nI (sumN (oneK a b c e f) 20)), .int (nI 20), v] [] (pM m h) (0, 0) Q) := by
  intro q
  induction q with
  | zero =>
    intro k v hk
    have e : k = 20 := by omega
    subst e
    rw [u_146_11]
    simp (disch := omega) only [u_146_0, u_146_1, u_146_2, u_146_5, u_146_6, u_146_8, u_146_9, u_146_13, u_146_15, u_146_18, u_146_20, u_146_21, u_146_22, u_146_23, u_146_25, u_146_27, u_146_29, u_146_32, u_146_35, u_146_36, u_146_39, u_146_40, u_146_41, u_146_43, u_146_46, u_146_50, u_146_53, u_146_55, u_146_56, u_146_59, u_146_62, u_146_63, u_146_64, u_146_65, u_146_69, u_146_71, u_146_74, u_146_75, u_146_76, u_146_77, u_146_79, u_146_81, u_146_83, u_146_86, u_146_88, u_146_90, u_146_93, u_146_94, u_146_97, u_146_98, u_146_101, u_146_103, u_146_104, u_146_105, u_146_106, u_146_109, u_146_110, u_146_111, u_146_114, u_146_117, u_146_120, u_146_121, u_146_124, gI0, gIs, gR0, gRs, gF0, gFs, st0, st_i, st_r, st_f, st_n, st_s, true_and, and_true, ↓ifLeT, ↓ifLeF, ↓ifLtT, ↓ifLtF, ↓ifEqT, ↓ifEqF, if_tt, if_ff, if_pos, if_neg, nLe, nLt, nEq, nInT, nCl, pk_mul, nI_add, Nat.reduceAdd, s_cat_nil, s_cat_i, s_cat_r, s_cat_f, s_cat_l, tl_s, tl_n, cat_i, cat_r, cat_f, nb0, nb1, nbI, if_bI, if_bIr, Nat.zero_le, Nat.reduceLeDiff]
  | succ q ih =>
    intro k v hk
    have ih := ih (k + 1) v (by omega)
    have e1 := fun Q => m_byteOf (d := d) (h := pM m h) (Q := Q) (a := a) (b := b) (c := c) (e := e) (f := f) (i := k) (by omega)
    rw [sumN] at ih
    rw [u_146_11]
    by_cases g : byK a b c e f k = nI 0
    · rw [show oneK a b c e f k = 0 from if_pos g] at ih
      rw [g] at e1
      simp (disch := omega) only [u_146_0, u_146_1, u_146_2, u_146_5, u_146_6, u_146_8, u_146_9, u_146_13, u_146_15, u_146_18, u_146_20, u_146_21, u_146_22, u_146_23, u_146_25, u_146_27, u_146_29, u_146_32, u_146_35, u_146_36, u_146_39, u_146_40, u_146_41, u_146_43, u_146_46, u_146_50, u_146_53, u_146_55, u_146_56, u_146_59, u_146_62, u_146_63, u_146_64, u_146_65, u_146_69, u_146_71, u_146_74, u_146_75, u_146_76, u_146_77, u_146_79, u_146_81, u_146_83, u_146_86, u_146_88, u_146_90, u_146_93, u_146_94, u_146_97, u_146_98, u_146_101, u_146_103, u_146_104, u_146_105, u_146_106, u_146_109, u_146_110, u_146_111, u_146_114, u_146_117, u_146_120, u_146_121, u_146_124, gI0, gIs, gR0, gRs, gF0, gFs, st0, st_i, st_r, st_f, st_n, st_s, true_and, and_true, ↓ifLeT, ↓ifLeF, ↓ifLtT, ↓ifLtF, ↓ifEqT, ↓ifEqF, if_tt, if_ff, if_pos, if_neg, nLe, nLt, nEq, nInT, nCl, pk_mul, nI_add, Nat.reduceAdd, s_cat_nil, s_cat_i, s_cat_r, s_cat_f, s_cat_l, tl_s, tl_n, cat_i, cat_r, cat_f, nb0, nb1, nbI, if_bI, if_bIr, Nat.zero_le, Nat.reduceLeDiff, e1]
      exact ih
    · rw [show oneK a b c e f k = 1 from if_neg g] at ih
      simp (disch := omega) only [u_146_0, u_146_1, u_146_2, u_146_5, u_146_6, u_146_8, u_146_9, u_146_13, u_146_15, u_146_18, u_146_20, u_146_21, u_146_22, u_146_23, u_146_25, u_146_27, u_146_29, u_146_32, u_146_35, u_146_36, u_146_39, u_146_40, u_146_41, u_146_43, u_146_46, u_146_50, u_146_53, u_146_55, u_146_56, u_146_59, u_146_62, u_146_63, u_146_64, u_146_65, u_146_69, u_146_71, u_146_74, u_146_75, u_146_76, u_146_77, u_146_79, u_146_81, u_146_83, u_146_86, u_146_88, u_146_90, u_146_93, u_146_94, u_146_97, u_146_98, u_146_101, u_146_103, u_146_104, u_146_105, u_146_106, u_146_109, u_146_110, u_146_111, u_146_114, u_146_117, u_146_120, u_146_121, u_146_124, gI0, gIs, gR0, gRs, gF0, gFs, st0, st_i, st_r, st_f, st_n, st_s, true_and, and_true, ↓ifLeT, ↓ifLeF, ↓ifLtT, ↓ifLtF, ↓ifEqT, ↓ifEqF, if_tt, if_ff, if_pos, if_neg, nLe, nLt, nEq, nInT, nCl, pk_mul, nI_add, Nat.reduceAdd, s_cat_nil, s_cat_i, s_cat_r, s_cat_f, s_cat_l, tl_s, tl_n, cat_i, cat_r, cat_f, nb0, nb1, nbI, if_bI, if_bIr, Nat.zero_le, Nat.reduceLeDiff, e1, g, reduceIte]
      exact ih
theorem fd_2 (hb : eN (zT z) 1 + sumN (oneK a b c e f) 20 ≤ 400) (K : ∀ m', RM m' (jT z (tpK a b c e f (zT z) 20)) → Q (some (.int (nI (eN (tpK a b c e f (zT z) 20) 1)))) (pM m' h)) : ∀ q k m (w : Int32) v, k + q = 20 → RM m (jT z (tpK a b c e f (zT z) k)) → eN (tpK a b c e f (zT z) k) 1 = eN (zT z) 1 + sumN (oneK a b c e f) k → WP (d + 1) 146 67 [.ref 317, .int a, .int b, .int c, .int e, .int f, .int w, .int (nI k), v] [] (pM m h) (0, 0) Q := by
  intro q
  induction q with
  | zero =>
    intro k m w v hk hm he
    have e : k = 20 := by omega
    subst e
    have t1 := hm.1.1
    have t1 : kI m 2 = nI (eN (tpK a b c e f (zT z) 20) 1) := t1
    rw [u_146_67]
    simp (disch := omega) only [u_146_0, u_146_1, u_146_2, u_146_5, u_146_6, u_146_8, u_146_9, u_146_13, u_146_15, u_146_18, u_146_20, u_146_21, u_146_22, u_146_23, u_146_25, u_146_27, u_146_29, u_146_32, u_146_35, u_146_36, u_146_39, u_146_40, u_146_41, u_146_43, u_146_46, u_146_49, u_146_50, u_146_53, u_146_55, u_146_56, u_146_59, u_146_62, u_146_63, u_146_64, u_146_65, u_146_69, u_146_71, u_146_74, u_146_75, u_146_76, u_146_77, u_146_79, u_146_81, u_146_83, u_146_86, u_146_88, u_146_90, u_146_93, u_146_94, u_146_97, u_146_98, u_146_101, u_146_103, u_146_104, u_146_105, u_146_106, u_146_109, u_146_110, u_146_111, u_146_114, u_146_117, u_146_120, u_146_121, u_146_124, gI0, gIs, gR0, gRs, gF0, gFs, st0, st_i, st_r, st_f, st_n, st_s, true_and, and_true, ↓ifLeT, ↓ifLeF, ↓ifLtT, ↓ifLtF, ↓ifEqT, ↓ifEqF, if_tt, if_ff, if_pos, if_neg, nLe, nLt, nEq, nInT, nCl, pk_mul, nI_add, Nat.reduceAdd, s_cat_nil, s_cat_i, s_cat_r, s_cat_f, s_cat_l, tl_s, tl_n, cat_i, cat_r, cat_f, nb0, nb1, nbI, if_bI, if_bIr, Nat.zero_le, Nat.reduceLeDiff, M_g0, M_g1, M_g2, M_g3, M_g4, M_g5, M_g6, M_g7, M_g8, M_g9, M_g10, M_g11, M_g12, M_g13, M_g14, M_g15, M_g16, M_g17, M_g18, M_g19, M_g20, M_g21, M_g22, M_g23, M_g24, M_g25, M_g26, M_g27, M_g28, M_g29, M_g30, M_g31, M_g32, M_g33, M_g34, M_g35, M_g36, M_g37, M_g38, M_g39, M_g40, M_g41, t1]
    exact K m hm
  | succ q ih =>
    intro k m w v hk hm he
    obtain ⟨⟨t1, t2, t3⟩, hq, ha, hi, hr⟩ := hm
    have t1 : kI m 2 = nI (eN (tpK a b c e f (zT z) k) 1) := t1
    have t2 : eN (tpK a b c e f (zT z) k) 1 ≤ 400 := t2
    have e1 := fun Q => m_byteOf (d := d) (h := pM m h) (Q := Q) (a := a) (b := b) (c := c) (e := e) (f := f) (i := k) (by omega)
    have sm := sum_mono (f := oneK a b c e f) (k := k + 1) (20 - (k + 1))
    rw [show k + 1 + (20 - (k + 1)) = 20 by omega, sumN] at sm
    rw [u_146_67]
    by_cases g : byK a b c e f k = nI 0
    · have o0 : oneK a b c e f k = 0 := if_pos g
      have et : tpK a b c e f (zT z) (k + 1) = tpK a b c e f (zT z) k := if_pos g
      rw [g] at e1
      simp (disch := omega) only [u_146_0, u_146_1, u_146_2, u_146_5, u_146_6, u_146_8, u_146_9, u_146_13, u_146_15, u_146_18, u_146_20, u_146_21, u_146_22, u_146_23, u_146_25, u_146_27, u_146_29, u_146_32, u_146_35, u_146_36, u_146_39, u_146_40, u_146_41, u_146_43, u_146_46, u_146_49, u_146_50, u_146_53, u_146_55, u_146_56, u_146_59, u_146_62, u_146_63, u_146_64, u_146_65, u_146_69, u_146_71, u_146_74, u_146_75, u_146_76, u_146_77, u_146_79, u_146_81, u_146_83, u_146_86, u_146_88, u_146_90, u_146_93, u_146_94, u_146_97, u_146_98, u_146_101, u_146_103, u_146_104, u_146_105, u_146_106, u_146_109, u_146_110, u_146_111, u_146_114, u_146_117, u_146_120, u_146_121, u_146_124, gI0, gIs, gR0, gRs, gF0, gFs, st0, st_i, st_r, st_f, st_n, st_s, true_and, and_true, ↓ifLeT, ↓ifLeF, ↓ifLtT, ↓ifLtF, ↓ifEqT, ↓ifEqF, if_tt, if_ff, if_pos, if_neg, nLe, nLt, nEq, nInT, nCl, pk_mul, nI_add, Nat.reduceAdd, s_cat_nil, s_cat_i, s_cat_r, s_cat_f, s_cat_l, tl_s, tl_n, cat_i, cat_r, cat_f, nb0, nb1, nbI, if_bI, if_bIr, Nat.zero_le, Nat.reduceLeDiff, e1]
      refine ih (k + 1) m _ _ (by omega) (by rw [et]; exact ⟨⟨t1, t2, t3⟩, hq, ha, hi, hr⟩) ?_
      rw [et, he, sumN, o0]
      rfl
    · have o1 : oneK a b c e f k = 1 := if_neg g
      have l4 : eN (tpK a b c e f (zT z) k) 1 < 400 := by omega
      have et : tpK a b c e f (zT z) (k + 1) = vN (vA (tpK a b c e f (zT z) k) 0 (upd (eA (tpK a b c e f (zT z) k) 0) (eN (tpK a b c e f (zT z) k) 1) (byK a b c e f k))) 1 (eN (tpK a b c e f (zT z) k) 1 + 1) := (if_neg g).trans (if_pos l4)
      have i1 : vp_in (nI (eN (tpK a b c e f (zT z) k) 1)) 400 := (nIn (by omega)).mpr l4
      have c1 : (nI (eN (tpK a b c e f (zT z) k) 1)).toNatClampNeg = eN (tpK a b c e f (zT z) k) 1 := nCl (by omega)
      simp (disch := omega) only [u_146_0, u_146_1, u_146_2, u_146_5, u_146_6, u_146_8, u_146_9, u_146_13, u_146_15, u_146_18, u_146_20, u_146_21, u_146_22, u_146_23, u_146_25, u_146_27, u_146_29, u_146_32, u_146_35, u_146_36, u_146_39, u_146_40, u_146_41, u_146_43, u_146_46, u_146_49, u_146_50, u_146_53, u_146_55, u_146_56, u_146_59, u_146_62, u_146_63, u_146_64, u_146_65, u_146_69, u_146_71, u_146_74, u_146_75, u_146_76, u_146_77, u_146_79, u_146_81, u_146_83, u_146_86, u_146_88, u_146_90, u_146_93, u_146_94, u_146_97, u_146_98, u_146_101, u_146_103, u_146_104, u_146_105, u_146_106, u_146_109, u_146_110, u_146_111, u_146_114, u_146_117, u_146_120, u_146_121, u_146_124, gI0, gIs, gR0, gRs, gF0, gFs, st0, st_i, st_r, st_f, st_n, st_s, true_and, and_true, ↓ifLeT, ↓ifLeF, ↓ifLtT, ↓ifLtF, ↓ifEqT, ↓ifEqF, if_tt, if_ff, if_pos, if_neg, nLe, nLt, nEq, nInT, nCl, pk_mul, nI_add, Nat.reduceAdd, s_cat_nil, s_cat_i, s_cat_r, s_cat_f, s_cat_l, tl_s, tl_n, cat_i, cat_r, cat_f, nb0, nb1, nbI, if_bI, if_bIr, Nat.zero_le, Nat.reduceLeDiff, M_g0, M_g1, M_g2, M_g3, M_g4, M_g5, M_g6, M_g7, M_g8, M_g9, M_g10, M_g11, M_g12, M_g13, M_g14, M_g15, M_g16, M_g17, M_g18, M_g19, M_g20, M_g21, M_g22, M_g23, M_g24, M_g25, M_g26, M_g27, M_g28, M_g29, M_g30, M_g31, M_g32, M_g33, M_g34, M_g35, M_g36, M_g37, M_g38, M_g39, M_g40, M_g41, M_w318, M_s2, kI_xI, kI_xB, kI_xA, kI_xV, kB_xI, kB_xB, kB_xA, kB_xV, kA_xI, kA_xB, kA_xA, kA_xV, kV_xI, kV_xB, kV_xA, kV_xV, Nat.reduceEqDiff, reduceIte, e1, g, t1, i1, c1]
      refine ih (k + 1) _ _ _ (by omega) ?_ ?_
      · refine ⟨⟨?_, ?_, fun j hj => ?_⟩, hq, ha, hi, hr⟩
        · rw [et]; rfl
        · rw [et]
          show eN (tpK a b c e f (zT z) k) 1 + 1 ≤ 400
          omega
        · rw [et] at hj ⊢
          have hj : j < eN (tpK a b c e f (zT z) k) 1 + 1 := hj
          show (if j = eN (tpK a b c e f (zT z) k) 1 then byK a b c e f k else kA m 318 j) = (if j = eN (tpK a b c e f (zT z) k) 1 then byK a b c e f k else eA (tpK a b c e f (zT z) k) 0 j) ∧ ∃ v, (if j = eN (tpK a b c e f (zT z) k) 1 then byK a b c e f k else eA (tpK a b c e f (zT z) k) 0 j) = nI v ∧ v < 256
          by_cases ej : j = eN (tpK a b c e f (zT z) k) 1
          · rw [if_pos ej, if_pos ej]
            exact ⟨rfl, by_lt⟩
          · rw [if_neg ej, if_neg ej]
            exact t3 j (by show j < eN (tpK a b c e f (zT z) k) 1; omega)
      · rw [et, sumN, o1]
        show eN (tpK a b c e f (zT z) k) 1 + 1 = _
        omega
theorem z_feed (hm : RM m z) (K : ∀ m', RM m' (zfeed z a b c e f).2 → Q (some (.int (zfeed z a b c e f).1)) (pM m' h)) : MT (d + 2) 146 [.ref 317, .int a, .int b, .int c, .int e, .int f] (pM m h) Q := by
  rw [MT_go (by decide) _ _ _ (Nat.le_of_ble_eq_true rfl), show s_entry 146 [.ref 317, .int a, .int b, .int c, .int e, .int f] = [.ref 317, .int a, .int b, .int c, .int e, .int f, s_no, s_no, s_no] from rfl]
  have hm0 := RM_0 (x := nI 0) hm
  have t1 : kI m 2 = nI (eN (zT z) 1) := hm.1.1
  have t2 := hm.1.2.1
  have lp := fd_1 (d := d) (m := xI m 0 (nI 0)) (h := h) (Q := Q) (a := a) (b := b) (c := c) (e := e) (f := f) 20 0 s_no rfl
  have lp : WP (d + 1) 146 11 [.ref 317, .int a, .int b, .int c, .int e, .int f, .int (nI 0), .int (nI 0), s_no] [] (pM (xI m 0 (nI 0)) h) (0, 0) Q ↔ _ := lp
  have os := one_sum (a := a) (b := b) (c := c) (e := e) (f := f)
  have b1 := bc_le (x := a)
  have b2 := bc_le (x := b)
  have b3 := bc_le (x := c)
  have b4 := bc_le (x := e)
  have b5 := bc_le (x := f)
  unfold zfeed fdF at K
  rw [← os] at K
  simp (disch := omega) only [u_146_0, u_146_1, u_146_2, u_146_5, u_146_6, u_146_8, u_146_9, gI0, gIs, gR0, gRs, gF0, gFs, st0, st_i, st_r, st_f, st_n, st_s, true_and, and_true, ↓ifLeT, ↓ifLeF, ↓ifLtT, ↓ifLtF, ↓ifEqT, ↓ifEqF, if_tt, if_ff, if_pos, if_neg, nLe, nLt, nEq, nInT, nCl, pk_mul, nI_add, Nat.reduceAdd, s_cat_nil, s_cat_i, s_cat_r, s_cat_f, s_cat_l, tl_s, tl_n, cat_i, cat_r, cat_f, nb0, nb1, nbI, if_bI, if_bIr, Nat.zero_le, Nat.reduceLeDiff, M_g0, M_g1, M_g2, M_g3, M_g4, M_g5, M_g6, M_g7, M_g8, M_g9, M_g10, M_g11, M_g12, M_g13, M_g14, M_g15, M_g16, M_g17, M_g18, M_g19, M_g20, M_g21, M_g22, M_g23, M_g24, M_g25, M_g26, M_g27, M_g28, M_g29, M_g30, M_g31, M_g32, M_g33, M_g34, M_g35, M_g36, M_g37, M_g38, M_g39, M_g40, M_g41, M_s0, kI_xI, kI_xB, kI_xA, kI_xV, kB_xI, kB_xB, kB_xA, kB_xV, kA_xI, kA_xB, kA_xA, kA_xV, kV_xI, kV_xB, kV_xA, kV_xV, Nat.reduceEqDiff, reduceIte]
  refine lp.mpr ?_
  by_cases hc : eN (zT z) 1 + sumN (oneK a b c e f) 20 ≤ 400
  · rw [decide_eq_true hc] at K
    simp only [if_true] at K
    simp (disch := omega) only [u_146_0, u_146_1, u_146_2, u_146_5, u_146_6, u_146_8, u_146_9, u_146_13, u_146_15, u_146_18, u_146_20, u_146_21, u_146_22, u_146_23, u_146_25, u_146_27, u_146_29, u_146_32, u_146_35, u_146_36, u_146_39, u_146_40, u_146_41, u_146_43, u_146_46, u_146_49, u_146_50, u_146_53, u_146_55, u_146_56, u_146_59, u_146_62, u_146_63, u_146_64, u_146_65, u_146_69, u_146_71, u_146_74, u_146_75, u_146_76, u_146_77, u_146_79, u_146_81, u_146_83, u_146_86, u_146_88, u_146_90, u_146_93, u_146_94, u_146_97, u_146_98, u_146_101, u_146_103, u_146_104, u_146_105, u_146_106, u_146_109, u_146_110, u_146_111, u_146_114, u_146_117, u_146_120, u_146_121, u_146_124, gI0, gIs, gR0, gRs, gF0, gFs, st0, st_i, st_r, st_f, st_n, st_s, true_and, and_true, ↓ifLeT, ↓ifLeF, ↓ifLtT, ↓ifLtF, ↓ifEqT, ↓ifEqF, if_tt, if_ff, if_pos, if_neg, nLe, nLt, nEq, nInT, nCl, pk_mul, nI_add, Nat.reduceAdd, s_cat_nil, s_cat_i, s_cat_r, s_cat_f, s_cat_l, tl_s, tl_n, cat_i, cat_r, cat_f, nb0, nb1, nbI, if_bI, if_bIr, Nat.zero_le, Nat.reduceLeDiff, M_g0, M_g1, M_g2, M_g3, M_g4, M_g5, M_g6, M_g7, M_g8, M_g9, M_g10, M_g11, M_g12, M_g13, M_g14, M_g15, M_g16, M_g17, M_g18, M_g19, M_g20, M_g21, M_g22, M_g23, M_g24, M_g25, M_g26, M_g27, M_g28, M_g29, M_g30, M_g31, M_g32, M_g33, M_g34, M_g35, M_g36, M_g37, M_g38, M_g39, M_g40, M_g41, kI_xI, kI_xB, kI_xA, kI_xV, kB_xI, kB_xB, kB_xA, kB_xV, kA_xI, kA_xB, kA_xA, kA_xV, kV_xI, kV_xB, kV_xA, kV_xV, Nat.reduceEqDiff, reduceIte, t1]
    exact fd_2 (d := d) hc K 20 0 _ _ _ rfl hm0 rfl
  · rw [decide_eq_false hc] at K
    simp only [Bool.false_eq_true, if_false] at K
    have g : ¬ nI (eN (zT z) 1 + sumN (oneK a b c e f) 20) ≤ nI 400 := nI_ge (by omega) (by omega)
    simp (disch := omega) only [u_146_0, u_146_1, u_146_2, u_146_5, u_146_6, u_146_8, u_146_9, u_146_13, u_146_15, u_146_18, u_146_20, u_146_21, u_146_22, u_146_23, u_146_25, u_146_27, u_146_29, u_146_32, u_146_35, u_146_36, u_146_39, u_146_40, u_146_41, u_146_43, u_146_46, u_146_49, u_146_50, u_146_53, u_146_55, u_146_56, u_146_59, u_146_62, u_146_63, u_146_64, u_146_65, u_146_69, u_146_71, u_146_74, u_146_75, u_146_76, u_146_77, u_146_79, u_146_81, u_146_83, u_146_86, u_146_88, u_146_90, u_146_93, u_146_94, u_146_97, u_146_98, u_146_101, u_146_103, u_146_104, u_146_105, u_146_106, u_146_109, u_146_110, u_146_111, u_146_114, u_146_117, u_146_120, u_146_121, u_146_124, gI0, gIs, gR0, gRs, gF0, gFs, st0, st_i, st_r, st_f, st_n, st_s, true_and, and_true, ↓ifLeT, ↓ifLeF, ↓ifLtT, ↓ifLtF, ↓ifEqT, ↓ifEqF, if_tt, if_ff, if_pos, if_neg, nLe, nLt, nEq, nInT, nCl, pk_mul, nI_add, Nat.reduceAdd, s_cat_nil, s_cat_i, s_cat_r, s_cat_f, s_cat_l, tl_s, tl_n, cat_i, cat_r, cat_f, nb0, nb1, nbI, if_bI, if_bIr, Nat.zero_le, Nat.reduceLeDiff, M_g0, M_g1, M_g2, M_g3, M_g4, M_g5, M_g6, M_g7, M_g8, M_g9, M_g10, M_g11, M_g12, M_g13, M_g14, M_g15, M_g16, M_g17, M_g18, M_g19, M_g20, M_g21, M_g22, M_g23, M_g24, M_g25, M_g26, M_g27, M_g28, M_g29, M_g30, M_g31, M_g32, M_g33, M_g34, M_g35, M_g36, M_g37, M_g38, M_g39, M_g40, M_g41, kI_xI, kI_xB, kI_xA, kI_xV, kB_xI, kB_xB, kB_xA, kB_xV, kA_xI, kA_xB, kA_xA, kA_xV, kV_xI, kV_xB, kV_xA, kV_xV, Nat.reduceEqDiff, reduceIte, t1, g]
    exact K _ hm0
end MFD
