/-! the bits of a mean, by hand -/
def n64 (x : UInt64) : Bool := decide (x &&& 0x7fffffffffffffff ≤ 0x7ff0000000000000)
theorem n64_ok {x : UInt64} (h : n64 x = true) : vf_n64 x := by
  unfold vf_n64
  exact of_decide_eq_true h
def bdC (x : UInt64) (P : Int32) : Option Int64 :=
  if nI 0 ≤ Op.cmpValue (FP.dcmp x FP.dconst1) .g then
    (if n64 (FP.dsub x FP.dconst1) && n64 (FP.dmul (FP.dsub x FP.dconst1) 4841369599423283200) then some ((P + nI 1023).toInt64 <<< ((nI 52).toInt64 &&& 63) ||| FP.d2l (FP.dmul (FP.dsub x FP.dconst1) 4841369599423283200)) else none)
  else if n64 (FP.dmul x 4841369599423283200) then some (FP.d2l (FP.dmul x 4841369599423283200)) else none
def bdB : Nat → UInt64 → Int32 → Option Int64
  | 0, _, _ => none
  | f + 1, x, P => if nI 0 ≤ Op.cmpValue (FP.dcmp x FP.dconst1) .g then bdC x P else if P ≤ -1022 then bdC x P else if n64 (FP.dmul x 4611686018427387904) then bdB f (FP.dmul x 4611686018427387904) (P + (-1)) else none
def bdA : Nat → UInt64 → Int32 → Option Int64
  | 0, _, _ => none
  | f + 1, x, P => if Op.cmpValue (FP.dcmp x 4611686018427387904) .l < nI 0 then bdB 1030 x P else if n64 (FP.dmul x 4602678819172646912) then bdA f (FP.dmul x 4602678819172646912) (P + nI 1) else none
section BD
variable {d : Nat} {h : sH} {k : sK} {Q : sQ} {u : UInt64} {x0 : UInt64} {v5 : Value}
theorem st2_2 {a b : UInt64} {c e f g : Value} : s_st2 [.double a, s_no, c, e, f, g] 2 (.double b) = [.double a, s_no, .double b, s_no, f, g] := rfl
theorem bd_c {P : Int32} {v : Int64} (hv : bdC u P = some v) : WP d 141 79 [.double x0, s_no, .double u, s_no, .int P, v5] [] h k Q ↔ Q (some (.long v)) h := by
  unfold bdC at hv
  by_cases g : nI 0 ≤ Op.cmpValue (FP.dcmp u FP.dconst1) .g
  · rw [if_pos g] at hv
    split at hv
    · rename_i hc
      rw [Bool.and_eq_true] at hc
      cases hv
      simp (disch := omega) only [u_141_0, u_141_1, u_141_2, u_141_3, u_141_5, u_141_6, u_141_10, u_141_13, u_141_16, u_141_17, u_141_20, u_141_21, u_141_24, u_141_25, u_141_28, u_141_29, u_141_30, u_141_33, u_141_36, u_141_39, u_141_40, u_141_44, u_141_47, u_141_50, u_141_51, u_141_52, u_141_53, u_141_56, u_141_58, u_141_61, u_141_64, u_141_65, u_141_68, u_141_69, u_141_70, u_141_73, u_141_76, u_141_79, u_141_80, u_141_81, u_141_82, u_141_85, u_141_86, u_141_89, u_141_90, u_141_91, u_141_92, u_141_94, u_141_97, u_141_98, u_141_99, u_141_101, u_141_102, u_141_103, u_141_104, u_141_105, u_141_108, u_141_109, u_141_110, u_141_111, gI0, gIs, gR0, gRs, gF0, gFs, st0, st_i, st_r, st_f, st_n, st_s, true_and, and_true, ↓ifLeT, ↓ifLeF, ↓ifLtT, ↓ifLtF, ↓ifEqT, ↓ifEqF, if_tt, if_ff, if_pos, if_neg, nLe, nLt, nEq, nInT, nCl, pk_mul, nI_add, Nat.reduceAdd, s_cat_nil, s_cat_i, s_cat_r, s_cat_f, s_cat_l, tl_s, tl_n, cat_i, cat_r, cat_f, nb0, nb1, nbI, if_bI, if_bIr, Nat.zero_le, Nat.reduceLeDiff, gD0, gDs, g, n64_ok hc.1, n64_ok hc.2]
    · cases hv
  · rw [if_neg g] at hv
    split at hv
    · rename_i hc
      cases hv
      simp (disch := omega) only [u_141_0, u_141_1, u_141_2, u_141_3, u_141_5, u_141_6, u_141_10, u_141_13, u_141_16, u_141_17, u_141_20, u_141_21, u_141_24, u_141_25, u_141_28, u_141_29, u_141_30, u_141_33, u_141_36, u_141_39, u_141_40, u_141_44, u_141_47, u_141_50, u_141_51, u_141_52, u_141_53, u_141_56, u_141_58, u_141_61, u_141_64, u_141_65, u_141_68, u_141_69, u_141_70, u_141_73, u_141_76, u_141_79, u_141_80, u_141_81, u_141_82, u_141_85, u_141_86, u_141_89, u_141_90, u_141_91, u_141_92, u_141_94, u_141_97, u_141_98, u_141_99, u_141_101, u_141_102, u_141_103, u_141_104, u_141_105, u_141_108, u_141_109, u_141_110, u_141_111, gI0, gIs, gR0, gRs, gF0, gFs, st0, st_i, st_r, st_f, st_n, st_s, true_and, and_true, ↓ifLeT, ↓ifLeF, ↓ifLtT, ↓ifLtF, ↓ifEqT, ↓ifEqF, if_tt, if_ff, if_pos, if_neg, nLe, nLt, nEq, nInT, nCl, pk_mul, nI_add, Nat.reduceAdd, s_cat_nil, s_cat_i, s_cat_r, s_cat_f, s_cat_l, tl_s, tl_n, cat_i, cat_r, cat_f, nb0, nb1, nbI, if_bI, if_bIr, Nat.zero_le, Nat.reduceLeDiff, gD0, gDs, g, n64_ok hc]
    · cases hv
theorem bd_b {v : Int64} : ∀ f u P j, bdB f u P = some v → j + f ≤ 1100 → (WP d 141 42 [.double x0, s_no, .double u, s_no, .int P, .int (nI j)] [] h k Q ↔ Q (some (.long v)) h) := by
  intro f
  induction f with
  | zero => intro u P j hv; cases hv
  | succ f ih =>
    intro u P j hv hj
    rw [bdB] at hv
    rw [u_141_42]
    by_cases g : nI 0 ≤ Op.cmpValue (FP.dcmp u FP.dconst1) .g
    · rw [if_pos g] at hv
      simp (disch := omega) only [u_141_0, u_141_1, u_141_2, u_141_3, u_141_5, u_141_6, u_141_10, u_141_13, u_141_16, u_141_17, u_141_20, u_141_21, u_141_24, u_141_25, u_141_28, u_141_29, u_141_30, u_141_33, u_141_36, u_141_39, u_141_40, u_141_44, u_141_47, u_141_50, u_141_51, u_141_52, u_141_53, u_141_56, u_141_58, u_141_61, u_141_64, u_141_65, u_141_68, u_141_69, u_141_70, u_141_73, u_141_76, u_141_80, u_141_81, u_141_82, u_141_85, u_141_86, u_141_89, u_141_90, u_141_91, u_141_92, u_141_94, u_141_97, u_141_98, u_141_99, u_141_101, u_141_102, u_141_103, u_141_104, u_141_105, u_141_108, u_141_109, u_141_110, u_141_111, gI0, gIs, gR0, gRs, gF0, gFs, st0, st_i, st_r, st_f, st_n, st_s, true_and, and_true, ↓ifLeT, ↓ifLeF, ↓ifLtT, ↓ifLtF, ↓ifEqT, ↓ifEqF, if_tt, if_ff, if_pos, if_neg, nLe, nLt, nEq, nInT, nCl, pk_mul, nI_add, Nat.reduceAdd, s_cat_nil, s_cat_i, s_cat_r, s_cat_f, s_cat_l, tl_s, tl_n, cat_i, cat_r, cat_f, nb0, nb1, nbI, if_bI, if_bIr, Nat.zero_le, Nat.reduceLeDiff, gD0, gDs, g, bd_c hv]
    · rw [if_neg g] at hv
      by_cases l : P ≤ -1022
      · rw [if_pos l] at hv
        simp (disch := omega) only [u_141_0, u_141_1, u_141_2, u_141_3, u_141_5, u_141_6, u_141_10, u_141_13, u_141_16, u_141_17, u_141_20, u_141_21, u_141_24, u_141_25, u_141_28, u_141_29, u_141_30, u_141_33, u_141_36, u_141_39, u_141_40, u_141_44, u_141_47, u_141_50, u_141_51, u_141_52, u_141_53, u_141_56, u_141_58, u_141_61, u_141_64, u_141_65, u_141_68, u_141_69, u_141_70, u_141_73, u_141_76, u_141_80, u_141_81, u_141_82, u_141_85, u_141_86, u_141_89, u_141_90, u_141_91, u_141_92, u_141_94, u_141_97, u_141_98, u_141_99, u_141_101, u_141_102, u_141_103, u_141_104, u_141_105, u_141_108, u_141_109, u_141_110, u_141_111, gI0, gIs, gR0, gRs, gF0, gFs, st0, st_i, st_r, st_f, st_n, st_s, true_and, and_true, ↓ifLeT, ↓ifLeF, ↓ifLtT, ↓ifLtF, ↓ifEqT, ↓ifEqF, if_tt, if_ff, if_pos, if_neg, nLe, nLt, nEq, nInT, nCl, pk_mul, nI_add, Nat.reduceAdd, s_cat_nil, s_cat_i, s_cat_r, s_cat_f, s_cat_l, tl_s, tl_n, cat_i, cat_r, cat_f, nb0, nb1, nbI, if_bI, if_bIr, Nat.zero_le, Nat.reduceLeDiff, gD0, gDs, g, l, bd_c hv]
      · rw [if_neg l] at hv
        split at hv
        · rename_i hc
          have ih := ih _ _ (j + 1) hv (by omega)
          simp (disch := omega) only [u_141_0, u_141_1, u_141_2, u_141_3, u_141_5, u_141_6, u_141_10, u_141_13, u_141_16, u_141_17, u_141_20, u_141_21, u_141_24, u_141_25, u_141_28, u_141_29, u_141_30, u_141_33, u_141_36, u_141_39, u_141_40, u_141_44, u_141_47, u_141_50, u_141_51, u_141_52, u_141_53, u_141_56, u_141_58, u_141_61, u_141_64, u_141_65, u_141_68, u_141_69, u_141_70, u_141_73, u_141_76, u_141_80, u_141_81, u_141_82, u_141_85, u_141_86, u_141_89, u_141_90, u_141_91, u_141_92, u_141_94, u_141_97, u_141_98, u_141_99, u_141_101, u_141_102, u_141_103, u_141_104, u_141_105, u_141_108, u_141_109, u_141_110, u_141_111, gI0, gIs, gR0, gRs, gF0, gFs, st0, st_i, st_r, st_f, st_n, st_s, true_and, and_true, ↓ifLeT, ↓ifLeF, ↓ifLtT, ↓ifLtF, ↓ifEqT, ↓ifEqF, if_tt, if_ff, if_pos, if_neg, nLe, nLt, nEq, nInT, nCl, pk_mul, nI_add, Nat.reduceAdd, s_cat_nil, s_cat_i, s_cat_r, s_cat_f, s_cat_l, tl_s, tl_n, cat_i, cat_r, cat_f, nb0, nb1, nbI, if_bI, if_bIr, Nat.zero_le, Nat.reduceLeDiff, gD0, gDs, st2_2, g, l, n64_ok hc, ih]
        · cases hv
theorem bd_a {v : Int64} : ∀ f u P j, bdA f u P = some v → j + f ≤ 1100 → (WP d 141 8 [.double x0, s_no, .double u, s_no, .int P, .int (nI j)] [] h k Q ↔ Q (some (.long v)) h) := by
  intro f
  induction f with
  | zero => intro u P j hv; cases hv
  | succ f ih =>
    intro u P j hv hj
    rw [bdA] at hv
    rw [u_141_8]
    by_cases g : Op.cmpValue (FP.dcmp u 4611686018427387904) .l < nI 0
    · rw [if_pos g] at hv
      simp (disch := omega) only [u_141_0, u_141_1, u_141_2, u_141_3, u_141_5, u_141_6, u_141_10, u_141_13, u_141_16, u_141_17, u_141_20, u_141_21, u_141_24, u_141_25, u_141_28, u_141_29, u_141_30, u_141_33, u_141_36, u_141_39, u_141_40, u_141_44, u_141_47, u_141_50, u_141_51, u_141_52, u_141_53, u_141_56, u_141_58, u_141_61, u_141_64, u_141_65, u_141_68, u_141_69, u_141_70, u_141_73, u_141_76, u_141_79, u_141_80, u_141_81, u_141_82, u_141_85, u_141_86, u_141_89, u_141_90, u_141_91, u_141_92, u_141_94, u_141_97, u_141_98, u_141_99, u_141_101, u_141_102, u_141_103, u_141_104, u_141_105, u_141_108, u_141_109, u_141_110, u_141_111, gI0, gIs, gR0, gRs, gF0, gFs, st0, st_i, st_r, st_f, st_n, st_s, true_and, and_true, ↓ifLeT, ↓ifLeF, ↓ifLtT, ↓ifLtF, ↓ifEqT, ↓ifEqF, if_tt, if_ff, if_pos, if_neg, nLe, nLt, nEq, nInT, nCl, pk_mul, nI_add, Nat.reduceAdd, s_cat_nil, s_cat_i, s_cat_r, s_cat_f, s_cat_l, tl_s, tl_n, cat_i, cat_r, cat_f, nb0, nb1, nbI, if_bI, if_bIr, Nat.zero_le, Nat.reduceLeDiff, gD0, gDs, g, bd_b 1030 u P 0 hv (by decide)]
    · rw [if_neg g] at hv
      split at hv
      · rename_i hc
        have ih := ih _ _ (j + 1) hv (by omega)
        simp (disch := omega) only [u_141_0, u_141_1, u_141_2, u_141_3, u_141_5, u_141_6, u_141_10, u_141_13, u_141_16, u_141_17, u_141_20, u_141_21, u_141_24, u_141_25, u_141_28, u_141_29, u_141_30, u_141_33, u_141_36, u_141_39, u_141_40, u_141_44, u_141_47, u_141_50, u_141_51, u_141_52, u_141_53, u_141_56, u_141_58, u_141_61, u_141_64, u_141_65, u_141_68, u_141_69, u_141_70, u_141_73, u_141_76, u_141_79, u_141_80, u_141_81, u_141_82, u_141_85, u_141_86, u_141_89, u_141_90, u_141_91, u_141_92, u_141_94, u_141_97, u_141_98, u_141_99, u_141_101, u_141_102, u_141_103, u_141_104, u_141_105, u_141_108, u_141_109, u_141_110, u_141_111, gI0, gIs, gR0, gRs, gF0, gFs, st0, st_i, st_r, st_f, st_n, st_s, true_and, and_true, ↓ifLeT, ↓ifLeF, ↓ifLtT, ↓ifLtF, ↓ifEqT, ↓ifEqF, if_tt, if_ff, if_pos, if_neg, nLe, nLt, nEq, nInT, nCl, pk_mul, nI_add, Nat.reduceAdd, s_cat_nil, s_cat_i, s_cat_r, s_cat_f, s_cat_l, tl_s, tl_n, cat_i, cat_r, cat_f, nb0, nb1, nbI, if_bI, if_bIr, Nat.zero_le, Nat.reduceLeDiff, gD0, gDs, st2_2, g, n64_ok hc, ih]
      · cases hv
theorem m_bitsOfDouble {v : Int64} (hv : bdA 12 u (nI 0) = some v) : MT (d + 1) 141 [.double u] h Q ↔ Q (some (.long v)) h := by
  rw [MT_go (by decide) _ _ _ (Nat.le_of_ble_eq_true rfl), show s_entry 141 [.double u] = [.double u, s_no, s_no, s_no, s_no, s_no] from rfl]
  have e := bd_a (d := d) (h := h) (k := (0, 0)) (Q := Q) (x0 := u) 12 u (nI 0) 0 hv (by decide)
  have st : s_st2 [.double u, s_no, s_no, s_no, s_no, s_no] 2 (.double u) = [.double u, s_no, .double u, s_no, s_no, s_no] := rfl
  simp (disch := omega) only [u_141_0, u_141_1, u_141_2, u_141_3, u_141_5, u_141_6, u_141_10, u_141_13, u_141_16, u_141_17, u_141_20, u_141_21, u_141_24, u_141_25, u_141_28, u_141_29, u_141_30, u_141_33, u_141_36, u_141_39, u_141_40, u_141_44, u_141_47, u_141_50, u_141_51, u_141_52, u_141_53, u_141_56, u_141_58, u_141_61, u_141_64, u_141_65, u_141_68, u_141_69, u_141_70, u_141_73, u_141_76, u_141_79, u_141_80, u_141_81, u_141_82, u_141_85, u_141_86, u_141_89, u_141_90, u_141_91, u_141_92, u_141_94, u_141_97, u_141_98, u_141_99, u_141_101, u_141_102, u_141_103, u_141_104, u_141_105, u_141_108, u_141_109, u_141_110, u_141_111, gI0, gIs, gR0, gRs, gF0, gFs, st0, st_i, st_r, st_f, st_n, st_s, true_and, and_true, ↓ifLeT, ↓ifLeF, ↓ifLtT, ↓ifLtF, ↓ifEqT, ↓ifEqF, if_tt, if_ff, if_pos, if_neg, nLe, nLt, nEq, nInT, nCl, pk_mul, nI_add, Nat.reduceAdd, s_cat_nil, s_cat_i, s_cat_r, s_cat_f, s_cat_l, tl_s, tl_n, cat_i, cat_r, cat_f, nb0, nb1, nbI, if_bI, if_bIr, Nat.zero_le, Nat.reduceLeDiff, gD0, gDs, st, e]
end BD
