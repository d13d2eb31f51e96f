/-! Yard: BOUND -/
theorem sw_c {f : Nat → Prop} {x : Int32} {t j df : Nat} {ts : List Nat} : s_sw f x (t :: ts) j df ↔ if x = nI j then f t else s_sw f x ts (j + 1) df := Iff.rfl
theorem sw_n {f : Nat → Prop} {x : Int32} {j df : Nat} : s_sw f x [] j df ↔ f df := Iff.rfl
section YO
variable {a d : Nat} {y : tY} {h : sH} {k : sK} {Q : sQ} {i x : Int32}
def boW (what row share crowd : Int32) : Int32 := if what = nI 1 then row else if what = nI 2 then share else if what = nI 3 then crowd else mx row (mx share crowd)
def ableY (y : tY) : Int32 := nI (yC y) - bcI (yB y 5)
def shareY (y : tY) : Int32 := (lwY y (nI 0) (yB y 0) + ableY y - nI 1) / ableY y
def boY (y : tY) (g B : Nat) (what : Int32) : Int32 := if leftY y = nI 0 then nI 0 else if nI 1 ≤ ableY y then boW what (rowsY y) (shareY y) (crowdY y (min g B) B) else -1
theorem mn_n {x z : Nat} (hx : x < 2 ^ 31) (hz : z < 2 ^ 31) : mn (nI x) (nI z) = nI (min x z) := by
  unfold mn
  by_cases e : z < x
  · rw [if_pos ((nLt hz hx).mpr e), Nat.min_eq_right (by omega)]
  · rw [if_neg (fun q => e ((nLt hz hx).mp q)), Nat.min_eq_left (by omega)]
theorem mx_n {x z : Nat} (hx : x < 2 ^ 31) (hz : z < 2 ^ 31) : mx (nI x) (nI z) = nI (max x z) := by
  unfold mx
  by_cases e : x < z
  · rw [if_pos ((nLt hx hz).mpr e), Nat.max_eq_right (by omega)]
  · rw [if_neg (fun q => e ((nLt hx hz).mp q)), Nat.max_eq_left (by omega)]
theorem mnN {x z : Nat} : (if z < x then nI z else nI x) = nI (min x z) := by
  by_cases e : z < x
  · rw [if_pos e, Nat.min_eq_right (by omega)]
  · rw [if_neg e, Nat.min_eq_left (by omega)]
theorem mxN {x z : Nat} : (if x < z then nI z else nI x) = nI (max x z) := by
  by_cases e : x < z
  · rw [if_pos e, Nat.max_eq_right (by omega)]
  · rw [if_neg e, Nat.max_eq_left (by omega)]
theorem m_boundOf {g B : Nat} {what : Int32} (hT : yT y ≤ 8) (hB : yB y 0 = nI B) (hg : yB y 1 = nI g) (hl : B < 2 ^ 20) (hgl : g < 2 ^ 20) : MT (d + 10) 79 [.ref a, .int what] (pY a y h) Q ↔ Q (some (.int (boY y g B what))) (pY a y h) := by
  rw [MT_go (by decide) _ _ _ (Nat.le_of_ble_eq_true rfl), show s_entry 79 [.ref a, .int what] = [.ref a, .int what, s_no, s_no, s_no, s_no] from rfl]
  simp (disch := omega) only [u_79_0, u_79_1, u_79_4, gI0, gIs, gR0, gRs, gF0, gFs, st0, st_i, st_r, st_f, st_n, st_s, true_and, and_true, ↓ifLeT, ↓ifLeF, ↓ifLtT, ↓ifLtF, ↓ifEqT, ↓ifEqF, if_tt, if_ff, if_pos, if_neg, nLe, nLt, nEq, nInT, nCl, pk_mul, nI_add, Nat.reduceAdd, s_cat_nil, s_cat_i, s_cat_r, s_cat_f, s_cat_l, tl_s, tl_n, cat_i, cat_r, cat_f, nb0, nb1, nbI, if_bI, if_bIr, Nat.zero_le, Nat.reduceLeDiff, Y_g0, Y_g1, Y_g2, Y_g3, Y_g4, Y_g5, Y_g6, Y_g7, Y_g8, Y_g9, Y_g10, Y_g11, Y_g12, Y_g13, Y_g14, Y_g15, Y_g16, Y_g17, Y_g18, Y_g19, Y_ob, m_leftBits]
  unfold boY
  by_cases h0 : leftY y = nI 0
  · rw [if_pos h0, if_pos h0]
    simp (disch := omega) only [u_79_7, u_79_8, gI0, gIs, gR0, gRs, gF0, gFs, st0, st_i, st_r, st_f, st_n, st_s, true_and, and_true, ↓ifLeT, ↓ifLeF, ↓ifLtT, ↓ifLtF, ↓ifEqT, ↓ifEqF, if_tt, if_ff, if_pos, if_neg, nLe, nLt, nEq, nInT, nCl, pk_mul, nI_add, Nat.reduceAdd, s_cat_nil, s_cat_i, s_cat_r, s_cat_f, s_cat_l, tl_s, tl_n, cat_i, cat_r, cat_f, nb0, nb1, nbI, if_bI, if_bIr, Nat.zero_le, Nat.reduceLeDiff]
  · rw [if_neg h0, if_neg h0]
    simp (disch := omega) only [u_79_9, u_79_10, u_79_13, u_79_14, u_79_17, u_79_20, u_79_21, u_79_22, u_79_23, u_79_24, gI0, gIs, gR0, gRs, gF0, gFs, st0, st_i, st_r, st_f, st_n, st_s, true_and, and_true, ↓ifLeT, ↓ifLeF, ↓ifLtT, ↓ifLtF, ↓ifEqT, ↓ifEqF, if_tt, if_ff, if_pos, if_neg, nLe, nLt, nEq, nInT, nCl, pk_mul, nI_add, Nat.reduceAdd, s_cat_nil, s_cat_i, s_cat_r, s_cat_f, s_cat_l, tl_s, tl_n, cat_i, cat_r, cat_f, nb0, nb1, nbI, if_bI, if_bIr, Nat.zero_le, Nat.reduceLeDiff, Y_g0, Y_g1, Y_g2, Y_g3, Y_g4, Y_g5, Y_g6, Y_g7, Y_g8, Y_g9, Y_g10, Y_g11, Y_g12, Y_g13, Y_g14, Y_g15, Y_g16, Y_g17, Y_g18, Y_g19, m_bitCountI]
    have e : nI (yC y) - bcI (yB y 5) = ableY y := rfl
    rw [e]
    by_cases h1 : nI 1 ≤ ableY y
    · rw [if_pos h1, if_pos h1]
      have h2 : ¬ ableY y = 0 := fun z => by rw [z] at h1; exact absurd h1 (by decide)
      have hw : min g B ≤ B + 1 := by omega
      simp (disch := omega) only [u_79_29, u_79_30, u_79_33, u_79_34, u_79_35, u_79_36, u_79_37, u_79_40, u_79_43, u_79_44, u_79_45, u_79_46, u_79_47, u_79_48, u_79_49, u_79_51, u_79_52, u_79_53, u_79_56, u_79_57, u_79_60, u_79_63, u_79_66, u_79_68, u_79_69, u_79_96, u_79_97, u_79_98, u_79_100, u_79_101, u_79_103, u_79_104, u_79_105, u_79_107, u_79_109, u_79_112, u_79_115, gI0, gIs, gR0, gRs, gF0, gFs, st0, st_i, st_r, st_f, st_n, st_s, true_and, and_true, ↓ifLeT, ↓ifLeF, ↓ifLtT, ↓ifLtF, ↓ifEqT, ↓ifEqF, if_tt, if_ff, if_pos, if_neg, nLe, nLt, nEq, nInT, nCl, pk_mul, nI_add, Nat.reduceAdd, s_cat_nil, s_cat_i, s_cat_r, s_cat_f, s_cat_l, tl_s, tl_n, cat_i, cat_r, cat_f, nb0, nb1, nbI, if_bI, if_bIr, Nat.zero_le, Nat.reduceLeDiff, Y_g0, Y_g1, Y_g2, Y_g3, Y_g4, Y_g5, Y_g6, Y_g7, Y_g8, Y_g9, Y_g10, Y_g11, Y_g12, Y_g13, Y_g14, Y_g15, Y_g16, Y_g17, Y_g18, Y_g19, Y_ob, m_longestRow hT, m_leftWithin hT, e, h2, not_false_eq_true, hB, hg, mx_d, mnN, m_busiestBays hT hB hl hw, sw_c, sw_n]
      unfold boW shareY
      rw [hB]
      by_cases c1 : what = nI 1
      · rw [if_pos c1, if_pos c1]
      · rw [if_neg c1, if_neg c1]
        by_cases c2 : what = nI 2
        · rw [if_pos c2, if_pos c2]
        · rw [if_neg c2, if_neg c2]
          by_cases c3 : what = nI 3
          · rw [if_pos c3, if_pos c3]
          · rw [if_neg c3, if_neg c3]
    · rw [if_neg h1, if_neg h1]
      simp (disch := omega) only [u_79_27, u_79_28, gI0, gIs, gR0, gRs, gF0, gFs, st0, st_i, st_r, st_f, st_n, st_s, true_and, and_true, ↓ifLeT, ↓ifLeF, ↓ifLtT, ↓ifLtF, ↓ifEqT, ↓ifEqF, if_tt, if_ff, if_pos, if_neg, nLe, nLt, nEq, nInT, nCl, pk_mul, nI_add, Nat.reduceAdd, s_cat_nil, s_cat_i, s_cat_r, s_cat_f, s_cat_l, tl_s, tl_n, cat_i, cat_r, cat_f, nb0, nb1, nbI, if_bI, if_bIr, Nat.zero_le, Nat.reduceLeDiff]
end YO
