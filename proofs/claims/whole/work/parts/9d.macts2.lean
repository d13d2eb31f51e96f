/-! the reference's breaks, more, undo, image, back, end -/
theorem upd_ne {f : Nat → Int32} {k j : Nat} {x : Int32} (h : j ≠ k) : upd f k x j = f j := if_neg h
theorem RR_K2 {f : Nat → Int32} {n : tN} {j : Nat} {v : Bool} (h4 : nF n 2 ≤ 4) (hl : ∀ c, (nL n c).length ≤ 8) (hr : RR f n) (hj : j < nF n 2) : RR (upd f (2 + 12 * j + 1) (iB v)) (jK n (set1 (nK n) j v)) := by
  obtain ⟨r0, r1, rc, rt⟩ := hr
  refine ⟨(if_neg (by omega)).trans r0, (if_neg (by omega)).trans r1, fun c hc => ?_, fun t ht => ?_⟩
  · have hc : c < nF n 2 := hc
    obtain ⟨a, b, d, e, k⟩ := rc c hc
    have l8 := hl c
    refine ⟨(if_neg (by omega)).trans a, ?_, (if_neg (by omega)).trans d, (if_neg (by omega)).trans e, fun q hq => (if_neg (by have hq : q < (nL n c).length := hq; omega)).trans (k q hq)⟩
    show (if 2 + 12 * c + 1 = 2 + 12 * j + 1 then iB v else f (2 + 12 * c + 1)) = iB (if c = j then v else nK n c)
    by_cases e : c = j
    · rw [if_pos (by omega), if_pos e]
    · rw [if_neg (by omega), if_neg e]; exact b
  · have ht : t < nF n 3 := ht
    obtain ⟨a, b, d, e, k, l, m⟩ := rt t ht
    exact ⟨(if_neg (by omega)).trans a, (if_neg (by omega)).trans b, (if_neg (by omega)).trans d, (if_neg (by omega)).trans e, (if_neg (by omega)).trans k, (if_neg (by omega)).trans l, (if_neg (by omega)).trans m⟩
theorem bits_one {u : Nat} (hu : u < 8) : bitsN (fun i => decide (some u = some i)) 8 = 2 ^ u := (bitsN_eq (Nat.pow_lt_pow_right (by decide) hu) fun i hi => by
  rw [Nat.testBit_two_pow]
  exact decide_eq_decide.mpr ⟨fun e => by rw [e], fun e => Option.some.inj e⟩).symm
theorem RR_more {f : Nat → Int32} {n : tN} {b t v : Nat} {a : Option Nat} {x : Int32} (h4 : nF n 2 ≤ 4) (hl : ∀ c, (nL n c).length ≤ 8) (hr : RR f n) (hx : x = nI (bitsN (fun u => decide (a = some u)) 8)) : RR (upd (upd (upd (upd (upd (upd (upd (upd f (50 + 7 * nF n 3 + 0) (nI b)) (50 + 7 * nF n 3 + 1) (nI t)) (50 + 7 * nF n 3 + 2) (nI v)) (50 + 7 * nF n 3 + 3) x) (50 + 7 * nF n 3 + 4) (nI 0)) (50 + 7 * nF n 3 + 5) (-1)) (50 + 7 * nF n 3 + 6) (-1)) 1 (nI (nF n 3 + 1))) (moreN n b t v a) := by
  have lo : ∀ i, i ≠ 1 → i < 50 + 7 * nF n 3 → upd (upd (upd (upd (upd (upd (upd (upd f (50 + 7 * nF n 3 + 0) (nI b)) (50 + 7 * nF n 3 + 1) (nI t)) (50 + 7 * nF n 3 + 2) (nI v)) (50 + 7 * nF n 3 + 3) x) (50 + 7 * nF n 3 + 4) (nI 0)) (50 + 7 * nF n 3 + 5) (-1)) (50 + 7 * nF n 3 + 6) (-1)) 1 (nI (nF n 3 + 1)) i = f i := fun i h1 h2 => by
    rw [upd_ne h1, upd_ne (by omega), upd_ne (by omega), upd_ne (by omega), upd_ne (by omega), upd_ne (by omega), upd_ne (by omega), upd_ne (by omega)]
  obtain ⟨r0, r1, rc, rt⟩ := hr
  refine ⟨?_, if_pos rfl, fun c hc => ?_, fun u hu => ?_⟩
  · rw [lo 0 (by decide) (by omega)]; exact r0
  · have hc : c < nF n 2 := hc
    obtain ⟨a1, b1, d1, e1, k1⟩ := rc c hc
    have l8 := hl c
    unfold RRc
    rw [lo _ (by omega) (by omega), lo _ (by omega) (by omega), lo _ (by omega) (by omega), lo _ (by omega) (by omega)]
    refine ⟨a1, b1, d1, e1, fun q hq => ?_⟩
    have hq : q < (nL n c).length := hq
    rw [lo _ (by omega) (by omega)]
    exact k1 q hq
  · have hu : u < nF n 3 + 1 := hu
    by_cases e : u = nF n 3
    · subst e
      unfold RRt
      have n12 : nA (moreN n b t v a) 12 (nF n 3) = b := if_pos rfl
      have n13 : nA (moreN n b t v a) 13 (nF n 3) = t := if_pos rfl
      have n14 : nA (moreN n b t v a) 14 (nF n 3) = v := if_pos rfl
      have n16 : nA (moreN n b t v a) 16 (nF n 3) = 0 := if_pos rfl
      have nv : nV (moreN n b t v a) (nF n 3) = fun u => decide (a = some u) := if_pos rfl
      have n17 : nX (moreN n b t v a) 17 (nF n 3) = -1 := if_pos rfl
      have n18 : nX (moreN n b t v a) 18 (nF n 3) = -1 := if_pos rfl
      rw [n12, n13, n14, n16, nv, n17, n18]
      refine ⟨?_, ?_, ?_, ?_, ?_, ?_, ?_⟩
      · rw [upd_ne (by omega), upd_ne (by omega), upd_ne (by omega), upd_ne (by omega), upd_ne (by omega), upd_ne (by omega), upd_ne (by omega)]; exact if_pos rfl
      · rw [upd_ne (by omega), upd_ne (by omega), upd_ne (by omega), upd_ne (by omega), upd_ne (by omega), upd_ne (by omega)]; exact if_pos rfl
      · rw [upd_ne (by omega), upd_ne (by omega), upd_ne (by omega), upd_ne (by omega), upd_ne (by omega)]; exact if_pos rfl
      · rw [upd_ne (by omega), upd_ne (by omega), upd_ne (by omega), upd_ne (by omega)]; exact (if_pos rfl).trans hx
      · rw [upd_ne (by omega), upd_ne (by omega), upd_ne (by omega)]; exact if_pos rfl
      · rw [upd_ne (by omega), upd_ne (by omega)]; exact if_pos rfl
      · rw [upd_ne (by omega)]; exact if_pos rfl
    · obtain ⟨a1, b1, d1, e1, k1, l1, m1⟩ := rt u (by omega)
      unfold RRt
      have n12 : nA (moreN n b t v a) 12 u = nA n 12 u := if_neg e
      have n13 : nA (moreN n b t v a) 13 u = nA n 13 u := if_neg e
      have n14 : nA (moreN n b t v a) 14 u = nA n 14 u := if_neg e
      have n16 : nA (moreN n b t v a) 16 u = nA n 16 u := if_neg e
      have nv : nV (moreN n b t v a) u = nV n u := if_neg e
      have n17 : nX (moreN n b t v a) 17 u = nX n 17 u := if_neg e
      have n18 : nX (moreN n b t v a) 18 u = nX n 18 u := if_neg e
      rw [n12, n13, n14, n16, nv, n17, n18, lo _ (by omega) (by omega), lo _ (by omega) (by omega), lo _ (by omega) (by omega), lo _ (by omega) (by omega), lo _ (by omega) (by omega), lo _ (by omega) (by omega), lo _ (by omega) (by omega)]
      exact ⟨a1, b1, d1, e1, k1, l1, m1⟩
section MK2
variable {b d : Nat} {m : tM} {h : sH} {i x y w c t : Int32} {Q : sQ} {n n' : tN} {z : tQ} {k : sK}
theorem z_breaks {v : Bool} (hm : RM m z) (K : ∀ m', RM m' (zbreaks z c v).2 → Q (some (.int (zbreaks z c v).1)) (pM m' h)) : MT (d + 4) 200 [.ref 317, .int c, .int (iB v)] (pM m h) Q := by
  rw [MT_go (by decide) _ _ _ (Nat.le_of_ble_eq_true rfl), show s_entry 200 [.ref 317, .int c, .int (iB v)] = [.ref 317, .int c, .int (iB v)] from rfl]
  have hm0 := RM_0 (x := nI 0) hm
  have e1 := fun Q => z_isC (d := d + 1) (h := h) (Q := Q) (x := c) hm0
  unfold zbreaks at K
  cases hq : zQ z with
  | none =>
    simp only [hq] at K
    rw [zC_0 hq, ix_0] at e1
    simp (disch := omega) only [u_200_0, u_200_1, u_200_2, u_200_5, u_200_6, u_200_7, u_200_10, u_200_13, u_200_14, u_200_15, u_200_18, u_200_19, u_200_20, u_200_23, u_200_24, u_200_25, u_200_28, u_200_29, u_200_30, u_200_33, u_200_34, u_200_37, u_200_38, u_200_41, u_200_42, u_200_43, u_200_46, u_200_47, u_200_48, u_200_51, u_200_52, u_200_55, u_200_56, u_200_57, u_200_60, u_200_61, u_200_64, u_200_65, u_200_68, u_200_69, u_200_70, u_200_71, u_200_74, u_200_77, gI0, gIs, gR0, gRs, gF0, gFs, st0, st_i, st_r, st_f, st_n, st_s, true_and, and_true, ↓ifLeT, ↓ifLeF, ↓ifLtT, ↓ifLtF, ↓ifEqT, ↓ifEqF, if_tt, if_ff, if_pos, if_neg, nLe, nLt, nEq, nInT, nCl, pk_mul, nI_add, Nat.reduceAdd, s_cat_nil, s_cat_i, s_cat_r, s_cat_f, s_cat_l, tl_s, tl_n, cat_i, cat_r, cat_f, nb0, nb1, nbI, if_bI, if_bIr, Nat.zero_le, Nat.reduceLeDiff, M_ob, M_s0, e1, Option.isSome, iBf]
    refine z_ref (k := 0) hm0 (by decide) fun m' hm' => ?_
    simp (disch := omega) only [u_200_0, u_200_1, u_200_2, u_200_5, u_200_6, u_200_7, u_200_10, u_200_13, u_200_14, u_200_15, u_200_18, u_200_19, u_200_20, u_200_23, u_200_24, u_200_25, u_200_28, u_200_29, u_200_30, u_200_33, u_200_34, u_200_37, u_200_38, u_200_41, u_200_42, u_200_43, u_200_46, u_200_47, u_200_48, u_200_51, u_200_52, u_200_55, u_200_56, u_200_57, u_200_60, u_200_61, u_200_64, u_200_65, u_200_68, u_200_69, u_200_70, u_200_71, u_200_74, u_200_77, gI0, gIs, gR0, gRs, gF0, gFs, st0, st_i, st_r, st_f, st_n, st_s, true_and, and_true, ↓ifLeT, ↓ifLeF, ↓ifLtT, ↓ifLtF, ↓ifEqT, ↓ifEqF, if_tt, if_ff, if_pos, if_neg, nLe, nLt, nEq, nInT, nCl, pk_mul, nI_add, Nat.reduceAdd, s_cat_nil, s_cat_i, s_cat_r, s_cat_f, s_cat_l, tl_s, tl_n, cat_i, cat_r, cat_f, nb0, nb1, nbI, if_bI, if_bIr, Nat.zero_le, Nat.reduceLeDiff]
    exact K m' hm'
  | some n =>
    simp only [hq] at K
    rw [zC_s hq] at e1
    obtain ⟨hg, hr, hok⟩ := RM_q hm0 hq
    have h4 := hok.1.1.1
    cases h1 : ixN c (nF n 2) with
    | none =>
      rw [h1] at e1
      simp only [h1] at K
      simp (disch := omega) only [u_200_0, u_200_1, u_200_2, u_200_5, u_200_6, u_200_7, u_200_10, u_200_13, u_200_14, u_200_15, u_200_18, u_200_19, u_200_20, u_200_23, u_200_24, u_200_25, u_200_28, u_200_29, u_200_30, u_200_33, u_200_34, u_200_37, u_200_38, u_200_41, u_200_42, u_200_43, u_200_46, u_200_47, u_200_48, u_200_51, u_200_52, u_200_55, u_200_56, u_200_57, u_200_60, u_200_61, u_200_64, u_200_65, u_200_68, u_200_69, u_200_70, u_200_71, u_200_74, u_200_77, gI0, gIs, gR0, gRs, gF0, gFs, st0, st_i, st_r, st_f, st_n, st_s, true_and, and_true, ↓ifLeT, ↓ifLeF, ↓ifLtT, ↓ifLtF, ↓ifEqT, ↓ifEqF, if_tt, if_ff, if_pos, if_neg, nLe, nLt, nEq, nInT, nCl, pk_mul, nI_add, Nat.reduceAdd, s_cat_nil, s_cat_i, s_cat_r, s_cat_f, s_cat_l, tl_s, tl_n, cat_i, cat_r, cat_f, nb0, nb1, nbI, if_bI, if_bIr, Nat.zero_le, Nat.reduceLeDiff, M_ob, M_s0, e1, Option.isSome, iBf]
      refine z_ref (k := 0) hm0 (by decide) fun m' hm' => ?_
      simp (disch := omega) only [u_200_0, u_200_1, u_200_2, u_200_5, u_200_6, u_200_7, u_200_10, u_200_13, u_200_14, u_200_15, u_200_18, u_200_19, u_200_20, u_200_23, u_200_24, u_200_25, u_200_28, u_200_29, u_200_30, u_200_33, u_200_34, u_200_37, u_200_38, u_200_41, u_200_42, u_200_43, u_200_46, u_200_47, u_200_48, u_200_51, u_200_52, u_200_55, u_200_56, u_200_57, u_200_60, u_200_61, u_200_64, u_200_65, u_200_68, u_200_69, u_200_70, u_200_71, u_200_74, u_200_77, gI0, gIs, gR0, gRs, gF0, gFs, st0, st_i, st_r, st_f, st_n, st_s, true_and, and_true, ↓ifLeT, ↓ifLeF, ↓ifLtT, ↓ifLtF, ↓ifEqT, ↓ifEqF, if_tt, if_ff, if_pos, if_neg, nLe, nLt, nEq, nInT, nCl, pk_mul, nI_add, Nat.reduceAdd, s_cat_nil, s_cat_i, s_cat_r, s_cat_f, s_cat_l, tl_s, tl_n, cat_i, cat_r, cat_f, nb0, nb1, nbI, if_bI, if_bIr, Nat.zero_le, Nat.reduceLeDiff]
      exact K m' hm'
    | some j =>
      rw [h1] at e1
      simp only [h1] at K
      obtain ⟨j1, rfl⟩ := ix_some (by omega) h1
      have a1 : kA (xI m 0 (nI 0)) 320 (2 + 12 * j + 1) = iB (nK n j) := (hr.2.2.1 j j1).2.1
      have vv : ∀ {P : Int32 → Prop}, (if iB v = nI 0 then P (nI 0) else P (nI 1)) ↔ P (iB v) := fun {P} => by cases v <;> simp [iB, nI10]
      by_cases h2 : nK n j = v
      · simp only [if_pos h2] at K
        rw [h2] at a1
        cases v
        · simp (disch := omega) only [u_200_0, u_200_1, u_200_2, u_200_5, u_200_6, u_200_7, u_200_10, u_200_13, u_200_14, u_200_15, u_200_18, u_200_19, u_200_20, u_200_23, u_200_24, u_200_25, u_200_28, u_200_29, u_200_30, u_200_33, u_200_34, u_200_37, u_200_38, u_200_41, u_200_42, u_200_43, u_200_46, u_200_47, u_200_48, u_200_51, u_200_52, u_200_55, u_200_56, u_200_57, u_200_60, u_200_61, u_200_64, u_200_65, u_200_68, u_200_69, u_200_70, u_200_71, u_200_74, u_200_77, gI0, gIs, gR0, gRs, gF0, gFs, st0, st_i, st_r, st_f, st_n, st_s, true_and, and_true, ↓ifLeT, ↓ifLeF, ↓ifLtT, ↓ifLtF, ↓ifEqT, ↓ifEqF, if_tt, if_ff, if_pos, if_neg, nLe, nLt, nEq, nInT, nCl, pk_mul, nI_add, Nat.reduceAdd, s_cat_nil, s_cat_i, s_cat_r, s_cat_f, s_cat_l, tl_s, tl_n, cat_i, cat_r, cat_f, nb0, nb1, nbI, if_bI, if_bIr, Nat.zero_le, Nat.reduceLeDiff, M_ob, M_s0, M_g0, M_g1, M_g2, M_g3, M_g4, M_g5, M_g6, M_g7, M_g8, M_g9, M_g10, M_g11, M_g12, M_g13, M_g14, M_g15, M_g16, M_g17, M_g18, M_g19, M_g20, M_g21, M_g22, M_g23, M_g24, M_g25, M_g26, M_g27, M_g28, M_g29, M_g30, M_g31, M_g32, M_g33, M_g34, M_g35, M_g36, M_g37, M_g38, M_g39, M_g40, M_g41, M_r rb320, m_cAt, e1, a1, Option.isSome, iBt, iBf, nI10]
          refine z_ref (k := 2) hm0 (by decide) fun m' hm' => ?_
          simp (disch := omega) only [u_200_0, u_200_1, u_200_2, u_200_5, u_200_6, u_200_7, u_200_10, u_200_13, u_200_14, u_200_15, u_200_18, u_200_19, u_200_20, u_200_23, u_200_24, u_200_25, u_200_28, u_200_29, u_200_30, u_200_33, u_200_34, u_200_37, u_200_38, u_200_41, u_200_42, u_200_43, u_200_46, u_200_47, u_200_48, u_200_51, u_200_52, u_200_55, u_200_56, u_200_57, u_200_60, u_200_61, u_200_64, u_200_65, u_200_68, u_200_69, u_200_70, u_200_71, u_200_74, u_200_77, gI0, gIs, gR0, gRs, gF0, gFs, st0, st_i, st_r, st_f, st_n, st_s, true_and, and_true, ↓ifLeT, ↓ifLeF, ↓ifLtT, ↓ifLtF, ↓ifEqT, ↓ifEqF, if_tt, if_ff, if_pos, if_neg, nLe, nLt, nEq, nInT, nCl, pk_mul, nI_add, Nat.reduceAdd, s_cat_nil, s_cat_i, s_cat_r, s_cat_f, s_cat_l, tl_s, tl_n, cat_i, cat_r, cat_f, nb0, nb1, nbI, if_bI, if_bIr, Nat.zero_le, Nat.reduceLeDiff]
          exact K m' hm'
        · simp (disch := omega) only [u_200_0, u_200_1, u_200_2, u_200_5, u_200_6, u_200_7, u_200_10, u_200_13, u_200_14, u_200_15, u_200_18, u_200_19, u_200_20, u_200_23, u_200_24, u_200_25, u_200_28, u_200_29, u_200_30, u_200_33, u_200_34, u_200_37, u_200_38, u_200_41, u_200_42, u_200_43, u_200_46, u_200_47, u_200_48, u_200_51, u_200_52, u_200_55, u_200_56, u_200_57, u_200_60, u_200_61, u_200_64, u_200_65, u_200_68, u_200_69, u_200_70, u_200_71, u_200_74, u_200_77, gI0, gIs, gR0, gRs, gF0, gFs, st0, st_i, st_r, st_f, st_n, st_s, true_and, and_true, ↓ifLeT, ↓ifLeF, ↓ifLtT, ↓ifLtF, ↓ifEqT, ↓ifEqF, if_tt, if_ff, if_pos, if_neg, nLe, nLt, nEq, nInT, nCl, pk_mul, nI_add, Nat.reduceAdd, s_cat_nil, s_cat_i, s_cat_r, s_cat_f, s_cat_l, tl_s, tl_n, cat_i, cat_r, cat_f, nb0, nb1, nbI, if_bI, if_bIr, Nat.zero_le, Nat.reduceLeDiff, M_ob, M_s0, M_g0, M_g1, M_g2, M_g3, M_g4, M_g5, M_g6, M_g7, M_g8, M_g9, M_g10, M_g11, M_g12, M_g13, M_g14, M_g15, M_g16, M_g17, M_g18, M_g19, M_g20, M_g21, M_g22, M_g23, M_g24, M_g25, M_g26, M_g27, M_g28, M_g29, M_g30, M_g31, M_g32, M_g33, M_g34, M_g35, M_g36, M_g37, M_g38, M_g39, M_g40, M_g41, M_r rb320, m_cAt, e1, a1, Option.isSome, iBt, iBf, nI10]
          refine z_ref (k := 2) hm0 (by decide) fun m' hm' => ?_
          simp (disch := omega) only [u_200_0, u_200_1, u_200_2, u_200_5, u_200_6, u_200_7, u_200_10, u_200_13, u_200_14, u_200_15, u_200_18, u_200_19, u_200_20, u_200_23, u_200_24, u_200_25, u_200_28, u_200_29, u_200_30, u_200_33, u_200_34, u_200_37, u_200_38, u_200_41, u_200_42, u_200_43, u_200_46, u_200_47, u_200_48, u_200_51, u_200_52, u_200_55, u_200_56, u_200_57, u_200_60, u_200_61, u_200_64, u_200_65, u_200_68, u_200_69, u_200_70, u_200_71, u_200_74, u_200_77, gI0, gIs, gR0, gRs, gF0, gFs, st0, st_i, st_r, st_f, st_n, st_s, true_and, and_true, ↓ifLeT, ↓ifLeF, ↓ifLtT, ↓ifLtF, ↓ifEqT, ↓ifEqF, if_tt, if_ff, if_pos, if_neg, nLe, nLt, nEq, nInT, nCl, pk_mul, nI_add, Nat.reduceAdd, s_cat_nil, s_cat_i, s_cat_r, s_cat_f, s_cat_l, tl_s, tl_n, cat_i, cat_r, cat_f, nb0, nb1, nbI, if_bI, if_bIr, Nat.zero_le, Nat.reduceLeDiff]
          exact K m' hm'
      · simp only [if_neg h2] at K
        have hok' : okQ (jK n (set1 (nK n) j v)) := hok
        have fin : ∀ m1, KP (xI m 0 (nI 0)) m1 (keepA (zA z) n) → RR (kA (xA m1 320 (upd (kA m1 320) (2 + 12 * j + 1) (iB v))) 320) (jK n (set1 (nK n) j v)) ∧ RM (xA m1 320 (upd (kA m1 320) (2 + 12 * j + 1) (iB v))) (actZ z n (jK n (set1 (nK n) j v))) := fun m1 kp => by
          have hr1 : RR (kA m1 320) n := by rw [kp.2.2.2.1 320 (by decide)]; exact hr
          have rr := RR_K2 (v := v) hok.1.1.1 (fun c => wfL_len hok.1.1 hok.1.2.2.2 c) hr1 j1
          rw [kA_eq]
          exact ⟨rr, RM_act hm0 hq kp (fun _ _ => rfl) rfl (fun q _ hn => kA_ne hn) (by rw [kA_eq]; exact rr) hok' ⟨rfl, rfl, rfl, fun _ _ => rfl⟩⟩
        have f10 : ∀ m1 f, KP (xI m 0 (nI 0)) m1 (keepA (zA z) n) → kI (xA m1 320 f) 10 = nI (nF (jK n (set1 (nK n) j v)) 2) := fun m1 f kp => (kp.2.1 10 (by decide)).trans hg.2.2.1
        have bb := bitsN_256 (f := set1 (nK n) j v) (k := nF n 2) (by omega)
        have e3 := fun h Q => m_bitCount (d := d + 2) (h := h) (Q := Q) bb
        rw [pop_bits h4] at e3
        cases v with
        | false =>
          have k1 : nK n j = true := by cases hk : nK n j <;> simp_all
          rw [k1] at a1
          simp (disch := omega) only [u_200_0, u_200_1, u_200_2, u_200_5, u_200_6, u_200_7, u_200_10, u_200_13, u_200_14, u_200_15, u_200_18, u_200_19, u_200_20, u_200_23, u_200_24, u_200_25, u_200_28, u_200_29, u_200_30, u_200_33, u_200_34, u_200_37, u_200_38, u_200_41, u_200_42, u_200_43, u_200_46, u_200_47, u_200_48, u_200_51, u_200_52, u_200_55, u_200_56, u_200_57, u_200_60, u_200_61, u_200_64, u_200_65, u_200_68, u_200_69, u_200_70, u_200_71, u_200_74, u_200_77, gI0, gIs, gR0, gRs, gF0, gFs, st0, st_i, st_r, st_f, st_n, st_s, true_and, and_true, ↓ifLeT, ↓ifLeF, ↓ifLtT, ↓ifLtF, ↓ifEqT, ↓ifEqF, if_tt, if_ff, if_pos, if_neg, nLe, nLt, nEq, nInT, nCl, pk_mul, nI_add, Nat.reduceAdd, s_cat_nil, s_cat_i, s_cat_r, s_cat_f, s_cat_l, tl_s, tl_n, cat_i, cat_r, cat_f, nb0, nb1, nbI, if_bI, if_bIr, Nat.zero_le, Nat.reduceLeDiff, M_ob, M_s0, M_g0, M_g1, M_g2, M_g3, M_g4, M_g5, M_g6, M_g7, M_g8, M_g9, M_g10, M_g11, M_g12, M_g13, M_g14, M_g15, M_g16, M_g17, M_g18, M_g19, M_g20, M_g21, M_g22, M_g23, M_g24, M_g25, M_g26, M_g27, M_g28, M_g29, M_g30, M_g31, M_g32, M_g33, M_g34, M_g35, M_g36, M_g37, M_g38, M_g39, M_g40, M_g41, M_r rb320, m_cAt, e1, a1, Option.isSome, iBt, iBf, nI10]
          refine r_keeps (d := d + 2) hm0 hq fun m1 kp => ?_
          obtain ⟨rr, rm⟩ := fin m1 kp
          have e2 := fun Q => z_brokenSet (d := d + 1) (h := h) (Q := Q) hok'.1 (f10 m1 _ kp) rr
          rw [iBf] at e2 rm
          simp (disch := omega) only [u_200_0, u_200_1, u_200_2, u_200_5, u_200_6, u_200_7, u_200_10, u_200_13, u_200_14, u_200_15, u_200_18, u_200_19, u_200_20, u_200_23, u_200_24, u_200_25, u_200_28, u_200_29, u_200_30, u_200_33, u_200_34, u_200_37, u_200_38, u_200_41, u_200_42, u_200_43, u_200_46, u_200_47, u_200_48, u_200_51, u_200_52, u_200_55, u_200_56, u_200_57, u_200_60, u_200_61, u_200_64, u_200_65, u_200_68, u_200_69, u_200_70, u_200_71, u_200_74, u_200_77, gI0, gIs, gR0, gRs, gF0, gFs, st0, st_i, st_r, st_f, st_n, st_s, true_and, and_true, ↓ifLeT, ↓ifLeF, ↓ifLtT, ↓ifLtF, ↓ifEqT, ↓ifEqF, if_tt, if_ff, if_pos, if_neg, nLe, nLt, nEq, nInT, nCl, pk_mul, nI_add, Nat.reduceAdd, s_cat_nil, s_cat_i, s_cat_r, s_cat_f, s_cat_l, tl_s, tl_n, cat_i, cat_r, cat_f, nb0, nb1, nbI, if_bI, if_bIr, Nat.zero_le, Nat.reduceLeDiff, M_ob, M_g0, M_g1, M_g2, M_g3, M_g4, M_g5, M_g6, M_g7, M_g8, M_g9, M_g10, M_g11, M_g12, M_g13, M_g14, M_g15, M_g16, M_g17, M_g18, M_g19, M_g20, M_g21, M_g22, M_g23, M_g24, M_g25, M_g26, M_g27, M_g28, M_g29, M_g30, M_g31, M_g32, M_g33, M_g34, M_g35, M_g36, M_g37, M_g38, M_g39, M_g40, M_g41, M_r rb320, M_rw rb320, m_cAt, iBf, e2]
          refine (e3 _ _).mpr ?_
          simp (disch := omega) only [u_200_0, u_200_1, u_200_2, u_200_5, u_200_6, u_200_7, u_200_10, u_200_13, u_200_14, u_200_15, u_200_18, u_200_19, u_200_20, u_200_23, u_200_24, u_200_25, u_200_28, u_200_29, u_200_30, u_200_33, u_200_34, u_200_37, u_200_38, u_200_41, u_200_42, u_200_43, u_200_46, u_200_47, u_200_48, u_200_51, u_200_52, u_200_55, u_200_56, u_200_57, u_200_60, u_200_61, u_200_64, u_200_65, u_200_68, u_200_69, u_200_70, u_200_71, u_200_74, u_200_77, gI0, gIs, gR0, gRs, gF0, gFs, st0, st_i, st_r, st_f, st_n, st_s, true_and, and_true, ↓ifLeT, ↓ifLeF, ↓ifLtT, ↓ifLtF, ↓ifEqT, ↓ifEqF, if_tt, if_ff, if_pos, if_neg, nLe, nLt, nEq, nInT, nCl, pk_mul, nI_add, Nat.reduceAdd, s_cat_nil, s_cat_i, s_cat_r, s_cat_f, s_cat_l, tl_s, tl_n, cat_i, cat_r, cat_f, nb0, nb1, nbI, if_bI, if_bIr, Nat.zero_le, Nat.reduceLeDiff]
          exact K _ rm
        | true =>
          have k1 : nK n j = false := by cases hk : nK n j <;> simp_all
          rw [k1] at a1
          simp (disch := omega) only [u_200_0, u_200_1, u_200_2, u_200_5, u_200_6, u_200_7, u_200_10, u_200_13, u_200_14, u_200_15, u_200_18, u_200_19, u_200_20, u_200_23, u_200_24, u_200_25, u_200_28, u_200_29, u_200_30, u_200_33, u_200_34, u_200_37, u_200_38, u_200_41, u_200_42, u_200_43, u_200_46, u_200_47, u_200_48, u_200_51, u_200_52, u_200_55, u_200_56, u_200_57, u_200_60, u_200_61, u_200_64, u_200_65, u_200_68, u_200_69, u_200_70, u_200_71, u_200_74, u_200_77, gI0, gIs, gR0, gRs, gF0, gFs, st0, st_i, st_r, st_f, st_n, st_s, true_and, and_true, ↓ifLeT, ↓ifLeF, ↓ifLtT, ↓ifLtF, ↓ifEqT, ↓ifEqF, if_tt, if_ff, if_pos, if_neg, nLe, nLt, nEq, nInT, nCl, pk_mul, nI_add, Nat.reduceAdd, s_cat_nil, s_cat_i, s_cat_r, s_cat_f, s_cat_l, tl_s, tl_n, cat_i, cat_r, cat_f, nb0, nb1, nbI, if_bI, if_bIr, Nat.zero_le, Nat.reduceLeDiff, M_ob, M_s0, M_g0, M_g1, M_g2, M_g3, M_g4, M_g5, M_g6, M_g7, M_g8, M_g9, M_g10, M_g11, M_g12, M_g13, M_g14, M_g15, M_g16, M_g17, M_g18, M_g19, M_g20, M_g21, M_g22, M_g23, M_g24, M_g25, M_g26, M_g27, M_g28, M_g29, M_g30, M_g31, M_g32, M_g33, M_g34, M_g35, M_g36, M_g37, M_g38, M_g39, M_g40, M_g41, M_r rb320, m_cAt, e1, a1, Option.isSome, iBt, iBf, nI10]
          refine r_keeps (d := d + 2) hm0 hq fun m1 kp => ?_
          obtain ⟨rr, rm⟩ := fin m1 kp
          have e2 := fun Q => z_brokenSet (d := d + 1) (h := h) (Q := Q) hok'.1 (f10 m1 _ kp) rr
          rw [iBt] at e2 rm
          simp (disch := omega) only [u_200_0, u_200_1, u_200_2, u_200_5, u_200_6, u_200_7, u_200_10, u_200_13, u_200_14, u_200_15, u_200_18, u_200_19, u_200_20, u_200_23, u_200_24, u_200_25, u_200_28, u_200_29, u_200_30, u_200_33, u_200_34, u_200_37, u_200_38, u_200_41, u_200_42, u_200_43, u_200_46, u_200_47, u_200_48, u_200_51, u_200_52, u_200_55, u_200_56, u_200_57, u_200_60, u_200_61, u_200_64, u_200_65, u_200_68, u_200_69, u_200_70, u_200_71, u_200_74, u_200_77, gI0, gIs, gR0, gRs, gF0, gFs, st0, st_i, st_r, st_f, st_n, st_s, true_and, and_true, ↓ifLeT, ↓ifLeF, ↓ifLtT, ↓ifLtF, ↓ifEqT, ↓ifEqF, if_tt, if_ff, if_pos, if_neg, nLe, nLt, nEq, nInT, nCl, pk_mul, nI_add, Nat.reduceAdd, s_cat_nil, s_cat_i, s_cat_r, s_cat_f, s_cat_l, tl_s, tl_n, cat_i, cat_r, cat_f, nb0, nb1, nbI, if_bI, if_bIr, Nat.zero_le, Nat.reduceLeDiff, M_ob, M_g0, M_g1, M_g2, M_g3, M_g4, M_g5, M_g6, M_g7, M_g8, M_g9, M_g10, M_g11, M_g12, M_g13, M_g14, M_g15, M_g16, M_g17, M_g18, M_g19, M_g20, M_g21, M_g22, M_g23, M_g24, M_g25, M_g26, M_g27, M_g28, M_g29, M_g30, M_g31, M_g32, M_g33, M_g34, M_g35, M_g36, M_g37, M_g38, M_g39, M_g40, M_g41, M_r rb320, M_rw rb320, m_cAt, iBt, nI10, e2]
          refine (e3 _ _).mpr ?_
          simp (disch := omega) only [u_200_0, u_200_1, u_200_2, u_200_5, u_200_6, u_200_7, u_200_10, u_200_13, u_200_14, u_200_15, u_200_18, u_200_19, u_200_20, u_200_23, u_200_24, u_200_25, u_200_28, u_200_29, u_200_30, u_200_33, u_200_34, u_200_37, u_200_38, u_200_41, u_200_42, u_200_43, u_200_46, u_200_47, u_200_48, u_200_51, u_200_52, u_200_55, u_200_56, u_200_57, u_200_60, u_200_61, u_200_64, u_200_65, u_200_68, u_200_69, u_200_70, u_200_71, u_200_74, u_200_77, gI0, gIs, gR0, gRs, gF0, gFs, st0, st_i, st_r, st_f, st_n, st_s, true_and, and_true, ↓ifLeT, ↓ifLeF, ↓ifLtT, ↓ifLtF, ↓ifEqT, ↓ifEqF, if_tt, if_ff, if_pos, if_neg, nLe, nLt, nEq, nInT, nCl, pk_mul, nI_add, Nat.reduceAdd, s_cat_nil, s_cat_i, s_cat_r, s_cat_f, s_cat_l, tl_s, tl_n, cat_i, cat_r, cat_f, nb0, nb1, nbI, if_bI, if_bIr, Nat.zero_le, Nat.reduceLeDiff]
          exact K _ rm
theorem MG_same (hg : MG m n) (hs : sameQ n' n) : MG m n' := by
  obtain ⟨g1, g2, g3, g4⟩ := hg
  obtain ⟨s1, s2, s3, s4⟩ := hs
  exact ⟨by rw [s1]; exact g1, by rw [s2]; exact g2, by rw [s3]; exact g3, fun c hc => by rw [s4 c (by rw [← s3]; exact hc)]; exact g4 c (by rw [← s3]; exact hc)⟩
theorem z_image (hm : RM m z) (K : ∀ m', RM m' (zimage z).2 → Q (some (.int (zimage z).1)) (pM m' h)) : MT (d + 2) 260 [.ref 317] (pM m h) Q := by
  rw [MT_go (by decide) _ _ _ (Nat.le_of_ble_eq_true rfl), show s_entry 260 [.ref 317] = [.ref 317] from rfl]
  have hm0 := RM_0 (x := nI 0) hm
  have q1 := hm.2.1.1
  have c0 : (nI 0).toNatClampNeg = 0 := rfl
  unfold zimage at K
  cases hq : zQ z with
  | none =>
    simp only [hq] at K
    rw [hq] at q1
    simp (disch := omega) only [u_260_0, u_260_1, u_260_2, u_260_5, u_260_6, u_260_9, u_260_12, u_260_13, u_260_14, u_260_15, u_260_18, u_260_19, u_260_22, u_260_25, u_260_26, u_260_27, u_260_30, u_260_31, u_260_34, u_260_35, u_260_36, gI0, gIs, gR0, gRs, gF0, gFs, st0, st_i, st_r, st_f, st_n, st_s, true_and, and_true, ↓ifLeT, ↓ifLeF, ↓ifLtT, ↓ifLtF, ↓ifEqT, ↓ifEqF, if_tt, if_ff, if_pos, if_neg, nLe, nLt, nEq, nInT, nCl, pk_mul, nI_add, Nat.reduceAdd, s_cat_nil, s_cat_i, s_cat_r, s_cat_f, s_cat_l, tl_s, tl_n, cat_i, cat_r, cat_f, nb0, nb1, nbI, if_bI, if_bIr, Nat.zero_le, Nat.reduceLeDiff, M_ob, M_g0, M_g1, M_g2, M_g3, M_g4, M_g5, M_g6, M_g7, M_g8, M_g9, M_g10, M_g11, M_g12, M_g13, M_g14, M_g15, M_g16, M_g17, M_g18, M_g19, M_g20, M_g21, M_g22, M_g23, M_g24, M_g25, M_g26, M_g27, M_g28, M_g29, M_g30, M_g31, M_g32, M_g33, M_g34, M_g35, M_g36, M_g37, M_g38, M_g39, M_g40, M_g41, M_s0, kI_xI, kI_xB, kI_xA, kI_xV, kB_xI, kB_xB, kB_xA, kB_xV, kA_xI, kA_xB, kA_xA, kA_xV, kV_xI, kV_xB, kV_xA, kV_xV, Nat.reduceEqDiff, reduceIte, q1, Option.isSome, iBf]
    exact K _ hm0
  | some n =>
    simp only [hq] at K
    rw [hq] at q1
    obtain ⟨hg, hr, hok⟩ := RM_q hm0 hq
    simp (disch := omega) only [u_260_0, u_260_1, u_260_2, u_260_5, u_260_6, u_260_9, u_260_12, u_260_13, u_260_14, u_260_15, u_260_18, u_260_19, u_260_22, u_260_25, u_260_26, u_260_27, u_260_30, u_260_31, u_260_34, u_260_35, u_260_36, gI0, gIs, gR0, gRs, gF0, gFs, st0, st_i, st_r, st_f, st_n, st_s, true_and, and_true, ↓ifLeT, ↓ifLeF, ↓ifLtT, ↓ifLtF, ↓ifEqT, ↓ifEqF, if_tt, if_ff, if_pos, if_neg, nLe, nLt, nEq, nInT, nCl, pk_mul, nI_add, Nat.reduceAdd, s_cat_nil, s_cat_i, s_cat_r, s_cat_f, s_cat_l, tl_s, tl_n, cat_i, cat_r, cat_f, nb0, nb1, nbI, if_bI, if_bIr, Nat.zero_le, Nat.reduceLeDiff, M_ob, M_g0, M_g1, M_g2, M_g3, M_g4, M_g5, M_g6, M_g7, M_g8, M_g9, M_g10, M_g11, M_g12, M_g13, M_g14, M_g15, M_g16, M_g17, M_g18, M_g19, M_g20, M_g21, M_g22, M_g23, M_g24, M_g25, M_g26, M_g27, M_g28, M_g29, M_g30, M_g31, M_g32, M_g33, M_g34, M_g35, M_g36, M_g37, M_g38, M_g39, M_g40, M_g41, M_s0, kI_xI, kI_xB, kI_xA, kI_xV, kB_xI, kB_xB, kB_xA, kB_xV, kA_xI, kA_xB, kA_xA, kA_xV, kV_xI, kV_xB, kV_xA, kV_xV, Nat.reduceEqDiff, reduceIte, q1, Option.isSome, iBt, nI10]
    refine r_copy rb320 rb333 (by decide) fun f hf => ?_
    have f4 : kA m 320 0 = nI (nF n 4) := hr.1
    simp (disch := omega) only [u_260_0, u_260_1, u_260_2, u_260_5, u_260_6, u_260_9, u_260_12, u_260_13, u_260_14, u_260_15, u_260_18, u_260_19, u_260_22, u_260_25, u_260_26, u_260_27, u_260_30, u_260_31, u_260_34, u_260_35, u_260_36, gI0, gIs, gR0, gRs, gF0, gFs, st0, st_i, st_r, st_f, st_n, st_s, true_and, and_true, ↓ifLeT, ↓ifLeF, ↓ifLtT, ↓ifLtF, ↓ifEqT, ↓ifEqF, if_tt, if_ff, if_pos, if_neg, nLe, nLt, nEq, nInT, nCl, pk_mul, nI_add, Nat.reduceAdd, s_cat_nil, s_cat_i, s_cat_r, s_cat_f, s_cat_l, tl_s, tl_n, cat_i, cat_r, cat_f, nb0, nb1, nbI, if_bI, if_bIr, Nat.zero_le, Nat.reduceLeDiff, M_g0, M_g1, M_g2, M_g3, M_g4, M_g5, M_g6, M_g7, M_g8, M_g9, M_g10, M_g11, M_g12, M_g13, M_g14, M_g15, M_g16, M_g17, M_g18, M_g19, M_g20, M_g21, M_g22, M_g23, M_g24, M_g25, M_g26, M_g27, M_g28, M_g29, M_g30, M_g31, M_g32, M_g33, M_g34, M_g35, M_g36, M_g37, M_g38, M_g39, M_g40, M_g41, M_s41t, kI_xI, kI_xB, kI_xA, kI_xV, kB_xI, kB_xB, kB_xA, kB_xV, kA_xI, kA_xB, kA_xA, kA_xV, kV_xI, kV_xB, kV_xA, kV_xV, Nat.reduceEqDiff, reduceIte, M_r rb320, c0, f4]
    refine K _ ?_
    obtain ⟨⟨t1, t2, t3⟩, ⟨q1, q2⟩, ⟨a1, a2, a3⟩, ⟨i1, i2⟩, hrf⟩ := hm0
    refine ⟨⟨t1, t2, t3⟩, ⟨q1, q2⟩, ⟨a1, a2, a3⟩, ⟨rfl, fun a e => ?_⟩, hrf⟩
    cases e
    exact ⟨RR_cong hok.1 hf hr, hok, _, hq, sameQ_r⟩
theorem z_back (hm : RM m z) (K : ∀ m', RM m' (zback z).2 → Q (some (.int (zback z).1)) (pM m' h)) : MT (d + 2) 261 [.ref 317] (pM m h) Q := by
  rw [MT_go (by decide) _ _ _ (Nat.le_of_ble_eq_true rfl), show s_entry 261 [.ref 317] = [.ref 317] from rfl]
  have hm0 := RM_0 (x := nI 0) hm
  have q1 := hm.2.2.2.1.1
  have c0 : (nI 0).toNatClampNeg = 0 := rfl
  unfold zback at K
  cases hi : zI z with
  | none =>
    simp only [hi] at K
    rw [hi] at q1
    simp (disch := omega) only [u_261_0, u_261_1, u_261_2, u_261_5, u_261_6, u_261_9, u_261_12, u_261_13, u_261_14, u_261_15, u_261_18, u_261_19, u_261_22, u_261_25, u_261_26, u_261_27, u_261_30, u_261_31, u_261_34, u_261_35, u_261_36, gI0, gIs, gR0, gRs, gF0, gFs, st0, st_i, st_r, st_f, st_n, st_s, true_and, and_true, ↓ifLeT, ↓ifLeF, ↓ifLtT, ↓ifLtF, ↓ifEqT, ↓ifEqF, if_tt, if_ff, if_pos, if_neg, nLe, nLt, nEq, nInT, nCl, pk_mul, nI_add, Nat.reduceAdd, s_cat_nil, s_cat_i, s_cat_r, s_cat_f, s_cat_l, tl_s, tl_n, cat_i, cat_r, cat_f, nb0, nb1, nbI, if_bI, if_bIr, Nat.zero_le, Nat.reduceLeDiff, M_ob, M_g0, M_g1, M_g2, M_g3, M_g4, M_g5, M_g6, M_g7, M_g8, M_g9, M_g10, M_g11, M_g12, M_g13, M_g14, M_g15, M_g16, M_g17, M_g18, M_g19, M_g20, M_g21, M_g22, M_g23, M_g24, M_g25, M_g26, M_g27, M_g28, M_g29, M_g30, M_g31, M_g32, M_g33, M_g34, M_g35, M_g36, M_g37, M_g38, M_g39, M_g40, M_g41, M_s0, kI_xI, kI_xB, kI_xA, kI_xV, kB_xI, kB_xB, kB_xA, kB_xV, kA_xI, kA_xB, kA_xA, kA_xV, kV_xI, kV_xB, kV_xA, kV_xV, Nat.reduceEqDiff, reduceIte, q1, Option.isSome, iBf]
    exact K _ hm0
  | some a =>
    simp only [hi] at K
    rw [hi] at q1
    obtain ⟨⟨t1, t2, t3⟩, ⟨q1', q2⟩, ⟨a1, a2, a3⟩, ⟨i1, i2⟩, hrf⟩ := hm0
    obtain ⟨r1, r2, n, hq, r4⟩ := i2 a hi
    obtain ⟨hg, hr, hok⟩ := q2 n hq
    simp (disch := omega) only [u_261_0, u_261_1, u_261_2, u_261_5, u_261_6, u_261_9, u_261_12, u_261_13, u_261_14, u_261_15, u_261_18, u_261_19, u_261_22, u_261_25, u_261_26, u_261_27, u_261_30, u_261_31, u_261_34, u_261_35, u_261_36, gI0, gIs, gR0, gRs, gF0, gFs, st0, st_i, st_r, st_f, st_n, st_s, true_and, and_true, ↓ifLeT, ↓ifLeF, ↓ifLtT, ↓ifLtF, ↓ifEqT, ↓ifEqF, if_tt, if_ff, if_pos, if_neg, nLe, nLt, nEq, nInT, nCl, pk_mul, nI_add, Nat.reduceAdd, s_cat_nil, s_cat_i, s_cat_r, s_cat_f, s_cat_l, tl_s, tl_n, cat_i, cat_r, cat_f, nb0, nb1, nbI, if_bI, if_bIr, Nat.zero_le, Nat.reduceLeDiff, M_ob, M_g0, M_g1, M_g2, M_g3, M_g4, M_g5, M_g6, M_g7, M_g8, M_g9, M_g10, M_g11, M_g12, M_g13, M_g14, M_g15, M_g16, M_g17, M_g18, M_g19, M_g20, M_g21, M_g22, M_g23, M_g24, M_g25, M_g26, M_g27, M_g28, M_g29, M_g30, M_g31, M_g32, M_g33, M_g34, M_g35, M_g36, M_g37, M_g38, M_g39, M_g40, M_g41, M_s0, kI_xI, kI_xB, kI_xA, kI_xV, kB_xI, kB_xB, kB_xA, kB_xV, kA_xI, kA_xB, kA_xA, kA_xV, kV_xI, kV_xB, kV_xA, kV_xV, Nat.reduceEqDiff, reduceIte, q1, Option.isSome, iBt, nI10]
    refine r_copy rb333 rb320 (by decide) fun f hf => ?_
    have rr : RR f a := RR_cong r2.1 hf r1
    have f4 : f 0 = nI (nF a 4) := rr.1
    simp (disch := omega) only [u_261_0, u_261_1, u_261_2, u_261_5, u_261_6, u_261_9, u_261_12, u_261_13, u_261_14, u_261_15, u_261_18, u_261_19, u_261_22, u_261_25, u_261_26, u_261_27, u_261_30, u_261_31, u_261_34, u_261_35, u_261_36, gI0, gIs, gR0, gRs, gF0, gFs, st0, st_i, st_r, st_f, st_n, st_s, true_and, and_true, ↓ifLeT, ↓ifLeF, ↓ifLtT, ↓ifLtF, ↓ifEqT, ↓ifEqF, if_tt, if_ff, if_pos, if_neg, nLe, nLt, nEq, nInT, nCl, pk_mul, nI_add, Nat.reduceAdd, s_cat_nil, s_cat_i, s_cat_r, s_cat_f, s_cat_l, tl_s, tl_n, cat_i, cat_r, cat_f, nb0, nb1, nbI, if_bI, if_bIr, Nat.zero_le, Nat.reduceLeDiff, M_g0, M_g1, M_g2, M_g3, M_g4, M_g5, M_g6, M_g7, M_g8, M_g9, M_g10, M_g11, M_g12, M_g13, M_g14, M_g15, M_g16, M_g17, M_g18, M_g19, M_g20, M_g21, M_g22, M_g23, M_g24, M_g25, M_g26, M_g27, M_g28, M_g29, M_g30, M_g31, M_g32, M_g33, M_g34, M_g35, M_g36, M_g37, M_g38, M_g39, M_g40, M_g41, M_s23, kI_xI, kI_xB, kI_xA, kI_xV, kB_xI, kB_xB, kB_xA, kB_xV, kA_xI, kA_xB, kA_xA, kA_xV, kV_xI, kV_xB, kV_xA, kV_xV, Nat.reduceEqDiff, reduceIte, M_r rb320, c0, kA_eq, f4]
    refine K _ ⟨⟨t1, t2, t3⟩, ⟨?_, fun n2 e => ?_⟩, ⟨rfl, Nat.zero_le _, fun j a e => ?_⟩, ⟨i1, fun a2 e => ?_⟩, hrf⟩
    · rw [hq] at q1'; exact q1'
    · cases e
      exact ⟨MG_same hg r4, rr, r2⟩
    · cases e
    · have e : zI z = some a2 := e
      rw [hi] at e
      cases e
      exact ⟨r1, r2, a, rfl, sameQ_r⟩
theorem z_end (hm : RM m z) (K : ∀ m', RM m' (zend z x).2 → Q (some (.int (iB (zend z x).1))) (pM m' h)) : MT (d + 2) 147 [.ref 317, .int x] (pM m h) Q := by
  rw [MT_go (by decide) _ _ _ (Nat.le_of_ble_eq_true rfl), show s_entry 147 [.ref 317, .int x] = [.ref 317, .int x] from rfl]
  have hm0 := RM_0 (x := nI 0) hm
  obtain ⟨t1, t2, t3⟩ := hm0.1
  have t1' : kI m 2 = nI (eN (zT z) 1) := t1
  have e1 := fun h Q => m_in0 (d := d) (h := h) (x := x) (Q := Q) (N := eN (zT z) 1 + 1) (by omega) (by omega)
  rw [Nat.add_sub_cancel] at e1
  unfold zend at K
  cases h1 : ixN x (eN (zT z) 1 + 1) with
  | none =>
    rw [h1] at e1
    simp only [h1] at K
    simp (disch := omega) only [u_147_0, u_147_1, u_147_2, u_147_5, u_147_6, u_147_7, u_147_8, u_147_9, u_147_12, u_147_13, u_147_16, u_147_19, u_147_20, u_147_21, u_147_22, u_147_23, u_147_26, u_147_27, gI0, gIs, gR0, gRs, gF0, gFs, st0, st_i, st_r, st_f, st_n, st_s, true_and, and_true, ↓ifLeT, ↓ifLeF, ↓ifLtT, ↓ifLtF, ↓ifEqT, ↓ifEqF, if_tt, if_ff, if_pos, if_neg, nLe, nLt, nEq, nInT, nCl, pk_mul, nI_add, Nat.reduceAdd, s_cat_nil, s_cat_i, s_cat_r, s_cat_f, s_cat_l, tl_s, tl_n, cat_i, cat_r, cat_f, nb0, nb1, nbI, if_bI, if_bIr, Nat.zero_le, Nat.reduceLeDiff, M_ob, M_g0, M_g1, M_g2, M_g3, M_g4, M_g5, M_g6, M_g7, M_g8, M_g9, M_g10, M_g11, M_g12, M_g13, M_g14, M_g15, M_g16, M_g17, M_g18, M_g19, M_g20, M_g21, M_g22, M_g23, M_g24, M_g25, M_g26, M_g27, M_g28, M_g29, M_g30, M_g31, M_g32, M_g33, M_g34, M_g35, M_g36, M_g37, M_g38, M_g39, M_g40, M_g41, M_s0, kI_xI, kI_xB, kI_xA, kI_xV, kB_xI, kB_xB, kB_xA, kB_xV, kA_xI, kA_xB, kA_xA, kA_xV, kV_xI, kV_xB, kV_xA, kV_xV, Nat.reduceEqDiff, reduceIte, t1', e1, Option.isSome, iBf]
    exact K _ hm0
  | some j =>
    rw [h1] at e1
    simp only [h1] at K
    obtain ⟨j1, rfl⟩ := ix_some (by omega) h1
    simp (disch := omega) only [u_147_0, u_147_1, u_147_2, u_147_5, u_147_6, u_147_7, u_147_8, u_147_9, u_147_12, u_147_13, u_147_16, u_147_19, u_147_20, u_147_21, u_147_22, u_147_23, u_147_26, u_147_27, gI0, gIs, gR0, gRs, gF0, gFs, st0, st_i, st_r, st_f, st_n, st_s, true_and, and_true, ↓ifLeT, ↓ifLeF, ↓ifLtT, ↓ifLtF, ↓ifEqT, ↓ifEqF, if_tt, if_ff, if_pos, if_neg, nLe, nLt, nEq, nInT, nCl, pk_mul, nI_add, Nat.reduceAdd, s_cat_nil, s_cat_i, s_cat_r, s_cat_f, s_cat_l, tl_s, tl_n, cat_i, cat_r, cat_f, nb0, nb1, nbI, if_bI, if_bIr, Nat.zero_le, Nat.reduceLeDiff, M_ob, M_g0, M_g1, M_g2, M_g3, M_g4, M_g5, M_g6, M_g7, M_g8, M_g9, M_g10, M_g11, M_g12, M_g13, M_g14, M_g15, M_g16, M_g17, M_g18, M_g19, M_g20, M_g21, M_g22, M_g23, M_g24, M_g25, M_g26, M_g27, M_g28, M_g29, M_g30, M_g31, M_g32, M_g33, M_g34, M_g35, M_g36, M_g37, M_g38, M_g39, M_g40, M_g41, M_s0, M_s2, kI_xI, kI_xB, kI_xA, kI_xV, kB_xI, kB_xB, kB_xA, kB_xV, kA_xI, kA_xB, kA_xA, kA_xV, kV_xI, kV_xB, kV_xA, kV_xV, Nat.reduceEqDiff, reduceIte, t1', e1, Option.isSome, iBt, nI10]
    obtain ⟨-, hq, ha, hi, hr⟩ := hm0
    refine K _ ⟨⟨rfl, ?_, fun i hi => ?_⟩, hq, ha, hi, hr⟩
    · show j ≤ 400
      omega
    · have hi : i < j := hi
      exact t3 i (by omega)
end MK2
