/-! the reference's acts -/
theorem keep_get {a : List tN} {n : tN} {j : Nat} {x : tN} (h : (keepA a n)[j]? = some x) (h10 : a.length ≤ 10) : (j < (keepA a n).length - 1 ∧ a[if a.length = 10 then j + 1 else j]? = some x) ∨ (j = (keepA a n).length - 1 ∧ x = n) := by
  unfold keepA at h ⊢
  by_cases e : a.length = 10
  · rw [if_pos e] at h ⊢
    have hl : (a.tail ++ [n]).length = 10 := by rw [List.length_append, List.length_tail, e]; rfl
    rw [hl, if_pos e]
    by_cases g : j < 9
    · left
      refine ⟨g, ?_⟩
      rw [List.getElem?_append_left (by rw [List.length_tail, e]; exact g), List.getElem?_tail] at h
      exact h
    · right
      have hj : j < 10 := by
        have := (List.getElem?_eq_some_iff.mp h).1
        omega
      have ej : j = 9 := by omega
      subst ej
      rw [List.getElem?_append_right (by rw [List.length_tail, e]; decide), List.length_tail, e] at h
      exact ⟨rfl, (Option.some.inj h).symm⟩
  · rw [if_neg e] at h ⊢
    have hl : (a ++ [n]).length = a.length + 1 := by rw [List.length_append]; rfl
    rw [hl, if_neg e]
    by_cases g : j < a.length
    · left
      refine ⟨by omega, ?_⟩
      rw [List.getElem?_append_left g] at h
      exact h
    · right
      have hj : j < a.length + 1 := by
        have := (List.getElem?_eq_some_iff.mp h).1
        omega
      have ej : j = a.length := by omega
      subst ej
      rw [List.getElem?_append_right (Nat.le_refl _), Nat.sub_self] at h
      exact ⟨rfl, (Option.some.inj h).symm⟩
theorem keep_len {a : List tN} {n : tN} (h10 : a.length ≤ 10) : (keepA a n).length = (if a.length = 10 then 9 else a.length) + 1 := by
  unfold keepA
  by_cases e : a.length = 10
  · rw [if_pos e, if_pos e, List.length_append, List.length_tail, e]; rfl
  · rw [if_neg e, if_neg e, List.length_append]; rfl
section MK
variable {b d : Nat} {m : tM} {h : sH} {i x y w c v t : Int32} {Q : sQ} {n n' : tN} {z : tQ} {k : sK}
/-- after an act is kept: the rows of 325 tell it, all else stands -/
def KP (m m' : tM) (L : List tN) : Prop := kI m' 23 = nI L.length ∧ (∀ k, k ≠ 23 → kI m' k = kI m k) ∧ kB m' = kB m ∧ (∀ q, q ≠ 325 → kA m' q = kA m q) ∧ ∀ j a, L[j]? = some a → RR (fun k => kA m' 325 (106 * j + k)) a
theorem shift_lp {f : Nat → Int32} : ∀ q i (g : Nat → Int32), i + q = 1060 → 106 ≤ i → (∀ j, j < 1060 → g j = if j + 106 < i then f (j + 106) else f j) → (∀ g', (∀ j, j < 1060 → g' j = if j + 106 < 1060 then f (j + 106) else f j) → WP d 175 40 [.ref 317, .int (nI 1060)] [] (pM (xA m 325 g') h) (0, 0) Q) → WP d 175 12 [.ref 317, .int (nI i)] [] (pM (xA m 325 g) h) (0, 0) Q := by
  intro q
  induction q with
  | zero =>
    intro i g hi h106 hg K
    have e : i = 1060 := by omega
    subst e
    rw [u_175_12]
    simp (disch := omega) only [u_175_0, u_175_1, u_175_4, u_175_6, u_175_9, u_175_11, u_175_13, u_175_16, u_175_19, u_175_20, u_175_23, u_175_24, u_175_26, u_175_27, u_175_28, u_175_31, u_175_32, u_175_33, u_175_34, u_175_37, u_175_41, u_175_42, u_175_45, u_175_46, u_175_47, u_175_50, u_175_51, u_175_53, u_175_55, u_175_58, u_175_59, u_175_62, u_175_64, u_175_65, u_175_68, u_175_69, u_175_70, u_175_71, u_175_72, u_175_75, u_175_76, u_175_77, u_175_78, u_175_81, u_175_84, u_175_85, u_175_86, u_175_89, u_175_90, u_175_91, u_175_94, gI0, gIs, gR0, gRs, gF0, gFs, st0, st_i, st_r, st_f, st_n, st_s, true_and, and_true, ↓ifLeT, ↓ifLeF, ↓ifLtT, ↓ifLtF, ↓ifEqT, ↓ifEqF, if_tt, if_ff, if_pos, if_neg, nLe, nLt, nEq, nInT, nCl, pk_mul, nI_add, Nat.reduceAdd, s_cat_nil, s_cat_i, s_cat_r, s_cat_f, s_cat_l, tl_s, tl_n, cat_i, cat_r, cat_f, nb0, nb1, nbI, if_bI, if_bIr, Nat.zero_le, Nat.reduceLeDiff]
    exact K g hg
  | succ q ih =>
    intro i g hi h106 hg K
    have sb : nI i - nI 106 = nI (i - 106) := pk_sub h106
    have i1 : vp_in (nI i) 1060 := (nIn (by omega)).mpr (by omega)
    have i2 : vp_in (nI (i - 106)) 1060 := (nIn (by omega)).mpr (by omega)
    have c1 : (nI i).toNatClampNeg = i := nCl (by omega)
    have c2 : (nI (i - 106)).toNatClampNeg = i - 106 := nCl (by omega)
    rw [u_175_12]
    simp (disch := omega) only [u_175_0, u_175_1, u_175_4, u_175_6, u_175_9, u_175_11, u_175_13, u_175_16, u_175_19, u_175_20, u_175_23, u_175_24, u_175_26, u_175_27, u_175_28, u_175_31, u_175_32, u_175_33, u_175_34, u_175_37, u_175_41, u_175_42, u_175_45, u_175_46, u_175_47, u_175_50, u_175_51, u_175_53, u_175_55, u_175_58, u_175_59, u_175_62, u_175_64, u_175_65, u_175_68, u_175_69, u_175_70, u_175_71, u_175_72, u_175_75, u_175_76, u_175_77, u_175_78, u_175_81, u_175_84, u_175_85, u_175_86, u_175_89, u_175_90, u_175_91, u_175_94, gI0, gIs, gR0, gRs, gF0, gFs, st0, st_i, st_r, st_f, st_n, st_s, true_and, and_true, ↓ifLeT, ↓ifLeF, ↓ifLtT, ↓ifLtF, ↓ifEqT, ↓ifEqF, if_tt, if_ff, if_pos, if_neg, nLe, nLt, nEq, nInT, nCl, pk_mul, nI_add, Nat.reduceAdd, s_cat_nil, s_cat_i, s_cat_r, s_cat_f, s_cat_l, tl_s, tl_n, cat_i, cat_r, cat_f, nb0, nb1, nbI, if_bI, if_bIr, Nat.zero_le, Nat.reduceLeDiff, M_g0, M_g1, M_g2, M_g3, M_g4, M_g5, M_g6, M_g7, M_g8, M_g9, M_g10, M_g11, M_g12, M_g13, M_g14, M_g15, M_g16, M_g17, M_g18, M_g19, M_g20, M_g21, M_g22, M_g23, M_g24, M_g25, M_g26, M_g27, M_g28, M_g29, M_g30, M_g31, M_g32, M_g33, M_g34, M_g35, M_g36, M_g37, M_g38, M_g39, M_g40, M_g41, M_a325, M_w325, sb, i1, i2, c1, c2, kA_eq, xA_tw]
    refine ih (i + 1) _ (by omega) (by omega) (fun j hj => ?_) K
    show (if j = i - 106 then g i else g j) = _
    by_cases e : j = i - 106
    · rw [if_pos e, if_pos (by omega), hg i (by omega), if_neg (by omega)]
      congr 1
      omega
    · rw [if_neg e, hg j hj]
      by_cases e2 : j + 106 < i
      · rw [if_pos e2, if_pos (by omega)]
      · rw [if_neg e2, if_neg (by omega)]
theorem put_lp {A : Nat} {f : Nat → Int32} (hA : A < 10) (h23 : kI m 23 = nI A) : ∀ q i (g : Nat → Int32), i + q = 106 → (∀ j, j < 1060 → g j = if 106 * A ≤ j ∧ j < 106 * A + i then kA m 320 (j - 106 * A) else f j) → (∀ g', (∀ j, j < 1060 → g' j = if 106 * A ≤ j ∧ j < 106 * A + 106 then kA m 320 (j - 106 * A) else f j) → Q none (pM (xI (xA m 325 g') 23 (nI (A + 1))) h)) → WP d 175 52 [.ref 317, .int (nI i)] [] (pM (xA m 325 g) h) (0, 0) Q := by
  intro q
  induction q with
  | zero =>
    intro i g hi hg K
    have e : i = 106 := by omega
    subst e
    rw [u_175_52]
    simp (disch := omega) only [u_175_0, u_175_1, u_175_4, u_175_6, u_175_9, u_175_11, u_175_13, u_175_16, u_175_19, u_175_20, u_175_23, u_175_24, u_175_26, u_175_27, u_175_28, u_175_31, u_175_32, u_175_33, u_175_34, u_175_37, u_175_40, u_175_41, u_175_42, u_175_45, u_175_46, u_175_47, u_175_50, u_175_51, u_175_53, u_175_55, u_175_58, u_175_59, u_175_62, u_175_64, u_175_65, u_175_68, u_175_69, u_175_70, u_175_71, u_175_72, u_175_75, u_175_76, u_175_77, u_175_78, u_175_81, u_175_84, u_175_85, u_175_86, u_175_89, u_175_90, u_175_91, u_175_94, gI0, gIs, gR0, gRs, gF0, gFs, st0, st_i, st_r, st_f, st_n, st_s, true_and, and_true, ↓ifLeT, ↓ifLeF, ↓ifLtT, ↓ifLtF, ↓ifEqT, ↓ifEqF, if_tt, if_ff, if_pos, if_neg, nLe, nLt, nEq, nInT, nCl, pk_mul, nI_add, Nat.reduceAdd, s_cat_nil, s_cat_i, s_cat_r, s_cat_f, s_cat_l, tl_s, tl_n, cat_i, cat_r, cat_f, nb0, nb1, nbI, if_bI, if_bIr, Nat.zero_le, Nat.reduceLeDiff, M_g0, M_g1, M_g2, M_g3, M_g4, M_g5, M_g6, M_g7, M_g8, M_g9, M_g10, M_g11, M_g12, M_g13, M_g14, M_g15, M_g16, M_g17, M_g18, M_g19, M_g20, M_g21, M_g22, M_g23, M_g24, M_g25, M_g26, M_g27, M_g28, M_g29, M_g30, M_g31, M_g32, M_g33, M_g34, M_g35, M_g36, M_g37, M_g38, M_g39, M_g40, M_g41, M_s23, kI_xI, kI_xB, kI_xA, kI_xV, kB_xI, kB_xB, kB_xA, kB_xV, kA_xI, kA_xB, kA_xA, kA_xV, kV_xI, kV_xB, kV_xA, kV_xV, Nat.reduceEqDiff, reduceIte, h23]
    exact K g hg
  | succ q ih =>
    intro i g hi hg K
    have i1 : vp_in (nI (106 * A + i)) 1060 := (nIn (by omega)).mpr (by omega)
    have i2 : vp_in (nI i) 106 := (nIn (by omega)).mpr (by omega)
    have c1 : (nI (106 * A + i)).toNatClampNeg = 106 * A + i := nCl (by omega)
    have c2 : (nI i).toNatClampNeg = i := nCl (by omega)
    rw [u_175_52]
    simp (disch := omega) only [u_175_0, u_175_1, u_175_4, u_175_6, u_175_9, u_175_11, u_175_13, u_175_16, u_175_19, u_175_20, u_175_23, u_175_24, u_175_26, u_175_27, u_175_28, u_175_31, u_175_32, u_175_33, u_175_34, u_175_37, u_175_40, u_175_41, u_175_42, u_175_45, u_175_46, u_175_47, u_175_50, u_175_51, u_175_53, u_175_55, u_175_58, u_175_59, u_175_62, u_175_64, u_175_65, u_175_68, u_175_69, u_175_70, u_175_71, u_175_72, u_175_75, u_175_76, u_175_77, u_175_78, u_175_81, u_175_84, u_175_85, u_175_86, u_175_89, u_175_90, u_175_91, u_175_94, gI0, gIs, gR0, gRs, gF0, gFs, st0, st_i, st_r, st_f, st_n, st_s, true_and, and_true, ↓ifLeT, ↓ifLeF, ↓ifLtT, ↓ifLtF, ↓ifEqT, ↓ifEqF, if_tt, if_ff, if_pos, if_neg, nLe, nLt, nEq, nInT, nCl, pk_mul, nI_add, Nat.reduceAdd, s_cat_nil, s_cat_i, s_cat_r, s_cat_f, s_cat_l, tl_s, tl_n, cat_i, cat_r, cat_f, nb0, nb1, nbI, if_bI, if_bIr, Nat.zero_le, Nat.reduceLeDiff, M_g0, M_g1, M_g2, M_g3, M_g4, M_g5, M_g6, M_g7, M_g8, M_g9, M_g10, M_g11, M_g12, M_g13, M_g14, M_g15, M_g16, M_g17, M_g18, M_g19, M_g20, M_g21, M_g22, M_g23, M_g24, M_g25, M_g26, M_g27, M_g28, M_g29, M_g30, M_g31, M_g32, M_g33, M_g34, M_g35, M_g36, M_g37, M_g38, M_g39, M_g40, M_g41, kI_xA, h23, M_a320, M_w325, i1, i2, c1, c2, kA_eq, kA_ne (show (320 : Nat) ≠ 325 by decide), xA_tw]
    refine ih (i + 1) _ (by omega) (fun j hj => ?_) K
    show (if j = 106 * A + i then kA m 320 i else g j) = _
    by_cases e : j = 106 * A + i
    · rw [if_pos e, if_pos (by omega), e, Nat.add_sub_cancel_left]
    · rw [if_neg e, hg j hj]
      by_cases e2 : 106 * A ≤ j ∧ j < 106 * A + i
      · rw [if_pos e2, if_pos (by omega)]
      · rw [if_neg e2, if_neg (by omega)]
theorem r_keeps (hm : RM m z) (hq : zQ z = some n) (K : ∀ m', KP m m' (keepA (zA z) n) → Q none (pM m' h)) : MT (d + 1) 175 [.ref 317] (pM m h) Q := by
  obtain ⟨-, hr, hok⟩ := RM_q hm hq
  obtain ⟨a1, a2, a3⟩ := hm.2.2.1
  have kl := keep_len (n := n) a2
  rw [MT_go (by decide) _ _ _ (Nat.le_of_ble_eq_true rfl), show s_entry 175 [.ref 317] = [.ref 317, s_no] from rfl]
  by_cases e : (zA z).length = 10
  · rw [e] at a1
    rw [if_pos e] at kl
    have s9 : nI 10 - nI 1 = nI 9 := pk_sub (by decide)
    simp (disch := omega) only [u_175_0, u_175_1, u_175_4, u_175_6, u_175_9, u_175_11, u_175_13, u_175_16, u_175_19, u_175_20, u_175_23, u_175_24, u_175_26, u_175_27, u_175_28, u_175_31, u_175_32, u_175_33, u_175_34, u_175_37, u_175_40, u_175_41, u_175_42, u_175_45, u_175_46, u_175_47, u_175_50, u_175_51, u_175_53, u_175_55, u_175_58, u_175_59, u_175_62, u_175_64, u_175_65, u_175_68, u_175_69, u_175_70, u_175_71, u_175_72, u_175_75, u_175_76, u_175_77, u_175_78, u_175_81, u_175_84, u_175_85, u_175_86, u_175_89, u_175_90, u_175_91, u_175_94, gI0, gIs, gR0, gRs, gF0, gFs, st0, st_i, st_r, st_f, st_n, st_s, true_and, and_true, ↓ifLeT, ↓ifLeF, ↓ifLtT, ↓ifLtF, ↓ifEqT, ↓ifEqF, if_tt, if_ff, if_pos, if_neg, nLe, nLt, nEq, nInT, nCl, pk_mul, nI_add, Nat.reduceAdd, s_cat_nil, s_cat_i, s_cat_r, s_cat_f, s_cat_l, tl_s, tl_n, cat_i, cat_r, cat_f, nb0, nb1, nbI, if_bI, if_bIr, Nat.zero_le, Nat.reduceLeDiff, M_g0, M_g1, M_g2, M_g3, M_g4, M_g5, M_g6, M_g7, M_g8, M_g9, M_g10, M_g11, M_g12, M_g13, M_g14, M_g15, M_g16, M_g17, M_g18, M_g19, M_g20, M_g21, M_g22, M_g23, M_g24, M_g25, M_g26, M_g27, M_g28, M_g29, M_g30, M_g31, M_g32, M_g33, M_g34, M_g35, M_g36, M_g37, M_g38, M_g39, M_g40, M_g41, a1]
    have go := fun K => shift_lp (d := d) (m := m) (h := h) (Q := Q) (f := kA m 325) 954 106 (kA m 325) rfl (Nat.le_refl _) (fun j hj => by rw [if_neg (by omega)]) K
    rw [xA_eta] at go
    refine go fun g hg => ?_
    simp (disch := omega) only [u_175_0, u_175_1, u_175_4, u_175_6, u_175_9, u_175_11, u_175_13, u_175_16, u_175_19, u_175_20, u_175_23, u_175_24, u_175_26, u_175_27, u_175_28, u_175_31, u_175_32, u_175_33, u_175_34, u_175_37, u_175_40, u_175_41, u_175_42, u_175_45, u_175_46, u_175_47, u_175_50, u_175_51, u_175_53, u_175_55, u_175_58, u_175_59, u_175_62, u_175_64, u_175_65, u_175_68, u_175_69, u_175_70, u_175_71, u_175_72, u_175_75, u_175_76, u_175_77, u_175_78, u_175_81, u_175_84, u_175_85, u_175_86, u_175_89, u_175_90, u_175_91, u_175_94, gI0, gIs, gR0, gRs, gF0, gFs, st0, st_i, st_r, st_f, st_n, st_s, true_and, and_true, ↓ifLeT, ↓ifLeF, ↓ifLtT, ↓ifLtF, ↓ifEqT, ↓ifEqF, if_tt, if_ff, if_pos, if_neg, nLe, nLt, nEq, nInT, nCl, pk_mul, nI_add, Nat.reduceAdd, s_cat_nil, s_cat_i, s_cat_r, s_cat_f, s_cat_l, tl_s, tl_n, cat_i, cat_r, cat_f, nb0, nb1, nbI, if_bI, if_bIr, Nat.zero_le, Nat.reduceLeDiff, M_g0, M_g1, M_g2, M_g3, M_g4, M_g5, M_g6, M_g7, M_g8, M_g9, M_g10, M_g11, M_g12, M_g13, M_g14, M_g15, M_g16, M_g17, M_g18, M_g19, M_g20, M_g21, M_g22, M_g23, M_g24, M_g25, M_g26, M_g27, M_g28, M_g29, M_g30, M_g31, M_g32, M_g33, M_g34, M_g35, M_g36, M_g37, M_g38, M_g39, M_g40, M_g41, M_s23, kI_xI, kI_xB, kI_xA, kI_xV, kB_xI, kB_xB, kB_xA, kB_xV, kA_xI, kA_xB, kA_xA, kA_xV, kV_xI, kV_xB, kV_xA, kV_xV, Nat.reduceEqDiff, reduceIte, a1, s9]
    refine put_lp (d := d) (m := xI m 23 (nI 9)) (A := 9) (f := g) (by decide) rfl 106 0 g rfl (fun j hj => by rw [if_neg (by omega)]) fun g' hg' => K _ ⟨?_, fun k hk => ?_, rfl, fun q hq => kA_ne hq, fun j a ha => ?_⟩
    · rw [kl]; rfl
    · show (if k = 23 then _ else if k = 23 then _ else kI m k) = _
      rw [if_neg hk, if_neg hk]
    · have el : kA (xI (xA (xI m 23 (nI 9)) 325 g') 23 (nI (9 + 1))) 325 = g' := kA_eq _ _ _
      rw [el]
      rcases keep_get ha a2 with ⟨h1, h2⟩ | ⟨h1, rfl⟩
      · rw [kl] at h1
        rw [if_pos e] at h2
        obtain ⟨r1, r2, -⟩ := a3 _ _ h2
        refine RR_cong r2.1 (fun k hk => ?_) r1
        show g' (106 * j + k) = kA m 325 (106 * (j + 1) + k)
        rw [hg' _ (by omega), if_neg (by omega), hg _ (by omega), if_pos (by omega)]
        congr 1
        omega
      · rw [kl] at h1
        subst h1
        refine RR_cong hok.1 (fun k hk => ?_) hr
        show g' (106 * 9 + k) = _
        rw [hg' _ (by omega), if_pos (by omega), Nat.add_sub_cancel_left]
        rfl
  · rw [if_neg e] at kl
    have ne : ¬ nI (zA z).length = nI 10 := fun q => e ((nI_eq (by omega) (by omega)).mp q)
    simp (disch := omega) only [u_175_0, u_175_1, u_175_4, u_175_6, u_175_9, u_175_11, u_175_13, u_175_16, u_175_19, u_175_20, u_175_23, u_175_24, u_175_26, u_175_27, u_175_28, u_175_31, u_175_32, u_175_33, u_175_34, u_175_37, u_175_40, u_175_41, u_175_42, u_175_45, u_175_46, u_175_47, u_175_50, u_175_51, u_175_53, u_175_55, u_175_58, u_175_59, u_175_62, u_175_64, u_175_65, u_175_68, u_175_69, u_175_70, u_175_71, u_175_72, u_175_75, u_175_76, u_175_77, u_175_78, u_175_81, u_175_84, u_175_85, u_175_86, u_175_89, u_175_90, u_175_91, u_175_94, gI0, gIs, gR0, gRs, gF0, gFs, st0, st_i, st_r, st_f, st_n, st_s, true_and, and_true, ↓ifLeT, ↓ifLeF, ↓ifLtT, ↓ifLtF, ↓ifEqT, ↓ifEqF, if_tt, if_ff, if_pos, if_neg, nLe, nLt, nEq, nInT, nCl, pk_mul, nI_add, Nat.reduceAdd, s_cat_nil, s_cat_i, s_cat_r, s_cat_f, s_cat_l, tl_s, tl_n, cat_i, cat_r, cat_f, nb0, nb1, nbI, if_bI, if_bIr, Nat.zero_le, Nat.reduceLeDiff, M_g0, M_g1, M_g2, M_g3, M_g4, M_g5, M_g6, M_g7, M_g8, M_g9, M_g10, M_g11, M_g12, M_g13, M_g14, M_g15, M_g16, M_g17, M_g18, M_g19, M_g20, M_g21, M_g22, M_g23, M_g24, M_g25, M_g26, M_g27, M_g28, M_g29, M_g30, M_g31, M_g32, M_g33, M_g34, M_g35, M_g36, M_g37, M_g38, M_g39, M_g40, M_g41, a1, ne, reduceIte]
    have go := fun K => put_lp (d := d) (m := m) (h := h) (Q := Q) (A := (zA z).length) (f := kA m 325) (by omega) a1 106 0 (kA m 325) rfl (fun j hj => by rw [if_neg (by omega)]) K
    rw [xA_eta] at go
    refine go fun g' hg' => K _ ⟨?_, fun k hk => ?_, rfl, fun q hq => kA_ne hq, fun j a ha => ?_⟩
    · rw [kl]; rfl
    · show (if k = 23 then _ else kI m k) = _
      rw [if_neg hk]
    · have el : kA (xI (xA m 325 g') 23 (nI ((zA z).length + 1))) 325 = g' := kA_eq _ _ _
      rw [el]
      rcases keep_get ha a2 with ⟨h1, h2⟩ | ⟨h1, rfl⟩
      · rw [kl] at h1
        rw [if_neg e] at h2
        obtain ⟨r1, r2, -⟩ := a3 _ _ h2
        refine RR_cong r2.1 (fun k hk => ?_) r1
        show g' (106 * j + k) = kA m 325 (106 * j + k)
        rw [hg' _ (by omega), if_neg (by omega)]
      · rw [kl] at h1
        have h1 : j = (zA z).length := h1
        subst h1
        refine RR_cong hok.1 (fun k hk => ?_) hr
        show g' (106 * (zA z).length + k) = _
        rw [hg' _ (by omega), if_pos (by omega), Nat.add_sub_cancel_left]
/-- an act is done -/
theorem RM_act {m1 m2 : tM} (hm : RM m z) (hq : zQ z = some n) (hk : KP m m1 (keepA (zA z) n)) (hi : ∀ k, keyI k → kI m2 k = kI m1 k) (hB : kB m2 = kB m1) (ha : ∀ q, keyA q → q ≠ 320 → kA m2 q = kA m1 q) (hr : RR (kA m2 320) n') (hok' : okQ n') (hs : sameQ n n') : RM m2 (actZ z n n') := by
  obtain ⟨⟨t1, t2, t3⟩, ⟨q1, q2⟩, ⟨a1, a2, a3⟩, ⟨i1, i2⟩, hrf⟩ := hm
  obtain ⟨k1, k2, k3, k4, k5⟩ := hk
  obtain ⟨⟨g1, g2, g3, g4⟩, -, hok⟩ := q2 n hq
  have kk : ∀ k, keyI k → k ≠ 23 → kI m2 k = kI m k := fun k h1 h2 => (hi k h1).trans (k2 k h2)
  have aa : ∀ q, keyA q → q ≠ 320 → q ≠ 325 → kA m2 q = kA m q := fun q h1 h2 h3 => (ha q h1 h2).trans (k4 q h3)
  have kl := keep_len (n := n) a2
  refine ⟨⟨(kk 2 (by unfold keyI; decide) (by decide)).trans t1, t2, fun j hj => ?_⟩, ⟨?_, fun n2 hn2 => ?_⟩, ⟨(hi 23 (by unfold keyI; decide)).trans k1, ?_, fun j a e => ?_⟩, ⟨?_, fun a e => ?_⟩, fun k hk => ?_⟩
  · rw [aa 318 (by unfold keyA; decide) (by decide) (by decide)]; exact t3 j hj
  · rw [hB, k3, q1, hq]; rfl
  · cases hn2
    refine ⟨⟨?_, ?_, ?_, fun c hc => ?_⟩, hr, hok'⟩
    · rw [kk 8 (by unfold keyI; decide) (by decide), g1, hs.1]
    · rw [kk 9 (by unfold keyI; decide) (by decide), g2, hs.2.1]
    · rw [kk 10 (by unfold keyI; decide) (by decide), g3, hs.2.2.1]
    · rw [aa 319 (by unfold keyA; decide) (by decide) (by decide)]
      have hc' : c < nF n 2 := by rw [hs.2.2.1]; exact hc
      rw [g4 c hc', hs.2.2.2 c hc]
  · show (keepA (zA z) n).length ≤ 10
    rw [kl]; split <;> omega
  · have e' : (keepA (zA z) n)[j]? = some a := e
    rw [ha 325 (by unfold keyA; decide) (by decide)]
    refine ⟨k5 j a e', ?_⟩
    rcases keep_get e' a2 with ⟨h1, h2⟩ | ⟨h1, rfl⟩
    · obtain ⟨-, r2, n3, r3, r4⟩ := a3 _ _ h2
      rw [hq] at r3
      cases r3
      exact ⟨r2, n', rfl, sameQ_t r4 hs⟩
    · exact ⟨hok, n', rfl, hs⟩
  · rw [hB, k3]; exact i1
  · rw [aa 333 (by unfold keyA; decide) (by decide) (by decide)]
    obtain ⟨r1, r2, n3, r3, r4⟩ := i2 a e
    rw [hq] at r3
    cases r3
    exact ⟨r1, r2, n', rfl, sameQ_t r4 hs⟩
  · rw [aa 326 (by unfold keyA; decide) (by decide) (by decide)]; exact hrf k hk
theorem z_ref {k : Nat} (hm : RM m z) (hk : k < 4) (K : ∀ m', RM m' (refZ z k) → Q (some (.int (-1))) (pM m' h)) : MT (d + 1) 177 [.ref 317, .int (nI k)] (pM m h) Q := by
  have i4 : vp_in (nI k) 4 := (nIn (by omega)).mpr hk
  rw [MT_go (by decide) _ _ _ (Nat.le_of_ble_eq_true rfl), show s_entry 177 [.ref 317, .int (nI k)] = [.ref 317, .int (nI k)] from rfl]
  simp (disch := omega) only [u_177_0, u_177_1, u_177_4, u_177_5, u_177_6, u_177_7, u_177_8, u_177_9, u_177_10, u_177_11, gI0, gIs, gR0, gRs, gF0, gFs, st0, st_i, st_r, st_f, st_n, st_s, true_and, and_true, ↓ifLeT, ↓ifLeF, ↓ifLtT, ↓ifLtF, ↓ifEqT, ↓ifEqF, if_tt, if_ff, if_pos, if_neg, nLe, nLt, nEq, nInT, nCl, pk_mul, nI_add, Nat.reduceAdd, s_cat_nil, s_cat_i, s_cat_r, s_cat_f, s_cat_l, tl_s, tl_n, cat_i, cat_r, cat_f, nb0, nb1, nbI, if_bI, if_bIr, Nat.zero_le, Nat.reduceLeDiff, M_g0, M_g1, M_g2, M_g3, M_g4, M_g5, M_g6, M_g7, M_g8, M_g9, M_g10, M_g11, M_g12, M_g13, M_g14, M_g15, M_g16, M_g17, M_g18, M_g19, M_g20, M_g21, M_g22, M_g23, M_g24, M_g25, M_g26, M_g27, M_g28, M_g29, M_g30, M_g31, M_g32, M_g33, M_g34, M_g35, M_g36, M_g37, M_g38, M_g39, M_g40, M_g41, M_a326, M_w326, i4]
  refine K _ ?_
  obtain ⟨⟨t1, t2, t3⟩, ⟨q1, q2⟩, ⟨a1, a2, a3⟩, ⟨i1, i2⟩, hr⟩ := hm
  refine ⟨⟨t1, t2, t3⟩, ⟨q1, q2⟩, ⟨a1, a2, a3⟩, ⟨i1, i2⟩, fun j hj => ?_⟩
  show (if j = k then kA m 326 k + nI 1 else kA m 326 j) = if j = k then zR z k + 1 else zR z j
  by_cases e : j = k
  · rw [if_pos e, if_pos e, hr k hk]; rfl
  · rw [if_neg e, if_neg e]; exact hr j hj
theorem in_1 {N : Nat} {L : Int64} (h0 : 0 < N) (hN : N < 2 ^ 30) (hL : (nI N).toInt64 = L) : MT (d + 1) 142 [.long x.toInt64, .long 1, .long L] h Q ↔ Q (some (.int (iB (ixN (x - nI 1) N).isSome))) h := by
  rw [m_in, ← hL, show (1 : Int64) = (nI 1).toInt64 by decide]
  have e : (decide ((nI 1).toInt64 ≤ x.toInt64) && decide (x.toInt64 ≤ (nI N).toInt64)) = (ixN (x - nI 1) N).isSome := by
    have e1 : decide ((nI 1).toInt64 ≤ x.toInt64) = decide (nI 1 ≤ x) := decide_eq_decide.mpr i2l_le
    have e2 : decide (x.toInt64 ≤ (nI N).toInt64) = decide (x ≤ nI N) := decide_eq_decide.mpr i2l_le
    rw [e1, e2]
    cases hx : ixN (x - nI 1) N with
    | none =>
      rw [Option.isSome_none, Bool.and_eq_false_iff, decide_eq_false_iff_not, decide_eq_false_iff_not]
      rcases ix1_none hN hx with a | ⟨-, -, a⟩
      · exact Or.inl (Int32.not_le.mpr a)
      · exact Or.inr a
    | some j =>
      obtain ⟨h1, rfl⟩ := ix1_some hN hx
      rw [Option.isSome_some, decide_eq_true (nI_le (by omega) (by omega)), decide_eq_true (nI_le (by omega) (by omega))]
      rfl
  rw [e]
theorem zgo_lp {N : Nat} (hN : N < 2 ^ 20) (hn : wfN n) : ∀ q k m, k + q = N → MG m (runN k n) → RR (kA m 320) (runN k n) → (∀ m', frM 320 m m' → RR (kA m' 320) (runN N n) → WP (d + 8) 196 75 [.ref 317, .int (nI N), .int (nI N)] [] (pM m' h) (0, 0) Q) → WP (d + 8) 196 56 [.ref 317, .int (nI N), .int (nI k)] [] (pM m h) (0, 0) Q := by
  intro q
  induction q with
  | zero =>
    intro k m hk hg hr K
    have e : k = N := by omega
    subst e
    rw [u_196_56]
    simp (disch := omega) only [u_196_0, u_196_1, u_196_2, u_196_5, u_196_6, u_196_9, u_196_12, u_196_13, u_196_14, u_196_17, u_196_18, u_196_19, u_196_20, u_196_21, u_196_24, u_196_27, u_196_30, u_196_31, u_196_34, u_196_35, u_196_36, u_196_37, u_196_38, u_196_41, u_196_44, u_196_45, u_196_46, u_196_49, u_196_50, u_196_51, u_196_54, u_196_55, u_196_57, u_196_58, u_196_61, u_196_62, u_196_63, u_196_66, u_196_69, u_196_72, u_196_76, u_196_79, u_196_80, u_196_81, gI0, gIs, gR0, gRs, gF0, gFs, st0, st_i, st_r, st_f, st_n, st_s, true_and, and_true, ↓ifLeT, ↓ifLeF, ↓ifLtT, ↓ifLtF, ↓ifEqT, ↓ifEqF, if_tt, if_ff, if_pos, if_neg, nLe, nLt, nEq, nInT, nCl, pk_mul, nI_add, Nat.reduceAdd, s_cat_nil, s_cat_i, s_cat_r, s_cat_f, s_cat_l, tl_s, tl_n, cat_i, cat_r, cat_f, nb0, nb1, nbI, if_bI, if_bIr, Nat.zero_le, Nat.reduceLeDiff]
    exact K m frM_r hr
  | succ q ih =>
    intro k m hk hg hr K
    rw [u_196_56]
    simp (disch := omega) only [u_196_0, u_196_1, u_196_2, u_196_5, u_196_6, u_196_9, u_196_12, u_196_13, u_196_14, u_196_17, u_196_18, u_196_19, u_196_20, u_196_21, u_196_24, u_196_27, u_196_30, u_196_31, u_196_34, u_196_35, u_196_36, u_196_37, u_196_38, u_196_41, u_196_44, u_196_45, u_196_46, u_196_49, u_196_50, u_196_51, u_196_54, u_196_55, u_196_57, u_196_58, u_196_61, u_196_62, u_196_63, u_196_66, u_196_69, u_196_72, u_196_76, u_196_79, u_196_80, u_196_81, gI0, gIs, gR0, gRs, gF0, gFs, st0, st_i, st_r, st_f, st_n, st_s, true_and, and_true, ↓ifLeT, ↓ifLeF, ↓ifLtT, ↓ifLtF, ↓ifEqT, ↓ifEqF, if_tt, if_ff, if_pos, if_neg, nLe, nLt, nEq, nInT, nCl, pk_mul, nI_add, Nat.reduceAdd, s_cat_nil, s_cat_i, s_cat_r, s_cat_f, s_cat_l, tl_s, tl_n, cat_i, cat_r, cat_f, nb0, nb1, nbI, if_bI, if_bIr, Nat.zero_le, Nat.reduceLeDiff, M_ob, M_g0, M_g1, M_g2, M_g3, M_g4, M_g5, M_g6, M_g7, M_g8, M_g9, M_g10, M_g11, M_g12, M_g13, M_g14, M_g15, M_g16, M_g17, M_g18, M_g19, M_g20, M_g21, M_g22, M_g23, M_g24, M_g25, M_g26, M_g27, M_g28, M_g29, M_g30, M_g31, M_g32, M_g33, M_g34, M_g35, M_g36, M_g37, M_g38, M_g39, M_g40, M_g41]
    refine r_minute (d := d) rb320 (wf_run hn k) hg hr fun m1 f1 r1 d1 => ?_
    simp (disch := omega) only [u_196_0, u_196_1, u_196_2, u_196_5, u_196_6, u_196_9, u_196_12, u_196_13, u_196_14, u_196_17, u_196_18, u_196_19, u_196_20, u_196_21, u_196_24, u_196_27, u_196_30, u_196_31, u_196_34, u_196_35, u_196_36, u_196_37, u_196_38, u_196_41, u_196_44, u_196_45, u_196_46, u_196_49, u_196_50, u_196_51, u_196_54, u_196_55, u_196_57, u_196_58, u_196_61, u_196_62, u_196_63, u_196_66, u_196_69, u_196_72, u_196_76, u_196_79, u_196_80, u_196_81, gI0, gIs, gR0, gRs, gF0, gFs, st0, st_i, st_r, st_f, st_n, st_s, true_and, and_true, ↓ifLeT, ↓ifLeF, ↓ifLtT, ↓ifLtF, ↓ifEqT, ↓ifEqF, if_tt, if_ff, if_pos, if_neg, nLe, nLt, nEq, nInT, nCl, pk_mul, nI_add, Nat.reduceAdd, s_cat_nil, s_cat_i, s_cat_r, s_cat_f, s_cat_l, tl_s, tl_n, cat_i, cat_r, cat_f, nb0, nb1, nbI, if_bI, if_bIr, Nat.zero_le, Nat.reduceLeDiff]
    exact ih (k + 1) m1 (by omega) (by rw [run_succ]; exact MG_fr rb320 hg f1) (by rw [run_succ]; exact r1) fun m' f2 => K m' (frM_t f1 f2)
theorem KP_MG {m1 : tM} {L : List tN} (hg : MG m n) (hk : KP m m1 L) : MG m1 n := by
  obtain ⟨-, k2, -, k4, -⟩ := hk
  obtain ⟨g1, g2, g3, g4⟩ := hg
  exact ⟨(k2 8 (by decide)).trans g1, (k2 9 (by decide)).trans g2, (k2 10 (by decide)).trans g3, fun c hc => by rw [k4 319 (by decide)]; exact g4 c hc⟩
theorem z_go (hm : RM m z) (K : ∀ m', RM m' (zgo z x).2 → Q (some (.int (zgo z x).1)) (pM m' h)) : MT (d + 9) 196 [.ref 317, .int x] (pM m h) Q := by
  rw [MT_go (by decide) _ _ _ (Nat.le_of_ble_eq_true rfl), show s_entry 196 [.ref 317, .int x] = [.ref 317, .int x, s_no] from rfl]
  have hm0 := RM_0 (x := nI 0) hm
  have q1 := hm.2.1.1
  have c0 : (nI 0).toNatClampNeg = 0 := rfl
  have in100 : ∀ {h : sH} {Q : sQ}, MT (d + 8) 142 [.long x.toInt64, .long 1, .long 100] h Q ↔ Q (some (.int (iB (ixN (x - nI 1) 100).isSome))) h := fun {h} {Q} => in_1 (by decide) (by decide) (by decide)
  unfold zgo at K
  cases hq : zQ z with
  | none =>
    simp only [hq] at K
    rw [hq] at q1
    simp (disch := omega) only [u_196_0, u_196_1, u_196_2, u_196_5, u_196_6, u_196_9, u_196_12, u_196_13, u_196_14, u_196_17, u_196_18, u_196_19, u_196_20, u_196_21, u_196_24, u_196_27, u_196_30, u_196_31, u_196_34, u_196_35, u_196_36, u_196_37, u_196_38, u_196_41, u_196_44, u_196_45, u_196_46, u_196_49, u_196_50, u_196_51, u_196_54, u_196_55, u_196_57, u_196_58, u_196_61, u_196_62, u_196_63, u_196_66, u_196_69, u_196_72, u_196_75, u_196_76, u_196_79, u_196_80, u_196_81, gI0, gIs, gR0, gRs, gF0, gFs, st0, st_i, st_r, st_f, st_n, st_s, true_and, and_true, ↓ifLeT, ↓ifLeF, ↓ifLtT, ↓ifLtF, ↓ifEqT, ↓ifEqF, if_tt, if_ff, if_pos, if_neg, nLe, nLt, nEq, nInT, nCl, pk_mul, nI_add, Nat.reduceAdd, s_cat_nil, s_cat_i, s_cat_r, s_cat_f, s_cat_l, tl_s, tl_n, cat_i, cat_r, cat_f, nb0, nb1, nbI, if_bI, if_bIr, Nat.zero_le, Nat.reduceLeDiff, M_ob, M_g0, M_g1, M_g2, M_g3, M_g4, M_g5, M_g6, M_g7, M_g8, M_g9, M_g10, M_g11, M_g12, M_g13, M_g14, M_g15, M_g16, M_g17, M_g18, M_g19, M_g20, M_g21, M_g22, M_g23, M_g24, M_g25, M_g26, M_g27, M_g28, M_g29, M_g30, M_g31, M_g32, M_g33, M_g34, M_g35, M_g36, M_g37, M_g38, M_g39, M_g40, M_g41, M_s0, kI_xI, kI_xB, kI_xA, kI_xV, kB_xI, kB_xB, kB_xA, kB_xV, kA_xI, kA_xB, kA_xA, kA_xV, kV_xI, kV_xB, kV_xA, kV_xV, Nat.reduceEqDiff, reduceIte, q1, Option.isSome, iBf]
    refine z_ref (k := 0) hm0 (by decide) fun m' hm' => ?_
    simp (disch := omega) only [u_196_0, u_196_1, u_196_2, u_196_5, u_196_6, u_196_9, u_196_12, u_196_13, u_196_14, u_196_17, u_196_18, u_196_19, u_196_20, u_196_21, u_196_24, u_196_27, u_196_30, u_196_31, u_196_34, u_196_35, u_196_36, u_196_37, u_196_38, u_196_41, u_196_44, u_196_45, u_196_46, u_196_49, u_196_50, u_196_51, u_196_54, u_196_55, u_196_57, u_196_58, u_196_61, u_196_62, u_196_63, u_196_66, u_196_69, u_196_72, u_196_75, u_196_76, u_196_79, u_196_80, u_196_81, gI0, gIs, gR0, gRs, gF0, gFs, st0, st_i, st_r, st_f, st_n, st_s, true_and, and_true, ↓ifLeT, ↓ifLeF, ↓ifLtT, ↓ifLtF, ↓ifEqT, ↓ifEqF, if_tt, if_ff, if_pos, if_neg, nLe, nLt, nEq, nInT, nCl, pk_mul, nI_add, Nat.reduceAdd, s_cat_nil, s_cat_i, s_cat_r, s_cat_f, s_cat_l, tl_s, tl_n, cat_i, cat_r, cat_f, nb0, nb1, nbI, if_bI, if_bIr, Nat.zero_le, Nat.reduceLeDiff]
    exact K m' hm'
  | some n =>
    simp only [hq] at K
    rw [hq] at q1
    obtain ⟨hg, hr, hok⟩ := RM_q hm0 hq
    have f4 : kA m 320 0 = nI (nF n 4) := hr.1
    have h500 := hok.2.2.1
    cases h1 : ixN (x - nI 1) 100 with
    | none =>
      simp only [h1] at K
      simp (disch := omega) only [u_196_0, u_196_1, u_196_2, u_196_5, u_196_6, u_196_9, u_196_12, u_196_13, u_196_14, u_196_17, u_196_18, u_196_19, u_196_20, u_196_21, u_196_24, u_196_27, u_196_30, u_196_31, u_196_34, u_196_35, u_196_36, u_196_37, u_196_38, u_196_41, u_196_44, u_196_45, u_196_46, u_196_49, u_196_50, u_196_51, u_196_54, u_196_55, u_196_57, u_196_58, u_196_61, u_196_62, u_196_63, u_196_66, u_196_69, u_196_72, u_196_75, u_196_76, u_196_79, u_196_80, u_196_81, gI0, gIs, gR0, gRs, gF0, gFs, st0, st_i, st_r, st_f, st_n, st_s, true_and, and_true, ↓ifLeT, ↓ifLeF, ↓ifLtT, ↓ifLtF, ↓ifEqT, ↓ifEqF, if_tt, if_ff, if_pos, if_neg, nLe, nLt, nEq, nInT, nCl, pk_mul, nI_add, Nat.reduceAdd, s_cat_nil, s_cat_i, s_cat_r, s_cat_f, s_cat_l, tl_s, tl_n, cat_i, cat_r, cat_f, nb0, nb1, nbI, if_bI, if_bIr, Nat.zero_le, Nat.reduceLeDiff, M_ob, M_g0, M_g1, M_g2, M_g3, M_g4, M_g5, M_g6, M_g7, M_g8, M_g9, M_g10, M_g11, M_g12, M_g13, M_g14, M_g15, M_g16, M_g17, M_g18, M_g19, M_g20, M_g21, M_g22, M_g23, M_g24, M_g25, M_g26, M_g27, M_g28, M_g29, M_g30, M_g31, M_g32, M_g33, M_g34, M_g35, M_g36, M_g37, M_g38, M_g39, M_g40, M_g41, M_s0, kI_xI, kI_xB, kI_xA, kI_xV, kB_xI, kB_xB, kB_xA, kB_xV, kA_xI, kA_xB, kA_xA, kA_xV, kV_xI, kV_xB, kV_xA, kV_xV, Nat.reduceEqDiff, reduceIte, q1, in100, h1, Option.isSome, iBt, iBf, nI10]
      refine z_ref (k := 1) hm0 (by decide) fun m' hm' => ?_
      simp (disch := omega) only [u_196_0, u_196_1, u_196_2, u_196_5, u_196_6, u_196_9, u_196_12, u_196_13, u_196_14, u_196_17, u_196_18, u_196_19, u_196_20, u_196_21, u_196_24, u_196_27, u_196_30, u_196_31, u_196_34, u_196_35, u_196_36, u_196_37, u_196_38, u_196_41, u_196_44, u_196_45, u_196_46, u_196_49, u_196_50, u_196_51, u_196_54, u_196_55, u_196_57, u_196_58, u_196_61, u_196_62, u_196_63, u_196_66, u_196_69, u_196_72, u_196_75, u_196_76, u_196_79, u_196_80, u_196_81, gI0, gIs, gR0, gRs, gF0, gFs, st0, st_i, st_r, st_f, st_n, st_s, true_and, and_true, ↓ifLeT, ↓ifLeF, ↓ifLtT, ↓ifLtF, ↓ifEqT, ↓ifEqF, if_tt, if_ff, if_pos, if_neg, nLe, nLt, nEq, nInT, nCl, pk_mul, nI_add, Nat.reduceAdd, s_cat_nil, s_cat_i, s_cat_r, s_cat_f, s_cat_l, tl_s, tl_n, cat_i, cat_r, cat_f, nb0, nb1, nbI, if_bI, if_bIr, Nat.zero_le, Nat.reduceLeDiff]
      exact K m' hm'
    | some j =>
      simp only [h1] at K
      have h1' := h1
      obtain ⟨j1, e1⟩ := ix1_some (by decide) h1
      have in100' := fun (h : sH) (Q : sQ) => in100 (h := h) (Q := Q)
      rw [h1, e1] at in100'
      subst e1
      by_cases h2 : nF n 4 + (j + 1) ≤ 500
      · simp only [if_pos h2] at K
        simp (disch := omega) only [u_196_0, u_196_1, u_196_2, u_196_5, u_196_6, u_196_9, u_196_12, u_196_13, u_196_14, u_196_17, u_196_18, u_196_19, u_196_20, u_196_21, u_196_24, u_196_27, u_196_30, u_196_31, u_196_34, u_196_35, u_196_36, u_196_37, u_196_38, u_196_41, u_196_44, u_196_45, u_196_46, u_196_49, u_196_50, u_196_51, u_196_54, u_196_55, u_196_57, u_196_58, u_196_61, u_196_62, u_196_63, u_196_66, u_196_69, u_196_72, u_196_75, u_196_76, u_196_79, u_196_80, u_196_81, gI0, gIs, gR0, gRs, gF0, gFs, st0, st_i, st_r, st_f, st_n, st_s, true_and, and_true, ↓ifLeT, ↓ifLeF, ↓ifLtT, ↓ifLtF, ↓ifEqT, ↓ifEqF, if_tt, if_ff, if_pos, if_neg, nLe, nLt, nEq, nInT, nCl, pk_mul, nI_add, Nat.reduceAdd, s_cat_nil, s_cat_i, s_cat_r, s_cat_f, s_cat_l, tl_s, tl_n, cat_i, cat_r, cat_f, nb0, nb1, nbI, if_bI, if_bIr, Nat.zero_le, Nat.reduceLeDiff, M_ob, M_g0, M_g1, M_g2, M_g3, M_g4, M_g5, M_g6, M_g7, M_g8, M_g9, M_g10, M_g11, M_g12, M_g13, M_g14, M_g15, M_g16, M_g17, M_g18, M_g19, M_g20, M_g21, M_g22, M_g23, M_g24, M_g25, M_g26, M_g27, M_g28, M_g29, M_g30, M_g31, M_g32, M_g33, M_g34, M_g35, M_g36, M_g37, M_g38, M_g39, M_g40, M_g41, M_s0, kI_xI, kI_xB, kI_xA, kI_xV, kB_xI, kB_xB, kB_xA, kB_xV, kA_xI, kA_xB, kA_xA, kA_xV, kV_xI, kV_xB, kV_xA, kV_xV, Nat.reduceEqDiff, reduceIte, q1, in100', Option.isSome, iBt, nI10, M_r rb320, c0, f4]
        refine r_keeps (d := d + 7) hm0 hq fun m1 kp => ?_
        simp (disch := omega) only [u_196_0, u_196_1, u_196_2, u_196_5, u_196_6, u_196_9, u_196_12, u_196_13, u_196_14, u_196_17, u_196_18, u_196_19, u_196_20, u_196_21, u_196_24, u_196_27, u_196_30, u_196_31, u_196_34, u_196_35, u_196_36, u_196_37, u_196_38, u_196_41, u_196_44, u_196_45, u_196_46, u_196_49, u_196_50, u_196_51, u_196_54, u_196_55, u_196_57, u_196_58, u_196_61, u_196_62, u_196_63, u_196_66, u_196_69, u_196_72, u_196_75, u_196_76, u_196_79, u_196_80, u_196_81, gI0, gIs, gR0, gRs, gF0, gFs, st0, st_i, st_r, st_f, st_n, st_s, true_and, and_true, ↓ifLeT, ↓ifLeF, ↓ifLtT, ↓ifLtF, ↓ifEqT, ↓ifEqF, if_tt, if_ff, if_pos, if_neg, nLe, nLt, nEq, nInT, nCl, pk_mul, nI_add, Nat.reduceAdd, s_cat_nil, s_cat_i, s_cat_r, s_cat_f, s_cat_l, tl_s, tl_n, cat_i, cat_r, cat_f, nb0, nb1, nbI, if_bI, if_bIr, Nat.zero_le, Nat.reduceLeDiff]
        have hr1 : RR (kA m1 320) n := by rw [kp.2.2.2.1 320 (by decide)]; exact hr
        refine zgo_lp (d := d) (by omega) hok.1 (j + 1) 0 m1 (Nat.zero_add _) (KP_MG hg kp) hr1 fun m2 f2 r2 => ?_
        have r0 : kA m2 320 0 = nI (nF n 4 + (j + 1)) := by rw [← run_M]; exact r2.1
        simp (disch := omega) only [u_196_0, u_196_1, u_196_2, u_196_5, u_196_6, u_196_9, u_196_12, u_196_13, u_196_14, u_196_17, u_196_18, u_196_19, u_196_20, u_196_21, u_196_24, u_196_27, u_196_30, u_196_31, u_196_34, u_196_35, u_196_36, u_196_37, u_196_38, u_196_41, u_196_44, u_196_45, u_196_46, u_196_49, u_196_50, u_196_51, u_196_54, u_196_55, u_196_57, u_196_58, u_196_61, u_196_62, u_196_63, u_196_66, u_196_69, u_196_72, u_196_75, u_196_76, u_196_79, u_196_80, u_196_81, gI0, gIs, gR0, gRs, gF0, gFs, st0, st_i, st_r, st_f, st_n, st_s, true_and, and_true, ↓ifLeT, ↓ifLeF, ↓ifLtT, ↓ifLtF, ↓ifEqT, ↓ifEqF, if_tt, if_ff, if_pos, if_neg, nLe, nLt, nEq, nInT, nCl, pk_mul, nI_add, Nat.reduceAdd, s_cat_nil, s_cat_i, s_cat_r, s_cat_f, s_cat_l, tl_s, tl_n, cat_i, cat_r, cat_f, nb0, nb1, nbI, if_bI, if_bIr, Nat.zero_le, Nat.reduceLeDiff, M_g0, M_g1, M_g2, M_g3, M_g4, M_g5, M_g6, M_g7, M_g8, M_g9, M_g10, M_g11, M_g12, M_g13, M_g14, M_g15, M_g16, M_g17, M_g18, M_g19, M_g20, M_g21, M_g22, M_g23, M_g24, M_g25, M_g26, M_g27, M_g28, M_g29, M_g30, M_g31, M_g32, M_g33, M_g34, M_g35, M_g36, M_g37, M_g38, M_g39, M_g40, M_g41, M_r rb320, c0, r0]
        exact K m2 (RM_act hm0 hq kp (fun k _ => f2.1 k) f2.2.1 (fun q hq hn => f2.2.2 q hn (by unfold keyA at hq; omega)) r2 (ok_run hok h2) same_run)
      · simp only [if_neg h2] at K
        have h3 : ¬ nI (nF n 4 + (j + 1)) ≤ nI 500 := nI_ge (by omega) (by omega)
        simp (disch := omega) only [u_196_0, u_196_1, u_196_2, u_196_5, u_196_6, u_196_9, u_196_12, u_196_13, u_196_14, u_196_17, u_196_18, u_196_19, u_196_20, u_196_21, u_196_24, u_196_27, u_196_30, u_196_31, u_196_34, u_196_35, u_196_36, u_196_37, u_196_38, u_196_41, u_196_44, u_196_45, u_196_46, u_196_49, u_196_50, u_196_51, u_196_54, u_196_55, u_196_57, u_196_58, u_196_61, u_196_62, u_196_63, u_196_66, u_196_69, u_196_72, u_196_75, u_196_76, u_196_79, u_196_80, u_196_81, gI0, gIs, gR0, gRs, gF0, gFs, st0, st_i, st_r, st_f, st_n, st_s, true_and, and_true, ↓ifLeT, ↓ifLeF, ↓ifLtT, ↓ifLtF, ↓ifEqT, ↓ifEqF, if_tt, if_ff, if_pos, if_neg, nLe, nLt, nEq, nInT, nCl, pk_mul, nI_add, Nat.reduceAdd, s_cat_nil, s_cat_i, s_cat_r, s_cat_f, s_cat_l, tl_s, tl_n, cat_i, cat_r, cat_f, nb0, nb1, nbI, if_bI, if_bIr, Nat.zero_le, Nat.reduceLeDiff, M_ob, M_g0, M_g1, M_g2, M_g3, M_g4, M_g5, M_g6, M_g7, M_g8, M_g9, M_g10, M_g11, M_g12, M_g13, M_g14, M_g15, M_g16, M_g17, M_g18, M_g19, M_g20, M_g21, M_g22, M_g23, M_g24, M_g25, M_g26, M_g27, M_g28, M_g29, M_g30, M_g31, M_g32, M_g33, M_g34, M_g35, M_g36, M_g37, M_g38, M_g39, M_g40, M_g41, M_s0, kI_xI, kI_xB, kI_xA, kI_xV, kB_xI, kB_xB, kB_xA, kB_xV, kA_xI, kA_xB, kA_xA, kA_xV, kV_xI, kV_xB, kV_xA, kV_xV, Nat.reduceEqDiff, reduceIte, q1, in100', Option.isSome, iBt, nI10, M_r rb320, c0, f4, h3]
        refine z_ref (k := 1) hm0 (by decide) fun m' hm' => ?_
        simp (disch := omega) only [u_196_0, u_196_1, u_196_2, u_196_5, u_196_6, u_196_9, u_196_12, u_196_13, u_196_14, u_196_17, u_196_18, u_196_19, u_196_20, u_196_21, u_196_24, u_196_27, u_196_30, u_196_31, u_196_34, u_196_35, u_196_36, u_196_37, u_196_38, u_196_41, u_196_44, u_196_45, u_196_46, u_196_49, u_196_50, u_196_51, u_196_54, u_196_55, u_196_57, u_196_58, u_196_61, u_196_62, u_196_63, u_196_66, u_196_69, u_196_72, u_196_75, u_196_76, u_196_79, u_196_80, u_196_81, gI0, gIs, gR0, gRs, gF0, gFs, st0, st_i, st_r, st_f, st_n, st_s, true_and, and_true, ↓ifLeT, ↓ifLeF, ↓ifLtT, ↓ifLtF, ↓ifEqT, ↓ifEqF, if_tt, if_ff, if_pos, if_neg, nLe, nLt, nEq, nInT, nCl, pk_mul, nI_add, Nat.reduceAdd, s_cat_nil, s_cat_i, s_cat_r, s_cat_f, s_cat_l, tl_s, tl_n, cat_i, cat_r, cat_f, nb0, nb1, nbI, if_bI, if_bIr, Nat.zero_le, Nat.reduceLeDiff]
        exact K m' hm'
end MK
