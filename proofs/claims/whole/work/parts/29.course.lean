/-! Course -/
section CO
variable {a b d : Nat} {c : tO} {y : tY} {h : sH} {k : sK} {Q : sQ} {i x : Int32}
theorem pCo_Y (hd : b + 5 ≤ a ∨ a + 16 ≤ b) : pCo b c (pY a y h) = pY a y (pCo b c h) := pC_comm (by omega)
theorem isY_Co (hd : b + 5 ≤ a ∨ a + 16 ≤ b) : isY (pCo b c (pY a y h)) a y := by
  unfold isY
  rw [pCo_Y hd, pY_twice]
theorem W_isDone {x : Int32} (hd : b + 5 ≤ a ∨ a + 16 ≤ b) : MT (d + 1) 69 [.ref a, .int x] (pCo b c (pY a y h)) Q ↔ Q (some (.int (bI (¬ bitS (yB y 6) x = nI 0)))) (pCo b c (pY a y h)) := by
  rw [pCo_Y hd, m_isDone]
theorem W_pass (hd : b + 5 ≤ a ∨ a + 16 ≤ b) (hy : okY y) : MT (d + 2) 75 [.ref a] (pCo b c (pY a y h)) Q ↔ Q (some (.int (iB (passB y)))) (pCo b c (pY a (passY y) h)) := by
  rw [pCo_Y hd, m_pass hy, ← pCo_Y hd]
theorem W_bits (hd : b + 5 ≤ a ∨ a + 16 ≤ b) (hs : okS (yP y)) : MT (d + 1) 29 [.ref (a + 13)] (pCo b c (pY a y h)) Q ↔ Q (some (.int (bitsP (yP y)))) (pCo b c (pY a y h)) := by
  rw [pCo_Y hd, Y_bits hs]
theorem WP_ob {q : Nat} (hd : b + 5 ≤ a ∨ a + 16 ≤ b) : (oO (pCo b c (pY a y h)) (a + 13) fun x _ => x = q) ↔ 3 = q := P'_ob (isP_Y' (isY_Co hd))
theorem vA_tw {o : tO} {k : Nat} {f g : Nat → Int32} : vA (vA o k f) k g = vA o k g := by
  unfold vA
  refine Prod.ext rfl (Prod.ext rfl (Prod.ext rfl (Prod.ext (funext fun q => ?_) rfl)))
  show (if q = k then g else if q = k then f else _) = if q = k then g else _
  by_cases e : q = k
  · rw [if_pos e, if_pos e]
  · rw [if_neg e, if_neg e, if_neg e]
theorem vF_tw {o : tO} {k : Nat} {f g : Nat → UInt32} : vF (vF o k f) k g = vF o k g := by
  unfold vF
  refine Prod.ext rfl (Prod.ext rfl (Prod.ext rfl (Prod.ext rfl (Prod.ext (funext fun q => ?_) rfl))))
  show (if q = k then g else if q = k then f else _) = if q = k then g else _
  by_cases e : q = k
  · rw [if_pos e, if_pos e]
  · rw [if_neg e, if_neg e, if_neg e]
theorem vF_vA {o : tO} {k j : Nat} {f : Nat → Int32} {g : Nat → UInt32} : vA (vF o j g) k f = vF (vA o k f) j g := rfl
/-- the bays, the swaying, the deeds of a minute -/
def mk1 (y : tY) (m i : Nat) (c : tO) : tO := vF (vA c 0 (fun q => if 4 * m ≤ q ∧ q < 4 * m + i then yA y 7 (q - 4 * m) else eA c 0 q)) 1 (fun q => if 4 * m ≤ q ∧ q < 4 * m + i then yW y (q - 4 * m) else eF c 1 q)
theorem mk1_0 {m : Nat} : mk1 y m 0 c = c := by
  unfold mk1
  rw [show (fun q => if 4 * m ≤ q ∧ q < 4 * m + 0 then yA y 7 (q - 4 * m) else eA c 0 q) = eA c 0 from funext fun q => if_neg (by omega), show (fun q => if 4 * m ≤ q ∧ q < 4 * m + 0 then yW y (q - 4 * m) else eF c 1 q) = eF c 1 from funext fun q => if_neg (by omega)]
  refine tO_eq rfl rfl rfl (funext fun q => ?_) (funext fun q => ?_) rfl
  · show (if q = 0 then eA c 0 else eA c q) = _
    by_cases e : q = 0
    · rw [if_pos e, e]
    · rw [if_neg e]
  · show (if q = 1 then eF c 1 else eF c q) = _
    by_cases e : q = 1
    · rw [if_pos e, e]
    · rw [if_neg e]
theorem mk1_s {m i : Nat} : vF (vA (mk1 y m i c) 0 (upd (eA (mk1 y m i c) 0) (m * 4 + i) (yA y 7 i))) 1 (vf_upd (eF (mk1 y m i c) 1) (m * 4 + i) (yW y i)) = mk1 y m (i + 1) c := by
  have e1 : upd (eA (mk1 y m i c) 0) (m * 4 + i) (yA y 7 i) = fun q => if 4 * m ≤ q ∧ q < 4 * m + (i + 1) then yA y 7 (q - 4 * m) else eA c 0 q := by
    funext q
    show (if q = m * 4 + i then yA y 7 i else if 4 * m ≤ q ∧ q < 4 * m + i then yA y 7 (q - 4 * m) else eA c 0 q) = _
    by_cases h1 : q = m * 4 + i
    · rw [if_pos h1, if_pos (by omega), show q - 4 * m = i by omega]
    · rw [if_neg h1]
      by_cases h2 : 4 * m ≤ q ∧ q < 4 * m + i
      · rw [if_pos h2, if_pos (by omega)]
      · rw [if_neg h2, if_neg (by omega)]
  have e2 : vf_upd (eF (mk1 y m i c) 1) (m * 4 + i) (yW y i) = fun q => if 4 * m ≤ q ∧ q < 4 * m + (i + 1) then yW y (q - 4 * m) else eF c 1 q := by
    funext q
    show (if q = m * 4 + i then yW y i else if 4 * m ≤ q ∧ q < 4 * m + i then yW y (q - 4 * m) else eF c 1 q) = _
    by_cases h1 : q = m * 4 + i
    · rw [if_pos h1, if_pos (by omega), show q - 4 * m = i by omega]
    · rw [if_neg h1]
      by_cases h2 : 4 * m ≤ q ∧ q < 4 * m + i
      · rw [if_pos h2, if_pos (by omega)]
      · rw [if_neg h2, if_neg (by omega)]
  rw [e1, e2]
  unfold mk1
  rw [vF_vA, vF_tw, vA_tw]
theorem mark_1 {m : Nat} (hm : m ≤ 300) (hd : b + 5 ≤ a ∨ a + 16 ≤ b) : ∀ n i, i + n = 4 → (WP d 11 2 [.ref b, .ref a, .int (nI m), .int (nI i)] [] (pCo b (mk1 y m i c) (pY a y h)) k Q ↔ WP d 11 45 [.ref b, .ref a, .int (nI m), .int (nI 4)] [] (pCo b (mk1 y m 4 c) (pY a y h)) k Q) := by
  intro n
  induction n with
  | zero =>
    intro i hi
    have e : i = 4 := by omega
    subst e
    simp (disch := omega) only [u_11_2, u_11_3, u_11_4, gI0, gIs, gR0, gRs, gF0, gFs, st0, st_i, st_r, st_f, st_n, st_s, true_and, and_true, ↓ifLeT, ↓ifLeF, ↓ifLtT, ↓ifLtF, ↓ifEqT, ↓ifEqF, if_tt, if_ff, if_pos, if_neg, nLe, nLt, nEq, nInT, nCl, pk_mul, nI_add, Nat.reduceAdd, s_cat_nil, s_cat_i, s_cat_r, s_cat_f, s_cat_l, tl_s, tl_n, cat_i, cat_r, cat_f, nb0, nb1, nbI, if_bI, if_bIr, Nat.zero_le, Nat.reduceLeDiff]
  | succ n ih =>
    intro i hi
    rw [u_11_2]
    simp (disch := omega) only [u_11_3, u_11_4, u_11_7, u_11_8, u_11_11, u_11_12, u_11_13, u_11_14, u_11_15, u_11_16, u_11_17, u_11_20, u_11_21, u_11_22, u_11_23, u_11_24, u_11_27, u_11_28, u_11_29, u_11_30, u_11_31, u_11_32, u_11_33, u_11_36, u_11_37, u_11_38, u_11_39, u_11_42, gI0, gIs, gR0, gRs, gF0, gFs, st0, st_i, st_r, st_f, st_n, st_s, true_and, and_true, ↓ifLeT, ↓ifLeF, ↓ifLtT, ↓ifLtF, ↓ifEqT, ↓ifEqF, if_tt, if_ff, if_pos, if_neg, nLe, nLt, nEq, nInT, nCl, pk_mul, nI_add, Nat.reduceAdd, s_cat_nil, s_cat_i, s_cat_r, s_cat_f, s_cat_l, tl_s, tl_n, cat_i, cat_r, cat_f, nb0, nb1, nbI, if_bI, if_bIr, Nat.zero_le, Nat.reduceLeDiff, Co_g0, Co_g1, Co_g2, Co_g3, Co_g4, Co_g5, Co_w0, Co_w1, Co_w2, Co_w3, Y'_g7 (isY_Co hd), Y'_g9 (isY_Co hd), Y'_a7 (isY_Co hd), Y'_sw (isY_Co hd), eF_vA, mk1_s, ih (i + 1) (by omega)]
/-- when a task was done -/
def dnF (y : tY) (m i n : Nat) (g : Nat → Int32) : Nat → Int32 := fun q => if i ≤ q ∧ q < i + n then (if g q = -1 then (if bitS (yB y 6) (nI q) = nI 0 then -1 else nI m) else g q) else g q
theorem dnF_0 {m i : Nat} {g : Nat → Int32} : dnF y m i 0 g = g := funext fun q => if_neg (by omega)
theorem dnF_s {m i n : Nat} {g : Nat → Int32} : dnF y m i (n + 1) g = dnF y m (i + 1) n (dnF y m i 1 g) := by
  funext q
  unfold dnF
  by_cases h1 : q = i
  · subst h1
    rw [if_pos (show q ≤ q ∧ q < q + (n + 1) by omega), if_neg (show ¬ (q + 1 ≤ q ∧ q < q + 1 + n) by omega), if_pos (show q ≤ q ∧ q < q + 1 by omega)]
  · rw [if_neg (show ¬ (i ≤ q ∧ q < i + 1) by omega)]
    by_cases h2 : i + 1 ≤ q ∧ q < i + 1 + n
    · rw [if_pos (by omega), if_pos h2]
    · rw [if_neg (by omega), if_neg h2]
theorem mark_2 {m : Nat} (hm : m ≤ 300) (hT : yT y ≤ 8) (hd : b + 5 ≤ a ∨ a + 16 ≤ b) : ∀ n i c, i + n = yT y → (WP (d + 1) 11 47 [.ref b, .ref a, .int (nI m), .int (nI i)] [] (pCo b c (pY a y h)) (0, 0) Q ↔ Q none (pCo b (vA c 3 (dnF y m i n (eA c 3))) (pY a y h))) := by
  intro n
  induction n with
  | zero =>
    intro i c hi
    have e : i = yT y := by omega
    subst e
    rw [dnF_0, show vA c 3 (eA c 3) = c from tO_eq rfl rfl rfl (funext fun q => by
      show (if q = 3 then eA c 3 else eA c q) = _
      by_cases e : q = 3
      · rw [if_pos e, e]
      · rw [if_neg e]) rfl rfl]
    simp (disch := omega) only [u_11_47, u_11_48, u_11_49, u_11_52, u_11_86, gI0, gIs, gR0, gRs, gF0, gFs, st0, st_i, st_r, st_f, st_n, st_s, true_and, and_true, ↓ifLeT, ↓ifLeF, ↓ifLtT, ↓ifLtF, ↓ifEqT, ↓ifEqF, if_tt, if_ff, if_pos, if_neg, nLe, nLt, nEq, nInT, nCl, pk_mul, nI_add, Nat.reduceAdd, s_cat_nil, s_cat_i, s_cat_r, s_cat_f, s_cat_l, tl_s, tl_n, cat_i, cat_r, cat_f, nb0, nb1, nbI, if_bI, if_bIr, Nat.zero_le, Nat.reduceLeDiff, Y'_g3 (isY_Co hd), Nat.le_refl]
  | succ n ih =>
    intro i c hi
    rw [u_11_47, dnF_s]
    have key : ∀ c', c' = vA c 3 (dnF y m i 1 (eA c 3)) → (WP (d + 1) 11 47 [.ref b, .ref a, .int (nI m), .int (nI (i + 1))] [] (pCo b c' (pY a y h)) (0, 0) Q ↔ Q none (pCo b (vA c 3 (dnF y m (i + 1) n (dnF y m i 1 (eA c 3)))) (pY a y h))) := by
      intro c' e
      rw [ih (i + 1) c' (by omega), e, vA_tw]
      exact Iff.rfl
    have k0 : ∀ x, (eA c 3 i = x) → (dnF y m i 1 (eA c 3) = upd (eA c 3) i (if x = -1 then (if bitS (yB y 6) (nI i) = nI 0 then -1 else nI m) else x)) := by
      intro x hx
      funext q
      unfold dnF upd
      by_cases h1 : q = i
      · rw [if_pos h1, if_pos (by omega), h1, hx]
      · rw [if_neg h1, if_neg (by omega)]
    have k1 : upd (eA c 3) i (eA c 3 i) = eA c 3 := by
      funext q
      unfold upd
      by_cases h1 : q = i
      · rw [if_pos h1, h1]
      · rw [if_neg h1]
    have k2 : vA c 3 (eA c 3) = c := tO_eq rfl rfl rfl (funext fun q => by
      show (if q = 3 then eA c 3 else eA c q) = _
      by_cases e : q = 3
      · rw [if_pos e, e]
      · rw [if_neg e]) rfl rfl
    by_cases h1 : eA c 3 i = -1
    · by_cases h2 : bitS (yB y 6) (nI i) = nI 0
      · have e := key c (by rw [k0 _ h1, if_pos rfl, if_pos h2]; rw [← h1]; rw [k1, k2])
        simp (disch := omega) only [u_11_48, u_11_49, u_11_52, u_11_55, u_11_56, u_11_59, u_11_60, u_11_61, u_11_62, u_11_65, u_11_66, u_11_67, u_11_70, u_11_73, u_11_74, u_11_77, u_11_78, u_11_79, u_11_80, u_11_83, gI0, gIs, gR0, gRs, gF0, gFs, st0, st_i, st_r, st_f, st_n, st_s, true_and, and_true, ↓ifLeT, ↓ifLeF, ↓ifLtT, ↓ifLtF, ↓ifEqT, ↓ifEqF, if_tt, if_ff, if_pos, if_neg, nLe, nLt, nEq, nInT, nCl, pk_mul, nI_add, Nat.reduceAdd, s_cat_nil, s_cat_i, s_cat_r, s_cat_f, s_cat_l, tl_s, tl_n, cat_i, cat_r, cat_f, nb0, nb1, nbI, if_bI, if_bIr, Nat.zero_le, Nat.reduceLeDiff, Co_g0, Co_g1, Co_g2, Co_g3, Co_g4, Co_g5, Co_a0, Co_a1, Co_a2, Co_a3, Y'_g3 (isY_Co hd), Y'_ob (isY_Co hd), W_isDone hd, h1, h2, not_true_eq_false, e]
      · have e := key (vA c 3 (upd (eA c 3) i (nI m))) (by rw [k0 _ h1, if_pos rfl, if_neg h2])
        simp (disch := omega) only [u_11_48, u_11_49, u_11_52, u_11_55, u_11_56, u_11_59, u_11_60, u_11_61, u_11_62, u_11_65, u_11_66, u_11_67, u_11_70, u_11_73, u_11_74, u_11_77, u_11_78, u_11_79, u_11_80, u_11_83, gI0, gIs, gR0, gRs, gF0, gFs, st0, st_i, st_r, st_f, st_n, st_s, true_and, and_true, ↓ifLeT, ↓ifLeF, ↓ifLtT, ↓ifLtF, ↓ifEqT, ↓ifEqF, if_tt, if_ff, if_pos, if_neg, nLe, nLt, nEq, nInT, nCl, pk_mul, nI_add, Nat.reduceAdd, s_cat_nil, s_cat_i, s_cat_r, s_cat_f, s_cat_l, tl_s, tl_n, cat_i, cat_r, cat_f, nb0, nb1, nbI, if_bI, if_bIr, Nat.zero_le, Nat.reduceLeDiff, Co_g0, Co_g1, Co_g2, Co_g3, Co_g4, Co_g5, Co_a0, Co_a1, Co_a2, Co_a3, Co_w0, Co_w1, Co_w2, Co_w3, Y'_g3 (isY_Co hd), Y'_ob (isY_Co hd), W_isDone hd, h1, h2, not_false_eq_true, e]
    · have e := key c (by rw [k0 _ rfl, if_neg h1, k1, k2])
      simp (disch := omega) only [u_11_48, u_11_49, u_11_52, u_11_55, u_11_56, u_11_59, u_11_60, u_11_61, u_11_62, u_11_65, u_11_66, u_11_67, u_11_70, u_11_73, u_11_74, u_11_77, u_11_78, u_11_79, u_11_80, u_11_83, gI0, gIs, gR0, gRs, gF0, gFs, st0, st_i, st_r, st_f, st_n, st_s, true_and, and_true, ↓ifLeT, ↓ifLeF, ↓ifLtT, ↓ifLtF, ↓ifEqT, ↓ifEqF, if_tt, if_ff, if_pos, if_neg, nLe, nLt, nEq, nInT, nCl, pk_mul, nI_add, Nat.reduceAdd, s_cat_nil, s_cat_i, s_cat_r, s_cat_f, s_cat_l, tl_s, tl_n, cat_i, cat_r, cat_f, nb0, nb1, nbI, if_bI, if_bIr, Nat.zero_le, Nat.reduceLeDiff, Co_g0, Co_g1, Co_g2, Co_g3, Co_g4, Co_g5, Co_a0, Co_a1, Co_a2, Co_a3, Y'_g3 (isY_Co hd), h1, reduceIte, e]
def markC (y : tY) (m : Nat) (c : tO) : tO := vA (mk1 y m 4 c) 3 (dnF y m 0 (yT y) (eA c 3))
theorem m_mark {m : Nat} (hm : m ≤ 300) (hT : yT y ≤ 8) (hd : b + 5 ≤ a ∨ a + 16 ≤ b) : MT (d + 2) 11 [.ref b, .ref a, .int (nI m)] (pCo b c (pY a y h)) Q ↔ Q none (pCo b (markC y m c) (pY a y h)) := by
  rw [MT_go (by decide) _ _ _ (Nat.le_of_ble_eq_true rfl), show s_entry 11 [.ref b, .ref a, .int (nI m)] = [.ref b, .ref a, .int (nI m), s_no] from rfl]
  have e1 := mark_1 (d := d + 1) (c := c) (y := y) (h := h) (k := (0, 0)) (Q := Q) hm hd 4 0 rfl
  rw [mk1_0] at e1
  have e2 := mark_2 (d := d) (y := y) (h := h) (Q := Q) hm hT hd (yT y) 0 (mk1 y m 4 c) (Nat.zero_add _)
  simp (disch := omega) only [u_11_0, u_11_1, gI0, gIs, gR0, gRs, gF0, gFs, st0, st_i, st_r, st_f, st_n, st_s, true_and, and_true, ↓ifLeT, ↓ifLeF, ↓ifLtT, ↓ifLtF, ↓ifEqT, ↓ifEqF, if_tt, if_ff, if_pos, if_neg, nLe, nLt, nEq, nInT, nCl, pk_mul, nI_add, Nat.reduceAdd, s_cat_nil, s_cat_i, s_cat_r, s_cat_f, s_cat_l, tl_s, tl_n, cat_i, cat_r, cat_f, nb0, nb1, nbI, if_bI, if_bIr, Nat.zero_le, Nat.reduceLeDiff, e1]
  simp (disch := omega) only [u_11_45, u_11_46, gI0, gIs, gR0, gRs, gF0, gFs, st0, st_i, st_r, st_f, st_n, st_s, true_and, and_true, ↓ifLeT, ↓ifLeF, ↓ifLtT, ↓ifLtF, ↓ifEqT, ↓ifEqF, if_tt, if_ff, if_pos, if_neg, nLe, nLt, nEq, nInT, nCl, pk_mul, nI_add, Nat.reduceAdd, s_cat_nil, s_cat_i, s_cat_r, s_cat_f, s_cat_l, tl_s, tl_n, cat_i, cat_r, cat_f, nb0, nb1, nbI, if_bI, if_bIr, Nat.zero_le, Nat.reduceLeDiff, e2]
  exact Iff.rfl
def mk2 (y : tY) (m i : Nat) (c : tO) : tO := vA c 2 (fun q => if 4 * m ≤ q ∧ q < 4 * m + i then yA y 11 (q - 4 * m) else eA c 2 q)
theorem vA_eta {o : tO} {j : Nat} : vA o j (eA o j) = o := tO_eq rfl rfl rfl (funext fun q => by
  show (if q = j then eA o j else eA o q) = _
  by_cases e : q = j
  · rw [if_pos e, e]
  · rw [if_neg e]) rfl rfl
theorem mk2_0 {m : Nat} : mk2 y m 0 c = c := by
  unfold mk2
  rw [show (fun q => if 4 * m ≤ q ∧ q < 4 * m + 0 then yA y 11 (q - 4 * m) else eA c 2 q) = eA c 2 from funext fun q => if_neg (by omega), vA_eta]
theorem mk2_s {m i : Nat} : vA (mk2 y m i c) 2 (upd (eA (mk2 y m i c) 2) (m * 4 + i) (yA y 11 i)) = mk2 y m (i + 1) c := by
  have e1 : upd (eA (mk2 y m i c) 2) (m * 4 + i) (yA y 11 i) = fun q => if 4 * m ≤ q ∧ q < 4 * m + (i + 1) then yA y 11 (q - 4 * m) else eA c 2 q := by
    funext q
    show (if q = m * 4 + i then yA y 11 i else if 4 * m ≤ q ∧ q < 4 * m + i then yA y 11 (q - 4 * m) else eA c 2 q) = _
    by_cases h1 : q = m * 4 + i
    · rw [if_pos h1, if_pos (by omega), show q - 4 * m = i by omega]
    · rw [if_neg h1]
      by_cases h2 : 4 * m ≤ q ∧ q < 4 * m + i
      · rw [if_pos h2, if_pos (by omega)]
      · rw [if_neg h2, if_neg (by omega)]
  rw [e1]
  unfold mk2
  rw [vA_tw]
theorem deeds_1 {m : Nat} (hm : m < 300) (hd : b + 5 ≤ a ∨ a + 16 ≤ b) : ∀ n i, i + n = 4 → (WP d 12 2 [.ref b, .ref a, .int (nI m), .int (nI i)] [] (pCo b (mk2 y m i c) (pY a y h)) k Q ↔ Q none (pCo b (mk2 y m 4 c) (pY a y h))) := by
  intro n
  induction n with
  | zero =>
    intro i hi
    have e : i = 4 := by omega
    subst e
    simp (disch := omega) only [u_12_2, u_12_3, u_12_4, u_12_29, gI0, gIs, gR0, gRs, gF0, gFs, st0, st_i, st_r, st_f, st_n, st_s, true_and, and_true, ↓ifLeT, ↓ifLeF, ↓ifLtT, ↓ifLtF, ↓ifEqT, ↓ifEqF, if_tt, if_ff, if_pos, if_neg, nLe, nLt, nEq, nInT, nCl, pk_mul, nI_add, Nat.reduceAdd, s_cat_nil, s_cat_i, s_cat_r, s_cat_f, s_cat_l, tl_s, tl_n, cat_i, cat_r, cat_f, nb0, nb1, nbI, if_bI, if_bIr, Nat.zero_le, Nat.reduceLeDiff]
  | succ n ih =>
    intro i hi
    rw [u_12_2]
    simp (disch := omega) only [u_12_3, u_12_4, u_12_7, u_12_8, u_12_11, u_12_12, u_12_13, u_12_14, u_12_15, u_12_16, u_12_17, u_12_20, u_12_21, u_12_22, u_12_23, u_12_26, gI0, gIs, gR0, gRs, gF0, gFs, st0, st_i, st_r, st_f, st_n, st_s, true_and, and_true, ↓ifLeT, ↓ifLeF, ↓ifLtT, ↓ifLtF, ↓ifEqT, ↓ifEqF, if_tt, if_ff, if_pos, if_neg, nLe, nLt, nEq, nInT, nCl, pk_mul, nI_add, Nat.reduceAdd, s_cat_nil, s_cat_i, s_cat_r, s_cat_f, s_cat_l, tl_s, tl_n, cat_i, cat_r, cat_f, nb0, nb1, nbI, if_bI, if_bIr, Nat.zero_le, Nat.reduceLeDiff, Co_g0, Co_g1, Co_g2, Co_g3, Co_g4, Co_g5, Co_w0, Co_w1, Co_w2, Co_w3, Y'_g11 (isY_Co hd), Y'_a11 (isY_Co hd), mk2_s, ih (i + 1) (by omega)]
theorem m_markDeeds {m : Nat} (hm : m < 300) (hd : b + 5 ≤ a ∨ a + 16 ≤ b) : MT (d + 1) 12 [.ref b, .ref a, .int (nI m)] (pCo b c (pY a y h)) Q ↔ Q none (pCo b (mk2 y m 4 c) (pY a y h)) := by
  rw [MT_go (by decide) _ _ _ (Nat.le_of_ble_eq_true rfl), show s_entry 12 [.ref b, .ref a, .int (nI m)] = [.ref b, .ref a, .int (nI m), s_no] from rfl]
  have e1 := deeds_1 (d := d) (c := c) (y := y) (h := h) (k := (0, 0)) (Q := Q) hm hd 4 0 rfl
  rw [mk2_0] at e1
  simp (disch := omega) only [u_12_0, u_12_1, gI0, gIs, gR0, gRs, gF0, gFs, st0, st_i, st_r, st_f, st_n, st_s, true_and, and_true, ↓ifLeT, ↓ifLeF, ↓ifLtT, ↓ifLtF, ↓ifEqT, ↓ifEqF, if_tt, if_ff, if_pos, if_neg, nLe, nLt, nEq, nInT, nCl, pk_mul, nI_add, Nat.reduceAdd, s_cat_nil, s_cat_i, s_cat_r, s_cat_f, s_cat_l, tl_s, tl_n, cat_i, cat_r, cat_f, nb0, nb1, nbI, if_bI, if_bIr, Nat.zero_le, Nat.reduceLeDiff, e1]
/-- the course of 300 minutes -/
def rcL (told : Int32) (y : tY) (m : Nat) (c : tO) : tO := if eI (markC y m c) 4 = -1 then (if leftT told y = nI 0 then vI (markC y m c) 4 (nI m) else markC y m c) else markC y m c
def rcF (told : Int32) : Nat → Nat → tO × tY → tO × tY
  | 0, m, s => (rcL told s.2 m s.1, s.2)
  | n + 1, m, s => rcF told n (m + 1) (mk2 (passY s.2) m 4 (rcL told s.2 m s.1), passY s.2)
theorem rec_1 {told : Int32} {m : Nat} (hm : m ≤ 300) (hy : okY y) (hd : b + 5 ≤ a ∨ a + 16 ≤ b) : WP (d + 2) 10 39 [.ref b, .ref a, .int told, .int (nI m)] [] (pCo b c (pY a y h)) (0, 0) Q ↔ WP (d + 2) 10 76 [.ref b, .ref a, .int told, .int (nI m)] [] (pCo b (rcL told y m c) (pY a y h)) (0, 0) Q := by
  have e1 := fun Q => m_mark (d := d) (c := c) (h := h) (Q := Q) hm hy.2.1 hd
  rw [u_10_39]
  unfold rcL
  by_cases h1 : eI (markC y m c) 4 = -1
  · rw [if_pos h1]
    by_cases h2 : leftT told y = nI 0
    · rw [if_pos h2]
      unfold leftT at h2
      simp (disch := omega) only [u_10_40, u_10_43, u_10_46, u_10_47, u_10_48, u_10_49, u_10_52, u_10_53, u_10_56, u_10_57, u_10_60, u_10_61, u_10_62, u_10_65, u_10_66, u_10_67, u_10_68, u_10_71, u_10_72, u_10_73, gI0, gIs, gR0, gRs, gF0, gFs, st0, st_i, st_r, st_f, st_n, st_s, true_and, and_true, ↓ifLeT, ↓ifLeF, ↓ifLtT, ↓ifLtF, ↓ifEqT, ↓ifEqF, if_tt, if_ff, if_pos, if_neg, nLe, nLt, nEq, nInT, nCl, pk_mul, nI_add, Nat.reduceAdd, s_cat_nil, s_cat_i, s_cat_r, s_cat_f, s_cat_l, tl_s, tl_n, cat_i, cat_r, cat_f, nb0, nb1, nbI, if_bI, if_bIr, Nat.zero_le, Nat.reduceLeDiff, Co_g0, Co_g1, Co_g2, Co_g3, Co_g4, Co_g5, Co_s4, Co_s5, Co_s5t, Co_s5f, Co_ob, e1, Y'_g6 (isY_Co hd), h1, h2]
    · rw [if_neg h2]
      unfold leftT at h2
      simp (disch := omega) only [u_10_40, u_10_43, u_10_46, u_10_47, u_10_48, u_10_49, u_10_52, u_10_53, u_10_56, u_10_57, u_10_60, u_10_61, u_10_62, u_10_65, u_10_66, u_10_67, u_10_68, u_10_71, u_10_72, u_10_73, gI0, gIs, gR0, gRs, gF0, gFs, st0, st_i, st_r, st_f, st_n, st_s, true_and, and_true, ↓ifLeT, ↓ifLeF, ↓ifLtT, ↓ifLtF, ↓ifEqT, ↓ifEqF, if_tt, if_ff, if_pos, if_neg, nLe, nLt, nEq, nInT, nCl, pk_mul, nI_add, Nat.reduceAdd, s_cat_nil, s_cat_i, s_cat_r, s_cat_f, s_cat_l, tl_s, tl_n, cat_i, cat_r, cat_f, nb0, nb1, nbI, if_bI, if_bIr, Nat.zero_le, Nat.reduceLeDiff, Co_g0, Co_g1, Co_g2, Co_g3, Co_g4, Co_g5, Co_s4, Co_s5, Co_s5t, Co_s5f, Co_ob, e1, Y'_g6 (isY_Co hd), h1, h2, reduceIte]
  · rw [if_neg h1]
    simp (disch := omega) only [u_10_40, u_10_43, u_10_46, u_10_47, u_10_48, u_10_49, u_10_52, u_10_53, u_10_56, u_10_57, u_10_60, u_10_61, u_10_62, u_10_65, u_10_66, u_10_67, u_10_68, u_10_71, u_10_72, u_10_73, gI0, gIs, gR0, gRs, gF0, gFs, st0, st_i, st_r, st_f, st_n, st_s, true_and, and_true, ↓ifLeT, ↓ifLeF, ↓ifLtT, ↓ifLtF, ↓ifEqT, ↓ifEqF, if_tt, if_ff, if_pos, if_neg, nLe, nLt, nEq, nInT, nCl, pk_mul, nI_add, Nat.reduceAdd, s_cat_nil, s_cat_i, s_cat_r, s_cat_f, s_cat_l, tl_s, tl_n, cat_i, cat_r, cat_f, nb0, nb1, nbI, if_bI, if_bIr, Nat.zero_le, Nat.reduceLeDiff, Co_g0, Co_g1, Co_g2, Co_g3, Co_g4, Co_g5, Co_s4, Co_s5, Co_s5t, Co_s5f, Co_ob, e1, h1, reduceIte]
theorem rec_lp {told : Int32} (hd : b + 5 ≤ a ∨ a + 16 ≤ b) : ∀ n m c y, m + n = 300 → okY y → (WP (d + 2) 10 39 [.ref b, .ref a, .int told, .int (nI m)] [] (pCo b c (pY a y h)) (0, 0) Q ↔ Q none (pCo b (vB (rcF told n m (c, y)).1 5 true) (pY a (rcF told n m (c, y)).2 h))) := by
  intro n
  induction n with
  | zero =>
    intro m c y hm hy
    have e : m = 300 := by omega
    subst e
    rw [rec_1 (by omega) hy hd]
    simp (disch := omega) only [u_10_76, u_10_77, u_10_80, u_10_83, u_10_84, u_10_87, u_10_88, u_10_89, u_10_90, u_10_91, u_10_94, u_10_97, u_10_100, u_10_101, u_10_102, u_10_105, u_10_39, u_10_40, u_10_43, gI0, gIs, gR0, gRs, gF0, gFs, st0, st_i, st_r, st_f, st_n, st_s, true_and, and_true, ↓ifLeT, ↓ifLeF, ↓ifLtT, ↓ifLtF, ↓ifEqT, ↓ifEqF, if_tt, if_ff, if_pos, if_neg, nLe, nLt, nEq, nInT, nCl, pk_mul, nI_add, Nat.reduceAdd, s_cat_nil, s_cat_i, s_cat_r, s_cat_f, s_cat_l, tl_s, tl_n, cat_i, cat_r, cat_f, nb0, nb1, nbI, if_bI, if_bIr, Nat.zero_le, Nat.reduceLeDiff, Co_g0, Co_g1, Co_g2, Co_g3, Co_g4, Co_g5, Co_s4, Co_s5, Co_s5t, Co_s5f, rcF]
  | succ n ih =>
    intro m c y hm hy
    rw [rec_1 (by omega) hy hd, rcF]
    have e1 := fun c Q => W_pass (d := d) (b := b) (a := a) (c := c) (h := h) (Q := Q) hd hy
    have e2 := fun c Q => m_markDeeds (d := d + 1) (b := b) (a := a) (y := passY y) (c := c) (h := h) (Q := Q) (show m < 300 by omega) hd
    simp (disch := omega) only [u_10_76, u_10_77, u_10_80, u_10_83, u_10_84, u_10_87, u_10_88, u_10_89, u_10_90, u_10_91, u_10_94, u_10_97, gI0, gIs, gR0, gRs, gF0, gFs, st0, st_i, st_r, st_f, st_n, st_s, true_and, and_true, ↓ifLeT, ↓ifLeF, ↓ifLtT, ↓ifLtF, ↓ifEqT, ↓ifEqF, if_tt, if_ff, if_pos, if_neg, nLe, nLt, nEq, nInT, nCl, pk_mul, nI_add, Nat.reduceAdd, s_cat_nil, s_cat_i, s_cat_r, s_cat_f, s_cat_l, tl_s, tl_n, cat_i, cat_r, cat_f, nb0, nb1, nbI, if_bI, if_bIr, Nat.zero_le, Nat.reduceLeDiff, Co_g0, Co_g1, Co_g2, Co_g3, Co_g4, Co_g5, Y'_ob (isY_Co hd), Co_ob, e1, e2, ih (m + 1) _ (passY y) (by omega) (okY_pass hy)]
def rc0 (c : tO) : tO := vA (vI c 4 (-1)) 3 (fil 8 (fun _ => -1) (eA c 3))
theorem rec_0 {x : Int32} : ∀ n i, i + n = 8 → (WP d 10 15 [.ref b, .ref a, .int x, .int (nI i)] [] (pCo b (vA (vI c 4 (-1)) 3 (fil i (fun _ => -1) (eA c 3))) (pY a y h)) k Q ↔ WP d 10 37 [.ref b, .ref a, .int x, .int (nI 8)] [] (pCo b (rc0 c) (pY a y h)) k Q) := by
  intro n
  induction n with
  | zero =>
    intro i hi
    have e : i = 8 := by omega
    subst e
    simp (disch := omega) only [u_10_15, u_10_16, u_10_17, u_10_20, u_10_21, gI0, gIs, gR0, gRs, gF0, gFs, st0, st_i, st_r, st_f, st_n, st_s, true_and, and_true, ↓ifLeT, ↓ifLeF, ↓ifLtT, ↓ifLtF, ↓ifEqT, ↓ifEqF, if_tt, if_ff, if_pos, if_neg, nLe, nLt, nEq, nInT, nCl, pk_mul, nI_add, Nat.reduceAdd, s_cat_nil, s_cat_i, s_cat_r, s_cat_f, s_cat_l, tl_s, tl_n, cat_i, cat_r, cat_f, nb0, nb1, nbI, if_bI, if_bIr, Nat.zero_le, Nat.reduceLeDiff, Co_g0, Co_g1, Co_g2, Co_g3, Co_g4, Co_g5, Co_n0, Co_n1, Co_n2, Co_n3]
    exact Iff.rfl
  | succ n ih =>
    intro i hi
    rw [u_10_15]
    have f1 : upd (fil i (fun _ => (-1 : Int32)) (eA c 3)) i (-1) = fil (i + 1) (fun _ => -1) (eA c 3) := fil_upd rfl
    simp (disch := omega) only [u_10_16, u_10_17, u_10_20, u_10_21, u_10_24, u_10_25, u_10_28, u_10_29, u_10_30, u_10_31, u_10_34, gI0, gIs, gR0, gRs, gF0, gFs, st0, st_i, st_r, st_f, st_n, st_s, true_and, and_true, ↓ifLeT, ↓ifLeF, ↓ifLtT, ↓ifLtF, ↓ifEqT, ↓ifEqF, if_tt, if_ff, if_pos, if_neg, nLe, nLt, nEq, nInT, nCl, pk_mul, nI_add, Nat.reduceAdd, s_cat_nil, s_cat_i, s_cat_r, s_cat_f, s_cat_l, tl_s, tl_n, cat_i, cat_r, cat_f, nb0, nb1, nbI, if_bI, if_bIr, Nat.zero_le, Nat.reduceLeDiff, Co_g0, Co_g1, Co_g2, Co_g3, Co_g4, Co_g5, Co_n0, Co_n1, Co_n2, Co_n3, Co_w0, Co_w1, Co_w2, Co_w3, eN_vN, eI_vN, eB_vN, eA_vN, eF_vN, eP_vN, eN_vI, eI_vI, eB_vI, eA_vI, eF_vI, eP_vI, eN_vB, eI_vB, eB_vB, eA_vB, eF_vB, eP_vB, eN_vA, eI_vA, eB_vA, eA_vA, eF_vA, eP_vA, eN_vF, eI_vF, eB_vF, eA_vF, eF_vF, eP_vF, eN_vP, eI_vP, eB_vP, eA_vP, eF_vP, eP_vP, reduceIte, vA_tw, f1, ih (i + 1) (by omega)]
def rcY (y : tY) (c : tO) : tO := vB (rcF (bitsP (yP y)) 300 0 (rc0 c, y)).1 5 true
def endY (y : tY) (c : tO) : tY := (rcF (bitsP (yP y)) 300 0 (rc0 c, y)).2
theorem m_record (hy : okY y) (hd : b + 5 ≤ a ∨ a + 16 ≤ b) : MT (d + 3) 10 [.ref b, .ref a] (pCo b c (pY a y h)) Q ↔ Q none (pCo b (rcY y c) (pY a (endY y c) h)) := by
  rw [MT_go (by decide) _ _ _ (Nat.le_of_ble_eq_true rfl), show s_entry 10 [.ref b, .ref a] = [.ref b, .ref a, s_no, s_no] from rfl]
  have e0 := rec_0 (d := d + 2) (a := a) (b := b) (c := c) (y := y) (h := h) (k := (0, 0)) (Q := Q) (x := bitsP (yP y)) 8 0 rfl
  rw [fil_0, show vA (vI c 4 (-1)) 3 (eA c 3) = vI c 4 (-1) from vA_eta (o := vI c 4 (-1)) (j := 3)] at e0
  have e1 := rec_lp (d := d) (h := h) (Q := Q) (told := bitsP (yP y)) hd 300 0 (rc0 c) y rfl hy
  simp (disch := omega) only [u_10_0, u_10_1, u_10_4, u_10_7, u_10_8, u_10_9, u_10_10, u_10_13, u_10_14, gI0, gIs, gR0, gRs, gF0, gFs, st0, st_i, st_r, st_f, st_n, st_s, true_and, and_true, ↓ifLeT, ↓ifLeF, ↓ifLtT, ↓ifLtF, ↓ifEqT, ↓ifEqF, if_tt, if_ff, if_pos, if_neg, nLe, nLt, nEq, nInT, nCl, pk_mul, nI_add, Nat.reduceAdd, s_cat_nil, s_cat_i, s_cat_r, s_cat_f, s_cat_l, tl_s, tl_n, cat_i, cat_r, cat_f, nb0, nb1, nbI, if_bI, if_bIr, Nat.zero_le, Nat.reduceLeDiff, Y'_g19 (isY_Co hd), WP_ob hd, W_bits hd hy.2.2.1, Co_s4, Co_s5, Co_s5t, Co_s5f, e0]
  simp (disch := omega) only [u_10_37, u_10_38, gI0, gIs, gR0, gRs, gF0, gFs, st0, st_i, st_r, st_f, st_n, st_s, true_and, and_true, ↓ifLeT, ↓ifLeF, ↓ifLtT, ↓ifLtF, ↓ifEqT, ↓ifEqF, if_tt, if_ff, if_pos, if_neg, nLe, nLt, nEq, nInT, nCl, pk_mul, nI_add, Nat.reduceAdd, s_cat_nil, s_cat_i, s_cat_r, s_cat_f, s_cat_l, tl_s, tl_n, cat_i, cat_r, cat_f, nb0, nb1, nbI, if_bI, if_bIr, Nat.zero_le, Nat.reduceLeDiff]
  exact e1
theorem m_bayAt {q m : Nat} (hq : q < 4) (hm : m ≤ 300) : MT (d + 1) 13 [.ref b, .int (nI q), .int (nI m)] (pCo b c h) Q ↔ Q (some (.int (eA c 0 (m * 4 + q)))) (pCo b c h) := by
  rw [MT_go (by decide) _ _ _ (Nat.le_of_ble_eq_true rfl), show s_entry 13 [.ref b, .int (nI q), .int (nI m)] = [.ref b, .int (nI q), .int (nI m), s_no] from rfl]
  simp (disch := omega) only [u_13_0, u_13_1, u_13_2, u_13_3, u_13_4, u_13_5, u_13_6, u_13_7, u_13_10, u_13_11, u_13_12, u_13_15, u_13_16, u_13_19, u_13_20, u_13_23, u_13_24, u_13_25, u_13_28, u_13_29, gI0, gIs, gR0, gRs, gF0, gFs, st0, st_i, st_r, st_f, st_n, st_s, true_and, and_true, ↓ifLeT, ↓ifLeF, ↓ifLtT, ↓ifLtF, ↓ifEqT, ↓ifEqF, if_tt, if_ff, if_pos, if_neg, nLe, nLt, nEq, nInT, nCl, pk_mul, nI_add, Nat.reduceAdd, s_cat_nil, s_cat_i, s_cat_r, s_cat_f, s_cat_l, tl_s, tl_n, cat_i, cat_r, cat_f, nb0, nb1, nbI, if_bI, if_bIr, Nat.zero_le, Nat.reduceLeDiff, Co_g0, Co_g1, Co_g2, Co_g3, Co_g4, Co_g5, Co_a0, Co_a1, Co_a2, Co_a3, Co_n0, Co_n1, Co_n2, Co_n3]
theorem m_swayAt {q m : Nat} (hq : q < 4) (hm : m ≤ 300) : MT (d + 1) 14 [.ref b, .int (nI q), .int (nI m)] (pCo b c h) Q ↔ Q (some (.float (eF c 1 (m * 4 + q)))) (pCo b c h) := by
  rw [MT_go (by decide) _ _ _ (Nat.le_of_ble_eq_true rfl), show s_entry 14 [.ref b, .int (nI q), .int (nI m)] = [.ref b, .int (nI q), .int (nI m), s_no] from rfl]
  simp (disch := omega) only [u_14_0, u_14_1, u_14_2, u_14_3, u_14_4, u_14_5, u_14_6, u_14_7, u_14_10, u_14_11, u_14_12, u_14_15, u_14_16, u_14_19, u_14_20, u_14_23, u_14_24, u_14_25, u_14_28, u_14_29, gI0, gIs, gR0, gRs, gF0, gFs, st0, st_i, st_r, st_f, st_n, st_s, true_and, and_true, ↓ifLeT, ↓ifLeF, ↓ifLtT, ↓ifLtF, ↓ifEqT, ↓ifEqF, if_tt, if_ff, if_pos, if_neg, nLe, nLt, nEq, nInT, nCl, pk_mul, nI_add, Nat.reduceAdd, s_cat_nil, s_cat_i, s_cat_r, s_cat_f, s_cat_l, tl_s, tl_n, cat_i, cat_r, cat_f, nb0, nb1, nbI, if_bI, if_bIr, Nat.zero_le, Nat.reduceLeDiff, Co_g0, Co_g1, Co_g2, Co_g3, Co_g4, Co_g5, Co_a0, Co_a1, Co_a2, Co_a3, Co_n0, Co_n1, Co_n2, Co_n3]
theorem m_deedAt {q m : Nat} (hq : q < 4) (hm : m < 300) : MT (d + 1) 15 [.ref b, .int (nI q), .int (nI m)] (pCo b c h) Q ↔ Q (some (.int (eA c 2 (m * 4 + q)))) (pCo b c h) := by
  rw [MT_go (by decide) _ _ _ (Nat.le_of_ble_eq_true rfl), show s_entry 15 [.ref b, .int (nI q), .int (nI m)] = [.ref b, .int (nI q), .int (nI m), s_no] from rfl]
  simp (disch := omega) only [u_15_0, u_15_1, u_15_2, u_15_3, u_15_4, u_15_5, u_15_6, u_15_7, u_15_10, u_15_11, u_15_12, u_15_15, u_15_16, u_15_19, u_15_20, u_15_23, u_15_24, u_15_25, u_15_28, u_15_29, gI0, gIs, gR0, gRs, gF0, gFs, st0, st_i, st_r, st_f, st_n, st_s, true_and, and_true, ↓ifLeT, ↓ifLeF, ↓ifLtT, ↓ifLtF, ↓ifEqT, ↓ifEqF, if_tt, if_ff, if_pos, if_neg, nLe, nLt, nEq, nInT, nCl, pk_mul, nI_add, Nat.reduceAdd, s_cat_nil, s_cat_i, s_cat_r, s_cat_f, s_cat_l, tl_s, tl_n, cat_i, cat_r, cat_f, nb0, nb1, nbI, if_bI, if_bIr, Nat.zero_le, Nat.reduceLeDiff, Co_g0, Co_g1, Co_g2, Co_g3, Co_g4, Co_g5, Co_a0, Co_a1, Co_a2, Co_a3, Co_n0, Co_n1, Co_n2, Co_n3]
/-- how often -/
def cntF (g : Nat → Bool) : Nat → Nat → Nat → Nat
  | 0, _, x => x
  | n + 1, i, x => cntF g n (i + 1) (if g i then x + 1 else x)
theorem deedsOf_lp {q N : Nat} {w : Int32} (hq : q < 4) (hN : N ≤ 300) : ∀ n i x, i + n = N → x ≤ i → (WP (d + 1) 16 6 [.ref b, .int (nI q), .int (nI N), .int w, .int (nI x), .int (nI i)] [] (pCo b c h) (0, 0) Q ↔ Q (some (.int (nI (cntF (fun m => decide (eA c 2 (m * 4 + q) = w)) n i x)))) (pCo b c h)) := by
  intro n
  induction n with
  | zero =>
    intro i x hi hx
    have e : i = N := by omega
    subst e
    simp (disch := omega) only [u_16_6, u_16_8, u_16_9, u_16_32, u_16_34, gI0, gIs, gR0, gRs, gF0, gFs, st0, st_i, st_r, st_f, st_n, st_s, true_and, and_true, ↓ifLeT, ↓ifLeF, ↓ifLtT, ↓ifLtF, ↓ifEqT, ↓ifEqF, if_tt, if_ff, if_pos, if_neg, nLe, nLt, nEq, nInT, nCl, pk_mul, nI_add, Nat.reduceAdd, s_cat_nil, s_cat_i, s_cat_r, s_cat_f, s_cat_l, tl_s, tl_n, cat_i, cat_r, cat_f, nb0, nb1, nbI, if_bI, if_bIr, Nat.zero_le, Nat.reduceLeDiff, cntF, Nat.le_refl]
  | succ n ih =>
    intro i x hi hx
    rw [u_16_6, cntF]
    have e1 := fun Q => m_deedAt (d := d) (b := b) (c := c) (h := h) (Q := Q) (q := q) (m := i) hq (by omega)
    by_cases h1 : eA c 2 (i * 4 + q) = w
    · rw [decide_eq_true h1, if_pos rfl]
      simp (disch := omega) only [u_16_8, u_16_9, u_16_12, u_16_13, u_16_14, u_16_16, u_16_19, u_16_20, u_16_23, u_16_26, u_16_29, gI0, gIs, gR0, gRs, gF0, gFs, st0, st_i, st_r, st_f, st_n, st_s, true_and, and_true, ↓ifLeT, ↓ifLeF, ↓ifLtT, ↓ifLtF, ↓ifEqT, ↓ifEqF, if_tt, if_ff, if_pos, if_neg, nLe, nLt, nEq, nInT, nCl, pk_mul, nI_add, Nat.reduceAdd, s_cat_nil, s_cat_i, s_cat_r, s_cat_f, s_cat_l, tl_s, tl_n, cat_i, cat_r, cat_f, nb0, nb1, nbI, if_bI, if_bIr, Nat.zero_le, Nat.reduceLeDiff, Co_ob, e1, h1, ih (i + 1) (x + 1) (by omega) (by omega)]
    · rw [decide_eq_false h1, if_neg (by decide)]
      simp (disch := omega) only [u_16_8, u_16_9, u_16_12, u_16_13, u_16_14, u_16_16, u_16_19, u_16_20, u_16_23, u_16_26, u_16_29, gI0, gIs, gR0, gRs, gF0, gFs, st0, st_i, st_r, st_f, st_n, st_s, true_and, and_true, ↓ifLeT, ↓ifLeF, ↓ifLtT, ↓ifLtF, ↓ifEqT, ↓ifEqF, if_tt, if_ff, if_pos, if_neg, nLe, nLt, nEq, nInT, nCl, pk_mul, nI_add, Nat.reduceAdd, s_cat_nil, s_cat_i, s_cat_r, s_cat_f, s_cat_l, tl_s, tl_n, cat_i, cat_r, cat_f, nb0, nb1, nbI, if_bI, if_bIr, Nat.zero_le, Nat.reduceLeDiff, Co_ob, e1, h1, reduceIte, ih (i + 1) x (by omega) (by omega)]
theorem m_deedsOf {q N : Nat} {w : Int32} (hq : q < 4) (hN : N ≤ 300) : MT (d + 2) 16 [.ref b, .int (nI q), .int (nI N), .int w] (pCo b c h) Q ↔ Q (some (.int (nI (cntF (fun m => decide (eA c 2 (m * 4 + q) = w)) N 0 0)))) (pCo b c h) := by
  rw [MT_go (by decide) _ _ _ (Nat.le_of_ble_eq_true rfl), show s_entry 16 [.ref b, .int (nI q), .int (nI N), .int w] = [.ref b, .int (nI q), .int (nI N), .int w, s_no, s_no] from rfl]
  simp (disch := omega) only [u_16_0, u_16_1, u_16_3, u_16_4, gI0, gIs, gR0, gRs, gF0, gFs, st0, st_i, st_r, st_f, st_n, st_s, true_and, and_true, ↓ifLeT, ↓ifLeF, ↓ifLtT, ↓ifLtF, ↓ifEqT, ↓ifEqF, if_tt, if_ff, if_pos, if_neg, nLe, nLt, nEq, nInT, nCl, pk_mul, nI_add, Nat.reduceAdd, s_cat_nil, s_cat_i, s_cat_r, s_cat_f, s_cat_l, tl_s, tl_n, cat_i, cat_r, cat_f, nb0, nb1, nbI, if_bI, if_bIr, Nat.zero_le, Nat.reduceLeDiff, deedsOf_lp hq hN N 0 0 (Nat.zero_add _) (Nat.le_refl _)]
def anyF (g : Nat → Bool) : Nat → Nat → Bool → Bool
  | 0, _, x => x
  | n + 1, i, x => anyF g n (i + 1) (x || g i)
theorem idle_in {C N m : Nat} {v3 : Value} {z : Int32} (hC : C ≤ 4) (hm : m < 300) : ∀ n i x, i + n = C → (WP (d + 1) 17 17 [.ref b, .int (nI N), .int (nI C), .int z, .int (nI m), .int (iB x), .int (nI i)] [] (pCo b c h) (0, 0) Q ↔ WP (d + 1) 17 51 [.ref b, .int (nI N), .int (nI C), .int z, .int (nI m), .int (iB (anyF (fun q => decide (eA c 2 (m * 4 + q) = nI 4)) n i x)), .int (nI C)] [] (pCo b c h) (0, 0) Q) := by
  intro n
  induction n with
  | zero =>
    intro i x hi
    have e : i = C := by omega
    subst e
    simp (disch := omega) only [u_17_17, u_17_19, u_17_20, gI0, gIs, gR0, gRs, gF0, gFs, st0, st_i, st_r, st_f, st_n, st_s, true_and, and_true, ↓ifLeT, ↓ifLeF, ↓ifLtT, ↓ifLtF, ↓ifEqT, ↓ifEqF, if_tt, if_ff, if_pos, if_neg, nLe, nLt, nEq, nInT, nCl, pk_mul, nI_add, Nat.reduceAdd, s_cat_nil, s_cat_i, s_cat_r, s_cat_f, s_cat_l, tl_s, tl_n, cat_i, cat_r, cat_f, nb0, nb1, nbI, if_bI, if_bIr, Nat.zero_le, Nat.reduceLeDiff, anyF, Nat.le_refl]
  | succ n ih =>
    intro i x hi
    rw [u_17_17, anyF]
    have e1 := fun Q => m_deedAt (d := d) (b := b) (c := c) (h := h) (Q := Q) (q := i) (m := m) (by omega) hm
    have t1 : iB x ||| nI 1 = iB (x || true) := iB_or (q := true)
    have t0 : iB x ||| nI 0 = iB (x || false) := iB_or (q := false)
    by_cases h1 : eA c 2 (m * 4 + i) = nI 4
    · rw [decide_eq_true h1]
      simp (disch := omega) only [u_17_19, u_17_20, u_17_23, u_17_25, u_17_26, u_17_28, u_17_30, u_17_33, u_17_34, u_17_37, u_17_38, u_17_41, u_17_42, u_17_43, u_17_45, u_17_48, gI0, gIs, gR0, gRs, gF0, gFs, st0, st_i, st_r, st_f, st_n, st_s, true_and, and_true, ↓ifLeT, ↓ifLeF, ↓ifLtT, ↓ifLtF, ↓ifEqT, ↓ifEqF, if_tt, if_ff, if_pos, if_neg, nLe, nLt, nEq, nInT, nCl, pk_mul, nI_add, Nat.reduceAdd, s_cat_nil, s_cat_i, s_cat_r, s_cat_f, s_cat_l, tl_s, tl_n, cat_i, cat_r, cat_f, nb0, nb1, nbI, if_bI, if_bIr, Nat.zero_le, Nat.reduceLeDiff, Co_ob, e1, h1, t1, ih (i + 1) _ (by omega)]
    · rw [decide_eq_false h1]
      simp (disch := omega) only [u_17_19, u_17_20, u_17_23, u_17_25, u_17_26, u_17_28, u_17_30, u_17_33, u_17_34, u_17_37, u_17_38, u_17_41, u_17_42, u_17_43, u_17_45, u_17_48, gI0, gIs, gR0, gRs, gF0, gFs, st0, st_i, st_r, st_f, st_n, st_s, true_and, and_true, ↓ifLeT, ↓ifLeF, ↓ifLtT, ↓ifLtF, ↓ifEqT, ↓ifEqF, if_tt, if_ff, if_pos, if_neg, nLe, nLt, nEq, nInT, nCl, pk_mul, nI_add, Nat.reduceAdd, s_cat_nil, s_cat_i, s_cat_r, s_cat_f, s_cat_l, tl_s, tl_n, cat_i, cat_r, cat_f, nb0, nb1, nbI, if_bI, if_bIr, Nat.zero_le, Nat.reduceLeDiff, Co_ob, e1, h1, reduceIte, t0, ih (i + 1) _ (by omega)]
def idlB (c : tO) (C m : Nat) : Bool := !(anyF (fun q => decide (eA c 2 (m * 4 + q) = nI 4)) C 0 false)
theorem idle_lp {C N : Nat} (hC : C ≤ 4) (hN : N ≤ 300) : ∀ n i x v5 v6, i + n = N → x ≤ i → (WP (d + 1) 17 5 [.ref b, .int (nI N), .int (nI C), .int (nI x), .int (nI i), v5, v6] [] (pCo b c h) (0, 0) Q ↔ Q (some (.int (nI (cntF (idlB c C) n i x)))) (pCo b c h)) := by
  intro n
  induction n with
  | zero =>
    intro i x v5 v6 hi hx
    have e : i = N := by omega
    subst e
    simp (disch := omega) only [u_17_5, u_17_7, u_17_8, u_17_65, u_17_66, gI0, gIs, gR0, gRs, gF0, gFs, st0, st_i, st_r, st_f, st_n, st_s, true_and, and_true, ↓ifLeT, ↓ifLeF, ↓ifLtT, ↓ifLtF, ↓ifEqT, ↓ifEqF, if_tt, if_ff, if_pos, if_neg, nLe, nLt, nEq, nInT, nCl, pk_mul, nI_add, Nat.reduceAdd, s_cat_nil, s_cat_i, s_cat_r, s_cat_f, s_cat_l, tl_s, tl_n, cat_i, cat_r, cat_f, nb0, nb1, nbI, if_bI, if_bIr, Nat.zero_le, Nat.reduceLeDiff, cntF, Nat.le_refl]
  | succ n ih =>
    intro i x v5 v6 hi hx
    rw [u_17_5, cntF]
    have e1 := idle_in (d := d) (b := b) (c := c) (h := h) (Q := Q) (C := C) (N := N) (m := i) (v3 := s_no) (z := nI x) hC (by omega) C 0 false (Nat.zero_add _)
    unfold iB at e1
    have e2 : WP (d + 1) 17 7 [.ref b, .int (nI N), .int (nI C), .int (nI x), .int (nI i), v5, v6] [.int (nI i)] (pCo b c h) (0, 0) Q ↔ WP (d + 1) 17 51 [.ref b, .int (nI N), .int (nI C), .int (nI x), .int (nI i), .int (iB (anyF (fun q => decide (eA c 2 (i * 4 + q) = nI 4)) C 0 false)), .int (nI C)] [] (pCo b c h) (0, 0) Q := by
      refine Iff.trans ?_ e1
      simp (disch := omega) only [u_17_7, u_17_8, u_17_11, u_17_12, u_17_14, u_17_15, gI0, gIs, gR0, gRs, gF0, gFs, st0, st_i, st_r, st_f, st_n, st_s, true_and, and_true, ↓ifLeT, ↓ifLeF, ↓ifLtT, ↓ifLtF, ↓ifEqT, ↓ifEqF, if_tt, if_ff, if_pos, if_neg, nLe, nLt, nEq, nInT, nCl, pk_mul, nI_add, Nat.reduceAdd, s_cat_nil, s_cat_i, s_cat_r, s_cat_f, s_cat_l, tl_s, tl_n, cat_i, cat_r, cat_f, nb0, nb1, nbI, if_bI, if_bIr, Nat.zero_le, Nat.reduceLeDiff]
    refine Iff.trans e2 ?_
    unfold idlB
    cases h1 : anyF (fun q => decide (eA c 2 (i * 4 + q) = nI 4)) C 0 false with
    | true =>
      rw [show (!true) = false from rfl, if_neg (by decide)]
      simp (disch := omega) only [u_17_51, u_17_53, u_17_56, u_17_59, u_17_62, gI0, gIs, gR0, gRs, gF0, gFs, st0, st_i, st_r, st_f, st_n, st_s, true_and, and_true, ↓ifLeT, ↓ifLeF, ↓ifLtT, ↓ifLtF, ↓ifEqT, ↓ifEqF, if_tt, if_ff, if_pos, if_neg, nLe, nLt, nEq, nInT, nCl, pk_mul, nI_add, Nat.reduceAdd, s_cat_nil, s_cat_i, s_cat_r, s_cat_f, s_cat_l, tl_s, tl_n, cat_i, cat_r, cat_f, nb0, nb1, nbI, if_bI, if_bIr, Nat.zero_le, Nat.reduceLeDiff, iB, nI10, reduceIte]
      exact ih (i + 1) x _ _ (by omega) (by omega)
    | false =>
      rw [show (!false) = true from rfl, if_pos rfl]
      simp (disch := omega) only [u_17_51, u_17_53, u_17_56, u_17_59, u_17_62, gI0, gIs, gR0, gRs, gF0, gFs, st0, st_i, st_r, st_f, st_n, st_s, true_and, and_true, ↓ifLeT, ↓ifLeF, ↓ifLtT, ↓ifLtF, ↓ifEqT, ↓ifEqF, if_tt, if_ff, if_pos, if_neg, nLe, nLt, nEq, nInT, nCl, pk_mul, nI_add, Nat.reduceAdd, s_cat_nil, s_cat_i, s_cat_r, s_cat_f, s_cat_l, tl_s, tl_n, cat_i, cat_r, cat_f, nb0, nb1, nbI, if_bI, if_bIr, Nat.zero_le, Nat.reduceLeDiff, iB]
      exact ih (i + 1) (x + 1) _ _ (by omega) (by omega)
theorem m_idleIn {C N : Nat} (hC : C ≤ 4) (hN : N ≤ 300) : MT (d + 2) 17 [.ref b, .int (nI N), .int (nI C)] (pCo b c h) Q ↔ Q (some (.int (nI (cntF (idlB c C) N 0 0)))) (pCo b c h) := by
  rw [MT_go (by decide) _ _ _ (Nat.le_of_ble_eq_true rfl), show s_entry 17 [.ref b, .int (nI N), .int (nI C)] = [.ref b, .int (nI N), .int (nI C), s_no, s_no, s_no, s_no] from rfl]
  simp (disch := omega) only [u_17_0, u_17_1, u_17_2, u_17_3, gI0, gIs, gR0, gRs, gF0, gFs, st0, st_i, st_r, st_f, st_n, st_s, true_and, and_true, ↓ifLeT, ↓ifLeF, ↓ifLtT, ↓ifLtF, ↓ifEqT, ↓ifEqF, if_tt, if_ff, if_pos, if_neg, nLe, nLt, nEq, nInT, nCl, pk_mul, nI_add, Nat.reduceAdd, s_cat_nil, s_cat_i, s_cat_r, s_cat_f, s_cat_l, tl_s, tl_n, cat_i, cat_r, cat_f, nb0, nb1, nbI, if_bI, if_bIr, Nat.zero_le, Nat.reduceLeDiff, idle_lp hC hN N 0 0 _ _ (Nat.zero_add _) (Nat.le_refl _)]
end CO
