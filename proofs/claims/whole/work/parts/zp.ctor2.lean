/-! the constructors with loops: Acts, the class itself -/
theorem zH_gm {l1 l2 : List sC} {c : sC} {h : sH} {a : Nat} (ha : a = h.2.1 + l1.length) : hg (zH (l1 ++ c :: l2) h) a = c := by
  subst ha
  rw [zH_at, if_pos (by omega), Nat.add_sub_cancel_left, List.getD_eq_getElem?_getD, List.getElem?_append_right (Nat.le_refl _), Nat.sub_self]
  rfl
theorem zH_sm {l1 l2 : List sC} {c c' : sC} {h : sH} {a : Nat} (ha : a = h.2.1 + l1.length) : hs (zH (l1 ++ c :: l2) h) a c' = zH (l1 ++ c' :: l2) h := by
  subst ha
  refine Prod.ext rfl (Prod.ext ?_ (funext fun q => ?_))
  · show h.2.1 + (l1 ++ c :: l2).length = h.2.1 + (l1 ++ c' :: l2).length
    rw [List.length_append, List.length_append]
    rfl
  · show (if q = h.2.1 + l1.length then c' else if h.2.1 ≤ q then (l1 ++ c :: l2).getD (q - h.2.1) (h.2.2 q) else h.2.2 q) = if h.2.1 ≤ q then (l1 ++ c' :: l2).getD (q - h.2.1) (h.2.2 q) else h.2.2 q
    by_cases e : q = h.2.1 + l1.length
    · subst e
      rw [if_pos rfl, if_pos (by omega), Nat.add_sub_cancel_left, List.getD_eq_getElem?_getD, List.getElem?_append_right (Nat.le_refl _), Nat.sub_self]
      rfl
    · rw [if_neg e]
      by_cases g : h.2.1 ≤ q
      · rw [if_pos g, if_pos g, List.getD_eq_getElem?_getD, List.getD_eq_getElem?_getD]
        by_cases g2 : q - h.2.1 < l1.length
        · rw [List.getElem?_append_left g2, List.getElem?_append_left g2]
        · rw [List.getElem?_append_right (by omega), List.getElem?_append_right (by omega)]
          obtain ⟨j, hj⟩ : ∃ j, q - h.2.1 - l1.length = j + 1 := ⟨q - h.2.1 - l1.length - 1, by omega⟩
          rw [hj]
          rfl
      · rw [if_neg g, if_neg g]
theorem aL_m {l1 l2 : List sC} {t n : Nat} {X : (Nat → Int32) ⊕ (Nat → Int64) ⊕ (Nat → UInt32) ⊕ (Nat → UInt64) ⊕ (Nat → Option Nat)} {h : sH} {a : Nat} {f : Int32 → Prop} (ha : a = h.2.1 + l1.length) (ht : t < 6) : aL (zH (l1 ++ .inl (t, (n, X)) :: l2) h) a f ↔ f (nI n) := by
  unfold aL oA
  rw [zH_gm ha]
  exact ⟨fun z => z.2, fun z => ⟨Or.inl ht, z⟩⟩
theorem rS_m {l1 l2 : List sC} {t n x : Nat} {i : Int32} {g : Nat → Option Nat} {h : sH} {a : Nat} {f : sH → Prop} (ha : a = h.2.1 + l1.length) (hx : (t = 4 ∧ oO (zH (l1 ++ .inl (t, (n, .inr (.inr (.inr (.inr g))))) :: l2) h) x fun c _ => c = 1) ∨ (t = 5 ∧ oO (zH (l1 ++ .inl (t, (n, .inr (.inr (.inr (.inr g))))) :: l2) h) x fun c _ => c = 7)) (hi : vp_in i n) : rS (zH (l1 ++ .inl (t, (n, .inr (.inr (.inr (.inr g))))) :: l2) h) a i x f ↔ f (zH (l1 ++ .inl (t, (n, .inr (.inr (.inr (.inr (va_up g i.toNatClampNeg (some x))))))) :: l2) h) := by
  unfold rS oQ
  rw [zH_gm ha]
  dsimp only
  rw [zH_sm ha]
  exact ⟨fun z => z.2.2, fun z => ⟨hx, hi, z⟩⟩
theorem ob_m {l1 l2 : List sC} {ci : Nat} {fs : List Value} {h : sH} {a : Nat} (ha : a = h.2.1 + l1.length) : oO (zH (l1 ++ .inr (ci, fs) :: l2) h) a fun c _ => c = ci := by
  unfold oO
  rw [zH_gm ha]
theorem up_acU {b i x : Nat} (hx : x = b + 2 + 16 * i) : va_up (acU b i) i (some x) = acU b (i + 1) := by
  subst hx
  funext q
  unfold va_up acU
  by_cases e : q = i
  · subst e
    rw [if_pos rfl, if_pos (Nat.lt_succ_self _)]
  · rw [if_neg e]
    by_cases g : q < i
    · rw [if_pos g, if_pos (by omega)]
    · rw [if_neg g, if_neg (by omega)]
def qU (b i : Nat) : Nat → Option Nat := fun j => if j < i then some (b + 301 + 4 * j) else none
theorem up_qU {b i x : Nat} (hx : x = b + 301 + 4 * i) : va_up (qU b i) i (some x) = qU b (i + 1) := by
  subst hx
  funext q
  unfold va_up qU
  by_cases e : q = i
  · subst e
    rw [if_pos rfl, if_pos (Nat.lt_succ_self _)]
  · rw [if_neg e]
    by_cases g : q < i
    · rw [if_pos g, if_pos (by omega)]
    · rw [if_neg g, if_neg (by omega)]
def csL (b : Nat) : Nat → List sC
  | 0 => []
  | i + 1 => csL b i ++ chL (b + 301 + 4 * i)
theorem csL_len {b : Nat} : ∀ i, (csL b i).length = 4 * i
  | 0 => rfl
  | i + 1 => by
    show (csL b i ++ chL (b + 301 + 4 * i)).length = _
    rw [List.length_append, csL_len i, chL_len]
    omega
def zqO (b : Nat) : sC := .inr (8, [.ref (b + 1), .ref (b + 2), .ref (b + 24), .ref (b + 40), .ref (b + 56), .int 0, .ref (b + 72), .ref (b + 234), .ref (b + 239), .ref (b + 283), .ref (b + 287), .ref (b + 291), .ref (b + 295), .ref (b + 299), .ref (b + 300)])
def zk1 (b : Nat) : List sC := reL (b + 1)
theorem zk1_len {b : Nat} : (zk1 b).length = 23 := by
  unfold zk1
  simp only [List.length_append, reL_len, yL_len, acL_len, coL_len, seL_len, chL_len]
theorem zk1_fo {b : Nat} : reL (b + 1) = zk1 b := rfl
def zk2 (b : Nat) : List sC := zk1 b ++ yL (b + 24)
theorem zk2_len {b : Nat} : (zk2 b).length = 39 := by
  unfold zk2
  simp only [List.length_append, reL_len, yL_len, acL_len, coL_len, seL_len, chL_len, zk1_len]
theorem zk2_fo {b : Nat} : zk1 b ++ yL (b + 24) = zk2 b := rfl
def zk3 (b : Nat) : List sC := zk2 b ++ yL (b + 40)
theorem zk3_len {b : Nat} : (zk3 b).length = 55 := by
  unfold zk3
  simp only [List.length_append, reL_len, yL_len, acL_len, coL_len, seL_len, chL_len, zk2_len]
theorem zk3_fo {b : Nat} : zk2 b ++ yL (b + 40) = zk3 b := rfl
def zk4 (b : Nat) : List sC := zk3 b ++ yL (b + 56)
theorem zk4_len {b : Nat} : (zk4 b).length = 71 := by
  unfold zk4
  simp only [List.length_append, reL_len, yL_len, acL_len, coL_len, seL_len, chL_len, zk3_len]
theorem zk4_fo {b : Nat} : zk3 b ++ yL (b + 56) = zk4 b := rfl
def zk5 (b : Nat) : List sC := zk4 b ++ acL (b + 72) 10
theorem zk5_len {b : Nat} : (zk5 b).length = 233 := by
  unfold zk5
  simp only [List.length_append, reL_len, yL_len, acL_len, coL_len, seL_len, chL_len, zk4_len]
theorem zk5_fo {b : Nat} : zk4 b ++ acL (b + 72) 10 = zk5 b := rfl
def zk6 (b : Nat) : List sC := zk5 b ++ coL (b + 234)
theorem zk6_len {b : Nat} : (zk6 b).length = 238 := by
  unfold zk6
  simp only [List.length_append, reL_len, yL_len, acL_len, coL_len, seL_len, chL_len, zk5_len]
theorem zk6_fo {b : Nat} : zk5 b ++ coL (b + 234) = zk6 b := rfl
def zk7 (b : Nat) : List sC := zk6 b ++ seL (b + 239)
theorem zk7_len {b : Nat} : (zk7 b).length = 282 := by
  unfold zk7
  simp only [List.length_append, reL_len, yL_len, acL_len, coL_len, seL_len, chL_len, zk6_len]
theorem zk7_fo {b : Nat} : zk6 b ++ seL (b + 239) = zk7 b := rfl
def zk8 (b : Nat) : List sC := zk7 b ++ chL (b + 283)
theorem zk8_len {b : Nat} : (zk8 b).length = 286 := by
  unfold zk8
  simp only [List.length_append, reL_len, yL_len, acL_len, coL_len, seL_len, chL_len, zk7_len]
theorem zk8_fo {b : Nat} : zk7 b ++ chL (b + 283) = zk8 b := rfl
def zk9 (b : Nat) : List sC := zk8 b ++ chL (b + 287)
theorem zk9_len {b : Nat} : (zk9 b).length = 290 := by
  unfold zk9
  simp only [List.length_append, reL_len, yL_len, acL_len, coL_len, seL_len, chL_len, zk8_len]
theorem zk9_fo {b : Nat} : zk8 b ++ chL (b + 287) = zk9 b := rfl
def zk10 (b : Nat) : List sC := zk9 b ++ chL (b + 291)
theorem zk10_len {b : Nat} : (zk10 b).length = 294 := by
  unfold zk10
  simp only [List.length_append, reL_len, yL_len, acL_len, coL_len, seL_len, chL_len, zk9_len]
theorem zk10_fo {b : Nat} : zk9 b ++ chL (b + 291) = zk10 b := rfl
def zk11 (b : Nat) : List sC := zk10 b ++ chL (b + 295)
theorem zk11_len {b : Nat} : (zk11 b).length = 298 := by
  unfold zk11
  simp only [List.length_append, reL_len, yL_len, acL_len, coL_len, seL_len, chL_len, zk10_len]
theorem zk11_fo {b : Nat} : zk10 b ++ chL (b + 295) = zk11 b := rfl
def qP (b : Nat) : List sC := zk11 b
theorem qP_len {b : Nat} : (qP b).length = 298 := zk11_len
def zqL (b i : Nat) : List sC := (zqO b :: qP b) ++ .inl (4, (4, .inr (.inr (.inr (.inr (qU b i)))))) :: (ia 4 :: csL b i)
theorem zqL_len {b i : Nat} : (zqL b i).length = 301 + 4 * i := by
  unfold zqL
  simp only [List.length_append, List.length_cons, qP_len, csL_len]
  omega
theorem fG_re {c0 : sC} {h : sH} {f : Value → Prop} : fG (zH (c0 :: zk1 h.2.1) h) (h.2.1 + 1) 4 0 f ↔ f (.ref (h.2.1 + 2)) := by
  unfold zk1
  have e : hg (zH (c0 :: reL (h.2.1 + 1)) h) (h.2.1 + 1) = .inr (4, [.ref (h.2.1 + 1 + 1), .ref (h.2.1 + 1 + 3), .ref (h.2.1 + 1 + 19), .ref (h.2.1 + 1 + 22), .int 0]) := by
    show hg (zH ([c0] ++ reL (h.2.1 + 1)) h) (h.2.1 + 1) = _
    unfold reL
    exact zH_gm rfl
  unfold fG oO
  rw [e]
  exact ⟨fun z => z.2, fun z => ⟨rfl, z⟩⟩
section CTR2
variable {d : Nat} {h : sH} {Q : sQ}
theorem ac_lp (h1 : h.1 = true) (hb9 : h.2.1 + 162 ≤ 999999) (K : Q none (zH (acL h.2.1 10) h)) : ∀ n i, i + n = 10 → WP (d + 2) 0 15 [.ref h.2.1, .int (nI i)] [] (zH (acL h.2.1 i) h) (1 + 16 * i, 10 + 134 * i) Q := by
  intro n
  induction n with
  | zero =>
    intro i hi
    obtain rfl : i = 10 := by omega
    have a1 := fun f => aL_m (l1 := [.inr (0, [.ref (h.2.1 + 1), .int 0, .int 0])]) (l2 := ysL h.2.1 10) (t := 5) (n := 10) (X := .inr (.inr (.inr (.inr (acU h.2.1 10))))) (h := h) (a := h.2.1 + 1) (f := f) rfl (by decide)
    rw [u_0_15]
    simp (disch := omega) only [u_0_16, gI0, gIs, gR0, gRs, gF0, gFs, st0, st_i, st_r, st_f, st_n, st_s, true_and, and_true, ↓ifLeT, ↓ifLeF, ↓ifLtT, ↓ifLtF, ↓ifEqT, ↓ifEqF, if_tt, if_ff, if_pos, if_neg, nLe, nLt, nEq, nInT, nCl, pk_mul, nI_add, Nat.reduceAdd, s_cat_nil, s_cat_i, s_cat_r, s_cat_f, s_cat_l, tl_s, tl_n, cat_i, cat_r, cat_f, nb0, nb1, nbI, if_bI, if_bIr, Nat.zero_le, Nat.reduceLeDiff]
    unfold acL at K ⊢
    simp (disch := omega) only [u_0_17, gI0, gIs, gR0, gRs, gF0, gFs, st0, st_i, st_r, st_f, st_n, st_s, true_and, and_true, ↓ifLeT, ↓ifLeF, ↓ifLtT, ↓ifLtF, ↓ifEqT, ↓ifEqF, if_tt, if_ff, if_pos, if_neg, nLe, nLt, nEq, nInT, nCl, pk_mul, nI_add, Nat.reduceAdd, s_cat_nil, s_cat_i, s_cat_r, s_cat_f, s_cat_l, tl_s, tl_n, cat_i, cat_r, cat_f, nb0, nb1, nbI, if_bI, if_bIr, Nat.zero_le, Nat.reduceLeDiff, fG_z, oo_s, List.getElem?_cons_zero]
    simp (disch := omega) only [u_0_20, gI0, gIs, gR0, gRs, gF0, gFs, st0, st_i, st_r, st_f, st_n, st_s, true_and, and_true, ↓ifLeT, ↓ifLeF, ↓ifLtT, ↓ifLtF, ↓ifEqT, ↓ifEqF, if_tt, if_ff, if_pos, if_neg, nLe, nLt, nEq, nInT, nCl, pk_mul, nI_add, Nat.reduceAdd, s_cat_nil, s_cat_i, s_cat_r, s_cat_f, s_cat_l, tl_s, tl_n, cat_i, cat_r, cat_f, nb0, nb1, nbI, if_bI, if_bIr, Nat.zero_le, Nat.reduceLeDiff]
    refine (a1 _).mpr ?_
    simp (disch := omega) only [u_0_21, u_0_43, gI0, gIs, gR0, gRs, gF0, gFs, st0, st_i, st_r, st_f, st_n, st_s, true_and, and_true, ↓ifLeT, ↓ifLeF, ↓ifLtT, ↓ifLtF, ↓ifEqT, ↓ifEqF, if_tt, if_ff, if_pos, if_neg, nLe, nLt, nEq, nInT, nCl, pk_mul, nI_add, Nat.reduceAdd, s_cat_nil, s_cat_i, s_cat_r, s_cat_f, s_cat_l, tl_s, tl_n, cat_i, cat_r, cat_f, nb0, nb1, nbI, if_bI, if_bIr, Nat.zero_le, Nat.reduceLeDiff]
    exact K
  | succ n ih =>
    intro i hi
    have a1 := fun f => aL_m (l1 := [.inr (0, [.ref (h.2.1 + 1), .int 0, .int 0])]) (l2 := ysL h.2.1 i) (t := 5) (n := 10) (X := .inr (.inr (.inr (.inr (acU h.2.1 i))))) (h := h) (a := h.2.1 + 1) (f := f) rfl (by decide)
    have ex : (zH (acL h.2.1 i) h).2.1 = h.2.1 + 2 + 16 * i := by rw [zH_n, acL_len]; omega
    rw [u_0_15]
    simp (disch := omega) only [u_0_16, gI0, gIs, gR0, gRs, gF0, gFs, st0, st_i, st_r, st_f, st_n, st_s, true_and, and_true, ↓ifLeT, ↓ifLeF, ↓ifLtT, ↓ifLtF, ↓ifEqT, ↓ifEqF, if_tt, if_ff, if_pos, if_neg, nLe, nLt, nEq, nInT, nCl, pk_mul, nI_add, Nat.reduceAdd, s_cat_nil, s_cat_i, s_cat_r, s_cat_f, s_cat_l, tl_s, tl_n, cat_i, cat_r, cat_f, nb0, nb1, nbI, if_bI, if_bIr, Nat.zero_le, Nat.reduceLeDiff]
    unfold acL
    simp (disch := omega) only [u_0_17, gI0, gIs, gR0, gRs, gF0, gFs, st0, st_i, st_r, st_f, st_n, st_s, true_and, and_true, ↓ifLeT, ↓ifLeF, ↓ifLtT, ↓ifLtF, ↓ifEqT, ↓ifEqF, if_tt, if_ff, if_pos, if_neg, nLe, nLt, nEq, nInT, nCl, pk_mul, nI_add, Nat.reduceAdd, s_cat_nil, s_cat_i, s_cat_r, s_cat_f, s_cat_l, tl_s, tl_n, cat_i, cat_r, cat_f, nb0, nb1, nbI, if_bI, if_bIr, Nat.zero_le, Nat.reduceLeDiff, fG_z, oo_s, List.getElem?_cons_zero]
    simp (disch := omega) only [u_0_20, gI0, gIs, gR0, gRs, gF0, gFs, st0, st_i, st_r, st_f, st_n, st_s, true_and, and_true, ↓ifLeT, ↓ifLeF, ↓ifLtT, ↓ifLtF, ↓ifEqT, ↓ifEqF, if_tt, if_ff, if_pos, if_neg, nLe, nLt, nEq, nInT, nCl, pk_mul, nI_add, Nat.reduceAdd, s_cat_nil, s_cat_i, s_cat_r, s_cat_f, s_cat_l, tl_s, tl_n, cat_i, cat_r, cat_f, nb0, nb1, nbI, if_bI, if_bIr, Nat.zero_le, Nat.reduceLeDiff]
    refine (a1 _).mpr ?_
    have nle : ¬ nI 10 ≤ nI i := fun q => by
      have q := (nLe (by omega) (by omega)).mp q
      omega
    simp (disch := omega) only [u_0_21, u_0_24, u_0_25, u_0_28, gI0, gIs, gR0, gRs, gF0, gFs, st0, st_i, st_r, st_f, st_n, st_s, true_and, and_true, ↓ifLeT, ↓ifLeF, ↓ifLtT, ↓ifLtF, ↓ifEqT, ↓ifEqF, if_tt, if_ff, if_pos, if_neg, nLe, nLt, nEq, nInT, nCl, pk_mul, nI_add, Nat.reduceAdd, s_cat_nil, s_cat_i, s_cat_r, s_cat_f, s_cat_l, tl_s, tl_n, cat_i, cat_r, cat_f, nb0, nb1, nbI, if_bI, if_bIr, Nat.zero_le, Nat.reduceLeDiff, fG_z, oo_s, List.getElem?_cons_zero, nle]
    show WP (d + 2) 0 29 [.ref h.2.1, .int (nI i)] [.int (nI i), .ref (h.2.1 + 1)] (zH (acL h.2.1 i) h) (1 + 16 * i, 10 + 134 * i) Q
    rw [u_0_29]
    refine ⟨h1, by rw [ex]; omega, by rw [mc_0]; show 1 + 16 * i + 1 ≤ 161; omega, by rw [ms_0, cn_7]; show 10 + 134 * i + 20 ≤ 1350; omega, ?_⟩
    rw [u_0_32]
    refine ⟨rfl, ?_⟩
    rw [u_0_33]
    refine ⟨Nat.le_of_ble_eq_true rfl, by rw [mc_0, mc_63]; show 1 + 16 * i + 1 + 15 ≤ 161; omega, by rw [ms_0, ms_63, cn_7]; show 10 + 134 * i + 20 + 114 ≤ 1350; omega, ?_⟩
    refine c_Yard (h := zH (acL h.2.1 i) h) h1 (by rw [ex]; omega) rfl ?_
    rw [mc_63, ms_63, cn_7, zH_zH, ex]
    show WP (d + 2) 0 36 [.ref h.2.1, .int (nI i)] [.ref (h.2.1 + 2 + 16 * i), .int (nI i), .ref (h.2.1 + 1)] (zH ([.inr (0, [.ref (h.2.1 + 1), .int 0, .int 0])] ++ .inl (5, (10, .inr (.inr (.inr (.inr (acU h.2.1 i)))))) :: (ysL h.2.1 i ++ yL (h.2.1 + 2 + 16 * i))) h) (1 + 16 * i + 1 + 15, 10 + 134 * i + 20 + 114) Q
    rw [u_0_36]
    refine (rS_m (a := h.2.1 + 1) rfl (Or.inr ⟨rfl, ?_⟩) ?_).mpr ?_
    · show oO (zH (acL h.2.1 i ++ yL (h.2.1 + 2 + 16 * i)) h) (h.2.1 + 2 + 16 * i) fun c _ => c = 7
      unfold yL
      exact ob_m (by rw [acL_len]; omega)
    · exact vp_in_nI (by omega) (by omega)
    · have ecl : (nI i).toNatClampNeg = i := nCl (by omega)
      rw [ecl, up_acU rfl]
      simp (disch := omega) only [u_0_37, u_0_40, gI0, gIs, gR0, gRs, gF0, gFs, st0, st_i, st_r, st_f, st_n, st_s, true_and, and_true, ↓ifLeT, ↓ifLeF, ↓ifLtT, ↓ifLtF, ↓ifEqT, ↓ifEqF, if_tt, if_ff, if_pos, if_neg, nLe, nLt, nEq, nInT, nCl, pk_mul, nI_add, Nat.reduceAdd, s_cat_nil, s_cat_i, s_cat_r, s_cat_f, s_cat_l, tl_s, tl_n, cat_i, cat_r, cat_f, nb0, nb1, nbI, if_bI, if_bIr, Nat.zero_le, Nat.reduceLeDiff]
      have ih1 := ih (i + 1) (by omega)
      rw [show 1 + 16 * (i + 1) = 1 + 16 * i + 1 + 15 by omega, show 10 + 134 * (i + 1) = 10 + 134 * i + 20 + 114 by omega] at ih1
      exact ih1
theorem c_Acts (h1 : h.1 = true) (hb9 : h.2.1 + 162 ≤ 999999) {a : Nat} (ha : a = h.2.1) (K : Q none (zH (acL h.2.1 10) h)) : MT (d + 3) 0 [.ref a] (hn h (.inr (0, s_def 0))) Q := by
  subst ha
  have hb : ∀ n, n < 162 → (h.2.1 + n < 999999) = True := fun n hn => eq_true (by omega)
  rw [MT_go (by decide) _ _ _ (Nat.le_of_ble_eq_true rfl), show s_entry 0 [.ref h.2.1] = [.ref h.2.1, s_no] from rfl]
  rw [zH_hn1, sd_0]
  simp (disch := first | assumption | decide +kernel | (simp only [List.length_cons, List.length_nil, List.length_append, plL_len, yL_len, tpL_len, chL_len, coL_len, reL_len, seL_len, acL_len, ysL_len, zH_n, csL_len, qP_len, zqL_len, zk1_len, zk2_len, zk3_len, zk4_len, zk5_len, zk6_len, zk7_len, zk8_len, zk9_len, zk10_len, zk11_len]; omega)) only [u_0_0, u_0_1, u_0_4, u_0_5, u_0_7, u_0_10, u_0_13, u_0_14, arr_z, gI0, gIs, gR0, gRs, gF0, gFs, st0, st_i, st_r, st_f, st_n, st_s, true_and, and_true, ↓ifLeT, ↓ifLeF, ↓ifLtT, ↓ifLtF, ↓ifEqT, ↓ifEqF, if_tt, if_ff, if_pos, if_neg, nLe, nLt, nEq, nInT, nCl, pk_mul, nI_add, Nat.reduceAdd, s_cat_nil, s_cat_i, s_cat_r, s_cat_f, s_cat_l, tl_s, tl_n, cat_i, cat_r, cat_f, nb0, nb1, nbI, if_bI, if_bIr, Nat.zero_le, Nat.reduceLeDiff, arr_i, arr_f, arr_b, fSF_z, fG_z, oo_s, zH_1, zH_zH, List.length_cons, List.length_nil, List.length_append, plL_len, yL_len, tpL_len, chL_len, coL_len, reL_len, seL_len, acL_len, ysL_len, zH_n, csL_len, qP_len, zqL_len, zk1_len, zk1_fo, zk2_len, zk2_fo, zk3_len, zk3_fo, zk4_len, zk4_fo, zk5_len, zk5_fo, zk6_len, zk6_fo, zk7_len, zk7_fo, zk8_len, zk8_fo, zk9_len, zk9_fo, zk10_len, zk10_fo, zk11_len, zk11_fo, List.cons_append, List.nil_append, List.append_assoc, List.append_nil, List.set_cons_zero, List.set_cons_succ, List.getElem?_cons_zero, List.getElem?_cons_succ, Nat.zero_add, Nat.add_assoc, Nat.reduceAdd, Nat.reduceLeDiff, h1, hb, mc_0, ms_0, cn_0, mc_5, ms_5, cn_1, mc_9, ms_9, cn_2, mc_18, ms_18, cn_3, mc_30, ms_30, cn_4, mc_41, ms_41, cn_5, mc_53, ms_53, cn_6, mc_63, ms_63, cn_7, mc_89, ms_89, cn_8, mc_143, ms_143, cn_9]
  have e : acU h.2.1 0 = fun _ => none := by
    funext q
    unfold acU
    rw [if_neg (Nat.not_lt_zero q)]
  have w := ac_lp (d := d) h1 hb9 K 10 0 rfl
  unfold acL at w
  rw [e] at w
  exact w
theorem q_lp (h1 : h.1 = true) (hb9 : h.2.1 + 317 ≤ 999999) (K : Q none (zH (zqL h.2.1 4) h)) : ∀ n i, i + n = 4 → WP (d + 3) 89 153 [.ref h.2.1, .int (nI i)] [] (zH (zqL h.2.1 i) h) (300 + 4 * i, 6707 + 44 * i) Q := by
  intro n
  induction n with
  | zero =>
    intro i hi
    obtain rfl : i = 4 := by omega
    have a1 := fun f => aL_m (l1 := zqO h.2.1 :: qP h.2.1) (l2 := ia 4 :: csL h.2.1 4) (t := 4) (n := 4) (X := .inr (.inr (.inr (.inr (qU h.2.1 4))))) (h := h) (a := h.2.1 + 299) (f := f) (by rw [List.length_cons, qP_len]) (by decide)
    have f1 : ∀ f, fG (zH (zqL h.2.1 4) h) h.2.1 8 13 f ↔ f (.ref (h.2.1 + 299)) := fun f => by
      unfold zqL zqO
      exact fG_z
    rw [u_89_153]
    simp (disch := omega) only [u_89_154, u_89_155, u_89_158, gI0, gIs, gR0, gRs, gF0, gFs, st0, st_i, st_r, st_f, st_n, st_s, true_and, and_true, ↓ifLeT, ↓ifLeF, ↓ifLtT, ↓ifLtF, ↓ifEqT, ↓ifEqF, if_tt, if_ff, if_pos, if_neg, nLe, nLt, nEq, nInT, nCl, pk_mul, nI_add, Nat.reduceAdd, s_cat_nil, s_cat_i, s_cat_r, s_cat_f, s_cat_l, tl_s, tl_n, cat_i, cat_r, cat_f, nb0, nb1, nbI, if_bI, if_bIr, Nat.zero_le, Nat.reduceLeDiff, f1]
    refine (a1 _).mpr ?_
    simp (disch := omega) only [u_89_159, u_89_181, gI0, gIs, gR0, gRs, gF0, gFs, st0, st_i, st_r, st_f, st_n, st_s, true_and, and_true, ↓ifLeT, ↓ifLeF, ↓ifLtT, ↓ifLtF, ↓ifEqT, ↓ifEqF, if_tt, if_ff, if_pos, if_neg, nLe, nLt, nEq, nInT, nCl, pk_mul, nI_add, Nat.reduceAdd, s_cat_nil, s_cat_i, s_cat_r, s_cat_f, s_cat_l, tl_s, tl_n, cat_i, cat_r, cat_f, nb0, nb1, nbI, if_bI, if_bIr, Nat.zero_le, Nat.reduceLeDiff]
    exact K
  | succ n ih =>
    intro i hi
    have a1 := fun f => aL_m (l1 := zqO h.2.1 :: qP h.2.1) (l2 := ia 4 :: csL h.2.1 i) (t := 4) (n := 4) (X := .inr (.inr (.inr (.inr (qU h.2.1 i))))) (h := h) (a := h.2.1 + 299) (f := f) (by rw [List.length_cons, qP_len]) (by decide)
    have f1 : ∀ f, fG (zH (zqL h.2.1 i) h) h.2.1 8 13 f ↔ f (.ref (h.2.1 + 299)) := fun f => by
      unfold zqL zqO
      exact fG_z
    have ex : (zH (zqL h.2.1 i) h).2.1 = h.2.1 + 301 + 4 * i := by rw [zH_n, zqL_len]; omega
    have nle : ¬ nI 4 ≤ nI i := fun q => by
      have q := (nLe (by omega) (by omega)).mp q
      omega
    rw [u_89_153]
    simp (disch := omega) only [u_89_154, u_89_155, u_89_158, gI0, gIs, gR0, gRs, gF0, gFs, st0, st_i, st_r, st_f, st_n, st_s, true_and, and_true, ↓ifLeT, ↓ifLeF, ↓ifLtT, ↓ifLtF, ↓ifEqT, ↓ifEqF, if_tt, if_ff, if_pos, if_neg, nLe, nLt, nEq, nInT, nCl, pk_mul, nI_add, Nat.reduceAdd, s_cat_nil, s_cat_i, s_cat_r, s_cat_f, s_cat_l, tl_s, tl_n, cat_i, cat_r, cat_f, nb0, nb1, nbI, if_bI, if_bIr, Nat.zero_le, Nat.reduceLeDiff, f1]
    refine (a1 _).mpr ?_
    show WP (d + 3) 89 159 [.ref h.2.1, .int (nI i)] [.int (nI 4), .int (nI i)] (zH (zqL h.2.1 i) h) (300 + 4 * i, 6707 + 44 * i) Q
    simp (disch := omega) only [u_89_159, u_89_162, u_89_163, u_89_166, gI0, gIs, gR0, gRs, gF0, gFs, st0, st_i, st_r, st_f, st_n, st_s, true_and, and_true, ↓ifLeT, ↓ifLeF, ↓ifLtT, ↓ifLtF, ↓ifEqT, ↓ifEqF, if_tt, if_ff, if_pos, if_neg, nLe, nLt, nEq, nInT, nCl, pk_mul, nI_add, Nat.reduceAdd, s_cat_nil, s_cat_i, s_cat_r, s_cat_f, s_cat_l, tl_s, tl_n, cat_i, cat_r, cat_f, nb0, nb1, nbI, if_bI, if_bIr, Nat.zero_le, Nat.reduceLeDiff, f1, nle]
    rw [u_89_167]
    refine ⟨h1, by rw [ex]; omega, by rw [mc_89]; show 300 + 4 * i + 1 ≤ 316; omega, by rw [ms_89, cn_1]; show 6707 + 44 * i + 6 ≤ 6883; omega, ?_⟩
    rw [u_89_170]
    refine ⟨rfl, ?_⟩
    rw [u_89_171]
    refine ⟨Nat.le_of_ble_eq_true rfl, by rw [mc_89, mc_5]; show 300 + 4 * i + 1 + 3 ≤ 316; omega, by rw [ms_89, ms_5, cn_1]; show 6707 + 44 * i + 6 + 38 ≤ 6883; omega, ?_⟩
    refine c_Choice (d := d + 1) (h := zH (zqL h.2.1 i) h) h1 (by rw [ex]; omega) rfl ?_
    rw [mc_5, ms_5, cn_1, zH_zH, ex]
    have el : zqL h.2.1 i ++ chL (h.2.1 + 301 + 4 * i) = (zqO h.2.1 :: qP h.2.1) ++ .inl (4, (4, .inr (.inr (.inr (.inr (qU h.2.1 i)))))) :: (ia 4 :: (csL h.2.1 i ++ chL (h.2.1 + 301 + 4 * i))) := by
      unfold zqL
      simp only [List.append_assoc, List.cons_append]
    show WP (d + 3) 89 174 [.ref h.2.1, .int (nI i)] [.ref (h.2.1 + 301 + 4 * i), .int (nI i), .ref (h.2.1 + 299)] (zH (zqL h.2.1 i ++ chL (h.2.1 + 301 + 4 * i)) h) (300 + 4 * i + 1 + 3, 6707 + 44 * i + 6 + 38) Q
    have ob : oO (zH (zqL h.2.1 i ++ chL (h.2.1 + 301 + 4 * i)) h) (h.2.1 + 301 + 4 * i) fun c _ => c = 1 := by
      unfold chL
      exact ob_m (by rw [zqL_len]; omega)
    rw [el] at ob ⊢
    rw [u_89_174]
    refine (rS_m (a := h.2.1 + 299) (by rw [List.length_cons, qP_len]) (Or.inl ⟨rfl, ob⟩) (vp_in_nI (by omega) (by omega))).mpr ?_
    have ecl : (nI i).toNatClampNeg = i := nCl (by omega)
    rw [ecl, up_qU rfl]
    simp (disch := omega) only [u_89_175, u_89_178, gI0, gIs, gR0, gRs, gF0, gFs, st0, st_i, st_r, st_f, st_n, st_s, true_and, and_true, ↓ifLeT, ↓ifLeF, ↓ifLtT, ↓ifLtF, ↓ifEqT, ↓ifEqF, if_tt, if_ff, if_pos, if_neg, nLe, nLt, nEq, nInT, nCl, pk_mul, nI_add, Nat.reduceAdd, s_cat_nil, s_cat_i, s_cat_r, s_cat_f, s_cat_l, tl_s, tl_n, cat_i, cat_r, cat_f, nb0, nb1, nbI, if_bI, if_bIr, Nat.zero_le, Nat.reduceLeDiff]
    have ih1 := ih (i + 1) (by omega)
    rw [show 300 + 4 * (i + 1) = 300 + 4 * i + 1 + 3 by omega, show 6707 + 44 * (i + 1) = 6707 + 44 * i + 6 + 38 by omega] at ih1
    exact ih1
set_option maxHeartbeats 16000000 in
theorem c_Q (h1 : h.1 = true) (hb9 : h.2.1 + 317 ≤ 999999) {a : Nat} (ha : a = h.2.1) (K : Q none (zH (zqL h.2.1 4) h)) : MT (d + 4) 89 [.ref a] (hn h (.inr (8, s_def 8))) Q := by
  subst ha
  have hb : ∀ n, n < 317 → (h.2.1 + n < 999999) = True := fun n hn => eq_true (by omega)
  rw [MT_go (by decide) _ _ _ (Nat.le_of_ble_eq_true rfl), show s_entry 89 [.ref h.2.1] = [.ref h.2.1, s_no] from rfl]
  rw [zH_hn1, sd_8]
  simp (disch := first | assumption | decide +kernel | (simp only [List.length_cons, List.length_nil, List.length_append, plL_len, yL_len, tpL_len, chL_len, coL_len, reL_len, seL_len, acL_len, ysL_len, zH_n, csL_len, qP_len, zqL_len, zk1_len, zk2_len, zk3_len, zk4_len, zk5_len, zk6_len, zk7_len, zk8_len, zk9_len, zk10_len, zk11_len]; omega)) only [u_89_0, u_89_1, u_89_4, u_89_5, u_89_8, u_89_9, fG_re, gI0, gIs, gR0, gRs, gF0, gFs, st0, st_i, st_r, st_f, st_n, st_s, true_and, and_true, ↓ifLeT, ↓ifLeF, ↓ifLtT, ↓ifLtF, ↓ifEqT, ↓ifEqF, if_tt, if_ff, if_pos, if_neg, nLe, nLt, nEq, nInT, nCl, pk_mul, nI_add, Nat.reduceAdd, s_cat_nil, s_cat_i, s_cat_r, s_cat_f, s_cat_l, tl_s, tl_n, cat_i, cat_r, cat_f, nb0, nb1, nbI, if_bI, if_bIr, Nat.zero_le, Nat.reduceLeDiff, arr_i, arr_f, arr_b, fSF_z, fG_z, oo_s, zH_1, zH_zH, List.length_cons, List.length_nil, List.length_append, plL_len, yL_len, tpL_len, chL_len, coL_len, reL_len, seL_len, acL_len, ysL_len, zH_n, csL_len, qP_len, zqL_len, zk1_len, zk1_fo, zk2_len, zk2_fo, zk3_len, zk3_fo, zk4_len, zk4_fo, zk5_len, zk5_fo, zk6_len, zk6_fo, zk7_len, zk7_fo, zk8_len, zk8_fo, zk9_len, zk9_fo, zk10_len, zk10_fo, zk11_len, zk11_fo, List.cons_append, List.nil_append, List.append_assoc, List.append_nil, List.set_cons_zero, List.set_cons_succ, List.getElem?_cons_zero, List.getElem?_cons_succ, Nat.zero_add, Nat.add_assoc, Nat.reduceAdd, Nat.reduceLeDiff, h1, hb, mc_0, ms_0, cn_0, mc_5, ms_5, cn_1, mc_9, ms_9, cn_2, mc_18, ms_18, cn_3, mc_30, ms_30, cn_4, mc_41, ms_41, cn_5, mc_53, ms_53, cn_6, mc_63, ms_63, cn_7, mc_89, ms_89, cn_8, mc_143, ms_143, cn_9]
  refine c_Reader (d := d) (h := zH _ h) h1 ?_ ?_ ?_
  · simp only [List.length_cons, List.length_nil, List.length_append, plL_len, yL_len, tpL_len, chL_len, coL_len, reL_len, seL_len, acL_len, ysL_len, zH_n, csL_len, qP_len, zqL_len, zk1_len, zk2_len, zk3_len, zk4_len, zk5_len, zk6_len, zk7_len, zk8_len, zk9_len, zk10_len, zk11_len]; omega
  · simp only [List.length_cons, List.length_nil, List.length_append, plL_len, yL_len, tpL_len, chL_len, coL_len, reL_len, seL_len, acL_len, ysL_len, zH_n, csL_len, qP_len, zqL_len, zk1_len, zk2_len, zk3_len, zk4_len, zk5_len, zk6_len, zk7_len, zk8_len, zk9_len, zk10_len, zk11_len] <;> omega
  simp (disch := first | assumption | decide +kernel | (simp only [List.length_cons, List.length_nil, List.length_append, plL_len, yL_len, tpL_len, chL_len, coL_len, reL_len, seL_len, acL_len, ysL_len, zH_n, csL_len, qP_len, zqL_len, zk1_len, zk2_len, zk3_len, zk4_len, zk5_len, zk6_len, zk7_len, zk8_len, zk9_len, zk10_len, zk11_len]; omega)) only [u_89_12, u_89_15, u_89_16, u_89_17, u_89_20, u_89_23, u_89_26, u_89_27, u_89_30, u_89_31, fG_re, gI0, gIs, gR0, gRs, gF0, gFs, st0, st_i, st_r, st_f, st_n, st_s, true_and, and_true, ↓ifLeT, ↓ifLeF, ↓ifLtT, ↓ifLtF, ↓ifEqT, ↓ifEqF, if_tt, if_ff, if_pos, if_neg, nLe, nLt, nEq, nInT, nCl, pk_mul, nI_add, Nat.reduceAdd, s_cat_nil, s_cat_i, s_cat_r, s_cat_f, s_cat_l, tl_s, tl_n, cat_i, cat_r, cat_f, nb0, nb1, nbI, if_bI, if_bIr, Nat.zero_le, Nat.reduceLeDiff, arr_i, arr_f, arr_b, fSF_z, fG_z, oo_s, zH_1, zH_zH, List.length_cons, List.length_nil, List.length_append, plL_len, yL_len, tpL_len, chL_len, coL_len, reL_len, seL_len, acL_len, ysL_len, zH_n, csL_len, qP_len, zqL_len, zk1_len, zk1_fo, zk2_len, zk2_fo, zk3_len, zk3_fo, zk4_len, zk4_fo, zk5_len, zk5_fo, zk6_len, zk6_fo, zk7_len, zk7_fo, zk8_len, zk8_fo, zk9_len, zk9_fo, zk10_len, zk10_fo, zk11_len, zk11_fo, List.cons_append, List.nil_append, List.append_assoc, List.append_nil, List.set_cons_zero, List.set_cons_succ, List.getElem?_cons_zero, List.getElem?_cons_succ, Nat.zero_add, Nat.add_assoc, Nat.reduceAdd, Nat.reduceLeDiff, h1, hb, mc_0, ms_0, cn_0, mc_5, ms_5, cn_1, mc_9, ms_9, cn_2, mc_18, ms_18, cn_3, mc_30, ms_30, cn_4, mc_41, ms_41, cn_5, mc_53, ms_53, cn_6, mc_63, ms_63, cn_7, mc_89, ms_89, cn_8, mc_143, ms_143, cn_9]
  refine c_Yard (d := d + 1) (h := zH _ h) h1 ?_ ?_ ?_
  · simp only [List.length_cons, List.length_nil, List.length_append, plL_len, yL_len, tpL_len, chL_len, coL_len, reL_len, seL_len, acL_len, ysL_len, zH_n, csL_len, qP_len, zqL_len, zk1_len, zk2_len, zk3_len, zk4_len, zk5_len, zk6_len, zk7_len, zk8_len, zk9_len, zk10_len, zk11_len]; omega
  · simp only [List.length_cons, List.length_nil, List.length_append, plL_len, yL_len, tpL_len, chL_len, coL_len, reL_len, seL_len, acL_len, ysL_len, zH_n, csL_len, qP_len, zqL_len, zk1_len, zk2_len, zk3_len, zk4_len, zk5_len, zk6_len, zk7_len, zk8_len, zk9_len, zk10_len, zk11_len] <;> omega
  simp (disch := first | assumption | decide +kernel | (simp only [List.length_cons, List.length_nil, List.length_append, plL_len, yL_len, tpL_len, chL_len, coL_len, reL_len, seL_len, acL_len, ysL_len, zH_n, csL_len, qP_len, zqL_len, zk1_len, zk2_len, zk3_len, zk4_len, zk5_len, zk6_len, zk7_len, zk8_len, zk9_len, zk10_len, zk11_len]; omega)) only [u_89_34, u_89_37, u_89_38, u_89_41, u_89_42, fG_re, gI0, gIs, gR0, gRs, gF0, gFs, st0, st_i, st_r, st_f, st_n, st_s, true_and, and_true, ↓ifLeT, ↓ifLeF, ↓ifLtT, ↓ifLtF, ↓ifEqT, ↓ifEqF, if_tt, if_ff, if_pos, if_neg, nLe, nLt, nEq, nInT, nCl, pk_mul, nI_add, Nat.reduceAdd, s_cat_nil, s_cat_i, s_cat_r, s_cat_f, s_cat_l, tl_s, tl_n, cat_i, cat_r, cat_f, nb0, nb1, nbI, if_bI, if_bIr, Nat.zero_le, Nat.reduceLeDiff, arr_i, arr_f, arr_b, fSF_z, fG_z, oo_s, zH_1, zH_zH, List.length_cons, List.length_nil, List.length_append, plL_len, yL_len, tpL_len, chL_len, coL_len, reL_len, seL_len, acL_len, ysL_len, zH_n, csL_len, qP_len, zqL_len, zk1_len, zk1_fo, zk2_len, zk2_fo, zk3_len, zk3_fo, zk4_len, zk4_fo, zk5_len, zk5_fo, zk6_len, zk6_fo, zk7_len, zk7_fo, zk8_len, zk8_fo, zk9_len, zk9_fo, zk10_len, zk10_fo, zk11_len, zk11_fo, List.cons_append, List.nil_append, List.append_assoc, List.append_nil, List.set_cons_zero, List.set_cons_succ, List.getElem?_cons_zero, List.getElem?_cons_succ, Nat.zero_add, Nat.add_assoc, Nat.reduceAdd, Nat.reduceLeDiff, h1, hb, mc_0, ms_0, cn_0, mc_5, ms_5, cn_1, mc_9, ms_9, cn_2, mc_18, ms_18, cn_3, mc_30, ms_30, cn_4, mc_41, ms_41, cn_5, mc_53, ms_53, cn_6, mc_63, ms_63, cn_7, mc_89, ms_89, cn_8, mc_143, ms_143, cn_9]
  refine c_Yard (d := d + 1) (h := zH _ h) h1 ?_ ?_ ?_
  · simp only [List.length_cons, List.length_nil, List.length_append, plL_len, yL_len, tpL_len, chL_len, coL_len, reL_len, seL_len, acL_len, ysL_len, zH_n, csL_len, qP_len, zqL_len, zk1_len, zk2_len, zk3_len, zk4_len, zk5_len, zk6_len, zk7_len, zk8_len, zk9_len, zk10_len, zk11_len]; omega
  · simp only [List.length_cons, List.length_nil, List.length_append, plL_len, yL_len, tpL_len, chL_len, coL_len, reL_len, seL_len, acL_len, ysL_len, zH_n, csL_len, qP_len, zqL_len, zk1_len, zk2_len, zk3_len, zk4_len, zk5_len, zk6_len, zk7_len, zk8_len, zk9_len, zk10_len, zk11_len] <;> omega
  simp (disch := first | assumption | decide +kernel | (simp only [List.length_cons, List.length_nil, List.length_append, plL_len, yL_len, tpL_len, chL_len, coL_len, reL_len, seL_len, acL_len, ysL_len, zH_n, csL_len, qP_len, zqL_len, zk1_len, zk2_len, zk3_len, zk4_len, zk5_len, zk6_len, zk7_len, zk8_len, zk9_len, zk10_len, zk11_len]; omega)) only [u_89_45, u_89_48, u_89_49, u_89_52, u_89_53, fG_re, gI0, gIs, gR0, gRs, gF0, gFs, st0, st_i, st_r, st_f, st_n, st_s, true_and, and_true, ↓ifLeT, ↓ifLeF, ↓ifLtT, ↓ifLtF, ↓ifEqT, ↓ifEqF, if_tt, if_ff, if_pos, if_neg, nLe, nLt, nEq, nInT, nCl, pk_mul, nI_add, Nat.reduceAdd, s_cat_nil, s_cat_i, s_cat_r, s_cat_f, s_cat_l, tl_s, tl_n, cat_i, cat_r, cat_f, nb0, nb1, nbI, if_bI, if_bIr, Nat.zero_le, Nat.reduceLeDiff, arr_i, arr_f, arr_b, fSF_z, fG_z, oo_s, zH_1, zH_zH, List.length_cons, List.length_nil, List.length_append, plL_len, yL_len, tpL_len, chL_len, coL_len, reL_len, seL_len, acL_len, ysL_len, zH_n, csL_len, qP_len, zqL_len, zk1_len, zk1_fo, zk2_len, zk2_fo, zk3_len, zk3_fo, zk4_len, zk4_fo, zk5_len, zk5_fo, zk6_len, zk6_fo, zk7_len, zk7_fo, zk8_len, zk8_fo, zk9_len, zk9_fo, zk10_len, zk10_fo, zk11_len, zk11_fo, List.cons_append, List.nil_append, List.append_assoc, List.append_nil, List.set_cons_zero, List.set_cons_succ, List.getElem?_cons_zero, List.getElem?_cons_succ, Nat.zero_add, Nat.add_assoc, Nat.reduceAdd, Nat.reduceLeDiff, h1, hb, mc_0, ms_0, cn_0, mc_5, ms_5, cn_1, mc_9, ms_9, cn_2, mc_18, ms_18, cn_3, mc_30, ms_30, cn_4, mc_41, ms_41, cn_5, mc_53, ms_53, cn_6, mc_63, ms_63, cn_7, mc_89, ms_89, cn_8, mc_143, ms_143, cn_9]
  refine c_Yard (d := d + 1) (h := zH _ h) h1 ?_ ?_ ?_
  · simp only [List.length_cons, List.length_nil, List.length_append, plL_len, yL_len, tpL_len, chL_len, coL_len, reL_len, seL_len, acL_len, ysL_len, zH_n, csL_len, qP_len, zqL_len, zk1_len, zk2_len, zk3_len, zk4_len, zk5_len, zk6_len, zk7_len, zk8_len, zk9_len, zk10_len, zk11_len]; omega
  · simp only [List.length_cons, List.length_nil, List.length_append, plL_len, yL_len, tpL_len, chL_len, coL_len, reL_len, seL_len, acL_len, ysL_len, zH_n, csL_len, qP_len, zqL_len, zk1_len, zk2_len, zk3_len, zk4_len, zk5_len, zk6_len, zk7_len, zk8_len, zk9_len, zk10_len, zk11_len] <;> omega
  simp (disch := first | assumption | decide +kernel | (simp only [List.length_cons, List.length_nil, List.length_append, plL_len, yL_len, tpL_len, chL_len, coL_len, reL_len, seL_len, acL_len, ysL_len, zH_n, csL_len, qP_len, zqL_len, zk1_len, zk2_len, zk3_len, zk4_len, zk5_len, zk6_len, zk7_len, zk8_len, zk9_len, zk10_len, zk11_len]; omega)) only [u_89_56, u_89_59, u_89_60, u_89_63, u_89_64, fG_re, gI0, gIs, gR0, gRs, gF0, gFs, st0, st_i, st_r, st_f, st_n, st_s, true_and, and_true, ↓ifLeT, ↓ifLeF, ↓ifLtT, ↓ifLtF, ↓ifEqT, ↓ifEqF, if_tt, if_ff, if_pos, if_neg, nLe, nLt, nEq, nInT, nCl, pk_mul, nI_add, Nat.reduceAdd, s_cat_nil, s_cat_i, s_cat_r, s_cat_f, s_cat_l, tl_s, tl_n, cat_i, cat_r, cat_f, nb0, nb1, nbI, if_bI, if_bIr, Nat.zero_le, Nat.reduceLeDiff, arr_i, arr_f, arr_b, fSF_z, fG_z, oo_s, zH_1, zH_zH, List.length_cons, List.length_nil, List.length_append, plL_len, yL_len, tpL_len, chL_len, coL_len, reL_len, seL_len, acL_len, ysL_len, zH_n, csL_len, qP_len, zqL_len, zk1_len, zk1_fo, zk2_len, zk2_fo, zk3_len, zk3_fo, zk4_len, zk4_fo, zk5_len, zk5_fo, zk6_len, zk6_fo, zk7_len, zk7_fo, zk8_len, zk8_fo, zk9_len, zk9_fo, zk10_len, zk10_fo, zk11_len, zk11_fo, List.cons_append, List.nil_append, List.append_assoc, List.append_nil, List.set_cons_zero, List.set_cons_succ, List.getElem?_cons_zero, List.getElem?_cons_succ, Nat.zero_add, Nat.add_assoc, Nat.reduceAdd, Nat.reduceLeDiff, h1, hb, mc_0, ms_0, cn_0, mc_5, ms_5, cn_1, mc_9, ms_9, cn_2, mc_18, ms_18, cn_3, mc_30, ms_30, cn_4, mc_41, ms_41, cn_5, mc_53, ms_53, cn_6, mc_63, ms_63, cn_7, mc_89, ms_89, cn_8, mc_143, ms_143, cn_9]
  refine c_Acts (d := d) (h := zH _ h) h1 ?_ ?_ ?_
  · simp only [List.length_cons, List.length_nil, List.length_append, plL_len, yL_len, tpL_len, chL_len, coL_len, reL_len, seL_len, acL_len, ysL_len, zH_n, csL_len, qP_len, zqL_len, zk1_len, zk2_len, zk3_len, zk4_len, zk5_len, zk6_len, zk7_len, zk8_len, zk9_len, zk10_len, zk11_len]; omega
  · simp only [List.length_cons, List.length_nil, List.length_append, plL_len, yL_len, tpL_len, chL_len, coL_len, reL_len, seL_len, acL_len, ysL_len, zH_n, csL_len, qP_len, zqL_len, zk1_len, zk2_len, zk3_len, zk4_len, zk5_len, zk6_len, zk7_len, zk8_len, zk9_len, zk10_len, zk11_len] <;> omega
  simp (disch := first | assumption | decide +kernel | (simp only [List.length_cons, List.length_nil, List.length_append, plL_len, yL_len, tpL_len, chL_len, coL_len, reL_len, seL_len, acL_len, ysL_len, zH_n, csL_len, qP_len, zqL_len, zk1_len, zk2_len, zk3_len, zk4_len, zk5_len, zk6_len, zk7_len, zk8_len, zk9_len, zk10_len, zk11_len]; omega)) only [u_89_67, u_89_70, u_89_71, u_89_74, u_89_75, fG_re, gI0, gIs, gR0, gRs, gF0, gFs, st0, st_i, st_r, st_f, st_n, st_s, true_and, and_true, ↓ifLeT, ↓ifLeF, ↓ifLtT, ↓ifLtF, ↓ifEqT, ↓ifEqF, if_tt, if_ff, if_pos, if_neg, nLe, nLt, nEq, nInT, nCl, pk_mul, nI_add, Nat.reduceAdd, s_cat_nil, s_cat_i, s_cat_r, s_cat_f, s_cat_l, tl_s, tl_n, cat_i, cat_r, cat_f, nb0, nb1, nbI, if_bI, if_bIr, Nat.zero_le, Nat.reduceLeDiff, arr_i, arr_f, arr_b, fSF_z, fG_z, oo_s, zH_1, zH_zH, List.length_cons, List.length_nil, List.length_append, plL_len, yL_len, tpL_len, chL_len, coL_len, reL_len, seL_len, acL_len, ysL_len, zH_n, csL_len, qP_len, zqL_len, zk1_len, zk1_fo, zk2_len, zk2_fo, zk3_len, zk3_fo, zk4_len, zk4_fo, zk5_len, zk5_fo, zk6_len, zk6_fo, zk7_len, zk7_fo, zk8_len, zk8_fo, zk9_len, zk9_fo, zk10_len, zk10_fo, zk11_len, zk11_fo, List.cons_append, List.nil_append, List.append_assoc, List.append_nil, List.set_cons_zero, List.set_cons_succ, List.getElem?_cons_zero, List.getElem?_cons_succ, Nat.zero_add, Nat.add_assoc, Nat.reduceAdd, Nat.reduceLeDiff, h1, hb, mc_0, ms_0, cn_0, mc_5, ms_5, cn_1, mc_9, ms_9, cn_2, mc_18, ms_18, cn_3, mc_30, ms_30, cn_4, mc_41, ms_41, cn_5, mc_53, ms_53, cn_6, mc_63, ms_63, cn_7, mc_89, ms_89, cn_8, mc_143, ms_143, cn_9]
  refine c_Course (d := d + 2) (h := zH _ h) h1 ?_ ?_ ?_
  · simp only [List.length_cons, List.length_nil, List.length_append, plL_len, yL_len, tpL_len, chL_len, coL_len, reL_len, seL_len, acL_len, ysL_len, zH_n, csL_len, qP_len, zqL_len, zk1_len, zk2_len, zk3_len, zk4_len, zk5_len, zk6_len, zk7_len, zk8_len, zk9_len, zk10_len, zk11_len]; omega
  · simp only [List.length_cons, List.length_nil, List.length_append, plL_len, yL_len, tpL_len, chL_len, coL_len, reL_len, seL_len, acL_len, ysL_len, zH_n, csL_len, qP_len, zqL_len, zk1_len, zk2_len, zk3_len, zk4_len, zk5_len, zk6_len, zk7_len, zk8_len, zk9_len, zk10_len, zk11_len] <;> omega
  simp (disch := first | assumption | decide +kernel | (simp only [List.length_cons, List.length_nil, List.length_append, plL_len, yL_len, tpL_len, chL_len, coL_len, reL_len, seL_len, acL_len, ysL_len, zH_n, csL_len, qP_len, zqL_len, zk1_len, zk2_len, zk3_len, zk4_len, zk5_len, zk6_len, zk7_len, zk8_len, zk9_len, zk10_len, zk11_len]; omega)) only [u_89_78, u_89_81, u_89_82, u_89_85, u_89_86, fG_re, gI0, gIs, gR0, gRs, gF0, gFs, st0, st_i, st_r, st_f, st_n, st_s, true_and, and_true, ↓ifLeT, ↓ifLeF, ↓ifLtT, ↓ifLtF, ↓ifEqT, ↓ifEqF, if_tt, if_ff, if_pos, if_neg, nLe, nLt, nEq, nInT, nCl, pk_mul, nI_add, Nat.reduceAdd, s_cat_nil, s_cat_i, s_cat_r, s_cat_f, s_cat_l, tl_s, tl_n, cat_i, cat_r, cat_f, nb0, nb1, nbI, if_bI, if_bIr, Nat.zero_le, Nat.reduceLeDiff, arr_i, arr_f, arr_b, fSF_z, fG_z, oo_s, zH_1, zH_zH, List.length_cons, List.length_nil, List.length_append, plL_len, yL_len, tpL_len, chL_len, coL_len, reL_len, seL_len, acL_len, ysL_len, zH_n, csL_len, qP_len, zqL_len, zk1_len, zk1_fo, zk2_len, zk2_fo, zk3_len, zk3_fo, zk4_len, zk4_fo, zk5_len, zk5_fo, zk6_len, zk6_fo, zk7_len, zk7_fo, zk8_len, zk8_fo, zk9_len, zk9_fo, zk10_len, zk10_fo, zk11_len, zk11_fo, List.cons_append, List.nil_append, List.append_assoc, List.append_nil, List.set_cons_zero, List.set_cons_succ, List.getElem?_cons_zero, List.getElem?_cons_succ, Nat.zero_add, Nat.add_assoc, Nat.reduceAdd, Nat.reduceLeDiff, h1, hb, mc_0, ms_0, cn_0, mc_5, ms_5, cn_1, mc_9, ms_9, cn_2, mc_18, ms_18, cn_3, mc_30, ms_30, cn_4, mc_41, ms_41, cn_5, mc_53, ms_53, cn_6, mc_63, ms_63, cn_7, mc_89, ms_89, cn_8, mc_143, ms_143, cn_9]
  refine c_Search (d := d) (h := zH _ h) h1 ?_ ?_ ?_
  · simp only [List.length_cons, List.length_nil, List.length_append, plL_len, yL_len, tpL_len, chL_len, coL_len, reL_len, seL_len, acL_len, ysL_len, zH_n, csL_len, qP_len, zqL_len, zk1_len, zk2_len, zk3_len, zk4_len, zk5_len, zk6_len, zk7_len, zk8_len, zk9_len, zk10_len, zk11_len]; omega
  · simp only [List.length_cons, List.length_nil, List.length_append, plL_len, yL_len, tpL_len, chL_len, coL_len, reL_len, seL_len, acL_len, ysL_len, zH_n, csL_len, qP_len, zqL_len, zk1_len, zk2_len, zk3_len, zk4_len, zk5_len, zk6_len, zk7_len, zk8_len, zk9_len, zk10_len, zk11_len] <;> omega
  simp (disch := first | assumption | decide +kernel | (simp only [List.length_cons, List.length_nil, List.length_append, plL_len, yL_len, tpL_len, chL_len, coL_len, reL_len, seL_len, acL_len, ysL_len, zH_n, csL_len, qP_len, zqL_len, zk1_len, zk2_len, zk3_len, zk4_len, zk5_len, zk6_len, zk7_len, zk8_len, zk9_len, zk10_len, zk11_len]; omega)) only [u_89_89, u_89_92, u_89_93, u_89_96, u_89_97, fG_re, gI0, gIs, gR0, gRs, gF0, gFs, st0, st_i, st_r, st_f, st_n, st_s, true_and, and_true, ↓ifLeT, ↓ifLeF, ↓ifLtT, ↓ifLtF, ↓ifEqT, ↓ifEqF, if_tt, if_ff, if_pos, if_neg, nLe, nLt, nEq, nInT, nCl, pk_mul, nI_add, Nat.reduceAdd, s_cat_nil, s_cat_i, s_cat_r, s_cat_f, s_cat_l, tl_s, tl_n, cat_i, cat_r, cat_f, nb0, nb1, nbI, if_bI, if_bIr, Nat.zero_le, Nat.reduceLeDiff, arr_i, arr_f, arr_b, fSF_z, fG_z, oo_s, zH_1, zH_zH, List.length_cons, List.length_nil, List.length_append, plL_len, yL_len, tpL_len, chL_len, coL_len, reL_len, seL_len, acL_len, ysL_len, zH_n, csL_len, qP_len, zqL_len, zk1_len, zk1_fo, zk2_len, zk2_fo, zk3_len, zk3_fo, zk4_len, zk4_fo, zk5_len, zk5_fo, zk6_len, zk6_fo, zk7_len, zk7_fo, zk8_len, zk8_fo, zk9_len, zk9_fo, zk10_len, zk10_fo, zk11_len, zk11_fo, List.cons_append, List.nil_append, List.append_assoc, List.append_nil, List.set_cons_zero, List.set_cons_succ, List.getElem?_cons_zero, List.getElem?_cons_succ, Nat.zero_add, Nat.add_assoc, Nat.reduceAdd, Nat.reduceLeDiff, h1, hb, mc_0, ms_0, cn_0, mc_5, ms_5, cn_1, mc_9, ms_9, cn_2, mc_18, ms_18, cn_3, mc_30, ms_30, cn_4, mc_41, ms_41, cn_5, mc_53, ms_53, cn_6, mc_63, ms_63, cn_7, mc_89, ms_89, cn_8, mc_143, ms_143, cn_9]
  refine c_Choice (d := d + 1) (h := zH _ h) h1 ?_ ?_ ?_
  · simp only [List.length_cons, List.length_nil, List.length_append, plL_len, yL_len, tpL_len, chL_len, coL_len, reL_len, seL_len, acL_len, ysL_len, zH_n, csL_len, qP_len, zqL_len, zk1_len, zk2_len, zk3_len, zk4_len, zk5_len, zk6_len, zk7_len, zk8_len, zk9_len, zk10_len, zk11_len]; omega
  · simp only [List.length_cons, List.length_nil, List.length_append, plL_len, yL_len, tpL_len, chL_len, coL_len, reL_len, seL_len, acL_len, ysL_len, zH_n, csL_len, qP_len, zqL_len, zk1_len, zk2_len, zk3_len, zk4_len, zk5_len, zk6_len, zk7_len, zk8_len, zk9_len, zk10_len, zk11_len] <;> omega
  simp (disch := first | assumption | decide +kernel | (simp only [List.length_cons, List.length_nil, List.length_append, plL_len, yL_len, tpL_len, chL_len, coL_len, reL_len, seL_len, acL_len, ysL_len, zH_n, csL_len, qP_len, zqL_len, zk1_len, zk2_len, zk3_len, zk4_len, zk5_len, zk6_len, zk7_len, zk8_len, zk9_len, zk10_len, zk11_len]; omega)) only [u_89_100, u_89_103, u_89_104, u_89_107, u_89_108, fG_re, gI0, gIs, gR0, gRs, gF0, gFs, st0, st_i, st_r, st_f, st_n, st_s, true_and, and_true, ↓ifLeT, ↓ifLeF, ↓ifLtT, ↓ifLtF, ↓ifEqT, ↓ifEqF, if_tt, if_ff, if_pos, if_neg, nLe, nLt, nEq, nInT, nCl, pk_mul, nI_add, Nat.reduceAdd, s_cat_nil, s_cat_i, s_cat_r, s_cat_f, s_cat_l, tl_s, tl_n, cat_i, cat_r, cat_f, nb0, nb1, nbI, if_bI, if_bIr, Nat.zero_le, Nat.reduceLeDiff, arr_i, arr_f, arr_b, fSF_z, fG_z, oo_s, zH_1, zH_zH, List.length_cons, List.length_nil, List.length_append, plL_len, yL_len, tpL_len, chL_len, coL_len, reL_len, seL_len, acL_len, ysL_len, zH_n, csL_len, qP_len, zqL_len, zk1_len, zk1_fo, zk2_len, zk2_fo, zk3_len, zk3_fo, zk4_len, zk4_fo, zk5_len, zk5_fo, zk6_len, zk6_fo, zk7_len, zk7_fo, zk8_len, zk8_fo, zk9_len, zk9_fo, zk10_len, zk10_fo, zk11_len, zk11_fo, List.cons_append, List.nil_append, List.append_assoc, List.append_nil, List.set_cons_zero, List.set_cons_succ, List.getElem?_cons_zero, List.getElem?_cons_succ, Nat.zero_add, Nat.add_assoc, Nat.reduceAdd, Nat.reduceLeDiff, h1, hb, mc_0, ms_0, cn_0, mc_5, ms_5, cn_1, mc_9, ms_9, cn_2, mc_18, ms_18, cn_3, mc_30, ms_30, cn_4, mc_41, ms_41, cn_5, mc_53, ms_53, cn_6, mc_63, ms_63, cn_7, mc_89, ms_89, cn_8, mc_143, ms_143, cn_9]
  refine c_Choice (d := d + 1) (h := zH _ h) h1 ?_ ?_ ?_
  · simp only [List.length_cons, List.length_nil, List.length_append, plL_len, yL_len, tpL_len, chL_len, coL_len, reL_len, seL_len, acL_len, ysL_len, zH_n, csL_len, qP_len, zqL_len, zk1_len, zk2_len, zk3_len, zk4_len, zk5_len, zk6_len, zk7_len, zk8_len, zk9_len, zk10_len, zk11_len]; omega
  · simp only [List.length_cons, List.length_nil, List.length_append, plL_len, yL_len, tpL_len, chL_len, coL_len, reL_len, seL_len, acL_len, ysL_len, zH_n, csL_len, qP_len, zqL_len, zk1_len, zk2_len, zk3_len, zk4_len, zk5_len, zk6_len, zk7_len, zk8_len, zk9_len, zk10_len, zk11_len] <;> omega
  simp (disch := first | assumption | decide +kernel | (simp only [List.length_cons, List.length_nil, List.length_append, plL_len, yL_len, tpL_len, chL_len, coL_len, reL_len, seL_len, acL_len, ysL_len, zH_n, csL_len, qP_len, zqL_len, zk1_len, zk2_len, zk3_len, zk4_len, zk5_len, zk6_len, zk7_len, zk8_len, zk9_len, zk10_len, zk11_len]; omega)) only [u_89_111, u_89_114, u_89_115, u_89_118, u_89_119, fG_re, gI0, gIs, gR0, gRs, gF0, gFs, st0, st_i, st_r, st_f, st_n, st_s, true_and, and_true, ↓ifLeT, ↓ifLeF, ↓ifLtT, ↓ifLtF, ↓ifEqT, ↓ifEqF, if_tt, if_ff, if_pos, if_neg, nLe, nLt, nEq, nInT, nCl, pk_mul, nI_add, Nat.reduceAdd, s_cat_nil, s_cat_i, s_cat_r, s_cat_f, s_cat_l, tl_s, tl_n, cat_i, cat_r, cat_f, nb0, nb1, nbI, if_bI, if_bIr, Nat.zero_le, Nat.reduceLeDiff, arr_i, arr_f, arr_b, fSF_z, fG_z, oo_s, zH_1, zH_zH, List.length_cons, List.length_nil, List.length_append, plL_len, yL_len, tpL_len, chL_len, coL_len, reL_len, seL_len, acL_len, ysL_len, zH_n, csL_len, qP_len, zqL_len, zk1_len, zk1_fo, zk2_len, zk2_fo, zk3_len, zk3_fo, zk4_len, zk4_fo, zk5_len, zk5_fo, zk6_len, zk6_fo, zk7_len, zk7_fo, zk8_len, zk8_fo, zk9_len, zk9_fo, zk10_len, zk10_fo, zk11_len, zk11_fo, List.cons_append, List.nil_append, List.append_assoc, List.append_nil, List.set_cons_zero, List.set_cons_succ, List.getElem?_cons_zero, List.getElem?_cons_succ, Nat.zero_add, Nat.add_assoc, Nat.reduceAdd, Nat.reduceLeDiff, h1, hb, mc_0, ms_0, cn_0, mc_5, ms_5, cn_1, mc_9, ms_9, cn_2, mc_18, ms_18, cn_3, mc_30, ms_30, cn_4, mc_41, ms_41, cn_5, mc_53, ms_53, cn_6, mc_63, ms_63, cn_7, mc_89, ms_89, cn_8, mc_143, ms_143, cn_9]
  refine c_Choice (d := d + 1) (h := zH _ h) h1 ?_ ?_ ?_
  · simp only [List.length_cons, List.length_nil, List.length_append, plL_len, yL_len, tpL_len, chL_len, coL_len, reL_len, seL_len, acL_len, ysL_len, zH_n, csL_len, qP_len, zqL_len, zk1_len, zk2_len, zk3_len, zk4_len, zk5_len, zk6_len, zk7_len, zk8_len, zk9_len, zk10_len, zk11_len]; omega
  · simp only [List.length_cons, List.length_nil, List.length_append, plL_len, yL_len, tpL_len, chL_len, coL_len, reL_len, seL_len, acL_len, ysL_len, zH_n, csL_len, qP_len, zqL_len, zk1_len, zk2_len, zk3_len, zk4_len, zk5_len, zk6_len, zk7_len, zk8_len, zk9_len, zk10_len, zk11_len] <;> omega
  simp (disch := first | assumption | decide +kernel | (simp only [List.length_cons, List.length_nil, List.length_append, plL_len, yL_len, tpL_len, chL_len, coL_len, reL_len, seL_len, acL_len, ysL_len, zH_n, csL_len, qP_len, zqL_len, zk1_len, zk2_len, zk3_len, zk4_len, zk5_len, zk6_len, zk7_len, zk8_len, zk9_len, zk10_len, zk11_len]; omega)) only [u_89_122, u_89_125, u_89_126, u_89_129, u_89_130, fG_re, gI0, gIs, gR0, gRs, gF0, gFs, st0, st_i, st_r, st_f, st_n, st_s, true_and, and_true, ↓ifLeT, ↓ifLeF, ↓ifLtT, ↓ifLtF, ↓ifEqT, ↓ifEqF, if_tt, if_ff, if_pos, if_neg, nLe, nLt, nEq, nInT, nCl, pk_mul, nI_add, Nat.reduceAdd, s_cat_nil, s_cat_i, s_cat_r, s_cat_f, s_cat_l, tl_s, tl_n, cat_i, cat_r, cat_f, nb0, nb1, nbI, if_bI, if_bIr, Nat.zero_le, Nat.reduceLeDiff, arr_i, arr_f, arr_b, fSF_z, fG_z, oo_s, zH_1, zH_zH, List.length_cons, List.length_nil, List.length_append, plL_len, yL_len, tpL_len, chL_len, coL_len, reL_len, seL_len, acL_len, ysL_len, zH_n, csL_len, qP_len, zqL_len, zk1_len, zk1_fo, zk2_len, zk2_fo, zk3_len, zk3_fo, zk4_len, zk4_fo, zk5_len, zk5_fo, zk6_len, zk6_fo, zk7_len, zk7_fo, zk8_len, zk8_fo, zk9_len, zk9_fo, zk10_len, zk10_fo, zk11_len, zk11_fo, List.cons_append, List.nil_append, List.append_assoc, List.append_nil, List.set_cons_zero, List.set_cons_succ, List.getElem?_cons_zero, List.getElem?_cons_succ, Nat.zero_add, Nat.add_assoc, Nat.reduceAdd, Nat.reduceLeDiff, h1, hb, mc_0, ms_0, cn_0, mc_5, ms_5, cn_1, mc_9, ms_9, cn_2, mc_18, ms_18, cn_3, mc_30, ms_30, cn_4, mc_41, ms_41, cn_5, mc_53, ms_53, cn_6, mc_63, ms_63, cn_7, mc_89, ms_89, cn_8, mc_143, ms_143, cn_9]
  refine c_Choice (d := d + 1) (h := zH _ h) h1 ?_ ?_ ?_
  · simp only [List.length_cons, List.length_nil, List.length_append, plL_len, yL_len, tpL_len, chL_len, coL_len, reL_len, seL_len, acL_len, ysL_len, zH_n, csL_len, qP_len, zqL_len, zk1_len, zk2_len, zk3_len, zk4_len, zk5_len, zk6_len, zk7_len, zk8_len, zk9_len, zk10_len, zk11_len]; omega
  · simp only [List.length_cons, List.length_nil, List.length_append, plL_len, yL_len, tpL_len, chL_len, coL_len, reL_len, seL_len, acL_len, ysL_len, zH_n, csL_len, qP_len, zqL_len, zk1_len, zk2_len, zk3_len, zk4_len, zk5_len, zk6_len, zk7_len, zk8_len, zk9_len, zk10_len, zk11_len] <;> omega
  simp (disch := first | assumption | decide +kernel | (simp only [List.length_cons, List.length_nil, List.length_append, plL_len, yL_len, tpL_len, chL_len, coL_len, reL_len, seL_len, acL_len, ysL_len, zH_n, csL_len, qP_len, zqL_len, zk1_len, zk2_len, zk3_len, zk4_len, zk5_len, zk6_len, zk7_len, zk8_len, zk9_len, zk10_len, zk11_len]; omega)) only [u_89_133, u_89_136, u_89_137, u_89_138, u_89_141, u_89_144, u_89_145, u_89_146, u_89_148, u_89_151, u_89_152, fG_re, arr_z, gI0, gIs, gR0, gRs, gF0, gFs, st0, st_i, st_r, st_f, st_n, st_s, true_and, and_true, ↓ifLeT, ↓ifLeF, ↓ifLtT, ↓ifLtF, ↓ifEqT, ↓ifEqF, if_tt, if_ff, if_pos, if_neg, nLe, nLt, nEq, nInT, nCl, pk_mul, nI_add, Nat.reduceAdd, s_cat_nil, s_cat_i, s_cat_r, s_cat_f, s_cat_l, tl_s, tl_n, cat_i, cat_r, cat_f, nb0, nb1, nbI, if_bI, if_bIr, Nat.zero_le, Nat.reduceLeDiff, arr_i, arr_f, arr_b, fSF_z, fG_z, oo_s, zH_1, zH_zH, List.length_cons, List.length_nil, List.length_append, plL_len, yL_len, tpL_len, chL_len, coL_len, reL_len, seL_len, acL_len, ysL_len, zH_n, csL_len, qP_len, zqL_len, zk1_len, zk1_fo, zk2_len, zk2_fo, zk3_len, zk3_fo, zk4_len, zk4_fo, zk5_len, zk5_fo, zk6_len, zk6_fo, zk7_len, zk7_fo, zk8_len, zk8_fo, zk9_len, zk9_fo, zk10_len, zk10_fo, zk11_len, zk11_fo, List.cons_append, List.nil_append, List.append_assoc, List.append_nil, List.set_cons_zero, List.set_cons_succ, List.getElem?_cons_zero, List.getElem?_cons_succ, Nat.zero_add, Nat.add_assoc, Nat.reduceAdd, Nat.reduceLeDiff, h1, hb, mc_0, ms_0, cn_0, mc_5, ms_5, cn_1, mc_9, ms_9, cn_2, mc_18, ms_18, cn_3, mc_30, ms_30, cn_4, mc_41, ms_41, cn_5, mc_53, ms_53, cn_6, mc_63, ms_63, cn_7, mc_89, ms_89, cn_8, mc_143, ms_143, cn_9]
  have e : qU h.2.1 0 = fun _ => none := by
    funext q
    unfold qU
    rw [if_neg (Nat.not_lt_zero q)]
  have w := q_lp (d := d) h1 hb9 K 4 0 rfl
  unfold zqL qP zqO at w
  rw [e] at w
  simp only [List.append_assoc, List.cons_append, Nat.mul_zero, Nat.add_zero, csL] at w
  have e4 : ia 4 = .inl (0, 4, .inl fun _ => 0) := by
    unfold ia
    rw [tr32_0]
  rw [e4] at w
  exact w
end CTR2
