/-! the constructors: new cells behind those that are there -/
def zH (l : List sC) (h : sH) : sH := (h.1, h.2.1 + l.length, fun q => if h.2.1 ≤ q then l.getD (q - h.2.1) (h.2.2 q) else h.2.2 q)
theorem zH_1 (l : List sC) (h : sH) : (zH l h).1 = h.1 := rfl
theorem zH_n (l : List sC) (h : sH) : (zH l h).2.1 = h.2.1 + l.length := rfl
theorem zH_at {l : List sC} {h : sH} {q : Nat} : hg (zH l h) q = if h.2.1 ≤ q then l.getD (q - h.2.1) (h.2.2 q) else h.2.2 q := rfl
theorem zH_hn {l : List sC} {h : sH} {c : sC} : hn (zH l h) c = zH (l ++ [c]) h := by
  refine Prod.ext rfl (Prod.ext ?_ (funext fun q => ?_))
  · show h.2.1 + l.length + 1 = h.2.1 + (l ++ [c]).length
    rw [List.length_append]
    rfl
  · show (if q = h.2.1 + l.length then c else if h.2.1 ≤ q then l.getD (q - h.2.1) (h.2.2 q) else h.2.2 q) = if h.2.1 ≤ q then (l ++ [c]).getD (q - h.2.1) (h.2.2 q) else h.2.2 q
    by_cases e : q = h.2.1 + l.length
    · subst e
      rw [if_pos rfl, if_pos (by omega), Nat.add_sub_cancel_left, List.getD_eq_getElem?_getD, List.getElem?_append_right (Nat.le_refl _), Nat.sub_self]
      rfl
    · rw [if_neg e]
      by_cases g : h.2.1 ≤ q
      · rw [if_pos g, if_pos g, List.getD_eq_getElem?_getD, List.getD_eq_getElem?_getD]
        by_cases g2 : q - h.2.1 < l.length
        · rw [List.getElem?_append_left g2]
        · rw [List.getElem?_eq_none (by omega), List.getElem?_eq_none (by rw [List.length_append]; show l.length + 1 ≤ _; omega)]
      · rw [if_neg g, if_neg g]
theorem zH_hn1 {h : sH} {c : sC} : hn h c = zH [c] h := by
  refine Prod.ext rfl (Prod.ext rfl (funext fun q => ?_))
  show (if q = h.2.1 then c else h.2.2 q) = if h.2.1 ≤ q then [c].getD (q - h.2.1) (h.2.2 q) else h.2.2 q
  by_cases e : q = h.2.1
  · subst e
    rw [if_pos rfl, if_pos (Nat.le_refl _), Nat.sub_self]
    rfl
  · rw [if_neg e]
    by_cases g : h.2.1 ≤ q
    · rw [if_pos g, List.getD_eq_getElem?_getD, List.getElem?_eq_none (by show 1 ≤ _; omega)]
      rfl
    · rw [if_neg g]
theorem zH_zH {l l2 : List sC} {h : sH} : zH l2 (zH l h) = zH (l ++ l2) h := by
  refine Prod.ext rfl (Prod.ext ?_ (funext fun q => ?_))
  · show h.2.1 + l.length + l2.length = h.2.1 + (l ++ l2).length
    rw [List.length_append, Nat.add_assoc]
  · show (if h.2.1 + l.length ≤ q then l2.getD (q - (h.2.1 + l.length)) (if h.2.1 ≤ q then l.getD (q - h.2.1) (h.2.2 q) else h.2.2 q) else if h.2.1 ≤ q then l.getD (q - h.2.1) (h.2.2 q) else h.2.2 q) = if h.2.1 ≤ q then (l ++ l2).getD (q - h.2.1) (h.2.2 q) else h.2.2 q
    by_cases g : h.2.1 ≤ q
    · rw [if_pos g, if_pos g, List.getD_eq_getElem?_getD, List.getD_eq_getElem?_getD, List.getD_eq_getElem?_getD]
      by_cases g2 : q - h.2.1 < l.length
      · rw [if_neg (by omega), List.getElem?_append_left g2]
      · rw [if_pos (by omega), List.getElem?_append_right (by omega), List.getElem?_eq_none (l := l) (by omega)]
        congr 2
        omega
    · rw [if_neg g, if_neg g, if_neg (by omega)]
theorem zH_nil {h : sH} : zH [] h = h := by
  refine Prod.ext rfl (Prod.ext rfl (funext fun q => ?_))
  show (if h.2.1 ≤ q then h.2.2 q else h.2.2 q) = h.2.2 q
  split <;> rfl
theorem zH_hs {p c : sC} {l : List sC} {h : sH} : hs (zH (p :: l) h) h.2.1 c = zH (c :: l) h := by
  refine Prod.ext rfl (Prod.ext rfl (funext fun q => ?_))
  show (if q = h.2.1 then c else if h.2.1 ≤ q then (p :: l).getD (q - h.2.1) (h.2.2 q) else h.2.2 q) = if h.2.1 ≤ q then (c :: l).getD (q - h.2.1) (h.2.2 q) else h.2.2 q
  by_cases e : q = h.2.1
  · subst e
    rw [if_pos rfl, if_pos (Nat.le_refl _), Nat.sub_self]
    rfl
  · rw [if_neg e]
    by_cases g : h.2.1 ≤ q
    · rw [if_pos g, if_pos g]
      obtain ⟨j, hj⟩ : ∃ j, q - h.2.1 = j + 1 := ⟨q - h.2.1 - 1, by omega⟩
      rw [hj]
      rfl
    · rw [if_neg g, if_neg g]
theorem zH_g0 {p : sC} {l : List sC} {h : sH} : hg (zH (p :: l) h) h.2.1 = p := by
  rw [zH_at, if_pos (Nat.le_refl _), Nat.sub_self]
  rfl





def ia (n : Nat) : sC := .inl (0, n, .inl (tr32 n fun _ => 0))
def fa (n : Nat) : sC := .inl (2, n, .inr (.inr (.inl (trF n fun _ => 0))))
def ba (n : Nat) : sC := .inl (1, n, .inl (trB n fun _ => false))
theorem tr32_0 {n : Nat} : tr32 n (fun _ => 0) = fun _ => 0 := by
  funext j
  unfold tr32
  split <;> rfl
theorem trF_0 {n : Nat} : trF n (fun _ => 0) = fun _ => 0 := by
  funext j
  unfold trF
  split <;> rfl
theorem trB_0 {n : Nat} : trB n (fun _ => false) = fun _ => 0 := by
  funext j
  unfold trB tr32
  split <;> rfl
theorem nar_r {ty : FieldType} {x : Nat} : narrow ty (.ref x) = .ref x := by cases ty <;> rfl
theorem fit_r {ty : FieldType} {x : Nat} (h : fits ty (.ref 0) = true) : fits ty (.ref x) = true := by
  rw [← h]
  cases ty <;> rfl
theorem fSF_z {m ci kf x : Nat} {fs : List Value} {l : List sC} {h : sH} {f : sH → Prop} (h1 : kf < fs.length) (h3 : fits (cTy ci kf) (.ref 0) = true) (h4 : mSt m = 2 ∧ ci = mC m) : fSF m (zH (.inr (ci, fs) :: l) h) h.2.1 ci kf (.ref x) f ↔ f (zH (.inr (ci, fs.set kf (.ref x)) :: l) h) := by
  unfold fSF oO
  rw [zH_g0]
  show (_ ∧ _ ∧ _ ∧ _ ∧ _ ∧ f (hs _ _ _)) ↔ _
  rw [zH_hs]
  exact ⟨fun z => z.2.2.2.2.2, fun z => ⟨rfl, h1, nar_r, fit_r h3, h4, z⟩⟩
theorem fG_z {ci kf : Nat} {fs : List Value} {l : List sC} {h : sH} {f : Value → Prop} : fG (zH (.inr (ci, fs) :: l) h) h.2.1 ci kf f ↔ oo fs[kf]? f := by
  unfold fG oO
  rw [zH_g0]
  exact ⟨fun z => z.2, fun z => ⟨rfl, z⟩⟩
theorem oo_s {α : Type} {a : α} {f : α → Prop} : oo (some a) f ↔ f a := Iff.rfl
theorem arr_z {m n t k1 k2 : Nat} {l : List sC} {h : sH} {X : (Nat → Int32) ⊕ (Nat → Int64) ⊕ (Nat → UInt32) ⊕ (Nat → UInt64) ⊕ (Nat → Option Nat)} {N : sH → sK → Prop} (h1 : h.1 = true) (hb : h.2.1 + l.length < 999999) (hn1 : n ≤ 100000) (hk1 : k1 + 1 ≤ mMc m) (hk2 : k2 + n ≤ mMs m) : s_arr m (k1, k2) (nI n) (zH l h) t (n, X) N ↔ N (zH (l ++ [.inl (t, (n, X))]) h) (k1 + 1, k2 + n) := by
  have e : (nI n).toNatClampNeg = n := nCl (by omega)
  unfold s_arr
  rw [e, zH_hn]
  exact ⟨fun z => z.2.2.2.2.2.2.2, fun z => ⟨h1, hb, Int32.not_lt.mpr (nI_le (Nat.zero_le n) (by omega)), hn1, rfl, hk1, hk2, z⟩⟩
section ARR
variable {m n k1 k2 : Nat} {l : List sC} {h : sH} {N : sH → sK → Prop}
theorem arr_i (h1 : h.1 = true) (hb : h.2.1 + l.length < 999999) (hn1 : n ≤ 100000) (hk1 : k1 + 1 ≤ mMc m) (hk2 : k2 + n ≤ mMs m) : s_arr m (k1, k2) (nI n) (zH l h) 0 (n, .inl fun _ => 0) N ↔ N (zH (l ++ [ia n]) h) (k1 + 1, k2 + n) := by
  rw [arr_z h1 hb hn1 hk1 hk2]
  unfold ia
  rw [tr32_0]
theorem arr_f (h1 : h.1 = true) (hb : h.2.1 + l.length < 999999) (hn1 : n ≤ 100000) (hk1 : k1 + 1 ≤ mMc m) (hk2 : k2 + n ≤ mMs m) : s_arr m (k1, k2) (nI n) (zH l h) 2 (n, .inr (.inr (.inl fun _ => 0))) N ↔ N (zH (l ++ [fa n]) h) (k1 + 1, k2 + n) := by
  rw [arr_z h1 hb hn1 hk1 hk2]
  unfold fa
  rw [trF_0]
theorem arr_b (h1 : h.1 = true) (hb : h.2.1 + l.length < 999999) (hn1 : n ≤ 100000) (hk1 : k1 + 1 ≤ mMc m) (hk2 : k2 + n ≤ mMs m) : s_arr m (k1, k2) (nI n) (zH l h) 1 (n, .inl fun _ => 0) N ↔ N (zH (l ++ [ba n]) h) (k1 + 1, k2 + n) := by
  rw [arr_z h1 hb hn1 hk1 hk2]
  unfold ba
  rw [trB_0]
end ARR
def p0 : tP := (fun _ => 0, fun _ => 0)
def y0 : tY := (fun _ => 0, (0, 0), fun _ _ => 0, fun _ => 0, p0)
def plL (b : Nat) : List sC := [.inr (3, [.ref (b + 1), .ref (b + 2)]), ia 32, ia 4]
def yL (b : Nat) : List sC := .inr (7, [.int 0, .int 0, .int 0, .int 0, .int 0, .int 0, .int 0, .ref (b + 1), .ref (b + 2), .ref (b + 3), .ref (b + 4), .ref (b + 5), .ref (b + 6), .ref (b + 7), .ref (b + 8), .ref (b + 9), .ref (b + 10), .ref (b + 11), .ref (b + 12), .ref (b + 13)]) :: ia 4 :: ia 4 :: fa 4 :: ia 4 :: ia 4 :: ia 8 :: ia 8 :: ia 8 :: ia 8 :: ia 8 :: ia 8 :: ia 8 :: plL (b + 13)
def tpL (b : Nat) : List sC := [.inr (6, [.ref (b + 1), .int 0, .int 0, .int 0, .int 0, .int 0]), ia 400]
def chL (b : Nat) : List sC := .inr (1, [.ref (b + 1), .int 0, .int 0, .int 0, .int 0, .int 0]) :: plL (b + 1)
def coL (b : Nat) : List sC := [.inr (2, [.ref (b + 1), .ref (b + 2), .ref (b + 3), .ref (b + 4), .int 0, .int 0]), ia 1204, fa 1204, ia 1200, ia 8]
def reL (b : Nat) : List sC := .inr (4, [.ref (b + 1), .ref (b + 3), .ref (b + 19), .ref (b + 22), .int 0]) :: (tpL (b + 1) ++ (yL (b + 3) ++ (plL (b + 19) ++ [ia 160])))
def seL (b : Nat) : List sC := .inr (5, [.ref (b + 1), .ref (b + 17), .ref (b + 33), .ref (b + 36), .ref (b + 39), .ref (b + 43), .int 0]) :: (yL (b + 1) ++ (yL (b + 17) ++ (plL (b + 33) ++ (plL (b + 36) ++ (chL (b + 39) ++ [ia 8])))))
def moL (b : Nat) : List sC := .inr (9, [.int 0, .ref (b + 1), .int 0, .int 0, .int 0, .int 0, .int 0, .int 0, .int 0, .int 0, .int 0, .ref (b + 2), .ref (b + 3), .int 0, .int 0, .int 0, .int 0, .ref (b + 4), .ref (b + 5), .ref (b + 6), .ref (b + 7), .int 0, .ref (b + 8), .int 0, .ref (b + 9), .ref (b + 10), .ref (b + 11), .ref (b + 12), .ref (b + 13), .ref (b + 14), .int 0, .int 0, .ref (b + 15), .int 0, .int 0, .int 0, .int 0, .int 0, .int 0, .int 0, .ref (b + 16), .int 0]) :: ia 400 :: ia 4 :: ia 106 :: ia 4 :: ia 106 :: ia 36 :: ia 160 :: ia 1060 :: ia 4 :: ia 4 :: ba 4 :: ia 106 :: ia 106 :: ia 36 :: ia 8 :: ia 106 :: []
def acU (b i : Nat) : Nat → Option Nat := fun j => if j < i then some (b + 2 + 16 * j) else none
def ysL (b : Nat) : Nat → List sC
  | 0 => []
  | i + 1 => ysL b i ++ yL (b + 2 + 16 * i)
def acL (b i : Nat) : List sC := .inr (0, [.ref (b + 1), .int 0, .int 0]) :: .inl (5, 10, .inr (.inr (.inr (.inr (acU b i))))) :: ysL b i
theorem plL_len {b : Nat} : (plL b).length = 3 := rfl
theorem yL_len {b : Nat} : (yL b).length = 16 := rfl
theorem tpL_len {b : Nat} : (tpL b).length = 2 := rfl
theorem chL_len {b : Nat} : (chL b).length = 4 := rfl
theorem coL_len {b : Nat} : (coL b).length = 5 := rfl
theorem reL_len {b : Nat} : (reL b).length = 23 := rfl
theorem seL_len {b : Nat} : (seL b).length = 44 := rfl
theorem moL_len {b : Nat} : (moL b).length = 17 := rfl
theorem ysL_len {b : Nat} : ∀ i, (ysL b i).length = 16 * i
  | 0 => rfl
  | i + 1 => by
    show (ysL b i ++ yL (b + 2 + 16 * i)).length = _
    rw [List.length_append, ysL_len i, yL_len]
    omega
theorem acL_len {b i : Nat} : (acL b i).length = 2 + 16 * i := by
  show (ysL b i).length + 1 + 1 = _
  rw [ysL_len]
  omega
theorem mc_0 : mMc 0 = 161 := by decide +kernel
theorem ms_0 : mMs 0 = 1350 := by decide +kernel
theorem sd_0 : s_def 0 = [.null, .int 0, .int 0] := by decide +kernel
theorem cn_0 : cN 0 = 3 := rfl
theorem mc_5 : mMc 5 = 3 := by decide +kernel
theorem ms_5 : mMs 5 = 38 := by decide +kernel
theorem sd_1 : s_def 1 = [.null, .int 0, .int 0, .int 0, .int 0, .int 0] := by decide +kernel
theorem cn_1 : cN 1 = 6 := rfl
theorem mc_9 : mMc 9 = 4 := by decide +kernel
theorem ms_9 : mMs 9 = 3616 := by decide +kernel
theorem sd_2 : s_def 2 = [.null, .null, .null, .null, .int 0, .int 0] := by decide +kernel
theorem cn_2 : cN 2 = 6 := rfl
theorem mc_143 : mMc 143 = 16 := by decide +kernel
theorem ms_143 : mMs 143 = 2250 := by decide +kernel
theorem sd_9 : s_def 9 = [.int 0, .null, .int 0, .int 0, .int 0, .int 0, .int 0, .int 0, .int 0, .int 0, .int 0, .null, .null, .int 0, .int 0, .int 0, .int 0, .null, .null, .null, .null, .int 0, .null, .int 0, .null, .null, .null, .null, .null, .null, .int 0, .int 0, .null, .int 0, .int 0, .int 0, .int 0, .int 0, .int 0, .int 0, .null, .int 0] := by decide +kernel
theorem cn_9 : cN 9 = 42 := rfl
theorem mc_18 : mMc 18 = 2 := by decide +kernel
theorem ms_18 : mMs 18 = 36 := by decide +kernel
theorem sd_3 : s_def 3 = [.null, .null] := by decide +kernel
theorem cn_3 : cN 3 = 2 := rfl
theorem mc_89 : mMc 89 = 316 := by decide +kernel
theorem ms_89 : mMs 89 = 6883 := by decide +kernel
theorem sd_8 : s_def 8 = [.null, .null, .null, .null, .null, .int 0, .null, .null, .null, .null, .null, .null, .null, .null, .null] := by decide +kernel
theorem cn_8 : cN 8 = 15 := rfl
theorem mc_30 : mMc 30 = 22 := by decide +kernel
theorem ms_30 : mMs 30 = 738 := by decide +kernel
theorem sd_4 : s_def 4 = [.null, .null, .null, .null, .int 0] := by decide +kernel
theorem cn_4 : cN 4 = 5 := rfl
theorem mc_41 : mMc 41 = 43 := by decide +kernel
theorem ms_41 : mMs 41 = 396 := by decide +kernel
theorem sd_5 : s_def 5 = [.null, .null, .null, .null, .null, .null, .int 0] := by decide +kernel
theorem cn_5 : cN 5 = 7 := rfl
theorem mc_53 : mMc 53 = 1 := by decide +kernel
theorem ms_53 : mMs 53 = 400 := by decide +kernel
theorem sd_6 : s_def 6 = [.null, .int 0, .int 0, .int 0, .int 0, .int 0] := by decide +kernel
theorem cn_6 : cN 6 = 6 := rfl
theorem mc_63 : mMc 63 = 15 := by decide +kernel
theorem ms_63 : mMs 63 = 114 := by decide +kernel
theorem sd_7 : s_def 7 = [.int 0, .int 0, .int 0, .int 0, .int 0, .int 0, .int 0, .null, .null, .null, .null, .null, .null, .null, .null, .null, .null, .null, .null, .null] := by decide +kernel
theorem cn_7 : cN 7 = 20 := rfl
section CTR
variable {d : Nat} {h : sH} {Q : sQ}
theorem c_Plan (h1 : h.1 = true) (hb9 : h.2.1 + 3 ≤ 999999) {a : Nat} (ha : a = h.2.1) (K : Q none (zH (plL h.2.1) h)) : MT (d + 1) 18 [.ref a] (hn h (.inr (3, s_def 3))) Q := by
  subst ha
  have hb : ∀ n, n < 3 → (h.2.1 + n < 999999) = True := fun n hn => eq_true (by omega)
  rw [MT_go (by decide) _ _ _ (Nat.le_of_ble_eq_true rfl), show s_entry 18 [.ref h.2.1] = [.ref h.2.1] from rfl]
  rw [zH_hn1, sd_3]
  simp (disch := first | assumption | decide +kernel | (simp only [List.length_cons, List.length_nil, List.length_append, plL_len, yL_len, tpL_len, chL_len, coL_len, reL_len, seL_len, acL_len, ysL_len, zH_n]; omega)) only [u_18_0, u_18_1, u_18_4, u_18_5, u_18_7, u_18_9, u_18_12, u_18_13, u_18_14, u_18_16, u_18_19, gI0, gIs, gR0, gRs, gF0, gFs, st0, st_i, st_r, st_f, st_n, st_s, true_and, and_true, ↓ifLeT, ↓ifLeF, ↓ifLtT, ↓ifLtF, ↓ifEqT, ↓ifEqF, if_tt, if_ff, if_pos, if_neg, nLe, nLt, nEq, nInT, nCl, pk_mul, nI_add, Nat.reduceAdd, s_cat_nil, s_cat_i, s_cat_r, s_cat_f, s_cat_l, tl_s, tl_n, cat_i, cat_r, cat_f, nb0, nb1, nbI, if_bI, if_bIr, Nat.zero_le, Nat.reduceLeDiff, arr_i, arr_f, arr_b, fSF_z, fG_z, oo_s, zH_1, zH_zH, List.length_cons, List.length_nil, List.length_append, plL_len, yL_len, tpL_len, chL_len, coL_len, reL_len, seL_len, acL_len, ysL_len, zH_n, List.cons_append, List.nil_append, List.append_assoc, List.append_nil, List.set_cons_zero, List.set_cons_succ, List.getElem?_cons_zero, List.getElem?_cons_succ, Nat.zero_add, Nat.add_assoc, Nat.reduceAdd, Nat.reduceLeDiff, h1, hb, mc_0, ms_0, cn_0, mc_5, ms_5, cn_1, mc_9, ms_9, cn_2, mc_18, ms_18, cn_3, mc_30, ms_30, cn_4, mc_41, ms_41, cn_5, mc_53, ms_53, cn_6, mc_63, ms_63, cn_7, mc_89, ms_89, cn_8, mc_143, ms_143, cn_9]
  exact K
theorem c_Tape (h1 : h.1 = true) (hb9 : h.2.1 + 2 ≤ 999999) {a : Nat} (ha : a = h.2.1) (K : Q none (zH (tpL h.2.1) h)) : MT (d + 1) 53 [.ref a] (hn h (.inr (6, s_def 6))) Q := by
  subst ha
  have hb : ∀ n, n < 2 → (h.2.1 + n < 999999) = True := fun n hn => eq_true (by omega)
  rw [MT_go (by decide) _ _ _ (Nat.le_of_ble_eq_true rfl), show s_entry 53 [.ref h.2.1] = [.ref h.2.1] from rfl]
  rw [zH_hn1, sd_6]
  simp (disch := first | assumption | decide +kernel | (simp only [List.length_cons, List.length_nil, List.length_append, plL_len, yL_len, tpL_len, chL_len, coL_len, reL_len, seL_len, acL_len, ysL_len, zH_n]; omega)) only [u_53_0, u_53_1, u_53_4, u_53_5, u_53_8, u_53_10, u_53_13, gI0, gIs, gR0, gRs, gF0, gFs, st0, st_i, st_r, st_f, st_n, st_s, true_and, and_true, ↓ifLeT, ↓ifLeF, ↓ifLtT, ↓ifLtF, ↓ifEqT, ↓ifEqF, if_tt, if_ff, if_pos, if_neg, nLe, nLt, nEq, nInT, nCl, pk_mul, nI_add, Nat.reduceAdd, s_cat_nil, s_cat_i, s_cat_r, s_cat_f, s_cat_l, tl_s, tl_n, cat_i, cat_r, cat_f, nb0, nb1, nbI, if_bI, if_bIr, Nat.zero_le, Nat.reduceLeDiff, arr_i, arr_f, arr_b, fSF_z, fG_z, oo_s, zH_1, zH_zH, List.length_cons, List.length_nil, List.length_append, plL_len, yL_len, tpL_len, chL_len, coL_len, reL_len, seL_len, acL_len, ysL_len, zH_n, List.cons_append, List.nil_append, List.append_assoc, List.append_nil, List.set_cons_zero, List.set_cons_succ, List.getElem?_cons_zero, List.getElem?_cons_succ, Nat.zero_add, Nat.add_assoc, Nat.reduceAdd, Nat.reduceLeDiff, h1, hb, mc_0, ms_0, cn_0, mc_5, ms_5, cn_1, mc_9, ms_9, cn_2, mc_18, ms_18, cn_3, mc_30, ms_30, cn_4, mc_41, ms_41, cn_5, mc_53, ms_53, cn_6, mc_63, ms_63, cn_7, mc_89, ms_89, cn_8, mc_143, ms_143, cn_9]
  exact K
theorem c_Course (h1 : h.1 = true) (hb9 : h.2.1 + 5 ≤ 999999) {a : Nat} (ha : a = h.2.1) (K : Q none (zH (coL h.2.1) h)) : MT (d + 1) 9 [.ref a] (hn h (.inr (2, s_def 2))) Q := by
  subst ha
  have hb : ∀ n, n < 5 → (h.2.1 + n < 999999) = True := fun n hn => eq_true (by omega)
  rw [MT_go (by decide) _ _ _ (Nat.le_of_ble_eq_true rfl), show s_entry 9 [.ref h.2.1] = [.ref h.2.1] from rfl]
  rw [zH_hn1, sd_2]
  simp (disch := first | assumption | decide +kernel | (simp only [List.length_cons, List.length_nil, List.length_append, plL_len, yL_len, tpL_len, chL_len, coL_len, reL_len, seL_len, acL_len, ysL_len, zH_n]; omega)) only [u_9_0, u_9_1, u_9_4, u_9_5, u_9_8, u_9_10, u_9_13, u_9_14, u_9_17, u_9_19, u_9_22, u_9_23, u_9_26, u_9_28, u_9_31, u_9_32, u_9_34, u_9_36, u_9_39, gI0, gIs, gR0, gRs, gF0, gFs, st0, st_i, st_r, st_f, st_n, st_s, true_and, and_true, ↓ifLeT, ↓ifLeF, ↓ifLtT, ↓ifLtF, ↓ifEqT, ↓ifEqF, if_tt, if_ff, if_pos, if_neg, nLe, nLt, nEq, nInT, nCl, pk_mul, nI_add, Nat.reduceAdd, s_cat_nil, s_cat_i, s_cat_r, s_cat_f, s_cat_l, tl_s, tl_n, cat_i, cat_r, cat_f, nb0, nb1, nbI, if_bI, if_bIr, Nat.zero_le, Nat.reduceLeDiff, arr_i, arr_f, arr_b, fSF_z, fG_z, oo_s, zH_1, zH_zH, List.length_cons, List.length_nil, List.length_append, plL_len, yL_len, tpL_len, chL_len, coL_len, reL_len, seL_len, acL_len, ysL_len, zH_n, List.cons_append, List.nil_append, List.append_assoc, List.append_nil, List.set_cons_zero, List.set_cons_succ, List.getElem?_cons_zero, List.getElem?_cons_succ, Nat.zero_add, Nat.add_assoc, Nat.reduceAdd, Nat.reduceLeDiff, h1, hb, mc_0, ms_0, cn_0, mc_5, ms_5, cn_1, mc_9, ms_9, cn_2, mc_18, ms_18, cn_3, mc_30, ms_30, cn_4, mc_41, ms_41, cn_5, mc_53, ms_53, cn_6, mc_63, ms_63, cn_7, mc_89, ms_89, cn_8, mc_143, ms_143, cn_9]
  exact K
theorem c_M (h1 : h.1 = true) (hb9 : h.2.1 + 17 ≤ 999999) {a : Nat} (ha : a = h.2.1) (K : Q none (zH (moL h.2.1) h)) : MT (d + 1) 143 [.ref a] (hn h (.inr (9, s_def 9))) Q := by
  subst ha
  have hb : ∀ n, n < 17 → (h.2.1 + n < 999999) = True := fun n hn => eq_true (by omega)
  rw [MT_go (by decide) _ _ _ (Nat.le_of_ble_eq_true rfl), show s_entry 143 [.ref h.2.1] = [.ref h.2.1] from rfl]
  rw [zH_hn1, sd_9]
  simp (disch := first | assumption | decide +kernel | (simp only [List.length_cons, List.length_nil, List.length_append, plL_len, yL_len, tpL_len, chL_len, coL_len, reL_len, seL_len, acL_len, ysL_len, zH_n]; omega)) only [u_143_0, u_143_1, u_143_4, u_143_5, u_143_8, u_143_10, u_143_13, u_143_14, u_143_15, u_143_17, u_143_20, u_143_21, u_143_23, u_143_25, u_143_28, u_143_29, u_143_30, u_143_32, u_143_35, u_143_36, u_143_38, u_143_40, u_143_43, u_143_44, u_143_46, u_143_48, u_143_51, u_143_52, u_143_55, u_143_57, u_143_60, u_143_61, u_143_64, u_143_66, u_143_69, u_143_70, u_143_71, u_143_73, u_143_76, u_143_77, u_143_78, u_143_80, u_143_83, u_143_84, u_143_85, u_143_87, u_143_90, u_143_91, u_143_93, u_143_95, u_143_98, u_143_99, u_143_101, u_143_103, u_143_106, u_143_107, u_143_109, u_143_111, u_143_114, u_143_115, u_143_117, u_143_119, u_143_122, u_143_123, u_143_125, u_143_127, u_143_130, gI0, gIs, gR0, gRs, gF0, gFs, st0, st_i, st_r, st_f, st_n, st_s, true_and, and_true, ↓ifLeT, ↓ifLeF, ↓ifLtT, ↓ifLtF, ↓ifEqT, ↓ifEqF, if_tt, if_ff, if_pos, if_neg, nLe, nLt, nEq, nInT, nCl, pk_mul, nI_add, Nat.reduceAdd, s_cat_nil, s_cat_i, s_cat_r, s_cat_f, s_cat_l, tl_s, tl_n, cat_i, cat_r, cat_f, nb0, nb1, nbI, if_bI, if_bIr, Nat.zero_le, Nat.reduceLeDiff, arr_i, arr_f, arr_b, fSF_z, fG_z, oo_s, zH_1, zH_zH, List.length_cons, List.length_nil, List.length_append, plL_len, yL_len, tpL_len, chL_len, coL_len, reL_len, seL_len, acL_len, ysL_len, zH_n, List.cons_append, List.nil_append, List.append_assoc, List.append_nil, List.set_cons_zero, List.set_cons_succ, List.getElem?_cons_zero, List.getElem?_cons_succ, Nat.zero_add, Nat.add_assoc, Nat.reduceAdd, Nat.reduceLeDiff, h1, hb, mc_0, ms_0, cn_0, mc_5, ms_5, cn_1, mc_9, ms_9, cn_2, mc_18, ms_18, cn_3, mc_30, ms_30, cn_4, mc_41, ms_41, cn_5, mc_53, ms_53, cn_6, mc_63, ms_63, cn_7, mc_89, ms_89, cn_8, mc_143, ms_143, cn_9]
  exact K
theorem c_Yard (h1 : h.1 = true) (hb9 : h.2.1 + 16 ≤ 999999) {a : Nat} (ha : a = h.2.1) (K : Q none (zH (yL h.2.1) h)) : MT (d + 2) 63 [.ref a] (hn h (.inr (7, s_def 7))) Q := by
  subst ha
  have hb : ∀ n, n < 16 → (h.2.1 + n < 999999) = True := fun n hn => eq_true (by omega)
  rw [MT_go (by decide) _ _ _ (Nat.le_of_ble_eq_true rfl), show s_entry 63 [.ref h.2.1] = [.ref h.2.1] from rfl]
  rw [zH_hn1, sd_7]
  simp (disch := first | assumption | decide +kernel | (simp only [List.length_cons, List.length_nil, List.length_append, plL_len, yL_len, tpL_len, chL_len, coL_len, reL_len, seL_len, acL_len, ysL_len, zH_n]; omega)) only [u_63_0, u_63_1, u_63_4, u_63_5, u_63_6, u_63_8, u_63_11, u_63_12, u_63_13, u_63_15, u_63_18, u_63_19, u_63_20, u_63_22, u_63_25, u_63_26, u_63_27, u_63_29, u_63_32, u_63_33, u_63_34, u_63_36, u_63_39, u_63_40, u_63_42, u_63_44, u_63_47, u_63_48, u_63_50, u_63_52, u_63_55, u_63_56, u_63_58, u_63_60, u_63_63, u_63_64, u_63_66, u_63_68, u_63_71, u_63_72, u_63_74, u_63_76, u_63_79, u_63_80, u_63_82, u_63_84, u_63_87, u_63_88, u_63_90, u_63_92, u_63_95, u_63_96, u_63_99, u_63_100, gI0, gIs, gR0, gRs, gF0, gFs, st0, st_i, st_r, st_f, st_n, st_s, true_and, and_true, ↓ifLeT, ↓ifLeF, ↓ifLtT, ↓ifLtF, ↓ifEqT, ↓ifEqF, if_tt, if_ff, if_pos, if_neg, nLe, nLt, nEq, nInT, nCl, pk_mul, nI_add, Nat.reduceAdd, s_cat_nil, s_cat_i, s_cat_r, s_cat_f, s_cat_l, tl_s, tl_n, cat_i, cat_r, cat_f, nb0, nb1, nbI, if_bI, if_bIr, Nat.zero_le, Nat.reduceLeDiff, arr_i, arr_f, arr_b, fSF_z, fG_z, oo_s, zH_1, zH_zH, List.length_cons, List.length_nil, List.length_append, plL_len, yL_len, tpL_len, chL_len, coL_len, reL_len, seL_len, acL_len, ysL_len, zH_n, List.cons_append, List.nil_append, List.append_assoc, List.append_nil, List.set_cons_zero, List.set_cons_succ, List.getElem?_cons_zero, List.getElem?_cons_succ, Nat.zero_add, Nat.add_assoc, Nat.reduceAdd, Nat.reduceLeDiff, h1, hb, mc_0, ms_0, cn_0, mc_5, ms_5, cn_1, mc_9, ms_9, cn_2, mc_18, ms_18, cn_3, mc_30, ms_30, cn_4, mc_41, ms_41, cn_5, mc_53, ms_53, cn_6, mc_63, ms_63, cn_7, mc_89, ms_89, cn_8, mc_143, ms_143, cn_9]
  refine c_Plan (h := zH _ h) h1 ?_ rfl ?_
  · simp only [List.length_cons, List.length_nil, List.length_append, plL_len, yL_len, tpL_len, chL_len, coL_len, reL_len, seL_len, acL_len, ysL_len, zH_n]; omega
  simp (disch := first | assumption | decide +kernel | (simp only [List.length_cons, List.length_nil, List.length_append, plL_len, yL_len, tpL_len, chL_len, coL_len, reL_len, seL_len, acL_len, ysL_len, zH_n]; omega)) only [u_63_103, u_63_106, gI0, gIs, gR0, gRs, gF0, gFs, st0, st_i, st_r, st_f, st_n, st_s, true_and, and_true, ↓ifLeT, ↓ifLeF, ↓ifLtT, ↓ifLtF, ↓ifEqT, ↓ifEqF, if_tt, if_ff, if_pos, if_neg, nLe, nLt, nEq, nInT, nCl, pk_mul, nI_add, Nat.reduceAdd, s_cat_nil, s_cat_i, s_cat_r, s_cat_f, s_cat_l, tl_s, tl_n, cat_i, cat_r, cat_f, nb0, nb1, nbI, if_bI, if_bIr, Nat.zero_le, Nat.reduceLeDiff, arr_i, arr_f, arr_b, fSF_z, fG_z, oo_s, zH_1, zH_zH, List.length_cons, List.length_nil, List.length_append, plL_len, yL_len, tpL_len, chL_len, coL_len, reL_len, seL_len, acL_len, ysL_len, zH_n, List.cons_append, List.nil_append, List.append_assoc, List.append_nil, List.set_cons_zero, List.set_cons_succ, List.getElem?_cons_zero, List.getElem?_cons_succ, Nat.zero_add, Nat.add_assoc, Nat.reduceAdd, Nat.reduceLeDiff, h1, hb, mc_0, ms_0, cn_0, mc_5, ms_5, cn_1, mc_9, ms_9, cn_2, mc_18, ms_18, cn_3, mc_30, ms_30, cn_4, mc_41, ms_41, cn_5, mc_53, ms_53, cn_6, mc_63, ms_63, cn_7, mc_89, ms_89, cn_8, mc_143, ms_143, cn_9]
  exact K
theorem c_Choice (h1 : h.1 = true) (hb9 : h.2.1 + 4 ≤ 999999) {a : Nat} (ha : a = h.2.1) (K : Q none (zH (chL h.2.1) h)) : MT (d + 2) 5 [.ref a] (hn h (.inr (1, s_def 1))) Q := by
  subst ha
  have hb : ∀ n, n < 4 → (h.2.1 + n < 999999) = True := fun n hn => eq_true (by omega)
  rw [MT_go (by decide) _ _ _ (Nat.le_of_ble_eq_true rfl), show s_entry 5 [.ref h.2.1] = [.ref h.2.1] from rfl]
  rw [zH_hn1, sd_1]
  simp (disch := first | assumption | decide +kernel | (simp only [List.length_cons, List.length_nil, List.length_append, plL_len, yL_len, tpL_len, chL_len, coL_len, reL_len, seL_len, acL_len, ysL_len, zH_n]; omega)) only [u_5_0, u_5_1, u_5_4, u_5_5, u_5_8, u_5_9, gI0, gIs, gR0, gRs, gF0, gFs, st0, st_i, st_r, st_f, st_n, st_s, true_and, and_true, ↓ifLeT, ↓ifLeF, ↓ifLtT, ↓ifLtF, ↓ifEqT, ↓ifEqF, if_tt, if_ff, if_pos, if_neg, nLe, nLt, nEq, nInT, nCl, pk_mul, nI_add, Nat.reduceAdd, s_cat_nil, s_cat_i, s_cat_r, s_cat_f, s_cat_l, tl_s, tl_n, cat_i, cat_r, cat_f, nb0, nb1, nbI, if_bI, if_bIr, Nat.zero_le, Nat.reduceLeDiff, arr_i, arr_f, arr_b, fSF_z, fG_z, oo_s, zH_1, zH_zH, List.length_cons, List.length_nil, List.length_append, plL_len, yL_len, tpL_len, chL_len, coL_len, reL_len, seL_len, acL_len, ysL_len, zH_n, List.cons_append, List.nil_append, List.append_assoc, List.append_nil, List.set_cons_zero, List.set_cons_succ, List.getElem?_cons_zero, List.getElem?_cons_succ, Nat.zero_add, Nat.add_assoc, Nat.reduceAdd, Nat.reduceLeDiff, h1, hb, mc_0, ms_0, cn_0, mc_5, ms_5, cn_1, mc_9, ms_9, cn_2, mc_18, ms_18, cn_3, mc_30, ms_30, cn_4, mc_41, ms_41, cn_5, mc_53, ms_53, cn_6, mc_63, ms_63, cn_7, mc_89, ms_89, cn_8, mc_143, ms_143, cn_9]
  refine c_Plan (h := zH _ h) h1 ?_ rfl ?_
  · simp only [List.length_cons, List.length_nil, List.length_append, plL_len, yL_len, tpL_len, chL_len, coL_len, reL_len, seL_len, acL_len, ysL_len, zH_n]; omega
  simp (disch := first | assumption | decide +kernel | (simp only [List.length_cons, List.length_nil, List.length_append, plL_len, yL_len, tpL_len, chL_len, coL_len, reL_len, seL_len, acL_len, ysL_len, zH_n]; omega)) only [u_5_12, u_5_15, gI0, gIs, gR0, gRs, gF0, gFs, st0, st_i, st_r, st_f, st_n, st_s, true_and, and_true, ↓ifLeT, ↓ifLeF, ↓ifLtT, ↓ifLtF, ↓ifEqT, ↓ifEqF, if_tt, if_ff, if_pos, if_neg, nLe, nLt, nEq, nInT, nCl, pk_mul, nI_add, Nat.reduceAdd, s_cat_nil, s_cat_i, s_cat_r, s_cat_f, s_cat_l, tl_s, tl_n, cat_i, cat_r, cat_f, nb0, nb1, nbI, if_bI, if_bIr, Nat.zero_le, Nat.reduceLeDiff, arr_i, arr_f, arr_b, fSF_z, fG_z, oo_s, zH_1, zH_zH, List.length_cons, List.length_nil, List.length_append, plL_len, yL_len, tpL_len, chL_len, coL_len, reL_len, seL_len, acL_len, ysL_len, zH_n, List.cons_append, List.nil_append, List.append_assoc, List.append_nil, List.set_cons_zero, List.set_cons_succ, List.getElem?_cons_zero, List.getElem?_cons_succ, Nat.zero_add, Nat.add_assoc, Nat.reduceAdd, Nat.reduceLeDiff, h1, hb, mc_0, ms_0, cn_0, mc_5, ms_5, cn_1, mc_9, ms_9, cn_2, mc_18, ms_18, cn_3, mc_30, ms_30, cn_4, mc_41, ms_41, cn_5, mc_53, ms_53, cn_6, mc_63, ms_63, cn_7, mc_89, ms_89, cn_8, mc_143, ms_143, cn_9]
  exact K
theorem c_Reader (h1 : h.1 = true) (hb9 : h.2.1 + 23 ≤ 999999) {a : Nat} (ha : a = h.2.1) (K : Q none (zH (reL h.2.1) h)) : MT (d + 3) 30 [.ref a] (hn h (.inr (4, s_def 4))) Q := by
  subst ha
  have hb : ∀ n, n < 23 → (h.2.1 + n < 999999) = True := fun n hn => eq_true (by omega)
  rw [MT_go (by decide) _ _ _ (Nat.le_of_ble_eq_true rfl), show s_entry 30 [.ref h.2.1] = [.ref h.2.1] from rfl]
  rw [zH_hn1, sd_4]
  simp (disch := first | assumption | decide +kernel | (simp only [List.length_cons, List.length_nil, List.length_append, plL_len, yL_len, tpL_len, chL_len, coL_len, reL_len, seL_len, acL_len, ysL_len, zH_n]; omega)) only [u_30_0, u_30_1, u_30_4, u_30_5, u_30_8, u_30_9, gI0, gIs, gR0, gRs, gF0, gFs, st0, st_i, st_r, st_f, st_n, st_s, true_and, and_true, ↓ifLeT, ↓ifLeF, ↓ifLtT, ↓ifLtF, ↓ifEqT, ↓ifEqF, if_tt, if_ff, if_pos, if_neg, nLe, nLt, nEq, nInT, nCl, pk_mul, nI_add, Nat.reduceAdd, s_cat_nil, s_cat_i, s_cat_r, s_cat_f, s_cat_l, tl_s, tl_n, cat_i, cat_r, cat_f, nb0, nb1, nbI, if_bI, if_bIr, Nat.zero_le, Nat.reduceLeDiff, arr_i, arr_f, arr_b, fSF_z, fG_z, oo_s, zH_1, zH_zH, List.length_cons, List.length_nil, List.length_append, plL_len, yL_len, tpL_len, chL_len, coL_len, reL_len, seL_len, acL_len, ysL_len, zH_n, List.cons_append, List.nil_append, List.append_assoc, List.append_nil, List.set_cons_zero, List.set_cons_succ, List.getElem?_cons_zero, List.getElem?_cons_succ, Nat.zero_add, Nat.add_assoc, Nat.reduceAdd, Nat.reduceLeDiff, h1, hb, mc_0, ms_0, cn_0, mc_5, ms_5, cn_1, mc_9, ms_9, cn_2, mc_18, ms_18, cn_3, mc_30, ms_30, cn_4, mc_41, ms_41, cn_5, mc_53, ms_53, cn_6, mc_63, ms_63, cn_7, mc_89, ms_89, cn_8, mc_143, ms_143, cn_9]
  refine c_Tape (h := zH _ h) h1 ?_ rfl ?_
  · simp only [List.length_cons, List.length_nil, List.length_append, plL_len, yL_len, tpL_len, chL_len, coL_len, reL_len, seL_len, acL_len, ysL_len, zH_n]; omega
  simp (disch := first | assumption | decide +kernel | (simp only [List.length_cons, List.length_nil, List.length_append, plL_len, yL_len, tpL_len, chL_len, coL_len, reL_len, seL_len, acL_len, ysL_len, zH_n]; omega)) only [u_30_12, u_30_15, u_30_16, u_30_19, u_30_20, gI0, gIs, gR0, gRs, gF0, gFs, st0, st_i, st_r, st_f, st_n, st_s, true_and, and_true, ↓ifLeT, ↓ifLeF, ↓ifLtT, ↓ifLtF, ↓ifEqT, ↓ifEqF, if_tt, if_ff, if_pos, if_neg, nLe, nLt, nEq, nInT, nCl, pk_mul, nI_add, Nat.reduceAdd, s_cat_nil, s_cat_i, s_cat_r, s_cat_f, s_cat_l, tl_s, tl_n, cat_i, cat_r, cat_f, nb0, nb1, nbI, if_bI, if_bIr, Nat.zero_le, Nat.reduceLeDiff, arr_i, arr_f, arr_b, fSF_z, fG_z, oo_s, zH_1, zH_zH, List.length_cons, List.length_nil, List.length_append, plL_len, yL_len, tpL_len, chL_len, coL_len, reL_len, seL_len, acL_len, ysL_len, zH_n, List.cons_append, List.nil_append, List.append_assoc, List.append_nil, List.set_cons_zero, List.set_cons_succ, List.getElem?_cons_zero, List.getElem?_cons_succ, Nat.zero_add, Nat.add_assoc, Nat.reduceAdd, Nat.reduceLeDiff, h1, hb, mc_0, ms_0, cn_0, mc_5, ms_5, cn_1, mc_9, ms_9, cn_2, mc_18, ms_18, cn_3, mc_30, ms_30, cn_4, mc_41, ms_41, cn_5, mc_53, ms_53, cn_6, mc_63, ms_63, cn_7, mc_89, ms_89, cn_8, mc_143, ms_143, cn_9]
  refine c_Yard (h := zH _ h) h1 ?_ rfl ?_
  · simp only [List.length_cons, List.length_nil, List.length_append, plL_len, yL_len, tpL_len, chL_len, coL_len, reL_len, seL_len, acL_len, ysL_len, zH_n]; omega
  simp (disch := first | assumption | decide +kernel | (simp only [List.length_cons, List.length_nil, List.length_append, plL_len, yL_len, tpL_len, chL_len, coL_len, reL_len, seL_len, acL_len, ysL_len, zH_n]; omega)) only [u_30_23, u_30_26, u_30_27, u_30_30, u_30_31, gI0, gIs, gR0, gRs, gF0, gFs, st0, st_i, st_r, st_f, st_n, st_s, true_and, and_true, ↓ifLeT, ↓ifLeF, ↓ifLtT, ↓ifLtF, ↓ifEqT, ↓ifEqF, if_tt, if_ff, if_pos, if_neg, nLe, nLt, nEq, nInT, nCl, pk_mul, nI_add, Nat.reduceAdd, s_cat_nil, s_cat_i, s_cat_r, s_cat_f, s_cat_l, tl_s, tl_n, cat_i, cat_r, cat_f, nb0, nb1, nbI, if_bI, if_bIr, Nat.zero_le, Nat.reduceLeDiff, arr_i, arr_f, arr_b, fSF_z, fG_z, oo_s, zH_1, zH_zH, List.length_cons, List.length_nil, List.length_append, plL_len, yL_len, tpL_len, chL_len, coL_len, reL_len, seL_len, acL_len, ysL_len, zH_n, List.cons_append, List.nil_append, List.append_assoc, List.append_nil, List.set_cons_zero, List.set_cons_succ, List.getElem?_cons_zero, List.getElem?_cons_succ, Nat.zero_add, Nat.add_assoc, Nat.reduceAdd, Nat.reduceLeDiff, h1, hb, mc_0, ms_0, cn_0, mc_5, ms_5, cn_1, mc_9, ms_9, cn_2, mc_18, ms_18, cn_3, mc_30, ms_30, cn_4, mc_41, ms_41, cn_5, mc_53, ms_53, cn_6, mc_63, ms_63, cn_7, mc_89, ms_89, cn_8, mc_143, ms_143, cn_9]
  refine c_Plan (h := zH _ h) h1 ?_ rfl ?_
  · simp only [List.length_cons, List.length_nil, List.length_append, plL_len, yL_len, tpL_len, chL_len, coL_len, reL_len, seL_len, acL_len, ysL_len, zH_n]; omega
  simp (disch := first | assumption | decide +kernel | (simp only [List.length_cons, List.length_nil, List.length_append, plL_len, yL_len, tpL_len, chL_len, coL_len, reL_len, seL_len, acL_len, ysL_len, zH_n]; omega)) only [u_30_34, u_30_37, u_30_38, u_30_41, u_30_43, u_30_46, gI0, gIs, gR0, gRs, gF0, gFs, st0, st_i, st_r, st_f, st_n, st_s, true_and, and_true, ↓ifLeT, ↓ifLeF, ↓ifLtT, ↓ifLtF, ↓ifEqT, ↓ifEqF, if_tt, if_ff, if_pos, if_neg, nLe, nLt, nEq, nInT, nCl, pk_mul, nI_add, Nat.reduceAdd, s_cat_nil, s_cat_i, s_cat_r, s_cat_f, s_cat_l, tl_s, tl_n, cat_i, cat_r, cat_f, nb0, nb1, nbI, if_bI, if_bIr, Nat.zero_le, Nat.reduceLeDiff, arr_i, arr_f, arr_b, fSF_z, fG_z, oo_s, zH_1, zH_zH, List.length_cons, List.length_nil, List.length_append, plL_len, yL_len, tpL_len, chL_len, coL_len, reL_len, seL_len, acL_len, ysL_len, zH_n, List.cons_append, List.nil_append, List.append_assoc, List.append_nil, List.set_cons_zero, List.set_cons_succ, List.getElem?_cons_zero, List.getElem?_cons_succ, Nat.zero_add, Nat.add_assoc, Nat.reduceAdd, Nat.reduceLeDiff, h1, hb, mc_0, ms_0, cn_0, mc_5, ms_5, cn_1, mc_9, ms_9, cn_2, mc_18, ms_18, cn_3, mc_30, ms_30, cn_4, mc_41, ms_41, cn_5, mc_53, ms_53, cn_6, mc_63, ms_63, cn_7, mc_89, ms_89, cn_8, mc_143, ms_143, cn_9]
  exact K
theorem c_Search (h1 : h.1 = true) (hb9 : h.2.1 + 44 ≤ 999999) {a : Nat} (ha : a = h.2.1) (K : Q none (zH (seL h.2.1) h)) : MT (d + 3) 41 [.ref a] (hn h (.inr (5, s_def 5))) Q := by
  subst ha
  have hb : ∀ n, n < 44 → (h.2.1 + n < 999999) = True := fun n hn => eq_true (by omega)
  rw [MT_go (by decide) _ _ _ (Nat.le_of_ble_eq_true rfl), show s_entry 41 [.ref h.2.1] = [.ref h.2.1] from rfl]
  rw [zH_hn1, sd_5]
  simp (disch := first | assumption | decide +kernel | (simp only [List.length_cons, List.length_nil, List.length_append, plL_len, yL_len, tpL_len, chL_len, coL_len, reL_len, seL_len, acL_len, ysL_len, zH_n]; omega)) only [u_41_0, u_41_1, u_41_4, u_41_5, u_41_8, u_41_9, gI0, gIs, gR0, gRs, gF0, gFs, st0, st_i, st_r, st_f, st_n, st_s, true_and, and_true, ↓ifLeT, ↓ifLeF, ↓ifLtT, ↓ifLtF, ↓ifEqT, ↓ifEqF, if_tt, if_ff, if_pos, if_neg, nLe, nLt, nEq, nInT, nCl, pk_mul, nI_add, Nat.reduceAdd, s_cat_nil, s_cat_i, s_cat_r, s_cat_f, s_cat_l, tl_s, tl_n, cat_i, cat_r, cat_f, nb0, nb1, nbI, if_bI, if_bIr, Nat.zero_le, Nat.reduceLeDiff, arr_i, arr_f, arr_b, fSF_z, fG_z, oo_s, zH_1, zH_zH, List.length_cons, List.length_nil, List.length_append, plL_len, yL_len, tpL_len, chL_len, coL_len, reL_len, seL_len, acL_len, ysL_len, zH_n, List.cons_append, List.nil_append, List.append_assoc, List.append_nil, List.set_cons_zero, List.set_cons_succ, List.getElem?_cons_zero, List.getElem?_cons_succ, Nat.zero_add, Nat.add_assoc, Nat.reduceAdd, Nat.reduceLeDiff, h1, hb, mc_0, ms_0, cn_0, mc_5, ms_5, cn_1, mc_9, ms_9, cn_2, mc_18, ms_18, cn_3, mc_30, ms_30, cn_4, mc_41, ms_41, cn_5, mc_53, ms_53, cn_6, mc_63, ms_63, cn_7, mc_89, ms_89, cn_8, mc_143, ms_143, cn_9]
  refine c_Yard (h := zH _ h) h1 ?_ rfl ?_
  · simp only [List.length_cons, List.length_nil, List.length_append, plL_len, yL_len, tpL_len, chL_len, coL_len, reL_len, seL_len, acL_len, ysL_len, zH_n]; omega
  simp (disch := first | assumption | decide +kernel | (simp only [List.length_cons, List.length_nil, List.length_append, plL_len, yL_len, tpL_len, chL_len, coL_len, reL_len, seL_len, acL_len, ysL_len, zH_n]; omega)) only [u_41_12, u_41_15, u_41_16, u_41_19, u_41_20, gI0, gIs, gR0, gRs, gF0, gFs, st0, st_i, st_r, st_f, st_n, st_s, true_and, and_true, ↓ifLeT, ↓ifLeF, ↓ifLtT, ↓ifLtF, ↓ifEqT, ↓ifEqF, if_tt, if_ff, if_pos, if_neg, nLe, nLt, nEq, nInT, nCl, pk_mul, nI_add, Nat.reduceAdd, s_cat_nil, s_cat_i, s_cat_r, s_cat_f, s_cat_l, tl_s, tl_n, cat_i, cat_r, cat_f, nb0, nb1, nbI, if_bI, if_bIr, Nat.zero_le, Nat.reduceLeDiff, arr_i, arr_f, arr_b, fSF_z, fG_z, oo_s, zH_1, zH_zH, List.length_cons, List.length_nil, List.length_append, plL_len, yL_len, tpL_len, chL_len, coL_len, reL_len, seL_len, acL_len, ysL_len, zH_n, List.cons_append, List.nil_append, List.append_assoc, List.append_nil, List.set_cons_zero, List.set_cons_succ, List.getElem?_cons_zero, List.getElem?_cons_succ, Nat.zero_add, Nat.add_assoc, Nat.reduceAdd, Nat.reduceLeDiff, h1, hb, mc_0, ms_0, cn_0, mc_5, ms_5, cn_1, mc_9, ms_9, cn_2, mc_18, ms_18, cn_3, mc_30, ms_30, cn_4, mc_41, ms_41, cn_5, mc_53, ms_53, cn_6, mc_63, ms_63, cn_7, mc_89, ms_89, cn_8, mc_143, ms_143, cn_9]
  refine c_Yard (h := zH _ h) h1 ?_ rfl ?_
  · simp only [List.length_cons, List.length_nil, List.length_append, plL_len, yL_len, tpL_len, chL_len, coL_len, reL_len, seL_len, acL_len, ysL_len, zH_n]; omega
  simp (disch := first | assumption | decide +kernel | (simp only [List.length_cons, List.length_nil, List.length_append, plL_len, yL_len, tpL_len, chL_len, coL_len, reL_len, seL_len, acL_len, ysL_len, zH_n]; omega)) only [u_41_23, u_41_26, u_41_27, u_41_30, u_41_31, gI0, gIs, gR0, gRs, gF0, gFs, st0, st_i, st_r, st_f, st_n, st_s, true_and, and_true, ↓ifLeT, ↓ifLeF, ↓ifLtT, ↓ifLtF, ↓ifEqT, ↓ifEqF, if_tt, if_ff, if_pos, if_neg, nLe, nLt, nEq, nInT, nCl, pk_mul, nI_add, Nat.reduceAdd, s_cat_nil, s_cat_i, s_cat_r, s_cat_f, s_cat_l, tl_s, tl_n, cat_i, cat_r, cat_f, nb0, nb1, nbI, if_bI, if_bIr, Nat.zero_le, Nat.reduceLeDiff, arr_i, arr_f, arr_b, fSF_z, fG_z, oo_s, zH_1, zH_zH, List.length_cons, List.length_nil, List.length_append, plL_len, yL_len, tpL_len, chL_len, coL_len, reL_len, seL_len, acL_len, ysL_len, zH_n, List.cons_append, List.nil_append, List.append_assoc, List.append_nil, List.set_cons_zero, List.set_cons_succ, List.getElem?_cons_zero, List.getElem?_cons_succ, Nat.zero_add, Nat.add_assoc, Nat.reduceAdd, Nat.reduceLeDiff, h1, hb, mc_0, ms_0, cn_0, mc_5, ms_5, cn_1, mc_9, ms_9, cn_2, mc_18, ms_18, cn_3, mc_30, ms_30, cn_4, mc_41, ms_41, cn_5, mc_53, ms_53, cn_6, mc_63, ms_63, cn_7, mc_89, ms_89, cn_8, mc_143, ms_143, cn_9]
  refine c_Plan (h := zH _ h) h1 ?_ rfl ?_
  · simp only [List.length_cons, List.length_nil, List.length_append, plL_len, yL_len, tpL_len, chL_len, coL_len, reL_len, seL_len, acL_len, ysL_len, zH_n]; omega
  simp (disch := first | assumption | decide +kernel | (simp only [List.length_cons, List.length_nil, List.length_append, plL_len, yL_len, tpL_len, chL_len, coL_len, reL_len, seL_len, acL_len, ysL_len, zH_n]; omega)) only [u_41_34, u_41_37, u_41_38, u_41_41, u_41_42, gI0, gIs, gR0, gRs, gF0, gFs, st0, st_i, st_r, st_f, st_n, st_s, true_and, and_true, ↓ifLeT, ↓ifLeF, ↓ifLtT, ↓ifLtF, ↓ifEqT, ↓ifEqF, if_tt, if_ff, if_pos, if_neg, nLe, nLt, nEq, nInT, nCl, pk_mul, nI_add, Nat.reduceAdd, s_cat_nil, s_cat_i, s_cat_r, s_cat_f, s_cat_l, tl_s, tl_n, cat_i, cat_r, cat_f, nb0, nb1, nbI, if_bI, if_bIr, Nat.zero_le, Nat.reduceLeDiff, arr_i, arr_f, arr_b, fSF_z, fG_z, oo_s, zH_1, zH_zH, List.length_cons, List.length_nil, List.length_append, plL_len, yL_len, tpL_len, chL_len, coL_len, reL_len, seL_len, acL_len, ysL_len, zH_n, List.cons_append, List.nil_append, List.append_assoc, List.append_nil, List.set_cons_zero, List.set_cons_succ, List.getElem?_cons_zero, List.getElem?_cons_succ, Nat.zero_add, Nat.add_assoc, Nat.reduceAdd, Nat.reduceLeDiff, h1, hb, mc_0, ms_0, cn_0, mc_5, ms_5, cn_1, mc_9, ms_9, cn_2, mc_18, ms_18, cn_3, mc_30, ms_30, cn_4, mc_41, ms_41, cn_5, mc_53, ms_53, cn_6, mc_63, ms_63, cn_7, mc_89, ms_89, cn_8, mc_143, ms_143, cn_9]
  refine c_Plan (h := zH _ h) h1 ?_ rfl ?_
  · simp only [List.length_cons, List.length_nil, List.length_append, plL_len, yL_len, tpL_len, chL_len, coL_len, reL_len, seL_len, acL_len, ysL_len, zH_n]; omega
  simp (disch := first | assumption | decide +kernel | (simp only [List.length_cons, List.length_nil, List.length_append, plL_len, yL_len, tpL_len, chL_len, coL_len, reL_len, seL_len, acL_len, ysL_len, zH_n]; omega)) only [u_41_45, u_41_48, u_41_49, u_41_52, u_41_53, gI0, gIs, gR0, gRs, gF0, gFs, st0, st_i, st_r, st_f, st_n, st_s, true_and, and_true, ↓ifLeT, ↓ifLeF, ↓ifLtT, ↓ifLtF, ↓ifEqT, ↓ifEqF, if_tt, if_ff, if_pos, if_neg, nLe, nLt, nEq, nInT, nCl, pk_mul, nI_add, Nat.reduceAdd, s_cat_nil, s_cat_i, s_cat_r, s_cat_f, s_cat_l, tl_s, tl_n, cat_i, cat_r, cat_f, nb0, nb1, nbI, if_bI, if_bIr, Nat.zero_le, Nat.reduceLeDiff, arr_i, arr_f, arr_b, fSF_z, fG_z, oo_s, zH_1, zH_zH, List.length_cons, List.length_nil, List.length_append, plL_len, yL_len, tpL_len, chL_len, coL_len, reL_len, seL_len, acL_len, ysL_len, zH_n, List.cons_append, List.nil_append, List.append_assoc, List.append_nil, List.set_cons_zero, List.set_cons_succ, List.getElem?_cons_zero, List.getElem?_cons_succ, Nat.zero_add, Nat.add_assoc, Nat.reduceAdd, Nat.reduceLeDiff, h1, hb, mc_0, ms_0, cn_0, mc_5, ms_5, cn_1, mc_9, ms_9, cn_2, mc_18, ms_18, cn_3, mc_30, ms_30, cn_4, mc_41, ms_41, cn_5, mc_53, ms_53, cn_6, mc_63, ms_63, cn_7, mc_89, ms_89, cn_8, mc_143, ms_143, cn_9]
  refine c_Choice (h := zH _ h) h1 ?_ rfl ?_
  · simp only [List.length_cons, List.length_nil, List.length_append, plL_len, yL_len, tpL_len, chL_len, coL_len, reL_len, seL_len, acL_len, ysL_len, zH_n]; omega
  simp (disch := first | assumption | decide +kernel | (simp only [List.length_cons, List.length_nil, List.length_append, plL_len, yL_len, tpL_len, chL_len, coL_len, reL_len, seL_len, acL_len, ysL_len, zH_n]; omega)) only [u_41_56, u_41_59, u_41_60, u_41_62, u_41_64, u_41_67, gI0, gIs, gR0, gRs, gF0, gFs, st0, st_i, st_r, st_f, st_n, st_s, true_and, and_true, ↓ifLeT, ↓ifLeF, ↓ifLtT, ↓ifLtF, ↓ifEqT, ↓ifEqF, if_tt, if_ff, if_pos, if_neg, nLe, nLt, nEq, nInT, nCl, pk_mul, nI_add, Nat.reduceAdd, s_cat_nil, s_cat_i, s_cat_r, s_cat_f, s_cat_l, tl_s, tl_n, cat_i, cat_r, cat_f, nb0, nb1, nbI, if_bI, if_bIr, Nat.zero_le, Nat.reduceLeDiff, arr_i, arr_f, arr_b, fSF_z, fG_z, oo_s, zH_1, zH_zH, List.length_cons, List.length_nil, List.length_append, plL_len, yL_len, tpL_len, chL_len, coL_len, reL_len, seL_len, acL_len, ysL_len, zH_n, List.cons_append, List.nil_append, List.append_assoc, List.append_nil, List.set_cons_zero, List.set_cons_succ, List.getElem?_cons_zero, List.getElem?_cons_succ, Nat.zero_add, Nat.add_assoc, Nat.reduceAdd, Nat.reduceLeDiff, h1, hb, mc_0, ms_0, cn_0, mc_5, ms_5, cn_1, mc_9, ms_9, cn_2, mc_18, ms_18, cn_3, mc_30, ms_30, cn_4, mc_41, ms_41, cn_5, mc_53, ms_53, cn_6, mc_63, ms_63, cn_7, mc_89, ms_89, cn_8, mc_143, ms_143, cn_9]
  exact K
end CTR
