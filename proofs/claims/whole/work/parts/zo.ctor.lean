/-! the constructors: new cells behind those that are there -/
def zH (l : List sC) (h : sH) : sH := (h.1, h.2.1 + l.length, fun q => if h.2.1 ≤ q then l.getD (q - h.2.1) (h.2.2 q) else h.2.2 q)
theorem zH_1 (l : List sC) (h : sH) : (zH l h).1 = h.1 := rfl
theorem zH_n (l : List sC) (h : sH) : (zH l h).2.1 = h.2.1 + l.length := rfl
theorem zH_at {l : List sC} {h : sH} {q : Nat} : hg (zH l h) q = if h.2.1 ≤ q then l.getD (q - h.2.1) (h.2.2 q) else h.2.2 q := rfl
theorem zH_hn {l : List sC} {h : sH} {c : sC} : hn (zH l h) c = zH (l ++ [c]) h := by
  refine Prod.ext rfl (Prod.ext ?_ (funext fun q => ?_))
  · show h.2.1 + l.length + 1 = h.2.1 + (l ++ [c]).length
    rw [List.length_append]
    rfl
  · show (if q = h.2.1 + l.length then c else if h.2.1 ≤ q then l.getD (q - h.2.1) (h.2.2 q) else h.2.2 q) = if h.2.1 ≤ q then (l ++ [c]).getD (q - h.2.1) (h.2.2 q) else h.2.2 q
    by_cases e : q = h.2.1 + l.length
    · subst e
      rw [if_pos rfl, if_pos (by omega), Nat.add_sub_cancel_left, List.getD_eq_getElem?_getD, List.getElem?_append_right (Nat.le_refl _), Nat.sub_self]
      rfl
    · rw [if_neg e]
      by_cases g : h.2.1 ≤ q
      · rw [if_pos g, if_pos g, List.getD_eq_getElem?_getD, List.getD_eq_getElem?_getD]
        by_cases g2 : q - h.2.1 < l.length
        · rw [List.getElem?_append_left g2]
        · rw [List.getElem?_eq_none (by omega), List.getElem?_eq_none (by rw [List.length_append]; show l.length + 1 ≤ _; omega)]
      · rw [if_neg g, if_neg g]
theorem zH_hn1 {h : sH} {c : sC} : hn h c = zH [c] h := by
  refine Prod.ext rfl (Prod.ext rfl (funext fun q => ?_))
  show (if q = h.2.1 then c else h.2.2 q) = if h.2.1 ≤ q then [c].getD (q - h.2.1) (h.2.2 q) else h.2.2 q
  by_cases e : q = h.2.1
  · subst e
    rw [if_pos rfl, if_pos (Nat.le_refl _), Nat.sub_self]
    rfl
  · rw [if_neg e]
    by_cases g : h.2.1 ≤ q
    · rw [if_pos g, List.getD_eq_getElem?_getD, List.getElem?_eq_none (by show 1 ≤ _; omega)]
      rfl
    · rw [if_neg g]
theorem zH_zH {l l2 : List sC} {h : sH} : zH l2 (zH l h) = zH (l ++ l2) h := by
  refine Prod.ext rfl (Prod.ext ?_ (funext fun q => ?_))
  · show h.2.1 + l.length + l2.length = h.2.1 + (l ++ l2).length
    rw [List.length_append, Nat.add_assoc]
  · show (if h.2.1 + l.length ≤ q then l2.getD (q - (h.2.1 + l.length)) (if h.2.1 ≤ q then l.getD (q - h.2.1) (h.2.2 q) else h.2.2 q) else if h.2.1 ≤ q then l.getD (q - h.2.1) (h.2.2 q) else h.2.2 q) = if h.2.1 ≤ q then (l ++ l2).getD (q - h.2.1) (h.2.2 q) else h.2.2 q
    by_cases g : h.2.1 ≤ q
    · rw [if_pos g, if_pos g, List.getD_eq_getElem?_getD, List.getD_eq_getElem?_getD, List.getD_eq_getElem?_getD]
      by_cases g2 : q - h.2.1 < l.length
      · rw [if_neg (by omega), List.getElem?_append_left g2]
      · rw [if_pos (by omega), List.getElem?_append_right (by omega), List.getElem?_eq_none (l := l) (by omega)]
        congr 2
        omega
    · rw [if_neg g, if_neg g, if_neg (by omega)]
theorem zH_nil {h : sH} : zH [] h = h := by
  refine Prod.ext rfl (Prod.ext rfl (funext fun q => ?_))
  show (if h.2.1 ≤ q then h.2.2 q else h.2.2 q) = h.2.2 q
  split <;> rfl
theorem zH_hs {p c : sC} {l : List sC} {h : sH} : hs (zH (p :: l) h) h.2.1 c = zH (c :: l) h := by
  refine Prod.ext rfl (Prod.ext rfl (funext fun q => ?_))
  show (if q = h.2.1 then c else if h.2.1 ≤ q then (p :: l).getD (q - h.2.1) (h.2.2 q) else h.2.2 q) = if h.2.1 ≤ q then (c :: l).getD (q - h.2.1) (h.2.2 q) else h.2.2 q
  by_cases e : q = h.2.1
  · subst e
    rw [if_pos rfl, if_pos (Nat.le_refl _), Nat.sub_self]
    rfl
  · rw [if_neg e]
    by_cases g : h.2.1 ≤ q
    · rw [if_pos g, if_pos g]
      obtain ⟨j, hj⟩ : ∃ j, q - h.2.1 = j + 1 := ⟨q - h.2.1 - 1, by omega⟩
      rw [hj]
      rfl
    · rw [if_neg g, if_neg g]
theorem zH_g0 {p : sC} {l : List sC} {h : sH} : hg (zH (p :: l) h) h.2.1 = p := by
  rw [zH_at, if_pos (Nat.le_refl _), Nat.sub_self]
  rfl
theorem fSF_z {m ci kf : Nat} {fs : List Value} {l : List sC} {h : sH} {v : Value} {f : sH → Prop} (h1 : kf < fs.length) (h2 : narrow (cTy ci kf) v = v) (h3 : fits (cTy ci kf) v = true) (h4 : mSt m = 2 ∧ ci = mC m) : fSF m (zH (.inr (ci, fs) :: l) h) h.2.1 ci kf v f ↔ f (zH (.inr (ci, fs.set kf v) :: l) h) := by
  unfold fSF oO
  rw [zH_g0]
  show (_ ∧ _ ∧ _ ∧ _ ∧ _ ∧ f (hs _ _ _)) ↔ _
  rw [zH_hs]
  exact ⟨fun z => z.2.2.2.2.2, fun z => ⟨rfl, h1, h2, h3, h4, z⟩⟩
theorem arr_z {m n t k1 k2 : Nat} {l : List sC} {h : sH} {X : (Nat → Int32) ⊕ (Nat → Int64) ⊕ (Nat → UInt32) ⊕ (Nat → UInt64) ⊕ (Nat → Option Nat)} {N : sH → sK → Prop} (h1 : h.1 = true) (hb : h.2.1 + l.length < 999999) (hn1 : n ≤ 100000) (hk1 : k1 + 1 ≤ mMc m) (hk2 : k2 + n ≤ mMs m) : s_arr m (k1, k2) (nI n) (zH l h) t ((nI n).toNatClampNeg, X) N ↔ N (zH (l ++ [.inl (t, (n, X))]) h) (k1 + 1, k2 + n) := by
  have e : (nI n).toNatClampNeg = n := nCl (by omega)
  unfold s_arr
  rw [e, zH_hn]
  exact ⟨fun z => z.2.2.2.2.2.2.2, fun z => ⟨h1, hb, Int32.not_lt.mpr (nI_le (Nat.zero_le n) (by omega)), hn1, rfl, hk1, hk2, z⟩⟩
theorem tr32_0 {n : Nat} : tr32 n (fun _ => 0) = fun _ => 0 := by
  funext j
  unfold tr32
  split <;> rfl
theorem trF_0 {n : Nat} : trF n (fun _ => 0) = fun _ => 0 := by
  funext j
  unfold trF
  split <;> rfl
def p0 : tP := (fun _ => 0, fun _ => 0)
def y0 : tY := (fun _ => 0, (0, 0), fun _ _ => 0, fun _ => 0, p0)
def plL (b : Nat) : List sC := [.inr (3, [.ref (b + 1), .ref (b + 2)]), .inl (0, 32, .inl fun _ => 0), .inl (0, 4, .inl fun _ => 0)]
def ia (n : Nat) : sC := .inl (0, n, .inl fun _ => 0)
def fa (n : Nat) : sC := .inl (2, n, .inr (.inr (.inl fun _ => 0)))
def yL (b : Nat) : List sC := .inr (7, [.int 0, .int 0, .int 0, .int 0, .int 0, .int 0, .int 0, .ref (b + 1), .ref (b + 2), .ref (b + 3), .ref (b + 4), .ref (b + 5), .ref (b + 6), .ref (b + 7), .ref (b + 8), .ref (b + 9), .ref (b + 10), .ref (b + 11), .ref (b + 12), .ref (b + 13)]) :: ia 4 :: ia 4 :: fa 4 :: ia 4 :: ia 4 :: ia 8 :: ia 8 :: ia 8 :: ia 8 :: ia 8 :: ia 8 :: ia 8 :: plL (b + 13)
section CTR
variable {d : Nat} {h : sH} {Q : sQ}
theorem sd3 : s_def 3 = [.null, .null] := by decide +kernel
theorem sd7 : s_def 7 = [.int 0, .int 0, .int 0, .int 0, .int 0, .int 0, .int 0, .null, .null, .null, .null, .null, .null, .null, .null, .null, .null, .null, .null, .null] := by decide +kernel
theorem c_plan (h1 : h.1 = true) (hb : h.2.1 + 3 ≤ 999999) (K : Q none (zH (plL h.2.1) h)) : MT (d + 1) 18 [.ref h.2.1] (zH [.inr (3, [.null, .null])] h) Q := by
  have m1 : mMc 18 = 2 := by decide +kernel
  have m2 : mMs 18 = 36 := by decide +kernel
  rw [MT_go (by decide) _ _ _ (Nat.le_of_ble_eq_true rfl), show s_entry 18 [.ref h.2.1] = [.ref h.2.1] from rfl]
  simp (disch := first | assumption | omega | rfl | decide +kernel | (simp only [List.length_cons, List.length_nil]; omega)) only [u_18_0, u_18_1, u_18_4, u_18_5, u_18_7, u_18_9, u_18_12, u_18_13, u_18_14, u_18_16, u_18_19, gI0, gIs, gR0, gRs, gF0, gFs, st0, st_i, st_r, st_f, st_n, st_s, true_and, and_true, ↓ifLeT, ↓ifLeF, ↓ifLtT, ↓ifLtF, ↓ifEqT, ↓ifEqF, if_tt, if_ff, if_pos, if_neg, nLe, nLt, nEq, nInT, nCl, pk_mul, nI_add, Nat.reduceAdd, s_cat_nil, s_cat_i, s_cat_r, s_cat_f, s_cat_l, tl_s, tl_n, cat_i, cat_r, cat_f, nb0, nb1, nbI, if_bI, if_bIr, Nat.zero_le, Nat.reduceLeDiff, arr_z, fSF_z, zH_n, List.length_cons, List.length_nil, List.cons_append, List.nil_append, Nat.zero_add]
  exact K
end CTR
