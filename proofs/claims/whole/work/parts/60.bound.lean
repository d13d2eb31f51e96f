/-! cells tell the plain quay's bounds -/
section BRL
variable {y : tY} {n : tN} {c t : Nat}
theorem left_le (hT : wfT n) (ht : t < nF n 3) : leftN n t ≤ 91 := by
  have := (hT t ht).2.2.1
  unfold leftN
  omega
theorem sum_bd {f : Nat → Nat} {m : Nat} : ∀ {k}, (∀ i, i < k → f i ≤ m) → sumN f k ≤ k * m
  | 0, _ => Nat.zero_le _
  | k + 1, h => by
    rw [sumN, Nat.succ_mul]
    exact Nat.add_le_add (sum_bd fun i hi => h i (by omega)) (h k (by omega))
theorem crowd_bd (hn : wfN n) {lo hi : Nat} : crowdN n lo hi ≤ 728 := by
  have h := sum_bd (f := fun t => if lo ≤ nA n 12 t ∧ nA n 12 t < hi then leftN n t else 0) (m := 91) (k := nF n 3) fun t ht => by
    have := left_le hn.2.2.1 ht
    show (if _ then _ else _) ≤ 91
    split <;> omega
  have := hn.1.2.1
  unfold crowdN
  omega
theorem lw_rel (hn : wfN n) (hy : RY y n) {lo hi : Nat} (hlo : lo < 2 ^ 20) (hhi : hi < 2 ^ 20) : lwY y (nI lo) (nI hi) = nI (crowdN n lo hi) := by
  obtain ⟨⟨f0, f1, f2, f3, f4, f5, f6⟩, -, yt, -⟩ := hy
  unfold lwY crowdN
  rw [f3]
  refine iter_inv (P := fun i s => s = nI (sumN (fun t => if lo ≤ nA n 12 t ∧ nA n 12 t < hi then leftN n t else 0) i)) (fun t s ht hs => ?_) (nF n 3) 0 _ (Nat.zero_add _) rfl
  obtain ⟨y12, y13, -, -, y16, -⟩ := yt t ht
  obtain ⟨h12, -, h13, -, -, h16, -⟩ := hn.2.2.1 t ht
  have hB := hn.1.2.2.2.1
  have e1 : (nI lo ≤ nI (nA n 12 t) ∧ nI (nA n 12 t) < nI hi) ↔ (lo ≤ nA n 12 t ∧ nA n 12 t < hi) := by
    rw [nI_leI (by omega) (by omega), nI_ltI (by omega) (by omega)]
  unfold lwF
  rw [hs, sumN, y12, y13, y16, pk_sub h16, nI_add]
  by_cases e : lo ≤ nA n 12 t ∧ nA n 12 t < hi
  · rw [if_pos (e1.mpr e), if_pos e]; rfl
  · rw [if_neg (fun q => e (e1.mp q)), if_neg e]; rfl
theorem lw_all (hn : wfN n) (hy : RY y n) : lwY y (nI 0) (yB y 0) = nI (crowdN n 0 (nF n 0)) := by
  have hB := hn.1.2.2.2.1
  rw [hy.1.1]
  exact lw_rel hn hy (by omega) (by omega)
def crwN (n : tN) (w : Nat) : Nat := maxN (fun b => crowdN n b (b + w)) (nF n 0 + 1 - w)
theorem crw_bd (hn : wfN n) {w : Nat} {k : Nat} : maxN (fun b => crowdN n b (b + w)) k ≤ 728 := max_le fun b _ => crowd_bd hn
theorem crowdY_rel (hn : wfN n) (hy : RY y n) {w : Nat} (hw : w < 2 ^ 19) : crowdY y w (nF n 0) = nI (crwN n w) := by
  have hB := hn.1.2.2.2.1
  unfold crowdY crwN
  refine iter_inv (P := fun i s => s = nI (maxN (fun b => crowdN n b (b + w)) i)) (fun b s hb hs => ?_) (nF n 0 + 1 - w) 0 _ (Nat.zero_add _) rfl
  have h1 := crw_bd hn (w := w) (k := b)
  have h2 := crowd_bd hn (lo := b) (hi := b + w)
  rw [hs, lw_rel hn hy (by omega) (by omega), mx_n (by omega) (by omega), maxN]
theorem row_bd (hT : wfT n) : ∀ f t, t < nF n 3 → rowN n f t ≤ 91 * (t + 1)
  | 0, t, _ => Nat.zero_le _
  | f + 1, t, ht => by
    rw [rowN]
    have h1 := left_le hT ht
    have h2 := max_le (f := fun u => if nV n t u then rowN n f u else 0) (m := 91 * t) (k := t) fun u hu => by
      have := row_bd hT f u (by omega)
      show (if _ then _ else _) ≤ _
      split
      · refine Nat.le_trans this (Nat.mul_le_mul_left _ (by omega))
      · exact Nat.zero_le _
    omega
theorem rowF_rel (hn : wfN n) (hy : RY y n) : ∀ f t, t < nF n 3 → rowF y f t = nI (rowN n f t)
  | 0, t, _ => rfl
  | f + 1, t, ht => by
    obtain ⟨y12, y13, -, y15, y16, -⟩ := hy.2.2.1 t ht
    obtain ⟨h12, -, h13, -, -, h16, -⟩ := hn.2.2.1 t ht
    have h8 := hn.1.2.1
    have e : iter (rowG y (rowF y f) t) 0 t (nI 0) = nI (maxN (fun u => if nV n t u then rowN n f u else 0) t) := by
      refine iter_inv (P := fun i x => x = nI (maxN (fun u => if nV n t u then rowN n f u else 0) i)) (fun u x hu hx => ?_) t 0 _ (Nat.zero_add _) rfl
      have hb := bitsN_256 (f := nV n t) (k := 8) (by decide)
      unfold rowG
      rw [hx, y15, maxN]
      have hm := max_le (f := fun u => if nV n t u then rowN n f u else 0) (m := 91 * 9) (k := u) fun v hv => by
        have := row_bd hn.2.2.1 f v (by omega)
        show (if _ then _ else _) ≤ _
        split <;> omega
      have hu := row_bd hn.2.2.1 f u (by omega)
      cases hv : nV n t u with
      | false =>
        rw [if_pos ((bitS_n (by omega) (by omega)).mpr (by rw [bitsN_tb, hv, Bool.and_false])), if_neg (show ¬ false = true by decide), Nat.max_zero]
      | true =>
        rw [if_neg (fun q => by have := (bitS_n (by omega) (by omega)).mp q; rw [bitsN_tb, hv, decide_eq_true (show u < 8 by omega)] at this; cases this), if_pos rfl, rowF_rel hn hy f u (by omega), mx_n (by omega) (by omega)]
    rw [rowF, e, y13, y16, nI_add, pk_sub (by omega), rowN]
    unfold leftN
    congr 1
    omega
theorem rows_bd (hn : wfN n) {k : Nat} (hk : k ≤ nF n 3) : maxN (rowN n 8) k ≤ 728 := max_le fun t ht => by
  have := row_bd hn.2.2.1 8 t (by omega)
  have := hn.1.2.1
  omega
theorem rows_rel (hn : wfN n) (hy : RY y n) : rowsY y = nI (rowsN n) := by
  unfold rowsY rowsN
  rw [hy.1.2.2.2.1]
  refine iter_inv (P := fun i s => s = nI (maxN (rowN n 8) i) ∧ i ≤ nF n 3) (fun t s ht hs => ⟨?_, by omega⟩) (nF n 3) 0 _ (Nat.zero_add _) ⟨rfl, Nat.zero_le _⟩ |>.1
  have h1 := rows_bd hn (k := t) (by omega)
  have h2 := row_bd hn.2.2.1 8 t ht
  have := hn.1.2.1
  rw [hs.1, rowF_rel hn hy 8 t ht, mx_n (by omega) (by omega), maxN]
theorem pop_bits {f : Nat → Bool} {C : Nat} (hC : C ≤ 4) : pop (bitsN f C) = sumN (fun c => (f c).toNat) C := by
  match C, hC with
  | 0, _ => show pop 0 = 0; decide
  | 1, _ => simp only [bitsN, sumN]; cases f 0 <;> rfl
  | 2, _ => simp only [bitsN, sumN]; cases f 0 <;> cases f 1 <;> rfl
  | 3, _ => simp only [bitsN, sumN]; cases f 0 <;> cases f 1 <;> cases f 2 <;> rfl
  | 4, _ => simp only [bitsN, sumN]; cases f 0 <;> cases f 1 <;> cases f 2 <;> cases f 3 <;> rfl
theorem sum_not {f : Nat → Bool} : ∀ k, sumN (fun c => (f c).toNat) k + sumN (fun c => (!f c).toNat) k = k
  | 0 => rfl
  | k + 1 => by
    have := sum_not (f := f) k
    rw [sumN, sumN]
    cases f k <;> simp <;> omega
theorem able_rel (hn : wfN n) (hy : RY y n) : ableY y = nI (ableN n) := by
  have hC := hn.1.1
  have := sum_not (f := nK n) (nF n 2)
  unfold ableY
  rw [hy.1.2.2.1, hy.1.2.2.2.2.2.1, bcI_pop _ (bitsN_256 (by omega)), pop_bits hC, pk_sub (by omega)]
  congr 1
  unfold ableN
  omega
def lfB (n : tN) : Nat := bitsN (fun t => !nDone n t) (nF n 3)
theorem left_bits (hn : wfN n) (hy : RY y n) : leftY y = nI (lfB n) := by
  have h8 := hn.1.2.1
  unfold leftY
  rw [hy.1.2.2.2.1, hy.1.2.2.2.2.2.2, i_full (by omega), i_andn (Nat.lt_of_le_of_lt (Nat.sub_le _ _) (Nat.pow_lt_pow_right (by decide) (by omega)))]
  congr 1
  unfold lfB
  have h31 : (2 ^ nF n 3 - 1) < 2 ^ 31 := Nat.lt_of_le_of_lt (Nat.sub_le _ _) (Nat.pow_lt_pow_right (by decide) (by omega))
  refine bitsN_eq ?_ fun t ht => ?_
  · refine Nat.lt_pow_two_of_testBit _ fun i hi => ?_
    rw [andn_tb h31, full_tb, decide_eq_false (by omega), Bool.false_and]
  · rw [andn_tb h31, full_tb, decide_eq_true ht, Bool.true_and, bitsN_tb, decide_eq_true ht, Bool.true_and]
def allD (n : tN) : Bool := (List.range (nF n 3)).all (nDone n)
theorem lfB_0 : lfB n = 0 ↔ allD n = true := by
  rw [nz_tb]
  unfold lfB allD
  rw [List.all_eq_true]
  constructor
  · intro h t ht
    have := h t
    rw [bitsN_tb, decide_eq_true (List.mem_range.mp ht), Bool.true_and] at this
    simpa using this
  · intro h i
    rw [bitsN_tb]
    by_cases e : i < nF n 3
    · rw [h i (List.mem_range.mpr e)]; simp
    · rw [decide_eq_false e, Bool.false_and]
theorem lfB_lt (hn : wfN n) : lfB n < 256 := bitsN_256 hn.1.2.1
def shareN (n : tN) : Nat := (crowdN n 0 (nF n 0) + ableN n - 1) / ableN n
def boN (n : tN) (what : Int32) : Int32 := if allD n then nI 0 else if ableN n = 0 then -1 else boW what (nI (rowsN n)) (nI (shareN n)) (nI (crwN n (min (nF n 1) (nF n 0))))
theorem bo_rel (hn : wfN n) (hy : RY y n) {what : Int32} : boY y (nF n 1) (nF n 0) what = boN n what := by
  have hC := hn.1.1
  have ha : ableN n ≤ 4 := by have := sum_not (f := nK n) (nF n 2); unfold ableN; omega
  have hb := crowd_bd hn (lo := 0) (hi := nF n 0)
  unfold boY boN
  rw [left_bits hn hy, able_rel hn hy]
  by_cases e : allD n = true
  · rw [if_pos (by rw [lfB_0.mpr e]), if_pos e]
  · rw [if_neg (fun q => e (lfB_0.mp ((nI_eq (by have := lfB_lt hn; omega) (by decide)).mp q))), if_neg e]
    by_cases e2 : ableN n = 0
    · rw [if_pos e2, e2]; rfl
    · rw [if_neg e2, if_pos (nI_le (by omega) (by omega)), rows_rel hn hy, crowdY_rel hn hy (by have := hn.1.2.2.2.2.2; omega)]
      congr 1
      unfold shareY shareN
      rw [lw_all hn hy, able_rel hn hy, nI_add, pk_sub (by omega), pk_div (by omega) (by omega) (by omega)]
theorem low_bound {n : tN} (h : covN n) {m : Nat} (hm : isLast n m) : (boN n (nI 0)).toInt ≤ m := by
  have hn := h.1
  unfold boN
  split
  · rw [nI_toInt (by decide)]; omega
  · split
    · exact Int.le_trans (show (-1 : Int32).toInt ≤ 0 by decide) (by omega)
    · rename_i h1 h2
      have a1 := low_row h hm
      have a2 := low_share h hm (lo := 0) (hi := nF n 0)
      have a3 : crwN n (min (nF n 1) (nF n 0)) ≤ m := max_le fun b _ => low_crowd h hm (by omega)
      have hb := crowd_bd hn (lo := 0) (hi := nF n 0)
      have hs : shareN n ≤ m := by
        unfold shareN
        refine Nat.le_of_lt_succ (Nat.div_lt_of_lt_mul ?_)
        rw [Nat.mul_succ]
        omega
      have hs2 : shareN n ≤ 732 := by
        have ha : ableN n ≤ 4 := by have := sum_not (f := nK n) (nF n 2); have := hn.1.1; unfold ableN; omega
        unfold shareN
        exact Nat.le_trans (Nat.div_le_self _ _) (by omega)
      have hr := rows_bd hn (Nat.le_refl _)
      have hr : rowsN n ≤ 728 := hr
      have hc : crwN n (min (nF n 1) (nF n 0)) ≤ 728 := crw_bd hn
      show (mx (nI (rowsN n)) (mx (nI (shareN n)) (nI (crwN n (min (nF n 1) (nF n 0)))))).toInt ≤ _
      rw [mx_n (by omega) (by omega), mx_n (by omega) (by omega), nI_toInt (by omega)]
      omega
theorem cr_sub {b z : Nat} (h : z ≤ b) : nI b + -(nI z) = nI (b - z) := by
  rw [← Int32.sub_eq_add_neg, pk_sub h]
theorem reach_rel (hn : wfN n) (hy : RY y n) (hc : c < nF n 2) (ht : t < nF n 3) : (crY y c t = nI 0 ∧ ¬ reachN n c t) ∨ crY y c t = nI 1 := by
  obtain ⟨hF, hC, hT, hL⟩ := id hn
  obtain ⟨⟨f0, f1, f2, f3, f4, f5, f6⟩, ⟨yc, -⟩, yt, -⟩ := hy
  have h4 := hF.1
  have hb := hF.2.2.2.1
  have hg := hF.2.2.2.2.2
  have hs := (hT t ht).1
  have pg : ∀ i, nF n 1 * i ≤ 5 * i := fun i => Nat.mul_le_mul_right _ hg
  have hi0 := chain hC (i := c) (k := nF n 2 - 1 - c) (by omega)
  have hi1 := (hC.1 (c + (nF n 2 - 1 - c)) (by omega)).1
  have key := iter_inv (P := fun _ (p : Int32 × Int32) => ∃ lo hi : Nat, p = (nI lo, nI hi) ∧ lo < 2 ^ 20 ∧ hi < 2 ^ 20 ∧ (reachN n c t → lo ≤ nA n 12 t ∧ nA n 12 t ≤ hi)) (N := nF n 2) (f := crF y c) (fun i p hi ⟨lo, hh, e, l1, l2, l3⟩ => by
    unfold crF
    rw [f5, e]
    have hbay := (hC.1 i hi).1
    have bb := bit_brk hF hi
    cases hk : nK n i with
    | false => rw [if_pos (bb.mpr hk)]; exact ⟨lo, hh, rfl, l1, l2, l3⟩
    | true =>
      rw [if_neg (fun q => by rw [bb.mp q] at hk; cases hk), (yc i hi).1, f1]
      by_cases a : i < c
      · have := pg (c - i)
        rw [if_pos a, if_neg (show ¬ c < i by omega), pk_sub (by omega), pk_mul, nI_add, mx_n (by omega) (by omega)]
        refine ⟨max lo (nA n 7 i + nF n 1 * (c - i)), hh, rfl, by omega, l2, fun hr => ?_⟩
        have h1 := l3 hr
        have h2 := (hr.2.2 i hi hk).1 a
        omega
      · rw [if_neg a]
        by_cases b : c < i
        · have h3 := chain hC (i := c) (k := i - c) (by omega)
          rw [show c + (i - c) = i by omega] at h3
          rw [if_pos b, show nI c - nI i = -(nI (i - c)) by rw [← pk_sub (show c ≤ i by omega), Int32.neg_sub], Int32.mul_neg, pk_mul, cr_sub (by omega), mn_n (by omega) (by omega)]
          refine ⟨lo, min hh (nA n 7 i - nF n 1 * (i - c)), rfl, l1, by omega, fun hr => ?_⟩
          have h1 := l3 hr
          have h2 := (hr.2.2 i hi hk).2 b
          omega
        · rw [if_neg b]; exact ⟨lo, hh, rfl, l1, l2, l3⟩) (nF n 2) 0 (cr0 y c) (Nat.zero_add _) (by
    have p1 := pg c
    have p2 := pg (nF n 2 - 1 - c)
    unfold cr0
    rw [f0, f1, f2, pk_mul, pk_sub (by omega), pk_sub (by omega), pk_sub (by omega), pk_mul, pk_sub (by omega)]
    refine ⟨_, _, rfl, by omega, by omega, fun hr => ?_⟩
    have h1 := hr.1
    have h2 := hr.2.1
    omega)
  obtain ⟨lo, hh, e, l1, l2, l3⟩ := key
  unfold crY
  rw [f2, e, (yt t ht).1]
  unfold rngI
  by_cases a : nA n 12 t < lo
  · rw [if_pos ((nI_ltI (by omega) (by omega)).mpr a)]
    exact Or.inl ⟨rfl, fun hr => by have := (l3 hr).1; omega⟩
  · rw [if_neg (fun q => a ((nI_ltI (by omega) (by omega)).mp q))]
    by_cases b : hh < nA n 12 t
    · rw [if_pos ((nI_ltI (by omega) (by omega)).mpr b)]
      exact Or.inl ⟨rfl, fun hr => by have := (l3 hr).2; omega⟩
    · rw [if_neg (fun q => b ((nI_ltI (by omega) (by omega)).mp q))]
      exact Or.inr rfl
end BRL
