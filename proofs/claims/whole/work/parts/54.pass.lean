/-! a minute of the cells is a minute of the plain quay -/
theorem iter_any {f : Nat → Bool} : ∀ m i s, iter (fun c s => s || f c) i m s = (s || (List.range' i m).any f)
  | 0, i, s => by simp [iter]
  | m + 1, i, s => by rw [iter, iter_any m (i + 1), List.range'_succ, List.any_cons, Bool.or_assoc]
theorem iter_any0 {f : Nat → Bool} {m : Nat} : iter (fun c s => s || f c) 0 m false = (List.range m).any f := by
  rw [iter_any, Bool.false_or, List.range_eq_range']
def stirN (n : tN) : Bool := (List.range (nF n 2)).any (nMoved n) || (List.range (nF n 2)).any (fun c => !calmW (nW n c) || nWorks n c)
section PAS
variable {y z : tY} {n : tN} {s : tD}
theorem calm_rel {c : Nat} : calmI y c = nI 0 ↔ calmW (yW y c) = false := by
  unfold calmI calmW
  by_cases h : nI 0 ≤ Op.cmpValue (FP.fcmp (yW y c) FP.fconst1) .g
  · rw [if_pos h, decide_eq_false (fun z => z h)]; exact ⟨fun _ => rfl, fun _ => rfl⟩
  · rw [if_neg h, decide_eq_true h]; exact ⟨fun z => absurd z (by decide), fun z => by cases z⟩
theorem free_rel (hF : wfF n) (hT : wfT n) {t : Nat} (ht : t < nF n 3) : nI (bitsN (nV n t) 8) &&& (nI (bitsN (nDone n) (nF n 3)) ^^^ (-1)) = nI 0 ↔ nFree n t = true := by
  have hv := (hT t ht).2.2.2.2.2.2
  have h8 := hF.2.1
  have hb := bitsN_256 (f := nV n t) (k := 8) (by decide)
  rw [i_andn0 (by omega)]
  unfold nFree
  rw [List.all_eq_true]
  constructor
  · intro h u hu
    rw [List.mem_range] at hu
    cases hV : nV n t u with
    | false => rfl
    | true =>
      have := h u (by rw [bitsN_tb, hV, decide_eq_true (by omega : u < 8)]; rfl)
      rw [bitsN_tb, decide_eq_true hu, Bool.true_and] at this
      rw [this]; rfl
  · intro h i hi
    rw [bitsN_tb, Bool.and_eq_true, decide_eq_true_eq] at hi
    have h1 := (hv i hi.2).1
    have h2 := h i (List.mem_range.mpr (by omega))
    rw [hi.2] at h2
    rw [bitsN_tb, decide_eq_true (show i < nF n 3 by omega), Bool.true_and]
    simpa using h2
theorem deed_rel (hn : wfN n) (hy : RY y n) {c : Nat} (hc : c < nF n 2) : deedB (nxtY y) c = nI (nDeed0 n c) := by
  obtain ⟨hF, hC, hT, hL⟩ := hn
  obtain ⟨⟨f0, f1, f2, f3, f4, f5, f6⟩, ⟨yc, -⟩, yt, yp⟩ := id hy
  have hc4 := hF.1
  have e10 : yA (nxtY y) 10 c = oI1 (nNext n c) := by
    show fil (yC y) (nxY y) (yA y 10) c = _
    rw [fil_in (by omega), nx_rel hF hL hy (by omega)]
  have e7 : yA (nxtY y) 7 c = nI (nA n 7 c) := (yc c hc).1
  have eW : yW (nxtY y) c = nW n c := (yc c hc).2.2
  have e5 : yB (nxtY y) 5 = nI (bitsN (nK n) (nF n 2)) := f5
  have e6 : yB (nxtY y) 6 = nI (bitsN (nDone n) (nF n 3)) := f6
  unfold deedB
  rw [e10, e5, e6, e7]
  unfold nDeed0 nWorks
  cases hx : nNext n c with
  | none =>
    rw [if_pos (show oI1 none < nI 0 by decide)]
    simp
  | some t =>
    obtain ⟨ht, -, hd⟩ := next_lt hL hx
    have h8 := hF.2.1
    have hs := (hT t ht).1
    have hb := hF.2.2.2.1
    have hp := (hC.1 c hc).1
    show (if nI t < nI 0 then nI 0 else if ¬ bitS (nI (bitsN (nK n) (nF n 2))) (nI c) = nI 0 then nI 0 else if calmI (nxtY y) c = nI 0 then nI 3 else if ¬ nI (nA n 7 c) = yA y 12 (nI t).toNatClampNeg then nI 3 else if ¬ yA y 15 (nI t).toNatClampNeg &&& (nI (bitsN (nDone n) (nF n 3)) ^^^ -1) = nI 0 then nI 3 else nI 4) = _
    rw [if_neg (nI_nlt (Nat.zero_le _) (by omega)), nCl (by omega), (yt t ht).1, (yt t ht).2.2.2.1]
    cases hk : nK n c with
    | true =>
      rw [if_pos (fun q => by rw [(bit_brk hF hc).mp q] at hk; cases hk)]
      rfl
    | false =>
      rw [if_neg (fun q => q ((bit_brk hF hc).mpr hk))]
      cases hw : calmW (nW n c) with
      | false =>
        rw [if_pos (calm_rel.mpr (by rw [eW]; exact hw))]
        simp
      | true =>
        rw [if_neg (fun q => by have := calm_rel.mp q; rw [eW, hw] at this; cases this)]
        by_cases e : nA n 7 c = nA n 12 t
        · rw [if_neg (fun q => q (by rw [e]))]
          simp only [decide_eq_true e]
          cases hf : nFree n t with
          | false =>
            rw [if_pos (fun q => by rw [(free_rel hF hT ht).mp q] at hf; cases hf)]
            simp
          | true =>
            rw [if_neg (fun q => q ((free_rel hF hT ht).mpr hf))]
            simp
        · rw [if_pos (fun q => e ((nI_eq (by omega) (by omega)).mp q))]
          simp [decide_eq_false e]
theorem mid_rel (hn : wfN n) (hy : RY y n) : rSt (begY (nxtY y)) (stpY (begY (nxtY y))) n (midN n) ∧ rZ (begY (nxtY y)) n := by
  obtain ⟨hF, hC, hT, hL⟩ := id hn
  obtain ⟨⟨f0, f1, f2, f3, f4, f5, f6⟩, ⟨yc, -⟩, yt, yp⟩ := id hy
  have hz : rZ (begY (nxtY y)) n := ⟨f0, f1, f2, f5, fun c hc => by
    show fil (yC y) (nxY y) (yA y 10) c = _
    rw [fil_in (by omega), nx_rel hF hL hy (by have := hF.1; omega)], fun t ht => (yt t ht).1⟩
  refine ⟨?_, hz⟩
  have e : ∀ m i y' s, i + m = nF n 2 → (rSt (begY (nxtY y)) y' n s ∧ jN n s) → rSt (begY (nxtY y)) (iter stp1 i m y') n (iter (nStep n) i m s) := by
    intro m
    induction m with
    | zero => intro i y' s _ h; exact h.1
    | succ m ih =>
      intro i y' s hi h
      rw [iter, iter]
      exact ih (i + 1) _ _ (by omega) ⟨step_rel hF hz hL hT h.1 h.2 (by omega), jN_step h.2 (by omega)⟩
  have e2 := e (nF n 2) 0 (begY (nxtY y)) (nA n 7, nDeed0 n) (Nat.zero_add _) ⟨⟨eqS_r, fun c hc => ⟨(yc c hc).1, by
    show fil (yC y) (deedB (nxtY y)) (yA y 11) c = _
    rw [fil_in (by omega), deed_rel hn hy hc]⟩⟩, jN_0 hC⟩
  unfold stpY midN
  rw [show yC (begY (nxtY y)) = nF n 2 from f2]
  exact e2
/-- as far as the i-th crane -/
def nByK (n : tN) (i t : Nat) : Option Nat := (List.range i).find? (fun c => nWorks n c && decide (nNext n c = some t))
def nDidK (n : tN) (i t : Nat) : Nat := if (nByK n i t).isSome then nA n 16 t + 1 else nA n 16 t
def nX17K (n : tN) (i t : Nat) : Int32 := if (nByK n i t).isSome && decide (nA n 16 t + 1 = nA n 13 t) then nI (nF n 4 + 1) else nX n 17 t
def nX18K (n : tN) (i t : Nat) : Int32 := match nByK n i t with
  | some c => if nA n 16 t + 1 = nA n 13 t then nI c else nX n 18 t
  | none => nX n 18 t
theorem by_some {i t c : Nat} (h : nByK n i t = some c) : c < i ∧ nWorks n c = true ∧ nNext n c = some t := by
  have h1 := List.mem_of_find?_eq_some h
  have h2 := List.find?_some h
  rw [Bool.and_eq_true, decide_eq_true_eq] at h2
  exact ⟨List.mem_range.mp h1, h2⟩
theorem by_succ {i t : Nat} : nByK n (i + 1) t = match nByK n i t with
    | some c => some c
    | none => if nWorks n i && decide (nNext n i = some t) then some i else none := by
  unfold nByK
  rw [List.range_succ, List.find?_append]
  cases (List.range i).find? (fun c => nWorks n c && decide (nNext n c = some t)) with
  | some c => rfl
  | none =>
    rw [List.find?_cons]
    cases nWorks n i && decide (nNext n i = some t) <;> rfl
theorem by_same {i t : Nat} (h : (nWorks n i && decide (nNext n i = some t)) = false) : nByK n (i + 1) t = nByK n i t := by
  rw [by_succ, h]
  cases nByK n i t <;> rfl
theorem by_new (hL : wfL n) {i t : Nat} (h1 : nWorks n i = true) (h2 : nNext n i = some t) : nByK n i t = none ∧ nByK n (i + 1) t = some i := by
  have h : nByK n i t = none := by
    cases hb : nByK n i t with
    | none => rfl
    | some c =>
      obtain ⟨b1, b2, b3⟩ := by_some hb
      have := hL.2.2 c i t (next_lt hL b3).2.1 (next_lt hL h2).2.1
      omega
  refine ⟨h, ?_⟩
  rw [by_succ, h, h1, decide_eq_true h2]
  rfl
theorem works_next {c : Nat} (h : nWorks n c = true) : ∃ t, nNext n c = some t := by
  unfold nWorks at h
  split at h
  · exact ⟨_, by assumption⟩
  · cases h
def rW (m y' : tY) (n : tN) (i : Nat) : Prop := (yC y' = yC m ∧ yT y' = yT m ∧ yP y' = yP m) ∧ (∀ k, k ≠ 6 → yB y' k = yB m k) ∧ (∀ k, k ≠ 16 → k ≠ 17 → k ≠ 18 → yA y' k = yA m k) ∧ (∀ c, c < 4 → yW y' c = if c < i then swF (movB m c) (yW m c) else yW m c) ∧ yB y' 6 = nI (bitsN (fun t => decide (nDidK n i t = nA n 13 t)) (nF n 3)) ∧ ∀ t, t < nF n 3 → yA y' 16 t = nI (nDidK n i t) ∧ yA y' 17 t = nX17K n i t ∧ yA y' 18 t = nX18K n i t
def rM (m : tY) (n : tN) : Prop := (∀ c, c < nF n 2 → yA m 10 c = oI1 (nNext n c) ∧ yA m 11 c = nI (nDeed n c)) ∧ yB m 4 = nI (nF n 4 + 1) ∧ ∀ t, t < nF n 3 → yA m 13 t = nI (nA n 13 t)
theorem deed_4 (hC : wfC n) {c : Nat} (hc : c < nF n 2) : nDeed n c = 4 ↔ nWorks n c = true := by
  have h := jN_mid hC
  have h4 := jN_le h hc
  rw [← deed0_4]
  unfold nDeed
  by_cases h1 : (midN n).2 c = 1
  · have := h.2.2.1 c hc (Or.inl h1)
    exact ⟨fun q => by omega, fun q => absurd q this.2.1⟩
  · by_cases h2 : (midN n).2 c = 2
    · have := h.2.2.1 c hc (Or.inr h2)
      exact ⟨fun q => by omega, fun q => absurd q this.2.1⟩
    · rw [(h.2.2.2 c hc h1 h2).2]
theorem sw_rel (hn : wfN n) {m y' : tY} {i : Nat} (hm : rM m n) (hi : i < nF n 2) (h : rW m y' n i) : rW m (sw2 i y') n (i + 1) := by
  obtain ⟨hF, hC, hT, hL⟩ := id hn
  obtain ⟨⟨a1, a2, a3⟩, a4, a5, a6, a7, a8⟩ := h
  obtain ⟨m1, m2, m3⟩ := hm
  obtain ⟨m10, m11⟩ := m1 i hi
  have c4 := hF.1
  have t8 := hF.2.1
  have hd4 := jN_le (jN_mid hC) hi
  have e10 : yA y' 10 i = oI1 (nNext n i) := by rw [a5 10 (by decide) (by decide) (by decide)]; exact m10
  have e11 : yA y' 11 i = nI (nDeed n i) := by rw [a5 11 (by decide) (by decide) (by decide)]; exact m11
  have hmov : movB y' i = movB m i := by unfold movB; rw [a5 11 (by decide) (by decide) (by decide)]
  have hw : ∀ c, c < 4 → vf_upd (yW y') i (swF (movB y' i) (yW y' i)) c = if c < i + 1 then swF (movB m c) (yW m c) else yW m c := by
    intro c hc
    unfold vf_upd
    by_cases e : c = i
    · rw [if_pos e, if_pos (by omega), e, hmov, a6 i (by omega), if_neg (by omega)]
    · rw [if_neg e, a6 c hc]
      by_cases e2 : c < i
      · rw [if_pos e2, if_pos (by omega)]
      · rw [if_neg e2, if_neg (by omega)]
  have quiet : (nWorks n i = true → False) → rW m (sw2 i y') n (i + 1) := by
    intro hq
    have hwf : nWorks n i = false := by cases h : nWorks n i with
      | false => rfl
      | true => exact (hq h).elim
    have e : wkY (sw1 y' i) i = sw1 y' i := by
      unfold wkY
      rw [if_pos (show ¬ yA (sw1 y' i) 11 i = nI 4 from fun q => by
        have q : yA y' 11 i = nI 4 := q
        rw [e11] at q
        exact hq ((deed_4 hC hi).mp ((nI_eq (by unfold nDeed; omega) (by decide)).mp q)))]
    have same : ∀ t, nByK n (i + 1) t = nByK n i t := fun t => by_same (by rw [hwf]; rfl)
    unfold sw2
    rw [e]
    refine ⟨⟨a1, a2, a3⟩, a4, a5, hw, ?_, fun t ht => ?_⟩
    · have : (fun t => decide (nDidK n (i + 1) t = nA n 13 t)) = fun t => decide (nDidK n i t = nA n 13 t) := by funext t; unfold nDidK; rw [same]
      rw [this]; exact a7
    · unfold nDidK nX17K nX18K
      rw [same]
      exact a8 t ht
  cases hwk : nWorks n i with
  | false => exact quiet (fun q => by rw [hwk] at q; cases q)
  | true =>
    obtain ⟨t, ht⟩ := works_next hwk
    obtain ⟨t1, t2, t3⟩ := next_lt hL ht
    have hlt := (nDone_ge hT t1).mp t3
    obtain ⟨-, -, h91, -⟩ := hT t t1
    obtain ⟨b1, b2⟩ := by_new hL hwk ht
    have other : ∀ u, u ≠ t → nByK n (i + 1) u = nByK n i u := fun u hu => by_same (by
      rw [ht, hwk, Bool.true_and]
      exact decide_eq_false (fun q => hu (Option.some.inj q).symm))
    have d0 : nDidK n i t = nA n 16 t := by unfold nDidK; rw [b1]; rfl
    have d1 : nDidK n (i + 1) t = nA n 16 t + 1 := by unfold nDidK; rw [b2]; rfl
    have d2 : ∀ u, u ≠ t → nDidK n (i + 1) u = nDidK n i u := fun u hu => by unfold nDidK; rw [other u hu]
    have x7 : ∀ u, u ≠ t → nX17K n (i + 1) u = nX17K n i u := fun u hu => by unfold nX17K; rw [other u hu]
    have x8 : ∀ u, u ≠ t → nX18K n (i + 1) u = nX18K n i u := fun u hu => by unfold nX18K; rw [other u hu]
    have g10 : (yA (sw1 y' i) 10 i).toNatClampNeg = t := by
      show (yA y' 10 i).toNatClampNeg = t
      rw [e10, ht]
      exact nCl (by omega)
    have gd : yA (sw1 y' i) 16 t = nI (nA n 16 t) := by
      show yA y' 16 t = _
      rw [(a8 t t1).1, d0]
    have g13 : yA (sw1 y' i) 13 t = nI (nA n 13 t) := by
      show yA y' 13 t = _
      rw [a5 13 (by decide) (by decide) (by decide)]
      exact m3 t t1
    have e4 : ¬ ¬ yA (sw1 y' i) 11 i = nI 4 := fun q => q (by
      show yA y' 11 i = nI 4
      rw [e11, (deed_4 hC hi).mpr hwk])
    have e0 : ¬ yA (sw1 y' i) 10 i < nI 0 := by
      show ¬ yA y' 10 i < nI 0
      rw [e10, ht]
      exact nI_nlt (Nat.zero_le _) (by omega)
    have u16 : ∀ u, u < nF n 3 → upd (yA (sw1 y' i) 16) t (nI (nA n 16 t) + nI 1) u = nI (nDidK n (i + 1) u) := by
      intro u hu
      show (if u = t then _ else yA y' 16 u) = _
      by_cases e : u = t
      · rw [if_pos e, e, d1, nI_add]
      · rw [if_neg e, d2 u e]; exact (a8 u hu).1
    unfold sw2 wkY
    rw [if_neg e4, if_neg e0, g10, gd, g13, nI_add]
    by_cases hlast : nA n 16 t + 1 < nA n 13 t
    · rw [if_pos ((nI_ltI (by omega) (by omega)).mpr hlast)]
      unfold wk0
      rw [g10, gd]
      refine ⟨⟨a1, a2, a3⟩, a4, fun k k1 k2 k3 => ?_, hw, ?_, fun u hu => ⟨u16 u hu, ?_, ?_⟩⟩
      · show (if k = 16 then _ else yA y' k) = _
        rw [if_neg k1]; exact a5 k k1 k2 k3
      · have : bitsN (fun t => decide (nDidK n (i + 1) t = nA n 13 t)) (nF n 3) = bitsN (fun t => decide (nDidK n i t = nA n 13 t)) (nF n 3) := bitsN_cong fun u hu => by
          by_cases e : u = t
          · rw [e, d0, d1, decide_eq_false (by omega), decide_eq_false (by omega)]
          · rw [d2 u e]
        rw [this]; exact a7
      · show yA y' 17 u = _
        by_cases e : u = t
        · rw [(a8 u hu).2.1, e]; unfold nX17K; rw [b1, b2, decide_eq_false (by omega), Bool.and_false, Bool.and_false]
        · rw [x7 u e]; exact (a8 u hu).2.1
      · show yA y' 18 u = _
        by_cases e : u = t
        · rw [(a8 u hu).2.2, e]; unfold nX18K; rw [b1, b2]; simp only; rw [if_neg (by omega)]
        · rw [x8 u e]; exact (a8 u hu).2.2
    · have hl : nA n 16 t + 1 = nA n 13 t := by omega
      rw [if_neg (fun q => hlast ((nI_ltI (by omega) (by omega)).mp q))]
      unfold wk1 wk0
      have q10 : (yA (uA (sw1 y' i) 16 (upd (yA (sw1 y' i) 16) (yA (sw1 y' i) 10 i).toNatClampNeg (yA (sw1 y' i) 16 (yA (sw1 y' i) 10 i).toNatClampNeg + nI 1))) 10 i).toNatClampNeg = t := g10
      rw [g10, gd]
      have e10s : yA (sw1 y' i) 10 i = nI t := by
        show yA y' 10 i = _
        rw [e10, ht]; rfl
      refine ⟨⟨a1, a2, a3⟩, fun k k6 => ?_, fun k k1 k2 k3 => ?_, hw, ?_, fun u hu => ⟨u16 u hu, ?_, ?_⟩⟩
      · show (if k = 6 then _ else yB y' k) = _
        rw [if_neg k6]; exact a4 k k6
      · show (if k = 18 then _ else if k = 17 then _ else if k = 16 then _ else yA y' k) = _
        rw [if_neg k3, if_neg k2, if_neg k1]; exact a5 k k1 k2 k3
      · show yB y' 6 ||| (nI 1 <<< (yA (sw1 y' i) 10 i &&& 31)) = _
        rw [e10s, a7, i_shl1 (by omega), fa_or]
        congr 1
        refine bitsN_eq (Nat.or_lt_two_pow (bitsN_lt _) (Nat.pow_lt_pow_right (by decide) t1)) fun u hu => ?_
        rw [Nat.testBit_or, bitsN_tb, decide_eq_true hu, Bool.true_and, Nat.testBit_two_pow]
        by_cases e : u = t
        · rw [e, d1, decide_eq_true hl, decide_eq_true rfl, Bool.or_true]
        · rw [d2 u e, decide_eq_false (fun q : t = u => e q.symm), Bool.or_false]
      · show (if u = t then yB y' 4 else yA y' 17 u) = _
        by_cases e : u = t
        · rw [if_pos e, e, a4 4 (by decide), m2]; unfold nX17K; rw [b2, decide_eq_true hl]; rfl
        · rw [if_neg e, x7 u e]; exact (a8 u hu).2.1
      · show (if u = t then nI i else yA y' 18 u) = _
        by_cases e : u = t
        · rw [if_pos e, e]; unfold nX18K; rw [b2]; simp only; rw [if_pos hl]
        · rw [if_neg e, x8 u e]; exact (a8 u hu).2.2
theorem nDid_lt (hT : wfT n) (hL : wfL n) {t : Nat} (ht : t < nF n 3) : nDid n t ≤ nA n 13 t := by
  obtain ⟨-, -, -, -, -, h, -⟩ := hT t ht
  unfold nDid
  split
  · rename_i hs
    obtain ⟨c, hc⟩ := Option.isSome_iff_exists.mp hs
    obtain ⟨-, -, h3⟩ := by_some (i := nF n 2) hc
    have := (nDone_ge hT ht).mp (next_lt hL h3).2.2
    omega
  · exact h
theorem done_stays (hL : wfL n) {u : Nat} (h : nDone n u = true) : nDone (passN n) u = true := by
  have hb : nBy n u = none := by
    cases hb : nBy n u with
    | none => rfl
    | some c =>
      have := (next_lt hL (by_some (i := nF n 2) hb).2.2).2.2
      rw [h] at this; cases this
  show decide (nDid n u = nA n 13 u) = true
  unfold nDid
  rw [hb]
  exact h
theorem free_of {t u : Nat} (hu : u < nF n 3) (hv : nV n t u = true) (h : nFree n t = true) : nDone n u = true := by
  unfold nFree at h
  have := List.all_eq_true.mp h u (List.mem_range.mpr hu)
  rw [hv] at this
  simpa using this
theorem works_of {c t : Nat} (h : nWorks n c = true) (ht : nNext n c = some t) : nK n c = false ∧ nA n 7 c = nA n 12 t ∧ nFree n t = true ∧ calmW (nW n c) = true := by
  unfold nWorks at h
  rw [ht] at h
  simp only [Bool.and_eq_true, Bool.not_eq_true', decide_eq_true_eq] at h
  exact h
theorem pass_D (hT : wfT n) (hL : wfL n) {t : Nat} (ht : t < nF n 3) : ∀ u, nV n t u = true → u < t ∧ (0 < nDid n t → nDone (passN n) u = true) := by
  intro u hu
  have h7 := (hT t ht).2.2.2.2.2.2 u hu
  refine ⟨h7.1, fun h0 => done_stays hL ?_⟩
  unfold nDid at h0
  cases hb : nBy n t with
  | none => rw [hb] at h0; exact h7.2 h0
  | some c =>
    obtain ⟨-, b2, b3⟩ := by_some (i := nF n 2) hb
    exact free_of (by omega) hu (works_of b2 b3).2.2.1
theorem pass_rel (hg : ∀ w b, goodW w → goodW (swF b w)) (hn : wfN n) (hy : RY y n) : RY (passY y) (passN n) ∧ wfN (passN n) ∧ (∀ c, c < nF n 2 → yA (passY y) 11 c = nI (nDeed n c)) ∧ passB y = stirN n := by
  obtain ⟨hF, hC, hT, hL⟩ := id hn
  obtain ⟨⟨f0, f1, f2, f3, f4, f5, f6⟩, ⟨yc, yw⟩, yt, yp⟩ := id hy
  obtain ⟨⟨m1, m2⟩, mz⟩ := mid_rel hn hy
  obtain ⟨z0, z1, z2, z5, z10, z12⟩ := rZ_e m1 mz
  have c4 := hF.1
  have hM : rM (midY y) n := ⟨fun c hc => ⟨z10 c hc, (m2 c hc).2⟩, by
    show yB y 4 + nI 1 = _
    rw [f4, nI_add], fun t ht => by
    obtain ⟨f, g, e⟩ := m1
    show yA (stpY (begY (nxtY y))) 13 t = _
    rw [e]
    exact (yt t ht).2.1⟩
  have hm16 : ∀ k, k ≠ 7 → k ≠ 11 → yA (midY y) k = yA (begY (nxtY y)) k := by
    intro k h1 h2
    obtain ⟨f, g, e⟩ := m1
    show yA (stpY (begY (nxtY y))) k = _
    rw [e]
    show (if k = 11 then g else if k = 7 then f else _) = _
    rw [if_neg h2, if_neg h1]
    rfl
  have h0 : rW (midY y) (midY y) n 0 := by
    refine ⟨⟨rfl, rfl, rfl⟩, fun _ _ => rfl, fun _ _ _ _ => rfl, fun c hc => (if_neg (Nat.not_lt_zero c)).symm, ?_, fun t ht => ?_⟩
    · obtain ⟨f, g, e⟩ := m1
      show yB (stpY (begY (nxtY y))) 6 = _
      rw [e]
      exact f6
    · rw [hm16 16 (by decide) (by decide), hm16 17 (by decide) (by decide), hm16 18 (by decide) (by decide)]
      exact (yt t ht).2.2.2.2
  have hsw : yC (midY y) = nF n 2 := z2
  have hW : rW (midY y) (passY y) n (nF n 2) := by
    show rW (midY y) (iter sw2 0 (yC (midY y)) (midY y)) n (nF n 2)
    rw [hsw]
    exact iter_inv (P := fun i y' => rW (midY y) y' n i) (fun i y' hi h => sw_rel hn hM hi h) (nF n 2) 0 _ (Nat.zero_add _) h0
  obtain ⟨⟨w1, w2, w3⟩, w4, w5, w6, w7, w8⟩ := hW
  have mB : ∀ k, k ≠ 4 → yB (midY y) k = yB y k := by
    intro k hk
    obtain ⟨f, g, e⟩ := m1
    show (if k = 4 then _ else yB (stpY (begY (nxtY y))) k) = _
    rw [if_neg hk, e]
    rfl
  have mW : yW (midY y) = yW y := by
    obtain ⟨f, g, e⟩ := m1
    show yW (stpY (begY (nxtY y))) = _
    rw [e]
    rfl
  have mT : yT (midY y) = yT y ∧ yP (midY y) = yP y := ⟨mid_same.2.1, mid_same.2.2⟩
  have mov : ∀ c, c < nF n 2 → movB (midY y) c = nMoved n c := by
    intro c hc
    have h4 := jN_le (jN_mid hC) hc
    unfold movB nMoved
    rw [(hM.1 c hc).2]
    have h4 : nDeed n c ≤ 4 := h4
    rw [show decide (nI (nDeed n c) = nI 1) = decide (nDeed n c = 1) from decide_eq_decide.mpr (nI_eq (by omega) (by decide)), show decide (nI (nDeed n c) = nI 2) = decide (nDeed n c = 2) from decide_eq_decide.mpr (nI_eq (by omega) (by decide))]
  have jm := jN_mid hC
  have gw : ∀ c, c < 4 → goodW (yW (passY y) c) := by
    intro c hc
    rw [w6 c hc, mW]
    split
    · exact hg _ _ (yw c hc)
    · exact yw c hc
  have yW' : ∀ c, c < nF n 2 → yW (passY y) c = swF (nMoved n c) (nW n c) := by
    intro c hc
    rw [w6 c (by omega), if_pos hc, mW, mov c hc, (yc c hc).2.2]
  have same : ∀ k, k ≠ 7 → k ≠ 10 → k ≠ 11 → k ≠ 16 → k ≠ 17 → k ≠ 18 → yA (passY y) k = yA y k := by
    intro k h7 h10 h11 h16 h17 h18
    rw [w5 k h16 h17 h18, hm16 k h7 h11]
    show (if k = 11 then _ else if k = 10 then _ else yA y k) = _
    rw [if_neg h11, if_neg h10]
  have a7 : ∀ c, c < nF n 2 → yA (passY y) 7 c = nI ((midN n).1 c) := fun c hc => by
    rw [w5 7 (by decide) (by decide) (by decide)]
    exact (m2 c hc).1
  refine ⟨⟨⟨?_, ?_, ?_, ?_, ?_, ?_, ?_⟩, ⟨fun c hc => ⟨a7 c hc, ?_, ?_⟩, gw⟩, fun t ht => ⟨?_, ?_, ?_, ?_, (w8 t ht).1, (w8 t ht).2.1, (w8 t ht).2.2⟩, ?_⟩, ⟨hF, ⟨fun c hc => ⟨jm.1 c hc, (hC.1 c hc).2.1, (hC.1 c hc).2.2.1, ?_⟩, jm.2.1⟩, fun t ht => ?_, hL⟩, ?_, ?_⟩
  · rw [w4 0 (by decide), mB 0 (by decide)]; exact f0
  · rw [w4 1 (by decide), mB 1 (by decide)]; exact f1
  · rw [w1, hsw]; rfl
  · rw [w2, mT.1]; exact f3
  · rw [w4 4 (by decide), hM.2.1]; rfl
  · rw [w4 5 (by decide), mB 5 (by decide)]; exact f5
  · exact w7
  · rw [same 8 (by decide) (by decide) (by decide) (by decide) (by decide) (by decide)]; exact (yc c hc).2.1
  · rw [yW' c hc]
    have hc' : c < nF n 2 := hc
    show _ = if c < nF n 2 then swF (nMoved n c) (nW n c) else nW n c
    rw [if_pos hc']
  · rw [same 12 (by decide) (by decide) (by decide) (by decide) (by decide) (by decide)]; exact (yt t ht).1
  · rw [same 13 (by decide) (by decide) (by decide) (by decide) (by decide) (by decide)]; exact (yt t ht).2.1
  · rw [same 14 (by decide) (by decide) (by decide) (by decide) (by decide) (by decide)]; exact (yt t ht).2.2.1
  · rw [same 15 (by decide) (by decide) (by decide) (by decide) (by decide) (by decide)]; exact (yt t ht).2.2.2.1
  · rw [w3, mT.2]; exact yp
  · show goodW (if c < nF n 2 then swF (nMoved n c) (nW n c) else nW n c)
    have hc' : c < nF n 2 := hc
    rw [if_pos hc']
    exact hg _ _ (hC.1 c hc).2.2.2
  · obtain ⟨h1, h2, h3, h4, h5, h6, h7⟩ := hT t ht
    exact ⟨h1, h2, h3, h4, h5, nDid_lt hT hL ht, pass_D hT hL ht⟩
  · intro c hc
    rw [w5 11 (by decide) (by decide) (by decide)]
    exact (hM.1 c hc).2
  · unfold passB stirW stirB stirN
    rw [iter_any0, iter_any0, hsw, show yC (nxtY y) = nF n 2 from f2]
    congr 1
    · rw [Bool.eq_iff_iff, List.any_eq_true, List.any_eq_true]
      constructor
      · rintro ⟨c, h1, h2⟩; exact ⟨c, h1, by rw [← mov c (List.mem_range.mp h1)]; exact h2⟩
      · rintro ⟨c, h1, h2⟩; exact ⟨c, h1, by rw [mov c (List.mem_range.mp h1)]; exact h2⟩
    · have e : ∀ c, c < nF n 2 → stB (nxtY y) c = (!calmW (nW n c) || nWorks n c) := by
        intro c hc
        unfold stB
        rw [deed_rel hn hy hc]
        congr 1
        · have : yW (nxtY y) c = nW n c := (yc c hc).2.2
          cases hw : calmW (nW n c) with
          | false => exact decide_eq_true (calm_rel.mpr (by rw [this]; exact hw))
          | true => exact decide_eq_false (fun q => by have := calm_rel.mp q; rw [(show yW (nxtY y) c = nW n c from (yc c hc).2.2), hw] at this; cases this)
        · cases hw : nWorks n c with
          | true => exact decide_eq_true (by rw [deed0_4.mpr hw])
          | false => exact decide_eq_false (fun q => by
              have h3 : nDeed0 n c = 4 := (nI_eq (by rcases deed0_le n c with e | e | e <;> omega) (by decide)).mp q
              rw [deed0_4, hw] at h3; cases h3)
      rw [Bool.eq_iff_iff, List.any_eq_true, List.any_eq_true]
      constructor
      · rintro ⟨c, h1, h2⟩; exact ⟨c, h1, by rw [← e c (List.mem_range.mp h1)]; exact h2⟩
      · rintro ⟨c, h1, h2⟩; exact ⟨c, h1, by rw [e c (List.mem_range.mp h1)]; exact h2⟩
end PAS
