/-! a minute of the plain quay: steps -/
theorem iter_inv {α : Type} {P : Nat → α → Prop} {f : Nat → α → α} {N : Nat} (h : ∀ i x, i < N → P i x → P (i + 1) (f i x)) : ∀ m i x, i + m = N → P i x → P N (iter f i m x)
  | 0, i, x, hi, hx => by
    have e : i = N := by omega
    subst e
    exact hx
  | m + 1, i, x, hi, hx => by
    rw [iter]
    exact iter_inv h m (i + 1) _ (by omega) (h i x (by omega) hx)
def jN (n : tN) (s : tD) : Prop := (∀ c, c < nF n 2 → s.1 c < nF n 0) ∧ (∀ c, c + 1 < nF n 2 → s.1 c + nF n 1 ≤ s.1 (c + 1)) ∧
  (∀ c, c < nF n 2 → (s.2 c = 1 ∨ s.2 c = 2) → (s.1 c = nA n 7 c + 1 ∨ s.1 c + 1 = nA n 7 c) ∧ nDeed0 n c ≠ 4 ∧ nK n c = false) ∧
  ∀ c, c < nF n 2 → s.2 c ≠ 1 → s.2 c ≠ 2 → s.1 c = nA n 7 c ∧ s.2 c = nDeed0 n c
theorem deed0_le (n : tN) (c : Nat) : nDeed0 n c = 0 ∨ nDeed0 n c = 3 ∨ nDeed0 n c = 4 := by
  unfold nDeed0
  split
  · exact Or.inr (Or.inr rfl)
  · split
    · exact Or.inl rfl
    · exact Or.inr (Or.inl rfl)
theorem deed0_3 {n : tN} {c : Nat} (h : nDeed0 n c = 3) : nK n c = false ∧ (nNext n c).isNone = false := by
  unfold nDeed0 at h
  split at h
  · cases h
  · split at h
    · cases h
    · rename_i h2
      rw [Bool.or_eq_true, not_or] at h2
      exact ⟨by simpa using h2.1, by cases hx : (nNext n c).isNone with | true => exact absurd hx h2.2 | false => rfl⟩
theorem deed0_4 {n : tN} {c : Nat} : nDeed0 n c = 4 ↔ nWorks n c = true := by
  unfold nDeed0
  constructor
  · intro h
    split at h
    · assumption
    · split at h <;> cases h
  · intro h; rw [if_pos h]
theorem jN_le {n : tN} {s : tD} (h : jN n s) {c : Nat} (hc : c < nF n 2) : s.2 c ≤ 4 := by
  by_cases h1 : s.2 c = 1
  · omega
  · by_cases h2 : s.2 c = 2
    · omega
    · have := (h.2.2.2 c hc h1 h2).2
      rcases deed0_le n c with e | e | e <;> omega
theorem still_of {n : tN} {s : tD} (h : jN n s) {c : Nat} (hc : c < nF n 2) (hs : nStill n s c = true) : s.1 c = nA n 7 c ∧ nDeed0 n c ≠ 4 ∧ nK n c = false := by
  unfold nStill at hs
  rw [Bool.or_eq_true, Bool.and_eq_true, decide_eq_true_eq, decide_eq_true_eq] at hs
  rcases hs with e | ⟨e, e2⟩
  · have h4 := h.2.2.2 c hc (by omega) (by omega)
    have h3 : nDeed0 n c = 3 := by omega
    exact ⟨h4.1, by omega, (deed0_3 h3).1⟩
  · have h4 := h.2.2.2 c hc (by omega) (by omega)
    exact ⟨h4.1, by omega, by simpa using e2⟩
theorem nUp_some {n : tN} {s : tD} : ∀ k p m, p + k + 1 = nF n 2 → nUp n s k p = some m → 1 ≤ m ∧ p + m ≤ nF n 2 ∧ (∀ i, p ≤ i → i < p + m → nStill n s i = true ∧ s.1 i + 1 < nF n 0) ∧ (p + m < nF n 2 → s.1 (p + m - 1) + 1 + nF n 1 ≤ s.1 (p + m))
  | 0, p, m, hp, h => by
    unfold nUp at h
    split at h
    · rename_i hc
      rw [Bool.and_eq_true, decide_eq_true_eq] at hc
      cases h
      refine ⟨Nat.le_refl _, by omega, fun i h1 h2 => ?_, fun h1 => by omega⟩
      have e : i = p := by omega
      rw [e]
      exact hc
    · cases h
  | k + 1, p, m, hp, h => by
    unfold nUp at h
    split at h
    · rename_i hc
      rw [Bool.and_eq_true, decide_eq_true_eq] at hc
      split at h
      · rename_i hg
        cases h
        refine ⟨Nat.le_refl _, by omega, fun i h1 h2 => ?_, fun h1 => hg⟩
        have e : i = p := by omega
        rw [e]
        exact hc
      · rw [Option.map_eq_some_iff] at h
        obtain ⟨m', hm', rfl⟩ := h
        obtain ⟨h1, h2, h3, h4⟩ := nUp_some k (p + 1) m' (by omega) hm'
        refine ⟨by omega, by omega, fun i g1 g2 => ?_, fun g => ?_⟩
        · by_cases e : i = p
          · rw [e]; exact hc
          · exact h3 i (by omega) (by omega)
        · have h4 := h4 (by omega)
          rw [show p + (m' + 1) = p + 1 + m' by omega]
          exact h4
    · cases h
theorem nDn_some {n : tN} {s : tD} : ∀ p m, nDn n s p = some m → 1 ≤ m ∧ m ≤ p + 1 ∧ (∀ i, i ≤ p → p < i + m → nStill n s i = true ∧ 0 < s.1 i) ∧ (m ≤ p → s.1 (p - m) + nF n 1 + 1 ≤ s.1 (p - m + 1))
  | 0, m, h => by
    unfold nDn at h
    split at h
    · rename_i hc
      rw [Bool.and_eq_true, decide_eq_true_eq] at hc
      cases h
      refine ⟨Nat.le_refl _, by omega, fun i h1 h2 => ?_, fun h1 => by omega⟩
      have e : i = 0 := by omega
      rw [e]
      exact hc
    · cases h
  | q + 1, m, h => by
    unfold nDn at h
    split at h
    · rename_i hc
      rw [Bool.and_eq_true, decide_eq_true_eq] at hc
      split at h
      · rename_i hg
        cases h
        refine ⟨Nat.le_refl _, by omega, fun i h1 h2 => ?_, fun h1 => by simpa using hg⟩
        have e : i = q + 1 := by omega
        rw [e]
        exact hc
      · rw [Option.map_eq_some_iff] at h
        obtain ⟨m', hm', rfl⟩ := h
        obtain ⟨h1, h2, h3, h4⟩ := nDn_some q m' hm'
        refine ⟨by omega, by omega, fun i g1 g2 => ?_, fun g => ?_⟩
        · by_cases e : i = q + 1
          · rw [e]; exact hc
          · exact h3 i (by omega) (by omega)
        · have h4 := h4 (by omega)
          rw [show q + 1 - (m' + 1) = q - m' by omega]
          exact h4
    · cases h
theorem jN_up {n : tN} {s : tD} {c m : Nat} (h : jN n s) (hc : c < nF n 2) (hm : nUp n s (nF n 2 - 1 - c) c = some m) : jN n (mvUp c m s) := by
  obtain ⟨g1, g2, g3, g4⟩ := nUp_some _ _ _ (by omega) hm
  have hs := fun i h1 h2 => still_of h (c := i) (by omega) (g3 i h1 h2).1
  obtain ⟨h1, h2, h3, h4⟩ := h
  refine ⟨fun i hi => ?_, fun i hi => ?_, fun i hi => ?_, fun i hi => ?_⟩
  · show (if c ≤ i ∧ i < c + m then s.1 i + 1 else s.1 i) < _
    split
    · exact (g3 i (by omega) (by omega)).2
    · exact h1 i hi
  · show (if c ≤ i ∧ i < c + m then s.1 i + 1 else s.1 i) + _ ≤ (if c ≤ i + 1 ∧ i + 1 < c + m then s.1 (i + 1) + 1 else s.1 (i + 1))
    have := h2 i hi
    by_cases a1 : c ≤ i ∧ i < c + m
    · rw [if_pos a1]
      by_cases a2 : c ≤ i + 1 ∧ i + 1 < c + m
      · rw [if_pos a2]; omega
      · rw [if_neg a2]
        have g4 := g4 (by omega)
        rw [show c + m - 1 = i by omega, show c + m = i + 1 by omega] at g4
        exact g4
    · rw [if_neg a1]
      split <;> omega
  · show ((if c ≤ i ∧ i < c + m then (if i = c then 1 else 2) else s.2 i) = 1 ∨ (if c ≤ i ∧ i < c + m then (if i = c then 1 else 2) else s.2 i) = 2) → ((if c ≤ i ∧ i < c + m then s.1 i + 1 else s.1 i) = _ ∨ (if c ≤ i ∧ i < c + m then s.1 i + 1 else s.1 i) + 1 = _) ∧ _
    by_cases a1 : c ≤ i ∧ i < c + m
    · rw [if_pos a1, if_pos a1]
      intro _
      obtain ⟨e1, e2, e3⟩ := hs i a1.1 a1.2
      exact ⟨Or.inl (by omega), e2, e3⟩
    · rw [if_neg a1, if_neg a1]
      exact h3 i hi
  · show (if c ≤ i ∧ i < c + m then (if i = c then 1 else 2) else s.2 i) ≠ 1 → (if c ≤ i ∧ i < c + m then (if i = c then 1 else 2) else s.2 i) ≠ 2 → (if c ≤ i ∧ i < c + m then s.1 i + 1 else s.1 i) = _ ∧ (if c ≤ i ∧ i < c + m then (if i = c then 1 else 2) else s.2 i) = _
    by_cases a1 : c ≤ i ∧ i < c + m
    · rw [if_pos a1, if_pos a1]
      intro b1 b2
      by_cases a2 : i = c
      · rw [if_pos a2] at b1; exact absurd rfl b1
      · rw [if_neg a2] at b2; exact absurd rfl b2
    · rw [if_neg a1, if_neg a1]
      exact h4 i hi
theorem jN_dn {n : tN} {s : tD} {c m : Nat} (h : jN n s) (hc : c < nF n 2) (hm : nDn n s c = some m) : jN n (mvDn c m s) := by
  obtain ⟨g1, g2, g3, g4⟩ := nDn_some _ _ hm
  have hs := fun i h1 h2 => still_of h (c := i) (by omega) (g3 i h1 h2).1
  obtain ⟨h1, h2, h3, h4⟩ := h
  refine ⟨fun i hi => ?_, fun i hi => ?_, fun i hi => ?_, fun i hi => ?_⟩
  · show (if i ≤ c ∧ c < i + m then s.1 i - 1 else s.1 i) < _
    have := h1 i hi
    split <;> omega
  · show (if i ≤ c ∧ c < i + m then s.1 i - 1 else s.1 i) + _ ≤ (if i + 1 ≤ c ∧ c < i + 1 + m then s.1 (i + 1) - 1 else s.1 (i + 1))
    have := h2 i hi
    by_cases a2 : i + 1 ≤ c ∧ c < i + 1 + m
    · rw [if_pos a2]
      have p1 := (g3 (i + 1) a2.1 a2.2).2
      by_cases a1 : i ≤ c ∧ c < i + m
      · rw [if_pos a1]
        have p2 := (g3 i a1.1 a1.2).2
        omega
      · rw [if_neg a1]
        have g4 := g4 (by omega)
        rw [show c - m = i by omega] at g4
        omega
    · rw [if_neg a2]
      split <;> omega
  · show ((if i ≤ c ∧ c < i + m then (if i = c then 1 else 2) else s.2 i) = 1 ∨ (if i ≤ c ∧ c < i + m then (if i = c then 1 else 2) else s.2 i) = 2) → ((if i ≤ c ∧ c < i + m then s.1 i - 1 else s.1 i) = _ ∨ (if i ≤ c ∧ c < i + m then s.1 i - 1 else s.1 i) + 1 = _) ∧ _
    by_cases a1 : i ≤ c ∧ c < i + m
    · rw [if_pos a1, if_pos a1]
      intro _
      obtain ⟨e1, e2, e3⟩ := hs i a1.1 a1.2
      have p1 := (g3 i a1.1 a1.2).2
      exact ⟨Or.inr (by omega), e2, e3⟩
    · rw [if_neg a1, if_neg a1]
      exact h3 i hi
  · show (if i ≤ c ∧ c < i + m then (if i = c then 1 else 2) else s.2 i) ≠ 1 → (if i ≤ c ∧ c < i + m then (if i = c then 1 else 2) else s.2 i) ≠ 2 → (if i ≤ c ∧ c < i + m then s.1 i - 1 else s.1 i) = _ ∧ (if i ≤ c ∧ c < i + m then (if i = c then 1 else 2) else s.2 i) = _
    by_cases a1 : i ≤ c ∧ c < i + m
    · rw [if_pos a1, if_pos a1]
      intro b1 b2
      by_cases a2 : i = c
      · rw [if_pos a2] at b1; exact absurd rfl b1
      · rw [if_neg a2] at b2; exact absurd rfl b2
    · rw [if_neg a1, if_neg a1]
      exact h4 i hi
theorem jN_step {n : tN} {s : tD} {c : Nat} (h : jN n s) (hc : c < nF n 2) : jN n (nStep n c s) := by
  unfold nStep
  split
  · split
    · split
      · exact h
      · split
        · split
          · exact jN_up h hc (by assumption)
          · exact h
        · split
          · exact jN_dn h hc (by assumption)
          · exact h
    · exact h
  · exact h
theorem jN_0 {n : tN} (hC : wfC n) : jN n (nA n 7, nDeed0 n) := by
  refine ⟨fun c hc => (hC.1 c hc).1, hC.2, fun c hc h => ?_, fun c hc _ _ => ⟨rfl, rfl⟩⟩
  have h : nDeed0 n c = 1 ∨ nDeed0 n c = 2 := h
  rcases deed0_le n c with e | e | e <;> omega
theorem jN_mid {n : tN} (hC : wfC n) : jN n (midN n) := iter_inv (P := fun _ s => jN n s) (fun i x hi hx => jN_step hx hi) (nF n 2) 0 _ (Nat.zero_add _) (jN_0 hC)
/-- the cells go along -/
def rSt (z y : tY) (n : tN) (s : tD) : Prop := eqS z y ∧ ∀ c, c < nF n 2 → yA y 7 c = nI (s.1 c) ∧ yA y 11 c = nI (s.2 c)
def rZ (z : tY) (n : tN) : Prop := yB z 0 = nI (nF n 0) ∧ yB z 1 = nI (nF n 1) ∧ yC z = nF n 2 ∧ yB z 5 = nI (bitsN (nK n) (nF n 2)) ∧ (∀ c, c < nF n 2 → yA z 10 c = oI1 (nNext n c)) ∧ ∀ t, t < nF n 3 → yA z 12 t = nI (nA n 12 t)
theorem rZ_e {z y : tY} {n : tN} (e : eqS z y) (h : rZ z n) : rZ y n := by
  obtain ⟨f, g, rfl⟩ := e
  exact h
section RST
variable {z y : tY} {n : tN} {s : tD}
theorem still_rel (hF : wfF n) (hz : rZ z n) (h : rSt z y n s) (hj : jN n s) {p : Nat} (hp : p < nF n 2) : stillB y p = nStill n s p := by
  have h4 := jN_le hj hp
  obtain ⟨-, -, -, z5, -, -⟩ := rZ_e h.1 hz
  unfold stillB nStill
  rw [(h.2 p hp).2, z5]
  have e3 : decide (nI (s.2 p) = nI 3) = decide (s.2 p = 3) := decide_eq_decide.mpr (nI_eq (by omega) (by decide))
  have e0 : decide (nI (s.2 p) = nI 0) = decide (s.2 p = 0) := decide_eq_decide.mpr (nI_eq (by omega) (by decide))
  have eb : decide (bitS (nI (bitsN (nK n) (nF n 2))) (nI p) = nI 0) = !nK n p := by
    cases hk : nK n p with
    | false => exact decide_eq_true ((bit_brk hF hp).mpr hk)
    | true => exact decide_eq_false (fun q => by rw [(bit_brk hF hp).mp q] at hk; cases hk)
  rw [e3, e0, eb]
theorem roomU_rel (hF : wfF n) (hz : rZ z n) (h : rSt z y n s) (hj : jN n s) {p : Nat} (hp : p < nF n 2) : roomB y (nI 1) p = decide (s.1 p + 1 < nF n 0) := by
  have h1 := hj.1 p hp
  obtain ⟨f1, f2, f3, f4, f5, f6⟩ := hF
  obtain ⟨z0, -⟩ := rZ_e h.1 hz
  unfold roomB
  rw [(h.2 p hp).1, z0, nI_add, decide_eq_true (nI_le (Nat.zero_le _) (by omega)), Bool.true_and]
  exact decide_eq_decide.mpr (nI_ltI (by omega) (by omega))
theorem roomD_rel (hF : wfF n) (hz : rZ z n) (h : rSt z y n s) (hj : jN n s) {p : Nat} (hp : p < nF n 2) : roomB y (-1) p = decide (0 < s.1 p) := by
  have h1 := hj.1 p hp
  obtain ⟨f1, f2, f3, f4, f5, f6⟩ := hF
  obtain ⟨z0, -⟩ := rZ_e h.1 hz
  unfold roomB
  rw [(h.2 p hp).1, z0]
  by_cases e : s.1 p = 0
  · rw [e]
    rfl
  · obtain ⟨q, hq⟩ : ∃ q, s.1 p = q + 1 := ⟨s.1 p - 1, by omega⟩
    rw [hq, pk_m1, decide_eq_true (nI_le (Nat.zero_le _) (by omega)), decide_eq_true (nI_lt (by omega) (by omega)), decide_eq_true (Nat.succ_pos q)]
    rfl
theorem freeU_rel (hF : wfF n) (hz : rZ z n) (h : rSt z y n s) (hj : jN n s) {p : Nat} (hp : p + 1 < nF n 2) : freeB y (nI 1) p (p + 1) = decide (s.1 p + 1 + nF n 1 ≤ s.1 (p + 1)) := by
  have h1 := hj.1 (p + 1) hp
  have h2 := hj.2.1 p hp
  obtain ⟨f1, f2, f3, f4, f5, f6⟩ := hF
  obtain ⟨-, z1, -⟩ := rZ_e h.1 hz
  unfold freeB
  rw [(h.2 p (by omega)).1, (h.2 (p + 1) hp).1, z1, nI_add, pk_sub (by omega), pk_mul, Nat.mul_one]
  refine decide_eq_decide.mpr ((nI_leI (by omega) (by omega)).trans ?_)
  omega
theorem freeD_rel (hF : wfF n) (hz : rZ z n) (h : rSt z y n s) (hj : jN n s) {q : Nat} (hq : q + 1 < nF n 2) : freeB y (-1) (q + 1) q = decide (s.1 q + nF n 1 + 1 ≤ s.1 (q + 1)) := by
  have h1 := hj.1 (q + 1) hq
  have h2 := hj.2.1 q hq
  obtain ⟨f1, f2, f3, f4, f5, f6⟩ := hF
  obtain ⟨-, z1, -⟩ := rZ_e h.1 hz
  unfold freeB
  obtain ⟨b, hb⟩ : ∃ b, s.1 (q + 1) = b + 1 := ⟨s.1 (q + 1) - 1, by omega⟩
  rw [(h.2 q (by omega)).1, (h.2 (q + 1) hq).1, z1, hb, pk_m1, Int32.mul_neg, Int32.mul_one, Int32.neg_sub, pk_sub (by omega)]
  refine decide_eq_decide.mpr ((nI_leI (by omega) (by omega)).trans ?_)
  omega
theorem pushU_rel (hF : wfF n) (hz : rZ z n) (h : rSt z y n s) (hj : jN n s) : ∀ k p m, p + k + 1 = nF n 2 → pushU y k p m = (nUp n s k p).map (· + m)
  | 0, p, m, hp => by
    unfold pushU nUp goB
    rw [still_rel hF hz h hj (by omega), roomU_rel hF hz h hj (by omega)]
    split
    · show some _ = some _; rw [Nat.add_comm]
    · rfl
  | k + 1, p, m, hp => by
    unfold pushU nUp goB
    rw [still_rel hF hz h hj (by omega), roomU_rel hF hz h hj (by omega), freeU_rel hF hz h hj (by omega)]
    split
    · by_cases e : s.1 p + 1 + nF n 1 ≤ s.1 (p + 1)
      · rw [if_pos (decide_eq_true e), if_pos e]; show some _ = some _; rw [Nat.add_comm]
      · rw [if_neg (by rw [decide_eq_false e]; decide), if_neg e, pushU_rel hF hz h hj k (p + 1) (m + 1) (by omega)]
        cases nUp n s k (p + 1) with
        | none => rfl
        | some v => show some (v + (m + 1)) = some (v + 1 + m); congr 1; omega
    · rfl
theorem pushD_rel (hF : wfF n) (hz : rZ z n) (h : rSt z y n s) (hj : jN n s) : ∀ p m, p < nF n 2 → pushD y p m = (nDn n s p).map (· + m)
  | 0, m, hp => by
    unfold pushD nDn goB
    rw [still_rel hF hz h hj (by omega), roomD_rel hF hz h hj (by omega)]
    split
    · show some _ = some _; rw [Nat.add_comm]
    · rfl
  | q + 1, m, hp => by
    unfold pushD nDn goB
    rw [still_rel hF hz h hj (by omega), roomD_rel hF hz h hj (by omega), freeD_rel hF hz h hj (by omega)]
    split
    · by_cases e : s.1 q + nF n 1 + 1 ≤ s.1 (q + 1)
      · rw [if_pos (decide_eq_true e), if_pos e]; show some _ = some _; rw [Nat.add_comm]
      · rw [if_neg (by rw [decide_eq_false e]; decide), if_neg e, pushD_rel hF hz h hj q (m + 1) (by omega)]
        cases nDn n s q with
        | none => rfl
        | some v => show some (v + (m + 1)) = some (v + 1 + m); congr 1; omega
    · rfl
theorem mvU_it {w : Int32} {c i : Nat} : ∀ m j y, yA (iter (fun j y => mvS w (c + j) j y) j m y) 7 i = (if c + j ≤ i ∧ i < c + j + m then yA y 7 i + w else yA y 7 i) ∧ yA (iter (fun j y => mvS w (c + j) j y) j m y) 11 i = if c + j ≤ i ∧ i < c + j + m then (if i = c then nI 1 else nI 2) else yA y 11 i
  | 0, j, y => by rw [iter, if_neg (by omega), if_neg (by omega)]; exact ⟨rfl, rfl⟩
  | m + 1, j, y => by
    rw [iter]
    obtain ⟨h1, h2⟩ := mvU_it (w := w) (c := c) (i := i) m (j + 1) (mvS w (c + j) j y)
    rw [h1, h2]
    have e7 : yA (mvS w (c + j) j y) 7 i = if i = c + j then yA y 7 (c + j) + w else yA y 7 i := rfl
    have e11 : yA (mvS w (c + j) j y) 11 i = if i = c + j then (if j = 0 then nI 1 else nI 2) else yA y 11 i := rfl
    rw [e7, e11]
    constructor
    · repeat' split
      all_goals first | rfl | (exfalso; omega) | (simp only [*]; done)
    · repeat' split
      all_goals first | rfl | (exfalso; omega)
theorem mvD_it {w : Int32} {c i : Nat} : ∀ m j y, j + m ≤ c + 1 → yA (iter (fun j y => mvS w (c - j) j y) j m y) 7 i = (if i + j ≤ c ∧ c < i + j + m then yA y 7 i + w else yA y 7 i) ∧ yA (iter (fun j y => mvS w (c - j) j y) j m y) 11 i = if i + j ≤ c ∧ c < i + j + m then (if i = c then nI 1 else nI 2) else yA y 11 i
  | 0, j, y, hj => by rw [iter, if_neg (by omega), if_neg (by omega)]; exact ⟨rfl, rfl⟩
  | m + 1, j, y, hj => by
    rw [iter]
    obtain ⟨h1, h2⟩ := mvD_it (w := w) (c := c) (i := i) m (j + 1) (mvS w (c - j) j y) (by omega)
    rw [h1, h2]
    have e7 : yA (mvS w (c - j) j y) 7 i = if i = c - j then yA y 7 (c - j) + w else yA y 7 i := rfl
    have e11 : yA (mvS w (c - j) j y) 11 i = if i = c - j then (if j = 0 then nI 1 else nI 2) else yA y 11 i := rfl
    rw [e7, e11]
    constructor
    · repeat' split
      all_goals first | rfl | (exfalso; omega) | (simp only [*]; done)
    · repeat' split
      all_goals first | rfl | (exfalso; omega)
theorem step_rel (hF : wfF n) (hz : rZ z n) (hL : wfL n) (hT : wfT n) (h : rSt z y n s) (hj : jN n s) {c : Nat} (hc : c < nF n 2) : rSt z (stp1 c y) n (nStep n c s) := by
  have h4 := jN_le hj hc
  obtain ⟨z0, z1, z2, z5, z10, z12⟩ := rZ_e h.1 hz
  have e1 : eqS z (stp1 c y) := eqS_t h.1 eqS_1
  refine ⟨e1, ?_⟩
  unfold stp1 nStep
  by_cases h3 : s.2 c = 3
  · rw [if_pos (show yA y 11 c = nI 3 by rw [(h.2 c hc).2, h3]), if_pos h3]
    unfold stepY
    rw [z10 c hc]
    cases hn : nNext n c with
    | none =>
      rw [if_pos (show oI1 none < nI 0 by decide)]
      exact h.2
    | some t =>
      obtain ⟨ht, -, -⟩ := next_lt hL hn
      have ht8 := hF.2.1
      have hs := (hT t ht).1
      have hb := hF.2.2.2.1
      have hp := hj.1 c hc
      show ∀ i, i < nF n 2 → yA (if nI t < nI 0 then y else if yA y 12 (nI t).toNatClampNeg = yA y 7 c then y else if yA y 7 c < yA y 12 (nI t).toNatClampNeg then stepU y c else stepD y c) 7 i = _ ∧ yA (if nI t < nI 0 then y else if yA y 12 (nI t).toNatClampNeg = yA y 7 c then y else if yA y 7 c < yA y 12 (nI t).toNatClampNeg then stepU y c else stepD y c) 11 i = _
      rw [if_neg (nI_nlt (Nat.zero_le _) (by omega)), nCl (by omega), z12 t ht, (h.2 c hc).1]
      simp only
      by_cases c1 : nA n 12 t = s.1 c
      · rw [if_pos (by rw [c1]), if_pos c1]
        exact h.2
      · rw [if_neg (fun q => c1 ((nI_eq (by omega) (by omega)).mp q)), if_neg c1]
        by_cases c2 : s.1 c < nA n 12 t
        · rw [if_pos ((nI_ltI (by omega) (by omega)).mpr c2), if_pos c2]
          unfold stepU
          rw [z2, pushU_rel hF hz h hj (nF n 2 - 1 - c) c 0 (by omega)]
          cases nUp n s (nF n 2 - 1 - c) c with
          | none => exact h.2
          | some m =>
            intro i hi
            obtain ⟨q1, q2⟩ := mvU_it (w := nI 1) (c := c) (i := i) m 0 y
            refine ⟨q1.trans ?_, q2.trans ?_⟩
            · rw [(h.2 i hi).1, Nat.add_zero]
              show _ = nI (if c ≤ i ∧ i < c + m then s.1 i + 1 else s.1 i)
              split
              · exact nI_add _ _
              · rfl
            · rw [(h.2 i hi).2, Nat.add_zero]
              show _ = nI (if c ≤ i ∧ i < c + m then (if i = c then 1 else 2) else s.2 i)
              split
              · split <;> rfl
              · rfl
        · rw [if_neg (fun q => c2 ((nI_ltI (by omega) (by omega)).mp q)), if_neg c2]
          unfold stepD
          rw [pushD_rel hF hz h hj c 0 hc]
          cases hd : nDn n s c with
          | none => exact h.2
          | some m =>
            obtain ⟨-, d2, d3, -⟩ := nDn_some _ _ hd
            intro i hi
            obtain ⟨q1, q2⟩ := mvD_it (w := -1) (c := c) (i := i) m 0 y (by omega)
            refine ⟨q1.trans ?_, q2.trans ?_⟩
            · rw [(h.2 i hi).1, Nat.add_zero]
              show _ = nI (if i ≤ c ∧ c < i + m then s.1 i - 1 else s.1 i)
              by_cases a : i ≤ c ∧ c < i + m
              · rw [if_pos a, if_pos a]
                have := (d3 i a.1 a.2).2
                obtain ⟨b, hb⟩ : ∃ b, s.1 i = b + 1 := ⟨s.1 i - 1, by omega⟩
                rw [hb, pk_m1]
                rfl
              · rw [if_neg a, if_neg a]
            · rw [(h.2 i hi).2, Nat.add_zero]
              show _ = nI (if i ≤ c ∧ c < i + m then (if i = c then 1 else 2) else s.2 i)
              split
              · split <;> rfl
              · rfl
  · rw [if_neg (fun q => h3 (by rw [(h.2 c hc).2] at q; exact (nI_eq (by omega) (by decide)).mp q)), if_neg h3]
    exact h.2
end RST
