/-! floats that are not negative: their worth, in the least unit -/
def fsig (n : Nat) : Nat := if n < 8388608 then n else 8388608 + n % 8388608
def fex (n : Nat) : Nat := n / 8388608 - 1
def fv (n : Nat) : Nat := fsig n * 2 ^ fex n
theorem fv_sub {n : Nat} (h : n < 8388608) : fv n = n := by
  unfold fv fsig fex
  rw [if_pos h, Nat.div_eq_of_lt h]
  exact Nat.mul_one n
theorem fv_nor {n : Nat} (h : 8388608 ≤ n) : fv n = (8388608 + n % 8388608) * 2 ^ (n / 8388608 - 1) := by
  unfold fv fsig fex
  rw [if_neg (by omega)]
theorem fv_step (n : Nat) : fv n < fv (n + 1) := by
  by_cases h1 : n + 1 < 8388608
  · rw [fv_sub h1, fv_sub (by omega)]; omega
  · by_cases h2 : n < 8388608
    · rw [fv_sub h2, fv_nor (by omega), show (n + 1) % 8388608 = 0 by omega, show (n + 1) / 8388608 - 1 = 0 by omega]
      omega
    · rw [fv_nor (by omega), fv_nor (by omega)]
      by_cases h3 : n % 8388608 + 1 < 8388608
      · rw [show (n + 1) / 8388608 = n / 8388608 by omega, show (n + 1) % 8388608 = n % 8388608 + 1 by omega]
        exact Nat.mul_lt_mul_of_pos_right (by omega) (Nat.two_pow_pos _)
      · obtain ⟨k, hk⟩ : ∃ k, n / 8388608 = k + 1 := ⟨n / 8388608 - 1, by omega⟩
        rw [show (n + 1) / 8388608 - 1 = k + 1 by omega, show (n + 1) % 8388608 = 0 by omega, hk, Nat.add_sub_cancel, Nat.pow_succ, show n % 8388608 = 8388607 by omega]
        have := Nat.two_pow_pos k
        omega
theorem fv_up {a : Nat} : ∀ d, fv a < fv (a + 1 + d)
  | 0 => fv_step a
  | d + 1 => Nat.lt_trans (fv_up d) (fv_step _)
theorem fv_lt {a b : Nat} : fv a < fv b ↔ a < b := by
  constructor
  · intro h
    rcases Nat.lt_or_ge a b with e | e
    · exact e
    · rcases Nat.lt_or_ge b a with e2 | e2
      · have := fv_up (a := b) (a - b - 1)
        rw [show b + 1 + (a - b - 1) = a by omega] at this
        omega
      · have e3 : a = b := by omega
        rw [e3] at h
        omega
  · intro h
    have := fv_up (a := a) (b - a - 1)
    rw [show a + 1 + (b - a - 1) = b by omega] at this
    exact this
theorem fv_le {a b : Nat} : fv a ≤ fv b ↔ a ≤ b := by
  rw [← Nat.not_lt, fv_lt, Nat.not_lt]
theorem fv_inj {a b : Nat} (h : fv a = fv b) : a = b := by
  have h1 := fv_le.mp (Nat.le_of_eq h)
  have h2 := fv_le.mp (Nat.le_of_eq h.symm)
  omega
theorem dec_n {n : Nat} (h : n < 2139095040) : FP.Core.decode FP.Core.b32 n = .fin false (fsig n) (-149 + (fex n : Int)) := by
  have e1 : FP.Core.fieldE FP.Core.b32 n = n / 8388608 := by
    show n / 8388608 % 256 = _
    omega
  have e2 : FP.Core.fieldT FP.Core.b32 n = n % 8388608 := rfl
  have e3 : FP.Core.fieldS FP.Core.b32 n = false := by
    show (n / 8388608 / 256 % 2 == 1) = false
    rw [show n / 8388608 / 256 % 2 = 0 by omega]
    rfl
  unfold FP.Core.decode
  rw [e1, e2, e3, if_neg (show ¬ n / 8388608 = FP.Core.b32.exps - 1 from (show ¬ n / 8388608 = 255 by omega))]
  unfold fsig fex
  by_cases h1 : n < 8388608
  · rw [if_pos (by omega), if_pos h1, show n / 8388608 - 1 = 0 by omega, show n % 8388608 = n by omega]
    rfl
  · rw [if_neg (by omega), if_neg h1]
    show FP.Core.Datum.fin false (8388608 + n % 8388608) (-149 + ((n / 8388608 : Nat) - 1 : Int)) = _
    congr 2
    omega
theorem enc_n {c k : Nat} (hc : c < 16777216) (h : k = 0 ∨ 8388608 ≤ c) (hk : k ≤ 253) : ∃ m, FP.Core.encode FP.Core.b32 (.fin false c (-149 + (k : Int))) = m ∧ m < 2139095040 ∧ fv m = c * 2 ^ k := by
  unfold FP.Core.encode
  by_cases h1 : c < 8388608
  · have hk0 : k = 0 := by omega
    refine ⟨c, ?_, by omega, ?_⟩
    · show (if c < 8388608 then (0 * 256 + 0) * 8388608 + c else _) = c
      rw [if_pos h1]
      omega
    · rw [fv_sub h1, hk0]
      exact (Nat.mul_one c).symm
  · refine ⟨(k + 1) * 8388608 + (c - 8388608), ?_, by omega, ?_⟩
    · show (if c < 8388608 then _ else (0 * 256 + ((-149 + (k : Int) - -149).toNat + 1)) * 8388608 + (c - 8388608)) = _
      rw [if_neg h1, show (-149 + (k : Int) - -149).toNat = k by omega]
      omega
    · rw [fv_nor (by omega), show ((k + 1) * 8388608 + (c - 8388608)) % 8388608 = c - 8388608 by omega, show ((k + 1) * 8388608 + (c - 8388608)) / 8388608 - 1 = k by omega, show 8388608 + (c - 8388608) = c by omega]
/-! rounding -/
theorem near_scale {a b s : Nat} (hs : 0 < s) : FP.Core.nearest (a * s) (b * s) = FP.Core.nearest a b := by
  unfold FP.Core.nearest
  rw [Nat.mul_mod_mul_right, Nat.mul_div_mul_right _ _ hs]
  have e1 : (2 * (a % b * s) < b * s) = (2 * (a % b) < b) := by
    rw [← Nat.mul_assoc]; exact propext (Nat.mul_lt_mul_right hs)
  have e2 : (b * s < 2 * (a % b * s)) = (b < 2 * (a % b)) := by
    rw [← Nat.mul_assoc]; exact propext (Nat.mul_lt_mul_right hs)
  simp only [e1, e2]
theorem near_dvd {m d : Nat} (hd : 0 < d) : FP.Core.nearest (m * d) d = m := by
  unfold FP.Core.nearest
  rw [Nat.mul_mod_left, Nat.mul_div_cancel _ hd, if_pos (by omega)]
theorem near_le {u m d : Nat} (hd : 0 < d) (h : u ≤ m * d) : FP.Core.nearest u d ≤ m := by
  have h1 : u / d ≤ m := Nat.div_le_of_le_mul (by rw [Nat.mul_comm]; exact h)
  by_cases e : u / d = m
  · have h2 := Nat.div_add_mod u d
    rw [e, Nat.mul_comm] at h2
    unfold FP.Core.nearest
    rw [e, show u % d = 0 by omega, if_pos (by omega)]
    exact Nat.le_refl m
  · unfold FP.Core.nearest
    split
    · omega
    · split <;> omega
theorem near_ge {u m d : Nat} (hd : 0 < d) (h : m * d ≤ u) : m ≤ FP.Core.nearest u d := by
  have h1 : m ≤ u / d := (Nat.le_div_iff_mul_le hd).mpr h
  unfold FP.Core.nearest
  split
  · exact h1
  · split <;> omega
theorem log_mul {c k : Nat} (hc : 0 < c) : (c * 2 ^ k).log2 = c.log2 + k := by
  have h0 : c * 2 ^ k ≠ 0 := by have := Nat.mul_pos hc (Nat.two_pow_pos k); omega
  apply Nat.le_antisymm
  · have h1 : (c * 2 ^ k).log2 < c.log2 + k + 1 := (Nat.log2_lt h0).mpr (by
      rw [Nat.add_right_comm, Nat.pow_add]
      exact Nat.mul_lt_mul_of_pos_right ((Nat.log2_lt (by omega)).mp (Nat.lt_succ_self _)) (Nat.two_pow_pos k))
    omega
  · refine (Nat.le_log2 h0).mpr ?_
    rw [Nat.pow_add]
    exact Nat.mul_le_mul_right _ ((Nat.le_log2 (by omega)).mp (Nat.le_refl _))
def rL (U : Nat) : Nat := max 64 (U.log2 - 23)
def rN (U : Nat) : Nat := FP.Core.nearest U (2 ^ rL U) * 2 ^ (rL U - 64)
theorem rL_64 (U : Nat) : 64 ≤ rL U := Nat.le_max_left _ _
theorem rN_0 : rN 0 = 0 := by decide +kernel
theorem round_v {c : Nat} {q : Int} (hc : 0 < c) {k : Nat} (hq : q = -213 + (k : Int)) (hU : (c * 2 ^ k).log2 ≤ 338) : ∃ m, FP.Core.encode FP.Core.b32 (FP.Core.round FP.Core.b32 (.fin false c q)) = m ∧ m < 2139095040 ∧ fv m = rN (c * 2 ^ k) := by
  subst hq
  have hl := log_mul (k := k) hc
  have hU0 : c * 2 ^ k ≠ 0 := by have := Nat.mul_pos hc (Nat.two_pow_pos k); omega
  have hL : rL (c * 2 ^ k) ≤ 315 := by unfold rL; omega
  have hL64 := rL_64 (c * 2 ^ k)
  have hlead : FP.Core.leading c 1 = (c.log2 : Int) := by
    unfold FP.Core.leading
    show (if 1 * 2 ^ ((c.log2 : Int) - ((1 : Nat).log2 : Int)).toNat ≤ c * 2 ^ (-((c.log2 : Int) - ((1 : Nat).log2 : Int))).toNat then _ else _) = _
    rw [show (1 : Nat).log2 = 0 by decide, show ((c.log2 : Int) - ((0 : Nat) : Int)) = (c.log2 : Int) by omega, show (-(c.log2 : Int)).toNat = 0 by omega, Int.toNat_natCast, if_pos (by
      rw [Nat.one_mul, Nat.pow_zero, Nat.mul_one]
      exact (Nat.le_log2 (by omega)).mp (Nat.le_refl _))]
  have hQ : FP.Core.quantum FP.Core.b32 c 1 (-213 + (k : Int)) = -213 + (rL (c * 2 ^ k) : Int) := by
    unfold FP.Core.quantum
    rw [hlead]
    show max (-149 : Int) ((c.log2 : Int) + (-213 + (k : Int)) - (24 - 1)) = _
    unfold rL
    rw [hl]
    omega
  have hN : FP.Core.nearest (FP.Core.unitsNum c (-213 + (k : Int)) (-213 + (rL (c * 2 ^ k) : Int))) (FP.Core.unitsDen 1 (-213 + (k : Int)) (-213 + (rL (c * 2 ^ k) : Int))) = FP.Core.nearest (c * 2 ^ k) (2 ^ rL (c * 2 ^ k)) := by
    generalize rL (c * 2 ^ k) = L
    unfold FP.Core.unitsNum FP.Core.unitsDen
    rw [show (-213 + (k : Int) - (-213 + (L : Int))).toNat = k - L by omega, show (-213 + (L : Int) - (-213 + (k : Int))).toNat = L - k by omega, Nat.one_mul]
    have e := near_scale (a := c * 2 ^ (k - L)) (b := 2 ^ (L - k)) (s := 2 ^ min k L) (Nat.two_pow_pos _)
    rw [Nat.mul_assoc, ← Nat.pow_add, ← Nat.pow_add, show k - L + min k L = k by omega, show L - k + min k L = L by omega] at e
    exact e.symm
  have hle : FP.Core.nearest (c * 2 ^ k) (2 ^ rL (c * 2 ^ k)) ≤ 16777216 := by
    refine near_le (Nat.two_pow_pos _) ?_
    have h1 : c * 2 ^ k < 2 ^ ((c * 2 ^ k).log2 + 1) := (Nat.log2_lt hU0).mp (Nat.lt_succ_self _)
    have h2 : 2 ^ ((c * 2 ^ k).log2 + 1) ≤ 2 ^ (24 + rL (c * 2 ^ k)) := Nat.pow_le_pow_right (by decide) (by unfold rL; omega)
    rw [Nat.pow_add 2 24] at h2
    exact Nat.le_of_lt (Nat.lt_of_lt_of_le h1 h2)
  have hge : rL (c * 2 ^ k) = 64 ∨ 8388608 ≤ FP.Core.nearest (c * 2 ^ k) (2 ^ rL (c * 2 ^ k)) := by
    by_cases e : rL (c * 2 ^ k) = 64
    · exact Or.inl e
    · refine Or.inr (near_ge (Nat.two_pow_pos _) ?_)
      have h1 : 2 ^ (c * 2 ^ k).log2 ≤ c * 2 ^ k := (Nat.le_log2 hU0).mp (Nat.le_refl _)
      have h2 : 2 ^ (23 + rL (c * 2 ^ k)) ≤ 2 ^ (c * 2 ^ k).log2 := Nat.pow_le_pow_right (by decide) (by unfold rL at e ⊢; omega)
      rw [Nat.pow_add 2 23] at h2
      exact Nat.le_trans h2 h1
  have hr : FP.Core.round FP.Core.b32 (.fin false c (-213 + (k : Int))) = FP.Core.settle FP.Core.b32 false (FP.Core.nearest (c * 2 ^ k) (2 ^ rL (c * 2 ^ k))) (-213 + (rL (c * 2 ^ k) : Int)) := by
    show FP.Core.roundRatio _ _ _ _ _ = _
    unfold FP.Core.roundRatio
    rw [if_neg (by omega), hQ]
    unfold FP.Core.roundAt
    rw [hN]
  rw [hr]
  unfold rN
  generalize FP.Core.nearest (c * 2 ^ k) (2 ^ rL (c * 2 ^ k)) = v at hle hge
  generalize rL (c * 2 ^ k) = L at hL hL64 hge
  unfold FP.Core.settle
  by_cases hv : v < 16777216
  · rw [if_pos (show v < 2 ^ FP.Core.b32.p from hv)]
    unfold FP.Core.bound
    rw [if_pos (show (-213 + (L : Int)) ≤ FP.Core.b32.qmax from (show (-213 + (L : Int)) ≤ 104 by omega)), show (-213 + (L : Int)) = -149 + ((L - 64 : Nat) : Int) by omega]
    exact enc_n hv (by omega) (by omega)
  · rw [if_neg (show ¬ v < 2 ^ FP.Core.b32.p from hv)]
    unfold FP.Core.bound
    rw [if_pos (show (-213 + (L : Int) + 1) ≤ FP.Core.b32.qmax from (show (-213 + (L : Int) + 1) ≤ 104 by omega)), show (-213 + (L : Int) + 1) = -149 + ((L - 64 + 1 : Nat) : Int) by omega]
    obtain ⟨m, h1, h2, h3⟩ := enc_n (c := 8388608) (k := L - 64 + 1) (by decide) (Or.inr (Nat.le_refl _)) (by omega)
    refine ⟨m, h1, h2, ?_⟩
    rw [h3, show v = 16777216 by omega, Nat.pow_succ]
    have := Nat.two_pow_pos (L - 64)
    omega
theorem rN_exact {U S e : Nat} (hU : U = S * 2 ^ e) (hS : S < 16777216) (he : 64 ≤ e) : rN U = S * 2 ^ (e - 64) := by
  subst hU
  by_cases h0 : S = 0
  · subst h0
    rw [Nat.zero_mul, rN_0, Nat.zero_mul]
  · have hl := log_mul (k := e) (show 0 < S by omega)
    have h2 : S.log2 < 24 := (Nat.log2_lt h0).mpr hS
    have hL : rL (S * 2 ^ e) ≤ e := by unfold rL; omega
    have hL64 := rL_64 (S * 2 ^ e)
    unfold rN
    generalize rL (S * 2 ^ e) = L at hL hL64
    have h3 : S * 2 ^ e = S * 2 ^ (e - L) * 2 ^ L := by rw [Nat.mul_assoc, ← Nat.pow_add, show e - L + L = e by omega]
    rw [h3, near_dvd (Nat.two_pow_pos _), Nat.mul_assoc, ← Nat.pow_add, show e - L + (L - 64) = e - 64 by omega]
theorem log_le {U S e : Nat} (hU : U ≤ S * 2 ^ e) (hS : S < 16777216) : U.log2 ≤ 23 + e := by
  by_cases h0 : U = 0
  · subst h0; simp
  · have h1 : U < 2 ^ (24 + e) := by
      rw [Nat.pow_add]
      exact Nat.lt_of_le_of_lt hU (Nat.mul_lt_mul_of_pos_right hS (Nat.two_pow_pos e))
    have := (Nat.log2_lt h0).mpr h1
    omega
theorem rN_le {U S e : Nat} (hU : U ≤ S * 2 ^ e) (hS : S < 16777216) (he : 64 ≤ e) : rN U ≤ S * 2 ^ (e - 64) := by
  have hl := log_le hU hS
  have hL : rL U ≤ e := by unfold rL; omega
  have hL64 := rL_64 U
  unfold rN
  generalize rL U = L at hL hL64
  have h3 : S * 2 ^ e = S * 2 ^ (e - L) * 2 ^ L := by rw [Nat.mul_assoc, ← Nat.pow_add, show e - L + L = e by omega]
  have h4 := near_le (Nat.two_pow_pos L) (h3 ▸ hU)
  have h5 := Nat.mul_le_mul_right (2 ^ (L - 64)) h4
  rw [Nat.mul_assoc, ← Nat.pow_add, show e - L + (L - 64) = e - 64 by omega] at h5
  exact h5
theorem rN_ge {U S e : Nat} (hU : S * 2 ^ e ≤ U) (hl : U.log2 ≤ 23 + e) (he : 64 ≤ e) : S * 2 ^ (e - 64) ≤ rN U := by
  have hL : rL U ≤ e := by unfold rL; omega
  have hL64 := rL_64 U
  unfold rN
  generalize rL U = L at hL hL64
  have h3 : S * 2 ^ e = S * 2 ^ (e - L) * 2 ^ L := by rw [Nat.mul_assoc, ← Nat.pow_add, show e - L + L = e by omega]
  have h4 := near_ge (Nat.two_pow_pos L) (h3 ▸ hU)
  have h5 := Nat.mul_le_mul_right (2 ^ (L - 64)) h4
  rw [Nat.mul_assoc, ← Nat.pow_add, show e - L + (L - 64) = e - 64 by omega] at h5
  exact h5
/-! products, sums, comparisons -/
theorem of_lt {m : Nat} (h : m < 2139095040) : (UInt32.ofNat m).toNat = m := by
  rw [UInt32.toNat_ofNat']
  exact Nat.mod_eq_of_lt (by omega)
theorem fsig_pos {n : Nat} (h : 0 < n) : 0 < fsig n := by unfold fsig; split <;> omega
theorem fmul_v {a b : UInt32} (ha : a.toNat < 2139095040) (hb : b.toNat < 2139095040) (hb0 : 0 < b.toNat) (he : 85 ≤ fex b.toNat) (hU : (fv a.toNat * (fsig b.toNat * 2 ^ (fex b.toNat - 85))).log2 ≤ 338) : (FP.fmul a b).toNat < 2139095040 ∧ fv (FP.fmul a b).toNat = rN (fv a.toNat * (fsig b.toNat * 2 ^ (fex b.toNat - 85))) := by
  have e : FP.fmul a b = .ofNat (FP.Core.encode FP.Core.b32 (FP.Core.round FP.Core.b32 (.fin false (fsig a.toNat * fsig b.toNat) (-149 + (fex a.toNat : Int) + (-149 + (fex b.toNat : Int)))))) := by
    show UInt32.ofNat (FP.Core.encode _ (FP.Core.round _ (FP.Core.exactProduct (FP.Core.decode _ _) (FP.Core.decode _ _)))) = _
    rw [dec_n ha, dec_n hb]
    rfl
  rw [e]
  by_cases h0 : a.toNat = 0
  · rw [h0, show fsig 0 = 0 from rfl, Nat.zero_mul, show fv 0 = 0 from rfl, Nat.zero_mul, rN_0]
    have e2 : FP.Core.encode FP.Core.b32 (FP.Core.round FP.Core.b32 (.fin false 0 (-149 + (fex 0 : Int) + (-149 + (fex b.toNat : Int))))) = 0 := by
      show FP.Core.encode FP.Core.b32 (FP.Core.roundRatio _ _ _ _ _) = 0
      unfold FP.Core.roundRatio
      rw [if_pos rfl]
      rfl
    rw [e2]
    exact ⟨by decide, rfl⟩
  · have hU2 : fsig a.toNat * fsig b.toNat * 2 ^ (fex a.toNat + (fex b.toNat - 85)) = fv a.toNat * (fsig b.toNat * 2 ^ (fex b.toNat - 85)) := by
      unfold fv
      rw [Nat.pow_add, Nat.mul_mul_mul_comm]
    obtain ⟨m, h1, h2, h3⟩ := round_v (c := fsig a.toNat * fsig b.toNat) (q := -149 + (fex a.toNat : Int) + (-149 + (fex b.toNat : Int))) (k := fex a.toNat + (fex b.toNat - 85)) (Nat.mul_pos (fsig_pos (by omega)) (fsig_pos hb0)) (by omega) (by rw [hU2]; exact hU)
    rw [h1, of_lt h2]
    exact ⟨h2, by rw [h3, hU2]⟩
theorem fadd_v {a b : UInt32} (ha : a.toNat < 2139095040) (hb : b.toNat < 2139095040) (hb0 : 0 < b.toNat) (hU : ((fv a.toNat + fv b.toNat) * 2 ^ 64).log2 ≤ 338) : (FP.fadd a b).toNat < 2139095040 ∧ fv (FP.fadd a b).toNat = rN ((fv a.toNat + fv b.toNat) * 2 ^ 64) := by
  have hm : ∀ x y : Nat, min (-149 + (x : Int)) (-149 + (y : Int)) = -149 + (min x y : Nat) := fun x y => by omega
  generalize hM : min (fex a.toNat) (fex b.toNat) = M
  have hM1 : M ≤ fex a.toNat := by omega
  have hM2 : M ≤ fex b.toNat := by omega
  have hs : fsig a.toNat * 2 ^ (fex a.toNat - M) * 2 ^ M = fv a.toNat := by unfold fv; rw [Nat.mul_assoc, ← Nat.pow_add, show fex a.toNat - M + M = fex a.toNat by omega]
  have ht : fsig b.toNat * 2 ^ (fex b.toNat - M) * 2 ^ M = fv b.toNat := by unfold fv; rw [Nat.mul_assoc, ← Nat.pow_add, show fex b.toNat - M + M = fex b.toNat by omega]
  generalize hS : fsig a.toNat * 2 ^ (fex a.toNat - M) = S at hs
  generalize hT : fsig b.toNat * 2 ^ (fex b.toNat - M) = T at ht
  have hT0 : 0 < T := by rw [← hT]; exact Nat.mul_pos (fsig_pos hb0) (Nat.two_pow_pos _)
  have hv : FP.Core.sumUnits false (fsig a.toNat) (-149 + (fex a.toNat : Int)) false (fsig b.toNat) (-149 + (fex b.toNat : Int)) (-149 + (M : Int)) = ((S + T : Nat) : Int) := by
    show ((fsig a.toNat * 2 ^ (-149 + (fex a.toNat : Int) - (-149 + (M : Int))).toNat : Nat) : Int) + ((fsig b.toNat * 2 ^ (-149 + (fex b.toNat : Int) - (-149 + (M : Int))).toNat : Nat) : Int) = _
    rw [show (-149 + (fex a.toNat : Int) - (-149 + (M : Int))).toNat = fex a.toNat - M by omega, show (-149 + (fex b.toNat : Int) - (-149 + (M : Int))).toNat = fex b.toNat - M by omega, hS, hT]
    omega
  have e : FP.fadd a b = .ofNat (FP.Core.encode FP.Core.b32 (FP.Core.round FP.Core.b32 (.fin false (S + T) (-149 + (M : Int))))) := by
    show UInt32.ofNat (FP.Core.encode _ (FP.Core.round _ (FP.Core.exactSum (FP.Core.decode _ _) (FP.Core.decode _ _)))) = _
    rw [dec_n ha, dec_n hb]
    show UInt32.ofNat (FP.Core.encode _ (FP.Core.round _ (.fin (FP.Core.sumSign false false (FP.Core.sumUnits false (fsig a.toNat) (-149 + (fex a.toNat : Int)) false (fsig b.toNat) (-149 + (fex b.toNat : Int)) (min (-149 + (fex a.toNat : Int)) (-149 + (fex b.toNat : Int))))) (FP.Core.sumUnits false (fsig a.toNat) (-149 + (fex a.toNat : Int)) false (fsig b.toNat) (-149 + (fex b.toNat : Int)) (min (-149 + (fex a.toNat : Int)) (-149 + (fex b.toNat : Int)))).natAbs (min (-149 + (fex a.toNat : Int)) (-149 + (fex b.toNat : Int)))))) = _
    rw [hm, hM, hv, Int.natAbs_natCast]
    have e3 : FP.Core.sumSign false false ((S + T : Nat) : Int) = false := by
      unfold FP.Core.sumSign
      rw [if_neg (by omega)]
      exact decide_eq_false (by omega)
    rw [e3]
  rw [e]
  have hU2 : (S + T) * 2 ^ (64 + M) = (fv a.toNat + fv b.toNat) * 2 ^ 64 := by
    rw [← hs, ← ht, ← Nat.add_mul, Nat.mul_assoc, ← Nat.pow_add, Nat.add_comm 64 M]
  obtain ⟨m, h1, h2, h3⟩ := round_v (c := S + T) (q := -149 + (M : Int)) (k := 64 + M) (by omega) (by omega) (by rw [hU2]; exact hU)
  rw [h1, of_lt h2]
  exact ⟨h2, by rw [h3, hU2]⟩
theorem fcmp_v {a b : UInt32} (ha : a.toNat < 2139095040) (hb : b.toNat < 2139095040) : FP.fcmp a b = some (compareOfLessAndEq a.toNat b.toNat) := by
  have hm : ∀ x y : Nat, min (-149 + (x : Int)) (-149 + (y : Int)) = -149 + (min x y : Nat) := fun x y => by omega
  show FP.Core.order (FP.Core.decode _ _) (FP.Core.decode _ _) = _
  rw [dec_n ha, dec_n hb]
  show some (compareOfLessAndEq ((fsig a.toNat * 2 ^ (-149 + (fex a.toNat : Int) - min (-149 + (fex a.toNat : Int)) (-149 + (fex b.toNat : Int))).toNat : Nat) : Int) ((fsig b.toNat * 2 ^ (-149 + (fex b.toNat : Int) - min (-149 + (fex a.toNat : Int)) (-149 + (fex b.toNat : Int))).toNat : Nat) : Int)) = _
  rw [hm]
  generalize hM : min (fex a.toNat) (fex b.toNat) = M
  rw [show (-149 + (fex a.toNat : Int) - (-149 + (M : Int))).toNat = fex a.toNat - M by omega, show (-149 + (fex b.toNat : Int) - (-149 + (M : Int))).toNat = fex b.toNat - M by omega]
  have hs : fsig a.toNat * 2 ^ (fex a.toNat - M) * 2 ^ M = fv a.toNat := by unfold fv; rw [Nat.mul_assoc, ← Nat.pow_add, show fex a.toNat - M + M = fex a.toNat by omega]
  have ht : fsig b.toNat * 2 ^ (fex b.toNat - M) * 2 ^ M = fv b.toNat := by unfold fv; rw [Nat.mul_assoc, ← Nat.pow_add, show fex b.toNat - M + M = fex b.toNat by omega]
  generalize fsig a.toNat * 2 ^ (fex a.toNat - M) = S at hs
  generalize fsig b.toNat * 2 ^ (fex b.toNat - M) = T at ht
  have l1 : S < T ↔ a.toNat < b.toNat := by rw [← fv_lt (a := a.toNat), ← hs, ← ht]; exact (Nat.mul_lt_mul_right (Nat.two_pow_pos M)).symm
  have l2 : S = T ↔ a.toNat = b.toNat := by
    constructor
    · intro h; exact fv_inj (by rw [← hs, ← ht, h])
    · intro h; rw [h, ← ht] at hs; exact Nat.eq_of_mul_eq_mul_right (Nat.two_pow_pos M) hs
  unfold compareOfLessAndEq
  by_cases c1 : a.toNat < b.toNat
  · rw [if_pos c1, if_pos (by have := l1.mpr c1; omega)]
  · rw [if_neg c1, if_neg (fun q => c1 (l1.mp (by omega)))]
    by_cases c2 : a.toNat = b.toNat
    · rw [if_pos c2, if_pos (by have := l2.mpr c2; omega)]
    · rw [if_neg c2, if_neg (fun q => c2 (l2.mp (by omega)))]
/-! swaying -/
theorem good_fin {w : UInt32} (h : goodW w) : w.toNat < 2139095040 := by unfold goodW at h; omega
theorem fv_six : fv 1086324736 = 3 * 2 ^ 150 := by decide +kernel
theorem good_fv {w : UInt32} : goodW w ↔ fv w.toNat ≤ 3 * 2 ^ 150 := by
  rw [← fv_six, fv_le]; exact Iff.rfl
theorem n32_of {w : UInt32} (h : w.toNat < 2139095040) : vf_n32 w := by
  unfold vf_n32
  rw [UInt32.le_iff_toNat_le, UInt32.toNat_and]
  exact Nat.le_trans Nat.and_le_left (Nat.le_of_lt h)
theorem half_v {w : UInt32} (h : goodW w) : (FP.fmul w 1056964608).toNat < 2139095040 ∧ fv (FP.fmul w 1056964608).toNat = rN (fv w.toNat * 2 ^ 63) := by
  have e : fsig (1056964608 : UInt32).toNat * 2 ^ (fex (1056964608 : UInt32).toNat - 85) = 2 ^ 63 := by decide +kernel
  have hl : (fv w.toNat * 2 ^ 63).log2 ≤ 23 + 213 := log_le (S := 3) (Nat.le_trans (Nat.mul_le_mul_right _ (good_fv.mp h)) (by decide +kernel)) (by decide)
  have r := fmul_v (a := w) (b := 1056964608) (good_fin h) (by decide) (by decide) (by decide) (by rw [e]; omega)
  rw [e] at r
  exact r
theorem tq_v {w : UInt32} (h : goodW w) : (FP.fmul w 1061158912).toNat < 2139095040 ∧ fv (FP.fmul w 1061158912).toNat ≤ 9 * 2 ^ 148 := by
  have e : fsig (1061158912 : UInt32).toNat * 2 ^ (fex (1061158912 : UInt32).toNat - 85) = 3 * 2 ^ 62 := by decide +kernel
  have h2 : fv w.toNat * (3 * 2 ^ 62) ≤ 9 * 2 ^ 212 := Nat.le_trans (Nat.mul_le_mul_right _ (good_fv.mp h)) (by decide +kernel)
  have hl := log_le h2 (by decide)
  have r := fmul_v (a := w) (b := 1061158912) (good_fin h) (by decide) (by decide) (by decide) (by rw [e]; omega)
  rw [e] at r
  exact ⟨r.1, by rw [r.2]; exact rN_le h2 (by decide) (by decide)⟩
theorem push_v {w : UInt32} (h : goodW w) : (swF true w).toNat < 2139095040 ∧ fv (swF true w).toNat ≤ 3 * 2 ^ 150 ∧ 2 ^ 149 ≤ fv (swF true w).toNat := by
  obtain ⟨h1, h2⟩ := tq_v h
  have e : fv (1069547520 : UInt32).toNat = 3 * 2 ^ 148 := by decide +kernel
  have h3 : (fv (FP.fmul w 1061158912).toNat + 3 * 2 ^ 148) * 2 ^ 64 ≤ 3 * 2 ^ 214 := Nat.le_trans (Nat.mul_le_mul_right _ (Nat.add_le_add_right h2 _)) (by decide +kernel)
  have h4 : 1 * 2 ^ 213 ≤ (fv (FP.fmul w 1061158912).toNat + 3 * 2 ^ 148) * 2 ^ 64 := Nat.le_trans (by decide +kernel) (Nat.mul_le_mul_right _ (Nat.le_add_left (3 * 2 ^ 148) _))
  have hl := log_le h3 (by decide)
  have r := fadd_v (a := FP.fmul w 1061158912) (b := 1069547520) h1 (by decide) (by decide) (by rw [e]; omega)
  rw [e] at r
  show (FP.fadd (FP.fmul w 1061158912) 1069547520).toNat < _ ∧ fv (FP.fadd (FP.fmul w 1061158912) 1069547520).toNat ≤ _ ∧ _ ≤ fv (FP.fadd (FP.fmul w 1061158912) 1069547520).toNat
  refine ⟨r.1, ?_, ?_⟩
  · rw [r.2]; exact rN_le h3 (by decide) (by decide)
  · rw [r.2]
    have hl2 := log_le (S := 12582912) (e := 192) (Nat.le_trans h3 (by decide +kernel)) (by decide)
    have := rN_ge h4 (by omega) (by decide)
    rw [Nat.one_mul] at this
    exact this
theorem good_sw {w : UInt32} {b : Bool} (h : goodW w) : goodW (swF b w) := by
  cases b with
  | true => exact good_fv.mpr (push_v h).2.1
  | false =>
    obtain ⟨h1, h2⟩ := half_v h
    refine good_fv.mpr ?_
    show fv (FP.fmul w 1056964608).toNat ≤ _
    rw [h2]
    exact Nat.le_trans (rN_le (S := 3) (e := 213) (Nat.le_trans (Nat.mul_le_mul_right _ (good_fv.mp h)) (by decide +kernel)) (by decide) (by decide)) (by decide +kernel)
theorem good_nice {w : UInt32} (h : goodW w) : nice w := ⟨n32_of (tq_v h).1, n32_of (push_v h).1, n32_of (half_v h).1⟩
theorem good_fine {w : UInt32} (h : goodW w) : fine w := by
  intro l
  induction l generalizing w with
  | nil => exact good_nice h
  | cons b l ih => exact ih (good_sw (b := b) h)
theorem good_0 : goodW FP.fconst0 := by show (0 : UInt32).toNat ≤ _; decide
theorem calm_v {w : UInt32} (h : goodW w) : calmW w = decide (w.toNat < 1065353216) := by
  unfold calmW
  rw [fcmp_v (good_fin h) (show FP.fconst1.toNat < 2139095040 by decide)]
  show decide (¬ nI 0 ≤ Op.cmpValue (some (compareOfLessAndEq w.toNat 1065353216)) .g) = _
  unfold compareOfLessAndEq
  by_cases c1 : w.toNat < 1065353216
  · rw [if_pos c1, decide_eq_true c1]; decide
  · rw [if_neg c1, decide_eq_false c1]
    by_cases c2 : w.toNat = 1065353216
    · rw [if_pos c2]; decide
    · rw [if_neg c2]; decide
theorem fv_one : fv 1065353216 = 2 ^ 149 := by decide +kernel
theorem calm_push {w : UInt32} (h : goodW w) : calmW (swF true w) = false := by
  rw [calm_v (good_sw h), decide_eq_false_iff_not, Nat.not_lt, ← fv_le, fv_one]
  exact (push_v h).2.2
theorem calm_half {w : UInt32} (h : goodW w) (hc : calmW w = true) : calmW (swF false w) = true := by
  rw [calm_v h, decide_eq_true_eq, ← fv_lt, fv_one] at hc
  rw [calm_v (good_sw h), decide_eq_true_eq, ← fv_lt, fv_one]
  obtain ⟨h1, h2⟩ := half_v h
  show fv (FP.fmul w 1056964608).toNat < _
  rw [h2]
  exact Nat.lt_of_le_of_lt (rN_le (S := 1) (e := 212) (Nat.le_trans (Nat.mul_le_mul_right _ (Nat.le_of_lt hc)) (by decide +kernel)) (by decide) (by decide)) (by decide +kernel)
