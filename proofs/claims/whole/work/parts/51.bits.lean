/-! sets of small numbers as bits -/
def bitsN (f : Nat → Bool) : Nat → Nat
  | 0 => 0
  | k + 1 => bitsN f k ||| (if f k then 2 ^ k else 0)
theorem bitsN_tb {f : Nat → Bool} {i : Nat} : ∀ k, (bitsN f k).testBit i = (decide (i < k) && f i)
  | 0 => by simp [bitsN]
  | k + 1 => by
    rw [bitsN, Nat.testBit_or, bitsN_tb k]
    by_cases h : f k = true
    · rw [if_pos h, Nat.testBit_two_pow]
      by_cases e : i = k
      · subst e; simp [h]
      · have e1 : ¬ k = i := fun z => e z.symm
        by_cases e2 : i < k
        · simp [e1, e2, Nat.lt_succ_of_lt e2]
        · simp [e1, e2, show ¬ i < k + 1 by omega]
    · rw [if_neg h]
      by_cases e : i = k
      · subst e; simp [h]
      · by_cases e2 : i < k
        · simp [e2, Nat.lt_succ_of_lt e2]
        · simp [e2, show ¬ i < k + 1 by omega]
theorem bitsN_lt {f : Nat → Bool} : ∀ k, bitsN f k < 2 ^ k
  | 0 => by show 0 < 1; decide
  | k + 1 => by
    rw [bitsN]
    have h1 : bitsN f k < 2 ^ (k + 1) := Nat.lt_of_lt_of_le (bitsN_lt k) (Nat.pow_le_pow_right (by decide) (by omega))
    refine Nat.or_lt_two_pow h1 ?_
    split
    · exact Nat.pow_lt_pow_right (by decide) (by omega)
    · exact Nat.two_pow_pos _
theorem bitsN_256 {f : Nat → Bool} {k : Nat} (hk : k ≤ 8) : bitsN f k < 256 := Nat.lt_of_lt_of_le (bitsN_lt k) (Nat.pow_le_pow_right (n := 2) (by decide) hk)
theorem bitsN_cong {f g : Nat → Bool} : ∀ {k}, (∀ i, i < k → f i = g i) → bitsN f k = bitsN g k
  | 0, _ => rfl
  | k + 1, h => by rw [bitsN, bitsN, bitsN_cong (fun i hi => h i (by omega)), h k (by omega)]
theorem bitsN_eq {m k : Nat} {f : Nat → Bool} (hm : m < 2 ^ k) (h : ∀ i, i < k → m.testBit i = f i) : m = bitsN f k := by
  apply Nat.eq_of_testBit_eq
  intro i
  rw [bitsN_tb]
  by_cases e : i < k
  · rw [h i e, decide_eq_true e, Bool.true_and]
  · rw [decide_eq_false e, Bool.false_and]
    exact Nat.testBit_lt_two_pow (Nat.lt_of_lt_of_le hm (Nat.pow_le_pow_right (by decide) (by omega)))
/-! Int32 by its bits -/
def bt (x : Int32) (i : Nat) : Bool := x.toBitVec.getLsbD i
theorem b_ext {x y : Int32} (h : ∀ i, i < 32 → bt x i = bt y i) : x = y := Int32.toBitVec_inj.mp (BitVec.eq_of_getLsbD_eq (fun i hi => h i hi))
theorem b_or (x y : Int32) (i : Nat) : bt (x ||| y) i = (bt x i || bt y i) := by unfold bt; rw [Int32.toBitVec_or, BitVec.getLsbD_or]
theorem b_and (x y : Int32) (i : Nat) : bt (x &&& y) i = (bt x i && bt y i) := by unfold bt; rw [Int32.toBitVec_and, BitVec.getLsbD_and]
theorem b_xor (x y : Int32) (i : Nat) : bt (x ^^^ y) i = (bt x i ^^ bt y i) := by unfold bt; rw [Int32.toBitVec_xor, BitVec.getLsbD_xor]
theorem b_m1 : ∀ i, i < 32 → bt (-1) i = true := by decide +kernel
theorem b_n {n i : Nat} (hi : i < 32) : bt (nI n) i = n.testBit i := by
  show (BitVec.ofNat 32 n).getLsbD i = _
  rw [BitVec.getLsbD_ofNat, decide_eq_true hi, Bool.true_and]
theorem s_l : ∀ n, n < 32 → ((nI n &&& 31).toBitVec.smod 32).toNat = n := by decide +kernel
theorem fa_and (a b : Nat) : nI a &&& nI b = nI (a &&& b) := by
  apply Int32.toBitVec_inj.1
  show BitVec.ofNat 32 a &&& BitVec.ofNat 32 b = BitVec.ofNat 32 (a &&& b)
  apply BitVec.eq_of_getLsbD_eq
  intro i hi
  simp [hi]
theorem fa_or (a b : Nat) : nI a ||| nI b = nI (a ||| b) := by
  apply Int32.toBitVec_inj.1
  show BitVec.ofNat 32 a ||| BitVec.ofNat 32 b = BitVec.ofNat 32 (a ||| b)
  apply BitVec.eq_of_getLsbD_eq
  intro i hi
  simp [hi]
theorem fa_xor (a b : Nat) : nI a ^^^ nI b = nI (a ^^^ b) := by
  apply Int32.toBitVec_inj.1
  show BitVec.ofNat 32 a ^^^ BitVec.ofNat 32 b = BitVec.ofNat 32 (a ^^^ b)
  apply BitVec.eq_of_getLsbD_eq
  intro i hi
  simp [hi]
/-- 1 << c -/
theorem i_shl1 {c : Nat} (hc : c < 31) : nI 1 <<< (nI c &&& 31) = nI (2 ^ c) := by
  have h2 : (2 : Nat) ^ c < 2 ^ 31 := Nat.pow_lt_pow_right (by decide) hc
  rw [pk_shlN _ c (s_l c (by omega)) (by omega), Nat.one_mul]
/-- m >> c & 1 -/
theorem i_bit {m c : Nat} (hm : m < 2 ^ 31) (hc : c < 31) : nI m >>> (nI c &&& 31) &&& nI 1 = if m.testBit c then nI 1 else nI 0 := by
  rw [pk_shrN hm _ c (s_l c (by omega)), fa_and, Nat.and_one_is_mod, Nat.testBit_eq_decide_div_mod_eq]
  have h : m / 2 ^ c % 2 < 2 := Nat.mod_lt _ (by decide)
  by_cases e : m / 2 ^ c % 2 = 1
  · rw [decide_eq_true e, e]; rfl
  · rw [decide_eq_false e, show m / 2 ^ c % 2 = 0 by omega]; rfl
theorem i_bit0 {m c : Nat} (hm : m < 2 ^ 31) (hc : c < 31) : nI m >>> (nI c &&& 31) &&& nI 1 = nI 0 ↔ m.testBit c = false := by
  rw [i_bit hm hc]
  cases m.testBit c <;> simp [show ¬ nI 1 = nI 0 by decide]
theorem bitS_n {m c : Nat} (hm : m < 2 ^ 31) (hc : c < 31) : bitS (nI m) (nI c) = nI 0 ↔ m.testBit c = false := i_bit0 hm hc
/-- a & ~d -/
def andn (a d : Nat) : Nat := bitsN (fun i => a.testBit i && !d.testBit i) 31
theorem i_andn {a d : Nat} (ha : a < 2 ^ 31) : nI a &&& (nI d ^^^ (-1)) = nI (andn a d) := by
  apply b_ext
  intro i hi
  rw [b_and, b_xor, b_n hi, b_n hi, b_m1 i hi, b_n hi, andn, bitsN_tb]
  by_cases e : i < 31
  · rw [decide_eq_true e]; simp
  · have e1 : i = 31 := by omega
    subst e1
    rw [Nat.testBit_lt_two_pow ha]; simp
theorem andn_tb {a d i : Nat} (ha : a < 2 ^ 31) : (andn a d).testBit i = (a.testBit i && !d.testBit i) := by
  rw [andn, bitsN_tb]
  by_cases e : i < 31
  · simp [e]
  · rw [Nat.testBit_lt_two_pow (Nat.lt_of_lt_of_le ha (Nat.pow_le_pow_right (by decide) (by omega)))]; simp
theorem andn_lt {a d : Nat} : andn a d < 2 ^ 31 := bitsN_lt 31
theorem nz_tb {m : Nat} : m = 0 ↔ ∀ i, m.testBit i = false := by
  constructor
  · intro h i; rw [h]; simp
  · intro h; apply Nat.eq_of_testBit_eq; intro i; rw [h i]; simp
theorem i_andn0 {a d : Nat} (ha : a < 2 ^ 31) : nI a &&& (nI d ^^^ (-1)) = nI 0 ↔ ∀ i, a.testBit i = true → d.testBit i = true := by
  rw [i_andn ha, nI_eq andn_lt (by decide), nz_tb]
  constructor
  · intro h i hi
    have := h i
    rw [andn_tb ha, hi] at this
    simpa using this
  · intro h i
    rw [andn_tb ha]
    cases hi : a.testBit i with
    | false => rfl
    | true => rw [h i hi]; rfl
/-- (1 << T) - 1 -/
theorem i_full {T : Nat} (hT : T < 31) : (nI 1 <<< (nI T &&& 31)) - nI 1 = nI (2 ^ T - 1) := by
  have := Nat.two_pow_pos T
  rw [i_shl1 hT, pk_sub (by omega)]
theorem full_tb {T i : Nat} : (2 ^ T - 1).testBit i = decide (i < T) := Nat.testBit_two_pow_sub_one T i
