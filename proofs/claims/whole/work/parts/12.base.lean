/-! walking: locals, cells, numbers -/
section WK
variable {L : List Value} {i n : Nat} {h : sH} {a : Nat}
theorem gI0 {x : Int32} {f : Int32 → Prop} : gI (.int x :: L) 0 f ↔ f x := Iff.rfl
theorem gR0 {x : Nat} {f : Nat → Prop} : gR (.ref x :: L) 0 f ↔ f x := Iff.rfl
theorem gF0 {x : UInt32} {f : UInt32 → Prop} : gF (.float x :: L) 0 f ↔ f x := Iff.rfl
theorem gL0 {x : Int64} {f : Int64 → Prop} : gL (.long x :: L) 0 f ↔ f x := Iff.rfl
theorem gD0 {x : UInt64} {f : UInt64 → Prop} : gD (.double x :: L) 0 f ↔ f x := Iff.rfl
theorem gIs {v : Value} {f : Int32 → Prop} : gI (v :: L) (n + 1) f ↔ gI L n f := Iff.rfl
theorem gRs {v : Value} {f : Nat → Prop} : gR (v :: L) (n + 1) f ↔ gR L n f := Iff.rfl
theorem gFs {v : Value} {f : UInt32 → Prop} : gF (v :: L) (n + 1) f ↔ gF L n f := Iff.rfl
theorem gLs {v : Value} {f : Int64 → Prop} : gL (v :: L) (n + 1) f ↔ gL L n f := Iff.rfl
theorem gDs {v : Value} {f : UInt64 → Prop} : gD (v :: L) (n + 1) f ↔ gD L n f := Iff.rfl
theorem st0 {u v : Value} : s_st1 (u :: L) 0 v = v :: L := rfl
theorem st_i {x : Int32} {u v : Value} : s_st1 (.int x :: u :: L) 1 v = .int x :: v :: L := rfl
theorem st_r {x : Nat} {u v : Value} : s_st1 (.ref x :: u :: L) 1 v = .ref x :: v :: L := rfl
theorem st_f {x : UInt32} {u v : Value} : s_st1 (.float x :: u :: L) 1 v = .float x :: v :: L := rfl
theorem st_n {u v : Value} : s_st1 (s_no :: u :: L) 1 v = s_no :: v :: L := rfl
theorem st_l {x : Int64} {u v : Value} : s_st1 (.long x :: u :: L) 1 v = s_no :: v :: L := rfl
theorem st_d {x : UInt64} {u v : Value} : s_st1 (.double x :: u :: L) 1 v = s_no :: v :: L := rfl
theorem st_s {u v : Value} : s_st1 (u :: L) (n + 2) v = u :: s_st1 L (n + 1) v := by
  unfold s_st1 s_clr
  cases L with
  | nil => rfl
  | cons w L =>
    show List.set (match (u :: w :: L)[n + 1]? with | some v => _ | none => _) _ _ = u :: List.set (match (w :: L)[n]? with | some v => _ | none => _) _ _
    have e : (u :: w :: L)[n + 1]? = (w :: L)[n]? := rfl
    rw [e]
    cases (w :: L)[n]? with
    | none => rfl
    | some x =>
      show List.set (if x.category = 2 then _ else _) _ _ = u :: List.set (if x.category = 2 then _ else _) _ _
      split <;> rfl
theorem if_T {c : Prop} [Decidable c] {A B : Prop} (hc : c) : (if c then A else B) ↔ A := by rw [if_pos hc]
theorem if_F {c : Prop} [Decidable c] {A B : Prop} (hc : ¬ c) : (if c then A else B) ↔ B := by rw [if_neg hc]
end WK
theorem nLt {a b : Nat} (ha : a < 2 ^ 31) (hb : b < 2 ^ 31) : (nI a < nI b) ↔ a < b := nI_ltI ha hb
theorem nLe {a b : Nat} (ha : a < 2 ^ 31) (hb : b < 2 ^ 31) : (nI a ≤ nI b) ↔ a ≤ b := nI_leI ha hb
theorem nEq {a b : Nat} (ha : a < 2 ^ 31) (hb : b < 2 ^ 31) : (nI a = nI b) ↔ a = b := nI_eq ha hb
theorem nIn {a n : Nat} (ha : a < 2 ^ 31) : vp_in (nI a) n ↔ a < n := by
  unfold vp_in
  rw [nI_clamp ha]
  constructor
  · intro h; exact Nat.not_le.mp fun z => h (Or.inr z)
  · intro h z
    rcases z with z | z
    · exact nI_pos ha z
    · omega
theorem nCl {a : Nat} (ha : a < 2 ^ 31) : (nI a).toNatClampNeg = a := nI_clamp ha
theorem nInT {a n : Nat} (h : a < n) (ha : a < 2 ^ 31) : vp_in (nI a) n ↔ True := ⟨fun _ => trivial, fun _ => (nIn ha).mpr h⟩
theorem s_cat_nil : s_cat [] = 0 := rfl
theorem s_cat_i {x : Int32} {S : List Value} : s_cat (.int x :: S) = 1 + s_cat S := rfl
theorem s_cat_r {x : Nat} {S : List Value} : s_cat (.ref x :: S) = 1 + s_cat S := rfl
theorem s_cat_f {x : UInt32} {S : List Value} : s_cat (.float x :: S) = 1 + s_cat S := rfl
theorem s_cat_l {x : Int64} {S : List Value} : s_cat (.long x :: S) = 2 + s_cat S := rfl
theorem cat_i {x : Int32} : (Value.int x).category = 1 ↔ True := ⟨fun _ => trivial, fun _ => rfl⟩
theorem cat_r {x : Nat} : (Value.ref x).category = 1 ↔ True := ⟨fun _ => trivial, fun _ => rfl⟩
theorem cat_f {x : UInt32} : (Value.float x).category = 1 ↔ True := ⟨fun _ => trivial, fun _ => rfl⟩
theorem tl_s {v : Value} {S : List Value} : (some v).toList ++ S = v :: S := rfl
theorem tl_n {S : List Value} : (none : Option Value).toList ++ S = S := rfl
/-- n cells from b on -/
def pC (b n : Nat) (f : Nat → sC) (h : sH) : sH := (h.1, h.2.1, fun q => if b ≤ q ∧ q < b + n then f (q - b) else h.2.2 q)
section PC
variable {b n j : Nat} {f g : Nat → sC} {h : sH}
theorem hgC (hj : j < n) : hg (pC b n f h) (b + j) = f j := by
  show (if b ≤ b + j ∧ b + j < b + n then f (b + j - b) else _) = _
  rw [if_pos (by omega), Nat.add_sub_cancel_left]
theorem hgC0 (hj : 0 < n) : hg (pC b n f h) b = f 0 := hgC (j := 0) hj
theorem hgCo {q : Nat} (hq : q < b ∨ b + n ≤ q) : hg (pC b n f h) q = hg h q := by
  show (if b ≤ q ∧ q < b + n then f (q - b) else _) = _
  rw [if_neg (by omega)]
  rfl
theorem sH_eq : ∀ {h1 h2 : sH}, h1.1 = h2.1 → h1.2.1 = h2.2.1 → (∀ q, hg h1 q = hg h2 q) → h1 = h2
  | (a1, a2, a3), (b1, b2, b3), e1, e2, e3 => by
    have e3 : a3 = b3 := funext e3
    have e1 : a1 = b1 := e1
    have e2 : a2 = b2 := e2
    rw [e1, e2, e3]
theorem pC_fun (e : ∀ j, j < n → f j = g j) : pC b n f h = pC b n g h := by
  refine sH_eq rfl rfl fun q => ?_
  by_cases hq : b ≤ q ∧ q < b + n
  · obtain ⟨j, rfl⟩ := Nat.exists_eq_add_of_le hq.1
    rw [hgC (by omega), hgC (by omega), e j (by omega)]
  · rw [hgCo (by omega), hgCo (by omega)]
theorem hsC {c : sC} (hj : j < n) (e : ∀ i, i < n → g i = if i = j then c else f i) : hs (pC b n f h) (b + j) c = pC b n g h := by
  refine sH_eq rfl rfl fun q => ?_
  rw [hg_hs]
  by_cases hq : b ≤ q ∧ q < b + n
  · obtain ⟨i, rfl⟩ := Nat.exists_eq_add_of_le hq.1
    rw [hgC (by omega), hgC (by omega), e i (by omega)]
    by_cases hi : i = j
    · rw [if_pos (by omega), if_pos hi]
    · rw [if_neg (by omega), if_neg hi]
  · rw [if_neg (by omega), hgCo (by omega), hgCo (by omega)]
theorem pC_twice : pC b n f (pC b n g h) = pC b n f h := by
  refine sH_eq rfl rfl fun q => ?_
  by_cases hq : b ≤ q ∧ q < b + n
  · obtain ⟨i, rfl⟩ := Nat.exists_eq_add_of_le hq.1
    rw [hgC (by omega), hgC (by omega)]
  · rw [hgCo (by omega), hgCo (by omega), hgCo (by omega)]
theorem pC_comm {c n2 : Nat} (hd : b + n ≤ c ∨ c + n2 ≤ b) : pC b n f (pC c n2 g h) = pC c n2 g (pC b n f h) := by
  refine sH_eq rfl rfl fun q => ?_
  by_cases hq : b ≤ q ∧ q < b + n
  · rw [hgCo (b := c) (by omega)]
    obtain ⟨i, rfl⟩ := Nat.exists_eq_add_of_le hq.1
    rw [hgC (by omega), hgC (by omega)]
  · rw [hgCo (b := b) (by omega)]
    by_cases hq2 : c ≤ q ∧ q < c + n2
    · obtain ⟨i, rfl⟩ := Nat.exists_eq_add_of_le hq2.1
      rw [hgC (by omega), hgC (by omega)]
    · rw [hgCo (by omega), hgCo (by omega), hgCo (by omega)]
theorem pC_eta (e : ∀ j, j < n → hg h (b + j) = f j) : pC b n f h = h := by
  refine sH_eq rfl rfl fun q => ?_
  by_cases hq : b ≤ q ∧ q < b + n
  · obtain ⟨i, rfl⟩ := Nat.exists_eq_add_of_le hq.1
    rw [hgC (by omega), e i (by omega)]
  · rw [hgCo (by omega)]
/-- cells within cells -/
theorem pC_in {o n2 : Nat} {f2 : Nat → sC} (ho : o + n2 ≤ n) (e : ∀ i, i < n → f2 i = if o ≤ i ∧ i < o + n2 then g (i - o) else f i) : pC (b + o) n2 g (pC b n f h) = pC b n f2 h := by
  refine sH_eq rfl rfl fun q => ?_
  by_cases hq : b ≤ q ∧ q < b + n
  · obtain ⟨i, rfl⟩ := Nat.exists_eq_add_of_le hq.1
    rw [hgC (by omega), e i (by omega)]
    by_cases hi : o ≤ i ∧ i < o + n2
    · obtain ⟨i, rfl⟩ := Nat.exists_eq_add_of_le hi.1
      rw [if_pos (by omega), show b + (o + i) = (b + o) + i by omega, hgC (by omega), Nat.add_sub_cancel_left]
    · rw [if_neg hi, hgCo (by omega), hgC (by omega)]
  · rw [hgCo (by omega), hgCo (by omega), hgCo (by omega)]
end PC
/-- an array's contents: what lies behind its end is 0 -/
def tr32 (n : Nat) (f : Nat → Int32) : Nat → Int32 := fun j => if j < n then f j else 0
def trF (n : Nat) (f : Nat → UInt32) : Nat → UInt32 := fun j => if j < n then f j else 0
theorem tr_in {n j : Nat} {f : Nat → Int32} (h : j < n) : tr32 n f j = f j := by unfold tr32; rw [if_pos h]
theorem trF_in {n j : Nat} {f : Nat → UInt32} (h : j < n) : trF n f j = f j := by unfold trF; rw [if_pos h]
theorem tr_upd {n j : Nat} {f : Nat → Int32} {x : Int32} (h : j < n) : upd (tr32 n f) j x = tr32 n (upd f j x) := by
  funext q
  unfold upd tr32
  by_cases h1 : q = j
  · subst h1; simp [h]
  · simp [h1]
theorem trF_upd {n j : Nat} {f : Nat → UInt32} {x : UInt32} (h : j < n) : vf_upd (trF n f) j x = trF n (vf_upd f j x) := by
  funext q
  unfold vf_upd trF
  by_cases h1 : q = j
  · subst h1; simp [h]
  · simp [h1]
theorem tr_eq {n : Nat} {f g : Nat → Int32} (h : ∀ j, j < n → f j = g j) : tr32 n f = tr32 n g := by
  funext q
  unfold tr32
  by_cases h1 : q < n
  · rw [if_pos h1, if_pos h1, h q h1]
  · rw [if_neg h1, if_neg h1]
theorem tr_tr {n : Nat} {f : Nat → Int32} : tr32 n (tr32 n f) = tr32 n f := tr_eq fun j h => tr_in h
theorem vp_lt {i : Int32} {n : Nat} (h : vp_in i n) : i.toNatClampNeg < n := Nat.not_le.mp fun z => h (Or.inr z)
/-- a boolean as a number -/
def bI (c : Prop) [Decidable c] : Int32 := if c then nI 1 else nI 0
theorem bI_t {c : Prop} [Decidable c] (h : c) : bI c = nI 1 := if_pos h
theorem bI_f {c : Prop} [Decidable c] (h : ¬ c) : bI c = nI 0 := if_neg h
theorem nb0 : (narrow .boolean (.int (nI 0)) = .int (nI 0)) ↔ True := ⟨fun _ => trivial, fun _ => by decide⟩
theorem nb1 : (narrow .boolean (.int (nI 1)) = .int (nI 1)) ↔ True := ⟨fun _ => trivial, fun _ => by decide⟩
theorem nbI {c : Prop} [Decidable c] : (narrow .boolean (.int (bI c)) = .int (bI c)) ↔ True := by
  by_cases h : c
  · rw [bI_t h]; exact nb1
  · rw [bI_f h]; exact nb0
theorem bI_0 {c : Prop} [Decidable c] : bI c = nI 0 ↔ ¬ c := by
  by_cases h : c
  · rw [bI_t h]; exact ⟨fun z => absurd z (by decide), fun z => absurd h z⟩
  · rw [bI_f h]; exact ⟨fun _ => h, fun _ => rfl⟩
theorem if_bI {c : Prop} [Decidable c] {A B : Prop} : (if bI c = nI 0 then A else B) ↔ (if c then B else A) := by
  by_cases h : c
  · rw [if_pos h, if_neg (by rw [bI_0]; exact fun z => z h)]
  · rw [if_neg h, if_pos (by rw [bI_0]; exact h)]
theorem if_bIr {c : Prop} [Decidable c] {A B : Prop} : (if nI 0 = bI c then A else B) ↔ (if c then B else A) := by
  by_cases h : c
  · rw [if_pos h, if_neg (by rw [eq_comm, bI_0]; exact fun z => z h)]
  · rw [if_neg h, if_pos (by rw [eq_comm, bI_0]; exact h)]
theorem Q_bI {c : Prop} [Decidable c] {Q : sQ} {h : sH} : (if c then Q (some (.int (nI 1))) h else Q (some (.int (nI 0))) h) ↔ Q (some (.int (bI c))) h := by
  by_cases hc : c
  · rw [if_pos hc, bI_t hc]
  · rw [if_neg hc, bI_f hc]
theorem Q_bIn {c : Prop} [Decidable c] {Q : sQ} {h : sH} : (if c then Q (some (.int (nI 0))) h else Q (some (.int (nI 1))) h) ↔ Q (some (.int (bI (¬ c)))) h := by
  by_cases hc : c
  · rw [if_pos hc, bI_f (fun z => z hc)]
  · rw [if_neg hc, bI_t hc]
def fil {α : Type} (n : Nat) (f g : Nat → α) : Nat → α := fun j => if j < n then f j else g j
theorem fil_0 {α : Type} (f g : Nat → α) : fil 0 f g = g := by funext j; simp [fil]
theorem fil_in {α : Type} {n j : Nat} {f g : Nat → α} (h : j < n) : fil n f g j = f j := by simp [fil, h]
theorem fil_out {α : Type} {n j : Nat} {f g : Nat → α} (h : n ≤ j) : fil n f g j = g j := by simp [fil, Nat.not_lt.mpr h]
theorem fil_upd {n : Nat} {f g : Nat → Int32} {x : Int32} (hx : x = f n) : upd (fil n f g) n x = fil (n + 1) f g := by
  funext j
  unfold upd fil
  by_cases h1 : j = n
  · subst h1; simp [hx]
  · by_cases h2 : j < n
    · simp [h1, h2, Nat.lt_succ_of_lt h2]
    · simp [h1, h2, show ¬ j < n + 1 by omega]
theorem fil_updS {n : Nat} {f g : Nat → Int32} : upd (fil n f g) n (f n) = fil (n + 1) f g := fil_upd rfl
theorem fil_updF {n : Nat} {f g : Nat → UInt32} {x : UInt32} (hx : x = f n) : vf_upd (fil n f g) n x = fil (n + 1) f g := by
  funext j
  unfold vf_upd fil
  by_cases h1 : j = n
  · subst h1; simp [hx]
  · by_cases h2 : j < n
    · simp [h1, h2, Nat.lt_succ_of_lt h2]
    · simp [h1, h2, show ¬ j < n + 1 by omega]
theorem fil_updFS {n : Nat} {f g : Nat → UInt32} : vf_upd (fil n f g) n (f n) = fil (n + 1) f g := fil_updF rfl
section IFS
variable {a b : Nat} {A B : Prop}
theorem ifLeT (h : a ≤ b) (hb : b < 2 ^ 31) : (if nI a ≤ nI b then A else B) ↔ A := by rw [if_pos (nI_le h hb)]
theorem ifLeF (h : b < a) (ha : a < 2 ^ 31) : (if nI a ≤ nI b then A else B) ↔ B := by rw [if_neg (nI_ge h ha)]
theorem ifLtT (h : a < b) (hb : b < 2 ^ 31) : (if nI a < nI b then A else B) ↔ A := by rw [if_pos (nI_lt h hb)]
theorem ifLtF (h : b ≤ a) (ha : a < 2 ^ 31) : (if nI a < nI b then A else B) ↔ B := by rw [if_neg (nI_nlt h ha)]
theorem ifEqT (h : a = b) : (if nI a = nI b then A else B) ↔ A := by rw [if_pos (by rw [h])]
theorem ifEqF (h : a ≠ b) (ha : a < 2 ^ 31) (hb : b < 2 ^ 31) : (if nI a = nI b then A else B) ↔ B := by rw [if_neg (fun z => h ((nI_eq ha hb).mp z))]
theorem if_tt : (if True then A else B) ↔ A := by rw [if_pos trivial]
theorem if_ff : (if False then A else B) ↔ B := by rw [if_neg id]
end IFS
/-- the first of n from i on of which f says something -/
def sfrom {α : Type} (f : Nat → Option α) : Nat → Nat → Option α
  | _, 0 => none
  | i, n + 1 => match f i with
    | some x => some x
    | none => sfrom f (i + 1) n
/-- n turns from i on -/
def iter {α : Type} (f : Nat → α → α) : Nat → Nat → α → α
  | _, 0, x => x
  | i, n + 1, x => iter f (i + 1) n (f i x)
