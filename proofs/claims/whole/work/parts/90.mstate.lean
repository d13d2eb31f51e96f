/-! the reference's heap: numbers (kI), booleans (kB) by fields, rows (kA) by cells, moved (kV) -/
abbrev tM : Type := (Nat → Int32) × (Nat → Bool) × (Nat → Nat → Int32) × (Nat → Bool)
def kI (m : tM) (k : Nat) : Int32 := m.1 k
def kB (m : tM) (k : Nat) : Bool := m.2.1 k
def kA (m : tM) (k : Nat) : Nat → Int32 := m.2.2.1 k
def kV (m : tM) : Nat → Bool := m.2.2.2
def xI (m : tM) (k : Nat) (x : Int32) : tM := (fun q => if q = k then x else m.1 q, m.2)
def xB (m : tM) (k : Nat) (x : Bool) : tM := (m.1, fun q => if q = k then x else m.2.1 q, m.2.2)
def xA (m : tM) (k : Nat) (f : Nat → Int32) : tM := (m.1, m.2.1, fun q => if q = k then f else m.2.2.1 q, m.2.2.2)
def xV (m : tM) (f : Nat → Bool) : tM := (m.1, m.2.1, m.2.2.1, f)
theorem kI_xI (m : tM) (k q : Nat) (x : Int32) : kI (xI m k x) q = if q = k then x else kI m q := rfl
theorem kI_xB (m : tM) (k q : Nat) (x : Bool) : kI (xB m k x) q = kI m q := rfl
theorem kI_xA (m : tM) (k q : Nat) (f : Nat → Int32) : kI (xA m k f) q = kI m q := rfl
theorem kI_xV (m : tM) (q : Nat) (f : Nat → Bool) : kI (xV m f) q = kI m q := rfl
theorem kB_xI (m : tM) (k q : Nat) (x : Int32) : kB (xI m k x) q = kB m q := rfl
theorem kB_xB (m : tM) (k q : Nat) (x : Bool) : kB (xB m k x) q = if q = k then x else kB m q := rfl
theorem kB_xA (m : tM) (k q : Nat) (f : Nat → Int32) : kB (xA m k f) q = kB m q := rfl
theorem kB_xV (m : tM) (q : Nat) (f : Nat → Bool) : kB (xV m f) q = kB m q := rfl
theorem kA_xI (m : tM) (k q : Nat) (x : Int32) : kA (xI m k x) q = kA m q := rfl
theorem kA_xB (m : tM) (k q : Nat) (x : Bool) : kA (xB m k x) q = kA m q := rfl
theorem kA_xA (m : tM) (k q : Nat) (f : Nat → Int32) : kA (xA m k f) q = if q = k then f else kA m q := rfl
theorem kA_xV (m : tM) (q : Nat) (f : Nat → Bool) : kA (xV m f) q = kA m q := rfl
theorem kV_xI (m : tM) (k : Nat) (x : Int32) : kV (xI m k x) = kV m := rfl
theorem kV_xB (m : tM) (k : Nat) (x : Bool) : kV (xB m k x) = kV m := rfl
theorem kV_xA (m : tM) (k : Nat) (f : Nat → Int32) : kV (xA m k f) = kV m := rfl
theorem kV_xV (m : tM) (f : Nat → Bool) : kV (xV m f) = f := rfl
theorem xA_tw (m : tM) (b : Nat) (f g : Nat → Int32) : xA (xA m b f) b g = xA m b g := by
  unfold xA
  refine Prod.ext rfl (Prod.ext rfl (Prod.ext (funext fun q => ?_) rfl))
  show (if q = b then g else if q = b then f else _) = if q = b then g else _
  by_cases e : q = b
  · rw [if_pos e, if_pos e]
  · rw [if_neg e, if_neg e, if_neg e]
theorem xI_tw (m : tM) (b : Nat) (x y : Int32) : xI (xI m b x) b y = xI m b y := by
  unfold xI
  refine Prod.ext (funext fun q => ?_) rfl
  show (if q = b then y else if q = b then x else _) = if q = b then y else _
  by_cases e : q = b
  · rw [if_pos e, if_pos e]
  · rw [if_neg e, if_neg e, if_neg e]
theorem xA_eta (m : tM) (b : Nat) : xA m b (kA m b) = m := by
  unfold xA
  refine Prod.ext rfl (Prod.ext rfl (Prod.ext (funext fun q => ?_) rfl))
  show (if q = b then kA m b else _) = _
  by_cases e : q = b
  · rw [if_pos e, e]; rfl
  · rw [if_neg e]
theorem xI_eta (m : tM) (b : Nat) : xI m b (kI m b) = m := by
  unfold xI
  refine Prod.ext (funext fun q => ?_) rfl
  show (if q = b then kI m b else _) = _
  by_cases e : q = b
  · rw [if_pos e, e]; rfl
  · rw [if_neg e]
theorem kA_eq (m : tM) (b : Nat) (f : Nat → Int32) : kA (xA m b f) b = f := if_pos rfl
theorem kA_ne {m : tM} {b q : Nat} {f : Nat → Int32} (h : q ≠ b) : kA (xA m b f) q = kA m q := if_neg h
theorem kI_eq (m : tM) (b : Nat) (x : Int32) : kI (xI m b x) b = x := if_pos rfl
theorem kI_ne {m : tM} {b q : Nat} {x : Int32} (h : q ≠ b) : kI (xI m b x) q = kI m q := if_neg h
def trB (n : Nat) (f : Nat → Bool) : Nat → Int32 := tr32 n fun j => iB (f j)
def cM (m : tM) : Nat → sC
  | 0 => .inr (9, [.int (kI m 0), .ref 318, .int (kI m 2), .int (kI m 3), .int (kI m 4), .int (kI m 5), .int (kI m 6), .int (kI m 7), .int (kI m 8), .int (kI m 9), .int (kI m 10), .ref 319, .ref 320, .int (iB (kB m 13)), .int (kI m 14), .int (kI m 15), .int (kI m 16), .ref 321, .ref 322, .ref 323, .ref 324, .int (kI m 21), .ref 325, .int (kI m 23), .ref 326, .ref 327, .ref 328, .ref 329, .ref 330, .ref 331, .int (kI m 30), .int (kI m 31), .ref 332, .int (kI m 33), .int (kI m 34), .int (kI m 35), .int (kI m 36), .int (kI m 37), .int (kI m 38), .int (kI m 39), .ref 333, .int (iB (kB m 41))])
  | 1 => .inl (0, 400, .inl (tr32 400 (kA m 318)))
  | 2 => .inl (0, 4, .inl (tr32 4 (kA m 319)))
  | 3 => .inl (0, 106, .inl (tr32 106 (kA m 320)))
  | 4 => .inl (0, 4, .inl (tr32 4 (kA m 321)))
  | 5 => .inl (0, 106, .inl (tr32 106 (kA m 322)))
  | 6 => .inl (0, 36, .inl (tr32 36 (kA m 323)))
  | 7 => .inl (0, 160, .inl (tr32 160 (kA m 324)))
  | 8 => .inl (0, 1060, .inl (tr32 1060 (kA m 325)))
  | 9 => .inl (0, 4, .inl (tr32 4 (kA m 326)))
  | 10 => .inl (0, 4, .inl (tr32 4 (kA m 327)))
  | 11 => .inl (1, 4, .inl (trB 4 (kV m)))
  | 12 => .inl (0, 106, .inl (tr32 106 (kA m 329)))
  | 13 => .inl (0, 106, .inl (tr32 106 (kA m 330)))
  | 14 => .inl (0, 36, .inl (tr32 36 (kA m 331)))
  | 15 => .inl (0, 8, .inl (tr32 8 (kA m 332)))
  | _ => .inl (0, 106, .inl (tr32 106 (kA m 333)))
def pM (m : tM) (h : sH) : sH := pC 317 17 (cM m) h
section MST
variable {m : tM} {h : sH} {i x : Int32}
theorem hgM0 : hg (pM m h) 317 = .inr (9, [.int (kI m 0), .ref 318, .int (kI m 2), .int (kI m 3), .int (kI m 4), .int (kI m 5), .int (kI m 6), .int (kI m 7), .int (kI m 8), .int (kI m 9), .int (kI m 10), .ref 319, .ref 320, .int (iB (kB m 13)), .int (kI m 14), .int (kI m 15), .int (kI m 16), .ref 321, .ref 322, .ref 323, .ref 324, .int (kI m 21), .ref 325, .int (kI m 23), .ref 326, .ref 327, .ref 328, .ref 329, .ref 330, .ref 331, .int (kI m 30), .int (kI m 31), .ref 332, .int (kI m 33), .int (kI m 34), .int (kI m 35), .int (kI m 36), .int (kI m 37), .int (kI m 38), .int (kI m 39), .ref 333, .int (iB (kB m 41))]) := hgC0 (by decide)
theorem hgM318 : hg (pM m h) 318 = .inl (0, 400, .inl (tr32 400 (kA m 318))) := hgC (b := 317) (j := 1) (by decide)
theorem hgM319 : hg (pM m h) 319 = .inl (0, 4, .inl (tr32 4 (kA m 319))) := hgC (b := 317) (j := 2) (by decide)
theorem hgM320 : hg (pM m h) 320 = .inl (0, 106, .inl (tr32 106 (kA m 320))) := hgC (b := 317) (j := 3) (by decide)
theorem hgM321 : hg (pM m h) 321 = .inl (0, 4, .inl (tr32 4 (kA m 321))) := hgC (b := 317) (j := 4) (by decide)
theorem hgM322 : hg (pM m h) 322 = .inl (0, 106, .inl (tr32 106 (kA m 322))) := hgC (b := 317) (j := 5) (by decide)
theorem hgM323 : hg (pM m h) 323 = .inl (0, 36, .inl (tr32 36 (kA m 323))) := hgC (b := 317) (j := 6) (by decide)
theorem hgM324 : hg (pM m h) 324 = .inl (0, 160, .inl (tr32 160 (kA m 324))) := hgC (b := 317) (j := 7) (by decide)
theorem hgM325 : hg (pM m h) 325 = .inl (0, 1060, .inl (tr32 1060 (kA m 325))) := hgC (b := 317) (j := 8) (by decide)
theorem hgM326 : hg (pM m h) 326 = .inl (0, 4, .inl (tr32 4 (kA m 326))) := hgC (b := 317) (j := 9) (by decide)
theorem hgM327 : hg (pM m h) 327 = .inl (0, 4, .inl (tr32 4 (kA m 327))) := hgC (b := 317) (j := 10) (by decide)
theorem hgM328 : hg (pM m h) 328 = .inl (1, 4, .inl (trB 4 (kV m))) := hgC (b := 317) (j := 11) (by decide)
theorem hgM329 : hg (pM m h) 329 = .inl (0, 106, .inl (tr32 106 (kA m 329))) := hgC (b := 317) (j := 12) (by decide)
theorem hgM330 : hg (pM m h) 330 = .inl (0, 106, .inl (tr32 106 (kA m 330))) := hgC (b := 317) (j := 13) (by decide)
theorem hgM331 : hg (pM m h) 331 = .inl (0, 36, .inl (tr32 36 (kA m 331))) := hgC (b := 317) (j := 14) (by decide)
theorem hgM332 : hg (pM m h) 332 = .inl (0, 8, .inl (tr32 8 (kA m 332))) := hgC (b := 317) (j := 15) (by decide)
theorem hgM333 : hg (pM m h) 333 = .inl (0, 106, .inl (tr32 106 (kA m 333))) := hgC (b := 317) (j := 16) (by decide)
theorem M_ob {c : Nat} : (oO (pM m h) 317 fun c' _ => c' = c) ↔ 9 = c := by unfold oO; rw [hgM0]
theorem M_g0 {f : Value → Prop} : fG (pM m h) 317 9 0 f ↔ f (.int (kI m 0)) := by unfold fG oO; rw [hgM0]; exact ⟨fun z => z.2, fun z => ⟨rfl, z⟩⟩
theorem M_g1 {f : Value → Prop} : fG (pM m h) 317 9 1 f ↔ f (.ref 318) := by unfold fG oO; rw [hgM0]; exact ⟨fun z => z.2, fun z => ⟨rfl, z⟩⟩
theorem M_g2 {f : Value → Prop} : fG (pM m h) 317 9 2 f ↔ f (.int (kI m 2)) := by unfold fG oO; rw [hgM0]; exact ⟨fun z => z.2, fun z => ⟨rfl, z⟩⟩
theorem M_g3 {f : Value → Prop} : fG (pM m h) 317 9 3 f ↔ f (.int (kI m 3)) := by unfold fG oO; rw [hgM0]; exact ⟨fun z => z.2, fun z => ⟨rfl, z⟩⟩
theorem M_g4 {f : Value → Prop} : fG (pM m h) 317 9 4 f ↔ f (.int (kI m 4)) := by unfold fG oO; rw [hgM0]; exact ⟨fun z => z.2, fun z => ⟨rfl, z⟩⟩
theorem M_g5 {f : Value → Prop} : fG (pM m h) 317 9 5 f ↔ f (.int (kI m 5)) := by unfold fG oO; rw [hgM0]; exact ⟨fun z => z.2, fun z => ⟨rfl, z⟩⟩
theorem M_g6 {f : Value → Prop} : fG (pM m h) 317 9 6 f ↔ f (.int (kI m 6)) := by unfold fG oO; rw [hgM0]; exact ⟨fun z => z.2, fun z => ⟨rfl, z⟩⟩
theorem M_g7 {f : Value → Prop} : fG (pM m h) 317 9 7 f ↔ f (.int (kI m 7)) := by unfold fG oO; rw [hgM0]; exact ⟨fun z => z.2, fun z => ⟨rfl, z⟩⟩
theorem M_g8 {f : Value → Prop} : fG (pM m h) 317 9 8 f ↔ f (.int (kI m 8)) := by unfold fG oO; rw [hgM0]; exact ⟨fun z => z.2, fun z => ⟨rfl, z⟩⟩
theorem M_g9 {f : Value → Prop} : fG (pM m h) 317 9 9 f ↔ f (.int (kI m 9)) := by unfold fG oO; rw [hgM0]; exact ⟨fun z => z.2, fun z => ⟨rfl, z⟩⟩
theorem M_g10 {f : Value → Prop} : fG (pM m h) 317 9 10 f ↔ f (.int (kI m 10)) := by unfold fG oO; rw [hgM0]; exact ⟨fun z => z.2, fun z => ⟨rfl, z⟩⟩
theorem M_g11 {f : Value → Prop} : fG (pM m h) 317 9 11 f ↔ f (.ref 319) := by unfold fG oO; rw [hgM0]; exact ⟨fun z => z.2, fun z => ⟨rfl, z⟩⟩
theorem M_g12 {f : Value → Prop} : fG (pM m h) 317 9 12 f ↔ f (.ref 320) := by unfold fG oO; rw [hgM0]; exact ⟨fun z => z.2, fun z => ⟨rfl, z⟩⟩
theorem M_g13 {f : Value → Prop} : fG (pM m h) 317 9 13 f ↔ f (.int (iB (kB m 13))) := by unfold fG oO; rw [hgM0]; exact ⟨fun z => z.2, fun z => ⟨rfl, z⟩⟩
theorem M_g14 {f : Value → Prop} : fG (pM m h) 317 9 14 f ↔ f (.int (kI m 14)) := by unfold fG oO; rw [hgM0]; exact ⟨fun z => z.2, fun z => ⟨rfl, z⟩⟩
theorem M_g15 {f : Value → Prop} : fG (pM m h) 317 9 15 f ↔ f (.int (kI m 15)) := by unfold fG oO; rw [hgM0]; exact ⟨fun z => z.2, fun z => ⟨rfl, z⟩⟩
theorem M_g16 {f : Value → Prop} : fG (pM m h) 317 9 16 f ↔ f (.int (kI m 16)) := by unfold fG oO; rw [hgM0]; exact ⟨fun z => z.2, fun z => ⟨rfl, z⟩⟩
theorem M_g17 {f : Value → Prop} : fG (pM m h) 317 9 17 f ↔ f (.ref 321) := by unfold fG oO; rw [hgM0]; exact ⟨fun z => z.2, fun z => ⟨rfl, z⟩⟩
theorem M_g18 {f : Value → Prop} : fG (pM m h) 317 9 18 f ↔ f (.ref 322) := by unfold fG oO; rw [hgM0]; exact ⟨fun z => z.2, fun z => ⟨rfl, z⟩⟩
theorem M_g19 {f : Value → Prop} : fG (pM m h) 317 9 19 f ↔ f (.ref 323) := by unfold fG oO; rw [hgM0]; exact ⟨fun z => z.2, fun z => ⟨rfl, z⟩⟩
theorem M_g20 {f : Value → Prop} : fG (pM m h) 317 9 20 f ↔ f (.ref 324) := by unfold fG oO; rw [hgM0]; exact ⟨fun z => z.2, fun z => ⟨rfl, z⟩⟩
theorem M_g21 {f : Value → Prop} : fG (pM m h) 317 9 21 f ↔ f (.int (kI m 21)) := by unfold fG oO; rw [hgM0]; exact ⟨fun z => z.2, fun z => ⟨rfl, z⟩⟩
theorem M_g22 {f : Value → Prop} : fG (pM m h) 317 9 22 f ↔ f (.ref 325) := by unfold fG oO; rw [hgM0]; exact ⟨fun z => z.2, fun z => ⟨rfl, z⟩⟩
theorem M_g23 {f : Value → Prop} : fG (pM m h) 317 9 23 f ↔ f (.int (kI m 23)) := by unfold fG oO; rw [hgM0]; exact ⟨fun z => z.2, fun z => ⟨rfl, z⟩⟩
theorem M_g24 {f : Value → Prop} : fG (pM m h) 317 9 24 f ↔ f (.ref 326) := by unfold fG oO; rw [hgM0]; exact ⟨fun z => z.2, fun z => ⟨rfl, z⟩⟩
theorem M_g25 {f : Value → Prop} : fG (pM m h) 317 9 25 f ↔ f (.ref 327) := by unfold fG oO; rw [hgM0]; exact ⟨fun z => z.2, fun z => ⟨rfl, z⟩⟩
theorem M_g26 {f : Value → Prop} : fG (pM m h) 317 9 26 f ↔ f (.ref 328) := by unfold fG oO; rw [hgM0]; exact ⟨fun z => z.2, fun z => ⟨rfl, z⟩⟩
theorem M_g27 {f : Value → Prop} : fG (pM m h) 317 9 27 f ↔ f (.ref 329) := by unfold fG oO; rw [hgM0]; exact ⟨fun z => z.2, fun z => ⟨rfl, z⟩⟩
theorem M_g28 {f : Value → Prop} : fG (pM m h) 317 9 28 f ↔ f (.ref 330) := by unfold fG oO; rw [hgM0]; exact ⟨fun z => z.2, fun z => ⟨rfl, z⟩⟩
theorem M_g29 {f : Value → Prop} : fG (pM m h) 317 9 29 f ↔ f (.ref 331) := by unfold fG oO; rw [hgM0]; exact ⟨fun z => z.2, fun z => ⟨rfl, z⟩⟩
theorem M_g30 {f : Value → Prop} : fG (pM m h) 317 9 30 f ↔ f (.int (kI m 30)) := by unfold fG oO; rw [hgM0]; exact ⟨fun z => z.2, fun z => ⟨rfl, z⟩⟩
theorem M_g31 {f : Value → Prop} : fG (pM m h) 317 9 31 f ↔ f (.int (kI m 31)) := by unfold fG oO; rw [hgM0]; exact ⟨fun z => z.2, fun z => ⟨rfl, z⟩⟩
theorem M_g32 {f : Value → Prop} : fG (pM m h) 317 9 32 f ↔ f (.ref 332) := by unfold fG oO; rw [hgM0]; exact ⟨fun z => z.2, fun z => ⟨rfl, z⟩⟩
theorem M_g33 {f : Value → Prop} : fG (pM m h) 317 9 33 f ↔ f (.int (kI m 33)) := by unfold fG oO; rw [hgM0]; exact ⟨fun z => z.2, fun z => ⟨rfl, z⟩⟩
theorem M_g34 {f : Value → Prop} : fG (pM m h) 317 9 34 f ↔ f (.int (kI m 34)) := by unfold fG oO; rw [hgM0]; exact ⟨fun z => z.2, fun z => ⟨rfl, z⟩⟩
theorem M_g35 {f : Value → Prop} : fG (pM m h) 317 9 35 f ↔ f (.int (kI m 35)) := by unfold fG oO; rw [hgM0]; exact ⟨fun z => z.2, fun z => ⟨rfl, z⟩⟩
theorem M_g36 {f : Value → Prop} : fG (pM m h) 317 9 36 f ↔ f (.int (kI m 36)) := by unfold fG oO; rw [hgM0]; exact ⟨fun z => z.2, fun z => ⟨rfl, z⟩⟩
theorem M_g37 {f : Value → Prop} : fG (pM m h) 317 9 37 f ↔ f (.int (kI m 37)) := by unfold fG oO; rw [hgM0]; exact ⟨fun z => z.2, fun z => ⟨rfl, z⟩⟩
theorem M_g38 {f : Value → Prop} : fG (pM m h) 317 9 38 f ↔ f (.int (kI m 38)) := by unfold fG oO; rw [hgM0]; exact ⟨fun z => z.2, fun z => ⟨rfl, z⟩⟩
theorem M_g39 {f : Value → Prop} : fG (pM m h) 317 9 39 f ↔ f (.int (kI m 39)) := by unfold fG oO; rw [hgM0]; exact ⟨fun z => z.2, fun z => ⟨rfl, z⟩⟩
theorem M_g40 {f : Value → Prop} : fG (pM m h) 317 9 40 f ↔ f (.ref 333) := by unfold fG oO; rw [hgM0]; exact ⟨fun z => z.2, fun z => ⟨rfl, z⟩⟩
theorem M_g41 {f : Value → Prop} : fG (pM m h) 317 9 41 f ↔ f (.int (iB (kB m 41))) := by unfold fG oO; rw [hgM0]; exact ⟨fun z => z.2, fun z => ⟨rfl, z⟩⟩
theorem hsM_0 : hs (pM m h) 317 (.inr (9, [.int x, .ref 318, .int (kI m 2), .int (kI m 3), .int (kI m 4), .int (kI m 5), .int (kI m 6), .int (kI m 7), .int (kI m 8), .int (kI m 9), .int (kI m 10), .ref 319, .ref 320, .int (iB (kB m 13)), .int (kI m 14), .int (kI m 15), .int (kI m 16), .ref 321, .ref 322, .ref 323, .ref 324, .int (kI m 21), .ref 325, .int (kI m 23), .ref 326, .ref 327, .ref 328, .ref 329, .ref 330, .ref 331, .int (kI m 30), .int (kI m 31), .ref 332, .int (kI m 33), .int (kI m 34), .int (kI m 35), .int (kI m 36), .int (kI m 37), .int (kI m 38), .int (kI m 39), .ref 333, .int (iB (kB m 41))])) = pM (xI m 0 x) h := hsC (b := 317) (j := 0) (by decide) fun i hi => by
  match i, hi with
  | 0, _ => rfl
  | 1, _ => rfl
  | 2, _ => rfl
  | 3, _ => rfl
  | 4, _ => rfl
  | 5, _ => rfl
  | 6, _ => rfl
  | 7, _ => rfl
  | 8, _ => rfl
  | 9, _ => rfl
  | 10, _ => rfl
  | 11, _ => rfl
  | 12, _ => rfl
  | 13, _ => rfl
  | 14, _ => rfl
  | 15, _ => rfl
  | j + 16, hi =>
    have e : j = 0 := by omega
    subst e; rfl
theorem M_s0 {f : sH → Prop} : fS (pM m h) 317 9 0 (.int x) f ↔ f (pM (xI m 0 x) h) := fS_of hgM0 (Nat.le_of_ble_eq_true rfl) rfl rfl hsM_0
theorem hsM_2 : hs (pM m h) 317 (.inr (9, [.int (kI m 0), .ref 318, .int x, .int (kI m 3), .int (kI m 4), .int (kI m 5), .int (kI m 6), .int (kI m 7), .int (kI m 8), .int (kI m 9), .int (kI m 10), .ref 319, .ref 320, .int (iB (kB m 13)), .int (kI m 14), .int (kI m 15), .int (kI m 16), .ref 321, .ref 322, .ref 323, .ref 324, .int (kI m 21), .ref 325, .int (kI m 23), .ref 326, .ref 327, .ref 328, .ref 329, .ref 330, .ref 331, .int (kI m 30), .int (kI m 31), .ref 332, .int (kI m 33), .int (kI m 34), .int (kI m 35), .int (kI m 36), .int (kI m 37), .int (kI m 38), .int (kI m 39), .ref 333, .int (iB (kB m 41))])) = pM (xI m 2 x) h := hsC (b := 317) (j := 0) (by decide) fun i hi => by
  match i, hi with
  | 0, _ => rfl
  | 1, _ => rfl
  | 2, _ => rfl
  | 3, _ => rfl
  | 4, _ => rfl
  | 5, _ => rfl
  | 6, _ => rfl
  | 7, _ => rfl
  | 8, _ => rfl
  | 9, _ => rfl
  | 10, _ => rfl
  | 11, _ => rfl
  | 12, _ => rfl
  | 13, _ => rfl
  | 14, _ => rfl
  | 15, _ => rfl
  | j + 16, hi =>
    have e : j = 0 := by omega
    subst e; rfl
theorem M_s2 {f : sH → Prop} : fS (pM m h) 317 9 2 (.int x) f ↔ f (pM (xI m 2 x) h) := fS_of hgM0 (Nat.le_of_ble_eq_true rfl) rfl rfl hsM_2
theorem hsM_3 : hs (pM m h) 317 (.inr (9, [.int (kI m 0), .ref 318, .int (kI m 2), .int x, .int (kI m 4), .int (kI m 5), .int (kI m 6), .int (kI m 7), .int (kI m 8), .int (kI m 9), .int (kI m 10), .ref 319, .ref 320, .int (iB (kB m 13)), .int (kI m 14), .int (kI m 15), .int (kI m 16), .ref 321, .ref 322, .ref 323, .ref 324, .int (kI m 21), .ref 325, .int (kI m 23), .ref 326, .ref 327, .ref 328, .ref 329, .ref 330, .ref 331, .int (kI m 30), .int (kI m 31), .ref 332, .int (kI m 33), .int (kI m 34), .int (kI m 35), .int (kI m 36), .int (kI m 37), .int (kI m 38), .int (kI m 39), .ref 333, .int (iB (kB m 41))])) = pM (xI m 3 x) h := hsC (b := 317) (j := 0) (by decide) fun i hi => by
  match i, hi with
  | 0, _ => rfl
  | 1, _ => rfl
  | 2, _ => rfl
  | 3, _ => rfl
  | 4, _ => rfl
  | 5, _ => rfl
  | 6, _ => rfl
  | 7, _ => rfl
  | 8, _ => rfl
  | 9, _ => rfl
  | 10, _ => rfl
  | 11, _ => rfl
  | 12, _ => rfl
  | 13, _ => rfl
  | 14, _ => rfl
  | 15, _ => rfl
  | j + 16, hi =>
    have e : j = 0 := by omega
    subst e; rfl
theorem M_s3 {f : sH → Prop} : fS (pM m h) 317 9 3 (.int x) f ↔ f (pM (xI m 3 x) h) := fS_of hgM0 (Nat.le_of_ble_eq_true rfl) rfl rfl hsM_3
theorem hsM_4 : hs (pM m h) 317 (.inr (9, [.int (kI m 0), .ref 318, .int (kI m 2), .int (kI m 3), .int x, .int (kI m 5), .int (kI m 6), .int (kI m 7), .int (kI m 8), .int (kI m 9), .int (kI m 10), .ref 319, .ref 320, .int (iB (kB m 13)), .int (kI m 14), .int (kI m 15), .int (kI m 16), .ref 321, .ref 322, .ref 323, .ref 324, .int (kI m 21), .ref 325, .int (kI m 23), .ref 326, .ref 327, .ref 328, .ref 329, .ref 330, .ref 331, .int (kI m 30), .int (kI m 31), .ref 332, .int (kI m 33), .int (kI m 34), .int (kI m 35), .int (kI m 36), .int (kI m 37), .int (kI m 38), .int (kI m 39), .ref 333, .int (iB (kB m 41))])) = pM (xI m 4 x) h := hsC (b := 317) (j := 0) (by decide) fun i hi => by
  match i, hi with
  | 0, _ => rfl
  | 1, _ => rfl
  | 2, _ => rfl
  | 3, _ => rfl
  | 4, _ => rfl
  | 5, _ => rfl
  | 6, _ => rfl
  | 7, _ => rfl
  | 8, _ => rfl
  | 9, _ => rfl
  | 10, _ => rfl
  | 11, _ => rfl
  | 12, _ => rfl
  | 13, _ => rfl
  | 14, _ => rfl
  | 15, _ => rfl
  | j + 16, hi =>
    have e : j = 0 := by omega
    subst e; rfl
theorem M_s4 {f : sH → Prop} : fS (pM m h) 317 9 4 (.int x) f ↔ f (pM (xI m 4 x) h) := fS_of hgM0 (Nat.le_of_ble_eq_true rfl) rfl rfl hsM_4
theorem hsM_5 : hs (pM m h) 317 (.inr (9, [.int (kI m 0), .ref 318, .int (kI m 2), .int (kI m 3), .int (kI m 4), .int x, .int (kI m 6), .int (kI m 7), .int (kI m 8), .int (kI m 9), .int (kI m 10), .ref 319, .ref 320, .int (iB (kB m 13)), .int (kI m 14), .int (kI m 15), .int (kI m 16), .ref 321, .ref 322, .ref 323, .ref 324, .int (kI m 21), .ref 325, .int (kI m 23), .ref 326, .ref 327, .ref 328, .ref 329, .ref 330, .ref 331, .int (kI m 30), .int (kI m 31), .ref 332, .int (kI m 33), .int (kI m 34), .int (kI m 35), .int (kI m 36), .int (kI m 37), .int (kI m 38), .int (kI m 39), .ref 333, .int (iB (kB m 41))])) = pM (xI m 5 x) h := hsC (b := 317) (j := 0) (by decide) fun i hi => by
  match i, hi with
  | 0, _ => rfl
  | 1, _ => rfl
  | 2, _ => rfl
  | 3, _ => rfl
  | 4, _ => rfl
  | 5, _ => rfl
  | 6, _ => rfl
  | 7, _ => rfl
  | 8, _ => rfl
  | 9, _ => rfl
  | 10, _ => rfl
  | 11, _ => rfl
  | 12, _ => rfl
  | 13, _ => rfl
  | 14, _ => rfl
  | 15, _ => rfl
  | j + 16, hi =>
    have e : j = 0 := by omega
    subst e; rfl
theorem M_s5 {f : sH → Prop} : fS (pM m h) 317 9 5 (.int x) f ↔ f (pM (xI m 5 x) h) := fS_of hgM0 (Nat.le_of_ble_eq_true rfl) rfl rfl hsM_5
theorem hsM_6 : hs (pM m h) 317 (.inr (9, [.int (kI m 0), .ref 318, .int (kI m 2), .int (kI m 3), .int (kI m 4), .int (kI m 5), .int x, .int (kI m 7), .int (kI m 8), .int (kI m 9), .int (kI m 10), .ref 319, .ref 320, .int (iB (kB m 13)), .int (kI m 14), .int (kI m 15), .int (kI m 16), .ref 321, .ref 322, .ref 323, .ref 324, .int (kI m 21), .ref 325, .int (kI m 23), .ref 326, .ref 327, .ref 328, .ref 329, .ref 330, .ref 331, .int (kI m 30), .int (kI m 31), .ref 332, .int (kI m 33), .int (kI m 34), .int (kI m 35), .int (kI m 36), .int (kI m 37), .int (kI m 38), .int (kI m 39), .ref 333, .int (iB (kB m 41))])) = pM (xI m 6 x) h := hsC (b := 317) (j := 0) (by decide) fun i hi => by
  match i, hi with
  | 0, _ => rfl
  | 1, _ => rfl
  | 2, _ => rfl
  | 3, _ => rfl
  | 4, _ => rfl
  | 5, _ => rfl
  | 6, _ => rfl
  | 7, _ => rfl
  | 8, _ => rfl
  | 9, _ => rfl
  | 10, _ => rfl
  | 11, _ => rfl
  | 12, _ => rfl
  | 13, _ => rfl
  | 14, _ => rfl
  | 15, _ => rfl
  | j + 16, hi =>
    have e : j = 0 := by omega
    subst e; rfl
theorem M_s6 {f : sH → Prop} : fS (pM m h) 317 9 6 (.int x) f ↔ f (pM (xI m 6 x) h) := fS_of hgM0 (Nat.le_of_ble_eq_true rfl) rfl rfl hsM_6
theorem hsM_7 : hs (pM m h) 317 (.inr (9, [.int (kI m 0), .ref 318, .int (kI m 2), .int (kI m 3), .int (kI m 4), .int (kI m 5), .int (kI m 6), .int x, .int (kI m 8), .int (kI m 9), .int (kI m 10), .ref 319, .ref 320, .int (iB (kB m 13)), .int (kI m 14), .int (kI m 15), .int (kI m 16), .ref 321, .ref 322, .ref 323, .ref 324, .int (kI m 21), .ref 325, .int (kI m 23), .ref 326, .ref 327, .ref 328, .ref 329, .ref 330, .ref 331, .int (kI m 30), .int (kI m 31), .ref 332, .int (kI m 33), .int (kI m 34), .int (kI m 35), .int (kI m 36), .int (kI m 37), .int (kI m 38), .int (kI m 39), .ref 333, .int (iB (kB m 41))])) = pM (xI m 7 x) h := hsC (b := 317) (j := 0) (by decide) fun i hi => by
  match i, hi with
  | 0, _ => rfl
  | 1, _ => rfl
  | 2, _ => rfl
  | 3, _ => rfl
  | 4, _ => rfl
  | 5, _ => rfl
  | 6, _ => rfl
  | 7, _ => rfl
  | 8, _ => rfl
  | 9, _ => rfl
  | 10, _ => rfl
  | 11, _ => rfl
  | 12, _ => rfl
  | 13, _ => rfl
  | 14, _ => rfl
  | 15, _ => rfl
  | j + 16, hi =>
    have e : j = 0 := by omega
    subst e; rfl
theorem M_s7 {f : sH → Prop} : fS (pM m h) 317 9 7 (.int x) f ↔ f (pM (xI m 7 x) h) := fS_of hgM0 (Nat.le_of_ble_eq_true rfl) rfl rfl hsM_7
theorem hsM_8 : hs (pM m h) 317 (.inr (9, [.int (kI m 0), .ref 318, .int (kI m 2), .int (kI m 3), .int (kI m 4), .int (kI m 5), .int (kI m 6), .int (kI m 7), .int x, .int (kI m 9), .int (kI m 10), .ref 319, .ref 320, .int (iB (kB m 13)), .int (kI m 14), .int (kI m 15), .int (kI m 16), .ref 321, .ref 322, .ref 323, .ref 324, .int (kI m 21), .ref 325, .int (kI m 23), .ref 326, .ref 327, .ref 328, .ref 329, .ref 330, .ref 331, .int (kI m 30), .int (kI m 31), .ref 332, .int (kI m 33), .int (kI m 34), .int (kI m 35), .int (kI m 36), .int (kI m 37), .int (kI m 38), .int (kI m 39), .ref 333, .int (iB (kB m 41))])) = pM (xI m 8 x) h := hsC (b := 317) (j := 0) (by decide) fun i hi => by
  match i, hi with
  | 0, _ => rfl
  | 1, _ => rfl
  | 2, _ => rfl
  | 3, _ => rfl
  | 4, _ => rfl
  | 5, _ => rfl
  | 6, _ => rfl
  | 7, _ => rfl
  | 8, _ => rfl
  | 9, _ => rfl
  | 10, _ => rfl
  | 11, _ => rfl
  | 12, _ => rfl
  | 13, _ => rfl
  | 14, _ => rfl
  | 15, _ => rfl
  | j + 16, hi =>
    have e : j = 0 := by omega
    subst e; rfl
theorem M_s8 {f : sH → Prop} : fS (pM m h) 317 9 8 (.int x) f ↔ f (pM (xI m 8 x) h) := fS_of hgM0 (Nat.le_of_ble_eq_true rfl) rfl rfl hsM_8
theorem hsM_9 : hs (pM m h) 317 (.inr (9, [.int (kI m 0), .ref 318, .int (kI m 2), .int (kI m 3), .int (kI m 4), .int (kI m 5), .int (kI m 6), .int (kI m 7), .int (kI m 8), .int x, .int (kI m 10), .ref 319, .ref 320, .int (iB (kB m 13)), .int (kI m 14), .int (kI m 15), .int (kI m 16), .ref 321, .ref 322, .ref 323, .ref 324, .int (kI m 21), .ref 325, .int (kI m 23), .ref 326, .ref 327, .ref 328, .ref 329, .ref 330, .ref 331, .int (kI m 30), .int (kI m 31), .ref 332, .int (kI m 33), .int (kI m 34), .int (kI m 35), .int (kI m 36), .int (kI m 37), .int (kI m 38), .int (kI m 39), .ref 333, .int (iB (kB m 41))])) = pM (xI m 9 x) h := hsC (b := 317) (j := 0) (by decide) fun i hi => by
  match i, hi with
  | 0, _ => rfl
  | 1, _ => rfl
  | 2, _ => rfl
  | 3, _ => rfl
  | 4, _ => rfl
  | 5, _ => rfl
  | 6, _ => rfl
  | 7, _ => rfl
  | 8, _ => rfl
  | 9, _ => rfl
  | 10, _ => rfl
  | 11, _ => rfl
  | 12, _ => rfl
  | 13, _ => rfl
  | 14, _ => rfl
  | 15, _ => rfl
  | j + 16, hi =>
    have e : j = 0 := by omega
    subst e; rfl
theorem M_s9 {f : sH → Prop} : fS (pM m h) 317 9 9 (.int x) f ↔ f (pM (xI m 9 x) h) := fS_of hgM0 (Nat.le_of_ble_eq_true rfl) rfl rfl hsM_9
theorem hsM_10 : hs (pM m h) 317 (.inr (9, [.int (kI m 0), .ref 318, .int (kI m 2), .int (kI m 3), .int (kI m 4), .int (kI m 5), .int (kI m 6), .int (kI m 7), .int (kI m 8), .int (kI m 9), .int x, .ref 319, .ref 320, .int (iB (kB m 13)), .int (kI m 14), .int (kI m 15), .int (kI m 16), .ref 321, .ref 322, .ref 323, .ref 324, .int (kI m 21), .ref 325, .int (kI m 23), .ref 326, .ref 327, .ref 328, .ref 329, .ref 330, .ref 331, .int (kI m 30), .int (kI m 31), .ref 332, .int (kI m 33), .int (kI m 34), .int (kI m 35), .int (kI m 36), .int (kI m 37), .int (kI m 38), .int (kI m 39), .ref 333, .int (iB (kB m 41))])) = pM (xI m 10 x) h := hsC (b := 317) (j := 0) (by decide) fun i hi => by
  match i, hi with
  | 0, _ => rfl
  | 1, _ => rfl
  | 2, _ => rfl
  | 3, _ => rfl
  | 4, _ => rfl
  | 5, _ => rfl
  | 6, _ => rfl
  | 7, _ => rfl
  | 8, _ => rfl
  | 9, _ => rfl
  | 10, _ => rfl
  | 11, _ => rfl
  | 12, _ => rfl
  | 13, _ => rfl
  | 14, _ => rfl
  | 15, _ => rfl
  | j + 16, hi =>
    have e : j = 0 := by omega
    subst e; rfl
theorem M_s10 {f : sH → Prop} : fS (pM m h) 317 9 10 (.int x) f ↔ f (pM (xI m 10 x) h) := fS_of hgM0 (Nat.le_of_ble_eq_true rfl) rfl rfl hsM_10
theorem hsM_14 : hs (pM m h) 317 (.inr (9, [.int (kI m 0), .ref 318, .int (kI m 2), .int (kI m 3), .int (kI m 4), .int (kI m 5), .int (kI m 6), .int (kI m 7), .int (kI m 8), .int (kI m 9), .int (kI m 10), .ref 319, .ref 320, .int (iB (kB m 13)), .int x, .int (kI m 15), .int (kI m 16), .ref 321, .ref 322, .ref 323, .ref 324, .int (kI m 21), .ref 325, .int (kI m 23), .ref 326, .ref 327, .ref 328, .ref 329, .ref 330, .ref 331, .int (kI m 30), .int (kI m 31), .ref 332, .int (kI m 33), .int (kI m 34), .int (kI m 35), .int (kI m 36), .int (kI m 37), .int (kI m 38), .int (kI m 39), .ref 333, .int (iB (kB m 41))])) = pM (xI m 14 x) h := hsC (b := 317) (j := 0) (by decide) fun i hi => by
  match i, hi with
  | 0, _ => rfl
  | 1, _ => rfl
  | 2, _ => rfl
  | 3, _ => rfl
  | 4, _ => rfl
  | 5, _ => rfl
  | 6, _ => rfl
  | 7, _ => rfl
  | 8, _ => rfl
  | 9, _ => rfl
  | 10, _ => rfl
  | 11, _ => rfl
  | 12, _ => rfl
  | 13, _ => rfl
  | 14, _ => rfl
  | 15, _ => rfl
  | j + 16, hi =>
    have e : j = 0 := by omega
    subst e; rfl
theorem M_s14 {f : sH → Prop} : fS (pM m h) 317 9 14 (.int x) f ↔ f (pM (xI m 14 x) h) := fS_of hgM0 (Nat.le_of_ble_eq_true rfl) rfl rfl hsM_14
theorem hsM_15 : hs (pM m h) 317 (.inr (9, [.int (kI m 0), .ref 318, .int (kI m 2), .int (kI m 3), .int (kI m 4), .int (kI m 5), .int (kI m 6), .int (kI m 7), .int (kI m 8), .int (kI m 9), .int (kI m 10), .ref 319, .ref 320, .int (iB (kB m 13)), .int (kI m 14), .int x, .int (kI m 16), .ref 321, .ref 322, .ref 323, .ref 324, .int (kI m 21), .ref 325, .int (kI m 23), .ref 326, .ref 327, .ref 328, .ref 329, .ref 330, .ref 331, .int (kI m 30), .int (kI m 31), .ref 332, .int (kI m 33), .int (kI m 34), .int (kI m 35), .int (kI m 36), .int (kI m 37), .int (kI m 38), .int (kI m 39), .ref 333, .int (iB (kB m 41))])) = pM (xI m 15 x) h := hsC (b := 317) (j := 0) (by decide) fun i hi => by
  match i, hi with
  | 0, _ => rfl
  | 1, _ => rfl
  | 2, _ => rfl
  | 3, _ => rfl
  | 4, _ => rfl
  | 5, _ => rfl
  | 6, _ => rfl
  | 7, _ => rfl
  | 8, _ => rfl
  | 9, _ => rfl
  | 10, _ => rfl
  | 11, _ => rfl
  | 12, _ => rfl
  | 13, _ => rfl
  | 14, _ => rfl
  | 15, _ => rfl
  | j + 16, hi =>
    have e : j = 0 := by omega
    subst e; rfl
theorem M_s15 {f : sH → Prop} : fS (pM m h) 317 9 15 (.int x) f ↔ f (pM (xI m 15 x) h) := fS_of hgM0 (Nat.le_of_ble_eq_true rfl) rfl rfl hsM_15
theorem hsM_16 : hs (pM m h) 317 (.inr (9, [.int (kI m 0), .ref 318, .int (kI m 2), .int (kI m 3), .int (kI m 4), .int (kI m 5), .int (kI m 6), .int (kI m 7), .int (kI m 8), .int (kI m 9), .int (kI m 10), .ref 319, .ref 320, .int (iB (kB m 13)), .int (kI m 14), .int (kI m 15), .int x, .ref 321, .ref 322, .ref 323, .ref 324, .int (kI m 21), .ref 325, .int (kI m 23), .ref 326, .ref 327, .ref 328, .ref 329, .ref 330, .ref 331, .int (kI m 30), .int (kI m 31), .ref 332, .int (kI m 33), .int (kI m 34), .int (kI m 35), .int (kI m 36), .int (kI m 37), .int (kI m 38), .int (kI m 39), .ref 333, .int (iB (kB m 41))])) = pM (xI m 16 x) h := hsC (b := 317) (j := 0) (by decide) fun i hi => by
  match i, hi with
  | 0, _ => rfl
  | 1, _ => rfl
  | 2, _ => rfl
  | 3, _ => rfl
  | 4, _ => rfl
  | 5, _ => rfl
  | 6, _ => rfl
  | 7, _ => rfl
  | 8, _ => rfl
  | 9, _ => rfl
  | 10, _ => rfl
  | 11, _ => rfl
  | 12, _ => rfl
  | 13, _ => rfl
  | 14, _ => rfl
  | 15, _ => rfl
  | j + 16, hi =>
    have e : j = 0 := by omega
    subst e; rfl
theorem M_s16 {f : sH → Prop} : fS (pM m h) 317 9 16 (.int x) f ↔ f (pM (xI m 16 x) h) := fS_of hgM0 (Nat.le_of_ble_eq_true rfl) rfl rfl hsM_16
theorem hsM_21 : hs (pM m h) 317 (.inr (9, [.int (kI m 0), .ref 318, .int (kI m 2), .int (kI m 3), .int (kI m 4), .int (kI m 5), .int (kI m 6), .int (kI m 7), .int (kI m 8), .int (kI m 9), .int (kI m 10), .ref 319, .ref 320, .int (iB (kB m 13)), .int (kI m 14), .int (kI m 15), .int (kI m 16), .ref 321, .ref 322, .ref 323, .ref 324, .int x, .ref 325, .int (kI m 23), .ref 326, .ref 327, .ref 328, .ref 329, .ref 330, .ref 331, .int (kI m 30), .int (kI m 31), .ref 332, .int (kI m 33), .int (kI m 34), .int (kI m 35), .int (kI m 36), .int (kI m 37), .int (kI m 38), .int (kI m 39), .ref 333, .int (iB (kB m 41))])) = pM (xI m 21 x) h := hsC (b := 317) (j := 0) (by decide) fun i hi => by
  match i, hi with
  | 0, _ => rfl
  | 1, _ => rfl
  | 2, _ => rfl
  | 3, _ => rfl
  | 4, _ => rfl
  | 5, _ => rfl
  | 6, _ => rfl
  | 7, _ => rfl
  | 8, _ => rfl
  | 9, _ => rfl
  | 10, _ => rfl
  | 11, _ => rfl
  | 12, _ => rfl
  | 13, _ => rfl
  | 14, _ => rfl
  | 15, _ => rfl
  | j + 16, hi =>
    have e : j = 0 := by omega
    subst e; rfl
theorem M_s21 {f : sH → Prop} : fS (pM m h) 317 9 21 (.int x) f ↔ f (pM (xI m 21 x) h) := fS_of hgM0 (Nat.le_of_ble_eq_true rfl) rfl rfl hsM_21
theorem hsM_23 : hs (pM m h) 317 (.inr (9, [.int (kI m 0), .ref 318, .int (kI m 2), .int (kI m 3), .int (kI m 4), .int (kI m 5), .int (kI m 6), .int (kI m 7), .int (kI m 8), .int (kI m 9), .int (kI m 10), .ref 319, .ref 320, .int (iB (kB m 13)), .int (kI m 14), .int (kI m 15), .int (kI m 16), .ref 321, .ref 322, .ref 323, .ref 324, .int (kI m 21), .ref 325, .int x, .ref 326, .ref 327, .ref 328, .ref 329, .ref 330, .ref 331, .int (kI m 30), .int (kI m 31), .ref 332, .int (kI m 33), .int (kI m 34), .int (kI m 35), .int (kI m 36), .int (kI m 37), .int (kI m 38), .int (kI m 39), .ref 333, .int (iB (kB m 41))])) = pM (xI m 23 x) h := hsC (b := 317) (j := 0) (by decide) fun i hi => by
  match i, hi with
  | 0, _ => rfl
  | 1, _ => rfl
  | 2, _ => rfl
  | 3, _ => rfl
  | 4, _ => rfl
  | 5, _ => rfl
  | 6, _ => rfl
  | 7, _ => rfl
  | 8, _ => rfl
  | 9, _ => rfl
  | 10, _ => rfl
  | 11, _ => rfl
  | 12, _ => rfl
  | 13, _ => rfl
  | 14, _ => rfl
  | 15, _ => rfl
  | j + 16, hi =>
    have e : j = 0 := by omega
    subst e; rfl
theorem M_s23 {f : sH → Prop} : fS (pM m h) 317 9 23 (.int x) f ↔ f (pM (xI m 23 x) h) := fS_of hgM0 (Nat.le_of_ble_eq_true rfl) rfl rfl hsM_23
theorem hsM_30 : hs (pM m h) 317 (.inr (9, [.int (kI m 0), .ref 318, .int (kI m 2), .int (kI m 3), .int (kI m 4), .int (kI m 5), .int (kI m 6), .int (kI m 7), .int (kI m 8), .int (kI m 9), .int (kI m 10), .ref 319, .ref 320, .int (iB (kB m 13)), .int (kI m 14), .int (kI m 15), .int (kI m 16), .ref 321, .ref 322, .ref 323, .ref 324, .int (kI m 21), .ref 325, .int (kI m 23), .ref 326, .ref 327, .ref 328, .ref 329, .ref 330, .ref 331, .int x, .int (kI m 31), .ref 332, .int (kI m 33), .int (kI m 34), .int (kI m 35), .int (kI m 36), .int (kI m 37), .int (kI m 38), .int (kI m 39), .ref 333, .int (iB (kB m 41))])) = pM (xI m 30 x) h := hsC (b := 317) (j := 0) (by decide) fun i hi => by
  match i, hi with
  | 0, _ => rfl
  | 1, _ => rfl
  | 2, _ => rfl
  | 3, _ => rfl
  | 4, _ => rfl
  | 5, _ => rfl
  | 6, _ => rfl
  | 7, _ => rfl
  | 8, _ => rfl
  | 9, _ => rfl
  | 10, _ => rfl
  | 11, _ => rfl
  | 12, _ => rfl
  | 13, _ => rfl
  | 14, _ => rfl
  | 15, _ => rfl
  | j + 16, hi =>
    have e : j = 0 := by omega
    subst e; rfl
theorem M_s30 {f : sH → Prop} : fS (pM m h) 317 9 30 (.int x) f ↔ f (pM (xI m 30 x) h) := fS_of hgM0 (Nat.le_of_ble_eq_true rfl) rfl rfl hsM_30
theorem hsM_31 : hs (pM m h) 317 (.inr (9, [.int (kI m 0), .ref 318, .int (kI m 2), .int (kI m 3), .int (kI m 4), .int (kI m 5), .int (kI m 6), .int (kI m 7), .int (kI m 8), .int (kI m 9), .int (kI m 10), .ref 319, .ref 320, .int (iB (kB m 13)), .int (kI m 14), .int (kI m 15), .int (kI m 16), .ref 321, .ref 322, .ref 323, .ref 324, .int (kI m 21), .ref 325, .int (kI m 23), .ref 326, .ref 327, .ref 328, .ref 329, .ref 330, .ref 331, .int (kI m 30), .int x, .ref 332, .int (kI m 33), .int (kI m 34), .int (kI m 35), .int (kI m 36), .int (kI m 37), .int (kI m 38), .int (kI m 39), .ref 333, .int (iB (kB m 41))])) = pM (xI m 31 x) h := hsC (b := 317) (j := 0) (by decide) fun i hi => by
  match i, hi with
  | 0, _ => rfl
  | 1, _ => rfl
  | 2, _ => rfl
  | 3, _ => rfl
  | 4, _ => rfl
  | 5, _ => rfl
  | 6, _ => rfl
  | 7, _ => rfl
  | 8, _ => rfl
  | 9, _ => rfl
  | 10, _ => rfl
  | 11, _ => rfl
  | 12, _ => rfl
  | 13, _ => rfl
  | 14, _ => rfl
  | 15, _ => rfl
  | j + 16, hi =>
    have e : j = 0 := by omega
    subst e; rfl
theorem M_s31 {f : sH → Prop} : fS (pM m h) 317 9 31 (.int x) f ↔ f (pM (xI m 31 x) h) := fS_of hgM0 (Nat.le_of_ble_eq_true rfl) rfl rfl hsM_31
theorem hsM_33 : hs (pM m h) 317 (.inr (9, [.int (kI m 0), .ref 318, .int (kI m 2), .int (kI m 3), .int (kI m 4), .int (kI m 5), .int (kI m 6), .int (kI m 7), .int (kI m 8), .int (kI m 9), .int (kI m 10), .ref 319, .ref 320, .int (iB (kB m 13)), .int (kI m 14), .int (kI m 15), .int (kI m 16), .ref 321, .ref 322, .ref 323, .ref 324, .int (kI m 21), .ref 325, .int (kI m 23), .ref 326, .ref 327, .ref 328, .ref 329, .ref 330, .ref 331, .int (kI m 30), .int (kI m 31), .ref 332, .int x, .int (kI m 34), .int (kI m 35), .int (kI m 36), .int (kI m 37), .int (kI m 38), .int (kI m 39), .ref 333, .int (iB (kB m 41))])) = pM (xI m 33 x) h := hsC (b := 317) (j := 0) (by decide) fun i hi => by
  match i, hi with
  | 0, _ => rfl
  | 1, _ => rfl
  | 2, _ => rfl
  | 3, _ => rfl
  | 4, _ => rfl
  | 5, _ => rfl
  | 6, _ => rfl
  | 7, _ => rfl
  | 8, _ => rfl
  | 9, _ => rfl
  | 10, _ => rfl
  | 11, _ => rfl
  | 12, _ => rfl
  | 13, _ => rfl
  | 14, _ => rfl
  | 15, _ => rfl
  | j + 16, hi =>
    have e : j = 0 := by omega
    subst e; rfl
theorem M_s33 {f : sH → Prop} : fS (pM m h) 317 9 33 (.int x) f ↔ f (pM (xI m 33 x) h) := fS_of hgM0 (Nat.le_of_ble_eq_true rfl) rfl rfl hsM_33
theorem hsM_34 : hs (pM m h) 317 (.inr (9, [.int (kI m 0), .ref 318, .int (kI m 2), .int (kI m 3), .int (kI m 4), .int (kI m 5), .int (kI m 6), .int (kI m 7), .int (kI m 8), .int (kI m 9), .int (kI m 10), .ref 319, .ref 320, .int (iB (kB m 13)), .int (kI m 14), .int (kI m 15), .int (kI m 16), .ref 321, .ref 322, .ref 323, .ref 324, .int (kI m 21), .ref 325, .int (kI m 23), .ref 326, .ref 327, .ref 328, .ref 329, .ref 330, .ref 331, .int (kI m 30), .int (kI m 31), .ref 332, .int (kI m 33), .int x, .int (kI m 35), .int (kI m 36), .int (kI m 37), .int (kI m 38), .int (kI m 39), .ref 333, .int (iB (kB m 41))])) = pM (xI m 34 x) h := hsC (b := 317) (j := 0) (by decide) fun i hi => by
  match i, hi with
  | 0, _ => rfl
  | 1, _ => rfl
  | 2, _ => rfl
  | 3, _ => rfl
  | 4, _ => rfl
  | 5, _ => rfl
  | 6, _ => rfl
  | 7, _ => rfl
  | 8, _ => rfl
  | 9, _ => rfl
  | 10, _ => rfl
  | 11, _ => rfl
  | 12, _ => rfl
  | 13, _ => rfl
  | 14, _ => rfl
  | 15, _ => rfl
  | j + 16, hi =>
    have e : j = 0 := by omega
    subst e; rfl
theorem M_s34 {f : sH → Prop} : fS (pM m h) 317 9 34 (.int x) f ↔ f (pM (xI m 34 x) h) := fS_of hgM0 (Nat.le_of_ble_eq_true rfl) rfl rfl hsM_34
theorem hsM_35 : hs (pM m h) 317 (.inr (9, [.int (kI m 0), .ref 318, .int (kI m 2), .int (kI m 3), .int (kI m 4), .int (kI m 5), .int (kI m 6), .int (kI m 7), .int (kI m 8), .int (kI m 9), .int (kI m 10), .ref 319, .ref 320, .int (iB (kB m 13)), .int (kI m 14), .int (kI m 15), .int (kI m 16), .ref 321, .ref 322, .ref 323, .ref 324, .int (kI m 21), .ref 325, .int (kI m 23), .ref 326, .ref 327, .ref 328, .ref 329, .ref 330, .ref 331, .int (kI m 30), .int (kI m 31), .ref 332, .int (kI m 33), .int (kI m 34), .int x, .int (kI m 36), .int (kI m 37), .int (kI m 38), .int (kI m 39), .ref 333, .int (iB (kB m 41))])) = pM (xI m 35 x) h := hsC (b := 317) (j := 0) (by decide) fun i hi => by
  match i, hi with
  | 0, _ => rfl
  | 1, _ => rfl
  | 2, _ => rfl
  | 3, _ => rfl
  | 4, _ => rfl
  | 5, _ => rfl
  | 6, _ => rfl
  | 7, _ => rfl
  | 8, _ => rfl
  | 9, _ => rfl
  | 10, _ => rfl
  | 11, _ => rfl
  | 12, _ => rfl
  | 13, _ => rfl
  | 14, _ => rfl
  | 15, _ => rfl
  | j + 16, hi =>
    have e : j = 0 := by omega
    subst e; rfl
theorem M_s35 {f : sH → Prop} : fS (pM m h) 317 9 35 (.int x) f ↔ f (pM (xI m 35 x) h) := fS_of hgM0 (Nat.le_of_ble_eq_true rfl) rfl rfl hsM_35
theorem hsM_36 : hs (pM m h) 317 (.inr (9, [.int (kI m 0), .ref 318, .int (kI m 2), .int (kI m 3), .int (kI m 4), .int (kI m 5), .int (kI m 6), .int (kI m 7), .int (kI m 8), .int (kI m 9), .int (kI m 10), .ref 319, .ref 320, .int (iB (kB m 13)), .int (kI m 14), .int (kI m 15), .int (kI m 16), .ref 321, .ref 322, .ref 323, .ref 324, .int (kI m 21), .ref 325, .int (kI m 23), .ref 326, .ref 327, .ref 328, .ref 329, .ref 330, .ref 331, .int (kI m 30), .int (kI m 31), .ref 332, .int (kI m 33), .int (kI m 34), .int (kI m 35), .int x, .int (kI m 37), .int (kI m 38), .int (kI m 39), .ref 333, .int (iB (kB m 41))])) = pM (xI m 36 x) h := hsC (b := 317) (j := 0) (by decide) fun i hi => by
  match i, hi with
  | 0, _ => rfl
  | 1, _ => rfl
  | 2, _ => rfl
  | 3, _ => rfl
  | 4, _ => rfl
  | 5, _ => rfl
  | 6, _ => rfl
  | 7, _ => rfl
  | 8, _ => rfl
  | 9, _ => rfl
  | 10, _ => rfl
  | 11, _ => rfl
  | 12, _ => rfl
  | 13, _ => rfl
  | 14, _ => rfl
  | 15, _ => rfl
  | j + 16, hi =>
    have e : j = 0 := by omega
    subst e; rfl
theorem M_s36 {f : sH → Prop} : fS (pM m h) 317 9 36 (.int x) f ↔ f (pM (xI m 36 x) h) := fS_of hgM0 (Nat.le_of_ble_eq_true rfl) rfl rfl hsM_36
theorem hsM_37 : hs (pM m h) 317 (.inr (9, [.int (kI m 0), .ref 318, .int (kI m 2), .int (kI m 3), .int (kI m 4), .int (kI m 5), .int (kI m 6), .int (kI m 7), .int (kI m 8), .int (kI m 9), .int (kI m 10), .ref 319, .ref 320, .int (iB (kB m 13)), .int (kI m 14), .int (kI m 15), .int (kI m 16), .ref 321, .ref 322, .ref 323, .ref 324, .int (kI m 21), .ref 325, .int (kI m 23), .ref 326, .ref 327, .ref 328, .ref 329, .ref 330, .ref 331, .int (kI m 30), .int (kI m 31), .ref 332, .int (kI m 33), .int (kI m 34), .int (kI m 35), .int (kI m 36), .int x, .int (kI m 38), .int (kI m 39), .ref 333, .int (iB (kB m 41))])) = pM (xI m 37 x) h := hsC (b := 317) (j := 0) (by decide) fun i hi => by
  match i, hi with
  | 0, _ => rfl
  | 1, _ => rfl
  | 2, _ => rfl
  | 3, _ => rfl
  | 4, _ => rfl
  | 5, _ => rfl
  | 6, _ => rfl
  | 7, _ => rfl
  | 8, _ => rfl
  | 9, _ => rfl
  | 10, _ => rfl
  | 11, _ => rfl
  | 12, _ => rfl
  | 13, _ => rfl
  | 14, _ => rfl
  | 15, _ => rfl
  | j + 16, hi =>
    have e : j = 0 := by omega
    subst e; rfl
theorem M_s37 {f : sH → Prop} : fS (pM m h) 317 9 37 (.int x) f ↔ f (pM (xI m 37 x) h) := fS_of hgM0 (Nat.le_of_ble_eq_true rfl) rfl rfl hsM_37
theorem hsM_38 : hs (pM m h) 317 (.inr (9, [.int (kI m 0), .ref 318, .int (kI m 2), .int (kI m 3), .int (kI m 4), .int (kI m 5), .int (kI m 6), .int (kI m 7), .int (kI m 8), .int (kI m 9), .int (kI m 10), .ref 319, .ref 320, .int (iB (kB m 13)), .int (kI m 14), .int (kI m 15), .int (kI m 16), .ref 321, .ref 322, .ref 323, .ref 324, .int (kI m 21), .ref 325, .int (kI m 23), .ref 326, .ref 327, .ref 328, .ref 329, .ref 330, .ref 331, .int (kI m 30), .int (kI m 31), .ref 332, .int (kI m 33), .int (kI m 34), .int (kI m 35), .int (kI m 36), .int (kI m 37), .int x, .int (kI m 39), .ref 333, .int (iB (kB m 41))])) = pM (xI m 38 x) h := hsC (b := 317) (j := 0) (by decide) fun i hi => by
  match i, hi with
  | 0, _ => rfl
  | 1, _ => rfl
  | 2, _ => rfl
  | 3, _ => rfl
  | 4, _ => rfl
  | 5, _ => rfl
  | 6, _ => rfl
  | 7, _ => rfl
  | 8, _ => rfl
  | 9, _ => rfl
  | 10, _ => rfl
  | 11, _ => rfl
  | 12, _ => rfl
  | 13, _ => rfl
  | 14, _ => rfl
  | 15, _ => rfl
  | j + 16, hi =>
    have e : j = 0 := by omega
    subst e; rfl
theorem M_s38 {f : sH → Prop} : fS (pM m h) 317 9 38 (.int x) f ↔ f (pM (xI m 38 x) h) := fS_of hgM0 (Nat.le_of_ble_eq_true rfl) rfl rfl hsM_38
theorem hsM_39 : hs (pM m h) 317 (.inr (9, [.int (kI m 0), .ref 318, .int (kI m 2), .int (kI m 3), .int (kI m 4), .int (kI m 5), .int (kI m 6), .int (kI m 7), .int (kI m 8), .int (kI m 9), .int (kI m 10), .ref 319, .ref 320, .int (iB (kB m 13)), .int (kI m 14), .int (kI m 15), .int (kI m 16), .ref 321, .ref 322, .ref 323, .ref 324, .int (kI m 21), .ref 325, .int (kI m 23), .ref 326, .ref 327, .ref 328, .ref 329, .ref 330, .ref 331, .int (kI m 30), .int (kI m 31), .ref 332, .int (kI m 33), .int (kI m 34), .int (kI m 35), .int (kI m 36), .int (kI m 37), .int (kI m 38), .int x, .ref 333, .int (iB (kB m 41))])) = pM (xI m 39 x) h := hsC (b := 317) (j := 0) (by decide) fun i hi => by
  match i, hi with
  | 0, _ => rfl
  | 1, _ => rfl
  | 2, _ => rfl
  | 3, _ => rfl
  | 4, _ => rfl
  | 5, _ => rfl
  | 6, _ => rfl
  | 7, _ => rfl
  | 8, _ => rfl
  | 9, _ => rfl
  | 10, _ => rfl
  | 11, _ => rfl
  | 12, _ => rfl
  | 13, _ => rfl
  | 14, _ => rfl
  | 15, _ => rfl
  | j + 16, hi =>
    have e : j = 0 := by omega
    subst e; rfl
theorem M_s39 {f : sH → Prop} : fS (pM m h) 317 9 39 (.int x) f ↔ f (pM (xI m 39 x) h) := fS_of hgM0 (Nat.le_of_ble_eq_true rfl) rfl rfl hsM_39
theorem hsM_13 {v : Bool} : hs (pM m h) 317 (.inr (9, [.int (kI m 0), .ref 318, .int (kI m 2), .int (kI m 3), .int (kI m 4), .int (kI m 5), .int (kI m 6), .int (kI m 7), .int (kI m 8), .int (kI m 9), .int (kI m 10), .ref 319, .ref 320, .int (iB v), .int (kI m 14), .int (kI m 15), .int (kI m 16), .ref 321, .ref 322, .ref 323, .ref 324, .int (kI m 21), .ref 325, .int (kI m 23), .ref 326, .ref 327, .ref 328, .ref 329, .ref 330, .ref 331, .int (kI m 30), .int (kI m 31), .ref 332, .int (kI m 33), .int (kI m 34), .int (kI m 35), .int (kI m 36), .int (kI m 37), .int (kI m 38), .int (kI m 39), .ref 333, .int (iB (kB m 41))])) = pM (xB m 13 v) h := hsC (b := 317) (j := 0) (by decide) fun i hi => by
  match i, hi with
  | 0, _ => rfl
  | 1, _ => rfl
  | 2, _ => rfl
  | 3, _ => rfl
  | 4, _ => rfl
  | 5, _ => rfl
  | 6, _ => rfl
  | 7, _ => rfl
  | 8, _ => rfl
  | 9, _ => rfl
  | 10, _ => rfl
  | 11, _ => rfl
  | 12, _ => rfl
  | 13, _ => rfl
  | 14, _ => rfl
  | 15, _ => rfl
  | j + 16, hi =>
    have e : j = 0 := by omega
    subst e; rfl
theorem M_s13 {v : Bool} {f : sH → Prop} : fS (pM m h) 317 9 13 (.int (iB v)) f ↔ f (pM (xB m 13 v) h) := fS_of hgM0 (Nat.le_of_ble_eq_true rfl) (nbB.mpr trivial) (by cases v <;> rfl) hsM_13
theorem M_s13t {f : sH → Prop} : fS (pM m h) 317 9 13 (.int (nI 1)) f ↔ f (pM (xB m 13 true) h) := fS_of hgM0 (Nat.le_of_ble_eq_true rfl) rfl rfl (hsM_13 (v := true))
theorem M_s13f {f : sH → Prop} : fS (pM m h) 317 9 13 (.int (nI 0)) f ↔ f (pM (xB m 13 false) h) := fS_of hgM0 (Nat.le_of_ble_eq_true rfl) rfl rfl (hsM_13 (v := false))
theorem hsM_41 {v : Bool} : hs (pM m h) 317 (.inr (9, [.int (kI m 0), .ref 318, .int (kI m 2), .int (kI m 3), .int (kI m 4), .int (kI m 5), .int (kI m 6), .int (kI m 7), .int (kI m 8), .int (kI m 9), .int (kI m 10), .ref 319, .ref 320, .int (iB (kB m 13)), .int (kI m 14), .int (kI m 15), .int (kI m 16), .ref 321, .ref 322, .ref 323, .ref 324, .int (kI m 21), .ref 325, .int (kI m 23), .ref 326, .ref 327, .ref 328, .ref 329, .ref 330, .ref 331, .int (kI m 30), .int (kI m 31), .ref 332, .int (kI m 33), .int (kI m 34), .int (kI m 35), .int (kI m 36), .int (kI m 37), .int (kI m 38), .int (kI m 39), .ref 333, .int (iB v)])) = pM (xB m 41 v) h := hsC (b := 317) (j := 0) (by decide) fun i hi => by
  match i, hi with
  | 0, _ => rfl
  | 1, _ => rfl
  | 2, _ => rfl
  | 3, _ => rfl
  | 4, _ => rfl
  | 5, _ => rfl
  | 6, _ => rfl
  | 7, _ => rfl
  | 8, _ => rfl
  | 9, _ => rfl
  | 10, _ => rfl
  | 11, _ => rfl
  | 12, _ => rfl
  | 13, _ => rfl
  | 14, _ => rfl
  | 15, _ => rfl
  | j + 16, hi =>
    have e : j = 0 := by omega
    subst e; rfl
theorem M_s41 {v : Bool} {f : sH → Prop} : fS (pM m h) 317 9 41 (.int (iB v)) f ↔ f (pM (xB m 41 v) h) := fS_of hgM0 (Nat.le_of_ble_eq_true rfl) (nbB.mpr trivial) (by cases v <;> rfl) hsM_41
theorem M_s41t {f : sH → Prop} : fS (pM m h) 317 9 41 (.int (nI 1)) f ↔ f (pM (xB m 41 true) h) := fS_of hgM0 (Nat.le_of_ble_eq_true rfl) rfl rfl (hsM_41 (v := true))
theorem M_s41f {f : sH → Prop} : fS (pM m h) 317 9 41 (.int (nI 0)) f ↔ f (pM (xB m 41 false) h) := fS_of hgM0 (Nat.le_of_ble_eq_true rfl) rfl rfl (hsM_41 (v := false))
theorem M_a318 {f : Int32 → Prop} : aG (pM m h) 318 i f ↔ vp_in i 400 ∧ f (kA m 318 i.toNatClampNeg) := by
  unfold aG oI; rw [hgM318]
  exact ⟨fun z => ⟨z.2.1, by have := z.2.2; rwa [tr_in (vp_lt z.2.1)] at this⟩, fun z => ⟨Or.inl rfl, z.1, by rw [tr_in (vp_lt z.1)]; exact z.2⟩⟩
theorem M_n318 {f : Int32 → Prop} : aL (pM m h) 318 f ↔ f (nI 400) := by
  unfold aL oA; rw [hgM318]
  exact ⟨fun z => z.2, fun z => ⟨Or.inl (by decide), z⟩⟩
theorem hsMa318 {g : Nat → Int32} : hs (pM m h) 318 (.inl (0, 400, .inl (tr32 400 g))) = pM (xA m 318 g) h := hsC (b := 317) (j := 1) (by decide) fun i hi => by
  match i, hi with
  | 0, _ => rfl
  | 1, _ => rfl
  | 2, _ => rfl
  | 3, _ => rfl
  | 4, _ => rfl
  | 5, _ => rfl
  | 6, _ => rfl
  | 7, _ => rfl
  | 8, _ => rfl
  | 9, _ => rfl
  | 10, _ => rfl
  | 11, _ => rfl
  | 12, _ => rfl
  | 13, _ => rfl
  | 14, _ => rfl
  | 15, _ => rfl
  | j + 16, hi =>
    have e : j = 0 := by omega
    subst e; rfl
theorem M_w318 {f : sH → Prop} : aS (pM m h) 318 i x f ↔ vp_in i 400 ∧ f (pM (xA m 318 (upd (kA m 318) i.toNatClampNeg x)) h) := by
  unfold aS oI; rw [hgM318]
  constructor
  · exact fun z => ⟨z.2.1, by have := z.2.2; rw [tr_upd (vp_lt z.2.1), hsMa318] at this; exact this⟩
  · exact fun z => ⟨rfl, z.1, by rw [tr_upd (vp_lt z.1), hsMa318]; exact z.2⟩
theorem M_a319 {f : Int32 → Prop} : aG (pM m h) 319 i f ↔ vp_in i 4 ∧ f (kA m 319 i.toNatClampNeg) := by
  unfold aG oI; rw [hgM319]
  exact ⟨fun z => ⟨z.2.1, by have := z.2.2; rwa [tr_in (vp_lt z.2.1)] at this⟩, fun z => ⟨Or.inl rfl, z.1, by rw [tr_in (vp_lt z.1)]; exact z.2⟩⟩
theorem M_n319 {f : Int32 → Prop} : aL (pM m h) 319 f ↔ f (nI 4) := by
  unfold aL oA; rw [hgM319]
  exact ⟨fun z => z.2, fun z => ⟨Or.inl (by decide), z⟩⟩
theorem hsMa319 {g : Nat → Int32} : hs (pM m h) 319 (.inl (0, 4, .inl (tr32 4 g))) = pM (xA m 319 g) h := hsC (b := 317) (j := 2) (by decide) fun i hi => by
  match i, hi with
  | 0, _ => rfl
  | 1, _ => rfl
  | 2, _ => rfl
  | 3, _ => rfl
  | 4, _ => rfl
  | 5, _ => rfl
  | 6, _ => rfl
  | 7, _ => rfl
  | 8, _ => rfl
  | 9, _ => rfl
  | 10, _ => rfl
  | 11, _ => rfl
  | 12, _ => rfl
  | 13, _ => rfl
  | 14, _ => rfl
  | 15, _ => rfl
  | j + 16, hi =>
    have e : j = 0 := by omega
    subst e; rfl
theorem M_w319 {f : sH → Prop} : aS (pM m h) 319 i x f ↔ vp_in i 4 ∧ f (pM (xA m 319 (upd (kA m 319) i.toNatClampNeg x)) h) := by
  unfold aS oI; rw [hgM319]
  constructor
  · exact fun z => ⟨z.2.1, by have := z.2.2; rw [tr_upd (vp_lt z.2.1), hsMa319] at this; exact this⟩
  · exact fun z => ⟨rfl, z.1, by rw [tr_upd (vp_lt z.1), hsMa319]; exact z.2⟩
theorem M_a320 {f : Int32 → Prop} : aG (pM m h) 320 i f ↔ vp_in i 106 ∧ f (kA m 320 i.toNatClampNeg) := by
  unfold aG oI; rw [hgM320]
  exact ⟨fun z => ⟨z.2.1, by have := z.2.2; rwa [tr_in (vp_lt z.2.1)] at this⟩, fun z => ⟨Or.inl rfl, z.1, by rw [tr_in (vp_lt z.1)]; exact z.2⟩⟩
theorem M_n320 {f : Int32 → Prop} : aL (pM m h) 320 f ↔ f (nI 106) := by
  unfold aL oA; rw [hgM320]
  exact ⟨fun z => z.2, fun z => ⟨Or.inl (by decide), z⟩⟩
theorem hsMa320 {g : Nat → Int32} : hs (pM m h) 320 (.inl (0, 106, .inl (tr32 106 g))) = pM (xA m 320 g) h := hsC (b := 317) (j := 3) (by decide) fun i hi => by
  match i, hi with
  | 0, _ => rfl
  | 1, _ => rfl
  | 2, _ => rfl
  | 3, _ => rfl
  | 4, _ => rfl
  | 5, _ => rfl
  | 6, _ => rfl
  | 7, _ => rfl
  | 8, _ => rfl
  | 9, _ => rfl
  | 10, _ => rfl
  | 11, _ => rfl
  | 12, _ => rfl
  | 13, _ => rfl
  | 14, _ => rfl
  | 15, _ => rfl
  | j + 16, hi =>
    have e : j = 0 := by omega
    subst e; rfl
theorem M_w320 {f : sH → Prop} : aS (pM m h) 320 i x f ↔ vp_in i 106 ∧ f (pM (xA m 320 (upd (kA m 320) i.toNatClampNeg x)) h) := by
  unfold aS oI; rw [hgM320]
  constructor
  · exact fun z => ⟨z.2.1, by have := z.2.2; rw [tr_upd (vp_lt z.2.1), hsMa320] at this; exact this⟩
  · exact fun z => ⟨rfl, z.1, by rw [tr_upd (vp_lt z.1), hsMa320]; exact z.2⟩
theorem M_a321 {f : Int32 → Prop} : aG (pM m h) 321 i f ↔ vp_in i 4 ∧ f (kA m 321 i.toNatClampNeg) := by
  unfold aG oI; rw [hgM321]
  exact ⟨fun z => ⟨z.2.1, by have := z.2.2; rwa [tr_in (vp_lt z.2.1)] at this⟩, fun z => ⟨Or.inl rfl, z.1, by rw [tr_in (vp_lt z.1)]; exact z.2⟩⟩
theorem M_n321 {f : Int32 → Prop} : aL (pM m h) 321 f ↔ f (nI 4) := by
  unfold aL oA; rw [hgM321]
  exact ⟨fun z => z.2, fun z => ⟨Or.inl (by decide), z⟩⟩
theorem hsMa321 {g : Nat → Int32} : hs (pM m h) 321 (.inl (0, 4, .inl (tr32 4 g))) = pM (xA m 321 g) h := hsC (b := 317) (j := 4) (by decide) fun i hi => by
  match i, hi with
  | 0, _ => rfl
  | 1, _ => rfl
  | 2, _ => rfl
  | 3, _ => rfl
  | 4, _ => rfl
  | 5, _ => rfl
  | 6, _ => rfl
  | 7, _ => rfl
  | 8, _ => rfl
  | 9, _ => rfl
  | 10, _ => rfl
  | 11, _ => rfl
  | 12, _ => rfl
  | 13, _ => rfl
  | 14, _ => rfl
  | 15, _ => rfl
  | j + 16, hi =>
    have e : j = 0 := by omega
    subst e; rfl
theorem M_w321 {f : sH → Prop} : aS (pM m h) 321 i x f ↔ vp_in i 4 ∧ f (pM (xA m 321 (upd (kA m 321) i.toNatClampNeg x)) h) := by
  unfold aS oI; rw [hgM321]
  constructor
  · exact fun z => ⟨z.2.1, by have := z.2.2; rw [tr_upd (vp_lt z.2.1), hsMa321] at this; exact this⟩
  · exact fun z => ⟨rfl, z.1, by rw [tr_upd (vp_lt z.1), hsMa321]; exact z.2⟩
theorem M_a322 {f : Int32 → Prop} : aG (pM m h) 322 i f ↔ vp_in i 106 ∧ f (kA m 322 i.toNatClampNeg) := by
  unfold aG oI; rw [hgM322]
  exact ⟨fun z => ⟨z.2.1, by have := z.2.2; rwa [tr_in (vp_lt z.2.1)] at this⟩, fun z => ⟨Or.inl rfl, z.1, by rw [tr_in (vp_lt z.1)]; exact z.2⟩⟩
theorem M_n322 {f : Int32 → Prop} : aL (pM m h) 322 f ↔ f (nI 106) := by
  unfold aL oA; rw [hgM322]
  exact ⟨fun z => z.2, fun z => ⟨Or.inl (by decide), z⟩⟩
theorem hsMa322 {g : Nat → Int32} : hs (pM m h) 322 (.inl (0, 106, .inl (tr32 106 g))) = pM (xA m 322 g) h := hsC (b := 317) (j := 5) (by decide) fun i hi => by
  match i, hi with
  | 0, _ => rfl
  | 1, _ => rfl
  | 2, _ => rfl
  | 3, _ => rfl
  | 4, _ => rfl
  | 5, _ => rfl
  | 6, _ => rfl
  | 7, _ => rfl
  | 8, _ => rfl
  | 9, _ => rfl
  | 10, _ => rfl
  | 11, _ => rfl
  | 12, _ => rfl
  | 13, _ => rfl
  | 14, _ => rfl
  | 15, _ => rfl
  | j + 16, hi =>
    have e : j = 0 := by omega
    subst e; rfl
theorem M_w322 {f : sH → Prop} : aS (pM m h) 322 i x f ↔ vp_in i 106 ∧ f (pM (xA m 322 (upd (kA m 322) i.toNatClampNeg x)) h) := by
  unfold aS oI; rw [hgM322]
  constructor
  · exact fun z => ⟨z.2.1, by have := z.2.2; rw [tr_upd (vp_lt z.2.1), hsMa322] at this; exact this⟩
  · exact fun z => ⟨rfl, z.1, by rw [tr_upd (vp_lt z.1), hsMa322]; exact z.2⟩
theorem M_a323 {f : Int32 → Prop} : aG (pM m h) 323 i f ↔ vp_in i 36 ∧ f (kA m 323 i.toNatClampNeg) := by
  unfold aG oI; rw [hgM323]
  exact ⟨fun z => ⟨z.2.1, by have := z.2.2; rwa [tr_in (vp_lt z.2.1)] at this⟩, fun z => ⟨Or.inl rfl, z.1, by rw [tr_in (vp_lt z.1)]; exact z.2⟩⟩
theorem M_n323 {f : Int32 → Prop} : aL (pM m h) 323 f ↔ f (nI 36) := by
  unfold aL oA; rw [hgM323]
  exact ⟨fun z => z.2, fun z => ⟨Or.inl (by decide), z⟩⟩
theorem hsMa323 {g : Nat → Int32} : hs (pM m h) 323 (.inl (0, 36, .inl (tr32 36 g))) = pM (xA m 323 g) h := hsC (b := 317) (j := 6) (by decide) fun i hi => by
  match i, hi with
  | 0, _ => rfl
  | 1, _ => rfl
  | 2, _ => rfl
  | 3, _ => rfl
  | 4, _ => rfl
  | 5, _ => rfl
  | 6, _ => rfl
  | 7, _ => rfl
  | 8, _ => rfl
  | 9, _ => rfl
  | 10, _ => rfl
  | 11, _ => rfl
  | 12, _ => rfl
  | 13, _ => rfl
  | 14, _ => rfl
  | 15, _ => rfl
  | j + 16, hi =>
    have e : j = 0 := by omega
    subst e; rfl
theorem M_w323 {f : sH → Prop} : aS (pM m h) 323 i x f ↔ vp_in i 36 ∧ f (pM (xA m 323 (upd (kA m 323) i.toNatClampNeg x)) h) := by
  unfold aS oI; rw [hgM323]
  constructor
  · exact fun z => ⟨z.2.1, by have := z.2.2; rw [tr_upd (vp_lt z.2.1), hsMa323] at this; exact this⟩
  · exact fun z => ⟨rfl, z.1, by rw [tr_upd (vp_lt z.1), hsMa323]; exact z.2⟩
theorem M_a324 {f : Int32 → Prop} : aG (pM m h) 324 i f ↔ vp_in i 160 ∧ f (kA m 324 i.toNatClampNeg) := by
  unfold aG oI; rw [hgM324]
  exact ⟨fun z => ⟨z.2.1, by have := z.2.2; rwa [tr_in (vp_lt z.2.1)] at this⟩, fun z => ⟨Or.inl rfl, z.1, by rw [tr_in (vp_lt z.1)]; exact z.2⟩⟩
theorem M_n324 {f : Int32 → Prop} : aL (pM m h) 324 f ↔ f (nI 160) := by
  unfold aL oA; rw [hgM324]
  exact ⟨fun z => z.2, fun z => ⟨Or.inl (by decide), z⟩⟩
theorem hsMa324 {g : Nat → Int32} : hs (pM m h) 324 (.inl (0, 160, .inl (tr32 160 g))) = pM (xA m 324 g) h := hsC (b := 317) (j := 7) (by decide) fun i hi => by
  match i, hi with
  | 0, _ => rfl
  | 1, _ => rfl
  | 2, _ => rfl
  | 3, _ => rfl
  | 4, _ => rfl
  | 5, _ => rfl
  | 6, _ => rfl
  | 7, _ => rfl
  | 8, _ => rfl
  | 9, _ => rfl
  | 10, _ => rfl
  | 11, _ => rfl
  | 12, _ => rfl
  | 13, _ => rfl
  | 14, _ => rfl
  | 15, _ => rfl
  | j + 16, hi =>
    have e : j = 0 := by omega
    subst e; rfl
theorem M_w324 {f : sH → Prop} : aS (pM m h) 324 i x f ↔ vp_in i 160 ∧ f (pM (xA m 324 (upd (kA m 324) i.toNatClampNeg x)) h) := by
  unfold aS oI; rw [hgM324]
  constructor
  · exact fun z => ⟨z.2.1, by have := z.2.2; rw [tr_upd (vp_lt z.2.1), hsMa324] at this; exact this⟩
  · exact fun z => ⟨rfl, z.1, by rw [tr_upd (vp_lt z.1), hsMa324]; exact z.2⟩
theorem M_a325 {f : Int32 → Prop} : aG (pM m h) 325 i f ↔ vp_in i 1060 ∧ f (kA m 325 i.toNatClampNeg) := by
  unfold aG oI; rw [hgM325]
  exact ⟨fun z => ⟨z.2.1, by have := z.2.2; rwa [tr_in (vp_lt z.2.1)] at this⟩, fun z => ⟨Or.inl rfl, z.1, by rw [tr_in (vp_lt z.1)]; exact z.2⟩⟩
theorem M_n325 {f : Int32 → Prop} : aL (pM m h) 325 f ↔ f (nI 1060) := by
  unfold aL oA; rw [hgM325]
  exact ⟨fun z => z.2, fun z => ⟨Or.inl (by decide), z⟩⟩
theorem hsMa325 {g : Nat → Int32} : hs (pM m h) 325 (.inl (0, 1060, .inl (tr32 1060 g))) = pM (xA m 325 g) h := hsC (b := 317) (j := 8) (by decide) fun i hi => by
  match i, hi with
  | 0, _ => rfl
  | 1, _ => rfl
  | 2, _ => rfl
  | 3, _ => rfl
  | 4, _ => rfl
  | 5, _ => rfl
  | 6, _ => rfl
  | 7, _ => rfl
  | 8, _ => rfl
  | 9, _ => rfl
  | 10, _ => rfl
  | 11, _ => rfl
  | 12, _ => rfl
  | 13, _ => rfl
  | 14, _ => rfl
  | 15, _ => rfl
  | j + 16, hi =>
    have e : j = 0 := by omega
    subst e; rfl
theorem M_w325 {f : sH → Prop} : aS (pM m h) 325 i x f ↔ vp_in i 1060 ∧ f (pM (xA m 325 (upd (kA m 325) i.toNatClampNeg x)) h) := by
  unfold aS oI; rw [hgM325]
  constructor
  · exact fun z => ⟨z.2.1, by have := z.2.2; rw [tr_upd (vp_lt z.2.1), hsMa325] at this; exact this⟩
  · exact fun z => ⟨rfl, z.1, by rw [tr_upd (vp_lt z.1), hsMa325]; exact z.2⟩
theorem M_a326 {f : Int32 → Prop} : aG (pM m h) 326 i f ↔ vp_in i 4 ∧ f (kA m 326 i.toNatClampNeg) := by
  unfold aG oI; rw [hgM326]
  exact ⟨fun z => ⟨z.2.1, by have := z.2.2; rwa [tr_in (vp_lt z.2.1)] at this⟩, fun z => ⟨Or.inl rfl, z.1, by rw [tr_in (vp_lt z.1)]; exact z.2⟩⟩
theorem M_n326 {f : Int32 → Prop} : aL (pM m h) 326 f ↔ f (nI 4) := by
  unfold aL oA; rw [hgM326]
  exact ⟨fun z => z.2, fun z => ⟨Or.inl (by decide), z⟩⟩
theorem hsMa326 {g : Nat → Int32} : hs (pM m h) 326 (.inl (0, 4, .inl (tr32 4 g))) = pM (xA m 326 g) h := hsC (b := 317) (j := 9) (by decide) fun i hi => by
  match i, hi with
  | 0, _ => rfl
  | 1, _ => rfl
  | 2, _ => rfl
  | 3, _ => rfl
  | 4, _ => rfl
  | 5, _ => rfl
  | 6, _ => rfl
  | 7, _ => rfl
  | 8, _ => rfl
  | 9, _ => rfl
  | 10, _ => rfl
  | 11, _ => rfl
  | 12, _ => rfl
  | 13, _ => rfl
  | 14, _ => rfl
  | 15, _ => rfl
  | j + 16, hi =>
    have e : j = 0 := by omega
    subst e; rfl
theorem M_w326 {f : sH → Prop} : aS (pM m h) 326 i x f ↔ vp_in i 4 ∧ f (pM (xA m 326 (upd (kA m 326) i.toNatClampNeg x)) h) := by
  unfold aS oI; rw [hgM326]
  constructor
  · exact fun z => ⟨z.2.1, by have := z.2.2; rw [tr_upd (vp_lt z.2.1), hsMa326] at this; exact this⟩
  · exact fun z => ⟨rfl, z.1, by rw [tr_upd (vp_lt z.1), hsMa326]; exact z.2⟩
theorem M_a327 {f : Int32 → Prop} : aG (pM m h) 327 i f ↔ vp_in i 4 ∧ f (kA m 327 i.toNatClampNeg) := by
  unfold aG oI; rw [hgM327]
  exact ⟨fun z => ⟨z.2.1, by have := z.2.2; rwa [tr_in (vp_lt z.2.1)] at this⟩, fun z => ⟨Or.inl rfl, z.1, by rw [tr_in (vp_lt z.1)]; exact z.2⟩⟩
theorem M_n327 {f : Int32 → Prop} : aL (pM m h) 327 f ↔ f (nI 4) := by
  unfold aL oA; rw [hgM327]
  exact ⟨fun z => z.2, fun z => ⟨Or.inl (by decide), z⟩⟩
theorem hsMa327 {g : Nat → Int32} : hs (pM m h) 327 (.inl (0, 4, .inl (tr32 4 g))) = pM (xA m 327 g) h := hsC (b := 317) (j := 10) (by decide) fun i hi => by
  match i, hi with
  | 0, _ => rfl
  | 1, _ => rfl
  | 2, _ => rfl
  | 3, _ => rfl
  | 4, _ => rfl
  | 5, _ => rfl
  | 6, _ => rfl
  | 7, _ => rfl
  | 8, _ => rfl
  | 9, _ => rfl
  | 10, _ => rfl
  | 11, _ => rfl
  | 12, _ => rfl
  | 13, _ => rfl
  | 14, _ => rfl
  | 15, _ => rfl
  | j + 16, hi =>
    have e : j = 0 := by omega
    subst e; rfl
theorem M_w327 {f : sH → Prop} : aS (pM m h) 327 i x f ↔ vp_in i 4 ∧ f (pM (xA m 327 (upd (kA m 327) i.toNatClampNeg x)) h) := by
  unfold aS oI; rw [hgM327]
  constructor
  · exact fun z => ⟨z.2.1, by have := z.2.2; rw [tr_upd (vp_lt z.2.1), hsMa327] at this; exact this⟩
  · exact fun z => ⟨rfl, z.1, by rw [tr_upd (vp_lt z.1), hsMa327]; exact z.2⟩
theorem M_a329 {f : Int32 → Prop} : aG (pM m h) 329 i f ↔ vp_in i 106 ∧ f (kA m 329 i.toNatClampNeg) := by
  unfold aG oI; rw [hgM329]
  exact ⟨fun z => ⟨z.2.1, by have := z.2.2; rwa [tr_in (vp_lt z.2.1)] at this⟩, fun z => ⟨Or.inl rfl, z.1, by rw [tr_in (vp_lt z.1)]; exact z.2⟩⟩
theorem M_n329 {f : Int32 → Prop} : aL (pM m h) 329 f ↔ f (nI 106) := by
  unfold aL oA; rw [hgM329]
  exact ⟨fun z => z.2, fun z => ⟨Or.inl (by decide), z⟩⟩
theorem hsMa329 {g : Nat → Int32} : hs (pM m h) 329 (.inl (0, 106, .inl (tr32 106 g))) = pM (xA m 329 g) h := hsC (b := 317) (j := 12) (by decide) fun i hi => by
  match i, hi with
  | 0, _ => rfl
  | 1, _ => rfl
  | 2, _ => rfl
  | 3, _ => rfl
  | 4, _ => rfl
  | 5, _ => rfl
  | 6, _ => rfl
  | 7, _ => rfl
  | 8, _ => rfl
  | 9, _ => rfl
  | 10, _ => rfl
  | 11, _ => rfl
  | 12, _ => rfl
  | 13, _ => rfl
  | 14, _ => rfl
  | 15, _ => rfl
  | j + 16, hi =>
    have e : j = 0 := by omega
    subst e; rfl
theorem M_w329 {f : sH → Prop} : aS (pM m h) 329 i x f ↔ vp_in i 106 ∧ f (pM (xA m 329 (upd (kA m 329) i.toNatClampNeg x)) h) := by
  unfold aS oI; rw [hgM329]
  constructor
  · exact fun z => ⟨z.2.1, by have := z.2.2; rw [tr_upd (vp_lt z.2.1), hsMa329] at this; exact this⟩
  · exact fun z => ⟨rfl, z.1, by rw [tr_upd (vp_lt z.1), hsMa329]; exact z.2⟩
theorem M_a330 {f : Int32 → Prop} : aG (pM m h) 330 i f ↔ vp_in i 106 ∧ f (kA m 330 i.toNatClampNeg) := by
  unfold aG oI; rw [hgM330]
  exact ⟨fun z => ⟨z.2.1, by have := z.2.2; rwa [tr_in (vp_lt z.2.1)] at this⟩, fun z => ⟨Or.inl rfl, z.1, by rw [tr_in (vp_lt z.1)]; exact z.2⟩⟩
theorem M_n330 {f : Int32 → Prop} : aL (pM m h) 330 f ↔ f (nI 106) := by
  unfold aL oA; rw [hgM330]
  exact ⟨fun z => z.2, fun z => ⟨Or.inl (by decide), z⟩⟩
theorem hsMa330 {g : Nat → Int32} : hs (pM m h) 330 (.inl (0, 106, .inl (tr32 106 g))) = pM (xA m 330 g) h := hsC (b := 317) (j := 13) (by decide) fun i hi => by
  match i, hi with
  | 0, _ => rfl
  | 1, _ => rfl
  | 2, _ => rfl
  | 3, _ => rfl
  | 4, _ => rfl
  | 5, _ => rfl
  | 6, _ => rfl
  | 7, _ => rfl
  | 8, _ => rfl
  | 9, _ => rfl
  | 10, _ => rfl
  | 11, _ => rfl
  | 12, _ => rfl
  | 13, _ => rfl
  | 14, _ => rfl
  | 15, _ => rfl
  | j + 16, hi =>
    have e : j = 0 := by omega
    subst e; rfl
theorem M_w330 {f : sH → Prop} : aS (pM m h) 330 i x f ↔ vp_in i 106 ∧ f (pM (xA m 330 (upd (kA m 330) i.toNatClampNeg x)) h) := by
  unfold aS oI; rw [hgM330]
  constructor
  · exact fun z => ⟨z.2.1, by have := z.2.2; rw [tr_upd (vp_lt z.2.1), hsMa330] at this; exact this⟩
  · exact fun z => ⟨rfl, z.1, by rw [tr_upd (vp_lt z.1), hsMa330]; exact z.2⟩
theorem M_a331 {f : Int32 → Prop} : aG (pM m h) 331 i f ↔ vp_in i 36 ∧ f (kA m 331 i.toNatClampNeg) := by
  unfold aG oI; rw [hgM331]
  exact ⟨fun z => ⟨z.2.1, by have := z.2.2; rwa [tr_in (vp_lt z.2.1)] at this⟩, fun z => ⟨Or.inl rfl, z.1, by rw [tr_in (vp_lt z.1)]; exact z.2⟩⟩
theorem M_n331 {f : Int32 → Prop} : aL (pM m h) 331 f ↔ f (nI 36) := by
  unfold aL oA; rw [hgM331]
  exact ⟨fun z => z.2, fun z => ⟨Or.inl (by decide), z⟩⟩
theorem hsMa331 {g : Nat → Int32} : hs (pM m h) 331 (.inl (0, 36, .inl (tr32 36 g))) = pM (xA m 331 g) h := hsC (b := 317) (j := 14) (by decide) fun i hi => by
  match i, hi with
  | 0, _ => rfl
  | 1, _ => rfl
  | 2, _ => rfl
  | 3, _ => rfl
  | 4, _ => rfl
  | 5, _ => rfl
  | 6, _ => rfl
  | 7, _ => rfl
  | 8, _ => rfl
  | 9, _ => rfl
  | 10, _ => rfl
  | 11, _ => rfl
  | 12, _ => rfl
  | 13, _ => rfl
  | 14, _ => rfl
  | 15, _ => rfl
  | j + 16, hi =>
    have e : j = 0 := by omega
    subst e; rfl
theorem M_w331 {f : sH → Prop} : aS (pM m h) 331 i x f ↔ vp_in i 36 ∧ f (pM (xA m 331 (upd (kA m 331) i.toNatClampNeg x)) h) := by
  unfold aS oI; rw [hgM331]
  constructor
  · exact fun z => ⟨z.2.1, by have := z.2.2; rw [tr_upd (vp_lt z.2.1), hsMa331] at this; exact this⟩
  · exact fun z => ⟨rfl, z.1, by rw [tr_upd (vp_lt z.1), hsMa331]; exact z.2⟩
theorem M_a332 {f : Int32 → Prop} : aG (pM m h) 332 i f ↔ vp_in i 8 ∧ f (kA m 332 i.toNatClampNeg) := by
  unfold aG oI; rw [hgM332]
  exact ⟨fun z => ⟨z.2.1, by have := z.2.2; rwa [tr_in (vp_lt z.2.1)] at this⟩, fun z => ⟨Or.inl rfl, z.1, by rw [tr_in (vp_lt z.1)]; exact z.2⟩⟩
theorem M_n332 {f : Int32 → Prop} : aL (pM m h) 332 f ↔ f (nI 8) := by
  unfold aL oA; rw [hgM332]
  exact ⟨fun z => z.2, fun z => ⟨Or.inl (by decide), z⟩⟩
theorem hsMa332 {g : Nat → Int32} : hs (pM m h) 332 (.inl (0, 8, .inl (tr32 8 g))) = pM (xA m 332 g) h := hsC (b := 317) (j := 15) (by decide) fun i hi => by
  match i, hi with
  | 0, _ => rfl
  | 1, _ => rfl
  | 2, _ => rfl
  | 3, _ => rfl
  | 4, _ => rfl
  | 5, _ => rfl
  | 6, _ => rfl
  | 7, _ => rfl
  | 8, _ => rfl
  | 9, _ => rfl
  | 10, _ => rfl
  | 11, _ => rfl
  | 12, _ => rfl
  | 13, _ => rfl
  | 14, _ => rfl
  | 15, _ => rfl
  | j + 16, hi =>
    have e : j = 0 := by omega
    subst e; rfl
theorem M_w332 {f : sH → Prop} : aS (pM m h) 332 i x f ↔ vp_in i 8 ∧ f (pM (xA m 332 (upd (kA m 332) i.toNatClampNeg x)) h) := by
  unfold aS oI; rw [hgM332]
  constructor
  · exact fun z => ⟨z.2.1, by have := z.2.2; rw [tr_upd (vp_lt z.2.1), hsMa332] at this; exact this⟩
  · exact fun z => ⟨rfl, z.1, by rw [tr_upd (vp_lt z.1), hsMa332]; exact z.2⟩
theorem M_a333 {f : Int32 → Prop} : aG (pM m h) 333 i f ↔ vp_in i 106 ∧ f (kA m 333 i.toNatClampNeg) := by
  unfold aG oI; rw [hgM333]
  exact ⟨fun z => ⟨z.2.1, by have := z.2.2; rwa [tr_in (vp_lt z.2.1)] at this⟩, fun z => ⟨Or.inl rfl, z.1, by rw [tr_in (vp_lt z.1)]; exact z.2⟩⟩
theorem M_n333 {f : Int32 → Prop} : aL (pM m h) 333 f ↔ f (nI 106) := by
  unfold aL oA; rw [hgM333]
  exact ⟨fun z => z.2, fun z => ⟨Or.inl (by decide), z⟩⟩
theorem hsMa333 {g : Nat → Int32} : hs (pM m h) 333 (.inl (0, 106, .inl (tr32 106 g))) = pM (xA m 333 g) h := hsC (b := 317) (j := 16) (by decide) fun i hi => by
  match i, hi with
  | 0, _ => rfl
  | 1, _ => rfl
  | 2, _ => rfl
  | 3, _ => rfl
  | 4, _ => rfl
  | 5, _ => rfl
  | 6, _ => rfl
  | 7, _ => rfl
  | 8, _ => rfl
  | 9, _ => rfl
  | 10, _ => rfl
  | 11, _ => rfl
  | 12, _ => rfl
  | 13, _ => rfl
  | 14, _ => rfl
  | 15, _ => rfl
  | j + 16, hi =>
    have e : j = 0 := by omega
    subst e; rfl
theorem M_w333 {f : sH → Prop} : aS (pM m h) 333 i x f ↔ vp_in i 106 ∧ f (pM (xA m 333 (upd (kA m 333) i.toNatClampNeg x)) h) := by
  unfold aS oI; rw [hgM333]
  constructor
  · exact fun z => ⟨z.2.1, by have := z.2.2; rw [tr_upd (vp_lt z.2.1), hsMa333] at this; exact this⟩
  · exact fun z => ⟨rfl, z.1, by rw [tr_upd (vp_lt z.1), hsMa333]; exact z.2⟩
theorem M_a328 {f : Int32 → Prop} : zG (pM m h) 328 i f ↔ vp_in i 4 ∧ f (iB (kV m i.toNatClampNeg)) := by
  unfold zG oI; rw [hgM328]
  unfold trB
  exact ⟨fun z => ⟨z.2.1, by have := z.2.2; rwa [tr_in (vp_lt z.2.1)] at this⟩, fun z => ⟨rfl, z.1, by rw [tr_in (vp_lt z.1)]; exact z.2⟩⟩
theorem hsMa328 {g : Nat → Bool} : hs (pM m h) 328 (.inl (1, 4, .inl (trB 4 g))) = pM (xV m g) h := hsC (b := 317) (j := 11) (by decide) fun i hi => by
  match i, hi with
  | 0, _ => rfl
  | 1, _ => rfl
  | 2, _ => rfl
  | 3, _ => rfl
  | 4, _ => rfl
  | 5, _ => rfl
  | 6, _ => rfl
  | 7, _ => rfl
  | 8, _ => rfl
  | 9, _ => rfl
  | 10, _ => rfl
  | 11, _ => rfl
  | 12, _ => rfl
  | 13, _ => rfl
  | 14, _ => rfl
  | 15, _ => rfl
  | j + 16, hi =>
    have e : j = 0 := by omega
    subst e; rfl
def updB (f : Nat → Bool) (k : Nat) (v : Bool) : Nat → Bool := fun q => if q = k then v else f q
theorem nar_B {v : Bool} : vp_nar .boolean (iB v) = iB v := by cases v <;> decide
theorem trB_upd {f : Nat → Bool} {k : Nat} {v : Bool} (hk : k < 4) : upd (trB 4 f) k (vp_nar .boolean (iB v)) = trB 4 (updB f k v) := by
  unfold trB
  rw [tr_upd hk, nar_B]
  congr 1
  funext q
  unfold upd updB
  by_cases e : q = k
  · rw [if_pos e, if_pos e]
  · rw [if_neg e, if_neg e]
theorem M_w328 {v : Bool} {f : sH → Prop} : zS (pM m h) 328 i (iB v) f ↔ vp_in i 4 ∧ f (pM (xV m (updB (kV m) i.toNatClampNeg v)) h) := by
  have e : (iB v) = iB v := rfl
  unfold zS oI; rw [hgM328, e]
  constructor
  · exact fun z => ⟨z.2.1, by have := z.2.2; rw [trB_upd (vp_lt z.2.1), hsMa328] at this; exact this⟩
  · exact fun z => ⟨rfl, z.1, by rw [trB_upd (vp_lt z.1), hsMa328]; exact z.2⟩
theorem M_w328t {f : sH → Prop} : zS (pM m h) 328 i (nI 1) f ↔ vp_in i 4 ∧ f (pM (xV m (updB (kV m) i.toNatClampNeg true)) h) := by
  have e : (nI 1) = iB true := rfl
  unfold zS oI; rw [hgM328, e]
  constructor
  · exact fun z => ⟨z.2.1, by have := z.2.2; rw [trB_upd (vp_lt z.2.1), hsMa328] at this; exact this⟩
  · exact fun z => ⟨rfl, z.1, by rw [trB_upd (vp_lt z.1), hsMa328]; exact z.2⟩
theorem M_w328f {f : sH → Prop} : zS (pM m h) 328 i (nI 0) f ↔ vp_in i 4 ∧ f (pM (xV m (updB (kV m) i.toNatClampNeg false)) h) := by
  have e : (nI 0) = iB false := rfl
  unfold zS oI; rw [hgM328, e]
  constructor
  · exact fun z => ⟨z.2.1, by have := z.2.2; rw [trB_upd (vp_lt z.2.1), hsMa328] at this; exact this⟩
  · exact fun z => ⟨rfl, z.1, by rw [trB_upd (vp_lt z.1), hsMa328]; exact z.2⟩
end MST
