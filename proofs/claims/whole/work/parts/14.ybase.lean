/-! Yard: numbers by their fields (0 bays, 1 gap, 4 minute, 5 broken, 6 done), cranes, tasks, arrays by their fields (7 bay, 8 lift, 10 next, 11 deed, 12 site, 13 takes, 14 heavy, 15 after, 16 did, 17 doneAt, 18 doer), sway, plan -/
abbrev tY : Type := (Nat → Int32) × (Nat × Nat) × (Nat → Nat → Int32) × (Nat → UInt32) × tP
def yB (y : tY) (k : Nat) : Int32 := y.1 k
def yC (y : tY) : Nat := y.2.1.1
def yT (y : tY) : Nat := y.2.1.2
def yA (y : tY) (k : Nat) : Nat → Int32 := y.2.2.1 k
def yW (y : tY) : Nat → UInt32 := y.2.2.2.1
def yP (y : tY) : tP := y.2.2.2.2
def uS (y : tY) (k : Nat) (x : Int32) : tY := (fun q => if q = k then x else y.1 q, y.2)
def uC (y : tY) (n : Nat) : tY := (y.1, (n, y.2.1.2), y.2.2)
def uT (y : tY) (n : Nat) : tY := (y.1, (y.2.1.1, n), y.2.2)
def uA (y : tY) (k : Nat) (f : Nat → Int32) : tY := (y.1, y.2.1, fun q => if q = k then f else y.2.2.1 q, y.2.2.2)
def uW (y : tY) (f : Nat → UInt32) : tY := (y.1, y.2.1, y.2.2.1, f, y.2.2.2.2)
def uP (y : tY) (p : tP) : tY := (y.1, y.2.1, y.2.2.1, y.2.2.2.1, p)
theorem yC_uS (y : tY) (k : Nat) (x : Int32) : yC (uS y k x) = yC y := rfl
theorem yT_uS (y : tY) (k : Nat) (x : Int32) : yT (uS y k x) = yT y := rfl
theorem yW_uS (y : tY) (k : Nat) (x : Int32) : yW (uS y k x) = yW y := rfl
theorem yP_uS (y : tY) (k : Nat) (x : Int32) : yP (uS y k x) = yP y := rfl
theorem yB_uS (y : tY) (k q : Nat) (x : Int32) : yB (uS y k x) q = if q = k then x else yB y q := rfl
theorem yA_uS (y : tY) (k : Nat) (x : Int32) (q : Nat) : yA (uS y k x) q = yA y q := rfl
theorem yC_uC (y : tY) (n : Nat) : yC (uC y n) = n := rfl
theorem yT_uC (y : tY) (n : Nat) : yT (uC y n) = yT y := rfl
theorem yW_uC (y : tY) (n : Nat) : yW (uC y n) = yW y := rfl
theorem yP_uC (y : tY) (n : Nat) : yP (uC y n) = yP y := rfl
theorem yB_uC (y : tY) (n : Nat) (q : Nat) : yB (uC y n) q = yB y q := rfl
theorem yA_uC (y : tY) (n : Nat) (q : Nat) : yA (uC y n) q = yA y q := rfl
theorem yC_uT (y : tY) (n : Nat) : yC (uT y n) = yC y := rfl
theorem yT_uT (y : tY) (n : Nat) : yT (uT y n) = n := rfl
theorem yW_uT (y : tY) (n : Nat) : yW (uT y n) = yW y := rfl
theorem yP_uT (y : tY) (n : Nat) : yP (uT y n) = yP y := rfl
theorem yB_uT (y : tY) (n : Nat) (q : Nat) : yB (uT y n) q = yB y q := rfl
theorem yA_uT (y : tY) (n : Nat) (q : Nat) : yA (uT y n) q = yA y q := rfl
theorem yC_uA (y : tY) (k : Nat) (f : Nat → Int32) : yC (uA y k f) = yC y := rfl
theorem yT_uA (y : tY) (k : Nat) (f : Nat → Int32) : yT (uA y k f) = yT y := rfl
theorem yW_uA (y : tY) (k : Nat) (f : Nat → Int32) : yW (uA y k f) = yW y := rfl
theorem yP_uA (y : tY) (k : Nat) (f : Nat → Int32) : yP (uA y k f) = yP y := rfl
theorem yB_uA (y : tY) (k : Nat) (f : Nat → Int32) (q : Nat) : yB (uA y k f) q = yB y q := rfl
theorem yA_uA (y : tY) (k q : Nat) (f : Nat → Int32) : yA (uA y k f) q = if q = k then f else yA y q := rfl
theorem yC_uW (y : tY) (w : Nat → UInt32) : yC (uW y w) = yC y := rfl
theorem yT_uW (y : tY) (w : Nat → UInt32) : yT (uW y w) = yT y := rfl
theorem yW_uW (y : tY) (w : Nat → UInt32) : yW (uW y w) = w := rfl
theorem yP_uW (y : tY) (w : Nat → UInt32) : yP (uW y w) = yP y := rfl
theorem yB_uW (y : tY) (w : Nat → UInt32) (q : Nat) : yB (uW y w) q = yB y q := rfl
theorem yA_uW (y : tY) (w : Nat → UInt32) (q : Nat) : yA (uW y w) q = yA y q := rfl
theorem yC_uP (y : tY) (p : tP) : yC (uP y p) = yC y := rfl
theorem yT_uP (y : tY) (p : tP) : yT (uP y p) = yT y := rfl
theorem yW_uP (y : tY) (p : tP) : yW (uP y p) = yW y := rfl
theorem yP_uP (y : tY) (p : tP) : yP (uP y p) = p := rfl
theorem yB_uP (y : tY) (p : tP) (q : Nat) : yB (uP y p) q = yB y q := rfl
theorem yA_uP (y : tY) (p : tP) (q : Nat) : yA (uP y p) q = yA y q := rfl
def cY (a : Nat) (y : tY) : Nat → sC
  | 0 => .inr (7, [.int (yB y 0), .int (yB y 1), .int (nI (yC y)), .int (nI (yT y)), .int (yB y 4), .int (yB y 5), .int (yB y 6), .ref (a + 1), .ref (a + 2), .ref (a + 3), .ref (a + 4), .ref (a + 5), .ref (a + 6), .ref (a + 7), .ref (a + 8), .ref (a + 9), .ref (a + 10), .ref (a + 11), .ref (a + 12), .ref (a + 13)])
  | 1 => .inl (0, 4, .inl (tr32 4 (yA y 7)))
  | 2 => .inl (0, 4, .inl (tr32 4 (yA y 8)))
  | 3 => .inl (2, 4, .inr (.inr (.inl (trF 4 (yW y)))))
  | 4 => .inl (0, 4, .inl (tr32 4 (yA y 10)))
  | 5 => .inl (0, 4, .inl (tr32 4 (yA y 11)))
  | 6 => .inl (0, 8, .inl (tr32 8 (yA y 12)))
  | 7 => .inl (0, 8, .inl (tr32 8 (yA y 13)))
  | 8 => .inl (0, 8, .inl (tr32 8 (yA y 14)))
  | 9 => .inl (0, 8, .inl (tr32 8 (yA y 15)))
  | 10 => .inl (0, 8, .inl (tr32 8 (yA y 16)))
  | 11 => .inl (0, 8, .inl (tr32 8 (yA y 17)))
  | 12 => .inl (0, 8, .inl (tr32 8 (yA y 18)))
  | j => cP (a + 13) (yP y) (j - 13)
def pY (a : Nat) (y : tY) (h : sH) : sH := pC a 16 (cY a y) h
theorem fS_of {h h' : sH} {a ci kf : Nat} {fs : List Value} {v : Value} {f : sH → Prop} (e : hg h a = .inr (ci, fs)) (hl : kf < fs.length) (hn : narrow (cTy ci kf) v = v) (hf : fits (cTy ci kf) v = true) (hh : hs h a (.inr (ci, fs.set kf v)) = h') : fS h a ci kf v f ↔ f h' := by
  unfold fS oO
  rw [e]
  subst hh
  exact ⟨fun z => z.2.2.2.2, fun z => ⟨rfl, hl, hn, hf, z⟩⟩
section YB
variable {a d : Nat} {y : tY} {h : sH} {k : sK} {Q : sQ} {i x : Int32}
theorem hgY0 : hg (pY a y h) a = cY a y 0 := hgC0 (by decide)
theorem hgY1 : hg (pY a y h) (a + 1) = cY a y 1 := hgC (by decide)
theorem hgY2 : hg (pY a y h) (a + 2) = cY a y 2 := hgC (by decide)
theorem hgY3 : hg (pY a y h) (a + 3) = cY a y 3 := hgC (by decide)
theorem hgY4 : hg (pY a y h) (a + 4) = cY a y 4 := hgC (by decide)
theorem hgY5 : hg (pY a y h) (a + 5) = cY a y 5 := hgC (by decide)
theorem hgY6 : hg (pY a y h) (a + 6) = cY a y 6 := hgC (by decide)
theorem hgY7 : hg (pY a y h) (a + 7) = cY a y 7 := hgC (by decide)
theorem hgY8 : hg (pY a y h) (a + 8) = cY a y 8 := hgC (by decide)
theorem hgY9 : hg (pY a y h) (a + 9) = cY a y 9 := hgC (by decide)
theorem hgY10 : hg (pY a y h) (a + 10) = cY a y 10 := hgC (by decide)
theorem hgY11 : hg (pY a y h) (a + 11) = cY a y 11 := hgC (by decide)
theorem hgY12 : hg (pY a y h) (a + 12) = cY a y 12 := hgC (by decide)
theorem hgY13 : hg (pY a y h) (a + 13) = cY a y 13 := hgC (by decide)
theorem hgY14 : hg (pY a y h) (a + 14) = cY a y 14 := hgC (by decide)
theorem hgY15 : hg (pY a y h) (a + 15) = cY a y 15 := hgC (by decide)
theorem Y_ob {c : Nat} : (oO (pY a y h) a fun c' _ => c' = c) ↔ 7 = c := by unfold oO; rw [hgY0]; exact Iff.rfl
theorem Y_g0 {f : Value → Prop} : fG (pY a y h) a 7 0 f ↔ f (.int (yB y 0)) := by unfold fG oO; rw [hgY0]; exact ⟨fun z => z.2, fun z => ⟨rfl, z⟩⟩
theorem Y_g1 {f : Value → Prop} : fG (pY a y h) a 7 1 f ↔ f (.int (yB y 1)) := by unfold fG oO; rw [hgY0]; exact ⟨fun z => z.2, fun z => ⟨rfl, z⟩⟩
theorem Y_g2 {f : Value → Prop} : fG (pY a y h) a 7 2 f ↔ f (.int (nI (yC y))) := by unfold fG oO; rw [hgY0]; exact ⟨fun z => z.2, fun z => ⟨rfl, z⟩⟩
theorem Y_g3 {f : Value → Prop} : fG (pY a y h) a 7 3 f ↔ f (.int (nI (yT y))) := by unfold fG oO; rw [hgY0]; exact ⟨fun z => z.2, fun z => ⟨rfl, z⟩⟩
theorem Y_g4 {f : Value → Prop} : fG (pY a y h) a 7 4 f ↔ f (.int (yB y 4)) := by unfold fG oO; rw [hgY0]; exact ⟨fun z => z.2, fun z => ⟨rfl, z⟩⟩
theorem Y_g5 {f : Value → Prop} : fG (pY a y h) a 7 5 f ↔ f (.int (yB y 5)) := by unfold fG oO; rw [hgY0]; exact ⟨fun z => z.2, fun z => ⟨rfl, z⟩⟩
theorem Y_g6 {f : Value → Prop} : fG (pY a y h) a 7 6 f ↔ f (.int (yB y 6)) := by unfold fG oO; rw [hgY0]; exact ⟨fun z => z.2, fun z => ⟨rfl, z⟩⟩
theorem Y_g7 {f : Value → Prop} : fG (pY a y h) a 7 7 f ↔ f (.ref (a + 1)) := by unfold fG oO; rw [hgY0]; exact ⟨fun z => z.2, fun z => ⟨rfl, z⟩⟩
theorem Y_g8 {f : Value → Prop} : fG (pY a y h) a 7 8 f ↔ f (.ref (a + 2)) := by unfold fG oO; rw [hgY0]; exact ⟨fun z => z.2, fun z => ⟨rfl, z⟩⟩
theorem Y_g9 {f : Value → Prop} : fG (pY a y h) a 7 9 f ↔ f (.ref (a + 3)) := by unfold fG oO; rw [hgY0]; exact ⟨fun z => z.2, fun z => ⟨rfl, z⟩⟩
theorem Y_g10 {f : Value → Prop} : fG (pY a y h) a 7 10 f ↔ f (.ref (a + 4)) := by unfold fG oO; rw [hgY0]; exact ⟨fun z => z.2, fun z => ⟨rfl, z⟩⟩
theorem Y_g11 {f : Value → Prop} : fG (pY a y h) a 7 11 f ↔ f (.ref (a + 5)) := by unfold fG oO; rw [hgY0]; exact ⟨fun z => z.2, fun z => ⟨rfl, z⟩⟩
theorem Y_g12 {f : Value → Prop} : fG (pY a y h) a 7 12 f ↔ f (.ref (a + 6)) := by unfold fG oO; rw [hgY0]; exact ⟨fun z => z.2, fun z => ⟨rfl, z⟩⟩
theorem Y_g13 {f : Value → Prop} : fG (pY a y h) a 7 13 f ↔ f (.ref (a + 7)) := by unfold fG oO; rw [hgY0]; exact ⟨fun z => z.2, fun z => ⟨rfl, z⟩⟩
theorem Y_g14 {f : Value → Prop} : fG (pY a y h) a 7 14 f ↔ f (.ref (a + 8)) := by unfold fG oO; rw [hgY0]; exact ⟨fun z => z.2, fun z => ⟨rfl, z⟩⟩
theorem Y_g15 {f : Value → Prop} : fG (pY a y h) a 7 15 f ↔ f (.ref (a + 9)) := by unfold fG oO; rw [hgY0]; exact ⟨fun z => z.2, fun z => ⟨rfl, z⟩⟩
theorem Y_g16 {f : Value → Prop} : fG (pY a y h) a 7 16 f ↔ f (.ref (a + 10)) := by unfold fG oO; rw [hgY0]; exact ⟨fun z => z.2, fun z => ⟨rfl, z⟩⟩
theorem Y_g17 {f : Value → Prop} : fG (pY a y h) a 7 17 f ↔ f (.ref (a + 11)) := by unfold fG oO; rw [hgY0]; exact ⟨fun z => z.2, fun z => ⟨rfl, z⟩⟩
theorem Y_g18 {f : Value → Prop} : fG (pY a y h) a 7 18 f ↔ f (.ref (a + 12)) := by unfold fG oO; rw [hgY0]; exact ⟨fun z => z.2, fun z => ⟨rfl, z⟩⟩
theorem Y_g19 {f : Value → Prop} : fG (pY a y h) a 7 19 f ↔ f (.ref (a + 13)) := by unfold fG oO; rw [hgY0]; exact ⟨fun z => z.2, fun z => ⟨rfl, z⟩⟩
theorem hsY_0 {x : Int32} : hs (pY a y h) a (.inr (7, [.int x, .int (yB y 1), .int (nI (yC y)), .int (nI (yT y)), .int (yB y 4), .int (yB y 5), .int (yB y 6), .ref (a + 1), .ref (a + 2), .ref (a + 3), .ref (a + 4), .ref (a + 5), .ref (a + 6), .ref (a + 7), .ref (a + 8), .ref (a + 9), .ref (a + 10), .ref (a + 11), .ref (a + 12), .ref (a + 13)])) = pY a (uS y 0 x) h := hsC (j := 0) (by decide) fun i hi => by
  match i, hi with
  | 0, _ => rfl
  | 1, _ => rfl
  | 2, _ => rfl
  | 3, _ => rfl
  | 4, _ => rfl
  | 5, _ => rfl
  | 6, _ => rfl
  | 7, _ => rfl
  | 8, _ => rfl
  | 9, _ => rfl
  | 10, _ => rfl
  | 11, _ => rfl
  | 12, _ => rfl
  | 13, _ => rfl
  | 14, _ => rfl
  | 15, _ => rfl
  | n + 16, h => exact absurd h (by omega)
theorem hsY_1 {x : Int32} : hs (pY a y h) a (.inr (7, [.int (yB y 0), .int x, .int (nI (yC y)), .int (nI (yT y)), .int (yB y 4), .int (yB y 5), .int (yB y 6), .ref (a + 1), .ref (a + 2), .ref (a + 3), .ref (a + 4), .ref (a + 5), .ref (a + 6), .ref (a + 7), .ref (a + 8), .ref (a + 9), .ref (a + 10), .ref (a + 11), .ref (a + 12), .ref (a + 13)])) = pY a (uS y 1 x) h := hsC (j := 0) (by decide) fun i hi => by
  match i, hi with
  | 0, _ => rfl
  | 1, _ => rfl
  | 2, _ => rfl
  | 3, _ => rfl
  | 4, _ => rfl
  | 5, _ => rfl
  | 6, _ => rfl
  | 7, _ => rfl
  | 8, _ => rfl
  | 9, _ => rfl
  | 10, _ => rfl
  | 11, _ => rfl
  | 12, _ => rfl
  | 13, _ => rfl
  | 14, _ => rfl
  | 15, _ => rfl
  | n + 16, h => exact absurd h (by omega)
theorem hsY_4 {x : Int32} : hs (pY a y h) a (.inr (7, [.int (yB y 0), .int (yB y 1), .int (nI (yC y)), .int (nI (yT y)), .int x, .int (yB y 5), .int (yB y 6), .ref (a + 1), .ref (a + 2), .ref (a + 3), .ref (a + 4), .ref (a + 5), .ref (a + 6), .ref (a + 7), .ref (a + 8), .ref (a + 9), .ref (a + 10), .ref (a + 11), .ref (a + 12), .ref (a + 13)])) = pY a (uS y 4 x) h := hsC (j := 0) (by decide) fun i hi => by
  match i, hi with
  | 0, _ => rfl
  | 1, _ => rfl
  | 2, _ => rfl
  | 3, _ => rfl
  | 4, _ => rfl
  | 5, _ => rfl
  | 6, _ => rfl
  | 7, _ => rfl
  | 8, _ => rfl
  | 9, _ => rfl
  | 10, _ => rfl
  | 11, _ => rfl
  | 12, _ => rfl
  | 13, _ => rfl
  | 14, _ => rfl
  | 15, _ => rfl
  | n + 16, h => exact absurd h (by omega)
theorem hsY_5 {x : Int32} : hs (pY a y h) a (.inr (7, [.int (yB y 0), .int (yB y 1), .int (nI (yC y)), .int (nI (yT y)), .int (yB y 4), .int x, .int (yB y 6), .ref (a + 1), .ref (a + 2), .ref (a + 3), .ref (a + 4), .ref (a + 5), .ref (a + 6), .ref (a + 7), .ref (a + 8), .ref (a + 9), .ref (a + 10), .ref (a + 11), .ref (a + 12), .ref (a + 13)])) = pY a (uS y 5 x) h := hsC (j := 0) (by decide) fun i hi => by
  match i, hi with
  | 0, _ => rfl
  | 1, _ => rfl
  | 2, _ => rfl
  | 3, _ => rfl
  | 4, _ => rfl
  | 5, _ => rfl
  | 6, _ => rfl
  | 7, _ => rfl
  | 8, _ => rfl
  | 9, _ => rfl
  | 10, _ => rfl
  | 11, _ => rfl
  | 12, _ => rfl
  | 13, _ => rfl
  | 14, _ => rfl
  | 15, _ => rfl
  | n + 16, h => exact absurd h (by omega)
theorem hsY_6 {x : Int32} : hs (pY a y h) a (.inr (7, [.int (yB y 0), .int (yB y 1), .int (nI (yC y)), .int (nI (yT y)), .int (yB y 4), .int (yB y 5), .int x, .ref (a + 1), .ref (a + 2), .ref (a + 3), .ref (a + 4), .ref (a + 5), .ref (a + 6), .ref (a + 7), .ref (a + 8), .ref (a + 9), .ref (a + 10), .ref (a + 11), .ref (a + 12), .ref (a + 13)])) = pY a (uS y 6 x) h := hsC (j := 0) (by decide) fun i hi => by
  match i, hi with
  | 0, _ => rfl
  | 1, _ => rfl
  | 2, _ => rfl
  | 3, _ => rfl
  | 4, _ => rfl
  | 5, _ => rfl
  | 6, _ => rfl
  | 7, _ => rfl
  | 8, _ => rfl
  | 9, _ => rfl
  | 10, _ => rfl
  | 11, _ => rfl
  | 12, _ => rfl
  | 13, _ => rfl
  | 14, _ => rfl
  | 15, _ => rfl
  | n + 16, h => exact absurd h (by omega)
theorem hsY_2 {n : Nat} : hs (pY a y h) a (.inr (7, [.int (yB y 0), .int (yB y 1), .int (nI n), .int (nI (yT y)), .int (yB y 4), .int (yB y 5), .int (yB y 6), .ref (a + 1), .ref (a + 2), .ref (a + 3), .ref (a + 4), .ref (a + 5), .ref (a + 6), .ref (a + 7), .ref (a + 8), .ref (a + 9), .ref (a + 10), .ref (a + 11), .ref (a + 12), .ref (a + 13)])) = pY a (uC y n) h := hsC (j := 0) (by decide) fun i hi => by
  match i, hi with
  | 0, _ => rfl
  | 1, _ => rfl
  | 2, _ => rfl
  | 3, _ => rfl
  | 4, _ => rfl
  | 5, _ => rfl
  | 6, _ => rfl
  | 7, _ => rfl
  | 8, _ => rfl
  | 9, _ => rfl
  | 10, _ => rfl
  | 11, _ => rfl
  | 12, _ => rfl
  | 13, _ => rfl
  | 14, _ => rfl
  | 15, _ => rfl
  | n + 16, h => exact absurd h (by omega)
theorem hsY_3 {n : Nat} : hs (pY a y h) a (.inr (7, [.int (yB y 0), .int (yB y 1), .int (nI (yC y)), .int (nI n), .int (yB y 4), .int (yB y 5), .int (yB y 6), .ref (a + 1), .ref (a + 2), .ref (a + 3), .ref (a + 4), .ref (a + 5), .ref (a + 6), .ref (a + 7), .ref (a + 8), .ref (a + 9), .ref (a + 10), .ref (a + 11), .ref (a + 12), .ref (a + 13)])) = pY a (uT y n) h := hsC (j := 0) (by decide) fun i hi => by
  match i, hi with
  | 0, _ => rfl
  | 1, _ => rfl
  | 2, _ => rfl
  | 3, _ => rfl
  | 4, _ => rfl
  | 5, _ => rfl
  | 6, _ => rfl
  | 7, _ => rfl
  | 8, _ => rfl
  | 9, _ => rfl
  | 10, _ => rfl
  | 11, _ => rfl
  | 12, _ => rfl
  | 13, _ => rfl
  | 14, _ => rfl
  | 15, _ => rfl
  | n + 16, h => exact absurd h (by omega)
theorem Y_s0 {f : sH → Prop} : fS (pY a y h) a 7 0 (.int x) f ↔ f (pY a (uS y 0 x) h) := fS_of hgY0 (Nat.le_of_ble_eq_true rfl) rfl rfl hsY_0
theorem Y_s1 {f : sH → Prop} : fS (pY a y h) a 7 1 (.int x) f ↔ f (pY a (uS y 1 x) h) := fS_of hgY0 (Nat.le_of_ble_eq_true rfl) rfl rfl hsY_1
theorem Y_s4 {f : sH → Prop} : fS (pY a y h) a 7 4 (.int x) f ↔ f (pY a (uS y 4 x) h) := fS_of hgY0 (Nat.le_of_ble_eq_true rfl) rfl rfl hsY_4
theorem Y_s5 {f : sH → Prop} : fS (pY a y h) a 7 5 (.int x) f ↔ f (pY a (uS y 5 x) h) := fS_of hgY0 (Nat.le_of_ble_eq_true rfl) rfl rfl hsY_5
theorem Y_s6 {f : sH → Prop} : fS (pY a y h) a 7 6 (.int x) f ↔ f (pY a (uS y 6 x) h) := fS_of hgY0 (Nat.le_of_ble_eq_true rfl) rfl rfl hsY_6
theorem Y_s2 {n : Nat} {f : sH → Prop} : fS (pY a y h) a 7 2 (.int (nI n)) f ↔ f (pY a (uC y n) h) := fS_of hgY0 (Nat.le_of_ble_eq_true rfl) rfl rfl hsY_2
theorem Y_s3 {n : Nat} {f : sH → Prop} : fS (pY a y h) a 7 3 (.int (nI n)) f ↔ f (pY a (uT y n) h) := fS_of hgY0 (Nat.le_of_ble_eq_true rfl) rfl rfl hsY_3
theorem Y_a7 {f : Int32 → Prop} : aG (pY a y h) (a + 1) i f ↔ vp_in i 4 ∧ f (yA y 7 i.toNatClampNeg) := by
  unfold aG oI; rw [hgY1]
  exact ⟨fun z => ⟨z.2.1, by have := z.2.2; rwa [tr_in (vp_lt z.2.1)] at this⟩, fun z => ⟨Or.inl rfl, z.1, by rw [tr_in (vp_lt z.1)]; exact z.2⟩⟩
theorem Y_n7 {f : Int32 → Prop} : aL (pY a y h) (a + 1) f ↔ f (nI 4) := by
  unfold aL oA; rw [hgY1]
  exact ⟨fun z => z.2, fun z => ⟨Or.inl (by decide), z⟩⟩
theorem hsYa7 {g : Nat → Int32} : hs (pY a y h) (a + 1) (.inl (0, 4, .inl (tr32 4 g))) = pY a (uA y 7 g) h := hsC (by decide) fun i hi => by
  match i, hi with
  | 0, _ => rfl
  | 1, _ => rfl
  | 2, _ => rfl
  | 3, _ => rfl
  | 4, _ => rfl
  | 5, _ => rfl
  | 6, _ => rfl
  | 7, _ => rfl
  | 8, _ => rfl
  | 9, _ => rfl
  | 10, _ => rfl
  | 11, _ => rfl
  | 12, _ => rfl
  | 13, _ => rfl
  | 14, _ => rfl
  | 15, _ => rfl
  | n + 16, h => exact absurd h (by omega)
theorem Y_w7 {f : sH → Prop} : aS (pY a y h) (a + 1) i x f ↔ vp_in i 4 ∧ f (pY a (uA y 7 (upd (yA y 7) i.toNatClampNeg x)) h) := by
  unfold aS oI; rw [hgY1]
  constructor
  · exact fun z => ⟨z.2.1, by have := z.2.2; rw [tr_upd (vp_lt z.2.1), hsYa7] at this; exact this⟩
  · exact fun z => ⟨rfl, z.1, by rw [tr_upd (vp_lt z.1), hsYa7]; exact z.2⟩
theorem Y_a8 {f : Int32 → Prop} : aG (pY a y h) (a + 2) i f ↔ vp_in i 4 ∧ f (yA y 8 i.toNatClampNeg) := by
  unfold aG oI; rw [hgY2]
  exact ⟨fun z => ⟨z.2.1, by have := z.2.2; rwa [tr_in (vp_lt z.2.1)] at this⟩, fun z => ⟨Or.inl rfl, z.1, by rw [tr_in (vp_lt z.1)]; exact z.2⟩⟩
theorem Y_n8 {f : Int32 → Prop} : aL (pY a y h) (a + 2) f ↔ f (nI 4) := by
  unfold aL oA; rw [hgY2]
  exact ⟨fun z => z.2, fun z => ⟨Or.inl (by decide), z⟩⟩
theorem hsYa8 {g : Nat → Int32} : hs (pY a y h) (a + 2) (.inl (0, 4, .inl (tr32 4 g))) = pY a (uA y 8 g) h := hsC (by decide) fun i hi => by
  match i, hi with
  | 0, _ => rfl
  | 1, _ => rfl
  | 2, _ => rfl
  | 3, _ => rfl
  | 4, _ => rfl
  | 5, _ => rfl
  | 6, _ => rfl
  | 7, _ => rfl
  | 8, _ => rfl
  | 9, _ => rfl
  | 10, _ => rfl
  | 11, _ => rfl
  | 12, _ => rfl
  | 13, _ => rfl
  | 14, _ => rfl
  | 15, _ => rfl
  | n + 16, h => exact absurd h (by omega)
theorem Y_w8 {f : sH → Prop} : aS (pY a y h) (a + 2) i x f ↔ vp_in i 4 ∧ f (pY a (uA y 8 (upd (yA y 8) i.toNatClampNeg x)) h) := by
  unfold aS oI; rw [hgY2]
  constructor
  · exact fun z => ⟨z.2.1, by have := z.2.2; rw [tr_upd (vp_lt z.2.1), hsYa8] at this; exact this⟩
  · exact fun z => ⟨rfl, z.1, by rw [tr_upd (vp_lt z.1), hsYa8]; exact z.2⟩
theorem Y_a10 {f : Int32 → Prop} : aG (pY a y h) (a + 4) i f ↔ vp_in i 4 ∧ f (yA y 10 i.toNatClampNeg) := by
  unfold aG oI; rw [hgY4]
  exact ⟨fun z => ⟨z.2.1, by have := z.2.2; rwa [tr_in (vp_lt z.2.1)] at this⟩, fun z => ⟨Or.inl rfl, z.1, by rw [tr_in (vp_lt z.1)]; exact z.2⟩⟩
theorem Y_n10 {f : Int32 → Prop} : aL (pY a y h) (a + 4) f ↔ f (nI 4) := by
  unfold aL oA; rw [hgY4]
  exact ⟨fun z => z.2, fun z => ⟨Or.inl (by decide), z⟩⟩
theorem hsYa10 {g : Nat → Int32} : hs (pY a y h) (a + 4) (.inl (0, 4, .inl (tr32 4 g))) = pY a (uA y 10 g) h := hsC (by decide) fun i hi => by
  match i, hi with
  | 0, _ => rfl
  | 1, _ => rfl
  | 2, _ => rfl
  | 3, _ => rfl
  | 4, _ => rfl
  | 5, _ => rfl
  | 6, _ => rfl
  | 7, _ => rfl
  | 8, _ => rfl
  | 9, _ => rfl
  | 10, _ => rfl
  | 11, _ => rfl
  | 12, _ => rfl
  | 13, _ => rfl
  | 14, _ => rfl
  | 15, _ => rfl
  | n + 16, h => exact absurd h (by omega)
theorem Y_w10 {f : sH → Prop} : aS (pY a y h) (a + 4) i x f ↔ vp_in i 4 ∧ f (pY a (uA y 10 (upd (yA y 10) i.toNatClampNeg x)) h) := by
  unfold aS oI; rw [hgY4]
  constructor
  · exact fun z => ⟨z.2.1, by have := z.2.2; rw [tr_upd (vp_lt z.2.1), hsYa10] at this; exact this⟩
  · exact fun z => ⟨rfl, z.1, by rw [tr_upd (vp_lt z.1), hsYa10]; exact z.2⟩
theorem Y_a11 {f : Int32 → Prop} : aG (pY a y h) (a + 5) i f ↔ vp_in i 4 ∧ f (yA y 11 i.toNatClampNeg) := by
  unfold aG oI; rw [hgY5]
  exact ⟨fun z => ⟨z.2.1, by have := z.2.2; rwa [tr_in (vp_lt z.2.1)] at this⟩, fun z => ⟨Or.inl rfl, z.1, by rw [tr_in (vp_lt z.1)]; exact z.2⟩⟩
theorem Y_n11 {f : Int32 → Prop} : aL (pY a y h) (a + 5) f ↔ f (nI 4) := by
  unfold aL oA; rw [hgY5]
  exact ⟨fun z => z.2, fun z => ⟨Or.inl (by decide), z⟩⟩
theorem hsYa11 {g : Nat → Int32} : hs (pY a y h) (a + 5) (.inl (0, 4, .inl (tr32 4 g))) = pY a (uA y 11 g) h := hsC (by decide) fun i hi => by
  match i, hi with
  | 0, _ => rfl
  | 1, _ => rfl
  | 2, _ => rfl
  | 3, _ => rfl
  | 4, _ => rfl
  | 5, _ => rfl
  | 6, _ => rfl
  | 7, _ => rfl
  | 8, _ => rfl
  | 9, _ => rfl
  | 10, _ => rfl
  | 11, _ => rfl
  | 12, _ => rfl
  | 13, _ => rfl
  | 14, _ => rfl
  | 15, _ => rfl
  | n + 16, h => exact absurd h (by omega)
theorem Y_w11 {f : sH → Prop} : aS (pY a y h) (a + 5) i x f ↔ vp_in i 4 ∧ f (pY a (uA y 11 (upd (yA y 11) i.toNatClampNeg x)) h) := by
  unfold aS oI; rw [hgY5]
  constructor
  · exact fun z => ⟨z.2.1, by have := z.2.2; rw [tr_upd (vp_lt z.2.1), hsYa11] at this; exact this⟩
  · exact fun z => ⟨rfl, z.1, by rw [tr_upd (vp_lt z.1), hsYa11]; exact z.2⟩
theorem Y_a12 {f : Int32 → Prop} : aG (pY a y h) (a + 6) i f ↔ vp_in i 8 ∧ f (yA y 12 i.toNatClampNeg) := by
  unfold aG oI; rw [hgY6]
  exact ⟨fun z => ⟨z.2.1, by have := z.2.2; rwa [tr_in (vp_lt z.2.1)] at this⟩, fun z => ⟨Or.inl rfl, z.1, by rw [tr_in (vp_lt z.1)]; exact z.2⟩⟩
theorem Y_n12 {f : Int32 → Prop} : aL (pY a y h) (a + 6) f ↔ f (nI 8) := by
  unfold aL oA; rw [hgY6]
  exact ⟨fun z => z.2, fun z => ⟨Or.inl (by decide), z⟩⟩
theorem hsYa12 {g : Nat → Int32} : hs (pY a y h) (a + 6) (.inl (0, 8, .inl (tr32 8 g))) = pY a (uA y 12 g) h := hsC (by decide) fun i hi => by
  match i, hi with
  | 0, _ => rfl
  | 1, _ => rfl
  | 2, _ => rfl
  | 3, _ => rfl
  | 4, _ => rfl
  | 5, _ => rfl
  | 6, _ => rfl
  | 7, _ => rfl
  | 8, _ => rfl
  | 9, _ => rfl
  | 10, _ => rfl
  | 11, _ => rfl
  | 12, _ => rfl
  | 13, _ => rfl
  | 14, _ => rfl
  | 15, _ => rfl
  | n + 16, h => exact absurd h (by omega)
theorem Y_w12 {f : sH → Prop} : aS (pY a y h) (a + 6) i x f ↔ vp_in i 8 ∧ f (pY a (uA y 12 (upd (yA y 12) i.toNatClampNeg x)) h) := by
  unfold aS oI; rw [hgY6]
  constructor
  · exact fun z => ⟨z.2.1, by have := z.2.2; rw [tr_upd (vp_lt z.2.1), hsYa12] at this; exact this⟩
  · exact fun z => ⟨rfl, z.1, by rw [tr_upd (vp_lt z.1), hsYa12]; exact z.2⟩
theorem Y_a13 {f : Int32 → Prop} : aG (pY a y h) (a + 7) i f ↔ vp_in i 8 ∧ f (yA y 13 i.toNatClampNeg) := by
  unfold aG oI; rw [hgY7]
  exact ⟨fun z => ⟨z.2.1, by have := z.2.2; rwa [tr_in (vp_lt z.2.1)] at this⟩, fun z => ⟨Or.inl rfl, z.1, by rw [tr_in (vp_lt z.1)]; exact z.2⟩⟩
theorem Y_n13 {f : Int32 → Prop} : aL (pY a y h) (a + 7) f ↔ f (nI 8) := by
  unfold aL oA; rw [hgY7]
  exact ⟨fun z => z.2, fun z => ⟨Or.inl (by decide), z⟩⟩
theorem hsYa13 {g : Nat → Int32} : hs (pY a y h) (a + 7) (.inl (0, 8, .inl (tr32 8 g))) = pY a (uA y 13 g) h := hsC (by decide) fun i hi => by
  match i, hi with
  | 0, _ => rfl
  | 1, _ => rfl
  | 2, _ => rfl
  | 3, _ => rfl
  | 4, _ => rfl
  | 5, _ => rfl
  | 6, _ => rfl
  | 7, _ => rfl
  | 8, _ => rfl
  | 9, _ => rfl
  | 10, _ => rfl
  | 11, _ => rfl
  | 12, _ => rfl
  | 13, _ => rfl
  | 14, _ => rfl
  | 15, _ => rfl
  | n + 16, h => exact absurd h (by omega)
theorem Y_w13 {f : sH → Prop} : aS (pY a y h) (a + 7) i x f ↔ vp_in i 8 ∧ f (pY a (uA y 13 (upd (yA y 13) i.toNatClampNeg x)) h) := by
  unfold aS oI; rw [hgY7]
  constructor
  · exact fun z => ⟨z.2.1, by have := z.2.2; rw [tr_upd (vp_lt z.2.1), hsYa13] at this; exact this⟩
  · exact fun z => ⟨rfl, z.1, by rw [tr_upd (vp_lt z.1), hsYa13]; exact z.2⟩
theorem Y_a14 {f : Int32 → Prop} : aG (pY a y h) (a + 8) i f ↔ vp_in i 8 ∧ f (yA y 14 i.toNatClampNeg) := by
  unfold aG oI; rw [hgY8]
  exact ⟨fun z => ⟨z.2.1, by have := z.2.2; rwa [tr_in (vp_lt z.2.1)] at this⟩, fun z => ⟨Or.inl rfl, z.1, by rw [tr_in (vp_lt z.1)]; exact z.2⟩⟩
theorem Y_n14 {f : Int32 → Prop} : aL (pY a y h) (a + 8) f ↔ f (nI 8) := by
  unfold aL oA; rw [hgY8]
  exact ⟨fun z => z.2, fun z => ⟨Or.inl (by decide), z⟩⟩
theorem hsYa14 {g : Nat → Int32} : hs (pY a y h) (a + 8) (.inl (0, 8, .inl (tr32 8 g))) = pY a (uA y 14 g) h := hsC (by decide) fun i hi => by
  match i, hi with
  | 0, _ => rfl
  | 1, _ => rfl
  | 2, _ => rfl
  | 3, _ => rfl
  | 4, _ => rfl
  | 5, _ => rfl
  | 6, _ => rfl
  | 7, _ => rfl
  | 8, _ => rfl
  | 9, _ => rfl
  | 10, _ => rfl
  | 11, _ => rfl
  | 12, _ => rfl
  | 13, _ => rfl
  | 14, _ => rfl
  | 15, _ => rfl
  | n + 16, h => exact absurd h (by omega)
theorem Y_w14 {f : sH → Prop} : aS (pY a y h) (a + 8) i x f ↔ vp_in i 8 ∧ f (pY a (uA y 14 (upd (yA y 14) i.toNatClampNeg x)) h) := by
  unfold aS oI; rw [hgY8]
  constructor
  · exact fun z => ⟨z.2.1, by have := z.2.2; rw [tr_upd (vp_lt z.2.1), hsYa14] at this; exact this⟩
  · exact fun z => ⟨rfl, z.1, by rw [tr_upd (vp_lt z.1), hsYa14]; exact z.2⟩
theorem Y_a15 {f : Int32 → Prop} : aG (pY a y h) (a + 9) i f ↔ vp_in i 8 ∧ f (yA y 15 i.toNatClampNeg) := by
  unfold aG oI; rw [hgY9]
  exact ⟨fun z => ⟨z.2.1, by have := z.2.2; rwa [tr_in (vp_lt z.2.1)] at this⟩, fun z => ⟨Or.inl rfl, z.1, by rw [tr_in (vp_lt z.1)]; exact z.2⟩⟩
theorem Y_n15 {f : Int32 → Prop} : aL (pY a y h) (a + 9) f ↔ f (nI 8) := by
  unfold aL oA; rw [hgY9]
  exact ⟨fun z => z.2, fun z => ⟨Or.inl (by decide), z⟩⟩
theorem hsYa15 {g : Nat → Int32} : hs (pY a y h) (a + 9) (.inl (0, 8, .inl (tr32 8 g))) = pY a (uA y 15 g) h := hsC (by decide) fun i hi => by
  match i, hi with
  | 0, _ => rfl
  | 1, _ => rfl
  | 2, _ => rfl
  | 3, _ => rfl
  | 4, _ => rfl
  | 5, _ => rfl
  | 6, _ => rfl
  | 7, _ => rfl
  | 8, _ => rfl
  | 9, _ => rfl
  | 10, _ => rfl
  | 11, _ => rfl
  | 12, _ => rfl
  | 13, _ => rfl
  | 14, _ => rfl
  | 15, _ => rfl
  | n + 16, h => exact absurd h (by omega)
theorem Y_w15 {f : sH → Prop} : aS (pY a y h) (a + 9) i x f ↔ vp_in i 8 ∧ f (pY a (uA y 15 (upd (yA y 15) i.toNatClampNeg x)) h) := by
  unfold aS oI; rw [hgY9]
  constructor
  · exact fun z => ⟨z.2.1, by have := z.2.2; rw [tr_upd (vp_lt z.2.1), hsYa15] at this; exact this⟩
  · exact fun z => ⟨rfl, z.1, by rw [tr_upd (vp_lt z.1), hsYa15]; exact z.2⟩
theorem Y_a16 {f : Int32 → Prop} : aG (pY a y h) (a + 10) i f ↔ vp_in i 8 ∧ f (yA y 16 i.toNatClampNeg) := by
  unfold aG oI; rw [hgY10]
  exact ⟨fun z => ⟨z.2.1, by have := z.2.2; rwa [tr_in (vp_lt z.2.1)] at this⟩, fun z => ⟨Or.inl rfl, z.1, by rw [tr_in (vp_lt z.1)]; exact z.2⟩⟩
theorem Y_n16 {f : Int32 → Prop} : aL (pY a y h) (a + 10) f ↔ f (nI 8) := by
  unfold aL oA; rw [hgY10]
  exact ⟨fun z => z.2, fun z => ⟨Or.inl (by decide), z⟩⟩
theorem hsYa16 {g : Nat → Int32} : hs (pY a y h) (a + 10) (.inl (0, 8, .inl (tr32 8 g))) = pY a (uA y 16 g) h := hsC (by decide) fun i hi => by
  match i, hi with
  | 0, _ => rfl
  | 1, _ => rfl
  | 2, _ => rfl
  | 3, _ => rfl
  | 4, _ => rfl
  | 5, _ => rfl
  | 6, _ => rfl
  | 7, _ => rfl
  | 8, _ => rfl
  | 9, _ => rfl
  | 10, _ => rfl
  | 11, _ => rfl
  | 12, _ => rfl
  | 13, _ => rfl
  | 14, _ => rfl
  | 15, _ => rfl
  | n + 16, h => exact absurd h (by omega)
theorem Y_w16 {f : sH → Prop} : aS (pY a y h) (a + 10) i x f ↔ vp_in i 8 ∧ f (pY a (uA y 16 (upd (yA y 16) i.toNatClampNeg x)) h) := by
  unfold aS oI; rw [hgY10]
  constructor
  · exact fun z => ⟨z.2.1, by have := z.2.2; rw [tr_upd (vp_lt z.2.1), hsYa16] at this; exact this⟩
  · exact fun z => ⟨rfl, z.1, by rw [tr_upd (vp_lt z.1), hsYa16]; exact z.2⟩
theorem Y_a17 {f : Int32 → Prop} : aG (pY a y h) (a + 11) i f ↔ vp_in i 8 ∧ f (yA y 17 i.toNatClampNeg) := by
  unfold aG oI; rw [hgY11]
  exact ⟨fun z => ⟨z.2.1, by have := z.2.2; rwa [tr_in (vp_lt z.2.1)] at this⟩, fun z => ⟨Or.inl rfl, z.1, by rw [tr_in (vp_lt z.1)]; exact z.2⟩⟩
theorem Y_n17 {f : Int32 → Prop} : aL (pY a y h) (a + 11) f ↔ f (nI 8) := by
  unfold aL oA; rw [hgY11]
  exact ⟨fun z => z.2, fun z => ⟨Or.inl (by decide), z⟩⟩
theorem hsYa17 {g : Nat → Int32} : hs (pY a y h) (a + 11) (.inl (0, 8, .inl (tr32 8 g))) = pY a (uA y 17 g) h := hsC (by decide) fun i hi => by
  match i, hi with
  | 0, _ => rfl
  | 1, _ => rfl
  | 2, _ => rfl
  | 3, _ => rfl
  | 4, _ => rfl
  | 5, _ => rfl
  | 6, _ => rfl
  | 7, _ => rfl
  | 8, _ => rfl
  | 9, _ => rfl
  | 10, _ => rfl
  | 11, _ => rfl
  | 12, _ => rfl
  | 13, _ => rfl
  | 14, _ => rfl
  | 15, _ => rfl
  | n + 16, h => exact absurd h (by omega)
theorem Y_w17 {f : sH → Prop} : aS (pY a y h) (a + 11) i x f ↔ vp_in i 8 ∧ f (pY a (uA y 17 (upd (yA y 17) i.toNatClampNeg x)) h) := by
  unfold aS oI; rw [hgY11]
  constructor
  · exact fun z => ⟨z.2.1, by have := z.2.2; rw [tr_upd (vp_lt z.2.1), hsYa17] at this; exact this⟩
  · exact fun z => ⟨rfl, z.1, by rw [tr_upd (vp_lt z.1), hsYa17]; exact z.2⟩
theorem Y_a18 {f : Int32 → Prop} : aG (pY a y h) (a + 12) i f ↔ vp_in i 8 ∧ f (yA y 18 i.toNatClampNeg) := by
  unfold aG oI; rw [hgY12]
  exact ⟨fun z => ⟨z.2.1, by have := z.2.2; rwa [tr_in (vp_lt z.2.1)] at this⟩, fun z => ⟨Or.inl rfl, z.1, by rw [tr_in (vp_lt z.1)]; exact z.2⟩⟩
theorem Y_n18 {f : Int32 → Prop} : aL (pY a y h) (a + 12) f ↔ f (nI 8) := by
  unfold aL oA; rw [hgY12]
  exact ⟨fun z => z.2, fun z => ⟨Or.inl (by decide), z⟩⟩
theorem hsYa18 {g : Nat → Int32} : hs (pY a y h) (a + 12) (.inl (0, 8, .inl (tr32 8 g))) = pY a (uA y 18 g) h := hsC (by decide) fun i hi => by
  match i, hi with
  | 0, _ => rfl
  | 1, _ => rfl
  | 2, _ => rfl
  | 3, _ => rfl
  | 4, _ => rfl
  | 5, _ => rfl
  | 6, _ => rfl
  | 7, _ => rfl
  | 8, _ => rfl
  | 9, _ => rfl
  | 10, _ => rfl
  | 11, _ => rfl
  | 12, _ => rfl
  | 13, _ => rfl
  | 14, _ => rfl
  | 15, _ => rfl
  | n + 16, h => exact absurd h (by omega)
theorem Y_w18 {f : sH → Prop} : aS (pY a y h) (a + 12) i x f ↔ vp_in i 8 ∧ f (pY a (uA y 18 (upd (yA y 18) i.toNatClampNeg x)) h) := by
  unfold aS oI; rw [hgY12]
  constructor
  · exact fun z => ⟨z.2.1, by have := z.2.2; rw [tr_upd (vp_lt z.2.1), hsYa18] at this; exact this⟩
  · exact fun z => ⟨rfl, z.1, by rw [tr_upd (vp_lt z.1), hsYa18]; exact z.2⟩
theorem Y_sw {f : UInt32 → Prop} : sG' (pY a y h) (a + 3) i f ↔ vp_in i 4 ∧ f (yW y i.toNatClampNeg) := by
  unfold sG' oF; rw [hgY3]
  exact ⟨fun z => ⟨z.2.1, by have := z.2.2; rwa [trF_in (vp_lt z.2.1)] at this⟩, fun z => ⟨rfl, z.1, by rw [trF_in (vp_lt z.1)]; exact z.2⟩⟩
theorem hsYw {g : Nat → UInt32} : hs (pY a y h) (a + 3) (.inl (2, 4, .inr (.inr (.inl (trF 4 g))))) = pY a (uW y g) h := hsC (by decide) fun i hi => by
  match i, hi with
  | 0, _ => rfl
  | 1, _ => rfl
  | 2, _ => rfl
  | 3, _ => rfl
  | 4, _ => rfl
  | 5, _ => rfl
  | 6, _ => rfl
  | 7, _ => rfl
  | 8, _ => rfl
  | 9, _ => rfl
  | 10, _ => rfl
  | 11, _ => rfl
  | 12, _ => rfl
  | 13, _ => rfl
  | 14, _ => rfl
  | 15, _ => rfl
  | n + 16, h => exact absurd h (by omega)
theorem Y_wsw {x : UInt32} {f : sH → Prop} : sS' (pY a y h) (a + 3) i x f ↔ vp_in i 4 ∧ f (pY a (uW y (vf_upd (yW y) i.toNatClampNeg x)) h) := by
  unfold sS' oF; rw [hgY3]
  constructor
  · exact fun z => ⟨z.2.1, by have := z.2.2; rw [trF_upd (vp_lt z.2.1), hsYw] at this; exact this⟩
  · exact fun z => ⟨rfl, z.1, by rw [trF_upd (vp_lt z.1), hsYw]; exact z.2⟩
/-- its plan is a plan -/
theorem pY_P {p : tP} : pP (a + 13) p (pY a y h) = pY a (uP y p) h := pC_in (o := 13) (by decide) fun i hi => by
  match i, hi with
  | 0, _ => rfl
  | 1, _ => rfl
  | 2, _ => rfl
  | 3, _ => rfl
  | 4, _ => rfl
  | 5, _ => rfl
  | 6, _ => rfl
  | 7, _ => rfl
  | 8, _ => rfl
  | 9, _ => rfl
  | 10, _ => rfl
  | 11, _ => rfl
  | 12, _ => rfl
  | 13, _ => rfl
  | 14, _ => rfl
  | 15, _ => rfl
  | n + 16, h => exact absurd h (by omega)
theorem pY_eta : pP (a + 13) (yP y) (pY a y h) = pY a y h := pY_P
theorem isP_Y : isP (pY a y h) (a + 13) (yP y) := pY_eta
/-- only what lies within the arrays counts -/
def eqY (y z : tY) : Prop := (∀ k, k = 0 ∨ k = 1 ∨ k = 4 ∨ k = 5 ∨ k = 6 → yB y k = yB z k) ∧ yC y = yC z ∧ yT y = yT z ∧ (∀ k j, k < 12 → j < 4 → yA y k j = yA z k j) ∧ (∀ k j, 12 ≤ k → k < 19 → j < 8 → yA y k j = yA z k j) ∧ (∀ j, j < 4 → yW y j = yW z j) ∧ (∀ j, j < 32 → (yP y).1 j = (yP z).1 j) ∧ ∀ j, j < 4 → (yP y).2 j = (yP z).2 j
theorem pY_eq {z : tY} (e : eqY y z) : pY a y h = pY a z h := by
  obtain ⟨e1, e2, e3, e4, e5, e6, e7, e8⟩ := e
  have hW : trF 4 (yW y) = trF 4 (yW z) := by
    funext q
    unfold trF
    by_cases hq : q < 4
    · rw [if_pos hq, if_pos hq, e6 q hq]
    · rw [if_neg hq, if_neg hq]
  have hP : ∀ j, cP (a + 13) (yP y) j = cP (a + 13) (yP z) j := by
    intro j
    match j with
    | 0 => rfl
    | 1 => show Sum.inl (0, 32, Sum.inl _) = Sum.inl (0, 32, Sum.inl _); rw [tr_eq e7]
    | j + 2 => show Sum.inl (0, 4, Sum.inl _) = Sum.inl (0, 4, Sum.inl _); rw [tr_eq fun j hj => by rw [e8 j hj]]
  refine pC_fun fun j hj => ?_
  match j, hj with
  | 0, _ => show Sum.inr (7, _) = Sum.inr (7, _); rw [e1 0 (by omega), e1 1 (by omega), e1 4 (by omega), e1 5 (by omega), e1 6 (by omega), e2, e3]
  | 1, _ => show Sum.inl (0, 4, _) = Sum.inl (0, 4, _); rw [tr_eq (fun j hj => e4 7 j (by decide) hj)]
  | 2, _ => show Sum.inl (0, 4, _) = Sum.inl (0, 4, _); rw [tr_eq (fun j hj => e4 8 j (by decide) hj)]
  | 3, _ => show Sum.inl (2, 4, _) = Sum.inl (2, 4, _); rw [hW]
  | 4, _ => show Sum.inl (0, 4, _) = Sum.inl (0, 4, _); rw [tr_eq (fun j hj => e4 10 j (by decide) hj)]
  | 5, _ => show Sum.inl (0, 4, _) = Sum.inl (0, 4, _); rw [tr_eq (fun j hj => e4 11 j (by decide) hj)]
  | 6, _ => show Sum.inl (0, 8, _) = Sum.inl (0, 8, _); rw [tr_eq (fun j hj => e5 12 j (by decide) (by decide) hj)]
  | 7, _ => show Sum.inl (0, 8, _) = Sum.inl (0, 8, _); rw [tr_eq (fun j hj => e5 13 j (by decide) (by decide) hj)]
  | 8, _ => show Sum.inl (0, 8, _) = Sum.inl (0, 8, _); rw [tr_eq (fun j hj => e5 14 j (by decide) (by decide) hj)]
  | 9, _ => show Sum.inl (0, 8, _) = Sum.inl (0, 8, _); rw [tr_eq (fun j hj => e5 15 j (by decide) (by decide) hj)]
  | 10, _ => show Sum.inl (0, 8, _) = Sum.inl (0, 8, _); rw [tr_eq (fun j hj => e5 16 j (by decide) (by decide) hj)]
  | 11, _ => show Sum.inl (0, 8, _) = Sum.inl (0, 8, _); rw [tr_eq (fun j hj => e5 17 j (by decide) (by decide) hj)]
  | 12, _ => show Sum.inl (0, 8, _) = Sum.inl (0, 8, _); rw [tr_eq (fun j hj => e5 18 j (by decide) (by decide) hj)]
  | 13, _ => exact hP 0
  | 14, _ => exact hP 1
  | 15, _ => exact hP 2
  | n + 16, h => exact absurd h (by omega)
def isY (h : sH) (a : Nat) (y : tY) : Prop := pY a y h = h
theorem isY_o {b : Nat} {z : tY} (hz : isY h b z) (hd : a + 16 ≤ b ∨ b + 16 ≤ a) : isY (pY a y h) b z := by
  unfold isY pY at *
  rw [pC_comm (by omega), hz]
theorem pY_comm {b : Nat} {z : tY} (hd : a + 16 ≤ b ∨ b + 16 ≤ a) : pY a y (pY b z h) = pY b z (pY a y h) := pC_comm (by omega)
theorem pY_twice {z : tY} : pY a y (pY a z h) = pY a y h := pC_twice
end YB
section YO
variable {a d : Nat} {y : tY} {h : sH} {k : sK} {Q : sQ} {i x : Int32}
theorem Y'_ob {c : Nat} (hy : isY h a y) : (oO h a fun c' _ => c' = c) ↔ 7 = c := by rw [← hy]; exact Y_ob
theorem Y'_g0 {f : Value → Prop} (hy : isY h a y) : fG h a 7 0 f ↔ f (.int (yB y 0)) := by rw [← hy]; exact Y_g0
theorem Y'_g1 {f : Value → Prop} (hy : isY h a y) : fG h a 7 1 f ↔ f (.int (yB y 1)) := by rw [← hy]; exact Y_g1
theorem Y'_g2 {f : Value → Prop} (hy : isY h a y) : fG h a 7 2 f ↔ f (.int (nI (yC y))) := by rw [← hy]; exact Y_g2
theorem Y'_g3 {f : Value → Prop} (hy : isY h a y) : fG h a 7 3 f ↔ f (.int (nI (yT y))) := by rw [← hy]; exact Y_g3
theorem Y'_g4 {f : Value → Prop} (hy : isY h a y) : fG h a 7 4 f ↔ f (.int (yB y 4)) := by rw [← hy]; exact Y_g4
theorem Y'_g5 {f : Value → Prop} (hy : isY h a y) : fG h a 7 5 f ↔ f (.int (yB y 5)) := by rw [← hy]; exact Y_g5
theorem Y'_g6 {f : Value → Prop} (hy : isY h a y) : fG h a 7 6 f ↔ f (.int (yB y 6)) := by rw [← hy]; exact Y_g6
theorem Y'_g7 {f : Value → Prop} (hy : isY h a y) : fG h a 7 7 f ↔ f (.ref (a + 1)) := by rw [← hy]; exact Y_g7
theorem Y'_g8 {f : Value → Prop} (hy : isY h a y) : fG h a 7 8 f ↔ f (.ref (a + 2)) := by rw [← hy]; exact Y_g8
theorem Y'_g9 {f : Value → Prop} (hy : isY h a y) : fG h a 7 9 f ↔ f (.ref (a + 3)) := by rw [← hy]; exact Y_g9
theorem Y'_g10 {f : Value → Prop} (hy : isY h a y) : fG h a 7 10 f ↔ f (.ref (a + 4)) := by rw [← hy]; exact Y_g10
theorem Y'_g11 {f : Value → Prop} (hy : isY h a y) : fG h a 7 11 f ↔ f (.ref (a + 5)) := by rw [← hy]; exact Y_g11
theorem Y'_g12 {f : Value → Prop} (hy : isY h a y) : fG h a 7 12 f ↔ f (.ref (a + 6)) := by rw [← hy]; exact Y_g12
theorem Y'_g13 {f : Value → Prop} (hy : isY h a y) : fG h a 7 13 f ↔ f (.ref (a + 7)) := by rw [← hy]; exact Y_g13
theorem Y'_g14 {f : Value → Prop} (hy : isY h a y) : fG h a 7 14 f ↔ f (.ref (a + 8)) := by rw [← hy]; exact Y_g14
theorem Y'_g15 {f : Value → Prop} (hy : isY h a y) : fG h a 7 15 f ↔ f (.ref (a + 9)) := by rw [← hy]; exact Y_g15
theorem Y'_g16 {f : Value → Prop} (hy : isY h a y) : fG h a 7 16 f ↔ f (.ref (a + 10)) := by rw [← hy]; exact Y_g16
theorem Y'_g17 {f : Value → Prop} (hy : isY h a y) : fG h a 7 17 f ↔ f (.ref (a + 11)) := by rw [← hy]; exact Y_g17
theorem Y'_g18 {f : Value → Prop} (hy : isY h a y) : fG h a 7 18 f ↔ f (.ref (a + 12)) := by rw [← hy]; exact Y_g18
theorem Y'_g19 {f : Value → Prop} (hy : isY h a y) : fG h a 7 19 f ↔ f (.ref (a + 13)) := by rw [← hy]; exact Y_g19
theorem Y'_a7 {f : Int32 → Prop} (hy : isY h a y) : aG h (a + 1) i f ↔ vp_in i 4 ∧ f (yA y 7 i.toNatClampNeg) := by rw [← hy]; exact Y_a7
theorem Y'_a8 {f : Int32 → Prop} (hy : isY h a y) : aG h (a + 2) i f ↔ vp_in i 4 ∧ f (yA y 8 i.toNatClampNeg) := by rw [← hy]; exact Y_a8
theorem Y'_a10 {f : Int32 → Prop} (hy : isY h a y) : aG h (a + 4) i f ↔ vp_in i 4 ∧ f (yA y 10 i.toNatClampNeg) := by rw [← hy]; exact Y_a10
theorem Y'_a11 {f : Int32 → Prop} (hy : isY h a y) : aG h (a + 5) i f ↔ vp_in i 4 ∧ f (yA y 11 i.toNatClampNeg) := by rw [← hy]; exact Y_a11
theorem Y'_a12 {f : Int32 → Prop} (hy : isY h a y) : aG h (a + 6) i f ↔ vp_in i 8 ∧ f (yA y 12 i.toNatClampNeg) := by rw [← hy]; exact Y_a12
theorem Y'_a13 {f : Int32 → Prop} (hy : isY h a y) : aG h (a + 7) i f ↔ vp_in i 8 ∧ f (yA y 13 i.toNatClampNeg) := by rw [← hy]; exact Y_a13
theorem Y'_a14 {f : Int32 → Prop} (hy : isY h a y) : aG h (a + 8) i f ↔ vp_in i 8 ∧ f (yA y 14 i.toNatClampNeg) := by rw [← hy]; exact Y_a14
theorem Y'_a15 {f : Int32 → Prop} (hy : isY h a y) : aG h (a + 9) i f ↔ vp_in i 8 ∧ f (yA y 15 i.toNatClampNeg) := by rw [← hy]; exact Y_a15
theorem Y'_a16 {f : Int32 → Prop} (hy : isY h a y) : aG h (a + 10) i f ↔ vp_in i 8 ∧ f (yA y 16 i.toNatClampNeg) := by rw [← hy]; exact Y_a16
theorem Y'_a17 {f : Int32 → Prop} (hy : isY h a y) : aG h (a + 11) i f ↔ vp_in i 8 ∧ f (yA y 17 i.toNatClampNeg) := by rw [← hy]; exact Y_a17
theorem Y'_a18 {f : Int32 → Prop} (hy : isY h a y) : aG h (a + 12) i f ↔ vp_in i 8 ∧ f (yA y 18 i.toNatClampNeg) := by rw [← hy]; exact Y_a18
theorem Y'_sw {f : UInt32 → Prop} (hy : isY h a y) : sG' h (a + 3) i f ↔ vp_in i 4 ∧ f (yW y i.toNatClampNeg) := by rw [← hy]; exact Y_sw
theorem isP_Y' (hy : isY h a y) : isP h (a + 13) (yP y) := by
  have := isP_Y (a := a) (y := y) (h := h)
  unfold isY at hy
  rwa [hy] at this
end YO
