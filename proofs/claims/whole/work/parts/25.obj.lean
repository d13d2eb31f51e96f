/-! Objects typed alike: numbers (Nat, Int32, Bool), arrays (int, float), a plan; by their fields -/
abbrev tO : Type := (Nat → Nat) × (Nat → Int32) × (Nat → Bool) × (Nat → Nat → Int32) × (Nat → Nat → UInt32) × tP
def eN (o : tO) (k : Nat) : Nat := o.1 k
def eI (o : tO) (k : Nat) : Int32 := o.2.1 k
def eB (o : tO) (k : Nat) : Bool := o.2.2.1 k
def eA (o : tO) (k : Nat) : Nat → Int32 := o.2.2.2.1 k
def eF (o : tO) (k : Nat) : Nat → UInt32 := o.2.2.2.2.1 k
def eP (o : tO) : tP := o.2.2.2.2.2
def vN (o : tO) (k : Nat) (x : Nat) : tO := (fun q => if q = k then x else o.1 q, o.2)
def vI (o : tO) (k : Nat) (x : Int32) : tO := (o.1, fun q => if q = k then x else o.2.1 q, o.2.2)
def vB (o : tO) (k : Nat) (x : Bool) : tO := (o.1, o.2.1, fun q => if q = k then x else o.2.2.1 q, o.2.2.2)
def vA (o : tO) (k : Nat) (x : Nat → Int32) : tO := (o.1, o.2.1, o.2.2.1, fun q => if q = k then x else o.2.2.2.1 q, o.2.2.2.2)
def vF (o : tO) (k : Nat) (x : Nat → UInt32) : tO := (o.1, o.2.1, o.2.2.1, o.2.2.2.1, fun q => if q = k then x else o.2.2.2.2.1 q, o.2.2.2.2.2)
def vP (o : tO) (x : tP) : tO := (o.1, o.2.1, o.2.2.1, o.2.2.2.1, o.2.2.2.2.1, x)
theorem tO_eq {o q : tO} (h1 : eN o = eN q) (h2 : eI o = eI q) (h3 : eB o = eB q) (h4 : eA o = eA q) (h5 : eF o = eF q) (h6 : eP o = eP q) : o = q := Prod.ext h1 (Prod.ext h2 (Prod.ext h3 (Prod.ext h4 (Prod.ext h5 h6))))
theorem eN_vN (o : tO) (k q : Nat) (x : Nat) : eN (vN o k x) q = if q = k then x else eN o q := rfl
theorem eI_vN (o : tO) (k : Nat) (x : Nat) (q : Nat) : eI (vN o k x) q = eI o q := rfl
theorem eB_vN (o : tO) (k : Nat) (x : Nat) (q : Nat) : eB (vN o k x) q = eB o q := rfl
theorem eA_vN (o : tO) (k : Nat) (x : Nat) (q : Nat) : eA (vN o k x) q = eA o q := rfl
theorem eF_vN (o : tO) (k : Nat) (x : Nat) (q : Nat) : eF (vN o k x) q = eF o q := rfl
theorem eP_vN (o : tO) (k : Nat) (x : Nat) : eP (vN o k x) = eP o := rfl
theorem eN_vI (o : tO) (k : Nat) (x : Int32) (q : Nat) : eN (vI o k x) q = eN o q := rfl
theorem eI_vI (o : tO) (k q : Nat) (x : Int32) : eI (vI o k x) q = if q = k then x else eI o q := rfl
theorem eB_vI (o : tO) (k : Nat) (x : Int32) (q : Nat) : eB (vI o k x) q = eB o q := rfl
theorem eA_vI (o : tO) (k : Nat) (x : Int32) (q : Nat) : eA (vI o k x) q = eA o q := rfl
theorem eF_vI (o : tO) (k : Nat) (x : Int32) (q : Nat) : eF (vI o k x) q = eF o q := rfl
theorem eP_vI (o : tO) (k : Nat) (x : Int32) : eP (vI o k x) = eP o := rfl
theorem eN_vB (o : tO) (k : Nat) (x : Bool) (q : Nat) : eN (vB o k x) q = eN o q := rfl
theorem eI_vB (o : tO) (k : Nat) (x : Bool) (q : Nat) : eI (vB o k x) q = eI o q := rfl
theorem eB_vB (o : tO) (k q : Nat) (x : Bool) : eB (vB o k x) q = if q = k then x else eB o q := rfl
theorem eA_vB (o : tO) (k : Nat) (x : Bool) (q : Nat) : eA (vB o k x) q = eA o q := rfl
theorem eF_vB (o : tO) (k : Nat) (x : Bool) (q : Nat) : eF (vB o k x) q = eF o q := rfl
theorem eP_vB (o : tO) (k : Nat) (x : Bool) : eP (vB o k x) = eP o := rfl
theorem eN_vA (o : tO) (k : Nat) (x : Nat → Int32) (q : Nat) : eN (vA o k x) q = eN o q := rfl
theorem eI_vA (o : tO) (k : Nat) (x : Nat → Int32) (q : Nat) : eI (vA o k x) q = eI o q := rfl
theorem eB_vA (o : tO) (k : Nat) (x : Nat → Int32) (q : Nat) : eB (vA o k x) q = eB o q := rfl
theorem eA_vA (o : tO) (k q : Nat) (x : Nat → Int32) : eA (vA o k x) q = if q = k then x else eA o q := rfl
theorem eF_vA (o : tO) (k : Nat) (x : Nat → Int32) (q : Nat) : eF (vA o k x) q = eF o q := rfl
theorem eP_vA (o : tO) (k : Nat) (x : Nat → Int32) : eP (vA o k x) = eP o := rfl
theorem eN_vF (o : tO) (k : Nat) (x : Nat → UInt32) (q : Nat) : eN (vF o k x) q = eN o q := rfl
theorem eI_vF (o : tO) (k : Nat) (x : Nat → UInt32) (q : Nat) : eI (vF o k x) q = eI o q := rfl
theorem eB_vF (o : tO) (k : Nat) (x : Nat → UInt32) (q : Nat) : eB (vF o k x) q = eB o q := rfl
theorem eA_vF (o : tO) (k : Nat) (x : Nat → UInt32) (q : Nat) : eA (vF o k x) q = eA o q := rfl
theorem eF_vF (o : tO) (k q : Nat) (x : Nat → UInt32) : eF (vF o k x) q = if q = k then x else eF o q := rfl
theorem eP_vF (o : tO) (k : Nat) (x : Nat → UInt32) : eP (vF o k x) = eP o := rfl
theorem eN_vP (o : tO) (x : tP) (q : Nat) : eN (vP o x) q = eN o q := rfl
theorem eI_vP (o : tO) (x : tP) (q : Nat) : eI (vP o x) q = eI o q := rfl
theorem eB_vP (o : tO) (x : tP) (q : Nat) : eB (vP o x) q = eB o q := rfl
theorem eA_vP (o : tO) (x : tP) (q : Nat) : eA (vP o x) q = eA o q := rfl
theorem eF_vP (o : tO) (x : tP) (q : Nat) : eF (vP o x) q = eF o q := rfl
theorem eP_vP (o : tO) (x : tP) : eP (vP o x) = x := rfl
def cTp (b : Nat) (o : tO) : Nat → sC
  | 0 => .inr (6, [.ref (b + 1), .int (nI (eN o 1)), .int (nI (eN o 2)), .int (eI o 3), .int (eI o 4), .int (nI (eN o 5))])
  | 1 => .inl (0, 400, .inl (tr32 400 (eA o 0)))
  | _ => .inl (0, 0, .inl (tr32 0 fun _ => 0))
def pTp (b : Nat) (o : tO) (h : sH) : sH := pC b 2 (cTp b o) h
section QTp
variable {b d : Nat} {o : tO} {h : sH} {i x : Int32}
theorem hgTp0 : hg (pTp b o h) b = cTp b o 0 := hgC0 (by decide)
theorem hgTp1 : hg (pTp b o h) (b + 1) = cTp b o 1 := hgC (by decide)
theorem Tp_ob {c : Nat} : (oO (pTp b o h) b fun c' _ => c' = c) ↔ 6 = c := by unfold oO; rw [hgTp0]; exact Iff.rfl
theorem Tp_g0 {f : Value → Prop} : fG (pTp b o h) b 6 0 f ↔ f (.ref (b + 1)) := by unfold fG oO; rw [hgTp0]; exact ⟨fun z => z.2, fun z => ⟨rfl, z⟩⟩
theorem Tp_g1 {f : Value → Prop} : fG (pTp b o h) b 6 1 f ↔ f (.int (nI (eN o 1))) := by unfold fG oO; rw [hgTp0]; exact ⟨fun z => z.2, fun z => ⟨rfl, z⟩⟩
theorem hsTp_1 {n : Nat} : hs (pTp b o h) b (.inr (6, [.ref (b + 1), .int (nI n), .int (nI (eN o 2)), .int (eI o 3), .int (eI o 4), .int (nI (eN o 5))])) = pTp b (vN o 1 n) h := hsC (j := 0) (by decide) fun i hi => by
  match i, hi with
  | 0, _ => rfl
  | 1, _ => rfl
  | n + 2, h => exact absurd h (by omega)
theorem Tp_s1 {n : Nat} {f : sH → Prop} : fS (pTp b o h) b 6 1 (.int (nI n)) f ↔ f (pTp b (vN o 1 n) h) := fS_of hgTp0 (Nat.le_of_ble_eq_true rfl) rfl rfl hsTp_1
theorem Tp_g2 {f : Value → Prop} : fG (pTp b o h) b 6 2 f ↔ f (.int (nI (eN o 2))) := by unfold fG oO; rw [hgTp0]; exact ⟨fun z => z.2, fun z => ⟨rfl, z⟩⟩
theorem hsTp_2 {n : Nat} : hs (pTp b o h) b (.inr (6, [.ref (b + 1), .int (nI (eN o 1)), .int (nI n), .int (eI o 3), .int (eI o 4), .int (nI (eN o 5))])) = pTp b (vN o 2 n) h := hsC (j := 0) (by decide) fun i hi => by
  match i, hi with
  | 0, _ => rfl
  | 1, _ => rfl
  | n + 2, h => exact absurd h (by omega)
theorem Tp_s2 {n : Nat} {f : sH → Prop} : fS (pTp b o h) b 6 2 (.int (nI n)) f ↔ f (pTp b (vN o 2 n) h) := fS_of hgTp0 (Nat.le_of_ble_eq_true rfl) rfl rfl hsTp_2
theorem Tp_g3 {f : Value → Prop} : fG (pTp b o h) b 6 3 f ↔ f (.int (eI o 3)) := by unfold fG oO; rw [hgTp0]; exact ⟨fun z => z.2, fun z => ⟨rfl, z⟩⟩
theorem hsTp_3 : hs (pTp b o h) b (.inr (6, [.ref (b + 1), .int (nI (eN o 1)), .int (nI (eN o 2)), .int x, .int (eI o 4), .int (nI (eN o 5))])) = pTp b (vI o 3 x) h := hsC (j := 0) (by decide) fun i hi => by
  match i, hi with
  | 0, _ => rfl
  | 1, _ => rfl
  | n + 2, h => exact absurd h (by omega)
theorem Tp_s3 {f : sH → Prop} : fS (pTp b o h) b 6 3 (.int x) f ↔ f (pTp b (vI o 3 x) h) := fS_of hgTp0 (Nat.le_of_ble_eq_true rfl) rfl rfl hsTp_3
theorem Tp_g4 {f : Value → Prop} : fG (pTp b o h) b 6 4 f ↔ f (.int (eI o 4)) := by unfold fG oO; rw [hgTp0]; exact ⟨fun z => z.2, fun z => ⟨rfl, z⟩⟩
theorem hsTp_4 : hs (pTp b o h) b (.inr (6, [.ref (b + 1), .int (nI (eN o 1)), .int (nI (eN o 2)), .int (eI o 3), .int x, .int (nI (eN o 5))])) = pTp b (vI o 4 x) h := hsC (j := 0) (by decide) fun i hi => by
  match i, hi with
  | 0, _ => rfl
  | 1, _ => rfl
  | n + 2, h => exact absurd h (by omega)
theorem Tp_s4 {f : sH → Prop} : fS (pTp b o h) b 6 4 (.int x) f ↔ f (pTp b (vI o 4 x) h) := fS_of hgTp0 (Nat.le_of_ble_eq_true rfl) rfl rfl hsTp_4
theorem Tp_g5 {f : Value → Prop} : fG (pTp b o h) b 6 5 f ↔ f (.int (nI (eN o 5))) := by unfold fG oO; rw [hgTp0]; exact ⟨fun z => z.2, fun z => ⟨rfl, z⟩⟩
theorem hsTp_5 {n : Nat} : hs (pTp b o h) b (.inr (6, [.ref (b + 1), .int (nI (eN o 1)), .int (nI (eN o 2)), .int (eI o 3), .int (eI o 4), .int (nI n)])) = pTp b (vN o 5 n) h := hsC (j := 0) (by decide) fun i hi => by
  match i, hi with
  | 0, _ => rfl
  | 1, _ => rfl
  | n + 2, h => exact absurd h (by omega)
theorem Tp_s5 {n : Nat} {f : sH → Prop} : fS (pTp b o h) b 6 5 (.int (nI n)) f ↔ f (pTp b (vN o 5 n) h) := fS_of hgTp0 (Nat.le_of_ble_eq_true rfl) rfl rfl hsTp_5
theorem Tp_a0 {f : Int32 → Prop} : aG (pTp b o h) (b + 1) i f ↔ vp_in i 400 ∧ f (eA o 0 i.toNatClampNeg) := by
  unfold aG oI; rw [hgTp1]
  exact ⟨fun z => ⟨z.2.1, by have := z.2.2; rwa [tr_in (vp_lt z.2.1)] at this⟩, fun z => ⟨Or.inl rfl, z.1, by rw [tr_in (vp_lt z.1)]; exact z.2⟩⟩
theorem Tp_n0 {f : Int32 → Prop} : aL (pTp b o h) (b + 1) f ↔ f (nI 400) := by
  unfold aL oA; rw [hgTp1]
  exact ⟨fun z => z.2, fun z => ⟨Or.inl (by decide), z⟩⟩
theorem hsTpa0 {g : Nat → Int32} : hs (pTp b o h) (b + 1) (.inl (0, 400, .inl (tr32 400 g))) = pTp b (vA o 0 g) h := hsC (by decide) fun i hi => by
  match i, hi with
  | 0, _ => rfl
  | 1, _ => rfl
  | n + 2, h => exact absurd h (by omega)
theorem Tp_w0 {f : sH → Prop} : aS (pTp b o h) (b + 1) i x f ↔ vp_in i 400 ∧ f (pTp b (vA o 0 (upd (eA o 0) i.toNatClampNeg x)) h) := by
  unfold aS oI; rw [hgTp1]
  constructor
  · exact fun z => ⟨z.2.1, by have := z.2.2; rw [tr_upd (vp_lt z.2.1), hsTpa0] at this; exact this⟩
  · exact fun z => ⟨rfl, z.1, by rw [tr_upd (vp_lt z.1), hsTpa0]; exact z.2⟩
def isTp (h : sH) (b : Nat) (o : tO) : Prop := pTp b o h = h
end QTp
def cCh (b : Nat) (o : tO) : Nat → sC
  | 0 => .inr (1, [.ref (b + 1), .int (iB (eB o 1)), .int (eI o 2), .int (eI o 3), .int (eI o 4), .int (eI o 5)])
  | j => cP (b + 1) (eP o) (j - 1)
def pCh (b : Nat) (o : tO) (h : sH) : sH := pC b 4 (cCh b o) h
section QCh
variable {b d : Nat} {o : tO} {h : sH} {i x : Int32}
theorem hgCh0 : hg (pCh b o h) b = cCh b o 0 := hgC0 (by decide)
theorem hgCh1 : hg (pCh b o h) (b + 1) = cCh b o 1 := hgC (by decide)
theorem hgCh2 : hg (pCh b o h) (b + 2) = cCh b o 2 := hgC (by decide)
theorem hgCh3 : hg (pCh b o h) (b + 3) = cCh b o 3 := hgC (by decide)
theorem Ch_ob {c : Nat} : (oO (pCh b o h) b fun c' _ => c' = c) ↔ 1 = c := by unfold oO; rw [hgCh0]; exact Iff.rfl
theorem Ch_g0 {f : Value → Prop} : fG (pCh b o h) b 1 0 f ↔ f (.ref (b + 1)) := by unfold fG oO; rw [hgCh0]; exact ⟨fun z => z.2, fun z => ⟨rfl, z⟩⟩
theorem Ch_g1 {f : Value → Prop} : fG (pCh b o h) b 1 1 f ↔ f (.int (iB (eB o 1))) := by unfold fG oO; rw [hgCh0]; exact ⟨fun z => z.2, fun z => ⟨rfl, z⟩⟩
theorem hsCh_1 {v : Bool} : hs (pCh b o h) b (.inr (1, [.ref (b + 1), .int (iB v), .int (eI o 2), .int (eI o 3), .int (eI o 4), .int (eI o 5)])) = pCh b (vB o 1 v) h := hsC (j := 0) (by decide) fun i hi => by
  match i, hi with
  | 0, _ => rfl
  | 1, _ => rfl
  | 2, _ => rfl
  | 3, _ => rfl
  | n + 4, h => exact absurd h (by omega)
theorem Ch_s1 {v : Bool} {f : sH → Prop} : fS (pCh b o h) b 1 1 (.int (iB v)) f ↔ f (pCh b (vB o 1 v) h) := fS_of hgCh0 (Nat.le_of_ble_eq_true rfl) (nbB.mpr trivial) (by cases v <;> rfl) hsCh_1
theorem Ch_s1t {f : sH → Prop} : fS (pCh b o h) b 1 1 (.int (nI 1)) f ↔ f (pCh b (vB o 1 true) h) := fS_of hgCh0 (Nat.le_of_ble_eq_true rfl) rfl rfl (hsCh_1 (v := true))
theorem Ch_s1f {f : sH → Prop} : fS (pCh b o h) b 1 1 (.int (nI 0)) f ↔ f (pCh b (vB o 1 false) h) := fS_of hgCh0 (Nat.le_of_ble_eq_true rfl) rfl rfl (hsCh_1 (v := false))
theorem Ch_g2 {f : Value → Prop} : fG (pCh b o h) b 1 2 f ↔ f (.int (eI o 2)) := by unfold fG oO; rw [hgCh0]; exact ⟨fun z => z.2, fun z => ⟨rfl, z⟩⟩
theorem hsCh_2 : hs (pCh b o h) b (.inr (1, [.ref (b + 1), .int (iB (eB o 1)), .int x, .int (eI o 3), .int (eI o 4), .int (eI o 5)])) = pCh b (vI o 2 x) h := hsC (j := 0) (by decide) fun i hi => by
  match i, hi with
  | 0, _ => rfl
  | 1, _ => rfl
  | 2, _ => rfl
  | 3, _ => rfl
  | n + 4, h => exact absurd h (by omega)
theorem Ch_s2 {f : sH → Prop} : fS (pCh b o h) b 1 2 (.int x) f ↔ f (pCh b (vI o 2 x) h) := fS_of hgCh0 (Nat.le_of_ble_eq_true rfl) rfl rfl hsCh_2
theorem Ch_g3 {f : Value → Prop} : fG (pCh b o h) b 1 3 f ↔ f (.int (eI o 3)) := by unfold fG oO; rw [hgCh0]; exact ⟨fun z => z.2, fun z => ⟨rfl, z⟩⟩
theorem hsCh_3 : hs (pCh b o h) b (.inr (1, [.ref (b + 1), .int (iB (eB o 1)), .int (eI o 2), .int x, .int (eI o 4), .int (eI o 5)])) = pCh b (vI o 3 x) h := hsC (j := 0) (by decide) fun i hi => by
  match i, hi with
  | 0, _ => rfl
  | 1, _ => rfl
  | 2, _ => rfl
  | 3, _ => rfl
  | n + 4, h => exact absurd h (by omega)
theorem Ch_s3 {f : sH → Prop} : fS (pCh b o h) b 1 3 (.int x) f ↔ f (pCh b (vI o 3 x) h) := fS_of hgCh0 (Nat.le_of_ble_eq_true rfl) rfl rfl hsCh_3
theorem Ch_g4 {f : Value → Prop} : fG (pCh b o h) b 1 4 f ↔ f (.int (eI o 4)) := by unfold fG oO; rw [hgCh0]; exact ⟨fun z => z.2, fun z => ⟨rfl, z⟩⟩
theorem hsCh_4 : hs (pCh b o h) b (.inr (1, [.ref (b + 1), .int (iB (eB o 1)), .int (eI o 2), .int (eI o 3), .int x, .int (eI o 5)])) = pCh b (vI o 4 x) h := hsC (j := 0) (by decide) fun i hi => by
  match i, hi with
  | 0, _ => rfl
  | 1, _ => rfl
  | 2, _ => rfl
  | 3, _ => rfl
  | n + 4, h => exact absurd h (by omega)
theorem Ch_s4 {f : sH → Prop} : fS (pCh b o h) b 1 4 (.int x) f ↔ f (pCh b (vI o 4 x) h) := fS_of hgCh0 (Nat.le_of_ble_eq_true rfl) rfl rfl hsCh_4
theorem Ch_g5 {f : Value → Prop} : fG (pCh b o h) b 1 5 f ↔ f (.int (eI o 5)) := by unfold fG oO; rw [hgCh0]; exact ⟨fun z => z.2, fun z => ⟨rfl, z⟩⟩
theorem hsCh_5 : hs (pCh b o h) b (.inr (1, [.ref (b + 1), .int (iB (eB o 1)), .int (eI o 2), .int (eI o 3), .int (eI o 4), .int x])) = pCh b (vI o 5 x) h := hsC (j := 0) (by decide) fun i hi => by
  match i, hi with
  | 0, _ => rfl
  | 1, _ => rfl
  | 2, _ => rfl
  | 3, _ => rfl
  | n + 4, h => exact absurd h (by omega)
theorem Ch_s5 {f : sH → Prop} : fS (pCh b o h) b 1 5 (.int x) f ↔ f (pCh b (vI o 5 x) h) := fS_of hgCh0 (Nat.le_of_ble_eq_true rfl) rfl rfl hsCh_5
theorem pCh_P {p : tP} : pP (b + 1) p (pCh b o h) = pCh b (vP o p) h := pC_in (o := 1) (by decide) fun i hi => by
  match i, hi with
  | 0, _ => rfl
  | 1, _ => rfl
  | 2, _ => rfl
  | 3, _ => rfl
  | n + 4, h => exact absurd h (by omega)
theorem isP_Ch : isP (pCh b o h) (b + 1) (eP o) := pCh_P
def isCh (h : sH) (b : Nat) (o : tO) : Prop := pCh b o h = h
end QCh
def cCo (b : Nat) (o : tO) : Nat → sC
  | 0 => .inr (2, [.ref (b + 1), .ref (b + 2), .ref (b + 3), .ref (b + 4), .int (eI o 4), .int (iB (eB o 5))])
  | 1 => .inl (0, 1204, .inl (tr32 1204 (eA o 0)))
  | 2 => .inl (2, 1204, .inr (.inr (.inl (trF 1204 (eF o 1)))))
  | 3 => .inl (0, 1200, .inl (tr32 1200 (eA o 2)))
  | 4 => .inl (0, 8, .inl (tr32 8 (eA o 3)))
  | _ => .inl (0, 0, .inl (tr32 0 fun _ => 0))
def pCo (b : Nat) (o : tO) (h : sH) : sH := pC b 5 (cCo b o) h
section QCo
variable {b d : Nat} {o : tO} {h : sH} {i x : Int32}
theorem hgCo0 : hg (pCo b o h) b = cCo b o 0 := hgC0 (by decide)
theorem hgCo1 : hg (pCo b o h) (b + 1) = cCo b o 1 := hgC (by decide)
theorem hgCo2 : hg (pCo b o h) (b + 2) = cCo b o 2 := hgC (by decide)
theorem hgCo3 : hg (pCo b o h) (b + 3) = cCo b o 3 := hgC (by decide)
theorem hgCo4 : hg (pCo b o h) (b + 4) = cCo b o 4 := hgC (by decide)
theorem Co_ob {c : Nat} : (oO (pCo b o h) b fun c' _ => c' = c) ↔ 2 = c := by unfold oO; rw [hgCo0]; exact Iff.rfl
theorem Co_g0 {f : Value → Prop} : fG (pCo b o h) b 2 0 f ↔ f (.ref (b + 1)) := by unfold fG oO; rw [hgCo0]; exact ⟨fun z => z.2, fun z => ⟨rfl, z⟩⟩
theorem Co_g1 {f : Value → Prop} : fG (pCo b o h) b 2 1 f ↔ f (.ref (b + 2)) := by unfold fG oO; rw [hgCo0]; exact ⟨fun z => z.2, fun z => ⟨rfl, z⟩⟩
theorem Co_g2 {f : Value → Prop} : fG (pCo b o h) b 2 2 f ↔ f (.ref (b + 3)) := by unfold fG oO; rw [hgCo0]; exact ⟨fun z => z.2, fun z => ⟨rfl, z⟩⟩
theorem Co_g3 {f : Value → Prop} : fG (pCo b o h) b 2 3 f ↔ f (.ref (b + 4)) := by unfold fG oO; rw [hgCo0]; exact ⟨fun z => z.2, fun z => ⟨rfl, z⟩⟩
theorem Co_g4 {f : Value → Prop} : fG (pCo b o h) b 2 4 f ↔ f (.int (eI o 4)) := by unfold fG oO; rw [hgCo0]; exact ⟨fun z => z.2, fun z => ⟨rfl, z⟩⟩
theorem hsCo_4 : hs (pCo b o h) b (.inr (2, [.ref (b + 1), .ref (b + 2), .ref (b + 3), .ref (b + 4), .int x, .int (iB (eB o 5))])) = pCo b (vI o 4 x) h := hsC (j := 0) (by decide) fun i hi => by
  match i, hi with
  | 0, _ => rfl
  | 1, _ => rfl
  | 2, _ => rfl
  | 3, _ => rfl
  | 4, _ => rfl
  | n + 5, h => exact absurd h (by omega)
theorem Co_s4 {f : sH → Prop} : fS (pCo b o h) b 2 4 (.int x) f ↔ f (pCo b (vI o 4 x) h) := fS_of hgCo0 (Nat.le_of_ble_eq_true rfl) rfl rfl hsCo_4
theorem Co_g5 {f : Value → Prop} : fG (pCo b o h) b 2 5 f ↔ f (.int (iB (eB o 5))) := by unfold fG oO; rw [hgCo0]; exact ⟨fun z => z.2, fun z => ⟨rfl, z⟩⟩
theorem hsCo_5 {v : Bool} : hs (pCo b o h) b (.inr (2, [.ref (b + 1), .ref (b + 2), .ref (b + 3), .ref (b + 4), .int (eI o 4), .int (iB v)])) = pCo b (vB o 5 v) h := hsC (j := 0) (by decide) fun i hi => by
  match i, hi with
  | 0, _ => rfl
  | 1, _ => rfl
  | 2, _ => rfl
  | 3, _ => rfl
  | 4, _ => rfl
  | n + 5, h => exact absurd h (by omega)
theorem Co_s5 {v : Bool} {f : sH → Prop} : fS (pCo b o h) b 2 5 (.int (iB v)) f ↔ f (pCo b (vB o 5 v) h) := fS_of hgCo0 (Nat.le_of_ble_eq_true rfl) (nbB.mpr trivial) (by cases v <;> rfl) hsCo_5
theorem Co_s5t {f : sH → Prop} : fS (pCo b o h) b 2 5 (.int (nI 1)) f ↔ f (pCo b (vB o 5 true) h) := fS_of hgCo0 (Nat.le_of_ble_eq_true rfl) rfl rfl (hsCo_5 (v := true))
theorem Co_s5f {f : sH → Prop} : fS (pCo b o h) b 2 5 (.int (nI 0)) f ↔ f (pCo b (vB o 5 false) h) := fS_of hgCo0 (Nat.le_of_ble_eq_true rfl) rfl rfl (hsCo_5 (v := false))
theorem Co_a0 {f : Int32 → Prop} : aG (pCo b o h) (b + 1) i f ↔ vp_in i 1204 ∧ f (eA o 0 i.toNatClampNeg) := by
  unfold aG oI; rw [hgCo1]
  exact ⟨fun z => ⟨z.2.1, by have := z.2.2; rwa [tr_in (vp_lt z.2.1)] at this⟩, fun z => ⟨Or.inl rfl, z.1, by rw [tr_in (vp_lt z.1)]; exact z.2⟩⟩
theorem Co_n0 {f : Int32 → Prop} : aL (pCo b o h) (b + 1) f ↔ f (nI 1204) := by
  unfold aL oA; rw [hgCo1]
  exact ⟨fun z => z.2, fun z => ⟨Or.inl (by decide), z⟩⟩
theorem hsCoa0 {g : Nat → Int32} : hs (pCo b o h) (b + 1) (.inl (0, 1204, .inl (tr32 1204 g))) = pCo b (vA o 0 g) h := hsC (by decide) fun i hi => by
  match i, hi with
  | 0, _ => rfl
  | 1, _ => rfl
  | 2, _ => rfl
  | 3, _ => rfl
  | 4, _ => rfl
  | n + 5, h => exact absurd h (by omega)
theorem Co_w0 {f : sH → Prop} : aS (pCo b o h) (b + 1) i x f ↔ vp_in i 1204 ∧ f (pCo b (vA o 0 (upd (eA o 0) i.toNatClampNeg x)) h) := by
  unfold aS oI; rw [hgCo1]
  constructor
  · exact fun z => ⟨z.2.1, by have := z.2.2; rw [tr_upd (vp_lt z.2.1), hsCoa0] at this; exact this⟩
  · exact fun z => ⟨rfl, z.1, by rw [tr_upd (vp_lt z.1), hsCoa0]; exact z.2⟩
theorem Co_a1 {f : UInt32 → Prop} : sG' (pCo b o h) (b + 2) i f ↔ vp_in i 1204 ∧ f (eF o 1 i.toNatClampNeg) := by
  unfold sG' oF; rw [hgCo2]
  exact ⟨fun z => ⟨z.2.1, by have := z.2.2; rwa [trF_in (vp_lt z.2.1)] at this⟩, fun z => ⟨rfl, z.1, by rw [trF_in (vp_lt z.1)]; exact z.2⟩⟩
theorem Co_n1 {f : Int32 → Prop} : aL (pCo b o h) (b + 2) f ↔ f (nI 1204) := by
  unfold aL oA; rw [hgCo2]
  exact ⟨fun z => z.2, fun z => ⟨Or.inl (by decide), z⟩⟩
theorem hsCoa1 {g : Nat → UInt32} : hs (pCo b o h) (b + 2) (.inl (2, 1204, .inr (.inr (.inl (trF 1204 g))))) = pCo b (vF o 1 g) h := hsC (by decide) fun i hi => by
  match i, hi with
  | 0, _ => rfl
  | 1, _ => rfl
  | 2, _ => rfl
  | 3, _ => rfl
  | 4, _ => rfl
  | n + 5, h => exact absurd h (by omega)
theorem Co_w1 {x : UInt32} {f : sH → Prop} : sS' (pCo b o h) (b + 2) i x f ↔ vp_in i 1204 ∧ f (pCo b (vF o 1 (vf_upd (eF o 1) i.toNatClampNeg x)) h) := by
  unfold sS' oF; rw [hgCo2]
  constructor
  · exact fun z => ⟨z.2.1, by have := z.2.2; rw [trF_upd (vp_lt z.2.1), hsCoa1] at this; exact this⟩
  · exact fun z => ⟨rfl, z.1, by rw [trF_upd (vp_lt z.1), hsCoa1]; exact z.2⟩
theorem Co_a2 {f : Int32 → Prop} : aG (pCo b o h) (b + 3) i f ↔ vp_in i 1200 ∧ f (eA o 2 i.toNatClampNeg) := by
  unfold aG oI; rw [hgCo3]
  exact ⟨fun z => ⟨z.2.1, by have := z.2.2; rwa [tr_in (vp_lt z.2.1)] at this⟩, fun z => ⟨Or.inl rfl, z.1, by rw [tr_in (vp_lt z.1)]; exact z.2⟩⟩
theorem Co_n2 {f : Int32 → Prop} : aL (pCo b o h) (b + 3) f ↔ f (nI 1200) := by
  unfold aL oA; rw [hgCo3]
  exact ⟨fun z => z.2, fun z => ⟨Or.inl (by decide), z⟩⟩
theorem hsCoa2 {g : Nat → Int32} : hs (pCo b o h) (b + 3) (.inl (0, 1200, .inl (tr32 1200 g))) = pCo b (vA o 2 g) h := hsC (by decide) fun i hi => by
  match i, hi with
  | 0, _ => rfl
  | 1, _ => rfl
  | 2, _ => rfl
  | 3, _ => rfl
  | 4, _ => rfl
  | n + 5, h => exact absurd h (by omega)
theorem Co_w2 {f : sH → Prop} : aS (pCo b o h) (b + 3) i x f ↔ vp_in i 1200 ∧ f (pCo b (vA o 2 (upd (eA o 2) i.toNatClampNeg x)) h) := by
  unfold aS oI; rw [hgCo3]
  constructor
  · exact fun z => ⟨z.2.1, by have := z.2.2; rw [tr_upd (vp_lt z.2.1), hsCoa2] at this; exact this⟩
  · exact fun z => ⟨rfl, z.1, by rw [tr_upd (vp_lt z.1), hsCoa2]; exact z.2⟩
theorem Co_a3 {f : Int32 → Prop} : aG (pCo b o h) (b + 4) i f ↔ vp_in i 8 ∧ f (eA o 3 i.toNatClampNeg) := by
  unfold aG oI; rw [hgCo4]
  exact ⟨fun z => ⟨z.2.1, by have := z.2.2; rwa [tr_in (vp_lt z.2.1)] at this⟩, fun z => ⟨Or.inl rfl, z.1, by rw [tr_in (vp_lt z.1)]; exact z.2⟩⟩
theorem Co_n3 {f : Int32 → Prop} : aL (pCo b o h) (b + 4) f ↔ f (nI 8) := by
  unfold aL oA; rw [hgCo4]
  exact ⟨fun z => z.2, fun z => ⟨Or.inl (by decide), z⟩⟩
theorem hsCoa3 {g : Nat → Int32} : hs (pCo b o h) (b + 4) (.inl (0, 8, .inl (tr32 8 g))) = pCo b (vA o 3 g) h := hsC (by decide) fun i hi => by
  match i, hi with
  | 0, _ => rfl
  | 1, _ => rfl
  | 2, _ => rfl
  | 3, _ => rfl
  | 4, _ => rfl
  | n + 5, h => exact absurd h (by omega)
theorem Co_w3 {f : sH → Prop} : aS (pCo b o h) (b + 4) i x f ↔ vp_in i 8 ∧ f (pCo b (vA o 3 (upd (eA o 3) i.toNatClampNeg x)) h) := by
  unfold aS oI; rw [hgCo4]
  constructor
  · exact fun z => ⟨z.2.1, by have := z.2.2; rw [tr_upd (vp_lt z.2.1), hsCoa3] at this; exact this⟩
  · exact fun z => ⟨rfl, z.1, by rw [tr_upd (vp_lt z.1), hsCoa3]; exact z.2⟩
def isCo (h : sH) (b : Nat) (o : tO) : Prop := pCo b o h = h
end QCo
