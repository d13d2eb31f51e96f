/-! The document's quay in plain numbers: nF 0 bays, 1 gap, 2 cranes, 3 tasks, 4 minute; nA 7 bay, 8 lift, 12 site, 13 takes, 14 heavy, 16 did; nX 17 when done, 18 by whom -/
abbrev tN : Type := (Nat → Nat) × (Nat → Bool) × (Nat → Nat → Nat) × (Nat → UInt32) × (Nat → Nat → Bool) × (Nat → Nat → Int32) × (Nat → List Nat)
def nF (n : tN) : Nat → Nat := n.1
def nK (n : tN) : Nat → Bool := n.2.1
def nA (n : tN) : Nat → Nat → Nat := n.2.2.1
def nW (n : tN) : Nat → UInt32 := n.2.2.2.1
def nV (n : tN) : Nat → Nat → Bool := n.2.2.2.2.1
def nX (n : tN) : Nat → Nat → Int32 := n.2.2.2.2.2.1
def nL (n : tN) : Nat → List Nat := n.2.2.2.2.2.2
def jF (n : tN) (k x : Nat) : tN := (fun q => if q = k then x else n.1 q, n.2)
def jK (n : tN) (f : Nat → Bool) : tN := (n.1, f, n.2.2)
def jA (n : tN) (k : Nat) (f : Nat → Nat) : tN := (n.1, n.2.1, fun q => if q = k then f else n.2.2.1 q, n.2.2.2)
def jW (n : tN) (f : Nat → UInt32) : tN := (n.1, n.2.1, n.2.2.1, f, n.2.2.2.2)
def jV (n : tN) (f : Nat → Nat → Bool) : tN := (n.1, n.2.1, n.2.2.1, n.2.2.2.1, f, n.2.2.2.2.2)
def jX (n : tN) (k : Nat) (f : Nat → Int32) : tN := (n.1, n.2.1, n.2.2.1, n.2.2.2.1, n.2.2.2.2.1, fun q => if q = k then f else n.2.2.2.2.2.1 q, n.2.2.2.2.2.2)
def jL (n : tN) (f : Nat → List Nat) : tN := (n.1, n.2.1, n.2.2.1, n.2.2.2.1, n.2.2.2.2.1, n.2.2.2.2.2.1, f)
theorem nF_jF (n : tN) (k x : Nat) (q : Nat) : nF (jF n k x) q = if q = k then x else nF n q := rfl
theorem nK_jF (n : tN) (k x : Nat) : nK (jF n k x) = nK n := rfl
theorem nA_jF (n : tN) (k x : Nat) : nA (jF n k x) = nA n := rfl
theorem nW_jF (n : tN) (k x : Nat) : nW (jF n k x) = nW n := rfl
theorem nV_jF (n : tN) (k x : Nat) : nV (jF n k x) = nV n := rfl
theorem nX_jF (n : tN) (k x : Nat) : nX (jF n k x) = nX n := rfl
theorem nL_jF (n : tN) (k x : Nat) : nL (jF n k x) = nL n := rfl
theorem nF_jK (n : tN) (f : Nat → Bool) : nF (jK n f) = nF n := rfl
theorem nK_jK (n : tN) (f : Nat → Bool) : nK (jK n f) = f := rfl
theorem nA_jK (n : tN) (f : Nat → Bool) : nA (jK n f) = nA n := rfl
theorem nW_jK (n : tN) (f : Nat → Bool) : nW (jK n f) = nW n := rfl
theorem nV_jK (n : tN) (f : Nat → Bool) : nV (jK n f) = nV n := rfl
theorem nX_jK (n : tN) (f : Nat → Bool) : nX (jK n f) = nX n := rfl
theorem nL_jK (n : tN) (f : Nat → Bool) : nL (jK n f) = nL n := rfl
theorem nF_jA (n : tN) (k : Nat) (f : Nat → Nat) : nF (jA n k f) = nF n := rfl
theorem nK_jA (n : tN) (k : Nat) (f : Nat → Nat) : nK (jA n k f) = nK n := rfl
theorem nA_jA (n : tN) (k : Nat) (f : Nat → Nat) (q : Nat) : nA (jA n k f) q = if q = k then f else nA n q := rfl
theorem nW_jA (n : tN) (k : Nat) (f : Nat → Nat) : nW (jA n k f) = nW n := rfl
theorem nV_jA (n : tN) (k : Nat) (f : Nat → Nat) : nV (jA n k f) = nV n := rfl
theorem nX_jA (n : tN) (k : Nat) (f : Nat → Nat) : nX (jA n k f) = nX n := rfl
theorem nL_jA (n : tN) (k : Nat) (f : Nat → Nat) : nL (jA n k f) = nL n := rfl
theorem nF_jW (n : tN) (f : Nat → UInt32) : nF (jW n f) = nF n := rfl
theorem nK_jW (n : tN) (f : Nat → UInt32) : nK (jW n f) = nK n := rfl
theorem nA_jW (n : tN) (f : Nat → UInt32) : nA (jW n f) = nA n := rfl
theorem nW_jW (n : tN) (f : Nat → UInt32) : nW (jW n f) = f := rfl
theorem nV_jW (n : tN) (f : Nat → UInt32) : nV (jW n f) = nV n := rfl
theorem nX_jW (n : tN) (f : Nat → UInt32) : nX (jW n f) = nX n := rfl
theorem nL_jW (n : tN) (f : Nat → UInt32) : nL (jW n f) = nL n := rfl
theorem nF_jV (n : tN) (f : Nat → Nat → Bool) : nF (jV n f) = nF n := rfl
theorem nK_jV (n : tN) (f : Nat → Nat → Bool) : nK (jV n f) = nK n := rfl
theorem nA_jV (n : tN) (f : Nat → Nat → Bool) : nA (jV n f) = nA n := rfl
theorem nW_jV (n : tN) (f : Nat → Nat → Bool) : nW (jV n f) = nW n := rfl
theorem nV_jV (n : tN) (f : Nat → Nat → Bool) : nV (jV n f) = f := rfl
theorem nX_jV (n : tN) (f : Nat → Nat → Bool) : nX (jV n f) = nX n := rfl
theorem nL_jV (n : tN) (f : Nat → Nat → Bool) : nL (jV n f) = nL n := rfl
theorem nF_jX (n : tN) (k : Nat) (f : Nat → Int32) : nF (jX n k f) = nF n := rfl
theorem nK_jX (n : tN) (k : Nat) (f : Nat → Int32) : nK (jX n k f) = nK n := rfl
theorem nA_jX (n : tN) (k : Nat) (f : Nat → Int32) : nA (jX n k f) = nA n := rfl
theorem nW_jX (n : tN) (k : Nat) (f : Nat → Int32) : nW (jX n k f) = nW n := rfl
theorem nV_jX (n : tN) (k : Nat) (f : Nat → Int32) : nV (jX n k f) = nV n := rfl
theorem nX_jX (n : tN) (k : Nat) (f : Nat → Int32) (q : Nat) : nX (jX n k f) q = if q = k then f else nX n q := rfl
theorem nL_jX (n : tN) (k : Nat) (f : Nat → Int32) : nL (jX n k f) = nL n := rfl
theorem nF_jL (n : tN) (f : Nat → List Nat) : nF (jL n f) = nF n := rfl
theorem nK_jL (n : tN) (f : Nat → List Nat) : nK (jL n f) = nK n := rfl
theorem nA_jL (n : tN) (f : Nat → List Nat) : nA (jL n f) = nA n := rfl
theorem nW_jL (n : tN) (f : Nat → List Nat) : nW (jL n f) = nW n := rfl
theorem nV_jL (n : tN) (f : Nat → List Nat) : nV (jL n f) = nV n := rfl
theorem nX_jL (n : tN) (f : Nat → List Nat) : nX (jL n f) = nX n := rfl
theorem nL_jL (n : tN) (f : Nat → List Nat) : nL (jL n f) = f := rfl
def set1 {α : Type} (f : Nat → α) (k : Nat) (x : α) : Nat → α := fun q => if q = k then x else f q
/-- what is so of the tasks and cranes now -/
def nDone (n : tN) (t : Nat) : Bool := decide (nA n 16 t = nA n 13 t)
def nNext (n : tN) (c : Nat) : Option Nat := (nL n c).find? (fun t => !nDone n t)
def nFree (n : tN) (t : Nat) : Bool := (List.range (nF n 3)).all (fun u => !nV n t u || nDone n u)
def calmW (w : UInt32) : Bool := decide (¬ nI 0 ≤ Op.cmpValue (FP.fcmp w FP.fconst1) .g)
def nWorks (n : tN) (c : Nat) : Bool := match nNext n c with
  | some t => !nK n c && (decide (nA n 7 c = nA n 12 t) && (nFree n t && calmW (nW n c)))
  | none => false
def nLift (n : tN) (c t : Nat) : Bool := decide (nA n 14 t ≤ nA n 8 c)
/-- a minute: deeds 0 rests, 1 steps, 2 is pushed, 3 waits, 4 works; s: bays and deeds -/
abbrev tD : Type := (Nat → Nat) × (Nat → Nat)
def nDeed0 (n : tN) (c : Nat) : Nat := if nWorks n c then 4 else if nK n c || (nNext n c).isNone then 0 else 3
def nStill (n : tN) (s : tD) (p : Nat) : Bool := decide (s.2 p = 3) || (decide (s.2 p = 0) && !nK n p)
def nUp (n : tN) (s : tD) : Nat → Nat → Option Nat
  | 0, p => if nStill n s p && decide (s.1 p + 1 < nF n 0) then some 1 else none
  | k + 1, p => if nStill n s p && decide (s.1 p + 1 < nF n 0) then (if s.1 p + 1 + nF n 1 ≤ s.1 (p + 1) then some 1 else (nUp n s k (p + 1)).map (· + 1)) else none
def nDn (n : tN) (s : tD) : Nat → Option Nat
  | 0 => if nStill n s 0 && decide (0 < s.1 0) then some 1 else none
  | q + 1 => if nStill n s (q + 1) && decide (0 < s.1 (q + 1)) then (if s.1 q + nF n 1 + 1 ≤ s.1 (q + 1) then some 1 else (nDn n s q).map (· + 1)) else none
def mvUp (c m : Nat) (s : tD) : tD := (fun i => if c ≤ i ∧ i < c + m then s.1 i + 1 else s.1 i, fun i => if c ≤ i ∧ i < c + m then (if i = c then 1 else 2) else s.2 i)
def mvDn (c m : Nat) (s : tD) : tD := (fun i => if i ≤ c ∧ c < i + m then s.1 i - 1 else s.1 i, fun i => if i ≤ c ∧ c < i + m then (if i = c then 1 else 2) else s.2 i)
def nStep (n : tN) (c : Nat) (s : tD) : tD := if s.2 c = 3 then (match nNext n c with
  | some t => if nA n 12 t = s.1 c then s else if s.1 c < nA n 12 t then (match nUp n s (nF n 2 - 1 - c) c with | some m => mvUp c m s | none => s) else (match nDn n s c with | some m => mvDn c m s | none => s)
  | none => s) else s
def midN (n : tN) : tD := iter (nStep n) 0 (nF n 2) (nA n 7, nDeed0 n)
def nDeed (n : tN) : Nat → Nat := (midN n).2
def nMoved (n : tN) (c : Nat) : Bool := decide (nDeed n c = 1) || decide (nDeed n c = 2)
/-- who works at a task in this minute -/
def nBy (n : tN) (t : Nat) : Option Nat := (List.range (nF n 2)).find? (fun c => nWorks n c && decide (nNext n c = some t))
def nDid (n : tN) (t : Nat) : Nat := if (nBy n t).isSome then nA n 16 t + 1 else nA n 16 t
def nX17 (n : tN) (t : Nat) : Int32 := if (nBy n t).isSome && decide (nA n 16 t + 1 = nA n 13 t) then nI (nF n 4 + 1) else nX n 17 t
def nX18 (n : tN) (t : Nat) : Int32 := match nBy n t with
  | some c => if nA n 16 t + 1 = nA n 13 t then nI c else nX n 18 t
  | none => nX n 18 t
def passN (n : tN) : tN := jX (jX (jF (jW (jA (jA n 7 (midN n).1) 16 (nDid n)) (fun c => if c < nF n 2 then swF (nMoved n c) (nW n c) else nW n c)) 4 (nF n 4 + 1)) 17 (nX17 n)) 18 (nX18 n)
/-- all that is told is done -/
def overN (n : tN) : Bool := (List.range (nF n 2)).all (fun c => (nNext n c).isNone)
def lastN : Nat → tN → Option Nat
  | 0, n => if overN n then some 0 else none
  | k + 1, n => if overN n then some 0 else (lastN k (passN n)).map (· + 1)
def runN : Nat → tN → tN
  | 0, n => n
  | k + 1, n => runN k (passN n)
