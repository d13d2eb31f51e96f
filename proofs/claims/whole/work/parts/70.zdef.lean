/-! what is asked and done, in plain numbers: z = tape, draft, told; quay; acts, image; refused -/
abbrev tQ : Type := (tO × tY × tP) × Option tN × (List tN × Option tN) × (Nat → Int32)
def zT (z : tQ) : tO := z.1.1
def zD (z : tQ) : tY := z.1.2.1
def zP (z : tQ) : tP := z.1.2.2
def zQ (z : tQ) : Option tN := z.2.1
def zA (z : tQ) : List tN := z.2.2.1.1
def zI (z : tQ) : Option tN := z.2.2.1.2
def zR (z : tQ) : Nat → Int32 := z.2.2.2
def jT (z : tQ) (t : tO) : tQ := ((t, z.1.2), z.2)
def jD (z : tQ) (y : tY) : tQ := ((z.1.1, y, z.1.2.2), z.2)
def jP (z : tQ) (p : tP) : tQ := ((z.1.1, z.1.2.1, p), z.2)
def jQ (z : tQ) (q : Option tN) : tQ := (z.1, q, z.2.2)
def jAc (z : tQ) (a : List tN) : tQ := (z.1, z.2.1, (a, z.2.2.1.2), z.2.2.2)
def jI (z : tQ) (i : Option tN) : tQ := (z.1, z.2.1, (z.2.2.1.1, i), z.2.2.2)
def jR (z : tQ) (r : Nat → Int32) : tQ := (z.1, z.2.1, z.2.2.1, r)
def HID : Int32 := -1000000
def ixN (x : Int32) (N : Nat) : Option Nat := if nI 0 ≤ x ∧ x < nI N then some x.toNatClampNeg else none
theorem ix_some {x : Int32} {N j : Nat} (hN : N < 2 ^ 31) (h : ixN x N = some j) : j < N ∧ x = nI j := by
  unfold ixN at h
  split at h
  · rename_i hc
    cases h
    obtain ⟨k, hk, e⟩ := nI_of (x := x) (Int32.not_lt.mpr hc.1)
    rw [e] at hc ⊢
    rw [nCl hk]
    exact ⟨(nI_ltI hk hN).mp hc.2, rfl⟩
  · cases h
theorem ix_nI {N j : Nat} (hj : j < N) (hN : N < 2 ^ 31) : ixN (nI j) N = some j := by
  unfold ixN
  rw [if_pos ⟨nI_le (Nat.zero_le _) (by omega), nI_lt hj hN⟩, nCl (by omega)]
theorem ix_none {x : Int32} {N : Nat} (h : ixN x N = none) : ¬ (nI 0 ≤ x ∧ x < nI N) := by
  unfold ixN at h
  split at h
  · cases h
  · assumption
def set2 (f : Nat → Int32) (k : Nat) (x : Int32) : Nat → Int32 := fun q => if q = k then x else f q
def refZ (z : tQ) (w : Nat) : tQ := jR z (set2 (zR z) w (zR z w + 1))
def keepA (a : List tN) (n : tN) : List tN := (if a.length = 10 then a.tail else a) ++ [n]
def actZ (z : tQ) (n n' : tN) : tQ := jQ (jAc z (keepA (zA z) n)) (some n')
/-- feed -/
def byI (x : Int32) (s : Nat) : Int32 := (x.toUInt32 >>> ((nI s).toUInt32 &&& Int32.toUInt32 31)).toInt32 &&& nI 255
def b1N (x : Int32) (s : Nat) : Nat := if byI x s = nI 0 then 0 else 1
def bcN (x : Int32) : Nat := b1N x 24 + b1N x 16 + b1N x 8 + b1N x 0
def fdF (z : tQ) (a b c d e : Int32) : Bool := decide (eN (zT z) 1 + (bcN a + bcN b + bcN c + bcN d + bcN e) ≤ 400)
def fdT (z : tQ) (a b c d e : Int32) : tO := apT e (apT d (apT c (apT b (apT a (zT z)))))
def zfeed (z : tQ) (a b c d e : Int32) : Int32 × tQ := if fdF z a b c d e then (nI (eN (fdT z a b c d e) 1), jT z (fdT z a b c d e)) else (-1, z)
def zend (z : tQ) (n : Int32) : Bool × tQ := match ixN n (eN (zT z) 1 + 1) with
  | some k => (true, jT z (vN (zT z) 1 k))
  | none => (false, z)
/-- the texts -/
def lP (p : tP) : tL := fun c => if c < 4 then (List.range (p.2 c)).map (fun k => (p.1 (c * 8 + k)).toNatClampNeg) else []
def rlN (n : tN) (c : Nat) : Nat → tO → tP → Bool × tO × tP
  | 0, t, p => (true, t, p)
  | k + 1, t, p => if eI t 3 = nI 2 then (if isNB t (nI 0) (nI (nF n 3) - nI 1) then (if !nDone n (eI t 4).toNatClampNeg && nLift n c (eI t 4).toNatClampNeg && decide (holdP p (eI t 4) = -1) then rlN n c k (advT t) (addP p c (eI t 4)) else (false, t, p)) else (false, t, p)) else (true, t, p)
def rpN (n : tN) : Nat → Nat → tO → tP → Bool × tO × tP
  | 0, _, t, p => (false, t, p)
  | k + 1, nm, t, p => if isNB t (nI 0) (nI (nF n 2) - nI 1) then (if nm.testBit (eI t 4).toNatClampNeg then (false, t, p) else
      (if (rlN n (eI t 4).toNatClampNeg 400 (advT t) p).1 then (if eI (rlN n (eI t 4).toNatClampNeg 400 (advT t) p).2.1 3 = nI 0 then (true, (rlN n (eI t 4).toNatClampNeg 400 (advT t) p).2) else if eI (rlN n (eI t 4).toNatClampNeg 400 (advT t) p).2.1 3 = nI 3 then rpN n k (nm ||| 2 ^ (eI t 4).toNatClampNeg) (advT (rlN n (eI t 4).toNatClampNeg 400 (advT t) p).2.1) (rlN n (eI t 4).toNatClampNeg 400 (advT t) p).2.2 else (false, (rlN n (eI t 4).toNatClampNeg 400 (advT t) p).2))
      else (false, (rlN n (eI t 4).toNatClampNeg 400 (advT t) p).2))) else (false, t, p)
def rdPN (t : tO) (p : tP) (n : tN) : Bool × tO × tP := if eI (rewT t) 3 = nI 0 then (true, rewT t, (p.1, fun _ => 0)) else rpN n 4 0 (rewT t) (p.1, fun _ => 0)
/-- MOVES: a line's bays, from the c-th on -/
def mvL : Nat → Nat → tO → (Nat → Int32) → Bool × tO × (Nat → Int32)
  | 0, _, t, f => (true, t, f)
  | k + 1, c, t, f => if isNB t (nI 0) (nI 99) then mvL k (c + 1) (advT t) (upd f c (eI t 4)) else (false, t, f)
def mvN (C : Nat) : Nat → Nat → tO → (Nat → Nat → Int32) → Bool × tO × Nat × (Nat → Nat → Int32)
  | 0, l, t, f => (false, t, l, f)
  | k + 1, l, t, f => if (mvL C 0 t (fun _ => 0)).1 then (if eI (mvL C 0 t (fun _ => 0)).2.1 3 = nI 0 then (true, (mvL C 0 t (fun _ => 0)).2.1, l + 1, fun q => if q = l then (mvL C 0 t (fun _ => 0)).2.2 else f q) else if eI (mvL C 0 t (fun _ => 0)).2.1 3 = nI 3 then mvN C k (l + 1) (advT (mvL C 0 t (fun _ => 0)).2.1) (fun q => if q = l then (mvL C 0 t (fun _ => 0)).2.2 else f q) else (false, (mvL C 0 t (fun _ => 0)).2.1, l, f)) else (false, (mvL C 0 t (fun _ => 0)).2.1, l, f)
def rdM (t : tO) (C : Nat) : Bool × tO × Nat × (Nat → Nat → Int32) := mvN C 40 0 (rewT t) (fun _ _ => 0)
/-- a draft as a plain quay -/
def nOf (y : tY) : tN := (fun k => if k = 2 then yC y else if k = 3 then yT y else (yB y k).toNatClampNeg, fun c => decide (¬ bitS (yB y 5) (nI c) = nI 0), fun k i => (yA y k i).toNatClampNeg, yW y, fun t u => decide (u < t) && decide (¬ bitS (yA y 15 t) (nI u) = nI 0), fun k t => yA y k t, lP (yP y))
def zfault (z : tQ) (w : Int32) : Int32 × tQ := if w = nI 0 then (if (rdQ (zT z) (zD z)).1 then -1 else nI (eN (rdQ (zT z) (zD z)).2.1 2), jD (jT z (rdQ (zT z) (zD z)).2.1) (rdQ (zT z) (zD z)).2.2) else match zQ z with
  | none => (-2, z)
  | some n => if w = nI 1 then (if (rdPN (zT z) (zP z) n).1 then -1 else nI (eN (rdPN (zT z) (zP z) n).2.1 2), jP (jT z (rdPN (zT z) (zP z) n).2.1) (rdPN (zT z) (zP z) n).2.2) else if w = nI 2 then (if (rdM (zT z) (nF n 2)).1 then -1 else nI (eN (rdM (zT z) (nF n 2)).2.1 2), jT z (rdM (zT z) (nF n 2)).2.1) else (-2, z)
def zquay (z : tQ) : Int32 × tQ := if (rdQ (zT z) (zD z)).1 then (nI (yT (rdQ (zT z) (zD z)).2.2), jI (jAc (jQ (jD (jT z (vN (rdQ (zT z) (zD z)).2.1 1 0)) (rdQ (zT z) (zD z)).2.2) (some (nOf (rdQ (zT z) (zD z)).2.2))) []) none) else (-1, jD (jT z (rdQ (zT z) (zD z)).2.1) (rdQ (zT z) (zD z)).2.2)
def zplan (z : tQ) : Int32 × tQ := match zQ z with
  | none => (HID, refZ z 0)
  | some n => if (rdPN (zT z) (zP z) n).1 then (oI1 (lastN 300 (jL n (lP (rdPN (zT z) (zP z) n).2.2))), actZ (jP (jT z (vN (rdPN (zT z) (zP z) n).2.1 1 0)) (rdPN (zT z) (zP z) n).2.2) n (jL n (lP (rdPN (zT z) (zP z) n).2.2))) else (HID, refZ (jP (jT z (rdPN (zT z) (zP z) n).2.1) (rdPN (zT z) (zP z) n).2.2) 1)
def zgo (z : tQ) (k : Int32) : Int32 × tQ := match zQ z with
  | none => (-1, refZ z 0)
  | some n => match ixN (k - nI 1) 100 with
    | none => (-1, refZ z 1)
    | some j => if nF n 4 + (j + 1) ≤ 500 then (nI (nF n 4 + (j + 1)), actZ z n (runN (j + 1) n)) else (-1, refZ z 1)
def zbreaks (z : tQ) (c : Int32) (b : Bool) : Int32 × tQ := match zQ z with
  | none => (-1, refZ z 0)
  | some n => match ixN c (nF n 2) with
    | none => (-1, refZ z 0)
    | some j => if nK n j = b then (-1, refZ z 2) else (nI (sumN (fun q => (set1 (nK n) j b q).toNat) (nF n 2)), actZ z n (jK n (set1 (nK n) j b)))
def moreN (n : tN) (bay takes heavy : Nat) (after : Option Nat) : tN := jX (jX (jV (jA (jA (jA (jA (jF n 3 (nF n 3 + 1)) 12 (set1 (nA n 12) (nF n 3) bay)) 13 (set1 (nA n 13) (nF n 3) takes)) 14 (set1 (nA n 14) (nF n 3) heavy)) 16 (set1 (nA n 16) (nF n 3) 0)) (set1 (nV n) (nF n 3) (fun u => decide (after = some u)))) 17 (set1 (nX n 17) (nF n 3) (-1))) 18 (set1 (nX n 18) (nF n 3) (-1))
def zmore (z : tQ) (bay takes heavy after : Int32) : Int32 × tQ := match zQ z with
  | none => (-1, refZ z 0)
  | some n => match ixN bay (nF n 0) with
    | none => (-1, refZ z 0)
    | some b => if ¬ after = -1 ∧ ixN after (nF n 3) = none then (-1, refZ z 0) else match ixN (takes - nI 1) 30 with
      | none => (-1, refZ z 1)
      | some t => match ixN (heavy - nI 1) 99 with
        | none => (-1, refZ z 1)
        | some v => if nF n 3 = 8 then (-1, refZ z 3) else (nI (nF n 3), actZ z n (moreN n b (t + 1) (v + 1) (ixN after (nF n 3))))
def zrule (z : tQ) (w : Int32) : Int32 := match zQ z with
  | none => HID
  | some n => if w = nI 0 then nI (nF n 0) else if w = nI 1 then nI (nF n 1) else if w = nI 2 then nI (nF n 2) else if w = nI 3 then nI (nF n 3) else if w = nI 4 then nI (nF n 4) else if w = nI 5 then nI (bitsN (nDone n) (nF n 3)) else if w = nI 6 then nI (bitsN (nK n) (nF n 2)) else if w = nI 7 then nI (tbits (nL n)) else HID
/-- none: it throws -/
def zcrane (z : tQ) (c w : Int32) : Option Int32 := match zQ z with
  | none => none
  | some n => match ixN c (nF n 2) with
    | none => none
    | some j => match ixN w 6 with
      | none => none
      | some k => some (match k with
        | 0 => nI (nA n 7 j)
        | 1 => nI (nA n 8 j)
        | 2 => oI1 (nNext n j)
        | 3 => nI (nL n j).length
        | 4 => FP.f2i (FP.fmul (nW n j) 1092616192)
        | _ => (nW n j).toInt32)
def ztask (z : tQ) (t w : Int32) : Int32 := match zQ z with
  | none => -1
  | some n => match ixN t (nF n 3) with
    | none => -1
    | some j => if w = nI 0 then nI (nA n 12 j) else if w = nI 1 then nI (nA n 13 j) else if w = nI 2 then nI (nA n 14 j) else if w = nI 3 then nI (bitsN (nV n j) 8) else if w = nI 4 then nI (nA n 16 j) else if w = nI 5 then iB (nDone n j) else if w = nI 6 then oI1 (holdN (nL n) j) else if w = nI 7 then nX n 17 j else if w = nI 8 then nX n 18 j else -1
def zlast (z : tQ) : Int32 := match zQ z with
  | none => HID
  | some n => oI1 (lastN 300 n)
def zwhere (z : tQ) (c m : Int32) : Int32 := match zQ z with
  | none => -1
  | some n => match ixN c (nF n 2), ixN m 301 with
    | some j, some k => nI (nA (runN k n) 7 j)
    | _, _ => -1
def zdeed (z : tQ) (c m : Int32) : Int32 := match zQ z with
  | none => -1
  | some n => match ixN c (nF n 2), ixN m 300 with
    | some j, some k => nI (nDeed (runN k n) j)
    | _, _ => -1
def zdeeds (z : tQ) (c m w : Int32) : Int32 := match zQ z with
  | none => -1
  | some n => match ixN c (nF n 2), ixN m 301, ixN w 5 with
    | some j, some k, some v => nI (sumN (fun i => (decide (nDeed (runN i n) j = v)).toNat) k)
    | _, _, _ => -1
def zdoneBy (z : tQ) (t : Int32) : Int32 := match zQ z with
  | none => -1
  | some n => match ixN t (nF n 3) with
    | some j => oI1 (doneB n j 301)
    | none => -1
def ztried (z : tQ) : Int32 × tQ := match zQ z with
  | none => (HID, z)
  | some n => if (rdPN (zT z) (zP z) n).1 then (oI1 (lastN 300 (jL n (lP (rdPN (zT z) (zP z) n).2.2))), jP (jT z (vN (rdPN (zT z) (zP z) n).2.1 1 0)) (rdPN (zT z) (zP z) n).2.2) else (HID, jP (jT z (rdPN (zT z) (zP z) n).2.1) (rdPN (zT z) (zP z) n).2.2)
/-- a line of MOVES that is as it may be -/
def trueN (n : tN) (f : Nat → Nat → Int32) (l : Nat) : Bool := (List.range (nF n 2)).all fun c => decide ((f l c).toNatClampNeg < nF n 0) && (decide (c = 0) || decide ((f l (c - 1)).toNatClampNeg + nF n 1 ≤ (f l c).toNatClampNeg)) && decide (wayN (if l = 0 then nA n 7 c else (f (l - 1) c).toNatClampNeg) (f l c).toNatClampNeg ≤ if l = 0 then 0 else if nK n c then 0 else 1)
def zmoves (z : tQ) : Int32 × tQ := match zQ z with
  | none => (HID, z)
  | some n => if (rdM (zT z) (nF n 2)).1 then (oI1 (firstN (fun l => !trueN n (rdM (zT z) (nF n 2)).2.2.2 l) (rdM (zT z) (nF n 2)).2.2.1), jT z (vN (rdM (zT z) (nF n 2)).2.1 1 0)) else (HID, jT z (rdM (zT z) (nF n 2)).2.1)
/-- of a plan that was found -/
def tellN (r : Option (Nat × tL)) (w : Int32) : Int32 := match r with
  | none => -1
  | some (m, l) => if w = -1 then nI m else if w < nI 10 then oI1 (holdN l w.toNatClampNeg) else oI1 (spotN l (w - nI 10).toNatClampNeg)
def suchN (n : tN) (w : Int32) : Bool := decide (w = -1) || ((ixN w (nF n 3)).isSome || (ixN (w - nI 10) (nF n 3)).isSome)
def fewN (n : tN) : Bool := decide (sumN (fun t => (!nDone n t).toNat) (nF n 3) ≤ 5)
def zbest (z : tQ) (w : Int32) : Int32 := match zQ z with
  | none => HID
  | some n => if suchN n w then (if fewN n then tellN (bestN n).2 w else -2) else HID
def zeasy (z : tQ) (w : Int32) : Int32 := match zQ z with
  | none => HID
  | some n => if suchN n w then tellN (easyN n) w else HID
def zzones (z : tQ) (w : Int32) : Int32 := match zQ z with
  | none => HID
  | some n => if suchN n w then tellN (zonesN n).2 w else HID
def zbetter (z : tQ) (w : Int32) : Int32 := match zQ z with
  | none => HID
  | some n => match ixN w 4 with
    | none => HID
    | some k => match (betterN n).2 with
      | none => -1
      | some (m, l, t) => match k with
        | 0 => nI m
        | 1 => nI t
        | 2 => oI1 (holdN l t)
        | _ => oI1 (spotN l t)
def foundN (n : tN) (k : Nat) : Option (Nat × tL) := match k with
  | 0 => easyN n
  | 1 => (zonesN n).2
  | 2 => (bestN n).2
  | _ => (betterN n).2.map fun x => (x.1, x.2.1)
def zfollow (z : tQ) (w : Int32) : Int32 × tQ := match zQ z with
  | none => (-1, refZ z 0)
  | some n => match ixN w 4 with
    | none => (-1, refZ z 1)
    | some k => if k = 2 ∧ fewN n = false then (-1, refZ z 1) else match foundN n k with
      | none => (-1, refZ z 1)
      | some (_, l) => (oI1 (lastN 300 (jL n l)), actZ z n (jL n l))
def wrC (l : tL) (c : Nat) : List Nat := (if c = 0 then [] else [59]) ++ (48 + c) :: (l c).flatMap fun t => [32, 48 + t]
def wrN (n : tN) : List Nat := (List.range (nF n 2)).flatMap (wrC (nL n))
def zwritten (z : tQ) (k : Int32) : Int32 := match zQ z with
  | none => -1
  | some n => if k = -1 then nI (wrN n).length else match ixN k (wrN n).length with
    | some j => nI ((wrN n).getD j 0)
    | none => -1
def gapN (n : tN) (c : Nat) : Nat := nA n 7 (c + 1) - nA n 7 c - nF n 1
def minN (f : Nat → Nat) (b : Nat) : Nat → Nat
  | 0 => b
  | k + 1 => min (minN f b k) (f k)
def znearest (z : tQ) (k : Int32) : Int32 := match zQ z with
  | none => -1
  | some n => if nF n 2 < 2 then -1 else match ixN k 301 with
    | some j => nI (minN (fun i => minN (gapN (runN i n)) (nF n 0) (nF n 2 - 1)) (nF n 0) (j + 1))
    | none => -1
def zswings (z : tQ) (c k : Int32) : Int32 := match zQ z with
  | none => -1
  | some n => match ixN c (nF n 2), ixN k 301 with
    | some q, some j => nI (maxN (fun i => (nW (runN i n) q).toNat) (j + 1))
    | _, _ => -1
def idleN (n : tN) : Bool := (List.range (nF n 2)).all fun c => decide (nDeed n c ≠ 4)
def zidle (z : tQ) (k : Int32) : Int32 := match zQ z with
  | none => -1
  | some n => match ixN k 301 with
    | some j => nI (sumN (fun i => (idleN (runN i n)).toNat) j)
    | none => -1
def lackN (n : tN) (c : Nat) : Option Nat := (bestN (lostN n (2 ^ c))).2.map (·.1)
/-- the dearest crane and what it costs (301: none) -/
def dearS (n : tN) (c : Nat) (st : Option (Nat × Nat)) : Option (Nat × Nat) := if nK n c then st else match st with
  | none => some (c, (lackN n c).getD 301)
  | some (b, p) => if p < (lackN n c).getD 301 then some (c, (lackN n c).getD 301) else some (b, p)
def dearN (n : tN) : Option (Nat × Nat) := iter (dearS n) 0 (nF n 2) none
def zdearest (z : tQ) (w : Int32) : Int32 := match zQ z with
  | none => HID
  | some n => match ixN w 2 with
    | none => HID
    | some k => if fewN n then (match dearN n with
      | none => -1
      | some (c, p) => if k = 0 then nI c else if p = 301 then -1 else nI p) else -2
def zbound (z : tQ) (w : Int32) : Int32 := match zQ z with
  | none => HID
  | some n => match ixN w 4 with
    | none => HID
    | some _ => boN n w
def zwithout (z : tQ) (c : Int32) : Int32 := match zQ z with
  | none => HID
  | some n => match ixN c (nF n 2) with
    | none => HID
    | some j => if fewN n then oI1 (lackN n j) else -2
def slackN (n : tN) (t x : Nat) : tN := jA n 13 (set1 (nA n 13) t (nA n 13 t + x))
def zslack (z : tQ) (t : Int32) : Int32 := match zQ z with
  | none => HID
  | some n => match ixN t (nF n 3) with
    | none => HID
    | some j => if nDone n j then HID else match lastN 300 n with
      | none => -1
      | some m => match firstN (fun x => decide (¬ lastN 300 (slackN n j (x + 1)) = some m)) 61 with
        | some x => nI x
        | none => nI 61
def zmean (z : tQ) (w : Int32) : Int64 := match zQ z with
  | none => -1000000
  | some n => if nF n 3 = 0 then -1000000 else match ixN w 2 with
    | none => -1000000
    | some k => (FP.ddiv (FP.i2d (nI (sumN (fun t => if k = 0 then nA n 12 t else nA n 13 t) (nF n 3)))) (FP.i2d (nI (nF n 3)))).toInt64
def zundo (z : tQ) : Int32 × tQ := match (zA z).getLast? with
  | none => (-1, z)
  | some n => (nI ((zA z).length - 1), jQ (jAc z (zA z).dropLast) (some n))
def zimage (z : tQ) : Int32 × tQ := match zQ z with
  | none => (-1, z)
  | some n => (nI (nF n 4), jI z (some n))
def zback (z : tQ) : Int32 × tQ := match zI z with
  | none => (-1, z)
  | some n => (nI (nF n 4), jQ (jAc z []) (some n))
def zstatus (z : tQ) (w : Int32) : Int32 := match ixN w 4 with
  | some k => zR z k
  | none => -1
/-- the first of the greatest -/
def topN (f : Nat → Nat) (k : Nat) : Nat := iter (fun i b => if f b < f i then i else b) 1 (k - 1) 0
def planN (n : tN) (c : Nat) : Nat := sumN (fun k => leftN n ((nL n c).getD k 0)) (nL n c).length
def zmost (z : tQ) (w : Int32) : Int32 := match zQ z with
  | none => -1
  | some n => if w = nI 0 then nI (topN (planN n) (nF n 2)) else if w = nI 1 then nI (topN (fun b => crowdN n b (b + 1)) (nF n 0)) else if w = nI 2 then (if nF n 3 = 0 then -1 else nI (topN (nA n 13) (nF n 3))) else if w = nI 3 then nI (topN (fun c => (nW n c).toNat) (nF n 2)) else -1
def zcount (z : tQ) (w : Int32) : Int32 := if w = nI 0 then nI (eN (zT z) 1) else if w = nI 1 then nI (zA z).length else -1
