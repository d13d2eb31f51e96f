/-! The class's heap as one typed state: G (imaged eB 5, refused eA 14, lines eN 104, rows eA 103, first eN 201, many eN 202, searched eN 306, order eA 305), yards, plans, other objects by their ids -/
abbrev tS : Type := tO × (Nat → tY) × (Nat → tP) × (Nat → tO)
def SG (s : tS) : tO := s.1
def SY (s : tS) : Nat → tY := s.2.1
def SP (s : tS) : Nat → tP := s.2.2.1
def SO (s : tS) : Nat → tO := s.2.2.2
def wSG (s : tS) (g : tO) : tS := (g, s.2)
def wSY (s : tS) (b : Nat) (y : tY) : tS := (s.1, fun q => if q = b then y else s.2.1 q, s.2.2)
def wSP (s : tS) (b : Nat) (p : tP) : tS := (s.1, s.2.1, fun q => if q = b then p else s.2.2.1 q, s.2.2.2)
def wSO (s : tS) (b : Nat) (x : tO) : tS := (s.1, s.2.1, s.2.2.1, fun q => if q = b then x else s.2.2.2 q)
theorem ite2 {α : Type} {c : Prop} [Decidable c] {a b a' b' : α} (h1 : c → a = a') (h2 : ¬ c → b = b') : (if c then a else b) = if c then a' else b' := by
  by_cases h : c
  · rw [if_pos h, if_pos h]; exact h1 h
  · rw [if_neg h, if_neg h]; exact h2 h
def cS (s : tS) (q : Nat) : sC :=
  if q < 1 then .inr (8, [.ref 1, .ref 2, .ref 24, .ref 40, .ref 56, .int (iB (eB (SG s) 5)), .ref 72, .ref 234, .ref 239, .ref 283, .ref 287, .ref 291, .ref 295, .ref 299, .ref 300])
  else if q < 2 then .inr (4, [.ref 2, .ref 4, .ref 20, .ref 23, .int (nI (eN (SG s) 104))])
  else if q < 4 then cTp 2 (SO s 2) (q - 2)
  else if q < 20 then cY 4 (SY s 4) (q - 4)
  else if q < 23 then cP 20 (SP s 20) (q - 20)
  else if q < 24 then .inl (0, 160, .inl (tr32 160 (eA (SG s) 103)))
  else if q < 40 then cY 24 (SY s 24) (q - 24)
  else if q < 56 then cY 40 (SY s 40) (q - 40)
  else if q < 72 then cY 56 (SY s 56) (q - 56)
  else if q < 73 then .inr (0, [.ref 73, .int (nI (eN (SG s) 201)), .int (nI (eN (SG s) 202))])
  else if q < 74 then .inl (5, 10, .inr (.inr (.inr (.inr fun j => if j < 10 then some (74 + 16 * j) else none))))
  else if q < 234 then cY (74 + 16 * ((q - 74) / 16)) (SY s (74 + 16 * ((q - 74) / 16))) ((q - 74) % 16)
  else if q < 239 then cCo 234 (SO s 234) (q - 234)
  else if q < 240 then .inr (5, [.ref 240, .ref 256, .ref 272, .ref 275, .ref 278, .ref 282, .int (nI (eN (SG s) 306))])
  else if q < 256 then cY 240 (SY s 240) (q - 240)
  else if q < 272 then cY 256 (SY s 256) (q - 256)
  else if q < 275 then cP 272 (SP s 272) (q - 272)
  else if q < 278 then cP 275 (SP s 275) (q - 275)
  else if q < 282 then cCh 278 (SO s 278) (q - 278)
  else if q < 283 then .inl (0, 8, .inl (tr32 8 (eA (SG s) 305)))
  else if q < 287 then cCh 283 (SO s 283) (q - 283)
  else if q < 291 then cCh 287 (SO s 287) (q - 287)
  else if q < 295 then cCh 291 (SO s 291) (q - 291)
  else if q < 299 then cCh 295 (SO s 295) (q - 295)
  else if q < 300 then .inl (4, 4, .inr (.inr (.inr (.inr fun j => if j < 4 then some (301 + 4 * j) else none))))
  else if q < 301 then .inl (0, 4, .inl (tr32 4 (eA (SG s) 14)))
  else cCh (301 + 4 * ((q - 301) / 4)) (SO s (301 + 4 * ((q - 301) / 4))) ((q - 301) % 4)
def pS (s : tS) (h : sH) : sH := pC 0 317 (cS s) h
section ST
variable {d : Nat} {s : tS} {h : sH} {i x : Int32}
theorem S_O2_out {v : tO} {q : Nat} (hi : q < 317) (hq : ¬ (2 ≤ q ∧ q < 4)) : cS s q = cS (wSO s 2 v) q := by
  unfold cS
  refine ite2 (fun _ => rfl) fun _ => ?_
  refine ite2 (fun _ => rfl) fun _ => ?_
  refine ite2 (fun hq => absurd hq (by omega)) fun _ => ?_
  refine ite2 (fun _ => rfl) fun _ => ?_
  refine ite2 (fun _ => rfl) fun _ => ?_
  refine ite2 (fun _ => rfl) fun _ => ?_
  refine ite2 (fun _ => rfl) fun _ => ?_
  refine ite2 (fun _ => rfl) fun _ => ?_
  refine ite2 (fun _ => rfl) fun _ => ?_
  refine ite2 (fun _ => rfl) fun _ => ?_
  refine ite2 (fun _ => rfl) fun _ => ?_
  refine ite2 (fun _ => rfl) fun _ => ?_
  refine ite2 (fun _ => rfl) fun _ => ?_
  refine ite2 (fun _ => rfl) fun _ => ?_
  refine ite2 (fun _ => rfl) fun _ => ?_
  refine ite2 (fun _ => rfl) fun _ => ?_
  refine ite2 (fun _ => rfl) fun _ => ?_
  refine ite2 (fun _ => rfl) fun _ => ?_
  refine ite2 (fun _ => rfl) fun _ => ?_
  refine ite2 (fun _ => rfl) fun _ => ?_
  refine ite2 (fun _ => rfl) fun _ => ?_
  refine ite2 (fun _ => rfl) fun _ => ?_
  refine ite2 (fun _ => rfl) fun _ => ?_
  refine ite2 (fun _ => rfl) fun _ => ?_
  refine ite2 (fun _ => rfl) fun _ => ?_
  refine ite2 (fun _ => rfl) fun _ => ?_
  show cCh _ (SO s _) _ = cCh _ (if 301 + 4 * ((q - 301) / 4) = _ then _ else _) _; rw [if_neg (by omega)]; rfl
theorem S_O2_in {v : tO} {q : Nat} (hq : 2 ≤ q ∧ q < 4) : cS (wSO s 2 v) q = cTp 2 v (q - 2) := by
  unfold cS
  rw [if_neg (show ¬ q < 1 by omega)]
  rw [if_neg (show ¬ q < 2 by omega)]
  rw [if_pos (show q < 4 by omega)]
  exact rfl
theorem S_O2 {v : tO} : pTp 2 v (pS s h) = pS (wSO s 2 v) h := by
  have e := pC_in (b := 0) (n := 317) (o := 2) (n2 := 2) (f := cS s) (g := cTp 2 v) (f2 := cS (wSO s 2 v)) (h := h) (by decide) (fun q hi => by
    by_cases hq : 2 ≤ q ∧ q < 4
    · rw [if_pos hq]; exact S_O2_in hq
    · rw [if_neg hq]; exact (S_O2_out hi hq).symm)
  rw [Nat.zero_add] at e
  exact e
theorem S_Y4_out {v : tY} {q : Nat} (hi : q < 317) (hq : ¬ (4 ≤ q ∧ q < 20)) : cS s q = cS (wSY s 4 v) q := by
  unfold cS
  refine ite2 (fun _ => rfl) fun _ => ?_
  refine ite2 (fun _ => rfl) fun _ => ?_
  refine ite2 (fun _ => rfl) fun _ => ?_
  refine ite2 (fun hq => absurd hq (by omega)) fun _ => ?_
  refine ite2 (fun _ => rfl) fun _ => ?_
  refine ite2 (fun _ => rfl) fun _ => ?_
  refine ite2 (fun _ => rfl) fun _ => ?_
  refine ite2 (fun _ => rfl) fun _ => ?_
  refine ite2 (fun _ => rfl) fun _ => ?_
  refine ite2 (fun _ => rfl) fun _ => ?_
  refine ite2 (fun _ => rfl) fun _ => ?_
  refine ite2 (fun _ => by show cY _ (SY s _) _ = cY _ (if 74 + 16 * ((q - 74) / 16) = _ then _ else _) _; rw [if_neg (by omega)]; rfl) fun _ => ?_
  refine ite2 (fun _ => rfl) fun _ => ?_
  refine ite2 (fun _ => rfl) fun _ => ?_
  refine ite2 (fun _ => rfl) fun _ => ?_
  refine ite2 (fun _ => rfl) fun _ => ?_
  refine ite2 (fun _ => rfl) fun _ => ?_
  refine ite2 (fun _ => rfl) fun _ => ?_
  refine ite2 (fun _ => rfl) fun _ => ?_
  refine ite2 (fun _ => rfl) fun _ => ?_
  refine ite2 (fun _ => rfl) fun _ => ?_
  refine ite2 (fun _ => rfl) fun _ => ?_
  refine ite2 (fun _ => rfl) fun _ => ?_
  refine ite2 (fun _ => rfl) fun _ => ?_
  refine ite2 (fun _ => rfl) fun _ => ?_
  refine ite2 (fun _ => rfl) fun _ => ?_
  exact rfl
theorem S_Y4_in {v : tY} {q : Nat} (hq : 4 ≤ q ∧ q < 20) : cS (wSY s 4 v) q = cY 4 v (q - 4) := by
  unfold cS
  rw [if_neg (show ¬ q < 1 by omega)]
  rw [if_neg (show ¬ q < 2 by omega)]
  rw [if_neg (show ¬ q < 4 by omega)]
  rw [if_pos (show q < 20 by omega)]
  exact rfl
theorem S_Y4 {v : tY} : pY 4 v (pS s h) = pS (wSY s 4 v) h := by
  have e := pC_in (b := 0) (n := 317) (o := 4) (n2 := 16) (f := cS s) (g := cY 4 v) (f2 := cS (wSY s 4 v)) (h := h) (by decide) (fun q hi => by
    by_cases hq : 4 ≤ q ∧ q < 20
    · rw [if_pos hq]; exact S_Y4_in hq
    · rw [if_neg hq]; exact (S_Y4_out hi hq).symm)
  rw [Nat.zero_add] at e
  exact e
theorem S_P20_out {v : tP} {q : Nat} (hi : q < 317) (hq : ¬ (20 ≤ q ∧ q < 23)) : cS s q = cS (wSP s 20 v) q := by
  unfold cS
  refine ite2 (fun _ => rfl) fun _ => ?_
  refine ite2 (fun _ => rfl) fun _ => ?_
  refine ite2 (fun _ => rfl) fun _ => ?_
  refine ite2 (fun _ => rfl) fun _ => ?_
  refine ite2 (fun hq => absurd hq (by omega)) fun _ => ?_
  refine ite2 (fun _ => rfl) fun _ => ?_
  refine ite2 (fun _ => rfl) fun _ => ?_
  refine ite2 (fun _ => rfl) fun _ => ?_
  refine ite2 (fun _ => rfl) fun _ => ?_
  refine ite2 (fun _ => rfl) fun _ => ?_
  refine ite2 (fun _ => rfl) fun _ => ?_
  refine ite2 (fun _ => rfl) fun _ => ?_
  refine ite2 (fun _ => rfl) fun _ => ?_
  refine ite2 (fun _ => rfl) fun _ => ?_
  refine ite2 (fun _ => rfl) fun _ => ?_
  refine ite2 (fun _ => rfl) fun _ => ?_
  refine ite2 (fun _ => rfl) fun _ => ?_
  refine ite2 (fun _ => rfl) fun _ => ?_
  refine ite2 (fun _ => rfl) fun _ => ?_
  refine ite2 (fun _ => rfl) fun _ => ?_
  refine ite2 (fun _ => rfl) fun _ => ?_
  refine ite2 (fun _ => rfl) fun _ => ?_
  refine ite2 (fun _ => rfl) fun _ => ?_
  refine ite2 (fun _ => rfl) fun _ => ?_
  refine ite2 (fun _ => rfl) fun _ => ?_
  refine ite2 (fun _ => rfl) fun _ => ?_
  exact rfl
theorem S_P20_in {v : tP} {q : Nat} (hq : 20 ≤ q ∧ q < 23) : cS (wSP s 20 v) q = cP 20 v (q - 20) := by
  unfold cS
  rw [if_neg (show ¬ q < 1 by omega)]
  rw [if_neg (show ¬ q < 2 by omega)]
  rw [if_neg (show ¬ q < 4 by omega)]
  rw [if_neg (show ¬ q < 20 by omega)]
  rw [if_pos (show q < 23 by omega)]
  exact rfl
theorem S_P20 {v : tP} : pP 20 v (pS s h) = pS (wSP s 20 v) h := by
  have e := pC_in (b := 0) (n := 317) (o := 20) (n2 := 3) (f := cS s) (g := cP 20 v) (f2 := cS (wSP s 20 v)) (h := h) (by decide) (fun q hi => by
    by_cases hq : 20 ≤ q ∧ q < 23
    · rw [if_pos hq]; exact S_P20_in hq
    · rw [if_neg hq]; exact (S_P20_out hi hq).symm)
  rw [Nat.zero_add] at e
  exact e
theorem S_Y24_out {v : tY} {q : Nat} (hi : q < 317) (hq : ¬ (24 ≤ q ∧ q < 40)) : cS s q = cS (wSY s 24 v) q := by
  unfold cS
  refine ite2 (fun _ => rfl) fun _ => ?_
  refine ite2 (fun _ => rfl) fun _ => ?_
  refine ite2 (fun _ => rfl) fun _ => ?_
  refine ite2 (fun _ => rfl) fun _ => ?_
  refine ite2 (fun _ => rfl) fun _ => ?_
  refine ite2 (fun _ => rfl) fun _ => ?_
  refine ite2 (fun hq => absurd hq (by omega)) fun _ => ?_
  refine ite2 (fun _ => rfl) fun _ => ?_
  refine ite2 (fun _ => rfl) fun _ => ?_
  refine ite2 (fun _ => rfl) fun _ => ?_
  refine ite2 (fun _ => rfl) fun _ => ?_
  refine ite2 (fun _ => by show cY _ (SY s _) _ = cY _ (if 74 + 16 * ((q - 74) / 16) = _ then _ else _) _; rw [if_neg (by omega)]; rfl) fun _ => ?_
  refine ite2 (fun _ => rfl) fun _ => ?_
  refine ite2 (fun _ => rfl) fun _ => ?_
  refine ite2 (fun _ => rfl) fun _ => ?_
  refine ite2 (fun _ => rfl) fun _ => ?_
  refine ite2 (fun _ => rfl) fun _ => ?_
  refine ite2 (fun _ => rfl) fun _ => ?_
  refine ite2 (fun _ => rfl) fun _ => ?_
  refine ite2 (fun _ => rfl) fun _ => ?_
  refine ite2 (fun _ => rfl) fun _ => ?_
  refine ite2 (fun _ => rfl) fun _ => ?_
  refine ite2 (fun _ => rfl) fun _ => ?_
  refine ite2 (fun _ => rfl) fun _ => ?_
  refine ite2 (fun _ => rfl) fun _ => ?_
  refine ite2 (fun _ => rfl) fun _ => ?_
  exact rfl
theorem S_Y24_in {v : tY} {q : Nat} (hq : 24 ≤ q ∧ q < 40) : cS (wSY s 24 v) q = cY 24 v (q - 24) := by
  unfold cS
  rw [if_neg (show ¬ q < 1 by omega)]
  rw [if_neg (show ¬ q < 2 by omega)]
  rw [if_neg (show ¬ q < 4 by omega)]
  rw [if_neg (show ¬ q < 20 by omega)]
  rw [if_neg (show ¬ q < 23 by omega)]
  rw [if_neg (show ¬ q < 24 by omega)]
  rw [if_pos (show q < 40 by omega)]
  exact rfl
theorem S_Y24 {v : tY} : pY 24 v (pS s h) = pS (wSY s 24 v) h := by
  have e := pC_in (b := 0) (n := 317) (o := 24) (n2 := 16) (f := cS s) (g := cY 24 v) (f2 := cS (wSY s 24 v)) (h := h) (by decide) (fun q hi => by
    by_cases hq : 24 ≤ q ∧ q < 40
    · rw [if_pos hq]; exact S_Y24_in hq
    · rw [if_neg hq]; exact (S_Y24_out hi hq).symm)
  rw [Nat.zero_add] at e
  exact e
theorem S_Y40_out {v : tY} {q : Nat} (hi : q < 317) (hq : ¬ (40 ≤ q ∧ q < 56)) : cS s q = cS (wSY s 40 v) q := by
  unfold cS
  refine ite2 (fun _ => rfl) fun _ => ?_
  refine ite2 (fun _ => rfl) fun _ => ?_
  refine ite2 (fun _ => rfl) fun _ => ?_
  refine ite2 (fun _ => rfl) fun _ => ?_
  refine ite2 (fun _ => rfl) fun _ => ?_
  refine ite2 (fun _ => rfl) fun _ => ?_
  refine ite2 (fun _ => rfl) fun _ => ?_
  refine ite2 (fun hq => absurd hq (by omega)) fun _ => ?_
  refine ite2 (fun _ => rfl) fun _ => ?_
  refine ite2 (fun _ => rfl) fun _ => ?_
  refine ite2 (fun _ => rfl) fun _ => ?_
  refine ite2 (fun _ => by show cY _ (SY s _) _ = cY _ (if 74 + 16 * ((q - 74) / 16) = _ then _ else _) _; rw [if_neg (by omega)]; rfl) fun _ => ?_
  refine ite2 (fun _ => rfl) fun _ => ?_
  refine ite2 (fun _ => rfl) fun _ => ?_
  refine ite2 (fun _ => rfl) fun _ => ?_
  refine ite2 (fun _ => rfl) fun _ => ?_
  refine ite2 (fun _ => rfl) fun _ => ?_
  refine ite2 (fun _ => rfl) fun _ => ?_
  refine ite2 (fun _ => rfl) fun _ => ?_
  refine ite2 (fun _ => rfl) fun _ => ?_
  refine ite2 (fun _ => rfl) fun _ => ?_
  refine ite2 (fun _ => rfl) fun _ => ?_
  refine ite2 (fun _ => rfl) fun _ => ?_
  refine ite2 (fun _ => rfl) fun _ => ?_
  refine ite2 (fun _ => rfl) fun _ => ?_
  refine ite2 (fun _ => rfl) fun _ => ?_
  exact rfl
theorem S_Y40_in {v : tY} {q : Nat} (hq : 40 ≤ q ∧ q < 56) : cS (wSY s 40 v) q = cY 40 v (q - 40) := by
  unfold cS
  rw [if_neg (show ¬ q < 1 by omega)]
  rw [if_neg (show ¬ q < 2 by omega)]
  rw [if_neg (show ¬ q < 4 by omega)]
  rw [if_neg (show ¬ q < 20 by omega)]
  rw [if_neg (show ¬ q < 23 by omega)]
  rw [if_neg (show ¬ q < 24 by omega)]
  rw [if_neg (show ¬ q < 40 by omega)]
  rw [if_pos (show q < 56 by omega)]
  exact rfl
theorem S_Y40 {v : tY} : pY 40 v (pS s h) = pS (wSY s 40 v) h := by
  have e := pC_in (b := 0) (n := 317) (o := 40) (n2 := 16) (f := cS s) (g := cY 40 v) (f2 := cS (wSY s 40 v)) (h := h) (by decide) (fun q hi => by
    by_cases hq : 40 ≤ q ∧ q < 56
    · rw [if_pos hq]; exact S_Y40_in hq
    · rw [if_neg hq]; exact (S_Y40_out hi hq).symm)
  rw [Nat.zero_add] at e
  exact e
theorem S_Y56_out {v : tY} {q : Nat} (hi : q < 317) (hq : ¬ (56 ≤ q ∧ q < 72)) : cS s q = cS (wSY s 56 v) q := by
  unfold cS
  refine ite2 (fun _ => rfl) fun _ => ?_
  refine ite2 (fun _ => rfl) fun _ => ?_
  refine ite2 (fun _ => rfl) fun _ => ?_
  refine ite2 (fun _ => rfl) fun _ => ?_
  refine ite2 (fun _ => rfl) fun _ => ?_
  refine ite2 (fun _ => rfl) fun _ => ?_
  refine ite2 (fun _ => rfl) fun _ => ?_
  refine ite2 (fun _ => rfl) fun _ => ?_
  refine ite2 (fun hq => absurd hq (by omega)) fun _ => ?_
  refine ite2 (fun _ => rfl) fun _ => ?_
  refine ite2 (fun _ => rfl) fun _ => ?_
  refine ite2 (fun _ => by show cY _ (SY s _) _ = cY _ (if 74 + 16 * ((q - 74) / 16) = _ then _ else _) _; rw [if_neg (by omega)]; rfl) fun _ => ?_
  refine ite2 (fun _ => rfl) fun _ => ?_
  refine ite2 (fun _ => rfl) fun _ => ?_
  refine ite2 (fun _ => rfl) fun _ => ?_
  refine ite2 (fun _ => rfl) fun _ => ?_
  refine ite2 (fun _ => rfl) fun _ => ?_
  refine ite2 (fun _ => rfl) fun _ => ?_
  refine ite2 (fun _ => rfl) fun _ => ?_
  refine ite2 (fun _ => rfl) fun _ => ?_
  refine ite2 (fun _ => rfl) fun _ => ?_
  refine ite2 (fun _ => rfl) fun _ => ?_
  refine ite2 (fun _ => rfl) fun _ => ?_
  refine ite2 (fun _ => rfl) fun _ => ?_
  refine ite2 (fun _ => rfl) fun _ => ?_
  refine ite2 (fun _ => rfl) fun _ => ?_
  exact rfl
theorem S_Y56_in {v : tY} {q : Nat} (hq : 56 ≤ q ∧ q < 72) : cS (wSY s 56 v) q = cY 56 v (q - 56) := by
  unfold cS
  rw [if_neg (show ¬ q < 1 by omega)]
  rw [if_neg (show ¬ q < 2 by omega)]
  rw [if_neg (show ¬ q < 4 by omega)]
  rw [if_neg (show ¬ q < 20 by omega)]
  rw [if_neg (show ¬ q < 23 by omega)]
  rw [if_neg (show ¬ q < 24 by omega)]
  rw [if_neg (show ¬ q < 40 by omega)]
  rw [if_neg (show ¬ q < 56 by omega)]
  rw [if_pos (show q < 72 by omega)]
  exact rfl
theorem S_Y56 {v : tY} : pY 56 v (pS s h) = pS (wSY s 56 v) h := by
  have e := pC_in (b := 0) (n := 317) (o := 56) (n2 := 16) (f := cS s) (g := cY 56 v) (f2 := cS (wSY s 56 v)) (h := h) (by decide) (fun q hi => by
    by_cases hq : 56 ≤ q ∧ q < 72
    · rw [if_pos hq]; exact S_Y56_in hq
    · rw [if_neg hq]; exact (S_Y56_out hi hq).symm)
  rw [Nat.zero_add] at e
  exact e
theorem S_O234_out {v : tO} {q : Nat} (hi : q < 317) (hq : ¬ (234 ≤ q ∧ q < 239)) : cS s q = cS (wSO s 234 v) q := by
  unfold cS
  refine ite2 (fun _ => rfl) fun _ => ?_
  refine ite2 (fun _ => rfl) fun _ => ?_
  refine ite2 (fun _ => rfl) fun _ => ?_
  refine ite2 (fun _ => rfl) fun _ => ?_
  refine ite2 (fun _ => rfl) fun _ => ?_
  refine ite2 (fun _ => rfl) fun _ => ?_
  refine ite2 (fun _ => rfl) fun _ => ?_
  refine ite2 (fun _ => rfl) fun _ => ?_
  refine ite2 (fun _ => rfl) fun _ => ?_
  refine ite2 (fun _ => rfl) fun _ => ?_
  refine ite2 (fun _ => rfl) fun _ => ?_
  refine ite2 (fun _ => rfl) fun _ => ?_
  refine ite2 (fun hq => absurd hq (by omega)) fun _ => ?_
  refine ite2 (fun _ => rfl) fun _ => ?_
  refine ite2 (fun _ => rfl) fun _ => ?_
  refine ite2 (fun _ => rfl) fun _ => ?_
  refine ite2 (fun _ => rfl) fun _ => ?_
  refine ite2 (fun _ => rfl) fun _ => ?_
  refine ite2 (fun _ => rfl) fun _ => ?_
  refine ite2 (fun _ => rfl) fun _ => ?_
  refine ite2 (fun _ => rfl) fun _ => ?_
  refine ite2 (fun _ => rfl) fun _ => ?_
  refine ite2 (fun _ => rfl) fun _ => ?_
  refine ite2 (fun _ => rfl) fun _ => ?_
  refine ite2 (fun _ => rfl) fun _ => ?_
  refine ite2 (fun _ => rfl) fun _ => ?_
  show cCh _ (SO s _) _ = cCh _ (if 301 + 4 * ((q - 301) / 4) = _ then _ else _) _; rw [if_neg (by omega)]; rfl
theorem S_O234_in {v : tO} {q : Nat} (hq : 234 ≤ q ∧ q < 239) : cS (wSO s 234 v) q = cCo 234 v (q - 234) := by
  unfold cS
  rw [if_neg (show ¬ q < 1 by omega)]
  rw [if_neg (show ¬ q < 2 by omega)]
  rw [if_neg (show ¬ q < 4 by omega)]
  rw [if_neg (show ¬ q < 20 by omega)]
  rw [if_neg (show ¬ q < 23 by omega)]
  rw [if_neg (show ¬ q < 24 by omega)]
  rw [if_neg (show ¬ q < 40 by omega)]
  rw [if_neg (show ¬ q < 56 by omega)]
  rw [if_neg (show ¬ q < 72 by omega)]
  rw [if_neg (show ¬ q < 73 by omega)]
  rw [if_neg (show ¬ q < 74 by omega)]
  rw [if_neg (show ¬ q < 234 by omega)]
  rw [if_pos (show q < 239 by omega)]
  exact rfl
theorem S_O234 {v : tO} : pCo 234 v (pS s h) = pS (wSO s 234 v) h := by
  have e := pC_in (b := 0) (n := 317) (o := 234) (n2 := 5) (f := cS s) (g := cCo 234 v) (f2 := cS (wSO s 234 v)) (h := h) (by decide) (fun q hi => by
    by_cases hq : 234 ≤ q ∧ q < 239
    · rw [if_pos hq]; exact S_O234_in hq
    · rw [if_neg hq]; exact (S_O234_out hi hq).symm)
  rw [Nat.zero_add] at e
  exact e
theorem S_Y240_out {v : tY} {q : Nat} (hi : q < 317) (hq : ¬ (240 ≤ q ∧ q < 256)) : cS s q = cS (wSY s 240 v) q := by
  unfold cS
  refine ite2 (fun _ => rfl) fun _ => ?_
  refine ite2 (fun _ => rfl) fun _ => ?_
  refine ite2 (fun _ => rfl) fun _ => ?_
  refine ite2 (fun _ => rfl) fun _ => ?_
  refine ite2 (fun _ => rfl) fun _ => ?_
  refine ite2 (fun _ => rfl) fun _ => ?_
  refine ite2 (fun _ => rfl) fun _ => ?_
  refine ite2 (fun _ => rfl) fun _ => ?_
  refine ite2 (fun _ => rfl) fun _ => ?_
  refine ite2 (fun _ => rfl) fun _ => ?_
  refine ite2 (fun _ => rfl) fun _ => ?_
  refine ite2 (fun _ => by show cY _ (SY s _) _ = cY _ (if 74 + 16 * ((q - 74) / 16) = _ then _ else _) _; rw [if_neg (by omega)]; rfl) fun _ => ?_
  refine ite2 (fun _ => rfl) fun _ => ?_
  refine ite2 (fun _ => rfl) fun _ => ?_
  refine ite2 (fun hq => absurd hq (by omega)) fun _ => ?_
  refine ite2 (fun _ => rfl) fun _ => ?_
  refine ite2 (fun _ => rfl) fun _ => ?_
  refine ite2 (fun _ => rfl) fun _ => ?_
  refine ite2 (fun _ => rfl) fun _ => ?_
  refine ite2 (fun _ => rfl) fun _ => ?_
  refine ite2 (fun _ => rfl) fun _ => ?_
  refine ite2 (fun _ => rfl) fun _ => ?_
  refine ite2 (fun _ => rfl) fun _ => ?_
  refine ite2 (fun _ => rfl) fun _ => ?_
  refine ite2 (fun _ => rfl) fun _ => ?_
  refine ite2 (fun _ => rfl) fun _ => ?_
  exact rfl
theorem S_Y240_in {v : tY} {q : Nat} (hq : 240 ≤ q ∧ q < 256) : cS (wSY s 240 v) q = cY 240 v (q - 240) := by
  unfold cS
  rw [if_neg (show ¬ q < 1 by omega)]
  rw [if_neg (show ¬ q < 2 by omega)]
  rw [if_neg (show ¬ q < 4 by omega)]
  rw [if_neg (show ¬ q < 20 by omega)]
  rw [if_neg (show ¬ q < 23 by omega)]
  rw [if_neg (show ¬ q < 24 by omega)]
  rw [if_neg (show ¬ q < 40 by omega)]
  rw [if_neg (show ¬ q < 56 by omega)]
  rw [if_neg (show ¬ q < 72 by omega)]
  rw [if_neg (show ¬ q < 73 by omega)]
  rw [if_neg (show ¬ q < 74 by omega)]
  rw [if_neg (show ¬ q < 234 by omega)]
  rw [if_neg (show ¬ q < 239 by omega)]
  rw [if_neg (show ¬ q < 240 by omega)]
  rw [if_pos (show q < 256 by omega)]
  exact rfl
theorem S_Y240 {v : tY} : pY 240 v (pS s h) = pS (wSY s 240 v) h := by
  have e := pC_in (b := 0) (n := 317) (o := 240) (n2 := 16) (f := cS s) (g := cY 240 v) (f2 := cS (wSY s 240 v)) (h := h) (by decide) (fun q hi => by
    by_cases hq : 240 ≤ q ∧ q < 256
    · rw [if_pos hq]; exact S_Y240_in hq
    · rw [if_neg hq]; exact (S_Y240_out hi hq).symm)
  rw [Nat.zero_add] at e
  exact e
theorem S_Y256_out {v : tY} {q : Nat} (hi : q < 317) (hq : ¬ (256 ≤ q ∧ q < 272)) : cS s q = cS (wSY s 256 v) q := by
  unfold cS
  refine ite2 (fun _ => rfl) fun _ => ?_
  refine ite2 (fun _ => rfl) fun _ => ?_
  refine ite2 (fun _ => rfl) fun _ => ?_
  refine ite2 (fun _ => rfl) fun _ => ?_
  refine ite2 (fun _ => rfl) fun _ => ?_
  refine ite2 (fun _ => rfl) fun _ => ?_
  refine ite2 (fun _ => rfl) fun _ => ?_
  refine ite2 (fun _ => rfl) fun _ => ?_
  refine ite2 (fun _ => rfl) fun _ => ?_
  refine ite2 (fun _ => rfl) fun _ => ?_
  refine ite2 (fun _ => rfl) fun _ => ?_
  refine ite2 (fun _ => by show cY _ (SY s _) _ = cY _ (if 74 + 16 * ((q - 74) / 16) = _ then _ else _) _; rw [if_neg (by omega)]; rfl) fun _ => ?_
  refine ite2 (fun _ => rfl) fun _ => ?_
  refine ite2 (fun _ => rfl) fun _ => ?_
  refine ite2 (fun _ => rfl) fun _ => ?_
  refine ite2 (fun hq => absurd hq (by omega)) fun _ => ?_
  refine ite2 (fun _ => rfl) fun _ => ?_
  refine ite2 (fun _ => rfl) fun _ => ?_
  refine ite2 (fun _ => rfl) fun _ => ?_
  refine ite2 (fun _ => rfl) fun _ => ?_
  refine ite2 (fun _ => rfl) fun _ => ?_
  refine ite2 (fun _ => rfl) fun _ => ?_
  refine ite2 (fun _ => rfl) fun _ => ?_
  refine ite2 (fun _ => rfl) fun _ => ?_
  refine ite2 (fun _ => rfl) fun _ => ?_
  refine ite2 (fun _ => rfl) fun _ => ?_
  exact rfl
theorem S_Y256_in {v : tY} {q : Nat} (hq : 256 ≤ q ∧ q < 272) : cS (wSY s 256 v) q = cY 256 v (q - 256) := by
  unfold cS
  rw [if_neg (show ¬ q < 1 by omega)]
  rw [if_neg (show ¬ q < 2 by omega)]
  rw [if_neg (show ¬ q < 4 by omega)]
  rw [if_neg (show ¬ q < 20 by omega)]
  rw [if_neg (show ¬ q < 23 by omega)]
  rw [if_neg (show ¬ q < 24 by omega)]
  rw [if_neg (show ¬ q < 40 by omega)]
  rw [if_neg (show ¬ q < 56 by omega)]
  rw [if_neg (show ¬ q < 72 by omega)]
  rw [if_neg (show ¬ q < 73 by omega)]
  rw [if_neg (show ¬ q < 74 by omega)]
  rw [if_neg (show ¬ q < 234 by omega)]
  rw [if_neg (show ¬ q < 239 by omega)]
  rw [if_neg (show ¬ q < 240 by omega)]
  rw [if_neg (show ¬ q < 256 by omega)]
  rw [if_pos (show q < 272 by omega)]
  exact rfl
theorem S_Y256 {v : tY} : pY 256 v (pS s h) = pS (wSY s 256 v) h := by
  have e := pC_in (b := 0) (n := 317) (o := 256) (n2 := 16) (f := cS s) (g := cY 256 v) (f2 := cS (wSY s 256 v)) (h := h) (by decide) (fun q hi => by
    by_cases hq : 256 ≤ q ∧ q < 272
    · rw [if_pos hq]; exact S_Y256_in hq
    · rw [if_neg hq]; exact (S_Y256_out hi hq).symm)
  rw [Nat.zero_add] at e
  exact e
theorem S_P272_out {v : tP} {q : Nat} (hi : q < 317) (hq : ¬ (272 ≤ q ∧ q < 275)) : cS s q = cS (wSP s 272 v) q := by
  unfold cS
  refine ite2 (fun _ => rfl) fun _ => ?_
  refine ite2 (fun _ => rfl) fun _ => ?_
  refine ite2 (fun _ => rfl) fun _ => ?_
  refine ite2 (fun _ => rfl) fun _ => ?_
  refine ite2 (fun _ => rfl) fun _ => ?_
  refine ite2 (fun _ => rfl) fun _ => ?_
  refine ite2 (fun _ => rfl) fun _ => ?_
  refine ite2 (fun _ => rfl) fun _ => ?_
  refine ite2 (fun _ => rfl) fun _ => ?_
  refine ite2 (fun _ => rfl) fun _ => ?_
  refine ite2 (fun _ => rfl) fun _ => ?_
  refine ite2 (fun _ => rfl) fun _ => ?_
  refine ite2 (fun _ => rfl) fun _ => ?_
  refine ite2 (fun _ => rfl) fun _ => ?_
  refine ite2 (fun _ => rfl) fun _ => ?_
  refine ite2 (fun _ => rfl) fun _ => ?_
  refine ite2 (fun hq => absurd hq (by omega)) fun _ => ?_
  refine ite2 (fun _ => rfl) fun _ => ?_
  refine ite2 (fun _ => rfl) fun _ => ?_
  refine ite2 (fun _ => rfl) fun _ => ?_
  refine ite2 (fun _ => rfl) fun _ => ?_
  refine ite2 (fun _ => rfl) fun _ => ?_
  refine ite2 (fun _ => rfl) fun _ => ?_
  refine ite2 (fun _ => rfl) fun _ => ?_
  refine ite2 (fun _ => rfl) fun _ => ?_
  refine ite2 (fun _ => rfl) fun _ => ?_
  exact rfl
theorem S_P272_in {v : tP} {q : Nat} (hq : 272 ≤ q ∧ q < 275) : cS (wSP s 272 v) q = cP 272 v (q - 272) := by
  unfold cS
  rw [if_neg (show ¬ q < 1 by omega)]
  rw [if_neg (show ¬ q < 2 by omega)]
  rw [if_neg (show ¬ q < 4 by omega)]
  rw [if_neg (show ¬ q < 20 by omega)]
  rw [if_neg (show ¬ q < 23 by omega)]
  rw [if_neg (show ¬ q < 24 by omega)]
  rw [if_neg (show ¬ q < 40 by omega)]
  rw [if_neg (show ¬ q < 56 by omega)]
  rw [if_neg (show ¬ q < 72 by omega)]
  rw [if_neg (show ¬ q < 73 by omega)]
  rw [if_neg (show ¬ q < 74 by omega)]
  rw [if_neg (show ¬ q < 234 by omega)]
  rw [if_neg (show ¬ q < 239 by omega)]
  rw [if_neg (show ¬ q < 240 by omega)]
  rw [if_neg (show ¬ q < 256 by omega)]
  rw [if_neg (show ¬ q < 272 by omega)]
  rw [if_pos (show q < 275 by omega)]
  exact rfl
theorem S_P272 {v : tP} : pP 272 v (pS s h) = pS (wSP s 272 v) h := by
  have e := pC_in (b := 0) (n := 317) (o := 272) (n2 := 3) (f := cS s) (g := cP 272 v) (f2 := cS (wSP s 272 v)) (h := h) (by decide) (fun q hi => by
    by_cases hq : 272 ≤ q ∧ q < 275
    · rw [if_pos hq]; exact S_P272_in hq
    · rw [if_neg hq]; exact (S_P272_out hi hq).symm)
  rw [Nat.zero_add] at e
  exact e
theorem S_P275_out {v : tP} {q : Nat} (hi : q < 317) (hq : ¬ (275 ≤ q ∧ q < 278)) : cS s q = cS (wSP s 275 v) q := by
  unfold cS
  refine ite2 (fun _ => rfl) fun _ => ?_
  refine ite2 (fun _ => rfl) fun _ => ?_
  refine ite2 (fun _ => rfl) fun _ => ?_
  refine ite2 (fun _ => rfl) fun _ => ?_
  refine ite2 (fun _ => rfl) fun _ => ?_
  refine ite2 (fun _ => rfl) fun _ => ?_
  refine ite2 (fun _ => rfl) fun _ => ?_
  refine ite2 (fun _ => rfl) fun _ => ?_
  refine ite2 (fun _ => rfl) fun _ => ?_
  refine ite2 (fun _ => rfl) fun _ => ?_
  refine ite2 (fun _ => rfl) fun _ => ?_
  refine ite2 (fun _ => rfl) fun _ => ?_
  refine ite2 (fun _ => rfl) fun _ => ?_
  refine ite2 (fun _ => rfl) fun _ => ?_
  refine ite2 (fun _ => rfl) fun _ => ?_
  refine ite2 (fun _ => rfl) fun _ => ?_
  refine ite2 (fun _ => rfl) fun _ => ?_
  refine ite2 (fun hq => absurd hq (by omega)) fun _ => ?_
  refine ite2 (fun _ => rfl) fun _ => ?_
  refine ite2 (fun _ => rfl) fun _ => ?_
  refine ite2 (fun _ => rfl) fun _ => ?_
  refine ite2 (fun _ => rfl) fun _ => ?_
  refine ite2 (fun _ => rfl) fun _ => ?_
  refine ite2 (fun _ => rfl) fun _ => ?_
  refine ite2 (fun _ => rfl) fun _ => ?_
  refine ite2 (fun _ => rfl) fun _ => ?_
  exact rfl
theorem S_P275_in {v : tP} {q : Nat} (hq : 275 ≤ q ∧ q < 278) : cS (wSP s 275 v) q = cP 275 v (q - 275) := by
  unfold cS
  rw [if_neg (show ¬ q < 1 by omega)]
  rw [if_neg (show ¬ q < 2 by omega)]
  rw [if_neg (show ¬ q < 4 by omega)]
  rw [if_neg (show ¬ q < 20 by omega)]
  rw [if_neg (show ¬ q < 23 by omega)]
  rw [if_neg (show ¬ q < 24 by omega)]
  rw [if_neg (show ¬ q < 40 by omega)]
  rw [if_neg (show ¬ q < 56 by omega)]
  rw [if_neg (show ¬ q < 72 by omega)]
  rw [if_neg (show ¬ q < 73 by omega)]
  rw [if_neg (show ¬ q < 74 by omega)]
  rw [if_neg (show ¬ q < 234 by omega)]
  rw [if_neg (show ¬ q < 239 by omega)]
  rw [if_neg (show ¬ q < 240 by omega)]
  rw [if_neg (show ¬ q < 256 by omega)]
  rw [if_neg (show ¬ q < 272 by omega)]
  rw [if_neg (show ¬ q < 275 by omega)]
  rw [if_pos (show q < 278 by omega)]
  exact rfl
theorem S_P275 {v : tP} : pP 275 v (pS s h) = pS (wSP s 275 v) h := by
  have e := pC_in (b := 0) (n := 317) (o := 275) (n2 := 3) (f := cS s) (g := cP 275 v) (f2 := cS (wSP s 275 v)) (h := h) (by decide) (fun q hi => by
    by_cases hq : 275 ≤ q ∧ q < 278
    · rw [if_pos hq]; exact S_P275_in hq
    · rw [if_neg hq]; exact (S_P275_out hi hq).symm)
  rw [Nat.zero_add] at e
  exact e
theorem S_O278_out {v : tO} {q : Nat} (hi : q < 317) (hq : ¬ (278 ≤ q ∧ q < 282)) : cS s q = cS (wSO s 278 v) q := by
  unfold cS
  refine ite2 (fun _ => rfl) fun _ => ?_
  refine ite2 (fun _ => rfl) fun _ => ?_
  refine ite2 (fun _ => rfl) fun _ => ?_
  refine ite2 (fun _ => rfl) fun _ => ?_
  refine ite2 (fun _ => rfl) fun _ => ?_
  refine ite2 (fun _ => rfl) fun _ => ?_
  refine ite2 (fun _ => rfl) fun _ => ?_
  refine ite2 (fun _ => rfl) fun _ => ?_
  refine ite2 (fun _ => rfl) fun _ => ?_
  refine ite2 (fun _ => rfl) fun _ => ?_
  refine ite2 (fun _ => rfl) fun _ => ?_
  refine ite2 (fun _ => rfl) fun _ => ?_
  refine ite2 (fun _ => rfl) fun _ => ?_
  refine ite2 (fun _ => rfl) fun _ => ?_
  refine ite2 (fun _ => rfl) fun _ => ?_
  refine ite2 (fun _ => rfl) fun _ => ?_
  refine ite2 (fun _ => rfl) fun _ => ?_
  refine ite2 (fun _ => rfl) fun _ => ?_
  refine ite2 (fun hq => absurd hq (by omega)) fun _ => ?_
  refine ite2 (fun _ => rfl) fun _ => ?_
  refine ite2 (fun _ => rfl) fun _ => ?_
  refine ite2 (fun _ => rfl) fun _ => ?_
  refine ite2 (fun _ => rfl) fun _ => ?_
  refine ite2 (fun _ => rfl) fun _ => ?_
  refine ite2 (fun _ => rfl) fun _ => ?_
  refine ite2 (fun _ => rfl) fun _ => ?_
  show cCh _ (SO s _) _ = cCh _ (if 301 + 4 * ((q - 301) / 4) = _ then _ else _) _; rw [if_neg (by omega)]; rfl
theorem S_O278_in {v : tO} {q : Nat} (hq : 278 ≤ q ∧ q < 282) : cS (wSO s 278 v) q = cCh 278 v (q - 278) := by
  unfold cS
  rw [if_neg (show ¬ q < 1 by omega)]
  rw [if_neg (show ¬ q < 2 by omega)]
  rw [if_neg (show ¬ q < 4 by omega)]
  rw [if_neg (show ¬ q < 20 by omega)]
  rw [if_neg (show ¬ q < 23 by omega)]
  rw [if_neg (show ¬ q < 24 by omega)]
  rw [if_neg (show ¬ q < 40 by omega)]
  rw [if_neg (show ¬ q < 56 by omega)]
  rw [if_neg (show ¬ q < 72 by omega)]
  rw [if_neg (show ¬ q < 73 by omega)]
  rw [if_neg (show ¬ q < 74 by omega)]
  rw [if_neg (show ¬ q < 234 by omega)]
  rw [if_neg (show ¬ q < 239 by omega)]
  rw [if_neg (show ¬ q < 240 by omega)]
  rw [if_neg (show ¬ q < 256 by omega)]
  rw [if_neg (show ¬ q < 272 by omega)]
  rw [if_neg (show ¬ q < 275 by omega)]
  rw [if_neg (show ¬ q < 278 by omega)]
  rw [if_pos (show q < 282 by omega)]
  exact rfl
theorem S_O278 {v : tO} : pCh 278 v (pS s h) = pS (wSO s 278 v) h := by
  have e := pC_in (b := 0) (n := 317) (o := 278) (n2 := 4) (f := cS s) (g := cCh 278 v) (f2 := cS (wSO s 278 v)) (h := h) (by decide) (fun q hi => by
    by_cases hq : 278 ≤ q ∧ q < 282
    · rw [if_pos hq]; exact S_O278_in hq
    · rw [if_neg hq]; exact (S_O278_out hi hq).symm)
  rw [Nat.zero_add] at e
  exact e
theorem S_O283_out {v : tO} {q : Nat} (hi : q < 317) (hq : ¬ (283 ≤ q ∧ q < 287)) : cS s q = cS (wSO s 283 v) q := by
  unfold cS
  refine ite2 (fun _ => rfl) fun _ => ?_
  refine ite2 (fun _ => rfl) fun _ => ?_
  refine ite2 (fun _ => rfl) fun _ => ?_
  refine ite2 (fun _ => rfl) fun _ => ?_
  refine ite2 (fun _ => rfl) fun _ => ?_
  refine ite2 (fun _ => rfl) fun _ => ?_
  refine ite2 (fun _ => rfl) fun _ => ?_
  refine ite2 (fun _ => rfl) fun _ => ?_
  refine ite2 (fun _ => rfl) fun _ => ?_
  refine ite2 (fun _ => rfl) fun _ => ?_
  refine ite2 (fun _ => rfl) fun _ => ?_
  refine ite2 (fun _ => rfl) fun _ => ?_
  refine ite2 (fun _ => rfl) fun _ => ?_
  refine ite2 (fun _ => rfl) fun _ => ?_
  refine ite2 (fun _ => rfl) fun _ => ?_
  refine ite2 (fun _ => rfl) fun _ => ?_
  refine ite2 (fun _ => rfl) fun _ => ?_
  refine ite2 (fun _ => rfl) fun _ => ?_
  refine ite2 (fun _ => rfl) fun _ => ?_
  refine ite2 (fun _ => rfl) fun _ => ?_
  refine ite2 (fun hq => absurd hq (by omega)) fun _ => ?_
  refine ite2 (fun _ => rfl) fun _ => ?_
  refine ite2 (fun _ => rfl) fun _ => ?_
  refine ite2 (fun _ => rfl) fun _ => ?_
  refine ite2 (fun _ => rfl) fun _ => ?_
  refine ite2 (fun _ => rfl) fun _ => ?_
  show cCh _ (SO s _) _ = cCh _ (if 301 + 4 * ((q - 301) / 4) = _ then _ else _) _; rw [if_neg (by omega)]; rfl
theorem S_O283_in {v : tO} {q : Nat} (hq : 283 ≤ q ∧ q < 287) : cS (wSO s 283 v) q = cCh 283 v (q - 283) := by
  unfold cS
  rw [if_neg (show ¬ q < 1 by omega)]
  rw [if_neg (show ¬ q < 2 by omega)]
  rw [if_neg (show ¬ q < 4 by omega)]
  rw [if_neg (show ¬ q < 20 by omega)]
  rw [if_neg (show ¬ q < 23 by omega)]
  rw [if_neg (show ¬ q < 24 by omega)]
  rw [if_neg (show ¬ q < 40 by omega)]
  rw [if_neg (show ¬ q < 56 by omega)]
  rw [if_neg (show ¬ q < 72 by omega)]
  rw [if_neg (show ¬ q < 73 by omega)]
  rw [if_neg (show ¬ q < 74 by omega)]
  rw [if_neg (show ¬ q < 234 by omega)]
  rw [if_neg (show ¬ q < 239 by omega)]
  rw [if_neg (show ¬ q < 240 by omega)]
  rw [if_neg (show ¬ q < 256 by omega)]
  rw [if_neg (show ¬ q < 272 by omega)]
  rw [if_neg (show ¬ q < 275 by omega)]
  rw [if_neg (show ¬ q < 278 by omega)]
  rw [if_neg (show ¬ q < 282 by omega)]
  rw [if_neg (show ¬ q < 283 by omega)]
  rw [if_pos (show q < 287 by omega)]
  exact rfl
theorem S_O283 {v : tO} : pCh 283 v (pS s h) = pS (wSO s 283 v) h := by
  have e := pC_in (b := 0) (n := 317) (o := 283) (n2 := 4) (f := cS s) (g := cCh 283 v) (f2 := cS (wSO s 283 v)) (h := h) (by decide) (fun q hi => by
    by_cases hq : 283 ≤ q ∧ q < 287
    · rw [if_pos hq]; exact S_O283_in hq
    · rw [if_neg hq]; exact (S_O283_out hi hq).symm)
  rw [Nat.zero_add] at e
  exact e
theorem S_O287_out {v : tO} {q : Nat} (hi : q < 317) (hq : ¬ (287 ≤ q ∧ q < 291)) : cS s q = cS (wSO s 287 v) q := by
  unfold cS
  refine ite2 (fun _ => rfl) fun _ => ?_
  refine ite2 (fun _ => rfl) fun _ => ?_
  refine ite2 (fun _ => rfl) fun _ => ?_
  refine ite2 (fun _ => rfl) fun _ => ?_
  refine ite2 (fun _ => rfl) fun _ => ?_
  refine ite2 (fun _ => rfl) fun _ => ?_
  refine ite2 (fun _ => rfl) fun _ => ?_
  refine ite2 (fun _ => rfl) fun _ => ?_
  refine ite2 (fun _ => rfl) fun _ => ?_
  refine ite2 (fun _ => rfl) fun _ => ?_
  refine ite2 (fun _ => rfl) fun _ => ?_
  refine ite2 (fun _ => rfl) fun _ => ?_
  refine ite2 (fun _ => rfl) fun _ => ?_
  refine ite2 (fun _ => rfl) fun _ => ?_
  refine ite2 (fun _ => rfl) fun _ => ?_
  refine ite2 (fun _ => rfl) fun _ => ?_
  refine ite2 (fun _ => rfl) fun _ => ?_
  refine ite2 (fun _ => rfl) fun _ => ?_
  refine ite2 (fun _ => rfl) fun _ => ?_
  refine ite2 (fun _ => rfl) fun _ => ?_
  refine ite2 (fun _ => rfl) fun _ => ?_
  refine ite2 (fun hq => absurd hq (by omega)) fun _ => ?_
  refine ite2 (fun _ => rfl) fun _ => ?_
  refine ite2 (fun _ => rfl) fun _ => ?_
  refine ite2 (fun _ => rfl) fun _ => ?_
  refine ite2 (fun _ => rfl) fun _ => ?_
  show cCh _ (SO s _) _ = cCh _ (if 301 + 4 * ((q - 301) / 4) = _ then _ else _) _; rw [if_neg (by omega)]; rfl
theorem S_O287_in {v : tO} {q : Nat} (hq : 287 ≤ q ∧ q < 291) : cS (wSO s 287 v) q = cCh 287 v (q - 287) := by
  unfold cS
  rw [if_neg (show ¬ q < 1 by omega)]
  rw [if_neg (show ¬ q < 2 by omega)]
  rw [if_neg (show ¬ q < 4 by omega)]
  rw [if_neg (show ¬ q < 20 by omega)]
  rw [if_neg (show ¬ q < 23 by omega)]
  rw [if_neg (show ¬ q < 24 by omega)]
  rw [if_neg (show ¬ q < 40 by omega)]
  rw [if_neg (show ¬ q < 56 by omega)]
  rw [if_neg (show ¬ q < 72 by omega)]
  rw [if_neg (show ¬ q < 73 by omega)]
  rw [if_neg (show ¬ q < 74 by omega)]
  rw [if_neg (show ¬ q < 234 by omega)]
  rw [if_neg (show ¬ q < 239 by omega)]
  rw [if_neg (show ¬ q < 240 by omega)]
  rw [if_neg (show ¬ q < 256 by omega)]
  rw [if_neg (show ¬ q < 272 by omega)]
  rw [if_neg (show ¬ q < 275 by omega)]
  rw [if_neg (show ¬ q < 278 by omega)]
  rw [if_neg (show ¬ q < 282 by omega)]
  rw [if_neg (show ¬ q < 283 by omega)]
  rw [if_neg (show ¬ q < 287 by omega)]
  rw [if_pos (show q < 291 by omega)]
  exact rfl
theorem S_O287 {v : tO} : pCh 287 v (pS s h) = pS (wSO s 287 v) h := by
  have e := pC_in (b := 0) (n := 317) (o := 287) (n2 := 4) (f := cS s) (g := cCh 287 v) (f2 := cS (wSO s 287 v)) (h := h) (by decide) (fun q hi => by
    by_cases hq : 287 ≤ q ∧ q < 291
    · rw [if_pos hq]; exact S_O287_in hq
    · rw [if_neg hq]; exact (S_O287_out hi hq).symm)
  rw [Nat.zero_add] at e
  exact e
theorem S_O291_out {v : tO} {q : Nat} (hi : q < 317) (hq : ¬ (291 ≤ q ∧ q < 295)) : cS s q = cS (wSO s 291 v) q := by
  unfold cS
  refine ite2 (fun _ => rfl) fun _ => ?_
  refine ite2 (fun _ => rfl) fun _ => ?_
  refine ite2 (fun _ => rfl) fun _ => ?_
  refine ite2 (fun _ => rfl) fun _ => ?_
  refine ite2 (fun _ => rfl) fun _ => ?_
  refine ite2 (fun _ => rfl) fun _ => ?_
  refine ite2 (fun _ => rfl) fun _ => ?_
  refine ite2 (fun _ => rfl) fun _ => ?_
  refine ite2 (fun _ => rfl) fun _ => ?_
  refine ite2 (fun _ => rfl) fun _ => ?_
  refine ite2 (fun _ => rfl) fun _ => ?_
  refine ite2 (fun _ => rfl) fun _ => ?_
  refine ite2 (fun _ => rfl) fun _ => ?_
  refine ite2 (fun _ => rfl) fun _ => ?_
  refine ite2 (fun _ => rfl) fun _ => ?_
  refine ite2 (fun _ => rfl) fun _ => ?_
  refine ite2 (fun _ => rfl) fun _ => ?_
  refine ite2 (fun _ => rfl) fun _ => ?_
  refine ite2 (fun _ => rfl) fun _ => ?_
  refine ite2 (fun _ => rfl) fun _ => ?_
  refine ite2 (fun _ => rfl) fun _ => ?_
  refine ite2 (fun _ => rfl) fun _ => ?_
  refine ite2 (fun hq => absurd hq (by omega)) fun _ => ?_
  refine ite2 (fun _ => rfl) fun _ => ?_
  refine ite2 (fun _ => rfl) fun _ => ?_
  refine ite2 (fun _ => rfl) fun _ => ?_
  show cCh _ (SO s _) _ = cCh _ (if 301 + 4 * ((q - 301) / 4) = _ then _ else _) _; rw [if_neg (by omega)]; rfl
theorem S_O291_in {v : tO} {q : Nat} (hq : 291 ≤ q ∧ q < 295) : cS (wSO s 291 v) q = cCh 291 v (q - 291) := by
  unfold cS
  rw [if_neg (show ¬ q < 1 by omega)]
  rw [if_neg (show ¬ q < 2 by omega)]
  rw [if_neg (show ¬ q < 4 by omega)]
  rw [if_neg (show ¬ q < 20 by omega)]
  rw [if_neg (show ¬ q < 23 by omega)]
  rw [if_neg (show ¬ q < 24 by omega)]
  rw [if_neg (show ¬ q < 40 by omega)]
  rw [if_neg (show ¬ q < 56 by omega)]
  rw [if_neg (show ¬ q < 72 by omega)]
  rw [if_neg (show ¬ q < 73 by omega)]
  rw [if_neg (show ¬ q < 74 by omega)]
  rw [if_neg (show ¬ q < 234 by omega)]
  rw [if_neg (show ¬ q < 239 by omega)]
  rw [if_neg (show ¬ q < 240 by omega)]
  rw [if_neg (show ¬ q < 256 by omega)]
  rw [if_neg (show ¬ q < 272 by omega)]
  rw [if_neg (show ¬ q < 275 by omega)]
  rw [if_neg (show ¬ q < 278 by omega)]
  rw [if_neg (show ¬ q < 282 by omega)]
  rw [if_neg (show ¬ q < 283 by omega)]
  rw [if_neg (show ¬ q < 287 by omega)]
  rw [if_neg (show ¬ q < 291 by omega)]
  rw [if_pos (show q < 295 by omega)]
  exact rfl
theorem S_O291 {v : tO} : pCh 291 v (pS s h) = pS (wSO s 291 v) h := by
  have e := pC_in (b := 0) (n := 317) (o := 291) (n2 := 4) (f := cS s) (g := cCh 291 v) (f2 := cS (wSO s 291 v)) (h := h) (by decide) (fun q hi => by
    by_cases hq : 291 ≤ q ∧ q < 295
    · rw [if_pos hq]; exact S_O291_in hq
    · rw [if_neg hq]; exact (S_O291_out hi hq).symm)
  rw [Nat.zero_add] at e
  exact e
theorem S_O295_out {v : tO} {q : Nat} (hi : q < 317) (hq : ¬ (295 ≤ q ∧ q < 299)) : cS s q = cS (wSO s 295 v) q := by
  unfold cS
  refine ite2 (fun _ => rfl) fun _ => ?_
  refine ite2 (fun _ => rfl) fun _ => ?_
  refine ite2 (fun _ => rfl) fun _ => ?_
  refine ite2 (fun _ => rfl) fun _ => ?_
  refine ite2 (fun _ => rfl) fun _ => ?_
  refine ite2 (fun _ => rfl) fun _ => ?_
  refine ite2 (fun _ => rfl) fun _ => ?_
  refine ite2 (fun _ => rfl) fun _ => ?_
  refine ite2 (fun _ => rfl) fun _ => ?_
  refine ite2 (fun _ => rfl) fun _ => ?_
  refine ite2 (fun _ => rfl) fun _ => ?_
  refine ite2 (fun _ => rfl) fun _ => ?_
  refine ite2 (fun _ => rfl) fun _ => ?_
  refine ite2 (fun _ => rfl) fun _ => ?_
  refine ite2 (fun _ => rfl) fun _ => ?_
  refine ite2 (fun _ => rfl) fun _ => ?_
  refine ite2 (fun _ => rfl) fun _ => ?_
  refine ite2 (fun _ => rfl) fun _ => ?_
  refine ite2 (fun _ => rfl) fun _ => ?_
  refine ite2 (fun _ => rfl) fun _ => ?_
  refine ite2 (fun _ => rfl) fun _ => ?_
  refine ite2 (fun _ => rfl) fun _ => ?_
  refine ite2 (fun _ => rfl) fun _ => ?_
  refine ite2 (fun hq => absurd hq (by omega)) fun _ => ?_
  refine ite2 (fun _ => rfl) fun _ => ?_
  refine ite2 (fun _ => rfl) fun _ => ?_
  show cCh _ (SO s _) _ = cCh _ (if 301 + 4 * ((q - 301) / 4) = _ then _ else _) _; rw [if_neg (by omega)]; rfl
theorem S_O295_in {v : tO} {q : Nat} (hq : 295 ≤ q ∧ q < 299) : cS (wSO s 295 v) q = cCh 295 v (q - 295) := by
  unfold cS
  rw [if_neg (show ¬ q < 1 by omega)]
  rw [if_neg (show ¬ q < 2 by omega)]
  rw [if_neg (show ¬ q < 4 by omega)]
  rw [if_neg (show ¬ q < 20 by omega)]
  rw [if_neg (show ¬ q < 23 by omega)]
  rw [if_neg (show ¬ q < 24 by omega)]
  rw [if_neg (show ¬ q < 40 by omega)]
  rw [if_neg (show ¬ q < 56 by omega)]
  rw [if_neg (show ¬ q < 72 by omega)]
  rw [if_neg (show ¬ q < 73 by omega)]
  rw [if_neg (show ¬ q < 74 by omega)]
  rw [if_neg (show ¬ q < 234 by omega)]
  rw [if_neg (show ¬ q < 239 by omega)]
  rw [if_neg (show ¬ q < 240 by omega)]
  rw [if_neg (show ¬ q < 256 by omega)]
  rw [if_neg (show ¬ q < 272 by omega)]
  rw [if_neg (show ¬ q < 275 by omega)]
  rw [if_neg (show ¬ q < 278 by omega)]
  rw [if_neg (show ¬ q < 282 by omega)]
  rw [if_neg (show ¬ q < 283 by omega)]
  rw [if_neg (show ¬ q < 287 by omega)]
  rw [if_neg (show ¬ q < 291 by omega)]
  rw [if_neg (show ¬ q < 295 by omega)]
  rw [if_pos (show q < 299 by omega)]
  exact rfl
theorem S_O295 {v : tO} : pCh 295 v (pS s h) = pS (wSO s 295 v) h := by
  have e := pC_in (b := 0) (n := 317) (o := 295) (n2 := 4) (f := cS s) (g := cCh 295 v) (f2 := cS (wSO s 295 v)) (h := h) (by decide) (fun q hi => by
    by_cases hq : 295 ≤ q ∧ q < 299
    · rw [if_pos hq]; exact S_O295_in hq
    · rw [if_neg hq]; exact (S_O295_out hi hq).symm)
  rw [Nat.zero_add] at e
  exact e
end ST
