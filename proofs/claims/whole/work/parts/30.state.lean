/-! The class's heap as one typed state: G (imaged eB 5, refused eA 14, lines eN 104, rows eA 103, first eN 201, many eN 202, searched eN 306, order eA 305), yards, plans, other objects by their ids -/
abbrev tS : Type := tO × (Nat → tY) × (Nat → tP) × (Nat → tO)
def SG (s : tS) : tO := s.1
def SY (s : tS) : Nat → tY := s.2.1
def SP (s : tS) : Nat → tP := s.2.2.1
def SO (s : tS) : Nat → tO := s.2.2.2
def wSG (s : tS) (g : tO) : tS := (g, s.2)
def wSY (s : tS) (b : Nat) (y : tY) : tS := (s.1, fun q => if q = b then y else s.2.1 q, s.2.2)
def wSP (s : tS) (b : Nat) (p : tP) : tS := (s.1, s.2.1, fun q => if q = b then p else s.2.2.1 q, s.2.2.2)
def wSO (s : tS) (b : Nat) (x : tO) : tS := (s.1, s.2.1, s.2.2.1, fun q => if q = b then x else s.2.2.2 q)
theorem ite2 {α : Type} {c : Prop} [Decidable c] {a b a' b' : α} (h1 : c → a = a') (h2 : ¬ c → b = b') : (if c then a else b) = if c then a' else b' := by
  by_cases h : c
  · rw [if_pos h, if_pos h]; exact h1 h
  · rw [if_neg h, if_neg h]; exact h2 h
def cS (s : tS) (q : Nat) : sC :=
  if q < 1 then .inr (8, [.ref 1, .ref 2, .ref 24, .ref 40, .ref 56, .int (iB (eB (SG s) 5)), .ref 72, .ref 234, .ref 239, .ref 283, .ref 287, .ref 291, .ref 295, .ref 299, .ref 300])
  else if q < 2 then .inr (4, [.ref 2, .ref 4, .ref 20, .ref 23, .int (nI (eN (SG s) 104))])
  else if q < 4 then cTp 2 (SO s 2) (q - 2)
  else if q < 20 then cY 4 (SY s 4) (q - 4)
  else if q < 23 then cP 20 (SP s 20) (q - 20)
  else if q < 24 then .inl (0, 160, .inl (tr32 160 (eA (SG s) 103)))
  else if q < 40 then cY 24 (SY s 24) (q - 24)
  else if q < 56 then cY 40 (SY s 40) (q - 40)
  else if q < 72 then cY 56 (SY s 56) (q - 56)
  else if q < 73 then .inr (0, [.ref 73, .int (nI (eN (SG s) 201)), .int (nI (eN (SG s) 202))])
  else if q < 74 then .inl (5, 10, .inr (.inr (.inr (.inr fun j => if j < 10 then some (74 + 16 * j) else none))))
  else if q < 234 then cY (74 + 16 * ((q - 74) / 16)) (SY s (74 + 16 * ((q - 74) / 16))) ((q - 74) % 16)
  else if q < 239 then cCo 234 (SO s 234) (q - 234)
  else if q < 240 then .inr (5, [.ref 240, .ref 256, .ref 272, .ref 275, .ref 278, .ref 282, .int (nI (eN (SG s) 306))])
  else if q < 256 then cY 240 (SY s 240) (q - 240)
  else if q < 272 then cY 256 (SY s 256) (q - 256)
  else if q < 275 then cP 272 (SP s 272) (q - 272)
  else if q < 278 then cP 275 (SP s 275) (q - 275)
  else if q < 282 then cCh 278 (SO s 278) (q - 278)
  else if q < 283 then .inl (0, 8, .inl (tr32 8 (eA (SG s) 305)))
  else if q < 287 then cCh 283 (SO s 283) (q - 283)
  else if q < 291 then cCh 287 (SO s 287) (q - 287)
  else if q < 295 then cCh 291 (SO s 291) (q - 291)
  else if q < 299 then cCh 295 (SO s 295) (q - 295)
  else if q < 300 then .inl (4, 4, .inr (.inr (.inr (.inr fun j => if j < 4 then some (301 + 4 * j) else none))))
  else if q < 301 then .inl (0, 4, .inl (tr32 4 (eA (SG s) 14)))
  else cCh (301 + 4 * ((q - 301) / 4)) (SO s (301 + 4 * ((q - 301) / 4))) ((q - 301) % 4)
def pS (s : tS) (h : sH) : sH := pC 0 317 (cS s) h
section ST
variable {d : Nat} {s : tS} {h : sH} {i x : Int32}
theorem S_O2_out {v : tO} {q : Nat} (hi : q < 317) (hq : ¬ (2 ≤ q ∧ q < 4)) : cS s q = cS (wSO s 2 v) q := by
  unfold cS
  refine ite2 (fun _ => rfl) fun _ => ?_
  refine ite2 (fun _ => rfl) fun _ => ?_
  refine ite2 (fun hq => absurd hq (by omega)) fun _ => ?_
  refine ite2 (fun _ => rfl) fun _ => ?_
  refine ite2 (fun _ => rfl) fun _ => ?_
  refine ite2 (fun _ => rfl) fun _ => ?_
  refine ite2 (fun _ => rfl) fun _ => ?_
  refine ite2 (fun _ => rfl) fun _ => ?_
  refine ite2 (fun _ => rfl) fun _ => ?_
  refine ite2 (fun _ => rfl) fun _ => ?_
  refine ite2 (fun _ => rfl) fun _ => ?_
  refine ite2 (fun _ => rfl) fun _ => ?_
  refine ite2 (fun _ => rfl) fun _ => ?_
  refine ite2 (fun _ => rfl) fun _ => ?_
  refine ite2 (fun _ => rfl) fun _ => ?_
  refine ite2 (fun _ => rfl) fun _ => ?_
  refine ite2 (fun _ => rfl) fun _ => ?_
  refine ite2 (fun _ => rfl) fun _ => ?_
  refine ite2 (fun _ => rfl) fun _ => ?_
  refine ite2 (fun _ => rfl) fun _ => ?_
  refine ite2 (fun _ => rfl) fun _ => ?_
  refine ite2 (fun _ => rfl) fun _ => ?_
  refine ite2 (fun _ => rfl) fun _ => ?_
  refine ite2 (fun _ => rfl) fun _ => ?_
  refine ite2 (fun _ => rfl) fun _ => ?_
  refine ite2 (fun _ => rfl) fun _ => ?_
  show cCh _ (SO s _) _ = cCh _ (if 301 + 4 * ((q - 301) / 4) = _ then _ else _) _; rw [if_neg (by omega)]; rfl
theorem S_O2_in {v : tO} {q : Nat} (hq : 2 ≤ q ∧ q < 4) : cS (wSO s 2 v) q = cTp 2 v (q - 2) := by
  unfold cS
  rw [if_neg (show ¬ q < 1 by omega)]
  rw [if_neg (show ¬ q < 2 by omega)]
  rw [if_pos (show q < 4 by omega)]
  exact rfl
theorem S_O2 {v : tO} : pTp 2 v (pS s h) = pS (wSO s 2 v) h := by
  have e := pC_in (b := 0) (n := 317) (o := 2) (n2 := 2) (f := cS s) (g := cTp 2 v) (f2 := cS (wSO s 2 v)) (h := h) (by decide) (fun q hi => by
    by_cases hq : 2 ≤ q ∧ q < 4
    · rw [if_pos hq]; exact S_O2_in hq
    · rw [if_neg hq]; exact (S_O2_out hi hq).symm)
  rw [Nat.zero_add] at e
  exact e
theorem S_Y4_out {v : tY} {q : Nat} (hi : q < 317) (hq : ¬ (4 ≤ q ∧ q < 20)) : cS s q = cS (wSY s 4 v) q := by
  unfold cS
  refine ite2 (fun _ => rfl) fun _ => ?_
  refine ite2 (fun _ => rfl) fun _ => ?_
  refine ite2 (fun _ => rfl) fun _ => ?_
  refine ite2 (fun hq => absurd hq (by omega)) fun _ => ?_
  refine ite2 (fun _ => rfl) fun _ => ?_
  refine ite2 (fun _ => rfl) fun _ => ?_
  refine ite2 (fun _ => rfl) fun _ => ?_
  refine ite2 (fun _ => rfl) fun _ => ?_
  refine ite2 (fun _ => rfl) fun _ => ?_
  refine ite2 (fun _ => rfl) fun _ => ?_
  refine ite2 (fun _ => rfl) fun _ => ?_
  refine ite2 (fun _ => by show cY _ (SY s _) _ = cY _ (if 74 + 16 * ((q - 74) / 16) = _ then _ else _) _; rw [if_neg (by omega)]; rfl) fun _ => ?_
  refine ite2 (fun _ => rfl) fun _ => ?_
  refine ite2 (fun _ => rfl) fun _ => ?_
  refine ite2 (fun _ => rfl) fun _ => ?_
  refine ite2 (fun _ => rfl) fun _ => ?_
  refine ite2 (fun _ => rfl) fun _ => ?_
  refine ite2 (fun _ => rfl) fun _ => ?_
  refine ite2 (fun _ => rfl) fun _ => ?_
  refine ite2 (fun _ => rfl) fun _ => ?_
  refine ite2 (fun _ => rfl) fun _ => ?_
  refine ite2 (fun _ => rfl) fun _ => ?_
  refine ite2 (fun _ => rfl) fun _ => ?_
  refine ite2 (fun _ => rfl) fun _ => ?_
  refine ite2 (fun _ => rfl) fun _ => ?_
  refine ite2 (fun _ => rfl) fun _ => ?_
  exact rfl
theorem S_Y4_in {v : tY} {q : Nat} (hq : 4 ≤ q ∧ q < 20) : cS (wSY s 4 v) q = cY 4 v (q - 4) := by
  unfold cS
  rw [if_neg (show ¬ q < 1 by omega)]
  rw [if_neg (show ¬ q < 2 by omega)]
  rw [if_neg (show ¬ q < 4 by omega)]
  rw [if_pos (show q < 20 by omega)]
  exact rfl
theorem S_Y4 {v : tY} : pY 4 v (pS s h) = pS (wSY s 4 v) h := by
  have e := pC_in (b := 0) (n := 317) (o := 4) (n2 := 16) (f := cS s) (g := cY 4 v) (f2 := cS (wSY s 4 v)) (h := h) (by decide) (fun q hi => by
    by_cases hq : 4 ≤ q ∧ q < 20
    · rw [if_pos hq]; exact S_Y4_in hq
    · rw [if_neg hq]; exact (S_Y4_out hi hq).symm)
  rw [Nat.zero_add] at e
  exact e
theorem S_P20_out {v : tP} {q : Nat} (hi : q < 317) (hq : ¬ (20 ≤ q ∧ q < 23)) : cS s q = cS (wSP s 20 v) q := by
  unfold cS
  refine ite2 (fun _ => rfl) fun _ => ?_
  refine ite2 (fun _ => rfl) fun _ => ?_
  refine ite2 (fun _ => rfl) fun _ => ?_
  refine ite2 (fun _ => rfl) fun _ => ?_
  refine ite2 (fun hq => absurd hq (by omega)) fun _ => ?_
  refine ite2 (fun _ => rfl) fun _ => ?_
  refine ite2 (fun _ => rfl) fun _ => ?_
  refine ite2 (fun _ => rfl) fun _ => ?_
  refine ite2 (fun _ => rfl) fun _ => ?_
  refine ite2 (fun _ => rfl) fun _ => ?_
  refine ite2 (fun _ => rfl) fun _ => ?_
  refine ite2 (fun _ => rfl) fun _ => ?_
  refine ite2 (fun _ => rfl) fun _ => ?_
  refine ite2 (fun _ => rfl) fun _ => ?_
  refine ite2 (fun _ => rfl) fun _ => ?_
  refine ite2 (fun _ => rfl) fun _ => ?_
  refine ite2 (fun _ => rfl) fun _ => ?_
  refine ite2 (fun _ => rfl) fun _ => ?_
  refine ite2 (fun _ => rfl) fun _ => ?_
  refine ite2 (fun _ => rfl) fun _ => ?_
  refine ite2 (fun _ => rfl) fun _ => ?_
  refine ite2 (fun _ => rfl) fun _ => ?_
  refine ite2 (fun _ => rfl) fun _ => ?_
  refine ite2 (fun _ => rfl) fun _ => ?_
  refine ite2 (fun _ => rfl) fun _ => ?_
  refine ite2 (fun _ => rfl) fun _ => ?_
  exact rfl
theorem S_P20_in {v : tP} {q : Nat} (hq : 20 ≤ q ∧ q < 23) : cS (wSP s 20 v) q = cP 20 v (q - 20) := by
  unfold cS
  rw [if_neg (show ¬ q < 1 by omega)]
  rw [if_neg (show ¬ q < 2 by omega)]
  rw [if_neg (show ¬ q < 4 by omega)]
  rw [if_neg (show ¬ q < 20 by omega)]
  rw [if_pos (show q < 23 by omega)]
  exact rfl
theorem S_P20 {v : tP} : pP 20 v (pS s h) = pS (wSP s 20 v) h := by
  have e := pC_in (b := 0) (n := 317) (o := 20) (n2 := 3) (f := cS s) (g := cP 20 v) (f2 := cS (wSP s 20 v)) (h := h) (by decide) (fun q hi => by
    by_cases hq : 20 ≤ q ∧ q < 23
    · rw [if_pos hq]; exact S_P20_in hq
    · rw [if_neg hq]; exact (S_P20_out hi hq).symm)
  rw [Nat.zero_add] at e
  exact e
theorem S_Y24_out {v : tY} {q : Nat} (hi : q < 317) (hq : ¬ (24 ≤ q ∧ q < 40)) : cS s q = cS (wSY s 24 v) q := by
  unfold cS
  refine ite2 (fun _ => rfl) fun _ => ?_
  refine ite2 (fun _ => rfl) fun _ => ?_
  refine ite2 (fun _ => rfl) fun _ => ?_
  refine ite2 (fun _ => rfl) fun _ => ?_
  refine ite2 (fun _ => rfl) fun _ => ?_
  refine ite2 (fun _ => rfl) fun _ => ?_
  refine ite2 (fun hq => absurd hq (by omega)) fun _ => ?_
  refine ite2 (fun _ => rfl) fun _ => ?_
  refine ite2 (fun _ => rfl) fun _ => ?_
  refine ite2 (fun _ => rfl) fun _ => ?_
  refine ite2 (fun _ => rfl) fun _ => ?_
  refine ite2 (fun _ => by show cY _ (SY s _) _ = cY _ (if 74 + 16 * ((q - 74) / 16) = _ then _ else _) _; rw [if_neg (by omega)]; rfl) fun _ => ?_
  refine ite2 (fun _ => rfl) fun _ => ?_
  refine ite2 (fun _ => rfl) fun _ => ?_
  refine ite2 (fun _ => rfl) fun _ => ?_
  refine ite2 (fun _ => rfl) fun _ => ?_
  refine ite2 (fun _ => rfl) fun _ => ?_
  refine ite2 (fun _ => rfl) fun _ => ?_
  refine ite2 (fun _ => rfl) fun _ => ?_
  refine ite2 (fun _ => rfl) fun _ => ?_
  refine ite2 (fun _ => rfl) fun _ => ?_
  refine ite2 (fun _ => rfl) fun _ => ?_
  refine ite2 (fun _ => rfl) fun _ => ?_
  refine ite2 (fun _ => rfl) fun _ => ?_
  refine ite2 (fun _ => rfl) fun _ => ?_
  refine ite2 (fun _ => rfl) fun _ => ?_
  exact rfl
theorem S_Y24_in {v : tY} {q : Nat} (hq : 24 ≤ q ∧ q < 40) : cS (wSY s 24 v) q = cY 24 v (q - 24) := by
  unfold cS
  rw [if_neg (show ¬ q < 1 by omega)]
  rw [if_neg (show ¬ q < 2 by omega)]
  rw [if_neg (show ¬ q < 4 by omega)]
  rw [if_neg (show ¬ q < 20 by omega)]
  rw [if_neg (show ¬ q < 23 by omega)]
  rw [if_neg (show ¬ q < 24 by omega)]
  rw [if_pos (show q < 40 by omega)]
  exact rfl
theorem S_Y24 {v : tY} : pY 24 v (pS s h) = pS (wSY s 24 v) h := by
  have e := pC_in (b := 0) (n := 317) (o := 24) (n2 := 16) (f := cS s) (g := cY 24 v) (f2 := cS (wSY s 24 v)) (h := h) (by decide) (fun q hi => by
    by_cases hq : 24 ≤ q ∧ q < 40
    · rw [if_pos hq]; exact S_Y24_in hq
    · rw [if_neg hq]; exact (S_Y24_out hi hq).symm)
  rw [Nat.zero_add] at e
  exact e
theorem S_Y40_out {v : tY} {q : Nat} (hi : q < 317) (hq : ¬ (40 ≤ q ∧ q < 56)) : cS s q = cS (wSY s 40 v) q := by
  unfold cS
  refine ite2 (fun _ => rfl) fun _ => ?_
  refine ite2 (fun _ => rfl) fun _ => ?_
  refine ite2 (fun _ => rfl) fun _ => ?_
  refine ite2 (fun _ => rfl) fun _ => ?_
  refine ite2 (fun _ => rfl) fun _ => ?_
  refine ite2 (fun _ => rfl) fun _ => ?_
  refine ite2 (fun _ => rfl) fun _ => ?_
  refine ite2 (fun hq => absurd hq (by omega)) fun _ => ?_
  refine ite2 (fun _ => rfl) fun _ => ?_
  refine ite2 (fun _ => rfl) fun _ => ?_
  refine ite2 (fun _ => rfl) fun _ => ?_
  refine ite2 (fun _ => by show cY _ (SY s _) _ = cY _ (if 74 + 16 * ((q - 74) / 16) = _ then _ else _) _; rw [if_neg (by omega)]; rfl) fun _ => ?_
  refine ite2 (fun _ => rfl) fun _ => ?_
  refine ite2 (fun _ => rfl) fun _ => ?_
  refine ite2 (fun _ => rfl) fun _ => ?_
  refine ite2 (fun _ => rfl) fun _ => ?_
  refine ite2 (fun _ => rfl) fun _ => ?_
  refine ite2 (fun _ => rfl) fun _ => ?_
  refine ite2 (fun _ => rfl) fun _ => ?_
  refine ite2 (fun _ => rfl) fun _ => ?_
  refine ite2 (fun _ => rfl) fun _ => ?_
  refine ite2 (fun _ => rfl) fun _ => ?_
  refine ite2 (fun _ => rfl) fun _ => ?_
  refine ite2 (fun _ => rfl) fun _ => ?_
  refine ite2 (fun _ => rfl) fun _ => ?_
  refine ite2 (fun _ => rfl) fun _ => ?_
  exact rfl
theorem S_Y40_in {v : tY} {q : Nat} (hq : 40 ≤ q ∧ q < 56) : cS (wSY s 40 v) q = cY 40 v (q - 40) := by
  unfold cS
  rw [if_neg (show ¬ q < 1 by omega)]
  rw [if_neg (show ¬ q < 2 by omega)]
  rw [if_neg (show ¬ q < 4 by omega)]
  rw [if_neg (show ¬ q < 20 by omega)]
  rw [if_neg (show ¬ q < 23 by omega)]
  rw [if_neg (show ¬ q < 24 by omega)]
  rw [if_neg (show ¬ q < 40 by omega)]
  rw [if_pos (show q < 56 by omega)]
  exact rfl
theorem S_Y40 {v : tY} : pY 40 v (pS s h) = pS (wSY s 40 v) h := by
  have e := pC_in (b := 0) (n := 317) (o := 40) (n2 := 16) (f := cS s) (g := cY 40 v) (f2 := cS (wSY s 40 v)) (h := h) (by decide) (fun q hi => by
    by_cases hq : 40 ≤ q ∧ q < 56
    · rw [if_pos hq]; exact S_Y40_in hq
    · rw [if_neg hq]; exact (S_Y40_out hi hq).symm)
  rw [Nat.zero_add] at e
  exact e
theorem S_Y56_out {v : tY} {q : Nat} (hi : q < 317) (hq : ¬ (56 ≤ q ∧ q < 72)) : cS s q = cS (wSY s 56 v) q := by
  unfold cS
  refine ite2 (fun _ => rfl) fun _ => ?_
  refine ite2 (fun _ => rfl) fun _ => ?_
  refine ite2 (fun _ => rfl) fun _ => ?_
  refine ite2 (fun _ => rfl) fun _ => ?_
  refine ite2 (fun _ => rfl) fun _ => ?_
  refine ite2 (fun _ => rfl) fun _ => ?_
  refine ite2 (fun _ => rfl) fun _ => ?_
  refine ite2 (fun _ => rfl) fun _ => ?_
  refine ite2 (fun hq => absurd hq (by omega)) fun _ => ?_
  refine ite2 (fun _ => rfl) fun _ => ?_
  refine ite2 (fun _ => rfl) fun _ => ?_
  refine ite2 (fun _ => by show cY _ (SY s _) _ = cY _ (if 74 + 16 * ((q - 74) / 16) = _ then _ else _) _; rw [if_neg (by omega)]; rfl) fun _ => ?_
  refine ite2 (fun _ => rfl) fun _ => ?_
  refine ite2 (fun _ => rfl) fun _ => ?_
  refine ite2 (fun _ => rfl) fun _ => ?_
  refine ite2 (fun _ => rfl) fun _ => ?_
  refine ite2 (fun _ => rfl) fun _ => ?_
  refine ite2 (fun _ => rfl) fun _ => ?_
  refine ite2 (fun _ => rfl) fun _ => ?_
  refine ite2 (fun _ => rfl) fun _ => ?_
  refine ite2 (fun _ => rfl) fun _ => ?_
  refine ite2 (fun _ => rfl) fun _ => ?_
  refine ite2 (fun _ => rfl) fun _ => ?_
  refine ite2 (fun _ => rfl) fun _ => ?_
  refine ite2 (fun _ => rfl) fun _ => ?_
  refine ite2 (fun _ => rfl) fun _ => ?_
  exact rfl
theorem S_Y56_in {v : tY} {q : Nat} (hq : 56 ≤ q ∧ q < 72) : cS (wSY s 56 v) q = cY 56 v (q - 56) := by
  unfold cS
  rw [if_neg (show ¬ q < 1 by omega)]
  rw [if_neg (show ¬ q < 2 by omega)]
  rw [if_neg (show ¬ q < 4 by omega)]
  rw [if_neg (show ¬ q < 20 by omega)]
  rw [if_neg (show ¬ q < 23 by omega)]
  rw [if_neg (show ¬ q < 24 by omega)]
  rw [if_neg (show ¬ q < 40 by omega)]
  rw [if_neg (show ¬ q < 56 by omega)]
  rw [if_pos (show q < 72 by omega)]
  exact rfl
theorem S_Y56 {v : tY} : pY 56 v (pS s h) = pS (wSY s 56 v) h := by
  have e := pC_in (b := 0) (n := 317) (o := 56) (n2 := 16) (f := cS s) (g := cY 56 v) (f2 := cS (wSY s 56 v)) (h := h) (by decide) (fun q hi => by
    by_cases hq : 56 ≤ q ∧ q < 72
    · rw [if_pos hq]; exact S_Y56_in hq
    · rw [if_neg hq]; exact (S_Y56_out hi hq).symm)
  rw [Nat.zero_add] at e
  exact e
theorem S_O234_out {v : tO} {q : Nat} (hi : q < 317) (hq : ¬ (234 ≤ q ∧ q < 239)) : cS s q = cS (wSO s 234 v) q := by
  unfold cS
  refine ite2 (fun _ => rfl) fun _ => ?_
  refine ite2 (fun _ => rfl) fun _ => ?_
  refine ite2 (fun _ => rfl) fun _ => ?_
  refine ite2 (fun _ => rfl) fun _ => ?_
  refine ite2 (fun _ => rfl) fun _ => ?_
  refine ite2 (fun _ => rfl) fun _ => ?_
  refine ite2 (fun _ => rfl) fun _ => ?_
  refine ite2 (fun _ => rfl) fun _ => ?_
  refine ite2 (fun _ => rfl) fun _ => ?_
  refine ite2 (fun _ => rfl) fun _ => ?_
  refine ite2 (fun _ => rfl) fun _ => ?_
  refine ite2 (fun _ => rfl) fun _ => ?_
  refine ite2 (fun hq => absurd hq (by omega)) fun _ => ?_
  refine ite2 (fun _ => rfl) fun _ => ?_
  refine ite2 (fun _ => rfl) fun _ => ?_
  refine ite2 (fun _ => rfl) fun _ => ?_
  refine ite2 (fun _ => rfl) fun _ => ?_
  refine ite2 (fun _ => rfl) fun _ => ?_
  refine ite2 (fun _ => rfl) fun _ => ?_
  refine ite2 (fun _ => rfl) fun _ => ?_
  refine ite2 (fun _ => rfl) fun _ => ?_
  refine ite2 (fun _ => rfl) fun _ => ?_
  refine ite2 (fun _ => rfl) fun _ => ?_
  refine ite2 (fun _ => rfl) fun _ => ?_
  refine ite2 (fun _ => rfl) fun _ => ?_
  refine ite2 (fun _ => rfl) fun _ => ?_
  show cCh _ (SO s _) _ = cCh _ (if 301 + 4 * ((q - 301) / 4) = _ then _ else _) _; rw [if_neg (by omega)]; rfl
theorem S_O234_in {v : tO} {q : Nat} (hq : 234 ≤ q ∧ q < 239) : cS (wSO s 234 v) q = cCo 234 v (q - 234) := by
  unfold cS
  rw [if_neg (show ¬ q < 1 by omega)]
  rw [if_neg (show ¬ q < 2 by omega)]
  rw [if_neg (show ¬ q < 4 by omega)]
  rw [if_neg (show ¬ q < 20 by omega)]
  rw [if_neg (show ¬ q < 23 by omega)]
  rw [if_neg (show ¬ q < 24 by omega)]
  rw [if_neg (show ¬ q < 40 by omega)]
  rw [if_neg (show ¬ q < 56 by omega)]
  rw [if_neg (show ¬ q < 72 by omega)]
  rw [if_neg (show ¬ q < 73 by omega)]
  rw [if_neg (show ¬ q < 74 by omega)]
  rw [if_neg (show ¬ q < 234 by omega)]
  rw [if_pos (show q < 239 by omega)]
  exact rfl
theorem S_O234 {v : tO} : pCo 234 v (pS s h) = pS (wSO s 234 v) h := by
  have e := pC_in (b := 0) (n := 317) (o := 234) (n2 := 5) (f := cS s) (g := cCo 234 v) (f2 := cS (wSO s 234 v)) (h := h) (by decide) (fun q hi => by
    by_cases hq : 234 ≤ q ∧ q < 239
    · rw [if_pos hq]; exact S_O234_in hq
    · rw [if_neg hq]; exact (S_O234_out hi hq).symm)
  rw [Nat.zero_add] at e
  exact e
theorem S_Y240_out {v : tY} {q : Nat} (hi : q < 317) (hq : ¬ (240 ≤ q ∧ q < 256)) : cS s q = cS (wSY s 240 v) q := by
  unfold cS
  refine ite2 (fun _ => rfl) fun _ => ?_
  refine ite2 (fun _ => rfl) fun _ => ?_
  refine ite2 (fun _ => rfl) fun _ => ?_
  refine ite2 (fun _ => rfl) fun _ => ?_
  refine ite2 (fun _ => rfl) fun _ => ?_
  refine ite2 (fun _ => rfl) fun _ => ?_
  refine ite2 (fun _ => rfl) fun _ => ?_
  refine ite2 (fun _ => rfl) fun _ => ?_
  refine ite2 (fun _ => rfl) fun _ => ?_
  refine ite2 (fun _ => rfl) fun _ => ?_
  refine ite2 (fun _ => rfl) fun _ => ?_
  refine ite2 (fun _ => by show cY _ (SY s _) _ = cY _ (if 74 + 16 * ((q - 74) / 16) = _ then _ else _) _; rw [if_neg (by omega)]; rfl) fun _ => ?_
  refine ite2 (fun _ => rfl) fun _ => ?_
  refine ite2 (fun _ => rfl) fun _ => ?_
  refine ite2 (fun hq => absurd hq (by omega)) fun _ => ?_
  refine ite2 (fun _ => rfl) fun _ => ?_
  refine ite2 (fun _ => rfl) fun _ => ?_
  refine ite2 (fun _ => rfl) fun _ => ?_
  refine ite2 (fun _ => rfl) fun _ => ?_
  refine ite2 (fun _ => rfl) fun _ => ?_
  refine ite2 (fun _ => rfl) fun _ => ?_
  refine ite2 (fun _ => rfl) fun _ => ?_
  refine ite2 (fun _ => rfl) fun _ => ?_
  refine ite2 (fun _ => rfl) fun _ => ?_
  refine ite2 (fun _ => rfl) fun _ => ?_
  refine ite2 (fun _ => rfl) fun _ => ?_
  exact rfl
theorem S_Y240_in {v : tY} {q : Nat} (hq : 240 ≤ q ∧ q < 256) : cS (wSY s 240 v) q = cY 240 v (q - 240) := by
  unfold cS
  rw [if_neg (show ¬ q < 1 by omega)]
  rw [if_neg (show ¬ q < 2 by omega)]
  rw [if_neg (show ¬ q < 4 by omega)]
  rw [if_neg (show ¬ q < 20 by omega)]
  rw [if_neg (show ¬ q < 23 by omega)]
  rw [if_neg (show ¬ q < 24 by omega)]
  rw [if_neg (show ¬ q < 40 by omega)]
  rw [if_neg (show ¬ q < 56 by omega)]
  rw [if_neg (show ¬ q < 72 by omega)]
  rw [if_neg (show ¬ q < 73 by omega)]
  rw [if_neg (show ¬ q < 74 by omega)]
  rw [if_neg (show ¬ q < 234 by omega)]
  rw [if_neg (show ¬ q < 239 by omega)]
  rw [if_neg (show ¬ q < 240 by omega)]
  rw [if_pos (show q < 256 by omega)]
  exact rfl
theorem S_Y240 {v : tY} : pY 240 v (pS s h) = pS (wSY s 240 v) h := by
  have e := pC_in (b := 0) (n := 317) (o := 240) (n2 := 16) (f := cS s) (g := cY 240 v) (f2 := cS (wSY s 240 v)) (h := h) (by decide) (fun q hi => by
    by_cases hq : 240 ≤ q ∧ q < 256
    · rw [if_pos hq]; exact S_Y240_in hq
    · rw [if_neg hq]; exact (S_Y240_out hi hq).symm)
  rw [Nat.zero_add] at e
  exact e
theorem S_Y256_out {v : tY} {q : Nat} (hi : q < 317) (hq : ¬ (256 ≤ q ∧ q < 272)) : cS s q = cS (wSY s 256 v) q := by
  unfold cS
  refine ite2 (fun _ => rfl) fun _ => ?_
  refine ite2 (fun _ => rfl) fun _ => ?_
  refine ite2 (fun _ => rfl) fun _ => ?_
  refine ite2 (fun _ => rfl) fun _ => ?_
  refine ite2 (fun _ => rfl) fun _ => ?_
  refine ite2 (fun _ => rfl) fun _ => ?_
  refine ite2 (fun _ => rfl) fun _ => ?_
  refine ite2 (fun _ => rfl) fun _ => ?_
  refine ite2 (fun _ => rfl) fun _ => ?_
  refine ite2 (fun _ => rfl) fun _ => ?_
  refine ite2 (fun _ => rfl) fun _ => ?_
  refine ite2 (fun _ => by show cY _ (SY s _) _ = cY _ (if 74 + 16 * ((q - 74) / 16) = _ then _ else _) _; rw [if_neg (by omega)]; rfl) fun _ => ?_
  refine ite2 (fun _ => rfl) fun _ => ?_
  refine ite2 (fun _ => rfl) fun _ => ?_
  refine ite2 (fun _ => rfl) fun _ => ?_
  refine ite2 (fun hq => absurd hq (by omega)) fun _ => ?_
  refine ite2 (fun _ => rfl) fun _ => ?_
  refine ite2 (fun _ => rfl) fun _ => ?_
  refine ite2 (fun _ => rfl) fun _ => ?_
  refine ite2 (fun _ => rfl) fun _ => ?_
  refine ite2 (fun _ => rfl) fun _ => ?_
  refine ite2 (fun _ => rfl) fun _ => ?_
  refine ite2 (fun _ => rfl) fun _ => ?_
  refine ite2 (fun _ => rfl) fun _ => ?_
  refine ite2 (fun _ => rfl) fun _ => ?_
  refine ite2 (fun _ => rfl) fun _ => ?_
  exact rfl
theorem S_Y256_in {v : tY} {q : Nat} (hq : 256 ≤ q ∧ q < 272) : cS (wSY s 256 v) q = cY 256 v (q - 256) := by
  unfold cS
  rw [if_neg (show ¬ q < 1 by omega)]
  rw [if_neg (show ¬ q < 2 by omega)]
  rw [if_neg (show ¬ q < 4 by omega)]
  rw [if_neg (show ¬ q < 20 by omega)]
  rw [if_neg (show ¬ q < 23 by omega)]
  rw [if_neg (show ¬ q < 24 by omega)]
  rw [if_neg (show ¬ q < 40 by omega)]
  rw [if_neg (show ¬ q < 56 by omega)]
  rw [if_neg (show ¬ q < 72 by omega)]
  rw [if_neg (show ¬ q < 73 by omega)]
  rw [if_neg (show ¬ q < 74 by omega)]
  rw [if_neg (show ¬ q < 234 by omega)]
  rw [if_neg (show ¬ q < 239 by omega)]
  rw [if_neg (show ¬ q < 240 by omega)]
  rw [if_neg (show ¬ q < 256 by omega)]
  rw [if_pos (show q < 272 by omega)]
  exact rfl
theorem S_Y256 {v : tY} : pY 256 v (pS s h) = pS (wSY s 256 v) h := by
  have e := pC_in (b := 0) (n := 317) (o := 256) (n2 := 16) (f := cS s) (g := cY 256 v) (f2 := cS (wSY s 256 v)) (h := h) (by decide) (fun q hi => by
    by_cases hq : 256 ≤ q ∧ q < 272
    · rw [if_pos hq]; exact S_Y256_in hq
    · rw [if_neg hq]; exact (S_Y256_out hi hq).symm)
  rw [Nat.zero_add] at e
  exact e
theorem S_P272_out {v : tP} {q : Nat} (hi : q < 317) (hq : ¬ (272 ≤ q ∧ q < 275)) : cS s q = cS (wSP s 272 v) q := by
  unfold cS
  refine ite2 (fun _ => rfl) fun _ => ?_
  refine ite2 (fun _ => rfl) fun _ => ?_
  refine ite2 (fun _ => rfl) fun _ => ?_
  refine ite2 (fun _ => rfl) fun _ => ?_
  refine ite2 (fun _ => rfl) fun _ => ?_
  refine ite2 (fun _ => rfl) fun _ => ?_
  refine ite2 (fun _ => rfl) fun _ => ?_
  refine ite2 (fun _ => rfl) fun _ => ?_
  refine ite2 (fun _ => rfl) fun _ => ?_
  refine ite2 (fun _ => rfl) fun _ => ?_
  refine ite2 (fun _ => rfl) fun _ => ?_
  refine ite2 (fun _ => rfl) fun _ => ?_
  refine ite2 (fun _ => rfl) fun _ => ?_
  refine ite2 (fun _ => rfl) fun _ => ?_
  refine ite2 (fun _ => rfl) fun _ => ?_
  refine ite2 (fun _ => rfl) fun _ => ?_
  refine ite2 (fun hq => absurd hq (by omega)) fun _ => ?_
  refine ite2 (fun _ => rfl) fun _ => ?_
  refine ite2 (fun _ => rfl) fun _ => ?_
  refine ite2 (fun _ => rfl) fun _ => ?_
  refine ite2 (fun _ => rfl) fun _ => ?_
  refine ite2 (fun _ => rfl) fun _ => ?_
  refine ite2 (fun _ => rfl) fun _ => ?_
  refine ite2 (fun _ => rfl) fun _ => ?_
  refine ite2 (fun _ => rfl) fun _ => ?_
  refine ite2 (fun _ => rfl) fun _ => ?_
  exact rfl
theorem S_P272_in {v : tP} {q : Nat} (hq : 272 ≤ q ∧ q < 275) : cS (wSP s 272 v) q = cP 272 v (q - 272) := by
  unfold cS
  rw [if_neg (show ¬ q < 1 by omega)]
  rw [if_neg (show ¬ q < 2 by omega)]
  rw [if_neg (show ¬ q < 4 by omega)]
  rw [if_neg (show ¬ q < 20 by omega)]
  rw [if_neg (show ¬ q < 23 by omega)]
  rw [if_neg (show ¬ q < 24 by omega)]
  rw [if_neg (show ¬ q < 40 by omega)]
  rw [if_neg (show ¬ q < 56 by omega)]
  rw [if_neg (show ¬ q < 72 by omega)]
  rw [if_neg (show ¬ q < 73 by omega)]
  rw [if_neg (show ¬ q < 74 by omega)]
  rw [if_neg (show ¬ q < 234 by omega)]
  rw [if_neg (show ¬ q < 239 by omega)]
  rw [if_neg (show ¬ q < 240 by omega)]
  rw [if_neg (show ¬ q < 256 by omega)]
  rw [if_neg (show ¬ q < 272 by omega)]
  rw [if_pos (show q < 275 by omega)]
  exact rfl
theorem S_P272 {v : tP} : pP 272 v (pS s h) = pS (wSP s 272 v) h := by
  have e := pC_in (b := 0) (n := 317) (o := 272) (n2 := 3) (f := cS s) (g := cP 272 v) (f2 := cS (wSP s 272 v)) (h := h) (by decide) (fun q hi => by
    by_cases hq : 272 ≤ q ∧ q < 275
    · rw [if_pos hq]; exact S_P272_in hq
    · rw [if_neg hq]; exact (S_P272_out hi hq).symm)
  rw [Nat.zero_add] at e
  exact e
theorem S_P275_out {v : tP} {q : Nat} (hi : q < 317) (hq : ¬ (275 ≤ q ∧ q < 278)) : cS s q = cS (wSP s 275 v) q := by
  unfold cS
  refine ite2 (fun _ => rfl) fun _ => ?_
  refine ite2 (fun _ => rfl) fun _ => ?_
  refine ite2 (fun _ => rfl) fun _ => ?_
  refine ite2 (fun _ => rfl) fun _ => ?_
  refine ite2 (fun _ => rfl) fun _ => ?_
  refine ite2 (fun _ => rfl) fun _ => ?_
  refine ite2 (fun _ => rfl) fun _ => ?_
  refine ite2 (fun _ => rfl) fun _ => ?_
  refine ite2 (fun _ => rfl) fun _ => ?_
  refine ite2 (fun _ => rfl) fun _ => ?_
  refine ite2 (fun _ => rfl) fun _ => ?_
  refine ite2 (fun _ => rfl) fun _ => ?_
  refine ite2 (fun _ => rfl) fun _ => ?_
  refine ite2 (fun _ => rfl) fun _ => ?_
  refine ite2 (fun _ => rfl) fun _ => ?_
  refine ite2 (fun _ => rfl) fun _ => ?_
  refine ite2 (fun _ => rfl) fun _ => ?_
  refine ite2 (fun hq => absurd hq (by omega)) fun _ => ?_
  refine ite2 (fun _ => rfl) fun _ => ?_
  refine ite2 (fun _ => rfl) fun _ => ?_
  refine ite2 (fun _ => rfl) fun _ => ?_
  refine ite2 (fun _ => rfl) fun _ => ?_
  refine ite2 (fun _ => rfl) fun _ => ?_
  refine ite2 (fun _ => rfl) fun _ => ?_
  refine ite2 (fun _ => rfl) fun _ => ?_
  refine ite2 (fun _ => rfl) fun _ => ?_
  exact rfl
theorem S_P275_in {v : tP} {q : Nat} (hq : 275 ≤ q ∧ q < 278) : cS (wSP s 275 v) q = cP 275 v (q - 275) := by
  unfold cS
  rw [if_neg (show ¬ q < 1 by omega)]
  rw [if_neg (show ¬ q < 2 by omega)]
  rw [if_neg (show ¬ q < 4 by omega)]
  rw [if_neg (show ¬ q < 20 by omega)]
  rw [if_neg (show ¬ q < 23 by omega)]
  rw [if_neg (show ¬ q < 24 by omega)]
  rw [if_neg (show ¬ q < 40 by omega)]
  rw [if_neg (show ¬ q < 56 by omega)]
  rw [if_neg (show ¬ q < 72 by omega)]
  rw [if_neg (show ¬ q < 73 by omega)]
  rw [if_neg (show ¬ q < 74 by omega)]
  rw [if_neg (show ¬ q < 234 by omega)]
  rw [if_neg (show ¬ q < 239 by omega)]
  rw [if_neg (show ¬ q < 240 by omega)]
  rw [if_neg (show ¬ q < 256 by omega)]
  rw [if_neg (show ¬ q < 272 by omega)]
  rw [if_neg (show ¬ q < 275 by omega)]
  rw [if_pos (show q < 278 by omega)]
  exact rfl
theorem S_P275 {v : tP} : pP 275 v (pS s h) = pS (wSP s 275 v) h := by
  have e := pC_in (b := 0) (n := 317) (o := 275) (n2 := 3) (f := cS s) (g := cP 275 v) (f2 := cS (wSP s 275 v)) (h := h) (by decide) (fun q hi => by
    by_cases hq : 275 ≤ q ∧ q < 278
    · rw [if_pos hq]; exact S_P275_in hq
    · rw [if_neg hq]; exact (S_P275_out hi hq).symm)
  rw [Nat.zero_add] at e
  exact e
theorem S_O278_out {v : tO} {q : Nat} (hi : q < 317) (hq : ¬ (278 ≤ q ∧ q < 282)) : cS s q = cS (wSO s 278 v) q := by
  unfold cS
  refine ite2 (fun _ => rfl) fun _ => ?_
  refine ite2 (fun _ => rfl) fun _ => ?_
  refine ite2 (fun _ => rfl) fun _ => ?_
  refine ite2 (fun _ => rfl) fun _ => ?_
  refine ite2 (fun _ => rfl) fun _ => ?_
  refine ite2 (fun _ => rfl) fun _ => ?_
  refine ite2 (fun _ => rfl) fun _ => ?_
  refine ite2 (fun _ => rfl) fun _ => ?_
  refine ite2 (fun _ => rfl) fun _ => ?_
  refine ite2 (fun _ => rfl) fun _ => ?_
  refine ite2 (fun _ => rfl) fun _ => ?_
  refine ite2 (fun _ => rfl) fun _ => ?_
  refine ite2 (fun _ => rfl) fun _ => ?_
  refine ite2 (fun _ => rfl) fun _ => ?_
  refine ite2 (fun _ => rfl) fun _ => ?_
  refine ite2 (fun _ => rfl) fun _ => ?_
  refine ite2 (fun _ => rfl) fun _ => ?_
  refine ite2 (fun _ => rfl) fun _ => ?_
  refine ite2 (fun hq => absurd hq (by omega)) fun _ => ?_
  refine ite2 (fun _ => rfl) fun _ => ?_
  refine ite2 (fun _ => rfl) fun _ => ?_
  refine ite2 (fun _ => rfl) fun _ => ?_
  refine ite2 (fun _ => rfl) fun _ => ?_
  refine ite2 (fun _ => rfl) fun _ => ?_
  refine ite2 (fun _ => rfl) fun _ => ?_
  refine ite2 (fun _ => rfl) fun _ => ?_
  show cCh _ (SO s _) _ = cCh _ (if 301 + 4 * ((q - 301) / 4) = _ then _ else _) _; rw [if_neg (by omega)]; rfl
theorem S_O278_in {v : tO} {q : Nat} (hq : 278 ≤ q ∧ q < 282) : cS (wSO s 278 v) q = cCh 278 v (q - 278) := by
  unfold cS
  rw [if_neg (show ¬ q < 1 by omega)]
  rw [if_neg (show ¬ q < 2 by omega)]
  rw [if_neg (show ¬ q < 4 by omega)]
  rw [if_neg (show ¬ q < 20 by omega)]
  rw [if_neg (show ¬ q < 23 by omega)]
  rw [if_neg (show ¬ q < 24 by omega)]
  rw [if_neg (show ¬ q < 40 by omega)]
  rw [if_neg (show ¬ q < 56 by omega)]
  rw [if_neg (show ¬ q < 72 by omega)]
  rw [if_neg (show ¬ q < 73 by omega)]
  rw [if_neg (show ¬ q < 74 by omega)]
  rw [if_neg (show ¬ q < 234 by omega)]
  rw [if_neg (show ¬ q < 239 by omega)]
  rw [if_neg (show ¬ q < 240 by omega)]
  rw [if_neg (show ¬ q < 256 by omega)]
  rw [if_neg (show ¬ q < 272 by omega)]
  rw [if_neg (show ¬ q < 275 by omega)]
  rw [if_neg (show ¬ q < 278 by omega)]
  rw [if_pos (show q < 282 by omega)]
  exact rfl
theorem S_O278 {v : tO} : pCh 278 v (pS s h) = pS (wSO s 278 v) h := by
  have e := pC_in (b := 0) (n := 317) (o := 278) (n2 := 4) (f := cS s) (g := cCh 278 v) (f2 := cS (wSO s 278 v)) (h := h) (by decide) (fun q hi => by
    by_cases hq : 278 ≤ q ∧ q < 282
    · rw [if_pos hq]; exact S_O278_in hq
    · rw [if_neg hq]; exact (S_O278_out hi hq).symm)
  rw [Nat.zero_add] at e
  exact e
theorem S_O283_out {v : tO} {q : Nat} (hi : q < 317) (hq : ¬ (283 ≤ q ∧ q < 287)) : cS s q = cS (wSO s 283 v) q := by
  unfold cS
  refine ite2 (fun _ => rfl) fun _ => ?_
  refine ite2 (fun _ => rfl) fun _ => ?_
  refine ite2 (fun _ => rfl) fun _ => ?_
  refine ite2 (fun _ => rfl) fun _ => ?_
  refine ite2 (fun _ => rfl) fun _ => ?_
  refine ite2 (fun _ => rfl) fun _ => ?_
  refine ite2 (fun _ => rfl) fun _ => ?_
  refine ite2 (fun _ => rfl) fun _ => ?_
  refine ite2 (fun _ => rfl) fun _ => ?_
  refine ite2 (fun _ => rfl) fun _ => ?_
  refine ite2 (fun _ => rfl) fun _ => ?_
  refine ite2 (fun _ => rfl) fun _ => ?_
  refine ite2 (fun _ => rfl) fun _ => ?_
  refine ite2 (fun _ => rfl) fun _ => ?_
  refine ite2 (fun _ => rfl) fun _ => ?_
  refine ite2 (fun _ => rfl) fun _ => ?_
  refine ite2 (fun _ => rfl) fun _ => ?_
  refine ite2 (fun _ => rfl) fun _ => ?_
  refine ite2 (fun _ => rfl) fun _ => ?_
  refine ite2 (fun _ => rfl) fun _ => ?_
  refine ite2 (fun hq => absurd hq (by omega)) fun _ => ?_
  refine ite2 (fun _ => rfl) fun _ => ?_
  refine ite2 (fun _ => rfl) fun _ => ?_
  refine ite2 (fun _ => rfl) fun _ => ?_
  refine ite2 (fun _ => rfl) fun _ => ?_
  refine ite2 (fun _ => rfl) fun _ => ?_
  show cCh _ (SO s _) _ = cCh _ (if 301 + 4 * ((q - 301) / 4) = _ then _ else _) _; rw [if_neg (by omega)]; rfl
theorem S_O283_in {v : tO} {q : Nat} (hq : 283 ≤ q ∧ q < 287) : cS (wSO s 283 v) q = cCh 283 v (q - 283) := by
  unfold cS
  rw [if_neg (show ¬ q < 1 by omega)]
  rw [if_neg (show ¬ q < 2 by omega)]
  rw [if_neg (show ¬ q < 4 by omega)]
  rw [if_neg (show ¬ q < 20 by omega)]
  rw [if_neg (show ¬ q < 23 by omega)]
  rw [if_neg (show ¬ q < 24 by omega)]
  rw [if_neg (show ¬ q < 40 by omega)]
  rw [if_neg (show ¬ q < 56 by omega)]
  rw [if_neg (show ¬ q < 72 by omega)]
  rw [if_neg (show ¬ q < 73 by omega)]
  rw [if_neg (show ¬ q < 74 by omega)]
  rw [if_neg (show ¬ q < 234 by omega)]
  rw [if_neg (show ¬ q < 239 by omega)]
  rw [if_neg (show ¬ q < 240 by omega)]
  rw [if_neg (show ¬ q < 256 by omega)]
  rw [if_neg (show ¬ q < 272 by omega)]
  rw [if_neg (show ¬ q < 275 by omega)]
  rw [if_neg (show ¬ q < 278 by omega)]
  rw [if_neg (show ¬ q < 282 by omega)]
  rw [if_neg (show ¬ q < 283 by omega)]
  rw [if_pos (show q < 287 by omega)]
  exact rfl
theorem S_O283 {v : tO} : pCh 283 v (pS s h) = pS (wSO s 283 v) h := by
  have e := pC_in (b := 0) (n := 317) (o := 283) (n2 := 4) (f := cS s) (g := cCh 283 v) (f2 := cS (wSO s 283 v)) (h := h) (by decide) (fun q hi => by
    by_cases hq : 283 ≤ q ∧ q < 287
    · rw [if_pos hq]; exact S_O283_in hq
    · rw [if_neg hq]; exact (S_O283_out hi hq).symm)
  rw [Nat.zero_add] at e
  exact e
theorem S_O287_out {v : tO} {q : Nat} (hi : q < 317) (hq : ¬ (287 ≤ q ∧ q < 291)) : cS s q = cS (wSO s 287 v) q := by
  unfold cS
  refine ite2 (fun _ => rfl) fun _ => ?_
  refine ite2 (fun _ => rfl) fun _ => ?_
  refine ite2 (fun _ => rfl) fun _ => ?_
  refine ite2 (fun _ => rfl) fun _ => ?_
  refine ite2 (fun _ => rfl) fun _ => ?_
  refine ite2 (fun _ => rfl) fun _ => ?_
  refine ite2 (fun _ => rfl) fun _ => ?_
  refine ite2 (fun _ => rfl) fun _ => ?_
  refine ite2 (fun _ => rfl) fun _ => ?_
  refine ite2 (fun _ => rfl) fun _ => ?_
  refine ite2 (fun _ => rfl) fun _ => ?_
  refine ite2 (fun _ => rfl) fun _ => ?_
  refine ite2 (fun _ => rfl) fun _ => ?_
  refine ite2 (fun _ => rfl) fun _ => ?_
  refine ite2 (fun _ => rfl) fun _ => ?_
  refine ite2 (fun _ => rfl) fun _ => ?_
  refine ite2 (fun _ => rfl) fun _ => ?_
  refine ite2 (fun _ => rfl) fun _ => ?_
  refine ite2 (fun _ => rfl) fun _ => ?_
  refine ite2 (fun _ => rfl) fun _ => ?_
  refine ite2 (fun _ => rfl) fun _ => ?_
  refine ite2 (fun hq => absurd hq (by omega)) fun _ => ?_
  refine ite2 (fun _ => rfl) fun _ => ?_
  refine ite2 (fun _ => rfl) fun _ => ?_
  refine ite2 (fun _ => rfl) fun _ => ?_
  refine ite2 (fun _ => rfl) fun _ => ?_
  show cCh _ (SO s _) _ = cCh _ (if 301 + 4 * ((q - 301) / 4) = _ then _ else _) _; rw [if_neg (by omega)]; rfl
theorem S_O287_in {v : tO} {q : Nat} (hq : 287 ≤ q ∧ q < 291) : cS (wSO s 287 v) q = cCh 287 v (q - 287) := by
  unfold cS
  rw [if_neg (show ¬ q < 1 by omega)]
  rw [if_neg (show ¬ q < 2 by omega)]
  rw [if_neg (show ¬ q < 4 by omega)]
  rw [if_neg (show ¬ q < 20 by omega)]
  rw [if_neg (show ¬ q < 23 by omega)]
  rw [if_neg (show ¬ q < 24 by omega)]
  rw [if_neg (show ¬ q < 40 by omega)]
  rw [if_neg (show ¬ q < 56 by omega)]
  rw [if_neg (show ¬ q < 72 by omega)]
  rw [if_neg (show ¬ q < 73 by omega)]
  rw [if_neg (show ¬ q < 74 by omega)]
  rw [if_neg (show ¬ q < 234 by omega)]
  rw [if_neg (show ¬ q < 239 by omega)]
  rw [if_neg (show ¬ q < 240 by omega)]
  rw [if_neg (show ¬ q < 256 by omega)]
  rw [if_neg (show ¬ q < 272 by omega)]
  rw [if_neg (show ¬ q < 275 by omega)]
  rw [if_neg (show ¬ q < 278 by omega)]
  rw [if_neg (show ¬ q < 282 by omega)]
  rw [if_neg (show ¬ q < 283 by omega)]
  rw [if_neg (show ¬ q < 287 by omega)]
  rw [if_pos (show q < 291 by omega)]
  exact rfl
theorem S_O287 {v : tO} : pCh 287 v (pS s h) = pS (wSO s 287 v) h := by
  have e := pC_in (b := 0) (n := 317) (o := 287) (n2 := 4) (f := cS s) (g := cCh 287 v) (f2 := cS (wSO s 287 v)) (h := h) (by decide) (fun q hi => by
    by_cases hq : 287 ≤ q ∧ q < 291
    · rw [if_pos hq]; exact S_O287_in hq
    · rw [if_neg hq]; exact (S_O287_out hi hq).symm)
  rw [Nat.zero_add] at e
  exact e
theorem S_O291_out {v : tO} {q : Nat} (hi : q < 317) (hq : ¬ (291 ≤ q ∧ q < 295)) : cS s q = cS (wSO s 291 v) q := by
  unfold cS
  refine ite2 (fun _ => rfl) fun _ => ?_
  refine ite2 (fun _ => rfl) fun _ => ?_
  refine ite2 (fun _ => rfl) fun _ => ?_
  refine ite2 (fun _ => rfl) fun _ => ?_
  refine ite2 (fun _ => rfl) fun _ => ?_
  refine ite2 (fun _ => rfl) fun _ => ?_
  refine ite2 (fun _ => rfl) fun _ => ?_
  refine ite2 (fun _ => rfl) fun _ => ?_
  refine ite2 (fun _ => rfl) fun _ => ?_
  refine ite2 (fun _ => rfl) fun _ => ?_
  refine ite2 (fun _ => rfl) fun _ => ?_
  refine ite2 (fun _ => rfl) fun _ => ?_
  refine ite2 (fun _ => rfl) fun _ => ?_
  refine ite2 (fun _ => rfl) fun _ => ?_
  refine ite2 (fun _ => rfl) fun _ => ?_
  refine ite2 (fun _ => rfl) fun _ => ?_
  refine ite2 (fun _ => rfl) fun _ => ?_
  refine ite2 (fun _ => rfl) fun _ => ?_
  refine ite2 (fun _ => rfl) fun _ => ?_
  refine ite2 (fun _ => rfl) fun _ => ?_
  refine ite2 (fun _ => rfl) fun _ => ?_
  refine ite2 (fun _ => rfl) fun _ => ?_
  refine ite2 (fun hq => absurd hq (by omega)) fun _ => ?_
  refine ite2 (fun _ => rfl) fun _ => ?_
  refine ite2 (fun _ => rfl) fun _ => ?_
  refine ite2 (fun _ => rfl) fun _ => ?_
  show cCh _ (SO s _) _ = cCh _ (if 301 + 4 * ((q - 301) / 4) = _ then _ else _) _; rw [if_neg (by omega)]; rfl
theorem S_O291_in {v : tO} {q : Nat} (hq : 291 ≤ q ∧ q < 295) : cS (wSO s 291 v) q = cCh 291 v (q - 291) := by
  unfold cS
  rw [if_neg (show ¬ q < 1 by omega)]
  rw [if_neg (show ¬ q < 2 by omega)]
  rw [if_neg (show ¬ q < 4 by omega)]
  rw [if_neg (show ¬ q < 20 by omega)]
  rw [if_neg (show ¬ q < 23 by omega)]
  rw [if_neg (show ¬ q < 24 by omega)]
  rw [if_neg (show ¬ q < 40 by omega)]
  rw [if_neg (show ¬ q < 56 by omega)]
  rw [if_neg (show ¬ q < 72 by omega)]
  rw [if_neg (show ¬ q < 73 by omega)]
  rw [if_neg (show ¬ q < 74 by omega)]
  rw [if_neg (show ¬ q < 234 by omega)]
  rw [if_neg (show ¬ q < 239 by omega)]
  rw [if_neg (show ¬ q < 240 by omega)]
  rw [if_neg (show ¬ q < 256 by omega)]
  rw [if_neg (show ¬ q < 272 by omega)]
  rw [if_neg (show ¬ q < 275 by omega)]
  rw [if_neg (show ¬ q < 278 by omega)]
  rw [if_neg (show ¬ q < 282 by omega)]
  rw [if_neg (show ¬ q < 283 by omega)]
  rw [if_neg (show ¬ q < 287 by omega)]
  rw [if_neg (show ¬ q < 291 by omega)]
  rw [if_pos (show q < 295 by omega)]
  exact rfl
theorem S_O291 {v : tO} : pCh 291 v (pS s h) = pS (wSO s 291 v) h := by
  have e := pC_in (b := 0) (n := 317) (o := 291) (n2 := 4) (f := cS s) (g := cCh 291 v) (f2 := cS (wSO s 291 v)) (h := h) (by decide) (fun q hi => by
    by_cases hq : 291 ≤ q ∧ q < 295
    · rw [if_pos hq]; exact S_O291_in hq
    · rw [if_neg hq]; exact (S_O291_out hi hq).symm)
  rw [Nat.zero_add] at e
  exact e
theorem S_O295_out {v : tO} {q : Nat} (hi : q < 317) (hq : ¬ (295 ≤ q ∧ q < 299)) : cS s q = cS (wSO s 295 v) q := by
  unfold cS
  refine ite2 (fun _ => rfl) fun _ => ?_
  refine ite2 (fun _ => rfl) fun _ => ?_
  refine ite2 (fun _ => rfl) fun _ => ?_
  refine ite2 (fun _ => rfl) fun _ => ?_
  refine ite2 (fun _ => rfl) fun _ => ?_
  refine ite2 (fun _ => rfl) fun _ => ?_
  refine ite2 (fun _ => rfl) fun _ => ?_
  refine ite2 (fun _ => rfl) fun _ => ?_
  refine ite2 (fun _ => rfl) fun _ => ?_
  refine ite2 (fun _ => rfl) fun _ => ?_
  refine ite2 (fun _ => rfl) fun _ => ?_
  refine ite2 (fun _ => rfl) fun _ => ?_
  refine ite2 (fun _ => rfl) fun _ => ?_
  refine ite2 (fun _ => rfl) fun _ => ?_
  refine ite2 (fun _ => rfl) fun _ => ?_
  refine ite2 (fun _ => rfl) fun _ => ?_
  refine ite2 (fun _ => rfl) fun _ => ?_
  refine ite2 (fun _ => rfl) fun _ => ?_
  refine ite2 (fun _ => rfl) fun _ => ?_
  refine ite2 (fun _ => rfl) fun _ => ?_
  refine ite2 (fun _ => rfl) fun _ => ?_
  refine ite2 (fun _ => rfl) fun _ => ?_
  refine ite2 (fun _ => rfl) fun _ => ?_
  refine ite2 (fun hq => absurd hq (by omega)) fun _ => ?_
  refine ite2 (fun _ => rfl) fun _ => ?_
  refine ite2 (fun _ => rfl) fun _ => ?_
  show cCh _ (SO s _) _ = cCh _ (if 301 + 4 * ((q - 301) / 4) = _ then _ else _) _; rw [if_neg (by omega)]; rfl
theorem S_O295_in {v : tO} {q : Nat} (hq : 295 ≤ q ∧ q < 299) : cS (wSO s 295 v) q = cCh 295 v (q - 295) := by
  unfold cS
  rw [if_neg (show ¬ q < 1 by omega)]
  rw [if_neg (show ¬ q < 2 by omega)]
  rw [if_neg (show ¬ q < 4 by omega)]
  rw [if_neg (show ¬ q < 20 by omega)]
  rw [if_neg (show ¬ q < 23 by omega)]
  rw [if_neg (show ¬ q < 24 by omega)]
  rw [if_neg (show ¬ q < 40 by omega)]
  rw [if_neg (show ¬ q < 56 by omega)]
  rw [if_neg (show ¬ q < 72 by omega)]
  rw [if_neg (show ¬ q < 73 by omega)]
  rw [if_neg (show ¬ q < 74 by omega)]
  rw [if_neg (show ¬ q < 234 by omega)]
  rw [if_neg (show ¬ q < 239 by omega)]
  rw [if_neg (show ¬ q < 240 by omega)]
  rw [if_neg (show ¬ q < 256 by omega)]
  rw [if_neg (show ¬ q < 272 by omega)]
  rw [if_neg (show ¬ q < 275 by omega)]
  rw [if_neg (show ¬ q < 278 by omega)]
  rw [if_neg (show ¬ q < 282 by omega)]
  rw [if_neg (show ¬ q < 283 by omega)]
  rw [if_neg (show ¬ q < 287 by omega)]
  rw [if_neg (show ¬ q < 291 by omega)]
  rw [if_neg (show ¬ q < 295 by omega)]
  rw [if_pos (show q < 299 by omega)]
  exact rfl
theorem S_O295 {v : tO} : pCh 295 v (pS s h) = pS (wSO s 295 v) h := by
  have e := pC_in (b := 0) (n := 317) (o := 295) (n2 := 4) (f := cS s) (g := cCh 295 v) (f2 := cS (wSO s 295 v)) (h := h) (by decide) (fun q hi => by
    by_cases hq : 295 ≤ q ∧ q < 299
    · rw [if_pos hq]; exact S_O295_in hq
    · rw [if_neg hq]; exact (S_O295_out hi hq).symm)
  rw [Nat.zero_add] at e
  exact e
theorem S_YA_out {v : tY} {j q : Nat} (hj : j < 10) (hi : q < 317) (hq : ¬ ((74 + 16 * j) ≤ q ∧ q < (74 + 16 * j) + 16)) : cS s q = cS (wSY s (74 + 16 * j) v) q := by
  unfold cS
  refine ite2 (fun _ => by exact rfl) fun _ => ?_
  refine ite2 (fun _ => by exact rfl) fun _ => ?_
  refine ite2 (fun _ => by exact rfl) fun _ => ?_
  refine ite2 (fun _ => by show cY _ (SY s _) _ = cY _ (if 4 = _ then _ else _) _; rw [if_neg (by omega)]; rfl) fun _ => ?_
  refine ite2 (fun _ => by exact rfl) fun _ => ?_
  refine ite2 (fun _ => by exact rfl) fun _ => ?_
  refine ite2 (fun _ => by show cY _ (SY s _) _ = cY _ (if 24 = _ then _ else _) _; rw [if_neg (by omega)]; rfl) fun _ => ?_
  refine ite2 (fun _ => by show cY _ (SY s _) _ = cY _ (if 40 = _ then _ else _) _; rw [if_neg (by omega)]; rfl) fun _ => ?_
  refine ite2 (fun _ => by show cY _ (SY s _) _ = cY _ (if 56 = _ then _ else _) _; rw [if_neg (by omega)]; rfl) fun _ => ?_
  refine ite2 (fun _ => by exact rfl) fun _ => ?_
  refine ite2 (fun _ => by exact rfl) fun _ => ?_
  refine ite2 (fun _ => by show cY _ (SY s _) _ = cY _ (if 74 + 16 * ((q - 74) / 16) = _ then _ else _) _; rw [if_neg (by omega)]; rfl) fun _ => ?_
  refine ite2 (fun _ => by exact rfl) fun _ => ?_
  refine ite2 (fun _ => by exact rfl) fun _ => ?_
  refine ite2 (fun _ => by show cY _ (SY s _) _ = cY _ (if 240 = _ then _ else _) _; rw [if_neg (by omega)]; rfl) fun _ => ?_
  refine ite2 (fun _ => by show cY _ (SY s _) _ = cY _ (if 256 = _ then _ else _) _; rw [if_neg (by omega)]; rfl) fun _ => ?_
  refine ite2 (fun _ => by exact rfl) fun _ => ?_
  refine ite2 (fun _ => by exact rfl) fun _ => ?_
  refine ite2 (fun _ => by exact rfl) fun _ => ?_
  refine ite2 (fun _ => by exact rfl) fun _ => ?_
  refine ite2 (fun _ => by exact rfl) fun _ => ?_
  refine ite2 (fun _ => by exact rfl) fun _ => ?_
  refine ite2 (fun _ => by exact rfl) fun _ => ?_
  refine ite2 (fun _ => by exact rfl) fun _ => ?_
  refine ite2 (fun _ => by exact rfl) fun _ => ?_
  refine ite2 (fun _ => by exact rfl) fun _ => ?_
  exact rfl
theorem S_YA_in {v : tY} {j q : Nat} (hj : j < 10) (hq : (74 + 16 * j) ≤ q ∧ q < (74 + 16 * j) + 16) : cS (wSY s (74 + 16 * j) v) q = cY (74 + 16 * j) v (q - (74 + 16 * j)) := by
  unfold cS
  rw [if_neg (show ¬ q < 1 by omega)]
  rw [if_neg (show ¬ q < 2 by omega)]
  rw [if_neg (show ¬ q < 4 by omega)]
  rw [if_neg (show ¬ q < 20 by omega)]
  rw [if_neg (show ¬ q < 23 by omega)]
  rw [if_neg (show ¬ q < 24 by omega)]
  rw [if_neg (show ¬ q < 40 by omega)]
  rw [if_neg (show ¬ q < 56 by omega)]
  rw [if_neg (show ¬ q < 72 by omega)]
  rw [if_neg (show ¬ q < 73 by omega)]
  rw [if_neg (show ¬ q < 74 by omega)]
  rw [if_pos (show q < 234 by omega)]
  have e : (q - 74) / 16 = j := by omega
  have e2 : (q - 74) % 16 = q - (74 + 16 * j) := by omega
  show cY _ (if 74 + 16 * ((q - 74) / 16) = (74 + 16 * j) then v else _) _ = _
  rw [e, e2, if_pos rfl]
theorem S_YA {v : tY} {j : Nat} (hj : j < 10) : pY (74 + 16 * j) v (pS s h) = pS (wSY s (74 + 16 * j) v) h := by
  have e := pC_in (b := 0) (n := 317) (o := (74 + 16 * j)) (n2 := 16) (f := cS s) (g := cY (74 + 16 * j) v) (f2 := cS (wSY s (74 + 16 * j) v)) (h := h) (by omega) (fun q hi => by
    by_cases hq : (74 + 16 * j) ≤ q ∧ q < (74 + 16 * j) + 16
    · rw [if_pos hq]; exact S_YA_in hj hq
    · rw [if_neg hq]; exact (S_YA_out hj hi hq).symm)
  rw [Nat.zero_add] at e
  exact e
theorem S_OA_out {v : tO} {j q : Nat} (hj : j < 4) (hi : q < 317) (hq : ¬ ((301 + 4 * j) ≤ q ∧ q < (301 + 4 * j) + 4)) : cS s q = cS (wSO s (301 + 4 * j) v) q := by
  unfold cS
  refine ite2 (fun _ => by exact rfl) fun _ => ?_
  refine ite2 (fun _ => by exact rfl) fun _ => ?_
  refine ite2 (fun _ => by show cTp _ (SO s _) _ = cTp _ (if 2 = _ then _ else _) _; rw [if_neg (by omega)]; rfl) fun _ => ?_
  refine ite2 (fun _ => by exact rfl) fun _ => ?_
  refine ite2 (fun _ => by exact rfl) fun _ => ?_
  refine ite2 (fun _ => by exact rfl) fun _ => ?_
  refine ite2 (fun _ => by exact rfl) fun _ => ?_
  refine ite2 (fun _ => by exact rfl) fun _ => ?_
  refine ite2 (fun _ => by exact rfl) fun _ => ?_
  refine ite2 (fun _ => by exact rfl) fun _ => ?_
  refine ite2 (fun _ => by exact rfl) fun _ => ?_
  refine ite2 (fun _ => by exact rfl) fun _ => ?_
  refine ite2 (fun _ => by show cCo _ (SO s _) _ = cCo _ (if 234 = _ then _ else _) _; rw [if_neg (by omega)]; rfl) fun _ => ?_
  refine ite2 (fun _ => by exact rfl) fun _ => ?_
  refine ite2 (fun _ => by exact rfl) fun _ => ?_
  refine ite2 (fun _ => by exact rfl) fun _ => ?_
  refine ite2 (fun _ => by exact rfl) fun _ => ?_
  refine ite2 (fun _ => by exact rfl) fun _ => ?_
  refine ite2 (fun _ => by show cCh _ (SO s _) _ = cCh _ (if 278 = _ then _ else _) _; rw [if_neg (by omega)]; rfl) fun _ => ?_
  refine ite2 (fun _ => by exact rfl) fun _ => ?_
  refine ite2 (fun _ => by show cCh _ (SO s _) _ = cCh _ (if 283 = _ then _ else _) _; rw [if_neg (by omega)]; rfl) fun _ => ?_
  refine ite2 (fun _ => by show cCh _ (SO s _) _ = cCh _ (if 287 = _ then _ else _) _; rw [if_neg (by omega)]; rfl) fun _ => ?_
  refine ite2 (fun _ => by show cCh _ (SO s _) _ = cCh _ (if 291 = _ then _ else _) _; rw [if_neg (by omega)]; rfl) fun _ => ?_
  refine ite2 (fun _ => by show cCh _ (SO s _) _ = cCh _ (if 295 = _ then _ else _) _; rw [if_neg (by omega)]; rfl) fun _ => ?_
  refine ite2 (fun _ => by exact rfl) fun _ => ?_
  refine ite2 (fun _ => by exact rfl) fun _ => ?_
  show cCh _ (SO s _) _ = cCh _ (if 301 + 4 * ((q - 301) / 4) = _ then _ else _) _; rw [if_neg (by omega)]; rfl
theorem S_OA_in {v : tO} {j q : Nat} (hj : j < 4) (hq : (301 + 4 * j) ≤ q ∧ q < (301 + 4 * j) + 4) : cS (wSO s (301 + 4 * j) v) q = cCh (301 + 4 * j) v (q - (301 + 4 * j)) := by
  unfold cS
  rw [if_neg (show ¬ q < 1 by omega)]
  rw [if_neg (show ¬ q < 2 by omega)]
  rw [if_neg (show ¬ q < 4 by omega)]
  rw [if_neg (show ¬ q < 20 by omega)]
  rw [if_neg (show ¬ q < 23 by omega)]
  rw [if_neg (show ¬ q < 24 by omega)]
  rw [if_neg (show ¬ q < 40 by omega)]
  rw [if_neg (show ¬ q < 56 by omega)]
  rw [if_neg (show ¬ q < 72 by omega)]
  rw [if_neg (show ¬ q < 73 by omega)]
  rw [if_neg (show ¬ q < 74 by omega)]
  rw [if_neg (show ¬ q < 234 by omega)]
  rw [if_neg (show ¬ q < 239 by omega)]
  rw [if_neg (show ¬ q < 240 by omega)]
  rw [if_neg (show ¬ q < 256 by omega)]
  rw [if_neg (show ¬ q < 272 by omega)]
  rw [if_neg (show ¬ q < 275 by omega)]
  rw [if_neg (show ¬ q < 278 by omega)]
  rw [if_neg (show ¬ q < 282 by omega)]
  rw [if_neg (show ¬ q < 283 by omega)]
  rw [if_neg (show ¬ q < 287 by omega)]
  rw [if_neg (show ¬ q < 291 by omega)]
  rw [if_neg (show ¬ q < 295 by omega)]
  rw [if_neg (show ¬ q < 299 by omega)]
  rw [if_neg (show ¬ q < 300 by omega)]
  rw [if_neg (show ¬ q < 301 by omega)]
  have e : (q - 301) / 4 = j := by omega
  have e2 : (q - 301) % 4 = q - (301 + 4 * j) := by omega
  show cCh _ (if 301 + 4 * ((q - 301) / 4) = (301 + 4 * j) then v else _) _ = _
  rw [e, e2, if_pos rfl]
theorem S_OA {v : tO} {j : Nat} (hj : j < 4) : pCh (301 + 4 * j) v (pS s h) = pS (wSO s (301 + 4 * j) v) h := by
  have e := pC_in (b := 0) (n := 317) (o := (301 + 4 * j)) (n2 := 4) (f := cS s) (g := cCh (301 + 4 * j) v) (f2 := cS (wSO s (301 + 4 * j) v)) (h := h) (by omega) (fun q hi => by
    by_cases hq : (301 + 4 * j) ≤ q ∧ q < (301 + 4 * j) + 4
    · rw [if_pos hq]; exact S_OA_in hj hq
    · rw [if_neg hq]; exact (S_OA_out hj hi hq).symm)
  rw [Nat.zero_add] at e
  exact e
theorem hgS0 : hg (pS s h) 0 = .inr (8, [.ref 1, .ref 2, .ref 24, .ref 40, .ref 56, .int (iB (eB (SG s) 5)), .ref 72, .ref 234, .ref 239, .ref 283, .ref 287, .ref 291, .ref 295, .ref 299, .ref 300]) := (hgC (b := 0) (j := 0) (by decide)).trans rfl
theorem S_ob0 {c : Nat} : (oO (pS s h) 0 fun c' _ => c' = c) ↔ 8 = c := by unfold oO; rw [hgS0]
theorem S_g0_0 {f : Value → Prop} : fG (pS s h) 0 8 0 f ↔ f (.ref 1) := by unfold fG oO; rw [hgS0]; exact ⟨fun z => z.2, fun z => ⟨rfl, z⟩⟩
theorem S_g0_1 {f : Value → Prop} : fG (pS s h) 0 8 1 f ↔ f (.ref 2) := by unfold fG oO; rw [hgS0]; exact ⟨fun z => z.2, fun z => ⟨rfl, z⟩⟩
theorem S_g0_2 {f : Value → Prop} : fG (pS s h) 0 8 2 f ↔ f (.ref 24) := by unfold fG oO; rw [hgS0]; exact ⟨fun z => z.2, fun z => ⟨rfl, z⟩⟩
theorem S_g0_3 {f : Value → Prop} : fG (pS s h) 0 8 3 f ↔ f (.ref 40) := by unfold fG oO; rw [hgS0]; exact ⟨fun z => z.2, fun z => ⟨rfl, z⟩⟩
theorem S_g0_4 {f : Value → Prop} : fG (pS s h) 0 8 4 f ↔ f (.ref 56) := by unfold fG oO; rw [hgS0]; exact ⟨fun z => z.2, fun z => ⟨rfl, z⟩⟩
theorem S_g0_5 {f : Value → Prop} : fG (pS s h) 0 8 5 f ↔ f (.int (iB (eB (SG s) 5))) := by unfold fG oO; rw [hgS0]; exact ⟨fun z => z.2, fun z => ⟨rfl, z⟩⟩
theorem S_g0_6 {f : Value → Prop} : fG (pS s h) 0 8 6 f ↔ f (.ref 72) := by unfold fG oO; rw [hgS0]; exact ⟨fun z => z.2, fun z => ⟨rfl, z⟩⟩
theorem S_g0_7 {f : Value → Prop} : fG (pS s h) 0 8 7 f ↔ f (.ref 234) := by unfold fG oO; rw [hgS0]; exact ⟨fun z => z.2, fun z => ⟨rfl, z⟩⟩
theorem S_g0_8 {f : Value → Prop} : fG (pS s h) 0 8 8 f ↔ f (.ref 239) := by unfold fG oO; rw [hgS0]; exact ⟨fun z => z.2, fun z => ⟨rfl, z⟩⟩
theorem S_g0_9 {f : Value → Prop} : fG (pS s h) 0 8 9 f ↔ f (.ref 283) := by unfold fG oO; rw [hgS0]; exact ⟨fun z => z.2, fun z => ⟨rfl, z⟩⟩
theorem S_g0_10 {f : Value → Prop} : fG (pS s h) 0 8 10 f ↔ f (.ref 287) := by unfold fG oO; rw [hgS0]; exact ⟨fun z => z.2, fun z => ⟨rfl, z⟩⟩
theorem S_g0_11 {f : Value → Prop} : fG (pS s h) 0 8 11 f ↔ f (.ref 291) := by unfold fG oO; rw [hgS0]; exact ⟨fun z => z.2, fun z => ⟨rfl, z⟩⟩
theorem S_g0_12 {f : Value → Prop} : fG (pS s h) 0 8 12 f ↔ f (.ref 295) := by unfold fG oO; rw [hgS0]; exact ⟨fun z => z.2, fun z => ⟨rfl, z⟩⟩
theorem S_g0_13 {f : Value → Prop} : fG (pS s h) 0 8 13 f ↔ f (.ref 299) := by unfold fG oO; rw [hgS0]; exact ⟨fun z => z.2, fun z => ⟨rfl, z⟩⟩
theorem S_g0_14 {f : Value → Prop} : fG (pS s h) 0 8 14 f ↔ f (.ref 300) := by unfold fG oO; rw [hgS0]; exact ⟨fun z => z.2, fun z => ⟨rfl, z⟩⟩
theorem hgS1 : hg (pS s h) 1 = .inr (4, [.ref 2, .ref 4, .ref 20, .ref 23, .int (nI (eN (SG s) 104))]) := (hgC (b := 0) (j := 1) (by decide)).trans rfl
theorem S_ob1 {c : Nat} : (oO (pS s h) 1 fun c' _ => c' = c) ↔ 4 = c := by unfold oO; rw [hgS1]
theorem S_g1_0 {f : Value → Prop} : fG (pS s h) 1 4 0 f ↔ f (.ref 2) := by unfold fG oO; rw [hgS1]; exact ⟨fun z => z.2, fun z => ⟨rfl, z⟩⟩
theorem S_g1_1 {f : Value → Prop} : fG (pS s h) 1 4 1 f ↔ f (.ref 4) := by unfold fG oO; rw [hgS1]; exact ⟨fun z => z.2, fun z => ⟨rfl, z⟩⟩
theorem S_g1_2 {f : Value → Prop} : fG (pS s h) 1 4 2 f ↔ f (.ref 20) := by unfold fG oO; rw [hgS1]; exact ⟨fun z => z.2, fun z => ⟨rfl, z⟩⟩
theorem S_g1_3 {f : Value → Prop} : fG (pS s h) 1 4 3 f ↔ f (.ref 23) := by unfold fG oO; rw [hgS1]; exact ⟨fun z => z.2, fun z => ⟨rfl, z⟩⟩
theorem S_g1_4 {f : Value → Prop} : fG (pS s h) 1 4 4 f ↔ f (.int (nI (eN (SG s) 104))) := by unfold fG oO; rw [hgS1]; exact ⟨fun z => z.2, fun z => ⟨rfl, z⟩⟩
theorem hgS72 : hg (pS s h) 72 = .inr (0, [.ref 73, .int (nI (eN (SG s) 201)), .int (nI (eN (SG s) 202))]) := (hgC (b := 0) (j := 72) (by decide)).trans rfl
theorem S_ob72 {c : Nat} : (oO (pS s h) 72 fun c' _ => c' = c) ↔ 0 = c := by unfold oO; rw [hgS72]
theorem S_g72_0 {f : Value → Prop} : fG (pS s h) 72 0 0 f ↔ f (.ref 73) := by unfold fG oO; rw [hgS72]; exact ⟨fun z => z.2, fun z => ⟨rfl, z⟩⟩
theorem S_g72_1 {f : Value → Prop} : fG (pS s h) 72 0 1 f ↔ f (.int (nI (eN (SG s) 201))) := by unfold fG oO; rw [hgS72]; exact ⟨fun z => z.2, fun z => ⟨rfl, z⟩⟩
theorem S_g72_2 {f : Value → Prop} : fG (pS s h) 72 0 2 f ↔ f (.int (nI (eN (SG s) 202))) := by unfold fG oO; rw [hgS72]; exact ⟨fun z => z.2, fun z => ⟨rfl, z⟩⟩
theorem hgS239 : hg (pS s h) 239 = .inr (5, [.ref 240, .ref 256, .ref 272, .ref 275, .ref 278, .ref 282, .int (nI (eN (SG s) 306))]) := (hgC (b := 0) (j := 239) (by decide)).trans rfl
theorem S_ob239 {c : Nat} : (oO (pS s h) 239 fun c' _ => c' = c) ↔ 5 = c := by unfold oO; rw [hgS239]
theorem S_g239_0 {f : Value → Prop} : fG (pS s h) 239 5 0 f ↔ f (.ref 240) := by unfold fG oO; rw [hgS239]; exact ⟨fun z => z.2, fun z => ⟨rfl, z⟩⟩
theorem S_g239_1 {f : Value → Prop} : fG (pS s h) 239 5 1 f ↔ f (.ref 256) := by unfold fG oO; rw [hgS239]; exact ⟨fun z => z.2, fun z => ⟨rfl, z⟩⟩
theorem S_g239_2 {f : Value → Prop} : fG (pS s h) 239 5 2 f ↔ f (.ref 272) := by unfold fG oO; rw [hgS239]; exact ⟨fun z => z.2, fun z => ⟨rfl, z⟩⟩
theorem S_g239_3 {f : Value → Prop} : fG (pS s h) 239 5 3 f ↔ f (.ref 275) := by unfold fG oO; rw [hgS239]; exact ⟨fun z => z.2, fun z => ⟨rfl, z⟩⟩
theorem S_g239_4 {f : Value → Prop} : fG (pS s h) 239 5 4 f ↔ f (.ref 278) := by unfold fG oO; rw [hgS239]; exact ⟨fun z => z.2, fun z => ⟨rfl, z⟩⟩
theorem S_g239_5 {f : Value → Prop} : fG (pS s h) 239 5 5 f ↔ f (.ref 282) := by unfold fG oO; rw [hgS239]; exact ⟨fun z => z.2, fun z => ⟨rfl, z⟩⟩
theorem S_g239_6 {f : Value → Prop} : fG (pS s h) 239 5 6 f ↔ f (.int (nI (eN (SG s) 306))) := by unfold fG oO; rw [hgS239]; exact ⟨fun z => z.2, fun z => ⟨rfl, z⟩⟩
theorem hsS0_5_out {v : Bool} {q : Nat} (hq : ¬ q = 0) (hi : q < 317) : cS (wSG s (vB (SG s) 5 v)) q = cS s q := by
  unfold cS
  refine ite2 (fun hq => absurd hq (by omega)) fun _ => ?_
  refine ite2 (fun _ => rfl) fun _ => ?_
  refine ite2 (fun _ => rfl) fun _ => ?_
  refine ite2 (fun _ => rfl) fun _ => ?_
  refine ite2 (fun _ => rfl) fun _ => ?_
  refine ite2 (fun _ => rfl) fun _ => ?_
  refine ite2 (fun _ => rfl) fun _ => ?_
  refine ite2 (fun _ => rfl) fun _ => ?_
  refine ite2 (fun _ => rfl) fun _ => ?_
  refine ite2 (fun _ => rfl) fun _ => ?_
  refine ite2 (fun _ => rfl) fun _ => ?_
  refine ite2 (fun _ => rfl) fun _ => ?_
  refine ite2 (fun _ => rfl) fun _ => ?_
  refine ite2 (fun _ => rfl) fun _ => ?_
  refine ite2 (fun _ => rfl) fun _ => ?_
  refine ite2 (fun _ => rfl) fun _ => ?_
  refine ite2 (fun _ => rfl) fun _ => ?_
  refine ite2 (fun _ => rfl) fun _ => ?_
  refine ite2 (fun _ => rfl) fun _ => ?_
  refine ite2 (fun _ => rfl) fun _ => ?_
  refine ite2 (fun _ => rfl) fun _ => ?_
  refine ite2 (fun _ => rfl) fun _ => ?_
  refine ite2 (fun _ => rfl) fun _ => ?_
  refine ite2 (fun _ => rfl) fun _ => ?_
  refine ite2 (fun _ => rfl) fun _ => ?_
  refine ite2 (fun _ => rfl) fun _ => ?_
  exact rfl
theorem hsS0_5 {v : Bool} : hs (pS s h) 0 (.inr (8, [.ref 1, .ref 2, .ref 24, .ref 40, .ref 56, .int (iB v), .ref 72, .ref 234, .ref 239, .ref 283, .ref 287, .ref 291, .ref 295, .ref 299, .ref 300])) = pS (wSG s (vB (SG s) 5 v)) h := hsC (b := 0) (j := 0) (by decide) fun q hi => by
  by_cases hq : q = 0
  · rw [if_pos hq, hq]; exact rfl
  · rw [if_neg hq]; exact hsS0_5_out hq hi
theorem S_s0_5 {v : Bool} {f : sH → Prop} : fS (pS s h) 0 8 5 (.int (iB v)) f ↔ f (pS (wSG s (vB (SG s) 5 v)) h) := fS_of hgS0 (Nat.le_of_ble_eq_true rfl) (nbB.mpr trivial) (by cases v <;> rfl) hsS0_5
theorem S_s0_5t {f : sH → Prop} : fS (pS s h) 0 8 5 (.int (nI 1)) f ↔ f (pS (wSG s (vB (SG s) 5 true)) h) := S_s0_5 (v := true)
theorem S_s0_5f {f : sH → Prop} : fS (pS s h) 0 8 5 (.int (nI 0)) f ↔ f (pS (wSG s (vB (SG s) 5 false)) h) := S_s0_5 (v := false)
theorem hsS1_4_out {v : Nat} {q : Nat} (hq : ¬ q = 1) (hi : q < 317) : cS (wSG s (vN (SG s) 104 v)) q = cS s q := by
  unfold cS
  refine ite2 (fun _ => rfl) fun _ => ?_
  refine ite2 (fun hq => absurd hq (by omega)) fun _ => ?_
  refine ite2 (fun _ => rfl) fun _ => ?_
  refine ite2 (fun _ => rfl) fun _ => ?_
  refine ite2 (fun _ => rfl) fun _ => ?_
  refine ite2 (fun _ => rfl) fun _ => ?_
  refine ite2 (fun _ => rfl) fun _ => ?_
  refine ite2 (fun _ => rfl) fun _ => ?_
  refine ite2 (fun _ => rfl) fun _ => ?_
  refine ite2 (fun _ => rfl) fun _ => ?_
  refine ite2 (fun _ => rfl) fun _ => ?_
  refine ite2 (fun _ => rfl) fun _ => ?_
  refine ite2 (fun _ => rfl) fun _ => ?_
  refine ite2 (fun _ => rfl) fun _ => ?_
  refine ite2 (fun _ => rfl) fun _ => ?_
  refine ite2 (fun _ => rfl) fun _ => ?_
  refine ite2 (fun _ => rfl) fun _ => ?_
  refine ite2 (fun _ => rfl) fun _ => ?_
  refine ite2 (fun _ => rfl) fun _ => ?_
  refine ite2 (fun _ => rfl) fun _ => ?_
  refine ite2 (fun _ => rfl) fun _ => ?_
  refine ite2 (fun _ => rfl) fun _ => ?_
  refine ite2 (fun _ => rfl) fun _ => ?_
  refine ite2 (fun _ => rfl) fun _ => ?_
  refine ite2 (fun _ => rfl) fun _ => ?_
  refine ite2 (fun _ => rfl) fun _ => ?_
  exact rfl
theorem hsS1_4 {v : Nat} : hs (pS s h) 1 (.inr (4, [.ref 2, .ref 4, .ref 20, .ref 23, .int (nI v)])) = pS (wSG s (vN (SG s) 104 v)) h := hsC (b := 0) (j := 1) (by decide) fun q hi => by
  by_cases hq : q = 1
  · rw [if_pos hq, hq]; exact rfl
  · rw [if_neg hq]; exact hsS1_4_out hq hi
theorem S_s1_4 {v : Nat} {f : sH → Prop} : fS (pS s h) 1 4 4 (.int (nI v)) f ↔ f (pS (wSG s (vN (SG s) 104 v)) h) := fS_of hgS1 (Nat.le_of_ble_eq_true rfl) rfl rfl hsS1_4
theorem hsS72_1_out {v : Nat} {q : Nat} (hq : ¬ q = 72) (hi : q < 317) : cS (wSG s (vN (SG s) 201 v)) q = cS s q := by
  unfold cS
  refine ite2 (fun _ => rfl) fun _ => ?_
  refine ite2 (fun _ => rfl) fun _ => ?_
  refine ite2 (fun _ => rfl) fun _ => ?_
  refine ite2 (fun _ => rfl) fun _ => ?_
  refine ite2 (fun _ => rfl) fun _ => ?_
  refine ite2 (fun _ => rfl) fun _ => ?_
  refine ite2 (fun _ => rfl) fun _ => ?_
  refine ite2 (fun _ => rfl) fun _ => ?_
  refine ite2 (fun _ => rfl) fun _ => ?_
  refine ite2 (fun hq => absurd hq (by omega)) fun _ => ?_
  refine ite2 (fun _ => rfl) fun _ => ?_
  refine ite2 (fun _ => rfl) fun _ => ?_
  refine ite2 (fun _ => rfl) fun _ => ?_
  refine ite2 (fun _ => rfl) fun _ => ?_
  refine ite2 (fun _ => rfl) fun _ => ?_
  refine ite2 (fun _ => rfl) fun _ => ?_
  refine ite2 (fun _ => rfl) fun _ => ?_
  refine ite2 (fun _ => rfl) fun _ => ?_
  refine ite2 (fun _ => rfl) fun _ => ?_
  refine ite2 (fun _ => rfl) fun _ => ?_
  refine ite2 (fun _ => rfl) fun _ => ?_
  refine ite2 (fun _ => rfl) fun _ => ?_
  refine ite2 (fun _ => rfl) fun _ => ?_
  refine ite2 (fun _ => rfl) fun _ => ?_
  refine ite2 (fun _ => rfl) fun _ => ?_
  refine ite2 (fun _ => rfl) fun _ => ?_
  exact rfl
theorem hsS72_1 {v : Nat} : hs (pS s h) 72 (.inr (0, [.ref 73, .int (nI v), .int (nI (eN (SG s) 202))])) = pS (wSG s (vN (SG s) 201 v)) h := hsC (b := 0) (j := 72) (by decide) fun q hi => by
  by_cases hq : q = 72
  · rw [if_pos hq, hq]; exact rfl
  · rw [if_neg hq]; exact hsS72_1_out hq hi
theorem S_s72_1 {v : Nat} {f : sH → Prop} : fS (pS s h) 72 0 1 (.int (nI v)) f ↔ f (pS (wSG s (vN (SG s) 201 v)) h) := fS_of hgS72 (Nat.le_of_ble_eq_true rfl) rfl rfl hsS72_1
theorem hsS72_2_out {v : Nat} {q : Nat} (hq : ¬ q = 72) (hi : q < 317) : cS (wSG s (vN (SG s) 202 v)) q = cS s q := by
  unfold cS
  refine ite2 (fun _ => rfl) fun _ => ?_
  refine ite2 (fun _ => rfl) fun _ => ?_
  refine ite2 (fun _ => rfl) fun _ => ?_
  refine ite2 (fun _ => rfl) fun _ => ?_
  refine ite2 (fun _ => rfl) fun _ => ?_
  refine ite2 (fun _ => rfl) fun _ => ?_
  refine ite2 (fun _ => rfl) fun _ => ?_
  refine ite2 (fun _ => rfl) fun _ => ?_
  refine ite2 (fun _ => rfl) fun _ => ?_
  refine ite2 (fun hq => absurd hq (by omega)) fun _ => ?_
  refine ite2 (fun _ => rfl) fun _ => ?_
  refine ite2 (fun _ => rfl) fun _ => ?_
  refine ite2 (fun _ => rfl) fun _ => ?_
  refine ite2 (fun _ => rfl) fun _ => ?_
  refine ite2 (fun _ => rfl) fun _ => ?_
  refine ite2 (fun _ => rfl) fun _ => ?_
  refine ite2 (fun _ => rfl) fun _ => ?_
  refine ite2 (fun _ => rfl) fun _ => ?_
  refine ite2 (fun _ => rfl) fun _ => ?_
  refine ite2 (fun _ => rfl) fun _ => ?_
  refine ite2 (fun _ => rfl) fun _ => ?_
  refine ite2 (fun _ => rfl) fun _ => ?_
  refine ite2 (fun _ => rfl) fun _ => ?_
  refine ite2 (fun _ => rfl) fun _ => ?_
  refine ite2 (fun _ => rfl) fun _ => ?_
  refine ite2 (fun _ => rfl) fun _ => ?_
  exact rfl
theorem hsS72_2 {v : Nat} : hs (pS s h) 72 (.inr (0, [.ref 73, .int (nI (eN (SG s) 201)), .int (nI v)])) = pS (wSG s (vN (SG s) 202 v)) h := hsC (b := 0) (j := 72) (by decide) fun q hi => by
  by_cases hq : q = 72
  · rw [if_pos hq, hq]; exact rfl
  · rw [if_neg hq]; exact hsS72_2_out hq hi
theorem S_s72_2 {v : Nat} {f : sH → Prop} : fS (pS s h) 72 0 2 (.int (nI v)) f ↔ f (pS (wSG s (vN (SG s) 202 v)) h) := fS_of hgS72 (Nat.le_of_ble_eq_true rfl) rfl rfl hsS72_2
theorem hsS239_6_out {v : Nat} {q : Nat} (hq : ¬ q = 239) (hi : q < 317) : cS (wSG s (vN (SG s) 306 v)) q = cS s q := by
  unfold cS
  refine ite2 (fun _ => rfl) fun _ => ?_
  refine ite2 (fun _ => rfl) fun _ => ?_
  refine ite2 (fun _ => rfl) fun _ => ?_
  refine ite2 (fun _ => rfl) fun _ => ?_
  refine ite2 (fun _ => rfl) fun _ => ?_
  refine ite2 (fun _ => rfl) fun _ => ?_
  refine ite2 (fun _ => rfl) fun _ => ?_
  refine ite2 (fun _ => rfl) fun _ => ?_
  refine ite2 (fun _ => rfl) fun _ => ?_
  refine ite2 (fun _ => rfl) fun _ => ?_
  refine ite2 (fun _ => rfl) fun _ => ?_
  refine ite2 (fun _ => rfl) fun _ => ?_
  refine ite2 (fun _ => rfl) fun _ => ?_
  refine ite2 (fun hq => absurd hq (by omega)) fun _ => ?_
  refine ite2 (fun _ => rfl) fun _ => ?_
  refine ite2 (fun _ => rfl) fun _ => ?_
  refine ite2 (fun _ => rfl) fun _ => ?_
  refine ite2 (fun _ => rfl) fun _ => ?_
  refine ite2 (fun _ => rfl) fun _ => ?_
  refine ite2 (fun _ => rfl) fun _ => ?_
  refine ite2 (fun _ => rfl) fun _ => ?_
  refine ite2 (fun _ => rfl) fun _ => ?_
  refine ite2 (fun _ => rfl) fun _ => ?_
  refine ite2 (fun _ => rfl) fun _ => ?_
  refine ite2 (fun _ => rfl) fun _ => ?_
  refine ite2 (fun _ => rfl) fun _ => ?_
  exact rfl
theorem hsS239_6 {v : Nat} : hs (pS s h) 239 (.inr (5, [.ref 240, .ref 256, .ref 272, .ref 275, .ref 278, .ref 282, .int (nI v)])) = pS (wSG s (vN (SG s) 306 v)) h := hsC (b := 0) (j := 239) (by decide) fun q hi => by
  by_cases hq : q = 239
  · rw [if_pos hq, hq]; exact rfl
  · rw [if_neg hq]; exact hsS239_6_out hq hi
theorem S_s239_6 {v : Nat} {f : sH → Prop} : fS (pS s h) 239 5 6 (.int (nI v)) f ↔ f (pS (wSG s (vN (SG s) 306 v)) h) := fS_of hgS239 (Nat.le_of_ble_eq_true rfl) rfl rfl hsS239_6
theorem hgS23 : hg (pS s h) 23 = .inl (0, 160, .inl (tr32 160 (eA (SG s) 103))) := (hgC (b := 0) (j := 23) (by decide)).trans rfl
theorem S_a23 {f : Int32 → Prop} : aG (pS s h) 23 i f ↔ vp_in i 160 ∧ f (eA (SG s) 103 i.toNatClampNeg) := by
  unfold aG oI; rw [hgS23]
  exact ⟨fun z => ⟨z.2.1, by have := z.2.2; rwa [tr_in (vp_lt z.2.1)] at this⟩, fun z => ⟨Or.inl rfl, z.1, by rw [tr_in (vp_lt z.1)]; exact z.2⟩⟩
theorem S_n23 {f : Int32 → Prop} : aL (pS s h) 23 f ↔ f (nI 160) := by
  unfold aL oA; rw [hgS23]
  exact ⟨fun z => z.2, fun z => ⟨Or.inl (by decide), z⟩⟩
theorem hsSa23_out {g : Nat → Int32} {q : Nat} (hq : ¬ q = 23) (hi : q < 317) : cS (wSG s (vA (SG s) 103 g)) q = cS s q := by
  unfold cS
  refine ite2 (fun _ => rfl) fun _ => ?_
  refine ite2 (fun _ => rfl) fun _ => ?_
  refine ite2 (fun _ => rfl) fun _ => ?_
  refine ite2 (fun _ => rfl) fun _ => ?_
  refine ite2 (fun _ => rfl) fun _ => ?_
  refine ite2 (fun hq => absurd hq (by omega)) fun _ => ?_
  refine ite2 (fun _ => rfl) fun _ => ?_
  refine ite2 (fun _ => rfl) fun _ => ?_
  refine ite2 (fun _ => rfl) fun _ => ?_
  refine ite2 (fun _ => rfl) fun _ => ?_
  refine ite2 (fun _ => rfl) fun _ => ?_
  refine ite2 (fun _ => rfl) fun _ => ?_
  refine ite2 (fun _ => rfl) fun _ => ?_
  refine ite2 (fun _ => rfl) fun _ => ?_
  refine ite2 (fun _ => rfl) fun _ => ?_
  refine ite2 (fun _ => rfl) fun _ => ?_
  refine ite2 (fun _ => rfl) fun _ => ?_
  refine ite2 (fun _ => rfl) fun _ => ?_
  refine ite2 (fun _ => rfl) fun _ => ?_
  refine ite2 (fun _ => rfl) fun _ => ?_
  refine ite2 (fun _ => rfl) fun _ => ?_
  refine ite2 (fun _ => rfl) fun _ => ?_
  refine ite2 (fun _ => rfl) fun _ => ?_
  refine ite2 (fun _ => rfl) fun _ => ?_
  refine ite2 (fun _ => rfl) fun _ => ?_
  refine ite2 (fun _ => rfl) fun _ => ?_
  exact rfl
theorem hsSa23 {g : Nat → Int32} : hs (pS s h) 23 (.inl (0, 160, .inl (tr32 160 g))) = pS (wSG s (vA (SG s) 103 g)) h := hsC (b := 0) (j := 23) (by decide) fun q hi => by
  by_cases hq : q = 23
  · rw [if_pos hq, hq]; exact rfl
  · rw [if_neg hq]; exact hsSa23_out hq hi
theorem S_w23 {f : sH → Prop} : aS (pS s h) 23 i x f ↔ vp_in i 160 ∧ f (pS (wSG s (vA (SG s) 103 (upd (eA (SG s) 103) i.toNatClampNeg x))) h) := by
  unfold aS oI; rw [hgS23]
  constructor
  · exact fun z => ⟨z.2.1, by have := z.2.2; rw [tr_upd (vp_lt z.2.1), hsSa23] at this; exact this⟩
  · exact fun z => ⟨rfl, z.1, by rw [tr_upd (vp_lt z.1), hsSa23]; exact z.2⟩
theorem hgS282 : hg (pS s h) 282 = .inl (0, 8, .inl (tr32 8 (eA (SG s) 305))) := (hgC (b := 0) (j := 282) (by decide)).trans rfl
theorem S_a282 {f : Int32 → Prop} : aG (pS s h) 282 i f ↔ vp_in i 8 ∧ f (eA (SG s) 305 i.toNatClampNeg) := by
  unfold aG oI; rw [hgS282]
  exact ⟨fun z => ⟨z.2.1, by have := z.2.2; rwa [tr_in (vp_lt z.2.1)] at this⟩, fun z => ⟨Or.inl rfl, z.1, by rw [tr_in (vp_lt z.1)]; exact z.2⟩⟩
theorem S_n282 {f : Int32 → Prop} : aL (pS s h) 282 f ↔ f (nI 8) := by
  unfold aL oA; rw [hgS282]
  exact ⟨fun z => z.2, fun z => ⟨Or.inl (by decide), z⟩⟩
theorem hsSa282_out {g : Nat → Int32} {q : Nat} (hq : ¬ q = 282) (hi : q < 317) : cS (wSG s (vA (SG s) 305 g)) q = cS s q := by
  unfold cS
  refine ite2 (fun _ => rfl) fun _ => ?_
  refine ite2 (fun _ => rfl) fun _ => ?_
  refine ite2 (fun _ => rfl) fun _ => ?_
  refine ite2 (fun _ => rfl) fun _ => ?_
  refine ite2 (fun _ => rfl) fun _ => ?_
  refine ite2 (fun _ => rfl) fun _ => ?_
  refine ite2 (fun _ => rfl) fun _ => ?_
  refine ite2 (fun _ => rfl) fun _ => ?_
  refine ite2 (fun _ => rfl) fun _ => ?_
  refine ite2 (fun _ => rfl) fun _ => ?_
  refine ite2 (fun _ => rfl) fun _ => ?_
  refine ite2 (fun _ => rfl) fun _ => ?_
  refine ite2 (fun _ => rfl) fun _ => ?_
  refine ite2 (fun _ => rfl) fun _ => ?_
  refine ite2 (fun _ => rfl) fun _ => ?_
  refine ite2 (fun _ => rfl) fun _ => ?_
  refine ite2 (fun _ => rfl) fun _ => ?_
  refine ite2 (fun _ => rfl) fun _ => ?_
  refine ite2 (fun _ => rfl) fun _ => ?_
  refine ite2 (fun hq => absurd hq (by omega)) fun _ => ?_
  refine ite2 (fun _ => rfl) fun _ => ?_
  refine ite2 (fun _ => rfl) fun _ => ?_
  refine ite2 (fun _ => rfl) fun _ => ?_
  refine ite2 (fun _ => rfl) fun _ => ?_
  refine ite2 (fun _ => rfl) fun _ => ?_
  refine ite2 (fun _ => rfl) fun _ => ?_
  exact rfl
theorem hsSa282 {g : Nat → Int32} : hs (pS s h) 282 (.inl (0, 8, .inl (tr32 8 g))) = pS (wSG s (vA (SG s) 305 g)) h := hsC (b := 0) (j := 282) (by decide) fun q hi => by
  by_cases hq : q = 282
  · rw [if_pos hq, hq]; exact rfl
  · rw [if_neg hq]; exact hsSa282_out hq hi
theorem S_w282 {f : sH → Prop} : aS (pS s h) 282 i x f ↔ vp_in i 8 ∧ f (pS (wSG s (vA (SG s) 305 (upd (eA (SG s) 305) i.toNatClampNeg x))) h) := by
  unfold aS oI; rw [hgS282]
  constructor
  · exact fun z => ⟨z.2.1, by have := z.2.2; rw [tr_upd (vp_lt z.2.1), hsSa282] at this; exact this⟩
  · exact fun z => ⟨rfl, z.1, by rw [tr_upd (vp_lt z.1), hsSa282]; exact z.2⟩
theorem hgS300 : hg (pS s h) 300 = .inl (0, 4, .inl (tr32 4 (eA (SG s) 14))) := (hgC (b := 0) (j := 300) (by decide)).trans rfl
theorem S_a300 {f : Int32 → Prop} : aG (pS s h) 300 i f ↔ vp_in i 4 ∧ f (eA (SG s) 14 i.toNatClampNeg) := by
  unfold aG oI; rw [hgS300]
  exact ⟨fun z => ⟨z.2.1, by have := z.2.2; rwa [tr_in (vp_lt z.2.1)] at this⟩, fun z => ⟨Or.inl rfl, z.1, by rw [tr_in (vp_lt z.1)]; exact z.2⟩⟩
theorem S_n300 {f : Int32 → Prop} : aL (pS s h) 300 f ↔ f (nI 4) := by
  unfold aL oA; rw [hgS300]
  exact ⟨fun z => z.2, fun z => ⟨Or.inl (by decide), z⟩⟩
theorem hsSa300_out {g : Nat → Int32} {q : Nat} (hq : ¬ q = 300) (hi : q < 317) : cS (wSG s (vA (SG s) 14 g)) q = cS s q := by
  unfold cS
  refine ite2 (fun _ => rfl) fun _ => ?_
  refine ite2 (fun _ => rfl) fun _ => ?_
  refine ite2 (fun _ => rfl) fun _ => ?_
  refine ite2 (fun _ => rfl) fun _ => ?_
  refine ite2 (fun _ => rfl) fun _ => ?_
  refine ite2 (fun _ => rfl) fun _ => ?_
  refine ite2 (fun _ => rfl) fun _ => ?_
  refine ite2 (fun _ => rfl) fun _ => ?_
  refine ite2 (fun _ => rfl) fun _ => ?_
  refine ite2 (fun _ => rfl) fun _ => ?_
  refine ite2 (fun _ => rfl) fun _ => ?_
  refine ite2 (fun _ => rfl) fun _ => ?_
  refine ite2 (fun _ => rfl) fun _ => ?_
  refine ite2 (fun _ => rfl) fun _ => ?_
  refine ite2 (fun _ => rfl) fun _ => ?_
  refine ite2 (fun _ => rfl) fun _ => ?_
  refine ite2 (fun _ => rfl) fun _ => ?_
  refine ite2 (fun _ => rfl) fun _ => ?_
  refine ite2 (fun _ => rfl) fun _ => ?_
  refine ite2 (fun _ => rfl) fun _ => ?_
  refine ite2 (fun _ => rfl) fun _ => ?_
  refine ite2 (fun _ => rfl) fun _ => ?_
  refine ite2 (fun _ => rfl) fun _ => ?_
  refine ite2 (fun _ => rfl) fun _ => ?_
  refine ite2 (fun _ => rfl) fun _ => ?_
  refine ite2 (fun hq => absurd hq (by omega)) fun _ => ?_
  exact rfl
theorem hsSa300 {g : Nat → Int32} : hs (pS s h) 300 (.inl (0, 4, .inl (tr32 4 g))) = pS (wSG s (vA (SG s) 14 g)) h := hsC (b := 0) (j := 300) (by decide) fun q hi => by
  by_cases hq : q = 300
  · rw [if_pos hq, hq]; exact rfl
  · rw [if_neg hq]; exact hsSa300_out hq hi
theorem S_w300 {f : sH → Prop} : aS (pS s h) 300 i x f ↔ vp_in i 4 ∧ f (pS (wSG s (vA (SG s) 14 (upd (eA (SG s) 14) i.toNatClampNeg x))) h) := by
  unfold aS oI; rw [hgS300]
  constructor
  · exact fun z => ⟨z.2.1, by have := z.2.2; rw [tr_upd (vp_lt z.2.1), hsSa300] at this; exact this⟩
  · exact fun z => ⟨rfl, z.1, by rw [tr_upd (vp_lt z.1), hsSa300]; exact z.2⟩
theorem hgS73 : hg (pS s h) 73 = .inl (5, 10, .inr (.inr (.inr (.inr fun j => if j < 10 then some (74 + 16 * j) else none)))) := (hgC (b := 0) (j := 73) (by decide)).trans rfl
theorem S_n73 {f : Int32 → Prop} : aL (pS s h) 73 f ↔ f (nI 10) := by
  unfold aL oA; rw [hgS73]
  exact ⟨fun z => z.2, fun z => ⟨Or.inl (by decide), z⟩⟩
theorem S_r73 {j : Nat} (hj : j < 10) {f : Nat → Prop} : rG (pS s h) 73 (nI j) f ↔ f (74 + 16 * j) := by
  unfold rG oQ; rw [hgS73]
  have hc : (nI j).toNatClampNeg = j := nCl (by omega)
  have hi : vp_in (nI j) 10 := (nIn (by omega)).mpr hj
  constructor
  · rintro ⟨-, -, z⟩
    rw [hc] at z
    have z : oo (if j < 10 then some (74 + 16 * j) else none) f := z
    rw [if_pos hj] at z
    exact z
  · intro z
    refine ⟨by decide, hi, ?_⟩
    rw [hc]
    show oo (if j < 10 then some (74 + 16 * j) else none) f
    rw [if_pos hj]
    exact z
theorem hgS299 : hg (pS s h) 299 = .inl (4, 4, .inr (.inr (.inr (.inr fun j => if j < 4 then some (301 + 4 * j) else none)))) := (hgC (b := 0) (j := 299) (by decide)).trans rfl
theorem S_n299 {f : Int32 → Prop} : aL (pS s h) 299 f ↔ f (nI 4) := by
  unfold aL oA; rw [hgS299]
  exact ⟨fun z => z.2, fun z => ⟨Or.inl (by decide), z⟩⟩
theorem S_r299 {j : Nat} (hj : j < 4) {f : Nat → Prop} : rG (pS s h) 299 (nI j) f ↔ f (301 + 4 * j) := by
  unfold rG oQ; rw [hgS299]
  have hc : (nI j).toNatClampNeg = j := nCl (by omega)
  have hi : vp_in (nI j) 4 := (nIn (by omega)).mpr hj
  constructor
  · rintro ⟨-, -, z⟩
    rw [hc] at z
    have z : oo (if j < 4 then some (301 + 4 * j) else none) f := z
    rw [if_pos hj] at z
    exact z
  · intro z
    refine ⟨by decide, hi, ?_⟩
    rw [hc]
    show oo (if j < 4 then some (301 + 4 * j) else none) f
    rw [if_pos hj]
    exact z
end ST
