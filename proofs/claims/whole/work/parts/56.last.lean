/-! the plain quay: nothing more happens; LAST -/
theorem wf_pass {n : tN} (hn : wfN n) : wfN (passN n) := by
  obtain ⟨hF, hC, hT, hL⟩ := id hn
  have jm := jN_mid hC
  refine ⟨hF, ⟨fun c hc => ⟨jm.1 c hc, (hC.1 c hc).2.1, (hC.1 c hc).2.2.1, ?_⟩, jm.2.1⟩, fun t ht => ?_, hL⟩
  · show goodW (if c < nF n 2 then swF (nMoved n c) (nW n c) else nW n c)
    have hc' : c < nF n 2 := hc
    rw [if_pos hc']
    exact good_sw (hC.1 c hc).2.2.2
  · obtain ⟨h1, h2, h3, h4, h5, h6, h7⟩ := hT t ht
    exact ⟨h1, h2, h3, h4, h5, nDid_lt hT hL ht, pass_D hT hL ht⟩
theorem step_out {n : tN} {s : tD} {c i : Nat} (hc : c < nF n 2) (hi : nF n 2 ≤ i) : (nStep n c s).1 i = s.1 i ∧ (nStep n c s).2 i = s.2 i := by
  unfold nStep
  split
  · split
    · split
      · exact ⟨rfl, rfl⟩
      · split
        · split
          · rename_i m hm
            obtain ⟨-, g, -⟩ := nUp_some _ _ _ (by omega) hm
            exact ⟨if_neg (by omega), if_neg (by omega)⟩
          · exact ⟨rfl, rfl⟩
        · split
          · exact ⟨if_neg (by omega), if_neg (by omega)⟩
          · exact ⟨rfl, rfl⟩
    · exact ⟨rfl, rfl⟩
  · exact ⟨rfl, rfl⟩
theorem mid_out {n : tN} {i : Nat} (hi : nF n 2 ≤ i) : (midN n).1 i = nA n 7 i ∧ (midN n).2 i = nDeed0 n i := by
  refine iter_inv (P := fun _ (s : tD) => s.1 i = nA n 7 i ∧ s.2 i = nDeed0 n i) (fun c s hc hs => ?_) (nF n 2) 0 _ (Nat.zero_add _) ⟨rfl, rfl⟩
  obtain ⟨h1, h2⟩ := step_out (s := s) hc hi
  exact ⟨h1.trans hs.1, h2.trans hs.2⟩
theorem works_out {n : tN} (hL : wfL n) {i : Nat} (hi : nF n 2 ≤ i) : nWorks n i = false ∧ nDeed0 n i = 0 := by
  have e : nNext n i = none := by unfold nNext; rw [hL.1 i hi]; rfl
  have w : nWorks n i = false := by unfold nWorks; rw [e]
  exact ⟨w, by unfold nDeed0; rw [w, e]; simp⟩
/-- the same quay, but for the sway and the minute -/
def sq (n m : tN) : Prop := (∀ k, k ≠ 4 → nF m k = nF n k) ∧ nK m = nK n ∧ nA m = nA n ∧ nV m = nV n ∧ nL m = nL n
section SQ
variable {n m : tN} {s : tD}
theorem sq_done (h : sq n m) {t : Nat} : nDone m t = nDone n t := by unfold nDone; rw [h.2.2.1]
theorem sq_next (h : sq n m) {c : Nat} : nNext m c = nNext n c := by
  unfold nNext
  rw [h.2.2.2.2, show nDone m = nDone n from funext fun t => sq_done h]
theorem sq_free (h : sq n m) {t : Nat} : nFree m t = nFree n t := by
  unfold nFree
  rw [h.2.2.2.1, h.1 3 (by decide), show nDone m = nDone n from funext fun t => sq_done h]
theorem sq_still (h : sq n m) {p : Nat} : nStill m s p = nStill n s p := by unfold nStill; rw [h.2.1]
theorem sq_up (h : sq n m) : ∀ k p, nUp m s k p = nUp n s k p
  | 0, p => by unfold nUp; rw [sq_still h, h.1 0 (by decide)]
  | k + 1, p => by unfold nUp; rw [sq_still h, h.1 0 (by decide), h.1 1 (by decide), sq_up h k]
theorem sq_dn (h : sq n m) : ∀ p, nDn m s p = nDn n s p
  | 0 => by unfold nDn; rw [sq_still h]
  | q + 1 => by unfold nDn; rw [sq_still h, h.1 1 (by decide), sq_dn h q]
theorem sq_step (h : sq n m) : nStep m = nStep n := by
  funext c s
  unfold nStep
  rw [sq_next h, h.2.2.1, h.1 2 (by decide), sq_dn h]
  simp only [sq_up h]
theorem sq_mid (h : sq n m) (hd : nDeed0 m = nDeed0 n) : midN m = midN n := by
  unfold midN
  rw [sq_step h, h.1 2 (by decide), h.2.2.1, hd]
theorem sq_over (h : sq n m) : overN m = overN n := by
  unfold overN
  rw [h.1 2 (by decide), show nNext m = nNext n from funext fun c => sq_next h]
end SQ
theorem stir_of {n : tN} (h : stirN n = false) : (∀ c, c < nF n 2 → nMoved n c = false) ∧ (∀ c, c < nF n 2 → calmW (nW n c) = true ∧ nWorks n c = false) := by
  unfold stirN at h
  rw [Bool.or_eq_false_iff, List.any_eq_false, List.any_eq_false] at h
  refine ⟨fun c hc => by simpa using h.1 c (List.mem_range.mpr hc), fun c hc => ?_⟩
  have := h.2 c (List.mem_range.mpr hc)
  simpa using this
theorem stuck_sq {n : tN} (hn : wfN n) (h : stirN n = false) : sq n (passN n) ∧ ∀ c, c < nF n 2 → nW (passN n) c = swF false (nW n c) := by
  obtain ⟨hF, hC, hT, hL⟩ := hn
  obtain ⟨h1, h2⟩ := stir_of h
  have jm := jN_mid hC
  have e7 : (midN n).1 = nA n 7 := by
    funext i
    by_cases hi : i < nF n 2
    · have := h1 i hi
      unfold nMoved at this
      rw [Bool.or_eq_false_iff, decide_eq_false_iff_not, decide_eq_false_iff_not] at this
      exact (jm.2.2.2 i hi this.1 this.2).1
    · exact (mid_out (by omega)).1
  have e16 : nDid n = nA n 16 := by
    funext t
    unfold nDid
    cases hb : nBy n t with
    | none => rfl
    | some c =>
      obtain ⟨b1, b2, -⟩ := by_some (i := nF n 2) hb
      rw [(h2 c b1).2] at b2
      cases b2
  refine ⟨⟨fun k hk => ?_, rfl, ?_, rfl, rfl⟩, fun c hc => ?_⟩
  · show (if k = 4 then _ else nF n k) = _
    rw [if_neg hk]
  · funext k
    show (if k = 16 then nDid n else if k = 7 then (midN n).1 else nA n k) = _
    by_cases a : k = 16
    · rw [if_pos a, a, e16]
    · rw [if_neg a]
      by_cases b : k = 7
      · rw [if_pos b, b, e7]
      · rw [if_neg b]
  · show (if c < nF n 2 then swF (nMoved n c) (nW n c) else nW n c) = _
    rw [if_pos hc, h1 c hc]
theorem stuck_on {n : tN} (hn : wfN n) (h : stirN n = false) : stirN (passN n) = false := by
  obtain ⟨hs, hw⟩ := stuck_sq hn h
  obtain ⟨h1, h2⟩ := stir_of h
  have hn' := wf_pass hn
  obtain ⟨hF, hC, hT, hL⟩ := id hn
  have c2 : nF (passN n) 2 = nF n 2 := hs.1 2 (by decide)
  have calm : ∀ c, c < nF n 2 → calmW (nW (passN n) c) = true := fun c hc => by
    rw [hw c hc]
    exact calm_half (hC.1 c hc).2.2.2 (h2 c hc).1
  have wk : ∀ c, nWorks (passN n) c = nWorks n c := by
    intro c
    by_cases hc : c < nF n 2
    · unfold nWorks
      rw [sq_next hs, hs.2.1, hs.2.2.1, calm c hc, (h2 c hc).1]
      cases nNext n c with
      | none => rfl
      | some t => simp only [sq_free hs]
    · rw [(works_out hL (i := c) (by omega)).1, (works_out hn'.2.2.2 (i := c) (by omega)).1]
  have d0 : nDeed0 (passN n) = nDeed0 n := by
    funext c
    unfold nDeed0
    rw [wk c, hs.2.1, sq_next hs]
  have mid := sq_mid hs d0
  have mv : ∀ c, nMoved (passN n) c = nMoved n c := fun c => by unfold nMoved nDeed; rw [mid]
  unfold stirN
  rw [Bool.or_eq_false_iff, List.any_eq_false, List.any_eq_false, c2]
  refine ⟨fun c hc => ?_, fun c hc => ?_⟩
  · rw [mv, h1 c (List.mem_range.mp hc)]; decide
  · rw [wk, calm c (List.mem_range.mp hc), (h2 c (List.mem_range.mp hc)).2]; decide
theorem stuck_last : ∀ k n, wfN n → stirN n = false → overN n = false → lastN k n = none
  | 0, n, _, _, ho => by rw [lastN, ho]; rfl
  | k + 1, n, hn, hs, ho => by
    rw [lastN, ho, stuck_last k (passN n) (wf_pass hn) (stuck_on hn hs) (by rw [sq_over (stuck_sq hn hs).1]; exact ho)]
    rfl
/-! what is told, as bits -/
def lbits : List Nat → Nat
  | [] => 0
  | t :: l => 2 ^ t ||| lbits l
theorem lbits_tb {i : Nat} : ∀ l, (lbits l).testBit i = decide (i ∈ l)
  | [] => by simp [lbits]
  | t :: l => by
    rw [lbits, Nat.testBit_or, Nat.testBit_two_pow, lbits_tb l]
    by_cases e : t = i
    · simp [e]
    · have e' : ¬ i = t := fun q => e q.symm
      simp [e, e']
theorem lbits_lt {k : Nat} : ∀ l : List Nat, (∀ t, t ∈ l → t < k) → lbits l < 2 ^ k
  | [], _ => Nat.two_pow_pos k
  | t :: l, h => Nat.or_lt_two_pow (Nat.pow_lt_pow_right (by decide) (h t List.mem_cons_self)) (lbits_lt l fun u hu => h u (List.mem_cons_of_mem _ hu))
theorem getD_of {l : List Nat} {j : Nat} (h : j < l.length) : l.getD j 0 = l[j] := by
  rw [List.getD_eq_getElem?_getD, List.getElem?_eq_getElem h]; rfl
theorem bitIn_rel {p : tP} {c : Nat} {l : List Nat} (hp : ∀ k, k < l.length → p.1 (c * 8 + k) = nI (l.getD k 0)) (hl : ∀ t, t ∈ l → t < 31) : ∀ m j X, j + m = l.length → bitIn p c j m (nI X) = nI (X ||| lbits (l.drop j))
  | 0, j, X, hj => by
    rw [List.drop_of_length_le (by omega)]
    show nI X = nI (X ||| 0)
    rw [Nat.or_zero]
  | m + 1, j, X, hj => by
    have hj' : j < l.length := by omega
    have e := bitIn_rel hp hl m (j + 1) (X ||| 2 ^ l.getD j 0) (by omega)
    unfold bitIn at e ⊢
    rw [iter, hp j hj', i_shl1 (hl _ (getD_mem hj')), fa_or, e, List.drop_eq_getElem_cons hj', lbits, ← getD_of hj', Nat.or_assoc]
def tbits (f : Nat → List Nat) : Nat := lbits (f 0) ||| lbits (f 1) ||| lbits (f 2) ||| lbits (f 3)
theorem bitsP_rel {p : tP} {f : Nat → List Nat} (h : RP p f) (hl : ∀ c t, t ∈ f c → t < 31) : bitsP p = nI (tbits f) := by
  unfold bitsP
  have e : ∀ c X, c < 4 → bitIn p c 0 (p.2 c) (nI X) = nI (X ||| lbits (f c)) := fun c X hc => by
    rw [(h c hc).1]
    exact bitIn_rel (l := f c) (h c hc).2 (fun t ht => hl c t ht) _ 0 X (Nat.zero_add _)
  rw [iter, iter, iter, iter, iter, e 0 _ (by decide), e 1 _ (by decide), e 2 _ (by decide), e 3 _ (by decide), Nat.zero_or]
  rfl
theorem tbits_tb {f : Nat → List Nat} {i : Nat} : (tbits f).testBit i = true ↔ ∃ c, c < 4 ∧ i ∈ f c := by
  unfold tbits
  rw [Nat.testBit_or, Nat.testBit_or, Nat.testBit_or, lbits_tb, lbits_tb, lbits_tb, lbits_tb]
  simp only [Bool.or_eq_true, decide_eq_true_eq]
  constructor
  · rintro (((h | h) | h) | h)
    · exact ⟨0, by decide, h⟩
    · exact ⟨1, by decide, h⟩
    · exact ⟨2, by decide, h⟩
    · exact ⟨3, by decide, h⟩
  · rintro ⟨c, hc, h⟩
    match c, hc with
    | 0, _ => exact Or.inl (Or.inl (Or.inl h))
    | 1, _ => exact Or.inl (Or.inl (Or.inr h))
    | 2, _ => exact Or.inl (Or.inr h)
    | 3, _ => exact Or.inr h
theorem tbits_lt {f : Nat → List Nat} {k : Nat} (h : ∀ c t, t ∈ f c → t < k) : tbits f < 2 ^ k := Nat.or_lt_two_pow (Nat.or_lt_two_pow (Nat.or_lt_two_pow (lbits_lt _ (h 0)) (lbits_lt _ (h 1))) (lbits_lt _ (h 2))) (lbits_lt _ (h 3))
theorem wfL_31 {n : tN} (hF : wfF n) (hL : wfL n) (c t : Nat) (h : t ∈ nL n c) : t < 31 := by
  have := (hL.2.1 c).2 t h
  have := hF.2.1
  omega
theorem over_iff {n : tN} (hF : wfF n) (hL : wfL n) : overN n = true ↔ ∀ c t, t ∈ nL n c → nDone n t = true := by
  unfold overN
  rw [List.all_eq_true]
  constructor
  · intro h c t ht
    by_cases hc : c < nF n 2
    · have h1 := h c (List.mem_range.mpr hc)
      rw [Option.isNone_iff_eq_none] at h1
      have h2 := List.find?_eq_none.mp h1 t ht
      simpa using h2
    · rw [hL.1 c (by omega)] at ht
      cases ht
  · intro h c hc
    rw [Option.isNone_iff_eq_none]
    refine List.find?_eq_none.mpr fun t ht => ?_
    rw [h c t ht]
    decide
theorem left_rel {n : tN} {y : tY} (hn : wfN n) (hy : RY y n) : leftT (nI (tbits (nL n))) y = nI 0 ↔ overN n = true := by
  obtain ⟨hF, hC, hT, hL⟩ := hn
  have h6 := hy.1.2.2.2.2.2.2
  unfold leftT
  rw [h6, i_andn0 (Nat.lt_of_lt_of_le (tbits_lt (k := 31) (fun c t h => wfL_31 hF hL c t h)) (by decide)), over_iff hF hL]
  constructor
  · intro h c t ht
    have hc : c < 4 := by
      rcases Nat.lt_or_ge c 4 with q | q
      · exact q
      · rw [hL.1 c (by have := hF.1; omega)] at ht; cases ht
    have := h t (tbits_tb.mpr ⟨c, hc, ht⟩)
    rw [bitsN_tb, Bool.and_eq_true] at this
    exact this.2
  · intro h i hi
    obtain ⟨c, hc, ht⟩ := tbits_tb.mp hi
    rw [bitsN_tb, h c i ht, decide_eq_true ((hL.2.1 c).2 i ht)]
    rfl
theorem oI1_map {m : Nat} {o : Option Nat} : oI1 (o.map (· + m)) = match o with | some j => nI (j + m) | none => -1 := by cases o <;> rfl
theorem last_rel : ∀ k m y n, wfN n → RY y n → (lastF (nI (tbits (nL n))) (k + 1) m y).1 = oI1 ((lastN k n).map (· + m))
  | 0, m, y, n, hn, hy => by
    rw [lastF, lastN]
    by_cases h : overN n = true
    · rw [if_pos ((left_rel hn hy).mpr h), if_pos h]
      show nI m = nI (0 + m)
      rw [Nat.zero_add]
    · rw [if_neg (fun q => h ((left_rel hn hy).mp q)), if_neg h]
      cases passB y <;> rfl
  | k + 1, m, y, n, hn, hy => by
    rw [lastF, lastN]
    obtain ⟨p1, p2, -, p4⟩ := pass_rel (fun w b h => good_sw h) hn hy
    by_cases h : overN n = true
    · rw [if_pos ((left_rel hn hy).mpr h), if_pos h]
      show nI m = nI (0 + m)
      rw [Nat.zero_add]
    · rw [if_neg (fun q => h ((left_rel hn hy).mp q)), if_neg h, p4]
      cases hs : stirN n with
      | true =>
        rw [if_pos rfl]
        have e := last_rel k (m + 1) (passY y) (passN n) p2 p1
        rw [show nL (passN n) = nL n from rfl] at e
        rw [e, Option.map_map]
        congr 2
        funext j
        show j + (m + 1) = j + 1 + m
        omega
      | false =>
        rw [if_neg (by decide), stuck_last k (passN n) p2 (stuck_on hn hs) (by rw [sq_over (stuck_sq hn hs).1]; simpa using h)]
        rfl
theorem lastY_rel {y : tY} {n : tN} (hn : wfN n) (hy : RY y n) {N : Nat} : (lastY y N).1 = oI1 (lastN N n) := by
  unfold lastY
  rw [bitsP_rel hy.2.2.2 (fun c t h => wfL_31 hn.1 hn.2.2.2 c t h), last_rel N 0 y n hn hy]
  congr 1
  cases lastN N n <;> rfl
theorem RY_ok {y : tY} {n : tN} (hn : wfN n) (hy : RY y n) : okY y := by
  obtain ⟨⟨-, -, f2, f3, -⟩, ⟨-, yw⟩, -, yp⟩ := hy
  obtain ⟨hF, -, -, hL⟩ := hn
  exact ⟨by rw [f2]; exact hF.1, by rw [f3]; exact hF.2.1, RP_okS hF hL yp, fun c hc => good_fine (yw c hc)⟩
/-- a copy tells the same -/
theorem RY_cp {y z : tY} {n : tN} (h : RY z n) : RY (cpY y z) n := by
  obtain ⟨h1, ⟨h2, h3⟩, h4, h5⟩ := h
  exact ⟨h1, ⟨h2, h3⟩, h4, h5⟩
theorem RY_uP {y : tY} {n : tN} {p : tP} {l : Nat → List Nat} (h : RY y n) (hp : RP p l) : RY (uP y p) (jL n l) := by
  obtain ⟨h1, h2, h3, h4⟩ := h
  exact ⟨h1, h2, h3, hp⟩
