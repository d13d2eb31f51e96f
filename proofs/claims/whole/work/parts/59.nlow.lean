/-! the plain quay: no LAST is less -/
theorem pot {P : tN → Prop} {F : tN → Nat} {a : Nat} (hP : ∀ n, P n → P (passN n)) (hF : ∀ n, P n → F n ≤ F (passN n) + a) (h0 : ∀ n, P n → overN n = true → F n = 0) : ∀ m n, P n → overN (runN m n) = true → F n ≤ a * m
  | 0, n, hn, ho => by rw [h0 n hn ho]; exact Nat.zero_le _
  | m + 1, n, hn, ho => by
    have h1 := pot hP hF h0 m (passN n) (hP n hn) ho
    have h2 := hF n hn
    rw [Nat.mul_succ]
    omega
theorem never {P : tN → Prop} (hP : ∀ n, P n → P (passN n)) (h0 : ∀ n, P n → overN n = false) : ∀ m n, P n → overN (runN m n) = false
  | 0, n, hn => h0 n hn
  | m + 1, n, hn => never hP h0 m (passN n) (hP n hn)
section LOW
variable {n : tN} {c t : Nat}
theorem move_of (hn : wfN n) (hc : c < nF n 2) : (nMoved n c = true ∧ (nA (passN n) 7 c = nA n 7 c + 1 ∨ nA (passN n) 7 c + 1 = nA n 7 c) ∧ nWorks n c = false ∧ nK n c = false) ∨ (nMoved n c = false ∧ nA (passN n) 7 c = nA n 7 c) := by
  have j := jN_mid hn.2.1
  have e7 : nA (passN n) 7 c = (midN n).1 c := rfl
  rw [e7]
  unfold nMoved nDeed
  by_cases h1 : (midN n).2 c = 1
  · obtain ⟨a, b, d⟩ := j.2.2.1 c hc (Or.inl h1)
    refine Or.inl ⟨by rw [decide_eq_true h1]; rfl, a, ?_, d⟩
    cases hw : nWorks n c with
    | false => rfl
    | true => exact absurd (deed0_4.mpr hw) b
  · by_cases h2 : (midN n).2 c = 2
    · obtain ⟨a, b, d⟩ := j.2.2.1 c hc (Or.inr h2)
      refine Or.inl ⟨by rw [decide_eq_true h2, Bool.or_true], a, ?_, d⟩
      cases hw : nWorks n c with
      | false => rfl
      | true => exact absurd (deed0_4.mpr hw) b
    · exact Or.inr ⟨by rw [decide_eq_false h1, decide_eq_false h2]; rfl, (j.2.2.2 c hc h1 h2).1⟩
theorem sway_of (hc : c < nF n 2) : nW (passN n) c = swF (nMoved n c) (nW n c) := if_pos hc
theorem did_of : nA (passN n) 16 t = nDid n t := rfl
theorem by_own (hL : wfL n) (h : t ∈ nL n c) {q : Nat} (hb : nBy n t = some q) : q = c ∧ nWorks n c = true ∧ nNext n c = some t := by
  obtain ⟨b1, b2, b3⟩ := by_some (i := nF n 2) hb
  have e := hL.2.2 q c t (next_lt hL b3).2.1 h
  subst e
  exact ⟨rfl, b2, b3⟩
theorem by_works (hL : wfL n) (hc : c < nF n 2) (hw : nWorks n c = true) (ht : nNext n c = some t) : nBy n t = some c := by
  cases hb : nBy n t with
  | some q => rw [(by_own hL (next_lt hL ht).2.1 hb).1]
  | none =>
    have := List.find?_eq_none.mp hb c (List.mem_range.mpr hc)
    rw [hw, decide_eq_true ht] at this
    exact absurd rfl this
/-! a crane goes there, calms down, works -/
def wayN (a b : Nat) : Nat := (a - b) + (b - a)
def costN (n : tN) : Nat → List Nat → Nat
  | _, [] => 0
  | b, t :: l => wayN b (nA n 12 t) + (if nA n 12 t = b then 0 else 1) + (nA n 13 t - nA n 16 t) + costN n (nA n 12 t) l
def remN (n : tN) (c : Nat) : List Nat := (nL n c).filter (fun t => !nDone n t)
def phL (n : tN) (c : Nat) : List Nat → Nat
  | [] => 0
  | t :: r => wayN (nA n 7 c) (nA n 12 t) + (if nA n 12 t = nA n 7 c ∧ calmW (nW n c) = true then 0 else 1) + (nA n 13 t - nA n 16 t) + costN n (nA n 12 t) r
def phiN (n : tN) (c : Nat) : Nat := phL n c (remN n c)
theorem cost_same {m : tN} (h12 : nA m 12 = nA n 12) (h13 : nA m 13 = nA n 13) : ∀ {r : List Nat} {b : Nat}, (∀ u, u ∈ r → nA m 16 u = nA n 16 u) → costN m b r = costN n b r
  | [], _, _ => rfl
  | u :: r, b, h => by
    rw [costN, costN, h12, h13, h u List.mem_cons_self, cost_same h12 h13 (fun v hv => h v (List.mem_cons_of_mem _ hv))]
theorem rem_next : nNext n c = (remN n c).head? := by
  unfold nNext remN
  rw [List.head?_filter]
theorem rem_pass (hL : wfL n) : remN (passN n) c = (remN n c).filter (fun t => !nDone (passN n) t) := by
  unfold remN
  rw [List.filter_filter]
  show (nL n c).filter _ = (nL n c).filter _
  refine List.filter_congr fun t ht => ?_
  cases hd : nDone n t with
  | false => rw [Bool.not_false, Bool.and_true]
  | true => rw [done_stays hL hd]; rfl
theorem filter_all {p : Nat → Bool} : ∀ {l : List Nat}, (∀ t, t ∈ l → p t = true) → l.filter p = l
  | [], _ => rfl
  | t :: l, h => by rw [List.filter_cons, if_pos (h t List.mem_cons_self), filter_all (fun u hu => h u (List.mem_cons_of_mem _ hu))]
theorem phi_step (hn : wfN n) (hc : c < nF n 2) : phiN n c ≤ phiN (passN n) c + 1 := by
  obtain ⟨hF, hC, hT, hL⟩ := id hn
  have hp := rem_pass (c := c) hL
  unfold phiN
  rw [hp]
  have hnx := rem_next (n := n) (c := c)
  have hnd : (remN n c).Nodup := (hL.2.1 c).1.filter _
  have hmem : ∀ u, u ∈ remN n c → u ∈ nL n c ∧ nDone n u = false := fun u hu => by
    have := List.mem_filter.mp hu
    exact ⟨this.1, by simpa using this.2⟩
  cases hr : remN n c with
  | nil => exact Nat.zero_le _
  | cons t r =>
    rw [hr] at hnx hnd hmem
    have hnx : nNext n c = some t := hnx
    obtain ⟨nd1, nd2⟩ := List.nodup_cons.mp hnd
    obtain ⟨tL, tD⟩ := hmem t List.mem_cons_self
    obtain ⟨tT, -, -⟩ := next_lt hL hnx
    have tlt := (nDone_ge hT tT).mp tD
    have quiet : ∀ u, u ∈ r → nBy n u = none := by
      intro u hu
      cases hb : nBy n u with
      | none => rfl
      | some q =>
        have := (by_own hL (hmem u (List.mem_cons_of_mem _ hu)).1 hb).2.2
        rw [hnx] at this
        cases this
        exact absurd hu nd1
    have did_r : ∀ u, u ∈ r → nA (passN n) 16 u = nA n 16 u := fun u hu => by
      rw [did_of]; unfold nDid; rw [quiet u hu]; rfl
    have cost_r : ∀ b, costN (passN n) b r = costN n b r := fun b => cost_same (n := n) (m := passN n) rfl rfl did_r
    have stay_r : r.filter (fun t => !nDone (passN n) t) = r := filter_all fun u hu => by
      have h1 := (hmem u (List.mem_cons_of_mem _ hu)).2
      have h2 := did_r u hu
      unfold nDone at h1 ⊢
      rw [h2]
      show (!decide (nA n 16 u = nA n 13 u)) = true
      rw [h1]; rfl
    rw [List.filter_cons]
    cases hw : nWorks n c with
    | true =>
      obtain ⟨-, w2, -, w4⟩ := works_of hw hnx
      have hb := by_works hL hc hw hnx
      have d1 : nA (passN n) 16 t = nA n 16 t + 1 := by rw [did_of]; unfold nDid; rw [hb]; rfl
      rcases move_of hn hc with ⟨-, -, h, -⟩ | ⟨m1, m2⟩
      · rw [hw] at h; cases h
      · have sw := sway_of (n := n) hc
        rw [m1] at sw
        have calm' : calmW (nW (passN n) c) = true := by rw [sw]; exact calm_half (hC.1 c hc).2.2.2 w4
        rw [stay_r]
        show wayN (nA n 7 c) (nA n 12 t) + (if nA n 12 t = nA n 7 c ∧ calmW (nW n c) = true then 0 else 1) + (nA n 13 t - nA n 16 t) + costN n (nA n 12 t) r ≤ _
        rw [if_pos ⟨w2.symm, w4⟩, w2]
        have w0 : wayN (nA n 12 t) (nA n 12 t) = 0 := by unfold wayN; omega
        rw [w0]
        by_cases hl : nA n 16 t + 1 = nA n 13 t
        · have dn : nDone (passN n) t = true := by
            show decide (nA (passN n) 16 t = nA n 13 t) = true
            rw [d1]; exact decide_eq_true hl
          rw [dn, if_neg (by decide)]
          have e : phL (passN n) c r = costN n (nA n 12 t) r := by
            cases r with
            | nil => rfl
            | cons u r' =>
              have cr := cost_r (nA n 12 t)
              rw [← cr]
              show wayN (nA (passN n) 7 c) (nA n 12 u) + (if nA n 12 u = nA (passN n) 7 c ∧ calmW (nW (passN n) c) = true then 0 else 1) + (nA n 13 u - nA (passN n) 16 u) + costN (passN n) (nA n 12 u) r' = wayN (nA n 12 t) (nA n 12 u) + (if nA n 12 u = nA n 12 t then 0 else 1) + (nA n 13 u - nA (passN n) 16 u) + costN (passN n) (nA n 12 u) r'
              rw [m2, w2, calm']
              simp
          rw [e]
          omega
        · have dn : nDone (passN n) t = false := by
            show decide (nA (passN n) 16 t = nA n 13 t) = false
            rw [d1]; exact decide_eq_false hl
          rw [dn, if_pos (by decide)]
          show _ ≤ wayN (nA (passN n) 7 c) (nA n 12 t) + (if nA n 12 t = nA (passN n) 7 c ∧ calmW (nW (passN n) c) = true then 0 else 1) + (nA n 13 t - nA (passN n) 16 t) + costN (passN n) (nA n 12 t) r + 1
          rw [cost_r, d1]
          omega
    | false =>
      have hb : nBy n t = none := by
        cases hb : nBy n t with
        | none => rfl
        | some q =>
          have := (by_own hL tL hb).2.1
          rw [hw] at this; cases this
      have d0 : nA (passN n) 16 t = nA n 16 t := by rw [did_of]; unfold nDid; rw [hb]; rfl
      have dn : nDone (passN n) t = false := by
        show decide (nA (passN n) 16 t = nA n 13 t) = false
        rw [d0]; exact tD
      rw [dn, if_pos (by decide), stay_r]
      show wayN (nA n 7 c) (nA n 12 t) + (if nA n 12 t = nA n 7 c ∧ calmW (nW n c) = true then 0 else 1) + (nA n 13 t - nA n 16 t) + costN n (nA n 12 t) r ≤ wayN (nA (passN n) 7 c) (nA n 12 t) + (if nA n 12 t = nA (passN n) 7 c ∧ calmW (nW (passN n) c) = true then 0 else 1) + (nA n 13 t - nA (passN n) 16 t) + costN (passN n) (nA n 12 t) r + 1
      rw [cost_r, d0]
      have sw := sway_of (n := n) hc
      rcases move_of hn hc with ⟨m1, m2, -, -⟩ | ⟨m1, m2⟩
      · rw [m1] at sw
        have nc : calmW (nW (passN n) c) = false := by rw [sw]; exact calm_push (hC.1 c hc).2.2.2
        rw [nc, if_neg (show ¬ (nA n 12 t = nA (passN n) 7 c ∧ false = true) from fun q => by cases q.2)]
        unfold wayN
        split <;> omega
      · rw [m2]
        have hle : (if nA n 12 t = nA n 7 c ∧ calmW (nW n c) = true then 0 else 1) ≤ 1 := by split <;> omega
        omega
theorem over_rem (hn : wfN n) (ho : overN n = true) (c : Nat) : remN n c = [] := by
  have h := (over_iff hn.1 hn.2.2.2).mp ho c
  unfold remN
  rw [List.filter_eq_nil_iff]
  intro t ht
  rw [h t ht]
  decide
theorem low_phi (hn : wfN n) (hc : c < nF n 2) {m : Nat} (h : isLast n m) : phiN n c ≤ m := by
  have := pot (P := fun n => wfN n ∧ c < nF n 2) (F := fun n => phiN n c) (a := 1) (fun n h => ⟨wf_pass h.1, h.2⟩) (fun n h => phi_step h.1 h.2) (fun n h ho => by show phL n c (remN n c) = 0; rw [over_rem h.1 ho c]; rfl) m n ⟨hn, hc⟩ h.1
  omega
theorem low_busy (hn : wfN n) (hc : c < nF n 2) (hd : ∀ t, t ∈ nL n c → nDone n t = false) {m : Nat} (h : isLast n m) : costN n (nA n 7 c) (nL n c) ≤ m := by
  refine Nat.le_trans ?_ (low_phi hn hc h)
  unfold phiN remN
  rw [filter_all (fun t ht => by rw [hd t ht]; rfl)]
  cases nL n c with
  | nil => exact Nat.le_refl _
  | cons t r =>
    show wayN (nA n 7 c) (nA n 12 t) + (if nA n 12 t = nA n 7 c then 0 else 1) + (nA n 13 t - nA n 16 t) + costN n (nA n 12 t) r ≤ wayN (nA n 7 c) (nA n 12 t) + (if nA n 12 t = nA n 7 c ∧ calmW (nW n c) = true then 0 else 1) + (nA n 13 t - nA n 16 t) + costN n (nA n 12 t) r
    by_cases e : nA n 12 t = nA n 7 c
    · rw [if_pos e]; omega
    · rw [if_neg e, if_neg (fun q => e q.1)]; exact Nat.le_refl _
theorem cost_app {b : Nat} : ∀ {l r : List Nat} {b : Nat}, costN n b l ≤ costN n b (l ++ r)
  | [], r, b => Nat.zero_le _
  | t :: l, r, b => by
    show _ + costN n (nA n 12 t) l ≤ _ + costN n (nA n 12 t) (l ++ r)
    exact Nat.add_le_add_left (cost_app (b := b)) _
/-! where a crane can be -/
theorem chain (hC : wfC n) : ∀ {k i : Nat}, i + k < nF n 2 → nA n 7 i + nF n 1 * k ≤ nA n 7 (i + k)
  | 0, i, _ => by rw [Nat.mul_zero]; exact Nat.le_refl _
  | k + 1, i, h => by
    have h1 := chain hC (k := k) (i := i) (by omega)
    have h2 := hC.2 (i + k) (by omega)
    rw [Nat.mul_succ]
    have : i + k + 1 = i + (k + 1) := by omega
    rw [this] at h2
    omega
def reachN (n : tN) (c t : Nat) : Prop := nF n 1 * c ≤ nA n 12 t ∧ nA n 12 t + nF n 1 * (nF n 2 - 1 - c) < nF n 0 ∧ ∀ q, q < nF n 2 → nK n q = true → (q < c → nA n 7 q + nF n 1 * (c - q) ≤ nA n 12 t) ∧ (c < q → nA n 12 t + nF n 1 * (q - c) ≤ nA n 7 q)
theorem reach_at (hn : wfN n) (hc : c < nF n 2) (h : nA n 7 c = nA n 12 t) : reachN n c t := by
  obtain ⟨hF, hC, -, -⟩ := hn
  refine ⟨?_, ?_, fun q hq _ => ⟨fun h1 => ?_, fun h1 => ?_⟩⟩
  · have := chain hC (i := 0) (k := c) (by omega)
    rw [Nat.zero_add] at this
    omega
  · have := chain hC (i := c) (k := nF n 2 - 1 - c) (by omega)
    have h2 := (hC.1 (c + (nF n 2 - 1 - c)) (by omega)).1
    omega
  · have := chain hC (i := q) (k := c - q) (by omega)
    rw [show q + (c - q) = c by omega] at this
    omega
  · have := chain hC (i := c) (k := q - c) (by omega)
    rw [show c + (q - c) = q by omega] at this
    omega
theorem reach_pass (hn : wfN n) : reachN (passN n) c t → reachN n c t := by
  rintro ⟨h1, h2, h3⟩
  refine ⟨h1, h2, fun q hq hk => ?_⟩
  have := h3 q hq hk
  rcases move_of hn hq with ⟨-, -, -, e⟩ | ⟨-, e⟩
  · rw [hk] at e; cases e
  · rw [e] at this; exact this
theorem low_reach (hn : wfN n) (hc : c < nF n 2) (ht : t ∈ nL n c) (hd : nDone n t = false) (hr : ¬ reachN n c t) {m : Nat} (h : isLast n m) : False := by
  have := never (P := fun n => wfN n ∧ c < nF n 2 ∧ t ∈ nL n c ∧ nDone n t = false ∧ ¬ reachN n c t) (fun n ⟨p1, p2, p3, p4, p5⟩ => by
    refine ⟨wf_pass p1, p2, p3, ?_, fun q => p5 (reach_pass p1 q)⟩
    have hb : nBy n t = none := by
      cases hb : nBy n t with
      | none => rfl
      | some q =>
        obtain ⟨-, b2, b3⟩ := by_own p1.2.2.2 p3 hb
        exact absurd (reach_at p1 p2 (works_of b2 b3).2.1) p5
    show decide (nDid n t = nA n 13 t) = false
    unfold nDid
    rw [hb]
    exact p4) (fun n ⟨p1, p2, p3, p4, p5⟩ => by
    cases ho : overN n with
    | false => rfl
    | true => rw [(over_iff p1.1 p1.2.2.2).mp ho c t p3] at p4; cases p4) m n ⟨hn, hc, ht, hd, hr⟩
  rw [h.1] at this
  cases this
/-! sums -/
def sumN (f : Nat → Nat) : Nat → Nat
  | 0 => 0
  | k + 1 => sumN f k + f k
theorem sum_le {f g : Nat → Nat} : ∀ {k}, (∀ i, i < k → f i ≤ g i) → sumN f k ≤ sumN g k
  | 0, _ => Nat.le_refl _
  | k + 1, h => Nat.add_le_add (sum_le fun i hi => h i (by omega)) (h k (by omega))
theorem sum_add {f g : Nat → Nat} : ∀ k, sumN (fun i => f i + g i) k = sumN f k + sumN g k
  | 0 => rfl
  | k + 1 => by rw [sumN, sumN, sumN, sum_add k]; omega
theorem sum_zero {f : Nat → Nat} : ∀ {k}, (∀ i, i < k → f i = 0) → sumN f k = 0
  | 0, _ => rfl
  | k + 1, h => by rw [sumN, sum_zero fun i hi => h i (by omega), h k (by omega)]
theorem sum_swap {f : Nat → Nat → Nat} {m : Nat} : ∀ k, sumN (fun i => sumN (f i) m) k = sumN (fun j => sumN (fun i => f i j) k) m
  | 0 => (sum_zero fun _ _ => rfl).symm
  | k + 1 => by
    rw [sumN, sum_swap k, ← sum_add]
    rfl
theorem sum_one {p : Nat → Bool} : ∀ {k}, (∀ i j, i < k → j < k → p i = true → p j = true → i = j) → sumN (fun i => (p i).toNat) k ≤ 1
  | 0, _ => Nat.zero_le _
  | k + 1, h => by
    rw [sumN]
    cases hk : p k with
    | false => exact sum_one fun i j hi hj => h i j (by omega) (by omega)
    | true =>
      rw [sum_zero fun i hi => by
        cases hi' : p i with
        | false => rfl
        | true => have := h i k (by omega) (by omega) hi' hk; omega]
      exact Nat.le_refl _
theorem sum_ge {f : Nat → Nat} {j : Nat} : ∀ {k}, j < k → f j ≤ sumN f k
  | k + 1, h => by
    rw [sumN]
    by_cases e : j = k
    · rw [e]; omega
    · have := sum_ge (f := f) (j := j) (k := k) (by omega); omega
/-- all that is told is all there is -/
def covN (n : tN) : Prop := wfN n ∧ ∀ t, t < nF n 3 → nDone n t = false → ∃ c, t ∈ nL n c
theorem cov_pass {n : tN} (h : covN n) : covN (passN n) := by
  refine ⟨wf_pass h.1, fun t ht hd => ?_⟩
  refine h.2 t ht ?_
  cases hx : nDone n t with
  | false => rfl
  | true => rw [done_stays h.1.2.2.2 hx] at hd; cases hd
theorem cov_over {n : tN} (h : covN n) (ho : overN n = true) {t : Nat} (ht : t < nF n 3) : nDone n t = true := by
  cases hx : nDone n t with
  | true => rfl
  | false =>
    obtain ⟨c, hc⟩ := h.2 t ht hx
    rw [(over_iff h.1.1 h.1.2.2.2).mp ho c t hc] at hx
    cases hx
def leftN (n : tN) (t : Nat) : Nat := nA n 13 t - nA n 16 t
theorem left_done {n : tN} {t : Nat} (h : nDone n t = true) : leftN n t = 0 := by
  unfold nDone at h
  rw [decide_eq_true_eq] at h
  unfold leftN
  omega
/-- MINUTES that are left between two bays -/
def crowdN (n : tN) (lo hi : Nat) : Nat := sumN (fun t => if lo ≤ nA n 12 t ∧ nA n 12 t < hi then leftN n t else 0) (nF n 3)
def workN (n : tN) (lo hi c : Nat) : Bool := nWorks n c && (decide (lo ≤ nA n 7 c) && decide (nA n 7 c < hi))
theorem crowd_step (hn : wfN n) {lo hi : Nat} : crowdN n lo hi ≤ crowdN (passN n) lo hi + sumN (fun c => (workN n lo hi c).toNat) (nF n 2) := by
  obtain ⟨hF, hC, hT, hL⟩ := id hn
  have h1 : crowdN n lo hi ≤ sumN (fun t => (if lo ≤ nA n 12 t ∧ nA n 12 t < hi then leftN (passN n) t else 0) + sumN (fun c => (workN n lo hi c && decide (nNext n c = some t)).toNat) (nF n 2)) (nF n 3) := by
    refine sum_le fun t ht => ?_
    by_cases hw : lo ≤ nA n 12 t ∧ nA n 12 t < hi
    · rw [if_pos hw, if_pos hw]
      cases hb : nBy n t with
      | none =>
        have : leftN (passN n) t = leftN n t := by
          show nA n 13 t - nDid n t = _
          unfold nDid; rw [hb]; rfl
        omega
      | some c =>
        obtain ⟨b1, b2, b3⟩ := by_some (i := nF n 2) hb
        have e : leftN (passN n) t = nA n 13 t - (nA n 16 t + 1) := by
          show nA n 13 t - nDid n t = _
          unfold nDid; rw [hb]; rfl
        have w := works_of b2 b3
        have h2 := sum_ge (f := fun c => (workN n lo hi c && decide (nNext n c = some t)).toNat) b1
        have h3 : (workN n lo hi c && decide (nNext n c = some t)).toNat = 1 := by
          unfold workN
          rw [b2, decide_eq_true b3, w.2.1, decide_eq_true hw.1, decide_eq_true hw.2]
          rfl
        have h2 : (workN n lo hi c && decide (nNext n c = some t)).toNat ≤ _ := h2
        rw [h3] at h2
        unfold leftN at e ⊢
        omega
    · rw [if_neg hw, if_neg hw]; omega
  rw [sum_add, sum_swap] at h1
  refine Nat.le_trans h1 (Nat.add_le_add_left (sum_le fun c hc => ?_) _)
  cases hw : workN n lo hi c with
  | false => rw [sum_zero (f := fun i => (false && decide (nNext n c = some i)).toNat) fun t _ => rfl]; exact Nat.zero_le _
  | true =>
    refine sum_one (p := fun t => true && decide (nNext n c = some t)) fun i j _ _ hi hj => ?_
    simp only [Bool.true_and, decide_eq_true_eq] at hi hj
    rw [hi] at hj
    exact Option.some.inj hj
theorem crowd_over {n : tN} (h : covN n) (ho : overN n = true) {lo hi : Nat} : crowdN n lo hi = 0 := by
  refine sum_zero fun t ht => ?_
  rw [left_done (cov_over h ho ht)]
  split <;> rfl
def ableN (n : tN) : Nat := sumN (fun c => (!nK n c).toNat) (nF n 2)
theorem low_share {n : tN} (h : covN n) {m : Nat} (hl : isLast n m) {lo hi : Nat} : crowdN n lo hi ≤ ableN n * m := by
  refine pot (P := fun k => covN k ∧ ableN k = ableN n) (F := fun n => crowdN n lo hi) (a := ableN n) (fun k hk => ⟨cov_pass hk.1, hk.2⟩) (fun k hk => ?_) (fun k hk ho => crowd_over hk.1 ho) m n ⟨h, rfl⟩ hl.1
  refine Nat.le_trans (crowd_step hk.1.1) (Nat.add_le_add_left ?_ _)
  rw [← hk.2]
  refine sum_le fun c hc => ?_
  cases hw : workN k lo hi c with
  | false => exact Nat.zero_le _
  | true =>
    unfold workN at hw
    rw [Bool.and_eq_true] at hw
    obtain ⟨t, ht⟩ := works_next hw.1
    rw [(works_of hw.1 ht).1]
    exact Nat.le_refl _
theorem low_crowd {n : tN} (h : covN n) {m : Nat} (hl : isLast n m) {lo hi : Nat} (hw : hi ≤ lo + nF n 1) : crowdN n lo hi ≤ m := by
  have := pot (P := fun k => covN k ∧ nF k 1 = nF n 1) (F := fun n => crowdN n lo hi) (a := 1) (fun k hk => ⟨cov_pass hk.1, hk.2⟩) (fun k hk => by
    refine Nat.le_trans (crowd_step hk.1.1) (Nat.add_le_add_left (sum_one fun i j hi' hj' hi2 hj2 => ?_) _)
    unfold workN at hi2 hj2
    simp only [Bool.and_eq_true, decide_eq_true_eq] at hi2 hj2
    have g0 : 1 ≤ nF k 1 := hk.1.1.1.2.2.2.2.1
    have far : ∀ a b, a < b → b < nF k 2 → lo ≤ nA k 7 a → nA k 7 b < hi → False := by
      intro a b hab hb h1 h2
      have := chain hk.1.1.2.1 (i := a) (k := b - a) (by omega)
      rw [show a + (b - a) = b by omega] at this
      have h3 : nF k 1 * 1 ≤ nF k 1 * (b - a) := Nat.mul_le_mul_left _ (by omega)
      rw [hk.2] at this h3
      omega
    rcases Nat.lt_trichotomy i j with e | e | e
    · exact (far i j e hj' hi2.2.1 hj2.2.2).elim
    · exact e
    · exact (far j i e hi' hj2.2.1 hi2.2.2).elim) (fun k hk ho => crowd_over hk.1 ho) m n ⟨h, rfl⟩ hl.1
  omega
/-! the longest row -/
def maxN (f : Nat → Nat) : Nat → Nat
  | 0 => 0
  | k + 1 => max (maxN f k) (f k)
theorem max_le {f : Nat → Nat} {m : Nat} : ∀ {k}, (∀ i, i < k → f i ≤ m) → maxN f k ≤ m
  | 0, _ => Nat.zero_le _
  | k + 1, h => Nat.max_le.mpr ⟨max_le fun i hi => h i (by omega), h k (by omega)⟩
theorem max_ge {f : Nat → Nat} {j : Nat} : ∀ {k}, j < k → f j ≤ maxN f k
  | k + 1, h => by
    rw [maxN]
    by_cases e : j = k
    · rw [e]; exact Nat.le_max_right _ _
    · exact Nat.le_trans (max_ge (k := k) (by omega)) (Nat.le_max_left _ _)
def rowN (n : tN) : Nat → Nat → Nat
  | 0, _ => 0
  | f + 1, t => maxN (fun u => if nV n t u then rowN n f u else 0) t + leftN n t
theorem row_done (hT : wfT n) : ∀ f t, t < nF n 3 → nDone n t = true → rowN n f t = 0
  | 0, t, _, _ => rfl
  | f + 1, t, ht, hd => by
    rw [rowN, left_done hd]
    have h0 : 0 < nA n 16 t := by
      have := (hT t ht).2.1
      unfold nDone at hd
      rw [decide_eq_true_eq] at hd
      omega
    have := max_le (f := fun u => if nV n t u then rowN n f u else 0) (m := 0) (k := t) fun u hu => by
      cases hv : nV n t u with
      | false => exact Nat.le_refl _
      | true =>
        show rowN n f u ≤ 0
        rw [row_done hT f u (by omega) (((hT t ht).2.2.2.2.2.2 u hv).2 h0)]
        exact Nat.le_refl _
    omega
theorem row_step (hn : wfN n) : ∀ f t, t < nF n 3 → rowN n f t ≤ rowN (passN n) f t + 1
  | 0, t, _ => Nat.zero_le _
  | f + 1, t, ht => by
    obtain ⟨hF, hC, hT, hL⟩ := id hn
    rw [rowN, rowN]
    cases hb : nBy n t with
    | some c =>
      obtain ⟨b1, b2, b3⟩ := by_some (i := nF n 2) hb
      have e : leftN (passN n) t = nA n 13 t - (nA n 16 t + 1) := by
        show nA n 13 t - nDid n t = _
        unfold nDid; rw [hb]; rfl
      have := max_le (f := fun u => if nV n t u then rowN n f u else 0) (m := 0) (k := t) fun u hu => by
        cases hv : nV n t u with
        | false => exact Nat.le_refl _
        | true =>
          show rowN n f u ≤ 0
          rw [row_done hT f u (by omega) (free_of (by omega) hv (works_of b2 b3).2.2.1)]
          exact Nat.le_refl _
      unfold leftN at e ⊢
      omega
    | none =>
      have e : leftN (passN n) t = leftN n t := by
        show nA n 13 t - nDid n t = _
        unfold nDid; rw [hb]; rfl
      have := max_le (f := fun u => if nV n t u then rowN n f u else 0) (m := maxN (fun u => if nV (passN n) t u then rowN (passN n) f u else 0) t + 1) (k := t) fun u hu => by
        cases hv : nV n t u with
        | false => exact Nat.zero_le _
        | true =>
          have h1 := row_step hn f u (by omega)
          have h2 := max_ge (f := fun u => if nV (passN n) t u then rowN (passN n) f u else 0) hu
          have h2 : (if nV n t u then rowN (passN n) f u else 0) ≤ _ := h2
          rw [hv, if_pos rfl] at h2
          show rowN n f u ≤ _
          omega
      omega
def rowsN (n : tN) : Nat := maxN (rowN n 8) (nF n 3)
theorem low_row {n : tN} (h : covN n) {m : Nat} (hl : isLast n m) : rowsN n ≤ m := by
  have := pot (P := covN) (F := rowsN) (a := 1) (fun k hk => cov_pass hk) (fun k hk => by
    refine max_le fun t ht => ?_
    have h1 := row_step hk.1 8 t ht
    have h2 := max_ge (f := rowN (passN k) 8) (j := t) (k := nF k 3) ht
    have h2 : rowN (passN k) 8 t ≤ rowsN (passN k) := h2
    omega) (fun k hk ho => by
    have := max_le (f := rowN k 8) (m := 0) (k := nF k 3) fun t ht => by rw [row_done hk.1.2.2.1 8 t ht (cov_over hk ho ht)]; exact Nat.le_refl _
    show maxN (rowN k 8) (nF k 3) = 0
    omega) m n h hl.1
  omega
end LOW
