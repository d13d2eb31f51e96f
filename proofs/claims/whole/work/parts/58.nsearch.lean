/-! the plain quay: plans tried one after another -/
abbrev tL : Type := Nat → List Nat
abbrev tG : Type := Nat × Option (Nat × tL)
def isLast (n : tN) (m : Nat) : Prop := overN (runN m n) = true ∧ ∀ j, j < m → overN (runN j n) = false
theorem isLast_uniq {n : tN} {a b : Nat} (h1 : isLast n a) (h2 : isLast n b) : a = b := by
  rcases Nat.lt_trichotomy a b with e | e | e
  · have := h2.2 a e; rw [h1.1] at this; cases this
  · exact e
  · have := h1.2 b e; rw [h2.1] at this; cases this
theorem lastN_iff : ∀ {k m : Nat} {n : tN}, lastN k n = some m ↔ m ≤ k ∧ isLast n m
  | 0, m, n => by
    rw [lastN]
    constructor
    · intro h
      split at h
      · rename_i ho
        cases h
        exact ⟨Nat.le_refl _, ho, fun j hj => absurd hj (Nat.not_lt_zero j)⟩
      · cases h
    · rintro ⟨h1, h2⟩
      have e : m = 0 := by omega
      subst e
      rw [if_pos (show overN n = true from h2.1)]
  | k + 1, m, n => by
    rw [lastN]
    by_cases ho : overN n = true
    · rw [if_pos ho]
      constructor
      · intro h; cases h; exact ⟨Nat.zero_le _, ho, fun j hj => absurd hj (Nat.not_lt_zero j)⟩
      · rintro ⟨-, h2⟩
        by_cases e : m = 0
        · rw [e]
        · have := h2.2 0 (by omega)
          rw [show runN 0 n = n from rfl, ho] at this; cases this
    · rw [if_neg ho, Option.map_eq_some_iff]
      constructor
      · rintro ⟨a, h1, rfl⟩
        obtain ⟨h2, h3, h4⟩ := lastN_iff.mp h1
        refine ⟨by omega, h3, fun j hj => ?_⟩
        match j with
        | 0 => exact (show overN n = false by simpa using ho)
        | j + 1 => exact h4 j (by omega)
      · rintro ⟨h1, h2, h3⟩
        match m with
        | 0 => exact absurd h2 ho
        | m + 1 => exact ⟨m, lastN_iff.mpr ⟨by omega, h2, fun j hj => h3 (j + 1) (by omega)⟩, rfl⟩
def lastK : Nat → tN → Option Nat
  | 0, _ => none
  | k + 1, n => lastN k n
theorem lastK_iff {k m : Nat} {n : tN} : lastK k n = some m ↔ m < k ∧ isLast n m := by
  match k with
  | 0 => exact ⟨fun h => (by cases h), fun h => absurd h.1 (Nat.not_lt_zero m)⟩
  | k + 1 => exact lastN_iff.trans ⟨fun h => ⟨by omega, h.2⟩, fun h => ⟨by omega, h.2⟩⟩
theorem lastK_none {k : Nat} {n : tN} (h : ∀ m, isLast n m → k ≤ m) : lastK k n = none := by
  cases e : lastK k n with
  | none => rfl
  | some m =>
    obtain ⟨h1, h2⟩ := lastK_iff.mp e
    have := h m h2
    omega
def wgN (n : tN) (g : tG) (l : tL) : tG := match lastK g.1 (jL n l) with
  | some m => (m, some (m, l))
  | none => g
def pickN (n : tN) (ps : List tL) (g : tG) : tG := ps.foldl (wgN n) g
theorem pick_app {n : tN} {ps qs : List tL} {g : tG} : pickN n (ps ++ qs) g = pickN n qs (pickN n ps g) := List.foldl_append
theorem pick_none {n : tN} {g : tG} : ∀ {ps : List tL}, (∀ l, l ∈ ps → ∀ m, isLast (jL n l) m → g.1 ≤ m) → pickN n ps g = g
  | [], _ => rfl
  | l :: ps, h => by
    show pickN n ps (wgN n g l) = g
    have e : wgN n g l = g := by
      unfold wgN
      rw [lastK_none (h l List.mem_cons_self)]
    rw [e]
    exact pick_none fun l hl => h l (List.mem_cons_of_mem _ hl)
theorem pick_eq {n : tN} : ∀ {ps : List tL} {a b : Nat} {fa fb : Option (Nat × tL)}, (∃ l, l ∈ ps ∧ ∃ m, isLast (jL n l) m ∧ m < a ∧ m < b) → pickN n ps (a, fa) = pickN n ps (b, fb)
  | [], _, _, _, _, h => by obtain ⟨l, hl, -⟩ := h; cases hl
  | p :: ps, a, b, fa, fb, h => by
    show pickN n ps (wgN n (a, fa) p) = pickN n ps (wgN n (b, fb) p)
    obtain ⟨l, hl, m, h1, h2, h3⟩ := h
    unfold wgN
    simp only
    cases ea : lastK a (jL n p) with
    | some v =>
      obtain ⟨a1, a2⟩ := lastK_iff.mp ea
      cases eb : lastK b (jL n p) with
      | some w =>
        obtain ⟨b1, b2⟩ := lastK_iff.mp eb
        rw [isLast_uniq a2 b2]
      | none =>
        have hv : b ≤ v := by
          rcases Nat.lt_or_ge v b with e | e
          · rw [lastK_iff.mpr ⟨e, a2⟩] at eb; cases eb
          · exact e
        rcases List.mem_cons.mp hl with e | e
        · subst e
          have := isLast_uniq h1 a2
          omega
        · exact pick_eq ⟨l, e, m, h1, by omega, h3⟩
    | none =>
      cases eb : lastK b (jL n p) with
      | some w =>
        obtain ⟨b1, b2⟩ := lastK_iff.mp eb
        have hv : a ≤ w := by
          rcases Nat.lt_or_ge w a with e | e
          · rw [lastK_iff.mpr ⟨e, b2⟩] at ea; cases ea
          · exact e
        rcases List.mem_cons.mp hl with e | e
        · subst e
          have := isLast_uniq h1 b2
          omega
        · exact pick_eq ⟨l, e, m, h1, h2, by omega⟩
      | none =>
        rcases List.mem_cons.mp hl with e | e
        · subst e
          rw [lastK_iff.mpr ⟨h2, h1⟩] at ea; cases ea
        · exact pick_eq ⟨l, e, m, h1, h2, h3⟩
/-- what was found comes from the plans, with its LAST -/
theorem pick_from {n : tN} : ∀ {ps : List tL} {g : tG}, (pickN n ps g = g) ∨ ∃ l m, l ∈ ps ∧ isLast (jL n l) m ∧ pickN n ps g = (m, some (m, l)) ∧ m < g.1
  | [], g => Or.inl rfl
  | p :: ps, g => by
    have e : pickN n (p :: ps) g = pickN n ps (wgN n g p) := rfl
    rw [e]
    cases hw : lastK g.1 (jL n p) with
    | none =>
      have e2 : wgN n g p = g := by unfold wgN; rw [hw]
      rw [e2]
      rcases pick_from (n := n) (ps := ps) (g := g) with h | ⟨l, m, h1, h2, h3, h4⟩
      · exact Or.inl h
      · exact Or.inr ⟨l, m, List.mem_cons_of_mem _ h1, h2, h3, h4⟩
    | some v =>
      have e2 : wgN n g p = (v, some (v, p)) := by unfold wgN; rw [hw]
      obtain ⟨a1, a2⟩ := lastK_iff.mp hw
      rw [e2]
      rcases pick_from (n := n) (ps := ps) (g := (v, some (v, p))) with h | ⟨l, m, h1, h2, h3, h4⟩
      · exact Or.inr ⟨p, v, List.mem_cons_self, a2, h, a1⟩
      · exact Or.inr ⟨l, m, List.mem_cons_of_mem _ h1, h2, h3, Nat.lt_trans h4 a1⟩
/-! all plans -/
def rmvF (left : Nat → Bool) (t : Nat) : Nat → Bool := fun u => if u = t then false else left u
def appF (l : tL) (c t : Nat) : tL := fun q => if q = c then l c ++ [t] else l q
def enN (n : tN) : Nat → Nat → (Nat → Bool) → tL → List tL
  | 0, _, _, _ => []
  | f + 1, c, left, l => if nF n 2 ≤ c then (if (List.range (nF n 3)).all (fun t => !left t) then [l] else []) else enN n f (c + 1) left l ++ (if nK n c then [] else (List.range (nF n 3)).flatMap (fun t => if left t && nLift n c t then enN n f c (rmvF left t) (appF l c t) else []))
def cutG (n : tN) (F : List Nat → tL → List tL) (c : Nat) : List Nat → tL → List tL
  | [], _ => []
  | t :: r, l => if nLift n c t then F r (appF l c t) ++ cutG n F c r (appF l c t) else []
def cutN (n : tN) : Nat → Nat → List Nat → tL → List tL
  | 0, _, rest, l => if rest.isEmpty then [l] else []
  | k + 1, c, rest, l => cutN n k (c + 1) rest l ++ (if nK n c then [] else cutG n (cutN n k (c + 1)) c rest l)
def tailL (p : tL) : Nat → Nat → List Nat
  | _, 0 => []
  | c, k + 1 => p c ++ tailL p (c + 1) k
theorem app_at {l : tL} {c t : Nat} : appF l c t c = l c ++ [t] := if_pos rfl
theorem app_ne {l : tL} {c t q : Nat} (h : q ≠ c) : appF l c t q = l q := if_neg h
theorem mem_tail {p : tL} {t : Nat} : ∀ {k c : Nat}, t ∈ tailL p c k ↔ ∃ q, c ≤ q ∧ q < c + k ∧ t ∈ p q
  | 0, c => ⟨fun h => (by cases h), fun ⟨q, h1, h2, _⟩ => by omega⟩
  | k + 1, c => by
    rw [tailL, List.mem_append, mem_tail (k := k)]
    constructor
    · rintro (h | ⟨q, h1, h2, h3⟩)
      · exact ⟨c, Nat.le_refl _, by omega, h⟩
      · exact ⟨q, by omega, by omega, h3⟩
    · rintro ⟨q, h1, h2, h3⟩
      by_cases e : q = c
      · subst e; exact Or.inl h3
      · exact Or.inr ⟨q, by omega, by omega, h3⟩
theorem mem_enN {n : tN} {p : tL} : ∀ f k c r left l, c + k = nF n 2 → (∀ q, q < c → p q = l q) → (∀ q, nF n 2 ≤ q → p q = l q) → (∀ q, c < q → q < nF n 2 → l q = []) → (0 < k → p c = l c ++ r) → (k = 0 → r = []) → (r ++ tailL p (c + 1) (k - 1)).Nodup → (∀ t, t ∈ r ++ tailL p (c + 1) (k - 1) → left t = true ∧ t < nF n 3) → (∀ t, t < nF n 3 → left t = true → t ∈ r ++ tailL p (c + 1) (k - 1)) → (∀ t, t ∈ r → nLift n c t = true ∧ nK n c = false) → (∀ q, c < q → q < nF n 2 → ∀ t, t ∈ p q → nLift n q t = true ∧ nK n q = false) → k + (r ++ tailL p (c + 1) (k - 1)).length < f → p ∈ enN n f c left l := by
  intro f
  induction f with
  | zero => intro k c r left l _ _ _ _ _ _ _ _ _ _ _ h; omega
  | succ f ih =>
    intro k c r left l hk h1 h2 h3 h4 h5 h6 h7 h8 h9 h10 h11
    rw [enN]
    by_cases hk0 : k = 0
    · subst hk0
      have hr := h5 rfl
      subst hr
      have e : p = l := by
        funext q
        rcases Nat.lt_or_ge q c with a | a
        · exact h1 q a
        · exact h2 q (by omega)
      rw [if_pos (by omega), if_pos (List.all_eq_true.mpr fun t ht => by
        cases hl : left t with
        | false => rfl
        | true =>
          have := h8 t (List.mem_range.mp ht) hl
          simp [tailL] at this), e]
      exact List.mem_singleton.mpr rfl
    · obtain ⟨k, rfl⟩ : ∃ k', k = k' + 1 := ⟨k - 1, by omega⟩
      rw [if_neg (by omega), List.mem_append]
      have hp := h4 (by omega)
      simp only [Nat.add_sub_cancel] at h6 h7 h8 h11
      cases r with
      | nil =>
        refine Or.inl ?_
        rw [List.append_nil] at hp
        simp only [List.nil_append] at h6 h7 h8 h11
        have et : tailL p (c + 1) k = (if 0 < k then p (c + 1) else []) ++ tailL p (c + 1 + 1) (k - 1) := by
          match k with
          | 0 => rfl
          | k + 1 => rfl
        refine ih k (c + 1) (if 0 < k then p (c + 1) else []) left l (by omega) (fun q hq => ?_) h2 (fun q a b => h3 q (by omega) b) (fun hk => ?_) (fun hk => by rw [hk]; rfl) (et ▸ h6) (et ▸ h7) (et ▸ h8) (fun t ht => ?_) (fun q a b => h10 q (by omega) b) ?_
        · by_cases e : q = c
          · rw [e]; exact hp
          · exact h1 q (by omega)
        · rw [if_pos hk, h3 (c + 1) (by omega) (by omega)]; rfl
        · by_cases hk : 0 < k
          · rw [if_pos hk] at ht; exact h10 (c + 1) (by omega) (by omega) t ht
          · rw [if_neg hk] at ht; cases ht
        · rw [← et]; omega
      | cons t r =>
        obtain ⟨g1, g2⟩ := h9 t List.mem_cons_self
        obtain ⟨g3, g4⟩ := h7 t (List.mem_append_left _ List.mem_cons_self)
        rw [if_neg (by rw [g2]; decide)]
        refine Or.inr (List.mem_flatMap.mpr ⟨t, List.mem_range.mpr g4, ?_⟩)
        rw [if_pos (by rw [g3, g1]; rfl)]
        rw [List.cons_append] at h6 h7 h8 h11
        obtain ⟨n1, n2⟩ := List.nodup_cons.mp h6
        refine ih (k + 1) c r (rmvF left t) (appF l c t) hk (fun q hq => ?_) (fun q hq => ?_) (fun q a b => ?_) (fun _ => ?_) (fun h => by omega) n2 (fun u hu => ?_) (fun u a b => ?_) (fun u hu => h9 u (List.mem_cons_of_mem _ hu)) h10 ?_
        · rw [app_ne (by omega)]; exact h1 q hq
        · rw [app_ne (by omega)]; exact h2 q hq
        · rw [app_ne (by omega)]; exact h3 q a b
        · rw [app_at, List.append_assoc]; exact hp
        · obtain ⟨a, b⟩ := h7 u (List.mem_cons_of_mem _ hu)
          refine ⟨?_, b⟩
          show (if u = t then false else left u) = true
          rw [if_neg (fun e : u = t => n1 (e ▸ hu))]
          exact a
        · have b : (if u = t then false else left u) = true := b
          by_cases e : u = t
          · rw [if_pos e] at b; cases b
          · rw [if_neg e] at b
            rcases List.mem_cons.mp (h8 u a b) with q | q
            · exact absurd q e
            · exact q
        · rw [List.length_cons] at h11
          show k + 1 + (r ++ tailL p (c + 1) (k + 1 - 1)).length < f
          rw [Nat.add_sub_cancel]
          omega
/-- a cut plan's lists are runs -/
theorem mem_cutG {n : tN} {F : List Nat → tL → List tL} {c : Nat} {p : tL} : ∀ {rest : List Nat} {l : tL}, p ∈ cutG n F c rest l → ∃ s r, rest = s ++ r ∧ (∀ t, t ∈ s → nLift n c t = true) ∧ p ∈ F r (fun q => if q = c then l c ++ s else l q)
  | [], l, h => by cases h
  | t :: r, l, h => by
    rw [cutG] at h
    split at h
    · rename_i hl
      rcases List.mem_append.mp h with h | h
      · refine ⟨[t], r, rfl, fun u hu => by rw [List.mem_singleton.mp hu]; exact hl, h⟩
      · obtain ⟨s, r', e, h1, h2⟩ := mem_cutG h
        refine ⟨t :: s, r', by rw [e]; rfl, fun u hu => ?_, ?_⟩
        · rcases List.mem_cons.mp hu with q | q
          · rw [q]; exact hl
          · exact h1 u q
        · have : (fun q => if q = c then appF l c t c ++ s else appF l c t q) = fun q => if q = c then l c ++ t :: s else l q := by
            funext q
            by_cases e : q = c
            · rw [if_pos e, if_pos e, app_at, List.append_assoc]; rfl
            · rw [if_neg e, if_neg e, app_ne e]
          rw [this] at h2
          exact h2
    · cases h
theorem mem_cutN {n : tN} {p : tL} : ∀ k c rest l, (∀ q, c ≤ q → l q = []) → p ∈ cutN n k c rest l → (∀ q, q < c → p q = l q) ∧ (∀ q, c + k ≤ q → p q = l q) ∧ tailL p c k = rest ∧ ∀ q, c ≤ q → q < c + k → ∀ t, t ∈ p q → nLift n q t = true ∧ nK n q = false
  | 0, c, rest, l, hl, h => by
    rw [cutN] at h
    split at h
    · rename_i hr
      have e := List.mem_singleton.mp h
      subst e
      exact ⟨fun _ _ => rfl, fun _ _ => rfl, (List.isEmpty_iff.mp hr).symm, fun q a b => by omega⟩
    · cases h
  | k + 1, c, rest, l, hl, h => by
    rw [cutN, List.mem_append] at h
    rcases h with h | h
    · obtain ⟨h1, h2, h3, h4⟩ := mem_cutN k (c + 1) rest l (fun q hq => hl q (by omega)) h
      have hc : p c = [] := by rw [h1 c (by omega), hl c (Nat.le_refl _)]
      refine ⟨fun q hq => h1 q (by omega), fun q hq => h2 q (by omega), by rw [tailL, hc, h3]; rfl, fun q a b t ht => ?_⟩
      by_cases e : q = c
      · rw [e, hc] at ht; cases ht
      · exact h4 q (by omega) (by omega) t ht
    · split at h
      · cases h
      · rename_i hk
        have hk : nK n c = false := by simpa using hk
        obtain ⟨s, r, e, h1, h2⟩ := mem_cutG h
        obtain ⟨g1, g2, g3, g4⟩ := mem_cutN k (c + 1) r _ (fun q hq => by rw [if_neg (by omega)]; exact hl q (by omega)) h2
        have hc : p c = s := by rw [g1 c (by omega), if_pos rfl, hl c (Nat.le_refl _)]; rfl
        refine ⟨fun q hq => by rw [g1 q (by omega), if_neg (by omega)], fun q hq => by rw [g2 q (by omega), if_neg (by omega)], by rw [tailL, hc, g3, e], fun q a b t ht => ?_⟩
        by_cases e : q = c
        · subst e
          rw [hc] at ht
          exact ⟨h1 t ht, hk⟩
        · exact g4 q (by omega) (by omega) t ht
/-- the tasks that are left, and what was told of them as the search goes on -/
def invE (n : tN) (c : Nat) (left : Nat → Bool) (l : tL) : Prop := wfL (jL n l) ∧ (∀ q, c < q → l q = []) ∧ (∀ t, left t = true → t < nF n 3 ∧ nDone n t = false ∧ ∀ q, ¬ t ∈ l q) ∧ (∀ q t, t ∈ l q → nDone n t = false) ∧ ∀ t, t < nF n 3 → nDone n t = false → left t = true ∨ ∃ q, t ∈ l q
theorem invE_next {n : tN} {c : Nat} {left : Nat → Bool} {l : tL} (h : invE n c left l) : invE n (c + 1) left l := ⟨h.1, fun q hq => h.2.1 q (by omega), h.2.2⟩
theorem invE_app {n : tN} {c t : Nat} {left : Nat → Bool} {l : tL} (h : invE n c left l) (hc : c < nF n 2) (ht : left t = true) : invE n c (rmvF left t) (appF l c t) := by
  obtain ⟨⟨w1, w2, w3⟩, h2, h3, h4, h5⟩ := h
  obtain ⟨t1, t2, t3⟩ := h3 t ht
  have mem : ∀ q u, u ∈ appF l c t q ↔ u ∈ l q ∨ (q = c ∧ u = t) := by
    intro q u
    by_cases e : q = c
    · subst e; rw [app_at, List.mem_append, List.mem_singleton]; simp
    · rw [app_ne e]; simp [e]
  refine ⟨⟨fun q hq => ?_, fun q => ⟨?_, fun u hu => ?_⟩, fun q q' u hu hu' => ?_⟩, fun q hq => ?_, fun u hu => ?_, fun q u hu => ?_, fun u a b => ?_⟩
  · have hq : nF n 2 ≤ q := hq
    show appF l c t q = []
    rw [app_ne (by omega)]; exact w1 q hq
  · show (appF l c t q).Nodup
    by_cases e : q = c
    · subst e
      rw [app_at, List.nodup_append]
      refine ⟨(w2 q).1, by simp, fun a ha b hb => ?_⟩
      rw [List.mem_singleton.mp hb]
      exact fun e => t3 q (e ▸ ha)
    · rw [app_ne e]; exact (w2 q).1
  · rcases (mem q u).mp hu with e | ⟨-, e⟩
    · exact (w2 q).2 u e
    · rw [e]; exact t1
  · rcases (mem q u).mp hu with e | ⟨e1, e2⟩ <;> rcases (mem q' u).mp hu' with f | ⟨f1, f2⟩
    · exact w3 q q' u e f
    · rw [f2] at e; exact absurd e (t3 q)
    · rw [e2] at f; exact absurd f (t3 q')
    · omega
  · rw [app_ne (by omega)]; exact h2 q hq
  · have hu : (if u = t then false else left u) = true := hu
    by_cases e : u = t
    · rw [if_pos e] at hu; cases hu
    · rw [if_neg e] at hu
      obtain ⟨a, b, d⟩ := h3 u hu
      exact ⟨a, b, fun q hq => by rcases (mem q u).mp hq with f | ⟨-, f⟩; exact d q f; exact e f⟩
  · rcases (mem q u).mp hu with e | ⟨-, e⟩
    · exact h4 q u e
    · rw [e]; exact t2
  · by_cases e : u = t
    · exact Or.inr ⟨c, (mem c u).mpr (Or.inr ⟨rfl, e⟩)⟩
    · rcases h5 u a b with f | ⟨q, f⟩
      · refine Or.inl ?_
        show (if u = t then false else left u) = true
        rw [if_neg e]; exact f
      · exact Or.inr ⟨q, (mem q u).mpr (Or.inl f)⟩
theorem enN_pre {n : tN} {p : tL} : ∀ f c left l, p ∈ enN n f c left l → ∀ q, q < c → p q = l q
  | 0, c, left, l, h, q, hq => by cases h
  | f + 1, c, left, l, h, q, hq => by
    rw [enN] at h
    split at h
    · split at h
      · rw [List.mem_singleton.mp h]
      · cases h
    · rcases List.mem_append.mp h with h | h
      · exact enN_pre f (c + 1) left l h q (by omega)
      · split at h
        · cases h
        · obtain ⟨t, ht, h⟩ := List.mem_flatMap.mp h
          split at h
          · rw [enN_pre f c _ _ h q hq, app_ne (by omega)]
          · cases h
/-- of each plan there -/
theorem enN_of {n : tN} {p : tL} : ∀ f c left l, invE n c left l → p ∈ enN n f c left l → wfL (jL n p) ∧ (∀ q t, t ∈ p q → nDone n t = false) ∧ (∀ t, t < nF n 3 → nDone n t = false → ∃ q, t ∈ p q) ∧ ∃ r, p c = l c ++ r
  | 0, c, left, l, _, h => by cases h
  | f + 1, c, left, l, hi, h => by
    rw [enN] at h
    split at h
    · split at h
      · rename_i hall
        have e := List.mem_singleton.mp h
        subst e
        obtain ⟨h1, h2, h3, h4, h5⟩ := hi
        refine ⟨h1, h4, fun t a b => ?_, [], (List.append_nil _).symm⟩
        rcases h5 t a b with e | e
        · have := List.all_eq_true.mp hall t (List.mem_range.mpr a)
          rw [e] at this; cases this
        · exact e
      · cases h
    · rename_i hc
      rcases List.mem_append.mp h with h | h
      · obtain ⟨h1, h2, h3, -⟩ := enN_of f (c + 1) left l (invE_next hi) h
        have : p c = l c := enN_pre f (c + 1) left l h c (by omega)
        exact ⟨h1, h2, h3, [], by rw [this, List.append_nil]⟩
      · split at h
        · cases h
        · obtain ⟨t, ht, h⟩ := List.mem_flatMap.mp h
          split at h
          · rename_i hl
            rw [Bool.and_eq_true] at hl
            obtain ⟨h1, h2, h3, r, h4⟩ := enN_of f c _ _ (invE_app hi (by omega) hl.1) h
            exact ⟨h1, h2, h3, t :: r, by rw [h4, app_at, List.append_assoc]; rfl⟩
          · cases h
