/-! the machine's heap and the pure run's: addresses, cells, locals -/
/-- the classes' numbers, the arrays' classes, where our cells begin, the script's cell, the texts' cells -/
abbrev sG : Type := va_G × (Nat → ClassId) × Nat × Nat × (Nat → Nat)
def s_ad (G : sG) (a : Nat) : Nat := if a < 1000000 then G.2.2.1 + a else if a = 1000000 then G.2.2.2.1 else G.2.2.2.2 (a - 1000001)
def s_tr (G : sG) : Value → Value
  | .ref a => .ref (s_ad G a)
  | v => v
def s_toE (G : sG) : sC → va_E
  | .inl (t, n, .inl f) => .inl (G.2.1 t, n, .inl f)
  | .inl (t, n, .inr (.inl f)) => .inl (G.2.1 t, n, .inr (.inl f))
  | .inl (t, n, .inr (.inr (.inl f))) => .inl (G.2.1 t, n, .inr (.inr (.inl f)))
  | .inl (t, n, .inr (.inr (.inr (.inl f)))) => .inl (G.2.1 t, n, .inr (.inr (.inr (.inl f))))
  | .inl (t, n, .inr (.inr (.inr (.inr f)))) => .inl (G.2.1 t, n, .inr (.inr (.inr (.inr fun j => (f j).map (s_ad G)))))
  | .inr (c, fs) => .inr (c, fs.map (s_tr G))
def s_ws (G : sG) (h : sH) : va_W := (List.range h.2.1).map fun k => (G.2.2.1 + k, s_toE G (hg h k))
def s_tys (G : sG) : List (ClassId × FieldType) := (List.range 6).map fun t => (G.2.1 t, s_kind t)
def s_A (G : sG) : Nat → Prop := fun q => G.2.2.1 ≤ q
def s_HR (G : sG) (h : sH) (H : Heap) : Prop := va_P G.1 vwCl (s_ws G h) H ∧ G.2.2.1 + h.2.1 ≤ H.size ∧ (h.1 = true → H.size = G.2.2.1 + h.2.1) ∧ h.2.1 ≤ 999999 ∧ ∀ k, h.2.1 ≤ k → k ≠ 1000000 → hg h k = s_junk
def s_K (G : sG) (U : State) : Prop := va_K G.1 vwCl (s_tys G) U ∧ va_AO RX1 U ∧ va_AO RX7 U ∧ (∀ a i x hh, Jvm.Cond.methodLinkNest a i x hh ∈ lw_tbl → va_Nw (.methodLinkNest a i x hh) U) ∧ (∀ x, Jvm.Cond.declares x ∈ lw_tbl → va_Nw (.declares x) U) ∧ ∀ a b, Jvm.Cond.castable a b ∈ lw_tbl → va_Nw (.castable a b) U
-- rows of kit/laws/EXCEPTIONS.to-paste (a starting text): where a static field lies
def vx_L (C n d : String) (A : Nat → Prop) (U : State) (H : Heap) : Prop := ∃ (c : ClassId) (k : Class) (i : Nat) (f : Field) (a : Nat) (cell : Cell), U.vm.findClass C = some c ∧ U.fieldFound? C n d = some (c, k, i, f) ∧ f.isStatic = true ∧ k.statics = some a ∧ H[a]? = some cell ∧ cell.vm.isStatics = true ∧ cell.cls = c ∧ f.slot < cell.slots.size ∧ k.staticTypes[f.slot]? = some f.type ∧ ¬ A a
theorem vx_L.moved {C n d : String} {A : Nat → Prop} {u U : State} {H : Heap} (hvm : u.vm.Alike U.vm) (h : vx_L C n d A u H) : vx_L C n d A U H := by
  obtain ⟨c, k, i, f, a, cell, h1, h2, h3, h4, h5, h6, h7, h8, h9, h10⟩ := h
  obtain ⟨k', hi', he⟩ := State.fieldFound?_setVm hvm h2
  exact ⟨c, k', i, f, a, cell, by rw [hvm.findClass]; exact h1, hi', h3, by rw [he]; exact h4, h5, h6, h7, h8, by rw [he]; exact h9, h10⟩
theorem vx_L.kept {C n d : String} {A : Nat → Prop} {U : State} {H H1 : Heap} (h : vx_L C n d A U H) (hq : ∀ a : Nat, a < H.size → ¬ A a → H1[a]? = H[a]?) : vx_L C n d A U H1 := by
  obtain ⟨c, k, i, f, a, cell, h1, h2, h3, h4, h5, h6, h7, h8, h9, h10⟩ := h
  exact ⟨c, k, i, f, a, cell, h1, h2, h3, h4, by rw [hq a (Array.getElem?_eq_some_iff.mp h5).1 h10]; exact h5, h6, h7, h8, h9, h10⟩
theorem vx_L.narrow {C n d : String} {A B : Nat → Prop} {U : State} {H : Heap} (h : vx_L C n d A U H) (hAB : ∀ q, B q → A q) : vx_L C n d B U H := by
  obtain ⟨c, k, i, f, a, cell, h1, h2, h3, h4, h5, h6, h7, h8, h9, h10⟩ := h
  exact ⟨c, k, i, f, a, cell, h1, h2, h3, h4, h5, h6, h7, h8, h9, fun z => h10 (hAB _ z)⟩
theorem vx_L.word {C n d : String} {A : Nat → Prop} {s : State} {args : Array Value} (h : vx_L C n d A s s.heap) : (Jvm.Cond.laysStatic C n d).before args s = true := by
  obtain ⟨c, k, i, f, a, cell, h1, h2, h3, h4, h5, h6, h7, h8, h9, -⟩ := h
  show (Jvm.Cond.laysStatic C n d).holds args s none s [] = true
  exact Jvm.Cond.laysStatic_of h1 h2 h3 h4 h5 h6 h7 h8 h9
def vx_Zq (C n d : String) (A : Nat → Prop) (U : State) (H : Heap) : Prop := va_Zq C n d A U H ∧ vx_L C n d A U H
theorem vx_Zq.moved {C n d : String} {A : Nat → Prop} {u U : State} {H : Heap} (hvm : u.vm.Alike U.vm) (h : vx_Zq C n d A u H) : vx_Zq C n d A U H := ⟨va_Zq.moved hvm h.1, vx_L.moved hvm h.2⟩
theorem vx_Zq.kept {C n d : String} {A : Nat → Prop} {U : State} {H H1 : Heap} (h : vx_Zq C n d A U H) (hq : ∀ a : Nat, a < H.size → ¬ A a → H1[a]? = H[a]?) : vx_Zq C n d A U H1 := ⟨va_Zq.kept h.1 hq, vx_L.kept h.2 hq⟩
theorem vx_Zq.narrow {C n d : String} {A B : Nat → Prop} {U : State} {H : Heap} (h : vx_Zq C n d A U H) (hAB : ∀ q, B q → A q) : vx_Zq C n d B U H := ⟨va_Zq.narrow h.1 hAB, vx_L.narrow h.2 hAB⟩
theorem vx_Zqof {args : Array Value} {s : State} {C n d : String} {A : Nat → Prop} (hl : (Jvm.Cond.laysStatic C n d).before args s = true) (hini : (Jvm.Cond.initialized C).before args s = true) (h : (Jvm.Cond.isRef (.static C n d)).before args s = true) (hA : ∀ a : Nat, a < s.heap.size → ¬ A a) : vx_Zq C n d A s s.heap := by
  refine ⟨va_Zqof hl hini h hA, ?_⟩
  obtain ⟨c, k, i, f, a, cell, h1, h2, h3, h4, h5, h6, h7, h8, h9⟩ := Jvm.Cond.laysStatic_spec hl
  exact ⟨c, k, i, f, a, cell, h1, h2, h3, h4, h5, h6, h7, h8, h9, hA a (Array.getElem?_eq_some_iff.mp h5).1⟩
/-- the statics that the JDK's own methods read -/
def s_Sta (G : sG) (U : State) (H : Heap) : Prop := va_Z "java/lang/String" "COMPACT_STRINGS" "Z" (.int 1) (s_A G) U H ∧ va_Z "java/lang/Math" "negativeZeroFloatBits" "J" (.long (-2147483648)) (s_A G) U H ∧ va_Zq "jdk/internal/util/Preconditions" "SIOOBE_FORMATTER" "Ljava/util/function/BiFunction;" (s_A G) U H ∧ vx_Zq Bundle.tN "UNASSIGNED_STACK" Bundle.steD (s_A G) U H ∧ vx_Zq Bundle.tN "SUPPRESSED_SENTINEL" Bundle.listD (s_A G) U H
theorem s_Sta.moved {G : sG} {u U : State} {H : Heap} (hv : u.vm.Alike U.vm) (h : s_Sta G u H) : s_Sta G U H := ⟨va_Z.moved hv h.1, va_Z.moved hv h.2.1, va_Zq.moved hv h.2.2.1, vx_Zq.moved hv h.2.2.2.1, vx_Zq.moved hv h.2.2.2.2⟩
theorem s_Sta.kept {G : sG} {U : State} {H H1 : Heap} (h : s_Sta G U H) (hq : ∀ a : Nat, a < H.size → ¬ s_A G a → H1[a]? = H[a]?) : s_Sta G U H1 := ⟨va_Z.kept h.1 hq, va_Z.kept h.2.1 hq, va_Zq.kept h.2.2.1 hq, vx_Zq.kept h.2.2.2.1 hq, vx_Zq.kept h.2.2.2.2 hq⟩
def s_Str (G : sG) (U : State) (H : Heap) : Prop := (∃ adV : Nat → Nat, vk_S 9 (s_txt.map List.length) s_txt G.2.2.2.2 adV (s_A G) U H) ∧ (∀ c i j, pk c i = some (.ref (1000001 + j)) → ∃ tx, vk_R (cR c) i tx (G.2.2.2.2 j) U) ∧ s_Sta G U H
def s_HX (G : sG) (x : sC) (U : State) (H : Heap) : Prop := x = s_junk ∨ ∃ n f, x = .inl (6, n, .inl f) ∧ va_X G.2.2.2.1 n f U H ∧ G.2.2.2.1 < H.size ∧ G.2.2.2.1 < G.2.2.1
def s_lvF (G : sG) : Nat → List Value → List (Nat × Value)
  | _, [] => []
  | i, v :: vs => if v = s_no then s_lvF G (i + 1) vs else (i, s_tr G v) :: s_lvF G (i + 1) vs
def s_lv (G : sG) (L : List Value) : List (Nat × Value) := s_lvF G 0 L
theorem s_lvF_mem {G : sG} {w : Value} {j : Nat} : ∀ {L : List Value} {i : Nat}, (j, w) ∈ s_lvF G i L ↔ ∃ t v, j = i + t ∧ L[t]? = some v ∧ v ≠ s_no ∧ w = s_tr G v
  | [], i => by simp [s_lvF]
  | u :: L, i => by
    unfold s_lvF
    by_cases hu : u = s_no
    · rw [if_pos hu, s_lvF_mem]
      constructor
      · rintro ⟨t, v, h1, h2, h3⟩
        exact ⟨t + 1, v, by omega, h2, h3⟩
      · rintro ⟨t, v, h1, h2, h3, h4⟩
        cases t with
        | zero => rw [List.getElem?_cons_zero] at h2; cases h2; exact absurd hu h3
        | succ t => exact ⟨t, v, by omega, h2, h3, h4⟩
    · rw [if_neg hu, List.mem_cons, s_lvF_mem]
      constructor
      · rintro (h | ⟨t, v, h1, h2, h3⟩)
        · cases h; exact ⟨0, u, rfl, rfl, hu, rfl⟩
        · exact ⟨t + 1, v, by omega, h2, h3⟩
      · rintro ⟨t, v, h1, h2, h3, h4⟩
        cases t with
        | zero => rw [List.getElem?_cons_zero] at h2; cases h2; exact Or.inl (by rw [h1, h4]; rfl)
        | succ t => exact Or.inr ⟨t, v, by omega, h2, h3, h4⟩
theorem s_lv_mem {G : sG} {w : Value} {j : Nat} {L : List Value} : (j, w) ∈ s_lv G L ↔ ∃ v, L[j]? = some v ∧ v ≠ s_no ∧ w = s_tr G v := by
  unfold s_lv
  rw [s_lvF_mem]
  constructor
  · rintro ⟨t, v, h1, h2⟩
    rw [Nat.zero_add] at h1
    exact ⟨v, by rw [h1]; exact h2⟩
  · rintro ⟨v, h⟩
    exact ⟨j, v, by omega, h⟩
theorem s_tr_cat (G : sG) (v : Value) : (s_tr G v).category = v.category := by cases v <;> rfl
theorem s_cat_tr (G : sG) (S : List Value) : ((S.map (s_tr G)).map fun v => v.category).sum = s_cat S := by
  rw [List.map_map]
  unfold s_cat
  congr 1
  exact List.map_congr_left (fun v _ => s_tr_cat G v)
theorem s_clr_get {L : List Value} {i j : Nat} {v : Value} (h : (s_clr L i)[j]? = some v) (hv : v ≠ s_no) : L[j]? = some v ∧ ¬ (j + 1 = i ∧ v.category = 2) := by
  cases i with
  | zero => exact ⟨h, fun h => by omega⟩
  | succ i =>
    unfold s_clr at h
    dsimp only at h
    cases hL : L[i]? with
    | none =>
      rw [hL] at h
      refine ⟨h, fun hh => ?_⟩
      have : j = i := by omega
      rw [this, hL] at h
      cases h
    | some u =>
      rw [hL] at h
      dsimp only at h
      by_cases hc : u.category = 2
      · rw [if_pos hc, List.getElem?_set] at h
        by_cases e : i = j
        · rw [if_pos e] at h
          split at h
          · exact absurd (Option.some.inj h).symm hv
          · cases h
        · rw [if_neg e] at h
          exact ⟨h, fun hh => by omega⟩
      · rw [if_neg hc] at h
        refine ⟨h, fun hh => ?_⟩
        have : j = i := by omega
        rw [this, hL] at h
        cases h
        exact hc hh.2
theorem lv_has.weak {ls : Array Slot} {n : Nat} {l l' : List (Nat × Value)} (h : lv_has ls n l) (hs : ∀ q ∈ l', q ∈ l) : lv_has ls n l' := ⟨h.1, h.2.1, fun q hq => h.2.2 q (hs q hq)⟩
theorem s_st1_has {G : sG} {ls : Array Slot} {n i : Nat} {L : List Value} {v w : Value} (hw : w = s_tr G v) (h : lv_has ls n ((i, w) :: (s_lv G L).filter (fun q => !(q.1 == i) && !(q.1 + 1 == i && q.2.category == 2)))) : lv_has ls n (s_lv G (s_st1 L i v)) := by
  refine h.weak fun q hq => ?_
  obtain ⟨j, u⟩ := q
  obtain ⟨x, h1, h2, h3⟩ := s_lv_mem.mp hq
  unfold s_st1 at h1
  rw [List.getElem?_set] at h1
  by_cases e : i = j
  · rw [if_pos e] at h1
    split at h1
    · cases h1
      rw [h3, hw, e]
      exact List.mem_cons_self
    · cases h1
  · rw [if_neg e] at h1
    obtain ⟨g1, g2⟩ := s_clr_get h1 h2
    refine List.mem_cons_of_mem _ (List.mem_filter.mpr ⟨s_lv_mem.mpr ⟨x, g1, h2, h3⟩, ?_⟩)
    have e1 : (j == i) = false := by simp; omega
    have e2 : (j + 1 == i && u.category == 2) = false := by
      rw [h3, s_tr_cat]
      cases hb : (j + 1 == i && x.category == 2) with
      | false => rfl
      | true =>
        simp at hb
        exact absurd hb g2
    simp only [e1, e2]
    rfl
theorem s_st2_has {G : sG} {ls : Array Slot} {n i : Nat} {L : List Value} {v w : Value} (hw : w = s_tr G v) (h : lv_has ls n ((i, w) :: (s_lv G L).filter (fun q => !(q.1 == i) && (!(q.1 == i + 1) && !(q.1 + 1 == i && q.2.category == 2))))) : lv_has ls n (s_lv G (s_st2 L i v)) := by
  refine h.weak fun q hq => ?_
  obtain ⟨j, u⟩ := q
  obtain ⟨x, h1, h2, h3⟩ := s_lv_mem.mp hq
  unfold s_st2 at h1
  rw [List.getElem?_set] at h1
  by_cases e0 : i + 1 = j
  · rw [if_pos e0] at h1
    split at h1
    · exact absurd (Option.some.inj h1).symm h2
    · cases h1
  rw [if_neg e0, List.getElem?_set] at h1
  by_cases e : i = j
  · rw [if_pos e] at h1
    split at h1
    · cases h1
      rw [h3, hw, e]
      exact List.mem_cons_self
    · cases h1
  · rw [if_neg e] at h1
    obtain ⟨g1, g2⟩ := s_clr_get h1 h2
    refine List.mem_cons_of_mem _ (List.mem_filter.mpr ⟨s_lv_mem.mpr ⟨x, g1, h2, h3⟩, ?_⟩)
    have e1 : (j == i) = false := by simp; omega
    have e3 : (j == i + 1) = false := by simp; omega
    have e2 : (j + 1 == i && u.category == 2) = false := by
      rw [h3, s_tr_cat]
      cases hb : (j + 1 == i && x.category == 2) with
      | false => rfl
      | true =>
        simp at hb
        exact absurd hb g2
    simp only [e1, e2, e3]
    rfl
theorem s_lv_at {G : sG} {ls : Array Slot} {n i : Nat} {L : List Value} {v : Value} (h : lv_has ls n (s_lv G L)) (hv : L[i]? = some v) (hn : v ≠ s_no) : ls[i]? = some (.val (s_tr G v)) := h.2.2 (i, s_tr G v) (s_lv_mem.mpr ⟨v, hv, hn, rfl⟩)
-- the heap
theorem s_ws_at {G : sG} {h : sH} {a : Nat} (ha : a < h.2.1) : (s_ws G h)[a]? = some (G.2.2.1 + a, s_toE G (hg h a)) := by
  unfold s_ws
  rw [List.getElem?_map, List.getElem?_range ha]
  rfl
theorem s_ws_len (G : sG) (h : sH) : (s_ws G h).length = h.2.1 := by simp [s_ws]
theorem s_ws_get {G : sG} {h : sH} {k : Nat} {q : Nat × va_E} (hk : (s_ws G h)[k]? = some q) : k < h.2.1 ∧ q = (G.2.2.1 + k, s_toE G (hg h k)) := by
  have hl : k < h.2.1 := by rw [← s_ws_len G h]; exact (List.getElem?_eq_some_iff.mp hk).1
  rw [s_ws_at hl] at hk
  exact ⟨hl, (Option.some.inj hk).symm⟩
theorem s_ws_D (G : sG) (h : sH) : va_D (s_A G) (s_ws G h) := by
  refine ⟨fun i j p q hp hq e => ?_, fun k q hq => ?_⟩
  · obtain ⟨-, rfl⟩ := s_ws_get hp
    obtain ⟨-, rfl⟩ := s_ws_get hq
    exact Nat.add_left_cancel e
  · obtain ⟨-, rfl⟩ := s_ws_get hq
    exact Nat.le_add_right _ _
theorem hg_hs (h : sH) (a b : Nat) (c : sC) : hg (hs h a c) b = if b = a then c else hg h b := rfl
theorem hg_hn (h : sH) (b : Nat) (c : sC) : hg (hn h c) b = if b = h.2.1 then c else hg h b := rfl
theorem s_ws_set {G : sG} {h : sH} {a : Nat} {c : sC} : (s_ws G h).set a (G.2.2.1 + a, s_toE G c) = s_ws G (hs h a c) := by
  apply List.ext_getElem?
  intro k
  rw [List.getElem?_set]
  by_cases e : a = k
  · subst e
    rw [if_pos rfl, s_ws_len]
    by_cases hl : a < h.2.1
    · rw [if_pos hl, s_ws_at (show a < (hs h a c).2.1 from hl), hg_hs, if_pos rfl]
    · rw [if_neg hl]
      symm
      rw [List.getElem?_eq_none_iff, s_ws_len]
      exact Nat.le_of_not_lt hl
  · rw [if_neg e]
    by_cases hl : k < h.2.1
    · rw [s_ws_at hl, s_ws_at (show k < (hs h a c).2.1 from hl), hg_hs, if_neg (fun x => e x.symm)]
    · rw [List.getElem?_eq_none_iff.mpr (by rw [s_ws_len]; omega), List.getElem?_eq_none_iff.mpr (by rw [s_ws_len]; exact Nat.le_of_not_lt hl)]
theorem s_HR.in {G : sG} {h : sH} {H : Heap} (r : s_HR G h H) {a : Nat} (ha : hg h a ≠ s_junk) (hx : a ≠ 1000000) : a < h.2.1 := by
  rcases Nat.lt_or_ge a h.2.1 with q | q
  · exact q
  · exact absurd (r.2.2.2.2 a q hx) ha
theorem s_HR.ad {G : sG} {h : sH} {H : Heap} (r : s_HR G h H) {a : Nat} (ha : a < h.2.1) : s_ad G a = G.2.2.1 + a := by
  unfold s_ad
  rw [if_pos (by have := r.2.2.2.1; omega)]
/-- a cell is written -/
theorem s_HR.put {G : sG} {h : sH} {H H1 : Heap} {a : Nat} {c : sC} (r : s_HR G h H) (ha : a < h.2.1) (hP : va_P G.1 vwCl ((s_ws G h).set a (G.2.2.1 + a, s_toE G c)) H1) (hz : H1.size = H.size) : s_HR G (hs h a c) H1 := by
  obtain ⟨r1, r2, r3, r4, r5⟩ := r
  refine ⟨by rw [s_ws_set] at hP; exact hP, by rw [hz]; exact r2, by rw [hz]; exact r3, r4, fun k hk hx => ?_⟩
  rw [hg_hs, if_neg (by intro e; rw [e] at hk; exact absurd ha (Nat.not_lt.mpr hk))]
  exact r5 k hk hx
/-- a cell comes -/
theorem s_HR.new {G : sG} {h : sH} {H H1 : Heap} {c : sC} (r : s_HR G h H) (hc : h.1 = true) (hl : h.2.1 < 999999) (hz : H1.size = H.size + 1) (ho : ∀ q, q < H.size → H1[q]? = H[q]?) (he : va_at G.1 vwCl (H.size, s_toE G c) H1) : s_HR G (hn h c) H1 := by
  obtain ⟨r1, r2, r3, r4, r5⟩ := r
  have hs0 := r3 hc
  refine ⟨fun k q hq => ?_, by rw [hz]; show G.2.2.1 + (h.2.1 + 1) ≤ _; omega, fun _ => by rw [hz]; show _ = G.2.2.1 + (h.2.1 + 1); omega, by show h.2.1 + 1 ≤ _; omega, fun k hk hx => ?_⟩
  · obtain ⟨g1, rfl⟩ := s_ws_get hq
    rw [hg_hn]
    by_cases e : k = h.2.1
    · rw [if_pos e, e, ← hs0]
      exact he
    · rw [if_neg e]
      have hk : k < h.2.1 := by have : k < h.2.1 + 1 := g1; omega
      have h1 := r1 k _ (s_ws_at hk)
      refine h1.kept (ho _ ?_)
      show G.2.2.1 + k < H.size
      omega
  · have hk' : h.2.1 + 1 ≤ k := hk
    rw [hg_hn, if_neg (by omega)]
    exact r5 k (by omega) hx
theorem s_fits (G : sG) (ty : FieldType) (v : Value) : fits ty (s_tr G v) = fits ty v := by cases v <;> cases ty <;> rfl
theorem s_narrow {G : sG} {ty : FieldType} {v : Value} (h : narrow ty v = v) : narrow ty (s_tr G v) = s_tr G v := by cases v <;> first | exact h | (cases ty <;> rfl)
theorem s_K.warm {G : sG} {s U : State} (hW : s.WarmedH U.vm) (h : s_K G s) : s_K G U :=
  ⟨va_K.moved hW.alike h.1, va_AO.moved hW.alike h.2.1, va_AO.moved hW.alike h.2.2.1, fun a i x hh hm => va_Nw.warmM hW (h.2.2.2.1 a i x hh hm), fun x hm => va_Nw.warmD hW (h.2.2.2.2.1 x hm), fun a b hm => va_Nw.warmC hW (h.2.2.2.2.2 a b hm)⟩
theorem s_Str.warm {G : sG} {s U : State} {H : Heap} {locs : List Loc} (hW : s.WarmedH U.vm) (hS : va_S (s_A G) s.heap H locs) (h : s_Str G s s.heap) : s_Str G U H := by
  obtain ⟨⟨adV, h1⟩, h2, h3⟩ := h
  exact ⟨⟨adV, (h1.moved hW.alike).kept hS.2.1⟩, fun c i j hj => (h2 c i j hj).imp fun tx hx => hx.warm hW, (s_Sta.moved hW.alike h3).kept hS.2.1⟩
theorem s_HX.warm {G : sG} {x : sC} {s U : State} {H : Heap} {locs : List Loc} (hW : s.WarmedH U.vm) (hS : va_S (s_A G) s.heap H locs) (h : s_HX G x s s.heap) : s_HX G x U H := by
  rcases h with h | ⟨n, f, h1, h2, h3, h4⟩
  · exact Or.inl h
  · exact Or.inr ⟨n, f, h1, (h2.moved hW.alike).kept (hS.2.1 _ h3 (Nat.not_le.mpr h4)), Nat.lt_of_lt_of_le h3 hS.1, h4⟩
