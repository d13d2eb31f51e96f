/-! what the start gives: classes, arrays, texts, statics -/
abbrev fl0 : List Jvm.Cond := flatC (Jvm.Cond.and given_1 narrow_1)
def kRd : List Nat := [42, 59, 67, 102, 112, 114, 116, 118, 120]
def kMd : List Nat := [167, 173, 175, 149, 180, 150, 158, 160, 162]
def kTx : List String := ["bays", "gap", "crane", "lift", "task", "at", "takes", "heavy", "after"]
def tRd (i : Nat) : Term := .string "QuayCranes$Reader" (kRd.getD i 0)
def tMd (i : Nat) : Term := .string "QuayCranesModel" (kMd.getD i 0)
def vRd (i : Nat) : Term := .field (tRd i) "java/lang/String" "value" "[B"
def lnT (i : Nat) : Nat := (s_txt.map List.length).getD i 0
theorem t_ln : ∀ i, i < 9 → lnT i < 2 ^ 31 := by decide +kernel
theorem t_ex : ∀ i, i < 9 → Jvm.Cond.exactly (tRd i) "java/lang/String" ∈ fl0 := by decide +kernel
theorem t_co : ∀ i, i < 9 → Jvm.Cond.eq (.field (tRd i) "java/lang/String" "coder" "B") (.int 0) ∈ fl0 := by decide +kernel
theorem t_ar : ∀ i, i < 9 → Jvm.Cond.arrayOf (vRd i) .byte ∈ fl0 := by decide +kernel
theorem t_le : ∀ i, i < 9 → Jvm.Cond.eq (.length (vRd i)) (.int (Int32.ofNat (lnT i))) ∈ fl0 := by decide +kernel
theorem t_el : ∀ i, i < 9 → ∀ j, j < lnT i → Jvm.Cond.eq (.elem (vRd i) (.int (Int32.ofNat j))) (.int ((s_txt.getD i []).getD j 0)) ∈ fl0 := by decide +kernel
theorem tx_ne : ∀ i, i < 9 → ∀ j, j < 9 → i ≠ j → Jvm.Cond.not (Jvm.Cond.eq (tRd i) (tRd j)) ∈ fl0 ∨ Jvm.Cond.not (Jvm.Cond.eq (tRd j) (tRd i)) ∈ fl0 := by decide +kernel
theorem t_sm : ∀ i, i < 9 → Jvm.Cond.eq (tRd i) (tMd i) ∈ fl0 := by decide +kernel
theorem t_cs : Jvm.Cond.eq (.static "java/lang/String" "COMPACT_STRINGS" "Z") (.int 1) ∈ fl0 := by decide +kernel
theorem t_nz : Jvm.Cond.eq (.static "java/lang/Math" "negativeZeroFloatBits" "J") (.long (-2147483648)) ∈ fl0 := by decide +kernel
theorem t_fo : Jvm.Cond.isRef (.static "jdk/internal/util/Preconditions" "SIOOBE_FORMATTER" "Ljava/util/function/BiFunction;") ∈ fl0 := by decide +kernel
theorem t_us : Jvm.Cond.isRef (.static Bundle.tN "UNASSIGNED_STACK" Bundle.steD) ∈ fl0 := by decide +kernel
theorem t_ss : Jvm.Cond.isRef (.static Bundle.tN "SUPPRESSED_SENTINEL" Bundle.listD) ∈ fl0 := by decide +kernel
theorem l_cs : Jvm.Cond.laysStatic "java/lang/String" "COMPACT_STRINGS" "Z" ∈ lw_tbl := List.mem_of_getElem? (i := 554) (by decide +kernel)
theorem l_nz : Jvm.Cond.laysStatic "java/lang/Math" "negativeZeroFloatBits" "J" ∈ lw_tbl := List.mem_of_getElem? (i := 1788) (by decide +kernel)
theorem l_fo : Jvm.Cond.laysStatic "jdk/internal/util/Preconditions" "SIOOBE_FORMATTER" "Ljava/util/function/BiFunction;" ∈ lw_tbl := List.mem_of_getElem? (i := 570) (by decide +kernel)
theorem l_us : Jvm.Cond.laysStatic Bundle.tN "UNASSIGNED_STACK" Bundle.steD ∈ lw_tbl := List.mem_of_getElem? (i := 1164) (by decide +kernel)
theorem l_ss : Jvm.Cond.laysStatic Bundle.tN "SUPPRESSED_SENTINEL" Bundle.listD ∈ lw_tbl := List.mem_of_getElem? (i := 1166) (by decide +kernel)
theorem l_iT : Jvm.Cond.initialized Bundle.tN ∈ lw_tbl := List.mem_of_getElem? (i := 125) (by decide +kernel)
def qRd : List Nat := [536, 606, 607, 612, 625, 626, 627, 628, 629]
def qMd : List Nat := [1381, 1412, 1413, 1421, 1422, 1427, 1431, 1432, 1433]
theorem l_rd : ∀ i, i < 9 → lw_tbl[qRd.getD i 0]? = some (.stringRef RX4 (kRd.getD i 0) (kTx.getD i "")) := by decide +kernel
theorem l_md : ∀ i, i < 9 → lw_tbl[qMd.getD i 0]? = some (.stringRef RX9 (kMd.getD i 0) (kTx.getD i "")) := by decide +kernel
def rfV (v : Value) : Nat := match v with
  | .ref a => a
  | _ => 0
theorem k_pks : ∀ c, c < 16 → ∀ j, j < (pkT.getD c []).length → (k_at pkT c j).map (fun e => decide (rfV e.2 < 1000001) || ((decide (c = 4) && decide (kRd[rfV e.2 - 1000001]? = some e.1)) || (decide (c = 9) && decide (kMd[rfV e.2 - 1000001]? = some e.1)))) = some true := by decide +kernel
theorem pk_txt {c i j : Nat} (h : pk c i = some (.ref (1000001 + j))) : (c = 4 ∧ kRd[j]? = some i) ∨ (c = 9 ∧ kMd[j]? = some i) := by
  obtain ⟨q, e, h1, h2, h3, h4⟩ := k_find h
  have hk := k_pks c (c_lt rfl h1) q h1
  rw [h2, Option.map_some] at hk
  have hk := Option.some.inj hk
  obtain ⟨e1, e2⟩ := e
  have h4 : e2 = .ref (1000001 + j) := h4
  subst h4
  have h3 : e1 = i := by simpa using h3
  subst h3
  have er : rfV (.ref (1000001 + j)) = 1000001 + j := rfl
  simp only [er, Nat.add_sub_cancel_left, Bool.or_eq_true, Bool.and_eq_true, decide_eq_true_eq] at hk
  rcases hk with hk | hk
  · omega
  · exact hk
section STA
variable {s : State} {b : Nat}
theorem st_cls (hts : ∀ w ∈ lw_tbl, w.before #[Value.ref b] s = true) : ∃ (dC : Nat → ClassId) (dI : Nat → Nat → Nat), ∀ (k : Nat) (q : vw_C), vwCl[k]? = some q → u_Kn s q.1 q.2.1 q.2.2 (dC k) (dI k) := by
  have h0 : ∀ k : Nat, ∃ q : ClassId × (Nat → Nat), k < 10 → u_Kn s (cR k) (cT k) (cN k) q.1 q.2 := fun k => by
    by_cases hk : k < 10
    · obtain ⟨o1, -⟩ := s_owns k hk
      obtain ⟨c0, i0, h⟩ := u_known (n := cN k) hts (fun w hw => (List.mem_filter.mp (o1 w hw)).1) (hts _ (List.mem_of_getElem? (k_obj k hk)))
      exact ⟨(c0, i0), fun _ => h⟩
    · exact ⟨(0, fun _ => 0), fun h => absurd h hk⟩
  obtain ⟨f, hf⟩ := Classical.axiomOfChoice h0
  refine ⟨fun k => (f k).1, fun k => (f k).2, fun k q hq => ?_⟩
  have hk : k < 10 := (List.getElem?_eq_some_iff.mp hq).1
  have h1 := hf k hk
  match k, hk, hq with
  | 0, _, hq => cases hq; exact h1
  | 1, _, hq => cases hq; exact h1
  | 2, _, hq => cases hq; exact h1
  | 3, _, hq => cases hq; exact h1
  | 4, _, hq => cases hq; exact h1
  | 5, _, hq => cases hq; exact h1
  | 6, _, hq => cases hq; exact h1
  | 7, _, hq => cases hq; exact h1
  | 8, _, hq => cases hq; exact h1
  | 9, _, hq => cases hq; exact h1
  | k + 10, hk, _ => exact absurd hk (by omega)
theorem st_prim {ty : FieldType} (hp : ∀ C, ty ≠ .object C) (h : (Jvm.Cond.arrayClass ty).before #[Value.ref b] s = true) : ∃ cA, ArrOfT s cA ty ∧ va_RA s cA ty := by
  obtain ⟨cA, kA, comp, h1, h2, h3⟩ := Cond.arrayClass_spec h
  refine ⟨cA, fun n z => ⟨fun k h => (by cases h), kA, h2, comp, h3⟩, ?_⟩
  cases ty <;> first | exact h1 | exact absurd rfl (hp _)
theorem st_ref {C : String} (h : (Jvm.Cond.arrayOver (.object C)).before #[Value.ref b] s = true) : ∃ cA, ArrOfT s cA (.object C) ∧ va_RA s cA (.object C) := by
  obtain ⟨comp, c, k, h1, -, h3, h4, h5⟩ := Cond.arrayOver_spec h
  exact ⟨c, fun n z => ⟨fun k h => (by cases h), k, h3, comp, h4⟩, k, comp, h3, h4, h1, h5⟩
theorem st_arr (hts : ∀ w ∈ lw_tbl, w.before #[Value.ref b] s = true) : ∃ f : Nat → ClassId, ∀ t, t < 6 → ArrOfT s (f t) (s_kind t) ∧ va_RA s (f t) (s_kind t) := by
  have g : ∀ w ∈ s_gt, w.before #[Value.ref b] s = true := fun w hw => hts w (List.mem_filter.mp hw).1
  obtain ⟨c0, h0⟩ := st_prim (fun C h => by cases h) (g _ n_ac_int)
  obtain ⟨c1, h1⟩ := st_prim (fun C h => by cases h) (g _ n_ac_boolean)
  obtain ⟨c2, h2⟩ := st_prim (fun C h => by cases h) (g _ n_ac_float)
  obtain ⟨c3, h3⟩ := st_prim (fun C h => by cases h) (g _ n_ac_long)
  obtain ⟨c4, h4⟩ := st_ref (hts _ n_ao1)
  obtain ⟨c5, h5⟩ := st_ref (hts _ n_ao7)
  refine ⟨fun t => [c0, c1, c2, c3, c4, c5].getD t c0, fun t ht => ?_⟩
  match t, ht with
  | 0, _ => exact h0
  | 1, _ => exact h1
  | 2, _ => exact h2
  | 3, _ => exact h3
  | 4, _ => exact h4
  | 5, _ => exact h5
  | t + 6, ht => exact absurd ht (by omega)
theorem st_txt (hgv : (Jvm.Cond.and given_1 narrow_1).before #[Value.ref b] s = true) {A : Nat → Prop} (hA : ∀ a : Nat, a < s.heap.size → ¬ A a) : ∃ adK adV : Nat → Nat, vk_S 9 (s_txt.map List.length) s_txt adK adV A s s.heap ∧ ∀ i, i < 9 → (tRd i).eval #[Value.ref b] s none [] s = some (.ref (adK i)) := by
  have hs := flat_of_before _ hgv
  exact vk_Sof (tm := tRd) t_ln (fun i hi => hs _ (t_ex i hi)) (fun i hi => hs _ (t_co i hi)) (fun i hi => hs _ (t_ar i hi)) (fun i hi => hs _ (t_le i hi)) (fun i hi j hj => hs _ (t_el i hi j hj)) (fun i j hi hj hij => (tx_ne i hi j hj hij).imp (fun z => hs _ z) (fun z => hs _ z)) hA
theorem st_Str (hts : ∀ w ∈ lw_tbl, w.before #[Value.ref b] s = true) (hgv : (Jvm.Cond.and given_1 narrow_1).before #[Value.ref b] s = true) (g : va_G) (f : Nat → ClassId) (q : Nat) : ∃ adK : Nat → Nat, s_Str (g, f, s.heap.size, q, adK) s s.heap := by
  have hs := flat_of_before _ hgv
  have hA : ∀ a : Nat, a < s.heap.size → ¬ (fun q : Nat => s.heap.size ≤ q) a := fun a h => Nat.not_le.mpr h
  obtain ⟨adK, adV, h1, h2⟩ := st_txt hgv (A := fun q : Nat => s.heap.size ≤ q) hA
  have h3 : ∀ i, i < 9 → (tMd i).eval #[Value.ref b] s none [] s = some (.ref (adK i)) := fun i hi => by
    obtain ⟨y, y1, y2⟩ := Cond.eq_one (hs _ (t_sm i hi))
    rw [y2, ← y1]
    exact h2 i hi
  refine ⟨adK, ⟨adV, h1⟩, fun c i j hj => ?_, ?_⟩
  · rcases pk_txt hj with ⟨rfl, h⟩ | ⟨rfl, h⟩
    · have hl : j < 9 := (List.getElem?_eq_some_iff.mp h).1
      have e : kRd.getD j 0 = i := by rw [List.getD_eq_getElem?_getD, h]; rfl
      have r1 := hts _ (List.mem_of_getElem? (l_rd j hl))
      have r2 := h2 j hl
      unfold tRd at r2
      rw [e] at r1 r2
      exact ⟨_, vk_R.of r1 r2⟩
    · have hl : j < 9 := (List.getElem?_eq_some_iff.mp h).1
      have e : kMd.getD j 0 = i := by rw [List.getD_eq_getElem?_getD, h]; rfl
      have r1 := hts _ (List.mem_of_getElem? (l_md j hl))
      have r2 := h3 j hl
      unfold tMd at r2
      rw [e] at r1 r2
      exact ⟨_, vk_R.of r1 r2⟩
  · have g0 : ∀ w ∈ s_gt, w.before #[Value.ref b] s = true := fun w hw => hts w (List.mem_filter.mp hw).1
    exact ⟨va_Zof (hts _ l_cs) (g0 _ jn_RJ0) (va_eqt (hs _ t_cs)) hA, va_Zof (hts _ l_nz) (g0 _ jn_RJ9) (va_eqtl (hs _ t_nz)) hA, va_Zqof (hts _ l_fo) (g0 _ jn_RJ3) (hs _ t_fo) hA, vx_Zqof (hts _ l_us) (hts _ l_iT) (hs _ t_us) hA, vx_Zqof (hts _ l_ss) (hts _ l_iT) (hs _ t_ss) hA⟩
theorem st_K (hts : ∀ w ∈ lw_tbl, w.before #[Value.ref b] s = true) {dC : Nat → ClassId} {dI : Nat → Nat → Nat} {f : Nat → ClassId} (h1 : ∀ (k : Nat) (q : vw_C), vwCl[k]? = some q → u_Kn s q.1 q.2.1 q.2.2 (dC k) (dI k)) (h2 : ∀ t, t < 6 → ArrOfT s (f t) (s_kind t) ∧ va_RA s (f t) (s_kind t)) (z q : Nat) (adK : Nat → Nat) : s_K ((dC, dI), f, z, q, adK) s := by
  refine ⟨⟨h1, fun k x hx => ?_⟩, va_AO.of (hts _ n_ao1), va_AO.of (hts _ n_ao7), fun a i x hh hm => va_Nw.of rfl (hts _ hm), fun x hm => va_Nw.of rfl (hts _ hm), fun a b hm => va_Nw.of rfl (hts _ hm)⟩
  have hx : ((List.range 6).map fun t => (f t, s_kind t))[k]? = some x := hx
  have hk : k < 6 := by
    have := (List.getElem?_eq_some_iff.mp hx).1
    rw [List.length_map, List.length_range] at this
    exact this
  rw [List.getElem?_map, List.getElem?_range hk] at hx
  cases hx
  exact h2 k hk
end STA
