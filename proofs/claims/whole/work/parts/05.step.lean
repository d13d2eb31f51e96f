/-! one instruction: from the pure run to the machine -/
theorem pI_of {S : List Value} {f : Int32 → List Value → Prop} (h : pI S f) : ∃ x T, S = .int x :: T ∧ f x T := by
  unfold pI at h; split at h
  · exact ⟨_, _, rfl, h⟩
  · exact h.elim
theorem pL_of {S : List Value} {f : Int64 → List Value → Prop} (h : pL S f) : ∃ x T, S = .long x :: T ∧ f x T := by
  unfold pL at h; split at h
  · exact ⟨_, _, rfl, h⟩
  · exact h.elim
theorem pF_of {S : List Value} {f : UInt32 → List Value → Prop} (h : pF S f) : ∃ x T, S = .float x :: T ∧ f x T := by
  unfold pF at h; split at h
  · exact ⟨_, _, rfl, h⟩
  · exact h.elim
theorem pD_of {S : List Value} {f : UInt64 → List Value → Prop} (h : pD S f) : ∃ x T, S = .double x :: T ∧ f x T := by
  unfold pD at h; split at h
  · exact ⟨_, _, rfl, h⟩
  · exact h.elim
theorem pR_of {S : List Value} {f : Nat → List Value → Prop} (h : pR S f) : ∃ x T, S = .ref x :: T ∧ f x T := by
  unfold pR at h; split at h
  · exact ⟨_, _, rfl, h⟩
  · exact h.elim
theorem pA_of {S : List Value} {f : Value → List Value → Prop} (h : pA S f) : ∃ x T, S = x :: T ∧ f x T := by
  unfold pA at h; split at h
  · exact ⟨_, _, rfl, h⟩
  · exact h.elim
theorem gI_of {L : List Value} {i : Nat} {f : Int32 → Prop} (h : gI L i f) : ∃ x, L[i]? = some (.int x) ∧ f x := by
  unfold gI at h; split at h
  · exact ⟨_, by assumption, h⟩
  · exact h.elim
theorem gL_of {L : List Value} {i : Nat} {f : Int64 → Prop} (h : gL L i f) : ∃ x, L[i]? = some (.long x) ∧ f x := by
  unfold gL at h; split at h
  · exact ⟨_, by assumption, h⟩
  · exact h.elim
theorem gF_of {L : List Value} {i : Nat} {f : UInt32 → Prop} (h : gF L i f) : ∃ x, L[i]? = some (.float x) ∧ f x := by
  unfold gF at h; split at h
  · exact ⟨_, by assumption, h⟩
  · exact h.elim
theorem gD_of {L : List Value} {i : Nat} {f : UInt64 → Prop} (h : gD L i f) : ∃ x, L[i]? = some (.double x) ∧ f x := by
  unfold gD at h; split at h
  · exact ⟨_, by assumption, h⟩
  · exact h.elim
theorem gR_of {L : List Value} {i : Nat} {f : Nat → Prop} (h : gR L i f) : ∃ x, L[i]? = some (.ref x) ∧ f x := by
  unfold gR at h; split at h
  · exact ⟨_, by assumption, h⟩
  · exact h.elim
theorem oO_of {h : sH} {a : Nat} {f : Nat → List Value → Prop} (w : oO h a f) : ∃ c fs, hg h a = .inr (c, fs) ∧ f c fs := by
  unfold oO at w; split at w
  · exact ⟨_, _, by assumption, w⟩
  · exact w.elim
theorem oI_of {h : sH} {a : Nat} {f : Nat → Nat → (Nat → Int32) → Prop} (w : oI h a f) : ∃ t n g, hg h a = .inl (t, n, .inl g) ∧ f t n g := by
  unfold oI at w; split at w
  · exact ⟨_, _, _, by assumption, w⟩
  · exact w.elim
theorem oL_of {h : sH} {a : Nat} {f : Nat → Nat → (Nat → Int64) → Prop} (w : oL h a f) : ∃ t n g, hg h a = .inl (t, n, .inr (.inl g)) ∧ f t n g := by
  unfold oL at w; split at w
  · exact ⟨_, _, _, by assumption, w⟩
  · exact w.elim
theorem oF_of {h : sH} {a : Nat} {f : Nat → Nat → (Nat → UInt32) → Prop} (w : oF h a f) : ∃ t n g, hg h a = .inl (t, n, .inr (.inr (.inl g))) ∧ f t n g := by
  unfold oF at w; split at w
  · exact ⟨_, _, _, by assumption, w⟩
  · exact w.elim
theorem oQ_of {h : sH} {a : Nat} {f : Nat → Nat → (Nat → Option Nat) → Prop} (w : oQ h a f) : ∃ t n g, hg h a = .inl (t, n, .inr (.inr (.inr (.inr g)))) ∧ f t n g := by
  unfold oQ at w; split at w
  · exact ⟨_, _, _, by assumption, w⟩
  · exact w.elim
theorem oA_of {h : sH} {a : Nat} {f : Nat → Nat → Prop} (w : oA h a f) : ∃ t n g, hg h a = .inl (t, n, g) ∧ f t n := by
  unfold oA at w; split at w
  · exact ⟨_, _, _, by assumption, w⟩
  · exact w.elim
theorem oo_of {α : Type} {x : Option α} {f : α → Prop} (w : oo x f) : ∃ a, x = some a ∧ f a := by
  unfold oo at w; split at w
  · exact ⟨_, rfl, w⟩
  · exact w.elim
theorem k_find {α β : Type} {t : List (List α)} {c : Nat} {p : α → Bool} {f : α → β} {y : β} (h : (((t.getD c []).find? p).map f) = some y) : ∃ j e, j < (t.getD c []).length ∧ k_at t c j = some e ∧ p e = true ∧ f e = y := by
  cases hf : (t.getD c []).find? p with
  | none => rw [hf] at h; cases h
  | some e =>
    rw [hf] at h
    obtain ⟨j, hj⟩ := List.getElem?_of_mem (List.mem_of_find?_eq_some hf)
    exact ⟨j, e, (List.getElem?_eq_some_iff.mp hj).1, hj, List.find?_some hf, Option.some.inj h⟩
theorem c_lt {α : Type} {t : List (List α)} {c j n : Nat} (hn : t.length = n) (h : j < (t.getD c []).length) : c < n := by
  rcases Nat.lt_or_ge c n with q | q
  · exact q
  · rw [List.getD_eq_getElem?_getD, List.getElem?_eq_none (by omega)] at h
    exact absurd h (Nat.not_lt_zero j)
theorem pf_fact {c i ci k : Nat} (h : pf c i = some (ci, k)) : ci < 10 ∧ k < cN ci ∧ (cT ci k).1 = cR ci ∧ Jvm.Cond.fieldLink (cR c) i (cR ci) (cT ci k).2.1 (cT ci k).2.2.1 ∈ s_gt := by
  obtain ⟨j, e, h1, h2, h3, h4⟩ := k_find h
  have hk := k_pf c (c_lt rfl h1) j h1
  rw [h2, Option.map_some] at hk
  have hk := Option.some.inj hk
  simp only [Bool.and_eq_true, decide_eq_true_eq] at hk
  obtain ⟨e1, e2, e3⟩ := e
  cases h4
  have h3 : e1 = i := by simpa using h3
  subst h3
  exact ⟨hk.1.1, hk.1.2.1, hk.1.2.2, s_gt_of hk.2 rfl⟩
theorem pc_fact {c i ci : Nat} (h : pc c i = some ci) : ci < 10 ∧ Jvm.Cond.classLink (cR c) i (cR ci) ∈ s_gt := by
  obtain ⟨j, e, h1, h2, h3, h4⟩ := k_find h
  have hk := k_pc c (c_lt rfl h1) j h1
  rw [h2, Option.map_some] at hk
  have hk := Option.some.inj hk
  simp only [Bool.and_eq_true, decide_eq_true_eq] at hk
  obtain ⟨e1, e2⟩ := e
  cases h4
  have h3 : e1 = i := by simpa using h3
  subst h3
  exact ⟨hk.1, s_gt_of hk.2 rfl⟩
theorem pn_fact {c i n : Nat} (h : pn c i = some n) : 1 ≤ n ∧ n ≤ 7 ∧ Jvm.Cond.methodLink (cR c) i (nY n) ∈ s_gt := by
  obtain ⟨j, e, h1, h2, h3, h4⟩ := k_find h
  have hk := k_pn c (c_lt rfl h1) j h1
  rw [h2, Option.map_some] at hk
  have hk := Option.some.inj hk
  simp only [Bool.and_eq_true, decide_eq_true_eq] at hk
  obtain ⟨e1, e2⟩ := e
  cases h4
  have h3 : e1 = i := by simpa using h3
  subst h3
  exact ⟨hk.1.1, hk.1.2, s_gt_of hk.2 rfl⟩
theorem pk_fact {c i : Nat} {v : Value} (h : pk c i = some v) : match v with
    | .int v => Jvm.Cond.constant (cR c) i v ∈ s_gt
    | .float v => Jvm.Cond.constantFloat (cR c) i v ∈ s_gt
    | .long v => Jvm.Cond.constantLong (cR c) i v ∈ s_gt
    | .double v => Jvm.Cond.constantDouble (cR c) i v ∈ s_gt
    | .ref a => 1000001 ≤ a ∧ a < 1000010
    | _ => False := by
  obtain ⟨j, e, h1, h2, h3, h4⟩ := k_find h
  have hk := k_pk c (c_lt rfl h1) j h1
  rw [h2, Option.map_some] at hk
  have hk := Option.some.inj hk
  obtain ⟨e1, e2⟩ := e
  have h4 : e2 = v := h4
  subst h4
  have h3 : e1 = i := by simpa using h3
  subst h3
  cases e2 <;> first | exact s_gt_of (of_decide_eq_true hk) rfl | exact of_decide_eq_true hk | cases hk
theorem pm_fact {c i y : Nat} (h : pm c i = some y) (hy : y < 1000) (hc : c < 14) : y < 275 ∧ (Jvm.Cond.methodLink (cR c) i (mY y) ∈ s_gt ∨ (mSt y = 2 ∧ Jvm.Cond.methodLinkNest (cR c) i (mY y) RX8 ∈ lw_tbl)) := by
  obtain ⟨j, e, h1, h2, h3, h4⟩ := k_find h
  have hk := k_pm c hc j h1
  rw [h2, Option.map_some] at hk
  have hk := Option.some.inj hk
  obtain ⟨e1, e2⟩ := e
  have h4 : e2 = y := h4
  subst h4
  have h3 : e1 = i := by simpa using h3
  subst h3
  simp only [Bool.or_eq_true, Bool.and_eq_true, decide_eq_true_eq] at hk
  rcases hk with hk | ⟨⟨hk, hw⟩, hz⟩
  · omega
  · refine ⟨hk, ?_⟩
    by_cases z : (qN.getD c []).getD j 0 = 0
    · rw [if_pos z] at hw
      exact Or.inl (s_gt_of hw rfl)
    · rw [if_neg z] at hw
      exact Or.inr ⟨hz.resolve_left z, List.mem_of_getElem? hw⟩
/-- what stands fast while a method runs -/
def s_CX (G : sG) (X0 : sC) (d m : Nat) (p : Program) (R : Room) (s : State) (mm : MethodId) (args : Array Value) (meth : Method) (c : Code) : Prop :=
  p.tables.exec = Jvm.exec ∧ c.code = mB m ∧ meth.sig.returnType = mR m ∧ c.maxLocals = mL m ∧ s.vm.findClass (cR (mC m)) = some mm.cls ∧ (∀ w ∈ s_gt, w.before args s = true) ∧ meth.locks = false ∧ (mSt m = 2 → meth.name = "<init>") ∧
  s_K G s ∧ s_Str G s s.heap ∧ s_HX G X0 s s.heap ∧ (∀ q, s.heap.size ≤ q → s_A G q) ∧ (d + 8 + 1 ≤ R.frames ∧ 60 * (d + 8 + 1) ≤ R.locals ∧ mMc m ≤ R.cells ∧ mMs m ≤ R.slots)
/-- where the run stands -/
def s_SR (G : sG) (X0 : sC) (m : Nat) (s : State) (L : List Value) (h : sH) (k : sK) (ls : Array Slot) (H : Heap) (locs : List Loc) : Prop :=
  lv_has ls (mL m) (s_lv G L) ∧ s_HR G h H ∧ hg h 1000000 = X0 ∧ va_S (s_A G) s.heap H locs ∧ k.1 ≤ mMc m ∧ k.2 ≤ mMs m
