theorem s_bytes {n : Nat} {ty : FieldType} (h : componentBytes ty ≤ 8) (hn : n ≤ 100000) : n * componentBytes ty ≤ 536870912 := by
  have := Nat.mul_le_mul hn h
  omega
section STP
variable {p : Program} {l : Launch} {e : Env} {R : Room} {s : State} {mm : MethodId} {args : Array Value} {below : List Frame} {meth : Method} {c : Code} {Qm : State → Prop}
variable {G : sG} {X0 : sC} {d m : Nat}
/-- the library's own methods that are called in a frame, at the depth d -/
def s_Ext1 (l : Launch) (G : sG) (X0 : sC) (d : Nat) (K : sM) (p : Program) (e : Env) (R : Room) (s : State) (mm : MethodId) (args : Array Value) (below : List Frame) (meth : Method) (c : Code) (Qm : State → Prop) (m : Nat) : Prop :=
  ∀ (y i pc0 : Nat) (ins : Instr) (L S : List Value) (h : sH) (k : sK) (ls : Array Slot) (H : Heap) (locs : List Loc) (N : sN) (as rest : List Value),
    1000 ≤ y → pm (mC m) i = some y →
    ((ins = .invokevirtual i ∧ ∃ b, S.drop (mNa y) = .ref b :: rest ∧ as = .ref b :: s_args (mNa y) S) ∨ (ins = .invokestatic i ∧ rest = S.drop (mNa y) ∧ as = s_args (mNa y) S)) → (S.take (mNa y)).length = mNa y → decode (mB m) pc0 = .ok (ins, 3) →
    (∀ pc L S h k ls H locs, N pc L S h k → s_SR G X0 m s L h k ls H locs → W p l e R s mm args below meth c H locs k.1 k.2 Qm (F0 mm pc ls (S.map (s_tr G)))) →
    s_SR G X0 m s L h k ls H locs → s_call K m pc0 L h k N y as rest → W p l e R s mm args below meth c H locs k.1 k.2 Qm (F0 mm pc0 ls (S.map (s_tr G)))
/-- .. in every frame but the law's -/
def s_ExtOK (l : Launch) (G : sG) (X0 : sC) (d : Nat) (K : sM) : Prop :=
  ∀ (p : Program) (e : Env) (R : Room) (s : State) (mm : MethodId) (args : Array Value) (below : List Frame) (meth : Method) (c : Code) (Qm : State → Prop) (m : Nat),
    s_CX G X0 d m p R s mm args meth c → mC m < 14 → mC m ≠ 10 → s_Ext1 l G X0 d K p e R s mm args below meth c Qm m
def s_isRet : Instr → Bool
  | .ireturn => true | .lreturn => true | .freturn => true | .areturn => true | .return_ => true
  | _ => false
theorem s_branch {T E : Prop} {P : Prop} {o : ClassFile.Cond} {x y : Int32} (h : s_cmp o x y T E) (k : ∀ q : Prop, (q → T) → (¬ q → E) → (match o with | .eq => q ↔ x = y | .ne => q ↔ ¬ x = y | .lt => q ↔ x < y | .ge => q ↔ y ≤ x | .gt => q ↔ y < x | .le => q ↔ x ≤ y) → P) : P := by
  cases o <;> simp only [s_cmp] at h
  · exact k (x = y) (fun q => by rw [if_pos q] at h; exact h) (fun q => by rw [if_neg q] at h; exact h) Iff.rfl
  all_goals first
    | exact k (¬ x = y) (fun q => by rw [if_neg q] at h; exact h) (fun q => by rw [if_pos (Classical.not_not.mp q)] at h; exact h) Iff.rfl
    | exact k (x < y) (fun q => by rw [if_pos q] at h; exact h) (fun q => by rw [if_neg q] at h; exact h) Iff.rfl
    | exact k (y ≤ x) (fun q => by rw [if_pos q] at h; exact h) (fun q => by rw [if_neg q] at h; exact h) Iff.rfl
    | exact k (y < x) (fun q => by rw [if_pos q] at h; exact h) (fun q => by rw [if_neg q] at h; exact h) Iff.rfl
    | exact k (x ≤ y) (fun q => by rw [if_pos q] at h; exact h) (fun q => by rw [if_neg q] at h; exact h) Iff.rfl
set_option maxHeartbeats 8000000 in
theorem s_step {K : sM} {N : sN} {Q : sQ} {i : Instr} {len pc0 : Nat} {L S : List Value} {h : sH} {k : sK} {ls : Array Slot} {H : Heap} {locs : List Loc}
    (C0 : s_CX G X0 d m p R s mm args meth c) (hm14 : mC m < 14) (hKO : s_KOK l G X0 d K) (hEO : s_Ext1 l G X0 d K p e R s mm args below meth c Qm m)
    (hN : ∀ pc L S h k ls H locs, N pc L S h k → s_SR G X0 m s L h k ls H locs → W p l e R s mm args below meth c H locs k.1 k.2 Qm (F0 mm pc ls (S.map (s_tr G))))
    (hRet : s_isRet i = true → wpI K m i len pc0 L S h k N Q → W p l e R s mm args below meth c H locs k.1 k.2 Qm (F0 mm pc0 ls (S.map (s_tr G))))
    (hdec : decode (mB m) pc0 = .ok (i, len)) (hlen : s_len i = 0 ∨ s_len i = len) (hw : wpI K m i len pc0 L S h k N Q) (r : s_SR G X0 m s L h k ls H locs) : W p l e R s mm args below meth c H locs k.1 k.2 Qm (F0 mm pc0 ls (S.map (s_tr G))) := by
  have C1 := C0
  obtain ⟨hx, hb, hr, hml, hown, hts, hlocks, hini, hK, hStr, hX, hA, hR1, hR2, hR3, hR4⟩ := C1
  have r0 := r
  obtain ⟨r1, r2, r3, r4, r5, r6⟩ := r
  cases i
  case iconst n =>
    obtain rfl : len = 1 := by rcases hlen with h1 | h1 <;> simp [s_len] at h1 <;> exact h1.symm
    simp only [wpI] at hw
    exact lv_iconst hx hb hdec rfl (hN _ _ _ _ _ ls H locs hw r0)
  case bipush n =>
    obtain rfl : len = 2 := by rcases hlen with h1 | h1 <;> simp [s_len] at h1 <;> exact h1.symm
    simp only [wpI] at hw
    exact lv_bipush hx hb hdec rfl (hN _ _ _ _ _ ls H locs hw r0)
  case sipush n =>
    obtain rfl : len = 3 := by rcases hlen with h1 | h1 <;> simp [s_len] at h1 <;> exact h1.symm
    simp only [wpI] at hw
    exact lv_sipush hx hb hdec rfl (hN _ _ _ _ _ ls H locs hw r0)
  case lconst n =>
    obtain rfl : len = 1 := by rcases hlen with h1 | h1 <;> simp [s_len] at h1 <;> exact h1.symm
    simp only [wpI] at hw
    exact lv_lconst hx hb hdec rfl (hN _ _ _ _ _ ls H locs hw r0)
  case fconst n =>
    obtain rfl : len = 1 := by rcases hlen with h1 | h1 <;> simp [s_len] at h1 <;> exact h1.symm
    simp only [wpI] at hw
    match n, hw, hdec with
    | 0, hw, hdec => exact lv_fconst0 hx hb hdec (hN _ _ _ _ _ ls H locs hw r0)
    | 1, hw, hdec => exact lv_fconst1 hx hb hdec (hN _ _ _ _ _ ls H locs hw r0)
    | 2, hw, hdec => exact lv_fconst2 hx hb hdec (hN _ _ _ _ _ ls H locs hw r0)
  case dconst n =>
    obtain rfl : len = 1 := by rcases hlen with h1 | h1 <;> simp [s_len] at h1 <;> exact h1.symm
    simp only [wpI] at hw
    match n, hw, hdec with
    | 0, hw, hdec => exact lv_dconst0 hx hb hdec (hN _ _ _ _ _ ls H locs hw r0)
    | 1, hw, hdec => exact lv_dconst1 hx hb hdec (hN _ _ _ _ _ ls H locs hw r0)
  case ldc i =>
    obtain rfl : len = 2 := by rcases hlen with h1 | h1 <;> simp [s_len] at h1 <;> exact h1.symm
    simp only [wpI] at hw
    obtain ⟨v, h1, h2, h3⟩ := oo_of hw
    have hf := pk_fact h1
    cases v with
    | int v => exact lv_ldc hx hb hown (hts _ hf) hdec (hN _ _ _ _ _ ls H locs h3 r0)
    | float v => exact lv_ldcf hx hb hown (hts _ hf) hdec (hN _ _ _ _ _ ls H locs h3 r0)
    | long v => cases h2
    | double v => cases h2
    | null => exact hf.elim
    | retAddr v => exact hf.elim
    | ref a =>
      have hf : 1000001 ≤ a ∧ a < 1000010 := hf
      obtain ⟨j, rfl⟩ := Nat.exists_eq_add_of_le hf.1
      obtain ⟨tx, hz⟩ := hStr.2.1 _ _ j h1
      have e1 : s_ad G (1000001 + j) = G.2.2.2.2 j := by unfold s_ad; rw [if_neg (by omega), if_neg (by omega), Nat.add_sub_cancel_left]
      have h4 := hN _ _ _ _ _ ls H locs h3 r0
      rw [List.map_cons, s_tr_r, e1] at h4
      exact va_ldcS hx hb hown hz hdec h4
  case ldc_w i =>
    obtain rfl : len = 3 := by rcases hlen with h1 | h1 <;> simp [s_len] at h1 <;> exact h1.symm
    simp only [wpI] at hw
    obtain ⟨v, h1, h2, h3⟩ := oo_of hw
    have hf := pk_fact h1
    rcases h2 with ⟨x, rfl⟩ | ⟨x, rfl⟩
    · exact lv_ldcw hx hb hown (hts _ hf) hdec (hN _ _ _ _ _ ls H locs h3 r0)
    · exact s_ldcwF hx hb hown (hts _ hf) hdec (hN _ _ _ _ _ ls H locs h3 r0)
  case ldc2_w i =>
    obtain rfl : len = 3 := by rcases hlen with h1 | h1 <;> simp [s_len] at h1 <;> exact h1.symm
    simp only [wpI] at hw
    obtain ⟨v, h1, h2, h3⟩ := oo_of hw
    have hf := pk_fact h1
    cases v with
    | long v => exact lv_ldc2 hx hb hown (hts _ hf) hdec (hN _ _ _ _ _ ls H locs h3 r0)
    | double v => exact lv_ldc2d hx hb hown (hts _ hf) hdec (hN _ _ _ _ _ ls H locs h3 r0)
    | int v => cases h2
    | float v => cases h2
    | null => cases h2
    | retAddr v => cases h2
    | ref a => cases h2
  case iload_n i =>
    obtain rfl : len = 1 := by rcases hlen with h1 | h1 <;> simp [s_len] at h1 <;> exact h1.symm
    simp only [wpI] at hw
    obtain ⟨x, h1, h2⟩ := gI_of hw
    exact lv_iload_n hx hb hdec rfl (s_lv_at r1 h1 (fun z => by cases z)) (hN _ _ _ _ _ ls H locs h2 r0)
  case iload i =>
    obtain rfl : len = 2 := by rcases hlen with h1 | h1 <;> simp [s_len] at h1 <;> exact h1.symm
    simp only [wpI] at hw
    obtain ⟨x, h1, h2⟩ := gI_of hw
    exact lv_iload hx hb hdec (s_lv_at r1 h1 (fun z => by cases z)) (hN _ _ _ _ _ ls H locs h2 r0)
  case lload_n i =>
    obtain rfl : len = 1 := by rcases hlen with h1 | h1 <;> simp [s_len] at h1 <;> exact h1.symm
    simp only [wpI] at hw
    obtain ⟨x, h1, h2⟩ := gL_of hw
    exact lv_lload_n hx hb hdec rfl (s_lv_at r1 h1 (fun z => by cases z)) (hN _ _ _ _ _ ls H locs h2 r0)
  case lload i =>
    obtain rfl : len = 2 := by rcases hlen with h1 | h1 <;> simp [s_len] at h1 <;> exact h1.symm
    simp only [wpI] at hw
    obtain ⟨x, h1, h2⟩ := gL_of hw
    exact lv_lload hx hb hdec (s_lv_at r1 h1 (fun z => by cases z)) (hN _ _ _ _ _ ls H locs h2 r0)
  case fload_n i =>
    obtain rfl : len = 1 := by rcases hlen with h1 | h1 <;> simp [s_len] at h1 <;> exact h1.symm
    simp only [wpI] at hw
    obtain ⟨x, h1, h2⟩ := gF_of hw
    exact lv_fload_n hx hb hdec rfl (s_lv_at r1 h1 (fun z => by cases z)) (hN _ _ _ _ _ ls H locs h2 r0)
  case fload i =>
    obtain rfl : len = 2 := by rcases hlen with h1 | h1 <;> simp [s_len] at h1 <;> exact h1.symm
    simp only [wpI] at hw
    obtain ⟨x, h1, h2⟩ := gF_of hw
    exact lv_fload hx hb hdec (s_lv_at r1 h1 (fun z => by cases z)) (hN _ _ _ _ _ ls H locs h2 r0)
  case dload_n i =>
    obtain rfl : len = 1 := by rcases hlen with h1 | h1 <;> simp [s_len] at h1 <;> exact h1.symm
    simp only [wpI] at hw
    obtain ⟨x, h1, h2⟩ := gD_of hw
    exact lv_dload_n hx hb hdec rfl (s_lv_at r1 h1 (fun z => by cases z)) (hN _ _ _ _ _ ls H locs h2 r0)
  case dload i =>
    obtain rfl : len = 2 := by rcases hlen with h1 | h1 <;> simp [s_len] at h1 <;> exact h1.symm
    simp only [wpI] at hw
    obtain ⟨x, h1, h2⟩ := gD_of hw
    exact lv_dload hx hb hdec (s_lv_at r1 h1 (fun z => by cases z)) (hN _ _ _ _ _ ls H locs h2 r0)
  case aload_n i =>
    obtain rfl : len = 1 := by rcases hlen with h1 | h1 <;> simp [s_len] at h1 <;> exact h1.symm
    simp only [wpI] at hw
    obtain ⟨x, h1, h2⟩ := gR_of hw
    exact lv_aload_n hx hb hdec rfl (s_lv_at r1 h1 (fun z => by cases z)) (hN _ _ _ _ _ ls H locs h2 r0)
  case aload i =>
    obtain rfl : len = 2 := by rcases hlen with h1 | h1 <;> simp [s_len] at h1 <;> exact h1.symm
    simp only [wpI] at hw
    obtain ⟨x, h1, h2⟩ := gR_of hw
    exact lv_aload hx hb hdec (s_lv_at r1 h1 (fun z => by cases z)) (hN _ _ _ _ _ ls H locs h2 r0)
  case istore_n i =>
    obtain rfl : len = 1 := by rcases hlen with h1 | h1 <;> simp [s_len] at h1 <;> exact h1.symm
    simp only [wpI] at hw
    obtain ⟨x, T, rfl, h1, h2⟩ := pI_of hw
    exact lv_istore_n hx hb hdec rfl r1 h1 rfl fun ls1 hl => hN _ _ _ _ _ ls1 H locs h2 ⟨s_st1_has rfl hl, r2, r3, r4, r5, r6⟩
  case istore i =>
    obtain rfl : len = 2 := by rcases hlen with h1 | h1 <;> simp [s_len] at h1 <;> exact h1.symm
    simp only [wpI] at hw
    obtain ⟨x, T, rfl, h1, h2⟩ := pI_of hw
    exact lv_istore hx hb hdec r1 h1 rfl fun ls1 hl => hN _ _ _ _ _ ls1 H locs h2 ⟨s_st1_has rfl hl, r2, r3, r4, r5, r6⟩
  case fstore_n i =>
    obtain rfl : len = 1 := by rcases hlen with h1 | h1 <;> simp [s_len] at h1 <;> exact h1.symm
    simp only [wpI] at hw
    obtain ⟨x, T, rfl, h1, h2⟩ := pF_of hw
    exact lv_fstore_n hx hb hdec rfl r1 h1 rfl fun ls1 hl => hN _ _ _ _ _ ls1 H locs h2 ⟨s_st1_has rfl hl, r2, r3, r4, r5, r6⟩
  case fstore i =>
    obtain rfl : len = 2 := by rcases hlen with h1 | h1 <;> simp [s_len] at h1 <;> exact h1.symm
    simp only [wpI] at hw
    obtain ⟨x, T, rfl, h1, h2⟩ := pF_of hw
    exact lv_fstore hx hb hdec r1 h1 rfl fun ls1 hl => hN _ _ _ _ _ ls1 H locs h2 ⟨s_st1_has rfl hl, r2, r3, r4, r5, r6⟩
  case astore_n i =>
    obtain rfl : len = 1 := by rcases hlen with h1 | h1 <;> simp [s_len] at h1 <;> exact h1.symm
    simp only [wpI] at hw
    obtain ⟨x, T, rfl, h1, h2⟩ := pR_of hw
    exact lv_astore_n hx hb hdec rfl r1 h1 rfl fun ls1 hl => hN _ _ _ _ _ ls1 H locs h2 ⟨s_st1_has rfl hl, r2, r3, r4, r5, r6⟩
  case astore i =>
    obtain rfl : len = 2 := by rcases hlen with h1 | h1 <;> simp [s_len] at h1 <;> exact h1.symm
    simp only [wpI] at hw
    obtain ⟨x, T, rfl, h1, h2⟩ := pR_of hw
    exact lv_astore hx hb hdec r1 h1 rfl fun ls1 hl => hN _ _ _ _ _ ls1 H locs h2 ⟨s_st1_has rfl hl, r2, r3, r4, r5, r6⟩
  case dstore_n i =>
    obtain rfl : len = 1 := by rcases hlen with h1 | h1 <;> simp [s_len] at h1 <;> exact h1.symm
    simp only [wpI] at hw
    obtain ⟨x, T, rfl, h1, h2⟩ := pD_of hw
    exact lv_dstore_n hx hb hdec rfl r1 h1 rfl fun ls1 hl => hN _ _ _ _ _ ls1 H locs h2 ⟨s_st2_has rfl hl, r2, r3, r4, r5, r6⟩
  case dstore i =>
    obtain rfl : len = 2 := by rcases hlen with h1 | h1 <;> simp [s_len] at h1 <;> exact h1.symm
    simp only [wpI] at hw
    obtain ⟨x, T, rfl, h1, h2⟩ := pD_of hw
    exact lv_dstore hx hb hdec r1 h1 rfl fun ls1 hl => hN _ _ _ _ _ ls1 H locs h2 ⟨s_st2_has rfl hl, r2, r3, r4, r5, r6⟩
  case iinc i n =>
    simp only [wpI] at hw
    obtain ⟨x, h0, h1, rfl, h2⟩ := gI_of hw
    obtain ⟨q, hq⟩ := List.getElem?_of_mem (s_lv_mem (G := G).mpr ⟨_, h0, (fun z => by cases z), rfl⟩)
    exact lv_iinc hx hb hdec r1 hq rfl h1 rfl fun ls1 hl => hN _ _ _ _ _ ls1 H locs h2 ⟨s_st1_has rfl hl, r2, r3, r4, r5, r6⟩
  case iadd =>
    obtain rfl : len = 1 := by rcases hlen with h1 | h1 <;> simp [s_len] at h1 <;> exact h1.symm
    simp only [wpI] at hw
    obtain ⟨y, T, rfl, h1⟩ := pI_of hw
    obtain ⟨x, T, rfl, h2⟩ := pI_of h1
    exact lv_iadd hx hb hdec (hN _ _ _ _ _ ls H locs h2 r0)
  case isub =>
    obtain rfl : len = 1 := by rcases hlen with h1 | h1 <;> simp [s_len] at h1 <;> exact h1.symm
    simp only [wpI] at hw
    obtain ⟨y, T, rfl, h1⟩ := pI_of hw
    obtain ⟨x, T, rfl, h2⟩ := pI_of h1
    exact lv_isub hx hb hdec (hN _ _ _ _ _ ls H locs h2 r0)
  case imul =>
    obtain rfl : len = 1 := by rcases hlen with h1 | h1 <;> simp [s_len] at h1 <;> exact h1.symm
    simp only [wpI] at hw
    obtain ⟨y, T, rfl, h1⟩ := pI_of hw
    obtain ⟨x, T, rfl, h2⟩ := pI_of h1
    exact lv_imul hx hb hdec (hN _ _ _ _ _ ls H locs h2 r0)
  case iand =>
    obtain rfl : len = 1 := by rcases hlen with h1 | h1 <;> simp [s_len] at h1 <;> exact h1.symm
    simp only [wpI] at hw
    obtain ⟨y, T, rfl, h1⟩ := pI_of hw
    obtain ⟨x, T, rfl, h2⟩ := pI_of h1
    exact lv_iand hx hb hdec (hN _ _ _ _ _ ls H locs h2 r0)
  case ior =>
    obtain rfl : len = 1 := by rcases hlen with h1 | h1 <;> simp [s_len] at h1 <;> exact h1.symm
    simp only [wpI] at hw
    obtain ⟨y, T, rfl, h1⟩ := pI_of hw
    obtain ⟨x, T, rfl, h2⟩ := pI_of h1
    exact lv_ior hx hb hdec (hN _ _ _ _ _ ls H locs h2 r0)
  case ixor =>
    obtain rfl : len = 1 := by rcases hlen with h1 | h1 <;> simp [s_len] at h1 <;> exact h1.symm
    simp only [wpI] at hw
    obtain ⟨y, T, rfl, h1⟩ := pI_of hw
    obtain ⟨x, T, rfl, h2⟩ := pI_of h1
    exact lv_ixor hx hb hdec (hN _ _ _ _ _ ls H locs h2 r0)
  case ishl =>
    obtain rfl : len = 1 := by rcases hlen with h1 | h1 <;> simp [s_len] at h1 <;> exact h1.symm
    simp only [wpI] at hw
    obtain ⟨y, T, rfl, h1⟩ := pI_of hw
    obtain ⟨x, T, rfl, h2⟩ := pI_of h1
    exact lv_ishl hx hb hdec (hN _ _ _ _ _ ls H locs h2 r0)
  case ishr =>
    obtain rfl : len = 1 := by rcases hlen with h1 | h1 <;> simp [s_len] at h1 <;> exact h1.symm
    simp only [wpI] at hw
    obtain ⟨y, T, rfl, h1⟩ := pI_of hw
    obtain ⟨x, T, rfl, h2⟩ := pI_of h1
    exact lv_ishr hx hb hdec (hN _ _ _ _ _ ls H locs h2 r0)
  case iushr =>
    obtain rfl : len = 1 := by rcases hlen with h1 | h1 <;> simp [s_len] at h1 <;> exact h1.symm
    simp only [wpI] at hw
    obtain ⟨y, T, rfl, h1⟩ := pI_of hw
    obtain ⟨x, T, rfl, h2⟩ := pI_of h1
    exact lv_iushr hx hb hdec rfl (hN _ _ _ _ _ ls H locs h2 r0)
  case idiv =>
    obtain rfl : len = 1 := by rcases hlen with h1 | h1 <;> simp [s_len] at h1 <;> exact h1.symm
    simp only [wpI] at hw
    obtain ⟨y, T, rfl, h1⟩ := pI_of hw
    obtain ⟨x, T, rfl, h2, h3⟩ := pI_of h1
    exact lv_idiv hx hb hdec h2 (hN _ _ _ _ _ ls H locs h3 r0)
  case irem =>
    obtain rfl : len = 1 := by rcases hlen with h1 | h1 <;> simp [s_len] at h1 <;> exact h1.symm
    simp only [wpI] at hw
    obtain ⟨y, T, rfl, h1⟩ := pI_of hw
    obtain ⟨x, T, rfl, h2, h3⟩ := pI_of h1
    exact lv_irem hx hb hdec h2 (hN _ _ _ _ _ ls H locs h3 r0)
  case i2l =>
    obtain rfl : len = 1 := by rcases hlen with h1 | h1 <;> simp [s_len] at h1 <;> exact h1.symm
    simp only [wpI] at hw
    obtain ⟨x, T, rfl, h2⟩ := pI_of hw
    exact lv_i2l hx hb hdec rfl (hN _ _ _ _ _ ls H locs h2 r0)
  case i2d =>
    obtain rfl : len = 1 := by rcases hlen with h1 | h1 <;> simp [s_len] at h1 <;> exact h1.symm
    simp only [wpI] at hw
    obtain ⟨x, T, rfl, h2⟩ := pI_of hw
    exact lv_i2d hx hb hdec (hN _ _ _ _ _ ls H locs h2 r0)
  case f2i =>
    obtain rfl : len = 1 := by rcases hlen with h1 | h1 <;> simp [s_len] at h1 <;> exact h1.symm
    simp only [wpI] at hw
    obtain ⟨x, T, rfl, h2⟩ := pF_of hw
    exact lv_f2i hx hb hdec (hN _ _ _ _ _ ls H locs h2 r0)
  case d2l =>
    obtain rfl : len = 1 := by rcases hlen with h1 | h1 <;> simp [s_len] at h1 <;> exact h1.symm
    simp only [wpI] at hw
    obtain ⟨x, T, rfl, h2⟩ := pD_of hw
    exact lv_d2l hx hb hdec (hN _ _ _ _ _ ls H locs h2 r0)
  case lor =>
    obtain rfl : len = 1 := by rcases hlen with h1 | h1 <;> simp [s_len] at h1 <;> exact h1.symm
    simp only [wpI] at hw
    obtain ⟨y, T, rfl, h1⟩ := pL_of hw
    obtain ⟨x, T, rfl, h2⟩ := pL_of h1
    exact lv_lor hx hb hdec (hN _ _ _ _ _ ls H locs h2 r0)
  case lshl =>
    obtain rfl : len = 1 := by rcases hlen with h1 | h1 <;> simp [s_len] at h1 <;> exact h1.symm
    simp only [wpI] at hw
    obtain ⟨y, T, rfl, h1⟩ := pI_of hw
    obtain ⟨x, T, rfl, h2⟩ := pL_of h1
    exact lv_lshl hx hb hdec rfl (hN _ _ _ _ _ ls H locs h2 r0)
  case lcmp =>
    obtain rfl : len = 1 := by rcases hlen with h1 | h1 <;> simp [s_len] at h1 <;> exact h1.symm
    simp only [wpI] at hw
    obtain ⟨y, T, rfl, h1⟩ := pL_of hw
    obtain ⟨x, T, rfl, h2⟩ := pL_of h1
    exact W.lcmp hx hb hdec (hN _ _ _ _ _ ls H locs h2 r0)
  case fadd =>
    obtain rfl : len = 1 := by rcases hlen with h1 | h1 <;> simp [s_len] at h1 <;> exact h1.symm
    simp only [wpI] at hw
    obtain ⟨y, T, rfl, h1⟩ := pF_of hw
    obtain ⟨x, T, rfl, h2, h3⟩ := pF_of h1
    exact lv_fadd hx hb hdec h2 (hN _ _ _ _ _ ls H locs h3 r0)
  case fsub =>
    obtain rfl : len = 1 := by rcases hlen with h1 | h1 <;> simp [s_len] at h1 <;> exact h1.symm
    simp only [wpI] at hw
    obtain ⟨y, T, rfl, h1⟩ := pF_of hw
    obtain ⟨x, T, rfl, h2, h3⟩ := pF_of h1
    exact lv_fsub hx hb hdec h2 (hN _ _ _ _ _ ls H locs h3 r0)
  case fmul =>
    obtain rfl : len = 1 := by rcases hlen with h1 | h1 <;> simp [s_len] at h1 <;> exact h1.symm
    simp only [wpI] at hw
    obtain ⟨y, T, rfl, h1⟩ := pF_of hw
    obtain ⟨x, T, rfl, h2, h3⟩ := pF_of h1
    exact lv_fmul hx hb hdec h2 (hN _ _ _ _ _ ls H locs h3 r0)
  case dmul =>
    obtain rfl : len = 1 := by rcases hlen with h1 | h1 <;> simp [s_len] at h1 <;> exact h1.symm
    simp only [wpI] at hw
    obtain ⟨y, T, rfl, h1⟩ := pD_of hw
    obtain ⟨x, T, rfl, h2, h3⟩ := pD_of h1
    exact lv_dmul hx hb hdec h2 (hN _ _ _ _ _ ls H locs h3 r0)
  case ddiv =>
    obtain rfl : len = 1 := by rcases hlen with h1 | h1 <;> simp [s_len] at h1 <;> exact h1.symm
    simp only [wpI] at hw
    obtain ⟨y, T, rfl, h1⟩ := pD_of hw
    obtain ⟨x, T, rfl, h2, h3⟩ := pD_of h1
    exact lv_ddiv hx hb hdec h2 (hN _ _ _ _ _ ls H locs h3 r0)
  case dsub =>
    obtain rfl : len = 1 := by rcases hlen with h1 | h1 <;> simp [s_len] at h1 <;> exact h1.symm
    simp only [wpI] at hw
    obtain ⟨y, T, rfl, h1⟩ := pD_of hw
    obtain ⟨x, T, rfl, h2, h3⟩ := pD_of h1
    exact lv_dsub hx hb hdec h2 (hN _ _ _ _ _ ls H locs h3 r0)
  case fcmp o =>
    obtain rfl : len = 1 := by rcases hlen with h1 | h1 <;> simp [s_len] at h1 <;> exact h1.symm
    simp only [wpI] at hw
    obtain ⟨y, T, rfl, h1⟩ := pF_of hw
    obtain ⟨x, T, rfl, h2⟩ := pF_of h1
    exact lv_fcmp hx hb hdec (hN _ _ _ _ _ ls H locs h2 r0)
  case dcmp o =>
    obtain rfl : len = 1 := by rcases hlen with h1 | h1 <;> simp [s_len] at h1 <;> exact h1.symm
    simp only [wpI] at hw
    obtain ⟨y, T, rfl, h1⟩ := pD_of hw
    obtain ⟨x, T, rfl, h2⟩ := pD_of h1
    exact lv_dcmp hx hb hdec (hN _ _ _ _ _ ls H locs h2 r0)
  case dup =>
    obtain rfl : len = 1 := by rcases hlen with h1 | h1 <;> simp [s_len] at h1 <;> exact h1.symm
    simp only [wpI] at hw
    obtain ⟨v, T, rfl, h1, h2⟩ := pA_of hw
    exact lv_dup hx hb hdec ((s_tr_cat G v).trans h1) (hN _ _ _ _ _ ls H locs h2 r0)
  case pop =>
    obtain rfl : len = 1 := by rcases hlen with h1 | h1 <;> simp [s_len] at h1 <;> exact h1.symm
    simp only [wpI] at hw
    obtain ⟨v, T, rfl, h1, h2⟩ := pA_of hw
    exact lv_pop hx hb hdec ((s_tr_cat G v).trans h1) (hN _ _ _ _ _ ls H locs h2 r0)
  case dup2 =>
    obtain rfl : len = 1 := by rcases hlen with h1 | h1 <;> simp [s_len] at h1 <;> exact h1.symm
    simp only [wpI] at hw
    obtain ⟨v, T, rfl, h1⟩ := pA_of hw
    obtain ⟨w, T, rfl, h2, h3, h4⟩ := pA_of h1
    exact lv_dup2_11 hx hb hdec ((s_tr_cat G v).trans h2) ((s_tr_cat G w).trans h3) (hN _ _ _ _ _ ls H locs h4 r0)
  case dup_x1 =>
    obtain rfl : len = 1 := by rcases hlen with h1 | h1 <;> simp [s_len] at h1 <;> exact h1.symm
    simp only [wpI] at hw
    obtain ⟨v, T, rfl, h1⟩ := pA_of hw
    obtain ⟨w, T, rfl, h2, h3, h4⟩ := pA_of h1
    exact lv_dup_x1 hx hb hdec ((s_tr_cat G v).trans h2) ((s_tr_cat G w).trans h3) (hN _ _ _ _ _ ls H locs h4 r0)
  case goto off =>
    obtain rfl : len = 3 := by rcases hlen with h1 | h1 <;> simp [s_len] at h1 <;> exact h1.symm
    simp only [wpI] at hw
    exact lv_goto hx hb hdec hw.1 (hN _ _ _ _ _ ls H locs hw.2 r0)
  case ifCond o off =>
    obtain rfl : len = 3 := by rcases hlen with h1 | h1 <;> simp [s_len] at h1 <;> exact h1.symm
    simp only [wpI] at hw
    obtain ⟨x, T, rfl, h1, h2⟩ := pI_of hw
    refine s_branch h2 fun q ht he hq => ?_
    cases o with
    | eq => exact lv_if_eq hx hb hdec h1 (fun z => hN _ _ _ _ _ ls H locs (ht (hq.mpr z)) r0) (fun z => hN _ _ _ _ _ ls H locs (he (fun y => z (hq.mp y))) r0)
    | ne => exact lv_if_ne hx hb hdec h1 (fun z => hN _ _ _ _ _ ls H locs (ht (hq.mpr z)) r0) (fun z => hN _ _ _ _ _ ls H locs (he (fun y => (hq.mp y) z)) r0)
    | lt => exact lv_if_lt hx hb hdec h1 (fun z => hN _ _ _ _ _ ls H locs (ht (hq.mpr z)) r0) (fun z => hN _ _ _ _ _ ls H locs (he (fun y => z (hq.mp y))) r0)
    | ge => exact lv_if_ge hx hb hdec h1 (fun z => hN _ _ _ _ _ ls H locs (ht (hq.mpr z)) r0) (fun z => hN _ _ _ _ _ ls H locs (he (fun y => z (hq.mp y))) r0)
    | gt => exact lv_if_gt hx hb hdec h1 (fun z => hN _ _ _ _ _ ls H locs (ht (hq.mpr z)) r0) (fun z => hN _ _ _ _ _ ls H locs (he (fun y => z (hq.mp y))) r0)
    | le => exact lv_if_le hx hb hdec h1 (fun z => hN _ _ _ _ _ ls H locs (ht (hq.mpr z)) r0) (fun z => hN _ _ _ _ _ ls H locs (he (fun y => z (hq.mp y))) r0)
  case if_icmp o off =>
    obtain rfl : len = 3 := by rcases hlen with h1 | h1 <;> simp [s_len] at h1 <;> exact h1.symm
    simp only [wpI] at hw
    obtain ⟨y, T, rfl, h0⟩ := pI_of hw
    obtain ⟨x, T, rfl, h1, h2⟩ := pI_of h0
    refine s_branch h2 fun q ht he hq => ?_
    cases o with
    | eq => exact lv_icmp_eq hx hb hdec h1 (fun z => hN _ _ _ _ _ ls H locs (ht (hq.mpr z)) r0) (fun z => hN _ _ _ _ _ ls H locs (he (fun y => z (hq.mp y))) r0)
    | ne => exact lv_icmp_ne hx hb hdec h1 (fun z => hN _ _ _ _ _ ls H locs (ht (hq.mpr z)) r0) (fun z => hN _ _ _ _ _ ls H locs (he (fun y => (hq.mp y) z)) r0)
    | lt => exact lv_icmp_lt hx hb hdec h1 (fun z => hN _ _ _ _ _ ls H locs (ht (hq.mpr z)) r0) (fun z => hN _ _ _ _ _ ls H locs (he (fun y => z (hq.mp y))) r0)
    | ge => exact lv_icmp_ge hx hb hdec h1 (fun z => hN _ _ _ _ _ ls H locs (ht (hq.mpr z)) r0) (fun z => hN _ _ _ _ _ ls H locs (he (fun y => z (hq.mp y))) r0)
    | gt => exact lv_icmp_gt hx hb hdec h1 (fun z => hN _ _ _ _ _ ls H locs (ht (hq.mpr z)) r0) (fun z => hN _ _ _ _ _ ls H locs (he (fun y => z (hq.mp y))) r0)
    | le => exact lv_icmp_le hx hb hdec h1 (fun z => hN _ _ _ _ _ ls H locs (ht (hq.mpr z)) r0) (fun z => hN _ _ _ _ _ ls H locs (he (fun y => z (hq.mp y))) r0)
  case tableswitch dd lo hi offs =>
    simp only [wpI] at hw
    obtain ⟨x, T, rfl, h0⟩ := pI_of hw
    split at h0
    · next hc => exact lv_tableOut hx hb hdec hc h0.1 (hN _ _ _ _ _ ls H locs h0.2 r0)
    · next hc =>
      obtain ⟨off, h1, h2, h3⟩ := oo_of h0
      exact lv_tableIn hx hb hdec (fun z => hc (Or.inl z)) (fun z => hc (Or.inr z)) h1 h2 (hN _ _ _ _ _ ls H locs h3 r0)
  case getfield i =>
    obtain rfl : len = 3 := by rcases hlen with h1 | h1 <;> simp [s_len] at h1 <;> exact h1.symm
    simp only [wpI] at hw
    obtain ⟨a, T, rfl, h1⟩ := pR_of hw
    obtain ⟨⟨ci, kf⟩, h2, h1⟩ := oo_of h1
    obtain ⟨c0, fs, h3, h9, h4⟩ := oO_of h1
    have h9 : ci = c0 := h9.symm
    subst h9
    obtain ⟨v, h5, h6⟩ := oo_of h4
    dsimp only at h3 h5
    have hxa : a ≠ 1000000 := s_not_x hX r3 h3 (fun z => by cases z; exact absurd (pf_fact h2).1 (by omega)) (fun n f z => by cases z)
    obtain ⟨f1, f2, f3, f4⟩ := pf_fact h2
    obtain ⟨g1, g2, g3⟩ := s_obj_at r2 f1 h3 hxa
    obtain ⟨o1, o2, o3, o4⟩ := s_owns _ f1
    have h7 := hN _ _ _ _ _ ls H locs h6 r0
    rw [List.map_cons] at h7 ⊢
    rw [s_tr_r, g2]
    exact va_get (T := cT ci) (N := cN ci) (ci := ci) (fs := fs.map (s_tr G)) hx hb hts o1 hown hK.1 r2.1 a g3 o4 kf f2 (hts _ f4) (fun x hx => by rw [f3] at hx; exact hx) (by rw [List.getElem?_map, h5]; rfl) hdec h7
  case putfield i =>
    obtain rfl : len = 3 := by rcases hlen with h1 | h1 <;> simp [s_len] at h1 <;> exact h1.symm
    simp only [wpI] at hw
    obtain ⟨v, T, rfl, h1⟩ := pA_of hw
    obtain ⟨a, T, rfl, h1⟩ := pR_of h1
    obtain ⟨⟨ci, kf⟩, h2, h1⟩ := oo_of h1
    obtain ⟨c0, fs, h3, h9, h4, h5, h6, h7, h8⟩ := oO_of h1
    have h9 : ci = c0 := h9.symm
    subst h9
    dsimp only at h3 h4 h5 h6 h7 h8
    have hxa : a ≠ 1000000 := s_not_x hX r3 h3 (fun z => by cases z; exact absurd (pf_fact h2).1 (by omega)) (fun n f z => by cases z)
    obtain ⟨f1, f2, f3, f4⟩ := pf_fact h2
    obtain ⟨g1, g2, g3⟩ := s_obj_at r2 f1 h3 hxa
    obtain ⟨o1, o2, o3, o4⟩ := s_owns _ f1
    rw [List.map_cons, List.map_cons, s_tr_r, g2]
    have hD := s_ws_D G h
    have fin : ∀ (H1 : Heap) (locs1 : List Loc), va_P G.1 vwCl ((s_ws G h).set a (G.2.2.1 + a, .inr (ci, (fs.map (s_tr G)).set kf (s_tr G v)))) H1 → H1.size = H.size → va_S (s_A G) s.heap H1 locs1 → W p l e R s mm args below meth c H1 locs1 k.1 k.2 Qm (F0 mm (pc0 + 3) ls (T.map (s_tr G))) := by
      intro H1 locs1 q1 q2 q3
      rw [← List.map_set] at q1
      exact hN _ _ _ _ _ ls H1 locs1 h8 ⟨r1, r2.put (c := .inr (ci, fs.set kf v)) g1 q1 q2, by rw [hg_hs, if_neg (fun z => hxa z.symm)]; exact r3, q3, r5, r6⟩
    exact s_putf hx hb hts o1 (cTy ci) o2 o3 hown hK.1 r2.1 hD r4 a g3 o4 kf f2 (hts _ f4) f3 (fun z => by obtain ⟨y1, y2⟩ := h7 z;  exact ⟨hini y1, by rw [y2]⟩) (s_narrow h5) ((s_fits G _ v).trans h6) (by rw [List.length_map]; exact h4) hdec fin
  case arraylength =>
    obtain rfl : len = 1 := by rcases hlen with h1 | h1 <;> simp [s_len] at h1 <;> exact h1.symm
    simp only [wpI] at hw
    obtain ⟨a, T, rfl, h1⟩ := pR_of hw
    obtain ⟨t, n, g, h2, h3, h4⟩ := oA_of h1
    have h5 := hN _ _ _ _ _ ls H locs h4 r0
    rw [List.map_cons] at h5 ⊢
    by_cases hxa : a = 1000000
    · subst hxa
      rw [h2] at r3
      rcases hX with z | ⟨n2, f, z, x1, x2, x3⟩
      · rw [z] at r3; cases r3
      · rw [z] at r3; cases r3
        exact va_slen hx hb x1 x2 (Nat.not_le.mpr x3) r4 hdec h5
    · obtain ⟨g1, g2, g3⟩ := s_arr_at r2 h2 hxa
      have ht : t < 6 := h3.resolve_right (fun z => hxa z.2)
      rw [s_tr_r, g2]
      obtain g | g | g | g | g := g <;> exact va_alen hx hb hK.1 r2.1 a t g3 (s_kindAt ht) rfl hdec h5
  case iaload =>
    obtain rfl : len = 1 := by rcases hlen with h1 | h1 <;> simp [s_len] at h1 <;> exact h1.symm
    simp only [wpI] at hw
    obtain ⟨i, T, rfl, h1⟩ := pI_of hw
    obtain ⟨a, T, rfl, h1⟩ := pR_of h1
    obtain ⟨t, n, g, h2, h3, h4, h5⟩ := oI_of h1
    have h5 := hN _ _ _ _ _ ls H locs h5 r0
    rw [List.map_cons] at h5 ⊢
    rw [List.map_cons]
    by_cases hxa : a = 1000000
    · subst hxa
      rw [h2] at r3
      rcases hX with z | ⟨n2, f, z, x1, x2, x3⟩
      · rw [z] at r3; cases r3
      · rw [z] at r3; cases r3
        exact va_sld hx hb x1 x2 (Nat.not_le.mpr x3) r4 h4 hdec h5
    · obtain ⟨g1, g2, g3⟩ := s_arr_at r2 h2 hxa
      have ht : t = 0 := h3.resolve_right (fun z => hxa z.2)
      subst ht
      rw [s_tr_r, g2]
      exact va_iald hx hb hK.1 r2.1 a 0 g3 (s_kindAt (by decide)) h4 hdec h5
  case baload =>
    obtain rfl : len = 1 := by rcases hlen with h1 | h1 <;> simp [s_len] at h1 <;> exact h1.symm
    simp only [wpI] at hw
    obtain ⟨i, T, rfl, h1⟩ := pI_of hw
    obtain ⟨a, T, rfl, h1⟩ := pR_of h1
    obtain ⟨t, n, g, h2, rfl, h4, h5⟩ := oI_of h1
    have h5 := hN _ _ _ _ _ ls H locs h5 r0
    rw [List.map_cons] at h5 ⊢
    rw [List.map_cons]
    have hxa : a ≠ 1000000 := s_not_x hX r3 h2 (fun z => by cases z) (fun n f z => by cases z)
    obtain ⟨g1, g2, g3⟩ := s_arr_at r2 h2 hxa
    rw [s_tr_r, g2]
    exact va_zald hx hb hK.1 r2.1 a 1 g3 (s_kindAt (by decide)) h4 hdec h5
  case faload =>
    obtain rfl : len = 1 := by rcases hlen with h1 | h1 <;> simp [s_len] at h1 <;> exact h1.symm
    simp only [wpI] at hw
    obtain ⟨i, T, rfl, h1⟩ := pI_of hw
    obtain ⟨a, T, rfl, h1⟩ := pR_of h1
    obtain ⟨t, n, g, h2, rfl, h4, h5⟩ := oF_of h1
    have h5 := hN _ _ _ _ _ ls H locs h5 r0
    rw [List.map_cons] at h5 ⊢
    rw [List.map_cons]
    have hxa : a ≠ 1000000 := s_not_x hX r3 h2 (fun z => by cases z) (fun n f z => by cases z)
    obtain ⟨g1, g2, g3⟩ := s_arr_at r2 h2 hxa
    rw [s_tr_r, g2]
    exact va_fald hx hb hK.1 r2.1 a 2 g3 (s_kindAt (by decide)) h4 hdec h5
  case laload =>
    obtain rfl : len = 1 := by rcases hlen with h1 | h1 <;> simp [s_len] at h1 <;> exact h1.symm
    simp only [wpI] at hw
    obtain ⟨i, T, rfl, h1⟩ := pI_of hw
    obtain ⟨a, T, rfl, h1⟩ := pR_of h1
    obtain ⟨t, n, g, h2, rfl, h4, h5⟩ := oL_of h1
    have h5 := hN _ _ _ _ _ ls H locs h5 r0
    rw [List.map_cons] at h5 ⊢
    rw [List.map_cons]
    have hxa : a ≠ 1000000 := s_not_x hX r3 h2 (fun z => by cases z) (fun n f z => by cases z)
    obtain ⟨g1, g2, g3⟩ := s_arr_at r2 h2 hxa
    rw [s_tr_r, g2]
    exact va_lald hx hb hK.1 r2.1 a 3 g3 (s_kindAt (by decide)) h4 hdec h5
  case aaload =>
    obtain rfl : len = 1 := by rcases hlen with h1 | h1 <;> simp [s_len] at h1 <;> exact h1.symm
    simp only [wpI] at hw
    obtain ⟨i, T, rfl, h1⟩ := pI_of hw
    obtain ⟨a, T, rfl, h1⟩ := pR_of h1
    obtain ⟨t, n, g, h2, h3, h4, h5⟩ := oQ_of h1
    obtain ⟨q, h6, h7⟩ := oo_of h5
    have h7 := hN _ _ _ _ _ ls H locs h7 r0
    rw [List.map_cons] at h7 ⊢
    rw [List.map_cons]
    have hxa : a ≠ 1000000 := s_not_x hX r3 h2 (fun z => by cases z) (fun n f z => by cases z)
    obtain ⟨g1, g2, g3⟩ := s_arr_at r2 h2 hxa
    rw [s_tr_r, g2]
    have e1 : va_rf ((fun j => (g j).map (s_ad G)) i.toNatClampNeg) = s_tr G (.ref q) := by dsimp only; rw [h6]; rfl
    rw [← e1] at h7
    rcases h3 with rfl | rfl
    · exact va_aldq (C := RX1) hx hb hK.1 r2.1 a 4 g3 (s_kindAt (by decide)) h4 hdec h7
    · exact va_aldq (C := RX7) hx hb hK.1 r2.1 a 5 g3 (s_kindAt (by decide)) h4 hdec h7
  case iastore =>
    obtain rfl : len = 1 := by rcases hlen with h1 | h1 <;> simp [s_len] at h1 <;> exact h1.symm
    simp only [wpI] at hw
    obtain ⟨x, T, rfl, h1⟩ := pI_of hw
    obtain ⟨i, T, rfl, h1⟩ := pI_of h1
    obtain ⟨a, T, rfl, h1⟩ := pR_of h1
    obtain ⟨t, n, g, h2, rfl, h4, h5⟩ := oI_of h1
    rw [List.map_cons, List.map_cons, List.map_cons]
    have hxa : a ≠ 1000000 := s_not_x hX r3 h2 (fun z => by cases z) (fun n f z => by cases z)
    obtain ⟨g1, g2, g3⟩ := s_arr_at r2 h2 hxa
    rw [s_tr_r, g2]
    exact s_iast hx hb hK.1 r2.1 (s_ws_D G h) r4 a 0 g3 (s_kindAt (by decide)) h4 hdec fun H1 locs1 q1 q2 q3 => hN _ _ _ _ _ ls H1 locs1 h5 ⟨r1, r2.put (c := .inl (0, n, .inl (upd g i.toNatClampNeg x))) g1 q1 q2, by rw [hg_hs, if_neg (fun z => hxa z.symm)]; exact r3, q3, r5, r6⟩
  case bastore =>
    obtain rfl : len = 1 := by rcases hlen with h1 | h1 <;> simp [s_len] at h1 <;> exact h1.symm
    simp only [wpI] at hw
    obtain ⟨x, T, rfl, h1⟩ := pI_of hw
    obtain ⟨i, T, rfl, h1⟩ := pI_of h1
    obtain ⟨a, T, rfl, h1⟩ := pR_of h1
    obtain ⟨t, n, g, h2, rfl, h4, h5⟩ := oI_of h1
    rw [List.map_cons, List.map_cons, List.map_cons]
    have hxa : a ≠ 1000000 := s_not_x hX r3 h2 (fun z => by cases z) (fun n f z => by cases z)
    obtain ⟨g1, g2, g3⟩ := s_arr_at r2 h2 hxa
    rw [s_tr_r, g2]
    exact s_zast hx hb hK.1 r2.1 (s_ws_D G h) r4 a 1 g3 (s_kindAt (by decide)) h4 hdec fun H1 locs1 q1 q2 q3 => hN _ _ _ _ _ ls H1 locs1 h5 ⟨r1, r2.put (c := .inl (1, n, .inl (upd g i.toNatClampNeg (vp_nar .boolean x)))) g1 q1 q2, by rw [hg_hs, if_neg (fun z => hxa z.symm)]; exact r3, q3, r5, r6⟩
  case fastore =>
    obtain rfl : len = 1 := by rcases hlen with h1 | h1 <;> simp [s_len] at h1 <;> exact h1.symm
    simp only [wpI] at hw
    obtain ⟨x, T, rfl, h1⟩ := pF_of hw
    obtain ⟨i, T, rfl, h1⟩ := pI_of h1
    obtain ⟨a, T, rfl, h1⟩ := pR_of h1
    obtain ⟨t, n, g, h2, rfl, h4, h5⟩ := oF_of h1
    rw [List.map_cons, List.map_cons, List.map_cons]
    have hxa : a ≠ 1000000 := s_not_x hX r3 h2 (fun z => by cases z) (fun n f z => by cases z)
    obtain ⟨g1, g2, g3⟩ := s_arr_at r2 h2 hxa
    rw [s_tr_r, g2]
    exact s_fast hx hb hK.1 r2.1 (s_ws_D G h) r4 a 2 g3 (s_kindAt (by decide)) h4 hdec fun H1 locs1 q1 q2 q3 => hN _ _ _ _ _ ls H1 locs1 h5 ⟨r1, r2.put (c := .inl (2, n, .inr (.inr (.inl (vf_upd g i.toNatClampNeg x))))) g1 q1 q2, by rw [hg_hs, if_neg (fun z => hxa z.symm)]; exact r3, q3, r5, r6⟩
  case aastore =>
    obtain rfl : len = 1 := by rcases hlen with h1 | h1 <;> simp [s_len] at h1 <;> exact h1.symm
    simp only [wpI] at hw
    obtain ⟨x, T, rfl, h1⟩ := pR_of hw
    obtain ⟨i, T, rfl, h1⟩ := pI_of h1
    obtain ⟨a, T, rfl, h1⟩ := pR_of h1
    obtain ⟨t, n, g, h2, h3, h4, h5⟩ := oQ_of h1
    rw [List.map_cons, List.map_cons, List.map_cons]
    have hxa : a ≠ 1000000 := s_not_x hX r3 h2 (fun z => by cases z) (fun n f z => by cases z)
    obtain ⟨g1, g2, g3⟩ := s_arr_at r2 h2 hxa
    have hgo : ∀ (ci : Nat) (fs : List Value) (tk : Nat) (ht : t = tk) (htk : tk < 6) (hci : ci < 10) (hk : s_kind tk = .object (cR ci)), hg h x = .inr (ci, fs) → W p l e R s mm args below meth c H locs k.1 k.2 Qm (F0 mm pc0 ls (s_tr G (.ref x) :: s_tr G (.int i) :: s_tr G (.ref a) :: T.map (s_tr G))) := by
      intro ci fs tk ht htk hci hk hxx
      subst ht
      have hxb : x ≠ 1000000 := s_not_x hX r3 hxx (fun z => by cases z; omega) (fun n f z => by cases z)
      obtain ⟨y1, y2, y3⟩ := s_obj_at r2 hci hxx hxb
      obtain ⟨o1, o2, o3, o4⟩ := s_owns _ hci
      rw [s_tr_r, s_tr_r, g2, y2]
      refine s_aast hx hb hK.1 r2.1 (s_ws_D G h) r4 a t x ci g3 (by rw [s_kindAt htk, hk]) y3 o4 h4 hdec fun H1 locs1 q1 q2 q3 => hN _ _ _ _ _ ls H1 locs1 h5 ⟨r1, r2.put (c := .inl (t, n, .inr (.inr (.inr (.inr (va_up g i.toNatClampNeg (some x))))))) g1 ?_ q2, by rw [hg_hs, if_neg (fun z => hxa z.symm)]; exact r3, q3, r5, r6⟩
      have e1 : (fun j => (va_up g i.toNatClampNeg (some x) j).map (s_ad G)) = va_up (fun j => (g j).map (s_ad G)) i.toNatClampNeg (some (G.2.2.1 + x)) := by
        funext j
        by_cases hj : j = i.toNatClampNeg <;> simp [va_up, hj, y2]
      show va_P G.1 vwCl ((s_ws G h).set a (G.2.2.1 + a, .inl (G.2.1 t, n, .inr (.inr (.inr (.inr fun j => (va_up g i.toNatClampNeg (some x) j).map (s_ad G))))))) H1
      rw [e1]
      exact q1
    rcases h3 with ⟨ht, h3⟩ | ⟨ht, h3⟩
    · obtain ⟨c0, fs, h6, rfl⟩ := oO_of h3
      exact hgo 1 fs 4 ht (by decide) (by decide) rfl h6
    · obtain ⟨c0, fs, h6, rfl⟩ := oO_of h3
      exact hgo 7 fs 5 ht (by decide) (by decide) rfl h6
  case new i =>
    obtain rfl : len = 3 := by rcases hlen with h1 | h1 <;> simp [s_len] at h1 <;> exact h1.symm
    simp only [wpI] at hw
    obtain ⟨ci, h1, h2, h3, h4, h5, h6⟩ := oo_of hw
    obtain ⟨f1, f2⟩ := pc_fact h1
    obtain ⟨o1, o2, o3, o4⟩ := s_owns _ f1
    have hKn := hK.1.1 ci _ o4
    have hsz := r2.2.2.1 h2
    refine W.newcK hx hb hown (hts _ f2) (hts _ (s_gt_of (k_obj _ f1) rfl)) (hts _ (s_gt_of (k_ini _ (by omega)) rfl)) rfl hdec (by omega) (by omega) hKn.2.1 rfl fun H1 kC hkC e1 z1 o5 => ?_
    have he : va_at G.1 vwCl (H.size, s_toE G (.inr (ci, s_def ci))) H1 := by
      refine ⟨_, o4, (u_born (cTy ci) hts o1 hKn hkC e1 o2).to fun j hj => ?_⟩
      have e2 : (s_def ci)[j]? = some (defaultValue (cTy ci j)) := by unfold s_def; rw [List.getElem?_map, List.getElem?_range hj]; rfl
      show defaultValue (cTy ci j) = ((s_def ci).map (s_tr G)).getD j .null
      rw [List.getD_eq_getElem?_getD, List.getElem?_map, e2]
      cases cTy ci j <;> rfl
    have r2n := r2.new h2 h3 z1 o5 he
    have h7 := hN _ _ _ _ _ ls H1 locs h6 ⟨r1, r2n, by rw [hg_hn, if_neg (by omega)]; exact r3, ⟨by have := r4.1; omega, fun q q1 q2 => (o5 q (Nat.lt_of_lt_of_le q1 r4.1)).trans (r4.2.1 q q1 q2), r4.2.2⟩, h4, h5⟩
    rw [List.map_cons, s_tr_r] at h7
    have e3 : s_ad G h.2.1 = H.size := by unfold s_ad; rw [if_pos (by omega), hsz]
    rw [e3] at h7
    exact h7
  case newarray t =>
    obtain rfl : len = 2 := by rcases hlen with h1 | h1 <;> simp [s_len] at h1 <;> exact h1.symm
    simp only [wpI] at hw
    obtain ⟨n, T, rfl, h1⟩ := pI_of hw
    cases t with
    | int =>
      obtain ⟨h2, h3, h4, h5, h6, h7, h8, h9⟩ := h1
      have hsz := r2.2.2.1 h2
      rw [List.map_cons]
      refine va_newaK (g := F0 mm pc0 ls (.int n :: T.map (s_tr G))) hx hb (atype := .int) (hts _ n_ac_int) rfl hdec rfl h4 rfl (s_bytes (ty := .int) (by decide) h5) (by omega) (by omega) rfl fun H1 cA e1 z1 o5 hAr hNm => ?_
      have hcA : cA = G.2.1 0 := Option.some.inj (hNm.symm.trans (hK.1.2 0 _ (s_kindAt (by decide))).2)
      subst hcA
      have r2n := r2.new (c := .inl (0, n.toNatClampNeg, .inl fun _ => 0)) h2 h3 z1 o5 (by show H1[H.size]? = some (vp_cell _ _); rw [e1]; rfl)
      have h10 := hN _ _ _ _ _ ls H1 locs h9 ⟨r1, r2n, by rw [hg_hn, if_neg (by omega)]; exact r3, ⟨by have := r4.1; omega, fun q q1 q2 => (o5 q (Nat.lt_of_lt_of_le q1 r4.1)).trans (r4.2.1 q q1 q2), r4.2.2⟩, h7, h8⟩
      rw [List.map_cons, s_tr_r] at h10
      have e3 : s_ad G h.2.1 = H.size := by unfold s_ad; rw [if_pos (by omega), hsz]
      rw [e3] at h10
      exact h10
    | boolean =>
      obtain ⟨h2, h3, h4, h5, h6, h7, h8, h9⟩ := h1
      have hsz := r2.2.2.1 h2
      rw [List.map_cons]
      refine va_newaK (g := F0 mm pc0 ls (.int n :: T.map (s_tr G))) hx hb (atype := .boolean) (hts _ n_ac_boolean) rfl hdec rfl h4 rfl (s_bytes (ty := .boolean) (by decide) h5) (by omega) (by omega) rfl fun H1 cA e1 z1 o5 hAr hNm => ?_
      have hcA : cA = G.2.1 1 := Option.some.inj (hNm.symm.trans (hK.1.2 1 _ (s_kindAt (by decide))).2)
      subst hcA
      have r2n := r2.new (c := .inl (1, n.toNatClampNeg, .inl fun _ => 0)) h2 h3 z1 o5 (by show H1[H.size]? = some (vp_cell _ _); rw [e1]; rfl)
      have h10 := hN _ _ _ _ _ ls H1 locs h9 ⟨r1, r2n, by rw [hg_hn, if_neg (by omega)]; exact r3, ⟨by have := r4.1; omega, fun q q1 q2 => (o5 q (Nat.lt_of_lt_of_le q1 r4.1)).trans (r4.2.1 q q1 q2), r4.2.2⟩, h7, h8⟩
      rw [List.map_cons, s_tr_r] at h10
      have e3 : s_ad G h.2.1 = H.size := by unfold s_ad; rw [if_pos (by omega), hsz]
      rw [e3] at h10
      exact h10
    | float =>
      obtain ⟨h2, h3, h4, h5, h6, h7, h8, h9⟩ := h1
      have hsz := r2.2.2.1 h2
      rw [List.map_cons]
      refine va_newaK (g := F0 mm pc0 ls (.int n :: T.map (s_tr G))) hx hb (atype := .float) (hts _ n_ac_float) rfl hdec rfl h4 rfl (s_bytes (ty := .float) (by decide) h5) (by omega) (by omega) rfl fun H1 cA e1 z1 o5 hAr hNm => ?_
      have hcA : cA = G.2.1 2 := Option.some.inj (hNm.symm.trans (hK.1.2 2 _ (s_kindAt (by decide))).2)
      subst hcA
      have r2n := r2.new (c := .inl (2, n.toNatClampNeg, .inr (.inr (.inl fun _ => 0)))) h2 h3 z1 o5 (by show H1[H.size]? = some (vp_cell _ _); rw [e1]; rfl)
      have h10 := hN _ _ _ _ _ ls H1 locs h9 ⟨r1, r2n, by rw [hg_hn, if_neg (by omega)]; exact r3, ⟨by have := r4.1; omega, fun q q1 q2 => (o5 q (Nat.lt_of_lt_of_le q1 r4.1)).trans (r4.2.1 q q1 q2), r4.2.2⟩, h7, h8⟩
      rw [List.map_cons, s_tr_r] at h10
      have e3 : s_ad G h.2.1 = H.size := by unfold s_ad; rw [if_pos (by omega), hsz]
      rw [e3] at h10
      exact h10
    | long =>
      obtain ⟨h2, h3, h4, h5, h6, h7, h8, h9⟩ := h1
      have hsz := r2.2.2.1 h2
      rw [List.map_cons]
      refine va_newaK (g := F0 mm pc0 ls (.int n :: T.map (s_tr G))) hx hb (atype := .long) (hts _ n_ac_long) rfl hdec rfl h4 rfl (s_bytes (ty := .long) (by decide) h5) (by omega) (by omega) rfl fun H1 cA e1 z1 o5 hAr hNm => ?_
      have hcA : cA = G.2.1 3 := Option.some.inj (hNm.symm.trans (hK.1.2 3 _ (s_kindAt (by decide))).2)
      subst hcA
      have r2n := r2.new (c := .inl (3, n.toNatClampNeg, .inr (.inl fun _ => 0))) h2 h3 z1 o5 (by show H1[H.size]? = some (vp_cell _ _); rw [e1]; rfl)
      have h10 := hN _ _ _ _ _ ls H1 locs h9 ⟨r1, r2n, by rw [hg_hn, if_neg (by omega)]; exact r3, ⟨by have := r4.1; omega, fun q q1 q2 => (o5 q (Nat.lt_of_lt_of_le q1 r4.1)).trans (r4.2.1 q q1 q2), r4.2.2⟩, h7, h8⟩
      rw [List.map_cons, s_tr_r] at h10
      have e3 : s_ad G h.2.1 = H.size := by unfold s_ad; rw [if_pos (by omega), hsz]
      rw [e3] at h10
      exact h10
    | char => exact h1.elim
    | double => exact h1.elim
    | byte => exact h1.elim
    | short => exact h1.elim
  case anewarray i =>
    obtain rfl : len = 3 := by rcases hlen with h1 | h1 <;> simp [s_len] at h1 <;> exact h1.symm
    simp only [wpI] at hw
    obtain ⟨n, T, rfl, h1⟩ := pI_of hw
    obtain ⟨ci, h0, hci, h2, h3, h4, h5, h6, h7, h8, h9⟩ := oo_of h1
    obtain ⟨f1, f2⟩ := pc_fact h0
    have hsz := r2.2.2.1 h2
    rw [List.map_cons]
    have hao : va_AO (cR ci) s := by rcases hci with rfl | rfl; exact hK.2.1; exact hK.2.2.1
    refine W.anew (g := F0 mm pc0 ls (.int n :: T.map (s_tr G))) hx hb hown (hts _ f2) (va_AO.use hao) rfl hdec rfl h4 (by omega) (by omega) (by omega) fun cA kA comp w1 w2 w3 w4 => ?_
    generalize hH1 : H.push ({ cls := cA, slots := Array.replicate n.toNatClampNeg .null, vm := .none } : Cell) = H1
    have z1 : H1.size = H.size + 1 := by rw [← hH1, Array.size_push]
    have e1 : H1[H.size]? = some (arrV cA n.toNatClampNeg (fun _ => .null)) := by rw [← hH1, Array.getElem?_push_size, ← arrV_new]
    have o5 : ∀ q : Nat, q < H.size → H1[q]? = H[q]? := fun q hq => by rw [← hH1, Array.getElem?_push, if_neg (Nat.ne_of_lt hq)]
    have hcA : cA = G.2.1 (if ci = 1 then 4 else 5) := by
      rcases hci with rfl | rfl
      · obtain ⟨_, _, _, _, _, x4⟩ := (hK.1.2 4 _ (s_kindAt (by decide))).2
        exact Option.some.inj (w1.symm.trans x4)
      · obtain ⟨_, _, _, _, _, x4⟩ := (hK.1.2 5 _ (s_kindAt (by decide))).2
        exact Option.some.inj (w1.symm.trans x4)
    subst hcA
    have r2n := r2.new (c := .inl ((if ci = 1 then 4 else 5), n.toNatClampNeg, .inr (.inr (.inr (.inr fun _ => none))))) h2 h3 z1 o5 (by show H1[H.size]? = some (vp_cell _ _); rw [e1]; rfl)
    have h10 := hN _ _ _ _ _ ls H1 locs h9 ⟨r1, r2n, by rw [hg_hn, if_neg (by omega)]; exact r3, ⟨by have := r4.1; omega, fun q q1 q2 => (o5 q (Nat.lt_of_lt_of_le q1 r4.1)).trans (r4.2.1 q q1 q2), r4.2.2⟩, h7, h8⟩
    rw [List.map_cons, s_tr_r] at h10
    have e3 : s_ad G h.2.1 = H.size := by unfold s_ad; rw [if_pos (by omega), hsz]
    rw [e3] at h10
    exact h10
  case invokevirtual i =>
    obtain rfl : len = 3 := by rcases hlen with h1 | h1 <;> simp [s_len] at h1 <;> exact h1.symm
    simp only [wpI] at hw
    obtain ⟨y, h1, h2⟩ := oo_of hw
    obtain ⟨b, rest, h3, h4, h5, h6⟩ := pR_of h2
    rcases Nat.lt_or_ge y 1000 with hy | hy
    · obtain ⟨y1, y2⟩ := pm_fact h1 hy hm14
      obtain ⟨hst, hob⟩ := h5 hy
      have y3 : Jvm.Cond.methodLink (cR (mC m)) i (mY y) ∈ s_gt := y2.resolve_right (fun z => by omega)
      obtain ⟨c0, fs, g1, g2⟩ := oO_of hob
      subst g2
      obtain ⟨e1, e2⟩ := k_meth1 y y1
      have hci : mC y < 10 := by
        rcases Nat.lt_or_ge (mC y) 10 with z | z
        · exact z
        · exact absurd (k_inst y y1 hst) (by omega)
      have hxb : b ≠ 1000000 := s_not_x hX r3 g1 (fun z => by unfold s_junk at z; injection z with z; injection z with z z2; omega) (fun n f z => by cases z)
      obtain ⟨b1, b2, b3⟩ := s_obj_at r2 hci g1 hxb
      obtain ⟨o1, o2, o3, o4⟩ := s_owns _ hci
      have hS := s_args_map (G := G) h4
      rw [h3, List.map_cons] at hS
      refine s_goCall C0 hKO y1 hN r0 h6 fun hM => ?_
      refine va_runV (C := cR (mC y)) (n := mNa y) (b := s_ad G b) (As := (s_args (mNa y) S).map (s_tr G)) (Ts := s_gt) (index := i) ⟨hx, hb, hml, hown, hts⟩ hM ⟨s_cw C0 y1 y3, ?_, ?_⟩ ⟨s_blind _ _, ?_, ?_⟩ rfl (s_args_len h4) r1.1 hS (s_mon h6.1) hdec ⟨by have := h6.2.1; omega, by have := h6.2.2.1; omega⟩
      · have := k_kind y y1
        rw [if_neg (by omega)] at this
        exact hts _ (s_gt_of this rfl)
      · have := k_sel y y1 hst
        rw [e1] at this
        exact hts _ (s_gt_of this rfl)
      · rw [b2]
        exact va_recv hK.1 r2.1 o4 b3
      · exact s_pre C0 r2 r3 r4
    · exact hEO y i pc0 _ L S h k ls H locs N _ rest hy h1 (Or.inl ⟨rfl, b, h3, rfl⟩) h4 hdec hN r0 h6
  case invokespecial i =>
    obtain rfl : len = 3 := by rcases hlen with h1 | h1 <;> simp [s_len] at h1 <;> exact h1.symm
    simp only [wpI] at hw
    split at hw
    · next n hpn =>
      obtain ⟨h7, hw⟩ := hw
      subst h7
      obtain ⟨b, rest, rfl, h1, h2⟩ := pR_of hw
      obtain ⟨f1, f2, f3⟩ := pn_fact hpn
      rw [List.map_cons]
      refine W.objInit (g := F0 mm pc0 ls (s_tr G (.ref b) :: rest.map (s_tr G))) hx hb hown (hts _ f3) (hts _ n_im7) (hts _ n_cd7) rfl (r1.1.trans hml.symm) rfl hdec (by omega) (by rw [s_cat_tr]; show 2 * 0 + _ + _ ≤ _; omega) (hN _ _ _ _ _ ls H locs h2 r0)
    · next hpn =>
      obtain ⟨y, h1, h2⟩ := oo_of hw
      obtain ⟨b, rest, h3, h4, h5, h5b, h6⟩ := pR_of h2
      obtain ⟨y1, y2⟩ := pm_fact h1 h5 hm14
      obtain ⟨e1, e2⟩ := k_meth1 y y1
      obtain ⟨-, -, e3⟩ := k_meth3 y y1
      obtain ⟨e3, e4⟩ := e3 h5b
      have hS := s_args_map (G := G) h4
      rw [h3, List.map_cons] at hS
      have hin : (Jvm.Cond.instanceMethod (mY y)).before args s = true := by
        have := k_kind y y1
        rw [if_neg (by omega)] at this
        exact hts _ (s_gt_of this rfl)
      refine s_goCall C0 hKO y1 hN r0 h6 fun hM => ?_
      rcases y2 with y2 | ⟨-, y2⟩
      · have cw := s_cw C0 y1 y2
        rw [e4] at cw
        exact va_runI (n := mNa y) (b := s_ad G b) (As := (s_args (mNa y) S).map (s_tr G)) (Ts := s_gt) (index := i) ⟨hx, hb, hml, hown, hts⟩ hM ⟨cw, e3, hin⟩ ⟨s_blind _ _, s_pre C0 r2 r3 r4⟩ rfl (s_args_len h4) r1.1 hS (s_mon h6.1) hdec ⟨by have := h6.2.1; omega, by have := h6.2.2.1; omega⟩
      · have cw := s_cwN C0 y1 y2
        rw [e4] at cw
        exact va_runIN (n := mNa y) (b := s_ad G b) (As := (s_args (mNa y) S).map (s_tr G)) (Ts := s_gt) (index := i) ⟨hx, hb, hml, hown, hts⟩ hM ⟨cw, e3, hin⟩ ⟨s_blind _ _, s_pre C0 r2 r3 r4⟩ rfl (s_args_len h4) r1.1 hS (s_mon h6.1) hdec ⟨by have := h6.2.1; omega, by have := h6.2.2.1; omega⟩
  case invokestatic i =>
    obtain rfl : len = 3 := by rcases hlen with h1 | h1 <;> simp [s_len] at h1 <;> exact h1.symm
    simp only [wpI] at hw
    have hms : c.maxLocals = ls.size := hml.trans r1.1.symm
    split at hw
    · next hpn =>
      obtain ⟨f1, f2, f3⟩ := pn_fact hpn
      obtain ⟨y, T, rfl, h1⟩ := pI_of hw
      obtain ⟨x, T, rfl, h2, h3⟩ := pI_of h1
      exact va_mmax hx hb hms hown (hts _ f3) (hts _ n_st1) (hts _ n_iM) (hts _ n_cd1) (by omega) (by rw [s_cat_tr]; omega) (by omega) (by omega) hdec (hN _ _ _ _ _ ls H locs h3 r0)
    · next hpn =>
      obtain ⟨f1, f2, f3⟩ := pn_fact hpn
      obtain ⟨y, T, rfl, h1⟩ := pI_of hw
      obtain ⟨x, T, rfl, h2, h3⟩ := pI_of h1
      exact va_mmin hx hb hms hown (hts _ f3) (hts _ n_st2) (hts _ n_iM) (hts _ n_cd2) (by omega) (by rw [s_cat_tr]; omega) (by omega) (by omega) hdec (hN _ _ _ _ _ ls H locs h3 r0)
    · next hpn =>
      obtain ⟨f1, f2, f3⟩ := pn_fact hpn
      obtain ⟨x, T, rfl, h2, h3⟩ := pI_of hw
      exact va_mabs hx hb hms hown (hts _ f3) (hts _ n_st3) (hts _ n_iM) (hts _ n_cd3) (by omega) (by rw [s_cat_tr]; omega) (by omega) (by omega) hdec (hN _ _ _ _ _ ls H locs h3 r0)
    · next hpn =>
      obtain ⟨f1, f2, f3⟩ := pn_fact hpn
      obtain ⟨x, T, rfl, h2, h4, h3⟩ := pI_of hw
      exact vn_i2f hx hb hms hown (hts _ f3) (hts _ n_nt4) (hts _ n_st4) (hts _ n_iF) h4 (by omega) (by rw [s_cat_tr]; omega) hdec (hN _ _ _ _ _ ls H locs h3 r0)
    · next hpn =>
      obtain ⟨f1, f2, f3⟩ := pn_fact hpn
      obtain ⟨x, T, rfl, h2, h3⟩ := pF_of hw
      exact vn_f2i hx hb hms hown (hts _ f3) (hts _ n_nt5) (hts _ n_st5) (hts _ n_iF) (by omega) (by rw [s_cat_tr]; omega) hdec (hN _ _ _ _ _ ls H locs h3 r0)
    · next hpn =>
      obtain ⟨f1, f2, f3⟩ := pn_fact hpn
      obtain ⟨x, T, rfl, h2, h3⟩ := pD_of hw
      exact vn_d2l hx hb hms hown (hts _ f3) (hts _ n_nt6) (hts _ n_st6) (hts _ n_iD) (by omega) (by rw [s_cat_tr]; omega) hdec (hN _ _ _ _ _ ls H locs h3 r0)
    · exact hw.elim
    · next hpn =>
      obtain ⟨y, h1, h4, h5, h6⟩ := oo_of hw
      rcases Nat.lt_or_ge y 1000 with hy | hy
      · obtain ⟨y1, y2⟩ := pm_fact h1 hy hm14
        have hst := h5 hy
        have y3 : Jvm.Cond.methodLink (cR (mC m)) i (mY y) ∈ s_gt := y2.resolve_right (fun z => by omega)
        refine s_goCall C0 hKO y1 hN r0 h6 fun hM => ?_
        refine va_runS (n := mNa y) (As := (s_args (mNa y) S).map (s_tr G)) (Ts := s_gt) (index := i) ⟨hx, hb, hml, hown, hts⟩ hM ⟨s_cw C0 y1 y3, ?_⟩ ⟨s_blind _ _, s_pre C0 r2 r3 r4⟩ rfl (s_args_len h4) r1.1 (s_args_map h4) (s_mon h6.1) hdec ⟨by have := h6.2.1; omega, by have := h6.2.2.1; omega⟩
        have := k_kind y y1
        rw [if_pos hst] at this
        exact hts _ (s_gt_of this rfl)
      · exact hEO y i pc0 _ L S h k ls H locs N _ _ hy h1 (Or.inr ⟨rfl, rfl, rfl⟩) h4 hdec hN r0 h6
  case ireturn =>
    exact hRet rfl hw
  case lreturn =>
    exact hRet rfl hw
  case freturn =>
    exact hRet rfl hw
  case areturn =>
    exact hRet rfl hw
  case return_ =>
    exact hRet rfl hw
  all_goals exact (by simp only [wpI] at hw : False).elim
end STP
