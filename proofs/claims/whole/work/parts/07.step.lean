section STP
variable {p : Program} {l : Launch} {e : Env} {R : Room} {s : State} {mm : MethodId} {args : Array Value} {below : List Frame} {meth : Method} {c : Code} {Qm : State → Prop}
variable {G : sG} {X0 : sC} {d m : Nat}
/-- the library's own methods that are called, at the depth d -/
def s_ExtOK (l : Launch) (G : sG) (X0 : sC) (d : Nat) (K : sM) : Prop :=
  ∀ (p : Program) (e : Env) (R : Room) (s : State) (mm : MethodId) (args : Array Value) (below : List Frame) (meth : Method) (c : Code) (Qm : State → Prop) (m y i pc0 : Nat) (ins : Instr) (L S : List Value) (h : sH) (k : sK) (ls : Array Slot) (H : Heap) (locs : List Loc) (N : sN) (as rest : List Value),
    s_CX G X0 d m p R s mm args meth c → mC m < 14 → 1000 ≤ y → pm (mC m) i = some y →
    ((ins = .invokevirtual i ∧ ∃ b, S.drop (mNa y) = .ref b :: rest ∧ as = .ref b :: s_args (mNa y) S) ∨ (ins = .invokestatic i ∧ rest = S.drop (mNa y) ∧ as = s_args (mNa y) S)) → (S.take (mNa y)).length = mNa y → decode (mB m) pc0 = .ok (ins, 3) →
    (∀ pc L S h k ls H locs, N pc L S h k → s_SR G X0 m s L h k ls H locs → W p l e R s mm args below meth c H locs k.1 k.2 Qm (F0 mm pc ls (S.map (s_tr G)))) →
    s_SR G X0 m s L h k ls H locs → s_call K m pc0 L h k N y as rest → W p l e R s mm args below meth c H locs k.1 k.2 Qm (F0 mm pc0 ls (S.map (s_tr G)))
def s_isRet : Instr → Bool
  | .ireturn => true | .lreturn => true | .freturn => true | .areturn => true | .return_ => true
  | _ => false
theorem s_branch {T E : Prop} {P : Prop} {o : ClassFile.Cond} {x y : Int32} (h : s_cmp o x y T E) (k : ∀ q : Prop, (q → T) → (¬ q → E) → (match o with | .eq => q ↔ x = y | .ne => q ↔ ¬ x = y | .lt => q ↔ x < y | .ge => q ↔ y ≤ x | .gt => q ↔ y < x | .le => q ↔ x ≤ y) → P) : P := by
  cases o <;> simp only [s_cmp] at h
  · exact k (x = y) (fun q => by rw [if_pos q] at h; exact h) (fun q => by rw [if_neg q] at h; exact h) Iff.rfl
  all_goals first
    | exact k (¬ x = y) (fun q => by rw [if_neg q] at h; exact h) (fun q => by rw [if_pos (Classical.not_not.mp q)] at h; exact h) Iff.rfl
    | exact k (x < y) (fun q => by rw [if_pos q] at h; exact h) (fun q => by rw [if_neg q] at h; exact h) Iff.rfl
    | exact k (y ≤ x) (fun q => by rw [if_pos q] at h; exact h) (fun q => by rw [if_neg q] at h; exact h) Iff.rfl
    | exact k (y < x) (fun q => by rw [if_pos q] at h; exact h) (fun q => by rw [if_neg q] at h; exact h) Iff.rfl
    | exact k (x ≤ y) (fun q => by rw [if_pos q] at h; exact h) (fun q => by rw [if_neg q] at h; exact h) Iff.rfl
set_option maxHeartbeats 8000000 in
theorem s_step {K : sM} {N : sN} {Q : sQ} {i : Instr} {len pc0 : Nat} {L S : List Value} {h : sH} {k : sK} {ls : Array Slot} {H : Heap} {locs : List Loc}
    (C0 : s_CX G X0 d m p R s mm args meth c) (hm14 : mC m < 14) (hKO : s_KOK l G X0 d K) (hEO : s_ExtOK l G X0 d K)
    (hN : ∀ pc L S h k ls H locs, N pc L S h k → s_SR G X0 m s L h k ls H locs → W p l e R s mm args below meth c H locs k.1 k.2 Qm (F0 mm pc ls (S.map (s_tr G))))
    (hRet : s_isRet i = true → wpI K m i len pc0 L S h k N Q → W p l e R s mm args below meth c H locs k.1 k.2 Qm (F0 mm pc0 ls (S.map (s_tr G))))
    (hdec : decode (mB m) pc0 = .ok (i, len)) (hlen : s_len i = 0 ∨ s_len i = len) (hw : wpI K m i len pc0 L S h k N Q) (r : s_SR G X0 m s L h k ls H locs) : W p l e R s mm args below meth c H locs k.1 k.2 Qm (F0 mm pc0 ls (S.map (s_tr G))) := by
  have C1 := C0
  obtain ⟨hx, hb, hr, hml, hown, hts, hlocks, hini, hK, hStr, hX, hA, hR1, hR2, hR3, hR4⟩ := C1
  have r0 := r
  obtain ⟨r1, r2, r3, r4, r5, r6⟩ := r
  cases i
  case iconst n =>
    obtain rfl : len = 1 := by rcases hlen with h1 | h1 <;> simp [s_len] at h1 <;> exact h1.symm
    simp only [wpI] at hw
    exact lv_iconst hx hb hdec rfl (hN _ _ _ _ _ ls H locs hw r0)
  case bipush n =>
    obtain rfl : len = 2 := by rcases hlen with h1 | h1 <;> simp [s_len] at h1 <;> exact h1.symm
    simp only [wpI] at hw
    exact lv_bipush hx hb hdec rfl (hN _ _ _ _ _ ls H locs hw r0)
  case sipush n =>
    obtain rfl : len = 3 := by rcases hlen with h1 | h1 <;> simp [s_len] at h1 <;> exact h1.symm
    simp only [wpI] at hw
    exact lv_sipush hx hb hdec rfl (hN _ _ _ _ _ ls H locs hw r0)
  case lconst n =>
    obtain rfl : len = 1 := by rcases hlen with h1 | h1 <;> simp [s_len] at h1 <;> exact h1.symm
    simp only [wpI] at hw
    exact lv_lconst hx hb hdec rfl (hN _ _ _ _ _ ls H locs hw r0)
  case fconst n =>
    obtain rfl : len = 1 := by rcases hlen with h1 | h1 <;> simp [s_len] at h1 <;> exact h1.symm
    simp only [wpI] at hw
    match n, hw, hdec with
    | 0, hw, hdec => exact lv_fconst0 hx hb hdec (hN _ _ _ _ _ ls H locs hw r0)
    | 1, hw, hdec => exact lv_fconst1 hx hb hdec (hN _ _ _ _ _ ls H locs hw r0)
    | 2, hw, hdec => exact lv_fconst2 hx hb hdec (hN _ _ _ _ _ ls H locs hw r0)
  case dconst n =>
    obtain rfl : len = 1 := by rcases hlen with h1 | h1 <;> simp [s_len] at h1 <;> exact h1.symm
    simp only [wpI] at hw
    match n, hw, hdec with
    | 0, hw, hdec => exact lv_dconst0 hx hb hdec (hN _ _ _ _ _ ls H locs hw r0)
    | 1, hw, hdec => exact lv_dconst1 hx hb hdec (hN _ _ _ _ _ ls H locs hw r0)
  case ldc i =>
    obtain rfl : len = 2 := by rcases hlen with h1 | h1 <;> simp [s_len] at h1 <;> exact h1.symm
    simp only [wpI] at hw
    obtain ⟨v, h1, h2, h3⟩ := oo_of hw
    have hf := pk_fact h1
    cases v with
    | int v => exact lv_ldc hx hb hown (hts _ hf) hdec (hN _ _ _ _ _ ls H locs h3 r0)
    | float v => exact lv_ldcf hx hb hown (hts _ hf) hdec (hN _ _ _ _ _ ls H locs h3 r0)
    | long v => cases h2
    | double v => cases h2
    | null => exact hf.elim
    | retAddr v => exact hf.elim
    | ref a =>
      have hf : 1000001 ≤ a ∧ a < 1000010 := hf
      obtain ⟨j, rfl⟩ := Nat.exists_eq_add_of_le hf.1
      obtain ⟨tx, hz⟩ := hStr.2 _ _ j h1
      have e1 : s_ad G (1000001 + j) = G.2.2.2.2 j := by unfold s_ad; rw [if_neg (by omega), if_neg (by omega), Nat.add_sub_cancel_left]
      have h4 := hN _ _ _ _ _ ls H locs h3 r0
      rw [List.map_cons, s_tr_r, e1] at h4
      exact va_ldcS hx hb hown hz hdec h4
  case ldc_w i =>
    obtain rfl : len = 3 := by rcases hlen with h1 | h1 <;> simp [s_len] at h1 <;> exact h1.symm
    simp only [wpI] at hw
    obtain ⟨v, h1, ⟨x, rfl⟩, h3⟩ := oo_of hw
    have hf := pk_fact h1
    exact lv_ldcw hx hb hown (hts _ hf) hdec (hN _ _ _ _ _ ls H locs h3 r0)
  case ldc2_w i =>
    obtain rfl : len = 3 := by rcases hlen with h1 | h1 <;> simp [s_len] at h1 <;> exact h1.symm
    simp only [wpI] at hw
    obtain ⟨v, h1, h2, h3⟩ := oo_of hw
    have hf := pk_fact h1
    cases v with
    | long v => exact lv_ldc2 hx hb hown (hts _ hf) hdec (hN _ _ _ _ _ ls H locs h3 r0)
    | double v => exact lv_ldc2d hx hb hown (hts _ hf) hdec (hN _ _ _ _ _ ls H locs h3 r0)
    | int v => cases h2
    | float v => cases h2
    | null => cases h2
    | retAddr v => cases h2
    | ref a => cases h2
  case iload_n i =>
    obtain rfl : len = 1 := by rcases hlen with h1 | h1 <;> simp [s_len] at h1 <;> exact h1.symm
    simp only [wpI] at hw
    obtain ⟨x, h1, h2⟩ := gI_of hw
    exact lv_iload_n hx hb hdec rfl (s_lv_at r1 h1 (fun z => by cases z)) (hN _ _ _ _ _ ls H locs h2 r0)
  case iload i =>
    obtain rfl : len = 2 := by rcases hlen with h1 | h1 <;> simp [s_len] at h1 <;> exact h1.symm
    simp only [wpI] at hw
    obtain ⟨x, h1, h2⟩ := gI_of hw
    exact lv_iload hx hb hdec (s_lv_at r1 h1 (fun z => by cases z)) (hN _ _ _ _ _ ls H locs h2 r0)
  case lload_n i =>
    obtain rfl : len = 1 := by rcases hlen with h1 | h1 <;> simp [s_len] at h1 <;> exact h1.symm
    simp only [wpI] at hw
    obtain ⟨x, h1, h2⟩ := gL_of hw
    exact lv_lload_n hx hb hdec rfl (s_lv_at r1 h1 (fun z => by cases z)) (hN _ _ _ _ _ ls H locs h2 r0)
  case lload i =>
    obtain rfl : len = 2 := by rcases hlen with h1 | h1 <;> simp [s_len] at h1 <;> exact h1.symm
    simp only [wpI] at hw
    obtain ⟨x, h1, h2⟩ := gL_of hw
    exact lv_lload hx hb hdec (s_lv_at r1 h1 (fun z => by cases z)) (hN _ _ _ _ _ ls H locs h2 r0)
  case fload_n i =>
    obtain rfl : len = 1 := by rcases hlen with h1 | h1 <;> simp [s_len] at h1 <;> exact h1.symm
    simp only [wpI] at hw
    obtain ⟨x, h1, h2⟩ := gF_of hw
    exact lv_fload_n hx hb hdec rfl (s_lv_at r1 h1 (fun z => by cases z)) (hN _ _ _ _ _ ls H locs h2 r0)
  case fload i =>
    obtain rfl : len = 2 := by rcases hlen with h1 | h1 <;> simp [s_len] at h1 <;> exact h1.symm
    simp only [wpI] at hw
    obtain ⟨x, h1, h2⟩ := gF_of hw
    exact lv_fload hx hb hdec (s_lv_at r1 h1 (fun z => by cases z)) (hN _ _ _ _ _ ls H locs h2 r0)
  case dload_n i =>
    obtain rfl : len = 1 := by rcases hlen with h1 | h1 <;> simp [s_len] at h1 <;> exact h1.symm
    simp only [wpI] at hw
    obtain ⟨x, h1, h2⟩ := gD_of hw
    exact lv_dload_n hx hb hdec rfl (s_lv_at r1 h1 (fun z => by cases z)) (hN _ _ _ _ _ ls H locs h2 r0)
  case dload i =>
    obtain rfl : len = 2 := by rcases hlen with h1 | h1 <;> simp [s_len] at h1 <;> exact h1.symm
    simp only [wpI] at hw
    obtain ⟨x, h1, h2⟩ := gD_of hw
    exact lv_dload hx hb hdec (s_lv_at r1 h1 (fun z => by cases z)) (hN _ _ _ _ _ ls H locs h2 r0)
  case aload_n i =>
    obtain rfl : len = 1 := by rcases hlen with h1 | h1 <;> simp [s_len] at h1 <;> exact h1.symm
    simp only [wpI] at hw
    obtain ⟨x, h1, h2⟩ := gR_of hw
    exact lv_aload_n hx hb hdec rfl (s_lv_at r1 h1 (fun z => by cases z)) (hN _ _ _ _ _ ls H locs h2 r0)
  case aload i =>
    obtain rfl : len = 2 := by rcases hlen with h1 | h1 <;> simp [s_len] at h1 <;> exact h1.symm
    simp only [wpI] at hw
    obtain ⟨x, h1, h2⟩ := gR_of hw
    exact lv_aload hx hb hdec (s_lv_at r1 h1 (fun z => by cases z)) (hN _ _ _ _ _ ls H locs h2 r0)
  case istore_n i =>
    obtain rfl : len = 1 := by rcases hlen with h1 | h1 <;> simp [s_len] at h1 <;> exact h1.symm
    simp only [wpI] at hw
    obtain ⟨x, T, rfl, h1, h2⟩ := pI_of hw
    exact lv_istore_n hx hb hdec rfl r1 h1 rfl fun ls1 hl => hN _ _ _ _ _ ls1 H locs h2 ⟨s_st1_has rfl hl, r2, r3, r4, r5, r6⟩
  case istore i =>
    obtain rfl : len = 2 := by rcases hlen with h1 | h1 <;> simp [s_len] at h1 <;> exact h1.symm
    simp only [wpI] at hw
    obtain ⟨x, T, rfl, h1, h2⟩ := pI_of hw
    exact lv_istore hx hb hdec r1 h1 rfl fun ls1 hl => hN _ _ _ _ _ ls1 H locs h2 ⟨s_st1_has rfl hl, r2, r3, r4, r5, r6⟩
  case fstore_n i =>
    obtain rfl : len = 1 := by rcases hlen with h1 | h1 <;> simp [s_len] at h1 <;> exact h1.symm
    simp only [wpI] at hw
    obtain ⟨x, T, rfl, h1, h2⟩ := pF_of hw
    exact lv_fstore_n hx hb hdec rfl r1 h1 rfl fun ls1 hl => hN _ _ _ _ _ ls1 H locs h2 ⟨s_st1_has rfl hl, r2, r3, r4, r5, r6⟩
  case fstore i =>
    obtain rfl : len = 2 := by rcases hlen with h1 | h1 <;> simp [s_len] at h1 <;> exact h1.symm
    simp only [wpI] at hw
    obtain ⟨x, T, rfl, h1, h2⟩ := pF_of hw
    exact lv_fstore hx hb hdec r1 h1 rfl fun ls1 hl => hN _ _ _ _ _ ls1 H locs h2 ⟨s_st1_has rfl hl, r2, r3, r4, r5, r6⟩
  case astore_n i =>
    obtain rfl : len = 1 := by rcases hlen with h1 | h1 <;> simp [s_len] at h1 <;> exact h1.symm
    simp only [wpI] at hw
    obtain ⟨x, T, rfl, h1, h2⟩ := pR_of hw
    exact lv_astore_n hx hb hdec rfl r1 h1 rfl fun ls1 hl => hN _ _ _ _ _ ls1 H locs h2 ⟨s_st1_has rfl hl, r2, r3, r4, r5, r6⟩
  case astore i =>
    obtain rfl : len = 2 := by rcases hlen with h1 | h1 <;> simp [s_len] at h1 <;> exact h1.symm
    simp only [wpI] at hw
    obtain ⟨x, T, rfl, h1, h2⟩ := pR_of hw
    exact lv_astore hx hb hdec r1 h1 rfl fun ls1 hl => hN _ _ _ _ _ ls1 H locs h2 ⟨s_st1_has rfl hl, r2, r3, r4, r5, r6⟩
  case dstore_n i =>
    obtain rfl : len = 1 := by rcases hlen with h1 | h1 <;> simp [s_len] at h1 <;> exact h1.symm
    simp only [wpI] at hw
    obtain ⟨x, T, rfl, h1, h2⟩ := pD_of hw
    exact lv_dstore_n hx hb hdec rfl r1 h1 rfl fun ls1 hl => hN _ _ _ _ _ ls1 H locs h2 ⟨s_st2_has rfl hl, r2, r3, r4, r5, r6⟩
  case dstore i =>
    obtain rfl : len = 2 := by rcases hlen with h1 | h1 <;> simp [s_len] at h1 <;> exact h1.symm
    simp only [wpI] at hw
    obtain ⟨x, T, rfl, h1, h2⟩ := pD_of hw
    exact lv_dstore hx hb hdec r1 h1 rfl fun ls1 hl => hN _ _ _ _ _ ls1 H locs h2 ⟨s_st2_has rfl hl, r2, r3, r4, r5, r6⟩
  case iinc i n =>
    simp only [wpI] at hw
    obtain ⟨x, h0, h1, rfl, h2⟩ := gI_of hw
    obtain ⟨q, hq⟩ := List.getElem?_of_mem (s_lv_mem (G := G).mpr ⟨_, h0, (fun z => by cases z), rfl⟩)
    exact lv_iinc hx hb hdec r1 hq rfl h1 rfl fun ls1 hl => hN _ _ _ _ _ ls1 H locs h2 ⟨s_st1_has rfl hl, r2, r3, r4, r5, r6⟩
  case iadd =>
    obtain rfl : len = 1 := by rcases hlen with h1 | h1 <;> simp [s_len] at h1 <;> exact h1.symm
    simp only [wpI] at hw
    obtain ⟨y, T, rfl, h1⟩ := pI_of hw
    obtain ⟨x, T, rfl, h2⟩ := pI_of h1
    exact lv_iadd hx hb hdec (hN _ _ _ _ _ ls H locs h2 r0)
  case isub =>
    obtain rfl : len = 1 := by rcases hlen with h1 | h1 <;> simp [s_len] at h1 <;> exact h1.symm
    simp only [wpI] at hw
    obtain ⟨y, T, rfl, h1⟩ := pI_of hw
    obtain ⟨x, T, rfl, h2⟩ := pI_of h1
    exact lv_isub hx hb hdec (hN _ _ _ _ _ ls H locs h2 r0)
  case imul =>
    obtain rfl : len = 1 := by rcases hlen with h1 | h1 <;> simp [s_len] at h1 <;> exact h1.symm
    simp only [wpI] at hw
    obtain ⟨y, T, rfl, h1⟩ := pI_of hw
    obtain ⟨x, T, rfl, h2⟩ := pI_of h1
    exact lv_imul hx hb hdec (hN _ _ _ _ _ ls H locs h2 r0)
  case iand =>
    obtain rfl : len = 1 := by rcases hlen with h1 | h1 <;> simp [s_len] at h1 <;> exact h1.symm
    simp only [wpI] at hw
    obtain ⟨y, T, rfl, h1⟩ := pI_of hw
    obtain ⟨x, T, rfl, h2⟩ := pI_of h1
    exact lv_iand hx hb hdec (hN _ _ _ _ _ ls H locs h2 r0)
  case ior =>
    obtain rfl : len = 1 := by rcases hlen with h1 | h1 <;> simp [s_len] at h1 <;> exact h1.symm
    simp only [wpI] at hw
    obtain ⟨y, T, rfl, h1⟩ := pI_of hw
    obtain ⟨x, T, rfl, h2⟩ := pI_of h1
    exact lv_ior hx hb hdec (hN _ _ _ _ _ ls H locs h2 r0)
  case ixor =>
    obtain rfl : len = 1 := by rcases hlen with h1 | h1 <;> simp [s_len] at h1 <;> exact h1.symm
    simp only [wpI] at hw
    obtain ⟨y, T, rfl, h1⟩ := pI_of hw
    obtain ⟨x, T, rfl, h2⟩ := pI_of h1
    exact lv_ixor hx hb hdec (hN _ _ _ _ _ ls H locs h2 r0)
  case ishl =>
    obtain rfl : len = 1 := by rcases hlen with h1 | h1 <;> simp [s_len] at h1 <;> exact h1.symm
    simp only [wpI] at hw
    obtain ⟨y, T, rfl, h1⟩ := pI_of hw
    obtain ⟨x, T, rfl, h2⟩ := pI_of h1
    exact lv_ishl hx hb hdec (hN _ _ _ _ _ ls H locs h2 r0)
  case ishr =>
    obtain rfl : len = 1 := by rcases hlen with h1 | h1 <;> simp [s_len] at h1 <;> exact h1.symm
    simp only [wpI] at hw
    obtain ⟨y, T, rfl, h1⟩ := pI_of hw
    obtain ⟨x, T, rfl, h2⟩ := pI_of h1
    exact lv_ishr hx hb hdec (hN _ _ _ _ _ ls H locs h2 r0)
  case iushr =>
    obtain rfl : len = 1 := by rcases hlen with h1 | h1 <;> simp [s_len] at h1 <;> exact h1.symm
    simp only [wpI] at hw
    obtain ⟨y, T, rfl, h1⟩ := pI_of hw
    obtain ⟨x, T, rfl, h2⟩ := pI_of h1
    exact lv_iushr hx hb hdec (hN _ _ _ _ _ ls H locs h2 r0)
  case idiv =>
    obtain rfl : len = 1 := by rcases hlen with h1 | h1 <;> simp [s_len] at h1 <;> exact h1.symm
    simp only [wpI] at hw
    obtain ⟨y, T, rfl, h1⟩ := pI_of hw
    obtain ⟨x, T, rfl, h2, h3⟩ := pI_of h1
    exact lv_idiv hx hb hdec h2 (hN _ _ _ _ _ ls H locs h3 r0)
  case irem =>
    obtain rfl : len = 1 := by rcases hlen with h1 | h1 <;> simp [s_len] at h1 <;> exact h1.symm
    simp only [wpI] at hw
    obtain ⟨y, T, rfl, h1⟩ := pI_of hw
    obtain ⟨x, T, rfl, h2, h3⟩ := pI_of h1
    exact lv_irem hx hb hdec h2 (hN _ _ _ _ _ ls H locs h3 r0)
  case i2l =>
    obtain rfl : len = 1 := by rcases hlen with h1 | h1 <;> simp [s_len] at h1 <;> exact h1.symm
    simp only [wpI] at hw
    obtain ⟨x, T, rfl, h2⟩ := pI_of hw
    exact lv_i2l hx hb hdec (hN _ _ _ _ _ ls H locs h2 r0)
  case i2d =>
    obtain rfl : len = 1 := by rcases hlen with h1 | h1 <;> simp [s_len] at h1 <;> exact h1.symm
    simp only [wpI] at hw
    obtain ⟨x, T, rfl, h2⟩ := pI_of hw
    exact lv_i2d hx hb hdec (hN _ _ _ _ _ ls H locs h2 r0)
  case f2i =>
    obtain rfl : len = 1 := by rcases hlen with h1 | h1 <;> simp [s_len] at h1 <;> exact h1.symm
    simp only [wpI] at hw
    obtain ⟨x, T, rfl, h2⟩ := pF_of hw
    exact lv_f2i hx hb hdec (hN _ _ _ _ _ ls H locs h2 r0)
  case d2l =>
    obtain rfl : len = 1 := by rcases hlen with h1 | h1 <;> simp [s_len] at h1 <;> exact h1.symm
    simp only [wpI] at hw
    obtain ⟨x, T, rfl, h2⟩ := pD_of hw
    exact lv_d2l hx hb hdec (hN _ _ _ _ _ ls H locs h2 r0)
  case lor =>
    obtain rfl : len = 1 := by rcases hlen with h1 | h1 <;> simp [s_len] at h1 <;> exact h1.symm
    simp only [wpI] at hw
    obtain ⟨y, T, rfl, h1⟩ := pL_of hw
    obtain ⟨x, T, rfl, h2⟩ := pL_of h1
    exact lv_lor hx hb hdec (hN _ _ _ _ _ ls H locs h2 r0)
  case lshl =>
    obtain rfl : len = 1 := by rcases hlen with h1 | h1 <;> simp [s_len] at h1 <;> exact h1.symm
    simp only [wpI] at hw
    obtain ⟨y, T, rfl, h1⟩ := pI_of hw
    obtain ⟨x, T, rfl, h2⟩ := pL_of h1
    exact lv_lshl hx hb hdec (hN _ _ _ _ _ ls H locs h2 r0)
  case lcmp =>
    obtain rfl : len = 1 := by rcases hlen with h1 | h1 <;> simp [s_len] at h1 <;> exact h1.symm
    simp only [wpI] at hw
    obtain ⟨y, T, rfl, h1⟩ := pL_of hw
    obtain ⟨x, T, rfl, h2⟩ := pL_of h1
    exact W.lcmp hx hb hdec (hN _ _ _ _ _ ls H locs h2 r0)
  case fadd =>
    obtain rfl : len = 1 := by rcases hlen with h1 | h1 <;> simp [s_len] at h1 <;> exact h1.symm
    simp only [wpI] at hw
    obtain ⟨y, T, rfl, h1⟩ := pF_of hw
    obtain ⟨x, T, rfl, h2, h3⟩ := pF_of h1
    exact lv_fadd hx hb hdec h2 (hN _ _ _ _ _ ls H locs h3 r0)
  case fsub =>
    obtain rfl : len = 1 := by rcases hlen with h1 | h1 <;> simp [s_len] at h1 <;> exact h1.symm
    simp only [wpI] at hw
    obtain ⟨y, T, rfl, h1⟩ := pF_of hw
    obtain ⟨x, T, rfl, h2, h3⟩ := pF_of h1
    exact lv_fsub hx hb hdec h2 (hN _ _ _ _ _ ls H locs h3 r0)
  case fmul =>
    obtain rfl : len = 1 := by rcases hlen with h1 | h1 <;> simp [s_len] at h1 <;> exact h1.symm
    simp only [wpI] at hw
    obtain ⟨y, T, rfl, h1⟩ := pF_of hw
    obtain ⟨x, T, rfl, h2, h3⟩ := pF_of h1
    exact lv_fmul hx hb hdec h2 (hN _ _ _ _ _ ls H locs h3 r0)
  case dmul =>
    obtain rfl : len = 1 := by rcases hlen with h1 | h1 <;> simp [s_len] at h1 <;> exact h1.symm
    simp only [wpI] at hw
    obtain ⟨y, T, rfl, h1⟩ := pD_of hw
    obtain ⟨x, T, rfl, h2, h3⟩ := pD_of h1
    exact lv_dmul hx hb hdec h2 (hN _ _ _ _ _ ls H locs h3 r0)
  case ddiv =>
    obtain rfl : len = 1 := by rcases hlen with h1 | h1 <;> simp [s_len] at h1 <;> exact h1.symm
    simp only [wpI] at hw
    obtain ⟨y, T, rfl, h1⟩ := pD_of hw
    obtain ⟨x, T, rfl, h2, h3⟩ := pD_of h1
    exact lv_ddiv hx hb hdec h2 (hN _ _ _ _ _ ls H locs h3 r0)
  case dsub =>
    obtain rfl : len = 1 := by rcases hlen with h1 | h1 <;> simp [s_len] at h1 <;> exact h1.symm
    simp only [wpI] at hw
    obtain ⟨y, T, rfl, h1⟩ := pD_of hw
    obtain ⟨x, T, rfl, h2, h3⟩ := pD_of h1
    exact lv_dsub hx hb hdec h2 (hN _ _ _ _ _ ls H locs h3 r0)
  case fcmp o =>
    obtain rfl : len = 1 := by rcases hlen with h1 | h1 <;> simp [s_len] at h1 <;> exact h1.symm
    simp only [wpI] at hw
    obtain ⟨y, T, rfl, h1⟩ := pF_of hw
    obtain ⟨x, T, rfl, h2⟩ := pF_of h1
    exact lv_fcmp hx hb hdec (hN _ _ _ _ _ ls H locs h2 r0)
  case dcmp o =>
    obtain rfl : len = 1 := by rcases hlen with h1 | h1 <;> simp [s_len] at h1 <;> exact h1.symm
    simp only [wpI] at hw
    obtain ⟨y, T, rfl, h1⟩ := pD_of hw
    obtain ⟨x, T, rfl, h2⟩ := pD_of h1
    exact lv_dcmp hx hb hdec (hN _ _ _ _ _ ls H locs h2 r0)
  case dup =>
    obtain rfl : len = 1 := by rcases hlen with h1 | h1 <;> simp [s_len] at h1 <;> exact h1.symm
    simp only [wpI] at hw
    obtain ⟨v, T, rfl, h1, h2⟩ := pA_of hw
    exact lv_dup hx hb hdec ((s_tr_cat G v).trans h1) (hN _ _ _ _ _ ls H locs h2 r0)
  case pop =>
    obtain rfl : len = 1 := by rcases hlen with h1 | h1 <;> simp [s_len] at h1 <;> exact h1.symm
    simp only [wpI] at hw
    obtain ⟨v, T, rfl, h1, h2⟩ := pA_of hw
    exact lv_pop hx hb hdec ((s_tr_cat G v).trans h1) (hN _ _ _ _ _ ls H locs h2 r0)
  case dup2 =>
    obtain rfl : len = 1 := by rcases hlen with h1 | h1 <;> simp [s_len] at h1 <;> exact h1.symm
    simp only [wpI] at hw
    obtain ⟨v, T, rfl, h1⟩ := pA_of hw
    obtain ⟨w, T, rfl, h2, h3, h4⟩ := pA_of h1
    exact lv_dup2_11 hx hb hdec ((s_tr_cat G v).trans h2) ((s_tr_cat G w).trans h3) (hN _ _ _ _ _ ls H locs h4 r0)
  case dup_x1 =>
    obtain rfl : len = 1 := by rcases hlen with h1 | h1 <;> simp [s_len] at h1 <;> exact h1.symm
    simp only [wpI] at hw
    obtain ⟨v, T, rfl, h1⟩ := pA_of hw
    obtain ⟨w, T, rfl, h2, h3, h4⟩ := pA_of h1
    exact lv_dup_x1 hx hb hdec ((s_tr_cat G v).trans h2) ((s_tr_cat G w).trans h3) (hN _ _ _ _ _ ls H locs h4 r0)
  case goto off =>
    obtain rfl : len = 3 := by rcases hlen with h1 | h1 <;> simp [s_len] at h1 <;> exact h1.symm
    simp only [wpI] at hw
    exact lv_goto hx hb hdec hw.1 (hN _ _ _ _ _ ls H locs hw.2 r0)
  case ifCond o off =>
    obtain rfl : len = 3 := by rcases hlen with h1 | h1 <;> simp [s_len] at h1 <;> exact h1.symm
    simp only [wpI] at hw
    obtain ⟨x, T, rfl, h1, h2⟩ := pI_of hw
    refine s_branch h2 fun q ht he hq => ?_
    cases o with
    | eq => exact lv_if_eq hx hb hdec h1 (fun z => hN _ _ _ _ _ ls H locs (ht (hq.mpr z)) r0) (fun z => hN _ _ _ _ _ ls H locs (he (fun y => z (hq.mp y))) r0)
    | ne => exact lv_if_ne hx hb hdec h1 (fun z => hN _ _ _ _ _ ls H locs (ht (hq.mpr z)) r0) (fun z => hN _ _ _ _ _ ls H locs (he (fun y => (hq.mp y) z)) r0)
    | lt => exact lv_if_lt hx hb hdec h1 (fun z => hN _ _ _ _ _ ls H locs (ht (hq.mpr z)) r0) (fun z => hN _ _ _ _ _ ls H locs (he (fun y => z (hq.mp y))) r0)
    | ge => exact lv_if_ge hx hb hdec h1 (fun z => hN _ _ _ _ _ ls H locs (ht (hq.mpr z)) r0) (fun z => hN _ _ _ _ _ ls H locs (he (fun y => z (hq.mp y))) r0)
    | gt => exact lv_if_gt hx hb hdec h1 (fun z => hN _ _ _ _ _ ls H locs (ht (hq.mpr z)) r0) (fun z => hN _ _ _ _ _ ls H locs (he (fun y => z (hq.mp y))) r0)
    | le => exact lv_if_le hx hb hdec h1 (fun z => hN _ _ _ _ _ ls H locs (ht (hq.mpr z)) r0) (fun z => hN _ _ _ _ _ ls H locs (he (fun y => z (hq.mp y))) r0)
  case if_icmp o off =>
    obtain rfl : len = 3 := by rcases hlen with h1 | h1 <;> simp [s_len] at h1 <;> exact h1.symm
    simp only [wpI] at hw
    obtain ⟨y, T, rfl, h0⟩ := pI_of hw
    obtain ⟨x, T, rfl, h1, h2⟩ := pI_of h0
    refine s_branch h2 fun q ht he hq => ?_
    cases o with
    | eq => exact lv_icmp_eq hx hb hdec h1 (fun z => hN _ _ _ _ _ ls H locs (ht (hq.mpr z)) r0) (fun z => hN _ _ _ _ _ ls H locs (he (fun y => z (hq.mp y))) r0)
    | ne => exact lv_icmp_ne hx hb hdec h1 (fun z => hN _ _ _ _ _ ls H locs (ht (hq.mpr z)) r0) (fun z => hN _ _ _ _ _ ls H locs (he (fun y => (hq.mp y) z)) r0)
    | lt => exact lv_icmp_lt hx hb hdec h1 (fun z => hN _ _ _ _ _ ls H locs (ht (hq.mpr z)) r0) (fun z => hN _ _ _ _ _ ls H locs (he (fun y => z (hq.mp y))) r0)
    | ge => exact lv_icmp_ge hx hb hdec h1 (fun z => hN _ _ _ _ _ ls H locs (ht (hq.mpr z)) r0) (fun z => hN _ _ _ _ _ ls H locs (he (fun y => z (hq.mp y))) r0)
    | gt => exact lv_icmp_gt hx hb hdec h1 (fun z => hN _ _ _ _ _ ls H locs (ht (hq.mpr z)) r0) (fun z => hN _ _ _ _ _ ls H locs (he (fun y => z (hq.mp y))) r0)
    | le => exact lv_icmp_le hx hb hdec h1 (fun z => hN _ _ _ _ _ ls H locs (ht (hq.mpr z)) r0) (fun z => hN _ _ _ _ _ ls H locs (he (fun y => z (hq.mp y))) r0)
  case tableswitch dd lo hi offs =>
    simp only [wpI] at hw
    obtain ⟨x, T, rfl, h0⟩ := pI_of hw
    split at h0
    · next hc => exact lv_tableOut hx hb hdec hc h0.1 (hN _ _ _ _ _ ls H locs h0.2 r0)
    · next hc =>
      obtain ⟨off, h1, h2, h3⟩ := oo_of h0
      exact lv_tableIn hx hb hdec (fun z => hc (Or.inl z)) (fun z => hc (Or.inr z)) h1 h2 (hN _ _ _ _ _ ls H locs h3 r0)
  case getfield i =>
    obtain rfl : len = 3 := by rcases hlen with h1 | h1 <;> simp [s_len] at h1 <;> exact h1.symm
    simp only [wpI] at hw
    obtain ⟨a, T, rfl, h1⟩ := pR_of hw
    obtain ⟨⟨ci, kf⟩, h2, h1⟩ := oo_of h1
    obtain ⟨c0, fs, h3, rfl, h4⟩ := oO_of h1
    obtain ⟨v, h5, h6⟩ := oo_of h4
    dsimp only at h3 h5
    have hxa : a ≠ 1000000 := by
      intro z
      subst z
      rw [h3] at r3
      rcases hX with g | ⟨n, f, g, -⟩
      · rw [g] at r3; cases r3; exact absurd (pf_fact h2).1 (by omega)
      · rw [g] at r3; cases r3
    obtain ⟨f1, f2, f3, f4⟩ := pf_fact h2
    obtain ⟨g1, g2, g3⟩ := s_obj_at r2 f1 h3 hxa
    obtain ⟨o1, o2, o3, o4⟩ := s_owns _ f1
    have h7 := hN _ _ _ _ _ ls H locs h6 r0
    rw [List.map_cons] at h7 ⊢
    rw [s_tr_r, g2]
    exact va_get (T := cT ci) (N := cN ci) (ci := ci) (fs := fs.map (s_tr G)) hx hb hts o1 hown hK.1 r2.1 a g3 o4 kf f2 (hts _ f4) (fun x hx => by rw [f3] at hx; exact hx) (by rw [List.getElem?_map, h5]; rfl) hdec h7
  case putfield i =>
    obtain rfl : len = 3 := by rcases hlen with h1 | h1 <;> simp [s_len] at h1 <;> exact h1.symm
    simp only [wpI] at hw
    obtain ⟨v, T, rfl, h1⟩ := pA_of hw
    obtain ⟨a, T, rfl, h1⟩ := pR_of h1
    obtain ⟨⟨ci, kf⟩, h2, h1⟩ := oo_of h1
    obtain ⟨c0, fs, h3, rfl, h4, h5, h6, h7, h8⟩ := oO_of h1
    dsimp only at h3 h4 h5 h6 h7 h8
    have hxa : a ≠ 1000000 := by
      intro z
      subst z
      rw [h3] at r3
      rcases hX with g | ⟨n, f, g, -⟩
      · rw [g] at r3; cases r3; exact absurd (pf_fact h2).1 (by omega)
      · rw [g] at r3; cases r3
    obtain ⟨f1, f2, f3, f4⟩ := pf_fact h2
    obtain ⟨g1, g2, g3⟩ := s_obj_at r2 f1 h3 hxa
    obtain ⟨o1, o2, o3, o4⟩ := s_owns _ f1
    rw [List.map_cons, List.map_cons, s_tr_r, g2]
    have hD := s_ws_D G h
    have fin : ∀ (H1 : Heap) (locs1 : List Loc), va_P G.1 vwCl ((s_ws G h).set a (G.2.2.1 + a, .inr (ci, (fs.map (s_tr G)).set kf (s_tr G v)))) H1 → H1.size = H.size → va_S (s_A G) s.heap H1 locs1 → W p l e R s mm args below meth c H1 locs1 k.1 k.2 Qm (F0 mm (pc0 + 3) ls (T.map (s_tr G))) := by
      intro H1 locs1 q1 q2 q3
      rw [← List.map_set] at q1
      exact hN _ _ _ _ _ ls H1 locs1 h8 ⟨r1, r2.put (c := .inr (ci, fs.set kf v)) g1 q1 q2, by rw [hg_hs, if_neg (fun z => hxa z.symm)]; exact r3, q3, r5, r6⟩
    sorry
  case arraylength =>
    obtain rfl : len = 1 := by rcases hlen with h1 | h1 <;> simp [s_len] at h1 <;> exact h1.symm
    simp only [wpI] at hw
    obtain ⟨a, T, rfl, h1⟩ := pR_of hw
    obtain ⟨t, n, g, h2, h3, h4⟩ := oA_of h1
    sorry
  case iaload =>
    sorry
  case baload =>
    sorry
  case faload =>
    sorry
  case laload =>
    sorry
  case aaload =>
    sorry
  case iastore =>
    sorry
  case bastore =>
    sorry
  case fastore =>
    sorry
  case aastore =>
    sorry
  case new i =>
    sorry
  case newarray t =>
    sorry
  case anewarray i =>
    sorry
  case invokevirtual i =>
    sorry
  case invokespecial i =>
    sorry
  case invokestatic i =>
    sorry
  case ireturn =>
    exact hRet rfl hw
  case lreturn =>
    exact hRet rfl hw
  case freturn =>
    exact hRet rfl hw
  case areturn =>
    exact hRet rfl hw
  case return_ =>
    exact hRet rfl hw
  all_goals exact (by simp only [wpI] at hw : False).elim
end STP
