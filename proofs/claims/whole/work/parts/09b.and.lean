def s_KAnd (K : sM) : Prop := ∀ y as h (Q Q2 : sQ), K y as h Q → K y as h Q2 → K y as h (fun v h => Q v h ∧ Q2 v h)
theorem s_cmp_and {o : ClassFile.Cond} {x y : Int32} {A B A2 B2 : Prop} (h : s_cmp o x y A B) (h2 : s_cmp o x y A2 B2) : s_cmp o x y (A ∧ A2) (B ∧ B2) := by
  cases o <;> simp only [s_cmp] at h h2 ⊢ <;> split at h <;> first
    | (rw [if_pos (by assumption)] at h2 ⊢; exact ⟨h, h2⟩)
    | (rw [if_neg (by assumption)] at h2 ⊢; exact ⟨h, h2⟩)
theorem s_call_and {K : sM} (hK : s_KAnd K) {m pc : Nat} {L : List Value} {h : sH} {k : sK} {N N2 : sN} {y : Nat} {as rest : List Value} (hw : s_call K m pc L h k N y as rest) (hw2 : s_call K m pc L h k N2 y as rest) : s_call K m pc L h k (fun pc L S h k => N pc L S h k ∧ N2 pc L S h k) y as rest := by
  obtain ⟨h1, h2, h3, h4⟩ := hw
  exact ⟨h1, h2, h3, hK _ _ _ _ _ h4 hw2.2.2.2⟩
set_option maxHeartbeats 8000000 in
theorem wpI_and {K : sM} (hK : s_KAnd K) {m : Nat} {i : Instr} {len pc0 : Nat} {L S : List Value} {h : sH} {k : sK} {N N2 : sN} {Q Q2 : sQ} (hw : wpI K m i len pc0 L S h k N Q) (hw2 : wpI K m i len pc0 L S h k N2 Q2) :
    wpI K m i len pc0 L S h k (fun pc L S h k => N pc L S h k ∧ N2 pc L S h k) (fun v h => Q v h ∧ Q2 v h) := by
  cases i
  case iconst n =>
    simp only [wpI] at hw hw2 ⊢
    exact ⟨hw, hw2⟩
  case bipush n =>
    simp only [wpI] at hw hw2 ⊢
    exact ⟨hw, hw2⟩
  case sipush n =>
    simp only [wpI] at hw hw2 ⊢
    exact ⟨hw, hw2⟩
  case lconst n =>
    simp only [wpI] at hw hw2 ⊢
    exact ⟨hw, hw2⟩
  case fconst n =>
    simp only [wpI] at hw hw2 ⊢
    exact ⟨hw, hw2⟩
  case dconst n =>
    simp only [wpI] at hw hw2 ⊢
    exact ⟨hw, hw2⟩
  case ldc i =>
    simp only [wpI] at hw hw2 ⊢
    obtain ⟨v, h1, h2, h3⟩ := oo_of hw
    rw [h1] at hw2 ⊢
    exact ⟨h2, h3, hw2.2⟩
  case ldc_w i =>
    simp only [wpI] at hw hw2 ⊢
    obtain ⟨v, h1, h2, h3⟩ := oo_of hw
    rw [h1] at hw2 ⊢
    exact ⟨h2, h3, hw2.2⟩
  case ldc2_w i =>
    simp only [wpI] at hw hw2 ⊢
    obtain ⟨v, h1, h2, h3⟩ := oo_of hw
    rw [h1] at hw2 ⊢
    exact ⟨h2, h3, hw2.2⟩
  case iload_n i =>
    simp only [wpI] at hw hw2 ⊢
    obtain ⟨x, h1, h2⟩ := gI_of hw
    unfold gI at hw2 ⊢
    rw [h1] at hw2 ⊢
    exact ⟨h2, hw2⟩
  case iload i =>
    simp only [wpI] at hw hw2 ⊢
    obtain ⟨x, h1, h2⟩ := gI_of hw
    unfold gI at hw2 ⊢
    rw [h1] at hw2 ⊢
    exact ⟨h2, hw2⟩
  case lload_n i =>
    simp only [wpI] at hw hw2 ⊢
    obtain ⟨x, h1, h2⟩ := gL_of hw
    unfold gL at hw2 ⊢
    rw [h1] at hw2 ⊢
    exact ⟨h2, hw2⟩
  case lload i =>
    simp only [wpI] at hw hw2 ⊢
    obtain ⟨x, h1, h2⟩ := gL_of hw
    unfold gL at hw2 ⊢
    rw [h1] at hw2 ⊢
    exact ⟨h2, hw2⟩
  case fload_n i =>
    simp only [wpI] at hw hw2 ⊢
    obtain ⟨x, h1, h2⟩ := gF_of hw
    unfold gF at hw2 ⊢
    rw [h1] at hw2 ⊢
    exact ⟨h2, hw2⟩
  case fload i =>
    simp only [wpI] at hw hw2 ⊢
    obtain ⟨x, h1, h2⟩ := gF_of hw
    unfold gF at hw2 ⊢
    rw [h1] at hw2 ⊢
    exact ⟨h2, hw2⟩
  case dload_n i =>
    simp only [wpI] at hw hw2 ⊢
    obtain ⟨x, h1, h2⟩ := gD_of hw
    unfold gD at hw2 ⊢
    rw [h1] at hw2 ⊢
    exact ⟨h2, hw2⟩
  case dload i =>
    simp only [wpI] at hw hw2 ⊢
    obtain ⟨x, h1, h2⟩ := gD_of hw
    unfold gD at hw2 ⊢
    rw [h1] at hw2 ⊢
    exact ⟨h2, hw2⟩
  case aload_n i =>
    simp only [wpI] at hw hw2 ⊢
    obtain ⟨x, h1, h2⟩ := gR_of hw
    unfold gR at hw2 ⊢
    rw [h1] at hw2 ⊢
    exact ⟨h2, hw2⟩
  case aload i =>
    simp only [wpI] at hw hw2 ⊢
    obtain ⟨x, h1, h2⟩ := gR_of hw
    unfold gR at hw2 ⊢
    rw [h1] at hw2 ⊢
    exact ⟨h2, hw2⟩
  case istore_n i =>
    simp only [wpI] at hw hw2 ⊢
    obtain ⟨x, T, rfl, h1, h2⟩ := pI_of hw
    exact ⟨h1, h2, hw2.2⟩
  case istore i =>
    simp only [wpI] at hw hw2 ⊢
    obtain ⟨x, T, rfl, h1, h2⟩ := pI_of hw
    exact ⟨h1, h2, hw2.2⟩
  case fstore_n i =>
    simp only [wpI] at hw hw2 ⊢
    obtain ⟨x, T, rfl, h1, h2⟩ := pF_of hw
    exact ⟨h1, h2, hw2.2⟩
  case fstore i =>
    simp only [wpI] at hw hw2 ⊢
    obtain ⟨x, T, rfl, h1, h2⟩ := pF_of hw
    exact ⟨h1, h2, hw2.2⟩
  case astore_n i =>
    simp only [wpI] at hw hw2 ⊢
    obtain ⟨x, T, rfl, h1, h2⟩ := pR_of hw
    exact ⟨h1, h2, hw2.2⟩
  case astore i =>
    simp only [wpI] at hw hw2 ⊢
    obtain ⟨x, T, rfl, h1, h2⟩ := pR_of hw
    exact ⟨h1, h2, hw2.2⟩
  case dstore_n i =>
    simp only [wpI] at hw hw2 ⊢
    obtain ⟨x, T, rfl, h1, h2⟩ := pD_of hw
    exact ⟨h1, h2, hw2.2⟩
  case dstore i =>
    simp only [wpI] at hw hw2 ⊢
    obtain ⟨x, T, rfl, h1, h2⟩ := pD_of hw
    exact ⟨h1, h2, hw2.2⟩
  case iinc i n =>
    simp only [wpI] at hw hw2 ⊢
    obtain ⟨x, h0, h1, h3, h2⟩ := gI_of hw
    unfold gI at hw2 ⊢
    rw [h0] at hw2 ⊢
    exact ⟨h1, h3, h2, hw2.2.2⟩
  case iadd =>
    simp only [wpI] at hw hw2 ⊢
    obtain ⟨y, T, rfl, h1⟩ := pI_of hw
    obtain ⟨x, T, rfl, h2⟩ := pI_of h1
    exact ⟨h2, hw2⟩
  case isub =>
    simp only [wpI] at hw hw2 ⊢
    obtain ⟨y, T, rfl, h1⟩ := pI_of hw
    obtain ⟨x, T, rfl, h2⟩ := pI_of h1
    exact ⟨h2, hw2⟩
  case imul =>
    simp only [wpI] at hw hw2 ⊢
    obtain ⟨y, T, rfl, h1⟩ := pI_of hw
    obtain ⟨x, T, rfl, h2⟩ := pI_of h1
    exact ⟨h2, hw2⟩
  case iand =>
    simp only [wpI] at hw hw2 ⊢
    obtain ⟨y, T, rfl, h1⟩ := pI_of hw
    obtain ⟨x, T, rfl, h2⟩ := pI_of h1
    exact ⟨h2, hw2⟩
  case ior =>
    simp only [wpI] at hw hw2 ⊢
    obtain ⟨y, T, rfl, h1⟩ := pI_of hw
    obtain ⟨x, T, rfl, h2⟩ := pI_of h1
    exact ⟨h2, hw2⟩
  case ixor =>
    simp only [wpI] at hw hw2 ⊢
    obtain ⟨y, T, rfl, h1⟩ := pI_of hw
    obtain ⟨x, T, rfl, h2⟩ := pI_of h1
    exact ⟨h2, hw2⟩
  case ishl =>
    simp only [wpI] at hw hw2 ⊢
    obtain ⟨y, T, rfl, h1⟩ := pI_of hw
    obtain ⟨x, T, rfl, h2⟩ := pI_of h1
    exact ⟨h2, hw2⟩
  case ishr =>
    simp only [wpI] at hw hw2 ⊢
    obtain ⟨y, T, rfl, h1⟩ := pI_of hw
    obtain ⟨x, T, rfl, h2⟩ := pI_of h1
    exact ⟨h2, hw2⟩
  case iushr =>
    simp only [wpI] at hw hw2 ⊢
    obtain ⟨y, T, rfl, h1⟩ := pI_of hw
    obtain ⟨x, T, rfl, h2⟩ := pI_of h1
    exact ⟨h2, hw2⟩
  case idiv =>
    simp only [wpI] at hw hw2 ⊢
    obtain ⟨y, T, rfl, h1⟩ := pI_of hw
    obtain ⟨x, T, rfl, h2, h3⟩ := pI_of h1
    exact ⟨h2, h3, hw2.2⟩
  case irem =>
    simp only [wpI] at hw hw2 ⊢
    obtain ⟨y, T, rfl, h1⟩ := pI_of hw
    obtain ⟨x, T, rfl, h2, h3⟩ := pI_of h1
    exact ⟨h2, h3, hw2.2⟩
  case i2l =>
    simp only [wpI] at hw hw2 ⊢
    obtain ⟨x, T, rfl, h2⟩ := pI_of hw
    exact ⟨h2, hw2⟩
  case i2d =>
    simp only [wpI] at hw hw2 ⊢
    obtain ⟨x, T, rfl, h2⟩ := pI_of hw
    exact ⟨h2, hw2⟩
  case f2i =>
    simp only [wpI] at hw hw2 ⊢
    obtain ⟨x, T, rfl, h2⟩ := pF_of hw
    exact ⟨h2, hw2⟩
  case d2l =>
    simp only [wpI] at hw hw2 ⊢
    obtain ⟨x, T, rfl, h2⟩ := pD_of hw
    exact ⟨h2, hw2⟩
  case lor =>
    simp only [wpI] at hw hw2 ⊢
    obtain ⟨y, T, rfl, h1⟩ := pL_of hw
    obtain ⟨x, T, rfl, h2⟩ := pL_of h1
    exact ⟨h2, hw2⟩
  case lshl =>
    simp only [wpI] at hw hw2 ⊢
    obtain ⟨y, T, rfl, h1⟩ := pI_of hw
    obtain ⟨x, T, rfl, h2⟩ := pL_of h1
    exact ⟨h2, hw2⟩
  case lcmp =>
    simp only [wpI] at hw hw2 ⊢
    obtain ⟨y, T, rfl, h1⟩ := pL_of hw
    obtain ⟨x, T, rfl, h2⟩ := pL_of h1
    exact ⟨h2, hw2⟩
  case fadd =>
    simp only [wpI] at hw hw2 ⊢
    obtain ⟨y, T, rfl, h1⟩ := pF_of hw
    obtain ⟨x, T, rfl, h2, h3⟩ := pF_of h1
    exact ⟨h2, h3, hw2.2⟩
  case fsub =>
    simp only [wpI] at hw hw2 ⊢
    obtain ⟨y, T, rfl, h1⟩ := pF_of hw
    obtain ⟨x, T, rfl, h2, h3⟩ := pF_of h1
    exact ⟨h2, h3, hw2.2⟩
  case fmul =>
    simp only [wpI] at hw hw2 ⊢
    obtain ⟨y, T, rfl, h1⟩ := pF_of hw
    obtain ⟨x, T, rfl, h2, h3⟩ := pF_of h1
    exact ⟨h2, h3, hw2.2⟩
  case dmul =>
    simp only [wpI] at hw hw2 ⊢
    obtain ⟨y, T, rfl, h1⟩ := pD_of hw
    obtain ⟨x, T, rfl, h2, h3⟩ := pD_of h1
    exact ⟨h2, h3, hw2.2⟩
  case ddiv =>
    simp only [wpI] at hw hw2 ⊢
    obtain ⟨y, T, rfl, h1⟩ := pD_of hw
    obtain ⟨x, T, rfl, h2, h3⟩ := pD_of h1
    exact ⟨h2, h3, hw2.2⟩
  case dsub =>
    simp only [wpI] at hw hw2 ⊢
    obtain ⟨y, T, rfl, h1⟩ := pD_of hw
    obtain ⟨x, T, rfl, h2, h3⟩ := pD_of h1
    exact ⟨h2, h3, hw2.2⟩
  case fcmp o =>
    simp only [wpI] at hw hw2 ⊢
    obtain ⟨y, T, rfl, h1⟩ := pF_of hw
    obtain ⟨x, T, rfl, h2⟩ := pF_of h1
    exact ⟨h2, hw2⟩
  case dcmp o =>
    simp only [wpI] at hw hw2 ⊢
    obtain ⟨y, T, rfl, h1⟩ := pD_of hw
    obtain ⟨x, T, rfl, h2⟩ := pD_of h1
    exact ⟨h2, hw2⟩
  case dup =>
    simp only [wpI] at hw hw2 ⊢
    obtain ⟨v, T, rfl, h1, h2⟩ := pA_of hw
    exact ⟨h1, h2, hw2.2⟩
  case pop =>
    simp only [wpI] at hw hw2 ⊢
    obtain ⟨v, T, rfl, h1, h2⟩ := pA_of hw
    exact ⟨h1, h2, hw2.2⟩
  case dup2 =>
    simp only [wpI] at hw hw2 ⊢
    obtain ⟨v, T, rfl, h1⟩ := pA_of hw
    obtain ⟨w, T, rfl, h2, h3, h4⟩ := pA_of h1
    exact ⟨h2, h3, h4, hw2.2.2⟩
  case dup_x1 =>
    simp only [wpI] at hw hw2 ⊢
    obtain ⟨v, T, rfl, h1⟩ := pA_of hw
    obtain ⟨w, T, rfl, h2, h3, h4⟩ := pA_of h1
    exact ⟨h2, h3, h4, hw2.2.2⟩
  case goto off =>
    simp only [wpI] at hw hw2 ⊢
    exact ⟨hw.1, hw.2, hw2.2⟩
  case ifCond o off =>
    simp only [wpI] at hw hw2 ⊢
    obtain ⟨x, T, rfl, h1, h2⟩ := pI_of hw
    exact ⟨h1, s_cmp_and h2 hw2.2⟩
  case if_icmp o off =>
    simp only [wpI] at hw hw2 ⊢
    obtain ⟨y, T, rfl, h0⟩ := pI_of hw
    obtain ⟨x, T, rfl, h1, h2⟩ := pI_of h0
    exact ⟨h1, s_cmp_and h2 hw2.2⟩
  case tableswitch dd lo hi offs =>
    simp only [wpI] at hw hw2 ⊢
    obtain ⟨x, T, rfl, h0⟩ := pI_of hw
    by_cases hc : x.toInt < lo ∨ hi < x.toInt
    · rw [if_pos hc] at h0
      show (if _ then _ else _)
      have hw2 : (if _ then _ else _ : Prop) := hw2
      rw [if_pos hc] at hw2 ⊢
      exact ⟨h0.1, h0.2, hw2.2⟩
    · rw [if_neg hc] at h0
      obtain ⟨off, h1, h2, h3⟩ := oo_of h0
      show (if _ then _ else _)
      have hw2 : (if _ then _ else _ : Prop) := hw2
      rw [if_neg hc, h1] at hw2 ⊢
      exact ⟨h2, h3, hw2.2⟩
  case getfield i =>
    simp only [wpI] at hw hw2 ⊢
    obtain ⟨a, T, rfl, h1⟩ := pR_of hw
    obtain ⟨f, h2, h1⟩ := oo_of h1
    obtain ⟨c0, fs, h3, h9, h4⟩ := oO_of h1
    obtain ⟨v, h5, h6⟩ := oo_of h4
    have hw2 : oo _ _ := hw2
    rw [h2] at hw2
    have hw2 : oO _ _ _ := hw2
    unfold oO at hw2
    rw [h3] at hw2
    have hw2 := hw2.2
    rw [h5] at hw2
    show oo _ _
    rw [h2]
    show oO _ _ _
    unfold oO
    rw [h3]
    refine ⟨h9, ?_⟩
    rw [h5]
    exact ⟨h6, hw2⟩
  case putfield i =>
    simp only [wpI] at hw hw2 ⊢
    obtain ⟨v, T, rfl, h1⟩ := pA_of hw
    obtain ⟨a, T, rfl, h1⟩ := pR_of h1
    obtain ⟨f, h2, h1⟩ := oo_of h1
    obtain ⟨c0, fs, h3, h9, h4, h5, h6, h7, h8⟩ := oO_of h1
    have hw2 : oo _ _ := hw2
    rw [h2] at hw2
    have hw2 : oO _ _ _ := hw2
    unfold oO at hw2
    rw [h3] at hw2
    show oo _ _
    rw [h2]
    show oO _ _ _
    unfold oO
    rw [h3]
    exact ⟨h9, h4, h5, h6, h7, h8, hw2.2.2.2.2.2⟩
  case arraylength =>
    simp only [wpI] at hw hw2 ⊢
    obtain ⟨a, T, rfl, h1⟩ := pR_of hw
    obtain ⟨t, n, g, h2, h3, h4⟩ := oA_of h1
    have hw2 : oA _ _ _ := hw2
    unfold oA at hw2
    rw [h2] at hw2
    show oA _ _ _
    unfold oA
    rw [h2]
    exact ⟨h3, h4, hw2.2⟩
  case iaload =>
    simp only [wpI] at hw hw2 ⊢
    obtain ⟨i, T, rfl, h1⟩ := pI_of hw
    obtain ⟨a, T, rfl, h1⟩ := pR_of h1
    obtain ⟨t, n, g, h2, h3, h4, h5⟩ := oI_of h1
    have hw2 : oI _ _ _ := hw2
    unfold oI at hw2
    rw [h2] at hw2
    show oI _ _ _
    unfold oI
    rw [h2]
    exact ⟨h3, h4, h5, hw2.2.2⟩
  case baload =>
    simp only [wpI] at hw hw2 ⊢
    obtain ⟨i, T, rfl, h1⟩ := pI_of hw
    obtain ⟨a, T, rfl, h1⟩ := pR_of h1
    obtain ⟨t, n, g, h2, h3, h4, h5⟩ := oI_of h1
    have hw2 : oI _ _ _ := hw2
    unfold oI at hw2
    rw [h2] at hw2
    show oI _ _ _
    unfold oI
    rw [h2]
    exact ⟨h3, h4, h5, hw2.2.2⟩
  case faload =>
    simp only [wpI] at hw hw2 ⊢
    obtain ⟨i, T, rfl, h1⟩ := pI_of hw
    obtain ⟨a, T, rfl, h1⟩ := pR_of h1
    obtain ⟨t, n, g, h2, h3, h4, h5⟩ := oF_of h1
    have hw2 : oF _ _ _ := hw2
    unfold oF at hw2
    rw [h2] at hw2
    show oF _ _ _
    unfold oF
    rw [h2]
    exact ⟨h3, h4, h5, hw2.2.2⟩
  case laload =>
    simp only [wpI] at hw hw2 ⊢
    obtain ⟨i, T, rfl, h1⟩ := pI_of hw
    obtain ⟨a, T, rfl, h1⟩ := pR_of h1
    obtain ⟨t, n, g, h2, h3, h4, h5⟩ := oL_of h1
    have hw2 : oL _ _ _ := hw2
    unfold oL at hw2
    rw [h2] at hw2
    show oL _ _ _
    unfold oL
    rw [h2]
    exact ⟨h3, h4, h5, hw2.2.2⟩
  case aaload =>
    simp only [wpI] at hw hw2 ⊢
    obtain ⟨i, T, rfl, h1⟩ := pI_of hw
    obtain ⟨a, T, rfl, h1⟩ := pR_of h1
    obtain ⟨t, n, g, h2, h3, h4, h5⟩ := oQ_of h1
    obtain ⟨q, h6, h7⟩ := oo_of h5
    have hw2 : oQ _ _ _ := hw2
    unfold oQ at hw2
    rw [h2] at hw2
    have hw2 := hw2.2.2
    rw [h6] at hw2
    show oQ _ _ _
    unfold oQ
    rw [h2]
    refine ⟨h3, h4, ?_⟩
    rw [h6]
    exact ⟨h7, hw2⟩
  case iastore =>
    simp only [wpI] at hw hw2 ⊢
    obtain ⟨x, T, rfl, h1⟩ := pI_of hw
    obtain ⟨i, T, rfl, h1⟩ := pI_of h1
    obtain ⟨a, T, rfl, h1⟩ := pR_of h1
    obtain ⟨t, n, g, h2, h3, h4, h5⟩ := oI_of h1
    have hw2 : oI _ _ _ := hw2
    unfold oI at hw2
    rw [h2] at hw2
    show oI _ _ _
    unfold oI
    rw [h2]
    exact ⟨h3, h4, h5, hw2.2.2⟩
  case bastore =>
    simp only [wpI] at hw hw2 ⊢
    obtain ⟨x, T, rfl, h1⟩ := pI_of hw
    obtain ⟨i, T, rfl, h1⟩ := pI_of h1
    obtain ⟨a, T, rfl, h1⟩ := pR_of h1
    obtain ⟨t, n, g, h2, h3, h4, h5⟩ := oI_of h1
    have hw2 : oI _ _ _ := hw2
    unfold oI at hw2
    rw [h2] at hw2
    show oI _ _ _
    unfold oI
    rw [h2]
    exact ⟨h3, h4, h5, hw2.2.2⟩
  case fastore =>
    simp only [wpI] at hw hw2 ⊢
    obtain ⟨x, T, rfl, h1⟩ := pF_of hw
    obtain ⟨i, T, rfl, h1⟩ := pI_of h1
    obtain ⟨a, T, rfl, h1⟩ := pR_of h1
    obtain ⟨t, n, g, h2, h3, h4, h5⟩ := oF_of h1
    have hw2 : oF _ _ _ := hw2
    unfold oF at hw2
    rw [h2] at hw2
    show oF _ _ _
    unfold oF
    rw [h2]
    exact ⟨h3, h4, h5, hw2.2.2⟩
  case aastore =>
    simp only [wpI] at hw hw2 ⊢
    obtain ⟨x, T, rfl, h1⟩ := pR_of hw
    obtain ⟨i, T, rfl, h1⟩ := pI_of h1
    obtain ⟨a, T, rfl, h1⟩ := pR_of h1
    obtain ⟨t, n, g, h2, h3, h4, h5⟩ := oQ_of h1
    have hw2 : oQ _ _ _ := hw2
    unfold oQ at hw2
    rw [h2] at hw2
    show oQ _ _ _
    unfold oQ
    rw [h2]
    exact ⟨h3, h4, h5, hw2.2.2⟩
  case new i =>
    simp only [wpI] at hw hw2 ⊢
    obtain ⟨ci, h1, h2, h3, h4, h5, h6⟩ := oo_of hw
    rw [h1] at hw2 ⊢
    exact ⟨h2, h3, h4, h5, h6, hw2.2.2.2.2⟩
  case newarray t =>
    simp only [wpI] at hw hw2 ⊢
    obtain ⟨n, T, rfl, h1⟩ := pI_of hw
    cases t with
    | int =>
      obtain ⟨h2, h3, h4, h5, h6, h7, h8, h9⟩ := h1
      exact ⟨h2, h3, h4, h5, h6, h7, h8, h9, hw2.2.2.2.2.2.2.2⟩
    | boolean =>
      obtain ⟨h2, h3, h4, h5, h6, h7, h8, h9⟩ := h1
      exact ⟨h2, h3, h4, h5, h6, h7, h8, h9, hw2.2.2.2.2.2.2.2⟩
    | float =>
      obtain ⟨h2, h3, h4, h5, h6, h7, h8, h9⟩ := h1
      exact ⟨h2, h3, h4, h5, h6, h7, h8, h9, hw2.2.2.2.2.2.2.2⟩
    | long =>
      obtain ⟨h2, h3, h4, h5, h6, h7, h8, h9⟩ := h1
      exact ⟨h2, h3, h4, h5, h6, h7, h8, h9, hw2.2.2.2.2.2.2.2⟩
    | char => exact h1.elim
    | double => exact h1.elim
    | byte => exact h1.elim
    | short => exact h1.elim
  case anewarray i =>
    simp only [wpI] at hw hw2 ⊢
    obtain ⟨n, T, rfl, h1⟩ := pI_of hw
    obtain ⟨ci, h0, hci, h2, h3, h4, h5, h6, h7, h8, h9⟩ := oo_of h1
    have hw2 : oo _ _ := hw2
    rw [h0] at hw2
    show oo _ _
    rw [h0]
    exact ⟨hci, h2, h3, h4, h5, h6, h7, h8, h9, hw2.2.2.2.2.2.2.2.2⟩
  case invokevirtual i =>
    simp only [wpI] at hw hw2 ⊢
    obtain ⟨y, h1, h2⟩ := oo_of hw
    obtain ⟨b, rest, h3, h4, h5, h6⟩ := pR_of h2
    rw [h1] at hw2 ⊢
    have hw2 : pR _ _ := hw2
    rw [h3] at hw2
    show pR _ _
    rw [h3]
    exact ⟨h4, h5, s_call_and hK h6 hw2.2.2⟩
  case invokespecial i =>
    simp only [wpI] at hw hw2 ⊢
    cases hpn : pn (mC m) i with
    | some n =>
      rw [hpn] at hw hw2
      obtain ⟨h7, hw⟩ := hw
      obtain ⟨b, rest, rfl, h1, h2⟩ := pR_of hw
      exact ⟨h7, h1, h2, hw2.2.2⟩
    | none =>
      rw [hpn] at hw hw2
      obtain ⟨y, h1, h2⟩ := oo_of hw
      obtain ⟨b, rest, h3, h4, h5, h5b, h6⟩ := pR_of h2
      have hw2 : oo _ _ := hw2
      rw [h1] at hw2
      have hw2 : pR _ _ := hw2
      rw [h3] at hw2
      show oo _ _
      rw [h1]
      show pR _ _
      rw [h3]
      exact ⟨h4, h5, h5b, s_call_and hK h6 hw2.2.2.2⟩
  case invokestatic i =>
    simp only [wpI] at hw hw2 ⊢
    cases hpn : pn (mC m) i with
    | none =>
      rw [hpn] at hw hw2
      obtain ⟨y, h1, h4, h5, h6⟩ := oo_of hw
      have hw2 : oo _ _ := hw2
      rw [h1] at hw2
      show oo _ _
      rw [h1]
      exact ⟨h4, h5, s_call_and hK h6 hw2.2.2⟩
    | some n =>
      rw [hpn] at hw hw2
      match n, hw, hw2 with
      | 1, hw, hw2 =>
        obtain ⟨y, T, rfl, h1⟩ := pI_of hw
        obtain ⟨x, T, rfl, h2, h3⟩ := pI_of h1
        exact ⟨h2, h3, hw2.2⟩
      | 2, hw, hw2 =>
        obtain ⟨y, T, rfl, h1⟩ := pI_of hw
        obtain ⟨x, T, rfl, h2, h3⟩ := pI_of h1
        exact ⟨h2, h3, hw2.2⟩
      | 3, hw, hw2 =>
        obtain ⟨x, T, rfl, h2, h3⟩ := pI_of hw
        exact ⟨h2, h3, hw2.2⟩
      | 4, hw, hw2 =>
        obtain ⟨x, T, rfl, h2, h4, h3⟩ := pI_of hw
        exact ⟨h2, h4, h3, hw2.2.2⟩
      | 5, hw, hw2 =>
        obtain ⟨x, T, rfl, h2, h3⟩ := pF_of hw
        exact ⟨h2, h3, hw2.2⟩
      | 6, hw, hw2 =>
        obtain ⟨x, T, rfl, h2, h3⟩ := pD_of hw
        exact ⟨h2, h3, hw2.2⟩
      | 0, hw, hw2 => exact hw.elim
      | n + 7, hw, hw2 => exact hw.elim
  case ireturn =>
    simp only [wpI] at hw hw2 ⊢
    obtain ⟨x, T, rfl, h1, h2⟩ := pI_of hw
    obtain ⟨ty, h3, h4, h5⟩ := oo_of h2
    have hw2 := hw2.2
    rw [h3] at hw2
    refine ⟨h1, ?_⟩
    rw [h3]
    exact ⟨h4, h5, hw2.2⟩
  case lreturn =>
    simp only [wpI] at hw hw2 ⊢
    obtain ⟨x, T, rfl, h1, h2, h3⟩ := pL_of hw
    exact ⟨h1, h2, h3, hw2.2.2⟩
  case freturn =>
    simp only [wpI] at hw hw2 ⊢
    obtain ⟨x, T, rfl, h1, h2, h3⟩ := pF_of hw
    exact ⟨h1, h2, h3, hw2.2.2⟩
  case areturn =>
    simp only [wpI] at hw hw2 ⊢
    obtain ⟨x, T, rfl, h1, h2, h3⟩ := pR_of hw
    exact ⟨h1, h2, h3, hw2.2.2⟩
  case return_ =>
    simp only [wpI] at hw hw2 ⊢
    obtain ⟨h1, h2, h3⟩ := hw
    exact ⟨h1, h2, h3, hw2.2.2⟩
  all_goals exact (by simp only [wpI] at hw : False).elim
theorem wpI_mono {K : sM} (hK : s_KOne K) {m : Nat} {i : Instr} {len pc0 : Nat} {L S : List Value} {h : sH} {k : sK} {N N2 : sN} {Q Q2 : sQ} (hw : wpI K m i len pc0 L S h k N Q) (hN : ∀ pc L S h k, N pc L S h k → N2 pc L S h k) (hQ : ∀ v h, Q v h → Q2 v h) : wpI K m i len pc0 L S h k N2 Q2 := by
  rcases wpI_one hK hw with ⟨pc', L', S', h', k', h1, h2⟩ | ⟨v, h', h1, h2⟩
  · exact h2 _ _ (hN _ _ _ _ _ h1)
  · exact h2 _ _ (hQ _ _ h1)
theorem wpn_up {K : sM} (hK : s_KOne K) {m : Nat} : ∀ n n2 pc L S h k (Q : sQ), n ≤ n2 → wpn K m n pc L S h k Q → wpn K m n2 pc L S h k Q := by
  intro n
  induction n with
  | zero => intro n2 pc L S h k Q _ hw; exact hw.elim
  | succ n ih =>
    intro n2 pc L S h k Q hn hw
    obtain ⟨n3, rfl⟩ := Nat.exists_eq_add_of_le' (Nat.le_trans (Nat.le_add_left 1 n) hn)
    unfold wpn at hw ⊢
    split at hw
    · exact ⟨hw.1, wpI_mono hK hw.2 (fun pc L S h k hw => ih n3 _ _ _ _ _ _ (by omega) hw) (fun _ _ h => h)⟩
    · exact hw.elim
theorem wpn_and {K : sM} (hO : s_KOne K) (hK : s_KAnd K) {m : Nat} : ∀ n pc L S h k (Q Q2 : sQ), wpn K m n pc L S h k Q → wpn K m n pc L S h k Q2 → wpn K m n pc L S h k (fun v h => Q v h ∧ Q2 v h) := by
  intro n
  induction n with
  | zero => intro pc L S h k Q Q2 hw; exact hw.elim
  | succ n ih =>
    intro pc L S h k Q Q2 hw hw2
    unfold wpn at hw hw2 ⊢
    split at hw
    · next i len hd =>
      rw [hd] at hw2
      exact ⟨hw.1, wpI_mono hO (wpI_and hK hw.2 hw2.2) (fun pc L S h k hw => ih _ _ _ _ _ _ _ hw.1 hw.2) (fun _ _ h => h)⟩
    · exact hw.elim
theorem MT_and : ∀ d, s_KAnd (MT d)
  | 0 => fun y as h Q Q2 hw _ => hw.elim
  | d + 1 => fun y as h Q Q2 hw hw2 => by
    unfold MT at hw hw2 ⊢
    split at hw
    · next hy =>
      rw [if_pos hy] at hw2 ⊢
      obtain ⟨h1, n, h2⟩ := hw
      obtain ⟨-, n2, h3⟩ := hw2
      exact ⟨h1, n + n2, wpn_and (MT_one d) (MT_and d) _ _ _ _ _ _ _ _ (wpn_up (MT_one d) n _ _ _ _ _ _ _ (by omega) h2) (wpn_up (MT_one d) n2 _ _ _ _ _ _ _ (by omega) h3)⟩
    · next hy =>
      rw [if_neg hy] at hw2 ⊢
      unfold s_ext at hw hw2 ⊢
      split at hw
      · obtain ⟨j, h1, h2, h3⟩ := hw
        obtain ⟨j2, g1, g2, g3⟩ := hw2
        have e : j2 = j := by have z := h2.symm.trans g2; injection z with z _; injection z with z; exact (Nat.add_left_cancel z).symm
        subst e
        exact ⟨j2, h1, h2, h3, g3⟩
      · obtain ⟨j, i, h1, h2, h3, h4⟩ := hw
        obtain ⟨j2, i2, g1, g2, g3, g4⟩ := hw2
        have e : j2 = j ∧ i2 = i := by have z := h2.symm.trans g2; injection z with z z2; injection z with z; injection z2 with z2 _; injection z2 with z2; exact ⟨(Nat.add_left_cancel z).symm, z2.symm⟩
        obtain ⟨rfl, rfl⟩ := e
        exact ⟨j2, i2, h1, h2, h3, h4, g4⟩
      · obtain ⟨a, b, h1, h2, h3, h4⟩ := hw
        obtain ⟨a2, b2, g1, g2, g3, g4⟩ := hw2
        have e : a2 = a ∧ b2 = b := by have z := h1.symm.trans g1; injection z with z z2; injection z with z; injection z2 with z2 _; injection z2 with z2; exact ⟨z.symm, z2.symm⟩
        obtain ⟨rfl, rfl⟩ := e
        exact ⟨a2, b2, h1, h2, h3, h4, g4⟩
      · obtain ⟨c, w, h1, h2⟩ := hw
        obtain ⟨c2, w2, g1, g2⟩ := hw2
        have e : c2 = c ∧ w2 = w := by have z := h1.symm.trans g1; injection z with _ z; injection z with z z2; injection z with z; injection z2 with z2 _; injection z2 with z2; exact ⟨z.symm, z2.symm⟩
        obtain ⟨rfl, rfl⟩ := e
        refine ⟨c2, w2, h1, ?_⟩
        rcases h2 with ⟨h2, h3⟩ | ⟨h2, h3⟩
        · rcases g2 with ⟨g2, g3⟩ | ⟨g2, g3⟩
          · refine Or.inl ⟨h2, ?_⟩
            obtain ⟨v, h', ⟨⟨x, rfl, k2⟩, ⟨x2, k3, k4⟩⟩, k5⟩ := MT_one d _ _ _ _ (MT_and d _ _ _ _ _ h3 g3)
            injection k3 with k3
            injection k3 with k3
            subst k3
            refine k5 _ ⟨x, rfl, ?_⟩
            unfold oL at k2 k4 ⊢
            split at k2
            · next e =>
              rw [e] at k4
              exact ⟨k2.1, k2.2.1, k2.2.2, k4.2.2⟩
            · exact k2.elim
          · exact absurd g2 h2
        · rcases g2 with ⟨g2, g3⟩ | ⟨g2, g3⟩
          · exact absurd h2 g2
          · exact Or.inr ⟨h2, h3, g3⟩
      · exact hw.elim
/-- the one result -/
theorem MT_iff {d m : Nat} {as : List Value} {h h' : sH} {v : Option Value} (hw : MT d m as h (fun v2 h2 => v2 = v ∧ h2 = h')) (Q : sQ) : MT d m as h Q ↔ Q v h' := by
  refine ⟨fun hQ => ?_, fun hQ => MT_mono hw (fun v2 h2 z => by rw [z.1, z.2]; exact hQ)⟩
  obtain ⟨v2, h2, ⟨⟨rfl, rfl⟩, h4⟩, -⟩ := MT_one d _ _ _ _ (MT_and d _ _ _ _ _ hw hQ)
  exact h4
