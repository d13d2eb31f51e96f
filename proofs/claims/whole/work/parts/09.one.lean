/-! the pure run goes one way: an instruction has one next state, or one end -/
def s_KOne (K : sM) : Prop := ∀ y as h Q, K y as h Q → ∃ v h', Q v h' ∧ ∀ Q' : sQ, Q' v h' → K y as h Q'
theorem s_cmp_one {o : ClassFile.Cond} {x y : Int32} {A B : Prop} (h : s_cmp o x y A B) : (A ∧ ∀ A' B' : Prop, A' → s_cmp o x y A' B') ∨ (B ∧ ∀ A' B' : Prop, B' → s_cmp o x y A' B') := by
  cases o <;> simp only [s_cmp] at h ⊢ <;> split at h <;> first
    | exact Or.inl ⟨h, fun A' B' z => by first | (rw [if_pos (by assumption)]; exact z) | (rw [if_neg (by assumption)]; exact z)⟩
    | exact Or.inr ⟨h, fun A' B' z => by first | (rw [if_pos (by assumption)]; exact z) | (rw [if_neg (by assumption)]; exact z)⟩
theorem s_call_one {K : sM} (hK : s_KOne K) {m pc : Nat} {L : List Value} {h : sH} {k : sK} {N : sN} {y : Nat} {as rest : List Value} (hw : s_call K m pc L h k N y as rest) : ∃ pc' L' S' h' k', N pc' L' S' h' k' ∧ ∀ N' : sN, N' pc' L' S' h' k' → s_call K m pc L h k N' y as rest := by
  obtain ⟨h1, h2, h3, h4⟩ := hw
  obtain ⟨v, h', h5, h6⟩ := hK _ _ _ _ h4
  exact ⟨_, _, _, _, _, h5, fun N' z => ⟨h1, h2, h3, h6 _ z⟩⟩
set_option maxHeartbeats 8000000 in
theorem wpI_one {K : sM} (hK : s_KOne K) {m : Nat} {i : Instr} {len pc0 : Nat} {L S : List Value} {h : sH} {k : sK} {N : sN} {Q : sQ} (hw : wpI K m i len pc0 L S h k N Q) :
    (∃ pc' L' S' h' k', N pc' L' S' h' k' ∧ ∀ (N' : sN) (Q' : sQ), N' pc' L' S' h' k' → wpI K m i len pc0 L S h k N' Q') ∨ (∃ v h', Q v h' ∧ ∀ (N' : sN) (Q' : sQ), Q' v h' → wpI K m i len pc0 L S h k N' Q') := by
  cases i
  case iconst n =>
    simp only [wpI] at hw ⊢
    exact Or.inl ⟨_, _, _, _, _, hw, fun N' Q' z => z⟩
  case bipush n =>
    simp only [wpI] at hw ⊢
    exact Or.inl ⟨_, _, _, _, _, hw, fun N' Q' z => z⟩
  case sipush n =>
    simp only [wpI] at hw ⊢
    exact Or.inl ⟨_, _, _, _, _, hw, fun N' Q' z => z⟩
  case lconst n =>
    simp only [wpI] at hw ⊢
    exact Or.inl ⟨_, _, _, _, _, hw, fun N' Q' z => z⟩
  case fconst n =>
    simp only [wpI] at hw ⊢
    exact Or.inl ⟨_, _, _, _, _, hw, fun N' Q' z => z⟩
  case dconst n =>
    simp only [wpI] at hw ⊢
    exact Or.inl ⟨_, _, _, _, _, hw, fun N' Q' z => z⟩
  case ldc i =>
    simp only [wpI] at hw ⊢
    obtain ⟨v, h1, h2, h3⟩ := oo_of hw
    rw [h1]
    exact Or.inl ⟨_, _, _, _, _, h3, fun N' Q' z => ⟨h2, z⟩⟩
  case ldc_w i =>
    simp only [wpI] at hw ⊢
    obtain ⟨v, h1, h2, h3⟩ := oo_of hw
    rw [h1]
    exact Or.inl ⟨_, _, _, _, _, h3, fun N' Q' z => ⟨h2, z⟩⟩
  case ldc2_w i =>
    simp only [wpI] at hw ⊢
    obtain ⟨v, h1, h2, h3⟩ := oo_of hw
    rw [h1]
    exact Or.inl ⟨_, _, _, _, _, h3, fun N' Q' z => ⟨h2, z⟩⟩
  case iload_n i =>
    simp only [wpI] at hw ⊢
    obtain ⟨x, h1, h2⟩ := gI_of hw
    exact Or.inl ⟨_, _, _, _, _, h2, fun N' Q' z => by unfold gI; rw [h1]; exact z⟩
  case iload i =>
    simp only [wpI] at hw ⊢
    obtain ⟨x, h1, h2⟩ := gI_of hw
    exact Or.inl ⟨_, _, _, _, _, h2, fun N' Q' z => by unfold gI; rw [h1]; exact z⟩
  case lload_n i =>
    simp only [wpI] at hw ⊢
    obtain ⟨x, h1, h2⟩ := gL_of hw
    exact Or.inl ⟨_, _, _, _, _, h2, fun N' Q' z => by unfold gL; rw [h1]; exact z⟩
  case lload i =>
    simp only [wpI] at hw ⊢
    obtain ⟨x, h1, h2⟩ := gL_of hw
    exact Or.inl ⟨_, _, _, _, _, h2, fun N' Q' z => by unfold gL; rw [h1]; exact z⟩
  case fload_n i =>
    simp only [wpI] at hw ⊢
    obtain ⟨x, h1, h2⟩ := gF_of hw
    exact Or.inl ⟨_, _, _, _, _, h2, fun N' Q' z => by unfold gF; rw [h1]; exact z⟩
  case fload i =>
    simp only [wpI] at hw ⊢
    obtain ⟨x, h1, h2⟩ := gF_of hw
    exact Or.inl ⟨_, _, _, _, _, h2, fun N' Q' z => by unfold gF; rw [h1]; exact z⟩
  case dload_n i =>
    simp only [wpI] at hw ⊢
    obtain ⟨x, h1, h2⟩ := gD_of hw
    exact Or.inl ⟨_, _, _, _, _, h2, fun N' Q' z => by unfold gD; rw [h1]; exact z⟩
  case dload i =>
    simp only [wpI] at hw ⊢
    obtain ⟨x, h1, h2⟩ := gD_of hw
    exact Or.inl ⟨_, _, _, _, _, h2, fun N' Q' z => by unfold gD; rw [h1]; exact z⟩
  case aload_n i =>
    simp only [wpI] at hw ⊢
    obtain ⟨x, h1, h2⟩ := gR_of hw
    exact Or.inl ⟨_, _, _, _, _, h2, fun N' Q' z => by unfold gR; rw [h1]; exact z⟩
  case aload i =>
    simp only [wpI] at hw ⊢
    obtain ⟨x, h1, h2⟩ := gR_of hw
    exact Or.inl ⟨_, _, _, _, _, h2, fun N' Q' z => by unfold gR; rw [h1]; exact z⟩
  case istore_n i =>
    simp only [wpI] at hw ⊢
    obtain ⟨x, T, rfl, h1, h2⟩ := pI_of hw
    exact Or.inl ⟨_, _, _, _, _, h2, fun N' Q' z => ⟨h1, z⟩⟩
  case istore i =>
    simp only [wpI] at hw ⊢
    obtain ⟨x, T, rfl, h1, h2⟩ := pI_of hw
    exact Or.inl ⟨_, _, _, _, _, h2, fun N' Q' z => ⟨h1, z⟩⟩
  case fstore_n i =>
    simp only [wpI] at hw ⊢
    obtain ⟨x, T, rfl, h1, h2⟩ := pF_of hw
    exact Or.inl ⟨_, _, _, _, _, h2, fun N' Q' z => ⟨h1, z⟩⟩
  case fstore i =>
    simp only [wpI] at hw ⊢
    obtain ⟨x, T, rfl, h1, h2⟩ := pF_of hw
    exact Or.inl ⟨_, _, _, _, _, h2, fun N' Q' z => ⟨h1, z⟩⟩
  case astore_n i =>
    simp only [wpI] at hw ⊢
    obtain ⟨x, T, rfl, h1, h2⟩ := pR_of hw
    exact Or.inl ⟨_, _, _, _, _, h2, fun N' Q' z => ⟨h1, z⟩⟩
  case astore i =>
    simp only [wpI] at hw ⊢
    obtain ⟨x, T, rfl, h1, h2⟩ := pR_of hw
    exact Or.inl ⟨_, _, _, _, _, h2, fun N' Q' z => ⟨h1, z⟩⟩
  case dstore_n i =>
    simp only [wpI] at hw ⊢
    obtain ⟨x, T, rfl, h1, h2⟩ := pD_of hw
    exact Or.inl ⟨_, _, _, _, _, h2, fun N' Q' z => ⟨h1, z⟩⟩
  case dstore i =>
    simp only [wpI] at hw ⊢
    obtain ⟨x, T, rfl, h1, h2⟩ := pD_of hw
    exact Or.inl ⟨_, _, _, _, _, h2, fun N' Q' z => ⟨h1, z⟩⟩
  case iinc i n =>
    simp only [wpI] at hw ⊢
    obtain ⟨x, h0, h1, h3, h2⟩ := gI_of hw
    exact Or.inl ⟨_, _, _, _, _, h2, fun N' Q' z => by unfold gI; rw [h0]; exact ⟨h1, h3, z⟩⟩
  case iadd =>
    simp only [wpI] at hw ⊢
    obtain ⟨y, T, rfl, h1⟩ := pI_of hw
    obtain ⟨x, T, rfl, h2⟩ := pI_of h1
    exact Or.inl ⟨_, _, _, _, _, h2, fun N' Q' z => z⟩
  case isub =>
    simp only [wpI] at hw ⊢
    obtain ⟨y, T, rfl, h1⟩ := pI_of hw
    obtain ⟨x, T, rfl, h2⟩ := pI_of h1
    exact Or.inl ⟨_, _, _, _, _, h2, fun N' Q' z => z⟩
  case imul =>
    simp only [wpI] at hw ⊢
    obtain ⟨y, T, rfl, h1⟩ := pI_of hw
    obtain ⟨x, T, rfl, h2⟩ := pI_of h1
    exact Or.inl ⟨_, _, _, _, _, h2, fun N' Q' z => z⟩
  case iand =>
    simp only [wpI] at hw ⊢
    obtain ⟨y, T, rfl, h1⟩ := pI_of hw
    obtain ⟨x, T, rfl, h2⟩ := pI_of h1
    exact Or.inl ⟨_, _, _, _, _, h2, fun N' Q' z => z⟩
  case ior =>
    simp only [wpI] at hw ⊢
    obtain ⟨y, T, rfl, h1⟩ := pI_of hw
    obtain ⟨x, T, rfl, h2⟩ := pI_of h1
    exact Or.inl ⟨_, _, _, _, _, h2, fun N' Q' z => z⟩
  case ixor =>
    simp only [wpI] at hw ⊢
    obtain ⟨y, T, rfl, h1⟩ := pI_of hw
    obtain ⟨x, T, rfl, h2⟩ := pI_of h1
    exact Or.inl ⟨_, _, _, _, _, h2, fun N' Q' z => z⟩
  case ishl =>
    simp only [wpI] at hw ⊢
    obtain ⟨y, T, rfl, h1⟩ := pI_of hw
    obtain ⟨x, T, rfl, h2⟩ := pI_of h1
    exact Or.inl ⟨_, _, _, _, _, h2, fun N' Q' z => z⟩
  case ishr =>
    simp only [wpI] at hw ⊢
    obtain ⟨y, T, rfl, h1⟩ := pI_of hw
    obtain ⟨x, T, rfl, h2⟩ := pI_of h1
    exact Or.inl ⟨_, _, _, _, _, h2, fun N' Q' z => z⟩
  case iushr =>
    simp only [wpI] at hw ⊢
    obtain ⟨y, T, rfl, h1⟩ := pI_of hw
    obtain ⟨x, T, rfl, h2⟩ := pI_of h1
    exact Or.inl ⟨_, _, _, _, _, h2, fun N' Q' z => z⟩
  case idiv =>
    simp only [wpI] at hw ⊢
    obtain ⟨y, T, rfl, h1⟩ := pI_of hw
    obtain ⟨x, T, rfl, h2, h3⟩ := pI_of h1
    exact Or.inl ⟨_, _, _, _, _, h3, fun N' Q' z => ⟨h2, z⟩⟩
  case irem =>
    simp only [wpI] at hw ⊢
    obtain ⟨y, T, rfl, h1⟩ := pI_of hw
    obtain ⟨x, T, rfl, h2, h3⟩ := pI_of h1
    exact Or.inl ⟨_, _, _, _, _, h3, fun N' Q' z => ⟨h2, z⟩⟩
  case i2l =>
    simp only [wpI] at hw ⊢
    obtain ⟨x, T, rfl, h2⟩ := pI_of hw
    exact Or.inl ⟨_, _, _, _, _, h2, fun N' Q' z => z⟩
  case i2d =>
    simp only [wpI] at hw ⊢
    obtain ⟨x, T, rfl, h2⟩ := pI_of hw
    exact Or.inl ⟨_, _, _, _, _, h2, fun N' Q' z => z⟩
  case f2i =>
    simp only [wpI] at hw ⊢
    obtain ⟨x, T, rfl, h2⟩ := pF_of hw
    exact Or.inl ⟨_, _, _, _, _, h2, fun N' Q' z => z⟩
  case d2l =>
    simp only [wpI] at hw ⊢
    obtain ⟨x, T, rfl, h2⟩ := pD_of hw
    exact Or.inl ⟨_, _, _, _, _, h2, fun N' Q' z => z⟩
  case lor =>
    simp only [wpI] at hw ⊢
    obtain ⟨y, T, rfl, h1⟩ := pL_of hw
    obtain ⟨x, T, rfl, h2⟩ := pL_of h1
    exact Or.inl ⟨_, _, _, _, _, h2, fun N' Q' z => z⟩
  case lshl =>
    simp only [wpI] at hw ⊢
    obtain ⟨y, T, rfl, h1⟩ := pI_of hw
    obtain ⟨x, T, rfl, h2⟩ := pL_of h1
    exact Or.inl ⟨_, _, _, _, _, h2, fun N' Q' z => z⟩
  case lcmp =>
    simp only [wpI] at hw ⊢
    obtain ⟨y, T, rfl, h1⟩ := pL_of hw
    obtain ⟨x, T, rfl, h2⟩ := pL_of h1
    exact Or.inl ⟨_, _, _, _, _, h2, fun N' Q' z => z⟩
  case fadd =>
    simp only [wpI] at hw ⊢
    obtain ⟨y, T, rfl, h1⟩ := pF_of hw
    obtain ⟨x, T, rfl, h2, h3⟩ := pF_of h1
    exact Or.inl ⟨_, _, _, _, _, h3, fun N' Q' z => ⟨h2, z⟩⟩
  case fsub =>
    simp only [wpI] at hw ⊢
    obtain ⟨y, T, rfl, h1⟩ := pF_of hw
    obtain ⟨x, T, rfl, h2, h3⟩ := pF_of h1
    exact Or.inl ⟨_, _, _, _, _, h3, fun N' Q' z => ⟨h2, z⟩⟩
  case fmul =>
    simp only [wpI] at hw ⊢
    obtain ⟨y, T, rfl, h1⟩ := pF_of hw
    obtain ⟨x, T, rfl, h2, h3⟩ := pF_of h1
    exact Or.inl ⟨_, _, _, _, _, h3, fun N' Q' z => ⟨h2, z⟩⟩
  case dmul =>
    simp only [wpI] at hw ⊢
    obtain ⟨y, T, rfl, h1⟩ := pD_of hw
    obtain ⟨x, T, rfl, h2, h3⟩ := pD_of h1
    exact Or.inl ⟨_, _, _, _, _, h3, fun N' Q' z => ⟨h2, z⟩⟩
  case ddiv =>
    simp only [wpI] at hw ⊢
    obtain ⟨y, T, rfl, h1⟩ := pD_of hw
    obtain ⟨x, T, rfl, h2, h3⟩ := pD_of h1
    exact Or.inl ⟨_, _, _, _, _, h3, fun N' Q' z => ⟨h2, z⟩⟩
  case dsub =>
    simp only [wpI] at hw ⊢
    obtain ⟨y, T, rfl, h1⟩ := pD_of hw
    obtain ⟨x, T, rfl, h2, h3⟩ := pD_of h1
    exact Or.inl ⟨_, _, _, _, _, h3, fun N' Q' z => ⟨h2, z⟩⟩
  case fcmp o =>
    simp only [wpI] at hw ⊢
    obtain ⟨y, T, rfl, h1⟩ := pF_of hw
    obtain ⟨x, T, rfl, h2⟩ := pF_of h1
    exact Or.inl ⟨_, _, _, _, _, h2, fun N' Q' z => z⟩
  case dcmp o =>
    simp only [wpI] at hw ⊢
    obtain ⟨y, T, rfl, h1⟩ := pD_of hw
    obtain ⟨x, T, rfl, h2⟩ := pD_of h1
    exact Or.inl ⟨_, _, _, _, _, h2, fun N' Q' z => z⟩
  case dup =>
    simp only [wpI] at hw ⊢
    obtain ⟨v, T, rfl, h1, h2⟩ := pA_of hw
    exact Or.inl ⟨_, _, _, _, _, h2, fun N' Q' z => ⟨h1, z⟩⟩
  case pop =>
    simp only [wpI] at hw ⊢
    obtain ⟨v, T, rfl, h1, h2⟩ := pA_of hw
    exact Or.inl ⟨_, _, _, _, _, h2, fun N' Q' z => ⟨h1, z⟩⟩
  case dup2 =>
    simp only [wpI] at hw ⊢
    obtain ⟨v, T, rfl, h1⟩ := pA_of hw
    obtain ⟨w, T, rfl, h2, h3, h4⟩ := pA_of h1
    exact Or.inl ⟨_, _, _, _, _, h4, fun N' Q' z => ⟨h2, h3, z⟩⟩
  case dup_x1 =>
    simp only [wpI] at hw ⊢
    obtain ⟨v, T, rfl, h1⟩ := pA_of hw
    obtain ⟨w, T, rfl, h2, h3, h4⟩ := pA_of h1
    exact Or.inl ⟨_, _, _, _, _, h4, fun N' Q' z => ⟨h2, h3, z⟩⟩
  case goto off =>
    simp only [wpI] at hw ⊢
    exact Or.inl ⟨_, _, _, _, _, hw.2, fun N' Q' z => ⟨hw.1, z⟩⟩
  case ifCond o off =>
    simp only [wpI] at hw ⊢
    obtain ⟨x, T, rfl, h1, h2⟩ := pI_of hw
    rcases s_cmp_one h2 with ⟨h3, h4⟩ | ⟨h3, h4⟩
    · exact Or.inl ⟨_, _, _, _, _, h3, fun N' Q' z => ⟨h1, h4 _ _ z⟩⟩
    · exact Or.inl ⟨_, _, _, _, _, h3, fun N' Q' z => ⟨h1, h4 _ _ z⟩⟩
  case if_icmp o off =>
    simp only [wpI] at hw ⊢
    obtain ⟨y, T, rfl, h0⟩ := pI_of hw
    obtain ⟨x, T, rfl, h1, h2⟩ := pI_of h0
    rcases s_cmp_one h2 with ⟨h3, h4⟩ | ⟨h3, h4⟩
    · exact Or.inl ⟨_, _, _, _, _, h3, fun N' Q' z => ⟨h1, h4 _ _ z⟩⟩
    · exact Or.inl ⟨_, _, _, _, _, h3, fun N' Q' z => ⟨h1, h4 _ _ z⟩⟩
  case tableswitch dd lo hi offs =>
    simp only [wpI] at hw ⊢
    obtain ⟨x, T, rfl, h0⟩ := pI_of hw
    by_cases hc : x.toInt < lo ∨ hi < x.toInt
    · rw [if_pos hc] at h0
      exact Or.inl ⟨_, _, _, _, _, h0.2, fun N' Q' z => by show (if _ then _ else _); rw [if_pos hc]; exact ⟨h0.1, z⟩⟩
    · rw [if_neg hc] at h0
      obtain ⟨off, h1, h2, h3⟩ := oo_of h0
      exact Or.inl ⟨_, _, _, _, _, h3, fun N' Q' z => by show (if _ then _ else _); rw [if_neg hc, h1]; exact ⟨h2, z⟩⟩
  case getfield i =>
    simp only [wpI] at hw ⊢
    obtain ⟨a, T, rfl, h1⟩ := pR_of hw
    obtain ⟨f, h2, h1⟩ := oo_of h1
    obtain ⟨c0, fs, h3, h9, h4⟩ := oO_of h1
    obtain ⟨v, h5, h6⟩ := oo_of h4
    exact Or.inl ⟨_, _, _, _, _, h6, fun N' Q' z => by show oo _ _; rw [h2]; show oO _ _ _; unfold oO; rw [h3]; refine ⟨h9, ?_⟩; rw [h5]; exact z⟩
  case putfield i =>
    simp only [wpI] at hw ⊢
    obtain ⟨v, T, rfl, h1⟩ := pA_of hw
    obtain ⟨a, T, rfl, h1⟩ := pR_of h1
    obtain ⟨f, h2, h1⟩ := oo_of h1
    obtain ⟨c0, fs, h3, h9, h4, h5, h6, h7, h8⟩ := oO_of h1
    exact Or.inl ⟨_, _, _, _, _, h8, fun N' Q' z => by show oo _ _; rw [h2]; show oO _ _ _; unfold oO; rw [h3]; exact ⟨h9, h4, h5, h6, h7, z⟩⟩
  case arraylength =>
    simp only [wpI] at hw ⊢
    obtain ⟨a, T, rfl, h1⟩ := pR_of hw
    obtain ⟨t, n, g, h2, h3, h4⟩ := oA_of h1
    exact Or.inl ⟨_, _, _, _, _, h4, fun N' Q' z => by show oA _ _ _; unfold oA; rw [h2]; exact ⟨h3, z⟩⟩
  case iaload =>
    simp only [wpI] at hw ⊢
    obtain ⟨i, T, rfl, h1⟩ := pI_of hw
    obtain ⟨a, T, rfl, h1⟩ := pR_of h1
    obtain ⟨t, n, g, h2, h3, h4, h5⟩ := oI_of h1
    exact Or.inl ⟨_, _, _, _, _, h5, fun N' Q' z => by show oI _ _ _; unfold oI; rw [h2]; exact ⟨h3, h4, z⟩⟩
  case baload =>
    simp only [wpI] at hw ⊢
    obtain ⟨i, T, rfl, h1⟩ := pI_of hw
    obtain ⟨a, T, rfl, h1⟩ := pR_of h1
    obtain ⟨t, n, g, h2, h3, h4, h5⟩ := oI_of h1
    exact Or.inl ⟨_, _, _, _, _, h5, fun N' Q' z => by show oI _ _ _; unfold oI; rw [h2]; exact ⟨h3, h4, z⟩⟩
  case faload =>
    simp only [wpI] at hw ⊢
    obtain ⟨i, T, rfl, h1⟩ := pI_of hw
    obtain ⟨a, T, rfl, h1⟩ := pR_of h1
    obtain ⟨t, n, g, h2, h3, h4, h5⟩ := oF_of h1
    exact Or.inl ⟨_, _, _, _, _, h5, fun N' Q' z => by show oF _ _ _; unfold oF; rw [h2]; exact ⟨h3, h4, z⟩⟩
  case laload =>
    simp only [wpI] at hw ⊢
    obtain ⟨i, T, rfl, h1⟩ := pI_of hw
    obtain ⟨a, T, rfl, h1⟩ := pR_of h1
    obtain ⟨t, n, g, h2, h3, h4, h5⟩ := oL_of h1
    exact Or.inl ⟨_, _, _, _, _, h5, fun N' Q' z => by show oL _ _ _; unfold oL; rw [h2]; exact ⟨h3, h4, z⟩⟩
  case aaload =>
    simp only [wpI] at hw ⊢
    obtain ⟨i, T, rfl, h1⟩ := pI_of hw
    obtain ⟨a, T, rfl, h1⟩ := pR_of h1
    obtain ⟨t, n, g, h2, h3, h4, h5⟩ := oQ_of h1
    obtain ⟨q, h6, h7⟩ := oo_of h5
    exact Or.inl ⟨_, _, _, _, _, h7, fun N' Q' z => by show oQ _ _ _; unfold oQ; rw [h2]; refine ⟨h3, h4, ?_⟩; rw [h6]; exact z⟩
  case iastore =>
    simp only [wpI] at hw ⊢
    obtain ⟨x, T, rfl, h1⟩ := pI_of hw
    obtain ⟨i, T, rfl, h1⟩ := pI_of h1
    obtain ⟨a, T, rfl, h1⟩ := pR_of h1
    obtain ⟨t, n, g, h2, h3, h4, h5⟩ := oI_of h1
    exact Or.inl ⟨_, _, _, _, _, h5, fun N' Q' z => by show oI _ _ _; unfold oI; rw [h2]; exact ⟨h3, h4, z⟩⟩
  case bastore =>
    simp only [wpI] at hw ⊢
    obtain ⟨x, T, rfl, h1⟩ := pI_of hw
    obtain ⟨i, T, rfl, h1⟩ := pI_of h1
    obtain ⟨a, T, rfl, h1⟩ := pR_of h1
    obtain ⟨t, n, g, h2, h3, h4, h5⟩ := oI_of h1
    exact Or.inl ⟨_, _, _, _, _, h5, fun N' Q' z => by show oI _ _ _; unfold oI; rw [h2]; exact ⟨h3, h4, z⟩⟩
  case fastore =>
    simp only [wpI] at hw ⊢
    obtain ⟨x, T, rfl, h1⟩ := pF_of hw
    obtain ⟨i, T, rfl, h1⟩ := pI_of h1
    obtain ⟨a, T, rfl, h1⟩ := pR_of h1
    obtain ⟨t, n, g, h2, h3, h4, h5⟩ := oF_of h1
    exact Or.inl ⟨_, _, _, _, _, h5, fun N' Q' z => by show oF _ _ _; unfold oF; rw [h2]; exact ⟨h3, h4, z⟩⟩
  case aastore =>
    simp only [wpI] at hw ⊢
    obtain ⟨x, T, rfl, h1⟩ := pR_of hw
    obtain ⟨i, T, rfl, h1⟩ := pI_of h1
    obtain ⟨a, T, rfl, h1⟩ := pR_of h1
    obtain ⟨t, n, g, h2, h3, h4, h5⟩ := oQ_of h1
    exact Or.inl ⟨_, _, _, _, _, h5, fun N' Q' z => by show oQ _ _ _; unfold oQ; rw [h2]; exact ⟨h3, h4, z⟩⟩
  case new i =>
    simp only [wpI] at hw ⊢
    obtain ⟨ci, h1, h2, h3, h4, h5, h6⟩ := oo_of hw
    rw [h1]
    exact Or.inl ⟨_, _, _, _, _, h6, fun N' Q' z => ⟨h2, h3, h4, h5, z⟩⟩
  case newarray t =>
    simp only [wpI] at hw ⊢
    obtain ⟨n, T, rfl, h1⟩ := pI_of hw
    cases t with
    | int =>
      obtain ⟨h2, h3, h4, h5, h6, h7, h8, h9⟩ := h1
      exact Or.inl ⟨_, _, _, _, _, h9, fun N' Q' z => ⟨h2, h3, h4, h5, h6, h7, h8, z⟩⟩
    | boolean =>
      obtain ⟨h2, h3, h4, h5, h6, h7, h8, h9⟩ := h1
      exact Or.inl ⟨_, _, _, _, _, h9, fun N' Q' z => ⟨h2, h3, h4, h5, h6, h7, h8, z⟩⟩
    | float =>
      obtain ⟨h2, h3, h4, h5, h6, h7, h8, h9⟩ := h1
      exact Or.inl ⟨_, _, _, _, _, h9, fun N' Q' z => ⟨h2, h3, h4, h5, h6, h7, h8, z⟩⟩
    | long =>
      obtain ⟨h2, h3, h4, h5, h6, h7, h8, h9⟩ := h1
      exact Or.inl ⟨_, _, _, _, _, h9, fun N' Q' z => ⟨h2, h3, h4, h5, h6, h7, h8, z⟩⟩
    | char => exact h1.elim
    | double => exact h1.elim
    | byte => exact h1.elim
    | short => exact h1.elim
  case anewarray i =>
    simp only [wpI] at hw ⊢
    obtain ⟨n, T, rfl, h1⟩ := pI_of hw
    obtain ⟨ci, h0, hci, h2, h3, h4, h5, h6, h7, h8, h9⟩ := oo_of h1
    exact Or.inl ⟨_, _, _, _, _, h9, fun N' Q' z => by show oo _ _; rw [h0]; exact ⟨hci, h2, h3, h4, h5, h6, h7, h8, z⟩⟩
  case invokevirtual i =>
    simp only [wpI] at hw ⊢
    obtain ⟨y, h1, h2⟩ := oo_of hw
    obtain ⟨b, rest, h3, h4, h5, h6⟩ := pR_of h2
    obtain ⟨pc1, L1, S1, h1', k1, g1, g2⟩ := s_call_one hK h6
    exact Or.inl ⟨_, _, _, _, _, g1, fun N' Q' z => by show oo _ _; rw [h1]; show pR _ _; rw [h3]; exact ⟨h4, h5, g2 _ z⟩⟩
  case invokespecial i =>
    simp only [wpI] at hw ⊢
    cases hpn : pn (mC m) i with
    | some n =>
      rw [hpn] at hw
      obtain ⟨h7, hw⟩ := hw
      obtain ⟨b, rest, rfl, h1, h2⟩ := pR_of hw
      exact Or.inl ⟨_, _, _, _, _, h2, fun N' Q' z => ⟨h7, h1, z⟩⟩
    | none =>
      rw [hpn] at hw
      obtain ⟨y, h1, h2⟩ := oo_of hw
      obtain ⟨b, rest, h3, h4, h5, h5b, h6⟩ := pR_of h2
      obtain ⟨pc1, L1, S1, h1', k1, g1, g2⟩ := s_call_one hK h6
      exact Or.inl ⟨_, _, _, _, _, g1, fun N' Q' z => by show oo _ _; rw [h1]; show pR _ _; rw [h3]; exact ⟨h4, h5, h5b, g2 _ z⟩⟩
  case invokestatic i =>
    simp only [wpI] at hw ⊢
    cases hpn : pn (mC m) i with
    | none =>
      rw [hpn] at hw
      obtain ⟨y, h1, h4, h5, h6⟩ := oo_of hw
      obtain ⟨pc1, L1, S1, h1', k1, g1, g2⟩ := s_call_one hK h6
      exact Or.inl ⟨_, _, _, _, _, g1, fun N' Q' z => by show oo _ _; rw [h1]; exact ⟨h4, h5, g2 _ z⟩⟩
    | some n =>
      rw [hpn] at hw
      match n, hw with
      | 1, hw =>
        obtain ⟨y, T, rfl, h1⟩ := pI_of hw
        obtain ⟨x, T, rfl, h2, h3⟩ := pI_of h1
        exact Or.inl ⟨_, _, _, _, _, h3, fun N' Q' z => ⟨h2, z⟩⟩
      | 2, hw =>
        obtain ⟨y, T, rfl, h1⟩ := pI_of hw
        obtain ⟨x, T, rfl, h2, h3⟩ := pI_of h1
        exact Or.inl ⟨_, _, _, _, _, h3, fun N' Q' z => ⟨h2, z⟩⟩
      | 3, hw =>
        obtain ⟨x, T, rfl, h2, h3⟩ := pI_of hw
        exact Or.inl ⟨_, _, _, _, _, h3, fun N' Q' z => ⟨h2, z⟩⟩
      | 4, hw =>
        obtain ⟨x, T, rfl, h2, h4, h3⟩ := pI_of hw
        exact Or.inl ⟨_, _, _, _, _, h3, fun N' Q' z => ⟨h2, h4, z⟩⟩
      | 5, hw =>
        obtain ⟨x, T, rfl, h2, h3⟩ := pF_of hw
        exact Or.inl ⟨_, _, _, _, _, h3, fun N' Q' z => ⟨h2, z⟩⟩
      | 6, hw =>
        obtain ⟨x, T, rfl, h2, h3⟩ := pD_of hw
        exact Or.inl ⟨_, _, _, _, _, h3, fun N' Q' z => ⟨h2, z⟩⟩
      | 0, hw => exact hw.elim
      | n + 7, hw => exact hw.elim
  case ireturn =>
    simp only [wpI] at hw ⊢
    obtain ⟨x, T, rfl, h1, h2⟩ := pI_of hw
    obtain ⟨ty, h3, h4, h5⟩ := oo_of h2
    exact Or.inr ⟨_, _, h5, fun N' Q' z => ⟨h1, by rw [h3]; exact ⟨h4, z⟩⟩⟩
  case lreturn =>
    simp only [wpI] at hw ⊢
    obtain ⟨x, T, rfl, h1, h2, h3⟩ := pL_of hw
    exact Or.inr ⟨_, _, h3, fun N' Q' z => ⟨h1, h2, z⟩⟩
  case freturn =>
    simp only [wpI] at hw ⊢
    obtain ⟨x, T, rfl, h1, h2, h3⟩ := pF_of hw
    exact Or.inr ⟨_, _, h3, fun N' Q' z => ⟨h1, h2, z⟩⟩
  case areturn =>
    simp only [wpI] at hw ⊢
    obtain ⟨x, T, rfl, h1, h2, h3⟩ := pR_of hw
    exact Or.inr ⟨_, _, h3, fun N' Q' z => ⟨h1, h2, z⟩⟩
  case return_ =>
    simp only [wpI] at hw ⊢
    obtain ⟨h1, h2, h3⟩ := hw
    exact Or.inr ⟨_, _, h3, fun N' Q' z => ⟨h1, h2, z⟩⟩
  all_goals exact (by simp only [wpI] at hw : False).elim
theorem wpn_one {K : sM} (hK : s_KOne K) {m : Nat} : ∀ n pc L S h k (Q : sQ), wpn K m n pc L S h k Q → ∃ v h', Q v h' ∧ ∀ Q' : sQ, Q' v h' → wpn K m n pc L S h k Q' := by
  intro n
  induction n with
  | zero => intro pc L S h k Q hw; exact hw.elim
  | succ n ih =>
    intro pc L S h k Q hw
    unfold wpn at hw ⊢
    split at hw
    · rcases wpI_one hK hw.2 with ⟨pc', L', S', h', k', h1, h2⟩ | ⟨v, h', h1, h2⟩
      · obtain ⟨v, h'', h3, h4⟩ := ih _ _ _ _ _ _ h1
        exact ⟨v, h'', h3, fun Q' z => ⟨hw.1, h2 _ _ (h4 Q' z)⟩⟩
      · exact ⟨v, h', h1, fun Q' z => ⟨hw.1, h2 _ _ z⟩⟩
    · exact hw.elim
theorem MT_one : ∀ d, s_KOne (MT d)
  | 0 => fun y as h Q hw => hw.elim
  | d + 1 => fun y as h Q hw => by
    unfold MT at hw ⊢
    split at hw
    · obtain ⟨h1, n, h2⟩ := hw
      obtain ⟨v, h', h3, h4⟩ := wpn_one (MT_one d) n _ _ _ _ _ _ h2
      exact ⟨v, h', h3, fun Q' z => by rw [if_pos (by assumption)]; exact ⟨h1, n, h4 Q' z⟩⟩
    · have hs : ∃ v h', Q v h' ∧ ∀ Q' : sQ, Q' v h' → s_ext (MT d) y as h Q' := by
        unfold s_ext at hw ⊢
        split at hw
        · obtain ⟨j, h1, h2, h3⟩ := hw
          exact ⟨_, _, h3, fun Q' z => ⟨j, h1, h2, z⟩⟩
        · obtain ⟨j, i, h1, h2, h3, h4⟩ := hw
          exact ⟨_, _, h4, fun Q' z => ⟨j, i, h1, h2, h3, z⟩⟩
        · obtain ⟨a, b, h1, h2, h3, h4⟩ := hw
          exact ⟨_, _, h4, fun Q' z => ⟨a, b, h1, h2, h3, z⟩⟩
        · obtain ⟨c, w, h1, ⟨h2, h3⟩ | ⟨h2, h3⟩⟩ := hw
          · obtain ⟨v, h', ⟨x, rfl, h4⟩, h5⟩ := MT_one d _ _ _ _ h3
            obtain ⟨t, n, g, g1, g2, g3, g4⟩ := oL_of h4
            exact ⟨_, _, g4, fun Q' z => ⟨c, w, h1, Or.inl ⟨h2, h5 _ ⟨x, rfl, by unfold oL; rw [g1]; exact ⟨g2, g3, z⟩⟩⟩⟩⟩
          · exact ⟨_, _, h3, fun Q' z => ⟨c, w, h1, Or.inr ⟨h2, z⟩⟩⟩
        · exact hw.elim
      obtain ⟨v, h', h3, h4⟩ := hs
      exact ⟨v, h', h3, fun Q' z => by rw [if_neg (by assumption)]; exact h4 Q' z⟩
/-- from a place in a method on -/
def WP (d m pc : Nat) (L S : List Value) (h : sH) (k : sK) (Q : sQ) : Prop := ∃ n, wpn (MT d) m n pc L S h k Q
theorem WP_ok {d m pc : Nat} {i : Instr} {len : Nat} (hd : decode (mB m) pc = .ok (i, len)) (hl : s_len i = 0 ∨ s_len i = len) (L S : List Value) (h : sH) (k : sK) (Q : sQ) : WP d m pc L S h k Q ↔ wpI (MT d) m i len pc L S h k (fun pc L S h k => WP d m pc L S h k Q) Q := by
  constructor
  · rintro ⟨n, hw⟩
    cases n with
    | zero => exact hw.elim
    | succ n =>
      unfold wpn at hw
      rw [hd] at hw
      rcases wpI_one (MT_one d) hw.2 with ⟨pc', L', S', h', k', h1, h2⟩ | ⟨v, h', h1, h2⟩
      · exact h2 _ _ ⟨n, h1⟩
      · exact h2 _ _ h1
  · intro hw
    rcases wpI_one (MT_one d) hw with ⟨pc', L', S', h', k', ⟨n, h1⟩, h2⟩ | ⟨v, h', h1, h2⟩
    · exact ⟨n + 1, by unfold wpn; rw [hd]; exact ⟨hl, h2 _ _ h1⟩⟩
    · exact ⟨1, by unfold wpn; rw [hd]; exact ⟨hl, h2 _ _ h1⟩⟩
theorem WP_mono {d m pc : Nat} {L S : List Value} {h : sH} {k : sK} {Q Q' : sQ} (hw : WP d m pc L S h k Q) (hq : ∀ v h, Q v h → Q' v h) : WP d m pc L S h k Q' := by
  obtain ⟨n, hw⟩ := hw
  obtain ⟨v, h', h1, h2⟩ := wpn_one (MT_one d) n _ _ _ _ _ _ hw
  exact ⟨n, h2 _ (hq _ _ h1)⟩
theorem MT_mono {d m : Nat} {as : List Value} {h : sH} {Q Q' : sQ} (hw : MT d m as h Q) (hq : ∀ v h, Q v h → Q' v h) : MT d m as h Q' := by
  obtain ⟨v, h', h1, h2⟩ := MT_one d _ _ _ _ hw
  exact h2 _ (hq _ _ h1)
theorem MT_go {d m : Nat} (hm : m < 1000) (as : List Value) (h : sH) (Q : sQ) (hl : (s_lay as).length ≤ mL m) : MT (d + 1) m as h Q ↔ WP d m 0 (s_entry m as) [] h (0, 0) Q := by
  show (if m < 1000 then _ else _) ↔ _
  rw [if_pos hm]
  exact ⟨fun h => h.2, fun h => ⟨hl, h⟩⟩
