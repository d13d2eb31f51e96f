
/-! rules of the pure run, an instruction each -/
def fG (h : sH) (a ci kf : Nat) (f : Value → Prop) : Prop := oO h a fun c fs => c = ci ∧ oo fs[kf]? f
def fS (h : sH) (a ci kf : Nat) (v : Value) (f : sH → Prop) : Prop := oO h a fun c fs => c = ci ∧ kf < fs.length ∧ narrow (cTy ci kf) v = v ∧ fits (cTy ci kf) v = true ∧ f (hs h a (.inr (c, fs.set kf v)))
def fSF (m : Nat) (h : sH) (a ci kf : Nat) (v : Value) (f : sH → Prop) : Prop := oO h a fun c fs => c = ci ∧ kf < fs.length ∧ narrow (cTy ci kf) v = v ∧ fits (cTy ci kf) v = true ∧ (mSt m = 2 ∧ ci = mC m) ∧ f (hs h a (.inr (c, fs.set kf v)))
def aG (h : sH) (a : Nat) (i : Int32) (f : Int32 → Prop) : Prop := oI h a fun t n g => (t = 0 ∨ (t = 6 ∧ a = 1000000)) ∧ vp_in i n ∧ f (g i.toNatClampNeg)
def zG (h : sH) (a : Nat) (i : Int32) (f : Int32 → Prop) : Prop := oI h a fun t n g => t = 1 ∧ vp_in i n ∧ f (g i.toNatClampNeg)
def sG' (h : sH) (a : Nat) (i : Int32) (f : UInt32 → Prop) : Prop := oF h a fun t n g => t = 2 ∧ vp_in i n ∧ f (g i.toNatClampNeg)
def lG (h : sH) (a : Nat) (i : Int32) (f : Int64 → Prop) : Prop := oL h a fun t n g => t = 3 ∧ vp_in i n ∧ f (g i.toNatClampNeg)
def rG (h : sH) (a : Nat) (i : Int32) (f : Nat → Prop) : Prop := oQ h a fun t n g => (t = 4 ∨ t = 5) ∧ vp_in i n ∧ oo (g i.toNatClampNeg) f
def aS (h : sH) (a : Nat) (i x : Int32) (f : sH → Prop) : Prop := oI h a fun t n g => t = 0 ∧ vp_in i n ∧ f (hs h a (.inl (t, n, .inl (upd g i.toNatClampNeg x))))
def zS (h : sH) (a : Nat) (i x : Int32) (f : sH → Prop) : Prop := oI h a fun t n g => t = 1 ∧ vp_in i n ∧ f (hs h a (.inl (t, n, .inl (upd g i.toNatClampNeg (vp_nar .boolean x)))))
def sS' (h : sH) (a : Nat) (i : Int32) (x : UInt32) (f : sH → Prop) : Prop := oF h a fun t n g => t = 2 ∧ vp_in i n ∧ f (hs h a (.inl (t, n, .inr (.inr (.inl (vf_upd g i.toNatClampNeg x))))))
def rS (h : sH) (a : Nat) (i : Int32) (x : Nat) (f : sH → Prop) : Prop := oQ h a fun t n g => ((t = 4 ∧ oO h x fun c _ => c = 1) ∨ (t = 5 ∧ oO h x fun c _ => c = 7)) ∧ vp_in i n ∧ f (hs h a (.inl (t, n, .inr (.inr (.inr (.inr (va_up g i.toNatClampNeg (some x))))))))
def aL (h : sH) (a : Nat) (f : Int32 → Prop) : Prop := oA h a fun t n => (t < 6 ∨ (t = 6 ∧ a = 1000000)) ∧ f (Int32.ofNat n)
section WR
variable {d m pc0 tgt n ci kf y : Nat} {L S : List Value} {h : sH} {k : sK} {Q : sQ}
theorem w_push {i : Instr} {len : Nat} {v : Value} (hd : decode (mB m) pc0 = .ok (i, len)) (hl : s_len i = 0 ∨ s_len i = len) (hw : ∀ (K : sM) (N : sN) (Q : sQ), wpI K m i len pc0 L S h k N Q ↔ N tgt L (v :: S) h k) : WP d m pc0 L S h k Q ↔ WP d m tgt L (v :: S) h k Q := (WP_ok hd hl L S h k Q).trans (hw _ _ _)
theorem w_any {i : Instr} {len : Nat} {P : Prop} (hd : decode (mB m) pc0 = .ok (i, len)) (hl : s_len i = 0 ∨ s_len i = len) (hw : wpI (MT d) m i len pc0 L S h k (fun pc L S h k => WP d m pc L S h k Q) Q ↔ P) : WP d m pc0 L S h k Q ↔ P := (WP_ok hd hl L S h k Q).trans hw
theorem oo_some {α : Type} {x : Option α} {a : α} {f : α → Prop} (h : x = some a) : oo x f ↔ f a := by rw [h]; exact Iff.rfl
theorem w_get {i : Nat} {a : Nat} {N : sN} {K : sM} {Q : sQ} (hp : pf (mC m) i = some (ci, kf)) : wpI K m (.getfield i) 3 pc0 L (.ref a :: S) h k N Q ↔ fG h a ci kf fun v => N (pc0 + 3) L (v :: S) h k := oo_some hp
theorem w_put {i : Nat} {a : Nat} {v : Value} {N : sN} {K : sM} {Q : sQ} (hp : pf (mC m) i = some (ci, kf)) (hf : (cT ci kf).2.2.2 = false) : wpI K m (.putfield i) 3 pc0 L (v :: .ref a :: S) h k N Q ↔ fS h a ci kf v fun h' => N (pc0 + 3) L S h' k := by
  refine (oo_some hp).trans ?_
  show (oO _ _ _) ↔ (oO _ _ _)
  unfold oO
  split
  · constructor
    · rintro ⟨h1, h2, h3, h4, h5, h6⟩; exact ⟨h1, h2, h3, h4, h6⟩
    · rintro ⟨h1, h2, h3, h4, h6⟩; exact ⟨h1, h2, h3, h4, (fun z => by rw [hf] at z; cases z), h6⟩
  · exact Iff.rfl
theorem w_putF {i : Nat} {a : Nat} {v : Value} {N : sN} {K : sM} {Q : sQ} (hp : pf (mC m) i = some (ci, kf)) (hf : (cT ci kf).2.2.2 = true) : wpI K m (.putfield i) 3 pc0 L (v :: .ref a :: S) h k N Q ↔ fSF m h a ci kf v fun h' => N (pc0 + 3) L S h' k := by
  refine (oo_some hp).trans ?_
  show (oO _ _ _) ↔ (oO _ _ _)
  unfold oO
  split
  · constructor
    · rintro ⟨h1, h2, h3, h4, h5, h6⟩; exact ⟨h1, h2, h3, h4, h5 hf, h6⟩
    · rintro ⟨h1, h2, h3, h4, h5, h6⟩; exact ⟨h1, h2, h3, h4, fun _ => h5, h6⟩
  · exact Iff.rfl
theorem w_jok {off : Int} (ht : (pc0 : Int) + off = (tgt : Int)) : s_jok pc0 off ∧ s_jmp pc0 off = tgt := by
  have e : s_jmp pc0 off = tgt := by unfold s_jmp; rw [ht]; exact Int.toNat_natCast tgt
  exact ⟨by unfold s_jok; rw [e]; exact ht, e⟩
theorem w_goto {off : Int} {N : sN} {K : sM} {Q : sQ} (ht : (pc0 : Int) + off = (tgt : Int)) : wpI K m (.goto off) 3 pc0 L S h k N Q ↔ N tgt L S h k := by
  obtain ⟨h1, h2⟩ := w_jok ht
  show (_ ∧ _) ↔ _
  rw [h2]
  exact ⟨fun z => z.2, fun z => ⟨h1, z⟩⟩
theorem w_if {off : Int} {o : ClassFile.Cond} {x : Int32} {N : sN} {K : sM} {Q : sQ} (ht : (pc0 : Int) + off = (tgt : Int)) : wpI K m (.ifCond o off) 3 pc0 L (.int x :: S) h k N Q ↔ s_cmp o x 0 (N tgt L S h k) (N (pc0 + 3) L S h k) := by
  obtain ⟨h1, h2⟩ := w_jok ht
  show (_ ∧ _) ↔ _
  rw [h2]
  exact ⟨fun z => z.2, fun z => ⟨h1, z⟩⟩
theorem w_icmp {off : Int} {o : ClassFile.Cond} {x y : Int32} {N : sN} {K : sM} {Q : sQ} (ht : (pc0 : Int) + off = (tgt : Int)) : wpI K m (.if_icmp o off) 3 pc0 L (.int y :: .int x :: S) h k N Q ↔ s_cmp o x y (N tgt L S h k) (N (pc0 + 3) L S h k) := by
  obtain ⟨h1, h2⟩ := w_jok ht
  show (_ ∧ _) ↔ _
  rw [h2]
  exact ⟨fun z => z.2, fun z => ⟨h1, z⟩⟩
theorem w_table {dd lo hi : Int} {offs : Array Int} {len : Nat} {x : Int32} {N : sN} {K : sM} {Q : sQ} {n l0 : Nat} (hlo : lo = (l0 : Int)) (hhi : hi = (l0 : Int) + n - 1) (hsz : offs.size = n) (hd : s_jok pc0 dd) (ho : ∀ j, j < n → s_jok pc0 (offs.getD j 0)) : wpI K m (.tableswitch dd lo hi offs) len pc0 L (.int x :: S) h k N Q ↔ (if x.toInt < l0 ∨ (l0 : Int) + n - 1 < x.toInt then N (s_jmp pc0 dd) L S h k else N (s_jmp pc0 (offs.getD (x.toInt - l0).toNat 0)) L S h k) := by
  subst hlo; subst hhi
  show (if _ then _ else _) ↔ _
  by_cases hc : x.toInt < l0 ∨ (l0 : Int) + n - 1 < x.toInt
  · rw [if_pos hc, if_pos hc]
    exact ⟨fun z => z.2, fun z => ⟨hd, z⟩⟩
  · rw [if_neg hc, if_neg hc]
    have hj : (x.toInt - l0).toNat < n := by omega
    have e2 : offs[(x.toInt - l0).toNat]? = some (offs.getD (x.toInt - l0).toNat 0) := by
      rw [Array.getD_eq_getD_getElem?, Array.getElem?_eq_getElem (by omega)]
      rfl
    refine (oo_some e2).trans ⟨fun z => z.2, fun z => ⟨ho _ hj, z⟩⟩
theorem w_callEq {K : sM} {N : sN} {as rest : List Value} (hz : mMc y = 0) (hz2 : mMs y = 0) : s_call K m pc0 L h k N y as rest ↔ (s_cat rest ≤ 8 ∧ k.1 ≤ mMc m ∧ k.2 ≤ mMs m ∧ K y as h fun r h' => N (pc0 + 3) L (r.toList ++ rest) h' k) := by
  unfold s_call
  rw [hz, hz2]
  exact Iff.rfl
theorem w_callV {K : sM} {N : sN} {Q : sQ} {i b : Nat} {as rest : List Value} (hp : pm (mC m) i = some y) (hy : y < 1000) (hst : mSt y = 1) (hc : mC y = ci) (hn : mNa y = n) (h1 : S.drop n = .ref b :: rest) (h2 : (S.take n).length = n) (h3 : s_args n S = as) (hz : mMc y = 0) (hz2 : mMs y = 0) :
    wpI K m (.invokevirtual i) 3 pc0 L S h k N Q ↔ ((oO h b fun c _ => c = ci) ∧ s_cat rest ≤ 8 ∧ k.1 ≤ mMc m ∧ k.2 ≤ mMs m ∧ K y (.ref b :: as) h fun r h' => N (pc0 + 3) L (r.toList ++ rest) h' k) := by
  subst hc; subst hn; subst h3
  refine (oo_some hp).trans ?_
  rw [h1]
  show (_ ∧ _ ∧ s_call _ _ _ _ _ _ _ _ _ _) ↔ _
  rw [w_callEq hz hz2]
  exact ⟨fun z => ⟨(z.2.1 hy).2, z.2.2⟩, fun z => ⟨h2, fun _ => ⟨hst, z.1⟩, z.2⟩⟩
theorem w_callS {K : sM} {N : sN} {Q : sQ} {i : Nat} {as rest : List Value} (hq : pn (mC m) i = none) (hp : pm (mC m) i = some y) (hst : mSt y = 0) (hn : mNa y = n) (h1 : S.drop n = rest) (h2 : (S.take n).length = n) (h3 : s_args n S = as) (hz : mMc y = 0) (hz2 : mMs y = 0) :
    wpI K m (.invokestatic i) 3 pc0 L S h k N Q ↔ (s_cat rest ≤ 8 ∧ k.1 ≤ mMc m ∧ k.2 ≤ mMs m ∧ K y as h fun r h' => N (pc0 + 3) L (r.toList ++ rest) h' k) := by
  subst hn; subst h3; subst h1
  simp only [wpI]
  rw [hq]
  refine (oo_some hp).trans ?_
  show (_ ∧ _ ∧ s_call _ _ _ _ _ _ _ _ _ _) ↔ _
  rw [w_callEq hz hz2]
  exact ⟨fun z => z.2.2, fun z => ⟨h2, fun _ => hst, z⟩⟩
theorem w_callI {K : sM} {N : sN} {Q : sQ} {i b : Nat} {rest : List Value} (hq : pn (mC m) i = none) (hp : pm (mC m) i = some y) (hy : y < 1000) (hst : mSt y = 2) (hn : mNa y = 0) (h1 : S = .ref b :: rest) :
    wpI K m (.invokespecial i) 3 pc0 L S h k N Q ↔ (s_cat rest ≤ 8 ∧ k.1 + mMc y ≤ mMc m ∧ k.2 + mMs y ≤ mMs m ∧ K y [.ref b] h fun r h' => N (pc0 + 3) L (r.toList ++ rest) h' (k.1 + mMc y, k.2 + mMs y)) := by
  subst h1
  simp only [wpI]
  rw [hq]
  refine (oo_some hp).trans ?_
  rw [hn]
  show (_ ∧ _ ∧ _ ∧ s_call _ _ _ _ _ _ _ _ _ _) ↔ _
  exact ⟨fun z => z.2.2.2, fun z => ⟨rfl, hy, hst, z⟩⟩
theorem w_callVX {K : sM} {N : sN} {Q : sQ} {i b : Nat} {as rest : List Value} (hp : pm (mC m) i = some y) (hy : 1000 ≤ y) (hn : mNa y = n) (h1 : S.drop n = .ref b :: rest) (h2 : (S.take n).length = n) (h3 : s_args n S = as) (hz : mMc y = 0) (hz2 : mMs y = 0) :
    wpI K m (.invokevirtual i) 3 pc0 L S h k N Q ↔ (s_cat rest ≤ 8 ∧ k.1 ≤ mMc m ∧ k.2 ≤ mMs m ∧ K y (.ref b :: as) h fun r h' => N (pc0 + 3) L (r.toList ++ rest) h' k) := by
  subst hn; subst h3
  refine (oo_some hp).trans ?_
  rw [h1]
  show (_ ∧ _ ∧ s_call _ _ _ _ _ _ _ _ _ _) ↔ _
  rw [w_callEq hz hz2]
  exact ⟨fun z => z.2.2, fun z => ⟨h2, fun q => absurd q (by omega), z⟩⟩
theorem w_callSX {K : sM} {N : sN} {Q : sQ} {i : Nat} {as rest : List Value} (hq : pn (mC m) i = none) (hp : pm (mC m) i = some y) (hy : 1000 ≤ y) (hn : mNa y = n) (h1 : S.drop n = rest) (h2 : (S.take n).length = n) (h3 : s_args n S = as) (hz : mMc y = 0) (hz2 : mMs y = 0) :
    wpI K m (.invokestatic i) 3 pc0 L S h k N Q ↔ (s_cat rest ≤ 8 ∧ k.1 ≤ mMc m ∧ k.2 ≤ mMs m ∧ K y as h fun r h' => N (pc0 + 3) L (r.toList ++ rest) h' k) := by
  subst hn; subst h3; subst h1
  simp only [wpI]
  rw [hq]
  refine (oo_some hp).trans ?_
  show (_ ∧ _ ∧ s_call _ _ _ _ _ _ _ _ _ _) ↔ _
  rw [w_callEq hz hz2]
  exact ⟨fun z => z.2.2, fun z => ⟨h2, fun q => absurd q (by omega), z⟩⟩
def s_sw (f : Nat → Prop) (x : Int32) : List Nat → Nat → Nat → Prop
  | [], _, df => f df
  | t :: ts, j, df => if x = Int32.ofNat j then f t else s_sw f x ts (j + 1) df
theorem s_sw_spec {f : Nat → Prop} {x : Int32} {df : Nat} : ∀ (ts : List Nat) (j : Nat), j + ts.length < 2 ^ 31 → (s_sw f x ts j df ↔ if (j : Int) ≤ x.toInt ∧ x.toInt < (j : Int) + ts.length then f (ts.getD (x.toInt.toNat - j) 0) else f df)
  | [], j, h => by
    rw [if_neg (by simp only [List.length_nil]; omega)]
    exact Iff.rfl
  | t :: ts, j, h => by
    have hj : (Int32.ofNat j).toInt = (j : Int) := nI_toInt (n := j) (by simp only [List.length_cons] at h; omega)
    have ih := s_sw_spec (f := f) (x := x) (df := df) ts (j + 1) (by simp only [List.length_cons] at h; omega)
    unfold s_sw
    by_cases hx : x = Int32.ofNat j
    · have e : x.toInt = (j : Int) := by rw [hx]; exact hj
      rw [if_pos hx, if_pos (by simp only [List.length_cons]; omega), e]
      simp
    · have e : x.toInt ≠ (j : Int) := fun z => hx (Int32.toInt_inj.mp (z.trans hj.symm))
      rw [if_neg hx, ih]
      by_cases hc : ((j + 1 : Nat) : Int) ≤ x.toInt ∧ x.toInt < ((j + 1 : Nat) : Int) + ts.length
      · rw [if_pos hc, if_pos (by simp only [List.length_cons]; omega)]
        have e2 : x.toInt.toNat - j = (x.toInt.toNat - (j + 1)) + 1 := by omega
        rw [e2, List.getD_cons_succ]
      · rw [if_neg hc, if_neg (by simp only [List.length_cons]; omega)]
theorem w_tableN {dd lo hi : Int} {offs : Array Int} {len df l0 : Nat} {x : Int32} {N : sN} {K : sM} {Q : sQ} {ts : List Nat} (hn : l0 + ts.length < 1000) (hlo : lo = (l0 : Int)) (hhi : hi = (l0 : Int) + ts.length - 1) (hsz : offs.size = ts.length) (hd : (pc0 : Int) + dd = (df : Int)) (ho : ∀ j, j < ts.length → (pc0 : Int) + offs.getD j 0 = (ts.getD j 0 : Int)) : wpI K m (.tableswitch dd lo hi offs) len pc0 L (.int x :: S) h k N Q ↔ s_sw (fun t => N t L S h k) x ts l0 df := by
  obtain ⟨d1, d2⟩ := w_jok hd
  refine (w_table hlo hhi hsz d1 (fun j hj => (w_jok (ho j hj)).1)).trans ?_
  rw [s_sw_spec ts l0 (by omega), d2]
  by_cases hc : x.toInt < l0 ∨ (l0 : Int) + ts.length - 1 < x.toInt
  · rw [if_pos hc, if_neg (by omega)]
  · rw [if_neg hc, if_pos (by omega)]
    have e : (x.toInt - l0).toNat = x.toInt.toNat - l0 := by omega
    rw [e, (w_jok (ho (x.toInt.toNat - l0) (by omega))).2]
theorem w_new {i : Nat} {N : sN} {K : sM} {Q : sQ} (hp : pc (mC m) i = some ci) : wpI K m (.new i) 3 pc0 L S h k N Q ↔ (h.1 = true ∧ h.2.1 < 999999 ∧ k.1 + 1 ≤ mMc m ∧ k.2 + cN ci ≤ mMs m ∧ N (pc0 + 3) L (.ref h.2.1 :: S) (hn h (.inr (ci, s_def ci))) (k.1 + 1, k.2 + cN ci)) := oo_some hp
theorem w_anew {i : Nat} {x : Int32} {N : sN} {K : sM} {Q : sQ} (hp : pc (mC m) i = some ci) (hc : ci = 1 ∨ ci = 7) : wpI K m (.anewarray i) 3 pc0 L (.int x :: S) h k N Q ↔ s_arr m k x h (if ci = 1 then 4 else 5) (x.toNatClampNeg, .inr (.inr (.inr (.inr fun _ => none)))) fun h' k' => N (pc0 + 3) L (.ref h.2.1 :: S) h' k' := (oo_some hp).trans ⟨fun z => z.2, fun z => ⟨hc, z⟩⟩
theorem w_ldc {i : Nat} {v : Value} {N : sN} {K : sM} {Q : sQ} (hp : pk (mC m) i = some v) (hc : v.category = 1) : wpI K m (.ldc i) 2 pc0 L S h k N Q ↔ N (pc0 + 2) L (v :: S) h k := (oo_some hp).trans ⟨fun z => z.2, fun z => ⟨hc, z⟩⟩
theorem w_ldcw {i : Nat} {v : Int32} {N : sN} {K : sM} {Q : sQ} (hp : pk (mC m) i = some (.int v)) : wpI K m (.ldc_w i) 3 pc0 L S h k N Q ↔ N (pc0 + 3) L (.int v :: S) h k := (oo_some hp).trans ⟨fun z => z.2, fun z => ⟨Or.inl ⟨_, rfl⟩, z⟩⟩
theorem w_ldcwF {i : Nat} {v : UInt32} {N : sN} {K : sM} {Q : sQ} (hp : pk (mC m) i = some (.float v)) : wpI K m (.ldc_w i) 3 pc0 L S h k N Q ↔ N (pc0 + 3) L (.float v :: S) h k := (oo_some hp).trans ⟨fun z => z.2, fun z => ⟨Or.inr ⟨_, rfl⟩, z⟩⟩
theorem w_ldc2 {i : Nat} {v : Value} {N : sN} {K : sM} {Q : sQ} (hp : pk (mC m) i = some v) (hc : v.category = 2) : wpI K m (.ldc2_w i) 3 pc0 L S h k N Q ↔ N (pc0 + 3) L (v :: S) h k := (oo_some hp).trans ⟨fun z => z.2, fun z => ⟨hc, z⟩⟩
theorem w_iret {ty : FieldType} {x : Int32} {N : sN} {K : sM} {Q : sQ} (hr : mR m = some ty) : wpI K m .ireturn 1 pc0 L [.int x] h k N Q ↔ (narrow ty (.int x) = .int x ∧ Q (some (.int x)) h) := by
  refine Iff.trans ?_ (oo_some (f := fun ty => narrow ty (.int x) = .int x ∧ Q (some (.int x)) h) hr)
  exact ⟨fun z => z.2, fun z => ⟨rfl, z⟩⟩
theorem w_iretI {x : Int32} {N : sN} {K : sM} {Q : sQ} (hr : mR m = some .int) : wpI K m .ireturn 1 pc0 L [.int x] h k N Q ↔ Q (some (.int x)) h := (w_iret hr).trans ⟨fun z => z.2, fun z => ⟨rfl, z⟩⟩
theorem w_aret {a : Nat} {cn : String} {N : sN} {K : sM} {Q : sQ} (hr : mR m = some (.object cn)) : wpI K m .areturn 1 pc0 L [.ref a] h k N Q ↔ Q (some (.ref a)) h := by
  constructor
  · exact fun z => z.2.2
  · exact fun z => ⟨rfl, (oo_some hr).mpr ⟨_, rfl⟩, z⟩
def cS0 (y : Nat) (k : sK) (m : Nat) (rest : List Value) : Prop := s_cat rest ≤ 8 ∧ k.1 + mMc y ≤ mMc m ∧ k.2 + mMs y ≤ mMs m
end WR
