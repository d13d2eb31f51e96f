/-! a method's whole run -/
theorem lg_sl_len : ∀ vs : List Value, (lg_sl vs).length = (s_lay vs).length
  | [] => rfl
  | v :: vs => by
    have h := lg_sl_len vs
    have h2 : lg_sl (v :: vs) = (if v.category = 2 then [Slot.val v, Slot.second] else [Slot.val v]) ++ lg_sl vs := rfl
    have h3 : s_lay (v :: vs) = if v.category = 2 then v :: s_no :: s_lay vs else v :: s_lay vs := rfl
    rw [h2, h3, List.length_append, h]
    by_cases hc : v.category = 2
    · rw [if_pos hc, if_pos hc]; simp; omega
    · rw [if_neg hc, if_neg hc]; simp; omega
theorem s_lay_map (G : sG) : ∀ vs : List Value, (s_lay (vs.map (s_tr G))).length = (s_lay vs).length
  | [] => rfl
  | v :: vs => by
    have h := s_lay_map G vs
    rw [List.map_cons]
    unfold s_lay
    rw [s_tr_cat]
    by_cases hc : v.category = 2
    · rw [if_pos hc, if_pos hc]; simp [h]
    · rw [if_neg hc, if_neg hc]; simp [h]
theorem s_lay_args {G : sG} : ∀ (vs : List Value) (i n : Nat) (q : Nat × Value), q ∈ s_lvF G i (s_lay vs ++ List.replicate n s_no) → q ∈ lv_args i (vs.map (s_tr G))
  | [], i, n, q, h => by
    obtain ⟨j, w⟩ := q
    obtain ⟨t, v, h1, h2, h3, h4⟩ := s_lvF_mem.mp h
    have h2 : (List.replicate n s_no)[t]? = some v := h2
    rw [List.getElem?_replicate] at h2
    split at h2
    · exact absurd (Option.some.inj h2).symm h3
    · cases h2
  | v :: vs, i, n, q, h => by
    unfold s_lay at h
    rw [List.map_cons]
    unfold lv_args
    rw [s_tr_cat]
    by_cases hc : v.category = 2
    · rw [if_pos hc] at h
      rw [hc]
      simp only [List.cons_append, s_lvF] at h
      split at h
      · have e : i + 1 + 1 = i + 2 := rfl
        rw [if_pos trivial, e] at h
        exact List.mem_cons_of_mem _ (by rw [if_pos rfl]; exact s_lay_args vs (i + 2) n q h)
      · rcases List.mem_cons.mp h with h | h
        · rw [h]; exact List.mem_cons_self
        · rw [if_pos trivial] at h
          exact List.mem_cons_of_mem _ (by rw [if_pos rfl]; exact s_lay_args vs (i + 2) n q h)
    · rw [if_neg hc] at h
      have h1 : v.category = 1 := (lv_cat v).resolve_right hc
      rw [h1]
      simp only [List.cons_append, s_lvF] at h
      split at h
      · exact List.mem_cons_of_mem _ (by rw [if_neg (by decide)]; exact s_lay_args vs (i + 1) n q h)
      · rcases List.mem_cons.mp h with h | h
        · rw [h]; exact List.mem_cons_self
        · exact List.mem_cons_of_mem _ (by rw [if_neg (by decide)]; exact s_lay_args vs (i + 1) n q h)
section RUN
variable {p : Program} {l : Launch} {e : Env} {R : Room} {s : State} {mm : MethodId} {args : Array Value} {below : List Frame} {meth : Method} {c : Code} {Qm : State → Prop}
variable {G : sG} {X0 : sC} {d m : Nat}
/-- a frame's run: from the pure one to the machine's -/
theorem s_run {K : sM} {Q : sQ} (C0 : s_CX G X0 d m p R s mm args meth c) (hm14 : mC m < 14) (hKO : s_KOK l G X0 d K) (hEO : s_Ext1 l G X0 d K p e R s mm args below meth c Qm m)
    (hRet : ∀ i len pc0 L S h k ls H locs (N : sN), s_isRet i = true → decode (mB m) pc0 = .ok (i, len) → len = 1 → wpI K m i len pc0 L S h k N Q → s_SR G X0 m s L h k ls H locs → W p l e R s mm args below meth c H locs k.1 k.2 Qm (F0 mm pc0 ls (S.map (s_tr G)))) :
    ∀ n pc L S h k ls H locs, wpn K m n pc L S h k Q → s_SR G X0 m s L h k ls H locs → W p l e R s mm args below meth c H locs k.1 k.2 Qm (F0 mm pc ls (S.map (s_tr G))) := by
  intro n
  induction n with
  | zero => intro pc L S h k ls H locs hw; exact hw.elim
  | succ n ih =>
    intro pc L S h k ls H locs hw r
    unfold wpn at hw
    split at hw
    · next i len hd =>
      refine s_step C0 hm14 hKO hEO (fun pc L S h k ls H locs hw r => ih pc L S h k ls H locs hw r) (fun hi hw => ?_) hd hw.1 hw.2 r
      refine hRet i len pc L S h k ls H locs _ hi hd ?_ hw r
      rename_i hw'
      rcases hw'.1 with h1 | h1 <;> cases i <;> first | (simp [s_isRet] at hi; done) | (simp [s_len] at h1; done) | exact h1.symm
    · exact hw.elim
/-- a method of ours ends -/
theorem s_retOK {Q : sQ} {K : sM} (C0 : s_CX G X0 d m p R s mm args meth c) : ∀ i len pc0 L S h k ls H locs (N : sN), s_isRet i = true → decode (mB m) pc0 = .ok (i, len) → len = 1 → wpI K m i len pc0 L S h k N Q → s_SR G X0 m s L h k ls H locs → W p l e R s mm args below meth c H locs k.1 k.2 (MQ below (s_Qc G X0 Q) args s (mMc m) (mMs m) (s_A G)) (F0 mm pc0 ls (S.map (s_tr G))) := by
  intro i len pc0 L S h k ls H locs N hi hd hl hw r
  subst hl
  obtain ⟨hx, hb, hr, hml, hown, hts, hlocks, hini, hK, hStr, hX, hA, hR1, hR2, hR3, hR4⟩ := C0
  obtain ⟨r1, r2, r3, r4, r5, r6⟩ := r
  refine W.widen r5 r6 ?_
  have fin : ∀ (v : Option Value), Q v h → ∀ t : State, t.heap = H → s.WarmedH t.vm → s_Qc G X0 Q args s (.returned (Option.map (s_tr G) v)) t := fun v hq t ht _ => ⟨⟨v, h, rfl, hq, by rw [ht]; exact r2, r3⟩, r4.F ht⟩
  cases i
  case ireturn =>
    simp only [wpI] at hw
    obtain ⟨x, T, rfl, rfl, h1⟩ := pI_of hw
    obtain ⟨ty, h2, h3, h4⟩ := oo_of h1
    exact W.zret hx hb (hr.trans h2) h3 (fin (some (.int x)) h4) r4.2.2 hd hlocks
  case lreturn =>
    simp only [wpI] at hw
    obtain ⟨x, T, rfl, rfl, h2, h4⟩ := pL_of hw
    exact W.lret hx hb (hr.trans h2) (fin (some (.long x)) h4) r4.2.2 hd hlocks
  case freturn =>
    simp only [wpI] at hw
    obtain ⟨x, T, rfl, rfl, h2, h4⟩ := pF_of hw
    exact W.fret hx hb (hr.trans h2) (fin (some (.float x)) h4) r4.2.2 hd hlocks
  case areturn =>
    simp only [wpI] at hw
    obtain ⟨x, T, rfl, rfl, h2, h4⟩ := pR_of hw
    obtain ⟨ty, h5, h6⟩ := oo_of h2
    exact W.aret hx hb (hr.trans h5) (Or.inl h6) (Or.inr ⟨_, rfl⟩) (fin (some (.ref x)) h4) r4.2.2 hd hlocks
  case return_ =>
    simp only [wpI] at hw
    obtain ⟨rfl, h2, h4⟩ := hw
    exact W.vret hx hb (hr.trans h2) (fin none h4) r4.2.2 hd hlocks
  all_goals cases hi
end RUN
theorem s_ofW {l : Launch} {y : MethodName} {ws ws' : List Jvm.Cond} {rm : Room} {Pc : Array Value → State → Prop} {Qc : Array Value → State → Outcome → State → Prop} {mc ms : Nat} {free : Addr → Prop} {cc : ByteArray} {maxL : Nat} {ret : Option FieldType}
    (hy : plainFor y = true) (hw : ws = Jvm.Cond.code y cc maxL ret :: ws')
    (body : ∀ p e s m args below meth c s₁, BodyLoose p l y (headSpec ws rm) cc maxL ret e s m args below meth c s₁ → c.maxLocals = maxL → Pc args s →
      W p l e (headSpec ws rm).room s m args below meth c s.heap [] 0 0 (MQ below Qc args s mc ms free) (entryFrame m args maxL)) : Met l y ws rm Pc Qc mc ms free := by
  refine MetFree.of_bodySF (code := cc) (maxLocals := maxL) (ret := ret) hy ?_ ?_
  · intro args s m h hn
    obtain ⟨meth, c, h1, h2, h3, h4, h5, h6, -, -⟩ := Cond.code_spec hn (atoms_spec (ws := ws) h _ (by rw [hw]; exact List.mem_cons_self))
    exact ⟨meth, c, h1, h2, h3, h4, h5, h6⟩
  · intro p e s m args below meth c s₁ B hml hP _
    have hh0 : s₁.heap = s.heap := by rw [B.state]; rfl
    obtain ⟨t, a1, o, b1, b2, b3⟩ := body p e s m args below meth c s₁ B hml hP s₁ hh0 (Stand.of_body B)
    exact ⟨t, o, a1, b1, b2, ⟨b3.1, b3.2⟩⟩
/-- crane(c, w) throws -/
def crX (h : sH) (c w : Int32) : Prop := oO h 0 fun k fs => k = 8 ∧ oo fs[2]? fun v => ∃ a, v = .ref a ∧ oO h a fun k2 gs => k2 = 7 ∧ oo gs[2]? fun u => ∃ N, u = .int N ∧ (¬ (0 ≤ c ∧ c < N) ∨ w < 0 ∨ 5 < w)
def upL (f : Nat → Int64) (k : Nat) (x : Int64) : Nat → Int64 := fun q => if q = k then x else f q
/-- the library's methods that are called as such -/
def s_ext (K : sM) (m : Nat) (as : List Value) (h : sH) (Q : sQ) : Prop := match m with
  | 1000 => ∃ j, j < 9 ∧ as = [.ref (1000001 + j)] ∧ Q (some (.int (nI (s_txt.getD j []).length))) h
  | 1001 => ∃ j i, j < 9 ∧ as = [.ref (1000001 + j), .int i] ∧ vp_in i (s_txt.getD j []).length ∧ Q (some (.int ((s_txt.getD j []).getD i.toNatClampNeg 0))) h
  | 1002 => ∃ a b, as = [.float a, .float b] ∧ a.toNat < 2139095040 ∧ b.toNat < 2139095040 ∧ Q (some (.float (if b.toNat ≤ a.toNat then a else b))) h
  | 1003 => ∃ c w, as = [.ref 0, .int c, .int w, .ref 334] ∧ ((¬ crX h c w ∧ K 99 [.ref 0, .int c, .int w] h fun v h' => ∃ x, v = some (.int x) ∧ oL h' 334 fun t n g => t = 3 ∧ vp_in 0 n ∧ Q (some (.int 0)) (hs h' 334 (.inl (t, n, .inr (.inl (upL g 0 x.toInt64)))))) ∨ (crX h c w ∧ Q (some (.int 1)) (false, h.2)))
  | _ => False
def MT : Nat → sM
  | 0 => fun _ _ _ _ => False
  | d + 1 => fun m as h Q => if m < 1000 then (s_lay as).length ≤ mL m ∧ ∃ n, wpn (MT d) m n 0 (s_entry m as) [] h (0, 0) Q else s_ext (MT d) m as h Q
theorem k_not10 : ∀ m, m < 275 → mC m ≠ 10 := by decide +kernel
/-- THE BRIDGE: what the pure run says of a method, the machine does -/
theorem s_met (l : Launch) (G : sG) (X0 : sC) (hE : ∀ d, s_ExtOK l G X0 d (MT d)) : ∀ d, s_KOK l G X0 d (MT d) := by
  intro d
  induction d with
  | zero => intro y as h Q hy hM; exact hM.elim
  | succ d ih =>
    intro y as h Q hy hM
    unfold MT at hM
    rw [if_pos (by omega)] at hM
    obtain ⟨hlen, n, hw⟩ := hM
    refine s_ofW (cc := mB y) (maxL := mL y) (ret := mR y) (k_plain y hy) rfl ?_
    intro p e s m args below meth c s₁ B hml hv
    obtain ⟨rfl, hHR, hx, hK, hStr, hX, hA⟩ := hv
    obtain ⟨e1, e2⟩ := k_meth1 y hy
    have hts0 := atoms_spec (ws := s_wsM y) B.pre
    have hown := findClass_of_methodNamed B.named
    rw [e1] at hown
    have C0 : s_CX G X0 d y p (headSpec (s_wsM y) (s_rm (d + 1) y)).room s m (as.map (s_tr G)).toArray meth c := by
      refine ⟨B.exec, B.bytes, B.returns, hml, hown, fun w hw => hts0 w (List.mem_cons_of_mem _ hw), B.notSynchronized, fun h2 => ?_, hK, hStr, hX, hA, Nat.le_refl _, Nat.le_refl _, Nat.le_refl _, Nat.le_refl _⟩
      rw [(name_of_methodNamed B.named B.method).1]
      exact ((k_meth3 y hy).2.2 h2).1
    have hl := lv_entry (as.map (s_tr G)) (n := mL y) (by rw [lg_sl_len]; have : (s_lay (as.map (s_tr G))).length = (s_lay as).length := (s_lay_map G as); omega)
    rw [lg_entry_eq]
    generalize (lg_sl (as.map (s_tr G)) ++ List.replicate (mL y - (lg_sl (as.map (s_tr G))).length) Slot.unset).toArray = ls at hl ⊢
    have hl : lv_has ls (mL y) (s_lv G (s_entry y as)) := hl.weak fun q hq => s_lay_args as 0 _ q hq
    exact s_run C0 e2 ih (hE d _ _ _ _ _ _ _ _ _ _ _ C0 e2 (k_not10 y hy)) (s_retOK C0) n 0 (s_entry y as) [] h (0, 0) ls s.heap [] hw ⟨hl, hHR, hx, va_S.rf, Nat.zero_le _, Nat.zero_le _⟩
