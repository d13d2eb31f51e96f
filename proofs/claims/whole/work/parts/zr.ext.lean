/-! the calls of the JDK's own methods, in the frames of the classes and of the reference -/
theorem k_pm1 : ∀ c, c < 14 → ∀ j, j < (pmT.getD c []).length → (k_at pmT c j).map (fun e => decide (e.2 < 1000) || decide ((c, e.1, e.2) ∈ [(6, 45, 1000), (6, 50, 1001), (9, 110, 1000), (9, 116, 1001), (9, 460, 1002), (10, 61, 1003)])) = some true := by decide +kernel
theorem pm_ext {c i y : Nat} (hc : c < 14) (hy : 1000 ≤ y) (h : pm c i = some y) : (c, i, y) ∈ [(6, 45, 1000), (6, 50, 1001), (9, 110, 1000), (9, 116, 1001), (9, 460, 1002), (10, 61, 1003)] := by
  obtain ⟨j, e, h1, h2, h3, h4⟩ := k_find h
  have hk := k_pm1 c hc j h1
  rw [h2, Option.map_some] at hk
  have hk := Option.some.inj hk
  obtain ⟨e1, e2⟩ := e
  have h4 : e2 = y := h4
  subst h4
  have h3 : e1 = i := by simpa using h3
  subst h3
  simp only [Bool.or_eq_true, decide_eq_true_eq] at hk
  exact hk.resolve_left (by omega)
theorem k_txl : ∀ j, j < 9 → (s_txt.map List.length).getD j 0 = (s_txt.getD j []).length ∧ (s_txt.getD j []).length < 6 := by decide +kernel
theorem k_txc : ∀ j, j < 9 → ∀ q, q < (s_txt.getD j []).length → (((s_txt.getD j []).getD q 0 &&& 255).toUInt32 % 65536).toInt32 = (s_txt.getD j []).getD q 0 ∧ narrow .char (.int ((s_txt.getD j []).getD q 0)) = .int ((s_txt.getD j []).getD q 0) := by decide +kernel
theorem k_shr : ∀ n, n < 6 → Int32.ofNat n >>> ((0 : Int32) &&& 31) = Int32.ofNat n := by decide +kernel
theorem mc_1000 : mMc 1000 = 0 := by decide +kernel
theorem mc_1001 : mMc 1001 = 0 := by decide +kernel
theorem mc_1002 : mMc 1002 = 0 := by decide +kernel
theorem ms_1000 : mMs 1000 = 0 := by decide +kernel
theorem ms_1001 : mMs 1001 = 0 := by decide +kernel
theorem ms_1002 : mMs 1002 = 0 := by decide +kernel
section EXT
variable {p : Program} {l : Launch} {e : Env} {R : Room} {s : State} {mm : MethodId} {args : Array Value} {below : List Frame} {meth : Method} {c : Code} {Qm : State → Prop}
variable {G : sG} {X0 : sC} {d m : Nat}
theorem x_ad {j : Nat} : s_ad G (1000001 + j) = G.2.2.2.2 j := by
  unfold s_ad
  rw [if_neg (by omega), if_neg (by omega), Nat.add_sub_cancel_left]
theorem x_St {j : Nat} (hj : j < 9) (hStr : s_Str G s s.heap) : ∃ t, j_St (s_A G) (G.2.2.2.2 j) t (s_txt.getD j []).length (fun q => .int ((s_txt.getD j []).getD q 0)) s s.heap := by
  obtain ⟨⟨adV, hV⟩, -, hSt⟩ := hStr
  obtain ⟨v1, v2, v3, v4⟩ := hV.1 j hj
  rw [(k_txl j hj).1] at v4
  exact ⟨adV j, hSt.1, hSt.2.2.1, v1, v2, v3, v4⟩
theorem xj_len {N : sN} {i pc0 : Nat} {ins : Instr} {L S : List Value} {h : sH} {k : sK} {ls : Array Slot} {H : Heap} {locs : List Loc} {as rest : List Value}
    (C0 : s_CX G X0 d m p R s mm args meth c) (hlk : Jvm.Cond.methodLink (cR (mC m)) i yJ0_length_8abf5 ∈ s_gt)
    (hins : (ins = .invokevirtual i ∧ ∃ b, S.drop (mNa 1000) = .ref b :: rest ∧ as = .ref b :: s_args (mNa 1000) S) ∨ (ins = .invokestatic i ∧ rest = S.drop (mNa 1000) ∧ as = s_args (mNa 1000) S)) (hdec : decode (mB m) pc0 = .ok (ins, 3))
    (hN : ∀ pc L S h k ls H locs, N pc L S h k → s_SR G X0 m s L h k ls H locs → W p l e R s mm args below meth c H locs k.1 k.2 Qm (F0 mm pc ls (S.map (s_tr G))))
    (r : s_SR G X0 m s L h k ls H locs) (hc : s_call (MT d) m pc0 L h k N 1000 as rest) : W p l e R s mm args below meth c H locs k.1 k.2 Qm (F0 mm pc0 ls (S.map (s_tr G))) := by
  obtain ⟨c1, c2, c3, hM⟩ := hc
  cases d with
  | zero => exact hM.elim
  | succ d =>
    unfold MT at hM
    rw [if_neg (by decide)] at hM
    obtain ⟨j, hj, has, hQ⟩ := hM
    subst has
    rcases hins with ⟨rfl, b, h3, h4⟩ | ⟨-, -, h4⟩
    · obtain ⟨hx, hb, hr, hml, hown, hts, hlocks, hini, hK, hStr, hX, hA, hR1, hR2, hR3, hR4⟩ := id C0
      obtain ⟨r1, r2, r3, r4, r5, r6⟩ := r
      have h4 : [Value.ref (1000001 + j)] = [Value.ref b] := h4
      simp only [List.cons.injEq, Value.ref.injEq, and_true] at h4
      subst h4
      have h3 : S = .ref (1000001 + j) :: rest := h3
      subst h3
      obtain ⟨t, J⟩ := x_St hj hStr
      have e1 : (Value.ref (1000001 + j) :: rest).map (s_tr G) = .ref (G.2.2.2.2 j) :: rest.map (s_tr G) := by
        rw [List.map_cons, s_tr_r, x_ad]
      rw [e1]
      refine j_callW (va_runV (C := RJ0) (n := 0) (b := G.2.2.2.2 j) (As := []) (rest := rest.map (s_tr G)) (Ts := s_gt) ⟨hx, hb, hml, hown, hts⟩ (j_length (a := G.2.2.2.2 j) (t := t) (n := (s_txt.getD j []).length) (f := fun q => .int ((s_txt.getD j []).getD q 0)) (k_shr _ (k_txl j hj).2)) ⟨j_cb (n := 0) (k := 2) hts jc_J0_length_8abf5 jn_RJ0 hlk ⟨by decide, by decide +kernel⟩ (by omega) (by omega), hts _ ji_J0_length_8abf5, hts _ js_J0_length_8abf5⟩ ⟨j_blind _, j_recv J r4, j_pre _ J r4⟩ rfl rfl r1.1 rfl (s_mon c1) hdec ⟨by omega, by omega⟩) r4 fun locs1 hS1 => ?_
      have h5 := hN _ _ _ _ _ ls H locs1 hQ ⟨r1, r2, r3, hS1, by rw [mc_1000]; exact r5, by rw [ms_1000]; exact r6⟩
      rw [mc_1000, ms_1000] at h5
      exact h5
    · cases h4
theorem xj_chr {N : sN} {i pc0 : Nat} {ins : Instr} {L S : List Value} {h : sH} {k : sK} {ls : Array Slot} {H : Heap} {locs : List Loc} {as rest : List Value}
    (C0 : s_CX G X0 d m p R s mm args meth c) (hlk : Jvm.Cond.methodLink (cR (mC m)) i yJ0_charAt_5068e ∈ s_gt)
    (hins : (ins = .invokevirtual i ∧ ∃ b, S.drop (mNa 1001) = .ref b :: rest ∧ as = .ref b :: s_args (mNa 1001) S) ∨ (ins = .invokestatic i ∧ rest = S.drop (mNa 1001) ∧ as = s_args (mNa 1001) S)) (hlen : (S.take (mNa 1001)).length = mNa 1001) (hdec : decode (mB m) pc0 = .ok (ins, 3))
    (hN : ∀ pc L S h k ls H locs, N pc L S h k → s_SR G X0 m s L h k ls H locs → W p l e R s mm args below meth c H locs k.1 k.2 Qm (F0 mm pc ls (S.map (s_tr G))))
    (r : s_SR G X0 m s L h k ls H locs) (hc : s_call (MT d) m pc0 L h k N 1001 as rest) : W p l e R s mm args below meth c H locs k.1 k.2 Qm (F0 mm pc0 ls (S.map (s_tr G))) := by
  obtain ⟨c1, c2, c3, hM⟩ := hc
  cases d with
  | zero => exact hM.elim
  | succ d =>
    unfold MT at hM
    rw [if_neg (by decide)] at hM
    obtain ⟨j, i0, hj, has, hin, hQ⟩ := hM
    subst has
    have m1 : mNa 1001 = 1 := by decide
    rw [m1] at hins hlen
    rcases hins with ⟨rfl, b, h3, h4⟩ | ⟨-, -, h4⟩
    · obtain ⟨hx, hb, hr, hml, hown, hts, hlocks, hini, hK, hStr, hX, hA, hR1, hR2, hR3, hR4⟩ := id C0
      obtain ⟨r1, r2, r3, r4, r5, r6⟩ := r
      have hS0 := s_args_map (G := G) hlen
      rw [h3] at hS0
      simp only [List.cons.injEq, Value.ref.injEq] at h4
      obtain ⟨h4, h5⟩ := h4
      subst h4
      rw [← h5] at hS0
      have hS0 : S.map (s_tr G) = .int i0 :: s_tr G (.ref (1000001 + j)) :: rest.map (s_tr G) := hS0
      rw [s_tr_r, x_ad] at hS0
      rw [hS0]
      obtain ⟨t, J⟩ := x_St hj hStr
      have hlt := vp_lt hin
      have h0 : ¬ i0 < 0 := fun q => hin (Or.inl q)
      obtain ⟨q, hq, rfl⟩ := nI_of h0
      have ecl : (nI q).toNatClampNeg = q := nCl hq
      rw [ecl] at hlt hQ
      obtain ⟨t1, t2⟩ := k_txc j hj q hlt
      refine j_callW (va_runV (C := RJ0) (n := 1) (b := G.2.2.2.2 j) (As := [.int (nI q)]) (rest := rest.map (s_tr G)) (Ts := s_gt) ⟨hx, hb, hml, hown, hts⟩ (j_charAt (a := G.2.2.2.2 j) (t := t) (n := (s_txt.getD j []).length) (f := fun q => .int ((s_txt.getD j []).getD q 0)) (i := nI q) (x := (s_txt.getD j []).getD q 0) h0 (nI_lt hlt (by have := (k_txl j hj).2; omega)) hin (by rw [ecl]) t1 t2) ⟨j_cb (n := 1) (k := 4) hts jc_J0_charAt_5068e jn_RJ0 hlk ⟨by decide, by decide +kernel⟩ (by omega) (by omega), hts _ ji_J0_charAt_5068e, hts _ js_J0_charAt_5068e⟩ ⟨j_blind _, j_recv J r4, j_pre _ J r4⟩ rfl rfl r1.1 rfl (s_mon c1) hdec ⟨by omega, by omega⟩) r4 fun locs1 hS1 => ?_
      have h5 := hN _ _ _ _ _ ls H locs1 hQ ⟨r1, r2, r3, hS1, by rw [mc_1001]; exact r5, by rw [ms_1001]; exact r6⟩
      rw [mc_1001, ms_1001] at h5
      exact h5
    · have := congrArg List.length h4
      unfold s_args at this
      rw [List.length_reverse, hlen] at this
      simp at this
theorem xj_mx {N : sN} {i pc0 : Nat} {ins : Instr} {L S : List Value} {h : sH} {k : sK} {ls : Array Slot} {H : Heap} {locs : List Loc} {as rest : List Value}
    (C0 : s_CX G X0 d m p R s mm args meth c) (hlk : Jvm.Cond.methodLink (cR (mC m)) i yJ9_max_e70c8 ∈ s_gt)
    (hins : (ins = .invokevirtual i ∧ ∃ b, S.drop (mNa 1002) = .ref b :: rest ∧ as = .ref b :: s_args (mNa 1002) S) ∨ (ins = .invokestatic i ∧ rest = S.drop (mNa 1002) ∧ as = s_args (mNa 1002) S)) (hlen : (S.take (mNa 1002)).length = mNa 1002) (hdec : decode (mB m) pc0 = .ok (ins, 3))
    (hN : ∀ pc L S h k ls H locs, N pc L S h k → s_SR G X0 m s L h k ls H locs → W p l e R s mm args below meth c H locs k.1 k.2 Qm (F0 mm pc ls (S.map (s_tr G))))
    (r : s_SR G X0 m s L h k ls H locs) (hc : s_call (MT d) m pc0 L h k N 1002 as rest) : W p l e R s mm args below meth c H locs k.1 k.2 Qm (F0 mm pc0 ls (S.map (s_tr G))) := by
  obtain ⟨c1, c2, c3, hM⟩ := hc
  cases d with
  | zero => exact hM.elim
  | succ d =>
    unfold MT at hM
    rw [if_neg (by decide)] at hM
    obtain ⟨x, y, has, q1, q2, hQ⟩ := hM
    subst has
    have m1 : mNa 1002 = 2 := by decide
    rw [m1] at hins hlen
    rcases hins with ⟨-, b, -, h4⟩ | ⟨rfl, h3, h4⟩
    · cases h4
    · obtain ⟨hx, hb, hr, hml, hown, hts, hlocks, hini, hK, hStr, hX, hA, hR1, hR2, hR3, hR4⟩ := id C0
      obtain ⟨r1, r2, r3, r4, r5, r6⟩ := r
      have hS0 := s_args_map (G := G) hlen
      rw [← h3, ← h4] at hS0
      rw [hS0]
      exact w_max hx hb (hml.trans r1.1.symm) hown (hts _ hlk) (hts _ ji_J9_max_e70c8) (hts _ jn_RJ9) (hts _ jc_J9_max_e70c8) q1 q2 (by omega) (by omega) (s_mon c1) (by omega) (by omega) hdec (by
        have h5 := hN _ _ _ _ _ ls H locs hQ ⟨r1, r2, r3, r4, by rw [mc_1002]; exact r5, by rw [ms_1002]; exact r6⟩
        rw [mc_1002, ms_1002] at h5
        exact h5)
end EXT
theorem ext_ok (l : Launch) (G : sG) (X0 : sC) : ∀ d, s_ExtOK l G X0 d (MT d) := by
  intro d p e R s mm args below meth c Qm m C0 hm14 hm10 y i pc0 ins L S h k ls H locs N as rest hy hpm hins hlen hdec hN r hc
  have hm := pm_ext hm14 hy hpm
  simp only [List.mem_cons, Prod.mk.injEq, List.not_mem_nil, or_false] at hm
  rcases hm with ⟨e1, rfl, rfl⟩ | ⟨e1, rfl, rfl⟩ | ⟨e1, rfl, rfl⟩ | ⟨e1, rfl, rfl⟩ | ⟨e1, rfl, rfl⟩ | ⟨e1, rfl, rfl⟩
  · exact xj_len C0 (by rw [e1]; exact jl_X6_45) hins hdec hN r hc
  · exact xj_chr C0 (by rw [e1]; exact jl_X6_50) hins hlen hdec hN r hc
  · exact xj_len C0 (by rw [e1]; exact jl_X9_110) hins hdec hN r hc
  · exact xj_chr C0 (by rw [e1]; exact jl_X9_116) hins hlen hdec hN r hc
  · exact xj_mx C0 (by rw [e1]; exact jl_X9_460) hins hlen hdec hN r hc
  · exact absurd e1 hm10
