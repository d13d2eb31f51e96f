section SND
variable {p : Program} {l : Launch} {e : Env} {R : Room} {s : State} {mm : MethodId} {args : Array Value} {below : List Frame} {meth : Method} {c : Code} {Qm : State → Prop}
variable {G : sG} {X0 : sC} {d m : Nat}
/-- a call's start and end -/
def s_Pc (G : sG) (X0 : sC) (as : List Value) (h : sH) : Array Value → State → Prop := va_Pc (as.map (s_tr G)) fun U => s_HR G h U.heap ∧ hg h 1000000 = X0 ∧ s_K G U ∧ s_Str G U U.heap ∧ s_HX G X0 U U.heap ∧ ∀ q, U.heap.size ≤ q → s_A G q
def s_Qc (G : sG) (X0 : sC) (Q : sQ) : Array Value → State → Outcome → State → Prop := fun _ st oc t => (∃ v h, oc = .returned (Option.map (s_tr G) v) ∧ Q v h ∧ s_HR G h t.heap ∧ hg h 1000000 = X0) ∧ va_F (s_A G) st t
def s_wsM (m : Nat) : List Jvm.Cond := Jvm.Cond.code (mY m) (mB m) (mL m) (mR m) :: s_gt
def s_rm (d m : Nat) : Room := { frames := d + 8, cells := mMc m, slots := mMs m, locals := 60 * (d + 8) }
/-- the calls' contracts at the depth d -/
def s_KOK (l : Launch) (G : sG) (X0 : sC) (d : Nat) (K : sM) : Prop := ∀ y as h Q, y < 275 → K y as h Q → Met l (mY y) (s_wsM y) (s_rm d y) (s_Pc G X0 as h) (s_Qc G X0 Q) (mMc y) (mMs y) (s_A G)
theorem s_tr_r (G : sG) (a : Nat) : s_tr G (.ref a) = .ref (s_ad G a) := rfl
theorem s_blind (as : List Value) (h : sH) : FrameBlind (s_Pc G X0 as h) := by
  intro a U g mk hq
  obtain ⟨q0, q1, q2, q3, q4, q5, q6⟩ := hq
  refine ⟨q0, q1, q2, ⟨va_K.moved (u := U) (U := U.calling g mk a) (Vm.Alike.refl U.vm) q3.1, va_AO.moved (u := U) (U := U.calling g mk a) (Vm.Alike.refl U.vm) q3.2.1, va_AO.moved (u := U) (U := U.calling g mk a) (Vm.Alike.refl U.vm) q3.2.2.1, fun a' i x hh hm => va_Nw.same rfl (u := U) (U := U.calling g mk a) rfl (q3.2.2.2.1 a' i x hh hm), fun x hm => va_Nw.same rfl (u := U) (U := U.calling g mk a) rfl (q3.2.2.2.2.1 x hm), fun a' b hm => va_Nw.same rfl (u := U) (U := U.calling g mk a) rfl (q3.2.2.2.2.2 a' b hm)⟩, ?_, ?_, q6⟩
  · obtain ⟨⟨adV, h1⟩, h2, h3⟩ := q4
    exact ⟨⟨adV, h1.moved (U := U.calling g mk a) (Vm.Alike.refl U.vm)⟩, fun c i j hj => (h2 c i j hj).imp fun tx hx => hx.same (U := U.calling g mk a) rfl, s_Sta.moved (U := U.calling g mk a) (Vm.Alike.refl U.vm) h3⟩
  · rcases q5 with h | ⟨n, f, h1, h2, h3⟩
    · exact Or.inl h
    · exact Or.inr ⟨n, f, h1, h2.moved (U := U.calling g mk a) (Vm.Alike.refl U.vm), h3⟩
theorem s_callW {K : sM} {y pc : Nat} {ls : Array Slot} {st0 rest : List Value} {H : Heap} {locs : List Loc} {cells slots mc ms : Nat} {a : Array Value} {Q : sQ}
    (hr : va_Run p l e R s mm args below meth c H locs cells slots mc ms (F0 mm pc ls st0) rest (s_Qc G X0 Q a) (s_A G)) (hS : va_S (s_A G) s.heap H locs)
    (kk : ∀ (v : Option Value) (h : sH) (H1 : Heap) (locs1 : List Loc), Q v h → s_HR G h H1 → hg h 1000000 = X0 → va_S (s_A G) s.heap H1 locs1 → W p l e R s mm args below meth c H1 locs1 (cells + mc) (slots + ms) Qm (F0 mm (pc + 3) ls ((Option.map (s_tr G) v).toList ++ rest))) : W p l e R s mm args below meth c H locs cells slots Qm (F0 mm pc ls st0) := by
  intro T hT X
  obtain ⟨v, st₀, t, T', L, h0, X', hL, e1, e2, ⟨⟨v0, h, hv, hq, hh, hx⟩, hz, hk⟩, st⟩ := hr T hT X
  cases hv
  rw [h0] at hz hk
  obtain ⟨t2, a1, b1⟩ := kk v0 h T'.heap (locs ++ L) hq (by rw [e1]; exact hh) hx
    ⟨Nat.le_trans hS.1 (by rw [e1]; exact hz), fun q h1 h2 => by rw [e1, hk q (Nat.lt_of_lt_of_le h1 hS.1) h2]; exact hS.2.1 q h1 h2, fun q hq => by
      rcases List.mem_append.mp hq with h | h
      · exact hS.2.2 q h
      · exact hL q h⟩ T' rfl X'
  exact ⟨t2, st t2 a1, b1⟩
theorem s_pre {as : List Value} {h : sH} {H : Heap} {locs : List Loc} (C0 : s_CX G X0 d m p R s mm args meth c) (hh : s_HR G h H) (hx : hg h 1000000 = X0) (hS : va_S (s_A G) s.heap H locs) :
    ∀ U : State, U.heap = H → s.WarmedH U.vm → s_Pc G X0 as h (as.map (s_tr G)).toArray U := by
  obtain ⟨-, -, -, -, -, -, -, -, hK, hStr, hX, hA, -⟩ := C0
  intro U hU hW
  refine ⟨rfl, by rw [hU]; exact hh, hx, hK.warm hW, by rw [hU]; exact hStr.warm hW hS, by rw [hU]; exact hX.warm hW hS, fun q hq => hA q (Nat.le_trans hS.1 (by rw [hU] at hq; exact hq))⟩
theorem s_words (hts : ∀ w ∈ s_gt, w.before args s = true) {y : Nat} (hy : y < 275) : ∀ w ∈ s_wsM y, ∀ (a' : Array Value) (U : State), s.WarmedH U.vm → w.before a' U = true := by
  intro w hw a' U hW
  have hm : w ∈ s_gt := by
    rcases List.mem_cons.mp hw with h | h
    · rw [h]; exact k_code y hy
    · exact h
  exact word_at hW (good_of_word (List.mem_filter.mp hm).2) (hts w hm)
theorem s_nargs {y : Nat} (hy : y < 275) : ∀ sig, parseMethodDescriptor (mY y).desc = some sig → mNa y = sig.parameters.length := by
  intro sig h
  have h2 := k_meth4 y hy
  rw [h] at h2
  exact (Option.some.inj h2).symm
theorem s_cw (C0 : s_CX G X0 d m p R s mm args meth c) {y i : Nat} (hy : y < 275) (hl : Jvm.Cond.methodLink (cR (mC m)) i (mY y) ∈ s_gt) : CallB R s args (cR (mC m)) i (mY y) (mB y) (mL y) (mR y) (s_wsM y) (s_rm d y) (mMc y) (mMs y) (mNa y) := by
  obtain ⟨-, -, -, -, -, hts, -, -, -, -, -, -, hR1, hR2, -⟩ := C0
  have h3 := k_meth3 y hy
  have hml := k_maxl y hy
  refine ⟨rfl, rfl, hR1, ?_, s_words hts hy, List.mem_cons_self, hts _ (k_code y hy), ?_, ⟨h3.1, h3.2.1⟩, s_nargs hy, hts _ hl⟩
  · show 8 + (mL y + 11) + 60 * (d + 8) ≤ R.locals
    have e : 60 * (d + 8 + 1) = 60 * (d + 8) + 60 := Nat.mul_succ 60 (d + 8)
    rw [e] at hR2
    refine Nat.le_trans ?_ hR2
    generalize mL y = a at hml ⊢
    generalize 60 * (d + 8) = x
    clear hR1 hR2 e h3
    omega
  · have h1 := k_meth1 y hy
    rw [h1.1]
    exact hts _ (s_gt_of (k_ini _ h1.2) rfl)
theorem s_cwN (C0 : s_CX G X0 d m p R s mm args meth c) {y i : Nat} (hy : y < 275) (hl : Jvm.Cond.methodLinkNest (cR (mC m)) i (mY y) RX8 ∈ lw_tbl) : va_CN R s args (cR (mC m)) i (mY y) RX8 (mB y) (mL y) (mR y) (s_wsM y) (s_rm d y) (mMc y) (mMs y) (mNa y) := by
  obtain ⟨-, -, -, -, -, hts, -, -, hK, -, -, -, hR1, hR2, -⟩ := C0
  have h3 := k_meth3 y hy
  have hml := k_maxl y hy
  refine ⟨⟨rfl, rfl, hR1, ?_, s_words hts hy, List.mem_cons_self⟩, hts _ (k_code y hy), ?_, ⟨h3.1, h3.2.1⟩, s_nargs hy, va_Nw.use rfl (hK.2.2.2.1 _ _ _ _ hl)⟩
  · show 8 + (mL y + 11) + 60 * (d + 8) ≤ R.locals
    have e : 60 * (d + 8 + 1) = 60 * (d + 8) + 60 := Nat.mul_succ 60 (d + 8)
    rw [e] at hR2
    refine Nat.le_trans ?_ hR2
    generalize mL y = a at hml ⊢
    generalize 60 * (d + 8) = x
    clear hR1 hR2 e h3
    omega
  · have h1 := k_meth1 y hy
    rw [h1.1]
    exact hts _ (s_gt_of (k_ini _ h1.2) rfl)
theorem s_args_map {n : Nat} {S : List Value} (hn : (S.take n).length = n) : (S.map (s_tr G)) = ((s_args n S).map (s_tr G)).reverse ++ (S.drop n).map (s_tr G) := by
  unfold s_args
  rw [← List.map_reverse, List.reverse_reverse, ← List.map_append, List.take_append_drop]
theorem s_args_len {n : Nat} {S : List Value} (hn : (S.take n).length = n) : ((s_args n S).map (s_tr G)).length = n := by
  unfold s_args
  rw [List.length_map, List.length_reverse, hn]
theorem s_mon {pc : Nat} {ls : Array Slot} {st rest : List Value} (h : s_cat rest ≤ 8) : 2 * (F0 mm pc ls st).monitorRoom + ((rest.map (s_tr G)).map fun v => v.category).sum ≤ 8 := by
  rw [s_cat_tr]
  show 2 * 0 + _ ≤ 8
  omega
theorem s_obj_at {h : sH} {H : Heap} {a ci : Nat} {fs : List Value} (hh : s_HR G h H) (hc : ci < 10) (ha : hg h a = .inr (ci, fs)) (hx : a ≠ 1000000) : a < h.2.1 ∧ s_ad G a = G.2.2.1 + a ∧ (s_ws G h)[a]? = some (G.2.2.1 + a, .inr (ci, fs.map (s_tr G))) := by
  have hl : a < h.2.1 := hh.in (by rw [ha]; intro e; cases e; omega) hx
  exact ⟨hl, hh.ad hl, by rw [s_ws_at hl, ha]; rfl⟩
/-- a call, all kinds but those of the library's own -/
theorem s_goCall {K : sM} {N : sN} {y pc0 : Nat} {L S : List Value} {h : sH} {k : sK} {ls : Array Slot} {H : Heap} {locs : List Loc}
    (C0 : s_CX G X0 d m p R s mm args meth c) (hKO : s_KOK l G X0 d K) (hy : y < 275)
    (hN : ∀ pc L S h k ls H locs, N pc L S h k → s_SR G X0 m s L h k ls H locs → W p l e R s mm args below meth c H locs k.1 k.2 Qm (F0 mm pc ls (S.map (s_tr G))))
    (r : s_SR G X0 m s L h k ls H locs) {as rest : List Value} (hcall : s_call K m pc0 L h k N y as rest)
    (hrun : ∀ (hM : Met l (mY y) (s_wsM y) (s_rm d y) (s_Pc G X0 as h) (s_Qc G X0 (fun v h' => N (pc0 + 3) L (v.toList ++ rest) h' (k.1 + mMc y, k.2 + mMs y))) (mMc y) (mMs y) (s_A G)), va_Run p l e R s mm args below meth c H locs k.1 k.2 (mMc y) (mMs y) (F0 mm pc0 ls (S.map (s_tr G))) (rest.map (s_tr G)) (s_Qc G X0 (fun v h' => N (pc0 + 3) L (v.toList ++ rest) h' (k.1 + mMc y, k.2 + mMs y)) (as.map (s_tr G)).toArray) (s_A G)) : W p l e R s mm args below meth c H locs k.1 k.2 Qm (F0 mm pc0 ls (S.map (s_tr G))) := by
  obtain ⟨h1, h2, h3, h4⟩ := hcall
  obtain ⟨r1, r2, r3, r4, r5, r6⟩ := r
  refine s_callW (K := K) (y := y) (hrun (hKO y as h _ hy h4)) r4 fun v h' H1 locs1 hq hh hx hS => ?_
  have h5 := hN _ _ _ _ _ ls H1 locs1 hq ⟨r1, hh, hx, hS, h2, h3⟩
  rw [List.map_append] at h5
  cases v <;> exact h5
end SND
