/-! the law, from its entry -/
theorem mc_1003 : mMc 1003 = 1 := by decide +kernel
theorem ms_1003 : mMs 1003 = 6 := by decide +kernel
theorem bh_at {g : Nat → sC} {c : sC} : ((true, 335, fun q => if q = 334 then c else g q) : sH).2.2 334 = c := by
  show (if 334 = 334 then c else g 334) = c
  exact if_pos rfl
theorem bh_ne {g : Nat → sC} {c : sC} : ((true, 335, fun q => if q = 334 then c else g q) : sH).2.2 1000000 = g 1000000 := by
  show (if 1000000 = 334 then c else g 1000000) = g 1000000
  exact if_neg (by decide)
theorem m_275 : mB 275 = code := rfl
section LAW
variable {p : Program} {l : Launch} {e : Env} {s : State} {m : MethodId} {below : List Frame} {meth : Method} {c : Code} {b : Nat} {G : sG} {X0 : sC}
theorem law_ext {Qm : State → Prop} (hl0 : l.stackTraces = false) (hE : ∀ d, s_ExtOK l G X0 d (MT d)) (C0 : s_CX G X0 64 275 p room_1 s m #[Value.ref b] meth c) : s_Ext1 l G X0 64 (MT 64) p e room_1 s m #[Value.ref b] below meth c Qm 275 := by
  intro y i pc0 ins L S h k ls H locs N as rest hy hpm hins hlen hdec hN r hc
  have hmm := pm_ext (c := mC 275) (by decide +kernel) hy hpm
  rw [show mC 275 = 10 by decide +kernel] at hmm
  simp only [List.mem_cons, Prod.mk.injEq, List.not_mem_nil, or_false] at hmm
  rcases hmm with ⟨e1, -⟩ | ⟨e1, -⟩ | ⟨e1, -⟩ | ⟨e1, -⟩ | ⟨e1, -⟩ | ⟨-, e2, e3⟩
  · exact absurd e1 (by decide)
  · exact absurd e1 (by decide)
  · exact absurd e1 (by decide)
  · exact absurd e1 (by decide)
  · exact absurd e1 (by decide)
  subst e2
  subst e3
  obtain ⟨c1, c2, c3, hM⟩ := hc
  unfold MT at hM
  rw [if_neg (by decide)] at hM
  have m1 : mNa 1003 = 4 := by decide
  rw [m1] at hins hlen
  rcases hins with ⟨-, b', -, h4⟩ | ⟨rfl, h3, h4⟩
  · obtain ⟨x1, x2, h5, -⟩ := hM
    have h6 := congrArg List.length (h4.symm.trans h5)
    unfold s_args at h6
    rw [List.length_cons, List.length_reverse, hlen] at h6
    cases h6
  · obtain ⟨hx, hb, hr, hml, hown, hts, hlocks, hini, hK, hStr, hX, hA, hR1, hR2, hR3, hR4⟩ := id C0
    obtain ⟨r1, r2, r3, r4, r5, r6⟩ := r
    have hS0 := s_args_map (G := G) hlen
    have hn4 : (as.map (s_tr G)).length = 4 := by rw [h4]; exact s_args_len hlen
    rw [← h3, ← h4] at hS0
    have M := l_crane l hl0 G X0 hE hM
    have hwd : ∀ w ∈ zlW, ∀ (a' : Array Value) (U : State), s.WarmedH U.vm → w.before a' U = true := by
      intro w hw a' U hW
      have hm : w ∈ s_gt := by
        rcases List.mem_cons.mp hw with h | h
        · rw [h]; exact lt_cw
        · exact h
      exact word_at hW (good_of_word (List.mem_filter.mp hm).2) (hts w hm)
    have cw : vx_CSW room_1 s #[Value.ref b] RL 61 yL_crane cL_crane 5 (some .int) [(0, 10, 13, 13)] zlW (zlR 63) 1 6 4 := by
      refine ⟨⟨rfl, rfl, Nat.le_of_ble_eq_true rfl, Nat.le_of_ble_eq_true rfl, hwd, List.mem_cons_self⟩, hts _ lt_cw, hts _ lt_iL, ⟨by decide, by decide⟩, fun sig h => ?_, hts _ lt_ml61, hts _ lt_st⟩
      have h2 : (parseMethodDescriptor yL_crane.desc).map (fun d => d.parameters.length) = some 4 := by decide +kernel
      rw [h] at h2
      exact (Option.some.inj h2).symm
    rw [mc_1003] at c2
    rw [ms_1003] at c3
    rw [lw_mc] at c2
    rw [lw_ms] at c3
    have hown' : s.vm.findClass RL = some m.cls := hown
    refine s_callW (K := MT 64) (y := 1003) (vx_runSW (n := 4) (As := as.map (s_tr G)) (rest := rest.map (s_tr G)) (Ts := s_gt) (index := 61) (hh := [(0, 10, 13, 13)]) ⟨hx, hb, hml, hown', hts⟩ M cw ⟨s_blind _ _, s_pre C0 r2 r3 r4⟩ rfl hn4 r1.1 hS0 (s_mon c1) hdec ⟨Nat.le_trans c2 (Nat.le_of_ble_eq_true rfl), Nat.le_trans c3 (Nat.le_of_ble_eq_true rfl)⟩) r4 fun v h' H1 locs1 hq hh hx' hS => ?_
    have h5 := hN _ _ _ _ _ ls H1 locs1 hq ⟨r1, hh, hx', hS, by rw [mc_1003, lw_mc]; exact c2, by rw [ms_1003, lw_ms]; exact c3⟩
    rw [mc_1003, ms_1003, List.map_append] at h5
    cases v <;> exact h5
theorem law_ret (hx : p.tables.exec = Jvm.exec) (hb : c.code = code) (hr : meth.sig.returnType = ret) (hlocks : meth.locks = false) (hG : G.2.2.1 = s.heap.size) : ∀ i len pc0 L S h k ls H locs (N : sN), s_isRet i = true → decode (mB 275) pc0 = .ok (i, len) → len = 1 → wpI (MT 64) 275 i len pc0 L S h k N (fun v _ => v = some (.int (nI 1))) → s_SR G X0 275 s L h k ls H locs → W p l e room_1 s m #[Value.ref b] below meth c H locs k.1 k.2 (lw_Z below #[Value.ref b] s) (F0 m pc0 ls (S.map (s_tr G))) := by
  intro i len pc0 L S h k ls H locs N hi hd hl hw r
  subst hl
  obtain ⟨r1, r2, r3, r4, r5, r6⟩ := r
  cases i
  case ireturn =>
    simp only [wpI] at hw
    obtain ⟨x, T, rfl, rfl, h1⟩ := pI_of hw
    obtain ⟨ty, h2, h3, h4⟩ := oo_of h1
    have h5 : x = nI 1 := by
      simp only [Option.some.injEq, Value.int.injEq] at h4
      exact h4
    subst h5
    refine va_forget (fun q hq => ?_) ?_
    · have := r4.2.2 q hq
      unfold s_A at this
      rw [hG] at this
      exact this
    rw [lw_mc] at r5
    rw [lw_ms] at r6
    refine W.widen (k := 601024) (n := 7293034) (Nat.le_trans r5 (Nat.le_of_ble_eq_true rfl)) (Nat.le_trans r6 (Nat.le_of_ble_eq_true rfl)) ?_
    refine W.base ?_
    rw [m_275] at hd
    exact lw_ret (Drawn.sameBut.refl s.drawn lw_cs) hx hb hr hlocks hd
  case lreturn =>
    simp only [wpI] at hw
    obtain ⟨x, T, rfl, rfl, h2, h4⟩ := pL_of hw
    cases h4
  case freturn =>
    simp only [wpI] at hw
    obtain ⟨x, T, rfl, rfl, h2, h4⟩ := pF_of hw
    cases h4
  case areturn =>
    simp only [wpI] at hw
    obtain ⟨x, T, rfl, rfl, h2, h4⟩ := pR_of hw
    cases h4
  case return_ =>
    simp only [wpI] at hw
    obtain ⟨rfl, h2, h4⟩ := hw
    cases h4
  all_goals cases hi
end LAW
/-- the pure run of the whole law -/
theorem law_run {L : Nat} {xs : Nat → Int32} (hL : L ≤ 3072) (g : Nat → sC) (hg : g 1000000 = .inl (6, L, .inl xs)) : WP 64 275 0 [.ref 1000000, s_no, s_no, s_no, s_no, s_no, s_no] [] (true, 0, g) (0, 0) (fun v _ => v = some (.int (nI 1))) := by
  have e1 : (zH (zqL 0 4) (true, 0, g)).2.1 = 317 := by rw [zH_n, zqL_len]
  have e2 : (zH (moL 317) (zH (zqL 0 4) (true, 0, g))).2.1 = 334 := by rw [zH_n, e1, moL_len]
  rw [u_275_0]
  refine ⟨rfl, Nat.le_of_ble_eq_true rfl, by rw [lw_mc]; exact Nat.le_of_ble_eq_true rfl, by rw [lw_ms, cn_8]; exact Nat.le_of_ble_eq_true rfl, ?_⟩
  rw [u_275_3]
  refine ⟨rfl, ?_⟩
  rw [u_275_4]
  refine ⟨Nat.le_of_ble_eq_true rfl, by rw [lw_mc, mc_89]; exact Nat.le_of_ble_eq_true rfl, by rw [lw_ms, ms_89, cn_8]; exact Nat.le_of_ble_eq_true rfl, ?_⟩
  refine c_Q (d := 60) (h := (true, 0, g)) rfl (Nat.le_of_ble_eq_true rfl) rfl ?_
  rw [mc_89, ms_89, cn_8]
  show WP 64 275 7 [.ref 1000000, s_no, s_no, s_no, s_no, s_no, s_no] [.ref 0] (zH (zqL 0 4) (true, 0, g)) (317, 6898) _
  rw [u_275_7]
  show WP 64 275 8 [.ref 1000000, .ref 0, s_no, s_no, s_no, s_no, s_no] [] (zH (zqL 0 4) (true, 0, g)) (317, 6898) _
  rw [u_275_8]
  refine ⟨rfl, by rw [e1]; exact Nat.le_of_ble_eq_true rfl, by rw [lw_mc]; exact Nat.le_of_ble_eq_true rfl, by rw [lw_ms, cn_9]; exact Nat.le_of_ble_eq_true rfl, ?_⟩
  rw [u_275_11]
  refine ⟨rfl, ?_⟩
  rw [u_275_12]
  refine ⟨Nat.le_of_ble_eq_true rfl, by rw [lw_mc, mc_143]; exact Nat.le_of_ble_eq_true rfl, by rw [lw_ms, ms_143, cn_9]; exact Nat.le_of_ble_eq_true rfl, ?_⟩
  refine c_M (d := 63) (h := zH (zqL 0 4) (true, 0, g)) rfl (by rw [e1]; exact Nat.le_of_ble_eq_true rfl) rfl ?_
  rw [mc_143, ms_143, cn_9, e1]
  show WP 64 275 15 [.ref 1000000, .ref 0, s_no, s_no, s_no, s_no, s_no] [.ref 317] (zH (moL 317) (zH (zqL 0 4) (true, 0, g))) (334, 9190) _
  rw [u_275_15]
  show WP 64 275 16 [.ref 1000000, .ref 0, .ref 317, s_no, s_no, s_no, s_no] [] (zH (moL 317) (zH (zqL 0 4) (true, 0, g))) (334, 9190) _
  rw [u_275_16, u_275_17]
  have n1 : (nI 1).toNatClampNeg = 1 := nCl (by decide)
  refine ⟨rfl, by rw [e2]; exact Nat.le_of_ble_eq_true rfl, by decide, by rw [n1]; exact Nat.le_of_ble_eq_true rfl, rfl, by rw [lw_mc]; exact Nat.le_of_ble_eq_true rfl, by rw [lw_ms, n1]; exact Nat.le_of_ble_eq_true rfl, ?_⟩
  rw [n1, e2, zH_hn1, h_start]
  show WP 64 275 19 [.ref 1000000, .ref 0, .ref 317, s_no, s_no, s_no, s_no] [.ref 334] (pS s0 (pM m0 (true, 335, fun q => if q = 334 then .inl (3, (1, .inr (.inl fun _ => 0))) else g q))) (335, 9191) _
  rw [u_275_19]
  show WP 64 275 20 [.ref 1000000, .ref 0, .ref 317, .ref 334, s_no, s_no, s_no] [] (pS s0 (pM m0 (true, 335, fun q => if q = 334 then .inl (3, (1, .inr (.inl fun _ => 0))) else g q))) (335, 9191) _
  simp (disch := omega) only [u_275_20, u_275_21, gI0, gIs, gR0, gRs, gF0, gFs, st0, st_i, st_r, st_f, st_n, st_s, true_and, and_true, ↓ifLeT, ↓ifLeF, ↓ifLtT, ↓ifLtF, ↓ifEqT, ↓ifEqF, if_tt, if_ff, if_pos, if_neg, nLe, nLt, nEq, nInT, nCl, pk_mul, nI_add, Nat.reduceAdd, s_cat_nil, s_cat_i, s_cat_r, s_cat_f, s_cat_l, tl_s, tl_n, cat_i, cat_r, cat_f, nb0, nb1, nbI, if_bI, if_bIr, Nat.zero_le, Nat.reduceLeDiff]
  refine lw_loop (L := L) (xs := xs) hL (fun _ => rfl) L 0 s0 m0 z0 _ 335 9191 s_no s_no (by omega) (by omega) zIC0 RM_00 ⟨⟨fun _ => 0, bh_at⟩, bh_ne.trans hg⟩ (by omega) (by omega)
set_option maxHeartbeats 4000000 in
/-- YOUR PART: from the entry, for every script of at most 3072 ints, the law comes to its end with true -/
theorem whole_start {p : Program} {e : Env} {s : State} {m : MethodId} {below : List Frame} {meth : Method} {c : Code} (l : Launch) (hflags : l.flags = flags0) {b L : Nat} {xs : Nat → Int32} (hL : L ≤ 3072) (C0 : lw_At p s m meth c b L xs) : W p l e room_1 s m #[Value.ref b] below meth c s.heap [] 0 0 (lw_Z below #[Value.ref b] s) (entryFrame m ([Value.ref b] : List Value).toArray 7) := by
  obtain ⟨hx, hb, hr, hml, hown, hts, hX, hbl, hlocks, hgv⟩ := id C0
  have hl0 : l.stackTraces = false := by
    unfold Launch.stackTraces
    rw [hflags]
    decide +kernel
  obtain ⟨dC, dI, h1⟩ := st_cls hts
  obtain ⟨f, h2⟩ := st_arr hts
  obtain ⟨adK, hStr⟩ := st_Str hts hgv (dC, dI) f b
  have hK := st_K hts h1 h2 s.heap.size b adK
  obtain ⟨G, hG⟩ : ∃ G : sG, G = ((dC, dI), f, s.heap.size, b, adK) := ⟨_, rfl⟩
  rw [← hG] at hStr hK
  have g1 : G.2.2.1 = s.heap.size := by rw [hG]
  have g2 : G.2.2.2.1 = b := by rw [hG]
  obtain ⟨X0, hX0⟩ : ∃ X0 : sC, X0 = .inl (6, L, .inl xs) := ⟨_, rfl⟩
  obtain ⟨gg, hgg⟩ : ∃ gg : Nat → sC, gg = fun q => if q = 1000000 then X0 else s_junk := ⟨_, rfl⟩
  have gx : gg 1000000 = X0 := by rw [hgg]; exact if_pos rfl
  have hHX : s_HX G X0 s s.heap := Or.inr ⟨L, xs, hX0, by rw [g2]; exact hX, by rw [g2]; exact hbl, by rw [g1, g2]; exact hbl⟩
  have hHR : s_HR G (true, 0, gg) s.heap := by
    refine ⟨fun k q hq => ?_, by rw [g1]; exact Nat.le_refl _, fun _ => by rw [g1]; rfl, Nat.zero_le _, fun k _ hk => ?_⟩
    · have hq : ([] : va_W)[k]? = some q := hq
      cases hq
    · show gg k = s_junk
      rw [hgg]
      exact if_neg hk
  have hE := ext_ok l G X0
  have hgt : ∀ w ∈ s_gt, w.before #[Value.ref b] s = true := fun w hw => hts w (List.mem_filter.mp hw).1
  have C1 : s_CX G X0 64 275 p room_1 s m #[Value.ref b] meth c := by
    refine ⟨hx, hb.trans m_275.symm, hr, hml, hown, hgt, hlocks, fun h => absurd h (by decide +kernel), hK, hStr, hHX, fun q hq => by unfold s_A; rw [g1]; exact hq, Nat.le_of_ble_eq_true rfl, Nat.le_of_ble_eq_true rfl, ?_, ?_⟩
    · rw [lw_mc]; exact Nat.le_of_ble_eq_true rfl
    · rw [lw_ms]; exact Nat.le_of_ble_eq_true rfl
  have hl := lv_entry [Value.ref b] (n := 7) (Nat.le_of_ble_eq_true rfl)
  rw [lg_entry_eq]
  generalize (lg_sl [Value.ref b] ++ List.replicate (7 - (lg_sl [Value.ref b]).length) Slot.unset).toArray = ls at hl ⊢
  have e0 : [Value.ref 1000000].map (s_tr G) = [Value.ref b] := by
    show [Value.ref (s_ad G 1000000)] = _
    unfold s_ad
    rw [if_neg (by decide), if_pos rfl, g2]
  have hl : lv_has ls 7 (s_lv G (s_entry 275 [.ref 1000000])) := hl.weak fun q hq => by
    have h := s_lay_args [Value.ref 1000000] 0 _ q hq
    rw [e0] at h
    exact h
  obtain ⟨n, hw⟩ := law_run hL gg (gx.trans hX0)
  exact s_run C1 (by decide +kernel) (s_met l G X0 hE 64) (law_ext hl0 hE C1) (law_ret hx hb hr hlocks g1) n 0 _ [] (true, 0, gg) (0, 0) ls s.heap [] hw ⟨hl, hHR, gx, va_S.rf, Nat.zero_le _, Nat.zero_le _⟩
