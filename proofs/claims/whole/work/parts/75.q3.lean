/-! the class's calls: plans that are looked for -/
theorem lb_most {n : tN} {l : List Nat} (hl : l.Nodup ∧ ∀ t, t ∈ l → t < nF n 3) (h8 : nF n 3 ≤ 8) : l.length ≤ 8 := Nat.le_trans (nodup_len hl.1 hl.2) h8
theorem zones_in {n : tN} {m : Nat} {l : tL} (h : (zonesN n).2 = some (m, l)) : l ∈ cutN n (nF n 2) 0 (ordN n) (fun _ => []) ∧ isLast (jL n l) m ∧ m < 301 := by
  unfold zonesN at h
  rcases pick_from (n := n) (ps := cutN n (nF n 2) 0 (ordN n) (fun _ => [])) (g := (301, none)) with e | ⟨p, v, e1, e2, e3, e4⟩
  · rw [e] at h; cases h
  · rw [e3] at h
    cases h
    exact ⟨e1, e2, e4⟩
theorem best_in {n : tN} {m : Nat} {l : tL} (h : (bestN n).2 = some (m, l)) : l ∈ enN n 13 0 (fun t => (lfB n).testBit t) (fun _ => []) ∧ isLast (jL n l) m ∧ m < 301 := by
  unfold bestN at h
  rcases pick_from (n := n) (ps := enN n 13 0 (fun t => (lfB n).testBit t) (fun _ => [])) (g := (301, none)) with e | ⟨p, v, e1, e2, e3, e4⟩
  · rw [e] at h; cases h
  · rw [e3] at h
    cases h
    exact ⟨e1, e2, e4⟩
theorem best_wf {n : tN} {m : Nat} {l : tL} (h : (bestN n).2 = some (m, l)) : wfL (jL n l) := (enN_of 13 0 _ _ invE_0 (best_in h).1).1
theorem zones_wf {n : tN} {m : Nat} {l : tL} (hn : wfN n) (h1 : 1 ≤ nF n 2) (h : (zonesN n).2 = some (m, l)) : wfL (jL n l) := (enN_of 13 0 _ _ invE_0 (cut_best hn h1 (zones_in h).1)).1
theorem easyF_wf {m : Nat} {l : tL} : ∀ k i n, wfN n → easyF k i n = some (m, l) → wfL (jL n l)
  | 0, _, _, _, h => by cases h
  | k + 1, i, n, hn, h => by
    rw [easyF] at h
    split at h
    · cases h
      exact hn.2.2.2
    · have g := gives_inv hn
      have e : nF (givesN n) 2 = nF n 2 ∧ nF (givesN n) 3 = nF n 3 := by rw [sameL_F g.2.1]; exact ⟨rfl, rfl⟩
      have := easyF_wf k (i + 1) (passN (givesN n)) (wf_pass g.1) h
      have f2 : nF (passN (givesN n)) 2 = nF n 2 := e.1
      have f3 : nF (passN (givesN n)) 3 = nF n 3 := e.2
      obtain ⟨a1, a2, a3⟩ := this
      refine ⟨fun c hc => a1 c (by show nF (passN (givesN n)) 2 ≤ c; rw [f2]; exact hc), fun c => ⟨(a2 c).1, fun t ht => ?_⟩, a3⟩
      have := (a2 c).2 t ht
      have : t < nF (passN (givesN n)) 3 := this
      rw [f3] at this
      exact this
theorem easy_wf {n : tN} {m : Nat} {l : tL} (hn : wfN n) (h : easyN n = some (m, l)) : wfL (jL n l) := easyF_wf 301 0 (jL n (fun _ => [])) ⟨hn.1, hn.2.1, hn.2.2.1, wfL_nil⟩ h
theorem better_in {n : tN} {m t : Nat} {l : tL} (h : (betterN n).2 = some (m, l, t)) : (t, l) ∈ (List.range (nF n 3)).flatMap (atT n) ∧ isLast (jL n l) m := by
  have key : ∀ g : tB, g.2 = none → (pickB n ((List.range (nF n 3)).flatMap (atT n)) g).2 = some (m, l, t) → (t, l) ∈ (List.range (nF n 3)).flatMap (atT n) ∧ isLast (jL n l) m := by
    intro g hg h
    rcases pickB_from (n := n) (ps := (List.range (nF n 3)).flatMap (atT n)) (g := g) with e | ⟨x, v, e1, e2, e3, e4⟩
    · rw [e, hg] at h; cases h
    · rw [e3] at h
      cases h
      exact ⟨e1, e2⟩
  exact key _ rfl h
theorem better_wf {n : tN} {m t : Nat} {l : tL} (hn : wfN n) (h : (betterN n).2 = some (m, l, t)) : wfL (jL n l) ∧ t < nF n 3 := by
  obtain ⟨h1, -⟩ := better_in h
  obtain ⟨u, hu, h1⟩ := List.mem_flatMap.mp h1
  have hu := List.mem_range.mp hu
  unfold atT at h1
  split at h1
  · cases h1
  · split at h1
    · rename_i w hw
      obtain ⟨c, hc, h1⟩ := List.mem_flatMap.mp h1
      have hc := List.mem_range.mp hc
      unfold atC at h1
      split at h1
      · obtain ⟨j, hj, h1⟩ := List.mem_map.mp h1
        cases h1
        obtain ⟨r1, r2⟩ := wf_rest hn.2.2.2 (hold_some hw).2
        exact ⟨wf_put (n := n) r1 hc hu r2, hu⟩
      · cases h1
    · cases h1
theorem found_wf {n : tN} {m k : Nat} {l : tL} (hn : wfN n) (h1 : 1 ≤ nF n 2) (h : foundN n k = some (m, l)) : wfL (jL n l) := by
  unfold foundN at h
  split at h
  · exact easy_wf hn h
  · exact zones_wf hn h1 h
  · exact best_wf h
  · cases e : (betterN n).2 with
    | none => rw [e] at h; cases h
    | some v =>
      obtain ⟨a, b, c⟩ := v
      rw [e] at h
      cases h
      exact (better_wf hn e).1
theorem wl_31 {n : tN} {l : tL} (hn : wfN n) (hl : wfL (jL n l)) : (∀ c t, t ∈ l c → t < 31) ∧ ∀ c, (l c).length ≤ 8 := by
  have h8 := hn.1.2.1
  refine ⟨fun c t ht => ?_, fun c => lb_most (n := n) (hl.2.1 c) h8⟩
  have : t < nF n 3 := (hl.2.1 c).2 t ht
  omega
section Q3
variable {b d : Nat} {s s' : tS} {h : sH} {i x w c t m : Int32} {Q : sQ} {z : tQ} {n : tN} {y : tY}
theorem ok_RP {p : tP} {l : tL} (hp : RP p l) (h8 : ∀ c, (l c).length ≤ 8) : okS p := fun c hc => by rw [(hp c hc).1]; exact h8 c
theorem C_ok (hb : cb b) (K : okS (eP (SO s b))) {w : Int32} : MT (d + 3) 8 [.ref b, .int w] (pS s h) Q ↔ Q (some (.int (telC (SO s b) w))) (pS s h) := tl_Ch hb fun h Q => m_tell K
theorem tell0 (hb : cb b) {w : Int32} (h1 : eI (SO s b) 2 = -1) : MT (d + 3) 8 [.ref b, .int w] (pS s h) Q ↔ Q (some (.int (-1))) (pS s h) := tl_Ch hb fun h Q => by
  rw [MT_go (by decide) _ _ _ (Nat.le_of_ble_eq_true rfl), show s_entry 8 [.ref b, .int w] = [.ref b, .int w] from rfl]
  simp (disch := omega) only [u_8_0, u_8_1, u_8_4, u_8_5, u_8_8, u_8_9, u_8_10, u_8_13, u_8_14, u_8_17, u_8_18, u_8_19, u_8_21, u_8_24, u_8_25, u_8_28, u_8_29, u_8_32, u_8_35, u_8_36, u_8_39, u_8_40, u_8_42, u_8_43, u_8_46, gI0, gIs, gR0, gRs, gF0, gFs, st0, st_i, st_r, st_f, st_n, st_s, true_and, and_true, ↓ifLeT, ↓ifLeF, ↓ifLtT, ↓ifLtF, ↓ifEqT, ↓ifEqF, if_tt, if_ff, if_pos, if_neg, nLe, nLt, nEq, nInT, nCl, pk_mul, nI_add, Nat.reduceAdd, s_cat_nil, s_cat_i, s_cat_r, s_cat_f, s_cat_l, tl_s, tl_n, cat_i, cat_r, cat_f, nb0, nb1, nbI, if_bI, if_bIr, Nat.zero_le, Nat.reduceLeDiff, S_ob0, S_ob239, Ch_g0, Ch_g1, Ch_g2, Ch_g3, Ch_g4, Ch_g5, h1]
theorem such_ix (h8 : nF n 3 ≤ 8) (h : suchN n w = true) : w = -1 ∨ (∃ j, j < nF n 3 ∧ w = nI j) ∨ ∃ j, j < nF n 3 ∧ w = nI (10 + j) := by
  unfold suchN at h
  rw [Bool.or_eq_true, Bool.or_eq_true, decide_eq_true_eq] at h
  rcases h with h | h | h
  · exact Or.inl h
  · obtain ⟨j, hj⟩ := Option.isSome_iff_exists.mp h
    exact Or.inr (Or.inl ⟨j, ix_some (by omega) hj⟩)
  · obtain ⟨j, hj⟩ := Option.isSome_iff_exists.mp h
    obtain ⟨h1, h2⟩ := ix_some (by omega) hj
    refine Or.inr (Or.inr ⟨j, h1, ?_⟩)
    rw [← nI_add, ← h2, Int32.add_comm, Int32.sub_add_cancel]
theorem n10j {j : Nat} : nI (10 + j) - nI 10 = nI j := by rw [← nI_add, Int32.add_comm, Int32.add_sub_cancel]
theorem tel_rel {r : Option (Nat × tL)} {o : tO} (hn : wfN n) (hr : RF o r) (hw : ∀ m l, r = some (m, l) → wfL (jL n l)) (h : suchN n w = true) : telC o w = tellN r w := by
  have h8 := hn.1.2.1
  unfold telC
  cases hr' : r with
  | none =>
    rw [hr'] at hr
    have hr : eI o 2 = -1 := hr
    rw [if_pos hr, hr]
    rfl
  | some v =>
    obtain ⟨m, l⟩ := v
    rw [hr'] at hr
    obtain ⟨h1, h2, h3⟩ := hr
    obtain ⟨l1, l2⟩ := wl_31 hn (hw m l hr')
    have eR : ∀ w, tellN (some (m, l)) w = if w = -1 then nI m else if w < nI 10 then oI1 (holdN l w.toNatClampNeg) else oI1 (spotN l (w - nI 10).toNatClampNeg) := fun w => rfl
    rw [h1, if_neg (m1_ne (by omega)), eR]
    rcases such_ix h8 h with e | ⟨j, hj, e⟩ | ⟨j, hj, e⟩
    · rw [if_pos e, if_pos e]
    · subst e
      rw [if_neg (m1_ne (by omega)), if_neg (m1_ne (by omega)), if_pos (nI_lt (by omega) (by omega)), if_pos (nI_lt (by omega) (by omega)), nCl (by omega), hold_rel h3 l1 l2 (by omega)]
    · subst e
      rw [if_neg (m1_ne (by omega)), if_neg (m1_ne (by omega)), if_neg (nI_nlt (by omega) (by omega)), if_neg (nI_nlt (by omega) (by omega)), n10j, nCl (by omega), spot_rel h3 l1 l2 (by omega)]
theorem q_tell {r : Option (Nat × tL)} (hb : cb b) (hn : wfN n) (hr : RF (SO s b) r) (hw : ∀ m l, r = some (m, l) → wfL (jL n l)) (hs : suchN n w = true) : MT (d + 3) 8 [.ref b, .int w] (pS s h) Q ↔ Q (some (.int (tellN r w))) (pS s h) := by
  rw [← tel_rel hn hr hw hs]
  cases hr' : r with
  | none =>
    rw [hr'] at hr
    have hr : eI (SO s b) 2 = -1 := hr
    have e : telC (SO s b) w = -1 := by unfold telC; rw [if_pos hr, hr]
    rw [e]
    exact tell0 hb hr
  | some v =>
    obtain ⟨m, l⟩ := v
    rw [hr'] at hr
    exact C_ok hb (ok_RP hr.2.2 (wl_31 hn (hw m l hr')).2)
theorem q_canTell (hI : IC s z) (hq : zQ z = some n) : MT (d + 2) 132 [.ref 0, .int w] (pS s h) Q ↔ Q (some (.int (iB (suchN n w)))) (pS s h) := by
  rw [MT_go (by decide) _ _ _ (Nat.le_of_ble_eq_true rfl), show s_entry 132 [.ref 0, .int w] = [.ref 0, .int w] from rfl]
  have e0 := fun Q => q_has (d := d) (h := h) (Q := Q) hI
  have e1 := fun x Q => q_isT (d := d) (h := h) (Q := Q) (x := x) hI
  rw [hq] at e0
  rw [zN_s hq] at e1
  unfold suchN
  by_cases h1 : w = -1
  · rw [decide_eq_true h1, Bool.true_or]
    subst h1
    simp (disch := omega) only [u_132_0, u_132_1, u_132_4, u_132_7, u_132_8, u_132_9, u_132_12, u_132_13, u_132_14, u_132_17, u_132_20, u_132_21, u_132_22, u_132_24, u_132_25, u_132_28, u_132_31, u_132_32, u_132_35, u_132_36, gI0, gIs, gR0, gRs, gF0, gFs, st0, st_i, st_r, st_f, st_n, st_s, true_and, and_true, ↓ifLeT, ↓ifLeF, ↓ifLtT, ↓ifLtF, ↓ifEqT, ↓ifEqF, if_tt, if_ff, if_pos, if_neg, nLe, nLt, nEq, nInT, nCl, pk_mul, nI_add, Nat.reduceAdd, s_cat_nil, s_cat_i, s_cat_r, s_cat_f, s_cat_l, tl_s, tl_n, cat_i, cat_r, cat_f, nb0, nb1, nbI, if_bI, if_bIr, Nat.zero_le, Nat.reduceLeDiff, S_ob0, S_ob239, e0, Option.isSome, iBt, nI10, reduceIte]
  · rw [decide_eq_false h1, Bool.false_or]
    cases h2 : (ixN w (nF n 3)).isSome with
    | true =>
      rw [Bool.true_or]
      simp (disch := omega) only [u_132_0, u_132_1, u_132_4, u_132_7, u_132_8, u_132_9, u_132_12, u_132_13, u_132_14, u_132_17, u_132_20, u_132_21, u_132_22, u_132_24, u_132_25, u_132_28, u_132_31, u_132_32, u_132_35, u_132_36, gI0, gIs, gR0, gRs, gF0, gFs, st0, st_i, st_r, st_f, st_n, st_s, true_and, and_true, ↓ifLeT, ↓ifLeF, ↓ifLtT, ↓ifLtF, ↓ifEqT, ↓ifEqF, if_tt, if_ff, if_pos, if_neg, nLe, nLt, nEq, nInT, nCl, pk_mul, nI_add, Nat.reduceAdd, s_cat_nil, s_cat_i, s_cat_r, s_cat_f, s_cat_l, tl_s, tl_n, cat_i, cat_r, cat_f, nb0, nb1, nbI, if_bI, if_bIr, Nat.zero_le, Nat.reduceLeDiff, S_ob0, S_ob239, e0, Option.isSome_some, iBt, nI10, reduceIte, h1, e1, h2]
    | false =>
      rw [Bool.false_or]
      cases h3 : (ixN (w - nI 10) (nF n 3)).isSome with
      | true => simp (disch := omega) only [u_132_0, u_132_1, u_132_4, u_132_7, u_132_8, u_132_9, u_132_12, u_132_13, u_132_14, u_132_17, u_132_20, u_132_21, u_132_22, u_132_24, u_132_25, u_132_28, u_132_31, u_132_32, u_132_35, u_132_36, gI0, gIs, gR0, gRs, gF0, gFs, st0, st_i, st_r, st_f, st_n, st_s, true_and, and_true, ↓ifLeT, ↓ifLeF, ↓ifLtT, ↓ifLtF, ↓ifEqT, ↓ifEqF, if_tt, if_ff, if_pos, if_neg, nLe, nLt, nEq, nInT, nCl, pk_mul, nI_add, Nat.reduceAdd, s_cat_nil, s_cat_i, s_cat_r, s_cat_f, s_cat_l, tl_s, tl_n, cat_i, cat_r, cat_f, nb0, nb1, nbI, if_bI, if_bIr, Nat.zero_le, Nat.reduceLeDiff, S_ob0, S_ob239, e0, Option.isSome_some, iBt, iBf, nI10, reduceIte, h1, e1, h2, h3]
      | false => simp (disch := omega) only [u_132_0, u_132_1, u_132_4, u_132_7, u_132_8, u_132_9, u_132_12, u_132_13, u_132_14, u_132_17, u_132_20, u_132_21, u_132_22, u_132_24, u_132_25, u_132_28, u_132_31, u_132_32, u_132_35, u_132_36, gI0, gIs, gR0, gRs, gF0, gFs, st0, st_i, st_r, st_f, st_n, st_s, true_and, and_true, ↓ifLeT, ↓ifLeF, ↓ifLtT, ↓ifLtF, ↓ifEqT, ↓ifEqF, if_tt, if_ff, if_pos, if_neg, nLe, nLt, nEq, nInT, nCl, pk_mul, nI_add, Nat.reduceAdd, s_cat_nil, s_cat_i, s_cat_r, s_cat_f, s_cat_l, tl_s, tl_n, cat_i, cat_r, cat_f, nb0, nb1, nbI, if_bI, if_bIr, Nat.zero_le, Nat.reduceLeDiff, S_ob0, S_ob239, e0, Option.isSome_some, iBt, iBf, nI10, reduceIte, h1, e1, h2, h3]
theorem q_canTell0 (hI : IC s z) (hq : zQ z = none) : MT (d + 2) 132 [.ref 0, .int w] (pS s h) Q ↔ Q (some (.int (nI 0))) (pS s h) := by
  rw [MT_go (by decide) _ _ _ (Nat.le_of_ble_eq_true rfl), show s_entry 132 [.ref 0, .int w] = [.ref 0, .int w] from rfl]
  have e0 := fun Q => q_has (d := d) (h := h) (Q := Q) hI
  rw [hq] at e0
  simp (disch := omega) only [u_132_0, u_132_1, u_132_4, u_132_7, u_132_8, u_132_9, u_132_12, u_132_13, u_132_14, u_132_17, u_132_20, u_132_21, u_132_22, u_132_24, u_132_25, u_132_28, u_132_31, u_132_32, u_132_35, u_132_36, gI0, gIs, gR0, gRs, gF0, gFs, st0, st_i, st_r, st_f, st_n, st_s, true_and, and_true, ↓ifLeT, ↓ifLeF, ↓ifLtT, ↓ifLtF, ↓ifEqT, ↓ifEqF, if_tt, if_ff, if_pos, if_neg, nLe, nLt, nEq, nInT, nCl, pk_mul, nI_add, Nat.reduceAdd, s_cat_nil, s_cat_i, s_cat_r, s_cat_f, s_cat_l, tl_s, tl_n, cat_i, cat_r, cat_f, nb0, nb1, nbI, if_bI, if_bIr, Nat.zero_le, Nat.reduceLeDiff, S_ob0, S_ob239, e0, Option.isSome_none, iBf]
theorem q_few (hI : IC s z) (hq : zQ z = some n) : MT (d + 2) 133 [.ref 0] (pS s h) Q ↔ Q (some (.int (iB (!fewN n)))) (pS s h) := by
  rw [MT_go (by decide) _ _ _ (Nat.le_of_ble_eq_true rfl), show s_entry 133 [.ref 0] = [.ref 0] from rfl]
  obtain ⟨hy, hok⟩ := IC_y hI hq
  have h8 := hok.1.1.2.1
  have e1 := fun Q => tl_Y (s := s) (h := h) (Q := Q) yb24 fun h Q => m_leftBits (d := d) (a := 24) (y := SY s 24) (h := h) (Q := Q)
  rw [left_bits hok.1 hy] at e1
  have e2 := fun Q => m_bitCount (d := d) (h := pS s h) (Q := Q) (lfB_lt hok.1)
  have e3 : pop (lfB n) = sumN (fun t => (!nDone n t).toNat) (nF n 3) := pop_bits8 h8
  have e4 := pop_le (lfB n)
  unfold fewN
  rw [← e3]
  by_cases h1 : pop (lfB n) ≤ 5
  · rw [decide_eq_true h1]
    simp (disch := omega) only [u_133_0, u_133_1, u_133_4, u_133_7, u_133_10, u_133_11, u_133_14, u_133_15, u_133_18, u_133_19, gI0, gIs, gR0, gRs, gF0, gFs, st0, st_i, st_r, st_f, st_n, st_s, true_and, and_true, ↓ifLeT, ↓ifLeF, ↓ifLtT, ↓ifLtF, ↓ifEqT, ↓ifEqF, if_tt, if_ff, if_pos, if_neg, nLe, nLt, nEq, nInT, nCl, pk_mul, nI_add, Nat.reduceAdd, s_cat_nil, s_cat_i, s_cat_r, s_cat_f, s_cat_l, tl_s, tl_n, cat_i, cat_r, cat_f, nb0, nb1, nbI, if_bI, if_bIr, Nat.zero_le, Nat.reduceLeDiff, S_ob0, S_ob239, S_g0_0, S_g0_1, S_g0_2, S_g0_3, S_g0_4, S_g0_5, S_g0_6, S_g0_7, S_g0_8, S_g0_9, S_g0_10, S_g0_11, S_g0_12, S_g0_13, S_g0_14, S_g1_0, S_g1_1, S_g1_2, S_g1_3, S_g1_4, S_g72_0, S_g72_1, S_g72_2, S_g239_0, S_g239_1, S_g239_2, S_g239_3, S_g239_4, S_g239_5, S_g239_6, S_a23, S_n23, S_a282, S_n282, S_a300, S_n300, S_n73, S_n299, Y'_ob (isY_S yb24), Y'_g0 (isY_S yb24), Y'_g1 (isY_S yb24), Y'_g2 (isY_S yb24), Y'_g3 (isY_S yb24), Y'_g4 (isY_S yb24), Y'_g5 (isY_S yb24), Y'_g6 (isY_S yb24), Y'_g7 (isY_S yb24), Y'_g8 (isY_S yb24), Y'_g9 (isY_S yb24), Y'_g10 (isY_S yb24), Y'_g11 (isY_S yb24), Y'_g12 (isY_S yb24), Y'_g13 (isY_S yb24), Y'_g14 (isY_S yb24), Y'_g15 (isY_S yb24), Y'_g16 (isY_S yb24), Y'_g17 (isY_S yb24), Y'_g18 (isY_S yb24), Y'_g19 (isY_S yb24), Y'_a7 (isY_S yb24), Y'_a8 (isY_S yb24), Y'_a10 (isY_S yb24), Y'_a11 (isY_S yb24), Y'_a12 (isY_S yb24), Y'_a13 (isY_S yb24), Y'_a14 (isY_S yb24), Y'_a15 (isY_S yb24), Y'_a16 (isY_S yb24), Y'_a17 (isY_S yb24), Y'_a18 (isY_S yb24), Y'_sw (isY_S yb24), e1, e2, Bool.not_true, iBf]
  · rw [decide_eq_false h1]
    have h2 : ¬ nI (pop (lfB n)) ≤ nI 5 := nI_ge (by omega) (by omega)
    simp (disch := omega) only [u_133_0, u_133_1, u_133_4, u_133_7, u_133_10, u_133_11, u_133_14, u_133_15, u_133_18, u_133_19, gI0, gIs, gR0, gRs, gF0, gFs, st0, st_i, st_r, st_f, st_n, st_s, true_and, and_true, ↓ifLeT, ↓ifLeF, ↓ifLtT, ↓ifLtF, ↓ifEqT, ↓ifEqF, if_tt, if_ff, if_pos, if_neg, nLe, nLt, nEq, nInT, nCl, pk_mul, nI_add, Nat.reduceAdd, s_cat_nil, s_cat_i, s_cat_r, s_cat_f, s_cat_l, tl_s, tl_n, cat_i, cat_r, cat_f, nb0, nb1, nbI, if_bI, if_bIr, Nat.zero_le, Nat.reduceLeDiff, S_ob0, S_ob239, S_g0_0, S_g0_1, S_g0_2, S_g0_3, S_g0_4, S_g0_5, S_g0_6, S_g0_7, S_g0_8, S_g0_9, S_g0_10, S_g0_11, S_g0_12, S_g0_13, S_g0_14, S_g1_0, S_g1_1, S_g1_2, S_g1_3, S_g1_4, S_g72_0, S_g72_1, S_g72_2, S_g239_0, S_g239_1, S_g239_2, S_g239_3, S_g239_4, S_g239_5, S_g239_6, S_a23, S_n23, S_a282, S_n282, S_a300, S_n300, S_n73, S_n299, Y'_ob (isY_S yb24), Y'_g0 (isY_S yb24), Y'_g1 (isY_S yb24), Y'_g2 (isY_S yb24), Y'_g3 (isY_S yb24), Y'_g4 (isY_S yb24), Y'_g5 (isY_S yb24), Y'_g6 (isY_S yb24), Y'_g7 (isY_S yb24), Y'_g8 (isY_S yb24), Y'_g9 (isY_S yb24), Y'_g10 (isY_S yb24), Y'_g11 (isY_S yb24), Y'_g12 (isY_S yb24), Y'_g13 (isY_S yb24), Y'_g14 (isY_S yb24), Y'_g15 (isY_S yb24), Y'_g16 (isY_S yb24), Y'_g17 (isY_S yb24), Y'_g18 (isY_S yb24), Y'_g19 (isY_S yb24), Y'_a7 (isY_S yb24), Y'_a8 (isY_S yb24), Y'_a10 (isY_S yb24), Y'_a11 (isY_S yb24), Y'_a12 (isY_S yb24), Y'_a13 (isY_S yb24), Y'_a14 (isY_S yb24), Y'_a15 (isY_S yb24), Y'_a16 (isY_S yb24), Y'_a17 (isY_S yb24), Y'_a18 (isY_S yb24), Y'_sw (isY_S yb24), e1, e2, Bool.not_false, iBt, h2, reduceIte]
theorem gd283 {o : tO} : gdC 283 o n ↔ RF o (bestN n).2 := Iff.rfl
theorem gd287 {o : tO} : gdC 287 o n ↔ RF o (easyN n) := Iff.rfl
theorem gd291 {o : tO} : gdC 291 o n ↔ RF o (zonesN n).2 := Iff.rfl
theorem gd295 {o : tO} : gdC 295 o n ↔ RB o (betterN n).2 := Iff.rfl
theorem gd301 {o : tO} {j : Nat} (hj : j < 4) : gdC (301 + 4 * j) o n ↔ RF o (bestN (lostN n (2 ^ j))).2 := by
  unfold gdC
  rw [if_neg (by omega), if_neg (by omega), if_neg (by omega), if_neg (by omega), show (301 + 4 * j - 301) / 4 = j by omega]
theorem c283 : cb2 283 := Or.inl rfl
theorem c287 : cb2 287 := Or.inr (Or.inl rfl)
theorem c291 : cb2 291 := Or.inr (Or.inr (Or.inl rfl))
theorem c295 : cb2 295 := Or.inr (Or.inr (Or.inr (Or.inl rfl)))
theorem c301 {j : Nat} (hj : j < 4) : cb2 (301 + 4 * j) := Or.inr (Or.inr (Or.inr (Or.inr ⟨j, hj, rfl⟩)))
theorem IC_found (hI : IC s z) (hq : zQ z = some n) (hb : cb2 b) (hk : eB (SO s b) 1 = true) : gdC b (SO s b) n := by
  obtain ⟨n', e1, e2⟩ := hI.2.2.2.2.2.2 b hb hk
  rw [hq] at e1
  cases e1
  exact e2
theorem f_best (hI : IC s z) (hq : zQ z = some n) (K : ∀ s', IC s' z → RF (SO s' 283) (bestN n).2 → Q none (pS s' h)) : MT (d + 20) 42 [.ref 239, .ref 24, .int (nI 0), .ref 283] (pS s h) Q := by
  obtain ⟨hy, hok⟩ := IC_y hI hq
  refine m_findBest (b := 283) cb283 (by decide) (lo := 0) pow_pos' hok.1 hok.2.1 hy (fun hk => K s hI (IC_found hI hq c283 hk)) fun hk s' hf hr ht => ?_
  rw [lostN_0] at hr
  exact K s' (IC_search hI c283 hf fun _ => ⟨n, hq, RCh_F hr⟩) (RCh_F hr)
theorem f_lack {j : Nat} (hI : IC s z) (hq : zQ z = some n) (hj : j < nF n 2) (K : ∀ s', IC s' z → RF (SO s' (301 + 4 * j)) (bestN (lostN n (2 ^ j))).2 → Q none (pS s' h)) : MT (d + 20) 42 [.ref 239, .ref 24, .int (nI (2 ^ j)), .ref (301 + 4 * j)] (pS s h) Q := by
  obtain ⟨hy, hok⟩ := IC_y hI hq
  have h4 := hok.1.1.1
  have hj4 : j < 4 := by omega
  refine m_findBest (b := 301 + 4 * j) (cbA hj4) (by omega) (lo := 2 ^ j) (Nat.pow_lt_pow_right (by decide) hj) hok.1 hok.2.1 hy (fun hk => K s hI ((gd301 hj4).mp (IC_found hI hq (c301 hj4) hk))) fun hk s' hf hr ht => ?_
  exact K s' (IC_search hI (c301 hj4) hf fun _ => ⟨n, hq, (gd301 hj4).mpr (RCh_F hr)⟩) (RCh_F hr)
theorem f_zones (hI : IC s z) (hq : zQ z = some n) (K : ∀ s', IC s' z → RF (SO s' 291) (zonesN n).2 → Q none (pS s' h)) : MT (d + 12) 44 [.ref 239, .ref 24, .ref 291] (pS s h) Q := by
  obtain ⟨hy, hok⟩ := IC_y hI hq
  refine m_findZones (b := 291) cb291 hok.1 hok.2.1 hy (fun hk => K s hI (IC_found hI hq c291 hk)) fun hk s' hf hr ht => ?_
  exact K s' (IC_search hI c291 hf fun _ => ⟨n, hq, RCh_F hr⟩) (RCh_F hr)
theorem f_easy (hI : IC s z) (hq : zQ z = some n) (K : ∀ s', IC s' z → RF (SO s' 287) (easyN n) → Q none (pS s' h)) : MT (d + 4) 51 [.ref 239, .ref 24, .ref 287] (pS s h) Q := by
  obtain ⟨hy, hok⟩ := IC_y hI hq
  refine m_findEasy (b := 287) cb287 hok.1 hy (fun hk => K s hI (IC_found hI hq c287 hk)) fun hk s' hf hr ht => ?_
  exact K s' (IC_search hI c287 hf fun _ => ⟨n, hq, hr⟩) hr
theorem RChB_B {o : tO} {g : tB} (h : RChB o g) : RB o g.2 := h.2.2
theorem f_better (hI : IC s z) (hq : zQ z = some n) (K : ∀ s', IC s' z → RB (SO s' 295) (betterN n).2 → Q none (pS s' h)) : MT (d + 8) 48 [.ref 239, .ref 24, .int (oI1 (lastN 300 n)), .ref 295] (pS s h) Q := by
  obtain ⟨hy, hok⟩ := IC_y hI hq
  refine m_findBetter (b := 295) cb295 hok.1 hy (fun hk => K s hI (IC_found hI hq c295 hk)) fun hk s' hf hr ht => ?_
  exact K s' (IC_search hI c295 hf fun _ => ⟨n, hq, RChB_B hr⟩) (RChB_B hr)
theorem q_best (hI : IC s z) (K : ∀ s', IC s' z → Q (some (.int (zbest z w))) (pS s' h)) : MT (d + 21) 108 [.ref 0, .int w] (pS s h) Q := by
  rw [MT_go (by decide) _ _ _ (Nat.le_of_ble_eq_true rfl), show s_entry 108 [.ref 0, .int w] = [.ref 0, .int w] from rfl]
  unfold zbest at K
  cases hq : zQ z with
  | none =>
    simp only [hq] at K
    have e0 := fun Q => q_canTell0 (d := d + 18) (h := h) (Q := Q) (w := w) hI hq
    simp (disch := omega) only [u_108_0, u_108_1, u_108_2, u_108_5, u_108_8, u_108_10, u_108_11, u_108_12, u_108_15, u_108_18, u_108_20, u_108_21, u_108_22, u_108_25, u_108_26, u_108_29, u_108_30, u_108_31, u_108_34, u_108_37, u_108_38, u_108_41, u_108_42, u_108_45, gI0, gIs, gR0, gRs, gF0, gFs, st0, st_i, st_r, st_f, st_n, st_s, true_and, and_true, ↓ifLeT, ↓ifLeF, ↓ifLtT, ↓ifLtF, ↓ifEqT, ↓ifEqF, if_tt, if_ff, if_pos, if_neg, nLe, nLt, nEq, nInT, nCl, pk_mul, nI_add, Nat.reduceAdd, s_cat_nil, s_cat_i, s_cat_r, s_cat_f, s_cat_l, tl_s, tl_n, cat_i, cat_r, cat_f, nb0, nb1, nbI, if_bI, if_bIr, Nat.zero_le, Nat.reduceLeDiff, S_ob0, S_ob239, e0]
    exact K s hI
  | some n =>
    simp only [hq] at K
    obtain ⟨hy, hok⟩ := IC_y hI hq
    have e0 := fun Q => q_canTell (d := d + 18) (h := h) (Q := Q) (w := w) hI hq
    have e1 := fun Q => q_few (d := d + 18) (h := h) (Q := Q) hI hq
    cases h1 : suchN n w with
    | false =>
      rw [h1] at e0
      simp only [h1, Bool.false_eq_true, if_false] at K
      simp (disch := omega) only [u_108_0, u_108_1, u_108_2, u_108_5, u_108_8, u_108_10, u_108_11, u_108_12, u_108_15, u_108_18, u_108_20, u_108_21, u_108_22, u_108_25, u_108_26, u_108_29, u_108_30, u_108_31, u_108_34, u_108_37, u_108_38, u_108_41, u_108_42, u_108_45, gI0, gIs, gR0, gRs, gF0, gFs, st0, st_i, st_r, st_f, st_n, st_s, true_and, and_true, ↓ifLeT, ↓ifLeF, ↓ifLtT, ↓ifLtF, ↓ifEqT, ↓ifEqF, if_tt, if_ff, if_pos, if_neg, nLe, nLt, nEq, nInT, nCl, pk_mul, nI_add, Nat.reduceAdd, s_cat_nil, s_cat_i, s_cat_r, s_cat_f, s_cat_l, tl_s, tl_n, cat_i, cat_r, cat_f, nb0, nb1, nbI, if_bI, if_bIr, Nat.zero_le, Nat.reduceLeDiff, S_ob0, S_ob239, e0, iBf]
      exact K s hI
    | true =>
      rw [h1] at e0
      simp only [h1, if_true] at K
      cases h2 : fewN n with
      | false =>
        rw [h2] at e1
        simp only [h2, Bool.false_eq_true, if_false] at K
        simp (disch := omega) only [u_108_0, u_108_1, u_108_2, u_108_5, u_108_8, u_108_10, u_108_11, u_108_12, u_108_15, u_108_18, u_108_20, u_108_21, u_108_22, u_108_25, u_108_26, u_108_29, u_108_30, u_108_31, u_108_34, u_108_37, u_108_38, u_108_41, u_108_42, u_108_45, gI0, gIs, gR0, gRs, gF0, gFs, st0, st_i, st_r, st_f, st_n, st_s, true_and, and_true, ↓ifLeT, ↓ifLeF, ↓ifLtT, ↓ifLtF, ↓ifEqT, ↓ifEqF, if_tt, if_ff, if_pos, if_neg, nLe, nLt, nEq, nInT, nCl, pk_mul, nI_add, Nat.reduceAdd, s_cat_nil, s_cat_i, s_cat_r, s_cat_f, s_cat_l, tl_s, tl_n, cat_i, cat_r, cat_f, nb0, nb1, nbI, if_bI, if_bIr, Nat.zero_le, Nat.reduceLeDiff, S_ob0, S_ob239, e0, e1, iBt, nI10, reduceIte, Bool.not_false]
        exact K s hI
      | true =>
        rw [h2] at e1
        simp only [h2, if_true] at K
        simp (disch := omega) only [u_108_0, u_108_1, u_108_2, u_108_5, u_108_8, u_108_10, u_108_11, u_108_12, u_108_15, u_108_18, u_108_20, u_108_21, u_108_22, u_108_25, u_108_26, u_108_29, u_108_30, u_108_31, u_108_34, u_108_37, u_108_38, u_108_41, u_108_42, u_108_45, gI0, gIs, gR0, gRs, gF0, gFs, st0, st_i, st_r, st_f, st_n, st_s, true_and, and_true, ↓ifLeT, ↓ifLeF, ↓ifLtT, ↓ifLtF, ↓ifEqT, ↓ifEqF, if_tt, if_ff, if_pos, if_neg, nLe, nLt, nEq, nInT, nCl, pk_mul, nI_add, Nat.reduceAdd, s_cat_nil, s_cat_i, s_cat_r, s_cat_f, s_cat_l, tl_s, tl_n, cat_i, cat_r, cat_f, nb0, nb1, nbI, if_bI, if_bIr, Nat.zero_le, Nat.reduceLeDiff, S_ob0, S_ob239, S_g0_0, S_g0_1, S_g0_2, S_g0_3, S_g0_4, S_g0_5, S_g0_6, S_g0_7, S_g0_8, S_g0_9, S_g0_10, S_g0_11, S_g0_12, S_g0_13, S_g0_14, S_g1_0, S_g1_1, S_g1_2, S_g1_3, S_g1_4, S_g72_0, S_g72_1, S_g72_2, S_g239_0, S_g239_1, S_g239_2, S_g239_3, S_g239_4, S_g239_5, S_g239_6, S_a23, S_n23, S_a282, S_n282, S_a300, S_n300, S_n73, S_n299, e0, e1, iBt, iBf, nI10, reduceIte, Bool.not_true]
        refine f_best hI hq fun s' hI' hr => ?_
        simp (disch := omega) only [u_108_0, u_108_1, u_108_2, u_108_5, u_108_8, u_108_10, u_108_11, u_108_12, u_108_15, u_108_18, u_108_20, u_108_21, u_108_22, u_108_25, u_108_26, u_108_29, u_108_30, u_108_31, u_108_34, u_108_37, u_108_38, u_108_41, u_108_42, u_108_45, gI0, gIs, gR0, gRs, gF0, gFs, st0, st_i, st_r, st_f, st_n, st_s, true_and, and_true, ↓ifLeT, ↓ifLeF, ↓ifLtT, ↓ifLtF, ↓ifEqT, ↓ifEqF, if_tt, if_ff, if_pos, if_neg, nLe, nLt, nEq, nInT, nCl, pk_mul, nI_add, Nat.reduceAdd, s_cat_nil, s_cat_i, s_cat_r, s_cat_f, s_cat_l, tl_s, tl_n, cat_i, cat_r, cat_f, nb0, nb1, nbI, if_bI, if_bIr, Nat.zero_le, Nat.reduceLeDiff, S_ob0, S_ob239, S_g0_0, S_g0_1, S_g0_2, S_g0_3, S_g0_4, S_g0_5, S_g0_6, S_g0_7, S_g0_8, S_g0_9, S_g0_10, S_g0_11, S_g0_12, S_g0_13, S_g0_14, S_g1_0, S_g1_1, S_g1_2, S_g1_3, S_g1_4, S_g72_0, S_g72_1, S_g72_2, S_g239_0, S_g239_1, S_g239_2, S_g239_3, S_g239_4, S_g239_5, S_g239_6, S_a23, S_n23, S_a282, S_n282, S_a300, S_n300, S_n73, S_n299, C_ob cb283, q_tell (d := d + 17) cb283 hok.1 hr (fun m l e => best_wf e) h1]
        exact K s' hI'
theorem q_easy (hI : IC s z) (K : ∀ s', IC s' z → Q (some (.int (zeasy z w))) (pS s' h)) : MT (d + 6) 109 [.ref 0, .int w] (pS s h) Q := by
  rw [MT_go (by decide) _ _ _ (Nat.le_of_ble_eq_true rfl), show s_entry 109 [.ref 0, .int w] = [.ref 0, .int w] from rfl]
  unfold zeasy at K
  cases hq : zQ z with
  | none =>
    simp only [hq] at K
    have e0 := fun Q => q_canTell0 (d := d + 3) (h := h) (Q := Q) (w := w) hI hq
    simp (disch := omega) only [u_109_0, u_109_1, u_109_2, u_109_5, u_109_8, u_109_10, u_109_11, u_109_12, u_109_15, u_109_16, u_109_19, u_109_20, u_109_23, u_109_26, u_109_27, u_109_30, u_109_31, u_109_34, gI0, gIs, gR0, gRs, gF0, gFs, st0, st_i, st_r, st_f, st_n, st_s, true_and, and_true, ↓ifLeT, ↓ifLeF, ↓ifLtT, ↓ifLtF, ↓ifEqT, ↓ifEqF, if_tt, if_ff, if_pos, if_neg, nLe, nLt, nEq, nInT, nCl, pk_mul, nI_add, Nat.reduceAdd, s_cat_nil, s_cat_i, s_cat_r, s_cat_f, s_cat_l, tl_s, tl_n, cat_i, cat_r, cat_f, nb0, nb1, nbI, if_bI, if_bIr, Nat.zero_le, Nat.reduceLeDiff, S_ob0, S_ob239, e0]
    exact K s hI
  | some n =>
    simp only [hq] at K
    obtain ⟨hy, hok⟩ := IC_y hI hq
    have e0 := fun Q => q_canTell (d := d + 3) (h := h) (Q := Q) (w := w) hI hq
    cases h1 : suchN n w with
    | false =>
      rw [h1] at e0
      simp only [h1, Bool.false_eq_true, if_false] at K
      simp (disch := omega) only [u_109_0, u_109_1, u_109_2, u_109_5, u_109_8, u_109_10, u_109_11, u_109_12, u_109_15, u_109_16, u_109_19, u_109_20, u_109_23, u_109_26, u_109_27, u_109_30, u_109_31, u_109_34, gI0, gIs, gR0, gRs, gF0, gFs, st0, st_i, st_r, st_f, st_n, st_s, true_and, and_true, ↓ifLeT, ↓ifLeF, ↓ifLtT, ↓ifLtF, ↓ifEqT, ↓ifEqF, if_tt, if_ff, if_pos, if_neg, nLe, nLt, nEq, nInT, nCl, pk_mul, nI_add, Nat.reduceAdd, s_cat_nil, s_cat_i, s_cat_r, s_cat_f, s_cat_l, tl_s, tl_n, cat_i, cat_r, cat_f, nb0, nb1, nbI, if_bI, if_bIr, Nat.zero_le, Nat.reduceLeDiff, S_ob0, S_ob239, e0, iBf]
      exact K s hI
    | true =>
      rw [h1] at e0
      simp only [h1, if_true] at K
      simp (disch := omega) only [u_109_0, u_109_1, u_109_2, u_109_5, u_109_8, u_109_10, u_109_11, u_109_12, u_109_15, u_109_16, u_109_19, u_109_20, u_109_23, u_109_26, u_109_27, u_109_30, u_109_31, u_109_34, gI0, gIs, gR0, gRs, gF0, gFs, st0, st_i, st_r, st_f, st_n, st_s, true_and, and_true, ↓ifLeT, ↓ifLeF, ↓ifLtT, ↓ifLtF, ↓ifEqT, ↓ifEqF, if_tt, if_ff, if_pos, if_neg, nLe, nLt, nEq, nInT, nCl, pk_mul, nI_add, Nat.reduceAdd, s_cat_nil, s_cat_i, s_cat_r, s_cat_f, s_cat_l, tl_s, tl_n, cat_i, cat_r, cat_f, nb0, nb1, nbI, if_bI, if_bIr, Nat.zero_le, Nat.reduceLeDiff, S_ob0, S_ob239, S_g0_0, S_g0_1, S_g0_2, S_g0_3, S_g0_4, S_g0_5, S_g0_6, S_g0_7, S_g0_8, S_g0_9, S_g0_10, S_g0_11, S_g0_12, S_g0_13, S_g0_14, S_g1_0, S_g1_1, S_g1_2, S_g1_3, S_g1_4, S_g72_0, S_g72_1, S_g72_2, S_g239_0, S_g239_1, S_g239_2, S_g239_3, S_g239_4, S_g239_5, S_g239_6, S_a23, S_n23, S_a282, S_n282, S_a300, S_n300, S_n73, S_n299, e0, iBt, nI10, reduceIte]
      refine f_easy (d := d + 1) hI hq fun s' hI' hr => ?_
      simp (disch := omega) only [u_109_0, u_109_1, u_109_2, u_109_5, u_109_8, u_109_10, u_109_11, u_109_12, u_109_15, u_109_16, u_109_19, u_109_20, u_109_23, u_109_26, u_109_27, u_109_30, u_109_31, u_109_34, gI0, gIs, gR0, gRs, gF0, gFs, st0, st_i, st_r, st_f, st_n, st_s, true_and, and_true, ↓ifLeT, ↓ifLeF, ↓ifLtT, ↓ifLtF, ↓ifEqT, ↓ifEqF, if_tt, if_ff, if_pos, if_neg, nLe, nLt, nEq, nInT, nCl, pk_mul, nI_add, Nat.reduceAdd, s_cat_nil, s_cat_i, s_cat_r, s_cat_f, s_cat_l, tl_s, tl_n, cat_i, cat_r, cat_f, nb0, nb1, nbI, if_bI, if_bIr, Nat.zero_le, Nat.reduceLeDiff, S_ob0, S_ob239, S_g0_0, S_g0_1, S_g0_2, S_g0_3, S_g0_4, S_g0_5, S_g0_6, S_g0_7, S_g0_8, S_g0_9, S_g0_10, S_g0_11, S_g0_12, S_g0_13, S_g0_14, S_g1_0, S_g1_1, S_g1_2, S_g1_3, S_g1_4, S_g72_0, S_g72_1, S_g72_2, S_g239_0, S_g239_1, S_g239_2, S_g239_3, S_g239_4, S_g239_5, S_g239_6, S_a23, S_n23, S_a282, S_n282, S_a300, S_n300, S_n73, S_n299, C_ob cb287, q_tell (d := d + 2) cb287 hok.1 hr (fun m l e => easy_wf hok.1 e) h1]
      exact K s' hI'
theorem q_zones (hI : IC s z) (K : ∀ s', IC s' z → Q (some (.int (zzones z w))) (pS s' h)) : MT (d + 13) 110 [.ref 0, .int w] (pS s h) Q := by
  rw [MT_go (by decide) _ _ _ (Nat.le_of_ble_eq_true rfl), show s_entry 110 [.ref 0, .int w] = [.ref 0, .int w] from rfl]
  unfold zzones at K
  cases hq : zQ z with
  | none =>
    simp only [hq] at K
    have e0 := fun Q => q_canTell0 (d := d + 10) (h := h) (Q := Q) (w := w) hI hq
    simp (disch := omega) only [u_110_0, u_110_1, u_110_2, u_110_5, u_110_8, u_110_10, u_110_11, u_110_12, u_110_15, u_110_16, u_110_19, u_110_20, u_110_23, u_110_26, u_110_27, u_110_30, u_110_31, u_110_34, gI0, gIs, gR0, gRs, gF0, gFs, st0, st_i, st_r, st_f, st_n, st_s, true_and, and_true, ↓ifLeT, ↓ifLeF, ↓ifLtT, ↓ifLtF, ↓ifEqT, ↓ifEqF, if_tt, if_ff, if_pos, if_neg, nLe, nLt, nEq, nInT, nCl, pk_mul, nI_add, Nat.reduceAdd, s_cat_nil, s_cat_i, s_cat_r, s_cat_f, s_cat_l, tl_s, tl_n, cat_i, cat_r, cat_f, nb0, nb1, nbI, if_bI, if_bIr, Nat.zero_le, Nat.reduceLeDiff, S_ob0, S_ob239, e0]
    exact K s hI
  | some n =>
    simp only [hq] at K
    obtain ⟨hy, hok⟩ := IC_y hI hq
    have e0 := fun Q => q_canTell (d := d + 10) (h := h) (Q := Q) (w := w) hI hq
    cases h1 : suchN n w with
    | false =>
      rw [h1] at e0
      simp only [h1, Bool.false_eq_true, if_false] at K
      simp (disch := omega) only [u_110_0, u_110_1, u_110_2, u_110_5, u_110_8, u_110_10, u_110_11, u_110_12, u_110_15, u_110_16, u_110_19, u_110_20, u_110_23, u_110_26, u_110_27, u_110_30, u_110_31, u_110_34, gI0, gIs, gR0, gRs, gF0, gFs, st0, st_i, st_r, st_f, st_n, st_s, true_and, and_true, ↓ifLeT, ↓ifLeF, ↓ifLtT, ↓ifLtF, ↓ifEqT, ↓ifEqF, if_tt, if_ff, if_pos, if_neg, nLe, nLt, nEq, nInT, nCl, pk_mul, nI_add, Nat.reduceAdd, s_cat_nil, s_cat_i, s_cat_r, s_cat_f, s_cat_l, tl_s, tl_n, cat_i, cat_r, cat_f, nb0, nb1, nbI, if_bI, if_bIr, Nat.zero_le, Nat.reduceLeDiff, S_ob0, S_ob239, e0, iBf]
      exact K s hI
    | true =>
      rw [h1] at e0
      simp only [h1, if_true] at K
      simp (disch := omega) only [u_110_0, u_110_1, u_110_2, u_110_5, u_110_8, u_110_10, u_110_11, u_110_12, u_110_15, u_110_16, u_110_19, u_110_20, u_110_23, u_110_26, u_110_27, u_110_30, u_110_31, u_110_34, gI0, gIs, gR0, gRs, gF0, gFs, st0, st_i, st_r, st_f, st_n, st_s, true_and, and_true, ↓ifLeT, ↓ifLeF, ↓ifLtT, ↓ifLtF, ↓ifEqT, ↓ifEqF, if_tt, if_ff, if_pos, if_neg, nLe, nLt, nEq, nInT, nCl, pk_mul, nI_add, Nat.reduceAdd, s_cat_nil, s_cat_i, s_cat_r, s_cat_f, s_cat_l, tl_s, tl_n, cat_i, cat_r, cat_f, nb0, nb1, nbI, if_bI, if_bIr, Nat.zero_le, Nat.reduceLeDiff, S_ob0, S_ob239, S_g0_0, S_g0_1, S_g0_2, S_g0_3, S_g0_4, S_g0_5, S_g0_6, S_g0_7, S_g0_8, S_g0_9, S_g0_10, S_g0_11, S_g0_12, S_g0_13, S_g0_14, S_g1_0, S_g1_1, S_g1_2, S_g1_3, S_g1_4, S_g72_0, S_g72_1, S_g72_2, S_g239_0, S_g239_1, S_g239_2, S_g239_3, S_g239_4, S_g239_5, S_g239_6, S_a23, S_n23, S_a282, S_n282, S_a300, S_n300, S_n73, S_n299, e0, iBt, nI10, reduceIte]
      refine f_zones (d := d) hI hq fun s' hI' hr => ?_
      simp (disch := omega) only [u_110_0, u_110_1, u_110_2, u_110_5, u_110_8, u_110_10, u_110_11, u_110_12, u_110_15, u_110_16, u_110_19, u_110_20, u_110_23, u_110_26, u_110_27, u_110_30, u_110_31, u_110_34, gI0, gIs, gR0, gRs, gF0, gFs, st0, st_i, st_r, st_f, st_n, st_s, true_and, and_true, ↓ifLeT, ↓ifLeF, ↓ifLtT, ↓ifLtF, ↓ifEqT, ↓ifEqF, if_tt, if_ff, if_pos, if_neg, nLe, nLt, nEq, nInT, nCl, pk_mul, nI_add, Nat.reduceAdd, s_cat_nil, s_cat_i, s_cat_r, s_cat_f, s_cat_l, tl_s, tl_n, cat_i, cat_r, cat_f, nb0, nb1, nbI, if_bI, if_bIr, Nat.zero_le, Nat.reduceLeDiff, S_ob0, S_ob239, S_g0_0, S_g0_1, S_g0_2, S_g0_3, S_g0_4, S_g0_5, S_g0_6, S_g0_7, S_g0_8, S_g0_9, S_g0_10, S_g0_11, S_g0_12, S_g0_13, S_g0_14, S_g1_0, S_g1_1, S_g1_2, S_g1_3, S_g1_4, S_g72_0, S_g72_1, S_g72_2, S_g239_0, S_g239_1, S_g239_2, S_g239_3, S_g239_4, S_g239_5, S_g239_6, S_a23, S_n23, S_a282, S_n282, S_a300, S_n300, S_n73, S_n299, C_ob cb291, q_tell (d := d + 9) cb291 hok.1 hr (fun m l e => zones_wf hok.1 hok.2.1 e) h1]
      exact K s' hI'
end Q3
