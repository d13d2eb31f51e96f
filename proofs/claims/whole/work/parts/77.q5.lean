/-! the class's calls: acts -/
section Q5
variable {b d : Nat} {s s' : tS} {h : sH} {i x w c t m : Int32} {Q : sQ} {z : tQ} {n n' : tN} {y y' : tY}
theorem sameQ_r : sameQ n n := ⟨rfl, rfl, rfl, fun _ _ => rfl⟩
theorem sameQ_t {a : tN} (h1 : sameQ a n) (h2 : sameQ n n') : sameQ a n' := ⟨h1.1.trans h2.1, h1.2.1.trans h2.2.1, h1.2.2.1.trans h2.2.2.1, fun c hc => (h1.2.2.2 c (by rw [h2.2.2.1]; exact hc)).trans (h2.2.2.2 c hc)⟩
theorem sameQ_s (h : sameQ n n') : sameQ n' n := ⟨h.1.symm, h.2.1.symm, h.2.2.1.symm, fun c hc => (h.2.2.2 c (by rw [← h.2.2.1]; exact hc)).symm⟩
theorem q_ref {k : Nat} (hI : IC s z) (hk : k < 4) (K : ∀ s', IC s' (refZ z k) → Q (some (.int (-1))) (pS s' h)) : MT (d + 1) 134 [.ref 0, .int (nI k)] (pS s h) Q := by
  rw [q_refuse hk]
  exact K _ (IC_refuse hI hk)
theorem kp_B {g : tO} : eB (kpG g) = eB g := by unfold kpG; split <;> rfl
theorem kp_A {g : tO} : eA (kpG g) = eA g := by unfold kpG; split <;> rfl
theorem kpA_ne {g : tO} : 74 ≤ kpA g ∧ kpA g < 234 := by unfold kpA; omega
theorem SY_kp {q : Nat} : SY (kpS s 24) q = if q = kpA (SG s) then cpY (SY s (kpA (SG s))) (SY s 24) else SY s q := rfl
theorem IC_act (hI : IC s z) (hq : zQ z = some n) (hy' : RY y' n') (hok : okQ n') (hs : sameQ n n') (hx : frX (wSY (kpS s 24) 24 y') s') (h5 : eB (SO s' 234) 5 = false) (h1 : ∀ b, cb2 b → eB (SO s' b) 1 = false) : IC s' (actZ z n n') := by
  obtain ⟨hy, hokn⟩ := IC_y hI hq
  obtain ⟨⟨t1, t2, t3, t4⟩, -, ⟨a1, a2, a3⟩, ⟨i1, i2⟩, hr, -⟩ := hI
  obtain ⟨x1, x2, x3, x4⟩ := hx
  have ka := kpA_ne (g := SG s)
  have sy : ∀ q, SY s' q = if q = 24 then y' else if q = kpA (SG s) then cpY (SY s (kpA (SG s))) (SY s 24) else SY s q := fun q => by rw [x2]; rfl
  have g1 : eN (SG s') 201 = eN (kpG (SG s)) 201 := by rw [x1]; rfl
  have g2 : eN (SG s') 202 = eN (kpG (SG s)) 202 + 1 := by rw [x1]; rfl
  have gB : eB (SG s') = eB (SG s) := by rw [x1]; exact kp_B
  have gA : eA (SG s') = eA (SG s) := by rw [x1]; exact kp_A
  obtain ⟨l1, l2⟩ := a1
  refine ⟨⟨by rw [x4]; exact t1, by rw [sy, if_neg (by decide), if_neg (by omega)]; exact t2, by rw [x3]; exact t3, t4⟩, ?_, ⟨?_, ?_, ?_⟩, ⟨by rw [gB]; exact i1, fun a e => ?_⟩, fun k hk => by rw [gA]; exact hr k hk, ⟨fun q => absurd (h5.symm.trans q) (by decide), fun b hb q => absurd ((h1 b hb).symm.trans q) (by decide)⟩⟩
  · show RY (SY s' 24) n' ∧ okQ n'
    rw [sy, if_pos rfl]
    exact ⟨hy', hok⟩
  · have := kpG_ok ⟨l1, l2⟩
    unfold okG
    omega
  · rw [g2]
    show _ = (keepA (zA z) n).length
    unfold keepA kpG
    by_cases e : (zA z).length = 10
    · rw [if_pos (by omega), if_pos e, List.length_append, List.length_tail, e]; rfl
    · rw [if_neg (by omega), if_neg e, List.length_append, a2]; rfl
  · intro j a ha
    have ha : (keepA (zA z) n)[j]? = some a := ha
    have acE : acI s' j = 74 + 16 * ((eN (kpG (SG s)) 201 + j) % 10) := by unfold acI; rw [g1]
    have kE : kpA (SG s) = 74 + 16 * ((eN (kpG (SG s)) 201 + eN (kpG (SG s)) 202) % 10) := rfl
    rw [acE, sy, if_neg (by omega)]
    unfold keepA at ha
    rw [List.getElem?_append] at ha
    by_cases e : (zA z).length = 10
    · have f1 : eN (kpG (SG s)) 201 = (eN (SG s) 201 + 1) % 10 := by unfold kpG; rw [if_pos (by omega)]; rfl
      have f2 : eN (kpG (SG s)) 202 = 9 := by unfold kpG; rw [if_pos (by omega)]; rfl
      rw [if_pos e, List.length_tail, e] at ha
      by_cases hj : j < 10 - 1
      · rw [if_pos hj, List.getElem?_tail] at ha
        obtain ⟨r1, r2, m, r3, r4⟩ := a3 (j + 1) a ha
        rw [if_neg (by omega)]
        have : acI s (j + 1) = 74 + 16 * ((eN (kpG (SG s)) 201 + j) % 10) := by unfold acI; omega
        rw [← this]
        rw [hq] at r3
        cases r3
        exact ⟨r1, r2, n', rfl, sameQ_t r4 hs⟩
      · rw [if_neg hj] at ha
        by_cases h0 : j - (10 - 1) = 0
        · rw [h0] at ha
          cases ha
          rw [if_pos (by omega)]
          exact ⟨RY_cp hy, hokn, n', rfl, hs⟩
        · rw [List.getElem?_eq_none (by simp; omega)] at ha
          cases ha
    · have f1 : eN (kpG (SG s)) 201 = eN (SG s) 201 := by unfold kpG; rw [if_neg (by omega)]
      have f2 : eN (kpG (SG s)) 202 = (zA z).length := by unfold kpG; rw [if_neg (by omega)]; exact a2
      rw [if_neg e] at ha
      by_cases hj : j < (zA z).length
      · rw [if_pos hj] at ha
        obtain ⟨r1, r2, m, r3, r4⟩ := a3 j a ha
        rw [if_neg (by omega)]
        have : acI s j = 74 + 16 * ((eN (kpG (SG s)) 201 + j) % 10) := by unfold acI; omega
        rw [← this]
        rw [hq] at r3
        cases r3
        exact ⟨r1, r2, n', rfl, sameQ_t r4 hs⟩
      · rw [if_neg hj] at ha
        by_cases h0 : j - (zA z).length = 0
        · rw [h0] at ha
          cases ha
          rw [if_pos (by omega)]
          exact ⟨RY_cp hy, hokn, n', rfl, hs⟩
        · rw [List.getElem?_eq_none (by simp; omega)] at ha
          cases ha
  · obtain ⟨r1, r2, m, r3, r4⟩ := i2 a e
    rw [sy, if_neg (by decide), if_neg (by omega)]
    rw [hq] at r3
    cases r3
    exact ⟨r1, r2, n', rfl, sameQ_t r4 hs⟩
theorem k_keep (hI : IC s z) : MT (d + 3) 2 [.ref 72, .ref 24] (pS s h) Q ↔ Q none (pS (kpS s 24) h) := m_keep hI.2.2.1.1
theorem ix1_some {N j : Nat} (hN : N < 2 ^ 30) (h : ixN (x - nI 1) N = some j) : j < N ∧ x = nI (j + 1) := by
  obtain ⟨h1, h2⟩ := ix_some (by omega) h
  refine ⟨h1, ?_⟩
  rw [← nI_add, ← h2, Int32.sub_add_cancel]
theorem ix1_none {N : Nat} (hN : N < 2 ^ 30) (h : ixN (x - nI 1) N = none) : x < nI 1 ∨ (¬ x < nI 1 ∧ nI N < x ∧ ¬ x ≤ nI N) := by
  by_cases h1 : x < nI 1
  · exact Or.inl h1
  · have h2 : nI 0 ≤ x := Int32.le_trans (show nI 0 ≤ nI 1 by decide) (Int32.not_lt.mp h1)
    obtain ⟨k, hk, rfl⟩ := nI_of (x := x) (Int32.not_lt.mpr h2)
    have hk1 : 1 ≤ k := by
      have := mt (nI_lt (a := k) (b := 1) · (by decide)) h1
      omega
    rw [pk_sub hk1] at h
    have : N < k := by
      refine Nat.lt_of_not_le fun q => ?_
      rw [ix_nI (by omega) (by omega)] at h
      cases h
    exact Or.inr ⟨h1, nI_lt this hk, nI_ge this hk⟩
theorem run_A {k : Nat} (h1 : k ≠ 7) (h2 : k ≠ 16) : ∀ j, nA (runN j n) k = nA n k
  | 0 => rfl
  | j + 1 => by
    rw [run_succ]
    have : nA (passN (runN j n)) k = nA (runN j n) k := by
      show (if k = 16 then _ else if k = 7 then _ else nA (runN j n) k) = _
      rw [if_neg h2, if_neg h1]
    rw [this, run_A h1 h2 j]
theorem run_M : ∀ j, nF (runN j n) 4 = nF n 4 + j
  | 0 => rfl
  | j + 1 => by
    rw [run_succ]
    have : nF (passN (runN j n)) 4 = nF (runN j n) 4 + 1 := rfl
    rw [this, run_M j]; rfl
theorem ok_run {j : Nat} (hok : okQ n) (hj : nF n 4 + j ≤ 500) : okQ (runN j n) := by
  obtain ⟨h1, h2, h3, h4⟩ := hok
  refine ⟨wf_run h1 j, by rw [run_F (by decide)]; exact h2, by rw [run_M]; exact hj, fun t ht => ?_⟩
  rw [run_F (by decide)] at ht
  rw [run_A (by decide) (by decide)]
  exact h4 t ht
theorem same_run {j : Nat} : sameQ n (runN j n) := ⟨(run_F (by decide) j).symm, (run_F (by decide) j).symm, (run_F (by decide) j).symm, fun c _ => by rw [run_A (by decide) (by decide)]⟩
theorem go_lp {N : Nat} (hN : N < 2 ^ 20) : ∀ m i s n, i + m = N → RY (SY s 24) n → wfN n → (∀ y', RY y' (runN m n) → WP (d + 2) 95 77 [.ref 0, .int (nI N), .int (nI N)] [] (pS (wSY s 24 y') h) (0, 0) Q) → WP (d + 2) 95 58 [.ref 0, .int (nI N), .int (nI i)] [] (pS s h) (0, 0) Q := by
  intro m
  induction m with
  | zero =>
    intro i s n hi hy hn K
    have e : i = N := by omega
    subst e
    rw [u_95_58]
    simp (disch := omega) only [u_95_0, u_95_1, u_95_4, u_95_7, u_95_8, u_95_9, u_95_12, u_95_13, u_95_14, u_95_15, u_95_18, u_95_19, u_95_21, u_95_24, u_95_25, u_95_28, u_95_31, u_95_32, u_95_33, u_95_36, u_95_39, u_95_40, u_95_41, u_95_44, u_95_45, u_95_46, u_95_49, u_95_50, u_95_53, u_95_56, u_95_57, u_95_59, u_95_60, u_95_63, u_95_64, u_95_67, u_95_70, u_95_71, u_95_74, u_95_78, u_95_81, u_95_82, u_95_85, u_95_88, gI0, gIs, gR0, gRs, gF0, gFs, st0, st_i, st_r, st_f, st_n, st_s, true_and, and_true, ↓ifLeT, ↓ifLeF, ↓ifLtT, ↓ifLtF, ↓ifEqT, ↓ifEqF, if_tt, if_ff, if_pos, if_neg, nLe, nLt, nEq, nInT, nCl, pk_mul, nI_add, Nat.reduceAdd, s_cat_nil, s_cat_i, s_cat_r, s_cat_f, s_cat_l, tl_s, tl_n, cat_i, cat_r, cat_f, nb0, nb1, nbI, if_bI, if_bIr, Nat.zero_le, Nat.reduceLeDiff]
    have := K (SY s 24) hy
    rw [wSY_eta] at this
    exact this
  | succ m ih =>
    intro i s n hi hy hn K
    have e1 := fun Q => tr_Y (s := s) (h := h) (Q := Q) yb24 fun h Q => m_pass (d := d) (a := 24) (y := SY s 24) (h := h) (Q := Q) (RY_ok hn hy)
    obtain ⟨p1, p2, -, -⟩ := pass_rel (fun w b h => good_sw h) hn hy
    rw [u_95_58]
    simp (disch := omega) only [u_95_0, u_95_1, u_95_4, u_95_7, u_95_8, u_95_9, u_95_12, u_95_13, u_95_14, u_95_15, u_95_18, u_95_19, u_95_21, u_95_24, u_95_25, u_95_28, u_95_31, u_95_32, u_95_33, u_95_36, u_95_39, u_95_40, u_95_41, u_95_44, u_95_45, u_95_46, u_95_49, u_95_50, u_95_53, u_95_56, u_95_57, u_95_59, u_95_60, u_95_63, u_95_64, u_95_67, u_95_70, u_95_71, u_95_74, u_95_78, u_95_81, u_95_82, u_95_85, u_95_88, gI0, gIs, gR0, gRs, gF0, gFs, st0, st_i, st_r, st_f, st_n, st_s, true_and, and_true, ↓ifLeT, ↓ifLeF, ↓ifLtT, ↓ifLtF, ↓ifEqT, ↓ifEqF, if_tt, if_ff, if_pos, if_neg, nLe, nLt, nEq, nInT, nCl, pk_mul, nI_add, Nat.reduceAdd, s_cat_nil, s_cat_i, s_cat_r, s_cat_f, s_cat_l, tl_s, tl_n, cat_i, cat_r, cat_f, nb0, nb1, nbI, if_bI, if_bIr, Nat.zero_le, Nat.reduceLeDiff, S_ob0, S_g0_0, S_g0_1, S_g0_2, S_g0_3, S_g0_4, S_g0_5, S_g0_6, S_g0_7, S_g0_8, S_g0_9, S_g0_10, S_g0_11, S_g0_12, S_g0_13, S_g0_14, S_g1_0, S_g1_1, S_g1_2, S_g1_3, S_g1_4, S_g72_0, S_g72_1, S_g72_2, S_g239_0, S_g239_1, S_g239_2, S_g239_3, S_g239_4, S_g239_5, S_g239_6, S_a23, S_n23, S_a282, S_n282, S_a300, S_n300, S_n73, S_n299, Y'_ob (isY_S yb24), Y'_g0 (isY_S yb24), Y'_g1 (isY_S yb24), Y'_g2 (isY_S yb24), Y'_g3 (isY_S yb24), Y'_g4 (isY_S yb24), Y'_g5 (isY_S yb24), Y'_g6 (isY_S yb24), Y'_g7 (isY_S yb24), Y'_g8 (isY_S yb24), Y'_g9 (isY_S yb24), Y'_g10 (isY_S yb24), Y'_g11 (isY_S yb24), Y'_g12 (isY_S yb24), Y'_g13 (isY_S yb24), Y'_g14 (isY_S yb24), Y'_g15 (isY_S yb24), Y'_g16 (isY_S yb24), Y'_g17 (isY_S yb24), Y'_g18 (isY_S yb24), Y'_g19 (isY_S yb24), Y'_a7 (isY_S yb24), Y'_a8 (isY_S yb24), Y'_a10 (isY_S yb24), Y'_a11 (isY_S yb24), Y'_a12 (isY_S yb24), Y'_a13 (isY_S yb24), Y'_a14 (isY_S yb24), Y'_a15 (isY_S yb24), Y'_a16 (isY_S yb24), Y'_a17 (isY_S yb24), Y'_a18 (isY_S yb24), Y'_sw (isY_S yb24), e1]
    refine ih (i + 1) _ (passN n) (by omega) (by rw [SYw]; exact p1) p2 fun y' hy' => ?_
    rw [wSY_tw]
    exact K y' hy'
theorem q_go (hI : IC s z) (K : ∀ s', IC s' (zgo z x).2 → Q (some (.int (zgo z x).1)) (pS s' h)) : MT (d + 5) 95 [.ref 0, .int x] (pS s h) Q := by
  rw [MT_go (by decide) _ _ _ (Nat.le_of_ble_eq_true rfl), show s_entry 95 [.ref 0, .int x] = [.ref 0, .int x, s_no] from rfl]
  have e0 := fun Q => q_has (d := d + 3) (h := h) (Q := Q) hI
  unfold zgo at K
  cases hq : zQ z with
  | none =>
    simp only [hq] at K
    simp (disch := omega) only [u_95_0, u_95_1, u_95_4, u_95_7, u_95_8, u_95_9, u_95_12, u_95_13, u_95_14, u_95_15, u_95_18, u_95_19, u_95_21, u_95_24, u_95_25, u_95_28, u_95_31, u_95_32, u_95_33, u_95_36, u_95_39, u_95_40, u_95_41, u_95_44, u_95_45, u_95_46, u_95_49, u_95_50, u_95_53, u_95_56, u_95_57, u_95_59, u_95_60, u_95_63, u_95_64, u_95_67, u_95_70, u_95_71, u_95_74, u_95_77, u_95_78, u_95_81, u_95_82, u_95_85, u_95_88, gI0, gIs, gR0, gRs, gF0, gFs, st0, st_i, st_r, st_f, st_n, st_s, true_and, and_true, ↓ifLeT, ↓ifLeF, ↓ifLtT, ↓ifLtF, ↓ifEqT, ↓ifEqF, if_tt, if_ff, if_pos, if_neg, nLe, nLt, nEq, nInT, nCl, pk_mul, nI_add, Nat.reduceAdd, s_cat_nil, s_cat_i, s_cat_r, s_cat_f, s_cat_l, tl_s, tl_n, cat_i, cat_r, cat_f, nb0, nb1, nbI, if_bI, if_bIr, Nat.zero_le, Nat.reduceLeDiff, S_ob0, e0, hq, Option.isSome, iBf]
    refine q_ref hI (k := 0) (by decide) fun s' hI' => ?_
    simp (disch := omega) only [u_95_0, u_95_1, u_95_4, u_95_7, u_95_8, u_95_9, u_95_12, u_95_13, u_95_14, u_95_15, u_95_18, u_95_19, u_95_21, u_95_24, u_95_25, u_95_28, u_95_31, u_95_32, u_95_33, u_95_36, u_95_39, u_95_40, u_95_41, u_95_44, u_95_45, u_95_46, u_95_49, u_95_50, u_95_53, u_95_56, u_95_57, u_95_59, u_95_60, u_95_63, u_95_64, u_95_67, u_95_70, u_95_71, u_95_74, u_95_77, u_95_78, u_95_81, u_95_82, u_95_85, u_95_88, gI0, gIs, gR0, gRs, gF0, gFs, st0, st_i, st_r, st_f, st_n, st_s, true_and, and_true, ↓ifLeT, ↓ifLeF, ↓ifLtT, ↓ifLtF, ↓ifEqT, ↓ifEqF, if_tt, if_ff, if_pos, if_neg, nLe, nLt, nEq, nInT, nCl, pk_mul, nI_add, Nat.reduceAdd, s_cat_nil, s_cat_i, s_cat_r, s_cat_f, s_cat_l, tl_s, tl_n, cat_i, cat_r, cat_f, nb0, nb1, nbI, if_bI, if_bIr, Nat.zero_le, Nat.reduceLeDiff]
    exact K s' hI'
  | some n =>
    simp only [hq] at K
    obtain ⟨hy, hok⟩ := IC_y hI hq
    have f4 := hy.1.2.2.2.2.1
    have h500 := hok.2.2.1
    cases h1 : ixN (x - nI 1) 100 with
    | none =>
      simp only [h1] at K
      rcases ix1_none (by decide) h1 with a | ⟨a, b, -⟩
      · simp (disch := omega) only [u_95_0, u_95_1, u_95_4, u_95_7, u_95_8, u_95_9, u_95_12, u_95_13, u_95_14, u_95_15, u_95_18, u_95_19, u_95_21, u_95_24, u_95_25, u_95_28, u_95_31, u_95_32, u_95_33, u_95_36, u_95_39, u_95_40, u_95_41, u_95_44, u_95_45, u_95_46, u_95_49, u_95_50, u_95_53, u_95_56, u_95_57, u_95_59, u_95_60, u_95_63, u_95_64, u_95_67, u_95_70, u_95_71, u_95_74, u_95_77, u_95_78, u_95_81, u_95_82, u_95_85, u_95_88, gI0, gIs, gR0, gRs, gF0, gFs, st0, st_i, st_r, st_f, st_n, st_s, true_and, and_true, ↓ifLeT, ↓ifLeF, ↓ifLtT, ↓ifLtF, ↓ifEqT, ↓ifEqF, if_tt, if_ff, if_pos, if_neg, nLe, nLt, nEq, nInT, nCl, pk_mul, nI_add, Nat.reduceAdd, s_cat_nil, s_cat_i, s_cat_r, s_cat_f, s_cat_l, tl_s, tl_n, cat_i, cat_r, cat_f, nb0, nb1, nbI, if_bI, if_bIr, Nat.zero_le, Nat.reduceLeDiff, S_ob0, e0, hq, Option.isSome, iBt, nI10, reduceIte, a]
        refine q_ref hI (k := 1) (by decide) fun s' hI' => ?_
        simp (disch := omega) only [u_95_0, u_95_1, u_95_4, u_95_7, u_95_8, u_95_9, u_95_12, u_95_13, u_95_14, u_95_15, u_95_18, u_95_19, u_95_21, u_95_24, u_95_25, u_95_28, u_95_31, u_95_32, u_95_33, u_95_36, u_95_39, u_95_40, u_95_41, u_95_44, u_95_45, u_95_46, u_95_49, u_95_50, u_95_53, u_95_56, u_95_57, u_95_59, u_95_60, u_95_63, u_95_64, u_95_67, u_95_70, u_95_71, u_95_74, u_95_77, u_95_78, u_95_81, u_95_82, u_95_85, u_95_88, gI0, gIs, gR0, gRs, gF0, gFs, st0, st_i, st_r, st_f, st_n, st_s, true_and, and_true, ↓ifLeT, ↓ifLeF, ↓ifLtT, ↓ifLtF, ↓ifEqT, ↓ifEqF, if_tt, if_ff, if_pos, if_neg, nLe, nLt, nEq, nInT, nCl, pk_mul, nI_add, Nat.reduceAdd, s_cat_nil, s_cat_i, s_cat_r, s_cat_f, s_cat_l, tl_s, tl_n, cat_i, cat_r, cat_f, nb0, nb1, nbI, if_bI, if_bIr, Nat.zero_le, Nat.reduceLeDiff]
        exact K s' hI'
      · simp (disch := omega) only [u_95_0, u_95_1, u_95_4, u_95_7, u_95_8, u_95_9, u_95_12, u_95_13, u_95_14, u_95_15, u_95_18, u_95_19, u_95_21, u_95_24, u_95_25, u_95_28, u_95_31, u_95_32, u_95_33, u_95_36, u_95_39, u_95_40, u_95_41, u_95_44, u_95_45, u_95_46, u_95_49, u_95_50, u_95_53, u_95_56, u_95_57, u_95_59, u_95_60, u_95_63, u_95_64, u_95_67, u_95_70, u_95_71, u_95_74, u_95_77, u_95_78, u_95_81, u_95_82, u_95_85, u_95_88, gI0, gIs, gR0, gRs, gF0, gFs, st0, st_i, st_r, st_f, st_n, st_s, true_and, and_true, ↓ifLeT, ↓ifLeF, ↓ifLtT, ↓ifLtF, ↓ifEqT, ↓ifEqF, if_tt, if_ff, if_pos, if_neg, nLe, nLt, nEq, nInT, nCl, pk_mul, nI_add, Nat.reduceAdd, s_cat_nil, s_cat_i, s_cat_r, s_cat_f, s_cat_l, tl_s, tl_n, cat_i, cat_r, cat_f, nb0, nb1, nbI, if_bI, if_bIr, Nat.zero_le, Nat.reduceLeDiff, S_ob0, e0, hq, Option.isSome, iBt, nI10, reduceIte, a, b]
        refine q_ref hI (k := 1) (by decide) fun s' hI' => ?_
        simp (disch := omega) only [u_95_0, u_95_1, u_95_4, u_95_7, u_95_8, u_95_9, u_95_12, u_95_13, u_95_14, u_95_15, u_95_18, u_95_19, u_95_21, u_95_24, u_95_25, u_95_28, u_95_31, u_95_32, u_95_33, u_95_36, u_95_39, u_95_40, u_95_41, u_95_44, u_95_45, u_95_46, u_95_49, u_95_50, u_95_53, u_95_56, u_95_57, u_95_59, u_95_60, u_95_63, u_95_64, u_95_67, u_95_70, u_95_71, u_95_74, u_95_77, u_95_78, u_95_81, u_95_82, u_95_85, u_95_88, gI0, gIs, gR0, gRs, gF0, gFs, st0, st_i, st_r, st_f, st_n, st_s, true_and, and_true, ↓ifLeT, ↓ifLeF, ↓ifLtT, ↓ifLtF, ↓ifEqT, ↓ifEqF, if_tt, if_ff, if_pos, if_neg, nLe, nLt, nEq, nInT, nCl, pk_mul, nI_add, Nat.reduceAdd, s_cat_nil, s_cat_i, s_cat_r, s_cat_f, s_cat_l, tl_s, tl_n, cat_i, cat_r, cat_f, nb0, nb1, nbI, if_bI, if_bIr, Nat.zero_le, Nat.reduceLeDiff]
        exact K s' hI'
    | some j =>
      simp only [h1] at K
      obtain ⟨j1, rfl⟩ := ix1_some (by decide) h1
      by_cases h2 : nF n 4 + (j + 1) ≤ 500
      · simp only [if_pos h2] at K
        simp (disch := omega) only [u_95_0, u_95_1, u_95_4, u_95_7, u_95_8, u_95_9, u_95_12, u_95_13, u_95_14, u_95_15, u_95_18, u_95_19, u_95_21, u_95_24, u_95_25, u_95_28, u_95_31, u_95_32, u_95_33, u_95_36, u_95_39, u_95_40, u_95_41, u_95_44, u_95_45, u_95_46, u_95_49, u_95_50, u_95_53, u_95_56, u_95_57, u_95_59, u_95_60, u_95_63, u_95_64, u_95_67, u_95_70, u_95_71, u_95_74, u_95_77, u_95_78, u_95_81, u_95_82, u_95_85, u_95_88, gI0, gIs, gR0, gRs, gF0, gFs, st0, st_i, st_r, st_f, st_n, st_s, true_and, and_true, ↓ifLeT, ↓ifLeF, ↓ifLtT, ↓ifLtF, ↓ifEqT, ↓ifEqF, if_tt, if_ff, if_pos, if_neg, nLe, nLt, nEq, nInT, nCl, pk_mul, nI_add, Nat.reduceAdd, s_cat_nil, s_cat_i, s_cat_r, s_cat_f, s_cat_l, tl_s, tl_n, cat_i, cat_r, cat_f, nb0, nb1, nbI, if_bI, if_bIr, Nat.zero_le, Nat.reduceLeDiff, S_ob0, S_ob72, S_g0_0, S_g0_1, S_g0_2, S_g0_3, S_g0_4, S_g0_5, S_g0_6, S_g0_7, S_g0_8, S_g0_9, S_g0_10, S_g0_11, S_g0_12, S_g0_13, S_g0_14, S_g1_0, S_g1_1, S_g1_2, S_g1_3, S_g1_4, S_g72_0, S_g72_1, S_g72_2, S_g239_0, S_g239_1, S_g239_2, S_g239_3, S_g239_4, S_g239_5, S_g239_6, S_a23, S_n23, S_a282, S_n282, S_a300, S_n300, S_n73, S_n299, Y'_ob (isY_S yb24), Y'_g0 (isY_S yb24), Y'_g1 (isY_S yb24), Y'_g2 (isY_S yb24), Y'_g3 (isY_S yb24), Y'_g4 (isY_S yb24), Y'_g5 (isY_S yb24), Y'_g6 (isY_S yb24), Y'_g7 (isY_S yb24), Y'_g8 (isY_S yb24), Y'_g9 (isY_S yb24), Y'_g10 (isY_S yb24), Y'_g11 (isY_S yb24), Y'_g12 (isY_S yb24), Y'_g13 (isY_S yb24), Y'_g14 (isY_S yb24), Y'_g15 (isY_S yb24), Y'_g16 (isY_S yb24), Y'_g17 (isY_S yb24), Y'_g18 (isY_S yb24), Y'_g19 (isY_S yb24), Y'_a7 (isY_S yb24), Y'_a8 (isY_S yb24), Y'_a10 (isY_S yb24), Y'_a11 (isY_S yb24), Y'_a12 (isY_S yb24), Y'_a13 (isY_S yb24), Y'_a14 (isY_S yb24), Y'_a15 (isY_S yb24), Y'_a16 (isY_S yb24), Y'_a17 (isY_S yb24), Y'_a18 (isY_S yb24), Y'_sw (isY_S yb24), e0, hq, Option.isSome, iBt, nI10, reduceIte, f4, k_keep hI]
        refine go_lp (d := d + 2) (by omega) (j + 1) 0 (kpS s 24) n (Nat.zero_add _) (by rw [SY_kp, if_neg (by have := kpA_ne (g := SG s); omega)]; exact hy) hok.1 fun y' hy' => ?_
        simp (disch := omega) only [u_95_0, u_95_1, u_95_4, u_95_7, u_95_8, u_95_9, u_95_12, u_95_13, u_95_14, u_95_15, u_95_18, u_95_19, u_95_21, u_95_24, u_95_25, u_95_28, u_95_31, u_95_32, u_95_33, u_95_36, u_95_39, u_95_40, u_95_41, u_95_44, u_95_45, u_95_46, u_95_49, u_95_50, u_95_53, u_95_56, u_95_57, u_95_59, u_95_60, u_95_63, u_95_64, u_95_67, u_95_70, u_95_71, u_95_74, u_95_77, u_95_78, u_95_81, u_95_82, u_95_85, u_95_88, gI0, gIs, gR0, gRs, gF0, gFs, st0, st_i, st_r, st_f, st_n, st_s, true_and, and_true, ↓ifLeT, ↓ifLeF, ↓ifLtT, ↓ifLtF, ↓ifEqT, ↓ifEqF, if_tt, if_ff, if_pos, if_neg, nLe, nLt, nEq, nInT, nCl, pk_mul, nI_add, Nat.reduceAdd, s_cat_nil, s_cat_i, s_cat_r, s_cat_f, s_cat_l, tl_s, tl_n, cat_i, cat_r, cat_f, nb0, nb1, nbI, if_bI, if_bIr, Nat.zero_le, Nat.reduceLeDiff, S_ob0]
        refine q_changed fun s' hx h5 hc => ?_
        have hI' := IC_act hI hq hy' (ok_run hok h2) same_run hx h5 hc
        have g4 := (IC_y hI' rfl).1.1.2.2.2.2.1
        simp (disch := omega) only [u_95_0, u_95_1, u_95_4, u_95_7, u_95_8, u_95_9, u_95_12, u_95_13, u_95_14, u_95_15, u_95_18, u_95_19, u_95_21, u_95_24, u_95_25, u_95_28, u_95_31, u_95_32, u_95_33, u_95_36, u_95_39, u_95_40, u_95_41, u_95_44, u_95_45, u_95_46, u_95_49, u_95_50, u_95_53, u_95_56, u_95_57, u_95_59, u_95_60, u_95_63, u_95_64, u_95_67, u_95_70, u_95_71, u_95_74, u_95_77, u_95_78, u_95_81, u_95_82, u_95_85, u_95_88, gI0, gIs, gR0, gRs, gF0, gFs, st0, st_i, st_r, st_f, st_n, st_s, true_and, and_true, ↓ifLeT, ↓ifLeF, ↓ifLtT, ↓ifLtF, ↓ifEqT, ↓ifEqF, if_tt, if_ff, if_pos, if_neg, nLe, nLt, nEq, nInT, nCl, pk_mul, nI_add, Nat.reduceAdd, s_cat_nil, s_cat_i, s_cat_r, s_cat_f, s_cat_l, tl_s, tl_n, cat_i, cat_r, cat_f, nb0, nb1, nbI, if_bI, if_bIr, Nat.zero_le, Nat.reduceLeDiff, S_ob0, S_g0_0, S_g0_1, S_g0_2, S_g0_3, S_g0_4, S_g0_5, S_g0_6, S_g0_7, S_g0_8, S_g0_9, S_g0_10, S_g0_11, S_g0_12, S_g0_13, S_g0_14, S_g1_0, S_g1_1, S_g1_2, S_g1_3, S_g1_4, S_g72_0, S_g72_1, S_g72_2, S_g239_0, S_g239_1, S_g239_2, S_g239_3, S_g239_4, S_g239_5, S_g239_6, S_a23, S_n23, S_a282, S_n282, S_a300, S_n300, S_n73, S_n299, Y'_ob (isY_S yb24), Y'_g0 (isY_S yb24), Y'_g1 (isY_S yb24), Y'_g2 (isY_S yb24), Y'_g3 (isY_S yb24), Y'_g4 (isY_S yb24), Y'_g5 (isY_S yb24), Y'_g6 (isY_S yb24), Y'_g7 (isY_S yb24), Y'_g8 (isY_S yb24), Y'_g9 (isY_S yb24), Y'_g10 (isY_S yb24), Y'_g11 (isY_S yb24), Y'_g12 (isY_S yb24), Y'_g13 (isY_S yb24), Y'_g14 (isY_S yb24), Y'_g15 (isY_S yb24), Y'_g16 (isY_S yb24), Y'_g17 (isY_S yb24), Y'_g18 (isY_S yb24), Y'_g19 (isY_S yb24), Y'_a7 (isY_S yb24), Y'_a8 (isY_S yb24), Y'_a10 (isY_S yb24), Y'_a11 (isY_S yb24), Y'_a12 (isY_S yb24), Y'_a13 (isY_S yb24), Y'_a14 (isY_S yb24), Y'_a15 (isY_S yb24), Y'_a16 (isY_S yb24), Y'_a17 (isY_S yb24), Y'_a18 (isY_S yb24), Y'_sw (isY_S yb24), g4, run_M]
        exact K s' hI'
      · simp only [if_neg h2] at K
        have h3 : ¬ nI (nF n 4 + (j + 1)) ≤ nI 500 := nI_ge (by omega) (by omega)
        simp (disch := omega) only [u_95_0, u_95_1, u_95_4, u_95_7, u_95_8, u_95_9, u_95_12, u_95_13, u_95_14, u_95_15, u_95_18, u_95_19, u_95_21, u_95_24, u_95_25, u_95_28, u_95_31, u_95_32, u_95_33, u_95_36, u_95_39, u_95_40, u_95_41, u_95_44, u_95_45, u_95_46, u_95_49, u_95_50, u_95_53, u_95_56, u_95_57, u_95_59, u_95_60, u_95_63, u_95_64, u_95_67, u_95_70, u_95_71, u_95_74, u_95_77, u_95_78, u_95_81, u_95_82, u_95_85, u_95_88, gI0, gIs, gR0, gRs, gF0, gFs, st0, st_i, st_r, st_f, st_n, st_s, true_and, and_true, ↓ifLeT, ↓ifLeF, ↓ifLtT, ↓ifLtF, ↓ifEqT, ↓ifEqF, if_tt, if_ff, if_pos, if_neg, nLe, nLt, nEq, nInT, nCl, pk_mul, nI_add, Nat.reduceAdd, s_cat_nil, s_cat_i, s_cat_r, s_cat_f, s_cat_l, tl_s, tl_n, cat_i, cat_r, cat_f, nb0, nb1, nbI, if_bI, if_bIr, Nat.zero_le, Nat.reduceLeDiff, S_ob0, S_g0_0, S_g0_1, S_g0_2, S_g0_3, S_g0_4, S_g0_5, S_g0_6, S_g0_7, S_g0_8, S_g0_9, S_g0_10, S_g0_11, S_g0_12, S_g0_13, S_g0_14, S_g1_0, S_g1_1, S_g1_2, S_g1_3, S_g1_4, S_g72_0, S_g72_1, S_g72_2, S_g239_0, S_g239_1, S_g239_2, S_g239_3, S_g239_4, S_g239_5, S_g239_6, S_a23, S_n23, S_a282, S_n282, S_a300, S_n300, S_n73, S_n299, Y'_ob (isY_S yb24), Y'_g0 (isY_S yb24), Y'_g1 (isY_S yb24), Y'_g2 (isY_S yb24), Y'_g3 (isY_S yb24), Y'_g4 (isY_S yb24), Y'_g5 (isY_S yb24), Y'_g6 (isY_S yb24), Y'_g7 (isY_S yb24), Y'_g8 (isY_S yb24), Y'_g9 (isY_S yb24), Y'_g10 (isY_S yb24), Y'_g11 (isY_S yb24), Y'_g12 (isY_S yb24), Y'_g13 (isY_S yb24), Y'_g14 (isY_S yb24), Y'_g15 (isY_S yb24), Y'_g16 (isY_S yb24), Y'_g17 (isY_S yb24), Y'_g18 (isY_S yb24), Y'_g19 (isY_S yb24), Y'_a7 (isY_S yb24), Y'_a8 (isY_S yb24), Y'_a10 (isY_S yb24), Y'_a11 (isY_S yb24), Y'_a12 (isY_S yb24), Y'_a13 (isY_S yb24), Y'_a14 (isY_S yb24), Y'_a15 (isY_S yb24), Y'_a16 (isY_S yb24), Y'_a17 (isY_S yb24), Y'_a18 (isY_S yb24), Y'_sw (isY_S yb24), e0, hq, Option.isSome, iBt, nI10, reduceIte, f4, h3]
        refine q_ref hI (k := 1) (by decide) fun s' hI' => ?_
        simp (disch := omega) only [u_95_0, u_95_1, u_95_4, u_95_7, u_95_8, u_95_9, u_95_12, u_95_13, u_95_14, u_95_15, u_95_18, u_95_19, u_95_21, u_95_24, u_95_25, u_95_28, u_95_31, u_95_32, u_95_33, u_95_36, u_95_39, u_95_40, u_95_41, u_95_44, u_95_45, u_95_46, u_95_49, u_95_50, u_95_53, u_95_56, u_95_57, u_95_59, u_95_60, u_95_63, u_95_64, u_95_67, u_95_70, u_95_71, u_95_74, u_95_77, u_95_78, u_95_81, u_95_82, u_95_85, u_95_88, gI0, gIs, gR0, gRs, gF0, gFs, st0, st_i, st_r, st_f, st_n, st_s, true_and, and_true, ↓ifLeT, ↓ifLeF, ↓ifLtT, ↓ifLtF, ↓ifEqT, ↓ifEqF, if_tt, if_ff, if_pos, if_neg, nLe, nLt, nEq, nInT, nCl, pk_mul, nI_add, Nat.reduceAdd, s_cat_nil, s_cat_i, s_cat_r, s_cat_f, s_cat_l, tl_s, tl_n, cat_i, cat_r, cat_f, nb0, nb1, nbI, if_bI, if_bIr, Nat.zero_le, Nat.reduceLeDiff]
        exact K s' hI'
theorem xor_bit {f : Nat → Bool} {j k : Nat} {v : Bool} (hj : j < k) (hv : ¬ f j = v) : bitsN f k ^^^ 2 ^ j = bitsN (set1 f j v) k := by
  refine bitsN_eq (Nat.xor_lt_two_pow (bitsN_lt k) (Nat.pow_lt_pow_right (by decide) hj)) fun i hi => ?_
  rw [Nat.testBit_xor, bitsN_tb, Nat.testBit_two_pow, decide_eq_true hi, Bool.true_and]
  unfold set1
  by_cases e : i = j
  · subst e
    rw [if_pos rfl, decide_eq_true rfl]
    cases h1 : f i <;> cases v <;> simp_all
  · rw [if_neg e, decide_eq_false (fun q => e q.symm), Bool.xor_false]
theorem q_breaks {v : Bool} (hI : IC s z) (K : ∀ s', IC s' (zbreaks z c v).2 → Q (some (.int (zbreaks z c v).1)) (pS s' h)) : MT (d + 5) 96 [.ref 0, .int c, .int (iB v)] (pS s h) Q := by
  rw [MT_go (by decide) _ _ _ (Nat.le_of_ble_eq_true rfl), show s_entry 96 [.ref 0, .int c, .int (iB v)] = [.ref 0, .int c, .int (iB v)] from rfl]
  have e1 := fun Q => q_isC (d := d + 3) (h := h) (Q := Q) (x := c) hI
  unfold zbreaks at K
  cases hq : zQ z with
  | none =>
    simp only [hq] at K
    rw [zC_0 hq, ix_0] at e1
    simp (disch := omega) only [u_96_0, u_96_1, u_96_2, u_96_5, u_96_8, u_96_9, u_96_10, u_96_13, u_96_14, u_96_15, u_96_18, u_96_19, u_96_22, u_96_23, u_96_26, u_96_27, u_96_28, u_96_31, u_96_32, u_96_33, u_96_36, u_96_37, u_96_40, u_96_43, u_96_44, u_96_47, u_96_48, u_96_51, u_96_52, u_96_53, u_96_54, u_96_55, u_96_58, u_96_59, u_96_62, u_96_63, u_96_66, u_96_69, u_96_72, gI0, gIs, gR0, gRs, gF0, gFs, st0, st_i, st_r, st_f, st_n, st_s, true_and, and_true, ↓ifLeT, ↓ifLeF, ↓ifLtT, ↓ifLtF, ↓ifEqT, ↓ifEqF, if_tt, if_ff, if_pos, if_neg, nLe, nLt, nEq, nInT, nCl, pk_mul, nI_add, Nat.reduceAdd, s_cat_nil, s_cat_i, s_cat_r, s_cat_f, s_cat_l, tl_s, tl_n, cat_i, cat_r, cat_f, nb0, nb1, nbI, if_bI, if_bIr, Nat.zero_le, Nat.reduceLeDiff, S_ob0, e1, Option.isSome, iBf]
    refine q_ref hI (k := 0) (by decide) fun s' hI' => ?_
    simp (disch := omega) only [u_96_0, u_96_1, u_96_2, u_96_5, u_96_8, u_96_9, u_96_10, u_96_13, u_96_14, u_96_15, u_96_18, u_96_19, u_96_22, u_96_23, u_96_26, u_96_27, u_96_28, u_96_31, u_96_32, u_96_33, u_96_36, u_96_37, u_96_40, u_96_43, u_96_44, u_96_47, u_96_48, u_96_51, u_96_52, u_96_53, u_96_54, u_96_55, u_96_58, u_96_59, u_96_62, u_96_63, u_96_66, u_96_69, u_96_72, gI0, gIs, gR0, gRs, gF0, gFs, st0, st_i, st_r, st_f, st_n, st_s, true_and, and_true, ↓ifLeT, ↓ifLeF, ↓ifLtT, ↓ifLtF, ↓ifEqT, ↓ifEqF, if_tt, if_ff, if_pos, if_neg, nLe, nLt, nEq, nInT, nCl, pk_mul, nI_add, Nat.reduceAdd, s_cat_nil, s_cat_i, s_cat_r, s_cat_f, s_cat_l, tl_s, tl_n, cat_i, cat_r, cat_f, nb0, nb1, nbI, if_bI, if_bIr, Nat.zero_le, Nat.reduceLeDiff]
    exact K s' hI'
  | some n =>
    simp only [hq] at K
    rw [zC_s hq] at e1
    obtain ⟨hy, hok⟩ := IC_y hI hq
    have h4 := hok.1.1.1
    cases h1 : ixN c (nF n 2) with
    | none =>
      rw [h1] at e1
      simp only [h1] at K
      simp (disch := omega) only [u_96_0, u_96_1, u_96_2, u_96_5, u_96_8, u_96_9, u_96_10, u_96_13, u_96_14, u_96_15, u_96_18, u_96_19, u_96_22, u_96_23, u_96_26, u_96_27, u_96_28, u_96_31, u_96_32, u_96_33, u_96_36, u_96_37, u_96_40, u_96_43, u_96_44, u_96_47, u_96_48, u_96_51, u_96_52, u_96_53, u_96_54, u_96_55, u_96_58, u_96_59, u_96_62, u_96_63, u_96_66, u_96_69, u_96_72, gI0, gIs, gR0, gRs, gF0, gFs, st0, st_i, st_r, st_f, st_n, st_s, true_and, and_true, ↓ifLeT, ↓ifLeF, ↓ifLtT, ↓ifLtF, ↓ifEqT, ↓ifEqF, if_tt, if_ff, if_pos, if_neg, nLe, nLt, nEq, nInT, nCl, pk_mul, nI_add, Nat.reduceAdd, s_cat_nil, s_cat_i, s_cat_r, s_cat_f, s_cat_l, tl_s, tl_n, cat_i, cat_r, cat_f, nb0, nb1, nbI, if_bI, if_bIr, Nat.zero_le, Nat.reduceLeDiff, S_ob0, e1, Option.isSome, iBf]
      refine q_ref hI (k := 0) (by decide) fun s' hI' => ?_
      simp (disch := omega) only [u_96_0, u_96_1, u_96_2, u_96_5, u_96_8, u_96_9, u_96_10, u_96_13, u_96_14, u_96_15, u_96_18, u_96_19, u_96_22, u_96_23, u_96_26, u_96_27, u_96_28, u_96_31, u_96_32, u_96_33, u_96_36, u_96_37, u_96_40, u_96_43, u_96_44, u_96_47, u_96_48, u_96_51, u_96_52, u_96_53, u_96_54, u_96_55, u_96_58, u_96_59, u_96_62, u_96_63, u_96_66, u_96_69, u_96_72, gI0, gIs, gR0, gRs, gF0, gFs, st0, st_i, st_r, st_f, st_n, st_s, true_and, and_true, ↓ifLeT, ↓ifLeF, ↓ifLtT, ↓ifLtF, ↓ifEqT, ↓ifEqF, if_tt, if_ff, if_pos, if_neg, nLe, nLt, nEq, nInT, nCl, pk_mul, nI_add, Nat.reduceAdd, s_cat_nil, s_cat_i, s_cat_r, s_cat_f, s_cat_l, tl_s, tl_n, cat_i, cat_r, cat_f, nb0, nb1, nbI, if_bI, if_bIr, Nat.zero_le, Nat.reduceLeDiff]
      exact K s' hI'
    | some j =>
      rw [h1] at e1
      simp only [h1] at K
      obtain ⟨j1, rfl⟩ := ix_some (by omega) h1
      have e2 := fun Q => N_brk (d := d + 3) (h := h) (Q := Q) hy hok.1 j1
      by_cases h2 : nK n j = v
      · simp only [if_pos h2] at K
        rw [h2] at e2
        simp (disch := omega) only [u_96_0, u_96_1, u_96_2, u_96_5, u_96_8, u_96_9, u_96_10, u_96_13, u_96_14, u_96_15, u_96_18, u_96_19, u_96_22, u_96_23, u_96_26, u_96_27, u_96_28, u_96_31, u_96_32, u_96_33, u_96_36, u_96_37, u_96_40, u_96_43, u_96_44, u_96_47, u_96_48, u_96_51, u_96_52, u_96_53, u_96_54, u_96_55, u_96_58, u_96_59, u_96_62, u_96_63, u_96_66, u_96_69, u_96_72, gI0, gIs, gR0, gRs, gF0, gFs, st0, st_i, st_r, st_f, st_n, st_s, true_and, and_true, ↓ifLeT, ↓ifLeF, ↓ifLtT, ↓ifLtF, ↓ifEqT, ↓ifEqF, if_tt, if_ff, if_pos, if_neg, nLe, nLt, nEq, nInT, nCl, pk_mul, nI_add, Nat.reduceAdd, s_cat_nil, s_cat_i, s_cat_r, s_cat_f, s_cat_l, tl_s, tl_n, cat_i, cat_r, cat_f, nb0, nb1, nbI, if_bI, if_bIr, Nat.zero_le, Nat.reduceLeDiff, S_ob0, S_g0_0, S_g0_1, S_g0_2, S_g0_3, S_g0_4, S_g0_5, S_g0_6, S_g0_7, S_g0_8, S_g0_9, S_g0_10, S_g0_11, S_g0_12, S_g0_13, S_g0_14, S_g1_0, S_g1_1, S_g1_2, S_g1_3, S_g1_4, S_g72_0, S_g72_1, S_g72_2, S_g239_0, S_g239_1, S_g239_2, S_g239_3, S_g239_4, S_g239_5, S_g239_6, S_a23, S_n23, S_a282, S_n282, S_a300, S_n300, S_n73, S_n299, Y'_ob (isY_S yb24), Y'_g0 (isY_S yb24), Y'_g1 (isY_S yb24), Y'_g2 (isY_S yb24), Y'_g3 (isY_S yb24), Y'_g4 (isY_S yb24), Y'_g5 (isY_S yb24), Y'_g6 (isY_S yb24), Y'_g7 (isY_S yb24), Y'_g8 (isY_S yb24), Y'_g9 (isY_S yb24), Y'_g10 (isY_S yb24), Y'_g11 (isY_S yb24), Y'_g12 (isY_S yb24), Y'_g13 (isY_S yb24), Y'_g14 (isY_S yb24), Y'_g15 (isY_S yb24), Y'_g16 (isY_S yb24), Y'_g17 (isY_S yb24), Y'_g18 (isY_S yb24), Y'_g19 (isY_S yb24), Y'_a7 (isY_S yb24), Y'_a8 (isY_S yb24), Y'_a10 (isY_S yb24), Y'_a11 (isY_S yb24), Y'_a12 (isY_S yb24), Y'_a13 (isY_S yb24), Y'_a14 (isY_S yb24), Y'_a15 (isY_S yb24), Y'_a16 (isY_S yb24), Y'_a17 (isY_S yb24), Y'_a18 (isY_S yb24), Y'_sw (isY_S yb24), e1, Option.isSome, iBt, nI10, reduceIte, e2]
        refine q_ref hI (k := 2) (by decide) fun s' hI' => ?_
        simp (disch := omega) only [u_96_0, u_96_1, u_96_2, u_96_5, u_96_8, u_96_9, u_96_10, u_96_13, u_96_14, u_96_15, u_96_18, u_96_19, u_96_22, u_96_23, u_96_26, u_96_27, u_96_28, u_96_31, u_96_32, u_96_33, u_96_36, u_96_37, u_96_40, u_96_43, u_96_44, u_96_47, u_96_48, u_96_51, u_96_52, u_96_53, u_96_54, u_96_55, u_96_58, u_96_59, u_96_62, u_96_63, u_96_66, u_96_69, u_96_72, gI0, gIs, gR0, gRs, gF0, gFs, st0, st_i, st_r, st_f, st_n, st_s, true_and, and_true, ↓ifLeT, ↓ifLeF, ↓ifLtT, ↓ifLtF, ↓ifEqT, ↓ifEqF, if_tt, if_ff, if_pos, if_neg, nLe, nLt, nEq, nInT, nCl, pk_mul, nI_add, Nat.reduceAdd, s_cat_nil, s_cat_i, s_cat_r, s_cat_f, s_cat_l, tl_s, tl_n, cat_i, cat_r, cat_f, nb0, nb1, nbI, if_bI, if_bIr, Nat.zero_le, Nat.reduceLeDiff]
        exact K s' hI'
      · simp only [if_neg h2] at K
        have h3 : ¬ iB (nK n j) = iB v := by
          intro q
          revert h2 q
          cases nK n j <;> cases v <;> simp [iB, nI10] <;> decide
        have f5 := hy.1.2.2.2.2.2.1
        have ka := kpA_ne (g := SG s)
        have y24 : SY (kpS s 24) 24 = SY s 24 := by rw [SY_kp, if_neg (by omega)]
        have sh := i_shl1 (c := j) (by omega)
        have hx2 : nI (bitsN (nK n) (nF n 2)) ^^^ nI (2 ^ j) = nI (bitsN (set1 (nK n) j v) (nF n 2)) := by rw [fa_xor, xor_bit j1 h2]
        have hy' : RY (uS (SY s 24) 5 (nI (bitsN (set1 (nK n) j v) (nF n 2)))) (jK n (set1 (nK n) j v)) := RY_K hy
        have hok' : okQ (jK n (set1 (nK n) j v)) := hok
        simp (disch := omega) only [u_96_0, u_96_1, u_96_2, u_96_5, u_96_8, u_96_9, u_96_10, u_96_13, u_96_14, u_96_15, u_96_18, u_96_19, u_96_22, u_96_23, u_96_26, u_96_27, u_96_28, u_96_31, u_96_32, u_96_33, u_96_36, u_96_37, u_96_40, u_96_43, u_96_44, u_96_47, u_96_48, u_96_51, u_96_52, u_96_53, u_96_54, u_96_55, u_96_58, u_96_59, u_96_62, u_96_63, u_96_66, u_96_69, u_96_72, gI0, gIs, gR0, gRs, gF0, gFs, st0, st_i, st_r, st_f, st_n, st_s, true_and, and_true, ↓ifLeT, ↓ifLeF, ↓ifLtT, ↓ifLtF, ↓ifEqT, ↓ifEqF, if_tt, if_ff, if_pos, if_neg, nLe, nLt, nEq, nInT, nCl, pk_mul, nI_add, Nat.reduceAdd, s_cat_nil, s_cat_i, s_cat_r, s_cat_f, s_cat_l, tl_s, tl_n, cat_i, cat_r, cat_f, nb0, nb1, nbI, if_bI, if_bIr, Nat.zero_le, Nat.reduceLeDiff, S_ob0, S_ob72, S_g0_0, S_g0_1, S_g0_2, S_g0_3, S_g0_4, S_g0_5, S_g0_6, S_g0_7, S_g0_8, S_g0_9, S_g0_10, S_g0_11, S_g0_12, S_g0_13, S_g0_14, S_g1_0, S_g1_1, S_g1_2, S_g1_3, S_g1_4, S_g72_0, S_g72_1, S_g72_2, S_g239_0, S_g239_1, S_g239_2, S_g239_3, S_g239_4, S_g239_5, S_g239_6, S_a23, S_n23, S_a282, S_n282, S_a300, S_n300, S_n73, S_n299, Y'_ob (isY_S yb24), Y'_g0 (isY_S yb24), Y'_g1 (isY_S yb24), Y'_g2 (isY_S yb24), Y'_g3 (isY_S yb24), Y'_g4 (isY_S yb24), Y'_g5 (isY_S yb24), Y'_g6 (isY_S yb24), Y'_g7 (isY_S yb24), Y'_g8 (isY_S yb24), Y'_g9 (isY_S yb24), Y'_g10 (isY_S yb24), Y'_g11 (isY_S yb24), Y'_g12 (isY_S yb24), Y'_g13 (isY_S yb24), Y'_g14 (isY_S yb24), Y'_g15 (isY_S yb24), Y'_g16 (isY_S yb24), Y'_g17 (isY_S yb24), Y'_g18 (isY_S yb24), Y'_g19 (isY_S yb24), Y'_a7 (isY_S yb24), Y'_a8 (isY_S yb24), Y'_a10 (isY_S yb24), Y'_a11 (isY_S yb24), Y'_a12 (isY_S yb24), Y'_a13 (isY_S yb24), Y'_a14 (isY_S yb24), Y'_a15 (isY_S yb24), Y'_a16 (isY_S yb24), Y'_a17 (isY_S yb24), Y'_a18 (isY_S yb24), Y'_sw (isY_S yb24), e1, Option.isSome, iBt, nI10, reduceIte, e2, h3, k_keep hI, y24, f5, sh, hx2, SY_s5 yb24]
        refine q_changed fun s' hx h5 hc => ?_
        have hI' := IC_act hI hq hy' hok' ⟨rfl, rfl, rfl, fun _ _ => rfl⟩ hx h5 hc
        have g5 := (IC_y hI' rfl).1.1.2.2.2.2.2.1
        have g5 : yB (SY s' 24) 5 = nI (bitsN (set1 (nK n) j v) (nF n 2)) := g5
        have e3 := fun Q => m_bitCount (d := d + 3) (h := pS s' h) (Q := Q) (bitsN_256 (f := set1 (nK n) j v) (k := nF n 2) (by omega))
        rw [pop_bits8 (by omega)] at e3
        simp (disch := omega) only [u_96_0, u_96_1, u_96_2, u_96_5, u_96_8, u_96_9, u_96_10, u_96_13, u_96_14, u_96_15, u_96_18, u_96_19, u_96_22, u_96_23, u_96_26, u_96_27, u_96_28, u_96_31, u_96_32, u_96_33, u_96_36, u_96_37, u_96_40, u_96_43, u_96_44, u_96_47, u_96_48, u_96_51, u_96_52, u_96_53, u_96_54, u_96_55, u_96_58, u_96_59, u_96_62, u_96_63, u_96_66, u_96_69, u_96_72, gI0, gIs, gR0, gRs, gF0, gFs, st0, st_i, st_r, st_f, st_n, st_s, true_and, and_true, ↓ifLeT, ↓ifLeF, ↓ifLtT, ↓ifLtF, ↓ifEqT, ↓ifEqF, if_tt, if_ff, if_pos, if_neg, nLe, nLt, nEq, nInT, nCl, pk_mul, nI_add, Nat.reduceAdd, s_cat_nil, s_cat_i, s_cat_r, s_cat_f, s_cat_l, tl_s, tl_n, cat_i, cat_r, cat_f, nb0, nb1, nbI, if_bI, if_bIr, Nat.zero_le, Nat.reduceLeDiff, S_ob0, S_g0_0, S_g0_1, S_g0_2, S_g0_3, S_g0_4, S_g0_5, S_g0_6, S_g0_7, S_g0_8, S_g0_9, S_g0_10, S_g0_11, S_g0_12, S_g0_13, S_g0_14, S_g1_0, S_g1_1, S_g1_2, S_g1_3, S_g1_4, S_g72_0, S_g72_1, S_g72_2, S_g239_0, S_g239_1, S_g239_2, S_g239_3, S_g239_4, S_g239_5, S_g239_6, S_a23, S_n23, S_a282, S_n282, S_a300, S_n300, S_n73, S_n299, Y'_ob (isY_S yb24), Y'_g0 (isY_S yb24), Y'_g1 (isY_S yb24), Y'_g2 (isY_S yb24), Y'_g3 (isY_S yb24), Y'_g4 (isY_S yb24), Y'_g5 (isY_S yb24), Y'_g6 (isY_S yb24), Y'_g7 (isY_S yb24), Y'_g8 (isY_S yb24), Y'_g9 (isY_S yb24), Y'_g10 (isY_S yb24), Y'_g11 (isY_S yb24), Y'_g12 (isY_S yb24), Y'_g13 (isY_S yb24), Y'_g14 (isY_S yb24), Y'_g15 (isY_S yb24), Y'_g16 (isY_S yb24), Y'_g17 (isY_S yb24), Y'_g18 (isY_S yb24), Y'_g19 (isY_S yb24), Y'_a7 (isY_S yb24), Y'_a8 (isY_S yb24), Y'_a10 (isY_S yb24), Y'_a11 (isY_S yb24), Y'_a12 (isY_S yb24), Y'_a13 (isY_S yb24), Y'_a14 (isY_S yb24), Y'_a15 (isY_S yb24), Y'_a16 (isY_S yb24), Y'_a17 (isY_S yb24), Y'_a18 (isY_S yb24), Y'_sw (isY_S yb24), g5, e3]
        exact K s' hI'
end Q5
