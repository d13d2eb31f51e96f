/-! the class's state tells z -/
def okQ (n : tN) : Prop := wfN n ∧ 1 ≤ nF n 2 ∧ nF n 4 ≤ 500 ∧ ∀ t, t < nF n 3 → nA n 13 t ≤ 30
def sameQ (a n : tN) : Prop := nF a 0 = nF n 0 ∧ nF a 1 = nF n 1 ∧ nF a 2 = nF n 2 ∧ ∀ c, c < nF n 2 → nA a 8 c = nA n 8 c
def icQ (y : tY) (q : Option tN) : Prop := match q with
  | none => yC y = 0 ∧ yT y = 0
  | some n => RY y n ∧ okQ n
def acI (s : tS) (j : Nat) : Nat := 74 + 16 * ((eN (SG s) 201 + j) % 10)
def icA (s : tS) (A : List tN) (q : Option tN) : Prop := okG (SG s) ∧ eN (SG s) 202 = A.length ∧ ∀ j a, A[j]? = some a → RY (SY s (acI s j)) a ∧ okQ a ∧ ∃ n, q = some n ∧ sameQ a n
def icI (s : tS) (I q : Option tN) : Prop := eB (SG s) 5 = I.isSome ∧ ∀ a, I = some a → RY (SY s 56) a ∧ okQ a ∧ ∃ n, q = some n ∧ sameQ a n
def RB (o : tO) (r : Option (Nat × tL × Nat)) : Prop := match r with
  | none => eI o 2 = -1
  | some (m, l, t) => eI o 2 = nI m ∧ m ≤ 300 ∧ RP (eP o) l ∧ eI o 3 = nI t
def gdC (q : Nat) (o : tO) (n : tN) : Prop := if q = 283 then RF o (bestN n).2 else if q = 287 then RF o (easyN n) else if q = 291 then RF o (zonesN n).2 else if q = 295 then RB o (betterN n).2 else RF o (bestN (lostN n (2 ^ ((q - 301) / 4)))).2
def cb2 (b : Nat) : Prop := b = 283 ∨ b = 287 ∨ b = 291 ∨ b = 295 ∨ ∃ j, j < 4 ∧ b = 301 + 4 * j
theorem cb_2 {b : Nat} (h : cb2 b) : cb b := Or.inr h
def icC (s : tS) (q : Option tN) : Prop := (eB (SO s 234) 5 = true → ∃ n, q = some n ∧ CoOK (SO s 234) n) ∧ ∀ b, cb2 b → eB (SO s b) 1 = true → ∃ n, q = some n ∧ gdC b (SO s b) n
def IC (s : tS) (z : tQ) : Prop := (SO s 2 = zT z ∧ SY s 4 = zD z ∧ SP s 20 = zP z ∧ eN (zT z) 1 ≤ 400 ∧ ∀ c, c < 4 → goodW (yW (zD z) c)) ∧ icQ (SY s 24) (zQ z) ∧ icA s (zA z) (zQ z) ∧ icI s (zI z) (zQ z) ∧ (∀ k, k < 4 → eA (SG s) 14 k = zR z k) ∧ icC s (zQ z)
section QIV
variable {b d : Nat} {s s' : tS} {h : sH} {i x w : Int32} {Q : sQ} {z : tQ} {n : tN}
theorem acI_ne (s : tS) (j : Nat) : 74 ≤ acI s j ∧ acI s j < 234 := by unfold acI; omega
/-- a search keeps it -/
theorem IC_search (hI : IC s z) (hb : cb2 b) (hf : frQ b s s') (hg : eB (SO s' b) 1 = true → ∃ n, zQ z = some n ∧ gdC b (SO s' b) n) : IC s' z := by
  obtain ⟨⟨t1, t2, t3, t4⟩, hq, ⟨a1, a2, a3⟩, ⟨i1, i2⟩, hr, ⟨c1, c2⟩⟩ := hI
  obtain ⟨f1, f2, f3, f4, f5, f6⟩ := hf
  have nb : ∀ q, q < 278 → q ≠ b := fun q hq => by rcases hb with e | e | e | e | ⟨j, hj, e⟩ <;> omega
  have ac : ∀ j, acI s' j = acI s j := fun j => by unfold acI; rw [f1 201 (by decide)]
  refine ⟨⟨by rw [f6 2 (nb 2 (by decide)) (by decide)]; exact t1, by rw [f4 4 (by decide) (by decide)]; exact t2, by rw [f5]; exact t3, t4⟩, by rw [f4 24 (by decide) (by decide)]; exact hq, ⟨?_, by rw [f1 202 (by decide)]; exact a2, fun j a e => ?_⟩, ⟨by rw [f2]; exact i1, fun a e => ?_⟩, fun k hk => by rw [f3 14 (by decide)]; exact hr k hk, ⟨fun hk => ?_, fun q hq hk => ?_⟩⟩
  · unfold okG at *
    rw [f1 201 (by decide), f1 202 (by decide)]
    exact a1
  · have := acI_ne s j
    rw [ac, f4 _ (by omega) (by omega)]
    exact a3 j a e
  · rw [f4 56 (by decide) (by decide)]
    exact i2 a e
  · rw [f6 234 (nb 234 (by decide)) (by decide)] at hk ⊢
    exact c1 hk
  · by_cases e : q = b
    · subst e; exact hg hk
    · have h278 : q ≠ 278 := by rcases hq with e | e | e | e | ⟨j, hj, e⟩ <;> omega
      rw [f6 q e h278] at hk ⊢
      exact c2 q hq hk
theorem IC_same (hI : IC s z) (hG : SG s' = SG s) (hY : ∀ q, q ≠ 40 → q ≠ 256 → q ≠ 240 → SY s' q = SY s q) (hP : SP s' 20 = SP s 20) (hO : ∀ q, q ≠ 234 → SO s' q = SO s q) (hc : eB (SO s' 234) 5 = true → ∃ n, zQ z = some n ∧ CoOK (SO s' 234) n) : IC s' z := by
  obtain ⟨⟨t1, t2, t3, t4⟩, hq, ⟨a1, a2, a3⟩, ⟨i1, i2⟩, hr, ⟨c1, c2⟩⟩ := hI
  have ac : ∀ j, acI s' j = acI s j := fun j => by unfold acI; rw [hG]
  refine ⟨⟨by rw [hO 2 (by decide)]; exact t1, by rw [hY 4 (by decide) (by decide) (by decide)]; exact t2, by rw [hP]; exact t3, t4⟩, by rw [hY 24 (by decide) (by decide) (by decide)]; exact hq, ⟨by rw [hG]; exact a1, by rw [hG]; exact a2, fun j a e => ?_⟩, ⟨by rw [hG]; exact i1, fun a e => ?_⟩, fun k hk => by rw [hG]; exact hr k hk, ⟨hc, fun q hq hk => ?_⟩⟩
  · have := acI_ne s j
    rw [ac, hY _ (by omega) (by omega) (by omega)]
    exact a3 j a e
  · rw [hY 56 (by decide) (by decide) (by decide)]
    exact i2 a e
  · have h2 : q ≠ 234 := by rcases hq with e | e | e | e | ⟨j, hj, e⟩ <;> omega
    rw [hO q h2] at hk ⊢
    exact c2 q hq hk
/-! small questions -/
theorem ix_is {N : Nat} : (ixN x N).isSome = (decide (nI 0 ≤ x) && decide (x < nI N)) := by
  unfold ixN
  by_cases h1 : nI 0 ≤ x
  · by_cases h2 : x < nI N
    · rw [if_pos ⟨h1, h2⟩, decide_eq_true h1, decide_eq_true h2]; rfl
    · rw [if_neg (fun q => h2 q.2), decide_eq_false h2, Bool.and_false]; rfl
  · rw [if_neg (fun q => h1 q.1), decide_eq_false h1]; rfl
theorem q_hasQuay (hy : yC (SY s 24) ≤ 4) : MT (d + 1) 128 [.ref 0] (pS s h) Q ↔ Q (some (.int (iB (decide (0 < yC (SY s 24)))))) (pS s h) := by
  rw [MT_go (by decide) _ _ _ (Nat.le_of_ble_eq_true rfl), show s_entry 128 [.ref 0] = [.ref 0] from rfl]
  by_cases e : 0 < yC (SY s 24)
  · simp (disch := omega) only [u_128_0, u_128_1, u_128_4, u_128_7, u_128_10, u_128_11, u_128_14, u_128_15, gI0, gIs, gR0, gRs, gF0, gFs, st0, st_i, st_r, st_f, st_n, st_s, true_and, and_true, ↓ifLeT, ↓ifLeF, ↓ifLtT, ↓ifLtF, ↓ifEqT, ↓ifEqF, if_tt, if_ff, if_pos, if_neg, nLe, nLt, nEq, nInT, nCl, pk_mul, nI_add, Nat.reduceAdd, s_cat_nil, s_cat_i, s_cat_r, s_cat_f, s_cat_l, tl_s, tl_n, cat_i, cat_r, cat_f, nb0, nb1, nbI, if_bI, if_bIr, Nat.zero_le, Nat.reduceLeDiff, S_g0_0, S_g0_1, S_g0_2, S_g0_3, S_g0_4, S_g0_5, S_g0_6, S_g0_7, S_g0_8, S_g0_9, S_g0_10, S_g0_11, S_g0_12, S_g0_13, S_g0_14, S_g1_0, S_g1_1, S_g1_2, S_g1_3, S_g1_4, S_g72_0, S_g72_1, S_g72_2, S_g239_0, S_g239_1, S_g239_2, S_g239_3, S_g239_4, S_g239_5, S_g239_6, S_a23, S_n23, S_a282, S_n282, S_a300, S_n300, S_n73, S_n299, Y'_ob (isY_S yb24), Y'_g0 (isY_S yb24), Y'_g1 (isY_S yb24), Y'_g2 (isY_S yb24), Y'_g3 (isY_S yb24), Y'_g4 (isY_S yb24), Y'_g5 (isY_S yb24), Y'_g6 (isY_S yb24), Y'_g7 (isY_S yb24), Y'_g8 (isY_S yb24), Y'_g9 (isY_S yb24), Y'_g10 (isY_S yb24), Y'_g11 (isY_S yb24), Y'_g12 (isY_S yb24), Y'_g13 (isY_S yb24), Y'_g14 (isY_S yb24), Y'_g15 (isY_S yb24), Y'_g16 (isY_S yb24), Y'_g17 (isY_S yb24), Y'_g18 (isY_S yb24), Y'_g19 (isY_S yb24), Y'_a7 (isY_S yb24), Y'_a8 (isY_S yb24), Y'_a10 (isY_S yb24), Y'_a11 (isY_S yb24), Y'_a12 (isY_S yb24), Y'_a13 (isY_S yb24), Y'_a14 (isY_S yb24), Y'_a15 (isY_S yb24), Y'_a16 (isY_S yb24), Y'_a17 (isY_S yb24), Y'_a18 (isY_S yb24), Y'_sw (isY_S yb24), decide_eq_true e, iBt]
  · have e0 : yC (SY s 24) = 0 := by omega
    simp (disch := omega) only [u_128_0, u_128_1, u_128_4, u_128_7, u_128_10, u_128_11, u_128_14, u_128_15, gI0, gIs, gR0, gRs, gF0, gFs, st0, st_i, st_r, st_f, st_n, st_s, true_and, and_true, ↓ifLeT, ↓ifLeF, ↓ifLtT, ↓ifLtF, ↓ifEqT, ↓ifEqF, if_tt, if_ff, if_pos, if_neg, nLe, nLt, nEq, nInT, nCl, pk_mul, nI_add, Nat.reduceAdd, s_cat_nil, s_cat_i, s_cat_r, s_cat_f, s_cat_l, tl_s, tl_n, cat_i, cat_r, cat_f, nb0, nb1, nbI, if_bI, if_bIr, Nat.zero_le, Nat.reduceLeDiff, S_g0_0, S_g0_1, S_g0_2, S_g0_3, S_g0_4, S_g0_5, S_g0_6, S_g0_7, S_g0_8, S_g0_9, S_g0_10, S_g0_11, S_g0_12, S_g0_13, S_g0_14, S_g1_0, S_g1_1, S_g1_2, S_g1_3, S_g1_4, S_g72_0, S_g72_1, S_g72_2, S_g239_0, S_g239_1, S_g239_2, S_g239_3, S_g239_4, S_g239_5, S_g239_6, S_a23, S_n23, S_a282, S_n282, S_a300, S_n300, S_n73, S_n299, Y'_ob (isY_S yb24), Y'_g0 (isY_S yb24), Y'_g1 (isY_S yb24), Y'_g2 (isY_S yb24), Y'_g3 (isY_S yb24), Y'_g4 (isY_S yb24), Y'_g5 (isY_S yb24), Y'_g6 (isY_S yb24), Y'_g7 (isY_S yb24), Y'_g8 (isY_S yb24), Y'_g9 (isY_S yb24), Y'_g10 (isY_S yb24), Y'_g11 (isY_S yb24), Y'_g12 (isY_S yb24), Y'_g13 (isY_S yb24), Y'_g14 (isY_S yb24), Y'_g15 (isY_S yb24), Y'_g16 (isY_S yb24), Y'_g17 (isY_S yb24), Y'_g18 (isY_S yb24), Y'_g19 (isY_S yb24), Y'_a7 (isY_S yb24), Y'_a8 (isY_S yb24), Y'_a10 (isY_S yb24), Y'_a11 (isY_S yb24), Y'_a12 (isY_S yb24), Y'_a13 (isY_S yb24), Y'_a14 (isY_S yb24), Y'_a15 (isY_S yb24), Y'_a16 (isY_S yb24), Y'_a17 (isY_S yb24), Y'_a18 (isY_S yb24), Y'_sw (isY_S yb24), decide_eq_false e, e0, iBf, Nat.lt_irrefl, decide_false]
theorem q_isCrane : MT (d + 1) 129 [.ref 0, .int x] (pS s h) Q ↔ Q (some (.int (iB (ixN x (yC (SY s 24))).isSome))) (pS s h) := by
  rw [MT_go (by decide) _ _ _ (Nat.le_of_ble_eq_true rfl), show s_entry 129 [.ref 0, .int x] = [.ref 0, .int x] from rfl]
  rw [ix_is]
  by_cases h1 : nI 0 ≤ x
  · have k1 : ¬ x < nI 0 := Int32.not_lt.mpr h1
    by_cases h2 : x < nI (yC (SY s 24))
    · have k2 : ¬ nI (yC (SY s 24)) ≤ x := Int32.not_le.mpr h2
      rw [decide_eq_true h1, decide_eq_true h2]
      simp (disch := omega) only [u_129_0, u_129_1, u_129_4, u_129_5, u_129_6, u_129_9, u_129_12, u_129_15, u_129_16, u_129_19, u_129_20, gI0, gIs, gR0, gRs, gF0, gFs, st0, st_i, st_r, st_f, st_n, st_s, true_and, and_true, ↓ifLeT, ↓ifLeF, ↓ifLtT, ↓ifLtF, ↓ifEqT, ↓ifEqF, if_tt, if_ff, if_pos, if_neg, nLe, nLt, nEq, nInT, nCl, pk_mul, nI_add, Nat.reduceAdd, s_cat_nil, s_cat_i, s_cat_r, s_cat_f, s_cat_l, tl_s, tl_n, cat_i, cat_r, cat_f, nb0, nb1, nbI, if_bI, if_bIr, Nat.zero_le, Nat.reduceLeDiff, S_g0_0, S_g0_1, S_g0_2, S_g0_3, S_g0_4, S_g0_5, S_g0_6, S_g0_7, S_g0_8, S_g0_9, S_g0_10, S_g0_11, S_g0_12, S_g0_13, S_g0_14, S_g1_0, S_g1_1, S_g1_2, S_g1_3, S_g1_4, S_g72_0, S_g72_1, S_g72_2, S_g239_0, S_g239_1, S_g239_2, S_g239_3, S_g239_4, S_g239_5, S_g239_6, S_a23, S_n23, S_a282, S_n282, S_a300, S_n300, S_n73, S_n299, Y'_ob (isY_S yb24), Y'_g0 (isY_S yb24), Y'_g1 (isY_S yb24), Y'_g2 (isY_S yb24), Y'_g3 (isY_S yb24), Y'_g4 (isY_S yb24), Y'_g5 (isY_S yb24), Y'_g6 (isY_S yb24), Y'_g7 (isY_S yb24), Y'_g8 (isY_S yb24), Y'_g9 (isY_S yb24), Y'_g10 (isY_S yb24), Y'_g11 (isY_S yb24), Y'_g12 (isY_S yb24), Y'_g13 (isY_S yb24), Y'_g14 (isY_S yb24), Y'_g15 (isY_S yb24), Y'_g16 (isY_S yb24), Y'_g17 (isY_S yb24), Y'_g18 (isY_S yb24), Y'_g19 (isY_S yb24), Y'_a7 (isY_S yb24), Y'_a8 (isY_S yb24), Y'_a10 (isY_S yb24), Y'_a11 (isY_S yb24), Y'_a12 (isY_S yb24), Y'_a13 (isY_S yb24), Y'_a14 (isY_S yb24), Y'_a15 (isY_S yb24), Y'_a16 (isY_S yb24), Y'_a17 (isY_S yb24), Y'_a18 (isY_S yb24), Y'_sw (isY_S yb24), k1, k2, Bool.true_and, iBt]
    · have k2 : nI (yC (SY s 24)) ≤ x := Int32.not_lt.mp h2
      rw [decide_eq_false h2]
      simp (disch := omega) only [u_129_0, u_129_1, u_129_4, u_129_5, u_129_6, u_129_9, u_129_12, u_129_15, u_129_16, u_129_19, u_129_20, gI0, gIs, gR0, gRs, gF0, gFs, st0, st_i, st_r, st_f, st_n, st_s, true_and, and_true, ↓ifLeT, ↓ifLeF, ↓ifLtT, ↓ifLtF, ↓ifEqT, ↓ifEqF, if_tt, if_ff, if_pos, if_neg, nLe, nLt, nEq, nInT, nCl, pk_mul, nI_add, Nat.reduceAdd, s_cat_nil, s_cat_i, s_cat_r, s_cat_f, s_cat_l, tl_s, tl_n, cat_i, cat_r, cat_f, nb0, nb1, nbI, if_bI, if_bIr, Nat.zero_le, Nat.reduceLeDiff, S_g0_0, S_g0_1, S_g0_2, S_g0_3, S_g0_4, S_g0_5, S_g0_6, S_g0_7, S_g0_8, S_g0_9, S_g0_10, S_g0_11, S_g0_12, S_g0_13, S_g0_14, S_g1_0, S_g1_1, S_g1_2, S_g1_3, S_g1_4, S_g72_0, S_g72_1, S_g72_2, S_g239_0, S_g239_1, S_g239_2, S_g239_3, S_g239_4, S_g239_5, S_g239_6, S_a23, S_n23, S_a282, S_n282, S_a300, S_n300, S_n73, S_n299, Y'_ob (isY_S yb24), Y'_g0 (isY_S yb24), Y'_g1 (isY_S yb24), Y'_g2 (isY_S yb24), Y'_g3 (isY_S yb24), Y'_g4 (isY_S yb24), Y'_g5 (isY_S yb24), Y'_g6 (isY_S yb24), Y'_g7 (isY_S yb24), Y'_g8 (isY_S yb24), Y'_g9 (isY_S yb24), Y'_g10 (isY_S yb24), Y'_g11 (isY_S yb24), Y'_g12 (isY_S yb24), Y'_g13 (isY_S yb24), Y'_g14 (isY_S yb24), Y'_g15 (isY_S yb24), Y'_g16 (isY_S yb24), Y'_g17 (isY_S yb24), Y'_g18 (isY_S yb24), Y'_g19 (isY_S yb24), Y'_a7 (isY_S yb24), Y'_a8 (isY_S yb24), Y'_a10 (isY_S yb24), Y'_a11 (isY_S yb24), Y'_a12 (isY_S yb24), Y'_a13 (isY_S yb24), Y'_a14 (isY_S yb24), Y'_a15 (isY_S yb24), Y'_a16 (isY_S yb24), Y'_a17 (isY_S yb24), Y'_a18 (isY_S yb24), Y'_sw (isY_S yb24), k1, k2, Bool.and_false, iBf]
  · have k1 : x < nI 0 := Int32.not_le.mp h1
    rw [decide_eq_false h1]
    simp (disch := omega) only [u_129_0, u_129_1, u_129_4, u_129_5, u_129_6, u_129_9, u_129_12, u_129_15, u_129_16, u_129_19, u_129_20, gI0, gIs, gR0, gRs, gF0, gFs, st0, st_i, st_r, st_f, st_n, st_s, true_and, and_true, ↓ifLeT, ↓ifLeF, ↓ifLtT, ↓ifLtF, ↓ifEqT, ↓ifEqF, if_tt, if_ff, if_pos, if_neg, nLe, nLt, nEq, nInT, nCl, pk_mul, nI_add, Nat.reduceAdd, s_cat_nil, s_cat_i, s_cat_r, s_cat_f, s_cat_l, tl_s, tl_n, cat_i, cat_r, cat_f, nb0, nb1, nbI, if_bI, if_bIr, Nat.zero_le, Nat.reduceLeDiff, S_g0_0, S_g0_1, S_g0_2, S_g0_3, S_g0_4, S_g0_5, S_g0_6, S_g0_7, S_g0_8, S_g0_9, S_g0_10, S_g0_11, S_g0_12, S_g0_13, S_g0_14, S_g1_0, S_g1_1, S_g1_2, S_g1_3, S_g1_4, S_g72_0, S_g72_1, S_g72_2, S_g239_0, S_g239_1, S_g239_2, S_g239_3, S_g239_4, S_g239_5, S_g239_6, S_a23, S_n23, S_a282, S_n282, S_a300, S_n300, S_n73, S_n299, Y'_ob (isY_S yb24), Y'_g0 (isY_S yb24), Y'_g1 (isY_S yb24), Y'_g2 (isY_S yb24), Y'_g3 (isY_S yb24), Y'_g4 (isY_S yb24), Y'_g5 (isY_S yb24), Y'_g6 (isY_S yb24), Y'_g7 (isY_S yb24), Y'_g8 (isY_S yb24), Y'_g9 (isY_S yb24), Y'_g10 (isY_S yb24), Y'_g11 (isY_S yb24), Y'_g12 (isY_S yb24), Y'_g13 (isY_S yb24), Y'_g14 (isY_S yb24), Y'_g15 (isY_S yb24), Y'_g16 (isY_S yb24), Y'_g17 (isY_S yb24), Y'_g18 (isY_S yb24), Y'_g19 (isY_S yb24), Y'_a7 (isY_S yb24), Y'_a8 (isY_S yb24), Y'_a10 (isY_S yb24), Y'_a11 (isY_S yb24), Y'_a12 (isY_S yb24), Y'_a13 (isY_S yb24), Y'_a14 (isY_S yb24), Y'_a15 (isY_S yb24), Y'_a16 (isY_S yb24), Y'_a17 (isY_S yb24), Y'_a18 (isY_S yb24), Y'_sw (isY_S yb24), k1, Bool.false_and, iBf]
theorem q_isTask : MT (d + 1) 130 [.ref 0, .int x] (pS s h) Q ↔ Q (some (.int (iB (ixN x (yT (SY s 24))).isSome))) (pS s h) := by
  rw [MT_go (by decide) _ _ _ (Nat.le_of_ble_eq_true rfl), show s_entry 130 [.ref 0, .int x] = [.ref 0, .int x] from rfl]
  rw [ix_is]
  by_cases h1 : nI 0 ≤ x
  · have k1 : ¬ x < nI 0 := Int32.not_lt.mpr h1
    by_cases h2 : x < nI (yT (SY s 24))
    · have k2 : ¬ nI (yT (SY s 24)) ≤ x := Int32.not_le.mpr h2
      rw [decide_eq_true h1, decide_eq_true h2]
      simp (disch := omega) only [u_130_0, u_130_1, u_130_4, u_130_5, u_130_6, u_130_9, u_130_12, u_130_15, u_130_16, u_130_19, u_130_20, gI0, gIs, gR0, gRs, gF0, gFs, st0, st_i, st_r, st_f, st_n, st_s, true_and, and_true, ↓ifLeT, ↓ifLeF, ↓ifLtT, ↓ifLtF, ↓ifEqT, ↓ifEqF, if_tt, if_ff, if_pos, if_neg, nLe, nLt, nEq, nInT, nCl, pk_mul, nI_add, Nat.reduceAdd, s_cat_nil, s_cat_i, s_cat_r, s_cat_f, s_cat_l, tl_s, tl_n, cat_i, cat_r, cat_f, nb0, nb1, nbI, if_bI, if_bIr, Nat.zero_le, Nat.reduceLeDiff, S_g0_0, S_g0_1, S_g0_2, S_g0_3, S_g0_4, S_g0_5, S_g0_6, S_g0_7, S_g0_8, S_g0_9, S_g0_10, S_g0_11, S_g0_12, S_g0_13, S_g0_14, S_g1_0, S_g1_1, S_g1_2, S_g1_3, S_g1_4, S_g72_0, S_g72_1, S_g72_2, S_g239_0, S_g239_1, S_g239_2, S_g239_3, S_g239_4, S_g239_5, S_g239_6, S_a23, S_n23, S_a282, S_n282, S_a300, S_n300, S_n73, S_n299, Y'_ob (isY_S yb24), Y'_g0 (isY_S yb24), Y'_g1 (isY_S yb24), Y'_g2 (isY_S yb24), Y'_g3 (isY_S yb24), Y'_g4 (isY_S yb24), Y'_g5 (isY_S yb24), Y'_g6 (isY_S yb24), Y'_g7 (isY_S yb24), Y'_g8 (isY_S yb24), Y'_g9 (isY_S yb24), Y'_g10 (isY_S yb24), Y'_g11 (isY_S yb24), Y'_g12 (isY_S yb24), Y'_g13 (isY_S yb24), Y'_g14 (isY_S yb24), Y'_g15 (isY_S yb24), Y'_g16 (isY_S yb24), Y'_g17 (isY_S yb24), Y'_g18 (isY_S yb24), Y'_g19 (isY_S yb24), Y'_a7 (isY_S yb24), Y'_a8 (isY_S yb24), Y'_a10 (isY_S yb24), Y'_a11 (isY_S yb24), Y'_a12 (isY_S yb24), Y'_a13 (isY_S yb24), Y'_a14 (isY_S yb24), Y'_a15 (isY_S yb24), Y'_a16 (isY_S yb24), Y'_a17 (isY_S yb24), Y'_a18 (isY_S yb24), Y'_sw (isY_S yb24), k1, k2, Bool.true_and, iBt]
    · have k2 : nI (yT (SY s 24)) ≤ x := Int32.not_lt.mp h2
      rw [decide_eq_false h2]
      simp (disch := omega) only [u_130_0, u_130_1, u_130_4, u_130_5, u_130_6, u_130_9, u_130_12, u_130_15, u_130_16, u_130_19, u_130_20, gI0, gIs, gR0, gRs, gF0, gFs, st0, st_i, st_r, st_f, st_n, st_s, true_and, and_true, ↓ifLeT, ↓ifLeF, ↓ifLtT, ↓ifLtF, ↓ifEqT, ↓ifEqF, if_tt, if_ff, if_pos, if_neg, nLe, nLt, nEq, nInT, nCl, pk_mul, nI_add, Nat.reduceAdd, s_cat_nil, s_cat_i, s_cat_r, s_cat_f, s_cat_l, tl_s, tl_n, cat_i, cat_r, cat_f, nb0, nb1, nbI, if_bI, if_bIr, Nat.zero_le, Nat.reduceLeDiff, S_g0_0, S_g0_1, S_g0_2, S_g0_3, S_g0_4, S_g0_5, S_g0_6, S_g0_7, S_g0_8, S_g0_9, S_g0_10, S_g0_11, S_g0_12, S_g0_13, S_g0_14, S_g1_0, S_g1_1, S_g1_2, S_g1_3, S_g1_4, S_g72_0, S_g72_1, S_g72_2, S_g239_0, S_g239_1, S_g239_2, S_g239_3, S_g239_4, S_g239_5, S_g239_6, S_a23, S_n23, S_a282, S_n282, S_a300, S_n300, S_n73, S_n299, Y'_ob (isY_S yb24), Y'_g0 (isY_S yb24), Y'_g1 (isY_S yb24), Y'_g2 (isY_S yb24), Y'_g3 (isY_S yb24), Y'_g4 (isY_S yb24), Y'_g5 (isY_S yb24), Y'_g6 (isY_S yb24), Y'_g7 (isY_S yb24), Y'_g8 (isY_S yb24), Y'_g9 (isY_S yb24), Y'_g10 (isY_S yb24), Y'_g11 (isY_S yb24), Y'_g12 (isY_S yb24), Y'_g13 (isY_S yb24), Y'_g14 (isY_S yb24), Y'_g15 (isY_S yb24), Y'_g16 (isY_S yb24), Y'_g17 (isY_S yb24), Y'_g18 (isY_S yb24), Y'_g19 (isY_S yb24), Y'_a7 (isY_S yb24), Y'_a8 (isY_S yb24), Y'_a10 (isY_S yb24), Y'_a11 (isY_S yb24), Y'_a12 (isY_S yb24), Y'_a13 (isY_S yb24), Y'_a14 (isY_S yb24), Y'_a15 (isY_S yb24), Y'_a16 (isY_S yb24), Y'_a17 (isY_S yb24), Y'_a18 (isY_S yb24), Y'_sw (isY_S yb24), k1, k2, Bool.and_false, iBf]
  · have k1 : x < nI 0 := Int32.not_le.mp h1
    rw [decide_eq_false h1]
    simp (disch := omega) only [u_130_0, u_130_1, u_130_4, u_130_5, u_130_6, u_130_9, u_130_12, u_130_15, u_130_16, u_130_19, u_130_20, gI0, gIs, gR0, gRs, gF0, gFs, st0, st_i, st_r, st_f, st_n, st_s, true_and, and_true, ↓ifLeT, ↓ifLeF, ↓ifLtT, ↓ifLtF, ↓ifEqT, ↓ifEqF, if_tt, if_ff, if_pos, if_neg, nLe, nLt, nEq, nInT, nCl, pk_mul, nI_add, Nat.reduceAdd, s_cat_nil, s_cat_i, s_cat_r, s_cat_f, s_cat_l, tl_s, tl_n, cat_i, cat_r, cat_f, nb0, nb1, nbI, if_bI, if_bIr, Nat.zero_le, Nat.reduceLeDiff, S_g0_0, S_g0_1, S_g0_2, S_g0_3, S_g0_4, S_g0_5, S_g0_6, S_g0_7, S_g0_8, S_g0_9, S_g0_10, S_g0_11, S_g0_12, S_g0_13, S_g0_14, S_g1_0, S_g1_1, S_g1_2, S_g1_3, S_g1_4, S_g72_0, S_g72_1, S_g72_2, S_g239_0, S_g239_1, S_g239_2, S_g239_3, S_g239_4, S_g239_5, S_g239_6, S_a23, S_n23, S_a282, S_n282, S_a300, S_n300, S_n73, S_n299, Y'_ob (isY_S yb24), Y'_g0 (isY_S yb24), Y'_g1 (isY_S yb24), Y'_g2 (isY_S yb24), Y'_g3 (isY_S yb24), Y'_g4 (isY_S yb24), Y'_g5 (isY_S yb24), Y'_g6 (isY_S yb24), Y'_g7 (isY_S yb24), Y'_g8 (isY_S yb24), Y'_g9 (isY_S yb24), Y'_g10 (isY_S yb24), Y'_g11 (isY_S yb24), Y'_g12 (isY_S yb24), Y'_g13 (isY_S yb24), Y'_g14 (isY_S yb24), Y'_g15 (isY_S yb24), Y'_g16 (isY_S yb24), Y'_g17 (isY_S yb24), Y'_g18 (isY_S yb24), Y'_g19 (isY_S yb24), Y'_a7 (isY_S yb24), Y'_a8 (isY_S yb24), Y'_a10 (isY_S yb24), Y'_a11 (isY_S yb24), Y'_a12 (isY_S yb24), Y'_a13 (isY_S yb24), Y'_a14 (isY_S yb24), Y'_a15 (isY_S yb24), Y'_a16 (isY_S yb24), Y'_a17 (isY_S yb24), Y'_a18 (isY_S yb24), Y'_sw (isY_S yb24), k1, Bool.false_and, iBf]
theorem le_lt {k : Nat} (hk : k < 2 ^ 30) : x ≤ nI k ↔ x < nI (k + 1) := by
  rw [Int32.le_iff_toInt_le, Int32.lt_iff_toInt_lt, nI_toInt (by omega), nI_toInt (by omega)]
  omega
theorem q_isSpan : MT (d + 1) 131 [.ref 0, .int x] (pS s h) Q ↔ Q (some (.int (iB (ixN x 301).isSome))) (pS s h) := by
  rw [MT_go (by decide) _ _ _ (Nat.le_of_ble_eq_true rfl), show s_entry 131 [.ref 0, .int x] = [.ref 0, .int x] from rfl]
  rw [ix_is]
  have e : nI 300 < x ↔ ¬ x < nI 301 := by rw [← le_lt (k := 300) (by decide), Int32.not_le]
  by_cases h1 : nI 0 ≤ x
  · have k1 : ¬ x < nI 0 := Int32.not_lt.mpr h1
    by_cases h2 : x < nI 301
    · have k2 : ¬ nI 300 < x := fun q => e.mp q h2
      rw [decide_eq_true h1, decide_eq_true h2]
      simp (disch := omega) only [u_131_0, u_131_1, u_131_4, u_131_5, u_131_8, u_131_11, u_131_12, u_131_15, u_131_16, gI0, gIs, gR0, gRs, gF0, gFs, st0, st_i, st_r, st_f, st_n, st_s, true_and, and_true, ↓ifLeT, ↓ifLeF, ↓ifLtT, ↓ifLtF, ↓ifEqT, ↓ifEqF, if_tt, if_ff, if_pos, if_neg, nLe, nLt, nEq, nInT, nCl, pk_mul, nI_add, Nat.reduceAdd, s_cat_nil, s_cat_i, s_cat_r, s_cat_f, s_cat_l, tl_s, tl_n, cat_i, cat_r, cat_f, nb0, nb1, nbI, if_bI, if_bIr, Nat.zero_le, Nat.reduceLeDiff, S_g0_0, S_g0_1, S_g0_2, S_g0_3, S_g0_4, S_g0_5, S_g0_6, S_g0_7, S_g0_8, S_g0_9, S_g0_10, S_g0_11, S_g0_12, S_g0_13, S_g0_14, S_g1_0, S_g1_1, S_g1_2, S_g1_3, S_g1_4, S_g72_0, S_g72_1, S_g72_2, S_g239_0, S_g239_1, S_g239_2, S_g239_3, S_g239_4, S_g239_5, S_g239_6, S_a23, S_n23, S_a282, S_n282, S_a300, S_n300, S_n73, S_n299, k1, k2, Bool.true_and, iBt]
    · have k2 : nI 300 < x := e.mpr h2
      rw [decide_eq_false h2]
      simp (disch := omega) only [u_131_0, u_131_1, u_131_4, u_131_5, u_131_8, u_131_11, u_131_12, u_131_15, u_131_16, gI0, gIs, gR0, gRs, gF0, gFs, st0, st_i, st_r, st_f, st_n, st_s, true_and, and_true, ↓ifLeT, ↓ifLeF, ↓ifLtT, ↓ifLtF, ↓ifEqT, ↓ifEqF, if_tt, if_ff, if_pos, if_neg, nLe, nLt, nEq, nInT, nCl, pk_mul, nI_add, Nat.reduceAdd, s_cat_nil, s_cat_i, s_cat_r, s_cat_f, s_cat_l, tl_s, tl_n, cat_i, cat_r, cat_f, nb0, nb1, nbI, if_bI, if_bIr, Nat.zero_le, Nat.reduceLeDiff, S_g0_0, S_g0_1, S_g0_2, S_g0_3, S_g0_4, S_g0_5, S_g0_6, S_g0_7, S_g0_8, S_g0_9, S_g0_10, S_g0_11, S_g0_12, S_g0_13, S_g0_14, S_g1_0, S_g1_1, S_g1_2, S_g1_3, S_g1_4, S_g72_0, S_g72_1, S_g72_2, S_g239_0, S_g239_1, S_g239_2, S_g239_3, S_g239_4, S_g239_5, S_g239_6, S_a23, S_n23, S_a282, S_n282, S_a300, S_n300, S_n73, S_n299, k1, k2, Bool.and_false, iBf]
  · have k1 : x < nI 0 := Int32.not_le.mp h1
    rw [decide_eq_false h1]
    simp (disch := omega) only [u_131_0, u_131_1, u_131_4, u_131_5, u_131_8, u_131_11, u_131_12, u_131_15, u_131_16, gI0, gIs, gR0, gRs, gF0, gFs, st0, st_i, st_r, st_f, st_n, st_s, true_and, and_true, ↓ifLeT, ↓ifLeF, ↓ifLtT, ↓ifLtF, ↓ifEqT, ↓ifEqF, if_tt, if_ff, if_pos, if_neg, nLe, nLt, nEq, nInT, nCl, pk_mul, nI_add, Nat.reduceAdd, s_cat_nil, s_cat_i, s_cat_r, s_cat_f, s_cat_l, tl_s, tl_n, cat_i, cat_r, cat_f, nb0, nb1, nbI, if_bI, if_bIr, Nat.zero_le, Nat.reduceLeDiff, S_g0_0, S_g0_1, S_g0_2, S_g0_3, S_g0_4, S_g0_5, S_g0_6, S_g0_7, S_g0_8, S_g0_9, S_g0_10, S_g0_11, S_g0_12, S_g0_13, S_g0_14, S_g1_0, S_g1_1, S_g1_2, S_g1_3, S_g1_4, S_g72_0, S_g72_1, S_g72_2, S_g239_0, S_g239_1, S_g239_2, S_g239_3, S_g239_4, S_g239_5, S_g239_6, S_a23, S_n23, S_a282, S_n282, S_a300, S_n300, S_n73, S_n299, k1, Bool.false_and, iBf]
theorem q_refuse {k : Nat} (hk : k < 4) : MT (d + 1) 134 [.ref 0, .int (nI k)] (pS s h) Q ↔ Q (some (.int (-1))) (pS (wSG s (vA (SG s) 14 (upd (eA (SG s) 14) k (eA (SG s) 14 k + 1)))) h) := by
  rw [MT_go (by decide) _ _ _ (Nat.le_of_ble_eq_true rfl), show s_entry 134 [.ref 0, .int (nI k)] = [.ref 0, .int (nI k)] from rfl]
  have i1 : vp_in (nI k) 4 := (nIn (by omega)).mpr hk
  simp (disch := omega) only [u_134_0, u_134_1, u_134_4, u_134_5, u_134_6, u_134_9, u_134_10, u_134_13, u_134_14, u_134_17, u_134_18, u_134_19, u_134_20, u_134_21, u_134_22, u_134_23, u_134_24, gI0, gIs, gR0, gRs, gF0, gFs, st0, st_i, st_r, st_f, st_n, st_s, true_and, and_true, ↓ifLeT, ↓ifLeF, ↓ifLtT, ↓ifLtF, ↓ifEqT, ↓ifEqF, if_tt, if_ff, if_pos, if_neg, nLe, nLt, nEq, nInT, nCl, pk_mul, nI_add, Nat.reduceAdd, s_cat_nil, s_cat_i, s_cat_r, s_cat_f, s_cat_l, tl_s, tl_n, cat_i, cat_r, cat_f, nb0, nb1, nbI, if_bI, if_bIr, Nat.zero_le, Nat.reduceLeDiff, S_g0_0, S_g0_1, S_g0_2, S_g0_3, S_g0_4, S_g0_5, S_g0_6, S_g0_7, S_g0_8, S_g0_9, S_g0_10, S_g0_11, S_g0_12, S_g0_13, S_g0_14, S_g1_0, S_g1_1, S_g1_2, S_g1_3, S_g1_4, S_g72_0, S_g72_1, S_g72_2, S_g239_0, S_g239_1, S_g239_2, S_g239_3, S_g239_4, S_g239_5, S_g239_6, S_a23, S_n23, S_a282, S_n282, S_a300, S_n300, S_n73, S_n299, S_s0_5, S_s0_5t, S_s0_5f, S_s1_4, S_s72_1, S_s72_2, S_s239_6, S_w23, S_w282, S_w300, i1]
  exact Iff.rfl
theorem IC_refuse {k : Nat} (hI : IC s z) (hk : k < 4) : IC (wSG s (vA (SG s) 14 (upd (eA (SG s) 14) k (eA (SG s) 14 k + 1)))) (refZ z k) := by
  obtain ⟨ht, hq, ⟨a1, a2, a3⟩, ⟨i1, i2⟩, hr, hc⟩ := hI
  refine ⟨ht, hq, ⟨a1, a2, a3⟩, ⟨i1, i2⟩, fun j hj => ?_, hc⟩
  show (if j = k then _ else eA (SG s) 14 j) = (if j = k then _ else zR z j)
  by_cases e : j = k
  · rw [if_pos e, if_pos e, hr k hk]
  · rw [if_neg e, if_neg e]; exact hr j hj
/-- what was found holds no more -/
def frX (s s' : tS) : Prop := SG s' = SG s ∧ SY s' = SY s ∧ SP s' = SP s ∧ SO s' 2 = SO s 2
theorem changed_lp : ∀ m c s, c + m = 4 → (∀ s', frX s s' → (∀ q, q ≠ 2 → eB (SO s q) 5 = false ∨ True → eB (SO s' q) 5 = eB (SO s q) 5) → (∀ q, (∀ j, j < 4 → q ≠ 301 + 4 * j) → eB (SO s' q) 1 = eB (SO s q) 1) → (∀ j, c ≤ j → j < 4 → eB (SO s' (301 + 4 * j)) 1 = false) → (∀ j, j < c → eB (SO s' (301 + 4 * j)) 1 = eB (SO s (301 + 4 * j)) 1) → Q none (pS s' h)) → WP (d + 1) 135 42 [.ref 0, .int (nI c)] [] (pS s h) (0, 0) Q := by
  intro m
  induction m with
  | zero =>
    intro c s hc K
    have e : c = 4 := by omega
    subst e
    rw [u_135_42]
    simp (disch := omega) only [u_135_0, u_135_1, u_135_4, u_135_5, u_135_8, u_135_9, u_135_12, u_135_13, u_135_16, u_135_17, u_135_20, u_135_21, u_135_24, u_135_25, u_135_28, u_135_29, u_135_32, u_135_33, u_135_36, u_135_37, u_135_40, u_135_41, u_135_43, u_135_44, u_135_47, u_135_48, u_135_51, u_135_52, u_135_55, u_135_56, u_135_57, u_135_58, u_135_61, u_135_64, u_135_67, gI0, gIs, gR0, gRs, gF0, gFs, st0, st_i, st_r, st_f, st_n, st_s, true_and, and_true, ↓ifLeT, ↓ifLeF, ↓ifLtT, ↓ifLtF, ↓ifEqT, ↓ifEqF, if_tt, if_ff, if_pos, if_neg, nLe, nLt, nEq, nInT, nCl, pk_mul, nI_add, Nat.reduceAdd, s_cat_nil, s_cat_i, s_cat_r, s_cat_f, s_cat_l, tl_s, tl_n, cat_i, cat_r, cat_f, nb0, nb1, nbI, if_bI, if_bIr, Nat.zero_le, Nat.reduceLeDiff, S_g0_0, S_g0_1, S_g0_2, S_g0_3, S_g0_4, S_g0_5, S_g0_6, S_g0_7, S_g0_8, S_g0_9, S_g0_10, S_g0_11, S_g0_12, S_g0_13, S_g0_14, S_g1_0, S_g1_1, S_g1_2, S_g1_3, S_g1_4, S_g72_0, S_g72_1, S_g72_2, S_g239_0, S_g239_1, S_g239_2, S_g239_3, S_g239_4, S_g239_5, S_g239_6, S_a23, S_n23, S_a282, S_n282, S_a300, S_n300, S_n73, S_n299]
    exact K s ⟨rfl, rfl, rfl, rfl⟩ (fun _ _ _ => rfl) (fun _ _ => rfl) (fun j h1 h2 => absurd h2 (by omega)) (fun _ _ => rfl)
  | succ m ih =>
    intro c s hc K
    have e1 := fun f => S_r299 (s := s) (h := h) (f := f) (j := c) (by omega)
    rw [u_135_42]
    simp (disch := omega) only [u_135_0, u_135_1, u_135_4, u_135_5, u_135_8, u_135_9, u_135_12, u_135_13, u_135_16, u_135_17, u_135_20, u_135_21, u_135_24, u_135_25, u_135_28, u_135_29, u_135_32, u_135_33, u_135_36, u_135_37, u_135_40, u_135_41, u_135_43, u_135_44, u_135_47, u_135_48, u_135_51, u_135_52, u_135_55, u_135_56, u_135_57, u_135_58, u_135_61, u_135_64, u_135_67, gI0, gIs, gR0, gRs, gF0, gFs, st0, st_i, st_r, st_f, st_n, st_s, true_and, and_true, ↓ifLeT, ↓ifLeF, ↓ifLtT, ↓ifLtF, ↓ifEqT, ↓ifEqF, if_tt, if_ff, if_pos, if_neg, nLe, nLt, nEq, nInT, nCl, pk_mul, nI_add, Nat.reduceAdd, s_cat_nil, s_cat_i, s_cat_r, s_cat_f, s_cat_l, tl_s, tl_n, cat_i, cat_r, cat_f, nb0, nb1, nbI, if_bI, if_bIr, Nat.zero_le, Nat.reduceLeDiff, S_g0_0, S_g0_1, S_g0_2, S_g0_3, S_g0_4, S_g0_5, S_g0_6, S_g0_7, S_g0_8, S_g0_9, S_g0_10, S_g0_11, S_g0_12, S_g0_13, S_g0_14, S_g1_0, S_g1_1, S_g1_2, S_g1_3, S_g1_4, S_g72_0, S_g72_1, S_g72_2, S_g239_0, S_g239_1, S_g239_2, S_g239_3, S_g239_4, S_g239_5, S_g239_6, S_a23, S_n23, S_a282, S_n282, S_a300, S_n300, S_n73, S_n299, e1, C_s1f (cbA (j := c) (by omega))]
    have sel : ∀ q, SO (wSO s (301 + 4 * c) (vB (SO s (301 + 4 * c)) 1 false)) q = if q = 301 + 4 * c then vB (SO s (301 + 4 * c)) 1 false else SO s q := fun q => rfl
    refine ih (c + 1) _ (by omega) fun s' f1 f2 f3 f4 f5 => K s' ⟨f1.1, f1.2.1, f1.2.2.1, f1.2.2.2.trans (if_neg (by omega))⟩ (fun q h2 _ => ?_) (fun q hq => ?_) (fun j h1 h2 => ?_) (fun j hj => ?_)
    · rw [f2 q h2 (Or.inr trivial), sel]
      by_cases e : q = 301 + 4 * c
      · rw [if_pos e, e]; rfl
      · rw [if_neg e]
    · rw [f3 q hq, sel, if_neg (hq c (by omega))]
    · by_cases e : j = c
      · subst e
        rw [f5 j (by omega), sel, if_pos rfl]
        rfl
      · exact f4 j (by omega) h2
    · rw [f5 j (by omega), sel, if_neg (by omega)]
theorem isCo_S : pCo 234 (SO s 234) (pS s h) = pS s h := by rw [S_O234, wSO_eta]
theorem K_g4 {f : Value → Prop} : fG (pS s h) 234 2 4 f ↔ f (.int (eI (SO s 234) 4)) := by
  have e := Co_g4 (b := 234) (o := SO s 234) (h := pS s h) (f := f)
  rwa [isCo_S] at e
theorem K_g5 {f : Value → Prop} : fG (pS s h) 234 2 5 f ↔ f (.int (iB (eB (SO s 234) 5))) := by
  have e := Co_g5 (b := 234) (o := SO s 234) (h := pS s h) (f := f)
  rwa [isCo_S] at e
theorem K_g3 {f : Value → Prop} : fG (pS s h) 234 2 3 f ↔ f (.ref 238) := by
  have e := Co_g3 (b := 234) (o := SO s 234) (h := pS s h) (f := f)
  rwa [isCo_S] at e
theorem K_a3 {f : Int32 → Prop} : aG (pS s h) 238 i f ↔ vp_in i 8 ∧ f (eA (SO s 234) 3 i.toNatClampNeg) := by
  have e := Co_a3 (b := 234) (o := SO s 234) (h := pS s h) (f := f) (i := i)
  rwa [isCo_S] at e
theorem K_ob {c : Nat} : (oO (pS s h) 234 fun c' _ => c' = c) ↔ 2 = c := by
  have e := Co_ob (b := 234) (o := SO s 234) (h := pS s h) (c := c)
  rwa [isCo_S] at e
theorem K_s5f {f : sH → Prop} : fS (pS s h) 234 2 5 (.int (nI 0)) f ↔ f (pS (wSO s 234 (vB (SO s 234) 5 false)) h) := by
  have e := Co_s5f (b := 234) (o := SO s 234) (h := pS s h) (f := f)
  rwa [isCo_S, S_O234] at e
theorem q_changed (K : ∀ s', frX s s' → eB (SO s' 234) 5 = false → (∀ b, cb2 b → eB (SO s' b) 1 = false) → Q none (pS s' h)) : MT (d + 2) 135 [.ref 0] (pS s h) Q := by
  rw [MT_go (by decide) _ _ _ (Nat.le_of_ble_eq_true rfl), show s_entry 135 [.ref 0] = [.ref 0, s_no] from rfl]
  simp (disch := omega) only [u_135_0, u_135_1, u_135_4, u_135_5, u_135_8, u_135_9, u_135_12, u_135_13, u_135_16, u_135_17, u_135_20, u_135_21, u_135_24, u_135_25, u_135_28, u_135_29, u_135_32, u_135_33, u_135_36, u_135_37, u_135_40, u_135_41, u_135_43, u_135_44, u_135_47, u_135_48, u_135_51, u_135_52, u_135_55, u_135_56, u_135_57, u_135_58, u_135_61, u_135_64, u_135_67, gI0, gIs, gR0, gRs, gF0, gFs, st0, st_i, st_r, st_f, st_n, st_s, true_and, and_true, ↓ifLeT, ↓ifLeF, ↓ifLtT, ↓ifLtF, ↓ifEqT, ↓ifEqF, if_tt, if_ff, if_pos, if_neg, nLe, nLt, nEq, nInT, nCl, pk_mul, nI_add, Nat.reduceAdd, s_cat_nil, s_cat_i, s_cat_r, s_cat_f, s_cat_l, tl_s, tl_n, cat_i, cat_r, cat_f, nb0, nb1, nbI, if_bI, if_bIr, Nat.zero_le, Nat.reduceLeDiff, S_g0_0, S_g0_1, S_g0_2, S_g0_3, S_g0_4, S_g0_5, S_g0_6, S_g0_7, S_g0_8, S_g0_9, S_g0_10, S_g0_11, S_g0_12, S_g0_13, S_g0_14, S_g1_0, S_g1_1, S_g1_2, S_g1_3, S_g1_4, S_g72_0, S_g72_1, S_g72_2, S_g239_0, S_g239_1, S_g239_2, S_g239_3, S_g239_4, S_g239_5, S_g239_6, S_a23, S_n23, S_a282, S_n282, S_a300, S_n300, S_n73, S_n299, K_s5f, C_s1f cb283, C_s1f cb287, C_s1f cb291, C_s1f cb295]
  refine changed_lp 4 0 _ rfl fun s' f1 f2 f3 f4 f5 => K s' ⟨f1.1, f1.2.1, f1.2.2.1, f1.2.2.2.trans rfl⟩ ?_ fun b hb => ?_
  · rw [f2 234 (by decide) (Or.inr trivial)]; rfl
  · rcases hb with e | e | e | e | ⟨j, hj, e⟩ <;> subst e
    · rw [f3 283 (fun j _ => by omega)]; rfl
    · rw [f3 287 (fun j _ => by omega)]; rfl
    · rw [f3 291 (fun j _ => by omega)]; rfl
    · rw [f3 295 (fun j _ => by omega)]; rfl
    · exact f4 j (Nat.zero_le _) hj
theorem q_ahead (hI : IC s z) (hq : zQ z = some n) (K : ∀ s', IC s' z → CoOK (SO s' 234) n → Q (some (.ref 234)) (pS s' h)) : MT (d + 4) 136 [.ref 0] (pS s h) Q := by
  have hq2 := hI.2.1
  rw [hq] at hq2
  obtain ⟨hy, hok⟩ := hq2
  rw [MT_go (by decide) _ _ _ (Nat.le_of_ble_eq_true rfl), show s_entry 136 [.ref 0] = [.ref 0] from rfl]
  cases hk : eB (SO s 234) 5 with
  | true =>
    obtain ⟨n', e1, e2⟩ := hI.2.2.2.2.2.1 hk
    rw [hq] at e1
    cases e1
    simp (disch := omega) only [u_136_0, u_136_1, u_136_4, u_136_7, u_136_10, u_136_11, u_136_14, u_136_15, u_136_18, u_136_21, u_136_22, u_136_25, u_136_26, u_136_29, u_136_32, u_136_33, u_136_36, gI0, gIs, gR0, gRs, gF0, gFs, st0, st_i, st_r, st_f, st_n, st_s, true_and, and_true, ↓ifLeT, ↓ifLeF, ↓ifLtT, ↓ifLtF, ↓ifEqT, ↓ifEqF, if_tt, if_ff, if_pos, if_neg, nLe, nLt, nEq, nInT, nCl, pk_mul, nI_add, Nat.reduceAdd, s_cat_nil, s_cat_i, s_cat_r, s_cat_f, s_cat_l, tl_s, tl_n, cat_i, cat_r, cat_f, nb0, nb1, nbI, if_bI, if_bIr, Nat.zero_le, Nat.reduceLeDiff, S_g0_0, S_g0_1, S_g0_2, S_g0_3, S_g0_4, S_g0_5, S_g0_6, S_g0_7, S_g0_8, S_g0_9, S_g0_10, S_g0_11, S_g0_12, S_g0_13, S_g0_14, S_g1_0, S_g1_1, S_g1_2, S_g1_3, S_g1_4, S_g72_0, S_g72_1, S_g72_2, S_g239_0, S_g239_1, S_g239_2, S_g239_3, S_g239_4, S_g239_5, S_g239_6, S_a23, S_n23, S_a282, S_n282, S_a300, S_n300, S_n73, S_n299, K_g5, hk, iBt, nI10, reduceIte]
    exact K s hI e2
  | false =>
    have e1 := fun Q => S_copyY (d := d + 1) (s := s) (h := h) (Q := Q) yb40 yb24 (by decide)
    have hy1 : RY (cpY (SY s 40) (SY s 24)) n := RY_cp hy
    have hr := fun co => course_rel (co := co) hok.1 hy1
    have e2 : ∀ Q, MT (d + 3) 10 [.ref 234, .ref 40] (pS (wSY s 40 (cpY (SY s 40) (SY s 24))) h) Q ↔ Q none (pS (wSO (wSY s 40 (endY (cpY (SY s 40) (SY s 24)) (SO s 234))) 234 (rcY (cpY (SY s 40) (SY s 24)) (SO s 234))) h) := fun Q => by
      have e := S_record (d := d) (a := 40) (s := wSY s 40 (cpY (SY s 40) (SY s 24))) (h := h) (Q := Q) yb40 (by rw [SYw]; exact RY_ok hok.1 hy1)
      rw [SYw, wSY_tw] at e
      exact e
    generalize endY (cpY (SY s 40) (SY s 24)) (SO s 234) = ey at e2
    have hr := hr (SO s 234)
    generalize rcY (cpY (SY s 40) (SY s 24)) (SO s 234) = rc at e2 hr
    simp (disch := omega) only [u_136_0, u_136_1, u_136_4, u_136_7, u_136_10, u_136_11, u_136_14, u_136_15, u_136_18, u_136_21, u_136_22, u_136_25, u_136_26, u_136_29, u_136_32, u_136_33, u_136_36, gI0, gIs, gR0, gRs, gF0, gFs, st0, st_i, st_r, st_f, st_n, st_s, true_and, and_true, ↓ifLeT, ↓ifLeF, ↓ifLtT, ↓ifLtF, ↓ifEqT, ↓ifEqF, if_tt, if_ff, if_pos, if_neg, nLe, nLt, nEq, nInT, nCl, pk_mul, nI_add, Nat.reduceAdd, s_cat_nil, s_cat_i, s_cat_r, s_cat_f, s_cat_l, tl_s, tl_n, cat_i, cat_r, cat_f, nb0, nb1, nbI, if_bI, if_bIr, Nat.zero_le, Nat.reduceLeDiff, S_g0_0, S_g0_1, S_g0_2, S_g0_3, S_g0_4, S_g0_5, S_g0_6, S_g0_7, S_g0_8, S_g0_9, S_g0_10, S_g0_11, S_g0_12, S_g0_13, S_g0_14, S_g1_0, S_g1_1, S_g1_2, S_g1_3, S_g1_4, S_g72_0, S_g72_1, S_g72_2, S_g239_0, S_g239_1, S_g239_2, S_g239_3, S_g239_4, S_g239_5, S_g239_6, S_a23, S_n23, S_a282, S_n282, S_a300, S_n300, S_n73, S_n299, K_g5, K_ob, Y'_ob (isY_S yb40), Y'_g0 (isY_S yb40), Y'_g1 (isY_S yb40), Y'_g2 (isY_S yb40), Y'_g3 (isY_S yb40), Y'_g4 (isY_S yb40), Y'_g5 (isY_S yb40), Y'_g6 (isY_S yb40), Y'_g7 (isY_S yb40), Y'_g8 (isY_S yb40), Y'_g9 (isY_S yb40), Y'_g10 (isY_S yb40), Y'_g11 (isY_S yb40), Y'_g12 (isY_S yb40), Y'_g13 (isY_S yb40), Y'_g14 (isY_S yb40), Y'_g15 (isY_S yb40), Y'_g16 (isY_S yb40), Y'_g17 (isY_S yb40), Y'_g18 (isY_S yb40), Y'_g19 (isY_S yb40), Y'_a7 (isY_S yb40), Y'_a8 (isY_S yb40), Y'_a10 (isY_S yb40), Y'_a11 (isY_S yb40), Y'_a12 (isY_S yb40), Y'_a13 (isY_S yb40), Y'_a14 (isY_S yb40), Y'_a15 (isY_S yb40), Y'_a16 (isY_S yb40), Y'_a17 (isY_S yb40), Y'_a18 (isY_S yb40), Y'_sw (isY_S yb40), hk, iBf, e1, e2]
    refine K _ (IC_same hI rfl (fun q a _ _ => if_neg a) rfl (fun q a => if_neg a) fun _ => ⟨n, hq, ?_⟩) ?_
    · rw [SOw]; exact hr
    · rw [SOw]; exact hr
end QIV
