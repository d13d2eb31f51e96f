/-! the law: crane, the loop -/
theorem hs_at9 {h : sH} {a : Nat} {c : sC} : (hs h a c).2.2 a = c := by
  show (if a = a then c else h.2.2 a) = c
  exact if_pos rfl
theorem hs_ne9 {h : sH} {a q : Nat} {c : sC} (hq : q ≠ a) : (hs h a c).2.2 q = h.2.2 q := by
  show (if q = a then c else h.2.2 q) = h.2.2 q
  exact if_neg hq
section LWM
variable {s : tS} {m : tM} {h : sH} {Q : sQ} {z : tQ} {L i k1 k2 : Nat} {xs : Nat → Int32} {v5 v6 : Value} {c w : Int32}
theorem crX_S : crX (pS s h) c w ↔ (¬ (nI 0 ≤ c ∧ c < nI (yC (SY s 24))) ∨ w < nI 0 ∨ nI 5 < w) := by
  show fG (pS s h) 0 8 2 (fun v => ∃ a, v = .ref a ∧ fG (pS s h) a 7 2 fun u => ∃ N, u = .int N ∧ (¬ (nI 0 ≤ c ∧ c < N) ∨ w < nI 0 ∨ nI 5 < w)) ↔ _
  rw [S_g0_2]
  constructor
  · rintro ⟨a, e, q⟩
    cases e
    rw [Y'_g2 (isY_S yb24)] at q
    obtain ⟨N, e, q⟩ := q
    cases e
    exact q
  · intro q
    refine ⟨24, rfl, ?_⟩
    rw [Y'_g2 (isY_S yb24)]
    exact ⟨_, rfl, q⟩
theorem cr_none (hI : IC s z) : zcrane z c w = none ↔ crX (pS s h) c w := by
  rw [crX_S, IC_C hI]
  unfold zcrane
  cases hq : zQ z with
  | none =>
    rw [zC_0 hq]
    exact ⟨fun _ => Or.inl fun q => absurd (Int32.lt_of_le_of_lt q.1 q.2) (by decide), fun _ => rfl⟩
  | some n =>
    rw [zC_s hq]
    dsimp only
    cases h1 : ixN c (nF n 2) with
    | none => exact ⟨fun _ => Or.inl (ix_none h1), fun _ => rfl⟩
    | some j =>
      have g1 : nI 0 ≤ c ∧ c < nI (nF n 2) := by
        unfold ixN at h1
        split at h1
        · assumption
        · cases h1
      dsimp only
      cases h2 : ixN w 6 with
      | none =>
        refine ⟨fun _ => ?_, fun _ => rfl⟩
        have := ix_none h2
        by_cases g : w < nI 0
        · exact Or.inr (Or.inl g)
        · refine Or.inr (Or.inr ?_)
          have g2 : nI 6 ≤ w := Int32.not_lt.mp fun q => this ⟨Int32.not_lt.mp g, q⟩
          exact Int32.lt_of_lt_of_le (by decide) g2
      | some k =>
        have g2 : nI 0 ≤ w ∧ w < nI 6 := by
          unfold ixN at h2
          split at h2
          · assumption
          · cases h2
        refine ⟨fun q => (by cases q), fun q => ?_⟩
        rcases q with q | q | q
        · exact absurd g1 q
        · exact absurd q (Int32.not_lt.mpr g2.1)
        · refine absurd g2.2 (Int32.not_lt.mpr ?_)
          rw [Int32.le_iff_toInt_le]
          rw [Int32.lt_iff_toInt_lt] at q
          have e5 : (nI 5).toInt = 5 := by decide
          have e6 : (nI 6).toInt = 6 := by decide
          omega
theorem hs_far {x : sC} {q : Nat} (hq : 334 ≤ q) : hs (pS s (pM m h)) q x = pS s (pM m (hs h q x)) := by
  unfold hs pS pM pC
  refine Prod.ext rfl (Prod.ext rfl (funext fun r => ?_))
  show (if r = q then x else if 0 ≤ r ∧ r < 0 + 317 then cS s (r - 0) else if 317 ≤ r ∧ r < 317 + 17 then cM m (r - 317) else h.2.2 r) = if 0 ≤ r ∧ r < 0 + 317 then cS s (r - 0) else if 317 ≤ r ∧ r < 317 + 17 then cM m (r - 317) else if r = q then x else h.2.2 r
  by_cases e : r = q
  · rw [if_pos e, if_neg (by omega), if_neg (by omega), if_pos e]
  · rw [if_neg e, if_neg e]
theorem L_g {x : Int32} {f : Int64 → Prop} {g : Nat → Int64} (hg : h.2.2 334 = .inl (3, 1, .inr (.inl g))) : lG (pS s (pM m h)) 334 x f ↔ vp_in x 1 ∧ f (g x.toNatClampNeg) := by
  unfold lG oL
  rw [hfar (by decide), hg]
  exact ⟨fun z => z.2, fun z => ⟨rfl, z⟩⟩
theorem lc_crane (hI : IC s z) (hm : RM m z) (hB : BH h L xs) (hi : i + 6 ≤ L) (hL : L ≤ 3072) (h1 : k1 + 1 ≤ 847) (h2 : k2 + 6 ≤ 12263) (K : ∀ s' m' h' z' v5 v6, IC s' z' → RM m' z' → BH h' L xs → WP 64 275 1290 [.ref 1000000, .ref 0, .ref 317, .ref 334, .int (nI i), v5, v6] [] (pS s' (pM m' h')) (k1 + 1, k2 + 6) Q) : WP 64 275 521 [.ref 1000000, .ref 0, .ref 317, .ref 334, .int (nI i), v5, v6] [] (pS s (pM m h)) (k1, k2) Q := by
  simp (disch := omega) only [u_275_521, u_275_522, u_275_523, u_275_525, u_275_526, u_275_527, u_275_528, u_275_529, u_275_531, u_275_532, u_275_533, u_275_534, u_275_535, gI0, gIs, gR0, gRs, gF0, gFs, st0, st_i, st_r, st_f, st_n, st_s, true_and, and_true, ↓ifLeT, ↓ifLeF, ↓ifLtT, ↓ifLtF, ↓ifEqT, ↓ifEqF, if_tt, if_ff, if_pos, if_neg, nLe, nLt, nEq, nInT, nCl, pk_mul, nI_add, Nat.reduceAdd, s_cat_nil, s_cat_i, s_cat_r, s_cat_f, s_cat_l, tl_s, tl_n, cat_i, cat_r, cat_f, nb0, nb1, nbI, if_bI, if_bIr, Nat.zero_le, Nat.reduceLeDiff, lw_mc, lw_ms, h1, h2, L_x hB]
  rw [MT_ext (by decide)]
  have rest : ∀ h' (v : Int32), BH h' L xs → (∀ m', kI m' 0 = iB (zcrane z (xs (i + 1)) (xs (i + 2))).isNone → RM m' z → WP 64 275 558 [.ref 1000000, .ref 0, .ref 317, .ref 334, .int (nI i), .int v, .int ((zcrane z (xs (i + 1)) (xs (i + 2))).getD (nI 0))] [] (pS s (pM m' h')) (k1 + 1, k2 + 6) Q) → WP 64 275 538 [.ref 1000000, .ref 0, .ref 317, .ref 334, .int (nI i), v5, v6] [.int v] (pS s (pM m h')) (k1 + 1, k2 + 6) Q := fun h' v hB' K => by
    simp (disch := omega) only [u_275_538, u_275_540, u_275_541, u_275_542, u_275_544, u_275_545, u_275_546, u_275_547, u_275_548, u_275_550, u_275_551, u_275_552, u_275_553, gI0, gIs, gR0, gRs, gF0, gFs, st0, st_i, st_r, st_f, st_n, st_s, true_and, and_true, ↓ifLeT, ↓ifLeF, ↓ifLtT, ↓ifLtF, ↓ifEqT, ↓ifEqF, if_tt, if_ff, if_pos, if_neg, nLe, nLt, nEq, nInT, nCl, pk_mul, nI_add, Nat.reduceAdd, s_cat_nil, s_cat_i, s_cat_r, s_cat_f, s_cat_l, tl_s, tl_n, cat_i, cat_r, cat_f, nb0, nb1, nbI, if_bI, if_bIr, Nat.zero_le, Nat.reduceLeDiff, lw_mc, lw_ms, h1, h2, L_x hB', L_ob]
    rw [hpm]
    refine z_crane hm fun m' hm' e => ?_
    rw [← hpm]
    simp (disch := omega) only [u_275_556, gI0, gIs, gR0, gRs, gF0, gFs, st0, st_i, st_r, st_f, st_n, st_s, true_and, and_true, ↓ifLeT, ↓ifLeF, ↓ifLtT, ↓ifLtF, ↓ifEqT, ↓ifEqF, if_tt, if_ff, if_pos, if_neg, nLe, nLt, nEq, nInT, nCl, pk_mul, nI_add, Nat.reduceAdd, s_cat_nil, s_cat_i, s_cat_r, s_cat_f, s_cat_l, tl_s, tl_n, cat_i, cat_r, cat_f, nb0, nb1, nbI, if_bI, if_bIr, Nat.zero_le, Nat.reduceLeDiff]
    exact K m' e hm'
  cases hv : zcrane z (xs (i + 1)) (xs (i + 2)) with
  | none =>
    refine ⟨_, _, rfl, Or.inr ⟨(cr_none hI).mp hv, ?_⟩⟩
    have hB' : BH (false, h.2) L xs := hB
    refine rest (false, h.2) (nI 1) hB' fun m' e hm' => ?_
    rw [hv] at e
    have e : kI m' 0 = nI 1 := e
    simp (disch := omega) only [u_275_558, u_275_559, gI0, gIs, gR0, gRs, gF0, gFs, st0, st_i, st_r, st_f, st_n, st_s, true_and, and_true, ↓ifLeT, ↓ifLeF, ↓ifLtT, ↓ifLtF, ↓ifEqT, ↓ifEqF, if_tt, if_ff, if_pos, if_neg, nLe, nLt, nEq, nInT, nCl, pk_mul, nI_add, Nat.reduceAdd, s_cat_nil, s_cat_i, s_cat_r, s_cat_f, s_cat_l, tl_s, tl_n, cat_i, cat_r, cat_f, nb0, nb1, nbI, if_bI, if_bIr, Nat.zero_le, Nat.reduceLeDiff, lw_mc, lw_ms, h1, h2, L_ob]
    rw [hpm, z_thrown, ← hpm, e]
    simp (disch := omega) only [u_275_562, u_275_564, u_275_567, u_275_568, u_275_569, u_275_571, u_275_574, u_275_575, u_275_576, u_275_577, u_275_579, u_275_580, u_275_581, u_275_584, u_275_585, u_275_586, gI0, gIs, gR0, gRs, gF0, gFs, st0, st_i, st_r, st_f, st_n, st_s, true_and, and_true, ↓ifLeT, ↓ifLeF, ↓ifLtT, ↓ifLtF, ↓ifEqT, ↓ifEqF, if_tt, if_ff, if_pos, if_neg, nLe, nLt, nEq, nInT, nCl, pk_mul, nI_add, Nat.reduceAdd, s_cat_nil, s_cat_i, s_cat_r, s_cat_f, s_cat_l, tl_s, tl_n, cat_i, cat_r, cat_f, nb0, nb1, nbI, if_bI, if_bIr, Nat.zero_le, Nat.reduceLeDiff, reduceIte]
    exact K s m' _ z _ _ hI hm' hB'
  | some v =>
    have nx : ¬ crX (pS s (pM m h)) (xs (i + 1)) (xs (i + 2)) := fun q => by
      rw [(cr_none hI).mpr q] at hv
      cases hv
    obtain ⟨⟨g, hg⟩, hB2⟩ := id hB
    refine ⟨_, _, rfl, Or.inl ⟨nx, ?_⟩⟩
    have hv' := hv
    unfold zcrane at hv'
    cases hq : zQ z with
    | none => simp only [hq] at hv'; cases hv'
    | some n =>
      simp only [hq] at hv'
      cases h3 : ixN (xs (i + 1)) (nF n 2) with
      | none => simp only [h3] at hv'; cases hv'
      | some j =>
        simp only [h3] at hv'
        cases h4 : ixN (xs (i + 2)) 6 with
        | none => simp only [h4] at hv'; cases hv'
        | some k =>
          have hok := (RM_q hm hq).2.2
          obtain ⟨j1, e1⟩ := ix_some (by have := hok.1.1.1; omega) h3
          obtain ⟨k1', e2⟩ := ix_some (by decide) h4
          have qc := fun Q => q_crane (d := 59) (h := pM m h) (Q := Q) hI hq j1 k1' (v := v) (by rw [← e1, ← e2]; exact hv)
          rw [← e1, ← e2] at qc
          refine (qc _).mpr ⟨v, rfl, ?_⟩
          unfold oL
          rw [hfar (by decide), hg]
          refine ⟨rfl, (nIn (a := 0) (by decide)).mpr (by decide), ?_⟩
          rw [hs_far (by decide)]
          have hg' : (hs h 334 (.inl (3, 1, .inr (.inl (upL g 0 v.toInt64))))).2.2 334 = .inl (3, 1, .inr (.inl (upL g 0 v.toInt64))) := hs_at9
          have hB' : BH (hs h 334 (.inl (3, 1, .inr (.inl (upL g 0 v.toInt64))))) L xs := ⟨⟨_, hg'⟩, (hs_ne9 (by decide)).trans hB2⟩
          refine rest _ (nI 0) hB' fun m' e hm' => ?_
          rw [hv] at e ⊢
          have e : kI m' 0 = nI 0 := e
          have eu : upL g 0 v.toInt64 0 = v.toInt64 := if_pos rfl
          simp (disch := omega) only [u_275_558, u_275_559, gI0, gIs, gR0, gRs, gF0, gFs, st0, st_i, st_r, st_f, st_n, st_s, true_and, and_true, ↓ifLeT, ↓ifLeF, ↓ifLtT, ↓ifLtF, ↓ifEqT, ↓ifEqF, if_tt, if_ff, if_pos, if_neg, nLe, nLt, nEq, nInT, nCl, pk_mul, nI_add, Nat.reduceAdd, s_cat_nil, s_cat_i, s_cat_r, s_cat_f, s_cat_l, tl_s, tl_n, cat_i, cat_r, cat_f, nb0, nb1, nbI, if_bI, if_bIr, Nat.zero_le, Nat.reduceLeDiff, lw_mc, lw_ms, h1, h2, L_ob]
          rw [hpm, z_thrown, ← hpm, e]
          simp (disch := omega) only [u_275_562, u_275_564, u_275_567, u_275_568, u_275_569, u_275_571, u_275_574, u_275_575, u_275_576, u_275_577, u_275_579, u_275_580, u_275_581, u_275_584, u_275_585, u_275_586, gI0, gIs, gR0, gRs, gF0, gFs, st0, st_i, st_r, st_f, st_n, st_s, true_and, and_true, ↓ifLeT, ↓ifLeF, ↓ifLtT, ↓ifLtF, ↓ifEqT, ↓ifEqF, if_tt, if_ff, if_pos, if_neg, nLe, nLt, nEq, nInT, nCl, pk_mul, nI_add, Nat.reduceAdd, s_cat_nil, s_cat_i, s_cat_r, s_cat_f, s_cat_l, tl_s, tl_n, cat_i, cat_r, cat_f, nb0, nb1, nbI, if_bI, if_bIr, Nat.zero_le, Nat.reduceLeDiff, L_g hg', Option.getD_some, eu, lg_self, reduceIte]
          exact K s m' _ z _ _ hI hm' hB'
end LWM
