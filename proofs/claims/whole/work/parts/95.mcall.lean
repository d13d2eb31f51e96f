/-! the reference tells z -/
def keyI (k : Nat) : Prop := k = 2 ∨ k = 8 ∨ k = 9 ∨ k = 10 ∨ k = 23
def keyA (k : Nat) : Prop := k = 318 ∨ k = 319 ∨ k = 320 ∨ k = 325 ∨ k = 326 ∨ k = 333
def frZ (m m' : tM) : Prop := (∀ k, keyI k → kI m' k = kI m k) ∧ kB m' = kB m ∧ ∀ q, keyA q → kA m' q = kA m q
theorem frZ_r {m : tM} : frZ m m := ⟨fun _ _ => rfl, rfl, fun _ _ => rfl⟩
theorem frZ_t {m m' m2 : tM} (h1 : frZ m m') (h2 : frZ m' m2) : frZ m m2 := ⟨fun k hk => (h2.1 k hk).trans (h1.1 k hk), h2.2.1.trans h1.2.1, fun k hk => (h2.2.2 k hk).trans (h1.2.2 k hk)⟩
theorem frZ_M {m m' : tM} {b : Nat} (hb : b = 329 ∨ b = 330 ∨ b = 322) (h : frM b m m') : frZ m m' := ⟨fun k _ => h.1 k, h.2.1, fun q hq => h.2.2 q (by unfold keyA at hq; omega) (by unfold keyA at hq; omega)⟩
theorem frZ_I {m : tM} {k : Nat} {x : Int32} (hk : k ≠ 2 ∧ k ≠ 8 ∧ k ≠ 9 ∧ k ≠ 10 ∧ k ≠ 23) : frZ m (xI m k x) := ⟨fun q hq => if_neg (by unfold keyI at hq; omega), rfl, fun _ _ => rfl⟩
theorem frZ_A {m : tM} {k : Nat} {f : Nat → Int32} (hk : k ≠ 318 ∧ k ≠ 319 ∧ k ≠ 320 ∧ k ≠ 325 ∧ k ≠ 326 ∧ k ≠ 333) : frZ m (xA m k f) := ⟨fun _ _ => rfl, rfl, fun q hq => if_neg (by unfold keyA at hq; omega)⟩
theorem frZ_V {m : tM} {f : Nat → Bool} : frZ m (xV m f) := ⟨fun _ _ => rfl, rfl, fun _ _ => rfl⟩
def rmT (m : tM) (z : tQ) : Prop := kI m 2 = nI (eN (zT z) 1) ∧ eN (zT z) 1 ≤ 400 ∧ ∀ j, j < eN (zT z) 1 → kA m 318 j = eA (zT z) 0 j ∧ ∃ v, eA (zT z) 0 j = nI v ∧ v < 256
def rmQ (m : tM) (z : tQ) : Prop := kB m 13 = (zQ z).isSome ∧ ∀ n, zQ z = some n → MG m n ∧ RR (kA m 320) n ∧ okQ n
def rmA (m : tM) (z : tQ) : Prop := kI m 23 = nI (zA z).length ∧ (zA z).length ≤ 10 ∧ ∀ j a, (zA z)[j]? = some a → RR (fun k => kA m 325 (106 * j + k)) a ∧ okQ a ∧ ∃ n, zQ z = some n ∧ sameQ a n
def rmI (m : tM) (z : tQ) : Prop := kB m 41 = (zI z).isSome ∧ ∀ a, zI z = some a → RR (kA m 333) a ∧ okQ a ∧ ∃ n, zQ z = some n ∧ sameQ a n
def rmR (m : tM) (z : tQ) : Prop := ∀ k, k < 4 → kA m 326 k = zR z k
def RM (m : tM) (z : tQ) : Prop := rmT m z ∧ rmQ m z ∧ rmA m z ∧ rmI m z ∧ rmR m z
theorem MG_fz {m m' : tM} {n : tN} (hg : MG m n) (hf : frZ m m') : MG m' n := by
  obtain ⟨g1, g2, g3, g4⟩ := hg
  exact ⟨(hf.1 8 (by unfold keyI; decide)).trans g1, (hf.1 9 (by unfold keyI; decide)).trans g2, (hf.1 10 (by unfold keyI; decide)).trans g3, fun c hc => by rw [hf.2.2 319 (by unfold keyA; decide)]; exact g4 c hc⟩
theorem RM_fr {m m' : tM} {z : tQ} (hf : frZ m m') (h : RM m z) : RM m' z := by
  obtain ⟨⟨t1, t2, t3⟩, ⟨q1, q2⟩, ⟨a1, a2, a3⟩, ⟨i1, i2⟩, hr⟩ := h
  have k318 := hf.2.2 318 (by unfold keyA; decide)
  have k320 := hf.2.2 320 (by unfold keyA; decide)
  have k325 := hf.2.2 325 (by unfold keyA; decide)
  have k326 := hf.2.2 326 (by unfold keyA; decide)
  have k333 := hf.2.2 333 (by unfold keyA; decide)
  refine ⟨⟨(hf.1 2 (by unfold keyI; decide)).trans t1, t2, fun j hj => by rw [k318]; exact t3 j hj⟩, ⟨by rw [hf.2.1]; exact q1, fun n hn => ?_⟩, ⟨(hf.1 23 (by unfold keyI; decide)).trans a1, a2, fun j a e => by rw [k325]; exact a3 j a e⟩, ⟨by rw [hf.2.1]; exact i1, fun a e => by rw [k333]; exact i2 a e⟩, fun k hk => by rw [k326]; exact hr k hk⟩
  obtain ⟨b1, b2, b3⟩ := q2 n hn
  exact ⟨MG_fz b1 hf, by rw [k320]; exact b2, b3⟩
section MC
variable {b d : Nat} {m : tM} {h : sH} {i x y w c t : Int32} {Q : sQ} {n : tN} {z : tQ} {k : sK}
theorem m_inK {N : Nat} {L : Int64} (h0 : 0 < N) (hN : N < 2 ^ 30) (hL : (nI (N - 1)).toInt64 = L) : MT (d + 1) 142 [.long x.toInt64, .long 0, .long L] h Q ↔ Q (some (.int (iB (ixN x N).isSome))) h := by
  rw [← hL]
  exact m_in0 h0 hN
theorem in301 : MT (d + 1) 142 [.long x.toInt64, .long 0, .long 300] h Q ↔ Q (some (.int (iB (ixN x 301).isSome))) h := m_inK (by decide) (by decide) (by decide)
theorem in300 : MT (d + 1) 142 [.long x.toInt64, .long 0, .long 299] h Q ↔ Q (some (.int (iB (ixN x 300).isSome))) h := m_inK (by decide) (by decide) (by decide)
theorem in5 : MT (d + 1) 142 [.long x.toInt64, .long 0, .long 4] h Q ↔ Q (some (.int (iB (ixN x 5).isSome))) h := m_inK (by decide) (by decide) (by decide)
theorem in4 : MT (d + 1) 142 [.long x.toInt64, .long 0, .long 3] h Q ↔ Q (some (.int (iB (ixN x 4).isSome))) h := m_inK (by decide) (by decide) (by decide)
theorem in3 : MT (d + 1) 142 [.long x.toInt64, .long 0, .long 2] h Q ↔ Q (some (.int (iB (ixN x 3).isSome))) h := m_inK (by decide) (by decide) (by decide)
theorem in2 : MT (d + 1) 142 [.long x.toInt64, .long 0, .long 1] h Q ↔ Q (some (.int (iB (ixN x 2).isSome))) h := m_inK (by decide) (by decide) (by decide)
theorem in6 : MT (d + 1) 142 [.long x.toInt64, .long 0, .long 5] h Q ↔ Q (some (.int (iB (ixN x 6).isSome))) h := m_inK (by decide) (by decide) (by decide)
theorem RM_0 (hm : RM m z) : RM (xI m 0 x) z := RM_fr (frZ_I (by decide)) hm
theorem RM_q (hm : RM m z) (hq : zQ z = some n) : MG m n ∧ RR (kA m 320) n ∧ okQ n := hm.2.1.2 n hq
theorem z_isC (hm : RM m z) : MT (d + 2) 197 [.ref 317, .int x] (pM m h) Q ↔ Q (some (.int (iB (ixN x (zC z)).isSome))) (pM m h) := by
  rw [MT_go (by decide) _ _ _ (Nat.le_of_ble_eq_true rfl), show s_entry 197 [.ref 317, .int x] = [.ref 317, .int x] from rfl]
  have q1 := hm.2.1.1
  cases hq : zQ z with
  | none =>
    rw [hq] at q1
    rw [zC_0 hq, ix_0]
    simp (disch := omega) only [u_197_0, u_197_1, u_197_4, u_197_7, u_197_8, u_197_9, u_197_10, u_197_11, u_197_14, u_197_15, u_197_16, u_197_17, u_197_20, u_197_23, u_197_24, u_197_27, u_197_28, gI0, gIs, gR0, gRs, gF0, gFs, st0, st_i, st_r, st_f, st_n, st_s, true_and, and_true, ↓ifLeT, ↓ifLeF, ↓ifLtT, ↓ifLtF, ↓ifEqT, ↓ifEqF, if_tt, if_ff, if_pos, if_neg, nLe, nLt, nEq, nInT, nCl, pk_mul, nI_add, Nat.reduceAdd, s_cat_nil, s_cat_i, s_cat_r, s_cat_f, s_cat_l, tl_s, tl_n, cat_i, cat_r, cat_f, nb0, nb1, nbI, if_bI, if_bIr, Nat.zero_le, Nat.reduceLeDiff, M_ob, M_g0, M_g1, M_g2, M_g3, M_g4, M_g5, M_g6, M_g7, M_g8, M_g9, M_g10, M_g11, M_g12, M_g13, M_g14, M_g15, M_g16, M_g17, M_g18, M_g19, M_g20, M_g21, M_g22, M_g23, M_g24, M_g25, M_g26, M_g27, M_g28, M_g29, M_g30, M_g31, M_g32, M_g33, M_g34, M_g35, M_g36, M_g37, M_g38, M_g39, M_g40, M_g41, q1, Option.isSome, iBf]
  | some n =>
    rw [hq] at q1
    obtain ⟨⟨g0, g1, g2, -⟩, hr, hok⟩ := RM_q hm hq
    have h1 := hok.2.1
    have h4 := hok.1.1.1
    have s1 := sub1 (N := nF n 2) h1
    have e1 := fun Q => m_in0 (d := d) (h := pM m h) (x := x) (Q := Q) (N := nF n 2) (by omega) (by omega)
    rw [zC_s hq]
    cases hx : (ixN x (nF n 2)).isSome with
    | true =>
      rw [hx] at e1
      simp (disch := omega) only [u_197_0, u_197_1, u_197_4, u_197_7, u_197_8, u_197_9, u_197_10, u_197_11, u_197_14, u_197_15, u_197_16, u_197_17, u_197_20, u_197_23, u_197_24, u_197_27, u_197_28, gI0, gIs, gR0, gRs, gF0, gFs, st0, st_i, st_r, st_f, st_n, st_s, true_and, and_true, ↓ifLeT, ↓ifLeF, ↓ifLtT, ↓ifLtF, ↓ifEqT, ↓ifEqF, if_tt, if_ff, if_pos, if_neg, nLe, nLt, nEq, nInT, nCl, pk_mul, nI_add, Nat.reduceAdd, s_cat_nil, s_cat_i, s_cat_r, s_cat_f, s_cat_l, tl_s, tl_n, cat_i, cat_r, cat_f, nb0, nb1, nbI, if_bI, if_bIr, Nat.zero_le, Nat.reduceLeDiff, M_ob, M_g0, M_g1, M_g2, M_g3, M_g4, M_g5, M_g6, M_g7, M_g8, M_g9, M_g10, M_g11, M_g12, M_g13, M_g14, M_g15, M_g16, M_g17, M_g18, M_g19, M_g20, M_g21, M_g22, M_g23, M_g24, M_g25, M_g26, M_g27, M_g28, M_g29, M_g30, M_g31, M_g32, M_g33, M_g34, M_g35, M_g36, M_g37, M_g38, M_g39, M_g40, M_g41, q1, g2, s1, e1, Option.isSome_some, iBt, nI10, reduceIte]
    | false =>
      rw [hx] at e1
      simp (disch := omega) only [u_197_0, u_197_1, u_197_4, u_197_7, u_197_8, u_197_9, u_197_10, u_197_11, u_197_14, u_197_15, u_197_16, u_197_17, u_197_20, u_197_23, u_197_24, u_197_27, u_197_28, gI0, gIs, gR0, gRs, gF0, gFs, st0, st_i, st_r, st_f, st_n, st_s, true_and, and_true, ↓ifLeT, ↓ifLeF, ↓ifLtT, ↓ifLtF, ↓ifEqT, ↓ifEqF, if_tt, if_ff, if_pos, if_neg, nLe, nLt, nEq, nInT, nCl, pk_mul, nI_add, Nat.reduceAdd, s_cat_nil, s_cat_i, s_cat_r, s_cat_f, s_cat_l, tl_s, tl_n, cat_i, cat_r, cat_f, nb0, nb1, nbI, if_bI, if_bIr, Nat.zero_le, Nat.reduceLeDiff, M_ob, M_g0, M_g1, M_g2, M_g3, M_g4, M_g5, M_g6, M_g7, M_g8, M_g9, M_g10, M_g11, M_g12, M_g13, M_g14, M_g15, M_g16, M_g17, M_g18, M_g19, M_g20, M_g21, M_g22, M_g23, M_g24, M_g25, M_g26, M_g27, M_g28, M_g29, M_g30, M_g31, M_g32, M_g33, M_g34, M_g35, M_g36, M_g37, M_g38, M_g39, M_g40, M_g41, q1, g2, s1, e1, Option.isSome_some, iBt, iBf, nI10, reduceIte]
theorem z_isT (hm : RM m z) : MT (d + 2) 198 [.ref 317, .int x] (pM m h) Q ↔ Q (some (.int (iB (ixN x (zN z)).isSome))) (pM m h) := by
  rw [MT_go (by decide) _ _ _ (Nat.le_of_ble_eq_true rfl), show s_entry 198 [.ref 317, .int x] = [.ref 317, .int x] from rfl]
  have q1 := hm.2.1.1
  have c1 : (nI 1).toNatClampNeg = 1 := rfl
  cases hq : zQ z with
  | none =>
    rw [hq] at q1
    rw [zN_0 hq, ix_0]
    simp (disch := omega) only [u_198_0, u_198_1, u_198_4, u_198_7, u_198_8, u_198_9, u_198_10, u_198_11, u_198_14, u_198_15, u_198_16, u_198_17, u_198_18, u_198_19, u_198_22, u_198_25, u_198_26, u_198_29, u_198_30, gI0, gIs, gR0, gRs, gF0, gFs, st0, st_i, st_r, st_f, st_n, st_s, true_and, and_true, ↓ifLeT, ↓ifLeF, ↓ifLtT, ↓ifLtF, ↓ifEqT, ↓ifEqF, if_tt, if_ff, if_pos, if_neg, nLe, nLt, nEq, nInT, nCl, pk_mul, nI_add, Nat.reduceAdd, s_cat_nil, s_cat_i, s_cat_r, s_cat_f, s_cat_l, tl_s, tl_n, cat_i, cat_r, cat_f, nb0, nb1, nbI, if_bI, if_bIr, Nat.zero_le, Nat.reduceLeDiff, M_ob, M_g0, M_g1, M_g2, M_g3, M_g4, M_g5, M_g6, M_g7, M_g8, M_g9, M_g10, M_g11, M_g12, M_g13, M_g14, M_g15, M_g16, M_g17, M_g18, M_g19, M_g20, M_g21, M_g22, M_g23, M_g24, M_g25, M_g26, M_g27, M_g28, M_g29, M_g30, M_g31, M_g32, M_g33, M_g34, M_g35, M_g36, M_g37, M_g38, M_g39, M_g40, M_g41, q1, Option.isSome, iBf]
  | some n =>
    rw [hq] at q1
    obtain ⟨-, hr, hok⟩ := RM_q hm hq
    have h8 := hok.1.1.2.1
    have r1 := hr.2.1
    rw [zN_s hq]
    have e1 : ∀ Q, MT (d + 1) 142 [.long x.toInt64, .long 0, .long (nI (nF n 3) - nI 1).toInt64] (pM m h) Q ↔ Q (some (.int (iB (ixN x (nF n 3)).isSome))) (pM m h) := fun Q => by
      by_cases h0 : nF n 3 = 0
      · rw [m_in, h0, ix_0]
        have : (decide ((0 : Int64) ≤ x.toInt64) && decide (x.toInt64 ≤ (nI 0 - nI 1).toInt64)) = false := by
          rw [show (0 : Int64) = (nI 0).toInt64 by decide, Bool.and_eq_false_iff, decide_eq_false_iff_not, decide_eq_false_iff_not, i2l_le, i2l_le]
          by_cases g : nI 0 ≤ x
          · refine Or.inr fun q => ?_
            exact absurd (Int32.le_trans g q) (by decide)
          · exact Or.inl g
        rw [this]
        exact Iff.rfl
      · rw [sub1 (by omega)]
        exact m_in0 (by omega) (by omega)
    cases hx : (ixN x (nF n 3)).isSome with
    | true =>
      rw [hx] at e1
      simp (disch := omega) only [u_198_0, u_198_1, u_198_4, u_198_7, u_198_8, u_198_9, u_198_10, u_198_11, u_198_14, u_198_15, u_198_16, u_198_17, u_198_18, u_198_19, u_198_22, u_198_25, u_198_26, u_198_29, u_198_30, gI0, gIs, gR0, gRs, gF0, gFs, st0, st_i, st_r, st_f, st_n, st_s, true_and, and_true, ↓ifLeT, ↓ifLeF, ↓ifLtT, ↓ifLtF, ↓ifEqT, ↓ifEqF, if_tt, if_ff, if_pos, if_neg, nLe, nLt, nEq, nInT, nCl, pk_mul, nI_add, Nat.reduceAdd, s_cat_nil, s_cat_i, s_cat_r, s_cat_f, s_cat_l, tl_s, tl_n, cat_i, cat_r, cat_f, nb0, nb1, nbI, if_bI, if_bIr, Nat.zero_le, Nat.reduceLeDiff, M_ob, M_g0, M_g1, M_g2, M_g3, M_g4, M_g5, M_g6, M_g7, M_g8, M_g9, M_g10, M_g11, M_g12, M_g13, M_g14, M_g15, M_g16, M_g17, M_g18, M_g19, M_g20, M_g21, M_g22, M_g23, M_g24, M_g25, M_g26, M_g27, M_g28, M_g29, M_g30, M_g31, M_g32, M_g33, M_g34, M_g35, M_g36, M_g37, M_g38, M_g39, M_g40, M_g41, M_r rb320, c1, r1, q1, e1, Option.isSome_some, iBt, nI10, reduceIte]
    | false =>
      rw [hx] at e1
      simp (disch := omega) only [u_198_0, u_198_1, u_198_4, u_198_7, u_198_8, u_198_9, u_198_10, u_198_11, u_198_14, u_198_15, u_198_16, u_198_17, u_198_18, u_198_19, u_198_22, u_198_25, u_198_26, u_198_29, u_198_30, gI0, gIs, gR0, gRs, gF0, gFs, st0, st_i, st_r, st_f, st_n, st_s, true_and, and_true, ↓ifLeT, ↓ifLeF, ↓ifLtT, ↓ifLtF, ↓ifEqT, ↓ifEqF, if_tt, if_ff, if_pos, if_neg, nLe, nLt, nEq, nInT, nCl, pk_mul, nI_add, Nat.reduceAdd, s_cat_nil, s_cat_i, s_cat_r, s_cat_f, s_cat_l, tl_s, tl_n, cat_i, cat_r, cat_f, nb0, nb1, nbI, if_bI, if_bIr, Nat.zero_le, Nat.reduceLeDiff, M_ob, M_g0, M_g1, M_g2, M_g3, M_g4, M_g5, M_g6, M_g7, M_g8, M_g9, M_g10, M_g11, M_g12, M_g13, M_g14, M_g15, M_g16, M_g17, M_g18, M_g19, M_g20, M_g21, M_g22, M_g23, M_g24, M_g25, M_g26, M_g27, M_g28, M_g29, M_g30, M_g31, M_g32, M_g33, M_g34, M_g35, M_g36, M_g37, M_g38, M_g39, M_g40, M_g41, M_r rb320, c1, r1, q1, e1, Option.isSome_some, iBt, iBf, nI10, reduceIte]
/-- LAST -/
def lastM (F : Nat) (n : tN) : Nat := match lastN 300 n with
  | some v => if v = 0 ∨ v < F then v else 1000000
  | none => 1000000
theorem lastM_some {F v : Nat} (h : isLast n v) (h3 : v ≤ 300) (hF : v = 0 ∨ v < F) : lastM F n = v := by
  unfold lastM
  rw [lastN_iff.mpr ⟨h3, h⟩]
  exact if_pos hF
theorem lastM_none {F k : Nat} (h : ∀ i, i ≤ k → overN (runN i n) = false) (hk : k = 300 ∨ F ≤ k + 1) : lastM F n = 1000000 := by
  unfold lastM
  cases hl : lastN 300 n with
  | none => rfl
  | some v =>
    obtain ⟨v1, v2⟩ := lastN_iff.mp hl
    have : k < v := Nat.lt_of_not_le fun q => by
      have := h v q
      rw [v2.1] at this
      cases this
    show (if v = 0 ∨ v < F then v else 1000000) = _
    rw [if_neg (by omega)]
theorem lastM_lp {F : Nat} (hF : F ≤ 1000000) : ∀ q k m N, k + q = 300 → wfN N → MG m N → RR (kA m 329) N → N = runN k n → (∀ i, i < k → overN (runN i n) = false) → (k = 0 ∨ k < F) → (∀ m', frM 329 m m' → Q (some (.int (nI (lastM F n)))) (pM m' h)) → WP (d + 9) 191 10 [.ref 317, .ref b, .int (nI F), .int (nI k)] [] (pM m h) (0, 0) Q := by
  intro q
  induction q with
  | zero =>
    intro k m N hk hn hg hr hN ho hkF K
    have e : k = 300 := by omega
    subst e
    have e1 := fun Q => r_over (d := d + 5) (h := h) (Q := Q) rb329 hn hg hr
    rw [u_191_10]
    cases hov : overN N with
    | true =>
      rw [hov] at e1
      have := K m frM_r
      rw [lastM_some (v := 300) ⟨by rw [← hN]; exact hov, fun i hi => ho i hi⟩ (Nat.le_refl _) hkF] at this
      simp (disch := omega) only [u_191_0, u_191_1, u_191_2, u_191_5, u_191_8, u_191_9, u_191_11, u_191_12, u_191_15, u_191_18, u_191_21, u_191_22, u_191_25, u_191_28, u_191_29, u_191_30, u_191_31, u_191_32, u_191_35, u_191_37, u_191_38, u_191_39, u_191_40, u_191_43, u_191_46, u_191_49, u_191_52, u_191_53, gI0, gIs, gR0, gRs, gF0, gFs, st0, st_i, st_r, st_f, st_n, st_s, true_and, and_true, ↓ifLeT, ↓ifLeF, ↓ifLtT, ↓ifLtF, ↓ifEqT, ↓ifEqF, if_tt, if_ff, if_pos, if_neg, nLe, nLt, nEq, nInT, nCl, pk_mul, nI_add, Nat.reduceAdd, s_cat_nil, s_cat_i, s_cat_r, s_cat_f, s_cat_l, tl_s, tl_n, cat_i, cat_r, cat_f, nb0, nb1, nbI, if_bI, if_bIr, Nat.zero_le, Nat.reduceLeDiff, M_ob, M_g0, M_g1, M_g2, M_g3, M_g4, M_g5, M_g6, M_g7, M_g8, M_g9, M_g10, M_g11, M_g12, M_g13, M_g14, M_g15, M_g16, M_g17, M_g18, M_g19, M_g20, M_g21, M_g22, M_g23, M_g24, M_g25, M_g26, M_g27, M_g28, M_g29, M_g30, M_g31, M_g32, M_g33, M_g34, M_g35, M_g36, M_g37, M_g38, M_g39, M_g40, M_g41, e1, iBt, nI10, reduceIte]
      exact this
    | false =>
      rw [hov] at e1
      have := K m frM_r
      rw [lastM_none (k := 300) (fun i hi => by
        by_cases e : i = 300
        · rw [e, ← hN]; exact hov
        · exact ho i (by omega)) (Or.inl rfl)] at this
      simp (disch := omega) only [u_191_0, u_191_1, u_191_2, u_191_5, u_191_8, u_191_9, u_191_11, u_191_12, u_191_15, u_191_18, u_191_21, u_191_22, u_191_25, u_191_28, u_191_29, u_191_30, u_191_31, u_191_32, u_191_35, u_191_37, u_191_38, u_191_39, u_191_40, u_191_43, u_191_46, u_191_49, u_191_52, u_191_53, gI0, gIs, gR0, gRs, gF0, gFs, st0, st_i, st_r, st_f, st_n, st_s, true_and, and_true, ↓ifLeT, ↓ifLeF, ↓ifLtT, ↓ifLtF, ↓ifEqT, ↓ifEqF, if_tt, if_ff, if_pos, if_neg, nLe, nLt, nEq, nInT, nCl, pk_mul, nI_add, Nat.reduceAdd, s_cat_nil, s_cat_i, s_cat_r, s_cat_f, s_cat_l, tl_s, tl_n, cat_i, cat_r, cat_f, nb0, nb1, nbI, if_bI, if_bIr, Nat.zero_le, Nat.reduceLeDiff, M_ob, M_g0, M_g1, M_g2, M_g3, M_g4, M_g5, M_g6, M_g7, M_g8, M_g9, M_g10, M_g11, M_g12, M_g13, M_g14, M_g15, M_g16, M_g17, M_g18, M_g19, M_g20, M_g21, M_g22, M_g23, M_g24, M_g25, M_g26, M_g27, M_g28, M_g29, M_g30, M_g31, M_g32, M_g33, M_g34, M_g35, M_g36, M_g37, M_g38, M_g39, M_g40, M_g41, e1, iBf]
      exact this
  | succ q ih =>
    intro k m N hk hn hg hr hN ho hkF K
    have e1 := fun Q => r_over (d := d + 5) (h := h) (Q := Q) rb329 hn hg hr
    have n300 : ¬ nI k = nI 300 := fun z => by have := (nI_eq (by omega) (by decide)).mp z; omega
    rw [u_191_10]
    cases hov : overN N with
    | true =>
      rw [hov] at e1
      have := K m frM_r
      rw [lastM_some (v := k) ⟨by rw [← hN]; exact hov, fun i hi => ho i hi⟩ (by omega) hkF] at this
      simp (disch := omega) only [u_191_0, u_191_1, u_191_2, u_191_5, u_191_8, u_191_9, u_191_11, u_191_12, u_191_15, u_191_18, u_191_21, u_191_22, u_191_25, u_191_28, u_191_29, u_191_30, u_191_31, u_191_32, u_191_35, u_191_37, u_191_38, u_191_39, u_191_40, u_191_43, u_191_46, u_191_49, u_191_52, u_191_53, gI0, gIs, gR0, gRs, gF0, gFs, st0, st_i, st_r, st_f, st_n, st_s, true_and, and_true, ↓ifLeT, ↓ifLeF, ↓ifLtT, ↓ifLtF, ↓ifEqT, ↓ifEqF, if_tt, if_ff, if_pos, if_neg, nLe, nLt, nEq, nInT, nCl, pk_mul, nI_add, Nat.reduceAdd, s_cat_nil, s_cat_i, s_cat_r, s_cat_f, s_cat_l, tl_s, tl_n, cat_i, cat_r, cat_f, nb0, nb1, nbI, if_bI, if_bIr, Nat.zero_le, Nat.reduceLeDiff, M_ob, M_g0, M_g1, M_g2, M_g3, M_g4, M_g5, M_g6, M_g7, M_g8, M_g9, M_g10, M_g11, M_g12, M_g13, M_g14, M_g15, M_g16, M_g17, M_g18, M_g19, M_g20, M_g21, M_g22, M_g23, M_g24, M_g25, M_g26, M_g27, M_g28, M_g29, M_g30, M_g31, M_g32, M_g33, M_g34, M_g35, M_g36, M_g37, M_g38, M_g39, M_g40, M_g41, e1, iBt, nI10, reduceIte]
      exact this
    | false =>
      rw [hov] at e1
      have ho' : ∀ i, i < k + 1 → overN (runN i n) = false := fun i hi => by
        by_cases e : i = k
        · rw [e, ← hN]; exact hov
        · exact ho i (by omega)
      by_cases hc : k + 1 < F
      · simp (disch := omega) only [u_191_0, u_191_1, u_191_2, u_191_5, u_191_8, u_191_9, u_191_11, u_191_12, u_191_15, u_191_18, u_191_21, u_191_22, u_191_25, u_191_28, u_191_29, u_191_30, u_191_31, u_191_32, u_191_35, u_191_37, u_191_38, u_191_39, u_191_40, u_191_43, u_191_46, u_191_49, u_191_52, u_191_53, gI0, gIs, gR0, gRs, gF0, gFs, st0, st_i, st_r, st_f, st_n, st_s, true_and, and_true, ↓ifLeT, ↓ifLeF, ↓ifLtT, ↓ifLtF, ↓ifEqT, ↓ifEqF, if_tt, if_ff, if_pos, if_neg, nLe, nLt, nEq, nInT, nCl, pk_mul, nI_add, Nat.reduceAdd, s_cat_nil, s_cat_i, s_cat_r, s_cat_f, s_cat_l, tl_s, tl_n, cat_i, cat_r, cat_f, nb0, nb1, nbI, if_bI, if_bIr, Nat.zero_le, Nat.reduceLeDiff, M_ob, M_g0, M_g1, M_g2, M_g3, M_g4, M_g5, M_g6, M_g7, M_g8, M_g9, M_g10, M_g11, M_g12, M_g13, M_g14, M_g15, M_g16, M_g17, M_g18, M_g19, M_g20, M_g21, M_g22, M_g23, M_g24, M_g25, M_g26, M_g27, M_g28, M_g29, M_g30, M_g31, M_g32, M_g33, M_g34, M_g35, M_g36, M_g37, M_g38, M_g39, M_g40, M_g41, e1, iBf, n300, reduceIte]
        refine r_minute (d := d + 1) rb329 hn hg hr fun m1 f1 r1 _ => ?_
        simp (disch := omega) only [u_191_0, u_191_1, u_191_2, u_191_5, u_191_8, u_191_9, u_191_11, u_191_12, u_191_15, u_191_18, u_191_21, u_191_22, u_191_25, u_191_28, u_191_29, u_191_30, u_191_31, u_191_32, u_191_35, u_191_37, u_191_38, u_191_39, u_191_40, u_191_43, u_191_46, u_191_49, u_191_52, u_191_53, gI0, gIs, gR0, gRs, gF0, gFs, st0, st_i, st_r, st_f, st_n, st_s, true_and, and_true, ↓ifLeT, ↓ifLeF, ↓ifLtT, ↓ifLtF, ↓ifEqT, ↓ifEqF, if_tt, if_ff, if_pos, if_neg, nLe, nLt, nEq, nInT, nCl, pk_mul, nI_add, Nat.reduceAdd, s_cat_nil, s_cat_i, s_cat_r, s_cat_f, s_cat_l, tl_s, tl_n, cat_i, cat_r, cat_f, nb0, nb1, nbI, if_bI, if_bIr, Nat.zero_le, Nat.reduceLeDiff]
        exact ih (k + 1) m1 (passN N) (by omega) (wf_pass hn) (MG_fr rb329 hg f1) r1 (by rw [hN, run_succ]) ho' (Or.inr hc) fun m' f2 => K m' (frM_t f1 f2)
      · have := K m frM_r
        rw [lastM_none (k := k) (fun i hi => ho' i (by omega)) (Or.inr (by omega))] at this
        simp (disch := omega) only [u_191_0, u_191_1, u_191_2, u_191_5, u_191_8, u_191_9, u_191_11, u_191_12, u_191_15, u_191_18, u_191_21, u_191_22, u_191_25, u_191_28, u_191_29, u_191_30, u_191_31, u_191_32, u_191_35, u_191_37, u_191_38, u_191_39, u_191_40, u_191_43, u_191_46, u_191_49, u_191_52, u_191_53, gI0, gIs, gR0, gRs, gF0, gFs, st0, st_i, st_r, st_f, st_n, st_s, true_and, and_true, ↓ifLeT, ↓ifLeF, ↓ifLtT, ↓ifLtF, ↓ifEqT, ↓ifEqF, if_tt, if_ff, if_pos, if_neg, nLe, nLt, nEq, nInT, nCl, pk_mul, nI_add, Nat.reduceAdd, s_cat_nil, s_cat_i, s_cat_r, s_cat_f, s_cat_l, tl_s, tl_n, cat_i, cat_r, cat_f, nb0, nb1, nbI, if_bI, if_bIr, Nat.zero_le, Nat.reduceLeDiff, M_ob, M_g0, M_g1, M_g2, M_g3, M_g4, M_g5, M_g6, M_g7, M_g8, M_g9, M_g10, M_g11, M_g12, M_g13, M_g14, M_g15, M_g16, M_g17, M_g18, M_g19, M_g20, M_g21, M_g22, M_g23, M_g24, M_g25, M_g26, M_g27, M_g28, M_g29, M_g30, M_g31, M_g32, M_g33, M_g34, M_g35, M_g36, M_g37, M_g38, M_g39, M_g40, M_g41, e1, iBf, n300, reduceIte]
        exact this
theorem r_last {F : Nat} (hb : rb b) (hb3 : b ≠ 329) (hn : wfN n) (hg : MG m n) (hr : RR (kA m b) n) (hF : F ≤ 1000000) (K : ∀ m', frM 329 m m' → Q (some (.int (nI (lastM F n)))) (pM m' h)) : MT (d + 10) 191 [.ref 317, .ref b, .int (nI F)] (pM m h) Q := by
  rw [MT_go (by decide) _ _ _ (Nat.le_of_ble_eq_true rfl), show s_entry 191 [.ref 317, .ref b, .int (nI F)] = [.ref 317, .ref b, .int (nI F), s_no] from rfl]
  simp (disch := omega) only [u_191_0, u_191_1, u_191_2, u_191_5, u_191_8, u_191_9, u_191_11, u_191_12, u_191_15, u_191_18, u_191_21, u_191_22, u_191_25, u_191_28, u_191_29, u_191_30, u_191_31, u_191_32, u_191_35, u_191_37, u_191_38, u_191_39, u_191_40, u_191_43, u_191_46, u_191_49, u_191_52, u_191_53, gI0, gIs, gR0, gRs, gF0, gFs, st0, st_i, st_r, st_f, st_n, st_s, true_and, and_true, ↓ifLeT, ↓ifLeF, ↓ifLtT, ↓ifLtF, ↓ifEqT, ↓ifEqF, if_tt, if_ff, if_pos, if_neg, nLe, nLt, nEq, nInT, nCl, pk_mul, nI_add, Nat.reduceAdd, s_cat_nil, s_cat_i, s_cat_r, s_cat_f, s_cat_l, tl_s, tl_n, cat_i, cat_r, cat_f, nb0, nb1, nbI, if_bI, if_bIr, Nat.zero_le, Nat.reduceLeDiff, M_g0, M_g1, M_g2, M_g3, M_g4, M_g5, M_g6, M_g7, M_g8, M_g9, M_g10, M_g11, M_g12, M_g13, M_g14, M_g15, M_g16, M_g17, M_g18, M_g19, M_g20, M_g21, M_g22, M_g23, M_g24, M_g25, M_g26, M_g27, M_g28, M_g29, M_g30, M_g31, M_g32, M_g33, M_g34, M_g35, M_g36, M_g37, M_g38, M_g39, M_g40, M_g41]
  refine r_copy hb rb329 hb3 fun f hf => ?_
  simp (disch := omega) only [u_191_0, u_191_1, u_191_2, u_191_5, u_191_8, u_191_9, u_191_11, u_191_12, u_191_15, u_191_18, u_191_21, u_191_22, u_191_25, u_191_28, u_191_29, u_191_30, u_191_31, u_191_32, u_191_35, u_191_37, u_191_38, u_191_39, u_191_40, u_191_43, u_191_46, u_191_49, u_191_52, u_191_53, gI0, gIs, gR0, gRs, gF0, gFs, st0, st_i, st_r, st_f, st_n, st_s, true_and, and_true, ↓ifLeT, ↓ifLeF, ↓ifLtT, ↓ifLtF, ↓ifEqT, ↓ifEqF, if_tt, if_ff, if_pos, if_neg, nLe, nLt, nEq, nInT, nCl, pk_mul, nI_add, Nat.reduceAdd, s_cat_nil, s_cat_i, s_cat_r, s_cat_f, s_cat_l, tl_s, tl_n, cat_i, cat_r, cat_f, nb0, nb1, nbI, if_bI, if_bIr, Nat.zero_le, Nat.reduceLeDiff]
  exact lastM_lp (d := d) hF 300 0 _ n (by omega) hn (MG_fr rb329 hg frM_b) (by rw [kA_eq]; exact RR_cong hn hf hr) rfl (fun i hi => absurd hi (Nat.not_lt_zero i)) (Or.inl rfl) fun m' f2 => K m' (frM_t frM_b f2)
def lastV (n : tN) : Nat := lastM 1000000 n
theorem r_lastV (hb : rb b) (hb3 : b ≠ 329) (hn : wfN n) (hg : MG m n) (hr : RR (kA m b) n) (K : ∀ m', frM 329 m m' → Q (some (.int (nI (lastV n)))) (pM m' h)) : MT (d + 11) 192 [.ref 317, .ref b] (pM m h) Q := by
  rw [MT_go (by decide) _ _ _ (Nat.le_of_ble_eq_true rfl), show s_entry 192 [.ref 317, .ref b] = [.ref 317, .ref b] from rfl]
  simp (disch := omega) only [u_192_0, u_192_1, u_192_2, u_192_4, u_192_7, gI0, gIs, gR0, gRs, gF0, gFs, st0, st_i, st_r, st_f, st_n, st_s, true_and, and_true, ↓ifLeT, ↓ifLeF, ↓ifLtT, ↓ifLtF, ↓ifEqT, ↓ifEqF, if_tt, if_ff, if_pos, if_neg, nLe, nLt, nEq, nInT, nCl, pk_mul, nI_add, Nat.reduceAdd, s_cat_nil, s_cat_i, s_cat_r, s_cat_f, s_cat_l, tl_s, tl_n, cat_i, cat_r, cat_f, nb0, nb1, nbI, if_bI, if_bIr, Nat.zero_le, Nat.reduceLeDiff, M_ob]
  refine r_last (d := d) (F := 1000000) hb hb3 hn hg hr (Nat.le_refl _) fun m' f => ?_
  simp (disch := omega) only [u_192_0, u_192_1, u_192_2, u_192_4, u_192_7, gI0, gIs, gR0, gRs, gF0, gFs, st0, st_i, st_r, st_f, st_n, st_s, true_and, and_true, ↓ifLeT, ↓ifLeF, ↓ifLtT, ↓ifLtF, ↓ifEqT, ↓ifEqF, if_tt, if_ff, if_pos, if_neg, nLe, nLt, nEq, nInT, nCl, pk_mul, nI_add, Nat.reduceAdd, s_cat_nil, s_cat_i, s_cat_r, s_cat_f, s_cat_l, tl_s, tl_n, cat_i, cat_r, cat_f, nb0, nb1, nbI, if_bI, if_bIr, Nat.zero_le, Nat.reduceLeDiff]
  exact K m' f
theorem lastV_e : lastV n = (lastN 300 n).getD 1000000 := by
  unfold lastV lastM
  cases hl : lastN 300 n with
  | none => rfl
  | some v =>
    have := last_le hl
    show (if v = 0 ∨ v < 1000000 then v else 1000000) = v
    rw [if_pos (by omega)]
theorem m_told {o : Option Nat} (ho : ∀ v, o = some v → v ≤ 300) : MT (d + 1) 193 [.int (nI (o.getD 1000000))] h Q ↔ Q (some (.int (oI1 o))) h := by
  rw [MT_go (by decide) _ _ _ (Nat.le_of_ble_eq_true rfl), show s_entry 193 [.int (nI (o.getD 1000000))] = [.int (nI (o.getD 1000000))] from rfl]
  cases o with
  | none => simp (disch := omega) only [u_193_0, u_193_1, u_193_3, u_193_6, u_193_7, u_193_10, u_193_11, gI0, gIs, gR0, gRs, gF0, gFs, st0, st_i, st_r, st_f, st_n, st_s, true_and, and_true, ↓ifLeT, ↓ifLeF, ↓ifLtT, ↓ifLtF, ↓ifEqT, ↓ifEqF, if_tt, if_ff, if_pos, if_neg, nLe, nLt, nEq, nInT, nCl, pk_mul, nI_add, Nat.reduceAdd, s_cat_nil, s_cat_i, s_cat_r, s_cat_f, s_cat_l, tl_s, tl_n, cat_i, cat_r, cat_f, nb0, nb1, nbI, if_bI, if_bIr, Nat.zero_le, Nat.reduceLeDiff, Option.getD_none]; exact Iff.rfl
  | some v =>
    have := ho v rfl
    have g : ¬ nI v = nI 1000000 := fun z => by have := (nI_eq (by omega) (by decide)).mp z; omega
    simp (disch := omega) only [u_193_0, u_193_1, u_193_3, u_193_6, u_193_7, u_193_10, u_193_11, gI0, gIs, gR0, gRs, gF0, gFs, st0, st_i, st_r, st_f, st_n, st_s, true_and, and_true, ↓ifLeT, ↓ifLeF, ↓ifLtT, ↓ifLtF, ↓ifEqT, ↓ifEqF, if_tt, if_ff, if_pos, if_neg, nLe, nLt, nEq, nInT, nCl, pk_mul, nI_add, Nat.reduceAdd, s_cat_nil, s_cat_i, s_cat_r, s_cat_f, s_cat_l, tl_s, tl_n, cat_i, cat_r, cat_f, nb0, nb1, nbI, if_bI, if_bIr, Nat.zero_le, Nat.reduceLeDiff, Option.getD_some, g, reduceIte]
    exact Iff.rfl
theorem m_toldV : MT (d + 1) 193 [.int (nI (lastV n))] h Q ↔ Q (some (.int (oI1 (lastN 300 n)))) h := by
  rw [lastV_e]
  exact m_told fun v hv => last_le hv
theorem z_last (hm : RM m z) (K : ∀ m', RM m' z → Q (some (.int (zlast z))) (pM m' h)) : MT (d + 12) 209 [.ref 317] (pM m h) Q := by
  rw [MT_go (by decide) _ _ _ (Nat.le_of_ble_eq_true rfl), show s_entry 209 [.ref 317] = [.ref 317] from rfl]
  have hm0 := RM_0 (x := nI 0) hm
  have q1 := hm.2.1.1
  unfold zlast at K
  cases hq : zQ z with
  | none =>
    simp only [hq] at K
    rw [hq] at q1
    simp (disch := omega) only [u_209_0, u_209_1, u_209_2, u_209_5, u_209_6, u_209_9, u_209_12, u_209_13, u_209_14, u_209_17, u_209_20, u_209_23, u_209_26, u_209_29, gI0, gIs, gR0, gRs, gF0, gFs, st0, st_i, st_r, st_f, st_n, st_s, true_and, and_true, ↓ifLeT, ↓ifLeF, ↓ifLtT, ↓ifLtF, ↓ifEqT, ↓ifEqF, if_tt, if_ff, if_pos, if_neg, nLe, nLt, nEq, nInT, nCl, pk_mul, nI_add, Nat.reduceAdd, s_cat_nil, s_cat_i, s_cat_r, s_cat_f, s_cat_l, tl_s, tl_n, cat_i, cat_r, cat_f, nb0, nb1, nbI, if_bI, if_bIr, Nat.zero_le, Nat.reduceLeDiff, M_g0, M_g1, M_g2, M_g3, M_g4, M_g5, M_g6, M_g7, M_g8, M_g9, M_g10, M_g11, M_g12, M_g13, M_g14, M_g15, M_g16, M_g17, M_g18, M_g19, M_g20, M_g21, M_g22, M_g23, M_g24, M_g25, M_g26, M_g27, M_g28, M_g29, M_g30, M_g31, M_g32, M_g33, M_g34, M_g35, M_g36, M_g37, M_g38, M_g39, M_g40, M_g41, M_s0, kI_xI, kI_xB, kI_xA, kI_xV, kB_xI, kB_xB, kB_xA, kB_xV, kA_xI, kA_xB, kA_xA, kA_xV, kV_xI, kV_xB, kV_xA, kV_xV, Nat.reduceEqDiff, reduceIte, q1, Option.isSome, iBf]
    exact K _ hm0
  | some n =>
    simp only [hq] at K
    rw [hq] at q1
    obtain ⟨hg, hr, hok⟩ := RM_q hm0 hq
    simp (disch := omega) only [u_209_0, u_209_1, u_209_2, u_209_5, u_209_6, u_209_9, u_209_12, u_209_13, u_209_14, u_209_17, u_209_20, u_209_23, u_209_26, u_209_29, gI0, gIs, gR0, gRs, gF0, gFs, st0, st_i, st_r, st_f, st_n, st_s, true_and, and_true, ↓ifLeT, ↓ifLeF, ↓ifLtT, ↓ifLtF, ↓ifEqT, ↓ifEqF, if_tt, if_ff, if_pos, if_neg, nLe, nLt, nEq, nInT, nCl, pk_mul, nI_add, Nat.reduceAdd, s_cat_nil, s_cat_i, s_cat_r, s_cat_f, s_cat_l, tl_s, tl_n, cat_i, cat_r, cat_f, nb0, nb1, nbI, if_bI, if_bIr, Nat.zero_le, Nat.reduceLeDiff, M_ob, M_g0, M_g1, M_g2, M_g3, M_g4, M_g5, M_g6, M_g7, M_g8, M_g9, M_g10, M_g11, M_g12, M_g13, M_g14, M_g15, M_g16, M_g17, M_g18, M_g19, M_g20, M_g21, M_g22, M_g23, M_g24, M_g25, M_g26, M_g27, M_g28, M_g29, M_g30, M_g31, M_g32, M_g33, M_g34, M_g35, M_g36, M_g37, M_g38, M_g39, M_g40, M_g41, M_s0, kI_xI, kI_xB, kI_xA, kI_xV, kB_xI, kB_xB, kB_xA, kB_xV, kA_xI, kA_xB, kA_xA, kA_xV, kV_xI, kV_xB, kV_xA, kV_xV, Nat.reduceEqDiff, reduceIte, q1, Option.isSome, iBt, nI10, reduceIte]
    refine r_lastV (d := d) rb320 (by decide) hok.1 hg hr fun m' f => ?_
    simp (disch := omega) only [u_209_0, u_209_1, u_209_2, u_209_5, u_209_6, u_209_9, u_209_12, u_209_13, u_209_14, u_209_17, u_209_20, u_209_23, u_209_26, u_209_29, gI0, gIs, gR0, gRs, gF0, gFs, st0, st_i, st_r, st_f, st_n, st_s, true_and, and_true, ↓ifLeT, ↓ifLeF, ↓ifLtT, ↓ifLtF, ↓ifEqT, ↓ifEqF, if_tt, if_ff, if_pos, if_neg, nLe, nLt, nEq, nInT, nCl, pk_mul, nI_add, Nat.reduceAdd, s_cat_nil, s_cat_i, s_cat_r, s_cat_f, s_cat_l, tl_s, tl_n, cat_i, cat_r, cat_f, nb0, nb1, nbI, if_bI, if_bIr, Nat.zero_le, Nat.reduceLeDiff, m_toldV]
    exact K m' (RM_fr (frZ_M (Or.inl rfl) f) hm0)
/-- so many minutes on -/
theorem fore_lp {N : Nat} (hN : N < 2 ^ 20) : ∀ q k m, k + q = N → wfN n → MG m (runN k n) → RR (kA m 329) (runN k n) → (0 < k → ∀ c, c < nF n 2 → kA m 327 c = nI (nDeed (runN (k - 1) n) c)) → (∀ m', frM 329 m m' → RR (kA m' 329) (runN N n) → (0 < N → ∀ c, c < nF n 2 → kA m' 327 c = nI (nDeed (runN (N - 1) n) c)) → Q none (pM m' h)) → WP (d + 8) 210 13 [.ref 317, .int (nI N), .int (nI k)] [] (pM m h) (0, 0) Q := by
  intro q
  induction q with
  | zero =>
    intro k m hk hn hg hr hd K
    have e : k = N := by omega
    subst e
    rw [u_210_13]
    simp (disch := omega) only [u_210_0, u_210_1, u_210_4, u_210_5, u_210_8, u_210_11, u_210_12, u_210_14, u_210_15, u_210_18, u_210_19, u_210_20, u_210_23, u_210_26, u_210_29, u_210_32, gI0, gIs, gR0, gRs, gF0, gFs, st0, st_i, st_r, st_f, st_n, st_s, true_and, and_true, ↓ifLeT, ↓ifLeF, ↓ifLtT, ↓ifLtF, ↓ifEqT, ↓ifEqF, if_tt, if_ff, if_pos, if_neg, nLe, nLt, nEq, nInT, nCl, pk_mul, nI_add, Nat.reduceAdd, s_cat_nil, s_cat_i, s_cat_r, s_cat_f, s_cat_l, tl_s, tl_n, cat_i, cat_r, cat_f, nb0, nb1, nbI, if_bI, if_bIr, Nat.zero_le, Nat.reduceLeDiff]
    exact K m frM_r hr hd
  | succ q ih =>
    intro k m hk hn hg hr hd K
    rw [u_210_13]
    simp (disch := omega) only [u_210_0, u_210_1, u_210_4, u_210_5, u_210_8, u_210_11, u_210_12, u_210_14, u_210_15, u_210_18, u_210_19, u_210_20, u_210_23, u_210_26, u_210_29, u_210_32, gI0, gIs, gR0, gRs, gF0, gFs, st0, st_i, st_r, st_f, st_n, st_s, true_and, and_true, ↓ifLeT, ↓ifLeF, ↓ifLtT, ↓ifLtF, ↓ifEqT, ↓ifEqF, if_tt, if_ff, if_pos, if_neg, nLe, nLt, nEq, nInT, nCl, pk_mul, nI_add, Nat.reduceAdd, s_cat_nil, s_cat_i, s_cat_r, s_cat_f, s_cat_l, tl_s, tl_n, cat_i, cat_r, cat_f, nb0, nb1, nbI, if_bI, if_bIr, Nat.zero_le, Nat.reduceLeDiff, M_ob, M_g0, M_g1, M_g2, M_g3, M_g4, M_g5, M_g6, M_g7, M_g8, M_g9, M_g10, M_g11, M_g12, M_g13, M_g14, M_g15, M_g16, M_g17, M_g18, M_g19, M_g20, M_g21, M_g22, M_g23, M_g24, M_g25, M_g26, M_g27, M_g28, M_g29, M_g30, M_g31, M_g32, M_g33, M_g34, M_g35, M_g36, M_g37, M_g38, M_g39, M_g40, M_g41]
    refine r_minute (d := d) rb329 (wf_run hn k) hg hr fun m1 f1 r1 d1 => ?_
    simp (disch := omega) only [u_210_0, u_210_1, u_210_4, u_210_5, u_210_8, u_210_11, u_210_12, u_210_14, u_210_15, u_210_18, u_210_19, u_210_20, u_210_23, u_210_26, u_210_29, u_210_32, gI0, gIs, gR0, gRs, gF0, gFs, st0, st_i, st_r, st_f, st_n, st_s, true_and, and_true, ↓ifLeT, ↓ifLeF, ↓ifLtT, ↓ifLtF, ↓ifEqT, ↓ifEqF, if_tt, if_ff, if_pos, if_neg, nLe, nLt, nEq, nInT, nCl, pk_mul, nI_add, Nat.reduceAdd, s_cat_nil, s_cat_i, s_cat_r, s_cat_f, s_cat_l, tl_s, tl_n, cat_i, cat_r, cat_f, nb0, nb1, nbI, if_bI, if_bIr, Nat.zero_le, Nat.reduceLeDiff]
    refine ih (k + 1) m1 (by omega) hn (by rw [run_succ]; exact MG_fr rb329 hg f1) (by rw [run_succ]; exact r1) (fun _ c hc => ?_) fun m' f2 => K m' (frM_t f1 f2)
    rw [Nat.add_sub_cancel]
    exact d1 c (by rw [run_F (by decide)]; exact hc)
theorem r_fore {N : Nat} (hN : N < 2 ^ 20) (hn : wfN n) (hg : MG m n) (hr : RR (kA m 320) n) (K : ∀ m', frM 329 m m' → RR (kA m' 329) (runN N n) → (0 < N → ∀ c, c < nF n 2 → kA m' 327 c = nI (nDeed (runN (N - 1) n) c)) → Q none (pM m' h)) : MT (d + 9) 210 [.ref 317, .int (nI N)] (pM m h) Q := by
  rw [MT_go (by decide) _ _ _ (Nat.le_of_ble_eq_true rfl), show s_entry 210 [.ref 317, .int (nI N)] = [.ref 317, .int (nI N), s_no] from rfl]
  simp (disch := omega) only [u_210_0, u_210_1, u_210_4, u_210_5, u_210_8, u_210_11, u_210_12, u_210_14, u_210_15, u_210_18, u_210_19, u_210_20, u_210_23, u_210_26, u_210_29, u_210_32, gI0, gIs, gR0, gRs, gF0, gFs, st0, st_i, st_r, st_f, st_n, st_s, true_and, and_true, ↓ifLeT, ↓ifLeF, ↓ifLtT, ↓ifLtF, ↓ifEqT, ↓ifEqF, if_tt, if_ff, if_pos, if_neg, nLe, nLt, nEq, nInT, nCl, pk_mul, nI_add, Nat.reduceAdd, s_cat_nil, s_cat_i, s_cat_r, s_cat_f, s_cat_l, tl_s, tl_n, cat_i, cat_r, cat_f, nb0, nb1, nbI, if_bI, if_bIr, Nat.zero_le, Nat.reduceLeDiff, M_g0, M_g1, M_g2, M_g3, M_g4, M_g5, M_g6, M_g7, M_g8, M_g9, M_g10, M_g11, M_g12, M_g13, M_g14, M_g15, M_g16, M_g17, M_g18, M_g19, M_g20, M_g21, M_g22, M_g23, M_g24, M_g25, M_g26, M_g27, M_g28, M_g29, M_g30, M_g31, M_g32, M_g33, M_g34, M_g35, M_g36, M_g37, M_g38, M_g39, M_g40, M_g41]
  refine r_copy rb320 rb329 (by decide) fun f hf => ?_
  simp (disch := omega) only [u_210_0, u_210_1, u_210_4, u_210_5, u_210_8, u_210_11, u_210_12, u_210_14, u_210_15, u_210_18, u_210_19, u_210_20, u_210_23, u_210_26, u_210_29, u_210_32, gI0, gIs, gR0, gRs, gF0, gFs, st0, st_i, st_r, st_f, st_n, st_s, true_and, and_true, ↓ifLeT, ↓ifLeF, ↓ifLtT, ↓ifLtF, ↓ifEqT, ↓ifEqF, if_tt, if_ff, if_pos, if_neg, nLe, nLt, nEq, nInT, nCl, pk_mul, nI_add, Nat.reduceAdd, s_cat_nil, s_cat_i, s_cat_r, s_cat_f, s_cat_l, tl_s, tl_n, cat_i, cat_r, cat_f, nb0, nb1, nbI, if_bI, if_bIr, Nat.zero_le, Nat.reduceLeDiff]
  exact fore_lp (d := d) hN N 0 _ (Nat.zero_add _) hn (MG_fr rb329 hg frM_b) (by rw [kA_eq]; exact RR_cong hn hf hr) (fun z => absurd z (Nat.lt_irrefl 0)) fun m' f2 => K m' (frM_t frM_b f2)
theorem z_where (hm : RM m z) (K : ∀ m', RM m' z → Q (some (.int (zwhere z c x))) (pM m' h)) : MT (d + 10) 211 [.ref 317, .int c, .int x] (pM m h) Q := by
  rw [MT_go (by decide) _ _ _ (Nat.le_of_ble_eq_true rfl), show s_entry 211 [.ref 317, .int c, .int x] = [.ref 317, .int c, .int x] from rfl]
  have hm0 := RM_0 (x := nI 0) hm
  have e1 := fun Q => z_isC (d := d + 7) (h := h) (Q := Q) (x := c) hm0
  unfold zwhere at K
  cases hq : zQ z with
  | none =>
    simp only [hq] at K
    rw [zC_0 hq, ix_0] at e1
    simp (disch := omega) only [u_211_0, u_211_1, u_211_2, u_211_5, u_211_6, u_211_7, u_211_10, u_211_13, u_211_14, u_211_15, u_211_16, u_211_19, u_211_22, u_211_25, u_211_26, u_211_27, u_211_28, u_211_29, u_211_32, u_211_33, u_211_36, u_211_37, u_211_38, u_211_41, u_211_42, gI0, gIs, gR0, gRs, gF0, gFs, st0, st_i, st_r, st_f, st_n, st_s, true_and, and_true, ↓ifLeT, ↓ifLeF, ↓ifLtT, ↓ifLtF, ↓ifEqT, ↓ifEqF, if_tt, if_ff, if_pos, if_neg, nLe, nLt, nEq, nInT, nCl, pk_mul, nI_add, Nat.reduceAdd, s_cat_nil, s_cat_i, s_cat_r, s_cat_f, s_cat_l, tl_s, tl_n, cat_i, cat_r, cat_f, nb0, nb1, nbI, if_bI, if_bIr, Nat.zero_le, Nat.reduceLeDiff, M_ob, M_s0, e1, Option.isSome, iBf]
    exact K _ hm0
  | some n =>
    simp only [hq] at K
    rw [zC_s hq] at e1
    obtain ⟨hg, hr, hok⟩ := RM_q hm0 hq
    have h4 := hok.1.1.1
    cases h1 : ixN c (nF n 2) with
    | none =>
      rw [h1] at e1
      simp only [h1] at K
      simp (disch := omega) only [u_211_0, u_211_1, u_211_2, u_211_5, u_211_6, u_211_7, u_211_10, u_211_13, u_211_14, u_211_15, u_211_16, u_211_19, u_211_22, u_211_25, u_211_26, u_211_27, u_211_28, u_211_29, u_211_32, u_211_33, u_211_36, u_211_37, u_211_38, u_211_41, u_211_42, gI0, gIs, gR0, gRs, gF0, gFs, st0, st_i, st_r, st_f, st_n, st_s, true_and, and_true, ↓ifLeT, ↓ifLeF, ↓ifLtT, ↓ifLtF, ↓ifEqT, ↓ifEqF, if_tt, if_ff, if_pos, if_neg, nLe, nLt, nEq, nInT, nCl, pk_mul, nI_add, Nat.reduceAdd, s_cat_nil, s_cat_i, s_cat_r, s_cat_f, s_cat_l, tl_s, tl_n, cat_i, cat_r, cat_f, nb0, nb1, nbI, if_bI, if_bIr, Nat.zero_le, Nat.reduceLeDiff, M_ob, M_s0, e1, Option.isSome, iBf]
      exact K _ hm0
    | some j =>
      rw [h1] at e1
      cases h2 : ixN x 301 with
      | none =>
        simp only [h1, h2] at K
        simp (disch := omega) only [u_211_0, u_211_1, u_211_2, u_211_5, u_211_6, u_211_7, u_211_10, u_211_13, u_211_14, u_211_15, u_211_16, u_211_19, u_211_22, u_211_25, u_211_26, u_211_27, u_211_28, u_211_29, u_211_32, u_211_33, u_211_36, u_211_37, u_211_38, u_211_41, u_211_42, gI0, gIs, gR0, gRs, gF0, gFs, st0, st_i, st_r, st_f, st_n, st_s, true_and, and_true, ↓ifLeT, ↓ifLeF, ↓ifLtT, ↓ifLtF, ↓ifEqT, ↓ifEqF, if_tt, if_ff, if_pos, if_neg, nLe, nLt, nEq, nInT, nCl, pk_mul, nI_add, Nat.reduceAdd, s_cat_nil, s_cat_i, s_cat_r, s_cat_f, s_cat_l, tl_s, tl_n, cat_i, cat_r, cat_f, nb0, nb1, nbI, if_bI, if_bIr, Nat.zero_le, Nat.reduceLeDiff, M_ob, M_s0, e1, in301, h2, Option.isSome, iBt, iBf, nI10, reduceIte]
        exact K _ hm0
      | some k =>
        simp only [h1, h2] at K
        obtain ⟨j1, rfl⟩ := ix_some (by omega) h1
        obtain ⟨k1, rfl⟩ := ix_some (by omega) h2
        simp (disch := omega) only [u_211_0, u_211_1, u_211_2, u_211_5, u_211_6, u_211_7, u_211_10, u_211_13, u_211_14, u_211_15, u_211_16, u_211_19, u_211_22, u_211_25, u_211_26, u_211_27, u_211_28, u_211_29, u_211_32, u_211_33, u_211_36, u_211_37, u_211_38, u_211_41, u_211_42, gI0, gIs, gR0, gRs, gF0, gFs, st0, st_i, st_r, st_f, st_n, st_s, true_and, and_true, ↓ifLeT, ↓ifLeF, ↓ifLtT, ↓ifLtF, ↓ifEqT, ↓ifEqF, if_tt, if_ff, if_pos, if_neg, nLe, nLt, nEq, nInT, nCl, pk_mul, nI_add, Nat.reduceAdd, s_cat_nil, s_cat_i, s_cat_r, s_cat_f, s_cat_l, tl_s, tl_n, cat_i, cat_r, cat_f, nb0, nb1, nbI, if_bI, if_bIr, Nat.zero_le, Nat.reduceLeDiff, M_ob, M_s0, e1, in301, h2, Option.isSome, iBt, nI10, reduceIte]
        refine r_fore (d := d) (by omega) hok.1 hg hr fun m' f1 r1 _ => ?_
        have a1 : kA m' 329 (2 + 12 * j + 0) = nI (nA (runN k n) 7 j) := (r1.2.2.1 j (by rw [run_F (by decide)]; exact j1)).1
        simp (disch := omega) only [u_211_0, u_211_1, u_211_2, u_211_5, u_211_6, u_211_7, u_211_10, u_211_13, u_211_14, u_211_15, u_211_16, u_211_19, u_211_22, u_211_25, u_211_26, u_211_27, u_211_28, u_211_29, u_211_32, u_211_33, u_211_36, u_211_37, u_211_38, u_211_41, u_211_42, gI0, gIs, gR0, gRs, gF0, gFs, st0, st_i, st_r, st_f, st_n, st_s, true_and, and_true, ↓ifLeT, ↓ifLeF, ↓ifLtT, ↓ifLtF, ↓ifEqT, ↓ifEqF, if_tt, if_ff, if_pos, if_neg, nLe, nLt, nEq, nInT, nCl, pk_mul, nI_add, Nat.reduceAdd, s_cat_nil, s_cat_i, s_cat_r, s_cat_f, s_cat_l, tl_s, tl_n, cat_i, cat_r, cat_f, nb0, nb1, nbI, if_bI, if_bIr, Nat.zero_le, Nat.reduceLeDiff, M_g0, M_g1, M_g2, M_g3, M_g4, M_g5, M_g6, M_g7, M_g8, M_g9, M_g10, M_g11, M_g12, M_g13, M_g14, M_g15, M_g16, M_g17, M_g18, M_g19, M_g20, M_g21, M_g22, M_g23, M_g24, M_g25, M_g26, M_g27, M_g28, M_g29, M_g30, M_g31, M_g32, M_g33, M_g34, M_g35, M_g36, M_g37, M_g38, M_g39, M_g40, M_g41, m_cAt, M_r rb329, a1]
        exact K m' (RM_fr (frZ_M (Or.inl rfl) f1) hm0)
theorem z_deed (hm : RM m z) (K : ∀ m', RM m' z → Q (some (.int (zdeed z c x))) (pM m' h)) : MT (d + 10) 212 [.ref 317, .int c, .int x] (pM m h) Q := by
  rw [MT_go (by decide) _ _ _ (Nat.le_of_ble_eq_true rfl), show s_entry 212 [.ref 317, .int c, .int x] = [.ref 317, .int c, .int x] from rfl]
  have hm0 := RM_0 (x := nI 0) hm
  have e1 := fun Q => z_isC (d := d + 7) (h := h) (Q := Q) (x := c) hm0
  unfold zdeed at K
  cases hq : zQ z with
  | none =>
    simp only [hq] at K
    rw [zC_0 hq, ix_0] at e1
    simp (disch := omega) only [u_212_0, u_212_1, u_212_2, u_212_5, u_212_6, u_212_7, u_212_10, u_212_13, u_212_14, u_212_15, u_212_16, u_212_19, u_212_22, u_212_25, u_212_26, u_212_27, u_212_28, u_212_29, u_212_30, u_212_31, u_212_34, u_212_35, u_212_38, u_212_39, u_212_40, gI0, gIs, gR0, gRs, gF0, gFs, st0, st_i, st_r, st_f, st_n, st_s, true_and, and_true, ↓ifLeT, ↓ifLeF, ↓ifLtT, ↓ifLtF, ↓ifEqT, ↓ifEqF, if_tt, if_ff, if_pos, if_neg, nLe, nLt, nEq, nInT, nCl, pk_mul, nI_add, Nat.reduceAdd, s_cat_nil, s_cat_i, s_cat_r, s_cat_f, s_cat_l, tl_s, tl_n, cat_i, cat_r, cat_f, nb0, nb1, nbI, if_bI, if_bIr, Nat.zero_le, Nat.reduceLeDiff, M_ob, M_s0, e1, Option.isSome, iBf]
    exact K _ hm0
  | some n =>
    simp only [hq] at K
    rw [zC_s hq] at e1
    obtain ⟨hg, hr, hok⟩ := RM_q hm0 hq
    have h4 := hok.1.1.1
    cases h1 : ixN c (nF n 2) with
    | none =>
      rw [h1] at e1
      simp only [h1] at K
      simp (disch := omega) only [u_212_0, u_212_1, u_212_2, u_212_5, u_212_6, u_212_7, u_212_10, u_212_13, u_212_14, u_212_15, u_212_16, u_212_19, u_212_22, u_212_25, u_212_26, u_212_27, u_212_28, u_212_29, u_212_30, u_212_31, u_212_34, u_212_35, u_212_38, u_212_39, u_212_40, gI0, gIs, gR0, gRs, gF0, gFs, st0, st_i, st_r, st_f, st_n, st_s, true_and, and_true, ↓ifLeT, ↓ifLeF, ↓ifLtT, ↓ifLtF, ↓ifEqT, ↓ifEqF, if_tt, if_ff, if_pos, if_neg, nLe, nLt, nEq, nInT, nCl, pk_mul, nI_add, Nat.reduceAdd, s_cat_nil, s_cat_i, s_cat_r, s_cat_f, s_cat_l, tl_s, tl_n, cat_i, cat_r, cat_f, nb0, nb1, nbI, if_bI, if_bIr, Nat.zero_le, Nat.reduceLeDiff, M_ob, M_s0, e1, Option.isSome, iBf]
      exact K _ hm0
    | some j =>
      rw [h1] at e1
      cases h2 : ixN x 300 with
      | none =>
        simp only [h1, h2] at K
        simp (disch := omega) only [u_212_0, u_212_1, u_212_2, u_212_5, u_212_6, u_212_7, u_212_10, u_212_13, u_212_14, u_212_15, u_212_16, u_212_19, u_212_22, u_212_25, u_212_26, u_212_27, u_212_28, u_212_29, u_212_30, u_212_31, u_212_34, u_212_35, u_212_38, u_212_39, u_212_40, gI0, gIs, gR0, gRs, gF0, gFs, st0, st_i, st_r, st_f, st_n, st_s, true_and, and_true, ↓ifLeT, ↓ifLeF, ↓ifLtT, ↓ifLtF, ↓ifEqT, ↓ifEqF, if_tt, if_ff, if_pos, if_neg, nLe, nLt, nEq, nInT, nCl, pk_mul, nI_add, Nat.reduceAdd, s_cat_nil, s_cat_i, s_cat_r, s_cat_f, s_cat_l, tl_s, tl_n, cat_i, cat_r, cat_f, nb0, nb1, nbI, if_bI, if_bIr, Nat.zero_le, Nat.reduceLeDiff, M_ob, M_s0, e1, in300, h2, Option.isSome, iBt, iBf, nI10, reduceIte]
        exact K _ hm0
      | some k =>
        simp only [h1, h2] at K
        obtain ⟨j1, rfl⟩ := ix_some (by omega) h1
        obtain ⟨k1, rfl⟩ := ix_some (by omega) h2
        have i4 : vp_in (nI j) 4 := (nIn (by omega)).mpr (by omega)
        simp (disch := omega) only [u_212_0, u_212_1, u_212_2, u_212_5, u_212_6, u_212_7, u_212_10, u_212_13, u_212_14, u_212_15, u_212_16, u_212_19, u_212_22, u_212_25, u_212_26, u_212_27, u_212_28, u_212_29, u_212_30, u_212_31, u_212_34, u_212_35, u_212_38, u_212_39, u_212_40, gI0, gIs, gR0, gRs, gF0, gFs, st0, st_i, st_r, st_f, st_n, st_s, true_and, and_true, ↓ifLeT, ↓ifLeF, ↓ifLtT, ↓ifLtF, ↓ifEqT, ↓ifEqF, if_tt, if_ff, if_pos, if_neg, nLe, nLt, nEq, nInT, nCl, pk_mul, nI_add, Nat.reduceAdd, s_cat_nil, s_cat_i, s_cat_r, s_cat_f, s_cat_l, tl_s, tl_n, cat_i, cat_r, cat_f, nb0, nb1, nbI, if_bI, if_bIr, Nat.zero_le, Nat.reduceLeDiff, M_ob, M_s0, e1, in300, h2, Option.isSome, iBt, nI10, reduceIte]
        refine r_fore (d := d) (N := k + 1) (by omega) hok.1 hg hr fun m' f1 r1 d1 => ?_
        have a1 := d1 (by omega) j j1
        rw [Nat.add_sub_cancel] at a1
        simp (disch := omega) only [u_212_0, u_212_1, u_212_2, u_212_5, u_212_6, u_212_7, u_212_10, u_212_13, u_212_14, u_212_15, u_212_16, u_212_19, u_212_22, u_212_25, u_212_26, u_212_27, u_212_28, u_212_29, u_212_30, u_212_31, u_212_34, u_212_35, u_212_38, u_212_39, u_212_40, gI0, gIs, gR0, gRs, gF0, gFs, st0, st_i, st_r, st_f, st_n, st_s, true_and, and_true, ↓ifLeT, ↓ifLeF, ↓ifLtT, ↓ifLtF, ↓ifEqT, ↓ifEqF, if_tt, if_ff, if_pos, if_neg, nLe, nLt, nEq, nInT, nCl, pk_mul, nI_add, Nat.reduceAdd, s_cat_nil, s_cat_i, s_cat_r, s_cat_f, s_cat_l, tl_s, tl_n, cat_i, cat_r, cat_f, nb0, nb1, nbI, if_bI, if_bIr, Nat.zero_le, Nat.reduceLeDiff, M_g0, M_g1, M_g2, M_g3, M_g4, M_g5, M_g6, M_g7, M_g8, M_g9, M_g10, M_g11, M_g12, M_g13, M_g14, M_g15, M_g16, M_g17, M_g18, M_g19, M_g20, M_g21, M_g22, M_g23, M_g24, M_g25, M_g26, M_g27, M_g28, M_g29, M_g30, M_g31, M_g32, M_g33, M_g34, M_g35, M_g36, M_g37, M_g38, M_g39, M_g40, M_g41, M_a327, i4, a1]
        exact K m' (RM_fr (frZ_M (Or.inl rfl) f1) hm0)
end MC
