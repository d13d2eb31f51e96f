/-! the reference: a line of MOVES that may be -/
theorem mvL_v : ∀ k c t (f : Nat → Int32), (∀ q, ∃ b, f q = nI b ∧ b ≤ 99) → ∀ q, ∃ b, (mvL k c t f).2.2 q = nI b ∧ b ≤ 99
  | 0, _, _, _, h => h
  | k + 1, c, t, f, h => by
    rw [mvL]
    cases hb : isNB t (nI 0) (nI 99) with
    | false => exact h
    | true =>
      refine mvL_v k (c + 1) (advT t) (upd f c (eI t 4)) fun q => ?_
      by_cases e : q = c
      · have : upd f c (eI t 4) q = eI t 4 := if_pos e
        rw [this]
        unfold isNB at hb
        rw [Bool.and_eq_true, Bool.and_eq_true, decide_eq_true_eq, decide_eq_true_eq, decide_eq_true_eq] at hb
        obtain ⟨-, b2, b3⟩ := hb
        obtain ⟨k, hk, e2⟩ := nI_of (x := eI t 4) (Int32.not_lt.mpr b2)
        rw [e2] at b3
        exact ⟨k, e2, (nI_leI hk (by omega)).mp b3⟩
      · have : upd f c (eI t 4) q = f q := if_neg e
        rw [this]
        exact h q
theorem mvN_v {C : Nat} : ∀ k l t (f : Nat → Nat → Int32), (∀ j q, ∃ b, f j q = nI b ∧ b ≤ 99) → ∀ j q, ∃ b, (mvN C k l t f).2.2.2 j q = nI b ∧ b ≤ 99
  | 0, _, _, _, h => h
  | k + 1, l, t, f, h => by
    have z : ∀ j q, ∃ b, (if j = l then (mvL C 0 t (fun _ => 0)).2.2 else f j) q = nI b ∧ b ≤ 99 := fun j q => by
      by_cases e : j = l
      · rw [if_pos e]
        exact mvL_v C 0 t _ (fun _ => ⟨0, rfl, by omega⟩) q
      · rw [if_neg e]
        exact h j q
    rw [mvN]
    split
    · split
      · exact z
      · split
        · exact mvN_v k (l + 1) _ _ z
        · exact h
    · exact h
theorem rdM_v {C : Nat} {t : tO} : ∀ j q, ∃ b, (rdM t C).2.2.2 j q = nI b ∧ b ≤ 99 := mvN_v 40 0 _ _ fun _ _ => ⟨0, rfl, by omega⟩
theorem sub_lt {a b g : Nat} (ha : a < 2 ^ 20) (hb : b < 2 ^ 20) (hg : g < 2 ^ 20) : nI a - nI b < nI g ↔ a < b + g := by
  rw [Int32.lt_iff_toInt_lt, pk_sub_toInt (by omega) (by omega), nI_toInt (by omega)]
  omega
def okM (n : tN) (f : Nat → Nat → Int32) (l c : Nat) : Bool := decide ((f l c).toNatClampNeg < nF n 0) && (decide (c = 0) || decide ((f l (c - 1)).toNatClampNeg + nF n 1 ≤ (f l c).toNatClampNeg)) && decide (wayN (if l = 0 then nA n 7 c else (f (l - 1) c).toNatClampNeg) (f l c).toNatClampNeg ≤ if l = 0 then 0 else if nK n c then 0 else 1)
theorem true_ok {n : tN} {f : Nat → Nat → Int32} {l : Nat} : trueN n f l = (List.range (nF n 2)).all (okM n f l) := rfl
section MTR
variable {d : Nat} {m : tM} {h : sH} {Q : sQ} {n : tN} {f : Nat → Nat → Int32} {l c x fr : Nat} {v v4 v5 v6 : Value} {R : Bool}
/-- the second test and what comes after it -/
theorem tr_2 (hn : wfN n) (hr : RR (kA m 320) n) (hc : c < nF n 2) (hx : x ≤ 99) (hf : fr < 100) (hl : l < 40) (ih : ∀ b : Bool, WP (d + 1) 216 4 [.ref 317, .int (nI l), .int (iB b), .int (nI (c + 1)), .int (nI x), .int (nI fr), .int (nI (wayN fr x))] [] (pM m h) (0, 0) Q ↔ Q (some (.int (iB (b && R)))) (pM m h)) {v0 : Int32} (v2 : Bool) : WP (d + 1) 216 109 [.ref 317, .int (nI l), .int v0, .int (nI c), .int (nI x), .int (nI fr), .int (nI (wayN fr x))] [.int (iB v2)] (pM m h) (0, 0) Q ↔ Q (some (.int (iB ((v2 && decide (wayN fr x ≤ if l = 0 then 0 else if nK n c then 0 else 1)) && R)))) (pM m h) := by
  have wb : wayN fr x < 2 ^ 20 := by unfold wayN; omega
  have bk := (hr.2.2.1 c hc).2.1
  have c3 := hn.1.1
  have fin : ∀ lim, lim < 2 → (WP (d + 1) 216 139 [.ref 317, .int (nI l), .int (iB true), .int (nI c), .int (nI x), .int (nI fr), .int (nI (wayN fr x))] [.int (nI lim), .int (nI (wayN fr x))] (pM m h) (0, 0) Q ↔ Q (some (.int (iB (decide (wayN fr x ≤ lim) && R)))) (pM m h)) := fun lim hlim => by
    by_cases gw : wayN fr x ≤ lim
    · rw [decide_eq_true gw, ← ih true]
      simp (disch := omega) only [u_216_139, u_216_142, u_216_143, u_216_146, u_216_147, u_216_148, u_216_151, gI0, gIs, gR0, gRs, gF0, gFs, st0, st_i, st_r, st_f, st_n, st_s, true_and, and_true, ↓ifLeT, ↓ifLeF, ↓ifLtT, ↓ifLtF, ↓ifEqT, ↓ifEqF, if_tt, if_ff, if_pos, if_neg, nLe, nLt, nEq, nInT, nCl, pk_mul, nI_add, Nat.reduceAdd, s_cat_nil, s_cat_i, s_cat_r, s_cat_f, s_cat_l, tl_s, tl_n, cat_i, cat_r, cat_f, nb0, nb1, nbI, if_bI, if_bIr, Nat.zero_le, Nat.reduceLeDiff, iBt]
    · rw [decide_eq_false gw, ← ih false]
      simp (disch := omega) only [u_216_139, u_216_142, u_216_143, u_216_146, u_216_147, u_216_148, u_216_151, gI0, gIs, gR0, gRs, gF0, gFs, st0, st_i, st_r, st_f, st_n, st_s, true_and, and_true, ↓ifLeT, ↓ifLeF, ↓ifLtT, ↓ifLtF, ↓ifEqT, ↓ifEqF, if_tt, if_ff, if_pos, if_neg, nLe, nLt, nEq, nInT, nCl, pk_mul, nI_add, Nat.reduceAdd, s_cat_nil, s_cat_i, s_cat_r, s_cat_f, s_cat_l, tl_s, tl_n, cat_i, cat_r, cat_f, nb0, nb1, nbI, if_bI, if_bIr, Nat.zero_le, Nat.reduceLeDiff, iBf]
  cases v2 with
  | false =>
    rw [Bool.false_and, ← ih false]
    simp (disch := omega) only [u_216_109, u_216_110, u_216_111, u_216_114, u_216_116, u_216_117, u_216_120, u_216_121, u_216_124, u_216_125, u_216_126, u_216_129, u_216_130, u_216_131, u_216_134, u_216_135, u_216_138, u_216_139, u_216_142, u_216_143, u_216_146, u_216_147, u_216_148, u_216_151, gI0, gIs, gR0, gRs, gF0, gFs, st0, st_i, st_r, st_f, st_n, st_s, true_and, and_true, ↓ifLeT, ↓ifLeF, ↓ifLtT, ↓ifLtF, ↓ifEqT, ↓ifEqF, if_tt, if_ff, if_pos, if_neg, nLe, nLt, nEq, nInT, nCl, pk_mul, nI_add, Nat.reduceAdd, s_cat_nil, s_cat_i, s_cat_r, s_cat_f, s_cat_l, tl_s, tl_n, cat_i, cat_r, cat_f, nb0, nb1, nbI, if_bI, if_bIr, Nat.zero_le, Nat.reduceLeDiff, iBf]
  | true =>
    rw [Bool.true_and]
    by_cases l0 : l = 0
    · rw [if_pos l0]
      subst l0
      rw [← fin 0 (by decide)]
      simp (disch := omega) only [u_216_109, u_216_110, u_216_111, u_216_114, u_216_116, u_216_117, u_216_120, u_216_121, u_216_124, u_216_125, u_216_126, u_216_129, u_216_130, u_216_131, u_216_134, u_216_135, u_216_138, gI0, gIs, gR0, gRs, gF0, gFs, st0, st_i, st_r, st_f, st_n, st_s, true_and, and_true, ↓ifLeT, ↓ifLeF, ↓ifLtT, ↓ifLtF, ↓ifEqT, ↓ifEqF, if_tt, if_ff, if_pos, if_neg, nLe, nLt, nEq, nInT, nCl, pk_mul, nI_add, Nat.reduceAdd, s_cat_nil, s_cat_i, s_cat_r, s_cat_f, s_cat_l, tl_s, tl_n, cat_i, cat_r, cat_f, nb0, nb1, nbI, if_bI, if_bIr, Nat.zero_le, Nat.reduceLeDiff, iBt, nI10, reduceIte]
    · rw [if_neg l0]
      have nl : ¬ nI l = nI 0 := fun q => l0 ((nI_eq (by omega) (by omega)).mp q)
      cases hk : nK n c with
      | true =>
        rw [hk] at bk
        rw [if_pos rfl, ← fin 0 (by decide)]
        simp (disch := omega) only [u_216_109, u_216_110, u_216_111, u_216_114, u_216_116, u_216_117, u_216_120, u_216_121, u_216_124, u_216_125, u_216_126, u_216_129, u_216_130, u_216_131, u_216_134, u_216_135, u_216_138, gI0, gIs, gR0, gRs, gF0, gFs, st0, st_i, st_r, st_f, st_n, st_s, true_and, and_true, ↓ifLeT, ↓ifLeF, ↓ifLtT, ↓ifLtF, ↓ifEqT, ↓ifEqF, if_tt, if_ff, if_pos, if_neg, nLe, nLt, nEq, nInT, nCl, pk_mul, nI_add, Nat.reduceAdd, s_cat_nil, s_cat_i, s_cat_r, s_cat_f, s_cat_l, tl_s, tl_n, cat_i, cat_r, cat_f, nb0, nb1, nbI, if_bI, if_bIr, Nat.zero_le, Nat.reduceLeDiff, M_g0, M_g1, M_g2, M_g3, M_g4, M_g5, M_g6, M_g7, M_g8, M_g9, M_g10, M_g11, M_g12, M_g13, M_g14, M_g15, M_g16, M_g17, M_g18, M_g19, M_g20, M_g21, M_g22, M_g23, M_g24, M_g25, M_g26, M_g27, M_g28, M_g29, M_g30, M_g31, M_g32, M_g33, M_g34, M_g35, M_g36, M_g37, M_g38, M_g39, M_g40, M_g41, m_cAt, M_r rb320, bk, iBt, nI10, nl, reduceIte]
      | false =>
        rw [hk] at bk
        rw [if_neg Bool.false_ne_true, ← fin 1 (by decide)]
        simp (disch := omega) only [u_216_109, u_216_110, u_216_111, u_216_114, u_216_116, u_216_117, u_216_120, u_216_121, u_216_124, u_216_125, u_216_126, u_216_129, u_216_130, u_216_131, u_216_134, u_216_135, u_216_138, gI0, gIs, gR0, gRs, gF0, gFs, st0, st_i, st_r, st_f, st_n, st_s, true_and, and_true, ↓ifLeT, ↓ifLeF, ↓ifLtT, ↓ifLtF, ↓ifEqT, ↓ifEqF, if_tt, if_ff, if_pos, if_neg, nLe, nLt, nEq, nInT, nCl, pk_mul, nI_add, Nat.reduceAdd, s_cat_nil, s_cat_i, s_cat_r, s_cat_f, s_cat_l, tl_s, tl_n, cat_i, cat_r, cat_f, nb0, nb1, nbI, if_bI, if_bIr, Nat.zero_le, Nat.reduceLeDiff, M_g0, M_g1, M_g2, M_g3, M_g4, M_g5, M_g6, M_g7, M_g8, M_g9, M_g10, M_g11, M_g12, M_g13, M_g14, M_g15, M_g16, M_g17, M_g18, M_g19, M_g20, M_g21, M_g22, M_g23, M_g24, M_g25, M_g26, M_g27, M_g28, M_g29, M_g30, M_g31, M_g32, M_g33, M_g34, M_g35, M_g36, M_g37, M_g38, M_g39, M_g40, M_g41, m_cAt, M_r rb320, bk, iBt, iBf, nI10, nl, reduceIte]
end MTR
