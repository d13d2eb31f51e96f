/-! Search: ZONES and BEST -/
def zonesN (n : tN) : tG := pickN n (cutN n (nF n 2) 0 (ordN n) (fun _ => [])) (301, none)
def bestN (n : tN) : tG := pickN n (enN n 13 0 (fun t => (lfB n).testBit t) (fun _ => [])) (301, none)
def lostN (n : tN) (lo : Nat) : tN := jK n (fun q => nK n q || lo.testBit q)
theorem lostN_0 {n : tN} : lostN n 0 = n := by
  unfold lostN
  have : (fun q => nK n q || (0 : Nat).testBit q) = nK n := by funext q; simp
  rw [this]
  rfl
theorem wf_lost {n : tN} {lo : Nat} (hn : wfN n) : wfN (lostN n lo) := hn
theorem lfB_tb {n : tN} {t : Nat} : (lfB n).testBit t = true ↔ t < nF n 3 ∧ nDone n t = false := by
  unfold lfB
  rw [bitsN_tb, Bool.and_eq_true, decide_eq_true_eq]
  simp
theorem wfL_nil {n : tN} : wfL (jL n (fun _ => [])) := ⟨fun _ _ => rfl, fun _ => ⟨List.nodup_nil, fun t ht => by cases ht⟩, fun _ _ t ht => by cases ht⟩
theorem invE_0 {n : tN} : invE n 0 (fun t => (lfB n).testBit t) (fun _ => []) := by
  refine ⟨wfL_nil, fun _ _ => rfl, fun t ht => ⟨(lfB_tb.mp ht).1, (lfB_tb.mp ht).2, fun q h => (by cases h)⟩, fun q t h => (by cases h), fun t h1 h2 => Or.inl (lfB_tb.mpr ⟨h1, h2⟩)⟩
theorem rowN_L {n : tN} {p : tL} : ∀ f, rowN (jL n p) f = rowN n f
  | 0 => rfl
  | f + 1 => by
    funext t
    rw [rowN, rowN, rowN_L f]
    rfl
theorem bo_L {n : tN} {p : tL} {w : Int32} : boN (jL n p) w = boN n w := by
  unfold boN
  have e : rowsN (jL n p) = rowsN n := by
    unfold rowsN
    rw [rowN_L]
    rfl
  rw [e]
  rfl
theorem ord_len {n : tN} (hn : wfN n) : (ordN n).length ≤ 8 := by
  have := nodup_len (k := nF n 3) (ordK_nodup hn.2.2.1 (nF n 3) (Nat.le_refl _)) fun t ht => (mem_ordK.mp ht).1
  have := hn.1.2.1
  unfold ordN
  omega
/-- a cut plan is among all plans -/
theorem cut_best {n : tN} {p : tL} (hn : wfN n) (h1 : 1 ≤ nF n 2) (h : p ∈ cutN n (nF n 2) 0 (ordN n) (fun _ => [])) : p ∈ enN n 13 0 (fun t => (lfB n).testBit t) (fun _ => []) := by
  obtain ⟨c1, c2, c3, c4⟩ := mem_cutN (nF n 2) 0 (ordN n) (fun _ => []) (fun _ _ => rfl) h
  obtain ⟨k, hk⟩ : ∃ k, nF n 2 = k + 1 := ⟨nF n 2 - 1, by omega⟩
  have e : p 0 ++ tailL p (0 + 1) (nF n 2 - 1) = ordN n := by
    rw [← c3, hk]
    rfl
  have h4 := hn.1.1
  have h8 := ord_len hn
  refine mem_enN 13 (nF n 2) 0 (p 0) _ _ (Nat.zero_add _) (fun q hq => absurd hq (Nat.not_lt_zero q)) (fun q hq => c2 q (by omega)) (fun _ _ _ => rfl) (fun _ => rfl) (fun e => by omega) (e ▸ ordK_nodup hn.2.2.1 (nF n 3) (Nat.le_refl _)) (fun t ht => ?_) (fun t h2 h3 => ?_) (fun t ht => c4 0 (Nat.le_refl _) (by omega) t ht) (fun q a b => c4 q (by omega) (by omega)) (by rw [e]; omega)
  · rw [e] at ht
    obtain ⟨a, b, -⟩ := mem_ordK.mp ht
    exact ⟨lfB_tb.mpr ⟨a, b⟩, a⟩
  · rw [e]
    obtain ⟨a, b⟩ := lfB_tb.mp h3
    exact mem_ordK.mpr ⟨a, b, (hn.2.2.1 t a).1⟩
theorem best_from {n : tN} (hn : wfN n) (h1 : 1 ≤ nF n 2) {m : Nat} {p : tL} (h : zonesN n = (m, some (m, p))) : pickN n (enN n 13 0 (fun t => (lfB n).testBit t) (fun _ => [])) (m + 1, none) = bestN n := by
  unfold zonesN at h
  rcases pick_from (n := n) (ps := cutN n (nF n 2) 0 (ordN n) (fun _ => [])) (g := (301, none)) with e | ⟨l, v, e1, e2, e3, e4⟩
  · rw [h] at e
    cases congrArg Prod.snd e
  · rw [h] at e3
    have e5 := congrArg Prod.fst e3
    have e5 : m = v := e5
    subst e5
    exact pick_eq ⟨l, cut_best hn h1 e1, m, e2, by omega, e4⟩
section FND
variable {b d : Nat} {s : tS} {h : sH} {i x : Int32} {Q : sQ} {n : tN} {l : tL} {g : tG}
def frQ (b : Nat) (s s' : tS) : Prop := (∀ k, k ≠ 306 → eN (SG s') k = eN (SG s) k) ∧ eB (SG s') = eB (SG s) ∧ (∀ k, k ≠ 305 → eA (SG s') k = eA (SG s) k) ∧ (∀ q, q ≠ 240 → q ≠ 256 → SY s' q = SY s q) ∧ SP s' 20 = SP s 20 ∧ ∀ q, q ≠ b → q ≠ 278 → SO s' q = SO s q
theorem frQ_r : frQ b s s := ⟨fun _ _ => rfl, rfl, fun _ _ => rfl, fun _ _ _ => rfl, rfl, fun _ _ _ => rfl⟩
theorem frQ_t {s' t : tS} (h1 : frQ b s s') (h2 : frQ b s' t) : frQ b s t := ⟨fun k hk => (h2.1 k hk).trans (h1.1 k hk), h2.2.1.trans h1.2.1, fun k hk => (h2.2.2.1 k hk).trans (h1.2.2.1 k hk), fun q a c => (h2.2.2.2.1 q a c).trans (h1.2.2.2.1 q a c), h2.2.2.2.2.1.trans h1.2.2.2.2.1, fun q a c => (h2.2.2.2.2.2 q a c).trans (h1.2.2.2.2.2 q a c)⟩
theorem frQ_S {s' : tS} {q : Nat} (hq : q = b ∨ q = 278) (hf : frS q s s') : frQ b s s' := ⟨fun k _ => by rw [hf.1], by rw [hf.1], fun k _ => by rw [hf.1], fun q _ a => hf.2.1 q a, hf.2.2.1 20 (by decide), fun r a c => hf.2.2.2.1 r (by rcases hq with e | e <;> omega)⟩
theorem frQ_O {q : Nat} {o : tO} (hq : q = b ∨ q = 278) : frQ b s (wSO s q o) := ⟨fun _ _ => rfl, rfl, fun _ _ => rfl, fun _ _ _ => rfl, rfl, fun r a c => if_neg (by rcases hq with e | e <;> omega)⟩
theorem frQ_P {p : tP} : frQ b s (wSP s 272 p) := ⟨fun _ _ => rfl, rfl, fun _ _ => rfl, fun _ _ _ => rfl, rfl, fun _ _ _ => rfl⟩
theorem frQ_Y {y : tY} {q : Nat} (hq : q = 240 ∨ q = 256) : frQ b s (wSY s q y) := ⟨fun _ _ => rfl, rfl, fun _ _ => rfl, fun r a c => if_neg (by rcases hq with e | e <;> omega), rfl, fun _ _ _ => rfl⟩
theorem frQ_sO {M : Nat} {f : Nat → Int32} : frQ b s (sO s M f) := ⟨fun k hk => if_neg hk, rfl, fun k hk => if_neg hk, fun _ _ _ => rfl, rfl, fun _ _ _ => rfl⟩
theorem SY_s5 {f : sH → Prop} (hb : yb b) : fS (pS s h) b 7 5 (.int x) f ↔ f (pS (wSY s b (uS (SY s b) 5 x)) h) := by
  have e := Y_s5 (a := b) (y := SY s b) (h := pS s h) (f := f) (x := x)
  rwa [isY_S hb, S_Y hb] at e
theorem RY_K {y : tY} {f : Nat → Bool} (hy : RY y n) : RY (uS y 5 (nI (bitsN f (nF n 2)))) (jK n f) := by
  obtain ⟨⟨f0, f1, f2, f3, f4, f5, f6⟩, h2, h3, h4⟩ := hy
  exact ⟨⟨f0, f1, f2, f3, f4, rfl, f6⟩, h2, h3, h4⟩
theorem lost_bits {lo : Nat} (hlo : lo < 2 ^ nF n 2) : bitsN (nK n) (nF n 2) ||| lo = bitsN (fun q => nK n q || lo.testBit q) (nF n 2) := by
  refine bitsN_eq (Nat.or_lt_two_pow (bitsN_lt _) hlo) fun q hq => ?_
  rw [Nat.testBit_or, bitsN_tb, decide_eq_true hq, Bool.true_and]
theorem RP_nil {p : Nat → Int32} : RP (p, fun _ => 0) (fun _ => []) := fun c _ => ⟨rfl, fun k hk => absurd hk (Nat.not_lt_zero k)⟩
theorem RCh_opn {o : tO} {x : Int32} {lim : Nat} (hx : x = nI lim - nI 1) (h3 : lim ≤ 301) : RCh (opnC o x) (lim, none) := ⟨hx, h3, rfl⟩
theorem n300 : nI 300 = nI 301 - nI 1 := by decide
theorem m_sbegin (hb : cb b) {lo : Nat} (hlo : lo < 2 ^ nF n 2) (hn : wfN n) (hy : RY (SY s 24) n) (K : ∀ s', frQ b s s' → RY (SY s' 240) (lostN n lo) → RP (SP s' 272) (fun _ => []) → RCh (SO s' b) (301, none) → eB (SO s' b) 1 = true → ordS s' (ordN n) → Q none (pS s' h)) : MT (d + 3) 45 [.ref 239, .ref 24, .int (nI lo), .ref b] (pS s h) Q := by
  rw [MT_go (by decide) _ _ _ (Nat.le_of_ble_eq_true rfl), show s_entry 45 [.ref 239, .ref 24, .int (nI lo), .ref b] = [.ref 239, .ref 24, .int (nI lo), .ref b] from rfl]
  have e1 := fun Q => S_copyY (d := d) (s := s) (h := h) (Q := Q) yb240 yb24 (by decide)
  have f5 := hy.1.2.2.2.2.2.1
  have hy' : RY (uS (cpY (SY s 240) (SY s 24)) 5 (yB (cpY (SY s 240) (SY s 24)) 5 ||| nI lo)) (lostN n lo) := by
    have e : yB (cpY (SY s 240) (SY s 24)) 5 = nI (bitsN (nK n) (nF n 2)) := f5
    rw [e, fa_or, lost_bits hlo]
    exact RY_K (RY_cp hy)
  have e2 := fun (s : tS) x Q => S_open (d := d) (s := s) (h := h) (x := x) (Q := Q) hb
  have e3 := fun (s : tS) Q => tr_P (d := d + 2) (s := s) (h := h) (Q := Q) pb272 (fun h Q => m_clear (d := d + 1) (b := 272) (p := SP s 272) (h := h) (Q := Q))
  have ob : ∀ s : tS, ∀ q : Nat, (oO (pS s h) 272 fun c' _ => c' = q) ↔ 3 = q := fun s q => P'_ob (isP_S pb272)
  simp (disch := omega) only [u_45_0, u_45_1, u_45_4, u_45_5, u_45_8, u_45_9, u_45_12, u_45_13, u_45_16, u_45_17, u_45_18, u_45_21, u_45_22, u_45_25, u_45_28, u_45_29, u_45_32, u_45_35, u_45_36, u_45_39, gI0, gIs, gR0, gRs, gF0, gFs, st0, st_i, st_r, st_f, st_n, st_s, true_and, and_true, ↓ifLeT, ↓ifLeF, ↓ifLtT, ↓ifLtF, ↓ifEqT, ↓ifEqF, if_tt, if_ff, if_pos, if_neg, nLe, nLt, nEq, nInT, nCl, pk_mul, nI_add, Nat.reduceAdd, s_cat_nil, s_cat_i, s_cat_r, s_cat_f, s_cat_l, tl_s, tl_n, cat_i, cat_r, cat_f, nb0, nb1, nbI, if_bI, if_bIr, Nat.zero_le, Nat.reduceLeDiff, S_g0_0, S_g0_1, S_g0_2, S_g0_3, S_g0_4, S_g0_5, S_g0_6, S_g0_7, S_g0_8, S_g0_9, S_g0_10, S_g0_11, S_g0_12, S_g0_13, S_g0_14, S_g1_0, S_g1_1, S_g1_2, S_g1_3, S_g1_4, S_g72_0, S_g72_1, S_g72_2, S_g239_0, S_g239_1, S_g239_2, S_g239_3, S_g239_4, S_g239_5, S_g239_6, S_a23, S_n23, S_a282, S_n282, S_a300, S_n300, S_n73, S_n299, S_ob239, Y'_ob (isY_S yb240), Y'_g0 (isY_S yb240), Y'_g1 (isY_S yb240), Y'_g2 (isY_S yb240), Y'_g3 (isY_S yb240), Y'_g4 (isY_S yb240), Y'_g5 (isY_S yb240), Y'_g6 (isY_S yb240), Y'_g7 (isY_S yb240), Y'_g8 (isY_S yb240), Y'_g9 (isY_S yb240), Y'_g10 (isY_S yb240), Y'_g11 (isY_S yb240), Y'_g12 (isY_S yb240), Y'_g13 (isY_S yb240), Y'_g14 (isY_S yb240), Y'_g15 (isY_S yb240), Y'_g16 (isY_S yb240), Y'_g17 (isY_S yb240), Y'_g18 (isY_S yb240), Y'_g19 (isY_S yb240), Y'_a7 (isY_S yb240), Y'_a8 (isY_S yb240), Y'_a10 (isY_S yb240), Y'_a11 (isY_S yb240), Y'_a12 (isY_S yb240), Y'_a13 (isY_S yb240), Y'_a14 (isY_S yb240), Y'_a15 (isY_S yb240), Y'_a16 (isY_S yb240), Y'_a17 (isY_S yb240), Y'_a18 (isY_S yb240), Y'_sw (isY_S yb240), C_ob hb, ob, e1, SY_s5 yb240, SYw, wSY_tw, e2, e3]
  refine m_sort (n := lostN n lo) hn ?_ fun f ho => ?_
  · exact hy'
  · simp (disch := omega) only [u_45_0, u_45_1, u_45_4, u_45_5, u_45_8, u_45_9, u_45_12, u_45_13, u_45_16, u_45_17, u_45_18, u_45_21, u_45_22, u_45_25, u_45_28, u_45_29, u_45_32, u_45_35, u_45_36, u_45_39, gI0, gIs, gR0, gRs, gF0, gFs, st0, st_i, st_r, st_f, st_n, st_s, true_and, and_true, ↓ifLeT, ↓ifLeF, ↓ifLtT, ↓ifLtF, ↓ifEqT, ↓ifEqF, if_tt, if_ff, if_pos, if_neg, nLe, nLt, nEq, nInT, nCl, pk_mul, nI_add, Nat.reduceAdd, s_cat_nil, s_cat_i, s_cat_r, s_cat_f, s_cat_l, tl_s, tl_n, cat_i, cat_r, cat_f, nb0, nb1, nbI, if_bI, if_bIr, Nat.zero_le, Nat.reduceLeDiff]
    refine K _ (frQ_t (frQ_t (frQ_t (frQ_Y (Or.inl rfl)) (frQ_O (Or.inl rfl))) frQ_P) frQ_sO) ?_ ?_ ?_ ?_ ho
    · exact hy'
    · exact RP_nil (p := (SP s 272).1)
    · show RCh (if b = b then _ else _) _
      rw [if_pos rfl]
      exact RCh_opn n300 (by decide)
    · show eB (if b = b then _ else _) 1 = true
      rw [if_pos rfl]
      rfl
theorem pow_pos' {k : Nat} : 0 < 2 ^ k := Nat.two_pow_pos k
theorem m_findZones (hb : cb b) (hn : wfN n) (h1 : 1 ≤ nF n 2) (hy : RY (SY s 24) n) (K1 : eB (SO s b) 1 = true → Q none (pS s h)) (K2 : eB (SO s b) 1 = false → ∀ s', frQ b s s' → RCh (SO s' b) (zonesN n) → eB (SO s' b) 1 = true → Q none (pS s' h)) : MT (d + 12) 44 [.ref 239, .ref 24, .ref b] (pS s h) Q := by
  rw [MT_go (by decide) _ _ _ (Nat.le_of_ble_eq_true rfl), show s_entry 44 [.ref 239, .ref 24, .ref b] = [.ref 239, .ref 24, .ref b] from rfl]
  cases hk : eB (SO s b) 1 with
  | true =>
    simp (disch := omega) only [u_44_0, u_44_1, u_44_4, u_44_7, u_44_8, u_44_9, u_44_10, u_44_11, u_44_14, u_44_15, u_44_16, u_44_17, u_44_18, u_44_19, u_44_22, gI0, gIs, gR0, gRs, gF0, gFs, st0, st_i, st_r, st_f, st_n, st_s, true_and, and_true, ↓ifLeT, ↓ifLeF, ↓ifLtT, ↓ifLtF, ↓ifEqT, ↓ifEqF, if_tt, if_ff, if_pos, if_neg, nLe, nLt, nEq, nInT, nCl, pk_mul, nI_add, Nat.reduceAdd, s_cat_nil, s_cat_i, s_cat_r, s_cat_f, s_cat_l, tl_s, tl_n, cat_i, cat_r, cat_f, nb0, nb1, nbI, if_bI, if_bIr, Nat.zero_le, Nat.reduceLeDiff, C_g1 hb, hk, iBt, nI10, reduceIte]
    exact K1 hk
  | false =>
    simp (disch := omega) only [u_44_0, u_44_1, u_44_4, u_44_7, u_44_8, u_44_9, u_44_10, u_44_11, u_44_14, u_44_15, u_44_16, u_44_17, u_44_18, u_44_19, u_44_22, gI0, gIs, gR0, gRs, gF0, gFs, st0, st_i, st_r, st_f, st_n, st_s, true_and, and_true, ↓ifLeT, ↓ifLeF, ↓ifLtT, ↓ifLtF, ↓ifEqT, ↓ifEqF, if_tt, if_ff, if_pos, if_neg, nLe, nLt, nEq, nInT, nCl, pk_mul, nI_add, Nat.reduceAdd, s_cat_nil, s_cat_i, s_cat_r, s_cat_f, s_cat_l, tl_s, tl_n, cat_i, cat_r, cat_f, nb0, nb1, nbI, if_bI, if_bIr, Nat.zero_le, Nat.reduceLeDiff, C_g1 hb, hk, iBf, S_ob239]
    refine m_sbegin (d := d + 8) (lo := 0) hb pow_pos' hn hy fun s1 q1 q2 q3 q4 q5 q6 => ?_
    rw [lostN_0] at q2
    simp (disch := omega) only [u_44_0, u_44_1, u_44_4, u_44_7, u_44_8, u_44_9, u_44_10, u_44_11, u_44_14, u_44_15, u_44_16, u_44_17, u_44_18, u_44_19, u_44_22, gI0, gIs, gR0, gRs, gF0, gFs, st0, st_i, st_r, st_f, st_n, st_s, true_and, and_true, ↓ifLeT, ↓ifLeF, ↓ifLtT, ↓ifLtF, ↓ifEqT, ↓ifEqF, if_tt, if_ff, if_pos, if_neg, nLe, nLt, nEq, nInT, nCl, pk_mul, nI_add, Nat.reduceAdd, s_cat_nil, s_cat_i, s_cat_r, s_cat_f, s_cat_l, tl_s, tl_n, cat_i, cat_r, cat_f, nb0, nb1, nbI, if_bI, if_bIr, Nat.zero_le, Nat.reduceLeDiff]
    have h4 := hn.1.1
    rw [show d + 11 = (d + (5 - nF n 2)) + 6 + nF n 2 by omega]
    refine m_cut (ord := ordN n) hb hn (ordK_nodup hn.2.2.1 _ (Nat.le_refl _)) (fun t ht => (mem_ordK.mp ht).1) (nF n 2) 0 0 (fun _ => []) (301, none) s1 _ (Nat.zero_add _) (Nat.zero_le _) q6 q2 wfL_nil (fun t _ q hq => by cases hq) q3 q4 fun s2 r1 r2 r3 => ?_
    simp (disch := omega) only [u_44_0, u_44_1, u_44_4, u_44_7, u_44_8, u_44_9, u_44_10, u_44_11, u_44_14, u_44_15, u_44_16, u_44_17, u_44_18, u_44_19, u_44_22, gI0, gIs, gR0, gRs, gF0, gFs, st0, st_i, st_r, st_f, st_n, st_s, true_and, and_true, ↓ifLeT, ↓ifLeF, ↓ifLtT, ↓ifLtF, ↓ifEqT, ↓ifEqF, if_tt, if_ff, if_pos, if_neg, nLe, nLt, nEq, nInT, nCl, pk_mul, nI_add, Nat.reduceAdd, s_cat_nil, s_cat_i, s_cat_r, s_cat_f, s_cat_l, tl_s, tl_n, cat_i, cat_r, cat_f, nb0, nb1, nbI, if_bI, if_bIr, Nat.zero_le, Nat.reduceLeDiff]
    exact K2 hk s2 (frQ_t q1 (frQ_S (Or.inl rfl) r1)) r3 (r1.2.2.2.2.1.trans q5)
theorem SO_open {o : tO} : eB (opnC o x) 1 = true := rfl
theorem m_findBest (hb : cb b) (hb2 : b ≠ 278) {lo : Nat} (hlo : lo < 2 ^ nF n 2) (hn : wfN n) (h1 : 1 ≤ nF n 2) (hy : RY (SY s 24) n) (K1 : eB (SO s b) 1 = true → Q none (pS s h)) (K2 : eB (SO s b) 1 = false → ∀ s', frQ b s s' → RCh (SO s' b) (bestN (lostN n lo)) → eB (SO s' b) 1 = true → Q none (pS s' h)) : MT (d + 20) 42 [.ref 239, .ref 24, .int (nI lo), .ref b] (pS s h) Q := by
  rw [MT_go (by decide) _ _ _ (Nat.le_of_ble_eq_true rfl), show s_entry 42 [.ref 239, .ref 24, .int (nI lo), .ref b] = [.ref 239, .ref 24, .int (nI lo), .ref b] from rfl]
  cases hk : eB (SO s b) 1 with
  | true =>
    simp (disch := omega) only [u_42_0, u_42_1, u_42_4, u_42_7, u_42_8, u_42_9, u_42_10, u_42_11, u_42_12, u_42_15, u_42_18, u_42_19, u_42_20, u_42_23, u_42_24, u_42_25, u_42_26, u_42_29, u_42_30, u_42_31, u_42_34, u_42_37, u_42_38, u_42_41, u_42_44, u_42_47, u_42_48, u_42_51, u_42_54, u_42_57, u_42_58, u_42_59, u_42_62, u_42_63, u_42_66, u_42_69, u_42_70, u_42_73, u_42_76, u_42_77, u_42_78, u_42_79, u_42_80, u_42_83, u_42_86, u_42_87, u_42_90, u_42_93, u_42_94, u_42_95, u_42_96, u_42_97, u_42_100, gI0, gIs, gR0, gRs, gF0, gFs, st0, st_i, st_r, st_f, st_n, st_s, true_and, and_true, ↓ifLeT, ↓ifLeF, ↓ifLtT, ↓ifLtF, ↓ifEqT, ↓ifEqF, if_tt, if_ff, if_pos, if_neg, nLe, nLt, nEq, nInT, nCl, pk_mul, nI_add, Nat.reduceAdd, s_cat_nil, s_cat_i, s_cat_r, s_cat_f, s_cat_l, tl_s, tl_n, cat_i, cat_r, cat_f, nb0, nb1, nbI, if_bI, if_bIr, Nat.zero_le, Nat.reduceLeDiff, C_g1 hb, hk, iBt, nI10, reduceIte]
    exact K1 hk
  | false =>
    have h4 := hn.1.1
    have hn' : wfN (lostN n lo) := hn
    have hO : ordN (lostN n lo) = ordN n := rfl
    simp (disch := omega) only [u_42_0, u_42_1, u_42_4, u_42_7, u_42_8, u_42_9, u_42_10, u_42_11, u_42_12, u_42_15, u_42_18, u_42_19, u_42_20, u_42_23, u_42_24, u_42_25, u_42_26, u_42_29, u_42_30, u_42_31, u_42_34, u_42_37, u_42_38, u_42_41, u_42_44, u_42_47, u_42_48, u_42_51, u_42_54, u_42_57, u_42_58, u_42_59, u_42_62, u_42_63, u_42_66, u_42_69, u_42_70, u_42_73, u_42_76, u_42_77, u_42_78, u_42_79, u_42_80, u_42_83, u_42_86, u_42_87, u_42_90, u_42_93, u_42_94, u_42_95, u_42_96, u_42_97, u_42_100, gI0, gIs, gR0, gRs, gF0, gFs, st0, st_i, st_r, st_f, st_n, st_s, true_and, and_true, ↓ifLeT, ↓ifLeF, ↓ifLtT, ↓ifLtF, ↓ifEqT, ↓ifEqF, if_tt, if_ff, if_pos, if_neg, nLe, nLt, nEq, nInT, nCl, pk_mul, nI_add, Nat.reduceAdd, s_cat_nil, s_cat_i, s_cat_r, s_cat_f, s_cat_l, tl_s, tl_n, cat_i, cat_r, cat_f, nb0, nb1, nbI, if_bI, if_bIr, Nat.zero_le, Nat.reduceLeDiff, S_g0_0, S_g0_1, S_g0_2, S_g0_3, S_g0_4, S_g0_5, S_g0_6, S_g0_7, S_g0_8, S_g0_9, S_g0_10, S_g0_11, S_g0_12, S_g0_13, S_g0_14, S_g1_0, S_g1_1, S_g1_2, S_g1_3, S_g1_4, S_g72_0, S_g72_1, S_g72_2, S_g239_0, S_g239_1, S_g239_2, S_g239_3, S_g239_4, S_g239_5, S_g239_6, S_a23, S_n23, S_a282, S_n282, S_a300, S_n300, S_n73, S_n299, C_g1 hb, hk, iBf, S_ob239]
    refine m_sbegin (d := d + 16) (lo := lo) cb278 hlo hn hy fun s1 q1 q2 q3 q4 q5 q6 => ?_
    have q1 : frQ b s s1 := ⟨q1.1, q1.2.1, q1.2.2.1, q1.2.2.2.1, q1.2.2.2.2.1, fun r a c => q1.2.2.2.2.2 r c c⟩
    simp (disch := omega) only [u_42_0, u_42_1, u_42_4, u_42_7, u_42_8, u_42_9, u_42_10, u_42_11, u_42_12, u_42_15, u_42_18, u_42_19, u_42_20, u_42_23, u_42_24, u_42_25, u_42_26, u_42_29, u_42_30, u_42_31, u_42_34, u_42_37, u_42_38, u_42_41, u_42_44, u_42_47, u_42_48, u_42_51, u_42_54, u_42_57, u_42_58, u_42_59, u_42_62, u_42_63, u_42_66, u_42_69, u_42_70, u_42_73, u_42_76, u_42_77, u_42_78, u_42_79, u_42_80, u_42_83, u_42_86, u_42_87, u_42_90, u_42_93, u_42_94, u_42_95, u_42_96, u_42_97, u_42_100, gI0, gIs, gR0, gRs, gF0, gFs, st0, st_i, st_r, st_f, st_n, st_s, true_and, and_true, ↓ifLeT, ↓ifLeF, ↓ifLtT, ↓ifLtF, ↓ifEqT, ↓ifEqF, if_tt, if_ff, if_pos, if_neg, nLe, nLt, nEq, nInT, nCl, pk_mul, nI_add, Nat.reduceAdd, s_cat_nil, s_cat_i, s_cat_r, s_cat_f, s_cat_l, tl_s, tl_n, cat_i, cat_r, cat_f, nb0, nb1, nbI, if_bI, if_bIr, Nat.zero_le, Nat.reduceLeDiff, S_g0_0, S_g0_1, S_g0_2, S_g0_3, S_g0_4, S_g0_5, S_g0_6, S_g0_7, S_g0_8, S_g0_9, S_g0_10, S_g0_11, S_g0_12, S_g0_13, S_g0_14, S_g1_0, S_g1_1, S_g1_2, S_g1_3, S_g1_4, S_g72_0, S_g72_1, S_g72_2, S_g239_0, S_g239_1, S_g239_2, S_g239_3, S_g239_4, S_g239_5, S_g239_6, S_a23, S_n23, S_a282, S_n282, S_a300, S_n300, S_n73, S_n299]
    rw [show d + 19 = (d + (13 - nF n 2)) + 6 + nF n 2 by omega]
    refine m_cut (n := lostN n lo) (ord := ordN n) cb278 hn' (ordK_nodup hn.2.2.1 _ (Nat.le_refl _)) (fun t ht => (mem_ordK.mp ht).1) (nF n 2) 0 0 (fun _ => []) (301, none) s1 _ (Nat.zero_add _) (Nat.zero_le _) q6 q2 wfL_nil (fun t _ q hq => by cases hq) q3 q4 fun s2 r1 r2 r3 => ?_
    rw [show (d + (13 - nF n 2)) + 6 + nF n 2 = d + 19 by omega]
    have hy2 : RY (SY s2 240) (lostN n lo) := Y_fr r1 q2
    have r3 : RCh (SO s2 278) (zonesN (lostN n lo)) := r3
    have f2 : frQ b s s2 := frQ_t q1 (frQ_S (Or.inr rfl) r1)
    -- from the opening on
    have go : ∀ x lim, x = nI lim - nI 1 → lim ≤ 301 → pickN (lostN n lo) (enN (lostN n lo) 13 0 (fun t => (lfB (lostN n lo)).testBit t) (fun _ => [])) (lim, none) = bestN (lostN n lo) → WP (d + 19) 42 54 [.ref 239, .ref 24, .int (nI lo), .ref b] [.int x, .ref b] (pS s2 h) (0, 0) Q := by
      intro x lim hx hl hbest
      have e2 := fun Q => S_open (d := d + 17) (s := s2) (h := h) (x := x) (Q := Q) hb
      have hB := hn.1.2.2.2
      have e3 := fun (s : tS) (hy : RY (SY s 240) (lostN n lo)) Q => tl_Y (d := d + 19) (s := s) (h := h) (Q := Q) yb240 (fun h Q => m_boundOf (d := d + 9) (a := 240) (y := SY s 240) (h := h) (Q := Q) (g := nF n 1) (B := nF n 0) (what := nI 0) (by rw [hy.1.2.2.2.1]; exact hn.1.2.1) hy.1.1 hy.1.2.1 (by omega) (by omega))
      have e3' : ∀ (s : tS) (hy : RY (SY s 240) (lostN n lo)) Q, MT (d + 19) 79 [.ref 240, .int (nI 0)] (pS s h) Q ↔ Q (some (.int (boN (lostN n lo) (nI 0)))) (pS s h) := fun s hy Q => by
        have := e3 s hy Q
        have b1 : boY (SY s 240) (nF n 1) (nF n 0) (nI 0) = boN (lostN n lo) (nI 0) := bo_rel hn' hy
        rw [b1] at this
        exact this
      have e4 := fun (s : tS) Q => tr_P (d := d + 19) (s := s) (h := h) (Q := Q) pb272 (fun h Q => m_clear (d := d + 18) (b := 272) (p := SP s 272) (h := h) (Q := Q))
      have e5 := fun (s : tS) (hy : RY (SY s 240) (lostN n lo)) Q => tl_Y (d := d + 19) (s := s) (h := h) (Q := Q) yb240 (fun h Q => m_leftBits (d := d + 18) (a := 240) (y := SY s 240) (h := h) (Q := Q))
      have ob : ∀ s : tS, ∀ q : Nat, (oO (pS s h) 272 fun c' _ => c' = q) ↔ 3 = q := fun s q => P'_ob (isP_S pb272)
      have hyo : ∀ o, RY (SY (wSO s2 b o) 240) (lostN n lo) := fun o => hy2
      have y7 : yA (SY s2 240) 7 0 = nI (nA n 7 0) := (hy2.2.1.1 0 (show 0 < nF n 2 by omega)).1
      have yl : leftY (SY s2 240) = nI (lfB (lostN n lo)) := left_bits hn' hy2
      have i0 : vp_in (nI 0) 4 := (nIn (by decide)).mpr (by decide)
      simp (disch := omega) only [u_42_0, u_42_1, u_42_4, u_42_7, u_42_8, u_42_9, u_42_10, u_42_11, u_42_12, u_42_15, u_42_18, u_42_19, u_42_20, u_42_23, u_42_24, u_42_25, u_42_26, u_42_29, u_42_30, u_42_31, u_42_34, u_42_37, u_42_38, u_42_41, u_42_44, u_42_47, u_42_48, u_42_51, u_42_54, u_42_57, u_42_58, u_42_59, u_42_62, u_42_63, u_42_66, u_42_69, u_42_70, u_42_73, u_42_76, u_42_77, u_42_78, u_42_79, u_42_80, u_42_83, u_42_86, u_42_87, u_42_90, u_42_93, u_42_94, u_42_95, u_42_96, u_42_97, u_42_100, gI0, gIs, gR0, gRs, gF0, gFs, st0, st_i, st_r, st_f, st_n, st_s, true_and, and_true, ↓ifLeT, ↓ifLeF, ↓ifLtT, ↓ifLtF, ↓ifEqT, ↓ifEqF, if_tt, if_ff, if_pos, if_neg, nLe, nLt, nEq, nInT, nCl, pk_mul, nI_add, Nat.reduceAdd, s_cat_nil, s_cat_i, s_cat_r, s_cat_f, s_cat_l, tl_s, tl_n, cat_i, cat_r, cat_f, nb0, nb1, nbI, if_bI, if_bIr, Nat.zero_le, Nat.reduceLeDiff, S_g0_0, S_g0_1, S_g0_2, S_g0_3, S_g0_4, S_g0_5, S_g0_6, S_g0_7, S_g0_8, S_g0_9, S_g0_10, S_g0_11, S_g0_12, S_g0_13, S_g0_14, S_g1_0, S_g1_1, S_g1_2, S_g1_3, S_g1_4, S_g72_0, S_g72_1, S_g72_2, S_g239_0, S_g239_1, S_g239_2, S_g239_3, S_g239_4, S_g239_5, S_g239_6, S_a23, S_n23, S_a282, S_n282, S_a300, S_n300, S_n73, S_n299, Y'_ob (isY_S yb240), Y'_g0 (isY_S yb240), Y'_g1 (isY_S yb240), Y'_g2 (isY_S yb240), Y'_g3 (isY_S yb240), Y'_g4 (isY_S yb240), Y'_g5 (isY_S yb240), Y'_g6 (isY_S yb240), Y'_g7 (isY_S yb240), Y'_g8 (isY_S yb240), Y'_g9 (isY_S yb240), Y'_g10 (isY_S yb240), Y'_g11 (isY_S yb240), Y'_g12 (isY_S yb240), Y'_g13 (isY_S yb240), Y'_g14 (isY_S yb240), Y'_g15 (isY_S yb240), Y'_g16 (isY_S yb240), Y'_g17 (isY_S yb240), Y'_g18 (isY_S yb240), Y'_g19 (isY_S yb240), Y'_a7 (isY_S yb240), Y'_a8 (isY_S yb240), Y'_a10 (isY_S yb240), Y'_a11 (isY_S yb240), Y'_a12 (isY_S yb240), Y'_a13 (isY_S yb240), Y'_a14 (isY_S yb240), Y'_a15 (isY_S yb240), Y'_a16 (isY_S yb240), Y'_a17 (isY_S yb240), Y'_a18 (isY_S yb240), Y'_sw (isY_S yb240), C_ob hb, ob, e2, e3' _ (hyo _), C_s5 hb, e4, SOw, wSO_tw, e5 _ (show RY (SY (wSP (wSO s2 b _) 272 _) 240) (lostN n lo) from hy2), SY_wP, SY_wO, yl, y7, i0]
      rw [show d + 19 = d + 6 + 13 from rfl]
      have f3 : frQ b s (wSP (wSO s2 b (vI (opnC (SO s2 b) x) 5 (boN (lostN n lo) (nI 0)))) 272 ((SP s2 272).1, fun _ => 0)) := frQ_t (frQ_t f2 (frQ_O (Or.inl rfl))) frQ_P
      refine m_extend (n := lostN n lo) hb hn' 13 0 (lfB (lostN n lo)) (fun _ => []) (lim, none) _ _ 0 0 _ (by rfl) (Nat.zero_le _) (lfB_lt hn') (by exact hy2) invE_0 ?_ ?_ ?_ (fun _ => ⟨rfl, rfl⟩) (fun e => rfl) fun s3 w1 w2 w3 => ?_
      · rw [SPw]; exact RP_nil
      · show RCh (if b = b then _ else _) _
        rw [if_pos rfl]
        exact ⟨hx, hl, rfl⟩
      · intro p m hp hm
        have := low_bound hp hm
        rw [bo_L] at this
        show (eI (if b = b then _ else _) 5).toInt ≤ _
        rw [if_pos rfl]
        exact this
      · simp (disch := omega) only [u_42_0, u_42_1, u_42_4, u_42_7, u_42_8, u_42_9, u_42_10, u_42_11, u_42_12, u_42_15, u_42_18, u_42_19, u_42_20, u_42_23, u_42_24, u_42_25, u_42_26, u_42_29, u_42_30, u_42_31, u_42_34, u_42_37, u_42_38, u_42_41, u_42_44, u_42_47, u_42_48, u_42_51, u_42_54, u_42_57, u_42_58, u_42_59, u_42_62, u_42_63, u_42_66, u_42_69, u_42_70, u_42_73, u_42_76, u_42_77, u_42_78, u_42_79, u_42_80, u_42_83, u_42_86, u_42_87, u_42_90, u_42_93, u_42_94, u_42_95, u_42_96, u_42_97, u_42_100, gI0, gIs, gR0, gRs, gF0, gFs, st0, st_i, st_r, st_f, st_n, st_s, true_and, and_true, ↓ifLeT, ↓ifLeF, ↓ifLtT, ↓ifLtF, ↓ifEqT, ↓ifEqF, if_tt, if_ff, if_pos, if_neg, nLe, nLt, nEq, nInT, nCl, pk_mul, nI_add, Nat.reduceAdd, s_cat_nil, s_cat_i, s_cat_r, s_cat_f, s_cat_l, tl_s, tl_n, cat_i, cat_r, cat_f, nb0, nb1, nbI, if_bI, if_bIr, Nat.zero_le, Nat.reduceLeDiff]
        refine K2 hk s3 (frQ_t f3 (frQ_S (Or.inl rfl) w1)) (by rw [← hbest]; exact w3) ?_
        rw [w1.2.2.2.2.1]
        show eB (if b = b then _ else _) 1 = true
        rw [if_pos rfl]
        rfl
    cases hz : (zonesN (lostN n lo)).2 with
    | none =>
      have hz2 : zonesN (lostN n lo) = (301, none) := by
        rcases pick_from (n := lostN n lo) (ps := cutN (lostN n lo) (nF n 2) 0 (ordN n) (fun _ => [])) (g := (301, none)) with e | ⟨l, v, e1, e2, e3, e4⟩
        · exact e
        · have e3 : zonesN (lostN n lo) = _ := e3
          rw [e3] at hz; cases hz
      obtain ⟨z1, z2, z3⟩ := r3
      rw [hz] at z3
      have z3 : eI (SO s2 278) 2 = -1 := z3
      simp (disch := omega) only [u_42_0, u_42_1, u_42_4, u_42_7, u_42_8, u_42_9, u_42_10, u_42_11, u_42_12, u_42_15, u_42_18, u_42_19, u_42_20, u_42_23, u_42_24, u_42_25, u_42_26, u_42_29, u_42_30, u_42_31, u_42_34, u_42_37, u_42_38, u_42_41, u_42_44, u_42_47, u_42_48, u_42_51, u_42_57, u_42_58, u_42_59, u_42_62, u_42_63, u_42_66, u_42_69, u_42_70, u_42_73, u_42_76, u_42_77, u_42_78, u_42_79, u_42_80, u_42_83, u_42_86, u_42_87, u_42_90, u_42_93, u_42_94, u_42_95, u_42_96, u_42_97, u_42_100, gI0, gIs, gR0, gRs, gF0, gFs, st0, st_i, st_r, st_f, st_n, st_s, true_and, and_true, ↓ifLeT, ↓ifLeF, ↓ifLtT, ↓ifLtF, ↓ifEqT, ↓ifEqF, if_tt, if_ff, if_pos, if_neg, nLe, nLt, nEq, nInT, nCl, pk_mul, nI_add, Nat.reduceAdd, s_cat_nil, s_cat_i, s_cat_r, s_cat_f, s_cat_l, tl_s, tl_n, cat_i, cat_r, cat_f, nb0, nb1, nbI, if_bI, if_bIr, Nat.zero_le, Nat.reduceLeDiff, S_g0_0, S_g0_1, S_g0_2, S_g0_3, S_g0_4, S_g0_5, S_g0_6, S_g0_7, S_g0_8, S_g0_9, S_g0_10, S_g0_11, S_g0_12, S_g0_13, S_g0_14, S_g1_0, S_g1_1, S_g1_2, S_g1_3, S_g1_4, S_g72_0, S_g72_1, S_g72_2, S_g239_0, S_g239_1, S_g239_2, S_g239_3, S_g239_4, S_g239_5, S_g239_6, S_a23, S_n23, S_a282, S_n282, S_a300, S_n300, S_n73, S_n299, C_g2 cb278, z3]
      exact go (nI 300) 301 n300 (Nat.le_refl _) rfl
    | some v =>
      obtain ⟨m, p⟩ := v
      have hz2 : zonesN (lostN n lo) = (m, some (m, p)) := by
        rcases pick_from (n := lostN n lo) (ps := cutN (lostN n lo) (nF n 2) 0 (ordN n) (fun _ => [])) (g := (301, none)) with e | ⟨l, v, e1, e2, e3, e4⟩
        · have e : zonesN (lostN n lo) = _ := e
          rw [e] at hz; cases hz
        · have e3 : zonesN (lostN n lo) = _ := e3
          rw [e3] at hz
          cases hz
          exact e3
      obtain ⟨z1, z2, z3⟩ := r3
      rw [hz] at z3
      have z3 : eI (SO s2 278) 2 = nI m ∧ m ≤ 300 ∧ RP (eP (SO s2 278)) p := z3
      have z4 : ¬ nI m = -1 := oI1_neg z3.2.1
      simp (disch := omega) only [u_42_0, u_42_1, u_42_4, u_42_7, u_42_8, u_42_9, u_42_10, u_42_11, u_42_12, u_42_15, u_42_18, u_42_19, u_42_20, u_42_23, u_42_24, u_42_25, u_42_26, u_42_29, u_42_30, u_42_31, u_42_34, u_42_37, u_42_38, u_42_41, u_42_44, u_42_47, u_42_48, u_42_51, u_42_57, u_42_58, u_42_59, u_42_62, u_42_63, u_42_66, u_42_69, u_42_70, u_42_73, u_42_76, u_42_77, u_42_78, u_42_79, u_42_80, u_42_83, u_42_86, u_42_87, u_42_90, u_42_93, u_42_94, u_42_95, u_42_96, u_42_97, u_42_100, gI0, gIs, gR0, gRs, gF0, gFs, st0, st_i, st_r, st_f, st_n, st_s, true_and, and_true, ↓ifLeT, ↓ifLeF, ↓ifLtT, ↓ifLtF, ↓ifEqT, ↓ifEqF, if_tt, if_ff, if_pos, if_neg, nLe, nLt, nEq, nInT, nCl, pk_mul, nI_add, Nat.reduceAdd, s_cat_nil, s_cat_i, s_cat_r, s_cat_f, s_cat_l, tl_s, tl_n, cat_i, cat_r, cat_f, nb0, nb1, nbI, if_bI, if_bIr, Nat.zero_le, Nat.reduceLeDiff, S_g0_0, S_g0_1, S_g0_2, S_g0_3, S_g0_4, S_g0_5, S_g0_6, S_g0_7, S_g0_8, S_g0_9, S_g0_10, S_g0_11, S_g0_12, S_g0_13, S_g0_14, S_g1_0, S_g1_1, S_g1_2, S_g1_3, S_g1_4, S_g72_0, S_g72_1, S_g72_2, S_g239_0, S_g239_1, S_g239_2, S_g239_3, S_g239_4, S_g239_5, S_g239_6, S_a23, S_n23, S_a282, S_n282, S_a300, S_n300, S_n73, S_n299, C_g2 cb278, z3.1, z4, reduceIte]
      have hm := z3.2.1
      exact go (nI m) (m + 1) (by rw [pk_sub (by omega)]; rfl) (by omega) (best_from hn' h1 hz2)
end FND
