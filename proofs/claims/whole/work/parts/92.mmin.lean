/-! the reference: a minute -/
def SR (m : tM) (b : Nat) (n : tN) (s : tD) (c0 : Nat) : Prop := RR (kA m b) (jA n 7 s.1) ∧ (∀ i, i < nF n 2 → kA m 327 i = nI (if c0 ≤ i ∧ s.2 i = 3 then 0 else s.2 i)) ∧ ∀ i, i < nF n 2 → kV m i = (decide (s.2 i = 1) || decide (s.2 i = 2))
def frM (b : Nat) (m m' : tM) : Prop := (∀ k, kI m' k = kI m k) ∧ kB m' = kB m ∧ ∀ q, q ≠ b → q ≠ 327 → kA m' q = kA m q
theorem frM_r {b : Nat} {m : tM} : frM b m m := ⟨fun _ => rfl, rfl, fun _ _ _ => rfl⟩
theorem frM_t {b : Nat} {m m' m2 : tM} (h1 : frM b m m') (h2 : frM b m' m2) : frM b m m2 := ⟨fun k => (h2.1 k).trans (h1.1 k), h2.2.1.trans h1.2.1, fun q a c => (h2.2.2 q a c).trans (h1.2.2 q a c)⟩
theorem frM_b {b : Nat} {m : tM} {f : Nat → Int32} : frM b m (xA m b f) := ⟨fun _ => rfl, rfl, fun q a _ => if_neg a⟩
theorem frM_d {b : Nat} {m : tM} {f : Nat → Int32} : frM b m (xA m 327 f) := ⟨fun _ => rfl, rfl, fun q _ a => if_neg a⟩
theorem frM_v {b : Nat} {m : tM} {f : Nat → Bool} : frM b m (xV m f) := ⟨fun _ => rfl, rfl, fun _ _ _ => rfl⟩
theorem rb_327 {b : Nat} (hb : rb b) : b ≠ 327 ∧ b ≠ 319 := by rcases hb with e | e | e | e | e <;> omega
theorem MG_fr {b : Nat} {m m' : tM} {n : tN} (hb : rb b) (hg : MG m n) (hf : frM b m m') : MG m' n := by
  obtain ⟨g1, g2, g3, g4⟩ := hg
  have := rb_327 hb
  exact ⟨(hf.1 8).trans g1, (hf.1 9).trans g2, (hf.1 10).trans g3, fun c hc => by rw [hf.2.2 319 (by omega) (by decide)]; exact g4 c hc⟩
theorem wf_mid {n : tN} {s : tD} (hn : wfN n) (hj : jN n s) : wfN (jA n 7 s.1) := by
  obtain ⟨hF, ⟨hC1, hC2⟩, hT, hL⟩ := hn
  exact ⟨hF, ⟨fun c hc => ⟨hj.1 c hc, (hC1 c hc).2⟩, hj.2.1⟩, hT, hL⟩
theorem RR_bay {f : Nat → Int32} {n : tN} {g : Nat → Nat} {p x : Nat} (hn : wfN n) (hp : p < nF n 2) (hr : RR f (jA n 7 g)) : RR (upd f (2 + 12 * p + 0) (nI x)) (jA n 7 (set1 g p x)) := by
  have h4 := hn.1.1
  obtain ⟨r0, r1, rc, rt⟩ := hr
  refine ⟨(if_neg (by omega)).trans r0, (if_neg (by omega)).trans r1, fun c hc => ?_, fun t ht => ?_⟩
  · obtain ⟨a, b, d, e, k⟩ := rc c hc
    have hc' : c < nF n 2 := hc
    have l8 := wfL_len hn.1 hn.2.2.2 c
    refine ⟨?_, (if_neg (by omega)).trans b, (if_neg (by omega)).trans d, (if_neg (by omega)).trans e, fun q hq => (if_neg (by have : q < (nL n c).length := hq; omega)).trans (k q hq)⟩
    show (if 2 + 12 * c + 0 = 2 + 12 * p + 0 then nI x else f (2 + 12 * c + 0)) = nI (if c = p then x else g c)
    by_cases q : c = p
    · rw [if_pos (by omega), if_pos q]
    · rw [if_neg (by omega), if_neg q]
      exact a
  · obtain ⟨a, b, d, e, k, l, m⟩ := rt t ht
    exact ⟨(if_neg (by omega)).trans a, (if_neg (by omega)).trans b, (if_neg (by omega)).trans d, (if_neg (by omega)).trans e, (if_neg (by omega)).trans k, (if_neg (by omega)).trans l, (if_neg (by omega)).trans m⟩
theorem RR_fun {f : Nat → Int32} {n : tN} {g g' : Nat → Nat} (hr : RR f (jA n 7 g)) (h : ∀ c, c < nF n 2 → g' c = g c) : RR f (jA n 7 g') := by
  obtain ⟨r0, r1, rc, rt⟩ := hr
  refine ⟨r0, r1, fun c hc => ?_, rt⟩
  obtain ⟨a, b⟩ := rc c hc
  exact ⟨a.trans (congrArg nI (h c hc).symm), b⟩
section MM
variable {b d c0 : Nat} {m : tM} {h : sH} {i x y z : Int32} {Q : sQ} {n : tN} {k : sK} {s : tD}
theorem m_in0 {N : Nat} (h0 : 0 < N) (hN : N < 2 ^ 30) : MT (d + 1) 142 [.long x.toInt64, .long 0, .long (nI (N - 1)).toInt64] h Q ↔ Q (some (.int (iB (ixN x N).isSome))) h := m_inN h0 hN
theorem sub1 {N : Nat} (h : 1 ≤ N) : nI N - nI 1 = nI (N - 1) := pk_sub h
theorem ix_in {j N : Nat} (hj : j < N) (hN : N < 2 ^ 31) : (ixN (nI j) N).isSome = true := by rw [ix_nI hj hN]; rfl
theorem ix_no {j N : Nat} (hj : N ≤ j) (h2 : j < 2 ^ 31) : (ixN (nI j) N).isSome = false := by
  have : ixN (nI j) N = none := if_neg (fun q => nI_nlt hj h2 q.2)
  rw [this]; rfl
theorem ix_m1s {N : Nat} : (ixN (-1) N).isSome = false := by rw [ix_m1]; rfl
theorem still_m (hn : wfN n) (hs : SR m b n s c0) (hj : jN n s) {p : Nat} (hp : p < nF n 2) : nStill n s p = (decide (kA m 327 p ≠ nI 4) && (!nK n p && !kV m p)) := by
  have h2 := hs.2.1 p hp
  have hv := hs.2.2 p hp
  have l4 := jN_le hj hp
  rw [h2, hv]
  have e3 : s.2 p = 3 → nK n p = false := fun e => by
    have := hj.2.2.2 p hp (by omega) (by omega)
    rw [this.2] at e
    exact (deed0_3 e).1
  unfold nStill
  have key : ∀ v, v ≤ 4 → s.2 p = v → (decide (s.2 p = 3) || (decide (s.2 p = 0) && !nK n p)) = (decide (nI (if c0 ≤ p ∧ s.2 p = 3 then 0 else s.2 p) ≠ nI 4) && (!nK n p && !(decide (s.2 p = 1) || decide (s.2 p = 2)))) := by
    intro v hv e
    rw [e]
    match v, hv with
    | 0, _ => simp; cases nK n p <;> decide
    | 1, _ => simp
    | 2, _ => simp
    | 3, _ =>
      rw [e3 e]
      by_cases q : c0 ≤ p
      · simp [q]; decide
      · simp [q]; decide
    | 4, _ => simp
  exact key _ l4 rfl
theorem abs_up {a t : Nat} (h : t ≤ a) (ha : a < 2 ^ 20) : (if (0 : Int32) ≤ nI a - nI t then nI a - nI t else 0 - (nI a - nI t)) = nI (a - t) := by
  rw [abs_n (by omega) ha]
  unfold wayN
  congr 1
  omega
theorem abs_dn {a t : Nat} (h : a ≤ t) (ha : t < 2 ^ 20) : (if (0 : Int32) ≤ nI a - nI t then nI a - nI t else 0 - (nI a - nI t)) = nI (t - a) := by
  rw [abs_n ha (by omega)]
  unfold wayN
  congr 1
  omega
theorem m1_add {p : Nat} (hp : 1 ≤ p) : nI p + (-1) = nI (p - 1) := by
  have := pk_sub (a := p) (b := 1) hp
  rw [← this, Int32.sub_eq_add_neg]
  rfl
theorem m1_0 : nI 0 + (-1) = (-1 : Int32) := by decide
theorem go_up (hb : rb b) (hn : wfN n) (hg : MG m n) (hs : SR m b n s c0) (hj : jN n s) : ∀ k p Q, p + k + 1 = nF n 2 → nStill n s p = true → (MT (d + 3 + k) 184 [.ref 317, .ref b, .int (nI p), .int (nI 1)] (pM m h) Q ↔ Q (some (.int (iB (nUp n s k p).isSome))) (pM m h)) := by
  have h4 := hn.1.1
  have hB := hn.1.2.2.2.1
  have hB2 := hn.1.2.2.1
  have hg1 := hn.1.2.2.2.2.1
  have hg5 := hn.1.2.2.2.2.2
  obtain ⟨g0, g1, g2, -⟩ := hg
  have sB := sub1 (N := nF n 0) (by omega)
  have iB0 := fun x Q => m_in0 (d := d) (h := pM m h) (x := x) (Q := Q) (N := nF n 0) (by omega) (by omega)
  intro k
  induction k with
  | zero =>
    intro p Q hp hst
    have sC := sub1 (N := nF n 2) (by omega)
    have iC0 := fun x Q => m_in0 (d := d + 1) (h := pM m h) (x := x) (Q := Q) (N := nF n 2) (by omega) (by omega)
    have iB1 := fun x Q => m_in0 (d := d + 1) (h := pM m h) (x := x) (Q := Q) (N := nF n 0) (by omega) (by omega)
    have a1 : kA m b (2 + 12 * p + 0) = nI (s.1 p) := (hs.1.2.2.1 p (by show p < nF n 2; omega)).1
    have bp := hj.1 p (by omega)
    have k2 := ix_no (j := p + 1) (N := nF n 2) (by omega) (by omega)
    rw [MT_go (by decide) _ _ _ (Nat.le_of_ble_eq_true rfl), show s_entry 184 [.ref 317, .ref b, .int (nI p), .int (nI 1)] = [.ref 317, .ref b, .int (nI p), .int (nI 1), s_no, s_no] from rfl]
    rw [nUp, hst, Bool.true_and]
    by_cases q : s.1 p + 1 < nF n 0
    · have k1 := ix_in (j := s.1 p + 1) q (by omega)
      rw [decide_eq_true q, if_pos rfl]
      simp (disch := omega) only [u_184_0, u_184_1, u_184_2, u_184_3, u_184_6, u_184_7, u_184_8, u_184_9, u_184_11, u_184_12, u_184_13, u_184_14, u_184_16, u_184_18, u_184_19, u_184_20, u_184_21, u_184_24, u_184_25, u_184_26, u_184_27, u_184_30, u_184_33, u_184_34, u_184_35, u_184_37, u_184_38, u_184_39, u_184_40, u_184_43, u_184_44, u_184_45, u_184_46, u_184_49, u_184_52, u_184_53, u_184_55, u_184_56, u_184_59, u_184_60, u_184_62, u_184_63, u_184_66, u_184_67, u_184_70, u_184_73, u_184_74, u_184_75, u_184_76, u_184_79, u_184_81, u_184_82, u_184_83, u_184_86, u_184_87, u_184_89, u_184_90, u_184_93, u_184_94, u_184_97, u_184_98, u_184_101, u_184_103, u_184_104, u_184_107, u_184_108, u_184_109, u_184_111, u_184_112, u_184_115, u_184_118, u_184_119, u_184_122, u_184_123, gI0, gIs, gR0, gRs, gF0, gFs, st0, st_i, st_r, st_f, st_n, st_s, true_and, and_true, ↓ifLeT, ↓ifLeF, ↓ifLtT, ↓ifLtF, ↓ifEqT, ↓ifEqF, if_tt, if_ff, if_pos, if_neg, nLe, nLt, nEq, nInT, nCl, pk_mul, nI_add, Nat.reduceAdd, s_cat_nil, s_cat_i, s_cat_r, s_cat_f, s_cat_l, tl_s, tl_n, cat_i, cat_r, cat_f, nb0, nb1, nbI, if_bI, if_bIr, Nat.zero_le, Nat.reduceLeDiff, M_ob, M_g0, M_g1, M_g2, M_g3, M_g4, M_g5, M_g6, M_g7, M_g8, M_g9, M_g10, M_g11, M_g12, M_g13, M_g14, M_g15, M_g16, M_g17, M_g18, M_g19, M_g20, M_g21, M_g22, M_g23, M_g24, M_g25, M_g26, M_g27, M_g28, M_g29, M_g30, M_g31, M_g32, M_g33, M_g34, M_g35, M_g36, M_g37, M_g38, M_g39, M_g40, M_g41, m_cAt, M_r hb, a1, g0, g2, sB, sC, iB1, iC0, k1, k2, iBt, iBf, nI10, reduceIte]
      exact Iff.rfl
    · have k1 := ix_no (j := s.1 p + 1) (N := nF n 0) (by omega) (by omega)
      rw [decide_eq_false q, if_neg (by decide)]
      simp (disch := omega) only [u_184_0, u_184_1, u_184_2, u_184_3, u_184_6, u_184_7, u_184_8, u_184_9, u_184_11, u_184_12, u_184_13, u_184_14, u_184_16, u_184_18, u_184_19, u_184_20, u_184_21, u_184_24, u_184_25, u_184_26, u_184_27, u_184_30, u_184_33, u_184_34, u_184_35, u_184_37, u_184_38, u_184_39, u_184_40, u_184_43, u_184_44, u_184_45, u_184_46, u_184_49, u_184_52, u_184_53, u_184_55, u_184_56, u_184_59, u_184_60, u_184_62, u_184_63, u_184_66, u_184_67, u_184_70, u_184_73, u_184_74, u_184_75, u_184_76, u_184_79, u_184_81, u_184_82, u_184_83, u_184_86, u_184_87, u_184_89, u_184_90, u_184_93, u_184_94, u_184_97, u_184_98, u_184_101, u_184_103, u_184_104, u_184_107, u_184_108, u_184_109, u_184_111, u_184_112, u_184_115, u_184_118, u_184_119, u_184_122, u_184_123, gI0, gIs, gR0, gRs, gF0, gFs, st0, st_i, st_r, st_f, st_n, st_s, true_and, and_true, ↓ifLeT, ↓ifLeF, ↓ifLtT, ↓ifLtF, ↓ifEqT, ↓ifEqF, if_tt, if_ff, if_pos, if_neg, nLe, nLt, nEq, nInT, nCl, pk_mul, nI_add, Nat.reduceAdd, s_cat_nil, s_cat_i, s_cat_r, s_cat_f, s_cat_l, tl_s, tl_n, cat_i, cat_r, cat_f, nb0, nb1, nbI, if_bI, if_bIr, Nat.zero_le, Nat.reduceLeDiff, M_ob, M_g0, M_g1, M_g2, M_g3, M_g4, M_g5, M_g6, M_g7, M_g8, M_g9, M_g10, M_g11, M_g12, M_g13, M_g14, M_g15, M_g16, M_g17, M_g18, M_g19, M_g20, M_g21, M_g22, M_g23, M_g24, M_g25, M_g26, M_g27, M_g28, M_g29, M_g30, M_g31, M_g32, M_g33, M_g34, M_g35, M_g36, M_g37, M_g38, M_g39, M_g40, M_g41, m_cAt, M_r hb, a1, g0, sB, iB1, k1, iBf]
      exact Iff.rfl
  | succ k ih =>
    intro p Q hp hst
    have sC := sub1 (N := nF n 2) (by omega)
    have iC0 := fun x Q => m_in0 (d := d + 2 + k) (h := pM m h) (x := x) (Q := Q) (N := nF n 2) (by omega) (by omega)
    have iB1 := fun x Q => m_in0 (d := d + 2 + k) (h := pM m h) (x := x) (Q := Q) (N := nF n 0) (by omega) (by omega)
    have e3 : d + 2 + k + 1 = d + 3 + k := by omega
    rw [e3] at iC0 iB1
    have cA := fun c w Q => m_cAt (d := d + 2 + k) (h := pM m h) (c := c) (w := w) (Q := Q)
    rw [e3] at cA
    have a1 : kA m b (2 + 12 * p + 0) = nI (s.1 p) := (hs.1.2.2.1 p (by show p < nF n 2; omega)).1
    have a2 : kA m b (2 + 12 * (p + 1) + 0) = nI (s.1 (p + 1)) := (hs.1.2.2.1 (p + 1) (by show p + 1 < nF n 2; omega)).1
    have a3 : kA m b (2 + 12 * (p + 1) + 1) = iB (nK n (p + 1)) := (hs.1.2.2.1 (p + 1) (by show p + 1 < nF n 2; omega)).2.1
    have bp := hj.1 p (by omega)
    have bp1 := hj.1 (p + 1) (by omega)
    have bg := hj.2.1 p (by omega)
    have k2 := ix_in (j := p + 1) (N := nF n 2) (by omega) (by omega)
    have ab := abs_up (a := s.1 (p + 1)) (t := s.1 p + 1) (by omega) (by omega)
    have st := still_m hn hs hj (p := p + 1) (by omega)
    have i4 : vp_in (nI (p + 1)) 4 := (nIn (by omega)).mpr (by omega)
    show MT (d + 3 + k + 1) _ _ _ _ ↔ _
    rw [MT_go (by decide) _ _ _ (Nat.le_of_ble_eq_true rfl), show s_entry 184 [.ref 317, .ref b, .int (nI p), .int (nI 1)] = [.ref 317, .ref b, .int (nI p), .int (nI 1), s_no, s_no] from rfl]
    rw [nUp, hst, Bool.true_and]
    by_cases q : s.1 p + 1 < nF n 0
    · have k1 := ix_in (j := s.1 p + 1) q (by omega)
      rw [decide_eq_true q, if_pos rfl]
      by_cases q2 : s.1 p + 1 + nF n 1 ≤ s.1 (p + 1)
      · rw [if_pos q2]
        simp (disch := omega) only [u_184_0, u_184_1, u_184_2, u_184_3, u_184_6, u_184_7, u_184_8, u_184_9, u_184_11, u_184_12, u_184_13, u_184_14, u_184_16, u_184_18, u_184_19, u_184_20, u_184_21, u_184_24, u_184_25, u_184_26, u_184_27, u_184_30, u_184_33, u_184_34, u_184_35, u_184_37, u_184_38, u_184_39, u_184_40, u_184_43, u_184_44, u_184_45, u_184_46, u_184_49, u_184_52, u_184_53, u_184_55, u_184_56, u_184_59, u_184_60, u_184_62, u_184_63, u_184_66, u_184_67, u_184_70, u_184_73, u_184_74, u_184_75, u_184_76, u_184_79, u_184_81, u_184_82, u_184_83, u_184_86, u_184_87, u_184_89, u_184_90, u_184_93, u_184_94, u_184_97, u_184_98, u_184_101, u_184_103, u_184_104, u_184_107, u_184_108, u_184_109, u_184_111, u_184_112, u_184_115, u_184_118, u_184_119, u_184_122, u_184_123, gI0, gIs, gR0, gRs, gF0, gFs, st0, st_i, st_r, st_f, st_n, st_s, true_and, and_true, ↓ifLeT, ↓ifLeF, ↓ifLtT, ↓ifLtF, ↓ifEqT, ↓ifEqF, if_tt, if_ff, if_pos, if_neg, nLe, nLt, nEq, nInT, nCl, pk_mul, nI_add, Nat.reduceAdd, s_cat_nil, s_cat_i, s_cat_r, s_cat_f, s_cat_l, tl_s, tl_n, cat_i, cat_r, cat_f, nb0, nb1, nbI, if_bI, if_bIr, Nat.zero_le, Nat.reduceLeDiff, M_ob, M_g0, M_g1, M_g2, M_g3, M_g4, M_g5, M_g6, M_g7, M_g8, M_g9, M_g10, M_g11, M_g12, M_g13, M_g14, M_g15, M_g16, M_g17, M_g18, M_g19, M_g20, M_g21, M_g22, M_g23, M_g24, M_g25, M_g26, M_g27, M_g28, M_g29, M_g30, M_g31, M_g32, M_g33, M_g34, M_g35, M_g36, M_g37, M_g38, M_g39, M_g40, M_g41, cA, M_r hb, a1, a2, g0, g1, g2, sB, sC, iB1, iC0, k1, k2, iBt, nI10, reduceIte, ab]
        exact Iff.rfl
      · rw [if_neg q2]
        have ih := fun Q => ih (p + 1) Q (by omega)
        cases hst2 : nStill n s (p + 1) with
        | false =>
          have nn : nUp n s k (p + 1) = none := by
            cases k with
            | zero => rw [nUp, hst2, Bool.false_and, if_neg (by decide)]
            | succ k => rw [nUp, hst2, Bool.false_and, if_neg (by decide)]
          rw [nn]
          rw [hst2] at st
          by_cases w1 : kA m 327 (p + 1) = nI 4
          · simp (disch := omega) only [u_184_0, u_184_1, u_184_2, u_184_3, u_184_6, u_184_7, u_184_8, u_184_9, u_184_11, u_184_12, u_184_13, u_184_14, u_184_16, u_184_18, u_184_19, u_184_20, u_184_21, u_184_24, u_184_25, u_184_26, u_184_27, u_184_30, u_184_33, u_184_34, u_184_35, u_184_37, u_184_38, u_184_39, u_184_40, u_184_43, u_184_44, u_184_45, u_184_46, u_184_49, u_184_52, u_184_53, u_184_55, u_184_56, u_184_59, u_184_60, u_184_62, u_184_63, u_184_66, u_184_67, u_184_70, u_184_73, u_184_74, u_184_75, u_184_76, u_184_79, u_184_81, u_184_82, u_184_83, u_184_86, u_184_87, u_184_89, u_184_90, u_184_93, u_184_94, u_184_97, u_184_98, u_184_101, u_184_103, u_184_104, u_184_107, u_184_108, u_184_109, u_184_111, u_184_112, u_184_115, u_184_118, u_184_119, u_184_122, u_184_123, gI0, gIs, gR0, gRs, gF0, gFs, st0, st_i, st_r, st_f, st_n, st_s, true_and, and_true, ↓ifLeT, ↓ifLeF, ↓ifLtT, ↓ifLtF, ↓ifEqT, ↓ifEqF, if_tt, if_ff, if_pos, if_neg, nLe, nLt, nEq, nInT, nCl, pk_mul, nI_add, Nat.reduceAdd, s_cat_nil, s_cat_i, s_cat_r, s_cat_f, s_cat_l, tl_s, tl_n, cat_i, cat_r, cat_f, nb0, nb1, nbI, if_bI, if_bIr, Nat.zero_le, Nat.reduceLeDiff, M_ob, M_g0, M_g1, M_g2, M_g3, M_g4, M_g5, M_g6, M_g7, M_g8, M_g9, M_g10, M_g11, M_g12, M_g13, M_g14, M_g15, M_g16, M_g17, M_g18, M_g19, M_g20, M_g21, M_g22, M_g23, M_g24, M_g25, M_g26, M_g27, M_g28, M_g29, M_g30, M_g31, M_g32, M_g33, M_g34, M_g35, M_g36, M_g37, M_g38, M_g39, M_g40, M_g41, cA, M_r hb, M_a327, a1, a2, g0, g1, g2, sB, sC, iB1, iC0, k1, k2, iBt, nI10, reduceIte, ab, i4, w1]
            exact Iff.rfl
          · rw [decide_eq_true w1, Bool.true_and] at st
            cases w2 : nK n (p + 1) with
            | true =>
              rw [w2] at a3
              simp (disch := omega) only [u_184_0, u_184_1, u_184_2, u_184_3, u_184_6, u_184_7, u_184_8, u_184_9, u_184_11, u_184_12, u_184_13, u_184_14, u_184_16, u_184_18, u_184_19, u_184_20, u_184_21, u_184_24, u_184_25, u_184_26, u_184_27, u_184_30, u_184_33, u_184_34, u_184_35, u_184_37, u_184_38, u_184_39, u_184_40, u_184_43, u_184_44, u_184_45, u_184_46, u_184_49, u_184_52, u_184_53, u_184_55, u_184_56, u_184_59, u_184_60, u_184_62, u_184_63, u_184_66, u_184_67, u_184_70, u_184_73, u_184_74, u_184_75, u_184_76, u_184_79, u_184_81, u_184_82, u_184_83, u_184_86, u_184_87, u_184_89, u_184_90, u_184_93, u_184_94, u_184_97, u_184_98, u_184_101, u_184_103, u_184_104, u_184_107, u_184_108, u_184_109, u_184_111, u_184_112, u_184_115, u_184_118, u_184_119, u_184_122, u_184_123, gI0, gIs, gR0, gRs, gF0, gFs, st0, st_i, st_r, st_f, st_n, st_s, true_and, and_true, ↓ifLeT, ↓ifLeF, ↓ifLtT, ↓ifLtF, ↓ifEqT, ↓ifEqF, if_tt, if_ff, if_pos, if_neg, nLe, nLt, nEq, nInT, nCl, pk_mul, nI_add, Nat.reduceAdd, s_cat_nil, s_cat_i, s_cat_r, s_cat_f, s_cat_l, tl_s, tl_n, cat_i, cat_r, cat_f, nb0, nb1, nbI, if_bI, if_bIr, Nat.zero_le, Nat.reduceLeDiff, M_ob, M_g0, M_g1, M_g2, M_g3, M_g4, M_g5, M_g6, M_g7, M_g8, M_g9, M_g10, M_g11, M_g12, M_g13, M_g14, M_g15, M_g16, M_g17, M_g18, M_g19, M_g20, M_g21, M_g22, M_g23, M_g24, M_g25, M_g26, M_g27, M_g28, M_g29, M_g30, M_g31, M_g32, M_g33, M_g34, M_g35, M_g36, M_g37, M_g38, M_g39, M_g40, M_g41, cA, M_r hb, M_a327, a1, a2, a3, g0, g1, g2, sB, sC, iB1, iC0, k1, k2, iBt, nI10, reduceIte, ab, i4, w1]
              exact Iff.rfl
            | false =>
              rw [w2] at a3 st
              cases w3 : kV m (p + 1) with
              | false => rw [w3] at st; cases st
              | true =>
                simp (disch := omega) only [u_184_0, u_184_1, u_184_2, u_184_3, u_184_6, u_184_7, u_184_8, u_184_9, u_184_11, u_184_12, u_184_13, u_184_14, u_184_16, u_184_18, u_184_19, u_184_20, u_184_21, u_184_24, u_184_25, u_184_26, u_184_27, u_184_30, u_184_33, u_184_34, u_184_35, u_184_37, u_184_38, u_184_39, u_184_40, u_184_43, u_184_44, u_184_45, u_184_46, u_184_49, u_184_52, u_184_53, u_184_55, u_184_56, u_184_59, u_184_60, u_184_62, u_184_63, u_184_66, u_184_67, u_184_70, u_184_73, u_184_74, u_184_75, u_184_76, u_184_79, u_184_81, u_184_82, u_184_83, u_184_86, u_184_87, u_184_89, u_184_90, u_184_93, u_184_94, u_184_97, u_184_98, u_184_101, u_184_103, u_184_104, u_184_107, u_184_108, u_184_109, u_184_111, u_184_112, u_184_115, u_184_118, u_184_119, u_184_122, u_184_123, gI0, gIs, gR0, gRs, gF0, gFs, st0, st_i, st_r, st_f, st_n, st_s, true_and, and_true, ↓ifLeT, ↓ifLeF, ↓ifLtT, ↓ifLtF, ↓ifEqT, ↓ifEqF, if_tt, if_ff, if_pos, if_neg, nLe, nLt, nEq, nInT, nCl, pk_mul, nI_add, Nat.reduceAdd, s_cat_nil, s_cat_i, s_cat_r, s_cat_f, s_cat_l, tl_s, tl_n, cat_i, cat_r, cat_f, nb0, nb1, nbI, if_bI, if_bIr, Nat.zero_le, Nat.reduceLeDiff, M_ob, M_g0, M_g1, M_g2, M_g3, M_g4, M_g5, M_g6, M_g7, M_g8, M_g9, M_g10, M_g11, M_g12, M_g13, M_g14, M_g15, M_g16, M_g17, M_g18, M_g19, M_g20, M_g21, M_g22, M_g23, M_g24, M_g25, M_g26, M_g27, M_g28, M_g29, M_g30, M_g31, M_g32, M_g33, M_g34, M_g35, M_g36, M_g37, M_g38, M_g39, M_g40, M_g41, cA, M_r hb, M_a327, M_a328, a1, a2, a3, g0, g1, g2, sB, sC, iB1, iC0, k1, k2, iBt, iBf, nI10, reduceIte, ab, i4, w1, w3]
                exact Iff.rfl
        | true =>
          have ih := fun Q => ih Q hst2
          rw [hst2] at st
          have st := st.symm
          rw [Bool.and_eq_true, Bool.and_eq_true, decide_eq_true_eq, Bool.not_eq_true', Bool.not_eq_true'] at st
          obtain ⟨w1, w2, w3⟩ := st
          rw [w2] at a3
          cases hu : nUp n s k (p + 1) with
          | none =>
            rw [hu] at ih
            simp (disch := omega) only [u_184_0, u_184_1, u_184_2, u_184_3, u_184_6, u_184_7, u_184_8, u_184_9, u_184_11, u_184_12, u_184_13, u_184_14, u_184_16, u_184_18, u_184_19, u_184_20, u_184_21, u_184_24, u_184_25, u_184_26, u_184_27, u_184_30, u_184_33, u_184_34, u_184_35, u_184_37, u_184_38, u_184_39, u_184_40, u_184_43, u_184_44, u_184_45, u_184_46, u_184_49, u_184_52, u_184_53, u_184_55, u_184_56, u_184_59, u_184_60, u_184_62, u_184_63, u_184_66, u_184_67, u_184_70, u_184_73, u_184_74, u_184_75, u_184_76, u_184_79, u_184_81, u_184_82, u_184_83, u_184_86, u_184_87, u_184_89, u_184_90, u_184_93, u_184_94, u_184_97, u_184_98, u_184_101, u_184_103, u_184_104, u_184_107, u_184_108, u_184_109, u_184_111, u_184_112, u_184_115, u_184_118, u_184_119, u_184_122, u_184_123, gI0, gIs, gR0, gRs, gF0, gFs, st0, st_i, st_r, st_f, st_n, st_s, true_and, and_true, ↓ifLeT, ↓ifLeF, ↓ifLtT, ↓ifLtF, ↓ifEqT, ↓ifEqF, if_tt, if_ff, if_pos, if_neg, nLe, nLt, nEq, nInT, nCl, pk_mul, nI_add, Nat.reduceAdd, s_cat_nil, s_cat_i, s_cat_r, s_cat_f, s_cat_l, tl_s, tl_n, cat_i, cat_r, cat_f, nb0, nb1, nbI, if_bI, if_bIr, Nat.zero_le, Nat.reduceLeDiff, M_ob, M_g0, M_g1, M_g2, M_g3, M_g4, M_g5, M_g6, M_g7, M_g8, M_g9, M_g10, M_g11, M_g12, M_g13, M_g14, M_g15, M_g16, M_g17, M_g18, M_g19, M_g20, M_g21, M_g22, M_g23, M_g24, M_g25, M_g26, M_g27, M_g28, M_g29, M_g30, M_g31, M_g32, M_g33, M_g34, M_g35, M_g36, M_g37, M_g38, M_g39, M_g40, M_g41, cA, M_r hb, M_a327, M_a328, a1, a2, a3, g0, g1, g2, sB, sC, iB1, iC0, k1, k2, iBt, iBf, nI10, reduceIte, ab, i4, w1, w3, ih, Option.isSome_none, Option.isSome_some]
            exact Iff.rfl
          | some u =>
            rw [hu] at ih
            simp (disch := omega) only [u_184_0, u_184_1, u_184_2, u_184_3, u_184_6, u_184_7, u_184_8, u_184_9, u_184_11, u_184_12, u_184_13, u_184_14, u_184_16, u_184_18, u_184_19, u_184_20, u_184_21, u_184_24, u_184_25, u_184_26, u_184_27, u_184_30, u_184_33, u_184_34, u_184_35, u_184_37, u_184_38, u_184_39, u_184_40, u_184_43, u_184_44, u_184_45, u_184_46, u_184_49, u_184_52, u_184_53, u_184_55, u_184_56, u_184_59, u_184_60, u_184_62, u_184_63, u_184_66, u_184_67, u_184_70, u_184_73, u_184_74, u_184_75, u_184_76, u_184_79, u_184_81, u_184_82, u_184_83, u_184_86, u_184_87, u_184_89, u_184_90, u_184_93, u_184_94, u_184_97, u_184_98, u_184_101, u_184_103, u_184_104, u_184_107, u_184_108, u_184_109, u_184_111, u_184_112, u_184_115, u_184_118, u_184_119, u_184_122, u_184_123, gI0, gIs, gR0, gRs, gF0, gFs, st0, st_i, st_r, st_f, st_n, st_s, true_and, and_true, ↓ifLeT, ↓ifLeF, ↓ifLtT, ↓ifLtF, ↓ifEqT, ↓ifEqF, if_tt, if_ff, if_pos, if_neg, nLe, nLt, nEq, nInT, nCl, pk_mul, nI_add, Nat.reduceAdd, s_cat_nil, s_cat_i, s_cat_r, s_cat_f, s_cat_l, tl_s, tl_n, cat_i, cat_r, cat_f, nb0, nb1, nbI, if_bI, if_bIr, Nat.zero_le, Nat.reduceLeDiff, M_ob, M_g0, M_g1, M_g2, M_g3, M_g4, M_g5, M_g6, M_g7, M_g8, M_g9, M_g10, M_g11, M_g12, M_g13, M_g14, M_g15, M_g16, M_g17, M_g18, M_g19, M_g20, M_g21, M_g22, M_g23, M_g24, M_g25, M_g26, M_g27, M_g28, M_g29, M_g30, M_g31, M_g32, M_g33, M_g34, M_g35, M_g36, M_g37, M_g38, M_g39, M_g40, M_g41, cA, M_r hb, M_a327, M_a328, a1, a2, a3, g0, g1, g2, sB, sC, iB1, iC0, k1, k2, iBt, iBf, nI10, reduceIte, ab, i4, w1, w3, ih, Option.isSome_none, Option.isSome_some]
            exact Iff.rfl
    · have k1 := ix_no (j := s.1 p + 1) (N := nF n 0) (by omega) (by omega)
      rw [decide_eq_false q, if_neg (by decide)]
      simp (disch := omega) only [u_184_0, u_184_1, u_184_2, u_184_3, u_184_6, u_184_7, u_184_8, u_184_9, u_184_11, u_184_12, u_184_13, u_184_14, u_184_16, u_184_18, u_184_19, u_184_20, u_184_21, u_184_24, u_184_25, u_184_26, u_184_27, u_184_30, u_184_33, u_184_34, u_184_35, u_184_37, u_184_38, u_184_39, u_184_40, u_184_43, u_184_44, u_184_45, u_184_46, u_184_49, u_184_52, u_184_53, u_184_55, u_184_56, u_184_59, u_184_60, u_184_62, u_184_63, u_184_66, u_184_67, u_184_70, u_184_73, u_184_74, u_184_75, u_184_76, u_184_79, u_184_81, u_184_82, u_184_83, u_184_86, u_184_87, u_184_89, u_184_90, u_184_93, u_184_94, u_184_97, u_184_98, u_184_101, u_184_103, u_184_104, u_184_107, u_184_108, u_184_109, u_184_111, u_184_112, u_184_115, u_184_118, u_184_119, u_184_122, u_184_123, gI0, gIs, gR0, gRs, gF0, gFs, st0, st_i, st_r, st_f, st_n, st_s, true_and, and_true, ↓ifLeT, ↓ifLeF, ↓ifLtT, ↓ifLtF, ↓ifEqT, ↓ifEqF, if_tt, if_ff, if_pos, if_neg, nLe, nLt, nEq, nInT, nCl, pk_mul, nI_add, Nat.reduceAdd, s_cat_nil, s_cat_i, s_cat_r, s_cat_f, s_cat_l, tl_s, tl_n, cat_i, cat_r, cat_f, nb0, nb1, nbI, if_bI, if_bIr, Nat.zero_le, Nat.reduceLeDiff, M_ob, M_g0, M_g1, M_g2, M_g3, M_g4, M_g5, M_g6, M_g7, M_g8, M_g9, M_g10, M_g11, M_g12, M_g13, M_g14, M_g15, M_g16, M_g17, M_g18, M_g19, M_g20, M_g21, M_g22, M_g23, M_g24, M_g25, M_g26, M_g27, M_g28, M_g29, M_g30, M_g31, M_g32, M_g33, M_g34, M_g35, M_g36, M_g37, M_g38, M_g39, M_g40, M_g41, cA, M_r hb, a1, g0, sB, iB1, k1, iBf]
      exact Iff.rfl
theorem go_dn (hb : rb b) (hn : wfN n) (hg : MG m n) (hs : SR m b n s c0) (hj : jN n s) : ∀ p Q, p < nF n 2 → nStill n s p = true → (MT (d + 3 + p) 184 [.ref 317, .ref b, .int (nI p), .int (-1)] (pM m h) Q ↔ Q (some (.int (iB (nDn n s p).isSome))) (pM m h)) := by
  have h4 := hn.1.1
  have hB := hn.1.2.2.2.1
  have hB2 := hn.1.2.2.1
  have hg1 := hn.1.2.2.2.2.1
  have hg5 := hn.1.2.2.2.2.2
  obtain ⟨g0, g1, g2, -⟩ := hg
  have sB := sub1 (N := nF n 0) (by omega)
  intro p
  induction p with
  | zero =>
    intro Q hp hst
    have sC := sub1 (N := nF n 2) (by omega)
    have iC0 := fun x Q => m_in0 (d := d + 1) (h := pM m h) (x := x) (Q := Q) (N := nF n 2) (by omega) (by omega)
    have iB1 := fun x Q => m_in0 (d := d + 1) (h := pM m h) (x := x) (Q := Q) (N := nF n 0) (by omega) (by omega)
    have a1 : kA m b (2 + 12 * 0 + 0) = nI (s.1 0) := (hs.1.2.2.1 0 hp).1
    have bp := hj.1 0 (by omega)
    rw [MT_go (by decide) _ _ _ (Nat.le_of_ble_eq_true rfl), show s_entry 184 [.ref 317, .ref b, .int (nI 0), .int (-1)] = [.ref 317, .ref b, .int (nI 0), .int (-1), s_no, s_no] from rfl]
    rw [nDn, hst, Bool.true_and]
    by_cases q : 0 < s.1 0
    · have k1 := ix_in (j := s.1 0 - 1) (N := nF n 0) (by omega) (by omega)
      have e1 := m1_add (p := s.1 0) (by omega)
      rw [decide_eq_true q, if_pos rfl]
      simp (disch := omega) only [u_184_0, u_184_1, u_184_2, u_184_3, u_184_6, u_184_7, u_184_8, u_184_9, u_184_11, u_184_12, u_184_13, u_184_14, u_184_16, u_184_18, u_184_19, u_184_20, u_184_21, u_184_24, u_184_25, u_184_26, u_184_27, u_184_30, u_184_33, u_184_34, u_184_35, u_184_37, u_184_38, u_184_39, u_184_40, u_184_43, u_184_44, u_184_45, u_184_46, u_184_49, u_184_52, u_184_53, u_184_55, u_184_56, u_184_59, u_184_60, u_184_62, u_184_63, u_184_66, u_184_67, u_184_70, u_184_73, u_184_74, u_184_75, u_184_76, u_184_79, u_184_81, u_184_82, u_184_83, u_184_86, u_184_87, u_184_89, u_184_90, u_184_93, u_184_94, u_184_97, u_184_98, u_184_101, u_184_103, u_184_104, u_184_107, u_184_108, u_184_109, u_184_111, u_184_112, u_184_115, u_184_118, u_184_119, u_184_122, u_184_123, gI0, gIs, gR0, gRs, gF0, gFs, st0, st_i, st_r, st_f, st_n, st_s, true_and, and_true, ↓ifLeT, ↓ifLeF, ↓ifLtT, ↓ifLtF, ↓ifEqT, ↓ifEqF, if_tt, if_ff, if_pos, if_neg, nLe, nLt, nEq, nInT, nCl, pk_mul, nI_add, Nat.reduceAdd, s_cat_nil, s_cat_i, s_cat_r, s_cat_f, s_cat_l, tl_s, tl_n, cat_i, cat_r, cat_f, nb0, nb1, nbI, if_bI, if_bIr, Nat.zero_le, Nat.reduceLeDiff, M_ob, M_g0, M_g1, M_g2, M_g3, M_g4, M_g5, M_g6, M_g7, M_g8, M_g9, M_g10, M_g11, M_g12, M_g13, M_g14, M_g15, M_g16, M_g17, M_g18, M_g19, M_g20, M_g21, M_g22, M_g23, M_g24, M_g25, M_g26, M_g27, M_g28, M_g29, M_g30, M_g31, M_g32, M_g33, M_g34, M_g35, M_g36, M_g37, M_g38, M_g39, M_g40, M_g41, m_cAt, M_r hb, a1, e1, m1_0, g0, g2, sB, sC, iB1, iC0, k1, ix_m1s, iBt, iBf, nI10, reduceIte]
      exact Iff.rfl
    · have e0 : s.1 0 = 0 := by omega
      rw [decide_eq_false q, if_neg (by decide)]
      rw [e0] at a1
      simp (disch := omega) only [u_184_0, u_184_1, u_184_2, u_184_3, u_184_6, u_184_7, u_184_8, u_184_9, u_184_11, u_184_12, u_184_13, u_184_14, u_184_16, u_184_18, u_184_19, u_184_20, u_184_21, u_184_24, u_184_25, u_184_26, u_184_27, u_184_30, u_184_33, u_184_34, u_184_35, u_184_37, u_184_38, u_184_39, u_184_40, u_184_43, u_184_44, u_184_45, u_184_46, u_184_49, u_184_52, u_184_53, u_184_55, u_184_56, u_184_59, u_184_60, u_184_62, u_184_63, u_184_66, u_184_67, u_184_70, u_184_73, u_184_74, u_184_75, u_184_76, u_184_79, u_184_81, u_184_82, u_184_83, u_184_86, u_184_87, u_184_89, u_184_90, u_184_93, u_184_94, u_184_97, u_184_98, u_184_101, u_184_103, u_184_104, u_184_107, u_184_108, u_184_109, u_184_111, u_184_112, u_184_115, u_184_118, u_184_119, u_184_122, u_184_123, gI0, gIs, gR0, gRs, gF0, gFs, st0, st_i, st_r, st_f, st_n, st_s, true_and, and_true, ↓ifLeT, ↓ifLeF, ↓ifLtT, ↓ifLtF, ↓ifEqT, ↓ifEqF, if_tt, if_ff, if_pos, if_neg, nLe, nLt, nEq, nInT, nCl, pk_mul, nI_add, Nat.reduceAdd, s_cat_nil, s_cat_i, s_cat_r, s_cat_f, s_cat_l, tl_s, tl_n, cat_i, cat_r, cat_f, nb0, nb1, nbI, if_bI, if_bIr, Nat.zero_le, Nat.reduceLeDiff, M_ob, M_g0, M_g1, M_g2, M_g3, M_g4, M_g5, M_g6, M_g7, M_g8, M_g9, M_g10, M_g11, M_g12, M_g13, M_g14, M_g15, M_g16, M_g17, M_g18, M_g19, M_g20, M_g21, M_g22, M_g23, M_g24, M_g25, M_g26, M_g27, M_g28, M_g29, M_g30, M_g31, M_g32, M_g33, M_g34, M_g35, M_g36, M_g37, M_g38, M_g39, M_g40, M_g41, m_cAt, M_r hb, a1, m1_0, g0, sB, iB1, ix_m1s, iBf]
      exact Iff.rfl
  | succ p ih =>
    intro Q hp hst
    have sC := sub1 (N := nF n 2) (by omega)
    have iC0 := fun x Q => m_in0 (d := d + 2 + p) (h := pM m h) (x := x) (Q := Q) (N := nF n 2) (by omega) (by omega)
    have iB1 := fun x Q => m_in0 (d := d + 2 + p) (h := pM m h) (x := x) (Q := Q) (N := nF n 0) (by omega) (by omega)
    have e3 : d + 2 + p + 1 = d + 3 + p := by omega
    rw [e3] at iC0 iB1
    have cA := fun c w Q => m_cAt (d := d + 2 + p) (h := pM m h) (c := c) (w := w) (Q := Q)
    rw [e3] at cA
    have a1 : kA m b (2 + 12 * (p + 1) + 0) = nI (s.1 (p + 1)) := (hs.1.2.2.1 (p + 1) hp).1
    have a2 : kA m b (2 + 12 * p + 0) = nI (s.1 p) := (hs.1.2.2.1 p (by show p < nF n 2; omega)).1
    have a3 : kA m b (2 + 12 * p + 1) = iB (nK n p) := (hs.1.2.2.1 p (by show p < nF n 2; omega)).2.1
    have bp := hj.1 (p + 1) (by omega)
    have bp1 := hj.1 p (by omega)
    have bg := hj.2.1 p (by omega)
    have k2 := ix_in (j := p) (N := nF n 2) (by omega) (by omega)
    have ab := abs_dn (a := s.1 p) (t := s.1 (p + 1) - 1) (by omega) (by omega)
    have st := still_m hn hs hj (p := p) (by omega)
    have i4 : vp_in (nI p) 4 := (nIn (by omega)).mpr (by omega)
    have ep : nI (p + 1) + (-1) = nI p := m1_add (p := p + 1) (by omega)
    have e1 := m1_add (p := s.1 (p + 1)) (by omega)
    have hpos : 0 < s.1 (p + 1) := by omega
    have k1 := ix_in (j := s.1 (p + 1) - 1) (N := nF n 0) (by omega) (by omega)
    show MT (d + 3 + p + 1) _ _ _ _ ↔ _
    rw [MT_go (by decide) _ _ _ (Nat.le_of_ble_eq_true rfl), show s_entry 184 [.ref 317, .ref b, .int (nI (p + 1)), .int (-1)] = [.ref 317, .ref b, .int (nI (p + 1)), .int (-1), s_no, s_no] from rfl]
    rw [nDn, hst, Bool.true_and, decide_eq_true hpos, if_pos rfl]
    by_cases q2 : s.1 p + nF n 1 + 1 ≤ s.1 (p + 1)
    · rw [if_pos q2]
      simp (disch := omega) only [u_184_0, u_184_1, u_184_2, u_184_3, u_184_6, u_184_7, u_184_8, u_184_9, u_184_11, u_184_12, u_184_13, u_184_14, u_184_16, u_184_18, u_184_19, u_184_20, u_184_21, u_184_24, u_184_25, u_184_26, u_184_27, u_184_30, u_184_33, u_184_34, u_184_35, u_184_37, u_184_38, u_184_39, u_184_40, u_184_43, u_184_44, u_184_45, u_184_46, u_184_49, u_184_52, u_184_53, u_184_55, u_184_56, u_184_59, u_184_60, u_184_62, u_184_63, u_184_66, u_184_67, u_184_70, u_184_73, u_184_74, u_184_75, u_184_76, u_184_79, u_184_81, u_184_82, u_184_83, u_184_86, u_184_87, u_184_89, u_184_90, u_184_93, u_184_94, u_184_97, u_184_98, u_184_101, u_184_103, u_184_104, u_184_107, u_184_108, u_184_109, u_184_111, u_184_112, u_184_115, u_184_118, u_184_119, u_184_122, u_184_123, gI0, gIs, gR0, gRs, gF0, gFs, st0, st_i, st_r, st_f, st_n, st_s, true_and, and_true, ↓ifLeT, ↓ifLeF, ↓ifLtT, ↓ifLtF, ↓ifEqT, ↓ifEqF, if_tt, if_ff, if_pos, if_neg, nLe, nLt, nEq, nInT, nCl, pk_mul, nI_add, Nat.reduceAdd, s_cat_nil, s_cat_i, s_cat_r, s_cat_f, s_cat_l, tl_s, tl_n, cat_i, cat_r, cat_f, nb0, nb1, nbI, if_bI, if_bIr, Nat.zero_le, Nat.reduceLeDiff, M_ob, M_g0, M_g1, M_g2, M_g3, M_g4, M_g5, M_g6, M_g7, M_g8, M_g9, M_g10, M_g11, M_g12, M_g13, M_g14, M_g15, M_g16, M_g17, M_g18, M_g19, M_g20, M_g21, M_g22, M_g23, M_g24, M_g25, M_g26, M_g27, M_g28, M_g29, M_g30, M_g31, M_g32, M_g33, M_g34, M_g35, M_g36, M_g37, M_g38, M_g39, M_g40, M_g41, cA, M_r hb, a1, a2, e1, ep, g0, g1, g2, sB, sC, iB1, iC0, k1, k2, iBt, nI10, reduceIte, ab]
      exact Iff.rfl
    · rw [if_neg q2]
      have ih := fun Q => ih Q (by omega)
      cases hst2 : nStill n s p with
      | false =>
        have nn : nDn n s p = none := by
          cases p with
          | zero => rw [nDn, hst2, Bool.false_and, if_neg (by decide)]
          | succ p => rw [nDn, hst2, Bool.false_and, if_neg (by decide)]
        rw [nn]
        rw [hst2] at st
        by_cases w1 : kA m 327 p = nI 4
        · simp (disch := omega) only [u_184_0, u_184_1, u_184_2, u_184_3, u_184_6, u_184_7, u_184_8, u_184_9, u_184_11, u_184_12, u_184_13, u_184_14, u_184_16, u_184_18, u_184_19, u_184_20, u_184_21, u_184_24, u_184_25, u_184_26, u_184_27, u_184_30, u_184_33, u_184_34, u_184_35, u_184_37, u_184_38, u_184_39, u_184_40, u_184_43, u_184_44, u_184_45, u_184_46, u_184_49, u_184_52, u_184_53, u_184_55, u_184_56, u_184_59, u_184_60, u_184_62, u_184_63, u_184_66, u_184_67, u_184_70, u_184_73, u_184_74, u_184_75, u_184_76, u_184_79, u_184_81, u_184_82, u_184_83, u_184_86, u_184_87, u_184_89, u_184_90, u_184_93, u_184_94, u_184_97, u_184_98, u_184_101, u_184_103, u_184_104, u_184_107, u_184_108, u_184_109, u_184_111, u_184_112, u_184_115, u_184_118, u_184_119, u_184_122, u_184_123, gI0, gIs, gR0, gRs, gF0, gFs, st0, st_i, st_r, st_f, st_n, st_s, true_and, and_true, ↓ifLeT, ↓ifLeF, ↓ifLtT, ↓ifLtF, ↓ifEqT, ↓ifEqF, if_tt, if_ff, if_pos, if_neg, nLe, nLt, nEq, nInT, nCl, pk_mul, nI_add, Nat.reduceAdd, s_cat_nil, s_cat_i, s_cat_r, s_cat_f, s_cat_l, tl_s, tl_n, cat_i, cat_r, cat_f, nb0, nb1, nbI, if_bI, if_bIr, Nat.zero_le, Nat.reduceLeDiff, M_ob, M_g0, M_g1, M_g2, M_g3, M_g4, M_g5, M_g6, M_g7, M_g8, M_g9, M_g10, M_g11, M_g12, M_g13, M_g14, M_g15, M_g16, M_g17, M_g18, M_g19, M_g20, M_g21, M_g22, M_g23, M_g24, M_g25, M_g26, M_g27, M_g28, M_g29, M_g30, M_g31, M_g32, M_g33, M_g34, M_g35, M_g36, M_g37, M_g38, M_g39, M_g40, M_g41, cA, M_r hb, M_a327, a1, a2, e1, ep, g0, g1, g2, sB, sC, iB1, iC0, k1, k2, iBt, nI10, reduceIte, ab, i4, w1]
          exact Iff.rfl
        · rw [decide_eq_true w1, Bool.true_and] at st
          cases w2 : nK n p with
          | true =>
            rw [w2] at a3
            simp (disch := omega) only [u_184_0, u_184_1, u_184_2, u_184_3, u_184_6, u_184_7, u_184_8, u_184_9, u_184_11, u_184_12, u_184_13, u_184_14, u_184_16, u_184_18, u_184_19, u_184_20, u_184_21, u_184_24, u_184_25, u_184_26, u_184_27, u_184_30, u_184_33, u_184_34, u_184_35, u_184_37, u_184_38, u_184_39, u_184_40, u_184_43, u_184_44, u_184_45, u_184_46, u_184_49, u_184_52, u_184_53, u_184_55, u_184_56, u_184_59, u_184_60, u_184_62, u_184_63, u_184_66, u_184_67, u_184_70, u_184_73, u_184_74, u_184_75, u_184_76, u_184_79, u_184_81, u_184_82, u_184_83, u_184_86, u_184_87, u_184_89, u_184_90, u_184_93, u_184_94, u_184_97, u_184_98, u_184_101, u_184_103, u_184_104, u_184_107, u_184_108, u_184_109, u_184_111, u_184_112, u_184_115, u_184_118, u_184_119, u_184_122, u_184_123, gI0, gIs, gR0, gRs, gF0, gFs, st0, st_i, st_r, st_f, st_n, st_s, true_and, and_true, ↓ifLeT, ↓ifLeF, ↓ifLtT, ↓ifLtF, ↓ifEqT, ↓ifEqF, if_tt, if_ff, if_pos, if_neg, nLe, nLt, nEq, nInT, nCl, pk_mul, nI_add, Nat.reduceAdd, s_cat_nil, s_cat_i, s_cat_r, s_cat_f, s_cat_l, tl_s, tl_n, cat_i, cat_r, cat_f, nb0, nb1, nbI, if_bI, if_bIr, Nat.zero_le, Nat.reduceLeDiff, M_ob, M_g0, M_g1, M_g2, M_g3, M_g4, M_g5, M_g6, M_g7, M_g8, M_g9, M_g10, M_g11, M_g12, M_g13, M_g14, M_g15, M_g16, M_g17, M_g18, M_g19, M_g20, M_g21, M_g22, M_g23, M_g24, M_g25, M_g26, M_g27, M_g28, M_g29, M_g30, M_g31, M_g32, M_g33, M_g34, M_g35, M_g36, M_g37, M_g38, M_g39, M_g40, M_g41, cA, M_r hb, M_a327, a1, a2, a3, e1, ep, g0, g1, g2, sB, sC, iB1, iC0, k1, k2, iBt, nI10, reduceIte, ab, i4, w1]
            exact Iff.rfl
          | false =>
            rw [w2] at a3 st
            cases w3 : kV m p with
            | false => rw [w3] at st; cases st
            | true =>
              simp (disch := omega) only [u_184_0, u_184_1, u_184_2, u_184_3, u_184_6, u_184_7, u_184_8, u_184_9, u_184_11, u_184_12, u_184_13, u_184_14, u_184_16, u_184_18, u_184_19, u_184_20, u_184_21, u_184_24, u_184_25, u_184_26, u_184_27, u_184_30, u_184_33, u_184_34, u_184_35, u_184_37, u_184_38, u_184_39, u_184_40, u_184_43, u_184_44, u_184_45, u_184_46, u_184_49, u_184_52, u_184_53, u_184_55, u_184_56, u_184_59, u_184_60, u_184_62, u_184_63, u_184_66, u_184_67, u_184_70, u_184_73, u_184_74, u_184_75, u_184_76, u_184_79, u_184_81, u_184_82, u_184_83, u_184_86, u_184_87, u_184_89, u_184_90, u_184_93, u_184_94, u_184_97, u_184_98, u_184_101, u_184_103, u_184_104, u_184_107, u_184_108, u_184_109, u_184_111, u_184_112, u_184_115, u_184_118, u_184_119, u_184_122, u_184_123, gI0, gIs, gR0, gRs, gF0, gFs, st0, st_i, st_r, st_f, st_n, st_s, true_and, and_true, ↓ifLeT, ↓ifLeF, ↓ifLtT, ↓ifLtF, ↓ifEqT, ↓ifEqF, if_tt, if_ff, if_pos, if_neg, nLe, nLt, nEq, nInT, nCl, pk_mul, nI_add, Nat.reduceAdd, s_cat_nil, s_cat_i, s_cat_r, s_cat_f, s_cat_l, tl_s, tl_n, cat_i, cat_r, cat_f, nb0, nb1, nbI, if_bI, if_bIr, Nat.zero_le, Nat.reduceLeDiff, M_ob, M_g0, M_g1, M_g2, M_g3, M_g4, M_g5, M_g6, M_g7, M_g8, M_g9, M_g10, M_g11, M_g12, M_g13, M_g14, M_g15, M_g16, M_g17, M_g18, M_g19, M_g20, M_g21, M_g22, M_g23, M_g24, M_g25, M_g26, M_g27, M_g28, M_g29, M_g30, M_g31, M_g32, M_g33, M_g34, M_g35, M_g36, M_g37, M_g38, M_g39, M_g40, M_g41, cA, M_r hb, M_a327, M_a328, a1, a2, a3, e1, ep, g0, g1, g2, sB, sC, iB1, iC0, k1, k2, iBt, iBf, nI10, reduceIte, ab, i4, w1, w3]
              exact Iff.rfl
      | true =>
        have ih := fun Q => ih Q hst2
        rw [hst2] at st
        have st := st.symm
        rw [Bool.and_eq_true, Bool.and_eq_true, decide_eq_true_eq, Bool.not_eq_true', Bool.not_eq_true'] at st
        obtain ⟨w1, w2, w3⟩ := st
        rw [w2] at a3
        cases hu : nDn n s p with
        | none =>
          rw [hu] at ih
          simp (disch := omega) only [u_184_0, u_184_1, u_184_2, u_184_3, u_184_6, u_184_7, u_184_8, u_184_9, u_184_11, u_184_12, u_184_13, u_184_14, u_184_16, u_184_18, u_184_19, u_184_20, u_184_21, u_184_24, u_184_25, u_184_26, u_184_27, u_184_30, u_184_33, u_184_34, u_184_35, u_184_37, u_184_38, u_184_39, u_184_40, u_184_43, u_184_44, u_184_45, u_184_46, u_184_49, u_184_52, u_184_53, u_184_55, u_184_56, u_184_59, u_184_60, u_184_62, u_184_63, u_184_66, u_184_67, u_184_70, u_184_73, u_184_74, u_184_75, u_184_76, u_184_79, u_184_81, u_184_82, u_184_83, u_184_86, u_184_87, u_184_89, u_184_90, u_184_93, u_184_94, u_184_97, u_184_98, u_184_101, u_184_103, u_184_104, u_184_107, u_184_108, u_184_109, u_184_111, u_184_112, u_184_115, u_184_118, u_184_119, u_184_122, u_184_123, gI0, gIs, gR0, gRs, gF0, gFs, st0, st_i, st_r, st_f, st_n, st_s, true_and, and_true, ↓ifLeT, ↓ifLeF, ↓ifLtT, ↓ifLtF, ↓ifEqT, ↓ifEqF, if_tt, if_ff, if_pos, if_neg, nLe, nLt, nEq, nInT, nCl, pk_mul, nI_add, Nat.reduceAdd, s_cat_nil, s_cat_i, s_cat_r, s_cat_f, s_cat_l, tl_s, tl_n, cat_i, cat_r, cat_f, nb0, nb1, nbI, if_bI, if_bIr, Nat.zero_le, Nat.reduceLeDiff, M_ob, M_g0, M_g1, M_g2, M_g3, M_g4, M_g5, M_g6, M_g7, M_g8, M_g9, M_g10, M_g11, M_g12, M_g13, M_g14, M_g15, M_g16, M_g17, M_g18, M_g19, M_g20, M_g21, M_g22, M_g23, M_g24, M_g25, M_g26, M_g27, M_g28, M_g29, M_g30, M_g31, M_g32, M_g33, M_g34, M_g35, M_g36, M_g37, M_g38, M_g39, M_g40, M_g41, cA, M_r hb, M_a327, M_a328, a1, a2, a3, e1, ep, g0, g1, g2, sB, sC, iB1, iC0, k1, k2, iBt, iBf, nI10, reduceIte, ab, i4, w1, w3, ih, Option.isSome_none, Option.isSome_some]
          exact Iff.rfl
        | some u =>
          rw [hu] at ih
          simp (disch := omega) only [u_184_0, u_184_1, u_184_2, u_184_3, u_184_6, u_184_7, u_184_8, u_184_9, u_184_11, u_184_12, u_184_13, u_184_14, u_184_16, u_184_18, u_184_19, u_184_20, u_184_21, u_184_24, u_184_25, u_184_26, u_184_27, u_184_30, u_184_33, u_184_34, u_184_35, u_184_37, u_184_38, u_184_39, u_184_40, u_184_43, u_184_44, u_184_45, u_184_46, u_184_49, u_184_52, u_184_53, u_184_55, u_184_56, u_184_59, u_184_60, u_184_62, u_184_63, u_184_66, u_184_67, u_184_70, u_184_73, u_184_74, u_184_75, u_184_76, u_184_79, u_184_81, u_184_82, u_184_83, u_184_86, u_184_87, u_184_89, u_184_90, u_184_93, u_184_94, u_184_97, u_184_98, u_184_101, u_184_103, u_184_104, u_184_107, u_184_108, u_184_109, u_184_111, u_184_112, u_184_115, u_184_118, u_184_119, u_184_122, u_184_123, gI0, gIs, gR0, gRs, gF0, gFs, st0, st_i, st_r, st_f, st_n, st_s, true_and, and_true, ↓ifLeT, ↓ifLeF, ↓ifLtT, ↓ifLtF, ↓ifEqT, ↓ifEqF, if_tt, if_ff, if_pos, if_neg, nLe, nLt, nEq, nInT, nCl, pk_mul, nI_add, Nat.reduceAdd, s_cat_nil, s_cat_i, s_cat_r, s_cat_f, s_cat_l, tl_s, tl_n, cat_i, cat_r, cat_f, nb0, nb1, nbI, if_bI, if_bIr, Nat.zero_le, Nat.reduceLeDiff, M_ob, M_g0, M_g1, M_g2, M_g3, M_g4, M_g5, M_g6, M_g7, M_g8, M_g9, M_g10, M_g11, M_g12, M_g13, M_g14, M_g15, M_g16, M_g17, M_g18, M_g19, M_g20, M_g21, M_g22, M_g23, M_g24, M_g25, M_g26, M_g27, M_g28, M_g29, M_g30, M_g31, M_g32, M_g33, M_g34, M_g35, M_g36, M_g37, M_g38, M_g39, M_g40, M_g41, cA, M_r hb, M_a327, M_a328, a1, a2, a3, e1, ep, g0, g1, g2, sB, sC, iB1, iC0, k1, k2, iBt, iBf, nI10, reduceIte, ab, i4, w1, w3, ih, Option.isSome_none, Option.isSome_some]
          exact Iff.rfl
/-- cranes move: what goes does -/
def moveU (m m' : tM) (b : Nat) (n : tN) (g : Nat → Nat) (p q : Nat) : Prop := frM b m m' ∧ RR (kA m' b) (jA n 7 fun i => if p ≤ i ∧ i < p + q then g i + 1 else g i) ∧ (∀ i, i < nF n 2 → kA m' 327 i = if p < i ∧ i < p + q then nI 2 else kA m 327 i) ∧ ∀ i, i < nF n 2 → kV m' i = if p ≤ i ∧ i < p + q then true else kV m i
def moveD (m m' : tM) (b : Nat) (n : tN) (g : Nat → Nat) (p q : Nat) : Prop := frM b m m' ∧ RR (kA m' b) (jA n 7 fun i => if i ≤ p ∧ p < i + q then g i - 1 else g i) ∧ (∀ i, i < nF n 2 → kA m' 327 i = if i < p ∧ p < i + q then nI 2 else kA m 327 i) ∧ ∀ i, i < nF n 2 → kV m' i = if i ≤ p ∧ p < i + q then true else kV m i
theorem goes_1u (hb : rb b) (hn : wfN n) {m m' : tM} {g : Nat → Nat} {p : Nat} (hp : p < nF n 2) (hr : RR (kA m b) (jA n 7 g)) : moveU m (xV (xA m b (upd (kA m b) (2 + 12 * p + 0) (nI (g p + 1)))) (updB (kV m) p true)) b n g p 1 := by
  have hb2 := rb_327 hb
  refine ⟨frM_t frM_b frM_v, ?_, fun i hi => ?_, fun i hi => ?_⟩
  · rw [kA_xV, kA_eq]
    refine RR_fun (RR_bay hn hp hr) fun c hc => ?_
    show (if p ≤ c ∧ c < p + 1 then g c + 1 else g c) = if c = p then g p + 1 else g c
    by_cases e : c = p
    · rw [if_pos (by omega), if_pos e, e]
    · rw [if_neg (by omega), if_neg e]
  · rw [if_neg (by omega), kA_xV, kA_ne (by omega)]
  · show (if i = p then true else kV m i) = _
    by_cases e : i = p
    · rw [if_pos e, if_pos (by omega)]
    · rw [if_neg e, if_neg (by omega)]
theorem goes_1d (hb : rb b) (hn : wfN n) {m m' : tM} {g : Nat → Nat} {p : Nat} (hp : p < nF n 2) (hr : RR (kA m b) (jA n 7 g)) : moveD m (xV (xA m b (upd (kA m b) (2 + 12 * p + 0) (nI (g p - 1)))) (updB (kV m) p true)) b n g p 1 := by
  have hb2 := rb_327 hb
  refine ⟨frM_t frM_b frM_v, ?_, fun i hi => ?_, fun i hi => ?_⟩
  · rw [kA_xV, kA_eq]
    refine RR_fun (RR_bay hn hp hr) fun c hc => ?_
    show (if c ≤ p ∧ p < c + 1 then g c - 1 else g c) = if c = p then g p - 1 else g c
    by_cases e : c = p
    · rw [if_pos (by omega), if_pos e, e]
    · rw [if_neg (by omega), if_neg e]
  · rw [if_neg (by omega), kA_xV, kA_ne (by omega)]
  · show (if i = p then true else kV m i) = _
    by_cases e : i = p
    · rw [if_pos e, if_pos (by omega)]
    · rw [if_neg e, if_neg (by omega)]
theorem goes_u (hb : rb b) (hn : wfN n) (hg : MG m n) (hr : RR (kA m b) (jA n 7 s.1)) (hj : jN n s) : ∀ k p q Q, p + k + 1 = nF n 2 → nUp n s k p = some q → (∀ m', moveU m m' b n s.1 p q → Q none (pM m' h)) → MT (d + 3 + k) 185 [.ref 317, .ref b, .int (nI p), .int (nI 1)] (pM m h) Q := by
  have h4 := hn.1.1
  have hB := hn.1.2.2.2.1
  have hB2 := hn.1.2.2.1
  have hg1 := hn.1.2.2.2.2.1
  have hg5 := hn.1.2.2.2.2.2
  obtain ⟨g0, g1, g2, -⟩ := id hg
  intro k
  induction k with
  | zero =>
    intro p q Q hp hu K
    have sC := sub1 (N := nF n 2) (by omega)
    have iC0 := fun x Q => m_in0 (d := d + 1) (h := pM m h) (x := x) (Q := Q) (N := nF n 2) (by omega) (by omega)
    have a1 : kA m b (2 + 12 * p + 0) = nI (s.1 p) := (hr.2.2.1 p (by show p < nF n 2; omega)).1
    have bp := hj.1 p (by omega)
    have k2 := ix_no (j := p + 1) (N := nF n 2) (by omega) (by omega)
    have i4 : vp_in (nI p) 4 := (nIn (by omega)).mpr (by omega)
    rw [MT_go (by decide) _ _ _ (Nat.le_of_ble_eq_true rfl), show s_entry 185 [.ref 317, .ref b, .int (nI p), .int (nI 1)] = [.ref 317, .ref b, .int (nI p), .int (nI 1), s_no, s_no] from rfl]
    rw [nUp] at hu
    split at hu
    · cases hu
      simp (disch := omega) only [u_185_0, u_185_1, u_185_2, u_185_3, u_185_6, u_185_7, u_185_8, u_185_9, u_185_11, u_185_12, u_185_13, u_185_14, u_185_16, u_185_18, u_185_19, u_185_20, u_185_21, u_185_24, u_185_25, u_185_26, u_185_27, u_185_30, u_185_33, u_185_34, u_185_36, u_185_37, u_185_40, u_185_41, u_185_43, u_185_44, u_185_47, u_185_48, u_185_51, u_185_54, u_185_55, u_185_56, u_185_58, u_185_59, u_185_62, u_185_63, u_185_66, u_185_68, u_185_69, u_185_70, u_185_71, u_185_72, u_185_73, u_185_76, u_185_78, u_185_79, u_185_80, u_185_83, u_185_84, u_185_85, u_185_86, gI0, gIs, gR0, gRs, gF0, gFs, st0, st_i, st_r, st_f, st_n, st_s, true_and, and_true, ↓ifLeT, ↓ifLeF, ↓ifLtT, ↓ifLtF, ↓ifEqT, ↓ifEqF, if_tt, if_ff, if_pos, if_neg, nLe, nLt, nEq, nInT, nCl, pk_mul, nI_add, Nat.reduceAdd, s_cat_nil, s_cat_i, s_cat_r, s_cat_f, s_cat_l, tl_s, tl_n, cat_i, cat_r, cat_f, nb0, nb1, nbI, if_bI, if_bIr, Nat.zero_le, Nat.reduceLeDiff, M_ob, M_g0, M_g1, M_g2, M_g3, M_g4, M_g5, M_g6, M_g7, M_g8, M_g9, M_g10, M_g11, M_g12, M_g13, M_g14, M_g15, M_g16, M_g17, M_g18, M_g19, M_g20, M_g21, M_g22, M_g23, M_g24, M_g25, M_g26, M_g27, M_g28, M_g29, M_g30, M_g31, M_g32, M_g33, M_g34, M_g35, M_g36, M_g37, M_g38, M_g39, M_g40, M_g41, m_cAt, M_r hb, M_rw hb, M_w328t, a1, g2, sC, iC0, k2, iBf, i4]
      exact K _ (goes_1u hb hn (m' := m) (by omega) hr)
    · cases hu
  | succ k ih =>
    intro p q Q hp hu K
    have sC := sub1 (N := nF n 2) (by omega)
    have iC0 := fun x Q => m_in0 (d := d + 2 + k) (h := pM m h) (x := x) (Q := Q) (N := nF n 2) (by omega) (by omega)
    have e3 : d + 2 + k + 1 = d + 3 + k := by omega
    rw [e3] at iC0
    have cA := fun m c w Q => m_cAt (d := d + 2 + k) (h := pM m h) (c := c) (w := w) (Q := Q)
    rw [e3] at cA
    have a1 : kA m b (2 + 12 * p + 0) = nI (s.1 p) := (hr.2.2.1 p (by show p < nF n 2; omega)).1
    have a2 : kA m b (2 + 12 * (p + 1) + 0) = nI (s.1 (p + 1)) := (hr.2.2.1 (p + 1) (by show p + 1 < nF n 2; omega)).1
    have bp := hj.1 p (by omega)
    have bp1 := hj.1 (p + 1) (by omega)
    have bg := hj.2.1 p (by omega)
    have k2 := ix_in (j := p + 1) (N := nF n 2) (by omega) (by omega)
    have ab := abs_up (a := s.1 (p + 1)) (t := s.1 p + 1) (by omega) (by omega)
    have i4 : vp_in (nI p) 4 := (nIn (by omega)).mpr (by omega)
    have i5 : vp_in (nI (p + 1)) 4 := (nIn (by omega)).mpr (by omega)
    show MT (d + 3 + k + 1) _ _ _ _
    rw [MT_go (by decide) _ _ _ (Nat.le_of_ble_eq_true rfl), show s_entry 185 [.ref 317, .ref b, .int (nI p), .int (nI 1)] = [.ref 317, .ref b, .int (nI p), .int (nI 1), s_no, s_no] from rfl]
    rw [nUp] at hu
    split at hu
    · split at hu
      · rename_i q2
        cases hu
        simp (disch := omega) only [u_185_0, u_185_1, u_185_2, u_185_3, u_185_6, u_185_7, u_185_8, u_185_9, u_185_11, u_185_12, u_185_13, u_185_14, u_185_16, u_185_18, u_185_19, u_185_20, u_185_21, u_185_24, u_185_25, u_185_26, u_185_27, u_185_30, u_185_33, u_185_34, u_185_36, u_185_37, u_185_40, u_185_41, u_185_43, u_185_44, u_185_47, u_185_48, u_185_51, u_185_54, u_185_55, u_185_56, u_185_58, u_185_59, u_185_62, u_185_63, u_185_66, u_185_68, u_185_69, u_185_70, u_185_71, u_185_72, u_185_73, u_185_76, u_185_78, u_185_79, u_185_80, u_185_83, u_185_84, u_185_85, u_185_86, gI0, gIs, gR0, gRs, gF0, gFs, st0, st_i, st_r, st_f, st_n, st_s, true_and, and_true, ↓ifLeT, ↓ifLeF, ↓ifLtT, ↓ifLtF, ↓ifEqT, ↓ifEqF, if_tt, if_ff, if_pos, if_neg, nLe, nLt, nEq, nInT, nCl, pk_mul, nI_add, Nat.reduceAdd, s_cat_nil, s_cat_i, s_cat_r, s_cat_f, s_cat_l, tl_s, tl_n, cat_i, cat_r, cat_f, nb0, nb1, nbI, if_bI, if_bIr, Nat.zero_le, Nat.reduceLeDiff, M_ob, M_g0, M_g1, M_g2, M_g3, M_g4, M_g5, M_g6, M_g7, M_g8, M_g9, M_g10, M_g11, M_g12, M_g13, M_g14, M_g15, M_g16, M_g17, M_g18, M_g19, M_g20, M_g21, M_g22, M_g23, M_g24, M_g25, M_g26, M_g27, M_g28, M_g29, M_g30, M_g31, M_g32, M_g33, M_g34, M_g35, M_g36, M_g37, M_g38, M_g39, M_g40, M_g41, cA, M_r hb, M_rw hb, M_w328t, a1, a2, g1, g2, sC, iC0, k2, iBt, nI10, reduceIte, ab, i4]
        exact K _ (goes_1u hb hn (m' := m) (by omega) hr)
      · rename_i q2
        cases hu2 : nUp n s k (p + 1) with
        | none => rw [hu2] at hu; cases hu
        | some u =>
          rw [hu2] at hu
          have hu : some (u + 1) = some q := hu
          cases hu
          obtain ⟨u1, u2, -, -⟩ := nUp_some k (p + 1) u (by omega) hu2
          simp (disch := omega) only [u_185_0, u_185_1, u_185_2, u_185_3, u_185_6, u_185_7, u_185_8, u_185_9, u_185_11, u_185_12, u_185_13, u_185_14, u_185_16, u_185_18, u_185_19, u_185_20, u_185_21, u_185_24, u_185_25, u_185_26, u_185_27, u_185_30, u_185_33, u_185_34, u_185_36, u_185_37, u_185_40, u_185_41, u_185_43, u_185_44, u_185_47, u_185_48, u_185_51, u_185_54, u_185_55, u_185_56, u_185_58, u_185_59, u_185_62, u_185_63, u_185_66, u_185_68, u_185_69, u_185_70, u_185_71, u_185_72, u_185_73, u_185_76, u_185_78, u_185_79, u_185_80, u_185_83, u_185_84, u_185_85, u_185_86, gI0, gIs, gR0, gRs, gF0, gFs, st0, st_i, st_r, st_f, st_n, st_s, true_and, and_true, ↓ifLeT, ↓ifLeF, ↓ifLtT, ↓ifLtF, ↓ifEqT, ↓ifEqF, if_tt, if_ff, if_pos, if_neg, nLe, nLt, nEq, nInT, nCl, pk_mul, nI_add, Nat.reduceAdd, s_cat_nil, s_cat_i, s_cat_r, s_cat_f, s_cat_l, tl_s, tl_n, cat_i, cat_r, cat_f, nb0, nb1, nbI, if_bI, if_bIr, Nat.zero_le, Nat.reduceLeDiff, M_ob, M_g0, M_g1, M_g2, M_g3, M_g4, M_g5, M_g6, M_g7, M_g8, M_g9, M_g10, M_g11, M_g12, M_g13, M_g14, M_g15, M_g16, M_g17, M_g18, M_g19, M_g20, M_g21, M_g22, M_g23, M_g24, M_g25, M_g26, M_g27, M_g28, M_g29, M_g30, M_g31, M_g32, M_g33, M_g34, M_g35, M_g36, M_g37, M_g38, M_g39, M_g40, M_g41, cA, M_r hb, a1, a2, g1, g2, sC, iC0, k2, iBt, nI10, reduceIte, ab]
          refine ih (p + 1) u _ (by omega) hu2 fun m1 hm => ?_
          obtain ⟨f1, f2, f3, f4⟩ := hm
          simp (disch := omega) only [u_185_0, u_185_1, u_185_2, u_185_3, u_185_6, u_185_7, u_185_8, u_185_9, u_185_11, u_185_12, u_185_13, u_185_14, u_185_16, u_185_18, u_185_19, u_185_20, u_185_21, u_185_24, u_185_25, u_185_26, u_185_27, u_185_30, u_185_33, u_185_34, u_185_36, u_185_37, u_185_40, u_185_41, u_185_43, u_185_44, u_185_47, u_185_48, u_185_51, u_185_54, u_185_55, u_185_56, u_185_58, u_185_59, u_185_62, u_185_63, u_185_66, u_185_68, u_185_69, u_185_70, u_185_71, u_185_72, u_185_73, u_185_76, u_185_78, u_185_79, u_185_80, u_185_83, u_185_84, u_185_85, u_185_86, gI0, gIs, gR0, gRs, gF0, gFs, st0, st_i, st_r, st_f, st_n, st_s, true_and, and_true, ↓ifLeT, ↓ifLeF, ↓ifLtT, ↓ifLtF, ↓ifEqT, ↓ifEqF, if_tt, if_ff, if_pos, if_neg, nLe, nLt, nEq, nInT, nCl, pk_mul, nI_add, Nat.reduceAdd, s_cat_nil, s_cat_i, s_cat_r, s_cat_f, s_cat_l, tl_s, tl_n, cat_i, cat_r, cat_f, nb0, nb1, nbI, if_bI, if_bIr, Nat.zero_le, Nat.reduceLeDiff, M_ob, M_g0, M_g1, M_g2, M_g3, M_g4, M_g5, M_g6, M_g7, M_g8, M_g9, M_g10, M_g11, M_g12, M_g13, M_g14, M_g15, M_g16, M_g17, M_g18, M_g19, M_g20, M_g21, M_g22, M_g23, M_g24, M_g25, M_g26, M_g27, M_g28, M_g29, M_g30, M_g31, M_g32, M_g33, M_g34, M_g35, M_g36, M_g37, M_g38, M_g39, M_g40, M_g41, cA, M_rw hb, M_w327, M_w328t, i4, i5]
          refine K _ ⟨frM_t f1 (frM_t frM_d (frM_t frM_b frM_v)), ?_, fun i hi => ?_, fun i hi => ?_⟩
          · have hb2 := rb_327 hb
            rw [kA_xV, kA_eq, kA_ne (by omega)]
            refine RR_fun (RR_bay (x := s.1 p + 1) hn (by omega) f2) fun c hc => ?_
            show (if p ≤ c ∧ c < p + (u + 1) then s.1 c + 1 else s.1 c) = if c = p then s.1 p + 1 else if p + 1 ≤ c ∧ c < p + 1 + u then s.1 c + 1 else s.1 c
            by_cases e : c = p
            · rw [if_pos (by omega), if_pos e, e]
            · rw [if_neg e]
              by_cases e2 : p + 1 ≤ c ∧ c < p + 1 + u
              · rw [if_pos (by omega), if_pos e2]
              · rw [if_neg (by omega), if_neg e2]
          · have hb2 := rb_327 hb
            rw [kA_xV, kA_ne (by omega), kA_eq]
            unfold upd
            by_cases e : i = p + 1
            · rw [if_pos e, if_pos (by omega)]
            · rw [if_neg e, f3 i hi]
              by_cases e2 : p + 1 < i ∧ i < p + 1 + u
              · rw [if_pos e2, if_pos (by omega)]
              · rw [if_neg e2, if_neg (by omega)]
          · show (if i = p then true else kV m1 i) = _
            by_cases e : i = p
            · rw [if_pos e, if_pos (by omega)]
            · rw [if_neg e, f4 i hi]
              by_cases e2 : p + 1 ≤ i ∧ i < p + 1 + u
              · rw [if_pos e2, if_pos (by omega)]
              · rw [if_neg e2, if_neg (by omega)]
    · cases hu
theorem goes_d (hb : rb b) (hn : wfN n) (hg : MG m n) (hr : RR (kA m b) (jA n 7 s.1)) (hj : jN n s) : ∀ p q Q, p < nF n 2 → nDn n s p = some q → (∀ m', moveD m m' b n s.1 p q → Q none (pM m' h)) → MT (d + 3 + p) 185 [.ref 317, .ref b, .int (nI p), .int (-1)] (pM m h) Q := by
  have h4 := hn.1.1
  have hB := hn.1.2.2.2.1
  have hB2 := hn.1.2.2.1
  have hg1 := hn.1.2.2.2.2.1
  have hg5 := hn.1.2.2.2.2.2
  obtain ⟨g0, g1, g2, -⟩ := id hg
  intro p
  induction p with
  | zero =>
    intro q Q hp hu K
    have sC := sub1 (N := nF n 2) (by omega)
    have iC0 := fun x Q => m_in0 (d := d + 1) (h := pM m h) (x := x) (Q := Q) (N := nF n 2) (by omega) (by omega)
    have a1 : kA m b (2 + 12 * 0 + 0) = nI (s.1 0) := (hr.2.2.1 0 hp).1
    have bp := hj.1 0 (by omega)
    have i4 : vp_in (nI 0) 4 := (nIn (by omega)).mpr (by omega)
    rw [MT_go (by decide) _ _ _ (Nat.le_of_ble_eq_true rfl), show s_entry 185 [.ref 317, .ref b, .int (nI 0), .int (-1)] = [.ref 317, .ref b, .int (nI 0), .int (-1), s_no, s_no] from rfl]
    rw [nDn] at hu
    split at hu
    · rename_i hc
      rw [Bool.and_eq_true, decide_eq_true_eq] at hc
      have e1 := m1_add (p := s.1 0) (by omega)
      cases hu
      simp (disch := omega) only [u_185_0, u_185_1, u_185_2, u_185_3, u_185_6, u_185_7, u_185_8, u_185_9, u_185_11, u_185_12, u_185_13, u_185_14, u_185_16, u_185_18, u_185_19, u_185_20, u_185_21, u_185_24, u_185_25, u_185_26, u_185_27, u_185_30, u_185_33, u_185_34, u_185_36, u_185_37, u_185_40, u_185_41, u_185_43, u_185_44, u_185_47, u_185_48, u_185_51, u_185_54, u_185_55, u_185_56, u_185_58, u_185_59, u_185_62, u_185_63, u_185_66, u_185_68, u_185_69, u_185_70, u_185_71, u_185_72, u_185_73, u_185_76, u_185_78, u_185_79, u_185_80, u_185_83, u_185_84, u_185_85, u_185_86, gI0, gIs, gR0, gRs, gF0, gFs, st0, st_i, st_r, st_f, st_n, st_s, true_and, and_true, ↓ifLeT, ↓ifLeF, ↓ifLtT, ↓ifLtF, ↓ifEqT, ↓ifEqF, if_tt, if_ff, if_pos, if_neg, nLe, nLt, nEq, nInT, nCl, pk_mul, nI_add, Nat.reduceAdd, s_cat_nil, s_cat_i, s_cat_r, s_cat_f, s_cat_l, tl_s, tl_n, cat_i, cat_r, cat_f, nb0, nb1, nbI, if_bI, if_bIr, Nat.zero_le, Nat.reduceLeDiff, M_ob, M_g0, M_g1, M_g2, M_g3, M_g4, M_g5, M_g6, M_g7, M_g8, M_g9, M_g10, M_g11, M_g12, M_g13, M_g14, M_g15, M_g16, M_g17, M_g18, M_g19, M_g20, M_g21, M_g22, M_g23, M_g24, M_g25, M_g26, M_g27, M_g28, M_g29, M_g30, M_g31, M_g32, M_g33, M_g34, M_g35, M_g36, M_g37, M_g38, M_g39, M_g40, M_g41, m_cAt, M_r hb, M_rw hb, M_w328t, a1, e1, m1_0, g2, sC, iC0, ix_m1s, iBf, i4]
      exact K _ (goes_1d hb hn (m' := m) (by omega) hr)
    · cases hu
  | succ p ih =>
    intro q Q hp hu K
    have sC := sub1 (N := nF n 2) (by omega)
    have iC0 := fun x Q => m_in0 (d := d + 2 + p) (h := pM m h) (x := x) (Q := Q) (N := nF n 2) (by omega) (by omega)
    have e3 : d + 2 + p + 1 = d + 3 + p := by omega
    rw [e3] at iC0
    have cA := fun m c w Q => m_cAt (d := d + 2 + p) (h := pM m h) (c := c) (w := w) (Q := Q)
    rw [e3] at cA
    have a1 : kA m b (2 + 12 * (p + 1) + 0) = nI (s.1 (p + 1)) := (hr.2.2.1 (p + 1) hp).1
    have a2 : kA m b (2 + 12 * p + 0) = nI (s.1 p) := (hr.2.2.1 p (by show p < nF n 2; omega)).1
    have bp := hj.1 (p + 1) (by omega)
    have bp1 := hj.1 p (by omega)
    have bg := hj.2.1 p (by omega)
    have k2 := ix_in (j := p) (N := nF n 2) (by omega) (by omega)
    have ab := abs_dn (a := s.1 p) (t := s.1 (p + 1) - 1) (by omega) (by omega)
    have i4 : vp_in (nI (p + 1)) 4 := (nIn (by omega)).mpr (by omega)
    have i5 : vp_in (nI p) 4 := (nIn (by omega)).mpr (by omega)
    have ep : nI (p + 1) + (-1) = nI p := m1_add (p := p + 1) (by omega)
    have e1 := m1_add (p := s.1 (p + 1)) (by omega)
    show MT (d + 3 + p + 1) _ _ _ _
    rw [MT_go (by decide) _ _ _ (Nat.le_of_ble_eq_true rfl), show s_entry 185 [.ref 317, .ref b, .int (nI (p + 1)), .int (-1)] = [.ref 317, .ref b, .int (nI (p + 1)), .int (-1), s_no, s_no] from rfl]
    rw [nDn] at hu
    split at hu
    · split at hu
      · rename_i q2
        cases hu
        simp (disch := omega) only [u_185_0, u_185_1, u_185_2, u_185_3, u_185_6, u_185_7, u_185_8, u_185_9, u_185_11, u_185_12, u_185_13, u_185_14, u_185_16, u_185_18, u_185_19, u_185_20, u_185_21, u_185_24, u_185_25, u_185_26, u_185_27, u_185_30, u_185_33, u_185_34, u_185_36, u_185_37, u_185_40, u_185_41, u_185_43, u_185_44, u_185_47, u_185_48, u_185_51, u_185_54, u_185_55, u_185_56, u_185_58, u_185_59, u_185_62, u_185_63, u_185_66, u_185_68, u_185_69, u_185_70, u_185_71, u_185_72, u_185_73, u_185_76, u_185_78, u_185_79, u_185_80, u_185_83, u_185_84, u_185_85, u_185_86, gI0, gIs, gR0, gRs, gF0, gFs, st0, st_i, st_r, st_f, st_n, st_s, true_and, and_true, ↓ifLeT, ↓ifLeF, ↓ifLtT, ↓ifLtF, ↓ifEqT, ↓ifEqF, if_tt, if_ff, if_pos, if_neg, nLe, nLt, nEq, nInT, nCl, pk_mul, nI_add, Nat.reduceAdd, s_cat_nil, s_cat_i, s_cat_r, s_cat_f, s_cat_l, tl_s, tl_n, cat_i, cat_r, cat_f, nb0, nb1, nbI, if_bI, if_bIr, Nat.zero_le, Nat.reduceLeDiff, M_ob, M_g0, M_g1, M_g2, M_g3, M_g4, M_g5, M_g6, M_g7, M_g8, M_g9, M_g10, M_g11, M_g12, M_g13, M_g14, M_g15, M_g16, M_g17, M_g18, M_g19, M_g20, M_g21, M_g22, M_g23, M_g24, M_g25, M_g26, M_g27, M_g28, M_g29, M_g30, M_g31, M_g32, M_g33, M_g34, M_g35, M_g36, M_g37, M_g38, M_g39, M_g40, M_g41, cA, M_r hb, M_rw hb, M_w328t, a1, a2, e1, ep, g1, g2, sC, iC0, k2, iBt, nI10, reduceIte, ab, i4]
        exact K _ (goes_1d hb hn (m' := m) (by omega) hr)
      · rename_i q2
        cases hu2 : nDn n s p with
        | none => rw [hu2] at hu; cases hu
        | some u =>
          rw [hu2] at hu
          have hu : some (u + 1) = some q := hu
          cases hu
          obtain ⟨u1, u2, -, -⟩ := nDn_some p u hu2
          simp (disch := omega) only [u_185_0, u_185_1, u_185_2, u_185_3, u_185_6, u_185_7, u_185_8, u_185_9, u_185_11, u_185_12, u_185_13, u_185_14, u_185_16, u_185_18, u_185_19, u_185_20, u_185_21, u_185_24, u_185_25, u_185_26, u_185_27, u_185_30, u_185_33, u_185_34, u_185_36, u_185_37, u_185_40, u_185_41, u_185_43, u_185_44, u_185_47, u_185_48, u_185_51, u_185_54, u_185_55, u_185_56, u_185_58, u_185_59, u_185_62, u_185_63, u_185_66, u_185_68, u_185_69, u_185_70, u_185_71, u_185_72, u_185_73, u_185_76, u_185_78, u_185_79, u_185_80, u_185_83, u_185_84, u_185_85, u_185_86, gI0, gIs, gR0, gRs, gF0, gFs, st0, st_i, st_r, st_f, st_n, st_s, true_and, and_true, ↓ifLeT, ↓ifLeF, ↓ifLtT, ↓ifLtF, ↓ifEqT, ↓ifEqF, if_tt, if_ff, if_pos, if_neg, nLe, nLt, nEq, nInT, nCl, pk_mul, nI_add, Nat.reduceAdd, s_cat_nil, s_cat_i, s_cat_r, s_cat_f, s_cat_l, tl_s, tl_n, cat_i, cat_r, cat_f, nb0, nb1, nbI, if_bI, if_bIr, Nat.zero_le, Nat.reduceLeDiff, M_ob, M_g0, M_g1, M_g2, M_g3, M_g4, M_g5, M_g6, M_g7, M_g8, M_g9, M_g10, M_g11, M_g12, M_g13, M_g14, M_g15, M_g16, M_g17, M_g18, M_g19, M_g20, M_g21, M_g22, M_g23, M_g24, M_g25, M_g26, M_g27, M_g28, M_g29, M_g30, M_g31, M_g32, M_g33, M_g34, M_g35, M_g36, M_g37, M_g38, M_g39, M_g40, M_g41, cA, M_r hb, a1, a2, e1, ep, g1, g2, sC, iC0, k2, iBt, nI10, reduceIte, ab]
          refine ih u _ (by omega) hu2 fun m1 hm => ?_
          obtain ⟨f1, f2, f3, f4⟩ := hm
          simp (disch := omega) only [u_185_0, u_185_1, u_185_2, u_185_3, u_185_6, u_185_7, u_185_8, u_185_9, u_185_11, u_185_12, u_185_13, u_185_14, u_185_16, u_185_18, u_185_19, u_185_20, u_185_21, u_185_24, u_185_25, u_185_26, u_185_27, u_185_30, u_185_33, u_185_34, u_185_36, u_185_37, u_185_40, u_185_41, u_185_43, u_185_44, u_185_47, u_185_48, u_185_51, u_185_54, u_185_55, u_185_56, u_185_58, u_185_59, u_185_62, u_185_63, u_185_66, u_185_68, u_185_69, u_185_70, u_185_71, u_185_72, u_185_73, u_185_76, u_185_78, u_185_79, u_185_80, u_185_83, u_185_84, u_185_85, u_185_86, gI0, gIs, gR0, gRs, gF0, gFs, st0, st_i, st_r, st_f, st_n, st_s, true_and, and_true, ↓ifLeT, ↓ifLeF, ↓ifLtT, ↓ifLtF, ↓ifEqT, ↓ifEqF, if_tt, if_ff, if_pos, if_neg, nLe, nLt, nEq, nInT, nCl, pk_mul, nI_add, Nat.reduceAdd, s_cat_nil, s_cat_i, s_cat_r, s_cat_f, s_cat_l, tl_s, tl_n, cat_i, cat_r, cat_f, nb0, nb1, nbI, if_bI, if_bIr, Nat.zero_le, Nat.reduceLeDiff, M_ob, M_g0, M_g1, M_g2, M_g3, M_g4, M_g5, M_g6, M_g7, M_g8, M_g9, M_g10, M_g11, M_g12, M_g13, M_g14, M_g15, M_g16, M_g17, M_g18, M_g19, M_g20, M_g21, M_g22, M_g23, M_g24, M_g25, M_g26, M_g27, M_g28, M_g29, M_g30, M_g31, M_g32, M_g33, M_g34, M_g35, M_g36, M_g37, M_g38, M_g39, M_g40, M_g41, cA, M_rw hb, M_w327, M_w328t, i4, i5]
          refine K _ ⟨frM_t f1 (frM_t frM_d (frM_t frM_b frM_v)), ?_, fun i hi => ?_, fun i hi => ?_⟩
          · have hb2 := rb_327 hb
            rw [kA_xV, kA_eq, kA_ne (by omega)]
            refine RR_fun (RR_bay (x := s.1 (p + 1) - 1) hn (by omega) f2) fun c hc => ?_
            show (if c ≤ p + 1 ∧ p + 1 < c + (u + 1) then s.1 c - 1 else s.1 c) = if c = p + 1 then s.1 (p + 1) - 1 else if c ≤ p ∧ p < c + u then s.1 c - 1 else s.1 c
            by_cases e : c = p + 1
            · rw [if_pos (by omega), if_pos e, e]
            · rw [if_neg e]
              by_cases e2 : c ≤ p ∧ p < c + u
              · rw [if_pos (by omega), if_pos e2]
              · rw [if_neg (by omega), if_neg e2]
          · have hb2 := rb_327 hb
            rw [kA_xV, kA_ne (by omega), kA_eq]
            unfold upd
            by_cases e : i = p
            · rw [if_pos e, if_pos (by omega)]
            · rw [if_neg e, f3 i hi]
              by_cases e2 : i < p ∧ p < i + u
              · rw [if_pos e2, if_pos (by omega)]
              · rw [if_neg e2, if_neg (by omega)]
          · show (if i = p + 1 then true else kV m1 i) = _
            by_cases e : i = p + 1
            · rw [if_pos e, if_pos (by omega)]
            · rw [if_neg e, f4 i hi]
              by_cases e2 : i ≤ p ∧ p < i + u
              · rw [if_pos e2, if_pos (by omega)]
              · rw [if_neg e2, if_neg (by omega)]
    · cases hu
end MM
