/-! the reference: swings, works, a minute -/
theorem RR_ext {f : Nat → Int32} {n n' : tN} (hr : RR f n) (h4 : nF n' 4 = nF n 4) (h2 : nF n' 2 = nF n 2) (h3 : nF n' 3 = nF n 3) (hc : ∀ c, c < nF n 2 → nA n' 7 c = nA n 7 c ∧ nK n' c = nK n c ∧ nW n' c = nW n c ∧ nL n' c = nL n c) (ht : ∀ t, t < nF n 3 → nA n' 12 t = nA n 12 t ∧ nA n' 13 t = nA n 13 t ∧ nA n' 14 t = nA n 14 t ∧ nV n' t = nV n t ∧ nA n' 16 t = nA n 16 t ∧ nX n' 17 t = nX n 17 t ∧ nX n' 18 t = nX n 18 t) : RR f n' := by
  obtain ⟨r0, r1, rc, rt⟩ := hr
  refine ⟨by rw [h4]; exact r0, by rw [h3]; exact r1, fun c hcc => ?_, fun t htt => ?_⟩
  · rw [h2] at hcc
    obtain ⟨a, b, d, e⟩ := hc c hcc
    unfold RRc
    rw [a, b, d, e]
    exact rc c hcc
  · rw [h3] at htt
    obtain ⟨a, b, d, e, k, l, m⟩ := ht t htt
    unfold RRt
    rw [a, b, d, e, k, l, m]
    exact rt t htt
theorem RR_swy {f : Nat → Int32} {n : tN} {p : Nat} {w : UInt32} (h4 : nF n 2 ≤ 4) (hl : ∀ c, (nL n c).length ≤ 8) (hp : p < nF n 2) (hr : RR f n) : RR (upd f (2 + 12 * p + 2) (nI w.toNat)) (jW n (set1 (nW n) p w)) := by
  obtain ⟨r0, r1, rc, rt⟩ := hr
  refine ⟨(if_neg (by omega)).trans r0, (if_neg (by omega)).trans r1, fun c hc => ?_, fun t ht => ?_⟩
  · obtain ⟨a, b, d, e, k⟩ := rc c hc
    have hc' : c < nF n 2 := hc
    have l8 := hl c
    refine ⟨(if_neg (by omega)).trans a, (if_neg (by omega)).trans b, ?_, (if_neg (by omega)).trans e, fun q hq => (if_neg (by have : q < (nL n c).length := hq; omega)).trans (k q hq)⟩
    show (if 2 + 12 * c + 2 = 2 + 12 * p + 2 then nI w.toNat else f (2 + 12 * c + 2)) = nI (if c = p then w else nW n c).toNat
    by_cases q : c = p
    · rw [if_pos (by omega), if_pos q]
    · rw [if_neg (by omega), if_neg q]
      exact d
  · obtain ⟨a, b, d, e, k, l, m⟩ := rt t ht
    exact ⟨(if_neg (by omega)).trans a, (if_neg (by omega)).trans b, (if_neg (by omega)).trans d, (if_neg (by omega)).trans e, (if_neg (by omega)).trans k, (if_neg (by omega)).trans l, (if_neg (by omega)).trans m⟩
theorem RR_tk {f : Nat → Int32} {n n' : tN} {t k : Nat} {v : Int32} (h4 : nF n 2 ≤ 4) (hl : ∀ c, (nL n c).length ≤ 8) (hk : k < 7) (hr : RR f n) (h0 : nF n' = nF n) (hc : ∀ c, c < nF n 2 → nA n' 7 c = nA n 7 c ∧ nK n' c = nK n c ∧ nW n' c = nW n c ∧ nL n' c = nL n c) (hu : ∀ u, u < nF n 3 → u ≠ t → nA n' 12 u = nA n 12 u ∧ nA n' 13 u = nA n 13 u ∧ nA n' 14 u = nA n 14 u ∧ nV n' u = nV n u ∧ nA n' 16 u = nA n 16 u ∧ nX n' 17 u = nX n 17 u ∧ nX n' 18 u = nX n 18 u) (ht : t < nF n 3 → RRt (upd f (50 + 7 * t + k) v) n' t) : RR (upd f (50 + 7 * t + k) v) n' := by
  obtain ⟨r0, r1, rc, rt⟩ := hr
  refine ⟨(if_neg (by omega)).trans (by rw [h0]; exact r0), (if_neg (by omega)).trans (by rw [h0]; exact r1), fun c hcc => ?_, fun u htt => ?_⟩
  · rw [h0] at hcc
    obtain ⟨a, b, d, e⟩ := hc c hcc
    obtain ⟨a1, b1, d1, e1, k1⟩ := rc c hcc
    have l8 := hl c
    unfold RRc
    rw [a, b, d, e]
    exact ⟨(if_neg (by omega)).trans a1, (if_neg (by omega)).trans b1, (if_neg (by omega)).trans d1, (if_neg (by omega)).trans e1, fun q hq => (if_neg (by omega)).trans (k1 q hq)⟩
  · rw [h0] at htt
    by_cases e : u = t
    · subst e
      exact ht htt
    · obtain ⟨a, b, d, g, k2, l, m⟩ := hu u htt e
      obtain ⟨a1, b1, d1, e1, k1, l1, m1⟩ := rt u htt
      unfold RRt
      rw [a, b, d, g, k2, l, m]
      exact ⟨(if_neg (by omega)).trans a1, (if_neg (by omega)).trans b1, (if_neg (by omega)).trans d1, (if_neg (by omega)).trans e1, (if_neg (by omega)).trans k1, (if_neg (by omega)).trans l1, (if_neg (by omega)).trans m1⟩
theorem RR_did {f : Nat → Int32} {n : tN} {t x : Nat} (h4 : nF n 2 ≤ 4) (hl : ∀ c, (nL n c).length ≤ 8) (hr : RR f n) : RR (upd f (50 + 7 * t + 4) (nI x)) (jA n 16 (set1 (nA n 16) t x)) := by
  refine RR_tk h4 hl (by decide) hr rfl (fun c _ => ⟨rfl, rfl, rfl, rfl⟩) (fun u hu e => ⟨rfl, rfl, rfl, rfl, if_neg e, rfl, rfl⟩) fun ht => ?_
  obtain ⟨a, b, d, e, k, l, m⟩ := hr.2.2.2 t ht
  refine ⟨(if_neg (by omega)).trans a, (if_neg (by omega)).trans b, (if_neg (by omega)).trans d, (if_neg (by omega)).trans e, ?_, (if_neg (by omega)).trans l, (if_neg (by omega)).trans m⟩
  show (if _ = _ then nI x else _) = nI (if t = t then x else _)
  rw [if_pos rfl, if_pos rfl]
theorem RR_x17 {f : Nat → Int32} {n : tN} {t : Nat} {x : Int32} (h4 : nF n 2 ≤ 4) (hl : ∀ c, (nL n c).length ≤ 8) (hr : RR f n) : RR (upd f (50 + 7 * t + 5) x) (jX n 17 (set1 (nX n 17) t x)) := by
  refine RR_tk h4 hl (by decide) hr rfl (fun c _ => ⟨rfl, rfl, rfl, rfl⟩) (fun u hu e => ⟨rfl, rfl, rfl, rfl, rfl, if_neg e, rfl⟩) fun ht => ?_
  obtain ⟨a, b, d, e, k, l, m⟩ := hr.2.2.2 t ht
  refine ⟨(if_neg (by omega)).trans a, (if_neg (by omega)).trans b, (if_neg (by omega)).trans d, (if_neg (by omega)).trans e, (if_neg (by omega)).trans k, ?_, (if_neg (by omega)).trans m⟩
  show (if _ = _ then x else _) = if t = t then x else _
  rw [if_pos rfl, if_pos rfl]
theorem RR_x18 {f : Nat → Int32} {n : tN} {t : Nat} {x : Int32} (h4 : nF n 2 ≤ 4) (hl : ∀ c, (nL n c).length ≤ 8) (hr : RR f n) : RR (upd f (50 + 7 * t + 6) x) (jX n 18 (set1 (nX n 18) t x)) := by
  refine RR_tk h4 hl (by decide) hr rfl (fun c _ => ⟨rfl, rfl, rfl, rfl⟩) (fun u hu e => ⟨rfl, rfl, rfl, rfl, rfl, rfl, if_neg e⟩) fun ht => ?_
  obtain ⟨a, b, d, e, k, l, m⟩ := hr.2.2.2 t ht
  refine ⟨(if_neg (by omega)).trans a, (if_neg (by omega)).trans b, (if_neg (by omega)).trans d, (if_neg (by omega)).trans e, (if_neg (by omega)).trans k, (if_neg (by omega)).trans l, ?_⟩
  show (if _ = _ then x else _) = if t = t then x else _
  rw [if_pos rfl, if_pos rfl]
def wb (n : tN) : Prop := nF n 2 ≤ 4 ∧ nF n 3 ≤ 8 ∧ wfL n ∧ ∀ t, t < nF n 3 → nA n 13 t ≤ 1000 ∧ nA n 16 t ≤ 1000
theorem wb_len {n : tN} (h : wb n) (c : Nat) : (nL n c).length ≤ 8 := Nat.le_trans (nodup_len (h.2.2.1.2.1 c).1 (h.2.2.1.2.1 c).2) h.2.1
section MN3
variable {b d c0 : Nat} {m : tM} {h : sH} {i x y z : Int32} {Q : sQ} {n : tN} {k : sK} {s : tD}
theorem w_done {t : Nat} (hb : rb b) (hn : wb n) (hr : RR (kA m b) n) (ht : t < nF n 3) : MT (d + 2) 180 [.ref b, .int (nI t)] (pM m h) Q ↔ Q (some (.int (iB (nDone n t)))) (pM m h) := by
  have h8 := hn.2.1
  obtain ⟨-, a2, -, -, a5, -⟩ := hr.2.2.2 t ht
  obtain ⟨b3, b6⟩ := hn.2.2.2 t ht
  rw [MT_go (by decide) _ _ _ (Nat.le_of_ble_eq_true rfl), show s_entry 180 [.ref b, .int (nI t)] = [.ref b, .int (nI t)] from rfl]
  unfold nDone
  by_cases e : nA n 16 t = nA n 13 t
  · rw [decide_eq_true e]
    simp (disch := omega) only [u_180_0, u_180_1, u_180_2, u_180_3, u_180_6, u_180_7, u_180_8, u_180_9, u_180_10, u_180_13, u_180_14, u_180_17, u_180_18, u_180_21, u_180_22, gI0, gIs, gR0, gRs, gF0, gFs, st0, st_i, st_r, st_f, st_n, st_s, true_and, and_true, ↓ifLeT, ↓ifLeF, ↓ifLtT, ↓ifLtF, ↓ifEqT, ↓ifEqF, if_tt, if_ff, if_pos, if_neg, nLe, nLt, nEq, nInT, nCl, pk_mul, nI_add, Nat.reduceAdd, s_cat_nil, s_cat_i, s_cat_r, s_cat_f, s_cat_l, tl_s, tl_n, cat_i, cat_r, cat_f, nb0, nb1, nbI, if_bI, if_bIr, Nat.zero_le, Nat.reduceLeDiff, m_tAt, M_r hb, a2, a5, e, iBt]
  · rw [decide_eq_false e]
    simp (disch := omega) only [u_180_0, u_180_1, u_180_2, u_180_3, u_180_6, u_180_7, u_180_8, u_180_9, u_180_10, u_180_13, u_180_14, u_180_17, u_180_18, u_180_21, u_180_22, gI0, gIs, gR0, gRs, gF0, gFs, st0, st_i, st_r, st_f, st_n, st_s, true_and, and_true, ↓ifLeT, ↓ifLeF, ↓ifLtT, ↓ifLtF, ↓ifEqT, ↓ifEqF, if_tt, if_ff, if_pos, if_neg, nLe, nLt, nEq, nInT, nCl, pk_mul, nI_add, Nat.reduceAdd, s_cat_nil, s_cat_i, s_cat_r, s_cat_f, s_cat_l, tl_s, tl_n, cat_i, cat_r, cat_f, nb0, nb1, nbI, if_bI, if_bIr, Nat.zero_le, Nat.reduceLeDiff, m_tAt, M_r hb, a2, a5, e, iBf]
theorem w_next {c : Nat} (hb : rb b) (hn : wb n) (hr : RR (kA m b) n) (hc : c < nF n 2) : MT (d + 3) 181 [.ref b, .int (nI c)] (pM m h) Q ↔ Q (some (.int (oI1 (nNext n c)))) (pM m h) := by
  have h4 := hn.1
  have h8 := hn.2.1
  obtain ⟨-, -, -, a4, a5⟩ := hr.2.2.1 c hc
  have l8 := wb_len hn c
  rw [MT_go (by decide) _ _ _ (Nat.le_of_ble_eq_true rfl), show s_entry 181 [.ref b, .int (nI c)] = [.ref b, .int (nI c), s_no, s_no] from rfl]
  have lp : ∀ q k v, k + q = (nL n c).length → (WP (d + 2) 181 2 [.ref b, .int (nI c), .int (nI k), v] [] (pM m h) (0, 0) Q ↔ Q (some (.int (oI1 (((nL n c).drop k).find? (fun t => !nDone n t))))) (pM m h)) := by
    intro q
    induction q with
    | zero =>
      intro k v hk
      have e : k = (nL n c).length := by omega
      subst e
      rw [u_181_2, List.drop_of_length_le (Nat.le_refl _)]
      simp (disch := omega) only [u_181_0, u_181_1, u_181_3, u_181_4, u_181_5, u_181_6, u_181_9, u_181_10, u_181_13, u_181_14, u_181_15, u_181_16, u_181_17, u_181_18, u_181_21, u_181_22, u_181_23, u_181_24, u_181_25, u_181_28, u_181_31, u_181_32, u_181_33, u_181_36, u_181_39, u_181_40, gI0, gIs, gR0, gRs, gF0, gFs, st0, st_i, st_r, st_f, st_n, st_s, true_and, and_true, ↓ifLeT, ↓ifLeF, ↓ifLtT, ↓ifLtF, ↓ifEqT, ↓ifEqF, if_tt, if_ff, if_pos, if_neg, nLe, nLt, nEq, nInT, nCl, pk_mul, nI_add, Nat.reduceAdd, s_cat_nil, s_cat_i, s_cat_r, s_cat_f, s_cat_l, tl_s, tl_n, cat_i, cat_r, cat_f, nb0, nb1, nbI, if_bI, if_bIr, Nat.zero_le, Nat.reduceLeDiff, m_cAt, M_r hb, a4, Nat.le_refl]
      exact Iff.rfl
    | succ q ih =>
      intro k v hk
      have hk' : k < (nL n c).length := by omega
      have e := a5 k hk'
      have ht := (hn.2.2.1.2.1 c).2 _ (getD_mem hk')
      have e1 := fun Q => w_done (d := d) (h := h) (Q := Q) hb hn hr ht
      rw [u_181_2, List.drop_eq_getElem_cons hk', List.find?_cons, ← getD_of hk']
      cases hd : nDone n ((nL n c).getD k 0) with
      | false =>
        rw [hd] at e1
        simp (disch := omega) only [u_181_0, u_181_1, u_181_3, u_181_4, u_181_5, u_181_6, u_181_9, u_181_10, u_181_13, u_181_14, u_181_15, u_181_16, u_181_17, u_181_18, u_181_21, u_181_22, u_181_23, u_181_24, u_181_25, u_181_28, u_181_31, u_181_32, u_181_33, u_181_36, u_181_39, u_181_40, gI0, gIs, gR0, gRs, gF0, gFs, st0, st_i, st_r, st_f, st_n, st_s, true_and, and_true, ↓ifLeT, ↓ifLeF, ↓ifLtT, ↓ifLtF, ↓ifEqT, ↓ifEqF, if_tt, if_ff, if_pos, if_neg, nLe, nLt, nEq, nInT, nCl, pk_mul, nI_add, Nat.reduceAdd, s_cat_nil, s_cat_i, s_cat_r, s_cat_f, s_cat_l, tl_s, tl_n, cat_i, cat_r, cat_f, nb0, nb1, nbI, if_bI, if_bIr, Nat.zero_le, Nat.reduceLeDiff, m_cAt, M_r hb, a4, e, e1, iBf]
        exact Iff.rfl
      | true =>
        rw [hd] at e1
        simp (disch := omega) only [u_181_0, u_181_1, u_181_3, u_181_4, u_181_5, u_181_6, u_181_9, u_181_10, u_181_13, u_181_14, u_181_15, u_181_16, u_181_17, u_181_18, u_181_21, u_181_22, u_181_23, u_181_24, u_181_25, u_181_28, u_181_31, u_181_32, u_181_33, u_181_36, u_181_39, u_181_40, gI0, gIs, gR0, gRs, gF0, gFs, st0, st_i, st_r, st_f, st_n, st_s, true_and, and_true, ↓ifLeT, ↓ifLeF, ↓ifLtT, ↓ifLtF, ↓ifEqT, ↓ifEqF, if_tt, if_ff, if_pos, if_neg, nLe, nLt, nEq, nInT, nCl, pk_mul, nI_add, Nat.reduceAdd, s_cat_nil, s_cat_i, s_cat_r, s_cat_f, s_cat_l, tl_s, tl_n, cat_i, cat_r, cat_f, nb0, nb1, nbI, if_bI, if_bIr, Nat.zero_le, Nat.reduceLeDiff, m_cAt, M_r hb, a4, e, e1, iBt, nI10, reduceIte, ih (k + 1) _ (by omega)]
        exact Iff.rfl
  simp (disch := omega) only [u_181_0, u_181_1, u_181_3, u_181_4, u_181_5, u_181_6, u_181_9, u_181_10, u_181_13, u_181_14, u_181_15, u_181_16, u_181_17, u_181_18, u_181_21, u_181_22, u_181_23, u_181_24, u_181_25, u_181_28, u_181_31, u_181_32, u_181_33, u_181_36, u_181_39, u_181_40, gI0, gIs, gR0, gRs, gF0, gFs, st0, st_i, st_r, st_f, st_n, st_s, true_and, and_true, ↓ifLeT, ↓ifLeF, ↓ifLtT, ↓ifLtF, ↓ifEqT, ↓ifEqF, if_tt, if_ff, if_pos, if_neg, nLe, nLt, nEq, nInT, nCl, pk_mul, nI_add, Nat.reduceAdd, s_cat_nil, s_cat_i, s_cat_r, s_cat_f, s_cat_l, tl_s, tl_n, cat_i, cat_r, cat_f, nb0, nb1, nbI, if_bI, if_bIr, Nat.zero_le, Nat.reduceLeDiff, lp (nL n c).length 0 _ (Nat.zero_add _), List.drop_zero]
  exact Iff.rfl
theorem m_fbits {w : UInt32} (hw : goodW w) : MT (d + 2) 271 [.float w] h Q ↔ Q (some (.int (nI w.toNat))) h := by
  have e1 : ∀ Q, MT (d + 1) 272 [.float w] h Q ↔ Q (some (.int (nI 0))) h := fun Q => by
    rw [MT_go (by decide) _ _ _ (Nat.le_of_ble_eq_true rfl), show s_entry 272 [.float w] = [.float w] from rfl]
    have c0 : Op.cmpValue (FP.fcmp w w) .l = nI 0 := by
      rw [fcmp_v (good_fin hw) (good_fin hw)]
      unfold compareOfLessAndEq
      rw [if_neg (Nat.lt_irrefl _), if_pos rfl]
      rfl
    simp (disch := omega) only [u_272_0, u_272_1, u_272_2, u_272_3, u_272_6, u_272_7, u_272_10, u_272_11, gI0, gIs, gR0, gRs, gF0, gFs, st0, st_i, st_r, st_f, st_n, st_s, true_and, and_true, ↓ifLeT, ↓ifLeF, ↓ifLtT, ↓ifLtF, ↓ifEqT, ↓ifEqF, if_tt, if_ff, if_pos, if_neg, nLe, nLt, nEq, nInT, nCl, pk_mul, nI_add, Nat.reduceAdd, s_cat_nil, s_cat_i, s_cat_r, s_cat_f, s_cat_l, tl_s, tl_n, cat_i, cat_r, cat_f, nb0, nb1, nbI, if_bI, if_bIr, Nat.zero_le, Nat.reduceLeDiff, c0]
  rw [MT_go (by decide) _ _ _ (Nat.le_of_ble_eq_true rfl), show s_entry 271 [.float w] = [.float w] from rfl]
  simp (disch := omega) only [u_271_0, u_271_1, u_271_4, u_271_7, u_271_8, u_271_11, u_271_12, u_271_14, gI0, gIs, gR0, gRs, gF0, gFs, st0, st_i, st_r, st_f, st_n, st_s, true_and, and_true, ↓ifLeT, ↓ifLeF, ↓ifLtT, ↓ifLtF, ↓ifEqT, ↓ifEqF, if_tt, if_ff, if_pos, if_neg, nLe, nLt, nEq, nInT, nCl, pk_mul, nI_add, Nat.reduceAdd, s_cat_nil, s_cat_i, s_cat_r, s_cat_f, s_cat_l, tl_s, tl_n, cat_i, cat_r, cat_f, nb0, nb1, nbI, if_bI, if_bIr, Nat.zero_le, Nat.reduceLeDiff, e1]
  rw [toI_n]
def n3 (n : tN) (i : Nat) : tN := jW (jA n 7 (midN n).1) (fun c => if c < i then swF (nMoved n c) (nW n c) else nW n c)
theorem r_swing {p : Nat} (hb : rb b) (hn : wfN n) (hr : RR (kA m b) (n3 n p)) (hv : ∀ i, i < nF n 2 → kV m i = nMoved n i) (hp : p < nF n 2) (K : ∀ f, RR f (n3 n (p + 1)) → Q none (pM (xA m b f) h)) : MT (d + 3) 187 [.ref 317, .ref b, .int (nI p)] (pM m h) Q := by
  have h4 := hn.1.1
  have hg := (hn.2.1.1 p hp).2.2.2
  have hnice := good_nice hg
  have i4 : vp_in (nI p) 4 := (nIn (by omega)).mpr (by omega)
  have w3 : nW (n3 n p) p = nW n p := if_neg (Nat.lt_irrefl _)
  have a3 : kA m b (2 + 12 * p + 2) = nI (nW n p).toNat := by rw [← w3]; exact (hr.2.2.1 p hp).2.2.1
  obtain ⟨s1, s2⟩ := sni_ok hg
  have e1 : ∀ Q, MT (d + 2) 179 [.ref b, .int (nI p)] (pM m h) Q ↔ Q (some (.float (nW n p))) (pM m h) := fun Q => by
    rw [MT_go (by decide) _ _ _ (Nat.le_of_ble_eq_true rfl), show s_entry 179 [.ref b, .int (nI p)] = [.ref b, .int (nI p)] from rfl]
    simp (disch := omega) only [u_179_0, u_179_1, u_179_2, u_179_3, u_179_6, u_179_7, u_179_10, gI0, gIs, gR0, gRs, gF0, gFs, st0, st_i, st_r, st_f, st_n, st_s, true_and, and_true, ↓ifLeT, ↓ifLeF, ↓ifLtT, ↓ifLtF, ↓ifEqT, ↓ifEqF, if_tt, if_ff, if_pos, if_neg, nLe, nLt, nEq, nInT, nCl, pk_mul, nI_add, Nat.reduceAdd, s_cat_nil, s_cat_i, s_cat_r, s_cat_f, s_cat_l, tl_s, tl_n, cat_i, cat_r, cat_f, nb0, nb1, nbI, if_bI, if_bIr, Nat.zero_le, Nat.reduceLeDiff, m_cAt, M_r hb, a3, s1, s2]
  have e2 := fun Q => m_fbits (d := d) (h := pM m h) (Q := Q) (good_sw (b := nMoved n p) hg)
  have vp := hv p hp
  have fin : RR (upd (kA m b) (2 + 12 * p + 2) (nI (swF (nMoved n p) (nW n p)).toNat)) (n3 n (p + 1)) := by
    refine RR_ext (RR_swy (n := n3 n p) (w := swF (nMoved n p) (nW n p)) h4 (fun c => wfL_len hn.1 hn.2.2.2 c) hp hr) rfl rfl rfl (fun c hc => ⟨rfl, rfl, ?_, rfl⟩) fun t ht => ⟨rfl, rfl, rfl, rfl, rfl, rfl, rfl⟩
    show (if c < p + 1 then swF (nMoved n c) (nW n c) else nW n c) = if c = p then swF (nMoved n p) (nW n p) else if c < p then swF (nMoved n c) (nW n c) else nW n c
    by_cases e : c = p
    · rw [if_pos (by omega), if_pos e, e]
    · rw [if_neg e]
      by_cases e2 : c < p
      · rw [if_pos (by omega), if_pos e2]
      · rw [if_neg (by omega), if_neg e2]
  rw [MT_go (by decide) _ _ _ (Nat.le_of_ble_eq_true rfl), show s_entry 187 [.ref 317, .ref b, .int (nI p)] = [.ref 317, .ref b, .int (nI p), s_no] from rfl]
  obtain ⟨z1, z2, z3⟩ := hnice
  cases hm : nMoved n p with
  | true =>
    rw [hm] at vp e2 fin
    have e2 : ∀ Q, MT (d + 2) 271 [.float (FP.fadd (FP.fmul (nW n p) 1061158912) 1069547520)] (pM m h) Q ↔ _ := e2
    simp (disch := omega) only [u_187_0, u_187_1, u_187_2, u_187_5, u_187_6, u_187_7, u_187_10, u_187_11, u_187_12, u_187_15, u_187_16, u_187_19, u_187_20, u_187_21, u_187_22, u_187_25, u_187_26, u_187_27, u_187_30, u_187_31, u_187_34, u_187_35, u_187_36, u_187_37, u_187_38, u_187_39, u_187_42, u_187_43, u_187_46, u_187_47, gI0, gIs, gR0, gRs, gF0, gFs, st0, st_i, st_r, st_f, st_n, st_s, true_and, and_true, ↓ifLeT, ↓ifLeF, ↓ifLtT, ↓ifLtF, ↓ifEqT, ↓ifEqF, if_tt, if_ff, if_pos, if_neg, nLe, nLt, nEq, nInT, nCl, pk_mul, nI_add, Nat.reduceAdd, s_cat_nil, s_cat_i, s_cat_r, s_cat_f, s_cat_l, tl_s, tl_n, cat_i, cat_r, cat_f, nb0, nb1, nbI, if_bI, if_bIr, Nat.zero_le, Nat.reduceLeDiff, M_ob, M_g0, M_g1, M_g2, M_g3, M_g4, M_g5, M_g6, M_g7, M_g8, M_g9, M_g10, M_g11, M_g12, M_g13, M_g14, M_g15, M_g16, M_g17, M_g18, M_g19, M_g20, M_g21, M_g22, M_g23, M_g24, M_g25, M_g26, M_g27, M_g28, M_g29, M_g30, M_g31, M_g32, M_g33, M_g34, M_g35, M_g36, M_g37, M_g38, M_g39, M_g40, M_g41, e1, M_a328, i4, vp, iBt, nI10, reduceIte, z1, z2, m_cAt, e2, M_rw hb]
    exact K _ fin
  | false =>
    rw [hm] at vp e2 fin
    have e2 : ∀ Q, MT (d + 2) 271 [.float (FP.fmul (nW n p) 1056964608)] (pM m h) Q ↔ _ := e2
    simp (disch := omega) only [u_187_0, u_187_1, u_187_2, u_187_5, u_187_6, u_187_7, u_187_10, u_187_11, u_187_12, u_187_15, u_187_16, u_187_19, u_187_20, u_187_21, u_187_22, u_187_25, u_187_26, u_187_27, u_187_30, u_187_31, u_187_34, u_187_35, u_187_36, u_187_37, u_187_38, u_187_39, u_187_42, u_187_43, u_187_46, u_187_47, gI0, gIs, gR0, gRs, gF0, gFs, st0, st_i, st_r, st_f, st_n, st_s, true_and, and_true, ↓ifLeT, ↓ifLeF, ↓ifLtT, ↓ifLtF, ↓ifEqT, ↓ifEqF, if_tt, if_ff, if_pos, if_neg, nLe, nLt, nEq, nInT, nCl, pk_mul, nI_add, Nat.reduceAdd, s_cat_nil, s_cat_i, s_cat_r, s_cat_f, s_cat_l, tl_s, tl_n, cat_i, cat_r, cat_f, nb0, nb1, nbI, if_bI, if_bIr, Nat.zero_le, Nat.reduceLeDiff, M_ob, M_g0, M_g1, M_g2, M_g3, M_g4, M_g5, M_g6, M_g7, M_g8, M_g9, M_g10, M_g11, M_g12, M_g13, M_g14, M_g15, M_g16, M_g17, M_g18, M_g19, M_g20, M_g21, M_g22, M_g23, M_g24, M_g25, M_g26, M_g27, M_g28, M_g29, M_g30, M_g31, M_g32, M_g33, M_g34, M_g35, M_g36, M_g37, M_g38, M_g39, M_g40, M_g41, e1, M_a328, i4, vp, iBf, reduceIte, z3, m_cAt, e2, M_rw hb]
    exact K _ fin
theorem find_cg {p q : Nat → Bool} : ∀ {l : List Nat}, (∀ t, t ∈ l → p t = q t) → l.find? p = l.find? q
  | [], _ => rfl
  | a :: l, h => by rw [List.find?_cons, List.find?_cons, h a List.mem_cons_self, find_cg fun t ht => h t (List.mem_cons_of_mem _ ht)]
def n4 (n : tN) (i : Nat) : tN := jX (jX (jA (n3 n (nF n 2)) 16 (nDidK n i)) 17 (nX17K n i)) 18 (nX18K n i)
theorem wb_4 (hn : wfN n) {i : Nat} : wb (n4 n i) := by
  refine ⟨hn.1.1, hn.1.2.1, hn.2.2.2, fun t ht => ?_⟩
  obtain ⟨-, -, a3, -, -, a6, -⟩ := hn.2.2.1 t ht
  refine ⟨show nA n 13 t ≤ 1000 by omega, ?_⟩
  show nDidK n i t ≤ 1000
  unfold nDidK
  split <;> omega
theorem next_4 (hn : wfN n) {i : Nat} : nNext (n4 n i) i = nNext n i := by
  unfold nNext
  show (nL n i).find? _ = (nL n i).find? _
  have : ∀ t, t ∈ nL n i → (!nDone (n4 n i) t) = (!nDone n t) := fun t ht => by
    have e : nDidK n i t = nA n 16 t := by
      unfold nDidK
      cases hb : nByK n i t with
      | none => rfl
      | some q =>
        obtain ⟨q1, q2, q3⟩ := by_some hb
        have := (next_lt hn.2.2.2 q3).2.1
        have := hn.2.2.2.2.2 q i t this ht
        omega
    unfold nDone
    show (!decide (nDidK n i t = nA n 13 t)) = _
    rw [e]
  exact find_cg this
theorem r_work {p : Nat} (hb : rb b) (hn : wfN n) (hr : RR (kA m b) (n4 n p)) (hp : p < nF n 2) (hw : nWorks n p = true) (K : ∀ f, RR f (n4 n (p + 1)) → Q none (pM (xA m b f) h)) : MT (d + 4) 188 [.ref 317, .ref b, .int (nI p)] (pM m h) Q := by
  have h4 := hn.1.1
  have h8 := hn.1.2.1
  obtain ⟨t, ht⟩ := works_next hw
  obtain ⟨t1, t2, t3⟩ := next_lt hn.2.2.2 ht
  obtain ⟨y1, y2⟩ := by_new hn.2.2.2 hw ht
  have e1 := fun Q => w_next (d := d) (h := h) (Q := Q) hb (wb_4 hn) hr hp
  rw [next_4 hn, ht] at e1
  have o : oI1 (some t) = nI t := rfl
  have dk : nDidK n p t = nA n 16 t := by unfold nDidK; rw [y1]; rfl
  have a5 : kA m b (50 + 7 * t + 4) = nI (nA n 16 t) := by rw [← dk]; exact (hr.2.2.2 t t1).2.2.2.2.1
  have a2 : kA m b (50 + 7 * t + 1) = nI (nA n 13 t) := (hr.2.2.2 t t1).2.1
  have a0 : kA m b 0 = nI (nF n 4) := hr.1
  obtain ⟨-, -, b3, -, -, b6, -⟩ := hn.2.2.1 t t1
  have hr1 := RR_did (t := t) (x := nA n 16 t + 1) (wb_4 hn (i := p)).1 (wb_len (wb_4 hn)) hr
  have c1 : (nI 0).toNatClampNeg = 0 := rfl
  have wb1 : wb (jA (n4 n p) 16 (set1 (nA (n4 n p) 16) t (nA n 16 t + 1))) := by
    obtain ⟨w1, w2, w3, w4⟩ := wb_4 hn (i := p)
    refine ⟨w1, w2, w3, fun u hu => ⟨(w4 u hu).1, ?_⟩⟩
    show (if u = t then nA n 16 t + 1 else nA (n4 n p) 16 u) ≤ 1000
    split
    · omega
    · exact (w4 u hu).2
  have e2 := fun Q => w_done (d := d + 1) (m := xA m b (upd (kA m b) (50 + 7 * t + 4) (nI (nA n 16 t + 1)))) (h := h) (Q := Q) (t := t) hb wb1 (by rw [kA_eq]; exact hr1) t1
  have dn : nDone (jA (n4 n p) 16 (set1 (nA (n4 n p) 16) t (nA n 16 t + 1))) t = decide (nA n 16 t + 1 = nA n 13 t) := by
    unfold nDone
    show decide ((if t = t then nA n 16 t + 1 else _) = nA n 13 t) = _
    rw [if_pos rfl]
  rw [dn] at e2
  have same : ∀ u, u ≠ t → nByK n (p + 1) u = nByK n p u := fun u hu => by_same (by rw [hw, ht, Bool.true_and]; exact decide_eq_false (fun e => hu (Option.some.inj e).symm))
  rw [MT_go (by decide) _ _ _ (Nat.le_of_ble_eq_true rfl), show s_entry 188 [.ref 317, .ref b, .int (nI p)] = [.ref 317, .ref b, .int (nI p), s_no] from rfl]
  by_cases hd : nA n 16 t + 1 = nA n 13 t
  · rw [decide_eq_true hd] at e2
    have hr2 := RR_x17 (t := t) (x := nI (nF n 4 + 1)) wb1.1 (wb_len wb1) hr1
    have hr3 := RR_x18 (n := jX (jA (n4 n p) 16 (set1 (nA (n4 n p) 16) t (nA n 16 t + 1))) 17 (set1 (nX (jA (n4 n p) 16 (set1 (nA (n4 n p) 16) t (nA n 16 t + 1))) 17) t (nI (nF n 4 + 1)))) (t := t) (x := nI p) wb1.1 (fun c => wb_len wb1 c) hr2
    have u0 : ∀ g : Nat → Int32, upd (kA m b) (50 + 7 * t + 4) (nI (nA n 16 t + 1)) 0 = nI (nF n 4) := fun _ => (if_neg (by omega)).trans a0
    simp (disch := omega) only [u_188_0, u_188_1, u_188_2, u_188_5, u_188_6, u_188_7, u_188_8, u_188_9, u_188_12, u_188_13, u_188_14, u_188_15, u_188_16, u_188_17, u_188_18, u_188_19, u_188_22, u_188_25, u_188_26, u_188_27, u_188_28, u_188_31, u_188_32, u_188_33, u_188_34, u_188_35, u_188_36, u_188_37, u_188_38, u_188_39, u_188_41, u_188_44, u_188_45, u_188_46, gI0, gIs, gR0, gRs, gF0, gFs, st0, st_i, st_r, st_f, st_n, st_s, true_and, and_true, ↓ifLeT, ↓ifLeF, ↓ifLtT, ↓ifLtF, ↓ifEqT, ↓ifEqF, if_tt, if_ff, if_pos, if_neg, nLe, nLt, nEq, nInT, nCl, pk_mul, nI_add, Nat.reduceAdd, s_cat_nil, s_cat_i, s_cat_r, s_cat_f, s_cat_l, tl_s, tl_n, cat_i, cat_r, cat_f, nb0, nb1, nbI, if_bI, if_bIr, Nat.zero_le, Nat.reduceLeDiff, e1, o, m_tAt, M_r hb, M_rw hb, a5, kA_eq, xA_tw, e2, iBt, nI10, reduceIte, c1, u0 (kA m b)]
    refine K _ (RR_ext hr3 rfl rfl rfl (fun c _ => ⟨rfl, rfl, rfl, rfl⟩) fun u hu => ⟨rfl, rfl, rfl, rfl, ?_, ?_, ?_⟩)
    · show nDidK n (p + 1) u = if u = t then nA n 16 t + 1 else nDidK n p u
      unfold nDidK
      by_cases e : u = t
      · subst e; rw [y2, if_pos rfl]; rfl
      · rw [same u e, if_neg e]
    · show nX17K n (p + 1) u = if u = t then nI (nF n 4 + 1) else nX17K n p u
      unfold nX17K
      by_cases e : u = t
      · subst e; rw [y2, if_pos rfl, if_pos (by rw [decide_eq_true hd]; rfl)]
      · rw [same u e, if_neg e]
    · show nX18K n (p + 1) u = if u = t then nI p else nX18K n p u
      unfold nX18K
      by_cases e : u = t
      · subst e; rw [y2, if_pos rfl]; simp only [hd, if_true]
      · rw [same u e, if_neg e]
  · rw [decide_eq_false hd] at e2
    simp (disch := omega) only [u_188_0, u_188_1, u_188_2, u_188_5, u_188_6, u_188_7, u_188_8, u_188_9, u_188_12, u_188_13, u_188_14, u_188_15, u_188_16, u_188_17, u_188_18, u_188_19, u_188_22, u_188_25, u_188_26, u_188_27, u_188_28, u_188_31, u_188_32, u_188_33, u_188_34, u_188_35, u_188_36, u_188_37, u_188_38, u_188_39, u_188_41, u_188_44, u_188_45, u_188_46, gI0, gIs, gR0, gRs, gF0, gFs, st0, st_i, st_r, st_f, st_n, st_s, true_and, and_true, ↓ifLeT, ↓ifLeF, ↓ifLtT, ↓ifLtF, ↓ifEqT, ↓ifEqF, if_tt, if_ff, if_pos, if_neg, nLe, nLt, nEq, nInT, nCl, pk_mul, nI_add, Nat.reduceAdd, s_cat_nil, s_cat_i, s_cat_r, s_cat_f, s_cat_l, tl_s, tl_n, cat_i, cat_r, cat_f, nb0, nb1, nbI, if_bI, if_bIr, Nat.zero_le, Nat.reduceLeDiff, e1, o, m_tAt, M_r hb, M_rw hb, a5, e2, iBf, reduceIte]
    refine K _ (RR_ext hr1 rfl rfl rfl (fun c _ => ⟨rfl, rfl, rfl, rfl⟩) fun u hu => ⟨rfl, rfl, rfl, rfl, ?_, ?_, ?_⟩)
    · show nDidK n (p + 1) u = if u = t then nA n 16 t + 1 else nDidK n p u
      unfold nDidK
      by_cases e : u = t
      · subst e; rw [y2, if_pos rfl]; rfl
      · rw [same u e, if_neg e]
    · show nX17K n (p + 1) u = nX17K n p u
      unfold nX17K
      by_cases e : u = t
      · subst e; rw [y2, y1, if_neg (by rw [decide_eq_false hd]; simp), if_neg (by simp)]
      · rw [same u e]
    · show nX18K n (p + 1) u = nX18K n p u
      unfold nX18K
      by_cases e : u = t
      · subst e; rw [y2, y1]; simp only [hd, if_false]
      · rw [same u e]
theorem n4_skip {p : Nat} {f : Nat → Int32} (hr : RR f (n4 n p)) (hw : nWorks n p = false) : RR f (n4 n (p + 1)) := by
  have same : ∀ u, nByK n (p + 1) u = nByK n p u := fun u => by_same (by rw [hw, Bool.false_and])
  refine RR_ext hr rfl rfl rfl (fun c _ => ⟨rfl, rfl, rfl, rfl⟩) fun u hu => ⟨rfl, rfl, rfl, rfl, ?_, ?_, ?_⟩
  · show nDidK n (p + 1) u = nDidK n p u
    unfold nDidK; rw [same u]
  · show nX17K n (p + 1) u = nX17K n p u
    unfold nX17K; rw [same u]
  · show nX18K n (p + 1) u = nX18K n p u
    unfold nX18K; rw [same u]
theorem RR_7 {f : Nat → Int32} (hr : RR f n) : RR f (jA n 7 (nA n 7)) := hr
theorem r_begin_lp (hb : rb b) (hn : wfN n) : ∀ q p m, p + q = nF n 2 → MG m n → RR (kA m b) n → (∀ i, i < p → kA m 327 i = nI (if nWorks n i then 4 else 0) ∧ kV m i = false) → (∀ m', frM b m m' → RR (kA m' b) n → (∀ i, i < nF n 2 → kA m' 327 i = nI (if nWorks n i then 4 else 0) ∧ kV m' i = false) → WP (d + 5) 189 42 [.ref 317, .ref b, .int (nI (nF n 2))] [] (pM m' h) (0, 0) Q) → WP (d + 5) 189 2 [.ref 317, .ref b, .int (nI p)] [] (pM m h) (0, 0) Q := by
  have h4 := hn.1.1
  have hb2 := rb_327 hb
  intro q
  induction q with
  | zero =>
    intro p m hp hg hr hd K
    have e : p = nF n 2 := by omega
    subst e
    have g2 := hg.2.2.1
    rw [u_189_2]
    simp (disch := omega) only [u_189_0, u_189_1, u_189_3, u_189_4, u_189_7, u_189_10, u_189_11, u_189_14, u_189_15, u_189_16, u_189_17, u_189_20, u_189_23, u_189_24, u_189_27, u_189_28, u_189_29, u_189_30, u_189_33, u_189_34, u_189_35, u_189_36, u_189_39, u_189_43, u_189_45, u_189_46, u_189_49, u_189_52, u_189_53, u_189_54, u_189_55, u_189_58, u_189_61, u_189_64, u_189_65, u_189_67, u_189_68, u_189_71, u_189_74, u_189_75, u_189_76, u_189_77, u_189_80, u_189_83, u_189_86, u_189_87, u_189_89, u_189_90, u_189_93, u_189_96, u_189_97, u_189_100, u_189_101, u_189_102, u_189_103, u_189_106, u_189_107, u_189_108, u_189_109, u_189_112, u_189_115, u_189_118, u_189_119, u_189_120, u_189_121, u_189_122, u_189_123, u_189_124, u_189_125, gI0, gIs, gR0, gRs, gF0, gFs, st0, st_i, st_r, st_f, st_n, st_s, true_and, and_true, ↓ifLeT, ↓ifLeF, ↓ifLtT, ↓ifLtF, ↓ifEqT, ↓ifEqF, if_tt, if_ff, if_pos, if_neg, nLe, nLt, nEq, nInT, nCl, pk_mul, nI_add, Nat.reduceAdd, s_cat_nil, s_cat_i, s_cat_r, s_cat_f, s_cat_l, tl_s, tl_n, cat_i, cat_r, cat_f, nb0, nb1, nbI, if_bI, if_bIr, Nat.zero_le, Nat.reduceLeDiff, M_g0, M_g1, M_g2, M_g3, M_g4, M_g5, M_g6, M_g7, M_g8, M_g9, M_g10, M_g11, M_g12, M_g13, M_g14, M_g15, M_g16, M_g17, M_g18, M_g19, M_g20, M_g21, M_g22, M_g23, M_g24, M_g25, M_g26, M_g27, M_g28, M_g29, M_g30, M_g31, M_g32, M_g33, M_g34, M_g35, M_g36, M_g37, M_g38, M_g39, M_g40, M_g41, g2]
    exact K m frM_r hr hd
  | succ q ih =>
    intro p m hp hg hr hd K
    have g2 := hg.2.2.1
    have i4 : vp_in (nI p) 4 := (nIn (by omega)).mpr (by omega)
    have e1 := fun Q => r_works (d := d + 1) (h := h) (Q := Q) hb hn hr (show p < nF n 2 by omega)
    have go : ∀ v, v = (if nWorks n p then 4 else 0) → WP (d + 5) 189 2 [.ref 317, .ref b, .int (nI (p + 1))] [] (pM (xV (xA m 327 (upd (kA m 327) p (nI v))) (updB (kV m) p false)) h) (0, 0) Q := fun v hv => by
      refine ih (p + 1) _ (by omega) (MG_fr hb hg (frM_t frM_d frM_v)) (by rw [kA_xV, kA_ne hb2.1]; exact hr) (fun i hi => ?_) fun m' h1 h2 h3 => K m' (frM_t (frM_t frM_d frM_v) h1) h2 h3
      rw [kA_xV, kA_eq]
      show upd (kA m 327) p (nI v) i = _ ∧ (if i = p then false else kV m i) = false
      unfold upd
      by_cases e : i = p
      · subst e
        rw [if_pos rfl, if_pos rfl, hv]
        exact ⟨rfl, rfl⟩
      · rw [if_neg e, if_neg e]
        exact hd i (by omega)
    rw [u_189_2]
    cases hw : nWorks n p with
    | true =>
      rw [hw] at e1 go
      simp (disch := omega) only [u_189_0, u_189_1, u_189_3, u_189_4, u_189_7, u_189_10, u_189_11, u_189_14, u_189_15, u_189_16, u_189_17, u_189_20, u_189_23, u_189_24, u_189_27, u_189_28, u_189_29, u_189_30, u_189_33, u_189_34, u_189_35, u_189_36, u_189_39, u_189_43, u_189_45, u_189_46, u_189_49, u_189_52, u_189_53, u_189_54, u_189_55, u_189_58, u_189_61, u_189_64, u_189_65, u_189_67, u_189_68, u_189_71, u_189_74, u_189_75, u_189_76, u_189_77, u_189_80, u_189_83, u_189_86, u_189_87, u_189_89, u_189_90, u_189_93, u_189_96, u_189_97, u_189_100, u_189_101, u_189_102, u_189_103, u_189_106, u_189_107, u_189_108, u_189_109, u_189_112, u_189_115, u_189_118, u_189_119, u_189_120, u_189_121, u_189_122, u_189_123, u_189_124, u_189_125, gI0, gIs, gR0, gRs, gF0, gFs, st0, st_i, st_r, st_f, st_n, st_s, true_and, and_true, ↓ifLeT, ↓ifLeF, ↓ifLtT, ↓ifLtF, ↓ifEqT, ↓ifEqF, if_tt, if_ff, if_pos, if_neg, nLe, nLt, nEq, nInT, nCl, pk_mul, nI_add, Nat.reduceAdd, s_cat_nil, s_cat_i, s_cat_r, s_cat_f, s_cat_l, tl_s, tl_n, cat_i, cat_r, cat_f, nb0, nb1, nbI, if_bI, if_bIr, Nat.zero_le, Nat.reduceLeDiff, M_ob, M_g0, M_g1, M_g2, M_g3, M_g4, M_g5, M_g6, M_g7, M_g8, M_g9, M_g10, M_g11, M_g12, M_g13, M_g14, M_g15, M_g16, M_g17, M_g18, M_g19, M_g20, M_g21, M_g22, M_g23, M_g24, M_g25, M_g26, M_g27, M_g28, M_g29, M_g30, M_g31, M_g32, M_g33, M_g34, M_g35, M_g36, M_g37, M_g38, M_g39, M_g40, M_g41, g2, e1, iBt, nI10, reduceIte, M_w327, M_w328f, i4]
      exact go 4 rfl
    | false =>
      rw [hw] at e1 go
      simp (disch := omega) only [u_189_0, u_189_1, u_189_3, u_189_4, u_189_7, u_189_10, u_189_11, u_189_14, u_189_15, u_189_16, u_189_17, u_189_20, u_189_23, u_189_24, u_189_27, u_189_28, u_189_29, u_189_30, u_189_33, u_189_34, u_189_35, u_189_36, u_189_39, u_189_43, u_189_45, u_189_46, u_189_49, u_189_52, u_189_53, u_189_54, u_189_55, u_189_58, u_189_61, u_189_64, u_189_65, u_189_67, u_189_68, u_189_71, u_189_74, u_189_75, u_189_76, u_189_77, u_189_80, u_189_83, u_189_86, u_189_87, u_189_89, u_189_90, u_189_93, u_189_96, u_189_97, u_189_100, u_189_101, u_189_102, u_189_103, u_189_106, u_189_107, u_189_108, u_189_109, u_189_112, u_189_115, u_189_118, u_189_119, u_189_120, u_189_121, u_189_122, u_189_123, u_189_124, u_189_125, gI0, gIs, gR0, gRs, gF0, gFs, st0, st_i, st_r, st_f, st_n, st_s, true_and, and_true, ↓ifLeT, ↓ifLeF, ↓ifLtT, ↓ifLtF, ↓ifEqT, ↓ifEqF, if_tt, if_ff, if_pos, if_neg, nLe, nLt, nEq, nInT, nCl, pk_mul, nI_add, Nat.reduceAdd, s_cat_nil, s_cat_i, s_cat_r, s_cat_f, s_cat_l, tl_s, tl_n, cat_i, cat_r, cat_f, nb0, nb1, nbI, if_bI, if_bIr, Nat.zero_le, Nat.reduceLeDiff, M_ob, M_g0, M_g1, M_g2, M_g3, M_g4, M_g5, M_g6, M_g7, M_g8, M_g9, M_g10, M_g11, M_g12, M_g13, M_g14, M_g15, M_g16, M_g17, M_g18, M_g19, M_g20, M_g21, M_g22, M_g23, M_g24, M_g25, M_g26, M_g27, M_g28, M_g29, M_g30, M_g31, M_g32, M_g33, M_g34, M_g35, M_g36, M_g37, M_g38, M_g39, M_g40, M_g41, g2, e1, iBf, reduceIte, M_w327, M_w328f, i4]
      exact go 0 rfl
theorem r_steps_lp (hb : rb b) (hn : wfN n) : ∀ q p m s, p + q = nF n 2 → MG m n → SR m b n s p → jN n s → (∀ m', frM b m m' → SR m' b n (iter (nStep n) p q s) (nF n 2) → WP (d + 7) 189 64 [.ref 317, .ref b, .int (nI (nF n 2))] [] (pM m' h) (0, 0) Q) → WP (d + 7) 189 44 [.ref 317, .ref b, .int (nI p)] [] (pM m h) (0, 0) Q := by
  have h4 := hn.1.1
  intro q
  induction q with
  | zero =>
    intro p m s hp hg hs hj K
    have e : p = nF n 2 := by omega
    subst e
    have g2 := hg.2.2.1
    rw [u_189_44]
    simp (disch := omega) only [u_189_0, u_189_1, u_189_3, u_189_4, u_189_7, u_189_10, u_189_11, u_189_14, u_189_15, u_189_16, u_189_17, u_189_20, u_189_23, u_189_24, u_189_27, u_189_28, u_189_29, u_189_30, u_189_33, u_189_34, u_189_35, u_189_36, u_189_39, u_189_42, u_189_43, u_189_45, u_189_46, u_189_49, u_189_52, u_189_53, u_189_54, u_189_55, u_189_58, u_189_61, u_189_65, u_189_67, u_189_68, u_189_71, u_189_74, u_189_75, u_189_76, u_189_77, u_189_80, u_189_83, u_189_86, u_189_87, u_189_89, u_189_90, u_189_93, u_189_96, u_189_97, u_189_100, u_189_101, u_189_102, u_189_103, u_189_106, u_189_107, u_189_108, u_189_109, u_189_112, u_189_115, u_189_118, u_189_119, u_189_120, u_189_121, u_189_122, u_189_123, u_189_124, u_189_125, gI0, gIs, gR0, gRs, gF0, gFs, st0, st_i, st_r, st_f, st_n, st_s, true_and, and_true, ↓ifLeT, ↓ifLeF, ↓ifLtT, ↓ifLtF, ↓ifEqT, ↓ifEqF, if_tt, if_ff, if_pos, if_neg, nLe, nLt, nEq, nInT, nCl, pk_mul, nI_add, Nat.reduceAdd, s_cat_nil, s_cat_i, s_cat_r, s_cat_f, s_cat_l, tl_s, tl_n, cat_i, cat_r, cat_f, nb0, nb1, nbI, if_bI, if_bIr, Nat.zero_le, Nat.reduceLeDiff, M_g0, M_g1, M_g2, M_g3, M_g4, M_g5, M_g6, M_g7, M_g8, M_g9, M_g10, M_g11, M_g12, M_g13, M_g14, M_g15, M_g16, M_g17, M_g18, M_g19, M_g20, M_g21, M_g22, M_g23, M_g24, M_g25, M_g26, M_g27, M_g28, M_g29, M_g30, M_g31, M_g32, M_g33, M_g34, M_g35, M_g36, M_g37, M_g38, M_g39, M_g40, M_g41, g2]
    exact K m frM_r hs
  | succ q ih =>
    intro p m s hp hg hs hj K
    have g2 := hg.2.2.1
    rw [u_189_44]
    simp (disch := omega) only [u_189_0, u_189_1, u_189_3, u_189_4, u_189_7, u_189_10, u_189_11, u_189_14, u_189_15, u_189_16, u_189_17, u_189_20, u_189_23, u_189_24, u_189_27, u_189_28, u_189_29, u_189_30, u_189_33, u_189_34, u_189_35, u_189_36, u_189_39, u_189_42, u_189_43, u_189_45, u_189_46, u_189_49, u_189_52, u_189_53, u_189_54, u_189_55, u_189_58, u_189_61, u_189_65, u_189_67, u_189_68, u_189_71, u_189_74, u_189_75, u_189_76, u_189_77, u_189_80, u_189_83, u_189_86, u_189_87, u_189_89, u_189_90, u_189_93, u_189_96, u_189_97, u_189_100, u_189_101, u_189_102, u_189_103, u_189_106, u_189_107, u_189_108, u_189_109, u_189_112, u_189_115, u_189_118, u_189_119, u_189_120, u_189_121, u_189_122, u_189_123, u_189_124, u_189_125, gI0, gIs, gR0, gRs, gF0, gFs, st0, st_i, st_r, st_f, st_n, st_s, true_and, and_true, ↓ifLeT, ↓ifLeF, ↓ifLtT, ↓ifLtF, ↓ifEqT, ↓ifEqF, if_tt, if_ff, if_pos, if_neg, nLe, nLt, nEq, nInT, nCl, pk_mul, nI_add, Nat.reduceAdd, s_cat_nil, s_cat_i, s_cat_r, s_cat_f, s_cat_l, tl_s, tl_n, cat_i, cat_r, cat_f, nb0, nb1, nbI, if_bI, if_bIr, Nat.zero_le, Nat.reduceLeDiff, M_ob, M_g0, M_g1, M_g2, M_g3, M_g4, M_g5, M_g6, M_g7, M_g8, M_g9, M_g10, M_g11, M_g12, M_g13, M_g14, M_g15, M_g16, M_g17, M_g18, M_g19, M_g20, M_g21, M_g22, M_g23, M_g24, M_g25, M_g26, M_g27, M_g28, M_g29, M_g30, M_g31, M_g32, M_g33, M_g34, M_g35, M_g36, M_g37, M_g38, M_g39, M_g40, M_g41, g2]
    refine r_steps (d := d) hb hn hg hs hj (by omega) fun m1 f1 s1 => ?_
    simp (disch := omega) only [u_189_0, u_189_1, u_189_3, u_189_4, u_189_7, u_189_10, u_189_11, u_189_14, u_189_15, u_189_16, u_189_17, u_189_20, u_189_23, u_189_24, u_189_27, u_189_28, u_189_29, u_189_30, u_189_33, u_189_34, u_189_35, u_189_36, u_189_39, u_189_42, u_189_43, u_189_45, u_189_46, u_189_49, u_189_52, u_189_53, u_189_54, u_189_55, u_189_58, u_189_61, u_189_65, u_189_67, u_189_68, u_189_71, u_189_74, u_189_75, u_189_76, u_189_77, u_189_80, u_189_83, u_189_86, u_189_87, u_189_89, u_189_90, u_189_93, u_189_96, u_189_97, u_189_100, u_189_101, u_189_102, u_189_103, u_189_106, u_189_107, u_189_108, u_189_109, u_189_112, u_189_115, u_189_118, u_189_119, u_189_120, u_189_121, u_189_122, u_189_123, u_189_124, u_189_125, gI0, gIs, gR0, gRs, gF0, gFs, st0, st_i, st_r, st_f, st_n, st_s, true_and, and_true, ↓ifLeT, ↓ifLeF, ↓ifLtT, ↓ifLtF, ↓ifEqT, ↓ifEqF, if_tt, if_ff, if_pos, if_neg, nLe, nLt, nEq, nInT, nCl, pk_mul, nI_add, Nat.reduceAdd, s_cat_nil, s_cat_i, s_cat_r, s_cat_f, s_cat_l, tl_s, tl_n, cat_i, cat_r, cat_f, nb0, nb1, nbI, if_bI, if_bIr, Nat.zero_le, Nat.reduceLeDiff]
    exact ih (p + 1) m1 (nStep n p s) (by omega) (MG_fr hb hg f1) s1 (jN_step hj (by omega)) fun m' f2 s2 => K m' (frM_t f1 f2) s2
theorem r_swing_lp (hb : rb b) (hn : wfN n) : ∀ q p m, p + q = nF n 2 → MG m n → RR (kA m b) (n3 n p) → (∀ i, i < nF n 2 → kV m i = nMoved n i) → (∀ f, RR f (n3 n (nF n 2)) → WP (d + 3) 189 86 [.ref 317, .ref b, .int (nI (nF n 2))] [] (pM (xA m b f) h) (0, 0) Q) → WP (d + 3) 189 66 [.ref 317, .ref b, .int (nI p)] [] (pM m h) (0, 0) Q := by
  have h4 := hn.1.1
  intro q
  induction q with
  | zero =>
    intro p m hp hg hr hv K
    have e : p = nF n 2 := by omega
    subst e
    have g2 := hg.2.2.1
    rw [u_189_66]
    simp (disch := omega) only [u_189_0, u_189_1, u_189_3, u_189_4, u_189_7, u_189_10, u_189_11, u_189_14, u_189_15, u_189_16, u_189_17, u_189_20, u_189_23, u_189_24, u_189_27, u_189_28, u_189_29, u_189_30, u_189_33, u_189_34, u_189_35, u_189_36, u_189_39, u_189_42, u_189_43, u_189_45, u_189_46, u_189_49, u_189_52, u_189_53, u_189_54, u_189_55, u_189_58, u_189_61, u_189_64, u_189_65, u_189_67, u_189_68, u_189_71, u_189_74, u_189_75, u_189_76, u_189_77, u_189_80, u_189_83, u_189_87, u_189_89, u_189_90, u_189_93, u_189_96, u_189_97, u_189_100, u_189_101, u_189_102, u_189_103, u_189_106, u_189_107, u_189_108, u_189_109, u_189_112, u_189_115, u_189_118, u_189_119, u_189_120, u_189_121, u_189_122, u_189_123, u_189_124, u_189_125, gI0, gIs, gR0, gRs, gF0, gFs, st0, st_i, st_r, st_f, st_n, st_s, true_and, and_true, ↓ifLeT, ↓ifLeF, ↓ifLtT, ↓ifLtF, ↓ifEqT, ↓ifEqF, if_tt, if_ff, if_pos, if_neg, nLe, nLt, nEq, nInT, nCl, pk_mul, nI_add, Nat.reduceAdd, s_cat_nil, s_cat_i, s_cat_r, s_cat_f, s_cat_l, tl_s, tl_n, cat_i, cat_r, cat_f, nb0, nb1, nbI, if_bI, if_bIr, Nat.zero_le, Nat.reduceLeDiff, M_g0, M_g1, M_g2, M_g3, M_g4, M_g5, M_g6, M_g7, M_g8, M_g9, M_g10, M_g11, M_g12, M_g13, M_g14, M_g15, M_g16, M_g17, M_g18, M_g19, M_g20, M_g21, M_g22, M_g23, M_g24, M_g25, M_g26, M_g27, M_g28, M_g29, M_g30, M_g31, M_g32, M_g33, M_g34, M_g35, M_g36, M_g37, M_g38, M_g39, M_g40, M_g41, g2]
    have := K (kA m b) hr
    rw [xA_eta] at this
    exact this
  | succ q ih =>
    intro p m hp hg hr hv K
    have g2 := hg.2.2.1
    rw [u_189_66]
    simp (disch := omega) only [u_189_0, u_189_1, u_189_3, u_189_4, u_189_7, u_189_10, u_189_11, u_189_14, u_189_15, u_189_16, u_189_17, u_189_20, u_189_23, u_189_24, u_189_27, u_189_28, u_189_29, u_189_30, u_189_33, u_189_34, u_189_35, u_189_36, u_189_39, u_189_42, u_189_43, u_189_45, u_189_46, u_189_49, u_189_52, u_189_53, u_189_54, u_189_55, u_189_58, u_189_61, u_189_64, u_189_65, u_189_67, u_189_68, u_189_71, u_189_74, u_189_75, u_189_76, u_189_77, u_189_80, u_189_83, u_189_87, u_189_89, u_189_90, u_189_93, u_189_96, u_189_97, u_189_100, u_189_101, u_189_102, u_189_103, u_189_106, u_189_107, u_189_108, u_189_109, u_189_112, u_189_115, u_189_118, u_189_119, u_189_120, u_189_121, u_189_122, u_189_123, u_189_124, u_189_125, gI0, gIs, gR0, gRs, gF0, gFs, st0, st_i, st_r, st_f, st_n, st_s, true_and, and_true, ↓ifLeT, ↓ifLeF, ↓ifLtT, ↓ifLtF, ↓ifEqT, ↓ifEqF, if_tt, if_ff, if_pos, if_neg, nLe, nLt, nEq, nInT, nCl, pk_mul, nI_add, Nat.reduceAdd, s_cat_nil, s_cat_i, s_cat_r, s_cat_f, s_cat_l, tl_s, tl_n, cat_i, cat_r, cat_f, nb0, nb1, nbI, if_bI, if_bIr, Nat.zero_le, Nat.reduceLeDiff, M_ob, M_g0, M_g1, M_g2, M_g3, M_g4, M_g5, M_g6, M_g7, M_g8, M_g9, M_g10, M_g11, M_g12, M_g13, M_g14, M_g15, M_g16, M_g17, M_g18, M_g19, M_g20, M_g21, M_g22, M_g23, M_g24, M_g25, M_g26, M_g27, M_g28, M_g29, M_g30, M_g31, M_g32, M_g33, M_g34, M_g35, M_g36, M_g37, M_g38, M_g39, M_g40, M_g41, g2]
    refine r_swing (d := d) hb hn hr hv (by omega) fun f hf => ?_
    simp (disch := omega) only [u_189_0, u_189_1, u_189_3, u_189_4, u_189_7, u_189_10, u_189_11, u_189_14, u_189_15, u_189_16, u_189_17, u_189_20, u_189_23, u_189_24, u_189_27, u_189_28, u_189_29, u_189_30, u_189_33, u_189_34, u_189_35, u_189_36, u_189_39, u_189_42, u_189_43, u_189_45, u_189_46, u_189_49, u_189_52, u_189_53, u_189_54, u_189_55, u_189_58, u_189_61, u_189_64, u_189_65, u_189_67, u_189_68, u_189_71, u_189_74, u_189_75, u_189_76, u_189_77, u_189_80, u_189_83, u_189_87, u_189_89, u_189_90, u_189_93, u_189_96, u_189_97, u_189_100, u_189_101, u_189_102, u_189_103, u_189_106, u_189_107, u_189_108, u_189_109, u_189_112, u_189_115, u_189_118, u_189_119, u_189_120, u_189_121, u_189_122, u_189_123, u_189_124, u_189_125, gI0, gIs, gR0, gRs, gF0, gFs, st0, st_i, st_r, st_f, st_n, st_s, true_and, and_true, ↓ifLeT, ↓ifLeF, ↓ifLtT, ↓ifLtF, ↓ifEqT, ↓ifEqF, if_tt, if_ff, if_pos, if_neg, nLe, nLt, nEq, nInT, nCl, pk_mul, nI_add, Nat.reduceAdd, s_cat_nil, s_cat_i, s_cat_r, s_cat_f, s_cat_l, tl_s, tl_n, cat_i, cat_r, cat_f, nb0, nb1, nbI, if_bI, if_bIr, Nat.zero_le, Nat.reduceLeDiff]
    refine ih (p + 1) _ (by omega) (MG_fr hb hg frM_b) (by rw [kA_eq]; exact hf) hv fun f2 hf2 => ?_
    rw [xA_tw]
    exact K f2 hf2
theorem r_work_lp (hb : rb b) (hn : wfN n) : ∀ q p m, p + q = nF n 2 → MG m n → RR (kA m b) (n4 n p) → (∀ i, i < nF n 2 → kA m 327 i = nI (nDeed n i)) → (∀ f, RR f (n4 n (nF n 2)) → WP (d + 4) 189 118 [.ref 317, .ref b, .int (nI (nF n 2))] [] (pM (xA m b f) h) (0, 0) Q) → WP (d + 4) 189 88 [.ref 317, .ref b, .int (nI p)] [] (pM m h) (0, 0) Q := by
  have h4 := hn.1.1
  have hb2 := rb_327 hb
  intro q
  induction q with
  | zero =>
    intro p m hp hg hr hd K
    have e : p = nF n 2 := by omega
    subst e
    have g2 := hg.2.2.1
    rw [u_189_88]
    simp (disch := omega) only [u_189_0, u_189_1, u_189_3, u_189_4, u_189_7, u_189_10, u_189_11, u_189_14, u_189_15, u_189_16, u_189_17, u_189_20, u_189_23, u_189_24, u_189_27, u_189_28, u_189_29, u_189_30, u_189_33, u_189_34, u_189_35, u_189_36, u_189_39, u_189_42, u_189_43, u_189_45, u_189_46, u_189_49, u_189_52, u_189_53, u_189_54, u_189_55, u_189_58, u_189_61, u_189_64, u_189_65, u_189_67, u_189_68, u_189_71, u_189_74, u_189_75, u_189_76, u_189_77, u_189_80, u_189_83, u_189_86, u_189_87, u_189_89, u_189_90, u_189_93, u_189_96, u_189_97, u_189_100, u_189_101, u_189_102, u_189_103, u_189_106, u_189_107, u_189_108, u_189_109, u_189_112, u_189_115, u_189_119, u_189_120, u_189_121, u_189_122, u_189_123, u_189_124, u_189_125, gI0, gIs, gR0, gRs, gF0, gFs, st0, st_i, st_r, st_f, st_n, st_s, true_and, and_true, ↓ifLeT, ↓ifLeF, ↓ifLtT, ↓ifLtF, ↓ifEqT, ↓ifEqF, if_tt, if_ff, if_pos, if_neg, nLe, nLt, nEq, nInT, nCl, pk_mul, nI_add, Nat.reduceAdd, s_cat_nil, s_cat_i, s_cat_r, s_cat_f, s_cat_l, tl_s, tl_n, cat_i, cat_r, cat_f, nb0, nb1, nbI, if_bI, if_bIr, Nat.zero_le, Nat.reduceLeDiff, M_g0, M_g1, M_g2, M_g3, M_g4, M_g5, M_g6, M_g7, M_g8, M_g9, M_g10, M_g11, M_g12, M_g13, M_g14, M_g15, M_g16, M_g17, M_g18, M_g19, M_g20, M_g21, M_g22, M_g23, M_g24, M_g25, M_g26, M_g27, M_g28, M_g29, M_g30, M_g31, M_g32, M_g33, M_g34, M_g35, M_g36, M_g37, M_g38, M_g39, M_g40, M_g41, g2]
    have := K (kA m b) hr
    rw [xA_eta] at this
    exact this
  | succ q ih =>
    intro p m hp hg hr hd K
    have g2 := hg.2.2.1
    have i4 : vp_in (nI p) 4 := (nIn (by omega)).mpr (by omega)
    have dp := hd p (by omega)
    have d4 := deed_4 hn.2.1 (c := p) (by omega)
    have l4 : nDeed n p ≤ 4 := jN_le (jN_mid hn.2.1) (by omega)
    rw [u_189_88]
    cases hw : nWorks n p with
    | true =>
      have e4 : nDeed n p = 4 := d4.mpr hw
      rw [e4] at dp
      simp (disch := omega) only [u_189_0, u_189_1, u_189_3, u_189_4, u_189_7, u_189_10, u_189_11, u_189_14, u_189_15, u_189_16, u_189_17, u_189_20, u_189_23, u_189_24, u_189_27, u_189_28, u_189_29, u_189_30, u_189_33, u_189_34, u_189_35, u_189_36, u_189_39, u_189_42, u_189_43, u_189_45, u_189_46, u_189_49, u_189_52, u_189_53, u_189_54, u_189_55, u_189_58, u_189_61, u_189_64, u_189_65, u_189_67, u_189_68, u_189_71, u_189_74, u_189_75, u_189_76, u_189_77, u_189_80, u_189_83, u_189_86, u_189_87, u_189_89, u_189_90, u_189_93, u_189_96, u_189_97, u_189_100, u_189_101, u_189_102, u_189_103, u_189_106, u_189_107, u_189_108, u_189_109, u_189_112, u_189_115, u_189_119, u_189_120, u_189_121, u_189_122, u_189_123, u_189_124, u_189_125, gI0, gIs, gR0, gRs, gF0, gFs, st0, st_i, st_r, st_f, st_n, st_s, true_and, and_true, ↓ifLeT, ↓ifLeF, ↓ifLtT, ↓ifLtF, ↓ifEqT, ↓ifEqF, if_tt, if_ff, if_pos, if_neg, nLe, nLt, nEq, nInT, nCl, pk_mul, nI_add, Nat.reduceAdd, s_cat_nil, s_cat_i, s_cat_r, s_cat_f, s_cat_l, tl_s, tl_n, cat_i, cat_r, cat_f, nb0, nb1, nbI, if_bI, if_bIr, Nat.zero_le, Nat.reduceLeDiff, M_ob, M_g0, M_g1, M_g2, M_g3, M_g4, M_g5, M_g6, M_g7, M_g8, M_g9, M_g10, M_g11, M_g12, M_g13, M_g14, M_g15, M_g16, M_g17, M_g18, M_g19, M_g20, M_g21, M_g22, M_g23, M_g24, M_g25, M_g26, M_g27, M_g28, M_g29, M_g30, M_g31, M_g32, M_g33, M_g34, M_g35, M_g36, M_g37, M_g38, M_g39, M_g40, M_g41, g2, M_a327, i4, dp]
      refine r_work (d := d) hb hn hr (by omega) hw fun f hf => ?_
      simp (disch := omega) only [u_189_0, u_189_1, u_189_3, u_189_4, u_189_7, u_189_10, u_189_11, u_189_14, u_189_15, u_189_16, u_189_17, u_189_20, u_189_23, u_189_24, u_189_27, u_189_28, u_189_29, u_189_30, u_189_33, u_189_34, u_189_35, u_189_36, u_189_39, u_189_42, u_189_43, u_189_45, u_189_46, u_189_49, u_189_52, u_189_53, u_189_54, u_189_55, u_189_58, u_189_61, u_189_64, u_189_65, u_189_67, u_189_68, u_189_71, u_189_74, u_189_75, u_189_76, u_189_77, u_189_80, u_189_83, u_189_86, u_189_87, u_189_89, u_189_90, u_189_93, u_189_96, u_189_97, u_189_100, u_189_101, u_189_102, u_189_103, u_189_106, u_189_107, u_189_108, u_189_109, u_189_112, u_189_115, u_189_119, u_189_120, u_189_121, u_189_122, u_189_123, u_189_124, u_189_125, gI0, gIs, gR0, gRs, gF0, gFs, st0, st_i, st_r, st_f, st_n, st_s, true_and, and_true, ↓ifLeT, ↓ifLeF, ↓ifLtT, ↓ifLtF, ↓ifEqT, ↓ifEqF, if_tt, if_ff, if_pos, if_neg, nLe, nLt, nEq, nInT, nCl, pk_mul, nI_add, Nat.reduceAdd, s_cat_nil, s_cat_i, s_cat_r, s_cat_f, s_cat_l, tl_s, tl_n, cat_i, cat_r, cat_f, nb0, nb1, nbI, if_bI, if_bIr, Nat.zero_le, Nat.reduceLeDiff]
      refine ih (p + 1) _ (by omega) (MG_fr hb hg frM_b) (by rw [kA_eq]; exact hf) (fun i hi => by rw [kA_ne (fun e => hb2.1 e.symm)]; exact hd i hi) fun f2 hf2 => ?_
      rw [xA_tw]
      exact K f2 hf2
    | false =>
      have e4 : ¬ nI (nDeed n p) = nI 4 := fun e => by
        have := d4.mp ((nI_eq (by omega) (by decide)).mp e)
        rw [hw] at this; cases this
      simp (disch := omega) only [u_189_0, u_189_1, u_189_3, u_189_4, u_189_7, u_189_10, u_189_11, u_189_14, u_189_15, u_189_16, u_189_17, u_189_20, u_189_23, u_189_24, u_189_27, u_189_28, u_189_29, u_189_30, u_189_33, u_189_34, u_189_35, u_189_36, u_189_39, u_189_42, u_189_43, u_189_45, u_189_46, u_189_49, u_189_52, u_189_53, u_189_54, u_189_55, u_189_58, u_189_61, u_189_64, u_189_65, u_189_67, u_189_68, u_189_71, u_189_74, u_189_75, u_189_76, u_189_77, u_189_80, u_189_83, u_189_86, u_189_87, u_189_89, u_189_90, u_189_93, u_189_96, u_189_97, u_189_100, u_189_101, u_189_102, u_189_103, u_189_106, u_189_107, u_189_108, u_189_109, u_189_112, u_189_115, u_189_119, u_189_120, u_189_121, u_189_122, u_189_123, u_189_124, u_189_125, gI0, gIs, gR0, gRs, gF0, gFs, st0, st_i, st_r, st_f, st_n, st_s, true_and, and_true, ↓ifLeT, ↓ifLeF, ↓ifLtT, ↓ifLtF, ↓ifEqT, ↓ifEqF, if_tt, if_ff, if_pos, if_neg, nLe, nLt, nEq, nInT, nCl, pk_mul, nI_add, Nat.reduceAdd, s_cat_nil, s_cat_i, s_cat_r, s_cat_f, s_cat_l, tl_s, tl_n, cat_i, cat_r, cat_f, nb0, nb1, nbI, if_bI, if_bIr, Nat.zero_le, Nat.reduceLeDiff, M_ob, M_g0, M_g1, M_g2, M_g3, M_g4, M_g5, M_g6, M_g7, M_g8, M_g9, M_g10, M_g11, M_g12, M_g13, M_g14, M_g15, M_g16, M_g17, M_g18, M_g19, M_g20, M_g21, M_g22, M_g23, M_g24, M_g25, M_g26, M_g27, M_g28, M_g29, M_g30, M_g31, M_g32, M_g33, M_g34, M_g35, M_g36, M_g37, M_g38, M_g39, M_g40, M_g41, g2, M_a327, i4, dp, e4]
      exact ih (p + 1) _ (by omega) hg (n4_skip hr hw) hd K
theorem r_minute (hb : rb b) (hn : wfN n) (hg : MG m n) (hr : RR (kA m b) n) (K : ∀ m', frM b m m' → RR (kA m' b) (passN n) → (∀ c, c < nF n 2 → kA m' 327 c = nI (nDeed n c)) → Q none (pM m' h)) : MT (d + 8) 189 [.ref 317, .ref b] (pM m h) Q := by
  have h4 := hn.1.1
  have hb2 := rb_327 hb
  rw [MT_go (by decide) _ _ _ (Nat.le_of_ble_eq_true rfl), show s_entry 189 [.ref 317, .ref b] = [.ref 317, .ref b, s_no] from rfl]
  simp (disch := omega) only [u_189_0, u_189_1, u_189_3, u_189_4, u_189_7, u_189_10, u_189_11, u_189_14, u_189_15, u_189_16, u_189_17, u_189_20, u_189_23, u_189_24, u_189_27, u_189_28, u_189_29, u_189_30, u_189_33, u_189_34, u_189_35, u_189_36, u_189_39, u_189_42, u_189_43, u_189_45, u_189_46, u_189_49, u_189_52, u_189_53, u_189_54, u_189_55, u_189_58, u_189_61, u_189_64, u_189_65, u_189_67, u_189_68, u_189_71, u_189_74, u_189_75, u_189_76, u_189_77, u_189_80, u_189_83, u_189_86, u_189_87, u_189_89, u_189_90, u_189_93, u_189_96, u_189_97, u_189_100, u_189_101, u_189_102, u_189_103, u_189_106, u_189_107, u_189_108, u_189_109, u_189_112, u_189_115, u_189_118, u_189_119, u_189_120, u_189_121, u_189_122, u_189_123, u_189_124, u_189_125, gI0, gIs, gR0, gRs, gF0, gFs, st0, st_i, st_r, st_f, st_n, st_s, true_and, and_true, ↓ifLeT, ↓ifLeF, ↓ifLtT, ↓ifLtF, ↓ifEqT, ↓ifEqF, if_tt, if_ff, if_pos, if_neg, nLe, nLt, nEq, nInT, nCl, pk_mul, nI_add, Nat.reduceAdd, s_cat_nil, s_cat_i, s_cat_r, s_cat_f, s_cat_l, tl_s, tl_n, cat_i, cat_r, cat_f, nb0, nb1, nbI, if_bI, if_bIr, Nat.zero_le, Nat.reduceLeDiff]
  refine r_begin_lp (d := d + 2) hb hn (nF n 2) 0 m (Nat.zero_add _) hg hr (fun i hi => absurd hi (Nat.not_lt_zero i)) fun m1 f1 r1 d1 => ?_
  simp (disch := omega) only [u_189_0, u_189_1, u_189_3, u_189_4, u_189_7, u_189_10, u_189_11, u_189_14, u_189_15, u_189_16, u_189_17, u_189_20, u_189_23, u_189_24, u_189_27, u_189_28, u_189_29, u_189_30, u_189_33, u_189_34, u_189_35, u_189_36, u_189_39, u_189_42, u_189_43, u_189_45, u_189_46, u_189_49, u_189_52, u_189_53, u_189_54, u_189_55, u_189_58, u_189_61, u_189_64, u_189_65, u_189_67, u_189_68, u_189_71, u_189_74, u_189_75, u_189_76, u_189_77, u_189_80, u_189_83, u_189_86, u_189_87, u_189_89, u_189_90, u_189_93, u_189_96, u_189_97, u_189_100, u_189_101, u_189_102, u_189_103, u_189_106, u_189_107, u_189_108, u_189_109, u_189_112, u_189_115, u_189_118, u_189_119, u_189_120, u_189_121, u_189_122, u_189_123, u_189_124, u_189_125, gI0, gIs, gR0, gRs, gF0, gFs, st0, st_i, st_r, st_f, st_n, st_s, true_and, and_true, ↓ifLeT, ↓ifLeF, ↓ifLtT, ↓ifLtF, ↓ifEqT, ↓ifEqF, if_tt, if_ff, if_pos, if_neg, nLe, nLt, nEq, nInT, nCl, pk_mul, nI_add, Nat.reduceAdd, s_cat_nil, s_cat_i, s_cat_r, s_cat_f, s_cat_l, tl_s, tl_n, cat_i, cat_r, cat_f, nb0, nb1, nbI, if_bI, if_bIr, Nat.zero_le, Nat.reduceLeDiff]
  have hg1 := MG_fr hb hg f1
  have s1 : SR m1 b n (nA n 7, nDeed0 n) 0 := by
    refine ⟨RR_7 r1, fun i hi => ?_, fun i hi => ?_⟩
    · rw [(d1 i hi).1]
      congr 1
      show _ = if 0 ≤ i ∧ nDeed0 n i = 3 then 0 else nDeed0 n i
      cases hw : nWorks n i with
      | true =>
        have e4 := deed0_4.mpr hw
        rw [e4, if_pos rfl, if_neg (by omega)]
      | false =>
        rw [if_neg (by decide)]
        rcases deed0_le n i with e | e | e
        · rw [e, if_neg (by omega)]
        · rw [e, if_pos (by omega)]
        · have := deed0_4.mp e; rw [hw] at this; cases this
    · rw [(d1 i hi).2]
      show false = (decide (nDeed0 n i = 1) || decide (nDeed0 n i = 2))
      rcases deed0_le n i with e | e | e <;> rw [e] <;> rfl
  refine r_steps_lp (d := d) hb hn (nF n 2) 0 m1 _ (Nat.zero_add _) hg1 s1 (jN_0 hn.2.1) fun m2 g2 s2 => ?_
  simp (disch := omega) only [u_189_0, u_189_1, u_189_3, u_189_4, u_189_7, u_189_10, u_189_11, u_189_14, u_189_15, u_189_16, u_189_17, u_189_20, u_189_23, u_189_24, u_189_27, u_189_28, u_189_29, u_189_30, u_189_33, u_189_34, u_189_35, u_189_36, u_189_39, u_189_42, u_189_43, u_189_45, u_189_46, u_189_49, u_189_52, u_189_53, u_189_54, u_189_55, u_189_58, u_189_61, u_189_64, u_189_65, u_189_67, u_189_68, u_189_71, u_189_74, u_189_75, u_189_76, u_189_77, u_189_80, u_189_83, u_189_86, u_189_87, u_189_89, u_189_90, u_189_93, u_189_96, u_189_97, u_189_100, u_189_101, u_189_102, u_189_103, u_189_106, u_189_107, u_189_108, u_189_109, u_189_112, u_189_115, u_189_118, u_189_119, u_189_120, u_189_121, u_189_122, u_189_123, u_189_124, u_189_125, gI0, gIs, gR0, gRs, gF0, gFs, st0, st_i, st_r, st_f, st_n, st_s, true_and, and_true, ↓ifLeT, ↓ifLeF, ↓ifLtT, ↓ifLtF, ↓ifEqT, ↓ifEqF, if_tt, if_ff, if_pos, if_neg, nLe, nLt, nEq, nInT, nCl, pk_mul, nI_add, Nat.reduceAdd, s_cat_nil, s_cat_i, s_cat_r, s_cat_f, s_cat_l, tl_s, tl_n, cat_i, cat_r, cat_f, nb0, nb1, nbI, if_bI, if_bIr, Nat.zero_le, Nat.reduceLeDiff]
  have hg2 := MG_fr hb hg1 g2
  have s2 : SR m2 b n (midN n) (nF n 2) := s2
  have dd : ∀ i, i < nF n 2 → kA m2 327 i = nI (nDeed n i) := fun i hi => by
    rw [s2.2.1 i hi, if_neg (by omega)]
    rfl
  have vv : ∀ i, i < nF n 2 → kV m2 i = nMoved n i := fun i hi => s2.2.2 i hi
  have e3 : ∀ c, nW (n3 n 0) c = nW n c := fun c => by
    show (if c < 0 then swF (nMoved n c) (nW n c) else nW n c) = _
    rw [if_neg (Nat.not_lt_zero c)]
  refine r_swing_lp (d := d + 4) hb hn (nF n 2) 0 m2 (Nat.zero_add _) hg2 (RR_ext s2.1 rfl rfl rfl (fun c _ => ⟨rfl, rfl, e3 c, rfl⟩) fun t _ => ⟨rfl, rfl, rfl, rfl, rfl, rfl, rfl⟩) vv fun f hf => ?_
  simp (disch := omega) only [u_189_0, u_189_1, u_189_3, u_189_4, u_189_7, u_189_10, u_189_11, u_189_14, u_189_15, u_189_16, u_189_17, u_189_20, u_189_23, u_189_24, u_189_27, u_189_28, u_189_29, u_189_30, u_189_33, u_189_34, u_189_35, u_189_36, u_189_39, u_189_42, u_189_43, u_189_45, u_189_46, u_189_49, u_189_52, u_189_53, u_189_54, u_189_55, u_189_58, u_189_61, u_189_64, u_189_65, u_189_67, u_189_68, u_189_71, u_189_74, u_189_75, u_189_76, u_189_77, u_189_80, u_189_83, u_189_86, u_189_87, u_189_89, u_189_90, u_189_93, u_189_96, u_189_97, u_189_100, u_189_101, u_189_102, u_189_103, u_189_106, u_189_107, u_189_108, u_189_109, u_189_112, u_189_115, u_189_118, u_189_119, u_189_120, u_189_121, u_189_122, u_189_123, u_189_124, u_189_125, gI0, gIs, gR0, gRs, gF0, gFs, st0, st_i, st_r, st_f, st_n, st_s, true_and, and_true, ↓ifLeT, ↓ifLeF, ↓ifLtT, ↓ifLtF, ↓ifEqT, ↓ifEqF, if_tt, if_ff, if_pos, if_neg, nLe, nLt, nEq, nInT, nCl, pk_mul, nI_add, Nat.reduceAdd, s_cat_nil, s_cat_i, s_cat_r, s_cat_f, s_cat_l, tl_s, tl_n, cat_i, cat_r, cat_f, nb0, nb1, nbI, if_bI, if_bIr, Nat.zero_le, Nat.reduceLeDiff]
  have by0 : ∀ t, nByK n 0 t = none := fun t => rfl
  refine r_work_lp (d := d + 3) hb hn (nF n 2) 0 _ (Nat.zero_add _) (MG_fr hb hg2 frM_b) (by
    rw [kA_eq]
    exact RR_ext hf rfl rfl rfl (fun c _ => ⟨rfl, rfl, rfl, rfl⟩) fun t _ => ⟨rfl, rfl, rfl, rfl, rfl, rfl, rfl⟩) (fun i hi => by rw [kA_ne (fun e => hb2.1 e.symm)]; exact dd i hi) fun f2 hf2 => ?_
  have c1 : (nI 0).toNatClampNeg = 0 := rfl
  have m0 : f2 0 = nI (nF n 4) := hf2.1
  rw [xA_tw]
  simp (disch := omega) only [u_189_0, u_189_1, u_189_3, u_189_4, u_189_7, u_189_10, u_189_11, u_189_14, u_189_15, u_189_16, u_189_17, u_189_20, u_189_23, u_189_24, u_189_27, u_189_28, u_189_29, u_189_30, u_189_33, u_189_34, u_189_35, u_189_36, u_189_39, u_189_42, u_189_43, u_189_45, u_189_46, u_189_49, u_189_52, u_189_53, u_189_54, u_189_55, u_189_58, u_189_61, u_189_64, u_189_65, u_189_67, u_189_68, u_189_71, u_189_74, u_189_75, u_189_76, u_189_77, u_189_80, u_189_83, u_189_86, u_189_87, u_189_89, u_189_90, u_189_93, u_189_96, u_189_97, u_189_100, u_189_101, u_189_102, u_189_103, u_189_106, u_189_107, u_189_108, u_189_109, u_189_112, u_189_115, u_189_118, u_189_119, u_189_120, u_189_121, u_189_122, u_189_123, u_189_124, u_189_125, gI0, gIs, gR0, gRs, gF0, gFs, st0, st_i, st_r, st_f, st_n, st_s, true_and, and_true, ↓ifLeT, ↓ifLeF, ↓ifLtT, ↓ifLtF, ↓ifEqT, ↓ifEqF, if_tt, if_ff, if_pos, if_neg, nLe, nLt, nEq, nInT, nCl, pk_mul, nI_add, Nat.reduceAdd, s_cat_nil, s_cat_i, s_cat_r, s_cat_f, s_cat_l, tl_s, tl_n, cat_i, cat_r, cat_f, nb0, nb1, nbI, if_bI, if_bIr, Nat.zero_le, Nat.reduceLeDiff, M_r hb, M_rw hb, c1, kA_eq, m0, xA_tw]
  refine K _ (frM_t f1 (frM_t g2 frM_b)) ?_ fun c hc => ?_
  · rw [kA_eq]
    obtain ⟨r0, r1', rc, rt⟩ := hf2
    refine ⟨if_pos rfl, (if_neg (by omega)).trans r1', fun c hc => ?_, fun t ht => ?_⟩
    · obtain ⟨a, b', d', e, k'⟩ := rc c hc
      exact ⟨(if_neg (by omega)).trans a, (if_neg (by omega)).trans b', (if_neg (by omega)).trans d', (if_neg (by omega)).trans e, fun q hq => (if_neg (by omega)).trans (k' q hq)⟩
    · obtain ⟨a, b', d', e, k', l, m'⟩ := rt t ht
      exact ⟨(if_neg (by omega)).trans a, (if_neg (by omega)).trans b', (if_neg (by omega)).trans d', (if_neg (by omega)).trans e, (if_neg (by omega)).trans k', (if_neg (by omega)).trans l, (if_neg (by omega)).trans m'⟩
  · rw [kA_ne (fun e => hb2.1 e.symm)]
    exact dd c hc
end MN3
