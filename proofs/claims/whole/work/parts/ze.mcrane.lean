/-! the reference's reader: a crane of a QUAY -/
def frW (m m' : tM) : Prop := (∀ k, k ≠ 3 → k ≠ 4 → k ≠ 5 → k ≠ 6 → k ≠ 7 → kI m' k = kI m k) ∧ kB m' = kB m ∧ ∀ q, q ≠ 322 → kA m' q = kA m q
theorem frW_r {m : tM} : frW m m := ⟨fun _ _ _ _ _ _ => rfl, rfl, fun _ _ => rfl⟩
theorem frW_t {m m' m2 : tM} (h1 : frW m m') (h2 : frW m' m2) : frW m m2 := ⟨fun k a b c e f => (h2.1 k a b c e f).trans (h1.1 k a b c e f), h2.2.1.trans h1.2.1, fun q a => (h2.2.2 q a).trans (h1.2.2 q a)⟩
theorem frW_R {m m' : tM} (h : frR m m') : frW m m' := ⟨h.1, congrArg (·.1) h.2, fun q _ => congrFun (congrArg (·.2.1) h.2) q⟩
theorem frW_5 {m : tM} {x : Int32} : frW m (xI m 5 x) := ⟨fun q _ _ h _ _ => if_neg h, rfl, fun _ _ => rfl⟩
theorem frW_A {m : tM} {f : Nat → Int32} : frW m (xA m 322 f) := ⟨fun _ _ _ _ _ _ => rfl, rfl, fun q h => if_neg h⟩
def frU (m m' : tM) : Prop := (∀ k, k ≠ 3 → k ≠ 4 → k ≠ 5 → k ≠ 6 → k ≠ 7 → k ≠ 14 → k ≠ 15 → k ≠ 16 → kI m' k = kI m k) ∧ kB m' = kB m ∧ ∀ q, q ≠ 321 → q ≠ 322 → kA m' q = kA m q
theorem frU_r {m : tM} : frU m m := ⟨fun _ _ _ _ _ _ _ _ _ => rfl, rfl, fun _ _ _ => rfl⟩
theorem frU_t {m m' m2 : tM} (h1 : frU m m') (h2 : frU m' m2) : frU m m2 := ⟨fun k a b c e f g i j => (h2.1 k a b c e f g i j).trans (h1.1 k a b c e f g i j), h2.2.1.trans h1.2.1, fun q a b => (h2.2.2 q a b).trans (h1.2.2 q a b)⟩
theorem frU_W {m m' : tM} (h : frW m m') : frU m m' := ⟨fun k a b c e f _ _ _ => h.1 k a b c e f, h.2.1, fun q _ b => h.2.2 q b⟩
theorem frU_R {m m' : tM} (h : frR m m') : frU m m' := frU_W (frW_R h)
theorem frU_I {m : tM} {k : Nat} {x : Int32} (hk : k = 5 ∨ k = 14 ∨ k = 15 ∨ k = 16) : frU m (xI m k x) := ⟨fun q a b c e f g i j => if_neg (by omega), rfl, fun _ _ _ => rfl⟩
theorem frU_A {m : tM} {k : Nat} {f : Nat → Int32} (hk : k = 321 ∨ k = 322) : frU m (xA m k f) := ⟨fun _ _ _ _ _ _ _ _ _ => rfl, rfl, fun q a b => if_neg (by omega)⟩
theorem frU_Z {m m' : tM} (h : frU m m') : frZ m m' := ⟨fun k hk => h.1 k (by unfold keyI at hk; omega) (by unfold keyI at hk; omega) (by unfold keyI at hk; omega) (by unfold keyI at hk; omega) (by unfold keyI at hk; omega) (by unfold keyI at hk; omega) (by unfold keyI at hk; omega) (by unfold keyI at hk; omega), h.2.1, fun q hq => h.2.2 q (by unfold keyA at hq; omega) (by unfold keyA at hq; omega)⟩
theorem TT_Z {m m' : tM} {t : tO} (h : frZ m m') (hT : TT m t) : TT m' t := by
  obtain ⟨a, b, c⟩ := hT
  have e := h.2.2 318 (by unfold keyA; decide)
  exact ⟨(h.1 2 (by unfold keyI; decide)).trans a, b, fun j hj => by rw [e]; exact c j hj⟩
theorem GD_k {m : tM} {t : tO} {k : Nat} {x : Int32} (hk : k = 14 ∨ k = 15 ∨ k = 16) (hG : GD m t) : GD (xI m k x) t := by
  obtain ⟨⟨a, b, c⟩, ok, ⟨k4, k3, kk⟩, h5⟩ := hG
  have e : ∀ q, q < 14 → kI (xI m k x) q = kI m q := fun q hq => if_neg (by omega)
  refine ⟨⟨(e 2 (by decide)).trans a, b, c⟩, ok, ⟨(e 4 (by decide)).trans k4, (e 3 (by decide)).trans k3, ?_⟩, (e 5 (by decide)).trans h5⟩
  rw [e 6 (by decide), e 7 (by decide)]
  exact kk
/-- the row that is read tells the draft -/
def RD (m : tM) (y : tY) : Prop := kI m 14 = yB y 0 ∧ kI m 15 = yB y 1 ∧ kI m 16 = nI (yC y) ∧ kA m 322 1 = nI (yT y) ∧ (∀ c, c < yC y → kA m 322 (2 + 12 * c + 0) = yA y 7 c ∧ kA m 321 c = yA y 8 c ∧ yW y c = FP.fconst0) ∧ (∀ t, t < yT y → kA m 322 (50 + 7 * t + 0) = yA y 12 t ∧ kA m 322 (50 + 7 * t + 1) = yA y 13 t ∧ kA m 322 (50 + 7 * t + 2) = yA y 14 t ∧ kA m 322 (50 + 7 * t + 3) = yA y 15 t ∧ yA y 16 t = nI 0 ∧ yA y 17 t = -1 ∧ yA y 18 t = -1) ∧ (∀ c i, c < 4 → 1 ≤ i → i ≤ 3 → kA m 322 (2 + 12 * c + i) = nI 0) ∧ (∀ t, t < 8 → kA m 322 (50 + 7 * t + 4) = nI 0) ∧ kA m 322 0 = nI 0
theorem RD_fr {m m' : tM} {y : tY} (h : frR m m') (hR : RD m y) : RD m' y := by
  have e1 := kA_R h
  have e2 : ∀ k, 14 ≤ k → kI m' k = kI m k := fun k hk => h.1 k (by omega) (by omega) (by omega) (by omega) (by omega)
  unfold RD
  rw [e1, e1, e2 14 (by decide), e2 15 (by decide), e2 16 (by decide)]
  exact hR
theorem RD_C {m : tM} {y : tY} {w l : Int32} (hC : yC y < 4) (hR : RD m y) : RD (xI (xA (xA m 322 (upd (kA m 322) (2 + 12 * yC y + 0) w)) 321 (upd (kA m 321) (yC y) l)) 16 (nI (yC y + 1))) (addC y w l) := by
  obtain ⟨r1, r2, r3, r4, rc, rt, r5, r6, r7⟩ := hR
  have e : addC y w l = uC (uW (uA (uA y 7 (upd (yA y 7) (yC y) w)) 8 (upd (yA y 8) (yC y) l)) (vf_upd (yW y) (yC y) FP.fconst0)) (yC y + 1) := if_pos hC
  have u2 : kA (xI (xA (xA m 322 (upd (kA m 322) (2 + 12 * yC y + 0) w)) 321 (upd (kA m 321) (yC y) l)) 16 (nI (yC y + 1))) 322 = upd (kA m 322) (2 + 12 * yC y + 0) w := rfl
  have u1 : kA (xI (xA (xA m 322 (upd (kA m 322) (2 + 12 * yC y + 0) w)) 321 (upd (kA m 321) (yC y) l)) 16 (nI (yC y + 1))) 321 = upd (kA m 321) (yC y) l := rfl
  unfold RD
  rw [u1, u2, e]
  refine ⟨r1, r2, rfl, (upd_ne (by omega)).trans r4, fun c hc => ?_, fun t ht => ?_, fun c i hc hi hi3 => (upd_ne (by omega)).trans (r5 c i hc hi hi3), fun t ht => (upd_ne (by omega)).trans (r6 t ht), (upd_ne (by omega)).trans r7⟩
  · have hc : c < yC y + 1 := hc
    show _ = upd (yA y 7) (yC y) w c ∧ _ = upd (yA y 8) (yC y) l c ∧ vf_upd (yW y) (yC y) FP.fconst0 c = _
    by_cases q : c = yC y
    · subst q
      exact ⟨(if_pos rfl).trans (if_pos rfl).symm, (if_pos rfl).trans (if_pos rfl).symm, if_pos rfl⟩
    · obtain ⟨a, b, z⟩ := rc c (by omega)
      refine ⟨?_, ?_, ?_⟩
      · rw [upd_ne (by omega), upd_ne q]; exact a
      · rw [upd_ne q, upd_ne q]; exact b
      · unfold vf_upd; rw [if_neg q]; exact z
  · obtain ⟨a1, a2, a3, a4, a5⟩ := rt t ht
    exact ⟨(upd_ne (by omega)).trans a1, (upd_ne (by omega)).trans a2, (upd_ne (by omega)).trans a3, (upd_ne (by omega)).trans a4, a5⟩
section MCR
variable {d : Nat} {m : tM} {t : tO} {y : tY} {h : sH} {Q : sQ} {n : tN}
theorem rdC_f0 (h : isWB t 2 = false) : rdC t y = (false, t, y) := by
  unfold rdC nmB nmT
  rw [h]
  rfl
theorem rdC_f1 (h : isWB t 2 = true) (h2 : isNB (advT t) (lstC y) (yB y 0 - nI 1) = false) : rdC t y = (false, advT t, y) := by
  unfold rdC nmB nmT
  rw [h, h2]
  rfl
theorem rdC_t1 (h : isWB t 2 = true) (h2 : isNB (advT t) (lstC y) (yB y 0 - nI 1) = true) (h3 : isWB (advT (advT t)) 3 = false) : rdC t y = (true, advT (advT t), addC y (eI (advT t) 4) (nI 99)) := by
  unfold rdC nmB nmT
  simp only [h, h2, h3, Bool.and_self, if_true, Bool.false_eq_true, if_false]
theorem rdC_f2 (h : isWB t 2 = true) (h2 : isNB (advT t) (lstC y) (yB y 0 - nI 1) = true) (h3 : isWB (advT (advT t)) 3 = true) (h4 : isNB (advT (advT (advT t))) (nI 1) (nI 99) = false) : rdC t y = (false, advT (advT (advT t)), y) := by
  unfold rdC nmB nmT
  simp only [h, h2, h3, h4, Bool.and_self, if_true, Bool.and_false, Bool.false_eq_true, if_false]
theorem rdC_t2 (h : isWB t 2 = true) (h2 : isNB (advT t) (lstC y) (yB y 0 - nI 1) = true) (h3 : isWB (advT (advT t)) 3 = true) (h4 : isNB (advT (advT (advT t))) (nI 1) (nI 99) = true) : rdC t y = (true, advT (advT (advT (advT t))), addC y (eI (advT t) 4) (eI (advT (advT (advT t))) 4)) := by
  unfold rdC nmB nmT
  simp only [h, h2, h3, h4, Bool.and_self, if_true]
theorem r_crane4 (hG : GD m t) (hR : RD m y) (hC : yC y = 4) (K : Q none (pM (xI m 5 (nI (eN t 2))) h)) : MT (d + 4) 163 [.ref 317] (pM m h) Q := by
  have k16 : kI m 16 = nI 4 := by rw [hR.2.2.1, hC]
  have e2 := fun Q => r_bad0 (d := d + 2) (h := h) (Q := Q) hG.2.2.2 hG.2.2.1.1
  rw [MT_go (by decide) _ _ _ (Nat.le_of_ble_eq_true rfl), show s_entry 163 [.ref 317] = [.ref 317, s_no, s_no, s_no] from rfl]
  simp (disch := omega) only [u_163_0, u_163_1, u_163_4, u_163_5, u_163_8, u_163_9, u_163_12, u_163_13, u_163_14, u_163_17, u_163_18, u_163_21, u_163_24, u_163_25, u_163_28, u_163_29, u_163_32, u_163_33, u_163_36, u_163_37, u_163_38, u_163_39, u_163_42, u_163_43, u_163_44, u_163_47, u_163_48, u_163_49, u_163_50, u_163_51, u_163_52, u_163_55, u_163_56, u_163_57, u_163_60, u_163_61, u_163_62, u_163_64, u_163_67, u_163_70, u_163_71, u_163_72, u_163_74, u_163_77, u_163_80, u_163_82, u_163_83, u_163_84, u_163_87, u_163_88, u_163_91, u_163_92, u_163_95, u_163_96, u_163_99, u_163_100, u_163_103, u_163_104, u_163_105, u_163_106, u_163_109, u_163_110, u_163_113, u_163_114, u_163_115, u_163_116, u_163_117, u_163_120, u_163_121, u_163_122, u_163_125, gI0, gIs, gR0, gRs, gF0, gFs, st0, st_i, st_r, st_f, st_n, st_s, true_and, and_true, ↓ifLeT, ↓ifLeF, ↓ifLtT, ↓ifLtF, ↓ifEqT, ↓ifEqF, if_tt, if_ff, if_pos, if_neg, nLe, nLt, nEq, nInT, nCl, pk_mul, nI_add, Nat.reduceAdd, s_cat_nil, s_cat_i, s_cat_r, s_cat_f, s_cat_l, tl_s, tl_n, cat_i, cat_r, cat_f, nb0, nb1, nbI, if_bI, if_bIr, Nat.zero_le, Nat.reduceLeDiff, M_ob, M_g0, M_g1, M_g2, M_g3, M_g4, M_g5, M_g6, M_g7, M_g8, M_g9, M_g10, M_g11, M_g12, M_g13, M_g14, M_g15, M_g16, M_g17, M_g18, M_g19, M_g20, M_g21, M_g22, M_g23, M_g24, M_g25, M_g26, M_g27, M_g28, M_g29, M_g30, M_g31, M_g32, M_g33, M_g34, M_g35, M_g36, M_g37, M_g38, M_g39, M_g40, M_g41, k16, e2]
  exact K
theorem r_readsC (hG : GD m t) (hW : isWB t 2 = true) (hD : DI y n) (hR : RD m y) (hC : yC y < 4) (K1 : (rdC t y).1 = true → ∀ m', frU m m' → GD m' (rdC t y).2.1 → RD m' (rdC t y).2.2 → Q none (pM m' h)) (K2 : (rdC t y).1 = false → ∀ m', frU m m' → eN (rdC t y).2.1 2 ≤ 400 → kI m' 5 = nI (eN (rdC t y).2.1 2) → TT m' (rdC t y).2.1 → Q none (pM m' h)) : MT (d + 4) 163 [.ref 317] (pM m h) Q := by
  obtain ⟨el, hl34⟩ := lst_n hD
  have lo : ¬ lstC y ≤ -1 := by
    rw [el]
    intro q
    have : nI 0 ≤ nI (leastN n) := nI_le (Nat.zero_le _) (by omega)
    exact absurd (Int32.le_trans this q) (by decide)
  have k16 := hR.2.2.1
  have n4 : ¬ nI (yC y) = nI 4 := fun q => by have := (nI_eq (by omega) (by omega)).mp q; omega
  rw [MT_go (by decide) _ _ _ (Nat.le_of_ble_eq_true rfl), show s_entry 163 [.ref 317] = [.ref 317, s_no, s_no, s_no] from rfl]
  simp (disch := omega) only [u_163_0, u_163_1, u_163_4, u_163_5, u_163_8, u_163_9, u_163_12, u_163_13, u_163_14, gI0, gIs, gR0, gRs, gF0, gFs, st0, st_i, st_r, st_f, st_n, st_s, true_and, and_true, ↓ifLeT, ↓ifLeF, ↓ifLtT, ↓ifLtF, ↓ifEqT, ↓ifEqF, if_tt, if_ff, if_pos, if_neg, nLe, nLt, nEq, nInT, nCl, pk_mul, nI_add, Nat.reduceAdd, s_cat_nil, s_cat_i, s_cat_r, s_cat_f, s_cat_l, tl_s, tl_n, cat_i, cat_r, cat_f, nb0, nb1, nbI, if_bI, if_bIr, Nat.zero_le, Nat.reduceLeDiff, M_ob, M_g0, M_g1, M_g2, M_g3, M_g4, M_g5, M_g6, M_g7, M_g8, M_g9, M_g10, M_g11, M_g12, M_g13, M_g14, M_g15, M_g16, M_g17, M_g18, M_g19, M_g20, M_g21, M_g22, M_g23, M_g24, M_g25, M_g26, M_g27, M_g28, M_g29, M_g30, M_g31, M_g32, M_g33, M_g34, M_g35, M_g36, M_g37, M_g38, M_g39, M_g40, M_g41, k16, n4, reduceIte]
  refine r_nextT (d := d + 1) hG fun m1 f1 G1 => ?_
  have R1 := RD_fr f1 hR
  obtain ⟨b1, b2, b3, -, b5, -⟩ := id R1
  have go : WP (d + 3) 163 49 [.ref 317, .int (lstC y), s_no, s_no] [] (pM m1 h) (0, 0) Q → WP (d + 3) 163 17 [.ref 317, s_no, s_no, s_no] [] (pM m1 h) (0, 0) Q := fun K => by
    unfold lstC at K
    by_cases h0 : yC y = 0
    · rw [if_pos h0] at K
      have b3 : kI m1 16 = nI 0 := by rw [b3, h0]
      simp (disch := omega) only [u_163_17, u_163_18, u_163_21, u_163_24, u_163_25, u_163_28, u_163_29, u_163_32, u_163_33, u_163_36, u_163_37, u_163_38, u_163_39, u_163_42, u_163_43, u_163_44, u_163_47, u_163_48, gI0, gIs, gR0, gRs, gF0, gFs, st0, st_i, st_r, st_f, st_n, st_s, true_and, and_true, ↓ifLeT, ↓ifLeF, ↓ifLtT, ↓ifLtF, ↓ifEqT, ↓ifEqF, if_tt, if_ff, if_pos, if_neg, nLe, nLt, nEq, nInT, nCl, pk_mul, nI_add, Nat.reduceAdd, s_cat_nil, s_cat_i, s_cat_r, s_cat_f, s_cat_l, tl_s, tl_n, cat_i, cat_r, cat_f, nb0, nb1, nbI, if_bI, if_bIr, Nat.zero_le, Nat.reduceLeDiff, M_ob, M_g0, M_g1, M_g2, M_g3, M_g4, M_g5, M_g6, M_g7, M_g8, M_g9, M_g10, M_g11, M_g12, M_g13, M_g14, M_g15, M_g16, M_g17, M_g18, M_g19, M_g20, M_g21, M_g22, M_g23, M_g24, M_g25, M_g26, M_g27, M_g28, M_g29, M_g30, M_g31, M_g32, M_g33, M_g34, M_g35, M_g36, M_g37, M_g38, M_g39, M_g40, M_g41, b3]
      exact K
    · rw [if_neg h0] at K
      have ne : ¬ nI (yC y) = nI 0 := fun q => h0 ((nI_eq (by omega) (by omega)).mp q)
      have sb : nI (yC y) - nI 1 = nI (yC y - 1) := pk_sub (by omega)
      have a7 := (b5 (yC y - 1) (by omega)).1
      simp (disch := omega) only [u_163_17, u_163_18, u_163_21, u_163_24, u_163_25, u_163_28, u_163_29, u_163_32, u_163_33, u_163_36, u_163_37, u_163_38, u_163_39, u_163_42, u_163_43, u_163_44, u_163_47, u_163_48, gI0, gIs, gR0, gRs, gF0, gFs, st0, st_i, st_r, st_f, st_n, st_s, true_and, and_true, ↓ifLeT, ↓ifLeF, ↓ifLtT, ↓ifLtF, ↓ifEqT, ↓ifEqF, if_tt, if_ff, if_pos, if_neg, nLe, nLt, nEq, nInT, nCl, pk_mul, nI_add, Nat.reduceAdd, s_cat_nil, s_cat_i, s_cat_r, s_cat_f, s_cat_l, tl_s, tl_n, cat_i, cat_r, cat_f, nb0, nb1, nbI, if_bI, if_bIr, Nat.zero_le, Nat.reduceLeDiff, M_ob, M_g0, M_g1, M_g2, M_g3, M_g4, M_g5, M_g6, M_g7, M_g8, M_g9, M_g10, M_g11, M_g12, M_g13, M_g14, M_g15, M_g16, M_g17, M_g18, M_g19, M_g20, M_g21, M_g22, M_g23, M_g24, M_g25, M_g26, M_g27, M_g28, M_g29, M_g30, M_g31, M_g32, M_g33, M_g34, M_g35, M_g36, M_g37, M_g38, M_g39, M_g40, M_g41, b3, b2, ne, sb, m_cAt, M_r rb322, a7, reduceIte]
      exact K
  refine go ?_
  clear go
  have put : ∀ m' v3 (w l : Int32), GD m' (rdC t y).2.1 → frU m m' → RD m' y → (rdC t y).1 = true → (rdC t y).2.2 = addC y w l → WP (d + 3) 163 83 [.ref 317, .int v3, .int w, .int l] [] (pM m' h) (0, 0) Q := fun m' v3 w l G' f' R' e1 e2 => by
    have h5 := G'.2.2.2
    obtain ⟨-, -, c3, -⟩ := id R'
    have i4 : vp_in (nI (yC y)) 4 := (nIn (by omega)).mpr hC
    have K := K1 e1 (xI (xA (xA m' 322 (upd (kA m' 322) (2 + 12 * yC y + 0) w)) 321 (upd (kA m' 321) (yC y) l)) 16 (nI (yC y + 1))) (frU_t f' (frU_t (frU_A (Or.inr rfl)) (frU_t (frU_A (Or.inl rfl)) (frU_I (by decide))))) (GD_k (by decide) (GD_Q (by decide) (GD_Q (by decide) G'))) (by rw [e2]; exact RD_C hC R')
    simp (disch := omega) only [u_163_83, u_163_84, u_163_87, u_163_88, u_163_91, u_163_92, u_163_95, u_163_96, u_163_99, u_163_100, u_163_103, u_163_104, u_163_105, u_163_106, u_163_109, u_163_110, u_163_113, u_163_114, u_163_115, u_163_116, u_163_117, u_163_120, u_163_121, u_163_122, u_163_125, gI0, gIs, gR0, gRs, gF0, gFs, st0, st_i, st_r, st_f, st_n, st_s, true_and, and_true, ↓ifLeT, ↓ifLeF, ↓ifLtT, ↓ifLtF, ↓ifEqT, ↓ifEqF, if_tt, if_ff, if_pos, if_neg, nLe, nLt, nEq, nInT, nCl, pk_mul, nI_add, Nat.reduceAdd, s_cat_nil, s_cat_i, s_cat_r, s_cat_f, s_cat_l, tl_s, tl_n, cat_i, cat_r, cat_f, nb0, nb1, nbI, if_bI, if_bIr, Nat.zero_le, Nat.reduceLeDiff, M_ob, M_g0, M_g1, M_g2, M_g3, M_g4, M_g5, M_g6, M_g7, M_g8, M_g9, M_g10, M_g11, M_g12, M_g13, M_g14, M_g15, M_g16, M_g17, M_g18, M_g19, M_g20, M_g21, M_g22, M_g23, M_g24, M_g25, M_g26, M_g27, M_g28, M_g29, M_g30, M_g31, M_g32, M_g33, M_g34, M_g35, M_g36, M_g37, M_g38, M_g39, M_g40, M_g41, M_s16, kI_xI, kI_xB, kI_xA, kI_xV, kB_xI, kB_xB, kB_xA, kB_xV, kA_xI, kA_xB, kA_xA, kA_xV, kV_xI, kV_xB, kV_xA, kV_xV, Nat.reduceEqDiff, reduceIte, h5, c3, m_cAt, M_rw rb322, M_w321, i4, kA_ne (show (321 : Nat) ≠ 322 by decide)]
    exact K
  simp (disch := omega) only [u_163_49, u_163_50, u_163_51, u_163_52, u_163_55, u_163_56, u_163_57, gI0, gIs, gR0, gRs, gF0, gFs, st0, st_i, st_r, st_f, st_n, st_s, true_and, and_true, ↓ifLeT, ↓ifLeF, ↓ifLtT, ↓ifLtF, ↓ifEqT, ↓ifEqF, if_tt, if_ff, if_pos, if_neg, nLe, nLt, nEq, nInT, nCl, pk_mul, nI_add, Nat.reduceAdd, s_cat_nil, s_cat_i, s_cat_r, s_cat_f, s_cat_l, tl_s, tl_n, cat_i, cat_r, cat_f, nb0, nb1, nbI, if_bI, if_bIr, Nat.zero_le, Nat.reduceLeDiff, M_ob, M_g0, M_g1, M_g2, M_g3, M_g4, M_g5, M_g6, M_g7, M_g8, M_g9, M_g10, M_g11, M_g12, M_g13, M_g14, M_g15, M_g16, M_g17, M_g18, M_g19, M_g20, M_g21, M_g22, M_g23, M_g24, M_g25, M_g26, M_g27, M_g28, M_g29, M_g30, M_g31, M_g32, M_g33, M_g34, M_g35, M_g36, M_g37, M_g38, M_g39, M_g40, M_g41, b1]
  refine r_num (d := d) G1 lo (fun hb m2 f2 G2 => ?_) fun hb => ?_
  · have f12 : frU m m2 := frU_t (frU_R f1) (frU_R f2)
    have R2 := RD_fr f2 R1
    simp (disch := omega) only [u_163_60, u_163_61, u_163_62, u_163_64, gI0, gIs, gR0, gRs, gF0, gFs, st0, st_i, st_r, st_f, st_n, st_s, true_and, and_true, ↓ifLeT, ↓ifLeF, ↓ifLtT, ↓ifLtF, ↓ifEqT, ↓ifEqF, if_tt, if_ff, if_pos, if_neg, nLe, nLt, nEq, nInT, nCl, pk_mul, nI_add, Nat.reduceAdd, s_cat_nil, s_cat_i, s_cat_r, s_cat_f, s_cat_l, tl_s, tl_n, cat_i, cat_r, cat_f, nb0, nb1, nbI, if_bI, if_bIr, Nat.zero_le, Nat.reduceLeDiff, M_ob]
    refine r_takesW (d := d) (j := 3) (by decide) G2 (fun hw m3 f3 G3 => ?_) fun hw => ?_
    · have f13 := frU_t f12 (frU_R f3)
      have R3 := RD_fr f3 R2
      simp (disch := omega) only [u_163_67, u_163_70, u_163_71, u_163_72, u_163_74, gI0, gIs, gR0, gRs, gF0, gFs, st0, st_i, st_r, st_f, st_n, st_s, true_and, and_true, ↓ifLeT, ↓ifLeF, ↓ifLtT, ↓ifLtF, ↓ifEqT, ↓ifEqF, if_tt, if_ff, if_pos, if_neg, nLe, nLt, nEq, nInT, nCl, pk_mul, nI_add, Nat.reduceAdd, s_cat_nil, s_cat_i, s_cat_r, s_cat_f, s_cat_l, tl_s, tl_n, cat_i, cat_r, cat_f, nb0, nb1, nbI, if_bI, if_bIr, Nat.zero_le, Nat.reduceLeDiff, M_ob]
      refine r_num (d := d) G3 (by decide) (fun hb2 m4 f4 G4 => ?_) fun hb2 => ?_
      · have e := rdC_t2 hW hb hw hb2
        simp (disch := omega) only [u_163_77, u_163_80, u_163_82, gI0, gIs, gR0, gRs, gF0, gFs, st0, st_i, st_r, st_f, st_n, st_s, true_and, and_true, ↓ifLeT, ↓ifLeF, ↓ifLtT, ↓ifLtF, ↓ifEqT, ↓ifEqF, if_tt, if_ff, if_pos, if_neg, nLe, nLt, nEq, nInT, nCl, pk_mul, nI_add, Nat.reduceAdd, s_cat_nil, s_cat_i, s_cat_r, s_cat_f, s_cat_l, tl_s, tl_n, cat_i, cat_r, cat_f, nb0, nb1, nbI, if_bI, if_bIr, Nat.zero_le, Nat.reduceLeDiff]
        exact put m4 _ _ _ (by rw [e]; exact G4) (frU_t f13 (frU_R f4)) (RD_fr f4 R3) (by rw [e]) (by rw [e])
      · have e := rdC_f2 hW hb hw hb2
        rw [e] at K2
        have o := tk_max G3
        have ne : ¬ nI (eN (advT (advT (advT t))) 2) = -1 := m1_ne (by omega)
        simp (disch := omega) only [u_163_77, u_163_80, u_163_82, u_163_83, u_163_84, u_163_87, u_163_88, u_163_91, u_163_92, u_163_95, u_163_96, u_163_99, u_163_100, u_163_103, u_163_104, u_163_105, u_163_106, u_163_109, u_163_110, u_163_113, u_163_114, u_163_115, u_163_116, u_163_117, u_163_120, u_163_121, u_163_122, u_163_125, gI0, gIs, gR0, gRs, gF0, gFs, st0, st_i, st_r, st_f, st_n, st_s, true_and, and_true, ↓ifLeT, ↓ifLeF, ↓ifLtT, ↓ifLtF, ↓ifEqT, ↓ifEqF, if_tt, if_ff, if_pos, if_neg, nLe, nLt, nEq, nInT, nCl, pk_mul, nI_add, Nat.reduceAdd, s_cat_nil, s_cat_i, s_cat_r, s_cat_f, s_cat_l, tl_s, tl_n, cat_i, cat_r, cat_f, nb0, nb1, nbI, if_bI, if_bIr, Nat.zero_le, Nat.reduceLeDiff, M_g0, M_g1, M_g2, M_g3, M_g4, M_g5, M_g6, M_g7, M_g8, M_g9, M_g10, M_g11, M_g12, M_g13, M_g14, M_g15, M_g16, M_g17, M_g18, M_g19, M_g20, M_g21, M_g22, M_g23, M_g24, M_g25, M_g26, M_g27, M_g28, M_g29, M_g30, M_g31, M_g32, M_g33, M_g34, M_g35, M_g36, M_g37, M_g38, M_g39, M_g40, M_g41, kI_xI, kI_xB, kI_xA, kI_xV, kB_xI, kB_xB, kB_xA, kB_xV, kA_xI, kA_xB, kA_xA, kA_xV, kV_xI, kV_xB, kV_xA, kV_xV, Nat.reduceEqDiff, reduceIte, ne, reduceIte]
        exact K2 rfl _ (frU_t f13 (frU_I (by decide))) o rfl (TT_I G3.1 (by decide))
    · have e := rdC_t1 hW hb hw
      simp (disch := omega) only [u_163_67, u_163_70, u_163_71, u_163_72, u_163_74, u_163_77, u_163_80, u_163_82, gI0, gIs, gR0, gRs, gF0, gFs, st0, st_i, st_r, st_f, st_n, st_s, true_and, and_true, ↓ifLeT, ↓ifLeF, ↓ifLtT, ↓ifLtF, ↓ifEqT, ↓ifEqF, if_tt, if_ff, if_pos, if_neg, nLe, nLt, nEq, nInT, nCl, pk_mul, nI_add, Nat.reduceAdd, s_cat_nil, s_cat_i, s_cat_r, s_cat_f, s_cat_l, tl_s, tl_n, cat_i, cat_r, cat_f, nb0, nb1, nbI, if_bI, if_bIr, Nat.zero_le, Nat.reduceLeDiff]
      exact put m2 _ _ _ (by rw [e]; exact G2) f12 R2 (by rw [e]) (by rw [e])
  · have e := rdC_f1 hW hb
    rw [e] at K2
    have o := tk_max G1
    have ne : ¬ nI (eN (advT t) 2) = -1 := m1_ne (by omega)
    have ne2 : ¬ kI (xI m1 5 (nI (eN (advT t) 2))) 5 = -1 := ne
    have e3 := fun Q => r_takesW1 (d := d) (h := h) (Q := Q) (j := 3) ne2
    have e3 : ∀ Q, MT (d + 3) 155 [.ref 317, .ref 1000004] (pM (xI m1 5 (nI (eN (advT t) 2))) h) Q ↔ Q (some (.int (nI 0))) (pM (xI m1 5 (nI (eN (advT t) 2))) h) := e3
    simp (disch := omega) only [u_163_60, u_163_61, u_163_62, u_163_64, u_163_67, u_163_70, u_163_71, u_163_72, u_163_74, u_163_77, u_163_80, u_163_82, u_163_83, u_163_84, u_163_87, u_163_88, u_163_91, u_163_92, u_163_95, u_163_96, u_163_99, u_163_100, u_163_103, u_163_104, u_163_105, u_163_106, u_163_109, u_163_110, u_163_113, u_163_114, u_163_115, u_163_116, u_163_117, u_163_120, u_163_121, u_163_122, u_163_125, gI0, gIs, gR0, gRs, gF0, gFs, st0, st_i, st_r, st_f, st_n, st_s, true_and, and_true, ↓ifLeT, ↓ifLeF, ↓ifLtT, ↓ifLtF, ↓ifEqT, ↓ifEqF, if_tt, if_ff, if_pos, if_neg, nLe, nLt, nEq, nInT, nCl, pk_mul, nI_add, Nat.reduceAdd, s_cat_nil, s_cat_i, s_cat_r, s_cat_f, s_cat_l, tl_s, tl_n, cat_i, cat_r, cat_f, nb0, nb1, nbI, if_bI, if_bIr, Nat.zero_le, Nat.reduceLeDiff, M_ob, M_g0, M_g1, M_g2, M_g3, M_g4, M_g5, M_g6, M_g7, M_g8, M_g9, M_g10, M_g11, M_g12, M_g13, M_g14, M_g15, M_g16, M_g17, M_g18, M_g19, M_g20, M_g21, M_g22, M_g23, M_g24, M_g25, M_g26, M_g27, M_g28, M_g29, M_g30, M_g31, M_g32, M_g33, M_g34, M_g35, M_g36, M_g37, M_g38, M_g39, M_g40, M_g41, kI_xI, kI_xB, kI_xA, kI_xV, kB_xI, kB_xB, kB_xA, kB_xV, kA_xI, kA_xB, kA_xA, kA_xV, kV_xI, kV_xB, kV_xA, kV_xV, Nat.reduceEqDiff, reduceIte, e3, ne, reduceIte]
    exact K2 rfl _ (frU_t (frU_R f1) (frU_I (by decide))) o rfl (TT_I G1.1 (by decide))
end MCR
