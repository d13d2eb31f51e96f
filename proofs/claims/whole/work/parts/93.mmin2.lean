/-! the reference: steps, swings, works, a minute -/
theorem nWorks_mid {n : tN} {c : Nat} : ∀ (s : tD), nNext (jA n 7 s.1) c = nNext n c := fun _ => rfl
def SRdone (m m' : tM) (b : Nat) (n : tN) (s : tD) (c0 : Nat) : Prop := frM b m m' ∧ SR m' b n s c0
section MN2
variable {b d c0 : Nat} {m : tM} {h : sH} {i x y z : Int32} {Q : sQ} {n : tN} {k : sK} {s : tD}
theorem SR_next {p : Nat} (hs : SR m b n s p) (h3 : ¬ s.2 p = 3) : SR m b n s (p + 1) := by
  refine ⟨hs.1, fun i hi => ?_, hs.2.2⟩
  rw [hs.2.1 i hi]
  congr 1
  by_cases e : i = p
  · subst e
    rw [if_neg (fun q => h3 q.2), if_neg (by omega)]
  · by_cases g : p ≤ i ∧ s.2 i = 3
    · rw [if_pos g, if_pos ⟨by omega, g.2⟩]
    · rw [if_neg g, if_neg (fun q => g ⟨by omega, q.2⟩)]
theorem SR_wait {p : Nat} (hb : rb b) (hs : SR m b n s p) (h3 : s.2 p = 3) : SR (xA m 327 (upd (kA m 327) p (nI 3))) b n s (p + 1) := by
  have hb2 := rb_327 hb
  refine ⟨by rw [kA_ne hb2.1]; exact hs.1, fun i hi => ?_, hs.2.2⟩
  rw [kA_eq]
  unfold upd
  by_cases e : i = p
  · subst e
    rw [if_pos rfl, if_neg (by omega), h3]
  · rw [if_neg e, hs.2.1 i hi]
    congr 1
    by_cases g : p ≤ i ∧ s.2 i = 3
    · rw [if_pos g, if_pos ⟨by omega, g.2⟩]
    · rw [if_neg g, if_neg (fun q => g ⟨by omega, q.2⟩)]
theorem SR_up {p q : Nat} {m' : tM} (hb : rb b) (hs : SR m b n s p) (hm : moveU (xA m 327 (upd (kA m 327) p (nI 3))) m' b n s.1 p q) (hq : 1 ≤ q) (hp : p < nF n 2) (hpq : p + q ≤ nF n 2) : SR (xA m' 327 (upd (kA m' 327) p (nI 1))) b n (mvUp p q s) (p + 1) := by
  have hb2 := rb_327 hb
  obtain ⟨f1, f2, f3, f4⟩ := hm
  refine ⟨by rw [kA_ne hb2.1]; exact f2, fun i hi => ?_, fun i hi => ?_⟩
  · rw [kA_eq]
    show upd (kA m' 327) p (nI 1) i = nI (if p + 1 ≤ i ∧ (if p ≤ i ∧ i < p + q then (if i = p then 1 else 2) else s.2 i) = 3 then 0 else (if p ≤ i ∧ i < p + q then (if i = p then 1 else 2) else s.2 i))
    unfold upd
    by_cases e : i = p
    · subst e
      rw [if_pos rfl, if_neg (by omega), if_pos (by omega), if_pos rfl]
    · rw [if_neg e, f3 i hi]
      by_cases g : p < i ∧ i < p + q
      · rw [if_pos g, if_pos (show p ≤ i ∧ i < p + q by omega), if_neg e, if_neg (by omega)]
      · rw [if_neg g, if_neg (show ¬ (p ≤ i ∧ i < p + q) by omega), kA_eq]
        unfold upd
        rw [if_neg e, hs.2.1 i hi]
        congr 1
        by_cases g : p ≤ i ∧ s.2 i = 3
        · rw [if_pos g, if_pos ⟨by omega, g.2⟩]
        · rw [if_neg g, if_neg (fun q => g ⟨by omega, q.2⟩)]
  · show kV m' i = (decide ((if p ≤ i ∧ i < p + q then (if i = p then 1 else 2) else s.2 i) = 1) || decide ((if p ≤ i ∧ i < p + q then (if i = p then 1 else 2) else s.2 i) = 2))
    rw [f4 i hi]
    by_cases g : p ≤ i ∧ i < p + q
    · rw [if_pos g, if_pos g]
      by_cases e : i = p
      · rw [if_pos e]; rfl
      · rw [if_neg e]; rfl
    · rw [if_neg g, if_neg g]
      exact hs.2.2 i hi
theorem SR_dn {p q : Nat} {m' : tM} (hb : rb b) (hs : SR m b n s p) (hm : moveD (xA m 327 (upd (kA m 327) p (nI 3))) m' b n s.1 p q) (hq : 1 ≤ q) (hp : p < nF n 2) : SR (xA m' 327 (upd (kA m' 327) p (nI 1))) b n (mvDn p q s) (p + 1) := by
  have hb2 := rb_327 hb
  obtain ⟨f1, f2, f3, f4⟩ := hm
  refine ⟨by rw [kA_ne hb2.1]; exact f2, fun i hi => ?_, fun i hi => ?_⟩
  · rw [kA_eq]
    show upd (kA m' 327) p (nI 1) i = nI (if p + 1 ≤ i ∧ (if i ≤ p ∧ p < i + q then (if i = p then 1 else 2) else s.2 i) = 3 then 0 else (if i ≤ p ∧ p < i + q then (if i = p then 1 else 2) else s.2 i))
    unfold upd
    by_cases e : i = p
    · subst e
      rw [if_pos rfl, if_neg (by omega), if_pos (by omega), if_pos rfl]
    · rw [if_neg e, f3 i hi]
      by_cases g : i < p ∧ p < i + q
      · rw [if_pos g, if_pos (show i ≤ p ∧ p < i + q by omega), if_neg e, if_neg (by omega)]
      · rw [if_neg g, if_neg (show ¬ (i ≤ p ∧ p < i + q) by omega), kA_eq]
        unfold upd
        rw [if_neg e, hs.2.1 i hi]
        congr 1
        by_cases g : p ≤ i ∧ s.2 i = 3
        · rw [if_pos g, if_pos ⟨by omega, g.2⟩]
        · rw [if_neg g, if_neg (fun q => g ⟨by omega, q.2⟩)]
  · show kV m' i = (decide ((if i ≤ p ∧ p < i + q then (if i = p then 1 else 2) else s.2 i) = 1) || decide ((if i ≤ p ∧ p < i + q then (if i = p then 1 else 2) else s.2 i) = 2))
    rw [f4 i hi]
    by_cases g : i ≤ p ∧ p < i + q
    · rw [if_pos g, if_pos g]
      by_cases e : i = p
      · rw [if_pos e]; rfl
      · rw [if_neg e]; rfl
    · rw [if_neg g, if_neg g]
      exact hs.2.2 i hi
theorem sub_pos {a b : Nat} (ha : a < 2 ^ 20) (hb : b < 2 ^ 20) : nI a - nI b ≤ nI 0 ↔ a ≤ b := by
  by_cases h : b ≤ a
  · rw [pk_sub h, nLe (by omega) (by decide)]; omega
  · have e : nI a - nI b = -(nI (b - a)) := by rw [← pk_sub (show a ≤ b by omega), Int32.neg_sub]
    constructor
    · intro _; omega
    · intro _
      rw [e, Int32.le_iff_toInt_le, Int32.toInt_neg, nI_toInt (by omega), nI_toInt (by decide), Int.bmod_eq_of_le (by omega) (by omega)]
      omega
theorem sub_zero' {a b : Nat} (ha : a < 2 ^ 20) (hb : b < 2 ^ 20) : nI a - nI b = nI 0 ↔ a = b := by
  constructor
  · intro q
    have := congrArg (· + nI b) q
    simp only [Int32.sub_add_cancel] at this
    rw [nI_add, Nat.zero_add] at this
    exact (nI_eq (by omega) (by omega)).mp this
  · intro q; rw [q, Int32.sub_self]; rfl
theorem r_steps {p : Nat} (hb : rb b) (hn : wfN n) (hg : MG m n) (hs : SR m b n s p) (hj : jN n s) (hp : p < nF n 2) (K : ∀ m', frM b m m' → SR m' b n (nStep n p s) (p + 1) → Q none (pM m' h)) : MT (d + 7) 186 [.ref 317, .ref b, .int (nI p)] (pM m h) Q := by
  have h4 := hn.1.1
  have h8 := hn.1.2.1
  have hB := hn.1.2.2.2.1
  have hb2 := rb_327 hb
  have hw := wf_mid hn hj
  have e1 := fun Q => r_next (d := d + 3) (h := h) (Q := Q) (c := p) hb hw hs.1 hp
  have a1 : kA m b (2 + 12 * p + 0) = nI (s.1 p) := (hs.1.2.2.1 p hp).1
  have a2 : kA m b (2 + 12 * p + 1) = iB (nK n p) := (hs.1.2.2.1 p hp).2.1
  have bp := hj.1 p hp
  have i4 : vp_in (nI p) 4 := (nIn (by omega)).mpr (by omega)
  have l4 := jN_le hj hp
  have hd := hs.2.1 p hp
  have hv := hs.2.2 p hp
  have e1 : ∀ Q, MT (d + 6) 181 [.ref b, .int (nI p)] (pM m h) Q ↔ Q (some (.int (oI1 (nNext n p)))) (pM m h) := e1
  rw [MT_go (by decide) _ _ _ (Nat.le_of_ble_eq_true rfl), show s_entry 186 [.ref 317, .ref b, .int (nI p)] = [.ref 317, .ref b, .int (nI p), s_no, s_no, s_no] from rfl]
  by_cases h3 : s.2 p = 3
  · -- it waits
    have j4 := hj.2.2.2 p hp (by omega) (by omega)
    have d0 := deed0_3 (j4.2.symm.trans h3)
    rw [h3, if_pos ⟨Nat.le_refl _, rfl⟩] at hd
    rw [h3] at hv
    have hv : kV m p = false := hv
    rw [d0.1] at a2
    obtain ⟨t, ht⟩ : ∃ t, nNext n p = some t := by
      cases hx : nNext n p with
      | none => rw [hx] at d0; exact absurd d0.2 (by decide)
      | some t => exact ⟨t, rfl⟩
    obtain ⟨t1, -, -⟩ := next_lt hn.2.2.2 ht
    rw [ht] at e1
    have o : oI1 (some t) = nI t := rfl
    have o2 : ¬ nI t = -1 := m1_ne (by omega)
    have t12 : kA m b (50 + 7 * t + 0) = nI (nA n 12 t) := (hs.1.2.2.2 t t1).1
    have tb := (hn.2.2.1 t t1).1
    have n34 : ¬ nI 0 = nI 4 := by decide
    have n01 : ¬ nI 0 = nI 1 := by decide
    have sp := sub_pos (a := nA n 12 t) (b := s.1 p) (by omega) (by omega)
    have sz := sub_zero' (a := nA n 12 t) (b := s.1 p) (by omega) (by omega)
    have hsW := SR_wait hb hs h3
    have hgW : MG (xA m 327 (upd (kA m 327) p (nI 3))) n := MG_fr hb hg frM_d
    have still : nStill n s p = true := by unfold nStill; rw [h3]; rfl
    have st : nStep n p s = if nA n 12 t = s.1 p then s else if s.1 p < nA n 12 t then (match nUp n s (nF n 2 - 1 - p) p with | some q => mvUp p q s | none => s) else (match nDn n s p with | some q => mvDn p q s | none => s) := by
      unfold nStep
      rw [if_pos h3, ht]
      rfl
    have rW : kA (xA m 327 (upd (kA m 327) p (nI 3))) b = kA m b := kA_ne hb2.1
    rw [st] at K
    by_cases q1 : nA n 12 t = s.1 p
    · rw [if_pos q1] at K
      have sz := sz.mpr q1
      have sp := sp.mpr (by omega)
      simp (disch := omega) only [u_186_0, u_186_1, u_186_2, u_186_5, u_186_6, u_186_7, u_186_10, u_186_11, u_186_12, u_186_13, u_186_16, u_186_17, u_186_20, u_186_21, u_186_22, u_186_25, u_186_26, u_186_27, u_186_28, u_186_31, u_186_32, u_186_33, u_186_36, u_186_37, u_186_38, u_186_41, u_186_42, u_186_43, u_186_46, u_186_47, u_186_48, u_186_49, u_186_50, u_186_51, u_186_52, u_186_55, u_186_56, u_186_57, u_186_58, u_186_59, u_186_62, u_186_63, u_186_64, u_186_66, u_186_68, u_186_71, u_186_72, u_186_75, u_186_76, u_186_78, u_186_80, u_186_83, u_186_84, u_186_85, u_186_86, u_186_88, u_186_91, u_186_94, u_186_95, u_186_96, u_186_97, u_186_99, u_186_102, u_186_103, u_186_106, u_186_107, u_186_108, u_186_109, gI0, gIs, gR0, gRs, gF0, gFs, st0, st_i, st_r, st_f, st_n, st_s, true_and, and_true, ↓ifLeT, ↓ifLeF, ↓ifLtT, ↓ifLtF, ↓ifEqT, ↓ifEqF, if_tt, if_ff, if_pos, if_neg, nLe, nLt, nEq, nInT, nCl, pk_mul, nI_add, Nat.reduceAdd, s_cat_nil, s_cat_i, s_cat_r, s_cat_f, s_cat_l, tl_s, tl_n, cat_i, cat_r, cat_f, nb0, nb1, nbI, if_bI, if_bIr, Nat.zero_le, Nat.reduceLeDiff, M_ob, M_g0, M_g1, M_g2, M_g3, M_g4, M_g5, M_g6, M_g7, M_g8, M_g9, M_g10, M_g11, M_g12, M_g13, M_g14, M_g15, M_g16, M_g17, M_g18, M_g19, M_g20, M_g21, M_g22, M_g23, M_g24, M_g25, M_g26, M_g27, M_g28, M_g29, M_g30, M_g31, M_g32, M_g33, M_g34, M_g35, M_g36, M_g37, M_g38, M_g39, M_g40, M_g41, e1, o, o2, M_a327, M_a328, M_w327, m_cAt, m_tAt, M_r hb, i4, hd, hv, a1, a2, n34, n01, iBf, reduceIte, rW, t12, sz]
      exact K _ frM_d hsW
    · have sz : ¬ _ := fun z => q1 (sz.mp z)
      rw [if_neg q1] at K
      by_cases q2 : s.1 p < nA n 12 t
      · rw [if_pos q2] at K
        have sp : ¬ _ := fun z => absurd (sp.mp z) (by omega)
        have gu := fun Q => go_up (d := d + (3 - (nF n 2 - 1 - p))) (h := h) hb hn hgW hsW hj (nF n 2 - 1 - p) p Q (by omega) still
        rw [show d + (3 - (nF n 2 - 1 - p)) + 3 + (nF n 2 - 1 - p) = d + 6 by omega] at gu
        simp (disch := omega) only [u_186_0, u_186_1, u_186_2, u_186_5, u_186_6, u_186_7, u_186_10, u_186_11, u_186_12, u_186_13, u_186_16, u_186_17, u_186_20, u_186_21, u_186_22, u_186_25, u_186_26, u_186_27, u_186_28, u_186_31, u_186_32, u_186_33, u_186_36, u_186_37, u_186_38, u_186_41, u_186_42, u_186_43, u_186_46, u_186_47, u_186_48, u_186_49, u_186_50, u_186_51, u_186_52, u_186_55, u_186_56, u_186_57, u_186_58, u_186_59, u_186_62, u_186_63, u_186_64, u_186_66, u_186_68, u_186_71, u_186_72, u_186_75, u_186_76, u_186_78, u_186_80, u_186_83, u_186_84, u_186_85, u_186_86, u_186_88, u_186_91, u_186_94, u_186_95, u_186_96, u_186_97, u_186_99, u_186_103, u_186_106, u_186_107, u_186_108, u_186_109, gI0, gIs, gR0, gRs, gF0, gFs, st0, st_i, st_r, st_f, st_n, st_s, true_and, and_true, ↓ifLeT, ↓ifLeF, ↓ifLtT, ↓ifLtF, ↓ifEqT, ↓ifEqF, if_tt, if_ff, if_pos, if_neg, nLe, nLt, nEq, nInT, nCl, pk_mul, nI_add, Nat.reduceAdd, s_cat_nil, s_cat_i, s_cat_r, s_cat_f, s_cat_l, tl_s, tl_n, cat_i, cat_r, cat_f, nb0, nb1, nbI, if_bI, if_bIr, Nat.zero_le, Nat.reduceLeDiff, M_ob, M_g0, M_g1, M_g2, M_g3, M_g4, M_g5, M_g6, M_g7, M_g8, M_g9, M_g10, M_g11, M_g12, M_g13, M_g14, M_g15, M_g16, M_g17, M_g18, M_g19, M_g20, M_g21, M_g22, M_g23, M_g24, M_g25, M_g26, M_g27, M_g28, M_g29, M_g30, M_g31, M_g32, M_g33, M_g34, M_g35, M_g36, M_g37, M_g38, M_g39, M_g40, M_g41, e1, o, o2, M_a327, M_a328, M_w327, m_cAt, m_tAt, M_r hb, i4, hd, hv, a1, a2, n34, n01, iBf, reduceIte, rW, t12, sz, sp, gu]
        cases hu : nUp n s (nF n 2 - 1 - p) p with
        | none =>
          rw [hu] at K
          simp (disch := omega) only [u_186_0, u_186_1, u_186_2, u_186_5, u_186_6, u_186_7, u_186_10, u_186_11, u_186_12, u_186_13, u_186_16, u_186_17, u_186_20, u_186_21, u_186_22, u_186_25, u_186_26, u_186_27, u_186_28, u_186_31, u_186_32, u_186_33, u_186_36, u_186_37, u_186_38, u_186_41, u_186_42, u_186_43, u_186_46, u_186_47, u_186_48, u_186_49, u_186_50, u_186_51, u_186_52, u_186_55, u_186_56, u_186_57, u_186_58, u_186_59, u_186_62, u_186_63, u_186_64, u_186_66, u_186_68, u_186_71, u_186_72, u_186_75, u_186_76, u_186_78, u_186_80, u_186_83, u_186_84, u_186_85, u_186_86, u_186_88, u_186_91, u_186_94, u_186_95, u_186_96, u_186_97, u_186_99, u_186_102, u_186_103, u_186_106, u_186_107, u_186_108, u_186_109, gI0, gIs, gR0, gRs, gF0, gFs, st0, st_i, st_r, st_f, st_n, st_s, true_and, and_true, ↓ifLeT, ↓ifLeF, ↓ifLtT, ↓ifLtF, ↓ifEqT, ↓ifEqF, if_tt, if_ff, if_pos, if_neg, nLe, nLt, nEq, nInT, nCl, pk_mul, nI_add, Nat.reduceAdd, s_cat_nil, s_cat_i, s_cat_r, s_cat_f, s_cat_l, tl_s, tl_n, cat_i, cat_r, cat_f, nb0, nb1, nbI, if_bI, if_bIr, Nat.zero_le, Nat.reduceLeDiff, Option.isSome_none, iBf, reduceIte]
          exact K _ frM_d hsW
        | some q =>
          rw [hu] at K
          obtain ⟨u1, u2, -, -⟩ := nUp_some (nF n 2 - 1 - p) p q (by omega) hu
          have rr : RR (kA (xA m 327 (upd (kA m 327) p (nI 3))) b) (jA n 7 s.1) := by rw [rW]; exact hs.1
          simp (disch := omega) only [u_186_0, u_186_1, u_186_2, u_186_5, u_186_6, u_186_7, u_186_10, u_186_11, u_186_12, u_186_13, u_186_16, u_186_17, u_186_20, u_186_21, u_186_22, u_186_25, u_186_26, u_186_27, u_186_28, u_186_31, u_186_32, u_186_33, u_186_36, u_186_37, u_186_38, u_186_41, u_186_42, u_186_43, u_186_46, u_186_47, u_186_48, u_186_49, u_186_50, u_186_51, u_186_52, u_186_55, u_186_56, u_186_57, u_186_58, u_186_59, u_186_62, u_186_63, u_186_64, u_186_66, u_186_68, u_186_71, u_186_72, u_186_75, u_186_76, u_186_78, u_186_80, u_186_83, u_186_84, u_186_85, u_186_86, u_186_88, u_186_91, u_186_94, u_186_95, u_186_96, u_186_97, u_186_99, u_186_103, u_186_106, u_186_107, u_186_108, u_186_109, gI0, gIs, gR0, gRs, gF0, gFs, st0, st_i, st_r, st_f, st_n, st_s, true_and, and_true, ↓ifLeT, ↓ifLeF, ↓ifLtT, ↓ifLtF, ↓ifEqT, ↓ifEqF, if_tt, if_ff, if_pos, if_neg, nLe, nLt, nEq, nInT, nCl, pk_mul, nI_add, Nat.reduceAdd, s_cat_nil, s_cat_i, s_cat_r, s_cat_f, s_cat_l, tl_s, tl_n, cat_i, cat_r, cat_f, nb0, nb1, nbI, if_bI, if_bIr, Nat.zero_le, Nat.reduceLeDiff, M_ob, Option.isSome_some, iBt, nI10, reduceIte]
          have gs := goes_u (d := d + (3 - (nF n 2 - 1 - p))) (h := h) hb hn hgW rr hj (nF n 2 - 1 - p) p q (fun r h' => WP (d + 6) 186 102 [.ref 317, .ref b, .int (nI p), .int (nI t), .int (nI (nA n 12 t) - nI (s.1 p)), .int (nI 1)] (r.toList ++ []) h' (0, 0) Q) (by omega) hu fun m' hm => by
            simp (disch := omega) only [u_186_0, u_186_1, u_186_2, u_186_5, u_186_6, u_186_7, u_186_10, u_186_11, u_186_12, u_186_13, u_186_16, u_186_17, u_186_20, u_186_21, u_186_22, u_186_25, u_186_26, u_186_27, u_186_28, u_186_31, u_186_32, u_186_33, u_186_36, u_186_37, u_186_38, u_186_41, u_186_42, u_186_43, u_186_46, u_186_47, u_186_48, u_186_49, u_186_50, u_186_51, u_186_52, u_186_55, u_186_56, u_186_57, u_186_58, u_186_59, u_186_62, u_186_63, u_186_64, u_186_66, u_186_68, u_186_71, u_186_72, u_186_75, u_186_76, u_186_78, u_186_80, u_186_83, u_186_84, u_186_85, u_186_86, u_186_88, u_186_91, u_186_94, u_186_95, u_186_96, u_186_97, u_186_99, u_186_102, u_186_103, u_186_106, u_186_107, u_186_108, u_186_109, gI0, gIs, gR0, gRs, gF0, gFs, st0, st_i, st_r, st_f, st_n, st_s, true_and, and_true, ↓ifLeT, ↓ifLeF, ↓ifLtT, ↓ifLtF, ↓ifEqT, ↓ifEqF, if_tt, if_ff, if_pos, if_neg, nLe, nLt, nEq, nInT, nCl, pk_mul, nI_add, Nat.reduceAdd, s_cat_nil, s_cat_i, s_cat_r, s_cat_f, s_cat_l, tl_s, tl_n, cat_i, cat_r, cat_f, nb0, nb1, nbI, if_bI, if_bIr, Nat.zero_le, Nat.reduceLeDiff, M_g0, M_g1, M_g2, M_g3, M_g4, M_g5, M_g6, M_g7, M_g8, M_g9, M_g10, M_g11, M_g12, M_g13, M_g14, M_g15, M_g16, M_g17, M_g18, M_g19, M_g20, M_g21, M_g22, M_g23, M_g24, M_g25, M_g26, M_g27, M_g28, M_g29, M_g30, M_g31, M_g32, M_g33, M_g34, M_g35, M_g36, M_g37, M_g38, M_g39, M_g40, M_g41, M_w327, i4]
            exact K _ (frM_t frM_d (frM_t hm.1 frM_d)) (SR_up hb hs hm u1 hp u2)
          rw [show d + (3 - (nF n 2 - 1 - p)) + 3 + (nF n 2 - 1 - p) = d + 6 by omega] at gs
          exact gs
      · rw [if_neg q2] at K
        have sp := sp.mpr (by omega)
        have gu := fun Q => go_dn (d := d + (3 - p)) (h := h) hb hn hgW hsW hj p Q hp still
        rw [show d + (3 - p) + 3 + p = d + 6 by omega] at gu
        simp (disch := omega) only [u_186_0, u_186_1, u_186_2, u_186_5, u_186_6, u_186_7, u_186_10, u_186_11, u_186_12, u_186_13, u_186_16, u_186_17, u_186_20, u_186_21, u_186_22, u_186_25, u_186_26, u_186_27, u_186_28, u_186_31, u_186_32, u_186_33, u_186_36, u_186_37, u_186_38, u_186_41, u_186_42, u_186_43, u_186_46, u_186_47, u_186_48, u_186_49, u_186_50, u_186_51, u_186_52, u_186_55, u_186_56, u_186_57, u_186_58, u_186_59, u_186_62, u_186_63, u_186_64, u_186_66, u_186_68, u_186_71, u_186_72, u_186_75, u_186_76, u_186_78, u_186_80, u_186_83, u_186_84, u_186_85, u_186_86, u_186_88, u_186_91, u_186_94, u_186_95, u_186_96, u_186_97, u_186_99, u_186_103, u_186_106, u_186_107, u_186_108, u_186_109, gI0, gIs, gR0, gRs, gF0, gFs, st0, st_i, st_r, st_f, st_n, st_s, true_and, and_true, ↓ifLeT, ↓ifLeF, ↓ifLtT, ↓ifLtF, ↓ifEqT, ↓ifEqF, if_tt, if_ff, if_pos, if_neg, nLe, nLt, nEq, nInT, nCl, pk_mul, nI_add, Nat.reduceAdd, s_cat_nil, s_cat_i, s_cat_r, s_cat_f, s_cat_l, tl_s, tl_n, cat_i, cat_r, cat_f, nb0, nb1, nbI, if_bI, if_bIr, Nat.zero_le, Nat.reduceLeDiff, M_ob, M_g0, M_g1, M_g2, M_g3, M_g4, M_g5, M_g6, M_g7, M_g8, M_g9, M_g10, M_g11, M_g12, M_g13, M_g14, M_g15, M_g16, M_g17, M_g18, M_g19, M_g20, M_g21, M_g22, M_g23, M_g24, M_g25, M_g26, M_g27, M_g28, M_g29, M_g30, M_g31, M_g32, M_g33, M_g34, M_g35, M_g36, M_g37, M_g38, M_g39, M_g40, M_g41, e1, o, o2, M_a327, M_a328, M_w327, m_cAt, m_tAt, M_r hb, i4, hd, hv, a1, a2, n34, n01, iBf, reduceIte, rW, t12, sz, sp, gu]
        cases hu : nDn n s p with
        | none =>
          rw [hu] at K
          simp (disch := omega) only [u_186_0, u_186_1, u_186_2, u_186_5, u_186_6, u_186_7, u_186_10, u_186_11, u_186_12, u_186_13, u_186_16, u_186_17, u_186_20, u_186_21, u_186_22, u_186_25, u_186_26, u_186_27, u_186_28, u_186_31, u_186_32, u_186_33, u_186_36, u_186_37, u_186_38, u_186_41, u_186_42, u_186_43, u_186_46, u_186_47, u_186_48, u_186_49, u_186_50, u_186_51, u_186_52, u_186_55, u_186_56, u_186_57, u_186_58, u_186_59, u_186_62, u_186_63, u_186_64, u_186_66, u_186_68, u_186_71, u_186_72, u_186_75, u_186_76, u_186_78, u_186_80, u_186_83, u_186_84, u_186_85, u_186_86, u_186_88, u_186_91, u_186_94, u_186_95, u_186_96, u_186_97, u_186_99, u_186_102, u_186_103, u_186_106, u_186_107, u_186_108, u_186_109, gI0, gIs, gR0, gRs, gF0, gFs, st0, st_i, st_r, st_f, st_n, st_s, true_and, and_true, ↓ifLeT, ↓ifLeF, ↓ifLtT, ↓ifLtF, ↓ifEqT, ↓ifEqF, if_tt, if_ff, if_pos, if_neg, nLe, nLt, nEq, nInT, nCl, pk_mul, nI_add, Nat.reduceAdd, s_cat_nil, s_cat_i, s_cat_r, s_cat_f, s_cat_l, tl_s, tl_n, cat_i, cat_r, cat_f, nb0, nb1, nbI, if_bI, if_bIr, Nat.zero_le, Nat.reduceLeDiff, Option.isSome_none, iBf, reduceIte]
          exact K _ frM_d hsW
        | some q =>
          rw [hu] at K
          obtain ⟨u1, u2, -, -⟩ := nDn_some p q hu
          have rr : RR (kA (xA m 327 (upd (kA m 327) p (nI 3))) b) (jA n 7 s.1) := by rw [rW]; exact hs.1
          simp (disch := omega) only [u_186_0, u_186_1, u_186_2, u_186_5, u_186_6, u_186_7, u_186_10, u_186_11, u_186_12, u_186_13, u_186_16, u_186_17, u_186_20, u_186_21, u_186_22, u_186_25, u_186_26, u_186_27, u_186_28, u_186_31, u_186_32, u_186_33, u_186_36, u_186_37, u_186_38, u_186_41, u_186_42, u_186_43, u_186_46, u_186_47, u_186_48, u_186_49, u_186_50, u_186_51, u_186_52, u_186_55, u_186_56, u_186_57, u_186_58, u_186_59, u_186_62, u_186_63, u_186_64, u_186_66, u_186_68, u_186_71, u_186_72, u_186_75, u_186_76, u_186_78, u_186_80, u_186_83, u_186_84, u_186_85, u_186_86, u_186_88, u_186_91, u_186_94, u_186_95, u_186_96, u_186_97, u_186_99, u_186_103, u_186_106, u_186_107, u_186_108, u_186_109, gI0, gIs, gR0, gRs, gF0, gFs, st0, st_i, st_r, st_f, st_n, st_s, true_and, and_true, ↓ifLeT, ↓ifLeF, ↓ifLtT, ↓ifLtF, ↓ifEqT, ↓ifEqF, if_tt, if_ff, if_pos, if_neg, nLe, nLt, nEq, nInT, nCl, pk_mul, nI_add, Nat.reduceAdd, s_cat_nil, s_cat_i, s_cat_r, s_cat_f, s_cat_l, tl_s, tl_n, cat_i, cat_r, cat_f, nb0, nb1, nbI, if_bI, if_bIr, Nat.zero_le, Nat.reduceLeDiff, M_ob, Option.isSome_some, iBt, nI10, reduceIte]
          have gs := goes_d (d := d + (3 - p)) (h := h) hb hn hgW rr hj p q (fun r h' => WP (d + 6) 186 102 [.ref 317, .ref b, .int (nI p), .int (nI t), .int (nI (nA n 12 t) - nI (s.1 p)), .int (-1)] (r.toList ++ []) h' (0, 0) Q) hp hu fun m' hm => by
            simp (disch := omega) only [u_186_0, u_186_1, u_186_2, u_186_5, u_186_6, u_186_7, u_186_10, u_186_11, u_186_12, u_186_13, u_186_16, u_186_17, u_186_20, u_186_21, u_186_22, u_186_25, u_186_26, u_186_27, u_186_28, u_186_31, u_186_32, u_186_33, u_186_36, u_186_37, u_186_38, u_186_41, u_186_42, u_186_43, u_186_46, u_186_47, u_186_48, u_186_49, u_186_50, u_186_51, u_186_52, u_186_55, u_186_56, u_186_57, u_186_58, u_186_59, u_186_62, u_186_63, u_186_64, u_186_66, u_186_68, u_186_71, u_186_72, u_186_75, u_186_76, u_186_78, u_186_80, u_186_83, u_186_84, u_186_85, u_186_86, u_186_88, u_186_91, u_186_94, u_186_95, u_186_96, u_186_97, u_186_99, u_186_102, u_186_103, u_186_106, u_186_107, u_186_108, u_186_109, gI0, gIs, gR0, gRs, gF0, gFs, st0, st_i, st_r, st_f, st_n, st_s, true_and, and_true, ↓ifLeT, ↓ifLeF, ↓ifLtT, ↓ifLtF, ↓ifEqT, ↓ifEqF, if_tt, if_ff, if_pos, if_neg, nLe, nLt, nEq, nInT, nCl, pk_mul, nI_add, Nat.reduceAdd, s_cat_nil, s_cat_i, s_cat_r, s_cat_f, s_cat_l, tl_s, tl_n, cat_i, cat_r, cat_f, nb0, nb1, nbI, if_bI, if_bIr, Nat.zero_le, Nat.reduceLeDiff, M_g0, M_g1, M_g2, M_g3, M_g4, M_g5, M_g6, M_g7, M_g8, M_g9, M_g10, M_g11, M_g12, M_g13, M_g14, M_g15, M_g16, M_g17, M_g18, M_g19, M_g20, M_g21, M_g22, M_g23, M_g24, M_g25, M_g26, M_g27, M_g28, M_g29, M_g30, M_g31, M_g32, M_g33, M_g34, M_g35, M_g36, M_g37, M_g38, M_g39, M_g40, M_g41, M_w327, i4]
            exact K _ (frM_t frM_d (frM_t hm.1 frM_d)) (SR_dn hb hs hm u1 hp)
          rw [show d + (3 - p) + 3 + p = d + 6 by omega] at gs
          exact gs
  · -- it doesn't
    have st : nStep n p s = s := by unfold nStep; rw [if_neg h3]
    rw [st] at K
    have fin := K m frM_r (SR_next hs h3)
    rw [if_neg (fun q => h3 q.2)] at hd
    by_cases w4 : s.2 p = 4
    · rw [w4] at hd
      simp (disch := omega) only [u_186_0, u_186_1, u_186_2, u_186_5, u_186_6, u_186_7, u_186_10, u_186_11, u_186_12, u_186_13, u_186_16, u_186_17, u_186_20, u_186_21, u_186_22, u_186_25, u_186_26, u_186_27, u_186_28, u_186_31, u_186_32, u_186_33, u_186_36, u_186_37, u_186_38, u_186_41, u_186_42, u_186_43, u_186_46, u_186_47, u_186_48, u_186_49, u_186_50, u_186_51, u_186_52, u_186_55, u_186_56, u_186_57, u_186_58, u_186_59, u_186_62, u_186_63, u_186_64, u_186_66, u_186_68, u_186_71, u_186_72, u_186_75, u_186_76, u_186_78, u_186_80, u_186_83, u_186_84, u_186_85, u_186_86, u_186_88, u_186_91, u_186_94, u_186_95, u_186_96, u_186_97, u_186_99, u_186_102, u_186_103, u_186_106, u_186_107, u_186_108, u_186_109, gI0, gIs, gR0, gRs, gF0, gFs, st0, st_i, st_r, st_f, st_n, st_s, true_and, and_true, ↓ifLeT, ↓ifLeF, ↓ifLtT, ↓ifLtF, ↓ifEqT, ↓ifEqF, if_tt, if_ff, if_pos, if_neg, nLe, nLt, nEq, nInT, nCl, pk_mul, nI_add, Nat.reduceAdd, s_cat_nil, s_cat_i, s_cat_r, s_cat_f, s_cat_l, tl_s, tl_n, cat_i, cat_r, cat_f, nb0, nb1, nbI, if_bI, if_bIr, Nat.zero_le, Nat.reduceLeDiff, M_ob, M_g0, M_g1, M_g2, M_g3, M_g4, M_g5, M_g6, M_g7, M_g8, M_g9, M_g10, M_g11, M_g12, M_g13, M_g14, M_g15, M_g16, M_g17, M_g18, M_g19, M_g20, M_g21, M_g22, M_g23, M_g24, M_g25, M_g26, M_g27, M_g28, M_g29, M_g30, M_g31, M_g32, M_g33, M_g34, M_g35, M_g36, M_g37, M_g38, M_g39, M_g40, M_g41, e1, M_a327, i4, hd]
      exact fin
    · have n4 : ¬ nI (s.2 p) = nI 4 := fun q => w4 ((nI_eq (by omega) (by decide)).mp q)
      by_cases w12 : s.2 p = 1 ∨ s.2 p = 2
      · have hv : kV m p = true := by
          rw [hv]
          rcases w12 with e | e <;> rw [e] <;> rfl
        simp (disch := omega) only [u_186_0, u_186_1, u_186_2, u_186_5, u_186_6, u_186_7, u_186_10, u_186_11, u_186_12, u_186_13, u_186_16, u_186_17, u_186_20, u_186_21, u_186_22, u_186_25, u_186_26, u_186_27, u_186_28, u_186_31, u_186_32, u_186_33, u_186_36, u_186_37, u_186_38, u_186_41, u_186_42, u_186_43, u_186_46, u_186_47, u_186_48, u_186_49, u_186_50, u_186_51, u_186_52, u_186_55, u_186_56, u_186_57, u_186_58, u_186_59, u_186_62, u_186_63, u_186_64, u_186_66, u_186_68, u_186_71, u_186_72, u_186_75, u_186_76, u_186_78, u_186_80, u_186_83, u_186_84, u_186_85, u_186_86, u_186_88, u_186_91, u_186_94, u_186_95, u_186_96, u_186_97, u_186_99, u_186_102, u_186_103, u_186_106, u_186_107, u_186_108, u_186_109, gI0, gIs, gR0, gRs, gF0, gFs, st0, st_i, st_r, st_f, st_n, st_s, true_and, and_true, ↓ifLeT, ↓ifLeF, ↓ifLtT, ↓ifLtF, ↓ifEqT, ↓ifEqF, if_tt, if_ff, if_pos, if_neg, nLe, nLt, nEq, nInT, nCl, pk_mul, nI_add, Nat.reduceAdd, s_cat_nil, s_cat_i, s_cat_r, s_cat_f, s_cat_l, tl_s, tl_n, cat_i, cat_r, cat_f, nb0, nb1, nbI, if_bI, if_bIr, Nat.zero_le, Nat.reduceLeDiff, M_ob, M_g0, M_g1, M_g2, M_g3, M_g4, M_g5, M_g6, M_g7, M_g8, M_g9, M_g10, M_g11, M_g12, M_g13, M_g14, M_g15, M_g16, M_g17, M_g18, M_g19, M_g20, M_g21, M_g22, M_g23, M_g24, M_g25, M_g26, M_g27, M_g28, M_g29, M_g30, M_g31, M_g32, M_g33, M_g34, M_g35, M_g36, M_g37, M_g38, M_g39, M_g40, M_g41, e1, M_a327, M_a328, i4, hd, n4, hv, iBt, nI10, reduceIte]
        exact fin
      · have hv : kV m p = false := by
          rw [hv, decide_eq_false (fun q => w12 (Or.inl q)), decide_eq_false (fun q => w12 (Or.inr q))]; rfl
        have j4 := hj.2.2.2 p hp (fun q => w12 (Or.inl q)) (fun q => w12 (Or.inr q))
        have d00 : nDeed0 n p = 0 := by
          rcases deed0_le n p with e | e | e
          · exact e
          · exact absurd (j4.2.trans e) h3
          · exact absurd (j4.2.trans e) w4
        have kx : nK n p = true ∨ nNext n p = none := by
          unfold nDeed0 at d00
          split at d00
          · cases d00
          · split at d00
            · rename_i hc
              rw [Bool.or_eq_true, Option.isNone_iff_eq_none] at hc
              exact hc
            · cases d00
        cases hk : nK n p with
        | true =>
          rw [hk] at a2
          simp (disch := omega) only [u_186_0, u_186_1, u_186_2, u_186_5, u_186_6, u_186_7, u_186_10, u_186_11, u_186_12, u_186_13, u_186_16, u_186_17, u_186_20, u_186_21, u_186_22, u_186_25, u_186_26, u_186_27, u_186_28, u_186_31, u_186_32, u_186_33, u_186_36, u_186_37, u_186_38, u_186_41, u_186_42, u_186_43, u_186_46, u_186_47, u_186_48, u_186_49, u_186_50, u_186_51, u_186_52, u_186_55, u_186_56, u_186_57, u_186_58, u_186_59, u_186_62, u_186_63, u_186_64, u_186_66, u_186_68, u_186_71, u_186_72, u_186_75, u_186_76, u_186_78, u_186_80, u_186_83, u_186_84, u_186_85, u_186_86, u_186_88, u_186_91, u_186_94, u_186_95, u_186_96, u_186_97, u_186_99, u_186_102, u_186_103, u_186_106, u_186_107, u_186_108, u_186_109, gI0, gIs, gR0, gRs, gF0, gFs, st0, st_i, st_r, st_f, st_n, st_s, true_and, and_true, ↓ifLeT, ↓ifLeF, ↓ifLtT, ↓ifLtF, ↓ifEqT, ↓ifEqF, if_tt, if_ff, if_pos, if_neg, nLe, nLt, nEq, nInT, nCl, pk_mul, nI_add, Nat.reduceAdd, s_cat_nil, s_cat_i, s_cat_r, s_cat_f, s_cat_l, tl_s, tl_n, cat_i, cat_r, cat_f, nb0, nb1, nbI, if_bI, if_bIr, Nat.zero_le, Nat.reduceLeDiff, M_ob, M_g0, M_g1, M_g2, M_g3, M_g4, M_g5, M_g6, M_g7, M_g8, M_g9, M_g10, M_g11, M_g12, M_g13, M_g14, M_g15, M_g16, M_g17, M_g18, M_g19, M_g20, M_g21, M_g22, M_g23, M_g24, M_g25, M_g26, M_g27, M_g28, M_g29, M_g30, M_g31, M_g32, M_g33, M_g34, M_g35, M_g36, M_g37, M_g38, M_g39, M_g40, M_g41, e1, M_a327, M_a328, m_cAt, M_r hb, i4, hd, n4, hv, a2, iBt, iBf, nI10, reduceIte]
          exact fin
        | false =>
          rw [hk] at a2 kx
          have hx : nNext n p = none := by
            rcases kx with e | e
            · cases e
            · exact e
          rw [hx] at e1
          have o : oI1 none = -1 := rfl
          have n01 : ¬ nI 0 = nI 1 := by decide
          simp (disch := omega) only [u_186_0, u_186_1, u_186_2, u_186_5, u_186_6, u_186_7, u_186_10, u_186_11, u_186_12, u_186_13, u_186_16, u_186_17, u_186_20, u_186_21, u_186_22, u_186_25, u_186_26, u_186_27, u_186_28, u_186_31, u_186_32, u_186_33, u_186_36, u_186_37, u_186_38, u_186_41, u_186_42, u_186_43, u_186_46, u_186_47, u_186_48, u_186_49, u_186_50, u_186_51, u_186_52, u_186_55, u_186_56, u_186_57, u_186_58, u_186_59, u_186_62, u_186_63, u_186_64, u_186_66, u_186_68, u_186_71, u_186_72, u_186_75, u_186_76, u_186_78, u_186_80, u_186_83, u_186_84, u_186_85, u_186_86, u_186_88, u_186_91, u_186_94, u_186_95, u_186_96, u_186_97, u_186_99, u_186_102, u_186_103, u_186_106, u_186_107, u_186_108, u_186_109, gI0, gIs, gR0, gRs, gF0, gFs, st0, st_i, st_r, st_f, st_n, st_s, true_and, and_true, ↓ifLeT, ↓ifLeF, ↓ifLtT, ↓ifLtF, ↓ifEqT, ↓ifEqF, if_tt, if_ff, if_pos, if_neg, nLe, nLt, nEq, nInT, nCl, pk_mul, nI_add, Nat.reduceAdd, s_cat_nil, s_cat_i, s_cat_r, s_cat_f, s_cat_l, tl_s, tl_n, cat_i, cat_r, cat_f, nb0, nb1, nbI, if_bI, if_bIr, Nat.zero_le, Nat.reduceLeDiff, M_ob, M_g0, M_g1, M_g2, M_g3, M_g4, M_g5, M_g6, M_g7, M_g8, M_g9, M_g10, M_g11, M_g12, M_g13, M_g14, M_g15, M_g16, M_g17, M_g18, M_g19, M_g20, M_g21, M_g22, M_g23, M_g24, M_g25, M_g26, M_g27, M_g28, M_g29, M_g30, M_g31, M_g32, M_g33, M_g34, M_g35, M_g36, M_g37, M_g38, M_g39, M_g40, M_g41, e1, o, M_a327, M_a328, m_cAt, M_r hb, i4, hd, n4, hv, a2, n01, iBf, reduceIte]
          exact fin
end MN2
