/-! the reference's quay and fault -/
section MQW
variable {d : Nat} {m : tM} {h : sH} {w : Int32} {Q : sQ} {n : tN} {z : tQ} {y : tY}
theorem RR_Q (hF : RDF m y) (hD : DI y n) (h1 : 1 ≤ nF n 2) : RR (kA m 322) (nOf y) ∧ okQ (nOf y) ∧ RY y (nOf y) := by
  obtain ⟨⟨r1, r2, r3, r4, rc, rt, r5, r6, r7⟩, r8⟩ := hF
  obtain ⟨hy, hn, d1, d2, d3, d4⟩ := id hD
  have hok : okQ n := ⟨hn, h1, by omega, d2⟩
  obtain ⟨hy2, hok2⟩ := nOf_ok hy hok
  have hn2 := hok2.1
  have h4 := hn2.1.1
  have h8 := hn2.1.2.1
  have l31 := wfL31 hn
  have gL : nL (nOf y) = fun _ => [] := by
    have : nL (nOf y) = nL n := lP_of hy.2.2.2 (fun c hcc => hn.2.2.2.1 c (by have := hn.1.1; omega)) l31
    rw [this, d3]
  have gK : ∀ c, c < 4 → nK (nOf y) c = false := fun c hc => by
    show decide (¬ bitS (yB y 5) (nI c) = nI 0) = false
    rw [hy.1.2.2.2.2.2.1, d4, bitsN_f]
    have := (bitS_n (m := 0) (c := c) (by decide) (by omega)).mpr (Nat.zero_testBit c)
    rw [this]
    decide
  refine ⟨⟨?_, r4, fun c hc => ?_, fun t ht => ?_⟩, hok2, hy2⟩
  · rw [r7, ← hy2.1.2.2.2.2.1, hy.1.2.2.2.2.1, d1]
  · obtain ⟨a1, a2, a3⟩ := rc c hc
    obtain ⟨b1, b2, b3⟩ := hy2.2.1.1 c hc
    unfold RRc
    rw [gL, gK c (by omega), ← b3, a3]
    exact ⟨a1.trans b1, r5 c 1 (by omega) (by decide) (by decide), r5 c 2 (by omega) (by decide) (by decide), r5 c 3 (by omega) (by decide) (by decide), fun k hk => absurd hk (Nat.not_lt_zero k)⟩
  · have ht' : t < yT y := ht
    obtain ⟨a1, a2, a3, a4, a5, a6, a7⟩ := rt t ht'
    obtain ⟨b1, b2, b3, b4, b5, b6, b7⟩ := hy2.2.2.1 t ht
    obtain ⟨c1, c2⟩ := r8 t (by omega)
    exact ⟨a1.trans b1, a2.trans b2, a3.trans b3, a4.trans b4, (r6 t (by omega)).trans (a5.symm.trans b5), c1.trans (a6.symm.trans b6), c2.trans (a7.symm.trans b7)⟩
theorem lift_lp {m0 : tM} (K : ∀ f, (∀ c, c < 4 → f c = kA m0 321 c) → WP (d + 6) 173 74 [.ref 317, .int (nI 4)] [] (pM (xA m0 319 f) h) (0, 0) Q) : ∀ q k f, k + q = 4 → (∀ c, c < k → f c = kA m0 321 c) → WP (d + 6) 173 51 [.ref 317, .int (nI k)] [] (pM (xA m0 319 f) h) (0, 0) Q := by
  intro q
  induction q with
  | zero =>
    intro k f hk hf
    have e : k = 4 := by omega
    subst e
    rw [u_173_51]
    simp (disch := omega) only [u_173_52, u_173_53, u_173_56, u_173_57, u_173_60, u_173_61, u_173_62, u_173_65, u_173_66, u_173_67, u_173_68, u_173_71, gI0, gIs, gR0, gRs, gF0, gFs, st0, st_i, st_r, st_f, st_n, st_s, true_and, and_true, ↓ifLeT, ↓ifLeF, ↓ifLtT, ↓ifLtF, ↓ifEqT, ↓ifEqF, if_tt, if_ff, if_pos, if_neg, nLe, nLt, nEq, nInT, nCl, pk_mul, nI_add, Nat.reduceAdd, s_cat_nil, s_cat_i, s_cat_r, s_cat_f, s_cat_l, tl_s, tl_n, cat_i, cat_r, cat_f, nb0, nb1, nbI, if_bI, if_bIr, Nat.zero_le, Nat.reduceLeDiff]
    exact K f hf
  | succ q ih =>
    intro k f hk hf
    have i4 : vp_in (nI k) 4 := (nIn (by omega)).mpr (by omega)
    have c4 : (nI k).toNatClampNeg = k := nCl (by omega)
    rw [u_173_51]
    simp (disch := omega) only [u_173_52, u_173_53, u_173_56, u_173_57, u_173_60, u_173_61, u_173_62, u_173_65, u_173_66, u_173_67, u_173_68, u_173_71, gI0, gIs, gR0, gRs, gF0, gFs, st0, st_i, st_r, st_f, st_n, st_s, true_and, and_true, ↓ifLeT, ↓ifLeF, ↓ifLtT, ↓ifLtF, ↓ifEqT, ↓ifEqF, if_tt, if_ff, if_pos, if_neg, nLe, nLt, nEq, nInT, nCl, pk_mul, nI_add, Nat.reduceAdd, s_cat_nil, s_cat_i, s_cat_r, s_cat_f, s_cat_l, tl_s, tl_n, cat_i, cat_r, cat_f, nb0, nb1, nbI, if_bI, if_bIr, Nat.zero_le, Nat.reduceLeDiff, M_g0, M_g1, M_g2, M_g3, M_g4, M_g5, M_g6, M_g7, M_g8, M_g9, M_g10, M_g11, M_g12, M_g13, M_g14, M_g15, M_g16, M_g17, M_g18, M_g19, M_g20, M_g21, M_g22, M_g23, M_g24, M_g25, M_g26, M_g27, M_g28, M_g29, M_g30, M_g31, M_g32, M_g33, M_g34, M_g35, M_g36, M_g37, M_g38, M_g39, M_g40, M_g41, M_a321, M_w319, i4, c4, kA_eq, xA_tw, kA_ne (show (321 : Nat) ≠ 319 by decide)]
    refine ih (k + 1) _ (by omega) fun c hc => ?_
    by_cases e : c = k
    · subst e
      exact if_pos rfl
    · rw [upd_ne e]
      exact hf c (by omega)
theorem z_quay (hm : RM m z) (hW : gW (zD z)) (K : ∀ m', RM m' (zquay z).2 → Q (some (.int (zquay z).1)) (pM m' h)) : MT (d + 7) 173 [.ref 317] (pM m h) Q := by
  rw [MT_go (by decide) _ _ _ (Nat.le_of_ble_eq_true rfl), show s_entry 173 [.ref 317] = [.ref 317, s_no] from rfl]
  have hm0 := RM_0 (x := nI 0) hm
  have c1 : (nI 1).toNatClampNeg = 1 := rfl
  unfold zquay at K
  simp (disch := omega) only [u_173_0, u_173_1, u_173_2, u_173_5, u_173_6, gI0, gIs, gR0, gRs, gF0, gFs, st0, st_i, st_r, st_f, st_n, st_s, true_and, and_true, ↓ifLeT, ↓ifLeF, ↓ifLtT, ↓ifLtF, ↓ifEqT, ↓ifEqF, if_tt, if_ff, if_pos, if_neg, nLe, nLt, nEq, nInT, nCl, pk_mul, nI_add, Nat.reduceAdd, s_cat_nil, s_cat_i, s_cat_r, s_cat_f, s_cat_l, tl_s, tl_n, cat_i, cat_r, cat_f, nb0, nb1, nbI, if_bI, if_bIr, Nat.zero_le, Nat.reduceLeDiff, M_ob, M_s0]
  refine r_readsQ (d := d) (y := zD z) hm0.1 hW ⟨fun e m1 f1 T1 F1 => ?_, fun e m1 f1 T1 o1 => ?_⟩
  · simp only [if_pos e] at K
    obtain ⟨n, hD, h1⟩ := rdQ_n hW e
    obtain ⟨hr, hok, hy⟩ := RR_Q F1 hD h1
    obtain ⟨⟨r14, r15, r16, -⟩, -⟩ := id F1
    have hm1 : RM m1 z := RM_fr (frU_Z f1) hm0
    simp (disch := omega) only [u_173_9, u_173_10, u_173_13, u_173_14, u_173_15, u_173_16, u_173_17, u_173_20, u_173_21, u_173_22, u_173_25, u_173_26, u_173_27, u_173_30, u_173_33, u_173_34, u_173_35, u_173_38, u_173_41, u_173_42, u_173_43, u_173_46, u_173_49, u_173_50, gI0, gIs, gR0, gRs, gF0, gFs, st0, st_i, st_r, st_f, st_n, st_s, true_and, and_true, ↓ifLeT, ↓ifLeF, ↓ifLtT, ↓ifLtF, ↓ifEqT, ↓ifEqF, if_tt, if_ff, if_pos, if_neg, nLe, nLt, nEq, nInT, nCl, pk_mul, nI_add, Nat.reduceAdd, s_cat_nil, s_cat_i, s_cat_r, s_cat_f, s_cat_l, tl_s, tl_n, cat_i, cat_r, cat_f, nb0, nb1, nbI, if_bI, if_bIr, Nat.zero_le, Nat.reduceLeDiff, M_ob, M_g0, M_g1, M_g2, M_g3, M_g4, M_g5, M_g6, M_g7, M_g8, M_g9, M_g10, M_g11, M_g12, M_g13, M_g14, M_g15, M_g16, M_g17, M_g18, M_g19, M_g20, M_g21, M_g22, M_g23, M_g24, M_g25, M_g26, M_g27, M_g28, M_g29, M_g30, M_g31, M_g32, M_g33, M_g34, M_g35, M_g36, M_g37, M_g38, M_g39, M_g40, M_g41, M_s2, M_s13t, M_s8, M_s9, M_s10, kI_xI, kI_xB, kI_xA, kI_xV, kB_xI, kB_xB, kB_xA, kB_xV, kA_xI, kA_xB, kA_xA, kA_xV, kV_xI, kV_xB, kV_xA, kV_xV, Nat.reduceEqDiff, reduceIte, r14, r15, r16, reduceIte]
    have go := fun K => lift_lp (d := d) (h := h) (Q := Q) (m0 := xI (xI (xI (xB (xI m1 2 (nI 0)) 13 true) 8 (yB (rdQ (zT z) (zD z)).2.2 0)) 9 (yB (rdQ (zT z) (zD z)).2.2 1)) 10 (nI (yC (rdQ (zT z) (zD z)).2.2))) K 4 0 (kA m1 319) rfl fun c hc => absurd hc (Nat.not_lt_zero c)
    rw [show kA m1 319 = kA (xI (xI (xI (xB (xI m1 2 (nI 0)) 13 true) 8 (yB (rdQ (zT z) (zD z)).2.2 0)) 9 (yB (rdQ (zT z) (zD z)).2.2 1)) 10 (nI (yC (rdQ (zT z) (zD z)).2.2))) 319 from rfl, xA_eta] at go
    refine go fun f hf => ?_
    clear go
    simp (disch := omega) only [u_173_74, u_173_75, u_173_78, u_173_79, u_173_82, gI0, gIs, gR0, gRs, gF0, gFs, st0, st_i, st_r, st_f, st_n, st_s, true_and, and_true, ↓ifLeT, ↓ifLeF, ↓ifLtT, ↓ifLtF, ↓ifEqT, ↓ifEqF, if_tt, if_ff, if_pos, if_neg, nLe, nLt, nEq, nInT, nCl, pk_mul, nI_add, Nat.reduceAdd, s_cat_nil, s_cat_i, s_cat_r, s_cat_f, s_cat_l, tl_s, tl_n, cat_i, cat_r, cat_f, nb0, nb1, nbI, if_bI, if_bIr, Nat.zero_le, Nat.reduceLeDiff, M_ob, M_g0, M_g1, M_g2, M_g3, M_g4, M_g5, M_g6, M_g7, M_g8, M_g9, M_g10, M_g11, M_g12, M_g13, M_g14, M_g15, M_g16, M_g17, M_g18, M_g19, M_g20, M_g21, M_g22, M_g23, M_g24, M_g25, M_g26, M_g27, M_g28, M_g29, M_g30, M_g31, M_g32, M_g33, M_g34, M_g35, M_g36, M_g37, M_g38, M_g39, M_g40, M_g41]
    refine r_copy rb322 rb320 (by decide) fun g hg => ?_
    have g1 : g 1 = nI (yT (rdQ (zT z) (zD z)).2.2) := by
      rw [hg 1 (by decide), kA_ne (by decide)]
      exact hr.2.1
    simp (disch := omega) only [u_173_85, u_173_86, u_173_87, u_173_90, u_173_91, u_173_92, u_173_95, u_173_96, u_173_99, u_173_100, u_173_101, gI0, gIs, gR0, gRs, gF0, gFs, st0, st_i, st_r, st_f, st_n, st_s, true_and, and_true, ↓ifLeT, ↓ifLeF, ↓ifLtT, ↓ifLtF, ↓ifEqT, ↓ifEqF, if_tt, if_ff, if_pos, if_neg, nLe, nLt, nEq, nInT, nCl, pk_mul, nI_add, Nat.reduceAdd, s_cat_nil, s_cat_i, s_cat_r, s_cat_f, s_cat_l, tl_s, tl_n, cat_i, cat_r, cat_f, nb0, nb1, nbI, if_bI, if_bIr, Nat.zero_le, Nat.reduceLeDiff, M_ob, M_g0, M_g1, M_g2, M_g3, M_g4, M_g5, M_g6, M_g7, M_g8, M_g9, M_g10, M_g11, M_g12, M_g13, M_g14, M_g15, M_g16, M_g17, M_g18, M_g19, M_g20, M_g21, M_g22, M_g23, M_g24, M_g25, M_g26, M_g27, M_g28, M_g29, M_g30, M_g31, M_g32, M_g33, M_g34, M_g35, M_g36, M_g37, M_g38, M_g39, M_g40, M_g41, M_s23, M_s41f, M_r rb320, c1, kI_xI, kI_xB, kI_xA, kI_xV, kB_xI, kB_xB, kB_xA, kB_xV, kA_xI, kA_xB, kA_xA, kA_xV, kV_xI, kV_xB, kV_xA, kV_xV, Nat.reduceEqDiff, reduceIte, g1]
    obtain ⟨-, -, -, -, hrf⟩ := hm1
    have hn := hok.1
    refine K _ ⟨⟨rfl, Nat.zero_le _, fun j hj => absurd hj (Nat.not_lt_zero j)⟩, ⟨rfl, fun n2 e2 => ?_⟩, ⟨rfl, Nat.zero_le _, fun j a e2 => ?_⟩, ⟨rfl, fun a e2 => ?_⟩, hrf⟩
    · cases e2
      refine ⟨⟨hy.1.1, hy.1.2.1, rfl, fun c hc => ?_⟩, ?_, hok⟩
      · have := hf c (by have := hn.1.1; omega)
        obtain ⟨-, b2, -⟩ := hy.2.1.1 c hc
        obtain ⟨-, a2, -⟩ := F1.1.2.2.2.2.1 c hc
        exact this.trans (a2.trans b2)
      · exact RR_cong hn (f := kA m1 322) (fun j hj => (hg j hj).trans rfl) hr
    · have e2 : ([] : List tN)[j]? = some a := e2
      simp at e2
    · cases e2
  · simp only [e, Bool.false_eq_true, if_false] at K
    have o : ¬ nI (eN (rdQ (zT z) (zD z)).2.1 2) = -1 := m1_ne (by omega)
    simp (disch := omega) only [u_173_9, u_173_10, u_173_13, u_173_14, gI0, gIs, gR0, gRs, gF0, gFs, st0, st_i, st_r, st_f, st_n, st_s, true_and, and_true, ↓ifLeT, ↓ifLeF, ↓ifLtT, ↓ifLtF, ↓ifEqT, ↓ifEqF, if_tt, if_ff, if_pos, if_neg, nLe, nLt, nEq, nInT, nCl, pk_mul, nI_add, Nat.reduceAdd, s_cat_nil, s_cat_i, s_cat_r, s_cat_f, s_cat_l, tl_s, tl_n, cat_i, cat_r, cat_f, nb0, nb1, nbI, if_bI, if_bIr, Nat.zero_le, Nat.reduceLeDiff, o, reduceIte]
    exact K m1 (RM_T (z := z) (RM_fr (frU_Z f1) hm0) T1)
theorem z_fault (hm : RM m z) (hW : gW (zD z)) (K : ∀ m', RM m' (zfault z w).2 → Q (some (.int (zfault z w).1)) (pM m' h)) : MT (d + 7) 172 [.ref 317, .int w] (pM m h) Q := by
  rw [MT_go (by decide) _ _ _ (Nat.le_of_ble_eq_true rfl), show s_entry 172 [.ref 317, .int w] = [.ref 317, .int w] from rfl]
  have hm0 := RM_0 (x := nI 0) hm
  have q1 := hm.2.1.1
  unfold zfault at K
  cases hx : ixN w 3 with
  | none =>
    have nx := ix_none hx
    have e0 : ¬ w = nI 0 := fun e => nx (by rw [e]; decide)
    have e1 : ¬ w = nI 1 := fun e => nx (by rw [e]; decide)
    have e2 : ¬ w = nI 2 := fun e => nx (by rw [e]; decide)
    simp only [if_neg e0, if_neg e1, if_neg e2] at K
    simp (disch := omega) only [u_172_0, u_172_1, u_172_2, u_172_5, u_172_6, u_172_7, u_172_8, u_172_11, u_172_14, u_172_17, u_172_18, u_172_21, u_172_22, u_172_25, u_172_28, u_172_30, u_172_31, u_172_32, u_172_35, u_172_36, u_172_39, u_172_42, u_172_43, u_172_44, u_172_47, u_172_48, u_172_51, u_172_54, u_172_55, u_172_58, gI0, gIs, gR0, gRs, gF0, gFs, st0, st_i, st_r, st_f, st_n, st_s, true_and, and_true, ↓ifLeT, ↓ifLeF, ↓ifLtT, ↓ifLtF, ↓ifEqT, ↓ifEqF, if_tt, if_ff, if_pos, if_neg, nLe, nLt, nEq, nInT, nCl, pk_mul, nI_add, Nat.reduceAdd, s_cat_nil, s_cat_i, s_cat_r, s_cat_f, s_cat_l, tl_s, tl_n, cat_i, cat_r, cat_f, nb0, nb1, nbI, if_bI, if_bIr, Nat.zero_le, Nat.reduceLeDiff, M_ob, M_s0, in3, hx, Option.isSome, iBf]
    cases hq : zQ z with
    | none => simp only [hq] at K; exact K _ hm0
    | some n => simp only [hq] at K; exact K _ hm0
  | some j =>
    obtain ⟨j3, rfl⟩ := ix_some (by decide) hx
    by_cases e0 : j = 0
    · subst e0
      simp only [if_true] at K
      simp (disch := omega) only [u_172_0, u_172_1, u_172_2, u_172_5, u_172_6, u_172_7, u_172_8, u_172_11, u_172_14, u_172_17, u_172_18, u_172_21, u_172_22, u_172_25, u_172_28, u_172_30, u_172_31, u_172_32, u_172_35, u_172_36, gI0, gIs, gR0, gRs, gF0, gFs, st0, st_i, st_r, st_f, st_n, st_s, true_and, and_true, ↓ifLeT, ↓ifLeF, ↓ifLtT, ↓ifLtF, ↓ifEqT, ↓ifEqF, if_tt, if_ff, if_pos, if_neg, nLe, nLt, nEq, nInT, nCl, pk_mul, nI_add, Nat.reduceAdd, s_cat_nil, s_cat_i, s_cat_r, s_cat_f, s_cat_l, tl_s, tl_n, cat_i, cat_r, cat_f, nb0, nb1, nbI, if_bI, if_bIr, Nat.zero_le, Nat.reduceLeDiff, M_ob, M_s0, in3, hx, Option.isSome, iBt, nI10, reduceIte]
      refine r_readsQ (d := d) (y := zD z) hm0.1 hW ⟨fun e m1 f1 T1 F1 => ?_, fun e m1 f1 T1 o1 => ?_⟩
      · simp only [if_pos e] at K
        simp (disch := omega) only [u_172_39, u_172_42, u_172_43, u_172_44, u_172_47, u_172_48, u_172_51, u_172_54, u_172_55, u_172_58, gI0, gIs, gR0, gRs, gF0, gFs, st0, st_i, st_r, st_f, st_n, st_s, true_and, and_true, ↓ifLeT, ↓ifLeF, ↓ifLtT, ↓ifLtF, ↓ifEqT, ↓ifEqF, if_tt, if_ff, if_pos, if_neg, nLe, nLt, nEq, nInT, nCl, pk_mul, nI_add, Nat.reduceAdd, s_cat_nil, s_cat_i, s_cat_r, s_cat_f, s_cat_l, tl_s, tl_n, cat_i, cat_r, cat_f, nb0, nb1, nbI, if_bI, if_bIr, Nat.zero_le, Nat.reduceLeDiff]
        exact K m1 (RM_T (z := z) (RM_fr (frU_Z f1) hm0) T1)
      · simp only [e, Bool.false_eq_true, if_false] at K
        simp (disch := omega) only [u_172_39, u_172_42, u_172_43, u_172_44, u_172_47, u_172_48, u_172_51, u_172_54, u_172_55, u_172_58, gI0, gIs, gR0, gRs, gF0, gFs, st0, st_i, st_r, st_f, st_n, st_s, true_and, and_true, ↓ifLeT, ↓ifLeF, ↓ifLtT, ↓ifLtF, ↓ifEqT, ↓ifEqF, if_tt, if_ff, if_pos, if_neg, nLe, nLt, nEq, nInT, nCl, pk_mul, nI_add, Nat.reduceAdd, s_cat_nil, s_cat_i, s_cat_r, s_cat_f, s_cat_l, tl_s, tl_n, cat_i, cat_r, cat_f, nb0, nb1, nbI, if_bI, if_bIr, Nat.zero_le, Nat.reduceLeDiff]
        exact K m1 (RM_T (z := z) (RM_fr (frU_Z f1) hm0) T1)
    · have n0 : ¬ nI j = nI 0 := fun q => e0 ((nI_eq (by omega) (by omega)).mp q)
      simp only [if_neg n0] at K
      cases hq : zQ z with
      | none =>
        simp only [hq] at K
        rw [hq] at q1
        simp (disch := omega) only [u_172_0, u_172_1, u_172_2, u_172_5, u_172_6, u_172_7, u_172_8, u_172_11, u_172_14, u_172_17, u_172_18, u_172_21, u_172_22, u_172_25, u_172_28, u_172_30, gI0, gIs, gR0, gRs, gF0, gFs, st0, st_i, st_r, st_f, st_n, st_s, true_and, and_true, ↓ifLeT, ↓ifLeF, ↓ifLtT, ↓ifLtF, ↓ifEqT, ↓ifEqF, if_tt, if_ff, if_pos, if_neg, nLe, nLt, nEq, nInT, nCl, pk_mul, nI_add, Nat.reduceAdd, s_cat_nil, s_cat_i, s_cat_r, s_cat_f, s_cat_l, tl_s, tl_n, cat_i, cat_r, cat_f, nb0, nb1, nbI, if_bI, if_bIr, Nat.zero_le, Nat.reduceLeDiff, M_ob, M_g0, M_g1, M_g2, M_g3, M_g4, M_g5, M_g6, M_g7, M_g8, M_g9, M_g10, M_g11, M_g12, M_g13, M_g14, M_g15, M_g16, M_g17, M_g18, M_g19, M_g20, M_g21, M_g22, M_g23, M_g24, M_g25, M_g26, M_g27, M_g28, M_g29, M_g30, M_g31, M_g32, M_g33, M_g34, M_g35, M_g36, M_g37, M_g38, M_g39, M_g40, M_g41, kI_xI, kI_xB, kI_xA, kI_xV, kB_xI, kB_xB, kB_xA, kB_xV, kA_xI, kA_xB, kA_xA, kA_xV, kV_xI, kV_xB, kV_xA, kV_xV, Nat.reduceEqDiff, reduceIte, M_s0, in3, hx, q1, Option.isSome, iBt, iBf, nI10, reduceIte]
        exact K _ hm0
      | some n =>
        simp only [hq] at K
        rw [hq] at q1
        obtain ⟨hg, hr, hok⟩ := RM_q hm0 hq
        have h4 := hok.1.1.1
        by_cases j1 : j = 1
        · subst j1
          simp only [if_true] at K
          simp (disch := omega) only [u_172_0, u_172_1, u_172_2, u_172_5, u_172_6, u_172_7, u_172_8, u_172_11, u_172_14, u_172_17, u_172_18, u_172_21, u_172_22, u_172_25, u_172_28, u_172_30, u_172_31, u_172_32, u_172_35, u_172_36, u_172_39, u_172_42, u_172_43, u_172_44, u_172_47, u_172_48, gI0, gIs, gR0, gRs, gF0, gFs, st0, st_i, st_r, st_f, st_n, st_s, true_and, and_true, ↓ifLeT, ↓ifLeF, ↓ifLtT, ↓ifLtF, ↓ifEqT, ↓ifEqF, if_tt, if_ff, if_pos, if_neg, nLe, nLt, nEq, nInT, nCl, pk_mul, nI_add, Nat.reduceAdd, s_cat_nil, s_cat_i, s_cat_r, s_cat_f, s_cat_l, tl_s, tl_n, cat_i, cat_r, cat_f, nb0, nb1, nbI, if_bI, if_bIr, Nat.zero_le, Nat.reduceLeDiff, M_ob, M_g0, M_g1, M_g2, M_g3, M_g4, M_g5, M_g6, M_g7, M_g8, M_g9, M_g10, M_g11, M_g12, M_g13, M_g14, M_g15, M_g16, M_g17, M_g18, M_g19, M_g20, M_g21, M_g22, M_g23, M_g24, M_g25, M_g26, M_g27, M_g28, M_g29, M_g30, M_g31, M_g32, M_g33, M_g34, M_g35, M_g36, M_g37, M_g38, M_g39, M_g40, M_g41, kI_xI, kI_xB, kI_xA, kI_xV, kB_xI, kB_xB, kB_xA, kB_xV, kA_xI, kA_xB, kA_xA, kA_xV, kV_xI, kV_xB, kV_xA, kV_xV, Nat.reduceEqDiff, reduceIte, M_s0, in3, hx, q1, Option.isSome, iBt, nI10, reduceIte]
          refine r_readsP (d := d + 2) (t := zT z) (p := zP z) hok.1 hg hr hm0.1 (fun e m1 l1 f1 T1 fl1 el wl => ?_) fun e m1 f1 T1 o1 => ?_
          · simp only [e, if_true] at K
            simp (disch := omega) only [u_172_51, u_172_54, u_172_55, u_172_58, gI0, gIs, gR0, gRs, gF0, gFs, st0, st_i, st_r, st_f, st_n, st_s, true_and, and_true, ↓ifLeT, ↓ifLeF, ↓ifLtT, ↓ifLtF, ↓ifEqT, ↓ifEqF, if_tt, if_ff, if_pos, if_neg, nLe, nLt, nEq, nInT, nCl, pk_mul, nI_add, Nat.reduceAdd, s_cat_nil, s_cat_i, s_cat_r, s_cat_f, s_cat_l, tl_s, tl_n, cat_i, cat_r, cat_f, nb0, nb1, nbI, if_bI, if_bIr, Nat.zero_le, Nat.reduceLeDiff]
            exact K m1 (RM_T (z := z) (RM_fr (frL_Z f1) hm0) T1)
          · simp only [e, Bool.false_eq_true, if_false] at K
            simp (disch := omega) only [u_172_51, u_172_54, u_172_55, u_172_58, gI0, gIs, gR0, gRs, gF0, gFs, st0, st_i, st_r, st_f, st_n, st_s, true_and, and_true, ↓ifLeT, ↓ifLeF, ↓ifLtT, ↓ifLtF, ↓ifEqT, ↓ifEqF, if_tt, if_ff, if_pos, if_neg, nLe, nLt, nEq, nInT, nCl, pk_mul, nI_add, Nat.reduceAdd, s_cat_nil, s_cat_i, s_cat_r, s_cat_f, s_cat_l, tl_s, tl_n, cat_i, cat_r, cat_f, nb0, nb1, nbI, if_bI, if_bIr, Nat.zero_le, Nat.reduceLeDiff]
            exact K m1 (RM_T (z := z) (RM_fr (frL_Z f1) hm0) T1)
        · have j2 : j = 2 := by omega
          subst j2
          have n1 : ¬ nI 2 = nI 1 := by decide
          simp only [if_neg n1, if_true] at K
          simp (disch := omega) only [u_172_0, u_172_1, u_172_2, u_172_5, u_172_6, u_172_7, u_172_8, u_172_11, u_172_14, u_172_17, u_172_18, u_172_21, u_172_22, u_172_25, u_172_28, u_172_30, u_172_31, u_172_32, u_172_35, u_172_36, u_172_39, u_172_42, u_172_43, u_172_44, u_172_47, u_172_48, u_172_51, u_172_54, u_172_55, gI0, gIs, gR0, gRs, gF0, gFs, st0, st_i, st_r, st_f, st_n, st_s, true_and, and_true, ↓ifLeT, ↓ifLeF, ↓ifLtT, ↓ifLtF, ↓ifEqT, ↓ifEqF, if_tt, if_ff, if_pos, if_neg, nLe, nLt, nEq, nInT, nCl, pk_mul, nI_add, Nat.reduceAdd, s_cat_nil, s_cat_i, s_cat_r, s_cat_f, s_cat_l, tl_s, tl_n, cat_i, cat_r, cat_f, nb0, nb1, nbI, if_bI, if_bIr, Nat.zero_le, Nat.reduceLeDiff, M_ob, M_g0, M_g1, M_g2, M_g3, M_g4, M_g5, M_g6, M_g7, M_g8, M_g9, M_g10, M_g11, M_g12, M_g13, M_g14, M_g15, M_g16, M_g17, M_g18, M_g19, M_g20, M_g21, M_g22, M_g23, M_g24, M_g25, M_g26, M_g27, M_g28, M_g29, M_g30, M_g31, M_g32, M_g33, M_g34, M_g35, M_g36, M_g37, M_g38, M_g39, M_g40, M_g41, kI_xI, kI_xB, kI_xA, kI_xV, kB_xI, kB_xB, kB_xA, kB_xV, kA_xI, kA_xB, kA_xA, kA_xV, kV_xI, kV_xB, kV_xA, kV_xV, Nat.reduceEqDiff, reduceIte, M_s0, in3, hx, q1, Option.isSome, iBt, nI10, reduceIte]
          refine r_readsM (d := d + 2) (t := zT z) h4 hg.2.2.1 hm0.1 (fun e m1 f1 T1 l1 L1 r1 => ?_) fun e m1 f1 T1 o1 => ?_
          · simp only [e, if_true] at K
            simp (disch := omega) only [u_172_58, gI0, gIs, gR0, gRs, gF0, gFs, st0, st_i, st_r, st_f, st_n, st_s, true_and, and_true, ↓ifLeT, ↓ifLeF, ↓ifLtT, ↓ifLtF, ↓ifEqT, ↓ifEqF, if_tt, if_ff, if_pos, if_neg, nLe, nLt, nEq, nInT, nCl, pk_mul, nI_add, Nat.reduceAdd, s_cat_nil, s_cat_i, s_cat_r, s_cat_f, s_cat_l, tl_s, tl_n, cat_i, cat_r, cat_f, nb0, nb1, nbI, if_bI, if_bIr, Nat.zero_le, Nat.reduceLeDiff]
            exact K m1 (RM_T (z := z) (RM_fr (frV_Z f1) hm0) T1)
          · simp only [e, Bool.false_eq_true, if_false] at K
            simp (disch := omega) only [u_172_58, gI0, gIs, gR0, gRs, gF0, gFs, st0, st_i, st_r, st_f, st_n, st_s, true_and, and_true, ↓ifLeT, ↓ifLeF, ↓ifLtT, ↓ifLtF, ↓ifEqT, ↓ifEqF, if_tt, if_ff, if_pos, if_neg, nLe, nLt, nEq, nInT, nCl, pk_mul, nI_add, Nat.reduceAdd, s_cat_nil, s_cat_i, s_cat_r, s_cat_f, s_cat_l, tl_s, tl_n, cat_i, cat_r, cat_f, nb0, nb1, nbI, if_bI, if_bIr, Nat.zero_le, Nat.reduceLeDiff]
            exact K m1 (RM_T (z := z) (RM_fr (frV_Z f1) hm0) T1)
end MQW
