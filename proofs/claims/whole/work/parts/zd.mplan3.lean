/-! the reference's plan and tried -/
section MPQ
variable {d : Nat} {m : tM} {h : sH} {Q : sQ} {n : tN} {z : tQ}
theorem z_plan (hm : RM m z) (K : ∀ m', RM m' (zplan z).2 → Q (some (.int (zplan z).1)) (pM m' h)) : MT (d + 12) 195 [.ref 317] (pM m h) Q := by
  rw [MT_go (by decide) _ _ _ (Nat.le_of_ble_eq_true rfl), show s_entry 195 [.ref 317] = [.ref 317] from rfl]
  have hm0 := RM_0 (x := nI 0) hm
  have q1 := hm.2.1.1
  unfold zplan at K
  cases hq : zQ z with
  | none =>
    simp only [hq] at K
    rw [hq] at q1
    simp (disch := omega) only [u_195_0, u_195_1, u_195_2, u_195_5, u_195_6, u_195_9, u_195_12, u_195_13, u_195_14, u_195_17, u_195_18, u_195_21, u_195_22, u_195_23, u_195_26, u_195_27, u_195_30, u_195_31, u_195_32, u_195_35, u_195_36, u_195_39, u_195_40, u_195_41, u_195_42, u_195_45, u_195_46, u_195_49, u_195_50, u_195_51, u_195_54, u_195_55, u_195_58, u_195_61, u_195_62, u_195_63, u_195_66, u_195_69, u_195_72, gI0, gIs, gR0, gRs, gF0, gFs, st0, st_i, st_r, st_f, st_n, st_s, true_and, and_true, ↓ifLeT, ↓ifLeF, ↓ifLtT, ↓ifLtF, ↓ifEqT, ↓ifEqF, if_tt, if_ff, if_pos, if_neg, nLe, nLt, nEq, nInT, nCl, pk_mul, nI_add, Nat.reduceAdd, s_cat_nil, s_cat_i, s_cat_r, s_cat_f, s_cat_l, tl_s, tl_n, cat_i, cat_r, cat_f, nb0, nb1, nbI, if_bI, if_bIr, Nat.zero_le, Nat.reduceLeDiff, M_ob, M_g0, M_g1, M_g2, M_g3, M_g4, M_g5, M_g6, M_g7, M_g8, M_g9, M_g10, M_g11, M_g12, M_g13, M_g14, M_g15, M_g16, M_g17, M_g18, M_g19, M_g20, M_g21, M_g22, M_g23, M_g24, M_g25, M_g26, M_g27, M_g28, M_g29, M_g30, M_g31, M_g32, M_g33, M_g34, M_g35, M_g36, M_g37, M_g38, M_g39, M_g40, M_g41, M_s0, kI_xI, kI_xB, kI_xA, kI_xV, kB_xI, kB_xB, kB_xA, kB_xV, kA_xI, kA_xB, kA_xA, kA_xV, kV_xI, kV_xB, kV_xA, kV_xV, Nat.reduceEqDiff, reduceIte, q1, Option.isSome, iBf]
    refine z_ref (k := 0) hm0 (by decide) fun m' hm' => ?_
    simp (disch := omega) only [u_195_0, u_195_1, u_195_2, u_195_5, u_195_6, u_195_9, u_195_12, u_195_13, u_195_14, u_195_17, u_195_18, u_195_21, u_195_22, u_195_23, u_195_26, u_195_27, u_195_30, u_195_31, u_195_32, u_195_35, u_195_36, u_195_39, u_195_40, u_195_41, u_195_42, u_195_45, u_195_46, u_195_49, u_195_50, u_195_51, u_195_54, u_195_55, u_195_58, u_195_61, u_195_62, u_195_63, u_195_66, u_195_69, u_195_72, gI0, gIs, gR0, gRs, gF0, gFs, st0, st_i, st_r, st_f, st_n, st_s, true_and, and_true, ↓ifLeT, ↓ifLeF, ↓ifLtT, ↓ifLtF, ↓ifEqT, ↓ifEqF, if_tt, if_ff, if_pos, if_neg, nLe, nLt, nEq, nInT, nCl, pk_mul, nI_add, Nat.reduceAdd, s_cat_nil, s_cat_i, s_cat_r, s_cat_f, s_cat_l, tl_s, tl_n, cat_i, cat_r, cat_f, nb0, nb1, nbI, if_bI, if_bIr, Nat.zero_le, Nat.reduceLeDiff]
    exact K m' hm'
  | some n =>
    simp only [hq] at K
    rw [hq] at q1
    obtain ⟨hg, hr, hok⟩ := RM_q hm0 hq
    have h4 := hok.1.1.1
    simp (disch := omega) only [u_195_0, u_195_1, u_195_2, u_195_5, u_195_6, u_195_9, u_195_12, u_195_13, u_195_14, u_195_17, u_195_18, u_195_21, u_195_22, u_195_23, gI0, gIs, gR0, gRs, gF0, gFs, st0, st_i, st_r, st_f, st_n, st_s, true_and, and_true, ↓ifLeT, ↓ifLeF, ↓ifLtT, ↓ifLtF, ↓ifEqT, ↓ifEqF, if_tt, if_ff, if_pos, if_neg, nLe, nLt, nEq, nInT, nCl, pk_mul, nI_add, Nat.reduceAdd, s_cat_nil, s_cat_i, s_cat_r, s_cat_f, s_cat_l, tl_s, tl_n, cat_i, cat_r, cat_f, nb0, nb1, nbI, if_bI, if_bIr, Nat.zero_le, Nat.reduceLeDiff, M_ob, M_g0, M_g1, M_g2, M_g3, M_g4, M_g5, M_g6, M_g7, M_g8, M_g9, M_g10, M_g11, M_g12, M_g13, M_g14, M_g15, M_g16, M_g17, M_g18, M_g19, M_g20, M_g21, M_g22, M_g23, M_g24, M_g25, M_g26, M_g27, M_g28, M_g29, M_g30, M_g31, M_g32, M_g33, M_g34, M_g35, M_g36, M_g37, M_g38, M_g39, M_g40, M_g41, M_s0, kI_xI, kI_xB, kI_xA, kI_xV, kB_xI, kB_xB, kB_xA, kB_xV, kA_xI, kA_xB, kA_xA, kA_xV, kV_xI, kV_xB, kV_xA, kV_xV, Nat.reduceEqDiff, reduceIte, q1, Option.isSome, iBt, nI10, reduceIte]
    refine r_readsP (d := d + 7) (t := zT z) (p := zP z) hok.1 hg hr hm0.1 (fun e m1 l1 f1 T1 fl1 el wl => ?_) fun e m1 f1 T1 o1 => ?_
    · simp only [e, if_true, el] at K
      have hm1 : RM m1 z := RM_fr (frL_Z f1) hm0
      have hm2 : RM (xI m1 2 (nI 0)) (jP (jT z (vN (rdPN (zT z) (zP z) n).2.1 1 0)) (rdPN (zT z) (zP z) n).2.2) := RM_cut (z := z) (t := (rdPN (zT z) (zP z) n).2.1) hm1
      have hq2 : zQ (jP (jT z (vN (rdPN (zT z) (zP z) n).2.1 1 0)) (rdPN (zT z) (zP z) n).2.2) = some n := hq
      obtain ⟨hg2, hr2, -⟩ := RM_q hm2 hq2
      simp (disch := omega) only [u_195_26, u_195_27, u_195_30, u_195_31, u_195_32, u_195_35, u_195_36, u_195_39, u_195_40, u_195_41, u_195_42, u_195_45, u_195_46, gI0, gIs, gR0, gRs, gF0, gFs, st0, st_i, st_r, st_f, st_n, st_s, true_and, and_true, ↓ifLeT, ↓ifLeF, ↓ifLtT, ↓ifLtF, ↓ifEqT, ↓ifEqF, if_tt, if_ff, if_pos, if_neg, nLe, nLt, nEq, nInT, nCl, pk_mul, nI_add, Nat.reduceAdd, s_cat_nil, s_cat_i, s_cat_r, s_cat_f, s_cat_l, tl_s, tl_n, cat_i, cat_r, cat_f, nb0, nb1, nbI, if_bI, if_bIr, Nat.zero_le, Nat.reduceLeDiff, M_ob, M_s2, reduceIte]
      refine r_keeps (d := d + 10) hm2 hq2 fun m3 kp => ?_
      have hr3 : RR (kA m3 320) n := by rw [kp.2.2.2.1 320 (by decide)]; exact hr2
      have fl3 : FL (kA m3 323) (nF n 2) l1 := by rw [kp.2.2.2.1 323 (by decide)]; exact fl1
      have hnl : wfN (jL n l1) := ⟨hok.1.1, hok.1.2.1, hok.1.2.2.1, wl⟩
      have hok' : okQ (jL n l1) := ⟨hnl, hok.2⟩
      simp (disch := omega) only [u_195_49, u_195_50, u_195_51, u_195_54, u_195_55, u_195_58, u_195_61, u_195_62, u_195_63, u_195_66, u_195_69, gI0, gIs, gR0, gRs, gF0, gFs, st0, st_i, st_r, st_f, st_n, st_s, true_and, and_true, ↓ifLeT, ↓ifLeF, ↓ifLtT, ↓ifLtF, ↓ifEqT, ↓ifEqF, if_tt, if_ff, if_pos, if_neg, nLe, nLt, nEq, nInT, nCl, pk_mul, nI_add, Nat.reduceAdd, s_cat_nil, s_cat_i, s_cat_r, s_cat_f, s_cat_l, tl_s, tl_n, cat_i, cat_r, cat_f, nb0, nb1, nbI, if_bI, if_bIr, Nat.zero_le, Nat.reduceLeDiff, M_ob, M_g0, M_g1, M_g2, M_g3, M_g4, M_g5, M_g6, M_g7, M_g8, M_g9, M_g10, M_g11, M_g12, M_g13, M_g14, M_g15, M_g16, M_g17, M_g18, M_g19, M_g20, M_g21, M_g22, M_g23, M_g24, M_g25, M_g26, M_g27, M_g28, M_g29, M_g30, M_g31, M_g32, M_g33, M_g34, M_g35, M_g36, M_g37, M_g38, M_g39, M_g40, M_g41]
      refine r_takesL (d := d + 9) (l := l1) (Or.inr rfl) rb320 h4 hr3 fl3 (fun c => wfL_len (n := jL n l1) hnl.1 wl c) fun f hf2 => ?_
      have rm := RM_act (m2 := xA m3 320 f) hm2 hq2 kp (fun _ _ => rfl) rfl (fun q _ hn => kA_ne hn) (by rw [kA_eq]; exact hf2) hok' ⟨rfl, rfl, rfl, fun _ _ => rfl⟩
      obtain ⟨hg3, hr3, -⟩ := RM_q rm rfl
      simp (disch := omega) only [u_195_61, u_195_62, u_195_63, u_195_66, u_195_69, gI0, gIs, gR0, gRs, gF0, gFs, st0, st_i, st_r, st_f, st_n, st_s, true_and, and_true, ↓ifLeT, ↓ifLeF, ↓ifLtT, ↓ifLtF, ↓ifEqT, ↓ifEqF, if_tt, if_ff, if_pos, if_neg, nLe, nLt, nEq, nInT, nCl, pk_mul, nI_add, Nat.reduceAdd, s_cat_nil, s_cat_i, s_cat_r, s_cat_f, s_cat_l, tl_s, tl_n, cat_i, cat_r, cat_f, nb0, nb1, nbI, if_bI, if_bIr, Nat.zero_le, Nat.reduceLeDiff, M_ob, M_g0, M_g1, M_g2, M_g3, M_g4, M_g5, M_g6, M_g7, M_g8, M_g9, M_g10, M_g11, M_g12, M_g13, M_g14, M_g15, M_g16, M_g17, M_g18, M_g19, M_g20, M_g21, M_g22, M_g23, M_g24, M_g25, M_g26, M_g27, M_g28, M_g29, M_g30, M_g31, M_g32, M_g33, M_g34, M_g35, M_g36, M_g37, M_g38, M_g39, M_g40, M_g41]
      refine r_lastV (d := d) rb320 (by decide) hnl hg3 hr3 fun m4 f4 => ?_
      simp (disch := omega) only [u_195_69, u_195_72, gI0, gIs, gR0, gRs, gF0, gFs, st0, st_i, st_r, st_f, st_n, st_s, true_and, and_true, ↓ifLeT, ↓ifLeF, ↓ifLtT, ↓ifLtF, ↓ifEqT, ↓ifEqF, if_tt, if_ff, if_pos, if_neg, nLe, nLt, nEq, nInT, nCl, pk_mul, nI_add, Nat.reduceAdd, s_cat_nil, s_cat_i, s_cat_r, s_cat_f, s_cat_l, tl_s, tl_n, cat_i, cat_r, cat_f, nb0, nb1, nbI, if_bI, if_bIr, Nat.zero_le, Nat.reduceLeDiff, m_toldV]
      exact K m4 (RM_fr (frZ_M (Or.inl rfl) f4) rm)
    · simp only [e, Bool.false_eq_true, if_false] at K
      have o : ¬ nI (eN (rdPN (zT z) (zP z) n).2.1 2) = -1 := m1_ne (by omega)
      have hm1 : RM m1 (jP (jT z (rdPN (zT z) (zP z) n).2.1) (rdPN (zT z) (zP z) n).2.2) := RM_T (z := z) (RM_fr (frL_Z f1) hm0) T1
      simp (disch := omega) only [u_195_26, u_195_27, u_195_30, u_195_31, u_195_32, gI0, gIs, gR0, gRs, gF0, gFs, st0, st_i, st_r, st_f, st_n, st_s, true_and, and_true, ↓ifLeT, ↓ifLeF, ↓ifLtT, ↓ifLtF, ↓ifEqT, ↓ifEqF, if_tt, if_ff, if_pos, if_neg, nLe, nLt, nEq, nInT, nCl, pk_mul, nI_add, Nat.reduceAdd, s_cat_nil, s_cat_i, s_cat_r, s_cat_f, s_cat_l, tl_s, tl_n, cat_i, cat_r, cat_f, nb0, nb1, nbI, if_bI, if_bIr, Nat.zero_le, Nat.reduceLeDiff, M_ob, o, reduceIte]
      refine z_ref (k := 1) hm1 (by decide) fun m' hm' => ?_
      simp (disch := omega) only [u_195_35, u_195_36, u_195_39, gI0, gIs, gR0, gRs, gF0, gFs, st0, st_i, st_r, st_f, st_n, st_s, true_and, and_true, ↓ifLeT, ↓ifLeF, ↓ifLtT, ↓ifLtF, ↓ifEqT, ↓ifEqF, if_tt, if_ff, if_pos, if_neg, nLe, nLt, nEq, nInT, nCl, pk_mul, nI_add, Nat.reduceAdd, s_cat_nil, s_cat_i, s_cat_r, s_cat_f, s_cat_l, tl_s, tl_n, cat_i, cat_r, cat_f, nb0, nb1, nbI, if_bI, if_bIr, Nat.zero_le, Nat.reduceLeDiff]
      exact K m' hm'
theorem z_tried (hm : RM m z) (K : ∀ m', RM m' (ztried z).2 → Q (some (.int (ztried z).1)) (pM m' h)) : MT (d + 12) 215 [.ref 317] (pM m h) Q := by
  rw [MT_go (by decide) _ _ _ (Nat.le_of_ble_eq_true rfl), show s_entry 215 [.ref 317] = [.ref 317] from rfl]
  have hm0 := RM_0 (x := nI 0) hm
  have q1 := hm.2.1.1
  unfold ztried at K
  cases hq : zQ z with
  | none =>
    simp only [hq] at K
    rw [hq] at q1
    simp (disch := omega) only [u_215_0, u_215_1, u_215_2, u_215_5, u_215_6, u_215_9, u_215_12, u_215_13, u_215_16, u_215_17, u_215_20, u_215_23, u_215_24, u_215_25, u_215_26, u_215_29, u_215_30, u_215_33, u_215_34, u_215_37, u_215_40, u_215_41, u_215_42, u_215_45, u_215_46, u_215_49, u_215_52, u_215_53, u_215_54, u_215_57, u_215_60, u_215_63, gI0, gIs, gR0, gRs, gF0, gFs, st0, st_i, st_r, st_f, st_n, st_s, true_and, and_true, ↓ifLeT, ↓ifLeF, ↓ifLtT, ↓ifLtF, ↓ifEqT, ↓ifEqF, if_tt, if_ff, if_pos, if_neg, nLe, nLt, nEq, nInT, nCl, pk_mul, nI_add, Nat.reduceAdd, s_cat_nil, s_cat_i, s_cat_r, s_cat_f, s_cat_l, tl_s, tl_n, cat_i, cat_r, cat_f, nb0, nb1, nbI, if_bI, if_bIr, Nat.zero_le, Nat.reduceLeDiff, M_ob, M_g0, M_g1, M_g2, M_g3, M_g4, M_g5, M_g6, M_g7, M_g8, M_g9, M_g10, M_g11, M_g12, M_g13, M_g14, M_g15, M_g16, M_g17, M_g18, M_g19, M_g20, M_g21, M_g22, M_g23, M_g24, M_g25, M_g26, M_g27, M_g28, M_g29, M_g30, M_g31, M_g32, M_g33, M_g34, M_g35, M_g36, M_g37, M_g38, M_g39, M_g40, M_g41, M_s0, kI_xI, kI_xB, kI_xA, kI_xV, kB_xI, kB_xB, kB_xA, kB_xV, kA_xI, kA_xB, kA_xA, kA_xV, kV_xI, kV_xB, kV_xA, kV_xV, Nat.reduceEqDiff, reduceIte, q1, Option.isSome, iBf]
    exact K _ hm0
  | some n =>
    simp only [hq] at K
    rw [hq] at q1
    obtain ⟨hg, hr, hok⟩ := RM_q hm0 hq
    have h4 := hok.1.1.1
    simp (disch := omega) only [u_215_0, u_215_1, u_215_2, u_215_5, u_215_6, u_215_9, u_215_12, u_215_13, gI0, gIs, gR0, gRs, gF0, gFs, st0, st_i, st_r, st_f, st_n, st_s, true_and, and_true, ↓ifLeT, ↓ifLeF, ↓ifLtT, ↓ifLtF, ↓ifEqT, ↓ifEqF, if_tt, if_ff, if_pos, if_neg, nLe, nLt, nEq, nInT, nCl, pk_mul, nI_add, Nat.reduceAdd, s_cat_nil, s_cat_i, s_cat_r, s_cat_f, s_cat_l, tl_s, tl_n, cat_i, cat_r, cat_f, nb0, nb1, nbI, if_bI, if_bIr, Nat.zero_le, Nat.reduceLeDiff, M_ob, M_g0, M_g1, M_g2, M_g3, M_g4, M_g5, M_g6, M_g7, M_g8, M_g9, M_g10, M_g11, M_g12, M_g13, M_g14, M_g15, M_g16, M_g17, M_g18, M_g19, M_g20, M_g21, M_g22, M_g23, M_g24, M_g25, M_g26, M_g27, M_g28, M_g29, M_g30, M_g31, M_g32, M_g33, M_g34, M_g35, M_g36, M_g37, M_g38, M_g39, M_g40, M_g41, M_s0, kI_xI, kI_xB, kI_xA, kI_xV, kB_xI, kB_xB, kB_xA, kB_xV, kA_xI, kA_xB, kA_xA, kA_xV, kV_xI, kV_xB, kV_xA, kV_xV, Nat.reduceEqDiff, reduceIte, q1, Option.isSome, iBt, nI10, reduceIte]
    refine r_readsP (d := d + 7) (t := zT z) (p := zP z) hok.1 hg hr hm0.1 (fun e m1 l1 f1 T1 fl1 el wl => ?_) fun e m1 f1 T1 o1 => ?_
    · simp only [e, if_true, el] at K
      have hm1 : RM m1 z := RM_fr (frL_Z f1) hm0
      have hm2 : RM (xI m1 2 (nI 0)) (jP (jT z (vN (rdPN (zT z) (zP z) n).2.1 1 0)) (rdPN (zT z) (zP z) n).2.2) := RM_cut (z := z) (t := (rdPN (zT z) (zP z) n).2.1) hm1
      have hq2 : zQ (jP (jT z (vN (rdPN (zT z) (zP z) n).2.1 1 0)) (rdPN (zT z) (zP z) n).2.2) = some n := hq
      obtain ⟨hg2, hr2, -⟩ := RM_q hm2 hq2
      have hnl : wfN (jL n l1) := ⟨hok.1.1, hok.1.2.1, hok.1.2.2.1, wl⟩
      simp (disch := omega) only [u_215_16, u_215_17, u_215_20, u_215_23, u_215_24, u_215_25, u_215_26, u_215_29, u_215_30, u_215_33, u_215_34, u_215_37, u_215_40, u_215_41, u_215_42, u_215_45, u_215_46, u_215_49, u_215_52, u_215_53, u_215_54, u_215_57, u_215_60, u_215_63, gI0, gIs, gR0, gRs, gF0, gFs, st0, st_i, st_r, st_f, st_n, st_s, true_and, and_true, ↓ifLeT, ↓ifLeF, ↓ifLtT, ↓ifLtF, ↓ifEqT, ↓ifEqF, if_tt, if_ff, if_pos, if_neg, nLe, nLt, nEq, nInT, nCl, pk_mul, nI_add, Nat.reduceAdd, s_cat_nil, s_cat_i, s_cat_r, s_cat_f, s_cat_l, tl_s, tl_n, cat_i, cat_r, cat_f, nb0, nb1, nbI, if_bI, if_bIr, Nat.zero_le, Nat.reduceLeDiff, M_ob, M_g0, M_g1, M_g2, M_g3, M_g4, M_g5, M_g6, M_g7, M_g8, M_g9, M_g10, M_g11, M_g12, M_g13, M_g14, M_g15, M_g16, M_g17, M_g18, M_g19, M_g20, M_g21, M_g22, M_g23, M_g24, M_g25, M_g26, M_g27, M_g28, M_g29, M_g30, M_g31, M_g32, M_g33, M_g34, M_g35, M_g36, M_g37, M_g38, M_g39, M_g40, M_g41, M_s2, reduceIte]
      refine r_copy rb320 rb330 (by decide) fun f hf => ?_
      simp (disch := omega) only [u_215_40, u_215_41, u_215_42, u_215_45, u_215_46, u_215_49, u_215_52, u_215_53, u_215_54, u_215_57, u_215_60, u_215_63, gI0, gIs, gR0, gRs, gF0, gFs, st0, st_i, st_r, st_f, st_n, st_s, true_and, and_true, ↓ifLeT, ↓ifLeF, ↓ifLtT, ↓ifLtF, ↓ifEqT, ↓ifEqF, if_tt, if_ff, if_pos, if_neg, nLe, nLt, nEq, nInT, nCl, pk_mul, nI_add, Nat.reduceAdd, s_cat_nil, s_cat_i, s_cat_r, s_cat_f, s_cat_l, tl_s, tl_n, cat_i, cat_r, cat_f, nb0, nb1, nbI, if_bI, if_bIr, Nat.zero_le, Nat.reduceLeDiff, M_ob, M_g0, M_g1, M_g2, M_g3, M_g4, M_g5, M_g6, M_g7, M_g8, M_g9, M_g10, M_g11, M_g12, M_g13, M_g14, M_g15, M_g16, M_g17, M_g18, M_g19, M_g20, M_g21, M_g22, M_g23, M_g24, M_g25, M_g26, M_g27, M_g28, M_g29, M_g30, M_g31, M_g32, M_g33, M_g34, M_g35, M_g36, M_g37, M_g38, M_g39, M_g40, M_g41]
      refine r_takesL (d := d + 9) (l := l1) (Or.inr rfl) rb330 h4 (by rw [kA_eq]; exact RR_cong hok.1 hf hr2) (by rw [kA_ne (by decide)]; exact fl1) (fun c => wfL_len (n := jL n l1) hnl.1 wl c) fun f3 hf3 => ?_
      simp (disch := omega) only [xA_tw, u_215_52, u_215_53, u_215_54, u_215_57, u_215_60, u_215_63, gI0, gIs, gR0, gRs, gF0, gFs, st0, st_i, st_r, st_f, st_n, st_s, true_and, and_true, ↓ifLeT, ↓ifLeF, ↓ifLtT, ↓ifLtF, ↓ifEqT, ↓ifEqF, if_tt, if_ff, if_pos, if_neg, nLe, nLt, nEq, nInT, nCl, pk_mul, nI_add, Nat.reduceAdd, s_cat_nil, s_cat_i, s_cat_r, s_cat_f, s_cat_l, tl_s, tl_n, cat_i, cat_r, cat_f, nb0, nb1, nbI, if_bI, if_bIr, Nat.zero_le, Nat.reduceLeDiff, M_ob, M_g0, M_g1, M_g2, M_g3, M_g4, M_g5, M_g6, M_g7, M_g8, M_g9, M_g10, M_g11, M_g12, M_g13, M_g14, M_g15, M_g16, M_g17, M_g18, M_g19, M_g20, M_g21, M_g22, M_g23, M_g24, M_g25, M_g26, M_g27, M_g28, M_g29, M_g30, M_g31, M_g32, M_g33, M_g34, M_g35, M_g36, M_g37, M_g38, M_g39, M_g40, M_g41]
      have rm : RM (xA (xI m1 2 (nI 0)) 330 f3) (jP (jT z (vN (rdPN (zT z) (zP z) n).2.1 1 0)) (rdPN (zT z) (zP z) n).2.2) := RM_fr (frZ_A (by decide)) hm2
      have hg3 : MG (xA (xI m1 2 (nI 0)) 330 f3) (jL n l1) := (RM_q rm hq2).1
      refine r_lastV (d := d) (n := jL n l1) rb330 (by decide) hnl hg3 (by rw [kA_eq]; exact hf3) fun m4 f4 => ?_
      simp (disch := omega) only [u_215_60, u_215_63, gI0, gIs, gR0, gRs, gF0, gFs, st0, st_i, st_r, st_f, st_n, st_s, true_and, and_true, ↓ifLeT, ↓ifLeF, ↓ifLtT, ↓ifLtF, ↓ifEqT, ↓ifEqF, if_tt, if_ff, if_pos, if_neg, nLe, nLt, nEq, nInT, nCl, pk_mul, nI_add, Nat.reduceAdd, s_cat_nil, s_cat_i, s_cat_r, s_cat_f, s_cat_l, tl_s, tl_n, cat_i, cat_r, cat_f, nb0, nb1, nbI, if_bI, if_bIr, Nat.zero_le, Nat.reduceLeDiff, m_toldV]
      exact K m4 (RM_fr (frZ_M (Or.inl rfl) f4) rm)
    · simp only [e, Bool.false_eq_true, if_false] at K
      have o : ¬ nI (eN (rdPN (zT z) (zP z) n).2.1 2) = -1 := m1_ne (by omega)
      have hm1 : RM m1 (jP (jT z (rdPN (zT z) (zP z) n).2.1) (rdPN (zT z) (zP z) n).2.2) := RM_T (z := z) (RM_fr (frL_Z f1) hm0) T1
      simp (disch := omega) only [u_215_16, u_215_17, u_215_20, u_215_23, gI0, gIs, gR0, gRs, gF0, gFs, st0, st_i, st_r, st_f, st_n, st_s, true_and, and_true, ↓ifLeT, ↓ifLeF, ↓ifLtT, ↓ifLtF, ↓ifEqT, ↓ifEqF, if_tt, if_ff, if_pos, if_neg, nLe, nLt, nEq, nInT, nCl, pk_mul, nI_add, Nat.reduceAdd, s_cat_nil, s_cat_i, s_cat_r, s_cat_f, s_cat_l, tl_s, tl_n, cat_i, cat_r, cat_f, nb0, nb1, nbI, if_bI, if_bIr, Nat.zero_le, Nat.reduceLeDiff, o, reduceIte]
      exact K m1 hm1
end MPQ
