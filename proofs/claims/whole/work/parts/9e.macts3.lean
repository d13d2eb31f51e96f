/-! the reference's more and undo -/
section MK3
variable {b d : Nat} {m : tM} {h : sH} {i x y w c t : Int32} {Q : sQ} {n n' : tN} {z : tQ} {k : sK}
theorem in30 : MT (d + 1) 142 [.long x.toInt64, .long 1, .long 30] h Q ↔ Q (some (.int (iB (ixN (x - nI 1) 30).isSome))) h := in_1 (by decide) (by decide) (by decide)
theorem in99 : MT (d + 1) 142 [.long x.toInt64, .long 1, .long 99] h Q ↔ Q (some (.int (iB (ixN (x - nI 1) 99).isSome))) h := in_1 (by decide) (by decide) (by decide)
/-- the row is made longer: from pc 96 on -/
theorem more_t {bb tk v : Nat} {af : Int32} {a : Option Nat} (hm0 : RM m z) (hq : zQ z = some n) (hT : nF n 3 < 8) (hb : bb < nF n 0) (h1 : 1 ≤ tk) (h30 : tk ≤ 30) (hv : 1 ≤ v) (hv2 : v ≤ 99) (ha : ∀ u, a = some u → u < nF n 3) (haf : (af = -1 ∧ a = none) ∨ ∃ u, a = some u ∧ af = nI u) (K : ∀ m', RM m' (actZ z n (moreN n bb tk v a)) → Q (some (.int (nI (nF n 3)))) (pM m' h)) : WP (d + 2) 201 96 [.ref 317, .int (nI bb), .int (nI tk), .int (nI v), .int af, s_no] [] (pM m h) (0, 0) Q := by
  obtain ⟨hg, hr, hok⟩ := RM_q hm0 hq
  have c1 : (nI 1).toNatClampNeg = 1 := rfl
  simp (disch := omega) only [u_201_96, u_201_97, gI0, gIs, gR0, gRs, gF0, gFs, st0, st_i, st_r, st_f, st_n, st_s, true_and, and_true, ↓ifLeT, ↓ifLeF, ↓ifLtT, ↓ifLtF, ↓ifEqT, ↓ifEqF, if_tt, if_ff, if_pos, if_neg, nLe, nLt, nEq, nInT, nCl, pk_mul, nI_add, Nat.reduceAdd, s_cat_nil, s_cat_i, s_cat_r, s_cat_f, s_cat_l, tl_s, tl_n, cat_i, cat_r, cat_f, nb0, nb1, nbI, if_bI, if_bIr, Nat.zero_le, Nat.reduceLeDiff, M_ob]
  refine r_keeps (d := d + 1) hm0 hq fun m1 kp => ?_
  have hr1 : RR (kA m1 320) n := by rw [kp.2.2.2.1 320 (by decide)]; exact hr
  have r1 : kA m1 320 1 = nI (nF n 3) := hr1.2.1
  have hok' := ok_more (a := a) hok hT hb h1 h30 hv hv2 ha
  have fin : ∀ x : Int32, x = nI (bitsN (fun u => decide (a = some u)) 8) → RM (xA m1 320 (upd (upd (upd (upd (upd (upd (upd (upd (kA m1 320) (50 + 7 * nF n 3 + 0) (nI bb)) (50 + 7 * nF n 3 + 1) (nI tk)) (50 + 7 * nF n 3 + 2) (nI v)) (50 + 7 * nF n 3 + 3) x) (50 + 7 * nF n 3 + 4) (nI 0)) (50 + 7 * nF n 3 + 5) (-1)) (50 + 7 * nF n 3 + 6) (-1)) 1 (nI (nF n 3 + 1)))) (actZ z n (moreN n bb tk v a)) := fun x hx => by
    have rr := RR_more (b := bb) (t := tk) (v := v) (a := a) (x := x) hok.1.1.1 (fun c => wfL_len hok.1.1 hok.1.2.2.2 c) hr1 hx
    exact RM_act hm0 hq kp (fun _ _ => rfl) rfl (fun q _ hn => kA_ne hn) (by rw [kA_eq]; exact rr) hok' ⟨rfl, rfl, rfl, fun _ _ => rfl⟩
  simp (disch := omega) only [u_201_100, u_201_101, u_201_104, u_201_105, u_201_106, u_201_108, u_201_109, u_201_112, u_201_114, u_201_115, u_201_118, u_201_119, u_201_120, u_201_121, u_201_124, u_201_126, u_201_127, u_201_130, u_201_131, u_201_132, u_201_133, u_201_136, u_201_138, u_201_139, u_201_142, u_201_143, u_201_144, u_201_145, u_201_148, u_201_150, u_201_151, gI0, gIs, gR0, gRs, gF0, gFs, st0, st_i, st_r, st_f, st_n, st_s, true_and, and_true, ↓ifLeT, ↓ifLeF, ↓ifLtT, ↓ifLtF, ↓ifEqT, ↓ifEqF, if_tt, if_ff, if_pos, if_neg, nLe, nLt, nEq, nInT, nCl, pk_mul, nI_add, Nat.reduceAdd, s_cat_nil, s_cat_i, s_cat_r, s_cat_f, s_cat_l, tl_s, tl_n, cat_i, cat_r, cat_f, nb0, nb1, nbI, if_bI, if_bIr, Nat.zero_le, Nat.reduceLeDiff, M_g0, M_g1, M_g2, M_g3, M_g4, M_g5, M_g6, M_g7, M_g8, M_g9, M_g10, M_g11, M_g12, M_g13, M_g14, M_g15, M_g16, M_g17, M_g18, M_g19, M_g20, M_g21, M_g22, M_g23, M_g24, M_g25, M_g26, M_g27, M_g28, M_g29, M_g30, M_g31, M_g32, M_g33, M_g34, M_g35, M_g36, M_g37, M_g38, M_g39, M_g40, M_g41, M_r rb320, M_rw rb320, m_tAt, c1, r1, kA_eq, xA_tw]
  rcases haf with ⟨e1, e2⟩ | ⟨u, e1, e2⟩
  · have fin := fin (nI 0) (by rw [e2, no_bit])
    have s : upd (upd (upd (upd (upd (upd (upd (kA m1 320) (50 + 7 * nF n 3 + 0) (nI bb)) (50 + 7 * nF n 3 + 1) (nI tk)) (50 + 7 * nF n 3 + 2) (nI v)) (50 + 7 * nF n 3 + 3) (nI 0)) (50 + 7 * nF n 3 + 4) (nI 0)) (50 + 7 * nF n 3 + 5) (-1)) (50 + 7 * nF n 3 + 6) (-1) 1 = nI (nF n 3) := by
      rw [upd_ne (by omega), upd_ne (by omega), upd_ne (by omega), upd_ne (by omega), upd_ne (by omega), upd_ne (by omega), upd_ne (by omega)]
      exact r1
    simp (disch := omega) only [u_201_154, u_201_156, u_201_157, u_201_160, gI0, gIs, gR0, gRs, gF0, gFs, st0, st_i, st_r, st_f, st_n, st_s, true_and, and_true, ↓ifLeT, ↓ifLeF, ↓ifLtT, ↓ifLtF, ↓ifEqT, ↓ifEqF, if_tt, if_ff, if_pos, if_neg, nLe, nLt, nEq, nInT, nCl, pk_mul, nI_add, Nat.reduceAdd, s_cat_nil, s_cat_i, s_cat_r, s_cat_f, s_cat_l, tl_s, tl_n, cat_i, cat_r, cat_f, nb0, nb1, nbI, if_bI, if_bIr, Nat.zero_le, Nat.reduceLeDiff, e1, reduceIte]
    simp (disch := omega) only [u_201_161, u_201_164, u_201_165, u_201_167, u_201_168, u_201_169, u_201_170, u_201_173, u_201_175, u_201_176, u_201_179, u_201_180, u_201_181, u_201_182, u_201_185, u_201_187, u_201_188, u_201_191, u_201_192, u_201_193, u_201_194, u_201_197, u_201_199, u_201_201, u_201_204, u_201_205, u_201_206, u_201_207, u_201_210, u_201_211, u_201_212, u_201_213, u_201_214, u_201_215, u_201_216, u_201_218, gI0, gIs, gR0, gRs, gF0, gFs, st0, st_i, st_r, st_f, st_n, st_s, true_and, and_true, ↓ifLeT, ↓ifLeF, ↓ifLtT, ↓ifLtF, ↓ifEqT, ↓ifEqF, if_tt, if_ff, if_pos, if_neg, nLe, nLt, nEq, nInT, nCl, pk_mul, nI_add, Nat.reduceAdd, s_cat_nil, s_cat_i, s_cat_r, s_cat_f, s_cat_l, tl_s, tl_n, cat_i, cat_r, cat_f, nb0, nb1, nbI, if_bI, if_bIr, Nat.zero_le, Nat.reduceLeDiff, M_g0, M_g1, M_g2, M_g3, M_g4, M_g5, M_g6, M_g7, M_g8, M_g9, M_g10, M_g11, M_g12, M_g13, M_g14, M_g15, M_g16, M_g17, M_g18, M_g19, M_g20, M_g21, M_g22, M_g23, M_g24, M_g25, M_g26, M_g27, M_g28, M_g29, M_g30, M_g31, M_g32, M_g33, M_g34, M_g35, M_g36, M_g37, M_g38, M_g39, M_g40, M_g41, M_r rb320, M_rw rb320, m_tAt, c1, kA_eq, xA_tw, s]
    exact K _ fin
  · have hu := ha u e1
    have fin := fin (nI (2 ^ u)) (by rw [e1, one_bit (by omega)])
    have s : upd (upd (upd (upd (upd (upd (upd (kA m1 320) (50 + 7 * nF n 3 + 0) (nI bb)) (50 + 7 * nF n 3 + 1) (nI tk)) (50 + 7 * nF n 3 + 2) (nI v)) (50 + 7 * nF n 3 + 3) (nI (2 ^ u))) (50 + 7 * nF n 3 + 4) (nI 0)) (50 + 7 * nF n 3 + 5) (-1)) (50 + 7 * nF n 3 + 6) (-1) 1 = nI (nF n 3) := by
      rw [upd_ne (by omega), upd_ne (by omega), upd_ne (by omega), upd_ne (by omega), upd_ne (by omega), upd_ne (by omega), upd_ne (by omega)]
      exact r1
    have ne := m1_ne (j := u) (by omega)
    have sh := i_shl1 (c := u) (by omega)
    subst e2
    simp (disch := omega) only [u_201_154, u_201_156, u_201_157, u_201_160, u_201_161, u_201_164, u_201_165, u_201_167, gI0, gIs, gR0, gRs, gF0, gFs, st0, st_i, st_r, st_f, st_n, st_s, true_and, and_true, ↓ifLeT, ↓ifLeF, ↓ifLtT, ↓ifLtF, ↓ifEqT, ↓ifEqF, if_tt, if_ff, if_pos, if_neg, nLe, nLt, nEq, nInT, nCl, pk_mul, nI_add, Nat.reduceAdd, s_cat_nil, s_cat_i, s_cat_r, s_cat_f, s_cat_l, tl_s, tl_n, cat_i, cat_r, cat_f, nb0, nb1, nbI, if_bI, if_bIr, Nat.zero_le, Nat.reduceLeDiff, ne, reduceIte, sh]
    simp (disch := omega) only [u_201_168, u_201_169, u_201_170, u_201_173, u_201_175, u_201_176, u_201_179, u_201_180, u_201_181, u_201_182, u_201_185, u_201_187, u_201_188, u_201_191, u_201_192, u_201_193, u_201_194, u_201_197, u_201_199, u_201_201, u_201_204, u_201_205, u_201_206, u_201_207, u_201_210, u_201_211, u_201_212, u_201_213, u_201_214, u_201_215, u_201_216, u_201_218, gI0, gIs, gR0, gRs, gF0, gFs, st0, st_i, st_r, st_f, st_n, st_s, true_and, and_true, ↓ifLeT, ↓ifLeF, ↓ifLtT, ↓ifLtF, ↓ifEqT, ↓ifEqF, if_tt, if_ff, if_pos, if_neg, nLe, nLt, nEq, nInT, nCl, pk_mul, nI_add, Nat.reduceAdd, s_cat_nil, s_cat_i, s_cat_r, s_cat_f, s_cat_l, tl_s, tl_n, cat_i, cat_r, cat_f, nb0, nb1, nbI, if_bI, if_bIr, Nat.zero_le, Nat.reduceLeDiff, M_g0, M_g1, M_g2, M_g3, M_g4, M_g5, M_g6, M_g7, M_g8, M_g9, M_g10, M_g11, M_g12, M_g13, M_g14, M_g15, M_g16, M_g17, M_g18, M_g19, M_g20, M_g21, M_g22, M_g23, M_g24, M_g25, M_g26, M_g27, M_g28, M_g29, M_g30, M_g31, M_g32, M_g33, M_g34, M_g35, M_g36, M_g37, M_g38, M_g39, M_g40, M_g41, M_r rb320, M_rw rb320, m_tAt, c1, kA_eq, xA_tw, s]
    exact K _ fin
theorem z_more {tk hv af : Int32} (hm : RM m z) (K : ∀ m', RM m' (zmore z x tk hv af).2 → Q (some (.int (zmore z x tk hv af).1)) (pM m' h)) : MT (d + 3) 201 [.ref 317, .int x, .int tk, .int hv, .int af] (pM m h) Q := by
  rw [MT_go (by decide) _ _ _ (Nat.le_of_ble_eq_true rfl), show s_entry 201 [.ref 317, .int x, .int tk, .int hv, .int af] = [.ref 317, .int x, .int tk, .int hv, .int af, s_no] from rfl]
  have hm0 := RM_0 (x := nI 0) hm
  have q1 := hm.2.1.1
  have c1 : (nI 1).toNatClampNeg = 1 := rfl
  have e1 := fun Q => z_isT (d := d) (h := h) (Q := Q) (x := af) hm0
  have rf : ∀ k, k < 4 → (∀ m', RM m' (refZ z k) → Q (some (.int (-1))) (pM m' h)) → MT (d + 2) 177 [.ref 317, .int (nI k)] (pM (xI m 0 (nI 0)) h) fun r h' => WP (d + 2) 201 48 [.ref 317, .int x, .int tk, .int hv, .int af, s_no] (r.toList ++ []) h' (0, 0) Q := fun k hk K => z_ref hm0 hk fun m' hm' => by
    simp (disch := omega) only [u_201_48, gI0, gIs, gR0, gRs, gF0, gFs, st0, st_i, st_r, st_f, st_n, st_s, true_and, and_true, ↓ifLeT, ↓ifLeF, ↓ifLtT, ↓ifLtF, ↓ifEqT, ↓ifEqF, if_tt, if_ff, if_pos, if_neg, nLe, nLt, nEq, nInT, nCl, pk_mul, nI_add, Nat.reduceAdd, s_cat_nil, s_cat_i, s_cat_r, s_cat_f, s_cat_l, tl_s, tl_n, cat_i, cat_r, cat_f, nb0, nb1, nbI, if_bI, if_bIr, Nat.zero_le, Nat.reduceLeDiff]
    exact K m' hm'
  unfold zmore at K
  cases hq : zQ z with
  | none =>
    simp only [hq] at K
    rw [hq] at q1
    simp (disch := omega) only [u_201_0, u_201_1, u_201_2, u_201_5, u_201_6, u_201_9, u_201_12, u_201_13, u_201_14, u_201_15, u_201_16, u_201_19, u_201_20, u_201_21, u_201_22, u_201_25, u_201_28, u_201_30, u_201_31, u_201_34, u_201_35, u_201_37, u_201_40, u_201_43, u_201_44, u_201_45, u_201_48, gI0, gIs, gR0, gRs, gF0, gFs, st0, st_i, st_r, st_f, st_n, st_s, true_and, and_true, ↓ifLeT, ↓ifLeF, ↓ifLtT, ↓ifLtF, ↓ifEqT, ↓ifEqF, if_tt, if_ff, if_pos, if_neg, nLe, nLt, nEq, nInT, nCl, pk_mul, nI_add, Nat.reduceAdd, s_cat_nil, s_cat_i, s_cat_r, s_cat_f, s_cat_l, tl_s, tl_n, cat_i, cat_r, cat_f, nb0, nb1, nbI, if_bI, if_bIr, Nat.zero_le, Nat.reduceLeDiff, M_ob, M_g0, M_g1, M_g2, M_g3, M_g4, M_g5, M_g6, M_g7, M_g8, M_g9, M_g10, M_g11, M_g12, M_g13, M_g14, M_g15, M_g16, M_g17, M_g18, M_g19, M_g20, M_g21, M_g22, M_g23, M_g24, M_g25, M_g26, M_g27, M_g28, M_g29, M_g30, M_g31, M_g32, M_g33, M_g34, M_g35, M_g36, M_g37, M_g38, M_g39, M_g40, M_g41, M_s0, kI_xI, kI_xB, kI_xA, kI_xV, kB_xI, kB_xB, kB_xA, kB_xV, kA_xI, kA_xB, kA_xA, kA_xV, kV_xI, kV_xB, kV_xA, kV_xV, Nat.reduceEqDiff, reduceIte, q1, Option.isSome, iBf]
    refine z_ref (k := 0) hm0 (by decide) fun m' hm' => ?_
    simp (disch := omega) only [u_201_0, u_201_1, u_201_2, u_201_5, u_201_6, u_201_9, u_201_12, u_201_13, u_201_14, u_201_15, u_201_16, u_201_19, u_201_20, u_201_21, u_201_22, u_201_25, u_201_28, u_201_30, u_201_31, u_201_34, u_201_35, u_201_37, u_201_40, u_201_43, u_201_44, u_201_45, u_201_48, u_201_49, u_201_50, u_201_51, u_201_52, u_201_55, u_201_58, u_201_61, u_201_62, u_201_63, u_201_64, u_201_67, u_201_70, u_201_73, u_201_74, u_201_75, u_201_78, u_201_79, u_201_80, u_201_83, u_201_84, u_201_85, u_201_87, u_201_90, u_201_91, u_201_92, u_201_95, u_201_96, u_201_97, u_201_100, u_201_101, u_201_104, u_201_105, u_201_106, u_201_108, u_201_109, u_201_112, u_201_114, u_201_115, u_201_118, u_201_119, u_201_120, u_201_121, u_201_124, u_201_126, u_201_127, u_201_130, u_201_131, u_201_132, u_201_133, u_201_136, u_201_138, u_201_139, u_201_142, u_201_143, u_201_144, u_201_145, u_201_148, u_201_150, u_201_151, u_201_154, u_201_156, u_201_157, u_201_160, u_201_161, u_201_164, u_201_165, u_201_167, u_201_168, u_201_169, u_201_170, u_201_173, u_201_175, u_201_176, u_201_179, u_201_180, u_201_181, u_201_182, u_201_185, u_201_187, u_201_188, u_201_191, u_201_192, u_201_193, u_201_194, u_201_197, u_201_199, u_201_201, u_201_204, u_201_205, u_201_206, u_201_207, u_201_210, u_201_211, u_201_212, u_201_213, u_201_214, u_201_215, u_201_216, u_201_218, gI0, gIs, gR0, gRs, gF0, gFs, st0, st_i, st_r, st_f, st_n, st_s, true_and, and_true, ↓ifLeT, ↓ifLeF, ↓ifLtT, ↓ifLtF, ↓ifEqT, ↓ifEqF, if_tt, if_ff, if_pos, if_neg, nLe, nLt, nEq, nInT, nCl, pk_mul, nI_add, Nat.reduceAdd, s_cat_nil, s_cat_i, s_cat_r, s_cat_f, s_cat_l, tl_s, tl_n, cat_i, cat_r, cat_f, nb0, nb1, nbI, if_bI, if_bIr, Nat.zero_le, Nat.reduceLeDiff]
    exact K m' hm'
  | some n =>
    simp only [hq] at K
    rw [hq] at q1
    rw [zN_s hq] at e1
    obtain ⟨hg, hr, hok⟩ := RM_q hm0 hq
    have hb0 := hok.1.1.2.2.2.1
    have hb2 := hok.1.1.2.2.1
    have h8 := hok.1.1.2.1
    have g8 : kI m 8 = nI (nF n 0) := hg.1
    have r1 : kA m 320 1 = nI (nF n 3) := hr.2.1
    have sb : nI (nF n 0) - nI 1 = nI (nF n 0 - 1) := pk_sub (by omega)
    have e0 := fun h Q => m_in0 (d := d + 1) (h := h) (x := x) (Q := Q) (N := nF n 0) (by omega) (by omega)
    cases h0 : ixN x (nF n 0) with
    | none =>
      rw [h0] at e0
      simp only [h0] at K
      simp (disch := omega) only [u_201_0, u_201_1, u_201_2, u_201_5, u_201_6, u_201_9, u_201_12, u_201_13, u_201_14, u_201_15, u_201_16, u_201_19, u_201_20, u_201_21, u_201_22, u_201_25, u_201_28, u_201_30, u_201_31, u_201_34, u_201_35, u_201_37, u_201_40, u_201_43, u_201_44, u_201_45, u_201_48, gI0, gIs, gR0, gRs, gF0, gFs, st0, st_i, st_r, st_f, st_n, st_s, true_and, and_true, ↓ifLeT, ↓ifLeF, ↓ifLtT, ↓ifLtF, ↓ifEqT, ↓ifEqF, if_tt, if_ff, if_pos, if_neg, nLe, nLt, nEq, nInT, nCl, pk_mul, nI_add, Nat.reduceAdd, s_cat_nil, s_cat_i, s_cat_r, s_cat_f, s_cat_l, tl_s, tl_n, cat_i, cat_r, cat_f, nb0, nb1, nbI, if_bI, if_bIr, Nat.zero_le, Nat.reduceLeDiff, M_ob, M_g0, M_g1, M_g2, M_g3, M_g4, M_g5, M_g6, M_g7, M_g8, M_g9, M_g10, M_g11, M_g12, M_g13, M_g14, M_g15, M_g16, M_g17, M_g18, M_g19, M_g20, M_g21, M_g22, M_g23, M_g24, M_g25, M_g26, M_g27, M_g28, M_g29, M_g30, M_g31, M_g32, M_g33, M_g34, M_g35, M_g36, M_g37, M_g38, M_g39, M_g40, M_g41, M_s0, kI_xI, kI_xB, kI_xA, kI_xV, kB_xI, kB_xB, kB_xA, kB_xV, kA_xI, kA_xB, kA_xA, kA_xV, kV_xI, kV_xB, kV_xA, kV_xV, Nat.reduceEqDiff, reduceIte, q1, g8, sb, e0, Option.isSome, iBt, iBf, nI10]
      refine z_ref (k := 0) hm0 (by decide) fun m' hm' => ?_
      simp (disch := omega) only [u_201_0, u_201_1, u_201_2, u_201_5, u_201_6, u_201_9, u_201_12, u_201_13, u_201_14, u_201_15, u_201_16, u_201_19, u_201_20, u_201_21, u_201_22, u_201_25, u_201_28, u_201_30, u_201_31, u_201_34, u_201_35, u_201_37, u_201_40, u_201_43, u_201_44, u_201_45, u_201_48, u_201_49, u_201_50, u_201_51, u_201_52, u_201_55, u_201_58, u_201_61, u_201_62, u_201_63, u_201_64, u_201_67, u_201_70, u_201_73, u_201_74, u_201_75, u_201_78, u_201_79, u_201_80, u_201_83, u_201_84, u_201_85, u_201_87, u_201_90, u_201_91, u_201_92, u_201_95, u_201_96, u_201_97, u_201_100, u_201_101, u_201_104, u_201_105, u_201_106, u_201_108, u_201_109, u_201_112, u_201_114, u_201_115, u_201_118, u_201_119, u_201_120, u_201_121, u_201_124, u_201_126, u_201_127, u_201_130, u_201_131, u_201_132, u_201_133, u_201_136, u_201_138, u_201_139, u_201_142, u_201_143, u_201_144, u_201_145, u_201_148, u_201_150, u_201_151, u_201_154, u_201_156, u_201_157, u_201_160, u_201_161, u_201_164, u_201_165, u_201_167, u_201_168, u_201_169, u_201_170, u_201_173, u_201_175, u_201_176, u_201_179, u_201_180, u_201_181, u_201_182, u_201_185, u_201_187, u_201_188, u_201_191, u_201_192, u_201_193, u_201_194, u_201_197, u_201_199, u_201_201, u_201_204, u_201_205, u_201_206, u_201_207, u_201_210, u_201_211, u_201_212, u_201_213, u_201_214, u_201_215, u_201_216, u_201_218, gI0, gIs, gR0, gRs, gF0, gFs, st0, st_i, st_r, st_f, st_n, st_s, true_and, and_true, ↓ifLeT, ↓ifLeF, ↓ifLtT, ↓ifLtF, ↓ifEqT, ↓ifEqF, if_tt, if_ff, if_pos, if_neg, nLe, nLt, nEq, nInT, nCl, pk_mul, nI_add, Nat.reduceAdd, s_cat_nil, s_cat_i, s_cat_r, s_cat_f, s_cat_l, tl_s, tl_n, cat_i, cat_r, cat_f, nb0, nb1, nbI, if_bI, if_bIr, Nat.zero_le, Nat.reduceLeDiff]
      exact K m' hm'
    | some bb =>
      rw [h0] at e0
      simp only [h0] at K
      obtain ⟨hbb, rfl⟩ := ix_some (by omega) h0
      by_cases ha : ¬ af = -1 ∧ ixN af (nF n 3) = none
      · simp only [if_pos ha] at K
        obtain ⟨ha1, ha2⟩ := ha
        rw [ha2] at e1
        simp (disch := omega) only [u_201_0, u_201_1, u_201_2, u_201_5, u_201_6, u_201_9, u_201_12, u_201_13, u_201_14, u_201_15, u_201_16, u_201_19, u_201_20, u_201_21, u_201_22, u_201_25, u_201_28, u_201_30, u_201_31, u_201_34, u_201_35, u_201_37, u_201_40, u_201_43, u_201_44, u_201_45, u_201_48, gI0, gIs, gR0, gRs, gF0, gFs, st0, st_i, st_r, st_f, st_n, st_s, true_and, and_true, ↓ifLeT, ↓ifLeF, ↓ifLtT, ↓ifLtF, ↓ifEqT, ↓ifEqF, if_tt, if_ff, if_pos, if_neg, nLe, nLt, nEq, nInT, nCl, pk_mul, nI_add, Nat.reduceAdd, s_cat_nil, s_cat_i, s_cat_r, s_cat_f, s_cat_l, tl_s, tl_n, cat_i, cat_r, cat_f, nb0, nb1, nbI, if_bI, if_bIr, Nat.zero_le, Nat.reduceLeDiff, M_ob, M_g0, M_g1, M_g2, M_g3, M_g4, M_g5, M_g6, M_g7, M_g8, M_g9, M_g10, M_g11, M_g12, M_g13, M_g14, M_g15, M_g16, M_g17, M_g18, M_g19, M_g20, M_g21, M_g22, M_g23, M_g24, M_g25, M_g26, M_g27, M_g28, M_g29, M_g30, M_g31, M_g32, M_g33, M_g34, M_g35, M_g36, M_g37, M_g38, M_g39, M_g40, M_g41, M_s0, kI_xI, kI_xB, kI_xA, kI_xV, kB_xI, kB_xB, kB_xA, kB_xV, kA_xI, kA_xB, kA_xA, kA_xV, kV_xI, kV_xB, kV_xA, kV_xV, Nat.reduceEqDiff, reduceIte, q1, g8, sb, e0, e1, ha1, Option.isSome, iBt, iBf, nI10]
        refine z_ref (k := 0) hm0 (by decide) fun m' hm' => ?_
        simp (disch := omega) only [u_201_0, u_201_1, u_201_2, u_201_5, u_201_6, u_201_9, u_201_12, u_201_13, u_201_14, u_201_15, u_201_16, u_201_19, u_201_20, u_201_21, u_201_22, u_201_25, u_201_28, u_201_30, u_201_31, u_201_34, u_201_35, u_201_37, u_201_40, u_201_43, u_201_44, u_201_45, u_201_48, u_201_49, u_201_50, u_201_51, u_201_52, u_201_55, u_201_58, u_201_61, u_201_62, u_201_63, u_201_64, u_201_67, u_201_70, u_201_73, u_201_74, u_201_75, u_201_78, u_201_79, u_201_80, u_201_83, u_201_84, u_201_85, u_201_87, u_201_90, u_201_91, u_201_92, u_201_95, u_201_96, u_201_97, u_201_100, u_201_101, u_201_104, u_201_105, u_201_106, u_201_108, u_201_109, u_201_112, u_201_114, u_201_115, u_201_118, u_201_119, u_201_120, u_201_121, u_201_124, u_201_126, u_201_127, u_201_130, u_201_131, u_201_132, u_201_133, u_201_136, u_201_138, u_201_139, u_201_142, u_201_143, u_201_144, u_201_145, u_201_148, u_201_150, u_201_151, u_201_154, u_201_156, u_201_157, u_201_160, u_201_161, u_201_164, u_201_165, u_201_167, u_201_168, u_201_169, u_201_170, u_201_173, u_201_175, u_201_176, u_201_179, u_201_180, u_201_181, u_201_182, u_201_185, u_201_187, u_201_188, u_201_191, u_201_192, u_201_193, u_201_194, u_201_197, u_201_199, u_201_201, u_201_204, u_201_205, u_201_206, u_201_207, u_201_210, u_201_211, u_201_212, u_201_213, u_201_214, u_201_215, u_201_216, u_201_218, gI0, gIs, gR0, gRs, gF0, gFs, st0, st_i, st_r, st_f, st_n, st_s, true_and, and_true, ↓ifLeT, ↓ifLeF, ↓ifLtT, ↓ifLtF, ↓ifEqT, ↓ifEqF, if_tt, if_ff, if_pos, if_neg, nLe, nLt, nEq, nInT, nCl, pk_mul, nI_add, Nat.reduceAdd, s_cat_nil, s_cat_i, s_cat_r, s_cat_f, s_cat_l, tl_s, tl_n, cat_i, cat_r, cat_f, nb0, nb1, nbI, if_bI, if_bIr, Nat.zero_le, Nat.reduceLeDiff]
        exact K m' hm'
      · simp only [if_neg ha] at K
        have go : (WP (d + 2) 201 49 [.ref 317, .int (nI bb), .int tk, .int hv, .int af, s_no] [] (pM (xI m 0 (nI 0)) h) (0, 0) Q) → WP (d + 2) 201 0 [.ref 317, .int (nI bb), .int tk, .int hv, .int af, s_no] [] (pM m h) (0, 0) Q := fun z => by
          by_cases hf : af = -1
          · simp (disch := omega) only [u_201_0, u_201_1, u_201_2, u_201_5, u_201_6, u_201_9, u_201_12, u_201_13, u_201_14, u_201_15, u_201_16, u_201_19, u_201_20, u_201_21, u_201_22, u_201_25, u_201_28, u_201_30, u_201_31, u_201_34, u_201_35, u_201_37, u_201_40, u_201_43, u_201_44, u_201_45, u_201_48, gI0, gIs, gR0, gRs, gF0, gFs, st0, st_i, st_r, st_f, st_n, st_s, true_and, and_true, ↓ifLeT, ↓ifLeF, ↓ifLtT, ↓ifLtF, ↓ifEqT, ↓ifEqF, if_tt, if_ff, if_pos, if_neg, nLe, nLt, nEq, nInT, nCl, pk_mul, nI_add, Nat.reduceAdd, s_cat_nil, s_cat_i, s_cat_r, s_cat_f, s_cat_l, tl_s, tl_n, cat_i, cat_r, cat_f, nb0, nb1, nbI, if_bI, if_bIr, Nat.zero_le, Nat.reduceLeDiff, M_ob, M_g0, M_g1, M_g2, M_g3, M_g4, M_g5, M_g6, M_g7, M_g8, M_g9, M_g10, M_g11, M_g12, M_g13, M_g14, M_g15, M_g16, M_g17, M_g18, M_g19, M_g20, M_g21, M_g22, M_g23, M_g24, M_g25, M_g26, M_g27, M_g28, M_g29, M_g30, M_g31, M_g32, M_g33, M_g34, M_g35, M_g36, M_g37, M_g38, M_g39, M_g40, M_g41, M_s0, kI_xI, kI_xB, kI_xA, kI_xV, kB_xI, kB_xB, kB_xA, kB_xV, kA_xI, kA_xB, kA_xA, kA_xV, kV_xI, kV_xB, kV_xA, kV_xV, Nat.reduceEqDiff, reduceIte, q1, g8, sb, e0, hf, Option.isSome, iBt, iBf, nI10]
            rw [hf] at z
            exact z
          · cases hs : ixN af (nF n 3) with
            | none => exact absurd ⟨hf, hs⟩ ha
            | some u =>
              rw [hs] at e1
              simp (disch := omega) only [u_201_0, u_201_1, u_201_2, u_201_5, u_201_6, u_201_9, u_201_12, u_201_13, u_201_14, u_201_15, u_201_16, u_201_19, u_201_20, u_201_21, u_201_22, u_201_25, u_201_28, u_201_30, u_201_31, u_201_34, u_201_35, u_201_37, u_201_40, u_201_43, u_201_44, u_201_45, u_201_48, gI0, gIs, gR0, gRs, gF0, gFs, st0, st_i, st_r, st_f, st_n, st_s, true_and, and_true, ↓ifLeT, ↓ifLeF, ↓ifLtT, ↓ifLtF, ↓ifEqT, ↓ifEqF, if_tt, if_ff, if_pos, if_neg, nLe, nLt, nEq, nInT, nCl, pk_mul, nI_add, Nat.reduceAdd, s_cat_nil, s_cat_i, s_cat_r, s_cat_f, s_cat_l, tl_s, tl_n, cat_i, cat_r, cat_f, nb0, nb1, nbI, if_bI, if_bIr, Nat.zero_le, Nat.reduceLeDiff, M_ob, M_g0, M_g1, M_g2, M_g3, M_g4, M_g5, M_g6, M_g7, M_g8, M_g9, M_g10, M_g11, M_g12, M_g13, M_g14, M_g15, M_g16, M_g17, M_g18, M_g19, M_g20, M_g21, M_g22, M_g23, M_g24, M_g25, M_g26, M_g27, M_g28, M_g29, M_g30, M_g31, M_g32, M_g33, M_g34, M_g35, M_g36, M_g37, M_g38, M_g39, M_g40, M_g41, M_s0, kI_xI, kI_xB, kI_xA, kI_xV, kB_xI, kB_xB, kB_xA, kB_xV, kA_xI, kA_xB, kA_xA, kA_xV, kV_xI, kV_xB, kV_xA, kV_xV, Nat.reduceEqDiff, reduceIte, q1, g8, sb, e0, e1, hf, Option.isSome, iBt, iBf, nI10]
              exact z
        refine go ?_
        clear go
        cases h3 : ixN (tk - nI 1) 30 with
        | none =>
          simp only [h3] at K
          simp (disch := omega) only [u_201_49, u_201_50, u_201_51, u_201_52, u_201_55, u_201_58, u_201_61, u_201_62, u_201_63, u_201_64, u_201_67, u_201_70, u_201_73, u_201_74, u_201_75, u_201_78, gI0, gIs, gR0, gRs, gF0, gFs, st0, st_i, st_r, st_f, st_n, st_s, true_and, and_true, ↓ifLeT, ↓ifLeF, ↓ifLtT, ↓ifLtF, ↓ifEqT, ↓ifEqF, if_tt, if_ff, if_pos, if_neg, nLe, nLt, nEq, nInT, nCl, pk_mul, nI_add, Nat.reduceAdd, s_cat_nil, s_cat_i, s_cat_r, s_cat_f, s_cat_l, tl_s, tl_n, cat_i, cat_r, cat_f, nb0, nb1, nbI, if_bI, if_bIr, Nat.zero_le, Nat.reduceLeDiff, M_ob, in30, h3, Option.isSome, iBf]
          refine z_ref (k := 1) hm0 (by decide) fun m' hm' => ?_
          simp (disch := omega) only [u_201_0, u_201_1, u_201_2, u_201_5, u_201_6, u_201_9, u_201_12, u_201_13, u_201_14, u_201_15, u_201_16, u_201_19, u_201_20, u_201_21, u_201_22, u_201_25, u_201_28, u_201_30, u_201_31, u_201_34, u_201_35, u_201_37, u_201_40, u_201_43, u_201_44, u_201_45, u_201_48, u_201_49, u_201_50, u_201_51, u_201_52, u_201_55, u_201_58, u_201_61, u_201_62, u_201_63, u_201_64, u_201_67, u_201_70, u_201_73, u_201_74, u_201_75, u_201_78, u_201_79, u_201_80, u_201_83, u_201_84, u_201_85, u_201_87, u_201_90, u_201_91, u_201_92, u_201_95, u_201_96, u_201_97, u_201_100, u_201_101, u_201_104, u_201_105, u_201_106, u_201_108, u_201_109, u_201_112, u_201_114, u_201_115, u_201_118, u_201_119, u_201_120, u_201_121, u_201_124, u_201_126, u_201_127, u_201_130, u_201_131, u_201_132, u_201_133, u_201_136, u_201_138, u_201_139, u_201_142, u_201_143, u_201_144, u_201_145, u_201_148, u_201_150, u_201_151, u_201_154, u_201_156, u_201_157, u_201_160, u_201_161, u_201_164, u_201_165, u_201_167, u_201_168, u_201_169, u_201_170, u_201_173, u_201_175, u_201_176, u_201_179, u_201_180, u_201_181, u_201_182, u_201_185, u_201_187, u_201_188, u_201_191, u_201_192, u_201_193, u_201_194, u_201_197, u_201_199, u_201_201, u_201_204, u_201_205, u_201_206, u_201_207, u_201_210, u_201_211, u_201_212, u_201_213, u_201_214, u_201_215, u_201_216, u_201_218, gI0, gIs, gR0, gRs, gF0, gFs, st0, st_i, st_r, st_f, st_n, st_s, true_and, and_true, ↓ifLeT, ↓ifLeF, ↓ifLtT, ↓ifLtF, ↓ifEqT, ↓ifEqF, if_tt, if_ff, if_pos, if_neg, nLe, nLt, nEq, nInT, nCl, pk_mul, nI_add, Nat.reduceAdd, s_cat_nil, s_cat_i, s_cat_r, s_cat_f, s_cat_l, tl_s, tl_n, cat_i, cat_r, cat_f, nb0, nb1, nbI, if_bI, if_bIr, Nat.zero_le, Nat.reduceLeDiff]
          exact K m' hm'
        | some tt =>
          simp only [h3] at K
          cases h4 : ixN (hv - nI 1) 99 with
          | none =>
            simp only [h4] at K
            simp (disch := omega) only [u_201_49, u_201_50, u_201_51, u_201_52, u_201_55, u_201_58, u_201_61, u_201_62, u_201_63, u_201_64, u_201_67, u_201_70, u_201_73, u_201_74, u_201_75, u_201_78, gI0, gIs, gR0, gRs, gF0, gFs, st0, st_i, st_r, st_f, st_n, st_s, true_and, and_true, ↓ifLeT, ↓ifLeF, ↓ifLtT, ↓ifLtF, ↓ifEqT, ↓ifEqF, if_tt, if_ff, if_pos, if_neg, nLe, nLt, nEq, nInT, nCl, pk_mul, nI_add, Nat.reduceAdd, s_cat_nil, s_cat_i, s_cat_r, s_cat_f, s_cat_l, tl_s, tl_n, cat_i, cat_r, cat_f, nb0, nb1, nbI, if_bI, if_bIr, Nat.zero_le, Nat.reduceLeDiff, M_ob, in30, in99, h3, h4, Option.isSome, iBt, iBf, nI10]
            refine z_ref (k := 1) hm0 (by decide) fun m' hm' => ?_
            simp (disch := omega) only [u_201_0, u_201_1, u_201_2, u_201_5, u_201_6, u_201_9, u_201_12, u_201_13, u_201_14, u_201_15, u_201_16, u_201_19, u_201_20, u_201_21, u_201_22, u_201_25, u_201_28, u_201_30, u_201_31, u_201_34, u_201_35, u_201_37, u_201_40, u_201_43, u_201_44, u_201_45, u_201_48, u_201_49, u_201_50, u_201_51, u_201_52, u_201_55, u_201_58, u_201_61, u_201_62, u_201_63, u_201_64, u_201_67, u_201_70, u_201_73, u_201_74, u_201_75, u_201_78, u_201_79, u_201_80, u_201_83, u_201_84, u_201_85, u_201_87, u_201_90, u_201_91, u_201_92, u_201_95, u_201_96, u_201_97, u_201_100, u_201_101, u_201_104, u_201_105, u_201_106, u_201_108, u_201_109, u_201_112, u_201_114, u_201_115, u_201_118, u_201_119, u_201_120, u_201_121, u_201_124, u_201_126, u_201_127, u_201_130, u_201_131, u_201_132, u_201_133, u_201_136, u_201_138, u_201_139, u_201_142, u_201_143, u_201_144, u_201_145, u_201_148, u_201_150, u_201_151, u_201_154, u_201_156, u_201_157, u_201_160, u_201_161, u_201_164, u_201_165, u_201_167, u_201_168, u_201_169, u_201_170, u_201_173, u_201_175, u_201_176, u_201_179, u_201_180, u_201_181, u_201_182, u_201_185, u_201_187, u_201_188, u_201_191, u_201_192, u_201_193, u_201_194, u_201_197, u_201_199, u_201_201, u_201_204, u_201_205, u_201_206, u_201_207, u_201_210, u_201_211, u_201_212, u_201_213, u_201_214, u_201_215, u_201_216, u_201_218, gI0, gIs, gR0, gRs, gF0, gFs, st0, st_i, st_r, st_f, st_n, st_s, true_and, and_true, ↓ifLeT, ↓ifLeF, ↓ifLtT, ↓ifLtF, ↓ifEqT, ↓ifEqF, if_tt, if_ff, if_pos, if_neg, nLe, nLt, nEq, nInT, nCl, pk_mul, nI_add, Nat.reduceAdd, s_cat_nil, s_cat_i, s_cat_r, s_cat_f, s_cat_l, tl_s, tl_n, cat_i, cat_r, cat_f, nb0, nb1, nbI, if_bI, if_bIr, Nat.zero_le, Nat.reduceLeDiff]
            exact K m' hm'
          | some vv =>
            simp only [h4] at K
            by_cases hT : nF n 3 = 8
            · simp only [if_pos hT] at K
              rw [hT] at r1
              simp (disch := omega) only [u_201_49, u_201_50, u_201_51, u_201_52, u_201_55, u_201_58, u_201_61, u_201_62, u_201_63, u_201_64, u_201_67, u_201_70, u_201_73, u_201_74, u_201_75, u_201_78, u_201_79, u_201_80, u_201_83, u_201_84, u_201_85, u_201_87, u_201_90, u_201_91, u_201_92, u_201_95, gI0, gIs, gR0, gRs, gF0, gFs, st0, st_i, st_r, st_f, st_n, st_s, true_and, and_true, ↓ifLeT, ↓ifLeF, ↓ifLtT, ↓ifLtF, ↓ifEqT, ↓ifEqF, if_tt, if_ff, if_pos, if_neg, nLe, nLt, nEq, nInT, nCl, pk_mul, nI_add, Nat.reduceAdd, s_cat_nil, s_cat_i, s_cat_r, s_cat_f, s_cat_l, tl_s, tl_n, cat_i, cat_r, cat_f, nb0, nb1, nbI, if_bI, if_bIr, Nat.zero_le, Nat.reduceLeDiff, M_ob, M_g0, M_g1, M_g2, M_g3, M_g4, M_g5, M_g6, M_g7, M_g8, M_g9, M_g10, M_g11, M_g12, M_g13, M_g14, M_g15, M_g16, M_g17, M_g18, M_g19, M_g20, M_g21, M_g22, M_g23, M_g24, M_g25, M_g26, M_g27, M_g28, M_g29, M_g30, M_g31, M_g32, M_g33, M_g34, M_g35, M_g36, M_g37, M_g38, M_g39, M_g40, M_g41, kI_xI, kI_xB, kI_xA, kI_xV, kB_xI, kB_xB, kB_xA, kB_xV, kA_xI, kA_xB, kA_xA, kA_xV, kV_xI, kV_xB, kV_xA, kV_xV, Nat.reduceEqDiff, reduceIte, M_r rb320, c1, r1, in30, in99, h3, h4, Option.isSome, iBt, nI10]
              refine z_ref (k := 3) hm0 (by decide) fun m' hm' => ?_
              simp (disch := omega) only [u_201_0, u_201_1, u_201_2, u_201_5, u_201_6, u_201_9, u_201_12, u_201_13, u_201_14, u_201_15, u_201_16, u_201_19, u_201_20, u_201_21, u_201_22, u_201_25, u_201_28, u_201_30, u_201_31, u_201_34, u_201_35, u_201_37, u_201_40, u_201_43, u_201_44, u_201_45, u_201_48, u_201_49, u_201_50, u_201_51, u_201_52, u_201_55, u_201_58, u_201_61, u_201_62, u_201_63, u_201_64, u_201_67, u_201_70, u_201_73, u_201_74, u_201_75, u_201_78, u_201_79, u_201_80, u_201_83, u_201_84, u_201_85, u_201_87, u_201_90, u_201_91, u_201_92, u_201_95, u_201_96, u_201_97, u_201_100, u_201_101, u_201_104, u_201_105, u_201_106, u_201_108, u_201_109, u_201_112, u_201_114, u_201_115, u_201_118, u_201_119, u_201_120, u_201_121, u_201_124, u_201_126, u_201_127, u_201_130, u_201_131, u_201_132, u_201_133, u_201_136, u_201_138, u_201_139, u_201_142, u_201_143, u_201_144, u_201_145, u_201_148, u_201_150, u_201_151, u_201_154, u_201_156, u_201_157, u_201_160, u_201_161, u_201_164, u_201_165, u_201_167, u_201_168, u_201_169, u_201_170, u_201_173, u_201_175, u_201_176, u_201_179, u_201_180, u_201_181, u_201_182, u_201_185, u_201_187, u_201_188, u_201_191, u_201_192, u_201_193, u_201_194, u_201_197, u_201_199, u_201_201, u_201_204, u_201_205, u_201_206, u_201_207, u_201_210, u_201_211, u_201_212, u_201_213, u_201_214, u_201_215, u_201_216, u_201_218, gI0, gIs, gR0, gRs, gF0, gFs, st0, st_i, st_r, st_f, st_n, st_s, true_and, and_true, ↓ifLeT, ↓ifLeF, ↓ifLtT, ↓ifLtF, ↓ifEqT, ↓ifEqF, if_tt, if_ff, if_pos, if_neg, nLe, nLt, nEq, nInT, nCl, pk_mul, nI_add, Nat.reduceAdd, s_cat_nil, s_cat_i, s_cat_r, s_cat_f, s_cat_l, tl_s, tl_n, cat_i, cat_r, cat_f, nb0, nb1, nbI, if_bI, if_bIr, Nat.zero_le, Nat.reduceLeDiff]
              exact K m' hm'
            · simp only [if_neg hT] at K
              have nT : ¬ nI (nF n 3) = nI 8 := fun q => hT ((nI_eq (by omega) (by omega)).mp q)
              simp (disch := omega) only [u_201_49, u_201_50, u_201_51, u_201_52, u_201_55, u_201_58, u_201_61, u_201_62, u_201_63, u_201_64, u_201_67, u_201_70, u_201_73, u_201_74, u_201_75, u_201_78, u_201_79, u_201_80, u_201_83, u_201_84, u_201_85, u_201_87, gI0, gIs, gR0, gRs, gF0, gFs, st0, st_i, st_r, st_f, st_n, st_s, true_and, and_true, ↓ifLeT, ↓ifLeF, ↓ifLtT, ↓ifLtF, ↓ifEqT, ↓ifEqF, if_tt, if_ff, if_pos, if_neg, nLe, nLt, nEq, nInT, nCl, pk_mul, nI_add, Nat.reduceAdd, s_cat_nil, s_cat_i, s_cat_r, s_cat_f, s_cat_l, tl_s, tl_n, cat_i, cat_r, cat_f, nb0, nb1, nbI, if_bI, if_bIr, Nat.zero_le, Nat.reduceLeDiff, M_ob, M_g0, M_g1, M_g2, M_g3, M_g4, M_g5, M_g6, M_g7, M_g8, M_g9, M_g10, M_g11, M_g12, M_g13, M_g14, M_g15, M_g16, M_g17, M_g18, M_g19, M_g20, M_g21, M_g22, M_g23, M_g24, M_g25, M_g26, M_g27, M_g28, M_g29, M_g30, M_g31, M_g32, M_g33, M_g34, M_g35, M_g36, M_g37, M_g38, M_g39, M_g40, M_g41, kI_xI, kI_xB, kI_xA, kI_xV, kB_xI, kB_xB, kB_xA, kB_xV, kA_xI, kA_xB, kA_xA, kA_xV, kV_xI, kV_xB, kV_xA, kV_xV, Nat.reduceEqDiff, reduceIte, M_r rb320, c1, r1, in30, in99, h3, h4, Option.isSome, iBt, nI10, nT]
              obtain ⟨j3, rfl⟩ := ix1_some (by decide) h3
              obtain ⟨j4, rfl⟩ := ix1_some (by decide) h4
              refine more_t (d := d) (a := ixN af (nF n 3)) hm0 hq (by omega) hbb (by omega) (by omega) (by omega) (by omega) (fun u hu => (ix_some (by omega) hu).1) ?_ K
              by_cases hf : af = -1
              · left
                exact ⟨hf, by rw [hf]; exact ix_m1⟩
              · right
                cases hs : ixN af (nF n 3) with
                | none => exact absurd ⟨hf, hs⟩ ha
                | some u => exact ⟨u, rfl, (ix_some (by omega) hs).2⟩
theorem undo_lp {A : Nat} (hA : A < 10) (h23 : kI m 23 = nI A) : ∀ q i (g : Nat → Int32), i + q = 106 → (∀ j, j < i → g j = kA m 325 (106 * A + j)) → (∀ g', (∀ j, j < 106 → g' j = kA m 325 (106 * A + j)) → Q (some (.int (nI A))) (pM (xA m 320 g') h)) → WP d 176 26 [.ref 317, .int (nI i)] [] (pM (xA m 320 g) h) (0, 0) Q := by
  intro q
  induction q with
  | zero =>
    intro i g hi hg K
    have e : i = 106 := by omega
    subst e
    rw [u_176_26]
    simp (disch := omega) only [u_176_0, u_176_1, u_176_2, u_176_5, u_176_6, u_176_9, u_176_12, u_176_13, u_176_14, u_176_15, u_176_16, u_176_19, u_176_20, u_176_21, u_176_24, u_176_25, u_176_27, u_176_29, u_176_32, u_176_33, u_176_36, u_176_37, u_176_38, u_176_41, u_176_43, u_176_44, u_176_47, u_176_48, u_176_49, u_176_50, u_176_51, u_176_52, u_176_55, u_176_58, u_176_59, u_176_62, gI0, gIs, gR0, gRs, gF0, gFs, st0, st_i, st_r, st_f, st_n, st_s, true_and, and_true, ↓ifLeT, ↓ifLeF, ↓ifLtT, ↓ifLtF, ↓ifEqT, ↓ifEqF, if_tt, if_ff, if_pos, if_neg, nLe, nLt, nEq, nInT, nCl, pk_mul, nI_add, Nat.reduceAdd, s_cat_nil, s_cat_i, s_cat_r, s_cat_f, s_cat_l, tl_s, tl_n, cat_i, cat_r, cat_f, nb0, nb1, nbI, if_bI, if_bIr, Nat.zero_le, Nat.reduceLeDiff, M_g0, M_g1, M_g2, M_g3, M_g4, M_g5, M_g6, M_g7, M_g8, M_g9, M_g10, M_g11, M_g12, M_g13, M_g14, M_g15, M_g16, M_g17, M_g18, M_g19, M_g20, M_g21, M_g22, M_g23, M_g24, M_g25, M_g26, M_g27, M_g28, M_g29, M_g30, M_g31, M_g32, M_g33, M_g34, M_g35, M_g36, M_g37, M_g38, M_g39, M_g40, M_g41, kI_xI, kI_xB, kI_xA, kI_xV, kB_xI, kB_xB, kB_xA, kB_xV, kA_xI, kA_xB, kA_xA, kA_xV, kV_xI, kV_xB, kV_xA, kV_xV, Nat.reduceEqDiff, reduceIte, h23]
    exact K g hg
  | succ q ih =>
    intro i g hi hg K
    have i1 : vp_in (nI (106 * A + i)) 1060 := (nIn (by omega)).mpr (by omega)
    have i2 : vp_in (nI i) 106 := (nIn (by omega)).mpr (by omega)
    have c1 : (nI (106 * A + i)).toNatClampNeg = 106 * A + i := nCl (by omega)
    have c2 : (nI i).toNatClampNeg = i := nCl (by omega)
    rw [u_176_26]
    simp (disch := omega) only [u_176_0, u_176_1, u_176_2, u_176_5, u_176_6, u_176_9, u_176_12, u_176_13, u_176_14, u_176_15, u_176_16, u_176_19, u_176_20, u_176_21, u_176_24, u_176_25, u_176_27, u_176_29, u_176_32, u_176_33, u_176_36, u_176_37, u_176_38, u_176_41, u_176_43, u_176_44, u_176_47, u_176_48, u_176_49, u_176_50, u_176_51, u_176_52, u_176_55, u_176_58, u_176_59, u_176_62, gI0, gIs, gR0, gRs, gF0, gFs, st0, st_i, st_r, st_f, st_n, st_s, true_and, and_true, ↓ifLeT, ↓ifLeF, ↓ifLtT, ↓ifLtF, ↓ifEqT, ↓ifEqF, if_tt, if_ff, if_pos, if_neg, nLe, nLt, nEq, nInT, nCl, pk_mul, nI_add, Nat.reduceAdd, s_cat_nil, s_cat_i, s_cat_r, s_cat_f, s_cat_l, tl_s, tl_n, cat_i, cat_r, cat_f, nb0, nb1, nbI, if_bI, if_bIr, Nat.zero_le, Nat.reduceLeDiff, M_g0, M_g1, M_g2, M_g3, M_g4, M_g5, M_g6, M_g7, M_g8, M_g9, M_g10, M_g11, M_g12, M_g13, M_g14, M_g15, M_g16, M_g17, M_g18, M_g19, M_g20, M_g21, M_g22, M_g23, M_g24, M_g25, M_g26, M_g27, M_g28, M_g29, M_g30, M_g31, M_g32, M_g33, M_g34, M_g35, M_g36, M_g37, M_g38, M_g39, M_g40, M_g41, kI_xA, h23, M_a325, M_w320, i1, i2, c1, c2, kA_eq, kA_ne (show (325 : Nat) ≠ 320 by decide), xA_tw]
    refine ih (i + 1) _ (by omega) (fun j hj => ?_) K
    show (if j = i then kA m 325 (106 * A + i) else g j) = _
    by_cases e : j = i
    · rw [if_pos e, e]
    · rw [if_neg e]; exact hg j (by omega)
theorem z_undo (hm : RM m z) (K : ∀ m', RM m' (zundo z).2 → Q (some (.int (zundo z).1)) (pM m' h)) : MT (d + 1) 176 [.ref 317] (pM m h) Q := by
  rw [MT_go (by decide) _ _ _ (Nat.le_of_ble_eq_true rfl), show s_entry 176 [.ref 317] = [.ref 317, s_no] from rfl]
  have hm0 := RM_0 (x := nI 0) hm
  have a1 : kI m 23 = nI (zA z).length := hm.2.2.1.1
  have a2 := hm.2.2.1.2.1
  unfold zundo at K
  rw [List.getLast?_eq_getElem?] at K
  cases ha : (zA z)[(zA z).length - 1]? with
  | none =>
    simp only [ha] at K
    have h0 : (zA z).length = 0 := by
      have := List.getElem?_eq_none_iff.mp ha
      omega
    rw [h0] at a1
    simp (disch := omega) only [u_176_0, u_176_1, u_176_2, u_176_5, u_176_6, u_176_9, u_176_12, u_176_13, u_176_14, u_176_15, u_176_16, u_176_19, u_176_20, u_176_21, u_176_24, u_176_25, u_176_27, u_176_29, u_176_32, u_176_33, u_176_36, u_176_37, u_176_38, u_176_41, u_176_43, u_176_44, u_176_47, u_176_48, u_176_49, u_176_50, u_176_51, u_176_52, u_176_55, u_176_58, u_176_59, u_176_62, gI0, gIs, gR0, gRs, gF0, gFs, st0, st_i, st_r, st_f, st_n, st_s, true_and, and_true, ↓ifLeT, ↓ifLeF, ↓ifLtT, ↓ifLtF, ↓ifEqT, ↓ifEqF, if_tt, if_ff, if_pos, if_neg, nLe, nLt, nEq, nInT, nCl, pk_mul, nI_add, Nat.reduceAdd, s_cat_nil, s_cat_i, s_cat_r, s_cat_f, s_cat_l, tl_s, tl_n, cat_i, cat_r, cat_f, nb0, nb1, nbI, if_bI, if_bIr, Nat.zero_le, Nat.reduceLeDiff, M_g0, M_g1, M_g2, M_g3, M_g4, M_g5, M_g6, M_g7, M_g8, M_g9, M_g10, M_g11, M_g12, M_g13, M_g14, M_g15, M_g16, M_g17, M_g18, M_g19, M_g20, M_g21, M_g22, M_g23, M_g24, M_g25, M_g26, M_g27, M_g28, M_g29, M_g30, M_g31, M_g32, M_g33, M_g34, M_g35, M_g36, M_g37, M_g38, M_g39, M_g40, M_g41, M_s0, kI_xI, kI_xB, kI_xA, kI_xV, kB_xI, kB_xB, kB_xA, kB_xV, kA_xI, kA_xB, kA_xA, kA_xV, kV_xI, kV_xB, kV_xA, kV_xV, Nat.reduceEqDiff, reduceIte, a1]
    exact K _ hm0
  | some a =>
    simp only [ha] at K
    have h0 := (List.getElem?_eq_some_iff.mp ha).1
    have ne : ¬ nI (zA z).length = nI 0 := fun q => by have := (nI_eq (by omega) (by omega)).mp q; omega
    have sb : nI (zA z).length - nI 1 = nI ((zA z).length - 1) := pk_sub (by omega)
    simp (disch := omega) only [u_176_0, u_176_1, u_176_2, u_176_5, u_176_6, u_176_9, u_176_12, u_176_13, u_176_14, u_176_15, u_176_16, u_176_19, u_176_20, u_176_21, u_176_24, u_176_25, u_176_27, u_176_29, u_176_32, u_176_33, u_176_36, u_176_37, u_176_38, u_176_41, u_176_43, u_176_44, u_176_47, u_176_48, u_176_49, u_176_50, u_176_51, u_176_52, u_176_55, u_176_58, u_176_59, u_176_62, gI0, gIs, gR0, gRs, gF0, gFs, st0, st_i, st_r, st_f, st_n, st_s, true_and, and_true, ↓ifLeT, ↓ifLeF, ↓ifLtT, ↓ifLtF, ↓ifEqT, ↓ifEqF, if_tt, if_ff, if_pos, if_neg, nLe, nLt, nEq, nInT, nCl, pk_mul, nI_add, Nat.reduceAdd, s_cat_nil, s_cat_i, s_cat_r, s_cat_f, s_cat_l, tl_s, tl_n, cat_i, cat_r, cat_f, nb0, nb1, nbI, if_bI, if_bIr, Nat.zero_le, Nat.reduceLeDiff, M_g0, M_g1, M_g2, M_g3, M_g4, M_g5, M_g6, M_g7, M_g8, M_g9, M_g10, M_g11, M_g12, M_g13, M_g14, M_g15, M_g16, M_g17, M_g18, M_g19, M_g20, M_g21, M_g22, M_g23, M_g24, M_g25, M_g26, M_g27, M_g28, M_g29, M_g30, M_g31, M_g32, M_g33, M_g34, M_g35, M_g36, M_g37, M_g38, M_g39, M_g40, M_g41, M_s0, M_s23, kI_xI, kI_xB, kI_xA, kI_xV, kB_xI, kB_xB, kB_xA, kB_xV, kA_xI, kA_xB, kA_xA, kA_xV, kV_xI, kV_xB, kV_xA, kV_xV, Nat.reduceEqDiff, reduceIte, a1, ne, sb]
    have go := fun K => undo_lp (d := d) (m := xI (xI m 0 (nI 0)) 23 (nI ((zA z).length - 1))) (h := h) (Q := Q) (A := (zA z).length - 1) (by omega) rfl 106 0 (kA m 320) rfl (fun j hj => absurd hj (Nat.not_lt_zero j)) K
    have e : xA (xI (xI m 0 (nI 0)) 23 (nI ((zA z).length - 1))) 320 (kA m 320) = xI (xI m 0 (nI 0)) 23 (nI ((zA z).length - 1)) := xA_eta _ 320
    rw [e] at go
    refine go fun g hg => K _ ?_
    obtain ⟨⟨t1, t2, t3⟩, ⟨q1, q2⟩, ⟨b1, b2, b3⟩, ⟨i1, i2⟩, hrf⟩ := hm0
    obtain ⟨r1, r2, n, hq, r4⟩ := b3 _ _ ha
    obtain ⟨hg0, hr, hok⟩ := q2 n hq
    refine ⟨⟨t1, t2, t3⟩, ⟨?_, fun n2 e => ?_⟩, ⟨?_, ?_, fun j x e => ?_⟩, ⟨i1, fun x e => ?_⟩, hrf⟩
    · rw [hq] at q1; exact q1
    · cases e
      exact ⟨MG_same hg0 r4, RR_cong r2.1 hg r1, r2⟩
    · show nI ((zA z).length - 1) = nI (zA z).dropLast.length
      rw [List.length_dropLast]
    · show (zA z).dropLast.length ≤ 10
      rw [List.length_dropLast]
      omega
    · have e : (zA z).dropLast[j]? = some x := e
      rw [List.getElem?_dropLast] at e
      split at e
      · obtain ⟨k1, k2, n3, k3, k4⟩ := b3 j x e
        rw [hq] at k3
        cases k3
        exact ⟨k1, k2, a, rfl, sameQ_t k4 (sameQ_s r4)⟩
      · cases e
    · obtain ⟨k1, k2, n3, k3, k4⟩ := i2 x e
      rw [hq] at k3
      cases k3
      exact ⟨k1, k2, a, rfl, sameQ_t k4 (sameQ_s r4)⟩
end MK3
