/-! the reference's reader: a task of a QUAY -/
theorem TT_W {m m' : tM} {t : tO} (h : frW m m') (hT : TT m t) : TT m' t := TT_Z (frU_Z (frU_W h)) hT
theorem upd_tw (f : Nat → Int32) (k : Nat) (x y : Int32) : upd (upd f k x) k y = upd f k y := by
  funext q
  unfold upd
  by_cases e : q = k
  · rw [if_pos e, if_pos e]
  · rw [if_neg e, if_neg e, if_neg e]
theorem upd_eq (f : Nat → Int32) (k : Nat) (x : Int32) : upd f k x k = x := if_pos rfl
section MTK2
variable {d T s : Nat} {m : tM} {t : tO} {y : tY} {h : sH} {Q : sQ} {n : tN}
/-- a fault stands: what is left of a task's line changes nothing of it -/
theorem tb_125 (hT : T < 8) (hs : s ≤ 400) (h5 : kI m 5 = nI s) (K : ∀ m', frW m m' → kI m' 5 = nI s → Q none (pM m' h)) : WP (d + 4) 164 125 [.ref 317, .int (nI T)] [] (pM m h) (0, 0) Q := by
  have n5 : ¬ kI m 5 = -1 := by rw [h5]; exact m1_ne (by omega)
  have e3 := fun Q => r_takesW1 (d := d + 1) (h := h) (Q := Q) (j := 8) n5
  have e3 : ∀ Q, MT (d + 4) 155 [.ref 317, .ref 1000009] (pM m h) Q ↔ Q (some (.int (nI 0))) (pM m h) := e3
  have c1 : (nI 1).toNatClampNeg = 1 := rfl
  rw [u_164_125]
  simp (disch := omega) only [u_164_0, u_164_1, u_164_4, u_164_5, u_164_6, u_164_8, u_164_11, u_164_12, u_164_15, u_164_18, u_164_19, u_164_22, u_164_23, u_164_24, u_164_27, u_164_28, u_164_30, u_164_33, u_164_34, u_164_37, u_164_38, u_164_39, u_164_40, u_164_41, u_164_44, u_164_45, u_164_46, u_164_49, u_164_50, u_164_51, u_164_52, u_164_55, u_164_56, u_164_57, u_164_60, u_164_61, u_164_62, u_164_64, u_164_67, u_164_68, u_164_71, u_164_72, u_164_73, u_164_76, u_164_77, u_164_78, u_164_80, u_164_83, u_164_84, u_164_85, u_164_88, u_164_89, u_164_90, u_164_93, u_164_94, u_164_96, u_164_99, u_164_102, u_164_103, u_164_104, u_164_106, u_164_109, u_164_112, u_164_113, u_164_114, u_164_115, u_164_118, u_164_119, u_164_120, u_164_123, u_164_124, u_164_126, u_164_128, u_164_131, u_164_134, u_164_135, u_164_138, u_164_139, u_164_140, u_164_143, u_164_144, u_164_145, u_164_146, u_164_147, u_164_148, u_164_149, u_164_150, u_164_151, u_164_154, u_164_155, u_164_156, u_164_157, u_164_160, u_164_161, u_164_164, u_164_165, u_164_166, u_164_167, u_164_168, u_164_169, u_164_170, gI0, gIs, gR0, gRs, gF0, gFs, st0, st_i, st_r, st_f, st_n, st_s, true_and, and_true, ↓ifLeT, ↓ifLeF, ↓ifLtT, ↓ifLtF, ↓ifEqT, ↓ifEqF, if_tt, if_ff, if_pos, if_neg, nLe, nLt, nEq, nInT, nCl, pk_mul, nI_add, Nat.reduceAdd, s_cat_nil, s_cat_i, s_cat_r, s_cat_f, s_cat_l, tl_s, tl_n, cat_i, cat_r, cat_f, nb0, nb1, nbI, if_bI, if_bIr, Nat.zero_le, Nat.reduceLeDiff, M_ob, M_g0, M_g1, M_g2, M_g3, M_g4, M_g5, M_g6, M_g7, M_g8, M_g9, M_g10, M_g11, M_g12, M_g13, M_g14, M_g15, M_g16, M_g17, M_g18, M_g19, M_g20, M_g21, M_g22, M_g23, M_g24, M_g25, M_g26, M_g27, M_g28, M_g29, M_g30, M_g31, M_g32, M_g33, M_g34, M_g35, M_g36, M_g37, M_g38, M_g39, M_g40, M_g41, e3, M_r rb322, M_rw rb322, c1]
  exact K _ frW_A h5
theorem tb_113 {v : Int32} (hT : T < 8) (hs : s ≤ 400) (h5 : kI m 5 = nI s) (K : ∀ m', frW m m' → kI m' 5 = nI s → Q none (pM m' h)) : WP (d + 4) 164 113 [.ref 317, .int (nI T)] [.int v, .int (nI (50 + 7 * T + 2)), .ref 322] (pM m h) (0, 0) Q := by
  simp (disch := omega) only [u_164_113, u_164_114, u_164_115, u_164_118, u_164_119, u_164_120, u_164_123, u_164_124, gI0, gIs, gR0, gRs, gF0, gFs, st0, st_i, st_r, st_f, st_n, st_s, true_and, and_true, ↓ifLeT, ↓ifLeF, ↓ifLtT, ↓ifLtF, ↓ifEqT, ↓ifEqF, if_tt, if_ff, if_pos, if_neg, nLe, nLt, nEq, nInT, nCl, pk_mul, nI_add, Nat.reduceAdd, s_cat_nil, s_cat_i, s_cat_r, s_cat_f, s_cat_l, tl_s, tl_n, cat_i, cat_r, cat_f, nb0, nb1, nbI, if_bI, if_bIr, Nat.zero_le, Nat.reduceLeDiff, M_g0, M_g1, M_g2, M_g3, M_g4, M_g5, M_g6, M_g7, M_g8, M_g9, M_g10, M_g11, M_g12, M_g13, M_g14, M_g15, M_g16, M_g17, M_g18, M_g19, M_g20, M_g21, M_g22, M_g23, M_g24, M_g25, M_g26, M_g27, M_g28, M_g29, M_g30, M_g31, M_g32, M_g33, M_g34, M_g35, M_g36, M_g37, M_g38, M_g39, M_g40, M_g41, m_tAt, M_rw rb322, kA_eq, xA_tw]
  exact tb_125 (d := d) hT hs (by exact h5) fun m' f e => K m' (frW_t frW_A f) e
theorem tb_83 {v : Int32} (hT : T < 8) (hs : s ≤ 400) (h5 : kI m 5 = nI s) (K : ∀ m', frW m m' → kI m' 5 = nI s → Q none (pM m' h)) : WP (d + 4) 164 83 [.ref 317, .int (nI T)] [.int v, .int (nI (50 + 7 * T + 1)), .ref 322] (pM m h) (0, 0) Q := by
  have n5 : ¬ kI (xA m 322 (upd (kA m 322) (50 + 7 * T + 1) v)) 5 = -1 := by
    show ¬ kI m 5 = -1
    rw [h5]
    exact m1_ne (by omega)
  have e3 := fun Q => r_takesW1 (d := d + 1) (h := h) (Q := Q) (j := 7) n5
  have e3 : ∀ Q, MT (d + 4) 155 [.ref 317, .ref 1000008] (pM (xA m 322 (upd (kA m 322) (50 + 7 * T + 1) v)) h) Q ↔ Q (some (.int (nI 0))) (pM (xA m 322 (upd (kA m 322) (50 + 7 * T + 1) v)) h) := e3
  simp (disch := omega) only [u_164_83, u_164_84, u_164_85, u_164_88, u_164_89, u_164_90, u_164_93, u_164_94, u_164_96, u_164_99, u_164_102, u_164_103, u_164_104, u_164_106, u_164_109, u_164_112, gI0, gIs, gR0, gRs, gF0, gFs, st0, st_i, st_r, st_f, st_n, st_s, true_and, and_true, ↓ifLeT, ↓ifLeF, ↓ifLtT, ↓ifLtF, ↓ifEqT, ↓ifEqF, if_tt, if_ff, if_pos, if_neg, nLe, nLt, nEq, nInT, nCl, pk_mul, nI_add, Nat.reduceAdd, s_cat_nil, s_cat_i, s_cat_r, s_cat_f, s_cat_l, tl_s, tl_n, cat_i, cat_r, cat_f, nb0, nb1, nbI, if_bI, if_bIr, Nat.zero_le, Nat.reduceLeDiff, M_ob, M_g0, M_g1, M_g2, M_g3, M_g4, M_g5, M_g6, M_g7, M_g8, M_g9, M_g10, M_g11, M_g12, M_g13, M_g14, M_g15, M_g16, M_g17, M_g18, M_g19, M_g20, M_g21, M_g22, M_g23, M_g24, M_g25, M_g26, M_g27, M_g28, M_g29, M_g30, M_g31, M_g32, M_g33, M_g34, M_g35, M_g36, M_g37, M_g38, M_g39, M_g40, M_g41, m_tAt, M_rw rb322, e3]
  exact tb_113 (d := d) hT hs (by exact h5) fun m' f e => K m' (frW_t frW_A f) e
theorem tb_67 (hT : T < 8) (hs : s ≤ 400) (h5 : kI m 5 = nI s) (K : ∀ m', frW m m' → kI m' 5 = nI s → Q none (pM m' h)) : WP (d + 4) 164 67 [.ref 317, .int (nI T)] [] (pM m h) (0, 0) Q := by
  have n5 : ¬ kI m 5 = -1 := by rw [h5]; exact m1_ne (by omega)
  have e3 := fun Q => r_num1 (d := d + 1) (h := h) (Q := Q) (lo := nI 1) (hi := nI 30) n5
  simp (disch := omega) only [u_164_67, u_164_68, u_164_71, u_164_72, u_164_73, u_164_76, u_164_77, u_164_78, u_164_80, gI0, gIs, gR0, gRs, gF0, gFs, st0, st_i, st_r, st_f, st_n, st_s, true_and, and_true, ↓ifLeT, ↓ifLeF, ↓ifLtT, ↓ifLtF, ↓ifEqT, ↓ifEqF, if_tt, if_ff, if_pos, if_neg, nLe, nLt, nEq, nInT, nCl, pk_mul, nI_add, Nat.reduceAdd, s_cat_nil, s_cat_i, s_cat_r, s_cat_f, s_cat_l, tl_s, tl_n, cat_i, cat_r, cat_f, nb0, nb1, nbI, if_bI, if_bIr, Nat.zero_le, Nat.reduceLeDiff, M_ob, M_g0, M_g1, M_g2, M_g3, M_g4, M_g5, M_g6, M_g7, M_g8, M_g9, M_g10, M_g11, M_g12, M_g13, M_g14, M_g15, M_g16, M_g17, M_g18, M_g19, M_g20, M_g21, M_g22, M_g23, M_g24, M_g25, M_g26, M_g27, M_g28, M_g29, M_g30, M_g31, M_g32, M_g33, M_g34, M_g35, M_g36, M_g37, M_g38, M_g39, M_g40, M_g41, m_tAt, e3]
  exact tb_83 (d := d) hT hs h5 K
theorem tb_60 {v : Int32} (hT : T < 8) (hs : s ≤ 400) (h5 : kI m 5 = nI s) (K : ∀ m', frW m m' → kI m' 5 = nI s → Q none (pM m' h)) : WP (d + 4) 164 60 [.ref 317, .int (nI T)] [.int v, .int (nI (50 + 7 * T + 0)), .ref 322] (pM m h) (0, 0) Q := by
  have n5 : ¬ kI (xA m 322 (upd (kA m 322) (50 + 7 * T + 0) v)) 5 = -1 := by
    show ¬ kI m 5 = -1
    rw [h5]
    exact m1_ne (by omega)
  have e3 := fun Q => r_mustW1 (d := d) (h := h) (Q := Q) (j := 6) n5
  have e3 : ∀ Q, MT (d + 4) 156 [.ref 317, .ref 1000007] (pM (xA m 322 (upd (kA m 322) (50 + 7 * T + 0) v)) h) Q ↔ Q none (pM (xA m 322 (upd (kA m 322) (50 + 7 * T + 0) v)) h) := e3
  simp (disch := omega) only [u_164_60, u_164_61, u_164_62, u_164_64, gI0, gIs, gR0, gRs, gF0, gFs, st0, st_i, st_r, st_f, st_n, st_s, true_and, and_true, ↓ifLeT, ↓ifLeF, ↓ifLtT, ↓ifLtF, ↓ifEqT, ↓ifEqF, if_tt, if_ff, if_pos, if_neg, nLe, nLt, nEq, nInT, nCl, pk_mul, nI_add, Nat.reduceAdd, s_cat_nil, s_cat_i, s_cat_r, s_cat_f, s_cat_l, tl_s, tl_n, cat_i, cat_r, cat_f, nb0, nb1, nbI, if_bI, if_bIr, Nat.zero_le, Nat.reduceLeDiff, M_ob, M_g0, M_g1, M_g2, M_g3, M_g4, M_g5, M_g6, M_g7, M_g8, M_g9, M_g10, M_g11, M_g12, M_g13, M_g14, M_g15, M_g16, M_g17, M_g18, M_g19, M_g20, M_g21, M_g22, M_g23, M_g24, M_g25, M_g26, M_g27, M_g28, M_g29, M_g30, M_g31, M_g32, M_g33, M_g34, M_g35, M_g36, M_g37, M_g38, M_g39, M_g40, M_g41, M_rw rb322, e3]
  exact tb_67 (d := d) hT hs (by exact h5) fun m' f e => K m' (frW_t frW_A f) e
theorem tb_33 {v : Value} (hT : T < 8) (hs : s ≤ 400) (h5 : kI m 5 = nI s) (h1 : kA m 322 1 = nI T) (K : ∀ m', frW m m' → kI m' 5 = nI s → Q none (pM m' h)) : WP (d + 4) 164 33 [.ref 317, v] [] (pM m h) (0, 0) Q := by
  have n5 : ¬ kI m 5 = -1 := by rw [h5]; exact m1_ne (by omega)
  have c1 : (nI 1).toNatClampNeg = 1 := rfl
  have e3 := fun hi Q => r_num1 (d := d + 1) (h := h) (Q := Q) (lo := nI 0) (hi := hi) n5
  simp (disch := omega) only [u_164_33, u_164_34, u_164_37, u_164_38, u_164_39, u_164_40, u_164_41, u_164_44, u_164_45, u_164_46, u_164_49, u_164_50, u_164_51, u_164_52, u_164_55, u_164_56, u_164_57, gI0, gIs, gR0, gRs, gF0, gFs, st0, st_i, st_r, st_f, st_n, st_s, true_and, and_true, ↓ifLeT, ↓ifLeF, ↓ifLtT, ↓ifLtF, ↓ifEqT, ↓ifEqF, if_tt, if_ff, if_pos, if_neg, nLe, nLt, nEq, nInT, nCl, pk_mul, nI_add, Nat.reduceAdd, s_cat_nil, s_cat_i, s_cat_r, s_cat_f, s_cat_l, tl_s, tl_n, cat_i, cat_r, cat_f, nb0, nb1, nbI, if_bI, if_bIr, Nat.zero_le, Nat.reduceLeDiff, M_ob, M_g0, M_g1, M_g2, M_g3, M_g4, M_g5, M_g6, M_g7, M_g8, M_g9, M_g10, M_g11, M_g12, M_g13, M_g14, M_g15, M_g16, M_g17, M_g18, M_g19, M_g20, M_g21, M_g22, M_g23, M_g24, M_g25, M_g26, M_g27, M_g28, M_g29, M_g30, M_g31, M_g32, M_g33, M_g34, M_g35, M_g36, M_g37, M_g38, M_g39, M_g40, M_g41, m_tAt, M_r rb322, c1, h1, e3]
  exact tb_60 (d := d) hT hs h5 K
/-- what it is after -/
theorem rt_after (hT : T < 8) {g : Nat → Int32} : ∀ k m t x, GD m t → okP t → 400 ≤ eN t 2 + k → kA m 322 = upd g (50 + 7 * T + 3) x → ((afF (nI T - nI 1) k t x).1 = true → ∀ m', frW m m' → GD m' (afF (nI T - nI 1) k t x).2.1 → kA m' 322 = upd g (50 + 7 * T + 3) (afF (nI T - nI 1) k t x).2.2 → WP (d + 4) 164 160 [.ref 317, .int (nI T)] [] (pM m' h) (0, 0) Q) → ((afF (nI T - nI 1) k t x).1 = false → ∀ m', frW m m' → eN (afF (nI T - nI 1) k t x).2.1 2 ≤ 400 → kI m' 5 = nI (eN (afF (nI T - nI 1) k t x).2.1 2) → TT m' (afF (nI T - nI 1) k t x).2.1 → Q none (pM m' h)) → WP (d + 4) 164 125 [.ref 317, .int (nI T)] [] (pM m h) (0, 0) Q := by
  have out : ∀ m t, GD m t → isWB t 8 = false → WP (d + 4) 164 160 [.ref 317, .int (nI T)] [] (pM m h) (0, 0) Q → WP (d + 4) 164 125 [.ref 317, .int (nI T)] [] (pM m h) (0, 0) Q := fun m t hG hw K => by
    rw [u_164_125]
    simp (disch := omega) only [u_164_126, u_164_128, gI0, gIs, gR0, gRs, gF0, gFs, st0, st_i, st_r, st_f, st_n, st_s, true_and, and_true, ↓ifLeT, ↓ifLeF, ↓ifLtT, ↓ifLtF, ↓ifEqT, ↓ifEqF, if_tt, if_ff, if_pos, if_neg, nLe, nLt, nEq, nInT, nCl, pk_mul, nI_add, Nat.reduceAdd, s_cat_nil, s_cat_i, s_cat_r, s_cat_f, s_cat_l, tl_s, tl_n, cat_i, cat_r, cat_f, nb0, nb1, nbI, if_bI, if_bIr, Nat.zero_le, Nat.reduceLeDiff, M_ob]
    refine r_takesW (d := d + 1) (j := 8) (by decide) hG (fun q => absurd (hw.symm.trans q) (by decide)) fun _ => ?_
    simp (disch := omega) only [u_164_131, gI0, gIs, gR0, gRs, gF0, gFs, st0, st_i, st_r, st_f, st_n, st_s, true_and, and_true, ↓ifLeT, ↓ifLeF, ↓ifLtT, ↓ifLtF, ↓ifEqT, ↓ifEqF, if_tt, if_ff, if_pos, if_neg, nLe, nLt, nEq, nInT, nCl, pk_mul, nI_add, Nat.reduceAdd, s_cat_nil, s_cat_i, s_cat_r, s_cat_f, s_cat_l, tl_s, tl_n, cat_i, cat_r, cat_f, nb0, nb1, nbI, if_bI, if_bIr, Nat.zero_le, Nat.reduceLeDiff]
    exact K
  intro k
  induction k with
  | zero =>
    intro m t x hG hP hk hx K1 _
    have hw : isWB t 8 = false := by
      cases q : isWB t 8 with
      | false => rfl
      | true =>
        have e3 : eI t 3 = nI 1 := by
          unfold isWB at q
          rw [Bool.and_eq_true, decide_eq_true_eq] at q
          exact q.1
        have := hP (by rw [e3]; decide)
        have := hG.2.1.1
        have := hG.2.1.2.1
        omega
    exact out m t hG hw (K1 rfl m frW_r hG hx)
  | succ k ih =>
    intro m t x hG hP hk hx K1 K2
    rw [afF] at K1 K2
    unfold nmB nmT at K1 K2
    cases hw : isWB t 8 with
    | false =>
      simp only [hw, Bool.false_eq_true, if_false] at K1
      exact out m t hG hw (K1 trivial m frW_r hG hx)
    | true =>
      simp only [hw, if_true, Bool.true_and] at K1 K2
      have e3 : eI t 3 = nI 1 := by
        unfold isWB at hw
        rw [Bool.and_eq_true, decide_eq_true_eq] at hw
        exact hw.1
      have p1 := hP (by rw [e3]; decide)
      have p2 := (adv_pos (okT_0 hG.2.1)).1
      rw [u_164_125]
      simp (disch := omega) only [u_164_126, u_164_128, gI0, gIs, gR0, gRs, gF0, gFs, st0, st_i, st_r, st_f, st_n, st_s, true_and, and_true, ↓ifLeT, ↓ifLeF, ↓ifLtT, ↓ifLtF, ↓ifEqT, ↓ifEqF, if_tt, if_ff, if_pos, if_neg, nLe, nLt, nEq, nInT, nCl, pk_mul, nI_add, Nat.reduceAdd, s_cat_nil, s_cat_i, s_cat_r, s_cat_f, s_cat_l, tl_s, tl_n, cat_i, cat_r, cat_f, nb0, nb1, nbI, if_bI, if_bIr, Nat.zero_le, Nat.reduceLeDiff, M_ob]
      refine r_takesW (d := d + 1) (j := 8) (by decide) hG (fun _ m1 f1 G1 => ?_) fun q => absurd (hw.symm.trans q) (by decide)
      have x1 : kA m1 322 (50 + 7 * T + 3) = x := by rw [kA_R f1, hx]; exact upd_eq _ _ _
      simp (disch := omega) only [u_164_131, u_164_134, u_164_135, u_164_138, u_164_139, u_164_140, u_164_143, u_164_144, u_164_145, u_164_146, u_164_147, u_164_148, u_164_149, u_164_150, u_164_151, gI0, gIs, gR0, gRs, gF0, gFs, st0, st_i, st_r, st_f, st_n, st_s, true_and, and_true, ↓ifLeT, ↓ifLeF, ↓ifLtT, ↓ifLtF, ↓ifEqT, ↓ifEqF, if_tt, if_ff, if_pos, if_neg, nLe, nLt, nEq, nInT, nCl, pk_mul, nI_add, Nat.reduceAdd, s_cat_nil, s_cat_i, s_cat_r, s_cat_f, s_cat_l, tl_s, tl_n, cat_i, cat_r, cat_f, nb0, nb1, nbI, if_bI, if_bIr, Nat.zero_le, Nat.reduceLeDiff, M_ob, M_g0, M_g1, M_g2, M_g3, M_g4, M_g5, M_g6, M_g7, M_g8, M_g9, M_g10, M_g11, M_g12, M_g13, M_g14, M_g15, M_g16, M_g17, M_g18, M_g19, M_g20, M_g21, M_g22, M_g23, M_g24, M_g25, M_g26, M_g27, M_g28, M_g29, M_g30, M_g31, M_g32, M_g33, M_g34, M_g35, M_g36, M_g37, M_g38, M_g39, M_g40, M_g41, m_tAt, M_r rb322, x1]
      refine r_num (d := d + 1) G1 (by decide) (fun hb m2 f2 G2 => ?_) fun hb => ?_
      · have hb' : isNB (advT t) (nI 0) (nI T - nI 1) = true := hb
        simp only [hb', if_true] at K1 K2
        have f12 : frW m m2 := frW_t (frW_R f1) (frW_R f2)
        have x2 : kA m2 322 = upd g (50 + 7 * T + 3) x := by rw [kA_R f2, kA_R f1]; exact hx
        simp (disch := omega) only [u_164_154, u_164_155, u_164_156, u_164_157, gI0, gIs, gR0, gRs, gF0, gFs, st0, st_i, st_r, st_f, st_n, st_s, true_and, and_true, ↓ifLeT, ↓ifLeF, ↓ifLtT, ↓ifLtF, ↓ifEqT, ↓ifEqF, if_tt, if_ff, if_pos, if_neg, nLe, nLt, nEq, nInT, nCl, pk_mul, nI_add, Nat.reduceAdd, s_cat_nil, s_cat_i, s_cat_r, s_cat_f, s_cat_l, tl_s, tl_n, cat_i, cat_r, cat_f, nb0, nb1, nbI, if_bI, if_bIr, Nat.zero_le, Nat.reduceLeDiff, M_rw rb322, x2, upd_tw]
        have p3 := okP_adv hG.2.1
        refine ih _ (advT (advT t)) _ (GD_Q (by decide) G2) (okP_adv G1.2.1) ?_ (kA_eq _ _ _) (fun e m' f => K1 e m' (frW_t (frW_t f12 frW_A) f)) fun e m' f => K2 e m' (frW_t (frW_t f12 frW_A) f)
        have := (adv_pos (okT_0 G1.2.1)).1
        have := G1.2.1.2.2
        omega
      · have hb' : isNB (advT t) (nI 0) (nI T - nI 1) = false := hb
        simp only [hb', Bool.false_eq_true, if_false] at K2
        have o := tk_max G1
        simp (disch := omega) only [u_164_154, u_164_155, u_164_156, u_164_157, gI0, gIs, gR0, gRs, gF0, gFs, st0, st_i, st_r, st_f, st_n, st_s, true_and, and_true, ↓ifLeT, ↓ifLeF, ↓ifLtT, ↓ifLtF, ↓ifEqT, ↓ifEqF, if_tt, if_ff, if_pos, if_neg, nLe, nLt, nEq, nInT, nCl, pk_mul, nI_add, Nat.reduceAdd, s_cat_nil, s_cat_i, s_cat_r, s_cat_f, s_cat_l, tl_s, tl_n, cat_i, cat_r, cat_f, nb0, nb1, nbI, if_bI, if_bIr, Nat.zero_le, Nat.reduceLeDiff, M_rw rb322]
        exact tb_125 (d := d) hT o rfl fun m' f e => K2 trivial m' (frW_t (frW_R f1) (frW_t frW_5 (frW_t frW_A f))) o e (TT_W (frW_t frW_5 (frW_t frW_A f)) G1.1)
end MTK2
/-! the draft with a task more -/
theorem RD_T {m m' : tM} {y : tY} {w v u b : Int32} (hC : yC y ≤ 4) (hT : yT y < 8) (hR : RD m y) (hf : frW m m') (hA : kA m' 322 = upd (upd (upd (upd (upd (upd (kA m 322) (50 + 7 * yT y + 0) w) (50 + 7 * yT y + 1) v) (50 + 7 * yT y + 2) u) (50 + 7 * yT y + 3) (nI 0)) (50 + 7 * yT y + 3) b) 1 (nI (yT y + 1))) : RD m' (addT y w v u b) := by
  obtain ⟨r1, r2, r3, r4, rc, rt, r5, r6, r7⟩ := hR
  have e : addT y w v u b = uT (uA (uA (uA (uA (uA (uA (uA y 12 (upd (yA y 12) (yT y) w)) 13 (upd (yA y 13) (yT y) v)) 14 (upd (yA y 14) (yT y) u)) 15 (upd (yA y 15) (yT y) b)) 16 (upd (yA y 16) (yT y) (nI 0))) 17 (upd (yA y 17) (yT y) (-1))) 18 (upd (yA y 18) (yT y) (-1))) (yT y + 1) := if_pos hT
  have ne : ∀ j, j ≠ 1 → j ≠ 50 + 7 * yT y + 0 → j ≠ 50 + 7 * yT y + 1 → j ≠ 50 + 7 * yT y + 2 → j ≠ 50 + 7 * yT y + 3 → kA m' 322 j = kA m 322 j := fun j a b c d f => by
    rw [hA, upd_ne a, upd_ne f, upd_ne f, upd_ne d, upd_ne c, upd_ne b]
  rw [e]
  refine ⟨(hf.1 14 (by decide) (by decide) (by decide) (by decide) (by decide)).trans r1, (hf.1 15 (by decide) (by decide) (by decide) (by decide) (by decide)).trans r2, (hf.1 16 (by decide) (by decide) (by decide) (by decide) (by decide)).trans r3, by rw [hA]; exact if_pos rfl, fun c hc => ?_, fun t ht => ?_, fun c i hc hi hi3 => (ne _ (by omega) (by omega) (by omega) (by omega) (by omega)).trans (r5 c i hc hi hi3), fun t ht => (ne _ (by omega) (by omega) (by omega) (by omega) (by omega)).trans (r6 t ht), (ne _ (by omega) (by omega) (by omega) (by omega) (by omega)).trans r7⟩
  · have hc : c < yC y := hc
    obtain ⟨a1, a2, a3⟩ := rc c hc
    exact ⟨(ne _ (by omega) (by omega) (by omega) (by omega) (by omega)).trans a1, by rw [hf.2.2 321 (by decide)]; exact a2, a3⟩
  · have ht : t < yT y + 1 := ht
    show _ = upd (yA y 12) (yT y) w t ∧ _ = upd (yA y 13) (yT y) v t ∧ _ = upd (yA y 14) (yT y) u t ∧ _ = upd (yA y 15) (yT y) b t ∧ upd (yA y 16) (yT y) (nI 0) t = _ ∧ upd (yA y 17) (yT y) (-1) t = _ ∧ upd (yA y 18) (yT y) (-1) t = _
    by_cases q : t = yT y
    · subst q
      simp only [upd_eq, hA, and_true]
      refine ⟨?_, ?_, ?_, ?_⟩
      · rw [upd_ne (by omega), upd_ne (by omega), upd_ne (by omega), upd_ne (by omega), upd_ne (by omega), upd_eq]
      · rw [upd_ne (by omega), upd_ne (by omega), upd_ne (by omega), upd_ne (by omega), upd_eq]
      · rw [upd_ne (by omega), upd_ne (by omega), upd_ne (by omega), upd_eq]
      · rw [upd_ne (by omega), upd_eq]
    · obtain ⟨a1, a2, a3, a4, a5, a6, a7⟩ := rt t (by omega)
      rw [upd_ne q, upd_ne q, upd_ne q, upd_ne q, upd_ne q, upd_ne q, upd_ne q]
      exact ⟨(ne _ (by omega) (by omega) (by omega) (by omega) (by omega)).trans a1, (ne _ (by omega) (by omega) (by omega) (by omega) (by omega)).trans a2, (ne _ (by omega) (by omega) (by omega) (by omega) (by omega)).trans a3, (ne _ (by omega) (by omega) (by omega) (by omega) (by omega)).trans a4, a5, a6, a7⟩
