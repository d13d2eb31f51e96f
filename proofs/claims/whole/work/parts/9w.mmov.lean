/-! the reference's reader: MOVES -/
def frV (m m' : tM) : Prop := (∀ k, k ≠ 3 → k ≠ 4 → k ≠ 5 → k ≠ 6 → k ≠ 7 → k ≠ 21 → kI m' k = kI m k) ∧ kB m' = kB m ∧ ∀ q, q ≠ 324 → kA m' q = kA m q
theorem frV_r {m : tM} : frV m m := ⟨fun _ _ _ _ _ _ _ => rfl, rfl, fun _ _ => rfl⟩
theorem frV_t {m m' m2 : tM} (h1 : frV m m') (h2 : frV m' m2) : frV m m2 := ⟨fun k a b c e f g => (h2.1 k a b c e f g).trans (h1.1 k a b c e f g), h2.2.1.trans h1.2.1, fun q a => (h2.2.2 q a).trans (h1.2.2 q a)⟩
theorem frV_R {m m' : tM} (h : frR m m') : frV m m' := ⟨fun k a b c e f _ => h.1 k a b c e f, congrArg (·.1) h.2, fun q _ => congrFun (congrArg (·.2.1) h.2) q⟩
theorem frV_I {m : tM} {k : Nat} {x : Int32} (hk : k = 5 ∨ k = 21) : frV m (xI m k x) := ⟨fun q a b c e f g => if_neg (by omega), rfl, fun _ _ => rfl⟩
theorem frV_A {m : tM} {f : Nat → Int32} : frV m (xA m 324 f) := ⟨fun _ _ _ _ _ _ _ => rfl, rfl, fun q h => if_neg h⟩
theorem frV_Z {m m' : tM} (h : frV m m') : frZ m m' := ⟨fun k hk => h.1 k (by unfold keyI at hk; omega) (by unfold keyI at hk; omega) (by unfold keyI at hk; omega) (by unfold keyI at hk; omega) (by unfold keyI at hk; omega) (by unfold keyI at hk; omega), h.2.1, fun q hq => h.2.2 q (by unfold keyA at hq; omega)⟩
theorem kA_R {m m' : tM} (h : frR m m') (q : Nat) : kA m' q = kA m q := congrFun (congrArg (·.2.1) h.2) q
theorem GD_A {m : tM} {t : tO} {f : Nat → Int32} (hG : GD m t) : GD (xA m 324 f) t := by
  obtain ⟨⟨a, b, c⟩, ok, tk, h5⟩ := hG
  exact ⟨⟨a, b, fun j hj => by rw [kA_ne (by decide)]; exact c j hj⟩, ok, tk, h5⟩
theorem GD_21 {m : tM} {t : tO} {x : Int32} (hG : GD m t) : GD (xI m 21 x) t := by
  obtain ⟨hT, ok, tk, h5⟩ := hG
  exact ⟨TT_I hT (by decide), ok, tk, h5⟩
section MMV
variable {d : Nat} {m : tM} {t : tO} {h : sH} {x : Int32} {Q : sQ} {C l : Nat}
theorem mv_line (hC : C ≤ 4) (hl : l < 40) : ∀ k c m t (g : Nat → Int32), c + k = C → kI m 10 = nI C → kI m 21 = nI l → GD m t → (∀ c', c' < c → kA m 324 (4 * l + c') = g c') → ((mvL k c t g).1 = true → ∀ m', frV m m' → kI m' 21 = nI l → GD m' (mvL k c t g).2.1 → (∀ c', c' < C → kA m' 324 (4 * l + c') = (mvL k c t g).2.2 c') → (∀ j, j < 4 * l → kA m' 324 j = kA m 324 j) → WP (d + 3) 171 72 [.ref 317, .int (nI 1), .int (nI C)] [] (pM m' h) (0, 0) Q) → ((mvL k c t g).1 = false → ∀ m' v, frV m m' → kI m' 21 = nI l → TT m' (mvL k c t g).2.1 → eN (mvL k c t g).2.1 2 ≤ 400 → kI m' 5 = nI (eN (mvL k c t g).2.1 2) → WP (d + 3) 171 72 [.ref 317, .int (nI 1), .int v] [] (pM m' h) (0, 0) Q) → WP (d + 3) 171 30 [.ref 317, .int (nI 1), .int (nI c)] [] (pM m h) (0, 0) Q := by
  intro k
  induction k with
  | zero =>
    intro c m t g hc h10 h21 hG hg K1 _
    have e : c = C := by omega
    subst e
    rw [u_171_30]
    simp (disch := omega) only [u_171_0, u_171_1, u_171_4, u_171_5, u_171_6, u_171_9, u_171_10, u_171_12, u_171_15, u_171_16, u_171_19, u_171_21, u_171_24, u_171_25, u_171_28, u_171_29, u_171_31, u_171_32, u_171_35, u_171_38, u_171_39, u_171_42, u_171_43, u_171_46, u_171_47, u_171_50, u_171_51, u_171_52, u_171_55, u_171_56, u_171_57, u_171_58, u_171_59, u_171_60, u_171_62, u_171_65, u_171_66, u_171_69, u_171_73, u_171_74, u_171_77, u_171_78, u_171_81, u_171_82, u_171_85, u_171_86, u_171_89, u_171_90, u_171_91, u_171_94, u_171_95, u_171_98, u_171_99, u_171_102, u_171_103, u_171_106, u_171_107, u_171_110, gI0, gIs, gR0, gRs, gF0, gFs, st0, st_i, st_r, st_f, st_n, st_s, true_and, and_true, ↓ifLeT, ↓ifLeF, ↓ifLtT, ↓ifLtF, ↓ifEqT, ↓ifEqF, if_tt, if_ff, if_pos, if_neg, nLe, nLt, nEq, nInT, nCl, pk_mul, nI_add, Nat.reduceAdd, s_cat_nil, s_cat_i, s_cat_r, s_cat_f, s_cat_l, tl_s, tl_n, cat_i, cat_r, cat_f, nb0, nb1, nbI, if_bI, if_bIr, Nat.zero_le, Nat.reduceLeDiff, M_g0, M_g1, M_g2, M_g3, M_g4, M_g5, M_g6, M_g7, M_g8, M_g9, M_g10, M_g11, M_g12, M_g13, M_g14, M_g15, M_g16, M_g17, M_g18, M_g19, M_g20, M_g21, M_g22, M_g23, M_g24, M_g25, M_g26, M_g27, M_g28, M_g29, M_g30, M_g31, M_g32, M_g33, M_g34, M_g35, M_g36, M_g37, M_g38, M_g39, M_g40, M_g41, h10]
    exact K1 rfl m frV_r h21 hG hg fun _ _ => rfl
  | succ k ih =>
    intro c m t g hc h10 h21 hG hg K1 K2
    have h5 := hG.2.2.2
    have i1 : vp_in (nI (4 * l + c)) 160 := (nIn (by omega)).mpr (by omega)
    have c1 : (nI (4 * l + c)).toNatClampNeg = 4 * l + c := nCl (by omega)
    have o : eN t 2 ≤ 400 := by have := hG.2.1; have := this.1; have := hG.2.1.2.1; have := hG.2.1.2.2; omega
    rw [mvL] at K1 K2
    rw [u_171_30]
    simp (disch := omega) only [u_171_0, u_171_1, u_171_4, u_171_5, u_171_6, u_171_9, u_171_10, u_171_12, u_171_15, u_171_16, u_171_19, u_171_21, u_171_24, u_171_25, u_171_28, u_171_29, u_171_31, u_171_32, u_171_35, u_171_38, u_171_39, u_171_42, u_171_43, u_171_46, u_171_47, u_171_50, u_171_51, u_171_52, u_171_55, u_171_56, u_171_57, u_171_58, u_171_59, u_171_60, u_171_62, u_171_65, u_171_66, u_171_69, u_171_73, u_171_74, u_171_77, u_171_78, u_171_81, u_171_82, u_171_85, u_171_86, u_171_89, u_171_90, u_171_91, u_171_94, u_171_95, u_171_98, u_171_99, u_171_102, u_171_103, u_171_106, u_171_107, u_171_110, gI0, gIs, gR0, gRs, gF0, gFs, st0, st_i, st_r, st_f, st_n, st_s, true_and, and_true, ↓ifLeT, ↓ifLeF, ↓ifLtT, ↓ifLtF, ↓ifEqT, ↓ifEqF, if_tt, if_ff, if_pos, if_neg, nLe, nLt, nEq, nInT, nCl, pk_mul, nI_add, Nat.reduceAdd, s_cat_nil, s_cat_i, s_cat_r, s_cat_f, s_cat_l, tl_s, tl_n, cat_i, cat_r, cat_f, nb0, nb1, nbI, if_bI, if_bIr, Nat.zero_le, Nat.reduceLeDiff, M_ob, M_g0, M_g1, M_g2, M_g3, M_g4, M_g5, M_g6, M_g7, M_g8, M_g9, M_g10, M_g11, M_g12, M_g13, M_g14, M_g15, M_g16, M_g17, M_g18, M_g19, M_g20, M_g21, M_g22, M_g23, M_g24, M_g25, M_g26, M_g27, M_g28, M_g29, M_g30, M_g31, M_g32, M_g33, M_g34, M_g35, M_g36, M_g37, M_g38, M_g39, M_g40, M_g41, h10, h21, h5, reduceIte]
    refine r_num (d := d) hG (by decide) (fun hb m1 f1 g1 => ?_) fun hb => ?_
    · have hb' : isNB t (nI 0) (nI 99) = true := hb
      simp only [hb', if_true] at K1 K2
      simp (disch := omega) only [u_171_0, u_171_1, u_171_4, u_171_5, u_171_6, u_171_9, u_171_10, u_171_12, u_171_15, u_171_16, u_171_19, u_171_21, u_171_24, u_171_25, u_171_28, u_171_29, u_171_31, u_171_32, u_171_35, u_171_38, u_171_39, u_171_42, u_171_43, u_171_46, u_171_47, u_171_50, u_171_51, u_171_52, u_171_55, u_171_56, u_171_57, u_171_58, u_171_59, u_171_60, u_171_62, u_171_65, u_171_66, u_171_69, u_171_73, u_171_74, u_171_77, u_171_78, u_171_81, u_171_82, u_171_85, u_171_86, u_171_89, u_171_90, u_171_91, u_171_94, u_171_95, u_171_98, u_171_99, u_171_102, u_171_103, u_171_106, u_171_107, u_171_110, gI0, gIs, gR0, gRs, gF0, gFs, st0, st_i, st_r, st_f, st_n, st_s, true_and, and_true, ↓ifLeT, ↓ifLeF, ↓ifLtT, ↓ifLtF, ↓ifEqT, ↓ifEqF, if_tt, if_ff, if_pos, if_neg, nLe, nLt, nEq, nInT, nCl, pk_mul, nI_add, Nat.reduceAdd, s_cat_nil, s_cat_i, s_cat_r, s_cat_f, s_cat_l, tl_s, tl_n, cat_i, cat_r, cat_f, nb0, nb1, nbI, if_bI, if_bIr, Nat.zero_le, Nat.reduceLeDiff, M_w324, i1, c1]
      have fv : frV m (xA m1 324 (upd (kA m1 324) (4 * l + c) (eI t 4))) := frV_t (frV_R f1) frV_A
      refine ih (c + 1) _ (advT t) (upd g c (eI t 4)) (by omega) ((f1.1 10 (by decide) (by decide) (by decide) (by decide) (by decide)).trans h10) ((f1.1 21 (by decide) (by decide) (by decide) (by decide) (by decide)).trans h21) (GD_A g1) (fun c' hc' => ?_) (fun e m' f e21 G r1 r2 => K1 e m' (frV_t fv f) e21 G r1 fun j hj => ?_) (fun e m' v f e21 T o2 e5 => K2 e m' v (frV_t fv f) e21 T o2 e5)
      · rw [kA_eq, kA_R f1]
        by_cases e : c' = c
        · subst e
          show (if _ then _ else _) = (if _ then _ else _)
          rw [if_pos rfl, if_pos rfl]
        · rw [upd_ne (by omega), upd_ne e]
          exact hg c' (by omega)
      · rw [r2 j hj, kA_eq, upd_ne (by omega), kA_R f1]
    · have hb' : isNB t (nI 0) (nI 99) = false := hb
      simp only [hb', Bool.false_eq_true, if_false] at K1 K2
      have n5 := m1_ne (j := eN t 2) (by omega)
      simp (disch := omega) only [u_171_0, u_171_1, u_171_4, u_171_5, u_171_6, u_171_9, u_171_10, u_171_12, u_171_15, u_171_16, u_171_19, u_171_21, u_171_24, u_171_25, u_171_28, u_171_29, u_171_31, u_171_32, u_171_35, u_171_38, u_171_39, u_171_42, u_171_43, u_171_46, u_171_47, u_171_50, u_171_51, u_171_52, u_171_55, u_171_56, u_171_57, u_171_58, u_171_59, u_171_60, u_171_62, u_171_65, u_171_66, u_171_69, u_171_73, u_171_74, u_171_77, u_171_78, u_171_81, u_171_82, u_171_85, u_171_86, u_171_89, u_171_90, u_171_91, u_171_94, u_171_95, u_171_98, u_171_99, u_171_102, u_171_103, u_171_106, u_171_107, u_171_110, gI0, gIs, gR0, gRs, gF0, gFs, st0, st_i, st_r, st_f, st_n, st_s, true_and, and_true, ↓ifLeT, ↓ifLeF, ↓ifLtT, ↓ifLtF, ↓ifEqT, ↓ifEqF, if_tt, if_ff, if_pos, if_neg, nLe, nLt, nEq, nInT, nCl, pk_mul, nI_add, Nat.reduceAdd, s_cat_nil, s_cat_i, s_cat_r, s_cat_f, s_cat_l, tl_s, tl_n, cat_i, cat_r, cat_f, nb0, nb1, nbI, if_bI, if_bIr, Nat.zero_le, Nat.reduceLeDiff, M_w324, i1, c1]
      rw [u_171_30]
      have k10 : kI (xA (xI m 5 (nI (eN t 2))) 324 (upd (kA (xI m 5 (nI (eN t 2))) 324) (4 * l + c) (nI 0))) 10 = nI C := h10
      have k5 : kI (xA (xI m 5 (nI (eN t 2))) 324 (upd (kA (xI m 5 (nI (eN t 2))) 324) (4 * l + c) (nI 0))) 5 = nI (eN t 2) := rfl
      have fin := K2 trivial (xA (xI m 5 (nI (eN t 2))) 324 (upd (kA (xI m 5 (nI (eN t 2))) 324) (4 * l + c) (nI 0))) (nI (c + 1)) (frV_t (frV_I (Or.inl rfl)) frV_A) h21 ⟨hG.1.1, hG.1.2.1, fun j hj => by rw [kA_ne (by decide)]; exact hG.1.2.2 j hj⟩ o rfl
      by_cases e : c + 1 < C
      · simp (disch := omega) only [u_171_0, u_171_1, u_171_4, u_171_5, u_171_6, u_171_9, u_171_10, u_171_12, u_171_15, u_171_16, u_171_19, u_171_21, u_171_24, u_171_25, u_171_28, u_171_29, u_171_31, u_171_32, u_171_35, u_171_38, u_171_39, u_171_42, u_171_43, u_171_46, u_171_47, u_171_50, u_171_51, u_171_52, u_171_55, u_171_56, u_171_57, u_171_58, u_171_59, u_171_60, u_171_62, u_171_65, u_171_66, u_171_69, u_171_73, u_171_74, u_171_77, u_171_78, u_171_81, u_171_82, u_171_85, u_171_86, u_171_89, u_171_90, u_171_91, u_171_94, u_171_95, u_171_98, u_171_99, u_171_102, u_171_103, u_171_106, u_171_107, u_171_110, gI0, gIs, gR0, gRs, gF0, gFs, st0, st_i, st_r, st_f, st_n, st_s, true_and, and_true, ↓ifLeT, ↓ifLeF, ↓ifLtT, ↓ifLtF, ↓ifEqT, ↓ifEqF, if_tt, if_ff, if_pos, if_neg, nLe, nLt, nEq, nInT, nCl, pk_mul, nI_add, Nat.reduceAdd, s_cat_nil, s_cat_i, s_cat_r, s_cat_f, s_cat_l, tl_s, tl_n, cat_i, cat_r, cat_f, nb0, nb1, nbI, if_bI, if_bIr, Nat.zero_le, Nat.reduceLeDiff, M_g0, M_g1, M_g2, M_g3, M_g4, M_g5, M_g6, M_g7, M_g8, M_g9, M_g10, M_g11, M_g12, M_g13, M_g14, M_g15, M_g16, M_g17, M_g18, M_g19, M_g20, M_g21, M_g22, M_g23, M_g24, M_g25, M_g26, M_g27, M_g28, M_g29, M_g30, M_g31, M_g32, M_g33, M_g34, M_g35, M_g36, M_g37, M_g38, M_g39, M_g40, M_g41, k10, k5, n5, reduceIte]
        exact fin
      · have e : C ≤ c + 1 := by omega
        simp (disch := omega) only [u_171_0, u_171_1, u_171_4, u_171_5, u_171_6, u_171_9, u_171_10, u_171_12, u_171_15, u_171_16, u_171_19, u_171_21, u_171_24, u_171_25, u_171_28, u_171_29, u_171_31, u_171_32, u_171_35, u_171_38, u_171_39, u_171_42, u_171_43, u_171_46, u_171_47, u_171_50, u_171_51, u_171_52, u_171_55, u_171_56, u_171_57, u_171_58, u_171_59, u_171_60, u_171_62, u_171_65, u_171_66, u_171_69, u_171_73, u_171_74, u_171_77, u_171_78, u_171_81, u_171_82, u_171_85, u_171_86, u_171_89, u_171_90, u_171_91, u_171_94, u_171_95, u_171_98, u_171_99, u_171_102, u_171_103, u_171_106, u_171_107, u_171_110, gI0, gIs, gR0, gRs, gF0, gFs, st0, st_i, st_r, st_f, st_n, st_s, true_and, and_true, ↓ifLeT, ↓ifLeF, ↓ifLtT, ↓ifLtF, ↓ifEqT, ↓ifEqF, if_tt, if_ff, if_pos, if_neg, nLe, nLt, nEq, nInT, nCl, pk_mul, nI_add, Nat.reduceAdd, s_cat_nil, s_cat_i, s_cat_r, s_cat_f, s_cat_l, tl_s, tl_n, cat_i, cat_r, cat_f, nb0, nb1, nbI, if_bI, if_bIr, Nat.zero_le, Nat.reduceLeDiff, M_g0, M_g1, M_g2, M_g3, M_g4, M_g5, M_g6, M_g7, M_g8, M_g9, M_g10, M_g11, M_g12, M_g13, M_g14, M_g15, M_g16, M_g17, M_g18, M_g19, M_g20, M_g21, M_g22, M_g23, M_g24, M_g25, M_g26, M_g27, M_g28, M_g29, M_g30, M_g31, M_g32, M_g33, M_g34, M_g35, M_g36, M_g37, M_g38, M_g39, M_g40, M_g41, k10]
        exact fin
end MMV
