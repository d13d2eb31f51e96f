/-! the reference's calls that go on in time -/
section MD
variable {b d : Nat} {m : tM} {h : sH} {i x y w c t v : Int32} {Q : sQ} {n : tN} {z : tQ} {k : sK}
/-- one minute more of the row 329 -/
theorem r_min1 {k : Nat} (hn : wfN n) (hg : MG m n) (hr : RR (kA m 329) (runN k n)) (K : ∀ m', frM 329 m m' → MG m' n → RR (kA m' 329) (runN (k + 1) n) → (∀ c, c < nF n 2 → kA m' 327 c = nI (nDeed (runN k n) c)) → Q none (pM m' h)) : MT (d + 8) 189 [.ref 317, .ref 329] (pM m h) Q := by
  have hgk : MG m (runN k n) := by
    obtain ⟨g1, g2, g3, g4⟩ := hg
    have e8 : nA (runN k n) 8 = nA n 8 := run_A (by decide) (by decide) k
    exact ⟨by rw [run_F (by decide)]; exact g1, by rw [run_F (by decide)]; exact g2, by rw [run_F (by decide)]; exact g3, fun c hc => by rw [e8]; exact g4 c (by rw [run_F (by decide)] at hc; exact hc)⟩
  refine r_minute (d := d) rb329 (wf_run hn k) hgk hr fun m1 f1 r1 d1 => K m1 f1 (MG_fr rb329 hg f1) (by rw [run_succ]; exact r1) fun c hc => d1 c (by rw [run_F (by decide)]; exact hc)
theorem md_deeds {j v N : Nat} (hn : wfN n) (hj : j < nF n 2) (hv : v < 5) (hN : N ≤ 300) : ∀ q k m, k + q = N → MG m n → RR (kA m 329) (runN k n) → (∀ m', frM 329 m m' → Q (some (.int (nI (sumN (fun i => (decide (nDeed (runN i n) j = v)).toNat) N)))) (pM m' h)) → WP (d + 8) 213 56 [.ref 317, .int (nI j), .int (nI N), .int (nI v), .int (nI (sumN (fun i => (decide (nDeed (runN i n) j = v)).toNat) k)), .int (nI k)] [] (pM m h) (0, 0) Q := by
  intro q
  have h4 := hn.1.1
  have i4 : vp_in (nI j) 4 := (nIn (by omega)).mpr (by omega)
  induction q with
  | zero =>
    intro k m hk hg hr K
    have e : k = N := by omega
    subst e
    rw [u_213_56]
    simp (disch := omega) only [u_213_0, u_213_1, u_213_2, u_213_5, u_213_6, u_213_7, u_213_10, u_213_13, u_213_14, u_213_15, u_213_16, u_213_19, u_213_22, u_213_25, u_213_26, u_213_27, u_213_28, u_213_31, u_213_34, u_213_37, u_213_38, u_213_39, u_213_40, u_213_43, u_213_44, u_213_47, u_213_50, u_213_51, u_213_53, u_213_54, u_213_58, u_213_59, u_213_62, u_213_63, u_213_64, u_213_67, u_213_70, u_213_72, u_213_73, u_213_76, u_213_77, u_213_78, u_213_79, u_213_82, u_213_83, u_213_86, u_213_87, u_213_88, u_213_90, u_213_93, u_213_96, u_213_98, gI0, gIs, gR0, gRs, gF0, gFs, st0, st_i, st_r, st_f, st_n, st_s, true_and, and_true, ↓ifLeT, ↓ifLeF, ↓ifLtT, ↓ifLtF, ↓ifEqT, ↓ifEqF, if_tt, if_ff, if_pos, if_neg, nLe, nLt, nEq, nInT, nCl, pk_mul, nI_add, Nat.reduceAdd, s_cat_nil, s_cat_i, s_cat_r, s_cat_f, s_cat_l, tl_s, tl_n, cat_i, cat_r, cat_f, nb0, nb1, nbI, if_bI, if_bIr, Nat.zero_le, Nat.reduceLeDiff]
    exact K m frM_r
  | succ q ih =>
    intro k m hk hg hr K
    rw [u_213_56]
    simp (disch := omega) only [u_213_0, u_213_1, u_213_2, u_213_5, u_213_6, u_213_7, u_213_10, u_213_13, u_213_14, u_213_15, u_213_16, u_213_19, u_213_22, u_213_25, u_213_26, u_213_27, u_213_28, u_213_31, u_213_34, u_213_37, u_213_38, u_213_39, u_213_40, u_213_43, u_213_44, u_213_47, u_213_50, u_213_51, u_213_53, u_213_54, u_213_58, u_213_59, u_213_62, u_213_63, u_213_64, u_213_67, u_213_70, u_213_72, u_213_73, u_213_76, u_213_77, u_213_78, u_213_79, u_213_82, u_213_83, u_213_86, u_213_87, u_213_88, u_213_90, u_213_93, u_213_96, u_213_98, gI0, gIs, gR0, gRs, gF0, gFs, st0, st_i, st_r, st_f, st_n, st_s, true_and, and_true, ↓ifLeT, ↓ifLeF, ↓ifLtT, ↓ifLtF, ↓ifEqT, ↓ifEqF, if_tt, if_ff, if_pos, if_neg, nLe, nLt, nEq, nInT, nCl, pk_mul, nI_add, Nat.reduceAdd, s_cat_nil, s_cat_i, s_cat_r, s_cat_f, s_cat_l, tl_s, tl_n, cat_i, cat_r, cat_f, nb0, nb1, nbI, if_bI, if_bIr, Nat.zero_le, Nat.reduceLeDiff, M_ob, M_g0, M_g1, M_g2, M_g3, M_g4, M_g5, M_g6, M_g7, M_g8, M_g9, M_g10, M_g11, M_g12, M_g13, M_g14, M_g15, M_g16, M_g17, M_g18, M_g19, M_g20, M_g21, M_g22, M_g23, M_g24, M_g25, M_g26, M_g27, M_g28, M_g29, M_g30, M_g31, M_g32, M_g33, M_g34, M_g35, M_g36, M_g37, M_g38, M_g39, M_g40, M_g41]
    refine r_min1 (d := d) (k := k) hn hg hr fun m1 f1 hg1 r1 d1 => ?_
    have a1 := d1 j hj
    have l := jN_le (jN_mid (wf_run hn k).2.1) (c := j) (by rw [run_F (by decide)]; exact hj)
    have l : nDeed (runN k n) j ≤ 4 := l
    have go := ih (k + 1) m1 (by omega) hg1 r1 fun m' f2 => K m' (frM_t f1 f2)
    rw [sumN] at go
    by_cases e : nDeed (runN k n) j = v
    · rw [e] at a1
      rw [decide_eq_true e] at go
      simp (disch := omega) only [u_213_0, u_213_1, u_213_2, u_213_5, u_213_6, u_213_7, u_213_10, u_213_13, u_213_14, u_213_15, u_213_16, u_213_19, u_213_22, u_213_25, u_213_26, u_213_27, u_213_28, u_213_31, u_213_34, u_213_37, u_213_38, u_213_39, u_213_40, u_213_43, u_213_44, u_213_47, u_213_50, u_213_51, u_213_53, u_213_54, u_213_58, u_213_59, u_213_62, u_213_63, u_213_64, u_213_67, u_213_70, u_213_72, u_213_73, u_213_76, u_213_77, u_213_78, u_213_79, u_213_82, u_213_83, u_213_86, u_213_87, u_213_88, u_213_90, u_213_93, u_213_96, u_213_98, gI0, gIs, gR0, gRs, gF0, gFs, st0, st_i, st_r, st_f, st_n, st_s, true_and, and_true, ↓ifLeT, ↓ifLeF, ↓ifLtT, ↓ifLtF, ↓ifEqT, ↓ifEqF, if_tt, if_ff, if_pos, if_neg, nLe, nLt, nEq, nInT, nCl, pk_mul, nI_add, Nat.reduceAdd, s_cat_nil, s_cat_i, s_cat_r, s_cat_f, s_cat_l, tl_s, tl_n, cat_i, cat_r, cat_f, nb0, nb1, nbI, if_bI, if_bIr, Nat.zero_le, Nat.reduceLeDiff, M_ob, M_g0, M_g1, M_g2, M_g3, M_g4, M_g5, M_g6, M_g7, M_g8, M_g9, M_g10, M_g11, M_g12, M_g13, M_g14, M_g15, M_g16, M_g17, M_g18, M_g19, M_g20, M_g21, M_g22, M_g23, M_g24, M_g25, M_g26, M_g27, M_g28, M_g29, M_g30, M_g31, M_g32, M_g33, M_g34, M_g35, M_g36, M_g37, M_g38, M_g39, M_g40, M_g41, M_a327, i4, a1]
      exact go
    · have ne : ¬ nI (nDeed (runN k n) j) = nI v := fun q => e ((nI_eq (by omega) (by omega)).mp q)
      rw [decide_eq_false e] at go
      simp (disch := omega) only [u_213_0, u_213_1, u_213_2, u_213_5, u_213_6, u_213_7, u_213_10, u_213_13, u_213_14, u_213_15, u_213_16, u_213_19, u_213_22, u_213_25, u_213_26, u_213_27, u_213_28, u_213_31, u_213_34, u_213_37, u_213_38, u_213_39, u_213_40, u_213_43, u_213_44, u_213_47, u_213_50, u_213_51, u_213_53, u_213_54, u_213_58, u_213_59, u_213_62, u_213_63, u_213_64, u_213_67, u_213_70, u_213_72, u_213_73, u_213_76, u_213_77, u_213_78, u_213_79, u_213_82, u_213_83, u_213_86, u_213_87, u_213_88, u_213_90, u_213_93, u_213_96, u_213_98, gI0, gIs, gR0, gRs, gF0, gFs, st0, st_i, st_r, st_f, st_n, st_s, true_and, and_true, ↓ifLeT, ↓ifLeF, ↓ifLtT, ↓ifLtF, ↓ifEqT, ↓ifEqF, if_tt, if_ff, if_pos, if_neg, nLe, nLt, nEq, nInT, nCl, pk_mul, nI_add, Nat.reduceAdd, s_cat_nil, s_cat_i, s_cat_r, s_cat_f, s_cat_l, tl_s, tl_n, cat_i, cat_r, cat_f, nb0, nb1, nbI, if_bI, if_bIr, Nat.zero_le, Nat.reduceLeDiff, M_ob, M_g0, M_g1, M_g2, M_g3, M_g4, M_g5, M_g6, M_g7, M_g8, M_g9, M_g10, M_g11, M_g12, M_g13, M_g14, M_g15, M_g16, M_g17, M_g18, M_g19, M_g20, M_g21, M_g22, M_g23, M_g24, M_g25, M_g26, M_g27, M_g28, M_g29, M_g30, M_g31, M_g32, M_g33, M_g34, M_g35, M_g36, M_g37, M_g38, M_g39, M_g40, M_g41, M_a327, i4, a1, ne, reduceIte]
      exact go
theorem z_deeds (hm : RM m z) (K : ∀ m', RM m' z → Q (some (.int (zdeeds z c x w))) (pM m' h)) : MT (d + 10) 213 [.ref 317, .int c, .int x, .int w] (pM m h) Q := by
  rw [MT_go (by decide) _ _ _ (Nat.le_of_ble_eq_true rfl), show s_entry 213 [.ref 317, .int c, .int x, .int w] = [.ref 317, .int c, .int x, .int w, s_no, s_no] from rfl]
  have hm0 := RM_0 (x := nI 0) hm
  have e1 := fun Q => z_isC (d := d + 7) (h := h) (Q := Q) (x := c) hm0
  unfold zdeeds at K
  cases hq : zQ z with
  | none =>
    simp only [hq] at K
    rw [zC_0 hq, ix_0] at e1
    simp (disch := omega) only [u_213_0, u_213_1, u_213_2, u_213_5, u_213_6, u_213_7, u_213_10, u_213_13, u_213_14, u_213_15, u_213_16, u_213_19, u_213_22, u_213_25, u_213_26, u_213_27, u_213_28, u_213_31, u_213_34, u_213_37, u_213_38, u_213_39, u_213_40, u_213_43, u_213_44, u_213_47, u_213_50, u_213_51, u_213_53, u_213_54, u_213_58, u_213_59, u_213_62, u_213_63, u_213_64, u_213_67, u_213_70, u_213_72, u_213_73, u_213_76, u_213_77, u_213_78, u_213_79, u_213_82, u_213_83, u_213_86, u_213_87, u_213_88, u_213_90, u_213_93, u_213_96, u_213_98, gI0, gIs, gR0, gRs, gF0, gFs, st0, st_i, st_r, st_f, st_n, st_s, true_and, and_true, ↓ifLeT, ↓ifLeF, ↓ifLtT, ↓ifLtF, ↓ifEqT, ↓ifEqF, if_tt, if_ff, if_pos, if_neg, nLe, nLt, nEq, nInT, nCl, pk_mul, nI_add, Nat.reduceAdd, s_cat_nil, s_cat_i, s_cat_r, s_cat_f, s_cat_l, tl_s, tl_n, cat_i, cat_r, cat_f, nb0, nb1, nbI, if_bI, if_bIr, Nat.zero_le, Nat.reduceLeDiff, M_ob, M_s0, e1, Option.isSome, iBf]
    exact K _ hm0
  | some n =>
    simp only [hq] at K
    rw [zC_s hq] at e1
    obtain ⟨hg, hr, hok⟩ := RM_q hm0 hq
    have h4 := hok.1.1.1
    cases h1 : ixN c (nF n 2) with
    | none =>
      rw [h1] at e1
      simp only [h1] at K
      simp (disch := omega) only [u_213_0, u_213_1, u_213_2, u_213_5, u_213_6, u_213_7, u_213_10, u_213_13, u_213_14, u_213_15, u_213_16, u_213_19, u_213_22, u_213_25, u_213_26, u_213_27, u_213_28, u_213_31, u_213_34, u_213_37, u_213_38, u_213_39, u_213_40, u_213_43, u_213_44, u_213_47, u_213_50, u_213_51, u_213_53, u_213_54, u_213_58, u_213_59, u_213_62, u_213_63, u_213_64, u_213_67, u_213_70, u_213_72, u_213_73, u_213_76, u_213_77, u_213_78, u_213_79, u_213_82, u_213_83, u_213_86, u_213_87, u_213_88, u_213_90, u_213_93, u_213_96, u_213_98, gI0, gIs, gR0, gRs, gF0, gFs, st0, st_i, st_r, st_f, st_n, st_s, true_and, and_true, ↓ifLeT, ↓ifLeF, ↓ifLtT, ↓ifLtF, ↓ifEqT, ↓ifEqF, if_tt, if_ff, if_pos, if_neg, nLe, nLt, nEq, nInT, nCl, pk_mul, nI_add, Nat.reduceAdd, s_cat_nil, s_cat_i, s_cat_r, s_cat_f, s_cat_l, tl_s, tl_n, cat_i, cat_r, cat_f, nb0, nb1, nbI, if_bI, if_bIr, Nat.zero_le, Nat.reduceLeDiff, M_ob, M_s0, e1, Option.isSome, iBf]
      exact K _ hm0
    | some j =>
      rw [h1] at e1
      cases h2 : ixN x 301 with
      | none =>
        simp only [h1, h2] at K
        simp (disch := omega) only [u_213_0, u_213_1, u_213_2, u_213_5, u_213_6, u_213_7, u_213_10, u_213_13, u_213_14, u_213_15, u_213_16, u_213_19, u_213_22, u_213_25, u_213_26, u_213_27, u_213_28, u_213_31, u_213_34, u_213_37, u_213_38, u_213_39, u_213_40, u_213_43, u_213_44, u_213_47, u_213_50, u_213_51, u_213_53, u_213_54, u_213_58, u_213_59, u_213_62, u_213_63, u_213_64, u_213_67, u_213_70, u_213_72, u_213_73, u_213_76, u_213_77, u_213_78, u_213_79, u_213_82, u_213_83, u_213_86, u_213_87, u_213_88, u_213_90, u_213_93, u_213_96, u_213_98, gI0, gIs, gR0, gRs, gF0, gFs, st0, st_i, st_r, st_f, st_n, st_s, true_and, and_true, ↓ifLeT, ↓ifLeF, ↓ifLtT, ↓ifLtF, ↓ifEqT, ↓ifEqF, if_tt, if_ff, if_pos, if_neg, nLe, nLt, nEq, nInT, nCl, pk_mul, nI_add, Nat.reduceAdd, s_cat_nil, s_cat_i, s_cat_r, s_cat_f, s_cat_l, tl_s, tl_n, cat_i, cat_r, cat_f, nb0, nb1, nbI, if_bI, if_bIr, Nat.zero_le, Nat.reduceLeDiff, M_ob, M_s0, e1, in301, h2, Option.isSome, iBt, iBf, nI10, reduceIte]
        exact K _ hm0
      | some k =>
        cases h3 : ixN w 5 with
        | none =>
          simp only [h1, h2, h3] at K
          simp (disch := omega) only [u_213_0, u_213_1, u_213_2, u_213_5, u_213_6, u_213_7, u_213_10, u_213_13, u_213_14, u_213_15, u_213_16, u_213_19, u_213_22, u_213_25, u_213_26, u_213_27, u_213_28, u_213_31, u_213_34, u_213_37, u_213_38, u_213_39, u_213_40, u_213_43, u_213_44, u_213_47, u_213_50, u_213_51, u_213_53, u_213_54, u_213_58, u_213_59, u_213_62, u_213_63, u_213_64, u_213_67, u_213_70, u_213_72, u_213_73, u_213_76, u_213_77, u_213_78, u_213_79, u_213_82, u_213_83, u_213_86, u_213_87, u_213_88, u_213_90, u_213_93, u_213_96, u_213_98, gI0, gIs, gR0, gRs, gF0, gFs, st0, st_i, st_r, st_f, st_n, st_s, true_and, and_true, ↓ifLeT, ↓ifLeF, ↓ifLtT, ↓ifLtF, ↓ifEqT, ↓ifEqF, if_tt, if_ff, if_pos, if_neg, nLe, nLt, nEq, nInT, nCl, pk_mul, nI_add, Nat.reduceAdd, s_cat_nil, s_cat_i, s_cat_r, s_cat_f, s_cat_l, tl_s, tl_n, cat_i, cat_r, cat_f, nb0, nb1, nbI, if_bI, if_bIr, Nat.zero_le, Nat.reduceLeDiff, M_ob, M_s0, e1, in301, in5, h2, h3, Option.isSome, iBt, iBf, nI10, reduceIte]
          exact K _ hm0
        | some v =>
          simp only [h1, h2, h3] at K
          obtain ⟨j1, rfl⟩ := ix_some (by omega) h1
          obtain ⟨k1, rfl⟩ := ix_some (by omega) h2
          obtain ⟨v1, rfl⟩ := ix_some (by omega) h3
          simp (disch := omega) only [u_213_0, u_213_1, u_213_2, u_213_5, u_213_6, u_213_7, u_213_10, u_213_13, u_213_14, u_213_15, u_213_16, u_213_19, u_213_22, u_213_25, u_213_26, u_213_27, u_213_28, u_213_31, u_213_34, u_213_37, u_213_38, u_213_39, u_213_40, u_213_43, u_213_44, u_213_47, u_213_50, u_213_51, u_213_53, u_213_54, u_213_58, u_213_59, u_213_62, u_213_63, u_213_64, u_213_67, u_213_70, u_213_72, u_213_73, u_213_76, u_213_77, u_213_78, u_213_79, u_213_82, u_213_83, u_213_86, u_213_87, u_213_88, u_213_90, u_213_93, u_213_96, u_213_98, gI0, gIs, gR0, gRs, gF0, gFs, st0, st_i, st_r, st_f, st_n, st_s, true_and, and_true, ↓ifLeT, ↓ifLeF, ↓ifLtT, ↓ifLtF, ↓ifEqT, ↓ifEqF, if_tt, if_ff, if_pos, if_neg, nLe, nLt, nEq, nInT, nCl, pk_mul, nI_add, Nat.reduceAdd, s_cat_nil, s_cat_i, s_cat_r, s_cat_f, s_cat_l, tl_s, tl_n, cat_i, cat_r, cat_f, nb0, nb1, nbI, if_bI, if_bIr, Nat.zero_le, Nat.reduceLeDiff, M_ob, M_s0, M_g0, M_g1, M_g2, M_g3, M_g4, M_g5, M_g6, M_g7, M_g8, M_g9, M_g10, M_g11, M_g12, M_g13, M_g14, M_g15, M_g16, M_g17, M_g18, M_g19, M_g20, M_g21, M_g22, M_g23, M_g24, M_g25, M_g26, M_g27, M_g28, M_g29, M_g30, M_g31, M_g32, M_g33, M_g34, M_g35, M_g36, M_g37, M_g38, M_g39, M_g40, M_g41, e1, in301, in5, h2, h3, Option.isSome, iBt, nI10, reduceIte]
          refine r_copy rb320 rb329 (by decide) fun f hf => ?_
          simp (disch := omega) only [u_213_0, u_213_1, u_213_2, u_213_5, u_213_6, u_213_7, u_213_10, u_213_13, u_213_14, u_213_15, u_213_16, u_213_19, u_213_22, u_213_25, u_213_26, u_213_27, u_213_28, u_213_31, u_213_34, u_213_37, u_213_38, u_213_39, u_213_40, u_213_43, u_213_44, u_213_47, u_213_50, u_213_51, u_213_53, u_213_54, u_213_58, u_213_59, u_213_62, u_213_63, u_213_64, u_213_67, u_213_70, u_213_72, u_213_73, u_213_76, u_213_77, u_213_78, u_213_79, u_213_82, u_213_83, u_213_86, u_213_87, u_213_88, u_213_90, u_213_93, u_213_96, u_213_98, gI0, gIs, gR0, gRs, gF0, gFs, st0, st_i, st_r, st_f, st_n, st_s, true_and, and_true, ↓ifLeT, ↓ifLeF, ↓ifLtT, ↓ifLtF, ↓ifEqT, ↓ifEqF, if_tt, if_ff, if_pos, if_neg, nLe, nLt, nEq, nInT, nCl, pk_mul, nI_add, Nat.reduceAdd, s_cat_nil, s_cat_i, s_cat_r, s_cat_f, s_cat_l, tl_s, tl_n, cat_i, cat_r, cat_f, nb0, nb1, nbI, if_bI, if_bIr, Nat.zero_le, Nat.reduceLeDiff]
          exact md_deeds (d := d + 1) (v := v) hok.1 j1 v1 (by omega) k 0 _ (Nat.zero_add _) (MG_fr rb329 hg frM_b) (by rw [kA_eq]; exact RR_cong hok.1 hf hr) fun m' f2 => K m' (RM_fr (frZ_M (Or.inl rfl) (frM_t frM_b f2)) hm0)
theorem md_done {j : Nat} (hn : wfN n) (hj : j < nF n 3) : ∀ q k m, k + q = 301 → MG m n → RR (kA m 329) (runN k n) → (∀ m', frM 329 m m' → Q (some (.int (oI1 ((List.range' k q).find? (fun i => nDone (runN i n) j))))) (pM m' h)) → WP (d + 8) 214 28 [.ref 317, .int (nI j), .int (nI k)] [] (pM m h) (0, 0) Q := by
  intro q
  induction q with
  | zero =>
    intro k m hk hg hr K
    have e : k = 301 := by omega
    subst e
    rw [u_214_28]
    simp (disch := omega) only [u_214_0, u_214_1, u_214_2, u_214_5, u_214_6, u_214_7, u_214_10, u_214_13, u_214_14, u_214_15, u_214_16, u_214_19, u_214_20, u_214_23, u_214_26, u_214_27, u_214_29, u_214_32, u_214_35, u_214_36, u_214_39, u_214_40, u_214_43, u_214_46, u_214_47, u_214_48, u_214_49, u_214_50, u_214_53, u_214_56, u_214_59, u_214_62, u_214_63, gI0, gIs, gR0, gRs, gF0, gFs, st0, st_i, st_r, st_f, st_n, st_s, true_and, and_true, ↓ifLeT, ↓ifLeF, ↓ifLtT, ↓ifLtF, ↓ifEqT, ↓ifEqF, if_tt, if_ff, if_pos, if_neg, nLe, nLt, nEq, nInT, nCl, pk_mul, nI_add, Nat.reduceAdd, s_cat_nil, s_cat_i, s_cat_r, s_cat_f, s_cat_l, tl_s, tl_n, cat_i, cat_r, cat_f, nb0, nb1, nbI, if_bI, if_bIr, Nat.zero_le, Nat.reduceLeDiff]
    exact K m frM_r
  | succ q ih =>
    intro k m hk hg hr K
    have e1 := fun Q => r_done (d := d + 6) (h := h) (Q := Q) (t := j) rb329 (wf_run hn k) hr (by rw [run_F (by decide)]; exact hj)
    simp only [List.range'_succ, List.find?_cons] at K
    rw [u_214_28]
    cases hd : nDone (runN k n) j with
    | true =>
      rw [hd] at e1
      simp only [hd] at K
      simp (disch := omega) only [u_214_0, u_214_1, u_214_2, u_214_5, u_214_6, u_214_7, u_214_10, u_214_13, u_214_14, u_214_15, u_214_16, u_214_19, u_214_20, u_214_23, u_214_26, u_214_27, u_214_29, u_214_32, u_214_35, u_214_36, u_214_39, u_214_40, u_214_43, u_214_46, u_214_47, u_214_48, u_214_49, u_214_50, u_214_53, u_214_56, u_214_59, u_214_62, u_214_63, gI0, gIs, gR0, gRs, gF0, gFs, st0, st_i, st_r, st_f, st_n, st_s, true_and, and_true, ↓ifLeT, ↓ifLeF, ↓ifLtT, ↓ifLtF, ↓ifEqT, ↓ifEqF, if_tt, if_ff, if_pos, if_neg, nLe, nLt, nEq, nInT, nCl, pk_mul, nI_add, Nat.reduceAdd, s_cat_nil, s_cat_i, s_cat_r, s_cat_f, s_cat_l, tl_s, tl_n, cat_i, cat_r, cat_f, nb0, nb1, nbI, if_bI, if_bIr, Nat.zero_le, Nat.reduceLeDiff, M_g0, M_g1, M_g2, M_g3, M_g4, M_g5, M_g6, M_g7, M_g8, M_g9, M_g10, M_g11, M_g12, M_g13, M_g14, M_g15, M_g16, M_g17, M_g18, M_g19, M_g20, M_g21, M_g22, M_g23, M_g24, M_g25, M_g26, M_g27, M_g28, M_g29, M_g30, M_g31, M_g32, M_g33, M_g34, M_g35, M_g36, M_g37, M_g38, M_g39, M_g40, M_g41, e1, iBt, nI10, reduceIte]
      exact K m frM_r
    | false =>
      rw [hd] at e1
      simp only [hd] at K
      simp (disch := omega) only [u_214_0, u_214_1, u_214_2, u_214_5, u_214_6, u_214_7, u_214_10, u_214_13, u_214_14, u_214_15, u_214_16, u_214_19, u_214_20, u_214_23, u_214_26, u_214_27, u_214_29, u_214_32, u_214_35, u_214_36, u_214_39, u_214_40, u_214_43, u_214_46, u_214_47, u_214_48, u_214_49, u_214_50, u_214_53, u_214_56, u_214_59, u_214_62, u_214_63, gI0, gIs, gR0, gRs, gF0, gFs, st0, st_i, st_r, st_f, st_n, st_s, true_and, and_true, ↓ifLeT, ↓ifLeF, ↓ifLtT, ↓ifLtF, ↓ifEqT, ↓ifEqF, if_tt, if_ff, if_pos, if_neg, nLe, nLt, nEq, nInT, nCl, pk_mul, nI_add, Nat.reduceAdd, s_cat_nil, s_cat_i, s_cat_r, s_cat_f, s_cat_l, tl_s, tl_n, cat_i, cat_r, cat_f, nb0, nb1, nbI, if_bI, if_bIr, Nat.zero_le, Nat.reduceLeDiff, M_ob, M_g0, M_g1, M_g2, M_g3, M_g4, M_g5, M_g6, M_g7, M_g8, M_g9, M_g10, M_g11, M_g12, M_g13, M_g14, M_g15, M_g16, M_g17, M_g18, M_g19, M_g20, M_g21, M_g22, M_g23, M_g24, M_g25, M_g26, M_g27, M_g28, M_g29, M_g30, M_g31, M_g32, M_g33, M_g34, M_g35, M_g36, M_g37, M_g38, M_g39, M_g40, M_g41, e1, iBf]
      refine r_min1 (d := d) (k := k) hn hg hr fun m1 f1 hg1 r1 d1 => ?_
      simp (disch := omega) only [u_214_0, u_214_1, u_214_2, u_214_5, u_214_6, u_214_7, u_214_10, u_214_13, u_214_14, u_214_15, u_214_16, u_214_19, u_214_20, u_214_23, u_214_26, u_214_27, u_214_29, u_214_32, u_214_35, u_214_36, u_214_39, u_214_40, u_214_43, u_214_46, u_214_47, u_214_48, u_214_49, u_214_50, u_214_53, u_214_56, u_214_59, u_214_62, u_214_63, gI0, gIs, gR0, gRs, gF0, gFs, st0, st_i, st_r, st_f, st_n, st_s, true_and, and_true, ↓ifLeT, ↓ifLeF, ↓ifLtT, ↓ifLtF, ↓ifEqT, ↓ifEqF, if_tt, if_ff, if_pos, if_neg, nLe, nLt, nEq, nInT, nCl, pk_mul, nI_add, Nat.reduceAdd, s_cat_nil, s_cat_i, s_cat_r, s_cat_f, s_cat_l, tl_s, tl_n, cat_i, cat_r, cat_f, nb0, nb1, nbI, if_bI, if_bIr, Nat.zero_le, Nat.reduceLeDiff]
      exact ih (k + 1) m1 (by omega) hg1 r1 fun m' f2 => K m' (frM_t f1 f2)
theorem z_doneBy (hm : RM m z) (K : ∀ m', RM m' z → Q (some (.int (zdoneBy z t))) (pM m' h)) : MT (d + 10) 214 [.ref 317, .int t] (pM m h) Q := by
  rw [MT_go (by decide) _ _ _ (Nat.le_of_ble_eq_true rfl), show s_entry 214 [.ref 317, .int t] = [.ref 317, .int t, s_no] from rfl]
  have hm0 := RM_0 (x := nI 0) hm
  have e1 := fun Q => z_isT (d := d + 7) (h := h) (Q := Q) (x := t) hm0
  unfold zdoneBy at K
  cases hq : zQ z with
  | none =>
    simp only [hq] at K
    rw [zN_0 hq, ix_0] at e1
    simp (disch := omega) only [u_214_0, u_214_1, u_214_2, u_214_5, u_214_6, u_214_7, u_214_10, u_214_13, u_214_14, u_214_15, u_214_16, u_214_19, u_214_20, u_214_23, u_214_26, u_214_27, u_214_29, u_214_32, u_214_35, u_214_36, u_214_39, u_214_40, u_214_43, u_214_46, u_214_47, u_214_48, u_214_49, u_214_50, u_214_53, u_214_56, u_214_59, u_214_62, u_214_63, gI0, gIs, gR0, gRs, gF0, gFs, st0, st_i, st_r, st_f, st_n, st_s, true_and, and_true, ↓ifLeT, ↓ifLeF, ↓ifLtT, ↓ifLtF, ↓ifEqT, ↓ifEqF, if_tt, if_ff, if_pos, if_neg, nLe, nLt, nEq, nInT, nCl, pk_mul, nI_add, Nat.reduceAdd, s_cat_nil, s_cat_i, s_cat_r, s_cat_f, s_cat_l, tl_s, tl_n, cat_i, cat_r, cat_f, nb0, nb1, nbI, if_bI, if_bIr, Nat.zero_le, Nat.reduceLeDiff, M_ob, M_s0, e1, Option.isSome, iBf]
    exact K _ hm0
  | some n =>
    simp only [hq] at K
    rw [zN_s hq] at e1
    obtain ⟨hg, hr, hok⟩ := RM_q hm0 hq
    have h8 := hok.1.1.2.1
    cases h1 : ixN t (nF n 3) with
    | none =>
      rw [h1] at e1
      simp only [h1] at K
      simp (disch := omega) only [u_214_0, u_214_1, u_214_2, u_214_5, u_214_6, u_214_7, u_214_10, u_214_13, u_214_14, u_214_15, u_214_16, u_214_19, u_214_20, u_214_23, u_214_26, u_214_27, u_214_29, u_214_32, u_214_35, u_214_36, u_214_39, u_214_40, u_214_43, u_214_46, u_214_47, u_214_48, u_214_49, u_214_50, u_214_53, u_214_56, u_214_59, u_214_62, u_214_63, gI0, gIs, gR0, gRs, gF0, gFs, st0, st_i, st_r, st_f, st_n, st_s, true_and, and_true, ↓ifLeT, ↓ifLeF, ↓ifLtT, ↓ifLtF, ↓ifEqT, ↓ifEqF, if_tt, if_ff, if_pos, if_neg, nLe, nLt, nEq, nInT, nCl, pk_mul, nI_add, Nat.reduceAdd, s_cat_nil, s_cat_i, s_cat_r, s_cat_f, s_cat_l, tl_s, tl_n, cat_i, cat_r, cat_f, nb0, nb1, nbI, if_bI, if_bIr, Nat.zero_le, Nat.reduceLeDiff, M_ob, M_s0, e1, Option.isSome, iBf]
      exact K _ hm0
    | some j =>
      rw [h1] at e1
      simp only [h1] at K
      obtain ⟨j1, rfl⟩ := ix_some (by omega) h1
      simp (disch := omega) only [u_214_0, u_214_1, u_214_2, u_214_5, u_214_6, u_214_7, u_214_10, u_214_13, u_214_14, u_214_15, u_214_16, u_214_19, u_214_20, u_214_23, u_214_26, u_214_27, u_214_29, u_214_32, u_214_35, u_214_36, u_214_39, u_214_40, u_214_43, u_214_46, u_214_47, u_214_48, u_214_49, u_214_50, u_214_53, u_214_56, u_214_59, u_214_62, u_214_63, gI0, gIs, gR0, gRs, gF0, gFs, st0, st_i, st_r, st_f, st_n, st_s, true_and, and_true, ↓ifLeT, ↓ifLeF, ↓ifLtT, ↓ifLtF, ↓ifEqT, ↓ifEqF, if_tt, if_ff, if_pos, if_neg, nLe, nLt, nEq, nInT, nCl, pk_mul, nI_add, Nat.reduceAdd, s_cat_nil, s_cat_i, s_cat_r, s_cat_f, s_cat_l, tl_s, tl_n, cat_i, cat_r, cat_f, nb0, nb1, nbI, if_bI, if_bIr, Nat.zero_le, Nat.reduceLeDiff, M_ob, M_s0, M_g0, M_g1, M_g2, M_g3, M_g4, M_g5, M_g6, M_g7, M_g8, M_g9, M_g10, M_g11, M_g12, M_g13, M_g14, M_g15, M_g16, M_g17, M_g18, M_g19, M_g20, M_g21, M_g22, M_g23, M_g24, M_g25, M_g26, M_g27, M_g28, M_g29, M_g30, M_g31, M_g32, M_g33, M_g34, M_g35, M_g36, M_g37, M_g38, M_g39, M_g40, M_g41, e1, Option.isSome, iBt, nI10, reduceIte]
      refine r_copy rb320 rb329 (by decide) fun f hf => ?_
      simp (disch := omega) only [u_214_0, u_214_1, u_214_2, u_214_5, u_214_6, u_214_7, u_214_10, u_214_13, u_214_14, u_214_15, u_214_16, u_214_19, u_214_20, u_214_23, u_214_26, u_214_27, u_214_29, u_214_32, u_214_35, u_214_36, u_214_39, u_214_40, u_214_43, u_214_46, u_214_47, u_214_48, u_214_49, u_214_50, u_214_53, u_214_56, u_214_59, u_214_62, u_214_63, gI0, gIs, gR0, gRs, gF0, gFs, st0, st_i, st_r, st_f, st_n, st_s, true_and, and_true, ↓ifLeT, ↓ifLeF, ↓ifLtT, ↓ifLtF, ↓ifEqT, ↓ifEqF, if_tt, if_ff, if_pos, if_neg, nLe, nLt, nEq, nInT, nCl, pk_mul, nI_add, Nat.reduceAdd, s_cat_nil, s_cat_i, s_cat_r, s_cat_f, s_cat_l, tl_s, tl_n, cat_i, cat_r, cat_f, nb0, nb1, nbI, if_bI, if_bIr, Nat.zero_le, Nat.reduceLeDiff]
      refine md_done (d := d + 1) hok.1 j1 301 0 _ (Nat.zero_add _) (MG_fr rb329 hg frM_b) (by rw [kA_eq]; exact RR_cong hok.1 hf hr) fun m' f2 => ?_
      have := K m' (RM_fr (frZ_M (Or.inl rfl) (frM_t frM_b f2)) hm0)
      unfold doneB firstN at this
      rw [List.range_eq_range'] at this
      exact this
theorem r_nobody (hn : wfN n) (h10 : kI m 10 = nI (nF n 2)) (hd : ∀ c, c < nF n 2 → kA m 327 c = nI (nDeed n c)) : MT (d + 1) 248 [.ref 317] (pM m h) Q ↔ Q (some (.int (iB (idleN n)))) (pM m h) := by
  have h4 := hn.1.1
  rw [MT_go (by decide) _ _ _ (Nat.le_of_ble_eq_true rfl), show s_entry 248 [.ref 317] = [.ref 317, s_no, s_no] from rfl]
  have lp : ∀ q k v, k + q = nF n 2 → (WP d 248 4 [.ref 317, .int (iB v), .int (nI k)] [] (pM m h) (0, 0) Q ↔ Q (some (.int (iB (v && (List.range' k q).all fun c => decide (nDeed n c ≠ 4))))) (pM m h)) := by
    intro q
    induction q with
    | zero =>
      intro k v hk
      have e : k = nF n 2 := by omega
      subst e
      rw [u_248_4]
      simp (disch := omega) only [u_248_0, u_248_1, u_248_2, u_248_3, u_248_5, u_248_6, u_248_9, u_248_12, u_248_13, u_248_16, u_248_17, u_248_20, u_248_21, u_248_22, u_248_23, u_248_26, u_248_27, u_248_30, u_248_31, u_248_32, u_248_35, u_248_38, u_248_39, gI0, gIs, gR0, gRs, gF0, gFs, st0, st_i, st_r, st_f, st_n, st_s, true_and, and_true, ↓ifLeT, ↓ifLeF, ↓ifLtT, ↓ifLtF, ↓ifEqT, ↓ifEqF, if_tt, if_ff, if_pos, if_neg, nLe, nLt, nEq, nInT, nCl, pk_mul, nI_add, Nat.reduceAdd, s_cat_nil, s_cat_i, s_cat_r, s_cat_f, s_cat_l, tl_s, tl_n, cat_i, cat_r, cat_f, nb0, nb1, nbI, if_bI, if_bIr, Nat.zero_le, Nat.reduceLeDiff, M_g0, M_g1, M_g2, M_g3, M_g4, M_g5, M_g6, M_g7, M_g8, M_g9, M_g10, M_g11, M_g12, M_g13, M_g14, M_g15, M_g16, M_g17, M_g18, M_g19, M_g20, M_g21, M_g22, M_g23, M_g24, M_g25, M_g26, M_g27, M_g28, M_g29, M_g30, M_g31, M_g32, M_g33, M_g34, M_g35, M_g36, M_g37, M_g38, M_g39, M_g40, M_g41, h10]
      rw [List.range'_zero, List.all_nil, Bool.and_true]
      exact ⟨fun z => z.2, fun z => ⟨nbB.mpr trivial, z⟩⟩
    | succ q ih =>
      intro k v hk
      have a1 := hd k (by omega)
      have l := jN_le (jN_mid hn.2.1) (c := k) (by omega)
      have l : nDeed n k ≤ 4 := l
      have i4 : vp_in (nI k) 4 := (nIn (by omega)).mpr (by omega)
      have ih := fun v => ih (k + 1) v (by omega)
      rw [u_248_4, all_acc]
      cases v with
      | false =>
        simp (disch := omega) only [u_248_0, u_248_1, u_248_2, u_248_3, u_248_5, u_248_6, u_248_9, u_248_12, u_248_13, u_248_16, u_248_17, u_248_20, u_248_21, u_248_22, u_248_23, u_248_26, u_248_27, u_248_30, u_248_31, u_248_32, u_248_35, u_248_38, u_248_39, gI0, gIs, gR0, gRs, gF0, gFs, st0, st_i, st_r, st_f, st_n, st_s, true_and, and_true, ↓ifLeT, ↓ifLeF, ↓ifLtT, ↓ifLtF, ↓ifEqT, ↓ifEqF, if_tt, if_ff, if_pos, if_neg, nLe, nLt, nEq, nInT, nCl, pk_mul, nI_add, Nat.reduceAdd, s_cat_nil, s_cat_i, s_cat_r, s_cat_f, s_cat_l, tl_s, tl_n, cat_i, cat_r, cat_f, nb0, nb1, nbI, if_bI, if_bIr, Nat.zero_le, Nat.reduceLeDiff, M_g0, M_g1, M_g2, M_g3, M_g4, M_g5, M_g6, M_g7, M_g8, M_g9, M_g10, M_g11, M_g12, M_g13, M_g14, M_g15, M_g16, M_g17, M_g18, M_g19, M_g20, M_g21, M_g22, M_g23, M_g24, M_g25, M_g26, M_g27, M_g28, M_g29, M_g30, M_g31, M_g32, M_g33, M_g34, M_g35, M_g36, M_g37, M_g38, M_g39, M_g40, M_g41, h10, iBf]
        have := ih false
        rw [Bool.false_and] at this
        rw [Bool.false_and]
        exact this
      | true =>
        by_cases e : nDeed n k = 4
        · rw [e] at a1
          have := ih false
          rw [decide_eq_false (not_not_intro e)]
          simp (disch := omega) only [u_248_0, u_248_1, u_248_2, u_248_3, u_248_5, u_248_6, u_248_9, u_248_12, u_248_13, u_248_16, u_248_17, u_248_20, u_248_21, u_248_22, u_248_23, u_248_26, u_248_27, u_248_30, u_248_31, u_248_32, u_248_35, u_248_38, u_248_39, gI0, gIs, gR0, gRs, gF0, gFs, st0, st_i, st_r, st_f, st_n, st_s, true_and, and_true, ↓ifLeT, ↓ifLeF, ↓ifLtT, ↓ifLtF, ↓ifEqT, ↓ifEqF, if_tt, if_ff, if_pos, if_neg, nLe, nLt, nEq, nInT, nCl, pk_mul, nI_add, Nat.reduceAdd, s_cat_nil, s_cat_i, s_cat_r, s_cat_f, s_cat_l, tl_s, tl_n, cat_i, cat_r, cat_f, nb0, nb1, nbI, if_bI, if_bIr, Nat.zero_le, Nat.reduceLeDiff, M_g0, M_g1, M_g2, M_g3, M_g4, M_g5, M_g6, M_g7, M_g8, M_g9, M_g10, M_g11, M_g12, M_g13, M_g14, M_g15, M_g16, M_g17, M_g18, M_g19, M_g20, M_g21, M_g22, M_g23, M_g24, M_g25, M_g26, M_g27, M_g28, M_g29, M_g30, M_g31, M_g32, M_g33, M_g34, M_g35, M_g36, M_g37, M_g38, M_g39, M_g40, M_g41, M_a327, i4, a1, h10, iBt, nI10, reduceIte]
          rw [Bool.false_and] at this
          rw [Bool.false_and, Bool.and_false]
          exact this
        · have ne : ¬ nI (nDeed n k) = nI 4 := fun q => e ((nI_eq (by omega) (by omega)).mp q)
          have := ih true
          rw [decide_eq_true e, Bool.true_and]
          simp (disch := omega) only [u_248_0, u_248_1, u_248_2, u_248_3, u_248_5, u_248_6, u_248_9, u_248_12, u_248_13, u_248_16, u_248_17, u_248_20, u_248_21, u_248_22, u_248_23, u_248_26, u_248_27, u_248_30, u_248_31, u_248_32, u_248_35, u_248_38, u_248_39, gI0, gIs, gR0, gRs, gF0, gFs, st0, st_i, st_r, st_f, st_n, st_s, true_and, and_true, ↓ifLeT, ↓ifLeF, ↓ifLtT, ↓ifLtF, ↓ifEqT, ↓ifEqF, if_tt, if_ff, if_pos, if_neg, nLe, nLt, nEq, nInT, nCl, pk_mul, nI_add, Nat.reduceAdd, s_cat_nil, s_cat_i, s_cat_r, s_cat_f, s_cat_l, tl_s, tl_n, cat_i, cat_r, cat_f, nb0, nb1, nbI, if_bI, if_bIr, Nat.zero_le, Nat.reduceLeDiff, M_g0, M_g1, M_g2, M_g3, M_g4, M_g5, M_g6, M_g7, M_g8, M_g9, M_g10, M_g11, M_g12, M_g13, M_g14, M_g15, M_g16, M_g17, M_g18, M_g19, M_g20, M_g21, M_g22, M_g23, M_g24, M_g25, M_g26, M_g27, M_g28, M_g29, M_g30, M_g31, M_g32, M_g33, M_g34, M_g35, M_g36, M_g37, M_g38, M_g39, M_g40, M_g41, M_a327, i4, a1, h10, iBt, nI10, reduceIte, ne]
          exact this
  have := lp (nF n 2) 0 true (Nat.zero_add _)
  simp (disch := omega) only [u_248_0, u_248_1, u_248_2, u_248_3, u_248_5, u_248_6, u_248_9, u_248_12, u_248_13, u_248_16, u_248_17, u_248_20, u_248_21, u_248_22, u_248_23, u_248_26, u_248_27, u_248_30, u_248_31, u_248_32, u_248_35, u_248_38, u_248_39, gI0, gIs, gR0, gRs, gF0, gFs, st0, st_i, st_r, st_f, st_n, st_s, true_and, and_true, ↓ifLeT, ↓ifLeF, ↓ifLtT, ↓ifLtF, ↓ifEqT, ↓ifEqF, if_tt, if_ff, if_pos, if_neg, nLe, nLt, nEq, nInT, nCl, pk_mul, nI_add, Nat.reduceAdd, s_cat_nil, s_cat_i, s_cat_r, s_cat_f, s_cat_l, tl_s, tl_n, cat_i, cat_r, cat_f, nb0, nb1, nbI, if_bI, if_bIr, Nat.zero_le, Nat.reduceLeDiff]
  rw [Bool.true_and, ← List.range_eq_range'] at this
  exact this
theorem md_idle {N : Nat} (hn : wfN n) (hN : N ≤ 300) : ∀ q k m, k + q = N → MG m n → RR (kA m 329) (runN k n) → (∀ m', frM 329 m m' → Q (some (.int (nI (sumN (fun i => (idleN (runN i n)).toNat) N)))) (pM m' h)) → WP (d + 8) 249 41 [.ref 317, .int (nI N), .int (nI (sumN (fun i => (idleN (runN i n)).toNat) k)), .int (nI k)] [] (pM m h) (0, 0) Q := by
  intro q
  induction q with
  | zero =>
    intro k m hk hg hr K
    have e : k = N := by omega
    subst e
    rw [u_249_41]
    simp (disch := omega) only [u_249_0, u_249_1, u_249_2, u_249_5, u_249_6, u_249_9, u_249_12, u_249_13, u_249_14, u_249_15, u_249_18, u_249_21, u_249_24, u_249_25, u_249_26, u_249_27, u_249_30, u_249_31, u_249_34, u_249_37, u_249_38, u_249_39, u_249_40, u_249_42, u_249_43, u_249_46, u_249_47, u_249_48, u_249_51, u_249_54, u_249_55, u_249_56, u_249_59, u_249_62, u_249_63, u_249_66, u_249_67, u_249_68, u_249_69, u_249_72, u_249_75, u_249_76, gI0, gIs, gR0, gRs, gF0, gFs, st0, st_i, st_r, st_f, st_n, st_s, true_and, and_true, ↓ifLeT, ↓ifLeF, ↓ifLtT, ↓ifLtF, ↓ifEqT, ↓ifEqF, if_tt, if_ff, if_pos, if_neg, nLe, nLt, nEq, nInT, nCl, pk_mul, nI_add, Nat.reduceAdd, s_cat_nil, s_cat_i, s_cat_r, s_cat_f, s_cat_l, tl_s, tl_n, cat_i, cat_r, cat_f, nb0, nb1, nbI, if_bI, if_bIr, Nat.zero_le, Nat.reduceLeDiff]
    exact K m frM_r
  | succ q ih =>
    intro k m hk hg hr K
    rw [u_249_41]
    simp (disch := omega) only [u_249_0, u_249_1, u_249_2, u_249_5, u_249_6, u_249_9, u_249_12, u_249_13, u_249_14, u_249_15, u_249_18, u_249_21, u_249_24, u_249_25, u_249_26, u_249_27, u_249_30, u_249_31, u_249_34, u_249_37, u_249_38, u_249_39, u_249_40, u_249_42, u_249_43, u_249_46, u_249_47, u_249_48, u_249_51, u_249_54, u_249_55, u_249_56, u_249_59, u_249_62, u_249_63, u_249_66, u_249_67, u_249_68, u_249_69, u_249_72, u_249_75, u_249_76, gI0, gIs, gR0, gRs, gF0, gFs, st0, st_i, st_r, st_f, st_n, st_s, true_and, and_true, ↓ifLeT, ↓ifLeF, ↓ifLtT, ↓ifLtF, ↓ifEqT, ↓ifEqF, if_tt, if_ff, if_pos, if_neg, nLe, nLt, nEq, nInT, nCl, pk_mul, nI_add, Nat.reduceAdd, s_cat_nil, s_cat_i, s_cat_r, s_cat_f, s_cat_l, tl_s, tl_n, cat_i, cat_r, cat_f, nb0, nb1, nbI, if_bI, if_bIr, Nat.zero_le, Nat.reduceLeDiff, M_ob, M_g0, M_g1, M_g2, M_g3, M_g4, M_g5, M_g6, M_g7, M_g8, M_g9, M_g10, M_g11, M_g12, M_g13, M_g14, M_g15, M_g16, M_g17, M_g18, M_g19, M_g20, M_g21, M_g22, M_g23, M_g24, M_g25, M_g26, M_g27, M_g28, M_g29, M_g30, M_g31, M_g32, M_g33, M_g34, M_g35, M_g36, M_g37, M_g38, M_g39, M_g40, M_g41]
    refine r_min1 (d := d) (k := k) hn hg hr fun m1 f1 hg1 r1 d1 => ?_
    have e1 := fun Q => r_nobody (d := d + 7) (h := h) (Q := Q) (wf_run hn k) (by rw [run_F (by decide)]; exact hg1.2.2.1) fun c hc => d1 c (by rw [run_F (by decide)] at hc; exact hc)
    have go := ih (k + 1) m1 (by omega) hg1 r1 fun m' f2 => K m' (frM_t f1 f2)
    rw [sumN] at go
    cases e : idleN (runN k n) with
    | true =>
      rw [e] at go e1
      simp (disch := omega) only [u_249_0, u_249_1, u_249_2, u_249_5, u_249_6, u_249_9, u_249_12, u_249_13, u_249_14, u_249_15, u_249_18, u_249_21, u_249_24, u_249_25, u_249_26, u_249_27, u_249_30, u_249_31, u_249_34, u_249_37, u_249_38, u_249_39, u_249_40, u_249_42, u_249_43, u_249_46, u_249_47, u_249_48, u_249_51, u_249_54, u_249_55, u_249_56, u_249_59, u_249_62, u_249_63, u_249_66, u_249_67, u_249_68, u_249_69, u_249_72, u_249_75, u_249_76, gI0, gIs, gR0, gRs, gF0, gFs, st0, st_i, st_r, st_f, st_n, st_s, true_and, and_true, ↓ifLeT, ↓ifLeF, ↓ifLtT, ↓ifLtF, ↓ifEqT, ↓ifEqF, if_tt, if_ff, if_pos, if_neg, nLe, nLt, nEq, nInT, nCl, pk_mul, nI_add, Nat.reduceAdd, s_cat_nil, s_cat_i, s_cat_r, s_cat_f, s_cat_l, tl_s, tl_n, cat_i, cat_r, cat_f, nb0, nb1, nbI, if_bI, if_bIr, Nat.zero_le, Nat.reduceLeDiff, M_ob, e1, iBt, nI10, reduceIte]
      exact go
    | false =>
      rw [e] at go e1
      simp (disch := omega) only [u_249_0, u_249_1, u_249_2, u_249_5, u_249_6, u_249_9, u_249_12, u_249_13, u_249_14, u_249_15, u_249_18, u_249_21, u_249_24, u_249_25, u_249_26, u_249_27, u_249_30, u_249_31, u_249_34, u_249_37, u_249_38, u_249_39, u_249_40, u_249_42, u_249_43, u_249_46, u_249_47, u_249_48, u_249_51, u_249_54, u_249_55, u_249_56, u_249_59, u_249_62, u_249_63, u_249_66, u_249_67, u_249_68, u_249_69, u_249_72, u_249_75, u_249_76, gI0, gIs, gR0, gRs, gF0, gFs, st0, st_i, st_r, st_f, st_n, st_s, true_and, and_true, ↓ifLeT, ↓ifLeF, ↓ifLtT, ↓ifLtF, ↓ifEqT, ↓ifEqF, if_tt, if_ff, if_pos, if_neg, nLe, nLt, nEq, nInT, nCl, pk_mul, nI_add, Nat.reduceAdd, s_cat_nil, s_cat_i, s_cat_r, s_cat_f, s_cat_l, tl_s, tl_n, cat_i, cat_r, cat_f, nb0, nb1, nbI, if_bI, if_bIr, Nat.zero_le, Nat.reduceLeDiff, M_ob, e1, iBf]
      exact go
theorem z_idle (hm : RM m z) (K : ∀ m', RM m' z → Q (some (.int (zidle z x))) (pM m' h)) : MT (d + 10) 249 [.ref 317, .int x] (pM m h) Q := by
  rw [MT_go (by decide) _ _ _ (Nat.le_of_ble_eq_true rfl), show s_entry 249 [.ref 317, .int x] = [.ref 317, .int x, s_no, s_no] from rfl]
  have hm0 := RM_0 (x := nI 0) hm
  have q1 := hm.2.1.1
  unfold zidle at K
  cases hq : zQ z with
  | none =>
    simp only [hq] at K
    rw [hq] at q1
    simp (disch := omega) only [u_249_0, u_249_1, u_249_2, u_249_5, u_249_6, u_249_9, u_249_12, u_249_13, u_249_14, u_249_15, u_249_18, u_249_21, u_249_24, u_249_25, u_249_26, u_249_27, u_249_30, u_249_31, u_249_34, u_249_37, u_249_38, u_249_39, u_249_40, u_249_42, u_249_43, u_249_46, u_249_47, u_249_48, u_249_51, u_249_54, u_249_55, u_249_56, u_249_59, u_249_62, u_249_63, u_249_66, u_249_67, u_249_68, u_249_69, u_249_72, u_249_75, u_249_76, gI0, gIs, gR0, gRs, gF0, gFs, st0, st_i, st_r, st_f, st_n, st_s, true_and, and_true, ↓ifLeT, ↓ifLeF, ↓ifLtT, ↓ifLtF, ↓ifEqT, ↓ifEqF, if_tt, if_ff, if_pos, if_neg, nLe, nLt, nEq, nInT, nCl, pk_mul, nI_add, Nat.reduceAdd, s_cat_nil, s_cat_i, s_cat_r, s_cat_f, s_cat_l, tl_s, tl_n, cat_i, cat_r, cat_f, nb0, nb1, nbI, if_bI, if_bIr, Nat.zero_le, Nat.reduceLeDiff, M_ob, M_g0, M_g1, M_g2, M_g3, M_g4, M_g5, M_g6, M_g7, M_g8, M_g9, M_g10, M_g11, M_g12, M_g13, M_g14, M_g15, M_g16, M_g17, M_g18, M_g19, M_g20, M_g21, M_g22, M_g23, M_g24, M_g25, M_g26, M_g27, M_g28, M_g29, M_g30, M_g31, M_g32, M_g33, M_g34, M_g35, M_g36, M_g37, M_g38, M_g39, M_g40, M_g41, M_s0, kI_xI, kI_xB, kI_xA, kI_xV, kB_xI, kB_xB, kB_xA, kB_xV, kA_xI, kA_xB, kA_xA, kA_xV, kV_xI, kV_xB, kV_xA, kV_xV, Nat.reduceEqDiff, reduceIte, q1, Option.isSome, iBf]
    exact K _ hm0
  | some n =>
    simp only [hq] at K
    rw [hq] at q1
    obtain ⟨hg, hr, hok⟩ := RM_q hm0 hq
    cases h2 : ixN x 301 with
    | none =>
      simp only [h2] at K
      simp (disch := omega) only [u_249_0, u_249_1, u_249_2, u_249_5, u_249_6, u_249_9, u_249_12, u_249_13, u_249_14, u_249_15, u_249_18, u_249_21, u_249_24, u_249_25, u_249_26, u_249_27, u_249_30, u_249_31, u_249_34, u_249_37, u_249_38, u_249_39, u_249_40, u_249_42, u_249_43, u_249_46, u_249_47, u_249_48, u_249_51, u_249_54, u_249_55, u_249_56, u_249_59, u_249_62, u_249_63, u_249_66, u_249_67, u_249_68, u_249_69, u_249_72, u_249_75, u_249_76, gI0, gIs, gR0, gRs, gF0, gFs, st0, st_i, st_r, st_f, st_n, st_s, true_and, and_true, ↓ifLeT, ↓ifLeF, ↓ifLtT, ↓ifLtF, ↓ifEqT, ↓ifEqF, if_tt, if_ff, if_pos, if_neg, nLe, nLt, nEq, nInT, nCl, pk_mul, nI_add, Nat.reduceAdd, s_cat_nil, s_cat_i, s_cat_r, s_cat_f, s_cat_l, tl_s, tl_n, cat_i, cat_r, cat_f, nb0, nb1, nbI, if_bI, if_bIr, Nat.zero_le, Nat.reduceLeDiff, M_ob, M_g0, M_g1, M_g2, M_g3, M_g4, M_g5, M_g6, M_g7, M_g8, M_g9, M_g10, M_g11, M_g12, M_g13, M_g14, M_g15, M_g16, M_g17, M_g18, M_g19, M_g20, M_g21, M_g22, M_g23, M_g24, M_g25, M_g26, M_g27, M_g28, M_g29, M_g30, M_g31, M_g32, M_g33, M_g34, M_g35, M_g36, M_g37, M_g38, M_g39, M_g40, M_g41, M_s0, kI_xI, kI_xB, kI_xA, kI_xV, kB_xI, kB_xB, kB_xA, kB_xV, kA_xI, kA_xB, kA_xA, kA_xV, kV_xI, kV_xB, kV_xA, kV_xV, Nat.reduceEqDiff, reduceIte, q1, in301, h2, Option.isSome, iBt, iBf, nI10]
      exact K _ hm0
    | some k =>
      simp only [h2] at K
      obtain ⟨k1, rfl⟩ := ix_some (by omega) h2
      simp (disch := omega) only [u_249_0, u_249_1, u_249_2, u_249_5, u_249_6, u_249_9, u_249_12, u_249_13, u_249_14, u_249_15, u_249_18, u_249_21, u_249_24, u_249_25, u_249_26, u_249_27, u_249_30, u_249_31, u_249_34, u_249_37, u_249_38, u_249_39, u_249_40, u_249_42, u_249_43, u_249_46, u_249_47, u_249_48, u_249_51, u_249_54, u_249_55, u_249_56, u_249_59, u_249_62, u_249_63, u_249_66, u_249_67, u_249_68, u_249_69, u_249_72, u_249_75, u_249_76, gI0, gIs, gR0, gRs, gF0, gFs, st0, st_i, st_r, st_f, st_n, st_s, true_and, and_true, ↓ifLeT, ↓ifLeF, ↓ifLtT, ↓ifLtF, ↓ifEqT, ↓ifEqF, if_tt, if_ff, if_pos, if_neg, nLe, nLt, nEq, nInT, nCl, pk_mul, nI_add, Nat.reduceAdd, s_cat_nil, s_cat_i, s_cat_r, s_cat_f, s_cat_l, tl_s, tl_n, cat_i, cat_r, cat_f, nb0, nb1, nbI, if_bI, if_bIr, Nat.zero_le, Nat.reduceLeDiff, M_ob, M_g0, M_g1, M_g2, M_g3, M_g4, M_g5, M_g6, M_g7, M_g8, M_g9, M_g10, M_g11, M_g12, M_g13, M_g14, M_g15, M_g16, M_g17, M_g18, M_g19, M_g20, M_g21, M_g22, M_g23, M_g24, M_g25, M_g26, M_g27, M_g28, M_g29, M_g30, M_g31, M_g32, M_g33, M_g34, M_g35, M_g36, M_g37, M_g38, M_g39, M_g40, M_g41, M_s0, kI_xI, kI_xB, kI_xA, kI_xV, kB_xI, kB_xB, kB_xA, kB_xV, kA_xI, kA_xB, kA_xA, kA_xV, kV_xI, kV_xB, kV_xA, kV_xV, Nat.reduceEqDiff, reduceIte, q1, in301, h2, Option.isSome, iBt, nI10]
      refine r_copy rb320 rb329 (by decide) fun f hf => ?_
      simp (disch := omega) only [u_249_0, u_249_1, u_249_2, u_249_5, u_249_6, u_249_9, u_249_12, u_249_13, u_249_14, u_249_15, u_249_18, u_249_21, u_249_24, u_249_25, u_249_26, u_249_27, u_249_30, u_249_31, u_249_34, u_249_37, u_249_38, u_249_39, u_249_40, u_249_42, u_249_43, u_249_46, u_249_47, u_249_48, u_249_51, u_249_54, u_249_55, u_249_56, u_249_59, u_249_62, u_249_63, u_249_66, u_249_67, u_249_68, u_249_69, u_249_72, u_249_75, u_249_76, gI0, gIs, gR0, gRs, gF0, gFs, st0, st_i, st_r, st_f, st_n, st_s, true_and, and_true, ↓ifLeT, ↓ifLeF, ↓ifLtT, ↓ifLtF, ↓ifEqT, ↓ifEqF, if_tt, if_ff, if_pos, if_neg, nLe, nLt, nEq, nInT, nCl, pk_mul, nI_add, Nat.reduceAdd, s_cat_nil, s_cat_i, s_cat_r, s_cat_f, s_cat_l, tl_s, tl_n, cat_i, cat_r, cat_f, nb0, nb1, nbI, if_bI, if_bIr, Nat.zero_le, Nat.reduceLeDiff]
      exact md_idle (d := d + 1) hok.1 (by omega) k 0 _ (Nat.zero_add _) (MG_fr rb329 hg frM_b) (by rw [kA_eq]; exact RR_cong hok.1 hf hr) fun m' f2 => K m' (RM_fr (frZ_M (Or.inl rfl) (frM_t frM_b f2)) hm0)
theorem minN_b {f : Nat → Nat} {b b' : Nat} (h : f 0 ≤ b) (h' : f 0 ≤ b') : ∀ k, minN f b (k + 1) = minN f b' (k + 1)
  | 0 => by show min b (f 0) = min b' (f 0); rw [Nat.min_eq_right h, Nat.min_eq_right h']
  | k + 1 => by rw [minN, minN_b h h' k]; rfl
theorem gap_le {q : Nat} (hn : wfN n) (hq : q + 1 < nF n 2) : gapN n q ≤ nF n 0 := by
  have := (hn.2.1.1 (q + 1) hq).1
  unfold gapN
  omega
theorem r_near {b : Nat} (hb : rb b) (hn : wfN n) (hg : MG m n) (hr : RR (kA m b) n) (h2 : 2 ≤ nF n 2) : MT (d + 2) 245 [.ref 317, .ref b] (pM m h) Q ↔ Q (some (.int (nI (minN (gapN n) (nF n 0) (nF n 2 - 1))))) (pM m h) := by
  have h4 := hn.1.1
  have hb2 := hn.1.2.2.2.1
  obtain ⟨-, g9, g10, -⟩ := hg
  rw [MT_go (by decide) _ _ _ (Nat.le_of_ble_eq_true rfl), show s_entry 245 [.ref 317, .ref b] = [.ref 317, .ref b, s_no, s_no] from rfl]
  have lp : ∀ q k, k + q = nF n 2 - 1 → (WP (d + 1) 245 5 [.ref 317, .ref b, .int (nI (minN (gapN n) 1000000 k)), .int (nI (k + 1))] [] (pM m h) (0, 0) Q ↔ Q (some (.int (nI (minN (gapN n) 1000000 (nF n 2 - 1))))) (pM m h)) := by
    intro q
    induction q with
    | zero =>
      intro k hk
      have e : k = nF n 2 - 1 := by omega
      subst e
      rw [u_245_5]
      simp (disch := omega) only [u_245_0, u_245_2, u_245_3, u_245_4, u_245_6, u_245_7, u_245_10, u_245_13, u_245_14, u_245_15, u_245_16, u_245_17, u_245_20, u_245_21, u_245_22, u_245_23, u_245_24, u_245_25, u_245_26, u_245_29, u_245_30, u_245_31, u_245_32, u_245_35, u_245_36, u_245_39, u_245_40, u_245_43, u_245_46, u_245_47, gI0, gIs, gR0, gRs, gF0, gFs, st0, st_i, st_r, st_f, st_n, st_s, true_and, and_true, ↓ifLeT, ↓ifLeF, ↓ifLtT, ↓ifLtF, ↓ifEqT, ↓ifEqF, if_tt, if_ff, if_pos, if_neg, nLe, nLt, nEq, nInT, nCl, pk_mul, nI_add, Nat.reduceAdd, s_cat_nil, s_cat_i, s_cat_r, s_cat_f, s_cat_l, tl_s, tl_n, cat_i, cat_r, cat_f, nb0, nb1, nbI, if_bI, if_bIr, Nat.zero_le, Nat.reduceLeDiff, M_g0, M_g1, M_g2, M_g3, M_g4, M_g5, M_g6, M_g7, M_g8, M_g9, M_g10, M_g11, M_g12, M_g13, M_g14, M_g15, M_g16, M_g17, M_g18, M_g19, M_g20, M_g21, M_g22, M_g23, M_g24, M_g25, M_g26, M_g27, M_g28, M_g29, M_g30, M_g31, M_g32, M_g33, M_g34, M_g35, M_g36, M_g37, M_g38, M_g39, M_g40, M_g41, g10]
    | succ q ih =>
      intro k hk
      have ih := ih (k + 1) (by omega)
      have w1 := hn.2.1.2 k (by omega)
      have w2 := (hn.2.1.1 (k + 1) (by omega)).1
      have a1 := (hr.2.2.1 (k + 1) (by omega)).1
      have a2 := (hr.2.2.1 k (by omega)).1
      have sb : nI (k + 1) - nI 1 = nI k := by rw [pk_sub (by omega)]; rfl
      have df : nI (nA n 7 (k + 1)) - nI (nA n 7 k) - nI (nF n 1) = nI (gapN n k) := by
        rw [pk_sub (by omega), pk_sub (by omega)]
        rfl
      have gl := gap_le (q := k) hn (by omega)
      have ml := minN_le (f := gapN n) (b := 1000000) k
      have mr := min_r (a := minN (gapN n) 1000000 k) (b := gapN n k)
      rw [u_245_5]
      simp (disch := omega) only [u_245_0, u_245_2, u_245_3, u_245_4, u_245_6, u_245_7, u_245_10, u_245_13, u_245_14, u_245_15, u_245_16, u_245_17, u_245_20, u_245_21, u_245_22, u_245_23, u_245_24, u_245_25, u_245_26, u_245_29, u_245_30, u_245_31, u_245_32, u_245_35, u_245_36, u_245_39, u_245_40, u_245_43, u_245_46, u_245_47, gI0, gIs, gR0, gRs, gF0, gFs, st0, st_i, st_r, st_f, st_n, st_s, true_and, and_true, ↓ifLeT, ↓ifLeF, ↓ifLtT, ↓ifLtF, ↓ifEqT, ↓ifEqF, if_tt, if_ff, if_pos, if_neg, nLe, nLt, nEq, nInT, nCl, pk_mul, nI_add, Nat.reduceAdd, s_cat_nil, s_cat_i, s_cat_r, s_cat_f, s_cat_l, tl_s, tl_n, cat_i, cat_r, cat_f, nb0, nb1, nbI, if_bI, if_bIr, Nat.zero_le, Nat.reduceLeDiff, M_g0, M_g1, M_g2, M_g3, M_g4, M_g5, M_g6, M_g7, M_g8, M_g9, M_g10, M_g11, M_g12, M_g13, M_g14, M_g15, M_g16, M_g17, M_g18, M_g19, M_g20, M_g21, M_g22, M_g23, M_g24, M_g25, M_g26, M_g27, M_g28, M_g29, M_g30, M_g31, M_g32, M_g33, M_g34, M_g35, M_g36, M_g37, M_g38, M_g39, M_g40, M_g41, M_r hb, m_cAt, g10, g9, a1, a2, sb, df, mr]
      exact ih
  have := lp (nF n 2 - 1) 0 (Nat.zero_add _)
  simp (disch := omega) only [u_245_0, u_245_2, u_245_3, u_245_4, u_245_6, u_245_7, u_245_10, u_245_13, u_245_14, u_245_15, u_245_16, u_245_17, u_245_20, u_245_21, u_245_22, u_245_23, u_245_24, u_245_25, u_245_26, u_245_29, u_245_30, u_245_31, u_245_32, u_245_35, u_245_36, u_245_39, u_245_40, u_245_43, u_245_46, u_245_47, gI0, gIs, gR0, gRs, gF0, gFs, st0, st_i, st_r, st_f, st_n, st_s, true_and, and_true, ↓ifLeT, ↓ifLeF, ↓ifLtT, ↓ifLtF, ↓ifEqT, ↓ifEqF, if_tt, if_ff, if_pos, if_neg, nLe, nLt, nEq, nInT, nCl, pk_mul, nI_add, Nat.reduceAdd, s_cat_nil, s_cat_i, s_cat_r, s_cat_f, s_cat_l, tl_s, tl_n, cat_i, cat_r, cat_f, nb0, nb1, nbI, if_bI, if_bIr, Nat.zero_le, Nat.reduceLeDiff]
  have e : minN (gapN n) 1000000 (nF n 2 - 1) = minN (gapN n) (nF n 0) (nF n 2 - 1) := by
    have gl := gap_le (q := 0) hn (by omega)
    have := minN_b (f := gapN n) (b := 1000000) (b' := nF n 0) (by omega) gl (nF n 2 - 2)
    rw [show nF n 2 - 2 + 1 = nF n 2 - 1 by omega] at this
    exact this
  rw [e] at this
  exact this
theorem md_near {N : Nat} (hn : wfN n) (h2 : 2 ≤ nF n 2) (hN : N ≤ 300) : ∀ q k m, k + q = N → MG m n → RR (kA m 329) (runN k n) → (∀ m', frM 329 m m' → Q (some (.int (nI (minN (fun i => minN (gapN (runN i n)) (nF n 0) (nF n 2 - 1)) (nF n 0) (N + 1))))) (pM m' h)) → WP (d + 8) 246 56 [.ref 317, .int (nI N), .int (nI (minN (fun i => minN (gapN (runN i n)) (nF n 0) (nF n 2 - 1)) (nF n 0) (k + 1))), .int (nI k)] [] (pM m h) (0, 0) Q := by
  intro q
  have hb2 := hn.1.2.2.2.1
  induction q with
  | zero =>
    intro k m hk hg hr K
    have e : k = N := by omega
    subst e
    rw [u_246_56]
    simp (disch := omega) only [u_246_0, u_246_1, u_246_2, u_246_5, u_246_6, u_246_9, u_246_12, u_246_13, u_246_16, u_246_17, u_246_20, u_246_21, u_246_22, u_246_23, u_246_26, u_246_29, u_246_32, u_246_33, u_246_34, u_246_35, u_246_38, u_246_39, u_246_42, u_246_45, u_246_46, u_246_47, u_246_50, u_246_53, u_246_54, u_246_55, u_246_57, u_246_58, u_246_61, u_246_62, u_246_63, u_246_66, u_246_69, u_246_70, u_246_71, u_246_72, u_246_75, u_246_78, u_246_81, u_246_82, u_246_85, u_246_88, u_246_89, gI0, gIs, gR0, gRs, gF0, gFs, st0, st_i, st_r, st_f, st_n, st_s, true_and, and_true, ↓ifLeT, ↓ifLeF, ↓ifLtT, ↓ifLtF, ↓ifEqT, ↓ifEqF, if_tt, if_ff, if_pos, if_neg, nLe, nLt, nEq, nInT, nCl, pk_mul, nI_add, Nat.reduceAdd, s_cat_nil, s_cat_i, s_cat_r, s_cat_f, s_cat_l, tl_s, tl_n, cat_i, cat_r, cat_f, nb0, nb1, nbI, if_bI, if_bIr, Nat.zero_le, Nat.reduceLeDiff]
    exact K m frM_r
  | succ q ih =>
    intro k m hk hg hr K
    rw [u_246_56]
    simp (disch := omega) only [u_246_0, u_246_1, u_246_2, u_246_5, u_246_6, u_246_9, u_246_12, u_246_13, u_246_16, u_246_17, u_246_20, u_246_21, u_246_22, u_246_23, u_246_26, u_246_29, u_246_32, u_246_33, u_246_34, u_246_35, u_246_38, u_246_39, u_246_42, u_246_45, u_246_46, u_246_47, u_246_50, u_246_53, u_246_54, u_246_55, u_246_57, u_246_58, u_246_61, u_246_62, u_246_63, u_246_66, u_246_69, u_246_70, u_246_71, u_246_72, u_246_75, u_246_78, u_246_81, u_246_82, u_246_85, u_246_88, u_246_89, gI0, gIs, gR0, gRs, gF0, gFs, st0, st_i, st_r, st_f, st_n, st_s, true_and, and_true, ↓ifLeT, ↓ifLeF, ↓ifLtT, ↓ifLtF, ↓ifEqT, ↓ifEqF, if_tt, if_ff, if_pos, if_neg, nLe, nLt, nEq, nInT, nCl, pk_mul, nI_add, Nat.reduceAdd, s_cat_nil, s_cat_i, s_cat_r, s_cat_f, s_cat_l, tl_s, tl_n, cat_i, cat_r, cat_f, nb0, nb1, nbI, if_bI, if_bIr, Nat.zero_le, Nat.reduceLeDiff, M_ob, M_g0, M_g1, M_g2, M_g3, M_g4, M_g5, M_g6, M_g7, M_g8, M_g9, M_g10, M_g11, M_g12, M_g13, M_g14, M_g15, M_g16, M_g17, M_g18, M_g19, M_g20, M_g21, M_g22, M_g23, M_g24, M_g25, M_g26, M_g27, M_g28, M_g29, M_g30, M_g31, M_g32, M_g33, M_g34, M_g35, M_g36, M_g37, M_g38, M_g39, M_g40, M_g41]
    refine r_min1 (d := d) (k := k) hn hg hr fun m1 f1 hg1 r1 d1 => ?_
    have f2 : nF (runN (k + 1) n) 2 = nF n 2 := run_F (by decide) (k + 1)
    have f0 : nF (runN (k + 1) n) 0 = nF n 0 := run_F (by decide) (k + 1)
    have hgk : MG m1 (runN (k + 1) n) := by
      obtain ⟨g1, g2, g3, g4⟩ := hg1
      have e8 : nA (runN (k + 1) n) 8 = nA n 8 := run_A (by decide) (by decide) (k + 1)
      exact ⟨by rw [run_F (by decide)]; exact g1, by rw [run_F (by decide)]; exact g2, by rw [run_F (by decide)]; exact g3, fun c hc => by rw [e8]; exact g4 c (by rw [run_F (by decide)] at hc; exact hc)⟩
    have e1 := fun Q => r_near (d := d + 6) (h := h) (Q := Q) rb329 (wf_run hn (k + 1)) hgk r1 (by omega)
    rw [f0, f2] at e1
    have m1l := minN_le (f := fun i => minN (gapN (runN i n)) (nF n 0) (nF n 2 - 1)) (b := nF n 0) (k + 1)
    have m2l := minN_le (f := gapN (runN (k + 1) n)) (b := nF n 0) (nF n 2 - 1)
    have mr := min_r (a := minN (fun i => minN (gapN (runN i n)) (nF n 0) (nF n 2 - 1)) (nF n 0) (k + 1)) (b := minN (gapN (runN (k + 1) n)) (nF n 0) (nF n 2 - 1))
    have go := ih (k + 1) m1 (by omega) hg1 r1 fun m' f2 => K m' (frM_t f1 f2)
    rw [minN] at go
    simp (disch := omega) only [u_246_0, u_246_1, u_246_2, u_246_5, u_246_6, u_246_9, u_246_12, u_246_13, u_246_16, u_246_17, u_246_20, u_246_21, u_246_22, u_246_23, u_246_26, u_246_29, u_246_32, u_246_33, u_246_34, u_246_35, u_246_38, u_246_39, u_246_42, u_246_45, u_246_46, u_246_47, u_246_50, u_246_53, u_246_54, u_246_55, u_246_57, u_246_58, u_246_61, u_246_62, u_246_63, u_246_66, u_246_69, u_246_70, u_246_71, u_246_72, u_246_75, u_246_78, u_246_81, u_246_82, u_246_85, u_246_88, u_246_89, gI0, gIs, gR0, gRs, gF0, gFs, st0, st_i, st_r, st_f, st_n, st_s, true_and, and_true, ↓ifLeT, ↓ifLeF, ↓ifLtT, ↓ifLtF, ↓ifEqT, ↓ifEqF, if_tt, if_ff, if_pos, if_neg, nLe, nLt, nEq, nInT, nCl, pk_mul, nI_add, Nat.reduceAdd, s_cat_nil, s_cat_i, s_cat_r, s_cat_f, s_cat_l, tl_s, tl_n, cat_i, cat_r, cat_f, nb0, nb1, nbI, if_bI, if_bIr, Nat.zero_le, Nat.reduceLeDiff, M_ob, M_g0, M_g1, M_g2, M_g3, M_g4, M_g5, M_g6, M_g7, M_g8, M_g9, M_g10, M_g11, M_g12, M_g13, M_g14, M_g15, M_g16, M_g17, M_g18, M_g19, M_g20, M_g21, M_g22, M_g23, M_g24, M_g25, M_g26, M_g27, M_g28, M_g29, M_g30, M_g31, M_g32, M_g33, M_g34, M_g35, M_g36, M_g37, M_g38, M_g39, M_g40, M_g41, e1, mr]
    exact go
theorem z_nearest (hm : RM m z) (K : ∀ m', RM m' z → Q (some (.int (znearest z x))) (pM m' h)) : MT (d + 10) 246 [.ref 317, .int x] (pM m h) Q := by
  rw [MT_go (by decide) _ _ _ (Nat.le_of_ble_eq_true rfl), show s_entry 246 [.ref 317, .int x] = [.ref 317, .int x, s_no, s_no] from rfl]
  have hm0 := RM_0 (x := nI 0) hm
  have q1 := hm.2.1.1
  unfold znearest at K
  cases hq : zQ z with
  | none =>
    simp only [hq] at K
    rw [hq] at q1
    simp (disch := omega) only [u_246_0, u_246_1, u_246_2, u_246_5, u_246_6, u_246_9, u_246_12, u_246_13, u_246_16, u_246_17, u_246_20, u_246_21, u_246_22, u_246_23, u_246_26, u_246_29, u_246_32, u_246_33, u_246_34, u_246_35, u_246_38, u_246_39, u_246_42, u_246_45, u_246_46, u_246_47, u_246_50, u_246_53, u_246_54, u_246_55, u_246_57, u_246_58, u_246_61, u_246_62, u_246_63, u_246_66, u_246_69, u_246_70, u_246_71, u_246_72, u_246_75, u_246_78, u_246_81, u_246_82, u_246_85, u_246_88, u_246_89, gI0, gIs, gR0, gRs, gF0, gFs, st0, st_i, st_r, st_f, st_n, st_s, true_and, and_true, ↓ifLeT, ↓ifLeF, ↓ifLtT, ↓ifLtF, ↓ifEqT, ↓ifEqF, if_tt, if_ff, if_pos, if_neg, nLe, nLt, nEq, nInT, nCl, pk_mul, nI_add, Nat.reduceAdd, s_cat_nil, s_cat_i, s_cat_r, s_cat_f, s_cat_l, tl_s, tl_n, cat_i, cat_r, cat_f, nb0, nb1, nbI, if_bI, if_bIr, Nat.zero_le, Nat.reduceLeDiff, M_ob, M_g0, M_g1, M_g2, M_g3, M_g4, M_g5, M_g6, M_g7, M_g8, M_g9, M_g10, M_g11, M_g12, M_g13, M_g14, M_g15, M_g16, M_g17, M_g18, M_g19, M_g20, M_g21, M_g22, M_g23, M_g24, M_g25, M_g26, M_g27, M_g28, M_g29, M_g30, M_g31, M_g32, M_g33, M_g34, M_g35, M_g36, M_g37, M_g38, M_g39, M_g40, M_g41, M_s0, kI_xI, kI_xB, kI_xA, kI_xV, kB_xI, kB_xB, kB_xA, kB_xV, kA_xI, kA_xB, kA_xA, kA_xV, kV_xI, kV_xB, kV_xA, kV_xV, Nat.reduceEqDiff, reduceIte, q1, Option.isSome, iBf]
    exact K _ hm0
  | some n =>
    simp only [hq] at K
    rw [hq] at q1
    obtain ⟨hg, hr, hok⟩ := RM_q hm0 hq
    have h4 := hok.1.1.1
    have h1 := hok.2.1
    have hb2 := hok.1.1.2.2.2.1
    have g10 := hg.2.2.1
    by_cases h2 : nF n 2 < 2
    · simp only [if_pos h2] at K
      have e : nF n 2 = 1 := by omega
      rw [e] at g10
      simp (disch := omega) only [u_246_0, u_246_1, u_246_2, u_246_5, u_246_6, u_246_9, u_246_12, u_246_13, u_246_16, u_246_17, u_246_20, u_246_21, u_246_22, u_246_23, u_246_26, u_246_29, u_246_32, u_246_33, u_246_34, u_246_35, u_246_38, u_246_39, u_246_42, u_246_45, u_246_46, u_246_47, u_246_50, u_246_53, u_246_54, u_246_55, u_246_57, u_246_58, u_246_61, u_246_62, u_246_63, u_246_66, u_246_69, u_246_70, u_246_71, u_246_72, u_246_75, u_246_78, u_246_81, u_246_82, u_246_85, u_246_88, u_246_89, gI0, gIs, gR0, gRs, gF0, gFs, st0, st_i, st_r, st_f, st_n, st_s, true_and, and_true, ↓ifLeT, ↓ifLeF, ↓ifLtT, ↓ifLtF, ↓ifEqT, ↓ifEqF, if_tt, if_ff, if_pos, if_neg, nLe, nLt, nEq, nInT, nCl, pk_mul, nI_add, Nat.reduceAdd, s_cat_nil, s_cat_i, s_cat_r, s_cat_f, s_cat_l, tl_s, tl_n, cat_i, cat_r, cat_f, nb0, nb1, nbI, if_bI, if_bIr, Nat.zero_le, Nat.reduceLeDiff, M_ob, M_g0, M_g1, M_g2, M_g3, M_g4, M_g5, M_g6, M_g7, M_g8, M_g9, M_g10, M_g11, M_g12, M_g13, M_g14, M_g15, M_g16, M_g17, M_g18, M_g19, M_g20, M_g21, M_g22, M_g23, M_g24, M_g25, M_g26, M_g27, M_g28, M_g29, M_g30, M_g31, M_g32, M_g33, M_g34, M_g35, M_g36, M_g37, M_g38, M_g39, M_g40, M_g41, M_s0, kI_xI, kI_xB, kI_xA, kI_xV, kB_xI, kB_xB, kB_xA, kB_xV, kA_xI, kA_xB, kA_xA, kA_xV, kV_xI, kV_xB, kV_xA, kV_xV, Nat.reduceEqDiff, reduceIte, q1, g10, Option.isSome, iBt, nI10]
      exact K _ hm0
    · simp only [if_neg h2] at K
      have ne : ¬ nI (nF n 2) = nI 1 := fun q => by have := (nI_eq (by omega) (by omega)).mp q; omega
      cases h2 : ixN x 301 with
      | none =>
        simp only [h2] at K
        simp (disch := omega) only [u_246_0, u_246_1, u_246_2, u_246_5, u_246_6, u_246_9, u_246_12, u_246_13, u_246_16, u_246_17, u_246_20, u_246_21, u_246_22, u_246_23, u_246_26, u_246_29, u_246_32, u_246_33, u_246_34, u_246_35, u_246_38, u_246_39, u_246_42, u_246_45, u_246_46, u_246_47, u_246_50, u_246_53, u_246_54, u_246_55, u_246_57, u_246_58, u_246_61, u_246_62, u_246_63, u_246_66, u_246_69, u_246_70, u_246_71, u_246_72, u_246_75, u_246_78, u_246_81, u_246_82, u_246_85, u_246_88, u_246_89, gI0, gIs, gR0, gRs, gF0, gFs, st0, st_i, st_r, st_f, st_n, st_s, true_and, and_true, ↓ifLeT, ↓ifLeF, ↓ifLtT, ↓ifLtF, ↓ifEqT, ↓ifEqF, if_tt, if_ff, if_pos, if_neg, nLe, nLt, nEq, nInT, nCl, pk_mul, nI_add, Nat.reduceAdd, s_cat_nil, s_cat_i, s_cat_r, s_cat_f, s_cat_l, tl_s, tl_n, cat_i, cat_r, cat_f, nb0, nb1, nbI, if_bI, if_bIr, Nat.zero_le, Nat.reduceLeDiff, M_ob, M_g0, M_g1, M_g2, M_g3, M_g4, M_g5, M_g6, M_g7, M_g8, M_g9, M_g10, M_g11, M_g12, M_g13, M_g14, M_g15, M_g16, M_g17, M_g18, M_g19, M_g20, M_g21, M_g22, M_g23, M_g24, M_g25, M_g26, M_g27, M_g28, M_g29, M_g30, M_g31, M_g32, M_g33, M_g34, M_g35, M_g36, M_g37, M_g38, M_g39, M_g40, M_g41, M_s0, kI_xI, kI_xB, kI_xA, kI_xV, kB_xI, kB_xB, kB_xA, kB_xV, kA_xI, kA_xB, kA_xA, kA_xV, kV_xI, kV_xB, kV_xA, kV_xV, Nat.reduceEqDiff, reduceIte, q1, g10, ne, in301, h2, Option.isSome, iBt, iBf, nI10]
        exact K _ hm0
      | some k =>
        simp only [h2] at K
        obtain ⟨k1, rfl⟩ := ix_some (by omega) h2
        simp (disch := omega) only [u_246_0, u_246_1, u_246_2, u_246_5, u_246_6, u_246_9, u_246_12, u_246_13, u_246_16, u_246_17, u_246_20, u_246_21, u_246_22, u_246_23, u_246_26, u_246_29, u_246_32, u_246_33, u_246_34, u_246_35, u_246_38, u_246_39, u_246_42, u_246_45, u_246_46, u_246_47, u_246_50, u_246_53, u_246_54, u_246_55, u_246_57, u_246_58, u_246_61, u_246_62, u_246_63, u_246_66, u_246_69, u_246_70, u_246_71, u_246_72, u_246_75, u_246_78, u_246_81, u_246_82, u_246_85, u_246_88, u_246_89, gI0, gIs, gR0, gRs, gF0, gFs, st0, st_i, st_r, st_f, st_n, st_s, true_and, and_true, ↓ifLeT, ↓ifLeF, ↓ifLtT, ↓ifLtF, ↓ifEqT, ↓ifEqF, if_tt, if_ff, if_pos, if_neg, nLe, nLt, nEq, nInT, nCl, pk_mul, nI_add, Nat.reduceAdd, s_cat_nil, s_cat_i, s_cat_r, s_cat_f, s_cat_l, tl_s, tl_n, cat_i, cat_r, cat_f, nb0, nb1, nbI, if_bI, if_bIr, Nat.zero_le, Nat.reduceLeDiff, M_ob, M_g0, M_g1, M_g2, M_g3, M_g4, M_g5, M_g6, M_g7, M_g8, M_g9, M_g10, M_g11, M_g12, M_g13, M_g14, M_g15, M_g16, M_g17, M_g18, M_g19, M_g20, M_g21, M_g22, M_g23, M_g24, M_g25, M_g26, M_g27, M_g28, M_g29, M_g30, M_g31, M_g32, M_g33, M_g34, M_g35, M_g36, M_g37, M_g38, M_g39, M_g40, M_g41, M_s0, kI_xI, kI_xB, kI_xA, kI_xV, kB_xI, kB_xB, kB_xA, kB_xV, kA_xI, kA_xB, kA_xA, kA_xV, kV_xI, kV_xB, kV_xA, kV_xV, Nat.reduceEqDiff, reduceIte, q1, g10, ne, in301, h2, Option.isSome, iBt, nI10]
        refine r_copy rb320 rb329 (by decide) fun f hf => ?_
        have hr0 : RR (kA (xA (xI m 0 (nI 0)) 329 f) 329) n := by rw [kA_eq]; exact RR_cong hok.1 hf hr
        have hg0 := MG_fr rb329 hg (frM_b (b := 329) (f := f))
        have e1 := fun Q => r_near (d := d + 7) (h := h) (Q := Q) rb329 hok.1 hg0 hr0 (by omega)
        have ml := minN_le (f := gapN n) (b := nF n 0) (nF n 2 - 1)
        simp (disch := omega) only [u_246_0, u_246_1, u_246_2, u_246_5, u_246_6, u_246_9, u_246_12, u_246_13, u_246_16, u_246_17, u_246_20, u_246_21, u_246_22, u_246_23, u_246_26, u_246_29, u_246_32, u_246_33, u_246_34, u_246_35, u_246_38, u_246_39, u_246_42, u_246_45, u_246_46, u_246_47, u_246_50, u_246_53, u_246_54, u_246_55, u_246_57, u_246_58, u_246_61, u_246_62, u_246_63, u_246_66, u_246_69, u_246_70, u_246_71, u_246_72, u_246_75, u_246_78, u_246_81, u_246_82, u_246_85, u_246_88, u_246_89, gI0, gIs, gR0, gRs, gF0, gFs, st0, st_i, st_r, st_f, st_n, st_s, true_and, and_true, ↓ifLeT, ↓ifLeF, ↓ifLtT, ↓ifLtF, ↓ifEqT, ↓ifEqF, if_tt, if_ff, if_pos, if_neg, nLe, nLt, nEq, nInT, nCl, pk_mul, nI_add, Nat.reduceAdd, s_cat_nil, s_cat_i, s_cat_r, s_cat_f, s_cat_l, tl_s, tl_n, cat_i, cat_r, cat_f, nb0, nb1, nbI, if_bI, if_bIr, Nat.zero_le, Nat.reduceLeDiff, M_ob, M_g0, M_g1, M_g2, M_g3, M_g4, M_g5, M_g6, M_g7, M_g8, M_g9, M_g10, M_g11, M_g12, M_g13, M_g14, M_g15, M_g16, M_g17, M_g18, M_g19, M_g20, M_g21, M_g22, M_g23, M_g24, M_g25, M_g26, M_g27, M_g28, M_g29, M_g30, M_g31, M_g32, M_g33, M_g34, M_g35, M_g36, M_g37, M_g38, M_g39, M_g40, M_g41, e1]
        have go := md_near (d := d + 1) (h := h) (Q := Q) (N := k) hok.1 (by omega) (by omega) k 0 _ (Nat.zero_add _) hg0 hr0 fun m' f2 => K m' (RM_fr (frZ_M (Or.inl rfl) (frM_t frM_b f2)) hm0)
        have e : minN (fun i => minN (gapN (runN i n)) (nF n 0) (nF n 2 - 1)) (nF n 0) (0 + 1) = minN (gapN n) (nF n 0) (nF n 2 - 1) := Nat.min_eq_right ml
        rw [e] at go
        exact go
end MD
