/-! the reference's swings -/
section MSG
variable {d : Nat} {m : tM} {h : sH} {c x : Int32} {Q : sQ} {n : tN} {z : tQ} {a b : UInt32}
theorem x_max (ha : goodW a) (hb : goodW b) : MT (d + 1) 1002 [.float a, .float b] h Q ↔ Q (some (.float (if b.toNat ≤ a.toNat then a else b))) h := by
  rw [MT_ext (by decide)]
  show (∃ a' b', [Value.float a, Value.float b] = [Value.float a', Value.float b'] ∧ _ ∧ _ ∧ _) ↔ _
  constructor
  · rintro ⟨a', b', e, -, -, hq⟩
    simp only [List.cons.injEq, Value.float.injEq, and_true] at e
    obtain ⟨rfl, rfl⟩ := e
    exact hq
  · exact fun hq => ⟨a, b, rfl, good_fin ha, good_fin hb, hq⟩
theorem swm_lp {N q : Nat} (hN : N < 2 ^ 20) (hq : q < nF n 2) : ∀ i k m w, k + i = N → wfN n → MG m (runN k n) → RR (kA m 329) (runN k n) → goodW w → w.toNat = maxN (fun i => (nW (runN i n) q).toNat) (k + 1) → (∀ m', frM 329 m m' → Q (some (.int (nI (maxN (fun i => (nW (runN i n) q).toNat) (N + 1))))) (pM m' h)) → WP (d + 8) 247 50 [.ref 317, .int (nI q), .int (nI N), .float w, .int (nI k)] [] (pM m h) (0, 0) Q := by
  intro i
  induction i with
  | zero =>
    intro k m w hk hn hg hr hw e K
    have ek : k = N := by omega
    subst ek
    have e2 := fun Q => m_fbits (d := d + 6) (h := pM m h) (Q := Q) hw
    rw [u_247_50]
    simp (disch := omega) only [u_247_52, u_247_53, u_247_56, u_247_57, u_247_58, u_247_61, u_247_64, u_247_65, u_247_66, u_247_69, u_247_70, u_247_73, u_247_76, u_247_77, u_247_80, u_247_83, u_247_84, u_247_87, gI0, gIs, gR0, gRs, gF0, gFs, st0, st_i, st_r, st_f, st_n, st_s, true_and, and_true, ↓ifLeT, ↓ifLeF, ↓ifLtT, ↓ifLtF, ↓ifEqT, ↓ifEqF, if_tt, if_ff, if_pos, if_neg, nLe, nLt, nEq, nInT, nCl, pk_mul, nI_add, Nat.reduceAdd, s_cat_nil, s_cat_i, s_cat_r, s_cat_f, s_cat_l, tl_s, tl_n, cat_i, cat_r, cat_f, nb0, nb1, nbI, if_bI, if_bIr, Nat.zero_le, Nat.reduceLeDiff, e2]
    rw [e]
    exact K m frM_r
  | succ i ih =>
    intro k m w hk hn hg hr hw e K
    rw [u_247_50]
    simp (disch := omega) only [u_247_52, u_247_53, u_247_56, u_247_57, u_247_58, u_247_61, gI0, gIs, gR0, gRs, gF0, gFs, st0, st_i, st_r, st_f, st_n, st_s, true_and, and_true, ↓ifLeT, ↓ifLeF, ↓ifLtT, ↓ifLtF, ↓ifEqT, ↓ifEqF, if_tt, if_ff, if_pos, if_neg, nLe, nLt, nEq, nInT, nCl, pk_mul, nI_add, Nat.reduceAdd, s_cat_nil, s_cat_i, s_cat_r, s_cat_f, s_cat_l, tl_s, tl_n, cat_i, cat_r, cat_f, nb0, nb1, nbI, if_bI, if_bIr, Nat.zero_le, Nat.reduceLeDiff, M_ob, M_g0, M_g1, M_g2, M_g3, M_g4, M_g5, M_g6, M_g7, M_g8, M_g9, M_g10, M_g11, M_g12, M_g13, M_g14, M_g15, M_g16, M_g17, M_g18, M_g19, M_g20, M_g21, M_g22, M_g23, M_g24, M_g25, M_g26, M_g27, M_g28, M_g29, M_g30, M_g31, M_g32, M_g33, M_g34, M_g35, M_g36, M_g37, M_g38, M_g39, M_g40, M_g41]
    refine r_minute (d := d) rb329 (wf_run hn k) hg hr fun m1 f1 r1 d1 => ?_
    have hn1 := wf_run hn (k + 1)
    rw [← run_succ] at r1
    have hq1 : q < nF (runN (k + 1) n) 2 := by rw [run_F (by decide)]; exact hq
    have e3 := fun Q => r_sway (d := d + 6) (h := h) (Q := Q) rb329 hn1 r1 hq1
    have g1 : goodW (nW (runN (k + 1) n) q) := (hn1.2.1.1 q hq1).2.2.2
    have e4 := fun Q => x_max (d := d + 7) (h := pM m1 h) (Q := Q) hw g1
    simp (disch := omega) only [u_247_64, u_247_65, u_247_66, u_247_69, u_247_70, u_247_73, u_247_76, u_247_77, u_247_80, gI0, gIs, gR0, gRs, gF0, gFs, st0, st_i, st_r, st_f, st_n, st_s, true_and, and_true, ↓ifLeT, ↓ifLeF, ↓ifLtT, ↓ifLtF, ↓ifEqT, ↓ifEqF, if_tt, if_ff, if_pos, if_neg, nLe, nLt, nEq, nInT, nCl, pk_mul, nI_add, Nat.reduceAdd, s_cat_nil, s_cat_i, s_cat_r, s_cat_f, s_cat_l, tl_s, tl_n, cat_i, cat_r, cat_f, nb0, nb1, nbI, if_bI, if_bIr, Nat.zero_le, Nat.reduceLeDiff, M_ob, M_g0, M_g1, M_g2, M_g3, M_g4, M_g5, M_g6, M_g7, M_g8, M_g9, M_g10, M_g11, M_g12, M_g13, M_g14, M_g15, M_g16, M_g17, M_g18, M_g19, M_g20, M_g21, M_g22, M_g23, M_g24, M_g25, M_g26, M_g27, M_g28, M_g29, M_g30, M_g31, M_g32, M_g33, M_g34, M_g35, M_g36, M_g37, M_g38, M_g39, M_g40, M_g41, e3, e4]
    refine ih (k + 1) m1 _ (by omega) hn (by rw [run_succ]; exact MG_fr rb329 hg f1) r1 ?_ ?_ fun m' f2 => K m' (frM_t f1 f2)
    · split
      · exact hw
      · exact g1
    · show _ = max (maxN (fun i => (nW (runN i n) q).toNat) (k + 1)) (nW (runN (k + 1) n) q).toNat
      rw [← e]
      split <;> omega
theorem z_swings (hm : RM m z) (K : ∀ m', RM m' z → Q (some (.int (zswings z c x))) (pM m' h)) : MT (d + 9) 247 [.ref 317, .int c, .int x] (pM m h) Q := by
  rw [MT_go (by decide) _ _ _ (Nat.le_of_ble_eq_true rfl), show s_entry 247 [.ref 317, .int c, .int x] = [.ref 317, .int c, .int x, s_no, s_no] from rfl]
  have hm0 := RM_0 (x := nI 0) hm
  have e1 := fun Q => z_isC (d := d + 6) (h := h) (Q := Q) (x := c) hm0
  unfold zswings at K
  cases hq : zQ z with
  | none =>
    simp only [hq] at K
    rw [zC_0 hq, ix_0] at e1
    simp (disch := omega) only [u_247_0, u_247_1, u_247_2, u_247_5, u_247_6, u_247_7, u_247_10, u_247_13, u_247_14, u_247_15, u_247_16, u_247_19, u_247_22, u_247_25, u_247_26, gI0, gIs, gR0, gRs, gF0, gFs, st0, st_i, st_r, st_f, st_n, st_s, true_and, and_true, ↓ifLeT, ↓ifLeF, ↓ifLtT, ↓ifLtF, ↓ifEqT, ↓ifEqF, if_tt, if_ff, if_pos, if_neg, nLe, nLt, nEq, nInT, nCl, pk_mul, nI_add, Nat.reduceAdd, s_cat_nil, s_cat_i, s_cat_r, s_cat_f, s_cat_l, tl_s, tl_n, cat_i, cat_r, cat_f, nb0, nb1, nbI, if_bI, if_bIr, Nat.zero_le, Nat.reduceLeDiff, M_ob, M_s0, e1, Option.isSome, iBf]
    exact K _ hm0
  | some n =>
    simp only [hq] at K
    rw [zC_s hq] at e1
    obtain ⟨hg, hr, hok⟩ := RM_q hm0 hq
    have h4 := hok.1.1.1
    cases h1 : ixN c (nF n 2) with
    | none =>
      rw [h1] at e1
      simp only [h1] at K
      simp (disch := omega) only [u_247_0, u_247_1, u_247_2, u_247_5, u_247_6, u_247_7, u_247_10, u_247_13, u_247_14, u_247_15, u_247_16, u_247_19, u_247_22, u_247_25, u_247_26, gI0, gIs, gR0, gRs, gF0, gFs, st0, st_i, st_r, st_f, st_n, st_s, true_and, and_true, ↓ifLeT, ↓ifLeF, ↓ifLtT, ↓ifLtF, ↓ifEqT, ↓ifEqF, if_tt, if_ff, if_pos, if_neg, nLe, nLt, nEq, nInT, nCl, pk_mul, nI_add, Nat.reduceAdd, s_cat_nil, s_cat_i, s_cat_r, s_cat_f, s_cat_l, tl_s, tl_n, cat_i, cat_r, cat_f, nb0, nb1, nbI, if_bI, if_bIr, Nat.zero_le, Nat.reduceLeDiff, M_ob, M_s0, e1, Option.isSome, iBf]
      exact K _ hm0
    | some j =>
      rw [h1] at e1
      cases h2 : ixN x 301 with
      | none =>
        simp only [h1, h2] at K
        simp (disch := omega) only [u_247_0, u_247_1, u_247_2, u_247_5, u_247_6, u_247_7, u_247_10, u_247_13, u_247_14, u_247_15, u_247_16, u_247_19, u_247_22, u_247_25, u_247_26, gI0, gIs, gR0, gRs, gF0, gFs, st0, st_i, st_r, st_f, st_n, st_s, true_and, and_true, ↓ifLeT, ↓ifLeF, ↓ifLtT, ↓ifLtF, ↓ifEqT, ↓ifEqF, if_tt, if_ff, if_pos, if_neg, nLe, nLt, nEq, nInT, nCl, pk_mul, nI_add, Nat.reduceAdd, s_cat_nil, s_cat_i, s_cat_r, s_cat_f, s_cat_l, tl_s, tl_n, cat_i, cat_r, cat_f, nb0, nb1, nbI, if_bI, if_bIr, Nat.zero_le, Nat.reduceLeDiff, M_ob, M_s0, e1, in301, h2, Option.isSome, iBt, iBf, nI10, reduceIte]
        exact K _ hm0
      | some k =>
        simp only [h1, h2] at K
        obtain ⟨j1, rfl⟩ := ix_some (by omega) h1
        obtain ⟨k1, rfl⟩ := ix_some (by omega) h2
        simp (disch := omega) only [u_247_0, u_247_1, u_247_2, u_247_5, u_247_6, u_247_7, u_247_10, u_247_13, u_247_14, u_247_15, u_247_16, u_247_19, u_247_22, u_247_25, u_247_26, u_247_27, u_247_28, u_247_31, u_247_32, u_247_35, gI0, gIs, gR0, gRs, gF0, gFs, st0, st_i, st_r, st_f, st_n, st_s, true_and, and_true, ↓ifLeT, ↓ifLeF, ↓ifLtT, ↓ifLtF, ↓ifEqT, ↓ifEqF, if_tt, if_ff, if_pos, if_neg, nLe, nLt, nEq, nInT, nCl, pk_mul, nI_add, Nat.reduceAdd, s_cat_nil, s_cat_i, s_cat_r, s_cat_f, s_cat_l, tl_s, tl_n, cat_i, cat_r, cat_f, nb0, nb1, nbI, if_bI, if_bIr, Nat.zero_le, Nat.reduceLeDiff, M_ob, M_g0, M_g1, M_g2, M_g3, M_g4, M_g5, M_g6, M_g7, M_g8, M_g9, M_g10, M_g11, M_g12, M_g13, M_g14, M_g15, M_g16, M_g17, M_g18, M_g19, M_g20, M_g21, M_g22, M_g23, M_g24, M_g25, M_g26, M_g27, M_g28, M_g29, M_g30, M_g31, M_g32, M_g33, M_g34, M_g35, M_g36, M_g37, M_g38, M_g39, M_g40, M_g41, M_s0, e1, in301, h2, Option.isSome, iBt, nI10, reduceIte]
        refine r_copy rb320 rb329 (by decide) fun f hf => ?_
        have r2 : RR (kA (xA (xI m 0 (nI 0)) 329 f) 329) n := by rw [kA_eq]; exact RR_cong hok.1 hf hr
        have e3 := fun Q => r_sway (d := d + 6) (h := h) (Q := Q) rb329 hok.1 r2 j1
        simp (disch := omega) only [u_247_38, u_247_39, u_247_42, u_247_43, u_247_46, u_247_47, u_247_48, gI0, gIs, gR0, gRs, gF0, gFs, st0, st_i, st_r, st_f, st_n, st_s, true_and, and_true, ↓ifLeT, ↓ifLeF, ↓ifLtT, ↓ifLtF, ↓ifEqT, ↓ifEqF, if_tt, if_ff, if_pos, if_neg, nLe, nLt, nEq, nInT, nCl, pk_mul, nI_add, Nat.reduceAdd, s_cat_nil, s_cat_i, s_cat_r, s_cat_f, s_cat_l, tl_s, tl_n, cat_i, cat_r, cat_f, nb0, nb1, nbI, if_bI, if_bIr, Nat.zero_le, Nat.reduceLeDiff, M_ob, M_g0, M_g1, M_g2, M_g3, M_g4, M_g5, M_g6, M_g7, M_g8, M_g9, M_g10, M_g11, M_g12, M_g13, M_g14, M_g15, M_g16, M_g17, M_g18, M_g19, M_g20, M_g21, M_g22, M_g23, M_g24, M_g25, M_g26, M_g27, M_g28, M_g29, M_g30, M_g31, M_g32, M_g33, M_g34, M_g35, M_g36, M_g37, M_g38, M_g39, M_g40, M_g41, e3]
        refine swm_lp (d := d) (by omega) j1 k 0 _ _ (Nat.zero_add _) hok.1 (MG_fr rb329 hg frM_b) r2 (hok.1.2.1.1 j j1).2.2.2 ?_ fun m' f2 => K m' (RM_fr (frZ_M (Or.inl rfl) (frM_t frM_b f2)) hm0)
        show _ = max 0 (nW n j).toNat
        omega
end MSG
