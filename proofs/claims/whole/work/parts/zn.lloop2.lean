/-! the law's loop -/
def lw_ts : List Nat := [208, 281, 306, 331, 344, 357, 382, 435, 496, 521, 589, 626, 639, 676, 713, 762, 787, 800, 813, 838, 863, 888, 913, 938, 963, 988, 1025, 1050, 1075, 1100, 1125, 1150, 1176, 1189, 1202, 1215, 1240, 1265]
theorem and63 (x : Int32) : ∃ j, j < 64 ∧ x &&& nI 63 = nI j := by
  refine ⟨bitsN (bt x) 6, bitsN_lt 6, b_ext fun i hi => ?_⟩
  have e : ∀ i, i < 32 → Nat.testBit 63 i = decide (i < 6) := by decide
  rw [b_and, b_n hi, b_n hi, bitsN_tb, e i hi, Bool.and_comm]
section LWL
variable {s : tS} {m : tM} {h : sH} {Q : sQ} {z : tQ} {L i k1 k2 : Nat} {xs : Nat → Int32} {v5 v6 : Value}
theorem lw_case (hI : IC s z) (hm : RM m z) (hB : BH h L xs) (hi : i + 6 ≤ L) (hL : L ≤ 3072) (h1 : 6 * k1 ≤ 2010 + i) (h2 : k2 ≤ 9191 + i) (K : ∀ s' m' h' z' v5 v6 k1 k2, IC s' z' → RM m' z' → BH h' L xs → 6 * k1 ≤ 2010 + (i + 6) → k2 ≤ 9191 + (i + 6) → WP 64 275 1290 [.ref 1000000, .ref 0, .ref 317, .ref 334, .int (nI i), v5, v6] [] (pS s' (pM m' h')) (k1, k2) Q) : ∀ j, j < 38 → WP 64 275 (lw_ts.getD j 0) [.ref 1000000, .ref 0, .ref 317, .ref 334, .int (nI i), v5, v6] [] (pS s (pM m h)) (k1, k2) Q := by
  have g1 : k1 ≤ 847 := by omega
  have g2 : k2 ≤ 12263 := by omega
  have K0 : ∀ s' m' z', IC s' z' → RM m' z' → WP 64 275 1290 [.ref 1000000, .ref 0, .ref 317, .ref 334, .int (nI i), v5, v6] [] (pS s' (pM m' h)) (k1, k2) Q := fun s' m' z' a b => K s' m' h z' v5 v6 k1 k2 a b hB (by omega) (by omega)
  intro j hj
  match j, hj with
  | 0, _ => exact lc_feed hI hm hB hi hL g1 g2 K0
  | 1, _ => exact lc_end hI hm hB hi hL g1 g2 K0
  | 2, _ => exact lc_fault hI hm hB hi hL g1 g2 K0
  | 3, _ => exact lc_quay hI hm hB hi hL g1 g2 K0
  | 4, _ => exact lc_plan hI hm hB hi hL g1 g2 K0
  | 5, _ => exact lc_go hI hm hB hi hL g1 g2 K0
  | 6, _ => exact lc_breaks hI hm hB hi hL g1 g2 K0
  | 7, _ => exact lc_more hI hm hB hi hL g1 g2 K0
  | 8, _ => exact lc_rule hI hm hB hi hL g1 g2 K0
  | 9, _ => exact lc_crane hI hm hB hi hL (by omega) (by omega) fun s' m' h' z' v5 v6 a b c => K s' m' h' z' v5 v6 _ _ a b c (by omega) (by omega)
  | 10, _ => exact lc_task hI hm hB hi hL g1 g2 K0
  | 11, _ => exact lc_last hI hm hB hi hL g1 g2 K0
  | 12, _ => exact lc_where hI hm hB hi hL g1 g2 K0
  | 13, _ => exact lc_deed hI hm hB hi hL g1 g2 K0
  | 14, _ => exact lc_deeds hI hm hB hi hL g1 g2 K0
  | 15, _ => exact lc_doneBy hI hm hB hi hL g1 g2 K0
  | 16, _ => exact lc_tried hI hm hB hi hL g1 g2 K0
  | 17, _ => exact lc_moves hI hm hB hi hL g1 g2 K0
  | 18, _ => exact lc_best hI hm hB hi hL g1 g2 K0
  | 19, _ => exact lc_easy hI hm hB hi hL g1 g2 K0
  | 20, _ => exact lc_zones hI hm hB hi hL g1 g2 K0
  | 21, _ => exact lc_better hI hm hB hi hL g1 g2 K0
  | 22, _ => exact lc_follow hI hm hB hi hL g1 g2 K0
  | 23, _ => exact lc_written hI hm hB hi hL g1 g2 K0
  | 24, _ => exact lc_nearest hI hm hB hi hL g1 g2 K0
  | 25, _ => exact lc_swings hI hm hB hi hL g1 g2 K0
  | 26, _ => exact lc_idle hI hm hB hi hL g1 g2 K0
  | 27, _ => exact lc_dearest hI hm hB hi hL g1 g2 K0
  | 28, _ => exact lc_bound hI hm hB hi hL g1 g2 K0
  | 29, _ => exact lc_without hI hm hB hi hL g1 g2 K0
  | 30, _ => exact lc_slack hI hm hB hi hL g1 g2 K0
  | 31, _ => exact lc_mean hI hm hB hi hL g1 g2 K0
  | 32, _ => exact lc_undo hI hm hB hi hL g1 g2 K0
  | 33, _ => exact lc_image hI hm hB hi hL g1 g2 K0
  | 34, _ => exact lc_back hI hm hB hi hL g1 g2 K0
  | 35, _ => exact lc_status hI hm hB hi hL g1 g2 K0
  | 36, _ => exact lc_most hI hm hB hi hL g1 g2 K0
  | 37, _ => exact lc_count hI hm hB hi hL g1 g2 K0
  | j + 38, hj => exact absurd hj (by omega)
theorem lw_loop (hL : L ≤ 3072) (K : ∀ h, Q (some (.int (nI 1))) h) : ∀ r i s m z h k1 k2 v5 v6, L ≤ i + r → i ≤ 3072 → IC s z → RM m z → BH h L xs → 6 * k1 ≤ 2010 + i → k2 ≤ 9191 + i → WP 64 275 23 [.ref 1000000, .ref 0, .ref 317, .ref 334, .int (nI i), v5, v6] [] (pS s (pM m h)) (k1, k2) Q := by
  intro r
  induction r with
  | zero =>
    intro i s m z h k1 k2 v5 v6 hr hi hI hm hB h1 h2
    have sl : nI L - nI 6 < nI i := (sub_lt (by omega) (by omega) (by omega)).mpr (by omega)
    simp (disch := omega) only [u_275_23, u_275_25, u_275_26, u_275_27, u_275_29, u_275_30, u_275_1296, u_275_1297, gI0, gIs, gR0, gRs, gF0, gFs, st0, st_i, st_r, st_f, st_n, st_s, true_and, and_true, ↓ifLeT, ↓ifLeF, ↓ifLtT, ↓ifLtF, ↓ifEqT, ↓ifEqF, if_tt, if_ff, if_pos, if_neg, nLe, nLt, nEq, nInT, nCl, pk_mul, nI_add, Nat.reduceAdd, s_cat_nil, s_cat_i, s_cat_r, s_cat_f, s_cat_l, tl_s, tl_n, cat_i, cat_r, cat_f, nb0, nb1, nbI, if_bI, if_bIr, Nat.zero_le, Nat.reduceLeDiff, L_n hB, sl]
    exact K _
  | succ r ih =>
    intro i s m z h k1 k2 v5 v6 hr hi hI hm hB h1 h2
    by_cases g : L < 6 + i
    · have sl : nI L - nI 6 < nI i := (sub_lt (by omega) (by omega) (by omega)).mpr g
      simp (disch := omega) only [u_275_23, u_275_25, u_275_26, u_275_27, u_275_29, u_275_30, u_275_1296, u_275_1297, gI0, gIs, gR0, gRs, gF0, gFs, st0, st_i, st_r, st_f, st_n, st_s, true_and, and_true, ↓ifLeT, ↓ifLeF, ↓ifLtT, ↓ifLtF, ↓ifEqT, ↓ifEqF, if_tt, if_ff, if_pos, if_neg, nLe, nLt, nEq, nInT, nCl, pk_mul, nI_add, Nat.reduceAdd, s_cat_nil, s_cat_i, s_cat_r, s_cat_f, s_cat_l, tl_s, tl_n, cat_i, cat_r, cat_f, nb0, nb1, nbI, if_bI, if_bIr, Nat.zero_le, Nat.reduceLeDiff, L_n hB, sl]
      exact K _
    · have sl : ¬ nI L - nI 6 < nI i := fun q => g ((sub_lt (by omega) (by omega) (by omega)).mp q)
      have back : ∀ s' m' h' z' v5 v6 k1 k2, IC s' z' → RM m' z' → BH h' L xs → 6 * k1 ≤ 2010 + (i + 6) → k2 ≤ 9191 + (i + 6) → WP 64 275 1290 [.ref 1000000, .ref 0, .ref 317, .ref 334, .int (nI i), v5, v6] [] (pS s' (pM m' h')) (k1, k2) Q := fun s' m' h' z' v5 v6 k1 k2 a b c e f => by
        simp (disch := omega) only [u_275_1290, u_275_1293, gI0, gIs, gR0, gRs, gF0, gFs, st0, st_i, st_r, st_f, st_n, st_s, true_and, and_true, ↓ifLeT, ↓ifLeF, ↓ifLtT, ↓ifLtF, ↓ifEqT, ↓ifEqF, if_tt, if_ff, if_pos, if_neg, nLe, nLt, nEq, nInT, nCl, pk_mul, nI_add, Nat.reduceAdd, s_cat_nil, s_cat_i, s_cat_r, s_cat_f, s_cat_l, tl_s, tl_n, cat_i, cat_r, cat_f, nb0, nb1, nbI, if_bI, if_bIr, Nat.zero_le, Nat.reduceLeDiff]
        exact ih (i + 6) s' m' z' h' k1 k2 v5 v6 (by omega) (by omega) a b c e f
      have cs := lw_case (v5 := v5) (v6 := v6) hI hm hB (by omega) hL h1 h2 back
      obtain ⟨j, j64, ej⟩ := and63 (xs i)
      have go : s_sw (fun t => WP 64 275 t [.ref 1000000, .ref 0, .ref 317, .ref 334, .int (nI i), v5, v6] [] (pS s (pM m h)) (k1, k2) Q) (xs i &&& nI 63) lw_ts 0 1290 := by
        have e38 : lw_ts.length = 38 := rfl
        rw [s_sw_spec lw_ts 0 (by rw [e38]; decide), ej, nI_toInt (by omega), e38]
        by_cases j38 : j < 38
        · rw [if_pos (by omega), show ((j : Int).toNat - 0) = j by omega]
          exact cs j j38
        · rw [if_neg (by omega)]
          exact back s m h z v5 v6 k1 k2 hI hm hB (by omega) (by omega)
      simp (disch := omega) only [u_275_23, u_275_25, u_275_26, u_275_27, u_275_29, u_275_30, u_275_33, u_275_34, u_275_36, u_275_37, u_275_39, u_275_40, gI0, gIs, gR0, gRs, gF0, gFs, st0, st_i, st_r, st_f, st_n, st_s, true_and, and_true, ↓ifLeT, ↓ifLeF, ↓ifLtT, ↓ifLtF, ↓ifEqT, ↓ifEqF, if_tt, if_ff, if_pos, if_neg, nLe, nLt, nEq, nInT, nCl, pk_mul, nI_add, Nat.reduceAdd, s_cat_nil, s_cat_i, s_cat_r, s_cat_f, s_cat_l, tl_s, tl_n, cat_i, cat_r, cat_f, nb0, nb1, nbI, if_bI, if_bIr, Nat.zero_le, Nat.reduceLeDiff, L_n hB, L_x hB, sl, reduceIte]
      exact go
end LWL
