/-! the reference: a task taken out and put in -/
theorem nodup_idx : ∀ {l : List Nat} {k : Nat}, l.Nodup → k < l.length → idxN (l.getD k 0) l = k
  | [], k, _, h => absurd h (Nat.not_lt_zero k)
  | u :: l, 0, _, _ => if_pos rfl
  | u :: l, k + 1, hn, h => by
    have h' : k < l.length := Nat.lt_of_succ_lt_succ h
    obtain ⟨n1, n2⟩ := List.nodup_cons.mp hn
    have e : (u :: l).getD (k + 1) 0 = l.getD k 0 := rfl
    rw [e, idxN, if_neg (fun q => n1 (by rw [q]; exact getD_mem h')), nodup_idx n2 h']
theorem insG {l : List Nat} {j t i : Nat} (hj : j ≤ l.length) (hi : i ≤ l.length) : (insL l j t).getD i 0 = if i < j then l.getD i 0 else if i = j then t else l.getD (i - 1) 0 := by
  unfold insL
  have lt : (l.take j).length = j := by rw [List.length_take]; omega
  by_cases e : i < j
  · rw [if_pos e, List.getD_eq_getElem?_getD, List.getElem?_append_left (by omega), List.getElem?_take, if_pos e, List.getD_eq_getElem?_getD]
  · rw [if_neg e, List.getD_eq_getElem?_getD, List.getElem?_append_right (by omega), lt]
    by_cases e2 : i = j
    · rw [if_pos e2, e2, Nat.sub_self]
      rfl
    · obtain ⟨k, hk⟩ : ∃ k, i - j = k + 1 := ⟨i - j - 1, by omega⟩
      rw [if_neg e2, hk, List.getElem?_cons_succ, List.getElem?_drop, show j + k = i - 1 by omega, List.getD_eq_getElem?_getD]
section MBT
variable {b d : Nat} {m : tM} {h : sH} {Q : sQ} {n : tN} {l : tL}
theorem r_takes {w t : Nat} (hn : wfN (jL n l)) (hw : w < nF n 2) (ht : t ∈ l w) (hr : RR (kA m 330) (jL n l)) (K : ∀ f, RR f (jL n (rmvL l w t)) → Q none (pM (xA m 330 f) h)) : MT (d + 2) 236 [.ref 317, .int (nI w), .int (nI t)] (pM m h) Q := by
  have h4 : nF n 2 ≤ 4 := hn.1.1
  have h8 : nF n 3 ≤ 8 := hn.1.2.1
  have l8 : ∀ q, (l q).length ≤ 8 := fun q => wfL_len (n := jL n l) hn.1 hn.2.2.2 q
  have lw8 := l8 w
  obtain ⟨-, -, -, a4, a5⟩ := hr.2.2.1 w hw
  have a4 : kA m 330 (2 + 12 * w + 3) = nI (l w).length := a4
  have a5 : ∀ k, k < (l w).length → kA m 330 (2 + 12 * w + (4 + k)) = nI ((l w).getD k 0) := a5
  have tT : ∀ u, u ∈ l w → u < nF n 3 := (hn.2.2.2.2.1 w).2
  have nd : (l w).Nodup := (hn.2.2.2.2.1 w).1
  have t8 := tT t ht
  have iL := idx_lt ht
  have iA := idx_at ht
  have le := List.length_erase_of_mem ht
  rw [MT_go (by decide) _ _ _ (Nat.le_of_ble_eq_true rfl), show s_entry 236 [.ref 317, .int (nI w), .int (nI t)] = [.ref 317, .int (nI w), .int (nI t), s_no, s_no, s_no] from rfl]
  have lp : ∀ q k g v5, k + q = (l w).length → (∀ j, j < 2 + 12 * w + 4 ∨ 2 + 12 * w + 12 ≤ j → g j = kA m 330 j) → (∀ i, i < (if k ≤ idxN t (l w) then k else k - 1) → g (2 + 12 * w + (4 + i)) = nI (((l w).erase t).getD i 0)) → (∀ i, k ≤ i → i < (l w).length → g (2 + 12 * w + (4 + i)) = nI ((l w).getD i 0)) → WP (d + 1) 236 5 [.ref 317, .int (nI w), .int (nI t), .int (nI (if k ≤ idxN t (l w) then k else k - 1)), .int (nI k), v5] [] (pM (xA m 330 g) h) (0, 0) Q := by
    intro q
    induction q with
    | zero =>
      intro k g v5 hk h1 h2 h3
      have e : k = (l w).length := by omega
      subst e
      have ln : g (2 + 12 * w + 3) = nI (l w).length := by rw [h1 _ (by omega)]; exact a4
      have j1 : (if (l w).length ≤ idxN t (l w) then (l w).length else (l w).length - 1) = (l w).length - 1 := if_neg (by omega)
      rw [j1] at h2 ⊢
      rw [u_236_5]
      simp (disch := omega) only [u_236_0, u_236_1, u_236_2, u_236_3, u_236_7, u_236_8, u_236_11, u_236_12, u_236_13, u_236_16, u_236_17, u_236_20, u_236_21, u_236_24, u_236_25, u_236_26, u_236_28, u_236_29, u_236_32, u_236_33, u_236_35, u_236_37, u_236_38, u_236_41, u_236_42, u_236_45, u_236_46, u_236_47, u_236_48, u_236_49, u_236_52, u_236_54, u_236_55, u_236_58, u_236_61, u_236_64, u_236_65, u_236_68, u_236_69, u_236_70, u_236_73, u_236_74, u_236_75, gI0, gIs, gR0, gRs, gF0, gFs, st0, st_i, st_r, st_f, st_n, st_s, true_and, and_true, ↓ifLeT, ↓ifLeF, ↓ifLtT, ↓ifLtF, ↓ifEqT, ↓ifEqF, if_tt, if_ff, if_pos, if_neg, nLe, nLt, nEq, nInT, nCl, pk_mul, nI_add, Nat.reduceAdd, s_cat_nil, s_cat_i, s_cat_r, s_cat_f, s_cat_l, tl_s, tl_n, cat_i, cat_r, cat_f, nb0, nb1, nbI, if_bI, if_bIr, Nat.zero_le, Nat.reduceLeDiff, M_g0, M_g1, M_g2, M_g3, M_g4, M_g5, M_g6, M_g7, M_g8, M_g9, M_g10, M_g11, M_g12, M_g13, M_g14, M_g15, M_g16, M_g17, M_g18, M_g19, M_g20, M_g21, M_g22, M_g23, M_g24, M_g25, M_g26, M_g27, M_g28, M_g29, M_g30, M_g31, M_g32, M_g33, M_g34, M_g35, M_g36, M_g37, M_g38, M_g39, M_g40, M_g41, m_cAt, M_r rb330, M_rw rb330, kA_eq, xA_tw, ln]
      refine K _ (RR_L (c := w) h4 l8 hr (fun j hj => ?_) (fun q hq => if_neg hq) hw ⟨?_, fun i hi => ?_⟩)
      · rw [upd_ne (by omega)]
        exact h1 j (by omega)
      · have : rmvL l w t w = (l w).erase t := if_pos rfl
        rw [this, le]
        exact if_pos rfl
      · have er : rmvL l w t w = (l w).erase t := if_pos rfl
        rw [er] at hi ⊢
        rw [upd_ne (by omega)]
        exact h2 i (by omega)
    | succ q ih =>
      intro k g v5 hk h1 h2 h3
      have ln : g (2 + 12 * w + 3) = nI (l w).length := by rw [h1 _ (by omega)]; exact a4
      have hk' : k < (l w).length := by omega
      have e := h3 k (Nat.le_refl _) hk'
      have ht2 := tT _ (getD_mem hk')
      have ni := nodup_idx nd hk'
      rw [u_236_5]
      by_cases g0 : (l w).getD k 0 = t
      · rw [g0] at e ni
        have j0 : (if k ≤ idxN t (l w) then k else k - 1) = k := if_pos (by omega)
        have j1 : (if k + 1 ≤ idxN t (l w) then k + 1 else k + 1 - 1) = k := if_neg (by omega)
        rw [j0] at h2 ⊢
        have := ih (k + 1) g (.int (nI t)) (by omega) h1 (by rw [j1]; exact h2) (fun i hi => h3 i (by omega))
        rw [j1] at this
        simp (disch := omega) only [u_236_0, u_236_1, u_236_2, u_236_3, u_236_7, u_236_8, u_236_11, u_236_12, u_236_13, u_236_16, u_236_17, u_236_20, u_236_21, u_236_24, u_236_25, u_236_26, u_236_28, u_236_29, u_236_32, u_236_33, u_236_35, u_236_37, u_236_38, u_236_41, u_236_42, u_236_45, u_236_46, u_236_47, u_236_48, u_236_49, u_236_52, u_236_54, u_236_55, u_236_58, u_236_61, u_236_64, u_236_65, u_236_68, u_236_69, u_236_70, u_236_73, u_236_74, u_236_75, gI0, gIs, gR0, gRs, gF0, gFs, st0, st_i, st_r, st_f, st_n, st_s, true_and, and_true, ↓ifLeT, ↓ifLeF, ↓ifLtT, ↓ifLtF, ↓ifEqT, ↓ifEqF, if_tt, if_ff, if_pos, if_neg, nLe, nLt, nEq, nInT, nCl, pk_mul, nI_add, Nat.reduceAdd, s_cat_nil, s_cat_i, s_cat_r, s_cat_f, s_cat_l, tl_s, tl_n, cat_i, cat_r, cat_f, nb0, nb1, nbI, if_bI, if_bIr, Nat.zero_le, Nat.reduceLeDiff, M_g0, M_g1, M_g2, M_g3, M_g4, M_g5, M_g6, M_g7, M_g8, M_g9, M_g10, M_g11, M_g12, M_g13, M_g14, M_g15, M_g16, M_g17, M_g18, M_g19, M_g20, M_g21, M_g22, M_g23, M_g24, M_g25, M_g26, M_g27, M_g28, M_g29, M_g30, M_g31, M_g32, M_g33, M_g34, M_g35, M_g36, M_g37, M_g38, M_g39, M_g40, M_g41, m_cAt, M_r rb330, kA_eq, ln, e]
        exact this
      · have ne : ¬ nI ((l w).getD k 0) = nI t := fun q => g0 ((nI_eq (by omega) (by omega)).mp q)
        have nk : k ≠ idxN t (l w) := fun q => g0 (by rw [q]; exact iA)
        have js : (if k + 1 ≤ idxN t (l w) then k + 1 else k + 1 - 1) = (if k ≤ idxN t (l w) then k else k - 1) + 1 := by
          split <;> split <;> omega
        have jk : (if k ≤ idxN t (l w) then k else k - 1) ≤ k := by split <;> omega
        have ev : ((l w).erase t).getD (if k ≤ idxN t (l w) then k else k - 1) 0 = (l w).getD k 0 := by
          rw [erase_getD _ ht]
          by_cases c : k ≤ idxN t (l w)
          · rw [if_pos c, if_pos (by omega)]
          · rw [if_neg c, if_neg (by omega), show k - 1 + 1 = k by omega]
        have := fun v => ih (k + 1) (upd g (2 + 12 * w + (4 + (if k ≤ idxN t (l w) then k else k - 1))) (nI ((l w).getD k 0))) v (by omega) (fun j hj => by rw [upd_ne (by omega)]; exact h1 j hj) (fun i hi => by
          rw [js] at hi
          by_cases c : i = (if k ≤ idxN t (l w) then k else k - 1)
          · rw [c, ev]; exact if_pos rfl
          · rw [upd_ne (by omega)]; exact h2 i (by omega)) (fun i hi hi2 => by rw [upd_ne (by omega)]; exact h3 i (by omega) hi2)
        rw [js] at this
        generalize (if k ≤ idxN t (l w) then k else k - 1) = J at *
        simp (disch := omega) only [u_236_0, u_236_1, u_236_2, u_236_3, u_236_7, u_236_8, u_236_11, u_236_12, u_236_13, u_236_16, u_236_17, u_236_20, u_236_21, u_236_24, u_236_25, u_236_26, u_236_28, u_236_29, u_236_32, u_236_33, u_236_35, u_236_37, u_236_38, u_236_41, u_236_42, u_236_45, u_236_46, u_236_47, u_236_48, u_236_49, u_236_52, u_236_54, u_236_55, u_236_58, u_236_61, u_236_64, u_236_65, u_236_68, u_236_69, u_236_70, u_236_73, u_236_74, u_236_75, gI0, gIs, gR0, gRs, gF0, gFs, st0, st_i, st_r, st_f, st_n, st_s, true_and, and_true, ↓ifLeT, ↓ifLeF, ↓ifLtT, ↓ifLtF, ↓ifEqT, ↓ifEqF, if_tt, if_ff, if_pos, if_neg, nLe, nLt, nEq, nInT, nCl, pk_mul, nI_add, Nat.reduceAdd, s_cat_nil, s_cat_i, s_cat_r, s_cat_f, s_cat_l, tl_s, tl_n, cat_i, cat_r, cat_f, nb0, nb1, nbI, if_bI, if_bIr, Nat.zero_le, Nat.reduceLeDiff, M_g0, M_g1, M_g2, M_g3, M_g4, M_g5, M_g6, M_g7, M_g8, M_g9, M_g10, M_g11, M_g12, M_g13, M_g14, M_g15, M_g16, M_g17, M_g18, M_g19, M_g20, M_g21, M_g22, M_g23, M_g24, M_g25, M_g26, M_g27, M_g28, M_g29, M_g30, M_g31, M_g32, M_g33, M_g34, M_g35, M_g36, M_g37, M_g38, M_g39, M_g40, M_g41, m_cAt, M_r rb330, M_rw rb330, kA_eq, xA_tw, ln, e, ne]
        exact this _
  have := lp (l w).length 0 (kA m 330) s_no (Nat.zero_add _) (fun _ _ => rfl) (fun i hi => by rw [if_pos (Nat.zero_le _)] at hi; exact absurd hi (Nat.not_lt_zero i)) (fun i _ hi => a5 i hi)
  rw [xA_eta, if_pos (Nat.zero_le _)] at this
  simp (disch := omega) only [u_236_0, u_236_1, u_236_2, u_236_3, u_236_7, u_236_8, u_236_11, u_236_12, u_236_13, u_236_16, u_236_17, u_236_20, u_236_21, u_236_24, u_236_25, u_236_26, u_236_28, u_236_29, u_236_32, u_236_33, u_236_35, u_236_37, u_236_38, u_236_41, u_236_42, u_236_45, u_236_46, u_236_47, u_236_48, u_236_49, u_236_52, u_236_54, u_236_55, u_236_58, u_236_61, u_236_64, u_236_65, u_236_68, u_236_69, u_236_70, u_236_73, u_236_74, u_236_75, gI0, gIs, gR0, gRs, gF0, gFs, st0, st_i, st_r, st_f, st_n, st_s, true_and, and_true, ↓ifLeT, ↓ifLeF, ↓ifLtT, ↓ifLtF, ↓ifEqT, ↓ifEqF, if_tt, if_ff, if_pos, if_neg, nLe, nLt, nEq, nInT, nCl, pk_mul, nI_add, Nat.reduceAdd, s_cat_nil, s_cat_i, s_cat_r, s_cat_f, s_cat_l, tl_s, tl_n, cat_i, cat_r, cat_f, nb0, nb1, nbI, if_bI, if_bIr, Nat.zero_le, Nat.reduceLeDiff]
  exact this
theorem r_puts {c j t : Nat} (hn : wfN (jL n l)) (hc : c < nF n 2) (hj : j ≤ (l c).length) (h7 : (l c).length ≤ 7) (hr : RR (kA m 330) (jL n l)) (K : ∀ f, RR f (jL n (putL l c j t)) → Q none (pM (xA m 330 f) h)) : MT (d + 2) 237 [.ref 317, .int (nI c), .int (nI j), .int (nI t)] (pM m h) Q := by
  have h4 : nF n 2 ≤ 4 := hn.1.1
  have l8 : ∀ q, (l q).length ≤ 8 := fun q => wfL_len (n := jL n l) hn.1 hn.2.2.2 q
  obtain ⟨-, -, -, a4, a5⟩ := hr.2.2.1 c hc
  have a4 : kA m 330 (2 + 12 * c + 3) = nI (l c).length := a4
  have a5 : ∀ k, k < (l c).length → kA m 330 (2 + 12 * c + (4 + k)) = nI ((l c).getD k 0) := a5
  rw [MT_go (by decide) _ _ _ (Nat.le_of_ble_eq_true rfl), show s_entry 237 [.ref 317, .int (nI c), .int (nI j), .int (nI t)] = [.ref 317, .int (nI c), .int (nI j), .int (nI t), s_no] from rfl]
  have lp : ∀ q k g, j + q = k → k ≤ (l c).length → (∀ i, i < 2 + 12 * c + 4 ∨ 2 + 12 * c + 12 ≤ i → g i = kA m 330 i) → (∀ i, i < k → g (2 + 12 * c + (4 + i)) = nI ((l c).getD i 0)) → (∀ i, k < i → i ≤ (l c).length → g (2 + 12 * c + (4 + i)) = nI ((l c).getD (i - 1) 0)) → WP (d + 1) 237 12 [.ref 317, .int (nI c), .int (nI j), .int (nI t), .int (nI k)] [] (pM (xA m 330 g) h) (0, 0) Q := by
    intro q
    induction q with
    | zero =>
      intro k g hk hl h1 h2 h3
      have e : k = j := by omega
      subst e
      have ln : g (2 + 12 * c + 3) = nI (l c).length := by rw [h1 _ (by omega)]; exact a4
      have un : upd g (2 + 12 * c + (4 + k)) (nI t) (2 + 12 * c + 3) = nI (l c).length := by rw [upd_ne (by omega)]; exact ln
      rw [u_237_12]
      simp (disch := omega) only [u_237_0, u_237_1, u_237_4, u_237_5, u_237_6, u_237_9, u_237_10, u_237_14, u_237_15, u_237_18, u_237_19, u_237_22, u_237_23, u_237_24, u_237_26, u_237_27, u_237_30, u_237_31, u_237_34, u_237_35, u_237_36, u_237_38, u_237_39, u_237_40, u_237_41, u_237_44, u_237_45, u_237_46, u_237_49, u_237_52, u_237_53, u_237_56, u_237_57, u_237_58, u_237_59, u_237_60, u_237_63, u_237_64, u_237_65, u_237_66, u_237_69, u_237_70, u_237_71, u_237_74, u_237_75, u_237_76, u_237_77, u_237_78, u_237_79, gI0, gIs, gR0, gRs, gF0, gFs, st0, st_i, st_r, st_f, st_n, st_s, true_and, and_true, ↓ifLeT, ↓ifLeF, ↓ifLtT, ↓ifLtF, ↓ifEqT, ↓ifEqF, if_tt, if_ff, if_pos, if_neg, nLe, nLt, nEq, nInT, nCl, pk_mul, nI_add, Nat.reduceAdd, s_cat_nil, s_cat_i, s_cat_r, s_cat_f, s_cat_l, tl_s, tl_n, cat_i, cat_r, cat_f, nb0, nb1, nbI, if_bI, if_bIr, Nat.zero_le, Nat.reduceLeDiff, M_g0, M_g1, M_g2, M_g3, M_g4, M_g5, M_g6, M_g7, M_g8, M_g9, M_g10, M_g11, M_g12, M_g13, M_g14, M_g15, M_g16, M_g17, M_g18, M_g19, M_g20, M_g21, M_g22, M_g23, M_g24, M_g25, M_g26, M_g27, M_g28, M_g29, M_g30, M_g31, M_g32, M_g33, M_g34, M_g35, M_g36, M_g37, M_g38, M_g39, M_g40, M_g41, m_cAt, M_r rb330, M_rw rb330, kA_eq, xA_tw, un, Nat.le_refl]
      have ep : putL l c k t c = insL (l c) k t := if_pos rfl
      refine K _ (RR_L (c := c) h4 l8 hr (fun i hi => ?_) (fun q hq => if_neg hq) hc ⟨?_, fun i hi => ?_⟩)
      · rw [upd_ne (by omega), upd_ne (by omega)]
        exact h1 i (by omega)
      · rw [ep, ins_len hj]
        exact if_pos rfl
      · rw [ep] at hi ⊢
        rw [ins_len hj] at hi
        rw [upd_ne (by omega), insG hj (by omega)]
        by_cases e : i < k
        · rw [if_pos e, upd_ne (by omega)]
          exact h2 i e
        · rw [if_neg e]
          by_cases e2 : i = k
          · rw [if_pos e2, e2]
            exact if_pos rfl
          · rw [if_neg e2, upd_ne (by omega)]
            exact h3 i (by omega) (by omega)
    | succ q ih =>
      intro k g hk hl h1 h2 h3
      have sb : nI (4 + k) - nI 1 = nI (4 + (k - 1)) := by rw [pk_sub (by omega)]; congr 1; omega
      have m1 := m1_add (p := k) (by omega)
      have e := h2 (k - 1) (by omega)
      rw [u_237_12]
      simp (disch := omega) only [u_237_0, u_237_1, u_237_4, u_237_5, u_237_6, u_237_9, u_237_10, u_237_14, u_237_15, u_237_18, u_237_19, u_237_22, u_237_23, u_237_24, u_237_26, u_237_27, u_237_30, u_237_31, u_237_34, u_237_35, u_237_36, u_237_38, u_237_39, u_237_40, u_237_41, u_237_44, u_237_45, u_237_46, u_237_49, u_237_52, u_237_53, u_237_56, u_237_57, u_237_58, u_237_59, u_237_60, u_237_63, u_237_64, u_237_65, u_237_66, u_237_69, u_237_70, u_237_71, u_237_74, u_237_75, u_237_76, u_237_77, u_237_78, u_237_79, gI0, gIs, gR0, gRs, gF0, gFs, st0, st_i, st_r, st_f, st_n, st_s, true_and, and_true, ↓ifLeT, ↓ifLeF, ↓ifLtT, ↓ifLtF, ↓ifEqT, ↓ifEqF, if_tt, if_ff, if_pos, if_neg, nLe, nLt, nEq, nInT, nCl, pk_mul, nI_add, Nat.reduceAdd, s_cat_nil, s_cat_i, s_cat_r, s_cat_f, s_cat_l, tl_s, tl_n, cat_i, cat_r, cat_f, nb0, nb1, nbI, if_bI, if_bIr, Nat.zero_le, Nat.reduceLeDiff, M_g0, M_g1, M_g2, M_g3, M_g4, M_g5, M_g6, M_g7, M_g8, M_g9, M_g10, M_g11, M_g12, M_g13, M_g14, M_g15, M_g16, M_g17, M_g18, M_g19, M_g20, M_g21, M_g22, M_g23, M_g24, M_g25, M_g26, M_g27, M_g28, M_g29, M_g30, M_g31, M_g32, M_g33, M_g34, M_g35, M_g36, M_g37, M_g38, M_g39, M_g40, M_g41, m_cAt, M_r rb330, M_rw rb330, kA_eq, xA_tw, sb, e, m1]
      refine ih (k - 1) _ (by omega) (by omega) (fun i hi => by rw [upd_ne (by omega)]; exact h1 i hi) (fun i hi => by rw [upd_ne (by omega)]; exact h2 i (by omega)) fun i hi hi2 => ?_
      by_cases e2 : i = k
      · rw [e2]; exact if_pos rfl
      · rw [upd_ne (by omega)]; exact h3 i (by omega) hi2
  have := lp ((l c).length - j) (l c).length (kA m 330) (by omega) (Nat.le_refl _) (fun _ _ => rfl) (fun i hi => a5 i hi) (fun i hi hi2 => by omega)
  rw [xA_eta] at this
  simp (disch := omega) only [u_237_0, u_237_1, u_237_4, u_237_5, u_237_6, u_237_9, u_237_10, gI0, gIs, gR0, gRs, gF0, gFs, st0, st_i, st_r, st_f, st_n, st_s, true_and, and_true, ↓ifLeT, ↓ifLeF, ↓ifLtT, ↓ifLtF, ↓ifEqT, ↓ifEqF, if_tt, if_ff, if_pos, if_neg, nLe, nLt, nEq, nInT, nCl, pk_mul, nI_add, Nat.reduceAdd, s_cat_nil, s_cat_i, s_cat_r, s_cat_f, s_cat_l, tl_s, tl_n, cat_i, cat_r, cat_f, nb0, nb1, nbI, if_bI, if_bIr, Nat.zero_le, Nat.reduceLeDiff, M_g0, M_g1, M_g2, M_g3, M_g4, M_g5, M_g6, M_g7, M_g8, M_g9, M_g10, M_g11, M_g12, M_g13, M_g14, M_g15, M_g16, M_g17, M_g18, M_g19, M_g20, M_g21, M_g22, M_g23, M_g24, M_g25, M_g26, M_g27, M_g28, M_g29, M_g30, M_g31, M_g32, M_g33, M_g34, M_g35, M_g36, M_g37, M_g38, M_g39, M_g40, M_g41, m_cAt, M_r rb330, a4]
  exact this
end MBT
