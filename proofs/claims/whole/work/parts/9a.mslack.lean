/-! the reference's slack and written -/
theorem RR_x13 {f : Nat → Int32} {n : tN} {t x : Nat} (h4 : nF n 2 ≤ 4) (hl : ∀ c, (nL n c).length ≤ 8) (hr : RR f n) : RR (upd f (50 + 7 * t + 1) (nI x)) (jA n 13 (set1 (nA n 13) t x)) := by
  refine RR_tk h4 hl (by decide) hr rfl (fun c _ => ⟨rfl, rfl, rfl, rfl⟩) (fun u hu e => ⟨rfl, if_neg e, rfl, rfl, rfl, rfl, rfl⟩) fun ht => ?_
  obtain ⟨a, b, d, e, k, l, m⟩ := hr.2.2.2 t ht
  refine ⟨(if_neg (by omega)).trans a, ?_, (if_neg (by omega)).trans d, (if_neg (by omega)).trans e, (if_neg (by omega)).trans k, (if_neg (by omega)).trans l, (if_neg (by omega)).trans m⟩
  show (if _ = _ then nI x else _) = nI (if t = t then x else _)
  rw [if_pos rfl, if_pos rfl]
def byA (l : List Nat) (w : Int32) : Int32 := match ixN w l.length with
  | some j => nI (l.getD j 0)
  | none => -1
theorem byA_add {l : List Nat} {b : Nat} {w : Int32} (hl : l.length < 2 ^ 20) : byA (l ++ [b]) w = if nI l.length = w then nI b else byA l w := by
  unfold byA
  rw [List.length_append, List.length_singleton]
  by_cases e : nI l.length = w
  · rw [if_pos e, ← e, ix_nI (by omega) (by omega)]
    simp
  · rw [if_neg e]
    cases h1 : ixN w (l.length + 1) with
    | none =>
      cases h2 : ixN w l.length with
      | none => rfl
      | some j =>
        obtain ⟨h3, rfl⟩ := ix_some (by omega) h2
        rw [ix_nI (by omega) (by omega)] at h1
        cases h1
    | some j =>
      obtain ⟨h3, rfl⟩ := ix_some (by omega) h1
      have : j ≠ l.length := fun q => e (by rw [q])
      rw [ix_nI (by omega) (by omega)]
      show nI ((l ++ [b]).getD j 0) = nI (l.getD j 0)
      rw [List.getD_eq_getElem?_getD, List.getElem?_append_left (by omega), List.getD_eq_getElem?_getD]
def WS (w : Int32) (m : tM) (l : List Nat) : Prop := kI m 37 = nI l.length ∧ kI m 38 = w ∧ kI m 39 = byA l w
section MS
variable {b d : Nat} {m : tM} {h : sH} {i x y w c v t : Int32} {Q : sQ} {n : tN} {z : tQ} {k : sK}
theorem r_writes {l : List Nat} {b : Nat} (hl : l.length < 2 ^ 20) (hw : WS w m l) (K : ∀ m', frZ m m' → WS w m' (l ++ [b]) → Q none (pM m' h)) : MT (d + 1) 243 [.ref 317, .int (nI b)] (pM m h) Q := by
  obtain ⟨h37, h38, h39⟩ := hw
  rw [MT_go (by decide) _ _ _ (Nat.le_of_ble_eq_true rfl), show s_entry 243 [.ref 317, .int (nI b)] = [.ref 317, .int (nI b)] from rfl]
  have e := byA_add (b := b) (w := w) hl
  have fr : ∀ v, frZ m (xI (xI m 39 v) 37 (nI (l.length + 1))) := fun v => frZ_t (frZ_I (by decide)) (frZ_I (by decide))
  by_cases g : nI l.length = w
  · rw [if_pos g] at e
    simp (disch := omega) only [u_243_0, u_243_1, u_243_2, u_243_5, u_243_6, u_243_9, u_243_12, u_243_13, u_243_16, u_243_17, u_243_20, u_243_23, u_243_24, u_243_25, u_243_28, u_243_29, u_243_30, u_243_33, gI0, gIs, gR0, gRs, gF0, gFs, st0, st_i, st_r, st_f, st_n, st_s, true_and, and_true, ↓ifLeT, ↓ifLeF, ↓ifLtT, ↓ifLtF, ↓ifEqT, ↓ifEqF, if_tt, if_ff, if_pos, if_neg, nLe, nLt, nEq, nInT, nCl, pk_mul, nI_add, Nat.reduceAdd, s_cat_nil, s_cat_i, s_cat_r, s_cat_f, s_cat_l, tl_s, tl_n, cat_i, cat_r, cat_f, nb0, nb1, nbI, if_bI, if_bIr, Nat.zero_le, Nat.reduceLeDiff, M_g0, M_g1, M_g2, M_g3, M_g4, M_g5, M_g6, M_g7, M_g8, M_g9, M_g10, M_g11, M_g12, M_g13, M_g14, M_g15, M_g16, M_g17, M_g18, M_g19, M_g20, M_g21, M_g22, M_g23, M_g24, M_g25, M_g26, M_g27, M_g28, M_g29, M_g30, M_g31, M_g32, M_g33, M_g34, M_g35, M_g36, M_g37, M_g38, M_g39, M_g40, M_g41, M_s39, M_s37, kI_xI, kI_xB, kI_xA, kI_xV, kB_xI, kB_xB, kB_xA, kB_xV, kA_xI, kA_xB, kA_xA, kA_xV, kV_xI, kV_xB, kV_xA, kV_xV, Nat.reduceEqDiff, reduceIte, h37, h38, h39, g]
    refine K _ (frZ_t (frZ_I (by decide)) (frZ_I (by decide))) ⟨?_, h38, e.symm⟩
    rw [List.length_append, ← nI_add, g]
    rfl
  · rw [if_neg g] at e
    simp (disch := omega) only [u_243_0, u_243_1, u_243_2, u_243_5, u_243_6, u_243_9, u_243_12, u_243_13, u_243_16, u_243_17, u_243_20, u_243_23, u_243_24, u_243_25, u_243_28, u_243_29, u_243_30, u_243_33, gI0, gIs, gR0, gRs, gF0, gFs, st0, st_i, st_r, st_f, st_n, st_s, true_and, and_true, ↓ifLeT, ↓ifLeF, ↓ifLtT, ↓ifLtF, ↓ifEqT, ↓ifEqF, if_tt, if_ff, if_pos, if_neg, nLe, nLt, nEq, nInT, nCl, pk_mul, nI_add, Nat.reduceAdd, s_cat_nil, s_cat_i, s_cat_r, s_cat_f, s_cat_l, tl_s, tl_n, cat_i, cat_r, cat_f, nb0, nb1, nbI, if_bI, if_bIr, Nat.zero_le, Nat.reduceLeDiff, M_g0, M_g1, M_g2, M_g3, M_g4, M_g5, M_g6, M_g7, M_g8, M_g9, M_g10, M_g11, M_g12, M_g13, M_g14, M_g15, M_g16, M_g17, M_g18, M_g19, M_g20, M_g21, M_g22, M_g23, M_g24, M_g25, M_g26, M_g27, M_g28, M_g29, M_g30, M_g31, M_g32, M_g33, M_g34, M_g35, M_g36, M_g37, M_g38, M_g39, M_g40, M_g41, M_s39, M_s37, kI_xI, kI_xB, kI_xA, kI_xV, kB_xI, kB_xB, kB_xA, kB_xV, kA_xI, kA_xB, kA_xA, kA_xV, kV_xI, kV_xB, kV_xA, kV_xV, Nat.reduceEqDiff, reduceIte, h37, h38, h39, g]
    refine K _ (frZ_t (frZ_I (by decide)) (frZ_I (by decide))) ⟨?_, h38, e.symm⟩
    rw [List.length_append]
    rfl
theorem wr_in {c : Nat} (hn : wfN n) (hr : RR (kA m 320) n) (hc : c < nF n 2) : ∀ q k P m', frZ m m' → k + q = (nL n c).length → (P ++ ((nL n c).drop k).flatMap fun t => [32, 48 + t]).length < 2 ^ 20 → WS w m' P → (∀ m2, frZ m m2 → WS w m2 (P ++ ((nL n c).drop k).flatMap fun t => [32, 48 + t]) → WP (d + 1) 244 104 [.ref 317, .int w, .int (nI c), .int (nI (nL n c).length)] [] (pM m2 h) (0, 0) Q) → WP (d + 1) 244 59 [.ref 317, .int w, .int (nI c), .int (nI k)] [] (pM m' h) (0, 0) Q := by
  have h4 := hn.1.1
  have h8 := hn.1.2.1
  have l8 := wfL_len hn.1 hn.2.2.2 c
  intro q
  induction q with
  | zero =>
    intro k P m' hf hk hl hw K
    have hr' : RR (kA m' 320) n := by rw [hf.2.2 320 (by unfold keyA; decide)]; exact hr
    obtain ⟨-, -, -, a4, a5⟩ := hr'.2.2.1 c hc
    have e : k = (nL n c).length := by omega
    subst e
    rw [List.drop_of_length_le (Nat.le_refl _), List.flatMap_nil, List.append_nil] at K
    rw [u_244_59]
    simp (disch := omega) only [u_244_0, u_244_1, u_244_2, u_244_5, u_244_6, u_244_9, u_244_12, u_244_13, u_244_14, u_244_15, u_244_16, u_244_19, u_244_20, u_244_21, u_244_24, u_244_25, u_244_26, u_244_29, u_244_30, u_244_32, u_244_33, u_244_36, u_244_39, u_244_40, u_244_43, u_244_44, u_244_46, u_244_49, u_244_50, u_244_52, u_244_53, u_244_54, u_244_57, u_244_58, u_244_60, u_244_61, u_244_64, u_244_65, u_244_66, u_244_69, u_244_70, u_244_73, u_244_74, u_244_76, u_244_79, u_244_80, u_244_82, u_244_83, u_244_86, u_244_87, u_244_88, u_244_89, u_244_90, u_244_93, u_244_94, u_244_95, u_244_98, u_244_101, u_244_107, u_244_110, u_244_111, u_244_112, u_244_115, u_244_116, u_244_119, u_244_122, u_244_123, u_244_124, u_244_125, u_244_126, u_244_129, u_244_130, u_244_131, u_244_132, u_244_135, u_244_138, u_244_139, u_244_142, u_244_145, u_244_146, gI0, gIs, gR0, gRs, gF0, gFs, st0, st_i, st_r, st_f, st_n, st_s, true_and, and_true, ↓ifLeT, ↓ifLeF, ↓ifLtT, ↓ifLtF, ↓ifEqT, ↓ifEqF, if_tt, if_ff, if_pos, if_neg, nLe, nLt, nEq, nInT, nCl, pk_mul, nI_add, Nat.reduceAdd, s_cat_nil, s_cat_i, s_cat_r, s_cat_f, s_cat_l, tl_s, tl_n, cat_i, cat_r, cat_f, nb0, nb1, nbI, if_bI, if_bIr, Nat.zero_le, Nat.reduceLeDiff, M_g0, M_g1, M_g2, M_g3, M_g4, M_g5, M_g6, M_g7, M_g8, M_g9, M_g10, M_g11, M_g12, M_g13, M_g14, M_g15, M_g16, M_g17, M_g18, M_g19, M_g20, M_g21, M_g22, M_g23, M_g24, M_g25, M_g26, M_g27, M_g28, M_g29, M_g30, M_g31, M_g32, M_g33, M_g34, M_g35, M_g36, M_g37, M_g38, M_g39, M_g40, M_g41, m_cAt, M_r rb320, a4]
    exact K m' hf hw
  | succ q ih =>
    intro k P m' hf hk hl hw K
    have hr' : RR (kA m' 320) n := by rw [hf.2.2 320 (by unfold keyA; decide)]; exact hr
    obtain ⟨-, -, -, a4, a5⟩ := hr'.2.2.1 c hc
    have hk' : k < (nL n c).length := by omega
    have ht2 := (hn.2.2.2.2.1 c).2 _ (getD_mem hk')
    have ee : P ++ ((nL n c).drop k).flatMap (fun t => [32, 48 + t]) = (P ++ [32] ++ [48 + (nL n c).getD k 0]) ++ ((nL n c).drop (k + 1)).flatMap (fun t => [32, 48 + t]) := by
      rw [List.drop_eq_getElem_cons hk', List.flatMap_cons, ← getD_of hk']
      simp
    rw [ee] at hl
    have l1 : (P ++ [32]).length < 2 ^ 20 := by rw [List.length_append, List.length_append] at hl; omega
    have l0 : P.length < 2 ^ 20 := by rw [List.length_append] at l1; omega
    rw [u_244_59]
    simp (disch := omega) only [u_244_0, u_244_1, u_244_2, u_244_5, u_244_6, u_244_9, u_244_12, u_244_13, u_244_14, u_244_15, u_244_16, u_244_19, u_244_20, u_244_21, u_244_24, u_244_25, u_244_26, u_244_29, u_244_30, u_244_32, u_244_33, u_244_36, u_244_39, u_244_40, u_244_43, u_244_44, u_244_46, u_244_49, u_244_50, u_244_52, u_244_53, u_244_54, u_244_57, u_244_58, u_244_60, u_244_61, u_244_64, u_244_65, u_244_66, u_244_69, u_244_70, u_244_73, u_244_74, u_244_76, u_244_79, u_244_80, u_244_82, u_244_83, u_244_86, u_244_87, u_244_88, u_244_89, u_244_90, u_244_93, u_244_94, u_244_95, u_244_98, u_244_101, u_244_107, u_244_110, u_244_111, u_244_112, u_244_115, u_244_116, u_244_119, u_244_122, u_244_123, u_244_124, u_244_125, u_244_126, u_244_129, u_244_130, u_244_131, u_244_132, u_244_135, u_244_138, u_244_139, u_244_142, u_244_145, u_244_146, gI0, gIs, gR0, gRs, gF0, gFs, st0, st_i, st_r, st_f, st_n, st_s, true_and, and_true, ↓ifLeT, ↓ifLeF, ↓ifLtT, ↓ifLtF, ↓ifEqT, ↓ifEqF, if_tt, if_ff, if_pos, if_neg, nLe, nLt, nEq, nInT, nCl, pk_mul, nI_add, Nat.reduceAdd, s_cat_nil, s_cat_i, s_cat_r, s_cat_f, s_cat_l, tl_s, tl_n, cat_i, cat_r, cat_f, nb0, nb1, nbI, if_bI, if_bIr, Nat.zero_le, Nat.reduceLeDiff, M_ob, M_g0, M_g1, M_g2, M_g3, M_g4, M_g5, M_g6, M_g7, M_g8, M_g9, M_g10, M_g11, M_g12, M_g13, M_g14, M_g15, M_g16, M_g17, M_g18, M_g19, M_g20, M_g21, M_g22, M_g23, M_g24, M_g25, M_g26, M_g27, M_g28, M_g29, M_g30, M_g31, M_g32, M_g33, M_g34, M_g35, M_g36, M_g37, M_g38, M_g39, M_g40, M_g41, m_cAt, M_r rb320, a4]
    refine r_writes (d := d) (b := 32) l0 hw fun m1 f1 w1 => ?_
    have hr1 : RR (kA m1 320) n := by rw [f1.2.2 320 (by unfold keyA; decide)]; exact hr'
    have e := (hr1.2.2.1 c hc).2.2.2.2 k hk'
    simp (disch := omega) only [u_244_0, u_244_1, u_244_2, u_244_5, u_244_6, u_244_9, u_244_12, u_244_13, u_244_14, u_244_15, u_244_16, u_244_19, u_244_20, u_244_21, u_244_24, u_244_25, u_244_26, u_244_29, u_244_30, u_244_32, u_244_33, u_244_36, u_244_39, u_244_40, u_244_43, u_244_44, u_244_46, u_244_49, u_244_50, u_244_52, u_244_53, u_244_54, u_244_57, u_244_58, u_244_60, u_244_61, u_244_64, u_244_65, u_244_66, u_244_69, u_244_70, u_244_73, u_244_74, u_244_76, u_244_79, u_244_80, u_244_82, u_244_83, u_244_86, u_244_87, u_244_88, u_244_89, u_244_90, u_244_93, u_244_94, u_244_95, u_244_98, u_244_101, u_244_107, u_244_110, u_244_111, u_244_112, u_244_115, u_244_116, u_244_119, u_244_122, u_244_123, u_244_124, u_244_125, u_244_126, u_244_129, u_244_130, u_244_131, u_244_132, u_244_135, u_244_138, u_244_139, u_244_142, u_244_145, u_244_146, gI0, gIs, gR0, gRs, gF0, gFs, st0, st_i, st_r, st_f, st_n, st_s, true_and, and_true, ↓ifLeT, ↓ifLeF, ↓ifLtT, ↓ifLtF, ↓ifEqT, ↓ifEqF, if_tt, if_ff, if_pos, if_neg, nLe, nLt, nEq, nInT, nCl, pk_mul, nI_add, Nat.reduceAdd, s_cat_nil, s_cat_i, s_cat_r, s_cat_f, s_cat_l, tl_s, tl_n, cat_i, cat_r, cat_f, nb0, nb1, nbI, if_bI, if_bIr, Nat.zero_le, Nat.reduceLeDiff, M_ob, M_g0, M_g1, M_g2, M_g3, M_g4, M_g5, M_g6, M_g7, M_g8, M_g9, M_g10, M_g11, M_g12, M_g13, M_g14, M_g15, M_g16, M_g17, M_g18, M_g19, M_g20, M_g21, M_g22, M_g23, M_g24, M_g25, M_g26, M_g27, M_g28, M_g29, M_g30, M_g31, M_g32, M_g33, M_g34, M_g35, M_g36, M_g37, M_g38, M_g39, M_g40, M_g41, m_cAt, M_r rb320, e]
    refine r_writes (d := d) (b := 48 + (nL n c).getD k 0) l1 w1 fun m2 f2 w2 => ?_
    simp (disch := omega) only [u_244_0, u_244_1, u_244_2, u_244_5, u_244_6, u_244_9, u_244_12, u_244_13, u_244_14, u_244_15, u_244_16, u_244_19, u_244_20, u_244_21, u_244_24, u_244_25, u_244_26, u_244_29, u_244_30, u_244_32, u_244_33, u_244_36, u_244_39, u_244_40, u_244_43, u_244_44, u_244_46, u_244_49, u_244_50, u_244_52, u_244_53, u_244_54, u_244_57, u_244_58, u_244_60, u_244_61, u_244_64, u_244_65, u_244_66, u_244_69, u_244_70, u_244_73, u_244_74, u_244_76, u_244_79, u_244_80, u_244_82, u_244_83, u_244_86, u_244_87, u_244_88, u_244_89, u_244_90, u_244_93, u_244_94, u_244_95, u_244_98, u_244_101, u_244_107, u_244_110, u_244_111, u_244_112, u_244_115, u_244_116, u_244_119, u_244_122, u_244_123, u_244_124, u_244_125, u_244_126, u_244_129, u_244_130, u_244_131, u_244_132, u_244_135, u_244_138, u_244_139, u_244_142, u_244_145, u_244_146, gI0, gIs, gR0, gRs, gF0, gFs, st0, st_i, st_r, st_f, st_n, st_s, true_and, and_true, ↓ifLeT, ↓ifLeF, ↓ifLtT, ↓ifLtF, ↓ifEqT, ↓ifEqF, if_tt, if_ff, if_pos, if_neg, nLe, nLt, nEq, nInT, nCl, pk_mul, nI_add, Nat.reduceAdd, s_cat_nil, s_cat_i, s_cat_r, s_cat_f, s_cat_l, tl_s, tl_n, cat_i, cat_r, cat_f, nb0, nb1, nbI, if_bI, if_bIr, Nat.zero_le, Nat.reduceLeDiff]
    refine ih (k + 1) _ m2 (frZ_t hf (frZ_t f1 f2)) (by omega) hl w2 fun m3 f3 w3 => K m3 f3 ?_
    rw [ee]
    exact w3
theorem wr_out (hn : wfN n) (hr : RR (kA m 320) n) (h10 : kI m 10 = nI (nF n 2)) : ∀ q c P m' v, frZ m m' → c + q = nF n 2 → (P ++ (List.range' c q).flatMap (wrC (nL n))).length < 2 ^ 20 → WS w m' P → (∀ m2 v, frZ m m2 → WS w m2 (P ++ (List.range' c q).flatMap (wrC (nL n))) → WP (d + 1) 244 110 [.ref 317, .int w, .int (nI (nF n 2)), v] [] (pM m2 h) (0, 0) Q) → WP (d + 1) 244 31 [.ref 317, .int w, .int (nI c), v] [] (pM m' h) (0, 0) Q := by
  have h4 := hn.1.1
  intro q
  induction q with
  | zero =>
    intro c P m' v hf hk hl hw K
    have h10 : kI m' 10 = nI (nF n 2) := (hf.1 10 (by unfold keyI; decide)).trans h10
    have e : c = nF n 2 := by omega
    subst e
    rw [List.range'_zero, List.flatMap_nil, List.append_nil] at K
    rw [u_244_31]
    simp (disch := omega) only [u_244_0, u_244_1, u_244_2, u_244_5, u_244_6, u_244_9, u_244_12, u_244_13, u_244_14, u_244_15, u_244_16, u_244_19, u_244_20, u_244_21, u_244_24, u_244_25, u_244_26, u_244_29, u_244_30, u_244_32, u_244_33, u_244_36, u_244_39, u_244_40, u_244_43, u_244_44, u_244_46, u_244_49, u_244_50, u_244_52, u_244_53, u_244_54, u_244_57, u_244_58, u_244_60, u_244_61, u_244_64, u_244_65, u_244_66, u_244_69, u_244_70, u_244_73, u_244_74, u_244_76, u_244_79, u_244_80, u_244_82, u_244_83, u_244_86, u_244_87, u_244_88, u_244_89, u_244_90, u_244_93, u_244_94, u_244_95, u_244_98, u_244_101, u_244_104, u_244_107, u_244_111, u_244_112, u_244_115, u_244_116, u_244_119, u_244_122, u_244_123, u_244_124, u_244_125, u_244_126, u_244_129, u_244_130, u_244_131, u_244_132, u_244_135, u_244_138, u_244_139, u_244_142, u_244_145, u_244_146, gI0, gIs, gR0, gRs, gF0, gFs, st0, st_i, st_r, st_f, st_n, st_s, true_and, and_true, ↓ifLeT, ↓ifLeF, ↓ifLtT, ↓ifLtF, ↓ifEqT, ↓ifEqF, if_tt, if_ff, if_pos, if_neg, nLe, nLt, nEq, nInT, nCl, pk_mul, nI_add, Nat.reduceAdd, s_cat_nil, s_cat_i, s_cat_r, s_cat_f, s_cat_l, tl_s, tl_n, cat_i, cat_r, cat_f, nb0, nb1, nbI, if_bI, if_bIr, Nat.zero_le, Nat.reduceLeDiff, M_g0, M_g1, M_g2, M_g3, M_g4, M_g5, M_g6, M_g7, M_g8, M_g9, M_g10, M_g11, M_g12, M_g13, M_g14, M_g15, M_g16, M_g17, M_g18, M_g19, M_g20, M_g21, M_g22, M_g23, M_g24, M_g25, M_g26, M_g27, M_g28, M_g29, M_g30, M_g31, M_g32, M_g33, M_g34, M_g35, M_g36, M_g37, M_g38, M_g39, M_g40, M_g41, h10]
    exact K m' _ hf hw
  | succ q ih =>
    intro c P m' v hf hk hl hw K
    have h10 : kI m' 10 = nI (nF n 2) := (hf.1 10 (by unfold keyI; decide)).trans h10
    have ee : P ++ (List.range' c (q + 1)).flatMap (wrC (nL n)) = (P ++ wrC (nL n) c) ++ (List.range' (c + 1) q).flatMap (wrC (nL n)) := by
      rw [List.range'_succ, List.flatMap_cons, List.append_assoc]
    have ec : P ++ wrC (nL n) c = ((P ++ if c = 0 then [] else [59]) ++ [48 + c]) ++ ((nL n c).drop 0).flatMap fun t => [32, 48 + t] := by
      rw [List.drop_zero]
      unfold wrC
      simp
    rw [ee] at hl
    have lc : (P ++ wrC (nL n) c).length < 2 ^ 20 := by rw [List.length_append] at hl; omega
    rw [ec] at lc
    have l2 : ((P ++ if c = 0 then [] else [59]) ++ [48 + c]).length < 2 ^ 20 := by rw [List.length_append] at lc; omega
    have l1 : (P ++ if c = 0 then [] else [59]).length < 2 ^ 20 := by rw [List.length_append] at l2; omega
    have l0 : P.length < 2 ^ 20 := by rw [List.length_append] at l1; omega
    have go : ∀ m1, frZ m m1 → WS w m1 (P ++ if c = 0 then [] else [59]) → WP (d + 1) 244 49 [.ref 317, .int w, .int (nI c), v] [] (pM m1 h) (0, 0) Q := by
      intro m1 f1 w1
      simp (disch := omega) only [u_244_0, u_244_1, u_244_2, u_244_5, u_244_6, u_244_9, u_244_12, u_244_13, u_244_14, u_244_15, u_244_16, u_244_19, u_244_20, u_244_21, u_244_24, u_244_25, u_244_26, u_244_29, u_244_30, u_244_32, u_244_33, u_244_36, u_244_39, u_244_40, u_244_43, u_244_44, u_244_46, u_244_49, u_244_50, u_244_52, u_244_53, u_244_54, u_244_57, u_244_58, u_244_60, u_244_61, u_244_64, u_244_65, u_244_66, u_244_69, u_244_70, u_244_73, u_244_74, u_244_76, u_244_79, u_244_80, u_244_82, u_244_83, u_244_86, u_244_87, u_244_88, u_244_89, u_244_90, u_244_93, u_244_94, u_244_95, u_244_98, u_244_101, u_244_104, u_244_107, u_244_110, u_244_111, u_244_112, u_244_115, u_244_116, u_244_119, u_244_122, u_244_123, u_244_124, u_244_125, u_244_126, u_244_129, u_244_130, u_244_131, u_244_132, u_244_135, u_244_138, u_244_139, u_244_142, u_244_145, u_244_146, gI0, gIs, gR0, gRs, gF0, gFs, st0, st_i, st_r, st_f, st_n, st_s, true_and, and_true, ↓ifLeT, ↓ifLeF, ↓ifLtT, ↓ifLtF, ↓ifEqT, ↓ifEqF, if_tt, if_ff, if_pos, if_neg, nLe, nLt, nEq, nInT, nCl, pk_mul, nI_add, Nat.reduceAdd, s_cat_nil, s_cat_i, s_cat_r, s_cat_f, s_cat_l, tl_s, tl_n, cat_i, cat_r, cat_f, nb0, nb1, nbI, if_bI, if_bIr, Nat.zero_le, Nat.reduceLeDiff, M_ob]
      refine r_writes (d := d) (b := 48 + c) l1 w1 fun m2 f2 w2 => ?_
      simp (disch := omega) only [u_244_0, u_244_1, u_244_2, u_244_5, u_244_6, u_244_9, u_244_12, u_244_13, u_244_14, u_244_15, u_244_16, u_244_19, u_244_20, u_244_21, u_244_24, u_244_25, u_244_26, u_244_29, u_244_30, u_244_32, u_244_33, u_244_36, u_244_39, u_244_40, u_244_43, u_244_44, u_244_46, u_244_49, u_244_50, u_244_52, u_244_53, u_244_54, u_244_57, u_244_58, u_244_60, u_244_61, u_244_64, u_244_65, u_244_66, u_244_69, u_244_70, u_244_73, u_244_74, u_244_76, u_244_79, u_244_80, u_244_82, u_244_83, u_244_86, u_244_87, u_244_88, u_244_89, u_244_90, u_244_93, u_244_94, u_244_95, u_244_98, u_244_101, u_244_104, u_244_107, u_244_110, u_244_111, u_244_112, u_244_115, u_244_116, u_244_119, u_244_122, u_244_123, u_244_124, u_244_125, u_244_126, u_244_129, u_244_130, u_244_131, u_244_132, u_244_135, u_244_138, u_244_139, u_244_142, u_244_145, u_244_146, gI0, gIs, gR0, gRs, gF0, gFs, st0, st_i, st_r, st_f, st_n, st_s, true_and, and_true, ↓ifLeT, ↓ifLeF, ↓ifLtT, ↓ifLtF, ↓ifEqT, ↓ifEqF, if_tt, if_ff, if_pos, if_neg, nLe, nLt, nEq, nInT, nCl, pk_mul, nI_add, Nat.reduceAdd, s_cat_nil, s_cat_i, s_cat_r, s_cat_f, s_cat_l, tl_s, tl_n, cat_i, cat_r, cat_f, nb0, nb1, nbI, if_bI, if_bIr, Nat.zero_le, Nat.reduceLeDiff]
      refine wr_in (d := d) hn hr (by omega) (nL n c).length 0 _ m2 (frZ_t f1 f2) (Nat.zero_add _) lc w2 fun m3 f3 w3 => ?_
      rw [← ec] at w3
      simp (disch := omega) only [u_244_0, u_244_1, u_244_2, u_244_5, u_244_6, u_244_9, u_244_12, u_244_13, u_244_14, u_244_15, u_244_16, u_244_19, u_244_20, u_244_21, u_244_24, u_244_25, u_244_26, u_244_29, u_244_30, u_244_32, u_244_33, u_244_36, u_244_39, u_244_40, u_244_43, u_244_44, u_244_46, u_244_49, u_244_50, u_244_52, u_244_53, u_244_54, u_244_57, u_244_58, u_244_60, u_244_61, u_244_64, u_244_65, u_244_66, u_244_69, u_244_70, u_244_73, u_244_74, u_244_76, u_244_79, u_244_80, u_244_82, u_244_83, u_244_86, u_244_87, u_244_88, u_244_89, u_244_90, u_244_93, u_244_94, u_244_95, u_244_98, u_244_101, u_244_104, u_244_107, u_244_110, u_244_111, u_244_112, u_244_115, u_244_116, u_244_119, u_244_122, u_244_123, u_244_124, u_244_125, u_244_126, u_244_129, u_244_130, u_244_131, u_244_132, u_244_135, u_244_138, u_244_139, u_244_142, u_244_145, u_244_146, gI0, gIs, gR0, gRs, gF0, gFs, st0, st_i, st_r, st_f, st_n, st_s, true_and, and_true, ↓ifLeT, ↓ifLeF, ↓ifLtT, ↓ifLtF, ↓ifEqT, ↓ifEqF, if_tt, if_ff, if_pos, if_neg, nLe, nLt, nEq, nInT, nCl, pk_mul, nI_add, Nat.reduceAdd, s_cat_nil, s_cat_i, s_cat_r, s_cat_f, s_cat_l, tl_s, tl_n, cat_i, cat_r, cat_f, nb0, nb1, nbI, if_bI, if_bIr, Nat.zero_le, Nat.reduceLeDiff]
      refine ih (c + 1) _ m3 _ f3 (by omega) hl w3 fun m4 v f4 w4 => K m4 v f4 ?_
      rw [ee]
      exact w4
    rw [u_244_31]
    by_cases c0 : c = 0
    · rw [if_pos c0, List.append_nil] at go
      subst c0
      simp (disch := omega) only [u_244_32, u_244_33, u_244_36, u_244_39, u_244_40, u_244_43, u_244_44, u_244_46, gI0, gIs, gR0, gRs, gF0, gFs, st0, st_i, st_r, st_f, st_n, st_s, true_and, and_true, ↓ifLeT, ↓ifLeF, ↓ifLtT, ↓ifLtF, ↓ifEqT, ↓ifEqF, if_tt, if_ff, if_pos, if_neg, nLe, nLt, nEq, nInT, nCl, pk_mul, nI_add, Nat.reduceAdd, s_cat_nil, s_cat_i, s_cat_r, s_cat_f, s_cat_l, tl_s, tl_n, cat_i, cat_r, cat_f, nb0, nb1, nbI, if_bI, if_bIr, Nat.zero_le, Nat.reduceLeDiff, M_ob, M_g0, M_g1, M_g2, M_g3, M_g4, M_g5, M_g6, M_g7, M_g8, M_g9, M_g10, M_g11, M_g12, M_g13, M_g14, M_g15, M_g16, M_g17, M_g18, M_g19, M_g20, M_g21, M_g22, M_g23, M_g24, M_g25, M_g26, M_g27, M_g28, M_g29, M_g30, M_g31, M_g32, M_g33, M_g34, M_g35, M_g36, M_g37, M_g38, M_g39, M_g40, M_g41, h10]
      exact go m' hf hw
    · rw [if_neg c0] at go
      simp (disch := omega) only [u_244_32, u_244_33, u_244_36, u_244_39, u_244_40, u_244_43, u_244_44, u_244_46, gI0, gIs, gR0, gRs, gF0, gFs, st0, st_i, st_r, st_f, st_n, st_s, true_and, and_true, ↓ifLeT, ↓ifLeF, ↓ifLtT, ↓ifLtF, ↓ifEqT, ↓ifEqF, if_tt, if_ff, if_pos, if_neg, nLe, nLt, nEq, nInT, nCl, pk_mul, nI_add, Nat.reduceAdd, s_cat_nil, s_cat_i, s_cat_r, s_cat_f, s_cat_l, tl_s, tl_n, cat_i, cat_r, cat_f, nb0, nb1, nbI, if_bI, if_bIr, Nat.zero_le, Nat.reduceLeDiff, M_ob, M_g0, M_g1, M_g2, M_g3, M_g4, M_g5, M_g6, M_g7, M_g8, M_g9, M_g10, M_g11, M_g12, M_g13, M_g14, M_g15, M_g16, M_g17, M_g18, M_g19, M_g20, M_g21, M_g22, M_g23, M_g24, M_g25, M_g26, M_g27, M_g28, M_g29, M_g30, M_g31, M_g32, M_g33, M_g34, M_g35, M_g36, M_g37, M_g38, M_g39, M_g40, M_g41, h10]
      refine r_writes (d := d) (b := 59) l0 hw fun m2 f2 w2 => ?_
      exact go m2 (frZ_t hf f2) w2
theorem wrN_len (hn : wfN n) : (wrN n).length < 2 ^ 20 := by
  have h4 := hn.1.1
  have : ∀ k, k ≤ 4 → ((List.range k).flatMap (wrC (nL n))).length ≤ k * 18 := by
    intro k
    induction k with
    | zero => intro _; exact Nat.le_refl _
    | succ k ih =>
      intro hk
      have := ih (by omega)
      have l8 := wfL_len hn.1 hn.2.2.2 k
      have e : (wrC (nL n) k).length ≤ 18 := by
        rw [wrC_e, List.length_append, wrB_len]
        split
        · rw [List.length_nil]; omega
        · rw [List.length_singleton]; omega
      rw [List.range_succ, List.flatMap_append, List.length_append, List.flatMap_cons, List.flatMap_nil, List.append_nil]
      omega
  have := this (nF n 2) h4
  unfold wrN
  omega
theorem z_written (hm : RM m z) (K : ∀ m', RM m' z → Q (some (.int (zwritten z w))) (pM m' h)) : MT (d + 2) 244 [.ref 317, .int w] (pM m h) Q := by
  rw [MT_go (by decide) _ _ _ (Nat.le_of_ble_eq_true rfl), show s_entry 244 [.ref 317, .int w] = [.ref 317, .int w, s_no, s_no] from rfl]
  have hm0 := RM_0 (x := nI 0) hm
  have q1 := hm.2.1.1
  unfold zwritten at K
  cases hq : zQ z with
  | none =>
    simp only [hq] at K
    rw [hq] at q1
    simp (disch := omega) only [u_244_0, u_244_1, u_244_2, u_244_5, u_244_6, u_244_9, u_244_12, u_244_13, u_244_14, u_244_15, u_244_16, u_244_19, u_244_20, u_244_21, u_244_24, u_244_25, u_244_26, u_244_29, u_244_30, u_244_32, u_244_33, u_244_36, u_244_39, u_244_40, u_244_43, u_244_44, u_244_46, u_244_49, u_244_50, u_244_52, u_244_53, u_244_54, u_244_57, u_244_58, u_244_60, u_244_61, u_244_64, u_244_65, u_244_66, u_244_69, u_244_70, u_244_73, u_244_74, u_244_76, u_244_79, u_244_80, u_244_82, u_244_83, u_244_86, u_244_87, u_244_88, u_244_89, u_244_90, u_244_93, u_244_94, u_244_95, u_244_98, u_244_101, u_244_104, u_244_107, u_244_110, u_244_111, u_244_112, u_244_115, u_244_116, u_244_119, u_244_122, u_244_123, u_244_124, u_244_125, u_244_126, u_244_129, u_244_130, u_244_131, u_244_132, u_244_135, u_244_138, u_244_139, u_244_142, u_244_145, u_244_146, gI0, gIs, gR0, gRs, gF0, gFs, st0, st_i, st_r, st_f, st_n, st_s, true_and, and_true, ↓ifLeT, ↓ifLeF, ↓ifLtT, ↓ifLtF, ↓ifEqT, ↓ifEqF, if_tt, if_ff, if_pos, if_neg, nLe, nLt, nEq, nInT, nCl, pk_mul, nI_add, Nat.reduceAdd, s_cat_nil, s_cat_i, s_cat_r, s_cat_f, s_cat_l, tl_s, tl_n, cat_i, cat_r, cat_f, nb0, nb1, nbI, if_bI, if_bIr, Nat.zero_le, Nat.reduceLeDiff, M_ob, M_g0, M_g1, M_g2, M_g3, M_g4, M_g5, M_g6, M_g7, M_g8, M_g9, M_g10, M_g11, M_g12, M_g13, M_g14, M_g15, M_g16, M_g17, M_g18, M_g19, M_g20, M_g21, M_g22, M_g23, M_g24, M_g25, M_g26, M_g27, M_g28, M_g29, M_g30, M_g31, M_g32, M_g33, M_g34, M_g35, M_g36, M_g37, M_g38, M_g39, M_g40, M_g41, M_s0, kI_xI, kI_xB, kI_xA, kI_xV, kB_xI, kB_xB, kB_xA, kB_xV, kA_xI, kA_xB, kA_xA, kA_xV, kV_xI, kV_xB, kV_xA, kV_xV, Nat.reduceEqDiff, reduceIte, q1, Option.isSome, iBf]
    exact K _ hm0
  | some n =>
    simp only [hq] at K
    rw [hq] at q1
    obtain ⟨hg, hr, hok⟩ := RM_q hm0 hq
    simp (disch := omega) only [u_244_0, u_244_1, u_244_2, u_244_5, u_244_6, u_244_9, u_244_12, u_244_13, u_244_14, u_244_15, u_244_16, u_244_19, u_244_20, u_244_21, u_244_24, u_244_25, u_244_26, u_244_29, u_244_30, u_244_32, u_244_33, u_244_36, u_244_39, u_244_40, u_244_43, u_244_44, u_244_46, u_244_49, u_244_50, u_244_52, u_244_53, u_244_54, u_244_57, u_244_58, u_244_60, u_244_61, u_244_64, u_244_65, u_244_66, u_244_69, u_244_70, u_244_73, u_244_74, u_244_76, u_244_79, u_244_80, u_244_82, u_244_83, u_244_86, u_244_87, u_244_88, u_244_89, u_244_90, u_244_93, u_244_94, u_244_95, u_244_98, u_244_101, u_244_104, u_244_107, u_244_110, u_244_111, u_244_112, u_244_115, u_244_116, u_244_119, u_244_122, u_244_123, u_244_124, u_244_125, u_244_126, u_244_129, u_244_130, u_244_131, u_244_132, u_244_135, u_244_138, u_244_139, u_244_142, u_244_145, u_244_146, gI0, gIs, gR0, gRs, gF0, gFs, st0, st_i, st_r, st_f, st_n, st_s, true_and, and_true, ↓ifLeT, ↓ifLeF, ↓ifLtT, ↓ifLtF, ↓ifEqT, ↓ifEqF, if_tt, if_ff, if_pos, if_neg, nLe, nLt, nEq, nInT, nCl, pk_mul, nI_add, Nat.reduceAdd, s_cat_nil, s_cat_i, s_cat_r, s_cat_f, s_cat_l, tl_s, tl_n, cat_i, cat_r, cat_f, nb0, nb1, nbI, if_bI, if_bIr, Nat.zero_le, Nat.reduceLeDiff, M_ob, M_g0, M_g1, M_g2, M_g3, M_g4, M_g5, M_g6, M_g7, M_g8, M_g9, M_g10, M_g11, M_g12, M_g13, M_g14, M_g15, M_g16, M_g17, M_g18, M_g19, M_g20, M_g21, M_g22, M_g23, M_g24, M_g25, M_g26, M_g27, M_g28, M_g29, M_g30, M_g31, M_g32, M_g33, M_g34, M_g35, M_g36, M_g37, M_g38, M_g39, M_g40, M_g41, M_s0, M_s37, M_s38, M_s39, kI_xI, kI_xB, kI_xA, kI_xV, kB_xI, kB_xB, kB_xA, kB_xV, kA_xI, kA_xB, kA_xA, kA_xV, kV_xI, kV_xB, kV_xA, kV_xV, Nat.reduceEqDiff, reduceIte, q1, Option.isSome, iBt, nI10]
    have hl := wrN_len hok.1
    have e : wrN n = [] ++ (List.range' 0 (nF n 2)).flatMap (wrC (nL n)) := by
      unfold wrN
      rw [List.range_eq_range', List.nil_append]
    have fr : frZ (xI m 0 (nI 0)) (xI (xI (xI (xI m 0 (nI 0)) 37 (nI 0)) 38 w) 39 (-1)) := frZ_t (frZ_I (by decide)) (frZ_t (frZ_I (by decide)) (frZ_I (by decide)))
    refine wr_out (d := d) (m := xI m 0 (nI 0)) hok.1 hr hg.2.2.1 (nF n 2) 0 [] _ _ fr (Nat.zero_add _) (by rw [← e]; exact hl) ⟨rfl, rfl, ?_⟩ fun m2 v f2 w2 => ?_
    · show (-1 : Int32) = byA [] w
      unfold byA
      rw [List.length_nil, ix_0]
    rw [← e] at w2
    have K := K m2 (RM_fr f2 hm0)
    obtain ⟨w37, w38, w39⟩ := w2
    by_cases g : w = -1
    · rw [if_pos g] at K
      simp (disch := omega) only [u_244_0, u_244_1, u_244_2, u_244_5, u_244_6, u_244_9, u_244_12, u_244_13, u_244_14, u_244_15, u_244_16, u_244_19, u_244_20, u_244_21, u_244_24, u_244_25, u_244_26, u_244_29, u_244_30, u_244_32, u_244_33, u_244_36, u_244_39, u_244_40, u_244_43, u_244_44, u_244_46, u_244_49, u_244_50, u_244_52, u_244_53, u_244_54, u_244_57, u_244_58, u_244_60, u_244_61, u_244_64, u_244_65, u_244_66, u_244_69, u_244_70, u_244_73, u_244_74, u_244_76, u_244_79, u_244_80, u_244_82, u_244_83, u_244_86, u_244_87, u_244_88, u_244_89, u_244_90, u_244_93, u_244_94, u_244_95, u_244_98, u_244_101, u_244_104, u_244_107, u_244_110, u_244_111, u_244_112, u_244_115, u_244_116, u_244_119, u_244_122, u_244_123, u_244_124, u_244_125, u_244_126, u_244_129, u_244_130, u_244_131, u_244_132, u_244_135, u_244_138, u_244_139, u_244_142, u_244_145, u_244_146, gI0, gIs, gR0, gRs, gF0, gFs, st0, st_i, st_r, st_f, st_n, st_s, true_and, and_true, ↓ifLeT, ↓ifLeF, ↓ifLtT, ↓ifLtF, ↓ifEqT, ↓ifEqF, if_tt, if_ff, if_pos, if_neg, nLe, nLt, nEq, nInT, nCl, pk_mul, nI_add, Nat.reduceAdd, s_cat_nil, s_cat_i, s_cat_r, s_cat_f, s_cat_l, tl_s, tl_n, cat_i, cat_r, cat_f, nb0, nb1, nbI, if_bI, if_bIr, Nat.zero_le, Nat.reduceLeDiff, M_g0, M_g1, M_g2, M_g3, M_g4, M_g5, M_g6, M_g7, M_g8, M_g9, M_g10, M_g11, M_g12, M_g13, M_g14, M_g15, M_g16, M_g17, M_g18, M_g19, M_g20, M_g21, M_g22, M_g23, M_g24, M_g25, M_g26, M_g27, M_g28, M_g29, M_g30, M_g31, M_g32, M_g33, M_g34, M_g35, M_g36, M_g37, M_g38, M_g39, M_g40, M_g41, g, w37, reduceIte]
      exact K
    · rw [if_neg g] at K
      have e1 : ∀ Q, MT (d + 1) 142 [.long w.toInt64, .long 0, .long (nI (wrN n).length - nI 1).toInt64] (pM m2 h) Q ↔ Q (some (.int (iB (ixN w (wrN n).length).isSome))) (pM m2 h) := fun Q => by
        have h1 := hok.2.1
        have l1 : 1 ≤ (wrN n).length := by
          have e2 : wrN n = wrC (nL n) 0 ++ (List.range' 1 (nF n 2 - 1)).flatMap (wrC (nL n)) := by
            rw [e, List.nil_append, show nF n 2 = (nF n 2 - 1) + 1 by omega, List.range'_succ, List.flatMap_cons]
            rfl
          rw [e2, List.length_append, wrC_e, List.length_append, wrB_len]
          omega
        rw [sub1 l1]
        exact m_in0 (by omega) (by omega)
      unfold byA at w39
      cases h3 : ixN w (wrN n).length with
      | none =>
        rw [h3] at e1
        simp only [h3] at K
        simp (disch := omega) only [u_244_0, u_244_1, u_244_2, u_244_5, u_244_6, u_244_9, u_244_12, u_244_13, u_244_14, u_244_15, u_244_16, u_244_19, u_244_20, u_244_21, u_244_24, u_244_25, u_244_26, u_244_29, u_244_30, u_244_32, u_244_33, u_244_36, u_244_39, u_244_40, u_244_43, u_244_44, u_244_46, u_244_49, u_244_50, u_244_52, u_244_53, u_244_54, u_244_57, u_244_58, u_244_60, u_244_61, u_244_64, u_244_65, u_244_66, u_244_69, u_244_70, u_244_73, u_244_74, u_244_76, u_244_79, u_244_80, u_244_82, u_244_83, u_244_86, u_244_87, u_244_88, u_244_89, u_244_90, u_244_93, u_244_94, u_244_95, u_244_98, u_244_101, u_244_104, u_244_107, u_244_110, u_244_111, u_244_112, u_244_115, u_244_116, u_244_119, u_244_122, u_244_123, u_244_124, u_244_125, u_244_126, u_244_129, u_244_130, u_244_131, u_244_132, u_244_135, u_244_138, u_244_139, u_244_142, u_244_145, u_244_146, gI0, gIs, gR0, gRs, gF0, gFs, st0, st_i, st_r, st_f, st_n, st_s, true_and, and_true, ↓ifLeT, ↓ifLeF, ↓ifLtT, ↓ifLtF, ↓ifEqT, ↓ifEqF, if_tt, if_ff, if_pos, if_neg, nLe, nLt, nEq, nInT, nCl, pk_mul, nI_add, Nat.reduceAdd, s_cat_nil, s_cat_i, s_cat_r, s_cat_f, s_cat_l, tl_s, tl_n, cat_i, cat_r, cat_f, nb0, nb1, nbI, if_bI, if_bIr, Nat.zero_le, Nat.reduceLeDiff, M_g0, M_g1, M_g2, M_g3, M_g4, M_g5, M_g6, M_g7, M_g8, M_g9, M_g10, M_g11, M_g12, M_g13, M_g14, M_g15, M_g16, M_g17, M_g18, M_g19, M_g20, M_g21, M_g22, M_g23, M_g24, M_g25, M_g26, M_g27, M_g28, M_g29, M_g30, M_g31, M_g32, M_g33, M_g34, M_g35, M_g36, M_g37, M_g38, M_g39, M_g40, M_g41, g, w37, e1, Option.isSome, iBf, reduceIte]
        exact K
      | some j =>
        rw [h3] at e1 w39
        simp only [h3] at K
        simp (disch := omega) only [u_244_0, u_244_1, u_244_2, u_244_5, u_244_6, u_244_9, u_244_12, u_244_13, u_244_14, u_244_15, u_244_16, u_244_19, u_244_20, u_244_21, u_244_24, u_244_25, u_244_26, u_244_29, u_244_30, u_244_32, u_244_33, u_244_36, u_244_39, u_244_40, u_244_43, u_244_44, u_244_46, u_244_49, u_244_50, u_244_52, u_244_53, u_244_54, u_244_57, u_244_58, u_244_60, u_244_61, u_244_64, u_244_65, u_244_66, u_244_69, u_244_70, u_244_73, u_244_74, u_244_76, u_244_79, u_244_80, u_244_82, u_244_83, u_244_86, u_244_87, u_244_88, u_244_89, u_244_90, u_244_93, u_244_94, u_244_95, u_244_98, u_244_101, u_244_104, u_244_107, u_244_110, u_244_111, u_244_112, u_244_115, u_244_116, u_244_119, u_244_122, u_244_123, u_244_124, u_244_125, u_244_126, u_244_129, u_244_130, u_244_131, u_244_132, u_244_135, u_244_138, u_244_139, u_244_142, u_244_145, u_244_146, gI0, gIs, gR0, gRs, gF0, gFs, st0, st_i, st_r, st_f, st_n, st_s, true_and, and_true, ↓ifLeT, ↓ifLeF, ↓ifLtT, ↓ifLtF, ↓ifEqT, ↓ifEqF, if_tt, if_ff, if_pos, if_neg, nLe, nLt, nEq, nInT, nCl, pk_mul, nI_add, Nat.reduceAdd, s_cat_nil, s_cat_i, s_cat_r, s_cat_f, s_cat_l, tl_s, tl_n, cat_i, cat_r, cat_f, nb0, nb1, nbI, if_bI, if_bIr, Nat.zero_le, Nat.reduceLeDiff, M_g0, M_g1, M_g2, M_g3, M_g4, M_g5, M_g6, M_g7, M_g8, M_g9, M_g10, M_g11, M_g12, M_g13, M_g14, M_g15, M_g16, M_g17, M_g18, M_g19, M_g20, M_g21, M_g22, M_g23, M_g24, M_g25, M_g26, M_g27, M_g28, M_g29, M_g30, M_g31, M_g32, M_g33, M_g34, M_g35, M_g36, M_g37, M_g38, M_g39, M_g40, M_g41, g, w37, w39, e1, Option.isSome, iBt, nI10, reduceIte]
        exact K
theorem r_slack {j l : Nat} (hq : zQ z = some n) (hj : j < nF n 3) (hd : nDone n j = false) (hl : l ≤ 300) : ∀ q k m, k + q = 61 → RM m z → (∀ m', RM m' z → Q (some (.int (match (List.range' k q).find? (fun x => decide (¬ lastN 300 (slackN n j (x + 1)) = some l)) with | some x => nI x | none => nI 61))) (pM m' h)) → WP (d + 11) 258 48 [.ref 317, .int (nI j), .int (nI l), .int (nI (k + 1))] [] (pM m h) (0, 0) Q := by
  intro q
  induction q with
  | zero =>
    intro k m hk hm K
    have e : k = 61 := by omega
    subst e
    rw [u_258_48]
    simp (disch := omega) only [u_258_0, u_258_1, u_258_2, u_258_5, u_258_6, u_258_7, u_258_10, u_258_13, u_258_14, u_258_15, u_258_18, u_258_19, u_258_22, u_258_25, u_258_28, u_258_29, u_258_30, u_258_31, u_258_34, u_258_37, u_258_38, u_258_39, u_258_41, u_258_44, u_258_45, u_258_46, u_258_47, u_258_49, u_258_51, u_258_54, u_258_55, u_258_58, u_258_59, u_258_62, u_258_65, u_258_66, u_258_69, u_258_70, u_258_71, u_258_74, u_258_75, u_258_76, u_258_77, u_258_78, u_258_79, u_258_80, u_258_81, u_258_84, u_258_87, u_258_88, u_258_91, u_258_92, u_258_93, u_258_94, u_258_95, u_258_98, u_258_101, u_258_103, gI0, gIs, gR0, gRs, gF0, gFs, st0, st_i, st_r, st_f, st_n, st_s, true_and, and_true, ↓ifLeT, ↓ifLeF, ↓ifLtT, ↓ifLtF, ↓ifEqT, ↓ifEqF, if_tt, if_ff, if_pos, if_neg, nLe, nLt, nEq, nInT, nCl, pk_mul, nI_add, Nat.reduceAdd, s_cat_nil, s_cat_i, s_cat_r, s_cat_f, s_cat_l, tl_s, tl_n, cat_i, cat_r, cat_f, nb0, nb1, nbI, if_bI, if_bIr, Nat.zero_le, Nat.reduceLeDiff]
    exact K m hm
  | succ q ih =>
    intro k m hk hm K
    obtain ⟨hg, hr, hok⟩ := RM_q hm hq
    have h8 := hok.1.1.2.1
    have h30 := hok.2.2.2 j hj
    rw [u_258_48]
    simp (disch := omega) only [u_258_0, u_258_1, u_258_2, u_258_5, u_258_6, u_258_7, u_258_10, u_258_13, u_258_14, u_258_15, u_258_18, u_258_19, u_258_22, u_258_25, u_258_28, u_258_29, u_258_30, u_258_31, u_258_34, u_258_37, u_258_38, u_258_39, u_258_41, u_258_44, u_258_45, u_258_46, u_258_47, u_258_49, u_258_51, u_258_54, u_258_55, u_258_58, u_258_59, u_258_62, u_258_65, u_258_66, u_258_69, u_258_70, u_258_71, u_258_74, u_258_75, u_258_76, u_258_77, u_258_78, u_258_79, u_258_80, u_258_81, u_258_84, u_258_87, u_258_88, u_258_91, u_258_92, u_258_93, u_258_94, u_258_95, u_258_98, u_258_101, u_258_103, gI0, gIs, gR0, gRs, gF0, gFs, st0, st_i, st_r, st_f, st_n, st_s, true_and, and_true, ↓ifLeT, ↓ifLeF, ↓ifLtT, ↓ifLtF, ↓ifEqT, ↓ifEqF, if_tt, if_ff, if_pos, if_neg, nLe, nLt, nEq, nInT, nCl, pk_mul, nI_add, Nat.reduceAdd, s_cat_nil, s_cat_i, s_cat_r, s_cat_f, s_cat_l, tl_s, tl_n, cat_i, cat_r, cat_f, nb0, nb1, nbI, if_bI, if_bIr, Nat.zero_le, Nat.reduceLeDiff, M_g0, M_g1, M_g2, M_g3, M_g4, M_g5, M_g6, M_g7, M_g8, M_g9, M_g10, M_g11, M_g12, M_g13, M_g14, M_g15, M_g16, M_g17, M_g18, M_g19, M_g20, M_g21, M_g22, M_g23, M_g24, M_g25, M_g26, M_g27, M_g28, M_g29, M_g30, M_g31, M_g32, M_g33, M_g34, M_g35, M_g36, M_g37, M_g38, M_g39, M_g40, M_g41]
    refine r_copy rb320 rb330 (by decide) fun f hf => ?_
    have hr1 : RR f n := RR_cong hok.1 hf hr
    have a13 := (hr1.2.2.2 j hj).2.1
    have hr2 := RR_x13 (t := j) (x := nA n 13 j + (k + 1)) hok.1.1.1 (fun c => wfL_len hok.1.1 hok.1.2.2.2 c) hr1
    have hw2 := wf_slack (x := k + 1) hok.1 hj hd (by omega)
    simp (disch := omega) only [u_258_0, u_258_1, u_258_2, u_258_5, u_258_6, u_258_7, u_258_10, u_258_13, u_258_14, u_258_15, u_258_18, u_258_19, u_258_22, u_258_25, u_258_28, u_258_29, u_258_30, u_258_31, u_258_34, u_258_37, u_258_38, u_258_39, u_258_41, u_258_44, u_258_45, u_258_46, u_258_47, u_258_49, u_258_51, u_258_54, u_258_55, u_258_58, u_258_59, u_258_62, u_258_65, u_258_66, u_258_69, u_258_70, u_258_71, u_258_74, u_258_75, u_258_76, u_258_77, u_258_78, u_258_79, u_258_80, u_258_81, u_258_84, u_258_87, u_258_88, u_258_91, u_258_92, u_258_93, u_258_94, u_258_95, u_258_98, u_258_101, u_258_103, gI0, gIs, gR0, gRs, gF0, gFs, st0, st_i, st_r, st_f, st_n, st_s, true_and, and_true, ↓ifLeT, ↓ifLeF, ↓ifLtT, ↓ifLtF, ↓ifEqT, ↓ifEqF, if_tt, if_ff, if_pos, if_neg, nLe, nLt, nEq, nInT, nCl, pk_mul, nI_add, Nat.reduceAdd, s_cat_nil, s_cat_i, s_cat_r, s_cat_f, s_cat_l, tl_s, tl_n, cat_i, cat_r, cat_f, nb0, nb1, nbI, if_bI, if_bIr, Nat.zero_le, Nat.reduceLeDiff, M_ob, M_g0, M_g1, M_g2, M_g3, M_g4, M_g5, M_g6, M_g7, M_g8, M_g9, M_g10, M_g11, M_g12, M_g13, M_g14, M_g15, M_g16, M_g17, M_g18, M_g19, M_g20, M_g21, M_g22, M_g23, M_g24, M_g25, M_g26, M_g27, M_g28, M_g29, M_g30, M_g31, M_g32, M_g33, M_g34, M_g35, M_g36, M_g37, M_g38, M_g39, M_g40, M_g41, m_tAt, M_r rb330, M_rw rb330, kA_eq, xA_tw, a13]
    refine r_lastV (d := d) (n := slackN n j (k + 1)) rb330 (by decide) hw2 (MG_fr rb330 hg frM_b) (by rw [kA_eq]; exact hr2) fun m' f' => ?_
    have hm' : RM m' z := RM_fr (frZ_t (frZ_A (by decide)) (frZ_M (Or.inl rfl) f')) hm
    rw [lastV_e]
    simp only [List.range'_succ, List.find?_cons] at K
    by_cases g : lastN 300 (slackN n j (k + 1)) = some l
    · rw [g]
      simp only [g, not_true, decide_false] at K
      simp (disch := omega) only [u_258_0, u_258_1, u_258_2, u_258_5, u_258_6, u_258_7, u_258_10, u_258_13, u_258_14, u_258_15, u_258_18, u_258_19, u_258_22, u_258_25, u_258_28, u_258_29, u_258_30, u_258_31, u_258_34, u_258_37, u_258_38, u_258_39, u_258_41, u_258_44, u_258_45, u_258_46, u_258_47, u_258_49, u_258_51, u_258_54, u_258_55, u_258_58, u_258_59, u_258_62, u_258_65, u_258_66, u_258_69, u_258_70, u_258_71, u_258_74, u_258_75, u_258_76, u_258_77, u_258_78, u_258_79, u_258_80, u_258_81, u_258_84, u_258_87, u_258_88, u_258_91, u_258_92, u_258_93, u_258_94, u_258_95, u_258_98, u_258_101, u_258_103, gI0, gIs, gR0, gRs, gF0, gFs, st0, st_i, st_r, st_f, st_n, st_s, true_and, and_true, ↓ifLeT, ↓ifLeF, ↓ifLtT, ↓ifLtF, ↓ifEqT, ↓ifEqF, if_tt, if_ff, if_pos, if_neg, nLe, nLt, nEq, nInT, nCl, pk_mul, nI_add, Nat.reduceAdd, s_cat_nil, s_cat_i, s_cat_r, s_cat_f, s_cat_l, tl_s, tl_n, cat_i, cat_r, cat_f, nb0, nb1, nbI, if_bI, if_bIr, Nat.zero_le, Nat.reduceLeDiff, Option.getD]
      exact ih (k + 1) m' (by omega) hm' K
    · have ne : ¬ nI ((lastN 300 (slackN n j (k + 1))).getD 1000000) = nI l := fun q => g (by
        cases hv : lastN 300 (slackN n j (k + 1)) with
        | none =>
          rw [hv] at q
          have := (nI_eq (a := 1000000) (b := l) (by omega) (by omega)).mp q
          omega
        | some v =>
          rw [hv] at q
          have l2 := last_le hv
          have := (nI_eq (a := v) (b := l) (by omega) (by omega)).mp q
          rw [this])
      have sb : nI (k + 1) - nI 1 = nI k := by rw [pk_sub (by omega)]; rfl
      simp only [g, not_false_iff, decide_true] at K
      simp (disch := omega) only [u_258_0, u_258_1, u_258_2, u_258_5, u_258_6, u_258_7, u_258_10, u_258_13, u_258_14, u_258_15, u_258_18, u_258_19, u_258_22, u_258_25, u_258_28, u_258_29, u_258_30, u_258_31, u_258_34, u_258_37, u_258_38, u_258_39, u_258_41, u_258_44, u_258_45, u_258_46, u_258_47, u_258_49, u_258_51, u_258_54, u_258_55, u_258_58, u_258_59, u_258_62, u_258_65, u_258_66, u_258_69, u_258_70, u_258_71, u_258_74, u_258_75, u_258_76, u_258_77, u_258_78, u_258_79, u_258_80, u_258_81, u_258_84, u_258_87, u_258_88, u_258_91, u_258_92, u_258_93, u_258_94, u_258_95, u_258_98, u_258_101, u_258_103, gI0, gIs, gR0, gRs, gF0, gFs, st0, st_i, st_r, st_f, st_n, st_s, true_and, and_true, ↓ifLeT, ↓ifLeF, ↓ifLtT, ↓ifLtF, ↓ifEqT, ↓ifEqF, if_tt, if_ff, if_pos, if_neg, nLe, nLt, nEq, nInT, nCl, pk_mul, nI_add, Nat.reduceAdd, s_cat_nil, s_cat_i, s_cat_r, s_cat_f, s_cat_l, tl_s, tl_n, cat_i, cat_r, cat_f, nb0, nb1, nbI, if_bI, if_bIr, Nat.zero_le, Nat.reduceLeDiff, ne, sb]
      exact K m' hm'
theorem z_slack (hm : RM m z) (K : ∀ m', RM m' z → Q (some (.int (zslack z t))) (pM m' h)) : MT (d + 12) 258 [.ref 317, .int t] (pM m h) Q := by
  rw [MT_go (by decide) _ _ _ (Nat.le_of_ble_eq_true rfl), show s_entry 258 [.ref 317, .int t] = [.ref 317, .int t, s_no, s_no] from rfl]
  have hm0 := RM_0 (x := nI 0) hm
  have e1 := fun Q => z_isT (d := d + 9) (h := h) (Q := Q) (x := t) hm0
  unfold zslack at K
  cases hq : zQ z with
  | none =>
    simp only [hq] at K
    rw [zN_0 hq, ix_0] at e1
    simp (disch := omega) only [u_258_0, u_258_1, u_258_2, u_258_5, u_258_6, u_258_7, u_258_10, u_258_13, u_258_14, u_258_15, u_258_18, u_258_19, u_258_22, u_258_25, u_258_28, u_258_29, u_258_30, u_258_31, u_258_34, u_258_37, u_258_38, u_258_39, u_258_41, u_258_44, u_258_45, u_258_46, u_258_47, u_258_49, u_258_51, u_258_54, u_258_55, u_258_58, u_258_59, u_258_62, u_258_65, u_258_66, u_258_69, u_258_70, u_258_71, u_258_74, u_258_75, u_258_76, u_258_77, u_258_78, u_258_79, u_258_80, u_258_81, u_258_84, u_258_87, u_258_88, u_258_91, u_258_92, u_258_93, u_258_94, u_258_95, u_258_98, u_258_101, u_258_103, gI0, gIs, gR0, gRs, gF0, gFs, st0, st_i, st_r, st_f, st_n, st_s, true_and, and_true, ↓ifLeT, ↓ifLeF, ↓ifLtT, ↓ifLtF, ↓ifEqT, ↓ifEqF, if_tt, if_ff, if_pos, if_neg, nLe, nLt, nEq, nInT, nCl, pk_mul, nI_add, Nat.reduceAdd, s_cat_nil, s_cat_i, s_cat_r, s_cat_f, s_cat_l, tl_s, tl_n, cat_i, cat_r, cat_f, nb0, nb1, nbI, if_bI, if_bIr, Nat.zero_le, Nat.reduceLeDiff, M_ob, M_s0, e1, Option.isSome, iBf]
    exact K _ hm0
  | some n =>
    simp only [hq] at K
    rw [zN_s hq] at e1
    obtain ⟨hg, hr, hok⟩ := RM_q hm0 hq
    have h8 := hok.1.1.2.1
    cases h1 : ixN t (nF n 3) with
    | none =>
      rw [h1] at e1
      simp only [h1] at K
      simp (disch := omega) only [u_258_0, u_258_1, u_258_2, u_258_5, u_258_6, u_258_7, u_258_10, u_258_13, u_258_14, u_258_15, u_258_18, u_258_19, u_258_22, u_258_25, u_258_28, u_258_29, u_258_30, u_258_31, u_258_34, u_258_37, u_258_38, u_258_39, u_258_41, u_258_44, u_258_45, u_258_46, u_258_47, u_258_49, u_258_51, u_258_54, u_258_55, u_258_58, u_258_59, u_258_62, u_258_65, u_258_66, u_258_69, u_258_70, u_258_71, u_258_74, u_258_75, u_258_76, u_258_77, u_258_78, u_258_79, u_258_80, u_258_81, u_258_84, u_258_87, u_258_88, u_258_91, u_258_92, u_258_93, u_258_94, u_258_95, u_258_98, u_258_101, u_258_103, gI0, gIs, gR0, gRs, gF0, gFs, st0, st_i, st_r, st_f, st_n, st_s, true_and, and_true, ↓ifLeT, ↓ifLeF, ↓ifLtT, ↓ifLtF, ↓ifEqT, ↓ifEqF, if_tt, if_ff, if_pos, if_neg, nLe, nLt, nEq, nInT, nCl, pk_mul, nI_add, Nat.reduceAdd, s_cat_nil, s_cat_i, s_cat_r, s_cat_f, s_cat_l, tl_s, tl_n, cat_i, cat_r, cat_f, nb0, nb1, nbI, if_bI, if_bIr, Nat.zero_le, Nat.reduceLeDiff, M_ob, M_s0, e1, Option.isSome, iBf]
      exact K _ hm0
    | some j =>
      rw [h1] at e1
      simp only [h1] at K
      obtain ⟨j1, rfl⟩ := ix_some (by omega) h1
      have e2 := fun Q => r_left (d := d + 9) (h := h) (Q := Q) rb320 hok.1 hr j1
      cases hd : nDone n j with
      | true =>
        rw [hd] at e2
        simp only [hd, if_true] at K
        simp (disch := omega) only [u_258_0, u_258_1, u_258_2, u_258_5, u_258_6, u_258_7, u_258_10, u_258_13, u_258_14, u_258_15, u_258_18, u_258_19, u_258_22, u_258_25, u_258_28, u_258_29, u_258_30, u_258_31, u_258_34, u_258_37, u_258_38, u_258_39, u_258_41, u_258_44, u_258_45, u_258_46, u_258_47, u_258_49, u_258_51, u_258_54, u_258_55, u_258_58, u_258_59, u_258_62, u_258_65, u_258_66, u_258_69, u_258_70, u_258_71, u_258_74, u_258_75, u_258_76, u_258_77, u_258_78, u_258_79, u_258_80, u_258_81, u_258_84, u_258_87, u_258_88, u_258_91, u_258_92, u_258_93, u_258_94, u_258_95, u_258_98, u_258_101, u_258_103, gI0, gIs, gR0, gRs, gF0, gFs, st0, st_i, st_r, st_f, st_n, st_s, true_and, and_true, ↓ifLeT, ↓ifLeF, ↓ifLtT, ↓ifLtF, ↓ifEqT, ↓ifEqF, if_tt, if_ff, if_pos, if_neg, nLe, nLt, nEq, nInT, nCl, pk_mul, nI_add, Nat.reduceAdd, s_cat_nil, s_cat_i, s_cat_r, s_cat_f, s_cat_l, tl_s, tl_n, cat_i, cat_r, cat_f, nb0, nb1, nbI, if_bI, if_bIr, Nat.zero_le, Nat.reduceLeDiff, M_ob, M_s0, M_g0, M_g1, M_g2, M_g3, M_g4, M_g5, M_g6, M_g7, M_g8, M_g9, M_g10, M_g11, M_g12, M_g13, M_g14, M_g15, M_g16, M_g17, M_g18, M_g19, M_g20, M_g21, M_g22, M_g23, M_g24, M_g25, M_g26, M_g27, M_g28, M_g29, M_g30, M_g31, M_g32, M_g33, M_g34, M_g35, M_g36, M_g37, M_g38, M_g39, M_g40, M_g41, e1, e2, Option.isSome, iBt, iBf, nI10, Bool.not_true, reduceIte]
        exact K _ hm0
      | false =>
        rw [hd] at e2
        simp only [hd, Bool.false_eq_true, if_false] at K
        simp (disch := omega) only [u_258_0, u_258_1, u_258_2, u_258_5, u_258_6, u_258_7, u_258_10, u_258_13, u_258_14, u_258_15, u_258_18, u_258_19, u_258_22, u_258_25, u_258_28, u_258_29, u_258_30, u_258_31, u_258_34, u_258_37, u_258_38, u_258_39, u_258_41, u_258_44, u_258_45, u_258_46, u_258_47, u_258_49, u_258_51, u_258_54, u_258_55, u_258_58, u_258_59, u_258_62, u_258_65, u_258_66, u_258_69, u_258_70, u_258_71, u_258_74, u_258_75, u_258_76, u_258_77, u_258_78, u_258_79, u_258_80, u_258_81, u_258_84, u_258_87, u_258_88, u_258_91, u_258_92, u_258_93, u_258_94, u_258_95, u_258_98, u_258_101, u_258_103, gI0, gIs, gR0, gRs, gF0, gFs, st0, st_i, st_r, st_f, st_n, st_s, true_and, and_true, ↓ifLeT, ↓ifLeF, ↓ifLtT, ↓ifLtF, ↓ifEqT, ↓ifEqF, if_tt, if_ff, if_pos, if_neg, nLe, nLt, nEq, nInT, nCl, pk_mul, nI_add, Nat.reduceAdd, s_cat_nil, s_cat_i, s_cat_r, s_cat_f, s_cat_l, tl_s, tl_n, cat_i, cat_r, cat_f, nb0, nb1, nbI, if_bI, if_bIr, Nat.zero_le, Nat.reduceLeDiff, M_ob, M_s0, M_g0, M_g1, M_g2, M_g3, M_g4, M_g5, M_g6, M_g7, M_g8, M_g9, M_g10, M_g11, M_g12, M_g13, M_g14, M_g15, M_g16, M_g17, M_g18, M_g19, M_g20, M_g21, M_g22, M_g23, M_g24, M_g25, M_g26, M_g27, M_g28, M_g29, M_g30, M_g31, M_g32, M_g33, M_g34, M_g35, M_g36, M_g37, M_g38, M_g39, M_g40, M_g41, e1, e2, Option.isSome, iBt, nI10, Bool.not_false, reduceIte]
        refine r_lastV (d := d) rb320 (by decide) hok.1 hg hr fun m' f => ?_
        have hm' : RM m' z := RM_fr (frZ_M (Or.inl rfl) f) hm0
        rw [lastV_e]
        cases hl : lastN 300 n with
        | none =>
          simp only [hl] at K
          simp (disch := omega) only [u_258_0, u_258_1, u_258_2, u_258_5, u_258_6, u_258_7, u_258_10, u_258_13, u_258_14, u_258_15, u_258_18, u_258_19, u_258_22, u_258_25, u_258_28, u_258_29, u_258_30, u_258_31, u_258_34, u_258_37, u_258_38, u_258_39, u_258_41, u_258_44, u_258_45, u_258_46, u_258_47, u_258_49, u_258_51, u_258_54, u_258_55, u_258_58, u_258_59, u_258_62, u_258_65, u_258_66, u_258_69, u_258_70, u_258_71, u_258_74, u_258_75, u_258_76, u_258_77, u_258_78, u_258_79, u_258_80, u_258_81, u_258_84, u_258_87, u_258_88, u_258_91, u_258_92, u_258_93, u_258_94, u_258_95, u_258_98, u_258_101, u_258_103, gI0, gIs, gR0, gRs, gF0, gFs, st0, st_i, st_r, st_f, st_n, st_s, true_and, and_true, ↓ifLeT, ↓ifLeF, ↓ifLtT, ↓ifLtF, ↓ifEqT, ↓ifEqF, if_tt, if_ff, if_pos, if_neg, nLe, nLt, nEq, nInT, nCl, pk_mul, nI_add, Nat.reduceAdd, s_cat_nil, s_cat_i, s_cat_r, s_cat_f, s_cat_l, tl_s, tl_n, cat_i, cat_r, cat_f, nb0, nb1, nbI, if_bI, if_bIr, Nat.zero_le, Nat.reduceLeDiff, Option.getD]
          exact K m' hm'
        | some l =>
          simp only [hl] at K
          have l3 := last_le hl
          simp (disch := omega) only [u_258_0, u_258_1, u_258_2, u_258_5, u_258_6, u_258_7, u_258_10, u_258_13, u_258_14, u_258_15, u_258_18, u_258_19, u_258_22, u_258_25, u_258_28, u_258_29, u_258_30, u_258_31, u_258_34, u_258_37, u_258_38, u_258_39, u_258_41, u_258_44, u_258_45, u_258_46, u_258_47, u_258_49, u_258_51, u_258_54, u_258_55, u_258_58, u_258_59, u_258_62, u_258_65, u_258_66, u_258_69, u_258_70, u_258_71, u_258_74, u_258_75, u_258_76, u_258_77, u_258_78, u_258_79, u_258_80, u_258_81, u_258_84, u_258_87, u_258_88, u_258_91, u_258_92, u_258_93, u_258_94, u_258_95, u_258_98, u_258_101, u_258_103, gI0, gIs, gR0, gRs, gF0, gFs, st0, st_i, st_r, st_f, st_n, st_s, true_and, and_true, ↓ifLeT, ↓ifLeF, ↓ifLtT, ↓ifLtF, ↓ifEqT, ↓ifEqF, if_tt, if_ff, if_pos, if_neg, nLe, nLt, nEq, nInT, nCl, pk_mul, nI_add, Nat.reduceAdd, s_cat_nil, s_cat_i, s_cat_r, s_cat_f, s_cat_l, tl_s, tl_n, cat_i, cat_r, cat_f, nb0, nb1, nbI, if_bI, if_bIr, Nat.zero_le, Nat.reduceLeDiff, Option.getD]
          refine r_slack (d := d) hq j1 hd l3 61 0 m' rfl hm' fun m2 hm2 => ?_
          have := K m2 hm2
          unfold firstN at this
          rw [← List.range_eq_range']
          exact this
end MS
