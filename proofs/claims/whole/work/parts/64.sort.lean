/-! the plain quay's tasks by bays; Search sorts so -/
def pickT (n : tN) (i b : Nat) : List Nat := (List.range i).filter (fun t => !nDone n t && decide (nA n 12 t = b))
def ordK (n : tN) (i : Nat) : List Nat := (List.range (nF n 0)).flatMap (pickT n i)
def ordN (n : tN) : List Nat := ordK n (nF n 3)
theorem fm_cong {f g : Nat → List Nat} : ∀ {l : List Nat}, (∀ b, b ∈ l → f b = g b) → l.flatMap f = l.flatMap g
  | [], _ => rfl
  | b :: l, h => by rw [List.flatMap_cons, List.flatMap_cons, h b List.mem_cons_self, fm_cong fun c hc => h c (List.mem_cons_of_mem _ hc)]
theorem pickT_succ {n : tN} {i b : Nat} : pickT n (i + 1) b = pickT n i b ++ (if !nDone n i && decide (nA n 12 i = b) then [i] else []) := by
  unfold pickT
  rw [List.range_succ, List.filter_append, List.filter_cons]
  rfl
theorem mem_pickT {n : tN} {i b t : Nat} : t ∈ pickT n i b ↔ t < i ∧ nDone n t = false ∧ nA n 12 t = b := by
  unfold pickT
  rw [List.mem_filter, List.mem_range, Bool.and_eq_true, decide_eq_true_eq]
  simp
theorem ordK_done {n : tN} {i : Nat} (h : nDone n i = true) : ordK n (i + 1) = ordK n i := fm_cong fun b _ => by
  rw [pickT_succ, h]
  simp
theorem ordK_new {n : tN} {i : Nat} (h : nDone n i = false) (hs : nA n 12 i < nF n 0) : ∃ A D, ordK n i = A ++ D ∧ ordK n (i + 1) = A ++ i :: D ∧ (∀ t, t ∈ A → nA n 12 t ≤ nA n 12 i) ∧ ∀ t, t ∈ D → nA n 12 i < nA n 12 t := by
  have hr : List.range (nF n 0) = List.range (nA n 12 i + 1) ++ (List.range (nF n 0 - (nA n 12 i + 1))).map (nA n 12 i + 1 + ·) := by
    rw [← List.range_add]
    congr 1
    omega
  refine ⟨(List.range (nA n 12 i + 1)).flatMap (pickT n i), ((List.range (nF n 0 - (nA n 12 i + 1))).map (nA n 12 i + 1 + ·)).flatMap (pickT n i), ?_, ?_, fun t ht => ?_, fun t ht => ?_⟩
  · unfold ordK
    rw [hr, List.flatMap_append]
  · unfold ordK
    rw [hr, List.flatMap_append, List.range_succ, List.flatMap_append, List.flatMap_append]
    have e1 : (List.range (nA n 12 i)).flatMap (pickT n (i + 1)) = (List.range (nA n 12 i)).flatMap (pickT n i) := fm_cong fun b hb => by
      have := List.mem_range.mp hb
      rw [pickT_succ, decide_eq_false (by omega)]
      simp
    have e2 : ((List.range (nF n 0 - (nA n 12 i + 1))).map (nA n 12 i + 1 + ·)).flatMap (pickT n (i + 1)) = ((List.range (nF n 0 - (nA n 12 i + 1))).map (nA n 12 i + 1 + ·)).flatMap (pickT n i) := fm_cong fun b hb => by
      obtain ⟨r, -, e⟩ := List.mem_map.mp hb
      rw [pickT_succ, decide_eq_false (by omega)]
      simp
    rw [e1, e2]
    simp only [List.flatMap_cons, List.flatMap_nil, List.append_nil]
    rw [pickT_succ, h, decide_eq_true rfl]
    simp
  · obtain ⟨b, hb, ht⟩ := List.mem_flatMap.mp ht
    have := List.mem_range.mp hb
    have := (mem_pickT.mp ht).2.2
    omega
  · obtain ⟨b, hb, ht⟩ := List.mem_flatMap.mp ht
    obtain ⟨r, -, e⟩ := List.mem_map.mp hb
    have := (mem_pickT.mp ht).2.2
    omega
theorem mem_ordK {n : tN} {i t : Nat} : t ∈ ordK n i ↔ t < i ∧ nDone n t = false ∧ nA n 12 t < nF n 0 := by
  unfold ordK
  rw [List.mem_flatMap]
  constructor
  · rintro ⟨b, hb, ht⟩
    obtain ⟨h1, h2, h3⟩ := mem_pickT.mp ht
    exact ⟨h1, h2, by rw [h3]; exact List.mem_range.mp hb⟩
  · rintro ⟨h1, h2, h3⟩
    exact ⟨_, List.mem_range.mpr h3, mem_pickT.mpr ⟨h1, h2, rfl⟩⟩
theorem ordK_nodup {n : tN} (hT : wfT n) : ∀ i, i ≤ nF n 3 → (ordK n i).Nodup
  | 0, _ => by
    have : ordK n 0 = [] := by
      unfold ordK
      rw [List.flatMap_eq_nil_iff]
      intro b _
      rfl
    rw [this]
    exact List.nodup_nil
  | i + 1, hi => by
    have ih := ordK_nodup hT i (by omega)
    cases h : nDone n i with
    | true => rw [ordK_done h]; exact ih
    | false =>
      obtain ⟨A, D, e1, e2, -, -⟩ := ordK_new h (hT i (by omega)).1
      rw [e2]
      rw [e1] at ih
      have hni : ¬ i ∈ A ++ D := fun q => by
        rw [← e1] at q
        have := (mem_ordK.mp q).1
        omega
      rw [List.nodup_append] at ih ⊢
      obtain ⟨n1, n2, n3⟩ := ih
      refine ⟨n1, List.nodup_cons.mpr ⟨fun q => hni (List.mem_append_right _ q), n2⟩, fun a ha b hb => ?_⟩
      rcases List.mem_cons.mp hb with e | e
      · rw [e]; exact fun q => hni (List.mem_append_left _ (q ▸ ha))
      · exact n3 a ha b e
section SRT
variable {b d : Nat} {s : tS} {h : sH} {i x : Int32} {Q : sQ} {n : tN} {l : tL} {g : tG}
/-- the state while it is sorted -/
def sO (s : tS) (M : Nat) (f : Nat → Int32) : tS := wSG s (vN (vA (SG s) 305 f) 306 M)
theorem sO_wA {M : Nat} {f f' : Nat → Int32} : wSG (sO s M f) (vA (SG (sO s M f)) 305 f') = sO s M f' := by
  have e : vA (vN (vA (SG s) 305 f) 306 M) 305 f' = vN (vA (vA (SG s) 305 f) 305 f') 306 M := rfl
  show wSG s (vA (vN (vA (SG s) 305 f) 306 M) 305 f') = wSG s _
  rw [e, vA_tw]
theorem sO_wN {M M' : Nat} {f : Nat → Int32} : wSG (sO s M f) (vN (SG (sO s M f)) 306 M') = sO s M' f := by
  show wSG s (vN (vN (vA (SG s) 305 f) 306 M) 306 M') = wSG s _
  congr 1
  refine tO_eq (funext fun q => ?_) rfl rfl rfl rfl rfl
  show (if q = 306 then M' else if q = 306 then M else _) = if q = 306 then M' else _
  by_cases e : q = 306
  · rw [if_pos e, if_pos e]
  · rw [if_neg e, if_neg e, if_neg e]
theorem sO_A {M : Nat} {f : Nat → Int32} : eA (SG (sO s M f)) 305 = f := by
  show (if 305 = 305 then f else eA (SG s) 305) = f
  exact if_pos rfl
theorem sO_N {M : Nat} {f : Nat → Int32} : eN (SG (sO s M f)) 306 = M := by
  show (if 306 = 306 then M else eN (SG s) 306) = M
  exact if_pos rfl
theorem sO_Y {M : Nat} {f : Nat → Int32} : SY (sO s M f) = SY s := rfl
theorem sO_eta : wSG s (vN (SG s) 306 0) = sO s 0 (eA (SG s) 305) := by
  show wSG s _ = wSG s _
  congr 1
  have e : vA (SG s) 305 (eA (SG s) 305) = SG s := vA_eta
  rw [e]
theorem F_done {t : Nat} (hn : wfN n) (hy : RY (SY s 240) n) (ht : t < nF n 3) : MT (d + 1) 69 [.ref 240, .int (nI t)] (pS s h) Q ↔ Q (some (.int (iB (nDone n t)))) (pS s h) := by
  have e := tl_Y (d := d + 1) (s := s) (h := h) (Q := Q) yb240 fun h Q => m_isDone (d := d) (a := 240) (y := SY s 240) (h := h) (Q := Q) (x := nI t)
  rw [hy.1.2.2.2.2.2.2] at e
  have bd := bit_done hn.1 ht
  cases hd : nDone n t with
  | false =>
    rw [bI_f (fun q => q (bd.mpr hd))] at e
    exact e
  | true =>
    have hh : ¬ bitS (nI (bitsN (nDone n) (nF n 3))) (nI t) = nI 0 := fun q => by rw [bd.mp q] at hd; cases hd
    rw [bI_t hh] at e
    exact e
theorem sort_in {t : Nat} (hn : wfN n) (hy : RY (SY s 240) n) (ht : t < nF n 3) {xs : List Nat} (hx : ∀ u, u ∈ xs → u < nF n 3) (h8 : xs.length < 8) : ∀ k f, k ≤ xs.length → (∀ j, j < k → f j = nI (xs.getD j 0)) → (∀ j, k ≤ j → j < xs.length → f (j + 1) = nI (xs.getD j 0) ∧ nA n 12 t < nA n 12 (xs.getD j 0)) → (∀ k f, k ≤ xs.length → (∀ j, j < k → f j = nI (xs.getD j 0)) → (∀ j, k ≤ j → j < xs.length → f (j + 1) = nI (xs.getD j 0) ∧ nA n 12 t < nA n 12 (xs.getD j 0)) → (k = 0 ∨ nA n 12 (xs.getD (k - 1) 0) ≤ nA n 12 t) → WP (d + 1) 47 98 [.ref 239, .int (nI t), .int (nI k)] [] (pS (sO s xs.length f) h) (0, 0) Q) → WP (d + 1) 47 46 [.ref 239, .int (nI t), .int (nI k)] [] (pS (sO s xs.length f) h) (0, 0) Q := by
  intro k
  induction k with
  | zero =>
    intro f hk h1 h2 K
    rw [u_47_46]
    simp (disch := omega) only [u_47_0, u_47_1, u_47_2, u_47_5, u_47_6, u_47_8, u_47_9, u_47_12, u_47_15, u_47_18, u_47_19, u_47_22, u_47_23, u_47_26, u_47_29, u_47_30, u_47_33, u_47_34, u_47_37, u_47_38, u_47_41, u_47_42, u_47_45, u_47_47, u_47_50, u_47_51, u_47_54, u_47_57, u_47_58, u_47_61, u_47_62, u_47_63, u_47_64, u_47_65, u_47_66, u_47_67, u_47_70, u_47_73, u_47_74, u_47_75, u_47_78, u_47_79, u_47_82, u_47_83, u_47_84, u_47_87, u_47_88, u_47_89, u_47_90, u_47_91, u_47_92, u_47_95, u_47_99, u_47_102, u_47_103, u_47_104, u_47_105, u_47_106, u_47_107, u_47_110, u_47_111, u_47_112, u_47_115, u_47_118, u_47_121, gI0, gIs, gR0, gRs, gF0, gFs, st0, st_i, st_r, st_f, st_n, st_s, true_and, and_true, ↓ifLeT, ↓ifLeF, ↓ifLtT, ↓ifLtF, ↓ifEqT, ↓ifEqF, if_tt, if_ff, if_pos, if_neg, nLe, nLt, nEq, nInT, nCl, pk_mul, nI_add, Nat.reduceAdd, s_cat_nil, s_cat_i, s_cat_r, s_cat_f, s_cat_l, tl_s, tl_n, cat_i, cat_r, cat_f, nb0, nb1, nbI, if_bI, if_bIr, Nat.zero_le, Nat.reduceLeDiff]
    exact K 0 f (Nat.zero_le _) h1 h2 (Or.inl rfl)
  | succ k ih =>
    intro f hk h1 h2 K
    have h8T := hn.1.2.1
    have hB := hn.1.2.2.2.1
    have hm := hx _ (getD_mem (show k < xs.length by omega))
    have e1 : f k = nI (xs.getD k 0) := h1 k (by omega)
    have y12 := (hy.2.2.1 t ht).1
    have y12' := (hy.2.2.1 _ hm).1
    have s1 := (hn.2.2.1 t ht).1
    have s2 := (hn.2.2.1 _ hm).1
    have i1 : vp_in (nI k) 8 := (nIn (by omega)).mpr (by omega)
    have i2 : vp_in (nI t) 8 := (nIn (by omega)).mpr (by omega)
    have i3 : vp_in (nI (xs.getD k 0)) 8 := (nIn (by omega)).mpr (by omega)
    have i4 : vp_in (nI (k + 1)) 8 := (nIn (by omega)).mpr (by omega)
    have c1 : (nI (xs.getD k 0)).toNatClampNeg = xs.getD k 0 := nCl (by omega)
    rw [u_47_46]
    by_cases hc : nA n 12 (xs.getD k 0) ≤ nA n 12 t
    · simp (disch := omega) only [u_47_0, u_47_1, u_47_2, u_47_5, u_47_6, u_47_8, u_47_9, u_47_12, u_47_15, u_47_18, u_47_19, u_47_22, u_47_23, u_47_26, u_47_29, u_47_30, u_47_33, u_47_34, u_47_37, u_47_38, u_47_41, u_47_42, u_47_45, u_47_47, u_47_50, u_47_51, u_47_54, u_47_57, u_47_58, u_47_61, u_47_62, u_47_63, u_47_64, u_47_65, u_47_66, u_47_67, u_47_70, u_47_73, u_47_74, u_47_75, u_47_78, u_47_79, u_47_82, u_47_83, u_47_84, u_47_87, u_47_88, u_47_89, u_47_90, u_47_91, u_47_92, u_47_95, u_47_99, u_47_102, u_47_103, u_47_104, u_47_105, u_47_106, u_47_107, u_47_110, u_47_111, u_47_112, u_47_115, u_47_118, u_47_121, gI0, gIs, gR0, gRs, gF0, gFs, st0, st_i, st_r, st_f, st_n, st_s, true_and, and_true, ↓ifLeT, ↓ifLeF, ↓ifLtT, ↓ifLtF, ↓ifEqT, ↓ifEqF, if_tt, if_ff, if_pos, if_neg, nLe, nLt, nEq, nInT, nCl, pk_mul, nI_add, Nat.reduceAdd, s_cat_nil, s_cat_i, s_cat_r, s_cat_f, s_cat_l, tl_s, tl_n, cat_i, cat_r, cat_f, nb0, nb1, nbI, if_bI, if_bIr, Nat.zero_le, Nat.reduceLeDiff, S_g0_0, S_g0_1, S_g0_2, S_g0_3, S_g0_4, S_g0_5, S_g0_6, S_g0_7, S_g0_8, S_g0_9, S_g0_10, S_g0_11, S_g0_12, S_g0_13, S_g0_14, S_g1_0, S_g1_1, S_g1_2, S_g1_3, S_g1_4, S_g72_0, S_g72_1, S_g72_2, S_g239_0, S_g239_1, S_g239_2, S_g239_3, S_g239_4, S_g239_5, S_g239_6, S_a23, S_n23, S_a282, S_n282, S_a300, S_n300, S_n73, S_n299, Y'_ob (isY_S yb240), Y'_g0 (isY_S yb240), Y'_g1 (isY_S yb240), Y'_g2 (isY_S yb240), Y'_g3 (isY_S yb240), Y'_g4 (isY_S yb240), Y'_g5 (isY_S yb240), Y'_g6 (isY_S yb240), Y'_g7 (isY_S yb240), Y'_g8 (isY_S yb240), Y'_g9 (isY_S yb240), Y'_g10 (isY_S yb240), Y'_g11 (isY_S yb240), Y'_g12 (isY_S yb240), Y'_g13 (isY_S yb240), Y'_g14 (isY_S yb240), Y'_g15 (isY_S yb240), Y'_g16 (isY_S yb240), Y'_g17 (isY_S yb240), Y'_g18 (isY_S yb240), Y'_g19 (isY_S yb240), Y'_a7 (isY_S yb240), Y'_a8 (isY_S yb240), Y'_a10 (isY_S yb240), Y'_a11 (isY_S yb240), Y'_a12 (isY_S yb240), Y'_a13 (isY_S yb240), Y'_a14 (isY_S yb240), Y'_a15 (isY_S yb240), Y'_a16 (isY_S yb240), Y'_a17 (isY_S yb240), Y'_a18 (isY_S yb240), Y'_sw (isY_S yb240), sO_Y, sO_A, pk_sub, Nat.add_sub_cancel, i1, i2, i3, e1, c1, y12, y12', hc]
      exact K (k + 1) f hk h1 h2 (Or.inr hc)
    · simp (disch := omega) only [u_47_0, u_47_1, u_47_2, u_47_5, u_47_6, u_47_8, u_47_9, u_47_12, u_47_15, u_47_18, u_47_19, u_47_22, u_47_23, u_47_26, u_47_29, u_47_30, u_47_33, u_47_34, u_47_37, u_47_38, u_47_41, u_47_42, u_47_45, u_47_47, u_47_50, u_47_51, u_47_54, u_47_57, u_47_58, u_47_61, u_47_62, u_47_63, u_47_64, u_47_65, u_47_66, u_47_67, u_47_70, u_47_73, u_47_74, u_47_75, u_47_78, u_47_79, u_47_82, u_47_83, u_47_84, u_47_87, u_47_88, u_47_89, u_47_90, u_47_91, u_47_92, u_47_95, u_47_99, u_47_102, u_47_103, u_47_104, u_47_105, u_47_106, u_47_107, u_47_110, u_47_111, u_47_112, u_47_115, u_47_118, u_47_121, gI0, gIs, gR0, gRs, gF0, gFs, st0, st_i, st_r, st_f, st_n, st_s, true_and, and_true, ↓ifLeT, ↓ifLeF, ↓ifLtT, ↓ifLtF, ↓ifEqT, ↓ifEqF, if_tt, if_ff, if_pos, if_neg, nLe, nLt, nEq, nInT, nCl, pk_mul, nI_add, Nat.reduceAdd, s_cat_nil, s_cat_i, s_cat_r, s_cat_f, s_cat_l, tl_s, tl_n, cat_i, cat_r, cat_f, nb0, nb1, nbI, if_bI, if_bIr, Nat.zero_le, Nat.reduceLeDiff, S_g0_0, S_g0_1, S_g0_2, S_g0_3, S_g0_4, S_g0_5, S_g0_6, S_g0_7, S_g0_8, S_g0_9, S_g0_10, S_g0_11, S_g0_12, S_g0_13, S_g0_14, S_g1_0, S_g1_1, S_g1_2, S_g1_3, S_g1_4, S_g72_0, S_g72_1, S_g72_2, S_g239_0, S_g239_1, S_g239_2, S_g239_3, S_g239_4, S_g239_5, S_g239_6, S_a23, S_n23, S_a282, S_n282, S_a300, S_n300, S_n73, S_n299, S_s0_5, S_s0_5t, S_s0_5f, S_s1_4, S_s72_1, S_s72_2, S_s239_6, S_w23, S_w282, S_w300, Y'_ob (isY_S yb240), Y'_g0 (isY_S yb240), Y'_g1 (isY_S yb240), Y'_g2 (isY_S yb240), Y'_g3 (isY_S yb240), Y'_g4 (isY_S yb240), Y'_g5 (isY_S yb240), Y'_g6 (isY_S yb240), Y'_g7 (isY_S yb240), Y'_g8 (isY_S yb240), Y'_g9 (isY_S yb240), Y'_g10 (isY_S yb240), Y'_g11 (isY_S yb240), Y'_g12 (isY_S yb240), Y'_g13 (isY_S yb240), Y'_g14 (isY_S yb240), Y'_g15 (isY_S yb240), Y'_g16 (isY_S yb240), Y'_g17 (isY_S yb240), Y'_g18 (isY_S yb240), Y'_g19 (isY_S yb240), Y'_a7 (isY_S yb240), Y'_a8 (isY_S yb240), Y'_a10 (isY_S yb240), Y'_a11 (isY_S yb240), Y'_a12 (isY_S yb240), Y'_a13 (isY_S yb240), Y'_a14 (isY_S yb240), Y'_a15 (isY_S yb240), Y'_a16 (isY_S yb240), Y'_a17 (isY_S yb240), Y'_a18 (isY_S yb240), Y'_sw (isY_S yb240), sO_Y, sO_A, pk_sub, Nat.add_sub_cancel, i1, i2, i3, i4, e1, c1, y12, y12', hc, sO_wA, pk_m1]
      refine ih _ (by omega) (fun j hj => ?_) (fun j j1 j2 => ?_) K
      · show (if j = k + 1 then _ else f j) = _
        rw [if_neg (by omega)]
        exact h1 j (by omega)
      · show (if j + 1 = k + 1 then _ else f (j + 1)) = _ ∧ _
        by_cases e : j = k
        · rw [if_pos (by omega), e]; exact ⟨rfl, by omega⟩
        · rw [if_neg (by omega)]; exact h2 j (by omega) j2
theorem ord_k {A D xs : List Nat} {t k : Nat} (e : xs = A ++ D) (hA : ∀ u, u ∈ A → nA n 12 u ≤ nA n 12 t) (hD : ∀ u, u ∈ D → nA n 12 t < nA n 12 u) (hk : k ≤ xs.length) (h1 : ∀ j, k ≤ j → j < xs.length → nA n 12 t < nA n 12 (xs.getD j 0)) (h2 : k = 0 ∨ nA n 12 (xs.getD (k - 1) 0) ≤ nA n 12 t) : k = A.length := by
  subst e
  rw [List.length_append] at hk h1
  rcases Nat.lt_trichotomy k A.length with q | q | q
  · have := h1 k (Nat.le_refl _) (by omega)
    have e2 : (A ++ D).getD k 0 = A.getD k 0 := by rw [List.getD_eq_getElem?_getD, List.getD_eq_getElem?_getD, List.getElem?_append_left q]
    rw [e2] at this
    have := hA _ (getD_mem q)
    omega
  · exact q
  · rcases h2 with h2 | h2
    · omega
    · have e2 : (A ++ D).getD (k - 1) 0 = D.getD (k - 1 - A.length) 0 := by rw [List.getD_eq_getElem?_getD, List.getD_eq_getElem?_getD, List.getElem?_append_right (by omega)]
      rw [e2] at h2
      have := hD _ (getD_mem (l := D) (k := k - 1 - A.length) (by omega))
      omega
theorem getD_ins {A D : List Nat} {t j : Nat} : (A ++ t :: D).getD j 0 = if j < A.length then (A ++ D).getD j 0 else if j = A.length then t else (A ++ D).getD (j - 1) 0 := by
  rw [List.getD_eq_getElem?_getD, List.getD_eq_getElem?_getD, List.getD_eq_getElem?_getD]
  by_cases h1 : j < A.length
  · rw [if_pos h1, List.getElem?_append_left h1, List.getElem?_append_left h1]
  · rw [if_neg h1, List.getElem?_append_right (by omega)]
    by_cases h2 : j = A.length
    · rw [if_pos h2, h2, Nat.sub_self]; rfl
    · rw [if_neg h2, List.getElem?_append_right (by omega), show j - A.length = (j - 1 - A.length) + 1 by omega, List.getElem?_cons_succ]
theorem sort_out (hn : wfN n) (hy : RY (SY s 240) n) (K : ∀ f, ordS (sO s (ordN n).length f) (ordN n) → Q none (pS (sO s (ordN n).length f) h)) : ∀ m t f v2, t + m = nF n 3 → (ordK n t).length ≤ t → (∀ j, j < (ordK n t).length → f j = nI ((ordK n t).getD j 0)) → WP (d + 1) 47 7 [.ref 239, .int (nI t), v2] [] (pS (sO s (ordK n t).length f) h) (0, 0) Q := by
  intro m
  induction m with
  | zero =>
    intro t f v2 ht hl hf
    have h8T := hn.1.2.1
    have e : t = nF n 3 := by omega
    subst e
    have yT' : yT (SY s 240) = nF n 3 := hy.1.2.2.2.1
    rw [u_47_7]
    simp (disch := omega) only [u_47_0, u_47_1, u_47_2, u_47_5, u_47_6, u_47_8, u_47_9, u_47_12, u_47_15, u_47_18, u_47_19, u_47_22, u_47_23, u_47_26, u_47_29, u_47_30, u_47_33, u_47_34, u_47_37, u_47_38, u_47_41, u_47_42, u_47_45, u_47_47, u_47_50, u_47_51, u_47_54, u_47_57, u_47_58, u_47_61, u_47_62, u_47_63, u_47_64, u_47_65, u_47_66, u_47_67, u_47_70, u_47_73, u_47_74, u_47_75, u_47_78, u_47_79, u_47_82, u_47_83, u_47_84, u_47_87, u_47_88, u_47_89, u_47_90, u_47_91, u_47_92, u_47_95, u_47_98, u_47_99, u_47_102, u_47_103, u_47_104, u_47_105, u_47_106, u_47_107, u_47_110, u_47_111, u_47_112, u_47_115, u_47_118, u_47_121, gI0, gIs, gR0, gRs, gF0, gFs, st0, st_i, st_r, st_f, st_n, st_s, true_and, and_true, ↓ifLeT, ↓ifLeF, ↓ifLtT, ↓ifLtF, ↓ifEqT, ↓ifEqF, if_tt, if_ff, if_pos, if_neg, nLe, nLt, nEq, nInT, nCl, pk_mul, nI_add, Nat.reduceAdd, s_cat_nil, s_cat_i, s_cat_r, s_cat_f, s_cat_l, tl_s, tl_n, cat_i, cat_r, cat_f, nb0, nb1, nbI, if_bI, if_bIr, Nat.zero_le, Nat.reduceLeDiff, S_g0_0, S_g0_1, S_g0_2, S_g0_3, S_g0_4, S_g0_5, S_g0_6, S_g0_7, S_g0_8, S_g0_9, S_g0_10, S_g0_11, S_g0_12, S_g0_13, S_g0_14, S_g1_0, S_g1_1, S_g1_2, S_g1_3, S_g1_4, S_g72_0, S_g72_1, S_g72_2, S_g239_0, S_g239_1, S_g239_2, S_g239_3, S_g239_4, S_g239_5, S_g239_6, S_a23, S_n23, S_a282, S_n282, S_a300, S_n300, S_n73, S_n299, Y'_ob (isY_S yb240), Y'_g0 (isY_S yb240), Y'_g1 (isY_S yb240), Y'_g2 (isY_S yb240), Y'_g3 (isY_S yb240), Y'_g4 (isY_S yb240), Y'_g5 (isY_S yb240), Y'_g6 (isY_S yb240), Y'_g7 (isY_S yb240), Y'_g8 (isY_S yb240), Y'_g9 (isY_S yb240), Y'_g10 (isY_S yb240), Y'_g11 (isY_S yb240), Y'_g12 (isY_S yb240), Y'_g13 (isY_S yb240), Y'_g14 (isY_S yb240), Y'_g15 (isY_S yb240), Y'_g16 (isY_S yb240), Y'_g17 (isY_S yb240), Y'_g18 (isY_S yb240), Y'_g19 (isY_S yb240), Y'_a7 (isY_S yb240), Y'_a8 (isY_S yb240), Y'_a10 (isY_S yb240), Y'_a11 (isY_S yb240), Y'_a12 (isY_S yb240), Y'_a13 (isY_S yb240), Y'_a14 (isY_S yb240), Y'_a15 (isY_S yb240), Y'_a16 (isY_S yb240), Y'_a17 (isY_S yb240), Y'_a18 (isY_S yb240), Y'_sw (isY_S yb240), sO_Y, yT', Nat.le_refl]
    exact K f ⟨sO_N, Nat.le_trans hl h8T, fun k hk => by rw [sO_A]; exact hf k hk⟩
  | succ m ih =>
    intro t f v2 ht hl hf
    have h8T := hn.1.2.1
    have yT' : yT (SY s 240) = nF n 3 := hy.1.2.2.2.1
    have htT : t < nF n 3 := by omega
    have e4 := fun Q => F_done (d := d) (s := sO s (ordK n t).length f) (h := h) (t := t) (Q := Q) hn hy htT
    rw [u_47_7]
    cases hd : nDone n t with
    | true =>
      simp (disch := omega) only [u_47_0, u_47_1, u_47_2, u_47_5, u_47_6, u_47_8, u_47_9, u_47_12, u_47_15, u_47_18, u_47_19, u_47_22, u_47_23, u_47_26, u_47_29, u_47_30, u_47_33, u_47_34, u_47_37, u_47_38, u_47_41, u_47_42, u_47_45, u_47_47, u_47_50, u_47_51, u_47_54, u_47_57, u_47_58, u_47_61, u_47_62, u_47_63, u_47_64, u_47_65, u_47_66, u_47_67, u_47_70, u_47_73, u_47_74, u_47_75, u_47_78, u_47_79, u_47_82, u_47_83, u_47_84, u_47_87, u_47_88, u_47_89, u_47_90, u_47_91, u_47_92, u_47_95, u_47_98, u_47_99, u_47_102, u_47_103, u_47_104, u_47_105, u_47_106, u_47_107, u_47_110, u_47_111, u_47_112, u_47_115, u_47_118, u_47_121, gI0, gIs, gR0, gRs, gF0, gFs, st0, st_i, st_r, st_f, st_n, st_s, true_and, and_true, ↓ifLeT, ↓ifLeF, ↓ifLtT, ↓ifLtF, ↓ifEqT, ↓ifEqF, if_tt, if_ff, if_pos, if_neg, nLe, nLt, nEq, nInT, nCl, pk_mul, nI_add, Nat.reduceAdd, s_cat_nil, s_cat_i, s_cat_r, s_cat_f, s_cat_l, tl_s, tl_n, cat_i, cat_r, cat_f, nb0, nb1, nbI, if_bI, if_bIr, Nat.zero_le, Nat.reduceLeDiff, S_g0_0, S_g0_1, S_g0_2, S_g0_3, S_g0_4, S_g0_5, S_g0_6, S_g0_7, S_g0_8, S_g0_9, S_g0_10, S_g0_11, S_g0_12, S_g0_13, S_g0_14, S_g1_0, S_g1_1, S_g1_2, S_g1_3, S_g1_4, S_g72_0, S_g72_1, S_g72_2, S_g239_0, S_g239_1, S_g239_2, S_g239_3, S_g239_4, S_g239_5, S_g239_6, S_a23, S_n23, S_a282, S_n282, S_a300, S_n300, S_n73, S_n299, Y'_ob (isY_S yb240), Y'_g0 (isY_S yb240), Y'_g1 (isY_S yb240), Y'_g2 (isY_S yb240), Y'_g3 (isY_S yb240), Y'_g4 (isY_S yb240), Y'_g5 (isY_S yb240), Y'_g6 (isY_S yb240), Y'_g7 (isY_S yb240), Y'_g8 (isY_S yb240), Y'_g9 (isY_S yb240), Y'_g10 (isY_S yb240), Y'_g11 (isY_S yb240), Y'_g12 (isY_S yb240), Y'_g13 (isY_S yb240), Y'_g14 (isY_S yb240), Y'_g15 (isY_S yb240), Y'_g16 (isY_S yb240), Y'_g17 (isY_S yb240), Y'_g18 (isY_S yb240), Y'_g19 (isY_S yb240), Y'_a7 (isY_S yb240), Y'_a8 (isY_S yb240), Y'_a10 (isY_S yb240), Y'_a11 (isY_S yb240), Y'_a12 (isY_S yb240), Y'_a13 (isY_S yb240), Y'_a14 (isY_S yb240), Y'_a15 (isY_S yb240), Y'_a16 (isY_S yb240), Y'_a17 (isY_S yb240), Y'_a18 (isY_S yb240), Y'_sw (isY_S yb240), sO_Y, yT', e4, hd, iBt, nI10, reduceIte]
      have := ih (t + 1) f v2 (by omega) (by rw [ordK_done hd]; omega) (by rw [ordK_done hd]; exact hf)
      rw [ordK_done hd] at this
      exact this
    | false =>
      obtain ⟨A, D, e1, e2, e3, e5⟩ := ordK_new hd (hn.2.2.1 t htT).1
      simp (disch := omega) only [u_47_0, u_47_1, u_47_2, u_47_5, u_47_6, u_47_8, u_47_9, u_47_12, u_47_15, u_47_18, u_47_19, u_47_22, u_47_23, u_47_26, u_47_29, u_47_30, u_47_33, u_47_34, u_47_37, u_47_38, u_47_41, u_47_42, u_47_45, u_47_47, u_47_50, u_47_51, u_47_54, u_47_57, u_47_58, u_47_61, u_47_62, u_47_63, u_47_64, u_47_65, u_47_66, u_47_67, u_47_70, u_47_73, u_47_74, u_47_75, u_47_78, u_47_79, u_47_82, u_47_83, u_47_84, u_47_87, u_47_88, u_47_89, u_47_90, u_47_91, u_47_92, u_47_95, u_47_98, u_47_99, u_47_102, u_47_103, u_47_104, u_47_105, u_47_106, u_47_107, u_47_110, u_47_111, u_47_112, u_47_115, u_47_118, u_47_121, gI0, gIs, gR0, gRs, gF0, gFs, st0, st_i, st_r, st_f, st_n, st_s, true_and, and_true, ↓ifLeT, ↓ifLeF, ↓ifLtT, ↓ifLtF, ↓ifEqT, ↓ifEqF, if_tt, if_ff, if_pos, if_neg, nLe, nLt, nEq, nInT, nCl, pk_mul, nI_add, Nat.reduceAdd, s_cat_nil, s_cat_i, s_cat_r, s_cat_f, s_cat_l, tl_s, tl_n, cat_i, cat_r, cat_f, nb0, nb1, nbI, if_bI, if_bIr, Nat.zero_le, Nat.reduceLeDiff, S_g0_0, S_g0_1, S_g0_2, S_g0_3, S_g0_4, S_g0_5, S_g0_6, S_g0_7, S_g0_8, S_g0_9, S_g0_10, S_g0_11, S_g0_12, S_g0_13, S_g0_14, S_g1_0, S_g1_1, S_g1_2, S_g1_3, S_g1_4, S_g72_0, S_g72_1, S_g72_2, S_g239_0, S_g239_1, S_g239_2, S_g239_3, S_g239_4, S_g239_5, S_g239_6, S_a23, S_n23, S_a282, S_n282, S_a300, S_n300, S_n73, S_n299, Y'_ob (isY_S yb240), Y'_g0 (isY_S yb240), Y'_g1 (isY_S yb240), Y'_g2 (isY_S yb240), Y'_g3 (isY_S yb240), Y'_g4 (isY_S yb240), Y'_g5 (isY_S yb240), Y'_g6 (isY_S yb240), Y'_g7 (isY_S yb240), Y'_g8 (isY_S yb240), Y'_g9 (isY_S yb240), Y'_g10 (isY_S yb240), Y'_g11 (isY_S yb240), Y'_g12 (isY_S yb240), Y'_g13 (isY_S yb240), Y'_g14 (isY_S yb240), Y'_g15 (isY_S yb240), Y'_g16 (isY_S yb240), Y'_g17 (isY_S yb240), Y'_g18 (isY_S yb240), Y'_g19 (isY_S yb240), Y'_a7 (isY_S yb240), Y'_a8 (isY_S yb240), Y'_a10 (isY_S yb240), Y'_a11 (isY_S yb240), Y'_a12 (isY_S yb240), Y'_a13 (isY_S yb240), Y'_a14 (isY_S yb240), Y'_a15 (isY_S yb240), Y'_a16 (isY_S yb240), Y'_a17 (isY_S yb240), Y'_a18 (isY_S yb240), Y'_sw (isY_S yb240), sO_Y, sO_N, yT', e4, hd, iBf]
      refine sort_in hn hy htT (fun u hu => by have := (mem_ordK.mp hu).1; omega) (by omega) _ f (Nat.le_refl _) hf (fun j j1 j2 => by omega) fun k f' hk h1 h2 h3 => ?_
      have ek := ord_k e1 e3 e5 hk (fun j j1 j2 => (h2 j j1 j2).2) h3
      have ik : vp_in (nI k) 8 := (nIn (by omega)).mpr (by omega)
      simp (disch := omega) only [u_47_0, u_47_1, u_47_2, u_47_5, u_47_6, u_47_8, u_47_9, u_47_12, u_47_15, u_47_18, u_47_19, u_47_22, u_47_23, u_47_26, u_47_29, u_47_30, u_47_33, u_47_34, u_47_37, u_47_38, u_47_41, u_47_42, u_47_45, u_47_47, u_47_50, u_47_51, u_47_54, u_47_57, u_47_58, u_47_61, u_47_62, u_47_63, u_47_64, u_47_65, u_47_66, u_47_67, u_47_70, u_47_73, u_47_74, u_47_75, u_47_78, u_47_79, u_47_82, u_47_83, u_47_84, u_47_87, u_47_88, u_47_89, u_47_90, u_47_91, u_47_92, u_47_95, u_47_98, u_47_99, u_47_102, u_47_103, u_47_104, u_47_105, u_47_106, u_47_107, u_47_110, u_47_111, u_47_112, u_47_115, u_47_118, u_47_121, gI0, gIs, gR0, gRs, gF0, gFs, st0, st_i, st_r, st_f, st_n, st_s, true_and, and_true, ↓ifLeT, ↓ifLeF, ↓ifLtT, ↓ifLtF, ↓ifEqT, ↓ifEqF, if_tt, if_ff, if_pos, if_neg, nLe, nLt, nEq, nInT, nCl, pk_mul, nI_add, Nat.reduceAdd, s_cat_nil, s_cat_i, s_cat_r, s_cat_f, s_cat_l, tl_s, tl_n, cat_i, cat_r, cat_f, nb0, nb1, nbI, if_bI, if_bIr, Nat.zero_le, Nat.reduceLeDiff, S_g0_0, S_g0_1, S_g0_2, S_g0_3, S_g0_4, S_g0_5, S_g0_6, S_g0_7, S_g0_8, S_g0_9, S_g0_10, S_g0_11, S_g0_12, S_g0_13, S_g0_14, S_g1_0, S_g1_1, S_g1_2, S_g1_3, S_g1_4, S_g72_0, S_g72_1, S_g72_2, S_g239_0, S_g239_1, S_g239_2, S_g239_3, S_g239_4, S_g239_5, S_g239_6, S_a23, S_n23, S_a282, S_n282, S_a300, S_n300, S_n73, S_n299, S_s0_5, S_s0_5t, S_s0_5f, S_s1_4, S_s72_1, S_s72_2, S_s239_6, S_w23, S_w282, S_w300, sO_A, sO_N, ik, sO_wA, sO_wN]
      have el : (ordK n (t + 1)).length = (ordK n t).length + 1 := by rw [e1, e2, List.length_append, List.length_append]; rfl
      have := ih (t + 1) (upd f' k (nI t)) (.int (nI k)) (by omega) (by omega) (fun j hj => by
        rw [e2, getD_ins, ← e1, ← ek]
        show (if j = k then _ else f' j) = _
        by_cases a : j = k
        · rw [if_pos a, if_neg (by omega), if_pos a]
        · rw [if_neg a]
          by_cases c : j < k
          · rw [if_pos c]; exact h1 j c
          · rw [if_neg c, if_neg a]
            have := (h2 (j - 1) (by omega) (by omega)).1
            rw [show j - 1 + 1 = j by omega] at this
            exact this)
      rw [el] at this
      exact this
theorem m_sort (hn : wfN n) (hy : RY (SY s 240) n) (K : ∀ f, ordS (sO s (ordN n).length f) (ordN n) → Q none (pS (sO s (ordN n).length f) h)) : MT (d + 2) 47 [.ref 239] (pS s h) Q := by
  rw [MT_go (by decide) _ _ _ (Nat.le_of_ble_eq_true rfl), show s_entry 47 [.ref 239] = [.ref 239, s_no, s_no] from rfl]
  have e0 : ordK n 0 = [] := by
    unfold ordK
    rw [List.flatMap_eq_nil_iff]
    intro b _
    rfl
  simp (disch := omega) only [u_47_0, u_47_1, u_47_2, u_47_5, u_47_6, u_47_8, u_47_9, u_47_12, u_47_15, u_47_18, u_47_19, u_47_22, u_47_23, u_47_26, u_47_29, u_47_30, u_47_33, u_47_34, u_47_37, u_47_38, u_47_41, u_47_42, u_47_45, u_47_47, u_47_50, u_47_51, u_47_54, u_47_57, u_47_58, u_47_61, u_47_62, u_47_63, u_47_64, u_47_65, u_47_66, u_47_67, u_47_70, u_47_73, u_47_74, u_47_75, u_47_78, u_47_79, u_47_82, u_47_83, u_47_84, u_47_87, u_47_88, u_47_89, u_47_90, u_47_91, u_47_92, u_47_95, u_47_98, u_47_99, u_47_102, u_47_103, u_47_104, u_47_105, u_47_106, u_47_107, u_47_110, u_47_111, u_47_112, u_47_115, u_47_118, u_47_121, gI0, gIs, gR0, gRs, gF0, gFs, st0, st_i, st_r, st_f, st_n, st_s, true_and, and_true, ↓ifLeT, ↓ifLeF, ↓ifLtT, ↓ifLtF, ↓ifEqT, ↓ifEqF, if_tt, if_ff, if_pos, if_neg, nLe, nLt, nEq, nInT, nCl, pk_mul, nI_add, Nat.reduceAdd, s_cat_nil, s_cat_i, s_cat_r, s_cat_f, s_cat_l, tl_s, tl_n, cat_i, cat_r, cat_f, nb0, nb1, nbI, if_bI, if_bIr, Nat.zero_le, Nat.reduceLeDiff, S_s0_5, S_s0_5t, S_s0_5f, S_s1_4, S_s72_1, S_s72_2, S_s239_6, S_w23, S_w282, S_w300, sO_eta]
  have := sort_out (d := d) (s := s) (h := h) (Q := Q) hn hy K (nF n 3) 0 (eA (SG s) 305) s_no (Nat.zero_add _) (by rw [e0]; exact Nat.le_refl _) (fun j hj => by rw [e0] at hj; exact absurd hj (Nat.not_lt_zero j))
  rw [e0] at this
  exact this
end SRT
