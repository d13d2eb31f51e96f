/-! Search: runs are cut -/
def setL (l : tL) (c : Nat) (x : List Nat) : tL := fun q => if q = c then x else l q
theorem setL_at {l : tL} {c : Nat} {x : List Nat} : setL l c x c = x := if_pos rfl
theorem setL_app {l : tL} {c t : Nat} {x : List Nat} : appF (setL l c x) c t = setL l c (x ++ [t]) := by
  funext q
  unfold appF setL
  by_cases e : q = c
  · rw [if_pos e, if_pos e, if_pos rfl]
  · rw [if_neg e, if_neg e, if_neg e]
theorem setL_eta {l : tL} {c : Nat} : setL l c (l c) = l := by
  funext q
  unfold setL
  by_cases e : q = c
  · rw [if_pos e, e]
  · rw [if_neg e]
theorem wfL_app {n : tN} {l : tL} {c t : Nat} (h : wfL (jL n l)) (hc : c < nF n 2) (ht : t < nF n 3) (hf : ∀ q, ¬ t ∈ l q) : wfL (jL n (appF l c t)) := by
  obtain ⟨w1, w2, w3⟩ := h
  have mem : ∀ q u, u ∈ appF l c t q ↔ u ∈ l q ∨ (q = c ∧ u = t) := by
    intro q u
    by_cases e : q = c
    · subst e; rw [app_at, List.mem_append, List.mem_singleton]; simp
    · rw [app_ne e]; simp [e]
  refine ⟨fun q hq => ?_, fun q => ⟨?_, fun u hu => ?_⟩, fun q q' u hu hu' => ?_⟩
  · have hq : nF n 2 ≤ q := hq
    show appF l c t q = []
    rw [app_ne (by omega)]; exact w1 q hq
  · show (appF l c t q).Nodup
    by_cases e : q = c
    · subst e
      rw [app_at, List.nodup_append]
      refine ⟨(w2 q).1, by simp, fun a ha b hb => ?_⟩
      rw [List.mem_singleton.mp hb]
      exact fun e => hf q (e ▸ ha)
    · rw [app_ne e]; exact (w2 q).1
  · rcases (mem q u).mp hu with e | ⟨-, e⟩
    · exact (w2 q).2 u e
    · rw [e]; exact ht
  · rcases (mem q u).mp hu with e | ⟨e1, e2⟩ <;> rcases (mem q' u).mp hu' with f | ⟨f1, f2⟩
    · exact w3 q q' u e f
    · rw [f2] at e; exact absurd e (hf q)
    · rw [e2] at f; exact absurd f (hf q')
    · omega
theorem wfL_le {n : tN} {l : tL} (hF : wfF n) (h : wfL (jL n l)) (c : Nat) : (l c).length ≤ 8 := wfL_len (n := jL n l) hF h c
theorem len_app {n : tN} {l : tL} {c t : Nat} (hF : wfF n) (h : wfL (jL n l)) (hc : c < nF n 2) (ht : t < nF n 3) (hf : ∀ q, ¬ t ∈ l q) : (l c).length < 8 := by
  have := wfL_le hF (wfL_app h hc ht hf) c
  rw [app_at, List.length_append] at this
  exact this
theorem RP_add {p : tP} {l : tL} {c t : Nat} (h : RP p l) (hc : c < 4) (h8 : (l c).length < 8) (hl : ∀ q, (l q).length ≤ 8) : RP (addP p c (nI t)) (appF l c t) := by
  obtain ⟨hc1, hc2⟩ := h c hc
  unfold addP
  rw [if_pos (by omega)]
  intro q hq
  obtain ⟨h1, h2⟩ := h q hq
  have e1 : (insP p c (p.2 c) (nI t)).1 = upd p.1 (c * 8 + p.2 c) (nI t) := by
    unfold insP
    rw [shU_0]
  rw [e1]
  by_cases e : q = c
  · subst e
    rw [app_at, List.length_append]
    refine ⟨?_, fun k hk => ?_⟩
    · show (if q = q then p.2 q + 1 else p.2 q) = _
      rw [if_pos rfl, h1]; rfl
    · show (if q * 8 + k = q * 8 + p.2 q then nI t else p.1 (q * 8 + k)) = _
      have hk : k < (l q).length + 1 := hk
      by_cases e2 : k = (l q).length
      · rw [if_pos (by omega), e2, List.getD_eq_getElem?_getD, List.getElem?_append_right (Nat.le_refl _), Nat.sub_self]; rfl
      · rw [if_neg (by omega), h2 k (by omega), List.getD_eq_getElem?_getD, List.getD_eq_getElem?_getD, List.getElem?_append_left (by omega)]
  · rw [app_ne e]
    refine ⟨?_, fun k hk => ?_⟩
    · show (if q = c then p.2 c + 1 else p.2 q) = _
      rw [if_neg e, h1]
    · show (if q * 8 + k = c * 8 + p.2 c then nI t else p.1 (q * 8 + k)) = _
      have := hl q
      rw [if_neg (by omega), h2 k hk]
theorem RP_drop {p : tP} {l : tL} {c t : Nat} {x : List Nat} (h : RP p (setL l c (x ++ [t]))) (hc : c < 4) : RP (uN p c (p.2 c - 1)) (setL l c x) ∧ p.2 c = x.length + 1 := by
  have hc1 := (h c hc).1
  rw [setL_at, List.length_append] at hc1
  have hc1 : p.2 c = x.length + 1 := hc1
  refine ⟨fun q hq => ?_, hc1⟩
  obtain ⟨h1, h2⟩ := h q hq
  show (if q = c then p.2 c - 1 else p.2 q) = _ ∧ ∀ k, _ → p.1 (q * 8 + k) = _
  by_cases e : q = c
  · subst e
    rw [setL_at] at h2 ⊢
    rw [if_pos rfl]
    refine ⟨by omega, fun k hk => ?_⟩
    rw [h2 k (by rw [List.length_append]; omega), List.getD_eq_getElem?_getD, List.getD_eq_getElem?_getD, List.getElem?_append_left hk]
  · have e1 : ∀ z, setL l c z q = l q := fun z => if_neg e
    rw [e1] at h1 h2 ⊢
    rw [if_neg e]
    exact ⟨h1, h2⟩
theorem RPl_okS {p : tP} {l : tL} (h : RP p l) (hl : ∀ q, (l q).length ≤ 8) : okS p := fun c hc => by rw [(h c hc).1]; exact hl c
/-- the order of the tasks -/
def ordS (s : tS) (ord : List Nat) : Prop := eN (SG s) 306 = ord.length ∧ ord.length ≤ 8 ∧ ∀ k, k < ord.length → eA (SG s) 305 k = nI (ord.getD k 0)
theorem SPw {s : tS} {b : Nat} {p : tP} : SP (wSP s b p) b = p := if_pos rfl
theorem SOw {s : tS} {b : Nat} {p : tO} : SO (wSO s b p) b = p := if_pos rfl
theorem SYw {s : tS} {b : Nat} {p : tY} : SY (wSY s b p) b = p := if_pos rfl
section CUT
variable {b d : Nat} {s : tS} {h : sH} {i x : Int32} {Q : sQ} {n : tN} {l : tL} {g : tG} {ord : List Nat}
theorem F_broken {x : Int32} : MT (d + 1) 68 [.ref 240, .int x] (pS s h) Q ↔ Q (some (.int (bI (¬ bitS (yB (SY s 240) 5) x = nI 0)))) (pS s h) := tl_Y yb240 fun h Q => m_isBroken
theorem F_lift {c t : Nat} (hn : wfN n) (hy : RY (SY s 240) n) (hc : c < nF n 2) (ht : t < nF n 3) : MT (d + 1) 70 [.ref 240, .int (nI c), .int (nI t)] (pS s h) Q ↔ Q (some (.int (iB (nLift n c t)))) (pS s h) := by
  have h4 := hn.1.1
  have h8 := hn.1.2.1
  have e := tl_Y (d := d + 1) (s := s) (h := h) (Q := Q) yb240 fun h Q => m_canLift (d := d) (a := 240) (y := SY s 240) (h := h) (Q := Q) (c := nI c) (t := nI t) ((nIn (by omega)).mpr (by omega)) ((nIn (by omega)).mpr (by omega))
  rw [nCl (by omega), nCl (by omega), (hy.2.1.1 c hc).2.1, (hy.2.2.1 t ht).2.2.1] at e
  have e2 : bI (nI (nA n 14 t) ≤ nI (nA n 8 c)) = iB (nLift n c t) := by
    have a1 := (hn.2.1.1 c hc).2.2.1
    have a2 := (hn.2.2.1 t ht).2.2.2.2.1
    unfold nLift bI
    by_cases q : nA n 14 t ≤ nA n 8 c
    · rw [if_pos ((nI_leI (by omega) (by omega)).mpr q), decide_eq_true q]; rfl
    · rw [if_neg (fun z => q ((nI_leI (by omega) (by omega)).mp z)), decide_eq_false q]; rfl
  rw [e2] at e
  exact e
theorem F_add {c t : Nat} (hc : c < 4) (hs : okS (SP s 272)) : MT (d + 2) 22 [.ref 272, .int (nI c), .int (nI t)] (pS s h) Q ↔ Q none (pS (wSP s 272 (addP (SP s 272) c (nI t))) h) := tr_P pb272 fun h Q => m_addT hs hc
theorem F_drop {c : Nat} (hc : c < 4) (hs : okS (SP s 272)) (h0 : 0 < (SP s 272).2 c) : MT (d + 1) 25 [.ref 272, .int (nI c)] (pS s h) Q ↔ Q none (pS (wSP s 272 (uN (SP s 272) c ((SP s 272).2 c - 1))) h) := tr_P pb272 fun h Q => m_dropLast hs hc h0
theorem frS_P {p : tP} : frS b s (wSP s 272 p) := ⟨rfl, fun _ _ => rfl, fun q hq => if_neg hq, fun _ _ => rfl, rfl, rfl, rfl⟩
theorem ord_fr {s' : tS} (h : frS b s s') (ho : ordS s ord) : ordS s' ord := by unfold ordS at *; rw [h.1]; exact ho
theorem Y_fr {s' : tS} (h : frS b s s') (hy : RY (SY s 240) n) : RY (SY s' 240) n := by rw [h.2.1 240 (by decide)]; exact hy
/-- what was added goes out again -/
theorem cut_drop {c : Nat} (hc : c < 4) {v3 v4 : Value} {N : Nat} (hl : ∀ q, (l q).length ≤ 8) (hN : N ≤ 8) : ∀ m j s (x : List Nat), j + m = N → m = x.length → (l c ++ x).length ≤ 8 → RP (SP s 272) (setL l c (l c ++ x)) → (∀ s', frS b s s' → SO s' b = SO s b → RP (SP s' 272) l → Q none (pS s' h)) → WP (d + 1) 46 134 [.ref 239, .ref b, .int (nI c), v3, v4, .int (nI N), .int (nI j)] [] (pS s h) (0, 0) Q := by
  intro m
  induction m with
  | zero =>
    intro j s x hj hx h8 hp K
    have ex : x = [] := List.length_eq_zero_iff.mp hx.symm
    subst ex
    have e : j = N := by omega
    subst e
    rw [List.append_nil, setL_eta] at hp
    rw [u_46_134]
    simp (disch := omega) only [u_46_0, u_46_2, u_46_3, u_46_6, u_46_7, u_46_8, u_46_9, u_46_12, u_46_15, u_46_18, u_46_19, u_46_20, u_46_23, u_46_26, u_46_27, u_46_28, u_46_31, u_46_32, u_46_33, u_46_34, u_46_35, u_46_36, u_46_37, u_46_38, u_46_39, u_46_41, u_46_42, u_46_43, u_46_46, u_46_47, u_46_50, u_46_51, u_46_54, u_46_57, u_46_58, u_46_59, u_46_61, u_46_62, u_46_66, u_46_67, u_46_70, u_46_73, u_46_74, u_46_77, u_46_78, u_46_79, u_46_82, u_46_84, u_46_85, u_46_88, u_46_91, u_46_92, u_46_95, u_46_96, u_46_97, u_46_100, u_46_102, u_46_103, u_46_106, u_46_109, u_46_110, u_46_111, u_46_112, u_46_113, u_46_114, u_46_116, u_46_117, u_46_118, u_46_120, u_46_121, u_46_122, u_46_125, u_46_128, u_46_131, u_46_132, u_46_136, u_46_138, u_46_141, u_46_142, u_46_145, u_46_146, u_46_149, u_46_152, u_46_155, gI0, gIs, gR0, gRs, gF0, gFs, st0, st_i, st_r, st_f, st_n, st_s, true_and, and_true, ↓ifLeT, ↓ifLeF, ↓ifLtT, ↓ifLtF, ↓ifEqT, ↓ifEqF, if_tt, if_ff, if_pos, if_neg, nLe, nLt, nEq, nInT, nCl, pk_mul, nI_add, Nat.reduceAdd, s_cat_nil, s_cat_i, s_cat_r, s_cat_f, s_cat_l, tl_s, tl_n, cat_i, cat_r, cat_f, nb0, nb1, nbI, if_bI, if_bIr, Nat.zero_le, Nat.reduceLeDiff, Nat.le_refl]
    exact K s frS_r rfl hp
  | succ m ih =>
    intro j s x hj hx h8 hp K
    have hx0 : x ≠ [] := fun q => by rw [q] at hx; cases hx
    obtain ⟨x', t, rfl⟩ : ∃ x' t, x = x' ++ [t] := ⟨x.dropLast, x.getLast hx0, (List.dropLast_concat_getLast hx0).symm⟩
    rw [← List.append_assoc] at hp h8
    obtain ⟨p1, p2⟩ := RP_drop hp hc
    have h8' : (l c ++ x').length ≤ 8 := by rw [List.length_append] at h8; omega
    have hok : okS (SP s 272) := RPl_okS hp fun q => by
      unfold setL
      split
      · exact h8
      · exact hl q
    have e1 := fun Q => F_drop (d := d) (s := s) (h := h) (c := c) (Q := Q) hc hok (by omega)
    have ob : ∀ q : Nat, (oO (pS s h) 272 fun c' _ => c' = q) ↔ 3 = q := fun q => P'_ob (isP_S pb272)
    rw [u_46_134]
    simp (disch := omega) only [u_46_0, u_46_2, u_46_3, u_46_6, u_46_7, u_46_8, u_46_9, u_46_12, u_46_15, u_46_18, u_46_19, u_46_20, u_46_23, u_46_26, u_46_27, u_46_28, u_46_31, u_46_32, u_46_33, u_46_34, u_46_35, u_46_36, u_46_37, u_46_38, u_46_39, u_46_41, u_46_42, u_46_43, u_46_46, u_46_47, u_46_50, u_46_51, u_46_54, u_46_57, u_46_58, u_46_59, u_46_61, u_46_62, u_46_66, u_46_67, u_46_70, u_46_73, u_46_74, u_46_77, u_46_78, u_46_79, u_46_82, u_46_84, u_46_85, u_46_88, u_46_91, u_46_92, u_46_95, u_46_96, u_46_97, u_46_100, u_46_102, u_46_103, u_46_106, u_46_109, u_46_110, u_46_111, u_46_112, u_46_113, u_46_114, u_46_116, u_46_117, u_46_118, u_46_120, u_46_121, u_46_122, u_46_125, u_46_128, u_46_131, u_46_132, u_46_136, u_46_138, u_46_141, u_46_142, u_46_145, u_46_146, u_46_149, u_46_152, u_46_155, gI0, gIs, gR0, gRs, gF0, gFs, st0, st_i, st_r, st_f, st_n, st_s, true_and, and_true, ↓ifLeT, ↓ifLeF, ↓ifLtT, ↓ifLtF, ↓ifEqT, ↓ifEqF, if_tt, if_ff, if_pos, if_neg, nLe, nLt, nEq, nInT, nCl, pk_mul, nI_add, Nat.reduceAdd, s_cat_nil, s_cat_i, s_cat_r, s_cat_f, s_cat_l, tl_s, tl_n, cat_i, cat_r, cat_f, nb0, nb1, nbI, if_bI, if_bIr, Nat.zero_le, Nat.reduceLeDiff, S_g0_0, S_g0_1, S_g0_2, S_g0_3, S_g0_4, S_g0_5, S_g0_6, S_g0_7, S_g0_8, S_g0_9, S_g0_10, S_g0_11, S_g0_12, S_g0_13, S_g0_14, S_g1_0, S_g1_1, S_g1_2, S_g1_3, S_g1_4, S_g72_0, S_g72_1, S_g72_2, S_g239_0, S_g239_1, S_g239_2, S_g239_3, S_g239_4, S_g239_5, S_g239_6, S_a23, S_n23, S_a282, S_n282, S_a300, S_n300, S_n73, S_n299, ob, e1]
    refine ih (j + 1) _ x' (by omega) (by rw [List.length_append] at hx; exact Nat.succ.inj hx) h8' (by rw [SPw]; exact p1) (fun s' f1 f2 f3 => K s' (frS_t frS_P f1) (f2.trans rfl) f3)
theorem wgN_le {g : tG} {l : tL} (h : g.1 ≤ 301) : (wgN n g l).1 ≤ 301 := by
  unfold wgN
  split
  · rename_i m hm
    have := (lastK_iff.mp hm).1
    show m ≤ 301
    omega
  · exact h
theorem m_cut (hb : cb b) (hn : wfN n) (ho8 : ord.Nodup) (hoT : ∀ t, t ∈ ord → t < nF n 3) : ∀ k c st l g s Q, c + k = nF n 2 → st ≤ ord.length → ordS s ord → RY (SY s 240) n → wfL (jL n l) → (∀ t, t ∈ ord.drop st → ∀ q, ¬ t ∈ l q) → RP (SP s 272) l → RCh (SO s b) g → (∀ s', frS b s s' → RP (SP s' 272) l → RCh (SO s' b) (pickN n (cutN n k c (ord.drop st) l) g) → Q none (pS s' h)) → MT (d + 6 + k) 46 [.ref 239, .ref b, .int (nI c), .int (nI st), .int (nI c)] (pS s h) Q := by
  intro k
  induction k with
  | zero =>
    intro c st l g s Q hk hst ho hy hw hf hp hg K
    have h4 := hn.1.1
    have h48 := ho.2.1
    rw [MT_go (by decide) _ _ _ (Nat.le_of_ble_eq_true rfl), show s_entry 46 [.ref 239, .ref b, .int (nI c), .int (nI st), .int (nI c)] = [.ref 239, .ref b, .int (nI c), .int (nI st), .int (nI c), s_no, s_no] from rfl]
    have yC' : yC (SY s 240) = nF n 2 := hy.1.2.2.1
    have e1 := ho.1
    by_cases he : ord.length ≤ st
    · have hd : ord.drop st = [] := List.drop_of_length_le he
      simp (disch := omega) only [u_46_0, u_46_2, u_46_3, u_46_6, u_46_7, u_46_8, u_46_9, u_46_12, u_46_15, u_46_18, u_46_19, u_46_20, u_46_23, u_46_26, u_46_27, u_46_28, u_46_31, u_46_32, u_46_33, u_46_34, u_46_35, u_46_36, u_46_37, u_46_38, u_46_39, u_46_41, u_46_42, u_46_43, u_46_46, u_46_47, u_46_50, u_46_51, u_46_54, u_46_57, u_46_58, u_46_59, u_46_61, u_46_62, u_46_66, u_46_67, u_46_70, u_46_73, u_46_74, u_46_77, u_46_78, u_46_79, u_46_82, u_46_84, u_46_85, u_46_88, u_46_91, u_46_92, u_46_95, u_46_96, u_46_97, u_46_100, u_46_102, u_46_103, u_46_106, u_46_109, u_46_110, u_46_111, u_46_112, u_46_113, u_46_114, u_46_116, u_46_117, u_46_118, u_46_120, u_46_121, u_46_122, u_46_125, u_46_128, u_46_131, u_46_132, u_46_136, u_46_138, u_46_141, u_46_142, u_46_145, u_46_146, u_46_149, u_46_152, u_46_155, gI0, gIs, gR0, gRs, gF0, gFs, st0, st_i, st_r, st_f, st_n, st_s, true_and, and_true, ↓ifLeT, ↓ifLeF, ↓ifLtT, ↓ifLtF, ↓ifEqT, ↓ifEqF, if_tt, if_ff, if_pos, if_neg, nLe, nLt, nEq, nInT, nCl, pk_mul, nI_add, Nat.reduceAdd, s_cat_nil, s_cat_i, s_cat_r, s_cat_f, s_cat_l, tl_s, tl_n, cat_i, cat_r, cat_f, nb0, nb1, nbI, if_bI, if_bIr, Nat.zero_le, Nat.reduceLeDiff, S_g0_0, S_g0_1, S_g0_2, S_g0_3, S_g0_4, S_g0_5, S_g0_6, S_g0_7, S_g0_8, S_g0_9, S_g0_10, S_g0_11, S_g0_12, S_g0_13, S_g0_14, S_g1_0, S_g1_1, S_g1_2, S_g1_3, S_g1_4, S_g72_0, S_g72_1, S_g72_2, S_g239_0, S_g239_1, S_g239_2, S_g239_3, S_g239_4, S_g239_5, S_g239_6, S_a23, S_n23, S_a282, S_n282, S_a300, S_n300, S_n73, S_n299, S_ob239, Y'_ob (isY_S yb240), Y'_g0 (isY_S yb240), Y'_g1 (isY_S yb240), Y'_g2 (isY_S yb240), Y'_g3 (isY_S yb240), Y'_g4 (isY_S yb240), Y'_g5 (isY_S yb240), Y'_g6 (isY_S yb240), Y'_g7 (isY_S yb240), Y'_g8 (isY_S yb240), Y'_g9 (isY_S yb240), Y'_g10 (isY_S yb240), Y'_g11 (isY_S yb240), Y'_g12 (isY_S yb240), Y'_g13 (isY_S yb240), Y'_g14 (isY_S yb240), Y'_g15 (isY_S yb240), Y'_g16 (isY_S yb240), Y'_g17 (isY_S yb240), Y'_g18 (isY_S yb240), Y'_g19 (isY_S yb240), Y'_a7 (isY_S yb240), Y'_a8 (isY_S yb240), Y'_a10 (isY_S yb240), Y'_a11 (isY_S yb240), Y'_a12 (isY_S yb240), Y'_a13 (isY_S yb240), Y'_a14 (isY_S yb240), Y'_a15 (isY_S yb240), Y'_a16 (isY_S yb240), Y'_a17 (isY_S yb240), Y'_a18 (isY_S yb240), Y'_sw (isY_S yb240), yC', e1]
      refine m_weigh (n := n) (l := l) hb hy ⟨hn.1, hn.2.1, hn.2.2.1, hw⟩ hp hg fun s' f1 f2 f3 => ?_
      simp (disch := omega) only [u_46_0, u_46_2, u_46_3, u_46_6, u_46_7, u_46_8, u_46_9, u_46_12, u_46_15, u_46_18, u_46_19, u_46_20, u_46_23, u_46_26, u_46_27, u_46_28, u_46_31, u_46_32, u_46_33, u_46_34, u_46_35, u_46_36, u_46_37, u_46_38, u_46_39, u_46_41, u_46_42, u_46_43, u_46_46, u_46_47, u_46_50, u_46_51, u_46_54, u_46_57, u_46_58, u_46_59, u_46_61, u_46_62, u_46_66, u_46_67, u_46_70, u_46_73, u_46_74, u_46_77, u_46_78, u_46_79, u_46_82, u_46_84, u_46_85, u_46_88, u_46_91, u_46_92, u_46_95, u_46_96, u_46_97, u_46_100, u_46_102, u_46_103, u_46_106, u_46_109, u_46_110, u_46_111, u_46_112, u_46_113, u_46_114, u_46_116, u_46_117, u_46_118, u_46_120, u_46_121, u_46_122, u_46_125, u_46_128, u_46_131, u_46_132, u_46_136, u_46_138, u_46_141, u_46_142, u_46_145, u_46_146, u_46_149, u_46_152, u_46_155, gI0, gIs, gR0, gRs, gF0, gFs, st0, st_i, st_r, st_f, st_n, st_s, true_and, and_true, ↓ifLeT, ↓ifLeF, ↓ifLtT, ↓ifLtF, ↓ifEqT, ↓ifEqF, if_tt, if_ff, if_pos, if_neg, nLe, nLt, nEq, nInT, nCl, pk_mul, nI_add, Nat.reduceAdd, s_cat_nil, s_cat_i, s_cat_r, s_cat_f, s_cat_l, tl_s, tl_n, cat_i, cat_r, cat_f, nb0, nb1, nbI, if_bI, if_bIr, Nat.zero_le, Nat.reduceLeDiff]
      refine K s' f1 (by rw [f2]; exact hp) ?_
      rw [hd]
      exact f3
    · have hd : (ord.drop st).isEmpty = false := by
        rw [List.drop_eq_getElem_cons (by omega)]
        rfl
      simp (disch := omega) only [u_46_0, u_46_2, u_46_3, u_46_6, u_46_7, u_46_8, u_46_9, u_46_12, u_46_15, u_46_18, u_46_19, u_46_20, u_46_23, u_46_26, u_46_27, u_46_28, u_46_31, u_46_32, u_46_33, u_46_34, u_46_35, u_46_36, u_46_37, u_46_38, u_46_39, u_46_41, u_46_42, u_46_43, u_46_46, u_46_47, u_46_50, u_46_51, u_46_54, u_46_57, u_46_58, u_46_59, u_46_61, u_46_62, u_46_66, u_46_67, u_46_70, u_46_73, u_46_74, u_46_77, u_46_78, u_46_79, u_46_82, u_46_84, u_46_85, u_46_88, u_46_91, u_46_92, u_46_95, u_46_96, u_46_97, u_46_100, u_46_102, u_46_103, u_46_106, u_46_109, u_46_110, u_46_111, u_46_112, u_46_113, u_46_114, u_46_116, u_46_117, u_46_118, u_46_120, u_46_121, u_46_122, u_46_125, u_46_128, u_46_131, u_46_132, u_46_136, u_46_138, u_46_141, u_46_142, u_46_145, u_46_146, u_46_149, u_46_152, u_46_155, gI0, gIs, gR0, gRs, gF0, gFs, st0, st_i, st_r, st_f, st_n, st_s, true_and, and_true, ↓ifLeT, ↓ifLeF, ↓ifLtT, ↓ifLtF, ↓ifEqT, ↓ifEqF, if_tt, if_ff, if_pos, if_neg, nLe, nLt, nEq, nInT, nCl, pk_mul, nI_add, Nat.reduceAdd, s_cat_nil, s_cat_i, s_cat_r, s_cat_f, s_cat_l, tl_s, tl_n, cat_i, cat_r, cat_f, nb0, nb1, nbI, if_bI, if_bIr, Nat.zero_le, Nat.reduceLeDiff, S_g0_0, S_g0_1, S_g0_2, S_g0_3, S_g0_4, S_g0_5, S_g0_6, S_g0_7, S_g0_8, S_g0_9, S_g0_10, S_g0_11, S_g0_12, S_g0_13, S_g0_14, S_g1_0, S_g1_1, S_g1_2, S_g1_3, S_g1_4, S_g72_0, S_g72_1, S_g72_2, S_g239_0, S_g239_1, S_g239_2, S_g239_3, S_g239_4, S_g239_5, S_g239_6, S_a23, S_n23, S_a282, S_n282, S_a300, S_n300, S_n73, S_n299, S_ob239, Y'_ob (isY_S yb240), Y'_g0 (isY_S yb240), Y'_g1 (isY_S yb240), Y'_g2 (isY_S yb240), Y'_g3 (isY_S yb240), Y'_g4 (isY_S yb240), Y'_g5 (isY_S yb240), Y'_g6 (isY_S yb240), Y'_g7 (isY_S yb240), Y'_g8 (isY_S yb240), Y'_g9 (isY_S yb240), Y'_g10 (isY_S yb240), Y'_g11 (isY_S yb240), Y'_g12 (isY_S yb240), Y'_g13 (isY_S yb240), Y'_g14 (isY_S yb240), Y'_g15 (isY_S yb240), Y'_g16 (isY_S yb240), Y'_g17 (isY_S yb240), Y'_g18 (isY_S yb240), Y'_g19 (isY_S yb240), Y'_a7 (isY_S yb240), Y'_a8 (isY_S yb240), Y'_a10 (isY_S yb240), Y'_a11 (isY_S yb240), Y'_a12 (isY_S yb240), Y'_a13 (isY_S yb240), Y'_a14 (isY_S yb240), Y'_a15 (isY_S yb240), Y'_a16 (isY_S yb240), Y'_a17 (isY_S yb240), Y'_a18 (isY_S yb240), Y'_sw (isY_S yb240), yC', e1]
      refine K s frS_r hp ?_
      rw [cutN, hd]
      exact hg
  | succ k ih =>
    intro c st l g s Q hk hst ho hy hw hf hp hg K
    have h4 := hn.1.1
    have h48 := ho.2.1
    have hl8 : ∀ q, (l q).length ≤ 8 := fun q => wfL_le hn.1 hw q
    rw [show d + 6 + (k + 1) = (d + 6 + k) + 1 from rfl]
    rw [MT_go (by decide) _ _ _ (Nat.le_of_ble_eq_true rfl), show s_entry 46 [.ref 239, .ref b, .int (nI c), .int (nI st), .int (nI c)] = [.ref 239, .ref b, .int (nI c), .int (nI st), .int (nI c), s_no, s_no] from rfl]
    have yC' : yC (SY s 240) = nF n 2 := hy.1.2.2.1
    simp (disch := omega) only [u_46_0, u_46_2, u_46_3, u_46_6, u_46_7, u_46_8, u_46_9, u_46_12, u_46_15, u_46_18, u_46_19, u_46_20, u_46_23, u_46_26, u_46_27, u_46_28, u_46_31, u_46_32, u_46_33, u_46_34, u_46_35, u_46_36, u_46_37, u_46_38, u_46_39, u_46_41, u_46_42, u_46_43, u_46_46, u_46_47, u_46_50, u_46_51, u_46_54, u_46_57, u_46_58, u_46_59, u_46_61, u_46_62, u_46_66, u_46_67, u_46_70, u_46_73, u_46_74, u_46_77, u_46_78, u_46_79, u_46_82, u_46_84, u_46_85, u_46_88, u_46_91, u_46_92, u_46_95, u_46_96, u_46_97, u_46_100, u_46_102, u_46_103, u_46_106, u_46_109, u_46_110, u_46_111, u_46_112, u_46_113, u_46_114, u_46_116, u_46_117, u_46_118, u_46_120, u_46_121, u_46_122, u_46_125, u_46_128, u_46_131, u_46_132, u_46_136, u_46_138, u_46_141, u_46_142, u_46_145, u_46_146, u_46_149, u_46_152, u_46_155, gI0, gIs, gR0, gRs, gF0, gFs, st0, st_i, st_r, st_f, st_n, st_s, true_and, and_true, ↓ifLeT, ↓ifLeF, ↓ifLtT, ↓ifLtF, ↓ifEqT, ↓ifEqF, if_tt, if_ff, if_pos, if_neg, nLe, nLt, nEq, nInT, nCl, pk_mul, nI_add, Nat.reduceAdd, s_cat_nil, s_cat_i, s_cat_r, s_cat_f, s_cat_l, tl_s, tl_n, cat_i, cat_r, cat_f, nb0, nb1, nbI, if_bI, if_bIr, Nat.zero_le, Nat.reduceLeDiff, S_g0_0, S_g0_1, S_g0_2, S_g0_3, S_g0_4, S_g0_5, S_g0_6, S_g0_7, S_g0_8, S_g0_9, S_g0_10, S_g0_11, S_g0_12, S_g0_13, S_g0_14, S_g1_0, S_g1_1, S_g1_2, S_g1_3, S_g1_4, S_g72_0, S_g72_1, S_g72_2, S_g239_0, S_g239_1, S_g239_2, S_g239_3, S_g239_4, S_g239_5, S_g239_6, S_a23, S_n23, S_a282, S_n282, S_a300, S_n300, S_n73, S_n299, S_ob239, Y'_ob (isY_S yb240), Y'_g0 (isY_S yb240), Y'_g1 (isY_S yb240), Y'_g2 (isY_S yb240), Y'_g3 (isY_S yb240), Y'_g4 (isY_S yb240), Y'_g5 (isY_S yb240), Y'_g6 (isY_S yb240), Y'_g7 (isY_S yb240), Y'_g8 (isY_S yb240), Y'_g9 (isY_S yb240), Y'_g10 (isY_S yb240), Y'_g11 (isY_S yb240), Y'_g12 (isY_S yb240), Y'_g13 (isY_S yb240), Y'_g14 (isY_S yb240), Y'_g15 (isY_S yb240), Y'_g16 (isY_S yb240), Y'_g17 (isY_S yb240), Y'_g18 (isY_S yb240), Y'_g19 (isY_S yb240), Y'_a7 (isY_S yb240), Y'_a8 (isY_S yb240), Y'_a10 (isY_S yb240), Y'_a11 (isY_S yb240), Y'_a12 (isY_S yb240), Y'_a13 (isY_S yb240), Y'_a14 (isY_S yb240), Y'_a15 (isY_S yb240), Y'_a16 (isY_S yb240), Y'_a17 (isY_S yb240), Y'_a18 (isY_S yb240), Y'_sw (isY_S yb240), yC']
    refine ih (c + 1) st l g s _ (by omega) hst ho hy hw hf hp hg fun s1 f1 p1 g1 => ?_
    have hy1 := Y_fr f1 hy
    have ho1 := ord_fr f1 ho
    have bb := bit_brk hn.1 (c := c) (by omega)
    rw [← hy1.1.2.2.2.2.2.1] at bb
    have e2 := fun Q => F_broken (d := d + 5 + k + 1) (s := s1) (h := h) (x := nI c) (Q := Q)
    have e2 : ∀ Q, MT (d + 6 + k) 68 [.ref 240, .int (nI c)] (pS s1 h) Q ↔ Q (some (.int (bI (¬ bitS (yB (SY s1 240) 5) (nI c) = nI 0)))) (pS s1 h) := fun Q => by
      have := F_broken (d := d + 5 + k) (s := s1) (h := h) (x := nI c) (Q := Q)
      rwa [show d + 5 + k + 1 = d + 6 + k by omega] at this
    cases hk' : nK n c with
    | true =>
      have bb' : ¬ bitS (yB (SY s1 240) 5) (nI c) = nI 0 := fun q => by rw [bb.mp q] at hk'; cases hk'
      simp (disch := omega) only [u_46_0, u_46_2, u_46_3, u_46_6, u_46_7, u_46_8, u_46_9, u_46_12, u_46_15, u_46_18, u_46_19, u_46_20, u_46_23, u_46_26, u_46_27, u_46_28, u_46_31, u_46_32, u_46_33, u_46_34, u_46_35, u_46_36, u_46_37, u_46_38, u_46_39, u_46_41, u_46_42, u_46_43, u_46_46, u_46_47, u_46_50, u_46_51, u_46_54, u_46_57, u_46_58, u_46_59, u_46_61, u_46_62, u_46_66, u_46_67, u_46_70, u_46_73, u_46_74, u_46_77, u_46_78, u_46_79, u_46_82, u_46_84, u_46_85, u_46_88, u_46_91, u_46_92, u_46_95, u_46_96, u_46_97, u_46_100, u_46_102, u_46_103, u_46_106, u_46_109, u_46_110, u_46_111, u_46_112, u_46_113, u_46_114, u_46_116, u_46_117, u_46_118, u_46_120, u_46_121, u_46_122, u_46_125, u_46_128, u_46_131, u_46_132, u_46_136, u_46_138, u_46_141, u_46_142, u_46_145, u_46_146, u_46_149, u_46_152, u_46_155, gI0, gIs, gR0, gRs, gF0, gFs, st0, st_i, st_r, st_f, st_n, st_s, true_and, and_true, ↓ifLeT, ↓ifLeF, ↓ifLtT, ↓ifLtF, ↓ifEqT, ↓ifEqF, if_tt, if_ff, if_pos, if_neg, nLe, nLt, nEq, nInT, nCl, pk_mul, nI_add, Nat.reduceAdd, s_cat_nil, s_cat_i, s_cat_r, s_cat_f, s_cat_l, tl_s, tl_n, cat_i, cat_r, cat_f, nb0, nb1, nbI, if_bI, if_bIr, Nat.zero_le, Nat.reduceLeDiff, S_g0_0, S_g0_1, S_g0_2, S_g0_3, S_g0_4, S_g0_5, S_g0_6, S_g0_7, S_g0_8, S_g0_9, S_g0_10, S_g0_11, S_g0_12, S_g0_13, S_g0_14, S_g1_0, S_g1_1, S_g1_2, S_g1_3, S_g1_4, S_g72_0, S_g72_1, S_g72_2, S_g239_0, S_g239_1, S_g239_2, S_g239_3, S_g239_4, S_g239_5, S_g239_6, S_a23, S_n23, S_a282, S_n282, S_a300, S_n300, S_n73, S_n299, Y'_ob (isY_S yb240), Y'_g0 (isY_S yb240), Y'_g1 (isY_S yb240), Y'_g2 (isY_S yb240), Y'_g3 (isY_S yb240), Y'_g4 (isY_S yb240), Y'_g5 (isY_S yb240), Y'_g6 (isY_S yb240), Y'_g7 (isY_S yb240), Y'_g8 (isY_S yb240), Y'_g9 (isY_S yb240), Y'_g10 (isY_S yb240), Y'_g11 (isY_S yb240), Y'_g12 (isY_S yb240), Y'_g13 (isY_S yb240), Y'_g14 (isY_S yb240), Y'_g15 (isY_S yb240), Y'_g16 (isY_S yb240), Y'_g17 (isY_S yb240), Y'_g18 (isY_S yb240), Y'_g19 (isY_S yb240), Y'_a7 (isY_S yb240), Y'_a8 (isY_S yb240), Y'_a10 (isY_S yb240), Y'_a11 (isY_S yb240), Y'_a12 (isY_S yb240), Y'_a13 (isY_S yb240), Y'_a14 (isY_S yb240), Y'_a15 (isY_S yb240), Y'_a16 (isY_S yb240), Y'_a17 (isY_S yb240), Y'_a18 (isY_S yb240), Y'_sw (isY_S yb240), e2, bb', not_false_eq_true, reduceIte, nI10, show ¬ nI 1 = (0 : Int32) by decide]
      refine K s1 f1 p1 ?_
      rw [cutN, hk', if_pos rfl, List.append_nil]
      exact g1
    | false =>
      have bb' : bitS (yB (SY s1 240) 5) (nI c) = nI 0 := bb.mpr hk'
      simp (disch := omega) only [u_46_0, u_46_2, u_46_3, u_46_6, u_46_7, u_46_8, u_46_9, u_46_12, u_46_15, u_46_18, u_46_19, u_46_20, u_46_23, u_46_26, u_46_27, u_46_28, u_46_31, u_46_32, u_46_33, u_46_34, u_46_35, u_46_36, u_46_37, u_46_38, u_46_39, u_46_41, u_46_42, u_46_43, u_46_46, u_46_47, u_46_50, u_46_51, u_46_54, u_46_57, u_46_58, u_46_59, u_46_61, u_46_62, u_46_66, u_46_67, u_46_70, u_46_73, u_46_74, u_46_77, u_46_78, u_46_79, u_46_82, u_46_84, u_46_85, u_46_88, u_46_91, u_46_92, u_46_95, u_46_96, u_46_97, u_46_100, u_46_102, u_46_103, u_46_106, u_46_109, u_46_110, u_46_111, u_46_112, u_46_113, u_46_114, u_46_116, u_46_117, u_46_118, u_46_120, u_46_121, u_46_122, u_46_125, u_46_128, u_46_131, u_46_132, u_46_136, u_46_138, u_46_141, u_46_142, u_46_145, u_46_146, u_46_149, u_46_152, u_46_155, gI0, gIs, gR0, gRs, gF0, gFs, st0, st_i, st_r, st_f, st_n, st_s, true_and, and_true, ↓ifLeT, ↓ifLeF, ↓ifLtT, ↓ifLtF, ↓ifEqT, ↓ifEqF, if_tt, if_ff, if_pos, if_neg, nLe, nLt, nEq, nInT, nCl, pk_mul, nI_add, Nat.reduceAdd, s_cat_nil, s_cat_i, s_cat_r, s_cat_f, s_cat_l, tl_s, tl_n, cat_i, cat_r, cat_f, nb0, nb1, nbI, if_bI, if_bIr, Nat.zero_le, Nat.reduceLeDiff, S_g0_0, S_g0_1, S_g0_2, S_g0_3, S_g0_4, S_g0_5, S_g0_6, S_g0_7, S_g0_8, S_g0_9, S_g0_10, S_g0_11, S_g0_12, S_g0_13, S_g0_14, S_g1_0, S_g1_1, S_g1_2, S_g1_3, S_g1_4, S_g72_0, S_g72_1, S_g72_2, S_g239_0, S_g239_1, S_g239_2, S_g239_3, S_g239_4, S_g239_5, S_g239_6, S_a23, S_n23, S_a282, S_n282, S_a300, S_n300, S_n73, S_n299, Y'_ob (isY_S yb240), Y'_g0 (isY_S yb240), Y'_g1 (isY_S yb240), Y'_g2 (isY_S yb240), Y'_g3 (isY_S yb240), Y'_g4 (isY_S yb240), Y'_g5 (isY_S yb240), Y'_g6 (isY_S yb240), Y'_g7 (isY_S yb240), Y'_g8 (isY_S yb240), Y'_g9 (isY_S yb240), Y'_g10 (isY_S yb240), Y'_g11 (isY_S yb240), Y'_g12 (isY_S yb240), Y'_g13 (isY_S yb240), Y'_g14 (isY_S yb240), Y'_g15 (isY_S yb240), Y'_g16 (isY_S yb240), Y'_g17 (isY_S yb240), Y'_g18 (isY_S yb240), Y'_g19 (isY_S yb240), Y'_a7 (isY_S yb240), Y'_a8 (isY_S yb240), Y'_a10 (isY_S yb240), Y'_a11 (isY_S yb240), Y'_a12 (isY_S yb240), Y'_a13 (isY_S yb240), Y'_a14 (isY_S yb240), Y'_a15 (isY_S yb240), Y'_a16 (isY_S yb240), Y'_a17 (isY_S yb240), Y'_a18 (isY_S yb240), Y'_sw (isY_S yb240), e2, bb', not_true_eq_false, reduceIte]
      -- the loop
      have loop : ∀ m j (x : List Nat) s g, j + m = ord.length → ordS s ord → RY (SY s 240) n → wfL (jL n (setL l c (l c ++ x))) → x.length ≤ 8 → (∀ t, t ∈ ord.drop j → ∀ q, ¬ t ∈ setL l c (l c ++ x) q) → RP (SP s 272) (setL l c (l c ++ x)) → RCh (SO s b) g → (∀ s', frS b s s' → RP (SP s' 272) l → RCh (SO s' b) (pickN n (cutG n (cutN n k (c + 1)) c (ord.drop j) (setL l c (l c ++ x))) g) → Q none (pS s' h)) → WP (d + 6 + k) 46 64 [.ref 239, .ref b, .int (nI c), .int (nI st), .int (nI c), .int (nI x.length), .int (nI j)] [] (pS s h) (0, 0) Q := by
        intro m
        induction m with
        | zero =>
          intro j x s g hj ho hy hw hx hf hp hg K
          have e1 := ho.1
          have hd : ord.drop j = [] := List.drop_of_length_le (by omega)
          have w8 := wfL_le hn.1 hw c
          rw [setL_at] at w8
          have drop := cut_drop (d := d + 5 + k) (b := b) (h := h) (Q := Q) (c := c) (v3 := .int (nI st)) (v4 := .int (nI c)) (N := x.length) (by omega) hl8 hx x.length 0 s x (Nat.zero_add _) rfl w8 hp (fun s' f1 f2 f3 => K s' f1 f3 (by rw [hd, f2]; exact hg))
          rw [show d + 5 + k + 1 = d + 6 + k by omega] at drop
          rw [u_46_64]
          simp (disch := omega) only [u_46_0, u_46_2, u_46_3, u_46_6, u_46_7, u_46_8, u_46_9, u_46_12, u_46_15, u_46_18, u_46_19, u_46_20, u_46_23, u_46_26, u_46_27, u_46_28, u_46_31, u_46_32, u_46_33, u_46_34, u_46_35, u_46_36, u_46_37, u_46_38, u_46_39, u_46_41, u_46_42, u_46_43, u_46_46, u_46_47, u_46_50, u_46_51, u_46_54, u_46_57, u_46_58, u_46_59, u_46_61, u_46_62, u_46_66, u_46_67, u_46_70, u_46_73, u_46_74, u_46_77, u_46_78, u_46_79, u_46_82, u_46_84, u_46_85, u_46_88, u_46_91, u_46_92, u_46_95, u_46_96, u_46_97, u_46_100, u_46_102, u_46_103, u_46_106, u_46_109, u_46_110, u_46_111, u_46_112, u_46_113, u_46_114, u_46_116, u_46_117, u_46_118, u_46_120, u_46_121, u_46_122, u_46_125, u_46_128, u_46_131, u_46_132, u_46_136, u_46_138, u_46_141, u_46_142, u_46_145, u_46_146, u_46_149, u_46_152, u_46_155, gI0, gIs, gR0, gRs, gF0, gFs, st0, st_i, st_r, st_f, st_n, st_s, true_and, and_true, ↓ifLeT, ↓ifLeF, ↓ifLtT, ↓ifLtF, ↓ifEqT, ↓ifEqF, if_tt, if_ff, if_pos, if_neg, nLe, nLt, nEq, nInT, nCl, pk_mul, nI_add, Nat.reduceAdd, s_cat_nil, s_cat_i, s_cat_r, s_cat_f, s_cat_l, tl_s, tl_n, cat_i, cat_r, cat_f, nb0, nb1, nbI, if_bI, if_bIr, Nat.zero_le, Nat.reduceLeDiff, S_g0_0, S_g0_1, S_g0_2, S_g0_3, S_g0_4, S_g0_5, S_g0_6, S_g0_7, S_g0_8, S_g0_9, S_g0_10, S_g0_11, S_g0_12, S_g0_13, S_g0_14, S_g1_0, S_g1_1, S_g1_2, S_g1_3, S_g1_4, S_g72_0, S_g72_1, S_g72_2, S_g239_0, S_g239_1, S_g239_2, S_g239_3, S_g239_4, S_g239_5, S_g239_6, S_a23, S_n23, S_a282, S_n282, S_a300, S_n300, S_n73, S_n299, Y'_ob (isY_S yb240), Y'_g0 (isY_S yb240), Y'_g1 (isY_S yb240), Y'_g2 (isY_S yb240), Y'_g3 (isY_S yb240), Y'_g4 (isY_S yb240), Y'_g5 (isY_S yb240), Y'_g6 (isY_S yb240), Y'_g7 (isY_S yb240), Y'_g8 (isY_S yb240), Y'_g9 (isY_S yb240), Y'_g10 (isY_S yb240), Y'_g11 (isY_S yb240), Y'_g12 (isY_S yb240), Y'_g13 (isY_S yb240), Y'_g14 (isY_S yb240), Y'_g15 (isY_S yb240), Y'_g16 (isY_S yb240), Y'_g17 (isY_S yb240), Y'_g18 (isY_S yb240), Y'_g19 (isY_S yb240), Y'_a7 (isY_S yb240), Y'_a8 (isY_S yb240), Y'_a10 (isY_S yb240), Y'_a11 (isY_S yb240), Y'_a12 (isY_S yb240), Y'_a13 (isY_S yb240), Y'_a14 (isY_S yb240), Y'_a15 (isY_S yb240), Y'_a16 (isY_S yb240), Y'_a17 (isY_S yb240), Y'_a18 (isY_S yb240), Y'_sw (isY_S yb240), e1]
          exact drop
        | succ m ihm =>
          intro j x s g hj ho hy hw hx hf hp hg K
          have e1 := ho.1
          have hj' : j < ord.length := by omega
          have hdr := List.drop_eq_getElem_cons hj'
          have ge := getD_of hj'
          have hm := getD_mem hj'
          have ht := hoT _ hm
          have e3 := ho.2.2 j hj'
          have e4 := fun Q => F_lift (d := d + 5 + k) (s := s) (h := h) (Q := Q) (c := c) (t := ord.getD j 0) hn hy (by omega) ht
          rw [show d + 5 + k + 1 = d + 6 + k by omega] at e4
          have w8 := wfL_le hn.1 hw c
          rw [setL_at] at w8
          have hin : vp_in (nI j) 8 := (nIn (by omega)).mpr (by omega)
          have hfresh : ∀ q, ¬ ord.getD j 0 ∈ setL l c (l c ++ x) q := hf _ (by rw [hdr, ← ge]; exact List.mem_cons_self)
          have ob : ∀ q : Nat, (oO (pS s h) 272 fun c' _ => c' = q) ↔ 3 = q := fun q => P'_ob (isP_S pb272)
          have c6 : nI (ord.getD j 0) = nI (ord.getD j 0) := rfl
          cases hl : nLift n c (ord.getD j 0) with
          | false =>
            have drop := cut_drop (d := d + 5 + k) (b := b) (h := h) (Q := Q) (c := c) (v3 := .int (nI st)) (v4 := .int (nI c)) (N := x.length) (by omega) hl8 hx x.length 0 s x (Nat.zero_add _) rfl w8 hp (fun s' f1 f2 f3 => K s' f1 f3 (by
              rw [hdr, ← ge, cutG, hl, f2]
              exact hg))
            rw [show d + 5 + k + 1 = d + 6 + k by omega] at drop
            rw [u_46_64]
            simp (disch := omega) only [u_46_0, u_46_2, u_46_3, u_46_6, u_46_7, u_46_8, u_46_9, u_46_12, u_46_15, u_46_18, u_46_19, u_46_20, u_46_23, u_46_26, u_46_27, u_46_28, u_46_31, u_46_32, u_46_33, u_46_34, u_46_35, u_46_36, u_46_37, u_46_38, u_46_39, u_46_41, u_46_42, u_46_43, u_46_46, u_46_47, u_46_50, u_46_51, u_46_54, u_46_57, u_46_58, u_46_59, u_46_61, u_46_62, u_46_66, u_46_67, u_46_70, u_46_73, u_46_74, u_46_77, u_46_78, u_46_79, u_46_82, u_46_84, u_46_85, u_46_88, u_46_91, u_46_92, u_46_95, u_46_96, u_46_97, u_46_100, u_46_102, u_46_103, u_46_106, u_46_109, u_46_110, u_46_111, u_46_112, u_46_113, u_46_114, u_46_116, u_46_117, u_46_118, u_46_120, u_46_121, u_46_122, u_46_125, u_46_128, u_46_131, u_46_132, u_46_136, u_46_138, u_46_141, u_46_142, u_46_145, u_46_146, u_46_149, u_46_152, u_46_155, gI0, gIs, gR0, gRs, gF0, gFs, st0, st_i, st_r, st_f, st_n, st_s, true_and, and_true, ↓ifLeT, ↓ifLeF, ↓ifLtT, ↓ifLtF, ↓ifEqT, ↓ifEqF, if_tt, if_ff, if_pos, if_neg, nLe, nLt, nEq, nInT, nCl, pk_mul, nI_add, Nat.reduceAdd, s_cat_nil, s_cat_i, s_cat_r, s_cat_f, s_cat_l, tl_s, tl_n, cat_i, cat_r, cat_f, nb0, nb1, nbI, if_bI, if_bIr, Nat.zero_le, Nat.reduceLeDiff, S_g0_0, S_g0_1, S_g0_2, S_g0_3, S_g0_4, S_g0_5, S_g0_6, S_g0_7, S_g0_8, S_g0_9, S_g0_10, S_g0_11, S_g0_12, S_g0_13, S_g0_14, S_g1_0, S_g1_1, S_g1_2, S_g1_3, S_g1_4, S_g72_0, S_g72_1, S_g72_2, S_g239_0, S_g239_1, S_g239_2, S_g239_3, S_g239_4, S_g239_5, S_g239_6, S_a23, S_n23, S_a282, S_n282, S_a300, S_n300, S_n73, S_n299, Y'_ob (isY_S yb240), Y'_g0 (isY_S yb240), Y'_g1 (isY_S yb240), Y'_g2 (isY_S yb240), Y'_g3 (isY_S yb240), Y'_g4 (isY_S yb240), Y'_g5 (isY_S yb240), Y'_g6 (isY_S yb240), Y'_g7 (isY_S yb240), Y'_g8 (isY_S yb240), Y'_g9 (isY_S yb240), Y'_g10 (isY_S yb240), Y'_g11 (isY_S yb240), Y'_g12 (isY_S yb240), Y'_g13 (isY_S yb240), Y'_g14 (isY_S yb240), Y'_g15 (isY_S yb240), Y'_g16 (isY_S yb240), Y'_g17 (isY_S yb240), Y'_g18 (isY_S yb240), Y'_g19 (isY_S yb240), Y'_a7 (isY_S yb240), Y'_a8 (isY_S yb240), Y'_a10 (isY_S yb240), Y'_a11 (isY_S yb240), Y'_a12 (isY_S yb240), Y'_a13 (isY_S yb240), Y'_a14 (isY_S yb240), Y'_a15 (isY_S yb240), Y'_a16 (isY_S yb240), Y'_a17 (isY_S yb240), Y'_a18 (isY_S yb240), Y'_sw (isY_S yb240), e1, hin, e3, e4, hl, iBf]
            exact drop
          | true =>
            have w2 := wfL_app hw (c := c) (by omega) ht hfresh
            rw [setL_app, List.append_assoc] at w2
            have w8' := wfL_le hn.1 w2 c
            rw [setL_at, ← List.append_assoc, List.length_append] at w8'
            have w8' : (l c ++ x).length + 1 ≤ 8 := w8'
            have hx1 : x.length + 1 ≤ 8 := by rw [List.length_append] at w8'; omega
            have hok : okS (SP s 272) := RPl_okS hp fun q => wfL_le hn.1 hw q
            have hp2 := RP_add (t := ord.getD j 0) hp (show c < 4 by omega) (by rw [setL_at]; omega) (fun q => wfL_le hn.1 hw q)
            rw [setL_app, List.append_assoc] at hp2
            have e5 := fun Q => F_add (d := d + 4 + k) (s := s) (h := h) (Q := Q) (c := c) (t := ord.getD j 0) (by omega) hok
            rw [show d + 4 + k + 2 = d + 6 + k by omega] at e5
            have f2 : ∀ t, t ∈ ord.drop (j + 1) → ∀ q, ¬ t ∈ setL l c (l c ++ (x ++ [ord.getD j 0])) q := by
              intro t ht q hq
              have h0 := hf t (by rw [hdr]; exact List.mem_cons_of_mem _ ht) q
              have hnd : (ord.drop j).Nodup := ho8.sublist (List.drop_sublist j ord)
              rw [hdr, ← ge] at hnd
              have hne : t ≠ ord.getD j 0 := fun e => (List.nodup_cons.mp hnd).1 (e ▸ ht)
              unfold setL at hq h0
              by_cases e : q = c
              · rw [if_pos e] at hq h0
                rw [← List.append_assoc, List.mem_append, List.mem_singleton] at hq
                rcases hq with hq | hq
                · exact h0 hq
                · exact hne hq
              · rw [if_neg e] at hq h0
                exact h0 hq
            rw [u_46_64]
            simp (disch := omega) only [u_46_0, u_46_2, u_46_3, u_46_6, u_46_7, u_46_8, u_46_9, u_46_12, u_46_15, u_46_18, u_46_19, u_46_20, u_46_23, u_46_26, u_46_27, u_46_28, u_46_31, u_46_32, u_46_33, u_46_34, u_46_35, u_46_36, u_46_37, u_46_38, u_46_39, u_46_41, u_46_42, u_46_43, u_46_46, u_46_47, u_46_50, u_46_51, u_46_54, u_46_57, u_46_58, u_46_59, u_46_61, u_46_62, u_46_66, u_46_67, u_46_70, u_46_73, u_46_74, u_46_77, u_46_78, u_46_79, u_46_82, u_46_84, u_46_85, u_46_88, u_46_91, u_46_92, u_46_95, u_46_96, u_46_97, u_46_100, u_46_102, u_46_103, u_46_106, u_46_109, u_46_110, u_46_111, u_46_112, u_46_113, u_46_114, u_46_116, u_46_117, u_46_118, u_46_120, u_46_121, u_46_122, u_46_125, u_46_128, u_46_131, u_46_132, u_46_136, u_46_138, u_46_141, u_46_142, u_46_145, u_46_146, u_46_149, u_46_152, u_46_155, gI0, gIs, gR0, gRs, gF0, gFs, st0, st_i, st_r, st_f, st_n, st_s, true_and, and_true, ↓ifLeT, ↓ifLeF, ↓ifLtT, ↓ifLtF, ↓ifEqT, ↓ifEqF, if_tt, if_ff, if_pos, if_neg, nLe, nLt, nEq, nInT, nCl, pk_mul, nI_add, Nat.reduceAdd, s_cat_nil, s_cat_i, s_cat_r, s_cat_f, s_cat_l, tl_s, tl_n, cat_i, cat_r, cat_f, nb0, nb1, nbI, if_bI, if_bIr, Nat.zero_le, Nat.reduceLeDiff, S_g0_0, S_g0_1, S_g0_2, S_g0_3, S_g0_4, S_g0_5, S_g0_6, S_g0_7, S_g0_8, S_g0_9, S_g0_10, S_g0_11, S_g0_12, S_g0_13, S_g0_14, S_g1_0, S_g1_1, S_g1_2, S_g1_3, S_g1_4, S_g72_0, S_g72_1, S_g72_2, S_g239_0, S_g239_1, S_g239_2, S_g239_3, S_g239_4, S_g239_5, S_g239_6, S_a23, S_n23, S_a282, S_n282, S_a300, S_n300, S_n73, S_n299, Y'_ob (isY_S yb240), Y'_g0 (isY_S yb240), Y'_g1 (isY_S yb240), Y'_g2 (isY_S yb240), Y'_g3 (isY_S yb240), Y'_g4 (isY_S yb240), Y'_g5 (isY_S yb240), Y'_g6 (isY_S yb240), Y'_g7 (isY_S yb240), Y'_g8 (isY_S yb240), Y'_g9 (isY_S yb240), Y'_g10 (isY_S yb240), Y'_g11 (isY_S yb240), Y'_g12 (isY_S yb240), Y'_g13 (isY_S yb240), Y'_g14 (isY_S yb240), Y'_g15 (isY_S yb240), Y'_g16 (isY_S yb240), Y'_g17 (isY_S yb240), Y'_g18 (isY_S yb240), Y'_g19 (isY_S yb240), Y'_a7 (isY_S yb240), Y'_a8 (isY_S yb240), Y'_a10 (isY_S yb240), Y'_a11 (isY_S yb240), Y'_a12 (isY_S yb240), Y'_a13 (isY_S yb240), Y'_a14 (isY_S yb240), Y'_a15 (isY_S yb240), Y'_a16 (isY_S yb240), Y'_a17 (isY_S yb240), Y'_a18 (isY_S yb240), Y'_sw (isY_S yb240), e1, hin, e3, e4, hl, iBt, nI10, show ¬ nI 1 = (0 : Int32) by decide, reduceIte, ob, e5]
            have fr : frS b s (wSP s 272 (addP (SP s 272) c (nI (ord.getD j 0)))) := frS_P
            refine ih (c + 1) (j + 1) (setL l c (l c ++ (x ++ [ord.getD j 0]))) g _ _ (by omega) (by omega) (ord_fr fr ho) (Y_fr fr hy) w2 f2 (by rw [SPw]; exact hp2) hg fun s2 q1 q2 q3 => ?_
            simp (disch := omega) only [u_46_0, u_46_2, u_46_3, u_46_6, u_46_7, u_46_8, u_46_9, u_46_12, u_46_15, u_46_18, u_46_19, u_46_20, u_46_23, u_46_26, u_46_27, u_46_28, u_46_31, u_46_32, u_46_33, u_46_34, u_46_35, u_46_36, u_46_37, u_46_38, u_46_39, u_46_41, u_46_42, u_46_43, u_46_46, u_46_47, u_46_50, u_46_51, u_46_54, u_46_57, u_46_58, u_46_59, u_46_61, u_46_62, u_46_66, u_46_67, u_46_70, u_46_73, u_46_74, u_46_77, u_46_78, u_46_79, u_46_82, u_46_84, u_46_85, u_46_88, u_46_91, u_46_92, u_46_95, u_46_96, u_46_97, u_46_100, u_46_102, u_46_103, u_46_106, u_46_109, u_46_110, u_46_111, u_46_112, u_46_113, u_46_114, u_46_116, u_46_117, u_46_118, u_46_120, u_46_121, u_46_122, u_46_125, u_46_128, u_46_131, u_46_132, u_46_136, u_46_138, u_46_141, u_46_142, u_46_145, u_46_146, u_46_149, u_46_152, u_46_155, gI0, gIs, gR0, gRs, gF0, gFs, st0, st_i, st_r, st_f, st_n, st_s, true_and, and_true, ↓ifLeT, ↓ifLeF, ↓ifLtT, ↓ifLtF, ↓ifEqT, ↓ifEqF, if_tt, if_ff, if_pos, if_neg, nLe, nLt, nEq, nInT, nCl, pk_mul, nI_add, Nat.reduceAdd, s_cat_nil, s_cat_i, s_cat_r, s_cat_f, s_cat_l, tl_s, tl_n, cat_i, cat_r, cat_f, nb0, nb1, nbI, if_bI, if_bIr, Nat.zero_le, Nat.reduceLeDiff]
            have q4 := frS_t fr q1
            have lx : x.length + 1 = (x ++ [ord.getD j 0]).length := by rw [List.length_append]; rfl
            rw [lx]
            refine ihm (j + 1) (x ++ [ord.getD j 0]) s2 _ (by omega) (ord_fr q4 ho) (Y_fr q4 hy) w2 (by omega) f2 q2 q3 fun s3 r1 r2 r3 => K s3 (frS_t q4 r1) r2 ?_
            rw [hdr, ← ge, cutG, hl, if_pos rfl, pick_app, setL_app, List.append_assoc]
            exact r3
      have w0 : setL l c (l c ++ []) = l := by rw [List.append_nil, setL_eta]
      refine loop (ord.length - st) st [] s1 _ (by omega) ho1 hy1 (by rw [w0]; exact hw) (Nat.zero_le _) (by rw [w0]; exact hf) (by rw [w0]; exact p1) g1 fun s' r1 r2 r3 => K s' (frS_t f1 r1) r2 ?_
      rw [w0] at r3
      rw [cutN, hk', if_neg (by decide), pick_app]
      exact r3
end CUT
