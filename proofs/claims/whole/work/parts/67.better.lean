/-! Search: BETTER -/
section BET
variable {b d : Nat} {s : tS} {h : sH} {i x : Int32} {Q : sQ} {n : tN} {l : tL} {g : tB}
def RChB (o : tO) (g : tB) : Prop := eI o 4 = nI g.1 - nI 1 ∧ g.1 ≤ 301 ∧ match g.2 with
  | none => eI o 2 = -1
  | some (m, l, t) => eI o 2 = nI m ∧ m ≤ 300 ∧ RP (eP o) l ∧ eI o 3 = nI t
def frB (b : Nat) (s s' : tS) : Prop := SG s' = SG s ∧ (∀ q, q ≠ 256 → SY s' q = SY s q) ∧ SP s' 20 = SP s 20 ∧ (∀ q, q ≠ b → SO s' q = SO s q) ∧ eB (SO s' b) 1 = eB (SO s b) 1
theorem frB_r : frB b s s := ⟨rfl, fun _ _ => rfl, rfl, fun _ _ => rfl, rfl⟩
theorem frB_t {s' t : tS} (h1 : frB b s s') (h2 : frB b s' t) : frB b s t := ⟨h2.1.trans h1.1, fun q hq => (h2.2.1 q hq).trans (h1.2.1 q hq), h2.2.2.1.trans h1.2.2.1, fun q hq => (h2.2.2.2.1 q hq).trans (h1.2.2.2.1 q hq), h2.2.2.2.2.trans h1.2.2.2.2⟩
theorem frB_S {s' : tS} (h : frS b s s') : frB b s s' := ⟨h.1, h.2.1, h.2.2.1 20 (by decide), h.2.2.2.1, h.2.2.2.2.1⟩
theorem frB_P {q : Nat} {p : tP} (hq : q ≠ 20) : frB b s (wSP s q p) := ⟨rfl, fun _ _ => rfl, if_neg (fun e => hq e.symm), fun _ _ => rfl, rfl⟩
theorem Y_frB {s' : tS} (h : frB b s s') (hy : RY (SY s 240) n) : RY (SY s' 240) n := by rw [h.2.1 240 (by decide)]; exact hy
def tgB (g : tB) : tG := (g.1, g.2.map fun x => (x.1, x.2.1))
theorem RChB_G {o : tO} (h : RChB o g) : RCh o (tgB g) := by
  obtain ⟨h1, h2, h3⟩ := h
  refine ⟨h1, h2, ?_⟩
  unfold tgB
  cases e : g.2 with
  | none => rw [e] at h3; exact h3
  | some v =>
    obtain ⟨m, l, t⟩ := v
    rw [e] at h3
    exact ⟨h3.1, h3.2.1, h3.2.2.1⟩
theorem place_lp (hb : cb b) (hn : wfN n) {rl : tL} (hr : wfL (jL n rl)) {t c : Nat} (hc : c < nF n 2) (ht : t < nF n 3) (hf : ∀ q, ¬ t ∈ rl q) : ∀ m j s g, j + m = (rl c).length + 1 → RY (SY s 240) n → RP (SP s 275) rl → RChB (SO s b) g → (∀ s' v4, frB b s s' → SP s' 275 = SP s 275 → RChB (SO s' b) (pickB n ((List.range' j m).map (fun j => (t, putL rl c j t))) g) → WP (d + 6) 49 116 [.ref 239, .ref b, .int (nI t), .int (nI c), v4] [] (pS s' h) (0, 0) Q) → WP (d + 6) 49 61 [.ref 239, .ref b, .int (nI t), .int (nI c), .int (nI j)] [] (pS s h) (0, 0) Q := by
  intro m
  induction m with
  | zero =>
    intro j s g hj hy hp hg K
    have h4 := hn.1.1
    have h8 := wfL_le hn.1 hr c
    have hpc : (SP s 275).2 c = (rl c).length := (hp c (by omega)).1
    have i1 : vp_in (nI c) 4 := (nIn (by omega)).mpr (by omega)
    rw [u_49_61]
    simp (disch := omega) only [u_49_0, u_49_1, u_49_4, u_49_5, u_49_8, u_49_11, u_49_14, u_49_15, u_49_18, u_49_19, u_49_22, u_49_23, u_49_25, u_49_26, u_49_29, u_49_32, u_49_35, u_49_36, u_49_39, u_49_40, u_49_43, u_49_46, u_49_47, u_49_50, u_49_51, u_49_52, u_49_55, u_49_58, u_49_59, u_49_63, u_49_64, u_49_67, u_49_70, u_49_71, u_49_72, u_49_75, u_49_76, u_49_79, u_49_80, u_49_83, u_49_86, u_49_87, u_49_90, u_49_91, u_49_93, u_49_94, u_49_97, u_49_98, u_49_99, u_49_102, u_49_105, u_49_106, u_49_107, u_49_110, u_49_113, u_49_119, u_49_122, gI0, gIs, gR0, gRs, gF0, gFs, st0, st_i, st_r, st_f, st_n, st_s, true_and, and_true, ↓ifLeT, ↓ifLeF, ↓ifLtT, ↓ifLtF, ↓ifEqT, ↓ifEqF, if_tt, if_ff, if_pos, if_neg, nLe, nLt, nEq, nInT, nCl, pk_mul, nI_add, Nat.reduceAdd, s_cat_nil, s_cat_i, s_cat_r, s_cat_f, s_cat_l, tl_s, tl_n, cat_i, cat_r, cat_f, nb0, nb1, nbI, if_bI, if_bIr, Nat.zero_le, Nat.reduceLeDiff, S_g0_0, S_g0_1, S_g0_2, S_g0_3, S_g0_4, S_g0_5, S_g0_6, S_g0_7, S_g0_8, S_g0_9, S_g0_10, S_g0_11, S_g0_12, S_g0_13, S_g0_14, S_g1_0, S_g1_1, S_g1_2, S_g1_3, S_g1_4, S_g72_0, S_g72_1, S_g72_2, S_g239_0, S_g239_1, S_g239_2, S_g239_3, S_g239_4, S_g239_5, S_g239_6, S_a23, S_n23, S_a282, S_n282, S_a300, S_n300, S_n73, S_n299, P'_size (isP_S pb275), P'_sz (isP_S pb275), i1, hpc]
    exact K s _ frB_r rfl hg
  | succ m ih =>
    intro j s g hj hy hp hg K
    have h4 := hn.1.1
    have hr8 : ∀ q, (rl q).length ≤ 8 := fun q => wfL_le hn.1 hr q
    have h7 := len_app hn.1 hr hc ht hf
    have hpc : (SP s 275).2 c = (rl c).length := (hp c (by omega)).1
    have i1 : vp_in (nI c) 4 := (nIn (by omega)).mpr (by omega)
    have ob : ∀ q : Nat, (oO (pS s h) 272 fun c' _ => c' = q) ↔ 3 = q := fun q => P'_ob (isP_S pb272)
    have ob2 : ∀ s : tS, ∀ q : Nat, (oO (pS s h) 272 fun c' _ => c' = q) ↔ 3 = q := fun s q => P'_ob (isP_S pb272)
    have e1 : ∀ Q, MT (d + 6) 20 [.ref 272, .ref 275] (pS s h) Q ↔ Q none (pS (wSP s 272 (SP s 275)) h) := fun Q => by
      have e := m_copyP (d := d + 5) (b := 272) (c := 275) (p := SP s 272) (q := SP s 275) (h := pS s h) (Q := Q) (isP_S pb275) (by omega)
      rw [S_P pb272, S_P pb272, wSP_eta] at e
      exact e
    have e2 : ∀ Q, MT (d + 6) 23 [.ref 272, .int (nI c), .int (nI j), .int (nI t)] (pS (wSP s 272 (SP s 275)) h) Q ↔ Q none (pS (wSP s 272 (insP (SP s 275) c j (nI t))) h) := fun Q => by
      have e := tr_P (d := d + 6) (s := wSP s 272 (SP s 275)) (h := h) (Q := Q) pb272 (fun h Q => m_insert (d := d + 5) (b := 272) (p := SP s 275) (h := h) (Q := Q) (c := c) (j := j) (t := nI t) (RPl_okS hp hr8) (by omega) (by omega) (by omega))
      rw [wSP_tw] at e
      exact e
    rw [List.range'_succ, List.map_cons] at K
    rw [u_49_61]
    simp (disch := omega) only [u_49_0, u_49_1, u_49_4, u_49_5, u_49_8, u_49_11, u_49_14, u_49_15, u_49_18, u_49_19, u_49_22, u_49_23, u_49_25, u_49_26, u_49_29, u_49_32, u_49_35, u_49_36, u_49_39, u_49_40, u_49_43, u_49_46, u_49_47, u_49_50, u_49_51, u_49_52, u_49_55, u_49_58, u_49_59, u_49_63, u_49_64, u_49_67, u_49_70, u_49_71, u_49_72, u_49_75, u_49_76, u_49_79, u_49_80, u_49_83, u_49_86, u_49_87, u_49_90, u_49_91, u_49_93, u_49_94, u_49_97, u_49_98, u_49_99, u_49_102, u_49_105, u_49_106, u_49_107, u_49_110, u_49_113, u_49_119, u_49_122, gI0, gIs, gR0, gRs, gF0, gFs, st0, st_i, st_r, st_f, st_n, st_s, true_and, and_true, ↓ifLeT, ↓ifLeF, ↓ifLtT, ↓ifLtF, ↓ifEqT, ↓ifEqF, if_tt, if_ff, if_pos, if_neg, nLe, nLt, nEq, nInT, nCl, pk_mul, nI_add, Nat.reduceAdd, s_cat_nil, s_cat_i, s_cat_r, s_cat_f, s_cat_l, tl_s, tl_n, cat_i, cat_r, cat_f, nb0, nb1, nbI, if_bI, if_bIr, Nat.zero_le, Nat.reduceLeDiff, S_g0_0, S_g0_1, S_g0_2, S_g0_3, S_g0_4, S_g0_5, S_g0_6, S_g0_7, S_g0_8, S_g0_9, S_g0_10, S_g0_11, S_g0_12, S_g0_13, S_g0_14, S_g1_0, S_g1_1, S_g1_2, S_g1_3, S_g1_4, S_g72_0, S_g72_1, S_g72_2, S_g239_0, S_g239_1, S_g239_2, S_g239_3, S_g239_4, S_g239_5, S_g239_6, S_a23, S_n23, S_a282, S_n282, S_a300, S_n300, S_n73, S_n299, S_ob239, P'_size (isP_S pb275), P'_sz (isP_S pb275), i1, hpc, ob2, e1, e2]
    rw [show d + 6 = (d + 1) + 5 from rfl]
    have hw := wf_put hr (j := j) hc ht hf
    have hp2 := RP_put (t := t) (j := j) hp (show c < 4 by omega) (by omega) h7 hr8
    have fr1 : frB b s (wSP s 272 (insP (SP s 275) c j (nI t))) := frB_P (by decide)
    refine m_weigh (n := n) (l := putL rl c j t) (g := tgB g) hb hy ⟨hn.1, hn.2.1, hn.2.2.1, hw⟩ (by rw [SPw]; exact hp2) (RChB_G hg) fun s1 f1 f2 f3 => ?_
    have fr2 : frB b s s1 := frB_t fr1 (frB_S f1)
    have p1 : SP s1 275 = SP s 275 := f1.2.2.1 275 (by decide)
    have hk : (tgB g).1 = g.1 := rfl
    cases hl : lastK g.1 (jL n (putL rl c j t)) with
    | none =>
      have hl' : lastK (tgB g).1 (jL n (putL rl c j t)) = none := hl
      have hwb : wbN n g (t, putL rl c j t) = g := by unfold wbN; rw [hl]
      have hg1 : RChB (SO s1 b) g := by
        have e : wgN n (tgB g) (putL rl c j t) = tgB g := by unfold wgN; rw [hl']
        rw [e] at f3
        obtain ⟨a1, a2, a3⟩ := f3
        refine ⟨a1, a2, ?_⟩
        obtain ⟨-, -, b3⟩ := hg
        unfold tgB at a3
        cases e2 : g.2 with
        | none => rw [e2] at a3; exact a3
        | some v =>
          obtain ⟨m', l', t'⟩ := v
          rw [e2] at a3 b3
          exact ⟨a3.1, a3.2.1, a3.2.2, f1.2.2.2.2.2.2.trans b3.2.2.2⟩
      rw [hl']
      simp (disch := omega) only [u_49_0, u_49_1, u_49_4, u_49_5, u_49_8, u_49_11, u_49_14, u_49_15, u_49_18, u_49_19, u_49_22, u_49_23, u_49_25, u_49_26, u_49_29, u_49_32, u_49_35, u_49_36, u_49_39, u_49_40, u_49_43, u_49_46, u_49_47, u_49_50, u_49_51, u_49_52, u_49_55, u_49_58, u_49_59, u_49_63, u_49_64, u_49_67, u_49_70, u_49_71, u_49_72, u_49_75, u_49_76, u_49_79, u_49_80, u_49_83, u_49_86, u_49_87, u_49_90, u_49_91, u_49_93, u_49_94, u_49_97, u_49_98, u_49_99, u_49_102, u_49_105, u_49_106, u_49_107, u_49_110, u_49_113, u_49_119, u_49_122, gI0, gIs, gR0, gRs, gF0, gFs, st0, st_i, st_r, st_f, st_n, st_s, true_and, and_true, ↓ifLeT, ↓ifLeF, ↓ifLtT, ↓ifLtF, ↓ifEqT, ↓ifEqF, if_tt, if_ff, if_pos, if_neg, nLe, nLt, nEq, nInT, nCl, pk_mul, nI_add, Nat.reduceAdd, s_cat_nil, s_cat_i, s_cat_r, s_cat_f, s_cat_l, tl_s, tl_n, cat_i, cat_r, cat_f, nb0, nb1, nbI, if_bI, if_bIr, Nat.zero_le, Nat.reduceLeDiff, Option.isSome_none, iBf]
      rw [show d + 1 + 5 = d + 6 from rfl]
      refine ih (j + 1) s1 g (by omega) (Y_frB fr2 hy) (by rw [p1]; exact hp) hg1 fun s' v4 q1 q2 q3 => K s' v4 (frB_t fr2 q1) (q2.trans p1) ?_
      show RChB _ (pickB n _ (wbN n g (t, putL rl c j t)))
      rw [hwb]
      exact q3
    | some m' =>
      have hl' : lastK (tgB g).1 (jL n (putL rl c j t)) = some m' := hl
      have hwb : wbN n g (t, putL rl c j t) = (m', some (m', putL rl c j t, t)) := by unfold wbN; rw [hl]
      have e : wgN n (tgB g) (putL rl c j t) = (m', some (m', putL rl c j t)) := by unfold wgN; rw [hl']
      rw [e] at f3
      rw [hl']
      simp (disch := omega) only [u_49_0, u_49_1, u_49_4, u_49_5, u_49_8, u_49_11, u_49_14, u_49_15, u_49_18, u_49_19, u_49_22, u_49_23, u_49_25, u_49_26, u_49_29, u_49_32, u_49_35, u_49_36, u_49_39, u_49_40, u_49_43, u_49_46, u_49_47, u_49_50, u_49_51, u_49_52, u_49_55, u_49_58, u_49_59, u_49_63, u_49_64, u_49_67, u_49_70, u_49_71, u_49_72, u_49_75, u_49_76, u_49_79, u_49_80, u_49_83, u_49_86, u_49_87, u_49_90, u_49_91, u_49_93, u_49_94, u_49_97, u_49_98, u_49_99, u_49_102, u_49_105, u_49_106, u_49_107, u_49_110, u_49_113, u_49_119, u_49_122, gI0, gIs, gR0, gRs, gF0, gFs, st0, st_i, st_r, st_f, st_n, st_s, true_and, and_true, ↓ifLeT, ↓ifLeF, ↓ifLtT, ↓ifLtF, ↓ifEqT, ↓ifEqF, if_tt, if_ff, if_pos, if_neg, nLe, nLt, nEq, nInT, nCl, pk_mul, nI_add, Nat.reduceAdd, s_cat_nil, s_cat_i, s_cat_r, s_cat_f, s_cat_l, tl_s, tl_n, cat_i, cat_r, cat_f, nb0, nb1, nbI, if_bI, if_bIr, Nat.zero_le, Nat.reduceLeDiff, Option.isSome_some, iBt, nI10, reduceIte, C_s3 hb]
      rw [show d + 1 + 5 = d + 6 from rfl]
      have fr3 : frB b s (wSO s1 b (vI (SO s1 b) 3 (nI t))) := frB_t fr2 ⟨rfl, fun _ _ => rfl, rfl, fun q hq => if_neg hq, by show eB (if b = b then _ else _) 1 = _; rw [if_pos rfl]; rfl⟩
      refine ih (j + 1) _ (m', some (m', putL rl c j t, t)) (by omega) (Y_frB fr3 hy) (by show RP (SP s1 275) rl; rw [p1]; exact hp) (by
        show RChB (if b = b then _ else _) _
        rw [if_pos rfl]
        exact ⟨f3.1, f3.2.1, f3.2.2.1, f3.2.2.2.1, f3.2.2.2.2, rfl⟩) fun s' v4 q1 q2 q3 => K s' v4 (frB_t fr3 q1) (q2.trans p1) ?_
      show RChB _ (pickB n _ (wbN n g (t, putL rl c j t)))
      rw [hwb]
      exact q3
theorem crane_lp (hb : cb b) (hn : wfN n) {w t : Nat} (ht : t < nF n 3) (hw : t ∈ nL n w) : ∀ m c s g v4, c + m = nF n 2 → RY (SY s 240) n → RP (SP s 275) (restN n w t) → RChB (SO s b) g → (∀ s', frB b s s' → RChB (SO s' b) (pickB n ((List.range' c m).flatMap (atC n w t)) g) → Q none (pS s' h)) → WP (d + 6) 49 24 [.ref 239, .ref b, .int (nI t), .int (nI c), v4] [] (pS s h) (0, 0) Q := by
  intro m
  obtain ⟨wr1, wr2⟩ := wf_rest hn.2.2.2 hw
  induction m with
  | zero =>
    intro c s g v4 hc hy hp hg K
    have h4 := hn.1.1
    have yC' : yC (SY s 240) = nF n 2 := hy.1.2.2.1
    rw [u_49_24]
    simp (disch := omega) only [u_49_0, u_49_1, u_49_4, u_49_5, u_49_8, u_49_11, u_49_14, u_49_15, u_49_18, u_49_19, u_49_22, u_49_23, u_49_25, u_49_26, u_49_29, u_49_32, u_49_35, u_49_36, u_49_39, u_49_40, u_49_43, u_49_46, u_49_47, u_49_50, u_49_51, u_49_52, u_49_55, u_49_58, u_49_59, u_49_63, u_49_64, u_49_67, u_49_70, u_49_71, u_49_72, u_49_75, u_49_76, u_49_79, u_49_80, u_49_83, u_49_86, u_49_87, u_49_90, u_49_91, u_49_93, u_49_94, u_49_97, u_49_98, u_49_99, u_49_102, u_49_105, u_49_106, u_49_107, u_49_110, u_49_113, u_49_116, u_49_119, u_49_122, gI0, gIs, gR0, gRs, gF0, gFs, st0, st_i, st_r, st_f, st_n, st_s, true_and, and_true, ↓ifLeT, ↓ifLeF, ↓ifLtT, ↓ifLtF, ↓ifEqT, ↓ifEqF, if_tt, if_ff, if_pos, if_neg, nLe, nLt, nEq, nInT, nCl, pk_mul, nI_add, Nat.reduceAdd, s_cat_nil, s_cat_i, s_cat_r, s_cat_f, s_cat_l, tl_s, tl_n, cat_i, cat_r, cat_f, nb0, nb1, nbI, if_bI, if_bIr, Nat.zero_le, Nat.reduceLeDiff, S_g0_0, S_g0_1, S_g0_2, S_g0_3, S_g0_4, S_g0_5, S_g0_6, S_g0_7, S_g0_8, S_g0_9, S_g0_10, S_g0_11, S_g0_12, S_g0_13, S_g0_14, S_g1_0, S_g1_1, S_g1_2, S_g1_3, S_g1_4, S_g72_0, S_g72_1, S_g72_2, S_g239_0, S_g239_1, S_g239_2, S_g239_3, S_g239_4, S_g239_5, S_g239_6, S_a23, S_n23, S_a282, S_n282, S_a300, S_n300, S_n73, S_n299, Y'_ob (isY_S yb240), Y'_g0 (isY_S yb240), Y'_g1 (isY_S yb240), Y'_g2 (isY_S yb240), Y'_g3 (isY_S yb240), Y'_g4 (isY_S yb240), Y'_g5 (isY_S yb240), Y'_g6 (isY_S yb240), Y'_g7 (isY_S yb240), Y'_g8 (isY_S yb240), Y'_g9 (isY_S yb240), Y'_g10 (isY_S yb240), Y'_g11 (isY_S yb240), Y'_g12 (isY_S yb240), Y'_g13 (isY_S yb240), Y'_g14 (isY_S yb240), Y'_g15 (isY_S yb240), Y'_g16 (isY_S yb240), Y'_g17 (isY_S yb240), Y'_g18 (isY_S yb240), Y'_g19 (isY_S yb240), Y'_a7 (isY_S yb240), Y'_a8 (isY_S yb240), Y'_a10 (isY_S yb240), Y'_a11 (isY_S yb240), Y'_a12 (isY_S yb240), Y'_a13 (isY_S yb240), Y'_a14 (isY_S yb240), Y'_a15 (isY_S yb240), Y'_a16 (isY_S yb240), Y'_a17 (isY_S yb240), Y'_a18 (isY_S yb240), Y'_sw (isY_S yb240), yC']
    exact K s frB_r hg
  | succ m ih =>
    intro c s g v4 hc hy hp hg K
    have h4 := hn.1.1
    have yC' : yC (SY s 240) = nF n 2 := hy.1.2.2.1
    have hcl : c < nF n 2 := by omega
    have e2 := fun Q => F_broken (d := d + 5) (s := s) (h := h) (x := nI c) (Q := Q)
    have e4 := fun Q => F_lift (d := d + 5) (s := s) (h := h) (Q := Q) (c := c) (t := t) hn hy hcl ht
    have bb := bit_brk hn.1 hcl
    rw [← hy.1.2.2.2.2.2.1] at bb
    rw [List.range'_succ, List.flatMap_cons, pickB_app] at K
    rw [u_49_24]
    cases hk : nK n c with
    | true =>
      have bb' : ¬ bitS (yB (SY s 240) 5) (nI c) = nI 0 := fun q => by rw [bb.mp q] at hk; cases hk
      simp (disch := omega) only [u_49_0, u_49_1, u_49_4, u_49_5, u_49_8, u_49_11, u_49_14, u_49_15, u_49_18, u_49_19, u_49_22, u_49_23, u_49_25, u_49_26, u_49_29, u_49_32, u_49_35, u_49_36, u_49_39, u_49_40, u_49_43, u_49_46, u_49_47, u_49_50, u_49_51, u_49_52, u_49_55, u_49_58, u_49_59, u_49_63, u_49_64, u_49_67, u_49_70, u_49_71, u_49_72, u_49_75, u_49_76, u_49_79, u_49_80, u_49_83, u_49_86, u_49_87, u_49_90, u_49_91, u_49_93, u_49_94, u_49_97, u_49_98, u_49_99, u_49_102, u_49_105, u_49_106, u_49_107, u_49_110, u_49_113, u_49_116, u_49_119, u_49_122, gI0, gIs, gR0, gRs, gF0, gFs, st0, st_i, st_r, st_f, st_n, st_s, true_and, and_true, ↓ifLeT, ↓ifLeF, ↓ifLtT, ↓ifLtF, ↓ifEqT, ↓ifEqF, if_tt, if_ff, if_pos, if_neg, nLe, nLt, nEq, nInT, nCl, pk_mul, nI_add, Nat.reduceAdd, s_cat_nil, s_cat_i, s_cat_r, s_cat_f, s_cat_l, tl_s, tl_n, cat_i, cat_r, cat_f, nb0, nb1, nbI, if_bI, if_bIr, Nat.zero_le, Nat.reduceLeDiff, S_g0_0, S_g0_1, S_g0_2, S_g0_3, S_g0_4, S_g0_5, S_g0_6, S_g0_7, S_g0_8, S_g0_9, S_g0_10, S_g0_11, S_g0_12, S_g0_13, S_g0_14, S_g1_0, S_g1_1, S_g1_2, S_g1_3, S_g1_4, S_g72_0, S_g72_1, S_g72_2, S_g239_0, S_g239_1, S_g239_2, S_g239_3, S_g239_4, S_g239_5, S_g239_6, S_a23, S_n23, S_a282, S_n282, S_a300, S_n300, S_n73, S_n299, Y'_ob (isY_S yb240), Y'_g0 (isY_S yb240), Y'_g1 (isY_S yb240), Y'_g2 (isY_S yb240), Y'_g3 (isY_S yb240), Y'_g4 (isY_S yb240), Y'_g5 (isY_S yb240), Y'_g6 (isY_S yb240), Y'_g7 (isY_S yb240), Y'_g8 (isY_S yb240), Y'_g9 (isY_S yb240), Y'_g10 (isY_S yb240), Y'_g11 (isY_S yb240), Y'_g12 (isY_S yb240), Y'_g13 (isY_S yb240), Y'_g14 (isY_S yb240), Y'_g15 (isY_S yb240), Y'_g16 (isY_S yb240), Y'_g17 (isY_S yb240), Y'_g18 (isY_S yb240), Y'_g19 (isY_S yb240), Y'_a7 (isY_S yb240), Y'_a8 (isY_S yb240), Y'_a10 (isY_S yb240), Y'_a11 (isY_S yb240), Y'_a12 (isY_S yb240), Y'_a13 (isY_S yb240), Y'_a14 (isY_S yb240), Y'_a15 (isY_S yb240), Y'_a16 (isY_S yb240), Y'_a17 (isY_S yb240), Y'_a18 (isY_S yb240), Y'_sw (isY_S yb240), yC', e2, bb', not_false_eq_true]
      refine ih (c + 1) s g v4 (by omega) hy hp hg fun s' q1 q2 => K s' q1 ?_
      have : atC n w t c = [] := by unfold atC; rw [hk]; rfl
      rw [this]
      exact q2
    | false =>
      have bb' : bitS (yB (SY s 240) 5) (nI c) = nI 0 := bb.mpr hk
      cases hl : nLift n c t with
      | false =>
        simp (disch := omega) only [u_49_0, u_49_1, u_49_4, u_49_5, u_49_8, u_49_11, u_49_14, u_49_15, u_49_18, u_49_19, u_49_22, u_49_23, u_49_25, u_49_26, u_49_29, u_49_32, u_49_35, u_49_36, u_49_39, u_49_40, u_49_43, u_49_46, u_49_47, u_49_50, u_49_51, u_49_52, u_49_55, u_49_58, u_49_59, u_49_63, u_49_64, u_49_67, u_49_70, u_49_71, u_49_72, u_49_75, u_49_76, u_49_79, u_49_80, u_49_83, u_49_86, u_49_87, u_49_90, u_49_91, u_49_93, u_49_94, u_49_97, u_49_98, u_49_99, u_49_102, u_49_105, u_49_106, u_49_107, u_49_110, u_49_113, u_49_116, u_49_119, u_49_122, gI0, gIs, gR0, gRs, gF0, gFs, st0, st_i, st_r, st_f, st_n, st_s, true_and, and_true, ↓ifLeT, ↓ifLeF, ↓ifLtT, ↓ifLtF, ↓ifEqT, ↓ifEqF, if_tt, if_ff, if_pos, if_neg, nLe, nLt, nEq, nInT, nCl, pk_mul, nI_add, Nat.reduceAdd, s_cat_nil, s_cat_i, s_cat_r, s_cat_f, s_cat_l, tl_s, tl_n, cat_i, cat_r, cat_f, nb0, nb1, nbI, if_bI, if_bIr, Nat.zero_le, Nat.reduceLeDiff, S_g0_0, S_g0_1, S_g0_2, S_g0_3, S_g0_4, S_g0_5, S_g0_6, S_g0_7, S_g0_8, S_g0_9, S_g0_10, S_g0_11, S_g0_12, S_g0_13, S_g0_14, S_g1_0, S_g1_1, S_g1_2, S_g1_3, S_g1_4, S_g72_0, S_g72_1, S_g72_2, S_g239_0, S_g239_1, S_g239_2, S_g239_3, S_g239_4, S_g239_5, S_g239_6, S_a23, S_n23, S_a282, S_n282, S_a300, S_n300, S_n73, S_n299, Y'_ob (isY_S yb240), Y'_g0 (isY_S yb240), Y'_g1 (isY_S yb240), Y'_g2 (isY_S yb240), Y'_g3 (isY_S yb240), Y'_g4 (isY_S yb240), Y'_g5 (isY_S yb240), Y'_g6 (isY_S yb240), Y'_g7 (isY_S yb240), Y'_g8 (isY_S yb240), Y'_g9 (isY_S yb240), Y'_g10 (isY_S yb240), Y'_g11 (isY_S yb240), Y'_g12 (isY_S yb240), Y'_g13 (isY_S yb240), Y'_g14 (isY_S yb240), Y'_g15 (isY_S yb240), Y'_g16 (isY_S yb240), Y'_g17 (isY_S yb240), Y'_g18 (isY_S yb240), Y'_g19 (isY_S yb240), Y'_a7 (isY_S yb240), Y'_a8 (isY_S yb240), Y'_a10 (isY_S yb240), Y'_a11 (isY_S yb240), Y'_a12 (isY_S yb240), Y'_a13 (isY_S yb240), Y'_a14 (isY_S yb240), Y'_a15 (isY_S yb240), Y'_a16 (isY_S yb240), Y'_a17 (isY_S yb240), Y'_a18 (isY_S yb240), Y'_sw (isY_S yb240), yC', e2, bb', not_true_eq_false, e4, hl, iBf]
        refine ih (c + 1) s g v4 (by omega) hy hp hg fun s' q1 q2 => K s' q1 ?_
        have : atC n w t c = [] := by unfold atC; rw [hk, hl]; rfl
        rw [this]
        exact q2
      | true =>
        simp (disch := omega) only [u_49_0, u_49_1, u_49_4, u_49_5, u_49_8, u_49_11, u_49_14, u_49_15, u_49_18, u_49_19, u_49_22, u_49_23, u_49_25, u_49_26, u_49_29, u_49_32, u_49_35, u_49_36, u_49_39, u_49_40, u_49_43, u_49_46, u_49_47, u_49_50, u_49_51, u_49_52, u_49_55, u_49_58, u_49_59, u_49_63, u_49_64, u_49_67, u_49_70, u_49_71, u_49_72, u_49_75, u_49_76, u_49_79, u_49_80, u_49_83, u_49_86, u_49_87, u_49_90, u_49_91, u_49_93, u_49_94, u_49_97, u_49_98, u_49_99, u_49_102, u_49_105, u_49_106, u_49_107, u_49_110, u_49_113, u_49_116, u_49_119, u_49_122, gI0, gIs, gR0, gRs, gF0, gFs, st0, st_i, st_r, st_f, st_n, st_s, true_and, and_true, ↓ifLeT, ↓ifLeF, ↓ifLtT, ↓ifLtF, ↓ifEqT, ↓ifEqF, if_tt, if_ff, if_pos, if_neg, nLe, nLt, nEq, nInT, nCl, pk_mul, nI_add, Nat.reduceAdd, s_cat_nil, s_cat_i, s_cat_r, s_cat_f, s_cat_l, tl_s, tl_n, cat_i, cat_r, cat_f, nb0, nb1, nbI, if_bI, if_bIr, Nat.zero_le, Nat.reduceLeDiff, S_g0_0, S_g0_1, S_g0_2, S_g0_3, S_g0_4, S_g0_5, S_g0_6, S_g0_7, S_g0_8, S_g0_9, S_g0_10, S_g0_11, S_g0_12, S_g0_13, S_g0_14, S_g1_0, S_g1_1, S_g1_2, S_g1_3, S_g1_4, S_g72_0, S_g72_1, S_g72_2, S_g239_0, S_g239_1, S_g239_2, S_g239_3, S_g239_4, S_g239_5, S_g239_6, S_a23, S_n23, S_a282, S_n282, S_a300, S_n300, S_n73, S_n299, Y'_ob (isY_S yb240), Y'_g0 (isY_S yb240), Y'_g1 (isY_S yb240), Y'_g2 (isY_S yb240), Y'_g3 (isY_S yb240), Y'_g4 (isY_S yb240), Y'_g5 (isY_S yb240), Y'_g6 (isY_S yb240), Y'_g7 (isY_S yb240), Y'_g8 (isY_S yb240), Y'_g9 (isY_S yb240), Y'_g10 (isY_S yb240), Y'_g11 (isY_S yb240), Y'_g12 (isY_S yb240), Y'_g13 (isY_S yb240), Y'_g14 (isY_S yb240), Y'_g15 (isY_S yb240), Y'_g16 (isY_S yb240), Y'_g17 (isY_S yb240), Y'_g18 (isY_S yb240), Y'_g19 (isY_S yb240), Y'_a7 (isY_S yb240), Y'_a8 (isY_S yb240), Y'_a10 (isY_S yb240), Y'_a11 (isY_S yb240), Y'_a12 (isY_S yb240), Y'_a13 (isY_S yb240), Y'_a14 (isY_S yb240), Y'_a15 (isY_S yb240), Y'_a16 (isY_S yb240), Y'_a17 (isY_S yb240), Y'_a18 (isY_S yb240), Y'_sw (isY_S yb240), yC', e2, bb', not_true_eq_false, e4, hl, iBt, nI10, reduceIte]
        refine place_lp hb hn wr1 hcl ht wr2 ((restN n w t c).length + 1) 0 s g (Nat.zero_add _) hy hp hg fun s1 v4 f1 f2 f3 => ?_
        simp (disch := omega) only [u_49_0, u_49_1, u_49_4, u_49_5, u_49_8, u_49_11, u_49_14, u_49_15, u_49_18, u_49_19, u_49_22, u_49_23, u_49_25, u_49_26, u_49_29, u_49_32, u_49_35, u_49_36, u_49_39, u_49_40, u_49_43, u_49_46, u_49_47, u_49_50, u_49_51, u_49_52, u_49_55, u_49_58, u_49_59, u_49_63, u_49_64, u_49_67, u_49_70, u_49_71, u_49_72, u_49_75, u_49_76, u_49_79, u_49_80, u_49_83, u_49_86, u_49_87, u_49_90, u_49_91, u_49_93, u_49_94, u_49_97, u_49_98, u_49_99, u_49_102, u_49_105, u_49_106, u_49_107, u_49_110, u_49_113, u_49_116, u_49_119, u_49_122, gI0, gIs, gR0, gRs, gF0, gFs, st0, st_i, st_r, st_f, st_n, st_s, true_and, and_true, ↓ifLeT, ↓ifLeF, ↓ifLtT, ↓ifLtF, ↓ifEqT, ↓ifEqF, if_tt, if_ff, if_pos, if_neg, nLe, nLt, nEq, nInT, nCl, pk_mul, nI_add, Nat.reduceAdd, s_cat_nil, s_cat_i, s_cat_r, s_cat_f, s_cat_l, tl_s, tl_n, cat_i, cat_r, cat_f, nb0, nb1, nbI, if_bI, if_bIr, Nat.zero_le, Nat.reduceLeDiff]
        refine ih (c + 1) s1 _ v4 (by omega) (Y_frB f1 hy) (by rw [f2]; exact hp) f3 fun s' q1 q2 => K s' (frB_t f1 q1) ?_
        have : atC n w t c = (List.range' 0 ((restN n w t c).length + 1)).map (fun j => (t, putL (restN n w t) c j t)) := by
          unfold atC
          rw [hk, hl, if_pos (show (!false && true) = true from rfl), List.range_eq_range']
          rfl
        rw [this]
        exact q2
theorem wfL31 (hn : wfN n) (c t : Nat) (h : t ∈ nL n c) : t < 31 := wfL_31 hn.1 hn.2.2.2 c t h
theorem m_tryPlaces (hb : cb b) (hn : wfN n) {w t : Nat} (ht : t < nF n 3) (hw : holdN (nL n) t = some w) (hy : RY (SY s 240) n) (hg : RChB (SO s b) g) (K : ∀ s', frB b s s' → RChB (SO s' b) (pickB n ((List.range (nF n 2)).flatMap (atC n w t)) g) → Q none (pS s' h)) : MT (d + 7) 49 [.ref 239, .ref b, .int (nI t)] (pS s h) Q := by
  have h8 := hn.1.2.1
  obtain ⟨w4, wm⟩ := hold_some hw
  have len8 : ∀ q, (nL n q).length ≤ 8 := fun q => wfL_len hn.1 hn.2.2.2 q
  rw [MT_go (by decide) _ _ _ (Nat.le_of_ble_eq_true rfl), show s_entry 49 [.ref 239, .ref b, .int (nI t)] = [.ref 239, .ref b, .int (nI t), s_no, s_no] from rfl]
  have hp := hy.2.2.2
  have e1 : ∀ Q, MT (d + 6) 20 [.ref 275, .ref (240 + 13)] (pS s h) Q ↔ Q none (pS (wSP s 275 (yP (SY s 240))) h) := fun Q => by
    have e := m_copyP (d := d + 5) (b := 275) (c := 240 + 13) (p := SP s 275) (q := yP (SY s 240)) (h := pS s h) (Q := Q) (isP_YS yb240) (by omega)
    rw [S_P pb275, S_P pb275, wSP_eta] at e
    exact e
  have hix := idx_lt wm
  have e2 : ∀ Q, MT (d + 6) 24 [.ref 275, .int (nI t)] (pS (wSP s 275 (yP (SY s 240))) h) Q ↔ Q none (pS (wSP s 275 (rmvP (yP (SY s 240)) w (idxN t (nL n w)))) h) := fun Q => by
    have e := tr_P (d := d + 6) (s := wSP s 275 (yP (SY s 240))) (h := h) (Q := Q) pb275 (fun h Q => m_remove (d := d + 3) (b := 275) (p := yP (SY s 240)) (h := h) (Q := Q) (t := nI t) (c := w) (j := idxN t (nL n w)) (RPl_okS hp len8) w4 (by rw [(hp w w4).1]; exact hix) (by rw [fnd_rel hp (wfL31 hn) (by omega), hw]; rfl))
    rw [wSP_tw] at e
    exact e
  have ob : ∀ s : tS, ∀ q : Nat, (oO (pS s h) 275 fun c' _ => c' = q) ↔ 3 = q := fun s q => P'_ob (isP_S pb275)
  simp (disch := omega) only [u_49_0, u_49_1, u_49_4, u_49_5, u_49_8, u_49_11, u_49_14, u_49_15, u_49_18, u_49_19, u_49_22, u_49_23, u_49_25, u_49_26, u_49_29, u_49_32, u_49_35, u_49_36, u_49_39, u_49_40, u_49_43, u_49_46, u_49_47, u_49_50, u_49_51, u_49_52, u_49_55, u_49_58, u_49_59, u_49_63, u_49_64, u_49_67, u_49_70, u_49_71, u_49_72, u_49_75, u_49_76, u_49_79, u_49_80, u_49_83, u_49_86, u_49_87, u_49_90, u_49_91, u_49_93, u_49_94, u_49_97, u_49_98, u_49_99, u_49_102, u_49_105, u_49_106, u_49_107, u_49_110, u_49_113, u_49_116, u_49_119, u_49_122, gI0, gIs, gR0, gRs, gF0, gFs, st0, st_i, st_r, st_f, st_n, st_s, true_and, and_true, ↓ifLeT, ↓ifLeF, ↓ifLtT, ↓ifLtF, ↓ifEqT, ↓ifEqF, if_tt, if_ff, if_pos, if_neg, nLe, nLt, nEq, nInT, nCl, pk_mul, nI_add, Nat.reduceAdd, s_cat_nil, s_cat_i, s_cat_r, s_cat_f, s_cat_l, tl_s, tl_n, cat_i, cat_r, cat_f, nb0, nb1, nbI, if_bI, if_bIr, Nat.zero_le, Nat.reduceLeDiff, S_g0_0, S_g0_1, S_g0_2, S_g0_3, S_g0_4, S_g0_5, S_g0_6, S_g0_7, S_g0_8, S_g0_9, S_g0_10, S_g0_11, S_g0_12, S_g0_13, S_g0_14, S_g1_0, S_g1_1, S_g1_2, S_g1_3, S_g1_4, S_g72_0, S_g72_1, S_g72_2, S_g239_0, S_g239_1, S_g239_2, S_g239_3, S_g239_4, S_g239_5, S_g239_6, S_a23, S_n23, S_a282, S_n282, S_a300, S_n300, S_n73, S_n299, Y'_ob (isY_S yb240), Y'_g0 (isY_S yb240), Y'_g1 (isY_S yb240), Y'_g2 (isY_S yb240), Y'_g3 (isY_S yb240), Y'_g4 (isY_S yb240), Y'_g5 (isY_S yb240), Y'_g6 (isY_S yb240), Y'_g7 (isY_S yb240), Y'_g8 (isY_S yb240), Y'_g9 (isY_S yb240), Y'_g10 (isY_S yb240), Y'_g11 (isY_S yb240), Y'_g12 (isY_S yb240), Y'_g13 (isY_S yb240), Y'_g14 (isY_S yb240), Y'_g15 (isY_S yb240), Y'_g16 (isY_S yb240), Y'_g17 (isY_S yb240), Y'_g18 (isY_S yb240), Y'_g19 (isY_S yb240), Y'_a7 (isY_S yb240), Y'_a8 (isY_S yb240), Y'_a10 (isY_S yb240), Y'_a11 (isY_S yb240), Y'_a12 (isY_S yb240), Y'_a13 (isY_S yb240), Y'_a14 (isY_S yb240), Y'_a15 (isY_S yb240), Y'_a16 (isY_S yb240), Y'_a17 (isY_S yb240), Y'_a18 (isY_S yb240), Y'_sw (isY_S yb240), ob, e1, e2]
  have fr : frB b s (wSP s 275 (rmvP (yP (SY s 240)) w (idxN t (nL n w)))) := frB_P (by decide)
  refine crane_lp hb hn ht wm (nF n 2) 0 _ g s_no (Nat.zero_add _) (Y_frB fr hy) (by rw [SPw]; exact RP_rmv hp w4 wm len8) hg fun s' q1 q2 => K s' (frB_t fr q1) ?_
  rw [List.range_eq_range']
  exact q2
theorem task_lp (hb : cb b) (hn : wfN n) {v1 v2 : Value} : ∀ m t s g, t + m = nF n 3 → RY (SY s 240) n → RChB (SO s b) g → (∀ s', frB b s s' → RChB (SO s' b) (pickB n ((List.range' t m).flatMap (atT n)) g) → Q none (pS s' h)) → WP (d + 7) 48 59 [.ref 239, v1, v2, .ref b, .int (nI (andn (tbits (nL n)) (bitsN (nDone n) (nF n 3)))), .int (nI t)] [] (pS s h) (0, 0) Q := by
  intro m
  induction m with
  | zero =>
    intro t s g ht hy hg K
    have h8 := hn.1.2.1
    have yT' : yT (SY s 240) = nF n 3 := hy.1.2.2.2.1
    rw [u_48_59]
    simp (disch := omega) only [u_48_0, u_48_1, u_48_4, u_48_7, u_48_8, u_48_9, u_48_12, u_48_13, u_48_16, u_48_17, u_48_18, u_48_19, u_48_22, u_48_25, u_48_28, u_48_29, u_48_30, u_48_31, u_48_34, u_48_35, u_48_38, u_48_41, u_48_44, u_48_45, u_48_48, u_48_51, u_48_52, u_48_53, u_48_54, u_48_56, u_48_57, u_48_61, u_48_62, u_48_65, u_48_68, u_48_71, u_48_73, u_48_75, u_48_76, u_48_77, u_48_78, u_48_81, u_48_82, u_48_83, u_48_85, u_48_88, u_48_91, u_48_94, gI0, gIs, gR0, gRs, gF0, gFs, st0, st_i, st_r, st_f, st_n, st_s, true_and, and_true, ↓ifLeT, ↓ifLeF, ↓ifLtT, ↓ifLtF, ↓ifEqT, ↓ifEqF, if_tt, if_ff, if_pos, if_neg, nLe, nLt, nEq, nInT, nCl, pk_mul, nI_add, Nat.reduceAdd, s_cat_nil, s_cat_i, s_cat_r, s_cat_f, s_cat_l, tl_s, tl_n, cat_i, cat_r, cat_f, nb0, nb1, nbI, if_bI, if_bIr, Nat.zero_le, Nat.reduceLeDiff, S_g0_0, S_g0_1, S_g0_2, S_g0_3, S_g0_4, S_g0_5, S_g0_6, S_g0_7, S_g0_8, S_g0_9, S_g0_10, S_g0_11, S_g0_12, S_g0_13, S_g0_14, S_g1_0, S_g1_1, S_g1_2, S_g1_3, S_g1_4, S_g72_0, S_g72_1, S_g72_2, S_g239_0, S_g239_1, S_g239_2, S_g239_3, S_g239_4, S_g239_5, S_g239_6, S_a23, S_n23, S_a282, S_n282, S_a300, S_n300, S_n73, S_n299, Y'_ob (isY_S yb240), Y'_g0 (isY_S yb240), Y'_g1 (isY_S yb240), Y'_g2 (isY_S yb240), Y'_g3 (isY_S yb240), Y'_g4 (isY_S yb240), Y'_g5 (isY_S yb240), Y'_g6 (isY_S yb240), Y'_g7 (isY_S yb240), Y'_g8 (isY_S yb240), Y'_g9 (isY_S yb240), Y'_g10 (isY_S yb240), Y'_g11 (isY_S yb240), Y'_g12 (isY_S yb240), Y'_g13 (isY_S yb240), Y'_g14 (isY_S yb240), Y'_g15 (isY_S yb240), Y'_g16 (isY_S yb240), Y'_g17 (isY_S yb240), Y'_g18 (isY_S yb240), Y'_g19 (isY_S yb240), Y'_a7 (isY_S yb240), Y'_a8 (isY_S yb240), Y'_a10 (isY_S yb240), Y'_a11 (isY_S yb240), Y'_a12 (isY_S yb240), Y'_a13 (isY_S yb240), Y'_a14 (isY_S yb240), Y'_a15 (isY_S yb240), Y'_a16 (isY_S yb240), Y'_a17 (isY_S yb240), Y'_a18 (isY_S yb240), Y'_sw (isY_S yb240), yT']
    exact K s frB_r hg
  | succ m ih =>
    intro t s g ht hy hg K
    have h8 := hn.1.2.1
    have htT : t < nF n 3 := by omega
    have yT' : yT (SY s 240) = nF n 3 := hy.1.2.2.2.1
    have tb : tbits (nL n) < 2 ^ 31 := tbits_lt (k := 31) (fun c t h => wfL31 hn c t h)
    have hbit := i_bit0 (m := andn (tbits (nL n)) (bitsN (nDone n) (nF n 3))) (c := t) andn_lt (by omega)
    rw [andn_tb tb, bitsN_tb, decide_eq_true htT, Bool.true_and] at hbit
    rw [List.range'_succ, List.flatMap_cons, pickB_app] at K
    rw [u_48_59]
    have skip : atT n t = [] → (nI (andn (tbits (nL n)) (bitsN (nDone n) (nF n 3))) >>> (nI t &&& 31) &&& nI 1 = nI 0) → WP (d + 7) 48 61 [.ref 239, v1, v2, .ref b, .int (nI (andn (tbits (nL n)) (bitsN (nDone n) (nF n 3)))), .int (nI t)] [.int (nI t)] (pS s h) (0, 0) Q := by
      intro h1 h2
      simp (disch := omega) only [u_48_0, u_48_1, u_48_4, u_48_7, u_48_8, u_48_9, u_48_12, u_48_13, u_48_16, u_48_17, u_48_18, u_48_19, u_48_22, u_48_25, u_48_28, u_48_29, u_48_30, u_48_31, u_48_34, u_48_35, u_48_38, u_48_41, u_48_44, u_48_45, u_48_48, u_48_51, u_48_52, u_48_53, u_48_54, u_48_56, u_48_57, u_48_61, u_48_62, u_48_65, u_48_68, u_48_71, u_48_73, u_48_75, u_48_76, u_48_77, u_48_78, u_48_81, u_48_82, u_48_83, u_48_85, u_48_88, u_48_91, u_48_94, gI0, gIs, gR0, gRs, gF0, gFs, st0, st_i, st_r, st_f, st_n, st_s, true_and, and_true, ↓ifLeT, ↓ifLeF, ↓ifLtT, ↓ifLtF, ↓ifEqT, ↓ifEqF, if_tt, if_ff, if_pos, if_neg, nLe, nLt, nEq, nInT, nCl, pk_mul, nI_add, Nat.reduceAdd, s_cat_nil, s_cat_i, s_cat_r, s_cat_f, s_cat_l, tl_s, tl_n, cat_i, cat_r, cat_f, nb0, nb1, nbI, if_bI, if_bIr, Nat.zero_le, Nat.reduceLeDiff, S_g0_0, S_g0_1, S_g0_2, S_g0_3, S_g0_4, S_g0_5, S_g0_6, S_g0_7, S_g0_8, S_g0_9, S_g0_10, S_g0_11, S_g0_12, S_g0_13, S_g0_14, S_g1_0, S_g1_1, S_g1_2, S_g1_3, S_g1_4, S_g72_0, S_g72_1, S_g72_2, S_g239_0, S_g239_1, S_g239_2, S_g239_3, S_g239_4, S_g239_5, S_g239_6, S_a23, S_n23, S_a282, S_n282, S_a300, S_n300, S_n73, S_n299, Y'_ob (isY_S yb240), Y'_g0 (isY_S yb240), Y'_g1 (isY_S yb240), Y'_g2 (isY_S yb240), Y'_g3 (isY_S yb240), Y'_g4 (isY_S yb240), Y'_g5 (isY_S yb240), Y'_g6 (isY_S yb240), Y'_g7 (isY_S yb240), Y'_g8 (isY_S yb240), Y'_g9 (isY_S yb240), Y'_g10 (isY_S yb240), Y'_g11 (isY_S yb240), Y'_g12 (isY_S yb240), Y'_g13 (isY_S yb240), Y'_g14 (isY_S yb240), Y'_g15 (isY_S yb240), Y'_g16 (isY_S yb240), Y'_g17 (isY_S yb240), Y'_g18 (isY_S yb240), Y'_g19 (isY_S yb240), Y'_a7 (isY_S yb240), Y'_a8 (isY_S yb240), Y'_a10 (isY_S yb240), Y'_a11 (isY_S yb240), Y'_a12 (isY_S yb240), Y'_a13 (isY_S yb240), Y'_a14 (isY_S yb240), Y'_a15 (isY_S yb240), Y'_a16 (isY_S yb240), Y'_a17 (isY_S yb240), Y'_a18 (isY_S yb240), Y'_sw (isY_S yb240), yT', h2]
      refine ih (t + 1) s g (by omega) hy hg fun s' q1 q2 => K s' q1 ?_
      rw [h1]
      exact q2
    simp (disch := omega) only [u_48_59, gI0, gIs, gR0, gRs, gF0, gFs, st0, st_i, st_r, st_f, st_n, st_s, true_and, and_true, ↓ifLeT, ↓ifLeF, ↓ifLtT, ↓ifLtF, ↓ifEqT, ↓ifEqF, if_tt, if_ff, if_pos, if_neg, nLe, nLt, nEq, nInT, nCl, pk_mul, nI_add, Nat.reduceAdd, s_cat_nil, s_cat_i, s_cat_r, s_cat_f, s_cat_l, tl_s, tl_n, cat_i, cat_r, cat_f, nb0, nb1, nbI, if_bI, if_bIr, Nat.zero_le, Nat.reduceLeDiff]
    cases hd : nDone n t with
    | true =>
      refine skip (by unfold atT; rw [hd]; rfl) (hbit.mpr (by rw [hd]; simp))
    | false =>
      cases hh : holdN (nL n) t with
      | none =>
        refine skip (by unfold atT; rw [hd, hh]; rfl) (hbit.mpr ?_)
        have : (tbits (nL n)).testBit t = false := by
          cases hx : (tbits (nL n)).testBit t with
          | false => rfl
          | true =>
            obtain ⟨c, hc, hm⟩ := tbits_tb.mp hx
            exact absurd hm (hold_none hh hc)
        rw [this]; rfl
      | some w =>
        have h2 : ¬ (nI (andn (tbits (nL n)) (bitsN (nDone n) (nF n 3))) >>> (nI t &&& 31) &&& nI 1 = nI 0) := fun q => by
          have := hbit.mp q
          rw [hd, tbits_tb.mpr ⟨w, hold_some hh⟩] at this
          cases this
        simp (disch := omega) only [u_48_0, u_48_1, u_48_4, u_48_7, u_48_8, u_48_9, u_48_12, u_48_13, u_48_16, u_48_17, u_48_18, u_48_19, u_48_22, u_48_25, u_48_28, u_48_29, u_48_30, u_48_31, u_48_34, u_48_35, u_48_38, u_48_41, u_48_44, u_48_45, u_48_48, u_48_51, u_48_52, u_48_53, u_48_54, u_48_56, u_48_57, u_48_61, u_48_62, u_48_65, u_48_68, u_48_71, u_48_73, u_48_75, u_48_76, u_48_77, u_48_78, u_48_81, u_48_82, u_48_83, u_48_85, u_48_88, u_48_91, u_48_94, gI0, gIs, gR0, gRs, gF0, gFs, st0, st_i, st_r, st_f, st_n, st_s, true_and, and_true, ↓ifLeT, ↓ifLeF, ↓ifLtT, ↓ifLtF, ↓ifEqT, ↓ifEqF, if_tt, if_ff, if_pos, if_neg, nLe, nLt, nEq, nInT, nCl, pk_mul, nI_add, Nat.reduceAdd, s_cat_nil, s_cat_i, s_cat_r, s_cat_f, s_cat_l, tl_s, tl_n, cat_i, cat_r, cat_f, nb0, nb1, nbI, if_bI, if_bIr, Nat.zero_le, Nat.reduceLeDiff, S_g0_0, S_g0_1, S_g0_2, S_g0_3, S_g0_4, S_g0_5, S_g0_6, S_g0_7, S_g0_8, S_g0_9, S_g0_10, S_g0_11, S_g0_12, S_g0_13, S_g0_14, S_g1_0, S_g1_1, S_g1_2, S_g1_3, S_g1_4, S_g72_0, S_g72_1, S_g72_2, S_g239_0, S_g239_1, S_g239_2, S_g239_3, S_g239_4, S_g239_5, S_g239_6, S_a23, S_n23, S_a282, S_n282, S_a300, S_n300, S_n73, S_n299, Y'_ob (isY_S yb240), Y'_g0 (isY_S yb240), Y'_g1 (isY_S yb240), Y'_g2 (isY_S yb240), Y'_g3 (isY_S yb240), Y'_g4 (isY_S yb240), Y'_g5 (isY_S yb240), Y'_g6 (isY_S yb240), Y'_g7 (isY_S yb240), Y'_g8 (isY_S yb240), Y'_g9 (isY_S yb240), Y'_g10 (isY_S yb240), Y'_g11 (isY_S yb240), Y'_g12 (isY_S yb240), Y'_g13 (isY_S yb240), Y'_g14 (isY_S yb240), Y'_g15 (isY_S yb240), Y'_g16 (isY_S yb240), Y'_g17 (isY_S yb240), Y'_g18 (isY_S yb240), Y'_g19 (isY_S yb240), Y'_a7 (isY_S yb240), Y'_a8 (isY_S yb240), Y'_a10 (isY_S yb240), Y'_a11 (isY_S yb240), Y'_a12 (isY_S yb240), Y'_a13 (isY_S yb240), Y'_a14 (isY_S yb240), Y'_a15 (isY_S yb240), Y'_a16 (isY_S yb240), Y'_a17 (isY_S yb240), Y'_a18 (isY_S yb240), Y'_sw (isY_S yb240), yT', h2, S_ob239]
        refine m_tryPlaces hb hn htT hh hy hg fun s1 f1 f2 => ?_
        simp (disch := omega) only [u_48_0, u_48_1, u_48_4, u_48_7, u_48_8, u_48_9, u_48_12, u_48_13, u_48_16, u_48_17, u_48_18, u_48_19, u_48_22, u_48_25, u_48_28, u_48_29, u_48_30, u_48_31, u_48_34, u_48_35, u_48_38, u_48_41, u_48_44, u_48_45, u_48_48, u_48_51, u_48_52, u_48_53, u_48_54, u_48_56, u_48_57, u_48_61, u_48_62, u_48_65, u_48_68, u_48_71, u_48_73, u_48_75, u_48_76, u_48_77, u_48_78, u_48_81, u_48_82, u_48_83, u_48_85, u_48_88, u_48_91, u_48_94, gI0, gIs, gR0, gRs, gF0, gFs, st0, st_i, st_r, st_f, st_n, st_s, true_and, and_true, ↓ifLeT, ↓ifLeF, ↓ifLtT, ↓ifLtF, ↓ifEqT, ↓ifEqF, if_tt, if_ff, if_pos, if_neg, nLe, nLt, nEq, nInT, nCl, pk_mul, nI_add, Nat.reduceAdd, s_cat_nil, s_cat_i, s_cat_r, s_cat_f, s_cat_l, tl_s, tl_n, cat_i, cat_r, cat_f, nb0, nb1, nbI, if_bI, if_bIr, Nat.zero_le, Nat.reduceLeDiff]
        refine ih (t + 1) s1 _ (by omega) (Y_frB f1 hy) f2 fun s' q1 q2 => K s' (frB_t f1 q1) ?_
        have : atT n t = (List.range (nF n 2)).flatMap (atC n w t) := by unfold atT; rw [hd, hh]; rfl
        rw [this]
        exact q2
theorem frQ_B {s' : tS} (hf : frB b s s') : frQ b s s' := ⟨fun k _ => by rw [hf.1], by rw [hf.1], fun k _ => by rw [hf.1], fun q _ a => hf.2.1 q a, hf.2.2.1, fun r a _ => hf.2.2.2.1 r a⟩
theorem m_findBetter (hb : cb b) (hn : wfN n) (hy : RY (SY s 24) n) (K1 : eB (SO s b) 1 = true → Q none (pS s h)) (K2 : eB (SO s b) 1 = false → ∀ s', frQ b s s' → RChB (SO s' b) (betterN n) → eB (SO s' b) 1 = true → Q none (pS s' h)) : MT (d + 8) 48 [.ref 239, .ref 24, .int (oI1 (lastN 300 n)), .ref b] (pS s h) Q := by
  rw [MT_go (by decide) _ _ _ (Nat.le_of_ble_eq_true rfl), show s_entry 48 [.ref 239, .ref 24, .int (oI1 (lastN 300 n)), .ref b] = [.ref 239, .ref 24, .int (oI1 (lastN 300 n)), .ref b, s_no, s_no] from rfl]
  cases hk : eB (SO s b) 1 with
  | true =>
    simp (disch := omega) only [u_48_0, u_48_1, u_48_4, u_48_7, u_48_8, u_48_9, u_48_12, u_48_13, u_48_16, u_48_17, u_48_18, u_48_19, u_48_22, u_48_25, u_48_28, u_48_29, u_48_30, u_48_31, u_48_34, u_48_35, u_48_38, u_48_41, u_48_44, u_48_45, u_48_48, u_48_51, u_48_52, u_48_53, u_48_54, u_48_56, u_48_57, u_48_61, u_48_62, u_48_65, u_48_68, u_48_71, u_48_73, u_48_75, u_48_76, u_48_77, u_48_78, u_48_81, u_48_82, u_48_83, u_48_85, u_48_88, u_48_91, u_48_94, gI0, gIs, gR0, gRs, gF0, gFs, st0, st_i, st_r, st_f, st_n, st_s, true_and, and_true, ↓ifLeT, ↓ifLeF, ↓ifLtT, ↓ifLtF, ↓ifEqT, ↓ifEqF, if_tt, if_ff, if_pos, if_neg, nLe, nLt, nEq, nInT, nCl, pk_mul, nI_add, Nat.reduceAdd, s_cat_nil, s_cat_i, s_cat_r, s_cat_f, s_cat_l, tl_s, tl_n, cat_i, cat_r, cat_f, nb0, nb1, nbI, if_bI, if_bIr, Nat.zero_le, Nat.reduceLeDiff, C_g1 hb, hk, iBt, nI10, reduceIte]
    exact K1 hk
  | false =>
    have e1 := fun Q => S_copyY (d := d + 5) (s := s) (h := h) (Q := Q) yb240 yb24 (by decide)
    have e2 := fun (s : tS) x Q => S_open (d := d + 5) (s := s) (h := h) (x := x) (Q := Q) hb
    have hy1 : ∀ o, RY (SY (wSO (wSY s 240 (cpY (SY s 240) (SY s 24))) b o) 240) n := fun o => RY_cp hy
    have ob : ∀ s : tS, ∀ q : Nat, (oO (pS s h) (240 + 13) fun c' _ => c' = q) ↔ 3 = q := fun s q => P'_ob (isP_YS yb240)
    have e3 : ∀ o Q, MT (d + 7) 29 [.ref (240 + 13)] (pS (wSO (wSY s 240 (cpY (SY s 240) (SY s 24))) b o) h) Q ↔ Q (some (.int (nI (tbits (nL n))))) (pS (wSO (wSY s 240 (cpY (SY s 240) (SY s 24))) b o) h) := fun o Q => by
      have hok := RY_ok hn (hy1 o)
      have e := tl_YP (d := d + 7) (s := wSO (wSY s 240 (cpY (SY s 240) (SY s 24))) b o) (h := h) (Q := Q) yb240 (fun h Q => m_bits (d := d + 6) (b := 240 + 13) (p := yP (SY (wSO (wSY s 240 (cpY (SY s 240) (SY s 24))) b o) 240)) (h := h) (Q := Q) hok.2.2.1)
      rw [bitsP_rel (hy1 o).2.2.2 (fun c t h => wfL31 hn c t h)] at e
      exact e
    have tb : tbits (nL n) < 2 ^ 31 := tbits_lt (k := 31) (fun c t h => wfL31 hn c t h)
    have f6 : ∀ o, yB (SY (wSO (wSY s 240 (cpY (SY s 240) (SY s 24))) b o) 240) 6 = nI (bitsN (nDone n) (nF n 3)) := fun o => (hy1 o).1.2.2.2.2.2.2
    have ea : nI (tbits (nL n)) &&& (nI (bitsN (nDone n) (nF n 3)) ^^^ (-1)) = nI (andn (tbits (nL n)) (bitsN (nDone n) (nF n 3))) := i_andn tb
    have fr : ∀ o, frQ b s (wSO (wSY s 240 (cpY (SY s 240) (SY s 24))) b o) := fun o => frQ_t (frQ_Y (Or.inl rfl)) (frQ_O (Or.inl rfl))
    cases hl : lastN 300 n with
    | none =>
      have e4 : oI1 none = -1 := rfl
      simp (disch := omega) only [u_48_0, u_48_1, u_48_4, u_48_7, u_48_8, u_48_9, u_48_12, u_48_13, u_48_16, u_48_17, u_48_18, u_48_19, u_48_22, u_48_25, u_48_28, u_48_29, u_48_30, u_48_31, u_48_34, u_48_35, u_48_38, u_48_41, u_48_44, u_48_45, u_48_48, u_48_51, u_48_52, u_48_53, u_48_54, u_48_56, u_48_57, u_48_61, u_48_62, u_48_65, u_48_68, u_48_71, u_48_73, u_48_75, u_48_76, u_48_77, u_48_78, u_48_81, u_48_82, u_48_83, u_48_85, u_48_88, u_48_91, u_48_94, gI0, gIs, gR0, gRs, gF0, gFs, st0, st_i, st_r, st_f, st_n, st_s, true_and, and_true, ↓ifLeT, ↓ifLeF, ↓ifLtT, ↓ifLtF, ↓ifEqT, ↓ifEqF, if_tt, if_ff, if_pos, if_neg, nLe, nLt, nEq, nInT, nCl, pk_mul, nI_add, Nat.reduceAdd, s_cat_nil, s_cat_i, s_cat_r, s_cat_f, s_cat_l, tl_s, tl_n, cat_i, cat_r, cat_f, nb0, nb1, nbI, if_bI, if_bIr, Nat.zero_le, Nat.reduceLeDiff, S_g0_0, S_g0_1, S_g0_2, S_g0_3, S_g0_4, S_g0_5, S_g0_6, S_g0_7, S_g0_8, S_g0_9, S_g0_10, S_g0_11, S_g0_12, S_g0_13, S_g0_14, S_g1_0, S_g1_1, S_g1_2, S_g1_3, S_g1_4, S_g72_0, S_g72_1, S_g72_2, S_g239_0, S_g239_1, S_g239_2, S_g239_3, S_g239_4, S_g239_5, S_g239_6, S_a23, S_n23, S_a282, S_n282, S_a300, S_n300, S_n73, S_n299, Y'_ob (isY_S yb240), Y'_g0 (isY_S yb240), Y'_g1 (isY_S yb240), Y'_g2 (isY_S yb240), Y'_g3 (isY_S yb240), Y'_g4 (isY_S yb240), Y'_g5 (isY_S yb240), Y'_g6 (isY_S yb240), Y'_g7 (isY_S yb240), Y'_g8 (isY_S yb240), Y'_g9 (isY_S yb240), Y'_g10 (isY_S yb240), Y'_g11 (isY_S yb240), Y'_g12 (isY_S yb240), Y'_g13 (isY_S yb240), Y'_g14 (isY_S yb240), Y'_g15 (isY_S yb240), Y'_g16 (isY_S yb240), Y'_g17 (isY_S yb240), Y'_g18 (isY_S yb240), Y'_g19 (isY_S yb240), Y'_a7 (isY_S yb240), Y'_a8 (isY_S yb240), Y'_a10 (isY_S yb240), Y'_a11 (isY_S yb240), Y'_a12 (isY_S yb240), Y'_a13 (isY_S yb240), Y'_a14 (isY_S yb240), Y'_a15 (isY_S yb240), Y'_a16 (isY_S yb240), Y'_a17 (isY_S yb240), Y'_a18 (isY_S yb240), Y'_sw (isY_S yb240), C_g1 hb, C_ob hb, hk, iBf, e1, e4, e2, ob, e3, f6, ea]
      refine task_lp hb hn (nF n 3) 0 _ (301, none) (Nat.zero_add _) (hy1 _) (by rw [SOw]; exact ⟨n300, Nat.le_refl _, rfl⟩) fun s' q1 q2 => K2 hk s' (frQ_t (fr _) (frQ_B q1)) ?_ ?_
      · unfold betterN
        rw [hl, List.range_eq_range']
        exact q2
      · rw [q1.2.2.2.2, SOw]; rfl
    | some m =>
      have hm := (lastN_iff.mp hl).1
      have e4 : ¬ oI1 (some m) = -1 := oI1_neg hm
      simp (disch := omega) only [u_48_0, u_48_1, u_48_4, u_48_7, u_48_8, u_48_9, u_48_12, u_48_13, u_48_16, u_48_17, u_48_18, u_48_19, u_48_22, u_48_25, u_48_28, u_48_29, u_48_30, u_48_31, u_48_34, u_48_35, u_48_38, u_48_41, u_48_44, u_48_45, u_48_48, u_48_51, u_48_52, u_48_53, u_48_54, u_48_56, u_48_57, u_48_61, u_48_62, u_48_65, u_48_68, u_48_71, u_48_73, u_48_75, u_48_76, u_48_77, u_48_78, u_48_81, u_48_82, u_48_83, u_48_85, u_48_88, u_48_91, u_48_94, gI0, gIs, gR0, gRs, gF0, gFs, st0, st_i, st_r, st_f, st_n, st_s, true_and, and_true, ↓ifLeT, ↓ifLeF, ↓ifLtT, ↓ifLtF, ↓ifEqT, ↓ifEqF, if_tt, if_ff, if_pos, if_neg, nLe, nLt, nEq, nInT, nCl, pk_mul, nI_add, Nat.reduceAdd, s_cat_nil, s_cat_i, s_cat_r, s_cat_f, s_cat_l, tl_s, tl_n, cat_i, cat_r, cat_f, nb0, nb1, nbI, if_bI, if_bIr, Nat.zero_le, Nat.reduceLeDiff, S_g0_0, S_g0_1, S_g0_2, S_g0_3, S_g0_4, S_g0_5, S_g0_6, S_g0_7, S_g0_8, S_g0_9, S_g0_10, S_g0_11, S_g0_12, S_g0_13, S_g0_14, S_g1_0, S_g1_1, S_g1_2, S_g1_3, S_g1_4, S_g72_0, S_g72_1, S_g72_2, S_g239_0, S_g239_1, S_g239_2, S_g239_3, S_g239_4, S_g239_5, S_g239_6, S_a23, S_n23, S_a282, S_n282, S_a300, S_n300, S_n73, S_n299, Y'_ob (isY_S yb240), Y'_g0 (isY_S yb240), Y'_g1 (isY_S yb240), Y'_g2 (isY_S yb240), Y'_g3 (isY_S yb240), Y'_g4 (isY_S yb240), Y'_g5 (isY_S yb240), Y'_g6 (isY_S yb240), Y'_g7 (isY_S yb240), Y'_g8 (isY_S yb240), Y'_g9 (isY_S yb240), Y'_g10 (isY_S yb240), Y'_g11 (isY_S yb240), Y'_g12 (isY_S yb240), Y'_g13 (isY_S yb240), Y'_g14 (isY_S yb240), Y'_g15 (isY_S yb240), Y'_g16 (isY_S yb240), Y'_g17 (isY_S yb240), Y'_g18 (isY_S yb240), Y'_g19 (isY_S yb240), Y'_a7 (isY_S yb240), Y'_a8 (isY_S yb240), Y'_a10 (isY_S yb240), Y'_a11 (isY_S yb240), Y'_a12 (isY_S yb240), Y'_a13 (isY_S yb240), Y'_a14 (isY_S yb240), Y'_a15 (isY_S yb240), Y'_a16 (isY_S yb240), Y'_a17 (isY_S yb240), Y'_a18 (isY_S yb240), Y'_sw (isY_S yb240), C_g1 hb, C_ob hb, hk, iBf, e1, e4, e2, ob, e3, f6, ea, reduceIte]
      refine task_lp hb hn (nF n 3) 0 _ (m, none) (Nat.zero_add _) (hy1 _) (by rw [SOw]; exact ⟨rfl, by show m ≤ 301; omega, rfl⟩) fun s' q1 q2 => K2 hk s' (frQ_t (fr _) (frQ_B q1)) ?_ ?_
      · unfold betterN
        rw [hl, List.range_eq_range']
        exact q2
      · rw [q1.2.2.2.2, SOw]; rfl
end BET
