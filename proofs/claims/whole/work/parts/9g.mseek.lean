/-! the reference's search: what is found, and all plans -/
def frT (m m' : tM) : Prop := (∀ k, k ≠ 30 → kI m' k = kI m k) ∧ kB m' = kB m ∧ ∀ q, q ≠ 327 → q ≠ 329 → q ≠ 330 → q ≠ 331 → kA m' q = kA m q
theorem frT_r {m : tM} : frT m m := ⟨fun _ _ => rfl, rfl, fun _ _ _ _ _ => rfl⟩
theorem frT_t {m m' m2 : tM} (h1 : frT m m') (h2 : frT m' m2) : frT m m2 := ⟨fun k hk => (h2.1 k hk).trans (h1.1 k hk), h2.2.1.trans h1.2.1, fun q a b c e => (h2.2.2 q a b c e).trans (h1.2.2 q a b c e)⟩
theorem frT_M {m m' : tM} (h : frM 329 m m') : frT m m' := ⟨fun k _ => h.1 k, h.2.1, fun q a b _ _ => h.2.2 q b a⟩
theorem frT_Z {m m' : tM} (h : frT m m') : frZ m m' := ⟨fun k hk => h.1 k (by unfold keyI at hk; omega), h.2.1, fun q hq => h.2.2 q (by unfold keyA at hq; omega) (by unfold keyA at hq; omega) (by unfold keyA at hq; omega) (by unfold keyA at hq; omega)⟩
theorem frT_30 {m : tM} {x : Int32} : frT m (xI m 30 x) := ⟨fun k hk => if_neg hk, rfl, fun _ _ _ _ _ => rfl⟩
theorem frT_330 {m : tM} {f : Nat → Int32} : frT m (xA m 330 f) := ⟨fun _ _ => rfl, rfl, fun q _ _ h _ => if_neg h⟩
theorem frT_331 {m : tM} {f : Nat → Int32} : frT m (xA m 331 f) := ⟨fun _ _ => rfl, rfl, fun q _ _ _ h => if_neg h⟩
def FL (f : Nat → Int32) (C : Nat) (l : tL) : Prop := ∀ c, c < C → f (9 * c) = nI (l c).length ∧ ∀ k, k < (l c).length → f (9 * c + (1 + k)) = nI ((l c).getD k 0)
def MF (m : tM) (C : Nat) (g : tG) : Prop := match g.2 with
  | none => g.1 = 301 ∧ kI m 30 = nI 1000000
  | some (v, l) => g.1 = v ∧ v ≤ 300 ∧ kI m 30 = nI v ∧ FL (kA m 331) C l ∧ ∀ c, (l c).length ≤ 8
theorem MF_fr {m m' : tM} {C : Nat} {g : tG} (h : MF m C g) (h30 : kI m' 30 = kI m 30) (h331 : kA m' 331 = kA m 331) : MF m' C g := by
  unfold MF at *
  cases hg : g.2 with
  | none => simp only [hg] at h ⊢; exact ⟨h.1, h30.trans h.2⟩
  | some p =>
    obtain ⟨v, l⟩ := p
    simp only [hg] at h ⊢
    obtain ⟨a, b, c, e, f⟩ := h
    exact ⟨a, b, h30.trans c, by rw [h331]; exact e, f⟩
theorem RR_L {f f' : Nat → Int32} {n : tN} {l l' : tL} {c : Nat} (h4 : nF n 2 ≤ 4) (h8 : ∀ q, (l q).length ≤ 8) (hr : RR f (jL n l)) (he : ∀ j, j < 2 + 12 * c + 3 ∨ 2 + 12 * c + 12 ≤ j → f' j = f j) (hl : ∀ q, q ≠ c → l' q = l q) (hc : c < nF n 2) (hs : f' (2 + 12 * c + 3) = nI (l' c).length ∧ ∀ k, k < (l' c).length → f' (2 + 12 * c + (4 + k)) = nI ((l' c).getD k 0)) : RR f' (jL n l') := by
  obtain ⟨r0, r1, rc, rt⟩ := hr
  refine ⟨(he 0 (by omega)).trans r0, (he 1 (by omega)).trans r1, fun q hq => ?_, fun t ht => ?_⟩
  · have hq : q < nF n 2 := hq
    obtain ⟨a, b, d, e, k⟩ := rc q hq
    by_cases g : q = c
    · subst g
      exact ⟨(he _ (by omega)).trans a, (he _ (by omega)).trans b, (he _ (by omega)).trans d, hs.1, hs.2⟩
    · have := h8 q
      have e1 : nL (jL n l') q = l q := hl q g
      unfold RRc
      rw [e1]
      exact ⟨(he _ (by omega)).trans a, (he _ (by omega)).trans b, (he _ (by omega)).trans d, (he _ (by omega)).trans e, fun i hi => (he _ (by omega)).trans (k i hi)⟩
  · have ht : t < nF n 3 := ht
    obtain ⟨a, b, d, e, k, u, v⟩ := rt t ht
    exact ⟨(he _ (by omega)).trans a, (he _ (by omega)).trans b, (he _ (by omega)).trans d, (he _ (by omega)).trans e, (he _ (by omega)).trans k, (he _ (by omega)).trans u, (he _ (by omega)).trans v⟩
theorem RR_app {f : Nat → Int32} {n : tN} {l : tL} {c t : Nat} (h4 : nF n 2 ≤ 4) (h8 : ∀ q, (l q).length ≤ 8) (h7 : (l c).length ≤ 7) (hc : c < nF n 2) (hr : RR f (jL n l)) : RR (upd (upd f (2 + 12 * c + (4 + (l c).length)) (nI t)) (2 + 12 * c + 3) (nI ((l c).length + 1))) (jL n (appF l c t)) := by
  obtain ⟨-, -, -, -, hk⟩ := hr.2.2.1 c hc
  refine RR_L (c := c) h4 h8 hr (fun j hj => by rw [upd_ne (by omega), upd_ne (by omega)]) (fun q hq => app_ne hq) hc ⟨?_, fun k hk2 => ?_⟩
  · rw [app_at, List.length_append]
    exact if_pos rfl
  · rw [app_at] at hk2 ⊢
    have hk2 : k < (l c).length + 1 := by rw [List.length_append] at hk2; exact hk2
    rw [upd_ne (by omega)]
    by_cases e : k = (l c).length
    · subst e
      rw [List.getD_eq_getElem?_getD, List.getElem?_append_right (Nat.le_refl _), Nat.sub_self]
      exact if_pos rfl
    · rw [upd_ne (by omega), List.getD_eq_getElem?_getD, List.getElem?_append_left (by omega), ← List.getD_eq_getElem?_getD]
      exact hk k (by show k < (l c).length; omega)
theorem RR_drp {f : Nat → Int32} {n : tN} {l : tL} {c t : Nat} (h4 : nF n 2 ≤ 4) (h8 : ∀ q, (appF l c t q).length ≤ 8) (hc : c < nF n 2) (hr : RR f (jL n (appF l c t))) : RR (upd f (2 + 12 * c + 3) (nI (l c).length)) (jL n l) := by
  obtain ⟨-, -, -, -, hk⟩ := hr.2.2.1 c hc
  refine RR_L (c := c) h4 h8 hr (fun j hj => by rw [upd_ne (by omega)]) (fun q hq => (app_ne hq).symm) hc ⟨if_pos rfl, fun k hk2 => ?_⟩
  rw [upd_ne (by omega)]
  have e : nL (jL n (appF l c t)) c = l c ++ [t] := app_at
  have := hk k (by rw [e, List.length_append]; omega)
  rw [e, List.getD_eq_getElem?_getD, List.getElem?_append_left hk2, ← List.getD_eq_getElem?_getD] at this
  exact this
section MSK
variable {b d : Nat} {m : tM} {h : sH} {Q : sQ} {n : tN} {l : tL} {g : tG}
theorem finds_in {R : Nat → Int32} {c : Nat} {v : Int32} (hb : rb b) (hc : c < 4) : ∀ q k m, k + q = 8 → (∀ j, j < 106 → kA m b j = R j) → ((∀ c', c' < c → ∀ i, i < 9 → kA m 331 (9 * c' + i) = R (2 + 12 * c' + (3 + i))) ∧ ∀ i, i < k + 1 → kA m 331 (9 * c + i) = R (2 + 12 * c + (3 + i))) → (∀ f, (∀ c', c' < c + 1 → ∀ i, i < 9 → f (9 * c' + i) = R (2 + 12 * c' + (3 + i))) → WP (d + 1) 219 68 [.ref 317, .ref b, .int v, .int (nI c), .int (nI 8)] [] (pM (xA m 331 f) h) (0, 0) Q) → WP (d + 1) 219 31 [.ref 317, .ref b, .int v, .int (nI c), .int (nI k)] [] (pM m h) (0, 0) Q := by
  intro q
  have b31 : b ≠ 331 := by rcases hb with e | e | e | e | e <;> omega
  induction q with
  | zero =>
    intro k m hk hR hf K
    have e : k = 8 := by omega
    subst e
    rw [u_219_31]
    simp (disch := omega) only [u_219_0, u_219_1, u_219_2, u_219_5, u_219_6, u_219_8, u_219_9, u_219_12, u_219_13, u_219_16, u_219_17, u_219_20, u_219_21, u_219_22, u_219_23, u_219_26, u_219_27, u_219_28, u_219_29, u_219_33, u_219_35, u_219_38, u_219_39, u_219_42, u_219_43, u_219_46, u_219_47, u_219_48, u_219_50, u_219_51, u_219_52, u_219_53, u_219_54, u_219_56, u_219_57, u_219_60, u_219_61, u_219_62, u_219_65, u_219_71, u_219_74, gI0, gIs, gR0, gRs, gF0, gFs, st0, st_i, st_r, st_f, st_n, st_s, true_and, and_true, ↓ifLeT, ↓ifLeF, ↓ifLtT, ↓ifLtF, ↓ifEqT, ↓ifEqF, if_tt, if_ff, if_pos, if_neg, nLe, nLt, nEq, nInT, nCl, pk_mul, nI_add, Nat.reduceAdd, s_cat_nil, s_cat_i, s_cat_r, s_cat_f, s_cat_l, tl_s, tl_n, cat_i, cat_r, cat_f, nb0, nb1, nbI, if_bI, if_bIr, Nat.zero_le, Nat.reduceLeDiff]
    have := K (kA m 331) fun c' hc' i hi => by
      by_cases e : c' = c
      · rw [e]; exact hf.2 i hi
      · exact hf.1 c' (by omega) i hi
    rw [xA_eta] at this
    exact this
  | succ q ih =>
    intro k m hk hR hf K
    have i1 : vp_in (nI (9 * c + 1 + k)) 36 := (nIn (by omega)).mpr (by omega)
    have c1 : (nI (9 * c + 1 + k)).toNatClampNeg = 9 * c + 1 + k := nCl (by omega)
    rw [u_219_31]
    simp (disch := omega) only [u_219_0, u_219_1, u_219_2, u_219_5, u_219_6, u_219_8, u_219_9, u_219_12, u_219_13, u_219_16, u_219_17, u_219_20, u_219_21, u_219_22, u_219_23, u_219_26, u_219_27, u_219_28, u_219_29, u_219_33, u_219_35, u_219_38, u_219_39, u_219_42, u_219_43, u_219_46, u_219_47, u_219_48, u_219_50, u_219_51, u_219_52, u_219_53, u_219_54, u_219_56, u_219_57, u_219_60, u_219_61, u_219_62, u_219_65, u_219_71, u_219_74, gI0, gIs, gR0, gRs, gF0, gFs, st0, st_i, st_r, st_f, st_n, st_s, true_and, and_true, ↓ifLeT, ↓ifLeF, ↓ifLtT, ↓ifLtF, ↓ifEqT, ↓ifEqF, if_tt, if_ff, if_pos, if_neg, nLe, nLt, nEq, nInT, nCl, pk_mul, nI_add, Nat.reduceAdd, s_cat_nil, s_cat_i, s_cat_r, s_cat_f, s_cat_l, tl_s, tl_n, cat_i, cat_r, cat_f, nb0, nb1, nbI, if_bI, if_bIr, Nat.zero_le, Nat.reduceLeDiff, M_g0, M_g1, M_g2, M_g3, M_g4, M_g5, M_g6, M_g7, M_g8, M_g9, M_g10, M_g11, M_g12, M_g13, M_g14, M_g15, M_g16, M_g17, M_g18, M_g19, M_g20, M_g21, M_g22, M_g23, M_g24, M_g25, M_g26, M_g27, M_g28, M_g29, M_g30, M_g31, M_g32, M_g33, M_g34, M_g35, M_g36, M_g37, M_g38, M_g39, M_g40, M_g41, m_lAt, m_cAt, M_r hb, M_w331, i1, c1]
    refine ih (k + 1) _ (by omega) (fun j hj => by rw [kA_ne b31]; exact hR j hj) ⟨fun c' hc' i hi => ?_, fun i hi => ?_⟩ fun f hf => by rw [xA_tw]; exact K f hf
    · rw [kA_eq, upd_ne (by omega)]
      exact hf.1 c' hc' i hi
    · rw [kA_eq]
      by_cases e : i = k + 1
      · subst e
        have : upd (kA m 331) (9 * c + 1 + k) (kA m b (2 + 12 * c + (4 + k))) (9 * c + (k + 1)) = kA m b (2 + 12 * c + (4 + k)) := if_pos (by omega)
        rw [this, hR _ (by omega), show 4 + k = 3 + (k + 1) by omega]
      · rw [upd_ne (by omega)]
        exact hf.2 i (by omega)
theorem r_finds {v : Int32} (hb : rb b) (hn : wfN n) (hr : RR (kA m b) n) (K : ∀ f, FL f (nF n 2) (nL n) → Q none (pM (xA (xI m 30 v) 331 f) h)) : MT (d + 2) 219 [.ref 317, .ref b, .int v] (pM m h) Q := by
  have b31 : b ≠ 331 := by rcases hb with e | e | e | e | e <;> omega
  have h4 := hn.1.1
  rw [MT_go (by decide) _ _ _ (Nat.le_of_ble_eq_true rfl), show s_entry 219 [.ref 317, .ref b, .int v] = [.ref 317, .ref b, .int v, s_no, s_no] from rfl]
  have lp : ∀ q c m1 w, c + q = 4 → (∀ j, j < 106 → kA m1 b j = kA m b j) → (∀ c', c' < c → ∀ i, i < 9 → kA m1 331 (9 * c' + i) = kA m b (2 + 12 * c' + (3 + i))) → (∀ f, (∀ c', c' < 4 → ∀ i, i < 9 → f (9 * c' + i) = kA m b (2 + 12 * c' + (3 + i))) → Q none (pM (xA m1 331 f) h)) → WP (d + 1) 219 7 [.ref 317, .ref b, .int v, .int (nI c), w] [] (pM m1 h) (0, 0) Q := by
    intro q
    induction q with
    | zero =>
      intro c m1 w hc hR hf K
      have e : c = 4 := by omega
      subst e
      rw [u_219_7]
      simp (disch := omega) only [u_219_0, u_219_1, u_219_2, u_219_5, u_219_6, u_219_8, u_219_9, u_219_12, u_219_13, u_219_16, u_219_17, u_219_20, u_219_21, u_219_22, u_219_23, u_219_26, u_219_27, u_219_28, u_219_29, u_219_33, u_219_35, u_219_38, u_219_39, u_219_42, u_219_43, u_219_46, u_219_47, u_219_48, u_219_50, u_219_51, u_219_52, u_219_53, u_219_54, u_219_56, u_219_57, u_219_60, u_219_61, u_219_62, u_219_65, u_219_68, u_219_71, u_219_74, gI0, gIs, gR0, gRs, gF0, gFs, st0, st_i, st_r, st_f, st_n, st_s, true_and, and_true, ↓ifLeT, ↓ifLeF, ↓ifLtT, ↓ifLtF, ↓ifEqT, ↓ifEqF, if_tt, if_ff, if_pos, if_neg, nLe, nLt, nEq, nInT, nCl, pk_mul, nI_add, Nat.reduceAdd, s_cat_nil, s_cat_i, s_cat_r, s_cat_f, s_cat_l, tl_s, tl_n, cat_i, cat_r, cat_f, nb0, nb1, nbI, if_bI, if_bIr, Nat.zero_le, Nat.reduceLeDiff]
      have := K (kA m1 331) hf
      rw [xA_eta] at this
      exact this
    | succ q ih =>
      intro c m1 w hc hR hf K
      have i1 : vp_in (nI (9 * c)) 36 := (nIn (by omega)).mpr (by omega)
      have c1 : (nI (9 * c)).toNatClampNeg = 9 * c := nCl (by omega)
      rw [u_219_7]
      simp (disch := omega) only [u_219_0, u_219_1, u_219_2, u_219_5, u_219_6, u_219_8, u_219_9, u_219_12, u_219_13, u_219_16, u_219_17, u_219_20, u_219_21, u_219_22, u_219_23, u_219_26, u_219_27, u_219_28, u_219_29, u_219_33, u_219_35, u_219_38, u_219_39, u_219_42, u_219_43, u_219_46, u_219_47, u_219_48, u_219_50, u_219_51, u_219_52, u_219_53, u_219_54, u_219_56, u_219_57, u_219_60, u_219_61, u_219_62, u_219_65, u_219_68, u_219_71, u_219_74, gI0, gIs, gR0, gRs, gF0, gFs, st0, st_i, st_r, st_f, st_n, st_s, true_and, and_true, ↓ifLeT, ↓ifLeF, ↓ifLtT, ↓ifLtF, ↓ifEqT, ↓ifEqF, if_tt, if_ff, if_pos, if_neg, nLe, nLt, nEq, nInT, nCl, pk_mul, nI_add, Nat.reduceAdd, s_cat_nil, s_cat_i, s_cat_r, s_cat_f, s_cat_l, tl_s, tl_n, cat_i, cat_r, cat_f, nb0, nb1, nbI, if_bI, if_bIr, Nat.zero_le, Nat.reduceLeDiff, M_g0, M_g1, M_g2, M_g3, M_g4, M_g5, M_g6, M_g7, M_g8, M_g9, M_g10, M_g11, M_g12, M_g13, M_g14, M_g15, M_g16, M_g17, M_g18, M_g19, M_g20, M_g21, M_g22, M_g23, M_g24, M_g25, M_g26, M_g27, M_g28, M_g29, M_g30, M_g31, M_g32, M_g33, M_g34, M_g35, M_g36, M_g37, M_g38, M_g39, M_g40, M_g41, m_lAt, m_cAt, M_r hb, M_w331, i1, c1]
      refine finds_in (d := d) (R := kA m b) hb (by omega) 8 0 _ rfl (fun j hj => by rw [kA_ne b31]; exact hR j hj) ⟨fun c' hc' i hi => ?_, fun i hi => ?_⟩ fun f hf2 => ?_
      · rw [kA_eq, upd_ne (by omega)]
        exact hf c' hc' i hi
      · have e : i = 0 := by omega
        subst e
        rw [kA_eq]
        show (if 9 * c + 0 = 9 * c then _ else _) = _
        rw [if_pos (by omega)]
        exact hR (2 + 12 * c + 3) (by omega)
      · simp (disch := omega) only [u_219_0, u_219_1, u_219_2, u_219_5, u_219_6, u_219_8, u_219_9, u_219_12, u_219_13, u_219_16, u_219_17, u_219_20, u_219_21, u_219_22, u_219_23, u_219_26, u_219_27, u_219_28, u_219_29, u_219_33, u_219_35, u_219_38, u_219_39, u_219_42, u_219_43, u_219_46, u_219_47, u_219_48, u_219_50, u_219_51, u_219_52, u_219_53, u_219_54, u_219_56, u_219_57, u_219_60, u_219_61, u_219_62, u_219_65, u_219_68, u_219_71, u_219_74, gI0, gIs, gR0, gRs, gF0, gFs, st0, st_i, st_r, st_f, st_n, st_s, true_and, and_true, ↓ifLeT, ↓ifLeF, ↓ifLtT, ↓ifLtF, ↓ifEqT, ↓ifEqF, if_tt, if_ff, if_pos, if_neg, nLe, nLt, nEq, nInT, nCl, pk_mul, nI_add, Nat.reduceAdd, s_cat_nil, s_cat_i, s_cat_r, s_cat_f, s_cat_l, tl_s, tl_n, cat_i, cat_r, cat_f, nb0, nb1, nbI, if_bI, if_bIr, Nat.zero_le, Nat.reduceLeDiff]
        refine ih (c + 1) _ _ (by omega) (fun j hj => by rw [kA_ne b31, kA_ne b31]; exact hR j hj) (fun c' hc' i hi => by rw [kA_eq]; exact hf2 c' hc' i hi) fun f' hf' => ?_
        rw [xA_tw, xA_tw]
        exact K f' hf'
  simp (disch := omega) only [u_219_0, u_219_1, u_219_2, u_219_5, u_219_6, u_219_8, u_219_9, u_219_12, u_219_13, u_219_16, u_219_17, u_219_20, u_219_21, u_219_22, u_219_23, u_219_26, u_219_27, u_219_28, u_219_29, u_219_33, u_219_35, u_219_38, u_219_39, u_219_42, u_219_43, u_219_46, u_219_47, u_219_48, u_219_50, u_219_51, u_219_52, u_219_53, u_219_54, u_219_56, u_219_57, u_219_60, u_219_61, u_219_62, u_219_65, u_219_68, u_219_71, u_219_74, gI0, gIs, gR0, gRs, gF0, gFs, st0, st_i, st_r, st_f, st_n, st_s, true_and, and_true, ↓ifLeT, ↓ifLeF, ↓ifLtT, ↓ifLtF, ↓ifEqT, ↓ifEqF, if_tt, if_ff, if_pos, if_neg, nLe, nLt, nEq, nInT, nCl, pk_mul, nI_add, Nat.reduceAdd, s_cat_nil, s_cat_i, s_cat_r, s_cat_f, s_cat_l, tl_s, tl_n, cat_i, cat_r, cat_f, nb0, nb1, nbI, if_bI, if_bIr, Nat.zero_le, Nat.reduceLeDiff, M_s30]
  refine lp 4 0 _ _ rfl (fun j _ => rfl) (fun c' hc' => absurd hc' (Nat.not_lt_zero c')) fun f hf => K f fun c hc => ?_
  obtain ⟨-, -, -, a, k⟩ := hr.2.2.1 c hc
  have l8 := wfL_len hn.1 hn.2.2.2 c
  refine ⟨(hf c (by omega) 0 (by decide)).trans a, fun i hi => ?_⟩
  rw [hf c (by omega) (1 + i) (by omega), show 3 + (1 + i) = 4 + i by omega]
  exact k i hi
theorem r_judges (hn : wfN (jL n l)) (hg : MG m n) (hr : RR (kA m 330) (jL n l)) (hf : MF m (nF n 2) g) (K : ∀ m', frT m m' → kA m' 330 = kA m 330 → MF m' (nF n 2) (wgN n g l) → Q none (pM m' h)) : MT (d + 11) 220 [.ref 317] (pM m h) Q := by
  rw [MT_go (by decide) _ _ _ (Nat.le_of_ble_eq_true rfl), show s_entry 220 [.ref 317] = [.ref 317, s_no] from rfl]
  have l8 : ∀ c, (l c).length ≤ 8 := fun c => wfL_len hn.1 hn.2.2.2 c
  have hg' : MG m (jL n l) := hg
  have fin : ∀ (F v : Nat), v < F → F ≤ 1000000 → kI m 30 = nI F → v ≤ 300 → lastM F (jL n l) = v → wgN n g l = (v, some (v, l)) → ∀ m1, frM 329 m m1 → WP (d + 10) 220 12 [.ref 317, s_no] [.int (nI v)] (pM m1 h) (0, 0) Q := fun F v hv hF h30 hv3 _ hw m1 f1 => by
    have h30' : kI m1 30 = nI F := (f1.1 30).trans h30
    have hr1 : RR (kA m1 330) (jL n l) := by rw [f1.2.2 330 (by decide) (by decide)]; exact hr
    simp (disch := omega) only [u_220_0, u_220_1, u_220_2, u_220_5, u_220_6, u_220_9, u_220_12, u_220_13, u_220_14, u_220_15, u_220_18, u_220_21, u_220_22, u_220_23, u_220_26, u_220_27, u_220_30, gI0, gIs, gR0, gRs, gF0, gFs, st0, st_i, st_r, st_f, st_n, st_s, true_and, and_true, ↓ifLeT, ↓ifLeF, ↓ifLtT, ↓ifLtF, ↓ifEqT, ↓ifEqF, if_tt, if_ff, if_pos, if_neg, nLe, nLt, nEq, nInT, nCl, pk_mul, nI_add, Nat.reduceAdd, s_cat_nil, s_cat_i, s_cat_r, s_cat_f, s_cat_l, tl_s, tl_n, cat_i, cat_r, cat_f, nb0, nb1, nbI, if_bI, if_bIr, Nat.zero_le, Nat.reduceLeDiff, M_ob, M_g0, M_g1, M_g2, M_g3, M_g4, M_g5, M_g6, M_g7, M_g8, M_g9, M_g10, M_g11, M_g12, M_g13, M_g14, M_g15, M_g16, M_g17, M_g18, M_g19, M_g20, M_g21, M_g22, M_g23, M_g24, M_g25, M_g26, M_g27, M_g28, M_g29, M_g30, M_g31, M_g32, M_g33, M_g34, M_g35, M_g36, M_g37, M_g38, M_g39, M_g40, M_g41, h30']
    refine r_finds (d := d + 8) rb330 hn hr1 fun f hf => ?_
    simp (disch := omega) only [u_220_0, u_220_1, u_220_2, u_220_5, u_220_6, u_220_9, u_220_12, u_220_13, u_220_14, u_220_15, u_220_18, u_220_21, u_220_22, u_220_23, u_220_26, u_220_27, u_220_30, gI0, gIs, gR0, gRs, gF0, gFs, st0, st_i, st_r, st_f, st_n, st_s, true_and, and_true, ↓ifLeT, ↓ifLeF, ↓ifLtT, ↓ifLtF, ↓ifEqT, ↓ifEqF, if_tt, if_ff, if_pos, if_neg, nLe, nLt, nEq, nInT, nCl, pk_mul, nI_add, Nat.reduceAdd, s_cat_nil, s_cat_i, s_cat_r, s_cat_f, s_cat_l, tl_s, tl_n, cat_i, cat_r, cat_f, nb0, nb1, nbI, if_bI, if_bIr, Nat.zero_le, Nat.reduceLeDiff]
    refine K _ (frT_t (frT_M f1) (frT_t frT_30 frT_331)) ?_ ?_
    · rw [kA_ne (by decide)]
      exact f1.2.2 330 (by decide) (by decide)
    · rw [hw]
      exact ⟨rfl, hv3, rfl, by rw [kA_eq]; exact hf, l8⟩
  have no : ∀ (F v : Nat), ¬ v < F → v ≤ 1000000 → F ≤ 1000000 → kI m 30 = nI F → wgN n g l = g → ∀ m1, frM 329 m m1 → WP (d + 10) 220 12 [.ref 317, s_no] [.int (nI v)] (pM m1 h) (0, 0) Q := fun F v hv hv1 hF h30 hw m1 f1 => by
    have h30' : kI m1 30 = nI F := (f1.1 30).trans h30
    simp (disch := omega) only [u_220_0, u_220_1, u_220_2, u_220_5, u_220_6, u_220_9, u_220_12, u_220_13, u_220_14, u_220_15, u_220_18, u_220_21, u_220_22, u_220_23, u_220_26, u_220_27, u_220_30, gI0, gIs, gR0, gRs, gF0, gFs, st0, st_i, st_r, st_f, st_n, st_s, true_and, and_true, ↓ifLeT, ↓ifLeF, ↓ifLtT, ↓ifLtF, ↓ifEqT, ↓ifEqF, if_tt, if_ff, if_pos, if_neg, nLe, nLt, nEq, nInT, nCl, pk_mul, nI_add, Nat.reduceAdd, s_cat_nil, s_cat_i, s_cat_r, s_cat_f, s_cat_l, tl_s, tl_n, cat_i, cat_r, cat_f, nb0, nb1, nbI, if_bI, if_bIr, Nat.zero_le, Nat.reduceLeDiff, M_ob, M_g0, M_g1, M_g2, M_g3, M_g4, M_g5, M_g6, M_g7, M_g8, M_g9, M_g10, M_g11, M_g12, M_g13, M_g14, M_g15, M_g16, M_g17, M_g18, M_g19, M_g20, M_g21, M_g22, M_g23, M_g24, M_g25, M_g26, M_g27, M_g28, M_g29, M_g30, M_g31, M_g32, M_g33, M_g34, M_g35, M_g36, M_g37, M_g38, M_g39, M_g40, M_g41, h30']
    refine K _ (frT_M f1) (f1.2.2 330 (by decide) (by decide)) ?_
    rw [hw]
    exact MF_fr hf (f1.1 30) (f1.2.2 331 (by decide) (by decide))
  unfold MF at hf
  cases h2 : g.2 with
  | none =>
    simp only [h2] at hf
    obtain ⟨e1, e2⟩ := hf
    simp (disch := omega) only [u_220_0, u_220_1, u_220_2, u_220_5, u_220_6, u_220_9, gI0, gIs, gR0, gRs, gF0, gFs, st0, st_i, st_r, st_f, st_n, st_s, true_and, and_true, ↓ifLeT, ↓ifLeF, ↓ifLtT, ↓ifLtF, ↓ifEqT, ↓ifEqF, if_tt, if_ff, if_pos, if_neg, nLe, nLt, nEq, nInT, nCl, pk_mul, nI_add, Nat.reduceAdd, s_cat_nil, s_cat_i, s_cat_r, s_cat_f, s_cat_l, tl_s, tl_n, cat_i, cat_r, cat_f, nb0, nb1, nbI, if_bI, if_bIr, Nat.zero_le, Nat.reduceLeDiff, M_ob, M_g0, M_g1, M_g2, M_g3, M_g4, M_g5, M_g6, M_g7, M_g8, M_g9, M_g10, M_g11, M_g12, M_g13, M_g14, M_g15, M_g16, M_g17, M_g18, M_g19, M_g20, M_g21, M_g22, M_g23, M_g24, M_g25, M_g26, M_g27, M_g28, M_g29, M_g30, M_g31, M_g32, M_g33, M_g34, M_g35, M_g36, M_g37, M_g38, M_g39, M_g40, M_g41, e2]
    refine r_last (d := d) (F := 1000000) rb330 (by decide) hn hg' hr (Nat.le_refl _) fun m1 f1 => ?_
    simp only [Option.toList, List.cons_append, List.nil_append]
    cases hl : lastN 300 (jL n l) with
    | none =>
      have e : lastM 1000000 (jL n l) = 1000000 := by unfold lastM; rw [hl]
      rw [e]
      refine no 1000000 1000000 (by omega) (Nat.le_refl _) (Nat.le_refl _) e2 ?_ m1 f1
      unfold wgN
      rw [e1]
      show (match lastN 300 (jL n l) with | some m => _ | none => g) = g
      rw [hl]
    | some v =>
      have v3 := last_le hl
      have e : lastM 1000000 (jL n l) = v := by unfold lastM; rw [hl]; exact if_pos (Or.inr (by omega))
      rw [e]
      refine fin 1000000 v (by omega) (Nat.le_refl _) e2 v3 e ?_ m1 f1
      unfold wgN
      rw [e1]
      show (match lastN 300 (jL n l) with | some m => _ | none => g) = _
      rw [hl]
  | some p =>
    obtain ⟨v0, l0⟩ := p
    simp only [h2] at hf
    obtain ⟨e1, e2, e3, e4, e5⟩ := hf
    simp (disch := omega) only [u_220_0, u_220_1, u_220_2, u_220_5, u_220_6, u_220_9, gI0, gIs, gR0, gRs, gF0, gFs, st0, st_i, st_r, st_f, st_n, st_s, true_and, and_true, ↓ifLeT, ↓ifLeF, ↓ifLtT, ↓ifLtF, ↓ifEqT, ↓ifEqF, if_tt, if_ff, if_pos, if_neg, nLe, nLt, nEq, nInT, nCl, pk_mul, nI_add, Nat.reduceAdd, s_cat_nil, s_cat_i, s_cat_r, s_cat_f, s_cat_l, tl_s, tl_n, cat_i, cat_r, cat_f, nb0, nb1, nbI, if_bI, if_bIr, Nat.zero_le, Nat.reduceLeDiff, M_ob, M_g0, M_g1, M_g2, M_g3, M_g4, M_g5, M_g6, M_g7, M_g8, M_g9, M_g10, M_g11, M_g12, M_g13, M_g14, M_g15, M_g16, M_g17, M_g18, M_g19, M_g20, M_g21, M_g22, M_g23, M_g24, M_g25, M_g26, M_g27, M_g28, M_g29, M_g30, M_g31, M_g32, M_g33, M_g34, M_g35, M_g36, M_g37, M_g38, M_g39, M_g40, M_g41, e3]
    refine r_last (d := d) (F := v0) rb330 (by decide) hn hg' hr (by omega) fun m1 f1 => ?_
    simp only [Option.toList, List.cons_append, List.nil_append]
    cases hk : lastK v0 (jL n l) with
    | some v =>
      obtain ⟨k1, k2⟩ := lastK_iff.mp hk
      have e : lastM v0 (jL n l) = v := lastM_some k2 (by omega) (Or.inr k1)
      rw [e]
      refine fin v0 v k1 (by omega) e3 (by omega) e ?_ m1 f1
      unfold wgN
      rw [e1, hk]
    | none =>
      have hw : wgN n g l = g := by unfold wgN; rw [e1, hk]
      have nl : ¬ lastM v0 (jL n l) < v0 := fun q => by
        have ev : lastM v0 (jL n l) = lastM v0 (jL n l) := rfl
        unfold lastM at q
        cases hl : lastN 300 (jL n l) with
        | none =>
          rw [hl] at q
          have q : (1000000 : Nat) < v0 := q
          omega
        | some v =>
          rw [hl] at q
          have q : (if v = 0 ∨ v < v0 then v else 1000000) < v0 := q
          split at q
          · have : lastK v0 (jL n l) = some v := lastK_iff.mpr ⟨q, (lastN_iff.mp hl).2⟩
            rw [hk] at this
            cases this
          · omega
      have l1 : lastM v0 (jL n l) ≤ 1000000 := by
        unfold lastM
        cases hl : lastN 300 (jL n l) with
        | none => exact Nat.le_refl _
        | some v =>
          have := last_le hl
          show (if v = 0 ∨ v < v0 then v else 1000000) ≤ 1000000
          split <;> omega
      exact no v0 _ nl l1 (by omega) e3 hw m1 f1
theorem cnt_rm {left : Nat → Bool} {t : Nat} (ht : left t = true) : ∀ T, t < T → sumN (fun u => (rmvF left t u).toNat) T + 1 = sumN (fun u => (left u).toNat) T
  | 0, h => absurd h (Nat.not_lt_zero t)
  | T + 1, h => by
    rw [sumN, sumN]
    by_cases e : t = T
    · subst e
      have : sumN (fun u => (rmvF left t u).toNat) t = sumN (fun u => (left u).toNat) t := sum_cong fun u hu => by
        unfold rmvF
        rw [if_neg (by omega)]
      rw [this, ht]
      unfold rmvF
      rw [if_pos rfl]
      rfl
    · have := cnt_rm ht T (by omega)
      have e2 : rmvF left t T = left T := if_neg (fun q => e q.symm)
      rw [e2]
      omega
theorem rmv_X {X t : Nat} (hX : X < 256) (ht : t < 8) : rmvF (fun t => X.testBit t) t = fun u => (andn X (2 ^ t)).testBit u := by
  funext u
  unfold rmvF
  rw [andn_tb (by omega), Nat.testBit_two_pow]
  by_cases e : u = t
  · rw [if_pos e, decide_eq_true e.symm]; simp
  · rw [if_neg e, decide_eq_false (fun q => e q.symm)]; simp
theorem andn_256 {X t : Nat} (hX : X < 256) : andn X (2 ^ t) < 256 := Nat.lt_pow_two_of_testBit (n := 8) _ fun i hi => by
  rw [andn_tb (by omega), Nat.testBit_lt_two_pow (Nat.lt_of_lt_of_le hX (Nat.pow_le_pow_right (n := 2) (by decide) hi))]
  rfl
end MSK
