/-! the reference's follow -/
def lb (a : Nat) : Prop := a = 331 ∨ a = 323
theorem M_l {a : Nat} {m : tM} {h : sH} {i : Int32} {f : Int32 → Prop} (hb : lb a) : aG (pM m h) a i f ↔ vp_in i 36 ∧ f (kA m a i.toNatClampNeg) := by
  rcases hb with e | e <;> subst e
  · exact M_a331
  · exact M_a323
section MFO
variable {a b d : Nat} {m : tM} {h : sH} {w x : Int32} {Q : sQ} {n : tN} {z : tQ} {l : tL}
theorem take_in {R : Nat → Int32} {c : Nat} (ha : lb a) (hb : rb b) (hc : c < 4) {f : Nat → Int32} : ∀ q k m g, k + q = 8 → (∀ j, j < 36 → kA m a j = R j) → ((∀ c', c' < c → ∀ i, i < 9 → g (2 + 12 * c' + (3 + i)) = R (9 * c' + i)) ∧ (∀ i, i < k + 1 → g (2 + 12 * c + (3 + i)) = R (9 * c + i)) ∧ ∀ j, (∀ c' i, c' < 4 → i < 9 → j ≠ 2 + 12 * c' + (3 + i)) → g j = f j) → (∀ g, (∀ c', c' < c + 1 → ∀ i, i < 9 → g (2 + 12 * c' + (3 + i)) = R (9 * c' + i)) → (∀ j, (∀ c' i, c' < 4 → i < 9 → j ≠ 2 + 12 * c' + (3 + i)) → g j = f j) → WP (d + 1) 194 57 [.ref 317, .ref a, .ref b, .int (nI c), .int (nI 8)] [] (pM (xA m b g) h) (0, 0) Q) → WP (d + 1) 194 23 [.ref 317, .ref a, .ref b, .int (nI c), .int (nI k)] [] (pM (xA m b g) h) (0, 0) Q := by
  intro q
  have ab : a ≠ b := by rcases ha with e | e <;> rcases hb with e2 | e2 | e2 | e2 | e2 <;> omega
  induction q with
  | zero =>
    intro k m g hk hR hf K
    have e : k = 8 := by omega
    subst e
    rw [u_194_23]
    simp (disch := omega) only [u_194_0, u_194_1, u_194_3, u_194_4, u_194_7, u_194_8, u_194_9, u_194_10, u_194_13, u_194_14, u_194_15, u_194_18, u_194_19, u_194_20, u_194_21, u_194_25, u_194_27, u_194_30, u_194_31, u_194_32, u_194_33, u_194_35, u_194_36, u_194_39, u_194_40, u_194_41, u_194_44, u_194_45, u_194_46, u_194_48, u_194_49, u_194_50, u_194_51, u_194_54, u_194_60, u_194_63, gI0, gIs, gR0, gRs, gF0, gFs, st0, st_i, st_r, st_f, st_n, st_s, true_and, and_true, ↓ifLeT, ↓ifLeF, ↓ifLtT, ↓ifLtF, ↓ifEqT, ↓ifEqF, if_tt, if_ff, if_pos, if_neg, nLe, nLt, nEq, nInT, nCl, pk_mul, nI_add, Nat.reduceAdd, s_cat_nil, s_cat_i, s_cat_r, s_cat_f, s_cat_l, tl_s, tl_n, cat_i, cat_r, cat_f, nb0, nb1, nbI, if_bI, if_bIr, Nat.zero_le, Nat.reduceLeDiff]
    refine K g (fun c' hc' i hi => ?_) hf.2.2
    by_cases e : c' = c
    · rw [e]; exact hf.2.1 i hi
    · exact hf.1 c' (by omega) i hi
  | succ q ih =>
    intro k m g hk hR hf K
    have e := hR (9 * c + 1 + k) (by omega)
    rw [u_194_23]
    simp (disch := omega) only [u_194_0, u_194_1, u_194_3, u_194_4, u_194_7, u_194_8, u_194_9, u_194_10, u_194_13, u_194_14, u_194_15, u_194_18, u_194_19, u_194_20, u_194_21, u_194_25, u_194_27, u_194_30, u_194_31, u_194_32, u_194_33, u_194_35, u_194_36, u_194_39, u_194_40, u_194_41, u_194_44, u_194_45, u_194_46, u_194_48, u_194_49, u_194_50, u_194_51, u_194_54, u_194_60, u_194_63, gI0, gIs, gR0, gRs, gF0, gFs, st0, st_i, st_r, st_f, st_n, st_s, true_and, and_true, ↓ifLeT, ↓ifLeF, ↓ifLtT, ↓ifLtF, ↓ifEqT, ↓ifEqF, if_tt, if_ff, if_pos, if_neg, nLe, nLt, nEq, nInT, nCl, pk_mul, nI_add, Nat.reduceAdd, s_cat_nil, s_cat_i, s_cat_r, s_cat_f, s_cat_l, tl_s, tl_n, cat_i, cat_r, cat_f, nb0, nb1, nbI, if_bI, if_bIr, Nat.zero_le, Nat.reduceLeDiff, m_lAt, m_cAt, M_l ha, M_rw hb, kA_ne ab, kA_eq, xA_tw, e]
    refine ih (k + 1) m _ (by omega) hR ⟨fun c' hc' i hi => ?_, fun i hi => ?_, fun j hj => ?_⟩ K
    · rw [upd_ne (by omega)]
      exact hf.1 c' hc' i hi
    · by_cases e : i = k + 1
      · subst e
        have : upd g (2 + 12 * c + (4 + k)) (R (9 * c + 1 + k)) (2 + 12 * c + (3 + (k + 1))) = R (9 * c + 1 + k) := if_pos (by omega)
        rw [this]
        congr 1
        omega
      · rw [upd_ne (by omega)]
        exact hf.2.1 i (by omega)
    · rw [upd_ne (by have := hj c (k + 1) hc (by omega); omega)]
      exact hf.2.2 j hj
theorem r_takesL (ha : lb a) (hb : rb b) (h4 : nF n 2 ≤ 4) (hr : RR (kA m b) n) (hfl : FL (kA m a) (nF n 2) l) (hl8 : ∀ c, (l c).length ≤ 8) (K : ∀ f, RR f (jL n l) → Q none (pM (xA m b f) h)) : MT (d + 2) 194 [.ref 317, .ref a, .ref b] (pM m h) Q := by
  have ab : a ≠ b := by rcases ha with e | e <;> rcases hb with e2 | e2 | e2 | e2 | e2 <;> omega
  rw [MT_go (by decide) _ _ _ (Nat.le_of_ble_eq_true rfl), show s_entry 194 [.ref 317, .ref a, .ref b] = [.ref 317, .ref a, .ref b, s_no, s_no] from rfl]
  have lp : ∀ q c g w, c + q = 4 → (∀ c', c' < c → ∀ i, i < 9 → g (2 + 12 * c' + (3 + i)) = kA m a (9 * c' + i)) → (∀ j, (∀ c' i, c' < 4 → i < 9 → j ≠ 2 + 12 * c' + (3 + i)) → g j = kA m b j) → WP (d + 1) 194 2 [.ref 317, .ref a, .ref b, .int (nI c), w] [] (pM (xA m b g) h) (0, 0) Q := by
    intro q
    induction q with
    | zero =>
      intro c g w hc h1 h2
      have e : c = 4 := by omega
      subst e
      rw [u_194_2]
      simp (disch := omega) only [u_194_0, u_194_1, u_194_3, u_194_4, u_194_7, u_194_8, u_194_9, u_194_10, u_194_13, u_194_14, u_194_15, u_194_18, u_194_19, u_194_20, u_194_21, u_194_25, u_194_27, u_194_30, u_194_31, u_194_32, u_194_33, u_194_35, u_194_36, u_194_39, u_194_40, u_194_41, u_194_44, u_194_45, u_194_46, u_194_48, u_194_49, u_194_50, u_194_51, u_194_54, u_194_57, u_194_60, u_194_63, gI0, gIs, gR0, gRs, gF0, gFs, st0, st_i, st_r, st_f, st_n, st_s, true_and, and_true, ↓ifLeT, ↓ifLeF, ↓ifLtT, ↓ifLtF, ↓ifEqT, ↓ifEqF, if_tt, if_ff, if_pos, if_neg, nLe, nLt, nEq, nInT, nCl, pk_mul, nI_add, Nat.reduceAdd, s_cat_nil, s_cat_i, s_cat_r, s_cat_f, s_cat_l, tl_s, tl_n, cat_i, cat_r, cat_f, nb0, nb1, nbI, if_bI, if_bIr, Nat.zero_le, Nat.reduceLeDiff]
      refine K g ?_
      obtain ⟨r0, r1, rc, rt⟩ := hr
      refine ⟨(h2 0 (fun c' i _ _ => by omega)).trans r0, (h2 1 (fun c' i _ _ => by omega)).trans r1, fun c hc => ?_, fun t ht => ?_⟩
      · have hc : c < nF n 2 := hc
        obtain ⟨a1, b1, e1, -, -⟩ := rc c hc
        obtain ⟨l1, l2⟩ := hfl c hc
        have l8 := hl8 c
        refine ⟨(h2 _ (fun c' i _ _ => by omega)).trans a1, (h2 _ (fun c' i _ _ => by omega)).trans b1, (h2 _ (fun c' i _ _ => by omega)).trans e1, (h1 c (by omega) 0 (by decide)).trans l1, fun k hk => ?_⟩
        have hk : k < (l c).length := hk
        rw [show 2 + 12 * c + (4 + k) = 2 + 12 * c + (3 + (1 + k)) by omega, h1 c (by omega) (1 + k) (by omega)]
        exact l2 k hk
      · have ht : t < nF n 3 := ht
        obtain ⟨a1, b1, e1, u1, v1, x1, y1⟩ := rt t ht
        exact ⟨(h2 _ (fun c' i _ _ => by omega)).trans a1, (h2 _ (fun c' i _ _ => by omega)).trans b1, (h2 _ (fun c' i _ _ => by omega)).trans e1, (h2 _ (fun c' i _ _ => by omega)).trans u1, (h2 _ (fun c' i _ _ => by omega)).trans v1, (h2 _ (fun c' i _ _ => by omega)).trans x1, (h2 _ (fun c' i _ _ => by omega)).trans y1⟩
    | succ q ih =>
      intro c g w hc h1 h2
      rw [u_194_2]
      simp (disch := omega) only [u_194_0, u_194_1, u_194_3, u_194_4, u_194_7, u_194_8, u_194_9, u_194_10, u_194_13, u_194_14, u_194_15, u_194_18, u_194_19, u_194_20, u_194_21, u_194_25, u_194_27, u_194_30, u_194_31, u_194_32, u_194_33, u_194_35, u_194_36, u_194_39, u_194_40, u_194_41, u_194_44, u_194_45, u_194_46, u_194_48, u_194_49, u_194_50, u_194_51, u_194_54, u_194_57, u_194_60, u_194_63, gI0, gIs, gR0, gRs, gF0, gFs, st0, st_i, st_r, st_f, st_n, st_s, true_and, and_true, ↓ifLeT, ↓ifLeF, ↓ifLtT, ↓ifLtF, ↓ifEqT, ↓ifEqF, if_tt, if_ff, if_pos, if_neg, nLe, nLt, nEq, nInT, nCl, pk_mul, nI_add, Nat.reduceAdd, s_cat_nil, s_cat_i, s_cat_r, s_cat_f, s_cat_l, tl_s, tl_n, cat_i, cat_r, cat_f, nb0, nb1, nbI, if_bI, if_bIr, Nat.zero_le, Nat.reduceLeDiff, m_lAt, m_cAt, M_l ha, M_rw hb, kA_ne ab, kA_eq, xA_tw]
      refine take_in (d := d) (R := kA m a) (f := kA m b) ha hb (by omega) 8 0 m _ rfl (fun _ _ => rfl) ⟨fun c' hc' i hi => ?_, fun i hi => ?_, fun j hj => ?_⟩ fun g' h1' h2' => ?_
      · rw [upd_ne (by omega)]; exact h1 c' hc' i hi
      · have e : i = 0 := by omega
        subst e
        exact if_pos rfl
      · rw [upd_ne (by have := hj c 0 (by omega) (by omega); omega)]; exact h2 j hj
      · simp (disch := omega) only [u_194_0, u_194_1, u_194_3, u_194_4, u_194_7, u_194_8, u_194_9, u_194_10, u_194_13, u_194_14, u_194_15, u_194_18, u_194_19, u_194_20, u_194_21, u_194_25, u_194_27, u_194_30, u_194_31, u_194_32, u_194_33, u_194_35, u_194_36, u_194_39, u_194_40, u_194_41, u_194_44, u_194_45, u_194_46, u_194_48, u_194_49, u_194_50, u_194_51, u_194_54, u_194_57, u_194_60, u_194_63, gI0, gIs, gR0, gRs, gF0, gFs, st0, st_i, st_r, st_f, st_n, st_s, true_and, and_true, ↓ifLeT, ↓ifLeF, ↓ifLtT, ↓ifLtF, ↓ifEqT, ↓ifEqF, if_tt, if_ff, if_pos, if_neg, nLe, nLt, nEq, nInT, nCl, pk_mul, nI_add, Nat.reduceAdd, s_cat_nil, s_cat_i, s_cat_r, s_cat_f, s_cat_l, tl_s, tl_n, cat_i, cat_r, cat_f, nb0, nb1, nbI, if_bI, if_bIr, Nat.zero_le, Nat.reduceLeDiff]
        exact ih (c + 1) g' _ (by omega) h1' h2'
  have := lp 4 0 (kA m b) s_no rfl (fun c' hc' => absurd hc' (Nat.not_lt_zero c')) (fun _ _ => rfl)
  rw [xA_eta] at this
  simp (disch := omega) only [u_194_0, u_194_1, u_194_3, u_194_4, u_194_7, u_194_8, u_194_9, u_194_10, u_194_13, u_194_14, u_194_15, u_194_18, u_194_19, u_194_20, u_194_21, u_194_25, u_194_27, u_194_30, u_194_31, u_194_32, u_194_33, u_194_35, u_194_36, u_194_39, u_194_40, u_194_41, u_194_44, u_194_45, u_194_46, u_194_48, u_194_49, u_194_50, u_194_51, u_194_54, u_194_57, u_194_60, u_194_63, gI0, gIs, gR0, gRs, gF0, gFs, st0, st_i, st_r, st_f, st_n, st_s, true_and, and_true, ↓ifLeT, ↓ifLeF, ↓ifLtT, ↓ifLtF, ↓ifEqT, ↓ifEqF, if_tt, if_ff, if_pos, if_neg, nLe, nLt, nEq, nInT, nCl, pk_mul, nI_add, Nat.reduceAdd, s_cat_nil, s_cat_i, s_cat_r, s_cat_f, s_cat_l, tl_s, tl_n, cat_i, cat_r, cat_f, nb0, nb1, nbI, if_bI, if_bIr, Nat.zero_le, Nat.reduceLeDiff]
  exact this
theorem MF_g {g : tG} {C : Nat} (h : MF m C g) : (∀ v l, g.2 = some (v, l) → FL (kA m 331) C l) ∧ (g.2 = none → kI m 30 = nI 1000000) ∧ ∀ v l, g.2 = some (v, l) → ¬ kI m 30 = nI 1000000 := by
  unfold MF at h
  cases hg : g.2 with
  | none =>
    simp only [hg] at h
    exact ⟨fun v l e => (by cases e), fun _ => h.2, fun v l e => (by cases e)⟩
  | some p =>
    obtain ⟨v, l⟩ := p
    simp only [hg] at h
    obtain ⟨-, h2, h3, h4, -⟩ := h
    refine ⟨fun v l e => (by cases e; exact h4), fun e => (by cases e), fun v' l' e q => ?_⟩
    rw [h3] at q
    have := (nI_eq (by omega) (by omega)).mp q
    omega
theorem r_which {k : Nat} (hm : RM m z) (hq : zQ z = some n) (hk : k < 4) (K : ∀ m', RM m' z → (∀ v l, foundN n k = some (v, l) → FL (kA m' 331) (nF n 2) l) → Q (some (.int (iB (foundN n k).isSome))) (pM m' h)) : MT (d + 27) 241 [.ref 317, .int (nI k)] (pM m h) Q := by
  rw [MT_go (by decide) _ _ _ (Nat.le_of_ble_eq_true rfl), show s_entry 241 [.ref 317, .int (nI k)] = [.ref 317, .int (nI k)] from rfl]
  have tail : ∀ m' (g : tG), RM m' z → MF m' (nF n 2) g → foundN n k = g.2 → WP (d + 26) 241 41 [.ref 317, .int (nI k)] [] (pM m' h) (0, 0) Q := fun m' g hm' mf e => by
    obtain ⟨f1, f2, f3⟩ := MF_g mf
    have K := K m' hm' (fun v l e2 => f1 v l (e.symm.trans e2))
    rw [e] at K
    cases hg : g.2 with
    | none =>
      rw [hg] at K
      have f2 := f2 hg
      simp (disch := omega) only [u_241_0, u_241_1, u_241_4, u_241_5, u_241_8, u_241_11, u_241_12, u_241_13, u_241_16, u_241_17, u_241_20, u_241_23, u_241_24, u_241_25, u_241_28, u_241_29, u_241_30, u_241_33, u_241_36, u_241_37, u_241_40, u_241_41, u_241_42, u_241_45, u_241_47, u_241_50, u_241_51, u_241_54, u_241_55, gI0, gIs, gR0, gRs, gF0, gFs, st0, st_i, st_r, st_f, st_n, st_s, true_and, and_true, ↓ifLeT, ↓ifLeF, ↓ifLtT, ↓ifLtF, ↓ifEqT, ↓ifEqF, if_tt, if_ff, if_pos, if_neg, nLe, nLt, nEq, nInT, nCl, pk_mul, nI_add, Nat.reduceAdd, s_cat_nil, s_cat_i, s_cat_r, s_cat_f, s_cat_l, tl_s, tl_n, cat_i, cat_r, cat_f, nb0, nb1, nbI, if_bI, if_bIr, Nat.zero_le, Nat.reduceLeDiff, M_g0, M_g1, M_g2, M_g3, M_g4, M_g5, M_g6, M_g7, M_g8, M_g9, M_g10, M_g11, M_g12, M_g13, M_g14, M_g15, M_g16, M_g17, M_g18, M_g19, M_g20, M_g21, M_g22, M_g23, M_g24, M_g25, M_g26, M_g27, M_g28, M_g29, M_g30, M_g31, M_g32, M_g33, M_g34, M_g35, M_g36, M_g37, M_g38, M_g39, M_g40, M_g41, f2]
      exact K
    | some p =>
      rw [hg] at K
      have f3 := f3 p.1 p.2 hg
      simp (disch := omega) only [u_241_0, u_241_1, u_241_4, u_241_5, u_241_8, u_241_11, u_241_12, u_241_13, u_241_16, u_241_17, u_241_20, u_241_23, u_241_24, u_241_25, u_241_28, u_241_29, u_241_30, u_241_33, u_241_36, u_241_37, u_241_40, u_241_41, u_241_42, u_241_45, u_241_47, u_241_50, u_241_51, u_241_54, u_241_55, gI0, gIs, gR0, gRs, gF0, gFs, st0, st_i, st_r, st_f, st_n, st_s, true_and, and_true, ↓ifLeT, ↓ifLeF, ↓ifLtT, ↓ifLtF, ↓ifEqT, ↓ifEqF, if_tt, if_ff, if_pos, if_neg, nLe, nLt, nEq, nInT, nCl, pk_mul, nI_add, Nat.reduceAdd, s_cat_nil, s_cat_i, s_cat_r, s_cat_f, s_cat_l, tl_s, tl_n, cat_i, cat_r, cat_f, nb0, nb1, nbI, if_bI, if_bIr, Nat.zero_le, Nat.reduceLeDiff, M_g0, M_g1, M_g2, M_g3, M_g4, M_g5, M_g6, M_g7, M_g8, M_g9, M_g10, M_g11, M_g12, M_g13, M_g14, M_g15, M_g16, M_g17, M_g18, M_g19, M_g20, M_g21, M_g22, M_g23, M_g24, M_g25, M_g26, M_g27, M_g28, M_g29, M_g30, M_g31, M_g32, M_g33, M_g34, M_g35, M_g36, M_g37, M_g38, M_g39, M_g40, M_g41, f3, reduceIte]
      exact K
  match k, hk with
  | 0, _ =>
    simp (disch := omega) only [u_241_0, u_241_1, u_241_4, u_241_5, u_241_8, u_241_11, u_241_12, u_241_13, u_241_16, u_241_17, u_241_20, u_241_23, u_241_24, u_241_25, u_241_28, u_241_29, u_241_30, u_241_33, u_241_36, u_241_37, u_241_40, gI0, gIs, gR0, gRs, gF0, gFs, st0, st_i, st_r, st_f, st_n, st_s, true_and, and_true, ↓ifLeT, ↓ifLeF, ↓ifLtT, ↓ifLtF, ↓ifEqT, ↓ifEqF, if_tt, if_ff, if_pos, if_neg, nLe, nLt, nEq, nInT, nCl, pk_mul, nI_add, Nat.reduceAdd, s_cat_nil, s_cat_i, s_cat_r, s_cat_f, s_cat_l, tl_s, tl_n, cat_i, cat_r, cat_f, nb0, nb1, nbI, if_bI, if_bIr, Nat.zero_le, Nat.reduceLeDiff, M_ob]
    refine r_seeksE (d := d + 17) hm hq fun m' hm' mf => ?_
    simp (disch := omega) only [u_241_0, u_241_1, u_241_4, u_241_5, u_241_8, u_241_11, u_241_12, u_241_13, u_241_16, u_241_17, u_241_20, u_241_23, u_241_24, u_241_25, u_241_28, u_241_29, u_241_30, u_241_33, u_241_36, u_241_37, u_241_40, gI0, gIs, gR0, gRs, gF0, gFs, st0, st_i, st_r, st_f, st_n, st_s, true_and, and_true, ↓ifLeT, ↓ifLeF, ↓ifLtT, ↓ifLtF, ↓ifEqT, ↓ifEqF, if_tt, if_ff, if_pos, if_neg, nLe, nLt, nEq, nInT, nCl, pk_mul, nI_add, Nat.reduceAdd, s_cat_nil, s_cat_i, s_cat_r, s_cat_f, s_cat_l, tl_s, tl_n, cat_i, cat_r, cat_f, nb0, nb1, nbI, if_bI, if_bIr, Nat.zero_le, Nat.reduceLeDiff]
    exact tail m' (gE (easyN n)) hm' mf rfl
  | 1, _ =>
    simp (disch := omega) only [u_241_0, u_241_1, u_241_4, u_241_5, u_241_8, u_241_11, u_241_12, u_241_13, u_241_16, u_241_17, u_241_20, u_241_23, u_241_24, u_241_25, u_241_28, u_241_29, u_241_30, u_241_33, u_241_36, u_241_37, u_241_40, gI0, gIs, gR0, gRs, gF0, gFs, st0, st_i, st_r, st_f, st_n, st_s, true_and, and_true, ↓ifLeT, ↓ifLeF, ↓ifLtT, ↓ifLtF, ↓ifEqT, ↓ifEqF, if_tt, if_ff, if_pos, if_neg, nLe, nLt, nEq, nInT, nCl, pk_mul, nI_add, Nat.reduceAdd, s_cat_nil, s_cat_i, s_cat_r, s_cat_f, s_cat_l, tl_s, tl_n, cat_i, cat_r, cat_f, nb0, nb1, nbI, if_bI, if_bIr, Nat.zero_le, Nat.reduceLeDiff, M_ob]
    refine r_seeksZ (d := d + 9) hm hq fun m' hm' mf => ?_
    simp (disch := omega) only [u_241_0, u_241_1, u_241_4, u_241_5, u_241_8, u_241_11, u_241_12, u_241_13, u_241_16, u_241_17, u_241_20, u_241_23, u_241_24, u_241_25, u_241_28, u_241_29, u_241_30, u_241_33, u_241_36, u_241_37, u_241_40, gI0, gIs, gR0, gRs, gF0, gFs, st0, st_i, st_r, st_f, st_n, st_s, true_and, and_true, ↓ifLeT, ↓ifLeF, ↓ifLtT, ↓ifLtF, ↓ifEqT, ↓ifEqF, if_tt, if_ff, if_pos, if_neg, nLe, nLt, nEq, nInT, nCl, pk_mul, nI_add, Nat.reduceAdd, s_cat_nil, s_cat_i, s_cat_r, s_cat_f, s_cat_l, tl_s, tl_n, cat_i, cat_r, cat_f, nb0, nb1, nbI, if_bI, if_bIr, Nat.zero_le, Nat.reduceLeDiff]
    exact tail m' (zonesN n) hm' mf rfl
  | 2, _ =>
    simp (disch := omega) only [u_241_0, u_241_1, u_241_4, u_241_5, u_241_8, u_241_11, u_241_12, u_241_13, u_241_16, u_241_17, u_241_20, u_241_23, u_241_24, u_241_25, u_241_28, u_241_29, u_241_30, u_241_33, u_241_36, u_241_37, u_241_40, gI0, gIs, gR0, gRs, gF0, gFs, st0, st_i, st_r, st_f, st_n, st_s, true_and, and_true, ↓ifLeT, ↓ifLeF, ↓ifLtT, ↓ifLtF, ↓ifEqT, ↓ifEqF, if_tt, if_ff, if_pos, if_neg, nLe, nLt, nEq, nInT, nCl, pk_mul, nI_add, Nat.reduceAdd, s_cat_nil, s_cat_i, s_cat_r, s_cat_f, s_cat_l, tl_s, tl_n, cat_i, cat_r, cat_f, nb0, nb1, nbI, if_bI, if_bIr, Nat.zero_le, Nat.reduceLeDiff, M_ob]
    refine r_seeksB (d := d) (o := none) (lo := 0) hm hq (Or.inl ⟨rfl, rfl⟩) fun m' f1 mf => ?_
    rw [lostN_0] at mf
    simp (disch := omega) only [u_241_0, u_241_1, u_241_4, u_241_5, u_241_8, u_241_11, u_241_12, u_241_13, u_241_16, u_241_17, u_241_20, u_241_23, u_241_24, u_241_25, u_241_28, u_241_29, u_241_30, u_241_33, u_241_36, u_241_37, u_241_40, gI0, gIs, gR0, gRs, gF0, gFs, st0, st_i, st_r, st_f, st_n, st_s, true_and, and_true, ↓ifLeT, ↓ifLeF, ↓ifLtT, ↓ifLtF, ↓ifEqT, ↓ifEqF, if_tt, if_ff, if_pos, if_neg, nLe, nLt, nEq, nInT, nCl, pk_mul, nI_add, Nat.reduceAdd, s_cat_nil, s_cat_i, s_cat_r, s_cat_f, s_cat_l, tl_s, tl_n, cat_i, cat_r, cat_f, nb0, nb1, nbI, if_bI, if_bIr, Nat.zero_le, Nat.reduceLeDiff]
    exact tail m' (bestN n) (RM_fr (frT_Z f1) hm) mf rfl
  | 3, _ =>
    simp (disch := omega) only [u_241_0, u_241_1, u_241_4, u_241_5, u_241_8, u_241_11, u_241_12, u_241_13, u_241_16, u_241_17, u_241_20, u_241_23, u_241_24, u_241_25, u_241_28, u_241_29, u_241_30, u_241_33, u_241_36, u_241_37, u_241_40, gI0, gIs, gR0, gRs, gF0, gFs, st0, st_i, st_r, st_f, st_n, st_s, true_and, and_true, ↓ifLeT, ↓ifLeF, ↓ifLtT, ↓ifLtF, ↓ifEqT, ↓ifEqF, if_tt, if_ff, if_pos, if_neg, nLe, nLt, nEq, nInT, nCl, pk_mul, nI_add, Nat.reduceAdd, s_cat_nil, s_cat_i, s_cat_r, s_cat_f, s_cat_l, tl_s, tl_n, cat_i, cat_r, cat_f, nb0, nb1, nbI, if_bI, if_bIr, Nat.zero_le, Nat.reduceLeDiff, M_ob]
    refine r_seeksW (d := d + 13) hm hq fun m' hm' mb => ?_
    obtain ⟨-, -, b3⟩ := mb
    have K := K m' hm' fun v l e => by
      have e : (betterN n).2.map (fun x => (x.1, x.2.1)) = some (v, l) := e
      cases hg : (betterN n).2 with
      | none => rw [hg] at e; cases e
      | some p =>
        obtain ⟨v', l', t⟩ := p
        rw [hg] at e
        cases e
        simp only [hg] at b3
        exact b3.2.2.1
    have e : (foundN n 3).isSome = (betterN n).2.isSome := by
      show ((betterN n).2.map fun x => (x.1, x.2.1)).isSome = _
      rw [Option.isSome_map]
    rw [e] at K
    cases hs : (betterN n).2.isSome with
    | true => rw [hs] at K; simp (disch := omega) only [u_241_0, u_241_1, u_241_4, u_241_5, u_241_8, u_241_11, u_241_12, u_241_13, u_241_16, u_241_17, u_241_20, u_241_23, u_241_24, u_241_25, u_241_28, u_241_29, u_241_30, u_241_33, u_241_36, u_241_37, u_241_40, gI0, gIs, gR0, gRs, gF0, gFs, st0, st_i, st_r, st_f, st_n, st_s, true_and, and_true, ↓ifLeT, ↓ifLeF, ↓ifLtT, ↓ifLtF, ↓ifEqT, ↓ifEqF, if_tt, if_ff, if_pos, if_neg, nLe, nLt, nEq, nInT, nCl, pk_mul, nI_add, Nat.reduceAdd, s_cat_nil, s_cat_i, s_cat_r, s_cat_f, s_cat_l, tl_s, tl_n, cat_i, cat_r, cat_f, nb0, nb1, nbI, if_bI, if_bIr, Nat.zero_le, Nat.reduceLeDiff, iBt]; exact K
    | false => rw [hs] at K; simp (disch := omega) only [u_241_0, u_241_1, u_241_4, u_241_5, u_241_8, u_241_11, u_241_12, u_241_13, u_241_16, u_241_17, u_241_20, u_241_23, u_241_24, u_241_25, u_241_28, u_241_29, u_241_30, u_241_33, u_241_36, u_241_37, u_241_40, gI0, gIs, gR0, gRs, gF0, gFs, st0, st_i, st_r, st_f, st_n, st_s, true_and, and_true, ↓ifLeT, ↓ifLeF, ↓ifLtT, ↓ifLtF, ↓ifEqT, ↓ifEqF, if_tt, if_ff, if_pos, if_neg, nLe, nLt, nEq, nInT, nCl, pk_mul, nI_add, Nat.reduceAdd, s_cat_nil, s_cat_i, s_cat_r, s_cat_f, s_cat_l, tl_s, tl_n, cat_i, cat_r, cat_f, nb0, nb1, nbI, if_bI, if_bIr, Nat.zero_le, Nat.reduceLeDiff, iBf]; exact K
theorem z_follow (hm : RM m z) (K : ∀ m', RM m' (zfollow z w).2 → Q (some (.int (zfollow z w).1)) (pM m' h)) : MT (d + 28) 242 [.ref 317, .int w] (pM m h) Q := by
  rw [MT_go (by decide) _ _ _ (Nat.le_of_ble_eq_true rfl), show s_entry 242 [.ref 317, .int w] = [.ref 317, .int w] from rfl]
  have hm0 := RM_0 (x := nI 0) hm
  have q1 := hm.2.1.1
  unfold zfollow at K
  cases hq : zQ z with
  | none =>
    simp only [hq] at K
    rw [hq] at q1
    simp (disch := omega) only [u_242_0, u_242_1, u_242_2, u_242_5, u_242_6, u_242_9, u_242_12, u_242_13, u_242_14, u_242_17, u_242_18, u_242_19, u_242_20, u_242_21, u_242_24, u_242_27, u_242_30, u_242_31, u_242_32, u_242_35, u_242_36, u_242_39, u_242_42, u_242_43, u_242_44, u_242_47, u_242_50, u_242_51, u_242_52, u_242_55, u_242_56, u_242_57, u_242_60, u_242_61, u_242_62, u_242_65, u_242_66, u_242_69, u_242_72, u_242_73, u_242_74, u_242_77, u_242_80, u_242_83, gI0, gIs, gR0, gRs, gF0, gFs, st0, st_i, st_r, st_f, st_n, st_s, true_and, and_true, ↓ifLeT, ↓ifLeF, ↓ifLtT, ↓ifLtF, ↓ifEqT, ↓ifEqF, if_tt, if_ff, if_pos, if_neg, nLe, nLt, nEq, nInT, nCl, pk_mul, nI_add, Nat.reduceAdd, s_cat_nil, s_cat_i, s_cat_r, s_cat_f, s_cat_l, tl_s, tl_n, cat_i, cat_r, cat_f, nb0, nb1, nbI, if_bI, if_bIr, Nat.zero_le, Nat.reduceLeDiff, M_ob, M_g0, M_g1, M_g2, M_g3, M_g4, M_g5, M_g6, M_g7, M_g8, M_g9, M_g10, M_g11, M_g12, M_g13, M_g14, M_g15, M_g16, M_g17, M_g18, M_g19, M_g20, M_g21, M_g22, M_g23, M_g24, M_g25, M_g26, M_g27, M_g28, M_g29, M_g30, M_g31, M_g32, M_g33, M_g34, M_g35, M_g36, M_g37, M_g38, M_g39, M_g40, M_g41, M_s0, kI_xI, kI_xB, kI_xA, kI_xV, kB_xI, kB_xB, kB_xA, kB_xV, kA_xI, kA_xB, kA_xA, kA_xV, kV_xI, kV_xB, kV_xA, kV_xV, Nat.reduceEqDiff, reduceIte, q1, Option.isSome, iBf]
    refine z_ref (k := 0) hm0 (by decide) fun m' hm' => ?_
    simp (disch := omega) only [u_242_0, u_242_1, u_242_2, u_242_5, u_242_6, u_242_9, u_242_12, u_242_13, u_242_14, u_242_17, u_242_18, u_242_19, u_242_20, u_242_21, u_242_24, u_242_27, u_242_30, u_242_31, u_242_32, u_242_35, u_242_36, u_242_39, u_242_42, u_242_43, u_242_44, u_242_47, u_242_50, u_242_51, u_242_52, u_242_55, u_242_56, u_242_57, u_242_60, u_242_61, u_242_62, u_242_65, u_242_66, u_242_69, u_242_72, u_242_73, u_242_74, u_242_77, u_242_80, u_242_83, gI0, gIs, gR0, gRs, gF0, gFs, st0, st_i, st_r, st_f, st_n, st_s, true_and, and_true, ↓ifLeT, ↓ifLeF, ↓ifLtT, ↓ifLtF, ↓ifEqT, ↓ifEqF, if_tt, if_ff, if_pos, if_neg, nLe, nLt, nEq, nInT, nCl, pk_mul, nI_add, Nat.reduceAdd, s_cat_nil, s_cat_i, s_cat_r, s_cat_f, s_cat_l, tl_s, tl_n, cat_i, cat_r, cat_f, nb0, nb1, nbI, if_bI, if_bIr, Nat.zero_le, Nat.reduceLeDiff]
    exact K m' hm'
  | some n =>
    simp only [hq] at K
    rw [hq] at q1
    obtain ⟨hg, hr, hok⟩ := RM_q hm0 hq
    cases h1 : ixN w 4 with
    | none =>
      simp only [h1] at K
      simp (disch := omega) only [u_242_0, u_242_1, u_242_2, u_242_5, u_242_6, u_242_9, u_242_12, u_242_13, u_242_14, u_242_17, u_242_18, u_242_19, u_242_20, u_242_21, u_242_24, u_242_27, u_242_30, u_242_31, u_242_32, u_242_35, u_242_36, u_242_39, u_242_42, u_242_43, u_242_44, u_242_47, u_242_50, u_242_51, u_242_52, u_242_55, u_242_56, u_242_57, u_242_60, u_242_61, u_242_62, u_242_65, u_242_66, u_242_69, u_242_72, u_242_73, u_242_74, u_242_77, u_242_80, u_242_83, gI0, gIs, gR0, gRs, gF0, gFs, st0, st_i, st_r, st_f, st_n, st_s, true_and, and_true, ↓ifLeT, ↓ifLeF, ↓ifLtT, ↓ifLtF, ↓ifEqT, ↓ifEqF, if_tt, if_ff, if_pos, if_neg, nLe, nLt, nEq, nInT, nCl, pk_mul, nI_add, Nat.reduceAdd, s_cat_nil, s_cat_i, s_cat_r, s_cat_f, s_cat_l, tl_s, tl_n, cat_i, cat_r, cat_f, nb0, nb1, nbI, if_bI, if_bIr, Nat.zero_le, Nat.reduceLeDiff, M_ob, M_g0, M_g1, M_g2, M_g3, M_g4, M_g5, M_g6, M_g7, M_g8, M_g9, M_g10, M_g11, M_g12, M_g13, M_g14, M_g15, M_g16, M_g17, M_g18, M_g19, M_g20, M_g21, M_g22, M_g23, M_g24, M_g25, M_g26, M_g27, M_g28, M_g29, M_g30, M_g31, M_g32, M_g33, M_g34, M_g35, M_g36, M_g37, M_g38, M_g39, M_g40, M_g41, M_s0, kI_xI, kI_xB, kI_xA, kI_xV, kB_xI, kB_xB, kB_xA, kB_xV, kA_xI, kA_xB, kA_xA, kA_xV, kV_xI, kV_xB, kV_xA, kV_xV, Nat.reduceEqDiff, reduceIte, q1, in4, h1, Option.isSome, iBt, iBf, nI10]
      refine z_ref (k := 1) hm0 (by decide) fun m' hm' => ?_
      simp (disch := omega) only [u_242_0, u_242_1, u_242_2, u_242_5, u_242_6, u_242_9, u_242_12, u_242_13, u_242_14, u_242_17, u_242_18, u_242_19, u_242_20, u_242_21, u_242_24, u_242_27, u_242_30, u_242_31, u_242_32, u_242_35, u_242_36, u_242_39, u_242_42, u_242_43, u_242_44, u_242_47, u_242_50, u_242_51, u_242_52, u_242_55, u_242_56, u_242_57, u_242_60, u_242_61, u_242_62, u_242_65, u_242_66, u_242_69, u_242_72, u_242_73, u_242_74, u_242_77, u_242_80, u_242_83, gI0, gIs, gR0, gRs, gF0, gFs, st0, st_i, st_r, st_f, st_n, st_s, true_and, and_true, ↓ifLeT, ↓ifLeF, ↓ifLtT, ↓ifLtF, ↓ifEqT, ↓ifEqF, if_tt, if_ff, if_pos, if_neg, nLe, nLt, nEq, nInT, nCl, pk_mul, nI_add, Nat.reduceAdd, s_cat_nil, s_cat_i, s_cat_r, s_cat_f, s_cat_l, tl_s, tl_n, cat_i, cat_r, cat_f, nb0, nb1, nbI, if_bI, if_bIr, Nat.zero_le, Nat.reduceLeDiff]
      exact K m' hm'
    | some k =>
      simp only [h1] at K
      obtain ⟨k1, rfl⟩ := ix_some (by omega) h1
      have e2 := fun Q => r_few (d := d + 23) (h := h) (Q := Q) hok.1 hr
      simp (disch := omega) only [u_242_0, u_242_1, u_242_2, u_242_5, u_242_6, u_242_9, u_242_12, u_242_13, u_242_14, u_242_17, u_242_18, u_242_19, u_242_20, u_242_21, u_242_24, u_242_27, gI0, gIs, gR0, gRs, gF0, gFs, st0, st_i, st_r, st_f, st_n, st_s, true_and, and_true, ↓ifLeT, ↓ifLeF, ↓ifLtT, ↓ifLtF, ↓ifEqT, ↓ifEqF, if_tt, if_ff, if_pos, if_neg, nLe, nLt, nEq, nInT, nCl, pk_mul, nI_add, Nat.reduceAdd, s_cat_nil, s_cat_i, s_cat_r, s_cat_f, s_cat_l, tl_s, tl_n, cat_i, cat_r, cat_f, nb0, nb1, nbI, if_bI, if_bIr, Nat.zero_le, Nat.reduceLeDiff, M_ob, M_g0, M_g1, M_g2, M_g3, M_g4, M_g5, M_g6, M_g7, M_g8, M_g9, M_g10, M_g11, M_g12, M_g13, M_g14, M_g15, M_g16, M_g17, M_g18, M_g19, M_g20, M_g21, M_g22, M_g23, M_g24, M_g25, M_g26, M_g27, M_g28, M_g29, M_g30, M_g31, M_g32, M_g33, M_g34, M_g35, M_g36, M_g37, M_g38, M_g39, M_g40, M_g41, M_s0, kI_xI, kI_xB, kI_xA, kI_xV, kB_xI, kB_xB, kB_xA, kB_xV, kA_xI, kA_xB, kA_xA, kA_xV, kV_xI, kV_xB, kV_xA, kV_xV, Nat.reduceEqDiff, reduceIte, q1, in4, h1, Option.isSome, iBt, iBf, nI10]
      by_cases h2 : k = 2 ∧ fewN n = false
      · simp only [if_pos h2] at K
        obtain ⟨rfl, h2⟩ := h2
        rw [h2] at e2
        simp (disch := omega) only [u_242_0, u_242_1, u_242_2, u_242_5, u_242_6, u_242_9, u_242_12, u_242_13, u_242_14, u_242_17, u_242_18, u_242_19, u_242_20, u_242_21, u_242_24, u_242_27, u_242_30, u_242_31, u_242_32, u_242_35, u_242_36, u_242_39, u_242_42, u_242_43, u_242_44, u_242_47, u_242_50, u_242_51, u_242_52, u_242_55, u_242_56, u_242_57, u_242_60, u_242_61, u_242_62, u_242_65, u_242_66, u_242_69, u_242_72, u_242_73, u_242_74, u_242_77, u_242_80, u_242_83, gI0, gIs, gR0, gRs, gF0, gFs, st0, st_i, st_r, st_f, st_n, st_s, true_and, and_true, ↓ifLeT, ↓ifLeF, ↓ifLtT, ↓ifLtF, ↓ifEqT, ↓ifEqF, if_tt, if_ff, if_pos, if_neg, nLe, nLt, nEq, nInT, nCl, pk_mul, nI_add, Nat.reduceAdd, s_cat_nil, s_cat_i, s_cat_r, s_cat_f, s_cat_l, tl_s, tl_n, cat_i, cat_r, cat_f, nb0, nb1, nbI, if_bI, if_bIr, Nat.zero_le, Nat.reduceLeDiff, M_ob, e2, iBf]
        refine z_ref (k := 1) hm0 (by decide) fun m' hm' => ?_
        simp (disch := omega) only [u_242_0, u_242_1, u_242_2, u_242_5, u_242_6, u_242_9, u_242_12, u_242_13, u_242_14, u_242_17, u_242_18, u_242_19, u_242_20, u_242_21, u_242_24, u_242_27, u_242_30, u_242_31, u_242_32, u_242_35, u_242_36, u_242_39, u_242_42, u_242_43, u_242_44, u_242_47, u_242_50, u_242_51, u_242_52, u_242_55, u_242_56, u_242_57, u_242_60, u_242_61, u_242_62, u_242_65, u_242_66, u_242_69, u_242_72, u_242_73, u_242_74, u_242_77, u_242_80, u_242_83, gI0, gIs, gR0, gRs, gF0, gFs, st0, st_i, st_r, st_f, st_n, st_s, true_and, and_true, ↓ifLeT, ↓ifLeF, ↓ifLtT, ↓ifLtF, ↓ifEqT, ↓ifEqF, if_tt, if_ff, if_pos, if_neg, nLe, nLt, nEq, nInT, nCl, pk_mul, nI_add, Nat.reduceAdd, s_cat_nil, s_cat_i, s_cat_r, s_cat_f, s_cat_l, tl_s, tl_n, cat_i, cat_r, cat_f, nb0, nb1, nbI, if_bI, if_bIr, Nat.zero_le, Nat.reduceLeDiff]
        exact K m' hm'
      · simp only [if_neg h2] at K
        have go : WP (d + 27) 242 42 [.ref 317, .int (nI k)] [] (pM (xI m 0 (nI 0)) h) (0, 0) Q → WP (d + 27) 242 30 [.ref 317, .int (nI k)] [] (pM (xI m 0 (nI 0)) h) (0, 0) Q := fun z => by
          by_cases e : k = 2
          · have ft : fewN n = true := by
              cases hf : fewN n with
              | true => rfl
              | false => exact absurd ⟨e, hf⟩ h2
            rw [ft] at e2
            rw [e] at z ⊢
            simp (disch := omega) only [u_242_30, u_242_31, u_242_32, u_242_35, u_242_36, u_242_39, gI0, gIs, gR0, gRs, gF0, gFs, st0, st_i, st_r, st_f, st_n, st_s, true_and, and_true, ↓ifLeT, ↓ifLeF, ↓ifLtT, ↓ifLtF, ↓ifEqT, ↓ifEqF, if_tt, if_ff, if_pos, if_neg, nLe, nLt, nEq, nInT, nCl, pk_mul, nI_add, Nat.reduceAdd, s_cat_nil, s_cat_i, s_cat_r, s_cat_f, s_cat_l, tl_s, tl_n, cat_i, cat_r, cat_f, nb0, nb1, nbI, if_bI, if_bIr, Nat.zero_le, Nat.reduceLeDiff, M_ob, e2, iBt, nI10]
            exact z
          · have ne : ¬ nI k = nI 2 := fun q => e ((nI_eq (by omega) (by omega)).mp q)
            simp (disch := omega) only [u_242_30, u_242_31, u_242_32, u_242_35, u_242_36, u_242_39, gI0, gIs, gR0, gRs, gF0, gFs, st0, st_i, st_r, st_f, st_n, st_s, true_and, and_true, ↓ifLeT, ↓ifLeF, ↓ifLtT, ↓ifLtF, ↓ifEqT, ↓ifEqF, if_tt, if_ff, if_pos, if_neg, nLe, nLt, nEq, nInT, nCl, pk_mul, nI_add, Nat.reduceAdd, s_cat_nil, s_cat_i, s_cat_r, s_cat_f, s_cat_l, tl_s, tl_n, cat_i, cat_r, cat_f, nb0, nb1, nbI, if_bI, if_bIr, Nat.zero_le, Nat.reduceLeDiff, ne, reduceIte]
            exact z
        refine go ?_
        clear go
        simp (disch := omega) only [u_242_42, u_242_43, u_242_44, u_242_47, u_242_50, u_242_51, u_242_52, u_242_55, gI0, gIs, gR0, gRs, gF0, gFs, st0, st_i, st_r, st_f, st_n, st_s, true_and, and_true, ↓ifLeT, ↓ifLeF, ↓ifLtT, ↓ifLtF, ↓ifEqT, ↓ifEqF, if_tt, if_ff, if_pos, if_neg, nLe, nLt, nEq, nInT, nCl, pk_mul, nI_add, Nat.reduceAdd, s_cat_nil, s_cat_i, s_cat_r, s_cat_f, s_cat_l, tl_s, tl_n, cat_i, cat_r, cat_f, nb0, nb1, nbI, if_bI, if_bIr, Nat.zero_le, Nat.reduceLeDiff, M_ob]
        refine r_which (d := d) (k := k) hm0 hq k1 fun m1 hm1 ff => ?_
        cases hf : foundN n k with
        | none =>
          simp only [hf] at K
          simp (disch := omega) only [u_242_0, u_242_1, u_242_2, u_242_5, u_242_6, u_242_9, u_242_12, u_242_13, u_242_14, u_242_17, u_242_18, u_242_19, u_242_20, u_242_21, u_242_24, u_242_27, u_242_30, u_242_31, u_242_32, u_242_35, u_242_36, u_242_39, u_242_42, u_242_43, u_242_44, u_242_47, u_242_50, u_242_51, u_242_52, u_242_55, u_242_56, u_242_57, u_242_60, u_242_61, u_242_62, u_242_65, u_242_66, u_242_69, u_242_72, u_242_73, u_242_74, u_242_77, u_242_80, u_242_83, gI0, gIs, gR0, gRs, gF0, gFs, st0, st_i, st_r, st_f, st_n, st_s, true_and, and_true, ↓ifLeT, ↓ifLeF, ↓ifLtT, ↓ifLtF, ↓ifEqT, ↓ifEqF, if_tt, if_ff, if_pos, if_neg, nLe, nLt, nEq, nInT, nCl, pk_mul, nI_add, Nat.reduceAdd, s_cat_nil, s_cat_i, s_cat_r, s_cat_f, s_cat_l, tl_s, tl_n, cat_i, cat_r, cat_f, nb0, nb1, nbI, if_bI, if_bIr, Nat.zero_le, Nat.reduceLeDiff, M_ob, Option.isSome, iBf]
          refine z_ref (k := 1) hm1 (by decide) fun m' hm' => ?_
          simp (disch := omega) only [u_242_0, u_242_1, u_242_2, u_242_5, u_242_6, u_242_9, u_242_12, u_242_13, u_242_14, u_242_17, u_242_18, u_242_19, u_242_20, u_242_21, u_242_24, u_242_27, u_242_30, u_242_31, u_242_32, u_242_35, u_242_36, u_242_39, u_242_42, u_242_43, u_242_44, u_242_47, u_242_50, u_242_51, u_242_52, u_242_55, u_242_56, u_242_57, u_242_60, u_242_61, u_242_62, u_242_65, u_242_66, u_242_69, u_242_72, u_242_73, u_242_74, u_242_77, u_242_80, u_242_83, gI0, gIs, gR0, gRs, gF0, gFs, st0, st_i, st_r, st_f, st_n, st_s, true_and, and_true, ↓ifLeT, ↓ifLeF, ↓ifLtT, ↓ifLtF, ↓ifEqT, ↓ifEqF, if_tt, if_ff, if_pos, if_neg, nLe, nLt, nEq, nInT, nCl, pk_mul, nI_add, Nat.reduceAdd, s_cat_nil, s_cat_i, s_cat_r, s_cat_f, s_cat_l, tl_s, tl_n, cat_i, cat_r, cat_f, nb0, nb1, nbI, if_bI, if_bIr, Nat.zero_le, Nat.reduceLeDiff]
          exact K m' hm'
        | some p =>
          obtain ⟨v, l⟩ := p
          simp only [hf] at K
          have wl := found_wf hok.1 hok.2.1 hf
          have hnl : wfN (jL n l) := ⟨hok.1.1, hok.1.2.1, hok.1.2.2.1, wl⟩
          have hok' : okQ (jL n l) := ⟨hnl, hok.2⟩
          have fl := ff v l hf
          simp (disch := omega) only [u_242_0, u_242_1, u_242_2, u_242_5, u_242_6, u_242_9, u_242_12, u_242_13, u_242_14, u_242_17, u_242_18, u_242_19, u_242_20, u_242_21, u_242_24, u_242_27, u_242_30, u_242_31, u_242_32, u_242_35, u_242_36, u_242_39, u_242_42, u_242_43, u_242_44, u_242_47, u_242_50, u_242_51, u_242_52, u_242_55, u_242_56, u_242_57, u_242_60, u_242_61, u_242_62, u_242_65, u_242_66, u_242_69, u_242_72, u_242_73, u_242_74, u_242_77, u_242_80, u_242_83, gI0, gIs, gR0, gRs, gF0, gFs, st0, st_i, st_r, st_f, st_n, st_s, true_and, and_true, ↓ifLeT, ↓ifLeF, ↓ifLtT, ↓ifLtF, ↓ifEqT, ↓ifEqF, if_tt, if_ff, if_pos, if_neg, nLe, nLt, nEq, nInT, nCl, pk_mul, nI_add, Nat.reduceAdd, s_cat_nil, s_cat_i, s_cat_r, s_cat_f, s_cat_l, tl_s, tl_n, cat_i, cat_r, cat_f, nb0, nb1, nbI, if_bI, if_bIr, Nat.zero_le, Nat.reduceLeDiff, M_ob, Option.isSome, iBt, nI10]
          refine r_keeps (d := d + 26) hm1 hq fun m2 kp => ?_
          obtain ⟨hg1, hr1, -⟩ := RM_q hm1 hq
          have hr2 : RR (kA m2 320) n := by rw [kp.2.2.2.1 320 (by decide)]; exact hr1
          have fl2 : FL (kA m2 331) (nF n 2) l := by rw [kp.2.2.2.1 331 (by decide)]; exact fl
          simp (disch := omega) only [u_242_0, u_242_1, u_242_2, u_242_5, u_242_6, u_242_9, u_242_12, u_242_13, u_242_14, u_242_17, u_242_18, u_242_19, u_242_20, u_242_21, u_242_24, u_242_27, u_242_30, u_242_31, u_242_32, u_242_35, u_242_36, u_242_39, u_242_42, u_242_43, u_242_44, u_242_47, u_242_50, u_242_51, u_242_52, u_242_55, u_242_56, u_242_57, u_242_60, u_242_61, u_242_62, u_242_65, u_242_66, u_242_69, u_242_72, u_242_73, u_242_74, u_242_77, u_242_80, u_242_83, gI0, gIs, gR0, gRs, gF0, gFs, st0, st_i, st_r, st_f, st_n, st_s, true_and, and_true, ↓ifLeT, ↓ifLeF, ↓ifLtT, ↓ifLtF, ↓ifEqT, ↓ifEqF, if_tt, if_ff, if_pos, if_neg, nLe, nLt, nEq, nInT, nCl, pk_mul, nI_add, Nat.reduceAdd, s_cat_nil, s_cat_i, s_cat_r, s_cat_f, s_cat_l, tl_s, tl_n, cat_i, cat_r, cat_f, nb0, nb1, nbI, if_bI, if_bIr, Nat.zero_le, Nat.reduceLeDiff, M_ob, M_g0, M_g1, M_g2, M_g3, M_g4, M_g5, M_g6, M_g7, M_g8, M_g9, M_g10, M_g11, M_g12, M_g13, M_g14, M_g15, M_g16, M_g17, M_g18, M_g19, M_g20, M_g21, M_g22, M_g23, M_g24, M_g25, M_g26, M_g27, M_g28, M_g29, M_g30, M_g31, M_g32, M_g33, M_g34, M_g35, M_g36, M_g37, M_g38, M_g39, M_g40, M_g41]
          refine r_takesL (d := d + 25) (l := l) (Or.inl rfl) rb320 hok.1.1.1 hr2 fl2 (fun c => wfL_len (n := jL n l) hnl.1 wl c) fun f hf2 => ?_
          have rm := RM_act (m2 := xA m2 320 f) hm1 hq kp (fun _ _ => rfl) rfl (fun q _ hn => kA_ne hn) (by rw [kA_eq]; exact hf2) hok' ⟨rfl, rfl, rfl, fun _ _ => rfl⟩
          obtain ⟨hg3, hr3, -⟩ := RM_q rm rfl
          simp (disch := omega) only [u_242_0, u_242_1, u_242_2, u_242_5, u_242_6, u_242_9, u_242_12, u_242_13, u_242_14, u_242_17, u_242_18, u_242_19, u_242_20, u_242_21, u_242_24, u_242_27, u_242_30, u_242_31, u_242_32, u_242_35, u_242_36, u_242_39, u_242_42, u_242_43, u_242_44, u_242_47, u_242_50, u_242_51, u_242_52, u_242_55, u_242_56, u_242_57, u_242_60, u_242_61, u_242_62, u_242_65, u_242_66, u_242_69, u_242_72, u_242_73, u_242_74, u_242_77, u_242_80, u_242_83, gI0, gIs, gR0, gRs, gF0, gFs, st0, st_i, st_r, st_f, st_n, st_s, true_and, and_true, ↓ifLeT, ↓ifLeF, ↓ifLtT, ↓ifLtF, ↓ifEqT, ↓ifEqF, if_tt, if_ff, if_pos, if_neg, nLe, nLt, nEq, nInT, nCl, pk_mul, nI_add, Nat.reduceAdd, s_cat_nil, s_cat_i, s_cat_r, s_cat_f, s_cat_l, tl_s, tl_n, cat_i, cat_r, cat_f, nb0, nb1, nbI, if_bI, if_bIr, Nat.zero_le, Nat.reduceLeDiff, M_ob, M_g0, M_g1, M_g2, M_g3, M_g4, M_g5, M_g6, M_g7, M_g8, M_g9, M_g10, M_g11, M_g12, M_g13, M_g14, M_g15, M_g16, M_g17, M_g18, M_g19, M_g20, M_g21, M_g22, M_g23, M_g24, M_g25, M_g26, M_g27, M_g28, M_g29, M_g30, M_g31, M_g32, M_g33, M_g34, M_g35, M_g36, M_g37, M_g38, M_g39, M_g40, M_g41]
          refine r_lastV (d := d + 16) rb320 (by decide) hnl hg3 hr3 fun m3 f3 => ?_
          simp (disch := omega) only [u_242_0, u_242_1, u_242_2, u_242_5, u_242_6, u_242_9, u_242_12, u_242_13, u_242_14, u_242_17, u_242_18, u_242_19, u_242_20, u_242_21, u_242_24, u_242_27, u_242_30, u_242_31, u_242_32, u_242_35, u_242_36, u_242_39, u_242_42, u_242_43, u_242_44, u_242_47, u_242_50, u_242_51, u_242_52, u_242_55, u_242_56, u_242_57, u_242_60, u_242_61, u_242_62, u_242_65, u_242_66, u_242_69, u_242_72, u_242_73, u_242_74, u_242_77, u_242_80, u_242_83, gI0, gIs, gR0, gRs, gF0, gFs, st0, st_i, st_r, st_f, st_n, st_s, true_and, and_true, ↓ifLeT, ↓ifLeF, ↓ifLtT, ↓ifLtF, ↓ifEqT, ↓ifEqF, if_tt, if_ff, if_pos, if_neg, nLe, nLt, nEq, nInT, nCl, pk_mul, nI_add, Nat.reduceAdd, s_cat_nil, s_cat_i, s_cat_r, s_cat_f, s_cat_l, tl_s, tl_n, cat_i, cat_r, cat_f, nb0, nb1, nbI, if_bI, if_bIr, Nat.zero_le, Nat.reduceLeDiff, m_toldV]
          exact K m3 (RM_fr (frZ_M (Or.inl rfl) f3) rm)
end MFO
