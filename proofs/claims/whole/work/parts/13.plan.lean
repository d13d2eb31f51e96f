/-! Plan: lists of tasks and how long they are -/
abbrev tP : Type := (Nat → Int32) × (Nat → Nat)
def cP (b : Nat) (p : tP) : Nat → sC
  | 0 => .inr (3, [.ref (b + 1), .ref (b + 2)])
  | 1 => .inl (0, 32, .inl (tr32 32 p.1))
  | _ => .inl (0, 4, .inl (tr32 4 fun j => nI (p.2 j)))
def pP (b : Nat) (p : tP) (h : sH) : sH := pC b 3 (cP b p) h
section PL
variable {b d : Nat} {p : tP} {h : sH} {k : sK} {Q : sQ} {i x : Int32}
theorem hgP0 : hg (pP b p h) b = .inr (3, [.ref (b + 1), .ref (b + 2)]) := hgC0 (by decide)
theorem hgP1 : hg (pP b p h) (b + 1) = .inl (0, 32, .inl (tr32 32 p.1)) := hgC (by decide)
theorem hgP2 : hg (pP b p h) (b + 2) = .inl (0, 4, .inl (tr32 4 fun j => nI (p.2 j))) := hgC (by decide)
theorem P_list {f : Value → Prop} : fG (pP b p h) b 3 0 f ↔ f (.ref (b + 1)) := by
  unfold fG oO; rw [hgP0]; exact ⟨fun z => z.2, fun z => ⟨rfl, z⟩⟩
theorem P_size {f : Value → Prop} : fG (pP b p h) b 3 1 f ↔ f (.ref (b + 2)) := by
  unfold fG oO; rw [hgP0]; exact ⟨fun z => z.2, fun z => ⟨rfl, z⟩⟩
theorem P_ob {c : Nat} : (oO (pP b p h) b fun c' _ => c' = c) ↔ 3 = c := by unfold oO; rw [hgP0]
theorem P_at {f : Int32 → Prop} : aG (pP b p h) (b + 1) i f ↔ vp_in i 32 ∧ f (p.1 i.toNatClampNeg) := by
  unfold aG oI; rw [hgP1]; exact ⟨fun z => ⟨z.2.1, by have := z.2.2; rwa [tr_in (vp_lt z.2.1)] at this⟩, fun z => ⟨Or.inl rfl, z.1, by rw [tr_in (vp_lt z.1)]; exact z.2⟩⟩
theorem P_sz {f : Int32 → Prop} : aG (pP b p h) (b + 2) i f ↔ vp_in i 4 ∧ f (nI (p.2 i.toNatClampNeg)) := by
  unfold aG oI; rw [hgP2]; exact ⟨fun z => ⟨z.2.1, by have := z.2.2; rwa [tr_in (vp_lt z.2.1)] at this⟩, fun z => ⟨Or.inl rfl, z.1, by rw [tr_in (vp_lt z.1)]; exact z.2⟩⟩
theorem P_len {f : Int32 → Prop} : aL (pP b p h) (b + 2) f ↔ f (nI 4) := by
  unfold aL oA; rw [hgP2]; exact ⟨fun z => z.2, fun z => ⟨Or.inl (by decide), z⟩⟩
theorem P_len1 {f : Int32 → Prop} : aL (pP b p h) (b + 1) f ↔ f (nI 32) := by
  unfold aL oA; rw [hgP1]; exact ⟨fun z => z.2, fun z => ⟨Or.inl (by decide), z⟩⟩
def uL (p : tP) (j : Nat) (x : Int32) : tP := (upd p.1 j x, p.2)
def uN (p : tP) (j : Nat) (n : Nat) : tP := (p.1, fun q => if q = j then n else p.2 q)
theorem hsP1 {f : Nat → Int32} : hs (pP b p h) (b + 1) (.inl (0, 32, .inl (tr32 32 f))) = pP b (f, p.2) h := hsC (by decide) fun i hi => by
  match i, hi with
  | 0, _ => rfl
  | 1, _ => rfl
  | 2, _ => rfl
theorem hsP2 {f : Nat → Nat} : hs (pP b p h) (b + 2) (.inl (0, 4, .inl (tr32 4 fun j => nI (f j)))) = pP b (p.1, f) h := hsC (by decide) fun i hi => by
  match i, hi with
  | 0, _ => rfl
  | 1, _ => rfl
  | 2, _ => rfl
theorem P_set {f : sH → Prop} : aS (pP b p h) (b + 1) i x f ↔ vp_in i 32 ∧ f (pP b (uL p i.toNatClampNeg x) h) := by
  unfold aS oI; rw [hgP1]
  constructor
  · exact fun z => ⟨z.2.1, by have := z.2.2; rw [tr_upd (vp_lt z.2.1), hsP1] at this; exact this⟩
  · exact fun z => ⟨rfl, z.1, by rw [tr_upd (vp_lt z.1), hsP1]; exact z.2⟩
theorem P_setN {n : Nat} {f : sH → Prop} : aS (pP b p h) (b + 2) i (nI n) f ↔ vp_in i 4 ∧ f (pP b (uN p i.toNatClampNeg n) h) := by
  unfold aS oI; rw [hgP2]
  have e : upd (fun j => nI (p.2 j)) i.toNatClampNeg (nI n) = fun j => nI ((uN p i.toNatClampNeg n).2 j) := by
    funext j
    by_cases hj : j = i.toNatClampNeg <;> simp [upd, uN, hj]
  constructor
  · exact fun z => ⟨z.2.1, by have := z.2.2; rw [tr_upd (vp_lt z.2.1), e, hsP2] at this; exact this⟩
  · exact fun z => ⟨rfl, z.1, by rw [tr_upd (vp_lt z.1), e, hsP2]; exact z.2⟩
theorem pP_eq {p q : tP} (h1 : ∀ j, j < 32 → p.1 j = q.1 j) (h2 : ∀ j, j < 4 → p.2 j = q.2 j) : pP b p h = pP b q h := by
  have e1 : tr32 32 p.1 = tr32 32 q.1 := tr_eq h1
  have e2 : (tr32 4 fun j => nI (p.2 j)) = tr32 4 fun j => nI (q.2 j) := tr_eq fun j hj => by rw [h2 j hj]
  have e : cP b p = cP b q := by
    funext j
    match j with
    | 0 => rfl
    | 1 => show Sum.inl (0, 32, Sum.inl _) = Sum.inl (0, 32, Sum.inl _); rw [e1]
    | j + 2 => show Sum.inl (0, 4, Sum.inl _) = Sum.inl (0, 4, Sum.inl _); rw [e2]
  unfold pP
  rw [e]
/-- where a task stands: 8 c + k -/
def fndIn (p : tP) (t : Int32) (c : Nat) (k n : Nat) : Option Nat := sfrom (fun k => if p.1 (c * 8 + k) = t then some (c * 8 + k) else none) k n
def fnd (p : tP) (t : Int32) : Option Nat := sfrom (fun c => fndIn p t c 0 (p.2 c)) 0 4
def okS (p : tP) : Prop := ∀ c, c < 4 → p.2 c ≤ 8
theorem find_in {t : Int32} {c : Nat} (hc : c < 4) (hs : p.2 c ≤ 8) : ∀ n j, j + n = p.2 c → (WP d 28 13 [.ref b, .int t, .int (nI c), .int (nI j)] [] (pP b p h) k Q ↔ match fndIn p t c j n with | some q => Q (some (.int (nI q))) (pP b p h) | none => WP d 28 57 [.ref b, .int t, .int (nI c), .int (nI (p.2 c))] [] (pP b p h) k Q) := by
  intro n
  induction n with
  | zero =>
    intro j hj
    have e : j = p.2 c := by omega
    subst e
    by_cases h8 : p.2 c = 8
    · simp (disch := omega) only [u_28_13, u_28_14, u_28_16, gI0, gIs, gR0, gRs, gF0, gFs, st0, st_i, st_r, st_f, st_n, st_s, true_and, and_true, ↓ifLeT, ↓ifLeF, ↓ifLtT, ↓ifLtF, ↓ifEqT, ↓ifEqF, if_tt, if_ff, if_pos, if_neg, nLe, nLt, nEq, nInT, nCl, pk_mul, nI_add, Nat.reduceAdd, s_cat_nil, s_cat_i, s_cat_r, s_cat_f, s_cat_l, tl_s, tl_n, cat_i, cat_r, cat_f, nb0, nb1, nbI, if_bI, if_bIr, Nat.zero_le, Nat.reduceLeDiff, h8, fndIn, sfrom, Nat.le_refl]
    · simp (disch := omega) only [u_28_13, u_28_14, u_28_16, u_28_19, u_28_20, u_28_21, u_28_24, u_28_25, u_28_26, gI0, gIs, gR0, gRs, gF0, gFs, st0, st_i, st_r, st_f, st_n, st_s, true_and, and_true, ↓ifLeT, ↓ifLeF, ↓ifLtT, ↓ifLtF, ↓ifEqT, ↓ifEqF, if_tt, if_ff, if_pos, if_neg, nLe, nLt, nEq, nInT, nCl, pk_mul, nI_add, Nat.reduceAdd, s_cat_nil, s_cat_i, s_cat_r, s_cat_f, s_cat_l, tl_s, tl_n, cat_i, cat_r, cat_f, nb0, nb1, nbI, if_bI, if_bIr, Nat.zero_le, Nat.reduceLeDiff, P_size, P_sz, fndIn, sfrom, Nat.le_refl]
  | succ n ih =>
    intro j hj
    rw [u_28_13]
    simp (disch := omega) only [u_28_14, u_28_16, u_28_19, u_28_20, u_28_21, u_28_24, u_28_25, u_28_26, u_28_29, u_28_30, u_28_33, u_28_34, u_28_36, u_28_37, u_28_38, u_28_39, u_28_40, u_28_41, u_28_44, u_28_45, u_28_47, u_28_48, u_28_49, u_28_50, u_28_51, u_28_54, gI0, gIs, gR0, gRs, gF0, gFs, st0, st_i, st_r, st_f, st_n, st_s, true_and, and_true, ↓ifLeT, ↓ifLeF, ↓ifLtT, ↓ifLtF, ↓ifEqT, ↓ifEqF, if_tt, if_ff, if_pos, if_neg, nLe, nLt, nEq, nInT, nCl, pk_mul, nI_add, Nat.reduceAdd, s_cat_nil, s_cat_i, s_cat_r, s_cat_f, s_cat_l, tl_s, tl_n, cat_i, cat_r, cat_f, nb0, nb1, nbI, if_bI, if_bIr, Nat.zero_le, Nat.reduceLeDiff, P_size, P_sz, P_list, P_at]
    have ih := ih (j + 1) (by omega)
    unfold fndIn at ih ⊢
    unfold sfrom
    by_cases hx : p.1 (c * 8 + j) = t
    · simp only [hx, if_true]
    · simp only [hx, if_false, ih]
theorem find_out {t : Int32} (hs : okS p) : ∀ n c j, c + n = 4 → (WP d 28 2 [.ref b, .int t, .int (nI c), j] [] (pP b p h) k Q ↔ match sfrom (fun c => fndIn p t c 0 (p.2 c)) c n with | some q => Q (some (.int (nI q))) (pP b p h) | none => Q (some (.int (-1))) (pP b p h)) := by
  intro n
  induction n with
  | zero =>
    intro c j hj
    have e : c = 4 := by omega
    subst e
    simp (disch := omega) only [u_28_2, u_28_3, u_28_4, u_28_7, u_28_8, u_28_63, u_28_64, gI0, gIs, gR0, gRs, gF0, gFs, st0, st_i, st_r, st_f, st_n, st_s, true_and, and_true, ↓ifLeT, ↓ifLeF, ↓ifLtT, ↓ifLtF, ↓ifEqT, ↓ifEqF, if_tt, if_ff, if_pos, if_neg, nLe, nLt, nEq, nInT, nCl, pk_mul, nI_add, Nat.reduceAdd, s_cat_nil, s_cat_i, s_cat_r, s_cat_f, s_cat_l, tl_s, tl_n, cat_i, cat_r, cat_f, nb0, nb1, nbI, if_bI, if_bIr, Nat.zero_le, Nat.reduceLeDiff, P_size, P_len, sfrom, Nat.le_refl]
  | succ n ih =>
    intro c j hj
    rw [u_28_2]
    simp (disch := omega) only [u_28_3, u_28_4, u_28_7, u_28_8, u_28_11, u_28_12, gI0, gIs, gR0, gRs, gF0, gFs, st0, st_i, st_r, st_f, st_n, st_s, true_and, and_true, ↓ifLeT, ↓ifLeF, ↓ifLtT, ↓ifLtF, ↓ifEqT, ↓ifEqF, if_tt, if_ff, if_pos, if_neg, nLe, nLt, nEq, nInT, nCl, pk_mul, nI_add, Nat.reduceAdd, s_cat_nil, s_cat_i, s_cat_r, s_cat_f, s_cat_l, tl_s, tl_n, cat_i, cat_r, cat_f, nb0, nb1, nbI, if_bI, if_bIr, Nat.zero_le, Nat.reduceLeDiff, P_size, P_len]
    rw [find_in (by omega) (hs c (by omega)) (p.2 c) 0 (by omega)]
    unfold sfrom
    cases hx : fndIn p t c 0 (p.2 c) with
    | some q => exact Iff.rfl
    | none =>
      simp (disch := omega) only [u_28_57, u_28_60, gI0, gIs, gR0, gRs, gF0, gFs, st0, st_i, st_r, st_f, st_n, st_s, true_and, and_true, ↓ifLeT, ↓ifLeF, ↓ifLtT, ↓ifLtF, ↓ifEqT, ↓ifEqF, if_tt, if_ff, if_pos, if_neg, nLe, nLt, nEq, nInT, nCl, pk_mul, nI_add, Nat.reduceAdd, s_cat_nil, s_cat_i, s_cat_r, s_cat_f, s_cat_l, tl_s, tl_n, cat_i, cat_r, cat_f, nb0, nb1, nbI, if_bI, if_bIr, Nat.zero_le, Nat.reduceLeDiff, ih (c + 1) _ (by omega)]
theorem m_find {t : Int32} (hs : okS p) : MT (d + 1) 28 [.ref b, .int t] (pP b p h) Q ↔ Q (some (.int (match fnd p t with | some q => nI q | none => -1))) (pP b p h) := by
  rw [MT_go (by decide) _ _ _ (Nat.le_of_ble_eq_true rfl), show s_entry 28 [.ref b, .int t] = [.ref b, .int t, s_no, s_no] from rfl]
  simp (disch := omega) only [u_28_0, u_28_1, gI0, gIs, gR0, gRs, gF0, gFs, st0, st_i, st_r, st_f, st_n, st_s, true_and, and_true, ↓ifLeT, ↓ifLeF, ↓ifLtT, ↓ifLtF, ↓ifEqT, ↓ifEqF, if_tt, if_ff, if_pos, if_neg, nLe, nLt, nEq, nInT, nCl, pk_mul, nI_add, Nat.reduceAdd, s_cat_nil, s_cat_i, s_cat_r, s_cat_f, s_cat_l, tl_s, tl_n, cat_i, cat_r, cat_f, nb0, nb1, nbI, if_bI, if_bIr, Nat.zero_le, Nat.reduceLeDiff, find_out hs 4 0 _ rfl]
  unfold fnd
  cases sfrom (fun c => fndIn p t c 0 (p.2 c)) 0 4 <;> exact Iff.rfl
theorem sfrom_some {α : Type} {f : Nat → Option α} {x : α} : ∀ {n i : Nat}, sfrom f i n = some x → ∃ j, i ≤ j ∧ j < i + n ∧ f j = some x
  | 0, i, e => by cases e
  | n + 1, i, e => by
    unfold sfrom at e
    cases hf : f i with
    | some y => rw [hf] at e; cases e; exact ⟨i, Nat.le_refl _, by omega, hf⟩
    | none =>
      rw [hf] at e
      obtain ⟨j, h1, h2, h3⟩ := sfrom_some e
      exact ⟨j, by omega, by omega, h3⟩
theorem fnd_some {t : Int32} {q : Nat} (hs : okS p) (e : fnd p t = some q) : ∃ c j, c < 4 ∧ j < p.2 c ∧ q = c * 8 + j ∧ p.1 q = t := by
  obtain ⟨c, -, h1, h2⟩ := sfrom_some e
  obtain ⟨j, -, h3, h4⟩ := sfrom_some h2
  by_cases hx : p.1 (c * 8 + j) = t
  · rw [if_pos hx] at h4
    cases h4
    exact ⟨c, j, by omega, by omega, rfl, hx⟩
  · rw [if_neg hx] at h4
    cases h4
theorem fnd_lt {t : Int32} {q : Nat} (hs : okS p) (e : fnd p t = some q) : q < 32 := by
  obtain ⟨c, j, h1, h2, h3, -⟩ := fnd_some hs e
  have := hs c h1
  omega
def holdP (p : tP) (t : Int32) : Int32 := match fnd p t with | some q => nI (q / 8) | none => -1
def spotP (p : tP) (t : Int32) : Int32 := match fnd p t with | some q => nI (q % 8) | none => -1
theorem m1_lt : ((-1 : Int32) < nI 0) ↔ True := by decide
theorem m1_le : (nI 0 ≤ (-1 : Int32)) ↔ False := by decide
theorem m_holder {t : Int32} (hs : okS p) : MT (d + 2) 26 [.ref b, .int t] (pP b p h) Q ↔ Q (some (.int (holdP p t))) (pP b p h) := by
  rw [MT_go (by decide) _ _ _ (Nat.le_of_ble_eq_true rfl), show s_entry 26 [.ref b, .int t] = [.ref b, .int t, s_no] from rfl]
  simp (disch := omega) only [u_26_0, u_26_1, u_26_2, u_26_5, gI0, gIs, gR0, gRs, gF0, gFs, st0, st_i, st_r, st_f, st_n, st_s, true_and, and_true, ↓ifLeT, ↓ifLeF, ↓ifLtT, ↓ifLtF, ↓ifEqT, ↓ifEqF, if_tt, if_ff, if_pos, if_neg, nLe, nLt, nEq, nInT, nCl, pk_mul, nI_add, Nat.reduceAdd, s_cat_nil, s_cat_i, s_cat_r, s_cat_f, s_cat_l, tl_s, tl_n, cat_i, cat_r, cat_f, nb0, nb1, nbI, if_bI, if_bIr, Nat.zero_le, Nat.reduceLeDiff, P_ob, m_find hs]
  unfold holdP
  cases e : fnd p t with
  | none => simp (disch := omega) only [u_26_6, u_26_7, u_26_10, u_26_11, u_26_14, u_26_15, u_26_17, u_26_18, gI0, gIs, gR0, gRs, gF0, gFs, st0, st_i, st_r, st_f, st_n, st_s, true_and, and_true, ↓ifLeT, ↓ifLeF, ↓ifLtT, ↓ifLtF, ↓ifEqT, ↓ifEqF, if_tt, if_ff, if_pos, if_neg, nLe, nLt, nEq, nInT, nCl, pk_mul, nI_add, Nat.reduceAdd, s_cat_nil, s_cat_i, s_cat_r, s_cat_f, s_cat_l, tl_s, tl_n, cat_i, cat_r, cat_f, nb0, nb1, nbI, if_bI, if_bIr, Nat.zero_le, Nat.reduceLeDiff, m1_le]
  | some q =>
    have hq := fnd_lt hs e
    have h8 : ¬ nI 8 = 0 := by decide
    simp (disch := omega) only [u_26_6, u_26_7, u_26_10, u_26_11, u_26_14, u_26_15, u_26_17, u_26_18, gI0, gIs, gR0, gRs, gF0, gFs, st0, st_i, st_r, st_f, st_n, st_s, true_and, and_true, ↓ifLeT, ↓ifLeF, ↓ifLtT, ↓ifLtF, ↓ifEqT, ↓ifEqF, if_tt, if_ff, if_pos, if_neg, nLe, nLt, nEq, nInT, nCl, pk_mul, nI_add, Nat.reduceAdd, s_cat_nil, s_cat_i, s_cat_r, s_cat_f, s_cat_l, tl_s, tl_n, cat_i, cat_r, cat_f, nb0, nb1, nbI, if_bI, if_bIr, Nat.zero_le, Nat.reduceLeDiff, pk_div, h8, not_false_eq_true]
theorem m_spot {t : Int32} (hs : okS p) : MT (d + 2) 27 [.ref b, .int t] (pP b p h) Q ↔ Q (some (.int (spotP p t))) (pP b p h) := by
  rw [MT_go (by decide) _ _ _ (Nat.le_of_ble_eq_true rfl), show s_entry 27 [.ref b, .int t] = [.ref b, .int t, s_no] from rfl]
  simp (disch := omega) only [u_27_0, u_27_1, u_27_2, u_27_5, gI0, gIs, gR0, gRs, gF0, gFs, st0, st_i, st_r, st_f, st_n, st_s, true_and, and_true, ↓ifLeT, ↓ifLeF, ↓ifLtT, ↓ifLtF, ↓ifEqT, ↓ifEqF, if_tt, if_ff, if_pos, if_neg, nLe, nLt, nEq, nInT, nCl, pk_mul, nI_add, Nat.reduceAdd, s_cat_nil, s_cat_i, s_cat_r, s_cat_f, s_cat_l, tl_s, tl_n, cat_i, cat_r, cat_f, nb0, nb1, nbI, if_bI, if_bIr, Nat.zero_le, Nat.reduceLeDiff, P_ob, m_find hs]
  unfold spotP
  cases e : fnd p t with
  | none => simp (disch := omega) only [u_27_6, u_27_7, u_27_10, u_27_11, u_27_14, u_27_15, u_27_17, u_27_18, gI0, gIs, gR0, gRs, gF0, gFs, st0, st_i, st_r, st_f, st_n, st_s, true_and, and_true, ↓ifLeT, ↓ifLeF, ↓ifLtT, ↓ifLtF, ↓ifEqT, ↓ifEqF, if_tt, if_ff, if_pos, if_neg, nLe, nLt, nEq, nInT, nCl, pk_mul, nI_add, Nat.reduceAdd, s_cat_nil, s_cat_i, s_cat_r, s_cat_f, s_cat_l, tl_s, tl_n, cat_i, cat_r, cat_f, nb0, nb1, nbI, if_bI, if_bIr, Nat.zero_le, Nat.reduceLeDiff, m1_le]
  | some q =>
    have hq := fnd_lt hs e
    have h8 : ¬ nI 8 = 0 := by decide
    simp (disch := omega) only [u_27_6, u_27_7, u_27_10, u_27_11, u_27_14, u_27_15, u_27_17, u_27_18, gI0, gIs, gR0, gRs, gF0, gFs, st0, st_i, st_r, st_f, st_n, st_s, true_and, and_true, ↓ifLeT, ↓ifLeF, ↓ifLtT, ↓ifLtF, ↓ifEqT, ↓ifEqF, if_tt, if_ff, if_pos, if_neg, nLe, nLt, nEq, nInT, nCl, pk_mul, nI_add, Nat.reduceAdd, s_cat_nil, s_cat_i, s_cat_r, s_cat_f, s_cat_l, tl_s, tl_n, cat_i, cat_r, cat_f, nb0, nb1, nbI, if_bI, if_bIr, Nat.zero_le, Nat.reduceLeDiff, pk_rem, h8, not_false_eq_true]
theorem m_at {c j : Nat} (hs : okS p) (hc : c < 4) (hj : j < p.2 c) : MT (d + 1) 21 [.ref b, .int (nI c), .int (nI j)] (pP b p h) Q ↔ Q (some (.int (p.1 (c * 8 + j)))) (pP b p h) := by
  have := hs c hc
  rw [MT_go (by decide) _ _ _ (Nat.le_of_ble_eq_true rfl), show s_entry 21 [.ref b, .int (nI c), .int (nI j)] = [.ref b, .int (nI c), .int (nI j)] from rfl]
  simp (disch := omega) only [u_21_0, u_21_1, u_21_4, u_21_5, u_21_6, u_21_9, u_21_10, u_21_13, u_21_14, u_21_17, u_21_18, u_21_19, u_21_22, u_21_23, u_21_24, u_21_27, u_21_28, u_21_30, u_21_33, u_21_34, u_21_35, u_21_36, u_21_39, u_21_40, u_21_42, u_21_43, u_21_44, u_21_45, u_21_46, gI0, gIs, gR0, gRs, gF0, gFs, st0, st_i, st_r, st_f, st_n, st_s, true_and, and_true, ↓ifLeT, ↓ifLeF, ↓ifLtT, ↓ifLtF, ↓ifEqT, ↓ifEqF, if_tt, if_ff, if_pos, if_neg, nLe, nLt, nEq, nInT, nCl, pk_mul, nI_add, Nat.reduceAdd, s_cat_nil, s_cat_i, s_cat_r, s_cat_f, s_cat_l, tl_s, tl_n, cat_i, cat_r, cat_f, nb0, nb1, nbI, if_bI, if_bIr, Nat.zero_le, Nat.reduceLeDiff, P_list, P_size, P_len, P_sz, P_at]
theorem m_dropLast {c : Nat} (hs : okS p) (hc : c < 4) (h0 : 0 < p.2 c) : MT (d + 1) 25 [.ref b, .int (nI c)] (pP b p h) Q ↔ Q none (pP b (uN p c (p.2 c - 1)) h) := by
  have := hs c hc
  rw [MT_go (by decide) _ _ _ (Nat.le_of_ble_eq_true rfl), show s_entry 25 [.ref b, .int (nI c)] = [.ref b, .int (nI c)] from rfl]
  simp (disch := omega) only [u_25_0, u_25_1, u_25_4, u_25_5, u_25_6, u_25_9, u_25_10, u_25_13, u_25_14, u_25_17, u_25_18, u_25_19, u_25_22, u_25_23, u_25_26, u_25_27, u_25_28, u_25_29, u_25_30, u_25_31, u_25_32, gI0, gIs, gR0, gRs, gF0, gFs, st0, st_i, st_r, st_f, st_n, st_s, true_and, and_true, ↓ifLeT, ↓ifLeF, ↓ifLtT, ↓ifLtF, ↓ifEqT, ↓ifEqF, if_tt, if_ff, if_pos, if_neg, nLe, nLt, nEq, nInT, nCl, pk_mul, nI_add, Nat.reduceAdd, s_cat_nil, s_cat_i, s_cat_r, s_cat_f, s_cat_l, tl_s, tl_n, cat_i, cat_r, cat_f, nb0, nb1, nbI, if_bI, if_bIr, Nat.zero_le, Nat.reduceLeDiff, P_list, P_size, P_len, P_sz, P_at, pk_sub, P_setN]
theorem uN_fil {c : Nat} {f g : Nat → Nat} {l : Nat → Int32} {x : Nat} (hx : x = f c) : uN (l, fil c f g) c x = (l, fil (c + 1) f g) := by
  unfold uN fil
  refine congrArg (fun z => (l, z)) (funext fun j => ?_)
  by_cases h1 : j = c
  · subst h1; simp [hx]
  · by_cases h2 : j < c
    · simp [h1, h2, Nat.lt_succ_of_lt h2]
    · simp [h1, h2, show ¬ j < c + 1 by omega]
theorem clear_lp : ∀ n c, c + n = 4 → (WP d 19 2 [.ref b, .int (nI c)] [] (pP b (p.1, fil c (fun _ => 0) p.2) h) k Q ↔ Q none (pP b (p.1, fun _ => 0) h)) := by
  intro n
  induction n with
  | zero =>
    intro c hc
    have e : c = 4 := by omega
    subst e
    simp (disch := omega) only [u_19_0, u_19_1, u_19_2, u_19_3, u_19_4, u_19_7, u_19_8, u_19_11, u_19_12, u_19_15, u_19_16, u_19_17, u_19_18, u_19_21, u_19_24, gI0, gIs, gR0, gRs, gF0, gFs, st0, st_i, st_r, st_f, st_n, st_s, true_and, and_true, ↓ifLeT, ↓ifLeF, ↓ifLtT, ↓ifLtF, ↓ifEqT, ↓ifEqF, if_tt, if_ff, if_pos, if_neg, nLe, nLt, nEq, nInT, nCl, pk_mul, nI_add, Nat.reduceAdd, s_cat_nil, s_cat_i, s_cat_r, s_cat_f, s_cat_l, tl_s, tl_n, cat_i, cat_r, cat_f, nb0, nb1, nbI, if_bI, if_bIr, Nat.zero_le, Nat.reduceLeDiff, P_size, P_len]
    rw [pP_eq (p := (p.1, fil 4 (fun _ => 0) p.2)) (q := (p.1, fun _ => 0)) (fun j hj => rfl) (fun j hj => by exact fil_in (f := fun _ => 0) hj)]
  | succ n ih =>
    intro c hc
    rw [u_19_2]
    simp (disch := omega) only [u_19_3, u_19_4, u_19_7, u_19_8, u_19_11, u_19_12, u_19_15, u_19_16, u_19_17, u_19_18, u_19_21, u_19_24, gI0, gIs, gR0, gRs, gF0, gFs, st0, st_i, st_r, st_f, st_n, st_s, true_and, and_true, ↓ifLeT, ↓ifLeF, ↓ifLtT, ↓ifLtF, ↓ifEqT, ↓ifEqF, if_tt, if_ff, if_pos, if_neg, nLe, nLt, nEq, nInT, nCl, pk_mul, nI_add, Nat.reduceAdd, s_cat_nil, s_cat_i, s_cat_r, s_cat_f, s_cat_l, tl_s, tl_n, cat_i, cat_r, cat_f, nb0, nb1, nbI, if_bI, if_bIr, Nat.zero_le, Nat.reduceLeDiff, P_size, P_len, P_setN, uN_fil, ih (c + 1) (by omega)]
theorem m_clear : MT (d + 1) 19 [.ref b] (pP b p h) Q ↔ Q none (pP b (p.1, fun _ => 0) h) := by
  rw [MT_go (by decide) _ _ _ (Nat.le_of_ble_eq_true rfl), show s_entry 19 [.ref b] = [.ref b, s_no] from rfl]
  have := clear_lp (d := d) (b := b) (p := p) (h := h) (k := (0, 0)) (Q := Q) 4 0 rfl
  rw [fil_0] at this
  simp (disch := omega) only [u_19_0, u_19_1, gI0, gIs, gR0, gRs, gF0, gFs, st0, st_i, st_r, st_f, st_n, st_s, true_and, and_true, ↓ifLeT, ↓ifLeF, ↓ifLtT, ↓ifLtF, ↓ifEqT, ↓ifEqF, if_tt, if_ff, if_pos, if_neg, nLe, nLt, nEq, nInT, nCl, pk_mul, nI_add, Nat.reduceAdd, s_cat_nil, s_cat_i, s_cat_r, s_cat_f, s_cat_l, tl_s, tl_n, cat_i, cat_r, cat_f, nb0, nb1, nbI, if_bI, if_bIr, Nat.zero_le, Nat.reduceLeDiff]
  exact this
def bitIn (p : tP) (c j n : Nat) (x : Int32) : Int32 := iter (fun j x => x ||| (nI 1 <<< (p.1 (c * 8 + j) &&& 31))) j n x
def bitsP (p : tP) : Int32 := iter (fun c x => bitIn p c 0 (p.2 c) x) 0 4 (nI 0)
theorem bits_in {c : Nat} (hc : c < 4) (hs : p.2 c ≤ 8) : ∀ n j x, j + n = p.2 c → (WP d 29 15 [.ref b, .int x, .int (nI c), .int (nI j)] [] (pP b p h) k Q ↔ WP d 29 53 [.ref b, .int (bitIn p c j n x), .int (nI c), .int (nI (p.2 c))] [] (pP b p h) k Q) := by
  intro n
  induction n with
  | zero =>
    intro j x hj
    have e : j = p.2 c := by omega
    subst e
    by_cases h8 : p.2 c = 8
    · simp (disch := omega) only [u_29_15, u_29_16, u_29_18, gI0, gIs, gR0, gRs, gF0, gFs, st0, st_i, st_r, st_f, st_n, st_s, true_and, and_true, ↓ifLeT, ↓ifLeF, ↓ifLtT, ↓ifLtF, ↓ifEqT, ↓ifEqF, if_tt, if_ff, if_pos, if_neg, nLe, nLt, nEq, nInT, nCl, pk_mul, nI_add, Nat.reduceAdd, s_cat_nil, s_cat_i, s_cat_r, s_cat_f, s_cat_l, tl_s, tl_n, cat_i, cat_r, cat_f, nb0, nb1, nbI, if_bI, if_bIr, Nat.zero_le, Nat.reduceLeDiff, h8, bitIn, iter, Nat.le_refl]
    · simp (disch := omega) only [u_29_15, u_29_16, u_29_18, u_29_21, u_29_22, u_29_23, u_29_26, u_29_27, u_29_28, gI0, gIs, gR0, gRs, gF0, gFs, st0, st_i, st_r, st_f, st_n, st_s, true_and, and_true, ↓ifLeT, ↓ifLeF, ↓ifLtT, ↓ifLtF, ↓ifEqT, ↓ifEqF, if_tt, if_ff, if_pos, if_neg, nLe, nLt, nEq, nInT, nCl, pk_mul, nI_add, Nat.reduceAdd, s_cat_nil, s_cat_i, s_cat_r, s_cat_f, s_cat_l, tl_s, tl_n, cat_i, cat_r, cat_f, nb0, nb1, nbI, if_bI, if_bIr, Nat.zero_le, Nat.reduceLeDiff, P_size, P_sz, bitIn, iter, Nat.le_refl]
  | succ n ih =>
    intro j x hj
    rw [u_29_15]
    simp (disch := omega) only [u_29_16, u_29_18, u_29_21, u_29_22, u_29_23, u_29_26, u_29_27, u_29_28, u_29_31, u_29_32, u_29_33, u_29_34, u_29_37, u_29_38, u_29_40, u_29_41, u_29_42, u_29_43, u_29_44, u_29_45, u_29_46, u_29_47, u_29_50, gI0, gIs, gR0, gRs, gF0, gFs, st0, st_i, st_r, st_f, st_n, st_s, true_and, and_true, ↓ifLeT, ↓ifLeF, ↓ifLtT, ↓ifLtF, ↓ifEqT, ↓ifEqF, if_tt, if_ff, if_pos, if_neg, nLe, nLt, nEq, nInT, nCl, pk_mul, nI_add, Nat.reduceAdd, s_cat_nil, s_cat_i, s_cat_r, s_cat_f, s_cat_l, tl_s, tl_n, cat_i, cat_r, cat_f, nb0, nb1, nbI, if_bI, if_bIr, Nat.zero_le, Nat.reduceLeDiff, P_size, P_sz, P_list, P_at]
    rw [ih (j + 1) _ (by omega)]
    unfold bitIn
    rw [iter]
theorem bits_out (hs : okS p) : ∀ n c x j, c + n = 4 → (WP d 29 4 [.ref b, .int x, .int (nI c), j] [] (pP b p h) k Q ↔ Q (some (.int (iter (fun c x => bitIn p c 0 (p.2 c) x) c n x))) (pP b p h)) := by
  intro n
  induction n with
  | zero =>
    intro c x j hj
    have e : c = 4 := by omega
    subst e
    simp (disch := omega) only [u_29_4, u_29_5, u_29_6, u_29_9, u_29_10, u_29_59, u_29_60, gI0, gIs, gR0, gRs, gF0, gFs, st0, st_i, st_r, st_f, st_n, st_s, true_and, and_true, ↓ifLeT, ↓ifLeF, ↓ifLtT, ↓ifLtF, ↓ifEqT, ↓ifEqF, if_tt, if_ff, if_pos, if_neg, nLe, nLt, nEq, nInT, nCl, pk_mul, nI_add, Nat.reduceAdd, s_cat_nil, s_cat_i, s_cat_r, s_cat_f, s_cat_l, tl_s, tl_n, cat_i, cat_r, cat_f, nb0, nb1, nbI, if_bI, if_bIr, Nat.zero_le, Nat.reduceLeDiff, P_size, P_len, iter, Nat.le_refl]
  | succ n ih =>
    intro c x j hj
    rw [u_29_4]
    simp (disch := omega) only [u_29_5, u_29_6, u_29_9, u_29_10, u_29_13, u_29_14, gI0, gIs, gR0, gRs, gF0, gFs, st0, st_i, st_r, st_f, st_n, st_s, true_and, and_true, ↓ifLeT, ↓ifLeF, ↓ifLtT, ↓ifLtF, ↓ifEqT, ↓ifEqF, if_tt, if_ff, if_pos, if_neg, nLe, nLt, nEq, nInT, nCl, pk_mul, nI_add, Nat.reduceAdd, s_cat_nil, s_cat_i, s_cat_r, s_cat_f, s_cat_l, tl_s, tl_n, cat_i, cat_r, cat_f, nb0, nb1, nbI, if_bI, if_bIr, Nat.zero_le, Nat.reduceLeDiff, P_size, P_len]
    rw [bits_in (by omega) (hs c (by omega)) (p.2 c) 0 x (by omega)]
    simp (disch := omega) only [u_29_53, u_29_56, gI0, gIs, gR0, gRs, gF0, gFs, st0, st_i, st_r, st_f, st_n, st_s, true_and, and_true, ↓ifLeT, ↓ifLeF, ↓ifLtT, ↓ifLtF, ↓ifEqT, ↓ifEqF, if_tt, if_ff, if_pos, if_neg, nLe, nLt, nEq, nInT, nCl, pk_mul, nI_add, Nat.reduceAdd, s_cat_nil, s_cat_i, s_cat_r, s_cat_f, s_cat_l, tl_s, tl_n, cat_i, cat_r, cat_f, nb0, nb1, nbI, if_bI, if_bIr, Nat.zero_le, Nat.reduceLeDiff, ih (c + 1) _ _ (by omega), iter]
theorem m_bits (hs : okS p) : MT (d + 1) 29 [.ref b] (pP b p h) Q ↔ Q (some (.int (bitsP p))) (pP b p h) := by
  rw [MT_go (by decide) _ _ _ (Nat.le_of_ble_eq_true rfl), show s_entry 29 [.ref b] = [.ref b, s_no, s_no, s_no] from rfl]
  simp (disch := omega) only [u_29_0, u_29_1, u_29_2, u_29_3, gI0, gIs, gR0, gRs, gF0, gFs, st0, st_i, st_r, st_f, st_n, st_s, true_and, and_true, ↓ifLeT, ↓ifLeF, ↓ifLtT, ↓ifLtF, ↓ifEqT, ↓ifEqF, if_tt, if_ff, if_pos, if_neg, nLe, nLt, nEq, nInT, nCl, pk_mul, nI_add, Nat.reduceAdd, s_cat_nil, s_cat_i, s_cat_r, s_cat_f, s_cat_l, tl_s, tl_n, cat_i, cat_r, cat_f, nb0, nb1, nbI, if_bI, if_bIr, Nat.zero_le, Nat.reduceLeDiff, bits_out hs 4 0 _ _ rfl, bitsP]
/-- a task goes in at a place -/
def shU (l : Nat → Int32) (lo i n : Nat) : Nat → Int32 := fun q => if lo + i < q ∧ q ≤ lo + n then l (q - 1) else l q
def insP (p : tP) (c j : Nat) (t : Int32) : tP := (upd (shU p.1 (c * 8) j (p.2 c)) (c * 8 + j) t, fun q => if q = c then p.2 c + 1 else p.2 q)
theorem shU_0 {l : Nat → Int32} {lo n : Nat} : shU l lo n n = l := by
  funext q
  unfold shU
  rw [if_neg (by omega)]
theorem shU_s {l : Nat → Int32} {lo i n : Nat} (h : i + 1 ≤ n) : upd (shU l lo (i + 1) n) (lo + (i + 1)) (shU l lo (i + 1) n (lo + (i + 1) - 1)) = shU l lo i n := by
  funext q
  unfold upd shU
  by_cases h1 : q = lo + (i + 1)
  · subst h1
    rw [if_pos rfl, if_neg (by omega), if_pos (by omega)]
  · rw [if_neg h1]
    by_cases h2 : lo + i < q ∧ q ≤ lo + n
    · rw [if_pos (by omega), if_pos h2]
    · rw [if_neg (by omega), if_neg h2]
theorem uL_eta {l : Nat → Int32} {s : Nat → Nat} {j : Nat} {x : Int32} : uL (l, s) j x = (upd l j x, s) := rfl
theorem ins_lp {c j0 : Nat} {t : Int32} {s : Nat → Nat} {l : Nat → Int32} {N : Nat} (hc : c < 4) (hN : N < 8) : ∀ n i, j0 + n = i → i ≤ N → (WP d 23 53 [.ref b, .int (nI c), .int (nI j0), .int t, .int (nI (c * 8)), .int (nI i)] [] (pP b (shU l (c * 8) i N, s) h) k Q ↔ WP d 23 87 [.ref b, .int (nI c), .int (nI j0), .int t, .int (nI (c * 8)), .int (nI j0)] [] (pP b (shU l (c * 8) j0 N, s) h) k Q) := by
  intro n
  induction n with
  | zero =>
    intro i hi hn
    have e : i = j0 := by omega
    subst e
    simp (disch := omega) only [u_23_53, u_23_55, u_23_56, gI0, gIs, gR0, gRs, gF0, gFs, st0, st_i, st_r, st_f, st_n, st_s, true_and, and_true, ↓ifLeT, ↓ifLeF, ↓ifLtT, ↓ifLtF, ↓ifEqT, ↓ifEqF, if_tt, if_ff, if_pos, if_neg, nLe, nLt, nEq, nInT, nCl, pk_mul, nI_add, Nat.reduceAdd, s_cat_nil, s_cat_i, s_cat_r, s_cat_f, s_cat_l, tl_s, tl_n, cat_i, cat_r, cat_f, nb0, nb1, nbI, if_bI, if_bIr, Nat.zero_le, Nat.reduceLeDiff, Nat.le_refl]
  | succ n ih =>
    intro i hi hn
    obtain ⟨i, rfl⟩ : ∃ i', i = i' + 1 := ⟨i - 1, by omega⟩
    rw [u_23_53]
    simp (disch := omega) only [u_23_55, u_23_56, u_23_59, u_23_60, u_23_63, u_23_65, u_23_67, u_23_68, u_23_69, u_23_72, u_23_74, u_23_76, u_23_77, u_23_78, u_23_79, u_23_80, u_23_81, u_23_84, gI0, gIs, gR0, gRs, gF0, gFs, st0, st_i, st_r, st_f, st_n, st_s, true_and, and_true, ↓ifLeT, ↓ifLeF, ↓ifLtT, ↓ifLtF, ↓ifEqT, ↓ifEqF, if_tt, if_ff, if_pos, if_neg, nLe, nLt, nEq, nInT, nCl, pk_mul, nI_add, Nat.reduceAdd, s_cat_nil, s_cat_i, s_cat_r, s_cat_f, s_cat_l, tl_s, tl_n, cat_i, cat_r, cat_f, nb0, nb1, nbI, if_bI, if_bIr, Nat.zero_le, Nat.reduceLeDiff, P_list, P_at, P_set, pk_sub, pk_m1, uL_eta, shU_s, ih i (by omega) (by omega)]
theorem m_insert {c j : Nat} {t : Int32} (hs : okS p) (hc : c < 4) (hn : p.2 c < 8) (hj : j ≤ p.2 c) : MT (d + 1) 23 [.ref b, .int (nI c), .int (nI j), .int t] (pP b p h) Q ↔ Q none (pP b (insP p c j t) h) := by
  rw [MT_go (by decide) _ _ _ (Nat.le_of_ble_eq_true rfl), show s_entry 23 [.ref b, .int (nI c), .int (nI j), .int t] = [.ref b, .int (nI c), .int (nI j), .int t, s_no, s_no] from rfl]
  have h1 := ins_lp (d := d) (b := b) (h := h) (k := (0, 0)) (Q := Q) (j0 := j) (t := t) (s := p.2) (l := p.1) hc hn (p.2 c - j) (p.2 c) (by omega) (Nat.le_refl _)
  rw [shU_0] at h1
  simp (disch := omega) only [u_23_0, u_23_1, u_23_4, u_23_5, u_23_6, u_23_9, u_23_10, u_23_13, u_23_14, u_23_17, u_23_18, u_23_19, u_23_21, u_23_24, u_23_25, u_23_28, u_23_29, u_23_30, u_23_33, u_23_34, u_23_35, u_23_38, u_23_39, u_23_40, u_23_42, u_23_43, u_23_45, u_23_46, u_23_49, u_23_50, u_23_51, gI0, gIs, gR0, gRs, gF0, gFs, st0, st_i, st_r, st_f, st_n, st_s, true_and, and_true, ↓ifLeT, ↓ifLeF, ↓ifLtT, ↓ifLtF, ↓ifEqT, ↓ifEqF, if_tt, if_ff, if_pos, if_neg, nLe, nLt, nEq, nInT, nCl, pk_mul, nI_add, Nat.reduceAdd, s_cat_nil, s_cat_i, s_cat_r, s_cat_f, s_cat_l, tl_s, tl_n, cat_i, cat_r, cat_f, nb0, nb1, nbI, if_bI, if_bIr, Nat.zero_le, Nat.reduceLeDiff, P_size, P_sz, P_len, h1]
  simp (disch := omega) only [u_23_87, u_23_88, u_23_91, u_23_93, u_23_94, u_23_95, u_23_96, u_23_97, u_23_98, u_23_101, u_23_102, u_23_103, u_23_104, u_23_105, u_23_106, u_23_107, gI0, gIs, gR0, gRs, gF0, gFs, st0, st_i, st_r, st_f, st_n, st_s, true_and, and_true, ↓ifLeT, ↓ifLeF, ↓ifLtT, ↓ifLtF, ↓ifEqT, ↓ifEqF, if_tt, if_ff, if_pos, if_neg, nLe, nLt, nEq, nInT, nCl, pk_mul, nI_add, Nat.reduceAdd, s_cat_nil, s_cat_i, s_cat_r, s_cat_f, s_cat_l, tl_s, tl_n, cat_i, cat_r, cat_f, nb0, nb1, nbI, if_bI, if_bIr, Nat.zero_le, Nat.reduceLeDiff, P_list, P_size, P_sz, P_set, P_setN, uL_eta]
  rfl
theorem m_add {c : Nat} {t : Int32} (hs : okS p) (hc : c < 4) (hn : p.2 c < 8) : MT (d + 2) 22 [.ref b, .int (nI c), .int t] (pP b p h) Q ↔ Q none (pP b (insP p c (p.2 c) t) h) := by
  rw [MT_go (by decide) _ _ _ (Nat.le_of_ble_eq_true rfl), show s_entry 22 [.ref b, .int (nI c), .int t] = [.ref b, .int (nI c), .int t] from rfl]
  simp (disch := omega) only [u_22_0, u_22_1, u_22_4, u_22_5, u_22_6, u_22_9, u_22_10, u_22_13, u_22_14, u_22_15, u_22_16, u_22_19, u_22_20, u_22_21, u_22_22, u_22_25, gI0, gIs, gR0, gRs, gF0, gFs, st0, st_i, st_r, st_f, st_n, st_s, true_and, and_true, ↓ifLeT, ↓ifLeF, ↓ifLtT, ↓ifLtF, ↓ifEqT, ↓ifEqF, if_tt, if_ff, if_pos, if_neg, nLe, nLt, nEq, nInT, nCl, pk_mul, nI_add, Nat.reduceAdd, s_cat_nil, s_cat_i, s_cat_r, s_cat_f, s_cat_l, tl_s, tl_n, cat_i, cat_r, cat_f, nb0, nb1, nbI, if_bI, if_bIr, Nat.zero_le, Nat.reduceLeDiff, P_size, P_sz, P_len, P_ob, m_insert hs hc hn (Nat.le_refl _)]
/-- a task goes out -/
def shD (l : Nat → Int32) (lo j i : Nat) : Nat → Int32 := fun q => if lo + j ≤ q ∧ q < lo + i then l (q + 1) else l q
def rmvP (p : tP) (c j : Nat) : tP := (shD p.1 (c * 8) j (p.2 c - 1), fun q => if q = c then p.2 c - 1 else p.2 q)
theorem shD_0 {l : Nat → Int32} {lo j : Nat} : shD l lo j j = l := by
  funext q
  unfold shD
  rw [if_neg (by omega)]
theorem shD_s {l : Nat → Int32} {lo j i : Nat} (h : j ≤ i) : upd (shD l lo j i) (lo + i) (shD l lo j i (lo + i + 1)) = shD l lo j (i + 1) := by
  funext q
  unfold upd shD
  by_cases h1 : q = lo + i
  · subst h1
    rw [if_pos rfl, if_neg (by omega), if_pos (by omega)]
  · rw [if_neg h1]
    by_cases h2 : lo + j ≤ q ∧ q < lo + i
    · rw [if_pos h2, if_pos (by omega)]
    · rw [if_neg h2, if_neg (by omega)]
theorem rmv_lp {c j0 : Nat} {t : Value} {v3 : Value} {s : Nat → Nat} {l : Nat → Int32} (hc : c < 4) (hN : s c < 8) : ∀ n i, i + n = s c → j0 ≤ i → (WP d 24 42 [.ref b, t, .int (nI c), v3, .int (nI (c * 8)), .int (nI i)] [] (pP b (shD l (c * 8) j0 i, s) h) k Q ↔ Q none (pP b (shD l (c * 8) j0 (s c), s) h)) := by
  intro n
  induction n with
  | zero =>
    intro i hi hn
    have e : i = s c := by omega
    subst e
    simp (disch := omega) only [u_24_42, u_24_44, u_24_45, u_24_48, u_24_49, u_24_50, u_24_81, gI0, gIs, gR0, gRs, gF0, gFs, st0, st_i, st_r, st_f, st_n, st_s, true_and, and_true, ↓ifLeT, ↓ifLeF, ↓ifLtT, ↓ifLtF, ↓ifEqT, ↓ifEqF, if_tt, if_ff, if_pos, if_neg, nLe, nLt, nEq, nInT, nCl, pk_mul, nI_add, Nat.reduceAdd, s_cat_nil, s_cat_i, s_cat_r, s_cat_f, s_cat_l, tl_s, tl_n, cat_i, cat_r, cat_f, nb0, nb1, nbI, if_bI, if_bIr, Nat.zero_le, Nat.reduceLeDiff, P_size, P_sz, Nat.le_refl]
  | succ n ih =>
    intro i hi hn
    rw [u_24_42]
    simp (disch := omega) only [u_24_44, u_24_45, u_24_48, u_24_49, u_24_50, u_24_53, u_24_54, u_24_57, u_24_59, u_24_61, u_24_62, u_24_63, u_24_66, u_24_68, u_24_70, u_24_71, u_24_72, u_24_73, u_24_74, u_24_75, u_24_78, gI0, gIs, gR0, gRs, gF0, gFs, st0, st_i, st_r, st_f, st_n, st_s, true_and, and_true, ↓ifLeT, ↓ifLeF, ↓ifLtT, ↓ifLtF, ↓ifEqT, ↓ifEqF, if_tt, if_ff, if_pos, if_neg, nLe, nLt, nEq, nInT, nCl, pk_mul, nI_add, Nat.reduceAdd, s_cat_nil, s_cat_i, s_cat_r, s_cat_f, s_cat_l, tl_s, tl_n, cat_i, cat_r, cat_f, nb0, nb1, nbI, if_bI, if_bIr, Nat.zero_le, Nat.reduceLeDiff, P_size, P_sz, P_list, P_at, P_set, uL_eta, shD_s, ih (i + 1) (by omega) (by omega)]
theorem m_remove {t : Int32} {c j : Nat} (hs : okS p) (hc : c < 4) (hj : j < p.2 c) (hf : fnd p t = some (c * 8 + j)) : MT (d + 3) 24 [.ref b, .int t] (pP b p h) Q ↔ Q none (pP b (rmvP p c j) h) := by
  have h8 := hs c hc
  have e1 : holdP p t = nI c := by unfold holdP; rw [hf]; show nI _ = _; congr 1; omega
  have e2 : spotP p t = nI j := by unfold spotP; rw [hf]; show nI _ = _; congr 1; omega
  have e3 : ∀ i, ¬ nI i = (-1 : Int32) ∨ 2 ^ 31 ≤ i := fun i => by
    rcases Nat.lt_or_ge i (2 ^ 31) with q | q
    · exact Or.inl fun z => nI_pos q (by rw [z]; decide)
    · exact Or.inr q
  have e4 : ¬ nI c = (-1 : Int32) := (e3 c).resolve_right (by omega)
  have e5 : ¬ nI j = (-1 : Int32) := (e3 j).resolve_right (by omega)
  rw [MT_go (by decide) _ _ _ (Nat.le_of_ble_eq_true rfl), show s_entry 24 [.ref b, .int t] = [.ref b, .int t, s_no, s_no, s_no, s_no] from rfl]
  simp (disch := omega) only [u_24_0, u_24_1, u_24_2, u_24_5, u_24_6, u_24_7, u_24_8, u_24_11, u_24_12, u_24_13, u_24_14, u_24_17, u_24_18, u_24_19, u_24_22, u_24_23, u_24_24, u_24_26, u_24_27, u_24_29, u_24_30, u_24_33, u_24_34, u_24_35, u_24_36, u_24_37, u_24_38, u_24_39, u_24_40, gI0, gIs, gR0, gRs, gF0, gFs, st0, st_i, st_r, st_f, st_n, st_s, true_and, and_true, ↓ifLeT, ↓ifLeF, ↓ifLtT, ↓ifLtF, ↓ifEqT, ↓ifEqF, if_tt, if_ff, if_pos, if_neg, nLe, nLt, nEq, nInT, nCl, pk_mul, nI_add, Nat.reduceAdd, s_cat_nil, s_cat_i, s_cat_r, s_cat_f, s_cat_l, tl_s, tl_n, cat_i, cat_r, cat_f, nb0, nb1, nbI, if_bI, if_bIr, Nat.zero_le, Nat.reduceLeDiff, P_ob, m_holder hs, m_spot hs, e1, e2, e4, e5, not_false_eq_true, P_size, P_sz, P_setN, pk_sub]
  have h1 := rmv_lp (d := d + 2) (b := b) (h := h) (k := (0, 0)) (Q := Q) (j0 := j) (t := .int t) (v3 := .int (nI j)) (s := fun q => if q = c then p.2 c - 1 else p.2 q) (l := p.1) hc (by simp; omega) (p.2 c - 1 - j) j (by simp; omega) (Nat.le_refl _)
  rw [shD_0] at h1
  refine h1.trans ?_
  simp only [if_true]
  exact Iff.rfl
/-- a plan stands in the heap -/
def isP (h : sH) (c : Nat) (q : tP) : Prop := pP c q h = h
theorem isP_o {c : Nat} {q : tP} (hq : isP h c q) (hd : b + 3 ≤ c ∨ c + 3 ≤ b) : isP (pP b p h) c q := by
  unfold isP pP at *
  rw [pC_comm (by omega), hq]
section
variable {c : Nat} {q : tP}
theorem P'_ob {c' : Nat} (hq : isP h c q) : (oO h c fun x _ => x = c') ↔ 3 = c' := by rw [← hq]; exact P_ob
theorem P'_list {f : Value → Prop} (hq : isP h c q) : fG h c 3 0 f ↔ f (.ref (c + 1)) := by rw [← hq]; exact P_list
theorem P'_size {f : Value → Prop} (hq : isP h c q) : fG h c 3 1 f ↔ f (.ref (c + 2)) := by rw [← hq]; exact P_size
theorem P'_at {f : Int32 → Prop} (hq : isP h c q) : aG h (c + 1) i f ↔ vp_in i 32 ∧ f (q.1 i.toNatClampNeg) := by rw [← hq]; exact P_at
theorem P'_sz {f : Int32 → Prop} (hq : isP h c q) : aG h (c + 2) i f ↔ vp_in i 4 ∧ f (nI (q.2 i.toNatClampNeg)) := by rw [← hq]; exact P_sz
theorem copyP1 (hq : isP h c q) (hd : b + 3 ≤ c ∨ c + 3 ≤ b) : ∀ n i, i + n = 32 → (WP d 20 2 [.ref b, .ref c, .int (nI i)] [] (pP b (fil i q.1 p.1, p.2) h) k Q ↔ WP d 20 29 [.ref b, .ref c, .int (nI 32)] [] (pP b (fil 32 q.1 p.1, p.2) h) k Q) := by
  intro n
  induction n with
  | zero =>
    intro i hi
    have e : i = 32 := by omega
    subst e
    simp (disch := omega) only [u_20_2, u_20_3, u_20_4, u_20_7, u_20_8, gI0, gIs, gR0, gRs, gF0, gFs, st0, st_i, st_r, st_f, st_n, st_s, true_and, and_true, ↓ifLeT, ↓ifLeF, ↓ifLtT, ↓ifLtF, ↓ifEqT, ↓ifEqF, if_tt, if_ff, if_pos, if_neg, nLe, nLt, nEq, nInT, nCl, pk_mul, nI_add, Nat.reduceAdd, s_cat_nil, s_cat_i, s_cat_r, s_cat_f, s_cat_l, tl_s, tl_n, cat_i, cat_r, cat_f, nb0, nb1, nbI, if_bI, if_bIr, Nat.zero_le, Nat.reduceLeDiff, P_list, P_len1]
  | succ n ih =>
    intro i hi
    have hq1 : isP (pP b (fil i q.1 p.1, p.2) h) c q := isP_o hq hd
    rw [u_20_2]
    simp (disch := omega) only [u_20_3, u_20_4, u_20_7, u_20_8, u_20_11, u_20_12, u_20_15, u_20_16, u_20_17, u_20_20, u_20_21, u_20_22, u_20_23, u_20_26, gI0, gIs, gR0, gRs, gF0, gFs, st0, st_i, st_r, st_f, st_n, st_s, true_and, and_true, ↓ifLeT, ↓ifLeF, ↓ifLtT, ↓ifLtF, ↓ifEqT, ↓ifEqF, if_tt, if_ff, if_pos, if_neg, nLe, nLt, nEq, nInT, nCl, pk_mul, nI_add, Nat.reduceAdd, s_cat_nil, s_cat_i, s_cat_r, s_cat_f, s_cat_l, tl_s, tl_n, cat_i, cat_r, cat_f, nb0, nb1, nbI, if_bI, if_bIr, Nat.zero_le, Nat.reduceLeDiff, P_list, P_len1, P'_list hq1, P'_at hq1, P_set, uL_eta, fil_updS, ih (i + 1) (by omega)]
theorem copyP2 {l : Nat → Int32} (hq : isP h c q) (hd : b + 3 ≤ c ∨ c + 3 ≤ b) : ∀ n i, i + n = 4 → (WP d 20 31 [.ref b, .ref c, .int (nI i)] [] (pP b (l, fil i q.2 p.2) h) k Q ↔ Q none (pP b (l, fil 4 q.2 p.2) h)) := by
  intro n
  induction n with
  | zero =>
    intro i hi
    have e : i = 4 := by omega
    subst e
    simp (disch := omega) only [u_20_31, u_20_32, u_20_33, u_20_36, u_20_37, u_20_58, gI0, gIs, gR0, gRs, gF0, gFs, st0, st_i, st_r, st_f, st_n, st_s, true_and, and_true, ↓ifLeT, ↓ifLeF, ↓ifLtT, ↓ifLtF, ↓ifEqT, ↓ifEqF, if_tt, if_ff, if_pos, if_neg, nLe, nLt, nEq, nInT, nCl, pk_mul, nI_add, Nat.reduceAdd, s_cat_nil, s_cat_i, s_cat_r, s_cat_f, s_cat_l, tl_s, tl_n, cat_i, cat_r, cat_f, nb0, nb1, nbI, if_bI, if_bIr, Nat.zero_le, Nat.reduceLeDiff, P_size, P_len]
  | succ n ih =>
    intro i hi
    have hq1 : isP (pP b (l, fil i q.2 p.2) h) c q := isP_o hq hd
    rw [u_20_31]
    simp (disch := omega) only [u_20_32, u_20_33, u_20_36, u_20_37, u_20_40, u_20_41, u_20_44, u_20_45, u_20_46, u_20_49, u_20_50, u_20_51, u_20_52, u_20_55, gI0, gIs, gR0, gRs, gF0, gFs, st0, st_i, st_r, st_f, st_n, st_s, true_and, and_true, ↓ifLeT, ↓ifLeF, ↓ifLtT, ↓ifLtF, ↓ifEqT, ↓ifEqF, if_tt, if_ff, if_pos, if_neg, nLe, nLt, nEq, nInT, nCl, pk_mul, nI_add, Nat.reduceAdd, s_cat_nil, s_cat_i, s_cat_r, s_cat_f, s_cat_l, tl_s, tl_n, cat_i, cat_r, cat_f, nb0, nb1, nbI, if_bI, if_bIr, Nat.zero_le, Nat.reduceLeDiff, P_size, P_len, P'_size hq1, P'_sz hq1, P_setN, uN_fil, ih (i + 1) (by omega)]
theorem m_copyP (hq : isP h c q) (hd : b + 3 ≤ c ∨ c + 3 ≤ b) : MT (d + 1) 20 [.ref b, .ref c] (pP b p h) Q ↔ Q none (pP b q h) := by
  rw [MT_go (by decide) _ _ _ (Nat.le_of_ble_eq_true rfl), show s_entry 20 [.ref b, .ref c] = [.ref b, .ref c, s_no] from rfl]
  have h1 := copyP1 (d := d) (k := (0, 0)) (Q := Q) (p := p) hq hd 32 0 rfl
  have h2 := copyP2 (d := d) (k := (0, 0)) (Q := Q) (p := p) (l := fil 32 q.1 p.1) hq hd 4 0 rfl
  rw [fil_0] at h1 h2
  simp (disch := omega) only [u_20_0, u_20_1, gI0, gIs, gR0, gRs, gF0, gFs, st0, st_i, st_r, st_f, st_n, st_s, true_and, and_true, ↓ifLeT, ↓ifLeF, ↓ifLtT, ↓ifLtF, ↓ifEqT, ↓ifEqF, if_tt, if_ff, if_pos, if_neg, nLe, nLt, nEq, nInT, nCl, pk_mul, nI_add, Nat.reduceAdd, s_cat_nil, s_cat_i, s_cat_r, s_cat_f, s_cat_l, tl_s, tl_n, cat_i, cat_r, cat_f, nb0, nb1, nbI, if_bI, if_bIr, Nat.zero_le, Nat.reduceLeDiff, h1]
  simp (disch := omega) only [u_20_29, u_20_30, gI0, gIs, gR0, gRs, gF0, gFs, st0, st_i, st_r, st_f, st_n, st_s, true_and, and_true, ↓ifLeT, ↓ifLeF, ↓ifLtT, ↓ifLtF, ↓ifEqT, ↓ifEqF, if_tt, if_ff, if_pos, if_neg, nLe, nLt, nEq, nInT, nCl, pk_mul, nI_add, Nat.reduceAdd, s_cat_nil, s_cat_i, s_cat_r, s_cat_f, s_cat_l, tl_s, tl_n, cat_i, cat_r, cat_f, nb0, nb1, nbI, if_bI, if_bIr, Nat.zero_le, Nat.reduceLeDiff, h2]
  rw [pP_eq (p := (fil 32 q.1 p.1, fil 4 q.2 p.2)) (q := q) (fun j hj => by exact fil_in hj) (fun j hj => by exact fil_in hj)]
end
end PL
