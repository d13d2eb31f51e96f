/-! Yard's small methods -/
/-- a bit of a set -/
def bitS (m x : Int32) : Int32 := (m >>> (x &&& 31)) &&& nI 1
section YM
variable {a d : Nat} {y : tY} {h : sH} {k : sK} {Q : sQ} {i x : Int32}
theorem m_isBroken {x : Int32} : MT (d + 1) 68 [.ref a, .int x] (pY a y h) Q ↔ Q (some (.int (bI (¬ bitS (yB y 5) x = nI 0)))) (pY a y h) := by
  rw [MT_go (by decide) _ _ _ (Nat.le_of_ble_eq_true rfl), show s_entry 68 [.ref a, .int x] = [.ref a, .int x] from rfl]
  simp (disch := omega) only [u_68_0, u_68_1, u_68_4, u_68_5, u_68_6, u_68_7, u_68_8, u_68_11, u_68_12, u_68_15, u_68_16, gI0, gIs, gR0, gRs, gF0, gFs, st0, st_i, st_r, st_f, st_n, st_s, true_and, and_true, ↓ifLeT, ↓ifLeF, ↓ifLtT, ↓ifLtF, ↓ifEqT, ↓ifEqF, if_tt, if_ff, if_pos, if_neg, nLe, nLt, nEq, nInT, nCl, pk_mul, nI_add, Nat.reduceAdd, s_cat_nil, s_cat_i, s_cat_r, s_cat_f, s_cat_l, tl_s, tl_n, cat_i, cat_r, cat_f, nb0, nb1, nbI, if_bI, if_bIr, Nat.zero_le, Nat.reduceLeDiff, Y_g5, Q_bIn]
  exact Iff.rfl
theorem m_isDone {x : Int32} : MT (d + 1) 69 [.ref a, .int x] (pY a y h) Q ↔ Q (some (.int (bI (¬ bitS (yB y 6) x = nI 0)))) (pY a y h) := by
  rw [MT_go (by decide) _ _ _ (Nat.le_of_ble_eq_true rfl), show s_entry 69 [.ref a, .int x] = [.ref a, .int x] from rfl]
  simp (disch := omega) only [u_69_0, u_69_1, u_69_4, u_69_5, u_69_6, u_69_7, u_69_8, u_69_11, u_69_12, u_69_15, u_69_16, gI0, gIs, gR0, gRs, gF0, gFs, st0, st_i, st_r, st_f, st_n, st_s, true_and, and_true, ↓ifLeT, ↓ifLeF, ↓ifLtT, ↓ifLtF, ↓ifEqT, ↓ifEqF, if_tt, if_ff, if_pos, if_neg, nLe, nLt, nEq, nInT, nCl, pk_mul, nI_add, Nat.reduceAdd, s_cat_nil, s_cat_i, s_cat_r, s_cat_f, s_cat_l, tl_s, tl_n, cat_i, cat_r, cat_f, nb0, nb1, nbI, if_bI, if_bIr, Nat.zero_le, Nat.reduceLeDiff, Y_g6, Q_bIn]
  exact Iff.rfl
theorem m_canLift {c t : Int32} (hc : vp_in c 4) (ht : vp_in t 8) : MT (d + 1) 70 [.ref a, .int c, .int t] (pY a y h) Q ↔ Q (some (.int (bI (yA y 14 t.toNatClampNeg ≤ yA y 8 c.toNatClampNeg)))) (pY a y h) := by
  rw [MT_go (by decide) _ _ _ (Nat.le_of_ble_eq_true rfl), show s_entry 70 [.ref a, .int c, .int t] = [.ref a, .int c, .int t] from rfl]
  simp (disch := omega) only [u_70_0, u_70_1, u_70_4, u_70_5, u_70_6, u_70_7, u_70_10, u_70_11, u_70_12, u_70_15, u_70_16, u_70_19, u_70_20, gI0, gIs, gR0, gRs, gF0, gFs, st0, st_i, st_r, st_f, st_n, st_s, true_and, and_true, ↓ifLeT, ↓ifLeF, ↓ifLtT, ↓ifLtF, ↓ifEqT, ↓ifEqF, if_tt, if_ff, if_pos, if_neg, nLe, nLt, nEq, nInT, nCl, pk_mul, nI_add, Nat.reduceAdd, s_cat_nil, s_cat_i, s_cat_r, s_cat_f, s_cat_l, tl_s, tl_n, cat_i, cat_r, cat_f, nb0, nb1, nbI, if_bI, if_bIr, Nat.zero_le, Nat.reduceLeDiff, Y_g0, Y_g1, Y_g2, Y_g3, Y_g4, Y_g5, Y_g6, Y_g7, Y_g8, Y_g9, Y_g10, Y_g11, Y_g12, Y_g13, Y_g14, Y_g15, Y_g16, Y_g17, Y_g18, Y_g19, Y_a7, Y_a8, Y_a10, Y_a11, Y_a12, Y_a13, Y_a14, Y_a15, Y_a16, Y_a17, Y_a18, Y_sw, hc, ht]
  by_cases hx : yA y 8 c.toNatClampNeg < yA y 14 t.toNatClampNeg
  · rw [if_pos hx, bI_f (fun z => absurd z (by simpa using hx))]
  · rw [if_neg hx, bI_t (by simpa using hx)]
def leftY (y : tY) : Int32 := ((nI 1 <<< (nI (yT y) &&& 31)) - nI 1) &&& (yB y 6 ^^^ (-1))
theorem m_leftBits : MT (d + 1) 72 [.ref a] (pY a y h) Q ↔ Q (some (.int (leftY y))) (pY a y h) := by
  rw [MT_go (by decide) _ _ _ (Nat.le_of_ble_eq_true rfl), show s_entry 72 [.ref a] = [.ref a] from rfl]
  simp (disch := omega) only [u_72_0, u_72_1, u_72_2, u_72_5, u_72_6, u_72_7, u_72_8, u_72_9, u_72_12, u_72_13, u_72_14, u_72_15, gI0, gIs, gR0, gRs, gF0, gFs, st0, st_i, st_r, st_f, st_n, st_s, true_and, and_true, ↓ifLeT, ↓ifLeF, ↓ifLtT, ↓ifLtF, ↓ifEqT, ↓ifEqF, if_tt, if_ff, if_pos, if_neg, nLe, nLt, nEq, nInT, nCl, pk_mul, nI_add, Nat.reduceAdd, s_cat_nil, s_cat_i, s_cat_r, s_cat_f, s_cat_l, tl_s, tl_n, cat_i, cat_r, cat_f, nb0, nb1, nbI, if_bI, if_bIr, Nat.zero_le, Nat.reduceLeDiff, Y_g0, Y_g1, Y_g2, Y_g3, Y_g4, Y_g5, Y_g6, Y_g7, Y_g8, Y_g9, Y_g10, Y_g11, Y_g12, Y_g13, Y_g14, Y_g15, Y_g16, Y_g17, Y_g18, Y_g19, leftY]
/-- a crane's next task -/
def isNx (y : tY) (t : Int32) : Prop := nI 0 ≤ t ∧ t < nI (yT y) ∧ bitS (yB y 6) t = nI 0
def nxF (y : tY) (c j n : Nat) : Option Int32 := sfrom (fun j => if nI 0 ≤ (yP y).1 (c * 8 + j) ∧ (yP y).1 (c * 8 + j) < nI (yT y) ∧ bitS (yB y 6) ((yP y).1 (c * 8 + j)) = nI 0 then some ((yP y).1 (c * 8 + j)) else none) j n
def nxY (y : tY) (c : Nat) : Int32 := match nxF y c 0 ((yP y).2 c) with | some t => t | none => -1
theorem YP_list {f : Value → Prop} : fG (pY a y h) (a + 13) 3 0 f ↔ f (.ref (a + 13 + 1)) := P'_list isP_Y
theorem YP_size {f : Value → Prop} : fG (pY a y h) (a + 13) 3 1 f ↔ f (.ref (a + 13 + 2)) := P'_size isP_Y
theorem YP_at {f : Int32 → Prop} : aG (pY a y h) (a + 13 + 1) i f ↔ vp_in i 32 ∧ f ((yP y).1 i.toNatClampNeg) := P'_at isP_Y
theorem YP_sz {f : Int32 → Prop} : aG (pY a y h) (a + 13 + 2) i f ↔ vp_in i 4 ∧ f (nI ((yP y).2 i.toNatClampNeg)) := P'_sz isP_Y
theorem YP_ob {c : Nat} : (oO (pY a y h) (a + 13) fun x _ => x = c) ↔ 3 = c := P'_ob isP_Y
theorem ite_and3 {p q r : Prop} [Decidable p] [Decidable q] [Decidable r] {A B : Prop} : (if p then (if q then (if r then A else B) else B) else B) ↔ (if p ∧ q ∧ r then A else B) := by
  by_cases hp : p <;> by_cases hq : q <;> by_cases hr : r <;> simp [hp, hq, hr]
theorem nextOf_lp {c : Nat} (hc : c < 4) (hs : (yP y).2 c ≤ 8) : ∀ n j v, j + n = (yP y).2 c → (WP d 73 2 [.ref a, .int (nI c), .int (nI j), v] [] (pY a y h) k Q ↔ Q (some (.int (match nxF y c j n with | some t => t | none => -1))) (pY a y h)) := by
  intro n
  induction n with
  | zero =>
    intro j v hj
    have e : j = (yP y).2 c := by omega
    subst e
    by_cases h8 : (yP y).2 c = 8
    · simp (disch := omega) only [u_73_2, u_73_3, u_73_5, u_73_67, u_73_68, gI0, gIs, gR0, gRs, gF0, gFs, st0, st_i, st_r, st_f, st_n, st_s, true_and, and_true, ↓ifLeT, ↓ifLeF, ↓ifLtT, ↓ifLtF, ↓ifEqT, ↓ifEqF, if_tt, if_ff, if_pos, if_neg, nLe, nLt, nEq, nInT, nCl, pk_mul, nI_add, Nat.reduceAdd, s_cat_nil, s_cat_i, s_cat_r, s_cat_f, s_cat_l, tl_s, tl_n, cat_i, cat_r, cat_f, nb0, nb1, nbI, if_bI, if_bIr, Nat.zero_le, Nat.reduceLeDiff, h8, nxF, sfrom, Nat.le_refl]
    · simp (disch := omega) only [u_73_2, u_73_3, u_73_5, u_73_8, u_73_9, u_73_10, u_73_13, u_73_16, u_73_17, u_73_18, u_73_67, u_73_68, gI0, gIs, gR0, gRs, gF0, gFs, st0, st_i, st_r, st_f, st_n, st_s, true_and, and_true, ↓ifLeT, ↓ifLeF, ↓ifLtT, ↓ifLtF, ↓ifEqT, ↓ifEqF, if_tt, if_ff, if_pos, if_neg, nLe, nLt, nEq, nInT, nCl, pk_mul, nI_add, Nat.reduceAdd, s_cat_nil, s_cat_i, s_cat_r, s_cat_f, s_cat_l, tl_s, tl_n, cat_i, cat_r, cat_f, nb0, nb1, nbI, if_bI, if_bIr, Nat.zero_le, Nat.reduceLeDiff, Y_g0, Y_g1, Y_g2, Y_g3, Y_g4, Y_g5, Y_g6, Y_g7, Y_g8, Y_g9, Y_g10, Y_g11, Y_g12, Y_g13, Y_g14, Y_g15, Y_g16, Y_g17, Y_g18, Y_g19, YP_size, YP_sz, nxF, sfrom, Nat.le_refl]
  | succ n ih =>
    intro j v hj
    rw [u_73_2]
    simp (disch := omega) only [u_73_3, u_73_5, u_73_8, u_73_9, u_73_10, u_73_13, u_73_16, u_73_17, u_73_18, u_73_21, u_73_22, u_73_25, u_73_28, u_73_29, u_73_31, u_73_32, u_73_33, u_73_34, u_73_35, u_73_36, u_73_37, u_73_40, u_73_41, u_73_42, u_73_45, u_73_48, u_73_49, u_73_52, u_73_53, u_73_54, u_73_55, u_73_56, u_73_59, u_73_60, u_73_61, u_73_64, gI0, gIs, gR0, gRs, gF0, gFs, st0, st_i, st_r, st_f, st_n, st_s, true_and, and_true, ↓ifLeT, ↓ifLeF, ↓ifLtT, ↓ifLtF, ↓ifEqT, ↓ifEqF, if_tt, if_ff, if_pos, if_neg, nLe, nLt, nEq, nInT, nCl, pk_mul, nI_add, Nat.reduceAdd, s_cat_nil, s_cat_i, s_cat_r, s_cat_f, s_cat_l, tl_s, tl_n, cat_i, cat_r, cat_f, nb0, nb1, nbI, if_bI, if_bIr, Nat.zero_le, Nat.reduceLeDiff, Y_g0, Y_g1, Y_g2, Y_g3, Y_g4, Y_g5, Y_g6, Y_g7, Y_g8, Y_g9, Y_g10, Y_g11, Y_g12, Y_g13, Y_g14, Y_g15, Y_g16, Y_g17, Y_g18, Y_g19, YP_size, YP_sz, YP_list, YP_at, ih (j + 1) _ (by omega)]
    unfold nxF
    rw [sfrom]
    generalize (yP y).1 (c * 8 + j) = t
    by_cases h1 : t < nI 0
    · rw [if_pos h1, if_neg (fun z => by have := z.1; exact absurd h1 (by simpa using this))]
    · rw [if_neg h1]
      have h1' : nI 0 ≤ t := by simpa using h1
      by_cases h2 : nI (yT y) ≤ t
      · rw [if_pos h2, if_neg (fun z => by have := z.2.1; exact absurd h2 (by simpa using this))]
      · rw [if_neg h2]
        have h2' : t < nI (yT y) := by simpa using h2
        by_cases h3 : bitS (yB y 6) t = nI 0
        · have h3' : yB y 6 >>> (t &&& 31) &&& nI 1 = nI 0 := h3
          rw [if_pos h3', if_pos ⟨h1', h2', h3⟩]
        · have h3' : ¬ (yB y 6 >>> (t &&& 31) &&& nI 1 = nI 0) := h3
          rw [if_neg h3', if_neg (fun z => h3 z.2.2)]
theorem m_nextOf {c : Nat} (hc : c < 4) (hs : (yP y).2 c ≤ 8) : MT (d + 1) 73 [.ref a, .int (nI c)] (pY a y h) Q ↔ Q (some (.int (nxY y c))) (pY a y h) := by
  rw [MT_go (by decide) _ _ _ (Nat.le_of_ble_eq_true rfl), show s_entry 73 [.ref a, .int (nI c)] = [.ref a, .int (nI c), s_no, s_no] from rfl]
  simp (disch := omega) only [u_73_0, u_73_1, gI0, gIs, gR0, gRs, gF0, gFs, st0, st_i, st_r, st_f, st_n, st_s, true_and, and_true, ↓ifLeT, ↓ifLeF, ↓ifLtT, ↓ifLtF, ↓ifEqT, ↓ifEqF, if_tt, if_ff, if_pos, if_neg, nLe, nLt, nEq, nInT, nCl, pk_mul, nI_add, Nat.reduceAdd, s_cat_nil, s_cat_i, s_cat_r, s_cat_f, s_cat_l, tl_s, tl_n, cat_i, cat_r, cat_f, nb0, nb1, nbI, if_bI, if_bIr, Nat.zero_le, Nat.reduceLeDiff, nextOf_lp hc hs ((yP y).2 c) 0 _ (by omega)]
  exact Iff.rfl
end YM
