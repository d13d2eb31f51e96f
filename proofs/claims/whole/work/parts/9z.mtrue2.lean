/-! the reference: a line of MOVES that may be, on -/
section MTS
variable {d : Nat} {m : tM} {h : sH} {Q : sQ} {n : tN} {f : Nat → Nat → Int32} {l c x fr p : Nat} {v5 v6 : Value}
theorem tr_1 (hn : wfN n) (hg : MG m n) (hc : c < nF n 2) (hx : x ≤ 99) (hf : fr < 100) (hl : l < 40) (hp : p ≤ 99) (h1 : 0 < c → kA m 324 (4 * l + (c - 1)) = nI p) (v : Bool) : WP (d + 1) 216 53 [.ref 317, .int (nI l), .int (iB v), .int (nI c), .int (nI x), v5, v6] [.int (nI fr)] (pM m h) (0, 0) Q ↔ WP (d + 1) 216 109 [.ref 317, .int (nI l), .int (iB v), .int (nI c), .int (nI x), .int (nI fr), .int (nI (wayN fr x))] [.int (iB (v && (decide (x < nF n 0) && (decide (c = 0) || decide (p + nF n 1 ≤ x)))))] (pM m h) (0, 0) Q := by
  have h4 := hn.1.1
  have hb0 := hn.1.2.2.2.1
  have g5 := hn.1.2.2.2.2.2
  obtain ⟨k8, k9, k10, -⟩ := hg
  have ab := abs_n (a := fr) (s := x) (by omega) (by omega)
  cases v with
  | false =>
    rw [Bool.false_and]
    simp (disch := omega) only [u_216_53, u_216_55, u_216_57, u_216_59, u_216_60, u_216_63, u_216_65, u_216_66, u_216_69, u_216_71, u_216_72, u_216_75, u_216_78, u_216_79, u_216_82, u_216_84, u_216_85, u_216_88, u_216_89, u_216_90, u_216_91, u_216_92, u_216_93, u_216_94, u_216_95, u_216_96, u_216_97, u_216_98, u_216_101, u_216_104, u_216_105, u_216_108, gI0, gIs, gR0, gRs, gF0, gFs, st0, st_i, st_r, st_f, st_n, st_s, true_and, and_true, ↓ifLeT, ↓ifLeF, ↓ifLtT, ↓ifLtF, ↓ifEqT, ↓ifEqF, if_tt, if_ff, if_pos, if_neg, nLe, nLt, nEq, nInT, nCl, pk_mul, nI_add, Nat.reduceAdd, s_cat_nil, s_cat_i, s_cat_r, s_cat_f, s_cat_l, tl_s, tl_n, cat_i, cat_r, cat_f, nb0, nb1, nbI, if_bI, if_bIr, Nat.zero_le, Nat.reduceLeDiff, iBf, ab]
  | true =>
    rw [Bool.true_and]
    by_cases b1 : x < nF n 0
    · rw [decide_eq_true b1, Bool.true_and]
      by_cases c0 : c = 0
      · rw [decide_eq_true c0, Bool.true_or]
        subst c0
        simp (disch := omega) only [u_216_53, u_216_55, u_216_57, u_216_59, u_216_60, u_216_63, u_216_65, u_216_66, u_216_69, u_216_71, u_216_72, u_216_75, u_216_78, u_216_79, u_216_82, u_216_84, u_216_85, u_216_88, u_216_89, u_216_90, u_216_91, u_216_92, u_216_93, u_216_94, u_216_95, u_216_96, u_216_97, u_216_98, u_216_101, u_216_104, u_216_105, u_216_108, gI0, gIs, gR0, gRs, gF0, gFs, st0, st_i, st_r, st_f, st_n, st_s, true_and, and_true, ↓ifLeT, ↓ifLeF, ↓ifLtT, ↓ifLtF, ↓ifEqT, ↓ifEqF, if_tt, if_ff, if_pos, if_neg, nLe, nLt, nEq, nInT, nCl, pk_mul, nI_add, Nat.reduceAdd, s_cat_nil, s_cat_i, s_cat_r, s_cat_f, s_cat_l, tl_s, tl_n, cat_i, cat_r, cat_f, nb0, nb1, nbI, if_bI, if_bIr, Nat.zero_le, Nat.reduceLeDiff, M_g0, M_g1, M_g2, M_g3, M_g4, M_g5, M_g6, M_g7, M_g8, M_g9, M_g10, M_g11, M_g12, M_g13, M_g14, M_g15, M_g16, M_g17, M_g18, M_g19, M_g20, M_g21, M_g22, M_g23, M_g24, M_g25, M_g26, M_g27, M_g28, M_g29, M_g30, M_g31, M_g32, M_g33, M_g34, M_g35, M_g36, M_g37, M_g38, M_g39, M_g40, M_g41, k8, iBt, nI10, ab]
      · rw [decide_eq_false c0, Bool.false_or]
        have nc : ¬ nI c = nI 0 := fun q => c0 ((nI_eq (by omega) (by omega)).mp q)
        have sb : nI (4 * l + c) - nI 1 = nI (4 * l + (c - 1)) := by
          rw [pk_sub (by omega)]
          congr 1
          omega
        have i1 : vp_in (nI (4 * l + (c - 1))) 160 := (nIn (by omega)).mpr (by omega)
        have c1 : (nI (4 * l + (c - 1))).toNatClampNeg = 4 * l + (c - 1) := nCl (by omega)
        have e1 := h1 (by omega)
        have sl := sub_lt (a := x) (b := p) (g := nF n 1) (by omega) (by omega) (by omega)
        by_cases b2 : p + nF n 1 ≤ x
        · rw [decide_eq_true b2]
          have sl : ¬ _ := fun q => absurd (sl.mp q) (by omega)
          simp (disch := omega) only [u_216_53, u_216_55, u_216_57, u_216_59, u_216_60, u_216_63, u_216_65, u_216_66, u_216_69, u_216_71, u_216_72, u_216_75, u_216_78, u_216_79, u_216_82, u_216_84, u_216_85, u_216_88, u_216_89, u_216_90, u_216_91, u_216_92, u_216_93, u_216_94, u_216_95, u_216_96, u_216_97, u_216_98, u_216_101, u_216_104, u_216_105, u_216_108, gI0, gIs, gR0, gRs, gF0, gFs, st0, st_i, st_r, st_f, st_n, st_s, true_and, and_true, ↓ifLeT, ↓ifLeF, ↓ifLtT, ↓ifLtF, ↓ifEqT, ↓ifEqF, if_tt, if_ff, if_pos, if_neg, nLe, nLt, nEq, nInT, nCl, pk_mul, nI_add, Nat.reduceAdd, s_cat_nil, s_cat_i, s_cat_r, s_cat_f, s_cat_l, tl_s, tl_n, cat_i, cat_r, cat_f, nb0, nb1, nbI, if_bI, if_bIr, Nat.zero_le, Nat.reduceLeDiff, M_g0, M_g1, M_g2, M_g3, M_g4, M_g5, M_g6, M_g7, M_g8, M_g9, M_g10, M_g11, M_g12, M_g13, M_g14, M_g15, M_g16, M_g17, M_g18, M_g19, M_g20, M_g21, M_g22, M_g23, M_g24, M_g25, M_g26, M_g27, M_g28, M_g29, M_g30, M_g31, M_g32, M_g33, M_g34, M_g35, M_g36, M_g37, M_g38, M_g39, M_g40, M_g41, M_a324, k8, k9, nc, sb, i1, c1, e1, sl, iBt, nI10, ab, reduceIte]
        · rw [decide_eq_false b2]
          have sl := sl.mpr (by omega)
          simp (disch := omega) only [u_216_53, u_216_55, u_216_57, u_216_59, u_216_60, u_216_63, u_216_65, u_216_66, u_216_69, u_216_71, u_216_72, u_216_75, u_216_78, u_216_79, u_216_82, u_216_84, u_216_85, u_216_88, u_216_89, u_216_90, u_216_91, u_216_92, u_216_93, u_216_94, u_216_95, u_216_96, u_216_97, u_216_98, u_216_101, u_216_104, u_216_105, u_216_108, gI0, gIs, gR0, gRs, gF0, gFs, st0, st_i, st_r, st_f, st_n, st_s, true_and, and_true, ↓ifLeT, ↓ifLeF, ↓ifLtT, ↓ifLtF, ↓ifEqT, ↓ifEqF, if_tt, if_ff, if_pos, if_neg, nLe, nLt, nEq, nInT, nCl, pk_mul, nI_add, Nat.reduceAdd, s_cat_nil, s_cat_i, s_cat_r, s_cat_f, s_cat_l, tl_s, tl_n, cat_i, cat_r, cat_f, nb0, nb1, nbI, if_bI, if_bIr, Nat.zero_le, Nat.reduceLeDiff, M_g0, M_g1, M_g2, M_g3, M_g4, M_g5, M_g6, M_g7, M_g8, M_g9, M_g10, M_g11, M_g12, M_g13, M_g14, M_g15, M_g16, M_g17, M_g18, M_g19, M_g20, M_g21, M_g22, M_g23, M_g24, M_g25, M_g26, M_g27, M_g28, M_g29, M_g30, M_g31, M_g32, M_g33, M_g34, M_g35, M_g36, M_g37, M_g38, M_g39, M_g40, M_g41, M_a324, k8, k9, nc, sb, i1, c1, e1, sl, iBt, iBf, nI10, ab, reduceIte]
    · rw [decide_eq_false b1, Bool.false_and]
      simp (disch := omega) only [u_216_53, u_216_55, u_216_57, u_216_59, u_216_60, u_216_63, u_216_65, u_216_66, u_216_69, u_216_71, u_216_72, u_216_75, u_216_78, u_216_79, u_216_82, u_216_84, u_216_85, u_216_88, u_216_89, u_216_90, u_216_91, u_216_92, u_216_93, u_216_94, u_216_95, u_216_96, u_216_97, u_216_98, u_216_101, u_216_104, u_216_105, u_216_108, gI0, gIs, gR0, gRs, gF0, gFs, st0, st_i, st_r, st_f, st_n, st_s, true_and, and_true, ↓ifLeT, ↓ifLeF, ↓ifLtT, ↓ifLtF, ↓ifEqT, ↓ifEqF, if_tt, if_ff, if_pos, if_neg, nLe, nLt, nEq, nInT, nCl, pk_mul, nI_add, Nat.reduceAdd, s_cat_nil, s_cat_i, s_cat_r, s_cat_f, s_cat_l, tl_s, tl_n, cat_i, cat_r, cat_f, nb0, nb1, nbI, if_bI, if_bIr, Nat.zero_le, Nat.reduceLeDiff, M_g0, M_g1, M_g2, M_g3, M_g4, M_g5, M_g6, M_g7, M_g8, M_g9, M_g10, M_g11, M_g12, M_g13, M_g14, M_g15, M_g16, M_g17, M_g18, M_g19, M_g20, M_g21, M_g22, M_g23, M_g24, M_g25, M_g26, M_g27, M_g28, M_g29, M_g30, M_g31, M_g32, M_g33, M_g34, M_g35, M_g36, M_g37, M_g38, M_g39, M_g40, M_g41, k8, iBt, iBf, nI10, ab]
theorem r_isTrue {L : Nat} (hn : wfN n) (hg : MG m n) (hr : RR (kA m 320) n) (hl : l < L) (hL : L ≤ 40) (hf : ∀ l' c, l' < L → c < nF n 2 → kA m 324 (4 * l' + c) = f l' c) (hv : ∀ j q, ∃ b, f j q = nI b ∧ b ≤ 99) : MT (d + 2) 216 [.ref 317, .int (nI l)] (pM m h) Q ↔ Q (some (.int (iB (trueN n f l)))) (pM m h) := by
  have h4 := hn.1.1
  have hb0 := hn.1.2.2.2.1
  have k10 := hg.2.2.1
  rw [true_ok]
  rw [MT_go (by decide) _ _ _ (Nat.le_of_ble_eq_true rfl), show s_entry 216 [.ref 317, .int (nI l)] = [.ref 317, .int (nI l), s_no, s_no, s_no, s_no, s_no] from rfl]
  have lp : ∀ q c (v : Bool) v4 v5 v6, c + q = nF n 2 → (WP (d + 1) 216 4 [.ref 317, .int (nI l), .int (iB v), .int (nI c), v4, v5, v6] [] (pM m h) (0, 0) Q ↔ Q (some (.int (iB (v && (List.range' c q).all (okM n f l))))) (pM m h)) := by
    intro q
    induction q with
    | zero =>
      intro c v v4 v5 v6 hc
      have e : c = nF n 2 := by omega
      subst e
      rw [u_216_4]
      simp (disch := omega) only [u_216_5, u_216_6, gI0, gIs, gR0, gRs, gF0, gFs, st0, st_i, st_r, st_f, st_n, st_s, true_and, and_true, ↓ifLeT, ↓ifLeF, ↓ifLtT, ↓ifLtF, ↓ifEqT, ↓ifEqF, if_tt, if_ff, if_pos, if_neg, nLe, nLt, nEq, nInT, nCl, pk_mul, nI_add, Nat.reduceAdd, s_cat_nil, s_cat_i, s_cat_r, s_cat_f, s_cat_l, tl_s, tl_n, cat_i, cat_r, cat_f, nb0, nb1, nbI, if_bI, if_bIr, Nat.zero_le, Nat.reduceLeDiff, M_g0, M_g1, M_g2, M_g3, M_g4, M_g5, M_g6, M_g7, M_g8, M_g9, M_g10, M_g11, M_g12, M_g13, M_g14, M_g15, M_g16, M_g17, M_g18, M_g19, M_g20, M_g21, M_g22, M_g23, M_g24, M_g25, M_g26, M_g27, M_g28, M_g29, M_g30, M_g31, M_g32, M_g33, M_g34, M_g35, M_g36, M_g37, M_g38, M_g39, M_g40, M_g41, k10]
      simp (disch := omega) only [u_216_9, u_216_154, u_216_155, gI0, gIs, gR0, gRs, gF0, gFs, st0, st_i, st_r, st_f, st_n, st_s, true_and, and_true, ↓ifLeT, ↓ifLeF, ↓ifLtT, ↓ifLtF, ↓ifEqT, ↓ifEqF, if_tt, if_ff, if_pos, if_neg, nLe, nLt, nEq, nInT, nCl, pk_mul, nI_add, Nat.reduceAdd, s_cat_nil, s_cat_i, s_cat_r, s_cat_f, s_cat_l, tl_s, tl_n, cat_i, cat_r, cat_f, nb0, nb1, nbI, if_bI, if_bIr, Nat.zero_le, Nat.reduceLeDiff]
      rw [List.range'_zero, List.all_nil, Bool.and_true]
      exact ⟨fun z => z.2, fun z => ⟨nbB.mpr trivial, z⟩⟩
    | succ q ih =>
      intro c v v4 v5 v6 hc
      have hcC : c < nF n 2 := by omega
      obtain ⟨x, ex, hx⟩ := hv l c
      obtain ⟨y, ey, hy⟩ := hv (l - 1) c
      obtain ⟨p, ep, hp⟩ := hv l (c - 1)
      have a7 := (hr.2.2.1 c hcC).1
      have b7 := (hn.2.1.1 c hcC).1
      have i1 : vp_in (nI (4 * l + c)) 160 := (nIn (by omega)).mpr (by omega)
      have c1 : (nI (4 * l + c)).toNatClampNeg = 4 * l + c := nCl (by omega)
      have f1 := hf l c hl hcC
      rw [ex] at f1
      have h1 : 0 < c → kA m 324 (4 * l + (c - 1)) = nI p := fun h0 => by rw [hf l (c - 1) hl (by omega), ep]
      have ok : ∀ fr, fr = (if l = 0 then nA n 7 c else y) → okM n f l c = ((decide (x < nF n 0) && (decide (c = 0) || decide (p + nF n 1 ≤ x))) && decide (wayN fr x ≤ if l = 0 then 0 else if nK n c then 0 else 1)) := fun fr e => by
        unfold okM
        rw [ex, ey, ep, nCl (by omega), nCl (by omega), nCl (by omega), e]
      have fin : ∀ fr v5 v6, fr < 100 → fr = (if l = 0 then nA n 7 c else y) → (WP (d + 1) 216 53 [.ref 317, .int (nI l), .int (iB v), .int (nI c), .int (nI x), v5, v6] [.int (nI fr)] (pM m h) (0, 0) Q ↔ Q (some (.int (iB (v && (okM n f l c && (List.range' (c + 1) q).all (okM n f l)))))) (pM m h)) := fun fr v5 v6 hfr e => by
        rw [tr_1 (d := d) hn hg hcC hx hfr (by omega) hp h1 v, tr_2 (d := d) (R := (List.range' (c + 1) q).all (okM n f l)) hn hr hcC hx hfr (by omega) (fun b => ih (c + 1) b _ _ _ (by omega)) _, ok fr e]
        simp only [Bool.and_assoc]
      rw [u_216_4, all_acc]
      by_cases l0 : l = 0
      · subst l0
        rw [← fin (nA n 7 c) v5 v6 (by omega) (if_pos rfl).symm]
        simp (disch := omega) only [u_216_5, u_216_6, gI0, gIs, gR0, gRs, gF0, gFs, st0, st_i, st_r, st_f, st_n, st_s, true_and, and_true, ↓ifLeT, ↓ifLeF, ↓ifLtT, ↓ifLtF, ↓ifEqT, ↓ifEqF, if_tt, if_ff, if_pos, if_neg, nLe, nLt, nEq, nInT, nCl, pk_mul, nI_add, Nat.reduceAdd, s_cat_nil, s_cat_i, s_cat_r, s_cat_f, s_cat_l, tl_s, tl_n, cat_i, cat_r, cat_f, nb0, nb1, nbI, if_bI, if_bIr, Nat.zero_le, Nat.reduceLeDiff, M_g0, M_g1, M_g2, M_g3, M_g4, M_g5, M_g6, M_g7, M_g8, M_g9, M_g10, M_g11, M_g12, M_g13, M_g14, M_g15, M_g16, M_g17, M_g18, M_g19, M_g20, M_g21, M_g22, M_g23, M_g24, M_g25, M_g26, M_g27, M_g28, M_g29, M_g30, M_g31, M_g32, M_g33, M_g34, M_g35, M_g36, M_g37, M_g38, M_g39, M_g40, M_g41, k10]
        simp (disch := omega) only [u_216_9, u_216_12, u_216_13, u_216_16, u_216_17, u_216_18, u_216_19, u_216_20, u_216_21, u_216_22, u_216_24, u_216_25, u_216_28, u_216_29, u_216_32, u_216_33, u_216_34, u_216_37, u_216_38, u_216_41, u_216_42, u_216_45, u_216_46, u_216_47, u_216_48, u_216_49, u_216_50, u_216_51, u_216_52, gI0, gIs, gR0, gRs, gF0, gFs, st0, st_i, st_r, st_f, st_n, st_s, true_and, and_true, ↓ifLeT, ↓ifLeF, ↓ifLtT, ↓ifLtF, ↓ifEqT, ↓ifEqF, if_tt, if_ff, if_pos, if_neg, nLe, nLt, nEq, nInT, nCl, pk_mul, nI_add, Nat.reduceAdd, s_cat_nil, s_cat_i, s_cat_r, s_cat_f, s_cat_l, tl_s, tl_n, cat_i, cat_r, cat_f, nb0, nb1, nbI, if_bI, if_bIr, Nat.zero_le, Nat.reduceLeDiff, M_g0, M_g1, M_g2, M_g3, M_g4, M_g5, M_g6, M_g7, M_g8, M_g9, M_g10, M_g11, M_g12, M_g13, M_g14, M_g15, M_g16, M_g17, M_g18, M_g19, M_g20, M_g21, M_g22, M_g23, M_g24, M_g25, M_g26, M_g27, M_g28, M_g29, M_g30, M_g31, M_g32, M_g33, M_g34, M_g35, M_g36, M_g37, M_g38, M_g39, M_g40, M_g41, M_a324, m_cAt, M_r rb320, i1, c1, f1, a7]
      · have nl : ¬ nI l = nI 0 := fun q => l0 ((nI_eq (by omega) (by omega)).mp q)
        have sb : nI l - nI 1 = nI (l - 1) := pk_sub (by omega)
        have i2 : vp_in (nI (4 * (l - 1) + c)) 160 := (nIn (by omega)).mpr (by omega)
        have c2 : (nI (4 * (l - 1) + c)).toNatClampNeg = 4 * (l - 1) + c := nCl (by omega)
        have f2 := hf (l - 1) c (by omega) hcC
        rw [ey] at f2
        rw [← fin y v5 v6 (by omega) (if_neg l0).symm]
        simp (disch := omega) only [u_216_5, u_216_6, gI0, gIs, gR0, gRs, gF0, gFs, st0, st_i, st_r, st_f, st_n, st_s, true_and, and_true, ↓ifLeT, ↓ifLeF, ↓ifLtT, ↓ifLtF, ↓ifEqT, ↓ifEqF, if_tt, if_ff, if_pos, if_neg, nLe, nLt, nEq, nInT, nCl, pk_mul, nI_add, Nat.reduceAdd, s_cat_nil, s_cat_i, s_cat_r, s_cat_f, s_cat_l, tl_s, tl_n, cat_i, cat_r, cat_f, nb0, nb1, nbI, if_bI, if_bIr, Nat.zero_le, Nat.reduceLeDiff, M_g0, M_g1, M_g2, M_g3, M_g4, M_g5, M_g6, M_g7, M_g8, M_g9, M_g10, M_g11, M_g12, M_g13, M_g14, M_g15, M_g16, M_g17, M_g18, M_g19, M_g20, M_g21, M_g22, M_g23, M_g24, M_g25, M_g26, M_g27, M_g28, M_g29, M_g30, M_g31, M_g32, M_g33, M_g34, M_g35, M_g36, M_g37, M_g38, M_g39, M_g40, M_g41, k10]
        simp (disch := omega) only [u_216_9, u_216_12, u_216_13, u_216_16, u_216_17, u_216_18, u_216_19, u_216_20, u_216_21, u_216_22, u_216_24, u_216_25, u_216_28, u_216_29, u_216_32, u_216_33, u_216_34, u_216_37, u_216_38, u_216_41, u_216_42, u_216_45, u_216_46, u_216_47, u_216_48, u_216_49, u_216_50, u_216_51, u_216_52, gI0, gIs, gR0, gRs, gF0, gFs, st0, st_i, st_r, st_f, st_n, st_s, true_and, and_true, ↓ifLeT, ↓ifLeF, ↓ifLtT, ↓ifLtF, ↓ifEqT, ↓ifEqF, if_tt, if_ff, if_pos, if_neg, nLe, nLt, nEq, nInT, nCl, pk_mul, nI_add, Nat.reduceAdd, s_cat_nil, s_cat_i, s_cat_r, s_cat_f, s_cat_l, tl_s, tl_n, cat_i, cat_r, cat_f, nb0, nb1, nbI, if_bI, if_bIr, Nat.zero_le, Nat.reduceLeDiff, M_g0, M_g1, M_g2, M_g3, M_g4, M_g5, M_g6, M_g7, M_g8, M_g9, M_g10, M_g11, M_g12, M_g13, M_g14, M_g15, M_g16, M_g17, M_g18, M_g19, M_g20, M_g21, M_g22, M_g23, M_g24, M_g25, M_g26, M_g27, M_g28, M_g29, M_g30, M_g31, M_g32, M_g33, M_g34, M_g35, M_g36, M_g37, M_g38, M_g39, M_g40, M_g41, M_a324, i1, c1, f1, nl, sb, i2, c2, f2, reduceIte]
  have := lp (nF n 2) 0 true s_no s_no s_no (Nat.zero_add _)
  simp (disch := omega) only [u_216_0, u_216_1, u_216_2, u_216_3, gI0, gIs, gR0, gRs, gF0, gFs, st0, st_i, st_r, st_f, st_n, st_s, true_and, and_true, ↓ifLeT, ↓ifLeF, ↓ifLtT, ↓ifLtF, ↓ifEqT, ↓ifEqF, if_tt, if_ff, if_pos, if_neg, nLe, nLt, nEq, nInT, nCl, pk_mul, nI_add, Nat.reduceAdd, s_cat_nil, s_cat_i, s_cat_r, s_cat_f, s_cat_l, tl_s, tl_n, cat_i, cat_r, cat_f, nb0, nb1, nbI, if_bI, if_bIr, Nat.zero_le, Nat.reduceLeDiff]
  rw [Bool.true_and, ← List.range_eq_range'] at this
  exact this
end MTS
