/-! Reader: MOVES -/
section RM
variable {a b d m : Nat} {s : tS} {h : sH} {i x lo hi : Int32} {Q : sQ}
/-- the tape and the numbers -/
def stt (s : tS) (t g : tO) : tS := wSO (wSG s g) 2 t
theorem stt_O {t g : tO} : SO (stt s t g) 2 = t := rfl
theorem stt_G {t g : tO} : SG (stt s t g) = g := rfl
theorem stt_wO {t t' g : tO} : wSO (stt s t g) 2 t' = stt s t' g := wSO_tw _ _ _ _
theorem stt_wG {t g g' : tO} : wSG (stt s t g) g' = stt s t g' := rfl
theorem stt_eta : stt s (SO s 2) (SG s) = s := wSO_eta
def mvI (l : Nat) : Nat → Nat → tO → tO → Bool × tO × tO
  | 0, _, t, g => (true, t, g)
  | n + 1, c, t, g => if isNB t (nI 0) (nI 99) then mvI l n (c + 1) (advT t) (vA g 103 (upd (eA g 103) (l * 4 + c) (eI t 4))) else (false, t, g)
theorem mvI_ok {l : Nat} : ∀ n c t g, okT t → okT (mvI l n c t g).2.1
  | 0, _, _, _, ht => ht
  | n + 1, c, t, g, ht => by
    unfold mvI
    split
    · exact mvI_ok n (c + 1) _ _ (okT_adv (okT_0 ht))
    · exact ht
def mvO (C : Nat) : Nat → Nat → tO → tO → Bool × tO × tO
  | 0, _, t, g => (false, t, g)
  | n + 1, l, t, g => if (mvI l C 0 t g).1 then (if eI (mvI l C 0 t g).2.1 3 = nI 0 then (true, (mvI l C 0 t g).2.1, vN (mvI l C 0 t g).2.2 104 (l + 1)) else if eI (mvI l C 0 t g).2.1 3 = nI 3 then mvO C n (l + 1) (advT (mvI l C 0 t g).2.1) (vN (mvI l C 0 t g).2.2 104 (l + 1)) else (false, (mvI l C 0 t g).2.1, vN (mvI l C 0 t g).2.2 104 (l + 1))) else (false, (mvI l C 0 t g).2)
theorem moves_in {C l : Nat} (hC : C ≤ 4) (hl : l < 40) : ∀ n c t g v4, c + n = C → okT t → (∃ v, WP (d + 2) 33 22 [.ref 1, .int (nI C), .int (nI l), .int (nI c), v4] [] (pS (stt s t g) h) (0, 0) Q ↔ if (mvI l n c t g).1 then WP (d + 2) 33 86 [.ref 1, .int (nI C), .int (nI l), .int (nI C), v] [] (pS (stt s (mvI l n c t g).2.1 (mvI l n c t g).2.2) h) (0, 0) Q else Q (some (.int (nI 0))) (pS (stt s (mvI l n c t g).2.1 (mvI l n c t g).2.2) h)) := by
  intro n
  induction n with
  | zero =>
    intro c t g v4 hc ht
    have e : c = C := by omega
    subst e
    refine ⟨v4, ?_⟩
    rw [show mvI l 0 c t g = (true, t, g) from rfl, if_pos rfl]
    simp (disch := omega) only [u_33_22, u_33_23, u_33_24, gI0, gIs, gR0, gRs, gF0, gFs, st0, st_i, st_r, st_f, st_n, st_s, true_and, and_true, ↓ifLeT, ↓ifLeF, ↓ifLtT, ↓ifLtF, ↓ifEqT, ↓ifEqF, if_tt, if_ff, if_pos, if_neg, nLe, nLt, nEq, nInT, nCl, pk_mul, nI_add, Nat.reduceAdd, s_cat_nil, s_cat_i, s_cat_r, s_cat_f, s_cat_l, tl_s, tl_n, cat_i, cat_r, cat_f, nb0, nb1, nbI, if_bI, if_bIr, Nat.zero_le, Nat.reduceLeDiff, Nat.le_refl]
  | succ n ih =>
    intro c t g v4 hc ht
    have e1 := fun Q => T_isNumber (d := d + 1) (s := stt s t g) (h := h) (lo := nI 0) (hi := nI 99) (Q := Q)
    have e2 := fun g Q => T_advance (d := d) (s := stt s t g) (h := h) (Q := Q) (okT_0 ht)
    rw [stt_O] at e1
    simp only [stt_O, stt_wO] at e2
    cases h1 : isNB t (nI 0) (nI 99) with
    | true =>
      rw [show mvI l (n + 1) c t g = mvI l n (c + 1) (advT t) (vA g 103 (upd (eA g 103) (l * 4 + c) (eI t 4))) by rw [mvI, if_pos h1]]
      obtain ⟨v, e⟩ := ih (c + 1) (advT t) (vA g 103 (upd (eA g 103) (l * 4 + c) (eI t 4))) (.int (nI (l * 4 + c))) (by omega) (okT_adv (okT_0 ht))
      refine ⟨v, Iff.trans ?_ e⟩
      rw [u_33_22]
      simp (disch := omega) only [u_33_23, u_33_24, u_33_27, u_33_28, u_33_31, u_33_32, u_33_34, u_33_37, u_33_40, u_33_41, u_33_42, u_33_43, u_33_44, u_33_45, u_33_46, u_33_47, u_33_49, u_33_51, u_33_52, u_33_55, u_33_56, u_33_59, u_33_60, u_33_63, u_33_65, u_33_66, u_33_69, u_33_72, u_33_73, u_33_74, u_33_77, u_33_80, u_33_83, gI0, gIs, gR0, gRs, gF0, gFs, st0, st_i, st_r, st_f, st_n, st_s, true_and, and_true, ↓ifLeT, ↓ifLeF, ↓ifLtT, ↓ifLtF, ↓ifEqT, ↓ifEqF, if_tt, if_ff, if_pos, if_neg, nLe, nLt, nEq, nInT, nCl, pk_mul, nI_add, Nat.reduceAdd, s_cat_nil, s_cat_i, s_cat_r, s_cat_f, s_cat_l, tl_s, tl_n, cat_i, cat_r, cat_f, nb0, nb1, nbI, if_bI, if_bIr, Nat.zero_le, Nat.reduceLeDiff, S_g0_0, S_g0_1, S_g0_2, S_g0_3, S_g0_4, S_g0_5, S_g0_6, S_g0_7, S_g0_8, S_g0_9, S_g0_10, S_g0_11, S_g0_12, S_g0_13, S_g0_14, S_g1_0, S_g1_1, S_g1_2, S_g1_3, S_g1_4, S_g72_0, S_g72_1, S_g72_2, S_g239_0, S_g239_1, S_g239_2, S_g239_3, S_g239_4, S_g239_5, S_g239_6, S_a23, S_n23, S_a282, S_n282, S_a300, S_n300, S_n73, S_n299, S_s0_5, S_s0_5t, S_s0_5f, S_s1_4, S_s72_1, S_s72_2, S_s239_6, S_w23, S_w282, S_w300, T_ob, T_g4, e1, h1, iBt, nI10, reduceIte, e2, stt_O, stt_G, stt_wG]
    | false =>
      rw [show mvI l (n + 1) c t g = (false, t, g) by rw [mvI, h1]; rfl]
      refine ⟨v4, ?_⟩
      rw [if_neg (show ¬ (false = true) by decide), u_33_22]
      simp (disch := omega) only [u_33_23, u_33_24, u_33_27, u_33_28, u_33_31, u_33_32, u_33_34, u_33_37, u_33_40, u_33_41, gI0, gIs, gR0, gRs, gF0, gFs, st0, st_i, st_r, st_f, st_n, st_s, true_and, and_true, ↓ifLeT, ↓ifLeF, ↓ifLtT, ↓ifLtF, ↓ifEqT, ↓ifEqF, if_tt, if_ff, if_pos, if_neg, nLe, nLt, nEq, nInT, nCl, pk_mul, nI_add, Nat.reduceAdd, s_cat_nil, s_cat_i, s_cat_r, s_cat_f, s_cat_l, tl_s, tl_n, cat_i, cat_r, cat_f, nb0, nb1, nbI, if_bI, if_bIr, Nat.zero_le, Nat.reduceLeDiff, S_g0_0, S_g0_1, S_g0_2, S_g0_3, S_g0_4, S_g0_5, S_g0_6, S_g0_7, S_g0_8, S_g0_9, S_g0_10, S_g0_11, S_g0_12, S_g0_13, S_g0_14, S_g1_0, S_g1_1, S_g1_2, S_g1_3, S_g1_4, S_g72_0, S_g72_1, S_g72_2, S_g239_0, S_g239_1, S_g239_2, S_g239_3, S_g239_4, S_g239_5, S_g239_6, S_a23, S_n23, S_a282, S_n282, S_a300, S_n300, S_n73, S_n299, T_ob, e1, h1, iBf]
theorem moves_out {C : Nat} (hC : C ≤ 4) : ∀ n l t g v3 v4, l + n = 40 → okT t → (WP (d + 3) 33 14 [.ref 1, .int (nI C), .int (nI l), v3, v4] [] (pS (stt s t g) h) (0, 0) Q ↔ Q (some (.int (iB (mvO C n l t g).1))) (pS (stt s (mvO C n l t g).2.1 (mvO C n l t g).2.2) h)) := by
  intro n
  induction n with
  | zero =>
    intro l t g v3 v4 hl ht
    have e : l = 40 := by omega
    subst e
    simp (disch := omega) only [u_33_14, u_33_15, u_33_17, u_33_120, u_33_121, gI0, gIs, gR0, gRs, gF0, gFs, st0, st_i, st_r, st_f, st_n, st_s, true_and, and_true, ↓ifLeT, ↓ifLeF, ↓ifLtT, ↓ifLtF, ↓ifEqT, ↓ifEqF, if_tt, if_ff, if_pos, if_neg, nLe, nLt, nEq, nInT, nCl, pk_mul, nI_add, Nat.reduceAdd, s_cat_nil, s_cat_i, s_cat_r, s_cat_f, s_cat_l, tl_s, tl_n, cat_i, cat_r, cat_f, nb0, nb1, nbI, if_bI, if_bIr, Nat.zero_le, Nat.reduceLeDiff, mvO, iBf]
  | succ n ih =>
    intro l t g v3 v4 hl ht
    obtain ⟨v, e⟩ := moves_in (d := d + 1) (s := s) (h := h) (Q := Q) hC (show l < 40 by omega) C 0 t g v4 (Nat.zero_add _) ht
    have ok := mvI_ok (l := l) C 0 t g ht
    rw [mvO]
    generalize mvI l C 0 t g = r at e ok
    obtain ⟨r1, t1, g1⟩ := r
    have s1 : WP (d + 3) 33 14 [.ref 1, .int (nI C), .int (nI l), v3, v4] [] (pS (stt s t g) h) (0, 0) Q ↔ WP (d + 3) 33 22 [.ref 1, .int (nI C), .int (nI l), .int (nI 0), v4] [] (pS (stt s t g) h) (0, 0) Q := by
      rw [u_33_14]
      simp (disch := omega) only [u_33_15, u_33_17, u_33_20, u_33_21, gI0, gIs, gR0, gRs, gF0, gFs, st0, st_i, st_r, st_f, st_n, st_s, true_and, and_true, ↓ifLeT, ↓ifLeF, ↓ifLtT, ↓ifLtF, ↓ifEqT, ↓ifEqF, if_tt, if_ff, if_pos, if_neg, nLe, nLt, nEq, nInT, nCl, pk_mul, nI_add, Nat.reduceAdd, s_cat_nil, s_cat_i, s_cat_r, s_cat_f, s_cat_l, tl_s, tl_n, cat_i, cat_r, cat_f, nb0, nb1, nbI, if_bI, if_bIr, Nat.zero_le, Nat.reduceLeDiff]
    refine s1.trans (e.trans ?_)
    cases r1 with
    | false => exact Iff.rfl
    | true =>
      have e2 := fun g Q => m_isNextLine (d := d) (s := stt s t1 g) (h := h) (Q := Q) (okT_0 ok)
      simp only [stt_O, stt_wO] at e2
      show WP _ _ 86 _ _ (pS (stt s t1 g1) h) _ _ ↔ _
      by_cases k0 : eI t1 3 = nI 0
      · simp (disch := omega) only [u_33_86, u_33_87, u_33_88, u_33_89, u_33_90, u_33_93, u_33_94, u_33_97, u_33_100, u_33_103, u_33_104, gI0, gIs, gR0, gRs, gF0, gFs, st0, st_i, st_r, st_f, st_n, st_s, true_and, and_true, ↓ifLeT, ↓ifLeF, ↓ifLtT, ↓ifLtF, ↓ifEqT, ↓ifEqF, if_tt, if_ff, if_pos, if_neg, nLe, nLt, nEq, nInT, nCl, pk_mul, nI_add, Nat.reduceAdd, s_cat_nil, s_cat_i, s_cat_r, s_cat_f, s_cat_l, tl_s, tl_n, cat_i, cat_r, cat_f, nb0, nb1, nbI, if_bI, if_bIr, Nat.zero_le, Nat.reduceLeDiff, S_g0_0, S_g0_1, S_g0_2, S_g0_3, S_g0_4, S_g0_5, S_g0_6, S_g0_7, S_g0_8, S_g0_9, S_g0_10, S_g0_11, S_g0_12, S_g0_13, S_g0_14, S_g1_0, S_g1_1, S_g1_2, S_g1_3, S_g1_4, S_g72_0, S_g72_1, S_g72_2, S_g239_0, S_g239_1, S_g239_2, S_g239_3, S_g239_4, S_g239_5, S_g239_6, S_a23, S_n23, S_a282, S_n282, S_a300, S_n300, S_n73, S_n299, S_s0_5, S_s0_5t, S_s0_5f, S_s1_4, S_s72_1, S_s72_2, S_s239_6, S_w23, S_w282, S_w300, T_g3, stt_O, stt_G, stt_wG, k0, reduceIte, iBt]
      · by_cases k3 : eI t1 3 = nI 3
        · have e3 := ih (l + 1) (advT t1) (vN g1 104 (l + 1)) (.int (nI C)) v (by omega) (okT_adv (okT_0 ok))
          simp only [k3, reduceIte, decide_true] at e2
          simp (disch := omega) only [u_33_86, u_33_87, u_33_88, u_33_89, u_33_90, u_33_93, u_33_94, u_33_97, u_33_100, u_33_103, u_33_104, u_33_105, u_33_106, u_33_109, u_33_112, u_33_113, u_33_114, u_33_117, gI0, gIs, gR0, gRs, gF0, gFs, st0, st_i, st_r, st_f, st_n, st_s, true_and, and_true, ↓ifLeT, ↓ifLeF, ↓ifLtT, ↓ifLtF, ↓ifEqT, ↓ifEqF, if_tt, if_ff, if_pos, if_neg, nLe, nLt, nEq, nInT, nCl, pk_mul, nI_add, Nat.reduceAdd, s_cat_nil, s_cat_i, s_cat_r, s_cat_f, s_cat_l, tl_s, tl_n, cat_i, cat_r, cat_f, nb0, nb1, nbI, if_bI, if_bIr, Nat.zero_le, Nat.reduceLeDiff, S_g0_0, S_g0_1, S_g0_2, S_g0_3, S_g0_4, S_g0_5, S_g0_6, S_g0_7, S_g0_8, S_g0_9, S_g0_10, S_g0_11, S_g0_12, S_g0_13, S_g0_14, S_g1_0, S_g1_1, S_g1_2, S_g1_3, S_g1_4, S_g72_0, S_g72_1, S_g72_2, S_g239_0, S_g239_1, S_g239_2, S_g239_3, S_g239_4, S_g239_5, S_g239_6, S_a23, S_n23, S_a282, S_n282, S_a300, S_n300, S_n73, S_n299, S_s0_5, S_s0_5t, S_s0_5f, S_s1_4, S_s72_1, S_s72_2, S_s239_6, S_w23, S_w282, S_w300, S_ob1, T_g3, stt_O, stt_G, stt_wG, k0, k3, reduceIte, e2, iBt, nI10, e3]
        · simp only [k3, reduceIte, decide_false] at e2
          simp (disch := omega) only [u_33_86, u_33_87, u_33_88, u_33_89, u_33_90, u_33_93, u_33_94, u_33_97, u_33_100, u_33_103, u_33_104, u_33_105, u_33_106, u_33_109, u_33_112, u_33_113, u_33_114, u_33_117, gI0, gIs, gR0, gRs, gF0, gFs, st0, st_i, st_r, st_f, st_n, st_s, true_and, and_true, ↓ifLeT, ↓ifLeF, ↓ifLtT, ↓ifLtF, ↓ifEqT, ↓ifEqF, if_tt, if_ff, if_pos, if_neg, nLe, nLt, nEq, nInT, nCl, pk_mul, nI_add, Nat.reduceAdd, s_cat_nil, s_cat_i, s_cat_r, s_cat_f, s_cat_l, tl_s, tl_n, cat_i, cat_r, cat_f, nb0, nb1, nbI, if_bI, if_bIr, Nat.zero_le, Nat.reduceLeDiff, S_g0_0, S_g0_1, S_g0_2, S_g0_3, S_g0_4, S_g0_5, S_g0_6, S_g0_7, S_g0_8, S_g0_9, S_g0_10, S_g0_11, S_g0_12, S_g0_13, S_g0_14, S_g1_0, S_g1_1, S_g1_2, S_g1_3, S_g1_4, S_g72_0, S_g72_1, S_g72_2, S_g239_0, S_g239_1, S_g239_2, S_g239_3, S_g239_4, S_g239_5, S_g239_6, S_a23, S_n23, S_a282, S_n282, S_a300, S_n300, S_n73, S_n299, S_s0_5, S_s0_5t, S_s0_5f, S_s1_4, S_s72_1, S_s72_2, S_s239_6, S_w23, S_w282, S_w300, S_ob1, T_g3, stt_O, stt_G, stt_wG, k0, k3, reduceIte, e2, iBf]
/-- MOVES read -/
def rmS (s : tS) (C : Nat) : Bool × tO × tO := mvO C 40 0 (rewT (SO s 2)) (vN (SG s) 104 0)
theorem m_readsMoves {C : Nat} (hC : C ≤ 4) (hL : eN (SO s 2) 1 ≤ 400) : MT (d + 4) 33 [.ref 1, .int (nI C)] (pS s h) Q ↔ Q (some (.int (iB (rmS s C).1))) (pS (stt s (rmS s C).2.1 (rmS s C).2.2) h) := by
  rw [MT_go (by decide) _ _ _ (Nat.le_of_ble_eq_true rfl), show s_entry 33 [.ref 1, .int (nI C)] = [.ref 1, .int (nI C), s_no, s_no, s_no] from rfl]
  have e1 := fun Q => T_rewind (d := d) (s := wSG s (vN (SG s) 104 0)) (h := h) (Q := Q) hL
  have e := moves_out (d := d) (s := s) (h := h) (Q := Q) hC 40 0 (rewT (SO s 2)) (vN (SG s) 104 0) s_no s_no rfl (okT_rew hL)
  simp (disch := omega) only [u_33_0, u_33_1, u_33_2, u_33_5, u_33_6, u_33_9, u_33_12, u_33_13, gI0, gIs, gR0, gRs, gF0, gFs, st0, st_i, st_r, st_f, st_n, st_s, true_and, and_true, ↓ifLeT, ↓ifLeF, ↓ifLtT, ↓ifLtF, ↓ifEqT, ↓ifEqF, if_tt, if_ff, if_pos, if_neg, nLe, nLt, nEq, nInT, nCl, pk_mul, nI_add, Nat.reduceAdd, s_cat_nil, s_cat_i, s_cat_r, s_cat_f, s_cat_l, tl_s, tl_n, cat_i, cat_r, cat_f, nb0, nb1, nbI, if_bI, if_bIr, Nat.zero_le, Nat.reduceLeDiff, S_g0_0, S_g0_1, S_g0_2, S_g0_3, S_g0_4, S_g0_5, S_g0_6, S_g0_7, S_g0_8, S_g0_9, S_g0_10, S_g0_11, S_g0_12, S_g0_13, S_g0_14, S_g1_0, S_g1_1, S_g1_2, S_g1_3, S_g1_4, S_g72_0, S_g72_1, S_g72_2, S_g239_0, S_g239_1, S_g239_2, S_g239_3, S_g239_4, S_g239_5, S_g239_6, S_a23, S_n23, S_a282, S_n282, S_a300, S_n300, S_n73, S_n299, S_s0_5, S_s0_5t, S_s0_5f, S_s1_4, S_s72_1, S_s72_2, S_s239_6, S_w23, S_w282, S_w300, T_ob, e1]
  exact e
end RM
