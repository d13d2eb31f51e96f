/-! the reference's easy */ -/
def EQ (n N : tN) : Prop := (∀ q, q ≠ 4 → nF N q = nF n q) ∧ nA N 8 = nA n 8 ∧ nA N 14 = nA n 14
theorem EQ_lift {n N : tN} (h : EQ n N) : nLift N = nLift n := by
  funext c t
  unfold nLift
  rw [h.2.1, h.2.2]
theorem EQ_give {n N : tN} {c : Nat} (h : EQ n N) : EQ n (giveN c N) := by
  unfold giveN
  split
  · exact h
  · split
    · exact h
    · exact h
theorem EQ_pass {n N : tN} (h : EQ n N) : EQ n (passN N) := ⟨fun q hq => (run_F (n := N) hq 1).trans (h.1 q hq), (congrFun (congrArg id rfl) 8 |>.trans (run_A (n := N) (by decide) (by decide) 1)).trans h.2.1, (run_A (n := N) (by decide) (by decide) 1).trans h.2.2⟩
def frE (m m' : tM) : Prop := (∀ k, k ≠ 31 → kI m' k = kI m k) ∧ kB m' = kB m ∧ ∀ q, q ≠ 330 → q ≠ 327 → kA m' q = kA m q
theorem frE_r {m : tM} : frE m m := ⟨fun _ _ => rfl, rfl, fun _ _ _ => rfl⟩
theorem frE_t {m m' m2 : tM} (h1 : frE m m') (h2 : frE m' m2) : frE m m2 := ⟨fun k hk => (h2.1 k hk).trans (h1.1 k hk), h2.2.1.trans h1.2.1, fun q a b => (h2.2.2 q a b).trans (h1.2.2 q a b)⟩
theorem frE_M {m m' : tM} (h : frM 330 m m') : frE m m' := ⟨fun k _ => h.1 k, h.2.1, fun q a b => h.2.2 q a b⟩
theorem frE_Z {m m' : tM} (h : frE m m') : frZ m m' := ⟨fun k hk => h.1 k (by unfold keyI at hk; omega), h.2.1, fun q hq => h.2.2 q (by unfold keyA at hq; omega) (by unfold keyA at hq; omega)⟩
theorem frE_330 {m : tM} {f : Nat → Int32} : frE m (xA m 330 f) := ⟨fun _ _ => rfl, rfl, fun q h _ => if_neg h⟩
theorem frE_31 {m : tM} {x : Int32} : frE m (xI m 31 x) := ⟨fun k hk => if_neg hk, rfl, fun _ _ _ => rfl⟩
theorem MG_EQ {m : tM} {n N : tN} (hg : MG m n) (h : EQ n N) : MG m N := by
  obtain ⟨g1, g2, g3, g4⟩ := hg
  obtain ⟨e1, e2, -⟩ := h
  exact ⟨by rw [e1 0 (by decide)]; exact g1, by rw [e1 1 (by decide)]; exact g2, by rw [e1 2 (by decide)]; exact g3, fun c hc => by rw [e2]; exact g4 c (by rw [← e1 2 (by decide)]; exact hc)⟩
theorem tbits_app {l : tL} {c t : Nat} (hc : c < 4) : tbits (appF l c t) = tbits l ||| 2 ^ t := by
  apply Nat.eq_of_testBit_eq
  intro i
  rw [Nat.testBit_or, Nat.testBit_two_pow]
  have key : (tbits (appF l c t)).testBit i = true ↔ ((tbits l).testBit i || decide (t = i)) = true := by
    rw [tbits_tb, Bool.or_eq_true, tbits_tb, decide_eq_true_eq]
    constructor
    · rintro ⟨q, hq, h⟩
      by_cases e : q = c
      · subst e
        rw [app_at, List.mem_append, List.mem_singleton] at h
        rcases h with h | h
        · exact Or.inl ⟨q, hq, h⟩
        · exact Or.inr h.symm
      · rw [app_ne e] at h
        exact Or.inl ⟨q, hq, h⟩
    · rintro (⟨q, hq, h⟩ | h)
      · refine ⟨q, hq, ?_⟩
        by_cases e : q = c
        · subst e; rw [app_at]; exact List.mem_append_left _ h
        · rw [app_ne e]; exact h
      · refine ⟨c, hc, ?_⟩
        rw [app_at, ← h]
        exact List.mem_append_right _ (List.mem_singleton.mpr rfl)
  exact Bool.eq_iff_iff.mpr key
theorem hold_bit {n : tN} {t : Nat} : (holdN (nL n) t).isNone = !(tbits (nL n)).testBit t := by
  rw [Bool.eq_iff_iff, Bool.not_eq_true', ← Bool.not_eq_true, tbits_tb]
  cases h : holdN (nL n) t with
  | none => exact ⟨fun _ ⟨q, hq, hm⟩ => hold_none h hq hm, fun _ => rfl⟩
  | some c => exact ⟨fun q => (by cases q), fun q => absurd ⟨c, (hold_some h).1, (hold_some h).2⟩ q⟩
section MEA
variable {b d : Nat} {m : tM} {h : sH} {x y w : Int32} {Q : sQ} {n N : tN} {z : tQ}
theorem r_allD (hb : rb b) (hn : wfN n) (hr : RR (kA m b) n) : MT (d + 3) 229 [.ref 317, .ref b] (pM m h) Q ↔ Q (some (.int (iB (allD n)))) (pM m h) := by
  have h8 := hn.1.2.1
  have r1 := hr.2.1
  have c1 : (nI 1).toNatClampNeg = 1 := rfl
  rw [MT_go (by decide) _ _ _ (Nat.le_of_ble_eq_true rfl), show s_entry 229 [.ref 317, .ref b] = [.ref 317, .ref b, s_no, s_no] from rfl]
  have lp : ∀ q k v, k + q = nF n 3 → (WP (d + 2) 229 4 [.ref 317, .ref b, .int (iB v), .int (nI k)] [] (pM m h) (0, 0) Q ↔ Q (some (.int (iB (v && (List.range' k q).all (nDone n))))) (pM m h)) := by
    intro q
    induction q with
    | zero =>
      intro k v hk
      have e : k = nF n 3 := by omega
      subst e
      rw [u_229_4]
      simp (disch := omega) only [u_229_0, u_229_1, u_229_2, u_229_3, u_229_5, u_229_6, u_229_7, u_229_8, u_229_11, u_229_12, u_229_15, u_229_16, u_229_17, u_229_20, u_229_23, u_229_24, u_229_27, u_229_28, u_229_29, u_229_32, u_229_35, u_229_36, gI0, gIs, gR0, gRs, gF0, gFs, st0, st_i, st_r, st_f, st_n, st_s, true_and, and_true, ↓ifLeT, ↓ifLeF, ↓ifLtT, ↓ifLtF, ↓ifEqT, ↓ifEqF, if_tt, if_ff, if_pos, if_neg, nLe, nLt, nEq, nInT, nCl, pk_mul, nI_add, Nat.reduceAdd, s_cat_nil, s_cat_i, s_cat_r, s_cat_f, s_cat_l, tl_s, tl_n, cat_i, cat_r, cat_f, nb0, nb1, nbI, if_bI, if_bIr, Nat.zero_le, Nat.reduceLeDiff, M_r hb, c1, r1]
      rw [List.range'_zero, List.all_nil, Bool.and_true]
      exact ⟨fun z => z.2, fun z => ⟨nbB.mpr trivial, z⟩⟩
    | succ q ih =>
      intro k v hk
      have ih := fun v => ih (k + 1) v (by omega)
      have e1 := fun Q => r_done (d := d) (h := h) (Q := Q) (t := k) hb hn hr (by omega)
      rw [u_229_4, all_acc]
      cases v with
      | false =>
        simp (disch := omega) only [u_229_0, u_229_1, u_229_2, u_229_3, u_229_5, u_229_6, u_229_7, u_229_8, u_229_11, u_229_12, u_229_15, u_229_16, u_229_17, u_229_20, u_229_23, u_229_24, u_229_27, u_229_28, u_229_29, u_229_32, u_229_35, u_229_36, gI0, gIs, gR0, gRs, gF0, gFs, st0, st_i, st_r, st_f, st_n, st_s, true_and, and_true, ↓ifLeT, ↓ifLeF, ↓ifLtT, ↓ifLtF, ↓ifEqT, ↓ifEqF, if_tt, if_ff, if_pos, if_neg, nLe, nLt, nEq, nInT, nCl, pk_mul, nI_add, Nat.reduceAdd, s_cat_nil, s_cat_i, s_cat_r, s_cat_f, s_cat_l, tl_s, tl_n, cat_i, cat_r, cat_f, nb0, nb1, nbI, if_bI, if_bIr, Nat.zero_le, Nat.reduceLeDiff, M_r hb, c1, r1, iBf]
        have := ih false
        rw [Bool.false_and] at this
        rw [Bool.false_and]
        exact this
      | true =>
        cases hd : nDone n k with
        | true =>
          rw [hd] at e1
          have := ih true
          simp (disch := omega) only [u_229_0, u_229_1, u_229_2, u_229_3, u_229_5, u_229_6, u_229_7, u_229_8, u_229_11, u_229_12, u_229_15, u_229_16, u_229_17, u_229_20, u_229_23, u_229_24, u_229_27, u_229_28, u_229_29, u_229_32, u_229_35, u_229_36, gI0, gIs, gR0, gRs, gF0, gFs, st0, st_i, st_r, st_f, st_n, st_s, true_and, and_true, ↓ifLeT, ↓ifLeF, ↓ifLtT, ↓ifLtF, ↓ifEqT, ↓ifEqF, if_tt, if_ff, if_pos, if_neg, nLe, nLt, nEq, nInT, nCl, pk_mul, nI_add, Nat.reduceAdd, s_cat_nil, s_cat_i, s_cat_r, s_cat_f, s_cat_l, tl_s, tl_n, cat_i, cat_r, cat_f, nb0, nb1, nbI, if_bI, if_bIr, Nat.zero_le, Nat.reduceLeDiff, M_r hb, c1, r1, e1, iBt, nI10, reduceIte]
          rw [Bool.true_and]
          exact this
        | false =>
          rw [hd] at e1
          have := ih false
          rw [Bool.false_and] at this
          simp (disch := omega) only [u_229_0, u_229_1, u_229_2, u_229_3, u_229_5, u_229_6, u_229_7, u_229_8, u_229_11, u_229_12, u_229_15, u_229_16, u_229_17, u_229_20, u_229_23, u_229_24, u_229_27, u_229_28, u_229_29, u_229_32, u_229_35, u_229_36, gI0, gIs, gR0, gRs, gF0, gFs, st0, st_i, st_r, st_f, st_n, st_s, true_and, and_true, ↓ifLeT, ↓ifLeF, ↓ifLtT, ↓ifLtF, ↓ifEqT, ↓ifEqF, if_tt, if_ff, if_pos, if_neg, nLe, nLt, nEq, nInT, nCl, pk_mul, nI_add, Nat.reduceAdd, s_cat_nil, s_cat_i, s_cat_r, s_cat_f, s_cat_l, tl_s, tl_n, cat_i, cat_r, cat_f, nb0, nb1, nbI, if_bI, if_bIr, Nat.zero_le, Nat.reduceLeDiff, M_r hb, c1, r1, e1, iBt, iBf, nI10, reduceIte]
          rw [Bool.false_and, Bool.and_false]
          exact this
  have := lp (nF n 3) 0 true (Nat.zero_add _)
  simp (disch := omega) only [u_229_0, u_229_1, u_229_2, u_229_3, u_229_5, u_229_6, u_229_7, u_229_8, u_229_11, u_229_12, u_229_15, u_229_16, u_229_17, u_229_20, u_229_23, u_229_24, u_229_27, u_229_28, u_229_29, u_229_32, u_229_35, u_229_36, gI0, gIs, gR0, gRs, gF0, gFs, st0, st_i, st_r, st_f, st_n, st_s, true_and, and_true, ↓ifLeT, ↓ifLeF, ↓ifLtT, ↓ifLtF, ↓ifEqT, ↓ifEqF, if_tt, if_ff, if_pos, if_neg, nLe, nLt, nEq, nInT, nCl, pk_mul, nI_add, Nat.reduceAdd, s_cat_nil, s_cat_i, s_cat_r, s_cat_f, s_cat_l, tl_s, tl_n, cat_i, cat_r, cat_f, nb0, nb1, nbI, if_bI, if_bIr, Nat.zero_le, Nat.reduceLeDiff]
  rw [Bool.true_and, ← List.range_eq_range'] at this
  exact this
theorem r_nearFor {c : Nat} (hn : wfN n) (hN : wfN N) (hE : EQ n N) (hg : MG m n) (hr0 : RR (kA m 320) n) (hr : RR (kA m 330) N) (h31 : kI m 31 = nI (tbits (nL N))) (hc : c < nF N 2) : MT (d + 4) 227 [.ref 317, .int (nI c)] (pM m h) Q ↔ Q (some (.int (oI1 (nearN N c)))) (pM m h) := by
  have h4 := hN.1.1
  have h8 := hN.1.2.1
  have hb := hN.1.2.2.2.1
  have r1 := hr.2.1
  have c1 : (nI 1).toNatClampNeg = 1 := rfl
  have a7 := (hr.2.2.1 c hc).1
  have b7 := (hN.2.1.1 c hc).1
  have tl8 : tbits (nL N) < 2 ^ 8 := Nat.lt_of_lt_of_le (tbits_lt (k := nF N 3) fun q t ht => (hN.2.2.2.2.1 q).2 t ht) (Nat.pow_le_pow_right (by decide) h8)
  rw [MT_go (by decide) _ _ _ (Nat.le_of_ble_eq_true rfl), show s_entry 227 [.ref 317, .int (nI c)] = [.ref 317, .int (nI c), s_no, s_no, s_no, s_no, s_no] from rfl]
  have lp : ∀ q t (st : Option Nat × Nat) v5 v6, t + q = nF N 3 → st.2 ≤ 30 → (∀ u, st.1 = some u → u < 8) → (WP (d + 3) 227 7 [.ref 317, .int (nI c), .int (oI1 st.1), .int (nI st.2), .int (nI t), v5, v6] [] (pM m h) (0, 0) Q ↔ Q (some (.int (oI1 (iter (nearS N c) t q st).1))) (pM m h)) := by
    intro q
    induction q with
    | zero =>
      intro t st v5 v6 ht _ _
      have e : t = nF N 3 := by omega
      subst e
      rw [u_227_7]
      simp (disch := omega) only [u_227_0, u_227_1, u_227_2, u_227_3, u_227_4, u_227_5, u_227_9, u_227_10, u_227_13, u_227_14, u_227_15, u_227_18, u_227_19, u_227_22, u_227_24, u_227_25, u_227_28, u_227_29, u_227_30, u_227_33, u_227_34, u_227_35, u_227_38, u_227_39, u_227_40, u_227_43, u_227_45, u_227_46, u_227_49, u_227_51, u_227_54, u_227_57, u_227_58, u_227_61, u_227_63, u_227_64, u_227_65, u_227_66, u_227_69, u_227_70, u_227_73, u_227_75, u_227_78, u_227_81, u_227_82, u_227_83, u_227_85, u_227_88, u_227_91, u_227_92, u_227_95, u_227_96, u_227_98, u_227_100, u_227_103, u_227_104, u_227_105, u_227_108, u_227_110, u_227_111, u_227_114, u_227_116, u_227_117, u_227_119, u_227_120, u_227_123, u_227_126, u_227_127, gI0, gIs, gR0, gRs, gF0, gFs, st0, st_i, st_r, st_f, st_n, st_s, true_and, and_true, ↓ifLeT, ↓ifLeF, ↓ifLtT, ↓ifLtF, ↓ifEqT, ↓ifEqF, if_tt, if_ff, if_pos, if_neg, nLe, nLt, nEq, nInT, nCl, pk_mul, nI_add, Nat.reduceAdd, s_cat_nil, s_cat_i, s_cat_r, s_cat_f, s_cat_l, tl_s, tl_n, cat_i, cat_r, cat_f, nb0, nb1, nbI, if_bI, if_bIr, Nat.zero_le, Nat.reduceLeDiff, M_g0, M_g1, M_g2, M_g3, M_g4, M_g5, M_g6, M_g7, M_g8, M_g9, M_g10, M_g11, M_g12, M_g13, M_g14, M_g15, M_g16, M_g17, M_g18, M_g19, M_g20, M_g21, M_g22, M_g23, M_g24, M_g25, M_g26, M_g27, M_g28, M_g29, M_g30, M_g31, M_g32, M_g33, M_g34, M_g35, M_g36, M_g37, M_g38, M_g39, M_g40, M_g41, M_r rb330, c1, r1]
      exact Iff.rfl
    | succ q ih =>
      intro t st v5 v6 ht hs hu
      have a12 := (hr.2.2.2 t (by omega)).1
      have b12 := (hN.2.2.1 t (by omega)).1
      have e1 := fun Q => r_done (d := d + 1) (h := h) (Q := Q) (t := t) rb330 hN hr (by omega)
      have e2 := fun Q => r_free (d := d) (h := h) (Q := Q) (t := t) rb330 hN hr (by omega)
      have e3 := fun Q => r_lift (d := d + 1) (h := h) (Q := Q) (c := c) (t := t) hn hg hr0 (by rw [← hE.1 2 (by decide)]; exact hc) (by rw [← hE.1 3 (by decide)]; omega)
      rw [← EQ_lift hE] at e3
      have ab := abs_n (a := nA N 7 c) (s := nA N 12 t) (by omega) (by omega)
      have wl : wayN (nA N 7 c) (nA N 12 t) ≤ 30 := by unfold wayN; omega
      have bt := i_bit (m := tbits (nL N)) (c := t) (by omega) (by omega)
      have hh := hold_bit (n := N) (t := t)
      have tl : ∀ v v6, canG N c t = v → (WP (d + 3) 227 96 [.ref 317, .int (nI c), .int (oI1 st.1), .int (nI st.2), .int (nI t), .int (nI (wayN (nA N 7 c) (nA N 12 t))), v6] [.int (iB v)] (pM m h) (0, 0) Q ↔ Q (some (.int (oI1 (iter (nearS N c) (t + 1) q (nearS N c t st)).1))) (pM m h)) := by
        intro v v6 hv
        unfold nearS
        rw [hv]
        cases v with
        | false =>
          rw [Bool.false_and, if_neg Bool.false_ne_true]
          simp (disch := omega) only [u_227_0, u_227_1, u_227_2, u_227_3, u_227_4, u_227_5, u_227_9, u_227_10, u_227_13, u_227_14, u_227_15, u_227_18, u_227_19, u_227_22, u_227_24, u_227_25, u_227_28, u_227_29, u_227_30, u_227_33, u_227_34, u_227_35, u_227_38, u_227_39, u_227_40, u_227_43, u_227_45, u_227_46, u_227_49, u_227_51, u_227_54, u_227_57, u_227_58, u_227_61, u_227_63, u_227_64, u_227_65, u_227_66, u_227_69, u_227_70, u_227_73, u_227_75, u_227_78, u_227_81, u_227_82, u_227_83, u_227_85, u_227_88, u_227_91, u_227_92, u_227_95, u_227_96, u_227_98, u_227_100, u_227_103, u_227_104, u_227_105, u_227_108, u_227_110, u_227_111, u_227_114, u_227_116, u_227_117, u_227_119, u_227_120, u_227_123, u_227_126, u_227_127, gI0, gIs, gR0, gRs, gF0, gFs, st0, st_i, st_r, st_f, st_n, st_s, true_and, and_true, ↓ifLeT, ↓ifLeF, ↓ifLtT, ↓ifLtF, ↓ifEqT, ↓ifEqF, if_tt, if_ff, if_pos, if_neg, nLe, nLt, nEq, nInT, nCl, pk_mul, nI_add, Nat.reduceAdd, s_cat_nil, s_cat_i, s_cat_r, s_cat_f, s_cat_l, tl_s, tl_n, cat_i, cat_r, cat_f, nb0, nb1, nbI, if_bI, if_bIr, Nat.zero_le, Nat.reduceLeDiff, iBf]
          exact ih (t + 1) st _ _ (by omega) hs hu
        | true =>
          rw [Bool.true_and]
          have ihn := ih (t + 1) (some t, wayN (nA N 7 c) (nA N 12 t)) (.int (nI (wayN (nA N 7 c) (nA N 12 t)))) (.int (nI 1)) (by omega) wl (fun u e => by cases e; omega)
          cases h1 : st.1 with
          | none =>
            rw [Option.isNone_none, Bool.true_or, if_pos rfl]
            simp (disch := omega) only [u_227_0, u_227_1, u_227_2, u_227_3, u_227_4, u_227_5, u_227_9, u_227_10, u_227_13, u_227_14, u_227_15, u_227_18, u_227_19, u_227_22, u_227_24, u_227_25, u_227_28, u_227_29, u_227_30, u_227_33, u_227_34, u_227_35, u_227_38, u_227_39, u_227_40, u_227_43, u_227_45, u_227_46, u_227_49, u_227_51, u_227_54, u_227_57, u_227_58, u_227_61, u_227_63, u_227_64, u_227_65, u_227_66, u_227_69, u_227_70, u_227_73, u_227_75, u_227_78, u_227_81, u_227_82, u_227_83, u_227_85, u_227_88, u_227_91, u_227_92, u_227_95, u_227_96, u_227_98, u_227_100, u_227_103, u_227_104, u_227_105, u_227_108, u_227_110, u_227_111, u_227_114, u_227_116, u_227_117, u_227_119, u_227_120, u_227_123, u_227_126, u_227_127, gI0, gIs, gR0, gRs, gF0, gFs, st0, st_i, st_r, st_f, st_n, st_s, true_and, and_true, ↓ifLeT, ↓ifLeF, ↓ifLtT, ↓ifLtF, ↓ifEqT, ↓ifEqF, if_tt, if_ff, if_pos, if_neg, nLe, nLt, nEq, nInT, nCl, pk_mul, nI_add, Nat.reduceAdd, s_cat_nil, s_cat_i, s_cat_r, s_cat_f, s_cat_l, tl_s, tl_n, cat_i, cat_r, cat_f, nb0, nb1, nbI, if_bI, if_bIr, Nat.zero_le, Nat.reduceLeDiff, iBt, nI10, reduceIte, show oI1 none = -1 from rfl]
            exact ihn
          | some u =>
            have := hu u h1
            have ne := m1_ne (j := u) (by omega)
            rw [Option.isNone_some, Bool.false_or]
            by_cases g : wayN (nA N 7 c) (nA N 12 t) < st.2
            · rw [decide_eq_true g, if_pos rfl]
              simp (disch := omega) only [u_227_0, u_227_1, u_227_2, u_227_3, u_227_4, u_227_5, u_227_9, u_227_10, u_227_13, u_227_14, u_227_15, u_227_18, u_227_19, u_227_22, u_227_24, u_227_25, u_227_28, u_227_29, u_227_30, u_227_33, u_227_34, u_227_35, u_227_38, u_227_39, u_227_40, u_227_43, u_227_45, u_227_46, u_227_49, u_227_51, u_227_54, u_227_57, u_227_58, u_227_61, u_227_63, u_227_64, u_227_65, u_227_66, u_227_69, u_227_70, u_227_73, u_227_75, u_227_78, u_227_81, u_227_82, u_227_83, u_227_85, u_227_88, u_227_91, u_227_92, u_227_95, u_227_96, u_227_98, u_227_100, u_227_103, u_227_104, u_227_105, u_227_108, u_227_110, u_227_111, u_227_114, u_227_116, u_227_117, u_227_119, u_227_120, u_227_123, u_227_126, u_227_127, gI0, gIs, gR0, gRs, gF0, gFs, st0, st_i, st_r, st_f, st_n, st_s, true_and, and_true, ↓ifLeT, ↓ifLeF, ↓ifLtT, ↓ifLtF, ↓ifEqT, ↓ifEqF, if_tt, if_ff, if_pos, if_neg, nLe, nLt, nEq, nInT, nCl, pk_mul, nI_add, Nat.reduceAdd, s_cat_nil, s_cat_i, s_cat_r, s_cat_f, s_cat_l, tl_s, tl_n, cat_i, cat_r, cat_f, nb0, nb1, nbI, if_bI, if_bIr, Nat.zero_le, Nat.reduceLeDiff, iBt, nI10, reduceIte, show oI1 (some u) = nI u from rfl, ne]
              exact ihn
            · rw [decide_eq_false g, if_neg Bool.false_ne_true]
              simp (disch := omega) only [u_227_0, u_227_1, u_227_2, u_227_3, u_227_4, u_227_5, u_227_9, u_227_10, u_227_13, u_227_14, u_227_15, u_227_18, u_227_19, u_227_22, u_227_24, u_227_25, u_227_28, u_227_29, u_227_30, u_227_33, u_227_34, u_227_35, u_227_38, u_227_39, u_227_40, u_227_43, u_227_45, u_227_46, u_227_49, u_227_51, u_227_54, u_227_57, u_227_58, u_227_61, u_227_63, u_227_64, u_227_65, u_227_66, u_227_69, u_227_70, u_227_73, u_227_75, u_227_78, u_227_81, u_227_82, u_227_83, u_227_85, u_227_88, u_227_91, u_227_92, u_227_95, u_227_96, u_227_98, u_227_100, u_227_103, u_227_104, u_227_105, u_227_108, u_227_110, u_227_111, u_227_114, u_227_116, u_227_117, u_227_119, u_227_120, u_227_123, u_227_126, u_227_127, gI0, gIs, gR0, gRs, gF0, gFs, st0, st_i, st_r, st_f, st_n, st_s, true_and, and_true, ↓ifLeT, ↓ifLeF, ↓ifLtT, ↓ifLtF, ↓ifEqT, ↓ifEqF, if_tt, if_ff, if_pos, if_neg, nLe, nLt, nEq, nInT, nCl, pk_mul, nI_add, Nat.reduceAdd, s_cat_nil, s_cat_i, s_cat_r, s_cat_f, s_cat_l, tl_s, tl_n, cat_i, cat_r, cat_f, nb0, nb1, nbI, if_bI, if_bIr, Nat.zero_le, Nat.reduceLeDiff, iBt, nI10, reduceIte, show oI1 (some u) = nI u from rfl, ne]
              have := ih (t + 1) st (.int (nI (wayN (nA N 7 c) (nA N 12 t)))) (.int (nI 1)) (by omega) hs hu
              rw [h1] at this
              exact this
      rw [u_227_7, iter]
      cases hd : nDone N t with
      | true =>
        rw [hd] at e1
        simp (disch := omega) only [u_227_0, u_227_1, u_227_2, u_227_3, u_227_4, u_227_5, u_227_9, u_227_10, u_227_13, u_227_14, u_227_15, u_227_18, u_227_19, u_227_22, u_227_24, u_227_25, u_227_28, u_227_29, u_227_30, u_227_33, u_227_34, u_227_35, u_227_38, u_227_39, u_227_40, u_227_43, u_227_45, u_227_46, u_227_49, u_227_51, u_227_54, u_227_57, u_227_58, u_227_61, u_227_63, u_227_64, u_227_65, u_227_66, u_227_69, u_227_70, u_227_73, u_227_75, u_227_78, u_227_81, u_227_82, u_227_83, u_227_85, u_227_88, u_227_91, u_227_92, u_227_95, u_227_98, u_227_100, u_227_103, u_227_104, u_227_105, u_227_108, u_227_110, u_227_111, u_227_114, u_227_116, u_227_117, u_227_119, u_227_120, u_227_123, u_227_126, u_227_127, gI0, gIs, gR0, gRs, gF0, gFs, st0, st_i, st_r, st_f, st_n, st_s, true_and, and_true, ↓ifLeT, ↓ifLeF, ↓ifLtT, ↓ifLtF, ↓ifEqT, ↓ifEqF, if_tt, if_ff, if_pos, if_neg, nLe, nLt, nEq, nInT, nCl, pk_mul, nI_add, Nat.reduceAdd, s_cat_nil, s_cat_i, s_cat_r, s_cat_f, s_cat_l, tl_s, tl_n, cat_i, cat_r, cat_f, nb0, nb1, nbI, if_bI, if_bIr, Nat.zero_le, Nat.reduceLeDiff, M_ob, M_g0, M_g1, M_g2, M_g3, M_g4, M_g5, M_g6, M_g7, M_g8, M_g9, M_g10, M_g11, M_g12, M_g13, M_g14, M_g15, M_g16, M_g17, M_g18, M_g19, M_g20, M_g21, M_g22, M_g23, M_g24, M_g25, M_g26, M_g27, M_g28, M_g29, M_g30, M_g31, M_g32, M_g33, M_g34, M_g35, M_g36, M_g37, M_g38, M_g39, M_g40, M_g41, M_r rb330, m_cAt, m_tAt, c1, r1, a7, a12, ab, e1, iBt, nI10, reduceIte]
        exact tl false _ (by unfold canG; rw [hd]; rfl)
      | false =>
        rw [hd] at e1
        cases hx : (tbits (nL N)).testBit t with
        | true =>
          rw [hx] at bt hh
          have bt : _ = nI 1 := bt
          simp (disch := omega) only [u_227_0, u_227_1, u_227_2, u_227_3, u_227_4, u_227_5, u_227_9, u_227_10, u_227_13, u_227_14, u_227_15, u_227_18, u_227_19, u_227_22, u_227_24, u_227_25, u_227_28, u_227_29, u_227_30, u_227_33, u_227_34, u_227_35, u_227_38, u_227_39, u_227_40, u_227_43, u_227_45, u_227_46, u_227_49, u_227_51, u_227_54, u_227_57, u_227_58, u_227_61, u_227_63, u_227_64, u_227_65, u_227_66, u_227_69, u_227_70, u_227_73, u_227_75, u_227_78, u_227_81, u_227_82, u_227_83, u_227_85, u_227_88, u_227_91, u_227_92, u_227_95, u_227_98, u_227_100, u_227_103, u_227_104, u_227_105, u_227_108, u_227_110, u_227_111, u_227_114, u_227_116, u_227_117, u_227_119, u_227_120, u_227_123, u_227_126, u_227_127, gI0, gIs, gR0, gRs, gF0, gFs, st0, st_i, st_r, st_f, st_n, st_s, true_and, and_true, ↓ifLeT, ↓ifLeF, ↓ifLtT, ↓ifLtF, ↓ifEqT, ↓ifEqF, if_tt, if_ff, if_pos, if_neg, nLe, nLt, nEq, nInT, nCl, pk_mul, nI_add, Nat.reduceAdd, s_cat_nil, s_cat_i, s_cat_r, s_cat_f, s_cat_l, tl_s, tl_n, cat_i, cat_r, cat_f, nb0, nb1, nbI, if_bI, if_bIr, Nat.zero_le, Nat.reduceLeDiff, M_ob, M_g0, M_g1, M_g2, M_g3, M_g4, M_g5, M_g6, M_g7, M_g8, M_g9, M_g10, M_g11, M_g12, M_g13, M_g14, M_g15, M_g16, M_g17, M_g18, M_g19, M_g20, M_g21, M_g22, M_g23, M_g24, M_g25, M_g26, M_g27, M_g28, M_g29, M_g30, M_g31, M_g32, M_g33, M_g34, M_g35, M_g36, M_g37, M_g38, M_g39, M_g40, M_g41, M_r rb330, m_cAt, m_tAt, c1, r1, a7, a12, ab, e1, iBf, nI10, reduceIte, h31, bt]
          exact tl false _ (by unfold canG; rw [hd, hh]; rfl)
        | false =>
          rw [hx] at bt hh
          have bt : _ = nI 0 := bt
          cases hf : nFree N t with
          | false =>
            rw [hf] at e2
            simp (disch := omega) only [u_227_0, u_227_1, u_227_2, u_227_3, u_227_4, u_227_5, u_227_9, u_227_10, u_227_13, u_227_14, u_227_15, u_227_18, u_227_19, u_227_22, u_227_24, u_227_25, u_227_28, u_227_29, u_227_30, u_227_33, u_227_34, u_227_35, u_227_38, u_227_39, u_227_40, u_227_43, u_227_45, u_227_46, u_227_49, u_227_51, u_227_54, u_227_57, u_227_58, u_227_61, u_227_63, u_227_64, u_227_65, u_227_66, u_227_69, u_227_70, u_227_73, u_227_75, u_227_78, u_227_81, u_227_82, u_227_83, u_227_85, u_227_88, u_227_91, u_227_92, u_227_95, u_227_98, u_227_100, u_227_103, u_227_104, u_227_105, u_227_108, u_227_110, u_227_111, u_227_114, u_227_116, u_227_117, u_227_119, u_227_120, u_227_123, u_227_126, u_227_127, gI0, gIs, gR0, gRs, gF0, gFs, st0, st_i, st_r, st_f, st_n, st_s, true_and, and_true, ↓ifLeT, ↓ifLeF, ↓ifLtT, ↓ifLtF, ↓ifEqT, ↓ifEqF, if_tt, if_ff, if_pos, if_neg, nLe, nLt, nEq, nInT, nCl, pk_mul, nI_add, Nat.reduceAdd, s_cat_nil, s_cat_i, s_cat_r, s_cat_f, s_cat_l, tl_s, tl_n, cat_i, cat_r, cat_f, nb0, nb1, nbI, if_bI, if_bIr, Nat.zero_le, Nat.reduceLeDiff, M_ob, M_g0, M_g1, M_g2, M_g3, M_g4, M_g5, M_g6, M_g7, M_g8, M_g9, M_g10, M_g11, M_g12, M_g13, M_g14, M_g15, M_g16, M_g17, M_g18, M_g19, M_g20, M_g21, M_g22, M_g23, M_g24, M_g25, M_g26, M_g27, M_g28, M_g29, M_g30, M_g31, M_g32, M_g33, M_g34, M_g35, M_g36, M_g37, M_g38, M_g39, M_g40, M_g41, M_r rb330, m_cAt, m_tAt, c1, r1, a7, a12, ab, e1, e2, iBf, nI10, reduceIte, h31, bt]
            exact tl false _ (by unfold canG; rw [hd, hh, hf]; rfl)
          | true =>
            rw [hf] at e2
            cases hl : nLift N c t with
            | false =>
              rw [hl] at e3
              simp (disch := omega) only [u_227_0, u_227_1, u_227_2, u_227_3, u_227_4, u_227_5, u_227_9, u_227_10, u_227_13, u_227_14, u_227_15, u_227_18, u_227_19, u_227_22, u_227_24, u_227_25, u_227_28, u_227_29, u_227_30, u_227_33, u_227_34, u_227_35, u_227_38, u_227_39, u_227_40, u_227_43, u_227_45, u_227_46, u_227_49, u_227_51, u_227_54, u_227_57, u_227_58, u_227_61, u_227_63, u_227_64, u_227_65, u_227_66, u_227_69, u_227_70, u_227_73, u_227_75, u_227_78, u_227_81, u_227_82, u_227_83, u_227_85, u_227_88, u_227_91, u_227_92, u_227_95, u_227_98, u_227_100, u_227_103, u_227_104, u_227_105, u_227_108, u_227_110, u_227_111, u_227_114, u_227_116, u_227_117, u_227_119, u_227_120, u_227_123, u_227_126, u_227_127, gI0, gIs, gR0, gRs, gF0, gFs, st0, st_i, st_r, st_f, st_n, st_s, true_and, and_true, ↓ifLeT, ↓ifLeF, ↓ifLtT, ↓ifLtF, ↓ifEqT, ↓ifEqF, if_tt, if_ff, if_pos, if_neg, nLe, nLt, nEq, nInT, nCl, pk_mul, nI_add, Nat.reduceAdd, s_cat_nil, s_cat_i, s_cat_r, s_cat_f, s_cat_l, tl_s, tl_n, cat_i, cat_r, cat_f, nb0, nb1, nbI, if_bI, if_bIr, Nat.zero_le, Nat.reduceLeDiff, M_ob, M_g0, M_g1, M_g2, M_g3, M_g4, M_g5, M_g6, M_g7, M_g8, M_g9, M_g10, M_g11, M_g12, M_g13, M_g14, M_g15, M_g16, M_g17, M_g18, M_g19, M_g20, M_g21, M_g22, M_g23, M_g24, M_g25, M_g26, M_g27, M_g28, M_g29, M_g30, M_g31, M_g32, M_g33, M_g34, M_g35, M_g36, M_g37, M_g38, M_g39, M_g40, M_g41, M_r rb330, m_cAt, m_tAt, c1, r1, a7, a12, ab, e1, e2, e3, iBt, iBf, nI10, reduceIte, h31, bt]
              exact tl false _ (by unfold canG; rw [hd, hh, hf, hl]; rfl)
            | true =>
              rw [hl] at e3
              simp (disch := omega) only [u_227_0, u_227_1, u_227_2, u_227_3, u_227_4, u_227_5, u_227_9, u_227_10, u_227_13, u_227_14, u_227_15, u_227_18, u_227_19, u_227_22, u_227_24, u_227_25, u_227_28, u_227_29, u_227_30, u_227_33, u_227_34, u_227_35, u_227_38, u_227_39, u_227_40, u_227_43, u_227_45, u_227_46, u_227_49, u_227_51, u_227_54, u_227_57, u_227_58, u_227_61, u_227_63, u_227_64, u_227_65, u_227_66, u_227_69, u_227_70, u_227_73, u_227_75, u_227_78, u_227_81, u_227_82, u_227_83, u_227_85, u_227_88, u_227_91, u_227_92, u_227_95, u_227_98, u_227_100, u_227_103, u_227_104, u_227_105, u_227_108, u_227_110, u_227_111, u_227_114, u_227_116, u_227_117, u_227_119, u_227_120, u_227_123, u_227_126, u_227_127, gI0, gIs, gR0, gRs, gF0, gFs, st0, st_i, st_r, st_f, st_n, st_s, true_and, and_true, ↓ifLeT, ↓ifLeF, ↓ifLtT, ↓ifLtF, ↓ifEqT, ↓ifEqF, if_tt, if_ff, if_pos, if_neg, nLe, nLt, nEq, nInT, nCl, pk_mul, nI_add, Nat.reduceAdd, s_cat_nil, s_cat_i, s_cat_r, s_cat_f, s_cat_l, tl_s, tl_n, cat_i, cat_r, cat_f, nb0, nb1, nbI, if_bI, if_bIr, Nat.zero_le, Nat.reduceLeDiff, M_ob, M_g0, M_g1, M_g2, M_g3, M_g4, M_g5, M_g6, M_g7, M_g8, M_g9, M_g10, M_g11, M_g12, M_g13, M_g14, M_g15, M_g16, M_g17, M_g18, M_g19, M_g20, M_g21, M_g22, M_g23, M_g24, M_g25, M_g26, M_g27, M_g28, M_g29, M_g30, M_g31, M_g32, M_g33, M_g34, M_g35, M_g36, M_g37, M_g38, M_g39, M_g40, M_g41, M_r rb330, m_cAt, m_tAt, c1, r1, a7, a12, ab, e1, e2, e3, iBt, iBf, nI10, reduceIte, h31, bt]
              exact tl true _ (by unfold canG; rw [hd, hh, hf, hl]; rfl)
  have := lp (nF N 3) 0 (none, 0) s_no s_no (Nat.zero_add _) (Nat.zero_le _) (fun u e => by cases e)
  simp (disch := omega) only [u_227_0, u_227_1, u_227_2, u_227_3, u_227_4, u_227_5, u_227_9, u_227_10, u_227_13, u_227_14, u_227_15, u_227_18, u_227_19, u_227_22, u_227_24, u_227_25, u_227_28, u_227_29, u_227_30, u_227_33, u_227_34, u_227_35, u_227_38, u_227_39, u_227_40, u_227_43, u_227_45, u_227_46, u_227_49, u_227_51, u_227_54, u_227_57, u_227_58, u_227_61, u_227_63, u_227_64, u_227_65, u_227_66, u_227_69, u_227_70, u_227_73, u_227_75, u_227_78, u_227_81, u_227_82, u_227_83, u_227_85, u_227_88, u_227_91, u_227_92, u_227_95, u_227_96, u_227_98, u_227_100, u_227_103, u_227_104, u_227_105, u_227_108, u_227_110, u_227_111, u_227_114, u_227_116, u_227_117, u_227_119, u_227_120, u_227_123, u_227_126, u_227_127, gI0, gIs, gR0, gRs, gF0, gFs, st0, st_i, st_r, st_f, st_n, st_s, true_and, and_true, ↓ifLeT, ↓ifLeF, ↓ifLtT, ↓ifLtF, ↓ifEqT, ↓ifEqF, if_tt, if_ff, if_pos, if_neg, nLe, nLt, nEq, nInT, nCl, pk_mul, nI_add, Nat.reduceAdd, s_cat_nil, s_cat_i, s_cat_r, s_cat_f, s_cat_l, tl_s, tl_n, cat_i, cat_r, cat_f, nb0, nb1, nbI, if_bI, if_bIr, Nat.zero_le, Nat.reduceLeDiff]
  exact this
theorem r_gives {c : Nat} (hn : wfN n) (hN : wfN N) (hE : EQ n N) (hg : MG m n) (hr0 : RR (kA m 320) n) (hr : RR (kA m 330) N) (h31 : kI m 31 = nI (tbits (nL N))) (hc : c < nF N 2) (K : ∀ m', frE m m' → RR (kA m' 330) (giveN c N) → kI m' 31 = nI (tbits (nL (giveN c N))) → Q none (pM m' h)) : MT (d + 5) 228 [.ref 317, .int (nI c)] (pM m h) Q := by
  have h4 := hN.1.1
  have h8 := hN.1.2.1
  have bk := (hr.2.2.1 c hc).2.1
  have ln := (hr.2.2.1 c hc).2.2.2.1
  rw [MT_go (by decide) _ _ _ (Nat.le_of_ble_eq_true rfl), show s_entry 228 [.ref 317, .int (nI c)] = [.ref 317, .int (nI c), s_no] from rfl]
  have e1 := fun Q => r_next (d := d + 1) (h := h) (Q := Q) rb330 hN hr hc
  have e2 := fun Q => r_nearFor (d := d) (h := h) (Q := Q) hn hN hE hg hr0 hr h31 hc
  have wg := wf_give hN hc
  cases hk : nK N c with
  | true =>
    have eg : giveN c N = N := if_pos (by rw [hk]; rfl)
    rw [eg] at K
    rw [hk] at bk
    simp (disch := omega) only [u_228_0, u_228_1, u_228_4, u_228_5, u_228_6, u_228_9, u_228_10, u_228_11, u_228_14, u_228_15, u_228_18, u_228_19, u_228_22, u_228_23, u_228_26, u_228_27, u_228_28, u_228_29, u_228_32, u_228_33, u_228_34, u_228_35, u_228_38, u_228_39, u_228_42, u_228_43, u_228_44, u_228_45, u_228_48, u_228_49, u_228_50, u_228_53, u_228_54, u_228_55, u_228_58, u_228_59, u_228_60, u_228_61, u_228_64, u_228_65, u_228_66, u_228_69, u_228_70, u_228_71, u_228_72, u_228_73, u_228_74, u_228_75, u_228_76, u_228_79, u_228_80, u_228_81, u_228_82, u_228_83, u_228_86, gI0, gIs, gR0, gRs, gF0, gFs, st0, st_i, st_r, st_f, st_n, st_s, true_and, and_true, ↓ifLeT, ↓ifLeF, ↓ifLtT, ↓ifLtF, ↓ifEqT, ↓ifEqF, if_tt, if_ff, if_pos, if_neg, nLe, nLt, nEq, nInT, nCl, pk_mul, nI_add, Nat.reduceAdd, s_cat_nil, s_cat_i, s_cat_r, s_cat_f, s_cat_l, tl_s, tl_n, cat_i, cat_r, cat_f, nb0, nb1, nbI, if_bI, if_bIr, Nat.zero_le, Nat.reduceLeDiff, M_g0, M_g1, M_g2, M_g3, M_g4, M_g5, M_g6, M_g7, M_g8, M_g9, M_g10, M_g11, M_g12, M_g13, M_g14, M_g15, M_g16, M_g17, M_g18, M_g19, M_g20, M_g21, M_g22, M_g23, M_g24, M_g25, M_g26, M_g27, M_g28, M_g29, M_g30, M_g31, M_g32, M_g33, M_g34, M_g35, M_g36, M_g37, M_g38, M_g39, M_g40, M_g41, M_r rb330, m_cAt, bk, iBt, nI10]
    exact K m frE_r hr h31
  | false =>
    rw [hk] at bk
    cases hx : nNext N c with
    | some u =>
      have hu := (hN.2.2.2.2.1 c).2 u (List.mem_of_find?_eq_some hx)
      have ne := m1_ne (j := u) (by omega)
      have eg : giveN c N = N := if_pos (by rw [hx, hk]; rfl)
      rw [eg] at K
      rw [hx] at e1
      simp (disch := omega) only [u_228_0, u_228_1, u_228_4, u_228_5, u_228_6, u_228_9, u_228_10, u_228_11, u_228_14, u_228_15, u_228_18, u_228_19, u_228_22, u_228_23, u_228_26, u_228_27, u_228_28, u_228_29, u_228_32, u_228_33, u_228_34, u_228_35, u_228_38, u_228_39, u_228_42, u_228_43, u_228_44, u_228_45, u_228_48, u_228_49, u_228_50, u_228_53, u_228_54, u_228_55, u_228_58, u_228_59, u_228_60, u_228_61, u_228_64, u_228_65, u_228_66, u_228_69, u_228_70, u_228_71, u_228_72, u_228_73, u_228_74, u_228_75, u_228_76, u_228_79, u_228_80, u_228_81, u_228_82, u_228_83, u_228_86, gI0, gIs, gR0, gRs, gF0, gFs, st0, st_i, st_r, st_f, st_n, st_s, true_and, and_true, ↓ifLeT, ↓ifLeF, ↓ifLtT, ↓ifLtF, ↓ifEqT, ↓ifEqF, if_tt, if_ff, if_pos, if_neg, nLe, nLt, nEq, nInT, nCl, pk_mul, nI_add, Nat.reduceAdd, s_cat_nil, s_cat_i, s_cat_r, s_cat_f, s_cat_l, tl_s, tl_n, cat_i, cat_r, cat_f, nb0, nb1, nbI, if_bI, if_bIr, Nat.zero_le, Nat.reduceLeDiff, M_g0, M_g1, M_g2, M_g3, M_g4, M_g5, M_g6, M_g7, M_g8, M_g9, M_g10, M_g11, M_g12, M_g13, M_g14, M_g15, M_g16, M_g17, M_g18, M_g19, M_g20, M_g21, M_g22, M_g23, M_g24, M_g25, M_g26, M_g27, M_g28, M_g29, M_g30, M_g31, M_g32, M_g33, M_g34, M_g35, M_g36, M_g37, M_g38, M_g39, M_g40, M_g41, M_r rb330, m_cAt, bk, iBf, e1, show oI1 (some u) = nI u from rfl, ne, reduceIte]
      exact K m frE_r hr h31
    | none =>
      rw [hx] at e1
      have eg : giveN c N = match nearN N c with
        | some t => jL N (appF (nL N) c t)
        | none => N := if_neg (by rw [hx, hk]; exact Bool.false_ne_true)
      cases ht : nearN N c with
      | none =>
        have eg : giveN c N = N := by rw [eg, ht]
        rw [eg] at K
        rw [ht] at e2
        simp (disch := omega) only [u_228_0, u_228_1, u_228_4, u_228_5, u_228_6, u_228_9, u_228_10, u_228_11, u_228_14, u_228_15, u_228_18, u_228_19, u_228_22, u_228_23, u_228_26, u_228_27, u_228_28, u_228_29, u_228_32, u_228_33, u_228_34, u_228_35, u_228_38, u_228_39, u_228_42, u_228_43, u_228_44, u_228_45, u_228_48, u_228_49, u_228_50, u_228_53, u_228_54, u_228_55, u_228_58, u_228_59, u_228_60, u_228_61, u_228_64, u_228_65, u_228_66, u_228_69, u_228_70, u_228_71, u_228_72, u_228_73, u_228_74, u_228_75, u_228_76, u_228_79, u_228_80, u_228_81, u_228_82, u_228_83, u_228_86, gI0, gIs, gR0, gRs, gF0, gFs, st0, st_i, st_r, st_f, st_n, st_s, true_and, and_true, ↓ifLeT, ↓ifLeF, ↓ifLtT, ↓ifLtF, ↓ifEqT, ↓ifEqF, if_tt, if_ff, if_pos, if_neg, nLe, nLt, nEq, nInT, nCl, pk_mul, nI_add, Nat.reduceAdd, s_cat_nil, s_cat_i, s_cat_r, s_cat_f, s_cat_l, tl_s, tl_n, cat_i, cat_r, cat_f, nb0, nb1, nbI, if_bI, if_bIr, Nat.zero_le, Nat.reduceLeDiff, M_ob, M_g0, M_g1, M_g2, M_g3, M_g4, M_g5, M_g6, M_g7, M_g8, M_g9, M_g10, M_g11, M_g12, M_g13, M_g14, M_g15, M_g16, M_g17, M_g18, M_g19, M_g20, M_g21, M_g22, M_g23, M_g24, M_g25, M_g26, M_g27, M_g28, M_g29, M_g30, M_g31, M_g32, M_g33, M_g34, M_g35, M_g36, M_g37, M_g38, M_g39, M_g40, M_g41, M_r rb330, m_cAt, bk, iBf, e1, e2, show oI1 none = -1 from rfl, reduceIte]
        exact K m frE_r hr h31
      | some t =>
        have eg : giveN c N = jL N (appF (nL N) c t) := by rw [eg, ht]
        rw [eg] at K wg
        rw [ht] at e2
        have t8 := (near_some ht).1
        have ne := m1_ne (j := t) (by omega)
        have l8 : ∀ q, (nL N q).length ≤ 8 := fun q => wfL_len hN.1 hN.2.2.2 q
        have l7 : (nL N c).length ≤ 7 := by
          have := wfL_len (n := jL N (appF (nL N) c t)) hN.1 wg.2.2.2 c
          have : (appF (nL N) c t c).length ≤ 8 := this
          rw [app_at, List.length_append] at this
          have : (nL N c).length + 1 ≤ 8 := this
          omega
        have ra := RR_app (n := N) (l := nL N) (t := t) h4 l8 l7 hc hr
        have un : upd (kA m 330) (2 + 12 * c + (4 + (nL N c).length)) (nI t) (2 + 12 * c + 3) = nI (nL N c).length := by
          rw [upd_ne (by omega)]; exact ln
        have sh := i_shl1 (c := t) (by omega)
        simp (disch := omega) only [u_228_0, u_228_1, u_228_4, u_228_5, u_228_6, u_228_9, u_228_10, u_228_11, u_228_14, u_228_15, u_228_18, u_228_19, u_228_22, u_228_23, u_228_26, u_228_27, u_228_28, u_228_29, u_228_32, u_228_33, u_228_34, u_228_35, u_228_38, u_228_39, u_228_42, u_228_43, u_228_44, u_228_45, u_228_48, u_228_49, u_228_50, u_228_53, u_228_54, u_228_55, u_228_58, u_228_59, u_228_60, u_228_61, u_228_64, u_228_65, u_228_66, u_228_69, u_228_70, u_228_71, u_228_72, u_228_73, u_228_74, u_228_75, u_228_76, u_228_79, u_228_80, u_228_81, u_228_82, u_228_83, u_228_86, gI0, gIs, gR0, gRs, gF0, gFs, st0, st_i, st_r, st_f, st_n, st_s, true_and, and_true, ↓ifLeT, ↓ifLeF, ↓ifLtT, ↓ifLtF, ↓ifEqT, ↓ifEqF, if_tt, if_ff, if_pos, if_neg, nLe, nLt, nEq, nInT, nCl, pk_mul, nI_add, Nat.reduceAdd, s_cat_nil, s_cat_i, s_cat_r, s_cat_f, s_cat_l, tl_s, tl_n, cat_i, cat_r, cat_f, nb0, nb1, nbI, if_bI, if_bIr, Nat.zero_le, Nat.reduceLeDiff, M_ob, M_g0, M_g1, M_g2, M_g3, M_g4, M_g5, M_g6, M_g7, M_g8, M_g9, M_g10, M_g11, M_g12, M_g13, M_g14, M_g15, M_g16, M_g17, M_g18, M_g19, M_g20, M_g21, M_g22, M_g23, M_g24, M_g25, M_g26, M_g27, M_g28, M_g29, M_g30, M_g31, M_g32, M_g33, M_g34, M_g35, M_g36, M_g37, M_g38, M_g39, M_g40, M_g41, M_s31, kI_xI, kI_xB, kI_xA, kI_xV, kB_xI, kB_xB, kB_xA, kB_xV, kA_xI, kA_xB, kA_xA, kA_xV, kV_xI, kV_xB, kV_xA, kV_xV, Nat.reduceEqDiff, reduceIte, M_r rb330, M_rw rb330, m_cAt, bk, iBf, e1, e2, show oI1 none = -1 from rfl, show oI1 (some t) = nI t from rfl, ne, ln, kA_eq, xA_tw, un, h31, sh, fa_or]
        refine K _ (frE_t frE_330 frE_31) (by exact ra) ?_
        show nI (tbits (nL N) ||| 2 ^ t) = nI (tbits (appF (nL N) c t))
        rw [tbits_app (by omega)]
end MEA
