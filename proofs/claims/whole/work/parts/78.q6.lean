/-! the class's calls: acts, on -/
section Q6
variable {b d : Nat} {s s' : tS} {h : sH} {i x w c t m : Int32} {Q : sQ} {z : tQ} {n n' : tN} {y y' : tY}
def moreG (n : tN) (bay takes heavy : Nat) (fv : Nat → Bool) : tN := jX (jX (jV (jA (jA (jA (jA (jF n 3 (nF n 3 + 1)) 12 (set1 (nA n 12) (nF n 3) bay)) 13 (set1 (nA n 13) (nF n 3) takes)) 14 (set1 (nA n 14) (nF n 3) heavy)) 16 (set1 (nA n 16) (nF n 3) 0)) (set1 (nV n) (nF n 3) fv)) 17 (set1 (nX n 17) (nF n 3) (-1))) 18 (set1 (nX n 18) (nF n 3) (-1))
theorem RY_moreG {bay tk v : Nat} {fv : Nat → Bool} {AF : Int32} (hn : wfN n) (hy : RY y n) (hT : nF n 3 < 8) (h1 : 1 ≤ tk) (hA : AF = nI (bitsN fv 8)) : RY (addT y (nI bay) (nI tk) (nI v) AF) (moreG n bay tk v fv) := by
  obtain ⟨⟨f0, f1, f2, f3, f4, f5, f6⟩, hc, ht, hp⟩ := hy
  have e : addT y (nI bay) (nI tk) (nI v) AF = uT (uA (uA (uA (uA (uA (uA (uA y 12 (upd (yA y 12) (yT y) (nI bay))) 13 (upd (yA y 13) (yT y) (nI tk))) 14 (upd (yA y 14) (yT y) (nI v))) 15 (upd (yA y 15) (yT y) AF)) 16 (upd (yA y 16) (yT y) (nI 0))) 17 (upd (yA y 17) (yT y) (-1))) 18 (upd (yA y 18) (yT y) (-1))) (yT y + 1) := if_pos (by omega)
  rw [e]
  refine ⟨⟨f0, f1, f2, ?_, f4, f5, ?_⟩, hc, fun t htt => ?_, hp⟩
  · show yT y + 1 = nF n 3 + 1
    rw [f3]
  · show yB y 6 = nI (bitsN (nDone (moreG n bay tk v fv)) (nF n 3 + 1))
    rw [f6, bitsN]
    have e1 : nDone (moreG n bay tk v fv) (nF n 3) = false := by
      unfold nDone
      have e2 : nA (moreG n bay tk v fv) 16 (nF n 3) = 0 := if_pos rfl
      have e3 : nA (moreG n bay tk v fv) 13 (nF n 3) = tk := if_pos rfl
      rw [e2, e3]
      exact decide_eq_false (by omega)
    rw [e1, if_neg (by decide), Nat.or_zero]
    exact congrArg nI (bitsN_cong fun i hi => by
      unfold nDone
      have e2 : nA (moreG n bay tk v fv) 16 i = nA n 16 i := if_neg (by omega)
      have e3 : nA (moreG n bay tk v fv) 13 i = nA n 13 i := if_neg (by omega)
      rw [e2, e3])
  · have htt : t < nF n 3 + 1 := htt
    rw [f3]
    by_cases q : t = nF n 3
    · subst q
      refine ⟨?_, ?_, ?_, ?_, ?_, ?_, ?_⟩
      · show upd (yA y 12) (nF n 3) (nI bay) (nF n 3) = nI (set1 (nA n 12) (nF n 3) bay (nF n 3))
        unfold upd set1; rw [if_pos rfl, if_pos rfl]
      · show upd (yA y 13) (nF n 3) (nI tk) (nF n 3) = nI (set1 (nA n 13) (nF n 3) tk (nF n 3))
        unfold upd set1; rw [if_pos rfl, if_pos rfl]
      · show upd (yA y 14) (nF n 3) (nI v) (nF n 3) = nI (set1 (nA n 14) (nF n 3) v (nF n 3))
        unfold upd set1; rw [if_pos rfl, if_pos rfl]
      · show upd (yA y 15) (nF n 3) AF (nF n 3) = nI (bitsN (set1 (nV n) (nF n 3) fv (nF n 3)) 8)
        unfold upd set1; rw [if_pos rfl, if_pos rfl]; exact hA
      · show upd (yA y 16) (nF n 3) (nI 0) (nF n 3) = nI (set1 (nA n 16) (nF n 3) 0 (nF n 3))
        unfold upd set1; rw [if_pos rfl, if_pos rfl]
      · show upd (yA y 17) (nF n 3) (-1) (nF n 3) = set1 (nX n 17) (nF n 3) (-1) (nF n 3)
        unfold upd set1; rw [if_pos rfl, if_pos rfl]
      · show upd (yA y 18) (nF n 3) (-1) (nF n 3) = set1 (nX n 18) (nF n 3) (-1) (nF n 3)
        unfold upd set1; rw [if_pos rfl, if_pos rfl]
    · obtain ⟨a12, a13, a14, a15, a16, a17, a18⟩ := ht t (by omega)
      refine ⟨?_, ?_, ?_, ?_, ?_, ?_, ?_⟩
      · show upd (yA y 12) (nF n 3) (nI bay) t = nI (set1 (nA n 12) (nF n 3) bay t)
        unfold upd set1; rw [if_neg q, if_neg q]; exact a12
      · show upd (yA y 13) (nF n 3) (nI tk) t = nI (set1 (nA n 13) (nF n 3) tk t)
        unfold upd set1; rw [if_neg q, if_neg q]; exact a13
      · show upd (yA y 14) (nF n 3) (nI v) t = nI (set1 (nA n 14) (nF n 3) v t)
        unfold upd set1; rw [if_neg q, if_neg q]; exact a14
      · show upd (yA y 15) (nF n 3) AF t = nI (bitsN (set1 (nV n) (nF n 3) fv t) 8)
        unfold upd set1; rw [if_neg q, if_neg q]; exact a15
      · show upd (yA y 16) (nF n 3) (nI 0) t = nI (set1 (nA n 16) (nF n 3) 0 t)
        unfold upd set1; rw [if_neg q, if_neg q]; exact a16
      · show upd (yA y 17) (nF n 3) (-1) t = set1 (nX n 17) (nF n 3) (-1) t
        unfold upd set1; rw [if_neg q, if_neg q]; exact a17
      · show upd (yA y 18) (nF n 3) (-1) t = set1 (nX n 18) (nF n 3) (-1) t
        unfold upd set1; rw [if_neg q, if_neg q]; exact a18
theorem ok_moreG {bay tk v : Nat} {fv : Nat → Bool} (hok : okQ n) (hT : nF n 3 < 8) (hb : bay < nF n 0) (h1 : 1 ≤ tk) (h30 : tk ≤ 30) (hv : 1 ≤ v) (hv2 : v ≤ 99) (ha : ∀ u, fv u = true → u < nF n 3) : okQ (moreG n bay tk v fv) := by
  obtain ⟨⟨hF, hC, hT', hL⟩, k1, k2, k3⟩ := hok
  have a12 : ∀ t, nA (moreG n bay tk v fv) 12 t = if t = nF n 3 then bay else nA n 12 t := fun _ => rfl
  have a13 : ∀ t, nA (moreG n bay tk v fv) 13 t = if t = nF n 3 then tk else nA n 13 t := fun _ => rfl
  have a14 : ∀ t, nA (moreG n bay tk v fv) 14 t = if t = nF n 3 then v else nA n 14 t := fun _ => rfl
  have a16 : ∀ t, nA (moreG n bay tk v fv) 16 t = if t = nF n 3 then 0 else nA n 16 t := fun _ => rfl
  have aV : ∀ t, nV (moreG n bay tk v fv) t = if t = nF n 3 then fv else nV n t := fun _ => rfl
  have f3 : nF (moreG n bay tk v fv) 3 = nF n 3 + 1 := rfl
  have dn : ∀ t, t < nF n 3 → nDone (moreG n bay tk v fv) t = nDone n t := fun t ht => by unfold nDone; rw [a16, a13, if_neg (by omega), if_neg (by omega)]
  refine ⟨⟨⟨hF.1, by rw [f3]; omega, hF.2.2⟩, hC, fun t ht => ?_, ⟨hL.1, fun c => ⟨(hL.2.1 c).1, fun t ht => ?_⟩, hL.2.2⟩⟩, k1, k2, fun t ht => ?_⟩
  · rw [f3] at ht
    rw [a12, a13, a14, a16, aV]
    by_cases q : t = nF n 3
    · rw [if_pos q, if_pos q, if_pos q, if_pos q, if_pos q]
      refine ⟨hb, h1, by omega, hv, hv2, by omega, fun u hu => ⟨?_, fun z => absurd z (by omega)⟩⟩
      rw [q]
      exact ha u hu
    · rw [if_neg q, if_neg q, if_neg q, if_neg q, if_neg q]
      obtain ⟨b1, b2, b3, b4, b5, b6, b7⟩ := hT' t (by omega)
      refine ⟨b1, b2, b3, b4, b5, b6, fun u hu => ?_⟩
      obtain ⟨c1, c2⟩ := b7 u hu
      exact ⟨c1, fun z => by rw [dn u (by omega)]; exact c2 z⟩
  · rw [f3]
    exact Nat.lt_succ_of_lt ((hL.2.1 c).2 t ht)
  · rw [f3] at ht
    rw [a13]
    split
    · exact h30
    · exact k3 t (by omega)
theorem RY_more {bay tk v : Nat} {a : Option Nat} {AF : Int32} (hn : wfN n) (hy : RY y n) (hT : nF n 3 < 8) (h1 : 1 ≤ tk) (hA : AF = nI (bitsN (fun u => decide (a = some u)) 8)) : RY (addT y (nI bay) (nI tk) (nI v) AF) (moreN n bay tk v a) := RY_moreG (fv := fun u => decide (a = some u)) hn hy hT h1 hA
theorem ok_more {bay tk v : Nat} {a : Option Nat} (hok : okQ n) (hT : nF n 3 < 8) (hb : bay < nF n 0) (h1 : 1 ≤ tk) (h30 : tk ≤ 30) (hv : 1 ≤ v) (hv2 : v ≤ 99) (ha : ∀ u, a = some u → u < nF n 3) : okQ (moreN n bay tk v a) := ok_moreG (fv := fun u => decide (a = some u)) hok hT hb h1 h30 hv hv2 fun u hu => ha u (of_decide_eq_true hu)
theorem one_bit {a : Nat} (ha : a < 8) : bitsN (fun u => decide (some a = some u)) 8 = 2 ^ a := by
  refine (bitsN_eq (Nat.pow_lt_pow_right (by decide) ha) fun i _ => ?_).symm
  rw [Nat.testBit_two_pow]
  exact decide_eq_decide.mpr ⟨fun e => by rw [e], fun e => Option.some.inj e⟩
theorem no_bit : bitsN (fun u => decide ((none : Option Nat) = some u)) 8 = 0 := by
  refine (bitsN_eq (by decide) fun i _ => ?_).symm
  rw [Nat.zero_testBit]
  exact (decide_eq_false (fun q => by cases q)).symm
theorem ix_m1 {N : Nat} : ixN (-1) N = none := if_neg (fun q => absurd q.1 (by decide))
theorem q_more {bay tk hv af : Int32} (hI : IC s z) (K : ∀ s', IC s' (zmore z bay tk hv af).2 → Q (some (.int (zmore z bay tk hv af).1)) (pS s' h)) : MT (d + 5) 97 [.ref 0, .int bay, .int tk, .int hv, .int af] (pS s h) Q := by
  rw [MT_go (by decide) _ _ _ (Nat.le_of_ble_eq_true rfl), show s_entry 97 [.ref 0, .int bay, .int tk, .int hv, .int af] = [.ref 0, .int bay, .int tk, .int hv, .int af, s_no] from rfl]
  have e0 := fun Q => q_has (d := d + 3) (h := h) (Q := Q) hI
  unfold zmore at K
  have r0 : (∀ s', IC s' (refZ z 0) → Q (some (.int (-1))) (pS s' h)) → MT (d + 4) 134 [.ref 0, .int (nI 0)] (pS s h) fun r h' => WP (d + 4) 97 42 [.ref 0, .int bay, .int tk, .int hv, .int af, s_no] (r.toList ++ []) h' (0, 0) Q := fun K => by
    refine q_ref hI (k := 0) (by decide) fun s' hI' => ?_
    simp (maxSteps := 2000000) (disch := omega) only [u_97_0, u_97_1, u_97_4, u_97_7, u_97_8, u_97_11, u_97_12, u_97_13, u_97_16, u_97_19, u_97_22, u_97_24, u_97_25, u_97_28, u_97_29, u_97_31, u_97_34, u_97_37, u_97_38, u_97_39, u_97_42, u_97_43, u_97_44, u_97_45, u_97_48, u_97_49, u_97_51, u_97_54, u_97_55, u_97_56, u_97_59, u_97_60, u_97_62, u_97_65, u_97_66, u_97_67, u_97_70, u_97_71, u_97_72, u_97_75, u_97_78, u_97_80, u_97_83, u_97_84, u_97_85, u_97_88, u_97_89, u_97_90, u_97_93, u_97_94, u_97_97, u_97_100, u_97_101, u_97_104, u_97_105, u_97_106, u_97_107, u_97_109, u_97_110, u_97_113, u_97_114, u_97_117, u_97_118, u_97_120, u_97_121, u_97_124, u_97_126, u_97_127, u_97_130, u_97_132, gI0, gIs, gR0, gRs, gF0, gFs, st0, st_i, st_r, st_f, st_n, st_s, true_and, and_true, ↓ifLeT, ↓ifLeF, ↓ifLtT, ↓ifLtF, ↓ifEqT, ↓ifEqF, if_tt, if_ff, if_pos, if_neg, nLe, nLt, nEq, nInT, nCl, pk_mul, nI_add, Nat.reduceAdd, s_cat_nil, s_cat_i, s_cat_r, s_cat_f, s_cat_l, tl_s, tl_n, cat_i, cat_r, cat_f, nb0, nb1, nbI, if_bI, if_bIr, Nat.zero_le, Nat.reduceLeDiff]
    exact K s' hI'
  have r1 : (∀ s', IC s' (refZ z 1) → Q (some (.int (-1))) (pS s' h)) → MT (d + 4) 134 [.ref 0, .int (nI 1)] (pS s h) fun r h' => WP (d + 4) 97 70 [.ref 0, .int bay, .int tk, .int hv, .int af, s_no] (r.toList ++ []) h' (0, 0) Q := fun K => by
    refine q_ref hI (k := 1) (by decide) fun s' hI' => ?_
    simp (maxSteps := 2000000) (disch := omega) only [u_97_0, u_97_1, u_97_4, u_97_7, u_97_8, u_97_11, u_97_12, u_97_13, u_97_16, u_97_19, u_97_22, u_97_24, u_97_25, u_97_28, u_97_29, u_97_31, u_97_34, u_97_37, u_97_38, u_97_39, u_97_42, u_97_43, u_97_44, u_97_45, u_97_48, u_97_49, u_97_51, u_97_54, u_97_55, u_97_56, u_97_59, u_97_60, u_97_62, u_97_65, u_97_66, u_97_67, u_97_70, u_97_71, u_97_72, u_97_75, u_97_78, u_97_80, u_97_83, u_97_84, u_97_85, u_97_88, u_97_89, u_97_90, u_97_93, u_97_94, u_97_97, u_97_100, u_97_101, u_97_104, u_97_105, u_97_106, u_97_107, u_97_109, u_97_110, u_97_113, u_97_114, u_97_117, u_97_118, u_97_120, u_97_121, u_97_124, u_97_126, u_97_127, u_97_130, u_97_132, gI0, gIs, gR0, gRs, gF0, gFs, st0, st_i, st_r, st_f, st_n, st_s, true_and, and_true, ↓ifLeT, ↓ifLeF, ↓ifLtT, ↓ifLtF, ↓ifEqT, ↓ifEqF, if_tt, if_ff, if_pos, if_neg, nLe, nLt, nEq, nInT, nCl, pk_mul, nI_add, Nat.reduceAdd, s_cat_nil, s_cat_i, s_cat_r, s_cat_f, s_cat_l, tl_s, tl_n, cat_i, cat_r, cat_f, nb0, nb1, nbI, if_bI, if_bIr, Nat.zero_le, Nat.reduceLeDiff]
    exact K s' hI'
  cases hq : zQ z with
  | none =>
    simp only [hq] at K
    simp (maxSteps := 2000000) (disch := omega) only [u_97_0, u_97_1, u_97_4, u_97_7, u_97_8, u_97_11, u_97_12, u_97_13, u_97_16, u_97_19, u_97_22, u_97_24, u_97_25, u_97_28, u_97_29, u_97_31, u_97_34, u_97_37, u_97_38, u_97_39, u_97_42, u_97_43, u_97_44, u_97_45, u_97_48, u_97_49, u_97_51, u_97_54, u_97_55, u_97_56, u_97_59, u_97_60, u_97_62, u_97_65, u_97_66, u_97_67, u_97_70, u_97_71, u_97_72, u_97_75, u_97_78, u_97_80, u_97_83, u_97_84, u_97_85, u_97_88, u_97_89, u_97_90, u_97_93, u_97_94, u_97_97, u_97_100, u_97_101, u_97_104, u_97_105, u_97_106, u_97_107, u_97_109, u_97_110, u_97_113, u_97_114, u_97_117, u_97_118, u_97_120, u_97_121, u_97_124, u_97_126, u_97_127, u_97_130, u_97_132, gI0, gIs, gR0, gRs, gF0, gFs, st0, st_i, st_r, st_f, st_n, st_s, true_and, and_true, ↓ifLeT, ↓ifLeF, ↓ifLtT, ↓ifLtF, ↓ifEqT, ↓ifEqF, if_tt, if_ff, if_pos, if_neg, nLe, nLt, nEq, nInT, nCl, pk_mul, nI_add, Nat.reduceAdd, s_cat_nil, s_cat_i, s_cat_r, s_cat_f, s_cat_l, tl_s, tl_n, cat_i, cat_r, cat_f, nb0, nb1, nbI, if_bI, if_bIr, Nat.zero_le, Nat.reduceLeDiff, S_ob0, e0, hq, Option.isSome, iBf]
    exact r0 K
  | some n =>
    simp only [hq] at K
    obtain ⟨hy, hok⟩ := IC_y hI hq
    have h8 := hok.1.1.2.1
    have hb30 := hok.1.1.2.2.2.1
    have f0 := hy.1.1
    have f3 := hy.1.2.2.2.1
    have e1 := fun Q => q_isT (d := d + 3) (h := h) (Q := Q) (x := af) hI
    rw [zN_s hq] at e1
    cases h1 : ixN bay (nF n 0) with
    | none =>
      simp only [h1] at K
      rcases ix_out (by have := hok.1.1.2.2.1; omega) (by omega) h1 with a | ⟨a, b0, -, -, -⟩
      · simp (maxSteps := 2000000) (disch := omega) only [u_97_0, u_97_1, u_97_4, u_97_7, u_97_8, u_97_11, u_97_12, u_97_13, u_97_16, u_97_19, u_97_22, u_97_24, u_97_25, u_97_28, u_97_29, u_97_31, u_97_34, u_97_37, u_97_38, u_97_39, u_97_42, u_97_43, u_97_44, u_97_45, u_97_48, u_97_49, u_97_51, u_97_54, u_97_55, u_97_56, u_97_59, u_97_60, u_97_62, u_97_65, u_97_66, u_97_67, u_97_70, u_97_71, u_97_72, u_97_75, u_97_78, u_97_80, u_97_83, u_97_84, u_97_85, u_97_88, u_97_89, u_97_90, u_97_93, u_97_94, u_97_97, u_97_100, u_97_101, u_97_104, u_97_105, u_97_106, u_97_107, u_97_109, u_97_110, u_97_113, u_97_114, u_97_117, u_97_118, u_97_120, u_97_121, u_97_124, u_97_126, u_97_127, u_97_130, u_97_132, gI0, gIs, gR0, gRs, gF0, gFs, st0, st_i, st_r, st_f, st_n, st_s, true_and, and_true, ↓ifLeT, ↓ifLeF, ↓ifLtT, ↓ifLtF, ↓ifEqT, ↓ifEqF, if_tt, if_ff, if_pos, if_neg, nLe, nLt, nEq, nInT, nCl, pk_mul, nI_add, Nat.reduceAdd, s_cat_nil, s_cat_i, s_cat_r, s_cat_f, s_cat_l, tl_s, tl_n, cat_i, cat_r, cat_f, nb0, nb1, nbI, if_bI, if_bIr, Nat.zero_le, Nat.reduceLeDiff, S_ob0, e0, hq, Option.isSome, iBt, nI10, reduceIte, a]
        exact r0 K
      · simp (maxSteps := 2000000) (disch := omega) only [u_97_0, u_97_1, u_97_4, u_97_7, u_97_8, u_97_11, u_97_12, u_97_13, u_97_16, u_97_19, u_97_22, u_97_24, u_97_25, u_97_28, u_97_29, u_97_31, u_97_34, u_97_37, u_97_38, u_97_39, u_97_42, u_97_43, u_97_44, u_97_45, u_97_48, u_97_49, u_97_51, u_97_54, u_97_55, u_97_56, u_97_59, u_97_60, u_97_62, u_97_65, u_97_66, u_97_67, u_97_70, u_97_71, u_97_72, u_97_75, u_97_78, u_97_80, u_97_83, u_97_84, u_97_85, u_97_88, u_97_89, u_97_90, u_97_93, u_97_94, u_97_97, u_97_100, u_97_101, u_97_104, u_97_105, u_97_106, u_97_107, u_97_109, u_97_110, u_97_113, u_97_114, u_97_117, u_97_118, u_97_120, u_97_121, u_97_124, u_97_126, u_97_127, u_97_130, u_97_132, gI0, gIs, gR0, gRs, gF0, gFs, st0, st_i, st_r, st_f, st_n, st_s, true_and, and_true, ↓ifLeT, ↓ifLeF, ↓ifLtT, ↓ifLtF, ↓ifEqT, ↓ifEqF, if_tt, if_ff, if_pos, if_neg, nLe, nLt, nEq, nInT, nCl, pk_mul, nI_add, Nat.reduceAdd, s_cat_nil, s_cat_i, s_cat_r, s_cat_f, s_cat_l, tl_s, tl_n, cat_i, cat_r, cat_f, nb0, nb1, nbI, if_bI, if_bIr, Nat.zero_le, Nat.reduceLeDiff, S_ob0, S_g0_0, S_g0_1, S_g0_2, S_g0_3, S_g0_4, S_g0_5, S_g0_6, S_g0_7, S_g0_8, S_g0_9, S_g0_10, S_g0_11, S_g0_12, S_g0_13, S_g0_14, S_g1_0, S_g1_1, S_g1_2, S_g1_3, S_g1_4, S_g72_0, S_g72_1, S_g72_2, S_g239_0, S_g239_1, S_g239_2, S_g239_3, S_g239_4, S_g239_5, S_g239_6, S_a23, S_n23, S_a282, S_n282, S_a300, S_n300, S_n73, S_n299, Y'_ob (isY_S yb24), Y'_g0 (isY_S yb24), Y'_g1 (isY_S yb24), Y'_g2 (isY_S yb24), Y'_g3 (isY_S yb24), Y'_g4 (isY_S yb24), Y'_g5 (isY_S yb24), Y'_g6 (isY_S yb24), Y'_g7 (isY_S yb24), Y'_g8 (isY_S yb24), Y'_g9 (isY_S yb24), Y'_g10 (isY_S yb24), Y'_g11 (isY_S yb24), Y'_g12 (isY_S yb24), Y'_g13 (isY_S yb24), Y'_g14 (isY_S yb24), Y'_g15 (isY_S yb24), Y'_g16 (isY_S yb24), Y'_g17 (isY_S yb24), Y'_g18 (isY_S yb24), Y'_g19 (isY_S yb24), Y'_a7 (isY_S yb24), Y'_a8 (isY_S yb24), Y'_a10 (isY_S yb24), Y'_a11 (isY_S yb24), Y'_a12 (isY_S yb24), Y'_a13 (isY_S yb24), Y'_a14 (isY_S yb24), Y'_a15 (isY_S yb24), Y'_a16 (isY_S yb24), Y'_a17 (isY_S yb24), Y'_a18 (isY_S yb24), Y'_sw (isY_S yb24), e0, hq, Option.isSome, iBt, nI10, reduceIte, a, f0, b0]
        exact r0 K
    | some b =>
      simp only [h1] at K
      obtain ⟨b1, rfl⟩ := ix_some (by omega) h1
      by_cases h2 : ¬ af = -1 ∧ ixN af (nF n 3) = none
      · simp only [if_pos h2] at K
        obtain ⟨h2a, h2b⟩ := h2
        rw [h2b] at e1
        simp (maxSteps := 2000000) (disch := omega) only [u_97_0, u_97_1, u_97_4, u_97_7, u_97_8, u_97_11, u_97_12, u_97_13, u_97_16, u_97_19, u_97_22, u_97_24, u_97_25, u_97_28, u_97_29, u_97_31, u_97_34, u_97_37, u_97_38, u_97_39, u_97_42, u_97_43, u_97_44, u_97_45, u_97_48, u_97_49, u_97_51, u_97_54, u_97_55, u_97_56, u_97_59, u_97_60, u_97_62, u_97_65, u_97_66, u_97_67, u_97_70, u_97_71, u_97_72, u_97_75, u_97_78, u_97_80, u_97_83, u_97_84, u_97_85, u_97_88, u_97_89, u_97_90, u_97_93, u_97_94, u_97_97, u_97_100, u_97_101, u_97_104, u_97_105, u_97_106, u_97_107, u_97_109, u_97_110, u_97_113, u_97_114, u_97_117, u_97_118, u_97_120, u_97_121, u_97_124, u_97_126, u_97_127, u_97_130, u_97_132, gI0, gIs, gR0, gRs, gF0, gFs, st0, st_i, st_r, st_f, st_n, st_s, true_and, and_true, ↓ifLeT, ↓ifLeF, ↓ifLtT, ↓ifLtF, ↓ifEqT, ↓ifEqF, if_tt, if_ff, if_pos, if_neg, nLe, nLt, nEq, nInT, nCl, pk_mul, nI_add, Nat.reduceAdd, s_cat_nil, s_cat_i, s_cat_r, s_cat_f, s_cat_l, tl_s, tl_n, cat_i, cat_r, cat_f, nb0, nb1, nbI, if_bI, if_bIr, Nat.zero_le, Nat.reduceLeDiff, S_ob0, S_g0_0, S_g0_1, S_g0_2, S_g0_3, S_g0_4, S_g0_5, S_g0_6, S_g0_7, S_g0_8, S_g0_9, S_g0_10, S_g0_11, S_g0_12, S_g0_13, S_g0_14, S_g1_0, S_g1_1, S_g1_2, S_g1_3, S_g1_4, S_g72_0, S_g72_1, S_g72_2, S_g239_0, S_g239_1, S_g239_2, S_g239_3, S_g239_4, S_g239_5, S_g239_6, S_a23, S_n23, S_a282, S_n282, S_a300, S_n300, S_n73, S_n299, Y'_ob (isY_S yb24), Y'_g0 (isY_S yb24), Y'_g1 (isY_S yb24), Y'_g2 (isY_S yb24), Y'_g3 (isY_S yb24), Y'_g4 (isY_S yb24), Y'_g5 (isY_S yb24), Y'_g6 (isY_S yb24), Y'_g7 (isY_S yb24), Y'_g8 (isY_S yb24), Y'_g9 (isY_S yb24), Y'_g10 (isY_S yb24), Y'_g11 (isY_S yb24), Y'_g12 (isY_S yb24), Y'_g13 (isY_S yb24), Y'_g14 (isY_S yb24), Y'_g15 (isY_S yb24), Y'_g16 (isY_S yb24), Y'_g17 (isY_S yb24), Y'_g18 (isY_S yb24), Y'_g19 (isY_S yb24), Y'_a7 (isY_S yb24), Y'_a8 (isY_S yb24), Y'_a10 (isY_S yb24), Y'_a11 (isY_S yb24), Y'_a12 (isY_S yb24), Y'_a13 (isY_S yb24), Y'_a14 (isY_S yb24), Y'_a15 (isY_S yb24), Y'_a16 (isY_S yb24), Y'_a17 (isY_S yb24), Y'_a18 (isY_S yb24), Y'_sw (isY_S yb24), e0, hq, Option.isSome, iBt, iBf, nI10, reduceIte, f0, h2a, e1]
        exact r0 K
      · simp only [if_neg h2] at K
        -- on from 43
        have go : WP (d + 4) 97 43 [.ref 0, .int (nI b), .int tk, .int hv, .int af, s_no] [] (pS s h) (0, 0) Q := by
          cases h3 : ixN (tk - nI 1) 30 with
          | none =>
            simp only [h3] at K
            rcases ix1_none (by decide) h3 with a | ⟨a, b0, -⟩
            · simp (maxSteps := 2000000) (disch := omega) only [u_97_0, u_97_1, u_97_4, u_97_7, u_97_8, u_97_11, u_97_12, u_97_13, u_97_16, u_97_19, u_97_22, u_97_24, u_97_25, u_97_28, u_97_29, u_97_31, u_97_34, u_97_37, u_97_38, u_97_39, u_97_42, u_97_43, u_97_44, u_97_45, u_97_48, u_97_49, u_97_51, u_97_54, u_97_55, u_97_56, u_97_59, u_97_60, u_97_62, u_97_65, u_97_66, u_97_67, u_97_70, u_97_71, u_97_72, u_97_75, u_97_78, u_97_80, u_97_83, u_97_84, u_97_85, u_97_88, u_97_89, u_97_90, u_97_93, u_97_94, u_97_97, u_97_100, u_97_101, u_97_104, u_97_105, u_97_106, u_97_107, u_97_109, u_97_110, u_97_113, u_97_114, u_97_117, u_97_118, u_97_120, u_97_121, u_97_124, u_97_126, u_97_127, u_97_130, u_97_132, gI0, gIs, gR0, gRs, gF0, gFs, st0, st_i, st_r, st_f, st_n, st_s, true_and, and_true, ↓ifLeT, ↓ifLeF, ↓ifLtT, ↓ifLtF, ↓ifEqT, ↓ifEqF, if_tt, if_ff, if_pos, if_neg, nLe, nLt, nEq, nInT, nCl, pk_mul, nI_add, Nat.reduceAdd, s_cat_nil, s_cat_i, s_cat_r, s_cat_f, s_cat_l, tl_s, tl_n, cat_i, cat_r, cat_f, nb0, nb1, nbI, if_bI, if_bIr, Nat.zero_le, Nat.reduceLeDiff, S_ob0, a]
              exact r1 K
            · simp (maxSteps := 2000000) (disch := omega) only [u_97_0, u_97_1, u_97_4, u_97_7, u_97_8, u_97_11, u_97_12, u_97_13, u_97_16, u_97_19, u_97_22, u_97_24, u_97_25, u_97_28, u_97_29, u_97_31, u_97_34, u_97_37, u_97_38, u_97_39, u_97_42, u_97_43, u_97_44, u_97_45, u_97_48, u_97_49, u_97_51, u_97_54, u_97_55, u_97_56, u_97_59, u_97_60, u_97_62, u_97_65, u_97_66, u_97_67, u_97_70, u_97_71, u_97_72, u_97_75, u_97_78, u_97_80, u_97_83, u_97_84, u_97_85, u_97_88, u_97_89, u_97_90, u_97_93, u_97_94, u_97_97, u_97_100, u_97_101, u_97_104, u_97_105, u_97_106, u_97_107, u_97_109, u_97_110, u_97_113, u_97_114, u_97_117, u_97_118, u_97_120, u_97_121, u_97_124, u_97_126, u_97_127, u_97_130, u_97_132, gI0, gIs, gR0, gRs, gF0, gFs, st0, st_i, st_r, st_f, st_n, st_s, true_and, and_true, ↓ifLeT, ↓ifLeF, ↓ifLtT, ↓ifLtF, ↓ifEqT, ↓ifEqF, if_tt, if_ff, if_pos, if_neg, nLe, nLt, nEq, nInT, nCl, pk_mul, nI_add, Nat.reduceAdd, s_cat_nil, s_cat_i, s_cat_r, s_cat_f, s_cat_l, tl_s, tl_n, cat_i, cat_r, cat_f, nb0, nb1, nbI, if_bI, if_bIr, Nat.zero_le, Nat.reduceLeDiff, S_ob0, a, b0]
              exact r1 K
          | some j =>
            simp only [h3] at K
            obtain ⟨j1, rfl⟩ := ix1_some (by decide) h3
            cases h4 : ixN (hv - nI 1) 99 with
            | none =>
              simp only [h4] at K
              rcases ix1_none (by decide) h4 with a | ⟨a, b0, b2⟩
              · simp (maxSteps := 2000000) (disch := omega) only [u_97_0, u_97_1, u_97_4, u_97_7, u_97_8, u_97_11, u_97_12, u_97_13, u_97_16, u_97_19, u_97_22, u_97_24, u_97_25, u_97_28, u_97_29, u_97_31, u_97_34, u_97_37, u_97_38, u_97_39, u_97_42, u_97_43, u_97_44, u_97_45, u_97_48, u_97_49, u_97_51, u_97_54, u_97_55, u_97_56, u_97_59, u_97_60, u_97_62, u_97_65, u_97_66, u_97_67, u_97_70, u_97_71, u_97_72, u_97_75, u_97_78, u_97_80, u_97_83, u_97_84, u_97_85, u_97_88, u_97_89, u_97_90, u_97_93, u_97_94, u_97_97, u_97_100, u_97_101, u_97_104, u_97_105, u_97_106, u_97_107, u_97_109, u_97_110, u_97_113, u_97_114, u_97_117, u_97_118, u_97_120, u_97_121, u_97_124, u_97_126, u_97_127, u_97_130, u_97_132, gI0, gIs, gR0, gRs, gF0, gFs, st0, st_i, st_r, st_f, st_n, st_s, true_and, and_true, ↓ifLeT, ↓ifLeF, ↓ifLtT, ↓ifLtF, ↓ifEqT, ↓ifEqF, if_tt, if_ff, if_pos, if_neg, nLe, nLt, nEq, nInT, nCl, pk_mul, nI_add, Nat.reduceAdd, s_cat_nil, s_cat_i, s_cat_r, s_cat_f, s_cat_l, tl_s, tl_n, cat_i, cat_r, cat_f, nb0, nb1, nbI, if_bI, if_bIr, Nat.zero_le, Nat.reduceLeDiff, S_ob0, a]
                exact r1 K
              · simp (maxSteps := 2000000) (disch := omega) only [u_97_0, u_97_1, u_97_4, u_97_7, u_97_8, u_97_11, u_97_12, u_97_13, u_97_16, u_97_19, u_97_22, u_97_24, u_97_25, u_97_28, u_97_29, u_97_31, u_97_34, u_97_37, u_97_38, u_97_39, u_97_42, u_97_43, u_97_44, u_97_45, u_97_48, u_97_49, u_97_51, u_97_54, u_97_55, u_97_56, u_97_59, u_97_60, u_97_62, u_97_65, u_97_66, u_97_67, u_97_70, u_97_71, u_97_72, u_97_75, u_97_78, u_97_80, u_97_83, u_97_84, u_97_85, u_97_88, u_97_89, u_97_90, u_97_93, u_97_94, u_97_97, u_97_100, u_97_101, u_97_104, u_97_105, u_97_106, u_97_107, u_97_109, u_97_110, u_97_113, u_97_114, u_97_117, u_97_118, u_97_120, u_97_121, u_97_124, u_97_126, u_97_127, u_97_130, u_97_132, gI0, gIs, gR0, gRs, gF0, gFs, st0, st_i, st_r, st_f, st_n, st_s, true_and, and_true, ↓ifLeT, ↓ifLeF, ↓ifLtT, ↓ifLtF, ↓ifEqT, ↓ifEqF, if_tt, if_ff, if_pos, if_neg, nLe, nLt, nEq, nInT, nCl, pk_mul, nI_add, Nat.reduceAdd, s_cat_nil, s_cat_i, s_cat_r, s_cat_f, s_cat_l, tl_s, tl_n, cat_i, cat_r, cat_f, nb0, nb1, nbI, if_bI, if_bIr, Nat.zero_le, Nat.reduceLeDiff, S_ob0, a, b2]
                exact r1 K
            | some v =>
              simp only [h4] at K
              obtain ⟨v1, rfl⟩ := ix1_some (by decide) h4
              by_cases h5 : nF n 3 = 8
              · simp only [if_pos h5] at K
                simp (maxSteps := 2000000) (disch := omega) only [u_97_0, u_97_1, u_97_4, u_97_7, u_97_8, u_97_11, u_97_12, u_97_13, u_97_16, u_97_19, u_97_22, u_97_24, u_97_25, u_97_28, u_97_29, u_97_31, u_97_34, u_97_37, u_97_38, u_97_39, u_97_42, u_97_43, u_97_44, u_97_45, u_97_48, u_97_49, u_97_51, u_97_54, u_97_55, u_97_56, u_97_59, u_97_60, u_97_62, u_97_65, u_97_66, u_97_67, u_97_70, u_97_71, u_97_72, u_97_75, u_97_78, u_97_80, u_97_83, u_97_84, u_97_85, u_97_88, u_97_89, u_97_90, u_97_93, u_97_94, u_97_97, u_97_100, u_97_101, u_97_104, u_97_105, u_97_106, u_97_107, u_97_109, u_97_110, u_97_113, u_97_114, u_97_117, u_97_118, u_97_120, u_97_121, u_97_124, u_97_126, u_97_127, u_97_130, u_97_132, gI0, gIs, gR0, gRs, gF0, gFs, st0, st_i, st_r, st_f, st_n, st_s, true_and, and_true, ↓ifLeT, ↓ifLeF, ↓ifLtT, ↓ifLtF, ↓ifEqT, ↓ifEqF, if_tt, if_ff, if_pos, if_neg, nLe, nLt, nEq, nInT, nCl, pk_mul, nI_add, Nat.reduceAdd, s_cat_nil, s_cat_i, s_cat_r, s_cat_f, s_cat_l, tl_s, tl_n, cat_i, cat_r, cat_f, nb0, nb1, nbI, if_bI, if_bIr, Nat.zero_le, Nat.reduceLeDiff, S_ob0, S_g0_0, S_g0_1, S_g0_2, S_g0_3, S_g0_4, S_g0_5, S_g0_6, S_g0_7, S_g0_8, S_g0_9, S_g0_10, S_g0_11, S_g0_12, S_g0_13, S_g0_14, S_g1_0, S_g1_1, S_g1_2, S_g1_3, S_g1_4, S_g72_0, S_g72_1, S_g72_2, S_g239_0, S_g239_1, S_g239_2, S_g239_3, S_g239_4, S_g239_5, S_g239_6, S_a23, S_n23, S_a282, S_n282, S_a300, S_n300, S_n73, S_n299, Y'_ob (isY_S yb24), Y'_g0 (isY_S yb24), Y'_g1 (isY_S yb24), Y'_g2 (isY_S yb24), Y'_g3 (isY_S yb24), Y'_g4 (isY_S yb24), Y'_g5 (isY_S yb24), Y'_g6 (isY_S yb24), Y'_g7 (isY_S yb24), Y'_g8 (isY_S yb24), Y'_g9 (isY_S yb24), Y'_g10 (isY_S yb24), Y'_g11 (isY_S yb24), Y'_g12 (isY_S yb24), Y'_g13 (isY_S yb24), Y'_g14 (isY_S yb24), Y'_g15 (isY_S yb24), Y'_g16 (isY_S yb24), Y'_g17 (isY_S yb24), Y'_g18 (isY_S yb24), Y'_g19 (isY_S yb24), Y'_a7 (isY_S yb24), Y'_a8 (isY_S yb24), Y'_a10 (isY_S yb24), Y'_a11 (isY_S yb24), Y'_a12 (isY_S yb24), Y'_a13 (isY_S yb24), Y'_a14 (isY_S yb24), Y'_a15 (isY_S yb24), Y'_a16 (isY_S yb24), Y'_a17 (isY_S yb24), Y'_a18 (isY_S yb24), Y'_sw (isY_S yb24), f3, h5]
                refine q_ref hI (k := 3) (by decide) fun s' hI' => ?_
                simp (maxSteps := 2000000) (disch := omega) only [u_97_0, u_97_1, u_97_4, u_97_7, u_97_8, u_97_11, u_97_12, u_97_13, u_97_16, u_97_19, u_97_22, u_97_24, u_97_25, u_97_28, u_97_29, u_97_31, u_97_34, u_97_37, u_97_38, u_97_39, u_97_42, u_97_43, u_97_44, u_97_45, u_97_48, u_97_49, u_97_51, u_97_54, u_97_55, u_97_56, u_97_59, u_97_60, u_97_62, u_97_65, u_97_66, u_97_67, u_97_70, u_97_71, u_97_72, u_97_75, u_97_78, u_97_80, u_97_83, u_97_84, u_97_85, u_97_88, u_97_89, u_97_90, u_97_93, u_97_94, u_97_97, u_97_100, u_97_101, u_97_104, u_97_105, u_97_106, u_97_107, u_97_109, u_97_110, u_97_113, u_97_114, u_97_117, u_97_118, u_97_120, u_97_121, u_97_124, u_97_126, u_97_127, u_97_130, u_97_132, gI0, gIs, gR0, gRs, gF0, gFs, st0, st_i, st_r, st_f, st_n, st_s, true_and, and_true, ↓ifLeT, ↓ifLeF, ↓ifLtT, ↓ifLtF, ↓ifEqT, ↓ifEqF, if_tt, if_ff, if_pos, if_neg, nLe, nLt, nEq, nInT, nCl, pk_mul, nI_add, Nat.reduceAdd, s_cat_nil, s_cat_i, s_cat_r, s_cat_f, s_cat_l, tl_s, tl_n, cat_i, cat_r, cat_f, nb0, nb1, nbI, if_bI, if_bIr, Nat.zero_le, Nat.reduceLeDiff]
                exact K s' hI'
              · simp only [if_neg h5] at K
                have ka := kpA_ne (g := SG s)
                have y24 : SY (kpS s 24) 24 = SY s 24 := by rw [SY_kp, if_neg (by omega)]
                obtain ⟨AF, hA1, hA2, hA3⟩ : ∃ AF : Int32, (∀ L, (if af = -1 then WP (d + 4) 97 121 L [.int (nI 0), .int (nI (v + 1)), .int (nI (j + 1)), .int (nI b), .ref 24] (pS (kpS s 24) h) (0, 0) Q else WP (d + 4) 97 121 L [.int (nI 1 <<< (af &&& nI 31)), .int (nI (v + 1)), .int (nI (j + 1)), .int (nI b), .ref 24] (pS (kpS s 24) h) (0, 0) Q) ↔ WP (d + 4) 97 121 L [.int AF, .int (nI (v + 1)), .int (nI (j + 1)), .int (nI b), .ref 24] (pS (kpS s 24) h) (0, 0) Q) ∧ AF = nI (bitsN (fun u => decide (ixN af (nF n 3) = some u)) 8) ∧ ∀ u, ixN af (nF n 3) = some u → u < nF n 3 := by
                  by_cases h6 : af = -1
                  · refine ⟨nI 0, fun L => by rw [if_pos h6], ?_, fun u hu => (ix_some (by omega) hu).1⟩
                    rw [h6, ix_m1, no_bit]
                  · cases h7 : ixN af (nF n 3) with
                    | none => exact absurd ⟨h6, h7⟩ h2
                    | some u =>
                      obtain ⟨u1, rfl⟩ := ix_some (by omega) h7
                      exact ⟨nI (2 ^ u), fun L => by rw [if_neg h6, show nI 31 = 31 from rfl, i_shl1 (by omega)], by rw [one_bit (by omega)], fun q hq => by cases hq; exact u1⟩
                have hy' : RY (addT (SY s 24) (nI b) (nI (j + 1)) (nI (v + 1)) AF) (moreN n b (j + 1) (v + 1) (ixN af (nF n 3))) := RY_more hok.1 hy (by omega) (by omega) hA2
                have hok' : okQ (moreN n b (j + 1) (v + 1) (ixN af (nF n 3))) := ok_more hok (by omega) b1 (by omega) (by omega) (by omega) (by omega) hA3
                have e2 := fun Q => tr_Y (s := kpS s 24) (h := h) (Q := Q) yb24 fun h Q => m_addTask (d := d + 3) (a := 24) (y := SY (kpS s 24) 24) (w := nI b) (t := nI (j + 1)) (v := nI (v + 1)) (b := AF) (h := h) (Q := Q) (by rw [y24]; omega)
                rw [y24, f3, if_pos (by omega)] at e2
                have fin : ∀ L, L = [.ref 0, .int (nI b), .int (nI (j + 1)), .int (nI (v + 1)), .int af, s_no] → WP (d + 4) 97 121 L [.int AF, .int (nI (v + 1)), .int (nI (j + 1)), .int (nI b), .ref 24] (pS (kpS s 24) h) (0, 0) Q := by
                  intro L hL
                  subst hL
                  simp (maxSteps := 2000000) (disch := omega) only [u_97_0, u_97_1, u_97_4, u_97_7, u_97_8, u_97_11, u_97_12, u_97_13, u_97_16, u_97_19, u_97_22, u_97_24, u_97_25, u_97_28, u_97_29, u_97_31, u_97_34, u_97_37, u_97_38, u_97_39, u_97_42, u_97_43, u_97_44, u_97_45, u_97_48, u_97_49, u_97_51, u_97_54, u_97_55, u_97_56, u_97_59, u_97_60, u_97_62, u_97_65, u_97_66, u_97_67, u_97_70, u_97_71, u_97_72, u_97_75, u_97_78, u_97_80, u_97_83, u_97_84, u_97_85, u_97_88, u_97_89, u_97_90, u_97_93, u_97_94, u_97_97, u_97_100, u_97_101, u_97_104, u_97_105, u_97_106, u_97_107, u_97_109, u_97_110, u_97_113, u_97_114, u_97_117, u_97_118, u_97_120, u_97_121, u_97_124, u_97_126, u_97_127, u_97_130, u_97_132, gI0, gIs, gR0, gRs, gF0, gFs, st0, st_i, st_r, st_f, st_n, st_s, true_and, and_true, ↓ifLeT, ↓ifLeF, ↓ifLtT, ↓ifLtF, ↓ifEqT, ↓ifEqF, if_tt, if_ff, if_pos, if_neg, nLe, nLt, nEq, nInT, nCl, pk_mul, nI_add, Nat.reduceAdd, s_cat_nil, s_cat_i, s_cat_r, s_cat_f, s_cat_l, tl_s, tl_n, cat_i, cat_r, cat_f, nb0, nb1, nbI, if_bI, if_bIr, Nat.zero_le, Nat.reduceLeDiff, S_ob0, Y'_ob (isY_S yb24), Y'_g0 (isY_S yb24), Y'_g1 (isY_S yb24), Y'_g2 (isY_S yb24), Y'_g3 (isY_S yb24), Y'_g4 (isY_S yb24), Y'_g5 (isY_S yb24), Y'_g6 (isY_S yb24), Y'_g7 (isY_S yb24), Y'_g8 (isY_S yb24), Y'_g9 (isY_S yb24), Y'_g10 (isY_S yb24), Y'_g11 (isY_S yb24), Y'_g12 (isY_S yb24), Y'_g13 (isY_S yb24), Y'_g14 (isY_S yb24), Y'_g15 (isY_S yb24), Y'_g16 (isY_S yb24), Y'_g17 (isY_S yb24), Y'_g18 (isY_S yb24), Y'_g19 (isY_S yb24), Y'_a7 (isY_S yb24), Y'_a8 (isY_S yb24), Y'_a10 (isY_S yb24), Y'_a11 (isY_S yb24), Y'_a12 (isY_S yb24), Y'_a13 (isY_S yb24), Y'_a14 (isY_S yb24), Y'_a15 (isY_S yb24), Y'_a16 (isY_S yb24), Y'_a17 (isY_S yb24), Y'_a18 (isY_S yb24), Y'_sw (isY_S yb24), e2]
                  refine q_changed fun s' hx h5 hc => ?_
                  have hI' := IC_act hI hq hy' hok' ⟨rfl, rfl, rfl, fun _ _ => rfl⟩ hx h5 hc
                  simp (maxSteps := 2000000) (disch := omega) only [u_97_0, u_97_1, u_97_4, u_97_7, u_97_8, u_97_11, u_97_12, u_97_13, u_97_16, u_97_19, u_97_22, u_97_24, u_97_25, u_97_28, u_97_29, u_97_31, u_97_34, u_97_37, u_97_38, u_97_39, u_97_42, u_97_43, u_97_44, u_97_45, u_97_48, u_97_49, u_97_51, u_97_54, u_97_55, u_97_56, u_97_59, u_97_60, u_97_62, u_97_65, u_97_66, u_97_67, u_97_70, u_97_71, u_97_72, u_97_75, u_97_78, u_97_80, u_97_83, u_97_84, u_97_85, u_97_88, u_97_89, u_97_90, u_97_93, u_97_94, u_97_97, u_97_100, u_97_101, u_97_104, u_97_105, u_97_106, u_97_107, u_97_109, u_97_110, u_97_113, u_97_114, u_97_117, u_97_118, u_97_120, u_97_121, u_97_124, u_97_126, u_97_127, u_97_130, u_97_132, gI0, gIs, gR0, gRs, gF0, gFs, st0, st_i, st_r, st_f, st_n, st_s, true_and, and_true, ↓ifLeT, ↓ifLeF, ↓ifLtT, ↓ifLtF, ↓ifEqT, ↓ifEqF, if_tt, if_ff, if_pos, if_neg, nLe, nLt, nEq, nInT, nCl, pk_mul, nI_add, Nat.reduceAdd, s_cat_nil, s_cat_i, s_cat_r, s_cat_f, s_cat_l, tl_s, tl_n, cat_i, cat_r, cat_f, nb0, nb1, nbI, if_bI, if_bIr, Nat.zero_le, Nat.reduceLeDiff]
                  exact K s' hI'
                have fin := (hA1 _).mpr (fin _ rfl)
                have l8 : nI (nF n 3) < nI 8 := nI_lt (by omega) (by omega)
                simp (maxSteps := 2000000) (disch := omega) only [u_97_0, u_97_1, u_97_4, u_97_7, u_97_8, u_97_11, u_97_12, u_97_13, u_97_16, u_97_19, u_97_22, u_97_24, u_97_25, u_97_28, u_97_29, u_97_31, u_97_34, u_97_37, u_97_38, u_97_39, u_97_42, u_97_43, u_97_44, u_97_45, u_97_48, u_97_49, u_97_51, u_97_54, u_97_55, u_97_56, u_97_59, u_97_60, u_97_62, u_97_65, u_97_66, u_97_67, u_97_70, u_97_71, u_97_72, u_97_75, u_97_78, u_97_80, u_97_83, u_97_84, u_97_85, u_97_88, u_97_89, u_97_90, u_97_93, u_97_94, u_97_97, u_97_100, u_97_101, u_97_104, u_97_105, u_97_106, u_97_107, u_97_109, u_97_110, u_97_113, u_97_114, u_97_117, u_97_118, u_97_120, u_97_124, u_97_126, u_97_127, u_97_130, u_97_132, gI0, gIs, gR0, gRs, gF0, gFs, st0, st_i, st_r, st_f, st_n, st_s, true_and, and_true, ↓ifLeT, ↓ifLeF, ↓ifLtT, ↓ifLtF, ↓ifEqT, ↓ifEqF, if_tt, if_ff, if_pos, if_neg, nLe, nLt, nEq, nInT, nCl, pk_mul, nI_add, Nat.reduceAdd, s_cat_nil, s_cat_i, s_cat_r, s_cat_f, s_cat_l, tl_s, tl_n, cat_i, cat_r, cat_f, nb0, nb1, nbI, if_bI, if_bIr, Nat.zero_le, Nat.reduceLeDiff, S_ob0, S_ob72, S_g0_0, S_g0_1, S_g0_2, S_g0_3, S_g0_4, S_g0_5, S_g0_6, S_g0_7, S_g0_8, S_g0_9, S_g0_10, S_g0_11, S_g0_12, S_g0_13, S_g0_14, S_g1_0, S_g1_1, S_g1_2, S_g1_3, S_g1_4, S_g72_0, S_g72_1, S_g72_2, S_g239_0, S_g239_1, S_g239_2, S_g239_3, S_g239_4, S_g239_5, S_g239_6, S_a23, S_n23, S_a282, S_n282, S_a300, S_n300, S_n73, S_n299, Y'_ob (isY_S yb24), Y'_g0 (isY_S yb24), Y'_g1 (isY_S yb24), Y'_g2 (isY_S yb24), Y'_g3 (isY_S yb24), Y'_g4 (isY_S yb24), Y'_g5 (isY_S yb24), Y'_g6 (isY_S yb24), Y'_g7 (isY_S yb24), Y'_g8 (isY_S yb24), Y'_g9 (isY_S yb24), Y'_g10 (isY_S yb24), Y'_g11 (isY_S yb24), Y'_g12 (isY_S yb24), Y'_g13 (isY_S yb24), Y'_g14 (isY_S yb24), Y'_g15 (isY_S yb24), Y'_g16 (isY_S yb24), Y'_g17 (isY_S yb24), Y'_g18 (isY_S yb24), Y'_g19 (isY_S yb24), Y'_a7 (isY_S yb24), Y'_a8 (isY_S yb24), Y'_a10 (isY_S yb24), Y'_a11 (isY_S yb24), Y'_a12 (isY_S yb24), Y'_a13 (isY_S yb24), Y'_a14 (isY_S yb24), Y'_a15 (isY_S yb24), Y'_a16 (isY_S yb24), Y'_a17 (isY_S yb24), Y'_a18 (isY_S yb24), Y'_sw (isY_S yb24), f3, l8, k_keep hI]
                by_cases h6 : af = -1
                · rw [if_pos h6] at fin ⊢
                  exact fin
                · rw [if_neg h6] at fin ⊢
                  exact fin
        by_cases h6 : af = -1
        · simp (maxSteps := 2000000) (disch := omega) only [u_97_0, u_97_1, u_97_4, u_97_7, u_97_8, u_97_11, u_97_12, u_97_13, u_97_16, u_97_19, u_97_22, u_97_24, u_97_25, u_97_28, u_97_29, u_97_31, u_97_34, u_97_37, u_97_38, u_97_39, u_97_42, u_97_44, u_97_45, u_97_48, u_97_49, u_97_51, u_97_54, u_97_55, u_97_56, u_97_59, u_97_60, u_97_62, u_97_65, u_97_66, u_97_67, u_97_70, u_97_71, u_97_72, u_97_75, u_97_78, u_97_80, u_97_83, u_97_84, u_97_85, u_97_88, u_97_89, u_97_90, u_97_93, u_97_94, u_97_97, u_97_100, u_97_101, u_97_104, u_97_105, u_97_106, u_97_107, u_97_109, u_97_110, u_97_113, u_97_114, u_97_117, u_97_118, u_97_120, u_97_121, u_97_124, u_97_126, u_97_127, u_97_130, u_97_132, gI0, gIs, gR0, gRs, gF0, gFs, st0, st_i, st_r, st_f, st_n, st_s, true_and, and_true, ↓ifLeT, ↓ifLeF, ↓ifLtT, ↓ifLtF, ↓ifEqT, ↓ifEqF, if_tt, if_ff, if_pos, if_neg, nLe, nLt, nEq, nInT, nCl, pk_mul, nI_add, Nat.reduceAdd, s_cat_nil, s_cat_i, s_cat_r, s_cat_f, s_cat_l, tl_s, tl_n, cat_i, cat_r, cat_f, nb0, nb1, nbI, if_bI, if_bIr, Nat.zero_le, Nat.reduceLeDiff, S_ob0, S_g0_0, S_g0_1, S_g0_2, S_g0_3, S_g0_4, S_g0_5, S_g0_6, S_g0_7, S_g0_8, S_g0_9, S_g0_10, S_g0_11, S_g0_12, S_g0_13, S_g0_14, S_g1_0, S_g1_1, S_g1_2, S_g1_3, S_g1_4, S_g72_0, S_g72_1, S_g72_2, S_g239_0, S_g239_1, S_g239_2, S_g239_3, S_g239_4, S_g239_5, S_g239_6, S_a23, S_n23, S_a282, S_n282, S_a300, S_n300, S_n73, S_n299, Y'_ob (isY_S yb24), Y'_g0 (isY_S yb24), Y'_g1 (isY_S yb24), Y'_g2 (isY_S yb24), Y'_g3 (isY_S yb24), Y'_g4 (isY_S yb24), Y'_g5 (isY_S yb24), Y'_g6 (isY_S yb24), Y'_g7 (isY_S yb24), Y'_g8 (isY_S yb24), Y'_g9 (isY_S yb24), Y'_g10 (isY_S yb24), Y'_g11 (isY_S yb24), Y'_g12 (isY_S yb24), Y'_g13 (isY_S yb24), Y'_g14 (isY_S yb24), Y'_g15 (isY_S yb24), Y'_g16 (isY_S yb24), Y'_g17 (isY_S yb24), Y'_g18 (isY_S yb24), Y'_g19 (isY_S yb24), Y'_a7 (isY_S yb24), Y'_a8 (isY_S yb24), Y'_a10 (isY_S yb24), Y'_a11 (isY_S yb24), Y'_a12 (isY_S yb24), Y'_a13 (isY_S yb24), Y'_a14 (isY_S yb24), Y'_a15 (isY_S yb24), Y'_a16 (isY_S yb24), Y'_a17 (isY_S yb24), Y'_a18 (isY_S yb24), Y'_sw (isY_S yb24), e0, hq, Option.isSome, iBt, nI10, reduceIte, f0, h6]
          rw [h6] at go
          exact go
        · cases h7 : ixN af (nF n 3) with
          | none => exact absurd ⟨h6, h7⟩ h2
          | some u =>
            rw [h7] at e1
            simp (maxSteps := 2000000) (disch := omega) only [u_97_0, u_97_1, u_97_4, u_97_7, u_97_8, u_97_11, u_97_12, u_97_13, u_97_16, u_97_19, u_97_22, u_97_24, u_97_25, u_97_28, u_97_29, u_97_31, u_97_34, u_97_37, u_97_38, u_97_39, u_97_42, u_97_44, u_97_45, u_97_48, u_97_49, u_97_51, u_97_54, u_97_55, u_97_56, u_97_59, u_97_60, u_97_62, u_97_65, u_97_66, u_97_67, u_97_70, u_97_71, u_97_72, u_97_75, u_97_78, u_97_80, u_97_83, u_97_84, u_97_85, u_97_88, u_97_89, u_97_90, u_97_93, u_97_94, u_97_97, u_97_100, u_97_101, u_97_104, u_97_105, u_97_106, u_97_107, u_97_109, u_97_110, u_97_113, u_97_114, u_97_117, u_97_118, u_97_120, u_97_121, u_97_124, u_97_126, u_97_127, u_97_130, u_97_132, gI0, gIs, gR0, gRs, gF0, gFs, st0, st_i, st_r, st_f, st_n, st_s, true_and, and_true, ↓ifLeT, ↓ifLeF, ↓ifLtT, ↓ifLtF, ↓ifEqT, ↓ifEqF, if_tt, if_ff, if_pos, if_neg, nLe, nLt, nEq, nInT, nCl, pk_mul, nI_add, Nat.reduceAdd, s_cat_nil, s_cat_i, s_cat_r, s_cat_f, s_cat_l, tl_s, tl_n, cat_i, cat_r, cat_f, nb0, nb1, nbI, if_bI, if_bIr, Nat.zero_le, Nat.reduceLeDiff, S_ob0, S_g0_0, S_g0_1, S_g0_2, S_g0_3, S_g0_4, S_g0_5, S_g0_6, S_g0_7, S_g0_8, S_g0_9, S_g0_10, S_g0_11, S_g0_12, S_g0_13, S_g0_14, S_g1_0, S_g1_1, S_g1_2, S_g1_3, S_g1_4, S_g72_0, S_g72_1, S_g72_2, S_g239_0, S_g239_1, S_g239_2, S_g239_3, S_g239_4, S_g239_5, S_g239_6, S_a23, S_n23, S_a282, S_n282, S_a300, S_n300, S_n73, S_n299, Y'_ob (isY_S yb24), Y'_g0 (isY_S yb24), Y'_g1 (isY_S yb24), Y'_g2 (isY_S yb24), Y'_g3 (isY_S yb24), Y'_g4 (isY_S yb24), Y'_g5 (isY_S yb24), Y'_g6 (isY_S yb24), Y'_g7 (isY_S yb24), Y'_g8 (isY_S yb24), Y'_g9 (isY_S yb24), Y'_g10 (isY_S yb24), Y'_g11 (isY_S yb24), Y'_g12 (isY_S yb24), Y'_g13 (isY_S yb24), Y'_g14 (isY_S yb24), Y'_g15 (isY_S yb24), Y'_g16 (isY_S yb24), Y'_g17 (isY_S yb24), Y'_g18 (isY_S yb24), Y'_g19 (isY_S yb24), Y'_a7 (isY_S yb24), Y'_a8 (isY_S yb24), Y'_a10 (isY_S yb24), Y'_a11 (isY_S yb24), Y'_a12 (isY_S yb24), Y'_a13 (isY_S yb24), Y'_a14 (isY_S yb24), Y'_a15 (isY_S yb24), Y'_a16 (isY_S yb24), Y'_a17 (isY_S yb24), Y'_a18 (isY_S yb24), Y'_sw (isY_S yb24), e0, hq, Option.isSome, iBt, nI10, reduceIte, f0, h6, e1]
            exact go
theorem q_undo (hI : IC s z) (K : ∀ s', IC s' (zundo z).2 → Q (some (.int (zundo z).1)) (pS s' h)) : MT (d + 4) 122 [.ref 0] (pS s h) Q := by
  rw [MT_go (by decide) _ _ _ (Nat.le_of_ble_eq_true rfl), show s_entry 122 [.ref 0] = [.ref 0] from rfl]
  have hg := hI.2.2.1.1
  have hl := hI.2.2.1.2.1
  have e1 := fun Q => m_canUndo (d := d + 2) (s := s) (h := h) (Q := Q) hg
  have e2 := fun Q => m_takeBack (d := d) (s := s) (h := h) (Q := Q) hg
  unfold zundo at K
  rw [List.getLast?_eq_getElem?] at K
  rw [hl] at e1
  cases ha : (zA z)[(zA z).length - 1]? with
  | none =>
    simp only [ha] at K
    have h0 : (zA z).length = 0 := by
      have := List.getElem?_eq_none_iff.mp ha
      omega
    rw [decide_eq_false (by omega)] at e1
    simp (disch := omega) only [u_122_0, u_122_1, u_122_4, u_122_7, u_122_10, u_122_11, u_122_12, u_122_13, u_122_16, u_122_17, u_122_20, u_122_23, u_122_24, u_122_27, u_122_28, u_122_31, u_122_34, gI0, gIs, gR0, gRs, gF0, gFs, st0, st_i, st_r, st_f, st_n, st_s, true_and, and_true, ↓ifLeT, ↓ifLeF, ↓ifLtT, ↓ifLtF, ↓ifEqT, ↓ifEqF, if_tt, if_ff, if_pos, if_neg, nLe, nLt, nEq, nInT, nCl, pk_mul, nI_add, Nat.reduceAdd, s_cat_nil, s_cat_i, s_cat_r, s_cat_f, s_cat_l, tl_s, tl_n, cat_i, cat_r, cat_f, nb0, nb1, nbI, if_bI, if_bIr, Nat.zero_le, Nat.reduceLeDiff, S_ob72, S_g0_0, S_g0_1, S_g0_2, S_g0_3, S_g0_4, S_g0_5, S_g0_6, S_g0_7, S_g0_8, S_g0_9, S_g0_10, S_g0_11, S_g0_12, S_g0_13, S_g0_14, S_g1_0, S_g1_1, S_g1_2, S_g1_3, S_g1_4, S_g72_0, S_g72_1, S_g72_2, S_g239_0, S_g239_1, S_g239_2, S_g239_3, S_g239_4, S_g239_5, S_g239_6, S_a23, S_n23, S_a282, S_n282, S_a300, S_n300, S_n73, S_n299, e1, iBf]
    exact K s hI
  | some a =>
    simp only [ha] at K
    have hlt := (List.getElem?_eq_some_iff.mp ha).1
    rw [decide_eq_true (by omega)] at e1
    obtain ⟨⟨t1, t2, t3, t4⟩, hq, ⟨a1, a2, a3⟩, ⟨i1, i2⟩, hr, hc⟩ := hI
    obtain ⟨r1, r2, n, r3, r4⟩ := a3 _ a ha
    have hs : tbS s 24 = wSY (wSG s (vN (SG s) 202 (eN (SG s) 202 - 1))) 24 (cpY (SY s 24) (SY s (tbA (SG s)))) := if_pos (by omega)
    have tb : tbA (SG s) = acI s ((zA z).length - 1) := by unfold tbA acI; rw [a2]
    rw [hs, tb] at e2
    have hy' : RY (cpY (SY s 24) (SY s (acI s ((zA z).length - 1)))) a := RY_cp r1
    generalize cpY (SY s 24) (SY s (acI s ((zA z).length - 1))) = Y at e2 hy'
    simp (disch := omega) only [u_122_0, u_122_1, u_122_4, u_122_7, u_122_10, u_122_11, u_122_12, u_122_13, u_122_16, u_122_17, u_122_20, u_122_23, u_122_24, u_122_27, u_122_28, u_122_31, u_122_34, gI0, gIs, gR0, gRs, gF0, gFs, st0, st_i, st_r, st_f, st_n, st_s, true_and, and_true, ↓ifLeT, ↓ifLeF, ↓ifLtT, ↓ifLtF, ↓ifEqT, ↓ifEqF, if_tt, if_ff, if_pos, if_neg, nLe, nLt, nEq, nInT, nCl, pk_mul, nI_add, Nat.reduceAdd, s_cat_nil, s_cat_i, s_cat_r, s_cat_f, s_cat_l, tl_s, tl_n, cat_i, cat_r, cat_f, nb0, nb1, nbI, if_bI, if_bIr, Nat.zero_le, Nat.reduceLeDiff, S_ob0, S_ob72, S_g0_0, S_g0_1, S_g0_2, S_g0_3, S_g0_4, S_g0_5, S_g0_6, S_g0_7, S_g0_8, S_g0_9, S_g0_10, S_g0_11, S_g0_12, S_g0_13, S_g0_14, S_g1_0, S_g1_1, S_g1_2, S_g1_3, S_g1_4, S_g72_0, S_g72_1, S_g72_2, S_g239_0, S_g239_1, S_g239_2, S_g239_3, S_g239_4, S_g239_5, S_g239_6, S_a23, S_n23, S_a282, S_n282, S_a300, S_n300, S_n73, S_n299, e1, e2, iBt, nI10, reduceIte]
    refine q_changed fun s' hx h5 h1 => ?_
    obtain ⟨x1, x2, x3, x4⟩ := hx
    have g1 : eN (SG s') 201 = eN (SG s) 201 := by rw [x1]; rfl
    have g2 : eN (SG s') 202 = (zA z).length - 1 := by rw [x1, ← a2]; rfl
    have gB : eB (SG s') = eB (SG s) := by rw [x1]; rfl
    have gA : eA (SG s') = eA (SG s) := by rw [x1]; rfl
    have sy : ∀ q, q ≠ 24 → SY s' q = SY s q := fun q hq => by rw [x2]; exact if_neg hq
    have sy24 : SY s' 24 = Y := by rw [x2, SYw]
    have l1 := a1.1
    have l2 := a1.2
    simp (disch := omega) only [u_122_0, u_122_1, u_122_4, u_122_7, u_122_10, u_122_11, u_122_12, u_122_13, u_122_16, u_122_17, u_122_20, u_122_23, u_122_24, u_122_27, u_122_28, u_122_31, u_122_34, gI0, gIs, gR0, gRs, gF0, gFs, st0, st_i, st_r, st_f, st_n, st_s, true_and, and_true, ↓ifLeT, ↓ifLeF, ↓ifLtT, ↓ifLtF, ↓ifEqT, ↓ifEqF, if_tt, if_ff, if_pos, if_neg, nLe, nLt, nEq, nInT, nCl, pk_mul, nI_add, Nat.reduceAdd, s_cat_nil, s_cat_i, s_cat_r, s_cat_f, s_cat_l, tl_s, tl_n, cat_i, cat_r, cat_f, nb0, nb1, nbI, if_bI, if_bIr, Nat.zero_le, Nat.reduceLeDiff, S_g0_0, S_g0_1, S_g0_2, S_g0_3, S_g0_4, S_g0_5, S_g0_6, S_g0_7, S_g0_8, S_g0_9, S_g0_10, S_g0_11, S_g0_12, S_g0_13, S_g0_14, S_g1_0, S_g1_1, S_g1_2, S_g1_3, S_g1_4, S_g72_0, S_g72_1, S_g72_2, S_g239_0, S_g239_1, S_g239_2, S_g239_3, S_g239_4, S_g239_5, S_g239_6, S_a23, S_n23, S_a282, S_n282, S_a300, S_n300, S_n73, S_n299, g2]
    refine K s' ⟨⟨by rw [x4]; exact t1, by rw [sy 4 (by decide)]; exact t2, by rw [x3]; exact t3, t4⟩, ?_, ⟨⟨by omega, by omega⟩, ?_, fun j q hj => ?_⟩, ⟨by rw [gB]; exact i1, fun q e => ?_⟩, fun k hk => by rw [gA]; exact hr k hk, ⟨fun q => absurd (h5.symm.trans q) (by decide), fun b hb q => absurd ((h1 b hb).symm.trans q) (by decide)⟩⟩
    · show RY (SY s' 24) a ∧ okQ a
      rw [sy24]
      exact ⟨hy', r2⟩
    · show _ = (zA z).dropLast.length
      rw [g2, List.length_dropLast]
    · have hj : (zA z).dropLast[j]? = some q := hj
      rw [List.getElem?_dropLast] at hj
      split at hj
      · obtain ⟨k1, k2, m, k3, k4⟩ := a3 j q hj
        have ac : acI s' j = acI s j := by unfold acI; rw [g1]
        have := acI_ne s j
        rw [ac, sy _ (by omega)]
        rw [r3] at k3
        cases k3
        exact ⟨k1, k2, a, rfl, sameQ_t k4 (sameQ_s r4)⟩
      · cases hj
    · obtain ⟨k1, k2, m, k3, k4⟩ := i2 q e
      rw [sy 56 (by decide)]
      rw [r3] at k3
      cases k3
      exact ⟨k1, k2, a, rfl, sameQ_t k4 (sameQ_s r4)⟩
theorem q_image (hI : IC s z) (K : ∀ s', IC s' (zimage z).2 → Q (some (.int (zimage z).1)) (pS s' h)) : MT (d + 4) 123 [.ref 0] (pS s h) Q := by
  rw [MT_go (by decide) _ _ _ (Nat.le_of_ble_eq_true rfl), show s_entry 123 [.ref 0] = [.ref 0] from rfl]
  have e0 := fun Q => q_has (d := d + 2) (h := h) (Q := Q) hI
  unfold zimage at K
  cases hq : zQ z with
  | none =>
    simp only [hq] at K
    simp (disch := omega) only [u_123_0, u_123_1, u_123_4, u_123_7, u_123_8, u_123_9, u_123_10, u_123_13, u_123_14, u_123_17, u_123_20, u_123_21, u_123_22, u_123_25, u_123_26, u_123_29, u_123_32, gI0, gIs, gR0, gRs, gF0, gFs, st0, st_i, st_r, st_f, st_n, st_s, true_and, and_true, ↓ifLeT, ↓ifLeF, ↓ifLtT, ↓ifLtF, ↓ifEqT, ↓ifEqF, if_tt, if_ff, if_pos, if_neg, nLe, nLt, nEq, nInT, nCl, pk_mul, nI_add, Nat.reduceAdd, s_cat_nil, s_cat_i, s_cat_r, s_cat_f, s_cat_l, tl_s, tl_n, cat_i, cat_r, cat_f, nb0, nb1, nbI, if_bI, if_bIr, Nat.zero_le, Nat.reduceLeDiff, S_ob0, e0, hq, Option.isSome, iBf]
    exact K s hI
  | some n =>
    simp only [hq] at K
    obtain ⟨hy, hok⟩ := IC_y hI hq
    have f4 := hy.1.2.2.2.2.1
    have e1 := fun Q => S_copyY (d := d + 1) (s := s) (h := h) (Q := Q) yb56 yb24 (by decide)
    have y24 : ∀ v, SY (wSG (wSY s 56 v) (vB (SG (wSY s 56 v)) 5 true)) 24 = SY s 24 := fun v => by rw [SY_wG, SY_wY, if_neg (by decide)]
    simp (disch := omega) only [u_123_0, u_123_1, u_123_4, u_123_7, u_123_8, u_123_9, u_123_10, u_123_13, u_123_14, u_123_17, u_123_20, u_123_21, u_123_22, u_123_25, u_123_26, u_123_29, u_123_32, gI0, gIs, gR0, gRs, gF0, gFs, st0, st_i, st_r, st_f, st_n, st_s, true_and, and_true, ↓ifLeT, ↓ifLeF, ↓ifLtT, ↓ifLtF, ↓ifEqT, ↓ifEqF, if_tt, if_ff, if_pos, if_neg, nLe, nLt, nEq, nInT, nCl, pk_mul, nI_add, Nat.reduceAdd, s_cat_nil, s_cat_i, s_cat_r, s_cat_f, s_cat_l, tl_s, tl_n, cat_i, cat_r, cat_f, nb0, nb1, nbI, if_bI, if_bIr, Nat.zero_le, Nat.reduceLeDiff, S_ob0, S_g0_0, S_g0_1, S_g0_2, S_g0_3, S_g0_4, S_g0_5, S_g0_6, S_g0_7, S_g0_8, S_g0_9, S_g0_10, S_g0_11, S_g0_12, S_g0_13, S_g0_14, S_g1_0, S_g1_1, S_g1_2, S_g1_3, S_g1_4, S_g72_0, S_g72_1, S_g72_2, S_g239_0, S_g239_1, S_g239_2, S_g239_3, S_g239_4, S_g239_5, S_g239_6, S_a23, S_n23, S_a282, S_n282, S_a300, S_n300, S_n73, S_n299, S_s0_5, S_s0_5t, S_s0_5f, S_s1_4, S_s72_1, S_s72_2, S_s239_6, S_w23, S_w282, S_w300, Y'_ob (isY_S yb56), Y'_g0 (isY_S yb56), Y'_g1 (isY_S yb56), Y'_g2 (isY_S yb56), Y'_g3 (isY_S yb56), Y'_g4 (isY_S yb56), Y'_g5 (isY_S yb56), Y'_g6 (isY_S yb56), Y'_g7 (isY_S yb56), Y'_g8 (isY_S yb56), Y'_g9 (isY_S yb56), Y'_g10 (isY_S yb56), Y'_g11 (isY_S yb56), Y'_g12 (isY_S yb56), Y'_g13 (isY_S yb56), Y'_g14 (isY_S yb56), Y'_g15 (isY_S yb56), Y'_g16 (isY_S yb56), Y'_g17 (isY_S yb56), Y'_g18 (isY_S yb56), Y'_g19 (isY_S yb56), Y'_a7 (isY_S yb56), Y'_a8 (isY_S yb56), Y'_a10 (isY_S yb56), Y'_a11 (isY_S yb56), Y'_a12 (isY_S yb56), Y'_a13 (isY_S yb56), Y'_a14 (isY_S yb56), Y'_a15 (isY_S yb56), Y'_a16 (isY_S yb56), Y'_a17 (isY_S yb56), Y'_a18 (isY_S yb56), Y'_sw (isY_S yb56), Y'_ob (isY_S yb24), Y'_g0 (isY_S yb24), Y'_g1 (isY_S yb24), Y'_g2 (isY_S yb24), Y'_g3 (isY_S yb24), Y'_g4 (isY_S yb24), Y'_g5 (isY_S yb24), Y'_g6 (isY_S yb24), Y'_g7 (isY_S yb24), Y'_g8 (isY_S yb24), Y'_g9 (isY_S yb24), Y'_g10 (isY_S yb24), Y'_g11 (isY_S yb24), Y'_g12 (isY_S yb24), Y'_g13 (isY_S yb24), Y'_g14 (isY_S yb24), Y'_g15 (isY_S yb24), Y'_g16 (isY_S yb24), Y'_g17 (isY_S yb24), Y'_g18 (isY_S yb24), Y'_g19 (isY_S yb24), Y'_a7 (isY_S yb24), Y'_a8 (isY_S yb24), Y'_a10 (isY_S yb24), Y'_a11 (isY_S yb24), Y'_a12 (isY_S yb24), Y'_a13 (isY_S yb24), Y'_a14 (isY_S yb24), Y'_a15 (isY_S yb24), Y'_a16 (isY_S yb24), Y'_a17 (isY_S yb24), Y'_a18 (isY_S yb24), Y'_sw (isY_S yb24), e0, hq, Option.isSome, iBt, nI10, reduceIte, e1, y24, f4]
    obtain ⟨⟨t1, t2, t3, t4⟩, hq2, ⟨a1, a2, a3⟩, ⟨i1, i2⟩, hr, hc⟩ := hI
    refine K _ ⟨⟨t1, by rw [SY_wG, SY_wY, if_neg (by decide)]; exact t2, t3, t4⟩, ?_, ⟨a1, a2, fun j q hj => ?_⟩, ⟨?_, fun q e => ?_⟩, hr, hc⟩
    · show icQ (SY (wSG (wSY s 56 _) _) 24) (zQ z)
      rw [y24]
      exact hq2
    · obtain ⟨k1, k2, m, k3, k4⟩ := a3 j q hj
      have := acI_ne s j
      refine ⟨?_, k2, m, k3, k4⟩
      show RY (if acI s j = 56 then _ else SY s (acI s j)) q
      rw [if_neg (by omega)]
      exact k1
    · rfl
    · have e : some n = some q := e
      cases e
      refine ⟨?_, hok, n, hq, sameQ_r⟩
      rw [SY_wG, SY_wY, if_pos rfl]
      exact RY_cp hy
theorem q_back (hI : IC s z) (K : ∀ s', IC s' (zback z).2 → Q (some (.int (zback z).1)) (pS s' h)) : MT (d + 4) 124 [.ref 0] (pS s h) Q := by
  rw [MT_go (by decide) _ _ _ (Nat.le_of_ble_eq_true rfl), show s_entry 124 [.ref 0] = [.ref 0] from rfl]
  obtain ⟨⟨t1, t2, t3, t4⟩, hq, ⟨a1, a2, a3⟩, ⟨i1, i2⟩, hr, hc⟩ := hI
  unfold zback at K
  cases hi : zI z with
  | none =>
    simp only [hi] at K
    rw [hi] at i1
    simp (disch := omega) only [u_124_0, u_124_1, u_124_4, u_124_7, u_124_8, u_124_9, u_124_10, u_124_13, u_124_14, u_124_17, u_124_20, u_124_21, u_124_24, u_124_27, u_124_28, u_124_31, u_124_32, u_124_35, u_124_38, gI0, gIs, gR0, gRs, gF0, gFs, st0, st_i, st_r, st_f, st_n, st_s, true_and, and_true, ↓ifLeT, ↓ifLeF, ↓ifLtT, ↓ifLtF, ↓ifEqT, ↓ifEqF, if_tt, if_ff, if_pos, if_neg, nLe, nLt, nEq, nInT, nCl, pk_mul, nI_add, Nat.reduceAdd, s_cat_nil, s_cat_i, s_cat_r, s_cat_f, s_cat_l, tl_s, tl_n, cat_i, cat_r, cat_f, nb0, nb1, nbI, if_bI, if_bIr, Nat.zero_le, Nat.reduceLeDiff, S_ob0, S_g0_0, S_g0_1, S_g0_2, S_g0_3, S_g0_4, S_g0_5, S_g0_6, S_g0_7, S_g0_8, S_g0_9, S_g0_10, S_g0_11, S_g0_12, S_g0_13, S_g0_14, S_g1_0, S_g1_1, S_g1_2, S_g1_3, S_g1_4, S_g72_0, S_g72_1, S_g72_2, S_g239_0, S_g239_1, S_g239_2, S_g239_3, S_g239_4, S_g239_5, S_g239_6, S_a23, S_n23, S_a282, S_n282, S_a300, S_n300, S_n73, S_n299, i1, Option.isSome, iBf]
    exact K s ⟨⟨t1, t2, t3, t4⟩, hq, ⟨a1, a2, a3⟩, ⟨by rw [hi]; exact i1, fun a e => i2 a (hi ▸ e)⟩, hr, hc⟩
  | some a =>
    simp only [hi] at K
    rw [hi] at i1
    obtain ⟨r1, r2, n, r3, r4⟩ := i2 a hi
    have e1 := fun Q => S_copyY (d := d + 1) (s := s) (h := h) (Q := Q) yb24 yb56 (by decide)
    have hy' : RY (cpY (SY s 24) (SY s 56)) a := RY_cp r1
    generalize cpY (SY s 24) (SY s 56) = Y at e1 hy'
    have e2 := fun Q => m_forget (d := d + 2) (s := wSY s 24 Y) (h := h) (Q := Q)
    simp (disch := omega) only [u_124_0, u_124_1, u_124_4, u_124_7, u_124_8, u_124_9, u_124_10, u_124_13, u_124_14, u_124_17, u_124_20, u_124_21, u_124_24, u_124_27, u_124_28, u_124_31, u_124_32, u_124_35, u_124_38, gI0, gIs, gR0, gRs, gF0, gFs, st0, st_i, st_r, st_f, st_n, st_s, true_and, and_true, ↓ifLeT, ↓ifLeF, ↓ifLtT, ↓ifLtF, ↓ifEqT, ↓ifEqF, if_tt, if_ff, if_pos, if_neg, nLe, nLt, nEq, nInT, nCl, pk_mul, nI_add, Nat.reduceAdd, s_cat_nil, s_cat_i, s_cat_r, s_cat_f, s_cat_l, tl_s, tl_n, cat_i, cat_r, cat_f, nb0, nb1, nbI, if_bI, if_bIr, Nat.zero_le, Nat.reduceLeDiff, S_ob0, S_ob72, S_g0_0, S_g0_1, S_g0_2, S_g0_3, S_g0_4, S_g0_5, S_g0_6, S_g0_7, S_g0_8, S_g0_9, S_g0_10, S_g0_11, S_g0_12, S_g0_13, S_g0_14, S_g1_0, S_g1_1, S_g1_2, S_g1_3, S_g1_4, S_g72_0, S_g72_1, S_g72_2, S_g239_0, S_g239_1, S_g239_2, S_g239_3, S_g239_4, S_g239_5, S_g239_6, S_a23, S_n23, S_a282, S_n282, S_a300, S_n300, S_n73, S_n299, Y'_ob (isY_S yb24), Y'_g0 (isY_S yb24), Y'_g1 (isY_S yb24), Y'_g2 (isY_S yb24), Y'_g3 (isY_S yb24), Y'_g4 (isY_S yb24), Y'_g5 (isY_S yb24), Y'_g6 (isY_S yb24), Y'_g7 (isY_S yb24), Y'_g8 (isY_S yb24), Y'_g9 (isY_S yb24), Y'_g10 (isY_S yb24), Y'_g11 (isY_S yb24), Y'_g12 (isY_S yb24), Y'_g13 (isY_S yb24), Y'_g14 (isY_S yb24), Y'_g15 (isY_S yb24), Y'_g16 (isY_S yb24), Y'_g17 (isY_S yb24), Y'_g18 (isY_S yb24), Y'_g19 (isY_S yb24), Y'_a7 (isY_S yb24), Y'_a8 (isY_S yb24), Y'_a10 (isY_S yb24), Y'_a11 (isY_S yb24), Y'_a12 (isY_S yb24), Y'_a13 (isY_S yb24), Y'_a14 (isY_S yb24), Y'_a15 (isY_S yb24), Y'_a16 (isY_S yb24), Y'_a17 (isY_S yb24), Y'_a18 (isY_S yb24), Y'_sw (isY_S yb24), i1, Option.isSome, iBt, nI10, reduceIte, e1, e2]
    refine q_changed fun s' hx h5 h1 => ?_
    obtain ⟨x1, x2, x3, x4⟩ := hx
    have g1 : eN (SG s') 201 = 0 := by rw [x1]; rfl
    have g2 : eN (SG s') 202 = 0 := by rw [x1]; rfl
    have gB : eB (SG s') = eB (SG s) := by rw [x1]; rfl
    have gA : eA (SG s') = eA (SG s) := by rw [x1]; rfl
    have sy : ∀ q, q ≠ 24 → SY s' q = SY s q := fun q hq => by rw [x2]; exact if_neg hq
    have sy24 : SY s' 24 = Y := by rw [x2, SY_wG, SYw]
    have f4 := hy'.1.2.2.2.2.1
    simp (disch := omega) only [u_124_0, u_124_1, u_124_4, u_124_7, u_124_8, u_124_9, u_124_10, u_124_13, u_124_14, u_124_17, u_124_20, u_124_21, u_124_24, u_124_27, u_124_28, u_124_31, u_124_32, u_124_35, u_124_38, gI0, gIs, gR0, gRs, gF0, gFs, st0, st_i, st_r, st_f, st_n, st_s, true_and, and_true, ↓ifLeT, ↓ifLeF, ↓ifLtT, ↓ifLtF, ↓ifEqT, ↓ifEqF, if_tt, if_ff, if_pos, if_neg, nLe, nLt, nEq, nInT, nCl, pk_mul, nI_add, Nat.reduceAdd, s_cat_nil, s_cat_i, s_cat_r, s_cat_f, s_cat_l, tl_s, tl_n, cat_i, cat_r, cat_f, nb0, nb1, nbI, if_bI, if_bIr, Nat.zero_le, Nat.reduceLeDiff, S_g0_0, S_g0_1, S_g0_2, S_g0_3, S_g0_4, S_g0_5, S_g0_6, S_g0_7, S_g0_8, S_g0_9, S_g0_10, S_g0_11, S_g0_12, S_g0_13, S_g0_14, S_g1_0, S_g1_1, S_g1_2, S_g1_3, S_g1_4, S_g72_0, S_g72_1, S_g72_2, S_g239_0, S_g239_1, S_g239_2, S_g239_3, S_g239_4, S_g239_5, S_g239_6, S_a23, S_n23, S_a282, S_n282, S_a300, S_n300, S_n73, S_n299, Y'_ob (isY_S yb24), Y'_g0 (isY_S yb24), Y'_g1 (isY_S yb24), Y'_g2 (isY_S yb24), Y'_g3 (isY_S yb24), Y'_g4 (isY_S yb24), Y'_g5 (isY_S yb24), Y'_g6 (isY_S yb24), Y'_g7 (isY_S yb24), Y'_g8 (isY_S yb24), Y'_g9 (isY_S yb24), Y'_g10 (isY_S yb24), Y'_g11 (isY_S yb24), Y'_g12 (isY_S yb24), Y'_g13 (isY_S yb24), Y'_g14 (isY_S yb24), Y'_g15 (isY_S yb24), Y'_g16 (isY_S yb24), Y'_g17 (isY_S yb24), Y'_g18 (isY_S yb24), Y'_g19 (isY_S yb24), Y'_a7 (isY_S yb24), Y'_a8 (isY_S yb24), Y'_a10 (isY_S yb24), Y'_a11 (isY_S yb24), Y'_a12 (isY_S yb24), Y'_a13 (isY_S yb24), Y'_a14 (isY_S yb24), Y'_a15 (isY_S yb24), Y'_a16 (isY_S yb24), Y'_a17 (isY_S yb24), Y'_a18 (isY_S yb24), Y'_sw (isY_S yb24), sy24, f4]
    refine K s' ⟨⟨by rw [x4]; exact t1, by rw [sy 4 (by decide)]; exact t2, by rw [x3]; exact t3, t4⟩, ?_, ⟨⟨by omega, by omega⟩, g2, fun j q hj => ?_⟩, ⟨by rw [gB, i1]; show true = (zI z).isSome; rw [hi]; rfl, fun q e => ?_⟩, fun k hk => by rw [gA]; exact hr k hk, ⟨fun q => absurd (h5.symm.trans q) (by decide), fun b hb q => absurd ((h1 b hb).symm.trans q) (by decide)⟩⟩
    · show RY (SY s' 24) a ∧ okQ a
      rw [sy24]
      exact ⟨hy', r2⟩
    · have hj : ([] : List tN)[j]? = some q := hj
      cases hj
    · have e : zI z = some q := e
      rw [hi] at e
      cases e
      rw [sy 56 (by decide)]
      exact ⟨r1, r2, a, rfl, sameQ_r⟩
end Q6
