/-! the reference's better -/
def MB (m : tM) (C : Nat) (g : tB) : Prop := g.1 ≤ 301 ∧ kI m 30 = nI (valD g.1) ∧ match g.2 with
  | none => kI m 34 = -1
  | some (v, l, t) => g.1 = v ∧ v ≤ 300 ∧ FL (kA m 331) C l ∧ (∀ c, (l c).length ≤ 8) ∧ t < 8 ∧ kI m 34 = nI t ∧ kI m 35 = oI1 (holdN l t) ∧ kI m 36 = oI1 (spotN l t)
theorem MB_fr {m m' : tM} {C : Nat} {g : tB} (h : MB m C g) (h1 : ∀ k, k = 30 ∨ k = 34 ∨ k = 35 ∨ k = 36 → kI m' k = kI m k) (h2 : kA m' 331 = kA m 331) : MB m' C g := by
  obtain ⟨a, b, c⟩ := h
  refine ⟨a, (h1 30 (by decide)).trans b, ?_⟩
  cases hg : g.2 with
  | none =>
    simp only [hg] at c ⊢
    exact (h1 34 (by decide)).trans c
  | some p =>
    obtain ⟨v, l, t⟩ := p
    simp only [hg] at c ⊢
    obtain ⟨c1, c2, c3, c4, c5, c6, c7, c8⟩ := c
    exact ⟨c1, c2, by rw [h2]; exact c3, c4, c5, (h1 34 (by decide)).trans c6, (h1 35 (by decide)).trans c7, (h1 36 (by decide)).trans c8⟩
def frB2 (m m' : tM) : Prop := (∀ k, k ≠ 30 → k ≠ 34 → k ≠ 35 → k ≠ 36 → kI m' k = kI m k) ∧ kB m' = kB m ∧ ∀ q, q ≠ 327 → q ≠ 329 → q ≠ 330 → q ≠ 331 → kA m' q = kA m q
theorem frB2_r {m : tM} : frB2 m m := ⟨fun _ _ _ _ _ => rfl, rfl, fun _ _ _ _ _ => rfl⟩
theorem frB2_t {m m' m2 : tM} (h1 : frB2 m m') (h2 : frB2 m' m2) : frB2 m m2 := ⟨fun k a b c e => (h2.1 k a b c e).trans (h1.1 k a b c e), h2.2.1.trans h1.2.1, fun q a b c e => (h2.2.2 q a b c e).trans (h1.2.2 q a b c e)⟩
theorem frB2_T {m m' : tM} (h : frT m m') : frB2 m m' := ⟨fun k a _ _ _ => h.1 k a, h.2.1, h.2.2⟩
theorem frB2_Z {m m' : tM} (h : frB2 m m') : frZ m m' := ⟨fun k hk => h.1 k (by unfold keyI at hk; omega) (by unfold keyI at hk; omega) (by unfold keyI at hk; omega) (by unfold keyI at hk; omega), h.2.1, fun q hq => h.2.2 q (by unfold keyA at hq; omega) (by unfold keyA at hq; omega) (by unfold keyA at hq; omega) (by unfold keyA at hq; omega)⟩
theorem frB2_I {m : tM} {k : Nat} {x : Int32} (hk : k = 30 ∨ k = 34 ∨ k = 35 ∨ k = 36) : frB2 m (xI m k x) := ⟨fun q a b c e => if_neg (by omega), rfl, fun _ _ _ _ _ => rfl⟩
theorem lastM_K {N : tN} {p : Nat} (hp : p ≤ 301) : (∃ v, lastK p N = some v ∧ lastM (valD p) N = v ∧ v < valD p ∧ v ≤ 300) ∨ (lastK p N = none ∧ ¬ lastM (valD p) N < valD p ∧ lastM (valD p) N ≤ 1000000) := by
  cases hk : lastK p N with
  | some v =>
    left
    obtain ⟨k1, k2⟩ := lastK_iff.mp hk
    have hv : v < valD p := by unfold valD; split <;> omega
    exact ⟨v, rfl, lastM_some k2 (by omega) (Or.inr hv), hv, by omega⟩
  | none =>
    right
    refine ⟨rfl, ?_⟩
    unfold lastM
    cases hl : lastN 300 N with
    | none =>
      refine ⟨?_, Nat.le_refl _⟩
      show ¬ 1000000 < valD p
      unfold valD
      split <;> omega
    | some v =>
      have v3 := last_le hl
      have hn : ¬ v < p := fun q => by
        rw [lastK_iff.mpr ⟨q, (lastN_iff.mp hl).2⟩] at hk
        cases hk
      have pv : valD p = p := by unfold valD; rw [if_neg (by omega)]
      rw [pv]
      show ¬ (if v = 0 ∨ v < p then v else 1000000) < p ∧ (if v = 0 ∨ v < p then v else 1000000) ≤ 1000000
      split <;> omega
section MBU
variable {b d : Nat} {m : tM} {h : sH} {w' : Int32} {Q : sQ} {n : tN} {z : tQ}
theorem rest_c {w t c : Nat} (hw : t ∈ nL n w) : (restN n w t c).length = (nL n c).length - (if c = w then 1 else 0) := by
  show (if c = w then (nL n w).erase t else nL n c).length = _
  by_cases e : c = w
  · rw [if_pos e, if_pos e, List.length_erase_of_mem hw, e]
  · rw [if_neg e, if_neg e]
    rfl
theorem r_tries {w t c : Nat} (hn : wfN n) (hw : w < nF n 2) (hc : c < nF n 2) (ht : t < nF n 3) (hm : t ∈ nL n w) : ∀ q p m g v6, p + q = (restN n w t c).length + 1 → MG m n → RR (kA m 320) n → MB m (nF n 2) g → (∀ m', frB2 m m' → MB m' (nF n 2) (pickB n ((List.range' p q).map fun j => (t, putN n w t c j)) g) → Q none (pM m' h)) → WP (d + 10) 238 26 [.ref 317, .int (nI t), .int (nI w), .int (nI c), .int (nI (restN n w t c).length), .int (nI p), v6] [] (pM m h) (0, 0) Q := by
  have h4 := hn.1.1
  have h8 := hn.1.2.1
  obtain ⟨wr, nt⟩ := wf_rest hn.2.2.2 hm
  have hnr : wfN (jL n (restN n w t)) := ⟨hn.1, hn.2.1, hn.2.2.1, wr⟩
  have r7 : (restN n w t c).length ≤ 7 := by
    have := wfL_len (n := jL n (putL (restN n w t) c 0 t)) hn.1 (wf_put wr hc ht nt) c
    have e : putL (restN n w t) c 0 t c = insL (restN n w t c) 0 t := if_pos rfl
    have : (putL (restN n w t) c 0 t c).length ≤ 8 := this
    rw [e, ins_len (Nat.zero_le _)] at this
    omega
  intro q
  induction q with
  | zero =>
    intro p m g v6 hp hg hr hb K
    have e : p = (restN n w t c).length + 1 := by omega
    subst e
    rw [u_238_26]
    simp (disch := omega) only [u_238_0, u_238_1, u_238_4, u_238_5, u_238_6, u_238_9, u_238_10, u_238_11, u_238_12, u_238_15, u_238_16, u_238_19, u_238_20, u_238_21, u_238_23, u_238_24, u_238_28, u_238_30, u_238_33, u_238_34, u_238_37, u_238_38, u_238_41, u_238_44, u_238_45, u_238_46, u_238_47, u_238_50, u_238_51, u_238_52, u_238_54, u_238_55, u_238_58, u_238_59, u_238_60, u_238_63, u_238_64, u_238_67, u_238_70, u_238_72, u_238_74, u_238_75, u_238_78, u_238_81, u_238_82, u_238_83, u_238_86, u_238_88, u_238_91, u_238_92, u_238_93, u_238_96, u_238_97, u_238_98, u_238_101, u_238_102, u_238_104, u_238_107, u_238_110, u_238_113, gI0, gIs, gR0, gRs, gF0, gFs, st0, st_i, st_r, st_f, st_n, st_s, true_and, and_true, ↓ifLeT, ↓ifLeF, ↓ifLtT, ↓ifLtF, ↓ifEqT, ↓ifEqF, if_tt, if_ff, if_pos, if_neg, nLe, nLt, nEq, nInT, nCl, pk_mul, nI_add, Nat.reduceAdd, s_cat_nil, s_cat_i, s_cat_r, s_cat_f, s_cat_l, tl_s, tl_n, cat_i, cat_r, cat_f, nb0, nb1, nbI, if_bI, if_bIr, Nat.zero_le, Nat.reduceLeDiff]
    exact K m frB2_r hb
  | succ q ih =>
    intro p m g v6 hp hg hr hb K
    have wp : wfL (jL n (putN n w t c p)) := wf_put wr hc ht nt
    have hnp : wfN (jL n (putN n w t c p)) := ⟨hn.1, hn.2.1, hn.2.2.1, wp⟩
    have epc : putN n w t c p c = insL (restN n w t c) p t := if_pos rfl
    have tm : t ∈ putN n w t c p c := by rw [epc]; exact ins_mem.mpr (Or.inl rfl)
    have hh : holdN (putN n w t c p) t = some c := hold_of wp.2.2 (by omega) tm
    have hs : spotN (putN n w t c p) t = some p := by
      unfold spotN
      rw [hh, Option.map_some, epc]
      refine congrArg some (idx_first ?_ ?_ fun j hj => ?_)
      · rw [ins_len (by omega)]; omega
      · rw [ins_getD (by omega), if_neg (by omega), if_pos rfl]
      · rw [ins_getD (by omega), if_pos hj]
        have gm := getD_mem (l := restN n w t c) (k := j) (by omega)
        intro q
        rw [q] at gm
        exact nt c gm
    rw [List.range'_succ, List.map_cons] at K
    have K : ∀ m', frB2 m m' → MB m' (nF n 2) (pickB n ((List.range' (p + 1) q).map fun j => (t, putN n w t c j)) (wbN n g (t, putN n w t c p))) → Q none (pM m' h) := K
    rw [u_238_26]
    simp (disch := omega) only [u_238_0, u_238_1, u_238_4, u_238_5, u_238_6, u_238_9, u_238_10, u_238_11, u_238_12, u_238_15, u_238_16, u_238_19, u_238_20, u_238_21, u_238_23, u_238_24, u_238_28, u_238_30, u_238_33, u_238_34, u_238_37, u_238_38, u_238_41, u_238_44, u_238_45, u_238_46, u_238_47, u_238_50, u_238_51, u_238_52, u_238_54, u_238_55, u_238_58, u_238_59, u_238_60, u_238_63, u_238_64, u_238_67, u_238_70, u_238_72, u_238_74, u_238_75, u_238_78, u_238_81, u_238_82, u_238_83, u_238_86, u_238_88, u_238_91, u_238_92, u_238_93, u_238_96, u_238_97, u_238_98, u_238_101, u_238_102, u_238_104, u_238_107, u_238_110, u_238_113, gI0, gIs, gR0, gRs, gF0, gFs, st0, st_i, st_r, st_f, st_n, st_s, true_and, and_true, ↓ifLeT, ↓ifLeF, ↓ifLtT, ↓ifLtF, ↓ifEqT, ↓ifEqF, if_tt, if_ff, if_pos, if_neg, nLe, nLt, nEq, nInT, nCl, pk_mul, nI_add, Nat.reduceAdd, s_cat_nil, s_cat_i, s_cat_r, s_cat_f, s_cat_l, tl_s, tl_n, cat_i, cat_r, cat_f, nb0, nb1, nbI, if_bI, if_bIr, Nat.zero_le, Nat.reduceLeDiff, M_g0, M_g1, M_g2, M_g3, M_g4, M_g5, M_g6, M_g7, M_g8, M_g9, M_g10, M_g11, M_g12, M_g13, M_g14, M_g15, M_g16, M_g17, M_g18, M_g19, M_g20, M_g21, M_g22, M_g23, M_g24, M_g25, M_g26, M_g27, M_g28, M_g29, M_g30, M_g31, M_g32, M_g33, M_g34, M_g35, M_g36, M_g37, M_g38, M_g39, M_g40, M_g41]
    refine r_copy rb320 rb330 (by decide) fun f hf => ?_
    simp (disch := omega) only [u_238_0, u_238_1, u_238_4, u_238_5, u_238_6, u_238_9, u_238_10, u_238_11, u_238_12, u_238_15, u_238_16, u_238_19, u_238_20, u_238_21, u_238_23, u_238_24, u_238_28, u_238_30, u_238_33, u_238_34, u_238_37, u_238_38, u_238_41, u_238_44, u_238_45, u_238_46, u_238_47, u_238_50, u_238_51, u_238_52, u_238_54, u_238_55, u_238_58, u_238_59, u_238_60, u_238_63, u_238_64, u_238_67, u_238_70, u_238_72, u_238_74, u_238_75, u_238_78, u_238_81, u_238_82, u_238_83, u_238_86, u_238_88, u_238_91, u_238_92, u_238_93, u_238_96, u_238_97, u_238_98, u_238_101, u_238_102, u_238_104, u_238_107, u_238_110, u_238_113, gI0, gIs, gR0, gRs, gF0, gFs, st0, st_i, st_r, st_f, st_n, st_s, true_and, and_true, ↓ifLeT, ↓ifLeF, ↓ifLtT, ↓ifLtF, ↓ifEqT, ↓ifEqF, if_tt, if_ff, if_pos, if_neg, nLe, nLt, nEq, nInT, nCl, pk_mul, nI_add, Nat.reduceAdd, s_cat_nil, s_cat_i, s_cat_r, s_cat_f, s_cat_l, tl_s, tl_n, cat_i, cat_r, cat_f, nb0, nb1, nbI, if_bI, if_bIr, Nat.zero_le, Nat.reduceLeDiff, M_ob]
    refine r_takes (d := d + 8) (n := n) (l := nL n) hn hw hm (by rw [kA_eq]; exact RR_cong hn hf hr) fun f2 hf2 => ?_
    rw [xA_tw]
    simp (disch := omega) only [u_238_0, u_238_1, u_238_4, u_238_5, u_238_6, u_238_9, u_238_10, u_238_11, u_238_12, u_238_15, u_238_16, u_238_19, u_238_20, u_238_21, u_238_23, u_238_24, u_238_28, u_238_30, u_238_33, u_238_34, u_238_37, u_238_38, u_238_41, u_238_44, u_238_45, u_238_46, u_238_47, u_238_50, u_238_51, u_238_52, u_238_54, u_238_55, u_238_58, u_238_59, u_238_60, u_238_63, u_238_64, u_238_67, u_238_70, u_238_72, u_238_74, u_238_75, u_238_78, u_238_81, u_238_82, u_238_83, u_238_86, u_238_88, u_238_91, u_238_92, u_238_93, u_238_96, u_238_97, u_238_98, u_238_101, u_238_102, u_238_104, u_238_107, u_238_110, u_238_113, gI0, gIs, gR0, gRs, gF0, gFs, st0, st_i, st_r, st_f, st_n, st_s, true_and, and_true, ↓ifLeT, ↓ifLeF, ↓ifLtT, ↓ifLtF, ↓ifEqT, ↓ifEqF, if_tt, if_ff, if_pos, if_neg, nLe, nLt, nEq, nInT, nCl, pk_mul, nI_add, Nat.reduceAdd, s_cat_nil, s_cat_i, s_cat_r, s_cat_f, s_cat_l, tl_s, tl_n, cat_i, cat_r, cat_f, nb0, nb1, nbI, if_bI, if_bIr, Nat.zero_le, Nat.reduceLeDiff, M_ob]
    refine r_puts (d := d + 8) (n := n) (l := restN n w t) (t := t) hnr hc (by omega) r7 (by rw [kA_eq]; exact hf2) fun f3 hf3 => ?_
    rw [xA_tw]
    have f0 : frT m (xA m 330 f3) := frT_330
    have b30 : kI m 30 = nI (valD g.1) := hb.2.1
    have vb : valD g.1 ≤ 1000000 := by have := hb.1; unfold valD; split <;> omega
    simp (disch := omega) only [u_238_0, u_238_1, u_238_4, u_238_5, u_238_6, u_238_9, u_238_10, u_238_11, u_238_12, u_238_15, u_238_16, u_238_19, u_238_20, u_238_21, u_238_23, u_238_24, u_238_28, u_238_30, u_238_33, u_238_34, u_238_37, u_238_38, u_238_41, u_238_44, u_238_45, u_238_46, u_238_47, u_238_50, u_238_51, u_238_52, u_238_54, u_238_55, u_238_58, u_238_59, u_238_60, u_238_63, u_238_64, u_238_67, u_238_70, u_238_72, u_238_74, u_238_75, u_238_78, u_238_81, u_238_82, u_238_83, u_238_86, u_238_88, u_238_91, u_238_92, u_238_93, u_238_96, u_238_97, u_238_98, u_238_101, u_238_102, u_238_104, u_238_107, u_238_110, u_238_113, gI0, gIs, gR0, gRs, gF0, gFs, st0, st_i, st_r, st_f, st_n, st_s, true_and, and_true, ↓ifLeT, ↓ifLeF, ↓ifLtT, ↓ifLtF, ↓ifEqT, ↓ifEqF, if_tt, if_ff, if_pos, if_neg, nLe, nLt, nEq, nInT, nCl, pk_mul, nI_add, Nat.reduceAdd, s_cat_nil, s_cat_i, s_cat_r, s_cat_f, s_cat_l, tl_s, tl_n, cat_i, cat_r, cat_f, nb0, nb1, nbI, if_bI, if_bIr, Nat.zero_le, Nat.reduceLeDiff, M_ob, M_g0, M_g1, M_g2, M_g3, M_g4, M_g5, M_g6, M_g7, M_g8, M_g9, M_g10, M_g11, M_g12, M_g13, M_g14, M_g15, M_g16, M_g17, M_g18, M_g19, M_g20, M_g21, M_g22, M_g23, M_g24, M_g25, M_g26, M_g27, M_g28, M_g29, M_g30, M_g31, M_g32, M_g33, M_g34, M_g35, M_g36, M_g37, M_g38, M_g39, M_g40, M_g41, kI_xI, kI_xB, kI_xA, kI_xV, kB_xI, kB_xB, kB_xA, kB_xV, kA_xI, kA_xB, kA_xA, kA_xV, kV_xI, kV_xB, kV_xA, kV_xV, Nat.reduceEqDiff, reduceIte, b30]
    refine r_last (d := d) (n := jL n (putN n w t c p)) (F := valD g.1) rb330 (by decide) hnp (MG_T hg f0) (by rw [kA_eq]; exact hf3) vb fun m1 f1 => ?_
    have ft := frT_t f0 (frT_M f1)
    have b30' : kI m1 30 = nI (valD g.1) := (f1.1 30).trans b30
    rcases lastM_K (N := jL n (putN n w t c p)) hb.1 with ⟨v, k1, k2, k3, k4⟩ | ⟨k1, k2, k3⟩
    · have ew : wbN n g (t, putN n w t c p) = (v, some (v, putN n w t c p, t)) := by unfold wbN; rw [k1]
      rw [ew] at K
      rw [k2]
      simp (disch := omega) only [u_238_0, u_238_1, u_238_4, u_238_5, u_238_6, u_238_9, u_238_10, u_238_11, u_238_12, u_238_15, u_238_16, u_238_19, u_238_20, u_238_21, u_238_23, u_238_24, u_238_28, u_238_30, u_238_33, u_238_34, u_238_37, u_238_38, u_238_41, u_238_44, u_238_45, u_238_46, u_238_47, u_238_50, u_238_51, u_238_52, u_238_54, u_238_55, u_238_58, u_238_59, u_238_60, u_238_63, u_238_64, u_238_67, u_238_70, u_238_72, u_238_74, u_238_75, u_238_78, u_238_81, u_238_82, u_238_83, u_238_86, u_238_88, u_238_91, u_238_92, u_238_93, u_238_96, u_238_97, u_238_98, u_238_101, u_238_102, u_238_104, u_238_107, u_238_110, u_238_113, gI0, gIs, gR0, gRs, gF0, gFs, st0, st_i, st_r, st_f, st_n, st_s, true_and, and_true, ↓ifLeT, ↓ifLeF, ↓ifLtT, ↓ifLtF, ↓ifEqT, ↓ifEqF, if_tt, if_ff, if_pos, if_neg, nLe, nLt, nEq, nInT, nCl, pk_mul, nI_add, Nat.reduceAdd, s_cat_nil, s_cat_i, s_cat_r, s_cat_f, s_cat_l, tl_s, tl_n, cat_i, cat_r, cat_f, nb0, nb1, nbI, if_bI, if_bIr, Nat.zero_le, Nat.reduceLeDiff, M_ob, M_g0, M_g1, M_g2, M_g3, M_g4, M_g5, M_g6, M_g7, M_g8, M_g9, M_g10, M_g11, M_g12, M_g13, M_g14, M_g15, M_g16, M_g17, M_g18, M_g19, M_g20, M_g21, M_g22, M_g23, M_g24, M_g25, M_g26, M_g27, M_g28, M_g29, M_g30, M_g31, M_g32, M_g33, M_g34, M_g35, M_g36, M_g37, M_g38, M_g39, M_g40, M_g41, b30']
      refine r_finds (d := d + 8) rb330 hnp (by rw [f1.2.2 330 (by decide) (by decide), kA_eq]; exact hf3) fun f4 hf4 => ?_
      simp (disch := omega) only [u_238_0, u_238_1, u_238_4, u_238_5, u_238_6, u_238_9, u_238_10, u_238_11, u_238_12, u_238_15, u_238_16, u_238_19, u_238_20, u_238_21, u_238_23, u_238_24, u_238_28, u_238_30, u_238_33, u_238_34, u_238_37, u_238_38, u_238_41, u_238_44, u_238_45, u_238_46, u_238_47, u_238_50, u_238_51, u_238_52, u_238_54, u_238_55, u_238_58, u_238_59, u_238_60, u_238_63, u_238_64, u_238_67, u_238_70, u_238_72, u_238_74, u_238_75, u_238_78, u_238_81, u_238_82, u_238_83, u_238_86, u_238_88, u_238_91, u_238_92, u_238_93, u_238_96, u_238_97, u_238_98, u_238_101, u_238_102, u_238_104, u_238_107, u_238_110, u_238_113, gI0, gIs, gR0, gRs, gF0, gFs, st0, st_i, st_r, st_f, st_n, st_s, true_and, and_true, ↓ifLeT, ↓ifLeF, ↓ifLtT, ↓ifLtF, ↓ifEqT, ↓ifEqF, if_tt, if_ff, if_pos, if_neg, nLe, nLt, nEq, nInT, nCl, pk_mul, nI_add, Nat.reduceAdd, s_cat_nil, s_cat_i, s_cat_r, s_cat_f, s_cat_l, tl_s, tl_n, cat_i, cat_r, cat_f, nb0, nb1, nbI, if_bI, if_bIr, Nat.zero_le, Nat.reduceLeDiff, M_s34, M_s35, M_s36]
      have fr : frB2 m (xI (xI (xI (xA (xI m1 30 (nI v)) 331 f4) 34 (nI t)) 35 (nI c)) 36 (nI p)) := frB2_t (frB2_T ft) (frB2_t (frB2_I (by decide)) (frB2_t (frB2_T frT_331) (frB2_t (frB2_I (by decide)) (frB2_t (frB2_I (by decide)) (frB2_I (by decide))))))
      refine ih (p + 1) _ (v, some (v, putN n w t c p, t)) _ (by omega) (MG_fz hg (frB2_Z fr)) (by rw [fr.2.2 320 (by decide) (by decide) (by decide) (by decide)]; exact hr) ⟨by show v ≤ 301; omega, ?_, rfl, k4, ?_, fun q => wfL_len (n := jL n (putN n w t c p)) hn.1 wp q, by omega, rfl, ?_, ?_⟩ fun m' f' mb => K m' (frB2_t fr f') mb
      · have : valD v = v := by unfold valD; rw [if_neg (by omega)]
        show nI v = nI (valD v)
        rw [this]
      · show FL f4 _ _
        exact hf4
      · rw [hh]; rfl
      · rw [hs]; rfl
    · have ew : wbN n g (t, putN n w t c p) = g := by unfold wbN; rw [k1]
      rw [ew] at K
      simp (disch := omega) only [u_238_0, u_238_1, u_238_4, u_238_5, u_238_6, u_238_9, u_238_10, u_238_11, u_238_12, u_238_15, u_238_16, u_238_19, u_238_20, u_238_21, u_238_23, u_238_24, u_238_28, u_238_30, u_238_33, u_238_34, u_238_37, u_238_38, u_238_41, u_238_44, u_238_45, u_238_46, u_238_47, u_238_50, u_238_51, u_238_52, u_238_54, u_238_55, u_238_58, u_238_59, u_238_60, u_238_63, u_238_64, u_238_67, u_238_70, u_238_72, u_238_74, u_238_75, u_238_78, u_238_81, u_238_82, u_238_83, u_238_86, u_238_88, u_238_91, u_238_92, u_238_93, u_238_96, u_238_97, u_238_98, u_238_101, u_238_102, u_238_104, u_238_107, u_238_110, u_238_113, gI0, gIs, gR0, gRs, gF0, gFs, st0, st_i, st_r, st_f, st_n, st_s, true_and, and_true, ↓ifLeT, ↓ifLeF, ↓ifLtT, ↓ifLtF, ↓ifEqT, ↓ifEqF, if_tt, if_ff, if_pos, if_neg, nLe, nLt, nEq, nInT, nCl, pk_mul, nI_add, Nat.reduceAdd, s_cat_nil, s_cat_i, s_cat_r, s_cat_f, s_cat_l, tl_s, tl_n, cat_i, cat_r, cat_f, nb0, nb1, nbI, if_bI, if_bIr, Nat.zero_le, Nat.reduceLeDiff, M_ob, M_g0, M_g1, M_g2, M_g3, M_g4, M_g5, M_g6, M_g7, M_g8, M_g9, M_g10, M_g11, M_g12, M_g13, M_g14, M_g15, M_g16, M_g17, M_g18, M_g19, M_g20, M_g21, M_g22, M_g23, M_g24, M_g25, M_g26, M_g27, M_g28, M_g29, M_g30, M_g31, M_g32, M_g33, M_g34, M_g35, M_g36, M_g37, M_g38, M_g39, M_g40, M_g41, b30']
      have fr : frB2 m m1 := frB2_T ft
      refine ih (p + 1) m1 g _ (by omega) (MG_fz hg (frB2_Z fr)) (by rw [fr.2.2 320 (by decide) (by decide) (by decide) (by decide)]; exact hr) (MB_fr hb (fun k _ => f1.1 k) (f1.2.2 331 (by decide) (by decide))) fun m' f' mb => K m' (frB2_t fr f') mb
theorem r_triesP {w t c : Nat} {g : tB} (hn : wfN n) (hw : w < nF n 2) (hc : c < nF n 2) (ht : t < nF n 3) (hm : t ∈ nL n w) (hg : MG m n) (hr : RR (kA m 320) n) (hb : MB m (nF n 2) g) (K : ∀ m', frB2 m m' → MB m' (nF n 2) (pickB n ((List.range ((restN n w t c).length + 1)).map fun j => (t, putN n w t c j)) g) → Q none (pM m' h)) : MT (d + 11) 238 [.ref 317, .int (nI t), .int (nI w), .int (nI c)] (pM m h) Q := by
  have h4 := hn.1.1
  have ln := (hr.2.2.1 c hc).2.2.2.1
  have rc := rest_c (c := c) hm
  rw [MT_go (by decide) _ _ _ (Nat.le_of_ble_eq_true rfl), show s_entry 238 [.ref 317, .int (nI t), .int (nI w), .int (nI c)] = [.ref 317, .int (nI t), .int (nI w), .int (nI c), s_no, s_no, s_no] from rfl]
  rw [List.range_eq_range'] at K
  have go := fun v6 => r_tries (d := d) (h := h) (Q := Q) (c := c) hn hw hc ht hm ((restN n w t c).length + 1) 0 m g v6 (Nat.zero_add _) hg hr hb K
  by_cases e : c = w
  · rw [if_pos e] at rc
    have l1 : 1 ≤ (nL n c).length := by rw [e]; exact List.length_pos_of_mem hm
    have sb : nI (nL n c).length - nI 1 = nI (restN n w t c).length := by rw [pk_sub l1, rc]
    have ec : nI c = nI w := by rw [e]
    simp (disch := omega) only [u_238_0, u_238_1, u_238_4, u_238_5, u_238_6, u_238_9, u_238_10, u_238_11, u_238_12, u_238_15, u_238_16, u_238_19, u_238_20, u_238_21, u_238_23, u_238_24, gI0, gIs, gR0, gRs, gF0, gFs, st0, st_i, st_r, st_f, st_n, st_s, true_and, and_true, ↓ifLeT, ↓ifLeF, ↓ifLtT, ↓ifLtF, ↓ifEqT, ↓ifEqF, if_tt, if_ff, if_pos, if_neg, nLe, nLt, nEq, nInT, nCl, pk_mul, nI_add, Nat.reduceAdd, s_cat_nil, s_cat_i, s_cat_r, s_cat_f, s_cat_l, tl_s, tl_n, cat_i, cat_r, cat_f, nb0, nb1, nbI, if_bI, if_bIr, Nat.zero_le, Nat.reduceLeDiff, M_g0, M_g1, M_g2, M_g3, M_g4, M_g5, M_g6, M_g7, M_g8, M_g9, M_g10, M_g11, M_g12, M_g13, M_g14, M_g15, M_g16, M_g17, M_g18, M_g19, M_g20, M_g21, M_g22, M_g23, M_g24, M_g25, M_g26, M_g27, M_g28, M_g29, M_g30, M_g31, M_g32, M_g33, M_g34, M_g35, M_g36, M_g37, M_g38, M_g39, M_g40, M_g41, m_cAt, M_r rb320, ln, sb]
    exact go _
  · rw [if_neg e] at rc
    have sb : nI (nL n c).length - nI 0 = nI (restN n w t c).length := by rw [pk_sub (Nat.zero_le _), rc]
    simp (disch := omega) only [u_238_0, u_238_1, u_238_4, u_238_5, u_238_6, u_238_9, u_238_10, u_238_11, u_238_12, u_238_15, u_238_16, u_238_19, u_238_20, u_238_21, u_238_23, u_238_24, gI0, gIs, gR0, gRs, gF0, gFs, st0, st_i, st_r, st_f, st_n, st_s, true_and, and_true, ↓ifLeT, ↓ifLeF, ↓ifLtT, ↓ifLtF, ↓ifEqT, ↓ifEqF, if_tt, if_ff, if_pos, if_neg, nLe, nLt, nEq, nInT, nCl, pk_mul, nI_add, Nat.reduceAdd, s_cat_nil, s_cat_i, s_cat_r, s_cat_f, s_cat_l, tl_s, tl_n, cat_i, cat_r, cat_f, nb0, nb1, nbI, if_bI, if_bIr, Nat.zero_le, Nat.reduceLeDiff, M_g0, M_g1, M_g2, M_g3, M_g4, M_g5, M_g6, M_g7, M_g8, M_g9, M_g10, M_g11, M_g12, M_g13, M_g14, M_g15, M_g16, M_g17, M_g18, M_g19, M_g20, M_g21, M_g22, M_g23, M_g24, M_g25, M_g26, M_g27, M_g28, M_g29, M_g30, M_g31, M_g32, M_g33, M_g34, M_g35, M_g36, M_g37, M_g38, M_g39, M_g40, M_g41, m_cAt, M_r rb320, ln, sb]
    exact go _
end MBU
