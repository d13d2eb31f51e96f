/-! the reference's zones -/
def OS (m : tM) (ord : List Nat) : Prop := kI m 33 = nI ord.length ∧ ∀ k, k < ord.length → kA m 332 k = nI (ord.getD k 0)
theorem OS_T {m m' : tM} {ord : List Nat} (h : OS m ord) (hf : frT m m') : OS m' ord := ⟨(hf.1 33 (by decide)).trans h.1, fun k hk => by rw [hf.2.2 332 (by decide) (by decide) (by decide) (by decide)]; exact h.2 k hk⟩
section MZN
variable {b d : Nat} {m : tM} {h : sH} {x y w c : Int32} {Q : sQ} {n : tN} {z : tQ} {l : tL} {g : tG} {ord : List Nat}
theorem r_cuts (hn : wfN n) (hod : ord.Nodup) (hoT : ∀ t, t ∈ ord → t < nF n 3) (ho8 : ord.length ≤ 8) : ∀ k c st l g m d Q, c + k = nF n 2 → st ≤ ord.length → OS m ord → MG m n → RR (kA m 320) n → wfL (jL n l) → (∀ t, t ∈ ord.drop st → ∀ q, ¬ t ∈ l q) → (∀ q, c ≤ q → l q = []) → RR (kA m 330) (jL n l) → MF m (nF n 2) g → (∀ m', frT m m' → RR (kA m' 330) (jL n l) → MF m' (nF n 2) (pickN n (cutN n k c (ord.drop st) l) g) → Q none (pM m' h)) → MT (d + k + 12) 233 [.ref 317, .int (nI c), .int (nI st)] (pM m h) Q := by
  intro k
  have h4 := hn.1.1
  have h8 := hn.1.2.1
  induction k with
  | zero =>
    intro c st l g m d Q hk hst ho hg hr hw hf he hr3 hm K
    have g10 := hg.2.2.1
    have o33 := ho.1
    have e : c = nF n 2 := by omega
    subst e
    rw [MT_go (by decide) _ _ _ (Nat.le_of_ble_eq_true rfl), show s_entry 233 [.ref 317, .int (nI (nF n 2)), .int (nI st)] = [.ref 317, .int (nI (nF n 2)), .int (nI st), s_no] from rfl]
    by_cases hs : st = ord.length
    · subst hs
      have hd : ord.drop ord.length = [] := List.drop_of_length_le (Nat.le_refl _)
      simp (disch := omega) only [u_233_0, u_233_1, u_233_2, u_233_5, u_233_8, u_233_9, u_233_10, u_233_13, u_233_16, u_233_17, u_233_20, gI0, gIs, gR0, gRs, gF0, gFs, st0, st_i, st_r, st_f, st_n, st_s, true_and, and_true, ↓ifLeT, ↓ifLeF, ↓ifLtT, ↓ifLtF, ↓ifEqT, ↓ifEqF, if_tt, if_ff, if_pos, if_neg, nLe, nLt, nEq, nInT, nCl, pk_mul, nI_add, Nat.reduceAdd, s_cat_nil, s_cat_i, s_cat_r, s_cat_f, s_cat_l, tl_s, tl_n, cat_i, cat_r, cat_f, nb0, nb1, nbI, if_bI, if_bIr, Nat.zero_le, Nat.reduceLeDiff, M_ob, M_g0, M_g1, M_g2, M_g3, M_g4, M_g5, M_g6, M_g7, M_g8, M_g9, M_g10, M_g11, M_g12, M_g13, M_g14, M_g15, M_g16, M_g17, M_g18, M_g19, M_g20, M_g21, M_g22, M_g23, M_g24, M_g25, M_g26, M_g27, M_g28, M_g29, M_g30, M_g31, M_g32, M_g33, M_g34, M_g35, M_g36, M_g37, M_g38, M_g39, M_g40, M_g41, g10, o33]
      refine r_judges (d := d) (l := l) ⟨hn.1, hn.2.1, hn.2.2.1, hw⟩ hg hr3 hm fun m' f1 e1 f2 => ?_
      simp (disch := omega) only [u_233_0, u_233_1, u_233_2, u_233_5, u_233_8, u_233_9, u_233_10, u_233_13, u_233_16, u_233_17, u_233_20, gI0, gIs, gR0, gRs, gF0, gFs, st0, st_i, st_r, st_f, st_n, st_s, true_and, and_true, ↓ifLeT, ↓ifLeF, ↓ifLtT, ↓ifLtF, ↓ifEqT, ↓ifEqF, if_tt, if_ff, if_pos, if_neg, nLe, nLt, nEq, nInT, nCl, pk_mul, nI_add, Nat.reduceAdd, s_cat_nil, s_cat_i, s_cat_r, s_cat_f, s_cat_l, tl_s, tl_n, cat_i, cat_r, cat_f, nb0, nb1, nbI, if_bI, if_bIr, Nat.zero_le, Nat.reduceLeDiff]
      refine K m' f1 (by rw [e1]; exact hr3) ?_
      rw [hd]
      exact f2
    · have hd : (ord.drop st).isEmpty = false := by
        rw [List.drop_eq_getElem_cons (by omega)]
        rfl
      have ns : ¬ nI st = nI ord.length := fun q => hs ((nI_eq (by omega) (by omega)).mp q)
      simp (disch := omega) only [u_233_0, u_233_1, u_233_2, u_233_5, u_233_8, u_233_9, u_233_10, u_233_13, u_233_16, u_233_17, u_233_20, gI0, gIs, gR0, gRs, gF0, gFs, st0, st_i, st_r, st_f, st_n, st_s, true_and, and_true, ↓ifLeT, ↓ifLeF, ↓ifLtT, ↓ifLtF, ↓ifEqT, ↓ifEqF, if_tt, if_ff, if_pos, if_neg, nLe, nLt, nEq, nInT, nCl, pk_mul, nI_add, Nat.reduceAdd, s_cat_nil, s_cat_i, s_cat_r, s_cat_f, s_cat_l, tl_s, tl_n, cat_i, cat_r, cat_f, nb0, nb1, nbI, if_bI, if_bIr, Nat.zero_le, Nat.reduceLeDiff, M_ob, M_g0, M_g1, M_g2, M_g3, M_g4, M_g5, M_g6, M_g7, M_g8, M_g9, M_g10, M_g11, M_g12, M_g13, M_g14, M_g15, M_g16, M_g17, M_g18, M_g19, M_g20, M_g21, M_g22, M_g23, M_g24, M_g25, M_g26, M_g27, M_g28, M_g29, M_g30, M_g31, M_g32, M_g33, M_g34, M_g35, M_g36, M_g37, M_g38, M_g39, M_g40, M_g41, g10, o33, ns]
      refine K m frT_r hr3 ?_
      rw [cutN, hd]
      exact hm
  | succ k ih =>
    intro c st l g m d Q hk hst ho hg hr hw hf he hr3 hm K
    have g10 := hg.2.2.1
    have hcC : c < nF n 2 := by omega
    have nc : ¬ nI c = nI (nF n 2) := fun q => by have := (nI_eq (by omega) (by omega)).mp q; omega
    have lc : l c = [] := he c (Nat.le_refl _)
    have hl8 : ∀ q, (l q).length ≤ 8 := fun q => wfL_len (n := jL n l) hn.1 hw q
    have hz : ∀ (f : Nat → Int32) (x : List Nat), (∀ q, (setL l c x q).length ≤ 8) → RR f (jL n (setL l c x)) → RR (upd f (2 + 12 * c + 3) (nI 0)) (jL n l) := fun f x hx8 hx => RR_L (c := c) h4 hx8 hx (fun j hj => by rw [upd_ne (by omega)]) (fun q hq => by unfold setL; rw [if_neg hq]) hcC ⟨by rw [lc]; exact if_pos rfl, fun i hi => by rw [lc] at hi; exact absurd hi (Nat.not_lt_zero i)⟩
    have sl : setL l c [] = l := by
      funext q
      unfold setL
      by_cases e : q = c
      · rw [if_pos e, e, lc]
      · rw [if_neg e]
    show MT (d + k + 12 + 1) _ _ _ _
    rw [MT_go (by decide) _ _ _ (Nat.le_of_ble_eq_true rfl), show s_entry 233 [.ref 317, .int (nI c), .int (nI st)] = [.ref 317, .int (nI c), .int (nI st), s_no] from rfl]
    rw [cutN] at K
    simp only [pick_app] at K
    have lp : ∀ q x m3 g3, st + x.length + q = ord.length → frT m m3 → wfL (jL n (setL l c x)) → (∀ t, t ∈ ord.drop (st + x.length) → ∀ q, ¬ t ∈ setL l c x q) → RR (kA m3 330) (jL n (setL l c x)) → MF m3 (nF n 2) g3 → (∀ m', frT m m' → RR (kA m' 330) (jL n l) → MF m' (nF n 2) (pickN n (if nK n c then [] else cutG n (cutN n k (c + 1)) c (ord.drop (st + x.length)) (setL l c x)) g3) → Q none (pM m' h)) → WP (d + k + 12) 233 42 [.ref 317, .int (nI c), .int (nI st), .int (nI x.length)] [] (pM m3 h) (0, 0) Q := by
      intro q
      induction q with
      | zero =>
        intro x m3 g3 hx f3 hw3 hf3 r3 hm3 K
        have x8 : ∀ q, (setL l c x q).length ≤ 8 := fun q => wfL_len (n := jL n (setL l c x)) hn.1 hw3 q
        have o33 := (OS_T ho f3).1
        have hd : ord.drop (st + x.length) = [] := List.drop_of_length_le (by omega)
        rw [u_233_42]
        simp (disch := omega) only [u_233_0, u_233_1, u_233_2, u_233_5, u_233_8, u_233_9, u_233_10, u_233_13, u_233_16, u_233_17, u_233_20, u_233_21, u_233_22, u_233_25, u_233_26, u_233_27, u_233_30, u_233_31, u_233_32, u_233_33, u_233_34, u_233_35, u_233_36, u_233_37, u_233_40, u_233_41, u_233_43, u_233_44, u_233_45, u_233_46, u_233_49, u_233_52, u_233_53, u_233_56, u_233_57, u_233_58, u_233_61, u_233_62, u_233_65, u_233_66, u_233_67, u_233_68, u_233_71, u_233_72, u_233_73, u_233_74, u_233_75, u_233_78, u_233_81, u_233_82, u_233_85, u_233_86, u_233_87, u_233_88, u_233_89, u_233_92, u_233_93, u_233_96, u_233_97, u_233_98, u_233_99, u_233_100, u_233_101, u_233_104, u_233_105, u_233_108, u_233_109, u_233_110, u_233_113, u_233_114, u_233_115, u_233_116, u_233_117, u_233_118, u_233_119, u_233_120, u_233_121, u_233_122, u_233_125, u_233_128, u_233_129, u_233_132, u_233_133, u_233_134, u_233_137, u_233_138, u_233_139, gI0, gIs, gR0, gRs, gF0, gFs, st0, st_i, st_r, st_f, st_n, st_s, true_and, and_true, ↓ifLeT, ↓ifLeF, ↓ifLtT, ↓ifLtF, ↓ifEqT, ↓ifEqF, if_tt, if_ff, if_pos, if_neg, nLe, nLt, nEq, nInT, nCl, pk_mul, nI_add, Nat.reduceAdd, s_cat_nil, s_cat_i, s_cat_r, s_cat_f, s_cat_l, tl_s, tl_n, cat_i, cat_r, cat_f, nb0, nb1, nbI, if_bI, if_bIr, Nat.zero_le, Nat.reduceLeDiff, M_g0, M_g1, M_g2, M_g3, M_g4, M_g5, M_g6, M_g7, M_g8, M_g9, M_g10, M_g11, M_g12, M_g13, M_g14, M_g15, M_g16, M_g17, M_g18, M_g19, M_g20, M_g21, M_g22, M_g23, M_g24, M_g25, M_g26, M_g27, M_g28, M_g29, M_g30, M_g31, M_g32, M_g33, M_g34, M_g35, M_g36, M_g37, M_g38, M_g39, M_g40, M_g41, o33, m_cAt, M_rw rb330]
        refine K _ (frT_t f3 frT_330) (by rw [kA_eq]; exact hz _ x x8 r3) (MF_fr ?_ rfl (kA_ne (by decide)))
        rw [hd]
        cases nK n c <;> exact hm3
      | succ q ihq =>
        intro x m3 g3 hx f3 hw3 hf3 r3 hm3 K
        have x8 : ∀ q, (setL l c x q).length ≤ 8 := fun q => wfL_len (n := jL n (setL l c x)) hn.1 hw3 q
        obtain ⟨o33, o32⟩ := OS_T ho f3
        have hj : st + x.length < ord.length := by omega
        have oj := o32 _ hj
        have hdr := List.drop_eq_getElem_cons hj
        have ge := getD_of hj
        have htm := getD_mem hj
        have ht := hoT _ htm
        have bk : kA m3 330 (2 + 12 * c + 1) = iB (nK n c) := (r3.2.2.1 c hcC).2.1
        have i1 : vp_in (nI (st + x.length)) 8 := (nIn (by omega)).mpr (by omega)
        have c1 : (nI (st + x.length)).toNatClampNeg = st + x.length := nCl (by omega)
        rw [u_233_42]
        cases hk' : nK n c with
        | true =>
          rw [hk'] at bk
          simp only [hk', if_true] at K
          simp (disch := omega) only [u_233_0, u_233_1, u_233_2, u_233_5, u_233_8, u_233_9, u_233_10, u_233_13, u_233_16, u_233_17, u_233_20, u_233_21, u_233_22, u_233_25, u_233_26, u_233_27, u_233_30, u_233_31, u_233_32, u_233_33, u_233_34, u_233_35, u_233_36, u_233_37, u_233_40, u_233_41, u_233_43, u_233_44, u_233_45, u_233_46, u_233_49, u_233_52, u_233_53, u_233_56, u_233_57, u_233_58, u_233_61, u_233_62, u_233_65, u_233_66, u_233_67, u_233_68, u_233_71, u_233_72, u_233_73, u_233_74, u_233_75, u_233_78, u_233_81, u_233_82, u_233_85, u_233_86, u_233_87, u_233_88, u_233_89, u_233_92, u_233_93, u_233_96, u_233_97, u_233_98, u_233_99, u_233_100, u_233_101, u_233_104, u_233_105, u_233_108, u_233_109, u_233_110, u_233_113, u_233_114, u_233_115, u_233_116, u_233_117, u_233_118, u_233_119, u_233_120, u_233_121, u_233_122, u_233_125, u_233_128, u_233_129, u_233_132, u_233_133, u_233_134, u_233_137, u_233_138, u_233_139, gI0, gIs, gR0, gRs, gF0, gFs, st0, st_i, st_r, st_f, st_n, st_s, true_and, and_true, ↓ifLeT, ↓ifLeF, ↓ifLtT, ↓ifLtF, ↓ifEqT, ↓ifEqF, if_tt, if_ff, if_pos, if_neg, nLe, nLt, nEq, nInT, nCl, pk_mul, nI_add, Nat.reduceAdd, s_cat_nil, s_cat_i, s_cat_r, s_cat_f, s_cat_l, tl_s, tl_n, cat_i, cat_r, cat_f, nb0, nb1, nbI, if_bI, if_bIr, Nat.zero_le, Nat.reduceLeDiff, M_g0, M_g1, M_g2, M_g3, M_g4, M_g5, M_g6, M_g7, M_g8, M_g9, M_g10, M_g11, M_g12, M_g13, M_g14, M_g15, M_g16, M_g17, M_g18, M_g19, M_g20, M_g21, M_g22, M_g23, M_g24, M_g25, M_g26, M_g27, M_g28, M_g29, M_g30, M_g31, M_g32, M_g33, M_g34, M_g35, M_g36, M_g37, M_g38, M_g39, M_g40, M_g41, o33, m_cAt, M_r rb330, M_rw rb330, bk, iBt, nI10, reduceIte]
          exact K _ (frT_t f3 frT_330) (by rw [kA_eq]; exact hz _ x x8 r3) (MF_fr hm3 rfl (kA_ne (by decide)))
        | false =>
          rw [hk'] at bk
          simp only [hk', Bool.false_eq_true, if_false] at K
          have e1 := fun Q => r_lift (d := d + k + 10) (h := h) (Q := Q) (c := c) (t := ord.getD (st + x.length) 0) hn (MG_T hg f3) (RR_T hr f3) hcC ht
          rw [hdr, ← ge] at K hf3
          cases hl : nLift n c (ord.getD (st + x.length) 0) with
          | false =>
            rw [hl] at e1
            rw [cutG, hl] at K
            simp (disch := omega) only [u_233_0, u_233_1, u_233_2, u_233_5, u_233_8, u_233_9, u_233_10, u_233_13, u_233_16, u_233_17, u_233_20, u_233_21, u_233_22, u_233_25, u_233_26, u_233_27, u_233_30, u_233_31, u_233_32, u_233_33, u_233_34, u_233_35, u_233_36, u_233_37, u_233_40, u_233_41, u_233_43, u_233_44, u_233_45, u_233_46, u_233_49, u_233_52, u_233_53, u_233_56, u_233_57, u_233_58, u_233_61, u_233_62, u_233_65, u_233_66, u_233_67, u_233_68, u_233_71, u_233_72, u_233_73, u_233_74, u_233_75, u_233_78, u_233_81, u_233_82, u_233_85, u_233_86, u_233_87, u_233_88, u_233_89, u_233_92, u_233_93, u_233_96, u_233_97, u_233_98, u_233_99, u_233_100, u_233_101, u_233_104, u_233_105, u_233_108, u_233_109, u_233_110, u_233_113, u_233_114, u_233_115, u_233_116, u_233_117, u_233_118, u_233_119, u_233_120, u_233_121, u_233_122, u_233_125, u_233_128, u_233_129, u_233_132, u_233_133, u_233_134, u_233_137, u_233_138, u_233_139, gI0, gIs, gR0, gRs, gF0, gFs, st0, st_i, st_r, st_f, st_n, st_s, true_and, and_true, ↓ifLeT, ↓ifLeF, ↓ifLtT, ↓ifLtF, ↓ifEqT, ↓ifEqF, if_tt, if_ff, if_pos, if_neg, nLe, nLt, nEq, nInT, nCl, pk_mul, nI_add, Nat.reduceAdd, s_cat_nil, s_cat_i, s_cat_r, s_cat_f, s_cat_l, tl_s, tl_n, cat_i, cat_r, cat_f, nb0, nb1, nbI, if_bI, if_bIr, Nat.zero_le, Nat.reduceLeDiff, M_ob, M_g0, M_g1, M_g2, M_g3, M_g4, M_g5, M_g6, M_g7, M_g8, M_g9, M_g10, M_g11, M_g12, M_g13, M_g14, M_g15, M_g16, M_g17, M_g18, M_g19, M_g20, M_g21, M_g22, M_g23, M_g24, M_g25, M_g26, M_g27, M_g28, M_g29, M_g30, M_g31, M_g32, M_g33, M_g34, M_g35, M_g36, M_g37, M_g38, M_g39, M_g40, M_g41, o33, m_cAt, M_r rb330, M_rw rb330, M_a332, bk, iBf, i1, c1, oj, e1]
            exact K _ (frT_t f3 frT_330) (by rw [kA_eq]; exact hz _ x x8 r3) (MF_fr hm3 rfl (kA_ne (by decide)))
          | true =>
            rw [hl] at e1
            rw [cutG, hl, if_pos rfl] at K
            simp only [pick_app] at K
            have hfresh := hf3 _ List.mem_cons_self
            have w2 := wfL_app hw3 (c := c) (by omega) ht hfresh
            have ea : appF (setL l c x) c (ord.getD (st + x.length) 0) = setL l c (x ++ [ord.getD (st + x.length) 0]) := setL_app
            have lx : (x ++ [ord.getD (st + x.length) 0]).length = x.length + 1 := by rw [List.length_append]; rfl
            have at0 : setL l c x c = x := if_pos rfl
            have l7 : (setL l c x c).length ≤ 7 := by
              have := wfL_len (n := jL n (appF (setL l c x) c (ord.getD (st + x.length) 0))) hn.1 w2 c
              have : (appF (setL l c x) c (ord.getD (st + x.length) 0) c).length ≤ 8 := this
              rw [app_at, List.length_append] at this
              have : (setL l c x c).length + 1 ≤ 8 := this
              omega
            have ra := RR_app (t := ord.getD (st + x.length) 0) h4 x8 l7 hcC r3
            rw [at0] at ra l7
            have f2 : ∀ t, t ∈ ord.drop (st + (x ++ [ord.getD (st + x.length) 0]).length) → ∀ q, ¬ t ∈ setL l c (x ++ [ord.getD (st + x.length) 0]) q := by
              rw [lx]
              intro t ht q hq
              have h0 := hf3 t (List.mem_cons_of_mem _ ht) q
              have hnd : (ord.drop (st + x.length)).Nodup := hod.sublist (List.drop_sublist _ ord)
              rw [hdr, ← ge] at hnd
              have hne : t ≠ ord.getD (st + x.length) 0 := fun e => (List.nodup_cons.mp hnd).1 (e ▸ ht)
              unfold setL at hq h0
              by_cases e : q = c
              · rw [if_pos e] at hq h0
                rw [List.mem_append, List.mem_singleton] at hq
                rcases hq with hq | hq
                · exact h0 hq
                · exact hne hq
              · rw [if_neg e] at hq h0
                exact h0 hq
            simp (disch := omega) only [u_233_0, u_233_1, u_233_2, u_233_5, u_233_8, u_233_9, u_233_10, u_233_13, u_233_16, u_233_17, u_233_20, u_233_21, u_233_22, u_233_25, u_233_26, u_233_27, u_233_30, u_233_31, u_233_32, u_233_33, u_233_34, u_233_35, u_233_36, u_233_37, u_233_40, u_233_41, u_233_43, u_233_44, u_233_45, u_233_46, u_233_49, u_233_52, u_233_53, u_233_56, u_233_57, u_233_58, u_233_61, u_233_62, u_233_65, u_233_66, u_233_67, u_233_68, u_233_71, u_233_72, u_233_73, u_233_74, u_233_75, u_233_78, u_233_81, u_233_82, u_233_85, u_233_86, u_233_87, u_233_88, u_233_89, u_233_92, u_233_93, u_233_96, u_233_97, u_233_98, u_233_99, u_233_100, u_233_101, u_233_104, u_233_105, u_233_108, u_233_109, u_233_110, u_233_113, u_233_114, u_233_115, u_233_116, u_233_117, u_233_118, u_233_119, u_233_120, u_233_121, u_233_122, u_233_125, u_233_128, u_233_129, u_233_132, u_233_133, u_233_134, u_233_137, u_233_138, u_233_139, gI0, gIs, gR0, gRs, gF0, gFs, st0, st_i, st_r, st_f, st_n, st_s, true_and, and_true, ↓ifLeT, ↓ifLeF, ↓ifLtT, ↓ifLtF, ↓ifEqT, ↓ifEqF, if_tt, if_ff, if_pos, if_neg, nLe, nLt, nEq, nInT, nCl, pk_mul, nI_add, Nat.reduceAdd, s_cat_nil, s_cat_i, s_cat_r, s_cat_f, s_cat_l, tl_s, tl_n, cat_i, cat_r, cat_f, nb0, nb1, nbI, if_bI, if_bIr, Nat.zero_le, Nat.reduceLeDiff, M_ob, M_g0, M_g1, M_g2, M_g3, M_g4, M_g5, M_g6, M_g7, M_g8, M_g9, M_g10, M_g11, M_g12, M_g13, M_g14, M_g15, M_g16, M_g17, M_g18, M_g19, M_g20, M_g21, M_g22, M_g23, M_g24, M_g25, M_g26, M_g27, M_g28, M_g29, M_g30, M_g31, M_g32, M_g33, M_g34, M_g35, M_g36, M_g37, M_g38, M_g39, M_g40, M_g41, kI_xI, kI_xB, kI_xA, kI_xV, kB_xI, kB_xB, kB_xA, kB_xV, kA_xI, kA_xB, kA_xA, kA_xV, kV_xI, kV_xB, kV_xA, kV_xV, Nat.reduceEqDiff, reduceIte, o33, m_cAt, M_r rb330, M_rw rb330, M_a332, bk, iBf, iBt, nI10, i1, c1, oj, e1, kA_eq, xA_tw]
            rw [ea] at ra w2 K
            have f30 : frT m3 (xA m3 330 (upd (upd (kA m3 330) (2 + 12 * c + (4 + x.length)) (nI (ord.getD (st + x.length) 0))) (2 + 12 * c + 3) (nI (x.length + 1)))) := frT_330
            refine ih (c + 1) (st + (x.length + 1)) (setL l c (x ++ [ord.getD (st + x.length) 0])) g3 _ d _ (by omega) (by omega) (OS_T ho (frT_t f3 f30)) (MG_T hg (frT_t f3 f30)) (RR_T hr (frT_t f3 f30)) w2 (by rw [← lx]; exact f2) (fun q hq => by unfold setL; rw [if_neg (by omega)]; exact he q (by omega)) (by rw [kA_eq]; exact ra) (MF_fr hm3 rfl (kA_ne (by decide))) fun m4 f4 r4 hm4 => ?_
            simp (disch := omega) only [u_233_0, u_233_1, u_233_2, u_233_5, u_233_8, u_233_9, u_233_10, u_233_13, u_233_16, u_233_17, u_233_20, u_233_21, u_233_22, u_233_25, u_233_26, u_233_27, u_233_30, u_233_31, u_233_32, u_233_33, u_233_34, u_233_35, u_233_36, u_233_37, u_233_40, u_233_41, u_233_43, u_233_44, u_233_45, u_233_46, u_233_49, u_233_52, u_233_53, u_233_56, u_233_57, u_233_58, u_233_61, u_233_62, u_233_65, u_233_66, u_233_67, u_233_68, u_233_71, u_233_72, u_233_73, u_233_74, u_233_75, u_233_78, u_233_81, u_233_82, u_233_85, u_233_86, u_233_87, u_233_88, u_233_89, u_233_92, u_233_93, u_233_96, u_233_97, u_233_98, u_233_99, u_233_100, u_233_101, u_233_104, u_233_105, u_233_108, u_233_109, u_233_110, u_233_113, u_233_114, u_233_115, u_233_116, u_233_117, u_233_118, u_233_119, u_233_120, u_233_121, u_233_122, u_233_125, u_233_128, u_233_129, u_233_132, u_233_133, u_233_134, u_233_137, u_233_138, u_233_139, gI0, gIs, gR0, gRs, gF0, gFs, st0, st_i, st_r, st_f, st_n, st_s, true_and, and_true, ↓ifLeT, ↓ifLeF, ↓ifLtT, ↓ifLtF, ↓ifEqT, ↓ifEqF, if_tt, if_ff, if_pos, if_neg, nLe, nLt, nEq, nInT, nCl, pk_mul, nI_add, Nat.reduceAdd, s_cat_nil, s_cat_i, s_cat_r, s_cat_f, s_cat_l, tl_s, tl_n, cat_i, cat_r, cat_f, nb0, nb1, nbI, if_bI, if_bIr, Nat.zero_le, Nat.reduceLeDiff]
            rw [← lx]
            refine ihq (x ++ [ord.getD (st + x.length) 0]) m4 _ (by rw [lx]; omega) (frT_t f3 (frT_t f30 f4)) w2 f2 r4 hm4 fun m' f' r' hm' => K m' f' r' ?_
            simp only [hk', Bool.false_eq_true, if_false, lx] at hm'
            exact hm'
    simp (disch := omega) only [u_233_0, u_233_1, u_233_2, u_233_5, u_233_8, u_233_9, u_233_10, u_233_13, u_233_16, u_233_17, u_233_20, u_233_21, u_233_22, u_233_25, u_233_26, u_233_27, u_233_30, u_233_31, u_233_32, u_233_33, u_233_34, u_233_35, u_233_36, u_233_37, gI0, gIs, gR0, gRs, gF0, gFs, st0, st_i, st_r, st_f, st_n, st_s, true_and, and_true, ↓ifLeT, ↓ifLeF, ↓ifLtT, ↓ifLtF, ↓ifEqT, ↓ifEqF, if_tt, if_ff, if_pos, if_neg, nLe, nLt, nEq, nInT, nCl, pk_mul, nI_add, Nat.reduceAdd, s_cat_nil, s_cat_i, s_cat_r, s_cat_f, s_cat_l, tl_s, tl_n, cat_i, cat_r, cat_f, nb0, nb1, nbI, if_bI, if_bIr, Nat.zero_le, Nat.reduceLeDiff, M_ob, M_g0, M_g1, M_g2, M_g3, M_g4, M_g5, M_g6, M_g7, M_g8, M_g9, M_g10, M_g11, M_g12, M_g13, M_g14, M_g15, M_g16, M_g17, M_g18, M_g19, M_g20, M_g21, M_g22, M_g23, M_g24, M_g25, M_g26, M_g27, M_g28, M_g29, M_g30, M_g31, M_g32, M_g33, M_g34, M_g35, M_g36, M_g37, M_g38, M_g39, M_g40, M_g41, g10, nc, m_cAt, M_rw rb330]
    have f30 : frT m (xA m 330 (upd (kA m 330) (2 + 12 * c + 3) (nI 0))) := frT_330
    have r30 : RR (upd (kA m 330) (2 + 12 * c + 3) (nI 0)) (jL n l) := hz _ [] (by rw [sl]; exact hl8) (by rw [sl]; exact hr3)
    refine ih (c + 1) st l g _ d _ (by omega) hst (OS_T ho f30) (MG_T hg f30) (RR_T hr f30) hw hf (fun q hq => he q (by omega)) (by rw [kA_eq]; exact r30) (MF_fr hm rfl (kA_ne (by decide))) fun m1 f1 r1 hm1 => ?_
    simp (disch := omega) only [u_233_37, u_233_40, u_233_41, gI0, gIs, gR0, gRs, gF0, gFs, st0, st_i, st_r, st_f, st_n, st_s, true_and, and_true, ↓ifLeT, ↓ifLeF, ↓ifLtT, ↓ifLtF, ↓ifEqT, ↓ifEqF, if_tt, if_ff, if_pos, if_neg, nLe, nLt, nEq, nInT, nCl, pk_mul, nI_add, Nat.reduceAdd, s_cat_nil, s_cat_i, s_cat_r, s_cat_f, s_cat_l, tl_s, tl_n, cat_i, cat_r, cat_f, nb0, nb1, nbI, if_bI, if_bIr, Nat.zero_le, Nat.reduceLeDiff]
    refine lp (ord.length - st) [] m1 _ (by simp only [List.length_nil]; omega) (frT_t f30 f1) (by rw [sl]; exact hw) (by rw [sl]; exact hf) (by rw [sl]; exact r1) hm1 ?_
    rw [sl]
    exact K
def fr33 (m m' : tM) : Prop := (∀ k, k ≠ 33 → kI m' k = kI m k) ∧ kB m' = kB m ∧ ∀ q, q ≠ 332 → kA m' q = kA m q
theorem OS_put {t : Nat} (h : OS m ord) : OS (xI (xA m 332 (upd (kA m 332) ord.length (nI t))) 33 (nI (ord.length + 1))) (ord ++ [t]) := by
  refine ⟨by rw [List.length_append]; rfl, fun k hk => ?_⟩
  have hk : k < ord.length + 1 := by rw [List.length_append] at hk; exact hk
  show upd (kA m 332) ord.length (nI t) k = _
  by_cases e : k = ord.length
  · subst e
    rw [List.getD_eq_getElem?_getD, List.getElem?_append_right (Nat.le_refl _), Nat.sub_self]
    exact if_pos rfl
  · rw [upd_ne e, List.getD_eq_getElem?_getD, List.getElem?_append_left (by omega), ← List.getD_eq_getElem?_getD]
    exact h.2 k (by omega)
theorem sorts_in {bb : Nat} (hn : wfN n) (hr : RR (kA m 320) n) (hb : bb < nF n 0) : ∀ q t P m1, t + q = nF n 3 → fr33 m m1 → (P ++ (List.range' t q).filter (fun t => !nDone n t && decide (nA n 12 t = bb))).length ≤ 8 → OS m1 P → (∀ m', fr33 m m' → OS m' (P ++ (List.range' t q).filter (fun t => !nDone n t && decide (nA n 12 t = bb))) → WP (d + 2) 232 79 [.ref 317, .int (nI bb), .int (nI (nF n 3))] [] (pM m' h) (0, 0) Q) → WP (d + 2) 232 17 [.ref 317, .int (nI bb), .int (nI t)] [] (pM m1 h) (0, 0) Q := by
  intro q
  have h8 := hn.1.2.1
  have hb0 := hn.1.2.2.2.1
  have c1 : (nI 1).toNatClampNeg = 1 := rfl
  induction q with
  | zero =>
    intro t P m1 ht f1 hl ho K
    have e : t = nF n 3 := by omega
    subst e
    have r1 : kA m1 320 1 = nI (nF n 3) := by rw [f1.2.2 320 (by decide)]; exact hr.2.1
    rw [List.range'_zero, List.filter_nil, List.append_nil] at K
    rw [u_232_17]
    simp (disch := omega) only [u_232_0, u_232_1, u_232_2, u_232_5, u_232_6, u_232_8, u_232_9, u_232_12, u_232_15, u_232_16, u_232_18, u_232_19, u_232_22, u_232_23, u_232_24, u_232_27, u_232_28, u_232_29, u_232_32, u_232_33, u_232_36, u_232_39, u_232_40, u_232_43, u_232_44, u_232_45, u_232_48, u_232_49, u_232_50, u_232_53, u_232_54, u_232_57, u_232_58, u_232_61, u_232_62, u_232_63, u_232_64, u_232_65, u_232_68, u_232_69, u_232_70, u_232_73, u_232_76, u_232_82, u_232_85, gI0, gIs, gR0, gRs, gF0, gFs, st0, st_i, st_r, st_f, st_n, st_s, true_and, and_true, ↓ifLeT, ↓ifLeF, ↓ifLtT, ↓ifLtF, ↓ifEqT, ↓ifEqF, if_tt, if_ff, if_pos, if_neg, nLe, nLt, nEq, nInT, nCl, pk_mul, nI_add, Nat.reduceAdd, s_cat_nil, s_cat_i, s_cat_r, s_cat_f, s_cat_l, tl_s, tl_n, cat_i, cat_r, cat_f, nb0, nb1, nbI, if_bI, if_bIr, Nat.zero_le, Nat.reduceLeDiff, M_g0, M_g1, M_g2, M_g3, M_g4, M_g5, M_g6, M_g7, M_g8, M_g9, M_g10, M_g11, M_g12, M_g13, M_g14, M_g15, M_g16, M_g17, M_g18, M_g19, M_g20, M_g21, M_g22, M_g23, M_g24, M_g25, M_g26, M_g27, M_g28, M_g29, M_g30, M_g31, M_g32, M_g33, M_g34, M_g35, M_g36, M_g37, M_g38, M_g39, M_g40, M_g41, M_r rb320, c1, r1]
    exact K m1 f1 ho
  | succ q ih =>
    intro t P m1 ht f1 hl ho K
    have hr1 : RR (kA m1 320) n := by rw [f1.2.2 320 (by decide)]; exact hr
    have r1 : kA m1 320 1 = nI (nF n 3) := hr1.2.1
    have a12 := (hr1.2.2.2 t (by omega)).1
    have b12 := (hn.2.2.1 t (by omega)).1
    have e1 := fun Q => r_left (d := d) (h := h) (Q := Q) (t := t) rb320 hn hr1 (by omega)
    rw [List.range'_succ, List.filter_cons] at hl K
    rw [u_232_17]
    cases hd : (!nDone n t) with
    | false =>
      rw [hd] at e1
      rw [hd, Bool.false_and, if_neg Bool.false_ne_true] at hl K
      simp (disch := omega) only [u_232_0, u_232_1, u_232_2, u_232_5, u_232_6, u_232_8, u_232_9, u_232_12, u_232_15, u_232_16, u_232_18, u_232_19, u_232_22, u_232_23, u_232_24, u_232_27, u_232_28, u_232_29, u_232_32, u_232_33, u_232_36, u_232_39, u_232_40, u_232_43, u_232_44, u_232_45, u_232_48, u_232_49, u_232_50, u_232_53, u_232_54, u_232_57, u_232_58, u_232_61, u_232_62, u_232_63, u_232_64, u_232_65, u_232_68, u_232_69, u_232_70, u_232_73, u_232_76, u_232_82, u_232_85, gI0, gIs, gR0, gRs, gF0, gFs, st0, st_i, st_r, st_f, st_n, st_s, true_and, and_true, ↓ifLeT, ↓ifLeF, ↓ifLtT, ↓ifLtF, ↓ifEqT, ↓ifEqF, if_tt, if_ff, if_pos, if_neg, nLe, nLt, nEq, nInT, nCl, pk_mul, nI_add, Nat.reduceAdd, s_cat_nil, s_cat_i, s_cat_r, s_cat_f, s_cat_l, tl_s, tl_n, cat_i, cat_r, cat_f, nb0, nb1, nbI, if_bI, if_bIr, Nat.zero_le, Nat.reduceLeDiff, M_ob, M_g0, M_g1, M_g2, M_g3, M_g4, M_g5, M_g6, M_g7, M_g8, M_g9, M_g10, M_g11, M_g12, M_g13, M_g14, M_g15, M_g16, M_g17, M_g18, M_g19, M_g20, M_g21, M_g22, M_g23, M_g24, M_g25, M_g26, M_g27, M_g28, M_g29, M_g30, M_g31, M_g32, M_g33, M_g34, M_g35, M_g36, M_g37, M_g38, M_g39, M_g40, M_g41, M_r rb320, c1, r1, e1, iBf]
      exact ih (t + 1) P m1 (by omega) f1 hl ho K
    | true =>
      rw [hd] at e1
      by_cases g : nA n 12 t = bb
      · rw [g] at a12
        rw [hd, decide_eq_true g, Bool.true_and, if_pos rfl] at hl K
        have ee : P ++ t :: (List.range' (t + 1) q).filter (fun t => !nDone n t && decide (nA n 12 t = bb)) = (P ++ [t]) ++ (List.range' (t + 1) q).filter (fun t => !nDone n t && decide (nA n 12 t = bb)) := by simp
        rw [ee] at hl K
        have lp : P.length < 8 := by
          rw [List.length_append, List.length_append] at hl
          have : P.length + 1 + ((List.range' (t + 1) q).filter (fun t => !nDone n t && decide (nA n 12 t = bb))).length ≤ 8 := hl
          omega
        have o33 := ho.1
        have i1 : vp_in (nI P.length) 8 := (nIn (by omega)).mpr lp
        have c2 : (nI P.length).toNatClampNeg = P.length := nCl (by omega)
        simp (disch := omega) only [u_232_0, u_232_1, u_232_2, u_232_5, u_232_6, u_232_8, u_232_9, u_232_12, u_232_15, u_232_16, u_232_18, u_232_19, u_232_22, u_232_23, u_232_24, u_232_27, u_232_28, u_232_29, u_232_32, u_232_33, u_232_36, u_232_39, u_232_40, u_232_43, u_232_44, u_232_45, u_232_48, u_232_49, u_232_50, u_232_53, u_232_54, u_232_57, u_232_58, u_232_61, u_232_62, u_232_63, u_232_64, u_232_65, u_232_68, u_232_69, u_232_70, u_232_73, u_232_76, u_232_82, u_232_85, gI0, gIs, gR0, gRs, gF0, gFs, st0, st_i, st_r, st_f, st_n, st_s, true_and, and_true, ↓ifLeT, ↓ifLeF, ↓ifLtT, ↓ifLtF, ↓ifEqT, ↓ifEqF, if_tt, if_ff, if_pos, if_neg, nLe, nLt, nEq, nInT, nCl, pk_mul, nI_add, Nat.reduceAdd, s_cat_nil, s_cat_i, s_cat_r, s_cat_f, s_cat_l, tl_s, tl_n, cat_i, cat_r, cat_f, nb0, nb1, nbI, if_bI, if_bIr, Nat.zero_le, Nat.reduceLeDiff, M_ob, M_g0, M_g1, M_g2, M_g3, M_g4, M_g5, M_g6, M_g7, M_g8, M_g9, M_g10, M_g11, M_g12, M_g13, M_g14, M_g15, M_g16, M_g17, M_g18, M_g19, M_g20, M_g21, M_g22, M_g23, M_g24, M_g25, M_g26, M_g27, M_g28, M_g29, M_g30, M_g31, M_g32, M_g33, M_g34, M_g35, M_g36, M_g37, M_g38, M_g39, M_g40, M_g41, M_r rb320, M_w332, M_s33, kI_xI, kI_xB, kI_xA, kI_xV, kB_xI, kB_xB, kB_xA, kB_xV, kA_xI, kA_xB, kA_xA, kA_xV, kV_xI, kV_xB, kV_xA, kV_xV, Nat.reduceEqDiff, reduceIte, m_tAt, c1, r1, a12, e1, iBt, nI10, o33, i1, c2]
        refine ih (t + 1) (P ++ [t]) _ (by omega) ⟨fun k hk => ?_, f1.2.1, fun q hq => ?_⟩ hl (OS_put ho) K
        · show (if k = 33 then _ else kI m1 k) = _
          rw [if_neg hk]
          exact f1.1 k hk
        · show (if q = 332 then _ else kA m1 q) = _
          rw [if_neg hq]
          exact f1.2.2 q hq
      · have ne : ¬ nI (nA n 12 t) = nI bb := fun q => g ((nI_eq (by omega) (by omega)).mp q)
        rw [hd, decide_eq_false g, Bool.and_false, if_neg Bool.false_ne_true] at hl K
        simp (disch := omega) only [u_232_0, u_232_1, u_232_2, u_232_5, u_232_6, u_232_8, u_232_9, u_232_12, u_232_15, u_232_16, u_232_18, u_232_19, u_232_22, u_232_23, u_232_24, u_232_27, u_232_28, u_232_29, u_232_32, u_232_33, u_232_36, u_232_39, u_232_40, u_232_43, u_232_44, u_232_45, u_232_48, u_232_49, u_232_50, u_232_53, u_232_54, u_232_57, u_232_58, u_232_61, u_232_62, u_232_63, u_232_64, u_232_65, u_232_68, u_232_69, u_232_70, u_232_73, u_232_76, u_232_82, u_232_85, gI0, gIs, gR0, gRs, gF0, gFs, st0, st_i, st_r, st_f, st_n, st_s, true_and, and_true, ↓ifLeT, ↓ifLeF, ↓ifLtT, ↓ifLtF, ↓ifEqT, ↓ifEqF, if_tt, if_ff, if_pos, if_neg, nLe, nLt, nEq, nInT, nCl, pk_mul, nI_add, Nat.reduceAdd, s_cat_nil, s_cat_i, s_cat_r, s_cat_f, s_cat_l, tl_s, tl_n, cat_i, cat_r, cat_f, nb0, nb1, nbI, if_bI, if_bIr, Nat.zero_le, Nat.reduceLeDiff, M_ob, M_g0, M_g1, M_g2, M_g3, M_g4, M_g5, M_g6, M_g7, M_g8, M_g9, M_g10, M_g11, M_g12, M_g13, M_g14, M_g15, M_g16, M_g17, M_g18, M_g19, M_g20, M_g21, M_g22, M_g23, M_g24, M_g25, M_g26, M_g27, M_g28, M_g29, M_g30, M_g31, M_g32, M_g33, M_g34, M_g35, M_g36, M_g37, M_g38, M_g39, M_g40, M_g41, M_r rb320, m_tAt, c1, r1, a12, ne, e1, iBt, nI10, reduceIte]
        exact ih (t + 1) P m1 (by omega) f1 hl ho K
theorem r_sorts (hn : wfN n) (h8' : kI m 8 = nI (nF n 0)) (hr : RR (kA m 320) n) (K : ∀ m', fr33 m m' → OS m' (ordN n) → Q none (pM m' h)) : MT (d + 3) 232 [.ref 317] (pM m h) Q := by
  have hb0 := hn.1.2.2.2.1
  rw [MT_go (by decide) _ _ _ (Nat.le_of_ble_eq_true rfl), show s_entry 232 [.ref 317] = [.ref 317, s_no, s_no] from rfl]
  have lp : ∀ q bb P m1 v, bb + q = nF n 0 → fr33 m m1 → (P ++ (List.range' bb q).flatMap (pickT n (nF n 3))).length ≤ 8 → OS m1 P → (∀ m', fr33 m m' → OS m' (P ++ (List.range' bb q).flatMap (pickT n (nF n 3))) → Q none (pM m' h)) → WP (d + 2) 232 7 [.ref 317, .int (nI bb), v] [] (pM m1 h) (0, 0) Q := by
    intro q
    induction q with
    | zero =>
      intro bb P m1 v hb f1 hl ho K
      have e : bb = nF n 0 := by omega
      subst e
      have k8 : kI m1 8 = nI (nF n 0) := (f1.1 8 (by decide)).trans h8'
      rw [List.range'_zero, List.flatMap_nil, List.append_nil] at K
      rw [u_232_7]
      simp (disch := omega) only [u_232_0, u_232_1, u_232_2, u_232_5, u_232_6, u_232_8, u_232_9, u_232_12, u_232_15, u_232_16, u_232_18, u_232_19, u_232_22, u_232_23, u_232_24, u_232_27, u_232_28, u_232_29, u_232_32, u_232_33, u_232_36, u_232_39, u_232_40, u_232_43, u_232_44, u_232_45, u_232_48, u_232_49, u_232_50, u_232_53, u_232_54, u_232_57, u_232_58, u_232_61, u_232_62, u_232_63, u_232_64, u_232_65, u_232_68, u_232_69, u_232_70, u_232_73, u_232_76, u_232_79, u_232_82, u_232_85, gI0, gIs, gR0, gRs, gF0, gFs, st0, st_i, st_r, st_f, st_n, st_s, true_and, and_true, ↓ifLeT, ↓ifLeF, ↓ifLtT, ↓ifLtF, ↓ifEqT, ↓ifEqF, if_tt, if_ff, if_pos, if_neg, nLe, nLt, nEq, nInT, nCl, pk_mul, nI_add, Nat.reduceAdd, s_cat_nil, s_cat_i, s_cat_r, s_cat_f, s_cat_l, tl_s, tl_n, cat_i, cat_r, cat_f, nb0, nb1, nbI, if_bI, if_bIr, Nat.zero_le, Nat.reduceLeDiff, M_g0, M_g1, M_g2, M_g3, M_g4, M_g5, M_g6, M_g7, M_g8, M_g9, M_g10, M_g11, M_g12, M_g13, M_g14, M_g15, M_g16, M_g17, M_g18, M_g19, M_g20, M_g21, M_g22, M_g23, M_g24, M_g25, M_g26, M_g27, M_g28, M_g29, M_g30, M_g31, M_g32, M_g33, M_g34, M_g35, M_g36, M_g37, M_g38, M_g39, M_g40, M_g41, k8]
      exact K m1 f1 ho
    | succ q ih =>
      intro bb P m1 v hb f1 hl ho K
      have k8 : kI m1 8 = nI (nF n 0) := (f1.1 8 (by decide)).trans h8'
      have ee : P ++ (List.range' bb (q + 1)).flatMap (pickT n (nF n 3)) = (P ++ (List.range' 0 (nF n 3)).filter (fun t => !nDone n t && decide (nA n 12 t = bb))) ++ (List.range' (bb + 1) q).flatMap (pickT n (nF n 3)) := by
        rw [List.range'_succ, List.flatMap_cons, List.append_assoc, ← List.range_eq_range']
        rfl
      rw [ee] at hl K
      rw [u_232_7]
      simp (disch := omega) only [u_232_0, u_232_1, u_232_2, u_232_5, u_232_6, u_232_8, u_232_9, u_232_12, u_232_15, u_232_16, u_232_18, u_232_19, u_232_22, u_232_23, u_232_24, u_232_27, u_232_28, u_232_29, u_232_32, u_232_33, u_232_36, u_232_39, u_232_40, u_232_43, u_232_44, u_232_45, u_232_48, u_232_49, u_232_50, u_232_53, u_232_54, u_232_57, u_232_58, u_232_61, u_232_62, u_232_63, u_232_64, u_232_65, u_232_68, u_232_69, u_232_70, u_232_73, u_232_76, u_232_79, u_232_82, u_232_85, gI0, gIs, gR0, gRs, gF0, gFs, st0, st_i, st_r, st_f, st_n, st_s, true_and, and_true, ↓ifLeT, ↓ifLeF, ↓ifLtT, ↓ifLtF, ↓ifEqT, ↓ifEqF, if_tt, if_ff, if_pos, if_neg, nLe, nLt, nEq, nInT, nCl, pk_mul, nI_add, Nat.reduceAdd, s_cat_nil, s_cat_i, s_cat_r, s_cat_f, s_cat_l, tl_s, tl_n, cat_i, cat_r, cat_f, nb0, nb1, nbI, if_bI, if_bIr, Nat.zero_le, Nat.reduceLeDiff, M_g0, M_g1, M_g2, M_g3, M_g4, M_g5, M_g6, M_g7, M_g8, M_g9, M_g10, M_g11, M_g12, M_g13, M_g14, M_g15, M_g16, M_g17, M_g18, M_g19, M_g20, M_g21, M_g22, M_g23, M_g24, M_g25, M_g26, M_g27, M_g28, M_g29, M_g30, M_g31, M_g32, M_g33, M_g34, M_g35, M_g36, M_g37, M_g38, M_g39, M_g40, M_g41, k8]
      have hr1 : RR (kA m1 320) n := by rw [f1.2.2 320 (by decide)]; exact hr
      refine sorts_in (d := d) (m := m1) hn hr1 (by omega) (nF n 3) 0 P m1 (Nat.zero_add _) ⟨fun _ _ => rfl, rfl, fun _ _ => rfl⟩ (by rw [List.length_append] at hl; omega) ho fun m2 f2 o2 => ?_
      simp (disch := omega) only [u_232_0, u_232_1, u_232_2, u_232_5, u_232_6, u_232_8, u_232_9, u_232_12, u_232_15, u_232_16, u_232_18, u_232_19, u_232_22, u_232_23, u_232_24, u_232_27, u_232_28, u_232_29, u_232_32, u_232_33, u_232_36, u_232_39, u_232_40, u_232_43, u_232_44, u_232_45, u_232_48, u_232_49, u_232_50, u_232_53, u_232_54, u_232_57, u_232_58, u_232_61, u_232_62, u_232_63, u_232_64, u_232_65, u_232_68, u_232_69, u_232_70, u_232_73, u_232_76, u_232_79, u_232_82, u_232_85, gI0, gIs, gR0, gRs, gF0, gFs, st0, st_i, st_r, st_f, st_n, st_s, true_and, and_true, ↓ifLeT, ↓ifLeF, ↓ifLtT, ↓ifLtF, ↓ifEqT, ↓ifEqF, if_tt, if_ff, if_pos, if_neg, nLe, nLt, nEq, nInT, nCl, pk_mul, nI_add, Nat.reduceAdd, s_cat_nil, s_cat_i, s_cat_r, s_cat_f, s_cat_l, tl_s, tl_n, cat_i, cat_r, cat_f, nb0, nb1, nbI, if_bI, if_bIr, Nat.zero_le, Nat.reduceLeDiff]
      exact ih (bb + 1) _ m2 _ (by omega) ⟨fun k hk => (f2.1 k hk).trans (f1.1 k hk), f2.2.1.trans f1.2.1, fun q hq => (f2.2.2 q hq).trans (f1.2.2 q hq)⟩ hl o2 K
  simp (disch := omega) only [u_232_0, u_232_1, u_232_2, u_232_5, u_232_6, u_232_8, u_232_9, u_232_12, u_232_15, u_232_16, u_232_18, u_232_19, u_232_22, u_232_23, u_232_24, u_232_27, u_232_28, u_232_29, u_232_32, u_232_33, u_232_36, u_232_39, u_232_40, u_232_43, u_232_44, u_232_45, u_232_48, u_232_49, u_232_50, u_232_53, u_232_54, u_232_57, u_232_58, u_232_61, u_232_62, u_232_63, u_232_64, u_232_65, u_232_68, u_232_69, u_232_70, u_232_73, u_232_76, u_232_79, u_232_82, u_232_85, gI0, gIs, gR0, gRs, gF0, gFs, st0, st_i, st_r, st_f, st_n, st_s, true_and, and_true, ↓ifLeT, ↓ifLeF, ↓ifLtT, ↓ifLtF, ↓ifEqT, ↓ifEqF, if_tt, if_ff, if_pos, if_neg, nLe, nLt, nEq, nInT, nCl, pk_mul, nI_add, Nat.reduceAdd, s_cat_nil, s_cat_i, s_cat_r, s_cat_f, s_cat_l, tl_s, tl_n, cat_i, cat_r, cat_f, nb0, nb1, nbI, if_bI, if_bIr, Nat.zero_le, Nat.reduceLeDiff, M_s33]
  have e : ordN n = [] ++ (List.range' 0 (nF n 0)).flatMap (pickT n (nF n 3)) := by
    unfold ordN ordK
    rw [List.range_eq_range', List.nil_append]
  refine lp (nF n 0) 0 [] _ _ (Nat.zero_add _) ⟨fun k hk => if_neg hk, rfl, fun _ _ => rfl⟩ (by rw [← e]; exact ord_len hn) ⟨rfl, fun k hk => absurd hk (Nat.not_lt_zero k)⟩ ?_
  rw [← e]
  exact K
theorem r_seeksZ (hm : RM m z) (hq : zQ z = some n) (K : ∀ m', RM m' z → MF m' (nF n 2) (zonesN n) → Q none (pM m' h)) : MT (d + 17) 234 [.ref 317] (pM m h) Q := by
  obtain ⟨hg, hr, hok⟩ := RM_q hm hq
  have hn := hok.1
  have h4 := hn.1.1
  rw [MT_go (by decide) _ _ _ (Nat.le_of_ble_eq_true rfl), show s_entry 234 [.ref 317] = [.ref 317] from rfl]
  simp (disch := omega) only [u_234_0, u_234_1, u_234_4, u_234_5, u_234_8, u_234_9, u_234_11, u_234_14, u_234_15, u_234_16, u_234_17, u_234_20, gI0, gIs, gR0, gRs, gF0, gFs, st0, st_i, st_r, st_f, st_n, st_s, true_and, and_true, ↓ifLeT, ↓ifLeF, ↓ifLtT, ↓ifLtF, ↓ifEqT, ↓ifEqF, if_tt, if_ff, if_pos, if_neg, nLe, nLt, nEq, nInT, nCl, pk_mul, nI_add, Nat.reduceAdd, s_cat_nil, s_cat_i, s_cat_r, s_cat_f, s_cat_l, tl_s, tl_n, cat_i, cat_r, cat_f, nb0, nb1, nbI, if_bI, if_bIr, Nat.zero_le, Nat.reduceLeDiff, M_ob]
  refine r_clears (d := d + 14) hn hr fun f hf => ?_
  simp (disch := omega) only [u_234_0, u_234_1, u_234_4, u_234_5, u_234_8, u_234_9, u_234_11, u_234_14, u_234_15, u_234_16, u_234_17, u_234_20, gI0, gIs, gR0, gRs, gF0, gFs, st0, st_i, st_r, st_f, st_n, st_s, true_and, and_true, ↓ifLeT, ↓ifLeF, ↓ifLtT, ↓ifLtF, ↓ifEqT, ↓ifEqF, if_tt, if_ff, if_pos, if_neg, nLe, nLt, nEq, nInT, nCl, pk_mul, nI_add, Nat.reduceAdd, s_cat_nil, s_cat_i, s_cat_r, s_cat_f, s_cat_l, tl_s, tl_n, cat_i, cat_r, cat_f, nb0, nb1, nbI, if_bI, if_bIr, Nat.zero_le, Nat.reduceLeDiff, M_ob]
  have f0 : frT m (xA m 330 f) := frT_330
  refine r_sorts (d := d + 13) hn (MG_T hg f0).1 (RR_T hr f0) fun m1 f1 o1 => ?_
  simp (disch := omega) only [u_234_0, u_234_1, u_234_4, u_234_5, u_234_8, u_234_9, u_234_11, u_234_14, u_234_15, u_234_16, u_234_17, u_234_20, gI0, gIs, gR0, gRs, gF0, gFs, st0, st_i, st_r, st_f, st_n, st_s, true_and, and_true, ↓ifLeT, ↓ifLeF, ↓ifLtT, ↓ifLtF, ↓ifEqT, ↓ifEqF, if_tt, if_ff, if_pos, if_neg, nLe, nLt, nEq, nInT, nCl, pk_mul, nI_add, Nat.reduceAdd, s_cat_nil, s_cat_i, s_cat_r, s_cat_f, s_cat_l, tl_s, tl_n, cat_i, cat_r, cat_f, nb0, nb1, nbI, if_bI, if_bIr, Nat.zero_le, Nat.reduceLeDiff, M_ob, M_g0, M_g1, M_g2, M_g3, M_g4, M_g5, M_g6, M_g7, M_g8, M_g9, M_g10, M_g11, M_g12, M_g13, M_g14, M_g15, M_g16, M_g17, M_g18, M_g19, M_g20, M_g21, M_g22, M_g23, M_g24, M_g25, M_g26, M_g27, M_g28, M_g29, M_g30, M_g31, M_g32, M_g33, M_g34, M_g35, M_g36, M_g37, M_g38, M_g39, M_g40, M_g41, M_s30]
  have hz1 : frZ m (xI m1 30 (nI 1000000)) := frZ_t (frT_Z f0) (frZ_t ⟨fun k hk => f1.1 k (by unfold keyI at hk; omega), f1.2.1, fun q hq => f1.2.2 q (by unfold keyA at hq; omega)⟩ (frZ_I (by decide)))
  have hm1 := RM_fr hz1 hm
  obtain ⟨hg1, hr1, -⟩ := RM_q hm1 hq
  have r330 : kA (xI m1 30 (nI 1000000)) 330 = f := (f1.2.2 330 (by decide)).trans (kA_eq _ _ _)
  have go := fun K => r_cuts (h := h) (ord := ordN n) hn (ordK_nodup hn.2.2.1 _ (Nat.le_refl _)) (fun t ht => (mem_ordK.mp ht).1) (ord_len hn) (nF n 2) 0 0 (fun _ => []) (301, none) (xI m1 30 (nI 1000000)) (d + (4 - nF n 2)) (fun r h' => WP (d + 16) 234 20 [.ref 317] (r.toList ++ []) h' (0, 0) Q) (Nat.zero_add _) (Nat.zero_le _) (OS_T o1 frT_30) hg1 hr1 wfL_nil (fun t _ q hq => by cases hq) (fun _ _ => rfl) (by rw [r330]; exact hf) ⟨rfl, rfl⟩ K
  rw [show d + (4 - nF n 2) + nF n 2 + 12 = d + 16 by omega] at go
  refine go fun m2 f2 r2 hm2 => ?_
  simp (disch := omega) only [u_234_0, u_234_1, u_234_4, u_234_5, u_234_8, u_234_9, u_234_11, u_234_14, u_234_15, u_234_16, u_234_17, u_234_20, gI0, gIs, gR0, gRs, gF0, gFs, st0, st_i, st_r, st_f, st_n, st_s, true_and, and_true, ↓ifLeT, ↓ifLeF, ↓ifLtT, ↓ifLtF, ↓ifEqT, ↓ifEqF, if_tt, if_ff, if_pos, if_neg, nLe, nLt, nEq, nInT, nCl, pk_mul, nI_add, Nat.reduceAdd, s_cat_nil, s_cat_i, s_cat_r, s_cat_f, s_cat_l, tl_s, tl_n, cat_i, cat_r, cat_f, nb0, nb1, nbI, if_bI, if_bIr, Nat.zero_le, Nat.reduceLeDiff]
  exact K m2 (RM_fr (frT_Z f2) hm1) hm2
theorem z_zones (hm : RM m z) (K : ∀ m', RM m' z → Q (some (.int (zzones z w))) (pM m' h)) : MT (d + 18) 235 [.ref 317, .int w] (pM m h) Q := by
  rw [MT_go (by decide) _ _ _ (Nat.le_of_ble_eq_true rfl), show s_entry 235 [.ref 317, .int w] = [.ref 317, .int w] from rfl]
  have hm0 := RM_0 (x := nI 0) hm
  have e1 := fun Q => r_such (d := d + 15) (h := h) (Q := Q) (x := w) hm0
  unfold zzones at K
  cases hq : zQ z with
  | none =>
    simp only [hq] at K e1
    simp (disch := omega) only [u_235_0, u_235_1, u_235_2, u_235_5, u_235_6, u_235_7, u_235_10, u_235_13, u_235_16, u_235_17, u_235_18, u_235_21, u_235_22, u_235_23, u_235_26, gI0, gIs, gR0, gRs, gF0, gFs, st0, st_i, st_r, st_f, st_n, st_s, true_and, and_true, ↓ifLeT, ↓ifLeF, ↓ifLtT, ↓ifLtF, ↓ifEqT, ↓ifEqF, if_tt, if_ff, if_pos, if_neg, nLe, nLt, nEq, nInT, nCl, pk_mul, nI_add, Nat.reduceAdd, s_cat_nil, s_cat_i, s_cat_r, s_cat_f, s_cat_l, tl_s, tl_n, cat_i, cat_r, cat_f, nb0, nb1, nbI, if_bI, if_bIr, Nat.zero_le, Nat.reduceLeDiff, M_ob, M_s0, e1, iBf]
    exact K _ hm0
  | some n =>
    simp only [hq] at K e1
    obtain ⟨hg, hr, hok⟩ := RM_q hm0 hq
    cases hs : suchN n w with
    | false =>
      rw [hs] at e1
      simp only [hs, Bool.false_eq_true, if_false] at K
      simp (disch := omega) only [u_235_0, u_235_1, u_235_2, u_235_5, u_235_6, u_235_7, u_235_10, u_235_13, u_235_16, u_235_17, u_235_18, u_235_21, u_235_22, u_235_23, u_235_26, gI0, gIs, gR0, gRs, gF0, gFs, st0, st_i, st_r, st_f, st_n, st_s, true_and, and_true, ↓ifLeT, ↓ifLeF, ↓ifLtT, ↓ifLtF, ↓ifEqT, ↓ifEqF, if_tt, if_ff, if_pos, if_neg, nLe, nLt, nEq, nInT, nCl, pk_mul, nI_add, Nat.reduceAdd, s_cat_nil, s_cat_i, s_cat_r, s_cat_f, s_cat_l, tl_s, tl_n, cat_i, cat_r, cat_f, nb0, nb1, nbI, if_bI, if_bIr, Nat.zero_le, Nat.reduceLeDiff, M_ob, M_s0, e1, iBf]
      exact K _ hm0
    | true =>
      rw [hs] at e1
      simp only [hs, if_true] at K
      simp (disch := omega) only [u_235_0, u_235_1, u_235_2, u_235_5, u_235_6, u_235_7, u_235_10, u_235_13, u_235_16, u_235_17, u_235_18, u_235_21, u_235_22, u_235_23, u_235_26, gI0, gIs, gR0, gRs, gF0, gFs, st0, st_i, st_r, st_f, st_n, st_s, true_and, and_true, ↓ifLeT, ↓ifLeF, ↓ifLtT, ↓ifLtF, ↓ifEqT, ↓ifEqF, if_tt, if_ff, if_pos, if_neg, nLe, nLt, nEq, nInT, nCl, pk_mul, nI_add, Nat.reduceAdd, s_cat_nil, s_cat_i, s_cat_r, s_cat_f, s_cat_l, tl_s, tl_n, cat_i, cat_r, cat_f, nb0, nb1, nbI, if_bI, if_bIr, Nat.zero_le, Nat.reduceLeDiff, M_ob, M_s0, e1, iBt, nI10, reduceIte]
      refine r_seeksZ (d := d) hm0 hq fun m' hm' mf => ?_
      obtain ⟨hg', -, -⟩ := RM_q hm' hq
      simp (disch := omega) only [u_235_0, u_235_1, u_235_2, u_235_5, u_235_6, u_235_7, u_235_10, u_235_13, u_235_16, u_235_17, u_235_18, u_235_21, u_235_22, u_235_23, u_235_26, gI0, gIs, gR0, gRs, gF0, gFs, st0, st_i, st_r, st_f, st_n, st_s, true_and, and_true, ↓ifLeT, ↓ifLeF, ↓ifLtT, ↓ifLtF, ↓ifEqT, ↓ifEqF, if_tt, if_ff, if_pos, if_neg, nLe, nLt, nEq, nInT, nCl, pk_mul, nI_add, Nat.reduceAdd, s_cat_nil, s_cat_i, s_cat_r, s_cat_f, s_cat_l, tl_s, tl_n, cat_i, cat_r, cat_f, nb0, nb1, nbI, if_bI, if_bIr, Nat.zero_le, Nat.reduceLeDiff, M_ob]
      refine r_tells (d := d + 15) hok.1 hg'.2.2.1 mf (fun v l e => zones_wf hok.1 hok.2.1 e) hs ?_
      simp (disch := omega) only [u_235_0, u_235_1, u_235_2, u_235_5, u_235_6, u_235_7, u_235_10, u_235_13, u_235_16, u_235_17, u_235_18, u_235_21, u_235_22, u_235_23, u_235_26, gI0, gIs, gR0, gRs, gF0, gFs, st0, st_i, st_r, st_f, st_n, st_s, true_and, and_true, ↓ifLeT, ↓ifLeF, ↓ifLtT, ↓ifLtF, ↓ifEqT, ↓ifEqF, if_tt, if_ff, if_pos, if_neg, nLe, nLt, nEq, nInT, nCl, pk_mul, nI_add, Nat.reduceAdd, s_cat_nil, s_cat_i, s_cat_r, s_cat_f, s_cat_l, tl_s, tl_n, cat_i, cat_r, cat_f, nb0, nb1, nbI, if_bI, if_bIr, Nat.zero_le, Nat.reduceLeDiff]
      exact K m' hm'
end MZN
