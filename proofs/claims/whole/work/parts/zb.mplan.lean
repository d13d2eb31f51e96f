/-! the reference's reader: a PLAN's parts -/
theorem adv_pos {t : tO} (ok : okT0 t) : eN t 5 ≤ eN (advT t) 2 ∧ (¬ eI (advT t) 3 = nI 0 → eN (advT t) 2 < eN (advT t) 5) := by
  obtain ⟨s1, s2⟩ := skT_le ok
  unfold advT
  split
  · exact ⟨s1, fun h => absurd rfl h⟩
  · rename_i h1
    have hl : skT t < eN t 1 := by omega
    have rp : ∀ f : Int32 → Bool, f (eA t 0 (skT t)) = true → skT t < runF f (eA t 0) (eN t 1 - skT t) (skT t) := fun f hf => by
      obtain ⟨n, hn⟩ : ∃ n, eN t 1 - skT t = n + 1 := ⟨eN t 1 - skT t - 1, by omega⟩
      rw [hn, runF, if_pos hf]
      have := (runF_le (f := f) (g := eA t 0) n (skT t + 1)).1
      omega
    split
    · rename_i h2
      exact ⟨s1, fun _ => rp letB h2⟩
    · split
      · rename_i h3
        exact ⟨s1, fun _ => rp digB h3⟩
      · exact ⟨s1, fun _ => Nat.lt_succ_self _⟩
def okP (t : tO) : Prop := ¬ eI t 3 = nI 0 → eN t 2 < eN t 5
theorem okP_adv {t : tO} (ok : okT t) : okP (advT t) := (adv_pos (okT_0 ok)).2
theorem okP_rew {t : tO} (h : eN t 1 ≤ 400) : okP (rewT t) := (adv_pos (t := vN t 5 0) ⟨h, Nat.zero_le _⟩).2
def frL (m m' : tM) : Prop := (∀ k, k ≠ 3 → k ≠ 4 → k ≠ 5 → k ≠ 6 → k ≠ 7 → kI m' k = kI m k) ∧ kB m' = kB m ∧ ∀ q, q ≠ 323 → kA m' q = kA m q
theorem frL_r {m : tM} : frL m m := ⟨fun _ _ _ _ _ _ => rfl, rfl, fun _ _ => rfl⟩
theorem frL_t {m m' m2 : tM} (h1 : frL m m') (h2 : frL m' m2) : frL m m2 := ⟨fun k a b c e f => (h2.1 k a b c e f).trans (h1.1 k a b c e f), h2.2.1.trans h1.2.1, fun q a => (h2.2.2 q a).trans (h1.2.2 q a)⟩
theorem frL_R {m m' : tM} (h : frR m m') : frL m m' := ⟨h.1, congrArg (·.1) h.2, fun q _ => congrFun (congrArg (·.2.1) h.2) q⟩
theorem frL_5 {m : tM} {x : Int32} : frL m (xI m 5 x) := ⟨fun q _ _ h _ _ => if_neg h, rfl, fun _ _ => rfl⟩
theorem frL_A {m : tM} {f : Nat → Int32} : frL m (xA m 323 f) := ⟨fun _ _ _ _ _ _ => rfl, rfl, fun q h => if_neg h⟩
theorem frL_Z {m m' : tM} (h : frL m m') : frZ m m' := ⟨fun k hk => h.1 k (by unfold keyI at hk; omega) (by unfold keyI at hk; omega) (by unfold keyI at hk; omega) (by unfold keyI at hk; omega) (by unfold keyI at hk; omega), h.2.1, fun q hq => h.2.2 q (by unfold keyA at hq; omega)⟩
theorem GD_Q {m : tM} {t : tO} {q : Nat} {f : Nat → Int32} (hq : q ≠ 318) (hG : GD m t) : GD (xA m q f) t := by
  obtain ⟨⟨a, b, c⟩, ok, tk, h5⟩ := hG
  exact ⟨⟨a, b, fun j hj => by rw [kA_ne (fun e => hq e.symm)]; exact c j hj⟩, ok, tk, h5⟩
theorem tk_dig {m : tM} {t : tO} (hG : GD m t) : kI m 6 = nI 2 ↔ eI t 3 = nI 2 := by
  obtain ⟨hT, ok, ⟨k4, k3, kk⟩, h5⟩ := hG
  rcases kk with ⟨e3, e6⟩ | ⟨e3, e6⟩ | ⟨e3, e6, -⟩ | ⟨e3, e6, -⟩ | ⟨e3, e6, -⟩ <;> rw [e3, e6] <;> decide
theorem tk_ovr {m : tM} {t : tO} (hG : GD m t) : kI m 6 = nI 0 ↔ eI t 3 = nI 0 := by
  obtain ⟨hT, ok, ⟨k4, k3, kk⟩, h5⟩ := hG
  rcases kk with ⟨e3, e6⟩ | ⟨e3, e6⟩ | ⟨e3, e6, -⟩ | ⟨e3, e6, -⟩ | ⟨e3, e6, -⟩ <;> rw [e3, e6] <;> decide
theorem tk_max {m : tM} {t : tO} (hG : GD m t) : eN t 2 ≤ 400 := by
  have := hG.2.1.1
  have := hG.2.1.2.1
  have := hG.2.1.2.2
  omega
theorem FL_app {f : Nat → Int32} {C c t : Nat} {l : tL} (h7 : (l c).length < 8) (h8 : ∀ q, (l q).length ≤ 8) (h : FL f C l) : FL (upd (upd f (9 * c + 1 + (l c).length) (nI t)) (9 * c) (nI ((l c).length + 1))) C (appF l c t) := by
  intro q hq
  obtain ⟨a, b⟩ := h q hq
  have hq8 := h8 q
  by_cases e : q = c
  · subst e
    rw [app_at, List.length_append]
    refine ⟨if_pos rfl, fun k hk => ?_⟩
    have hk : k < (l q).length + 1 := hk
    rw [upd_ne (by omega)]
    by_cases e : k = (l q).length
    · subst e
      rw [List.getD_eq_getElem?_getD, List.getElem?_append_right (Nat.le_refl _), Nat.sub_self]
      exact if_pos (by omega)
    · rw [upd_ne (by omega), List.getD_eq_getElem?_getD, List.getElem?_append_left (by omega), ← List.getD_eq_getElem?_getD]
      exact b k (by omega)
  · rw [app_ne e]
    refine ⟨?_, fun k hk => ?_⟩
    · rw [upd_ne (by omega), upd_ne (by omega)]
      exact a
    · rw [upd_ne (by omega), upd_ne (by omega)]
      exact b k hk
section MPL
variable {d : Nat} {m : tM} {t : tO} {h : sH} {Q : sQ} {n : tN}
theorem m_clears (K : ∀ f, (∀ j, j < 36 → f j = nI 0) → Q none (pM (xA m 323 f) h)) : MT (d + 1) 167 [.ref 317, .ref 323] (pM m h) Q := by
  rw [MT_go (by decide) _ _ _ (Nat.le_of_ble_eq_true rfl), show s_entry 167 [.ref 317, .ref 323] = [.ref 317, .ref 323, s_no] from rfl]
  have lp : ∀ q k f, k + q = 36 → (∀ j, j < k → f j = nI 0) → WP d 167 2 [.ref 317, .ref 323, .int (nI k)] [] (pM (xA m 323 f) h) (0, 0) Q := by
    intro q
    induction q with
    | zero =>
      intro k f hk hf
      have e : k = 36 := by omega
      subst e
      rw [u_167_2]
      simp (disch := omega) only [u_167_0, u_167_1, u_167_3, u_167_4, u_167_5, u_167_8, u_167_9, u_167_10, u_167_11, u_167_12, u_167_15, u_167_18, gI0, gIs, gR0, gRs, gF0, gFs, st0, st_i, st_r, st_f, st_n, st_s, true_and, and_true, ↓ifLeT, ↓ifLeF, ↓ifLtT, ↓ifLtF, ↓ifEqT, ↓ifEqF, if_tt, if_ff, if_pos, if_neg, nLe, nLt, nEq, nInT, nCl, pk_mul, nI_add, Nat.reduceAdd, s_cat_nil, s_cat_i, s_cat_r, s_cat_f, s_cat_l, tl_s, tl_n, cat_i, cat_r, cat_f, nb0, nb1, nbI, if_bI, if_bIr, Nat.zero_le, Nat.reduceLeDiff, M_n323]
      exact K f hf
    | succ q ih =>
      intro k f hk hf
      have i1 : vp_in (nI k) 36 := (nIn (by omega)).mpr (by omega)
      have c1 : (nI k).toNatClampNeg = k := nCl (by omega)
      rw [u_167_2]
      simp (disch := omega) only [u_167_0, u_167_1, u_167_3, u_167_4, u_167_5, u_167_8, u_167_9, u_167_10, u_167_11, u_167_12, u_167_15, u_167_18, gI0, gIs, gR0, gRs, gF0, gFs, st0, st_i, st_r, st_f, st_n, st_s, true_and, and_true, ↓ifLeT, ↓ifLeF, ↓ifLtT, ↓ifLtF, ↓ifEqT, ↓ifEqF, if_tt, if_ff, if_pos, if_neg, nLe, nLt, nEq, nInT, nCl, pk_mul, nI_add, Nat.reduceAdd, s_cat_nil, s_cat_i, s_cat_r, s_cat_f, s_cat_l, tl_s, tl_n, cat_i, cat_r, cat_f, nb0, nb1, nbI, if_bI, if_bIr, Nat.zero_le, Nat.reduceLeDiff, M_n323, M_w323, i1, c1, kA_eq, xA_tw]
      refine ih (k + 1) _ (by omega) fun j hj => ?_
      by_cases e : j = k
      · exact if_pos e
      · rw [upd_ne e]
        exact hf j (by omega)
  have := lp 36 0 (kA m 323) rfl fun j hj => absurd hj (Nat.not_lt_zero j)
  rw [xA_eta] at this
  simp (disch := omega) only [u_167_0, u_167_1, u_167_3, u_167_4, u_167_5, u_167_8, u_167_9, u_167_10, u_167_11, u_167_12, u_167_15, u_167_18, gI0, gIs, gR0, gRs, gF0, gFs, st0, st_i, st_r, st_f, st_n, st_s, true_and, and_true, ↓ifLeT, ↓ifLeF, ↓ifLtT, ↓ifLtF, ↓ifEqT, ↓ifEqF, if_tt, if_ff, if_pos, if_neg, nLe, nLt, nEq, nInT, nCl, pk_mul, nI_add, Nat.reduceAdd, s_cat_nil, s_cat_i, s_cat_r, s_cat_f, s_cat_l, tl_s, tl_n, cat_i, cat_r, cat_f, nb0, nb1, nbI, if_bI, if_bIr, Nat.zero_le, Nat.reduceLeDiff]
  exact this
theorem pl_bad {s : Nat} {v1 v2 v3 v4 : Int32} (hs : s ≤ 400) (h5 : kI m 5 = nI s) (K : Q (some (.int (nI s))) (pM m h)) : WP (d + 3) 170 91 [.ref 317, .int v1, .int v2, .int v3, .int v4] [] (pM m h) (0, 0) Q := by
  have n5' := m1_ne (j := s) (by omega)
  have n5 : ¬ kI m 5 = -1 := by rw [h5]; exact n5'
  have e1 := fun Q => r_semi1 (d := d) (h := h) (Q := Q) n5
  have e2 := fun Q => r_end1 (d := d + 1) (h := h) (Q := Q) n5
  rw [u_170_91]
  simp (disch := omega) only [u_170_0, u_170_1, u_170_4, u_170_5, u_170_6, u_170_9, u_170_12, u_170_13, u_170_14, u_170_15, u_170_16, u_170_17, u_170_20, u_170_21, u_170_24, u_170_25, u_170_28, u_170_31, u_170_32, u_170_35, u_170_36, u_170_38, u_170_41, u_170_42, u_170_43, u_170_44, u_170_47, u_170_48, u_170_49, u_170_52, u_170_55, u_170_56, u_170_57, u_170_60, u_170_61, u_170_62, u_170_63, u_170_64, u_170_67, u_170_68, u_170_71, u_170_72, u_170_73, u_170_74, u_170_77, u_170_78, u_170_79, u_170_82, u_170_84, u_170_85, u_170_86, u_170_88, u_170_89, u_170_90, u_170_92, u_170_95, u_170_96, u_170_99, u_170_100, u_170_103, u_170_104, u_170_107, u_170_108, u_170_109, u_170_110, u_170_113, u_170_114, u_170_115, u_170_116, u_170_117, u_170_120, u_170_123, u_170_124, u_170_125, u_170_128, u_170_129, u_170_130, u_170_131, u_170_132, u_170_135, u_170_136, u_170_137, u_170_140, u_170_141, u_170_144, u_170_147, u_170_150, u_170_151, u_170_153, u_170_154, u_170_157, u_170_160, u_170_163, u_170_164, u_170_167, u_170_170, u_170_171, u_170_172, u_170_173, u_170_176, u_170_177, u_170_178, u_170_179, u_170_180, u_170_183, u_170_185, u_170_188, u_170_189, u_170_190, u_170_191, u_170_194, u_170_196, u_170_199, u_170_200, u_170_201, u_170_202, u_170_205, u_170_206, u_170_207, u_170_210, u_170_212, u_170_215, u_170_216, u_170_217, u_170_218, u_170_219, u_170_220, u_170_221, u_170_224, u_170_227, u_170_228, u_170_231, u_170_232, u_170_235, u_170_236, u_170_239, u_170_240, u_170_243, gI0, gIs, gR0, gRs, gF0, gFs, st0, st_i, st_r, st_f, st_n, st_s, true_and, and_true, ↓ifLeT, ↓ifLeF, ↓ifLtT, ↓ifLtF, ↓ifEqT, ↓ifEqF, if_tt, if_ff, if_pos, if_neg, nLe, nLt, nEq, nInT, nCl, pk_mul, nI_add, Nat.reduceAdd, s_cat_nil, s_cat_i, s_cat_r, s_cat_f, s_cat_l, tl_s, tl_n, cat_i, cat_r, cat_f, nb0, nb1, nbI, if_bI, if_bIr, Nat.zero_le, Nat.reduceLeDiff, M_ob, M_g0, M_g1, M_g2, M_g3, M_g4, M_g5, M_g6, M_g7, M_g8, M_g9, M_g10, M_g11, M_g12, M_g13, M_g14, M_g15, M_g16, M_g17, M_g18, M_g19, M_g20, M_g21, M_g22, M_g23, M_g24, M_g25, M_g26, M_g27, M_g28, M_g29, M_g30, M_g31, M_g32, M_g33, M_g34, M_g35, M_g36, M_g37, M_g38, M_g39, M_g40, M_g41, h5, n5', reduceIte, e1]
  rw [u_170_37]
  simp (disch := omega) only [u_170_0, u_170_1, u_170_4, u_170_5, u_170_6, u_170_9, u_170_12, u_170_13, u_170_14, u_170_15, u_170_16, u_170_17, u_170_20, u_170_21, u_170_24, u_170_25, u_170_28, u_170_31, u_170_32, u_170_35, u_170_36, u_170_38, u_170_41, u_170_42, u_170_43, u_170_44, u_170_47, u_170_48, u_170_49, u_170_52, u_170_55, u_170_56, u_170_57, u_170_60, u_170_61, u_170_62, u_170_63, u_170_64, u_170_67, u_170_68, u_170_71, u_170_72, u_170_73, u_170_74, u_170_77, u_170_78, u_170_79, u_170_82, u_170_84, u_170_85, u_170_86, u_170_88, u_170_89, u_170_90, u_170_92, u_170_95, u_170_96, u_170_99, u_170_100, u_170_103, u_170_104, u_170_107, u_170_108, u_170_109, u_170_110, u_170_113, u_170_114, u_170_115, u_170_116, u_170_117, u_170_120, u_170_123, u_170_124, u_170_125, u_170_128, u_170_129, u_170_130, u_170_131, u_170_132, u_170_135, u_170_136, u_170_137, u_170_140, u_170_141, u_170_144, u_170_147, u_170_150, u_170_151, u_170_153, u_170_154, u_170_157, u_170_160, u_170_163, u_170_164, u_170_167, u_170_170, u_170_171, u_170_172, u_170_173, u_170_176, u_170_177, u_170_178, u_170_179, u_170_180, u_170_183, u_170_185, u_170_188, u_170_189, u_170_190, u_170_191, u_170_194, u_170_196, u_170_199, u_170_200, u_170_201, u_170_202, u_170_205, u_170_206, u_170_207, u_170_210, u_170_212, u_170_215, u_170_216, u_170_217, u_170_218, u_170_219, u_170_220, u_170_221, u_170_224, u_170_227, u_170_228, u_170_231, u_170_232, u_170_235, u_170_236, u_170_239, u_170_240, u_170_243, gI0, gIs, gR0, gRs, gF0, gFs, st0, st_i, st_r, st_f, st_n, st_s, true_and, and_true, ↓ifLeT, ↓ifLeF, ↓ifLtT, ↓ifLtF, ↓ifEqT, ↓ifEqF, if_tt, if_ff, if_pos, if_neg, nLe, nLt, nEq, nInT, nCl, pk_mul, nI_add, Nat.reduceAdd, s_cat_nil, s_cat_i, s_cat_r, s_cat_f, s_cat_l, tl_s, tl_n, cat_i, cat_r, cat_f, nb0, nb1, nbI, if_bI, if_bIr, Nat.zero_le, Nat.reduceLeDiff, M_ob, M_g0, M_g1, M_g2, M_g3, M_g4, M_g5, M_g6, M_g7, M_g8, M_g9, M_g10, M_g11, M_g12, M_g13, M_g14, M_g15, M_g16, M_g17, M_g18, M_g19, M_g20, M_g21, M_g22, M_g23, M_g24, M_g25, M_g26, M_g27, M_g28, M_g29, M_g30, M_g31, M_g32, M_g33, M_g34, M_g35, M_g36, M_g37, M_g38, M_g39, M_g40, M_g41, h5, e2]
  exact K
theorem pl_list {c : Nat} {v1 v3 : Int32} (hn : wfN n) (hc : c < nF n 2) : ∀ k m t p l, GD m t → okP t → 400 ≤ eN t 2 + k → MG m n → RR (kA m 320) n → FL (kA m 323) (nF n 2) l → RP p l → wfL (jL n l) → ((rlN n c k t p).1 = true → ∀ m' l', frL m m' → GD m' (rlN n c k t p).2.1 → okP (rlN n c k t p).2.1 → ¬ eI (rlN n c k t p).2.1 3 = nI 2 → FL (kA m' 323) (nF n 2) l' → RP (rlN n c k t p).2.2 l' → wfL (jL n l') → WP (d + 3) 170 227 [.ref 317, .int v1, .int (nI (tbits l')), .int v3, .int (nI c)] [] (pM m' h) (0, 0) Q) → ((rlN n c k t p).1 = false → ∀ m', frL m m' → TT m' (rlN n c k t p).2.1 → eN (rlN n c k t p).2.1 2 ≤ 400 → Q (some (.int (nI (eN (rlN n c k t p).2.1 2)))) (pM m' h)) → WP (d + 3) 170 91 [.ref 317, .int v1, .int (nI (tbits l)), .int v3, .int (nI c)] [] (pM m h) (0, 0) Q := by
  have h4 := hn.1.1
  have h8 := hn.1.2.1
  have ex : ∀ m t l, GD m t → ¬ eI t 3 = nI 2 → WP (d + 3) 170 227 [.ref 317, .int v1, .int (nI (tbits l)), .int v3, .int (nI c)] [] (pM m h) (0, 0) Q → WP (d + 3) 170 91 [.ref 317, .int v1, .int (nI (tbits l)), .int v3, .int (nI c)] [] (pM m h) (0, 0) Q := fun m t l hG hd K => by
    have h5 := hG.2.2.2
    have h6 : ¬ kI m 6 = nI 2 := fun q => hd ((tk_dig hG).mp q)
    rw [u_170_91]
    simp (disch := omega) only [u_170_92, u_170_95, u_170_96, u_170_99, u_170_100, u_170_103, u_170_104, gI0, gIs, gR0, gRs, gF0, gFs, st0, st_i, st_r, st_f, st_n, st_s, true_and, and_true, ↓ifLeT, ↓ifLeF, ↓ifLtT, ↓ifLtF, ↓ifEqT, ↓ifEqF, if_tt, if_ff, if_pos, if_neg, nLe, nLt, nEq, nInT, nCl, pk_mul, nI_add, Nat.reduceAdd, s_cat_nil, s_cat_i, s_cat_r, s_cat_f, s_cat_l, tl_s, tl_n, cat_i, cat_r, cat_f, nb0, nb1, nbI, if_bI, if_bIr, Nat.zero_le, Nat.reduceLeDiff, M_g0, M_g1, M_g2, M_g3, M_g4, M_g5, M_g6, M_g7, M_g8, M_g9, M_g10, M_g11, M_g12, M_g13, M_g14, M_g15, M_g16, M_g17, M_g18, M_g19, M_g20, M_g21, M_g22, M_g23, M_g24, M_g25, M_g26, M_g27, M_g28, M_g29, M_g30, M_g31, M_g32, M_g33, M_g34, M_g35, M_g36, M_g37, M_g38, M_g39, M_g40, M_g41, h5, h6, reduceIte]
    exact K
  intro k
  induction k with
  | zero =>
    intro m t p l hG hP hk hg hr hf hp hl K1 _
    have hd : ¬ eI t 3 = nI 2 := fun q => by
      have := hP (by rw [q]; decide)
      have := hG.2.1.1
      have := hG.2.1.2.1
      omega
    exact ex m t l hG hd (K1 rfl m l frL_r hG hP hd hf hp hl)
  | succ k ih =>
    intro m t p l hG hP hk hg hr hf hp hl K1 K2
    rw [rlN] at K1 K2
    by_cases hd : eI t 3 = nI 2
    · simp only [if_pos hd] at K1 K2
      have h5 := hG.2.2.2
      have h6 := (tk_dig hG).mpr hd
      have r1 : kA m 320 1 = nI (nF n 3) := hr.2.1
      have c1 : (nI 1).toNatClampNeg = 1 := rfl
      have e1 := fun Q => r_isNum (d := d + 1) (h := h) (Q := Q) (lo := nI 0) (hi := nI (nF n 3) - nI 1) hG (by decide)
      have mx := tk_max hG
      have bad : Q (some (.int (nI (eN t 2)))) (pM (xI m 5 (nI (eN t 2))) h) → WP (d + 3) 170 163 [.ref 317, .int v1, .int (nI (tbits l)), .int v3, .int (nI c)] [] (pM m h) (0, 0) Q := fun K => by
        have e2 := fun Q => r_bad0 (d := d + 2) (h := h) (Q := Q) h5 hG.2.2.1.1
        simp (disch := omega) only [u_170_163, u_170_164, u_170_167, gI0, gIs, gR0, gRs, gF0, gFs, st0, st_i, st_r, st_f, st_n, st_s, true_and, and_true, ↓ifLeT, ↓ifLeF, ↓ifLtT, ↓ifLtF, ↓ifEqT, ↓ifEqF, if_tt, if_ff, if_pos, if_neg, nLe, nLt, nEq, nInT, nCl, pk_mul, nI_add, Nat.reduceAdd, s_cat_nil, s_cat_i, s_cat_r, s_cat_f, s_cat_l, tl_s, tl_n, cat_i, cat_r, cat_f, nb0, nb1, nbI, if_bI, if_bIr, Nat.zero_le, Nat.reduceLeDiff, M_ob, e2]
        exact pl_bad (d := d) mx rfl K
      cases hb : isNB t (nI 0) (nI (nF n 3) - nI 1) with
      | false =>
        rw [hb] at e1
        simp only [hb, Bool.false_eq_true, if_false] at K2
        rw [u_170_91]
        simp (disch := omega) only [u_170_92, u_170_95, u_170_96, u_170_99, u_170_100, u_170_103, u_170_104, u_170_107, u_170_108, u_170_109, u_170_110, u_170_113, u_170_114, u_170_115, u_170_116, u_170_117, u_170_120, u_170_123, u_170_124, u_170_125, u_170_128, u_170_129, u_170_130, u_170_131, u_170_132, u_170_135, u_170_136, u_170_137, u_170_140, u_170_141, u_170_144, u_170_147, u_170_150, u_170_151, u_170_153, u_170_154, u_170_157, u_170_160, gI0, gIs, gR0, gRs, gF0, gFs, st0, st_i, st_r, st_f, st_n, st_s, true_and, and_true, ↓ifLeT, ↓ifLeF, ↓ifLtT, ↓ifLtF, ↓ifEqT, ↓ifEqF, if_tt, if_ff, if_pos, if_neg, nLe, nLt, nEq, nInT, nCl, pk_mul, nI_add, Nat.reduceAdd, s_cat_nil, s_cat_i, s_cat_r, s_cat_f, s_cat_l, tl_s, tl_n, cat_i, cat_r, cat_f, nb0, nb1, nbI, if_bI, if_bIr, Nat.zero_le, Nat.reduceLeDiff, M_ob, M_g0, M_g1, M_g2, M_g3, M_g4, M_g5, M_g6, M_g7, M_g8, M_g9, M_g10, M_g11, M_g12, M_g13, M_g14, M_g15, M_g16, M_g17, M_g18, M_g19, M_g20, M_g21, M_g22, M_g23, M_g24, M_g25, M_g26, M_g27, M_g28, M_g29, M_g30, M_g31, M_g32, M_g33, M_g34, M_g35, M_g36, M_g37, M_g38, M_g39, M_g40, M_g41, M_r rb320, h5, h6, c1, r1, e1, iBf, reduceIte]
        exact bad (K2 trivial _ frL_5 (TT_I hG.1 (by decide)) mx)
      | true =>
        obtain ⟨j, hj, ej⟩ := nb_in h8 hb
        have e7 : kI m 7 = nI j := (isNB_v hG (by decide) hb).2.1.trans ej
        have cj : (nI j).toNatClampNeg = j := nCl (by omega)
        rw [hb] at e1
        simp only [hb, if_true, ej, cj] at K1 K2
        obtain ⟨l1, l2⟩ := wl_31 hn hl
        have hh := hold_rel (t := j) hp l1 l2 (by omega)
        have tl : tbits l < 2 ^ 31 := tbits_lt (k := 31) l1
        have hbit := i_bit (m := tbits l) (c := j) tl (by omega)
        have e3 := fun Q => r_left (d := d + 1) (h := h) (Q := Q) rb320 hn hr hj
        have e4 := fun Q => r_lift (d := d + 1) (h := h) (Q := Q) hn hg hr hc hj
        have n01 : ¬ nI 0 = nI 1 := by decide
        cases ht : (tbits l).testBit j with
        | true =>
          obtain ⟨q, hq, hm⟩ := tbits_tb.mp ht
          have ne : ¬ holdP p (nI j) = -1 := by
            rw [hh]
            cases e : holdN l j with
            | none => exact absurd hm (hold_none e hq)
            | some w => exact m1_ne (by have := (hold_some e).1; omega)
          rw [ht, if_pos rfl] at hbit
          simp only [decide_eq_false ne, Bool.and_false, Bool.false_eq_true, if_false] at K2
          rw [u_170_91]
          simp (disch := omega) only [u_170_92, u_170_95, u_170_96, u_170_99, u_170_100, u_170_103, u_170_104, u_170_107, u_170_108, u_170_109, u_170_110, u_170_113, u_170_114, u_170_115, u_170_116, u_170_117, u_170_120, u_170_123, u_170_124, u_170_125, u_170_128, u_170_129, u_170_130, u_170_131, u_170_132, u_170_135, u_170_136, u_170_137, u_170_140, u_170_141, u_170_144, u_170_147, u_170_150, u_170_151, u_170_153, u_170_154, u_170_157, u_170_160, gI0, gIs, gR0, gRs, gF0, gFs, st0, st_i, st_r, st_f, st_n, st_s, true_and, and_true, ↓ifLeT, ↓ifLeF, ↓ifLtT, ↓ifLtF, ↓ifEqT, ↓ifEqF, if_tt, if_ff, if_pos, if_neg, nLe, nLt, nEq, nInT, nCl, pk_mul, nI_add, Nat.reduceAdd, s_cat_nil, s_cat_i, s_cat_r, s_cat_f, s_cat_l, tl_s, tl_n, cat_i, cat_r, cat_f, nb0, nb1, nbI, if_bI, if_bIr, Nat.zero_le, Nat.reduceLeDiff, M_ob, M_g0, M_g1, M_g2, M_g3, M_g4, M_g5, M_g6, M_g7, M_g8, M_g9, M_g10, M_g11, M_g12, M_g13, M_g14, M_g15, M_g16, M_g17, M_g18, M_g19, M_g20, M_g21, M_g22, M_g23, M_g24, M_g25, M_g26, M_g27, M_g28, M_g29, M_g30, M_g31, M_g32, M_g33, M_g34, M_g35, M_g36, M_g37, M_g38, M_g39, M_g40, M_g41, M_r rb320, h5, h6, c1, r1, e1, iBt, nI10, e7, hbit, reduceIte]
          exact bad (K2 trivial _ frL_5 (TT_I hG.1 (by decide)) mx)
        | false =>
          have hno : ∀ q, ¬ j ∈ l q := fun q hq => by
            by_cases q4 : q < 4
            · have := tbits_tb.mpr ⟨q, q4, hq⟩
              rw [ht] at this
              cases this
            · have : l q = [] := hl.1 q (by show nF n 2 ≤ q; omega)
              rw [this] at hq
              cases hq
          have eh : holdP p (nI j) = -1 := by
            rw [hh]
            cases e : holdN l j with
            | none => rfl
            | some w => exact absurd (hold_some e).2 (hno w)
          rw [ht, if_neg Bool.false_ne_true] at hbit
          cases hdn : nDone n j with
          | true =>
            rw [hdn] at e3
            simp only [hdn, Bool.not_true, Bool.false_and, Bool.false_eq_true, if_false] at K2
            rw [u_170_91]
            simp (disch := omega) only [u_170_92, u_170_95, u_170_96, u_170_99, u_170_100, u_170_103, u_170_104, u_170_107, u_170_108, u_170_109, u_170_110, u_170_113, u_170_114, u_170_115, u_170_116, u_170_117, u_170_120, u_170_123, u_170_124, u_170_125, u_170_128, u_170_129, u_170_130, u_170_131, u_170_132, u_170_135, u_170_136, u_170_137, u_170_140, u_170_141, u_170_144, u_170_147, u_170_150, u_170_151, u_170_153, u_170_154, u_170_157, u_170_160, gI0, gIs, gR0, gRs, gF0, gFs, st0, st_i, st_r, st_f, st_n, st_s, true_and, and_true, ↓ifLeT, ↓ifLeF, ↓ifLtT, ↓ifLtF, ↓ifEqT, ↓ifEqF, if_tt, if_ff, if_pos, if_neg, nLe, nLt, nEq, nInT, nCl, pk_mul, nI_add, Nat.reduceAdd, s_cat_nil, s_cat_i, s_cat_r, s_cat_f, s_cat_l, tl_s, tl_n, cat_i, cat_r, cat_f, nb0, nb1, nbI, if_bI, if_bIr, Nat.zero_le, Nat.reduceLeDiff, M_ob, M_g0, M_g1, M_g2, M_g3, M_g4, M_g5, M_g6, M_g7, M_g8, M_g9, M_g10, M_g11, M_g12, M_g13, M_g14, M_g15, M_g16, M_g17, M_g18, M_g19, M_g20, M_g21, M_g22, M_g23, M_g24, M_g25, M_g26, M_g27, M_g28, M_g29, M_g30, M_g31, M_g32, M_g33, M_g34, M_g35, M_g36, M_g37, M_g38, M_g39, M_g40, M_g41, M_r rb320, h5, h6, c1, r1, e1, iBt, iBf, nI10, e7, hbit, n01, e3, Bool.not_true, reduceIte]
            exact bad (K2 trivial _ frL_5 (TT_I hG.1 (by decide)) mx)
          | false =>
            rw [hdn] at e3
            cases hlf : nLift n c j with
            | false =>
              rw [hlf] at e4
              simp only [hlf, Bool.and_false, Bool.false_and, Bool.false_eq_true, if_false] at K2
              rw [u_170_91]
              simp (disch := omega) only [u_170_92, u_170_95, u_170_96, u_170_99, u_170_100, u_170_103, u_170_104, u_170_107, u_170_108, u_170_109, u_170_110, u_170_113, u_170_114, u_170_115, u_170_116, u_170_117, u_170_120, u_170_123, u_170_124, u_170_125, u_170_128, u_170_129, u_170_130, u_170_131, u_170_132, u_170_135, u_170_136, u_170_137, u_170_140, u_170_141, u_170_144, u_170_147, u_170_150, u_170_151, u_170_153, u_170_154, u_170_157, u_170_160, gI0, gIs, gR0, gRs, gF0, gFs, st0, st_i, st_r, st_f, st_n, st_s, true_and, and_true, ↓ifLeT, ↓ifLeF, ↓ifLtT, ↓ifLtF, ↓ifEqT, ↓ifEqF, if_tt, if_ff, if_pos, if_neg, nLe, nLt, nEq, nInT, nCl, pk_mul, nI_add, Nat.reduceAdd, s_cat_nil, s_cat_i, s_cat_r, s_cat_f, s_cat_l, tl_s, tl_n, cat_i, cat_r, cat_f, nb0, nb1, nbI, if_bI, if_bIr, Nat.zero_le, Nat.reduceLeDiff, M_ob, M_g0, M_g1, M_g2, M_g3, M_g4, M_g5, M_g6, M_g7, M_g8, M_g9, M_g10, M_g11, M_g12, M_g13, M_g14, M_g15, M_g16, M_g17, M_g18, M_g19, M_g20, M_g21, M_g22, M_g23, M_g24, M_g25, M_g26, M_g27, M_g28, M_g29, M_g30, M_g31, M_g32, M_g33, M_g34, M_g35, M_g36, M_g37, M_g38, M_g39, M_g40, M_g41, M_r rb320, h5, h6, c1, r1, e1, iBt, iBf, nI10, e7, hbit, n01, e3, e4, Bool.not_false, reduceIte]
              exact bad (K2 trivial _ frL_5 (TT_I hG.1 (by decide)) mx)
            | true =>
              rw [hlf] at e4
              simp only [hdn, hlf, eh, Bool.not_false, Bool.true_and, decide_true, if_true] at K1 K2
              have hlen : (l c).length < 8 := by
                have h1 : (j :: l c).length ≤ nF n 3 := nodup_len (List.nodup_cons.mpr ⟨hno c, (hl.2.1 c).1⟩) fun t ht => by
                  rcases List.mem_cons.mp ht with e | e
                  · rw [e]; exact hj
                  · exact (hl.2.1 c).2 t e
                rw [List.length_cons] at h1
                omega
              have a1 := (hf c hc).1
              have a2 : upd (kA m 323) (9 * c + 1 + (l c).length) (nI j) (9 * c) = nI (l c).length := by rw [upd_ne (by omega)]; exact a1
              have eg : nI (tbits l) ||| nI 1 <<< (nI j &&& 31) = nI (tbits (appF l c j)) := by rw [i_shl1 (by omega), fa_or, tbits_app (by omega)]
              rw [u_170_91]
              simp (disch := omega) only [u_170_92, u_170_95, u_170_96, u_170_99, u_170_100, u_170_103, u_170_104, u_170_107, u_170_108, u_170_109, u_170_110, u_170_113, u_170_114, u_170_115, u_170_116, u_170_117, u_170_120, u_170_123, u_170_124, u_170_125, u_170_128, u_170_129, u_170_130, u_170_131, u_170_132, u_170_135, u_170_136, u_170_137, u_170_140, u_170_141, u_170_144, u_170_147, u_170_150, u_170_151, u_170_153, u_170_154, u_170_157, u_170_160, u_170_163, u_170_164, u_170_167, u_170_170, u_170_171, u_170_172, u_170_173, u_170_176, u_170_177, u_170_178, u_170_179, u_170_180, u_170_183, u_170_185, u_170_188, u_170_189, u_170_190, u_170_191, u_170_194, u_170_196, u_170_199, u_170_200, u_170_201, u_170_202, u_170_205, u_170_206, u_170_207, u_170_210, u_170_212, u_170_215, u_170_216, u_170_217, u_170_218, u_170_219, u_170_220, u_170_221, gI0, gIs, gR0, gRs, gF0, gFs, st0, st_i, st_r, st_f, st_n, st_s, true_and, and_true, ↓ifLeT, ↓ifLeF, ↓ifLtT, ↓ifLtF, ↓ifEqT, ↓ifEqF, if_tt, if_ff, if_pos, if_neg, nLe, nLt, nEq, nInT, nCl, pk_mul, nI_add, Nat.reduceAdd, s_cat_nil, s_cat_i, s_cat_r, s_cat_f, s_cat_l, tl_s, tl_n, cat_i, cat_r, cat_f, nb0, nb1, nbI, if_bI, if_bIr, Nat.zero_le, Nat.reduceLeDiff, M_ob, M_g0, M_g1, M_g2, M_g3, M_g4, M_g5, M_g6, M_g7, M_g8, M_g9, M_g10, M_g11, M_g12, M_g13, M_g14, M_g15, M_g16, M_g17, M_g18, M_g19, M_g20, M_g21, M_g22, M_g23, M_g24, M_g25, M_g26, M_g27, M_g28, M_g29, M_g30, M_g31, M_g32, M_g33, M_g34, M_g35, M_g36, M_g37, M_g38, M_g39, M_g40, M_g41, M_r rb320, M_a323, M_w323, m_lAt, h5, h6, c1, r1, e1, iBt, iBf, nI10, e7, hbit, n01, e3, e4, Bool.not_false, reduceIte, eg, a1, a2, kA_eq, xA_tw, kI_xA]
              have f0 : frL m (xA m 323 (upd (upd (kA m 323) (9 * c + 1 + (l c).length) (nI j)) (9 * c) (nI ((l c).length + 1)))) := frL_A
              refine r_nextT (d := d + 1) (GD_Q (by decide) hG) fun m1 f1 g1 => ?_
              have f2 := frL_t f0 (frL_R f1)
              simp (disch := omega) only [u_170_224, gI0, gIs, gR0, gRs, gF0, gFs, st0, st_i, st_r, st_f, st_n, st_s, true_and, and_true, ↓ifLeT, ↓ifLeF, ↓ifLtT, ↓ifLtF, ↓ifEqT, ↓ifEqF, if_tt, if_ff, if_pos, if_neg, nLe, nLt, nEq, nInT, nCl, pk_mul, nI_add, Nat.reduceAdd, s_cat_nil, s_cat_i, s_cat_r, s_cat_f, s_cat_l, tl_s, tl_n, cat_i, cat_r, cat_f, nb0, nb1, nbI, if_bI, if_bIr, Nat.zero_le, Nat.reduceLeDiff]
              refine ih m1 (advT t) (addP p c (nI j)) (appF l c j) g1 (okP_adv hG.2.1) ?_ (MG_fz hg (frL_Z f2)) (by rw [f2.2.2 320 (by decide)]; exact hr) ?_ (RP_add hp (by omega) hlen l2) (wfL_app hl hc hj hno) (fun e m' l' f => K1 e m' l' (frL_t f2 f)) (fun e m' f => K2 e m' (frL_t f2 f))
              · have := hP (by rw [hd]; decide)
                have := (adv_pos (okT_0 hG.2.1)).1
                omega
              · rw [kA_R f1, kA_eq]
                exact FL_app hlen l2 hf
    · simp only [if_neg hd] at K1
      exact ex m t l hG hd (K1 trivial m l frL_r hG hP hd hf hp hl)
end MPL
