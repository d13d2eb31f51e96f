/-! the class's calls that read -/
def tE (t t' : tO) : Prop := eN t' 1 = eN t 1 ∧ eA t' 0 = eA t 0
theorem tE_r {t : tO} : tE t t := ⟨rfl, rfl⟩
theorem tE_t {a b c : tO} (h1 : tE a b) (h2 : tE b c) : tE a c := ⟨h2.1.trans h1.1, h2.2.trans h1.2⟩
theorem adv_E {t : tO} : tE t (advT t) := by
  unfold advT
  split
  · exact ⟨rfl, rfl⟩
  · split
    · exact ⟨rfl, rfl⟩
    · split
      · exact ⟨rfl, rfl⟩
      · exact ⟨rfl, rfl⟩
theorem rew_E {t : tO} : tE t (rewT t) := tE_t (b := vN t 5 0) ⟨rfl, rfl⟩ adv_E
theorem nm_E {t : tO} {j : Nat} : tE t (nmT t j) := by
  unfold nmT
  split
  · exact adv_E
  · exact tE_r
theorem nma_E {t : tO} {j : Nat} : tE t (advT (nmT t j)) := tE_t nm_E adv_E
theorem rdC_E {t : tO} {y : tY} : tE t (rdC t y).2.1 := by
  unfold rdC
  split
  · split
    · split
      · exact tE_t nma_E nma_E
      · exact tE_t nma_E nm_E
    · exact nma_E
  · exact nm_E
theorem hv_E {t : tO} : tE t (hvF t).2.1 := by
  unfold hvF
  split
  · split
    · exact nma_E
    · exact nm_E
  · exact tE_r
theorem af_E {w : Int32} : ∀ f t x, tE t (afF w f t x).2.1
  | 0, t, x => tE_r
  | f + 1, t, x => by
    rw [afF]
    split
    · split
      · exact tE_t nma_E (af_E f _ _)
      · exact nm_E
    · exact tE_r
theorem en_E {a b c e : Int32} {t : tO} {y : tY} : tE t (enF a b c e t y).2.1 := by
  unfold enF
  split
  · exact af_E _ _ _
  · exact af_E _ _ _
theorem rdT_E {w : Int32} {t : tO} {y : tY} : tE t (rdT w t y).2.1 := by
  unfold rdT
  split
  · split
    · split
      · split
        · exact tE_t adv_E (tE_t nma_E (tE_t nma_E (tE_t hv_E en_E)))
        · exact tE_t adv_E (tE_t nma_E (tE_t nma_E hv_E))
      · exact tE_t adv_E (tE_t nma_E nm_E)
    · exact tE_t adv_E nm_E
  · exact tE_r
theorem rdL_E : ∀ k j t y, tE t (rdL k j t y).2.1
  | 0, j, t, y => tE_r
  | k + 1, j, t, y => by
    rw [rdL]
    split
    · split
      · exact rdT_E
      · split
        · exact tE_t rdT_E (tE_t adv_E (rdL_E k _ _ _))
        · exact rdT_E
    · exact rdT_E
theorem rdK_E : ∀ k j t y, tE t (rdK k j t y).2.1
  | 0, j, t, y => rdL_E 8 0 t y
  | k + 1, j, t, y => by
    rw [rdK]
    split
    · split
      · split
        · exact rdC_E
        · split
          · exact tE_t rdC_E (tE_t adv_E (rdK_E k _ _ _))
          · exact rdC_E
      · exact rdC_E
    · exact rdL_E 8 0 t y
theorem gp_E {t : tO} {y : tY} : tE t (gpF t y).2.1 := by
  unfold gpF
  split
  · split
    · split
      · exact tE_t nma_E adv_E
      · exact nma_E
    · exact nm_E
  · exact tE_r
theorem rdQ_E {t : tO} {y : tY} : tE t (rdQ t y).2.1 := by
  unfold rdQ
  split
  · split
    · split
      · exact tE_t rew_E (tE_t nma_E (tE_t adv_E (tE_t gp_E (rdK_E _ _ _ _))))
      · exact tE_t rew_E (tE_t nma_E (tE_t adv_E gp_E))
    · exact tE_t rew_E nma_E
  · exact tE_t rew_E nm_E
theorem rl_E {n : tN} {c : Nat} : ∀ k t p, tE t (rlN n c k t p).2.1
  | 0, t, p => tE_r
  | k + 1, t, p => by
    rw [rlN]
    split
    · split
      · split
        · exact tE_t adv_E (rl_E k _ _)
        · exact tE_r
      · exact tE_r
    · exact tE_r
theorem rp_E {n : tN} : ∀ k nm t p, tE t (rpN n k nm t p).2.1
  | 0, nm, t, p => tE_r
  | k + 1, nm, t, p => by
    have h := fun c => tE_t (adv_E (t := t)) (rl_E (n := n) (c := c) 400 (advT t) p)
    rw [rpN]
    split
    · split
      · exact tE_r
      · split
        · split
          · exact h _
          · split
            · exact tE_t (h _) (tE_t adv_E (rp_E k _ _ _))
            · exact h _
        · exact h _
    · exact tE_r
theorem rdPN_E {n : tN} {t : tO} {p : tP} : tE t (rdPN t p n).2.1 := by
  unfold rdPN
  split
  · exact rew_E
  · exact tE_t rew_E (rp_E _ _ _ _)
theorem mvL_E : ∀ k c t f, tE t (mvL k c t f).2.1
  | 0, c, t, f => tE_r
  | k + 1, c, t, f => by
    rw [mvL]
    split
    · exact tE_t adv_E (mvL_E k _ _ _)
    · exact tE_r
theorem mvN_E {C : Nat} : ∀ k l t f, tE t (mvN C k l t f).2.1
  | 0, l, t, f => tE_r
  | k + 1, l, t, f => by
    rw [mvN]
    split
    · split
      · exact mvL_E _ _ _ _
      · split
        · exact tE_t (mvL_E _ _ _ _) (tE_t adv_E (mvN_E k _ _ _))
        · exact mvL_E _ _ _ _
    · exact mvL_E _ _ _ _
theorem rdM_E {t : tO} {C : Nat} : tE t (rdM t C).2.1 := tE_t rew_E (mvN_E _ _ _ _)
section RCA
variable {b d : Nat} {s s' : tS} {h : sH} {i x w : Int32} {Q : sQ} {z : tQ} {n n' : tN} {y y' : tY} {k : sK} {t : tO} {p : tP}
theorem IC_read (hI : IC s z) (hT : SO s' 2 = t) (hD : SY s' 4 = y) (hP : SP s' 20 = p) (ht : tE (zT z) t) (hW : gW y) (g1 : ∀ k, k ≠ 104 → eN (SG s') k = eN (SG s) k) (g2 : eB (SG s') = eB (SG s)) (g3 : ∀ k, k ≠ 103 → eA (SG s') k = eA (SG s) k) (yq : ∀ q, q ≠ 4 → SY s' q = SY s q) (oq : ∀ q, q ≠ 2 → SO s' q = SO s q) : IC s' (jP (jD (jT z t) y) p) := by
  obtain ⟨⟨t1, t2, t3, t4, t5⟩, hq, ⟨a1, a2, a3⟩, ⟨i1, i2⟩, hr, ⟨c1, c2⟩⟩ := hI
  have ac : ∀ j, acI s' j = acI s j := fun j => by unfold acI; rw [g1 201 (by decide)]
  refine ⟨⟨hT, hD, hP, by show eN t 1 ≤ 400; rw [ht.1]; exact t4, hW⟩, ?_, ⟨?_, by rw [g1 202 (by decide)]; exact a2, fun j a e => ?_⟩, ⟨by rw [g2]; exact i1, fun a e => ?_⟩, fun k hk => by rw [g3 14 (by decide)]; exact hr k hk, ⟨?_, fun b hb => ?_⟩⟩
  · show icQ (SY s' 24) (zQ z)
    rw [yq 24 (by decide)]
    exact hq
  · unfold okG at *
    rw [g1 201 (by decide), g1 202 (by decide)]
    exact a1
  · have := acI_ne s j
    rw [ac, yq _ (by omega)]
    exact a3 j a e
  · rw [yq 56 (by decide)]
    exact i2 a e
  · rw [oq 234 (by decide)]; exact c1
  · rw [oq b (by rcases hb with e | e | e | e | ⟨j, hj, e⟩ <;> omega)]; exact c2 b hb
theorem r_quay (hI : IC s z) (K : ∀ s', IC s' (jD (jT z (rdQ (zT z) (zD z)).2.1) (rdQ (zT z) (zD z)).2.2) → Q (some (.int (iB (rdQ (zT z) (zD z)).1))) (pS s' h)) : MT (d + 6) 31 [.ref 1] (pS s h) Q := by
  have e := m_readsQuay (d := d) (s := s) (h := h) (Q := Q) (by rw [hI.1.1]; exact hI.1.2.2.2.1)
  rw [hI.1.1, hI.1.2.1] at e
  rw [e]
  refine K _ ?_
  have hW : gW (zD z) := hI.1.2.2.2.2
  have y4 : ∀ q, q ≠ 4 → SY (s24 s (rdQ (zT z) (zD z)).2.1 (rdQ (zT z) (zD z)).2.2) q = SY s q := fun q hq => if_neg hq
  have o2 : ∀ q, q ≠ 2 → SO (s24 s (rdQ (zT z) (zD z)).2.1 (rdQ (zT z) (zD z)).2.2) q = SO s q := fun q hq => if_neg hq
  exact IC_read (p := zP z) hI rfl rfl hI.1.2.2.1 rdQ_E (rdQ_W hW) (fun _ _ => rfl) rfl (fun _ _ => rfl) y4 o2
theorem r_plan (hI : IC s z) (hq : zQ z = some n) (K : ∀ s', IC s' (jP (jT z (rdPN (zT z) (zP z) n).2.1) (rdPN (zT z) (zP z) n).2.2) → Q (some (.int (iB (rdPN (zT z) (zP z) n).1))) (pS s' h)) : MT (d + 4) 32 [.ref 1, .ref 24] (pS s h) Q := by
  obtain ⟨hy, hok⟩ := IC_y hI hq
  have e := m_readsPlan (d := d) (s := s) (h := h) (Q := Q) (by rw [hI.1.1]; exact hI.1.2.2.2.1) (IC_C4 hI) (by rw [hy.1.2.2.2.1]; exact hok.1.1.2.1)
  rw [hI.1.1, hI.1.2.2.1, rdP_eq hok.1 hy] at e
  rw [e]
  refine K _ ?_
  have o2 : ∀ q, q ≠ 2 → SO (s3 s (rdPN (zT z) (zP z) n).2.1 (rdPN (zT z) (zP z) n).2.2) q = SO s q := fun q hq => if_neg hq
  exact IC_read (y := zD z) hI s3_O hI.1.2.1 s3_P rdPN_E hI.1.2.2.2.2 (fun _ _ => rfl) rfl (fun _ _ => rfl) (fun _ _ => rfl) o2
/-- MOVES: the lines that were read -/
def linesOK (s : tS) (C L : Nat) (f : Nat → Nat → Int32) : Prop := L ≤ 40 ∧ eN (SG s) 104 = L ∧ ∀ l c, l < L → c < C → eA (SG s) 103 (l * 4 + c) = f l c ∧ ∃ b, f l c = nI b ∧ b ≤ 99
theorem mvI_rel {l : Nat} : ∀ k c t g f, c + k ≤ 4 → (mvI l k c t g).1 = (mvL k c t f).1 ∧ (mvI l k c t g).2.1 = (mvL k c t f).2.1 ∧ (∀ q, q ≠ 103 → eA (mvI l k c t g).2.2 q = eA g q) ∧ eN (mvI l k c t g).2.2 = eN g ∧ eB (mvI l k c t g).2.2 = eB g ∧ (∀ j, (j < l * 4 + c ∨ l * 4 + c + k ≤ j) → eA (mvI l k c t g).2.2 103 j = eA g 103 j) ∧ ((mvL k c t f).1 = true → ∀ q, c ≤ q → q < c + k → eA (mvI l k c t g).2.2 103 (l * 4 + q) = (mvL k c t f).2.2 q ∧ ∃ b, (mvL k c t f).2.2 q = nI b ∧ b ≤ 99) ∧ (∀ q, q < c → (mvL k c t f).2.2 q = f q)
  | 0, c, t, g, f, hc => ⟨rfl, rfl, fun _ _ => rfl, rfl, rfl, fun _ _ => rfl, fun _ q a b => absurd b (by omega), fun _ _ => rfl⟩
  | k + 1, c, t, g, f, hc => by
    rw [mvI, mvL]
    by_cases h1 : isNB t (nI 0) (nI 99) = true
    · rw [if_pos h1, if_pos h1]
      obtain ⟨-, b, hb, -, hb2⟩ := nb_of (by omega) (by omega) h1
      obtain ⟨r1, r2, r3, r4, r5, r6, r7, r8⟩ := mvI_rel (l := l) k (c + 1) (advT t) (vA g 103 (upd (eA g 103) (l * 4 + c) (eI t 4))) (upd f c (eI t 4)) (by omega)
      refine ⟨r1, r2, fun q hq => (r3 q hq).trans (if_neg hq), r4, r5, fun j hj => (r6 j (by omega)).trans ?_, fun ok q a b2 => ?_, fun q hq => (r8 q (by omega)).trans ?_⟩
      · rw [eA_vA, if_pos rfl]
        unfold upd
        rw [if_neg (by omega)]
      · by_cases e : q = c
        · subst e
          have e1 : (mvL k (q + 1) (advT t) (upd f q (eI t 4))).2.2 q = eI t 4 := by
            rw [r8 q (by omega)]
            unfold upd
            rw [if_pos rfl]
          refine ⟨?_, b, by rw [e1, hb], hb2⟩
          rw [r6 _ (by omega), e1, eA_vA, if_pos rfl]
          unfold upd
          rw [if_pos rfl]
        · exact r7 ok q (by omega) (by omega)
      · unfold upd
        rw [if_neg (by omega)]
    · rw [if_neg h1, if_neg h1]
      exact ⟨rfl, rfl, fun _ _ => rfl, rfl, rfl, fun _ _ => rfl, fun e => absurd e Bool.false_ne_true, fun _ _ => rfl⟩
theorem mvO_rel {C : Nat} (hC : C ≤ 4) : ∀ k l t g f, l + k = 40 → (∀ j c, j < l → c < C → eA g 103 (j * 4 + c) = f j c ∧ ∃ b, f j c = nI b ∧ b ≤ 99) → (mvO C k l t g).1 = (mvN C k l t f).1 ∧ (mvO C k l t g).2.1 = (mvN C k l t f).2.1 ∧ (∀ q, q ≠ 103 → eA (mvO C k l t g).2.2 q = eA g q) ∧ (∀ q, q ≠ 104 → eN (mvO C k l t g).2.2 q = eN g q) ∧ eB (mvO C k l t g).2.2 = eB g ∧ ((mvN C k l t f).1 = true → (mvN C k l t f).2.2.1 ≤ 40 ∧ eN (mvO C k l t g).2.2 104 = (mvN C k l t f).2.2.1 ∧ ∀ j c, j < (mvN C k l t f).2.2.1 → c < C → eA (mvO C k l t g).2.2 103 (j * 4 + c) = (mvN C k l t f).2.2.2 j c ∧ ∃ b, (mvN C k l t f).2.2.2 j c = nI b ∧ b ≤ 99)
  | 0, l, t, g, f, hl, hf => ⟨rfl, rfl, fun _ _ => rfl, fun _ _ => rfl, rfl, fun e => absurd e Bool.false_ne_true⟩
  | k + 1, l, t, g, f, hl, hf => by
    obtain ⟨r1, r2, r3, r4, r5, r6, r7, r8⟩ := mvI_rel (l := l) C 0 t g (fun _ => 0) (by omega)
    rw [mvO, mvN, r1]
    by_cases h1 : (mvL C 0 t (fun _ => 0)).1 = true
    · rw [if_pos h1, if_pos h1, r2]
      have r7 := r7 h1
      have hf' : ∀ j c, j < l + 1 → c < C → eA (mvI l C 0 t g).2.2 103 (j * 4 + c) = (if j = l then (mvL C 0 t (fun _ => 0)).2.2 else f j) c ∧ ∃ b, (if j = l then (mvL C 0 t (fun _ => 0)).2.2 else f j) c = nI b ∧ b ≤ 99 := fun j c hj hc => by
        by_cases e : j = l
        · subst e
          rw [if_pos rfl]
          exact r7 c (Nat.zero_le _) (by omega)
        · rw [if_neg e, r6 _ (by omega)]
          exact hf j c (by omega) hc
      by_cases h2 : eI (mvL C 0 t (fun _ => 0)).2.1 3 = nI 0
      · rw [if_pos h2, if_pos h2]
        exact ⟨rfl, rfl, r3, fun q hq => by rw [eN_vN, if_neg hq, r4], r5, fun _ => ⟨by show l + 1 ≤ 40; omega, by rw [eN_vN, if_pos rfl], hf'⟩⟩
      · rw [if_neg h2, if_neg h2]
        by_cases h3 : eI (mvL C 0 t (fun _ => 0)).2.1 3 = nI 3
        · rw [if_pos h3, if_pos h3]
          obtain ⟨s1, s2, s3, s4, s5, s6⟩ := mvO_rel hC k (l + 1) (advT (mvL C 0 t (fun _ => 0)).2.1) (vN (mvI l C 0 t g).2.2 104 (l + 1)) (fun q => if q = l then (mvL C 0 t (fun _ => 0)).2.2 else f q) (by omega) hf'
          exact ⟨s1, s2, fun q hq => (s3 q hq).trans (r3 q hq), fun q hq => (s4 q hq).trans (by rw [eN_vN, if_neg hq, r4]), s5.trans r5, s6⟩
        · rw [if_neg h3, if_neg h3]
          exact ⟨rfl, rfl, r3, fun q hq => by rw [eN_vN, if_neg hq, r4], r5, fun e => absurd e Bool.false_ne_true⟩
    · rw [if_neg h1, if_neg h1]
      exact ⟨rfl, r2, r3, fun q _ => by rw [r4], r5, fun e => absurd e Bool.false_ne_true⟩
theorem r_moves (hI : IC s z) (hq : zQ z = some n) (K : ∀ s', IC s' (jT z (rdM (zT z) (nF n 2)).2.1) → ((rdM (zT z) (nF n 2)).1 = true → linesOK s' (nF n 2) (rdM (zT z) (nF n 2)).2.2.1 (rdM (zT z) (nF n 2)).2.2.2) → Q (some (.int (iB (rdM (zT z) (nF n 2)).1))) (pS s' h)) : MT (d + 4) 33 [.ref 1, .int (nI (nF n 2))] (pS s h) Q := by
  obtain ⟨hy, hok⟩ := IC_y hI hq
  have h4 := hok.1.1.1
  have e := m_readsMoves (d := d) (s := s) (h := h) (Q := Q) (C := nF n 2) h4 (by rw [hI.1.1]; exact hI.1.2.2.2.1)
  rw [e]
  unfold rmS
  rw [hI.1.1]
  obtain ⟨s1, s2, s3, s4, s5, s6⟩ := mvO_rel h4 40 0 (rewT (zT z)) (vN (SG s) 104 0) (fun _ _ => 0) rfl (fun j c hj => absurd hj (Nat.not_lt_zero j))
  have s1 : (mvO (nF n 2) 40 0 (rewT (zT z)) (vN (SG s) 104 0)).1 = (rdM (zT z) (nF n 2)).1 := s1
  have s2 : (mvO (nF n 2) 40 0 (rewT (zT z)) (vN (SG s) 104 0)).2.1 = (rdM (zT z) (nF n 2)).2.1 := s2
  rw [s1, s2]
  generalize (mvO (nF n 2) 40 0 (rewT (zT z)) (vN (SG s) 104 0)).2.2 = G at s3 s4 s5 s6 ⊢
  have o2 : ∀ q, q ≠ 2 → SO (stt s (rdM (zT z) (nF n 2)).2.1 G) q = SO s q := fun q hq => if_neg hq
  refine K _ (IC_read (y := zD z) (p := zP z) hI stt_O hI.1.2.1 hI.1.2.2.1 rdM_E hI.1.2.2.2.2 (fun k hk => ?_) s5 s3 (fun _ _ => rfl) o2) fun ok => ?_
  · exact (s4 k hk).trans (by rw [eN_vN, if_neg hk])
  · exact s6 ok
theorem q_fault (hI : IC s z) (K : ∀ s', IC s' (zfault z w).2 → Q (some (.int (zfault z w).1)) (pS s' h)) : MT (d + 7) 92 [.ref 0, .int w] (pS s h) Q := by
  rw [MT_go (by decide) _ _ _ (Nat.le_of_ble_eq_true rfl), show s_entry 92 [.ref 0, .int w] = [.ref 0, .int w, s_no] from rfl]
  unfold zfault at K
  by_cases h0 : w = nI 0
  · simp only [if_pos h0] at K
    subst h0
    simp (disch := omega) only [u_92_0, u_92_1, u_92_4, u_92_5, u_92_8, u_92_11, u_92_14, u_92_15, u_92_18, u_92_19, u_92_22, u_92_25, u_92_26, u_92_27, u_92_30, u_92_33, u_92_34, u_92_37, u_92_38, u_92_39, u_92_42, u_92_44, u_92_45, u_92_46, u_92_47, u_92_50, u_92_51, u_92_54, u_92_55, u_92_58, u_92_61, u_92_64, u_92_65, u_92_68, u_92_69, u_92_72, u_92_75, u_92_78, u_92_79, u_92_80, u_92_83, u_92_84, u_92_87, u_92_88, u_92_91, u_92_94, gI0, gIs, gR0, gRs, gF0, gFs, st0, st_i, st_r, st_f, st_n, st_s, true_and, and_true, ↓ifLeT, ↓ifLeF, ↓ifLtT, ↓ifLtF, ↓ifEqT, ↓ifEqF, if_tt, if_ff, if_pos, if_neg, nLe, nLt, nEq, nInT, nCl, pk_mul, nI_add, Nat.reduceAdd, s_cat_nil, s_cat_i, s_cat_r, s_cat_f, s_cat_l, tl_s, tl_n, cat_i, cat_r, cat_f, nb0, nb1, nbI, if_bI, if_bIr, Nat.zero_le, Nat.reduceLeDiff, S_ob0, S_ob1, S_g0_0, S_g0_1, S_g0_2, S_g0_3, S_g0_4, S_g0_5, S_g0_6, S_g0_7, S_g0_8, S_g0_9, S_g0_10, S_g0_11, S_g0_12, S_g0_13, S_g0_14, S_g1_0, S_g1_1, S_g1_2, S_g1_3, S_g1_4, S_g72_0, S_g72_1, S_g72_2, S_g239_0, S_g239_1, S_g239_2, S_g239_3, S_g239_4, S_g239_5, S_g239_6, S_a23, S_n23, S_a282, S_n282, S_a300, S_n300, S_n73, S_n299]
    refine r_quay hI fun s' hI' => ?_
    cases hr : (rdQ (zT z) (zD z)).1 with
    | true =>
      simp only [hr, if_true] at K
      simp (disch := omega) only [u_92_0, u_92_1, u_92_4, u_92_5, u_92_8, u_92_11, u_92_14, u_92_15, u_92_18, u_92_19, u_92_22, u_92_25, u_92_26, u_92_27, u_92_30, u_92_33, u_92_34, u_92_37, u_92_38, u_92_39, u_92_42, u_92_44, u_92_45, u_92_46, u_92_47, u_92_50, u_92_51, u_92_54, u_92_55, u_92_58, u_92_61, u_92_64, u_92_65, u_92_68, u_92_69, u_92_72, u_92_75, u_92_78, u_92_79, u_92_80, u_92_83, u_92_84, u_92_87, u_92_88, u_92_91, u_92_94, gI0, gIs, gR0, gRs, gF0, gFs, st0, st_i, st_r, st_f, st_n, st_s, true_and, and_true, ↓ifLeT, ↓ifLeF, ↓ifLtT, ↓ifLtF, ↓ifEqT, ↓ifEqF, if_tt, if_ff, if_pos, if_neg, nLe, nLt, nEq, nInT, nCl, pk_mul, nI_add, Nat.reduceAdd, s_cat_nil, s_cat_i, s_cat_r, s_cat_f, s_cat_l, tl_s, tl_n, cat_i, cat_r, cat_f, nb0, nb1, nbI, if_bI, if_bIr, Nat.zero_le, Nat.reduceLeDiff, S_ob0, iBt, nI10, reduceIte]
      exact K s' hI'
    | false =>
      simp only [hr, Bool.false_eq_true, if_false] at K
      have e2 : SO s' 2 = (rdQ (zT z) (zD z)).2.1 := hI'.1.1
      simp (disch := omega) only [u_92_0, u_92_1, u_92_4, u_92_5, u_92_8, u_92_11, u_92_14, u_92_15, u_92_18, u_92_19, u_92_22, u_92_25, u_92_26, u_92_27, u_92_30, u_92_33, u_92_34, u_92_37, u_92_38, u_92_39, u_92_42, u_92_44, u_92_45, u_92_46, u_92_47, u_92_50, u_92_51, u_92_54, u_92_55, u_92_58, u_92_61, u_92_64, u_92_65, u_92_68, u_92_69, u_92_72, u_92_75, u_92_78, u_92_79, u_92_80, u_92_83, u_92_84, u_92_87, u_92_88, u_92_91, u_92_94, gI0, gIs, gR0, gRs, gF0, gFs, st0, st_i, st_r, st_f, st_n, st_s, true_and, and_true, ↓ifLeT, ↓ifLeF, ↓ifLtT, ↓ifLtF, ↓ifEqT, ↓ifEqF, if_tt, if_ff, if_pos, if_neg, nLe, nLt, nEq, nInT, nCl, pk_mul, nI_add, Nat.reduceAdd, s_cat_nil, s_cat_i, s_cat_r, s_cat_f, s_cat_l, tl_s, tl_n, cat_i, cat_r, cat_f, nb0, nb1, nbI, if_bI, if_bIr, Nat.zero_le, Nat.reduceLeDiff, S_ob0, S_g0_0, S_g0_1, S_g0_2, S_g0_3, S_g0_4, S_g0_5, S_g0_6, S_g0_7, S_g0_8, S_g0_9, S_g0_10, S_g0_11, S_g0_12, S_g0_13, S_g0_14, S_g1_0, S_g1_1, S_g1_2, S_g1_3, S_g1_4, S_g72_0, S_g72_1, S_g72_2, S_g239_0, S_g239_1, S_g239_2, S_g239_3, S_g239_4, S_g239_5, S_g239_6, S_a23, S_n23, S_a282, S_n282, S_a300, S_n300, S_n73, S_n299, iBf, T_g2, e2]
      exact K s' hI'
  · simp only [if_neg h0] at K
    have e0 := fun Q => q_has (d := d + 5) (h := h) (Q := Q) hI
    cases hq : zQ z with
    | none =>
      simp only [hq] at K
      simp (disch := omega) only [u_92_0, u_92_1, u_92_4, u_92_5, u_92_8, u_92_11, u_92_14, u_92_15, u_92_18, u_92_19, u_92_22, u_92_25, u_92_26, u_92_27, u_92_30, u_92_33, u_92_34, u_92_37, u_92_38, u_92_39, u_92_42, u_92_44, u_92_45, u_92_46, u_92_47, u_92_50, u_92_51, u_92_54, u_92_55, u_92_58, u_92_61, u_92_64, u_92_65, u_92_68, u_92_69, u_92_72, u_92_75, u_92_78, u_92_79, u_92_80, u_92_83, u_92_84, u_92_87, u_92_88, u_92_91, u_92_94, gI0, gIs, gR0, gRs, gF0, gFs, st0, st_i, st_r, st_f, st_n, st_s, true_and, and_true, ↓ifLeT, ↓ifLeF, ↓ifLtT, ↓ifLtF, ↓ifEqT, ↓ifEqF, if_tt, if_ff, if_pos, if_neg, nLe, nLt, nEq, nInT, nCl, pk_mul, nI_add, Nat.reduceAdd, s_cat_nil, s_cat_i, s_cat_r, s_cat_f, s_cat_l, tl_s, tl_n, cat_i, cat_r, cat_f, nb0, nb1, nbI, if_bI, if_bIr, Nat.zero_le, Nat.reduceLeDiff, S_ob0, h0, e0, hq, Option.isSome, iBf, reduceIte]
      exact K s hI
    | some n =>
      simp only [hq] at K
      obtain ⟨hy, hok⟩ := IC_y hI hq
      have hC := hy.1.2.2.1
      cases h1 : ixN w 3 with
      | none =>
        have n1 : ¬ w = nI 1 := fun e => by rw [e, ix_nI (by decide) (by decide)] at h1; cases h1
        have n2 : ¬ w = nI 2 := fun e => by rw [e, ix_nI (by decide) (by decide)] at h1; cases h1
        simp only [if_neg n1, if_neg n2] at K
        rcases ix_out (by decide) (by decide) h1 with a | ⟨a, -, -, b1, b2⟩
        · simp (disch := omega) only [u_92_0, u_92_1, u_92_4, u_92_5, u_92_8, u_92_11, u_92_14, u_92_15, u_92_18, u_92_19, u_92_22, u_92_25, u_92_26, u_92_27, u_92_30, u_92_33, u_92_34, u_92_37, u_92_38, u_92_39, u_92_42, u_92_44, u_92_45, u_92_46, u_92_47, u_92_50, u_92_51, u_92_54, u_92_55, u_92_58, u_92_61, u_92_64, u_92_65, u_92_68, u_92_69, u_92_72, u_92_75, u_92_78, u_92_79, u_92_80, u_92_83, u_92_84, u_92_87, u_92_88, u_92_91, u_92_94, gI0, gIs, gR0, gRs, gF0, gFs, st0, st_i, st_r, st_f, st_n, st_s, true_and, and_true, ↓ifLeT, ↓ifLeF, ↓ifLtT, ↓ifLtF, ↓ifEqT, ↓ifEqF, if_tt, if_ff, if_pos, if_neg, nLe, nLt, nEq, nInT, nCl, pk_mul, nI_add, Nat.reduceAdd, s_cat_nil, s_cat_i, s_cat_r, s_cat_f, s_cat_l, tl_s, tl_n, cat_i, cat_r, cat_f, nb0, nb1, nbI, if_bI, if_bIr, Nat.zero_le, Nat.reduceLeDiff, S_ob0, h0, e0, hq, Option.isSome, iBt, nI10, reduceIte, a]
          exact K s hI
        · have b2 : ¬ w ≤ nI 2 := b2
          simp (disch := omega) only [u_92_0, u_92_1, u_92_4, u_92_5, u_92_8, u_92_11, u_92_14, u_92_15, u_92_18, u_92_19, u_92_22, u_92_25, u_92_26, u_92_27, u_92_30, u_92_33, u_92_34, u_92_37, u_92_38, u_92_39, u_92_42, u_92_44, u_92_45, u_92_46, u_92_47, u_92_50, u_92_51, u_92_54, u_92_55, u_92_58, u_92_61, u_92_64, u_92_65, u_92_68, u_92_69, u_92_72, u_92_75, u_92_78, u_92_79, u_92_80, u_92_83, u_92_84, u_92_87, u_92_88, u_92_91, u_92_94, gI0, gIs, gR0, gRs, gF0, gFs, st0, st_i, st_r, st_f, st_n, st_s, true_and, and_true, ↓ifLeT, ↓ifLeF, ↓ifLtT, ↓ifLtF, ↓ifEqT, ↓ifEqF, if_tt, if_ff, if_pos, if_neg, nLe, nLt, nEq, nInT, nCl, pk_mul, nI_add, Nat.reduceAdd, s_cat_nil, s_cat_i, s_cat_r, s_cat_f, s_cat_l, tl_s, tl_n, cat_i, cat_r, cat_f, nb0, nb1, nbI, if_bI, if_bIr, Nat.zero_le, Nat.reduceLeDiff, S_ob0, h0, e0, hq, Option.isSome, iBt, nI10, reduceIte, a, b2]
          exact K s hI
      | some k =>
        obtain ⟨k1, rfl⟩ := ix_some (by omega) h1
        match k, k1 with
        | 0, _ => exact absurd rfl h0
        | 1, _ =>
          simp only [if_true] at K
          simp (disch := omega) only [u_92_0, u_92_1, u_92_4, u_92_5, u_92_8, u_92_11, u_92_14, u_92_15, u_92_18, u_92_19, u_92_22, u_92_25, u_92_26, u_92_27, u_92_30, u_92_33, u_92_34, u_92_37, u_92_38, u_92_39, u_92_42, u_92_44, u_92_45, u_92_46, u_92_47, u_92_50, u_92_51, u_92_54, u_92_55, u_92_58, u_92_61, u_92_64, u_92_65, u_92_68, u_92_69, u_92_72, u_92_75, u_92_78, u_92_79, u_92_80, u_92_83, u_92_84, u_92_87, u_92_88, u_92_91, u_92_94, gI0, gIs, gR0, gRs, gF0, gFs, st0, st_i, st_r, st_f, st_n, st_s, true_and, and_true, ↓ifLeT, ↓ifLeF, ↓ifLtT, ↓ifLtF, ↓ifEqT, ↓ifEqF, if_tt, if_ff, if_pos, if_neg, nLe, nLt, nEq, nInT, nCl, pk_mul, nI_add, Nat.reduceAdd, s_cat_nil, s_cat_i, s_cat_r, s_cat_f, s_cat_l, tl_s, tl_n, cat_i, cat_r, cat_f, nb0, nb1, nbI, if_bI, if_bIr, Nat.zero_le, Nat.reduceLeDiff, S_ob0, S_ob1, S_g0_0, S_g0_1, S_g0_2, S_g0_3, S_g0_4, S_g0_5, S_g0_6, S_g0_7, S_g0_8, S_g0_9, S_g0_10, S_g0_11, S_g0_12, S_g0_13, S_g0_14, S_g1_0, S_g1_1, S_g1_2, S_g1_3, S_g1_4, S_g72_0, S_g72_1, S_g72_2, S_g239_0, S_g239_1, S_g239_2, S_g239_3, S_g239_4, S_g239_5, S_g239_6, S_a23, S_n23, S_a282, S_n282, S_a300, S_n300, S_n73, S_n299, e0, hq, Option.isSome, iBt, nI10, reduceIte]
          refine r_plan (d := d + 2) hI hq fun s' hI' => ?_
          cases hr : (rdPN (zT z) (zP z) n).1 with
          | true =>
            simp only [hr, if_true] at K
            simp (disch := omega) only [u_92_0, u_92_1, u_92_4, u_92_5, u_92_8, u_92_11, u_92_14, u_92_15, u_92_18, u_92_19, u_92_22, u_92_25, u_92_26, u_92_27, u_92_30, u_92_33, u_92_34, u_92_37, u_92_38, u_92_39, u_92_42, u_92_44, u_92_45, u_92_46, u_92_47, u_92_50, u_92_51, u_92_54, u_92_55, u_92_58, u_92_61, u_92_64, u_92_65, u_92_68, u_92_69, u_92_72, u_92_75, u_92_78, u_92_79, u_92_80, u_92_83, u_92_84, u_92_87, u_92_88, u_92_91, u_92_94, gI0, gIs, gR0, gRs, gF0, gFs, st0, st_i, st_r, st_f, st_n, st_s, true_and, and_true, ↓ifLeT, ↓ifLeF, ↓ifLtT, ↓ifLtF, ↓ifEqT, ↓ifEqF, if_tt, if_ff, if_pos, if_neg, nLe, nLt, nEq, nInT, nCl, pk_mul, nI_add, Nat.reduceAdd, s_cat_nil, s_cat_i, s_cat_r, s_cat_f, s_cat_l, tl_s, tl_n, cat_i, cat_r, cat_f, nb0, nb1, nbI, if_bI, if_bIr, Nat.zero_le, Nat.reduceLeDiff, S_ob0, iBt, nI10, reduceIte]
            exact K s' hI'
          | false =>
            simp only [hr, Bool.false_eq_true, if_false] at K
            have e2 : SO s' 2 = (rdPN (zT z) (zP z) n).2.1 := hI'.1.1
            simp (disch := omega) only [u_92_0, u_92_1, u_92_4, u_92_5, u_92_8, u_92_11, u_92_14, u_92_15, u_92_18, u_92_19, u_92_22, u_92_25, u_92_26, u_92_27, u_92_30, u_92_33, u_92_34, u_92_37, u_92_38, u_92_39, u_92_42, u_92_44, u_92_45, u_92_46, u_92_47, u_92_50, u_92_51, u_92_54, u_92_55, u_92_58, u_92_61, u_92_64, u_92_65, u_92_68, u_92_69, u_92_72, u_92_75, u_92_78, u_92_79, u_92_80, u_92_83, u_92_84, u_92_87, u_92_88, u_92_91, u_92_94, gI0, gIs, gR0, gRs, gF0, gFs, st0, st_i, st_r, st_f, st_n, st_s, true_and, and_true, ↓ifLeT, ↓ifLeF, ↓ifLtT, ↓ifLtF, ↓ifEqT, ↓ifEqF, if_tt, if_ff, if_pos, if_neg, nLe, nLt, nEq, nInT, nCl, pk_mul, nI_add, Nat.reduceAdd, s_cat_nil, s_cat_i, s_cat_r, s_cat_f, s_cat_l, tl_s, tl_n, cat_i, cat_r, cat_f, nb0, nb1, nbI, if_bI, if_bIr, Nat.zero_le, Nat.reduceLeDiff, S_ob0, S_g0_0, S_g0_1, S_g0_2, S_g0_3, S_g0_4, S_g0_5, S_g0_6, S_g0_7, S_g0_8, S_g0_9, S_g0_10, S_g0_11, S_g0_12, S_g0_13, S_g0_14, S_g1_0, S_g1_1, S_g1_2, S_g1_3, S_g1_4, S_g72_0, S_g72_1, S_g72_2, S_g239_0, S_g239_1, S_g239_2, S_g239_3, S_g239_4, S_g239_5, S_g239_6, S_a23, S_n23, S_a282, S_n282, S_a300, S_n300, S_n73, S_n299, iBf, T_g2, e2]
            exact K s' hI'
        | 2, _ =>
          simp only [if_neg (show ¬ nI 2 = nI 1 by decide), if_true] at K
          simp (disch := omega) only [u_92_0, u_92_1, u_92_4, u_92_5, u_92_8, u_92_11, u_92_14, u_92_15, u_92_18, u_92_19, u_92_22, u_92_25, u_92_26, u_92_27, u_92_30, u_92_33, u_92_34, u_92_37, u_92_38, u_92_39, u_92_42, u_92_44, u_92_45, u_92_46, u_92_47, u_92_50, u_92_51, u_92_54, u_92_55, u_92_58, u_92_61, u_92_64, u_92_65, u_92_68, u_92_69, u_92_72, u_92_75, u_92_78, u_92_79, u_92_80, u_92_83, u_92_84, u_92_87, u_92_88, u_92_91, u_92_94, gI0, gIs, gR0, gRs, gF0, gFs, st0, st_i, st_r, st_f, st_n, st_s, true_and, and_true, ↓ifLeT, ↓ifLeF, ↓ifLtT, ↓ifLtF, ↓ifEqT, ↓ifEqF, if_tt, if_ff, if_pos, if_neg, nLe, nLt, nEq, nInT, nCl, pk_mul, nI_add, Nat.reduceAdd, s_cat_nil, s_cat_i, s_cat_r, s_cat_f, s_cat_l, tl_s, tl_n, cat_i, cat_r, cat_f, nb0, nb1, nbI, if_bI, if_bIr, Nat.zero_le, Nat.reduceLeDiff, S_ob0, S_ob1, S_g0_0, S_g0_1, S_g0_2, S_g0_3, S_g0_4, S_g0_5, S_g0_6, S_g0_7, S_g0_8, S_g0_9, S_g0_10, S_g0_11, S_g0_12, S_g0_13, S_g0_14, S_g1_0, S_g1_1, S_g1_2, S_g1_3, S_g1_4, S_g72_0, S_g72_1, S_g72_2, S_g239_0, S_g239_1, S_g239_2, S_g239_3, S_g239_4, S_g239_5, S_g239_6, S_a23, S_n23, S_a282, S_n282, S_a300, S_n300, S_n73, S_n299, Y'_ob (isY_S yb24), Y'_g0 (isY_S yb24), Y'_g1 (isY_S yb24), Y'_g2 (isY_S yb24), Y'_g3 (isY_S yb24), Y'_g4 (isY_S yb24), Y'_g5 (isY_S yb24), Y'_g6 (isY_S yb24), Y'_g7 (isY_S yb24), Y'_g8 (isY_S yb24), Y'_g9 (isY_S yb24), Y'_g10 (isY_S yb24), Y'_g11 (isY_S yb24), Y'_g12 (isY_S yb24), Y'_g13 (isY_S yb24), Y'_g14 (isY_S yb24), Y'_g15 (isY_S yb24), Y'_g16 (isY_S yb24), Y'_g17 (isY_S yb24), Y'_g18 (isY_S yb24), Y'_g19 (isY_S yb24), Y'_a7 (isY_S yb24), Y'_a8 (isY_S yb24), Y'_a10 (isY_S yb24), Y'_a11 (isY_S yb24), Y'_a12 (isY_S yb24), Y'_a13 (isY_S yb24), Y'_a14 (isY_S yb24), Y'_a15 (isY_S yb24), Y'_a16 (isY_S yb24), Y'_a17 (isY_S yb24), Y'_a18 (isY_S yb24), Y'_sw (isY_S yb24), hC, e0, hq, Option.isSome, iBt, nI10, reduceIte]
          refine r_moves (d := d + 2) hI hq fun s' hI' _ => ?_
          cases hr : (rdM (zT z) (nF n 2)).1 with
          | true =>
            simp only [hr, if_true] at K
            simp (disch := omega) only [u_92_0, u_92_1, u_92_4, u_92_5, u_92_8, u_92_11, u_92_14, u_92_15, u_92_18, u_92_19, u_92_22, u_92_25, u_92_26, u_92_27, u_92_30, u_92_33, u_92_34, u_92_37, u_92_38, u_92_39, u_92_42, u_92_44, u_92_45, u_92_46, u_92_47, u_92_50, u_92_51, u_92_54, u_92_55, u_92_58, u_92_61, u_92_64, u_92_65, u_92_68, u_92_69, u_92_72, u_92_75, u_92_78, u_92_79, u_92_80, u_92_83, u_92_84, u_92_87, u_92_88, u_92_91, u_92_94, gI0, gIs, gR0, gRs, gF0, gFs, st0, st_i, st_r, st_f, st_n, st_s, true_and, and_true, ↓ifLeT, ↓ifLeF, ↓ifLtT, ↓ifLtF, ↓ifEqT, ↓ifEqF, if_tt, if_ff, if_pos, if_neg, nLe, nLt, nEq, nInT, nCl, pk_mul, nI_add, Nat.reduceAdd, s_cat_nil, s_cat_i, s_cat_r, s_cat_f, s_cat_l, tl_s, tl_n, cat_i, cat_r, cat_f, nb0, nb1, nbI, if_bI, if_bIr, Nat.zero_le, Nat.reduceLeDiff, S_ob0, iBt, nI10, reduceIte]
            exact K s' hI'
          | false =>
            simp only [hr, Bool.false_eq_true, if_false] at K
            have e2 : SO s' 2 = (rdM (zT z) (nF n 2)).2.1 := hI'.1.1
            simp (disch := omega) only [u_92_0, u_92_1, u_92_4, u_92_5, u_92_8, u_92_11, u_92_14, u_92_15, u_92_18, u_92_19, u_92_22, u_92_25, u_92_26, u_92_27, u_92_30, u_92_33, u_92_34, u_92_37, u_92_38, u_92_39, u_92_42, u_92_44, u_92_45, u_92_46, u_92_47, u_92_50, u_92_51, u_92_54, u_92_55, u_92_58, u_92_61, u_92_64, u_92_65, u_92_68, u_92_69, u_92_72, u_92_75, u_92_78, u_92_79, u_92_80, u_92_83, u_92_84, u_92_87, u_92_88, u_92_91, u_92_94, gI0, gIs, gR0, gRs, gF0, gFs, st0, st_i, st_r, st_f, st_n, st_s, true_and, and_true, ↓ifLeT, ↓ifLeF, ↓ifLtT, ↓ifLtF, ↓ifEqT, ↓ifEqF, if_tt, if_ff, if_pos, if_neg, nLe, nLt, nEq, nInT, nCl, pk_mul, nI_add, Nat.reduceAdd, s_cat_nil, s_cat_i, s_cat_r, s_cat_f, s_cat_l, tl_s, tl_n, cat_i, cat_r, cat_f, nb0, nb1, nbI, if_bI, if_bIr, Nat.zero_le, Nat.reduceLeDiff, S_ob0, S_g0_0, S_g0_1, S_g0_2, S_g0_3, S_g0_4, S_g0_5, S_g0_6, S_g0_7, S_g0_8, S_g0_9, S_g0_10, S_g0_11, S_g0_12, S_g0_13, S_g0_14, S_g1_0, S_g1_1, S_g1_2, S_g1_3, S_g1_4, S_g72_0, S_g72_1, S_g72_2, S_g239_0, S_g239_1, S_g239_2, S_g239_3, S_g239_4, S_g239_5, S_g239_6, S_a23, S_n23, S_a282, S_n282, S_a300, S_n300, S_n73, S_n299, iBf, T_g2, e2]
            exact K s' hI'
end RCA
