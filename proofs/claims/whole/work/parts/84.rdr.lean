/-! what was read holds -/
section RDP
variable {n : tN} {y : tY} {t : tO} {p : tP} {l : tL}
theorem lP_of (hp : RP p l) (h4 : ∀ c, 4 ≤ c → l c = []) (hl : ∀ c t, t ∈ l c → t < 31) : lP p = l := by
  funext c
  unfold lP
  by_cases hc : c < 4
  · rw [if_pos hc, (hp c hc).1]
    apply List.ext_getElem
    · simp
    · intro i h1 h2
      have hi : i < (l c).length := h2
      rw [List.getElem_map, List.getElem_range, (hp c hc).2 i hi, nCl (by have := hl c _ (getD_mem hi); omega), getD_of hi]
  · rw [if_neg hc, h4 c (by omega)]
theorem rl_eq {c : Nat} (hn : wfN n) (hy : RY y n) (hc : c < nF n 2) : ∀ k t p, rlF y c k t p = rlN n c k t p
  | 0, t, p => rfl
  | k + 1, t, p => by
    have h8 := hn.1.2.1
    rw [rlF, rlN, hy.1.2.2.2.1]
    by_cases h1 : eI t 3 = nI 2
    · rw [if_pos h1, if_pos h1]
      by_cases h2 : isNB t (nI 0) (nI (nF n 3) - nI 1) = true
      · rw [if_pos h2, if_pos h2]
        obtain ⟨j, hj, e⟩ := nb_in h8 h2
        rw [e, nCl (by omega), hy.1.2.2.2.2.2.2, (hy.2.1.1 c hc).2.1, (hy.2.2.1 j hj).2.2.1]
        have b1 := bit_done hn.1 hj
        have h99 := (hn.2.1.1 c hc).2.2.1
        have h98 := (hn.2.2.1 j hj).2.2.2.2.1
        have b2 : nI (nA n 14 j) ≤ nI (nA n 8 c) ↔ nLift n c j = true := by unfold nLift; rw [nLe (by omega) (by omega), decide_eq_true_eq]
        cases hd : nDone n j with
        | true => rw [if_neg (fun q => by have := b1.mp q; rw [hd] at this; cases this), if_neg (by simp)]
        | false =>
          rw [if_pos (b1.mpr hd)]
          cases hL : nLift n c j with
          | false => rw [if_neg (fun q => by have := b2.mp q; rw [hL] at this; cases this), if_neg (by simp)]
          | true =>
            rw [if_pos (b2.mpr hL)]
            by_cases h3 : holdP p (nI j) = -1
            · rw [if_pos h3, if_pos (by simp [h3]), rl_eq hn hy hc k]
            · rw [if_neg h3, if_neg (by simp [h3])]
      · rw [if_neg h2, if_neg h2]
    · rw [if_neg h1, if_neg h1]
theorem rp_eq (hn : wfN n) (hy : RY y n) : ∀ k nm t p, rpF y k nm t p = rpN n k nm t p
  | 0, nm, t, p => rfl
  | k + 1, nm, t, p => by
    rw [rpF, rpN, hy.1.2.2.1]
    by_cases h1 : isNB t (nI 0) (nI (nF n 2) - nI 1) = true
    · obtain ⟨c, hc, e⟩ := nb_in (T := nF n 2) (by have := hn.1.1; omega) h1
      have hcc : (eI t 4).toNatClampNeg < nF n 2 := by rw [e, nCl (by have := hn.1.1; omega)]; exact hc
      rw [if_pos h1, if_pos h1, rl_eq hn hy hcc, rp_eq hn hy k]
    · rw [if_neg h1, if_neg h1]
theorem rdP_eq (hn : wfN n) (hy : RY y n) : rdP t p y = rdPN t p n := by
  unfold rdP rdPN
  rw [rp_eq hn hy]
def PI (n : tN) (p : tP) : Prop := ∃ l, RP p l ∧ wfL (jL n l)
theorem PI_0 {f : Nat → Int32} : PI n (f, fun _ => 0) := ⟨fun _ => [], RP_nil, wfL_nil⟩
theorem rl_PI {c : Nat} (hn : wfN n) (hc : c < nF n 2) : ∀ k t p, PI n p → PI n (rlN n c k t p).2.2
  | 0, t, p, h => h
  | k + 1, t, p, h => by
    have h8 := hn.1.2.1
    rw [rlN]
    split
    · split
      · rename_i h2
        split
        · rename_i h3
          obtain ⟨j, hj, e⟩ := nb_in h8 h2
          refine rl_PI hn hc k _ _ ?_
          obtain ⟨l, hp, hl⟩ := h
          obtain ⟨l1, l2⟩ := wl_31 hn hl
          rw [e] at h3 ⊢
          rw [Bool.and_eq_true, decide_eq_true_eq] at h3
          have h4 := h3.2
          rw [hold_rel hp l1 l2 (by omega)] at h4
          have hf : ∀ q, ¬ j ∈ l q := by
            cases hh : holdN l j with
            | some q => rw [hh] at h4; exact absurd h4 (m1_ne (by have := (hold_some hh).1; omega))
            | none =>
              intro q hq
              by_cases q4 : q < 4
              · exact hold_none hh q4 hq
              · have : l q = [] := hl.1 q (by show nF n 2 ≤ q; have := hn.1.1; omega)
                rw [this] at hq
                cases hq
          have hc4 : c < 4 := by have := hn.1.1; omega
          have hlen : (l c).length < 8 := by
            have h1 : (j :: l c).length ≤ nF n 3 := nodup_len (List.nodup_cons.mpr ⟨hf c, (hl.2.1 c).1⟩) fun t ht => by
              rcases List.mem_cons.mp ht with e | e
              · rw [e]; exact hj
              · exact (hl.2.1 c).2 t e
            rw [List.length_cons] at h1
            omega
          exact ⟨appF l c j, RP_add hp hc4 hlen l2, wfL_app hl hc hj hf⟩
        · exact h
      · exact h
    · exact h
theorem rp_PI (hn : wfN n) : ∀ k nm t p, PI n p → PI n (rpN n k nm t p).2.2
  | 0, nm, t, p, h => h
  | k + 1, nm, t, p, h => by
    rw [rpN]
    split
    · rename_i h1
      obtain ⟨c, hc, e⟩ := nb_in (T := nF n 2) (by have := hn.1.1; omega) h1
      have hcc : (eI t 4).toNatClampNeg < nF n 2 := by rw [e, nCl (by have := hn.1.1; omega)]; exact hc
      have hr := rl_PI hn hcc 400 (advT t) p h
      split
      · exact h
      · split
        · split
          · exact hr
          · split
            · exact rp_PI hn k _ _ _ hr
            · exact hr
        · exact hr
    · exact h
theorem rdPN_wf (hn : wfN n) : RP (rdPN t p n).2.2 (lP (rdPN t p n).2.2) ∧ wfL (jL n (lP (rdPN t p n).2.2)) := by
  have h : PI n (rdPN t p n).2.2 := by
    unfold rdPN
    split
    · exact PI_0
    · exact rp_PI hn 4 0 _ _ PI_0
  obtain ⟨l, hp, hl⟩ := h
  obtain ⟨l1, -⟩ := wl_31 hn hl
  have e : lP (rdPN t p n).2.2 = l := lP_of hp (fun c hc => hl.1 c (by show nF n 2 ≤ c; have := hn.1.1; omega)) l1
  rw [e]
  exact ⟨hp, hl⟩
/-! a QUAY -/
def addCN (n : tN) (b l : Nat) : tN := jW (jA (jA (jF n 2 (nF n 2 + 1)) 7 (set1 (nA n 7) (nF n 2) b)) 8 (set1 (nA n 8) (nF n 2) l)) (set1 (nW n) (nF n 2) FP.fconst0)
def DI (y : tY) (n : tN) : Prop := RY y n ∧ wfN n ∧ nF n 4 = 0 ∧ (∀ t, t < nF n 3 → nA n 13 t ≤ 30) ∧ nL n = (fun _ => []) ∧ nK n = fun _ => false
def quay0 (B g : Nat) : tN := (fun k => if k = 0 then B else if k = 1 then g else 0, fun _ => false, fun _ _ => 0, fun _ => 0, fun _ _ => false, fun _ _ => 0, fun _ => [])
theorem bitsN_f : ∀ k, bitsN (fun _ => false) k = 0
  | 0 => rfl
  | k + 1 => by rw [bitsN, bitsN_f k, if_neg (by decide)]; rfl
theorem DI_0 {B g : Nat} (hB : 2 ≤ B) (hB2 : B ≤ 30) (hg : 1 ≤ g) (hg2 : g ≤ 5) (h0 : yB y 0 = nI B) (h1 : yB y 1 = nI g) (h2 : yC y = 0) (h3 : yT y = 0) (h4 : yB y 4 = nI 0) (h5 : yB y 5 = nI 0) (h6 : yB y 6 = nI 0) (hW : ∀ c, c < 4 → goodW (yW y c)) (hP : ∀ c, c < 4 → (yP y).2 c = 0) : DI y (quay0 B g) := by
  have f : ∀ k, nF (quay0 B g) k = if k = 0 then B else if k = 1 then g else 0 := fun _ => rfl
  refine ⟨⟨⟨h0, h1, h2, h3, h4, h5.trans (by rw [f]; exact congrArg nI (bitsN_f _).symm), h6⟩, ⟨fun c hc => absurd hc (Nat.not_lt_zero c), hW⟩, fun t ht => absurd ht (Nat.not_lt_zero t), fun c hc => ⟨hP c hc, fun k hk => absurd hk (Nat.not_lt_zero k)⟩⟩, ⟨⟨by rw [f]; exact Nat.zero_le _, by rw [f]; exact Nat.zero_le _, hB, hB2, hg, hg2⟩, ⟨fun c hc => absurd hc (Nat.not_lt_zero c), fun c hc => absurd hc (Nat.not_lt_zero _)⟩, fun t ht => absurd ht (Nat.not_lt_zero t), ⟨fun _ _ => rfl, fun _ => ⟨List.nodup_nil, fun t ht => by cases ht⟩, fun _ _ t ht => by cases ht⟩⟩, rfl, fun t ht => absurd ht (Nat.not_lt_zero t), rfl, rfl⟩
theorem DI_C {b l : Nat} (h : DI y n) (hC : nF n 2 < 4) (hb : b < nF n 0) (hg : ∀ c, c + 1 = nF n 2 → nA n 7 c + nF n 1 ≤ b) (hl : 1 ≤ l) (hl2 : l ≤ 99) : DI (addC y (nI b) (nI l)) (addCN n b l) := by
  obtain ⟨⟨⟨f0, f1, f2, f3, f4, f5, f6⟩, ⟨hc, hw⟩, ht, hp⟩, ⟨hF, ⟨hC1, hC2⟩, hT, hL⟩, d1, d2, d3, d4⟩ := h
  have e : addC y (nI b) (nI l) = uC (uW (uA (uA y 7 (upd (yA y 7) (yC y) (nI b))) 8 (upd (yA y 8) (yC y) (nI l))) (vf_upd (yW y) (yC y) FP.fconst0)) (yC y + 1) := if_pos (by omega)
  rw [e]
  have a7 : ∀ c, nA (addCN n b l) 7 c = if c = nF n 2 then b else nA n 7 c := fun _ => rfl
  have a8 : ∀ c, nA (addCN n b l) 8 c = if c = nF n 2 then l else nA n 8 c := fun _ => rfl
  have aW : ∀ c, nW (addCN n b l) c = if c = nF n 2 then FP.fconst0 else nW n c := fun _ => rfl
  have g2 : nF (addCN n b l) 2 = nF n 2 + 1 := rfl
  refine ⟨⟨⟨f0, f1, ?_, f3, f4, ?_, f6⟩, ⟨fun c hcc => ?_, fun c hcc => ?_⟩, ht, hp⟩, ⟨⟨by rw [g2]; omega, hF.2⟩, ⟨fun c hcc => ?_, fun c hcc => ?_⟩, hT, ⟨fun c hcc => ?_, hL.2⟩⟩, d1, d2, d3, d4⟩
  · show yC y + 1 = nF n 2 + 1
    rw [f2]
  · show yB y 5 = nI (bitsN (nK n) (nF n 2 + 1))
    rw [f5, d4, bitsN_f, bitsN_f]
  · rw [g2] at hcc
    rw [a7, a8, aW]
    show upd (yA y 7) (yC y) (nI b) c = _ ∧ upd (yA y 8) (yC y) (nI l) c = _ ∧ vf_upd (yW y) (yC y) FP.fconst0 c = _
    unfold upd vf_upd
    rw [f2]
    by_cases q : c = nF n 2
    · rw [if_pos q, if_pos q, if_pos q, if_pos q, if_pos q, if_pos q]
      exact ⟨rfl, rfl, rfl⟩
    · rw [if_neg q, if_neg q, if_neg q, if_neg q, if_neg q, if_neg q]
      exact hc c (by omega)
  · show goodW (vf_upd (yW y) (yC y) FP.fconst0 c)
    unfold vf_upd
    split
    · exact good_0
    · exact hw c hcc
  · rw [g2] at hcc
    rw [a7, a8, aW]
    by_cases q : c = nF n 2
    · rw [if_pos q, if_pos q, if_pos q]
      exact ⟨hb, hl, hl2, good_0⟩
    · rw [if_neg q, if_neg q, if_neg q]
      exact hC1 c (by omega)
  · rw [g2] at hcc
    rw [a7, a7]
    show _ + nF n 1 ≤ _
    rw [if_neg (show ¬ c = nF n 2 by omega)]
    by_cases q : c + 1 = nF n 2
    · rw [if_pos q]; exact hg c q
    · rw [if_neg q]; exact hC2 c (by omega)
  · exact hL.1 c (by have : nF n 2 + 1 ≤ c := hcc; omega)
theorem DI_T {bay tk v : Nat} {fv : Nat → Bool} {AF : Int32} (h : DI y n) (hT : nF n 3 < 8) (hb : bay < nF n 0) (h1 : 1 ≤ tk) (h30 : tk ≤ 30) (hv : 1 ≤ v) (hv2 : v ≤ 99) (hA : AF = nI (bitsN fv 8)) (ha : ∀ u, fv u = true → u < nF n 3) (h1C : 1 ≤ nF n 2) : DI (addT y (nI bay) (nI tk) (nI v) AF) (moreG n bay tk v fv) := by
  obtain ⟨hy, hn, d1, d2, d3, d4⟩ := h
  have k := ok_moreG (fv := fv) ⟨hn, h1C, by omega, d2⟩ hT hb h1 h30 hv hv2 ha
  exact ⟨RY_moreG hn hy hT h1 hA, k.1, d1, k.2.2.2, d3, d4⟩
/-- told by its cells alone -/
theorem nOf_ok (hy : RY y n) (hok : okQ n) : RY y (nOf y) ∧ okQ (nOf y) := by
  obtain ⟨hn, k1, k2, k3⟩ := hok
  obtain ⟨⟨f0, f1, f2, f3, f4, f5, f6⟩, ⟨hc, hw⟩, ht, hp⟩ := id hy
  obtain ⟨hF, ⟨hC1, hC2⟩, hT, hL⟩ := id hn
  have l31 := wfL31 hn
  have hB := hF.2.2.2.1
  have g0 : nF (nOf y) 0 = nF n 0 := by show (yB y 0).toNatClampNeg = _; rw [f0, nCl (by omega)]
  have g1 : nF (nOf y) 1 = nF n 1 := by show (yB y 1).toNatClampNeg = _; rw [f1, nCl (by have := hF.2.2.2.2.2; omega)]
  have g2 : nF (nOf y) 2 = nF n 2 := f2
  have g3 : nF (nOf y) 3 = nF n 3 := f3
  have g4 : nF (nOf y) 4 = nF n 4 := by show (yB y 4).toNatClampNeg = _; rw [f4, nCl (by omega)]
  have gL : nL (nOf y) = nL n := lP_of hp (fun c hcc => hL.1 c (by have := hF.1; omega)) l31
  have gK : ∀ c, c < nF n 2 → nK (nOf y) c = nK n c := fun c hcc => by
    show decide (¬ bitS (yB y 5) (nI c) = nI 0) = _
    have := bit_brk hF hcc
    rw [f5]
    cases hk : nK n c with
    | true => exact decide_eq_true (fun q => by have := this.mp q; rw [hk] at this; cases this)
    | false => exact decide_eq_false (fun q => q (this.mpr hk))
  have a7 : ∀ c, c < nF n 2 → nA (nOf y) 7 c = nA n 7 c := fun c hcc => by
    show (yA y 7 c).toNatClampNeg = _
    have := (hC1 c hcc).1
    rw [(hc c hcc).1, nCl (by omega)]
  have a8 : ∀ c, c < nF n 2 → nA (nOf y) 8 c = nA n 8 c := fun c hcc => by
    show (yA y 8 c).toNatClampNeg = _
    have := (hC1 c hcc).2.2.1
    rw [(hc c hcc).2.1, nCl (by omega)]
  have aW : ∀ c, c < nF n 2 → nW (nOf y) c = nW n c := fun c hcc => (hc c hcc).2.2
  have tt : ∀ t, t < nF n 3 → nA (nOf y) 12 t = nA n 12 t ∧ nA (nOf y) 13 t = nA n 13 t ∧ nA (nOf y) 14 t = nA n 14 t ∧ nA (nOf y) 16 t = nA n 16 t ∧ (∀ u, nV (nOf y) t u = nV n t u) ∧ nX (nOf y) 17 t = nX n 17 t ∧ nX (nOf y) 18 t = nX n 18 t := fun t htt => by
    obtain ⟨b12, b13, b14, b15, b16, b17, b18⟩ := ht t htt
    obtain ⟨c1, c2, c3, c4, c5, c6, c7⟩ := hT t htt
    have h8 := hF.2.1
    refine ⟨?_, ?_, ?_, ?_, fun u => ?_, b17, b18⟩
    · show (yA y 12 t).toNatClampNeg = _; rw [b12, nCl (by omega)]
    · show (yA y 13 t).toNatClampNeg = _; rw [b13, nCl (by omega)]
    · show (yA y 14 t).toNatClampNeg = _; rw [b14, nCl (by omega)]
    · show (yA y 16 t).toNatClampNeg = _; rw [b16, nCl (by omega)]
    · show (decide (u < t) && decide (¬ bitS (yA y 15 t) (nI u) = nI 0)) = _
      rw [b15]
      have b256 := bitsN_256 (f := nV n t) (k := 8) (by decide)
      by_cases q : u < t
      · have bb := bitS_n (m := bitsN (nV n t) 8) (c := u) (by omega) (by omega)
        rw [bitsN_tb, decide_eq_true (show u < 8 by omega), Bool.true_and] at bb
        rw [decide_eq_true q, Bool.true_and]
        cases hv : nV n t u with
        | true => exact decide_eq_true (fun z => by have := bb.mp z; rw [hv] at this; cases this)
        | false => exact decide_eq_false (fun z => z (bb.mpr hv))
      · rw [decide_eq_false q, Bool.false_and]
        cases hv : nV n t u with
        | true => exact absurd (c7 u hv).1 q
        | false => rfl
  have dn : ∀ t, t < nF n 3 → nDone (nOf y) t = nDone n t := fun t htt => by unfold nDone; rw [(tt t htt).2.1, (tt t htt).2.2.2.1]
  refine ⟨⟨⟨by rw [g0]; exact f0, by rw [g1]; exact f1, f2.trans g2.symm, f3.trans g3.symm, by rw [g4]; exact f4, ?_, ?_⟩, ⟨fun c hcc => ?_, hw⟩, fun t htt => ?_, by rw [gL]; exact hp⟩, ⟨⟨⟨by rw [g2]; exact hF.1, by rw [g3]; exact hF.2.1, by rw [g0]; exact hF.2.2.1, by rw [g0]; exact hF.2.2.2.1, by rw [g1]; exact hF.2.2.2.2.1, by rw [g1]; exact hF.2.2.2.2.2⟩, ⟨fun c hcc => ?_, fun c hcc => ?_⟩, fun t htt => ?_, ⟨fun c hcc => ?_, fun c => ?_, fun c c' t => ?_⟩⟩, by rw [g2]; exact k1, by rw [g4]; exact k2, fun t htt => ?_⟩⟩
  · rw [g2, f5]
    exact congrArg nI (bitsN_cong fun c hcc => (gK c hcc).symm)
  · rw [g3, f6]
    exact congrArg nI (bitsN_cong fun c hcc => (dn c hcc).symm)
  · rw [g2] at hcc
    rw [a7 c hcc, a8 c hcc, aW c hcc]
    exact hc c hcc
  · rw [g3] at htt
    obtain ⟨e1, e2, e3, e4, e5, e6, e7⟩ := tt t htt
    rw [e1, e2, e3, e4, e6, e7, show nV (nOf y) t = nV n t from funext e5]
    exact ht t htt
  · rw [g2] at hcc
    rw [a7 c hcc, a8 c hcc, aW c hcc, g0]
    exact hC1 c hcc
  · rw [g2] at hcc
    rw [a7 c (by omega), a7 (c + 1) hcc, g1]
    exact hC2 c hcc
  · rw [g3] at htt
    obtain ⟨e1, e2, e3, e4, e5, e6, e7⟩ := tt t htt
    rw [e1, e2, e3, e4, g0]
    obtain ⟨c1, c2, c3, c4, c5, c6, c7⟩ := hT t htt
    refine ⟨c1, c2, c3, c4, c5, c6, fun u hu => ?_⟩
    rw [e5] at hu
    obtain ⟨q1, q2⟩ := c7 u hu
    exact ⟨q1, fun z => by rw [dn u (by omega)]; exact q2 z⟩
  · rw [gL]
    rw [g2] at hcc
    exact hL.1 c hcc
  · rw [gL, g3]
    exact hL.2.1 c
  · rw [gL]
    exact hL.2.2 c c' t
  · rw [g3] at htt
    rw [(tt t htt).2.1]
    exact k3 t htt
end RDP
