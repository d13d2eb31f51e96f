/-! Search: a plan is weighed -/
section CHS
variable {b d : Nat} {s : tS} {h : sH} {i x : Int32} {Q : sQ}
theorem isCh_S (hb : cb b) : pCh b (SO s b) (pS s h) = pS s h := by rw [S_Ch hb, wSO_eta]
theorem C_ob {c : Nat} (hb : cb b) : (oO (pS s h) b fun c' _ => c' = c) ↔ 1 = c := by
  have e := Ch_ob (b := b) (o := SO s b) (h := pS s h) (c := c)
  rwa [isCh_S hb] at e
theorem C_g0 {f : Value → Prop} (hb : cb b) : fG (pS s h) b 1 0 f ↔ f (.ref (b + 1)) := by
  have e := Ch_g0 (b := b) (o := SO s b) (h := pS s h) (f := f)
  rwa [isCh_S hb] at e
theorem C_g1 {f : Value → Prop} (hb : cb b) : fG (pS s h) b 1 1 f ↔ f (.int (iB (eB (SO s b) 1))) := by
  have e := Ch_g1 (b := b) (o := SO s b) (h := pS s h) (f := f)
  rwa [isCh_S hb] at e
theorem C_g2 {f : Value → Prop} (hb : cb b) : fG (pS s h) b 1 2 f ↔ f (.int (eI (SO s b) 2)) := by
  have e := Ch_g2 (b := b) (o := SO s b) (h := pS s h) (f := f)
  rwa [isCh_S hb] at e
theorem C_g3 {f : Value → Prop} (hb : cb b) : fG (pS s h) b 1 3 f ↔ f (.int (eI (SO s b) 3)) := by
  have e := Ch_g3 (b := b) (o := SO s b) (h := pS s h) (f := f)
  rwa [isCh_S hb] at e
theorem C_g4 {f : Value → Prop} (hb : cb b) : fG (pS s h) b 1 4 f ↔ f (.int (eI (SO s b) 4)) := by
  have e := Ch_g4 (b := b) (o := SO s b) (h := pS s h) (f := f)
  rwa [isCh_S hb] at e
theorem C_g5 {f : Value → Prop} (hb : cb b) : fG (pS s h) b 1 5 f ↔ f (.int (eI (SO s b) 5)) := by
  have e := Ch_g5 (b := b) (o := SO s b) (h := pS s h) (f := f)
  rwa [isCh_S hb] at e
theorem C_s3 {f : sH → Prop} (hb : cb b) : fS (pS s h) b 1 3 (.int x) f ↔ f (pS (wSO s b (vI (SO s b) 3 x)) h) := by
  have e := Ch_s3 (b := b) (o := SO s b) (h := pS s h) (f := f) (x := x)
  rwa [isCh_S hb, S_Ch hb] at e
theorem C_s5 {f : sH → Prop} (hb : cb b) : fS (pS s h) b 1 5 (.int x) f ↔ f (pS (wSO s b (vI (SO s b) 5 x)) h) := by
  have e := Ch_s5 (b := b) (o := SO s b) (h := pS s h) (f := f) (x := x)
  rwa [isCh_S hb, S_Ch hb] at e
theorem C_s1f {f : sH → Prop} (hb : cb b) : fS (pS s h) b 1 1 (.int (nI 0)) f ↔ f (pS (wSO s b (vB (SO s b) 1 false)) h) := by
  have e := Ch_s1f (b := b) (o := SO s b) (h := pS s h) (f := f)
  rwa [isCh_S hb, S_Ch hb] at e
theorem S_take {p : tP} {c : Nat} (hb : cb b) (hp : isP (pS s h) c p) (hd : b + 4 ≤ c ∨ c + 3 ≤ b) : MT (d + 2) 7 [.ref b, .ref c, .int x] (pS s h) Q ↔ Q none (pS (wSO s b (takC (SO s b) p x)) h) := by
  have e := m_take (d := d) (b := b) (t := SO s b) (c := c) (p := p) (l := x) (h := pS s h) (Q := Q) hp hd
  rwa [isCh_S hb, S_Ch hb] at e
theorem S_open (hb : cb b) : MT (d + 2) 6 [.ref b, .int x] (pS s h) Q ↔ Q none (pS (wSO s b (opnC (SO s b) x)) h) := tr_Ch hb fun h Q => m_open
/-! LAST within a limit that may be less than none -/
def lastX (y : tY) (lim : Nat) : Int32 × tY := lastF (bitsP (yP y)) lim 0 y
theorem m_lastX {a : Nat} {y : tY} {lim : Nat} (hN : lim < 2 ^ 19) (hy : okY y) : MT (d + 3) 74 [.ref a, .int (nI lim - nI 1)] (pY a y h) Q ↔ Q (some (.int (lastX y lim).1)) (pY a (lastX y lim).2 h) := by
  match lim with
  | 0 =>
    rw [show nI 0 - nI 1 = (-1 : Int32) by decide]
    rw [MT_go (by decide) _ _ _ (Nat.le_of_ble_eq_true rfl), show s_entry 74 [.ref a, .int (-1)] = [.ref a, .int (-1), s_no, s_no] from rfl]
    simp (disch := omega) only [u_74_0, u_74_1, u_74_4, u_74_7, u_74_8, u_74_9, u_74_11, u_74_12, u_74_15, u_74_16, u_74_17, u_74_20, u_74_21, u_74_22, u_74_23, u_74_26, u_74_27, u_74_28, u_74_29, u_74_32, u_74_35, u_74_36, u_74_37, u_74_40, u_74_43, u_74_44, gI0, gIs, gR0, gRs, gF0, gFs, st0, st_i, st_r, st_f, st_n, st_s, true_and, and_true, ↓ifLeT, ↓ifLeF, ↓ifLtT, ↓ifLtF, ↓ifEqT, ↓ifEqF, if_tt, if_ff, if_pos, if_neg, nLe, nLt, nEq, nInT, nCl, pk_mul, nI_add, Nat.reduceAdd, s_cat_nil, s_cat_i, s_cat_r, s_cat_f, s_cat_l, tl_s, tl_n, cat_i, cat_r, cat_f, nb0, nb1, nbI, if_bI, if_bIr, Nat.zero_le, Nat.reduceLeDiff, Y_g0, Y_g1, Y_g2, Y_g3, Y_g4, Y_g5, Y_g6, Y_g7, Y_g8, Y_g9, Y_g10, Y_g11, Y_g12, Y_g13, Y_g14, Y_g15, Y_g16, Y_g17, Y_g18, Y_g19, YP_ob, Y_bits hy.2.2.1]
    rw [u_74_10]
    have e : (-1 : Int32) < nI 0 := by decide
    simp (disch := omega) only [u_74_0, u_74_1, u_74_4, u_74_7, u_74_8, u_74_9, u_74_11, u_74_12, u_74_15, u_74_16, u_74_17, u_74_20, u_74_21, u_74_22, u_74_23, u_74_26, u_74_27, u_74_28, u_74_29, u_74_32, u_74_35, u_74_36, u_74_37, u_74_40, u_74_43, u_74_44, gI0, gIs, gR0, gRs, gF0, gFs, st0, st_i, st_r, st_f, st_n, st_s, true_and, and_true, ↓ifLeT, ↓ifLeF, ↓ifLtT, ↓ifLtF, ↓ifEqT, ↓ifEqF, if_tt, if_ff, if_pos, if_neg, nLe, nLt, nEq, nInT, nCl, pk_mul, nI_add, Nat.reduceAdd, s_cat_nil, s_cat_i, s_cat_r, s_cat_f, s_cat_l, tl_s, tl_n, cat_i, cat_r, cat_f, nb0, nb1, nbI, if_bI, if_bIr, Nat.zero_le, Nat.reduceLeDiff, e]
    exact Iff.rfl
  | k + 1 =>
    rw [pk_sub (by omega), Nat.add_sub_cancel]
    exact m_lastWithin (by omega) hy
theorem lastX_rel {y : tY} {n : tN} (hn : wfN n) (hy : RY y n) {lim : Nat} : (lastX y lim).1 = oI1 (lastK lim n) := by
  match lim with
  | 0 => rfl
  | k + 1 => exact lastY_rel hn hy
end CHS
/-! a choice tells what was found -/
def RCh (o : tO) (g : tG) : Prop := eI o 4 = nI g.1 - nI 1 ∧ g.1 ≤ 301 ∧ match g.2 with
  | none => eI o 2 = -1
  | some (m, l) => eI o 2 = nI m ∧ m ≤ 300 ∧ RP (eP o) l
def frS (b : Nat) (s s' : tS) : Prop := SG s' = SG s ∧ (∀ q, q ≠ 256 → SY s' q = SY s q) ∧ (∀ q, q ≠ 272 → SP s' q = SP s q) ∧ (∀ q, q ≠ b → SO s' q = SO s q) ∧ eB (SO s' b) 1 = eB (SO s b) 1 ∧ eI (SO s' b) 5 = eI (SO s b) 5 ∧ eI (SO s' b) 3 = eI (SO s b) 3
theorem frS_r {b : Nat} {s : tS} : frS b s s := ⟨rfl, fun _ _ => rfl, fun _ _ => rfl, fun _ _ => rfl, rfl, rfl, rfl⟩
theorem frS_t {b : Nat} {s s' t : tS} (h1 : frS b s s') (h2 : frS b s' t) : frS b s t := ⟨h2.1.trans h1.1, fun q hq => (h2.2.1 q hq).trans (h1.2.1 q hq), fun q hq => (h2.2.2.1 q hq).trans (h1.2.2.1 q hq), fun q hq => (h2.2.2.2.1 q hq).trans (h1.2.2.2.1 q hq), h2.2.2.2.2.1.trans h1.2.2.2.2.1, h2.2.2.2.2.2.1.trans h1.2.2.2.2.2.1, h2.2.2.2.2.2.2.trans h1.2.2.2.2.2.2⟩
section WGH
variable {b d : Nat} {s : tS} {h : sH} {i x : Int32} {Q : sQ} {n : tN} {l : tL} {g : tG}
theorem oI1_neg {m : Nat} (hm : m ≤ 300) : ¬ oI1 (some m) = -1 := fun q => by
  have := congrArg Int32.toInt q
  rw [show oI1 (some m) = nI m from rfl, nI_toInt (by omega), show (-1 : Int32).toInt = -1 by decide] at this
  omega
theorem m_weigh (hb : cb b) (hy : RY (SY s 240) n) (hw : wfN (jL n l)) (hp : RP (SP s 272) l) (hg : RCh (SO s b) g) (K : ∀ s', frS b s s' → SP s' 272 = SP s 272 → RCh (SO s' b) (wgN n g l) → Q (some (.int (iB (lastK g.1 (jL n l)).isSome))) (pS s' h)) : MT (d + 5) 50 [.ref 239, .ref b] (pS s h) Q := by
  obtain ⟨g1, g2, g3⟩ := hg
  rw [MT_go (by decide) _ _ _ (Nat.le_of_ble_eq_true rfl), show s_entry 50 [.ref 239, .ref b] = [.ref 239, .ref b, s_no] from rfl]
  have hd : 272 + 3 ≤ b ∨ b + 4 ≤ 272 := by
    rcases hb with e | e | e | e | e | ⟨j, hj, e⟩ <;> omega
  have e1 := fun Q => S_copyY (d := d + 2) (s := s) (h := h) (Q := Q) yb256 yb240 (by decide)
  have e2 : ∀ Q, MT (d + 4) 20 [.ref (256 + 13), .ref 272] (pS (wSY s 256 (cpY (SY s 256) (SY s 240))) h) Q ↔ Q none (pS (wSY s 256 (uP (cpY (SY s 256) (SY s 240)) (SP s 272))) h) := fun Q => by
    have e := S_copyP (d := d + 3) (a := 256) (c := 272) (q := SP s 272) (s := wSY s 256 (cpY (SY s 256) (SY s 240))) (h := h) (Q := Q) yb256 (isP_S (s := wSY s 256 (cpY (SY s 256) (SY s 240))) pb272) (by decide)
    rw [wSY_tw] at e
    exact e
  have hyy : RY (uP (cpY (SY s 256) (SY s 240)) (SP s 272)) (jL n l) := RY_uP (RY_cp hy) hp
  have hok := RY_ok hw hyy
  have hlr := lastX_rel hw hyy (lim := g.1)
  generalize uP (cpY (SY s 256) (SY s 240)) (SP s 272) = y0 at e2 hyy hok hlr
  have e3 : ∀ Q, MT (d + 4) 74 [.ref 256, .int (eI (SO s b) 4)] (pS (wSY s 256 y0) h) Q ↔ Q (some (.int (oI1 (lastK g.1 (jL n l))))) (pS (wSY s 256 (lastX y0 g.1).2) h) := fun Q => by
    have e := tr_Y (d := d + 4) (b := 256) (m := 74) (as := [.ref 256, .int (nI g.1 - nI 1)]) (s := wSY s 256 y0) (h := h) (Q := Q) (y' := (lastX y0 g.1).2) (r := some (.int (lastX y0 g.1).1)) yb256 (fun h Q => m_lastX (d := d + 1) (y := y0) (by omega) hok)
    rw [wSY_tw, hlr] at e
    rw [g1]
    exact e
  have ob1 : ∀ q : Nat, (oO (pS (wSY s 256 (cpY (SY s 256) (SY s 240))) h) (256 + 13) fun c' _ => c' = q) ↔ 3 = q := fun q => P'_ob (isP_YS (s := wSY s 256 (cpY (SY s 256) (SY s 240))) yb256)
  have hfr : ∀ z, frS b s (wSY s 256 z) := fun z => ⟨rfl, fun q hq => if_neg hq, fun _ _ => rfl, fun _ _ => rfl, rfl, rfl, rfl⟩
  have hy2 : ∀ s : tS, ∀ q : Nat, (oO (pS s h) 256 fun c' _ => c' = q) ↔ 7 = q := fun s q => Y'_ob (isY_S yb256)
  have hy3 : ∀ s : tS, ∀ f : Value → Prop, fG (pS s h) 256 7 19 f ↔ f (.ref (256 + 13)) := fun s f => Y'_g19 (isY_S yb256)
  cases hl : lastK g.1 (jL n l) with
  | none =>
    rw [hl] at e3 K
    have e4 : oI1 none = -1 := rfl
    simp (disch := omega) only [u_50_0, u_50_1, u_50_4, u_50_5, u_50_8, u_50_11, u_50_12, u_50_15, u_50_18, u_50_19, u_50_22, u_50_25, u_50_26, u_50_29, u_50_30, u_50_33, u_50_36, u_50_37, u_50_38, u_50_39, u_50_42, u_50_43, u_50_44, u_50_45, u_50_46, u_50_49, u_50_50, u_50_53, u_50_54, gI0, gIs, gR0, gRs, gF0, gFs, st0, st_i, st_r, st_f, st_n, st_s, true_and, and_true, ↓ifLeT, ↓ifLeF, ↓ifLtT, ↓ifLtF, ↓ifEqT, ↓ifEqF, if_tt, if_ff, if_pos, if_neg, nLe, nLt, nEq, nInT, nCl, pk_mul, nI_add, Nat.reduceAdd, s_cat_nil, s_cat_i, s_cat_r, s_cat_f, s_cat_l, tl_s, tl_n, cat_i, cat_r, cat_f, nb0, nb1, nbI, if_bI, if_bIr, Nat.zero_le, Nat.reduceLeDiff, S_g0_0, S_g0_1, S_g0_2, S_g0_3, S_g0_4, S_g0_5, S_g0_6, S_g0_7, S_g0_8, S_g0_9, S_g0_10, S_g0_11, S_g0_12, S_g0_13, S_g0_14, S_g1_0, S_g1_1, S_g1_2, S_g1_3, S_g1_4, S_g72_0, S_g72_1, S_g72_2, S_g239_0, S_g239_1, S_g239_2, S_g239_3, S_g239_4, S_g239_5, S_g239_6, S_a23, S_n23, S_a282, S_n282, S_a300, S_n300, S_n73, S_n299, hy2, hy3, e1, ob1, e2, C_g4 hb, SO_wY, e3, e4]
    refine K _ (hfr _) rfl ?_
    have : wgN n g l = g := by unfold wgN; rw [hl]
    rw [this]
    exact ⟨g1, g2, g3⟩
  | some m =>
    rw [hl] at e3 K
    obtain ⟨m1, m2⟩ := lastK_iff.mp hl
    have e4 : ¬ oI1 (some m) = -1 := oI1_neg (by omega)
    have e5 := fun x Q => S_take (d := d + 2) (b := b) (s := wSY s 256 (lastX y0 g.1).2) (h := h) (c := 272) (p := SP s 272) (x := x) (Q := Q) hb (isP_S (s := wSY s 256 (lastX y0 g.1).2) pb272) (by omega)
    simp (disch := omega) only [u_50_0, u_50_1, u_50_4, u_50_5, u_50_8, u_50_11, u_50_12, u_50_15, u_50_18, u_50_19, u_50_22, u_50_25, u_50_26, u_50_29, u_50_30, u_50_33, u_50_36, u_50_37, u_50_38, u_50_39, u_50_42, u_50_43, u_50_44, u_50_45, u_50_46, u_50_49, u_50_50, u_50_53, u_50_54, gI0, gIs, gR0, gRs, gF0, gFs, st0, st_i, st_r, st_f, st_n, st_s, true_and, and_true, ↓ifLeT, ↓ifLeF, ↓ifLtT, ↓ifLtF, ↓ifEqT, ↓ifEqF, if_tt, if_ff, if_pos, if_neg, nLe, nLt, nEq, nInT, nCl, pk_mul, nI_add, Nat.reduceAdd, s_cat_nil, s_cat_i, s_cat_r, s_cat_f, s_cat_l, tl_s, tl_n, cat_i, cat_r, cat_f, nb0, nb1, nbI, if_bI, if_bIr, Nat.zero_le, Nat.reduceLeDiff, S_g0_0, S_g0_1, S_g0_2, S_g0_3, S_g0_4, S_g0_5, S_g0_6, S_g0_7, S_g0_8, S_g0_9, S_g0_10, S_g0_11, S_g0_12, S_g0_13, S_g0_14, S_g1_0, S_g1_1, S_g1_2, S_g1_3, S_g1_4, S_g72_0, S_g72_1, S_g72_2, S_g239_0, S_g239_1, S_g239_2, S_g239_3, S_g239_4, S_g239_5, S_g239_6, S_a23, S_n23, S_a282, S_n282, S_a300, S_n300, S_n73, S_n299, hy2, hy3, e1, ob1, e2, C_g4 hb, C_ob hb, SO_wY, e3, e4, reduceIte, e5]
    refine K _ (frS_t (hfr (lastX y0 g.1).2) ⟨rfl, fun _ _ => rfl, fun _ _ => rfl, fun q hq => if_neg hq, ?_⟩) rfl ?_
    · show eB (if b = b then _ else _) 1 = _ ∧ eI (if b = b then _ else _) 5 = _ ∧ eI (if b = b then _ else _) 3 = _
      rw [if_pos rfl, SO_wY]
      exact ⟨rfl, rfl, rfl⟩
    · have : wgN n g l = (m, some (m, l)) := by unfold wgN; rw [hl]
      rw [this]
      show RCh (if b = b then _ else _) _
      rw [if_pos rfl]
      exact ⟨rfl, by show m ≤ 301; omega, rfl, by omega, hp⟩
end WGH
