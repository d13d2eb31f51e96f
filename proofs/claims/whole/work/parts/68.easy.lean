/-! EASY: the plain quay -/
def canG (n : tN) (c t : Nat) : Bool := !nDone n t && ((holdN (nL n) t).isNone && (nFree n t && nLift n c t))
def nearS (n : tN) (c t : Nat) (st : Option Nat × Nat) : Option Nat × Nat := if canG n c t && (st.1.isNone || decide (wayN (nA n 7 c) (nA n 12 t) < st.2)) then (some t, wayN (nA n 7 c) (nA n 12 t)) else st
def nearN (n : tN) (c : Nat) : Option Nat := (iter (nearS n c) 0 (nF n 3) (none, 0)).1
def giveN (c : Nat) (n : tN) : tN := if nK n c || (nNext n c).isSome then n else match nearN n c with
  | some t => jL n (appF (nL n) c t)
  | none => n
def givesN (n : tN) : tN := iter giveN 0 (nF n 2) n
def easyF : Nat → Nat → tN → Option (Nat × tL)
  | 0, _, _ => none
  | k + 1, m, n => if allD n then some (m, nL n) else easyF k (m + 1) (passN (givesN n))
def easyN (n : tN) : Option (Nat × tL) := easyF 301 0 (jL n (fun _ => []))
section EAN
variable {n : tN} {c t : Nat}
theorem near_inv : ∀ m i st, i + m = nF n 3 → (∀ t, st.1 = some t → t < i ∧ canG n c t = true) → (st.1 = none → ∀ t, t < i → canG n c t = false) → (∀ t, (iter (nearS n c) i m st).1 = some t → t < nF n 3 ∧ canG n c t = true) ∧ ((iter (nearS n c) i m st).1 = none → ∀ t, t < nF n 3 → canG n c t = false)
  | 0, i, st, hi, h1, h2 => by
    have e : i = nF n 3 := by omega
    subst e
    exact ⟨h1, h2⟩
  | m + 1, i, st, hi, h1, h2 => by
    rw [iter]
    refine near_inv m (i + 1) _ (by omega) ?_ ?_
    · intro t ht
      unfold nearS at ht
      split at ht
      · rename_i hc
        cases ht
        rw [Bool.and_eq_true] at hc
        exact ⟨Nat.lt_succ_self _, hc.1⟩
      · have := h1 t ht
        exact ⟨by omega, this.2⟩
    · intro hn t ht
      unfold nearS at hn
      split at hn
      · cases hn
      · rename_i hc
        by_cases e : t = i
        · rw [hn] at hc
          cases hx : canG n c t with
          | false => rfl
          | true => rw [e] at hx; rw [hx] at hc; exact absurd rfl hc
        · exact h2 hn t (by omega)
theorem near_some (h : nearN n c = some t) : t < nF n 3 ∧ canG n c t = true := (near_inv (nF n 3) 0 (none, 0) (Nat.zero_add _) (fun t h => by cases h) (fun _ t h => absurd h (Nat.not_lt_zero t))).1 t h
theorem near_none (h : nearN n c = none) : ∀ t, t < nF n 3 → canG n c t = false := (near_inv (nF n 3) 0 (none, 0) (Nat.zero_add _) (fun t h => by cases h) (fun _ t h => absurd h (Nat.not_lt_zero t))).2 h
theorem canG_of (h : canG n c t = true) : nDone n t = false ∧ holdN (nL n) t = none ∧ nFree n t = true ∧ nLift n c t = true := by
  unfold canG at h
  simp only [Bool.and_eq_true, Option.isNone_iff_eq_none] at h
  exact ⟨by simpa using h.1, h.2.1, h.2.2.1, h.2.2.2⟩
theorem hold_no (hn : wfN n) (h : holdN (nL n) t = none) : ∀ q, ¬ t ∈ nL n q := fun q hq => by
  rcases Nat.lt_or_ge q 4 with a | a
  · exact hold_none h a hq
  · rw [hn.2.2.2.1 q (by have := hn.1.1; omega)] at hq; cases hq
theorem wf_give (hn : wfN n) (hc : c < nF n 2) : wfN (giveN c n) := by
  unfold giveN
  split
  · exact hn
  · cases h : nearN n c with
    | none => exact hn
    | some t =>
      obtain ⟨h1, h2⟩ := near_some h
      obtain ⟨-, h3, -⟩ := canG_of h2
      exact ⟨hn.1, hn.2.1, hn.2.2.1, wfL_app (n := n) (l := nL n) hn.2.2.2 hc h1 (hold_no hn h3)⟩
/-- the same, but for the lists -/
def sameL (n m : tN) : Prop := m = jL n (nL m)
theorem sameL_give : sameL n (giveN c n) := by
  unfold giveN
  split
  · exact rfl
  · split
    · exact rfl
    · exact rfl
theorem sameL_t {m k : tN} (h1 : sameL n m) (h2 : sameL m k) : sameL n k := by
  unfold sameL at *
  rw [h2, h1]
  rfl
theorem sameL_F {m : tN} (h : sameL n m) : nF m = nF n := by rw [h]; rfl
theorem sameL_K {m : tN} (h : sameL n m) : nK m = nK n := by rw [h]; rfl
theorem sameL_done {m : tN} (h : sameL n m) : nDone m = nDone n := by rw [h]; rfl
theorem gives_inv (hn : wfN n) : wfN (givesN n) ∧ sameL n (givesN n) ∧ ∀ c, c < nF n 2 → nK n c = true ∨ (nNext (givesN n) c).isSome = true ∨ ∀ t, t < nF n 3 → canG (givesN n) c t = false := by
  have key := iter_inv (P := fun i k => wfN k ∧ sameL n k ∧ ∀ c, c < i → nK n c = true ∨ (nNext k c).isSome = true ∨ ∀ t, t < nF n 3 → canG k c t = false) (N := nF n 2) (f := giveN) (fun i k hi ⟨k1, k2, k3⟩ => by
    have sF := sameL_F k2
    have wk := wf_give k1 (c := i) (by rw [sF]; exact hi)
    have sg : sameL k (giveN i k) := sameL_give
    have sub : ∀ q u, u ∈ nL k q → u ∈ nL (giveN i k) q := fun q u hu => by
      unfold giveN
      split
      · exact hu
      · cases h : nearN k i with
        | none => exact hu
        | some t =>
          show u ∈ appF (nL k) i t q
          by_cases e : q = i
          · subst e; rw [app_at]; exact List.mem_append_left _ hu
          · rw [app_ne e]; exact hu
    have dn := sameL_done sg
    have less : ∀ c t, canG k c t = false → canG (giveN i k) c t = false := fun c t h => by
      cases hx : canG (giveN i k) c t with
      | false => rfl
      | true =>
        obtain ⟨a1, a2, a3, a4⟩ := canG_of hx
        have b1 : nDone k t = false := by rw [← dn]; exact a1
        have b2 : holdN (nL k) t = none := by
          cases hh : holdN (nL k) t with
          | none => rfl
          | some q => exact absurd (sub q t (hold_some hh).2) (hold_no wk a2 q)
        have b3 : nFree k t = true := by
          have : nFree (giveN i k) t = nFree k t := by rw [sg]; rfl
          rw [← this]; exact a3
        have b4 : nLift k c t = true := by
          have : nLift (giveN i k) c t = nLift k c t := by rw [sg]; rfl
          rw [← this]; exact a4
        unfold canG at h
        rw [b1, b2, b3, b4] at h
        cases h
    have nxt : ∀ c, (nNext k c).isSome = true → (nNext (giveN i k) c).isSome = true := fun c h => by
      obtain ⟨t, ht⟩ := Option.isSome_iff_exists.mp h
      obtain ⟨-, h2, h3⟩ := next_lt k1.2.2.2 ht
      cases hx : nNext (giveN i k) c with
      | some _ => rfl
      | none =>
        have := List.find?_eq_none.mp hx t (sub c t h2)
        rw [dn, h3] at this
        exact absurd rfl this
    refine ⟨wk, sameL_t k2 sg, fun c hc => ?_⟩
    by_cases e : c = i
    · subst e
      cases hK : nK n c with
      | true => exact Or.inl rfl
      | false =>
        refine Or.inr ?_
        have hK' : nK k c = false := by rw [sameL_K k2]; exact hK
        cases hN : (nNext k c).isSome with
        | true => exact Or.inl (nxt c hN)
        | false =>
          cases h : nearN k c with
          | none =>
            refine Or.inr fun t ht => less c t (near_none h t (by rw [sF]; exact ht))
          | some t =>
            refine Or.inl ?_
            obtain ⟨h1, h2⟩ := near_some h
            obtain ⟨h3, -⟩ := canG_of h2
            have e : giveN c k = jL k (appF (nL k) c t) := by unfold giveN; rw [hK', hN, h]; rfl
            rw [e]
            cases hx : nNext (jL k (appF (nL k) c t)) c with
            | some _ => rfl
            | none =>
              have := List.find?_eq_none.mp hx t (by show t ∈ appF (nL k) c t c; rw [app_at]; simp)
              rw [show nDone (jL k (appF (nL k) c t)) t = nDone k t from rfl, h3] at this
              exact absurd rfl this
    · rcases k3 c (by omega) with h | h | h
      · exact Or.inl h
      · exact Or.inr (Or.inl (nxt c h))
      · exact Or.inr (Or.inr fun t ht => less c t (h t ht))) (nF n 2) 0 n (Nat.zero_add _) ⟨hn, rfl, fun c hc => absurd hc (Nat.not_lt_zero c)⟩
  exact key
/-- nobody can be given a task -/
def noG (n : tN) : Prop := ∀ c, c < nF n 2 → nK n c = true ∨ (nNext n c).isSome = true ∨ ∀ t, t < nF n 3 → canG n c t = false
theorem noG_gives (h : noG n) : givesN n = n := by
  refine iter_inv (P := fun _ k => k = n) (N := nF n 2) (fun i k hi hk => ?_) (nF n 2) 0 n (Nat.zero_add _) rfl
  rw [hk]
  unfold giveN
  rcases h i hi with a | a | a
  · rw [a, Bool.true_or, if_pos rfl]
  · rw [a, Bool.or_true, if_pos rfl]
  · split
    · rfl
    · cases hx : nearN n i with
      | none => rfl
      | some t =>
        have := near_some hx
        rw [a t this.1] at this
        cases this.2
theorem noG_sq {m : tN} (hs : sq n m) (h : noG n) : noG m := by
  intro c hc
  rw [hs.1 2 (by decide)] at hc
  have e : ∀ t, canG m c t = canG n c t := fun t => by
    unfold canG nLift
    rw [sq_done hs, sq_free hs, hs.2.2.2.2, hs.2.2.1]
  rcases h c hc with a | a | a
  · exact Or.inl (by rw [hs.2.1]; exact a)
  · exact Or.inr (Or.inl (by rw [sq_next hs]; exact a))
  · exact Or.inr (Or.inr fun t ht => by rw [e]; exact a t (by rw [hs.1 3 (by decide)] at ht; exact ht))
theorem allD_sq {m : tN} (hs : sq n m) : allD m = allD n := by
  unfold allD
  rw [hs.1 3 (by decide), show nDone m = nDone n from funext fun t => sq_done hs]
theorem easy_stuck : ∀ k m n, wfN n → stirN n = false → noG n → allD n = false → easyF k m n = none
  | 0, _, _, _, _, _, _ => rfl
  | k + 1, m, n, hn, hs, hg, hd => by
    have q := (stuck_sq hn hs).1
    rw [easyF, hd, if_neg (by decide), noG_gives hg]
    exact easy_stuck k (m + 1) (passN n) (wf_pass hn) (stuck_on hn hs) (noG_sq q hg) (by rw [allD_sq q]; exact hd)
end EAN
/-! EASY: the cells -/
def RF (o : tO) (r : Option (Nat × tL)) : Prop := match r with
  | none => eI o 2 = -1
  | some (m, l) => eI o 2 = nI m ∧ m ≤ 300 ∧ RP (eP o) l
theorem RCh_F {o : tO} {g : tG} (h : RCh o g) : RF o g.2 := h.2.2
section EAS
variable {b d : Nat} {s : tS} {h : sH} {i x : Int32} {Q : sQ} {n : tN}
theorem A_lift {c t : Nat} (hn : wfN n) (hy : RY (SY s 256) n) (hc : c < nF n 2) (ht : t < nF n 3) : MT (d + 1) 70 [.ref 256, .int (nI c), .int (nI t)] (pS s h) Q ↔ Q (some (.int (iB (nLift n c t)))) (pS s h) := by
  have h4 := hn.1.1
  have h8 := hn.1.2.1
  have e := tl_Y (d := d + 1) (s := s) (h := h) (Q := Q) yb256 fun h Q => m_canLift (d := d) (a := 256) (y := SY s 256) (h := h) (Q := Q) (c := nI c) (t := nI t) ((nIn (by omega)).mpr (by omega)) ((nIn (by omega)).mpr (by omega))
  rw [nCl (by omega), nCl (by omega), (hy.2.1.1 c hc).2.1, (hy.2.2.1 t ht).2.2.1] at e
  have e2 : bI (nI (nA n 14 t) ≤ nI (nA n 8 c)) = iB (nLift n c t) := by
    have a1 := (hn.2.1.1 c hc).2.2.1
    have a2 := (hn.2.2.1 t ht).2.2.2.2.1
    unfold nLift bI
    by_cases q : nA n 14 t ≤ nA n 8 c
    · rw [if_pos ((nI_leI (by omega) (by omega)).mpr q), decide_eq_true q]; rfl
    · rw [if_neg (fun z => q ((nI_leI (by omega) (by omega)).mp z)), decide_eq_false q]; rfl
  rw [e2] at e
  exact e
def frN (n : tN) : Nat := andn (lfB n) (tbits (nL n))
theorem frN_tb (hn : wfN n) {t : Nat} (ht : t < nF n 3) : (frN n).testBit t = (!nDone n t && (holdN (nL n) t).isNone) := by
  have := lfB_lt hn
  unfold frN
  rw [andn_tb (by omega)]
  unfold lfB
  rw [bitsN_tb, decide_eq_true ht, Bool.true_and]
  congr 1
  cases hh : holdN (nL n) t with
  | some c => rw [tbits_tb.mpr ⟨c, hold_some hh⟩]; rfl
  | none =>
    cases hx : (tbits (nL n)).testBit t with
    | false => rfl
    | true =>
      obtain ⟨c, hc, hm⟩ := tbits_tb.mp hx
      exact absurd hm (hold_none hh hc)
theorem give_lp {c : Nat} (hn : wfN n) (hc : c < nF n 2) (hy : RY (SY s 256) n) (K : ∀ v4 v5 v6 v7, WP (d + 2) 52 172 [.ref 239, .int (nI c), .int (nI (frN n)), .int (oI1 (nearN n c)), v4, v5, v6, v7] [] (pS s h) (0, 0) Q) : ∀ m t (st : Option Nat × Nat) v6 v7, t + m = nF n 3 → st.2 < 2 ^ 20 → (∀ u, st.1 = some u → u < t) → iter (nearS n c) t m st = iter (nearS n c) 0 (nF n 3) (none, 0) → WP (d + 2) 52 53 [.ref 239, .int (nI c), .int (nI (frN n)), .int (oI1 st.1), .int (nI st.2), .int (nI t), v6, v7] [] (pS s h) (0, 0) Q := by
  intro m
  induction m with
  | zero =>
    intro t st v6 v7 ht h20 hu hst
    have h8 := hn.1.2.1
    have yT' : yT (SY s 256) = nF n 3 := hy.1.2.2.2.1
    have e : t = nF n 3 := by omega
    subst e
    have e1 : st.1 = nearN n c := congrArg Prod.fst hst
    rw [u_52_53]
    simp (disch := omega) only [u_52_0, u_52_1, u_52_4, u_52_5, u_52_8, u_52_11, u_52_12, u_52_15, u_52_16, u_52_19, u_52_20, u_52_23, u_52_24, u_52_25, u_52_28, u_52_31, u_52_32, u_52_35, u_52_38, u_52_41, u_52_42, u_52_43, u_52_44, u_52_45, u_52_46, u_52_47, u_52_48, u_52_50, u_52_51, u_52_55, u_52_56, u_52_59, u_52_62, u_52_65, u_52_66, u_52_69, u_52_72, u_52_74, u_52_75, u_52_76, u_52_79, u_52_82, u_52_83, u_52_84, u_52_85, u_52_88, u_52_89, u_52_92, u_52_93, u_52_95, u_52_98, u_52_101, u_52_102, u_52_105, u_52_106, u_52_108, u_52_109, u_52_112, u_52_115, u_52_117, u_52_118, u_52_119, u_52_122, u_52_125, u_52_126, u_52_127, u_52_128, u_52_131, u_52_133, u_52_134, u_52_136, u_52_137, u_52_138, u_52_139, u_52_142, u_52_144, u_52_147, u_52_148, u_52_149, u_52_152, u_52_154, u_52_156, u_52_159, u_52_161, u_52_162, u_52_164, u_52_166, u_52_169, u_52_173, u_52_174, u_52_177, u_52_178, u_52_181, u_52_184, u_52_185, u_52_186, u_52_189, gI0, gIs, gR0, gRs, gF0, gFs, st0, st_i, st_r, st_f, st_n, st_s, true_and, and_true, ↓ifLeT, ↓ifLeF, ↓ifLtT, ↓ifLtF, ↓ifEqT, ↓ifEqF, if_tt, if_ff, if_pos, if_neg, nLe, nLt, nEq, nInT, nCl, pk_mul, nI_add, Nat.reduceAdd, s_cat_nil, s_cat_i, s_cat_r, s_cat_f, s_cat_l, tl_s, tl_n, cat_i, cat_r, cat_f, nb0, nb1, nbI, if_bI, if_bIr, Nat.zero_le, Nat.reduceLeDiff, S_g0_0, S_g0_1, S_g0_2, S_g0_3, S_g0_4, S_g0_5, S_g0_6, S_g0_7, S_g0_8, S_g0_9, S_g0_10, S_g0_11, S_g0_12, S_g0_13, S_g0_14, S_g1_0, S_g1_1, S_g1_2, S_g1_3, S_g1_4, S_g72_0, S_g72_1, S_g72_2, S_g239_0, S_g239_1, S_g239_2, S_g239_3, S_g239_4, S_g239_5, S_g239_6, S_a23, S_n23, S_a282, S_n282, S_a300, S_n300, S_n73, S_n299, Y'_ob (isY_S yb256), Y'_g0 (isY_S yb256), Y'_g1 (isY_S yb256), Y'_g2 (isY_S yb256), Y'_g3 (isY_S yb256), Y'_g4 (isY_S yb256), Y'_g5 (isY_S yb256), Y'_g6 (isY_S yb256), Y'_g7 (isY_S yb256), Y'_g8 (isY_S yb256), Y'_g9 (isY_S yb256), Y'_g10 (isY_S yb256), Y'_g11 (isY_S yb256), Y'_g12 (isY_S yb256), Y'_g13 (isY_S yb256), Y'_g14 (isY_S yb256), Y'_g15 (isY_S yb256), Y'_g16 (isY_S yb256), Y'_g17 (isY_S yb256), Y'_g18 (isY_S yb256), Y'_g19 (isY_S yb256), Y'_a7 (isY_S yb256), Y'_a8 (isY_S yb256), Y'_a10 (isY_S yb256), Y'_a11 (isY_S yb256), Y'_a12 (isY_S yb256), Y'_a13 (isY_S yb256), Y'_a14 (isY_S yb256), Y'_a15 (isY_S yb256), Y'_a16 (isY_S yb256), Y'_a17 (isY_S yb256), Y'_a18 (isY_S yb256), Y'_sw (isY_S yb256), yT', Nat.le_refl]
    rw [e1]
    exact K _ _ _ _
  | succ m ih =>
    intro t st v6 v7 ht h20 hu hst
    have h8 := hn.1.2.1
    have h4 := hn.1.1
    have hB := hn.1.2.2.2.1
    have htT : t < nF n 3 := by omega
    have yT' : yT (SY s 256) = nF n 3 := hy.1.2.2.2.1
    have f6 : yB (SY s 256) 6 = nI (bitsN (nDone n) (nF n 3)) := hy.1.2.2.2.2.2.2
    have yt := hy.2.2.1 t htT
    have y12 := yt.1
    have y15 := yt.2.2.2.1
    have y7 := (hy.2.1.1 c hc).1
    have s1 := (hn.2.2.1 t htT).1
    have s2 := (hn.2.1.1 c hc).1
    have fr := free_rel hn.1 hn.2.2.1 htT
    have habs := abs_n (a := nA n 7 c) (s := nA n 12 t) (by omega) (by omega)
    have hw : wayN (nA n 7 c) (nA n 12 t) < 2 ^ 20 := by unfold wayN; omega
    have i1 : vp_in (nI t) 8 := (nIn (by omega)).mpr (by omega)
    have i2 : vp_in (nI c) 4 := (nIn (by omega)).mpr (by omega)
    have e4 := fun Q => A_lift (d := d + 1) (s := s) (h := h) (Q := Q) (c := c) (t := t) hn hy hc htT
    have hbit := i_bit0 (m := frN n) (c := t) andn_lt (by omega)
    rw [frN_tb hn htT] at hbit
    rw [iter] at hst
    rw [u_52_53]
    -- from where it is known whether the crane can
    have fin : ∀ B : Bool, B = (nFree n t && nLift n c t) → WP (d + 2) 52 106 [.ref 239, .int (nI c), .int (nI (frN n)), .int (oI1 st.1), .int (nI st.2), .int (nI t), v6, v7] [.int (iB B)] (pS s h) (0, 0) Q := by
      intro B hB'
      by_cases hf : (!nDone n t && (holdN (nL n) t).isNone) = true
      · have hb2 : ¬ (nI (frN n) >>> (nI t &&& 31) &&& nI 1 = nI 0) := fun q => by rw [hbit.mp q] at hf; cases hf
        cases B with
        | false =>
          have e : nearS n c t st = st := by
            unfold nearS canG
            rw [← Bool.and_assoc, hf, ← hB']
            rfl
          rw [e] at hst
          simp (disch := omega) only [u_52_0, u_52_1, u_52_4, u_52_5, u_52_8, u_52_11, u_52_12, u_52_15, u_52_16, u_52_19, u_52_20, u_52_23, u_52_24, u_52_25, u_52_28, u_52_31, u_52_32, u_52_35, u_52_38, u_52_41, u_52_42, u_52_43, u_52_44, u_52_45, u_52_46, u_52_47, u_52_48, u_52_50, u_52_51, u_52_55, u_52_56, u_52_59, u_52_62, u_52_65, u_52_66, u_52_69, u_52_72, u_52_74, u_52_75, u_52_76, u_52_79, u_52_82, u_52_83, u_52_84, u_52_85, u_52_88, u_52_89, u_52_92, u_52_93, u_52_95, u_52_98, u_52_101, u_52_102, u_52_105, u_52_106, u_52_108, u_52_109, u_52_112, u_52_115, u_52_117, u_52_118, u_52_119, u_52_122, u_52_125, u_52_126, u_52_127, u_52_128, u_52_131, u_52_133, u_52_134, u_52_136, u_52_137, u_52_138, u_52_139, u_52_142, u_52_144, u_52_147, u_52_148, u_52_149, u_52_152, u_52_154, u_52_156, u_52_159, u_52_161, u_52_162, u_52_164, u_52_166, u_52_169, u_52_173, u_52_174, u_52_177, u_52_178, u_52_181, u_52_184, u_52_185, u_52_186, u_52_189, gI0, gIs, gR0, gRs, gF0, gFs, st0, st_i, st_r, st_f, st_n, st_s, true_and, and_true, ↓ifLeT, ↓ifLeF, ↓ifLtT, ↓ifLtF, ↓ifEqT, ↓ifEqF, if_tt, if_ff, if_pos, if_neg, nLe, nLt, nEq, nInT, nCl, pk_mul, nI_add, Nat.reduceAdd, s_cat_nil, s_cat_i, s_cat_r, s_cat_f, s_cat_l, tl_s, tl_n, cat_i, cat_r, cat_f, nb0, nb1, nbI, if_bI, if_bIr, Nat.zero_le, Nat.reduceLeDiff, S_g0_0, S_g0_1, S_g0_2, S_g0_3, S_g0_4, S_g0_5, S_g0_6, S_g0_7, S_g0_8, S_g0_9, S_g0_10, S_g0_11, S_g0_12, S_g0_13, S_g0_14, S_g1_0, S_g1_1, S_g1_2, S_g1_3, S_g1_4, S_g72_0, S_g72_1, S_g72_2, S_g239_0, S_g239_1, S_g239_2, S_g239_3, S_g239_4, S_g239_5, S_g239_6, S_a23, S_n23, S_a282, S_n282, S_a300, S_n300, S_n73, S_n299, Y'_ob (isY_S yb256), Y'_g0 (isY_S yb256), Y'_g1 (isY_S yb256), Y'_g2 (isY_S yb256), Y'_g3 (isY_S yb256), Y'_g4 (isY_S yb256), Y'_g5 (isY_S yb256), Y'_g6 (isY_S yb256), Y'_g7 (isY_S yb256), Y'_g8 (isY_S yb256), Y'_g9 (isY_S yb256), Y'_g10 (isY_S yb256), Y'_g11 (isY_S yb256), Y'_g12 (isY_S yb256), Y'_g13 (isY_S yb256), Y'_g14 (isY_S yb256), Y'_g15 (isY_S yb256), Y'_g16 (isY_S yb256), Y'_g17 (isY_S yb256), Y'_g18 (isY_S yb256), Y'_g19 (isY_S yb256), Y'_a7 (isY_S yb256), Y'_a8 (isY_S yb256), Y'_a10 (isY_S yb256), Y'_a11 (isY_S yb256), Y'_a12 (isY_S yb256), Y'_a13 (isY_S yb256), Y'_a14 (isY_S yb256), Y'_a15 (isY_S yb256), Y'_a16 (isY_S yb256), Y'_a17 (isY_S yb256), Y'_a18 (isY_S yb256), Y'_sw (isY_S yb256), i1, i2, y12, y7, habs, hb2, iBf]
          exact ih (t + 1) st _ _ (by omega) h20 (fun u hu' => by have := hu u hu'; omega) hst
        | true =>
          have hcan : canG n c t = true := by unfold canG; rw [← Bool.and_assoc, hf, ← hB']; rfl
          have new : ∀ v6 v7, nearS n c t st = (some t, wayN (nA n 7 c) (nA n 12 t)) → WP (d + 2) 52 53 [.ref 239, .int (nI c), .int (nI (frN n)), .int (nI t), .int (nI (wayN (nA n 7 c) (nA n 12 t))), .int (nI (t + 1)), v6, v7] [] (pS s h) (0, 0) Q := by
            intro v6 v7 e
            rw [e] at hst
            exact ih (t + 1) (some t, wayN (nA n 7 c) (nA n 12 t)) v6 v7 (by omega) hw (fun u hu' => by cases hu'; exact Nat.lt_succ_self _) hst
          cases hs1 : st.1 with
          | none =>
            have e : nearS n c t st = (some t, wayN (nA n 7 c) (nA n 12 t)) := by unfold nearS; rw [hcan, hs1]; rfl
            have e0 : oI1 none = -1 := rfl
            simp (disch := omega) only [u_52_0, u_52_1, u_52_4, u_52_5, u_52_8, u_52_11, u_52_12, u_52_15, u_52_16, u_52_19, u_52_20, u_52_23, u_52_24, u_52_25, u_52_28, u_52_31, u_52_32, u_52_35, u_52_38, u_52_41, u_52_42, u_52_43, u_52_44, u_52_45, u_52_46, u_52_47, u_52_48, u_52_50, u_52_51, u_52_55, u_52_56, u_52_59, u_52_62, u_52_65, u_52_66, u_52_69, u_52_72, u_52_74, u_52_75, u_52_76, u_52_79, u_52_82, u_52_83, u_52_84, u_52_85, u_52_88, u_52_89, u_52_92, u_52_93, u_52_95, u_52_98, u_52_101, u_52_102, u_52_105, u_52_106, u_52_108, u_52_109, u_52_112, u_52_115, u_52_117, u_52_118, u_52_119, u_52_122, u_52_125, u_52_126, u_52_127, u_52_128, u_52_131, u_52_133, u_52_134, u_52_136, u_52_137, u_52_138, u_52_139, u_52_142, u_52_144, u_52_147, u_52_148, u_52_149, u_52_152, u_52_154, u_52_156, u_52_159, u_52_161, u_52_162, u_52_164, u_52_166, u_52_169, u_52_173, u_52_174, u_52_177, u_52_178, u_52_181, u_52_184, u_52_185, u_52_186, u_52_189, gI0, gIs, gR0, gRs, gF0, gFs, st0, st_i, st_r, st_f, st_n, st_s, true_and, and_true, ↓ifLeT, ↓ifLeF, ↓ifLtT, ↓ifLtF, ↓ifEqT, ↓ifEqF, if_tt, if_ff, if_pos, if_neg, nLe, nLt, nEq, nInT, nCl, pk_mul, nI_add, Nat.reduceAdd, s_cat_nil, s_cat_i, s_cat_r, s_cat_f, s_cat_l, tl_s, tl_n, cat_i, cat_r, cat_f, nb0, nb1, nbI, if_bI, if_bIr, Nat.zero_le, Nat.reduceLeDiff, S_g0_0, S_g0_1, S_g0_2, S_g0_3, S_g0_4, S_g0_5, S_g0_6, S_g0_7, S_g0_8, S_g0_9, S_g0_10, S_g0_11, S_g0_12, S_g0_13, S_g0_14, S_g1_0, S_g1_1, S_g1_2, S_g1_3, S_g1_4, S_g72_0, S_g72_1, S_g72_2, S_g239_0, S_g239_1, S_g239_2, S_g239_3, S_g239_4, S_g239_5, S_g239_6, S_a23, S_n23, S_a282, S_n282, S_a300, S_n300, S_n73, S_n299, Y'_ob (isY_S yb256), Y'_g0 (isY_S yb256), Y'_g1 (isY_S yb256), Y'_g2 (isY_S yb256), Y'_g3 (isY_S yb256), Y'_g4 (isY_S yb256), Y'_g5 (isY_S yb256), Y'_g6 (isY_S yb256), Y'_g7 (isY_S yb256), Y'_g8 (isY_S yb256), Y'_g9 (isY_S yb256), Y'_g10 (isY_S yb256), Y'_g11 (isY_S yb256), Y'_g12 (isY_S yb256), Y'_g13 (isY_S yb256), Y'_g14 (isY_S yb256), Y'_g15 (isY_S yb256), Y'_g16 (isY_S yb256), Y'_g17 (isY_S yb256), Y'_g18 (isY_S yb256), Y'_g19 (isY_S yb256), Y'_a7 (isY_S yb256), Y'_a8 (isY_S yb256), Y'_a10 (isY_S yb256), Y'_a11 (isY_S yb256), Y'_a12 (isY_S yb256), Y'_a13 (isY_S yb256), Y'_a14 (isY_S yb256), Y'_a15 (isY_S yb256), Y'_a16 (isY_S yb256), Y'_a17 (isY_S yb256), Y'_a18 (isY_S yb256), Y'_sw (isY_S yb256), i1, i2, y12, y7, habs, hb2, iBt, nI10, reduceIte, e0]
            exact new _ _ e
          | some u =>
            have hu' := hu u hs1
            have e0 : ¬ oI1 (some u) = -1 := oI1_neg (by omega)
            by_cases hlt : wayN (nA n 7 c) (nA n 12 t) < st.2
            · have e : nearS n c t st = (some t, wayN (nA n 7 c) (nA n 12 t)) := by unfold nearS; rw [hcan, decide_eq_true hlt, Bool.or_true]; rfl
              simp (disch := omega) only [u_52_0, u_52_1, u_52_4, u_52_5, u_52_8, u_52_11, u_52_12, u_52_15, u_52_16, u_52_19, u_52_20, u_52_23, u_52_24, u_52_25, u_52_28, u_52_31, u_52_32, u_52_35, u_52_38, u_52_41, u_52_42, u_52_43, u_52_44, u_52_45, u_52_46, u_52_47, u_52_48, u_52_50, u_52_51, u_52_55, u_52_56, u_52_59, u_52_62, u_52_65, u_52_66, u_52_69, u_52_72, u_52_74, u_52_75, u_52_76, u_52_79, u_52_82, u_52_83, u_52_84, u_52_85, u_52_88, u_52_89, u_52_92, u_52_93, u_52_95, u_52_98, u_52_101, u_52_102, u_52_105, u_52_106, u_52_108, u_52_109, u_52_112, u_52_115, u_52_117, u_52_118, u_52_119, u_52_122, u_52_125, u_52_126, u_52_127, u_52_128, u_52_131, u_52_133, u_52_134, u_52_136, u_52_137, u_52_138, u_52_139, u_52_142, u_52_144, u_52_147, u_52_148, u_52_149, u_52_152, u_52_154, u_52_156, u_52_159, u_52_161, u_52_162, u_52_164, u_52_166, u_52_169, u_52_173, u_52_174, u_52_177, u_52_178, u_52_181, u_52_184, u_52_185, u_52_186, u_52_189, gI0, gIs, gR0, gRs, gF0, gFs, st0, st_i, st_r, st_f, st_n, st_s, true_and, and_true, ↓ifLeT, ↓ifLeF, ↓ifLtT, ↓ifLtF, ↓ifEqT, ↓ifEqF, if_tt, if_ff, if_pos, if_neg, nLe, nLt, nEq, nInT, nCl, pk_mul, nI_add, Nat.reduceAdd, s_cat_nil, s_cat_i, s_cat_r, s_cat_f, s_cat_l, tl_s, tl_n, cat_i, cat_r, cat_f, nb0, nb1, nbI, if_bI, if_bIr, Nat.zero_le, Nat.reduceLeDiff, S_g0_0, S_g0_1, S_g0_2, S_g0_3, S_g0_4, S_g0_5, S_g0_6, S_g0_7, S_g0_8, S_g0_9, S_g0_10, S_g0_11, S_g0_12, S_g0_13, S_g0_14, S_g1_0, S_g1_1, S_g1_2, S_g1_3, S_g1_4, S_g72_0, S_g72_1, S_g72_2, S_g239_0, S_g239_1, S_g239_2, S_g239_3, S_g239_4, S_g239_5, S_g239_6, S_a23, S_n23, S_a282, S_n282, S_a300, S_n300, S_n73, S_n299, Y'_ob (isY_S yb256), Y'_g0 (isY_S yb256), Y'_g1 (isY_S yb256), Y'_g2 (isY_S yb256), Y'_g3 (isY_S yb256), Y'_g4 (isY_S yb256), Y'_g5 (isY_S yb256), Y'_g6 (isY_S yb256), Y'_g7 (isY_S yb256), Y'_g8 (isY_S yb256), Y'_g9 (isY_S yb256), Y'_g10 (isY_S yb256), Y'_g11 (isY_S yb256), Y'_g12 (isY_S yb256), Y'_g13 (isY_S yb256), Y'_g14 (isY_S yb256), Y'_g15 (isY_S yb256), Y'_g16 (isY_S yb256), Y'_g17 (isY_S yb256), Y'_g18 (isY_S yb256), Y'_g19 (isY_S yb256), Y'_a7 (isY_S yb256), Y'_a8 (isY_S yb256), Y'_a10 (isY_S yb256), Y'_a11 (isY_S yb256), Y'_a12 (isY_S yb256), Y'_a13 (isY_S yb256), Y'_a14 (isY_S yb256), Y'_a15 (isY_S yb256), Y'_a16 (isY_S yb256), Y'_a17 (isY_S yb256), Y'_a18 (isY_S yb256), Y'_sw (isY_S yb256), i1, i2, y12, y7, habs, hb2, iBt, nI10, reduceIte, e0]
              exact new _ _ e
            · have e : nearS n c t st = st := by unfold nearS; rw [hcan, hs1, decide_eq_false hlt]; rfl
              rw [e] at hst
              simp (disch := omega) only [u_52_0, u_52_1, u_52_4, u_52_5, u_52_8, u_52_11, u_52_12, u_52_15, u_52_16, u_52_19, u_52_20, u_52_23, u_52_24, u_52_25, u_52_28, u_52_31, u_52_32, u_52_35, u_52_38, u_52_41, u_52_42, u_52_43, u_52_44, u_52_45, u_52_46, u_52_47, u_52_48, u_52_50, u_52_51, u_52_55, u_52_56, u_52_59, u_52_62, u_52_65, u_52_66, u_52_69, u_52_72, u_52_74, u_52_75, u_52_76, u_52_79, u_52_82, u_52_83, u_52_84, u_52_85, u_52_88, u_52_89, u_52_92, u_52_93, u_52_95, u_52_98, u_52_101, u_52_102, u_52_105, u_52_106, u_52_108, u_52_109, u_52_112, u_52_115, u_52_117, u_52_118, u_52_119, u_52_122, u_52_125, u_52_126, u_52_127, u_52_128, u_52_131, u_52_133, u_52_134, u_52_136, u_52_137, u_52_138, u_52_139, u_52_142, u_52_144, u_52_147, u_52_148, u_52_149, u_52_152, u_52_154, u_52_156, u_52_159, u_52_161, u_52_162, u_52_164, u_52_166, u_52_169, u_52_173, u_52_174, u_52_177, u_52_178, u_52_181, u_52_184, u_52_185, u_52_186, u_52_189, gI0, gIs, gR0, gRs, gF0, gFs, st0, st_i, st_r, st_f, st_n, st_s, true_and, and_true, ↓ifLeT, ↓ifLeF, ↓ifLtT, ↓ifLtF, ↓ifEqT, ↓ifEqF, if_tt, if_ff, if_pos, if_neg, nLe, nLt, nEq, nInT, nCl, pk_mul, nI_add, Nat.reduceAdd, s_cat_nil, s_cat_i, s_cat_r, s_cat_f, s_cat_l, tl_s, tl_n, cat_i, cat_r, cat_f, nb0, nb1, nbI, if_bI, if_bIr, Nat.zero_le, Nat.reduceLeDiff, S_g0_0, S_g0_1, S_g0_2, S_g0_3, S_g0_4, S_g0_5, S_g0_6, S_g0_7, S_g0_8, S_g0_9, S_g0_10, S_g0_11, S_g0_12, S_g0_13, S_g0_14, S_g1_0, S_g1_1, S_g1_2, S_g1_3, S_g1_4, S_g72_0, S_g72_1, S_g72_2, S_g239_0, S_g239_1, S_g239_2, S_g239_3, S_g239_4, S_g239_5, S_g239_6, S_a23, S_n23, S_a282, S_n282, S_a300, S_n300, S_n73, S_n299, Y'_ob (isY_S yb256), Y'_g0 (isY_S yb256), Y'_g1 (isY_S yb256), Y'_g2 (isY_S yb256), Y'_g3 (isY_S yb256), Y'_g4 (isY_S yb256), Y'_g5 (isY_S yb256), Y'_g6 (isY_S yb256), Y'_g7 (isY_S yb256), Y'_g8 (isY_S yb256), Y'_g9 (isY_S yb256), Y'_g10 (isY_S yb256), Y'_g11 (isY_S yb256), Y'_g12 (isY_S yb256), Y'_g13 (isY_S yb256), Y'_g14 (isY_S yb256), Y'_g15 (isY_S yb256), Y'_g16 (isY_S yb256), Y'_g17 (isY_S yb256), Y'_g18 (isY_S yb256), Y'_g19 (isY_S yb256), Y'_a7 (isY_S yb256), Y'_a8 (isY_S yb256), Y'_a10 (isY_S yb256), Y'_a11 (isY_S yb256), Y'_a12 (isY_S yb256), Y'_a13 (isY_S yb256), Y'_a14 (isY_S yb256), Y'_a15 (isY_S yb256), Y'_a16 (isY_S yb256), Y'_a17 (isY_S yb256), Y'_a18 (isY_S yb256), Y'_sw (isY_S yb256), i1, i2, y12, y7, habs, hb2, iBt, nI10, reduceIte, e0]
              have := ih (t + 1) st (.int (nI 1)) (.int (nI (wayN (nA n 7 c) (nA n 12 t)))) (by omega) h20 (fun u hu' => by have := hu u hu'; omega) hst
              rw [hs1] at this
              exact this
      · have hf' : (!nDone n t && (holdN (nL n) t).isNone) = false := by
          cases hx : (!nDone n t && (holdN (nL n) t).isNone) with
          | true => exact absurd hx hf
          | false => rfl
        have hb2 := hbit.mpr hf'
        have e : nearS n c t st = st := by
          unfold nearS canG
          rw [← Bool.and_assoc, hf']
          rfl
        rw [e] at hst
        simp (disch := omega) only [u_52_0, u_52_1, u_52_4, u_52_5, u_52_8, u_52_11, u_52_12, u_52_15, u_52_16, u_52_19, u_52_20, u_52_23, u_52_24, u_52_25, u_52_28, u_52_31, u_52_32, u_52_35, u_52_38, u_52_41, u_52_42, u_52_43, u_52_44, u_52_45, u_52_46, u_52_47, u_52_48, u_52_50, u_52_51, u_52_55, u_52_56, u_52_59, u_52_62, u_52_65, u_52_66, u_52_69, u_52_72, u_52_74, u_52_75, u_52_76, u_52_79, u_52_82, u_52_83, u_52_84, u_52_85, u_52_88, u_52_89, u_52_92, u_52_93, u_52_95, u_52_98, u_52_101, u_52_102, u_52_105, u_52_106, u_52_108, u_52_109, u_52_112, u_52_115, u_52_117, u_52_118, u_52_119, u_52_122, u_52_125, u_52_126, u_52_127, u_52_128, u_52_131, u_52_133, u_52_134, u_52_136, u_52_137, u_52_138, u_52_139, u_52_142, u_52_144, u_52_147, u_52_148, u_52_149, u_52_152, u_52_154, u_52_156, u_52_159, u_52_161, u_52_162, u_52_164, u_52_166, u_52_169, u_52_173, u_52_174, u_52_177, u_52_178, u_52_181, u_52_184, u_52_185, u_52_186, u_52_189, gI0, gIs, gR0, gRs, gF0, gFs, st0, st_i, st_r, st_f, st_n, st_s, true_and, and_true, ↓ifLeT, ↓ifLeF, ↓ifLtT, ↓ifLtF, ↓ifEqT, ↓ifEqF, if_tt, if_ff, if_pos, if_neg, nLe, nLt, nEq, nInT, nCl, pk_mul, nI_add, Nat.reduceAdd, s_cat_nil, s_cat_i, s_cat_r, s_cat_f, s_cat_l, tl_s, tl_n, cat_i, cat_r, cat_f, nb0, nb1, nbI, if_bI, if_bIr, Nat.zero_le, Nat.reduceLeDiff, S_g0_0, S_g0_1, S_g0_2, S_g0_3, S_g0_4, S_g0_5, S_g0_6, S_g0_7, S_g0_8, S_g0_9, S_g0_10, S_g0_11, S_g0_12, S_g0_13, S_g0_14, S_g1_0, S_g1_1, S_g1_2, S_g1_3, S_g1_4, S_g72_0, S_g72_1, S_g72_2, S_g239_0, S_g239_1, S_g239_2, S_g239_3, S_g239_4, S_g239_5, S_g239_6, S_a23, S_n23, S_a282, S_n282, S_a300, S_n300, S_n73, S_n299, Y'_ob (isY_S yb256), Y'_g0 (isY_S yb256), Y'_g1 (isY_S yb256), Y'_g2 (isY_S yb256), Y'_g3 (isY_S yb256), Y'_g4 (isY_S yb256), Y'_g5 (isY_S yb256), Y'_g6 (isY_S yb256), Y'_g7 (isY_S yb256), Y'_g8 (isY_S yb256), Y'_g9 (isY_S yb256), Y'_g10 (isY_S yb256), Y'_g11 (isY_S yb256), Y'_g12 (isY_S yb256), Y'_g13 (isY_S yb256), Y'_g14 (isY_S yb256), Y'_g15 (isY_S yb256), Y'_g16 (isY_S yb256), Y'_g17 (isY_S yb256), Y'_g18 (isY_S yb256), Y'_g19 (isY_S yb256), Y'_a7 (isY_S yb256), Y'_a8 (isY_S yb256), Y'_a10 (isY_S yb256), Y'_a11 (isY_S yb256), Y'_a12 (isY_S yb256), Y'_a13 (isY_S yb256), Y'_a14 (isY_S yb256), Y'_a15 (isY_S yb256), Y'_a16 (isY_S yb256), Y'_a17 (isY_S yb256), Y'_a18 (isY_S yb256), Y'_sw (isY_S yb256), i1, i2, y12, y7, habs, hb2]
        exact ih (t + 1) st _ _ (by omega) h20 (fun u hu' => by have := hu u hu'; omega) hst
    cases hfr : nFree n t with
    | false =>
      have fr' : ¬ (nI (bitsN (nV n t) 8) &&& (nI (bitsN (nDone n) (nF n 3)) ^^^ (-1)) = nI 0) := fun q => by rw [fr.mp q] at hfr; cases hfr
      have := fin false (by rw [hfr]; rfl)
      rw [iBf] at this
      simp (disch := omega) only [u_52_0, u_52_1, u_52_4, u_52_5, u_52_8, u_52_11, u_52_12, u_52_15, u_52_16, u_52_19, u_52_20, u_52_23, u_52_24, u_52_25, u_52_28, u_52_31, u_52_32, u_52_35, u_52_38, u_52_41, u_52_42, u_52_43, u_52_44, u_52_45, u_52_46, u_52_47, u_52_48, u_52_50, u_52_51, u_52_55, u_52_56, u_52_59, u_52_62, u_52_65, u_52_66, u_52_69, u_52_72, u_52_74, u_52_75, u_52_76, u_52_79, u_52_82, u_52_83, u_52_84, u_52_85, u_52_88, u_52_89, u_52_92, u_52_93, u_52_95, u_52_98, u_52_101, u_52_102, u_52_105, u_52_108, u_52_109, u_52_112, u_52_115, u_52_117, u_52_118, u_52_119, u_52_122, u_52_125, u_52_126, u_52_127, u_52_128, u_52_131, u_52_133, u_52_134, u_52_136, u_52_137, u_52_138, u_52_139, u_52_142, u_52_144, u_52_147, u_52_148, u_52_149, u_52_152, u_52_154, u_52_156, u_52_159, u_52_161, u_52_162, u_52_164, u_52_166, u_52_169, u_52_172, u_52_173, u_52_174, u_52_177, u_52_178, u_52_181, u_52_184, u_52_185, u_52_186, u_52_189, gI0, gIs, gR0, gRs, gF0, gFs, st0, st_i, st_r, st_f, st_n, st_s, true_and, and_true, ↓ifLeT, ↓ifLeF, ↓ifLtT, ↓ifLtF, ↓ifEqT, ↓ifEqF, if_tt, if_ff, if_pos, if_neg, nLe, nLt, nEq, nInT, nCl, pk_mul, nI_add, Nat.reduceAdd, s_cat_nil, s_cat_i, s_cat_r, s_cat_f, s_cat_l, tl_s, tl_n, cat_i, cat_r, cat_f, nb0, nb1, nbI, if_bI, if_bIr, Nat.zero_le, Nat.reduceLeDiff, S_g0_0, S_g0_1, S_g0_2, S_g0_3, S_g0_4, S_g0_5, S_g0_6, S_g0_7, S_g0_8, S_g0_9, S_g0_10, S_g0_11, S_g0_12, S_g0_13, S_g0_14, S_g1_0, S_g1_1, S_g1_2, S_g1_3, S_g1_4, S_g72_0, S_g72_1, S_g72_2, S_g239_0, S_g239_1, S_g239_2, S_g239_3, S_g239_4, S_g239_5, S_g239_6, S_a23, S_n23, S_a282, S_n282, S_a300, S_n300, S_n73, S_n299, Y'_ob (isY_S yb256), Y'_g0 (isY_S yb256), Y'_g1 (isY_S yb256), Y'_g2 (isY_S yb256), Y'_g3 (isY_S yb256), Y'_g4 (isY_S yb256), Y'_g5 (isY_S yb256), Y'_g6 (isY_S yb256), Y'_g7 (isY_S yb256), Y'_g8 (isY_S yb256), Y'_g9 (isY_S yb256), Y'_g10 (isY_S yb256), Y'_g11 (isY_S yb256), Y'_g12 (isY_S yb256), Y'_g13 (isY_S yb256), Y'_g14 (isY_S yb256), Y'_g15 (isY_S yb256), Y'_g16 (isY_S yb256), Y'_g17 (isY_S yb256), Y'_g18 (isY_S yb256), Y'_g19 (isY_S yb256), Y'_a7 (isY_S yb256), Y'_a8 (isY_S yb256), Y'_a10 (isY_S yb256), Y'_a11 (isY_S yb256), Y'_a12 (isY_S yb256), Y'_a13 (isY_S yb256), Y'_a14 (isY_S yb256), Y'_a15 (isY_S yb256), Y'_a16 (isY_S yb256), Y'_a17 (isY_S yb256), Y'_a18 (isY_S yb256), Y'_sw (isY_S yb256), yT', i1, y15, f6, fr', reduceIte]
      exact this
    | true =>
      have fr' := fr.mpr hfr
      have := fin (nLift n c t) (by rw [hfr]; rfl)
      cases hl : nLift n c t with
      | false =>
        rw [hl, iBf] at this
        simp (disch := omega) only [u_52_0, u_52_1, u_52_4, u_52_5, u_52_8, u_52_11, u_52_12, u_52_15, u_52_16, u_52_19, u_52_20, u_52_23, u_52_24, u_52_25, u_52_28, u_52_31, u_52_32, u_52_35, u_52_38, u_52_41, u_52_42, u_52_43, u_52_44, u_52_45, u_52_46, u_52_47, u_52_48, u_52_50, u_52_51, u_52_55, u_52_56, u_52_59, u_52_62, u_52_65, u_52_66, u_52_69, u_52_72, u_52_74, u_52_75, u_52_76, u_52_79, u_52_82, u_52_83, u_52_84, u_52_85, u_52_88, u_52_89, u_52_92, u_52_93, u_52_95, u_52_98, u_52_101, u_52_102, u_52_105, u_52_108, u_52_109, u_52_112, u_52_115, u_52_117, u_52_118, u_52_119, u_52_122, u_52_125, u_52_126, u_52_127, u_52_128, u_52_131, u_52_133, u_52_134, u_52_136, u_52_137, u_52_138, u_52_139, u_52_142, u_52_144, u_52_147, u_52_148, u_52_149, u_52_152, u_52_154, u_52_156, u_52_159, u_52_161, u_52_162, u_52_164, u_52_166, u_52_169, u_52_172, u_52_173, u_52_174, u_52_177, u_52_178, u_52_181, u_52_184, u_52_185, u_52_186, u_52_189, gI0, gIs, gR0, gRs, gF0, gFs, st0, st_i, st_r, st_f, st_n, st_s, true_and, and_true, ↓ifLeT, ↓ifLeF, ↓ifLtT, ↓ifLtF, ↓ifEqT, ↓ifEqF, if_tt, if_ff, if_pos, if_neg, nLe, nLt, nEq, nInT, nCl, pk_mul, nI_add, Nat.reduceAdd, s_cat_nil, s_cat_i, s_cat_r, s_cat_f, s_cat_l, tl_s, tl_n, cat_i, cat_r, cat_f, nb0, nb1, nbI, if_bI, if_bIr, Nat.zero_le, Nat.reduceLeDiff, S_g0_0, S_g0_1, S_g0_2, S_g0_3, S_g0_4, S_g0_5, S_g0_6, S_g0_7, S_g0_8, S_g0_9, S_g0_10, S_g0_11, S_g0_12, S_g0_13, S_g0_14, S_g1_0, S_g1_1, S_g1_2, S_g1_3, S_g1_4, S_g72_0, S_g72_1, S_g72_2, S_g239_0, S_g239_1, S_g239_2, S_g239_3, S_g239_4, S_g239_5, S_g239_6, S_a23, S_n23, S_a282, S_n282, S_a300, S_n300, S_n73, S_n299, Y'_ob (isY_S yb256), Y'_g0 (isY_S yb256), Y'_g1 (isY_S yb256), Y'_g2 (isY_S yb256), Y'_g3 (isY_S yb256), Y'_g4 (isY_S yb256), Y'_g5 (isY_S yb256), Y'_g6 (isY_S yb256), Y'_g7 (isY_S yb256), Y'_g8 (isY_S yb256), Y'_g9 (isY_S yb256), Y'_g10 (isY_S yb256), Y'_g11 (isY_S yb256), Y'_g12 (isY_S yb256), Y'_g13 (isY_S yb256), Y'_g14 (isY_S yb256), Y'_g15 (isY_S yb256), Y'_g16 (isY_S yb256), Y'_g17 (isY_S yb256), Y'_g18 (isY_S yb256), Y'_g19 (isY_S yb256), Y'_a7 (isY_S yb256), Y'_a8 (isY_S yb256), Y'_a10 (isY_S yb256), Y'_a11 (isY_S yb256), Y'_a12 (isY_S yb256), Y'_a13 (isY_S yb256), Y'_a14 (isY_S yb256), Y'_a15 (isY_S yb256), Y'_a16 (isY_S yb256), Y'_a17 (isY_S yb256), Y'_a18 (isY_S yb256), Y'_sw (isY_S yb256), yT', i1, y15, f6, fr', e4, hl, iBf]
        exact this
      | true =>
        rw [hl, iBt] at this
        simp (disch := omega) only [u_52_0, u_52_1, u_52_4, u_52_5, u_52_8, u_52_11, u_52_12, u_52_15, u_52_16, u_52_19, u_52_20, u_52_23, u_52_24, u_52_25, u_52_28, u_52_31, u_52_32, u_52_35, u_52_38, u_52_41, u_52_42, u_52_43, u_52_44, u_52_45, u_52_46, u_52_47, u_52_48, u_52_50, u_52_51, u_52_55, u_52_56, u_52_59, u_52_62, u_52_65, u_52_66, u_52_69, u_52_72, u_52_74, u_52_75, u_52_76, u_52_79, u_52_82, u_52_83, u_52_84, u_52_85, u_52_88, u_52_89, u_52_92, u_52_93, u_52_95, u_52_98, u_52_101, u_52_102, u_52_105, u_52_108, u_52_109, u_52_112, u_52_115, u_52_117, u_52_118, u_52_119, u_52_122, u_52_125, u_52_126, u_52_127, u_52_128, u_52_131, u_52_133, u_52_134, u_52_136, u_52_137, u_52_138, u_52_139, u_52_142, u_52_144, u_52_147, u_52_148, u_52_149, u_52_152, u_52_154, u_52_156, u_52_159, u_52_161, u_52_162, u_52_164, u_52_166, u_52_169, u_52_172, u_52_173, u_52_174, u_52_177, u_52_178, u_52_181, u_52_184, u_52_185, u_52_186, u_52_189, gI0, gIs, gR0, gRs, gF0, gFs, st0, st_i, st_r, st_f, st_n, st_s, true_and, and_true, ↓ifLeT, ↓ifLeF, ↓ifLtT, ↓ifLtF, ↓ifEqT, ↓ifEqF, if_tt, if_ff, if_pos, if_neg, nLe, nLt, nEq, nInT, nCl, pk_mul, nI_add, Nat.reduceAdd, s_cat_nil, s_cat_i, s_cat_r, s_cat_f, s_cat_l, tl_s, tl_n, cat_i, cat_r, cat_f, nb0, nb1, nbI, if_bI, if_bIr, Nat.zero_le, Nat.reduceLeDiff, S_g0_0, S_g0_1, S_g0_2, S_g0_3, S_g0_4, S_g0_5, S_g0_6, S_g0_7, S_g0_8, S_g0_9, S_g0_10, S_g0_11, S_g0_12, S_g0_13, S_g0_14, S_g1_0, S_g1_1, S_g1_2, S_g1_3, S_g1_4, S_g72_0, S_g72_1, S_g72_2, S_g239_0, S_g239_1, S_g239_2, S_g239_3, S_g239_4, S_g239_5, S_g239_6, S_a23, S_n23, S_a282, S_n282, S_a300, S_n300, S_n73, S_n299, Y'_ob (isY_S yb256), Y'_g0 (isY_S yb256), Y'_g1 (isY_S yb256), Y'_g2 (isY_S yb256), Y'_g3 (isY_S yb256), Y'_g4 (isY_S yb256), Y'_g5 (isY_S yb256), Y'_g6 (isY_S yb256), Y'_g7 (isY_S yb256), Y'_g8 (isY_S yb256), Y'_g9 (isY_S yb256), Y'_g10 (isY_S yb256), Y'_g11 (isY_S yb256), Y'_g12 (isY_S yb256), Y'_g13 (isY_S yb256), Y'_g14 (isY_S yb256), Y'_g15 (isY_S yb256), Y'_g16 (isY_S yb256), Y'_g17 (isY_S yb256), Y'_g18 (isY_S yb256), Y'_g19 (isY_S yb256), Y'_a7 (isY_S yb256), Y'_a8 (isY_S yb256), Y'_a10 (isY_S yb256), Y'_a11 (isY_S yb256), Y'_a12 (isY_S yb256), Y'_a13 (isY_S yb256), Y'_a14 (isY_S yb256), Y'_a15 (isY_S yb256), Y'_a16 (isY_S yb256), Y'_a17 (isY_S yb256), Y'_a18 (isY_S yb256), Y'_sw (isY_S yb256), yT', i1, y15, f6, fr', e4, hl, iBt, nI10, reduceIte]
        exact this
theorem m_give {c : Nat} (hn : wfN n) (hc : c < nF n 2) (hy : RY (SY s 256) n) (K : ∀ y', RY y' (giveN c n) → Q none (pS (wSY s 256 y') h)) : MT (d + 3) 52 [.ref 239, .int (nI c)] (pS s h) Q := by
  have h4 := hn.1.1
  have h8 := hn.1.2.1
  have hok := RY_ok hn hy
  have bb := bit_brk hn.1 hc
  rw [← hy.1.2.2.2.2.2.1] at bb
  have K0 : giveN c n = n → Q none (pS s h) := fun e => by
    have := K (SY s 256) (by rw [e]; exact hy)
    rw [wSY_eta] at this
    exact this
  have e2 : ∀ Q, MT (d + 2) 68 [.ref 256, .int (nI c)] (pS s h) Q ↔ Q (some (.int (bI (¬ bitS (yB (SY s 256) 5) (nI c) = nI 0)))) (pS s h) := fun Q => tl_Y yb256 fun h Q => m_isBroken (d := d + 1)
  have e3 : ∀ Q, MT (d + 2) 73 [.ref 256, .int (nI c)] (pS s h) Q ↔ Q (some (.int (oI1 (nNext n c)))) (pS s h) := fun Q => by
    have e := tl_Y (d := d + 2) (s := s) (h := h) (Q := Q) yb256 fun h Q => m_nextOf (d := d + 1) (a := 256) (y := SY s 256) (h := h) (Q := Q) (c := c) (by omega) (hok.2.2.1 c (by omega))
    rw [nx_rel hn.1 hn.2.2.2 hy (by omega)] at e
    exact e
  have e5 : ∀ Q, MT (d + 2) 72 [.ref 256] (pS s h) Q ↔ Q (some (.int (nI (lfB n)))) (pS s h) := fun Q => by
    have e := tl_Y (d := d + 2) (s := s) (h := h) (Q := Q) yb256 fun h Q => m_leftBits (d := d + 1) (a := 256) (y := SY s 256) (h := h) (Q := Q)
    rw [left_bits hn hy] at e
    exact e
  have e6 : ∀ Q, MT (d + 2) 29 [.ref (256 + 13)] (pS s h) Q ↔ Q (some (.int (nI (tbits (nL n))))) (pS s h) := fun Q => by
    have e := tl_YP (d := d + 2) (s := s) (h := h) (Q := Q) yb256 (fun h Q => m_bits (d := d + 1) (b := 256 + 13) (p := yP (SY s 256)) (h := h) (Q := Q) hok.2.2.1)
    rw [bitsP_rel hy.2.2.2 (fun c t h => wfL31 hn c t h)] at e
    exact e
  have ob : ∀ q : Nat, (oO (pS s h) (256 + 13) fun c' _ => c' = q) ↔ 3 = q := fun q => P'_ob (isP_YS yb256)
  have hlf := lfB_lt hn
  have ea : nI (lfB n) &&& (nI (tbits (nL n)) ^^^ (-1)) = nI (frN n) := i_andn (by omega)
  rw [MT_go (by decide) _ _ _ (Nat.le_of_ble_eq_true rfl), show s_entry 52 [.ref 239, .int (nI c)] = [.ref 239, .int (nI c), s_no, s_no, s_no, s_no, s_no, s_no] from rfl]
  cases hk : nK n c with
  | true =>
    have bb' : ¬ bitS (yB (SY s 256) 5) (nI c) = nI 0 := fun q => by rw [bb.mp q] at hk; cases hk
    simp (disch := omega) only [u_52_0, u_52_1, u_52_4, u_52_5, u_52_8, u_52_11, u_52_12, u_52_15, u_52_16, u_52_19, u_52_20, u_52_23, u_52_24, u_52_25, u_52_28, u_52_31, u_52_32, u_52_35, u_52_38, u_52_41, u_52_42, u_52_43, u_52_44, u_52_45, u_52_46, u_52_47, u_52_48, u_52_50, u_52_51, u_52_55, u_52_56, u_52_59, u_52_62, u_52_65, u_52_66, u_52_69, u_52_72, u_52_74, u_52_75, u_52_76, u_52_79, u_52_82, u_52_83, u_52_84, u_52_85, u_52_88, u_52_89, u_52_92, u_52_93, u_52_95, u_52_98, u_52_101, u_52_102, u_52_105, u_52_106, u_52_108, u_52_109, u_52_112, u_52_115, u_52_117, u_52_118, u_52_119, u_52_122, u_52_125, u_52_126, u_52_127, u_52_128, u_52_131, u_52_133, u_52_134, u_52_136, u_52_137, u_52_138, u_52_139, u_52_142, u_52_144, u_52_147, u_52_148, u_52_149, u_52_152, u_52_154, u_52_156, u_52_159, u_52_161, u_52_162, u_52_164, u_52_166, u_52_169, u_52_172, u_52_173, u_52_174, u_52_177, u_52_178, u_52_181, u_52_184, u_52_185, u_52_186, u_52_189, gI0, gIs, gR0, gRs, gF0, gFs, st0, st_i, st_r, st_f, st_n, st_s, true_and, and_true, ↓ifLeT, ↓ifLeF, ↓ifLtT, ↓ifLtF, ↓ifEqT, ↓ifEqF, if_tt, if_ff, if_pos, if_neg, nLe, nLt, nEq, nInT, nCl, pk_mul, nI_add, Nat.reduceAdd, s_cat_nil, s_cat_i, s_cat_r, s_cat_f, s_cat_l, tl_s, tl_n, cat_i, cat_r, cat_f, nb0, nb1, nbI, if_bI, if_bIr, Nat.zero_le, Nat.reduceLeDiff, S_g0_0, S_g0_1, S_g0_2, S_g0_3, S_g0_4, S_g0_5, S_g0_6, S_g0_7, S_g0_8, S_g0_9, S_g0_10, S_g0_11, S_g0_12, S_g0_13, S_g0_14, S_g1_0, S_g1_1, S_g1_2, S_g1_3, S_g1_4, S_g72_0, S_g72_1, S_g72_2, S_g239_0, S_g239_1, S_g239_2, S_g239_3, S_g239_4, S_g239_5, S_g239_6, S_a23, S_n23, S_a282, S_n282, S_a300, S_n300, S_n73, S_n299, Y'_ob (isY_S yb256), Y'_g0 (isY_S yb256), Y'_g1 (isY_S yb256), Y'_g2 (isY_S yb256), Y'_g3 (isY_S yb256), Y'_g4 (isY_S yb256), Y'_g5 (isY_S yb256), Y'_g6 (isY_S yb256), Y'_g7 (isY_S yb256), Y'_g8 (isY_S yb256), Y'_g9 (isY_S yb256), Y'_g10 (isY_S yb256), Y'_g11 (isY_S yb256), Y'_g12 (isY_S yb256), Y'_g13 (isY_S yb256), Y'_g14 (isY_S yb256), Y'_g15 (isY_S yb256), Y'_g16 (isY_S yb256), Y'_g17 (isY_S yb256), Y'_g18 (isY_S yb256), Y'_g19 (isY_S yb256), Y'_a7 (isY_S yb256), Y'_a8 (isY_S yb256), Y'_a10 (isY_S yb256), Y'_a11 (isY_S yb256), Y'_a12 (isY_S yb256), Y'_a13 (isY_S yb256), Y'_a14 (isY_S yb256), Y'_a15 (isY_S yb256), Y'_a16 (isY_S yb256), Y'_a17 (isY_S yb256), Y'_a18 (isY_S yb256), Y'_sw (isY_S yb256), e2, bb', not_false_eq_true]
    exact K0 (by unfold giveN; rw [hk]; rfl)
  | false =>
    have bb' : bitS (yB (SY s 256) 5) (nI c) = nI 0 := bb.mpr hk
    cases hx : nNext n c with
    | some u =>
      have hu := (next_lt hn.2.2.2 hx).1
      have e0 : ¬ oI1 (some u) = -1 := oI1_neg (by omega)
      simp (disch := omega) only [u_52_0, u_52_1, u_52_4, u_52_5, u_52_8, u_52_11, u_52_12, u_52_15, u_52_16, u_52_19, u_52_20, u_52_23, u_52_24, u_52_25, u_52_28, u_52_31, u_52_32, u_52_35, u_52_38, u_52_41, u_52_42, u_52_43, u_52_44, u_52_45, u_52_46, u_52_47, u_52_48, u_52_50, u_52_51, u_52_55, u_52_56, u_52_59, u_52_62, u_52_65, u_52_66, u_52_69, u_52_72, u_52_74, u_52_75, u_52_76, u_52_79, u_52_82, u_52_83, u_52_84, u_52_85, u_52_88, u_52_89, u_52_92, u_52_93, u_52_95, u_52_98, u_52_101, u_52_102, u_52_105, u_52_106, u_52_108, u_52_109, u_52_112, u_52_115, u_52_117, u_52_118, u_52_119, u_52_122, u_52_125, u_52_126, u_52_127, u_52_128, u_52_131, u_52_133, u_52_134, u_52_136, u_52_137, u_52_138, u_52_139, u_52_142, u_52_144, u_52_147, u_52_148, u_52_149, u_52_152, u_52_154, u_52_156, u_52_159, u_52_161, u_52_162, u_52_164, u_52_166, u_52_169, u_52_172, u_52_173, u_52_174, u_52_177, u_52_178, u_52_181, u_52_184, u_52_185, u_52_186, u_52_189, gI0, gIs, gR0, gRs, gF0, gFs, st0, st_i, st_r, st_f, st_n, st_s, true_and, and_true, ↓ifLeT, ↓ifLeF, ↓ifLtT, ↓ifLtF, ↓ifEqT, ↓ifEqF, if_tt, if_ff, if_pos, if_neg, nLe, nLt, nEq, nInT, nCl, pk_mul, nI_add, Nat.reduceAdd, s_cat_nil, s_cat_i, s_cat_r, s_cat_f, s_cat_l, tl_s, tl_n, cat_i, cat_r, cat_f, nb0, nb1, nbI, if_bI, if_bIr, Nat.zero_le, Nat.reduceLeDiff, S_g0_0, S_g0_1, S_g0_2, S_g0_3, S_g0_4, S_g0_5, S_g0_6, S_g0_7, S_g0_8, S_g0_9, S_g0_10, S_g0_11, S_g0_12, S_g0_13, S_g0_14, S_g1_0, S_g1_1, S_g1_2, S_g1_3, S_g1_4, S_g72_0, S_g72_1, S_g72_2, S_g239_0, S_g239_1, S_g239_2, S_g239_3, S_g239_4, S_g239_5, S_g239_6, S_a23, S_n23, S_a282, S_n282, S_a300, S_n300, S_n73, S_n299, Y'_ob (isY_S yb256), Y'_g0 (isY_S yb256), Y'_g1 (isY_S yb256), Y'_g2 (isY_S yb256), Y'_g3 (isY_S yb256), Y'_g4 (isY_S yb256), Y'_g5 (isY_S yb256), Y'_g6 (isY_S yb256), Y'_g7 (isY_S yb256), Y'_g8 (isY_S yb256), Y'_g9 (isY_S yb256), Y'_g10 (isY_S yb256), Y'_g11 (isY_S yb256), Y'_g12 (isY_S yb256), Y'_g13 (isY_S yb256), Y'_g14 (isY_S yb256), Y'_g15 (isY_S yb256), Y'_g16 (isY_S yb256), Y'_g17 (isY_S yb256), Y'_g18 (isY_S yb256), Y'_g19 (isY_S yb256), Y'_a7 (isY_S yb256), Y'_a8 (isY_S yb256), Y'_a10 (isY_S yb256), Y'_a11 (isY_S yb256), Y'_a12 (isY_S yb256), Y'_a13 (isY_S yb256), Y'_a14 (isY_S yb256), Y'_a15 (isY_S yb256), Y'_a16 (isY_S yb256), Y'_a17 (isY_S yb256), Y'_a18 (isY_S yb256), Y'_sw (isY_S yb256), e2, bb', not_true_eq_false, e3, hx, e0, reduceIte]
      exact K0 (by unfold giveN; rw [hx, Option.isSome_some, Bool.or_true]; rfl)
    | none =>
      have e0 : oI1 none = -1 := rfl
      simp (disch := omega) only [u_52_0, u_52_1, u_52_4, u_52_5, u_52_8, u_52_11, u_52_12, u_52_15, u_52_16, u_52_19, u_52_20, u_52_23, u_52_24, u_52_25, u_52_28, u_52_31, u_52_32, u_52_35, u_52_38, u_52_41, u_52_42, u_52_43, u_52_44, u_52_45, u_52_46, u_52_47, u_52_48, u_52_50, u_52_51, u_52_55, u_52_56, u_52_59, u_52_62, u_52_65, u_52_66, u_52_69, u_52_72, u_52_74, u_52_75, u_52_76, u_52_79, u_52_82, u_52_83, u_52_84, u_52_85, u_52_88, u_52_89, u_52_92, u_52_93, u_52_95, u_52_98, u_52_101, u_52_102, u_52_105, u_52_106, u_52_108, u_52_109, u_52_112, u_52_115, u_52_117, u_52_118, u_52_119, u_52_122, u_52_125, u_52_126, u_52_127, u_52_128, u_52_131, u_52_133, u_52_134, u_52_136, u_52_137, u_52_138, u_52_139, u_52_142, u_52_144, u_52_147, u_52_148, u_52_149, u_52_152, u_52_154, u_52_156, u_52_159, u_52_161, u_52_162, u_52_164, u_52_166, u_52_169, u_52_172, u_52_173, u_52_174, u_52_177, u_52_178, u_52_181, u_52_184, u_52_185, u_52_186, u_52_189, gI0, gIs, gR0, gRs, gF0, gFs, st0, st_i, st_r, st_f, st_n, st_s, true_and, and_true, ↓ifLeT, ↓ifLeF, ↓ifLtT, ↓ifLtF, ↓ifEqT, ↓ifEqF, if_tt, if_ff, if_pos, if_neg, nLe, nLt, nEq, nInT, nCl, pk_mul, nI_add, Nat.reduceAdd, s_cat_nil, s_cat_i, s_cat_r, s_cat_f, s_cat_l, tl_s, tl_n, cat_i, cat_r, cat_f, nb0, nb1, nbI, if_bI, if_bIr, Nat.zero_le, Nat.reduceLeDiff, S_g0_0, S_g0_1, S_g0_2, S_g0_3, S_g0_4, S_g0_5, S_g0_6, S_g0_7, S_g0_8, S_g0_9, S_g0_10, S_g0_11, S_g0_12, S_g0_13, S_g0_14, S_g1_0, S_g1_1, S_g1_2, S_g1_3, S_g1_4, S_g72_0, S_g72_1, S_g72_2, S_g239_0, S_g239_1, S_g239_2, S_g239_3, S_g239_4, S_g239_5, S_g239_6, S_a23, S_n23, S_a282, S_n282, S_a300, S_n300, S_n73, S_n299, Y'_ob (isY_S yb256), Y'_g0 (isY_S yb256), Y'_g1 (isY_S yb256), Y'_g2 (isY_S yb256), Y'_g3 (isY_S yb256), Y'_g4 (isY_S yb256), Y'_g5 (isY_S yb256), Y'_g6 (isY_S yb256), Y'_g7 (isY_S yb256), Y'_g8 (isY_S yb256), Y'_g9 (isY_S yb256), Y'_g10 (isY_S yb256), Y'_g11 (isY_S yb256), Y'_g12 (isY_S yb256), Y'_g13 (isY_S yb256), Y'_g14 (isY_S yb256), Y'_g15 (isY_S yb256), Y'_g16 (isY_S yb256), Y'_g17 (isY_S yb256), Y'_g18 (isY_S yb256), Y'_g19 (isY_S yb256), Y'_a7 (isY_S yb256), Y'_a8 (isY_S yb256), Y'_a10 (isY_S yb256), Y'_a11 (isY_S yb256), Y'_a12 (isY_S yb256), Y'_a13 (isY_S yb256), Y'_a14 (isY_S yb256), Y'_a15 (isY_S yb256), Y'_a16 (isY_S yb256), Y'_a17 (isY_S yb256), Y'_a18 (isY_S yb256), Y'_sw (isY_S yb256), e2, bb', not_true_eq_false, e3, hx, e0, e5, ob, e6, ea]
      refine give_lp (d := d) (s := s) (h := h) (Q := Q) hn hc hy (fun v4 v5 v6 v7 => ?_) (nF n 3) 0 (none, 0) _ _ (Nat.zero_add _) (by decide) (fun u hu => by cases hu) rfl
      have eg : giveN c n = match nearN n c with | some t => jL n (appF (nL n) c t) | none => n := by unfold giveN; rw [hk, hx]; rfl
      cases hne : nearN n c with
      | none =>
        rw [hne] at eg
        simp (disch := omega) only [u_52_0, u_52_1, u_52_4, u_52_5, u_52_8, u_52_11, u_52_12, u_52_15, u_52_16, u_52_19, u_52_20, u_52_23, u_52_24, u_52_25, u_52_28, u_52_31, u_52_32, u_52_35, u_52_38, u_52_41, u_52_42, u_52_43, u_52_44, u_52_45, u_52_46, u_52_47, u_52_48, u_52_50, u_52_51, u_52_55, u_52_56, u_52_59, u_52_62, u_52_65, u_52_66, u_52_69, u_52_72, u_52_74, u_52_75, u_52_76, u_52_79, u_52_82, u_52_83, u_52_84, u_52_85, u_52_88, u_52_89, u_52_92, u_52_93, u_52_95, u_52_98, u_52_101, u_52_102, u_52_105, u_52_106, u_52_108, u_52_109, u_52_112, u_52_115, u_52_117, u_52_118, u_52_119, u_52_122, u_52_125, u_52_126, u_52_127, u_52_128, u_52_131, u_52_133, u_52_134, u_52_136, u_52_137, u_52_138, u_52_139, u_52_142, u_52_144, u_52_147, u_52_148, u_52_149, u_52_152, u_52_154, u_52_156, u_52_159, u_52_161, u_52_162, u_52_164, u_52_166, u_52_169, u_52_172, u_52_173, u_52_174, u_52_177, u_52_178, u_52_181, u_52_184, u_52_185, u_52_186, u_52_189, gI0, gIs, gR0, gRs, gF0, gFs, st0, st_i, st_r, st_f, st_n, st_s, true_and, and_true, ↓ifLeT, ↓ifLeF, ↓ifLtT, ↓ifLtF, ↓ifEqT, ↓ifEqF, if_tt, if_ff, if_pos, if_neg, nLe, nLt, nEq, nInT, nCl, pk_mul, nI_add, Nat.reduceAdd, s_cat_nil, s_cat_i, s_cat_r, s_cat_f, s_cat_l, tl_s, tl_n, cat_i, cat_r, cat_f, nb0, nb1, nbI, if_bI, if_bIr, Nat.zero_le, Nat.reduceLeDiff, e0]
        exact K0 eg
      | some t =>
        rw [hne] at eg
        obtain ⟨h1, h2⟩ := near_some hne
        obtain ⟨-, h3, -⟩ := canG_of h2
        have e1 : ¬ oI1 (some t) = -1 := oI1_neg (by omega)
        have e7 : ∀ Q, MT (d + 2) 22 [.ref (256 + 13), .int (nI c), .int (oI1 (some t))] (pS s h) Q ↔ Q none (pS (wSY s 256 (uP (SY s 256) (addP (yP (SY s 256)) c (nI t)))) h) := fun Q => tr_YP yb256 fun h Q => m_addT hok.2.2.1 (by omega)
        simp (disch := omega) only [u_52_0, u_52_1, u_52_4, u_52_5, u_52_8, u_52_11, u_52_12, u_52_15, u_52_16, u_52_19, u_52_20, u_52_23, u_52_24, u_52_25, u_52_28, u_52_31, u_52_32, u_52_35, u_52_38, u_52_41, u_52_42, u_52_43, u_52_44, u_52_45, u_52_46, u_52_47, u_52_48, u_52_50, u_52_51, u_52_55, u_52_56, u_52_59, u_52_62, u_52_65, u_52_66, u_52_69, u_52_72, u_52_74, u_52_75, u_52_76, u_52_79, u_52_82, u_52_83, u_52_84, u_52_85, u_52_88, u_52_89, u_52_92, u_52_93, u_52_95, u_52_98, u_52_101, u_52_102, u_52_105, u_52_106, u_52_108, u_52_109, u_52_112, u_52_115, u_52_117, u_52_118, u_52_119, u_52_122, u_52_125, u_52_126, u_52_127, u_52_128, u_52_131, u_52_133, u_52_134, u_52_136, u_52_137, u_52_138, u_52_139, u_52_142, u_52_144, u_52_147, u_52_148, u_52_149, u_52_152, u_52_154, u_52_156, u_52_159, u_52_161, u_52_162, u_52_164, u_52_166, u_52_169, u_52_172, u_52_173, u_52_174, u_52_177, u_52_178, u_52_181, u_52_184, u_52_185, u_52_186, u_52_189, gI0, gIs, gR0, gRs, gF0, gFs, st0, st_i, st_r, st_f, st_n, st_s, true_and, and_true, ↓ifLeT, ↓ifLeF, ↓ifLtT, ↓ifLtF, ↓ifEqT, ↓ifEqF, if_tt, if_ff, if_pos, if_neg, nLe, nLt, nEq, nInT, nCl, pk_mul, nI_add, Nat.reduceAdd, s_cat_nil, s_cat_i, s_cat_r, s_cat_f, s_cat_l, tl_s, tl_n, cat_i, cat_r, cat_f, nb0, nb1, nbI, if_bI, if_bIr, Nat.zero_le, Nat.reduceLeDiff, S_g0_0, S_g0_1, S_g0_2, S_g0_3, S_g0_4, S_g0_5, S_g0_6, S_g0_7, S_g0_8, S_g0_9, S_g0_10, S_g0_11, S_g0_12, S_g0_13, S_g0_14, S_g1_0, S_g1_1, S_g1_2, S_g1_3, S_g1_4, S_g72_0, S_g72_1, S_g72_2, S_g239_0, S_g239_1, S_g239_2, S_g239_3, S_g239_4, S_g239_5, S_g239_6, S_a23, S_n23, S_a282, S_n282, S_a300, S_n300, S_n73, S_n299, Y'_ob (isY_S yb256), Y'_g0 (isY_S yb256), Y'_g1 (isY_S yb256), Y'_g2 (isY_S yb256), Y'_g3 (isY_S yb256), Y'_g4 (isY_S yb256), Y'_g5 (isY_S yb256), Y'_g6 (isY_S yb256), Y'_g7 (isY_S yb256), Y'_g8 (isY_S yb256), Y'_g9 (isY_S yb256), Y'_g10 (isY_S yb256), Y'_g11 (isY_S yb256), Y'_g12 (isY_S yb256), Y'_g13 (isY_S yb256), Y'_g14 (isY_S yb256), Y'_g15 (isY_S yb256), Y'_g16 (isY_S yb256), Y'_g17 (isY_S yb256), Y'_g18 (isY_S yb256), Y'_g19 (isY_S yb256), Y'_a7 (isY_S yb256), Y'_a8 (isY_S yb256), Y'_a10 (isY_S yb256), Y'_a11 (isY_S yb256), Y'_a12 (isY_S yb256), Y'_a13 (isY_S yb256), Y'_a14 (isY_S yb256), Y'_a15 (isY_S yb256), Y'_a16 (isY_S yb256), Y'_a17 (isY_S yb256), Y'_a18 (isY_S yb256), Y'_sw (isY_S yb256), e1, reduceIte, ob, e7]
        refine K _ ?_
        rw [eg]
        exact RY_uP hy (RP_add hy.2.2.2 (by omega) (len_app (n := n) (l := nL n) hn.1 hn.2.2.2 hc h1 (hold_no hn h3)) (fun q => wfL_len hn.1 hn.2.2.2 q))
theorem gives_lp {b' : Nat} {v1 : Value} {N : tN} {v3 : Int32} (hN : givesN n = N) : ∀ m c s k, c + m = nF n 2 → nF k = nF n → wfN k → RY (SY s 256) k → iter giveN c m k = N → (∀ y', RY y' N → wfN N → WP (d + 3) 51 92 [.ref 239, v1, .ref b', .int v3, .int (nI (nF n 2))] [] (pS (wSY s 256 y') h) (0, 0) Q) → WP (d + 3) 51 68 [.ref 239, v1, .ref b', .int v3, .int (nI c)] [] (pS s h) (0, 0) Q := by
  intro m
  induction m with
  | zero =>
    intro c s k hc hF hk hy hi K
    have h4 := hk.1.1
    rw [hF] at h4
    have yC' : yC (SY s 256) = nF n 2 := by rw [hy.1.2.2.1, hF]
    have e : c = nF n 2 := by omega
    subst e
    have hi : k = N := hi
    subst hi
    rw [u_51_68]
    simp (disch := omega) only [u_51_0, u_51_1, u_51_4, u_51_7, u_51_8, u_51_9, u_51_12, u_51_15, u_51_16, u_51_19, u_51_20, u_51_23, u_51_24, u_51_27, u_51_30, u_51_33, u_51_34, u_51_36, u_51_39, u_51_42, u_51_43, u_51_46, u_51_49, u_51_52, u_51_53, u_51_54, u_51_57, u_51_60, u_51_61, u_51_64, u_51_65, u_51_66, u_51_70, u_51_71, u_51_74, u_51_77, u_51_80, u_51_81, u_51_83, u_51_86, u_51_89, u_51_93, u_51_96, u_51_99, u_51_102, u_51_103, u_51_106, u_51_109, gI0, gIs, gR0, gRs, gF0, gFs, st0, st_i, st_r, st_f, st_n, st_s, true_and, and_true, ↓ifLeT, ↓ifLeF, ↓ifLtT, ↓ifLtF, ↓ifEqT, ↓ifEqF, if_tt, if_ff, if_pos, if_neg, nLe, nLt, nEq, nInT, nCl, pk_mul, nI_add, Nat.reduceAdd, s_cat_nil, s_cat_i, s_cat_r, s_cat_f, s_cat_l, tl_s, tl_n, cat_i, cat_r, cat_f, nb0, nb1, nbI, if_bI, if_bIr, Nat.zero_le, Nat.reduceLeDiff, S_g0_0, S_g0_1, S_g0_2, S_g0_3, S_g0_4, S_g0_5, S_g0_6, S_g0_7, S_g0_8, S_g0_9, S_g0_10, S_g0_11, S_g0_12, S_g0_13, S_g0_14, S_g1_0, S_g1_1, S_g1_2, S_g1_3, S_g1_4, S_g72_0, S_g72_1, S_g72_2, S_g239_0, S_g239_1, S_g239_2, S_g239_3, S_g239_4, S_g239_5, S_g239_6, S_a23, S_n23, S_a282, S_n282, S_a300, S_n300, S_n73, S_n299, Y'_ob (isY_S yb256), Y'_g0 (isY_S yb256), Y'_g1 (isY_S yb256), Y'_g2 (isY_S yb256), Y'_g3 (isY_S yb256), Y'_g4 (isY_S yb256), Y'_g5 (isY_S yb256), Y'_g6 (isY_S yb256), Y'_g7 (isY_S yb256), Y'_g8 (isY_S yb256), Y'_g9 (isY_S yb256), Y'_g10 (isY_S yb256), Y'_g11 (isY_S yb256), Y'_g12 (isY_S yb256), Y'_g13 (isY_S yb256), Y'_g14 (isY_S yb256), Y'_g15 (isY_S yb256), Y'_g16 (isY_S yb256), Y'_g17 (isY_S yb256), Y'_g18 (isY_S yb256), Y'_g19 (isY_S yb256), Y'_a7 (isY_S yb256), Y'_a8 (isY_S yb256), Y'_a10 (isY_S yb256), Y'_a11 (isY_S yb256), Y'_a12 (isY_S yb256), Y'_a13 (isY_S yb256), Y'_a14 (isY_S yb256), Y'_a15 (isY_S yb256), Y'_a16 (isY_S yb256), Y'_a17 (isY_S yb256), Y'_a18 (isY_S yb256), Y'_sw (isY_S yb256), yC', Nat.le_refl]
    have := K (SY s 256) hy hk
    rw [wSY_eta] at this
    exact this
  | succ m ih =>
    intro c s k hc hF hk hy hi K
    have h4 := hk.1.1
    rw [hF] at h4
    have yC' : yC (SY s 256) = nF n 2 := by rw [hy.1.2.2.1, hF]
    rw [u_51_68]
    simp (disch := omega) only [u_51_0, u_51_1, u_51_4, u_51_7, u_51_8, u_51_9, u_51_12, u_51_15, u_51_16, u_51_19, u_51_20, u_51_23, u_51_24, u_51_27, u_51_30, u_51_33, u_51_34, u_51_36, u_51_39, u_51_42, u_51_43, u_51_46, u_51_49, u_51_52, u_51_53, u_51_54, u_51_57, u_51_60, u_51_61, u_51_64, u_51_65, u_51_66, u_51_70, u_51_71, u_51_74, u_51_77, u_51_80, u_51_81, u_51_83, u_51_86, u_51_89, u_51_93, u_51_96, u_51_99, u_51_102, u_51_103, u_51_106, u_51_109, gI0, gIs, gR0, gRs, gF0, gFs, st0, st_i, st_r, st_f, st_n, st_s, true_and, and_true, ↓ifLeT, ↓ifLeF, ↓ifLtT, ↓ifLtF, ↓ifEqT, ↓ifEqF, if_tt, if_ff, if_pos, if_neg, nLe, nLt, nEq, nInT, nCl, pk_mul, nI_add, Nat.reduceAdd, s_cat_nil, s_cat_i, s_cat_r, s_cat_f, s_cat_l, tl_s, tl_n, cat_i, cat_r, cat_f, nb0, nb1, nbI, if_bI, if_bIr, Nat.zero_le, Nat.reduceLeDiff, S_g0_0, S_g0_1, S_g0_2, S_g0_3, S_g0_4, S_g0_5, S_g0_6, S_g0_7, S_g0_8, S_g0_9, S_g0_10, S_g0_11, S_g0_12, S_g0_13, S_g0_14, S_g1_0, S_g1_1, S_g1_2, S_g1_3, S_g1_4, S_g72_0, S_g72_1, S_g72_2, S_g239_0, S_g239_1, S_g239_2, S_g239_3, S_g239_4, S_g239_5, S_g239_6, S_a23, S_n23, S_a282, S_n282, S_a300, S_n300, S_n73, S_n299, Y'_ob (isY_S yb256), Y'_g0 (isY_S yb256), Y'_g1 (isY_S yb256), Y'_g2 (isY_S yb256), Y'_g3 (isY_S yb256), Y'_g4 (isY_S yb256), Y'_g5 (isY_S yb256), Y'_g6 (isY_S yb256), Y'_g7 (isY_S yb256), Y'_g8 (isY_S yb256), Y'_g9 (isY_S yb256), Y'_g10 (isY_S yb256), Y'_g11 (isY_S yb256), Y'_g12 (isY_S yb256), Y'_g13 (isY_S yb256), Y'_g14 (isY_S yb256), Y'_g15 (isY_S yb256), Y'_g16 (isY_S yb256), Y'_g17 (isY_S yb256), Y'_g18 (isY_S yb256), Y'_g19 (isY_S yb256), Y'_a7 (isY_S yb256), Y'_a8 (isY_S yb256), Y'_a10 (isY_S yb256), Y'_a11 (isY_S yb256), Y'_a12 (isY_S yb256), Y'_a13 (isY_S yb256), Y'_a14 (isY_S yb256), Y'_a15 (isY_S yb256), Y'_a16 (isY_S yb256), Y'_a17 (isY_S yb256), Y'_a18 (isY_S yb256), Y'_sw (isY_S yb256), yC', S_ob239]
    refine m_give (n := k) hk (by rw [hF]; omega) hy fun y1 hy1 => ?_
    simp (disch := omega) only [u_51_0, u_51_1, u_51_4, u_51_7, u_51_8, u_51_9, u_51_12, u_51_15, u_51_16, u_51_19, u_51_20, u_51_23, u_51_24, u_51_27, u_51_30, u_51_33, u_51_34, u_51_36, u_51_39, u_51_42, u_51_43, u_51_46, u_51_49, u_51_52, u_51_53, u_51_54, u_51_57, u_51_60, u_51_61, u_51_64, u_51_65, u_51_66, u_51_70, u_51_71, u_51_74, u_51_77, u_51_80, u_51_81, u_51_83, u_51_86, u_51_89, u_51_93, u_51_96, u_51_99, u_51_102, u_51_103, u_51_106, u_51_109, gI0, gIs, gR0, gRs, gF0, gFs, st0, st_i, st_r, st_f, st_n, st_s, true_and, and_true, ↓ifLeT, ↓ifLeF, ↓ifLtT, ↓ifLtF, ↓ifEqT, ↓ifEqF, if_tt, if_ff, if_pos, if_neg, nLe, nLt, nEq, nInT, nCl, pk_mul, nI_add, Nat.reduceAdd, s_cat_nil, s_cat_i, s_cat_r, s_cat_f, s_cat_l, tl_s, tl_n, cat_i, cat_r, cat_f, nb0, nb1, nbI, if_bI, if_bIr, Nat.zero_le, Nat.reduceLeDiff]
    have hc' : c < nF k 2 := by rw [hF]; omega
    refine ih (c + 1) (wSY s 256 y1) (giveN c k) (by omega) ((sameL_F sameL_give).trans hF) (wf_give hk hc') (by rw [SYw]; exact hy1) hi fun y' q1 q2 => ?_
    rw [wSY_tw]
    exact K y' q1 q2
theorem easy_lp (hb : cb b) {v1 : Value} : ∀ k m s n v4, m + k = 301 → wfN n → RY (SY s 256) n → eI (SO s b) 2 = -1 → (∀ s', frS b s s' → RF (SO s' b) (easyF k m n) → Q none (pS s' h)) → WP (d + 3) 51 35 [.ref 239, v1, .ref b, .int (nI m), v4] [] (pS s h) (0, 0) Q := by
  intro k
  induction k with
  | zero =>
    intro m s n v4 hm hn hy ho K
    have e : m = 301 := by omega
    subst e
    rw [u_51_35]
    simp (disch := omega) only [u_51_0, u_51_1, u_51_4, u_51_7, u_51_8, u_51_9, u_51_12, u_51_15, u_51_16, u_51_19, u_51_20, u_51_23, u_51_24, u_51_27, u_51_30, u_51_33, u_51_34, u_51_36, u_51_39, u_51_42, u_51_43, u_51_46, u_51_49, u_51_52, u_51_53, u_51_54, u_51_57, u_51_60, u_51_61, u_51_64, u_51_65, u_51_66, u_51_70, u_51_71, u_51_74, u_51_77, u_51_80, u_51_81, u_51_83, u_51_86, u_51_89, u_51_92, u_51_93, u_51_96, u_51_99, u_51_102, u_51_103, u_51_106, u_51_109, gI0, gIs, gR0, gRs, gF0, gFs, st0, st_i, st_r, st_f, st_n, st_s, true_and, and_true, ↓ifLeT, ↓ifLeF, ↓ifLtT, ↓ifLtF, ↓ifEqT, ↓ifEqF, if_tt, if_ff, if_pos, if_neg, nLe, nLt, nEq, nInT, nCl, pk_mul, nI_add, Nat.reduceAdd, s_cat_nil, s_cat_i, s_cat_r, s_cat_f, s_cat_l, tl_s, tl_n, cat_i, cat_r, cat_f, nb0, nb1, nbI, if_bI, if_bIr, Nat.zero_le, Nat.reduceLeDiff]
    exact K s frS_r ho
  | succ k ih =>
    intro m s n v4 hm hn hy ho K
    have hok := RY_ok hn hy
    have e5 : ∀ Q, MT (d + 3) 72 [.ref 256] (pS s h) Q ↔ Q (some (.int (nI (lfB n)))) (pS s h) := fun Q => by
      have e := tl_Y (d := d + 3) (s := s) (h := h) (Q := Q) yb256 fun h Q => m_leftBits (d := d + 2) (a := 256) (y := SY s 256) (h := h) (Q := Q)
      rw [left_bits hn hy] at e
      exact e
    have hlf := lfB_lt hn
    rw [u_51_35]
    rw [easyF] at K
    cases hd : allD n with
    | true =>
      rw [hd, if_pos rfl] at K
      have e0 : lfB n = 0 := lfB_0.mpr hd
      have hdd : b + 4 ≤ 256 + 13 ∨ 256 + 13 + 3 ≤ b := by
        rcases hb with e | e | e | e | e | ⟨j, hj, e⟩ <;> omega
      have e6 := fun Q => S_take (d := d + 1) (b := b) (s := s) (h := h) (c := 256 + 13) (p := yP (SY s 256)) (x := nI m) (Q := Q) hb (isP_YS yb256) hdd
      simp (disch := omega) only [u_51_0, u_51_1, u_51_4, u_51_7, u_51_8, u_51_9, u_51_12, u_51_15, u_51_16, u_51_19, u_51_20, u_51_23, u_51_24, u_51_27, u_51_30, u_51_33, u_51_34, u_51_36, u_51_39, u_51_42, u_51_43, u_51_46, u_51_49, u_51_52, u_51_53, u_51_54, u_51_57, u_51_60, u_51_61, u_51_64, u_51_65, u_51_66, u_51_70, u_51_71, u_51_74, u_51_77, u_51_80, u_51_81, u_51_83, u_51_86, u_51_89, u_51_92, u_51_93, u_51_96, u_51_99, u_51_102, u_51_103, u_51_106, u_51_109, gI0, gIs, gR0, gRs, gF0, gFs, st0, st_i, st_r, st_f, st_n, st_s, true_and, and_true, ↓ifLeT, ↓ifLeF, ↓ifLtT, ↓ifLtF, ↓ifEqT, ↓ifEqF, if_tt, if_ff, if_pos, if_neg, nLe, nLt, nEq, nInT, nCl, pk_mul, nI_add, Nat.reduceAdd, s_cat_nil, s_cat_i, s_cat_r, s_cat_f, s_cat_l, tl_s, tl_n, cat_i, cat_r, cat_f, nb0, nb1, nbI, if_bI, if_bIr, Nat.zero_le, Nat.reduceLeDiff, S_g0_0, S_g0_1, S_g0_2, S_g0_3, S_g0_4, S_g0_5, S_g0_6, S_g0_7, S_g0_8, S_g0_9, S_g0_10, S_g0_11, S_g0_12, S_g0_13, S_g0_14, S_g1_0, S_g1_1, S_g1_2, S_g1_3, S_g1_4, S_g72_0, S_g72_1, S_g72_2, S_g239_0, S_g239_1, S_g239_2, S_g239_3, S_g239_4, S_g239_5, S_g239_6, S_a23, S_n23, S_a282, S_n282, S_a300, S_n300, S_n73, S_n299, Y'_ob (isY_S yb256), Y'_g0 (isY_S yb256), Y'_g1 (isY_S yb256), Y'_g2 (isY_S yb256), Y'_g3 (isY_S yb256), Y'_g4 (isY_S yb256), Y'_g5 (isY_S yb256), Y'_g6 (isY_S yb256), Y'_g7 (isY_S yb256), Y'_g8 (isY_S yb256), Y'_g9 (isY_S yb256), Y'_g10 (isY_S yb256), Y'_g11 (isY_S yb256), Y'_g12 (isY_S yb256), Y'_g13 (isY_S yb256), Y'_g14 (isY_S yb256), Y'_g15 (isY_S yb256), Y'_g16 (isY_S yb256), Y'_g17 (isY_S yb256), Y'_g18 (isY_S yb256), Y'_g19 (isY_S yb256), Y'_a7 (isY_S yb256), Y'_a8 (isY_S yb256), Y'_a10 (isY_S yb256), Y'_a11 (isY_S yb256), Y'_a12 (isY_S yb256), Y'_a13 (isY_S yb256), Y'_a14 (isY_S yb256), Y'_a15 (isY_S yb256), Y'_a16 (isY_S yb256), Y'_a17 (isY_S yb256), Y'_a18 (isY_S yb256), Y'_sw (isY_S yb256), C_ob hb, e5, e0, e6]
      refine K _ ⟨rfl, fun _ _ => rfl, fun _ _ => rfl, fun q hq => if_neg hq, ?_⟩ ?_
      · show eB (if b = b then _ else _) 1 = _ ∧ eI (if b = b then _ else _) 5 = _ ∧ eI (if b = b then _ else _) 3 = _
        rw [if_pos rfl]
        exact ⟨rfl, rfl, rfl⟩
      · show RF (if b = b then _ else _) _
        rw [if_pos rfl]
        exact ⟨rfl, by omega, hy.2.2.2⟩
    | false =>
      rw [hd, if_neg (show ¬ (false = true) by decide)] at K
      have e0 : ¬ lfB n = 0 := fun q => by rw [lfB_0.mp q] at hd; cases hd
      obtain ⟨g1, g2, g3⟩ := gives_inv hn
      simp (disch := omega) only [u_51_0, u_51_1, u_51_4, u_51_7, u_51_8, u_51_9, u_51_12, u_51_15, u_51_16, u_51_19, u_51_20, u_51_23, u_51_24, u_51_27, u_51_30, u_51_33, u_51_34, u_51_36, u_51_39, u_51_42, u_51_43, u_51_46, u_51_49, u_51_52, u_51_53, u_51_54, u_51_57, u_51_60, u_51_61, u_51_64, u_51_65, u_51_66, u_51_70, u_51_71, u_51_74, u_51_77, u_51_80, u_51_81, u_51_83, u_51_86, u_51_89, u_51_92, u_51_93, u_51_96, u_51_99, u_51_102, u_51_103, u_51_106, u_51_109, gI0, gIs, gR0, gRs, gF0, gFs, st0, st_i, st_r, st_f, st_n, st_s, true_and, and_true, ↓ifLeT, ↓ifLeF, ↓ifLtT, ↓ifLtF, ↓ifEqT, ↓ifEqF, if_tt, if_ff, if_pos, if_neg, nLe, nLt, nEq, nInT, nCl, pk_mul, nI_add, Nat.reduceAdd, s_cat_nil, s_cat_i, s_cat_r, s_cat_f, s_cat_l, tl_s, tl_n, cat_i, cat_r, cat_f, nb0, nb1, nbI, if_bI, if_bIr, Nat.zero_le, Nat.reduceLeDiff, S_g0_0, S_g0_1, S_g0_2, S_g0_3, S_g0_4, S_g0_5, S_g0_6, S_g0_7, S_g0_8, S_g0_9, S_g0_10, S_g0_11, S_g0_12, S_g0_13, S_g0_14, S_g1_0, S_g1_1, S_g1_2, S_g1_3, S_g1_4, S_g72_0, S_g72_1, S_g72_2, S_g239_0, S_g239_1, S_g239_2, S_g239_3, S_g239_4, S_g239_5, S_g239_6, S_a23, S_n23, S_a282, S_n282, S_a300, S_n300, S_n73, S_n299, Y'_ob (isY_S yb256), Y'_g0 (isY_S yb256), Y'_g1 (isY_S yb256), Y'_g2 (isY_S yb256), Y'_g3 (isY_S yb256), Y'_g4 (isY_S yb256), Y'_g5 (isY_S yb256), Y'_g6 (isY_S yb256), Y'_g7 (isY_S yb256), Y'_g8 (isY_S yb256), Y'_g9 (isY_S yb256), Y'_g10 (isY_S yb256), Y'_g11 (isY_S yb256), Y'_g12 (isY_S yb256), Y'_g13 (isY_S yb256), Y'_g14 (isY_S yb256), Y'_g15 (isY_S yb256), Y'_g16 (isY_S yb256), Y'_g17 (isY_S yb256), Y'_g18 (isY_S yb256), Y'_g19 (isY_S yb256), Y'_a7 (isY_S yb256), Y'_a8 (isY_S yb256), Y'_a10 (isY_S yb256), Y'_a11 (isY_S yb256), Y'_a12 (isY_S yb256), Y'_a13 (isY_S yb256), Y'_a14 (isY_S yb256), Y'_a15 (isY_S yb256), Y'_a16 (isY_S yb256), Y'_a17 (isY_S yb256), Y'_a18 (isY_S yb256), Y'_sw (isY_S yb256), e5, e0]
      refine gives_lp (n := n) rfl (nF n 2) 0 s n (Nat.zero_add _) rfl hn hy rfl fun y1 hy1 _ => ?_
      have hok1 := RY_ok g1 hy1
      obtain ⟨p1, p2, -, p4⟩ := pass_rel (fun w b h => good_sw h) g1 hy1
      have e7 : ∀ Q, MT (d + 3) 75 [.ref 256] (pS (wSY s 256 y1) h) Q ↔ Q (some (.int (iB (passB y1)))) (pS (wSY s 256 (passY y1)) h) := fun Q => by
        have e := tr_Y (d := d + 3) (b := 256) (s := wSY s 256 y1) (h := h) (Q := Q) (y' := passY y1) (m := 75) (as := [.ref 256]) (r := some (.int (iB (passB y1)))) yb256 (fun h Q => m_pass (d := d + 1) (y := y1) hok1)
        rw [wSY_tw] at e
        exact e
      have fr : ∀ z, frS b s (wSY s 256 z) := fun z => ⟨rfl, fun q hq => if_neg hq, fun _ _ => rfl, fun _ _ => rfl, rfl, rfl, rfl⟩
      cases hs : stirN (givesN n) with
      | true =>
        rw [hs] at p4
        simp (disch := omega) only [u_51_0, u_51_1, u_51_4, u_51_7, u_51_8, u_51_9, u_51_12, u_51_15, u_51_16, u_51_19, u_51_20, u_51_23, u_51_24, u_51_27, u_51_30, u_51_33, u_51_34, u_51_36, u_51_39, u_51_42, u_51_43, u_51_46, u_51_49, u_51_52, u_51_53, u_51_54, u_51_57, u_51_60, u_51_61, u_51_64, u_51_65, u_51_66, u_51_70, u_51_71, u_51_74, u_51_77, u_51_80, u_51_81, u_51_83, u_51_86, u_51_89, u_51_92, u_51_93, u_51_96, u_51_99, u_51_102, u_51_103, u_51_106, u_51_109, gI0, gIs, gR0, gRs, gF0, gFs, st0, st_i, st_r, st_f, st_n, st_s, true_and, and_true, ↓ifLeT, ↓ifLeF, ↓ifLtT, ↓ifLtF, ↓ifEqT, ↓ifEqF, if_tt, if_ff, if_pos, if_neg, nLe, nLt, nEq, nInT, nCl, pk_mul, nI_add, Nat.reduceAdd, s_cat_nil, s_cat_i, s_cat_r, s_cat_f, s_cat_l, tl_s, tl_n, cat_i, cat_r, cat_f, nb0, nb1, nbI, if_bI, if_bIr, Nat.zero_le, Nat.reduceLeDiff, S_g0_0, S_g0_1, S_g0_2, S_g0_3, S_g0_4, S_g0_5, S_g0_6, S_g0_7, S_g0_8, S_g0_9, S_g0_10, S_g0_11, S_g0_12, S_g0_13, S_g0_14, S_g1_0, S_g1_1, S_g1_2, S_g1_3, S_g1_4, S_g72_0, S_g72_1, S_g72_2, S_g239_0, S_g239_1, S_g239_2, S_g239_3, S_g239_4, S_g239_5, S_g239_6, S_a23, S_n23, S_a282, S_n282, S_a300, S_n300, S_n73, S_n299, Y'_ob (isY_S yb256), Y'_g0 (isY_S yb256), Y'_g1 (isY_S yb256), Y'_g2 (isY_S yb256), Y'_g3 (isY_S yb256), Y'_g4 (isY_S yb256), Y'_g5 (isY_S yb256), Y'_g6 (isY_S yb256), Y'_g7 (isY_S yb256), Y'_g8 (isY_S yb256), Y'_g9 (isY_S yb256), Y'_g10 (isY_S yb256), Y'_g11 (isY_S yb256), Y'_g12 (isY_S yb256), Y'_g13 (isY_S yb256), Y'_g14 (isY_S yb256), Y'_g15 (isY_S yb256), Y'_g16 (isY_S yb256), Y'_g17 (isY_S yb256), Y'_g18 (isY_S yb256), Y'_g19 (isY_S yb256), Y'_a7 (isY_S yb256), Y'_a8 (isY_S yb256), Y'_a10 (isY_S yb256), Y'_a11 (isY_S yb256), Y'_a12 (isY_S yb256), Y'_a13 (isY_S yb256), Y'_a14 (isY_S yb256), Y'_a15 (isY_S yb256), Y'_a16 (isY_S yb256), Y'_a17 (isY_S yb256), Y'_a18 (isY_S yb256), Y'_sw (isY_S yb256), e7, p4, iBt, nI10, reduceIte]
        refine ih (m + 1) _ (passN (givesN n)) _ (by omega) p2 (by rw [SYw]; exact p1) ho fun s' q1 q2 => K s' (frS_t (fr _) q1) q2
      | false =>
        rw [hs] at p4
        simp (disch := omega) only [u_51_0, u_51_1, u_51_4, u_51_7, u_51_8, u_51_9, u_51_12, u_51_15, u_51_16, u_51_19, u_51_20, u_51_23, u_51_24, u_51_27, u_51_30, u_51_33, u_51_34, u_51_36, u_51_39, u_51_42, u_51_43, u_51_46, u_51_49, u_51_52, u_51_53, u_51_54, u_51_57, u_51_60, u_51_61, u_51_64, u_51_65, u_51_66, u_51_70, u_51_71, u_51_74, u_51_77, u_51_80, u_51_81, u_51_83, u_51_86, u_51_89, u_51_92, u_51_93, u_51_96, u_51_99, u_51_102, u_51_103, u_51_106, u_51_109, gI0, gIs, gR0, gRs, gF0, gFs, st0, st_i, st_r, st_f, st_n, st_s, true_and, and_true, ↓ifLeT, ↓ifLeF, ↓ifLtT, ↓ifLtF, ↓ifEqT, ↓ifEqF, if_tt, if_ff, if_pos, if_neg, nLe, nLt, nEq, nInT, nCl, pk_mul, nI_add, Nat.reduceAdd, s_cat_nil, s_cat_i, s_cat_r, s_cat_f, s_cat_l, tl_s, tl_n, cat_i, cat_r, cat_f, nb0, nb1, nbI, if_bI, if_bIr, Nat.zero_le, Nat.reduceLeDiff, S_g0_0, S_g0_1, S_g0_2, S_g0_3, S_g0_4, S_g0_5, S_g0_6, S_g0_7, S_g0_8, S_g0_9, S_g0_10, S_g0_11, S_g0_12, S_g0_13, S_g0_14, S_g1_0, S_g1_1, S_g1_2, S_g1_3, S_g1_4, S_g72_0, S_g72_1, S_g72_2, S_g239_0, S_g239_1, S_g239_2, S_g239_3, S_g239_4, S_g239_5, S_g239_6, S_a23, S_n23, S_a282, S_n282, S_a300, S_n300, S_n73, S_n299, Y'_ob (isY_S yb256), Y'_g0 (isY_S yb256), Y'_g1 (isY_S yb256), Y'_g2 (isY_S yb256), Y'_g3 (isY_S yb256), Y'_g4 (isY_S yb256), Y'_g5 (isY_S yb256), Y'_g6 (isY_S yb256), Y'_g7 (isY_S yb256), Y'_g8 (isY_S yb256), Y'_g9 (isY_S yb256), Y'_g10 (isY_S yb256), Y'_g11 (isY_S yb256), Y'_g12 (isY_S yb256), Y'_g13 (isY_S yb256), Y'_g14 (isY_S yb256), Y'_g15 (isY_S yb256), Y'_g16 (isY_S yb256), Y'_g17 (isY_S yb256), Y'_g18 (isY_S yb256), Y'_g19 (isY_S yb256), Y'_a7 (isY_S yb256), Y'_a8 (isY_S yb256), Y'_a10 (isY_S yb256), Y'_a11 (isY_S yb256), Y'_a12 (isY_S yb256), Y'_a13 (isY_S yb256), Y'_a14 (isY_S yb256), Y'_a15 (isY_S yb256), Y'_a16 (isY_S yb256), Y'_a17 (isY_S yb256), Y'_a18 (isY_S yb256), Y'_sw (isY_S yb256), e7, p4, iBf]
        refine K _ (fr _) ?_
        have q := (stuck_sq g1 hs).1
        have hng : noG (givesN n) := fun c hc => by
          rw [sameL_F g2] at hc ⊢
          rw [sameL_K g2]
          exact g3 c hc
        have had : allD (givesN n) = false := by
          have : allD (givesN n) = allD n := by
            unfold allD
            rw [sameL_F g2, sameL_done g2]
          rw [this]; exact hd
        rw [easy_stuck k (m + 1) (passN (givesN n)) p2 (stuck_on g1 hs) (noG_sq q hng) (by rw [allD_sq q]; exact had)]
        exact ho
theorem m_findEasy (hb : cb b) (hn : wfN n) (hy : RY (SY s 24) n) (K1 : eB (SO s b) 1 = true → Q none (pS s h)) (K2 : eB (SO s b) 1 = false → ∀ s', frQ b s s' → RF (SO s' b) (easyN n) → eB (SO s' b) 1 = true → Q none (pS s' h)) : MT (d + 4) 51 [.ref 239, .ref 24, .ref b] (pS s h) Q := by
  rw [MT_go (by decide) _ _ _ (Nat.le_of_ble_eq_true rfl), show s_entry 51 [.ref 239, .ref 24, .ref b] = [.ref 239, .ref 24, .ref b, s_no, s_no] from rfl]
  cases hk : eB (SO s b) 1 with
  | true =>
    simp (disch := omega) only [u_51_0, u_51_1, u_51_4, u_51_7, u_51_8, u_51_9, u_51_12, u_51_15, u_51_16, u_51_19, u_51_20, u_51_23, u_51_24, u_51_27, u_51_30, u_51_33, u_51_34, u_51_36, u_51_39, u_51_42, u_51_43, u_51_46, u_51_49, u_51_52, u_51_53, u_51_54, u_51_57, u_51_60, u_51_61, u_51_64, u_51_65, u_51_66, u_51_70, u_51_71, u_51_74, u_51_77, u_51_80, u_51_81, u_51_83, u_51_86, u_51_89, u_51_92, u_51_93, u_51_96, u_51_99, u_51_102, u_51_103, u_51_106, u_51_109, gI0, gIs, gR0, gRs, gF0, gFs, st0, st_i, st_r, st_f, st_n, st_s, true_and, and_true, ↓ifLeT, ↓ifLeF, ↓ifLtT, ↓ifLtF, ↓ifEqT, ↓ifEqF, if_tt, if_ff, if_pos, if_neg, nLe, nLt, nEq, nInT, nCl, pk_mul, nI_add, Nat.reduceAdd, s_cat_nil, s_cat_i, s_cat_r, s_cat_f, s_cat_l, tl_s, tl_n, cat_i, cat_r, cat_f, nb0, nb1, nbI, if_bI, if_bIr, Nat.zero_le, Nat.reduceLeDiff, C_g1 hb, hk, iBt, nI10, reduceIte]
    exact K1 hk
  | false =>
    have e1 := fun Q => S_open (d := d + 1) (s := s) (h := h) (x := nI 300) (Q := Q) hb
    have e2 := fun (s : tS) Q => S_copyY (d := d + 1) (s := s) (h := h) (Q := Q) yb256 yb24 (by decide)
    have e3 := fun (s : tS) Q => tr_YP (d := d + 3) (s := s) (h := h) (Q := Q) yb256 (fun h Q => m_clear (d := d + 2) (b := 256 + 13) (p := yP (SY s 256)) (h := h) (Q := Q))
    have ob : ∀ s : tS, ∀ q : Nat, (oO (pS s h) (256 + 13) fun c' _ => c' = q) ↔ 3 = q := fun s q => P'_ob (isP_YS yb256)
    simp (disch := omega) only [u_51_0, u_51_1, u_51_4, u_51_7, u_51_8, u_51_9, u_51_12, u_51_15, u_51_16, u_51_19, u_51_20, u_51_23, u_51_24, u_51_27, u_51_30, u_51_33, u_51_34, u_51_36, u_51_39, u_51_42, u_51_43, u_51_46, u_51_49, u_51_52, u_51_53, u_51_54, u_51_57, u_51_60, u_51_61, u_51_64, u_51_65, u_51_66, u_51_70, u_51_71, u_51_74, u_51_77, u_51_80, u_51_81, u_51_83, u_51_86, u_51_89, u_51_92, u_51_93, u_51_96, u_51_99, u_51_102, u_51_103, u_51_106, u_51_109, gI0, gIs, gR0, gRs, gF0, gFs, st0, st_i, st_r, st_f, st_n, st_s, true_and, and_true, ↓ifLeT, ↓ifLeF, ↓ifLtT, ↓ifLtF, ↓ifEqT, ↓ifEqF, if_tt, if_ff, if_pos, if_neg, nLe, nLt, nEq, nInT, nCl, pk_mul, nI_add, Nat.reduceAdd, s_cat_nil, s_cat_i, s_cat_r, s_cat_f, s_cat_l, tl_s, tl_n, cat_i, cat_r, cat_f, nb0, nb1, nbI, if_bI, if_bIr, Nat.zero_le, Nat.reduceLeDiff, S_g0_0, S_g0_1, S_g0_2, S_g0_3, S_g0_4, S_g0_5, S_g0_6, S_g0_7, S_g0_8, S_g0_9, S_g0_10, S_g0_11, S_g0_12, S_g0_13, S_g0_14, S_g1_0, S_g1_1, S_g1_2, S_g1_3, S_g1_4, S_g72_0, S_g72_1, S_g72_2, S_g239_0, S_g239_1, S_g239_2, S_g239_3, S_g239_4, S_g239_5, S_g239_6, S_a23, S_n23, S_a282, S_n282, S_a300, S_n300, S_n73, S_n299, Y'_ob (isY_S yb256), Y'_g0 (isY_S yb256), Y'_g1 (isY_S yb256), Y'_g2 (isY_S yb256), Y'_g3 (isY_S yb256), Y'_g4 (isY_S yb256), Y'_g5 (isY_S yb256), Y'_g6 (isY_S yb256), Y'_g7 (isY_S yb256), Y'_g8 (isY_S yb256), Y'_g9 (isY_S yb256), Y'_g10 (isY_S yb256), Y'_g11 (isY_S yb256), Y'_g12 (isY_S yb256), Y'_g13 (isY_S yb256), Y'_g14 (isY_S yb256), Y'_g15 (isY_S yb256), Y'_g16 (isY_S yb256), Y'_g17 (isY_S yb256), Y'_g18 (isY_S yb256), Y'_g19 (isY_S yb256), Y'_a7 (isY_S yb256), Y'_a8 (isY_S yb256), Y'_a10 (isY_S yb256), Y'_a11 (isY_S yb256), Y'_a12 (isY_S yb256), Y'_a13 (isY_S yb256), Y'_a14 (isY_S yb256), Y'_a15 (isY_S yb256), Y'_a16 (isY_S yb256), Y'_a17 (isY_S yb256), Y'_a18 (isY_S yb256), Y'_sw (isY_S yb256), C_g1 hb, C_ob hb, hk, iBf, e1, e2, ob, e3, SYw, wSY_tw]
    refine easy_lp hb 301 0 _ (jL n (fun _ => [])) _ (by rfl) ⟨hn.1, hn.2.1, hn.2.2.1, wfL_nil⟩ (by
      rw [SYw]
      exact RY_uP (RY_cp hy) RP_nil) ?_ fun s' q1 q2 => K2 hk s' ?_ q2 ?_
    · show eI (if b = b then _ else _) 2 = _
      rw [if_pos rfl]
      rfl
    · exact frQ_t (frQ_t (frQ_O (Or.inl rfl)) (frQ_Y (Or.inr rfl))) (frQ_S (Or.inl rfl) q1)
    · rw [q1.2.2.2.2.1]
      show eB (if b = b then _ else _) 1 = true
      rw [if_pos rfl]
      rfl
end EAS
