/-! a QUAY that was read -/
section RDQ
variable {n : tN} {y : tY} {t : tO} {p : tP} {l : tL}
theorem nb_of {a c : Nat} (ha : a < 2 ^ 31) (hc : c < 2 ^ 31) (h : isNB t (nI a) (nI c) = true) : eI t 3 = nI 2 ∧ ∃ b, eI t 4 = nI b ∧ a ≤ b ∧ b ≤ c := by
  unfold isNB at h
  rw [Bool.and_eq_true, Bool.and_eq_true, decide_eq_true_eq, decide_eq_true_eq, decide_eq_true_eq] at h
  obtain ⟨h0, h1, h2⟩ := h
  have : nI 0 ≤ eI t 4 := Int32.le_trans (nI_le (Nat.zero_le a) ha) h1
  obtain ⟨j, hj, e⟩ := nI_of (x := eI t 4) (Int32.not_lt.mpr this)
  rw [e] at h1 h2
  exact ⟨h0, j, e, (nLe ha hj).mp h1, (nLe hj hc).mp h2⟩
theorem nm_of {j a c : Nat} (ha : a < 2 ^ 31) (hc : c < 2 ^ 31) (h : nmB t j (nI a) (nI c) = true) : isWB t j = true ∧ nmT t j = advT t ∧ eI (advT t) 3 = nI 2 ∧ ∃ b, eI (advT t) 4 = nI b ∧ a ≤ b ∧ b ≤ c := by
  unfold nmB at h
  rw [Bool.and_eq_true] at h
  obtain ⟨h1, h2⟩ := h
  obtain ⟨h3, h4⟩ := nb_of ha hc h2
  exact ⟨h1, by unfold nmT; rw [if_pos h1], h3, h4⟩
def leastN (n : tN) : Nat := if nF n 2 = 0 then 0 else nA n 7 (nF n 2 - 1) + nF n 1
theorem lst_n (h : DI y n) : lstC y = nI (leastN n) ∧ leastN n ≤ 34 := by
  obtain ⟨hy, hn, -⟩ := h
  unfold lstC leastN
  rw [hy.1.2.2.1]
  by_cases h0 : nF n 2 = 0
  · rw [if_pos h0, if_pos h0]; exact ⟨rfl, Nat.zero_le _⟩
  · have h1 := (hn.2.1.1 (nF n 2 - 1) (by omega)).1
    have h2 := hn.1.2.2.2.1
    have h3 := hn.1.2.2.2.2.2
    rw [if_neg h0, if_neg h0, (hy.2.1.1 _ (by omega)).1, hy.1.2.1, nI_add]
    exact ⟨rfl, by omega⟩
theorem bay_n (h : DI y n) : yB y 0 - nI 1 = nI (nF n 0 - 1) := by
  have := h.2.1.1.2.2.1
  rw [h.1.1.1, pk_sub (by omega)]
theorem rdC_n (h : DI y n) (ok : (rdC t y).1 = true) : ∃ b l, (rdC t y).2.2 = addC y (nI b) (nI l) ∧ b < nF n 0 ∧ leastN n ≤ b ∧ 1 ≤ l ∧ l ≤ 99 := by
  obtain ⟨e1, e2⟩ := lst_n h
  have hB := h.2.1.1.2.2.1
  have hB2 := h.2.1.1.2.2.2.1
  unfold rdC at ok ⊢
  rw [e1, bay_n h] at ok ⊢
  by_cases k1 : nmB t 2 (nI (leastN n)) (nI (nF n 0 - 1)) = true
  · rw [if_pos k1] at ok ⊢
    obtain ⟨-, m1, -, b, m2, m3, m4⟩ := nm_of (by omega) (by omega) k1
    rw [m1] at ok ⊢
    rw [m2]
    by_cases k2 : isWB (advT (advT t)) 3 = true
    · rw [if_pos k2] at ok ⊢
      by_cases k3 : nmB (advT (advT t)) 3 (nI 1) (nI 99) = true
      · rw [if_pos k3] at ok ⊢
        obtain ⟨-, n1, -, l, n2, n3, n4⟩ := nm_of (by omega) (by omega) k3
        rw [n1, n2]
        exact ⟨b, l, rfl, by omega, m3, n3, n4⟩
      · rw [if_neg k3] at ok
        cases ok
    · rw [if_neg k2]
      exact ⟨b, 99, rfl, by omega, m3, by omega, by omega⟩
  · rw [if_neg k1] at ok
    cases ok
theorem DI_C2 {b l : Nat} (h : DI y n) (hC : nF n 2 < 4) (hb : b < nF n 0) (hg : leastN n ≤ b) (hl : 1 ≤ l) (hl2 : l ≤ 99) : DI (addC y (nI b) (nI l)) (addCN n b l) := by
  refine DI_C h hC hb (fun c hc => ?_) hl hl2
  unfold leastN at hg
  rw [if_neg (by omega), ← hc, Nat.add_sub_cancel] at hg
  exact hg
theorem hv_n (ok : (hvF t).1 = true) : ∃ v, (hvF t).2.2 = nI v ∧ 1 ≤ v ∧ v ≤ 99 := by
  unfold hvF at ok ⊢
  by_cases k1 : isWB t 7 = true
  · rw [if_pos k1] at ok ⊢
    by_cases k2 : nmB t 7 (nI 1) (nI 99) = true
    · rw [if_pos k2]
      obtain ⟨-, m1, -, b, m2, m3, m4⟩ := nm_of (by omega) (by omega) k2
      rw [m1, m2]
      exact ⟨b, rfl, m3, m4⟩
    · rw [if_neg k2] at ok
      cases ok
  · rw [if_neg k1]
    exact ⟨1, rfl, by omega, by omega⟩
theorem af_n {T : Nat} (hT : T < 8) : ∀ f t m, m < 2 ^ T → (afF (nI T - nI 1) f t (nI m)).1 = true → ∃ m', (afF (nI T - nI 1) f t (nI m)).2.2 = nI m' ∧ m' < 2 ^ T
  | 0, t, m, hm, ok => ⟨m, rfl, hm⟩
  | f + 1, t, m, hm, ok => by
    rw [afF] at ok ⊢
    by_cases k1 : isWB t 8 = true
    · rw [if_pos k1] at ok ⊢
      by_cases k2 : nmB t 8 (nI 0) (nI T - nI 1) = true
      · rw [if_pos k2] at ok ⊢
        have k3 : isNB (advT t) (nI 0) (nI T - nI 1) = true := by
          unfold nmB at k2
          rw [Bool.and_eq_true] at k2
          exact k2.2
        obtain ⟨j, hj, e⟩ := nb_in (by omega) k3
        have e2 : nmT t 8 = advT t := by unfold nmT; rw [if_pos k1]
        rw [e2, e, show (31 : Int32) = 31 from rfl, i_shl1 (by omega), fa_or] at ok ⊢
        exact af_n hT f _ _ (Nat.or_lt_two_pow hm (Nat.pow_lt_pow_right (by decide) hj)) ok
      · rw [if_neg k2] at ok
        cases ok
    · rw [if_neg k1]
      exact ⟨m, rfl, hm⟩
theorem rdT_n (h : DI y n) (hT : nF n 3 < 8) (ok : (rdT (nI (nF n 3)) t y).1 = true) : ∃ bay tk v m, (rdT (nI (nF n 3)) t y).2.2 = addT y (nI bay) (nI tk) (nI v) (nI m) ∧ bay < nF n 0 ∧ 1 ≤ tk ∧ tk ≤ 30 ∧ 1 ≤ v ∧ v ≤ 99 ∧ m < 2 ^ nF n 3 := by
  have hB := h.2.1.1.2.2.1
  have hB2 := h.2.1.1.2.2.2.1
  unfold rdT at ok ⊢
  rw [bay_n h] at ok ⊢
  by_cases k0 : isWB t 4 = true
  · rw [if_pos k0] at ok ⊢
    by_cases k1 : nmB (advT t) 5 (nI 0) (nI (nF n 0 - 1)) = true
    · rw [if_pos k1] at ok ⊢
      obtain ⟨-, m1, -, b, m2, m3, m4⟩ := nm_of (by omega) (by omega) k1
      rw [m1] at ok ⊢
      by_cases k2 : nmB (advT (advT (advT t))) 6 (nI 1) (nI 30) = true
      · rw [if_pos k2] at ok ⊢
        obtain ⟨-, n1, -, tk, n2, n3, n4⟩ := nm_of (by omega) (by omega) k2
        rw [n1] at ok ⊢
        by_cases k3 : (hvF (advT (advT (advT (advT (advT t)))))).1 = true
        · rw [if_pos k3] at ok ⊢
          obtain ⟨v, v1, v2, v3⟩ := hv_n k3
          rw [m2, n2, v1] at ok ⊢
          unfold enF at ok ⊢
          by_cases k4 : (afF (nI (nF n 3) - nI 1) 400 (hvF (advT (advT (advT (advT (advT t)))))).2.1 (nI 0)).1 = true
          · rw [if_pos k4]
            obtain ⟨m, q1, q2⟩ := af_n hT 400 _ 0 (Nat.two_pow_pos _) k4
            rw [q1]
            exact ⟨b, tk, v, m, rfl, by omega, n3, n4, v2, v3, q2⟩
          · rw [if_neg k4] at ok
            cases ok
        · rw [if_neg k3] at ok
          cases ok
      · rw [if_neg k2] at ok
        cases ok
    · rw [if_neg k1] at ok
      cases ok
  · rw [if_neg k0] at ok
    cases ok
theorem tb_bits {m T : Nat} (hT : T < 8) (hm : m < 2 ^ T) : nI m = nI (bitsN (fun u => m.testBit u) 8) ∧ ∀ u, m.testBit u = true → u < T := by
  have h8 : m < 2 ^ 8 := Nat.lt_of_lt_of_le hm (Nat.pow_le_pow_right (by decide) (by omega))
  refine ⟨congrArg nI (bitsN_eq h8 fun _ _ => rfl), fun u hu => ?_⟩
  refine Nat.lt_of_not_le fun q => ?_
  rw [Nat.testBit_lt_two_pow (Nat.lt_of_lt_of_le hm (Nat.pow_le_pow_right (by decide) q))] at hu
  cases hu
theorem rdL_n : ∀ k j t y n, DI y n → nF n 3 = j → j + k = 8 → 1 ≤ nF n 2 → (rdL k j t y).1 = true → ∃ n', DI (rdL k j t y).2.2 n' ∧ nF n' 2 = nF n 2
  | 0, j, t, y, n, h, h3, hk, h1, ok => by rw [rdL] at ok; cases ok
  | k + 1, j, t, y, n, h, h3, hk, h1, ok => by
    subst h3
    rw [rdL] at ok ⊢
    by_cases k1 : (rdT (nI (nF n 3)) t y).1 = true
    · rw [if_pos k1] at ok ⊢
      obtain ⟨bay, tk, v, m, e, b1, b2, b3, b4, b5, b6⟩ := rdT_n h (by omega) k1
      obtain ⟨c1, c2⟩ := tb_bits (by omega) b6
      have hD := DI_T (AF := nI m) h (by omega) b1 b2 b3 b4 b5 c1 c2 h1
      rw [← e] at hD
      by_cases k2 : eI (rdT (nI (nF n 3)) t y).2.1 3 = nI 0
      · rw [if_pos k2]
        exact ⟨_, hD, rfl⟩
      · rw [if_neg k2] at ok ⊢
        by_cases k3 : eI (rdT (nI (nF n 3)) t y).2.1 3 = nI 3
        · rw [if_pos k3] at ok ⊢
          obtain ⟨n', q1, q2⟩ := rdL_n k (nF n 3 + 1) _ _ _ hD rfl (by omega) h1 ok
          exact ⟨n', q1, q2⟩
        · rw [if_neg k3] at ok
          cases ok
    · rw [if_neg k1] at ok
      cases ok
theorem rdK_n : ∀ k c t y n, DI y n → nF n 2 = c → c + k = 4 → nF n 3 = 0 → (rdK k c t y).1 = true → ∃ n', DI (rdK k c t y).2.2 n' ∧ 1 ≤ nF n' 2
  | 0, c, t, y, n, h, h2, hk, h3, ok => by
    rw [rdK] at ok ⊢
    obtain ⟨n', a, b⟩ := rdL_n 8 0 t y n h h3 (by omega) (by omega) ok
    exact ⟨n', a, by omega⟩
  | k + 1, c, t, y, n, h, h2, hk, h3, ok => by
    rw [rdK] at ok ⊢
    by_cases k0 : c = 0 ∨ isWB t 2 = true
    · rw [if_pos k0] at ok ⊢
      by_cases k1 : (rdC t y).1 = true
      · rw [if_pos k1] at ok ⊢
        obtain ⟨b, l, e, b1, b2, b3, b4⟩ := rdC_n h k1
        have hD := DI_C2 h (by omega) b1 b2 b3 b4
        rw [← e] at hD
        by_cases k2 : eI (rdC t y).2.1 3 = nI 0
        · rw [if_pos k2]
          exact ⟨_, hD, by show 1 ≤ nF n 2 + 1; omega⟩
        · rw [if_neg k2] at ok ⊢
          by_cases k3 : eI (rdC t y).2.1 3 = nI 3
          · rw [if_pos k3] at ok ⊢
            exact rdK_n k (c + 1) _ _ _ hD (by show nF n 2 + 1 = _; omega) (by omega) h3 ok
          · rw [if_neg k3] at ok
            cases ok
      · rw [if_neg k1] at ok
        cases ok
    · rw [if_neg k0] at ok ⊢
      obtain ⟨n', a, b⟩ := rdL_n 8 0 t y n h h3 (by omega) (by omega) ok
      exact ⟨n', a, by omega⟩
def gW (y : tY) : Prop := ∀ c, c < 4 → goodW (yW y c)
theorem DI_q0 {B : Nat} (hW : gW y) (hB : 2 ≤ B) (hB2 : B ≤ 30) : DI (uS (clrY y) 0 (nI B)) (quay0 B 1) :=
  DI_0 hB hB2 (by decide) (by decide) rfl rfl rfl rfl rfl rfl rfl hW (fun _ _ => rfl)
theorem DI_q1 {B g : Nat} (hW : gW y) (hB : 2 ≤ B) (hB2 : B ≤ 30) (hg : 1 ≤ g) (hg2 : g ≤ 5) : DI (uS (uS (clrY y) 0 (nI B)) 1 (nI g)) (quay0 B g) :=
  DI_0 hB hB2 hg hg2 rfl rfl rfl rfl rfl rfl rfl hW (fun _ _ => rfl)
theorem rdQ_n (hW : gW y) (ok : (rdQ t y).1 = true) : ∃ n, DI (rdQ t y).2.2 n ∧ 1 ≤ nF n 2 := by
  unfold rdQ at ok ⊢
  by_cases k1 : nmB (rewT t) 0 (nI 2) (nI 30) = true
  · rw [if_pos k1] at ok ⊢
    obtain ⟨-, m1, -, B, m2, m3, m4⟩ := nm_of (by omega) (by omega) k1
    rw [m1, m2] at ok ⊢
    by_cases k2 : eI (advT (advT (rewT t))) 3 = nI 3
    · rw [if_pos k2] at ok ⊢
      generalize advT (advT (advT (rewT t))) = u at ok ⊢
      unfold gpF at ok ⊢
      by_cases k3 : isWB u 1 = true
      · simp only [if_pos k3] at ok ⊢
        by_cases k4 : nmB u 1 (nI 1) (nI 5) = true
        · obtain ⟨-, q1, -, g, q2, q3, q4⟩ := nm_of (by omega) (by omega) k4
          simp only [if_pos k4, q1, q2] at ok ⊢
          by_cases k5 : eI (advT (advT u)) 3 = nI 3
          · simp only [if_pos k5, if_true] at ok ⊢
            exact rdK_n 4 0 _ _ _ (DI_q1 hW m3 m4 q3 q4) rfl rfl rfl ok
          · simp only [if_neg k5, Bool.false_eq_true, if_false] at ok
        · simp only [if_neg k4, Bool.false_eq_true, if_false] at ok
      · simp only [if_neg k3, if_true] at ok ⊢
        exact rdK_n 4 0 _ _ _ (DI_q0 hW m3 m4) rfl rfl rfl ok
    · rw [if_neg k2] at ok
      cases ok
  · rw [if_neg k1] at ok
    cases ok
/-! the draft's sways stay good -/
theorem addC_W {w l : Int32} (hW : gW y) : gW (addC y w l) := by
  unfold addC
  split
  · intro c hc
    show goodW (vf_upd (yW y) (yC y) FP.fconst0 c)
    unfold vf_upd
    split
    · exact good_0
    · exact hW c hc
  · exact hW
theorem addT_W {a b c e : Int32} (hW : gW y) : gW (addT y a b c e) := by
  unfold addT
  split
  · exact hW
  · exact hW
theorem rdC_W (hW : gW y) : gW (rdC t y).2.2 := by
  unfold rdC
  split
  · split
    · split
      · exact addC_W hW
      · exact hW
    · exact addC_W hW
  · exact hW
theorem enF_W {a b c e : Int32} (hW : gW y) : gW (enF a b c e t y).2.2 := by
  unfold enF
  split
  · exact addT_W hW
  · exact hW
theorem rdT_W {w : Int32} (hW : gW y) : gW (rdT w t y).2.2 := by
  unfold rdT
  split
  · split
    · split
      · split
        · exact enF_W hW
        · exact hW
      · exact hW
    · exact hW
  · exact hW
theorem rdL_W : ∀ k j t y, gW y → gW (rdL k j t y).2.2
  | 0, j, t, y, h => h
  | k + 1, j, t, y, h => by
    have := rdT_W (w := nI j) (t := t) h
    rw [rdL]
    split
    · split
      · exact this
      · split
        · exact rdL_W k _ _ _ this
        · exact this
    · exact this
theorem rdK_W : ∀ k j t y, gW y → gW (rdK k j t y).2.2
  | 0, j, t, y, h => rdL_W 8 0 t y h
  | k + 1, j, t, y, h => by
    have := rdC_W (t := t) h
    rw [rdK]
    split
    · split
      · split
        · exact this
        · split
          · exact rdK_W k _ _ _ this
          · exact this
      · exact this
    · exact rdL_W 8 0 t y h
theorem gpF_W (hW : gW y) : gW (gpF t y).2.2 := by
  unfold gpF
  split
  · split
    · split
      · exact hW
      · exact hW
    · exact hW
  · exact hW
theorem rdQ_W (hW : gW y) : gW (rdQ t y).2.2 := by
  unfold rdQ
  split
  · split
    · split
      · exact rdK_W _ _ _ _ (gpF_W hW)
      · exact gpF_W hW
    · exact hW
  · exact hW
end RDQ
