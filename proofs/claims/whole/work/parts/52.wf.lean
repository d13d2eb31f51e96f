/-! what holds of a quay; a yard's cells tell it -/
def goodW (w : UInt32) : Prop := w.toNat ≤ 1086324736
def wfF (n : tN) : Prop := nF n 2 ≤ 4 ∧ nF n 3 ≤ 8 ∧ 2 ≤ nF n 0 ∧ nF n 0 ≤ 30 ∧ 1 ≤ nF n 1 ∧ nF n 1 ≤ 5
def wfC (n : tN) : Prop := (∀ c, c < nF n 2 → nA n 7 c < nF n 0 ∧ 1 ≤ nA n 8 c ∧ nA n 8 c ≤ 99 ∧ goodW (nW n c)) ∧ (∀ c, c + 1 < nF n 2 → nA n 7 c + nF n 1 ≤ nA n 7 (c + 1))
def wfT (n : tN) : Prop := ∀ t, t < nF n 3 → nA n 12 t < nF n 0 ∧ 1 ≤ nA n 13 t ∧ nA n 13 t ≤ 91 ∧ 1 ≤ nA n 14 t ∧ nA n 14 t ≤ 99 ∧ nA n 16 t ≤ nA n 13 t ∧ ∀ u, nV n t u = true → u < t ∧ (0 < nA n 16 t → nDone n u = true)
def wfL (n : tN) : Prop := (∀ c, nF n 2 ≤ c → nL n c = []) ∧ (∀ c, (nL n c).Nodup ∧ ∀ t, t ∈ nL n c → t < nF n 3) ∧ ∀ c c' t, t ∈ nL n c → t ∈ nL n c' → c = c'
def wfN (n : tN) : Prop := wfF n ∧ wfC n ∧ wfT n ∧ wfL n
def RYF (y : tY) (n : tN) : Prop := yB y 0 = nI (nF n 0) ∧ yB y 1 = nI (nF n 1) ∧ yC y = nF n 2 ∧ yT y = nF n 3 ∧ yB y 4 = nI (nF n 4) ∧ yB y 5 = nI (bitsN (nK n) (nF n 2)) ∧ yB y 6 = nI (bitsN (nDone n) (nF n 3))
def RYC (y : tY) (n : tN) : Prop := (∀ c, c < nF n 2 → yA y 7 c = nI (nA n 7 c) ∧ yA y 8 c = nI (nA n 8 c) ∧ yW y c = nW n c) ∧ ∀ c, c < 4 → goodW (yW y c)
def RYT (y : tY) (n : tN) : Prop := ∀ t, t < nF n 3 → yA y 12 t = nI (nA n 12 t) ∧ yA y 13 t = nI (nA n 13 t) ∧ yA y 14 t = nI (nA n 14 t) ∧ yA y 15 t = nI (bitsN (nV n t) 8) ∧ yA y 16 t = nI (nA n 16 t) ∧ yA y 17 t = nX n 17 t ∧ yA y 18 t = nX n 18 t
/-- a plan's cells tell lists -/
def RP (p : tP) (l : Nat → List Nat) : Prop := ∀ c, c < 4 → p.2 c = (l c).length ∧ ∀ k, k < (l c).length → p.1 (c * 8 + k) = nI ((l c).getD k 0)
def RY (y : tY) (n : tN) : Prop := RYF y n ∧ RYC y n ∧ RYT y n ∧ RP (yP y) (nL n)
theorem nodup_len : ∀ {k : Nat} {l : List Nat}, l.Nodup → (∀ t, t ∈ l → t < k) → l.length ≤ k := by
  intro k
  induction k with
  | zero =>
    intro l _ h
    cases l with
    | nil => exact Nat.le_refl _
    | cons a l => exact absurd (h a List.mem_cons_self) (Nat.not_lt_zero _)
  | succ k ih =>
    intro l hn h
    have h1 : (l.erase k).length ≤ k := ih (hn.erase k) fun t ht => by
      have h2 := (hn.mem_erase_iff).mp ht
      have h3 := h t h2.2
      have h4 := h2.1
      omega
    have h5 : l.length ≤ (l.erase k).length + 1 := by
      rw [List.length_erase]
      split <;> omega
    omega
theorem wfL_len {n : tN} (hF : wfF n) (hL : wfL n) (c : Nat) : (nL n c).length ≤ 8 := Nat.le_trans (nodup_len (hL.2.1 c).1 (hL.2.1 c).2) hF.2.1
theorem RP_okS {y : tY} {n : tN} (hF : wfF n) (hL : wfL n) (h : RP (yP y) (nL n)) : okS (yP y) := fun c hc => by rw [(h c hc).1]; exact wfL_len hF hL c
theorem getD_mem {l : List Nat} {k : Nat} (h : k < l.length) : l.getD k 0 ∈ l := by
  rw [List.getD_eq_getElem?_getD, List.getElem?_eq_getElem h]
  exact List.getElem_mem h
theorem nDone_ge {n : tN} (hT : wfT n) {t : Nat} (ht : t < nF n 3) : nDone n t = false ↔ nA n 16 t < nA n 13 t := by
  obtain ⟨-, -, -, -, -, h, -⟩ := hT t ht
  unfold nDone
  rw [decide_eq_false_iff_not]
  omega
/-- the bits of what is done, of who is broken -/
theorem bit_done {n : tN} (hF : wfF n) {t : Nat} (ht : t < nF n 3) : bitS (nI (bitsN (nDone n) (nF n 3))) (nI t) = nI 0 ↔ nDone n t = false := by
  obtain ⟨h1, h2, -⟩ := hF
  have := bitsN_256 (f := nDone n) h2
  rw [bitS_n (by omega) (by omega), bitsN_tb, decide_eq_true ht, Bool.true_and]
theorem bit_brk {n : tN} (hF : wfF n) {c : Nat} (hc : c < nF n 2) : bitS (nI (bitsN (nK n) (nF n 2))) (nI c) = nI 0 ↔ nK n c = false := by
  obtain ⟨h1, h2, -⟩ := hF
  have := bitsN_256 (f := nK n) (k := nF n 2) (by omega)
  rw [bitS_n (by omega) (by omega), bitsN_tb, decide_eq_true hc, Bool.true_and]
/-- a crane's next task -/
theorem nx_drop {y : tY} {n : tN} (hF : wfF n) (hL : wfL n) (hy : RY y n) {c : Nat} (hc : c < 4) : ∀ m j, j + m = (nL n c).length → nxF y c j m = (((nL n c).drop j).find? (fun t => !nDone n t)).map nI := by
  obtain ⟨⟨-, -, -, hT, -, -, h6⟩, -, -, hP⟩ := hy
  intro m
  induction m with
  | zero =>
    intro j hj
    rw [List.drop_of_length_le (by omega)]
    rfl
  | succ m ih =>
    intro j hj
    have hj' : j < (nL n c).length := by omega
    have e := (hP c hc).2 j hj'
    have hm := (hL.2.1 c).2 _ (getD_mem hj')
    have h8 := hF.2.1
    have ih := ih (j + 1) (by omega)
    rw [List.drop_eq_getElem_cons hj', List.find?_cons]
    have e2 : (nL n c).getD j 0 = (nL n c)[j] := by rw [List.getD_eq_getElem?_getD, List.getElem?_eq_getElem hj']; rfl
    rw [← e2]
    unfold nxF at ih ⊢
    rw [hT, h6] at ih ⊢
    rw [sfrom, e]
    cases hd : nDone n ((nL n c).getD j 0) with
    | false =>
      rw [if_pos ⟨nI_le (by omega) (by omega), nI_lt hm (by omega), (bit_done hF hm).mpr hd⟩]
      rfl
    | true =>
      rw [if_neg (fun z => by have := (bit_done hF hm).mp z.2.2; rw [hd] at this; cases this)]
      exact ih
theorem nx_rel {y : tY} {n : tN} (hF : wfF n) (hL : wfL n) (hy : RY y n) {c : Nat} (hc : c < 4) : nxY y c = oI1 (nNext n c) := by
  unfold nxY nNext
  have h := nx_drop hF hL hy hc (nL n c).length 0 (by omega)
  rw [(hy.2.2.2 c hc).1, h, List.drop_zero]
  cases (nL n c).find? (fun t => !nDone n t) <;> rfl
theorem next_lt {n : tN} (hL : wfL n) {c t : Nat} (h : nNext n c = some t) : t < nF n 3 ∧ t ∈ nL n c ∧ nDone n t = false := by
  have h1 := List.mem_of_find?_eq_some h
  have h2 := List.find?_some h
  exact ⟨(hL.2.1 c).2 t h1, h1, by simpa using h2⟩
