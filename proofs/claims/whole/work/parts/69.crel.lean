/-! the course of the plain quay -/
theorem run_succ : ∀ (k : Nat) (n : tN), runN (k + 1) n = passN (runN k n)
  | 0, _ => rfl
  | k + 1, n => run_succ k (passN n)
theorem wf_run {n : tN} (h : wfN n) : ∀ k, wfN (runN k n)
  | 0 => h
  | k + 1 => by rw [run_succ]; exact wf_pass (wf_run h k)
theorem run_F {n : tN} {q : Nat} (hq : q ≠ 4) : ∀ k, nF (runN k n) q = nF n q
  | 0 => rfl
  | k + 1 => by
    rw [run_succ]
    have : nF (passN (runN k n)) q = nF (runN k n) q := if_neg hq
    rw [this, run_F hq k]
theorem run_L {n : tN} : ∀ k, nL (runN k n) = nL n
  | 0 => rfl
  | k + 1 => by rw [run_succ]; exact run_L k
def firstN (p : Nat → Bool) (m : Nat) : Option Nat := (List.range m).find? p
theorem first_succ {p : Nat → Bool} {m : Nat} : firstN p (m + 1) = match firstN p m with
    | some j => some j
    | none => if p m then some m else none := by
  unfold firstN
  rw [List.range_succ, List.find?_append]
  cases (List.range m).find? p with
  | some j => rfl
  | none =>
    rw [List.find?_cons]
    cases p m <;> rfl
theorem first_lt {p : Nat → Bool} {m j : Nat} (h : firstN p m = some j) : j < m ∧ p j = true := ⟨List.mem_range.mp (List.mem_of_find?_eq_some h), List.find?_some h⟩
def doneB (n : tN) (t m : Nat) : Option Nat := firstN (fun j => nDone (runN j n) t) m
def overB (n : tN) (m : Nat) : Option Nat := firstN (fun j => overN (runN j n)) m
theorem over_last {n : tN} {k : Nat} : lastN k n = overB n (k + 1) := by
  cases h : overB n (k + 1) with
  | some j =>
    obtain ⟨h1, h2⟩ := first_lt h
    refine lastN_iff.mpr ⟨by omega, h2, fun i hi => ?_⟩
    have := List.find?_range_eq_some.mp h
    have := this.2.2 i hi
    simpa using this
  | none =>
    cases hl : lastN k n with
    | none => rfl
    | some j =>
      obtain ⟨h1, h2, -⟩ := lastN_iff.mp hl
      have := List.find?_eq_none.mp h j (List.mem_range.mpr (by omega))
      exact absurd h2 this
def cuA (co : tO) (n : tN) (m : Nat) : Prop := ∀ j c, j < m → c < nF n 2 → eA co 0 (j * 4 + c) = nI (nA (runN j n) 7 c) ∧ eF co 1 (j * 4 + c) = nW (runN j n) c
def cuB (co : tO) (n : tN) (m : Nat) : Prop := ∀ j c, j < m → c < nF n 2 → eA co 2 (j * 4 + c) = nI (nDeed (runN j n) c)
def cuC (co : tO) (n : tN) (m : Nat) : Prop := ∀ t, t < nF n 3 → eA co 3 t = oI1 (doneB n t m)
def cuD (co : tO) (n : tN) (m : Nat) : Prop := eI co 4 = oI1 (overB n m)
def CoOK (co : tO) (n : tN) : Prop := cuA co n 301 ∧ cuB co n 300 ∧ cuC co n 301 ∧ cuD co n 301
section CRL
variable {n : tN} {y : tY} {co : tO} {m : Nat}
theorem m1_ne {j : Nat} (hj : j < 2 ^ 31) : ¬ nI j = -1 := fun q => by
  have := congrArg Int32.toInt q
  rw [nI_toInt hj, show (-1 : Int32).toInt = -1 by decide] at this
  omega
theorem mark_rel (hn : wfN n) (hm : m ≤ 300) (hy : RY y (runN m n)) (ha : cuA co n m) (hb : cuB co n m) (hc : cuC co n m) (hd : cuD co n m) : cuA (rcL (nI (tbits (nL n))) y m co) n (m + 1) ∧ cuB (rcL (nI (tbits (nL n))) y m co) n m ∧ cuC (rcL (nI (tbits (nL n))) y m co) n (m + 1) ∧ cuD (rcL (nI (tbits (nL n))) y m co) n (m + 1) := by
  have h4 := hn.1.1
  have h8 := hn.1.2.1
  have wr := wf_run hn m
  have f2 : nF (runN m n) 2 = nF n 2 := run_F (by decide) m
  have f3 : nF (runN m n) 3 = nF n 3 := run_F (by decide) m
  have a' : cuA (markC y m co) n (m + 1) := by
    intro j c hj hcc
    have e0 : eA (markC y m co) 0 (j * 4 + c) = if 4 * m ≤ j * 4 + c ∧ j * 4 + c < 4 * m + 4 then yA y 7 (j * 4 + c - 4 * m) else eA co 0 (j * 4 + c) := rfl
    have e1 : eF (markC y m co) 1 (j * 4 + c) = if 4 * m ≤ j * 4 + c ∧ j * 4 + c < 4 * m + 4 then yW y (j * 4 + c - 4 * m) else eF co 1 (j * 4 + c) := rfl
    rw [e0, e1]
    by_cases e : j = m
    · rw [if_pos (by omega), if_pos (by omega), e, show m * 4 + c - 4 * m = c by omega]
      have := hy.2.1.1 c (by rw [f2]; exact hcc)
      exact ⟨this.1, this.2.2⟩
    · rw [if_neg (by omega), if_neg (by omega)]
      exact ha j c (by omega) hcc
  have b' : cuB (markC y m co) n m := hb
  have c' : cuC (markC y m co) n (m + 1) := by
    intro t ht
    have e0 : eA (markC y m co) 3 t = dnF y m 0 (yT y) (eA co 3) t := rfl
    have bd := bit_done wr.1 (t := t) (by rw [f3]; exact ht)
    rw [← hy.1.2.2.2.2.2.2] at bd
    rw [e0]
    unfold dnF
    rw [if_pos (show 0 ≤ t ∧ t < 0 + yT y by rw [hy.1.2.2.2.1, f3]; omega), hc t ht]
    unfold doneB
    rw [first_succ]
    cases hf : firstN (fun j => nDone (runN j n) t) m with
    | some j =>
      have := (first_lt hf).1
      rw [if_neg (show ¬ oI1 (some j) = -1 from m1_ne (j := j) (by omega))]
    | none =>
      rw [if_pos (show oI1 none = -1 from rfl)]
      cases hdn : nDone (runN m n) t with
      | false => rw [if_pos (bd.mpr hdn)]; rfl
      | true => rw [if_neg (fun q => by rw [bd.mp q] at hdn; cases hdn)]; rfl
  have d0 : eI (markC y m co) 4 = oI1 (overB n m) := hd
  have lr := left_rel wr hy
  rw [run_L] at lr
  unfold rcL
  rw [d0]
  cases ho : overB n m with
  | some j =>
    have hj := (first_lt ho).1
    rw [if_neg (show ¬ oI1 (some j) = -1 from m1_ne (j := j) (by omega))]
    refine ⟨a', b', c', ?_⟩
    show eI (markC y m co) 4 = _
    unfold overB at ho ⊢
    rw [d0, first_succ, ho]
    unfold overB
    rw [ho]
  | none =>
    rw [if_pos (show oI1 none = -1 from rfl)]
    cases hov : overN (runN m n) with
    | true =>
      rw [if_pos (lr.mpr hov)]
      refine ⟨a', b', c', ?_⟩
      show nI m = _
      unfold overB at ho ⊢
      rw [first_succ, ho]
      simp only
      rw [if_pos hov]
      rfl
    | false =>
      rw [if_neg (fun q => by rw [lr.mp q] at hov; cases hov)]
      refine ⟨a', b', c', ?_⟩
      show eI (markC y m co) 4 = _
      rw [d0]
      unfold overB at ho ⊢
      rw [first_succ, ho]
      simp only
      rw [if_neg (by rw [hov]; decide)]
theorem course_lp (hn : wfN n) : ∀ k m co y, m + k = 300 → RY y (runN m n) → cuA co n m → cuB co n m → cuC co n m → cuD co n m → cuA (rcF (nI (tbits (nL n))) k m (co, y)).1 n 301 ∧ cuB (rcF (nI (tbits (nL n))) k m (co, y)).1 n 300 ∧ cuC (rcF (nI (tbits (nL n))) k m (co, y)).1 n 301 ∧ cuD (rcF (nI (tbits (nL n))) k m (co, y)).1 n 301
  | 0, m, co, y, hm, hy, ha, hb, hc, hd => by
    have e : m = 300 := by omega
    subst e
    exact mark_rel hn (Nat.le_refl _) hy ha hb hc hd
  | k + 1, m, co, y, hm, hy, ha, hb, hc, hd => by
    obtain ⟨a', b', c', d'⟩ := mark_rel hn (by omega) hy ha hb hc hd
    obtain ⟨p1, -, p3, -⟩ := pass_rel (fun w b h => good_sw h) (wf_run hn m) hy
    rw [rcF]
    refine course_lp hn k (m + 1) _ _ (by omega) (by rw [run_succ]; exact p1) a' (fun j c hj hcc => ?_) c' d'
    have e0 : eA (mk2 (passY y) m 4 (rcL (nI (tbits (nL n))) y m co)) 2 (j * 4 + c) = if 4 * m ≤ j * 4 + c ∧ j * 4 + c < 4 * m + 4 then yA (passY y) 11 (j * 4 + c - 4 * m) else eA (rcL (nI (tbits (nL n))) y m co) 2 (j * 4 + c) := rfl
    have h4 := hn.1.1
    rw [e0]
    by_cases e : j = m
    · rw [if_pos (by omega), e, show m * 4 + c - 4 * m = c by omega]
      exact p3 c (by rw [run_F (by decide)]; exact hcc)
    · rw [if_neg (by omega)]
      exact b' j c (by omega) hcc
theorem course_rel (hn : wfN n) (hy : RY y n) : CoOK (rcY y co) n := by
  have h8 := hn.1.2.1
  have e := course_lp hn 300 0 (rc0 co) y rfl hy (fun j c hj => absurd hj (Nat.not_lt_zero j)) (fun j c hj => absurd hj (Nat.not_lt_zero j)) (fun t ht => by
    show fil 8 (fun _ => (-1 : Int32)) (eA co 3) t = _
    rw [fil_in (by omega)]
    rfl) rfl
  unfold rcY
  rw [bitsP_rel hy.2.2.2 (fun c t h => wfL31 hn c t h)]
  generalize (rcF (nI (tbits (nL n))) 300 0 (rc0 co, y)).1 = X at e ⊢
  exact e
end CRL
