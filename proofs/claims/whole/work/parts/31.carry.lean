/-! What a method does to its object, it does within the whole -/
def yb (b : Nat) : Prop := b = 4 ∨ b = 24 ∨ b = 40 ∨ b = 56 ∨ b = 240 ∨ b = 256 ∨ ∃ j, j < 10 ∧ b = 74 + 16 * j
theorem yb4 : yb 4 := Or.inl rfl
theorem yb24 : yb 24 := Or.inr (Or.inl rfl)
theorem yb40 : yb 40 := Or.inr (Or.inr (Or.inl rfl))
theorem yb56 : yb 56 := Or.inr (Or.inr (Or.inr (Or.inl rfl)))
theorem yb240 : yb 240 := Or.inr (Or.inr (Or.inr (Or.inr (Or.inl rfl))))
theorem yb256 : yb 256 := Or.inr (Or.inr (Or.inr (Or.inr (Or.inr (Or.inl rfl)))))
theorem ybA {j : Nat} (hj : j < 10) : yb (74 + 16 * j) := Or.inr (Or.inr (Or.inr (Or.inr (Or.inr (Or.inr ⟨j, hj, rfl⟩)))))
theorem yb_d {a b : Nat} (ha : yb a) (hb : yb b) (hn : a ≠ b) : a + 16 ≤ b ∨ b + 16 ≤ a := by
  rcases ha with e | e | e | e | e | e | ⟨j, hj, e⟩ <;> rcases hb with e2 | e2 | e2 | e2 | e2 | e2 | ⟨q, hq, e2⟩ <;> omega
def cb (b : Nat) : Prop := b = 278 ∨ b = 283 ∨ b = 287 ∨ b = 291 ∨ b = 295 ∨ ∃ j, j < 4 ∧ b = 301 + 4 * j
theorem cb278 : cb 278 := Or.inl rfl
theorem cb283 : cb 283 := Or.inr (Or.inl rfl)
theorem cb287 : cb 287 := Or.inr (Or.inr (Or.inl rfl))
theorem cb291 : cb 291 := Or.inr (Or.inr (Or.inr (Or.inl rfl)))
theorem cb295 : cb 295 := Or.inr (Or.inr (Or.inr (Or.inr (Or.inl rfl))))
theorem cbA {j : Nat} (hj : j < 4) : cb (301 + 4 * j) := Or.inr (Or.inr (Or.inr (Or.inr (Or.inr ⟨j, hj, rfl⟩))))
section CA
variable {a b d m : Nat} {s : tS} {h : sH} {i x : Int32} {as : List Value} {Q : sQ} {r : Option Value}
theorem S_Y {y : tY} (hb : yb b) : pY b y (pS s h) = pS (wSY s b y) h := by
  rcases hb with e | e | e | e | e | e | ⟨j, hj, e⟩ <;> subst e
  · exact S_Y4
  · exact S_Y24
  · exact S_Y40
  · exact S_Y56
  · exact S_Y240
  · exact S_Y256
  · exact S_YA hj
theorem wSY_eta : wSY s b (SY s b) = s := by
  unfold wSY
  refine Prod.ext rfl (Prod.ext (funext fun q => ?_) rfl)
  show (if q = b then SY s b else _) = _
  by_cases e : q = b
  · rw [if_pos e, e]; rfl
  · rw [if_neg e]
theorem isY_S (hb : yb b) : isY (pS s h) b (SY s b) := by
  unfold isY
  rw [S_Y hb, wSY_eta]
/-- a yard's method -/
theorem tr_Y {y' : tY} (hb : yb b) (H : ∀ h Q, MT d m as (pY b (SY s b) h) Q ↔ Q r (pY b y' h)) : MT d m as (pS s h) Q ↔ Q r (pS (wSY s b y') h) := by
  have e := H (pS s h) Q
  rw [S_Y hb, S_Y hb, wSY_eta] at e
  exact e
/-- a yard's method that only looks -/
theorem tl_Y (hb : yb b) (H : ∀ h Q, MT d m as (pY b (SY s b) h) Q ↔ Q r (pY b (SY s b) h)) : MT d m as (pS s h) Q ↔ Q r (pS s h) := by
  have e := tr_Y (h := h) (Q := Q) hb H
  rw [wSY_eta] at e
  exact e
theorem S_Ch {t : tO} (hb : cb b) : pCh b t (pS s h) = pS (wSO s b t) h := by
  rcases hb with e | e | e | e | e | ⟨j, hj, e⟩ <;> subst e
  · exact S_O278
  · exact S_O283
  · exact S_O287
  · exact S_O291
  · exact S_O295
  · exact S_OA hj
theorem wSO_eta : wSO s b (SO s b) = s := by
  unfold wSO
  refine Prod.ext rfl (Prod.ext rfl (Prod.ext rfl (funext fun q => ?_)))
  show (if q = b then SO s b else _) = _
  by_cases e : q = b
  · rw [if_pos e, e]; rfl
  · rw [if_neg e]
theorem wSP_eta : wSP s b (SP s b) = s := by
  unfold wSP
  refine Prod.ext rfl (Prod.ext rfl (Prod.ext (funext fun q => ?_) rfl))
  show (if q = b then SP s b else _) = _
  by_cases e : q = b
  · rw [if_pos e, e]; rfl
  · rw [if_neg e]
theorem tr_Ch {t' : tO} (hb : cb b) (H : ∀ h Q, MT d m as (pCh b (SO s b) h) Q ↔ Q r (pCh b t' h)) : MT d m as (pS s h) Q ↔ Q r (pS (wSO s b t') h) := by
  have e := H (pS s h) Q
  rw [S_Ch hb, S_Ch hb, wSO_eta] at e
  exact e
theorem tl_Ch (hb : cb b) (H : ∀ h Q, MT d m as (pCh b (SO s b) h) Q ↔ Q r (pCh b (SO s b) h)) : MT d m as (pS s h) Q ↔ Q r (pS s h) := by
  have e := tr_Ch (h := h) (Q := Q) hb H
  rw [wSO_eta] at e
  exact e
theorem tr_Tp {t' : tO} (H : ∀ h Q, MT d m as (pTp 2 (SO s 2) h) Q ↔ Q r (pTp 2 t' h)) : MT d m as (pS s h) Q ↔ Q r (pS (wSO s 2 t') h) := by
  have e := H (pS s h) Q
  rw [S_O2, S_O2, wSO_eta] at e
  exact e
theorem tl_Tp (H : ∀ h Q, MT d m as (pTp 2 (SO s 2) h) Q ↔ Q r (pTp 2 (SO s 2) h)) : MT d m as (pS s h) Q ↔ Q r (pS s h) := by
  have e := tr_Tp (h := h) (Q := Q) H
  rw [wSO_eta] at e
  exact e
theorem tl_Co (H : ∀ h Q, MT d m as (pCo 234 (SO s 234) h) Q ↔ Q r (pCo 234 (SO s 234) h)) : MT d m as (pS s h) Q ↔ Q r (pS s h) := by
  have e := H (pS s h) Q
  rw [S_O234, wSO_eta] at e
  exact e
def pb (b : Nat) : Prop := b = 20 ∨ b = 272 ∨ b = 275
theorem pb20 : pb 20 := Or.inl rfl
theorem pb272 : pb 272 := Or.inr (Or.inl rfl)
theorem pb275 : pb 275 := Or.inr (Or.inr rfl)
theorem S_P {p : tP} (hb : pb b) : pP b p (pS s h) = pS (wSP s b p) h := by
  rcases hb with e | e | e <;> subst e
  · exact S_P20
  · exact S_P272
  · exact S_P275
theorem isP_S (hb : pb b) : isP (pS s h) b (SP s b) := by
  unfold isP
  rw [S_P hb, wSP_eta]
theorem tr_P {p' : tP} (hb : pb b) (H : ∀ h Q, MT d m as (pP b (SP s b) h) Q ↔ Q r (pP b p' h)) : MT d m as (pS s h) Q ↔ Q r (pS (wSP s b p') h) := by
  have e := H (pS s h) Q
  rw [S_P hb, S_P hb, wSP_eta] at e
  exact e
theorem tl_P (hb : pb b) (H : ∀ h Q, MT d m as (pP b (SP s b) h) Q ↔ Q r (pP b (SP s b) h)) : MT d m as (pS s h) Q ↔ Q r (pS s h) := by
  have e := tr_P (h := h) (Q := Q) hb H
  rw [wSP_eta] at e
  exact e
/-- a yard's plan -/
theorem S_YP {p : tP} (hb : yb b) : pP (b + 13) p (pS s h) = pS (wSY s b (uP (SY s b) p)) h := by
  have e := pY_P (a := b) (y := SY s b) (h := pS s h) (p := p)
  rw [isY_S hb, S_Y hb] at e
  exact e
theorem isP_YS (hb : yb b) : isP (pS s h) (b + 13) (yP (SY s b)) := isP_Y' (isY_S hb)
theorem tr_YP {p' : tP} (hb : yb b) (H : ∀ h Q, MT d m as (pP (b + 13) (yP (SY s b)) h) Q ↔ Q r (pP (b + 13) p' h)) : MT d m as (pS s h) Q ↔ Q r (pS (wSY s b (uP (SY s b) p')) h) := by
  have e := H (pS s h) Q
  rw [S_YP hb, S_YP hb, show uP (SY s b) (yP (SY s b)) = SY s b from rfl, wSY_eta] at e
  exact e
theorem tl_YP (hb : yb b) (H : ∀ h Q, MT d m as (pP (b + 13) (yP (SY s b)) h) Q ↔ Q r (pP (b + 13) (yP (SY s b)) h)) : MT d m as (pS s h) Q ↔ Q r (pS s h) := by
  have e := tr_YP (h := h) (Q := Q) hb H
  rw [show uP (SY s b) (yP (SY s b)) = SY s b from rfl, wSY_eta] at e
  exact e
/-- a choice's plan -/
theorem isP_CS (hb : cb b) : isP (pS s h) (b + 1) (eP (SO s b)) := by
  have e := isP_Ch (b := b) (o := SO s b) (h := pS s h)
  rw [S_Ch hb, wSO_eta] at e
  exact e
/-- a yard is copied to another -/
theorem S_copyY (ha : yb a) (hb : yb b) (hn : a ≠ b) : MT (d + 2) 65 [.ref a, .ref b] (pS s h) Q ↔ Q none (pS (wSY s a (cpY (SY s a) (SY s b))) h) := by
  have e := m_copyY (d := d) (a := a) (b := b) (y := SY s a) (z := SY s b) (h := pS s h) (Q := Q) (isY_S hb) (yb_d ha hb hn)
  rw [S_Y ha, S_Y ha, wSY_eta] at e
  exact e
/-- a plan is copied to a yard's plan -/
theorem S_copyP {c : Nat} {q : tP} (ha : yb a) (hq : isP (pS s h) c q) (hd : a + 16 ≤ c ∨ c + 3 ≤ a) : MT (d + 1) 20 [.ref (a + 13), .ref c] (pS s h) Q ↔ Q none (pS (wSY s a (uP (SY s a) q)) h) := by
  have e := m_copyP (d := d) (b := a + 13) (c := c) (p := yP (SY s a)) (q := q) (h := pS s h) (Q := Q) hq (by omega)
  rw [S_YP ha, S_YP ha, show uP (SY s a) (yP (SY s a)) = SY s a from rfl, wSY_eta] at e
  exact e
/-- the course of a yard -/
theorem S_record (ha : yb a) (hy : okY (SY s a)) : MT (d + 3) 10 [.ref 234, .ref a] (pS s h) Q ↔ Q none (pS (wSO (wSY s a (endY (SY s a) (SO s 234))) 234 (rcY (SY s a) (SO s 234))) h) := by
  have hd : 234 + 5 ≤ a ∨ a + 16 ≤ 234 := by
    rcases ha with e | e | e | e | e | e | ⟨j, hj, e⟩ <;> omega
  have e := m_record (d := d) (a := a) (b := 234) (c := SO s 234) (y := SY s a) (h := pS s h) (Q := Q) hy hd
  rw [S_Y ha, S_Y ha, wSY_eta, S_O234, S_O234, wSO_eta] at e
  exact e
end CA
