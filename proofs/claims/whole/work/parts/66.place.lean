/-! where a task is told; a task out of a list, and in -/
def idxN (t : Nat) : List Nat → Nat
  | [] => 0
  | u :: l => if u = t then 0 else idxN t l + 1
theorem idx_lt {t : Nat} : ∀ {l : List Nat}, t ∈ l → idxN t l < l.length
  | u :: l, h => by
    rw [idxN]
    by_cases e : u = t
    · rw [if_pos e]; exact Nat.succ_pos _
    · rw [if_neg e]
      rcases List.mem_cons.mp h with q | q
      · exact absurd q.symm e
      · exact Nat.succ_lt_succ (idx_lt q)
theorem idx_at {t : Nat} : ∀ {l : List Nat}, t ∈ l → l.getD (idxN t l) 0 = t
  | u :: l, h => by
    rw [idxN]
    by_cases e : u = t
    · rw [if_pos e]; exact e
    · rw [if_neg e]
      rcases List.mem_cons.mp h with q | q
      · exact absurd q.symm e
      · exact idx_at q
def holdN (l : tL) (t : Nat) : Option Nat := (List.range 4).find? (fun c => decide (t ∈ l c))
def spotN (l : tL) (t : Nat) : Option Nat := (holdN l t).map (fun c => idxN t (l c))
theorem hold_some {l : tL} {t c : Nat} (h : holdN l t = some c) : c < 4 ∧ t ∈ l c := by
  have h1 := List.mem_of_find?_eq_some h
  have h2 := List.find?_some h
  exact ⟨List.mem_range.mp h1, by simpa using h2⟩
theorem hold_none {l : tL} {t : Nat} (h : holdN l t = none) {c : Nat} (hc : c < 4) : ¬ t ∈ l c := by
  have := List.find?_eq_none.mp h c (List.mem_range.mpr hc)
  simpa using this
theorem hold_of {l : tL} {t c : Nat} (hd : ∀ c c' t, t ∈ l c → t ∈ l c' → c = c') (hc : c < 4) (h : t ∈ l c) : holdN l t = some c := by
  cases e : holdN l t with
  | none => exact absurd h (hold_none e hc)
  | some q => rw [hd q c t (hold_some e).2 h]
section PLC
variable {p : tP} {l : tL} {t : Nat}
theorem fndIn_rel (hp : RP p l) {c : Nat} (hc : c < 4) (hl : ∀ c t, t ∈ l c → t < 31) (ht : t < 31) : ∀ m j, j + m = (l c).length → fndIn p (nI t) c j m = if t ∈ (l c).drop j then some (c * 8 + (j + idxN t ((l c).drop j))) else none
  | 0, j, hj => by
    rw [List.drop_of_length_le (by omega), if_neg (by simp)]
    rfl
  | m + 1, j, hj => by
    have hj' : j < (l c).length := by omega
    have e := fndIn_rel hp hc hl ht m (j + 1) (by omega)
    have e1 := (hp c hc).2 j hj'
    have hm := hl c _ (getD_mem hj')
    have hdr := List.drop_eq_getElem_cons hj'
    rw [← getD_of hj'] at hdr
    unfold fndIn at e ⊢
    rw [sfrom, e1, hdr, idxN]
    by_cases q : (l c).getD j 0 = t
    · rw [if_pos (by rw [q]), if_pos (by rw [q]; exact List.mem_cons_self), if_pos q]
      rfl
    · rw [if_neg (fun z => q ((nI_eq (by omega) (by omega)).mp z)), if_neg q]
      show sfrom _ (j + 1) m = _
      rw [e]
      by_cases r : t ∈ (l c).drop (j + 1)
      · rw [if_pos r, if_pos (List.mem_cons_of_mem _ r)]
        congr 1
        omega
      · rw [if_neg r, if_neg (fun z => by rcases List.mem_cons.mp z with z | z; exact q z.symm; exact r z)]
theorem fnd_rel (hp : RP p l) (hl : ∀ c t, t ∈ l c → t < 31) (ht : t < 31) : fnd p (nI t) = (holdN l t).map (fun c => c * 8 + idxN t (l c)) := by
  have e : ∀ c, c < 4 → fndIn p (nI t) c 0 (p.2 c) = if t ∈ l c then some (c * 8 + idxN t (l c)) else none := fun c hc => by
    rw [(hp c hc).1, fndIn_rel hp hc hl ht _ 0 (Nat.zero_add _), List.drop_zero, Nat.zero_add]
  unfold fnd holdN
  rw [sfrom, sfrom, sfrom, sfrom, sfrom, e 0 (by decide), e 1 (by decide), e 2 (by decide), e 3 (by decide)]
  rw [show List.range 4 = [0, 1, 2, 3] from rfl]
  simp only [List.find?_cons, List.find?_nil]
  by_cases h0 : t ∈ l 0
  · simp [h0]
  · by_cases h1 : t ∈ l 1
    · simp [h0, h1]
    · by_cases h2 : t ∈ l 2
      · simp [h0, h1, h2]
      · by_cases h3 : t ∈ l 3
        · simp [h0, h1, h2, h3]
        · simp [h0, h1, h2, h3]
theorem hold_rel (hp : RP p l) (hl : ∀ c t, t ∈ l c → t < 31) (h8 : ∀ c, (l c).length ≤ 8) (ht : t < 31) : holdP p (nI t) = oI1 (holdN l t) := by
  unfold holdP
  rw [fnd_rel hp hl ht]
  cases e : holdN l t with
  | none => rfl
  | some c =>
    have := idx_lt (hold_some e).2
    have := h8 c
    show nI ((c * 8 + idxN t (l c)) / 8) = nI c
    congr 1
    omega
theorem spot_rel (hp : RP p l) (hl : ∀ c t, t ∈ l c → t < 31) (h8 : ∀ c, (l c).length ≤ 8) (ht : t < 31) : spotP p (nI t) = oI1 (spotN l t) := by
  unfold spotP spotN
  rw [fnd_rel hp hl ht]
  cases e : holdN l t with
  | none => rfl
  | some c =>
    have := idx_lt (hold_some e).2
    have := h8 c
    show nI ((c * 8 + idxN t (l c)) % 8) = nI (idxN t (l c))
    congr 1
    omega
/-- out of its list -/
def rmvL (l : tL) (c t : Nat) : tL := fun q => if q = c then (l c).erase t else l q
theorem erase_getD {t : Nat} : ∀ {l : List Nat} (k : Nat), t ∈ l → (l.erase t).getD k 0 = if k < idxN t l then l.getD k 0 else l.getD (k + 1) 0
  | u :: l, k, h => by
    rw [idxN, List.erase_cons]
    by_cases e : u = t
    · rw [if_pos e, if_pos (by simpa using e), if_neg (Nat.not_lt_zero _)]
      rfl
    · rw [if_neg e, if_neg (by simpa using e)]
      have h' : t ∈ l := by
        rcases List.mem_cons.mp h with q | q
        · exact absurd q.symm e
        · exact q
      match k with
      | 0 => rw [if_pos (Nat.succ_pos _)]; rfl
      | k + 1 =>
        show (l.erase t).getD k 0 = _
        rw [erase_getD k h']
        by_cases q : k < idxN t l
        · rw [if_pos q, if_pos (by omega)]; rfl
        · rw [if_neg q, if_neg (by omega)]; rfl
theorem RP_rmv {c : Nat} (hp : RP p l) (hc : c < 4) (ht : t ∈ l c) (h8 : ∀ q, (l q).length ≤ 8) : RP (rmvP p c (idxN t (l c))) (rmvL l c t) := by
  have hlt := idx_lt ht
  have hpc := (hp c hc).1
  have hlen : ((l c).erase t).length = (l c).length - 1 := List.length_erase_of_mem ht
  intro q hq
  obtain ⟨h1, h2⟩ := hp q hq
  show (if q = c then p.2 c - 1 else p.2 q) = (if q = c then (l c).erase t else l q).length ∧ ∀ k, k < (if q = c then (l c).erase t else l q).length → shD p.1 (c * 8) (idxN t (l c)) (p.2 c - 1) (q * 8 + k) = nI ((if q = c then (l c).erase t else l q).getD k 0)
  by_cases e : q = c
  · rw [if_pos e, if_pos e, hlen]
    subst e
    refine ⟨by omega, fun k hk => ?_⟩
    rw [erase_getD k ht]
    unfold shD
    by_cases a : k < idxN t (l q)
    · rw [if_pos a, if_neg (by omega), h2 k (by omega)]
    · rw [if_neg a, if_pos (by omega), show q * 8 + k + 1 = q * 8 + (k + 1) by omega, h2 (k + 1) (by omega)]
  · rw [if_neg e, if_neg e]
    refine ⟨h1, fun k hk => ?_⟩
    have := h8 q
    have := h8 c
    unfold shD
    rw [if_neg (by omega), h2 k hk]
/-- into a list, at a place -/
def insL (l : List Nat) (j t : Nat) : List Nat := l.take j ++ t :: l.drop j
def putL (l : tL) (c j t : Nat) : tL := fun q => if q = c then insL (l c) j t else l q
theorem ins_len {l : List Nat} {j : Nat} (hj : j ≤ l.length) : (insL l j t).length = l.length + 1 := by
  unfold insL
  rw [List.length_append, List.length_cons, List.length_take, List.length_drop]
  omega
theorem ins_getD {l : List Nat} {j k : Nat} (hj : j ≤ l.length) : (insL l j t).getD k 0 = if k < j then l.getD k 0 else if k = j then t else l.getD (k - 1) 0 := by
  unfold insL
  have e : (l.take j).length = j := by rw [List.length_take]; omega
  have e2 := getD_ins (A := l.take j) (D := l.drop j) (t := t) (j := k)
  rw [e, List.take_append_drop] at e2
  exact e2
theorem ins_mem {l : List Nat} {j u : Nat} : u ∈ insL l j t ↔ u = t ∨ u ∈ l := by
  unfold insL
  rw [List.mem_append, List.mem_cons]
  have : u ∈ l ↔ u ∈ l.take j ∨ u ∈ l.drop j := by rw [← List.mem_append, List.take_append_drop]
  rw [this]
  constructor
  · rintro (h | h | h)
    · exact Or.inr (Or.inl h)
    · exact Or.inl h
    · exact Or.inr (Or.inr h)
  · rintro (h | h | h)
    · exact Or.inr (Or.inl h)
    · exact Or.inl h
    · exact Or.inr (Or.inr h)
theorem ins_nodup {l : List Nat} {j : Nat} (hn : l.Nodup) (ht : ¬ t ∈ l) : (insL l j t).Nodup := by
  unfold insL
  have h1 : (l.take j ++ l.drop j).Nodup := by rw [List.take_append_drop]; exact hn
  rw [List.nodup_append] at h1 ⊢
  obtain ⟨a, b, c⟩ := h1
  refine ⟨a, List.nodup_cons.mpr ⟨fun q => ht (List.mem_of_mem_drop q), b⟩, fun x hx y hy => ?_⟩
  rcases List.mem_cons.mp hy with e | e
  · rw [e]; exact fun q => ht (q ▸ List.mem_of_mem_take hx)
  · exact c x hx y e
theorem RP_put {c j : Nat} (hp : RP p l) (hc : c < 4) (hj : j ≤ (l c).length) (h7 : (l c).length < 8) (h8 : ∀ q, (l q).length ≤ 8) : RP (insP p c j (nI t)) (putL l c j t) := by
  have hpc := (hp c hc).1
  intro q hq
  obtain ⟨h1, h2⟩ := hp q hq
  show (if q = c then p.2 c + 1 else p.2 q) = (if q = c then insL (l c) j t else l q).length ∧ ∀ k, k < (if q = c then insL (l c) j t else l q).length → upd (shU p.1 (c * 8) j (p.2 c)) (c * 8 + j) (nI t) (q * 8 + k) = nI ((if q = c then insL (l c) j t else l q).getD k 0)
  by_cases e : q = c
  · rw [if_pos e, if_pos e, ins_len hj]
    subst e
    refine ⟨by omega, fun k hk => ?_⟩
    rw [ins_getD hj]
    show (if q * 8 + k = q * 8 + j then nI t else shU p.1 (q * 8) j (p.2 q) (q * 8 + k)) = _
    unfold shU
    by_cases a : k < j
    · rw [if_pos a, if_neg (by omega), if_neg (by omega), h2 k (by omega)]
    · rw [if_neg a]
      by_cases b : k = j
      · rw [if_pos b, if_pos (by omega)]
      · rw [if_neg b, if_neg (by omega), if_pos (by omega), show q * 8 + k - 1 = q * 8 + (k - 1) by omega, h2 (k - 1) (by omega)]
  · rw [if_neg e, if_neg e]
    refine ⟨h1, fun k hk => ?_⟩
    have := h8 q
    show (if q * 8 + k = c * 8 + j then nI t else shU p.1 (c * 8) j (p.2 c) (q * 8 + k)) = _
    unfold shU
    rw [if_neg (by omega), if_neg (by omega), h2 k hk]
end PLC
/-! BETTER's plans -/
def restN (n : tN) (w t : Nat) : tL := rmvL (nL n) w t
def putN (n : tN) (w t c j : Nat) : tL := putL (restN n w t) c j t
theorem wf_rest {n : tN} (hL : wfL n) {w t : Nat} (hw : t ∈ nL n w) : wfL (jL n (restN n w t)) ∧ ∀ q, ¬ t ∈ restN n w t q := by
  obtain ⟨h1, h2, h3⟩ := hL
  have sub : ∀ q u, u ∈ restN n w t q → u ∈ nL n q := fun q u hu => by
    have hu : u ∈ if q = w then (nL n w).erase t else nL n q := hu
    by_cases e : q = w
    · rw [if_pos e] at hu; rw [e]; exact List.mem_of_mem_erase hu
    · rw [if_neg e] at hu; exact hu
  refine ⟨⟨fun q hq => ?_, fun q => ⟨?_, fun u hu => (h2 q).2 u (sub q u hu)⟩, fun q q' u a b => h3 q q' u (sub q u a) (sub q' u b)⟩, fun q hu => ?_⟩
  · cases hx : restN n w t q with
    | nil => exact hx
    | cons u r =>
      have := sub q u (by rw [hx]; exact List.mem_cons_self)
      rw [h1 q hq] at this
      cases this
  · show (if q = w then (nL n w).erase t else nL n q).Nodup
    by_cases e : q = w
    · rw [if_pos e]; exact (h2 w).1.erase t
    · rw [if_neg e]; exact (h2 q).1
  · have hq := h3 q w t (sub q t hu) hw
    subst hq
    have hu : t ∈ if q = q then (nL n q).erase t else nL n q := hu
    rw [if_pos rfl] at hu
    exact absurd rfl (((h2 q).1.mem_erase_iff).mp hu).1
theorem wf_put {n : tN} {l : tL} (hL : wfL (jL n l)) {c j t : Nat} (hc : c < nF n 2) (ht : t < nF n 3) (hf : ∀ q, ¬ t ∈ l q) : wfL (jL n (putL l c j t)) := by
  obtain ⟨h1, h2, h3⟩ := hL
  have mem : ∀ q u, u ∈ putL l c j t q ↔ u ∈ l q ∨ (q = c ∧ u = t) := fun q u => by
    show u ∈ (if q = c then insL (l c) j t else l q) ↔ _
    by_cases e : q = c
    · rw [if_pos e, ins_mem, e]
      constructor
      · rintro (h | h)
        · exact Or.inr ⟨rfl, h⟩
        · exact Or.inl h
      · rintro (h | ⟨-, h⟩)
        · exact Or.inr h
        · exact Or.inl h
    · rw [if_neg e]
      constructor
      · exact Or.inl
      · rintro (h | ⟨h, -⟩)
        · exact h
        · exact absurd h e
  refine ⟨fun q hq => ?_, fun q => ⟨?_, fun u hu => ?_⟩, fun q q' u a b => ?_⟩
  · have hq : nF n 2 ≤ q := hq
    show (if q = c then insL (l c) j t else l q) = []
    rw [if_neg (by omega)]; exact h1 q hq
  · show (if q = c then insL (l c) j t else l q).Nodup
    by_cases e : q = c
    · rw [if_pos e]; exact ins_nodup (h2 c).1 (hf c)
    · rw [if_neg e]; exact (h2 q).1
  · rcases (mem q u).mp hu with e | ⟨-, e⟩
    · exact (h2 q).2 u e
    · rw [e]; exact ht
  · rcases (mem q u).mp a with e | ⟨e1, e2⟩ <;> rcases (mem q' u).mp b with f | ⟨f1, f2⟩
    · exact h3 q q' u e f
    · rw [f2] at e; exact absurd e (hf q)
    · rw [e2] at f; exact absurd f (hf q')
    · omega
abbrev tB : Type := Nat × Option (Nat × tL × Nat)
def wbN (n : tN) (g : tB) (x : Nat × tL) : tB := match lastK g.1 (jL n x.2) with
  | some m => (m, some (m, x.2, x.1))
  | none => g
def pickB (n : tN) (ps : List (Nat × tL)) (g : tB) : tB := ps.foldl (wbN n) g
theorem pickB_app {n : tN} {ps qs : List (Nat × tL)} {g : tB} : pickB n (ps ++ qs) g = pickB n qs (pickB n ps g) := List.foldl_append
def atC (n : tN) (w t c : Nat) : List (Nat × tL) := if !nK n c && nLift n c t then (List.range ((restN n w t c).length + 1)).map (fun j => (t, putN n w t c j)) else []
def atT (n : tN) (t : Nat) : List (Nat × tL) := if nDone n t then [] else match holdN (nL n) t with
  | some w => (List.range (nF n 2)).flatMap (atC n w t)
  | none => []
def betterN (n : tN) : tB := pickB n ((List.range (nF n 3)).flatMap (atT n)) ((match lastN 300 n with | some m => m | none => 301), none)
/-- what was found is a plan of those, with the task where it was put -/
theorem pickB_from {n : tN} : ∀ {ps : List (Nat × tL)} {g : tB}, pickB n ps g = g ∨ ∃ x m, x ∈ ps ∧ isLast (jL n x.2) m ∧ pickB n ps g = (m, some (m, x.2, x.1)) ∧ m < g.1
  | [], g => Or.inl rfl
  | p :: ps, g => by
    have e : pickB n (p :: ps) g = pickB n ps (wbN n g p) := rfl
    rw [e]
    cases hw : lastK g.1 (jL n p.2) with
    | none =>
      have e2 : wbN n g p = g := by unfold wbN; rw [hw]
      rw [e2]
      rcases pickB_from (n := n) (ps := ps) (g := g) with h | ⟨l, m, h1, h2, h3, h4⟩
      · exact Or.inl h
      · exact Or.inr ⟨l, m, List.mem_cons_of_mem _ h1, h2, h3, h4⟩
    | some v =>
      have e2 : wbN n g p = (v, some (v, p.2, p.1)) := by unfold wbN; rw [hw]
      obtain ⟨a1, a2⟩ := lastK_iff.mp hw
      rw [e2]
      rcases pickB_from (n := n) (ps := ps) (g := (v, some (v, p.2, p.1))) with h | ⟨l, m, h1, h2, h3, h4⟩
      · exact Or.inr ⟨p, v, List.mem_cons_self, a2, h, a1⟩
      · exact Or.inr ⟨l, m, List.mem_cons_of_mem _ h1, h2, h3, Nat.lt_trans h4 a1⟩
