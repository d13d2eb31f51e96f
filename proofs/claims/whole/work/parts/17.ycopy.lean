/-! Yard: a copy -/
section YZ
variable {a b d : Nat} {y z : tY} {h : sH} {k : sK} {Q : sQ} {i x : Int32}
theorem Z_g0 {f : Value → Prop} (hz : isY h b z) (hd : a + 16 ≤ b ∨ b + 16 ≤ a) : fG (pY a y h) b 7 0 f ↔ f (.int (yB z 0)) := Y'_g0 (isY_o hz hd)
theorem Z_g1 {f : Value → Prop} (hz : isY h b z) (hd : a + 16 ≤ b ∨ b + 16 ≤ a) : fG (pY a y h) b 7 1 f ↔ f (.int (yB z 1)) := Y'_g1 (isY_o hz hd)
theorem Z_g2 {f : Value → Prop} (hz : isY h b z) (hd : a + 16 ≤ b ∨ b + 16 ≤ a) : fG (pY a y h) b 7 2 f ↔ f (.int (nI (yC z))) := Y'_g2 (isY_o hz hd)
theorem Z_g3 {f : Value → Prop} (hz : isY h b z) (hd : a + 16 ≤ b ∨ b + 16 ≤ a) : fG (pY a y h) b 7 3 f ↔ f (.int (nI (yT z))) := Y'_g3 (isY_o hz hd)
theorem Z_g4 {f : Value → Prop} (hz : isY h b z) (hd : a + 16 ≤ b ∨ b + 16 ≤ a) : fG (pY a y h) b 7 4 f ↔ f (.int (yB z 4)) := Y'_g4 (isY_o hz hd)
theorem Z_g5 {f : Value → Prop} (hz : isY h b z) (hd : a + 16 ≤ b ∨ b + 16 ≤ a) : fG (pY a y h) b 7 5 f ↔ f (.int (yB z 5)) := Y'_g5 (isY_o hz hd)
theorem Z_g6 {f : Value → Prop} (hz : isY h b z) (hd : a + 16 ≤ b ∨ b + 16 ≤ a) : fG (pY a y h) b 7 6 f ↔ f (.int (yB z 6)) := Y'_g6 (isY_o hz hd)
theorem Z_g7 {f : Value → Prop} (hz : isY h b z) (hd : a + 16 ≤ b ∨ b + 16 ≤ a) : fG (pY a y h) b 7 7 f ↔ f (.ref (b + 1)) := Y'_g7 (isY_o hz hd)
theorem Z_g8 {f : Value → Prop} (hz : isY h b z) (hd : a + 16 ≤ b ∨ b + 16 ≤ a) : fG (pY a y h) b 7 8 f ↔ f (.ref (b + 2)) := Y'_g8 (isY_o hz hd)
theorem Z_g9 {f : Value → Prop} (hz : isY h b z) (hd : a + 16 ≤ b ∨ b + 16 ≤ a) : fG (pY a y h) b 7 9 f ↔ f (.ref (b + 3)) := Y'_g9 (isY_o hz hd)
theorem Z_g10 {f : Value → Prop} (hz : isY h b z) (hd : a + 16 ≤ b ∨ b + 16 ≤ a) : fG (pY a y h) b 7 10 f ↔ f (.ref (b + 4)) := Y'_g10 (isY_o hz hd)
theorem Z_g11 {f : Value → Prop} (hz : isY h b z) (hd : a + 16 ≤ b ∨ b + 16 ≤ a) : fG (pY a y h) b 7 11 f ↔ f (.ref (b + 5)) := Y'_g11 (isY_o hz hd)
theorem Z_g12 {f : Value → Prop} (hz : isY h b z) (hd : a + 16 ≤ b ∨ b + 16 ≤ a) : fG (pY a y h) b 7 12 f ↔ f (.ref (b + 6)) := Y'_g12 (isY_o hz hd)
theorem Z_g13 {f : Value → Prop} (hz : isY h b z) (hd : a + 16 ≤ b ∨ b + 16 ≤ a) : fG (pY a y h) b 7 13 f ↔ f (.ref (b + 7)) := Y'_g13 (isY_o hz hd)
theorem Z_g14 {f : Value → Prop} (hz : isY h b z) (hd : a + 16 ≤ b ∨ b + 16 ≤ a) : fG (pY a y h) b 7 14 f ↔ f (.ref (b + 8)) := Y'_g14 (isY_o hz hd)
theorem Z_g15 {f : Value → Prop} (hz : isY h b z) (hd : a + 16 ≤ b ∨ b + 16 ≤ a) : fG (pY a y h) b 7 15 f ↔ f (.ref (b + 9)) := Y'_g15 (isY_o hz hd)
theorem Z_g16 {f : Value → Prop} (hz : isY h b z) (hd : a + 16 ≤ b ∨ b + 16 ≤ a) : fG (pY a y h) b 7 16 f ↔ f (.ref (b + 10)) := Y'_g16 (isY_o hz hd)
theorem Z_g17 {f : Value → Prop} (hz : isY h b z) (hd : a + 16 ≤ b ∨ b + 16 ≤ a) : fG (pY a y h) b 7 17 f ↔ f (.ref (b + 11)) := Y'_g17 (isY_o hz hd)
theorem Z_g18 {f : Value → Prop} (hz : isY h b z) (hd : a + 16 ≤ b ∨ b + 16 ≤ a) : fG (pY a y h) b 7 18 f ↔ f (.ref (b + 12)) := Y'_g18 (isY_o hz hd)
theorem Z_g19 {f : Value → Prop} (hz : isY h b z) (hd : a + 16 ≤ b ∨ b + 16 ≤ a) : fG (pY a y h) b 7 19 f ↔ f (.ref (b + 13)) := Y'_g19 (isY_o hz hd)
theorem Z_a7 {f : Int32 → Prop} (hz : isY h b z) (hd : a + 16 ≤ b ∨ b + 16 ≤ a) : aG (pY a y h) (b + 1) i f ↔ vp_in i 4 ∧ f (yA z 7 i.toNatClampNeg) := Y'_a7 (isY_o hz hd)
theorem Z_a8 {f : Int32 → Prop} (hz : isY h b z) (hd : a + 16 ≤ b ∨ b + 16 ≤ a) : aG (pY a y h) (b + 2) i f ↔ vp_in i 4 ∧ f (yA z 8 i.toNatClampNeg) := Y'_a8 (isY_o hz hd)
theorem Z_a10 {f : Int32 → Prop} (hz : isY h b z) (hd : a + 16 ≤ b ∨ b + 16 ≤ a) : aG (pY a y h) (b + 4) i f ↔ vp_in i 4 ∧ f (yA z 10 i.toNatClampNeg) := Y'_a10 (isY_o hz hd)
theorem Z_a11 {f : Int32 → Prop} (hz : isY h b z) (hd : a + 16 ≤ b ∨ b + 16 ≤ a) : aG (pY a y h) (b + 5) i f ↔ vp_in i 4 ∧ f (yA z 11 i.toNatClampNeg) := Y'_a11 (isY_o hz hd)
theorem Z_a12 {f : Int32 → Prop} (hz : isY h b z) (hd : a + 16 ≤ b ∨ b + 16 ≤ a) : aG (pY a y h) (b + 6) i f ↔ vp_in i 8 ∧ f (yA z 12 i.toNatClampNeg) := Y'_a12 (isY_o hz hd)
theorem Z_a13 {f : Int32 → Prop} (hz : isY h b z) (hd : a + 16 ≤ b ∨ b + 16 ≤ a) : aG (pY a y h) (b + 7) i f ↔ vp_in i 8 ∧ f (yA z 13 i.toNatClampNeg) := Y'_a13 (isY_o hz hd)
theorem Z_a14 {f : Int32 → Prop} (hz : isY h b z) (hd : a + 16 ≤ b ∨ b + 16 ≤ a) : aG (pY a y h) (b + 8) i f ↔ vp_in i 8 ∧ f (yA z 14 i.toNatClampNeg) := Y'_a14 (isY_o hz hd)
theorem Z_a15 {f : Int32 → Prop} (hz : isY h b z) (hd : a + 16 ≤ b ∨ b + 16 ≤ a) : aG (pY a y h) (b + 9) i f ↔ vp_in i 8 ∧ f (yA z 15 i.toNatClampNeg) := Y'_a15 (isY_o hz hd)
theorem Z_a16 {f : Int32 → Prop} (hz : isY h b z) (hd : a + 16 ≤ b ∨ b + 16 ≤ a) : aG (pY a y h) (b + 10) i f ↔ vp_in i 8 ∧ f (yA z 16 i.toNatClampNeg) := Y'_a16 (isY_o hz hd)
theorem Z_a17 {f : Int32 → Prop} (hz : isY h b z) (hd : a + 16 ≤ b ∨ b + 16 ≤ a) : aG (pY a y h) (b + 11) i f ↔ vp_in i 8 ∧ f (yA z 17 i.toNatClampNeg) := Y'_a17 (isY_o hz hd)
theorem Z_a18 {f : Int32 → Prop} (hz : isY h b z) (hd : a + 16 ≤ b ∨ b + 16 ≤ a) : aG (pY a y h) (b + 12) i f ↔ vp_in i 8 ∧ f (yA z 18 i.toNatClampNeg) := Y'_a18 (isY_o hz hd)
theorem Z_sw {f : UInt32 → Prop} (hz : isY h b z) (hd : a + 16 ≤ b ∨ b + 16 ≤ a) : sG' (pY a y h) (b + 3) i f ↔ vp_in i 4 ∧ f (yW z i.toNatClampNeg) := Y'_sw (isY_o hz hd)
def cA (y z : tY) (i j : Nat) : Nat → Nat → Int32 := fun k => if k = 7 ∨ k = 8 then fil i (yA z k) (yA y k) else if 12 ≤ k then fil j (yA z k) (yA y k) else yA y k
def c1 (y z : tY) (i j : Nat) : tY := (z.1, z.2.1, cA y z i j, fil i (yW z) (yW y), yP y)
theorem cA7 {i j : Nat} : yA (c1 y z i j) 7 = fil i (yA z 7) (yA y 7) := rfl
theorem cA8 {i j : Nat} : yA (c1 y z i j) 8 = fil i (yA z 8) (yA y 8) := rfl
theorem cA12 {i j : Nat} : yA (c1 y z i j) 12 = fil j (yA z 12) (yA y 12) := rfl
theorem cA13 {i j : Nat} : yA (c1 y z i j) 13 = fil j (yA z 13) (yA y 13) := rfl
theorem cA14 {i j : Nat} : yA (c1 y z i j) 14 = fil j (yA z 14) (yA y 14) := rfl
theorem cA15 {i j : Nat} : yA (c1 y z i j) 15 = fil j (yA z 15) (yA y 15) := rfl
theorem cA16 {i j : Nat} : yA (c1 y z i j) 16 = fil j (yA z 16) (yA y 16) := rfl
theorem cA17 {i j : Nat} : yA (c1 y z i j) 17 = fil j (yA z 17) (yA y 17) := rfl
theorem cA18 {i j : Nat} : yA (c1 y z i j) 18 = fil j (yA z 18) (yA y 18) := rfl
theorem cAW {i j : Nat} : yW (c1 y z i j) = fil i (yW z) (yW y) := rfl
theorem c1_s {i j : Nat} : uW (uA (uA (c1 y z i j) 7 (fil (i + 1) (yA z 7) (yA y 7))) 8 (fil (i + 1) (yA z 8) (yA y 8))) (fil (i + 1) (yW z) (yW y)) = c1 y z (i + 1) j := by
  unfold uW uA c1
  refine Prod.ext rfl (Prod.ext rfl (Prod.ext (funext fun q => ?_) rfl))
  show (if q = 8 then _ else if q = 7 then _ else cA y z i j q) = cA y z (i + 1) j q
  unfold cA
  by_cases h8 : q = 8
  · subst h8; simp
  · by_cases h7 : q = 7
    · subst h7; simp
    · simp [h7, h8]
theorem c1_t {i j : Nat} : uA (uA (uA (uA (uA (uA (uA (c1 y z i j) 12 (fil (j + 1) (yA z 12) (yA y 12))) 13 (fil (j + 1) (yA z 13) (yA y 13))) 14 (fil (j + 1) (yA z 14) (yA y 14))) 15 (fil (j + 1) (yA z 15) (yA y 15))) 16 (fil (j + 1) (yA z 16) (yA y 16))) 17 (fil (j + 1) (yA z 17) (yA y 17))) 18 (fil (j + 1) (yA z 18) (yA y 18)) = (z.1, z.2.1, fun q => if 12 ≤ q ∧ q ≤ 18 then fil (j + 1) (yA z q) (yA y q) else cA y z i j q, fil i (yW z) (yW y), yP y) := by
  unfold uA c1
  refine Prod.ext rfl (Prod.ext rfl (Prod.ext (funext fun q => ?_) rfl))
  show (if q = 18 then _ else if q = 17 then _ else if q = 16 then _ else if q = 15 then _ else if q = 14 then _ else if q = 13 then _ else if q = 12 then _ else cA y z i j q) = if 12 ≤ q ∧ q ≤ 18 then fil (j + 1) (yA z q) (yA y q) else cA y z i j q
  by_cases hq : 12 ≤ q ∧ q ≤ 18
  · have : q = 12 ∨ q = 13 ∨ q = 14 ∨ q = 15 ∨ q = 16 ∨ q = 17 ∨ q = 18 := by omega
    rcases this with e | e | e | e | e | e | e <;> subst e <;> simp
  · rw [if_neg hq, if_neg (by omega), if_neg (by omega), if_neg (by omega), if_neg (by omega), if_neg (by omega), if_neg (by omega), if_neg (by omega)]
theorem c1_u {i j : Nat} : pY a (uA (uA (uA (uA (uA (uA (uA (c1 y z i j) 12 (fil (j + 1) (yA z 12) (yA y 12))) 13 (fil (j + 1) (yA z 13) (yA y 13))) 14 (fil (j + 1) (yA z 14) (yA y 14))) 15 (fil (j + 1) (yA z 15) (yA y 15))) 16 (fil (j + 1) (yA z 16) (yA y 16))) 17 (fil (j + 1) (yA z 17) (yA y 17))) 18 (fil (j + 1) (yA z 18) (yA y 18))) h = pY a (c1 y z i (j + 1)) h := by
  rw [c1_t]
  refine pY_eq ⟨fun k _ => rfl, rfl, rfl, fun k j' hk hj => ?_, fun k j' hk hk2 hj => ?_, fun j' hj => rfl, fun j' hj => rfl, fun j' hj => rfl⟩
  · show (if 12 ≤ k ∧ k ≤ 18 then _ else cA y z i j k) j' = cA y z i (j + 1) k j'
    rw [if_neg (by omega)]
    unfold cA
    rw [if_neg (show ¬ 12 ≤ k by omega), if_neg (show ¬ 12 ≤ k by omega)]
  · show (if 12 ≤ k ∧ k ≤ 18 then _ else cA y z i j k) j' = cA y z i (j + 1) k j'
    rw [if_pos (by omega)]
    unfold cA
    rw [if_neg (by omega), if_pos hk]
def cpY (y z : tY) : tY := (z.1, z.2.1, fun k => if k = 7 ∨ k = 8 ∨ 12 ≤ k then yA z k else yA y k, yW z, yP z)
theorem c1_e : pY a (uP (c1 y z 4 8) (yP z)) h = pY a (cpY y z) h := by
  refine pY_eq ⟨fun k _ => rfl, rfl, rfl, fun k j' hk hj => ?_, fun k j' hk hk2 hj => ?_, fun j' hj => fil_in hj, fun j' hj => rfl, fun j' hj => rfl⟩
  · show cA y z 4 8 k j' = (if k = 7 ∨ k = 8 ∨ 12 ≤ k then yA z k else yA y k) j'
    unfold cA
    by_cases h1 : k = 7 ∨ k = 8
    · rw [if_pos h1, if_pos (by omega), fil_in hj]
    · rw [if_neg h1, if_neg (by omega), if_neg (by omega)]
  · show cA y z 4 8 k j' = (if k = 7 ∨ k = 8 ∨ 12 ≤ k then yA z k else yA y k) j'
    unfold cA
    rw [if_neg (by omega), if_pos hk, if_pos (by omega), fil_in hj]
theorem c1_0 : pY a (uS (uS (uS (uT (uC (uS (uS y 0 (yB z 0)) 1 (yB z 1)) (yC z)) (yT z)) 4 (yB z 4)) 5 (yB z 5)) 6 (yB z 6)) h = pY a (c1 y z 0 0) h := by
  refine pY_eq ⟨fun k hk => ?_, rfl, rfl, fun k j' hk hj => ?_, fun k j' hk hk2 hj => ?_, fun j' hj => ?_, fun j' hj => rfl, fun j' hj => rfl⟩
  · rcases hk with e | e | e | e | e <;> subst e <;> rfl
  · show yA y k j' = cA y z 0 0 k j'
    unfold cA
    rw [fil_0]
    by_cases h1 : k = 7 ∨ k = 8
    · rw [if_pos h1]
    · rw [if_neg h1]; split <;> rfl
  · show yA y k j' = cA y z 0 0 k j'
    unfold cA
    rw [fil_0]
    by_cases h1 : k = 7 ∨ k = 8
    · rw [if_pos h1]
    · rw [if_neg h1]; split <;> rfl
  · show yW y j' = fil 0 (yW z) (yW y) j'
    rw [fil_0]
theorem Y_len7 {f : Int32 → Prop} : aL (pY a y h) (a + 1) f ↔ f (nI 4) := Y_n7
theorem copyY1 (hz : isY h b z) (hd : a + 16 ≤ b ∨ b + 16 ≤ a) : ∀ n i, i + n = 4 → (WP d 65 58 [.ref a, .ref b, .int (nI i)] [] (pY a (c1 y z i 0) h) k Q ↔ WP d 65 109 [.ref a, .ref b, .int (nI 4)] [] (pY a (c1 y z 4 0) h) k Q) := by
  intro n
  induction n with
  | zero =>
    intro i hi
    have e : i = 4 := by omega
    subst e
    simp (disch := omega) only [u_65_58, u_65_59, u_65_60, u_65_63, u_65_64, gI0, gIs, gR0, gRs, gF0, gFs, st0, st_i, st_r, st_f, st_n, st_s, true_and, and_true, ↓ifLeT, ↓ifLeF, ↓ifLtT, ↓ifLtF, ↓ifEqT, ↓ifEqF, if_tt, if_ff, if_pos, if_neg, nLe, nLt, nEq, nInT, nCl, pk_mul, nI_add, Nat.reduceAdd, s_cat_nil, s_cat_i, s_cat_r, s_cat_f, s_cat_l, tl_s, tl_n, cat_i, cat_r, cat_f, nb0, nb1, nbI, if_bI, if_bIr, Nat.zero_le, Nat.reduceLeDiff, Y_g0, Y_g1, Y_g2, Y_g3, Y_g4, Y_g5, Y_g6, Y_g7, Y_g8, Y_g9, Y_g10, Y_g11, Y_g12, Y_g13, Y_g14, Y_g15, Y_g16, Y_g17, Y_g18, Y_g19, Y_n7, Y_n8, Y_n10, Y_n11, Y_n12, Y_n13, Y_n14, Y_n15, Y_n16, Y_n17, Y_n18]
  | succ n ih =>
    intro i hi
    rw [u_65_58]
    simp (disch := omega) only [u_65_59, u_65_60, u_65_63, u_65_64, u_65_67, u_65_68, u_65_71, u_65_72, u_65_73, u_65_76, u_65_77, u_65_78, u_65_79, u_65_80, u_65_83, u_65_84, u_65_85, u_65_88, u_65_89, u_65_90, u_65_91, u_65_92, u_65_95, u_65_96, u_65_97, u_65_100, u_65_101, u_65_102, u_65_103, u_65_106, gI0, gIs, gR0, gRs, gF0, gFs, st0, st_i, st_r, st_f, st_n, st_s, true_and, and_true, ↓ifLeT, ↓ifLeF, ↓ifLtT, ↓ifLtF, ↓ifEqT, ↓ifEqF, if_tt, if_ff, if_pos, if_neg, nLe, nLt, nEq, nInT, nCl, pk_mul, nI_add, Nat.reduceAdd, s_cat_nil, s_cat_i, s_cat_r, s_cat_f, s_cat_l, tl_s, tl_n, cat_i, cat_r, cat_f, nb0, nb1, nbI, if_bI, if_bIr, Nat.zero_le, Nat.reduceLeDiff, Y_g0, Y_g1, Y_g2, Y_g3, Y_g4, Y_g5, Y_g6, Y_g7, Y_g8, Y_g9, Y_g10, Y_g11, Y_g12, Y_g13, Y_g14, Y_g15, Y_g16, Y_g17, Y_g18, Y_g19, Y_n7, Y_n8, Y_n10, Y_n11, Y_n12, Y_n13, Y_n14, Y_n15, Y_n16, Y_n17, Y_n18, Z_g0 hz hd, Z_g1 hz hd, Z_g2 hz hd, Z_g3 hz hd, Z_g4 hz hd, Z_g5 hz hd, Z_g6 hz hd, Z_g7 hz hd, Z_g8 hz hd, Z_g9 hz hd, Z_g10 hz hd, Z_g11 hz hd, Z_g12 hz hd, Z_g13 hz hd, Z_g14 hz hd, Z_g15 hz hd, Z_g16 hz hd, Z_g17 hz hd, Z_g18 hz hd, Z_g19 hz hd, Z_a7 hz hd, Z_a8 hz hd, Z_a10 hz hd, Z_a11 hz hd, Z_a12 hz hd, Z_a13 hz hd, Z_a14 hz hd, Z_a15 hz hd, Z_a16 hz hd, Z_a17 hz hd, Z_a18 hz hd, Z_sw hz hd, Y_w7, Y_w8, Y_w10, Y_w11, Y_w12, Y_w13, Y_w14, Y_w15, Y_w16, Y_w17, Y_w18, Y_wsw, yC_uS, yT_uS, yW_uS, yP_uS, yB_uS, yA_uS, yC_uC, yT_uC, yW_uC, yP_uC, yB_uC, yA_uC, yC_uT, yT_uT, yW_uT, yP_uT, yB_uT, yA_uT, yC_uA, yT_uA, yW_uA, yP_uA, yB_uA, yA_uA, yC_uW, yT_uW, yW_uW, yP_uW, yB_uW, yA_uW, yC_uP, yT_uP, yW_uP, yP_uP, yB_uP, yA_uP, cA7, cA8, cAW, fil_updS, fil_updFS, reduceIte, Nat.reduceEqDiff, c1_s, ih (i + 1) (by omega)]
theorem copyY2 (hz : isY h b z) (hd : a + 16 ≤ b ∨ b + 16 ≤ a) : ∀ n i, i + n = 8 → (WP d 65 111 [.ref a, .ref b, .int (nI i)] [] (pY a (c1 y z 4 i) h) k Q ↔ WP d 65 210 [.ref a, .ref b, .int (nI 8)] [] (pY a (c1 y z 4 8) h) k Q) := by
  intro n
  induction n with
  | zero =>
    intro i hi
    have e : i = 8 := by omega
    subst e
    simp (disch := omega) only [u_65_111, u_65_112, u_65_113, u_65_116, u_65_117, gI0, gIs, gR0, gRs, gF0, gFs, st0, st_i, st_r, st_f, st_n, st_s, true_and, and_true, ↓ifLeT, ↓ifLeF, ↓ifLtT, ↓ifLtF, ↓ifEqT, ↓ifEqF, if_tt, if_ff, if_pos, if_neg, nLe, nLt, nEq, nInT, nCl, pk_mul, nI_add, Nat.reduceAdd, s_cat_nil, s_cat_i, s_cat_r, s_cat_f, s_cat_l, tl_s, tl_n, cat_i, cat_r, cat_f, nb0, nb1, nbI, if_bI, if_bIr, Nat.zero_le, Nat.reduceLeDiff, Y_g0, Y_g1, Y_g2, Y_g3, Y_g4, Y_g5, Y_g6, Y_g7, Y_g8, Y_g9, Y_g10, Y_g11, Y_g12, Y_g13, Y_g14, Y_g15, Y_g16, Y_g17, Y_g18, Y_g19, Y_n7, Y_n8, Y_n10, Y_n11, Y_n12, Y_n13, Y_n14, Y_n15, Y_n16, Y_n17, Y_n18]
  | succ n ih =>
    intro i hi
    rw [u_65_111]
    simp (disch := omega) only [u_65_112, u_65_113, u_65_116, u_65_117, u_65_120, u_65_121, u_65_124, u_65_125, u_65_126, u_65_129, u_65_130, u_65_131, u_65_132, u_65_133, u_65_136, u_65_137, u_65_138, u_65_141, u_65_142, u_65_143, u_65_144, u_65_145, u_65_148, u_65_149, u_65_150, u_65_153, u_65_154, u_65_155, u_65_156, u_65_157, u_65_160, u_65_161, u_65_162, u_65_165, u_65_166, u_65_167, u_65_168, u_65_169, u_65_172, u_65_173, u_65_174, u_65_177, u_65_178, u_65_179, u_65_180, u_65_181, u_65_184, u_65_185, u_65_186, u_65_189, u_65_190, u_65_191, u_65_192, u_65_193, u_65_196, u_65_197, u_65_198, u_65_201, u_65_202, u_65_203, u_65_204, u_65_207, gI0, gIs, gR0, gRs, gF0, gFs, st0, st_i, st_r, st_f, st_n, st_s, true_and, and_true, ↓ifLeT, ↓ifLeF, ↓ifLtT, ↓ifLtF, ↓ifEqT, ↓ifEqF, if_tt, if_ff, if_pos, if_neg, nLe, nLt, nEq, nInT, nCl, pk_mul, nI_add, Nat.reduceAdd, s_cat_nil, s_cat_i, s_cat_r, s_cat_f, s_cat_l, tl_s, tl_n, cat_i, cat_r, cat_f, nb0, nb1, nbI, if_bI, if_bIr, Nat.zero_le, Nat.reduceLeDiff, Y_g0, Y_g1, Y_g2, Y_g3, Y_g4, Y_g5, Y_g6, Y_g7, Y_g8, Y_g9, Y_g10, Y_g11, Y_g12, Y_g13, Y_g14, Y_g15, Y_g16, Y_g17, Y_g18, Y_g19, Y_n7, Y_n8, Y_n10, Y_n11, Y_n12, Y_n13, Y_n14, Y_n15, Y_n16, Y_n17, Y_n18, Z_g0 hz hd, Z_g1 hz hd, Z_g2 hz hd, Z_g3 hz hd, Z_g4 hz hd, Z_g5 hz hd, Z_g6 hz hd, Z_g7 hz hd, Z_g8 hz hd, Z_g9 hz hd, Z_g10 hz hd, Z_g11 hz hd, Z_g12 hz hd, Z_g13 hz hd, Z_g14 hz hd, Z_g15 hz hd, Z_g16 hz hd, Z_g17 hz hd, Z_g18 hz hd, Z_g19 hz hd, Z_a7 hz hd, Z_a8 hz hd, Z_a10 hz hd, Z_a11 hz hd, Z_a12 hz hd, Z_a13 hz hd, Z_a14 hz hd, Z_a15 hz hd, Z_a16 hz hd, Z_a17 hz hd, Z_a18 hz hd, Z_sw hz hd, Y_w7, Y_w8, Y_w10, Y_w11, Y_w12, Y_w13, Y_w14, Y_w15, Y_w16, Y_w17, Y_w18, Y_wsw, yC_uS, yT_uS, yW_uS, yP_uS, yB_uS, yA_uS, yC_uC, yT_uC, yW_uC, yP_uC, yB_uC, yA_uC, yC_uT, yT_uT, yW_uT, yP_uT, yB_uT, yA_uT, yC_uA, yT_uA, yW_uA, yP_uA, yB_uA, yA_uA, yC_uW, yT_uW, yW_uW, yP_uW, yB_uW, yA_uW, yC_uP, yT_uP, yW_uP, yP_uP, yB_uP, yA_uP, cA12, cA13, cA14, cA15, cA16, cA17, cA18, fil_updS, reduceIte, Nat.reduceEqDiff, c1_u, ih (i + 1) (by omega)]
theorem m_copyY (hz : isY h b z) (hd : a + 16 ≤ b ∨ b + 16 ≤ a) : MT (d + 2) 65 [.ref a, .ref b] (pY a y h) Q ↔ Q none (pY a (cpY y z) h) := by
  rw [MT_go (by decide) _ _ _ (Nat.le_of_ble_eq_true rfl), show s_entry 65 [.ref a, .ref b] = [.ref a, .ref b, s_no] from rfl]
  simp (disch := omega) only [u_65_0, u_65_1, u_65_2, u_65_5, u_65_8, u_65_9, u_65_10, u_65_13, u_65_16, u_65_17, u_65_18, u_65_21, u_65_24, u_65_25, u_65_26, u_65_29, u_65_32, u_65_33, u_65_34, u_65_37, u_65_40, u_65_41, u_65_42, u_65_45, u_65_48, u_65_49, u_65_50, u_65_53, u_65_56, u_65_57, gI0, gIs, gR0, gRs, gF0, gFs, st0, st_i, st_r, st_f, st_n, st_s, true_and, and_true, ↓ifLeT, ↓ifLeF, ↓ifLtT, ↓ifLtF, ↓ifEqT, ↓ifEqF, if_tt, if_ff, if_pos, if_neg, nLe, nLt, nEq, nInT, nCl, pk_mul, nI_add, Nat.reduceAdd, s_cat_nil, s_cat_i, s_cat_r, s_cat_f, s_cat_l, tl_s, tl_n, cat_i, cat_r, cat_f, nb0, nb1, nbI, if_bI, if_bIr, Nat.zero_le, Nat.reduceLeDiff, Y_g0, Y_g1, Y_g2, Y_g3, Y_g4, Y_g5, Y_g6, Y_g7, Y_g8, Y_g9, Y_g10, Y_g11, Y_g12, Y_g13, Y_g14, Y_g15, Y_g16, Y_g17, Y_g18, Y_g19, Y_s0, Y_s1, Y_s2, Y_s3, Y_s4, Y_s5, Y_s6, Z_g0 hz hd, Z_g1 hz hd, Z_g2 hz hd, Z_g3 hz hd, Z_g4 hz hd, Z_g5 hz hd, Z_g6 hz hd, Z_g7 hz hd, Z_g8 hz hd, Z_g9 hz hd, Z_g10 hz hd, Z_g11 hz hd, Z_g12 hz hd, Z_g13 hz hd, Z_g14 hz hd, Z_g15 hz hd, Z_g16 hz hd, Z_g17 hz hd, Z_g18 hz hd, Z_g19 hz hd, c1_0, copyY1 hz hd 4 0 rfl]
  simp (disch := omega) only [u_65_109, u_65_110, gI0, gIs, gR0, gRs, gF0, gFs, st0, st_i, st_r, st_f, st_n, st_s, true_and, and_true, ↓ifLeT, ↓ifLeF, ↓ifLtT, ↓ifLtF, ↓ifEqT, ↓ifEqF, if_tt, if_ff, if_pos, if_neg, nLe, nLt, nEq, nInT, nCl, pk_mul, nI_add, Nat.reduceAdd, s_cat_nil, s_cat_i, s_cat_r, s_cat_f, s_cat_l, tl_s, tl_n, cat_i, cat_r, cat_f, nb0, nb1, nbI, if_bI, if_bIr, Nat.zero_le, Nat.reduceLeDiff, copyY2 hz hd 8 0 rfl]
  have hq : isP (pY a (c1 y z 4 8) h) (b + 13) (yP z) := isP_Y' (isY_o hz hd)
  have e := fun Q => m_copyP (d := d) (b := a + 13) (p := yP y) (h := pY a (c1 y z 4 8) h) (Q := Q) hq (by omega)
  have e2 : pP (a + 13) (yP y) (pY a (c1 y z 4 8) h) = pY a (c1 y z 4 8) h := pY_P
  simp only [e2, pY_P, c1_e] at e
  simp (disch := omega) only [u_65_210, u_65_211, u_65_214, u_65_215, u_65_218, u_65_221, gI0, gIs, gR0, gRs, gF0, gFs, st0, st_i, st_r, st_f, st_n, st_s, true_and, and_true, ↓ifLeT, ↓ifLeF, ↓ifLtT, ↓ifLtF, ↓ifEqT, ↓ifEqF, if_tt, if_ff, if_pos, if_neg, nLe, nLt, nEq, nInT, nCl, pk_mul, nI_add, Nat.reduceAdd, s_cat_nil, s_cat_i, s_cat_r, s_cat_f, s_cat_l, tl_s, tl_n, cat_i, cat_r, cat_f, nb0, nb1, nbI, if_bI, if_bIr, Nat.zero_le, Nat.reduceLeDiff, Y_g0, Y_g1, Y_g2, Y_g3, Y_g4, Y_g5, Y_g6, Y_g7, Y_g8, Y_g9, Y_g10, Y_g11, Y_g12, Y_g13, Y_g14, Y_g15, Y_g16, Y_g17, Y_g18, Y_g19, Z_g0 hz hd, Z_g1 hz hd, Z_g2 hz hd, Z_g3 hz hd, Z_g4 hz hd, Z_g5 hz hd, Z_g6 hz hd, Z_g7 hz hd, Z_g8 hz hd, Z_g9 hz hd, Z_g10 hz hd, Z_g11 hz hd, Z_g12 hz hd, Z_g13 hz hd, Z_g14 hz hd, Z_g15 hz hd, Z_g16 hz hd, Z_g17 hz hd, Z_g18 hz hd, Z_g19 hz hd, YP_ob, e]
end YZ
