/-! the law's crane: what is thrown is caught there -/
theorem dX8_crane_0 : decode cX8_crane 0 = .ok (.aload_n 0, 1) := by decide +kernel
theorem dX8_crane_1 : decode cX8_crane 1 = .ok (.iload_n 1, 1) := by decide +kernel
theorem dX8_crane_2 : decode cX8_crane 2 = .ok (.invokevirtual 166, 3) := by decide +kernel
theorem dX8_crane_5 : decode cX8_crane 5 = .ok (.ifCond .eq 12, 3) := by decide +kernel
theorem dX8_crane_8 : decode cX8_crane 8 = .ok (.iload_n 2, 1) := by decide +kernel
theorem dX8_crane_9 : decode cX8_crane 9 = .ok (.ifCond .lt 8, 3) := by decide +kernel
theorem dX8_crane_12 : decode cX8_crane 12 = .ok (.iload_n 2, 1) := by decide +kernel
theorem dX8_crane_13 : decode cX8_crane 13 = .ok (.iconst 5, 1) := by decide +kernel
theorem dX8_crane_14 : decode cX8_crane 14 = .ok (.if_icmp .le 11, 3) := by decide +kernel
theorem dX8_crane_17 : decode cX8_crane 17 = .ok (.new 200, 3) := by decide +kernel
theorem dX8_crane_20 : decode cX8_crane 20 = .ok (.dup, 1) := by decide +kernel
theorem dX8_crane_21 : decode cX8_crane 21 = .ok (.invokespecial 202, 3) := by decide +kernel
theorem dX8_crane_24 : decode cX8_crane 24 = .ok (.athrow, 1) := by decide +kernel
theorem dL_crane_0 : decode cL_crane 0 = .ok (.aload_n 3, 1) := by decide +kernel
theorem dL_crane_1 : decode cL_crane 1 = .ok (.iconst 0, 1) := by decide +kernel
theorem dL_crane_2 : decode cL_crane 2 = .ok (.aload_n 0, 1) := by decide +kernel
theorem dL_crane_3 : decode cL_crane 3 = .ok (.iload_n 1, 1) := by decide +kernel
theorem dL_crane_4 : decode cL_crane 4 = .ok (.iload_n 2, 1) := by decide +kernel
theorem dL_crane_5 : decode cL_crane 5 = .ok (.invokevirtual 7, 3) := by decide +kernel
theorem dL_crane_8 : decode cL_crane 8 = .ok (.i2l, 1) := by decide +kernel
theorem dL_crane_9 : decode cL_crane 9 = .ok (.lastore, 1) := by decide +kernel
theorem dL_crane_10 : decode cL_crane 10 = .ok (.goto 7, 3) := by decide +kernel
theorem dL_crane_13 : decode cL_crane 13 = .ok (.astore 4, 2) := by decide +kernel
theorem dL_crane_15 : decode cL_crane 15 = .ok (.iconst 1, 1) := by decide +kernel
theorem dL_crane_16 : decode cL_crane 16 = .ok (.ireturn, 1) := by decide +kernel
theorem dL_crane_17 : decode cL_crane 17 = .ok (.iconst 0, 1) := by decide +kernel
theorem dL_crane_18 : decode cL_crane 18 = .ok (.ireturn, 1) := by decide +kernel
def zNS : String := "java/util/NoSuchElementException"
def zNN : List String := ["java/lang/RuntimeException", "java/lang/Exception"]
theorem lt_pl : vx_at0 RX8 202 zNS zNN = [125, 1159, 1168, 1170, 1173, 1175, 1160, 1161, 136, 137, 1162, 1167, 1171, 1187, 1149, 1188, 1151, 1189, 1153, 1163, 1165, 1155, 1177, 1178, 1179, 1180, 1140, 1180, 1181, 1182, 1183, 1142, 1183, 1184, 1185, 1160, 1144, 1176, 1138, 1139, 1146, 1147, 1148, 1150, 1152, 1154, 1158, 1157, 1156].filterMap (fun i => lw_tbl[i]?) := by decide +kernel
theorem lt_ot : (vx_at0 RX8 202 zNS zNN).all vx_ot = true := by decide +kernel
def isDC (w : Jvm.Cond) : Bool := match w with
  | .declares _ => true
  | .castable _ _ => true
  | _ => false
theorem lt_gd : (vx_at0 RX8 202 zNS zNN).all (fun w => goodWord w || isDC w) = true := by decide +kernel
theorem lt_mem : ∀ w ∈ vx_at0 RX8 202 zNS zNN, w ∈ lw_tbl := by
  intro w hw
  rw [lt_pl] at hw
  obtain ⟨i, -, hi⟩ := List.mem_filterMap.mp hw
  exact List.mem_of_getElem? hi
theorem lt_all {G : sG} {args : Array Value} {s : State} (hts : ∀ w ∈ s_gt, w.before args s = true) (hK : s_K G s) : ∀ w ∈ vx_at0 RX8 202 zNS zNN, w.before args s = true := by
  intro w hw
  have h1 := List.all_eq_true.mp lt_gd w hw
  have h2 := lt_mem w hw
  rw [Bool.or_eq_true] at h1
  rcases h1 with h1 | h1
  · exact hts w (List.mem_filter.mpr ⟨h2, h1⟩)
  · unfold isDC at h1
    split at h1
    · exact va_Nw.use rfl (hK.2.2.2.2.1 _ h2)
    · exact va_Nw.use rfl (hK.2.2.2.2.2 _ _ h2)
    · cases h1
theorem lt_cl200 : Jvm.Cond.classLink RX8 200 zNS ∈ s_gt := s_gt_of (i := 1137) (by decide +kernel) rfl
theorem lt_cl13 : Jvm.Cond.classLink RL 13 zNS ∈ s_gt := s_gt_of (i := 1132) (by decide +kernel) rfl
theorem lt_ini : Jvm.Cond.initialized zNS ∈ s_gt := s_gt_of (i := 128) (by decide +kernel) rfl
theorem lt_cast : Jvm.Cond.castable zNS zNS ∈ lw_tbl := List.mem_of_getElem? (i := 1139) (by decide +kernel)
theorem lt_ml61 : Jvm.Cond.methodLink RL 61 yL_crane ∈ s_gt := s_gt_of (i := 1129) (by decide +kernel) rfl
theorem lt_st : Jvm.Cond.static yL_crane ∈ s_gt := s_gt_of (i := 1130) (by decide +kernel) rfl
theorem lt_cw : Jvm.Cond.codeWith yL_crane cL_crane 5 (some .int) [(0, 10, 13, 13)] ∈ s_gt := s_gt_of (i := 1131) (by decide +kernel) rfl
theorem lt_ml7 : Jvm.Cond.methodLink RL 7 (mY 99) ∈ s_gt := s_gt_of (i := 1133) (by decide +kernel) rfl
theorem lt_iL : Jvm.Cond.initialized RL ∈ s_gt := s_gt_of (i := 106) (by decide +kernel) rfl
theorem lt_i8 : Jvm.Cond.initialized RX8 ∈ s_gt := s_gt_of (i := 107) (by decide +kernel) rfl
theorem lt_ml166 : Jvm.Cond.methodLink RX8 166 (mY 129) ∈ s_gt := s_gt_of (i := 764) (by decide +kernel) rfl
/-- what crX says of the cells -/
theorem crX_of {h : sH} {c w : Int32} (hc : crX h c w) : ∃ (a : Nat) (N : Int32) (fs gs : List Value), hg h 0 = .inr (8, fs) ∧ fs[2]? = some (.ref a) ∧ hg h a = .inr (7, gs) ∧ gs[2]? = some (.int N) ∧ (¬ (0 ≤ c ∧ c < N) ∨ w < 0 ∨ 5 < w) := by
  obtain ⟨k, fs, g1, g2, g3⟩ := oO_of hc
  subst g2
  obtain ⟨v, g4, a, g5, g6⟩ := oo_of g3
  subst g5
  obtain ⟨k2, gs, g7, g8, g9⟩ := oO_of g6
  subst g8
  obtain ⟨u, g10, N, g11, g12⟩ := oo_of g9
  subst g11
  exact ⟨a, N, fs, gs, g1, g4, g7, g10, g12⟩
section LCR
variable {d : Nat} {h : sH} {c w : Int32} {Q : sQ}
theorem fG_at {a ci kf : Nat} {fs : List Value} {v : Value} {f : Value → Prop} (h1 : hg h a = .inr (ci, fs)) (h2 : fs[kf]? = some v) : fG h a ci kf f ↔ f v := by
  unfold fG oO oo
  rw [h1]
  dsimp only
  rw [h2]
  exact ⟨fun z => z.2, fun z => ⟨rfl, z⟩⟩
theorem p_isC {a : Nat} {N : Int32} {fs gs : List Value} (h1 : hg h 0 = .inr (8, fs)) (h2 : fs[2]? = some (.ref a)) (h3 : hg h a = .inr (7, gs)) (h4 : gs[2]? = some (.int N)) : MT (d + 1) 129 [.ref 0, .int c] h Q ↔ Q (some (.int (iB (decide (nI 0 ≤ c) && decide (c < N))))) h := by
  rw [MT_go (by decide) _ _ _ (Nat.le_of_ble_eq_true rfl), show s_entry 129 [.ref 0, .int c] = [.ref 0, .int c] from rfl]
  have f1 := fun f => fG_at (f := f) h1 h2
  have f2 := fun f => fG_at (f := f) h3 h4
  by_cases g1 : nI 0 ≤ c
  · have k1 : ¬ c < nI 0 := Int32.not_lt.mpr g1
    by_cases g2 : c < N
    · have k2 : ¬ N ≤ c := Int32.not_le.mpr g2
      rw [decide_eq_true g1, decide_eq_true g2]
      simp (disch := omega) only [u_129_0, u_129_1, u_129_4, u_129_5, u_129_6, u_129_9, u_129_12, u_129_15, u_129_16, u_129_19, u_129_20, gI0, gIs, gR0, gRs, gF0, gFs, st0, st_i, st_r, st_f, st_n, st_s, true_and, and_true, ↓ifLeT, ↓ifLeF, ↓ifLtT, ↓ifLtF, ↓ifEqT, ↓ifEqF, if_tt, if_ff, if_pos, if_neg, nLe, nLt, nEq, nInT, nCl, pk_mul, nI_add, Nat.reduceAdd, s_cat_nil, s_cat_i, s_cat_r, s_cat_f, s_cat_l, tl_s, tl_n, cat_i, cat_r, cat_f, nb0, nb1, nbI, if_bI, if_bIr, Nat.zero_le, Nat.reduceLeDiff, f1, f2, k1, k2, Bool.true_and, iBt]
    · have k2 : N ≤ c := Int32.not_lt.mp g2
      rw [decide_eq_false g2]
      simp (disch := omega) only [u_129_0, u_129_1, u_129_4, u_129_5, u_129_6, u_129_9, u_129_12, u_129_15, u_129_16, u_129_19, u_129_20, gI0, gIs, gR0, gRs, gF0, gFs, st0, st_i, st_r, st_f, st_n, st_s, true_and, and_true, ↓ifLeT, ↓ifLeF, ↓ifLtT, ↓ifLtF, ↓ifEqT, ↓ifEqF, if_tt, if_ff, if_pos, if_neg, nLe, nLt, nEq, nInT, nCl, pk_mul, nI_add, Nat.reduceAdd, s_cat_nil, s_cat_i, s_cat_r, s_cat_f, s_cat_l, tl_s, tl_n, cat_i, cat_r, cat_f, nb0, nb1, nbI, if_bI, if_bIr, Nat.zero_le, Nat.reduceLeDiff, f1, f2, k1, k2, Bool.and_false, iBf]
  · have k1 : c < nI 0 := Int32.not_le.mp g1
    rw [decide_eq_false g1]
    simp (disch := omega) only [u_129_0, u_129_1, u_129_4, u_129_5, u_129_6, u_129_9, u_129_12, u_129_15, u_129_16, u_129_19, u_129_20, gI0, gIs, gR0, gRs, gF0, gFs, st0, st_i, st_r, st_f, st_n, st_s, true_and, and_true, ↓ifLeT, ↓ifLeF, ↓ifLtT, ↓ifLtF, ↓ifEqT, ↓ifEqF, if_tt, if_ff, if_pos, if_neg, nLe, nLt, nEq, nInT, nCl, pk_mul, nI_add, Nat.reduceAdd, s_cat_nil, s_cat_i, s_cat_r, s_cat_f, s_cat_l, tl_s, tl_n, cat_i, cat_r, cat_f, nb0, nb1, nbI, if_bI, if_bIr, Nat.zero_le, Nat.reduceLeDiff, f1, f2, k1, Bool.false_and, iBf]
theorem p_ob (hM : MT (d + 1) 99 [.ref 0, .int c, .int w] h Q) : oO h 0 fun c' _ => c' = 8 := by
  revert hM
  rw [MT_go (by decide) _ _ _ (Nat.le_of_ble_eq_true rfl), show s_entry 99 [.ref 0, .int c, .int w] = [.ref 0, .int c, .int w] from rfl]
  simp (disch := omega) only [u_99_0, u_99_1, u_99_2, gI0, gIs, gR0, gRs, gF0, gFs, st0, st_i, st_r, st_f, st_n, st_s, true_and, and_true, ↓ifLeT, ↓ifLeF, ↓ifLtT, ↓ifLtF, ↓ifEqT, ↓ifEqF, if_tt, if_ff, if_pos, if_neg, nLe, nLt, nEq, nInT, nCl, pk_mul, nI_add, Nat.reduceAdd, s_cat_nil, s_cat_i, s_cat_r, s_cat_f, s_cat_l, tl_s, tl_n, cat_i, cat_r, cat_f, nb0, nb1, nbI, if_bI, if_bIr, Nat.zero_le, Nat.reduceLeDiff]
  exact fun q => q.1
end LCR
section LCR2
variable {p : Program} {l : Launch} {e : Env} {R : Room} {s : State} {m : MethodId} {args : Array Value} {below : List Frame} {meth : Method} {c : Code} {H : Heap} {locs : List Loc} {cells slots : Nat} {Q : State → Prop}
variable {cc : ByteArray} {pc : Nat} {ls : Array Slot} {rest : List Value} {D : va_G} {cl : List vw_C} {A : Nat → Prop} {a : Nat} {tys : List (ClassId × FieldType)} {ws : va_W} {H0 : Heap}
theorem s_last (hexec : p.tables.exec = Jvm.exec) (hb : c.code = cc) (hK : va_K D cl tys s) (hP : va_P D cl ws H) (hD : va_D A ws) (hS : va_S A H0 H locs) (q0 t0 : Nat) {cA : ClassId} {n : Nat} {f : Nat → Int64} (ha : ws[q0]? = some (a, .inl (cA, n, .inr (.inl f)))) (ht : tys[t0]? = some (cA, .long)) {i : Int32} {x : Int64} (hin : vp_in i n) (hdg : decode cc pc = .ok (.lastore, 1))
    (kk : ∀ (H1 : Heap) (locs1 : List Loc), va_P D cl (ws.set q0 (a, .inl (cA, n, .inr (.inl (vp_updL f i.toNatClampNeg x))))) H1 → H1.size = H.size → va_S A H0 H1 locs1 → W p l e R s m args below meth c H1 locs1 cells slots Q (F0 m (pc + 1) ls rest)) : W p l e R s m args below meth c H locs cells slots Q (F0 m pc ls (.long x :: .int i :: .ref a :: rest)) := by
  refine W.last hexec hb (hP q0 _ ha) ((hK.2 t0 _ ht).1 n (fun j => .long (f j))) (fun q => by cases q) (by show ¬ (i < 0 ∨ (arrV _ _ _).slots.size ≤ _); rw [arrV_size]; exact hin) rfl rfl hdg fun H1 e z oq => ?_
  refine kk H1 _ (hP.set hD ha ?_ oq) z (hS.put z oq (hD.2 q0 _ ha))
  show H1[a]? = some (vp_cell _ _)
  rw [e, vp_cell_l, vp_cell_l, arrV_store]
  congr 2
  funext q
  by_cases hq : q = i.toNatClampNeg <;> simp [updV, vp_updL, hq]
end LCR2
theorem s_ofWH {l : Launch} {y : MethodName} {ws ws' : List Jvm.Cond} {rm : Room} {Pc : Array Value → State → Prop} {Qc : Array Value → State → Outcome → State → Prop} {mc ms : Nat} {free : Addr → Prop} {cc : ByteArray} {maxL : Nat} {ret : Option FieldType} {hh : List (Nat × Nat × Nat × Nat)}
    (hy : plainFor y = true) (hw : ws = Jvm.Cond.codeWith y cc maxL ret hh :: ws')
    (body : ∀ p e s m args below meth c s₁, BodyLoose p l y (headSpec ws rm) cc maxL ret e s m args below meth c s₁ → c.maxLocals = maxL → Pc args s →
      W p l e (headSpec ws rm).room s m args below meth c s.heap [] 0 0 (MQ below Qc args s mc ms free) (entryFrame m args maxL)) : Met l y ws rm Pc Qc mc ms free := by
  refine MetFree.of_bodySF (code := cc) (maxLocals := maxL) (ret := ret) hy ?_ ?_
  · intro args s m h hn
    obtain ⟨m9, meth, c, hn9, h1, h2, h3, h4, -, h5, h6, -⟩ := Cond.codeWith_spec (atoms_spec (ws := ws) h _ (by rw [hw]; exact List.mem_cons_self))
    cases hn.symm.trans hn9
    exact ⟨meth, c, h1, h2, h3, h4, h5, h6⟩
  · intro p e s m args below meth c s₁ B hml hP _
    have hh0 : s₁.heap = s.heap := by rw [B.state]; rfl
    obtain ⟨t, a1, o, b1, b2, b3⟩ := body p e s m args below meth c s₁ B hml hP s₁ hh0 (Stand.of_body B)
    exact ⟨t, o, a1, b1, b2, ⟨b3.1, b3.2⟩⟩
def zcX (G : sG) (X0 : sC) (h : sH) : String → State → State → Prop := fun E st t => E = zNS ∧ va_F (s_A G) st t ∧ s_HR G (false, h.2) t.heap ∧ hg h 1000000 = X0
def zcR : Room := { frames := 30, cells := 1, slots := 6, locals := 2400 }
theorem mc_99 : mMc 99 = 0 := by decide +kernel
theorem ms_99 : mMs 99 = 0 := by decide +kernel
theorem mc_IC : mMc 129 = 0 := by decide +kernel
theorem ms_IC : mMs 129 = 0 := by decide +kernel
set_option maxHeartbeats 8000000 in
/-- crane(c, w) of the class throws -/
theorem t_crane (l : Launch) (hl0 : l.stackTraces = false) (G : sG) (X0 : sC) (hE : ∀ d, s_ExtOK l G X0 d (MT d)) {c w : Int32} {h : sH} (hc : crX h c w) : vx_Met l (mY 99) (s_wsM 99) zcR (s_Pc G X0 [.ref 0, .int c, .int w] h) (fun _ _ _ _ => False) (zcX G X0 h) 1 6 (s_A G) := by
  obtain ⟨a, N, fs, gs, g1, g2, g3, g4, g5⟩ := crX_of hc
  refine vx_ofW (cc := cX8_crane) (maxL := 3) (ret := some .int) (by decide) rfl ?_
  intro p e s m args below meth c0 s₁ B hml hT hv
  obtain ⟨rfl, hHR, hX0, hK, hStr, hX, hA⟩ := hv
  have hts0 := atoms_spec (ws := s_wsM 99) B.pre
  have hx := B.exec
  have hb := B.bytes
  have hr := B.returns
  have hlocks := B.notSynchronized
  have hown : s.vm.findClass RX8 = some m.cls := findClass_of_methodNamed B.named
  have hts : ∀ w ∈ s_gt, w.before _ s = true := fun w hw => hts0 w (List.mem_cons_of_mem _ hw)
  have C0 : s_CX G X0 5 99 p (headSpec (s_wsM 99) zcR).room s m ([Value.ref 0, .int c, .int w].map (s_tr G)).toArray meth c0 := by
    refine ⟨hx, hb, hr, hml, hown, hts, hlocks, fun h2 => absurd h2 (by decide), hK, hStr, hX, hA, Nat.le_of_ble_eq_true rfl, Nat.le_of_ble_eq_true rfl, ?_, ?_⟩
    · rw [mc_99]; exact Nat.zero_le _
    · rw [ms_99]; exact Nat.zero_le _
  have hl := lv_entry [Value.ref (s_ad G 0), .int c, .int w] (n := 3) (Nat.le_of_ble_eq_true rfl)
  show W p l e _ s m _ below meth c0 s.heap [] 0 0 _ (entryFrame m ([Value.ref (s_ad G 0), .int c, .int w] : List Value).toArray 3)
  rw [lg_entry_eq]
  generalize (lg_sl [Value.ref (s_ad G 0), .int c, .int w] ++ List.replicate (3 - (lg_sl [Value.ref (s_ad G 0), .int c, .int w]).length) Slot.unset).toArray = ls at hl ⊢
  have hl : lv_has ls 3 [(0, .ref (s_ad G 0)), (1, .int c), (2, .int w)] := hl
  have tail : ∀ (H : Heap) (locs : List Loc), s_HR G h H → va_S (s_A G) s.heap H locs → W p l e (headSpec (s_wsM 99) zcR).room s m ([Value.ref 0, .int c, .int w].map (s_tr G)).toArray below meth c0 H locs 0 0 (vx_MQ below (fun _ _ _ _ => False) (zcX G X0 h) ([Value.ref 0, .int c, .int w].map (s_tr G)).toArray s 1 6 (s_A G)) (F0 m 17 ls []) := fun H locs hh hS => by
    refine vx_throw0 (own := RX8) (cls := zNS) (names := zNN) (ik := 200) (ic := 202) (A := s_A G) hx hb hl0 hown (by decide) (by decide) (hts _ lt_cl200) (hts _ lt_ini) (lt_all hts hK) ?_ hStr.2.2.2.2.2.1 hStr.2.2.2.2.2.2 hS (hl.1.trans hml.symm) dX8_crane_17 dX8_crane_20 dX8_crane_21 dX8_crane_24 (fun x hx => (hT x hx).elim) (Nat.le_of_ble_eq_true rfl) (Nat.le_of_ble_eq_true rfl) (Nat.le_of_ble_eq_true rfl) (Nat.le_of_ble_eq_true rfl) hlocks ?_ hS.2.2 (Nat.le_of_ble_eq_true rfl) (Nat.le_of_ble_eq_true rfl)
    · intro w hw
      rcases List.mem_cons.mp hw with q | hw
      · rw [q]; rfl
      · rcases List.mem_cons.mp hw with q | hw
        · rw [q]; rfl
        · exact List.all_eq_true.mp lt_ot w hw
    · intro t _ z1 z2
      refine ⟨rfl, ⟨Nat.le_trans hS.1 z1, fun q q1 q2 => (z2 q (Nat.lt_of_lt_of_le q1 hS.1)).trans (hS.2.1 q q1 q2)⟩, ?_, hX0⟩
      obtain ⟨y1, y2, y3, y4, y5⟩ := hh
      refine ⟨fun k q hq => ?_, Nat.le_trans y2 z1, fun q => (by cases q), y4, y5⟩
      have hq : (s_ws G h)[k]? = some q := hq
      have h1 := y1 k q hq
      exact h1.kept (z2 _ h1.lt)
  have e0 : nI 0 = (0 : Int32) := rfl
  refine lv_aload_n hx hb dX8_crane_0 rfl (lv_at hl 0 rfl) ?_
  refine lv_iload_n hx hb dX8_crane_1 rfl (lv_at hl 1 rfl) ?_
  have hMc := s_met l G X0 hE 5 129 [.ref 0, .int c] h (fun v h' => v = some (.int (iB (decide (nI 0 ≤ c) && decide (c < N)))) ∧ h' = h) (by decide) ((p_isC g1 g2 g3 g4).mpr ⟨rfl, rfl⟩)
  obtain ⟨b1, b2, b3⟩ := s_obj_at hHR (by decide) g1 (by decide)
  have hsel : (Jvm.Cond.selects RX8 (mY 129) (mY 129)).before ([Value.ref 0, .int c, .int w].map (s_tr G)).toArray s = true := hts _ (s_gt_of (k_sel 129 (by decide) (by decide)) rfl)
  have hins : (Jvm.Cond.instanceMethod (mY 129)).before ([Value.ref 0, .int c, .int w].map (s_tr G)).toArray s = true := by
    have := k_kind 129 (by decide)
    rw [if_neg (by decide)] at this
    exact hts _ (s_gt_of this rfl)
  refine s_callW (K := MT 5) (y := 129) (va_runV (C := RX8) (n := 1) (b := s_ad G 0) (As := [.int c]) (rest := []) (Ts := s_gt) (index := 166) ⟨hx, hb, hml, hown, hts⟩ hMc ⟨s_cw C0 (by decide) lt_ml166, hins, hsel⟩ ⟨s_blind _ _, ?_, s_pre C0 hHR hX0 va_S.rf⟩ rfl rfl hl.1 rfl (lv_room (Nat.le_of_ble_eq_true rfl)) dX8_crane_2 ⟨by rw [mc_IC]; exact Nat.zero_le _, by rw [ms_IC]; exact Nat.zero_le _⟩) va_S.rf fun v h' H1 locs1 hq hh _ hS => ?_
  · rw [b2]
    exact va_recv hK.1 hHR.1 (s_owns 8 (by decide)).2.2.2 b3
  obtain ⟨rfl, rfl⟩ := hq
  rw [mc_IC, ms_IC]
  refine lv_if_eq (tgt := 17) hx hb dX8_crane_5 (by decide) (fun _ => tail H1 locs1 hh hS) (fun q => ?_)
  have q0 : 0 ≤ c ∧ c < N := by
    by_cases z1 : nI 0 ≤ c
    · by_cases z2 : c < N
      · exact ⟨z1, z2⟩
      · rw [decide_eq_false z2, Bool.and_false] at q
        exact absurd rfl q
    · rw [decide_eq_false z1, Bool.false_and] at q
      exact absurd rfl q
  refine lv_iload_n hx hb dX8_crane_8 rfl (lv_at hl 2 rfl) ?_
  refine lv_if_lt (tgt := 17) hx hb dX8_crane_9 (by decide) (fun _ => tail H1 locs1 hh hS) (fun z1 => ?_)
  refine lv_iload_n hx hb dX8_crane_12 rfl (lv_at hl 2 rfl) ?_
  refine lv_iconst (v := 5) hx hb dX8_crane_13 (by decide) ?_
  refine lv_icmp_le (tgt := 25) hx hb dX8_crane_14 (by decide) (fun z2 => ?_) (fun _ => tail H1 locs1 hh hS)
  rcases g5 with g5 | g5 | g5
  · exact absurd q0 g5
  · exact absurd g5 z1
  · exact absurd z2 (Int32.not_le.mpr g5)
def zlW : List Jvm.Cond := Jvm.Cond.codeWith yL_crane cL_crane 5 (some .int) [(0, 10, 13, 13)] :: s_gt
def zlR (d : Nat) : Room := { frames := d + 60, cells := 1, slots := 6, locals := 60 * (d + 60) }
set_option maxHeartbeats 8000000 in
/-- the law's crane -/
theorem l_crane (l : Launch) (hl0 : l.stackTraces = false) (G : sG) (X0 : sC) (hE : ∀ d, s_ExtOK l G X0 d (MT d)) {d : Nat} {as : List Value} {h : sH} {Q : sQ} (hc : s_ext (MT d) 1003 as h Q) : Met l yL_crane zlW (zlR d) (s_Pc G X0 as h) (s_Qc G X0 Q) 1 6 (s_A G) := by
  obtain ⟨c, w, rfl, hc⟩ := hc
  refine s_ofWH (cc := cL_crane) (maxL := 5) (ret := some .int) (hh := [(0, 10, 13, 13)]) (by decide) rfl ?_
  intro p e s m args below meth c0 s₁ B hml hv
  obtain ⟨rfl, hHR, hX0, hK, hStr, hX, hA⟩ := hv
  have hts0 := atoms_spec (ws := zlW) B.pre
  have hx := B.exec
  have hb := B.bytes
  have hr := B.returns
  have hlocks := B.notSynchronized
  have hown : s.vm.findClass RL = some m.cls := findClass_of_methodNamed B.named
  have hts : ∀ w ∈ s_gt, w.before _ s = true := fun w hw => hts0 w (List.mem_cons_of_mem _ hw)
  have htab : c0.exceptionTable.toList = tableOf [(0, 10, 13, 13)] := vx_table (x := yL_crane) B (hts0 _ List.mem_cons_self)
  have hl := lv_entry [Value.ref (s_ad G 0), .int c, .int w, .ref (s_ad G 334)] (n := 5) (Nat.le_of_ble_eq_true rfl)
  show W p l e _ s m _ below meth c0 s.heap [] 0 0 _ (entryFrame m ([Value.ref (s_ad G 0), .int c, .int w, .ref (s_ad G 334)] : List Value).toArray 5)
  rw [lg_entry_eq]
  generalize (lg_sl [Value.ref (s_ad G 0), .int c, .int w, .ref (s_ad G 334)] ++ List.replicate (5 - (lg_sl [Value.ref (s_ad G 0), .int c, .int w, .ref (s_ad G 334)]).length) Slot.unset).toArray = ls at hl ⊢
  have hl : lv_has ls 5 [(0, .ref (s_ad G 0)), (1, .int c), (2, .int w), (3, .ref (s_ad G 334))] := hl
  refine lv_aload_n hx hb dL_crane_0 rfl (lv_at hl 3 rfl) ?_
  refine lv_iconst (v := 0) hx hb dL_crane_1 (by decide) ?_
  refine lv_aload_n hx hb dL_crane_2 rfl (lv_at hl 0 rfl) ?_
  refine lv_iload_n hx hb dL_crane_3 rfl (lv_at hl 1 rfl) ?_
  refine lv_iload_n hx hb dL_crane_4 rfl (lv_at hl 2 rfl) ?_
  have hpre : ∀ U : State, U.heap = s.heap → s.WarmedH U.vm → s_Pc G X0 [.ref 0, .int c, .int w] h ([Value.ref 0, .int c, .int w].map (s_tr G)).toArray U := fun U hU hW => ⟨rfl, by rw [hU]; exact hHR, hX0, hK.warm hW, by rw [hU]; exact hStr.warm hW va_S.rf, by rw [hU]; exact hX.warm hW va_S.rf, fun q hq => hA q (by rw [hU] at hq; exact hq)⟩
  have hsel : (Jvm.Cond.selects RX8 (mY 99) (mY 99)).before ([Value.ref 0, .int c, .int w, .ref 334].map (s_tr G)).toArray s = true := hts _ (s_gt_of (k_sel 99 (by decide) (by decide)) rfl)
  have hins : (Jvm.Cond.instanceMethod (mY 99)).before ([Value.ref 0, .int c, .int w, .ref 334].map (s_tr G)).toArray s = true := by
    have := k_kind 99 (by decide)
    rw [if_neg (by decide)] at this
    exact hts _ (s_gt_of this rfl)
  have h8 : ∃ fs, hg h 0 = .inr (8, fs) := by
    rcases hc with ⟨-, hc⟩ | ⟨hc, -⟩
    · cases d with
      | zero => exact hc.elim
      | succ d =>
        obtain ⟨k, fs, q1, q2⟩ := oO_of (p_ob hc)
        subst q2
        exact ⟨fs, q1⟩
    · obtain ⟨_, _, fs, _, g1, -⟩ := crX_of hc
      exact ⟨fs, g1⟩
  obtain ⟨fs8, g8⟩ := h8
  obtain ⟨b1, b2, b3⟩ := s_obj_at hHR (by decide) g8 (by decide)
  have hrecv : ∃ cellB : Cell, s.heap[s_ad G 0]? = some cellB ∧ cellB.vm.isStatics = false ∧ s.vm.findClass RX8 = some cellB.cls := by
    rw [b2]
    exact va_recv hK.1 hHR.1 (s_owns 8 (by decide)).2.2.2 b3
  rcases hc with ⟨-, hc⟩ | ⟨hc, hQ⟩
  · have hMc := s_met l G X0 hE d 99 _ h _ (by decide) hc
    have h3 := k_meth3 99 (by decide)
    have cb : CallB (headSpec zlW (zlR d)).room s ([Value.ref 0, .int c, .int w, .ref 334].map (s_tr G)).toArray RL 7 (mY 99) (mB 99) (mL 99) (mR 99) (s_wsM 99) (s_rm d 99) (mMc 99) (mMs 99) 2 := ⟨rfl, rfl, by show d + 8 + 1 ≤ d + 60; omega, by show 8 + (3 + 11) + 60 * (d + 8) ≤ 60 * (d + 60); omega, s_words hts (by decide), List.mem_cons_self, hts _ (k_code 99 (by decide)), hts _ lt_i8, ⟨h3.1, h3.2.1⟩, s_nargs (by decide), hts _ lt_ml7⟩
    refine s_callW (K := MT d) (y := 99) (va_runV (C := RX8) (n := 2) (b := s_ad G 0) (As := [.int c, .int w]) (rest := [.int 0, .ref (s_ad G 334)]) (Ts := s_gt) (index := 7) ⟨hx, hb, hml, hown, hts⟩ hMc ⟨cb, hins, hsel⟩ ⟨s_blind _ _, hrecv, hpre⟩ rfl rfl hl.1 rfl (lv_room (Nat.le_of_ble_eq_true rfl)) dL_crane_5 ⟨by rw [mc_99]; exact Nat.zero_le _, by rw [ms_99]; exact Nat.zero_le _⟩) va_S.rf fun v h' H1 locs1 hq hh hx' hS => ?_
    rw [mc_99, ms_99]
    obtain ⟨x, rfl, ho⟩ := hq
    obtain ⟨t, n, g, g1, g2, g3, hQ⟩ := oL_of ho
    subst g2
    obtain ⟨d1, d2, d3⟩ := s_arr_at hh g1 (by decide)
    refine lv_i2l (v := x.toInt64) hx hb dL_crane_8 rfl ?_
    have d2' : s_ad G 334 = G.2.2.1 + 334 := d2
    rw [d2']
    refine s_last hx hb hK.1 hh.1 (s_ws_D G h') hS 334 3 d3 (s_kindAt (by decide)) g3 dL_crane_9 fun H2 locs2 y1 y2 y3 => ?_
    have hh2 : s_HR G (hs h' 334 (.inl (3, n, .inr (.inl (vp_updL g 0 x.toInt64))))) H2 := hh.put (c := .inl (3, n, .inr (.inl (vp_updL g 0 x.toInt64)))) d1 y1 y2
    refine lv_goto (tgt := 17) hx hb dL_crane_10 (by decide) ?_
    refine lv_iconst (v := 0) hx hb dL_crane_17 (by decide) ?_
    refine W.widen (k := 1) (n := 6) (Nat.zero_le _) (Nat.zero_le _) ?_
    exact W.zret hx hb hr rfl (fun t ht _ => ⟨⟨some (.int 0), _, rfl, hQ, by rw [ht]; exact hh2, hx'⟩, y3.F ht⟩) y3.2.2 dL_crane_18 hlocks
  · have hMt := t_crane l hl0 G X0 hE hc
    have h3 := k_meth3 99 (by decide)
    have cb : CallB (headSpec zlW (zlR d)).room s ([Value.ref 0, .int c, .int w, .ref 334].map (s_tr G)).toArray RL 7 (mY 99) (mB 99) (mL 99) (mR 99) (s_wsM 99) zcR 1 6 2 := ⟨rfl, rfl, by show 30 + 1 ≤ d + 60; omega, by show 8 + (3 + 11) + 2400 ≤ 60 * (d + 60); omega, s_words hts (by decide), List.mem_cons_self, hts _ (k_code 99 (by decide)), hts _ lt_i8, ⟨h3.1, h3.2.1⟩, s_nargs (by decide), hts _ lt_ml7⟩
    have hrun := vx_runV (cells := 0) (slots := 0) (g := F0 m 5 ls [.int w, .int c, .ref (s_ad G 0), .int 0, .ref (s_ad G 334)]) (locs := []) (p := p) (e := e) (below := below) (meth := meth) (C := RX8) (n := 2) (b := s_ad G 0) (As := [.int c, .int w]) (rest := [.int 0, .ref (s_ad G 334)]) (Ts := s_gt) (index := 7) ⟨hx, hb, hml, hown, hts⟩ hMt ⟨cb, hins, hsel⟩ ⟨s_blind _ _, hrecv, hpre⟩ rfl rfl hl.1 rfl (lv_room (Nat.le_of_ble_eq_true rfl)) dL_crane_5 ⟨Nat.le_refl _, Nat.le_refl _⟩
    intro T hT X
    rcases hrun T hT X with ⟨v, st₀, t, T', L, h0, X', hL, e1, e2, hq, st⟩ | ⟨q, st₀, t, T', L, E, ce, h0, X', hL, e1, e2, ⟨rfl, hF, hh, hx'⟩, hce, hcv, hcl, st⟩
    · exact hq.elim
    · have hS : va_S (s_A G) s.heap T'.heap ([] ++ L) := by
        obtain ⟨f1, f2⟩ := hF
        rw [h0] at f1 f2
        exact ⟨by rw [e1]; exact f1, fun q h1 h2 => by rw [e1]; exact f2 q h1 h2, fun z hz => hL z (by simpa using hz)⟩
      have kk : vx_W p l e (headSpec zlW (zlR d)).room s m ([Value.ref 0, .int c, .int w, .ref 334].map (s_tr G)).toArray below meth c0 T'.heap ([] ++ L) (0 + 1) (0 + 6) (MQ below (s_Qc G X0 Q) ([Value.ref 0, .int c, .int w, .ref 334].map (s_tr G)).toArray s 1 6 (s_A G)) (F0 m 5 ls [.int 0, .ref (s_ad G 334)]) q := by
        refine vx_catch (own := RL) (name := zNS) (E := zNS) (ce := ce) hown [] ⟨0, 10, 13, 13⟩ [] htab (fun z hz => nomatch hz) (by decide) (by decide) (hts _ lt_cl13) (va_Nw.use rfl (hK.2.2.2.2.2 _ _ lt_cast)) (by rw [e1]; exact hce) hcv hcl ?_
        refine lv_astore (lv' := [(4, .ref q), (0, .ref (s_ad G 0)), (1, .int c), (2, .int w), (3, .ref (s_ad G 334))]) hx hb dL_crane_13 hl (by decide) rfl (fun ls hl => ?_)
        refine lv_iconst (v := 1) hx hb dL_crane_15 (by decide) ?_
        exact W.zret hx hb hr rfl (fun t ht _ => ⟨⟨some (.int 1), (false, h.2), rfl, hQ, by rw [ht, e1]; exact hh, hx'⟩, hS.F ht⟩) hS.2.2 dL_crane_16 hlocks
      obtain ⟨t2, a1, b1⟩ := kk T' rfl X'
      exact ⟨t2, st.trans a1, b1⟩
