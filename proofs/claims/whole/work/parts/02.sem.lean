/-! the pure run: what a method does to the cells of one heap, by its bytecode -/
abbrev sC : Type := (Nat × vp_A) ⊕ (Nat × List Value)
abbrev sH : Type := Bool × Nat × (Nat → sC)
abbrev sK : Type := Nat × Nat
abbrev sQ : Type := Option Value → sH → Prop
abbrev sN : Type := Nat → List Value → List Value → sH → sK → Prop
def s_no : Value := .retAddr 0
def hg (h : sH) (a : Nat) : sC := h.2.2 a
def hs (h : sH) (a : Nat) (c : sC) : sH := (h.1, h.2.1, fun q => if q = a then c else h.2.2 q)
def hn (h : sH) (c : sC) : sH := (h.1, h.2.1 + 1, fun q => if q = h.2.1 then c else h.2.2 q)
def s_junk : sC := .inr (99, [])
def pI (S : List Value) (f : Int32 → List Value → Prop) : Prop := match S with | .int x :: T => f x T | _ => False
def pL (S : List Value) (f : Int64 → List Value → Prop) : Prop := match S with | .long x :: T => f x T | _ => False
def pF (S : List Value) (f : UInt32 → List Value → Prop) : Prop := match S with | .float x :: T => f x T | _ => False
def pD (S : List Value) (f : UInt64 → List Value → Prop) : Prop := match S with | .double x :: T => f x T | _ => False
def pR (S : List Value) (f : Nat → List Value → Prop) : Prop := match S with | .ref x :: T => f x T | _ => False
def pA (S : List Value) (f : Value → List Value → Prop) : Prop := match S with | v :: T => f v T | _ => False
def gI (L : List Value) (i : Nat) (f : Int32 → Prop) : Prop := match L[i]? with | some (.int x) => f x | _ => False
def gL (L : List Value) (i : Nat) (f : Int64 → Prop) : Prop := match L[i]? with | some (.long x) => f x | _ => False
def gF (L : List Value) (i : Nat) (f : UInt32 → Prop) : Prop := match L[i]? with | some (.float x) => f x | _ => False
def gD (L : List Value) (i : Nat) (f : UInt64 → Prop) : Prop := match L[i]? with | some (.double x) => f x | _ => False
def gR (L : List Value) (i : Nat) (f : Nat → Prop) : Prop := match L[i]? with | some (.ref x) => f x | _ => False
/-- a local is stored: what it cuts through is gone -/
def s_clr (L : List Value) (i : Nat) : List Value := match i with
  | 0 => L
  | j + 1 => match L[j]? with
    | some v => if v.category = 2 then L.set j s_no else L
    | none => L
def s_st1 (L : List Value) (i : Nat) (v : Value) : List Value := (s_clr L i).set i v
def s_st2 (L : List Value) (i : Nat) (v : Value) : List Value := ((s_clr L i).set i v).set (i + 1) s_no
def oO (h : sH) (a : Nat) (f : Nat → List Value → Prop) : Prop := match hg h a with | .inr (c, fs) => f c fs | _ => False
def oI (h : sH) (a : Nat) (f : Nat → Nat → (Nat → Int32) → Prop) : Prop := match hg h a with | .inl (t, n, .inl g) => f t n g | _ => False
def oL (h : sH) (a : Nat) (f : Nat → Nat → (Nat → Int64) → Prop) : Prop := match hg h a with | .inl (t, n, .inr (.inl g)) => f t n g | _ => False
def oF (h : sH) (a : Nat) (f : Nat → Nat → (Nat → UInt32) → Prop) : Prop := match hg h a with | .inl (t, n, .inr (.inr (.inl g))) => f t n g | _ => False
def oQ (h : sH) (a : Nat) (f : Nat → Nat → (Nat → Option Nat) → Prop) : Prop := match hg h a with | .inl (t, n, .inr (.inr (.inr (.inr g)))) => f t n g | _ => False
def oA (h : sH) (a : Nat) (f : Nat → Nat → Prop) : Prop := match hg h a with | .inl (t, n, _) => f t n | _ => False
def s_jmp (pc : Nat) (off : Int) : Nat := ((pc : Int) + off).toNat
def s_jok (pc : Nat) (off : Int) : Prop := (pc : Int) + off = (s_jmp pc off : Int)
def s_cat (S : List Value) : Nat := (S.map fun v => v.category).sum
def s_cmp (o : ClassFile.Cond) (x y : Int32) (T E : Prop) : Prop := match o with
  | .eq => if x = y then T else E
  | .ne => if x = y then E else T
  | .lt => if x < y then T else E
  | .ge => if y ≤ x then T else E
  | .gt => if y < x then T else E
  | .le => if x ≤ y then T else E
def cT : Nat → u_T := fun i => match i with
  | 0 => TX0
  | 1 => TX1
  | 2 => TX2
  | 3 => TX3
  | 4 => TX4
  | 5 => TX5
  | 6 => TX6
  | 7 => TX7
  | 8 => TX8
  | _ => TX9
def cTy : Nat → Nat → FieldType := fun i => match i with
  | 0 => tyX0
  | 1 => tyX1
  | 2 => tyX2
  | 3 => tyX3
  | 4 => tyX4
  | 5 => tyX5
  | 6 => tyX6
  | 7 => tyX7
  | 8 => tyX8
  | _ => tyX9
def cN (i : Nat) : Nat := [3, 6, 6, 2, 5, 7, 6, 20, 15, 42].getD i 0
def cR (i : Nat) : String := [RX0, RX1, RX2, RX3, RX4, RX5, RX6, RX7, RX8, RX9, RL, RJ6, RJxf58ca, RJxe99ae, RJ9, RJ0].getD i ""
abbrev mI : Type := MethodName × ByteArray × Nat × Option FieldType × Nat × Nat × Nat × Nat × Nat
def mTab0 : List mI := [(yX0_init, cX0_init, 2, none, 0, 161, 1350, 0, 2), (yX0_forget, cX0_forget, 1, none, 0, 0, 0, 0, 1), (yX0_keep, cX0_keep, 2, none, 0, 0, 0, 1, 1), (yX0_canUndo, cX0_canUndo, 1, (some .boolean), 0, 0, 0, 0, 1), (yX0_takeBack, cX0_takeBack, 2, none, 0, 0, 0, 1, 1), (yX1_init, cX1_init, 1, none, 1, 3, 38, 0, 2), (yX1_open, cX1_open, 2, none, 1, 0, 0, 1, 1), (yX1_take, cX1_take, 3, none, 1, 0, 0, 2, 1), (yX1_tell, cX1_tell, 2, (some .int), 1, 0, 0, 1, 1), (yX2_init, cX2_init, 1, none, 2, 4, 3616, 0, 2), (yX2_goThrough, cX2_goThrough, 4, none, 2, 0, 0, 1, 1), (yX2_mark, cX2_mark, 4, none, 2, 0, 0, 2, 1), (yX2_markDeeds, cX2_markDeeds, 4, none, 2, 0, 0, 2, 1), (yX2_bayAt, cX2_bayAt, 4, (some .int), 2, 0, 0, 2, 1), (yX2_swayAt, cX2_swayAt, 4, (some .float), 2, 0, 0, 2, 1), (yX2_deedAt, cX2_deedAt, 4, (some .int), 2, 0, 0, 2, 1), (yX2_deedsOf, cX2_deedsOf, 6, (some .int), 2, 0, 0, 3, 1), (yX2_idleIn, cX2_idleIn, 7, (some .int), 2, 0, 0, 2, 1), (yX3_init, cX3_init, 1, none, 3, 2, 36, 0, 2), (yX3_clear, cX3_clear, 2, none, 3, 0, 0, 0, 1)]
def mTab1 : List mI := [(yX3_copyOf, cX3_copyOf, 3, none, 3, 0, 0, 1, 1), (yX3_at, cX3_at, 3, (some .int), 3, 0, 0, 2, 1), (yX3_add, cX3_add, 3, none, 3, 0, 0, 2, 1), (yX3_insert, cX3_insert, 6, none, 3, 0, 0, 3, 1), (yX3_remove, cX3_remove, 6, none, 3, 0, 0, 1, 1), (yX3_dropLast, cX3_dropLast, 2, none, 3, 0, 0, 1, 1), (yX3_holder, cX3_holder, 3, (some .int), 3, 0, 0, 1, 1), (yX3_spot, cX3_spot, 3, (some .int), 3, 0, 0, 1, 1), (yX3_find, cX3_find, 4, (some .int), 3, 0, 0, 1, 1), (yX3_bits, cX3_bits, 4, (some .int), 3, 0, 0, 0, 1), (yX4_init, cX4_init, 1, none, 4, 22, 738, 0, 2), (yX4_readsQuay, cX4_readsQuay, 2, (some .boolean), 4, 0, 0, 0, 1), (yX4_readsPlan, cX4_readsPlan, 5, (some .boolean), 4, 0, 0, 1, 1), (yX4_readsMoves, cX4_readsMoves, 5, (some .boolean), 4, 0, 0, 1, 1), (yX4_bayTold, cX4_bayTold, 4, (some .int), 4, 0, 0, 2, 1), (yX4_isNamed, cX4_isNamed, 4, (some .boolean), 4, 0, 0, 3, 1), (yX4_isNextLine, cX4_isNextLine, 1, (some .boolean), 4, 0, 0, 0, 1), (yX4_readsCrane, cX4_readsCrane, 4, (some .boolean), 4, 0, 0, 0, 1), (yX4_readsTasks, cX4_readsTasks, 2, (some .boolean), 4, 0, 0, 0, 1), (yX4_readsTask, cX4_readsTask, 7, (some .boolean), 4, 0, 0, 1, 1)]
def mTab2 : List mI := [(yX4_readsList, cX4_readsList, 5, (some .boolean), 4, 0, 0, 2, 1), (yX5_init, cX5_init, 1, none, 5, 43, 396, 0, 2), (yX5_findBest, cX5_findBest, 4, none, 5, 0, 0, 3, 1), (yX5_extend, cX5_extend, 12, none, 5, 0, 0, 7, 0), (yX5_findZones, cX5_findZones, 3, none, 5, 0, 0, 2, 1), (yX5_begin, cX5_begin, 4, none, 5, 0, 0, 3, 1), (yX5_cut, cX5_cut, 7, none, 5, 0, 0, 5, 0), (yX5_sortByBay, cX5_sortByBay, 3, none, 5, 0, 0, 0, 1), (yX5_findBetter, cX5_findBetter, 6, none, 5, 0, 0, 3, 1), (yX5_tryPlaces, cX5_tryPlaces, 5, none, 5, 0, 0, 2, 1), (yX5_weigh, cX5_weigh, 3, (some .boolean), 5, 0, 0, 1, 1), (yX5_findEasy, cX5_findEasy, 5, none, 5, 0, 0, 2, 1), (yX5_give, cX5_give, 8, none, 5, 0, 0, 1, 1), (yX6_init, cX6_init, 1, none, 6, 1, 400, 0, 2), (yX6_append, cX6_append, 4, none, 6, 0, 0, 1, 1), (yX6_rewind, cX6_rewind, 1, none, 6, 0, 0, 0, 1), (yX6_advance, cX6_advance, 2, none, 6, 0, 0, 0, 1), (yX6_isWord, cX6_isWord, 3, (some .boolean), 6, 0, 0, 1, 1), (yX6_isNumber, cX6_isNumber, 3, (some .boolean), 6, 0, 0, 2, 1), (yX6_taken, cX6_taken, 2, (some .int), 6, 0, 0, 0, 1)]
def mTab3 : List mI := [(yX6_byteAt, cX6_byteAt, 2, (some .int), 6, 0, 0, 1, 1), (yX6_isLetter, cX6_isLetter, 1, (some .boolean), 6, 0, 0, 1, 0), (yX6_isDigit, cX6_isDigit, 1, (some .boolean), 6, 0, 0, 1, 0), (yX7_init, cX7_init, 1, none, 7, 15, 114, 0, 2), (yX7_clear, cX7_clear, 1, none, 7, 0, 0, 0, 1), (yX7_copyOf, cX7_copyOf, 3, none, 7, 0, 0, 1, 1), (yX7_addCrane, cX7_addCrane, 3, none, 7, 0, 0, 2, 1), (yX7_addTask, cX7_addTask, 6, (some .int), 7, 0, 0, 4, 1), (yX7_isBroken, cX7_isBroken, 2, (some .boolean), 7, 0, 0, 1, 1), (yX7_isDone, cX7_isDone, 2, (some .boolean), 7, 0, 0, 1, 1), (yX7_canLift, cX7_canLift, 3, (some .boolean), 7, 0, 0, 2, 1), (yX7_canReach, cX7_canReach, 7, (some .boolean), 7, 0, 0, 2, 1), (yX7_leftBits, cX7_leftBits, 1, (some .int), 7, 0, 0, 0, 1), (yX7_nextOf, cX7_nextOf, 4, (some .int), 7, 0, 0, 1, 1), (yX7_lastWithin, cX7_lastWithin, 4, (some .int), 7, 0, 0, 1, 1), (yX7_pass, cX7_pass, 3, (some .boolean), 7, 0, 0, 0, 1), (yX7_begin, cX7_begin, 5, (some .boolean), 7, 0, 0, 0, 1), (yX7_step, cX7_step, 10, none, 7, 0, 0, 1, 1), (yX7_swing, cX7_swing, 4, (some .boolean), 7, 0, 0, 0, 1), (yX7_boundOf, cX7_boundOf, 6, (some .int), 7, 0, 0, 1, 1)]
def mTab4 : List mI := [(yX7_leftWithin, cX7_leftWithin, 5, (some .int), 7, 0, 0, 2, 1), (yX7_busiestBays, cX7_busiestBays, 4, (some .int), 7, 0, 0, 1, 1), (yX7_busiestBay, cX7_busiestBay, 3, (some .int), 7, 0, 0, 0, 1), (yX7_busiestCrane, cX7_busiestCrane, 3, (some .int), 7, 0, 0, 0, 1), (yX7_wildestCrane, cX7_wildestCrane, 3, (some .int), 7, 0, 0, 0, 1), (yX7_longestTask, cX7_longestTask, 3, (some .int), 7, 0, 0, 0, 1), (yX7_longestRow, cX7_longestRow, 3, (some .int), 7, 0, 0, 0, 1), (yX7_rowTo, cX7_rowTo, 5, (some .int), 7, 0, 0, 3, 0), (yX7_leftOf, cX7_leftOf, 5, (some .int), 7, 0, 0, 1, 1), (yX8_init, cX8_init, 2, none, 8, 316, 6883, 0, 2), (yX8_feed, cX8_feed, 7, (some .int), 8, 0, 0, 5, 1), (yX8_end, cX8_end, 2, (some .boolean), 8, 0, 0, 1, 1), (yX8_fault, cX8_fault, 3, (some .int), 8, 0, 0, 1, 1), (yX8_quay, cX8_quay, 1, (some .int), 8, 0, 0, 0, 1), (yX8_plan, cX8_plan, 1, (some .int), 8, 0, 0, 0, 1), (yX8_go, cX8_go, 3, (some .int), 8, 0, 0, 1, 1), (yX8_breaks, cX8_breaks, 3, (some .int), 8, 0, 0, 2, 1), (yX8_more, cX8_more, 6, (some .int), 8, 0, 0, 4, 1), (yX8_rule, cX8_rule, 2, (some .int), 8, 0, 0, 1, 1), (yX8_crane, cX8_crane, 3, (some .int), 8, 0, 0, 2, 1)]
def mTab5 : List mI := [(yX8_task, cX8_task, 3, (some .int), 8, 0, 0, 2, 1), (yX8_last, cX8_last, 1, (some .int), 8, 0, 0, 0, 1), (yX8_where, cX8_where, 3, (some .int), 8, 0, 0, 2, 1), (yX8_deed, cX8_deed, 3, (some .int), 8, 0, 0, 2, 1), (yX8_deeds, cX8_deeds, 4, (some .int), 8, 0, 0, 3, 1), (yX8_doneBy, cX8_doneBy, 2, (some .int), 8, 0, 0, 1, 1), (yX8_tried, cX8_tried, 1, (some .int), 8, 0, 0, 0, 1), (yX8_moves, cX8_moves, 2, (some .int), 8, 0, 0, 0, 1), (yX8_best, cX8_best, 2, (some .int), 8, 0, 0, 1, 1), (yX8_easy, cX8_easy, 2, (some .int), 8, 0, 0, 1, 1), (yX8_zones, cX8_zones, 2, (some .int), 8, 0, 0, 1, 1), (yX8_better, cX8_better, 2, (some .int), 8, 0, 0, 1, 1), (yX8_follow, cX8_follow, 3, (some .int), 8, 0, 0, 1, 1), (yX8_written, cX8_written, 5, (some .int), 8, 0, 0, 1, 1), (yX8_nearest, cX8_nearest, 6, (some .int), 8, 0, 0, 1, 1), (yX8_swings, cX8_swings, 7, (some .int), 8, 0, 0, 2, 1), (yX8_idle, cX8_idle, 2, (some .int), 8, 0, 0, 1, 1), (yX8_dearest, cX8_dearest, 6, (some .int), 8, 0, 0, 1, 1), (yX8_bound, cX8_bound, 2, (some .int), 8, 0, 0, 1, 1), (yX8_without, cX8_without, 2, (some .int), 8, 0, 0, 1, 1)]
def mTab6 : List mI := [(yX8_slack, cX8_slack, 4, (some .int), 8, 0, 0, 1, 1), (yX8_mean, cX8_mean, 4, (some .long), 8, 0, 0, 1, 1), (yX8_undo, cX8_undo, 1, (some .int), 8, 0, 0, 0, 1), (yX8_image, cX8_image, 1, (some .int), 8, 0, 0, 0, 1), (yX8_back, cX8_back, 1, (some .int), 8, 0, 0, 0, 1), (yX8_status, cX8_status, 2, (some .int), 8, 0, 0, 1, 1), (yX8_most, cX8_most, 2, (some .int), 8, 0, 0, 1, 1), (yX8_count, cX8_count, 2, (some .int), 8, 0, 0, 1, 1), (yX8_hasQuay, cX8_hasQuay, 1, (some .boolean), 8, 0, 0, 0, 1), (yX8_isCrane, cX8_isCrane, 2, (some .boolean), 8, 0, 0, 1, 1), (yX8_isTask, cX8_isTask, 2, (some .boolean), 8, 0, 0, 1, 1), (yX8_isSpan, cX8_isSpan, 2, (some .boolean), 8, 0, 0, 1, 1), (yX8_canTell, cX8_canTell, 2, (some .boolean), 8, 0, 0, 1, 1), (yX8_tooManyLeft, cX8_tooManyLeft, 1, (some .boolean), 8, 0, 0, 0, 1), (yX8_refuse, cX8_refuse, 2, (some .int), 8, 0, 0, 1, 1), (yX8_changed, cX8_changed, 2, none, 8, 0, 0, 0, 1), (yX8_ahead, cX8_ahead, 1, (some (.object "QuayCranes$Course")), 8, 0, 0, 0, 1), (yX8_writtenOf, cX8_writtenOf, 3, (some .int), 8, 0, 0, 2, 1), (yX8_isTrue, cX8_isTrue, 5, (some .boolean), 8, 0, 0, 1, 1), (yX8_bytesIn, cX8_bytesIn, 3, (some .int), 8, 0, 0, 1, 0)]
def mTab7 : List mI := [(yX8_bitsOfFloat, cX8_bitsOfFloat, 4, (some .int), 8, 0, 0, 1, 0), (yX8_bitsOfDouble, cX8_bitsOfDouble, 6, (some .long), 8, 0, 0, 1, 0), (yX9_in, cX9_in, 6, (some .boolean), 9, 0, 0, 3, 0), (yX9_init, cX9_init, 1, none, 9, 16, 2250, 0, 2), (yX9_thrown, cX9_thrown, 1, (some .int), 9, 0, 0, 0, 1), (yX9_byteOf, cX9_byteOf, 7, (some .int), 9, 0, 0, 6, 0), (yX9_feed, cX9_feed, 9, (some .int), 9, 0, 0, 5, 1), (yX9_end, cX9_end, 2, (some .boolean), 9, 0, 0, 1, 1), (yX9_see, cX9_see, 2, (some .int), 9, 0, 0, 1, 1), (yX9_isSmall, cX9_isSmall, 1, (some .boolean), 9, 0, 0, 1, 0), (yX9_isDigit, cX9_isDigit, 1, (some .boolean), 9, 0, 0, 1, 0), (yX9_next, cX9_next, 2, none, 9, 0, 0, 0, 1), (yX9_begins, cX9_begins, 1, none, 9, 0, 0, 0, 1), (yX9_bad, cX9_bad, 1, none, 9, 0, 0, 0, 1), (yX9_isWord, cX9_isWord, 4, (some .boolean), 9, 0, 0, 1, 1), (yX9_takesWord, cX9_takesWord, 3, (some .boolean), 9, 0, 0, 1, 1), (yX9_mustWord, cX9_mustWord, 2, none, 9, 0, 0, 1, 1), (yX9_takesSemicolon, cX9_takesSemicolon, 2, (some .boolean), 9, 0, 0, 0, 1), (yX9_isNumber, cX9_isNumber, 3, (some .boolean), 9, 0, 0, 2, 1), (yX9_takesNumber, cX9_takesNumber, 4, (some .int), 9, 0, 0, 2, 1)]
def mTab8 : List mI := [(yX9_mustEnd, cX9_mustEnd, 1, none, 9, 0, 0, 0, 1), (yX9_craneAt, cX9_craneAt, 2, (some .int), 9, 0, 0, 2, 0), (yX9_taskAt, cX9_taskAt, 2, (some .int), 9, 0, 0, 2, 0), (yX9_readsCrane, cX9_readsCrane, 4, none, 9, 0, 0, 0, 1), (yX9_readsTask, cX9_readsTask, 2, none, 9, 0, 0, 0, 1), (yX9_readsQuay, cX9_readsQuay, 3, (some .int), 9, 0, 0, 0, 1), (yX9_listAt, cX9_listAt, 1, (some .int), 9, 0, 0, 1, 0), (yX9_clears, cX9_clears, 3, none, 9, 0, 0, 1, 1), (yX9_isLeft, cX9_isLeft, 3, (some .boolean), 9, 0, 0, 2, 1), (yX9_canLift, cX9_canLift, 3, (some .boolean), 9, 0, 0, 2, 1), (yX9_readsPlan, cX9_readsPlan, 5, (some .int), 9, 0, 0, 0, 1), (yX9_readsMoves, cX9_readsMoves, 3, (some .int), 9, 0, 0, 0, 1), (yX9_fault, cX9_fault, 2, (some .int), 9, 0, 0, 1, 1), (yX9_quay, cX9_quay, 2, (some .int), 9, 0, 0, 0, 1), (yX9_copies, cX9_copies, 3, none, 9, 0, 0, 2, 0), (yX9_keeps, cX9_keeps, 2, none, 9, 0, 0, 0, 1), (yX9_undo, cX9_undo, 2, (some .int), 9, 0, 0, 0, 1), (yX9_refuses, cX9_refuses, 2, (some .int), 9, 0, 0, 1, 1), (yX9_status, cX9_status, 2, (some .int), 9, 0, 0, 1, 1), (yX9_sway, cX9_sway, 2, (some .float), 9, 0, 0, 2, 0)]
def mTab9 : List mI := [(yX9_isDone, cX9_isDone, 2, (some .boolean), 9, 0, 0, 2, 0), (yX9_nextOf, cX9_nextOf, 4, (some .int), 9, 0, 0, 2, 0), (yX9_isFree, cX9_isFree, 4, (some .boolean), 9, 0, 0, 2, 0), (yX9_worksNow, cX9_worksNow, 3, (some .boolean), 9, 0, 0, 2, 0), (yX9_canGo, cX9_canGo, 6, (some .boolean), 9, 0, 0, 3, 1), (yX9_goes, cX9_goes, 6, none, 9, 0, 0, 3, 1), (yX9_steps, cX9_steps, 6, none, 9, 0, 0, 2, 1), (yX9_swings, cX9_swings, 4, none, 9, 0, 0, 2, 1), (yX9_works, cX9_works, 4, none, 9, 0, 0, 2, 1), (yX9_goesMinute, cX9_goesMinute, 3, none, 9, 0, 0, 1, 1), (yX9_isOver, cX9_isOver, 4, (some .boolean), 9, 0, 0, 1, 1), (yX9_lastOf, cX9_lastOf, 4, (some .int), 9, 0, 0, 2, 1), (yX9_lastOf_, cX9_lastOf_, 2, (some .int), 9, 0, 0, 1, 1), (yX9_told, cX9_told, 1, (some .int), 9, 0, 0, 1, 0), (yX9_takes, cX9_takes, 5, none, 9, 0, 0, 2, 1), (yX9_plan, cX9_plan, 1, (some .int), 9, 0, 0, 0, 1), (yX9_go, cX9_go, 3, (some .int), 9, 0, 0, 1, 1), (yX9_isCrane, cX9_isCrane, 2, (some .boolean), 9, 0, 0, 1, 1), (yX9_isTask, cX9_isTask, 2, (some .boolean), 9, 0, 0, 1, 1), (yX9_brokenSet, cX9_brokenSet, 3, (some .int), 9, 0, 0, 0, 1)]
def mTab10 : List mI := [(yX9_breaks, cX9_breaks, 3, (some .int), 9, 0, 0, 2, 1), (yX9_more, cX9_more, 6, (some .int), 9, 0, 0, 4, 1), (yX9_rule, cX9_rule, 2, (some .int), 9, 0, 0, 1, 1), (yX9_allTasks, cX9_allTasks, 1, (some .int), 9, 0, 0, 0, 1), (yX9_leftSet, cX9_leftSet, 3, (some .int), 9, 0, 0, 0, 1), (yX9_toldSet, cX9_toldSet, 4, (some .int), 9, 0, 0, 0, 1), (yX9_crane, cX9_crane, 3, (some .int), 9, 0, 0, 2, 1), (yX9_toldBy, cX9_toldBy, 4, (some .int), 9, 0, 0, 1, 1), (yX9_task, cX9_task, 3, (some .int), 9, 0, 0, 2, 1), (yX9_last, cX9_last, 1, (some .int), 9, 0, 0, 0, 1), (yX9_foretells, cX9_foretells, 3, none, 9, 0, 0, 1, 1), (yX9_where, cX9_where, 3, (some .int), 9, 0, 0, 2, 1), (yX9_deed, cX9_deed, 3, (some .int), 9, 0, 0, 2, 1), (yX9_deeds, cX9_deeds, 6, (some .int), 9, 0, 0, 3, 1), (yX9_doneBy, cX9_doneBy, 3, (some .int), 9, 0, 0, 1, 1), (yX9_tried, cX9_tried, 1, (some .int), 9, 0, 0, 0, 1), (yX9_isTrue, cX9_isTrue, 7, (some .boolean), 9, 0, 0, 1, 1), (yX9_moves, cX9_moves, 2, (some .int), 9, 0, 0, 0, 1), (yX9_clearsTrial, cX9_clearsTrial, 2, none, 9, 0, 0, 0, 1), (yX9_finds, cX9_finds, 5, none, 9, 0, 0, 2, 1)]
def mTab11 : List mI := [(yX9_judges, cX9_judges, 2, none, 9, 0, 0, 0, 1), (yX9_seeks, cX9_seeks, 4, none, 9, 0, 0, 2, 1), (yX9_isFew, cX9_isFew, 1, (some .boolean), 9, 0, 0, 0, 1), (yX9_seeksBest, cX9_seeksBest, 2, none, 9, 0, 0, 1, 1), (yX9_isSuch, cX9_isSuch, 2, (some .boolean), 9, 0, 0, 1, 1), (yX9_tells, cX9_tells, 4, (some .int), 9, 0, 0, 1, 1), (yX9_best, cX9_best, 2, (some .int), 9, 0, 0, 1, 1), (yX9_nearestFor, cX9_nearestFor, 7, (some .int), 9, 0, 0, 1, 1), (yX9_gives, cX9_gives, 3, none, 9, 0, 0, 1, 1), (yX9_isAllDone, cX9_isAllDone, 4, (some .boolean), 9, 0, 0, 1, 1), (yX9_seeksEasy, cX9_seeksEasy, 3, none, 9, 0, 0, 0, 1), (yX9_easy, cX9_easy, 2, (some .int), 9, 0, 0, 1, 1), (yX9_sorts, cX9_sorts, 3, none, 9, 0, 0, 0, 1), (yX9_cuts, cX9_cuts, 4, none, 9, 0, 0, 2, 1), (yX9_seeksZones, cX9_seeksZones, 1, none, 9, 0, 0, 0, 1), (yX9_zones, cX9_zones, 2, (some .int), 9, 0, 0, 1, 1), (yX9_takesOut, cX9_takesOut, 6, none, 9, 0, 0, 2, 1), (yX9_putsIn, cX9_putsIn, 5, none, 9, 0, 0, 3, 1), (yX9_triesPlaces, cX9_triesPlaces, 7, none, 9, 0, 0, 3, 1), (yX9_seeksBetter, cX9_seeksBetter, 4, (some .boolean), 9, 0, 0, 0, 1)]
def mTab12 : List mI := [(yX9_better, cX9_better, 2, (some .int), 9, 0, 0, 1, 1), (yX9_seeksWhich, cX9_seeksWhich, 2, (some .boolean), 9, 0, 0, 1, 1), (yX9_follow, cX9_follow, 2, (some .int), 9, 0, 0, 1, 1), (yX9_writes, cX9_writes, 2, none, 9, 0, 0, 1, 1), (yX9_written, cX9_written, 4, (some .int), 9, 0, 0, 1, 1), (yX9_nearestNow, cX9_nearestNow, 4, (some .int), 9, 0, 0, 1, 1), (yX9_nearest, cX9_nearest, 4, (some .int), 9, 0, 0, 1, 1), (yX9_swings_, cX9_swings_, 5, (some .int), 9, 0, 0, 2, 1), (yX9_nobodyWorks, cX9_nobodyWorks, 3, (some .boolean), 9, 0, 0, 0, 1), (yX9_idle, cX9_idle, 4, (some .int), 9, 0, 0, 1, 1), (yX9_without, cX9_without, 2, (some .int), 9, 0, 0, 1, 1), (yX9_dearest, cX9_dearest, 5, (some .int), 9, 0, 0, 1, 1), (yX9_leftOf, cX9_leftOf, 2, (some .int), 9, 0, 0, 2, 0), (yX9_rowOf, cX9_rowOf, 4, (some .int), 9, 0, 0, 1, 1), (yX9_firstBound, cX9_firstBound, 3, (some .int), 9, 0, 0, 0, 1), (yX9_secondBound, cX9_secondBound, 3, (some .int), 9, 0, 0, 0, 1), (yX9_thirdBound, cX9_thirdBound, 5, (some .int), 9, 0, 0, 0, 1), (yX9_bound, cX9_bound, 2, (some .int), 9, 0, 0, 1, 1), (yX9_slack, cX9_slack, 4, (some .int), 9, 0, 0, 1, 1), (yX9_mean, cX9_mean, 4, (some .long), 9, 0, 0, 1, 1)]
def mTab13 : List mI := [(yX9_image, cX9_image, 1, (some .int), 9, 0, 0, 0, 1), (yX9_back, cX9_back, 1, (some .int), 9, 0, 0, 0, 1), (yX9_leftBy, cX9_leftBy, 4, (some .int), 9, 0, 0, 1, 1), (yX9_busiest, cX9_busiest, 3, (some .int), 9, 0, 0, 0, 1), (yX9_leftAt, cX9_leftAt, 4, (some .int), 9, 0, 0, 1, 1), (yX9_fullest, cX9_fullest, 3, (some .int), 9, 0, 0, 0, 1), (yX9_longest, cX9_longest, 3, (some .int), 9, 0, 0, 0, 1), (yX9_wildest, cX9_wildest, 3, (some .int), 9, 0, 0, 0, 1), (yX9_most, cX9_most, 2, (some .int), 9, 0, 0, 1, 1), (yX9_count, cX9_count, 2, (some .int), 9, 0, 0, 1, 1), (yJ6_bitCount_0f7a4, cJ6_bitCount_0f7a4, 1, (some .int), 11, 0, 0, 1, 0), (yJxf58ca_floatToIntBits_5c35a, cJxf58ca_floatToIntBits_5c35a, 1, (some .int), 12, 0, 0, 1, 0), (yJxf58ca_isNaN_12338, cJxf58ca_isNaN_12338, 1, (some .boolean), 12, 0, 0, 1, 0), (yJxe99ae_doubleToLongBits_ccdee, cJxe99ae_doubleToLongBits_ccdee, 2, (some .long), 13, 0, 0, 1, 0), (yJxe99ae_isNaN_b9ae7, cJxe99ae_isNaN_b9ae7, 2, (some .boolean), 13, 0, 0, 1, 0), (yL_law, code, 7, some .boolean, 10, 847, 12263, 1, 0)]
def mTabs : List (List mI) := [mTab0, mTab1, mTab2, mTab3, mTab4, mTab5, mTab6, mTab7, mTab8, mTab9, mTab10, mTab11, mTab12, mTab13]
def mI0 : mI := (yX0_init, cX0_init, 0, none, 0, 0, 0, 0, 9)
def mG (m : Nat) : mI := (mTabs.getD (m / 20) []).getD (m % 20) mI0
def mY (m : Nat) : MethodName := (mG m).1
def mB (m : Nat) : ByteArray := (mG m).2.1
def mL (m : Nat) : Nat := (mG m).2.2.1
def mR (m : Nat) : Option FieldType := (mG m).2.2.2.1
def mC (m : Nat) : Nat := (mG m).2.2.2.2.1
def mMc (m : Nat) : Nat := if m = 1003 then 1 else (mG m).2.2.2.2.2.1
def mMs (m : Nat) : Nat := if m = 1003 then 6 else (mG m).2.2.2.2.2.2.1
def mNa (m : Nat) : Nat := if m < 1000 then (mG m).2.2.2.2.2.2.2.1 else [0, 1, 2, 4].getD (m - 1000) 0
def mSt (m : Nat) : Nat := (mG m).2.2.2.2.2.2.2.2
def pfT : List (List (Nat × Nat × Nat)) := [[(11, 0, 0), (18, 0, 1), (22, 0, 2)], [(12, 1, 0), (18, 1, 1), (22, 1, 2), (26, 1, 3), (29, 1, 4), (32, 1, 5)], [(9, 2, 0), (15, 2, 1), (19, 2, 2), (22, 2, 3), (25, 7, 19), (37, 2, 4), (45, 7, 6), (55, 2, 5), (59, 7, 7), (60, 7, 9), (61, 7, 3), (68, 7, 11)], [(9, 3, 0), (15, 3, 1)], [(12, 4, 0), (21, 4, 1), (28, 4, 2), (32, 4, 3), (52, 7, 0), (65, 7, 1), (72, 6, 3), (79, 7, 2), (86, 6, 4), (93, 4, 4), (99, 7, 7), (126, 7, 3)], [(12, 5, 0), (18, 5, 1), (24, 5, 2), (28, 5, 3), (34, 5, 4), (38, 5, 5), (42, 1, 1), (54, 1, 2), (66, 1, 5), (76, 7, 7), (89, 1, 4), (92, 7, 2), (103, 7, 3), (113, 7, 12), (119, 7, 13), (122, 7, 16), (136, 7, 5), (142, 5, 6), (148, 7, 19), (154, 7, 6), (167, 3, 1), (174, 1, 3), (194, 7, 15)], [(9, 6, 0), (15, 6, 1), (19, 6, 5), (29, 6, 2), (32, 6, 3), (42, 6, 4)], [(9, 7, 7), (15, 7, 8), (18, 7, 9), (22, 7, 10), (25, 7, 11), (28, 7, 12), (31, 7, 13), (34, 7, 14), (37, 7, 15), (40, 7, 16), (43, 7, 17), (46, 7, 18), (52, 7, 19), (56, 7, 0), (60, 7, 1), (63, 7, 2), (66, 7, 3), (69, 7, 4), (72, 7, 5), (75, 7, 6), (94, 3, 1), (97, 3, 0)], [(10, 8, 0), (16, 4, 0), (20, 8, 1), (24, 8, 2), (28, 8, 3), (31, 8, 4), (37, 8, 6), (44, 8, 7), (51, 8, 8), (58, 8, 9), (62, 8, 10), (65, 8, 11), (68, 8, 12), (71, 8, 13), (75, 8, 14), (83, 6, 1), (97, 6, 2), (107, 7, 2), (114, 4, 1), (121, 8, 5), (131, 7, 3), (141, 7, 19), (145, 4, 2), (157, 2, 4), (160, 7, 4), (172, 7, 5), (180, 7, 0), (190, 7, 1), (193, 7, 6), (203, 7, 7), (206, 7, 8), (212, 3, 1), (215, 7, 9), (224, 7, 12), (227, 7, 13), (230, 7, 14), (233, 7, 15), (236, 7, 16), (245, 7, 17), (248, 7, 18), (265, 2, 3), (271, 4, 4), (300, 1, 2), (301, 1, 3), (304, 1, 0), (338, 0, 2), (356, 2, 5), (359, 1, 1)], [(9, 9, 1), (13, 9, 11), (16, 9, 12), (19, 9, 17), (22, 9, 18), (25, 9, 19), (28, 9, 20), (31, 9, 22), (34, 9, 24), (37, 9, 25), (40, 9, 26), (44, 9, 27), (47, 9, 28), (50, 9, 29), (53, 9, 32), (56, 9, 40), (59, 9, 0), (67, 9, 2), (74, 9, 3), (81, 9, 4), (91, 9, 6), (94, 9, 7), (104, 9, 5), (134, 9, 16), (140, 9, 15), (143, 9, 14), (192, 9, 10), (205, 9, 21), (210, 9, 13), (223, 9, 8), (225, 9, 9), (231, 9, 23), (234, 9, 41), (363, 9, 30), (393, 9, 31), (408, 9, 33), (427, 9, 34), (430, 9, 35), (433, 9, 36), (445, 9, 37), (448, 9, 38), (451, 9, 39)], [], [], [], [], [], []]
def pmT : List (List (Nat × Nat)) := [[(17, 63), (25, 65)], [(11, 18), (35, 19), (38, 20), (42, 26), (46, 27)], [(31, 29), (41, 11), (48, 75), (52, 12), (64, 69), (69, 15)], [(18, 23), (22, 26), (26, 27), (29, 28)], [(11, 53), (20, 63), (27, 18), (36, 64), (39, 55), (44, 35), (48, 59), (55, 36), (61, 57), (69, 37), (75, 38), (78, 19), (82, 58), (89, 40), (96, 56), (104, 66), (108, 39), (122, 67), (129, 69), (132, 70), (135, 26), (139, 22)], [(11, 63), (23, 18), (33, 5), (46, 45), (50, 46), (58, 6), (62, 79), (69, 19), (72, 72), (79, 43), (95, 50), (99, 68), (106, 70), (110, 71), (125, 22), (129, 25), (132, 65), (139, 47), (145, 69), (151, 29), (157, 49), (161, 20), (164, 24), (170, 23), (177, 74), (180, 7), (184, 52), (187, 75), (191, 73)], [(22, 56), (25, 60), (35, 61), (39, 62), (45, 1000), (50, 1001)], [(51, 18), (78, 19), (81, 20), (100, 29), (104, 75), (108, 73), (112, 76), (115, 77), (119, 78), (125, 72), (128, 270), (133, 86), (136, 80), (139, 81), (142, 88), (145, 87), (149, 21)], [(9, 30), (23, 63), (36, 0), (43, 9), (50, 41), (57, 5), (79, 139), (89, 54), (93, 31), (100, 128), (103, 32), (110, 33), (117, 65), (125, 1), (128, 135), (134, 134), (138, 2), (148, 20), (153, 136), (163, 75), (166, 129), (169, 68), (175, 270), (183, 130), (186, 67), (196, 29), (209, 73), (220, 140), (239, 69), (242, 26), (251, 131), (254, 13), (258, 15), (261, 16), (268, 74), (274, 138), (277, 132), (280, 133), (283, 42), (287, 8), (290, 51), (294, 44), (297, 48), (305, 27), (308, 137), (316, 14), (320, 17), (323, 79), (328, 141), (332, 3), (335, 4), (341, 83), (344, 82), (347, 85), (350, 84), (353, 72), (360, 10), (363, 21), (366, 34)], [(63, 145), (70, 142), (77, 148), (84, 149), (88, 150), (107, 151), (110, 1000), (116, 1001), (120, 154), (124, 155), (127, 153), (130, 158), (137, 161), (146, 159), (151, 156), (155, 162), (164, 152), (169, 157), (177, 163), (182, 164), (185, 160), (188, 167), (195, 168), (199, 169), (202, 166), (214, 165), (217, 170), (220, 171), (227, 174), (245, 180), (248, 181), (252, 182), (255, 179), (262, 184), (266, 185), (273, 271), (277, 183), (280, 186), (284, 187), (287, 188), (290, 190), (294, 189), (297, 191), (300, 177), (304, 175), (307, 194), (309, 192), (312, 193), (317, 197), (320, 199), (323, 270), (328, 198), (335, 203), (338, 204), (341, 205), (347, 207), (352, 210), (360, 216), (366, 219), (369, 220), (372, 221), (376, 218), (381, 224), (384, 222), (387, 223), (390, 225), (396, 227), (399, 229), (402, 228), (405, 230), (411, 233), (414, 232), (417, 234), (420, 236), (423, 237), (436, 238), (439, 239), (442, 241), (454, 243), (457, 245), (460, 1002), (464, 248), (469, 253), (472, 252), (475, 254), (478, 255), (481, 256), (486, 273), (492, 262), (495, 264), (498, 263), (501, 265), (504, 266), (507, 267)], [(7, 99), (15, 89), (18, 143), (19, 90), (23, 146), (24, 91), (28, 147), (29, 92), (33, 172), (34, 93), (38, 173), (39, 94), (42, 195), (43, 95), (46, 196), (47, 96), (51, 200), (52, 97), (56, 201), (57, 98), (60, 202), (61, 1003), (66, 206), (67, 144), (70, 100), (73, 208), (74, 101), (77, 209), (78, 102), (81, 211), (82, 103), (85, 212), (86, 104), (90, 213), (91, 105), (94, 214), (95, 106), (98, 215), (99, 107), (102, 217), (103, 108), (106, 226), (107, 109), (110, 231), (111, 110), (114, 235), (115, 111), (118, 240), (119, 112), (122, 242), (123, 113), (126, 244), (127, 114), (130, 246), (131, 115), (134, 247), (135, 116), (138, 249), (139, 117), (142, 251), (143, 118), (146, 257), (147, 119), (150, 250), (151, 120), (154, 258), (155, 121), (159, 259), (160, 122), (163, 176), (164, 123), (167, 260), (168, 124), (171, 261), (172, 125), (175, 178), (176, 126), (179, 268), (180, 127), (183, 269)], [], [(59, 272)], [(122, 274)], [], []]
def pnT : List (List (Nat × Nat)) := [[(3, 7)], [(3, 7)], [(3, 7)], [(3, 7)], [(3, 7)], [(3, 7), (83, 1), (116, 3)], [(3, 7)], [(3, 7), (85, 1), (91, 2)], [(1, 7), (311, 2), (369, 3)], [(3, 7), (98, 2), (239, 4), (259, 3), (467, 1)], [], [], [(74, 5)], [(134, 6)], [], []]
def pcT : List (List (Nat × Nat)) := [[(9, 7)], [(9, 3)], [], [], [(9, 6), (18, 7), (25, 3)], [(9, 7), (21, 3), (31, 1)], [], [(49, 3)], [(7, 4), (21, 7), (34, 0), (41, 2), (48, 5), (55, 1)], [], [(8, 8), (16, 9)], [], [], [], [], []]
def pkT : List (List (Nat × Value)) := [[], [], [], [], [(42, .ref 1000001), (59, .ref 1000002), (67, .ref 1000003), (102, .ref 1000004), (112, .ref 1000005), (114, .ref 1000006), (116, .ref 1000007), (118, .ref 1000008), (120, .ref 1000009)], [], [], [(122, .float 1061158912), (123, .float 1069547520), (124, .float 1056964608)], [(137, .int (-1000000)), (219, .float 1092616192), (326, .long (-1000000)), (372, .float 1056964608), (373, .float 1258291200), (374, .double 4611686018427387904), (376, .double 4602678819172646912), (378, .double 4841369599423283200)], [(97, .int (1000000)), (149, .ref 1000004), (150, .ref 1000006), (158, .ref 1000007), (160, .ref 1000008), (162, .ref 1000009), (167, .ref 1000001), (173, .ref 1000002), (175, .ref 1000003), (180, .ref 1000005), (208, .long (2)), (237, .long (3)), (270, .float 1061158912), (271, .float 1069547520), (272, .float 1056964608), (303, .int (-1000000)), (315, .long (100)), (331, .long (30)), (333, .long (99)), (344, .long (5)), (346, .float 1092616192), (350, .long (300)), (356, .long (299)), (358, .long (4)), (379, .long (10)), (484, .long (-1000000))], [], [(265, .int (1431655765)), (266, .int (858993459)), (267, .int (252645135))], [(77, .int (2143289344))], [(137, .long (9221120237041090560))], [], []]
def pf (c i : Nat) : Option (Nat × Nat) := ((pfT.getD c []).find? (fun e => e.1 == i)).map (fun e => e.2)
def pm (c i : Nat) : Option Nat := ((pmT.getD c []).find? (fun e => e.1 == i)).map (fun e => e.2)
def pn (c i : Nat) : Option Nat := ((pnT.getD c []).find? (fun e => e.1 == i)).map (fun e => e.2)
def pc (c i : Nat) : Option Nat := ((pcT.getD c []).find? (fun e => e.1 == i)).map (fun e => e.2)
def pk (c i : Nat) : Option Value := ((pkT.getD c []).find? (fun e => e.1 == i)).map (fun e => e.2)
def s_txt : List (List Int32) := [[98, 97, 121, 115], [103, 97, 112], [99, 114, 97, 110, 101], [108, 105, 102, 116], [116, 97, 115, 107], [97, 116], [116, 97, 107, 101, 115], [104, 101, 97, 118, 121], [97, 102, 116, 101, 114]]
def oo {α : Type} (x : Option α) (f : α → Prop) : Prop := match x with | some a => f a | none => False
def s_def (ci : Nat) : List Value := (List.range (cN ci)).map fun k => defaultValue (cTy ci k)
def s_isInit (m : Nat) : Bool := (mY m).name == "<init>"
/-- the numbers of the arrays' kinds -/
def s_kind (t : Nat) : FieldType := match t with
  | 0 => .int
  | 1 => .boolean
  | 2 => .float
  | 3 => .long
  | 4 => .object RX1
  | _ => .object RX7
/-- a call of m with n arguments: they and what is below them -/
def s_args (n : Nat) (S : List Value) : List Value := (S.take n).reverse
abbrev sM : Type := Nat → List Value → sH → sQ → Prop
def s_call (K : sM) (m : Nat) (pc : Nat) (L : List Value) (h : sH) (k : sK) (N : sN) (y : Nat) (args rest : List Value) : Prop :=
  s_cat rest ≤ 8 ∧ k.1 + mMc y ≤ mMc m ∧ k.2 + mMs y ≤ mMs m ∧ K y args h (fun v h' => N (pc + 3) L (v.toList ++ rest) h' (k.1 + mMc y, k.2 + mMs y))
def s_arr (m : Nat) (k : sK) (n : Int32) (h : sH) (t : Nat) (a : vp_A) (N : sH → sK → Prop) : Prop :=
  h.1 = true ∧ h.2.1 < 999999 ∧ ¬ n < 0 ∧ n.toNatClampNeg ≤ 100000 ∧ a.1 = n.toNatClampNeg ∧ k.1 + 1 ≤ mMc m ∧ k.2 + n.toNatClampNeg ≤ mMs m ∧ N (hn h (.inl (t, a))) (k.1 + 1, k.2 + n.toNatClampNeg)
def wpI (K : sM) (m : Nat) (i : Instr) (len pc0 : Nat) (L S : List Value) (h : sH) (k : sK) (N : sN) (Q : sQ) : Prop := match i with
  | .iconst n => N (pc0 + 1) L (.int (Int32.ofInt n) :: S) h k
  | .bipush n => N (pc0 + 2) L (.int (Int8.ofInt n).toInt32 :: S) h k
  | .sipush n => N (pc0 + 3) L (.int (Int16.ofInt n).toInt32 :: S) h k
  | .lconst n => N (pc0 + 1) L (.long (Int64.ofNat (n : Nat)) :: S) h k
  | .fconst n => N (pc0 + 1) L (.float (match n with | 0 => FP.fconst0 | 1 => FP.fconst1 | _ => FP.fconst2) :: S) h k
  | .dconst n => N (pc0 + 1) L (.double (match n with | 0 => FP.dconst0 | _ => FP.dconst1) :: S) h k
  | .ldc i => oo (pk (mC m) i) fun v => v.category = 1 ∧ N (pc0 + 2) L (v :: S) h k
  | .ldc_w i => oo (pk (mC m) i) fun v => ((∃ x, v = .int x) ∨ ∃ x, v = .float x) ∧ N (pc0 + 3) L (v :: S) h k
  | .ldc2_w i => oo (pk (mC m) i) fun v => v.category = 2 ∧ N (pc0 + 3) L (v :: S) h k
  | .iload_n i => gI L i fun x => N (pc0 + 1) L (.int x :: S) h k
  | .iload i => gI L i fun x => N (pc0 + 2) L (.int x :: S) h k
  | .lload_n i => gL L i fun x => N (pc0 + 1) L (.long x :: S) h k
  | .lload i => gL L i fun x => N (pc0 + 2) L (.long x :: S) h k
  | .fload_n i => gF L i fun x => N (pc0 + 1) L (.float x :: S) h k
  | .fload i => gF L i fun x => N (pc0 + 2) L (.float x :: S) h k
  | .dload_n i => gD L i fun x => N (pc0 + 1) L (.double x :: S) h k
  | .dload i => gD L i fun x => N (pc0 + 2) L (.double x :: S) h k
  | .aload_n i => gR L i fun x => N (pc0 + 1) L (.ref x :: S) h k
  | .aload i => gR L i fun x => N (pc0 + 2) L (.ref x :: S) h k
  | .istore_n i => pI S fun x S => (i : Nat) < mL m ∧ N (pc0 + 1) (s_st1 L i (.int x)) S h k
  | .istore i => pI S fun x S => i < mL m ∧ N (pc0 + 2) (s_st1 L i (.int x)) S h k
  | .fstore_n i => pF S fun x S => (i : Nat) < mL m ∧ N (pc0 + 1) (s_st1 L i (.float x)) S h k
  | .fstore i => pF S fun x S => i < mL m ∧ N (pc0 + 2) (s_st1 L i (.float x)) S h k
  | .astore_n i => pR S fun x S => (i : Nat) < mL m ∧ N (pc0 + 1) (s_st1 L i (.ref x)) S h k
  | .astore i => pR S fun x S => i < mL m ∧ N (pc0 + 2) (s_st1 L i (.ref x)) S h k
  | .dstore_n i => pD S fun x S => (i : Nat) + 1 < mL m ∧ N (pc0 + 1) (s_st2 L i (.double x)) S h k
  | .dstore i => pD S fun x S => i + 1 < mL m ∧ N (pc0 + 2) (s_st2 L i (.double x)) S h k
  | .iinc i n => gI L i fun x => i < mL m ∧ len = 3 ∧ N (pc0 + 3) (s_st1 L i (.int (x + Int32.ofInt n))) S h k
  | .iadd => pI S fun y S => pI S fun x S => N (pc0 + 1) L (.int (x + y) :: S) h k
  | .isub => pI S fun y S => pI S fun x S => N (pc0 + 1) L (.int (x - y) :: S) h k
  | .imul => pI S fun y S => pI S fun x S => N (pc0 + 1) L (.int (x * y) :: S) h k
  | .iand => pI S fun y S => pI S fun x S => N (pc0 + 1) L (.int (x &&& y) :: S) h k
  | .ior => pI S fun y S => pI S fun x S => N (pc0 + 1) L (.int (x ||| y) :: S) h k
  | .ixor => pI S fun y S => pI S fun x S => N (pc0 + 1) L (.int (x ^^^ y) :: S) h k
  | .idiv => pI S fun y S => pI S fun x S => ¬ y = 0 ∧ N (pc0 + 1) L (.int (x / y) :: S) h k
  | .irem => pI S fun y S => pI S fun x S => ¬ y = 0 ∧ N (pc0 + 1) L (.int (x - x / y * y) :: S) h k
  | .ishl => pI S fun y S => pI S fun x S => N (pc0 + 1) L (.int (x <<< (y &&& 31)) :: S) h k
  | .ishr => pI S fun y S => pI S fun x S => N (pc0 + 1) L (.int (x >>> (y &&& 31)) :: S) h k
  | .iushr => pI S fun y S => pI S fun x S => N (pc0 + 1) L (.int (x.toUInt32 >>> (y.toUInt32 &&& Int32.toUInt32 31)).toInt32 :: S) h k
  | .i2l => pI S fun x S => N (pc0 + 1) L (.long x.toInt64 :: S) h k
  | .i2d => pI S fun x S => N (pc0 + 1) L (.double (FP.i2d x) :: S) h k
  | .lor => pL S fun y S => pL S fun x S => N (pc0 + 1) L (.long (x ||| y) :: S) h k
  | .lshl => pI S fun y S => pL S fun x S => N (pc0 + 1) L (.long (x <<< (y.toInt64 &&& 63)) :: S) h k
  | .lcmp => pL S fun y S => pL S fun x S => N (pc0 + 1) L (.int (lg_cmp x y) :: S) h k
  | .fadd => pF S fun y S => pF S fun x S => vf_n32 (FP.fadd x y) ∧ N (pc0 + 1) L (.float (FP.fadd x y) :: S) h k
  | .fsub => pF S fun y S => pF S fun x S => vf_n32 (FP.fsub x y) ∧ N (pc0 + 1) L (.float (FP.fsub x y) :: S) h k
  | .fmul => pF S fun y S => pF S fun x S => vf_n32 (FP.fmul x y) ∧ N (pc0 + 1) L (.float (FP.fmul x y) :: S) h k
  | .fcmp o => pF S fun y S => pF S fun x S => N (pc0 + 1) L (.int (Op.cmpValue (FP.fcmp x y) o) :: S) h k
  | .f2i => pF S fun x S => N (pc0 + 1) L (.int (FP.f2i x) :: S) h k
  | .dmul => pD S fun y S => pD S fun x S => vf_n64 (FP.dmul x y) ∧ N (pc0 + 1) L (.double (FP.dmul x y) :: S) h k
  | .ddiv => pD S fun y S => pD S fun x S => vf_n64 (FP.ddiv x y) ∧ N (pc0 + 1) L (.double (FP.ddiv x y) :: S) h k
  | .dsub => pD S fun y S => pD S fun x S => vf_n64 (FP.dsub x y) ∧ N (pc0 + 1) L (.double (FP.dsub x y) :: S) h k
  | .dcmp o => pD S fun y S => pD S fun x S => N (pc0 + 1) L (.int (Op.cmpValue (FP.dcmp x y) o) :: S) h k
  | .d2l => pD S fun x S => N (pc0 + 1) L (.long (FP.d2l x) :: S) h k
  | .dup => pA S fun v S => v.category = 1 ∧ N (pc0 + 1) L (v :: v :: S) h k
  | .dup2 => pA S fun v S => pA S fun w S => v.category = 1 ∧ w.category = 1 ∧ N (pc0 + 1) L (v :: w :: v :: w :: S) h k
  | .dup_x1 => pA S fun v S => pA S fun w S => v.category = 1 ∧ w.category = 1 ∧ N (pc0 + 1) L (v :: w :: v :: S) h k
  | .pop => pA S fun v S => v.category = 1 ∧ N (pc0 + 1) L S h k
  | .goto off => s_jok pc0 off ∧ N (s_jmp pc0 off) L S h k
  | .ifCond o off => pI S fun x S => s_jok pc0 off ∧ s_cmp o x 0 (N (s_jmp pc0 off) L S h k) (N (pc0 + 3) L S h k)
  | .if_icmp o off => pI S fun y S => pI S fun x S => s_jok pc0 off ∧ s_cmp o x y (N (s_jmp pc0 off) L S h k) (N (pc0 + 3) L S h k)
  | .tableswitch d lo hi offs => pI S fun x S => if x.toInt < lo ∨ hi < x.toInt then s_jok pc0 d ∧ N (s_jmp pc0 d) L S h k else oo offs[(x.toInt - lo).toNat]? fun off => s_jok pc0 off ∧ N (s_jmp pc0 off) L S h k
  | .getfield i => pR S fun a S => oo (pf (mC m) i) fun f => oO h a fun c fs => c = f.1 ∧ oo fs[f.2]? fun v => N (pc0 + 3) L (v :: S) h k
  | .putfield i => pA S fun v S => pR S fun a S => oo (pf (mC m) i) fun f => oO h a fun c fs => c = f.1 ∧ f.2 < fs.length ∧ narrow (cTy f.1 f.2) v = v ∧ fits (cTy f.1 f.2) v = true ∧ (((cT f.1 f.2).2.2.2 = true) → mSt m = 2 ∧ f.1 = mC m) ∧ N (pc0 + 3) L S (hs h a (.inr (c, fs.set f.2 v))) k
  | .arraylength => pR S fun a S => oA h a fun t n => (t < 6 ∨ (t = 6 ∧ a = 1000000)) ∧ N (pc0 + 1) L (.int (Int32.ofNat n) :: S) h k
  | .iaload => pI S fun i S => pR S fun a S => oI h a fun t n g => (t = 0 ∨ (t = 6 ∧ a = 1000000)) ∧ vp_in i n ∧ N (pc0 + 1) L (.int (g i.toNatClampNeg) :: S) h k
  | .baload => pI S fun i S => pR S fun a S => oI h a fun t n g => t = 1 ∧ vp_in i n ∧ N (pc0 + 1) L (.int (g i.toNatClampNeg) :: S) h k
  | .faload => pI S fun i S => pR S fun a S => oF h a fun t n g => t = 2 ∧ vp_in i n ∧ N (pc0 + 1) L (.float (g i.toNatClampNeg) :: S) h k
  | .laload => pI S fun i S => pR S fun a S => oL h a fun t n g => t = 3 ∧ vp_in i n ∧ N (pc0 + 1) L (.long (g i.toNatClampNeg) :: S) h k
  | .aaload => pI S fun i S => pR S fun a S => oQ h a fun t n g => (t = 4 ∨ t = 5) ∧ vp_in i n ∧ oo (g i.toNatClampNeg) fun q => N (pc0 + 1) L (.ref q :: S) h k
  | .iastore => pI S fun x S => pI S fun i S => pR S fun a S => oI h a fun t n g => t = 0 ∧ vp_in i n ∧ N (pc0 + 1) L S (hs h a (.inl (t, n, .inl (upd g i.toNatClampNeg x)))) k
  | .bastore => pI S fun x S => pI S fun i S => pR S fun a S => oI h a fun t n g => t = 1 ∧ vp_in i n ∧ N (pc0 + 1) L S (hs h a (.inl (t, n, .inl (upd g i.toNatClampNeg (vp_nar .boolean x))))) k
  | .fastore => pF S fun x S => pI S fun i S => pR S fun a S => oF h a fun t n g => t = 2 ∧ vp_in i n ∧ N (pc0 + 1) L S (hs h a (.inl (t, n, .inr (.inr (.inl (vf_upd g i.toNatClampNeg x)))))) k
  | .aastore => pR S fun x S => pI S fun i S => pR S fun a S => oQ h a fun t n g => ((t = 4 ∧ oO h x fun c _ => c = 1) ∨ (t = 5 ∧ oO h x fun c _ => c = 7)) ∧ vp_in i n ∧ N (pc0 + 1) L S (hs h a (.inl (t, n, .inr (.inr (.inr (.inr (va_up g i.toNatClampNeg (some x)))))))) k
  | .new i => oo (pc (mC m) i) fun c => h.1 = true ∧ h.2.1 < 999999 ∧ k.1 + 1 ≤ mMc m ∧ k.2 + cN c ≤ mMs m ∧ N (pc0 + 3) L (.ref h.2.1 :: S) (hn h (.inr (c, s_def c))) (k.1 + 1, k.2 + cN c)
  | .newarray t => pI S fun n S => match t with
    | .int => s_arr m k n h 0 (n.toNatClampNeg, .inl fun _ => 0) fun h' k' => N (pc0 + 2) L (.ref h.2.1 :: S) h' k'
    | .boolean => s_arr m k n h 1 (n.toNatClampNeg, .inl fun _ => 0) fun h' k' => N (pc0 + 2) L (.ref h.2.1 :: S) h' k'
    | .float => s_arr m k n h 2 (n.toNatClampNeg, .inr (.inr (.inl fun _ => 0))) fun h' k' => N (pc0 + 2) L (.ref h.2.1 :: S) h' k'
    | .long => s_arr m k n h 3 (n.toNatClampNeg, .inr (.inl fun _ => 0)) fun h' k' => N (pc0 + 2) L (.ref h.2.1 :: S) h' k'
    | _ => False
  | .anewarray i => pI S fun n S => oo (pc (mC m) i) fun c => (c = 1 ∨ c = 7) ∧ s_arr m k n h (if c = 1 then 4 else 5) (n.toNatClampNeg, .inr (.inr (.inr (.inr fun _ => none)))) fun h' k' => N (pc0 + 3) L (.ref h.2.1 :: S) h' k'
  | .invokevirtual i => oo (pm (mC m) i) fun y => pR (S.drop (mNa y)) fun b rest => (S.take (mNa y)).length = mNa y ∧ (y < 1000 → mSt y = 1 ∧ oO h b fun c _ => c = mC y) ∧ s_call K m pc0 L h k N y (.ref b :: s_args (mNa y) S) rest
  | .invokespecial i => match pn (mC m) i with
    | some n => n = 7 ∧ pR S fun _ rest => s_cat rest ≤ 8 ∧ N (pc0 + 3) L rest h k
    | none => oo (pm (mC m) i) fun y => pR (S.drop (mNa y)) fun b rest => (S.take (mNa y)).length = mNa y ∧ y < 1000 ∧ mSt y = 2 ∧ s_call K m pc0 L h k N y (.ref b :: s_args (mNa y) S) rest
  | .invokestatic i => match pn (mC m) i with
    | some 1 => pI S fun y S => pI S fun x S => s_cat S ≤ 8 ∧ N (pc0 + 3) L (.int (if x < y then y else x) :: S) h k
    | some 2 => pI S fun y S => pI S fun x S => s_cat S ≤ 8 ∧ N (pc0 + 3) L (.int (if y < x then y else x) :: S) h k
    | some 3 => pI S fun x S => s_cat S ≤ 8 ∧ N (pc0 + 3) L (.int (if 0 ≤ x then x else 0 - x) :: S) h k
    | some 4 => pI S fun x S => s_cat S ≤ 8 ∧ vn_sni2f x = false ∧ N (pc0 + 3) L (.float x.toUInt32 :: S) h k
    | some 5 => pF S fun x S => s_cat S ≤ 8 ∧ N (pc0 + 3) L (.int x.toInt32 :: S) h k
    | some 6 => pD S fun x S => s_cat S ≤ 8 ∧ N (pc0 + 3) L (.long x.toInt64 :: S) h k
    | some _ => False
    | none => oo (pm (mC m) i) fun y => (S.take (mNa y)).length = mNa y ∧ (y < 1000 → mSt y = 0) ∧ s_call K m pc0 L h k N y (s_args (mNa y) S) (S.drop (mNa y))
  | .ireturn => pI S fun x S => S = [] ∧ oo (mR m) fun ty => narrow ty (.int x) = .int x ∧ Q (some (.int x)) h
  | .lreturn => pL S fun x S => S = [] ∧ mR m = some .long ∧ Q (some (.long x)) h
  | .freturn => pF S fun x S => S = [] ∧ mR m = some .float ∧ Q (some (.float x)) h
  | .areturn => pR S fun x S => S = [] ∧ (oo (mR m) fun ty => ∃ n, ty = .object n) ∧ Q (some (.ref x)) h
  | .return_ => S = [] ∧ mR m = none ∧ Q none h
  | _ => False
def s_len : Instr → Nat
  | .bipush _ => 2 | .ldc _ => 2 | .iload _ => 2 | .lload _ => 2 | .fload _ => 2 | .dload _ => 2 | .aload _ => 2 | .istore _ => 2 | .fstore _ => 2 | .dstore _ => 2 | .astore _ => 2 | .newarray _ => 2
  | .sipush _ => 3 | .ldc_w _ => 3 | .ldc2_w _ => 3 | .iinc _ _ => 3 | .goto _ => 3 | .ifCond _ _ => 3 | .if_icmp _ _ => 3 | .getfield _ => 3 | .putfield _ => 3 | .new _ => 3 | .anewarray _ => 3 | .invokevirtual _ => 3 | .invokespecial _ => 3 | .invokestatic _ => 3
  | .tableswitch _ _ _ _ => 0
  | _ => 1
def wpn (K : sM) (m : Nat) : Nat → Nat → List Value → List Value → sH → sK → sQ → Prop
  | 0, _, _, _, _, _, _ => False
  | n + 1, pc, L, S, h, k, Q => match decode (mB m) pc with
    | .ok (i, len) => (s_len i = 0 ∨ s_len i = len) ∧ wpI K m i len pc L S h k (fun pc L S h k => wpn K m n pc L S h k Q) Q
    | .error _ => False
def s_lay : List Value → List Value
  | [] => []
  | v :: vs => if v.category = 2 then v :: s_no :: s_lay vs else v :: s_lay vs
def s_entry (m : Nat) (args : List Value) : List Value := s_lay args ++ List.replicate (mL m - (s_lay args).length) s_no
