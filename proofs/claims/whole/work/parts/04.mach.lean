def mm_rl : List Nat := [1, 1, 1, 1, 1, 2, 2, 2, 2, 2, 2, 3, 3, 3, 3, 3, 3, 3, 3, 3, 3, 3, 3, 3, 4, 4, 4, 4, 4, 4, 4, 4, 4, 5, 5, 5, 5, 5, 5, 5, 5, 5, 5, 6, 6, 6, 6, 7, 7, 7, 7, 7, 7, 8, 8, 8, 8, 8, 8, 8, 8, 9, 9, 9, 9, 9, 9, 9, 9, 9, 9, 9, 9, 9, 9, 9, 9, 9, 9, 9, 9, 9, 9, 9, 9, 9, 9, 9, 9, 9, 9, 9, 9, 9, 9, 9, 9, 9, 9, 9, 9, 9, 10, 10, 10, 10, 10, 10, 10, 10, 10, 10, 10, 10, 10, 10, 10, 10, 10, 10, 10, 10, 10, 10, 10, 10, 10, 10, 10, 10, 10, 10, 10, 10, 10, 10, 10, 10, 10, 10, 10, 10, 10, 10, 10, 10, 10, 10, 10, 10, 10, 10, 0, 0, 0, 30, 30, 0, 0]
def mm_tab : List (Nat × Nat × List (Nat × mm_E)) := [(0, 1, mc_X0_init), (0, 2, mc_X0_doesBar), (0, 3, mc_X0_setBar), (0, 2, mc_X0_wouldOwe), (0, 2, mc_X0_settle), (1, 1, mc_X1_init), (1, 1, mc_X1_isFull), (1, 4, mc_X1_add), (1, 1, mc_X1_latestDay), (1, 4, mc_X1_textOf), (1, 5, mc_X1_lawOf), (2, 1, mc_X2_init), (2, 3, mc_X2_begin), (2, 3, mc_X2_addFit), (2, 2, mc_X2_offerOf), (2, 1, mc_X2_mostPairsOfAll), (2, 1, mc_X2_allOffers), (2, 5, mc_X2_mostPairsFrom), (2, 6, mc_X2_takeOne), (2, 4, mc_X2_match), (2, 7, mc_X2_leastOffer), (2, 2, mc_X2_reach), (2, 2, mc_X2_reachFurther), (2, 1, mc_X2_asksNotReached), (3, 1, mc_X3_init), (3, 1, mc_X3_oldestDay), (3, 1, mc_X3_notesOfOldestDay), (3, 4, mc_X3_put), (3, 5, mc_X3_insertHeap), (3, 8, mc_X3_moveOldest), (3, 5, mc_X3_dropNewest), (3, 5, mc_X3_dropBefore), (3, 3, mc_X3_removeOldestHeaps), (4, 1, mc_X4_init), (4, 4, mc_X4_read), (4, 3, mc_X4_readLaw), (4, 2, mc_X4_canStand), (4, 2, mc_X4_fail), (4, 2, mc_X4_scan), (4, 2, mc_X4_skipBlanks), (4, 3, mc_X4_scanName), (4, 1, mc_X4_nameOf), (4, 2, mc_X4_scanNumber), (5, 3, mc_X5_init), (5, 2, mc_X5_has), (5, 2, mc_X5_at), (5, 3, mc_X5_write), (6, 1, mc_X6_init), (6, 4, mc_X6_append), (6, 2, mc_X6_at), (6, 3, mc_X6_isLetter), (6, 3, mc_X6_isFigure), (6, 5, mc_X6_spells), (7, 1, mc_X7_init), (7, 2, mc_X7_has), (7, 2, mc_X7_familyOf), (7, 2, mc_X7_fromOf), (7, 2, mc_X7_toOf), (7, 4, mc_X7_add), (7, 3, mc_X7_remove), (7, 3, mc_X7_areOf), (8, 1, mc_X8_init), (8, 3, mc_X8_feed), (8, 3, mc_X8_end), (8, 3, mc_X8_vote), (8, 1, mc_X8_fault), (8, 1, mc_X8_unwind), (8, 3, mc_X8_rule), (8, 3, mc_X8_go), (8, 3, mc_X8_join), (8, 4, mc_X8_leave), (8, 6, mc_X8_bar), (8, 4, mc_X8_told), (8, 4, mc_X8_ask), (8, 4, mc_X8_offer), (8, 2, mc_X8_price), (8, 3, mc_X8_fits), (8, 1, mc_X8_met), (8, 2, mc_X8_sitter), (8, 2, mc_X8_why), (8, 2, mc_X8_would), (8, 4, mc_X8_broken), (8, 3, mc_X8_evening), (8, 4, mc_X8_sheet), (8, 5, mc_X8_lay), (8, 9, mc_X8_offers), (8, 2, mc_X8_count), (8, 2, mc_X8_familyAt), (8, 6, mc_X8_expireNotes), (8, 6, mc_X8_familiesHere), (8, 4, mc_X8_sumTold), (8, 5, mc_X8_addVisit), (8, 6, mc_X8_priceOf), (8, 9, mc_X8_areFitting), (8, 4, mc_X8_lookForFits), (8, 2, mc_X8_mostPairs), (8, 1, mc_X8_findTheMatch), (8, 6, mc_X8_hold), (8, 5, mc_X8_pay), (8, 1, mc_X8_isSheet), (8, 1, mc_X8_isLane), (8, 4, mc_X8_offerFrom), (9, 2, mc_X9_init), (9, 6, mc_X9_in), (9, 4, mc_X9_feed), (9, 3, mc_X9_end), (9, 3, mc_X9_fails), (9, 2, mc_X9_look), (9, 8, mc_X9_isName), (9, 1, mc_X9_nameNow), (9, 2, mc_X9_next), (9, 3, mc_X9_readLaw), (9, 4, mc_X9_vote), (9, 1, mc_X9_fault), (9, 1, mc_X9_unwind), (9, 4, mc_X9_textOf), (9, 5, mc_X9_law), (9, 3, mc_X9_rule), (9, 2, mc_X9_isFamily), (9, 4, mc_X9_expires), (9, 3, mc_X9_go), (9, 4, mc_X9_has), (9, 3, mc_X9_join), (9, 5, mc_X9_leave), (9, 5, mc_X9_bar), (9, 3, mc_X9_oldest), (9, 4, mc_X9_told), (9, 5, mc_X9_may), (9, 8, mc_X9_pays), (9, 4, mc_X9_isSpan), (9, 4, mc_X9_ask), (9, 4, mc_X9_offer), (9, 5, mc_X9_priceOf), (9, 2, mc_X9_price), (9, 6, mc_X9_isFit), (9, 3, mc_X9_fits), (9, 4, mc_X9_findFits), (9, 7, mc_X9_grows), (9, 5, mc_X9_change), (9, 5, mc_X9_most), (9, 6, mc_X9_matches), (9, 1, mc_X9_met), (9, 2, mc_X9_sitter), (9, 7, mc_X9_why), (9, 2, mc_X9_would), (9, 4, mc_X9_broken), (9, 6, mc_X9_evening), (9, 2, mc_X9_isSheet), (9, 5, mc_X9_sheet), (9, 4, mc_X9_lay), (9, 12, mc_X9_offers), (9, 6, mc_X9_count), (99, 4, mc_J7_fill_53178)]
/-! THE SMALL MACHINE. A heap of typed maps: kinds, int fields, reference fields (by 64 * class + field, then address), lengths, int cells, reference cells, next address, slots spent. Addresses 0..15 are given (0 the script, 1..3 static arrays, 4..8 texts), from 16 on they are made. Kinds: class + 1; 20 int[], 21 byte[], 22 boolean[], 23 Family[], 24 Row[], 25 int[][]; 30 a text. -/
abbrev mm_H : Type := (Nat → Nat) × (Nat → Nat → Int32) × (Nat → Nat → Option Nat) × (Nat → Nat) × (Nat → Nat → Int32) × (Nat → Nat → Option Nat) × Nat × Nat
abbrev mm_L : Type := List (Nat × Value)
abbrev mm_S : Type := Nat × mm_L × List Value × mm_H
abbrev h_kd (h : mm_H) : Nat → Nat := h.1
abbrev h_oi (h : mm_H) : Nat → Nat → Int32 := h.2.1
abbrev h_or (h : mm_H) : Nat → Nat → Option Nat := h.2.2.1
abbrev h_al (h : mm_H) : Nat → Nat := h.2.2.2.1
abbrev h_ai (h : mm_H) : Nat → Nat → Int32 := h.2.2.2.2.1
abbrev h_ar (h : mm_H) : Nat → Nat → Option Nat := h.2.2.2.2.2.1
abbrev h_n (h : mm_H) : Nat := h.2.2.2.2.2.2.1
abbrev h_s (h : mm_H) : Nat := h.2.2.2.2.2.2.2
def h_sI (h : mm_H) (g a : Nat) (v : Int32) : mm_H := (h_kd h, va_up (h_oi h) g (va_up (h_oi h g) a v), h_or h, h_al h, h_ai h, h_ar h, h_n h, h_s h)
def h_sR (h : mm_H) (g a : Nat) (v : Option Nat) : mm_H := (h_kd h, h_oi h, va_up (h_or h) g (va_up (h_or h g) a v), h_al h, h_ai h, h_ar h, h_n h, h_s h)
def h_sA (h : mm_H) (a i : Nat) (v : Int32) : mm_H := (h_kd h, h_oi h, h_or h, h_al h, va_up (h_ai h) a (va_up (h_ai h a) i v), h_ar h, h_n h, h_s h)
def h_sQ (h : mm_H) (a i : Nat) (v : Option Nat) : mm_H := (h_kd h, h_oi h, h_or h, h_al h, h_ai h, va_up (h_ar h) a (va_up (h_ar h a) i v), h_n h, h_s h)
def h_nO (h : mm_H) (ci N : Nat) : mm_H := (va_up (h_kd h) (h_n h) (ci + 1), fun g => va_up (h_oi h g) (h_n h) 0, fun g => va_up (h_or h g) (h_n h) none, h_al h, h_ai h, h_ar h, h_n h + 1, h_s h + N)
def h_nA (h : mm_H) (κ N : Nat) : mm_H := (va_up (h_kd h) (h_n h) κ, h_oi h, h_or h, va_up (h_al h) (h_n h) N, va_up (h_ai h) (h_n h) (fun _ => 0), va_up (h_ar h) (h_n h) (fun _ => none), h_n h + 1, h_s h + N)
def h_nM (h : mm_H) (N K : Nat) : mm_H := (fun a => if a = h_n h then 25 else if h_n h < a ∧ a ≤ h_n h + N then 20 else h_kd h a, h_oi h, h_or h, fun a => if a = h_n h then N else if h_n h < a ∧ a ≤ h_n h + N then K else h_al h a, fun a => if h_n h < a ∧ a ≤ h_n h + N then (fun _ => 0) else h_ai h a, va_up (h_ar h) (h_n h) (fun i => if i < N then some (h_n h + 1 + i) else none), h_n h + 1 + N, h_s h + N + N * K)
/-- is the field a reference? -/
def mm_ri (ci k : Nat) : Bool := match ci with
  | 0 => k == 0
  | 1 => k == 0 || k == 1
  | 2 => k == 0 || k == 1 || k == 2
  | 3 => k == 0 || k == 1
  | 4 => k == 0
  | 5 => k == 1
  | 6 => k == 0
  | 7 => k == 0 || k == 1 || k == 2
  | 8 => k == 0 || k == 1 || k == 2 || k == 3 || k == 4 || k == 5 || k == 6 || k == 7
  | 9 => k == 0 || k == 8 || k == 10 || k == 11 || k == 15 || k == 16 || k == 17 || k == 18 || k == 19 || k == 20 || k == 25 || k == 26 || k == 27 || k == 29 || k == 30 || k == 31 || k == 32 || k == 33 || k == 34 || k == 35 || k == 36 || k == 37 || k == 38 || k == 39 || k == 40
  | _ => false
/-- slots of a class -/
def mm_N (ci : Nat) : Nat := match ci with
  | 0 => 5
  | 1 => 3
  | 2 => 8
  | 3 => 4
  | 4 => 7
  | 5 => 2
  | 6 => 2
  | 7 => 4
  | 8 => 14
  | 9 => 41
  | _ => 0
def mm_fv (h : mm_H) (ci k a : Nat) : Value := if mm_ri ci k = true then va_rf (h_or h (64 * ci + k) a) else .int (h_oi h (64 * ci + k) a)
def mm_st (lo : mm_L) (i : Nat) (v : Value) : mm_L := (i, v) :: lo.filter (fun q => !(q.1 == i) && !(q.1 + 1 == i && q.2.category == 2))
def mm_st2 (lo : mm_L) (i : Nat) (v : Value) : mm_L := (i, v) :: lo.filter (fun q => !(q.1 == i) && (!(q.1 == i + 1) && !(q.1 + 1 == i && q.2.category == 2)))
def mm_lk : mm_L → Nat → Option Value
  | [], _ => none
  | q :: t, i => if q.1 == i then some q.2 else mm_lk t i
def mm_cl : List (Nat × mm_E) → Nat → Option mm_E
  | [], _ => none
  | q :: t, i => if q.1 == i then some q.2 else mm_cl t i
def mm_cz (c : ClassFile.Cond) (x : Int32) : Bool := match c with
  | .eq => decide (x = 0)
  | .ne => decide (¬ x = 0)
  | .lt => decide (x < 0)
  | .ge => decide (0 ≤ x)
  | .gt => decide (0 < x)
  | .le => decide (x ≤ 0)
def mm_c2 (c : ClassFile.Cond) (x y : Int32) : Bool := match c with
  | .eq => decide (x = y)
  | .ne => decide (¬ x = y)
  | .lt => decide (x < y)
  | .ge => decide (y ≤ x)
  | .gt => decide (y < x)
  | .le => decide (x ≤ y)
/-- constants, locals -/
def mm_X1 (nL : Nat) (e : mm_E) (pc : Nat) (lo : mm_L) (st : List Value) (h : mm_H) (s' : mm_S) : Prop := match e.1 with
  | .iconst n => s' = (pc + 1, lo, .int (Int32.ofInt n) :: st, h)
  | .bipush n => s' = (pc + 2, lo, .int (Int8.ofInt n).toInt32 :: st, h)
  | .sipush n => s' = (pc + 3, lo, .int (Int16.ofInt n).toInt32 :: st, h)
  | .lconst n => s' = (pc + 1, lo, .long (Int64.ofNat (n : Nat)) :: st, h)
  | .aconst_null => s' = (pc + 1, lo, .null :: st, h)
  | .ldc2_w _ => s' = (pc + 3, lo, .long (Int64.ofNat e.2.2.1) :: st, h)
  | .ldc _ => s' = (pc + 2, lo, .ref e.2.2.1 :: st, h)
  | .getstatic _ => s' = (pc + 3, lo, .ref e.2.2.1 :: st, h)
  | .iload_n k => ∃ x, mm_lk lo (k : Nat) = some (.int x) ∧ s' = (pc + 1, lo, .int x :: st, h)
  | .iload k => ∃ x, mm_lk lo k = some (.int x) ∧ s' = (pc + 2, lo, .int x :: st, h)
  | .lload_n k => ∃ x, mm_lk lo (k : Nat) = some (.long x) ∧ s' = (pc + 1, lo, .long x :: st, h)
  | .lload k => ∃ x, mm_lk lo k = some (.long x) ∧ s' = (pc + 2, lo, .long x :: st, h)
  | .aload_n k => ∃ r, mm_lk lo (k : Nat) = some (va_rf r) ∧ s' = (pc + 1, lo, va_rf r :: st, h)
  | .aload k => ∃ r, mm_lk lo k = some (va_rf r) ∧ s' = (pc + 2, lo, va_rf r :: st, h)
  | .istore_n k => ∃ x rest, st = .int x :: rest ∧ (k : Nat) < nL ∧ s' = (pc + 1, mm_st lo (k : Nat) (.int x), rest, h)
  | .istore k => ∃ x rest, st = .int x :: rest ∧ k < nL ∧ s' = (pc + 2, mm_st lo k (.int x), rest, h)
  | .lstore_n k => ∃ x rest, st = .long x :: rest ∧ (k : Nat) + 1 < nL ∧ s' = (pc + 1, mm_st2 lo (k : Nat) (.long x), rest, h)
  | .lstore k => ∃ x rest, st = .long x :: rest ∧ k + 1 < nL ∧ s' = (pc + 2, mm_st2 lo k (.long x), rest, h)
  | .astore_n k => ∃ r rest, st = va_rf r :: rest ∧ (k : Nat) < nL ∧ s' = (pc + 1, mm_st lo (k : Nat) (va_rf r), rest, h)
  | .astore k => ∃ r rest, st = va_rf r :: rest ∧ k < nL ∧ s' = (pc + 2, mm_st lo k (va_rf r), rest, h)
  | .iinc k n => ∃ x, mm_lk lo k = some (.int x) ∧ k < nL ∧ s' = (pc + 3, mm_st lo k (.int (x + Int32.ofInt n)), st, h)
  | _ => False
/-- arithmetic, the stack -/
def mm_X2 (e : mm_E) (pc : Nat) (lo : mm_L) (st : List Value) (h : mm_H) (s' : mm_S) : Prop := match e.1 with
  | .iadd => ∃ x y rest, st = .int y :: .int x :: rest ∧ s' = (pc + 1, lo, .int (x + y) :: rest, h)
  | .isub => ∃ x y rest, st = .int y :: .int x :: rest ∧ s' = (pc + 1, lo, .int (x - y) :: rest, h)
  | .imul => ∃ x y rest, st = .int y :: .int x :: rest ∧ s' = (pc + 1, lo, .int (x * y) :: rest, h)
  | .iand => ∃ x y rest, st = .int y :: .int x :: rest ∧ s' = (pc + 1, lo, .int (x &&& y) :: rest, h)
  | .ior => ∃ x y rest, st = .int y :: .int x :: rest ∧ s' = (pc + 1, lo, .int (x ||| y) :: rest, h)
  | .ixor => ∃ x y rest, st = .int y :: .int x :: rest ∧ s' = (pc + 1, lo, .int (x ^^^ y) :: rest, h)
  | .ishl => ∃ x y rest, st = .int y :: .int x :: rest ∧ s' = (pc + 1, lo, .int (x <<< (y &&& 31)) :: rest, h)
  | .ishr => ∃ x y rest, st = .int y :: .int x :: rest ∧ s' = (pc + 1, lo, .int (x >>> (y &&& 31)) :: rest, h)
  | .ladd => ∃ x y rest, st = .long y :: .long x :: rest ∧ s' = (pc + 1, lo, .long (x + y) :: rest, h)
  | .land => ∃ x y rest, st = .long y :: .long x :: rest ∧ s' = (pc + 1, lo, .long (x &&& y) :: rest, h)
  | .lor => ∃ x y rest, st = .long y :: .long x :: rest ∧ s' = (pc + 1, lo, .long (x ||| y) :: rest, h)
  | .lshl => ∃ (x : Int64) (y : Int32) (rest : List Value), st = .int y :: .long x :: rest ∧ s' = (pc + 1, lo, .long (x <<< (y.toInt64 &&& 63)) :: rest, h)
  | .lshr => ∃ (x : Int64) (y : Int32) (rest : List Value), st = .int y :: .long x :: rest ∧ s' = (pc + 1, lo, .long (x >>> (y.toInt64 &&& 63)) :: rest, h)
  | .lushr => ∃ (x : Int64) (y : Int32) (rest : List Value), st = .int y :: .long x :: rest ∧ s' = (pc + 1, lo, .long (x.toUInt64 >>> (y.toInt64.toUInt64 &&& Int64.toUInt64 63)).toInt64 :: rest, h)
  | .lcmp => ∃ x y rest, st = .long y :: .long x :: rest ∧ s' = (pc + 1, lo, .int (lg_cmp x y) :: rest, h)
  | .i2l => ∃ x rest, st = .int x :: rest ∧ s' = (pc + 1, lo, .long x.toInt64 :: rest, h)
  | .l2i => ∃ x rest, st = .long x :: rest ∧ s' = (pc + 1, lo, .int x.toInt32 :: rest, h)
  | .i2b => ∃ x rest, st = .int x :: rest ∧ s' = (pc + 1, lo, .int x.toInt8.toInt32 :: rest, h)
  | .dup => ∃ v rest, st = v :: rest ∧ v.category = 1 ∧ s' = (pc + 1, lo, v :: v :: rest, h)
  | .dup2 => ∃ v w rest, st = v :: w :: rest ∧ v.category = 1 ∧ w.category = 1 ∧ s' = (pc + 1, lo, v :: w :: v :: w :: rest, h)
  | .pop => ∃ v rest, st = v :: rest ∧ v.category = 1 ∧ s' = (pc + 1, lo, rest, h)
  | _ => False
/-- branches -/
def mm_X3 (e : mm_E) (pc : Nat) (lo : mm_L) (st : List Value) (h : mm_H) (s' : mm_S) : Prop := match e.1 with
  | .goto off => ∃ tgt : Nat, (pc : Int) + off = (tgt : Int) ∧ s' = (tgt, lo, st, h)
  | .ifCond c off => ∃ (tgt : Nat) (x : Int32) (rest : List Value), (pc : Int) + off = (tgt : Int) ∧ st = .int x :: rest ∧ s' = (if mm_cz c x = true then tgt else pc + 3, lo, rest, h)
  | .if_icmp c off => ∃ (tgt : Nat) (x y : Int32) (rest : List Value), (pc : Int) + off = (tgt : Int) ∧ st = .int y :: .int x :: rest ∧ s' = (if mm_c2 c x y = true then tgt else pc + 3, lo, rest, h)
  | .ifnull off => ∃ (tgt : Nat) (r : Option Nat) (rest : List Value), (pc : Int) + off = (tgt : Int) ∧ st = va_rf r :: rest ∧ s' = (if r = none then tgt else pc + 3, lo, rest, h)
  | .ifnonnull off => ∃ (tgt : Nat) (r : Option Nat) (rest : List Value), (pc : Int) + off = (tgt : Int) ∧ st = va_rf r :: rest ∧ s' = (if r = none then pc + 3 else tgt, lo, rest, h)
  | .tableswitch dflt low high offs => ∃ (tgt : Nat) (off : Int) (x : Int32) (rest : List Value), st = .int x :: rest ∧ (((x.toInt < low ∨ high < x.toInt) ∧ off = dflt) ∨ (¬ x.toInt < low ∧ ¬ high < x.toInt ∧ offs[(x.toInt - low).toNat]? = some off)) ∧ (pc : Int) + off = (tgt : Int) ∧ s' = (tgt, lo, rest, h)
  | _ => False
/-- the heap -/
def mm_X4 (e : mm_E) (pc : Nat) (lo : mm_L) (st : List Value) (h : mm_H) (s' : mm_S) : Prop := match e.1 with
  | .getfield _ => ∃ a rest, st = .ref a :: rest ∧ h_kd h a = e.2.2.1 + 1 ∧ s' = (pc + 3, lo, mm_fv h e.2.2.1 e.2.2.2 a :: rest, h)
  | .putfield _ => ∃ a rest, h_kd h a = e.2.2.1 + 1 ∧ 16 ≤ a ∧ ((∃ x, st = .int x :: .ref a :: rest ∧ mm_ri e.2.2.1 e.2.2.2 = false ∧ s' = (pc + 3, lo, rest, h_sI h (64 * e.2.2.1 + e.2.2.2) a x)) ∨ (∃ r, st = va_rf r :: .ref a :: rest ∧ mm_ri e.2.2.1 e.2.2.2 = true ∧ s' = (pc + 3, lo, rest, h_sR h (64 * e.2.2.1 + e.2.2.2) a r)))
  | .iaload => ∃ a i rest, st = .int i :: .ref a :: rest ∧ h_kd h a = 20 ∧ vp_in i (h_al h a) ∧ s' = (pc + 1, lo, .int (h_ai h a i.toNatClampNeg) :: rest, h)
  | .baload => ∃ a i rest, st = .int i :: .ref a :: rest ∧ (h_kd h a = 21 ∨ h_kd h a = 22) ∧ vp_in i (h_al h a) ∧ s' = (pc + 1, lo, .int (h_ai h a i.toNatClampNeg) :: rest, h)
  | .aaload => ∃ a i rest, st = .int i :: .ref a :: rest ∧ 23 ≤ h_kd h a ∧ h_kd h a ≤ 25 ∧ vp_in i (h_al h a) ∧ s' = (pc + 1, lo, va_rf (h_ar h a i.toNatClampNeg) :: rest, h)
  | .iastore => ∃ a i x rest, st = .int x :: .int i :: .ref a :: rest ∧ h_kd h a = 20 ∧ 16 ≤ a ∧ vp_in i (h_al h a) ∧ s' = (pc + 1, lo, rest, h_sA h a i.toNatClampNeg x)
  | .bastore => ∃ a i x rest, st = .int x :: .int i :: .ref a :: rest ∧ 16 ≤ a ∧ vp_in i (h_al h a) ∧ ((h_kd h a = 21 ∧ s' = (pc + 1, lo, rest, h_sA h a i.toNatClampNeg (vp_nar .byte x))) ∨ (h_kd h a = 22 ∧ s' = (pc + 1, lo, rest, h_sA h a i.toNatClampNeg (vp_nar .boolean x))))
  | .aastore => ∃ a i r rest, st = va_rf r :: .int i :: .ref a :: rest ∧ 16 ≤ a ∧ vp_in i (h_al h a) ∧ ((h_kd h a = 23 ∧ ∀ v, r = some v → h_kd h v = 1) ∨ (h_kd h a = 24 ∧ ∀ v, r = some v → h_kd h v = 6)) ∧ s' = (pc + 1, lo, rest, h_sQ h a i.toNatClampNeg r)
  | .arraylength => ∃ a rest, st = .ref a :: rest ∧ 20 ≤ h_kd h a ∧ h_kd h a ≤ 25 ∧ s' = (pc + 1, lo, .int (Int32.ofNat (h_al h a)) :: rest, h)
  | .new _ => s' = (pc + 3, lo, .ref (h_n h) :: st, h_nO h e.2.2.1 (mm_N e.2.2.1))
  | .newarray _ => ∃ (x : Int32) (rest : List Value), st = .int x :: rest ∧ ¬ x < 0 ∧ x.toNatClampNeg ≤ 100000000 ∧ s' = (pc + 2, lo, .ref (h_n h) :: rest, h_nA h e.2.2.1 x.toNatClampNeg)
  | .anewarray _ => ∃ (x : Int32) (rest : List Value), st = .int x :: rest ∧ ¬ x < 0 ∧ x.toNatClampNeg ≤ 100000000 ∧ s' = (pc + 3, lo, .ref (h_n h) :: rest, h_nA h e.2.2.1 x.toNatClampNeg)
  | .multianewarray _ _ => ∃ (x y : Int32) (rest : List Value), st = .int y :: .int x :: rest ∧ ¬ x < 0 ∧ ¬ y < 0 ∧ x.toNatClampNeg ≤ 100000000 ∧ y.toNatClampNeg ≤ 100000000 ∧ s' = (pc + 4, lo, .ref (h_n h) :: rest, h_nM h x.toNatClampNeg y.toNatClampNeg)
  | _ => False
def mm_X (nL : Nat) (e : mm_E) (pc : Nat) (lo : mm_L) (st : List Value) (h : mm_H) (s' : mm_S) : Prop := mm_X1 nL e pc lo st h s' ∨ mm_X2 e pc lo st h s' ∨ mm_X3 e pc lo st h s' ∨ mm_X4 e pc lo st h s'
/-- returns; a boolean method's answer is 0 or 1 -/
def mm_Z (e : mm_E) (st : List Value) (r : Option Value) : Prop := match e.1 with
  | .ireturn => ∃ x, st = [.int x] ∧ (e.2.2.1 = 0 ∨ x = 0 ∨ x = 1) ∧ r = some (.int x)
  | .return_ => st = [] ∧ r = none
  | .areturn => ∃ q, st = [va_rf q] ∧ r = some (va_rf q)
  | _ => False
/-- calls: the kind that the receiver must have, by the method -/
def mm_rc (y : Nat) : Nat := mm_rl.getD y 0
def mm_Y (e : mm_E) (st : List Value) (h : mm_H) (As rest : List Value) : Prop := (rest.map fun v => v.category).sum ≤ 8 ∧ match e.1 with
  | .invokestatic _ => st = As.reverse ++ rest ∧ As.length = e.2.2.2
  | .invokevirtual _ => ∃ b As', As = .ref b :: As' ∧ st = As'.reverse ++ .ref b :: rest ∧ As'.length = e.2.2.2 ∧ h_kd h b = mm_rc e.2.2.1 ∧ (mm_rc e.2.2.1 = 30 → b < 16)
  | .invokespecial _ => ∃ b As', As = .ref b :: As' ∧ st = As'.reverse ++ .ref b :: rest ∧ As'.length = e.2.2.2
  | _ => False
/-- Object's constructor; Math.max and Math.min of two ints -/
def mm_O (e : mm_E) (st st2 : List Value) : Prop := match e.1 with
  | .invokespecial _ => e.2.2.1 = 999 ∧ (st2.map fun v => v.category).sum ≤ 8 ∧ ∃ a, st = .ref a :: st2
  | .invokestatic _ => ∃ (x y : Int32) (rest : List Value), st = .int y :: .int x :: rest ∧ (rest.map fun v => v.category).sum ≤ 8 ∧ ((e.2.2.1 = 157 ∧ st2 = .int (if x < y then y else x) :: rest) ∨ (e.2.2.1 = 158 ∧ st2 = .int (if y < x then y else x) :: rest))
  | _ => False
/-- the texts' bytes -/
def mm_tx (a : Nat) : List Nat := match a with
  | 4 => [105, 115, 115, 117, 101]
  | 5 => [100, 111, 117, 98, 108, 101]
  | 6 => [101, 120, 112, 105, 114, 101]
  | 7 => [108, 97, 116, 101]
  | _ => [100, 101, 98, 116]
/-- the JDK's own: Arrays.copyOf (to another length), String.length, String.charAt -/
def mm_B (y : Nat) (As : List Value) (h : mm_H) (r : Option Value × mm_H) : Prop :=
  (y = 154 ∧ ∃ (a : Nat) (x : Int32), As = [.ref a, .int x] ∧ h_kd h a = 20 ∧ ¬ x < 0 ∧ x.toNatClampNeg ≤ 100000000 ∧ h_al h a < x.toNatClampNeg ∧ r.1 = some (.ref (h_n h)) ∧ r.2 = (va_up (h_kd h) (h_n h) 20, h_oi h, h_or h, va_up (h_al h) (h_n h) x.toNatClampNeg, va_up (h_ai h) (h_n h) (fun i => if i < h_al h a then h_ai h a i else 0), va_up (h_ar h) (h_n h) (fun _ => none), h_n h + 1, h_s h + x.toNatClampNeg)) ∨
  (y = 155 ∧ ∃ a : Nat, As = [.ref a] ∧ 4 ≤ a ∧ a ≤ 8 ∧ r.1 = some (.int (Int32.ofNat (mm_tx a).length)) ∧ r.2 = h) ∨
  (y = 156 ∧ ∃ (a : Nat) (x : Int32), As = [.ref a, .int x] ∧ 4 ≤ a ∧ a ≤ 8 ∧ vp_in x (mm_tx a).length ∧ r.1 = some (.int (Int32.ofNat ((mm_tx a).getD x.toNatClampNeg 0))) ∧ r.2 = h)
abbrev mm_M : Type := Nat × Nat × List (Nat × mm_E)
def mm_mt (y : Nat) : Option mm_M := mm_tab[y]?
def mm_R : Nat → Nat → mm_M → Nat → mm_L → List Value → mm_H → (Option Value × mm_H) → Prop
  | 0, _, _, _, _, _, _, _ => False
  | n + 1, d, M, pc, lo, st, h, r => ∃ e : mm_E, mm_cl M.2.2 pc = some e ∧ (
      (∃ s' : mm_S, mm_X M.2.1 e pc lo st h s' ∧ mm_R n d M s'.1 s'.2.1 s'.2.2.1 s'.2.2.2 r) ∨
      (mm_Z e st r.1 ∧ r.2 = h) ∨
      (∃ (d' : Nat) (As rest : List Value) (r1 : Option Value) (h1 : mm_H), d = d' + 1 ∧ mm_Y e st h As rest ∧
        ((∃ M', mm_mt e.2.2.1 = some M' ∧ (As.map fun v => v.category).sum ≤ M'.2.1 ∧ mm_R n d' M' 0 (lv_args 0 As) [] h (r1, h1)) ∨ (mm_mt e.2.2.1 = none ∧ 20 ≤ d' ∧ mm_B e.2.2.1 As h (r1, h1))) ∧
        mm_R n d M (pc + 3) lo (r1.toList ++ rest) h1 r) ∨
      (∃ (d' : Nat) (rest : List Value), d = d' + 1 ∧ mm_O e st rest ∧ mm_R n d M (pc + 3) lo rest h r))
