/-! THE SMALL MACHINE, GOAL FIRST -/
def mk_i (n : Int) : Int32 := match n with
  | (-1) => -1
  | 0 => 0
  | 1 => 1
  | 2 => 2
  | 3 => 3
  | 4 => 4
  | 5 => 5
  | (-8) => -8
  | n => Int32.ofInt n
def mk_b (n : Int) : Int32 := match n with
  | (-20) => -20
  | (-14) => -14
  | (-13) => -13
  | (-12) => -12
  | (-11) => -11
  | (-10) => -10
  | (-4) => -4
  | (-3) => -3
  | (-2) => -2
  | 6 => 6
  | 7 => 7
  | 8 => 8
  | 10 => 10
  | 12 => 12
  | 20 => 20
  | 30 => 30
  | 31 => 31
  | 32 => 32
  | 47 => 47
  | 48 => 48
  | 50 => 50
  | 56 => 56
  | 57 => 57
  | 59 => 59
  | 60 => 60
  | 97 => 97
  | 98 => 98
  | 100 => 100
  | 101 => 101
  | 105 => 105
  | 108 => 108
  | 111 => 111
  | 112 => 112
  | 114 => 114
  | 115 => 115
  | 116 => 116
  | 117 => 117
  | 120 => 120
  | 122 => 122
  | n => (Int8.ofInt n).toInt32
def mk_s (n : Int) : Int32 := match n with
  | 144 => 144
  | 192 => 192
  | 200 => 200
  | 240 => 240
  | 400 => 400
  | 1000 => 1000
  | 2000 => 2000
  | 2001 => 2001
  | 24012 => 24012
  | n => (Int16.ofInt n).toInt32
theorem mk_ie (n : Int) : Int32.ofInt n = mk_i n := by
  unfold mk_i
  split <;> first | rfl | decide
theorem mk_be (n : Int) : (Int8.ofInt n).toInt32 = mk_b n := by
  unfold mk_b
  split <;> first | rfl | decide
theorem mk_se (n : Int) : (Int16.ofInt n).toInt32 = mk_s n := by
  unfold mk_s
  split <;> first | rfl | decide
/-- the steps that neither branch nor touch the heap -/
def mm_f (nL : Nat) (e : mm_E) (pc : Nat) (lo : mm_L) (st : List Value) : Option (Nat × mm_L × List Value) := match e.1, st with
  | .iconst n, st => some (pc + 1, lo, .int (mk_i n) :: st)
  | .bipush n, st => some (pc + 2, lo, .int (mk_b n) :: st)
  | .sipush n, st => some (pc + 3, lo, .int (mk_s n) :: st)
  | .lconst n, st => some (pc + 1, lo, .long (Int64.ofNat (n : Nat)) :: st)
  | .aconst_null, st => some (pc + 1, lo, .null :: st)
  | .ldc2_w _, st => some (pc + 3, lo, .long (Int64.ofNat e.2.2.1) :: st)
  | .ldc _, st => some (pc + 2, lo, .ref e.2.2.1 :: st)
  | .getstatic _, st => some (pc + 3, lo, .ref e.2.2.1 :: st)
  | .iload_n k, st => match mm_lk lo (k : Nat) with | some (.int x) => some (pc + 1, lo, .int x :: st) | _ => none
  | .iload k, st => match mm_lk lo k with | some (.int x) => some (pc + 2, lo, .int x :: st) | _ => none
  | .lload_n k, st => match mm_lk lo (k : Nat) with | some (.long x) => some (pc + 1, lo, .long x :: st) | _ => none
  | .lload k, st => match mm_lk lo k with | some (.long x) => some (pc + 2, lo, .long x :: st) | _ => none
  | .aload_n k, st => match mm_lk lo (k : Nat) with | some (.ref x) => some (pc + 1, lo, .ref x :: st) | _ => none
  | .aload k, st => match mm_lk lo k with | some (.ref x) => some (pc + 2, lo, .ref x :: st) | _ => none
  | .istore_n k, .int x :: st => if (k : Nat) < nL then some (pc + 1, mm_st lo (k : Nat) (.int x), st) else none
  | .istore k, .int x :: st => if k < nL then some (pc + 2, mm_st lo k (.int x), st) else none
  | .lstore_n k, .long x :: st => if (k : Nat) + 1 < nL then some (pc + 1, mm_st2 lo (k : Nat) (.long x), st) else none
  | .lstore k, .long x :: st => if k + 1 < nL then some (pc + 2, mm_st2 lo k (.long x), st) else none
  | .astore_n k, .ref x :: st => if (k : Nat) < nL then some (pc + 1, mm_st lo (k : Nat) (.ref x), st) else none
  | .astore k, .ref x :: st => if k < nL then some (pc + 2, mm_st lo k (.ref x), st) else none
  | .iinc k n, st => match mm_lk lo k with | some (.int x) => (if k < nL then some (pc + 3, mm_st lo k (.int (x + mk_i n)), st) else none) | _ => none
  | .iadd, .int y :: .int x :: st => some (pc + 1, lo, .int (x + y) :: st)
  | .isub, .int y :: .int x :: st => some (pc + 1, lo, .int (x - y) :: st)
  | .imul, .int y :: .int x :: st => some (pc + 1, lo, .int (x * y) :: st)
  | .iand, .int y :: .int x :: st => some (pc + 1, lo, .int (x &&& y) :: st)
  | .ior, .int y :: .int x :: st => some (pc + 1, lo, .int (x ||| y) :: st)
  | .ixor, .int y :: .int x :: st => some (pc + 1, lo, .int (x ^^^ y) :: st)
  | .ishl, .int y :: .int x :: st => some (pc + 1, lo, .int (x <<< (y &&& 31)) :: st)
  | .ishr, .int y :: .int x :: st => some (pc + 1, lo, .int (x >>> (y &&& 31)) :: st)
  | .ladd, .long y :: .long x :: st => some (pc + 1, lo, .long (x + y) :: st)
  | .land, .long y :: .long x :: st => some (pc + 1, lo, .long (x &&& y) :: st)
  | .lor, .long y :: .long x :: st => some (pc + 1, lo, .long (x ||| y) :: st)
  | .lshl, .int y :: .long x :: st => some (pc + 1, lo, .long (x <<< (y.toInt64 &&& 63)) :: st)
  | .lshr, .int y :: .long x :: st => some (pc + 1, lo, .long (x >>> (y.toInt64 &&& 63)) :: st)
  | .lushr, .int y :: .long x :: st => some (pc + 1, lo, .long (x.toUInt64 >>> (y.toInt64.toUInt64 &&& Int64.toUInt64 63)).toInt64 :: st)
  | .lcmp, .long y :: .long x :: st => some (pc + 1, lo, .int (lg_cmp x y) :: st)
  | .i2l, .int x :: st => some (pc + 1, lo, .long x.toInt64 :: st)
  | .l2i, .long x :: st => some (pc + 1, lo, .int x.toInt32 :: st)
  | .i2b, .int x :: st => some (pc + 1, lo, .int x.toInt8.toInt32 :: st)
  | .dup, .int x :: st => some (pc + 1, lo, .int x :: .int x :: st)
  | .dup, .ref x :: st => some (pc + 1, lo, .ref x :: .ref x :: st)
  | .dup2, .int y :: .int x :: st => some (pc + 1, lo, .int y :: .int x :: .int y :: .int x :: st)
  | .dup2, .int y :: .ref x :: st => some (pc + 1, lo, .int y :: .ref x :: .int y :: .ref x :: st)
  | .pop, .int _ :: st => some (pc + 1, lo, st)
  | .goto off, st => match (pc : Int) + off with | .ofNat t => some (t, lo, st) | .negSucc _ => none
  | _, _ => none
def mm_fb (nL : Nat) (cd : List (Nat × mm_E)) : Nat → Nat × mm_L × List Value → Option (Nat × mm_L × List Value)
  | 0, s => some s
  | k + 1, s => match mm_cl cd s.1 with
    | some e => (match mm_f nL e s.1 s.2.1 s.2.2 with
      | some s2 => mm_fb nL cd k s2
      | none => none)
    | none => none
def w_p (d : Nat) (M : mm_M) (pc : Nat) (lo : mm_L) (st : List Value) (h : mm_H) (Q : Option Value → mm_H → Prop) : Prop := ∃ (n : Nat) (r : Option Value × mm_H), mm_R n d M pc lo st h r ∧ Q r.1 r.2
def w_k (n d y : Nat) (As : List Value) (h : mm_H) (r : Option Value × mm_H) : Prop := (∃ M, mm_mt y = some M ∧ (As.map fun v => v.category).sum ≤ M.2.1 ∧ mm_R n d M 0 (lv_args 0 As) [] h r) ∨ (mm_mt y = none ∧ 20 ≤ d ∧ mm_B y As h r)
def w_c (d y : Nat) (As : List Value) (h : mm_H) (Q : Option Value → mm_H → Prop) : Prop := ∃ (n : Nat) (r : Option Value × mm_H), w_k n d y As h r ∧ Q r.1 r.2
theorem mm_up : ∀ (n n' d d' : Nat) (M : mm_M) (pc : Nat) (lo : mm_L) (st : List Value) (h : mm_H) (r : Option Value × mm_H), n ≤ n' → d ≤ d' → mm_R n d M pc lo st h r → mm_R n' d' M pc lo st h r
  | 0, _, _, _, _, _, _, _, _, _, _, _, hR => False.elim hR
  | n + 1, 0, _, _, _, _, _, _, _, _, hn, _, _ => absurd hn (Nat.not_succ_le_zero n)
  | n + 1, n' + 1, d, d', M, pc, lo, st, h, r, hn, hd, hR => by
    have hn : n ≤ n' := Nat.le_of_succ_le_succ hn
    obtain ⟨e, he, hc⟩ := hR
    refine ⟨e, he, ?_⟩
    rcases hc with ⟨s', hX, hR⟩ | hZ | ⟨k, As, rest, r1, h1, rfl, hY, hC, hR⟩ | ⟨k, rest, rfl, hO, hR⟩
    · exact Or.inl ⟨s', hX, mm_up n n' d d' M _ _ _ _ r hn hd hR⟩
    · exact Or.inr (Or.inl hZ)
    · obtain ⟨k', rfl⟩ : ∃ k', d' = k' + 1 := ⟨d' - 1, by omega⟩
      refine Or.inr (Or.inr (Or.inl ⟨k', As, rest, r1, h1, rfl, hY, ?_, mm_up n n' (k + 1) (k' + 1) M _ _ _ _ r hn hd hR⟩))
      rcases hC with ⟨M', hM, hs, hC⟩ | ⟨hM, h20, hC⟩
      · exact Or.inl ⟨M', hM, hs, mm_up n n' k k' M' _ _ _ _ _ hn (by omega) hC⟩
      · exact Or.inr ⟨hM, by omega, hC⟩
    · obtain ⟨k', rfl⟩ : ∃ k', d' = k' + 1 := ⟨d' - 1, by omega⟩
      exact Or.inr (Or.inr (Or.inr ⟨k', rest, rfl, hO, mm_up n n' (k + 1) (k' + 1) M _ _ _ _ r hn hd hR⟩))
theorem w_k.up {n n' d d' y : Nat} {As : List Value} {h : mm_H} {r : Option Value × mm_H} (hn : n ≤ n') (hd : d ≤ d') (hk : w_k n d y As h r) : w_k n' d' y As h r := by
  rcases hk with ⟨M, h1, h2, h3⟩ | ⟨h1, h2, h3⟩
  · exact Or.inl ⟨M, h1, h2, mm_up _ _ _ _ _ _ _ _ _ _ hn hd h3⟩
  · exact Or.inr ⟨h1, by omega, h3⟩
theorem w_c.up {d d' y : Nat} {As : List Value} {h : mm_H} {Q : Option Value → mm_H → Prop} (hd : d ≤ d') (hc : w_c d y As h Q) : w_c d' y As h Q := by
  obtain ⟨n, r, h1, h2⟩ := hc
  exact ⟨n, r, h1.up (Nat.le_refl n) hd, h2⟩
theorem w_c.mono {d y : Nat} {As : List Value} {h : mm_H} {Q Q' : Option Value → mm_H → Prop} (hc : w_c d y As h Q) (hq : ∀ r h, Q r h → Q' r h) : w_c d y As h Q' := by
  obtain ⟨n, r, h1, h2⟩ := hc
  exact ⟨n, r, h1, hq _ _ h2⟩
theorem w_p.up {d d' : Nat} {M : mm_M} {pc : Nat} {lo : mm_L} {st : List Value} {h : mm_H} {Q : Option Value → mm_H → Prop} (hd : d ≤ d') (hc : w_p d M pc lo st h Q) : w_p d' M pc lo st h Q := by
  obtain ⟨n, r, h1, h2⟩ := hc
  exact ⟨n, r, mm_up _ _ _ _ _ _ _ _ _ _ (Nat.le_refl n) hd h1, h2⟩
theorem w_p.mono {d : Nat} {M : mm_M} {pc : Nat} {lo : mm_L} {st : List Value} {h : mm_H} {Q Q' : Option Value → mm_H → Prop} (hc : w_p d M pc lo st h Q) (hq : ∀ r h, Q r h → Q' r h) : w_p d M pc lo st h Q' := by
  obtain ⟨n, r, h1, h2⟩ := hc
  exact ⟨n, r, h1, hq _ _ h2⟩
/-- a method from its entry -/
theorem w_ci {d y : Nat} {M : mm_M} {As : List Value} {h : mm_H} {Q : Option Value → mm_H → Prop} (hM : mm_mt y = some M) (hs : (As.map fun v => v.category).sum ≤ M.2.1) (hp : w_p d M 0 (lv_args 0 As) [] h Q) : w_c d y As h Q := by
  obtain ⟨n, r, h1, h2⟩ := hp
  exact ⟨n, r, Or.inl ⟨M, hM, hs, h1⟩, h2⟩
section WP
variable {d : Nat} {M : mm_M} {pc : Nat} {lo : mm_L} {st rest : List Value} {h : mm_H} {Q : Option Value → mm_H → Prop} {e : mm_E} {i len u v : Nat}
theorem w_x {s' : mm_S} (hc : mm_cl M.2.2 pc = some e) (hX : mm_X M.2.1 e pc lo st h s') (k : w_p d M s'.1 s'.2.1 s'.2.2.1 s'.2.2.2 Q) : w_p d M pc lo st h Q := by
  obtain ⟨n, r, h1, h2⟩ := k
  exact ⟨n + 1, r, ⟨e, hc, Or.inl ⟨s', hX, h1⟩⟩, h2⟩
set_option maxHeartbeats 4000000 in
theorem mm_fX {nL : Nat} {s2 : Nat × mm_L × List Value} (hf : mm_f nL e pc lo st = some s2) : mm_X nL e pc lo st h (s2.1, s2.2.1, s2.2.2, h) := by
  obtain ⟨i, len, u, v⟩ := e
  cases i
  case iconst n =>
    obtain rfl : _ = s2 := Option.some.inj hf
    refine Or.inl ?_
    show _ = _
    rw [mk_ie]
  case bipush n =>
    obtain rfl : _ = s2 := Option.some.inj hf
    refine Or.inl ?_
    show _ = _
    rw [mk_be]
  case sipush n =>
    obtain rfl : _ = s2 := Option.some.inj hf
    refine Or.inl ?_
    show _ = _
    rw [mk_se]
  case lconst n =>
    obtain rfl : _ = s2 := Option.some.inj hf
    exact Or.inl rfl
  case aconst_null  =>
    obtain rfl : _ = s2 := Option.some.inj hf
    exact Or.inl rfl
  case ldc2_w k =>
    obtain rfl : _ = s2 := Option.some.inj hf
    exact Or.inl rfl
  case ldc k =>
    obtain rfl : _ = s2 := Option.some.inj hf
    exact Or.inl rfl
  case getstatic k =>
    obtain rfl : _ = s2 := Option.some.inj hf
    exact Or.inl rfl
  case iload_n k =>
    have hf : (match mm_lk lo (k : Nat) with | some (.int x) => some (pc + 1, lo, (.int x : Value) :: st) | _ => none) = some s2 := hf
    split at hf
    · rename_i x hk
      obtain rfl : _ = s2 := Option.some.inj hf
      exact Or.inl ⟨x, hk, rfl⟩
    · cases hf
  case iload k =>
    have hf : (match mm_lk lo k with | some (.int x) => some (pc + 2, lo, (.int x : Value) :: st) | _ => none) = some s2 := hf
    split at hf
    · rename_i x hk
      obtain rfl : _ = s2 := Option.some.inj hf
      exact Or.inl ⟨x, hk, rfl⟩
    · cases hf
  case lload_n k =>
    have hf : (match mm_lk lo (k : Nat) with | some (.long x) => some (pc + 1, lo, (.long x : Value) :: st) | _ => none) = some s2 := hf
    split at hf
    · rename_i x hk
      obtain rfl : _ = s2 := Option.some.inj hf
      exact Or.inl ⟨x, hk, rfl⟩
    · cases hf
  case lload k =>
    have hf : (match mm_lk lo k with | some (.long x) => some (pc + 2, lo, (.long x : Value) :: st) | _ => none) = some s2 := hf
    split at hf
    · rename_i x hk
      obtain rfl : _ = s2 := Option.some.inj hf
      exact Or.inl ⟨x, hk, rfl⟩
    · cases hf
  case aload_n k =>
    have hf : (match mm_lk lo (k : Nat) with | some (.ref x) => some (pc + 1, lo, (.ref x : Value) :: st) | _ => none) = some s2 := hf
    split at hf
    · rename_i x hk
      obtain rfl : _ = s2 := Option.some.inj hf
      exact Or.inl ⟨some x, hk, rfl⟩
    · cases hf
  case aload k =>
    have hf : (match mm_lk lo k with | some (.ref x) => some (pc + 2, lo, (.ref x : Value) :: st) | _ => none) = some s2 := hf
    split at hf
    · rename_i x hk
      obtain rfl : _ = s2 := Option.some.inj hf
      exact Or.inl ⟨some x, hk, rfl⟩
    · cases hf
  case istore_n k =>
    match st, hf with
    | .int x :: st, hf =>
      have hf : (if (k : Nat) < nL then some (pc + 1, mm_st lo (k : Nat) (.int x), st) else none) = some s2 := hf
      split at hf
      · rename_i hk
        obtain rfl : _ = s2 := Option.some.inj hf
        exact Or.inl ⟨x, st, rfl, hk, rfl⟩
      · cases hf
  case istore k =>
    match st, hf with
    | .int x :: st, hf =>
      have hf : (if k < nL then some (pc + 2, mm_st lo k (.int x), st) else none) = some s2 := hf
      split at hf
      · rename_i hk
        obtain rfl : _ = s2 := Option.some.inj hf
        exact Or.inl ⟨x, st, rfl, hk, rfl⟩
      · cases hf
  case lstore_n k =>
    match st, hf with
    | .long x :: st, hf =>
      have hf : (if (k : Nat) + 1 < nL then some (pc + 1, mm_st2 lo (k : Nat) (.long x), st) else none) = some s2 := hf
      split at hf
      · rename_i hk
        obtain rfl : _ = s2 := Option.some.inj hf
        exact Or.inl ⟨x, st, rfl, hk, rfl⟩
      · cases hf
  case lstore k =>
    match st, hf with
    | .long x :: st, hf =>
      have hf : (if k + 1 < nL then some (pc + 2, mm_st2 lo k (.long x), st) else none) = some s2 := hf
      split at hf
      · rename_i hk
        obtain rfl : _ = s2 := Option.some.inj hf
        exact Or.inl ⟨x, st, rfl, hk, rfl⟩
      · cases hf
  case astore_n k =>
    match st, hf with
    | .ref x :: st, hf =>
      have hf : (if (k : Nat) < nL then some (pc + 1, mm_st lo (k : Nat) (.ref x), st) else none) = some s2 := hf
      split at hf
      · rename_i hk
        obtain rfl : _ = s2 := Option.some.inj hf
        exact Or.inl ⟨some x, st, rfl, hk, rfl⟩
      · cases hf
  case astore k =>
    match st, hf with
    | .ref x :: st, hf =>
      have hf : (if k < nL then some (pc + 2, mm_st lo k (.ref x), st) else none) = some s2 := hf
      split at hf
      · rename_i hk
        obtain rfl : _ = s2 := Option.some.inj hf
        exact Or.inl ⟨some x, st, rfl, hk, rfl⟩
      · cases hf
  case iinc k n =>
    have hf : (match mm_lk lo k with | some (.int x) => (if k < nL then some (pc + 3, mm_st lo k (.int (x + mk_i n)), st) else none) | _ => none) = some s2 := hf
    split at hf
    · rename_i x hk
      split at hf
      · rename_i hk2
        obtain rfl : _ = s2 := Option.some.inj hf
        refine Or.inl ⟨x, hk, hk2, ?_⟩
        rw [mk_ie]
      · cases hf
    · cases hf
  case iadd  =>
    match st, hf with
    | .int y :: .int x :: st, hf => obtain rfl : _ = s2 := Option.some.inj hf; exact Or.inr (Or.inl ⟨_, _, _, rfl, rfl⟩)
  case isub  =>
    match st, hf with
    | .int y :: .int x :: st, hf => obtain rfl : _ = s2 := Option.some.inj hf; exact Or.inr (Or.inl ⟨_, _, _, rfl, rfl⟩)
  case imul  =>
    match st, hf with
    | .int y :: .int x :: st, hf => obtain rfl : _ = s2 := Option.some.inj hf; exact Or.inr (Or.inl ⟨_, _, _, rfl, rfl⟩)
  case iand  =>
    match st, hf with
    | .int y :: .int x :: st, hf => obtain rfl : _ = s2 := Option.some.inj hf; exact Or.inr (Or.inl ⟨_, _, _, rfl, rfl⟩)
  case ior  =>
    match st, hf with
    | .int y :: .int x :: st, hf => obtain rfl : _ = s2 := Option.some.inj hf; exact Or.inr (Or.inl ⟨_, _, _, rfl, rfl⟩)
  case ixor  =>
    match st, hf with
    | .int y :: .int x :: st, hf => obtain rfl : _ = s2 := Option.some.inj hf; exact Or.inr (Or.inl ⟨_, _, _, rfl, rfl⟩)
  case ishl  =>
    match st, hf with
    | .int y :: .int x :: st, hf => obtain rfl : _ = s2 := Option.some.inj hf; exact Or.inr (Or.inl ⟨_, _, _, rfl, rfl⟩)
  case ishr  =>
    match st, hf with
    | .int y :: .int x :: st, hf => obtain rfl : _ = s2 := Option.some.inj hf; exact Or.inr (Or.inl ⟨_, _, _, rfl, rfl⟩)
  case ladd  =>
    match st, hf with
    | .long y :: .long x :: st, hf => obtain rfl : _ = s2 := Option.some.inj hf; exact Or.inr (Or.inl ⟨_, _, _, rfl, rfl⟩)
  case land  =>
    match st, hf with
    | .long y :: .long x :: st, hf => obtain rfl : _ = s2 := Option.some.inj hf; exact Or.inr (Or.inl ⟨_, _, _, rfl, rfl⟩)
  case lor  =>
    match st, hf with
    | .long y :: .long x :: st, hf => obtain rfl : _ = s2 := Option.some.inj hf; exact Or.inr (Or.inl ⟨_, _, _, rfl, rfl⟩)
  case lshl  =>
    match st, hf with
    | .int y :: .long x :: st, hf => obtain rfl : _ = s2 := Option.some.inj hf; exact Or.inr (Or.inl ⟨_, _, _, rfl, rfl⟩)
  case lshr  =>
    match st, hf with
    | .int y :: .long x :: st, hf => obtain rfl : _ = s2 := Option.some.inj hf; exact Or.inr (Or.inl ⟨_, _, _, rfl, rfl⟩)
  case lushr  =>
    match st, hf with
    | .int y :: .long x :: st, hf => obtain rfl : _ = s2 := Option.some.inj hf; exact Or.inr (Or.inl ⟨_, _, _, rfl, rfl⟩)
  case lcmp  =>
    match st, hf with
    | .long y :: .long x :: st, hf => obtain rfl : _ = s2 := Option.some.inj hf; exact Or.inr (Or.inl ⟨_, _, _, rfl, rfl⟩)
  case i2l  =>
    match st, hf with
    | .int x :: st, hf => obtain rfl : _ = s2 := Option.some.inj hf; exact Or.inr (Or.inl ⟨_, _, rfl, rfl⟩)
  case l2i  =>
    match st, hf with
    | .long x :: st, hf => obtain rfl : _ = s2 := Option.some.inj hf; exact Or.inr (Or.inl ⟨_, _, rfl, rfl⟩)
  case i2b  =>
    match st, hf with
    | .int x :: st, hf => obtain rfl : _ = s2 := Option.some.inj hf; exact Or.inr (Or.inl ⟨_, _, rfl, rfl⟩)
  case dup  =>
    match st, hf with
    | .int x :: st, hf => obtain rfl : _ = s2 := Option.some.inj hf; exact Or.inr (Or.inl ⟨_, _, rfl, rfl, rfl⟩)
    | .ref x :: st, hf => obtain rfl : _ = s2 := Option.some.inj hf; exact Or.inr (Or.inl ⟨_, _, rfl, rfl, rfl⟩)
  case dup2  =>
    match st, hf with
    | .int y :: .int x :: st, hf => obtain rfl : _ = s2 := Option.some.inj hf; exact Or.inr (Or.inl ⟨_, _, _, rfl, rfl, rfl, rfl⟩)
    | .int y :: .ref x :: st, hf => obtain rfl : _ = s2 := Option.some.inj hf; exact Or.inr (Or.inl ⟨_, _, _, rfl, rfl, rfl, rfl⟩)
  case pop  =>
    match st, hf with
    | .int x :: st, hf => obtain rfl : _ = s2 := Option.some.inj hf; exact Or.inr (Or.inl ⟨_, _, rfl, rfl, rfl⟩)
  case goto off =>
    have hf : (match (pc : Int) + off with | .ofNat t => some (t, lo, st) | .negSucc _ => none) = some s2 := hf
    split at hf
    · rename_i t ht
      obtain rfl : _ = s2 := Option.some.inj hf
      exact Or.inr (Or.inr (Or.inl ⟨t, ht, rfl⟩))
    · cases hf
  all_goals (exfalso; revert hf; unfold mm_f; intro hf; cases hf)
theorem w_bx : ∀ (k : Nat) (s s2 : Nat × mm_L × List Value), mm_fb M.2.1 M.2.2 k s = some s2 → w_p d M s2.1 s2.2.1 s2.2.2 h Q → w_p d M s.1 s.2.1 s.2.2 h Q
  | 0, s, s2, hf, hk => by
    obtain rfl : s = s2 := Option.some.inj hf
    exact hk
  | k + 1, s, s2, hf, hk => by
    unfold mm_fb at hf
    split at hf
    · rename_i e he
      split at hf
      · rename_i s3 h3
        exact w_x he (mm_fX h3) (w_bx k s3 s2 hf hk)
      · cases hf
    · cases hf
/-- a block of such steps -/
theorem w_b (k pc2 : Nat) (lo2 : mm_L) (st2 : List Value) (hf : mm_fb M.2.1 M.2.2 k (pc, lo, st) = some (pc2, lo2, st2)) (hk : w_p d M pc2 lo2 st2 h Q) : w_p d M pc lo st h Q := w_bx k (pc, lo, st) (pc2, lo2, st2) hf hk
theorem w_if_eq {off : Int} {tgt : Nat} {x : Int32} (hc : mm_cl M.2.2 pc = some (.ifCond .eq off, len, u, v)) (ht : (pc : Int) + off = (tgt : Int)) (k : (x = 0 → w_p d M tgt lo st h Q) ∧ (¬ (x = 0) → w_p d M (pc + 3) lo st h Q)) : w_p d M pc lo (.int x :: st) h Q := by
  by_cases c : x = 0
  · exact w_x (s' := (tgt, lo, st, h)) hc (Or.inr (Or.inr (Or.inl ⟨tgt, x, st, ht, rfl, by rw [if_pos (show mm_cz .eq x = true from decide_eq_true c)]⟩))) (k.1 c)
  · exact w_x (s' := (pc + 3, lo, st, h)) hc (Or.inr (Or.inr (Or.inl ⟨tgt, x, st, ht, rfl, by rw [if_neg (show ¬ mm_cz .eq x = true from fun z => c (of_decide_eq_true z))]⟩))) (k.2 c)
theorem w_if_ne {off : Int} {tgt : Nat} {x : Int32} (hc : mm_cl M.2.2 pc = some (.ifCond .ne off, len, u, v)) (ht : (pc : Int) + off = (tgt : Int)) (k : (¬ x = 0 → w_p d M tgt lo st h Q) ∧ (¬ (¬ x = 0) → w_p d M (pc + 3) lo st h Q)) : w_p d M pc lo (.int x :: st) h Q := by
  by_cases c : ¬ x = 0
  · exact w_x (s' := (tgt, lo, st, h)) hc (Or.inr (Or.inr (Or.inl ⟨tgt, x, st, ht, rfl, by rw [if_pos (show mm_cz .ne x = true from decide_eq_true c)]⟩))) (k.1 c)
  · exact w_x (s' := (pc + 3, lo, st, h)) hc (Or.inr (Or.inr (Or.inl ⟨tgt, x, st, ht, rfl, by rw [if_neg (show ¬ mm_cz .ne x = true from fun z => c (of_decide_eq_true z))]⟩))) (k.2 c)
theorem w_if_lt {off : Int} {tgt : Nat} {x : Int32} (hc : mm_cl M.2.2 pc = some (.ifCond .lt off, len, u, v)) (ht : (pc : Int) + off = (tgt : Int)) (k : (x < 0 → w_p d M tgt lo st h Q) ∧ (¬ (x < 0) → w_p d M (pc + 3) lo st h Q)) : w_p d M pc lo (.int x :: st) h Q := by
  by_cases c : x < 0
  · exact w_x (s' := (tgt, lo, st, h)) hc (Or.inr (Or.inr (Or.inl ⟨tgt, x, st, ht, rfl, by rw [if_pos (show mm_cz .lt x = true from decide_eq_true c)]⟩))) (k.1 c)
  · exact w_x (s' := (pc + 3, lo, st, h)) hc (Or.inr (Or.inr (Or.inl ⟨tgt, x, st, ht, rfl, by rw [if_neg (show ¬ mm_cz .lt x = true from fun z => c (of_decide_eq_true z))]⟩))) (k.2 c)
theorem w_if_ge {off : Int} {tgt : Nat} {x : Int32} (hc : mm_cl M.2.2 pc = some (.ifCond .ge off, len, u, v)) (ht : (pc : Int) + off = (tgt : Int)) (k : (0 ≤ x → w_p d M tgt lo st h Q) ∧ (¬ (0 ≤ x) → w_p d M (pc + 3) lo st h Q)) : w_p d M pc lo (.int x :: st) h Q := by
  by_cases c : 0 ≤ x
  · exact w_x (s' := (tgt, lo, st, h)) hc (Or.inr (Or.inr (Or.inl ⟨tgt, x, st, ht, rfl, by rw [if_pos (show mm_cz .ge x = true from decide_eq_true c)]⟩))) (k.1 c)
  · exact w_x (s' := (pc + 3, lo, st, h)) hc (Or.inr (Or.inr (Or.inl ⟨tgt, x, st, ht, rfl, by rw [if_neg (show ¬ mm_cz .ge x = true from fun z => c (of_decide_eq_true z))]⟩))) (k.2 c)
theorem w_if_gt {off : Int} {tgt : Nat} {x : Int32} (hc : mm_cl M.2.2 pc = some (.ifCond .gt off, len, u, v)) (ht : (pc : Int) + off = (tgt : Int)) (k : (0 < x → w_p d M tgt lo st h Q) ∧ (¬ (0 < x) → w_p d M (pc + 3) lo st h Q)) : w_p d M pc lo (.int x :: st) h Q := by
  by_cases c : 0 < x
  · exact w_x (s' := (tgt, lo, st, h)) hc (Or.inr (Or.inr (Or.inl ⟨tgt, x, st, ht, rfl, by rw [if_pos (show mm_cz .gt x = true from decide_eq_true c)]⟩))) (k.1 c)
  · exact w_x (s' := (pc + 3, lo, st, h)) hc (Or.inr (Or.inr (Or.inl ⟨tgt, x, st, ht, rfl, by rw [if_neg (show ¬ mm_cz .gt x = true from fun z => c (of_decide_eq_true z))]⟩))) (k.2 c)
theorem w_if_le {off : Int} {tgt : Nat} {x : Int32} (hc : mm_cl M.2.2 pc = some (.ifCond .le off, len, u, v)) (ht : (pc : Int) + off = (tgt : Int)) (k : (x ≤ 0 → w_p d M tgt lo st h Q) ∧ (¬ (x ≤ 0) → w_p d M (pc + 3) lo st h Q)) : w_p d M pc lo (.int x :: st) h Q := by
  by_cases c : x ≤ 0
  · exact w_x (s' := (tgt, lo, st, h)) hc (Or.inr (Or.inr (Or.inl ⟨tgt, x, st, ht, rfl, by rw [if_pos (show mm_cz .le x = true from decide_eq_true c)]⟩))) (k.1 c)
  · exact w_x (s' := (pc + 3, lo, st, h)) hc (Or.inr (Or.inr (Or.inl ⟨tgt, x, st, ht, rfl, by rw [if_neg (show ¬ mm_cz .le x = true from fun z => c (of_decide_eq_true z))]⟩))) (k.2 c)
theorem w_ic_eq {off : Int} {tgt : Nat} {x y : Int32} (hc : mm_cl M.2.2 pc = some (.if_icmp .eq off, len, u, v)) (ht : (pc : Int) + off = (tgt : Int)) (k : (x = y → w_p d M tgt lo st h Q) ∧ (¬ (x = y) → w_p d M (pc + 3) lo st h Q)) : w_p d M pc lo (.int y :: .int x :: st) h Q := by
  by_cases c : x = y
  · exact w_x (s' := (tgt, lo, st, h)) hc (Or.inr (Or.inr (Or.inl ⟨tgt, x, y, st, ht, rfl, by rw [if_pos (show mm_c2 .eq x y = true from decide_eq_true c)]⟩))) (k.1 c)
  · exact w_x (s' := (pc + 3, lo, st, h)) hc (Or.inr (Or.inr (Or.inl ⟨tgt, x, y, st, ht, rfl, by rw [if_neg (show ¬ mm_c2 .eq x y = true from fun z => c (of_decide_eq_true z))]⟩))) (k.2 c)
theorem w_ic_ne {off : Int} {tgt : Nat} {x y : Int32} (hc : mm_cl M.2.2 pc = some (.if_icmp .ne off, len, u, v)) (ht : (pc : Int) + off = (tgt : Int)) (k : (¬ x = y → w_p d M tgt lo st h Q) ∧ (¬ (¬ x = y) → w_p d M (pc + 3) lo st h Q)) : w_p d M pc lo (.int y :: .int x :: st) h Q := by
  by_cases c : ¬ x = y
  · exact w_x (s' := (tgt, lo, st, h)) hc (Or.inr (Or.inr (Or.inl ⟨tgt, x, y, st, ht, rfl, by rw [if_pos (show mm_c2 .ne x y = true from decide_eq_true c)]⟩))) (k.1 c)
  · exact w_x (s' := (pc + 3, lo, st, h)) hc (Or.inr (Or.inr (Or.inl ⟨tgt, x, y, st, ht, rfl, by rw [if_neg (show ¬ mm_c2 .ne x y = true from fun z => c (of_decide_eq_true z))]⟩))) (k.2 c)
theorem w_ic_lt {off : Int} {tgt : Nat} {x y : Int32} (hc : mm_cl M.2.2 pc = some (.if_icmp .lt off, len, u, v)) (ht : (pc : Int) + off = (tgt : Int)) (k : (x < y → w_p d M tgt lo st h Q) ∧ (¬ (x < y) → w_p d M (pc + 3) lo st h Q)) : w_p d M pc lo (.int y :: .int x :: st) h Q := by
  by_cases c : x < y
  · exact w_x (s' := (tgt, lo, st, h)) hc (Or.inr (Or.inr (Or.inl ⟨tgt, x, y, st, ht, rfl, by rw [if_pos (show mm_c2 .lt x y = true from decide_eq_true c)]⟩))) (k.1 c)
  · exact w_x (s' := (pc + 3, lo, st, h)) hc (Or.inr (Or.inr (Or.inl ⟨tgt, x, y, st, ht, rfl, by rw [if_neg (show ¬ mm_c2 .lt x y = true from fun z => c (of_decide_eq_true z))]⟩))) (k.2 c)
theorem w_ic_ge {off : Int} {tgt : Nat} {x y : Int32} (hc : mm_cl M.2.2 pc = some (.if_icmp .ge off, len, u, v)) (ht : (pc : Int) + off = (tgt : Int)) (k : (y ≤ x → w_p d M tgt lo st h Q) ∧ (¬ (y ≤ x) → w_p d M (pc + 3) lo st h Q)) : w_p d M pc lo (.int y :: .int x :: st) h Q := by
  by_cases c : y ≤ x
  · exact w_x (s' := (tgt, lo, st, h)) hc (Or.inr (Or.inr (Or.inl ⟨tgt, x, y, st, ht, rfl, by rw [if_pos (show mm_c2 .ge x y = true from decide_eq_true c)]⟩))) (k.1 c)
  · exact w_x (s' := (pc + 3, lo, st, h)) hc (Or.inr (Or.inr (Or.inl ⟨tgt, x, y, st, ht, rfl, by rw [if_neg (show ¬ mm_c2 .ge x y = true from fun z => c (of_decide_eq_true z))]⟩))) (k.2 c)
theorem w_ic_gt {off : Int} {tgt : Nat} {x y : Int32} (hc : mm_cl M.2.2 pc = some (.if_icmp .gt off, len, u, v)) (ht : (pc : Int) + off = (tgt : Int)) (k : (y < x → w_p d M tgt lo st h Q) ∧ (¬ (y < x) → w_p d M (pc + 3) lo st h Q)) : w_p d M pc lo (.int y :: .int x :: st) h Q := by
  by_cases c : y < x
  · exact w_x (s' := (tgt, lo, st, h)) hc (Or.inr (Or.inr (Or.inl ⟨tgt, x, y, st, ht, rfl, by rw [if_pos (show mm_c2 .gt x y = true from decide_eq_true c)]⟩))) (k.1 c)
  · exact w_x (s' := (pc + 3, lo, st, h)) hc (Or.inr (Or.inr (Or.inl ⟨tgt, x, y, st, ht, rfl, by rw [if_neg (show ¬ mm_c2 .gt x y = true from fun z => c (of_decide_eq_true z))]⟩))) (k.2 c)
theorem w_ic_le {off : Int} {tgt : Nat} {x y : Int32} (hc : mm_cl M.2.2 pc = some (.if_icmp .le off, len, u, v)) (ht : (pc : Int) + off = (tgt : Int)) (k : (x ≤ y → w_p d M tgt lo st h Q) ∧ (¬ (x ≤ y) → w_p d M (pc + 3) lo st h Q)) : w_p d M pc lo (.int y :: .int x :: st) h Q := by
  by_cases c : x ≤ y
  · exact w_x (s' := (tgt, lo, st, h)) hc (Or.inr (Or.inr (Or.inl ⟨tgt, x, y, st, ht, rfl, by rw [if_pos (show mm_c2 .le x y = true from decide_eq_true c)]⟩))) (k.1 c)
  · exact w_x (s' := (pc + 3, lo, st, h)) hc (Or.inr (Or.inr (Or.inl ⟨tgt, x, y, st, ht, rfl, by rw [if_neg (show ¬ mm_c2 .le x y = true from fun z => c (of_decide_eq_true z))]⟩))) (k.2 c)
theorem w_ifnull {off : Int} {tgt : Nat} {r : Option Nat} (hc : mm_cl M.2.2 pc = some (.ifnull off, len, u, v)) (ht : (pc : Int) + off = (tgt : Int)) (k : (r = none → w_p d M tgt lo st h Q) ∧ (∀ a, r = some a → w_p d M (pc + 3) lo st h Q)) : w_p d M pc lo (va_rf r :: st) h Q := by
  cases r with
  | none => exact w_x (s' := (tgt, lo, st, h)) hc (Or.inr (Or.inr (Or.inl ⟨tgt, none, st, ht, rfl, rfl⟩))) (k.1 rfl)
  | some a => exact w_x (s' := (pc + 3, lo, st, h)) hc (Or.inr (Or.inr (Or.inl ⟨tgt, some a, st, ht, rfl, rfl⟩))) (k.2 a rfl)
theorem w_ifnonnull {off : Int} {tgt : Nat} {r : Option Nat} (hc : mm_cl M.2.2 pc = some (.ifnonnull off, len, u, v)) (ht : (pc : Int) + off = (tgt : Int)) (k : (r = none → w_p d M (pc + 3) lo st h Q) ∧ (∀ a, r = some a → w_p d M tgt lo st h Q)) : w_p d M pc lo (va_rf r :: st) h Q := by
  cases r with
  | none => exact w_x (s' := (pc + 3, lo, st, h)) hc (Or.inr (Or.inr (Or.inl ⟨tgt, none, st, ht, rfl, rfl⟩))) (k.1 rfl)
  | some a => exact w_x (s' := (tgt, lo, st, h)) hc (Or.inr (Or.inr (Or.inl ⟨tgt, some a, st, ht, rfl, rfl⟩))) (k.2 a rfl)
theorem w_tabO {dflt low high : Int} {offs : Array Int} {tgt : Nat} {x : Int32} (hc : mm_cl M.2.2 pc = some (.tableswitch dflt low high offs, len, u, v)) (hx : x.toInt < low ∨ high < x.toInt) (ht : (pc : Int) + dflt = (tgt : Int)) (k : w_p d M tgt lo st h Q) : w_p d M pc lo (.int x :: st) h Q :=
  w_x (s' := (tgt, lo, st, h)) hc (Or.inr (Or.inr (Or.inl ⟨tgt, dflt, x, st, rfl, Or.inl ⟨hx, rfl⟩, ht, rfl⟩))) k
theorem w_tabI {dflt low high off : Int} {offs : Array Int} {tgt : Nat} {x : Int32} (hc : mm_cl M.2.2 pc = some (.tableswitch dflt low high offs, len, u, v)) (h1 : ¬ x.toInt < low) (h2 : ¬ high < x.toInt) (ho : offs[(x.toInt - low).toNat]? = some off) (ht : (pc : Int) + off = (tgt : Int)) (k : w_p d M tgt lo st h Q) : w_p d M pc lo (.int x :: st) h Q :=
  w_x (s' := (tgt, lo, st, h)) hc (Or.inr (Or.inr (Or.inl ⟨tgt, off, x, st, rfl, Or.inr ⟨h1, h2, ho⟩, ht, rfl⟩))) k
theorem w_get {a g : Nat} (hc : mm_cl M.2.2 pc = some (.getfield i, len, u, v)) (hr : mm_ri u v = false) (hg : 64 * u + v = g) (hk : h_kd h a = u + 1) (k : w_p d M (pc + 3) lo (.int (h_oi h g a) :: st) h Q) : w_p d M pc lo (.ref a :: st) h Q := by
  subst hg
  refine w_x (s' := (pc + 3, lo, .int (h_oi h (64 * u + v) a) :: st, h)) hc (Or.inr (Or.inr (Or.inr ⟨a, st, rfl, hk, ?_⟩))) k
  show _ = (pc + 3, lo, mm_fv h u v a :: st, h)
  unfold mm_fv
  rw [if_neg (by rw [hr]; decide)]
theorem w_getR {a g : Nat} (hc : mm_cl M.2.2 pc = some (.getfield i, len, u, v)) (hr : mm_ri u v = true) (hg : 64 * u + v = g) (hk : h_kd h a = u + 1) (k : w_p d M (pc + 3) lo (va_rf (h_or h g a) :: st) h Q) : w_p d M pc lo (.ref a :: st) h Q := by
  subst hg
  refine w_x (s' := (pc + 3, lo, va_rf (h_or h (64 * u + v) a) :: st, h)) hc (Or.inr (Or.inr (Or.inr ⟨a, st, rfl, hk, ?_⟩))) k
  show _ = (pc + 3, lo, mm_fv h u v a :: st, h)
  unfold mm_fv
  rw [if_pos hr]
theorem w_getS {a b g : Nat} (hc : mm_cl M.2.2 pc = some (.getfield i, len, u, v)) (hr : mm_ri u v = true) (hg : 64 * u + v = g) (hk : h_kd h a = u + 1) (hb : h_or h g a = some b) (k : w_p d M (pc + 3) lo (.ref b :: st) h Q) : w_p d M pc lo (.ref a :: st) h Q := by
  refine w_getR hc hr hg hk ?_
  rw [hb]
  exact k
theorem w_put {a g : Nat} {x : Int32} (hc : mm_cl M.2.2 pc = some (.putfield i, len, u, v)) (hr : mm_ri u v = false) (hg : 64 * u + v = g) (hk : h_kd h a = u + 1) (ha : 16 ≤ a) (k : w_p d M (pc + 3) lo st (h_sI h g a x) Q) : w_p d M pc lo (.int x :: .ref a :: st) h Q := by
  subst hg
  exact w_x (s' := (pc + 3, lo, st, h_sI h (64 * u + v) a x)) hc (Or.inr (Or.inr (Or.inr ⟨a, st, hk, ha, Or.inl ⟨x, rfl, hr, rfl⟩⟩))) k
theorem w_putR {a g : Nat} {x : Option Nat} (hc : mm_cl M.2.2 pc = some (.putfield i, len, u, v)) (hr : mm_ri u v = true) (hg : 64 * u + v = g) (hk : h_kd h a = u + 1) (ha : 16 ≤ a) (k : w_p d M (pc + 3) lo st (h_sR h g a x) Q) : w_p d M pc lo (va_rf x :: .ref a :: st) h Q := by
  subst hg
  exact w_x (s' := (pc + 3, lo, st, h_sR h (64 * u + v) a x)) hc (Or.inr (Or.inr (Or.inr ⟨a, st, hk, ha, Or.inr ⟨x, rfl, hr, rfl⟩⟩))) k
theorem w_iald {a : Nat} {x : Int32} (hc : mm_cl M.2.2 pc = some (.iaload, len, u, v)) (hk : h_kd h a = 20) (hi : vp_in x (h_al h a)) (k : w_p d M (pc + 1) lo (.int (h_ai h a x.toNatClampNeg) :: st) h Q) : w_p d M pc lo (.int x :: .ref a :: st) h Q :=
  w_x (s' := (pc + 1, lo, .int (h_ai h a x.toNatClampNeg) :: st, h)) hc (Or.inr (Or.inr (Or.inr ⟨a, x, st, rfl, hk, hi, rfl⟩))) k
theorem w_bald {a : Nat} {x : Int32} (hc : mm_cl M.2.2 pc = some (.baload, len, u, v)) (hk : h_kd h a = 21 ∨ h_kd h a = 22) (hi : vp_in x (h_al h a)) (k : w_p d M (pc + 1) lo (.int (h_ai h a x.toNatClampNeg) :: st) h Q) : w_p d M pc lo (.int x :: .ref a :: st) h Q :=
  w_x (s' := (pc + 1, lo, .int (h_ai h a x.toNatClampNeg) :: st, h)) hc (Or.inr (Or.inr (Or.inr ⟨a, x, st, rfl, hk, hi, rfl⟩))) k
theorem w_aald {a : Nat} {x : Int32} (hc : mm_cl M.2.2 pc = some (.aaload, len, u, v)) (hk : 23 ≤ h_kd h a ∧ h_kd h a ≤ 25) (hi : vp_in x (h_al h a)) (k : w_p d M (pc + 1) lo (va_rf (h_ar h a x.toNatClampNeg) :: st) h Q) : w_p d M pc lo (.int x :: .ref a :: st) h Q :=
  w_x (s' := (pc + 1, lo, va_rf (h_ar h a x.toNatClampNeg) :: st, h)) hc (Or.inr (Or.inr (Or.inr ⟨a, x, st, rfl, hk.1, hk.2, hi, rfl⟩))) k
theorem w_iast {a : Nat} {x y : Int32} (hc : mm_cl M.2.2 pc = some (.iastore, len, u, v)) (hk : h_kd h a = 20) (ha : 16 ≤ a) (hi : vp_in x (h_al h a)) (k : w_p d M (pc + 1) lo st (h_sA h a x.toNatClampNeg y) Q) : w_p d M pc lo (.int y :: .int x :: .ref a :: st) h Q :=
  w_x (s' := (pc + 1, lo, st, h_sA h a x.toNatClampNeg y)) hc (Or.inr (Or.inr (Or.inr ⟨a, x, y, st, rfl, hk, ha, hi, rfl⟩))) k
theorem w_bast {a : Nat} {x y : Int32} (hc : mm_cl M.2.2 pc = some (.bastore, len, u, v)) (hk : h_kd h a = 21) (ha : 16 ≤ a) (hi : vp_in x (h_al h a)) (k : w_p d M (pc + 1) lo st (h_sA h a x.toNatClampNeg (vp_nar .byte y)) Q) : w_p d M pc lo (.int y :: .int x :: .ref a :: st) h Q :=
  w_x (s' := (pc + 1, lo, st, h_sA h a x.toNatClampNeg (vp_nar .byte y))) hc (Or.inr (Or.inr (Or.inr ⟨a, x, y, st, rfl, ha, hi, Or.inl ⟨hk, rfl⟩⟩))) k
theorem w_zast {a : Nat} {x y : Int32} (hc : mm_cl M.2.2 pc = some (.bastore, len, u, v)) (hk : h_kd h a = 22) (ha : 16 ≤ a) (hi : vp_in x (h_al h a)) (k : w_p d M (pc + 1) lo st (h_sA h a x.toNatClampNeg (vp_nar .boolean y)) Q) : w_p d M pc lo (.int y :: .int x :: .ref a :: st) h Q :=
  w_x (s' := (pc + 1, lo, st, h_sA h a x.toNatClampNeg (vp_nar .boolean y))) hc (Or.inr (Or.inr (Or.inr ⟨a, x, y, st, rfl, ha, hi, Or.inr ⟨hk, rfl⟩⟩))) k
theorem w_aast {a : Nat} {x : Int32} {y : Option Nat} (hc : mm_cl M.2.2 pc = some (.aastore, len, u, v)) (ha : 16 ≤ a) (hi : vp_in x (h_al h a)) (hk : (h_kd h a = 23 ∧ ∀ w, y = some w → h_kd h w = 1) ∨ (h_kd h a = 24 ∧ ∀ w, y = some w → h_kd h w = 6)) (k : w_p d M (pc + 1) lo st (h_sQ h a x.toNatClampNeg y) Q) : w_p d M pc lo (va_rf y :: .int x :: .ref a :: st) h Q :=
  w_x (s' := (pc + 1, lo, st, h_sQ h a x.toNatClampNeg y)) hc (Or.inr (Or.inr (Or.inr ⟨a, x, y, st, rfl, ha, hi, hk, rfl⟩))) k
theorem w_alen {a : Nat} (hc : mm_cl M.2.2 pc = some (.arraylength, len, u, v)) (hk : 20 ≤ h_kd h a ∧ h_kd h a ≤ 25) (k : w_p d M (pc + 1) lo (.int (Int32.ofNat (h_al h a)) :: st) h Q) : w_p d M pc lo (.ref a :: st) h Q :=
  w_x (s' := (pc + 1, lo, .int (Int32.ofNat (h_al h a)) :: st, h)) hc (Or.inr (Or.inr (Or.inr ⟨a, st, rfl, hk.1, hk.2, rfl⟩))) k
theorem w_new (hc : mm_cl M.2.2 pc = some (.new i, len, u, v)) (k : w_p d M (pc + 3) lo (.ref (h_n h) :: st) (h_nO h u (mm_N u)) Q) : w_p d M pc lo st h Q :=
  w_x (s' := (pc + 3, lo, .ref (h_n h) :: st, h_nO h u (mm_N u))) hc (Or.inr (Or.inr (Or.inr rfl))) k
theorem w_newa {t : ClassFile.ArrayType} {x : Int32} (hc : mm_cl M.2.2 pc = some (.newarray t, len, u, v)) (h0 : ¬ x < 0) (h1 : x.toNatClampNeg ≤ 100000000) (k : w_p d M (pc + 2) lo (.ref (h_n h) :: st) (h_nA h u x.toNatClampNeg) Q) : w_p d M pc lo (.int x :: st) h Q :=
  w_x (s' := (pc + 2, lo, .ref (h_n h) :: st, h_nA h u x.toNatClampNeg)) hc (Or.inr (Or.inr (Or.inr ⟨x, st, rfl, h0, h1, rfl⟩))) k
theorem w_anew {x : Int32} (hc : mm_cl M.2.2 pc = some (.anewarray i, len, u, v)) (h0 : ¬ x < 0) (h1 : x.toNatClampNeg ≤ 100000000) (k : w_p d M (pc + 3) lo (.ref (h_n h) :: st) (h_nA h u x.toNatClampNeg) Q) : w_p d M pc lo (.int x :: st) h Q :=
  w_x (s' := (pc + 3, lo, .ref (h_n h) :: st, h_nA h u x.toNatClampNeg)) hc (Or.inr (Or.inr (Or.inr ⟨x, st, rfl, h0, h1, rfl⟩))) k
theorem w_mnew {x y : Int32} {j : Nat} (hc : mm_cl M.2.2 pc = some (.multianewarray i j, len, u, v)) (h0 : ¬ x < 0) (h1 : ¬ y < 0) (h2 : x.toNatClampNeg ≤ 100000000) (h3 : y.toNatClampNeg ≤ 100000000) (k : w_p d M (pc + 4) lo (.ref (h_n h) :: st) (h_nM h x.toNatClampNeg y.toNatClampNeg) Q) : w_p d M pc lo (.int y :: .int x :: st) h Q :=
  w_x (s' := (pc + 4, lo, .ref (h_n h) :: st, h_nM h x.toNatClampNeg y.toNatClampNeg)) hc (Or.inr (Or.inr (Or.inr ⟨x, y, st, rfl, h0, h1, h2, h3, rfl⟩))) k
theorem w_aldN {k0 : Fin 4} {r : Option Nat} (hc : mm_cl M.2.2 pc = some (.aload_n k0, len, u, v)) (hl : mm_lk lo (k0 : Nat) = some (va_rf r)) (k : w_p d M (pc + 1) lo (va_rf r :: st) h Q) : w_p d M pc lo st h Q :=
  w_x (s' := (pc + 1, lo, va_rf r :: st, h)) hc (Or.inl ⟨r, hl, rfl⟩) k
theorem w_aldM {r : Option Nat} (hc : mm_cl M.2.2 pc = some (.aload i, len, u, v)) (hl : mm_lk lo i = some (va_rf r)) (k : w_p d M (pc + 2) lo (va_rf r :: st) h Q) : w_p d M pc lo st h Q :=
  w_x (s' := (pc + 2, lo, va_rf r :: st, h)) hc (Or.inl ⟨r, hl, rfl⟩) k
theorem w_astN {k0 : Fin 4} {r : Option Nat} {lo2 : mm_L} (hc : mm_cl M.2.2 pc = some (.astore_n k0, len, u, v)) (hn : (k0 : Nat) < M.2.1) (hl : mm_st lo (k0 : Nat) (va_rf r) = lo2) (k : w_p d M (pc + 1) lo2 st h Q) : w_p d M pc lo (va_rf r :: st) h Q :=
  w_x (s' := (pc + 1, lo2, st, h)) hc (Or.inl ⟨r, st, rfl, hn, by rw [hl]⟩) k
theorem w_astM {r : Option Nat} {lo2 : mm_L} (hc : mm_cl M.2.2 pc = some (.astore i, len, u, v)) (hn : i < M.2.1) (hl : mm_st lo i (va_rf r) = lo2) (k : w_p d M (pc + 2) lo2 st h Q) : w_p d M pc lo (va_rf r :: st) h Q :=
  w_x (s' := (pc + 2, lo2, st, h)) hc (Or.inl ⟨r, st, rfl, hn, by rw [hl]⟩) k
theorem w_z (hc : mm_cl M.2.2 pc = some e) {r : Option Value} (hZ : mm_Z e st r) (k : Q r h) : w_p d M pc lo st h Q := ⟨1, (r, h), ⟨e, hc, Or.inr (Or.inl ⟨hZ, rfl⟩)⟩, k⟩
theorem w_ir {x : Int32} (hc : mm_cl M.2.2 pc = some (.ireturn, len, 0, v)) (k : Q (some (.int x)) h) : w_p d M pc lo [.int x] h Q := w_z hc ⟨x, rfl, Or.inl rfl, rfl⟩ k
theorem w_br {x : Int32} (hc : mm_cl M.2.2 pc = some (.ireturn, len, u, v)) (hx : x = 0 ∨ x = 1) (k : Q (some (.int x)) h) : w_p d M pc lo [.int x] h Q := w_z hc ⟨x, rfl, Or.inr hx, rfl⟩ k
theorem w_vr (hc : mm_cl M.2.2 pc = some (.return_, len, u, v)) (k : Q none h) : w_p d M pc lo [] h Q := w_z hc ⟨rfl, rfl⟩ k
theorem w_ar {r : Option Nat} (hc : mm_cl M.2.2 pc = some (.areturn, len, u, v)) (k : Q (some (va_rf r)) h) : w_p d M pc lo [va_rf r] h Q := w_z hc ⟨r, rfl, rfl⟩ k
theorem w_y {As : List Value} {dc : Nat} (hc : mm_cl M.2.2 pc = some e) (hY : mm_Y e st h As rest) (hd : dc ≤ d) (k : w_c dc e.2.2.1 As h (fun r1 h1 => w_p (d + 1) M (pc + 3) lo (r1.toList ++ rest) h1 Q)) : w_p (d + 1) M pc lo st h Q := by
  obtain ⟨n1, ⟨r1, h1⟩, hk, n2, r, hR, hQ⟩ := k
  refine ⟨max n1 n2 + 1, r, ⟨e, hc, Or.inr (Or.inr (Or.inl ⟨d, As, rest, r1, h1, rfl, hY, hk.up (Nat.le_max_left n1 n2) hd, mm_up _ _ _ _ _ _ _ _ _ _ (Nat.le_max_right n1 n2) (Nat.le_refl _) hR⟩))⟩, hQ⟩
theorem w_cs {As : List Value} {dc : Nat} (hc : mm_cl M.2.2 pc = some (.invokestatic i, len, u, v)) (hs : st = As.reverse ++ rest) (hn : As.length = v) (hr : (rest.map fun v => v.category).sum ≤ 8) (hd : dc ≤ d) (k : w_c dc u As h (fun r1 h1 => w_p (d + 1) M (pc + 3) lo (r1.toList ++ rest) h1 Q)) : w_p (d + 1) M pc lo st h Q :=
  w_y hc ⟨hr, hs, hn⟩ hd k
theorem w_cv {As : List Value} {b dc : Nat} (hc : mm_cl M.2.2 pc = some (.invokevirtual i, len, u, v)) (hs : st = As.reverse ++ .ref b :: rest) (hn : As.length = v) (hr : (rest.map fun v => v.category).sum ≤ 8) (hk : h_kd h b = mm_rc u) (hb : mm_rc u = 30 → b < 16) (hd : dc ≤ d) (k : w_c dc u (.ref b :: As) h (fun r1 h1 => w_p (d + 1) M (pc + 3) lo (r1.toList ++ rest) h1 Q)) : w_p (d + 1) M pc lo st h Q :=
  w_y hc ⟨hr, b, As, rfl, hs, hn, hk, hb⟩ hd k
theorem w_cn {As : List Value} {b dc : Nat} (hc : mm_cl M.2.2 pc = some (.invokespecial i, len, u, v)) (hs : st = As.reverse ++ .ref b :: rest) (hn : As.length = v) (hr : (rest.map fun v => v.category).sum ≤ 8) (hd : dc ≤ d) (k : w_c dc u (.ref b :: As) h (fun r1 h1 => w_p (d + 1) M (pc + 3) lo (r1.toList ++ rest) h1 Q)) : w_p (d + 1) M pc lo st h Q :=
  w_y hc ⟨hr, b, As, rfl, hs, hn⟩ hd k
theorem w_o {a : Nat} (hc : mm_cl M.2.2 pc = some (.invokespecial i, len, 999, v)) (hr : (st.map fun v => v.category).sum ≤ 8) (k : w_p (d + 1) M (pc + 3) lo st h Q) : w_p (d + 1) M pc lo (.ref a :: st) h Q := by
  obtain ⟨n, r, h1, h2⟩ := k
  exact ⟨n + 1, r, ⟨_, hc, Or.inr (Or.inr (Or.inr ⟨d, st, rfl, ⟨rfl, hr, a, rfl⟩, h1⟩))⟩, h2⟩
theorem w_max {x y : Int32} (hc : mm_cl M.2.2 pc = some (.invokestatic i, len, 157, v)) (hr : (st.map fun v => v.category).sum ≤ 8) (k : w_p (d + 1) M (pc + 3) lo (.int (if x < y then y else x) :: st) h Q) : w_p (d + 1) M pc lo (.int y :: .int x :: st) h Q := by
  obtain ⟨n, r, h1, h2⟩ := k
  exact ⟨n + 1, r, ⟨_, hc, Or.inr (Or.inr (Or.inr ⟨d, _, rfl, ⟨x, y, st, rfl, hr, Or.inl ⟨rfl, rfl⟩⟩, h1⟩))⟩, h2⟩
theorem w_min {x y : Int32} (hc : mm_cl M.2.2 pc = some (.invokestatic i, len, 158, v)) (hr : (st.map fun v => v.category).sum ≤ 8) (k : w_p (d + 1) M (pc + 3) lo (.int (if y < x then y else x) :: st) h Q) : w_p (d + 1) M pc lo (.int y :: .int x :: st) h Q := by
  obtain ⟨n, r, h1, h2⟩ := k
  exact ⟨n + 1, r, ⟨_, hc, Or.inr (Or.inr (Or.inr ⟨d, _, rfl, ⟨x, y, st, rfl, hr, Or.inr ⟨rfl, rfl⟩⟩, h1⟩))⟩, h2⟩
end WP
