def ms_okM (q : mm_I) : Bool := ms_gw (.code q.1 q.2.1 q.2.2.1 q.2.2.2) && ms_gw (.initialized q.1.cls) && plainName q.1.cls && decide (q.1.cls ≠ "java/lang/invoke/MethodHandle") && decide (q.1.cls ≠ "java/lang/invoke/VarHandle") && decide (q.2.2.1 ≤ 21)
def ms_okC (own : String) (i u v : Nat) (f : mm_I → Bool) : Bool := match mm_is[u]? with
  | some q => (ms_gw (.methodLink own i q.1) || ms_hw (.methodLinkNest own i q.1 "SitterCircle")) && decide ((parseMethodDescriptor q.1.desc).map (fun d => d.parameters.length) = some v) && f q
  | none => false
def ms_okN (own : String) (i ci : Nat) : Bool := match vwCl[ci]? with
  | some r => ms_gw (.classLink own i r.1) && ms_gw (.instantiable r.1 r.2.2) && ms_gw (.initialized r.1) && decide (mm_N ci = r.2.2)
  | none => false
def ms_ok (own : String) (ini : Bool) (cc : ByteArray) (q : Nat × mm_E) : Bool := decide (decode cc q.1 = .ok (q.2.1, q.2.2.1)) && ms_ln q.2.1 q.2.2.1 && match q.2.1 with
  | .getfield i => ms_okF own i q.2.2.2.1 q.2.2.2.2
  | .putfield i => ms_okP own ini i q.2.2.2.1 q.2.2.2.2
  | .ldc2_w i => ms_gw (.constantLong own i (Int64.ofNat q.2.2.2.1))
  | .ldc i => decide (own = "SitterCircle$Reader") && decide (((i, q.2.2.2.1) : Nat × Nat) ∈ [(93, 4), (95, 5), (97, 6), (99, 7), (101, 8)])
  | .getstatic i => (decide (q.2.2.2.1 = 1) && ms_gw (.fieldLink own i "SitterCircle$Reader" "LEAST" "[I")) || (decide (q.2.2.2.1 = 2) && ms_gw (.fieldLink own i "SitterCircle$Reader" "MOST" "[I")) || (decide (q.2.2.2.1 = 3) && ms_gw (.fieldLink own i "SitterCircle$Lawbook" "WITHOUT" "[I"))
  | .new i => ms_okN own i q.2.2.2.1
  | .newarray t => decide (newarray.typeOf t = ms_ty q.2.2.2.1) && decide (20 ≤ q.2.2.2.1) && decide (q.2.2.2.1 ≤ 22) && ms_gw (.arrayClass (newarray.typeOf t))
  | .anewarray i => (decide (q.2.2.2.1 = 23) && ms_gw (.classLink own i "SitterCircle$Family")) || (decide (q.2.2.2.1 = 24) && ms_gw (.classLink own i "SitterCircle$Row"))
  | .multianewarray i d => decide (d = 2) && ms_gw (.classLink own i ("[" ++ (FieldType.array .int).toString)) && ms_gw (.arrayClass .int)
  | .invokevirtual i => ms_okC own i q.2.2.2.1 q.2.2.2.2 (fun y => ms_gw (.instanceMethod y.1) && ms_gw (.selects y.1.cls y.1 y.1) && decide (((match vwCl[mm_rc q.2.2.2.1 - 1]? with | some r => r.1 | none => "java/lang/String") = y.1.cls)) && decide (1 ≤ mm_rc q.2.2.2.1) && decide (mm_rc q.2.2.2.1 ≤ 30) && (decide (mm_rc q.2.2.2.1 ≤ 10) || decide (mm_rc q.2.2.2.1 = 30)))
  | .invokestatic i => (decide (q.2.2.2.1 = 157) && ms_gw (.methodLink own i Lib.Math.max.name)) || (decide (q.2.2.2.1 = 158) && ms_gw (.methodLink own i Lib.Math.min.name)) || (decide (q.2.2.2.1 < 157) && ms_okC own i q.2.2.2.1 q.2.2.2.2 (fun y => ms_gw (.static y.1)))
  | .invokespecial i => (decide (q.2.2.2.1 = 999) && ms_gw (.methodLink own i Lib.objectInit) && ms_gw (.instanceMethod Lib.objectInit) && ms_gw (.code Lib.objectInit ⟨#[0xb1]⟩ 1 none)) || (decide (q.2.2.2.1 ≠ 999) && ms_okC own i q.2.2.2.1 q.2.2.2.2 (fun y => decide (y.1.name = "<init>") && ms_gw (.instanceMethod y.1) && decide (y.2.2.2 = none)))
  | _ => true
theorem ms_gw_of {w : Cond} (h : ms_gw w = true) : w ∈ lw_tbl ∧ goodWord w = true := by
  unfold ms_gw at h
  rw [Bool.and_eq_true] at h
  exact ⟨of_decide_eq_true h.1, h.2⟩
theorem ms_hw_of {w : Cond} (h : ms_hw w = true) : w ∈ lw_tbl ∧ ms_nw w = true := by
  unfold ms_hw at h
  rw [Bool.and_eq_true] at h
  exact ⟨of_decide_eq_true h.1, h.2⟩
theorem ms_ok_d {own : String} {ini : Bool} {cc : ByteArray} {pc : Nat} {e : mm_E} (h : ms_ok own ini cc (pc, e) = true) : decode cc pc = .ok (e.1, e.2.1) ∧ ms_ln e.1 e.2.1 = true := by
  unfold ms_ok at h
  rw [Bool.and_eq_true, Bool.and_eq_true] at h
  exact ⟨of_decide_eq_true h.1.1, h.1.2⟩
theorem ms_ok_r {own : String} {ini : Bool} {cc : ByteArray} {pc : Nat} {e : mm_E} (h : ms_ok own ini cc (pc, e) = true) {b : Bool} (hb : (ms_ok own ini cc (pc, e)) = (decide (decode cc pc = .ok (e.1, e.2.1)) && ms_ln e.1 e.2.1 && b)) : b = true := by
  rw [hb, Bool.and_eq_true] at h
  exact h.2
theorem ms_gd {G : ms_G} {p : Program} {s : State} {m : MethodId} {args : Array Value} {c : Code} {cc : ByteArray} {nL : Nat} {own : String} (C : ms_C G p s m args c cc nL own) {w : Cond} (h : ms_gw w = true) : w.before args s = true := C.2.2.2.2.1 w (ms_gw_of h).1 (ms_gw_of h).2
theorem ms_nd {G : ms_G} {p : Program} {s : State} {m : MethodId} {args : Array Value} {c : Code} {cc : ByteArray} {nL : Nat} {own : String} (C : ms_C G p s m args c cc nL own) {w : Cond} (h : ms_hw w = true) : va_Nw w s := C.2.2.2.2.2.2.1 w (ms_hw_of h).1 (ms_hw_of h).2
section MS1
variable {G : ms_G} {p : Program} {l : Launch} {e : Env} {R : Room} {s : State} {m : MethodId} {args : Array Value} {below : List Frame} {meth : Method} {c : Code} {H : Heap} {locs : List Loc} {cells slots : Nat} {Q : State → Prop} {cc : ByteArray} {nL pc : Nat} {own : String} {ini : Bool} {ls : Array Slot} {en : mm_E} {lo : mm_L} {st : List Value} {h : mm_H} {s' : mm_S}
set_option maxHeartbeats 4000000 in
theorem ms_s1 (C : ms_C G p s m args c cc nL own) (hok : ms_ok own ini cc (pc, en) = true) (hl : lv_has ls nL (ms_lt G lo)) (hS : va_S (ms_A G) s.heap H locs) (hX : mm_X1 nL en pc lo st h s') (kk : s'.2.2.2 = h → ∀ ls' : Array Slot, lv_has ls' nL (ms_lt G s'.2.1) → W p l e R s m args below meth c H locs cells slots Q (F0 m s'.1 ls' (s'.2.2.1.map (ms_vt G)))) : W p l e R s m args below meth c H locs cells slots Q (F0 m pc ls (st.map (ms_vt G))) := by
  obtain ⟨hx, hb, hml, hown, hts, hF⟩ := id C
  obtain ⟨i, len, u, v⟩ := en
  obtain ⟨hd, hlen⟩ := ms_ok_d hok
  cases i
  case iconst n =>
    obtain rfl : len = 1 := eq_of_beq hlen
    obtain rfl : s' = _ := hX
    exact lv_iconst hx hb hd rfl (kk rfl ls hl)
  case bipush n =>
    obtain rfl : len = 2 := eq_of_beq hlen
    obtain rfl : s' = _ := hX
    exact lv_bipush hx hb hd rfl (kk rfl ls hl)
  case sipush n =>
    obtain rfl : len = 3 := eq_of_beq hlen
    obtain rfl : s' = _ := hX
    exact lv_sipush hx hb hd rfl (kk rfl ls hl)
  case lconst n =>
    obtain rfl : len = 1 := eq_of_beq hlen
    obtain rfl : s' = _ := hX
    exact lv_lconst hx hb hd rfl (kk rfl ls hl)
  case aconst_null  =>
    obtain rfl : len = 1 := eq_of_beq hlen
    obtain rfl : s' = _ := hX
    exact lv_null hx hb hd (kk rfl ls hl)
  case ldc2_w k =>
    obtain rfl : len = 3 := eq_of_beq hlen
    obtain rfl : s' = _ := hX
    exact lv_ldc2 hx hb hown (ms_gd C (ms_ok_r hok rfl)) hd (kk rfl ls hl)
  case ldc k =>
    obtain rfl : len = 2 := eq_of_beq hlen
    obtain rfl : s' = _ := hX
    have h1 := ms_ok_r hok rfl
    rw [Bool.and_eq_true] at h1
    obtain ⟨h2, h3⟩ := h1
    have h2 : own = "SitterCircle$Reader" := of_decide_eq_true h2
    have h3 : ((k, u) : Nat × Nat) ∈ [(93, 4), (95, 5), (97, 6), (99, 7), (101, 8)] := of_decide_eq_true h3
    subst h2
    have hT := hF.2.2.2.2.2.2.2.2.1.1
    simp only [List.mem_cons, Prod.mk.injEq, List.not_mem_nil, or_false] at h3
    rcases h3 with ⟨rfl, rfl⟩ | ⟨rfl, rfl⟩ | ⟨rfl, rfl⟩ | ⟨rfl, rfl⟩ | ⟨rfl, rfl⟩
    · exact va_ldcS hx hb hown (hT 0 _ rfl) hd (kk rfl ls hl)
    · exact va_ldcS hx hb hown (hT 1 _ rfl) hd (kk rfl ls hl)
    · exact va_ldcS hx hb hown (hT 2 _ rfl) hd (kk rfl ls hl)
    · exact va_ldcS hx hb hown (hT 3 _ rfl) hd (kk rfl ls hl)
    · exact va_ldcS hx hb hown (hT 4 _ rfl) hd (kk rfl ls hl)
  case getstatic k =>
    obtain rfl : len = 3 := eq_of_beq hlen
    obtain rfl : s' = _ := hX
    have h1 := ms_ok_r hok rfl
    rw [Bool.or_eq_true, Bool.or_eq_true, Bool.and_eq_true, Bool.and_eq_true, Bool.and_eq_true] at h1
    rcases h1 with (⟨h2, h3⟩ | ⟨h2, h3⟩) | ⟨h2, h3⟩
    · obtain rfl : u = 1 := of_decide_eq_true h2
      exact va_gets hx hb hF.2.2.2.2.2.1 hS hown (ms_gd C h3) (fun _ q => q) hd (kk rfl ls hl)
    · obtain rfl : u = 2 := of_decide_eq_true h2
      exact va_gets hx hb hF.2.2.2.2.2.2.1 hS hown (ms_gd C h3) (fun _ q => q) hd (kk rfl ls hl)
    · obtain rfl : u = 3 := of_decide_eq_true h2
      exact va_gets hx hb hF.2.2.2.2.2.2.2.1 hS hown (ms_gd C h3) (fun _ q => q) hd (kk rfl ls hl)
  case iload_n k =>
    obtain rfl : len = 1 := eq_of_beq hlen
    obtain ⟨x, hk, rfl⟩ := hX
    exact lv_iload_n hx hb hd rfl (ms_at hl hk) (kk rfl ls hl)
  case iload k =>
    obtain rfl : len = 2 := eq_of_beq hlen
    obtain ⟨x, hk, rfl⟩ := hX
    exact lv_iload hx hb hd (ms_at hl hk) (kk rfl ls hl)
  case lload_n k =>
    obtain rfl : len = 1 := eq_of_beq hlen
    obtain ⟨x, hk, rfl⟩ := hX
    exact lv_lload_n hx hb hd rfl (ms_at hl hk) (kk rfl ls hl)
  case lload k =>
    obtain rfl : len = 2 := eq_of_beq hlen
    obtain ⟨x, hk, rfl⟩ := hX
    exact lv_lload hx hb hd (ms_at hl hk) (kk rfl ls hl)
  case aload_n k =>
    obtain rfl : len = 1 := eq_of_beq hlen
    obtain ⟨r, hk, rfl⟩ := hX
    cases r with
    | none => exact lv_aload_nN hx hb hd rfl (ms_at hl hk) (kk rfl ls hl)
    | some q => exact lv_aload_n hx hb hd rfl (ms_at hl hk) (kk rfl ls hl)
  case aload k =>
    obtain rfl : len = 2 := eq_of_beq hlen
    obtain ⟨r, hk, rfl⟩ := hX
    cases r with
    | none => exact lv_aloadN hx hb hd (ms_at hl hk) (kk rfl ls hl)
    | some q => exact lv_aload hx hb hd (ms_at hl hk) (kk rfl ls hl)
  case istore_n k =>
    obtain rfl : len = 1 := eq_of_beq hlen
    obtain ⟨x, rest, rfl, hk, rfl⟩ := hX
    exact lv_istore_n (x := x) (rest := rest.map (ms_vt G)) hx hb hd rfl hl hk (ms_st_eq G lo _ (.int x)) (fun ls2 hl2 => kk rfl ls2 hl2)
  case istore k =>
    obtain rfl : len = 2 := eq_of_beq hlen
    obtain ⟨x, rest, rfl, hk, rfl⟩ := hX
    exact lv_istore (x := x) (rest := rest.map (ms_vt G)) hx hb hd hl hk (ms_st_eq G lo _ (.int x)) (fun ls2 hl2 => kk rfl ls2 hl2)
  case lstore_n k =>
    obtain rfl : len = 1 := eq_of_beq hlen
    obtain ⟨x, rest, rfl, hk, rfl⟩ := hX
    exact lv_lstore_n (x := x) (rest := rest.map (ms_vt G)) hx hb hd rfl hl hk (ms_st2_eq G lo _ (.long x)) (fun ls2 hl2 => kk rfl ls2 hl2)
  case lstore k =>
    obtain rfl : len = 2 := eq_of_beq hlen
    obtain ⟨x, rest, rfl, hk, rfl⟩ := hX
    exact lv_lstore (x := x) (rest := rest.map (ms_vt G)) hx hb hd hl hk (ms_st2_eq G lo _ (.long x)) (fun ls2 hl2 => kk rfl ls2 hl2)
  case astore_n k =>
    obtain rfl : len = 1 := eq_of_beq hlen
    obtain ⟨r, rest, rfl, hk, rfl⟩ := hX
    cases r with
    | none => exact lv_astore_nN (rest := rest.map (ms_vt G)) hx hb hd rfl hl hk (ms_st_eq G lo _ .null) (fun ls2 hl2 => kk rfl ls2 hl2)
    | some q => exact lv_astore_n (x := ms_tr G q) (rest := rest.map (ms_vt G)) hx hb hd rfl hl hk (ms_st_eq G lo _ (.ref q)) (fun ls2 hl2 => kk rfl ls2 hl2)
  case astore k =>
    obtain rfl : len = 2 := eq_of_beq hlen
    obtain ⟨r, rest, rfl, hk, rfl⟩ := hX
    cases r with
    | none => exact lv_astoreN (rest := rest.map (ms_vt G)) hx hb hd hl hk (ms_st_eq G lo _ .null) (fun ls2 hl2 => kk rfl ls2 hl2)
    | some q => exact lv_astore (x := ms_tr G q) (rest := rest.map (ms_vt G)) hx hb hd hl hk (ms_st_eq G lo _ (.ref q)) (fun ls2 hl2 => kk rfl ls2 hl2)
  case iinc k n =>
    obtain rfl : len = 3 := eq_of_beq hlen
    obtain ⟨x, hk, hn, rfl⟩ := hX
    obtain ⟨j, hj⟩ := List.getElem?_of_mem (ms_in (G := G) hk)
    exact lv_iinc (x := x) hx hb hd hl hj rfl hn (ms_st_eq G lo _ (.int _)) (fun ls2 hl2 => kk rfl ls2 hl2)
  all_goals exact False.elim hX
set_option maxHeartbeats 4000000 in
theorem ms_s2 (C : ms_C G p s m args c cc nL own) (hok : ms_ok own ini cc (pc, en) = true) (hl : lv_has ls nL (ms_lt G lo)) (hS : va_S (ms_A G) s.heap H locs) (hX : mm_X2 en pc lo st h s') (kk : s'.2.2.2 = h → ∀ ls' : Array Slot, lv_has ls' nL (ms_lt G s'.2.1) → W p l e R s m args below meth c H locs cells slots Q (F0 m s'.1 ls' (s'.2.2.1.map (ms_vt G)))) : W p l e R s m args below meth c H locs cells slots Q (F0 m pc ls (st.map (ms_vt G))) := by
  obtain ⟨hx, hb, hml, hown, hts, hF⟩ := id C
  obtain ⟨i, len, u, v⟩ := en
  obtain ⟨hd, hlen⟩ := ms_ok_d hok
  cases i
  case iadd  =>
    obtain rfl : len = 1 := eq_of_beq hlen
    obtain ⟨x, y, rest, rfl, rfl⟩ := hX
    exact lv_iadd (x := x) (y := y) (rest := rest.map (ms_vt G)) hx hb hd (kk rfl ls hl)
  case isub  =>
    obtain rfl : len = 1 := eq_of_beq hlen
    obtain ⟨x, y, rest, rfl, rfl⟩ := hX
    exact lv_isub (x := x) (y := y) (rest := rest.map (ms_vt G)) hx hb hd (kk rfl ls hl)
  case imul  =>
    obtain rfl : len = 1 := eq_of_beq hlen
    obtain ⟨x, y, rest, rfl, rfl⟩ := hX
    exact lv_imul (x := x) (y := y) (rest := rest.map (ms_vt G)) hx hb hd (kk rfl ls hl)
  case iand  =>
    obtain rfl : len = 1 := eq_of_beq hlen
    obtain ⟨x, y, rest, rfl, rfl⟩ := hX
    exact lv_iand (x := x) (y := y) (rest := rest.map (ms_vt G)) hx hb hd (kk rfl ls hl)
  case ior  =>
    obtain rfl : len = 1 := eq_of_beq hlen
    obtain ⟨x, y, rest, rfl, rfl⟩ := hX
    exact lv_ior (x := x) (y := y) (rest := rest.map (ms_vt G)) hx hb hd (kk rfl ls hl)
  case ixor  =>
    obtain rfl : len = 1 := eq_of_beq hlen
    obtain ⟨x, y, rest, rfl, rfl⟩ := hX
    exact lv_ixor (x := x) (y := y) (rest := rest.map (ms_vt G)) hx hb hd (kk rfl ls hl)
  case ishl  =>
    obtain rfl : len = 1 := eq_of_beq hlen
    obtain ⟨x, y, rest, rfl, rfl⟩ := hX
    exact lv_ishl (x := x) (y := y) (rest := rest.map (ms_vt G)) hx hb hd (kk rfl ls hl)
  case ishr  =>
    obtain rfl : len = 1 := eq_of_beq hlen
    obtain ⟨x, y, rest, rfl, rfl⟩ := hX
    exact lv_ishr (x := x) (y := y) (rest := rest.map (ms_vt G)) hx hb hd (kk rfl ls hl)
  case ladd  =>
    obtain rfl : len = 1 := eq_of_beq hlen
    obtain ⟨x, y, rest, rfl, rfl⟩ := hX
    exact lv_ladd (x := x) (y := y) (rest := rest.map (ms_vt G)) hx hb hd (kk rfl ls hl)
  case land  =>
    obtain rfl : len = 1 := eq_of_beq hlen
    obtain ⟨x, y, rest, rfl, rfl⟩ := hX
    exact lv_land (x := x) (y := y) (rest := rest.map (ms_vt G)) hx hb hd (kk rfl ls hl)
  case lor  =>
    obtain rfl : len = 1 := eq_of_beq hlen
    obtain ⟨x, y, rest, rfl, rfl⟩ := hX
    exact lv_lor (x := x) (y := y) (rest := rest.map (ms_vt G)) hx hb hd (kk rfl ls hl)
  case lshl  =>
    obtain rfl : len = 1 := eq_of_beq hlen
    obtain ⟨x, y, rest, rfl, rfl⟩ := hX
    exact lv_lshl (x := x) (y := y) (rest := rest.map (ms_vt G)) hx hb hd rfl (kk rfl ls hl)
  case lshr  =>
    obtain rfl : len = 1 := eq_of_beq hlen
    obtain ⟨x, y, rest, rfl, rfl⟩ := hX
    exact lv_lshr (x := x) (y := y) (rest := rest.map (ms_vt G)) hx hb hd rfl (kk rfl ls hl)
  case lushr  =>
    obtain rfl : len = 1 := eq_of_beq hlen
    obtain ⟨x, y, rest, rfl, rfl⟩ := hX
    exact lv_lushr (x := x) (y := y) (rest := rest.map (ms_vt G)) hx hb hd rfl (kk rfl ls hl)
  case lcmp  =>
    obtain rfl : len = 1 := eq_of_beq hlen
    obtain ⟨x, y, rest, rfl, rfl⟩ := hX
    exact W.lcmp (x := x) (y := y) (rest := rest.map (ms_vt G)) hx hb hd (kk rfl ls hl)
  case i2l  =>
    obtain rfl : len = 1 := eq_of_beq hlen
    obtain ⟨x, rest, rfl, rfl⟩ := hX
    exact lv_i2l (x := x) (rest := rest.map (ms_vt G)) hx hb hd rfl (kk rfl ls hl)
  case l2i  =>
    obtain rfl : len = 1 := eq_of_beq hlen
    obtain ⟨x, rest, rfl, rfl⟩ := hX
    exact lv_l2i (x := x) (rest := rest.map (ms_vt G)) hx hb hd rfl (kk rfl ls hl)
  case i2b  =>
    obtain rfl : len = 1 := eq_of_beq hlen
    obtain ⟨x, rest, rfl, rfl⟩ := hX
    exact lv_i2b (x := x) (rest := rest.map (ms_vt G)) hx hb hd rfl (kk rfl ls hl)
  case dup  =>
    obtain rfl : len = 1 := eq_of_beq hlen
    obtain ⟨w, rest, rfl, hw, rfl⟩ := hX
    exact lv_dup (va := ms_vt G w) (rest := rest.map (ms_vt G)) hx hb hd (by rw [ms_vt_cat]; exact hw) (kk rfl ls hl)
  case pop  =>
    obtain rfl : len = 1 := eq_of_beq hlen
    obtain ⟨w, rest, rfl, hw, rfl⟩ := hX
    exact lv_pop (va := ms_vt G w) (rest := rest.map (ms_vt G)) hx hb hd (by rw [ms_vt_cat]; exact hw) (kk rfl ls hl)
  case dup2  =>
    obtain rfl : len = 1 := eq_of_beq hlen
    obtain ⟨w, w2, rest, rfl, hw, hw2, rfl⟩ := hX
    exact lv_dup2_11 (va := ms_vt G w) (vb := ms_vt G w2) (rest := rest.map (ms_vt G)) hx hb hd (by rw [ms_vt_cat]; exact hw) (by rw [ms_vt_cat]; exact hw2) (kk rfl ls hl)
  all_goals exact False.elim hX
set_option maxHeartbeats 4000000 in
theorem ms_s3 (C : ms_C G p s m args c cc nL own) (hok : ms_ok own ini cc (pc, en) = true) (hl : lv_has ls nL (ms_lt G lo)) (hS : va_S (ms_A G) s.heap H locs) (hX : mm_X3 en pc lo st h s') (kk : s'.2.2.2 = h → ∀ ls' : Array Slot, lv_has ls' nL (ms_lt G s'.2.1) → W p l e R s m args below meth c H locs cells slots Q (F0 m s'.1 ls' (s'.2.2.1.map (ms_vt G)))) : W p l e R s m args below meth c H locs cells slots Q (F0 m pc ls (st.map (ms_vt G))) := by
  obtain ⟨hx, hb, hml, hown, hts, hF⟩ := id C
  obtain ⟨i, len, u, v⟩ := en
  obtain ⟨hd, hlen⟩ := ms_ok_d hok
  cases i
  case goto off =>
    obtain rfl : len = 3 := eq_of_beq hlen
    obtain ⟨tgt, ht, rfl⟩ := hX
    exact lv_goto hx hb hd ht (kk rfl ls hl)
  case ifCond cd off =>
    obtain rfl : len = 3 := eq_of_beq hlen
    obtain ⟨tgt, x, rest, ht, rfl, rfl⟩ := hX
    have kk := kk rfl ls hl
    cases cd
    case eq =>
      refine lv_if_eq (x := x) (rest := rest.map (ms_vt G)) hx hb hd ht (fun q => ?_) (fun q => ?_)
      · have q : mm_cz .eq x = true := decide_eq_true (p := x = 0) q
        rw [if_pos q] at kk
        exact kk
      · have q : ¬ mm_cz .eq x = true := fun z => absurd (of_decide_eq_true (p := x = 0) z) q
        rw [if_neg q] at kk
        exact kk
    case ne =>
      refine lv_if_ne (x := x) (rest := rest.map (ms_vt G)) hx hb hd ht (fun q => ?_) (fun q => ?_)
      · have q : mm_cz .ne x = true := decide_eq_true (p := ¬ x = 0) q
        rw [if_pos q] at kk
        exact kk
      · have q : ¬ mm_cz .ne x = true := fun z => (of_decide_eq_true (p := ¬ x = 0) z) q
        rw [if_neg q] at kk
        exact kk
    case lt =>
      refine lv_if_lt (x := x) (rest := rest.map (ms_vt G)) hx hb hd ht (fun q => ?_) (fun q => ?_)
      · have q : mm_cz .lt x = true := decide_eq_true (p := x < 0) q
        rw [if_pos q] at kk
        exact kk
      · have q : ¬ mm_cz .lt x = true := fun z => absurd (of_decide_eq_true (p := x < 0) z) q
        rw [if_neg q] at kk
        exact kk
    case ge =>
      refine lv_if_ge (x := x) (rest := rest.map (ms_vt G)) hx hb hd ht (fun q => ?_) (fun q => ?_)
      · have q : mm_cz .ge x = true := decide_eq_true (p := 0 ≤ x) q
        rw [if_pos q] at kk
        exact kk
      · have q : ¬ mm_cz .ge x = true := fun z => absurd (of_decide_eq_true (p := 0 ≤ x) z) q
        rw [if_neg q] at kk
        exact kk
    case gt =>
      refine lv_if_gt (x := x) (rest := rest.map (ms_vt G)) hx hb hd ht (fun q => ?_) (fun q => ?_)
      · have q : mm_cz .gt x = true := decide_eq_true (p := 0 < x) q
        rw [if_pos q] at kk
        exact kk
      · have q : ¬ mm_cz .gt x = true := fun z => absurd (of_decide_eq_true (p := 0 < x) z) q
        rw [if_neg q] at kk
        exact kk
    case le =>
      refine lv_if_le (x := x) (rest := rest.map (ms_vt G)) hx hb hd ht (fun q => ?_) (fun q => ?_)
      · have q : mm_cz .le x = true := decide_eq_true (p := x ≤ 0) q
        rw [if_pos q] at kk
        exact kk
      · have q : ¬ mm_cz .le x = true := fun z => absurd (of_decide_eq_true (p := x ≤ 0) z) q
        rw [if_neg q] at kk
        exact kk
  case if_icmp cd off =>
    obtain rfl : len = 3 := eq_of_beq hlen
    obtain ⟨tgt, x, y, rest, ht, rfl, rfl⟩ := hX
    have kk := kk rfl ls hl
    cases cd
    case eq =>
      refine lv_icmp_eq (x := x) (y := y) (rest := rest.map (ms_vt G)) hx hb hd ht (fun q => ?_) (fun q => ?_)
      · have q : mm_c2 .eq x y = true := decide_eq_true (p := x = y) q
        rw [if_pos q] at kk
        exact kk
      · have q : ¬ mm_c2 .eq x y = true := fun z => absurd (of_decide_eq_true (p := x = y) z) q
        rw [if_neg q] at kk
        exact kk
    case ne =>
      refine lv_icmp_ne (x := x) (y := y) (rest := rest.map (ms_vt G)) hx hb hd ht (fun q => ?_) (fun q => ?_)
      · have q : mm_c2 .ne x y = true := decide_eq_true (p := ¬ x = y) q
        rw [if_pos q] at kk
        exact kk
      · have q : ¬ mm_c2 .ne x y = true := fun z => (of_decide_eq_true (p := ¬ x = y) z) q
        rw [if_neg q] at kk
        exact kk
    case lt =>
      refine lv_icmp_lt (x := x) (y := y) (rest := rest.map (ms_vt G)) hx hb hd ht (fun q => ?_) (fun q => ?_)
      · have q : mm_c2 .lt x y = true := decide_eq_true (p := x < y) q
        rw [if_pos q] at kk
        exact kk
      · have q : ¬ mm_c2 .lt x y = true := fun z => absurd (of_decide_eq_true (p := x < y) z) q
        rw [if_neg q] at kk
        exact kk
    case ge =>
      refine lv_icmp_ge (x := x) (y := y) (rest := rest.map (ms_vt G)) hx hb hd ht (fun q => ?_) (fun q => ?_)
      · have q : mm_c2 .ge x y = true := decide_eq_true (p := y ≤ x) q
        rw [if_pos q] at kk
        exact kk
      · have q : ¬ mm_c2 .ge x y = true := fun z => absurd (of_decide_eq_true (p := y ≤ x) z) q
        rw [if_neg q] at kk
        exact kk
    case gt =>
      refine lv_icmp_gt (x := x) (y := y) (rest := rest.map (ms_vt G)) hx hb hd ht (fun q => ?_) (fun q => ?_)
      · have q : mm_c2 .gt x y = true := decide_eq_true (p := y < x) q
        rw [if_pos q] at kk
        exact kk
      · have q : ¬ mm_c2 .gt x y = true := fun z => absurd (of_decide_eq_true (p := y < x) z) q
        rw [if_neg q] at kk
        exact kk
    case le =>
      refine lv_icmp_le (x := x) (y := y) (rest := rest.map (ms_vt G)) hx hb hd ht (fun q => ?_) (fun q => ?_)
      · have q : mm_c2 .le x y = true := decide_eq_true (p := x ≤ y) q
        rw [if_pos q] at kk
        exact kk
      · have q : ¬ mm_c2 .le x y = true := fun z => absurd (of_decide_eq_true (p := x ≤ y) z) q
        rw [if_neg q] at kk
        exact kk
  case ifnull off =>
    obtain rfl : len = 3 := eq_of_beq hlen
    obtain ⟨tgt, r, rest, ht, rfl, rfl⟩ := hX
    have kk := kk rfl ls hl
    cases r with
    | none => exact lv_ifnullN (rest := rest.map (ms_vt G)) hx hb hd ht kk
    | some q => exact lv_ifnull (x := ms_tr G q) (rest := rest.map (ms_vt G)) hx hb hd kk
  case ifnonnull off =>
    obtain rfl : len = 3 := eq_of_beq hlen
    obtain ⟨tgt, r, rest, ht, rfl, rfl⟩ := hX
    have kk := kk rfl ls hl
    cases r with
    | none => exact lv_ifnonnullN (rest := rest.map (ms_vt G)) hx hb hd kk
    | some q => exact lv_ifnonnull (x := ms_tr G q) (rest := rest.map (ms_vt G)) hx hb hd ht kk
  case tableswitch dflt low high offs =>
    obtain ⟨tgt, off, x, rest, rfl, ho, ht, rfl⟩ := hX
    have kk := kk rfl ls hl
    rcases ho with ⟨h1, rfl⟩ | ⟨h1, h2, h3⟩
    · exact lv_tableOut (x := x) (rest := rest.map (ms_vt G)) hx hb hd h1 ht kk
    · exact lv_tableIn (x := x) (rest := rest.map (ms_vt G)) hx hb hd h1 h2 h3 ht kk
  all_goals exact False.elim hX
end MS1
