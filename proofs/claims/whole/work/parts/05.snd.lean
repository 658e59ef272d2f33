/-! SOUNDNESS, 1: the small machine's words over the real one -/
abbrev ms_G : Type := (Nat → ClassId) × (Nat → Nat → Nat) × (Nat → ClassId) × Nat × (Nat → Nat) × (Nat → Nat) × (Nat → Nat) × (Nat → Nat → Int32)
abbrev g_dC (G : ms_G) : Nat → ClassId := G.1
abbrev g_dI (G : ms_G) : Nat → Nat → Nat := G.2.1
abbrev g_cA (G : ms_G) : Nat → ClassId := G.2.2.1
abbrev g_b (G : ms_G) : Nat := G.2.2.2.1
abbrev g_sp (G : ms_G) : Nat → Nat := G.2.2.2.2.1
abbrev g_sk (G : ms_G) : Nat → Nat := G.2.2.2.2.2.1
abbrev g_sl (G : ms_G) : Nat → Nat := G.2.2.2.2.2.2.1
abbrev g_sf (G : ms_G) : Nat → Nat → Int32 := G.2.2.2.2.2.2.2
def ms_tr (G : ms_G) (a : Nat) : Nat := if a < 16 then g_sp G a else g_b G + (a - 16)
def ms_vt (G : ms_G) (v : Value) : Value := match v with
  | .ref a => .ref (ms_tr G a)
  | .int x => .int x
  | .long x => .long x
  | .float x => .float x
  | .double x => .double x
  | .null => .null
  | .retAddr p => .retAddr p
theorem ms_vt_rf (G : ms_G) (r : Option Nat) : ms_vt G (va_rf r) = va_rf (r.map (ms_tr G)) := by cases r <;> rfl
theorem ms_vt_cat (G : ms_G) (v : Value) : (ms_vt G v).category = v.category := by cases v <;> rfl
def ms_lt (G : ms_G) (lo : mm_L) : mm_L := lo.map (fun q => (q.1, ms_vt G q.2))
theorem ms_lkm : ∀ {lo : mm_L} {i : Nat} {v : Value}, mm_lk lo i = some v → (i, v) ∈ lo
  | [], _, _, h => by cases h
  | q :: t, i, v, h => by
    unfold mm_lk at h
    by_cases e : (q.1 == i) = true
    · rw [if_pos e] at h
      have e1 : q.1 = i := eq_of_beq e
      have e2 : q.2 = v := Option.some.inj h
      subst e1; subst e2
      exact List.mem_cons_self
    · rw [if_neg e] at h
      exact List.mem_cons_of_mem _ (ms_lkm h)
theorem ms_in {G : ms_G} {lo : mm_L} {i : Nat} {v : Value} (h : mm_lk lo i = some v) : (i, ms_vt G v) ∈ ms_lt G lo := List.mem_map.mpr ⟨(i, v), ms_lkm h, rfl⟩
theorem ms_at {G : ms_G} {ls : Array Slot} {nL : Nat} {lo : mm_L} {i : Nat} {v : Value} (hl : lv_has ls nL (ms_lt G lo)) (h : mm_lk lo i = some v) : ls[i]? = some (.val (ms_vt G v)) := hl.2.2 (i, ms_vt G v) (ms_in h)
theorem ms_st_eq (G : ms_G) (lo : mm_L) (i : Nat) (v : Value) : (i, ms_vt G v) :: (ms_lt G lo).filter (fun q => !(q.1 == i) && !(q.1 + 1 == i && q.2.category == 2)) = ms_lt G (mm_st lo i v) := by
  unfold ms_lt mm_st
  rw [List.filter_map, List.map_cons]
  congr 2
  apply List.filter_congr
  intro q _
  simp only [Function.comp, ms_vt_cat]
theorem ms_st2_eq (G : ms_G) (lo : mm_L) (i : Nat) (v : Value) : (i, ms_vt G v) :: (ms_lt G lo).filter (fun q => !(q.1 == i) && (!(q.1 == i + 1) && !(q.1 + 1 == i && q.2.category == 2))) = ms_lt G (mm_st2 lo i v) := by
  unfold ms_lt mm_st2
  rw [List.filter_map, List.map_cons]
  congr 2
  apply List.filter_congr
  intro q _
  simp only [Function.comp, ms_vt_cat]
theorem ms_args (G : ms_G) : ∀ (As : List Value) (i : Nat), lv_args i (As.map (ms_vt G)) = ms_lt G (lv_args i As)
  | [], _ => rfl
  | v :: vs, i => by
    show (i, ms_vt G v) :: lv_args (if (ms_vt G v).category = 2 then i + 2 else i + 1) (vs.map (ms_vt G)) = (i, ms_vt G v) :: ms_lt G (lv_args (if v.category = 2 then i + 2 else i + 1) vs)
    rw [ms_vt_cat, ms_args G vs]
theorem ms_sum (G : ms_G) (st : List Value) : ((st.map (ms_vt G)).map fun v => v.category).sum = (st.map fun v => v.category).sum := by
  rw [List.map_map]
  congr 1
  apply List.map_congr_left
  intro v _
  exact ms_vt_cat G v
/-- element types of array kinds -/
def ms_ty (κ : Nat) : FieldType := match κ with
  | 20 => .int
  | 21 => .byte
  | 22 => .boolean
  | 23 => .object "SitterCircle$Family"
  | 24 => .object "SitterCircle$Row"
  | _ => .array .int
def ms_tys (G : ms_G) : List (ClassId × FieldType) := [(g_cA G 20, .int), (g_cA G 21, .byte), (g_cA G 22, .boolean), (g_cA G 23, .object "SitterCircle$Family"), (g_cA G 24, .object "SitterCircle$Row"), (g_cA G 25, .array .int)]
def ms_A (G : ms_G) : Nat → Prop := fun q => g_b G ≤ q
/-- the real heap holds the small one -/
def ms_P (G : ms_G) (h : mm_H) (H : Heap) : Prop :=
  H.size = g_b G + (h_n h - 16) ∧ 16 ≤ h_n h ∧ (∀ a, h_n h ≤ a → h_kd h a = 0) ∧
  (∀ a, a < 16 → h_kd h a = g_sk G a ∧ h_al h a = g_sl G a ∧ h_ai h a = g_sf G a) ∧
  (∀ a ci q, 16 ≤ a → h_kd h a = ci + 1 → vwCl[ci]? = some q → t_OB (ms_tr G a) (g_dC G ci) q.2.2 (g_dI G ci) H (fun k => ms_vt G (mm_fv h ci k a))) ∧
  (∀ a, 16 ≤ a → 20 ≤ h_kd h a → h_kd h a ≤ 22 → H[ms_tr G a]? = some (arrV (g_cA G (h_kd h a)) (h_al h a) (fun j => .int (h_ai h a j)))) ∧
  (∀ a, 16 ≤ a → 23 ≤ h_kd h a → h_kd h a ≤ 25 → H[ms_tr G a]? = some (arrV (g_cA G (h_kd h a)) (h_al h a) (fun j => ms_vt G (va_rf (h_ar h a j)))))
def ms_nw (w : Cond) : Bool := match w with
  | .fieldLinkNest .. => true
  | .methodLinkNest .. => true
  | _ => false
def ms_AA (U : State) : Prop := (Cond.arrayOver (.array .int)).before #[] U = true
theorem ms_AA.moved {u U : State} (hvm : u.vm.Alike U.vm) (h : ms_AA u) : ms_AA U := by
  obtain ⟨comp, c, k, h1, h2, h3, h4, h5⟩ := arrayOverA_spec h
  obtain ⟨k', hk', he⟩ := hvm.2.2 _ _ h3
  have hi : (U.vm.classes.findIdx? fun (x : Class) => match x.kind with | .array component _ => component == comp | _ => false) = some c := by
    have e1 := va_idx_bare U.vm comp
    have e2 := va_idx_bare u.vm comp
    have e3 : U.vm.bare = u.vm.bare := by first | exact hvm.bare_eq | exact hvm.bare_eq.symm
    rw [e3] at e1
    exact (e1.symm.trans e2).trans h2
  have hkind : k'.kind = .array comp (.array .int) := by rw [he]; exact h4
  have f1 : U.vm.findClass (FieldType.array .int).toString = some comp := by rw [hvm.findClass]; exact h1
  have f2 : U.vm.findClass ("[" ++ (FieldType.array .int).toString) = some c := by rw [hvm.findClass]; exact h5
  unfold ms_AA Cond.before Cond.holds
  simp only [Cond.value]
  rw [f1, Option.bind_some]
  refine (congrArg (fun o : Option Nat => (o.bind (fun c => (U.vm.classes[c]?).map fun (k : Class) => match k.kind with | .array _ ty => decide (ty = FieldType.array .int) && decide (U.vm.findClass ("[" ++ (FieldType.array .int).toString) = some c) | _ => false) == some true)) hi).trans ?_
  simp [hk', hkind, f2]
/-- the texts: places of the constants, their bytes -/
def ms_tb : List (List Int32) := [[105, 115, 115, 117, 101], [100, 111, 117, 98, 108, 101], [101, 120, 112, 105, 114, 101], [108, 97, 116, 101], [100, 101, 98, 116]]
def ms_tl : List (Nat × String) := [(93, "issue"), (95, "double"), (97, "expire"), (99, "late"), (101, "debt")]
def ms_T (G : ms_G) (U : State) : Prop := (∀ i q, ms_tl[i]? = some q → vk_R "SitterCircle$Reader" q.1 q.2 (g_sp G (4 + i)) U) ∧ (∃ adV, vk_S 5 [5, 6, 6, 4, 4] ms_tb (fun i => g_sp G (4 + i)) adV (ms_A G) U U.heap) ∧ va_Z "java/lang/String" "COMPACT_STRINGS" "Z" (.int 1) (ms_A G) U U.heap ∧ va_Zq "jdk/internal/util/Preconditions" "SIOOBE_FORMATTER" "Ljava/util/function/BiFunction;" (ms_A G) U U.heap
/-- what holds of the tables and of what was there before -/
def ms_F (G : ms_G) (U : State) : Prop :=
  va_K (g_dC G, g_dI G) vwCl (ms_tys G) U ∧ (∀ w ∈ lw_tbl, ms_nw w = true → va_Nw w U) ∧ va_AO "SitterCircle$Family" U ∧ va_AO "SitterCircle$Row" U ∧ ms_AA U ∧
  va_Z "SitterCircle$Reader" "LEAST" "[I" (.ref (g_sp G 1)) (ms_A G) U U.heap ∧ va_Z "SitterCircle$Reader" "MOST" "[I" (.ref (g_sp G 2)) (ms_A G) U U.heap ∧ va_Z "SitterCircle$Lawbook" "WITHOUT" "[I" (.ref (g_sp G 3)) (ms_A G) U U.heap ∧
  ms_T G U ∧ (∀ a, a < 16 → g_sp G a < g_b G ∧ (g_sk G a = 0 ∨ g_sk G a = 20 ∨ (g_sk G a = 30 ∧ 4 ≤ a ∧ a ≤ 8))) ∧ (∀ a, a < 16 → g_sk G a = 20 → va_T .int (g_sp G a) (g_sl G a) (fun j => .int (g_sf G a j)) (ms_A G) U U.heap) ∧ g_b G ≤ U.heap.size
theorem ms_F.to {G : ms_G} {s U : State} (h : ms_F G s) (hW : s.WarmedH U.vm) (hz : s.heap.size ≤ U.heap.size) (hq : ∀ q : Nat, q < s.heap.size → ¬ ms_A G q → U.heap[q]? = s.heap[q]?) : ms_F G U := by
  obtain ⟨h1, h2, h3, h4, h5, h6, h7, h8, ⟨t1, ⟨adV, t2⟩, t3, t4⟩, h10, h11, h12⟩ := h
  have ha := hW.alike
  refine ⟨va_K.moved ha h1, fun w hw hn => ?_, va_AO.moved ha h3, va_AO.moved ha h4, ms_AA.moved ha h5, (va_Z.moved ha h6).kept hq, (va_Z.moved ha h7).kept hq, (va_Z.moved ha h8).kept hq, ⟨fun i q hi => vk_R.warm hW (t1 i q hi), ⟨adV, (vk_S.moved ha t2).kept hq⟩, (va_Z.moved ha t3).kept hq, (va_Zq.moved ha t4).kept hq⟩, h10, fun a ha1 hk => (va_T.moved ha (h11 a ha1 hk)).kept hq, Nat.le_trans h12 hz⟩
  have h0 := h2 w hw hn
  cases w
  case fieldLinkNest a i b n d h => exact va_Nw.warmF hW h0
  case methodLinkNest a i x h => exact va_Nw.warmM hW h0
  all_goals exact absurd hn Bool.false_ne_true
/-- what a method's walk stands on -/
def ms_C (G : ms_G) (p : Program) (s : State) (m : MethodId) (args : Array Value) (c : Code) (cc : ByteArray) (nL : Nat) (own : String) : Prop :=
  p.tables.exec = Jvm.exec ∧ c.code = cc ∧ c.maxLocals = nL ∧ s.vm.findClass own = some m.cls ∧ (∀ w ∈ lw_tbl, goodWord w = true → w.before args s = true) ∧ ms_F G s
/-- the check of an entry -/
def ms_ln (i : ClassFile.Instr) (len : Nat) : Bool := match i with
  | .bipush _ => len == 2
  | .sipush _ => len == 3
  | .ldc2_w _ => len == 3
  | .ldc _ => len == 2
  | .getstatic _ => len == 3
  | .iload _ => len == 2
  | .lload _ => len == 2
  | .aload _ => len == 2
  | .istore _ => len == 2
  | .lstore _ => len == 2
  | .astore _ => len == 2
  | .iinc _ _ => len == 3
  | .goto _ => len == 3
  | .ifCond _ _ => len == 3
  | .if_icmp _ _ => len == 3
  | .ifnull _ => len == 3
  | .ifnonnull _ => len == 3
  | .tableswitch _ _ _ _ => true
  | .getfield _ => len == 3
  | .putfield _ => len == 3
  | .new _ => len == 3
  | .newarray _ => len == 2
  | .anewarray _ => len == 3
  | .multianewarray _ _ => len == 4
  | .invokevirtual _ => len == 3
  | .invokestatic _ => len == 3
  | .invokespecial _ => len == 3
  | _ => len == 1
def ms_gw (w : Cond) : Bool := decide (w ∈ lw_tbl) && goodWord w
def ms_hw (w : Cond) : Bool := decide (w ∈ lw_tbl) && ms_nw w
def ms_okF (own : String) (i ci k : Nat) : Bool := match vwCl[ci]? with
  | some q => decide (k < q.2.2) && (ms_gw (.fieldLink own i (q.2.1 k).1 (q.2.1 k).2.1 (q.2.1 k).2.2.1) || ms_hw (.fieldLinkNest own i (q.2.1 k).1 (q.2.1 k).2.1 (q.2.1 k).2.2.1 "SitterCircle"))
  | none => false
def ms_okP (own : String) (ini : Bool) (i ci k : Nat) : Bool := match vwCl[ci]? with
  | some q => decide (k < q.2.2) && ((ms_gw (.fieldLink own i (q.2.1 k).1 (q.2.1 k).2.1 (q.2.1 k).2.2.1) && (!(q.2.1 k).2.2.2 || (ini && decide ((q.2.1 k).1 = own)))) || (ms_hw (.fieldLinkNest own i (q.2.1 k).1 (q.2.1 k).2.1 (q.2.1 k).2.2.1 "SitterCircle") && !(q.2.1 k).2.2.2))
  | none => false
/-- methods: name, bytes, locals, answer -/
abbrev mm_I : Type := MethodName × ByteArray × Nat × Option FieldType
def mm_is : List mm_I := [(yX0_init, cX0_init, 1, none), (yX0_doesBar, cX0_doesBar, 2, (some .boolean)), (yX0_setBar, cX0_setBar, 3, none), (yX0_wouldOwe, cX0_wouldOwe, 2, (some .int)), (yX0_settle, cX0_settle, 2, (some .int)), (yX1_init, cX1_init, 1, none), (yX1_isFull, cX1_isFull, 1, (some .boolean)), (yX1_add, cX1_add, 4, (some .int)), (yX1_latestDay, cX1_latestDay, 1, (some .int)), (yX1_textOf, cX1_textOf, 4, (some .int)), (yX1_lawOf, cX1_lawOf, 5, (some .int)), (yX2_init, cX2_init, 1, none), (yX2_begin, cX2_begin, 3, none), (yX2_addFit, cX2_addFit, 3, none), (yX2_offerOf, cX2_offerOf, 2, (some .int)), (yX2_mostPairsOfAll, cX2_mostPairsOfAll, 1, (some .int)), (yX2_allOffers, cX2_allOffers, 1, (some .int)), (yX2_mostPairsFrom, cX2_mostPairsFrom, 5, (some .int)), (yX2_takeOne, cX2_takeOne, 6, (some .boolean)), (yX2_match, cX2_match, 4, none), (yX2_leastOffer, cX2_leastOffer, 7, (some .int)), (yX2_reach, cX2_reach, 2, none), (yX2_reachFurther, cX2_reachFurther, 2, none), (yX2_asksNotReached, cX2_asksNotReached, 1, (some .int)), (yX3_init, cX3_init, 1, none), (yX3_oldestDay, cX3_oldestDay, 1, (some .int)), (yX3_notesOfOldestDay, cX3_notesOfOldestDay, 1, (some .int)), (yX3_put, cX3_put, 4, none), (yX3_insertHeap, cX3_insertHeap, 5, none), (yX3_moveOldest, cX3_moveOldest, 8, (some .int)), (yX3_dropNewest, cX3_dropNewest, 5, none), (yX3_dropBefore, cX3_dropBefore, 5, (some .int)), (yX3_removeOldestHeaps, cX3_removeOldestHeaps, 3, none), (yX4_init, cX4_init, 1, none), (yX4_read, cX4_read, 4, none), (yX4_readLaw, cX4_readLaw, 3, none), (yX4_canStand, cX4_canStand, 2, (some .boolean)), (yX4_fail, cX4_fail, 2, none), (yX4_scan, cX4_scan, 2, none), (yX4_skipBlanks, cX4_skipBlanks, 2, none), (yX4_scanName, cX4_scanName, 3, none), (yX4_nameOf, cX4_nameOf, 1, (some (.object "java/lang/String"))), (yX4_scanNumber, cX4_scanNumber, 2, none), (yX5_init, cX5_init, 3, none), (yX5_has, cX5_has, 2, (some .boolean)), (yX5_at, cX5_at, 2, (some .int)), (yX5_write, cX5_write, 3, none), (yX6_init, cX6_init, 1, none), (yX6_append, cX6_append, 4, (some .boolean)), (yX6_at, cX6_at, 2, (some .int)), (yX6_isLetter, cX6_isLetter, 3, (some .boolean)), (yX6_isFigure, cX6_isFigure, 3, (some .boolean)), (yX6_spells, cX6_spells, 5, (some .boolean)), (yX7_init, cX7_init, 1, none), (yX7_has, cX7_has, 2, (some .boolean)), (yX7_familyOf, cX7_familyOf, 2, (some .int)), (yX7_fromOf, cX7_fromOf, 2, (some .int)), (yX7_toOf, cX7_toOf, 2, (some .int)), (yX7_add, cX7_add, 4, (some .boolean)), (yX7_remove, cX7_remove, 3, none), (yX7_areOf, cX7_areOf, 3, (some .boolean)), (yX8_init, cX8_init, 1, none), (yX8_feed, cX8_feed, 3, (some .int)), (yX8_end, cX8_end, 3, (some .int)), (yX8_vote, cX8_vote, 3, (some .int)), (yX8_fault, cX8_fault, 1, (some .int)), (yX8_unwind, cX8_unwind, 1, (some .int)), (yX8_rule, cX8_rule, 3, (some .int)), (yX8_go, cX8_go, 3, (some .int)), (yX8_join, cX8_join, 3, (some .int)), (yX8_leave, cX8_leave, 4, (some .int)), (yX8_bar, cX8_bar, 6, (some .int)), (yX8_told, cX8_told, 4, (some .int)), (yX8_ask, cX8_ask, 4, (some .int)), (yX8_offer, cX8_offer, 4, (some .int)), (yX8_price, cX8_price, 2, (some .int)), (yX8_fits, cX8_fits, 3, (some .int)), (yX8_met, cX8_met, 1, (some .int)), (yX8_sitter, cX8_sitter, 2, (some .int)), (yX8_why, cX8_why, 2, (some .int)), (yX8_would, cX8_would, 2, (some .int)), (yX8_broken, cX8_broken, 4, (some .int)), (yX8_evening, cX8_evening, 3, (some .int)), (yX8_sheet, cX8_sheet, 4, (some .int)), (yX8_lay, cX8_lay, 5, (some .int)), (yX8_offers, cX8_offers, 9, (some .int)), (yX8_count, cX8_count, 2, (some .int)), (yX8_familyAt, cX8_familyAt, 2, (some (.object "SitterCircle$Family"))), (yX8_expireNotes, cX8_expireNotes, 6, none), (yX8_familiesHere, cX8_familiesHere, 6, (some .int)), (yX8_sumTold, cX8_sumTold, 4, (some .int)), (yX8_addVisit, cX8_addVisit, 5, (some .int)), (yX8_priceOf, cX8_priceOf, 6, (some .int)), (yX8_areFitting, cX8_areFitting, 9, (some .boolean)), (yX8_lookForFits, cX8_lookForFits, 4, none), (yX8_mostPairs, cX8_mostPairs, 2, (some .int)), (yX8_findTheMatch, cX8_findTheMatch, 1, none), (yX8_hold, cX8_hold, 6, (some .boolean)), (yX8_pay, cX8_pay, 5, none), (yX8_isSheet, cX8_isSheet, 1, (some .boolean)), (yX8_isLane, cX8_isLane, 1, (some .boolean)), (yX8_offerFrom, cX8_offerFrom, 4, (some .int)), (yX9_init, cX9_init, 2, none), (yX9_in, cX9_in, 6, (some .boolean)), (yX9_feed, cX9_feed, 4, (some .int)), (yX9_end, cX9_end, 3, (some .int)), (yX9_fails, cX9_fails, 3, none), (yX9_look, cX9_look, 2, (some .int)), (yX9_isName, cX9_isName, 8, (some .boolean)), (yX9_nameNow, cX9_nameNow, 1, (some .int)), (yX9_next, cX9_next, 2, none), (yX9_readLaw, cX9_readLaw, 3, none), (yX9_vote, cX9_vote, 4, (some .int)), (yX9_fault, cX9_fault, 1, (some .int)), (yX9_unwind, cX9_unwind, 1, (some .int)), (yX9_textOf, cX9_textOf, 4, (some .int)), (yX9_law, cX9_law, 5, (some .int)), (yX9_rule, cX9_rule, 3, (some .int)), (yX9_isFamily, cX9_isFamily, 2, (some .boolean)), (yX9_expires, cX9_expires, 4, none), (yX9_go, cX9_go, 3, (some .int)), (yX9_has, cX9_has, 4, (some .int)), (yX9_join, cX9_join, 3, (some .int)), (yX9_leave, cX9_leave, 5, (some .int)), (yX9_bar, cX9_bar, 5, (some .int)), (yX9_oldest, cX9_oldest, 3, (some .int)), (yX9_told, cX9_told, 4, (some .int)), (yX9_may, cX9_may, 5, (some .boolean)), (yX9_pays, cX9_pays, 8, none), (yX9_isSpan, cX9_isSpan, 4, (some .boolean)), (yX9_ask, cX9_ask, 4, (some .int)), (yX9_offer, cX9_offer, 4, (some .int)), (yX9_priceOf, cX9_priceOf, 5, (some .int)), (yX9_price, cX9_price, 2, (some .int)), (yX9_isFit, cX9_isFit, 6, (some .boolean)), (yX9_fits, cX9_fits, 3, (some .int)), (yX9_findFits, cX9_findFits, 4, none), (yX9_grows, cX9_grows, 7, (some .boolean)), (yX9_change, cX9_change, 5, none), (yX9_most, cX9_most, 5, (some .int)), (yX9_matches, cX9_matches, 6, (some .int)), (yX9_met, cX9_met, 1, (some .int)), (yX9_sitter, cX9_sitter, 2, (some .int)), (yX9_why, cX9_why, 7, (some .int)), (yX9_would, cX9_would, 2, (some .int)), (yX9_broken, cX9_broken, 4, (some .int)), (yX9_evening, cX9_evening, 6, (some .int)), (yX9_isSheet, cX9_isSheet, 2, (some .boolean)), (yX9_sheet, cX9_sheet, 5, (some .int)), (yX9_lay, cX9_lay, 4, (some .int)), (yX9_offers, cX9_offers, 12, (some .int)), (yX9_count, cX9_count, 6, (some .int)), (yJ7_fill_53178, cJ7_fill_53178, 4, none), (yL_law, cL_law, 4, ret), (yJ7_copyOf_59c91, cJ7_copyOf_59c91, 3, (some (.array .int))), (yJ0_length_8abf5, cJ0_length_8abf5, 1, (some .int)), (yJ0_charAt_5068e, cJ0_charAt_5068e, 2, (some .char)), (yJ9_max_7cf53, cJ9_max_7cf53, 2, (some .int)), (yJ9_min_7cf53, cJ9_min_7cf53, 2, (some .int))]
