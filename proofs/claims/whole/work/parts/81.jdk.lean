/-! THE JDK'S OWN: String.length, String.charAt, Arrays.copyOf -/
def mQ (G : ms_G) (h : mm_H) (r : Option Value) : Array Value → State → Outcome → State → Prop := fun _ st oc t => oc = .returned r ∧ ms_P G h t.heap ∧ va_F (ms_A G) st t
def mj (G : ms_G) (l : Launch) (q : mm_I) (d : Nat) (vs : List Value) (B : State → Prop) (h : mm_H) (r : Option Value) : Prop := Met l q.1 (ms_ws q) (ms_rm d 0 0) (va_Pc vs B) (mQ G h r) 0 0 (ms_A G)
theorem mj_of {G : ms_G} {l : Launch} {q : mm_I} {d : Nat} {vs : List Value} {B : State → Prop} {h : mm_H} {r : Option Value} (hM : ms_okM q = true) (hw : (vs.map fun v => v.category).sum ≤ q.2.2.1) (hB : ∀ U, B U → ms_Pc G h U)
    (wk : ∀ (p : Program) (e : Env) (s : State) (m : MethodId) (below : List Frame) (meth : Method) (c : Code) (ls : Array Slot), ms_C G p s m vs.toArray c q.2.1 q.2.2.1 q.1.cls → meth.sig.returnType = q.2.2.2 → meth.locks = false → ms_P G h s.heap → B s → lv_has ls q.2.2.1 (lv_args 0 vs) → W p l e (ms_rm d 0 0) s m vs.toArray below meth c s.heap [] 0 0 (MQ below (mQ G h r) vs.toArray s 0 0 (ms_A G)) (F0 m 0 ls [])) : mj G l q d vs B h r := by
  obtain ⟨k1, k2, k3, k4, k5, k6⟩ := ms_okM_of hM
  refine Met.ofW (cc := q.2.1) (maxL := q.2.2.1) (ret := q.2.2.2) k3 rfl ?_
  intro p e s m args below meth c s₁ Bd hml hv
  obtain ⟨rfl, hv⟩ := hv
  have hts := atoms_spec (ws := ms_ws q) Bd.pre
  have hown : s.vm.findClass q.1.cls = some m.cls := findClass_of_methodNamed Bd.named
  have hl := lv_entry vs (n := q.2.2.1) (by rw [ms_wid]; exact hw)
  rw [lg_entry_eq]
  exact wk p e s m below meth c _ ⟨Bd.exec, Bd.bytes, hml, hown, fun w h1 h2 => hts w (List.mem_cons_of_mem _ (List.mem_filter.mpr ⟨h1, h2⟩)), (hB s hv).1⟩ Bd.returns Bd.notSynchronized (hB s hv).2 hv hl
section JDK
variable {G : ms_G} {p : Program} {l : Launch} {e : Env} {R : Room} {s : State} {m : MethodId} {args : Array Value} {below : List Frame} {meth : Method} {c : Code} {H : Heap} {locs : List Loc} {cells slots : Nat} {Q : State → Prop} {cc : ByteArray} {nL pc : Nat} {own : String} {ls : Array Slot} {h : mm_H}
theorem mj_run {st0 rest : List Value} {r : Option Value} {a : Array Value} (hr : va_Run p l e R s m args below meth c H locs cells slots 0 0 (F0 m pc ls st0) rest (mQ G h r a) (ms_A G)) (hS : va_S (ms_A G) s.heap H locs)
    (kk : ∀ (H1 : Heap) (locs1 : List Loc), ms_P G h H1 → va_S (ms_A G) s.heap H1 locs1 → W p l e R s m args below meth c H1 locs1 cells slots Q (F0 m (pc + 3) ls (r.toList ++ rest))) : W p l e R s m args below meth c H locs cells slots Q (F0 m pc ls st0) := by
  intro T hT X
  obtain ⟨v, st₀, t, T', L, h0, X', hL, e1, e2, ⟨hv, hp, hz, hk⟩, st⟩ := hr T hT X
  cases hv
  rw [h0] at hz hk
  obtain ⟨t2, a1, b1⟩ := kk T'.heap (locs ++ L) (by rw [e1]; exact hp)
    ⟨Nat.le_trans hS.1 (by rw [e1]; exact hz), fun q h1 h2 => by rw [e1, hk q (Nat.lt_of_lt_of_le h1 hS.1) h2]; exact hS.2.1 q h1 h2, fun q hq => by
      rcases List.mem_append.mp hq with h | h
      · exact hS.2.2 q h
      · exact hL q h⟩ T' rfl X'
  exact ⟨t2, st t2 a1, b1⟩
theorem mj_S {q : mm_I} {d idx n : Nat} {vs rest : List Value} {B : State → Prop} {r : Option Value} (C : ms_C G p s m args c cc nL own) (hm : mj G l q d vs B h r) (hM : ms_okM q = true) (hlk : ms_gw (.methodLink own idx q.1) = true) (hst : ms_gw (.static q.1) = true) (hpar : (parseMethodDescriptor q.1.desc).map (fun d => d.parameters.length) = some n) (hlen : vs.length = n) (hls : ls.size = nL) (hsum : (rest.map fun v => v.category).sum ≤ 8) (hd : decode cc pc = .ok (.invokestatic idx, 3)) (hbl : FrameBlind (va_Pc vs B)) (hpre : ∀ U : State, U.heap = H → s.WarmedH U.vm → B U) (hS : va_S (ms_A G) s.heap H locs) (hRf : d + 1 ≤ R.frames) (hRl : 40 * (d + 1) ≤ R.locals) (hc : cells ≤ R.cells ∧ slots ≤ R.slots)
    (kk : ∀ (H1 : Heap) (locs1 : List Loc), ms_P G h H1 → va_S (ms_A G) s.heap H1 locs1 → W p l e R s m args below meth c H1 locs1 cells slots Q (F0 m (pc + 3) ls (r.toList ++ rest))) : W p l e R s m args below meth c H locs cells slots Q (F0 m pc ls (vs.reverse ++ rest)) := by
  obtain ⟨hx, hb, hml, hown, hts, hF⟩ := id C
  obtain ⟨k1, k2, k3, k4, k5, k6⟩ := ms_okM_of hM
  have hts' := ms_hts C
  exact mj_run (va_runS ⟨hx, hb, hml, hown, hts'⟩ hm ⟨callB_of n hts' (ms_good hM) rfl rfl rfl (ms_gd C k2) (ms_gd C hlk) ⟨k4, k5, hpar⟩ ⟨hRf, by show 8 + (q.2.2.1 + 11) + 40 * d ≤ R.locals; omega⟩, ms_gd C hst⟩ ⟨hbl, fun U h1 h2 => ⟨rfl, hpre U h1 h2⟩⟩ rfl hlen hls rfl (lv_room hsum) hd hc) hS kk
theorem mj_V {q : mm_I} {d idx n b : Nat} {vs rest : List Value} {B : State → Prop} {r : Option Value} (C : ms_C G p s m args c cc nL own) (hm : mj G l q d (.ref b :: vs) B h r) (hM : ms_okM q = true) (hlk : ms_gw (.methodLink own idx q.1) = true) (hst : ms_gw (.instanceMethod q.1) = true) (hse : ms_gw (.selects q.1.cls q.1 q.1) = true) (hpar : (parseMethodDescriptor q.1.desc).map (fun d => d.parameters.length) = some n) (hlen : vs.length = n) (hls : ls.size = nL) (hsum : (rest.map fun v => v.category).sum ≤ 8) (hd : decode cc pc = .ok (.invokevirtual idx, 3)) (hbl : FrameBlind (va_Pc (.ref b :: vs) B)) (hrec : ∃ cell : Cell, H[b]? = some cell ∧ cell.vm.isStatics = false ∧ s.vm.findClass q.1.cls = some cell.cls) (hpre : ∀ U : State, U.heap = H → s.WarmedH U.vm → B U) (hS : va_S (ms_A G) s.heap H locs) (hRf : d + 1 ≤ R.frames) (hRl : 40 * (d + 1) ≤ R.locals) (hc : cells ≤ R.cells ∧ slots ≤ R.slots)
    (kk : ∀ (H1 : Heap) (locs1 : List Loc), ms_P G h H1 → va_S (ms_A G) s.heap H1 locs1 → W p l e R s m args below meth c H1 locs1 cells slots Q (F0 m (pc + 3) ls (r.toList ++ rest))) : W p l e R s m args below meth c H locs cells slots Q (F0 m pc ls (vs.reverse ++ .ref b :: rest)) := by
  obtain ⟨hx, hb, hml, hown, hts, hF⟩ := id C
  obtain ⟨k1, k2, k3, k4, k5, k6⟩ := ms_okM_of hM
  have hts' := ms_hts C
  exact mj_run (va_runV ⟨hx, hb, hml, hown, hts'⟩ hm ⟨callB_of n hts' (ms_good hM) rfl rfl rfl (ms_gd C k2) (ms_gd C hlk) ⟨k4, k5, hpar⟩ ⟨hRf, by show 8 + (q.2.2.1 + 11) + 40 * d ≤ R.locals; omega⟩, ms_gd C hst, ms_gd C hse⟩ ⟨hbl, hrec, fun U h1 h2 => ⟨rfl, hpre U h1 h2⟩⟩ rfl hlen hls rfl (lv_room hsum) hd hc) hS kk
theorem mj_env (C : ms_C G p s m args c cc nL own) (hP : ms_P G h H) (hS : va_S (ms_A G) s.heap H locs) : ∀ U : State, U.heap = H → s.WarmedH U.vm → ms_Pc G h U := fun U hU hW => ⟨ms_F.to C.2.2.2.2.2 hW (by rw [hU]; exact hS.1) (fun q h1 h2 => by rw [hU]; exact hS.2.1 q h1 h2), by rw [hU]; exact hP⟩
end JDK
abbrev qCo : mm_I := (⟨"java/lang/String", "coder", "()B"⟩, prog_14_method_152_code, 1, some .byte)
abbrev qLa : mm_I := (⟨"java/lang/String", "isLatin1", "()Z"⟩, prog_14_method_154_code, 1, some .boolean)
abbrev qCk : mm_I := (⟨"java/lang/String", "checkIndex", "(II)V"⟩, prog_14_method_155_code, 2, none)
abbrev qLc : mm_I := (⟨"java/lang/StringLatin1", "charAt", "([BI)C"⟩, prog_15_method_2_code, 2, some .char)
abbrev qPr : mm_I := (⟨"jdk/internal/util/Preconditions", "checkIndex", "(IILjava/util/function/BiFunction;)I"⟩, prog_19_method_11_code, 3, some .int)
theorem ok_Co : ms_okM qCo = true := by decide +kernel
theorem ok_La : ms_okM qLa = true := by decide +kernel
theorem ok_Ck : ms_okM qCk = true := by decide +kernel
theorem ok_Lc : ms_okM qLc = true := by decide +kernel
theorem ok_Pr : ms_okM qPr = true := by decide +kernel
theorem mj_Co {G : ms_G} {l : Launch} {d i : Nat} {h : mm_H} (hi : i < 5) : mj G l qCo d [.ref (g_sp G (4 + i))] (ms_Pc G h) h (some (.int 0)) := by
  refine mj_of ok_Co (Nat.le_of_ble_eq_true rfl) (fun _ z => z) (fun p e s m below meth c ls C hr hlocks hP hB hl => ?_)
  obtain ⟨hx, hb, hml, hown, hts, hF⟩ := id C
  obtain ⟨t1, ⟨adV, t2⟩, t3, t4⟩ := hF.2.2.2.2.2.2.2.2.1
  have hS : va_S (ms_A G) s.heap s.heap [] := va_S.rf
  refine va_gets (index := 38) hx hb t3 hS hown (ms_gd C (w := .fieldLink "java/lang/String" 38 "java/lang/String" "COMPACT_STRINGS" "Z") (by decide +kernel)) (fun _ q => q) (by decide +kernel) ?_
  refine lv_if_eq (tgt := 13) (off := 10) hx hb (by decide +kernel) (by decide) (fun z => absurd z (by decide)) (fun _ => ?_)
  refine lv_aload_n (k := 0) (i := 0) hx hb (by decide +kernel) rfl (lv_at hl 0 rfl) ?_
  refine vk_getf (index := 15) hx hb (t2.1 i hi).2.1 hS hown (ms_gd C (w := .fieldLink "java/lang/String" 15 "java/lang/String" "coder" "B") (by decide +kernel)) (fun _ q => q) (by decide +kernel) ?_
  refine lv_goto (tgt := 14) (off := 4) hx hb (by decide +kernel) (by decide) ?_
  exact W.zret hx hb hr rfl (fun t ht _ => ⟨rfl, by rw [ht]; exact hP, hS.F ht⟩) hS.2.2 (by decide +kernel)
theorem mj_La {G : ms_G} {l : Launch} {d i : Nat} {h : mm_H} (hi : i < 5) : mj G l qLa d [.ref (g_sp G (4 + i))] (ms_Pc G h) h (some (.int 1)) := by
  refine mj_of ok_La (Nat.le_of_ble_eq_true rfl) (fun _ z => z) (fun p e s m below meth c ls C hr hlocks hP hB hl => ?_)
  obtain ⟨hx, hb, hml, hown, hts, hF⟩ := id C
  obtain ⟨t1, ⟨adV, t2⟩, t3, t4⟩ := hF.2.2.2.2.2.2.2.2.1
  have hS : va_S (ms_A G) s.heap s.heap [] := va_S.rf
  refine va_gets (index := 38) hx hb t3 hS hown (ms_gd C (w := .fieldLink "java/lang/String" 38 "java/lang/String" "COMPACT_STRINGS" "Z") (by decide +kernel)) (fun _ q => q) (by decide +kernel) ?_
  refine lv_if_eq (tgt := 17) (off := 14) hx hb (by decide +kernel) (by decide) (fun z => absurd z (by decide)) (fun _ => ?_)
  refine lv_aload_n (k := 0) (i := 0) hx hb (by decide +kernel) rfl (lv_at hl 0 rfl) ?_
  refine vk_getf (index := 15) hx hb (t2.1 i hi).2.1 hS hown (ms_gd C (w := .fieldLink "java/lang/String" 15 "java/lang/String" "coder" "B") (by decide +kernel)) (fun _ q => q) (by decide +kernel) ?_
  refine lv_if_ne (tgt := 17) (off := 7) hx hb (by decide +kernel) (by decide) (fun z => absurd rfl z) (fun _ => ?_)
  refine lv_iconst (n := 1) (v := 1) hx hb (by decide +kernel) rfl ?_
  refine lv_goto (tgt := 18) (off := 4) hx hb (by decide +kernel) (by decide) ?_
  exact W.zret hx hb hr rfl (fun t ht _ => ⟨rfl, by rw [ht]; exact hP, hS.F ht⟩) hS.2.2 (by decide +kernel)
theorem mj_Pr {G : ms_G} {l : Launch} {d : Nat} {h : mm_H} {x n : Int32} {v : Value} (hv : v.category = 1) (h0 : ¬ x < 0) (h1 : x < n) : mj G l qPr d [.int x, .int n, v] (ms_Pc G h) h (some (.int x)) := by
  refine mj_of ok_Pr (by show 1 + (1 + (v.category + 0)) ≤ 3; omega) (fun _ z => z) (fun p e s m below meth c ls C hr hlocks hP hB hl => ?_)
  obtain ⟨hx, hb, hml, hown, hts, hF⟩ := id C
  have hS : va_S (ms_A G) s.heap s.heap [] := va_S.rf
  refine lv_iload_n (k := 0) (i := 0) hx hb (by decide +kernel) rfl (lv_at hl 0 rfl) ?_
  refine lv_if_lt (tgt := 9) (off := 8) hx hb (by decide +kernel) (by decide) (fun z => absurd z h0) (fun _ => ?_)
  refine lv_iload_n (k := 0) (i := 0) hx hb (by decide +kernel) rfl (lv_at hl 0 rfl) ?_
  refine lv_iload_n (k := 1) (i := 1) hx hb (by decide +kernel) rfl (lv_at hl 1 rfl) ?_
  refine lv_icmp_lt (tgt := 16) (off := 10) hx hb (by decide +kernel) (by decide) (fun _ => ?_) (fun z => absurd h1 z)
  refine lv_iload_n (k := 0) (i := 0) hx hb (by decide +kernel) rfl (lv_at hl 0 rfl) ?_
  exact W.iret hx hb hr (fun t ht _ => ⟨rfl, by rw [ht]; exact hP, hS.F ht⟩) hS.2.2 (by decide +kernel)
theorem mj_Ck {G : ms_G} {l : Launch} {d : Nat} {h : mm_H} {x n : Int32} (h0 : ¬ x < 0) (h1 : x < n) (hd : 1 ≤ d) : mj G l qCk d [.int x, .int n] (ms_Pc G h) h none := by
  refine mj_of ok_Ck (Nat.le_of_ble_eq_true rfl) (fun _ z => z) (fun p e s m below meth c ls C hr hlocks hP hB hl => ?_)
  obtain ⟨hx, hb, hml, hown, hts, hF⟩ := id C
  obtain ⟨t1, t2, t3, t4⟩ := hF.2.2.2.2.2.2.2.2.1
  have hS : va_S (ms_A G) s.heap s.heap [] := va_S.rf
  obtain ⟨v, hZ, hv⟩ : ∃ v : Value, va_Z "jdk/internal/util/Preconditions" "SIOOBE_FORMATTER" "Ljava/util/function/BiFunction;" v (ms_A G) s s.heap ∧ v.category = 1 := by
    rcases t4 with z | ⟨t, z⟩
    · exact ⟨_, z, rfl⟩
    · exact ⟨_, z, rfl⟩
  refine lv_iload_n (k := 0) (i := 0) hx hb (by decide +kernel) rfl (lv_at hl 0 rfl) ?_
  refine lv_iload_n (k := 1) (i := 1) hx hb (by decide +kernel) rfl (lv_at hl 1 rfl) ?_
  refine va_gets (index := 1053) hx hb hZ hS hown (ms_gd C (w := .fieldLink "java/lang/String" 1053 "jdk/internal/util/Preconditions" "SIOOBE_FORMATTER" "Ljava/util/function/BiFunction;") (by decide +kernel)) (fun _ q => q) (by decide +kernel) ?_
  refine mj_S (vs := [.int x, .int n, v]) (rest := []) (idx := 1059) (d := d - 1) (n := 3) C (mj_Pr hv h0 h1) ok_Pr (by decide +kernel) (by decide +kernel) (by decide +kernel) rfl hl.1 (by decide) (by decide +kernel) ms_blind (mj_env C hP hS) hS (by show d - 1 + 1 ≤ d; omega) (by show 40 * (d - 1 + 1) ≤ 40 * d; omega) ⟨Nat.le_refl _, Nat.le_refl _⟩ (fun H1 locs1 hP1 hS1 => ?_)
  refine lv_pop (va := .int x) hx hb (by decide +kernel) rfl ?_
  exact W.vret hx hb hr (fun t ht _ => ⟨rfl, by rw [ht]; exact hP1, hS1.F ht⟩) hS1.2.2 (by decide +kernel)
def mT1 (G : ms_G) (h : mm_H) (t N : Nat) (f : Nat → Value) (U : State) : Prop := ms_Pc G h U ∧ va_T .byte t N f (ms_A G) U U.heap
theorem mT1_blind {G : ms_G} {vs : List Value} {h : mm_H} {t N : Nat} {f : Nat → Value} : FrameBlind (va_Pc vs (mT1 G h t N f)) := by
  intro a U g mk q
  obtain ⟨q1, ⟨q2, q3⟩, q4⟩ := q
  exact ⟨q1, ⟨ms_F.to q2 (State.WarmedH.refl U) (Nat.le_refl _) (fun _ _ _ => rfl), q3⟩, va_T.moved (State.WarmedH.refl U).alike q4⟩
theorem mj_Lc {G : ms_G} {l : Launch} {d : Nat} {h : mm_H} {x : Int32} {t N : Nat} {b : Nat → Int32} (hin : vp_in x N) (hN : N < 2147483648) (hd : 2 ≤ d) (hnr : narrow .char (.int (((b x.toNatClampNeg &&& 255).toUInt32 % 65536).toInt32)) = .int (((b x.toNatClampNeg &&& 255).toUInt32 % 65536).toInt32)) : mj G l qLc d [.ref t, .int x] (mT1 G h t N (fun j => .int (b j))) h (some (.int (((b x.toNatClampNeg &&& 255).toUInt32 % 65536).toInt32))) := by
  refine mj_of ok_Lc (Nat.le_of_ble_eq_true rfl) (fun _ z => z.1) (fun p e s m below meth c ls C hr hlocks hP hB hl => ?_)
  obtain ⟨hx, hb, hml, hown, hts, hF⟩ := id C
  have hS : va_S (ms_A G) s.heap s.heap [] := va_S.rf
  have hT := hB.2
  have h0 : ¬ x < 0 := fun z => hin (Or.inl z)
  have h1 : x < Int32.ofNat N := by
    obtain ⟨j, hj, rfl⟩ := nat_of h0
    have : ¬ N ≤ (nI j).toNatClampNeg := fun z => hin (Or.inr z)
    rw [nI_clamp (by omega)] at this
    exact (i_lt (by omega) (by omega)).mpr (by omega)
  refine lv_iload_n (k := 1) (i := 1) hx hb (by decide +kernel) rfl (lv_at hl 1 rfl) ?_
  refine lv_aload_n (k := 0) (i := 0) hx hb (by decide +kernel) rfl (lv_at hl 0 rfl) ?_
  refine va_tlen hx hb hT hS (v := Int32.ofNat N) rfl (by decide +kernel) ?_
  refine mj_S (vs := [.int x, .int (Int32.ofNat N)]) (rest := []) (idx := 9) (d := d - 1) (n := 2) C (mj_Ck h0 h1 (by omega)) ok_Ck (by decide +kernel) (by decide +kernel) (by decide +kernel) rfl hl.1 (by decide) (by decide +kernel) ms_blind (mj_env C hP hS) hS (by show d - 1 + 1 ≤ d; omega) (by show 40 * (d - 1 + 1) ≤ 40 * d; omega) ⟨Nat.le_refl _, Nat.le_refl _⟩ (fun H1 locs1 hP1 hS1 => ?_)
  refine lv_aload_n (k := 0) (i := 0) hx hb (by decide +kernel) rfl (lv_at hl 0 rfl) ?_
  refine lv_iload_n (k := 1) (i := 1) hx hb (by decide +kernel) rfl (lv_at hl 1 rfl) ?_
  refine va_tb hx hb hT hS1 hin (v := .int (b x.toNatClampNeg)) rfl (by decide +kernel) ?_
  refine lv_sipush (n := 255) (v := 255) hx hb (by decide +kernel) rfl ?_
  refine lv_iand hx hb (by decide +kernel) ?_
  refine lv_i2c hx hb (by decide +kernel) rfl ?_
  exact W.zret hx hb hr hnr (fun t ht _ => ⟨rfl, by rw [ht]; exact hP1, hS1.F ht⟩) hS1.2.2 (by decide +kernel)
theorem tx_f : ∀ i, i < 5 → (([5, 6, 6, 4, 4] : List Nat).getD i 0 = (mm_tx (4 + i)).length ∧ Int32.ofNat ([5, 6, 6, 4, 4].getD i 0) >>> ((0 : Int32) &&& 31) = Int32.ofNat (mm_tx (4 + i)).length ∧ (mm_tx (4 + i)).length < 7 ∧ ∀ j, j < 7 → (((((ms_tb.getD i []).getD j 0) &&& 255).toUInt32 % 65536).toInt32 = Int32.ofNat ((mm_tx (4 + i)).getD j 0) ∧ narrow .char (.int (Int32.ofNat ((mm_tx (4 + i)).getD j 0))) = .int (Int32.ofNat ((mm_tx (4 + i)).getD j 0)))) := by decide +kernel
abbrev qLn : mm_I := (yJ0_length_8abf5, cJ0_length_8abf5, 1, some .int)
abbrev qCa : mm_I := (yJ0_charAt_5068e, cJ0_charAt_5068e, 2, some .char)
theorem ok_Ln : ms_okM qLn = true := by decide +kernel
theorem ok_Ca : ms_okM qCa = true := by decide +kernel
theorem mj_Ln {G : ms_G} {l : Launch} {d i : Nat} {h : mm_H} (hi : i < 5) (hd : 1 ≤ d) : mj G l qLn d [.ref (g_sp G (4 + i))] (ms_Pc G h) h (some (.int (Int32.ofNat (mm_tx (4 + i)).length))) := by
  refine mj_of ok_Ln (Nat.le_of_ble_eq_true rfl) (fun _ z => z) (fun p e s m below meth c ls C hr hlocks hP hB hl => ?_)
  obtain ⟨hx, hb, hml, hown, hts, hF⟩ := id C
  obtain ⟨t1, ⟨adV, t2⟩, t3, t4⟩ := hF.2.2.2.2.2.2.2.2.1
  have hS : va_S (ms_A G) s.heap s.heap [] := va_S.rf
  have rc := vk_recv (i := i) t2 hi hS
  obtain ⟨f1, f2, f3, f4⟩ := tx_f i hi
  refine lv_aload_n (k := 0) (i := 0) hx hb (by decide +kernel) rfl (lv_at hl 0 rfl) ?_
  refine vk_getf (index := 9) hx hb (t2.1 i hi).2.2.1 hS hown (ms_gd C (w := .fieldLink "java/lang/String" 9 "java/lang/String" "value" "[B") (by decide +kernel)) (fun _ q => q) (by decide +kernel) ?_
  refine va_tlen hx hb (t2.1 i hi).2.2.2 hS (v := Int32.ofNat ([5, 6, 6, 4, 4].getD i 0)) rfl (by decide +kernel) ?_
  refine lv_aload_n (k := 0) (i := 0) hx hb (by decide +kernel) rfl (lv_at hl 0 rfl) ?_
  refine mj_V (vs := []) (idx := 335) (d := d - 1) (n := 0) C (mj_Co hi) ok_Co (by decide +kernel) (by decide +kernel) (by decide +kernel) (by decide +kernel) rfl hl.1 (by show 1 + 0 ≤ 8; omega) (by decide +kernel) ms_blind rc (mj_env C hP hS) hS (by show d - 1 + 1 ≤ d; omega) (by show 40 * (d - 1 + 1) ≤ 40 * d; omega) ⟨Nat.le_refl _, Nat.le_refl _⟩ (fun H1 locs1 hP1 hS1 => ?_)
  refine lv_ishr hx hb (by decide +kernel) ?_
  rw [f2]
  exact W.iret hx hb hr (fun t ht _ => ⟨rfl, by rw [ht]; exact hP1, hS1.F ht⟩) hS1.2.2 (by decide +kernel)
theorem mj_Ca {G : ms_G} {l : Launch} {d i : Nat} {h : mm_H} {x : Int32} (hi : i < 5) (hin : vp_in x (mm_tx (4 + i)).length) (hd : 3 ≤ d) : mj G l qCa d [.ref (g_sp G (4 + i)), .int x] (ms_Pc G h) h (some (.int (Int32.ofNat ((mm_tx (4 + i)).getD x.toNatClampNeg 0)))) := by
  refine mj_of ok_Ca (Nat.le_of_ble_eq_true rfl) (fun _ z => z) (fun p e s m below meth c ls C hr hlocks hP hB hl => ?_)
  obtain ⟨hx, hb, hml, hown, hts, hF⟩ := id C
  obtain ⟨t1, ⟨adV, t2⟩, t3, t4⟩ := hF.2.2.2.2.2.2.2.2.1
  have hS : va_S (ms_A G) s.heap s.heap [] := va_S.rf
  have rc := vk_recv (i := i) t2 hi hS
  obtain ⟨f1, f2, f3, f4⟩ := tx_f i hi
  have hj : x.toNatClampNeg < 7 := by
    have : ¬ (mm_tx (4 + i)).length ≤ x.toNatClampNeg := fun z => hin (Or.inr z)
    omega
  obtain ⟨f5, f6⟩ := f4 _ hj
  refine lv_aload_n (k := 0) (i := 0) hx hb (by decide +kernel) rfl (lv_at hl 0 rfl) ?_
  refine mj_V (vs := []) (rest := []) (idx := 492) (d := d - 1) (n := 0) C (mj_La hi) ok_La (by decide +kernel) (by decide +kernel) (by decide +kernel) (by decide +kernel) rfl hl.1 (by decide) (by decide +kernel) ms_blind rc (mj_env C hP hS) hS (by show d - 1 + 1 ≤ d; omega) (by show 40 * (d - 1 + 1) ≤ 40 * d; omega) ⟨Nat.le_refl _, Nat.le_refl _⟩ (fun H1 locs1 hP1 hS1 => ?_)
  refine lv_if_eq (tgt := 16) (off := 12) hx hb (by decide +kernel) (by decide) (fun z => absurd z (by decide)) (fun _ => ?_)
  refine lv_aload_n (k := 0) (i := 0) hx hb (by decide +kernel) rfl (lv_at hl 0 rfl) ?_
  refine vk_getf (index := 9) hx hb (t2.1 i hi).2.2.1 hS1 hown (ms_gd C (w := .fieldLink "java/lang/String" 9 "java/lang/String" "value" "[B") (by decide +kernel)) (fun _ q => q) (by decide +kernel) ?_
  refine lv_iload_n (k := 1) (i := 1) hx hb (by decide +kernel) rfl (lv_at hl 1 rfl) ?_
  have hm := mj_Lc (G := G) (l := l) (d := d - 1) (h := h) (x := x) (t := adV i) (N := [5, 6, 6, 4, 4].getD i 0) (b := fun j => (ms_tb.getD i []).getD j 0) (by rw [f1]; exact hin) (by rw [f1]; omega) (by omega) (by rw [f5]; exact f6)
  rw [f5] at hm
  refine mj_S (vs := [.ref (adV i), .int x]) (rest := []) (idx := 495) (d := d - 1) (n := 2) C hm ok_Lc (by decide +kernel) (by decide +kernel) (by decide +kernel) rfl hl.1 (by decide) (by decide +kernel) mT1_blind (fun U hU hW => ⟨mj_env C hP1 hS1 U hU hW, va_T.moved hW.alike ((t2.1 i hi).2.2.2.kept (fun a h1 h2 => by rw [hU]; exact hS1.2.1 a h1 h2))⟩) hS1 (by show d - 1 + 1 ≤ d; omega) (by show 40 * (d - 1 + 1) ≤ 40 * d; omega) ⟨Nat.le_refl _, Nat.le_refl _⟩ (fun H2 locs2 hP2 hS2 => ?_)
  exact W.zret hx hb hr f6 (fun t ht _ => ⟨rfl, by rw [ht]; exact hP2, hS2.F ht⟩) hS2.2.2 (by decide +kernel)
theorem ms_src {G : ms_G} {s : State} {H : Heap} {locs : List Loc} {h : mm_H} {a : Nat} (hF : ms_F G s) (hP : ms_P G h H) (hS : va_S (ms_A G) s.heap H locs) (hk : h_kd h a = 20) : ∃ scr : Cell, H[ms_tr G a]? = some scr ∧ s.isArrayOf scr .int ∧ scr.vm ≠ .unknown ∧ h_al h a ≤ scr.slots.size ∧ ∀ j : Nat, j < h_al h a → scr.slots[j]? = some (.int (h_ai h a j)) := by
  rcases Nat.lt_or_ge a 16 with z | z
  · obtain ⟨g1, g2, g3⟩ := hP.2.2.2.1 a z
    have hT := hF.2.2.2.2.2.2.2.2.2.2.1 a z (by omega)
    have et : ms_tr G a = g_sp G a := if_pos z
    obtain ⟨scr, hs1, hs2, hs3, hs4, -, hs5, hs7⟩ := hT.kept hS.2.1
    rw [et, g2, g3]
    exact ⟨scr, hs1, hs2, hs3, hs4, hs5⟩
  · have hcell := hP.2.2.2.2.2.1 a z (by omega) (by omega)
    rw [hk] at hcell
    refine ⟨_, hcell, ms_arrT hF (κ := 20) (by decide) (by decide) _ _, (fun z => by cases z), (by rw [arrV_size]; exact Nat.le_refl _), fun j hj => arrV_read _ _ hj⟩
section CPY
variable {G : ms_G} {p : Program} {l : Launch} {e : Env} {R : Room} {s : State} {m : MethodId} {args : Array Value} {below : List Frame} {meth : Method} {c : Code} {H : Heap} {locs : List Loc} {cells slots : Nat} {Q : State → Prop} {cc : ByteArray} {nL pc : Nat} {own : String} {ls : Array Slot} {h : mm_H}
theorem ms_alen {a : Nat} {rest : List Value} (C : ms_C G p s m args c cc nL own) (hP : ms_P G h H) (hS : va_S (ms_A G) s.heap H locs) (hk : h_kd h a = 20) (hd : decode cc pc = .ok (.arraylength, 1)) (kk : W p l e R s m args below meth c H locs cells slots Q (F0 m (pc + 1) ls (.int (nI (h_al h a)) :: rest))) : W p l e R s m args below meth c H locs cells slots Q (F0 m pc ls (.ref (ms_tr G a) :: rest)) := by
  obtain ⟨hx, hb, hml, hown, hts, hF⟩ := id C
  rcases Nat.lt_or_ge a 16 with z | z
  · obtain ⟨g1, g2, g3⟩ := hP.2.2.2.1 a z
    have hT := hF.2.2.2.2.2.2.2.2.2.2.1 a z (by omega)
    have et : ms_tr G a = g_sp G a := if_pos z
    rw [et]
    exact va_tlen (t := g_sp G a) hx hb hT hS (v := nI (h_al h a)) (by rw [g2]; rfl) hd kk
  · have hcell := hP.2.2.2.2.2.1 a z (by omega) (by omega)
    exact W.alen (rest := rest) hx hb hcell (ms_arrT hF (κ := h_kd h a) (by omega) (by omega) _ _) (by rw [arrV_size]; rfl) rfl rfl hd kk
set_option maxHeartbeats 1000000 in
theorem ms_acpy {a b idx : Nat} {n : Int32} {rest : List Value} (C : ms_C G p s m args c cc nL own) (hP : ms_P G h H) (hS : va_S (ms_A G) s.heap H locs) (hls : ls.size = nL) (hka : h_kd h a = 20) (hb16 : 16 ≤ b) (hkb : h_kd h b = 20) (h3 : ¬ n < 0) (h4 : n.toNatClampNeg ≤ h_al h a) (h5 : n.toNatClampNeg ≤ h_al h b) (hlk : ms_gw (.methodLink own idx arraycopyName) = true) (hnat : ms_gw (.native arraycopyName) = true) (hst : ms_gw (.static arraycopyName) = true) (hin : ms_gw (.initialized "java/lang/System") = true) (hframes : 1 ≤ R.frames) (hlocals : (rest.map fun v => v.category).sum + (nativeFrameWords "java/lang/System" "arraycopy" 5 + 11) ≤ R.locals) (hdg : decode cc pc = .ok (.invokestatic idx, 3))
    (kk : ∀ (H1 : Heap) (locs1 : List Loc), H1.size = H.size → (∀ x : Nat, x ≠ ms_tr G b → H1[x]? = H[x]?) → H1[ms_tr G b]? = some (arrV (g_cA G 20) (h_al h b) (fun j => .int (va_cpy (h_ai h a) (h_ai h b) (0 : Int32).toNatClampNeg (0 : Int32).toNatClampNeg n.toNatClampNeg j))) → va_S (ms_A G) s.heap H1 locs1 → W p l e R s m args below meth c H1 locs1 cells slots Q (F0 m (pc + 3) ls rest)) : W p l e R s m args below meth c H locs cells slots Q (F0 m pc ls (.int n :: .int 0 :: .ref (ms_tr G b) :: .int 0 :: .ref (ms_tr G a) :: rest)) := by
  obtain ⟨hx, hb, hml, hown, hts, hF⟩ := id C
  have hA : ms_A G (ms_tr G b) := ms_tr_A hb16
  obtain ⟨scr, hc0, hs2, hs3, hs4, hs5⟩ := ms_src hF hP hS hka
  have hc1 := hP.2.2.2.2.2.1 b hb16 (by omega) (by omega)
  rw [hkb] at hc1
  have nn : n.toInt = (n.toNatClampNeg : Int) := by
    have hz0 : (0 : Int) ≤ n.toInt := by
      have := Int32.not_lt.mp h3
      simpa using Int32.le_iff_toInt_le.mp this
    show n.toInt = ((n.toInt.toNat : Nat) : Int)
    omega
  have z0 : (0 : Int32).toInt = 0 := rfl
  intro T hT X
  obtain ⟨hs6, k0, hk0, cm0, hkk0⟩ := hs2
  obtain ⟨-, k1, hk1, cm1, hkk1⟩ := ms_arrT hF (κ := 20) (by decide) (by decide) (h_al h b) (fun j => .int (h_ai h b j))
  obtain ⟨vm', X', step⟩ := X.arraycopy hx hown (ms_gd C hlk) (ms_gd C hnat) (ms_gd C hst) (ms_gd C hin) (src := ms_tr G a) (dst := ms_tr G b) (cs := scr) (cd := arrV (g_cA G 20) (h_al h b) (fun j => .int (h_ai h b j))) (srcPos := 0) (destPos := 0) (n := n) (by rw [hT]; exact hc0) (by rw [hT]; exact hc1)
    hs6 (fun _ h => by cases h) hs3 (fun h => by cases h) hk0 hk1 hkk0 hkk1 (by simp [refKind, ms_ty]) (by decide) (by decide) h3
    (by rw [nn, z0]; omega)
    (by rw [nn, z0, arrV_size]; omega)
    (fun vm₁ _ i hi => by
      have e : scr.slots.getD ((0 : Int32).toNatClampNeg + i) .null = .int (h_ai h a ((0 : Int32).toNatClampNeg + i)) := by
        rw [Array.getD_eq_getD_getElem?, hs5 _ (by show 0 + i < _; omega)]
        rfl
      refine ⟨?_, ?_⟩
      · rw [e]
        rfl
      · rw [e]
        exact trivial)
    (g := F0 m pc ls (.int n :: .int 0 :: .ref (ms_tr G b) :: .int 0 :: .ref (ms_tr G a) :: rest)) rfl (by rw [hml, ← hls]) (rest := rest) rfl (by rw [hb]; exact hdg) hframes (by show 2 * 0 + _ + _ ≤ _; omega)
  have e1 : copied scr (arrV (g_cA G 20) (h_al h b) (fun j => .int (h_ai h b j))) 0 0 n = arrV (g_cA G 20) (h_al h b) (fun j => .int (va_cpy (h_ai h a) (h_ai h b) (0 : Int32).toNatClampNeg (0 : Int32).toNatClampNeg n.toNatClampNeg j)) := va_copiedX (fun z => .int z) scr (g_cA G 20) (h_ai h a) (h_ai h b) hs5 (by show 0 + _ ≤ _; omega)
  rw [e1] at X' step
  have hl : ms_tr G b < H.size := (Array.getElem?_eq_some_iff.mp hc1).1
  generalize arrV (g_cA G 20) (h_al h b) (fun j => .int (va_cpy (h_ai h a) (h_ai h b) (0 : Int32).toNatClampNeg (0 : Int32).toNatClampNeg n.toNatClampNeg j)) = nc at X' step kk
  have hheap : ((T.setVm vm').setCell (ms_tr G b) nc).heap = H.setIfInBounds (ms_tr G b) nc := by rw [← hT]; rfl
  have oq : ∀ q : Nat, q ≠ ms_tr G b → (H.setIfInBounds (ms_tr G b) nc)[q]? = H[q]? := fun q hq => by simp [Array.getElem?_setIfInBounds, Ne.symm hq]
  obtain ⟨t, a1, b1⟩ := kk _ _ (by simp) oq (by simp [Array.getElem?_setIfInBounds, hl]) ⟨by simp; exact hS.1, fun q g1 g2 => by
      rw [oq q (fun e => g2 (by rw [e]; exact hA))]
      exact hS.2.1 q g1 g2, fun q hq => by
      rcases List.mem_append.mp hq with h | h
      · exact hS.2.2 q h
      · obtain ⟨z, -, hz⟩ := List.mem_map.mp h
        rw [← hz]
        exact hA⟩ _ hheap X'
  exact ⟨t, step t a1, b1⟩
end CPY
abbrev qCp : mm_I := (yJ7_copyOf_59c91, cJ7_copyOf_59c91, 3, some (.array .int))
theorem ok_Cp : ms_okM qCp = true := by decide +kernel
set_option maxHeartbeats 4000000 in
theorem ms_cp {G : ms_G} {l : Launch} {d a : Nat} {x : Int32} {h : mm_H} (hd20 : 20 ≤ d) (hk : h_kd h a = 20) (h0 : ¬ x < 0) (h1 : x.toNatClampNeg ≤ 100000000) (hlt : h_al h a < x.toNatClampNeg) : ms_Mt G l 154 d [.ref a, .int x] h (some (.ref (h_n h)), (va_up (h_kd h) (h_n h) 20, h_oi h, h_or h, va_up (h_al h) (h_n h) x.toNatClampNeg, va_up (h_ai h) (h_n h) (fun i => if i < h_al h a then h_ai h a i else 0), va_up (h_ar h) (h_n h) (fun _ => none), h_n h + 1, h_s h + x.toNatClampNeg)) := by
  intro q hq
  cases hq
  have ec : h_n h + 1 - h_n h = 1 := by omega
  have es : h_s h + x.toNatClampNeg - h_s h = x.toNatClampNeg := by omega
  show Met l _ _ (ms_rm d (h_n h + 1 - h_n h) (h_s h + x.toNatClampNeg - h_s h)) _ _ (h_n h + 1 - h_n h) (h_s h + x.toNatClampNeg - h_s h) _
  rw [ec, es]
  obtain ⟨k1, k2, k3, k4, k5, k6⟩ := ms_okM_of ok_Cp
  refine Met.ofW (cc := cJ7_copyOf_59c91) (maxL := 3) (ret := some (.array .int)) k3 rfl ?_
  intro p e s m args below meth c s₁ Bd hml hv
  obtain ⟨rfl, hF, hP⟩ := hv
  have hts := atoms_spec (ws := ms_ws qCp) Bd.pre
  have hown : s.vm.findClass "java/util/Arrays" = some m.cls := findClass_of_methodNamed Bd.named
  have hlocks := Bd.notSynchronized
  have hr := Bd.returns
  have hl := lv_entry (([.ref a, .int x] : List Value).map (ms_vt G)) (n := 3) (Nat.le_of_ble_eq_true rfl)
  have C : ms_C G p s m (([.ref a, .int x] : List Value).map (ms_vt G)).toArray c cJ7_copyOf_59c91 3 "java/util/Arrays" := ⟨Bd.exec, Bd.bytes, hml, hown, fun w h1 h2 => hts w (List.mem_cons_of_mem _ (List.mem_filter.mpr ⟨h1, h2⟩)), hF⟩
  have hx := Bd.exec
  have hb := Bd.bytes
  have hS : va_S (ms_A G) s.heap s.heap [] := va_S.rf
  have hsp := ms_spF hF
  have hn16 := hP.2.1
  have han : a ≠ h_n h := fun z => by
    have := hP.2.2.1 a (by omega)
    omega
  have al0 : (nI (h_al h a)).toNatClampNeg = h_al h a := nI_clamp (by omega)
  rw [lg_entry_eq]
  generalize (lg_sl (([.ref a, .int x] : List Value).map (ms_vt G)) ++ List.replicate (3 - (lg_sl (([.ref a, .int x] : List Value).map (ms_vt G))).length) Slot.unset).toArray = ls at hl ⊢
  have hl : lv_has ls 3 [(0, .ref (ms_tr G a)), (1, .int x)] := hl
  have hne : ¬ x = nI (h_al h a) := fun z => by
    rw [z, al0] at hlt
    omega
  refine lv_iload_n (k := 1) (i := 1) hx hb (by decide +kernel) rfl (lv_at hl 1 rfl) ?_
  refine lv_aload_n (k := 0) (i := 0) hx hb (by decide +kernel) rfl (lv_at hl 0 rfl) ?_
  refine ms_alen C hP hS hk (by decide +kernel) ?_
  refine lv_icmp_ne (tgt := 14) (off := 11) hx hb (by decide +kernel) (by decide) (fun _ => ?_) (fun z => absurd z hne)
  refine lv_iload_n (k := 1) (i := 1) hx hb (by decide +kernel) rfl (lv_at hl 1 rfl) ?_
  refine va_newaK (atype := .int) (rest := []) hx hb (ms_gd C (w := .arrayClass .int) (by decide +kernel)) rfl (by show decode cJ7_copyOf_59c91 15 = .ok (.newarray .int, 2); decide +kernel) rfl h0 rfl (by show x.toNatClampNeg * 4 ≤ _; omega) (by show 0 + 1 ≤ 1; omega) (by show 0 + x.toNatClampNeg ≤ x.toNatClampNeg; omega) (ms_tr_n hP).symm fun H1 cA1 e1 z1 o1 hAr hNm => ?_
  have hcA : cA1 = g_cA G 20 := Option.some.inj (hNm.symm.trans (hF.1.2 0 _ rfl).2)
  subst hcA
  simp only [Nat.zero_add]
  show W _ _ _ _ _ _ _ _ _ _ _ _ _ _ _ (F0 m 17 ls [.ref (ms_tr G (h_n h))])
  have hP1 : ms_P G (h_nA h 20 x.toNatClampNeg) H1 := by
    rw [ms_tr_n hP] at e1 z1 o1
    exact ms_P.nA hsp hP (κ := 20) (N := x.toNatClampNeg) (f := fun _ => 0) (by decide) z1 o1 rfl e1
  have hS1 : va_S (ms_A G) s.heap H1 [] := by
    rw [ms_tr_n hP] at z1 o1
    exact ⟨by omega, fun q h1 _ => o1 q h1, fun q hq => absurd hq List.not_mem_nil⟩
  have hka1 : h_kd (h_nA h 20 x.toNatClampNeg) a = 20 := (va_up_ne _ _ han).trans hk
  have hal1 : h_al (h_nA h 20 x.toNatClampNeg) a = h_al h a := va_up_ne _ _ han
  have hai1 : h_ai (h_nA h 20 x.toNatClampNeg) a = h_ai h a := va_up_ne _ _ han
  have hkb : h_kd (h_nA h 20 x.toNatClampNeg) (h_n h) = 20 := va_up_self _ _ _
  have halb : h_al (h_nA h 20 x.toNatClampNeg) (h_n h) = x.toNatClampNeg := va_up_self _ _ _
  have haib : h_ai (h_nA h 20 x.toNatClampNeg) (h_n h) = fun _ => 0 := va_up_self _ _ _
  refine lv_astore_n (k := 2) (i := 2) (nL := 3) (x := ms_tr G (h_n h)) hx hb (by decide +kernel) rfl hl (by decide) rfl (fun ls2 hl2 => ?_)
  have hl2 : lv_has ls2 3 [(2, .ref (ms_tr G (h_n h))), (0, .ref (ms_tr G a)), (1, .int x)] := hl2
  refine lv_aload_n (k := 0) (i := 0) hx hb (by decide +kernel) rfl (lv_at hl2 1 rfl) ?_
  refine lv_iconst (n := 0) (v := 0) hx hb (by decide +kernel) rfl ?_
  refine lv_aload_n (k := 2) (i := 2) hx hb (by decide +kernel) rfl (lv_at hl2 0 rfl) ?_
  refine lv_iconst (n := 0) (v := 0) hx hb (by decide +kernel) rfl ?_
  refine lv_aload_n (k := 0) (i := 0) hx hb (by decide +kernel) rfl (lv_at hl2 1 rfl) ?_
  refine ms_alen C hP1 hS1 hka1 (by decide +kernel) ?_
  rw [hal1]
  refine lv_iload_n (k := 1) (i := 1) hx hb (by decide +kernel) rfl (lv_at hl2 2 rfl) ?_
  refine va_mmin (index := 304) hx hb (by rw [hml, hl2.1]) hown (ms_gd C (by decide +kernel)) (ms_gd C (by decide +kernel)) (ms_gd C (by decide +kernel)) (ms_gd C (by decide +kernel)) (by show 1 ≤ d; omega) (by show 1 + (1 + (1 + (1 + 0))) + 13 ≤ 40 * d; omega) (Nat.le_refl _) (Nat.le_refl _) (by decide +kernel) ?_
  have hmin : (if x < nI (h_al h a) then x else nI (h_al h a)) = nI (h_al h a) := by
    refine if_neg (fun z => ?_)
    obtain ⟨j, hj, rfl⟩ := nat_of h0
    rw [nI_clamp (by omega)] at hlt
    have := (i_lt (by omega) (by omega)).mp z
    omega
  rw [hmin]
  have nw : nativeFrameWords "java/lang/System" "arraycopy" 5 + 11 ≤ 400 := by decide +kernel
  refine ms_acpy (a := a) (b := h_n h) (idx := 150) (rest := []) C hP1 hS1 hl2.1 hka1 hn16 hkb (nI_pos (by omega)) (by rw [al0, hal1]; exact Nat.le_refl _) (by rw [al0, halb]; omega) (by decide +kernel) (by decide +kernel) (by decide +kernel) (by decide +kernel) (by show 1 ≤ d; omega) (by show 0 + (nativeFrameWords "java/lang/System" "arraycopy" 5 + 11) ≤ 40 * d; omega) (by decide +kernel) (fun H2 locs2 y1 y2 y3 hS2 => ?_)
  rw [halb, hai1, haib, al0] at y3
  refine lv_aload_n (k := 2) (i := 2) hx hb (by decide +kernel) rfl (lv_at hl2 0 rfl) ?_
  refine W.aret hx hb hr (Or.inr ⟨_, rfl⟩) (Or.inr ⟨_, rfl⟩) (fun t ht _ => ⟨rfl, ?_, hS2.F ht⟩) hS2.2.2 (by decide +kernel)
  rw [ht]
  rw [ms_tr_n hP] at y2 y3 z1 o1
  refine ms_P.nA hsp hP (κ := 20) (N := x.toNatClampNeg) (f := fun i => if i < h_al h a then h_ai h a i else 0) (by decide) (y1.trans z1) (fun q hq => (y2 q (by omega)).trans (o1 q hq)) rfl (y3.trans ?_)
  refine congrArg (fun f => some (arrV (g_cA G 20) x.toNatClampNeg f)) (funext fun j => ?_)
  show Value.int _ = Value.int _
  refine congrArg Value.int ?_
  show va_cpy (h_ai h a) (fun _ => 0) 0 0 (h_al h a) j = if j < h_al h a then h_ai h a j else 0
  by_cases z : j < h_al h a
  · rw [pk_cpy_in (Nat.zero_le _) (by show j < 0 + h_al h a; omega), if_pos z]
    show h_ai h a (0 + (j - 0)) = _
    rw [Nat.zero_add, Nat.sub_zero]
  · rw [pk_cpy_out (Or.inr (by show 0 + h_al h a ≤ j; omega)), if_neg z]
theorem ms_bi (G : ms_G) (l : Launch) : ms_BI G l := by
  intro y d As h r hmt hd hB
  rcases hB with ⟨rfl, a, x, rfl, hk, h0, h1, hlt, e1, e2⟩ | ⟨rfl, a, rfl, h4, h8, e1, e2⟩ | ⟨rfl, a, x, rfl, h4, h8, hin, e1, e2⟩
  · obtain ⟨r1, r2⟩ := r
    have e1 : r1 = _ := e1
    have e2 : r2 = _ := e2
    subst e1 e2
    exact ms_cp hd hk h0 h1 hlt
  · obtain ⟨r1, r2⟩ := r
    have e1 : r1 = _ := e1
    have e2 : r2 = _ := e2
    subst e1 e2
    obtain ⟨i, rfl⟩ : ∃ i, a = 4 + i := ⟨a - 4, by omega⟩
    intro q hq
    cases hq
    show Met l _ _ (ms_rm d (h_n r2 - h_n r2) (h_s r2 - h_s r2)) _ _ (h_n r2 - h_n r2) (h_s r2 - h_s r2) _
    rw [Nat.sub_self, Nat.sub_self]
    have et : ms_tr G (4 + i) = g_sp G (4 + i) := if_pos (by omega)
    have hm := mj_Ln (G := G) (l := l) (d := d) (i := i) (h := r2) (by omega) (by omega)
    rw [← et] at hm
    exact hm
  · obtain ⟨r1, r2⟩ := r
    have e1 : r1 = _ := e1
    have e2 : r2 = _ := e2
    subst e1 e2
    obtain ⟨i, rfl⟩ : ∃ i, a = 4 + i := ⟨a - 4, by omega⟩
    intro q hq
    cases hq
    show Met l _ _ (ms_rm d (h_n r2 - h_n r2) (h_s r2 - h_s r2)) _ _ (h_n r2 - h_n r2) (h_s r2 - h_s r2) _
    rw [Nat.sub_self, Nat.sub_self]
    have et : ms_tr G (4 + i) = g_sp G (4 + i) := if_pos (by omega)
    have hm := mj_Ca (G := G) (l := l) (d := d) (i := i) (h := r2) (x := x) (by omega) hin (by omega)
    rw [← et] at hm
    exact hm
