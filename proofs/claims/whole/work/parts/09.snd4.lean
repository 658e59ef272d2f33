/-! SOUNDNESS, 3: calls, and the whole -/
def ms_Pc (G : ms_G) (h : mm_H) (U : State) : Prop := ms_F G U ∧ ms_P G h U.heap
def ms_Qc (G : ms_G) (r : Option Value × mm_H) : Array Value → State → Outcome → State → Prop := fun _ st oc t => oc = .returned (r.1.map (ms_vt G)) ∧ ms_P G r.2 t.heap ∧ va_F (ms_A G) st t
def ms_ws (q : mm_I) : List Cond := .code q.1 q.2.1 q.2.2.1 q.2.2.2 :: ms_TS
def ms_rm (d mc msl : Nat) : Room := { frames := d, cells := mc, slots := msl, locals := 40 * d }
def ms_Mt (G : ms_G) (l : Launch) (y d : Nat) (As : List Value) (h : mm_H) (r : Option Value × mm_H) : Prop := ∀ q, mm_is[y]? = some q → Met l q.1 (ms_ws q) (ms_rm d (h_n r.2 - h_n h) (h_s r.2 - h_s h)) (va_Pc (As.map (ms_vt G)) (ms_Pc G h)) (ms_Qc G r) (h_n r.2 - h_n h) (h_s r.2 - h_s h) (ms_A G)
def ms_okR (q : mm_I) (e : mm_E) : Bool := match e.1 with
  | .ireturn => (decide (e.2.2.1 = 0) && decide (q.2.2.2 = some .int)) || (decide (e.2.2.1 = 1) && decide (q.2.2.2 = some .boolean))
  | .return_ => decide (q.2.2.2 = none)
  | .areturn => decide (q.2.2.2 = some (.object "SitterCircle$Family")) || decide (q.2.2.2 = some (.object "java/lang/String"))
  | _ => true
def ms_All : Prop := ∀ (y : Nat) (M : mm_M) (q : mm_I), mm_mt y = some M → mm_is[y]? = some q → ms_okM q = true ∧ q.2.2.1 = M.2.1 ∧ ∀ e ∈ M.2.2, ms_ok q.1.cls (q.1.name == "<init>") q.2.1 e = true ∧ ms_okR q e.2 = true
def ms_BI (G : ms_G) (l : Launch) : Prop := ∀ (y d : Nat) (As : List Value) (h : mm_H) (r : Option Value × mm_H), mm_mt y = none → 20 ≤ d → mm_B y As h r → ms_Mt G l y d As h r
def ms_okB : Prop := ∀ (y : Nat) (q : mm_I), mm_is[y]? = some q → y ≠ 153 → y < 157 → ms_okM q = true
theorem ms_clm : ∀ {cd : List (Nat × mm_E)} {i : Nat} {v : mm_E}, mm_cl cd i = some v → (i, v) ∈ cd
  | [], _, _, h => by cases h
  | q :: t, i, v, h => by
    unfold mm_cl at h
    by_cases e : (q.1 == i) = true
    · rw [if_pos e] at h
      have e1 : q.1 = i := eq_of_beq e
      have e2 : q.2 = v := Option.some.inj h
      subst e1; subst e2
      exact List.mem_cons_self
    · rw [if_neg e] at h
      exact List.mem_cons_of_mem _ (ms_clm h)
theorem ms_wid : ∀ vs : List Value, (lg_sl vs).length = (vs.map fun v => v.category).sum
  | [] => rfl
  | v :: vs => by
    have ih := ms_wid vs
    unfold lg_sl at ih ⊢
    rw [List.flatMap_cons, List.length_append, ih, List.map_cons, List.sum_cons]
    rcases lv_cat v with h | h
    · rw [if_neg (by omega), h]
      rfl
    · rw [if_pos h, h]
      rfl
theorem mm_m1 {nL : Nat} {en : mm_E} {pc : Nat} {lo : mm_L} {st : List Value} {h : mm_H} {s' : mm_S} (hX : mm_X1 nL en pc lo st h s') : s'.2.2.2 = h := by
  obtain ⟨i, len, u, v⟩ := en
  cases i
  all_goals first
    | exact False.elim hX
    | (obtain rfl : s' = _ := hX; rfl)
    | (obtain ⟨_, _, rfl⟩ := hX; rfl)
    | (obtain ⟨_, _, _, rfl⟩ := hX; rfl)
    | (obtain ⟨_, _, _, _, rfl⟩ := hX; rfl)
theorem mm_m2 {en : mm_E} {pc : Nat} {lo : mm_L} {st : List Value} {h : mm_H} {s' : mm_S} (hX : mm_X2 en pc lo st h s') : s'.2.2.2 = h := by
  obtain ⟨i, len, u, v⟩ := en
  cases i
  all_goals first
    | exact False.elim hX
    | (obtain ⟨_, _, _, _, rfl⟩ := hX; rfl)
    | (obtain ⟨_, _, _, rfl⟩ := hX; rfl)
    | (obtain ⟨_, _, _, _, _, _, rfl⟩ := hX; rfl)
theorem mm_m3 {en : mm_E} {pc : Nat} {lo : mm_L} {st : List Value} {h : mm_H} {s' : mm_S} (hX : mm_X3 en pc lo st h s') : s'.2.2.2 = h := by
  obtain ⟨i, len, u, v⟩ := en
  cases i
  all_goals first
    | exact False.elim hX
    | (obtain ⟨_, _, rfl⟩ := hX; rfl)
    | (obtain ⟨_, _, _, _, _, rfl⟩ := hX; rfl)
    | (obtain ⟨_, _, _, _, _, _, rfl⟩ := hX; rfl)
    | (obtain ⟨_, _, _, _, _, _, _, rfl⟩ := hX; rfl)
theorem mm_m4 {en : mm_E} {pc : Nat} {lo : mm_L} {st : List Value} {h : mm_H} {s' : mm_S} (hX : mm_X4 en pc lo st h s') : h_n h ≤ h_n s'.2.2.2 ∧ h_s h ≤ h_s s'.2.2.2 := by
  obtain ⟨i, len, u, v⟩ := en
  cases i
  case getfield => obtain ⟨_, _, _, _, rfl⟩ := hX; exact ⟨Nat.le_refl _, Nat.le_refl _⟩
  case putfield => obtain ⟨_, _, _, _, ⟨_, _, _, rfl⟩ | ⟨_, _, _, rfl⟩⟩ := hX <;> exact ⟨Nat.le_refl _, Nat.le_refl _⟩
  case iaload => obtain ⟨_, _, _, _, _, _, rfl⟩ := hX; exact ⟨Nat.le_refl _, Nat.le_refl _⟩
  case baload => obtain ⟨_, _, _, _, _, _, rfl⟩ := hX; exact ⟨Nat.le_refl _, Nat.le_refl _⟩
  case aaload => obtain ⟨_, _, _, _, _, _, _, rfl⟩ := hX; exact ⟨Nat.le_refl _, Nat.le_refl _⟩
  case iastore => obtain ⟨_, _, _, _, _, _, _, _, rfl⟩ := hX; exact ⟨Nat.le_refl _, Nat.le_refl _⟩
  case bastore => obtain ⟨_, _, _, _, _, _, _, ⟨_, rfl⟩ | ⟨_, rfl⟩⟩ := hX <;> exact ⟨Nat.le_refl _, Nat.le_refl _⟩
  case aastore => obtain ⟨_, _, _, _, _, _, _, _, rfl⟩ := hX; exact ⟨Nat.le_refl _, Nat.le_refl _⟩
  case arraylength => obtain ⟨_, _, _, _, _, rfl⟩ := hX; exact ⟨Nat.le_refl _, Nat.le_refl _⟩
  case new => obtain rfl : s' = _ := hX; exact ⟨Nat.le_succ _, Nat.le_add_right _ _⟩
  case newarray => obtain ⟨_, _, _, _, _, rfl⟩ := hX; exact ⟨Nat.le_succ _, Nat.le_add_right _ _⟩
  case anewarray => obtain ⟨_, _, _, _, _, rfl⟩ := hX; exact ⟨Nat.le_succ _, Nat.le_add_right _ _⟩
  case multianewarray =>
    obtain ⟨x, y, _, _, _, _, _, _, rfl⟩ := hX
    refine ⟨?_, ?_⟩
    · show h_n h ≤ h_n h + 1 + x.toNatClampNeg
      omega
    · show h_s h ≤ h_s h + x.toNatClampNeg + x.toNatClampNeg * y.toNatClampNeg
      omega
  all_goals exact False.elim hX
theorem mm_mX {nL : Nat} {en : mm_E} {pc : Nat} {lo : mm_L} {st : List Value} {h : mm_H} {s' : mm_S} (hX : mm_X nL en pc lo st h s') : h_n h ≤ h_n s'.2.2.2 ∧ h_s h ≤ h_s s'.2.2.2 := by
  rcases hX with hX | hX | hX | hX
  · rw [mm_m1 hX]; exact ⟨Nat.le_refl _, Nat.le_refl _⟩
  · rw [mm_m2 hX]; exact ⟨Nat.le_refl _, Nat.le_refl _⟩
  · rw [mm_m3 hX]; exact ⟨Nat.le_refl _, Nat.le_refl _⟩
  · exact mm_m4 hX
theorem mm_mB {y : Nat} {As : List Value} {h : mm_H} {r : Option Value × mm_H} (hB : mm_B y As h r) : h_n h ≤ h_n r.2 ∧ h_s h ≤ h_s r.2 := by
  rcases hB with ⟨-, a, x, -, -, -, -, -, -, e⟩ | ⟨-, a, -, -, -, -, e⟩ | ⟨-, a, x, -, -, -, -, -, e⟩
  · rw [e]; exact ⟨Nat.le_succ _, Nat.le_add_right _ _⟩
  · rw [e]; exact ⟨Nat.le_refl _, Nat.le_refl _⟩
  · rw [e]; exact ⟨Nat.le_refl _, Nat.le_refl _⟩
theorem mm_mono : ∀ (n d : Nat) (M : mm_M) (pc : Nat) (lo : mm_L) (st : List Value) (h : mm_H) (r : Option Value × mm_H), mm_R n d M pc lo st h r → h_n h ≤ h_n r.2 ∧ h_s h ≤ h_s r.2
  | 0, _, _, _, _, _, _, _, hR => False.elim hR
  | n + 1, d, M, pc, lo, st, h, r, hR => by
    obtain ⟨e, -, hc⟩ := hR
    rcases hc with ⟨s', hX, hR⟩ | ⟨-, hr⟩ | ⟨d', As, rest, r1, h1, -, -, hC, hR⟩ | ⟨d', rest, -, -, hR⟩
    · have h1 := mm_mX hX
      have h2 := mm_mono n d M _ _ _ _ r hR
      exact ⟨Nat.le_trans h1.1 h2.1, Nat.le_trans h1.2 h2.2⟩
    · rw [hr]; exact ⟨Nat.le_refl _, Nat.le_refl _⟩
    · have h3 : h_n h ≤ h_n h1 ∧ h_s h ≤ h_s h1 := by
        rcases hC with ⟨M', -, -, hC⟩ | ⟨-, -, hC⟩
        · exact mm_mono n d' M' _ _ _ _ (r1, h1) hC
        · exact mm_mB hC
      have h2 := mm_mono n d M _ _ _ _ r hR
      exact ⟨Nat.le_trans h3.1 h2.1, Nat.le_trans h3.2 h2.2⟩
    · exact mm_mono n d M _ _ _ _ r hR
theorem ms_blind {G : ms_G} {vs : List Value} {h : mm_H} : FrameBlind (va_Pc vs (ms_Pc G h)) := by
  intro a U g mk q
  obtain ⟨q1, q2, q3⟩ := q
  exact ⟨q1, ms_F.to q2 (State.WarmedH.refl U) (Nat.le_refl _) (fun _ _ _ => rfl), q3⟩
section MS6
variable {G : ms_G} {p : Program} {l : Launch} {e : Env} {R : Room} {s : State} {m : MethodId} {args : Array Value} {below : List Frame} {meth : Method} {c : Code} {H : Heap} {locs : List Loc} {cells slots : Nat} {Q : State → Prop} {cc : ByteArray} {nL pc : Nat} {own : String} {ini : Bool} {ls : Array Slot} {en : mm_E} {lo : mm_L} {st : List Value} {h : mm_H} {s' : mm_S}
theorem ms_run {mc msl : Nat} {st0 rest : List Value} {r : Option Value × mm_H} {a : Array Value} (hr : va_Run p l e R s m args below meth c H locs cells slots mc msl (F0 m pc ls st0) rest (ms_Qc G r a) (ms_A G)) (hS : va_S (ms_A G) s.heap H locs)
    (kk : ∀ (H1 : Heap) (locs1 : List Loc), ms_P G r.2 H1 → va_S (ms_A G) s.heap H1 locs1 → W p l e R s m args below meth c H1 locs1 (cells + mc) (slots + msl) Q (F0 m (pc + 3) ls ((r.1.map (ms_vt G)).toList ++ rest))) : W p l e R s m args below meth c H locs cells slots Q (F0 m pc ls st0) := by
  intro T hT X
  obtain ⟨v, st₀, t, T', L, h0, X', hL, e1, e2, ⟨hv, hp, hz, hk⟩, st⟩ := hr T hT X
  cases hv
  rw [h0] at hz hk
  obtain ⟨t2, a1, b1⟩ := kk T'.heap (locs ++ L) (by rw [e1]; exact hp)
    ⟨Nat.le_trans hS.1 (by rw [e1]; exact hz), fun q h1 h2 => by rw [e1, hk q (Nat.lt_of_lt_of_le h1 hS.1) h2]; exact hS.2.1 q h1 h2, fun q hq => by
      rcases List.mem_append.mp hq with h | h
      · exact hS.2.2 q h
      · exact hL q h⟩ T' rfl X'
  exact ⟨t2, st t2 a1, b1⟩
theorem ms_pre {As : List Value} (C : ms_C G p s m args c cc nL own) (hP : ms_P G h H) (hS : va_S (ms_A G) s.heap H locs) : ∀ U : State, U.heap = H → s.WarmedH U.vm → va_Pc (As.map (ms_vt G)) (ms_Pc G h) (As.map (ms_vt G)).toArray U := by
  intro U hU hW
  refine ⟨rfl, ms_F.to C.2.2.2.2.2 hW (by rw [hU]; exact hS.1) (fun q h1 h2 => by rw [hU]; exact hS.2.1 q h1 h2), by rw [hU]; exact hP⟩
theorem ms_good {q : mm_I} (h : ms_okM q = true) : GoodIn ms_TS (ms_ws q) := by
  unfold ms_okM at h
  simp only [Bool.and_eq_true] at h
  have h1 := ms_gw_of h.1.1.1.1.1
  intro w hw
  have hw2 : w ∈ lw_tbl ∧ goodWord w = true := by
    rcases List.mem_cons.mp hw with rfl | hw
    · exact h1
    · exact List.mem_filter.mp hw
  exact ⟨List.mem_filter.mpr hw2, good_of_word hw2.2⟩
theorem ms_okM_of {q : mm_I} (h : ms_okM q = true) : ms_gw (.code q.1 q.2.1 q.2.2.1 q.2.2.2) = true ∧ ms_gw (.initialized q.1.cls) = true ∧ plainName q.1.cls = true ∧ q.1.cls ≠ "java/lang/invoke/MethodHandle" ∧ q.1.cls ≠ "java/lang/invoke/VarHandle" ∧ q.2.2.1 ≤ 21 := by
  unfold ms_okM at h
  simp only [Bool.and_eq_true, decide_eq_true_eq] at h
  exact ⟨h.1.1.1.1.1, h.1.1.1.1.2, h.1.1.1.2, h.1.1.2, h.1.2, h.2⟩
/-- the receiver's cell -/
theorem ms_recv {b y : Nat} (hF : ms_F G s) (hP : ms_P G h H) (hS : va_S (ms_A G) s.heap H locs) {C : String} (h1 : 1 ≤ mm_rc y) (h2 : mm_rc y ≤ 10 ∨ mm_rc y = 30) (hC : (match vwCl[mm_rc y - 1]? with | some r => r.1 | none => "java/lang/String") = C) (hk : h_kd h b = mm_rc y) (hb30 : mm_rc y = 30 → b < 16) : ∃ cell : Cell, H[ms_tr G b]? = some cell ∧ cell.vm.isStatics = false ∧ s.vm.findClass C = some cell.cls := by
  rcases h2 with h2 | h2
  · have h3 : mm_rc y - 1 < vwCl.length := by show _ < 10; omega
    have h4 : vwCl[mm_rc y - 1]? = some vwCl[mm_rc y - 1] := List.getElem?_eq_getElem h3
    rw [h4] at hC
    have h5 : h_kd h b = (mm_rc y - 1) + 1 := by omega
    have hhi := ms_obj_hi hF hP h5 h4
    obtain ⟨cell, g1, g2, g3, -⟩ := hP.2.2.2.2.1 b _ _ hhi h5 h4
    exact ⟨cell, g1, by rw [g3]; rfl, by rw [g2, ← hC]; exact (hF.1.1 _ _ h4).2.1⟩
  · have hb : b < 16 := hb30 h2
    rw [h2] at hC hk
    have g1 := (hP.2.2.2.1 b hb).1
    have g2 := (hF.2.2.2.2.2.2.2.2.2.1 b hb).2
    have g3 : 4 ≤ b ∧ b ≤ 8 := by omega
    obtain ⟨adV, hT⟩ := hF.2.2.2.2.2.2.2.2.1.2.1
    obtain ⟨⟨cell, q1, q2, q3, q4⟩, -⟩ := hT.1 (b - 4) (by omega)
    have e1 : ms_tr G b = g_sp G (4 + (b - 4)) := by
      unfold ms_tr
      rw [if_pos hb]
      congr 1
      omega
    refine ⟨cell, ?_, q2, by rw [← hC]; exact q3⟩
    rw [e1]
    rw [hS.2.1 _ (Array.getElem?_eq_some_iff.mp q1).1 q4]
    exact q1
theorem ms_call {n0 s0 d' : Nat} {As rest : List Value} {r1 : Option Value} {h1 : mm_H} (hB : ms_okB) (C : ms_C G p s m args c cc nL own) (hok : ms_ok own ini cc (pc, en) = true) (hl : lv_has ls nL (ms_lt G lo)) (hP : ms_P G h H) (hS : va_S (ms_A G) s.heap H locs) (hc1 : cells + n0 = h_n h) (hc2 : slots + s0 = h_s h)
    (hY : mm_Y en st h As rest) (hM : ms_Mt G l en.2.2.1 d' As h (r1, h1)) (hne : en.2.2.1 ≠ 153 ∧ en.2.2.1 < 157) (hne2 : en.2.2.1 ≠ 999) (hm : h_n h ≤ h_n h1 ∧ h_s h ≤ h_s h1) (hRf : d' + 1 ≤ R.frames) (hRl : 40 * (d' + 1) ≤ R.locals) (hR1 : h_n h1 ≤ n0 + R.cells) (hR2 : h_s h1 ≤ s0 + R.slots)
    (kk : ∀ (H' : Heap) (locs' : List Loc) (cells' slots' : Nat), ms_P G h1 H' → va_S (ms_A G) s.heap H' locs' → cells' + n0 = h_n h1 → slots' + s0 = h_s h1 → W p l e R s m args below meth c H' locs' cells' slots' Q (F0 m (pc + 3) ls ((r1.toList ++ rest).map (ms_vt G)))) :
    W p l e R s m args below meth c H locs cells slots Q (F0 m pc ls (st.map (ms_vt G))) := by
  obtain ⟨hx, hb, hml, hown, hts, hF⟩ := id C
  have hts' := ms_hts C
  obtain ⟨i, len, u, v⟩ := en
  obtain ⟨hd, hlen⟩ := ms_ok_d hok
  obtain ⟨hsum, hY⟩ := hY
  have hroom : ∀ st1, 2 * (F0 m pc ls st1).monitorRoom + ((rest.map (ms_vt G)).map fun v => v.category).sum ≤ 8 := fun st1 => by
    rw [ms_sum]
    exact lv_room hsum
  have fin : ∀ {a : Array Value}, va_Run p l e R s m args below meth c H locs cells slots (h_n h1 - h_n h) (h_s h1 - h_s h) (F0 m pc ls (st.map (ms_vt G))) (rest.map (ms_vt G)) (ms_Qc G (r1, h1) a) (ms_A G) → W p l e R s m args below meth c H locs cells slots Q (F0 m pc ls (st.map (ms_vt G))) := fun hr => by
    refine ms_run hr hS (fun H1 locs1 hP1 hS1 => ?_)
    have w := kk H1 locs1 (cells + (h_n h1 - h_n h)) (slots + (h_s h1 - h_s h)) hP1 hS1 (by omega) (by omega)
    have e1 : (r1.toList ++ rest).map (ms_vt G) = (r1.map (ms_vt G)).toList ++ rest.map (ms_vt G) := by
      rw [List.map_append]
      cases r1 <;> rfl
    rw [e1] at w
    exact w
  have hf : cells + (h_n h1 - h_n h) ≤ R.cells ∧ slots + (h_s h1 - h_s h) ≤ R.slots := by omega
  have S : CallFix p m c cc nL s args ms_TS own := ⟨hx, hb, hml, hown, hts'⟩
  have key : ∀ f : mm_I → Bool, (k : Nat) → ms_okC own k u v f = true → ∃ q, mm_is[u]? = some q ∧ ((Cond.methodLink own k q.1).before args s = true ∨ va_Nw (.methodLinkNest own k q.1 "SitterCircle") s) ∧ (parseMethodDescriptor q.1.desc).map (fun d => d.parameters.length) = some v ∧ f q = true := fun f k hk => by
    unfold ms_okC at hk
    split at hk
    · rename_i q hq
      rw [Bool.and_eq_true, Bool.and_eq_true, Bool.or_eq_true] at hk
      refine ⟨q, hq, ?_, of_decide_eq_true hk.1.2, hk.2⟩
      rcases hk.1.1 with z | z
      · exact Or.inl (ms_gd C z)
      · exact Or.inr (ms_nd C z)
    · cases hk
  cases i
  case invokestatic idx =>
    obtain rfl : len = 3 := eq_of_beq hlen
    obtain ⟨rfl, hlenA⟩ := hY
    have hok1 := ms_ok_r hok rfl
    rw [Bool.or_eq_true, Bool.or_eq_true, Bool.and_eq_true, Bool.and_eq_true, Bool.and_eq_true] at hok1
    have hne3 : u < 157 := hne.2
    have hok2 : ms_okC own idx u v (fun y => ms_gw (.static y.1)) = true := by
      rcases hok1 with (⟨z, -⟩ | ⟨z, -⟩) | ⟨-, z⟩
      · have z : u = 157 := of_decide_eq_true z
        omega
      · have z : u = 158 := of_decide_eq_true z
        omega
      · exact z
    obtain ⟨q, hq, hlink, hpar, hf2⟩ := key _ idx hok2
    have hqM := hB u q hq hne.1 hne.2
    obtain ⟨k1, k2, k3, k4, k5, k6⟩ := ms_okM_of hqM
    have hMq := hM q hq
    have hstk : (As.reverse ++ rest).map (ms_vt G) = (As.map (ms_vt G)).reverse ++ rest.map (ms_vt G) := by rw [List.map_append, List.map_reverse]
    rcases hlink with hlink | hlink
    · refine fin (va_runS S hMq ⟨callB_of v hts' (ms_good hqM) rfl rfl rfl (ms_gd C k2) hlink ⟨k4, k5, hpar⟩ ⟨hRf, by show 8 + (q.2.2.1 + 11) + 40 * d' ≤ R.locals; omega⟩, ms_gd C hf2⟩ ⟨ms_blind, ms_pre C hP hS⟩ rfl (by rw [List.length_map]; exact hlenA) hl.1 hstk (hroom _) hd hf)
    · refine fin (va_runSN S hMq ⟨va_cnB v hts' (ms_good hqM) rfl rfl rfl hlink (ms_gd C k2) ⟨k4, k5, hpar⟩ ⟨hRf, by show 8 + (q.2.2.1 + 11) + 40 * d' ≤ R.locals; omega⟩, ms_gd C hf2, trivial⟩ ⟨ms_blind, ms_pre C hP hS⟩ rfl (by rw [List.length_map]; exact hlenA) hl.1 hstk (hroom _) hd hf)
  case invokevirtual idx =>
    obtain rfl : len = 3 := eq_of_beq hlen
    obtain ⟨b, As', rfl, rfl, hlenA, hkb, hb30⟩ := hY
    obtain ⟨q, hq, hlink, hpar, hf2⟩ := key _ idx (ms_ok_r hok rfl)
    rw [Bool.and_eq_true, Bool.and_eq_true, Bool.and_eq_true, Bool.and_eq_true, Bool.and_eq_true, Bool.or_eq_true] at hf2
    obtain ⟨⟨⟨⟨⟨w1, w2⟩, w3⟩, w4⟩, w5⟩, w6⟩ := hf2
    have w6 : mm_rc u ≤ 10 ∨ mm_rc u = 30 := w6.elim (fun z => Or.inl (of_decide_eq_true z)) (fun z => Or.inr (of_decide_eq_true z))
    have hrec := ms_recv (y := u) hF hP hS (of_decide_eq_true w4) w6 (of_decide_eq_true w3) hkb hb30
    have hqM := hB u q hq hne.1 hne.2
    obtain ⟨k1, k2, k3, k4, k5, k6⟩ := ms_okM_of hqM
    have hMq := hM q hq
    have hstk : (As'.reverse ++ .ref b :: rest).map (ms_vt G) = (As'.map (ms_vt G)).reverse ++ .ref (ms_tr G b) :: rest.map (ms_vt G) := by rw [List.map_append, List.map_reverse]; rfl
    have hpre := ms_pre (As := .ref b :: As') C hP hS
    rcases hlink with hlink | hlink
    · exact fin (va_runV S hMq ⟨callB_of v hts' (ms_good hqM) rfl rfl rfl (ms_gd C k2) hlink ⟨k4, k5, hpar⟩ ⟨hRf, by show 8 + (q.2.2.1 + 11) + 40 * d' ≤ R.locals; omega⟩, ms_gd C w1, ms_gd C w2⟩ ⟨ms_blind, hrec, hpre⟩ rfl (by rw [List.length_map]; exact hlenA) hl.1 hstk (hroom _) hd hf)
    · exact fin (va_runVN S hMq ⟨va_cnB v hts' (ms_good hqM) rfl rfl rfl hlink (ms_gd C k2) ⟨k4, k5, hpar⟩ ⟨hRf, by show 8 + (q.2.2.1 + 11) + 40 * d' ≤ R.locals; omega⟩, ms_gd C w1, ms_gd C w2⟩ ⟨ms_blind, hrec, hpre⟩ rfl (by rw [List.length_map]; exact hlenA) hl.1 hstk (hroom _) hd hf)
  case invokespecial idx =>
    obtain rfl : len = 3 := eq_of_beq hlen
    obtain ⟨b, As', rfl, rfl, hlenA⟩ := hY
    have hok1 := ms_ok_r hok rfl
    rw [Bool.or_eq_true] at hok1
    have hok2 := hok1.resolve_left (fun z => by
      rw [Bool.and_eq_true, Bool.and_eq_true, Bool.and_eq_true] at z
      exact hne2 (of_decide_eq_true z.1.1.1))
    rw [Bool.and_eq_true] at hok2
    obtain ⟨q, hq, hlink, hpar, hf2⟩ := key _ idx hok2.2
    rw [Bool.and_eq_true, Bool.and_eq_true] at hf2
    obtain ⟨⟨w1, w2⟩, w3⟩ := hf2
    have w1 : q.1.name = "<init>" := of_decide_eq_true w1
    have w3 : q.2.2.2 = none := of_decide_eq_true w3
    have hqM := hB u q hq hne.1 hne.2
    obtain ⟨k1, k2, k3, k4, k5, k6⟩ := ms_okM_of hqM
    have hMq := hM q hq
    have hGd := ms_good hqM
    unfold ms_ws at hMq hGd
    rw [w3] at hMq hGd
    have hstk : (As'.reverse ++ .ref b :: rest).map (ms_vt G) = (As'.map (ms_vt G)).reverse ++ .ref (ms_tr G b) :: rest.map (ms_vt G) := by rw [List.map_append, List.map_reverse]; rfl
    have hpre := ms_pre (As := .ref b :: As') C hP hS
    rcases hlink with hlink | hlink
    · exact fin (va_runI S hMq ⟨callB_of v hts' hGd rfl rfl rfl (ms_gd C k2) hlink ⟨k4, k5, hpar⟩ ⟨hRf, by show 8 + (q.2.2.1 + 11) + 40 * d' ≤ R.locals; omega⟩, w1, ms_gd C w2⟩ ⟨ms_blind, hpre⟩ rfl (by rw [List.length_map]; exact hlenA) hl.1 hstk (hroom _) hd hf)
    · exact fin (va_runIN S hMq ⟨va_cnB v hts' hGd rfl rfl rfl hlink (ms_gd C k2) ⟨k4, k5, hpar⟩ ⟨hRf, by show 8 + (q.2.2.1 + 11) + 40 * d' ≤ R.locals; omega⟩, w1, ms_gd C w2⟩ ⟨ms_blind, hpre⟩ rfl (by rw [List.length_map]; exact hlenA) hl.1 hstk (hroom _) hd hf)
  all_goals exact False.elim hY
end MS6
