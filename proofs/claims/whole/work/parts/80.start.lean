/-! THE CLAIM OUT OF ONE WALK OF THE LAW'S BODY. Your part is whole_start (and what it stands on); all else here is the same for every law, but numbers. -/
def R_law : String := "SitterCircleLaw"
def lw_P (b : Addr) (xs : List Int32) (args : Array Value) (s : State) : Prop := args = #[.ref b] ∧ s.IntsAt b xs ∧ xs.length ≤ 2560 ∧ (Jvm.Cond.and given_1 narrow_1).before args s = true
def lw_Q (_ : Array Value) (s : State) (o : Outcome) (t : State) : Prop := o = .returned (some (.int 1)) ∧ Framed s o t [] 600000 7302250
def lw_Z (below : List Frame) (a : Array Value) (s : State) : State → Prop := fun t => ∃ o, t.status = .running ∧ Ended t below o ∧ lw_Q a s o t
/-- the law's own end, with 1 on the stack, nothing written that was there before, its room as the claim has it -/
theorem lw_ret {p : Program} {l : Launch} {e : Env} {s : State} {m : MethodId} {below : List Frame} {meth : Method} {c : Code} {b : Nat} (hx : p.tables.exec = Jvm.exec) (hb : c.code = code) (hr : meth.sig.returnType = ret) (hlocks : meth.locks = false) {pc : Nat} {H : Heap} {ls : Array Slot} (hdg : decode code pc = .ok (.ireturn, 1)) : W p l e room_1 s m #[Value.ref b] below meth c H [] 600000 7302250 (lw_Z below #[Value.ref b] s) (F0 m pc ls [.int 1]) := by
  intro T hT X
  obtain ⟨fs, hret, hrun, hended, hW, hframe⟩ := X.leave (v := some (.int 1)) (hlocks := hlocks) (fun h => by rw [hr] at h; cases h)
  have hmeth' : T.vm.method? m = some meth := X.method'
  refine ⟨T.setFrames fs, ?_, .returned (some (.int 1)), hrun, hended, rfl, ⟨_, rfl⟩, hW, hframe⟩
  jvm_step X.here [X.here.top, hx, hb, hdg, hmeth', hr, ret, narrow_b1]
  (try refine ⟨rfl, ?_⟩); (try refine ⟨rfl, ?_⟩)
  first | (intro acts; rw [hret _ acts rfl rfl rfl]) | rw [hret _ _ rfl rfl rfl]
  exact Steps.refl _
/-- what holds at the law's entry: the machine, the code, the tables' words (any of lw_tbl by 'hts w (by decide +kernel)'), the script of L ints xs at the cell b, what the Statement gives of the start (any of its parts by flat_of_before) -/
def lw_At (p : Program) (s : State) (m : MethodId) (meth : Method) (c : Code) (b L : Nat) (xs : Nat → Int32) : Prop :=
  p.tables.exec = Jvm.exec ∧ c.code = code ∧ meth.sig.returnType = ret ∧ c.maxLocals = 4 ∧ s.vm.findClass R_law = some m.cls ∧ (∀ w ∈ lw_tbl, w.before #[Value.ref b] s = true) ∧ va_X b L xs s s.heap ∧ b < s.heap.size ∧ meth.locks = false ∧ (Jvm.Cond.and given_1 narrow_1).before #[Value.ref b] s = true
/-! THE START: what the Statement gives, as the small machine's words -/
def h_0 (L : Nat) (xs : Nat → Int32) : mm_H := (fun a => if a ≤ 3 then 20 else if a ≤ 8 then 30 else 0, fun _ _ => 0, fun _ _ => none, fun a => if a = 0 then L else if a ≤ 3 then 5 else 0, fun a => if a = 0 then xs else if a = 1 then (fun i => [0, 0, 1, 0, 0].getD i 0) else if a = 2 then (fun i => [200, 47, 400, 50, 100].getD i 0) else if a = 3 then (fun i => [0, -4, -4, 0, 0].getD i 0) else (fun _ => 0), fun _ _ => none, 16, 0)
theorem ml_tab {args : Array Value} {s : State} {C n : String} {v0 v1 v2 v3 v4 : Int32} {A : Nat → Prop} (hs : ∀ w ∈ flatC (Jvm.Cond.and given_1 narrow_1), w.before args s = true) (h0 : Cond.arrayOf (.static C n "[I") .int ∈ flatC (Jvm.Cond.and given_1 narrow_1)) (h1 : Cond.eq (.length (.static C n "[I")) (.int 5) ∈ flatC (Jvm.Cond.and given_1 narrow_1))
    (e0 : Cond.eq (.elem (.static C n "[I") (.int 0)) (.int v0) ∈ flatC (Jvm.Cond.and given_1 narrow_1)) (e1 : Cond.eq (.elem (.static C n "[I") (.int 1)) (.int v1) ∈ flatC (Jvm.Cond.and given_1 narrow_1)) (e2 : Cond.eq (.elem (.static C n "[I") (.int 2)) (.int v2) ∈ flatC (Jvm.Cond.and given_1 narrow_1)) (e3 : Cond.eq (.elem (.static C n "[I") (.int 3)) (.int v3) ∈ flatC (Jvm.Cond.and given_1 narrow_1)) (e4 : Cond.eq (.elem (.static C n "[I") (.int 4)) (.int v4) ∈ flatC (Jvm.Cond.and given_1 narrow_1))
    (hl : (Cond.laysStatic C n "[I").before args s = true) (hini : (Cond.initialized C).before args s = true) (hA : ∀ a : Nat, a < s.heap.size → ¬ A a) : ∃ t : Nat, va_Z C n "[I" (.ref t) A s s.heap ∧ va_T .int t 5 (fun j => .int ([v0, v1, v2, v3, v4].getD j 0)) A s s.heap := by
  obtain ⟨t, ht, hT⟩ := va_Tof (N := 5) (f := fun j => .int ([v0, v1, v2, v3, v4].getD j 0)) (A := A) (by decide) (hs _ h0) (va_eqt (hs _ h1)) (fun j hj => by
    have hj5 : j = 0 ∨ j = 1 ∨ j = 2 ∨ j = 3 ∨ j = 4 := by omega
    rcases hj5 with rfl | rfl | rfl | rfl | rfl
    · exact va_eqt (hs _ e0)
    · exact va_eqt (hs _ e1)
    · exact va_eqt (hs _ e2)
    · exact va_eqt (hs _ e3)
    · exact va_eqt (hs _ e4)) hA
  exact ⟨t, va_Zref hl hini ht hA, hT⟩
theorem ml_arr {args : Array Value} {s : State} {ty : FieldType} (hp : ∀ C, ty ≠ .object C) (h : (Cond.arrayClass ty).before args s = true) : ∃ cA : ClassId, ArrOfT s cA ty ∧ va_RA s cA ty := by
  obtain ⟨cA, kA, comp, h1, h2, h3⟩ := Cond.arrayClass_spec h
  refine ⟨cA, fun n z => ⟨(fun k h => by cases h), kA, h2, comp, h3⟩, ?_⟩
  cases ty
  case object C => exact absurd rfl (hp C)
  all_goals exact h1
theorem ml_arrO {s : State} {C : String} (h : va_AO C s) : ∃ cA : ClassId, ArrOfT s cA (.object C) ∧ va_RA s cA (.object C) := by
  obtain ⟨comp, c, k, h1, h2, h3, h4, h5⟩ := Cond.arrayOver_spec h
  exact ⟨c, fun n z => ⟨(fun k h => by cases h), k, h3, comp, h4⟩, k, comp, h3, h4, h1, h5⟩
theorem ml_arrA {s : State} (h : ms_AA s) : ∃ cA : ClassId, ArrOfT s cA (.array .int) ∧ va_RA s cA (.array .int) := by
  obtain ⟨comp, c, k, h1, h2, h3, h4, h5⟩ := arrayOverA_spec h
  exact ⟨c, fun n z => ⟨(fun k h => by cases h), k, h3, comp, h4⟩, h5⟩
set_option maxHeartbeats 4000000 in
set_option maxRecDepth 20000 in
theorem ml_env {s : State} {b L : Nat} {xs : Nat → Int32} (hts : ∀ w ∈ lw_tbl, w.before #[Value.ref b] s = true) (hX : va_X b L xs s s.heap) (hbl : b < s.heap.size) (hgv : (Jvm.Cond.and given_1 narrow_1).before #[Value.ref b] s = true) : ∃ G : ms_G, ms_F G s ∧ ms_P G (h_0 L xs) s.heap ∧ g_sp G 0 = b ∧ g_b G = s.heap.size := by
  have hs := flat_of_before _ hgv
  have hA : ∀ a : Nat, a < s.heap.size → ¬ (fun q : Nat => s.heap.size ≤ q) a := fun a h z => absurd h (Nat.not_lt.mpr z)
  have hin : ∀ (ci : Nat) (q : vw_C), vwCl[ci]? = some q → ∀ w ∈ u_ws q.1 q.2.1 q.2.2, w ∈ lw_tbl := fun ci q hc w hw => (List.mem_filter.mp (ms_lay ci q hc w hw)).1
  obtain ⟨c0, iS0, hK0⟩ := u_known (C := RX0) (T := TX0) (N := 5) (n := 5) hts (hin 0 _ rfl) (hts (.instantiable RX0 5) (by decide +kernel))
  obtain ⟨c1, iS1, hK1⟩ := u_known (C := RX1) (T := TX1) (N := 3) (n := 3) hts (hin 1 _ rfl) (hts (.instantiable RX1 3) (by decide +kernel))
  obtain ⟨c2, iS2, hK2⟩ := u_known (C := RX2) (T := TX2) (N := 8) (n := 8) hts (hin 2 _ rfl) (hts (.instantiable RX2 8) (by decide +kernel))
  obtain ⟨c3, iS3, hK3⟩ := u_known (C := RX3) (T := TX3) (N := 4) (n := 4) hts (hin 3 _ rfl) (hts (.instantiable RX3 4) (by decide +kernel))
  obtain ⟨c4, iS4, hK4⟩ := u_known (C := RX4) (T := TX4) (N := 7) (n := 7) hts (hin 4 _ rfl) (hts (.instantiable RX4 7) (by decide +kernel))
  obtain ⟨c5, iS5, hK5⟩ := u_known (C := RX5) (T := TX5) (N := 2) (n := 2) hts (hin 5 _ rfl) (hts (.instantiable RX5 2) (by decide +kernel))
  obtain ⟨c6, iS6, hK6⟩ := u_known (C := RX6) (T := TX6) (N := 2) (n := 2) hts (hin 6 _ rfl) (hts (.instantiable RX6 2) (by decide +kernel))
  obtain ⟨c7, iS7, hK7⟩ := u_known (C := RX7) (T := TX7) (N := 4) (n := 4) hts (hin 7 _ rfl) (hts (.instantiable RX7 4) (by decide +kernel))
  obtain ⟨c8, iS8, hK8⟩ := u_known (C := RX8) (T := TX8) (N := 14) (n := 14) hts (hin 8 _ rfl) (hts (.instantiable RX8 14) (by decide +kernel))
  obtain ⟨c9, iS9, hK9⟩ := u_known (C := RX9) (T := TX9) (N := 41) (n := 41) hts (hin 9 _ rfl) (hts (.instantiable RX9 41) (by decide +kernel))
  obtain ⟨a0, hA0⟩ := ml_arr (ty := .int) (fun C h => by cases h) (hts (.arrayClass .int) (by decide +kernel))
  obtain ⟨a1, hA1⟩ := ml_arr (ty := .byte) (fun C h => by cases h) (hts (.arrayClass .byte) (by decide +kernel))
  obtain ⟨a2, hA2⟩ := ml_arr (ty := .boolean) (fun C h => by cases h) (hts (.arrayClass .boolean) (by decide +kernel))
  have hAO1 : va_AO "SitterCircle$Family" s := va_AO.of (hts (.arrayOver (.object "SitterCircle$Family")) (by decide +kernel))
  have hAO2 : va_AO "SitterCircle$Row" s := va_AO.of (hts (.arrayOver (.object "SitterCircle$Row")) (by decide +kernel))
  have hAA : ms_AA s := hts (.arrayOver (.array .int)) (by decide +kernel)
  obtain ⟨a3, hA3⟩ := ml_arrO hAO1
  obtain ⟨a4, hA4⟩ := ml_arrO hAO2
  obtain ⟨a5, hA5⟩ := ml_arrA hAA
  obtain ⟨t1, hZ1, hT1⟩ := ml_tab (C := "SitterCircle$Reader") (n := "LEAST") (v0 := 0) (v1 := 0) (v2 := 1) (v3 := 0) (v4 := 0) (A := fun q : Nat => s.heap.size ≤ q) hs (by decide +kernel) (by decide +kernel) (by decide +kernel) (by decide +kernel) (by decide +kernel) (by decide +kernel) (by decide +kernel) (hts _ (by decide +kernel)) (hts _ (by decide +kernel)) hA
  obtain ⟨t2, hZ2, hT2⟩ := ml_tab (C := "SitterCircle$Reader") (n := "MOST") (v0 := 200) (v1 := 47) (v2 := 400) (v3 := 50) (v4 := 100) (A := fun q : Nat => s.heap.size ≤ q) hs (by decide +kernel) (by decide +kernel) (by decide +kernel) (by decide +kernel) (by decide +kernel) (by decide +kernel) (by decide +kernel) (hts _ (by decide +kernel)) (hts _ (by decide +kernel)) hA
  obtain ⟨t3, hZ3, hT3⟩ := ml_tab (C := "SitterCircle$Lawbook") (n := "WITHOUT") (v0 := 0) (v1 := -4) (v2 := -4) (v3 := 0) (v4 := 0) (A := fun q : Nat => s.heap.size ≤ q) hs (by decide +kernel) (by decide +kernel) (by decide +kernel) (by decide +kernel) (by decide +kernel) (by decide +kernel) (by decide +kernel) (hts _ (by decide +kernel)) (hts _ (by decide +kernel)) hA
  have five : ∀ {P : Nat → Prop}, P 0 → P 1 → P 2 → P 3 → P 4 → ∀ i, i < 5 → P i := fun p0 p1 p2 p3 p4 i hi => by
    have h5 : i = 0 ∨ i = 1 ∨ i = 2 ∨ i = 3 ∨ i = 4 := by omega
    rcases h5 with rfl | rfl | rfl | rfl | rfl
    · exact p0
    · exact p1
    · exact p2
    · exact p3
    · exact p4
  obtain ⟨adK, adV, hSt, hev⟩ := vk_Sof (args := #[Value.ref b]) (s := s) (N := 5) (tm := fun i => .string "SitterCircle$Reader" ([93, 95, 97, 99, 101].getD i 0)) (len := [5, 6, 6, 4, 4]) (byt := ms_tb) (A := fun q : Nat => s.heap.size ≤ q)
    (five (by decide) (by decide) (by decide) (by decide) (by decide))
    (five (hs _ (by decide +kernel)) (hs _ (by decide +kernel)) (hs _ (by decide +kernel)) (hs _ (by decide +kernel)) (hs _ (by decide +kernel)))
    (five (hs _ (by decide +kernel)) (hs _ (by decide +kernel)) (hs _ (by decide +kernel)) (hs _ (by decide +kernel)) (hs _ (by decide +kernel)))
    (five (hs _ (by decide +kernel)) (hs _ (by decide +kernel)) (hs _ (by decide +kernel)) (hs _ (by decide +kernel)) (hs _ (by decide +kernel)))
    (five (hs _ (by decide +kernel)) (hs _ (by decide +kernel)) (hs _ (by decide +kernel)) (hs _ (by decide +kernel)) (hs _ (by decide +kernel)))
    (five (fun j hj => by
      have hj5 : j = 0 ∨ j = 1 ∨ j = 2 ∨ j = 3 ∨ j = 4 := by
        have hj : j < 5 := hj
        omega
      rcases hj5 with rfl | rfl | rfl | rfl | rfl
      · exact hs _ (by decide +kernel)
      · exact hs _ (by decide +kernel)
      · exact hs _ (by decide +kernel)
      · exact hs _ (by decide +kernel)
      · exact hs _ (by decide +kernel))
    (fun j hj => by
      have hj5 : j = 0 ∨ j = 1 ∨ j = 2 ∨ j = 3 ∨ j = 4 ∨ j = 5 := by
        have hj : j < 6 := hj
        omega
      rcases hj5 with rfl | rfl | rfl | rfl | rfl | rfl
      · exact hs _ (by decide +kernel)
      · exact hs _ (by decide +kernel)
      · exact hs _ (by decide +kernel)
      · exact hs _ (by decide +kernel)
      · exact hs _ (by decide +kernel)
      · exact hs _ (by decide +kernel))
    (fun j hj => by
      have hj5 : j = 0 ∨ j = 1 ∨ j = 2 ∨ j = 3 ∨ j = 4 ∨ j = 5 := by
        have hj : j < 6 := hj
        omega
      rcases hj5 with rfl | rfl | rfl | rfl | rfl | rfl
      · exact hs _ (by decide +kernel)
      · exact hs _ (by decide +kernel)
      · exact hs _ (by decide +kernel)
      · exact hs _ (by decide +kernel)
      · exact hs _ (by decide +kernel)
      · exact hs _ (by decide +kernel))
    (fun j hj => by
      have hj5 : j = 0 ∨ j = 1 ∨ j = 2 ∨ j = 3 := by
        have hj : j < 4 := hj
        omega
      rcases hj5 with rfl | rfl | rfl | rfl
      · exact hs _ (by decide +kernel)
      · exact hs _ (by decide +kernel)
      · exact hs _ (by decide +kernel)
      · exact hs _ (by decide +kernel))
    (fun j hj => by
      have hj5 : j = 0 ∨ j = 1 ∨ j = 2 ∨ j = 3 := by
        have hj : j < 4 := hj
        omega
      rcases hj5 with rfl | rfl | rfl | rfl
      · exact hs _ (by decide +kernel)
      · exact hs _ (by decide +kernel)
      · exact hs _ (by decide +kernel)
      · exact hs _ (by decide +kernel)))
    (fun i j hi hj hij => by
      have h5 : (i = 0 ∨ i = 1 ∨ i = 2 ∨ i = 3 ∨ i = 4) ∧ (j = 0 ∨ j = 1 ∨ j = 2 ∨ j = 3 ∨ j = 4) := by omega
      obtain ⟨h1, h2⟩ := h5
      rcases h1 with rfl | rfl | rfl | rfl | rfl <;> rcases h2 with rfl | rfl | rfl | rfl | rfl <;> first
        | exact absurd rfl hij
        | exact Or.inl (hs _ (by decide +kernel))
        | exact Or.inr (hs _ (by decide +kernel))) hA
  have hZC := va_Zof (C := "java/lang/String") (n := "COMPACT_STRINGS") (d := "Z") (v := .int 1) (A := fun q : Nat => s.heap.size ≤ q) (hts _ (by decide +kernel)) (hts _ (by decide +kernel)) (va_eqi (hs _ (by decide +kernel))) hA
  have hZQ := va_Zqof (C := "jdk/internal/util/Preconditions") (n := "SIOOBE_FORMATTER") (d := "Ljava/util/function/BiFunction;") (A := fun q : Nat => s.heap.size ≤ q) (hts _ (by decide +kernel)) (hts _ (by decide +kernel)) (hs _ (by decide +kernel)) hA
  have lt_of : ∀ {t N : Nat} {ty : FieldType} {f : Nat → Value}, va_T ty t N f (fun q : Nat => s.heap.size ≤ q) s s.heap → t < s.heap.size := fun h => by
    obtain ⟨cell, h1, -⟩ := h
    exact (Array.getElem?_eq_some_iff.mp h1).1
  have ltK : ∀ i, i < 5 → adK i < s.heap.size := fun i hi => by
    obtain ⟨⟨cell, h1, -⟩, -⟩ := hSt.1 i hi
    exact (Array.getElem?_eq_some_iff.mp h1).1
  have l1 := lt_of hT1
  have l2 := lt_of hT2
  have l3 := lt_of hT3
  refine ⟨(fun k => [c0, c1, c2, c3, c4, c5, c6, c7, c8, c9].getD k c0, fun k => [iS0, iS1, iS2, iS3, iS4, iS5, iS6, iS7, iS8, iS9].getD k iS0, fun k => if k = 20 then a0 else if k = 21 then a1 else if k = 22 then a2 else if k = 23 then a3 else if k = 24 then a4 else a5, s.heap.size, fun a => if a = 0 then b else if a = 1 then t1 else if a = 2 then t2 else if a = 3 then t3 else if a ≤ 8 then adK (a - 4) else b, h_kd (h_0 L xs), h_al (h_0 L xs), h_ai (h_0 L xs)), ?_, ?_, rfl, rfl⟩
  · refine ⟨⟨?_, ?_⟩, fun w hw hn => ?_, hAO1, hAO2, hAA, hZ1, hZ2, hZ3, ⟨?_, ⟨adV, ?_⟩, hZC, hZQ⟩, ?_, ?_, Nat.le_refl _⟩
    · intro k q hq
      match k, hq with
      | 0, hq => cases hq; exact hK0
      | 1, hq => cases hq; exact hK1
      | 2, hq => cases hq; exact hK2
      | 3, hq => cases hq; exact hK3
      | 4, hq => cases hq; exact hK4
      | 5, hq => cases hq; exact hK5
      | 6, hq => cases hq; exact hK6
      | 7, hq => cases hq; exact hK7
      | 8, hq => cases hq; exact hK8
      | 9, hq => cases hq; exact hK9
      | k + 10, hq => simp [vwCl] at hq
    · intro k q hq
      match k, hq with
      | 0, hq => cases hq; exact hA0
      | 1, hq => cases hq; exact hA1
      | 2, hq => cases hq; exact hA2
      | 3, hq => cases hq; exact hA3
      | 4, hq => cases hq; exact hA4
      | 5, hq => cases hq; exact hA5
      | k + 6, hq => simp [ms_tys] at hq
    · have h9 := hts w hw
      cases w
      case fieldLinkNest a i b n d h => exact va_Nw.of rfl h9
      case methodLinkNest a i x h => exact va_Nw.of rfl h9
      all_goals exact absurd hn Bool.false_ne_true
    · intro i q hq
      match i, hq with
      | 0, hq => cases hq; exact vk_R.of (hts _ (by decide +kernel)) (hev 0 (by decide))
      | 1, hq => cases hq; exact vk_R.of (hts _ (by decide +kernel)) (hev 1 (by decide))
      | 2, hq => cases hq; exact vk_R.of (hts _ (by decide +kernel)) (hev 2 (by decide))
      | 3, hq => cases hq; exact vk_R.of (hts _ (by decide +kernel)) (hev 3 (by decide))
      | 4, hq => cases hq; exact vk_R.of (hts _ (by decide +kernel)) (hev 4 (by decide))
      | i + 5, hq => simp [ms_tl] at hq
    · have ek : ∀ i, i < 5 → (if 4 + i = 0 then b else if 4 + i = 1 then t1 else if 4 + i = 2 then t2 else if 4 + i = 3 then t3 else if 4 + i ≤ 8 then adK (4 + i - 4) else b) = adK i := fun i hi => by
        rw [if_neg (by omega), if_neg (by omega), if_neg (by omega), if_neg (by omega), if_pos (by omega)]
        congr 1
        omega
      refine ⟨fun i hi => ?_, fun i j hi hj e => ?_⟩
      · have h9 := hSt.1 i hi
        rw [← ek i hi] at h9
        exact h9
      · have e : (if 4 + i = 0 then b else if 4 + i = 1 then t1 else if 4 + i = 2 then t2 else if 4 + i = 3 then t3 else if 4 + i ≤ 8 then adK (4 + i - 4) else b) = (if 4 + j = 0 then b else if 4 + j = 1 then t1 else if 4 + j = 2 then t2 else if 4 + j = 3 then t3 else if 4 + j ≤ 8 then adK (4 + j - 4) else b) := e
        rw [ek i hi, ek j hj] at e
        exact hSt.2 i j hi hj e
    · intro a ha
      refine ⟨?_, ?_⟩
      · show (if a = 0 then b else if a = 1 then t1 else if a = 2 then t2 else if a = 3 then t3 else if a ≤ 8 then adK (a - 4) else b) < s.heap.size
        split
        · exact hbl
        · split
          · exact l1
          · split
            · exact l2
            · split
              · exact l3
              · split
                · exact ltK _ (by omega)
                · exact hbl
      · show (if a ≤ 3 then 20 else if a ≤ 8 then 30 else 0) = 0 ∨ _
        by_cases h1 : a ≤ 3
        · right; left
          show (if a ≤ 3 then 20 else if a ≤ 8 then 30 else 0) = 20
          rw [if_pos h1]
        · by_cases h2 : a ≤ 8
          · right; right
            refine ⟨?_, by omega, h2⟩
            show (if a ≤ 3 then 20 else if a ≤ 8 then 30 else 0) = 30
            rw [if_neg h1, if_pos h2]
          · left
            rw [if_neg h1, if_neg h2]
    · intro a ha hk
      have hk : (if a ≤ 3 then 20 else if a ≤ 8 then 30 else 0) = 20 := hk
      have h3 : a ≤ 3 := by
        by_cases h1 : a ≤ 3
        · exact h1
        · rw [if_neg h1] at hk
          split at hk <;> omega
      have h4 : a = 0 ∨ a = 1 ∨ a = 2 ∨ a = 3 := by omega
      rcases h4 with rfl | rfl | rfl | rfl
      · obtain ⟨scr, g1, g2, g3, g4, g5⟩ := hX
        exact ⟨scr, g1, g2, g3, Nat.le_of_eq g4.symm, by rw [g4]; rfl, g5, hA b hbl⟩
      · exact hT1
      · exact hT2
      · exact hT3
  · refine ⟨by show s.heap.size = s.heap.size + (16 - 16); omega, Nat.le_refl _, fun a h1 => ?_, fun a _ => ⟨rfl, rfl, rfl⟩, fun a ci q h1 h2 _ => ?_, fun a h1 h2 _ => ?_, fun a h1 h2 _ => ?_⟩
    · have h1 : 16 ≤ a := h1
      show (if a ≤ 3 then 20 else if a ≤ 8 then 30 else 0) = 0
      rw [if_neg (by omega), if_neg (by omega)]
    · have h2 : (if a ≤ 3 then 20 else if a ≤ 8 then 30 else 0) = ci + 1 := h2
      rw [if_neg (by omega), if_neg (by omega)] at h2
      omega
    · have h2 : 20 ≤ (if a ≤ 3 then 20 else if a ≤ 8 then 30 else 0) := h2
      rw [if_neg (by omega), if_neg (by omega)] at h2
      omega
    · have h2 : 23 ≤ (if a ≤ 3 then 20 else if a ≤ 8 then 30 else 0) := h2
      rw [if_neg (by omega), if_neg (by omega)] at h2
      omega
set_option maxHeartbeats 4000000 in
/-- THE LAW, given its run on the small machine -/
theorem ml_start {p : Program} {e : Env} {s : State} {m : MethodId} {below : List Frame} {meth : Method} {c : Code} (l : Launch) {b L : Nat} {xs : Nat → Int32} (hAll : ms_All) (hB : ms_okB) (hBI : ∀ G, ms_BI G l) (hlaw : ∀ q ∈ mc_L_law, ms_ok RL false code q = true) (hrun : w_p 1000 (99, 4, mc_L_law) 0 [(0, .ref 0)] [] (h_0 L xs) (fun r h => r = some (.int 1) ∧ h_n h ≤ 600016 ∧ h_s h ≤ 7302250)) (C0 : lw_At p s m meth c b L xs) : W p l e room_1 s m #[Value.ref b] below meth c s.heap [] 0 0 (lw_Z below #[Value.ref b] s) (entryFrame m ([Value.ref b] : List Value).toArray 4) := by
  obtain ⟨hx, hb, hr, hml, hown, hts, hX, hbl, hlocks, hgv⟩ := id C0
  obtain ⟨G, hF, hP, e1, e2⟩ := ml_env hts hX hbl hgv
  obtain ⟨n, r, hR, hr1, hr2, hr3⟩ := hrun
  have C : ms_C G p s m #[Value.ref b] c code 4 RL := ⟨hx, hb, hml, hown, fun w hw _ => hts w hw, hF⟩
  have hl := lv_entry ([.ref b]) (n := 4) (Nat.le_of_ble_eq_true rfl)
  rw [lg_entry_eq]
  generalize (lg_sl ([.ref b]) ++ List.replicate (4 - (lg_sl ([.ref b])).length) Slot.unset).toArray = ls at hl ⊢
  have hl : lv_has ls 4 (ms_lt G [(0, .ref 0)]) := by
    have e3 : ms_lt G [(0, .ref 0)] = lv_args 0 [.ref b] := by
      show [(0, Value.ref (ms_tr G 0))] = [(0, Value.ref b)]
      rw [show ms_tr G 0 = g_sp G 0 from if_pos (by decide), e1]
    rw [e3]
    exact hl
  refine ms_main hAll (hBI G) hB n 1000 (99, 4, mc_L_law) 0 [(0, .ref 0)] [] (h_0 L xs) r hR C (ini := false) (fun z => by cases z) rfl hlaw hl hP va_S.rf (n0 := 16) (s0 := 0) rfl rfl (Nat.le_of_ble_eq_true rfl) (Nat.le_of_ble_eq_true rfl) (by show h_n r.2 ≤ 16 + 600000; omega) (by show h_s r.2 ≤ 0 + 7302250; omega) ?_
  intro pc' en st' H' locs' cells' slots' ls' hin hd hlen hZ hP' hS' hc1 hc2
  obtain ⟨i, len, u, v⟩ := en
  cases i
  case ireturn =>
    obtain rfl : len = 1 := eq_of_beq hlen
    obtain ⟨x, rfl, h01, hr4⟩ := hZ
    rw [hr1] at hr4
    have hx1 : x = 1 := by
      have h5 : Value.int 1 = Value.int x := Option.some.inj hr4
      exact (Value.int.inj h5).symm
    subst hx1
    refine va_forget (fun q hq => ?_) ?_
    · have := hS'.2.2 q hq
      have h9 : g_b G ≤ q.base := this
      rw [e2] at h9
      exact h9
    · refine W.widen (k := 600000) (n := 7302250) (by omega) (by omega) ?_
      exact lw_ret hx hb hr hlocks hd
  case return_ =>
    obtain ⟨-, hr4⟩ := hZ
    rw [hr1] at hr4
    cases hr4
  case areturn =>
    obtain ⟨q, -, hr4⟩ := hZ
    rw [hr1] at hr4
    cases q with
    | none => cases hr4
    | some a => cases hr4
  all_goals exact False.elim hZ
