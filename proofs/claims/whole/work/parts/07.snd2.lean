/-! SOUNDNESS, 2: the heap -/
def ms_fty (ci : Nat) : Nat → FieldType := match ci with
  | 0 => tyX0
  | 1 => tyX1
  | 2 => tyX2
  | 3 => tyX3
  | 4 => tyX4
  | 5 => tyX5
  | 6 => tyX6
  | 7 => tyX7
  | 8 => tyX8
  | _ => tyX9
theorem ms_cl {P : Nat → vw_C → Prop} (h0 : P 0 (RX0, TX0, 5)) (h1 : P 1 (RX1, TX1, 3)) (h2 : P 2 (RX2, TX2, 8)) (h3 : P 3 (RX3, TX3, 4)) (h4 : P 4 (RX4, TX4, 7)) (h5 : P 5 (RX5, TX5, 2)) (h6 : P 6 (RX6, TX6, 2)) (h7 : P 7 (RX7, TX7, 4)) (h8 : P 8 (RX8, TX8, 14)) (h9 : P 9 (RX9, TX9, 41)) : ∀ (ci : Nat) (q : vw_C), vwCl[ci]? = some q → P ci q := by
  intro ci q hq
  match ci, hq with
  | 0, hq => cases hq; exact h0
  | 1, hq => cases hq; exact h1
  | 2, hq => cases hq; exact h2
  | 3, hq => cases hq; exact h3
  | 4, hq => cases hq; exact h4
  | 5, hq => cases hq; exact h5
  | 6, hq => cases hq; exact h6
  | 7, hq => cases hq; exact h7
  | 8, hq => cases hq; exact h8
  | 9, hq => cases hq; exact h9
  | ci + 10, hq => simp [vwCl] at hq
def ms_TS : List Cond := lw_tbl.filter goodWord
theorem ms_lay : ∀ (ci : Nat) (q : vw_C), vwCl[ci]? = some q → ∀ w ∈ u_ws q.1 q.2.1 q.2.2, w ∈ ms_TS := by
  have key : ∀ (ws : List Cond), ws.all ms_gw = true → ∀ w ∈ ws, w ∈ ms_TS := fun ws h w hw => by
    have h1 := ms_gw_of (List.all_eq_true.mp h w hw)
    exact List.mem_filter.mpr h1
  exact ms_cl (P := fun ci q => ∀ w ∈ u_ws q.1 q.2.1 q.2.2, w ∈ ms_TS) (key _ (by decide +kernel)) (key _ (by decide +kernel)) (key _ (by decide +kernel)) (key _ (by decide +kernel)) (key _ (by decide +kernel)) (key _ (by decide +kernel)) (key _ (by decide +kernel)) (key _ (by decide +kernel)) (key _ (by decide +kernel)) (key _ (by decide +kernel))
theorem ms_tyok : ∀ (ci : Nat) (q : vw_C), vwCl[ci]? = some q → ∀ k, k < q.2.2 → parseFieldDescriptor (q.2.1 k).2.2.1 = some (ms_fty ci k) := ms_cl (P := fun ci q => ∀ k, k < q.2.2 → parseFieldDescriptor (q.2.1 k).2.2.1 = some (ms_fty ci k)) tyX0_ok tyX1_ok tyX2_ok tyX3_ok tyX4_ok tyX5_ok tyX6_ok tyX7_ok tyX8_ok tyX9_ok
theorem ms_nmok : ∀ (ci : Nat) (q : vw_C), vwCl[ci]? = some q → ∀ a, a < q.2.2 → ∀ b, b < q.2.2 → a ≠ b → (q.2.1 a).2.1 ≠ (q.2.1 b).2.1 := ms_cl (P := fun ci q => ∀ a, a < q.2.2 → ∀ b, b < q.2.2 → a ≠ b → (q.2.1 a).2.1 ≠ (q.2.1 b).2.1) nmX0 nmX1 nmX2 nmX3 nmX4 nmX5 nmX6 nmX7 nmX8 nmX9
theorem ms_riok : ∀ (ci : Nat) (q : vw_C), vwCl[ci]? = some q → ∀ k, k < q.2.2 → (if mm_ri ci k = true then (defaultValue (ms_fty ci k) = .null ∧ (ms_fty ci k).isReference = true) else ms_fty ci k = .int) := ms_cl (P := fun ci q => ∀ k, k < q.2.2 → (if mm_ri ci k = true then (defaultValue (ms_fty ci k) = .null ∧ (ms_fty ci k).isReference = true) else ms_fty ci k = .int)) (by decide +kernel) (by decide +kernel) (by decide +kernel) (by decide +kernel) (by decide +kernel) (by decide +kernel) (by decide +kernel) (by decide +kernel) (by decide +kernel) (by decide +kernel)
theorem ms_N : ∀ (ci : Nat) (q : vw_C), vwCl[ci]? = some q → ci < 10 := ms_cl (P := fun ci _ => ci < 10) (by decide) (by decide) (by decide) (by decide) (by decide) (by decide) (by decide) (by decide) (by decide) (by decide)
theorem ms_hts {G : ms_G} {p : Program} {s : State} {m : MethodId} {args : Array Value} {c : Code} {cc : ByteArray} {nL : Nat} {own : String} (C : ms_C G p s m args c cc nL own) : ∀ w ∈ ms_TS, w.before args s = true := fun w hw => C.2.2.2.2.1 w (List.mem_filter.mp hw).1 (List.mem_filter.mp hw).2
def ms_sp (G : ms_G) : Prop := ∀ a, a < 16 → g_sp G a < g_b G
theorem ms_tr_hi {G : ms_G} {a : Nat} (h : 16 ≤ a) : ms_tr G a = g_b G + (a - 16) := if_neg (by omega)
theorem ms_tr_A {G : ms_G} {a : Nat} (h : 16 ≤ a) : ms_A G (ms_tr G a) := by rw [ms_tr_hi h]; exact Nat.le_add_right _ _
theorem ms_ne {G : ms_G} (hsp : ms_sp G) {a b : Nat} (hb : 16 ≤ b) (hne : a ≠ b) : ms_tr G a ≠ ms_tr G b := by
  rw [ms_tr_hi hb]
  by_cases h : a < 16
  · have := hsp a h
    unfold ms_tr
    rw [if_pos h]
    omega
  · rw [ms_tr_hi (by omega)]
    omega
theorem ms_lt_n {G : ms_G} {h : mm_H} {H : Heap} (hP : ms_P G h H) {a : Nat} (hk : h_kd h a ≠ 0) : a < h_n h := by
  rcases Nat.lt_or_ge a (h_n h) with q | q
  · exact q
  · exact absurd (hP.2.2.1 a q) hk
theorem ms_tr_lt {G : ms_G} (hsp : ms_sp G) {h : mm_H} {H : Heap} (hP : ms_P G h H) {a : Nat} (ha : a < h_n h) : ms_tr G a < H.size := by
  rw [hP.1]
  by_cases q : a < 16
  · have := hsp a q
    unfold ms_tr
    rw [if_pos q]
    omega
  · rw [ms_tr_hi (by omega)]
    have := hP.2.1
    omega
theorem ms_tr_n {G : ms_G} {h : mm_H} {H : Heap} (hP : ms_P G h H) : ms_tr G (h_n h) = H.size := by rw [ms_tr_hi hP.2.1, hP.1]
/-- an object is never among the given -/
theorem ms_obj_hi {G : ms_G} {U : State} (hF : ms_F G U) {h : mm_H} {H : Heap} (hP : ms_P G h H) {a ci : Nat} {q : vw_C} (hk : h_kd h a = ci + 1) (hc : vwCl[ci]? = some q) : 16 ≤ a := by
  rcases Nat.lt_or_ge a 16 with z | z
  · have h1 := (hP.2.2.2.1 a z).1
    have h2 := (hF.2.2.2.2.2.2.2.2.2.1 a z).2
    have h3 := ms_N ci q hc
    omega
  · exact z
def ms_fs (G : ms_G) (h : mm_H) (ci N a : Nat) : List Value := (List.range N).map (fun k => ms_vt G (mm_fv h ci k a))
theorem ms_fs_V {G : ms_G} {h : mm_H} {ci N a k : Nat} (hk : k < N) : vp_V (ms_fs G h ci N a) k = ms_vt G (mm_fv h ci k a) := by
  unfold vp_V ms_fs
  simp [hk]
theorem ms_one {G : ms_G} {h : mm_H} {H : Heap} (hP : ms_P G h H) {a ci : Nat} {q : vw_C} (ha : 16 ≤ a) (hk : h_kd h a = ci + 1) (hc : vwCl[ci]? = some q) : va_P (g_dC G, g_dI G) vwCl [(ms_tr G a, .inr (ci, ms_fs G h ci q.2.2 a))] H := by
  intro k x hx
  match k, hx with
  | 0, hx =>
    cases hx
    exact ⟨q, hc, (hP.2.2.2.2.1 a ci q ha hk hc).to (fun k hk => (ms_fs_V hk).symm)⟩
  | k + 1, hx => simp at hx
theorem ms_fv_up {h : mm_H} {g a0 : Nat} {v : Int32} {ci k a : Nat} (hne : a ≠ a0) : mm_fv (h_sI h g a0 v) ci k a = mm_fv h ci k a := by
  show (if mm_ri ci k = true then va_rf (h_or h (64 * ci + k) a) else .int (va_up (h_oi h) g (va_up (h_oi h g) a0 v) (64 * ci + k) a)) = (if mm_ri ci k = true then va_rf (h_or h (64 * ci + k) a) else .int (h_oi h (64 * ci + k) a))
  by_cases e : 64 * ci + k = g
  · subst e; rw [va_up_self, va_up_ne _ _ hne]
  · rw [va_up_ne _ _ e]
theorem ms_fv_upR {h : mm_H} {g a0 : Nat} {v : Option Nat} {ci k a : Nat} (hne : a ≠ a0) : mm_fv (h_sR h g a0 v) ci k a = mm_fv h ci k a := by
  show (if mm_ri ci k = true then va_rf (va_up (h_or h) g (va_up (h_or h g) a0 v) (64 * ci + k) a) else .int (h_oi h (64 * ci + k) a)) = (if mm_ri ci k = true then va_rf (h_or h (64 * ci + k) a) else .int (h_oi h (64 * ci + k) a))
  by_cases e : 64 * ci + k = g
  · subst e; rw [va_up_self, va_up_ne _ _ hne]
  · rw [va_up_ne _ _ e]
theorem ms_P.put {G : ms_G} (hsp : ms_sp G) {h h' : mm_H} {H H' : Heap} (hP : ms_P G h H) {a0 ci : Nat} {q : vw_C} (ha : 16 ≤ a0) (hk : h_kd h a0 = ci + 1) (hc : vwCl[ci]? = some q) (hz : H'.size = H.size) (ho : ∀ x : Nat, x ≠ ms_tr G a0 → H'[x]? = H[x]?)
    (e1 : h_kd h' = h_kd h) (e2 : h_al h' = h_al h) (e3 : h_ai h' = h_ai h) (e4 : h_ar h' = h_ar h) (e5 : h_n h' = h_n h) (hf : ∀ c k a, a ≠ a0 → mm_fv h' c k a = mm_fv h c k a)
    (hob : t_OB (ms_tr G a0) (g_dC G ci) q.2.2 (g_dI G ci) H' (fun k => ms_vt G (mm_fv h' ci k a0))) : ms_P G h' H' := by
  obtain ⟨p1, p2, p3, p4, p5, p6, p7⟩ := hP
  unfold ms_P
  rw [e1, e2, e3, e4, e5]
  refine ⟨by rw [hz]; exact p1, p2, p3, p4, fun a c r h1 h2 h3 => ?_, fun a h1 h2 h3 => ?_, fun a h1 h2 h3 => ?_⟩
  · by_cases e : a = a0
    · subst e
      have : c = ci := by omega
      subst this
      cases hc.symm.trans h3
      exact hob
    · refine ((p5 a c r h1 h2 h3).kept (ho _ (ms_ne hsp ha e))).to (fun k _ => ?_)
      rw [hf c k a e]
  · have e : a ≠ a0 := fun z => by
      subst z
      have := ms_N ci q hc
      omega
    rw [ho _ (ms_ne hsp ha e)]
    exact p6 a h1 h2 h3
  · have e : a ≠ a0 := fun z => by
      subst z
      have := ms_N ci q hc
      omega
    rw [ho _ (ms_ne hsp ha e)]
    exact p7 a h1 h2 h3
theorem ms_P.sA {G : ms_G} (hsp : ms_sp G) {h : mm_H} {H H' : Heap} (hP : ms_P G h H) {a0 i : Nat} {v : Int32} (ha : 16 ≤ a0) (hk1 : 20 ≤ h_kd h a0) (hk2 : h_kd h a0 ≤ 22) (hz : H'.size = H.size) (ho : ∀ x : Nat, x ≠ ms_tr G a0 → H'[x]? = H[x]?)
    (hcell : H'[ms_tr G a0]? = some (arrV (g_cA G (h_kd h a0)) (h_al h a0) (fun j => .int (va_up (h_ai h a0) i v j)))) : ms_P G (h_sA h a0 i v) H' := by
  obtain ⟨p1, p2, p3, p4, p5, p6, p7⟩ := hP
  refine ⟨by rw [hz]; exact p1, p2, p3, fun a h1 => ?_, fun a c r h1 h2 h3 => ?_, fun a h1 h2 h3 => ?_, fun a h1 h2 h3 => ?_⟩
  · refine ⟨(p4 a h1).1, (p4 a h1).2.1, ?_⟩
    show va_up (h_ai h) a0 _ a = _
    rw [va_up_ne _ _ (show a ≠ a0 by omega)]
    exact (p4 a h1).2.2
  · have e : a ≠ a0 := fun z => by
      subst z
      have h2 : h_kd h a = c + 1 := h2
      have := ms_N c r h3
      omega
    exact (p5 a c r h1 h2 h3).kept (ho _ (ms_ne hsp ha e))
  · by_cases e : a = a0
    · subst e
      show _ = some (arrV _ _ (fun j => .int (va_up (h_ai h) a (va_up (h_ai h a) i v) a j)))
      rw [va_up_self]
      exact hcell
    · show _ = some (arrV _ _ (fun j => .int (va_up (h_ai h) a0 (va_up (h_ai h a0) i v) a j)))
      rw [va_up_ne _ _ e, ho _ (ms_ne hsp ha e)]
      exact p6 a h1 h2 h3
  · have e : a ≠ a0 := fun z => by
      subst z
      have h2 : 23 ≤ h_kd h a := h2
      omega
    rw [ho _ (ms_ne hsp ha e)]
    exact p7 a h1 h2 h3
theorem ms_P.sQ {G : ms_G} (hsp : ms_sp G) {h : mm_H} {H H' : Heap} (hP : ms_P G h H) {a0 i : Nat} {v : Option Nat} (ha : 16 ≤ a0) (hk1 : 23 ≤ h_kd h a0) (hk2 : h_kd h a0 ≤ 25) (hz : H'.size = H.size) (ho : ∀ x : Nat, x ≠ ms_tr G a0 → H'[x]? = H[x]?)
    (hcell : H'[ms_tr G a0]? = some (arrV (g_cA G (h_kd h a0)) (h_al h a0) (fun j => ms_vt G (va_rf (va_up (h_ar h a0) i v j))))) : ms_P G (h_sQ h a0 i v) H' := by
  obtain ⟨p1, p2, p3, p4, p5, p6, p7⟩ := hP
  refine ⟨by rw [hz]; exact p1, p2, p3, p4, fun a c r h1 h2 h3 => ?_, fun a h1 h2 h3 => ?_, fun a h1 h2 h3 => ?_⟩
  · have e : a ≠ a0 := fun z => by
      subst z
      have h2 : h_kd h a = c + 1 := h2
      have := ms_N c r h3
      omega
    exact (p5 a c r h1 h2 h3).kept (ho _ (ms_ne hsp ha e))
  · have e : a ≠ a0 := fun z => by
      subst z
      have h3 : h_kd h a ≤ 22 := h3
      omega
    rw [ho _ (ms_ne hsp ha e)]
    exact p6 a h1 h2 h3
  · by_cases e : a = a0
    · subst e
      show _ = some (arrV _ _ (fun j => ms_vt G (va_rf (va_up (h_ar h) a (va_up (h_ar h a) i v) a j))))
      rw [va_up_self]
      exact hcell
    · show _ = some (arrV _ _ (fun j => ms_vt G (va_rf (va_up (h_ar h) a0 (va_up (h_ar h a0) i v) a j))))
      rw [va_up_ne _ _ e, ho _ (ms_ne hsp ha e)]
      exact p7 a h1 h2 h3
theorem ms_P.nO {G : ms_G} (hsp : ms_sp G) {h : mm_H} {H H' : Heap} (hP : ms_P G h H) {ci N : Nat} {q : vw_C} (hc : vwCl[ci]? = some q) (hz : H'.size = H.size + 1) (ho : ∀ x : Nat, x < H.size → H'[x]? = H[x]?)
    (hob : t_OB H.size (g_dC G ci) q.2.2 (g_dI G ci) H' (fun k => if mm_ri ci k = true then .null else .int 0)) : ms_P G (h_nO h ci N) H' := by
  have hl := fun a ha => ms_tr_lt (a := a) hsp hP ha
  have hn := ms_tr_n hP
  have hk0 := fun a => ms_lt_n (a := a) hP
  obtain ⟨p1, p2, p3, p4, p5, p6, p7⟩ := hP
  have kdn : ∀ a, a ≠ h_n h → h_kd (h_nO h ci N) a = h_kd h a := fun a e => va_up_ne _ _ e
  have kds : h_kd (h_nO h ci N) (h_n h) = ci + 1 := va_up_self _ _ _
  have h10 := ms_N ci q hc
  refine ⟨?_, Nat.le_succ_of_le p2, fun a h1 => ?_, fun a h1 => ?_, fun a c r h1 h2 h3 => ?_, fun a h1 h2 h3 => ?_, fun a h1 h2 h3 => ?_⟩
  · show H'.size = _ + (h_n h + 1 - 16)
    omega
  · have h1 : h_n h + 1 ≤ a := h1
    rw [kdn a (by omega)]
    exact p3 a (by omega)
  · rw [kdn a (by omega)]
    exact p4 a h1
  · by_cases e : a = h_n h
    · subst e
      rw [kds] at h2
      have : c = ci := by omega
      subst this
      cases hc.symm.trans h3
      rw [hn]
      refine hob.to (fun k _ => ?_)
      show _ = ms_vt G (if mm_ri c k = true then va_rf (va_up (h_or h (64 * c + k)) (h_n h) none (h_n h)) else .int (va_up (h_oi h (64 * c + k)) (h_n h) 0 (h_n h)))
      rw [va_up_self, va_up_self]
      split <;> rfl
    · rw [kdn a e] at h2
      have hlt := hk0 a (by omega)
      refine ((p5 a c r h1 h2 h3).kept (ho _ (hl a hlt))).to (fun k _ => ?_)
      show ms_vt G (mm_fv h c k a) = ms_vt G (if mm_ri c k = true then va_rf (va_up (h_or h (64 * c + k)) (h_n h) none a) else .int (va_up (h_oi h (64 * c + k)) (h_n h) 0 a))
      rw [va_up_ne _ _ e, va_up_ne _ _ e]
      rfl
  · have e : a ≠ h_n h := fun z => by
      subst z
      rw [kds] at h2
      omega
    rw [kdn a e] at h2 h3 ⊢
    rw [ho _ (hl a (hk0 a (by omega)))]
    exact p6 a h1 h2 h3
  · have e : a ≠ h_n h := fun z => by
      subst z
      rw [kds] at h2
      omega
    rw [kdn a e] at h2 h3 ⊢
    rw [ho _ (hl a (hk0 a (by omega)))]
    exact p7 a h1 h2 h3
/-- a new array, its cells f (ints) or all null -/
theorem ms_P.nA {G : ms_G} (hsp : ms_sp G) {h h' : mm_H} {H H' : Heap} (hP : ms_P G h H) {κ N : Nat} {f : Nat → Int32} (hκ : 20 ≤ κ ∧ κ ≤ 25) (hz : H'.size = H.size + 1) (ho : ∀ x : Nat, x < H.size → H'[x]? = H[x]?)
    (eh : h' = (va_up (h_kd h) (h_n h) κ, h_oi h, h_or h, va_up (h_al h) (h_n h) N, va_up (h_ai h) (h_n h) f, va_up (h_ar h) (h_n h) (fun _ => none), h_n h + 1, h_s h + N))
    (hcell : H'[H.size]? = some (arrV (g_cA G κ) N (fun j => if κ ≤ 22 then .int (f j) else .null))) : ms_P G h' H' := by
  have hl := fun a ha => ms_tr_lt (a := a) hsp hP ha
  have hn := ms_tr_n hP
  have hk0 := fun a => ms_lt_n (a := a) hP
  obtain ⟨p1, p2, p3, p4, p5, p6, p7⟩ := hP
  have kdn : ∀ a, a ≠ h_n h → h_kd h' a = h_kd h a := fun a e => by rw [eh]; exact va_up_ne _ _ e
  have aln : ∀ a, a ≠ h_n h → h_al h' a = h_al h a := fun a e => by rw [eh]; exact va_up_ne _ _ e
  have ain : ∀ a, a ≠ h_n h → h_ai h' a = h_ai h a := fun a e => by rw [eh]; exact va_up_ne _ _ e
  have arn : ∀ a, a ≠ h_n h → h_ar h' a = h_ar h a := fun a e => by rw [eh]; exact va_up_ne _ _ e
  have kds : h_kd h' (h_n h) = κ := by rw [eh]; exact va_up_self _ _ _
  have als : h_al h' (h_n h) = N := by rw [eh]; exact va_up_self _ _ _
  have ais : h_ai h' (h_n h) = f := by rw [eh]; exact va_up_self _ _ _
  have ars : h_ar h' (h_n h) = fun _ => none := by rw [eh]; exact va_up_self _ _ _
  have ens : h_n h' = h_n h + 1 := by rw [eh]
  have efv : ∀ c k a, mm_fv h' c k a = mm_fv h c k a := fun c k a => by rw [eh]; rfl
  refine ⟨?_, by rw [ens]; exact Nat.le_succ_of_le p2, fun a h1 => ?_, fun a h1 => ?_, fun a c r h1 h2 h3 => ?_, fun a h1 h2 h3 => ?_, fun a h1 h2 h3 => ?_⟩
  · rw [ens]
    omega
  · rw [ens] at h1
    rw [kdn a (by omega)]
    exact p3 a (by omega)
  · rw [kdn a (by omega), aln a (by omega), ain a (by omega)]
    exact p4 a h1
  · have e : a ≠ h_n h := fun z => by
      subst z
      rw [kds] at h2
      have := ms_N c r h3
      omega
    rw [kdn a e] at h2
    refine ((p5 a c r h1 h2 h3).kept (ho _ (hl a (hk0 a (by omega))))).to (fun k _ => ?_)
    rw [efv]
  · by_cases e : a = h_n h
    · subst e
      rw [kds] at h3
      rw [kds, als, ais, hn, hcell]
      congr 2
      funext j
      rw [if_pos h3]
    · rw [kdn a e] at h2 h3 ⊢
      rw [aln a e, ain a e, ho _ (hl a (hk0 a (by omega)))]
      exact p6 a h1 h2 h3
  · by_cases e : a = h_n h
    · subst e
      rw [kds] at h2
      rw [kds, als, ars, hn, hcell]
      congr 2
      funext j
      rw [if_neg (by omega)]
      rfl
    · rw [kdn a e] at h2 h3 ⊢
      rw [aln a e, arn a e, ho _ (hl a (hk0 a (by omega)))]
      exact p7 a h1 h2 h3
