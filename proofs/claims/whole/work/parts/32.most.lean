/-! THE MOST PAIRS, and the match: as functions of the fits -/
noncomputable def mN (fit : Nat → Nat → Bool) (lo hi : Nat) (F : Nat → Bool) (no : Nat) : Nat := Classical.epsilon (fun s => mx fit lo hi F no s)
theorem mN_eq {fit : Nat → Nat → Bool} {lo hi : Nat} {F : Nat → Bool} {no s : Nat} (h : mx fit lo hi F no s) : mN fit lo hi F no = s := mx_one (Classical.epsilon_spec (p := fun s => mx fit lo hi F no s) ⟨s, h⟩) h
theorem mtc_cong {fit fit2 : Nat → Nat → Bool} {lo hi : Nat} {F F2 : Nat → Bool} {no : Nat} {t : Nat → Option Nat} (hf : ∀ a, a < hi → ∀ o, o < no → fit a o = fit2 a o) (hF : ∀ o, o < no → F o = F2 o) (h : mtc fit lo hi F no t) : mtc fit2 lo hi F2 no t := by
  intro o ho a e
  obtain ⟨h1, h2, h3, h4⟩ := h o ho a e
  exact ⟨h1, by rw [← hF o ho]; exact h2, by rw [← hf a h1.2 o ho]; exact h3, h4⟩
theorem mx_cong {fit fit2 : Nat → Nat → Bool} {lo hi : Nat} {F F2 : Nat → Bool} {no s : Nat} (hf : ∀ a, a < hi → ∀ o, o < no → fit a o = fit2 a o) (hF : ∀ o, o < no → F o = F2 o) (h : mx fit lo hi F no s) : mx fit2 lo hi F2 no s := by
  obtain ⟨⟨t, h1, h2⟩, h3⟩ := h
  exact ⟨⟨t, mtc_cong hf hF h1, h2⟩, fun t ht => h3 t (mtc_cong (fun a ha o ho => (hf a ha o ho).symm) (fun o ho => (hF o ho).symm) ht)⟩
theorem mN_cong {fit fit2 : Nat → Nat → Bool} {lo hi : Nat} {F F2 : Nat → Bool} {no : Nat} (hf : ∀ a, a < hi → ∀ o, o < no → fit a o = fit2 a o) (hF : ∀ o, o < no → F o = F2 o) : mN fit lo hi F no = mN fit2 lo hi F2 no := by
  have e : (fun s => mx fit lo hi F no s) = fun s => mx fit2 lo hi F2 no s := funext fun s => propext ⟨mx_cong hf hF, mx_cong (fun a ha o ho => (hf a ha o ho).symm) (fun o ho => (hF o ho).symm)⟩
  unfold mN
  rw [e]
/-- what the k-th ask gets: the least offer that leaves the later asks all they can have -/
noncomputable def mpk (fit : Nat → Nat → Bool) (na no s0 k : Nat) (F : Nat → Bool) (md o : Nat) : Bool := (fit k o && F o) && decide (md + 1 + mN fit (k + 1) na (va_up F o false) no = s0)
noncomputable def mpick (fit : Nat → Nat → Bool) (na no s0 k : Nat) (F : Nat → Bool) (md : Nat) : Option Nat := if fa_first (mpk fit na no s0 k F md) no < no then some (fa_first (mpk fit na no s0 k F md) no) else none
noncomputable def mst (fit : Nat → Nat → Bool) (na no s0 : Nat) : Nat → (Nat → Bool) × Nat
  | 0 => (fun _ => true, 0)
  | k + 1 => match mpick fit na no s0 k (mst fit na no s0 k).1 (mst fit na no s0 k).2 with
    | none => mst fit na no s0 k
    | some o => (va_up (mst fit na no s0 k).1 o false, (mst fit na no s0 k).2 + 1)
noncomputable def mA (fit : Nat → Nat → Bool) (na no : Nat) : Nat := mN fit 0 na (fun _ => true) no
noncomputable def mg (fit : Nat → Nat → Bool) (na no k : Nat) : Option Nat := mpick fit na no (mA fit na no) k (mst fit na no (mA fit na no) k).1 (mst fit na no (mA fit na no) k).2
theorem mpick_some {fit : Nat → Nat → Bool} {na no s0 k : Nat} {F : Nat → Bool} {md o : Nat} (ho : o < no) (h : mpk fit na no s0 k F md o = true) (hl : ∀ i, i < o → mpk fit na no s0 k F md i = false) : mpick fit na no s0 k F md = some o := by
  have e : fa_first (mpk fit na no s0 k F md) no = o := by
    rcases Nat.lt_trichotomy (fa_first (mpk fit na no s0 k F md) no) o with z | z | z
    · have := fa_first_yes (mpk fit na no s0 k F md) no (by omega)
      rw [hl _ z] at this
      cases this
    · exact z
    · have := fa_first_no (mpk fit na no s0 k F md) no o z
      rw [h] at this
      cases this
  unfold mpick
  rw [e, if_pos ho]
theorem mpick_none {fit : Nat → Nat → Bool} {na no s0 k : Nat} {F : Nat → Bool} {md : Nat} (hl : ∀ i, i < no → mpk fit na no s0 k F md i = false) : mpick fit na no s0 k F md = none := by
  unfold mpick
  rw [if_neg]
  intro z
  have := fa_first_yes (mpk fit na no s0 k F md) no z
  rw [hl _ z] at this
  cases this
theorem mpick_of {fit : Nat → Nat → Bool} {na no s0 k : Nat} {F : Nat → Bool} {md o : Nat} (h : mpick fit na no s0 k F md = some o) : o < no ∧ mpk fit na no s0 k F md o = true := by
  unfold mpick at h
  split at h
  · rename_i z
    cases h
    exact ⟨z, fa_first_yes _ no z⟩
  · cases h
theorem mpk_md {fit : Nat → Nat → Bool} {na no s0 k : Nat} {F : Nat → Bool} {md o : Nat} (h : mpk fit na no s0 k F md o = true) : fit k o = true ∧ F o = true ∧ md + 1 + mN fit (k + 1) na (va_up F o false) no = s0 := by
  unfold mpk at h
  rw [Bool.and_eq_true, Bool.and_eq_true] at h
  exact ⟨h.1.1, h.1.2, of_decide_eq_true h.2⟩
theorem mst_le (fit : Nat → Nat → Bool) (na no s0 : Nat) : ∀ k, (mst fit na no s0 k).2 ≤ s0
  | 0 => Nat.zero_le _
  | k + 1 => by
    have ih := mst_le fit na no s0 k
    unfold mst
    split
    · exact ih
    · rename_i o e
      have := (mpk_md (mpick_of e).2).2.2
      show (mst fit na no s0 k).2 + 1 ≤ s0
      omega
theorem mpick_end {fit : Nat → Nat → Bool} {na no s0 k : Nat} {F : Nat → Bool} {md : Nat} (h : s0 ≤ md) : mpick fit na no s0 k F md = none := mpick_none fun i _ => by
  cases e : mpk fit na no s0 k F md i with
  | false => rfl
  | true =>
    have := (mpk_md e).2.2
    omega
/-- the matches of the first k asks, none later -/
theorem mst_no {fit : Nat → Nat → Bool} {na no s0 k : Nat} (h : mpick fit na no s0 k (mst fit na no s0 k).1 (mst fit na no s0 k).2 = none) : mst fit na no s0 (k + 1) = mst fit na no s0 k := by
  rw [mst, h]
theorem mst_yes {fit : Nat → Nat → Bool} {na no s0 k o : Nat} (h : mpick fit na no s0 k (mst fit na no s0 k).1 (mst fit na no s0 k).2 = some o) : mst fit na no s0 (k + 1) = (va_up (mst fit na no s0 k).1 o false, (mst fit na no s0 k).2 + 1) := by
  rw [mst, h]
theorem mpk_eq {fit : Nat → Nat → Bool} {na no s0 k : Nat} {F : Nat → Bool} {md o : Nat} : mpk fit na no s0 k F md o = true ↔ (fit k o = true ∧ F o = true) ∧ md + 1 + mN fit (k + 1) na (va_up F o false) no = s0 := by
  unfold mpk
  rw [Bool.and_eq_true, Bool.and_eq_true, decide_eq_true_eq]
theorem msz_le {no : Nat} {t : Nat → Option Nat} : msz no t ≤ no := fb_ct_le _ _
theorem mx_le {fit : Nat → Nat → Bool} {lo hi : Nat} {F : Nat → Bool} {no s : Nat} (h : mx fit lo hi F no s) : s ≤ no := by
  obtain ⟨⟨t, _, e⟩, _⟩ := h
  rw [← e]
  exact msz_le

set_option maxRecDepth 20000 in
theorem t_J7_fill_53178_40_0 {h : mm_H} {Q : Option Value → mm_H → Prop} (sh : s_h h) (v : Int32) {K5 : Int32 → Int32 → Int32 → mm_H → Prop} (k5 : ∀ (v : Int32) (x2 : Int32) (x3 : Int32) (h : mm_H), K5 v x2 x3 h → w_p 0 (99, 4, mc_J7_fill_53178) 5 [(0, .ref 40), (1, .int v), (2, .int x2), (3, .int x3)] [] h Q) 
    (F : K5 v 0 (Int32.ofNat 10) h) :
    w_c 0 152 [.ref 40, .int v] h Q := by
  refine w_ci (M := (99, 4, mc_J7_fill_53178)) rfl (Nat.le_of_ble_eq_true rfl) ?_
  show w_p _ _ 0 [(0, .ref 40), (1, .int v)] [] h Q
  refine w_b 3 3 [(2, .int 0), (0, .ref 40), (1, .int v)] [.ref 40] rfl ?_
  refine w_alen rfl (by rw [kd_40 sh]; decide) ?_
  rw [show h_al h 40 = 10 from (al_40 sh)]
  refine w_b 1 5 [(3, .int (Int32.ofNat 10)), (2, .int 0), (0, .ref 40), (1, .int v)] [] rfl ?_
  refine w_lo [0, 1, 2, 3] [(0, .ref 40), (1, .int v), (2, .int 0), (3, .int (Int32.ofNat 10))] rfl rfl ?_
  exact k5 _ _ _ _ F

set_option maxRecDepth 20000 in
theorem t_J7_fill_53178_40_5 {h : mm_H} {Q : Option Value → mm_H → Prop} (sh : s_h h) (v : Int32) (x2 : Int32) (x3 : Int32) {K5 : Int32 → Int32 → Int32 → mm_H → Prop} (k5 : ∀ (v : Int32) (x2 : Int32) (x3 : Int32) (h : mm_H), K5 v x2 x3 h → w_p 0 (99, 4, mc_J7_fill_53178) 5 [(0, .ref 40), (1, .int v), (2, .int x2), (3, .int x3)] [] h Q) 
    (F : ((x3 ≤ x2 → Q none h) ∧ (¬ (x3 ≤ x2) → (vp_in x2 10 ∧ K5 v (x2 + 1) x3 (h_sA h 40 x2.toNatClampNeg v))))) :
    w_p 0 (99, 4, mc_J7_fill_53178) 5 [(0, .ref 40), (1, .int v), (2, .int x2), (3, .int x3)] [] h Q := by
  refine w_b 2 7 [(0, .ref 40), (1, .int v), (2, .int x2), (3, .int x3)] [.int x3, .int x2] rfl ?_
  refine w_ic_ge (tgt := 20) (x := x2) (y := x3) rfl (by decide) ⟨fun c1 => ?_, fun c1 => ?_⟩
  · have F := F.1 c1
    exact w_vr rfl F
  · have F := F.2 c1
    refine w_b 3 13 [(0, .ref 40), (1, .int v), (2, .int x2), (3, .int x3)] [.int v, .int x2, .ref 40] rfl ?_
    obtain ⟨g2, F⟩ := F
    refine w_iast rfl (kd_40 sh) (by decide) (by rw [show h_al h 40 = 10 from (al_40 sh)]; exact g2) ?_
    refine w_b 2 5 [(2, .int (x2 + 1)), (0, .ref 40), (1, .int v), (3, .int x3)] [] rfl ?_
    refine w_lo [0, 1, 2, 3] [(0, .ref 40), (1, .int v), (2, .int (x2 + 1)), (3, .int x3)] rfl rfl ?_
    exact k5 _ _ _ _ F

theorem c_fill_40 {h : mm_H} {Q : Option Value → mm_H → Prop} (sh : s_h h) (v : Int32) (k : ∀ h', fx h h' [] [40] → dn h h' → (∀ i, i < 10 → h_ai h' 40 i = v) → Q none h') : w_c 0 152 [.ref 40, .int v] h Q := by
  have loop : ∀ m j, j + m = 10 → ∀ h1 : mm_H, fx h h1 [] [40] → dn h h1 → (∀ i, i < j → h_ai h1 40 i = v) → w_p 0 (99, 4, mc_J7_fill_53178) 5 [(0, .ref 40), (1, .int v), (2, .int (nI j)), (3, .int (Int32.ofNat 10))] [] h1 Q := by
    intro m
    induction m with
    | zero =>
      intro j hj h1 f d r
      refine t_J7_fill_53178_40_5 (f.sh sh (by decide)) _ _ _ (K5 := fun _ _ _ _ => False) (fun _ _ _ _ z => z.elim) ⟨fun _ => k h1 f d (fun i hi => r i (by omega)), fun c => absurd ?_ c⟩
      exact (i_le (a := 10) (by decide) (by omega)).mpr (by omega)
    | succ m ih =>
      intro j hj h1 f d r
      refine t_J7_fill_53178_40_5 (f.sh sh (by decide)) _ _ _ (K5 := fun x y z hh => x = v ∧ y = nI (j + 1) ∧ z = Int32.ofNat 10 ∧ fx h hh [] [40] ∧ dn h hh ∧ ∀ i, i < j + 1 → h_ai hh 40 i = v) (fun x y z hh q => ?_) ⟨fun c => ?_, fun c => ⟨vp_in_nI (by omega) (by decide), rfl, nI_1 j, rfl, f.sA _ _ (by decide), d.sA _ _ (by decide), fun i hi => ?_⟩⟩
      · obtain ⟨rfl, rfl, rfl, q1, q2, q3⟩ := q
        exact ih (j + 1) (by omega) hh q1 q2 q3
      · have := (i_le (a := 10) (by decide) (by omega)).mp c
        omega
      · show va_up (h_ai h1 40) (nI j).toNatClampNeg v i = v
        rw [i_cl (by omega)]
        by_cases z : i = j
        · rw [z, va_up_self]
        · rw [va_up_ne _ _ z]
          exact r i (by omega)
  refine t_J7_fill_53178_40_0 sh v (K5 := fun x y z hh => x = v ∧ y = nI 0 ∧ z = Int32.ofNat 10 ∧ hh = h) (fun x y z hh q => ?_) ⟨rfl, rfl, rfl, rfl⟩
  obtain ⟨rfl, rfl, rfl, rfl⟩ := q
  exact loop 10 0 rfl _ (fx.rf _ _ _) (dn.rf _) (fun i hi => by omega)
set_option maxRecDepth 20000 in
theorem t_J7_fill_53178_41_0 {h : mm_H} {Q : Option Value → mm_H → Prop} (sh : s_h h) (v : Int32) {K5 : Int32 → Int32 → Int32 → mm_H → Prop} (k5 : ∀ (v : Int32) (x2 : Int32) (x3 : Int32) (h : mm_H), K5 v x2 x3 h → w_p 0 (99, 4, mc_J7_fill_53178) 5 [(0, .ref 41), (1, .int v), (2, .int x2), (3, .int x3)] [] h Q) 
    (F : K5 v 0 (Int32.ofNat 10) h) :
    w_c 0 152 [.ref 41, .int v] h Q := by
  refine w_ci (M := (99, 4, mc_J7_fill_53178)) rfl (Nat.le_of_ble_eq_true rfl) ?_
  show w_p _ _ 0 [(0, .ref 41), (1, .int v)] [] h Q
  refine w_b 3 3 [(2, .int 0), (0, .ref 41), (1, .int v)] [.ref 41] rfl ?_
  refine w_alen rfl (by rw [kd_41 sh]; decide) ?_
  rw [show h_al h 41 = 10 from (al_41 sh)]
  refine w_b 1 5 [(3, .int (Int32.ofNat 10)), (2, .int 0), (0, .ref 41), (1, .int v)] [] rfl ?_
  refine w_lo [0, 1, 2, 3] [(0, .ref 41), (1, .int v), (2, .int 0), (3, .int (Int32.ofNat 10))] rfl rfl ?_
  exact k5 _ _ _ _ F

set_option maxRecDepth 20000 in
theorem t_J7_fill_53178_41_5 {h : mm_H} {Q : Option Value → mm_H → Prop} (sh : s_h h) (v : Int32) (x2 : Int32) (x3 : Int32) {K5 : Int32 → Int32 → Int32 → mm_H → Prop} (k5 : ∀ (v : Int32) (x2 : Int32) (x3 : Int32) (h : mm_H), K5 v x2 x3 h → w_p 0 (99, 4, mc_J7_fill_53178) 5 [(0, .ref 41), (1, .int v), (2, .int x2), (3, .int x3)] [] h Q) 
    (F : ((x3 ≤ x2 → Q none h) ∧ (¬ (x3 ≤ x2) → (vp_in x2 10 ∧ K5 v (x2 + 1) x3 (h_sA h 41 x2.toNatClampNeg v))))) :
    w_p 0 (99, 4, mc_J7_fill_53178) 5 [(0, .ref 41), (1, .int v), (2, .int x2), (3, .int x3)] [] h Q := by
  refine w_b 2 7 [(0, .ref 41), (1, .int v), (2, .int x2), (3, .int x3)] [.int x3, .int x2] rfl ?_
  refine w_ic_ge (tgt := 20) (x := x2) (y := x3) rfl (by decide) ⟨fun c1 => ?_, fun c1 => ?_⟩
  · have F := F.1 c1
    exact w_vr rfl F
  · have F := F.2 c1
    refine w_b 3 13 [(0, .ref 41), (1, .int v), (2, .int x2), (3, .int x3)] [.int v, .int x2, .ref 41] rfl ?_
    obtain ⟨g2, F⟩ := F
    refine w_iast rfl (kd_41 sh) (by decide) (by rw [show h_al h 41 = 10 from (al_41 sh)]; exact g2) ?_
    refine w_b 2 5 [(2, .int (x2 + 1)), (0, .ref 41), (1, .int v), (3, .int x3)] [] rfl ?_
    refine w_lo [0, 1, 2, 3] [(0, .ref 41), (1, .int v), (2, .int (x2 + 1)), (3, .int x3)] rfl rfl ?_
    exact k5 _ _ _ _ F

theorem c_fill_41 {h : mm_H} {Q : Option Value → mm_H → Prop} (sh : s_h h) (v : Int32) (k : ∀ h', fx h h' [] [41] → dn h h' → (∀ i, i < 10 → h_ai h' 41 i = v) → Q none h') : w_c 0 152 [.ref 41, .int v] h Q := by
  have loop : ∀ m j, j + m = 10 → ∀ h1 : mm_H, fx h h1 [] [41] → dn h h1 → (∀ i, i < j → h_ai h1 41 i = v) → w_p 0 (99, 4, mc_J7_fill_53178) 5 [(0, .ref 41), (1, .int v), (2, .int (nI j)), (3, .int (Int32.ofNat 10))] [] h1 Q := by
    intro m
    induction m with
    | zero =>
      intro j hj h1 f d r
      refine t_J7_fill_53178_41_5 (f.sh sh (by decide)) _ _ _ (K5 := fun _ _ _ _ => False) (fun _ _ _ _ z => z.elim) ⟨fun _ => k h1 f d (fun i hi => r i (by omega)), fun c => absurd ?_ c⟩
      exact (i_le (a := 10) (by decide) (by omega)).mpr (by omega)
    | succ m ih =>
      intro j hj h1 f d r
      refine t_J7_fill_53178_41_5 (f.sh sh (by decide)) _ _ _ (K5 := fun x y z hh => x = v ∧ y = nI (j + 1) ∧ z = Int32.ofNat 10 ∧ fx h hh [] [41] ∧ dn h hh ∧ ∀ i, i < j + 1 → h_ai hh 41 i = v) (fun x y z hh q => ?_) ⟨fun c => ?_, fun c => ⟨vp_in_nI (by omega) (by decide), rfl, nI_1 j, rfl, f.sA _ _ (by decide), d.sA _ _ (by decide), fun i hi => ?_⟩⟩
      · obtain ⟨rfl, rfl, rfl, q1, q2, q3⟩ := q
        exact ih (j + 1) (by omega) hh q1 q2 q3
      · have := (i_le (a := 10) (by decide) (by omega)).mp c
        omega
      · show va_up (h_ai h1 41) (nI j).toNatClampNeg v i = v
        rw [i_cl (by omega)]
        by_cases z : i = j
        · rw [z, va_up_self]
        · rw [va_up_ne _ _ z]
          exact r i (by omega)
  refine t_J7_fill_53178_41_0 sh v (K5 := fun x y z hh => x = v ∧ y = nI 0 ∧ z = Int32.ofNat 10 ∧ hh = h) (fun x y z hh q => ?_) ⟨rfl, rfl, rfl, rfl⟩
  obtain ⟨rfl, rfl, rfl, rfl⟩ := q
  exact loop 10 0 rfl _ (fx.rf _ _ _) (dn.rf _) (fun i hi => by omega)
set_option maxRecDepth 20000 in
theorem t_J7_fill_53178_42_0 {h : mm_H} {Q : Option Value → mm_H → Prop} (sh : s_h h) (v : Int32) {K5 : Int32 → Int32 → Int32 → mm_H → Prop} (k5 : ∀ (v : Int32) (x2 : Int32) (x3 : Int32) (h : mm_H), K5 v x2 x3 h → w_p 0 (99, 4, mc_J7_fill_53178) 5 [(0, .ref 42), (1, .int v), (2, .int x2), (3, .int x3)] [] h Q) 
    (F : K5 v 0 (Int32.ofNat 10) h) :
    w_c 0 152 [.ref 42, .int v] h Q := by
  refine w_ci (M := (99, 4, mc_J7_fill_53178)) rfl (Nat.le_of_ble_eq_true rfl) ?_
  show w_p _ _ 0 [(0, .ref 42), (1, .int v)] [] h Q
  refine w_b 3 3 [(2, .int 0), (0, .ref 42), (1, .int v)] [.ref 42] rfl ?_
  refine w_alen rfl (by rw [kd_42 sh]; decide) ?_
  rw [show h_al h 42 = 10 from (al_42 sh)]
  refine w_b 1 5 [(3, .int (Int32.ofNat 10)), (2, .int 0), (0, .ref 42), (1, .int v)] [] rfl ?_
  refine w_lo [0, 1, 2, 3] [(0, .ref 42), (1, .int v), (2, .int 0), (3, .int (Int32.ofNat 10))] rfl rfl ?_
  exact k5 _ _ _ _ F

set_option maxRecDepth 20000 in
theorem t_J7_fill_53178_42_5 {h : mm_H} {Q : Option Value → mm_H → Prop} (sh : s_h h) (v : Int32) (x2 : Int32) (x3 : Int32) {K5 : Int32 → Int32 → Int32 → mm_H → Prop} (k5 : ∀ (v : Int32) (x2 : Int32) (x3 : Int32) (h : mm_H), K5 v x2 x3 h → w_p 0 (99, 4, mc_J7_fill_53178) 5 [(0, .ref 42), (1, .int v), (2, .int x2), (3, .int x3)] [] h Q) 
    (F : ((x3 ≤ x2 → Q none h) ∧ (¬ (x3 ≤ x2) → (vp_in x2 10 ∧ K5 v (x2 + 1) x3 (h_sA h 42 x2.toNatClampNeg v))))) :
    w_p 0 (99, 4, mc_J7_fill_53178) 5 [(0, .ref 42), (1, .int v), (2, .int x2), (3, .int x3)] [] h Q := by
  refine w_b 2 7 [(0, .ref 42), (1, .int v), (2, .int x2), (3, .int x3)] [.int x3, .int x2] rfl ?_
  refine w_ic_ge (tgt := 20) (x := x2) (y := x3) rfl (by decide) ⟨fun c1 => ?_, fun c1 => ?_⟩
  · have F := F.1 c1
    exact w_vr rfl F
  · have F := F.2 c1
    refine w_b 3 13 [(0, .ref 42), (1, .int v), (2, .int x2), (3, .int x3)] [.int v, .int x2, .ref 42] rfl ?_
    obtain ⟨g2, F⟩ := F
    refine w_iast rfl (kd_42 sh) (by decide) (by rw [show h_al h 42 = 10 from (al_42 sh)]; exact g2) ?_
    refine w_b 2 5 [(2, .int (x2 + 1)), (0, .ref 42), (1, .int v), (3, .int x3)] [] rfl ?_
    refine w_lo [0, 1, 2, 3] [(0, .ref 42), (1, .int v), (2, .int (x2 + 1)), (3, .int x3)] rfl rfl ?_
    exact k5 _ _ _ _ F

theorem c_fill_42 {h : mm_H} {Q : Option Value → mm_H → Prop} (sh : s_h h) (v : Int32) (k : ∀ h', fx h h' [] [42] → dn h h' → (∀ i, i < 10 → h_ai h' 42 i = v) → Q none h') : w_c 0 152 [.ref 42, .int v] h Q := by
  have loop : ∀ m j, j + m = 10 → ∀ h1 : mm_H, fx h h1 [] [42] → dn h h1 → (∀ i, i < j → h_ai h1 42 i = v) → w_p 0 (99, 4, mc_J7_fill_53178) 5 [(0, .ref 42), (1, .int v), (2, .int (nI j)), (3, .int (Int32.ofNat 10))] [] h1 Q := by
    intro m
    induction m with
    | zero =>
      intro j hj h1 f d r
      refine t_J7_fill_53178_42_5 (f.sh sh (by decide)) _ _ _ (K5 := fun _ _ _ _ => False) (fun _ _ _ _ z => z.elim) ⟨fun _ => k h1 f d (fun i hi => r i (by omega)), fun c => absurd ?_ c⟩
      exact (i_le (a := 10) (by decide) (by omega)).mpr (by omega)
    | succ m ih =>
      intro j hj h1 f d r
      refine t_J7_fill_53178_42_5 (f.sh sh (by decide)) _ _ _ (K5 := fun x y z hh => x = v ∧ y = nI (j + 1) ∧ z = Int32.ofNat 10 ∧ fx h hh [] [42] ∧ dn h hh ∧ ∀ i, i < j + 1 → h_ai hh 42 i = v) (fun x y z hh q => ?_) ⟨fun c => ?_, fun c => ⟨vp_in_nI (by omega) (by decide), rfl, nI_1 j, rfl, f.sA _ _ (by decide), d.sA _ _ (by decide), fun i hi => ?_⟩⟩
      · obtain ⟨rfl, rfl, rfl, q1, q2, q3⟩ := q
        exact ih (j + 1) (by omega) hh q1 q2 q3
      · have := (i_le (a := 10) (by decide) (by omega)).mp c
        omega
      · show va_up (h_ai h1 42) (nI j).toNatClampNeg v i = v
        rw [i_cl (by omega)]
        by_cases z : i = j
        · rw [z, va_up_self]
        · rw [va_up_ne _ _ z]
          exact r i (by omega)
  refine t_J7_fill_53178_42_0 sh v (K5 := fun x y z hh => x = v ∧ y = nI 0 ∧ z = Int32.ofNat 10 ∧ hh = h) (fun x y z hh q => ?_) ⟨rfl, rfl, rfl, rfl⟩
  obtain ⟨rfl, rfl, rfl, rfl⟩ := q
  exact loop 10 0 rfl _ (fx.rf _ _ _) (dn.rf _) (fun i hi => by omega)
set_option maxRecDepth 20000 in
theorem t_J7_fill_53178_20_0 {h : mm_H} {Q : Option Value → mm_H → Prop} (sh : s_h h) (v : Int32) {K5 : Int32 → Int32 → Int32 → mm_H → Prop} (k5 : ∀ (v : Int32) (x2 : Int32) (x3 : Int32) (h : mm_H), K5 v x2 x3 h → w_p 0 (99, 4, mc_J7_fill_53178) 5 [(0, .ref 20), (1, .int v), (2, .int x2), (3, .int x3)] [] h Q) 
    (F : K5 v 0 (Int32.ofNat 5) h) :
    w_c 0 152 [.ref 20, .int v] h Q := by
  refine w_ci (M := (99, 4, mc_J7_fill_53178)) rfl (Nat.le_of_ble_eq_true rfl) ?_
  show w_p _ _ 0 [(0, .ref 20), (1, .int v)] [] h Q
  refine w_b 3 3 [(2, .int 0), (0, .ref 20), (1, .int v)] [.ref 20] rfl ?_
  refine w_alen rfl (by rw [kd_20 sh]; decide) ?_
  rw [show h_al h 20 = 5 from (al_20 sh)]
  refine w_b 1 5 [(3, .int (Int32.ofNat 5)), (2, .int 0), (0, .ref 20), (1, .int v)] [] rfl ?_
  refine w_lo [0, 1, 2, 3] [(0, .ref 20), (1, .int v), (2, .int 0), (3, .int (Int32.ofNat 5))] rfl rfl ?_
  exact k5 _ _ _ _ F

set_option maxRecDepth 20000 in
theorem t_J7_fill_53178_20_5 {h : mm_H} {Q : Option Value → mm_H → Prop} (sh : s_h h) (v : Int32) (x2 : Int32) (x3 : Int32) {K5 : Int32 → Int32 → Int32 → mm_H → Prop} (k5 : ∀ (v : Int32) (x2 : Int32) (x3 : Int32) (h : mm_H), K5 v x2 x3 h → w_p 0 (99, 4, mc_J7_fill_53178) 5 [(0, .ref 20), (1, .int v), (2, .int x2), (3, .int x3)] [] h Q) 
    (F : ((x3 ≤ x2 → Q none h) ∧ (¬ (x3 ≤ x2) → (vp_in x2 5 ∧ K5 v (x2 + 1) x3 (h_sA h 20 x2.toNatClampNeg v))))) :
    w_p 0 (99, 4, mc_J7_fill_53178) 5 [(0, .ref 20), (1, .int v), (2, .int x2), (3, .int x3)] [] h Q := by
  refine w_b 2 7 [(0, .ref 20), (1, .int v), (2, .int x2), (3, .int x3)] [.int x3, .int x2] rfl ?_
  refine w_ic_ge (tgt := 20) (x := x2) (y := x3) rfl (by decide) ⟨fun c1 => ?_, fun c1 => ?_⟩
  · have F := F.1 c1
    exact w_vr rfl F
  · have F := F.2 c1
    refine w_b 3 13 [(0, .ref 20), (1, .int v), (2, .int x2), (3, .int x3)] [.int v, .int x2, .ref 20] rfl ?_
    obtain ⟨g2, F⟩ := F
    refine w_iast rfl (kd_20 sh) (by decide) (by rw [show h_al h 20 = 5 from (al_20 sh)]; exact g2) ?_
    refine w_b 2 5 [(2, .int (x2 + 1)), (0, .ref 20), (1, .int v), (3, .int x3)] [] rfl ?_
    refine w_lo [0, 1, 2, 3] [(0, .ref 20), (1, .int v), (2, .int (x2 + 1)), (3, .int x3)] rfl rfl ?_
    exact k5 _ _ _ _ F

theorem c_fill_20 {h : mm_H} {Q : Option Value → mm_H → Prop} (sh : s_h h) (v : Int32) (k : ∀ h', fx h h' [] [20] → dn h h' → (∀ i, i < 5 → h_ai h' 20 i = v) → Q none h') : w_c 0 152 [.ref 20, .int v] h Q := by
  have loop : ∀ m j, j + m = 5 → ∀ h1 : mm_H, fx h h1 [] [20] → dn h h1 → (∀ i, i < j → h_ai h1 20 i = v) → w_p 0 (99, 4, mc_J7_fill_53178) 5 [(0, .ref 20), (1, .int v), (2, .int (nI j)), (3, .int (Int32.ofNat 5))] [] h1 Q := by
    intro m
    induction m with
    | zero =>
      intro j hj h1 f d r
      refine t_J7_fill_53178_20_5 (f.sh sh (by decide)) _ _ _ (K5 := fun _ _ _ _ => False) (fun _ _ _ _ z => z.elim) ⟨fun _ => k h1 f d (fun i hi => r i (by omega)), fun c => absurd ?_ c⟩
      exact (i_le (a := 5) (by decide) (by omega)).mpr (by omega)
    | succ m ih =>
      intro j hj h1 f d r
      refine t_J7_fill_53178_20_5 (f.sh sh (by decide)) _ _ _ (K5 := fun x y z hh => x = v ∧ y = nI (j + 1) ∧ z = Int32.ofNat 5 ∧ fx h hh [] [20] ∧ dn h hh ∧ ∀ i, i < j + 1 → h_ai hh 20 i = v) (fun x y z hh q => ?_) ⟨fun c => ?_, fun c => ⟨vp_in_nI (by omega) (by decide), rfl, nI_1 j, rfl, f.sA _ _ (by decide), d.sA _ _ (by decide), fun i hi => ?_⟩⟩
      · obtain ⟨rfl, rfl, rfl, q1, q2, q3⟩ := q
        exact ih (j + 1) (by omega) hh q1 q2 q3
      · have := (i_le (a := 5) (by decide) (by omega)).mp c
        omega
      · show va_up (h_ai h1 20) (nI j).toNatClampNeg v i = v
        rw [i_cl (by omega)]
        by_cases z : i = j
        · rw [z, va_up_self]
        · rw [va_up_ne _ _ z]
          exact r i (by omega)
  refine t_J7_fill_53178_20_0 sh v (K5 := fun x y z hh => x = v ∧ y = nI 0 ∧ z = Int32.ofNat 5 ∧ hh = h) (fun x y z hh q => ?_) ⟨rfl, rfl, rfl, rfl⟩
  obtain ⟨rfl, rfl, rfl, rfl⟩ := q
  exact loop 5 0 rfl _ (fx.rf _ _ _) (dn.rf _) (fun i hi => by omega)
set_option maxRecDepth 20000 in
theorem t_X2_mostPairsFrom_0 {D : Nat} {h : mm_H} {Q : Option Value → mm_H → Prop} (sh : s_h h) (first : Int32) (free : Int32) {K14 : Int32 → Int32 → Int32 → Int32 → mm_H → Prop} (k14 : ∀ (first : Int32) (free : Int32) (x3 : Int32) (x4 : Int32) (h : mm_H), K14 first free x3 x4 h → w_p (D + 1) (2, 5, mc_X2_mostPairsFrom) 14 [(0, .ref 39), (1, .int first), (2, .int free), (3, .int x3), (4, .int x4)] [] h Q) 
    (F : w_c D 152 [.ref 42, .int (-4)] h (fun r h1 => r = none ∧ s_h h1 ∧ K14 first free 0 first h1)) :
    w_c (D + 1) 17 [.ref 39, .int first, .int free] h Q := by
  refine w_ci (M := (2, 5, mc_X2_mostPairsFrom)) rfl (Nat.le_of_ble_eq_true rfl) ?_
  show w_p _ _ 0 [(0, .ref 39), (1, .int first), (2, .int free)] [] h Q
  refine w_b 1 1 [(0, .ref 39), (1, .int first), (2, .int free)] [.ref 39] rfl ?_
  refine w_getS (b := 42) rfl rfl rfl (kd_39 sh) (or_130_39 sh) ?_
  refine w_b 1 6 [(0, .ref 39), (1, .int first), (2, .int free)] [.int (-4), .ref 42] rfl ?_
  refine w_cs (As := [.ref 42, .int (-4)]) (rest := []) rfl rfl rfl (Nat.le_of_ble_eq_true rfl) (dc := D) (by omega) (F.mono (fun r h1 F => ?_))
  obtain ⟨rfl, sh1, F⟩ := F
  show w_p _ _ 9 [(0, .ref 39), (1, .int first), (2, .int free)] [] h1 _
  refine w_b 4 14 [(4, .int first), (3, .int 0), (0, .ref 39), (1, .int first), (2, .int free)] [] rfl ?_
  refine w_lo [0, 1, 2, 3, 4] [(0, .ref 39), (1, .int first), (2, .int free), (3, .int 0), (4, .int first)] rfl rfl ?_
  exact k14 _ _ _ _ _ F

set_option maxRecDepth 20000 in
theorem t_X2_mostPairsFrom_14 {D : Nat} {h : mm_H} {Q : Option Value → mm_H → Prop} (sh : s_h h) (first : Int32) (free : Int32) (x3 : Int32) (x4 : Int32) {K14 : Int32 → Int32 → Int32 → Int32 → mm_H → Prop} (k14 : ∀ (first : Int32) (free : Int32) (x3 : Int32) (x4 : Int32) (h : mm_H), K14 first free x3 x4 h → w_p (D + 1) (2, 5, mc_X2_mostPairsFrom) 14 [(0, .ref 39), (1, .int first), (2, .int free), (3, .int x3), (4, .int x4)] [] h Q) 
    (F : (((h_oi h 131 39) ≤ x4 → Q (some (.int x3)) h) ∧ (¬ ((h_oi h 131 39) ≤ x4) → w_c D 18 [.ref 39, .int x4, .int free, .int 0] (h_sI h 133 39 0) (fun r h2 => ∃ z3 : Int32, r = some (.int z3) ∧ s_h h2 ∧ ((z3 = 0 → K14 first free x3 (x4 + 1) h2) ∧ (¬ (z3 = 0) → K14 first free (x3 + 1) (x4 + 1) h2)))))) :
    w_p (D + 1) (2, 5, mc_X2_mostPairsFrom) 14 [(0, .ref 39), (1, .int first), (2, .int free), (3, .int x3), (4, .int x4)] [] h Q := by
  refine w_b 2 17 [(0, .ref 39), (1, .int first), (2, .int free), (3, .int x3), (4, .int x4)] [.ref 39, .int x4] rfl ?_
  refine w_get (g := 131) rfl rfl rfl (kd_39 sh) ?_
  refine w_ic_ge (tgt := 48) (x := x4) (y := h_oi h 131 39) rfl (by decide) ⟨fun c1 => ?_, fun c1 => ?_⟩
  · have F := F.1 c1
    refine w_b 1 49 [(0, .ref 39), (1, .int first), (2, .int free), (3, .int x3), (4, .int x4)] [.int x3] rfl ?_
    exact w_ir rfl F
  · have F := F.2 c1
    refine w_b 2 25 [(0, .ref 39), (1, .int first), (2, .int free), (3, .int x3), (4, .int x4)] [.int 0, .ref 39] rfl ?_
    refine w_put (g := 133) (x := 0) rfl rfl rfl (kd_39 sh) (by decide) ?_
    refine w_b 4 33 [(0, .ref 39), (1, .int first), (2, .int free), (3, .int x3), (4, .int x4)] [.int 0, .int free, .int x4, .ref 39] rfl ?_
    refine w_cv (As := [.int x4, .int free, .int 0]) (b := 39) (rest := []) rfl rfl rfl (Nat.le_of_ble_eq_true rfl) (kd_39 sh) (fun z => absurd z (by decide)) (dc := D) (by omega) (F.mono (fun r h2 F => ?_))
    obtain ⟨z3, rfl, sh2, F⟩ := F
    show w_p _ _ 36 [(0, .ref 39), (1, .int first), (2, .int free), (3, .int x3), (4, .int x4)] [.int z3] h2 _
    refine w_if_eq (tgt := 42) (x := z3) rfl (by decide) ⟨fun c4 => ?_, fun c4 => ?_⟩
    · have F := F.1 c4
      refine w_b 2 14 [(4, .int (x4 + 1)), (0, .ref 39), (1, .int first), (2, .int free), (3, .int x3)] [] rfl ?_
      refine w_lo [0, 1, 2, 3, 4] [(0, .ref 39), (1, .int first), (2, .int free), (3, .int x3), (4, .int (x4 + 1))] rfl rfl ?_
      exact k14 _ _ _ _ _ F
    · have F := F.2 c4
      refine w_b 3 14 [(4, .int (x4 + 1)), (3, .int (x3 + 1)), (0, .ref 39), (1, .int first), (2, .int free)] [] rfl ?_
      refine w_lo [0, 1, 2, 3, 4] [(0, .ref 39), (1, .int first), (2, .int free), (3, .int (x3 + 1)), (4, .int (x4 + 1))] rfl rfl ?_
      exact k14 _ _ _ _ _ F

set_option maxRecDepth 20000 in
theorem t_X2_mostPairsOfAll_0 {D : Nat} {h : mm_H} {Q : Option Value → mm_H → Prop} (sh : s_h h) 
    (F : w_c D 16 [.ref 39] h (fun r h1 => ∃ z2 : Int32, r = some (.int z2) ∧ s_h h1 ∧ w_c D 17 [.ref 39, .int 0, .int z2] h1 (fun r h3 => ∃ z4 : Int32, r = some (.int z4) ∧ s_h h3 ∧ Q (some (.int z4)) h3))) :
    w_c (D + 1) 15 [.ref 39] h Q := by
  refine w_ci (M := (2, 1, mc_X2_mostPairsOfAll)) rfl (Nat.le_of_ble_eq_true rfl) ?_
  show w_p _ _ 0 [(0, .ref 39)] [] h Q
  refine w_b 3 3 [(0, .ref 39)] [.ref 39, .int 0, .ref 39] rfl ?_
  refine w_cv (As := []) (b := 39) (rest := [.int 0, .ref 39]) rfl rfl rfl (Nat.le_of_ble_eq_true rfl) (kd_39 sh) (fun z => absurd z (by decide)) (dc := D) (by omega) (F.mono (fun r h1 F => ?_))
  obtain ⟨z2, rfl, sh1, F⟩ := F
  show w_p _ _ 6 [(0, .ref 39)] [.int z2, .int 0, .ref 39] h1 _
  refine w_cv (As := [.int 0, .int z2]) (b := 39) (rest := []) rfl rfl rfl (Nat.le_of_ble_eq_true rfl) (kd_39 sh1) (fun z => absurd z (by decide)) (dc := D) (by omega) (F.mono (fun r h3 F => ?_))
  obtain ⟨z4, rfl, sh3, F⟩ := F
  show w_p _ _ 9 [(0, .ref 39)] [.int z4] h3 _
  exact w_ir rfl F

set_option maxRecDepth 20000 in
theorem t_X2_allOffers_0 {h : mm_H} {Q : Option Value → mm_H → Prop} (sh : s_h h) 
    (F : Q (some (.int (((1 : Int32) <<< ((h_oi h 132 39) &&& 31)) - (1 : Int32)))) h) :
    w_c 0 16 [.ref 39] h Q := by
  refine w_ci (M := (2, 1, mc_X2_allOffers)) rfl (Nat.le_of_ble_eq_true rfl) ?_
  show w_p _ _ 0 [(0, .ref 39)] [] h Q
  refine w_b 2 2 [(0, .ref 39)] [.ref 39, .int 1] rfl ?_
  refine w_get (g := 132) rfl rfl rfl (kd_39 sh) ?_
  refine w_b 3 8 [(0, .ref 39)] [.int (((1 : Int32) <<< ((h_oi h 132 39) &&& 31)) - (1 : Int32))] rfl ?_
  exact w_ir rfl F

set_option maxRecDepth 20000 in
theorem t_X2_match_0 {D : Nat} {h : mm_H} {Q : Option Value → mm_H → Prop} (sh : s_h h) {K14 : Int32 → Int32 → Int32 → mm_H → Prop} (k14 : ∀ (x1 : Int32) (x2 : Int32) (x3 : Int32) (h : mm_H), K14 x1 x2 x3 h → w_p (D + 1) (2, 4, mc_X2_match) 14 [(0, .ref 39), (1, .int x1), (2, .int x2), (3, .int x3)] [] h Q) 
    (F : w_c D 16 [.ref 39] h (fun r h1 => ∃ z2 : Int32, r = some (.int z2) ∧ s_h h1 ∧ w_c D 17 [.ref 39, .int 0, .int z2] h1 (fun r h3 => ∃ z4 : Int32, r = some (.int z4) ∧ s_h h3 ∧ K14 z2 z4 0 h3))) :
    w_c (D + 1) 19 [.ref 39] h Q := by
  refine w_ci (M := (2, 4, mc_X2_match)) rfl (Nat.le_of_ble_eq_true rfl) ?_
  show w_p _ _ 0 [(0, .ref 39)] [] h Q
  refine w_b 1 1 [(0, .ref 39)] [.ref 39] rfl ?_
  refine w_cv (As := []) (b := 39) (rest := []) rfl rfl rfl (Nat.le_of_ble_eq_true rfl) (kd_39 sh) (fun z => absurd z (by decide)) (dc := D) (by omega) (F.mono (fun r h1 F => ?_))
  obtain ⟨z2, rfl, sh1, F⟩ := F
  show w_p _ _ 4 [(0, .ref 39)] [.int z2] h1 _
  refine w_b 4 8 [(1, .int z2), (0, .ref 39)] [.int z2, .int 0, .ref 39] rfl ?_
  refine w_cv (As := [.int 0, .int z2]) (b := 39) (rest := []) rfl rfl rfl (Nat.le_of_ble_eq_true rfl) (kd_39 sh1) (fun z => absurd z (by decide)) (dc := D) (by omega) (F.mono (fun r h3 F => ?_))
  obtain ⟨z4, rfl, sh3, F⟩ := F
  show w_p _ _ 11 [(1, .int z2), (0, .ref 39)] [.int z4] h3 _
  refine w_b 3 14 [(3, .int 0), (2, .int z4), (1, .int z2), (0, .ref 39)] [] rfl ?_
  refine w_lo [0, 1, 2, 3] [(0, .ref 39), (1, .int z2), (2, .int z4), (3, .int 0)] rfl rfl ?_
  exact k14 _ _ _ _ F

set_option maxRecDepth 20000 in
theorem t_X2_match_14 {D : Nat} {h : mm_H} {Q : Option Value → mm_H → Prop} (sh : s_h h) (x1 : Int32) (x2 : Int32) (x3 : Int32) {K14 : Int32 → Int32 → Int32 → mm_H → Prop} (k14 : ∀ (x1 : Int32) (x2 : Int32) (x3 : Int32) (h : mm_H), K14 x1 x2 x3 h → w_p (D + 1) (2, 4, mc_X2_match) 14 [(0, .ref 39), (1, .int x1), (2, .int x2), (3, .int x3)] [] h Q) 
    (F : (((h_oi h 131 39) ≤ x3 → Q none h) ∧ (¬ ((h_oi h 131 39) ≤ x3) → ((x2 ≤ 0 → Q none h) ∧ (¬ (x2 ≤ 0) → w_c D 20 [.ref 39, .int x3, .int x1, .int x2] h (fun r h3 => ∃ z4 : Int32, r = some (.int z4) ∧ s_h h3 ∧ (vp_in x3 10 ∧ (vp_in x3 10 ∧ (((va_up (h_ai h3 41) x3.toNatClampNeg z4 x3.toNatClampNeg) = (-4) → K14 x1 x2 (x3 + 1) (h_sA h3 41 x3.toNatClampNeg z4)) ∧ (¬ ((va_up (h_ai h3 41) x3.toNatClampNeg z4 x3.toNatClampNeg) = (-4)) → (vp_in x3 10 ∧ K14 (x1 &&& (((1 : Int32) <<< ((va_up (h_ai h3 41) x3.toNatClampNeg z4 x3.toNatClampNeg) &&& 31)) ^^^ (-1 : Int32))) (x2 + (-1)) (x3 + 1) (h_sA h3 41 x3.toNatClampNeg z4)))))))))))) :
    w_p (D + 1) (2, 4, mc_X2_match) 14 [(0, .ref 39), (1, .int x1), (2, .int x2), (3, .int x3)] [] h Q := by
  refine w_b 2 16 [(0, .ref 39), (1, .int x1), (2, .int x2), (3, .int x3)] [.ref 39, .int x3] rfl ?_
  refine w_get (g := 131) rfl rfl rfl (kd_39 sh) ?_
  refine w_ic_ge (tgt := 72) (x := x3) (y := h_oi h 131 39) rfl (by decide) ⟨fun c1 => ?_, fun c1 => ?_⟩
  · have F := F.1 c1
    exact w_vr rfl F
  · have F := F.2 c1
    refine w_b 1 23 [(0, .ref 39), (1, .int x1), (2, .int x2), (3, .int x3)] [.int x2] rfl ?_
    refine w_if_le (tgt := 72) (x := x2) rfl (by decide) ⟨fun c2 => ?_, fun c2 => ?_⟩
    · have F := F.1 c2
      exact w_vr rfl F
    · have F := F.2 c2
      refine w_b 1 27 [(0, .ref 39), (1, .int x1), (2, .int x2), (3, .int x3)] [.ref 39] rfl ?_
      refine w_getS (b := 41) rfl rfl rfl (kd_39 sh) (or_129_39 sh) ?_
      refine w_b 5 35 [(0, .ref 39), (1, .int x1), (2, .int x2), (3, .int x3)] [.int x2, .int x1, .int x3, .ref 39, .int x3, .ref 41] rfl ?_
      refine w_cv (As := [.int x3, .int x1, .int x2]) (b := 39) (rest := [.int x3, .ref 41]) rfl rfl rfl (Nat.le_of_ble_eq_true rfl) (kd_39 sh) (fun z => absurd z (by decide)) (dc := D) (by omega) (F.mono (fun r h3 F => ?_))
      obtain ⟨z4, rfl, sh3, F⟩ := F
      show w_p _ _ 38 [(0, .ref 39), (1, .int x1), (2, .int x2), (3, .int x3)] [.int z4, .int x3, .ref 41] h3 _
      obtain ⟨g5, F⟩ := F
      refine w_iast rfl (kd_41 sh3) (by decide) (by rw [show h_al h3 41 = 10 from (al_41 sh3)]; exact g5) ?_
      refine w_b 1 40 [(0, .ref 39), (1, .int x1), (2, .int x2), (3, .int x3)] [.ref 39] rfl ?_
      refine w_getS (b := 41) rfl rfl rfl (kd_39 sh3) (or_129_39 sh3) ?_
      refine w_b 1 44 [(0, .ref 39), (1, .int x1), (2, .int x2), (3, .int x3)] [.int x3, .ref 41] rfl ?_
      obtain ⟨g6, F⟩ := F
      refine w_iald rfl (kd_41 sh3) (by rw [show h_al (h_sA h3 41 x3.toNatClampNeg z4) 41 = 10 from (al_41 sh3)]; exact g6) ?_
      refine w_b 1 47 [(0, .ref 39), (1, .int x1), (2, .int x2), (3, .int x3)] [.int (-4), .int (va_up (h_ai h3 41) x3.toNatClampNeg z4 x3.toNatClampNeg)] rfl ?_
      refine w_ic_eq (tgt := 66) (x := va_up (h_ai h3 41) x3.toNatClampNeg z4 x3.toNatClampNeg) (y := (-4)) rfl (by decide) ⟨fun c7 => ?_, fun c7 => ?_⟩
      · have F := F.1 c7
        refine w_b 2 14 [(3, .int (x3 + 1)), (0, .ref 39), (1, .int x1), (2, .int x2)] [] rfl ?_
        refine w_lo [0, 1, 2, 3] [(0, .ref 39), (1, .int x1), (2, .int x2), (3, .int (x3 + 1))] rfl rfl ?_
        exact k14 _ _ _ _ F
      · have F := F.2 c7
        refine w_b 3 53 [(0, .ref 39), (1, .int x1), (2, .int x2), (3, .int x3)] [.ref 39, .int 1, .int x1] rfl ?_
        refine w_getS (b := 41) rfl rfl rfl (kd_39 sh3) (or_129_39 sh3) ?_
        refine w_b 1 57 [(0, .ref 39), (1, .int x1), (2, .int x2), (3, .int x3)] [.int x3, .ref 41, .int 1, .int x1] rfl ?_
        obtain ⟨g8, F⟩ := F
        refine w_iald rfl (kd_41 sh3) (by rw [show h_al (h_sA h3 41 x3.toNatClampNeg z4) 41 = 10 from (al_41 sh3)]; exact g8) ?_
        refine w_b 8 14 [(3, .int (x3 + 1)), (2, .int (x2 + (-1))), (1, .int (x1 &&& (((1 : Int32) <<< ((va_up (h_ai h3 41) x3.toNatClampNeg z4 x3.toNatClampNeg) &&& 31)) ^^^ (-1 : Int32)))), (0, .ref 39)] [] rfl ?_
        refine w_lo [0, 1, 2, 3] [(0, .ref 39), (1, .int (x1 &&& (((1 : Int32) <<< ((va_up (h_ai h3 41) x3.toNatClampNeg z4 x3.toNatClampNeg) &&& 31)) ^^^ (-1 : Int32)))), (2, .int (x2 + (-1))), (3, .int (x3 + 1))] rfl rfl ?_
        exact k14 _ _ _ _ F

set_option maxRecDepth 20000 in
theorem t_X2_leastOffer_0 {D : Nat} {h : mm_H} {Q : Option Value → mm_H → Prop} (sh : s_h h) (ask : Int32) (free : Int32) (left : Int32) {K3 : Int32 → Int32 → Int32 → Int32 → mm_H → Prop} (k3 : ∀ (ask : Int32) (free : Int32) (left : Int32) (x4 : Int32) (h : mm_H), K3 ask free left x4 h → w_p (D + 1) (2, 7, mc_X2_leastOffer) 3 [(0, .ref 39), (1, .int ask), (2, .int free), (3, .int left), (4, .int x4)] [] h Q) 
    (F : K3 ask free left 0 h) :
    w_c (D + 1) 20 [.ref 39, .int ask, .int free, .int left] h Q := by
  refine w_ci (M := (2, 7, mc_X2_leastOffer)) rfl (Nat.le_of_ble_eq_true rfl) ?_
  show w_p _ _ 0 [(0, .ref 39), (1, .int ask), (2, .int free), (3, .int left)] [] h Q
  refine w_b 2 3 [(4, .int 0), (0, .ref 39), (1, .int ask), (2, .int free), (3, .int left)] [] rfl ?_
  refine w_lo [0, 1, 2, 3, 4] [(0, .ref 39), (1, .int ask), (2, .int free), (3, .int left), (4, .int 0)] rfl rfl ?_
  exact k3 _ _ _ _ _ F

set_option maxRecDepth 20000 in
theorem t_X2_leastOffer_3 {D : Nat} {h : mm_H} {Q : Option Value → mm_H → Prop} (sh : s_h h) (ask : Int32) (free : Int32) (left : Int32) (x4 : Int32) {K3 : Int32 → Int32 → Int32 → Int32 → mm_H → Prop} (k3 : ∀ (ask : Int32) (free : Int32) (left : Int32) (x4 : Int32) (h : mm_H), K3 ask free left x4 h → w_p (D + 1) (2, 7, mc_X2_leastOffer) 3 [(0, .ref 39), (1, .int ask), (2, .int free), (3, .int left), (4, .int x4)] [] h Q) 
    (F : (((h_oi h 132 39) ≤ x4 → Q (some (.int (-4))) h) ∧ (¬ ((h_oi h 132 39) ≤ x4) → (vp_in ask 10 ∧ (((((h_ai h 40 ask.toNatClampNeg) &&& free) &&& ((1 : Int32) <<< (x4 &&& 31))) = 0 → K3 ask free left (x4 + 1) h) ∧ (¬ ((((h_ai h 40 ask.toNatClampNeg) &&& free) &&& ((1 : Int32) <<< (x4 &&& 31))) = 0) → w_c D 17 [.ref 39, .int (ask + 1), .int (free &&& (((1 : Int32) <<< (x4 &&& 31)) ^^^ (-1 : Int32)))] h (fun r h6 => ∃ z7 : Int32, r = some (.int z7) ∧ s_h h6 ∧ ((¬ z7 = (left - (1 : Int32)) → K3 ask free left (x4 + 1) h6) ∧ (z7 = (left - (1 : Int32)) → Q (some (.int x4)) h6))))))))) :
    w_p (D + 1) (2, 7, mc_X2_leastOffer) 3 [(0, .ref 39), (1, .int ask), (2, .int free), (3, .int left), (4, .int x4)] [] h Q := by
  refine w_b 2 6 [(0, .ref 39), (1, .int ask), (2, .int free), (3, .int left), (4, .int x4)] [.ref 39, .int x4] rfl ?_
  refine w_get (g := 132) rfl rfl rfl (kd_39 sh) ?_
  refine w_ic_ge (tgt := 72) (x := x4) (y := h_oi h 132 39) rfl (by decide) ⟨fun c1 => ?_, fun c1 => ?_⟩
  · have F := F.1 c1
    refine w_b 1 74 [(0, .ref 39), (1, .int ask), (2, .int free), (3, .int left), (4, .int x4)] [.int (-4)] rfl ?_
    exact w_ir rfl F
  · have F := F.2 c1
    refine w_b 5 19 [(5, .int ((1 : Int32) <<< (x4 &&& 31))), (0, .ref 39), (1, .int ask), (2, .int free), (3, .int left), (4, .int x4)] [.ref 39] rfl ?_
    refine w_getS (b := 40) rfl rfl rfl (kd_39 sh) (or_128_39 sh) ?_
    refine w_b 1 23 [(5, .int ((1 : Int32) <<< (x4 &&& 31))), (0, .ref 39), (1, .int ask), (2, .int free), (3, .int left), (4, .int x4)] [.int ask, .ref 40] rfl ?_
    obtain ⟨g2, F⟩ := F
    refine w_iald rfl (kd_40 sh) (by rw [show h_al h 40 = 10 from (al_40 sh)]; exact g2) ?_
    refine w_b 4 29 [(5, .int ((1 : Int32) <<< (x4 &&& 31))), (0, .ref 39), (1, .int ask), (2, .int free), (3, .int left), (4, .int x4)] [.int (((h_ai h 40 ask.toNatClampNeg) &&& free) &&& ((1 : Int32) <<< (x4 &&& 31)))] rfl ?_
    refine w_if_eq (tgt := 36) (x := ((h_ai h 40 ask.toNatClampNeg) &&& free) &&& ((1 : Int32) <<< (x4 &&& 31))) rfl (by decide) ⟨fun c3 => ?_, fun c3 => ?_⟩
    · have F := F.1 c3
      refine w_b 3 41 [(6, .int 0), (5, .int ((1 : Int32) <<< (x4 &&& 31))), (0, .ref 39), (1, .int ask), (2, .int free), (3, .int left), (4, .int x4)] [.int 0] rfl ?_
      refine w_if_eq (tgt := 66) (x := 0) rfl (by decide) ⟨fun _ => ?_, fun c4 => absurd (by decide) c4⟩
      refine w_b 2 3 [(4, .int (x4 + 1)), (6, .int 0), (5, .int ((1 : Int32) <<< (x4 &&& 31))), (0, .ref 39), (1, .int ask), (2, .int free), (3, .int left)] [] rfl ?_
      refine w_lo [0, 1, 2, 3, 4] [(0, .ref 39), (1, .int ask), (2, .int free), (3, .int left), (4, .int (x4 + 1))] rfl rfl ?_
      exact k3 _ _ _ _ _ F
    · have F := F.2 c3
      refine w_b 4 41 [(6, .int 1), (5, .int ((1 : Int32) <<< (x4 &&& 31))), (0, .ref 39), (1, .int ask), (2, .int free), (3, .int left), (4, .int x4)] [.int 1] rfl ?_
      refine w_if_eq (tgt := 66) (x := 1) rfl (by decide) ⟨fun c5 => absurd c5 (by decide), fun _ => ?_⟩
      refine w_b 9 54 [(6, .int 1), (5, .int ((1 : Int32) <<< (x4 &&& 31))), (0, .ref 39), (1, .int ask), (2, .int free), (3, .int left), (4, .int x4)] [.int (free &&& (((1 : Int32) <<< (x4 &&& 31)) ^^^ (-1 : Int32))), .int (ask + 1), .ref 39] rfl ?_
      refine w_cv (As := [.int (ask + 1), .int (free &&& (((1 : Int32) <<< (x4 &&& 31)) ^^^ (-1 : Int32)))]) (b := 39) (rest := []) rfl rfl rfl (Nat.le_of_ble_eq_true rfl) (kd_39 sh) (fun z => absurd z (by decide)) (dc := D) (by omega) (F.mono (fun r h6 F => ?_))
      obtain ⟨z7, rfl, sh6, F⟩ := F
      show w_p _ _ 57 [(6, .int 1), (5, .int ((1 : Int32) <<< (x4 &&& 31))), (0, .ref 39), (1, .int ask), (2, .int free), (3, .int left), (4, .int x4)] [.int z7] h6 _
      refine w_b 3 60 [(6, .int 1), (5, .int ((1 : Int32) <<< (x4 &&& 31))), (0, .ref 39), (1, .int ask), (2, .int free), (3, .int left), (4, .int x4)] [.int (left - (1 : Int32)), .int z7] rfl ?_
      refine w_ic_ne (tgt := 66) (x := z7) (y := left - (1 : Int32)) rfl (by decide) ⟨fun c8 => ?_, fun c8 => ?_⟩
      · have F := F.1 c8
        refine w_b 2 3 [(4, .int (x4 + 1)), (6, .int 1), (5, .int ((1 : Int32) <<< (x4 &&& 31))), (0, .ref 39), (1, .int ask), (2, .int free), (3, .int left)] [] rfl ?_
        refine w_lo [0, 1, 2, 3, 4] [(0, .ref 39), (1, .int ask), (2, .int free), (3, .int left), (4, .int (x4 + 1))] rfl rfl ?_
        exact k3 _ _ _ _ _ F
      · have F := F.2 (Decidable.not_not.mp c8)
        refine w_b 1 65 [(6, .int 1), (5, .int ((1 : Int32) <<< (x4 &&& 31))), (0, .ref 39), (1, .int ask), (2, .int free), (3, .int left), (4, .int x4)] [.int x4] rfl ?_
        exact w_ir rfl F

theorem maug_mtc {fit : Nat → Nat → Bool} {lo k no s : Nat} {F : Nat → Bool} {t t2 : Nat → Option Nat} (hlo : lo ≤ k) (hm : mtc fit lo k F no t) (hs : msz no t = s) (h : maug fit F no (fun _ => false) t k t2) : mtc fit lo (k + 1) F no t2 ∧ msz no t2 = s + 1 := by
  obtain ⟨_, h2, h3, h4⟩ := h
  refine ⟨fun o ho a e => ?_, ?_⟩
  · obtain ⟨p1, p2, p3⟩ := h2 o ho rfl a e
    refine ⟨?_, p2, p3, fun o2 ho2 e2 => (h3 o o2 ho ho2 rfl rfl a e e2).symm⟩
    rcases p1 with rfl | ⟨o1, ho1, _, e1⟩
    · omega
    · have := (hm o1 ho1 a e1).1
      omega
  · unfold msz at hs ⊢
    simpa [hs] using h4
theorem mpre_mtc {fit : Nat → Nat → Bool} {lo k no : Nat} {F : Nat → Bool} {t : Nat → Option Nat} (hm : mtc fit lo k F no t) : mpre fit F no (fun _ => false) t k := by
  refine ⟨fun o o2 ho ho2 _ _ a e e2 => ((hm o ho a e).2.2.2 o2 ho2 e2).symm, fun o ho _ a e => ?_⟩
  obtain ⟨p1, p2, p3, _⟩ := hm o ho a e
  exact ⟨p2, p3, by omega⟩
theorem cM.fit {h : mm_H} {na no : Nat} {fit : Nat → Nat → Bool} (H : cM h na no fit) {a o : Nat} (ha : a < na) (ho : o < no) : bt (h_ai h 40 a) o = fit a o := H.2.2.2 a ha o ho
set_option maxHeartbeats 1000000 in
theorem c_most {h : mm_H} {Q : Option Value → mm_H → Prop} {na no : Nat} {fit : Nat → Nat → Bool} (sh : s_h h) (M : cM h na no fit) {first : Nat} {free : Int32} (hf : first ≤ na) (k : ∀ h', fx h h' [(133, 39)] [42] → dn h h' → Q (some (.int (nI (mN fit first na (fun o => bt free o) no)))) h') : w_c 12 17 [.ref 39, .int (nI first), .int free] h Q := by
  obtain ⟨hna, hno⟩ := M.1
  have loop : ∀ m j, j + m = na → first ≤ j → ∀ (h1 : mm_H) (t : Nat → Option Nat) (s : Nat), fx h h1 [(133, 39)] [42] → dn h h1 → cTk h1 na no t → mtc fit first j (fun o => bt free o) no t → (∀ t, mtc fit first j (fun o => bt free o) no t → msz no t ≤ s) → msz no t = s → w_p (11 + 1) (2, 5, mc_X2_mostPairsFrom) 14 [(0, .ref 39), (1, .int (nI first)), (2, .int free), (3, .int (nI s)), (4, .int (nI j))] [] h1 Q := by
    intro m
    induction m with
    | zero =>
      intro j hj hfj h1 t s f d Tk m1 m2 m3
      have M1 := M.fx f (by decide) (by decide) (by decide)
      have ej : j = na := by omega
      subst ej
      refine t_X2_mostPairsFrom_14 (f.sh sh (by decide)) _ _ _ _ (K14 := fun _ _ _ _ _ => False) (fun _ _ _ _ _ z => z.elim) ⟨fun _ => ?_, fun c => absurd ?_ c⟩
      · rw [← mN_eq (s := s) ⟨⟨t, m1, m3⟩, m2⟩]
        exact k h1 f d
      · rw [M1.2.1, i_le (by omega) (by omega)]
        exact Nat.le_refl _
    | succ m ih =>
      intro j hj hfj h1 t s f d Tk m1 m2 m3
      have M1 := M.fx f (by decide) (by decide) (by decide)
      have hs : s ≤ no := by rw [← m3]; exact msz_le
      refine t_X2_mostPairsFrom_14 (f.sh sh (by decide)) _ _ _ _ (K14 := fun x1 x2 x3 x4 hh => x1 = nI first ∧ x2 = free ∧ x4 = nI (j + 1) ∧ ∃ t s, x3 = nI s ∧ fx h hh [(133, 39)] [42] ∧ dn h hh ∧ cTk hh na no t ∧ mtc fit first (j + 1) (fun o => bt free o) no t ∧ (∀ t, mtc fit first (j + 1) (fun o => bt free o) no t → msz no t ≤ s) ∧ msz no t = s) (fun x1 x2 x3 x4 hh q => ?_) ⟨fun c => ?_, fun c => ?_⟩
      · obtain ⟨rfl, rfl, rfl, t2, s2, rfl, q1, q2, q3, q4, q5, q6⟩ := q
        exact ih (j + 1) (by omega) (by omega) hh t2 s2 q1 q2 q3 q4 q5 q6
      · rw [M1.2.1, i_le (by omega) (by omega)] at c
        omega
      · have f2 : fx h (h_sI h1 133 39 0) [(133, 39)] [42] := f.sI _ (by decide)
        have d2 : dn h (h_sI h1 133 39 0) := d.sI _ (by decide)
        have f2b : fx h1 (h_sI h1 133 39 0) [(133, 39)] [] := (fx.rf _ _ _).sI _ (by decide)
        have Tr : cTr (h_sI h1 133 39 0) no (fun _ => false) := fun i hi => b_0 i
        refine c_take 10 (T := fun _ => false) (t := t) (dep := 0) (ask := j) (f2.sh sh (by decide)) (M1.fx f2b (by decide) (by decide) (by decide)) (Tk.fx f2b (by decide)) Tr (by omega) ?_ (by decide) (mpre_mtc m1) (fun h3 T2 f3 d3 Tr3 mf => ?_) (fun h3 t2 f3 d3 Tk3 ma => ?_)
        · exact Nat.le_trans (fb_ct_le _ _) hno
        · have f4 : fx h h3 [(133, 39)] [42] := f2.tr f3 (by decide) (by decide) (by decide) (by decide)
          obtain ⟨_, g2, g3⟩ := mf
          have mm := mx_no m1 m2 m3 (fun a => ∀ o, o < no → bt free o = true → fit a o = true → T2 o = true) T2 g2 (fun a va => va) (fun o ho e => g3 o ho e rfl)
          exact ⟨0, rfl, f4.sh sh (by decide), fun _ => ⟨rfl, rfl, nI_1 j, t, s, rfl, f4, d2.tr d3, (Tk.fx f2b (by decide)).fx f3 (by decide), mm.1, mm.2, m3⟩, fun z => absurd rfl z⟩
        · have f4 : fx h h3 [(133, 39)] [42] := f2.tr f3 (by decide) (by decide) (by decide) (by decide)
          have mm := maug_mtc hfj m1 m3 ma
          exact ⟨1, rfl, f4.sh sh (by decide), fun z => absurd z (by decide), fun _ => ⟨rfl, rfl, nI_1 j, t2, s + 1, nI_1 s, f4, d2.tr d3, Tk3, mm.1, mx_yes m2 mm.1 mm.2, mm.2⟩⟩
  refine t_X2_mostPairsFrom_0 (D := 11) sh _ _ (K14 := fun x1 x2 x3 x4 hh => x1 = nI first ∧ x2 = free ∧ x3 = nI 0 ∧ x4 = nI first ∧ fx h hh [(133, 39)] [42] ∧ dn h hh ∧ ∀ i, i < 10 → h_ai hh 42 i = -4) (fun x1 x2 x3 x4 hh q => ?_) ?_
  · obtain ⟨rfl, rfl, rfl, rfl, q1, q2, q3⟩ := q
    have m0 := mx_0 (fit := fit) (lo := first) (F := fun o => bt x2 o) (no := no)
    exact loop (na - first) first (by omega) (Nat.le_refl _) hh (fun _ => none) 0 q1 q2 (fun o ho => ⟨q3 o (by omega), fun a e => by cases e⟩) m0.2.1 m0.1.2 m0.2.2
  · refine (c_fill_42 sh _ (fun h' f d r => ?_)).up (by decide)
    exact ⟨rfl, f.sh sh (by decide), rfl, rfl, rfl, rfl, f.tr (fx.rf _ [] []) (by decide) (by decide) (by decide) (by decide), d, r⟩
