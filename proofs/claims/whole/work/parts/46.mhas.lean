set_option maxRecDepth 20000 in
theorem t_X9_has_0 {h : mm_H} {Q : Option Value → mm_H → Prop} (sh : s_h h) (f : Int32) {K7 : Int32 → Int32 → Int32 → mm_H → Prop} (k7 : ∀ (f : Int32) (x2 : Int32) (x3 : Int32) (h : mm_H), K7 f x2 x3 h → w_p 0 (9, 4, mc_X9_has) 7 [(0, .ref 44), (1, .int f), (2, .int x2), (3, .int x3)] [] h Q) 
    (F : K7 f 0 (h_oi h 589 44) h) :
    w_c 0 121 [.ref 44, .int f] h Q := by
  refine w_ci (M := (9, 4, mc_X9_has)) rfl (Nat.le_of_ble_eq_true rfl) ?_
  show w_p _ _ 0 [(0, .ref 44), (1, .int f)] [] h Q
  refine w_b 3 3 [(2, .int 0), (0, .ref 44), (1, .int f)] [.ref 44] rfl ?_
  refine w_get (g := 589) rfl rfl rfl (kd_44 sh) ?_
  refine w_b 1 7 [(3, .int (h_oi h 589 44)), (2, .int 0), (0, .ref 44), (1, .int f)] [] rfl ?_
  refine w_lo [0, 1, 2, 3] [(0, .ref 44), (1, .int f), (2, .int 0), (3, .int (h_oi h 589 44))] rfl rfl ?_
  exact k7 _ _ _ _ F

set_option maxRecDepth 20000 in
theorem t_X9_has_7 {h : mm_H} {Q : Option Value → mm_H → Prop} (sh : s_h h) (f : Int32) (x2 : Int32) (x3 : Int32) {K7 : Int32 → Int32 → Int32 → mm_H → Prop} (k7 : ∀ (f : Int32) (x2 : Int32) (x3 : Int32) (h : mm_H), K7 f x2 x3 h → w_p 0 (9, 4, mc_X9_has) 7 [(0, .ref 44), (1, .int f), (2, .int x2), (3, .int x3)] [] h Q) 
    (F : (((h_oi h 588 44) < x3 → Q (some (.int x2)) h) ∧ (¬ ((h_oi h 588 44) < x3) → (vp_in (((2001 : Int32) * f) + x3) 24012 ∧ K7 f (x2 + (h_ai h 53 (((2001 : Int32) * f) + x3).toNatClampNeg)) (x3 + 1) h)))) :
    w_p 0 (9, 4, mc_X9_has) 7 [(0, .ref 44), (1, .int f), (2, .int x2), (3, .int x3)] [] h Q := by
  refine w_b 2 9 [(0, .ref 44), (1, .int f), (2, .int x2), (3, .int x3)] [.ref 44, .int x3] rfl ?_
  refine w_get (g := 588) rfl rfl rfl (kd_44 sh) ?_
  refine w_ic_gt (tgt := 36) (x := x3) (y := h_oi h 588 44) rfl (by decide) ⟨fun c1 => ?_, fun c1 => ?_⟩
  · have F := F.1 c1
    refine w_b 1 37 [(0, .ref 44), (1, .int f), (2, .int x2), (3, .int x3)] [.int x2] rfl ?_
    exact w_ir rfl F
  · have F := F.2 c1
    refine w_b 2 17 [(0, .ref 44), (1, .int f), (2, .int x2), (3, .int x3)] [.ref 44, .int x2] rfl ?_
    refine w_getS (b := 53) rfl rfl rfl (kd_44 sh) (or_595_44 sh) ?_
    refine w_b 5 27 [(0, .ref 44), (1, .int f), (2, .int x2), (3, .int x3)] [.int (((2001 : Int32) * f) + x3), .ref 53, .int x2] rfl ?_
    obtain ⟨g2, F⟩ := F
    refine w_iald rfl (kd_53 sh) (by rw [show h_al h 53 = 24012 from (al_53 sh)]; exact g2) ?_
    refine w_b 4 7 [(3, .int (x3 + 1)), (2, .int (x2 + (h_ai h 53 (((2001 : Int32) * f) + x3).toNatClampNeg))), (0, .ref 44), (1, .int f)] [] rfl ?_
    refine w_lo [0, 1, 2, 3] [(0, .ref 44), (1, .int f), (2, .int (x2 + (h_ai h 53 (((2001 : Int32) * f) + x3).toNatClampNeg))), (3, .int (x3 + 1))] rfl rfl ?_
    exact k7 _ _ _ _ F

set_option maxRecDepth 20000 in
theorem t_X9_oldest_0 {h : mm_H} {Q : Option Value → mm_H → Prop} (sh : s_h h) (f : Int32) {K5 : Int32 → Int32 → mm_H → Prop} (k5 : ∀ (f : Int32) (x2 : Int32) (h : mm_H), K5 f x2 h → w_p 0 (9, 3, mc_X9_oldest) 5 [(0, .ref 44), (1, .int f), (2, .int x2)] [] h Q) 
    (F : K5 f (h_oi h 589 44) h) :
    w_c 0 125 [.ref 44, .int f] h Q := by
  refine w_ci (M := (9, 3, mc_X9_oldest)) rfl (Nat.le_of_ble_eq_true rfl) ?_
  show w_p _ _ 0 [(0, .ref 44), (1, .int f)] [] h Q
  refine w_b 1 1 [(0, .ref 44), (1, .int f)] [.ref 44] rfl ?_
  refine w_get (g := 589) rfl rfl rfl (kd_44 sh) ?_
  refine w_b 1 5 [(2, .int (h_oi h 589 44)), (0, .ref 44), (1, .int f)] [] rfl ?_
  refine w_lo [0, 1, 2] [(0, .ref 44), (1, .int f), (2, .int (h_oi h 589 44))] rfl rfl ?_
  exact k5 _ _ _ F

set_option maxRecDepth 20000 in
theorem t_X9_oldest_5 {h : mm_H} {Q : Option Value → mm_H → Prop} (sh : s_h h) (f : Int32) (x2 : Int32) {K5 : Int32 → Int32 → mm_H → Prop} (k5 : ∀ (f : Int32) (x2 : Int32) (h : mm_H), K5 f x2 h → w_p 0 (9, 3, mc_X9_oldest) 5 [(0, .ref 44), (1, .int f), (2, .int x2)] [] h Q) 
    (F : (((h_oi h 588 44) < x2 → (((h_oi h 588 44) < x2 → Q (some (.int (-4))) h) ∧ (¬ ((h_oi h 588 44) < x2) → Q (some (.int x2)) h))) ∧ (¬ ((h_oi h 588 44) < x2) → (vp_in (((2001 : Int32) * f) + x2) 24012 ∧ ((¬ (h_ai h 53 (((2001 : Int32) * f) + x2).toNatClampNeg) = 0 → (((h_oi h 588 44) < x2 → Q (some (.int (-4))) h) ∧ (¬ ((h_oi h 588 44) < x2) → Q (some (.int x2)) h))) ∧ ((h_ai h 53 (((2001 : Int32) * f) + x2).toNatClampNeg) = 0 → K5 f (x2 + 1) h)))))) :
    w_p 0 (9, 3, mc_X9_oldest) 5 [(0, .ref 44), (1, .int f), (2, .int x2)] [] h Q := by
  refine w_b 2 7 [(0, .ref 44), (1, .int f), (2, .int x2)] [.ref 44, .int x2] rfl ?_
  refine w_get (g := 588) rfl rfl rfl (kd_44 sh) ?_
  refine w_ic_gt (tgt := 34) (x := x2) (y := h_oi h 588 44) rfl (by decide) ⟨fun c1 => ?_, fun c1 => ?_⟩
  · have F := F.1 c1
    refine w_b 2 36 [(0, .ref 44), (1, .int f), (2, .int x2)] [.ref 44, .int x2] rfl ?_
    refine w_get (g := 588) rfl rfl rfl (kd_44 sh) ?_
    refine w_ic_gt (tgt := 46) (x := x2) (y := h_oi h 588 44) rfl (by decide) ⟨fun c2 => ?_, fun c2 => ?_⟩
    · have F := F.1 c2
      refine w_b 1 48 [(0, .ref 44), (1, .int f), (2, .int x2)] [.int (-4)] rfl ?_
      exact w_ir rfl F
    · have F := F.2 c2
      refine w_b 2 48 [(0, .ref 44), (1, .int f), (2, .int x2)] [.int x2] rfl ?_
      exact w_ir rfl F
  · have F := F.2 c1
    refine w_b 1 14 [(0, .ref 44), (1, .int f), (2, .int x2)] [.ref 44] rfl ?_
    refine w_getS (b := 53) rfl rfl rfl (kd_44 sh) (or_595_44 sh) ?_
    refine w_b 5 24 [(0, .ref 44), (1, .int f), (2, .int x2)] [.int (((2001 : Int32) * f) + x2), .ref 53] rfl ?_
    obtain ⟨g3, F⟩ := F
    refine w_iald rfl (kd_53 sh) (by rw [show h_al h 53 = 24012 from (al_53 sh)]; exact g3) ?_
    refine w_if_ne (tgt := 34) (x := h_ai h 53 (((2001 : Int32) * f) + x2).toNatClampNeg) rfl (by decide) ⟨fun c4 => ?_, fun c4 => ?_⟩
    · have F := F.1 c4
      refine w_b 2 36 [(0, .ref 44), (1, .int f), (2, .int x2)] [.ref 44, .int x2] rfl ?_
      refine w_get (g := 588) rfl rfl rfl (kd_44 sh) ?_
      refine w_ic_gt (tgt := 46) (x := x2) (y := h_oi h 588 44) rfl (by decide) ⟨fun c5 => ?_, fun c5 => ?_⟩
      · have F := F.1 c5
        refine w_b 1 48 [(0, .ref 44), (1, .int f), (2, .int x2)] [.int (-4)] rfl ?_
        exact w_ir rfl F
      · have F := F.2 c5
        refine w_b 2 48 [(0, .ref 44), (1, .int f), (2, .int x2)] [.int x2] rfl ?_
        exact w_ir rfl F
    · have F := F.2 (Decidable.not_not.mp c4)
      refine w_b 2 5 [(2, .int (x2 + 1)), (0, .ref 44), (1, .int f)] [] rfl ?_
      refine w_lo [0, 1, 2] [(0, .ref 44), (1, .int f), (2, .int (x2 + 1))] rfl rfl ?_
      exact k5 _ _ _ F

set_option maxRecDepth 20000 in
theorem t_X9_may_0 {h : mm_H} {Q : Option Value → mm_H → Prop} (sh : s_h h) (f : Int32) (n : Int32) (debt : Int32) 
    (F : w_c 0 121 [.ref 44, .int f] h (fun r h1 => ∃ z2 : Int32, r = some (.int z2) ∧ s_h h1 ∧ (vp_in f 12 ∧ (((n - z2) ≤ 0 → ((debt < ((h_ai h1 50 f.toNatClampNeg) + 0) → Q (some (.int 0)) h1) ∧ (¬ (debt < ((h_ai h1 50 f.toNatClampNeg) + 0)) → Q (some (.int 1)) h1))) ∧ (¬ ((n - z2) ≤ 0) → ((debt < ((h_ai h1 50 f.toNatClampNeg) + (n - z2)) → Q (some (.int 0)) h1) ∧ (¬ (debt < ((h_ai h1 50 f.toNatClampNeg) + (n - z2))) → Q (some (.int 1)) h1))))))) :
    w_c 1 127 [.ref 44, .int f, .int n, .int debt] h Q := by
  refine w_ci (M := (9, 5, mc_X9_may)) rfl (Nat.le_of_ble_eq_true rfl) ?_
  show w_p _ _ 0 [(0, .ref 44), (1, .int f), (2, .int n), (3, .int debt)] [] h Q
  refine w_b 3 3 [(0, .ref 44), (1, .int f), (2, .int n), (3, .int debt)] [.int f, .ref 44, .int n] rfl ?_
  refine w_cv (As := [.int f]) (b := 44) (rest := [.int n]) rfl rfl rfl (Nat.le_of_ble_eq_true rfl) (kd_44 sh) (fun z => absurd z (by decide)) (dc := 0) (by omega) (F.mono (fun r h1 F => ?_))
  obtain ⟨z2, rfl, sh1, F⟩ := F
  show w_p _ _ 6 [(0, .ref 44), (1, .int f), (2, .int n), (3, .int debt)] [.int z2, .int n] h1 _
  refine w_b 3 10 [(4, .int (n - z2)), (0, .ref 44), (1, .int f), (2, .int n), (3, .int debt)] [.ref 44] rfl ?_
  refine w_getS (b := 50) rfl rfl rfl (kd_44 sh1) (or_592_44 sh1) ?_
  refine w_b 1 14 [(4, .int (n - z2)), (0, .ref 44), (1, .int f), (2, .int n), (3, .int debt)] [.int f, .ref 50] rfl ?_
  obtain ⟨g3, F⟩ := F
  refine w_iald rfl (kd_50 sh1) (by rw [show h_al h1 50 = 12 from (al_50 sh1)]; exact g3) ?_
  refine w_b 1 17 [(4, .int (n - z2)), (0, .ref 44), (1, .int f), (2, .int n), (3, .int debt)] [.int (n - z2), .int (h_ai h1 50 f.toNatClampNeg)] rfl ?_
  refine w_if_le (tgt := 25) (x := n - z2) rfl (by decide) ⟨fun c4 => ?_, fun c4 => ?_⟩
  · have F := F.1 c4
    refine w_b 3 28 [(4, .int (n - z2)), (0, .ref 44), (1, .int f), (2, .int n), (3, .int debt)] [.int debt, .int ((h_ai h1 50 f.toNatClampNeg) + 0)] rfl ?_
    refine w_ic_gt (tgt := 35) (x := (h_ai h1 50 f.toNatClampNeg) + 0) (y := debt) rfl (by decide) ⟨fun c5 => ?_, fun c5 => ?_⟩
    · have F := F.1 c5
      refine w_b 1 36 [(4, .int (n - z2)), (0, .ref 44), (1, .int f), (2, .int n), (3, .int debt)] [.int 0] rfl ?_
      exact w_br rfl (by decide) F
    · have F := F.2 c5
      refine w_b 2 36 [(4, .int (n - z2)), (0, .ref 44), (1, .int f), (2, .int n), (3, .int debt)] [.int 1] rfl ?_
      exact w_br rfl (by decide) F
  · have F := F.2 c4
    refine w_b 4 28 [(4, .int (n - z2)), (0, .ref 44), (1, .int f), (2, .int n), (3, .int debt)] [.int debt, .int ((h_ai h1 50 f.toNatClampNeg) + (n - z2))] rfl ?_
    refine w_ic_gt (tgt := 35) (x := (h_ai h1 50 f.toNatClampNeg) + (n - z2)) (y := debt) rfl (by decide) ⟨fun c6 => ?_, fun c6 => ?_⟩
    · have F := F.1 c6
      refine w_b 1 36 [(4, .int (n - z2)), (0, .ref 44), (1, .int f), (2, .int n), (3, .int debt)] [.int 0] rfl ?_
      exact w_br rfl (by decide) F
    · have F := F.2 c6
      refine w_b 2 36 [(4, .int (n - z2)), (0, .ref 44), (1, .int f), (2, .int n), (3, .int debt)] [.int 1] rfl ?_
      exact w_br rfl (by decide) F

/-! THE REFERENCE'S PURSES -/
theorem e2001 (f d : Nat) : (2001 : Int32) * nI f + nI d = nI (2001 * f + d) := by rw [show (2001 : Int32) = nI 2001 from rfl, pk_mul, nI_add]
theorem sm_z {f : Nat → Nat} {a : Nat} : ∀ (b : Nat), a ≤ b → (∀ d, a ≤ d → d < b → f d = 0) → fb_sm f b = fb_sm f a
  | 0, hab, _ => by rw [show a = 0 by omega]
  | b + 1, hab, h => by
    by_cases z : a = b + 1
    · rw [z]
    · rw [fb_sm_succ, h b (by omega) (by omega), Nat.add_zero]
      exact sm_z b (by omega) (fun d h1 h2 => h d h1 (by omega))
theorem sm_0 {f : Nat → Nat} {b : Nat} (h : ∀ d, d < b → f d = 0) : fb_sm f b = 0 := sm_z (a := 0) b (by omega) (fun d _ h2 => h d h2)
/-- day, cleared, notes -/
def mB (h : mm_H) (dy cl : Nat) (NT : Nat → Nat → Nat) : Prop := (cl ≤ dy ∧ dy ≤ 2000) ∧ h_oi h 588 44 = nI dy ∧ h_oi h 589 44 = nI cl ∧ (∀ f, f < 12 → ∀ d, d ≤ 2000 → h_ai h 53 (2001 * f + d) = nI (NT f d)) ∧ ∀ f, f < 12 → ∀ d, (d < cl ∨ dy < d) → NT f d = 0
theorem mB.fx {h h' : mm_H} {gs : List (Nat × Nat)} {as : List Nat} {dy cl : Nat} {NT : Nat → Nat → Nat} (H : mB h dy cl NT) (f : fx h h' gs as) (n1 : (588, 44) ∉ gs) (n2 : (589, 44) ∉ gs) (n3 : 53 ∉ as) : mB h' dy cl NT := by
  obtain ⟨h1, h2, h3, h4, h5⟩ := H
  refine ⟨h1, (f.oi _ _ (by decide) n1).trans h2, (f.oi _ _ (by decide) n2).trans h3, ?_, h5⟩
  rw [f.ai 53 (by decide) n3]
  exact h4
theorem mB.lo {h : mm_H} {dy cl : Nat} {NT : Nat → Nat → Nat} (H : mB h dy cl NT) {f : Nat} (hf : f < 12) : fb_sm (NT f) cl = 0 := sm_0 (fun d hd => H.2.2.2.2 f hf d (Or.inl hd))
theorem mB.hi {h : mm_H} {dy cl : Nat} {NT : Nat → Nat → Nat} (H : mB h dy cl NT) {f : Nat} (hf : f < 12) : fb_sm (NT f) 2001 = fb_sm (NT f) (dy + 1) := sm_z 2001 (by have := H.1; omega) (fun d h1 _ => H.2.2.2.2 f hf d (Or.inr (by omega)))
theorem m_has {h : mm_H} {Q : Option Value → mm_H → Prop} (sh : s_h h) {dy cl : Nat} {NT : Nat → Nat → Nat} (H : mB h dy cl NT) {f : Nat} (hf : f < 12) (k : Q (some (.int (nI (fb_sm (NT f) 2001)))) h) : w_c 0 121 [.ref 44, .int (nI f)] h Q := by
  have hlo := H.lo hf
  have hhi := H.hi hf
  obtain ⟨⟨h1, h2⟩, h3, h4, h5, h6⟩ := id H
  have loop : ∀ w d, d + w = dy + 1 → w_p 0 (9, 4, mc_X9_has) 7 [(0, .ref 44), (1, .int (nI f)), (2, .int (nI (fb_sm (NT f) d))), (3, .int (nI d))] [] h Q := by
    intro w
    induction w with
    | zero =>
      intro d hd
      refine t_X9_has_7 sh _ _ _ (K7 := fun _ _ _ _ => False) (fun _ _ _ _ z => z.elim) ⟨fun _ => ?_, fun z => absurd ?_ z⟩
      · rw [show d = dy + 1 by omega, ← hhi]
        exact k
      · rw [h3, i_lt (by omega) (by omega)]
        omega
    | succ w ih =>
      intro d hd
      refine t_X9_has_7 sh _ _ _ (K7 := fun y1 y2 y3 hh => y1 = nI f ∧ y2 = nI (fb_sm (NT f) (d + 1)) ∧ y3 = nI (d + 1) ∧ hh = h) (fun y1 y2 y3 hh z => ?_) ⟨fun z => ?_, fun _ => ?_⟩
      · obtain ⟨rfl, rfl, rfl, rfl⟩ := z
        exact ih (d + 1) (by omega)
      · rw [h3, i_lt (by omega) (by omega)] at z
        omega
      · rw [e2001, i_cl (by omega), h5 f hf d (by omega), nI_add]
        exact ⟨vp_in_nI (by omega) (by decide), rfl, rfl, nI_1 d, rfl⟩
  refine t_X9_has_0 sh _ (K7 := fun y1 y2 y3 hh => y1 = nI f ∧ y2 = nI (fb_sm (NT f) cl) ∧ y3 = nI cl ∧ hh = h) (fun y1 y2 y3 hh z => ?_) ⟨rfl, by rw [hlo]; rfl, h4, rfl⟩
  obtain ⟨rfl, rfl, rfl, rfl⟩ := z
  exact loop (dy + 1 - cl) cl (by omega)
/-- the oldest day of which there are notes -/
theorem a_old_ex (nt : Nat → Nat) : ∃ o : Option Nat, (∀ d, o = some d → d < 2001 ∧ 0 < nt d ∧ ∀ e, e < d → nt e = 0) ∧ (o = none → ∀ e, e < 2001 → nt e = 0) := by
  by_cases z : ∃ d, d < 2001 ∧ 0 < nt d
  · obtain ⟨d, h1, h2, h3⟩ := fb_first (p := fun d => 0 < nt d) z
    refine ⟨some d, fun d' e => ?_, fun e => (by cases e)⟩
    cases e
    exact ⟨h1, h2, fun e he => Nat.eq_zero_of_not_pos (h3 e he)⟩
  · refine ⟨none, fun d' e => (by cases e), fun _ e he => ?_⟩
    exact Nat.eq_zero_of_not_pos (fun y => z ⟨e, he, y⟩)
noncomputable def a_old (nt : Nat → Nat) : Option Nat := Classical.choose (a_old_ex nt)
theorem a_old_lt {nt : Nat → Nat} {d : Nat} (h : a_old nt = some d) : d < 2001 := ((Classical.choose_spec (a_old_ex nt)).1 d h).1
theorem a_old_some {nt : Nat → Nat} {d : Nat} (hd : d < 2001) (h1 : 0 < nt d) (h2 : ∀ e, e < d → nt e = 0) : a_old nt = some d := by
  obtain ⟨s1, s2⟩ := Classical.choose_spec (a_old_ex nt)
  cases e : a_old nt with
  | none =>
    have := s2 e d hd
    omega
  | some d' =>
    obtain ⟨t1, t2, t3⟩ := s1 d' e
    rcases Nat.lt_trichotomy d' d with z | z | z
    · have := h2 d' z; omega
    · rw [z]
    · have := t3 d z; omega
theorem a_old_none {nt : Nat → Nat} (h2 : ∀ e, e < 2001 → nt e = 0) : a_old nt = none := by
  obtain ⟨s1, s2⟩ := Classical.choose_spec (a_old_ex nt)
  cases e : a_old nt with
  | none => rfl
  | some d' =>
    obtain ⟨t1, t2, t3⟩ := s1 d' e
    have := h2 d' t1
    omega
theorem m_oldest {h : mm_H} {Q : Option Value → mm_H → Prop} (sh : s_h h) {dy cl : Nat} {NT : Nat → Nat → Nat} (H : mB h dy cl NT) {f : Nat} (hf : f < 12) (hb : ∀ d, NT f d < 2147483648) (k : Q (some (.int (oN (a_old (NT f))))) h) : w_c 0 125 [.ref 44, .int (nI f)] h Q := by
  obtain ⟨⟨h1, h2⟩, h3, h4, h5, h6⟩ := id H
  have loop : ∀ w d, d + w = dy + 1 → (∀ e, e < d → NT f e = 0) → w_p 0 (9, 3, mc_X9_oldest) 5 [(0, .ref 44), (1, .int (nI f)), (2, .int (nI d))] [] h Q := by
    intro w
    induction w with
    | zero =>
      intro d hd hz
      have e0 : a_old (NT f) = none := a_old_none (fun e _ => by
        rcases Nat.lt_or_ge e d with y | y
        · exact hz e y
        · exact h6 f hf e (Or.inr (by omega)))
      rw [e0] at k
      refine t_X9_oldest_5 sh _ _ (K5 := fun _ _ _ => False) (fun _ _ _ z => z.elim) ⟨fun _ => ⟨fun _ => k, fun z => absurd ?_ z⟩, fun z => absurd ?_ z⟩ <;>
      · rw [h3, i_lt (by omega) (by omega)]
        omega
    | succ w ih =>
      intro d hd hz
      have e1 := h5 f hf d (by omega)
      have c1 : ¬ (h_oi h 588 44 < nI d) := fun z => by
        rw [h3, i_lt (by omega) (by omega)] at z
        omega
      refine t_X9_oldest_5 sh _ _ (K5 := fun y1 y2 hh => y1 = nI f ∧ y2 = nI (d + 1) ∧ hh = h ∧ NT f d = 0) (fun y1 y2 hh z => ?_) ⟨fun z => absurd z c1, fun _ => ?_⟩
      · obtain ⟨rfl, rfl, rfl, y⟩ := z
        refine ih (d + 1) (by omega) (fun e he => ?_)
        by_cases w : e = d
        · rw [w]; exact y
        · exact hz e (by omega)
      · rw [e2001, i_cl (by omega), e1]
        refine ⟨vp_in_nI (by omega) (by decide), fun z => ⟨fun y => absurd y c1, fun _ => ?_⟩, fun z => ⟨rfl, nI_1 d, rfl, ?_⟩⟩
        · have : 0 < NT f d := Nat.pos_of_ne_zero (fun y => z (by rw [y]; rfl))
          rw [a_old_some (by omega) this hz] at k
          exact k
        · exact (nI_eqI (b := 0) (hb d) (by decide)).mp z
  refine t_X9_oldest_0 sh _ (K5 := fun y1 y2 hh => y1 = nI f ∧ y2 = nI cl ∧ hh = h) (fun y1 y2 hh z => ?_) ⟨rfl, h4, rfl⟩
  obtain ⟨rfl, rfl, rfl⟩ := z
  exact loop (dy + 1 - cl) cl (by omega) (fun e he => h6 f hf e (Or.inl he))
def mOw (h : mm_H) (ow : Nat → Nat) : Prop := ∀ f, f < 12 → h_ai h 50 f = nI (ow f)
theorem mOw.fx {h h' : mm_H} {gs : List (Nat × Nat)} {as : List Nat} {ow : Nat → Nat} (H : mOw h ow) (f : fx h h' gs as) (n3 : 50 ∉ as) : mOw h' ow := by
  unfold mOw
  rw [f.ai 50 (by decide) n3]
  exact H
/-- what a family would owe -/
def a_owe (ow T : Nat) (n : Int32) : Int32 := nI ow + (if 0 < n - nI T then n - nI T else 0)
theorem m_may {h : mm_H} {Q : Option Value → mm_H → Prop} (sh : s_h h) {dy cl : Nat} {NT : Nat → Nat → Nat} {ow : Nat → Nat} (H : mB h dy cl NT) (O : mOw h ow) {f : Nat} (hf : f < 12) (n debt : Int32) (k0 : ¬ a_owe (ow f) (fb_sm (NT f) 2001) n ≤ debt → Q (some (.int 0)) h) (k1 : a_owe (ow f) (fb_sm (NT f) 2001) n ≤ debt → Q (some (.int 1)) h) : w_c 1 127 [.ref 44, .int (nI f), .int n, .int debt] h Q := by
  refine t_X9_may_0 sh _ _ _ (m_has sh H hf ⟨_, rfl, sh, vp_in_nI hf (by decide), ?_⟩)
  rw [i_cl (by omega), O f hf]
  unfold a_owe at k0 k1
  refine ⟨fun c => ?_, fun c => ?_⟩
  · have e : ¬ 0 < n - nI (fb_sm (NT f) 2001) := fun z => (fa_of_lt z).2.1 c
    rw [if_neg e] at k0 k1
    exact ⟨fun z => k0 ((fa_of_lt z).2.1), fun z => k1 (fa_of_nlt z)⟩
  · have e : 0 < n - nI (fb_sm (NT f) 2001) := fa_of_nle c
    rw [if_pos e] at k0 k1
    exact ⟨fun z => k0 ((fa_of_lt z).2.1), fun z => k1 (fa_of_nlt z)⟩
