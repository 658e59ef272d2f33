set_option maxRecDepth 20000 in
theorem t_X9_bar_0 {h : mm_H} {Q : Option Value → mm_H → Prop} (sh : s_h h) (f : Int32) (g : Int32) (on : Int32) 
    (F : w_c 1 118 [.ref 44, .int f] h (fun r h1 => ∃ z2 : Int32, r = some (.int z2) ∧ s_h h1 ∧ ((z2 = 0 → Q (some (.int (-1))) h1) ∧ (¬ (z2 = 0) → w_c 1 118 [.ref 44, .int g] h1 (fun r h4 => ∃ z5 : Int32, r = some (.int z5) ∧ s_h h4 ∧ ((z5 = 0 → Q (some (.int (-1))) h4) ∧ (¬ (z5 = 0) → ((¬ f = g → (vp_in (((12 : Int32) * f) + g) 144 ∧ (((h_ai h4 54 (((12 : Int32) * f) + g).toNatClampNeg) = 0 → (vp_in (((12 : Int32) * f) + g) 144 ∧ Q (some (.int 0)) (h_sA h4 54 ((((12 : Int32) * f) + g).toNatClampNeg) (vp_nar .boolean on)))) ∧ (¬ ((h_ai h4 54 (((12 : Int32) * f) + g).toNatClampNeg) = 0) → (vp_in (((12 : Int32) * f) + g) 144 ∧ Q (some (.int 1)) (h_sA h4 54 ((((12 : Int32) * f) + g).toNatClampNeg) (vp_nar .boolean on))))))) ∧ (f = g → Q (some (.int (-1))) h4))))))))) :
    w_c 2 124 [.ref 44, .int f, .int g, .int on] h Q := by
  refine w_ci (M := (9, 5, mc_X9_bar)) rfl (Nat.le_of_ble_eq_true rfl) ?_
  show w_p _ _ 0 [(0, .ref 44), (1, .int f), (2, .int g), (3, .int on)] [] h Q
  refine w_b 2 2 [(0, .ref 44), (1, .int f), (2, .int g), (3, .int on)] [.int f, .ref 44] rfl ?_
  refine w_cv (As := [.int f]) (b := 44) (rest := []) rfl rfl rfl (Nat.le_of_ble_eq_true rfl) (kd_44 sh) (fun z => absurd z (by decide)) (dc := 1) (by omega) (F.mono (fun r h1 F => ?_))
  obtain ⟨z2, rfl, sh1, F⟩ := F
  show w_p _ _ 5 [(0, .ref 44), (1, .int f), (2, .int g), (3, .int on)] [.int z2] h1 _
  refine w_if_eq (tgt := 21) (x := z2) rfl (by decide) ⟨fun c3 => ?_, fun c3 => ?_⟩
  · have F := F.1 c3
    refine w_b 1 22 [(0, .ref 44), (1, .int f), (2, .int g), (3, .int on)] [.int (-1)] rfl ?_
    exact w_ir rfl F
  · have F := F.2 c3
    refine w_b 2 10 [(0, .ref 44), (1, .int f), (2, .int g), (3, .int on)] [.int g, .ref 44] rfl ?_
    refine w_cv (As := [.int g]) (b := 44) (rest := []) rfl rfl rfl (Nat.le_of_ble_eq_true rfl) (kd_44 sh1) (fun z => absurd z (by decide)) (dc := 1) (by omega) (F.mono (fun r h4 F => ?_))
    obtain ⟨z5, rfl, sh4, F⟩ := F
    show w_p _ _ 13 [(0, .ref 44), (1, .int f), (2, .int g), (3, .int on)] [.int z5] h4 _
    refine w_if_eq (tgt := 21) (x := z5) rfl (by decide) ⟨fun c6 => ?_, fun c6 => ?_⟩
    · have F := F.1 c6
      refine w_b 1 22 [(0, .ref 44), (1, .int f), (2, .int g), (3, .int on)] [.int (-1)] rfl ?_
      exact w_ir rfl F
    · have F := F.2 c6
      refine w_b 2 18 [(0, .ref 44), (1, .int f), (2, .int g), (3, .int on)] [.int g, .int f] rfl ?_
      refine w_ic_ne (tgt := 23) (x := f) (y := g) rfl (by decide) ⟨fun c7 => ?_, fun c7 => ?_⟩
      · have F := F.1 c7
        refine w_b 1 24 [(0, .ref 44), (1, .int f), (2, .int g), (3, .int on)] [.ref 44] rfl ?_
        refine w_getS (b := 54) rfl rfl rfl (kd_44 sh4) (or_596_44 sh4) ?_
        refine w_b 5 33 [(0, .ref 44), (1, .int f), (2, .int g), (3, .int on)] [.int (((12 : Int32) * f) + g), .ref 54] rfl ?_
        obtain ⟨g8, F⟩ := F
        refine w_bald rfl (Or.inr (kd_54 sh4)) (by rw [show h_al h4 54 = 144 from (al_54 sh4)]; exact g8) ?_
        refine w_if_eq (tgt := 41) (x := h_ai h4 54 (((12 : Int32) * f) + g).toNatClampNeg) rfl (by decide) ⟨fun c9 => ?_, fun c9 => ?_⟩
        · have F := F.1 c9
          refine w_b 3 45 [(4, .int 0), (0, .ref 44), (1, .int f), (2, .int g), (3, .int on)] [.ref 44] rfl ?_
          refine w_getS (b := 54) rfl rfl rfl (kd_44 sh4) (or_596_44 sh4) ?_
          refine w_b 6 55 [(4, .int 0), (0, .ref 44), (1, .int f), (2, .int g), (3, .int on)] [.int on, .int (((12 : Int32) * f) + g), .ref 54] rfl ?_
          obtain ⟨g10, F⟩ := F
          refine w_zast rfl (kd_54 sh4) (by decide) (by rw [show h_al h4 54 = 144 from (al_54 sh4)]; exact g10) ?_
          refine w_b 1 58 [(4, .int 0), (0, .ref 44), (1, .int f), (2, .int g), (3, .int on)] [.int 0] rfl ?_
          exact w_ir rfl F
        · have F := F.2 c9
          refine w_b 4 45 [(4, .int 1), (0, .ref 44), (1, .int f), (2, .int g), (3, .int on)] [.ref 44] rfl ?_
          refine w_getS (b := 54) rfl rfl rfl (kd_44 sh4) (or_596_44 sh4) ?_
          refine w_b 6 55 [(4, .int 1), (0, .ref 44), (1, .int f), (2, .int g), (3, .int on)] [.int on, .int (((12 : Int32) * f) + g), .ref 54] rfl ?_
          obtain ⟨g11, F⟩ := F
          refine w_zast rfl (kd_54 sh4) (by decide) (by rw [show h_al h4 54 = 144 from (al_54 sh4)]; exact g11) ?_
          refine w_b 1 58 [(4, .int 1), (0, .ref 44), (1, .int f), (2, .int g), (3, .int on)] [.int 1] rfl ?_
          exact w_ir rfl F
      · have F := F.2 (Decidable.not_not.mp c7)
        refine w_b 1 22 [(0, .ref 44), (1, .int f), (2, .int g), (3, .int on)] [.int (-1)] rfl ?_
        exact w_ir rfl F

set_option maxRecDepth 20000 in
theorem t_X8_bar_0 {h : mm_H} {Q : Option Value → mm_H → Prop} (sh : s_h h) (f : Int32) (g : Int32) (on : Int32) 
    (F : w_c 0 87 [.ref 16, .int f] h (fun r h1 => ∃ z2 : Option Nat, r = some (va_rf z2) ∧ s_h h1 ∧ ((z2 = none → Q (some (.int (-1))) h1) ∧ (∀ a4 : Nat, z2 = some a4 → w_c 0 87 [.ref 16, .int g] h1 (fun r h5 => ∃ z6 : Option Nat, r = some (va_rf z6) ∧ s_h h5 ∧ ((z6 = none → Q (some (.int (-1))) h5) ∧ (∀ a8 : Nat, z6 = some a8 → ((¬ f = g → (h_kd h5 a4 = 1 ∧ w_c 0 1 [.ref a4, .int g] h5 (fun r h11 => ∃ z12 : Int32, r = some (.int z12) ∧ s_h h11 ∧ ((z12 = 0 → (h_kd h11 a4 = 1 ∧ w_c 0 2 [.ref a4, .int g, .int on] h11 (fun r h15 => r = none ∧ s_h h15 ∧ Q (some (.int 0)) h15))) ∧ (¬ (z12 = 0) → (h_kd h11 a4 = 1 ∧ w_c 0 2 [.ref a4, .int g, .int on] h11 (fun r h17 => r = none ∧ s_h h17 ∧ Q (some (.int 1)) h17))))))) ∧ (f = g → Q (some (.int (-1))) h5))))))))) :
    w_c 2 71 [.ref 16, .int f, .int g, .int on] h Q := by
  refine w_ci (M := (8, 6, mc_X8_bar)) rfl (Nat.le_of_ble_eq_true rfl) ?_
  show w_p _ _ 0 [(0, .ref 16), (1, .int f), (2, .int g), (3, .int on)] [] h Q
  refine w_b 2 2 [(0, .ref 16), (1, .int f), (2, .int g), (3, .int on)] [.int f, .ref 16] rfl ?_
  refine w_cv (As := [.int f]) (b := 16) (rest := []) rfl rfl rfl (Nat.le_of_ble_eq_true rfl) (kd_16 sh) (fun z => absurd z (by decide)) (dc := 0) (by omega) (F.mono (fun r h1 F => ?_))
  obtain ⟨z2, rfl, sh1, F⟩ := F
  show w_p _ _ 5 [(0, .ref 16), (1, .int f), (2, .int g), (3, .int on)] [va_rf z2] h1 _
  refine w_astM (r := z2) (lo2 := [(4, va_rf z2), (0, .ref 16), (1, .int f), (2, .int g), (3, .int on)]) rfl (by decide) rfl ?_
  refine w_aldM (r := z2) rfl rfl ?_
  refine w_ifnull (tgt := 25) (r := z2) rfl (by decide) ⟨fun c3 => ?_, fun a4 c3 => ?_⟩
  · have F := F.1 c3
    refine w_b 1 26 [(4, va_rf z2), (0, .ref 16), (1, .int f), (2, .int g), (3, .int on)] [.int (-1)] rfl ?_
    exact w_ir rfl F
  · have F := F.2 a4 c3
    simp only [c3] ; show w_p _ _ 12 [(4, .ref a4), (0, .ref 16), (1, .int f), (2, .int g), (3, .int on)] [] h1 _
    refine w_b 2 14 [(4, .ref a4), (0, .ref 16), (1, .int f), (2, .int g), (3, .int on)] [.int g, .ref 16] rfl ?_
    refine w_cv (As := [.int g]) (b := 16) (rest := []) rfl rfl rfl (Nat.le_of_ble_eq_true rfl) (kd_16 sh1) (fun z => absurd z (by decide)) (dc := 0) (by omega) (F.mono (fun r h5 F => ?_))
    obtain ⟨z6, rfl, sh5, F⟩ := F
    show w_p _ _ 17 [(4, .ref a4), (0, .ref 16), (1, .int f), (2, .int g), (3, .int on)] [va_rf z6] h5 _
    refine w_ifnull (tgt := 25) (r := z6) rfl (by decide) ⟨fun c7 => ?_, fun a8 c7 => ?_⟩
    · have F := F.1 c7
      refine w_b 1 26 [(4, .ref a4), (0, .ref 16), (1, .int f), (2, .int g), (3, .int on)] [.int (-1)] rfl ?_
      exact w_ir rfl F
    · have F := F.2 a8 c7
      refine w_b 2 22 [(4, .ref a4), (0, .ref 16), (1, .int f), (2, .int g), (3, .int on)] [.int g, .int f] rfl ?_
      refine w_ic_ne (tgt := 27) (x := f) (y := g) rfl (by decide) ⟨fun c9 => ?_, fun c9 => ?_⟩
      · have F := F.1 c9
        refine w_b 2 30 [(4, .ref a4), (0, .ref 16), (1, .int f), (2, .int g), (3, .int on)] [.int g, .ref a4] rfl ?_
        obtain ⟨g10, F⟩ := F
        refine w_cv (As := [.int g]) (b := a4) (rest := []) rfl rfl rfl (Nat.le_of_ble_eq_true rfl) g10 (fun z => absurd z (by decide)) (dc := 0) (by omega) (F.mono (fun r h11 F => ?_))
        obtain ⟨z12, rfl, sh11, F⟩ := F
        show w_p _ _ 33 [(4, .ref a4), (0, .ref 16), (1, .int f), (2, .int g), (3, .int on)] [.int z12] h11 _
        refine w_if_eq (tgt := 40) (x := z12) rfl (by decide) ⟨fun c13 => ?_, fun c13 => ?_⟩
        · have F := F.1 c13
          refine w_b 5 47 [(5, .int 0), (4, .ref a4), (0, .ref 16), (1, .int f), (2, .int g), (3, .int on)] [.int on, .int g, .ref a4] rfl ?_
          obtain ⟨g14, F⟩ := F
          refine w_cv (As := [.int g, .int on]) (b := a4) (rest := []) rfl rfl rfl (Nat.le_of_ble_eq_true rfl) g14 (fun z => absurd z (by decide)) (dc := 0) (by omega) (F.mono (fun r h15 F => ?_))
          obtain ⟨rfl, sh15, F⟩ := F
          show w_p _ _ 50 [(5, .int 0), (4, .ref a4), (0, .ref 16), (1, .int f), (2, .int g), (3, .int on)] [] h15 _
          refine w_b 1 52 [(5, .int 0), (4, .ref a4), (0, .ref 16), (1, .int f), (2, .int g), (3, .int on)] [.int 0] rfl ?_
          exact w_ir rfl F
        · have F := F.2 c13
          refine w_b 6 47 [(5, .int 1), (4, .ref a4), (0, .ref 16), (1, .int f), (2, .int g), (3, .int on)] [.int on, .int g, .ref a4] rfl ?_
          obtain ⟨g16, F⟩ := F
          refine w_cv (As := [.int g, .int on]) (b := a4) (rest := []) rfl rfl rfl (Nat.le_of_ble_eq_true rfl) g16 (fun z => absurd z (by decide)) (dc := 0) (by omega) (F.mono (fun r h17 F => ?_))
          obtain ⟨rfl, sh17, F⟩ := F
          show w_p _ _ 50 [(5, .int 1), (4, .ref a4), (0, .ref 16), (1, .int f), (2, .int g), (3, .int on)] [] h17 _
          refine w_b 1 52 [(5, .int 1), (4, .ref a4), (0, .ref 16), (1, .int f), (2, .int g), (3, .int on)] [.int 1] rfl ?_
          exact w_ir rfl F
      · have F := F.2 (Decidable.not_not.mp c9)
        refine w_b 1 26 [(4, .ref a4), (0, .ref 16), (1, .int f), (2, .int g), (3, .int on)] [.int (-1)] rfl ?_
        exact w_ir rfl F

/-! changes of families; bar -/
noncomputable def z_if {α : Type} (c : Prop) (x y : α) : α := @ite α c (Classical.propDecidable _) x y
theorem z_if_t {α : Type} {c : Prop} {x y : α} (h : c) : z_if c x y = x := by unfold z_if; exact if_pos h
theorem z_if_f {α : Type} {c : Prop} {x y : α} (h : ¬ c) : z_if c x y = y := by unfold z_if; exact if_neg h
def nSame (N N' : zN) (f : Nat) : Prop := N'.1 f = N.1 f ∧ N'.2.1 f = N.2.1 f ∧ N'.2.2.1 f = N.2.2.1 f ∧ N'.2.2.2.1 f = N.2.2.2.1 f ∧ N'.2.2.2.2 f = N.2.2.2.2 f
theorem cFs.upd {h h' : mm_H} {own own' cap cap' : Nat → Nat} {F F' : zF} {N N' : zN} {P Tc : Nat → Prop} (K : cFs h own cap F N) (hF : F'.1 ≤ 12) (e : ex h h' P) (ar : ∀ f, f < 12 → ¬ Tc f → h_ar h' 30 f = h_ar h 30 f) (hP : ∀ a, 70 ≤ a → a < h_n h → P a → Tc (own a)) (hown : ∀ a, a < h_n h → ¬ Tc (own a) → own' a = own a) (hs : ∀ f, ¬ Tc f → f < F'.1 → F'.2 f = true → (f < F.1 ∧ F.2 f = true) ∧ cap' f = cap f ∧ nSame N N' f) (hT : ∀ f, Tc f → f < F'.1 → F'.2 f = true → ∃ q p d n, cFo h' own' (cap' f) N' f q p d n) : cFs h' own' cap' F' N' := by
  intro f hf hp
  by_cases c : Tc f
  · exact hT f c hf hp
  · obtain ⟨⟨f1, f2⟩, f3, n1, n2, n3, n4, n5⟩ := hs f c hf hp
    obtain ⟨q, p, d, n, K⟩ := K f f1 f2
    obtain ⟨g1, ⟨g2, g3, g4, g5⟩, g6⟩ := K.frm e (ar f (by omega) c) (fun a ha h70 hlt hpa => c (by have := hP a h70 hlt hpa; rw [ha] at this; exact this))
    have K0 := K
    obtain ⟨-, -, k6⟩ := K0
    have kk := k6.2.2.2.k.2.2.2.1
    refine ⟨q, p, d, n, g1, ⟨?_, ?_, ?_, ?_⟩, ?_⟩
    · rw [hown q k6.1.2.2 (by rw [g2]; exact c)]; exact g2
    · rw [hown p kk.2.2.2.1 (by rw [g3]; exact c)]; exact g3
    · rw [hown d kk.2.2.2.2.1 (by rw [g4]; exact c)]; exact g4
    · rw [hown n kk.2.2.2.2.2.1 (by rw [g5]; exact c)]; exact g5
    · rw [f3, n1, n2, n3, n4, n5]; exact g6
theorem cSh.upd {h h' : mm_H} {own own' : Nat → Nat} {H : zH} {P Tc : Nat → Prop} (K : cSh h own H) (e : ex h h' P) (ar : ∀ k, k < 4 → h_ar h' 43 k = h_ar h 43 k) (hP : ∀ a, 70 ≤ a → a < h_n h → P a → Tc (own a)) (hTc : ∀ k, k < 4 → ¬ Tc (12 + k)) (hown : ∀ a, a < h_n h → ¬ Tc (own a) → own' a = own a) : cSh h' own' H := by
  intro k hk
  obtain ⟨k1, k2⟩ := K k hk
  refine ⟨fun e0 => (ar k hk).trans (k1 e0), fun l n c e0 => ?_⟩
  obtain ⟨r, a, K⟩ := k2 l n c e0
  obtain ⟨g1, ⟨g2, g3⟩, g4⟩ := K.frm e (ar k hk) (fun a ha h70 hlt hpa => hTc k hk (by have := hP a h70 hlt hpa; rw [ha] at this; exact this))
  obtain ⟨-, -, ⟨-, -, k6⟩, -, -, ⟨-, -, k11⟩, -⟩ := K
  exact ⟨r, a, g1, ⟨by rw [hown r k6 (by rw [g2]; exact hTc k hk)]; exact g2, by rw [hown a k11 (by rw [g3]; exact hTc k hk)]; exact g3⟩, g4⟩
theorem CS.fam {h h' : mm_H} {own own' cap cap' : Nat → Nat} {T : zT} {X : zX} {dy : Nat} {ft : Int32} {F : zF} {A O : zV} {N N' : zN} {C C' : zC} {H : zH} {P Tc : Nat → Prop} (K : CS h own cap T X dy ft F A O N C H) (hF : F.1 ≤ 12) (e : ex h h' P) (f : fx h h' [(523, 16), (524, 16), (525, 16)] []) (hP : ∀ a, 70 ≤ a → a < h_n h → P a → Tc (own a)) (hTc : ∀ k, k < 4 → ¬ Tc (12 + k)) (hown : ∀ a, a < h_n h → ¬ Tc (own a) → own' a = own a) (hs : ∀ f, ¬ Tc f → cap' f = cap f ∧ nSame N N' f) (hT : ∀ f, Tc f → f < F.1 → F.2 f = true → ∃ q p d n, cFo h' own' (cap' f) N' f q p d n) (hC : cCt h' C') : CS h' own' cap' T X dy ft F A O N' C' H := by
  obtain ⟨k1, k2, k3, k4, k5, k6, k7, k8, k9, k10⟩ := K
  have ar : h_ar h' 30 = h_ar h 30 := f.ar 30 (by decide) (by decide)
  have ar2 : h_ar h' 43 = h_ar h 43 := f.ar 43 (by decide) (by decide)
  refine ⟨k1.fx f (by decide) (by decide), k2.fx f (by decide) (by decide) (fun i _ => List.not_mem_nil), k3.fx f (by decide), k4.fx f (by decide), ?_, k6.fx f (by decide) (by decide) (by decide) (by decide) (by decide), k7.fx f (by decide) (by decide) (by decide) (by decide) (by decide), k8.upd hF e (fun g _ _ => by rw [ar]) hP hown (fun g hg h1 h2 => ⟨⟨h1, h2⟩, (hs g hg).1, (hs g hg).2⟩) hT, hC, k10.upd e (fun k _ => by rw [ar2]) hP hTc hown⟩
  obtain ⟨p1, p2, p3⟩ := k5
  refine ⟨p1, (f.oi _ _ (by decide) (by decide)).trans p2, fun g hg => ?_⟩
  rw [ar]
  obtain ⟨q1, q2⟩ := p3 g hg
  refine ⟨q1, fun q eq => ?_⟩
  obtain ⟨z1, z2, z3, z4⟩ := q2 q eq
  exact ⟨z1, z2, Nat.lt_of_lt_of_le z3 e.1, ((e.2 q z3).1.1).trans z4⟩
def zBr (br : Int32) (g : Nat) (on : Int32) : Int32 := if on = 0 then br &&& (((1 : Int32) <<< (nI g &&& 31)) ^^^ (-1)) else br ||| ((1 : Int32) <<< (nI g &&& 31))
theorem bt_zBr (br : Int32) {g j : Nat} (on : Int32) (hg : g < 32) (hj : j < 32) : bt (zBr br g on) j = if j = g then (if on = 0 then false else true) else bt br j := by
  unfold zBr
  by_cases z : on = 0
  · rw [if_pos z, b_and, bt_not _ hj, bt_1 hg, if_pos z]
    by_cases y : j = g
    · rw [if_pos y, decide_eq_true y]; exact Bool.and_false _
    · rw [if_neg y, decide_eq_false y]; exact Bool.and_true _
  · rw [if_neg z, b_or, bt_1 hg, if_neg z]
    by_cases y : j = g
    · rw [if_pos y, decide_eq_true y]; exact Bool.or_true _
    · rw [if_neg y, decide_eq_false y]; exact Bool.or_false _
theorem c_setBar {h : mm_H} {Q : Option Value → mm_H → Prop} (sh : s_h h) {q p d n c : Nat} {nt : Nat → Nat} {ow : Nat} {br st sf : Int32} (F : cF1 h q p d n c nt ow br st sf) {g : Nat} {on : Int32} (k : Q none (h_sI h 2 q (zBr br g on))) : w_c 0 2 [.ref q, .int (nI g), .int on] h Q := by
  obtain ⟨⟨h1, h2, h3⟩, h4, ⟨h5, h6, h7, h8⟩, h9⟩ := id F
  have K := h9.k
  refine t_X0_setBar_0 sh q _ _ h1 K.1.1 h4 (by omega) (by have := K.2.2.2.1.1; omega) ?_
  rw [h6]
  unfold zBr at k
  exact ⟨fun c => by rw [if_pos c] at k; exact k, fun c => by rw [if_neg c] at k; exact k⟩
def zBk (F : zF) (f g : Int32) : Prop := isP F.1 F.2 f ∧ isP F.1 F.2 g ∧ f ≠ g
noncomputable def r_bar (F : zF) (N : zN) (f g : Int32) : Int32 := r_if (zBk F f g) (if bt (N.2.2.1 f.toNatClampNeg) g.toNatClampNeg = true then 1 else 0) (-1)
noncomputable def n_bar (F : zF) (N : zN) (f g on : Int32) : zN := z_if (zBk F f g) (N.1, N.2.1, va_up N.2.2.1 f.toNatClampNeg (zBr (N.2.2.1 f.toNatClampNeg) g.toNatClampNeg on), N.2.2.2) N
theorem c_bar {h : mm_H} {Q : Option Value → mm_H → Prop} {own cap : Nat → Nat} {T : zT} {X : zX} {dy W : Nat} {ft : Int32} {F : zF} {A O : zV} {N : zN} {C : zC} {H : zH} (sh : s_h h) (K : CS h own cap T X dy ft F A O N C H) (Z : zP W cap F A O N H) (f g on : Int32) (k : ∀ h', CS h' own cap T X dy ft F A O (n_bar F N f g on) C H → fC h h' → rm h h' → Q (some (.int (r_bar F N f g))) h') : w_c 2 71 [.ref 16, .int f, .int g, .int on] h Q := by
  have z1 := Z.1
  have cp := K.2.2.2.2.1
  by_cases c : zBk F f g
  · obtain ⟨⟨i, rfl, hi, hpi⟩, ⟨j, rfl, hj, hpj⟩, hne⟩ := id c
    unfold r_bar n_bar at k
    rw [r_if_t c, z_if_t c, i_cl (by omega), i_cl (by omega)] at k
    refine t_X8_bar_0 sh _ _ _ ((c_famAt sh cp K.2.2.2.2.2.2.2.1 hi hpi (fun q p d n K1 => ⟨_, rfl, sh, fun z => (by cases z), fun q' e => (c_famAt sh cp K.2.2.2.2.2.2.2.1 hj hpj (fun q2 p2 d2 n2 K2 => ⟨_, rfl, sh, fun z => (by cases z), fun q2' e2 => ⟨fun _ => ?_, fun z => absurd z hne⟩⟩)).up (by decide)⟩)).up (by decide))
    cases e
    obtain ⟨k1, ⟨k2, k3, k4, k5⟩, k6⟩ := K1
    have q70 : 70 ≤ q := k6.1.2.1
    have fin : ∀ x, (x = if bt (N.2.2.1 i) j = true then (1 : Int32) else 0) → w_c 0 2 [.ref q, .int (nI j), .int on] h (fun r h15 => r = none ∧ s_h h15 ∧ Q (some (.int x)) h15) := by
      intro x hx
      refine c_setBar sh k6 ?_
      have f1 : fx h (h_sI h 2 q (zBr (N.2.2.1 i) j on)) [(523, 16), (524, 16), (525, 16)] [] := (fx.rf _ _ _).sI _ (Or.inr k6.1.2.1)
      refine ⟨rfl, f1.sh sh (by decide), ?_⟩
      rw [hx]
      refine k _ ?_ (f1.wk (by decide) (by decide)) ⟨rfl, rfl⟩
      refine K.fam (Tc := fun a => a = i) z1 k6.sI.1 f1 (fun a _ _ ha => by rw [show a = q from ha]; exact k2) (fun k hk z => by have z : 12 + k = i := z; omega) (fun _ _ _ => rfl) (fun g hg => ⟨rfl, rfl, rfl, va_up_ne _ _ hg, rfl, rfl⟩) (fun g hg _ _ => ?_) ⟨(oi_neA (by omega) _).trans K.2.2.2.2.2.2.2.2.1.1, (oi_neA (by omega) _).trans K.2.2.2.2.2.2.2.2.1.2.1, (oi_neA (by omega) _).trans K.2.2.2.2.2.2.2.2.1.2.2⟩
      have hg : g = i := hg
      subst hg
      refine ⟨q, p, d, n, k1, ⟨k2, k3, k4, k5⟩, ?_⟩
      show cF1 _ q p d n _ _ _ (va_up N.2.2.1 g (zBr (N.2.2.1 g) j on) g) _ _
      rw [va_up_self]
      exact k6.br' _
    refine ⟨k6.1.1, c_doesBar sh k6 (by omega) (fun c2 => ⟨_, rfl, sh, fun _ => ⟨k6.1.1, fin 0 (by rw [c2]; rfl)⟩, fun z => absurd rfl z⟩) (fun c2 => ⟨_, rfl, sh, fun z => absurd z (by decide), fun _ => ⟨k6.1.1, fin 1 (by rw [c2]; rfl)⟩⟩)⟩
  · unfold r_bar n_bar at k
    rw [r_if_f c, z_if_f c] at k
    replace k := k h K (fC.rf _) ⟨rfl, rfl⟩
    refine t_X8_bar_0 sh _ _ _ ((sp_famC sh cp f (fun _ => ⟨_, rfl, sh, fun _ => k, fun _ z => (by cases z)⟩) (fun i q e hi hpi _ _ _ _ => ⟨_, rfl, sh, fun z => (by cases z), fun _ _ => (sp_famC sh cp g (fun _ => ⟨_, rfl, sh, fun _ => k, fun _ z => (by cases z)⟩) (fun j q2 e2 hj hpj _ _ _ _ => ⟨_, rfl, sh, fun z => (by cases z), fun _ _ => ⟨fun z => absurd ⟨⟨i, e, hi, hpi⟩, ⟨j, e2, hj, hpj⟩, z⟩ c, fun _ => k⟩⟩)).up (by decide)⟩)).up (by decide))
theorem m_bar {h : mm_H} {Q : Option Value → mm_H → Prop} {cap : Nat → Nat} {T : zT} {X : zX} {dy cl W : Nat} {ft : Int32} {F : zF} {A O : zV} {N : zN} {C : zC} {H : zH} (sh : s_h h) (K : MS h cl T X dy ft F A O N C H) (Z : zP W cap F A O N H) (f g on : Int32) (hon : on = 0 ∨ on = 1) (k : ∀ h', MS h' cl T X dy ft F A O (n_bar F N f g on) C H → fM h h' → Q (some (.int (r_bar F N f g))) h') : w_c 2 124 [.ref 44, .int f, .int g, .int on] h Q := by
  have z1 := Z.1
  have mp := K.2.2.2.1
  by_cases c : zBk F f g
  · obtain ⟨⟨i, rfl, hi, hpi⟩, ⟨j, rfl, hj, hpj⟩, hne⟩ := id c
    unfold r_bar n_bar at k
    rw [r_if_t c, z_if_t c, i_cl (by omega), i_cl (by omega)] at k
    obtain ⟨k1, k2, k3, k4, k5, k6, k7, k8, ⟨k91, k92, k93⟩, k10, k11, k12⟩ := id K
    have vi : vp_in (nI (12 * i + j)) 144 := vp_in_nI (by omega) (by decide)
    have ic : (nI (12 * i + j)).toNatClampNeg = 12 * i + j := i_cl (by omega)
    have f1 : fx h (h_sA h 54 (12 * i + j) (vp_nar .boolean on)) [] [54] := (fx.rf _ _ _).sA _ _ (Or.inl (by decide))
    have fin : MS (h_sA h 54 (12 * i + j) (vp_nar .boolean on)) cl T X dy ft F A O (N.1, N.2.1, va_up N.2.2.1 i (zBr (N.2.2.1 i) j on), N.2.2.2) C H := by
      refine ⟨k1.fx f1 (by decide) (by decide), k2.fx f1 (by decide) (by decide) (by decide), k3.fx f1 (by decide), k4.fx f1 (by decide) (by decide), k5.fx f1 (by decide) (by decide) (by decide) (by decide) (by decide), k6.fx f1 (by decide) (by decide) (by decide) (by decide) (by decide), k7.fx f1 (by decide) (by decide) (by decide), k8.fx f1 (by decide), ⟨?_, ?_, ?_⟩, k10.fx f1 (by decide) (by decide) (by decide), k11.fx f1 (by decide) (by decide) (by decide), k12.fx f1 (by decide)⟩
      · rw [f1.ai 51 (by decide) (by decide)]; exact k91
      · rw [f1.ai 52 (by decide) (by decide)]; exact k92
      · intro f hf g hg
        rw [ai_self]
        show _ = if bt (va_up N.2.2.1 i (zBr (N.2.2.1 i) j on) f) g = true then 1 else 0
        by_cases y : f = i
        · rw [y, va_up_self, bt_zBr _ _ (by omega) (by omega)]
          by_cases w : g = j
          · rw [w, va_up_self, if_pos (show j = j from rfl)]
            rcases hon with rfl | rfl
            · rfl
            · rfl
          · rw [va_up_ne _ _ (by omega), if_neg w]
            exact k93 i (by omega) g hg
        · rw [va_up_ne _ _ y, va_up_ne _ _ (by omega)]
          exact k93 f hf g hg
    refine t_X9_bar_0 sh _ _ _ (sp_famM sh mp (nI i) (fun z => absurd ⟨i, rfl, hi, hpi⟩ z) (fun _ _ _ _ => ⟨_, rfl, sh, fun z => absurd z (by decide), fun _ => sp_famM sh mp (nI j) (fun z => absurd ⟨j, rfl, hj, hpj⟩ z) (fun _ _ _ _ => ⟨_, rfl, sh, fun z => absurd z (by decide), fun _ => ⟨fun _ => ?_, fun z => absurd z hne⟩⟩)⟩))
    rw [e12, ic, k93 i (by omega) j (by omega)]
    refine ⟨vi, fun c2 => ⟨vi, ?_⟩, fun c2 => ⟨vi, ?_⟩⟩
    · have e0 : ¬ bt (N.2.2.1 i) j = true := fun z => by rw [if_pos z] at c2; exact absurd c2 (by decide)
      rw [if_neg e0] at k
      exact k _ fin ⟨f1.wk (by decide) (by decide), (dn.rf _).sA _ _ (by decide)⟩
    · have e0 : bt (N.2.2.1 i) j = true := Classical.byContradiction (fun z => by rw [if_neg z] at c2; exact c2 rfl)
      rw [if_pos e0] at k
      exact k _ fin ⟨f1.wk (by decide) (by decide), (dn.rf _).sA _ _ (by decide)⟩
  · unfold r_bar n_bar at k
    rw [r_if_f c, z_if_f c] at k
    replace k := k h K (fM.rf _)
    refine t_X9_bar_0 sh _ _ _ (sp_famM sh mp f (fun _ => ⟨_, rfl, sh, fun _ => k, fun z => absurd rfl z⟩) (fun i e hi hpi => ⟨_, rfl, sh, fun z => absurd z (by decide), fun _ => sp_famM sh mp g (fun _ => ⟨_, rfl, sh, fun _ => k, fun z => absurd rfl z⟩) (fun j e2 hj hpj => ⟨_, rfl, sh, fun z => absurd z (by decide), fun _ => ⟨fun z => absurd ⟨⟨i, e, hi, hpi⟩, ⟨j, e2, hj, hpj⟩, z⟩ c, fun _ => k⟩⟩)⟩))
theorem z_bar {cap : Nat → Nat} {W : Nat} {F : zF} {A O : zV} {N : zN} {H : zH} (Z : zP W cap F A O N H) (f g on : Int32) : zP W cap F A O (n_bar F N f g on) H := by
  unfold n_bar
  by_cases c : zBk F f g
  · rw [z_if_t c]
    obtain ⟨⟨i, rfl, hi, hpi⟩, -⟩ := c
    obtain ⟨z1, z2, z3, z4, z5, z6, z7, z8⟩ := Z
    rw [i_cl (by omega)]
    refine ⟨z1, z2, z3, z4, fun a h1 h2 => ?_, z6, z7, z8⟩
    obtain ⟨y1, y2, y3, y4, y5⟩ := z5 a h1 h2
    refine ⟨y1, ?_, y3, y4, y5⟩
    show va_up N.2.2.1 i _ a = 0
    rw [va_up_ne _ _ (by omega)]
    exact y2
  · rw [z_if_f c]; exact Z
