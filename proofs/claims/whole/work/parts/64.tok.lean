set_option maxRecDepth 20000 in
theorem t_X6_at_0 {h : mm_H} {Q : Option Value → mm_H → Prop} (sh : s_h h) (p : Int32) 
    (F : ((p < 0 → Q (some (.int (-4))) h) ∧ (¬ (p < 0) → ((p < (h_oi h 385 17) → (vp_in p 200 ∧ Q (some (.int (h_ai h 18 p.toNatClampNeg))) h)) ∧ (¬ (p < (h_oi h 385 17)) → Q (some (.int (-4))) h))))) :
    w_c 0 49 [.ref 17, .int p] h Q := by
  refine w_ci (M := (6, 2, mc_X6_at)) rfl (Nat.le_of_ble_eq_true rfl) ?_
  show w_p _ _ 0 [(0, .ref 17), (1, .int p)] [] h Q
  refine w_b 1 1 [(0, .ref 17), (1, .int p)] [.int p] rfl ?_
  refine w_if_lt (tgt := 12) (x := p) rfl (by decide) ⟨fun c1 => ?_, fun c1 => ?_⟩
  · have F := F.1 c1
    refine w_b 2 23 [(0, .ref 17), (1, .int p)] [.int (-4)] rfl ?_
    exact w_ir rfl F
  · have F := F.2 c1
    refine w_b 2 6 [(0, .ref 17), (1, .int p)] [.ref 17, .int p] rfl ?_
    refine w_get (g := 385) rfl rfl rfl (kd_17 sh) ?_
    refine w_ic_lt (tgt := 17) (x := p) (y := h_oi h 385 17) rfl (by decide) ⟨fun c2 => ?_, fun c2 => ?_⟩
    · have F := F.1 c2
      refine w_b 1 18 [(0, .ref 17), (1, .int p)] [.ref 17] rfl ?_
      refine w_getS (b := 18) rfl rfl rfl (kd_17 sh) (or_384_17 sh) ?_
      refine w_b 1 22 [(0, .ref 17), (1, .int p)] [.int p, .ref 18] rfl ?_
      obtain ⟨g3, F⟩ := F
      refine w_bald rfl (Or.inl (kd_18 sh)) (Eq.mpr (congrArg (vp_in p) (al_18 sh)) g3) ?_
      exact w_ir rfl F
    · have F := F.2 c2
      refine w_b 2 23 [(0, .ref 17), (1, .int p)] [.int (-4)] rfl ?_
      exact w_ir rfl F

set_option maxRecDepth 20000 in
theorem t_X6_isLetter_0 {h : mm_H} {Q : Option Value → mm_H → Prop} (sh : s_h h) (p : Int32) 
    (F : w_c 0 49 [.ref 17, .int p] h (fun r h1 => ∃ z2 : Int32, r = some (.int z2) ∧ s_h h1 ∧ ((z2 < 97 → Q (some (.int 0)) h1) ∧ (¬ (z2 < 97) → ((122 < z2 → Q (some (.int 0)) h1) ∧ (¬ (122 < z2) → Q (some (.int 1)) h1)))))) :
    w_c 1 50 [.ref 17, .int p] h Q := by
  refine w_ci (M := (6, 3, mc_X6_isLetter)) rfl (Nat.le_of_ble_eq_true rfl) ?_
  show w_p _ _ 0 [(0, .ref 17), (1, .int p)] [] h Q
  refine w_b 2 2 [(0, .ref 17), (1, .int p)] [.int p, .ref 17] rfl ?_
  refine w_cv (As := [.int p]) (b := 17) (rest := []) rfl rfl rfl (Nat.le_of_ble_eq_true rfl) (kd_17 sh) (fun z => absurd z (by decide)) (dc := 0) (by omega) (F.mono (fun r h1 F => ?_))
  obtain ⟨z2, rfl, sh1, F⟩ := F
  show w_p _ _ 5 [(0, .ref 17), (1, .int p)] [.int z2] h1 _
  refine w_b 3 9 [(2, .int z2), (0, .ref 17), (1, .int p)] [.int 97, .int z2] rfl ?_
  refine w_ic_lt (tgt := 22) (x := z2) (y := 97) rfl (by decide) ⟨fun c3 => ?_, fun c3 => ?_⟩
  · have F := F.1 c3
    refine w_b 1 23 [(2, .int z2), (0, .ref 17), (1, .int p)] [.int 0] rfl ?_
    exact w_br rfl (by decide) F
  · have F := F.2 c3
    refine w_b 2 15 [(2, .int z2), (0, .ref 17), (1, .int p)] [.int 122, .int z2] rfl ?_
    refine w_ic_gt (tgt := 22) (x := z2) (y := 122) rfl (by decide) ⟨fun c4 => ?_, fun c4 => ?_⟩
    · have F := F.1 c4
      refine w_b 1 23 [(2, .int z2), (0, .ref 17), (1, .int p)] [.int 0] rfl ?_
      exact w_br rfl (by decide) F
    · have F := F.2 c4
      refine w_b 2 23 [(2, .int z2), (0, .ref 17), (1, .int p)] [.int 1] rfl ?_
      exact w_br rfl (by decide) F

set_option maxRecDepth 20000 in
theorem t_X6_isFigure_0 {h : mm_H} {Q : Option Value → mm_H → Prop} (sh : s_h h) (p : Int32) 
    (F : w_c 0 49 [.ref 17, .int p] h (fun r h1 => ∃ z2 : Int32, r = some (.int z2) ∧ s_h h1 ∧ ((z2 < 48 → Q (some (.int 0)) h1) ∧ (¬ (z2 < 48) → ((57 < z2 → Q (some (.int 0)) h1) ∧ (¬ (57 < z2) → Q (some (.int 1)) h1)))))) :
    w_c 1 51 [.ref 17, .int p] h Q := by
  refine w_ci (M := (6, 3, mc_X6_isFigure)) rfl (Nat.le_of_ble_eq_true rfl) ?_
  show w_p _ _ 0 [(0, .ref 17), (1, .int p)] [] h Q
  refine w_b 2 2 [(0, .ref 17), (1, .int p)] [.int p, .ref 17] rfl ?_
  refine w_cv (As := [.int p]) (b := 17) (rest := []) rfl rfl rfl (Nat.le_of_ble_eq_true rfl) (kd_17 sh) (fun z => absurd z (by decide)) (dc := 0) (by omega) (F.mono (fun r h1 F => ?_))
  obtain ⟨z2, rfl, sh1, F⟩ := F
  show w_p _ _ 5 [(0, .ref 17), (1, .int p)] [.int z2] h1 _
  refine w_b 3 9 [(2, .int z2), (0, .ref 17), (1, .int p)] [.int 48, .int z2] rfl ?_
  refine w_ic_lt (tgt := 22) (x := z2) (y := 48) rfl (by decide) ⟨fun c3 => ?_, fun c3 => ?_⟩
  · have F := F.1 c3
    refine w_b 1 23 [(2, .int z2), (0, .ref 17), (1, .int p)] [.int 0] rfl ?_
    exact w_br rfl (by decide) F
  · have F := F.2 c3
    refine w_b 2 15 [(2, .int z2), (0, .ref 17), (1, .int p)] [.int 57, .int z2] rfl ?_
    refine w_ic_gt (tgt := 22) (x := z2) (y := 57) rfl (by decide) ⟨fun c4 => ?_, fun c4 => ?_⟩
    · have F := F.1 c4
      refine w_b 1 23 [(2, .int z2), (0, .ref 17), (1, .int p)] [.int 0] rfl ?_
      exact w_br rfl (by decide) F
    · have F := F.2 c4
      refine w_b 2 23 [(2, .int z2), (0, .ref 17), (1, .int p)] [.int 1] rfl ?_
      exact w_br rfl (by decide) F

set_option maxRecDepth 20000 in
theorem t_X6_spells_0 {h : mm_H} {Q : Option Value → mm_H → Prop} (sh : s_h h) (w : Nat) (a : Int32) (b : Int32) {K15 : Nat → Int32 → Int32 → Int32 → mm_H → Prop} (k15 : ∀ (w : Nat) (a : Int32) (b : Int32) (x4 : Int32) (h : mm_H), K15 w a b x4 h → w_p 21 (6, 5, mc_X6_spells) 15 [(0, .ref 17), (1, .ref w), (2, .int a), (3, .int b), (4, .int x4)] [] h Q) 
    (F : (h_kd h w = 30 ∧ (w < 16 ∧ w_c 20 155 [.ref w] h (fun r h3 => ∃ z4 : Int32, r = some (.int z4) ∧ s_h h3 ∧ ((z4 = (b - a) → K15 w a b 0 h3) ∧ (¬ (z4 = (b - a)) → Q (some (.int 0)) h3)))))) :
    w_c 21 52 [.ref 17, .ref w, .int a, .int b] h Q := by
  refine w_ci (M := (6, 5, mc_X6_spells)) rfl (Nat.le_of_ble_eq_true rfl) ?_
  show w_p _ _ 0 [(0, .ref 17), (1, .ref w), (2, .int a), (3, .int b)] [] h Q
  refine w_b 1 1 [(0, .ref 17), (1, .ref w), (2, .int a), (3, .int b)] [.ref w] rfl ?_
  obtain ⟨g1, F⟩ := F
  obtain ⟨g2, F⟩ := F
  refine w_cv (As := []) (b := w) (rest := []) rfl rfl rfl (Nat.le_of_ble_eq_true rfl) g1 (fun _ => g2) (dc := 20) (by omega) (F.mono (fun r h3 F => ?_))
  obtain ⟨z4, rfl, sh3, F⟩ := F
  show w_p _ _ 4 [(0, .ref 17), (1, .ref w), (2, .int a), (3, .int b)] [.int z4] h3 _
  refine w_b 3 7 [(0, .ref 17), (1, .ref w), (2, .int a), (3, .int b)] [.int (b - a), .int z4] rfl ?_
  refine w_ic_eq (tgt := 12) (x := z4) (y := b - a) rfl (by decide) ⟨fun c5 => ?_, fun c5 => ?_⟩
  · have F := F.1 c5
    refine w_b 2 15 [(4, .int 0), (0, .ref 17), (1, .ref w), (2, .int a), (3, .int b)] [] rfl ?_
    refine w_lo [0, 1, 2, 3, 4] [(0, .ref 17), (1, .ref w), (2, .int a), (3, .int b), (4, .int 0)] rfl rfl ?_
    exact k15 _ _ _ _ _ F
  · have F := F.2 c5
    refine w_b 1 11 [(0, .ref 17), (1, .ref w), (2, .int a), (3, .int b)] [.int 0] rfl ?_
    exact w_br rfl (by decide) F

set_option maxRecDepth 20000 in
theorem t_X6_spells_15 {h : mm_H} {Q : Option Value → mm_H → Prop} (sh : s_h h) (w : Nat) (a : Int32) (b : Int32) (x4 : Int32) {K15 : Nat → Int32 → Int32 → Int32 → mm_H → Prop} (k15 : ∀ (w : Nat) (a : Int32) (b : Int32) (x4 : Int32) (h : mm_H), K15 w a b x4 h → w_p 21 (6, 5, mc_X6_spells) 15 [(0, .ref 17), (1, .ref w), (2, .int a), (3, .int b), (4, .int x4)] [] h Q) 
    (F : (h_kd h w = 30 ∧ (w < 16 ∧ w_c 20 155 [.ref w] h (fun r h3 => ∃ z4 : Int32, r = some (.int z4) ∧ s_h h3 ∧ ((z4 ≤ x4 → Q (some (.int 1)) h3) ∧ (¬ (z4 ≤ x4) → w_c 0 49 [.ref 17, .int (a + x4)] h3 (fun r h6 => ∃ z7 : Int32, r = some (.int z7) ∧ s_h h6 ∧ (h_kd h6 w = 30 ∧ (w < 16 ∧ w_c 20 156 [.ref w, .int x4] h6 (fun r h10 => ∃ z11 : Int32, r = some (.int z11) ∧ s_h h10 ∧ ((z7 = z11 → K15 w a b (x4 + 1) h10) ∧ (¬ (z7 = z11) → Q (some (.int 0)) h10)))))))))))) :
    w_p 21 (6, 5, mc_X6_spells) 15 [(0, .ref 17), (1, .ref w), (2, .int a), (3, .int b), (4, .int x4)] [] h Q := by
  refine w_b 2 18 [(0, .ref 17), (1, .ref w), (2, .int a), (3, .int b), (4, .int x4)] [.ref w, .int x4] rfl ?_
  obtain ⟨g1, F⟩ := F
  obtain ⟨g2, F⟩ := F
  refine w_cv (As := []) (b := w) (rest := [.int x4]) rfl rfl rfl (Nat.le_of_ble_eq_true rfl) g1 (fun _ => g2) (dc := 20) (by omega) (F.mono (fun r h3 F => ?_))
  obtain ⟨z4, rfl, sh3, F⟩ := F
  show w_p _ _ 21 [(0, .ref 17), (1, .ref w), (2, .int a), (3, .int b), (4, .int x4)] [.int z4, .int x4] h3 _
  refine w_ic_ge (tgt := 49) (x := x4) (y := z4) rfl (by decide) ⟨fun c5 => ?_, fun c5 => ?_⟩
  · have F := F.1 c5
    refine w_b 1 50 [(0, .ref 17), (1, .ref w), (2, .int a), (3, .int b), (4, .int x4)] [.int 1] rfl ?_
    exact w_br rfl (by decide) F
  · have F := F.2 c5
    refine w_b 4 29 [(0, .ref 17), (1, .ref w), (2, .int a), (3, .int b), (4, .int x4)] [.int (a + x4), .ref 17] rfl ?_
    refine w_cv (As := [.int (a + x4)]) (b := 17) (rest := []) rfl rfl rfl (Nat.le_of_ble_eq_true rfl) (kd_17 sh3) (fun z => absurd z (by decide)) (dc := 0) (by omega) (F.mono (fun r h6 F => ?_))
    obtain ⟨z7, rfl, sh6, F⟩ := F
    show w_p _ _ 32 [(0, .ref 17), (1, .ref w), (2, .int a), (3, .int b), (4, .int x4)] [.int z7] h6 _
    refine w_b 2 35 [(0, .ref 17), (1, .ref w), (2, .int a), (3, .int b), (4, .int x4)] [.int x4, .ref w, .int z7] rfl ?_
    obtain ⟨g8, F⟩ := F
    obtain ⟨g9, F⟩ := F
    refine w_cv (As := [.int x4]) (b := w) (rest := [.int z7]) rfl rfl rfl (Nat.le_of_ble_eq_true rfl) g8 (fun _ => g9) (dc := 20) (by omega) (F.mono (fun r h10 F => ?_))
    obtain ⟨z11, rfl, sh10, F⟩ := F
    show w_p _ _ 38 [(0, .ref 17), (1, .ref w), (2, .int a), (3, .int b), (4, .int x4)] [.int z11, .int z7] h10 _
    refine w_ic_eq (tgt := 43) (x := z7) (y := z11) rfl (by decide) ⟨fun c12 => ?_, fun c12 => ?_⟩
    · have F := F.1 c12
      refine w_b 2 15 [(4, .int (x4 + 1)), (0, .ref 17), (1, .ref w), (2, .int a), (3, .int b)] [] rfl ?_
      refine w_lo [0, 1, 2, 3, 4] [(0, .ref 17), (1, .ref w), (2, .int a), (3, .int b), (4, .int (x4 + 1))] rfl rfl ?_
      exact k15 _ _ _ _ _ F
    · have F := F.2 c12
      refine w_b 1 42 [(0, .ref 17), (1, .ref w), (2, .int a), (3, .int b), (4, .int x4)] [.int 0] rfl ?_
      exact w_br rfl (by decide) F

set_option maxRecDepth 20000 in
theorem t_X4_fail_0 {h : mm_H} {Q : Option Value → mm_H → Prop} (sh : s_h h) (w : Int32) 
    (F : Q none (h_sI (h_sI h 257 19 w) 258 19 (h_oi h 261 19))) :
    w_c 0 37 [.ref 19, .int w] h Q := by
  refine w_ci (M := (4, 2, mc_X4_fail)) rfl (Nat.le_of_ble_eq_true rfl) ?_
  show w_p _ _ 0 [(0, .ref 19), (1, .int w)] [] h Q
  refine w_b 2 2 [(0, .ref 19), (1, .int w)] [.int w, .ref 19] rfl ?_
  refine w_put (g := 257) (x := w) rfl rfl rfl (kd_19 sh) (by decide) ?_
  refine w_b 2 7 [(0, .ref 19), (1, .int w)] [.ref 19, .ref 19] rfl ?_
  refine w_get (g := 261) rfl rfl rfl (kd_19 sh) ?_
  refine w_put (g := 258) (x := h_oi h 261 19) rfl rfl rfl (kd_19 sh) (by decide) ?_
  exact w_vr rfl F

set_option maxRecDepth 20000 in
theorem t_X4_canStand_0 {h : mm_H} {Q : Option Value → mm_H → Prop} (sh : s_h h) (w : Int32) 
    (F : ((¬ (h_oi h 257 19) = 0 → ((¬ (h_oi h 257 19) = 0 → Q (some (.int 0)) h) ∧ ((h_oi h 257 19) = 0 → Q (some (.int 1)) h))) ∧ ((h_oi h 257 19) = 0 → (((h_oi h 259 19) = w → ((¬ (h_oi h 257 19) = 0 → Q (some (.int 0)) h) ∧ ((h_oi h 257 19) = 0 → Q (some (.int 1)) h))) ∧ (¬ ((h_oi h 259 19) = w) → w_c 0 37 [.ref 19, .int 2] h (fun r h5 => r = none ∧ s_h h5 ∧ ((¬ (h_oi h5 257 19) = 0 → Q (some (.int 0)) h5) ∧ ((h_oi h5 257 19) = 0 → Q (some (.int 1)) h5)))))))) :
    w_c 1 36 [.ref 19, .int w] h Q := by
  refine w_ci (M := (4, 2, mc_X4_canStand)) rfl (Nat.le_of_ble_eq_true rfl) ?_
  show w_p _ _ 0 [(0, .ref 19), (1, .int w)] [] h Q
  refine w_b 1 1 [(0, .ref 19), (1, .int w)] [.ref 19] rfl ?_
  refine w_get (g := 257) rfl rfl rfl (kd_19 sh) ?_
  refine w_if_ne (tgt := 20) (x := h_oi h 257 19) rfl (by decide) ⟨fun c1 => ?_, fun c1 => ?_⟩
  · have F := F.1 c1
    refine w_b 1 21 [(0, .ref 19), (1, .int w)] [.ref 19] rfl ?_
    refine w_get (g := 257) rfl rfl rfl (kd_19 sh) ?_
    refine w_if_ne (tgt := 31) (x := h_oi h 257 19) rfl (by decide) ⟨fun c2 => ?_, fun c2 => ?_⟩
    · have F := F.1 c2
      refine w_b 1 32 [(0, .ref 19), (1, .int w)] [.int 0] rfl ?_
      exact w_br rfl (by decide) F
    · have F := F.2 (Decidable.not_not.mp c2)
      refine w_b 2 32 [(0, .ref 19), (1, .int w)] [.int 1] rfl ?_
      exact w_br rfl (by decide) F
  · have F := F.2 (Decidable.not_not.mp c1)
    refine w_b 1 8 [(0, .ref 19), (1, .int w)] [.ref 19] rfl ?_
    refine w_get (g := 259) rfl rfl rfl (kd_19 sh) ?_
    refine w_b 1 12 [(0, .ref 19), (1, .int w)] [.int w, .int (h_oi h 259 19)] rfl ?_
    refine w_ic_eq (tgt := 20) (x := h_oi h 259 19) (y := w) rfl (by decide) ⟨fun c3 => ?_, fun c3 => ?_⟩
    · have F := F.1 c3
      refine w_b 1 21 [(0, .ref 19), (1, .int w)] [.ref 19] rfl ?_
      refine w_get (g := 257) rfl rfl rfl (kd_19 sh) ?_
      refine w_if_ne (tgt := 31) (x := h_oi h 257 19) rfl (by decide) ⟨fun c4 => ?_, fun c4 => ?_⟩
      · have F := F.1 c4
        refine w_b 1 32 [(0, .ref 19), (1, .int w)] [.int 0] rfl ?_
        exact w_br rfl (by decide) F
      · have F := F.2 (Decidable.not_not.mp c4)
        refine w_b 2 32 [(0, .ref 19), (1, .int w)] [.int 1] rfl ?_
        exact w_br rfl (by decide) F
    · have F := F.2 c3
      refine w_b 2 17 [(0, .ref 19), (1, .int w)] [.int 2, .ref 19] rfl ?_
      refine w_cv (As := [.int 2]) (b := 19) (rest := []) rfl rfl rfl (Nat.le_of_ble_eq_true rfl) (kd_19 sh) (fun z => absurd z (by decide)) (dc := 0) (by omega) (F.mono (fun r h5 F => ?_))
      obtain ⟨rfl, sh5, F⟩ := F
      show w_p _ _ 20 [(0, .ref 19), (1, .int w)] [] h5 _
      refine w_b 1 21 [(0, .ref 19), (1, .int w)] [.ref 19] rfl ?_
      refine w_get (g := 257) rfl rfl rfl (kd_19 sh5) ?_
      refine w_if_ne (tgt := 31) (x := h_oi h5 257 19) rfl (by decide) ⟨fun c6 => ?_, fun c6 => ?_⟩
      · have F := F.1 c6
        refine w_b 1 32 [(0, .ref 19), (1, .int w)] [.int 0] rfl ?_
        exact w_br rfl (by decide) F
      · have F := F.2 (Decidable.not_not.mp c6)
        refine w_b 2 32 [(0, .ref 19), (1, .int w)] [.int 1] rfl ?_
        exact w_br rfl (by decide) F

set_option maxRecDepth 20000 in
theorem t_X4_skipBlanks_L {h : mm_H} {Q : Option Value → mm_H → Prop} (sh : s_h h) {K0 : mm_H → Prop} (k0 : ∀  (h : mm_H), K0  h → w_p 1 (4, 2, mc_X4_skipBlanks) 0 [(0, .ref 19), (1, .ref 17)] [] h Q) 
    (F : (((h_oi h 385 17) ≤ (h_oi h 262 19) → Q none h) ∧ (¬ ((h_oi h 385 17) ≤ (h_oi h 262 19)) → w_c 0 49 [.ref 17, .int (h_oi h 262 19)] h (fun r h2 => ∃ z3 : Int32, r = some (.int z3) ∧ s_h h2 ∧ ((¬ z3 = 32 → Q none h2) ∧ (z3 = 32 → K0 (h_sI h2 262 19 ((h_oi h2 262 19) + 1)))))))) :
    w_p 1 (4, 2, mc_X4_skipBlanks) 0 [(0, .ref 19), (1, .ref 17)] [] h Q := by
  refine w_b 1 1 [(0, .ref 19), (1, .ref 17)] [.ref 19] rfl ?_
  refine w_get (g := 262) rfl rfl rfl (kd_19 sh) ?_
  refine w_b 1 5 [(0, .ref 19), (1, .ref 17)] [.ref 17, .int (h_oi h 262 19)] rfl ?_
  refine w_get (g := 385) rfl rfl rfl (kd_17 sh) ?_
  refine w_ic_ge (tgt := 37) (x := h_oi h 262 19) (y := h_oi h 385 17) rfl (by decide) ⟨fun c1 => ?_, fun c1 => ?_⟩
  · have F := F.1 c1
    exact w_vr rfl F
  · have F := F.2 c1
    refine w_b 2 13 [(0, .ref 19), (1, .ref 17)] [.ref 19, .ref 17] rfl ?_
    refine w_get (g := 262) rfl rfl rfl (kd_19 sh) ?_
    refine w_cv (As := [.int (h_oi h 262 19)]) (b := 17) (rest := []) rfl rfl rfl (Nat.le_of_ble_eq_true rfl) (kd_17 sh) (fun z => absurd z (by decide)) (dc := 0) (by omega) (F.mono (fun r h2 F => ?_))
    obtain ⟨z3, rfl, sh2, F⟩ := F
    show w_p _ _ 19 [(0, .ref 19), (1, .ref 17)] [.int z3] h2 _
    refine w_b 1 21 [(0, .ref 19), (1, .ref 17)] [.int 32, .int z3] rfl ?_
    refine w_ic_ne (tgt := 37) (x := z3) (y := 32) rfl (by decide) ⟨fun c4 => ?_, fun c4 => ?_⟩
    · have F := F.1 c4
      exact w_vr rfl F
    · have F := F.2 (Decidable.not_not.mp c4)
      refine w_b 2 26 [(0, .ref 19), (1, .ref 17)] [.ref 19, .ref 19] rfl ?_
      refine w_get (g := 262) rfl rfl rfl (kd_19 sh2) ?_
      refine w_b 2 31 [(0, .ref 19), (1, .ref 17)] [.int ((h_oi h2 262 19) + 1), .ref 19] rfl ?_
      refine w_put (g := 262) (x := (h_oi h2 262 19) + 1) rfl rfl rfl (kd_19 sh2) (by decide) ?_
      refine w_b 1 0 [(0, .ref 19), (1, .ref 17)] [] rfl ?_
      exact k0 _ F

set_option maxRecDepth 20000 in
theorem t_X4_scanName_L {h : mm_H} {Q : Option Value → mm_H → Prop} (sh : s_h h) {K0 : mm_H → Prop} (k0 : ∀  (h : mm_H), K0  h → w_p 22 (4, 3, mc_X4_scanName) 0 [(0, .ref 19), (1, .ref 17)] [] h Q) {K48 : Int32 → mm_H → Prop} (k48 : ∀ (x2 : Int32) (h : mm_H), K48 x2 h → w_p 22 (4, 3, mc_X4_scanName) 48 [(0, .ref 19), (1, .ref 17), (2, .int x2)] [] h Q) 
    (F : (((h_oi h 385 17) ≤ (h_oi h 262 19) → K48 0 (h_sI (h_sI h 259 19 1) 260 19 (-4))) ∧ (¬ ((h_oi h 385 17) ≤ (h_oi h 262 19)) → w_c 1 50 [.ref 17, .int (h_oi h 262 19)] h (fun r h2 => ∃ z3 : Int32, r = some (.int z3) ∧ s_h h2 ∧ ((z3 = 0 → K48 0 (h_sI (h_sI h2 259 19 1) 260 19 (-4))) ∧ (¬ (z3 = 0) → K0 (h_sI h2 262 19 ((h_oi h2 262 19) + 1)))))))) :
    w_p 22 (4, 3, mc_X4_scanName) 0 [(0, .ref 19), (1, .ref 17)] [] h Q := by
  refine w_b 1 1 [(0, .ref 19), (1, .ref 17)] [.ref 19] rfl ?_
  refine w_get (g := 262) rfl rfl rfl (kd_19 sh) ?_
  refine w_b 1 5 [(0, .ref 19), (1, .ref 17)] [.ref 17, .int (h_oi h 262 19)] rfl ?_
  refine w_get (g := 385) rfl rfl rfl (kd_17 sh) ?_
  refine w_ic_ge (tgt := 35) (x := h_oi h 262 19) (y := h_oi h 385 17) rfl (by decide) ⟨fun c1 => ?_, fun c1 => ?_⟩
  · have F := F.1 c1
    refine w_b 2 37 [(0, .ref 19), (1, .ref 17)] [.int 1, .ref 19] rfl ?_
    refine w_put (g := 259) (x := 1) rfl rfl rfl (kd_19 sh) (by decide) ?_
    refine w_b 2 43 [(0, .ref 19), (1, .ref 17)] [.int (-4), .ref 19] rfl ?_
    refine w_put (g := 260) (x := (-4)) rfl rfl rfl (kd_19 sh) (by decide) ?_
    refine w_b 2 48 [(2, .int 0), (0, .ref 19), (1, .ref 17)] [] rfl ?_
    refine w_lo [0, 1, 2] [(0, .ref 19), (1, .ref 17), (2, .int 0)] rfl rfl ?_
    exact k48 _ _ F
  · have F := F.2 c1
    refine w_b 2 13 [(0, .ref 19), (1, .ref 17)] [.ref 19, .ref 17] rfl ?_
    refine w_get (g := 262) rfl rfl rfl (kd_19 sh) ?_
    refine w_cv (As := [.int (h_oi h 262 19)]) (b := 17) (rest := []) rfl rfl rfl (Nat.le_of_ble_eq_true rfl) (kd_17 sh) (fun z => absurd z (by decide)) (dc := 1) (by omega) (F.mono (fun r h2 F => ?_))
    obtain ⟨z3, rfl, sh2, F⟩ := F
    show w_p _ _ 19 [(0, .ref 19), (1, .ref 17)] [.int z3] h2 _
    refine w_if_eq (tgt := 35) (x := z3) rfl (by decide) ⟨fun c4 => ?_, fun c4 => ?_⟩
    · have F := F.1 c4
      refine w_b 2 37 [(0, .ref 19), (1, .ref 17)] [.int 1, .ref 19] rfl ?_
      refine w_put (g := 259) (x := 1) rfl rfl rfl (kd_19 sh2) (by decide) ?_
      refine w_b 2 43 [(0, .ref 19), (1, .ref 17)] [.int (-4), .ref 19] rfl ?_
      refine w_put (g := 260) (x := (-4)) rfl rfl rfl (kd_19 sh2) (by decide) ?_
      refine w_b 2 48 [(2, .int 0), (0, .ref 19), (1, .ref 17)] [] rfl ?_
      refine w_lo [0, 1, 2] [(0, .ref 19), (1, .ref 17), (2, .int 0)] rfl rfl ?_
      exact k48 _ _ F
    · have F := F.2 c4
      refine w_b 2 24 [(0, .ref 19), (1, .ref 17)] [.ref 19, .ref 19] rfl ?_
      refine w_get (g := 262) rfl rfl rfl (kd_19 sh2) ?_
      refine w_b 2 29 [(0, .ref 19), (1, .ref 17)] [.int ((h_oi h2 262 19) + 1), .ref 19] rfl ?_
      refine w_put (g := 262) (x := (h_oi h2 262 19) + 1) rfl rfl rfl (kd_19 sh2) (by decide) ?_
      refine w_b 1 0 [(0, .ref 19), (1, .ref 17)] [] rfl ?_
      exact k0 _ F

set_option maxRecDepth 20000 in
theorem t_X4_scanName_48 {h : mm_H} {Q : Option Value → mm_H → Prop} (sh : s_h h) (x2 : Int32) {K48 : Int32 → mm_H → Prop} (k48 : ∀ (x2 : Int32) (h : mm_H), K48 x2 h → w_p 22 (4, 3, mc_X4_scanName) 48 [(0, .ref 19), (1, .ref 17), (2, .int x2)] [] h Q) 
    (F : ((5 ≤ x2 → ((¬ (h_oi h 260 19) = (-4) → Q none h) ∧ ((h_oi h 260 19) = (-4) → w_c 0 37 [.ref 19, .int 1] h (fun r h3 => r = none ∧ s_h h3 ∧ Q none h3)))) ∧ (¬ (5 ≤ x2) → w_c 0 41 [.int x2] h (fun r h4 => ∃ z5 : Option Nat, r = some (va_rf z5) ∧ s_h h4 ∧ w_c 21 52 [.ref 17, va_rf z5, .int (h_oi h4 261 19), .int (h_oi h4 262 19)] h4 (fun r h6 => ∃ z7 : Int32, r = some (.int z7) ∧ s_h h6 ∧ ((z7 = 0 → K48 (x2 + 1) h6) ∧ (¬ (z7 = 0) → K48 (x2 + 1) (h_sI h6 260 19 x2)))))))) :
    w_p 22 (4, 3, mc_X4_scanName) 48 [(0, .ref 19), (1, .ref 17), (2, .int x2)] [] h Q := by
  refine w_b 2 50 [(0, .ref 19), (1, .ref 17), (2, .int x2)] [.int 5, .int x2] rfl ?_
  refine w_ic_ge (tgt := 83) (x := x2) (y := 5) rfl (by decide) ⟨fun c1 => ?_, fun c1 => ?_⟩
  · have F := F.1 c1
    refine w_b 1 84 [(0, .ref 19), (1, .ref 17), (2, .int x2)] [.ref 19] rfl ?_
    refine w_get (g := 260) rfl rfl rfl (kd_19 sh) ?_
    refine w_b 1 89 [(0, .ref 19), (1, .ref 17), (2, .int x2)] [.int (-4), .int (h_oi h 260 19)] rfl ?_
    refine w_ic_ne (tgt := 97) (x := h_oi h 260 19) (y := (-4)) rfl (by decide) ⟨fun c2 => ?_, fun c2 => ?_⟩
    · have F := F.1 c2
      exact w_vr rfl F
    · have F := F.2 (Decidable.not_not.mp c2)
      refine w_b 2 94 [(0, .ref 19), (1, .ref 17), (2, .int x2)] [.int 1, .ref 19] rfl ?_
      refine w_cv (As := [.int 1]) (b := 19) (rest := []) rfl rfl rfl (Nat.le_of_ble_eq_true rfl) (kd_19 sh) (fun z => absurd z (by decide)) (dc := 0) (by omega) (F.mono (fun r h3 F => ?_))
      obtain ⟨rfl, sh3, F⟩ := F
      show w_p _ _ 97 [(0, .ref 19), (1, .ref 17), (2, .int x2)] [] h3 _
      exact w_vr rfl F
  · have F := F.2 c1
    refine w_b 2 55 [(0, .ref 19), (1, .ref 17), (2, .int x2)] [.int x2, .ref 17] rfl ?_
    refine w_cs (As := [.int x2]) (rest := [.ref 17]) rfl rfl rfl (Nat.le_of_ble_eq_true rfl) (dc := 0) (by omega) (F.mono (fun r h4 F => ?_))
    obtain ⟨z5, rfl, sh4, F⟩ := F
    show w_p _ _ 58 [(0, .ref 19), (1, .ref 17), (2, .int x2)] [va_rf z5, .ref 17] h4 _
    refine w_b 1 59 [(0, .ref 19), (1, .ref 17), (2, .int x2)] [.ref 19, va_rf z5, .ref 17] rfl ?_
    refine w_get (g := 261) rfl rfl rfl (kd_19 sh4) ?_
    refine w_b 1 63 [(0, .ref 19), (1, .ref 17), (2, .int x2)] [.ref 19, .int (h_oi h4 261 19), va_rf z5, .ref 17] rfl ?_
    refine w_get (g := 262) rfl rfl rfl (kd_19 sh4) ?_
    refine w_cv (As := [va_rf z5, .int (h_oi h4 261 19), .int (h_oi h4 262 19)]) (b := 17) (rest := []) rfl rfl rfl (Nat.le_of_ble_eq_true rfl) (kd_17 sh4) (fun z => absurd z (by decide)) (dc := 21) (by omega) (F.mono (fun r h6 F => ?_))
    obtain ⟨z7, rfl, sh6, F⟩ := F
    show w_p _ _ 69 [(0, .ref 19), (1, .ref 17), (2, .int x2)] [.int z7] h6 _
    refine w_if_eq (tgt := 77) (x := z7) rfl (by decide) ⟨fun c8 => ?_, fun c8 => ?_⟩
    · have F := F.1 c8
      refine w_b 2 48 [(2, .int (x2 + 1)), (0, .ref 19), (1, .ref 17)] [] rfl ?_
      refine w_lo [0, 1, 2] [(0, .ref 19), (1, .ref 17), (2, .int (x2 + 1))] rfl rfl ?_
      exact k48 _ _ F
    · have F := F.2 c8
      refine w_b 2 74 [(0, .ref 19), (1, .ref 17), (2, .int x2)] [.int x2, .ref 19] rfl ?_
      refine w_put (g := 260) (x := x2) rfl rfl rfl (kd_19 sh6) (by decide) ?_
      refine w_b 2 48 [(2, .int (x2 + 1)), (0, .ref 19), (1, .ref 17)] [] rfl ?_
      refine w_lo [0, 1, 2] [(0, .ref 19), (1, .ref 17), (2, .int (x2 + 1))] rfl rfl ?_
      exact k48 _ _ F

set_option maxRecDepth 20000 in
theorem t_X4_nameOf_0 {h : mm_H} {Q : Option Value → mm_H → Prop} (sh : s_h h) (law : Int32) 
    (F : (((law.toInt < 0 ∨ 3 < law.toInt) → Q (some (va_rf (some 8))) h) ∧ (law.toInt = 0 → Q (some (va_rf (some 4))) h) ∧ (law.toInt = 1 → Q (some (va_rf (some 5))) h) ∧ (law.toInt = 2 → Q (some (va_rf (some 6))) h) ∧ (law.toInt = 3 → Q (some (va_rf (some 7))) h))) :
    w_c 0 41 [.int law] h Q := by
  refine w_ci (M := (4, 1, mc_X4_nameOf)) rfl (Nat.le_of_ble_eq_true rfl) ?_
  show w_p _ _ 0 [(0, .int law)] [] h Q
  refine w_b 1 1 [(0, .int law)] [.int law] rfl ?_
  by_cases c1 : law.toInt < 0 ∨ 3 < law.toInt
  · have F := F.1 c1
    refine w_tabO (tgt := 44) rfl c1 (by decide) ?_
    refine w_b 1 46 [(0, .int law)] [.ref 8] rfl ?_
    exact w_ar (r := some 8) rfl F
  · have F := F.2
    have e2 : law.toInt = 0 ∨ law.toInt = 1 ∨ law.toInt = 2 ∨ law.toInt = 3 := by omega
    rcases e2 with e2 | e2 | e2 | e2
    · have F := F.1 e2
      refine w_tabI (tgt := 32) (off := 31) rfl (by omega) (by omega) (by rw [e2]; rfl) (by decide) ?_
      refine w_b 1 34 [(0, .int law)] [.ref 4] rfl ?_
      exact w_ar (r := some 4) rfl F
    · have F := F.2.1 e2
      refine w_tabI (tgt := 35) (off := 34) rfl (by omega) (by omega) (by rw [e2]; rfl) (by decide) ?_
      refine w_b 1 37 [(0, .int law)] [.ref 5] rfl ?_
      exact w_ar (r := some 5) rfl F
    · have F := F.2.2.1 e2
      refine w_tabI (tgt := 38) (off := 37) rfl (by omega) (by omega) (by rw [e2]; rfl) (by decide) ?_
      refine w_b 1 40 [(0, .int law)] [.ref 6] rfl ?_
      exact w_ar (r := some 6) rfl F
    · have F := F.2.2.2 e2
      refine w_tabI (tgt := 41) (off := 40) rfl (by omega) (by omega) (by rw [e2]; rfl) (by decide) ?_
      refine w_b 1 43 [(0, .int law)] [.ref 7] rfl ?_
      exact w_ar (r := some 7) rfl F

set_option maxRecDepth 20000 in
theorem t_X4_scanNumber_0 {h : mm_H} {Q : Option Value → mm_H → Prop} (sh : s_h h) {K10 : mm_H → Prop} (k10 : ∀  (h : mm_H), K10  h → w_p 2 (4, 2, mc_X4_scanNumber) 10 [(0, .ref 19), (1, .ref 17)] [] h Q) 
    (F : K10 (h_sI (h_sI h 259 19 2) 260 19 0)) :
    w_c 2 42 [.ref 19, .ref 17] h Q := by
  refine w_ci (M := (4, 2, mc_X4_scanNumber)) rfl (Nat.le_of_ble_eq_true rfl) ?_
  show w_p _ _ 0 [(0, .ref 19), (1, .ref 17)] [] h Q
  refine w_b 2 2 [(0, .ref 19), (1, .ref 17)] [.int 2, .ref 19] rfl ?_
  refine w_put (g := 259) (x := 2) rfl rfl rfl (kd_19 sh) (by decide) ?_
  refine w_b 2 7 [(0, .ref 19), (1, .ref 17)] [.int 0, .ref 19] rfl ?_
  refine w_put (g := 260) (x := 0) rfl rfl rfl (kd_19 sh) (by decide) ?_
  exact k10 _ F

set_option maxRecDepth 20000 in
theorem t_X4_scanNumber_10 {h : mm_H} {Q : Option Value → mm_H → Prop} (sh : s_h h) {K10 : mm_H → Prop} (k10 : ∀  (h : mm_H), K10  h → w_p 2 (4, 2, mc_X4_scanNumber) 10 [(0, .ref 19), (1, .ref 17)] [] h Q) 
    (F : (((h_oi h 385 17) ≤ (h_oi h 262 19) → ((((h_oi h 262 19) - (h_oi h 261 19)) ≤ 4 → Q none h) ∧ (¬ (((h_oi h 262 19) - (h_oi h 261 19)) ≤ 4) → w_c 0 37 [.ref 19, .int 1] h (fun r h3 => r = none ∧ s_h h3 ∧ Q none h3)))) ∧ (¬ ((h_oi h 385 17) ≤ (h_oi h 262 19)) → w_c 1 51 [.ref 17, .int (h_oi h 262 19)] h (fun r h4 => ∃ z5 : Int32, r = some (.int z5) ∧ s_h h4 ∧ ((z5 = 0 → ((((h_oi h4 262 19) - (h_oi h4 261 19)) ≤ 4 → Q none h4) ∧ (¬ (((h_oi h4 262 19) - (h_oi h4 261 19)) ≤ 4) → w_c 0 37 [.ref 19, .int 1] h4 (fun r h8 => r = none ∧ s_h h8 ∧ Q none h8)))) ∧ (¬ (z5 = 0) → ((4 ≤ ((h_oi h4 262 19) - (h_oi h4 261 19)) → K10 (h_sI h4 262 19 ((h_oi h4 262 19) + 1))) ∧ (¬ (4 ≤ ((h_oi h4 262 19) - (h_oi h4 261 19))) → w_c 0 49 [.ref 17, .int (h_oi h4 262 19)] h4 (fun r h10 => ∃ z11 : Int32, r = some (.int z11) ∧ s_h h10 ∧ K10 (h_sI (h_sI h10 260 19 ((((h_oi h4 260 19) * (10 : Int32)) + z11) - (48 : Int32))) 262 19 ((h_oi h10 262 19) + 1))))))))))) :
    w_p 2 (4, 2, mc_X4_scanNumber) 10 [(0, .ref 19), (1, .ref 17)] [] h Q := by
  refine w_b 1 11 [(0, .ref 19), (1, .ref 17)] [.ref 19] rfl ?_
  refine w_get (g := 262) rfl rfl rfl (kd_19 sh) ?_
  refine w_b 1 15 [(0, .ref 19), (1, .ref 17)] [.ref 17, .int (h_oi h 262 19)] rfl ?_
  refine w_get (g := 385) rfl rfl rfl (kd_17 sh) ?_
  refine w_ic_ge (tgt := 81) (x := h_oi h 262 19) (y := h_oi h 385 17) rfl (by decide) ⟨fun c1 => ?_, fun c1 => ?_⟩
  · have F := F.1 c1
    refine w_b 1 82 [(0, .ref 19), (1, .ref 17)] [.ref 19] rfl ?_
    refine w_get (g := 262) rfl rfl rfl (kd_19 sh) ?_
    refine w_b 1 86 [(0, .ref 19), (1, .ref 17)] [.ref 19, .int (h_oi h 262 19)] rfl ?_
    refine w_get (g := 261) rfl rfl rfl (kd_19 sh) ?_
    refine w_b 2 91 [(0, .ref 19), (1, .ref 17)] [.int 4, .int ((h_oi h 262 19) - (h_oi h 261 19))] rfl ?_
    refine w_ic_le (tgt := 99) (x := (h_oi h 262 19) - (h_oi h 261 19)) (y := 4) rfl (by decide) ⟨fun c2 => ?_, fun c2 => ?_⟩
    · have F := F.1 c2
      exact w_vr rfl F
    · have F := F.2 c2
      refine w_b 2 96 [(0, .ref 19), (1, .ref 17)] [.int 1, .ref 19] rfl ?_
      refine w_cv (As := [.int 1]) (b := 19) (rest := []) rfl rfl rfl (Nat.le_of_ble_eq_true rfl) (kd_19 sh) (fun z => absurd z (by decide)) (dc := 0) (by omega) (F.mono (fun r h3 F => ?_))
      obtain ⟨rfl, sh3, F⟩ := F
      show w_p _ _ 99 [(0, .ref 19), (1, .ref 17)] [] h3 _
      exact w_vr rfl F
  · have F := F.2 c1
    refine w_b 2 23 [(0, .ref 19), (1, .ref 17)] [.ref 19, .ref 17] rfl ?_
    refine w_get (g := 262) rfl rfl rfl (kd_19 sh) ?_
    refine w_cv (As := [.int (h_oi h 262 19)]) (b := 17) (rest := []) rfl rfl rfl (Nat.le_of_ble_eq_true rfl) (kd_17 sh) (fun z => absurd z (by decide)) (dc := 1) (by omega) (F.mono (fun r h4 F => ?_))
    obtain ⟨z5, rfl, sh4, F⟩ := F
    show w_p _ _ 29 [(0, .ref 19), (1, .ref 17)] [.int z5] h4 _
    refine w_if_eq (tgt := 81) (x := z5) rfl (by decide) ⟨fun c6 => ?_, fun c6 => ?_⟩
    · have F := F.1 c6
      refine w_b 1 82 [(0, .ref 19), (1, .ref 17)] [.ref 19] rfl ?_
      refine w_get (g := 262) rfl rfl rfl (kd_19 sh4) ?_
      refine w_b 1 86 [(0, .ref 19), (1, .ref 17)] [.ref 19, .int (h_oi h4 262 19)] rfl ?_
      refine w_get (g := 261) rfl rfl rfl (kd_19 sh4) ?_
      refine w_b 2 91 [(0, .ref 19), (1, .ref 17)] [.int 4, .int ((h_oi h4 262 19) - (h_oi h4 261 19))] rfl ?_
      refine w_ic_le (tgt := 99) (x := (h_oi h4 262 19) - (h_oi h4 261 19)) (y := 4) rfl (by decide) ⟨fun c7 => ?_, fun c7 => ?_⟩
      · have F := F.1 c7
        exact w_vr rfl F
      · have F := F.2 c7
        refine w_b 2 96 [(0, .ref 19), (1, .ref 17)] [.int 1, .ref 19] rfl ?_
        refine w_cv (As := [.int 1]) (b := 19) (rest := []) rfl rfl rfl (Nat.le_of_ble_eq_true rfl) (kd_19 sh4) (fun z => absurd z (by decide)) (dc := 0) (by omega) (F.mono (fun r h8 F => ?_))
        obtain ⟨rfl, sh8, F⟩ := F
        show w_p _ _ 99 [(0, .ref 19), (1, .ref 17)] [] h8 _
        exact w_vr rfl F
    · have F := F.2 c6
      refine w_b 1 33 [(0, .ref 19), (1, .ref 17)] [.ref 19] rfl ?_
      refine w_get (g := 262) rfl rfl rfl (kd_19 sh4) ?_
      refine w_b 1 37 [(0, .ref 19), (1, .ref 17)] [.ref 19, .int (h_oi h4 262 19)] rfl ?_
      refine w_get (g := 261) rfl rfl rfl (kd_19 sh4) ?_
      refine w_b 2 42 [(0, .ref 19), (1, .ref 17)] [.int 4, .int ((h_oi h4 262 19) - (h_oi h4 261 19))] rfl ?_
      refine w_ic_ge (tgt := 68) (x := (h_oi h4 262 19) - (h_oi h4 261 19)) (y := 4) rfl (by decide) ⟨fun c9 => ?_, fun c9 => ?_⟩
      · have F := F.1 c9
        refine w_b 2 70 [(0, .ref 19), (1, .ref 17)] [.ref 19, .ref 19] rfl ?_
        refine w_get (g := 262) rfl rfl rfl (kd_19 sh4) ?_
        refine w_b 2 75 [(0, .ref 19), (1, .ref 17)] [.int ((h_oi h4 262 19) + 1), .ref 19] rfl ?_
        refine w_put (g := 262) (x := (h_oi h4 262 19) + 1) rfl rfl rfl (kd_19 sh4) (by decide) ?_
        refine w_b 1 10 [(0, .ref 19), (1, .ref 17)] [] rfl ?_
        exact k10 _ F
      · have F := F.2 c9
        refine w_b 2 47 [(0, .ref 19), (1, .ref 17)] [.ref 19, .ref 19] rfl ?_
        refine w_get (g := 260) rfl rfl rfl (kd_19 sh4) ?_
        refine w_b 4 55 [(0, .ref 19), (1, .ref 17)] [.ref 19, .ref 17, .int ((h_oi h4 260 19) * (10 : Int32)), .ref 19] rfl ?_
        refine w_get (g := 262) rfl rfl rfl (kd_19 sh4) ?_
        refine w_cv (As := [.int (h_oi h4 262 19)]) (b := 17) (rest := [.int ((h_oi h4 260 19) * (10 : Int32)), .ref 19]) rfl rfl rfl (Nat.le_of_ble_eq_true rfl) (kd_17 sh4) (fun z => absurd z (by decide)) (dc := 0) (by omega) (F.mono (fun r h10 F => ?_))
        obtain ⟨z11, rfl, sh10, F⟩ := F
        show w_p _ _ 61 [(0, .ref 19), (1, .ref 17)] [.int z11, .int ((h_oi h4 260 19) * (10 : Int32)), .ref 19] h10 _
        refine w_b 3 65 [(0, .ref 19), (1, .ref 17)] [.int ((((h_oi h4 260 19) * (10 : Int32)) + z11) - (48 : Int32)), .ref 19] rfl ?_
        refine w_put (g := 260) (x := (((h_oi h4 260 19) * (10 : Int32)) + z11) - (48 : Int32)) rfl rfl rfl (kd_19 sh10) (by decide) ?_
        refine w_b 2 70 [(0, .ref 19), (1, .ref 17)] [.ref 19, .ref 19] rfl ?_
        refine w_get (g := 262) rfl rfl rfl (kd_19 sh10) ?_
        refine w_b 2 75 [(0, .ref 19), (1, .ref 17)] [.int ((h_oi h10 262 19) + 1), .ref 19] rfl ?_
        refine w_put (g := 262) (x := (h_oi h10 262 19) + 1) rfl rfl rfl (kd_19 sh10) (by decide) ?_
        refine w_b 1 10 [(0, .ref 19), (1, .ref 17)] [] rfl ?_
        exact k10 _ F

set_option maxRecDepth 20000 in
theorem t_X4_scan_0 {h : mm_H} {Q : Option Value → mm_H → Prop} (sh : s_h h) 
    (F : w_c 1 39 [.ref 19, .ref 17] h (fun r h1 => r = none ∧ s_h h1 ∧ (((h_oi h1 262 19) < (h_oi h1 385 17) → w_c 1 50 [.ref 17, .int (h_oi h1 262 19)] (h_sI h1 261 19 (h_oi h1 262 19)) (fun r h3 => ∃ z4 : Int32, r = some (.int z4) ∧ s_h h3 ∧ ((z4 = 0 → w_c 1 51 [.ref 17, .int (h_oi h3 261 19)] h3 (fun r h6 => ∃ z7 : Int32, r = some (.int z7) ∧ s_h h6 ∧ ((z7 = 0 → w_c 0 49 [.ref 17, .int (h_oi h6 261 19)] h6 (fun r h9 => ∃ z10 : Int32, r = some (.int z10) ∧ s_h h9 ∧ ((¬ z10 = 59 → w_c 0 37 [.ref 19, .int 1] h9 (fun r h12 => r = none ∧ s_h h12 ∧ Q none h12)) ∧ (z10 = 59 → Q none (h_sI (h_sI h9 259 19 3) 262 19 ((h_oi h9 261 19) + 1)))))) ∧ (¬ (z7 = 0) → w_c 2 42 [.ref 19, .ref 17] h6 (fun r h13 => r = none ∧ s_h h13 ∧ Q none h13))))) ∧ (¬ (z4 = 0) → w_c 22 40 [.ref 19, .ref 17] h3 (fun r h14 => r = none ∧ s_h h14 ∧ Q none h14))))) ∧ (¬ ((h_oi h1 262 19) < (h_oi h1 385 17)) → Q none (h_sI (h_sI h1 261 19 (h_oi h1 262 19)) 259 19 0))))) :
    w_c 23 38 [.ref 19, .ref 17] h Q := by
  refine w_ci (M := (4, 2, mc_X4_scan)) rfl (Nat.le_of_ble_eq_true rfl) ?_
  show w_p _ _ 0 [(0, .ref 19), (1, .ref 17)] [] h Q
  refine w_b 2 2 [(0, .ref 19), (1, .ref 17)] [.ref 17, .ref 19] rfl ?_
  refine w_cv (As := [.ref 17]) (b := 19) (rest := []) rfl rfl rfl (Nat.le_of_ble_eq_true rfl) (kd_19 sh) (fun z => absurd z (by decide)) (dc := 1) (by omega) (F.mono (fun r h1 F => ?_))
  obtain ⟨rfl, sh1, F⟩ := F
  show w_p _ _ 5 [(0, .ref 19), (1, .ref 17)] [] h1 _
  refine w_b 2 7 [(0, .ref 19), (1, .ref 17)] [.ref 19, .ref 19] rfl ?_
  refine w_get (g := 262) rfl rfl rfl (kd_19 sh1) ?_
  refine w_put (g := 261) (x := h_oi h1 262 19) rfl rfl rfl (kd_19 sh1) (by decide) ?_
  refine w_b 1 14 [(0, .ref 19), (1, .ref 17)] [.ref 19] rfl ?_
  refine w_get (g := 261) rfl rfl rfl (kd_19 sh1) ?_
  refine w_b 1 18 [(0, .ref 19), (1, .ref 17)] [.ref 17, .int (h_oi h1 262 19)] rfl ?_
  refine w_get (g := 385) rfl rfl rfl (kd_17 sh1) ?_
  refine w_ic_lt (tgt := 32) (x := h_oi h1 262 19) (y := h_oi h1 385 17) rfl (by decide) ⟨fun c2 => ?_, fun c2 => ?_⟩
  · have F := F.1 c2
    refine w_b 2 34 [(0, .ref 19), (1, .ref 17)] [.ref 19, .ref 17] rfl ?_
    refine w_get (g := 261) rfl rfl rfl (kd_19 sh1) ?_
    refine w_cv (As := [.int (h_oi h1 262 19)]) (b := 17) (rest := []) rfl rfl rfl (Nat.le_of_ble_eq_true rfl) (kd_17 sh1) (fun z => absurd z (by decide)) (dc := 1) (by omega) (F.mono (fun r h3 F => ?_))
    obtain ⟨z4, rfl, sh3, F⟩ := F
    show w_p _ _ 40 [(0, .ref 19), (1, .ref 17)] [.int z4] h3 _
    refine w_if_eq (tgt := 51) (x := z4) rfl (by decide) ⟨fun c5 => ?_, fun c5 => ?_⟩
    · have F := F.1 c5
      refine w_b 2 53 [(0, .ref 19), (1, .ref 17)] [.ref 19, .ref 17] rfl ?_
      refine w_get (g := 261) rfl rfl rfl (kd_19 sh3) ?_
      refine w_cv (As := [.int (h_oi h3 261 19)]) (b := 17) (rest := []) rfl rfl rfl (Nat.le_of_ble_eq_true rfl) (kd_17 sh3) (fun z => absurd z (by decide)) (dc := 1) (by omega) (F.mono (fun r h6 F => ?_))
      obtain ⟨z7, rfl, sh6, F⟩ := F
      show w_p _ _ 59 [(0, .ref 19), (1, .ref 17)] [.int z7] h6 _
      refine w_if_eq (tgt := 70) (x := z7) rfl (by decide) ⟨fun c8 => ?_, fun c8 => ?_⟩
      · have F := F.1 c8
        refine w_b 2 72 [(0, .ref 19), (1, .ref 17)] [.ref 19, .ref 17] rfl ?_
        refine w_get (g := 261) rfl rfl rfl (kd_19 sh6) ?_
        refine w_cv (As := [.int (h_oi h6 261 19)]) (b := 17) (rest := []) rfl rfl rfl (Nat.le_of_ble_eq_true rfl) (kd_17 sh6) (fun z => absurd z (by decide)) (dc := 0) (by omega) (F.mono (fun r h9 F => ?_))
        obtain ⟨z10, rfl, sh9, F⟩ := F
        show w_p _ _ 78 [(0, .ref 19), (1, .ref 17)] [.int z10] h9 _
        refine w_b 1 80 [(0, .ref 19), (1, .ref 17)] [.int 59, .int z10] rfl ?_
        refine w_ic_ne (tgt := 101) (x := z10) (y := 59) rfl (by decide) ⟨fun c11 => ?_, fun c11 => ?_⟩
        · have F := F.1 c11
          refine w_b 2 103 [(0, .ref 19), (1, .ref 17)] [.int 1, .ref 19] rfl ?_
          refine w_cv (As := [.int 1]) (b := 19) (rest := []) rfl rfl rfl (Nat.le_of_ble_eq_true rfl) (kd_19 sh9) (fun z => absurd z (by decide)) (dc := 0) (by omega) (F.mono (fun r h12 F => ?_))
          obtain ⟨rfl, sh12, F⟩ := F
          show w_p _ _ 106 [(0, .ref 19), (1, .ref 17)] [] h12 _
          exact w_vr rfl F
        · have F := F.2 (Decidable.not_not.mp c11)
          refine w_b 2 85 [(0, .ref 19), (1, .ref 17)] [.int 3, .ref 19] rfl ?_
          refine w_put (g := 259) (x := 3) rfl rfl rfl (kd_19 sh9) (by decide) ?_
          refine w_b 2 90 [(0, .ref 19), (1, .ref 17)] [.ref 19, .ref 19] rfl ?_
          refine w_get (g := 261) rfl rfl rfl (kd_19 sh9) ?_
          refine w_b 2 95 [(0, .ref 19), (1, .ref 17)] [.int ((h_oi h9 261 19) + 1), .ref 19] rfl ?_
          refine w_put (g := 262) (x := (h_oi h9 261 19) + 1) rfl rfl rfl (kd_19 sh9) (by decide) ?_
          refine w_b 1 106 [(0, .ref 19), (1, .ref 17)] [] rfl ?_
          exact w_vr rfl F
      · have F := F.2 c8
        refine w_b 2 64 [(0, .ref 19), (1, .ref 17)] [.ref 17, .ref 19] rfl ?_
        refine w_cv (As := [.ref 17]) (b := 19) (rest := []) rfl rfl rfl (Nat.le_of_ble_eq_true rfl) (kd_19 sh6) (fun z => absurd z (by decide)) (dc := 2) (by omega) (F.mono (fun r h13 F => ?_))
        obtain ⟨rfl, sh13, F⟩ := F
        show w_p _ _ 67 [(0, .ref 19), (1, .ref 17)] [] h13 _
        refine w_b 1 106 [(0, .ref 19), (1, .ref 17)] [] rfl ?_
        exact w_vr rfl F
    · have F := F.2 c5
      refine w_b 2 45 [(0, .ref 19), (1, .ref 17)] [.ref 17, .ref 19] rfl ?_
      refine w_cv (As := [.ref 17]) (b := 19) (rest := []) rfl rfl rfl (Nat.le_of_ble_eq_true rfl) (kd_19 sh3) (fun z => absurd z (by decide)) (dc := 22) (by omega) (F.mono (fun r h14 F => ?_))
      obtain ⟨rfl, sh14, F⟩ := F
      show w_p _ _ 48 [(0, .ref 19), (1, .ref 17)] [] h14 _
      refine w_b 1 106 [(0, .ref 19), (1, .ref 17)] [] rfl ?_
      exact w_vr rfl F
  · have F := F.2 c2
    refine w_b 2 26 [(0, .ref 19), (1, .ref 17)] [.int 0, .ref 19] rfl ?_
    refine w_put (g := 259) (x := 0) rfl rfl rfl (kd_19 sh1) (by decide) ?_
    refine w_b 1 106 [(0, .ref 19), (1, .ref 17)] [] rfl ?_
    exact w_vr rfl F

/-! TOKENS -/
def tBl (T : zT) (i : Nat) : Prop := i < T.1 ∧ T.2 i = 32
def tLt (T : zT) (i : Nat) : Prop := i < T.1 ∧ 97 ≤ T.2 i ∧ T.2 i ≤ 122
def tFg (T : zT) (i : Nat) : Prop := i < T.1 ∧ 48 ≤ T.2 i ∧ T.2 i ≤ 57
def rn (p : Nat → Prop) (n e : Nat) : Prop := n ≤ e ∧ (∀ i, n ≤ i → i < e → p i) ∧ ¬ p e
theorem rn_one {p : Nat → Prop} {n e e2 : Nat} (a : rn p n e) (b : rn p n e2) : e = e2 := by
  rcases Nat.lt_trichotomy e e2 with z | z | z
  · exact absurd (b.2.1 e a.1 z) a.2.2
  · exact z
  · exact absurd (a.2.1 e2 b.1 z) b.2.2
noncomputable def zEn (p : Nat → Prop) (n : Nat) : Nat := Classical.epsilon (rn p n)
theorem zEn_eq {p : Nat → Prop} {n e : Nat} (a : rn p n e) : zEn p n = e := rn_one (Classical.epsilon_spec ⟨e, a⟩) a
def zNum (T : zT) (s : Nat) : Nat → Nat
  | 0 => 0
  | j + 1 => if j < 4 then 10 * zNum T s j + (T.2 (s + j) - 48) else zNum T s j
def zSp (T : zT) (s e k : Nat) : Prop := e - s = (mm_tx (4 + k)).length ∧ ∀ i, i < (mm_tx (4 + k)).length → T.2 (s + i) = (mm_tx (4 + k)).getD i 0
noncomputable def zNm (T : zT) (s e : Nat) : Option Nat := z_if (zSp T s e 0) (some 0) (z_if (zSp T s e 1) (some 1) (z_if (zSp T s e 2) (some 2) (z_if (zSp T s e 3) (some 3) (z_if (zSp T s e 4) (some 4) none))))
noncomputable def zTs (T : zT) (s : Nat) : Nat × Nat × Nat × Nat := z_if (T.1 ≤ s) (0, s, s, 0) (z_if (tLt T s) (match zNm T s (zEn (tLt T) s) with | none => (4, s, zEn (tLt T) s, 0) | some k => (1, s, zEn (tLt T) s, k)) (z_if (tFg T s) (z_if (zEn (tFg T) s - s ≤ 4) (2, s, zEn (tFg T) s, zNum T s (zEn (tFg T) s - s)) (4, s, zEn (tFg T) s, 0)) (z_if (T.2 s = 59) (3, s, s + 1, 0) (4, s, s, 0))))
noncomputable def zTk (T : zT) (n : Nat) : Nat × Nat × Nat × Nat := zTs T (zEn (tBl T) n)
section TK
variable {T : zT} {s : Nat}
theorem zTs_end (h : T.1 ≤ s) : zTs T s = (0, s, s, 0) := by unfold zTs; rw [z_if_t h]
theorem zTs_nm {e k : Nat} (h : tLt T s) (he : rn (tLt T) s e) (hk : zNm T s e = some k) : zTs T s = (1, s, e, k) := by
  unfold zTs
  have := h.1
  rw [z_if_f (by omega), z_if_t h, zEn_eq he, hk]
theorem zTs_bn {e : Nat} (h : tLt T s) (he : rn (tLt T) s e) (hk : zNm T s e = none) : zTs T s = (4, s, e, 0) := by
  unfold zTs
  have := h.1
  rw [z_if_f (by omega), z_if_t h, zEn_eq he, hk]
theorem lt_fg (h : tFg T s) : ¬ tLt T s := fun y => by have := h.2; have := y.2; omega
theorem zTs_nu {e : Nat} (h : tFg T s) (he : rn (tFg T) s e) (hk : e - s ≤ 4) : zTs T s = (2, s, e, zNum T s (e - s)) := by
  unfold zTs
  have := h.1
  rw [z_if_f (by omega), z_if_f (lt_fg h), z_if_t h, zEn_eq he, z_if_t hk]
theorem zTs_bu {e : Nat} (h : tFg T s) (he : rn (tFg T) s e) (hk : ¬ e - s ≤ 4) : zTs T s = (4, s, e, 0) := by
  unfold zTs
  have := h.1
  rw [z_if_f (by omega), z_if_f (lt_fg h), z_if_t h, zEn_eq he, z_if_f hk]
theorem zTs_se (h : s < T.1) (h2 : T.2 s = 59) : zTs T s = (3, s, s + 1, 0) := by
  unfold zTs
  rw [z_if_f (by omega), z_if_f (fun y => by have := y.2; omega), z_if_f (fun y => by have := y.2; omega), z_if_t h2]
theorem zTs_ba (h : s < T.1) (h1 : ¬ tLt T s) (h2 : ¬ tFg T s) (h3 : ¬ T.2 s = 59) : zTs T s = (4, s, s, 0) := by
  unfold zTs
  rw [z_if_f (by omega), z_if_f h1, z_if_f h2, z_if_f h3]
end TK
/-- a byte as the class reads it -/
theorem sx_i : ∀ b, b < 256 → ((nI b).toInt8.toInt32).toInt = if b < 128 then (b : Int) else (b : Int) - 256 := by decide +kernel
theorem sx_c {b c : Nat} (hb : b < 256) (hc : c < 128) : ((nI b).toInt8.toInt32 = nI c ↔ b = c) ∧ ((nI b).toInt8.toInt32 < nI c ↔ (b < c ∨ 128 ≤ b)) ∧ (nI c < (nI b).toInt8.toInt32 ↔ (c < b ∧ b < 128)) := by
  have e := sx_i b hb
  have ec : (nI c).toInt = (c : Int) := nI_toInt (by omega)
  rw [fa_eq, fa_lt, fa_lt, e, ec]
  by_cases z : b < 128
  · rw [if_pos z]
    refine ⟨⟨fun y => by omega, fun y => by omega⟩, ⟨fun y => by omega, fun y => by omega⟩, ⟨fun y => by omega, fun y => by omega⟩⟩
  · rw [if_neg z]
    refine ⟨⟨fun y => by omega, fun y => by omega⟩, ⟨fun y => by omega, fun y => by omega⟩, ⟨fun y => by omega, fun y => by omega⟩⟩
theorem w_len {h : mm_H} {Q : Option Value → mm_H → Prop} {a : Nat} (h1 : 4 ≤ a) (h2 : a ≤ 8) (k : Q (some (.int (nI (mm_tx a).length))) h) : w_c 20 155 [.ref a] h Q :=
  ⟨0, (some (.int (nI (mm_tx a).length)), h), Or.inr ⟨rfl, Nat.le_refl _, Or.inr (Or.inl ⟨rfl, a, rfl, h1, h2, rfl, rfl⟩)⟩, k⟩
theorem w_chr {h : mm_H} {Q : Option Value → mm_H → Prop} {a i : Nat} (h1 : 4 ≤ a) (h2 : a ≤ 8) (hi : i < (mm_tx a).length) (hl : (mm_tx a).length < 100) (k : Q (some (.int (nI ((mm_tx a).getD i 0)))) h) : w_c 20 156 [.ref a, .int (nI i)] h Q :=
  ⟨0, (some (.int (nI ((mm_tx a).getD i 0))), h), Or.inr ⟨rfl, Nat.le_refl _, Or.inr (Or.inr ⟨rfl, a, nI i, rfl, h1, h2, vp_in_nI hi (by omega), (by rw [i_cl (by omega)]; rfl), rfl⟩)⟩, k⟩
section RD
variable {h : mm_H} {Q : Option Value → mm_H → Prop} {T : zT}
theorem c_atI (sh : s_h h) (H : cT h T.1 T.2) {i : Nat} (hi : i < T.1) (k : T.2 i < 256 → Q (some (.int ((nI (T.2 i)).toInt8.toInt32))) h) : w_c 0 49 [.ref 17, .int (nI i)] h Q := by
  obtain ⟨h1, h2, h3⟩ := H
  refine t_X6_at_0 sh _ ⟨fun c => absurd c (nI_pos (by omega)), fun _ => ⟨fun _ => ⟨vp_in_nI (by omega) (by decide), ?_⟩, fun c => absurd ?_ c⟩⟩
  · rw [i_cl (by omega), (h3 i hi).2]
    exact k (h3 i hi).1
  · rw [h2, i_lt (by omega) (by omega)]; exact hi
theorem c_lt (sh : s_h h) (H : cT h T.1 T.2) {i : Nat} (hi : i < T.1) (k0 : ¬ tLt T i → Q (some (.int 0)) h) (k1 : tLt T i → Q (some (.int 1)) h) : w_c 1 50 [.ref 17, .int (nI i)] h Q := by
  refine t_X6_isLetter_0 sh _ ((c_atI sh H hi (fun hb => ⟨_, rfl, sh, ?_⟩)).up (by decide))
  have e1 := (sx_c (c := 97) hb (by decide)).2.1
  have e2 := (sx_c (c := 122) hb (by decide)).2.2
  refine ⟨fun c => k0 (fun y => ?_), fun c => ⟨fun c2 => k0 (fun y => ?_), fun c2 => k1 ?_⟩⟩
  · have := e1.mp c; have := y.2; omega
  · have := e2.mp c2; have := y.2; omega
  · have c : ¬ (T.2 i < 97 ∨ 128 ≤ T.2 i) := fun y => c (e1.mpr y)
    have c2 : ¬ (122 < T.2 i ∧ T.2 i < 128) := fun y => c2 (e2.mpr y)
    exact ⟨hi, by omega, by omega⟩
theorem c_fg (sh : s_h h) (H : cT h T.1 T.2) {i : Nat} (hi : i < T.1) (k0 : ¬ tFg T i → Q (some (.int 0)) h) (k1 : tFg T i → Q (some (.int 1)) h) : w_c 1 51 [.ref 17, .int (nI i)] h Q := by
  refine t_X6_isFigure_0 sh _ ((c_atI sh H hi (fun hb => ⟨_, rfl, sh, ?_⟩)).up (by decide))
  have e1 := (sx_c (c := 48) hb (by decide)).2.1
  have e2 := (sx_c (c := 57) hb (by decide)).2.2
  refine ⟨fun c => k0 (fun y => ?_), fun c => ⟨fun c2 => k0 (fun y => ?_), fun c2 => k1 ?_⟩⟩
  · have := e1.mp c; have := y.2; omega
  · have := e2.mp c2; have := y.2; omega
  · have c : ¬ (T.2 i < 48 ∨ 128 ≤ T.2 i) := fun y => c (e1.mpr y)
    have c2 : ¬ (57 < T.2 i ∧ T.2 i < 128) := fun y => c2 (e2.mpr y)
    exact ⟨hi, by omega, by omega⟩
theorem tx_b : ∀ k, k < 5 → (mm_tx (4 + k)).length ≤ 6 ∧ 4 ≤ (mm_tx (4 + k)).length ∧ ∀ i, i < (mm_tx (4 + k)).length → (mm_tx (4 + k)).getD i 0 < 128 := by decide +kernel
theorem c_spells (sh : s_h h) (H : cT h T.1 T.2) {s e k : Nat} (hse : s ≤ e) (he : e ≤ T.1) (hk : k < 5) (k0 : ¬ zSp T s e k → Q (some (.int 0)) h) (k1 : zSp T s e k → Q (some (.int 1)) h) : w_c 21 52 [.ref 17, .ref (4 + k), .int (nI s), .int (nI e)] h Q := by
  obtain ⟨b1, b2, b3⟩ := tx_b k hk
  have h2 := H.1
  have kd : h_kd h (4 + k) = 30 := by
    have : k = 0 ∨ k = 1 ∨ k = 2 ∨ k = 3 ∨ k = 4 := by omega
    rcases this with rfl | rfl | rfl | rfl | rfl
    · exact kd_4 sh
    · exact kd_5 sh
    · exact kd_6 sh
    · exact kd_7 sh
    · exact kd_8 sh
  have loop : e - s = (mm_tx (4 + k)).length → ∀ w i, i + w = (mm_tx (4 + k)).length → (∀ j, j < i → T.2 (s + j) = (mm_tx (4 + k)).getD j 0) → w_p 21 (6, 5, mc_X6_spells) 15 [(0, .ref 17), (1, .ref (4 + k)), (2, .int (nI s)), (3, .int (nI e)), (4, .int (nI i))] [] h Q := by
    intro hl w
    induction w with
    | zero =>
      intro i hi hq
      refine t_X6_spells_15 sh _ _ _ _ (K15 := fun _ _ _ _ _ => False) (fun _ _ _ _ _ z => z.elim) ⟨kd, by omega, w_len (by omega) (by omega) ⟨_, rfl, sh, fun _ => k1 ⟨hl, fun j hj => hq j (by omega)⟩, fun z => absurd ((i_le (by omega) (by omega)).mpr (by omega)) z⟩⟩
    | succ w ih =>
      intro i hi hq
      refine t_X6_spells_15 sh _ _ _ _ (K15 := fun y1 y2 y3 y4 hh => y1 = 4 + k ∧ y2 = nI s ∧ y3 = nI e ∧ y4 = nI (i + 1) ∧ hh = h ∧ T.2 (s + i) = (mm_tx (4 + k)).getD i 0) (fun y1 y2 y3 y4 hh z => ?_) ⟨kd, by omega, w_len (by omega) (by omega) ⟨_, rfl, sh, fun z => ?_, fun _ => ?_⟩⟩
      · obtain ⟨rfl, rfl, rfl, rfl, rfl, q⟩ := z
        refine ih (i + 1) (by omega) (fun j hj => ?_)
        by_cases y : j = i
        · rw [y]; exact q
        · exact hq j (by omega)
      · rw [i_le (by omega) (by omega)] at z; omega
      · rw [nI_add]
        refine (c_atI sh H (by omega) (fun hb => ⟨_, rfl, sh, kd, by omega, w_chr (by omega) (by omega) (by omega) (by omega) ⟨_, rfl, sh, ?_⟩⟩)).up (by decide)
        rw [(sx_c hb (b3 i (by omega))).1]
        exact ⟨fun z => ⟨rfl, rfl, rfl, nI_1 i, rfl, z⟩, fun z => k0 (fun y => z (y.2 i (by omega)))⟩
  refine t_X6_spells_0 sh _ _ _ (K15 := fun y1 y2 y3 y4 hh => y1 = 4 + k ∧ y2 = nI s ∧ y3 = nI e ∧ y4 = nI 0 ∧ hh = h ∧ e - s = (mm_tx (4 + k)).length) (fun y1 y2 y3 y4 hh z => ?_) ⟨kd, by omega, w_len (by omega) (by omega) ⟨_, rfl, sh, ?_⟩⟩
  · obtain ⟨rfl, rfl, rfl, rfl, rfl, q⟩ := z
    exact loop q _ 0 (Nat.zero_add _) (fun j hj => absurd hj (Nat.not_lt_zero _))
  · rw [nI_sub hse, nI_eqI (by omega) (by omega)]
    exact ⟨fun z => ⟨rfl, rfl, rfl, rfl, rfl, z.symm⟩, fun z => k0 (fun y => z y.1.symm)⟩
theorem c_nameOf (sh : s_h h) {k : Nat} (hk : k < 5) (k1 : Q (some (va_rf (some (4 + k)))) h) : w_c 0 41 [.int (nI k)] h Q := by
  have e : (nI k).toInt = (k : Int) := nI_toInt (by omega)
  refine t_X4_nameOf_0 sh _ ?_
  rw [e]
  refine ⟨fun z => ?_, fun z => ?_, fun z => ?_, fun z => ?_, fun z => ?_⟩
  · have : k = 4 := by omega
    subst this; exact k1
  · have : k = 0 := by omega
    subst this; exact k1
  · have : k = 1 := by omega
    subst this; exact k1
  · have : k = 2 := by omega
    subst this; exact k1
  · have : k = 3 := by omega
    subst this; exact k1
theorem c_fail (sh : s_h h) {w : Int32} (k : Q none (h_sI (h_sI h 257 19 w) 258 19 (h_oi h 261 19))) : w_c 0 37 [.ref 19, .int w] h Q := t_X4_fail_0 sh w k
def gR : List (Nat × Nat) := [(257, 19), (258, 19), (259, 19), (260, 19), (261, 19), (262, 19)]
def cTok (h : mm_H) (t : Nat × Nat × Nat × Nat) : Prop := (t.1 ≤ 3 ∧ h_oi h 257 19 = 0 ∧ h_oi h 259 19 = nI t.1 ∧ h_oi h 261 19 = nI t.2.1 ∧ h_oi h 262 19 = nI t.2.2.1 ∧ (t.1 = 1 ∨ t.1 = 2 → h_oi h 260 19 = nI t.2.2.2)) ∨ (t.1 = 4 ∧ h_oi h 257 19 = 1 ∧ h_oi h 258 19 = nI t.2.1)
theorem c_skip (sh : s_h h) (H : cT h T.1 T.2) {n : Nat} (hn : n ≤ T.1) (e0 : h_oi h 262 19 = nI n) (k : ∀ e h', rn (tBl T) n e → e ≤ T.1 → fx h h' [(262, 19)] [] → dn h h' → h_oi h' 262 19 = nI e → Q none h') : w_c 1 39 [.ref 19, .ref 17] h Q := by
  have hT := H.1
  have loop : ∀ w i, i + w = T.1 → n ≤ i → (∀ j, n ≤ j → j < i → tBl T j) → ∀ h1, fx h h1 [(262, 19)] [] → dn h h1 → h_oi h1 262 19 = nI i → w_p 1 (4, 2, mc_X4_skipBlanks) 0 [(0, .ref 19), (1, .ref 17)] [] h1 Q := by
    intro w
    induction w with
    | zero =>
      intro i hi hni hq h1 f d e1
      have H1 : cT h1 T.1 T.2 := H.fx f (by decide) (by decide)
      refine t_X4_skipBlanks_L (f.sh sh (by decide)) (K0 := fun _ => False) (fun _ z => z.elim) ⟨fun _ => k i h1 ⟨hni, hq, fun y => by have := y.1; omega⟩ (by omega) f d e1, fun z => absurd ?_ z⟩
      rw [H1.2.1, e1, i_le (by omega) (by omega)]; omega
    | succ w ih =>
      intro i hi hni hq h1 f d e1
      have sh1 := f.sh sh (by decide)
      have H1 : cT h1 T.1 T.2 := H.fx f (by decide) (by decide)
      refine t_X4_skipBlanks_L sh1 (K0 := fun hh => tBl T i ∧ hh = h_sI h1 262 19 (nI (i + 1))) (fun hh z => ?_) ⟨fun z => ?_, fun _ => ?_⟩
      · obtain ⟨q, rfl⟩ := z
        refine ih (i + 1) (by omega) (by omega) (fun j h1 h2 => ?_) _ (f.sI _ (Or.inl (by decide))) (d.sI _ (by decide)) (oi_self _ _ _ _)
        by_cases y : j = i
        · rw [y]; exact q
        · exact hq j h1 (by omega)
      · rw [H1.2.1, e1, i_le (by omega) (by omega)] at z; omega
      · rw [e1]
        refine (c_atI sh1 H1 (by omega) (fun hb => ⟨_, rfl, sh1, ?_⟩))
        have e2 := (sx_c (c := 32) hb (by decide)).1
        refine ⟨fun z => k i h1 ⟨hni, hq, fun y => z (e2.mpr y.2)⟩ (by omega) f d e1, fun z => ⟨⟨by omega, e2.mp z⟩, ?_⟩⟩
        rw [e1, nI_1]
  refine w_ci (M := (4, 2, mc_X4_skipBlanks)) rfl (Nat.le_of_ble_eq_true rfl) ?_
  exact loop (T.1 - n) n (by omega) (Nat.le_refl _) (fun j h1 h2 => by omega) h (fx.rf _ _ _) (dn.rf _) e0
end RD
