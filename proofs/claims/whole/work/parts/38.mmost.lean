set_option maxRecDepth 20000 in
theorem t_X9_most_0 {D : Nat} {h : mm_H} {Q : Option Value → mm_H → Prop} (sh : s_h h) (first : Int32) (out : Int32) {K2 : Int32 → Int32 → Int32 → mm_H → Prop} (k2 : ∀ (first : Int32) (out : Int32) (x3 : Int32) (h : mm_H), K2 first out x3 h → w_p (D + 1) (9, 5, mc_X9_most) 2 [(0, .ref 44), (1, .int first), (2, .int out), (3, .int x3)] [] h Q) 
    (F : K2 first out 0 h) :
    w_c (D + 1) 139 [.ref 44, .int first, .int out] h Q := by
  refine w_ci (M := (9, 5, mc_X9_most)) rfl (Nat.le_of_ble_eq_true rfl) ?_
  show w_p _ _ 0 [(0, .ref 44), (1, .int first), (2, .int out)] [] h Q
  refine w_b 2 2 [(3, .int 0), (0, .ref 44), (1, .int first), (2, .int out)] [] rfl ?_
  refine w_lo [0, 1, 2, 3] [(0, .ref 44), (1, .int first), (2, .int out), (3, .int 0)] rfl rfl ?_
  exact k2 _ _ _ _ F

set_option maxRecDepth 20000 in
theorem t_X9_most_2 {D : Nat} {h : mm_H} {Q : Option Value → mm_H → Prop} (sh : s_h h) (first : Int32) (out : Int32) (x3 : Int32) {K2 : Int32 → Int32 → Int32 → mm_H → Prop} (k2 : ∀ (first : Int32) (out : Int32) (x3 : Int32) (h : mm_H), K2 first out x3 h → w_p (D + 1) (9, 5, mc_X9_most) 2 [(0, .ref 44), (1, .int first), (2, .int out), (3, .int x3)] [] h Q) {K26 : Int32 → Int32 → Int32 → mm_H → Prop} (k26 : ∀ (first : Int32) (out : Int32) (x3 : Int32) (h : mm_H), K26 first out x3 h → w_p (D + 1) (9, 5, mc_X9_most) 26 [(0, .ref 44), (1, .int first), (2, .int out), (3, .int x3)] [] h Q) 
    (F : (((h_oi h 600 44) ≤ x3 → K26 first out 0 h) ∧ (¬ ((h_oi h 600 44) ≤ x3) → (vp_in x3 10 ∧ K2 first out (x3 + 1) (h_sA h 62 x3.toNatClampNeg (-4)))))) :
    w_p (D + 1) (9, 5, mc_X9_most) 2 [(0, .ref 44), (1, .int first), (2, .int out), (3, .int x3)] [] h Q := by
  refine w_b 2 4 [(0, .ref 44), (1, .int first), (2, .int out), (3, .int x3)] [.ref 44, .int x3] rfl ?_
  refine w_get (g := 600) rfl rfl rfl (kd_44 sh) ?_
  refine w_ic_ge (tgt := 24) (x := x3) (y := h_oi h 600 44) rfl (by decide) ⟨fun c1 => ?_, fun c1 => ?_⟩
  · have F := F.1 c1
    refine w_b 2 26 [(3, .int 0), (0, .ref 44), (1, .int first), (2, .int out)] [] rfl ?_
    refine w_lo [0, 1, 2, 3] [(0, .ref 44), (1, .int first), (2, .int out), (3, .int 0)] rfl rfl ?_
    exact k26 _ _ _ _ F
  · have F := F.2 c1
    refine w_b 1 11 [(0, .ref 44), (1, .int first), (2, .int out), (3, .int x3)] [.ref 44] rfl ?_
    refine w_getS (b := 62) rfl rfl rfl (kd_44 sh) (or_609_44 sh) ?_
    refine w_b 2 17 [(0, .ref 44), (1, .int first), (2, .int out), (3, .int x3)] [.int (-4), .int x3, .ref 62] rfl ?_
    obtain ⟨g2, F⟩ := F
    refine w_iast rfl (kd_62 sh) (by decide) (by rw [show h_al h 62 = 10 from (al_62 sh)]; exact g2) ?_
    refine w_b 2 2 [(3, .int (x3 + 1)), (0, .ref 44), (1, .int first), (2, .int out)] [] rfl ?_
    refine w_lo [0, 1, 2, 3] [(0, .ref 44), (1, .int first), (2, .int out), (3, .int (x3 + 1))] rfl rfl ?_
    exact k2 _ _ _ _ F

set_option maxRecDepth 20000 in
theorem t_X9_most_26 {D : Nat} {h : mm_H} {Q : Option Value → mm_H → Prop} (sh : s_h h) (first : Int32) (out : Int32) (x3 : Int32) {K26 : Int32 → Int32 → Int32 → mm_H → Prop} (k26 : ∀ (first : Int32) (out : Int32) (x3 : Int32) (h : mm_H), K26 first out x3 h → w_p (D + 1) (9, 5, mc_X9_most) 26 [(0, .ref 44), (1, .int first), (2, .int out), (3, .int x3)] [] h Q) {K53 : Int32 → Int32 → Int32 → Int32 → mm_H → Prop} (k53 : ∀ (first : Int32) (out : Int32) (x3 : Int32) (x4 : Int32) (h : mm_H), K53 first out x3 x4 h → w_p (D + 1) (9, 5, mc_X9_most) 53 [(0, .ref 44), (1, .int first), (2, .int out), (3, .int x3), (4, .int x4)] [] h Q) 
    (F : (((h_oi h 604 44) ≤ x3 → K53 first out 0 first h) ∧ (¬ ((h_oi h 604 44) ≤ x3) → (vp_in x3 10 ∧ K26 first out (x3 + 1) (h_sA h 63 x3.toNatClampNeg (-4)))))) :
    w_p (D + 1) (9, 5, mc_X9_most) 26 [(0, .ref 44), (1, .int first), (2, .int out), (3, .int x3)] [] h Q := by
  refine w_b 2 28 [(0, .ref 44), (1, .int first), (2, .int out), (3, .int x3)] [.ref 44, .int x3] rfl ?_
  refine w_get (g := 604) rfl rfl rfl (kd_44 sh) ?_
  refine w_ic_ge (tgt := 48) (x := x3) (y := h_oi h 604 44) rfl (by decide) ⟨fun c1 => ?_, fun c1 => ?_⟩
  · have F := F.1 c1
    refine w_b 4 53 [(4, .int first), (3, .int 0), (0, .ref 44), (1, .int first), (2, .int out)] [] rfl ?_
    refine w_lo [0, 1, 2, 3, 4] [(0, .ref 44), (1, .int first), (2, .int out), (3, .int 0), (4, .int first)] rfl rfl ?_
    exact k53 _ _ _ _ _ F
  · have F := F.2 c1
    refine w_b 1 35 [(0, .ref 44), (1, .int first), (2, .int out), (3, .int x3)] [.ref 44] rfl ?_
    refine w_getS (b := 63) rfl rfl rfl (kd_44 sh) (or_610_44 sh) ?_
    refine w_b 2 41 [(0, .ref 44), (1, .int first), (2, .int out), (3, .int x3)] [.int (-4), .int x3, .ref 63] rfl ?_
    obtain ⟨g2, F⟩ := F
    refine w_iast rfl (kd_63 sh) (by decide) (by rw [show h_al h 63 = 10 from (al_63 sh)]; exact g2) ?_
    refine w_b 2 26 [(3, .int (x3 + 1)), (0, .ref 44), (1, .int first), (2, .int out)] [] rfl ?_
    refine w_lo [0, 1, 2, 3] [(0, .ref 44), (1, .int first), (2, .int out), (3, .int (x3 + 1))] rfl rfl ?_
    exact k26 _ _ _ _ F

set_option maxRecDepth 20000 in
theorem t_X9_most_53 {D : Nat} {h : mm_H} {Q : Option Value → mm_H → Prop} (sh : s_h h) (first : Int32) (out : Int32) (x3 : Int32) (x4 : Int32) {K53 : Int32 → Int32 → Int32 → Int32 → mm_H → Prop} (k53 : ∀ (first : Int32) (out : Int32) (x3 : Int32) (x4 : Int32) (h : mm_H), K53 first out x3 x4 h → w_p (D + 1) (9, 5, mc_X9_most) 53 [(0, .ref 44), (1, .int first), (2, .int out), (3, .int x3), (4, .int x4)] [] h Q) 
    (F : (((h_oi h 600 44) ≤ x4 → Q (some (.int x3)) h) ∧ (¬ ((h_oi h 600 44) ≤ x4) → w_c D 137 [.ref 44, .int x4, .int out] h (fun r h2 => ∃ z3 : Int32, r = some (.int z3) ∧ s_h h2 ∧ ((z3 = 0 → K53 first out (x3 + 0) (x4 + 1) h2) ∧ (¬ (z3 = 0) → K53 first out (x3 + 1) (x4 + 1) h2)))))) :
    w_p (D + 1) (9, 5, mc_X9_most) 53 [(0, .ref 44), (1, .int first), (2, .int out), (3, .int x3), (4, .int x4)] [] h Q := by
  refine w_b 2 56 [(0, .ref 44), (1, .int first), (2, .int out), (3, .int x3), (4, .int x4)] [.ref 44, .int x4] rfl ?_
  refine w_get (g := 600) rfl rfl rfl (kd_44 sh) ?_
  refine w_ic_ge (tgt := 86) (x := x4) (y := h_oi h 600 44) rfl (by decide) ⟨fun c1 => ?_, fun c1 => ?_⟩
  · have F := F.1 c1
    refine w_b 1 87 [(0, .ref 44), (1, .int first), (2, .int out), (3, .int x3), (4, .int x4)] [.int x3] rfl ?_
    exact w_ir rfl F
  · have F := F.2 c1
    refine w_b 4 67 [(0, .ref 44), (1, .int first), (2, .int out), (3, .int x3), (4, .int x4)] [.int out, .int x4, .ref 44, .int x3] rfl ?_
    refine w_cv (As := [.int x4, .int out]) (b := 44) (rest := [.int x3]) rfl rfl rfl (Nat.le_of_ble_eq_true rfl) (kd_44 sh) (fun z => absurd z (by decide)) (dc := D) (by omega) (F.mono (fun r h2 F => ?_))
    obtain ⟨z3, rfl, sh2, F⟩ := F
    show w_p _ _ 70 [(0, .ref 44), (1, .int first), (2, .int out), (3, .int x3), (4, .int x4)] [.int z3, .int x3] h2 _
    refine w_if_eq (tgt := 77) (x := z3) rfl (by decide) ⟨fun c4 => ?_, fun c4 => ?_⟩
    · have F := F.1 c4
      refine w_b 5 53 [(4, .int (x4 + 1)), (3, .int (x3 + 0)), (0, .ref 44), (1, .int first), (2, .int out)] [] rfl ?_
      refine w_lo [0, 1, 2, 3, 4] [(0, .ref 44), (1, .int first), (2, .int out), (3, .int (x3 + 0)), (4, .int (x4 + 1))] rfl rfl ?_
      exact k53 _ _ _ _ _ F
    · have F := F.2 c4
      refine w_b 6 53 [(4, .int (x4 + 1)), (3, .int (x3 + 1)), (0, .ref 44), (1, .int first), (2, .int out)] [] rfl ?_
      refine w_lo [0, 1, 2, 3, 4] [(0, .ref 44), (1, .int first), (2, .int out), (3, .int (x3 + 1)), (4, .int (x4 + 1))] rfl rfl ?_
      exact k53 _ _ _ _ _ F

set_option maxRecDepth 20000 in
theorem t_X9_matches_0 {D : Nat} {h : mm_H} {Q : Option Value → mm_H → Prop} (sh : s_h h) {K27 : Int32 → Int32 → Int32 → Int32 → mm_H → Prop} (k27 : ∀ (x1 : Int32) (x2 : Int32) (x3 : Int32) (x4 : Int32) (h : mm_H), K27 x1 x2 x3 x4 h → w_p (D + 1) (9, 6, mc_X9_matches) 27 [(0, .ref 44), (1, .int x1), (2, .int x2), (3, .int x3), (4, .int x4)] [] h Q) 
    (F : w_c D 116 [.ref 44, .int (h_oi h 588 44), .int 4] h (fun r h1 => ∃ z2 : Int32, r = some (.int z2) ∧ s_h h1 ∧ w_c D 136 [.ref 44, .int z2] h1 (fun r h3 => r = none ∧ s_h h3 ∧ w_c D 139 [.ref 44, .int 0, .int 0] h3 (fun r h4 => ∃ z5 : Int32, r = some (.int z5) ∧ s_h h4 ∧ K27 z5 0 0 0 h4)))) :
    w_c (D + 1) 140 [.ref 44] h Q := by
  refine w_ci (M := (9, 6, mc_X9_matches)) rfl (Nat.le_of_ble_eq_true rfl) ?_
  show w_p _ _ 0 [(0, .ref 44)] [] h Q
  refine w_b 3 3 [(0, .ref 44)] [.ref 44, .ref 44, .ref 44] rfl ?_
  refine w_get (g := 588) rfl rfl rfl (kd_44 sh) ?_
  refine w_b 1 7 [(0, .ref 44)] [.int 4, .int (h_oi h 588 44), .ref 44, .ref 44] rfl ?_
  refine w_cv (As := [.int (h_oi h 588 44), .int 4]) (b := 44) (rest := [.ref 44]) rfl rfl rfl (Nat.le_of_ble_eq_true rfl) (kd_44 sh) (fun z => absurd z (by decide)) (dc := D) (by omega) (F.mono (fun r h1 F => ?_))
  obtain ⟨z2, rfl, sh1, F⟩ := F
  show w_p _ _ 10 [(0, .ref 44)] [.int z2, .ref 44] h1 _
  refine w_cv (As := [.int z2]) (b := 44) (rest := []) rfl rfl rfl (Nat.le_of_ble_eq_true rfl) (kd_44 sh1) (fun z => absurd z (by decide)) (dc := D) (by omega) (F.mono (fun r h3 F => ?_))
  obtain ⟨rfl, sh3, F⟩ := F
  show w_p _ _ 13 [(0, .ref 44)] [] h3 _
  refine w_b 3 16 [(0, .ref 44)] [.int 0, .int 0, .ref 44] rfl ?_
  refine w_cv (As := [.int 0, .int 0]) (b := 44) (rest := []) rfl rfl rfl (Nat.le_of_ble_eq_true rfl) (kd_44 sh3) (fun z => absurd z (by decide)) (dc := D) (by omega) (F.mono (fun r h4 F => ?_))
  obtain ⟨z5, rfl, sh4, F⟩ := F
  show w_p _ _ 19 [(0, .ref 44)] [.int z5] h4 _
  refine w_b 7 27 [(4, .int 0), (3, .int 0), (2, .int 0), (1, .int z5), (0, .ref 44)] [] rfl ?_
  refine w_lo [0, 1, 2, 3, 4] [(0, .ref 44), (1, .int z5), (2, .int 0), (3, .int 0), (4, .int 0)] rfl rfl ?_
  exact k27 _ _ _ _ _ F

set_option maxRecDepth 20000 in
theorem t_X9_matches_27 {D : Nat} {h : mm_H} {Q : Option Value → mm_H → Prop} (sh : s_h h) (x1 : Int32) (x2 : Int32) (x3 : Int32) (x4 : Int32) {K48 : Int32 → Int32 → Int32 → Int32 → Int32 → mm_H → Prop} (k48 : ∀ (x1 : Int32) (x2 : Int32) (x3 : Int32) (x4 : Int32) (x5 : Int32) (h : mm_H), K48 x1 x2 x3 x4 x5 h → w_p (D + 1) (9, 6, mc_X9_matches) 48 [(0, .ref 44), (1, .int x1), (2, .int x2), (3, .int x3), (4, .int x4), (5, .int x5)] [] h Q) 
    (F : (((h_oi h 600 44) ≤ x4 → Q (some (.int x1)) h) ∧ (¬ ((h_oi h 600 44) ≤ x4) → (vp_in x4 10 ∧ K48 x1 x2 x3 x4 0 (h_sA h 66 x4.toNatClampNeg (-4)))))) :
    w_p (D + 1) (9, 6, mc_X9_matches) 27 [(0, .ref 44), (1, .int x1), (2, .int x2), (3, .int x3), (4, .int x4)] [] h Q := by
  refine w_b 2 30 [(0, .ref 44), (1, .int x1), (2, .int x2), (3, .int x3), (4, .int x4)] [.ref 44, .int x4] rfl ?_
  refine w_get (g := 600) rfl rfl rfl (kd_44 sh) ?_
  refine w_ic_ge (tgt := 147) (x := x4) (y := h_oi h 600 44) rfl (by decide) ⟨fun c1 => ?_, fun c1 => ?_⟩
  · have F := F.1 c1
    refine w_b 1 148 [(0, .ref 44), (1, .int x1), (2, .int x2), (3, .int x3), (4, .int x4)] [.int x1] rfl ?_
    exact w_ir rfl F
  · have F := F.2 c1
    refine w_b 1 37 [(0, .ref 44), (1, .int x1), (2, .int x2), (3, .int x3), (4, .int x4)] [.ref 44] rfl ?_
    refine w_getS (b := 66) rfl rfl rfl (kd_44 sh) (or_613_44 sh) ?_
    refine w_b 2 44 [(0, .ref 44), (1, .int x1), (2, .int x2), (3, .int x3), (4, .int x4)] [.int (-4), .int x4, .ref 66] rfl ?_
    obtain ⟨g2, F⟩ := F
    refine w_iast rfl (kd_66 sh) (by decide) (by rw [show h_al h 66 = 10 from (al_66 sh)]; exact g2) ?_
    refine w_b 2 48 [(5, .int 0), (0, .ref 44), (1, .int x1), (2, .int x2), (3, .int x3), (4, .int x4)] [] rfl ?_
    refine w_lo [0, 1, 2, 3, 4, 5] [(0, .ref 44), (1, .int x1), (2, .int x2), (3, .int x3), (4, .int x4), (5, .int 0)] rfl rfl ?_
    exact k48 _ _ _ _ _ _ F

set_option maxRecDepth 20000 in
theorem t_X9_matches_48 {D : Nat} {h : mm_H} {Q : Option Value → mm_H → Prop} (sh : s_h h) (x1 : Int32) (x2 : Int32) (x3 : Int32) (x4 : Int32) (x5 : Int32) {K27 : Int32 → Int32 → Int32 → Int32 → mm_H → Prop} (k27 : ∀ (x1 : Int32) (x2 : Int32) (x3 : Int32) (x4 : Int32) (h : mm_H), K27 x1 x2 x3 x4 h → w_p (D + 1) (9, 6, mc_X9_matches) 27 [(0, .ref 44), (1, .int x1), (2, .int x2), (3, .int x3), (4, .int x4)] [] h Q) {K48 : Int32 → Int32 → Int32 → Int32 → Int32 → mm_H → Prop} (k48 : ∀ (x1 : Int32) (x2 : Int32) (x3 : Int32) (x4 : Int32) (x5 : Int32) (h : mm_H), K48 x1 x2 x3 x4 x5 h → w_p (D + 1) (9, 6, mc_X9_matches) 48 [(0, .ref 44), (1, .int x1), (2, .int x2), (3, .int x3), (4, .int x4), (5, .int x5)] [] h Q) 
    (F : (((h_oi h 604 44) ≤ x5 → K27 x1 x2 x3 (x4 + 1) h) ∧ (¬ ((h_oi h 604 44) ≤ x5) → (vp_in x4 10 ∧ ((¬ (h_ai h 66 x4.toNatClampNeg) = (-4) → K27 x1 x2 x3 (x4 + 1) h) ∧ ((h_ai h 66 x4.toNatClampNeg) = (-4) → (vp_in (((10 : Int32) * x4) + x5) 100 ∧ (((h_ai h 61 (((10 : Int32) * x4) + x5).toNatClampNeg) = 0 → K48 x1 x2 x3 x4 (x5 + 1) h) ∧ (¬ ((h_ai h 61 (((10 : Int32) * x4) + x5).toNatClampNeg) = 0) → ((¬ ((x3 >>> (x5 &&& 31)) &&& (1 : Int32)) = 0 → K48 x1 x2 x3 x4 (x5 + 1) h) ∧ (((x3 >>> (x5 &&& 31)) &&& (1 : Int32)) = 0 → w_c D 139 [.ref 44, .int (x4 + 1), .int (x3 ||| ((1 : Int32) <<< (x5 &&& 31)))] h (fun r h7 => ∃ z8 : Int32, r = some (.int z8) ∧ s_h h7 ∧ ((¬ ((x2 + 1) + z8) = x1 → K48 x1 x2 x3 x4 (x5 + 1) h7) ∧ (((x2 + 1) + z8) = x1 → (vp_in x4 10 ∧ K48 x1 (x2 + 1) (x3 ||| ((1 : Int32) <<< (x5 &&& 31))) x4 (x5 + 1) (h_sA h7 66 x4.toNatClampNeg x5)))))))))))))))) :
    w_p (D + 1) (9, 6, mc_X9_matches) 48 [(0, .ref 44), (1, .int x1), (2, .int x2), (3, .int x3), (4, .int x4), (5, .int x5)] [] h Q := by
  refine w_b 2 51 [(0, .ref 44), (1, .int x1), (2, .int x2), (3, .int x3), (4, .int x4), (5, .int x5)] [.ref 44, .int x5] rfl ?_
  refine w_get (g := 604) rfl rfl rfl (kd_44 sh) ?_
  refine w_ic_ge (tgt := 141) (x := x5) (y := h_oi h 604 44) rfl (by decide) ⟨fun c1 => ?_, fun c1 => ?_⟩
  · have F := F.1 c1
    refine w_b 2 27 [(4, .int (x4 + 1)), (0, .ref 44), (1, .int x1), (2, .int x2), (3, .int x3), (5, .int x5)] [] rfl ?_
    refine w_lo [0, 1, 2, 3, 4] [(0, .ref 44), (1, .int x1), (2, .int x2), (3, .int x3), (4, .int (x4 + 1))] rfl rfl ?_
    exact k27 _ _ _ _ _ F
  · have F := F.2 c1
    refine w_b 1 58 [(0, .ref 44), (1, .int x1), (2, .int x2), (3, .int x3), (4, .int x4), (5, .int x5)] [.ref 44] rfl ?_
    refine w_getS (b := 66) rfl rfl rfl (kd_44 sh) (or_613_44 sh) ?_
    refine w_b 1 63 [(0, .ref 44), (1, .int x1), (2, .int x2), (3, .int x3), (4, .int x4), (5, .int x5)] [.int x4, .ref 66] rfl ?_
    obtain ⟨g2, F⟩ := F
    refine w_iald rfl (kd_66 sh) (by rw [show h_al h 66 = 10 from (al_66 sh)]; exact g2) ?_
    refine w_b 1 66 [(0, .ref 44), (1, .int x1), (2, .int x2), (3, .int x3), (4, .int x4), (5, .int x5)] [.int (-4), .int (h_ai h 66 x4.toNatClampNeg)] rfl ?_
    refine w_ic_ne (tgt := 141) (x := h_ai h 66 x4.toNatClampNeg) (y := (-4)) rfl (by decide) ⟨fun c3 => ?_, fun c3 => ?_⟩
    · have F := F.1 c3
      refine w_b 2 27 [(4, .int (x4 + 1)), (0, .ref 44), (1, .int x1), (2, .int x2), (3, .int x3), (5, .int x5)] [] rfl ?_
      refine w_lo [0, 1, 2, 3, 4] [(0, .ref 44), (1, .int x1), (2, .int x2), (3, .int x3), (4, .int (x4 + 1))] rfl rfl ?_
      exact k27 _ _ _ _ _ F
    · have F := F.2 (Decidable.not_not.mp c3)
      refine w_b 1 70 [(0, .ref 44), (1, .int x1), (2, .int x2), (3, .int x3), (4, .int x4), (5, .int x5)] [.ref 44] rfl ?_
      refine w_getS (b := 61) rfl rfl rfl (kd_44 sh) (or_608_44 sh) ?_
      refine w_b 5 81 [(0, .ref 44), (1, .int x1), (2, .int x2), (3, .int x3), (4, .int x4), (5, .int x5)] [.int (((10 : Int32) * x4) + x5), .ref 61] rfl ?_
      obtain ⟨g4, F⟩ := F
      refine w_bald rfl (Or.inr (kd_61 sh)) (by rw [show h_al h 61 = 100 from (al_61 sh)]; exact g4) ?_
      refine w_if_eq (tgt := 135) (x := h_ai h 61 (((10 : Int32) * x4) + x5).toNatClampNeg) rfl (by decide) ⟨fun c5 => ?_, fun c5 => ?_⟩
      · have F := F.1 c5
        refine w_b 2 48 [(5, .int (x5 + 1)), (0, .ref 44), (1, .int x1), (2, .int x2), (3, .int x3), (4, .int x4)] [] rfl ?_
        refine w_lo [0, 1, 2, 3, 4, 5] [(0, .ref 44), (1, .int x1), (2, .int x2), (3, .int x3), (4, .int x4), (5, .int (x5 + 1))] rfl rfl ?_
        exact k48 _ _ _ _ _ _ F
      · have F := F.2 c5
        refine w_b 5 91 [(0, .ref 44), (1, .int x1), (2, .int x2), (3, .int x3), (4, .int x4), (5, .int x5)] [.int ((x3 >>> (x5 &&& 31)) &&& (1 : Int32))] rfl ?_
        refine w_if_ne (tgt := 135) (x := (x3 >>> (x5 &&& 31)) &&& (1 : Int32)) rfl (by decide) ⟨fun c6 => ?_, fun c6 => ?_⟩
        · have F := F.1 c6
          refine w_b 2 48 [(5, .int (x5 + 1)), (0, .ref 44), (1, .int x1), (2, .int x2), (3, .int x3), (4, .int x4)] [] rfl ?_
          refine w_lo [0, 1, 2, 3, 4, 5] [(0, .ref 44), (1, .int x1), (2, .int x2), (3, .int x3), (4, .int x4), (5, .int (x5 + 1))] rfl rfl ?_
          exact k48 _ _ _ _ _ _ F
        · have F := F.2 (Decidable.not_not.mp c6)
          refine w_b 12 108 [(0, .ref 44), (1, .int x1), (2, .int x2), (3, .int x3), (4, .int x4), (5, .int x5)] [.int (x3 ||| ((1 : Int32) <<< (x5 &&& 31))), .int (x4 + 1), .ref 44, .int (x2 + 1)] rfl ?_
          refine w_cv (As := [.int (x4 + 1), .int (x3 ||| ((1 : Int32) <<< (x5 &&& 31)))]) (b := 44) (rest := [.int (x2 + 1)]) rfl rfl rfl (Nat.le_of_ble_eq_true rfl) (kd_44 sh) (fun z => absurd z (by decide)) (dc := D) (by omega) (F.mono (fun r h7 F => ?_))
          obtain ⟨z8, rfl, sh7, F⟩ := F
          show w_p _ _ 111 [(0, .ref 44), (1, .int x1), (2, .int x2), (3, .int x3), (4, .int x4), (5, .int x5)] [.int z8, .int (x2 + 1)] h7 _
          refine w_b 2 113 [(0, .ref 44), (1, .int x1), (2, .int x2), (3, .int x3), (4, .int x4), (5, .int x5)] [.int x1, .int ((x2 + 1) + z8)] rfl ?_
          refine w_ic_ne (tgt := 135) (x := (x2 + 1) + z8) (y := x1) rfl (by decide) ⟨fun c9 => ?_, fun c9 => ?_⟩
          · have F := F.1 c9
            refine w_b 2 48 [(5, .int (x5 + 1)), (0, .ref 44), (1, .int x1), (2, .int x2), (3, .int x3), (4, .int x4)] [] rfl ?_
            refine w_lo [0, 1, 2, 3, 4, 5] [(0, .ref 44), (1, .int x1), (2, .int x2), (3, .int x3), (4, .int x4), (5, .int (x5 + 1))] rfl rfl ?_
            exact k48 _ _ _ _ _ _ F
          · have F := F.2 (Decidable.not_not.mp c9)
            refine w_b 1 117 [(0, .ref 44), (1, .int x1), (2, .int x2), (3, .int x3), (4, .int x4), (5, .int x5)] [.ref 44] rfl ?_
            refine w_getS (b := 66) rfl rfl rfl (kd_44 sh7) (or_613_44 sh7) ?_
            refine w_b 2 124 [(0, .ref 44), (1, .int x1), (2, .int x2), (3, .int x3), (4, .int x4), (5, .int x5)] [.int x5, .int x4, .ref 66] rfl ?_
            obtain ⟨g10, F⟩ := F
            refine w_iast rfl (kd_66 sh7) (by decide) (by rw [show h_al h7 66 = 10 from (al_66 sh7)]; exact g10) ?_
            refine w_b 9 48 [(5, .int (x5 + 1)), (3, .int (x3 ||| ((1 : Int32) <<< (x5 &&& 31)))), (2, .int (x2 + 1)), (0, .ref 44), (1, .int x1), (4, .int x4)] [] rfl ?_
            refine w_lo [0, 1, 2, 3, 4, 5] [(0, .ref 44), (1, .int x1), (2, .int (x2 + 1)), (3, .int (x3 ||| ((1 : Int32) <<< (x5 &&& 31)))), (4, .int x4), (5, .int (x5 + 1))] rfl rfl ?_
            exact k48 _ _ _ _ _ _ F

set_option maxRecDepth 20000 in
theorem t_X9_why_0 {D : Nat} {h : mm_H} {Q : Option Value → mm_H → Prop} (sh : s_h h) (what : Int32) {K24 : Int32 → Int32 → Int32 → Int32 → mm_H → Prop} (k24 : ∀ (what : Int32) (x2 : Int32) (x3 : Int32) (x4 : Int32) (h : mm_H), K24 what x2 x3 x4 h → w_p (D + 1) (9, 7, mc_X9_why) 24 [(0, .ref 44), (1, .int what), (2, .int x2), (3, .int x3), (4, .int x4)] [] h Q) 
    (F : ((¬ (f_in what.toInt64 (Int64.ofNat 0) (Int64.ofNat 1)) = 0 → w_c D 140 [.ref 44] h (fun r h2 => ∃ z3 : Int32, r = some (.int z3) ∧ s_h h2 ∧ K24 what 0 0 0 h2)) ∧ ((f_in what.toInt64 (Int64.ofNat 0) (Int64.ofNat 1)) = 0 → Q (some (.int (-1))) h))) :
    w_c (D + 1) 143 [.ref 44, .int what] h Q := by
  refine w_ci (M := (9, 7, mc_X9_why)) rfl (Nat.le_of_ble_eq_true rfl) ?_
  show w_p _ _ 0 [(0, .ref 44), (1, .int what)] [] h Q
  refine w_b 4 4 [(0, .ref 44), (1, .int what)] [.long (Int64.ofNat 1), .long (Int64.ofNat 0), .long what.toInt64] rfl ?_
  refine w_cs (As := [.long what.toInt64, .long (Int64.ofNat 0), .long (Int64.ofNat 1)]) (rest := []) rfl rfl rfl (Nat.le_of_ble_eq_true rfl) (dc := 0) (by omega) (sp_in  ?_)
  show w_p _ _ 7 [(0, .ref 44), (1, .int what)] [.int (f_in what.toInt64 (Int64.ofNat 0) (Int64.ofNat 1))] h _
  refine w_if_ne (tgt := 12) (x := f_in what.toInt64 (Int64.ofNat 0) (Int64.ofNat 1)) rfl (by decide) ⟨fun c1 => ?_, fun c1 => ?_⟩
  · have F := F.1 c1
    refine w_b 1 13 [(0, .ref 44), (1, .int what)] [.ref 44] rfl ?_
    refine w_cv (As := []) (b := 44) (rest := []) rfl rfl rfl (Nat.le_of_ble_eq_true rfl) (kd_44 sh) (fun z => absurd z (by decide)) (dc := D) (by omega) (F.mono (fun r h2 F => ?_))
    obtain ⟨z3, rfl, sh2, F⟩ := F
    show w_p _ _ 16 [(0, .ref 44), (1, .int what)] [.int z3] h2 _
    refine w_b 7 24 [(4, .int 0), (3, .int 0), (2, .int 0), (0, .ref 44), (1, .int what)] [] rfl ?_
    refine w_lo [0, 1, 2, 3, 4] [(0, .ref 44), (1, .int what), (2, .int 0), (3, .int 0), (4, .int 0)] rfl rfl ?_
    exact k24 _ _ _ _ _ F
  · have F := F.2 (Decidable.not_not.mp c1)
    refine w_b 1 11 [(0, .ref 44), (1, .int what)] [.int (-1)] rfl ?_
    exact w_ir rfl F

set_option maxRecDepth 20000 in
theorem t_X9_why_24 {D : Nat} {h : mm_H} {Q : Option Value → mm_H → Prop} (sh : s_h h) (what : Int32) (x2 : Int32) (x3 : Int32) (x4 : Int32) {K24 : Int32 → Int32 → Int32 → Int32 → mm_H → Prop} (k24 : ∀ (what : Int32) (x2 : Int32) (x3 : Int32) (x4 : Int32) (h : mm_H), K24 what x2 x3 x4 h → w_p (D + 1) (9, 7, mc_X9_why) 24 [(0, .ref 44), (1, .int what), (2, .int x2), (3, .int x3), (4, .int x4)] [] h Q) {K65 : Int32 → Int32 → Int32 → Int32 → mm_H → Prop} (k65 : ∀ (what : Int32) (x2 : Int32) (x3 : Int32) (x4 : Int32) (h : mm_H), K65 what x2 x3 x4 h → w_p (D + 1) (9, 7, mc_X9_why) 65 [(0, .ref 44), (1, .int what), (2, .int x2), (3, .int x3), (4, .int x4)] [] h Q) 
    (F : (((h_oi h 600 44) ≤ x4 → K65 what x2 x3 0 h) ∧ (¬ ((h_oi h 600 44) ≤ x4) → (vp_in x4 10 ∧ ((¬ (h_ai h 66 x4.toNatClampNeg) = (-4) → K24 what (x2 ||| (0 : Int32)) x3 (x4 + 1) h) ∧ ((h_ai h 66 x4.toNatClampNeg) = (-4) → K24 what (x2 ||| ((1 : Int32) <<< (x4 &&& 31))) x3 (x4 + 1) h)))))) :
    w_p (D + 1) (9, 7, mc_X9_why) 24 [(0, .ref 44), (1, .int what), (2, .int x2), (3, .int x3), (4, .int x4)] [] h Q := by
  refine w_b 2 27 [(0, .ref 44), (1, .int what), (2, .int x2), (3, .int x3), (4, .int x4)] [.ref 44, .int x4] rfl ?_
  refine w_get (g := 600) rfl rfl rfl (kd_44 sh) ?_
  refine w_ic_ge (tgt := 62) (x := x4) (y := h_oi h 600 44) rfl (by decide) ⟨fun c1 => ?_, fun c1 => ?_⟩
  · have F := F.1 c1
    refine w_b 2 65 [(4, .int 0), (0, .ref 44), (1, .int what), (2, .int x2), (3, .int x3)] [] rfl ?_
    refine w_lo [0, 1, 2, 3, 4] [(0, .ref 44), (1, .int what), (2, .int x2), (3, .int x3), (4, .int 0)] rfl rfl ?_
    exact k65 _ _ _ _ _ F
  · have F := F.2 c1
    refine w_b 2 35 [(0, .ref 44), (1, .int what), (2, .int x2), (3, .int x3), (4, .int x4)] [.ref 44, .int x2] rfl ?_
    refine w_getS (b := 66) rfl rfl rfl (kd_44 sh) (or_613_44 sh) ?_
    refine w_b 1 40 [(0, .ref 44), (1, .int what), (2, .int x2), (3, .int x3), (4, .int x4)] [.int x4, .ref 66, .int x2] rfl ?_
    obtain ⟨g2, F⟩ := F
    refine w_iald rfl (kd_66 sh) (by rw [show h_al h 66 = 10 from (al_66 sh)]; exact g2) ?_
    refine w_b 1 43 [(0, .ref 44), (1, .int what), (2, .int x2), (3, .int x3), (4, .int x4)] [.int (-4), .int (h_ai h 66 x4.toNatClampNeg), .int x2] rfl ?_
    refine w_ic_ne (tgt := 53) (x := h_ai h 66 x4.toNatClampNeg) (y := (-4)) rfl (by decide) ⟨fun c3 => ?_, fun c3 => ?_⟩
    · have F := F.1 c3
      refine w_b 5 24 [(4, .int (x4 + 1)), (2, .int (x2 ||| (0 : Int32))), (0, .ref 44), (1, .int what), (3, .int x3)] [] rfl ?_
      refine w_lo [0, 1, 2, 3, 4] [(0, .ref 44), (1, .int what), (2, .int (x2 ||| (0 : Int32))), (3, .int x3), (4, .int (x4 + 1))] rfl rfl ?_
      exact k24 _ _ _ _ _ F
    · have F := F.2 (Decidable.not_not.mp c3)
      refine w_b 8 24 [(4, .int (x4 + 1)), (2, .int (x2 ||| ((1 : Int32) <<< (x4 &&& 31)))), (0, .ref 44), (1, .int what), (3, .int x3)] [] rfl ?_
      refine w_lo [0, 1, 2, 3, 4] [(0, .ref 44), (1, .int what), (2, .int (x2 ||| ((1 : Int32) <<< (x4 &&& 31)))), (3, .int x3), (4, .int (x4 + 1))] rfl rfl ?_
      exact k24 _ _ _ _ _ F

set_option maxRecDepth 20000 in
theorem t_X9_why_65 {D : Nat} {h : mm_H} {Q : Option Value → mm_H → Prop} (sh : s_h h) (what : Int32) (x2 : Int32) (x3 : Int32) (x4 : Int32) {K75 : Int32 → Int32 → Int32 → Int32 → Int32 → mm_H → Prop} (k75 : ∀ (what : Int32) (x2 : Int32) (x3 : Int32) (x4 : Int32) (x5 : Int32) (h : mm_H), K75 what x2 x3 x4 x5 h → w_p (D + 1) (9, 7, mc_X9_why) 75 [(0, .ref 44), (1, .int what), (2, .int x2), (3, .int x3), (4, .int x4), (5, .int x5)] [] h Q) 
    (F : ((20 ≤ x4 → ((¬ what = 1 → Q (some (.int ((((1 : Int32) <<< ((h_oi h 600 44) &&& 31)) - (1 : Int32)) - x2))) h) ∧ (what = 1 → Q (some (.int x3)) h))) ∧ (¬ (20 ≤ x4) → K75 what x2 x3 x4 0 h))) :
    w_p (D + 1) (9, 7, mc_X9_why) 65 [(0, .ref 44), (1, .int what), (2, .int x2), (3, .int x3), (4, .int x4)] [] h Q := by
  refine w_b 2 69 [(0, .ref 44), (1, .int what), (2, .int x2), (3, .int x3), (4, .int x4)] [.int 20, .int x4] rfl ?_
  refine w_ic_ge (tgt := 207) (x := x4) (y := 20) rfl (by decide) ⟨fun c1 => ?_, fun c1 => ?_⟩
  · have F := F.1 c1
    refine w_b 2 209 [(0, .ref 44), (1, .int what), (2, .int x2), (3, .int x3), (4, .int x4)] [.int 1, .int what] rfl ?_
    refine w_ic_ne (tgt := 216) (x := what) (y := 1) rfl (by decide) ⟨fun c2 => ?_, fun c2 => ?_⟩
    · have F := F.1 c2
      refine w_b 2 218 [(0, .ref 44), (1, .int what), (2, .int x2), (3, .int x3), (4, .int x4)] [.ref 44, .int 1] rfl ?_
      refine w_get (g := 600) rfl rfl rfl (kd_44 sh) ?_
      refine w_b 5 226 [(0, .ref 44), (1, .int what), (2, .int x2), (3, .int x3), (4, .int x4)] [.int ((((1 : Int32) <<< ((h_oi h 600 44) &&& 31)) - (1 : Int32)) - x2)] rfl ?_
      exact w_ir rfl F
    · have F := F.2 (Decidable.not_not.mp c2)
      refine w_b 2 226 [(0, .ref 44), (1, .int what), (2, .int x2), (3, .int x3), (4, .int x4)] [.int x3] rfl ?_
      exact w_ir rfl F
  · have F := F.2 c1
    refine w_b 2 75 [(5, .int 0), (0, .ref 44), (1, .int what), (2, .int x2), (3, .int x3), (4, .int x4)] [] rfl ?_
    refine w_lo [0, 1, 2, 3, 4, 5] [(0, .ref 44), (1, .int what), (2, .int x2), (3, .int x3), (4, .int x4), (5, .int 0)] rfl rfl ?_
    exact k75 _ _ _ _ _ _ F

set_option maxRecDepth 20000 in
theorem t_X9_why_75 {D : Nat} {h : mm_H} {Q : Option Value → mm_H → Prop} (sh : s_h h) (what : Int32) (x2 : Int32) (x3 : Int32) (x4 : Int32) (x5 : Int32) {K87 : Int32 → Int32 → Int32 → Int32 → Int32 → Int32 → mm_H → Prop} (k87 : ∀ (what : Int32) (x2 : Int32) (x3 : Int32) (x4 : Int32) (x5 : Int32) (x6 : Int32) (h : mm_H), K87 what x2 x3 x4 x5 x6 h → w_p (D + 1) (9, 7, mc_X9_why) 87 [(0, .ref 44), (1, .int what), (2, .int x2), (3, .int x3), (4, .int x4), (5, .int x5), (6, .int x6)] [] h Q) {K148 : Int32 → Int32 → Int32 → Int32 → Int32 → mm_H → Prop} (k148 : ∀ (what : Int32) (x2 : Int32) (x3 : Int32) (x4 : Int32) (x5 : Int32) (h : mm_H), K148 what x2 x3 x4 x5 h → w_p (D + 1) (9, 7, mc_X9_why) 148 [(0, .ref 44), (1, .int what), (2, .int x2), (3, .int x3), (4, .int x4), (5, .int x5)] [] h Q) 
    (F : (((h_oi h 600 44) ≤ x5 → K148 what x2 x3 x4 0 h) ∧ (¬ ((h_oi h 600 44) ≤ x5) → K87 what x2 x3 x4 x5 0 h))) :
    w_p (D + 1) (9, 7, mc_X9_why) 75 [(0, .ref 44), (1, .int what), (2, .int x2), (3, .int x3), (4, .int x4), (5, .int x5)] [] h Q := by
  refine w_b 2 78 [(0, .ref 44), (1, .int what), (2, .int x2), (3, .int x3), (4, .int x4), (5, .int x5)] [.ref 44, .int x5] rfl ?_
  refine w_get (g := 600) rfl rfl rfl (kd_44 sh) ?_
  refine w_ic_ge (tgt := 145) (x := x5) (y := h_oi h 600 44) rfl (by decide) ⟨fun c1 => ?_, fun c1 => ?_⟩
  · have F := F.1 c1
    refine w_b 2 148 [(5, .int 0), (0, .ref 44), (1, .int what), (2, .int x2), (3, .int x3), (4, .int x4)] [] rfl ?_
    refine w_lo [0, 1, 2, 3, 4, 5] [(0, .ref 44), (1, .int what), (2, .int x2), (3, .int x3), (4, .int x4), (5, .int 0)] rfl rfl ?_
    exact k148 _ _ _ _ _ _ F
  · have F := F.2 c1
    refine w_b 2 87 [(6, .int 0), (0, .ref 44), (1, .int what), (2, .int x2), (3, .int x3), (4, .int x4), (5, .int x5)] [] rfl ?_
    refine w_lo [0, 1, 2, 3, 4, 5, 6] [(0, .ref 44), (1, .int what), (2, .int x2), (3, .int x3), (4, .int x4), (5, .int x5), (6, .int 0)] rfl rfl ?_
    exact k87 _ _ _ _ _ _ _ F

set_option maxRecDepth 20000 in
theorem t_X9_why_87 {D : Nat} {h : mm_H} {Q : Option Value → mm_H → Prop} (sh : s_h h) (what : Int32) (x2 : Int32) (x3 : Int32) (x4 : Int32) (x5 : Int32) (x6 : Int32) {K75 : Int32 → Int32 → Int32 → Int32 → Int32 → mm_H → Prop} (k75 : ∀ (what : Int32) (x2 : Int32) (x3 : Int32) (x4 : Int32) (x5 : Int32) (h : mm_H), K75 what x2 x3 x4 x5 h → w_p (D + 1) (9, 7, mc_X9_why) 75 [(0, .ref 44), (1, .int what), (2, .int x2), (3, .int x3), (4, .int x4), (5, .int x5)] [] h Q) {K87 : Int32 → Int32 → Int32 → Int32 → Int32 → Int32 → mm_H → Prop} (k87 : ∀ (what : Int32) (x2 : Int32) (x3 : Int32) (x4 : Int32) (x5 : Int32) (x6 : Int32) (h : mm_H), K87 what x2 x3 x4 x5 x6 h → w_p (D + 1) (9, 7, mc_X9_why) 87 [(0, .ref 44), (1, .int what), (2, .int x2), (3, .int x3), (4, .int x4), (5, .int x5), (6, .int x6)] [] h Q) 
    (F : (((h_oi h 604 44) ≤ x6 → K75 what x2 x3 x4 (x5 + 1) h) ∧ (¬ ((h_oi h 604 44) ≤ x6) → ((¬ ((x2 >>> (x5 &&& 31)) &&& (1 : Int32)) = 1 → K87 what x2 (x3 ||| (0 : Int32)) x4 x5 (x6 + 1) h) ∧ (((x2 >>> (x5 &&& 31)) &&& (1 : Int32)) = 1 → (vp_in (((10 : Int32) * x5) + x6) 100 ∧ (((h_ai h 61 (((10 : Int32) * x5) + x6).toNatClampNeg) = 0 → K87 what x2 (x3 ||| (0 : Int32)) x4 x5 (x6 + 1) h) ∧ (¬ ((h_ai h 61 (((10 : Int32) * x5) + x6).toNatClampNeg) = 0) → K87 what x2 (x3 ||| ((1 : Int32) <<< (x6 &&& 31))) x4 x5 (x6 + 1) h)))))))) :
    w_p (D + 1) (9, 7, mc_X9_why) 87 [(0, .ref 44), (1, .int what), (2, .int x2), (3, .int x3), (4, .int x4), (5, .int x5), (6, .int x6)] [] h Q := by
  refine w_b 2 90 [(0, .ref 44), (1, .int what), (2, .int x2), (3, .int x3), (4, .int x4), (5, .int x5), (6, .int x6)] [.ref 44, .int x6] rfl ?_
  refine w_get (g := 604) rfl rfl rfl (kd_44 sh) ?_
  refine w_ic_ge (tgt := 139) (x := x6) (y := h_oi h 604 44) rfl (by decide) ⟨fun c1 => ?_, fun c1 => ?_⟩
  · have F := F.1 c1
    refine w_b 2 75 [(5, .int (x5 + 1)), (0, .ref 44), (1, .int what), (2, .int x2), (3, .int x3), (4, .int x4), (6, .int x6)] [] rfl ?_
    refine w_lo [0, 1, 2, 3, 4, 5] [(0, .ref 44), (1, .int what), (2, .int x2), (3, .int x3), (4, .int x4), (5, .int (x5 + 1))] rfl rfl ?_
    exact k75 _ _ _ _ _ _ F
  · have F := F.2 c1
    refine w_b 7 104 [(0, .ref 44), (1, .int what), (2, .int x2), (3, .int x3), (4, .int x4), (5, .int x5), (6, .int x6)] [.int 1, .int ((x2 >>> (x5 &&& 31)) &&& (1 : Int32)), .int x3] rfl ?_
    refine w_ic_ne (tgt := 130) (x := (x2 >>> (x5 &&& 31)) &&& (1 : Int32)) (y := 1) rfl (by decide) ⟨fun c2 => ?_, fun c2 => ?_⟩
    · have F := F.1 c2
      refine w_b 5 87 [(6, .int (x6 + 1)), (3, .int (x3 ||| (0 : Int32))), (0, .ref 44), (1, .int what), (2, .int x2), (4, .int x4), (5, .int x5)] [] rfl ?_
      refine w_lo [0, 1, 2, 3, 4, 5, 6] [(0, .ref 44), (1, .int what), (2, .int x2), (3, .int (x3 ||| (0 : Int32))), (4, .int x4), (5, .int x5), (6, .int (x6 + 1))] rfl rfl ?_
      exact k87 _ _ _ _ _ _ _ F
    · have F := F.2 (Decidable.not_not.mp c2)
      refine w_b 1 108 [(0, .ref 44), (1, .int what), (2, .int x2), (3, .int x3), (4, .int x4), (5, .int x5), (6, .int x6)] [.ref 44, .int x3] rfl ?_
      refine w_getS (b := 61) rfl rfl rfl (kd_44 sh) (or_608_44 sh) ?_
      refine w_b 5 119 [(0, .ref 44), (1, .int what), (2, .int x2), (3, .int x3), (4, .int x4), (5, .int x5), (6, .int x6)] [.int (((10 : Int32) * x5) + x6), .ref 61, .int x3] rfl ?_
      obtain ⟨g3, F⟩ := F
      refine w_bald rfl (Or.inr (kd_61 sh)) (by rw [show h_al h 61 = 100 from (al_61 sh)]; exact g3) ?_
      refine w_if_eq (tgt := 130) (x := h_ai h 61 (((10 : Int32) * x5) + x6).toNatClampNeg) rfl (by decide) ⟨fun c4 => ?_, fun c4 => ?_⟩
      · have F := F.1 c4
        refine w_b 5 87 [(6, .int (x6 + 1)), (3, .int (x3 ||| (0 : Int32))), (0, .ref 44), (1, .int what), (2, .int x2), (4, .int x4), (5, .int x5)] [] rfl ?_
        refine w_lo [0, 1, 2, 3, 4, 5, 6] [(0, .ref 44), (1, .int what), (2, .int x2), (3, .int (x3 ||| (0 : Int32))), (4, .int x4), (5, .int x5), (6, .int (x6 + 1))] rfl rfl ?_
        exact k87 _ _ _ _ _ _ _ F
      · have F := F.2 c4
        refine w_b 8 87 [(6, .int (x6 + 1)), (3, .int (x3 ||| ((1 : Int32) <<< (x6 &&& 31)))), (0, .ref 44), (1, .int what), (2, .int x2), (4, .int x4), (5, .int x5)] [] rfl ?_
        refine w_lo [0, 1, 2, 3, 4, 5, 6] [(0, .ref 44), (1, .int what), (2, .int x2), (3, .int (x3 ||| ((1 : Int32) <<< (x6 &&& 31)))), (4, .int x4), (5, .int x5), (6, .int (x6 + 1))] rfl rfl ?_
        exact k87 _ _ _ _ _ _ _ F

set_option maxRecDepth 20000 in
theorem t_X9_why_148 {D : Nat} {h : mm_H} {Q : Option Value → mm_H → Prop} (sh : s_h h) (what : Int32) (x2 : Int32) (x3 : Int32) (x4 : Int32) (x5 : Int32) {K65 : Int32 → Int32 → Int32 → Int32 → mm_H → Prop} (k65 : ∀ (what : Int32) (x2 : Int32) (x3 : Int32) (x4 : Int32) (h : mm_H), K65 what x2 x3 x4 h → w_p (D + 1) (9, 7, mc_X9_why) 65 [(0, .ref 44), (1, .int what), (2, .int x2), (3, .int x3), (4, .int x4)] [] h Q) {K148 : Int32 → Int32 → Int32 → Int32 → Int32 → mm_H → Prop} (k148 : ∀ (what : Int32) (x2 : Int32) (x3 : Int32) (x4 : Int32) (x5 : Int32) (h : mm_H), K148 what x2 x3 x4 x5 h → w_p (D + 1) (9, 7, mc_X9_why) 148 [(0, .ref 44), (1, .int what), (2, .int x2), (3, .int x3), (4, .int x4), (5, .int x5)] [] h Q) 
    (F : (((h_oi h 600 44) ≤ x5 → K65 what x2 x3 (x4 + 1) h) ∧ (¬ ((h_oi h 600 44) ≤ x5) → (vp_in x5 10 ∧ (((h_ai h 66 x5.toNatClampNeg) = (-4) → K148 what (x2 ||| (0 : Int32)) x3 x4 (x5 + 1) h) ∧ (¬ ((h_ai h 66 x5.toNatClampNeg) = (-4)) → (vp_in x5 10 ∧ ((¬ ((x3 >>> ((h_ai h 66 x5.toNatClampNeg) &&& 31)) &&& (1 : Int32)) = 1 → K148 what (x2 ||| (0 : Int32)) x3 x4 (x5 + 1) h) ∧ (((x3 >>> ((h_ai h 66 x5.toNatClampNeg) &&& 31)) &&& (1 : Int32)) = 1 → K148 what (x2 ||| ((1 : Int32) <<< (x5 &&& 31))) x3 x4 (x5 + 1) h))))))))) :
    w_p (D + 1) (9, 7, mc_X9_why) 148 [(0, .ref 44), (1, .int what), (2, .int x2), (3, .int x3), (4, .int x4), (5, .int x5)] [] h Q := by
  refine w_b 2 151 [(0, .ref 44), (1, .int what), (2, .int x2), (3, .int x3), (4, .int x4), (5, .int x5)] [.ref 44, .int x5] rfl ?_
  refine w_get (g := 600) rfl rfl rfl (kd_44 sh) ?_
  refine w_ic_ge (tgt := 201) (x := x5) (y := h_oi h 600 44) rfl (by decide) ⟨fun c1 => ?_, fun c1 => ?_⟩
  · have F := F.1 c1
    refine w_b 2 65 [(4, .int (x4 + 1)), (0, .ref 44), (1, .int what), (2, .int x2), (3, .int x3), (5, .int x5)] [] rfl ?_
    refine w_lo [0, 1, 2, 3, 4] [(0, .ref 44), (1, .int what), (2, .int x2), (3, .int x3), (4, .int (x4 + 1))] rfl rfl ?_
    exact k65 _ _ _ _ _ F
  · have F := F.2 c1
    refine w_b 2 159 [(0, .ref 44), (1, .int what), (2, .int x2), (3, .int x3), (4, .int x4), (5, .int x5)] [.ref 44, .int x2] rfl ?_
    refine w_getS (b := 66) rfl rfl rfl (kd_44 sh) (or_613_44 sh) ?_
    refine w_b 1 164 [(0, .ref 44), (1, .int what), (2, .int x2), (3, .int x3), (4, .int x4), (5, .int x5)] [.int x5, .ref 66, .int x2] rfl ?_
    obtain ⟨g2, F⟩ := F
    refine w_iald rfl (kd_66 sh) (by rw [show h_al h 66 = 10 from (al_66 sh)]; exact g2) ?_
    refine w_b 1 167 [(0, .ref 44), (1, .int what), (2, .int x2), (3, .int x3), (4, .int x4), (5, .int x5)] [.int (-4), .int (h_ai h 66 x5.toNatClampNeg), .int x2] rfl ?_
    refine w_ic_eq (tgt := 192) (x := h_ai h 66 x5.toNatClampNeg) (y := (-4)) rfl (by decide) ⟨fun c3 => ?_, fun c3 => ?_⟩
    · have F := F.1 c3
      refine w_b 5 148 [(5, .int (x5 + 1)), (2, .int (x2 ||| (0 : Int32))), (0, .ref 44), (1, .int what), (3, .int x3), (4, .int x4)] [] rfl ?_
      refine w_lo [0, 1, 2, 3, 4, 5] [(0, .ref 44), (1, .int what), (2, .int (x2 ||| (0 : Int32))), (3, .int x3), (4, .int x4), (5, .int (x5 + 1))] rfl rfl ?_
      exact k148 _ _ _ _ _ _ F
    · have F := F.2 c3
      refine w_b 2 172 [(0, .ref 44), (1, .int what), (2, .int x2), (3, .int x3), (4, .int x4), (5, .int x5)] [.ref 44, .int x3, .int x2] rfl ?_
      refine w_getS (b := 66) rfl rfl rfl (kd_44 sh) (or_613_44 sh) ?_
      refine w_b 1 177 [(0, .ref 44), (1, .int what), (2, .int x2), (3, .int x3), (4, .int x4), (5, .int x5)] [.int x5, .ref 66, .int x3, .int x2] rfl ?_
      obtain ⟨g4, F⟩ := F
      refine w_iald rfl (kd_66 sh) (by rw [show h_al h 66 = 10 from (al_66 sh)]; exact g4) ?_
      refine w_b 4 182 [(0, .ref 44), (1, .int what), (2, .int x2), (3, .int x3), (4, .int x4), (5, .int x5)] [.int 1, .int ((x3 >>> ((h_ai h 66 x5.toNatClampNeg) &&& 31)) &&& (1 : Int32)), .int x2] rfl ?_
      refine w_ic_ne (tgt := 192) (x := (x3 >>> ((h_ai h 66 x5.toNatClampNeg) &&& 31)) &&& (1 : Int32)) (y := 1) rfl (by decide) ⟨fun c5 => ?_, fun c5 => ?_⟩
      · have F := F.1 c5
        refine w_b 5 148 [(5, .int (x5 + 1)), (2, .int (x2 ||| (0 : Int32))), (0, .ref 44), (1, .int what), (3, .int x3), (4, .int x4)] [] rfl ?_
        refine w_lo [0, 1, 2, 3, 4, 5] [(0, .ref 44), (1, .int what), (2, .int (x2 ||| (0 : Int32))), (3, .int x3), (4, .int x4), (5, .int (x5 + 1))] rfl rfl ?_
        exact k148 _ _ _ _ _ _ F
      · have F := F.2 (Decidable.not_not.mp c5)
        refine w_b 8 148 [(5, .int (x5 + 1)), (2, .int (x2 ||| ((1 : Int32) <<< (x5 &&& 31)))), (0, .ref 44), (1, .int what), (3, .int x3), (4, .int x4)] [] rfl ?_
        refine w_lo [0, 1, 2, 3, 4, 5] [(0, .ref 44), (1, .int what), (2, .int (x2 ||| ((1 : Int32) <<< (x5 &&& 31)))), (3, .int x3), (4, .int x4), (5, .int (x5 + 1))] rfl rfl ?_
        exact k148 _ _ _ _ _ _ F

set_option maxHeartbeats 1000000 in
theorem m_most {h : mm_H} {Q : Option Value → mm_H → Prop} {na no : Nat} {fit : Nat → Nat → Bool} {F : Nat → Bool} {first : Nat} {out : Int32} (sh : s_h h) (C : mC h na no) (Ft : mF h na no fit) (hf : first ≤ na) (hF : ∀ o, o < no → bt out o = !F o) (k : ∀ h', fx h h' [] [62, 63, 64, 65] → dn h h' → Q (some (.int (nI (mN fit first na F no)))) h') : w_c 2 139 [.ref 44, .int (nI first), .int out] h Q := by
  obtain ⟨hna, hno⟩ := C.1
  have loop3 : ∀ m j, j + m = na → first ≤ j → ∀ (h1 : mm_H) (t w : Nat → Option Nat) (s : Nat), fx h h1 [] [62, 63, 64, 65] → dn h h1 → mTk h1 no t → mMt h1 na w → cns na no w t → mtc fit first j F no t → (∀ t, mtc fit first j F no t → msz no t ≤ s) → msz no t = s → w_p (1 + 1) (9, 5, mc_X9_most) 53 [(0, .ref 44), (1, .int (nI first)), (2, .int out), (3, .int (nI s)), (4, .int (nI j))] [] h1 Q := by
    intro m
    induction m with
    | zero =>
      intro j hj hfj h1 t w s f d Tk Mt hc m1 m2 m3
      have C1 := C.fx f (by decide) (by decide)
      have ej : j = na := by omega
      subst ej
      refine t_X9_most_53 (f.sh sh (by decide)) _ _ _ _ (K53 := fun _ _ _ _ _ => False) (fun _ _ _ _ _ z => z.elim) ⟨fun _ => ?_, fun c => absurd ?_ c⟩
      · rw [← mN_eq (s := s) ⟨⟨t, m1, m3⟩, m2⟩]
        exact k h1 f d
      · rw [C1.2.1, i_le (by omega) (by omega)]
        exact Nat.le_refl _
    | succ m ih =>
      intro j hj hfj h1 t w s f d Tk Mt hc m1 m2 m3
      have C1 := C.fx f (by decide) (by decide)
      refine t_X9_most_53 (f.sh sh (by decide)) _ _ _ _ (K53 := fun x1 x2 x3 x4 hh => x1 = nI first ∧ x2 = out ∧ x4 = nI (j + 1) ∧ ∃ t w s, x3 = nI s ∧ fx h hh [] [62, 63, 64, 65] ∧ dn h hh ∧ mTk hh no t ∧ mMt hh na w ∧ cns na no w t ∧ mtc fit first (j + 1) F no t ∧ (∀ t, mtc fit first (j + 1) F no t → msz no t ≤ s) ∧ msz no t = s) (fun x1 x2 x3 x4 hh q => ?_) ⟨fun c => ?_, fun _ => ?_⟩
      · obtain ⟨rfl, rfl, rfl, t2, w2, s2, rfl, q1, q2, q3, q4, q5, q6, q7, q8⟩ := q
        exact ih (j + 1) (by omega) (by omega) hh t2 w2 s2 q1 q2 q3 q4 q5 q6 q7 q8
      · rw [C1.2.1, i_le (by omega) (by omega)] at c
        omega
      · refine m_grows (f.sh sh (by decide)) C1 (Ft.fx f (by decide)) Tk Mt hc m1 hF m3 (by omega) hfj (fun h3 f3 d3 k1 k2 k3 => ?_) (fun h3 t2 w2 f3 d3 k1 k2 k3 k4 k5 => ?_)
        · have f4 : fx h h3 [] [62, 63, 64, 65] := f.tr f3 (by decide) (by decide) (by decide) (by decide)
          obtain ⟨V, T, v1, v2, v3⟩ := k3
          have mm := mx_no m1 m2 m3 V T v1 v2 v3
          exact ⟨0, rfl, f4.sh sh (by decide), fun _ => ⟨rfl, rfl, nI_1 j, t, w, s, Int32.add_zero _, f4, d.tr d3, k1, k2, hc, mm.1, mm.2, m3⟩, fun z => absurd rfl z⟩
        · have f4 : fx h h3 [] [62, 63, 64, 65] := f.tr f3 (by decide) (by decide) (by decide) (by decide)
          exact ⟨1, rfl, f4.sh sh (by decide), fun z => absurd z (by decide), fun _ => ⟨rfl, rfl, nI_1 j, t2, w2, s + 1, nI_1 s, f4, d.tr d3, k1, k2, k3, k4, mx_yes m2 k4 k5, k5⟩⟩
  have loop2 : ∀ m j, j + m = no → ∀ (h1 : mm_H), fx h h1 [] [62, 63, 64, 65] → dn h h1 → (∀ a, a < na → h_ai h1 62 a = -4) → (∀ o, o < j → h_ai h1 63 o = -4) → w_p (1 + 1) (9, 5, mc_X9_most) 26 [(0, .ref 44), (1, .int (nI first)), (2, .int out), (3, .int (nI j))] [] h1 Q := by
    intro m
    induction m with
    | zero =>
      intro j hj h1 f d r1 r2
      have C1 := C.fx f (by decide) (by decide)
      refine t_X9_most_26 (f.sh sh (by decide)) _ _ _ (K26 := fun _ _ _ _ => False) (fun _ _ _ _ z => z.elim) (K53 := fun x1 x2 x3 x4 hh => x1 = nI first ∧ x2 = out ∧ x3 = nI 0 ∧ x4 = nI first ∧ hh = h1) (fun x1 x2 x3 x4 hh q => ?_) ⟨fun _ => ⟨rfl, rfl, rfl, rfl, rfl⟩, fun c => absurd ?_ c⟩
      · obtain ⟨rfl, rfl, rfl, rfl, rfl⟩ := q
        have m0 := mx_0 (fit := fit) (lo := first) (F := F) (no := no)
        exact loop3 (na - first) first (by omega) (Nat.le_refl _) hh (fun _ => none) (fun _ => none) 0 f d (fun o ho => r2 o (by omega)) (fun a ha => r1 a ha) ⟨fun a _ o e => (by cases e), fun o _ a e => (by cases e)⟩ m0.2.1 m0.1.2 m0.2.2
      · rw [C1.2.2, i_le (by omega) (by omega)]
        omega
    | succ m ih =>
      intro j hj h1 f d r1 r2
      have C1 := C.fx f (by decide) (by decide)
      refine t_X9_most_26 (f.sh sh (by decide)) _ _ _ (K26 := fun x1 x2 x3 hh => x1 = nI first ∧ x2 = out ∧ x3 = nI (j + 1) ∧ fx h hh [] [62, 63, 64, 65] ∧ dn h hh ∧ (∀ a, a < na → h_ai hh 62 a = -4) ∧ (∀ o, o < j + 1 → h_ai hh 63 o = -4)) (fun x1 x2 x3 hh q => ?_) (K53 := fun _ _ _ _ _ => False) (fun _ _ _ _ _ z => z.elim) ⟨fun c => ?_, fun _ => ⟨vp_in_nI (by omega) (by decide), rfl, rfl, nI_1 j, f.sA _ _ (by decide), d.sA _ _ (by decide), fun a ha => r1 a ha, fun o ho => ?_⟩⟩
      · obtain ⟨rfl, rfl, rfl, q1, q2, q3, q4⟩ := q
        exact ih (j + 1) (by omega) hh q1 q2 q3 q4
      · rw [C1.2.2, i_le (by omega) (by omega)] at c
        omega
      · show va_up (h_ai h1 63) (nI j).toNatClampNeg (-4) o = -4
        rw [i_cl (by omega)]
        by_cases z : o = j
        · rw [z, va_up_self]
        · rw [va_up_ne _ _ z]; exact r2 o (by omega)
  have loop1 : ∀ m j, j + m = na → ∀ (h1 : mm_H), fx h h1 [] [62, 63, 64, 65] → dn h h1 → (∀ a, a < j → h_ai h1 62 a = -4) → w_p (1 + 1) (9, 5, mc_X9_most) 2 [(0, .ref 44), (1, .int (nI first)), (2, .int out), (3, .int (nI j))] [] h1 Q := by
    intro m
    induction m with
    | zero =>
      intro j hj h1 f d r
      have C1 := C.fx f (by decide) (by decide)
      refine t_X9_most_2 (f.sh sh (by decide)) _ _ _ (K2 := fun _ _ _ _ => False) (fun _ _ _ _ z => z.elim) (K26 := fun x1 x2 x3 hh => x1 = nI first ∧ x2 = out ∧ x3 = nI 0 ∧ hh = h1) (fun x1 x2 x3 hh q => ?_) ⟨fun _ => ⟨rfl, rfl, rfl, rfl⟩, fun c => absurd ?_ c⟩
      · obtain ⟨rfl, rfl, rfl, rfl⟩ := q
        exact loop2 no 0 (by omega) hh f d (fun a ha => r a (by omega)) (fun o ho => by omega)
      · rw [C1.2.1, i_le (by omega) (by omega)]
        omega
    | succ m ih =>
      intro j hj h1 f d r
      have C1 := C.fx f (by decide) (by decide)
      refine t_X9_most_2 (f.sh sh (by decide)) _ _ _ (K2 := fun x1 x2 x3 hh => x1 = nI first ∧ x2 = out ∧ x3 = nI (j + 1) ∧ fx h hh [] [62, 63, 64, 65] ∧ dn h hh ∧ (∀ a, a < j + 1 → h_ai hh 62 a = -4)) (fun x1 x2 x3 hh q => ?_) (K26 := fun _ _ _ _ => False) (fun _ _ _ _ z => z.elim) ⟨fun c => ?_, fun _ => ⟨vp_in_nI (by omega) (by decide), rfl, rfl, nI_1 j, f.sA _ _ (by decide), d.sA _ _ (by decide), fun o ho => ?_⟩⟩
      · obtain ⟨rfl, rfl, rfl, q1, q2, q3⟩ := q
        exact ih (j + 1) (by omega) hh q1 q2 q3
      · rw [C1.2.1, i_le (by omega) (by omega)] at c
        omega
      · show va_up (h_ai h1 62) (nI j).toNatClampNeg (-4) o = -4
        rw [i_cl (by omega)]
        by_cases z : o = j
        · rw [z, va_up_self]
        · rw [va_up_ne _ _ z]; exact r o (by omega)
  refine t_X9_most_0 (D := 1) sh _ _ (K2 := fun x1 x2 x3 hh => x1 = nI first ∧ x2 = out ∧ x3 = nI 0 ∧ hh = h) (fun x1 x2 x3 hh q => ?_) ⟨rfl, rfl, rfl, rfl⟩
  obtain ⟨rfl, rfl, rfl, rfl⟩ := q
  exact loop1 na 0 (by omega) hh (fx.rf _ _ _) (dn.rf _) (fun o ho => by omega)
def mGm (h : mm_H) (na : Nat) (g : Nat → Option Nat) : Prop := ∀ a, a < na → h_ai h 66 a = oN (g a)
theorem mGm.fx {h h' : mm_H} {gs : List (Nat × Nat)} {as : List Nat} {na : Nat} {g : Nat → Option Nat} (H : mGm h na g) (f : fx h h' gs as) (n1 : 66 ∉ as) : mGm h' na g := by
  unfold mGm at H ⊢
  rw [f.ai 66 (by decide) n1]
  exact H
set_option maxHeartbeats 2000000 in
theorem m_matchL {h : mm_H} {Q : Option Value → mm_H → Prop} {na no D : Nat} {fit : Nat → Nat → Bool} (hD : 2 ≤ D) (sh : s_h h) (C : mC h na no) (Ft : mF h na no fit) (k : ∀ h', fx h h' [] [62, 63, 64, 65, 66] → dn h h' → mGm h' na (mg fit na no) → Q (some (.int (nI (mA fit na no)))) h') : w_p (D + 1) (9, 6, mc_X9_matches) 27 [(0, .ref 44), (1, .int (nI (mA fit na no))), (2, .int (nI 0)), (3, .int 0), (4, .int (nI 0))] [] h Q := by
  obtain ⟨hna, hno⟩ := C.1
  have hA : mA fit na no ≤ no := mN_le
  have loop : ∀ m j, j + m = na → ∀ (h1 : mm_H) (out : Int32), fx h h1 [] [62, 63, 64, 65, 66] → dn h h1 → (∀ o, o < no → bt out o = !(mst fit na no (mA fit na no) j).1 o) → (∀ a, a < j → h_ai h1 66 a = oN (mg fit na no a)) → w_p (D + 1) (9, 6, mc_X9_matches) 27 [(0, .ref 44), (1, .int (nI (mA fit na no))), (2, .int (nI (mst fit na no (mA fit na no) j).2)), (3, .int out), (4, .int (nI j))] [] h1 Q := by
    intro m
    induction m with
    | zero =>
      intro j hj h1 out f d hF g1
      have C1 := C.fx f (by decide) (by decide)
      refine t_X9_matches_27 (f.sh sh (by decide)) _ _ _ _ (K48 := fun _ _ _ _ _ _ => False) (fun _ _ _ _ _ _ z => z.elim) ⟨fun _ => k h1 f d (fun a ha => g1 a (by omega)), fun c => absurd ?_ c⟩
      rw [C1.2.1, i_le (by omega) (by omega)]
      omega
    | succ m ih =>
      intro j hj h1 out f d hF g1
      have C1 := C.fx f (by decide) (by decide)
      have hmd := mst_le fit na no (mA fit na no) j
      have hv : vp_in (nI j) 10 := vp_in_nI (by omega) (by decide)
      have ecl : (nI j).toNatClampNeg = j := i_cl (by omega)
      have found : ∀ i, i ≤ no → ∀ (h2 : mm_H) (out2 : Int32), fx h h2 [] [62, 63, 64, 65, 66] → dn h h2 → (∀ o, o < no → bt out2 o = !(mst fit na no (mA fit na no) (j + 1)).1 o) → (∀ a, a < j + 1 → h_ai h2 66 a = oN (mg fit na no a)) → (i < no → mg fit na no j ≠ none) → w_p (D + 1) (9, 6, mc_X9_matches) 48 [(0, .ref 44), (1, .int (nI (mA fit na no))), (2, .int (nI (mst fit na no (mA fit na no) (j + 1)).2)), (3, .int out2), (4, .int (nI j)), (5, .int (nI i))] [] h2 Q := by
        intro i hi h2 out2 f2 d2 hF2 g2 hnn
        have C2 := C.fx f2 (by decide) (by decide)
        refine t_X9_matches_48 (f2.sh sh (by decide)) _ _ _ _ _ (K27 := fun x1 x2 x3 x4 hh => x1 = nI (mA fit na no) ∧ x2 = nI (mst fit na no (mA fit na no) (j + 1)).2 ∧ x3 = out2 ∧ x4 = nI (j + 1) ∧ hh = h2) (fun x1 x2 x3 x4 hh q => ?_) (K48 := fun _ _ _ _ _ _ => False) (fun _ _ _ _ _ _ z => z.elim) ⟨fun _ => ⟨rfl, rfl, rfl, nI_1 j, rfl⟩, fun c => ⟨hv, fun _ => ⟨rfl, rfl, rfl, nI_1 j, rfl⟩, fun c2 => ?_⟩⟩
        · obtain ⟨rfl, rfl, rfl, rfl, rfl⟩ := q
          exact ih (j + 1) (by omega) hh x3 f2 d2 hF2 g2
        · rw [C2.2.2, i_le (by omega) (by omega)] at c
          rw [ecl, g2 j (by omega)] at c2
          cases e : mg fit na no j with
          | none => exact absurd e (hnn (by omega))
          | some o =>
            rw [e] at c2
            exact absurd c2 (oN_ne o (by have := mg_lt e; omega))
      have inner : ∀ m2 i, i + m2 = no → ∀ (h2 : mm_H), fx h h2 [] [62, 63, 64, 65, 66] → dn h h2 → (∀ a, a < j → h_ai h2 66 a = oN (mg fit na no a)) → h_ai h2 66 j = -4 → (∀ i', i' < i → mpk fit na no (mA fit na no) j (mst fit na no (mA fit na no) j).1 (mst fit na no (mA fit na no) j).2 i' = false) → w_p (D + 1) (9, 6, mc_X9_matches) 48 [(0, .ref 44), (1, .int (nI (mA fit na no))), (2, .int (nI (mst fit na no (mA fit na no) j).2)), (3, .int out), (4, .int (nI j)), (5, .int (nI i))] [] h2 Q := by
        intro m2
        induction m2 with
        | zero =>
          intro i hi h2 f2 d2 g2 g3 r
          have en : mg fit na no j = none := mpick_none (fun i' hi' => r i' (by omega))
          have em := mg_none en
          have := found i (by omega) h2 out f2 d2 (by rw [em]; exact hF) (fun a ha => by
            by_cases z : a = j
            · rw [z, g3, en]; rfl
            · exact g2 a (by omega)) (fun z => by omega)
          rw [em] at this
          exact this
        | succ m2 ih2 =>
          intro i hi h2 f2 d2 g2 g3 r
          have C2 := C.fx f2 (by decide) (by decide)
          have Ft2 := Ft.fx f2 (by decide)
          refine t_X9_matches_48 (f2.sh sh (by decide)) _ _ _ _ _ (K27 := fun _ _ _ _ _ => False) (fun _ _ _ _ _ z => z.elim) (K48 := fun x1 x2 x3 x4 x5 hh => x1 = nI (mA fit na no) ∧ x4 = nI j ∧ x5 = nI (i + 1) ∧ fx h hh [] [62, 63, 64, 65, 66] ∧ dn h hh ∧ ((x2 = nI (mst fit na no (mA fit na no) j).2 ∧ x3 = out ∧ (∀ a, a < j → h_ai hh 66 a = oN (mg fit na no a)) ∧ h_ai hh 66 j = -4 ∧ (∀ i', i' < i + 1 → mpk fit na no (mA fit na no) j (mst fit na no (mA fit na no) j).1 (mst fit na no (mA fit na no) j).2 i' = false)) ∨ (x2 = nI (mst fit na no (mA fit na no) (j + 1)).2 ∧ (∀ o, o < no → bt x3 o = !(mst fit na no (mA fit na no) (j + 1)).1 o) ∧ (∀ a, a < j + 1 → h_ai hh 66 a = oN (mg fit na no a)) ∧ mg fit na no j ≠ none))) (fun x1 x2 x3 x4 x5 hh q => ?_) ⟨fun c => ?_, fun c => ⟨hv, fun c2 => ?_, fun _ => ?_⟩⟩
          · obtain ⟨rfl, rfl, rfl, q1, q2, (⟨rfl, rfl, q3, q4, q5⟩ | ⟨rfl, q3, q4, q5⟩)⟩ := q
            · exact ih2 (i + 1) (by omega) hh q1 q2 q3 q4 q5
            · exact found (i + 1) (by omega) hh x3 q1 q2 q3 q4 (fun _ => q5)
          · rw [C2.2.2, i_le (by omega) (by omega)] at c
            omega
          · rw [ecl] at c2
            exact absurd g3 c2
          · rw [e10, i_cl (a := 10 * j + i) (by omega), Ft2 j (by omega) i (by omega)]
            have stay : mpk fit na no (mA fit na no) j (mst fit na no (mA fit na no) j).1 (mst fit na no (mA fit na no) j).2 i = false → ∀ i', i' < i + 1 → mpk fit na no (mA fit na no) j (mst fit na no (mA fit na no) j).1 (mst fit na no (mA fit na no) j).2 i' = false := fun z i' hi' => by
              by_cases y : i' = i
              · rw [y]; exact z
              · exact r i' (by omega)
            refine ⟨vp_in_nI (by omega) (by decide), fun c => ⟨rfl, rfl, nI_1 i, f2, d2, Or.inl ⟨rfl, rfl, g2, g3, stay ?_⟩⟩, fun c => ?_⟩
            · cases e : fit j i with
              | true => rw [e] at c; exact absurd c (by decide)
              | false => unfold mpk; rw [e]; rfl
            · have hf : fit j i = true := by
                cases e : fit j i with
                | true => rfl
                | false => rw [e] at c; exact absurd rfl c
              rw [bit_sh _ (by omega), hF i (by omega)]
              refine ⟨fun c => ⟨rfl, rfl, nI_1 i, f2, d2, Or.inl ⟨rfl, rfl, g2, g3, stay ?_⟩⟩, fun c => ?_⟩
              · cases e : (mst fit na no (mA fit na no) j).1 i with
                | true => rw [e] at c; exact absurd rfl c
                | false => unfold mpk; rw [e, hf]; rfl
              · have hFi : (mst fit na no (mA fit na no) j).1 i = true := by
                  cases e : (mst fit na no (mA fit na no) j).1 i with
                  | true => rfl
                  | false => rw [e] at c; cases c
                rw [nI_1 j]
                have hF' : ∀ o, o < no → bt (out ||| ((1 : Int32) <<< (nI i &&& 31))) o = !(va_up (mst fit na no (mA fit na no) j).1 i false) o := fun o ho => by
                  rw [b_or, bt_1 (by omega), hF o ho]
                  by_cases z : o = i
                  · rw [z, va_up_self]; simp
                  · rw [va_up_ne _ _ z]; simp [z]
                refine (m_most (F := va_up (mst fit na no (mA fit na no) j).1 i false) (f2.sh sh (by decide)) C2 Ft2 (by omega) hF' (fun h3 f3 d3 => ?_)).up hD
                have f4 : fx h h3 [] [62, 63, 64, 65, 66] := f2.tr f3 (by decide) (by decide) (by decide) (by decide)
                have e66 : h_ai h3 66 = h_ai h2 66 := f3.ai 66 (by decide) (by decide)
                have hr : mN fit (j + 1) na (va_up (mst fit na no (mA fit na no) j).1 i false) no ≤ no := mN_le
                refine ⟨_, rfl, f4.sh sh (by decide), fun c3 => ⟨rfl, rfl, nI_1 i, f4, d2.tr d3, Or.inl ⟨rfl, rfl, fun a ha => by rw [e66]; exact g2 a ha, by rw [e66]; exact g3, stay ?_⟩⟩, fun c3 => ?_⟩
                · cases e : mpk fit na no (mA fit na no) j (mst fit na no (mA fit na no) j).1 (mst fit na no (mA fit na no) j).2 i with
                  | false => rfl
                  | true =>
                    have := (mpk_md e).2.2
                    rw [nI_1, nI_add, this] at c3
                    exact absurd rfl c3
                · rw [nI_1, nI_add, nI_eqI (by omega) (by omega)] at c3
                  have hp : mg fit na no j = some i := mpick_some (by omega) (mpk_eq.mpr ⟨⟨hf, hFi⟩, c3⟩) r
                  refine ⟨hv, rfl, rfl, nI_1 i, f4.sA _ _ (by decide), (d2.tr d3).sA _ _ (by decide), Or.inr ⟨?_, ?_, fun a ha => ?_, by rw [hp]; exact fun z => by cases z⟩⟩
                  · rw [mg_some hp, nI_1]
                  · rw [mg_some hp]
                    exact hF'
                  · show va_up (h_ai h3 66) (nI j).toNatClampNeg (nI i) a = _
                    rw [ecl]
                    by_cases z : a = j
                    · rw [z, va_up_self, hp]; rfl
                    · rw [va_up_ne _ _ z, e66]; exact g2 a (by omega)
      refine t_X9_matches_27 (f.sh sh (by decide)) _ _ _ _ (K48 := fun x1 x2 x3 x4 x5 hh => x1 = nI (mA fit na no) ∧ x2 = nI (mst fit na no (mA fit na no) j).2 ∧ x3 = out ∧ x4 = nI j ∧ x5 = nI 0 ∧ hh = h_sA h1 66 j (-4)) (fun x1 x2 x3 x4 x5 hh q => ?_) ⟨fun c => ?_, fun _ => ⟨hv, rfl, rfl, rfl, rfl, rfl, by rw [ecl]⟩⟩
      · obtain ⟨rfl, rfl, rfl, rfl, rfl, rfl⟩ := q
        refine inner no 0 (by omega) _ (f.sA _ _ (by decide)) (d.sA _ _ (by decide)) (fun a ha => ?_) (va_up_self _ _ _) (fun i' hi' => by omega)
        show va_up (h_ai h1 66) j (-4) a = _
        rw [va_up_ne _ _ (by omega)]
        exact g1 a ha
      · rw [C1.2.1, i_le (by omega) (by omega)] at c
        omega
  exact loop na 0 (by omega) h 0 (fx.rf _ _ _) (dn.rf _) (fun o ho => b_0 o) (fun a ha => by omega)
