set_option maxRecDepth 20000 in
theorem t_X7_has_31_0 {h : mm_H} {Q : Option Value → mm_H → Prop} (sh : s_h h) (i : Int32) 
    (F : ((i < 0 → Q (some (.int 0)) h) ∧ (¬ (i < 0) → (((h_oi h 451 31) ≤ i → Q (some (.int 0)) h) ∧ (¬ ((h_oi h 451 31) ≤ i) → Q (some (.int 1)) h))))) :
    w_c 0 54 [.ref 31, .int i] h Q := by
  refine w_ci (M := (7, 2, mc_X7_has)) rfl (Nat.le_of_ble_eq_true rfl) ?_
  show w_p _ _ 0 [(0, .ref 31), (1, .int i)] [] h Q
  refine w_b 1 1 [(0, .ref 31), (1, .int i)] [.int i] rfl ?_
  refine w_if_lt (tgt := 16) (x := i) rfl (by decide) ⟨fun c1 => ?_, fun c1 => ?_⟩
  · have F := F.1 c1
    refine w_b 1 17 [(0, .ref 31), (1, .int i)] [.int 0] rfl ?_
    exact w_br rfl (by decide) F
  · have F := F.2 c1
    refine w_b 2 6 [(0, .ref 31), (1, .int i)] [.ref 31, .int i] rfl ?_
    refine w_get (g := 451) rfl rfl rfl (kd_31 sh) ?_
    refine w_ic_ge (tgt := 16) (x := i) (y := h_oi h 451 31) rfl (by decide) ⟨fun c2 => ?_, fun c2 => ?_⟩
    · have F := F.1 c2
      refine w_b 1 17 [(0, .ref 31), (1, .int i)] [.int 0] rfl ?_
      exact w_br rfl (by decide) F
    · have F := F.2 c2
      refine w_b 2 17 [(0, .ref 31), (1, .int i)] [.int 1] rfl ?_
      exact w_br rfl (by decide) F

set_option maxRecDepth 20000 in
theorem t_X7_familyOf_31_0 {h : mm_H} {Q : Option Value → mm_H → Prop} (sh : s_h h) (i : Int32) 
    (F : w_c 0 54 [.ref 31, .int i] h (fun r h1 => ∃ z2 : Int32, r = some (.int z2) ∧ s_h h1 ∧ ((z2 = 0 → Q (some (.int (-4))) h1) ∧ (¬ (z2 = 0) → (vp_in i 10 ∧ Q (some (.int (h_ai h1 32 i.toNatClampNeg))) h1))))) :
    w_c 1 55 [.ref 31, .int i] h Q := by
  refine w_ci (M := (7, 2, mc_X7_familyOf)) rfl (Nat.le_of_ble_eq_true rfl) ?_
  show w_p _ _ 0 [(0, .ref 31), (1, .int i)] [] h Q
  refine w_b 2 2 [(0, .ref 31), (1, .int i)] [.int i, .ref 31] rfl ?_
  refine w_cv (As := [.int i]) (b := 31) (rest := []) rfl rfl rfl (Nat.le_of_ble_eq_true rfl) (kd_31 sh) (fun z => absurd z (by decide)) (dc := 0) (by omega) (F.mono (fun r h1 F => ?_))
  obtain ⟨z2, rfl, sh1, F⟩ := F
  show w_p _ _ 5 [(0, .ref 31), (1, .int i)] [.int z2] h1 _
  refine w_if_eq (tgt := 17) (x := z2) rfl (by decide) ⟨fun c3 => ?_, fun c3 => ?_⟩
  · have F := F.1 c3
    refine w_b 1 19 [(0, .ref 31), (1, .int i)] [.int (-4)] rfl ?_
    exact w_ir rfl F
  · have F := F.2 c3
    refine w_b 1 9 [(0, .ref 31), (1, .int i)] [.ref 31] rfl ?_
    refine w_getS (b := 32) rfl rfl rfl (kd_31 sh1) (or_448_31 sh1) ?_
    refine w_b 1 13 [(0, .ref 31), (1, .int i)] [.int i, .ref 32] rfl ?_
    obtain ⟨g4, F⟩ := F
    refine w_iald rfl (kd_32 sh1) (by rw [show h_al h1 32 = 10 from (al_32 sh1)]; exact g4) ?_
    refine w_b 1 19 [(0, .ref 31), (1, .int i)] [.int (h_ai h1 32 i.toNatClampNeg)] rfl ?_
    exact w_ir rfl F

set_option maxRecDepth 20000 in
theorem t_X7_fromOf_31_0 {h : mm_H} {Q : Option Value → mm_H → Prop} (sh : s_h h) (i : Int32) 
    (F : w_c 0 54 [.ref 31, .int i] h (fun r h1 => ∃ z2 : Int32, r = some (.int z2) ∧ s_h h1 ∧ ((z2 = 0 → Q (some (.int (-4))) h1) ∧ (¬ (z2 = 0) → (vp_in i 10 ∧ Q (some (.int (h_ai h1 33 i.toNatClampNeg))) h1))))) :
    w_c 1 56 [.ref 31, .int i] h Q := by
  refine w_ci (M := (7, 2, mc_X7_fromOf)) rfl (Nat.le_of_ble_eq_true rfl) ?_
  show w_p _ _ 0 [(0, .ref 31), (1, .int i)] [] h Q
  refine w_b 2 2 [(0, .ref 31), (1, .int i)] [.int i, .ref 31] rfl ?_
  refine w_cv (As := [.int i]) (b := 31) (rest := []) rfl rfl rfl (Nat.le_of_ble_eq_true rfl) (kd_31 sh) (fun z => absurd z (by decide)) (dc := 0) (by omega) (F.mono (fun r h1 F => ?_))
  obtain ⟨z2, rfl, sh1, F⟩ := F
  show w_p _ _ 5 [(0, .ref 31), (1, .int i)] [.int z2] h1 _
  refine w_if_eq (tgt := 17) (x := z2) rfl (by decide) ⟨fun c3 => ?_, fun c3 => ?_⟩
  · have F := F.1 c3
    refine w_b 1 19 [(0, .ref 31), (1, .int i)] [.int (-4)] rfl ?_
    exact w_ir rfl F
  · have F := F.2 c3
    refine w_b 1 9 [(0, .ref 31), (1, .int i)] [.ref 31] rfl ?_
    refine w_getS (b := 33) rfl rfl rfl (kd_31 sh1) (or_449_31 sh1) ?_
    refine w_b 1 13 [(0, .ref 31), (1, .int i)] [.int i, .ref 33] rfl ?_
    obtain ⟨g4, F⟩ := F
    refine w_iald rfl (kd_33 sh1) (by rw [show h_al h1 33 = 10 from (al_33 sh1)]; exact g4) ?_
    refine w_b 1 19 [(0, .ref 31), (1, .int i)] [.int (h_ai h1 33 i.toNatClampNeg)] rfl ?_
    exact w_ir rfl F

set_option maxRecDepth 20000 in
theorem t_X7_toOf_31_0 {h : mm_H} {Q : Option Value → mm_H → Prop} (sh : s_h h) (i : Int32) 
    (F : w_c 0 54 [.ref 31, .int i] h (fun r h1 => ∃ z2 : Int32, r = some (.int z2) ∧ s_h h1 ∧ ((z2 = 0 → Q (some (.int (-4))) h1) ∧ (¬ (z2 = 0) → (vp_in i 10 ∧ Q (some (.int (h_ai h1 34 i.toNatClampNeg))) h1))))) :
    w_c 1 57 [.ref 31, .int i] h Q := by
  refine w_ci (M := (7, 2, mc_X7_toOf)) rfl (Nat.le_of_ble_eq_true rfl) ?_
  show w_p _ _ 0 [(0, .ref 31), (1, .int i)] [] h Q
  refine w_b 2 2 [(0, .ref 31), (1, .int i)] [.int i, .ref 31] rfl ?_
  refine w_cv (As := [.int i]) (b := 31) (rest := []) rfl rfl rfl (Nat.le_of_ble_eq_true rfl) (kd_31 sh) (fun z => absurd z (by decide)) (dc := 0) (by omega) (F.mono (fun r h1 F => ?_))
  obtain ⟨z2, rfl, sh1, F⟩ := F
  show w_p _ _ 5 [(0, .ref 31), (1, .int i)] [.int z2] h1 _
  refine w_if_eq (tgt := 17) (x := z2) rfl (by decide) ⟨fun c3 => ?_, fun c3 => ?_⟩
  · have F := F.1 c3
    refine w_b 1 19 [(0, .ref 31), (1, .int i)] [.int (-4)] rfl ?_
    exact w_ir rfl F
  · have F := F.2 c3
    refine w_b 1 9 [(0, .ref 31), (1, .int i)] [.ref 31] rfl ?_
    refine w_getS (b := 34) rfl rfl rfl (kd_31 sh1) (or_450_31 sh1) ?_
    refine w_b 1 13 [(0, .ref 31), (1, .int i)] [.int i, .ref 34] rfl ?_
    obtain ⟨g4, F⟩ := F
    refine w_iald rfl (kd_34 sh1) (by rw [show h_al h1 34 = 10 from (al_34 sh1)]; exact g4) ?_
    refine w_b 1 19 [(0, .ref 31), (1, .int i)] [.int (h_ai h1 34 i.toNatClampNeg)] rfl ?_
    exact w_ir rfl F

set_option maxRecDepth 20000 in
theorem t_X7_has_35_0 {h : mm_H} {Q : Option Value → mm_H → Prop} (sh : s_h h) (i : Int32) 
    (F : ((i < 0 → Q (some (.int 0)) h) ∧ (¬ (i < 0) → (((h_oi h 451 35) ≤ i → Q (some (.int 0)) h) ∧ (¬ ((h_oi h 451 35) ≤ i) → Q (some (.int 1)) h))))) :
    w_c 0 54 [.ref 35, .int i] h Q := by
  refine w_ci (M := (7, 2, mc_X7_has)) rfl (Nat.le_of_ble_eq_true rfl) ?_
  show w_p _ _ 0 [(0, .ref 35), (1, .int i)] [] h Q
  refine w_b 1 1 [(0, .ref 35), (1, .int i)] [.int i] rfl ?_
  refine w_if_lt (tgt := 16) (x := i) rfl (by decide) ⟨fun c1 => ?_, fun c1 => ?_⟩
  · have F := F.1 c1
    refine w_b 1 17 [(0, .ref 35), (1, .int i)] [.int 0] rfl ?_
    exact w_br rfl (by decide) F
  · have F := F.2 c1
    refine w_b 2 6 [(0, .ref 35), (1, .int i)] [.ref 35, .int i] rfl ?_
    refine w_get (g := 451) rfl rfl rfl (kd_35 sh) ?_
    refine w_ic_ge (tgt := 16) (x := i) (y := h_oi h 451 35) rfl (by decide) ⟨fun c2 => ?_, fun c2 => ?_⟩
    · have F := F.1 c2
      refine w_b 1 17 [(0, .ref 35), (1, .int i)] [.int 0] rfl ?_
      exact w_br rfl (by decide) F
    · have F := F.2 c2
      refine w_b 2 17 [(0, .ref 35), (1, .int i)] [.int 1] rfl ?_
      exact w_br rfl (by decide) F

set_option maxRecDepth 20000 in
theorem t_X7_familyOf_35_0 {h : mm_H} {Q : Option Value → mm_H → Prop} (sh : s_h h) (i : Int32) 
    (F : w_c 0 54 [.ref 35, .int i] h (fun r h1 => ∃ z2 : Int32, r = some (.int z2) ∧ s_h h1 ∧ ((z2 = 0 → Q (some (.int (-4))) h1) ∧ (¬ (z2 = 0) → (vp_in i 10 ∧ Q (some (.int (h_ai h1 36 i.toNatClampNeg))) h1))))) :
    w_c 1 55 [.ref 35, .int i] h Q := by
  refine w_ci (M := (7, 2, mc_X7_familyOf)) rfl (Nat.le_of_ble_eq_true rfl) ?_
  show w_p _ _ 0 [(0, .ref 35), (1, .int i)] [] h Q
  refine w_b 2 2 [(0, .ref 35), (1, .int i)] [.int i, .ref 35] rfl ?_
  refine w_cv (As := [.int i]) (b := 35) (rest := []) rfl rfl rfl (Nat.le_of_ble_eq_true rfl) (kd_35 sh) (fun z => absurd z (by decide)) (dc := 0) (by omega) (F.mono (fun r h1 F => ?_))
  obtain ⟨z2, rfl, sh1, F⟩ := F
  show w_p _ _ 5 [(0, .ref 35), (1, .int i)] [.int z2] h1 _
  refine w_if_eq (tgt := 17) (x := z2) rfl (by decide) ⟨fun c3 => ?_, fun c3 => ?_⟩
  · have F := F.1 c3
    refine w_b 1 19 [(0, .ref 35), (1, .int i)] [.int (-4)] rfl ?_
    exact w_ir rfl F
  · have F := F.2 c3
    refine w_b 1 9 [(0, .ref 35), (1, .int i)] [.ref 35] rfl ?_
    refine w_getS (b := 36) rfl rfl rfl (kd_35 sh1) (or_448_35 sh1) ?_
    refine w_b 1 13 [(0, .ref 35), (1, .int i)] [.int i, .ref 36] rfl ?_
    obtain ⟨g4, F⟩ := F
    refine w_iald rfl (kd_36 sh1) (by rw [show h_al h1 36 = 10 from (al_36 sh1)]; exact g4) ?_
    refine w_b 1 19 [(0, .ref 35), (1, .int i)] [.int (h_ai h1 36 i.toNatClampNeg)] rfl ?_
    exact w_ir rfl F

set_option maxRecDepth 20000 in
theorem t_X7_fromOf_35_0 {h : mm_H} {Q : Option Value → mm_H → Prop} (sh : s_h h) (i : Int32) 
    (F : w_c 0 54 [.ref 35, .int i] h (fun r h1 => ∃ z2 : Int32, r = some (.int z2) ∧ s_h h1 ∧ ((z2 = 0 → Q (some (.int (-4))) h1) ∧ (¬ (z2 = 0) → (vp_in i 10 ∧ Q (some (.int (h_ai h1 37 i.toNatClampNeg))) h1))))) :
    w_c 1 56 [.ref 35, .int i] h Q := by
  refine w_ci (M := (7, 2, mc_X7_fromOf)) rfl (Nat.le_of_ble_eq_true rfl) ?_
  show w_p _ _ 0 [(0, .ref 35), (1, .int i)] [] h Q
  refine w_b 2 2 [(0, .ref 35), (1, .int i)] [.int i, .ref 35] rfl ?_
  refine w_cv (As := [.int i]) (b := 35) (rest := []) rfl rfl rfl (Nat.le_of_ble_eq_true rfl) (kd_35 sh) (fun z => absurd z (by decide)) (dc := 0) (by omega) (F.mono (fun r h1 F => ?_))
  obtain ⟨z2, rfl, sh1, F⟩ := F
  show w_p _ _ 5 [(0, .ref 35), (1, .int i)] [.int z2] h1 _
  refine w_if_eq (tgt := 17) (x := z2) rfl (by decide) ⟨fun c3 => ?_, fun c3 => ?_⟩
  · have F := F.1 c3
    refine w_b 1 19 [(0, .ref 35), (1, .int i)] [.int (-4)] rfl ?_
    exact w_ir rfl F
  · have F := F.2 c3
    refine w_b 1 9 [(0, .ref 35), (1, .int i)] [.ref 35] rfl ?_
    refine w_getS (b := 37) rfl rfl rfl (kd_35 sh1) (or_449_35 sh1) ?_
    refine w_b 1 13 [(0, .ref 35), (1, .int i)] [.int i, .ref 37] rfl ?_
    obtain ⟨g4, F⟩ := F
    refine w_iald rfl (kd_37 sh1) (by rw [show h_al h1 37 = 10 from (al_37 sh1)]; exact g4) ?_
    refine w_b 1 19 [(0, .ref 35), (1, .int i)] [.int (h_ai h1 37 i.toNatClampNeg)] rfl ?_
    exact w_ir rfl F

set_option maxRecDepth 20000 in
theorem t_X7_toOf_35_0 {h : mm_H} {Q : Option Value → mm_H → Prop} (sh : s_h h) (i : Int32) 
    (F : w_c 0 54 [.ref 35, .int i] h (fun r h1 => ∃ z2 : Int32, r = some (.int z2) ∧ s_h h1 ∧ ((z2 = 0 → Q (some (.int (-4))) h1) ∧ (¬ (z2 = 0) → (vp_in i 10 ∧ Q (some (.int (h_ai h1 38 i.toNatClampNeg))) h1))))) :
    w_c 1 57 [.ref 35, .int i] h Q := by
  refine w_ci (M := (7, 2, mc_X7_toOf)) rfl (Nat.le_of_ble_eq_true rfl) ?_
  show w_p _ _ 0 [(0, .ref 35), (1, .int i)] [] h Q
  refine w_b 2 2 [(0, .ref 35), (1, .int i)] [.int i, .ref 35] rfl ?_
  refine w_cv (As := [.int i]) (b := 35) (rest := []) rfl rfl rfl (Nat.le_of_ble_eq_true rfl) (kd_35 sh) (fun z => absurd z (by decide)) (dc := 0) (by omega) (F.mono (fun r h1 F => ?_))
  obtain ⟨z2, rfl, sh1, F⟩ := F
  show w_p _ _ 5 [(0, .ref 35), (1, .int i)] [.int z2] h1 _
  refine w_if_eq (tgt := 17) (x := z2) rfl (by decide) ⟨fun c3 => ?_, fun c3 => ?_⟩
  · have F := F.1 c3
    refine w_b 1 19 [(0, .ref 35), (1, .int i)] [.int (-4)] rfl ?_
    exact w_ir rfl F
  · have F := F.2 c3
    refine w_b 1 9 [(0, .ref 35), (1, .int i)] [.ref 35] rfl ?_
    refine w_getS (b := 38) rfl rfl rfl (kd_35 sh1) (or_450_35 sh1) ?_
    refine w_b 1 13 [(0, .ref 35), (1, .int i)] [.int i, .ref 38] rfl ?_
    obtain ⟨g4, F⟩ := F
    refine w_iald rfl (kd_38 sh1) (by rw [show h_al h1 38 = 10 from (al_38 sh1)]; exact g4) ?_
    refine w_b 1 19 [(0, .ref 35), (1, .int i)] [.int (h_ai h1 38 i.toNatClampNeg)] rfl ?_
    exact w_ir rfl F

set_option maxRecDepth 20000 in
theorem t_X8_priceOf_0 {h : mm_H} {Q : Option Value → mm_H → Prop} (sh : s_h h) (a : Int32) 
    (F : w_c 1 56 [.ref 31, .int a] h (fun r h1 => ∃ z2 : Int32, r = some (.int z2) ∧ s_h h1 ∧ w_c 1 57 [.ref 31, .int a] h1 (fun r h3 => ∃ z4 : Int32, r = some (.int z4) ∧ s_h h3 ∧ w_c 1 10 [.ref 21, .int (h_oi h3 521 16), .int 1] h3 (fun r h5 => ∃ z6 : Int32, r = some (.int z6) ∧ s_h h5 ∧ ((¬ z6 = (-4) → Q (some (.int ((z4 - z2) + (if 0 < (z4 - (if z2 < z6 then z6 else z2)) then (z4 - (if z2 < z6 then z6 else z2)) else 0)))) h5) ∧ (z6 = (-4) → Q (some (.int ((z4 - z2) + 0))) h5)))))) :
    w_c 2 92 [.ref 16, .int a] h Q := by
  refine w_ci (M := (8, 6, mc_X8_priceOf)) rfl (Nat.le_of_ble_eq_true rfl) ?_
  show w_p _ _ 0 [(0, .ref 16), (1, .int a)] [] h Q
  refine w_b 1 1 [(0, .ref 16), (1, .int a)] [.ref 16] rfl ?_
  refine w_getS (b := 31) rfl rfl rfl (kd_16 sh) (or_516_16 sh) ?_
  refine w_b 1 5 [(0, .ref 16), (1, .int a)] [.int a, .ref 31] rfl ?_
  refine w_cv (As := [.int a]) (b := 31) (rest := []) rfl rfl rfl (Nat.le_of_ble_eq_true rfl) (kd_31 sh) (fun z => absurd z (by decide)) (dc := 1) (by omega) (F.mono (fun r h1 F => ?_))
  obtain ⟨z2, rfl, sh1, F⟩ := F
  show w_p _ _ 8 [(0, .ref 16), (1, .int a)] [.int z2] h1 _
  refine w_b 2 10 [(2, .int z2), (0, .ref 16), (1, .int a)] [.ref 16] rfl ?_
  refine w_getS (b := 31) rfl rfl rfl (kd_16 sh1) (or_516_16 sh1) ?_
  refine w_b 1 14 [(2, .int z2), (0, .ref 16), (1, .int a)] [.int a, .ref 31] rfl ?_
  refine w_cv (As := [.int a]) (b := 31) (rest := []) rfl rfl rfl (Nat.le_of_ble_eq_true rfl) (kd_31 sh1) (fun z => absurd z (by decide)) (dc := 1) (by omega) (F.mono (fun r h3 F => ?_))
  obtain ⟨z4, rfl, sh3, F⟩ := F
  show w_p _ _ 17 [(2, .int z2), (0, .ref 16), (1, .int a)] [.int z4] h3 _
  refine w_b 2 19 [(3, .int z4), (2, .int z2), (0, .ref 16), (1, .int a)] [.ref 16] rfl ?_
  refine w_getS (b := 21) rfl rfl rfl (kd_16 sh3) (or_514_16 sh3) ?_
  refine w_b 1 23 [(3, .int z4), (2, .int z2), (0, .ref 16), (1, .int a)] [.ref 16, .ref 21] rfl ?_
  refine w_get (g := 521) rfl rfl rfl (kd_16 sh3) ?_
  refine w_b 1 27 [(3, .int z4), (2, .int z2), (0, .ref 16), (1, .int a)] [.int 1, .int (h_oi h3 521 16), .ref 21] rfl ?_
  refine w_cv (As := [.int (h_oi h3 521 16), .int 1]) (b := 21) (rest := []) rfl rfl rfl (Nat.le_of_ble_eq_true rfl) (kd_21 sh3) (fun z => absurd z (by decide)) (dc := 1) (by omega) (F.mono (fun r h5 F => ?_))
  obtain ⟨z6, rfl, sh5, F⟩ := F
  show w_p _ _ 30 [(3, .int z4), (2, .int z2), (0, .ref 16), (1, .int a)] [.int z6] h5 _
  refine w_b 3 36 [(4, .int z6), (3, .int z4), (2, .int z2), (0, .ref 16), (1, .int a)] [.int (-4), .int z6] rfl ?_
  refine w_ic_ne (tgt := 43) (x := z6) (y := (-4)) rfl (by decide) ⟨fun c7 => ?_, fun c7 => ?_⟩
  · have F := F.1 c7
    refine w_b 4 48 [(4, .int z6), (3, .int z4), (2, .int z2), (0, .ref 16), (1, .int a)] [.int z6, .int z2, .int z4, .int 0] rfl ?_
    refine w_max (x := z2) (y := z6) rfl (Nat.le_of_ble_eq_true rfl) ?_
    refine w_b 1 52 [(4, .int z6), (3, .int z4), (2, .int z2), (0, .ref 16), (1, .int a)] [.int (z4 - (if z2 < z6 then z6 else z2)), .int 0] rfl ?_
    refine w_max (x := 0) (y := z4 - (if z2 < z6 then z6 else z2)) rfl (Nat.le_of_ble_eq_true rfl) ?_
    refine w_b 6 63 [(5, .int (if 0 < (z4 - (if z2 < z6 then z6 else z2)) then (z4 - (if z2 < z6 then z6 else z2)) else 0)), (4, .int z6), (3, .int z4), (2, .int z2), (0, .ref 16), (1, .int a)] [.int ((z4 - z2) + (if 0 < (z4 - (if z2 < z6 then z6 else z2)) then (z4 - (if z2 < z6 then z6 else z2)) else 0))] rfl ?_
    exact w_ir rfl F
  · have F := F.2 (Decidable.not_not.mp c7)
    refine w_b 8 63 [(5, .int 0), (4, .int z6), (3, .int z4), (2, .int z2), (0, .ref 16), (1, .int a)] [.int ((z4 - z2) + 0)] rfl ?_
    exact w_ir rfl F

set_option maxRecDepth 20000 in
theorem t_X9_priceOf_0 {h : mm_H} {Q : Option Value → mm_H → Prop} (sh : s_h h) (k : Int32) {K32 : Int32 → Int32 → Int32 → Int32 → mm_H → Prop} (k32 : ∀ (k : Int32) (x2 : Int32) (x3 : Int32) (x4 : Int32) (h : mm_H), K32 k x2 x3 x4 h → w_p 2 (9, 5, mc_X9_priceOf) 32 [(0, .ref 44), (1, .int k), (2, .int x2), (3, .int x3), (4, .int x4)] [] h Q) 
    (F : w_c 1 116 [.ref 44, .int (h_oi h 588 44), .int 1] h (fun r h1 => ∃ z2 : Int32, r = some (.int z2) ∧ s_h h1 ∧ (vp_in k 10 ∧ (vp_in k 10 ∧ (vp_in k 10 ∧ K32 k z2 ((h_ai h1 57 k.toNatClampNeg) - (h_ai h1 56 k.toNatClampNeg)) (h_ai h1 56 k.toNatClampNeg) h1))))) :
    w_c 2 132 [.ref 44, .int k] h Q := by
  refine w_ci (M := (9, 5, mc_X9_priceOf)) rfl (Nat.le_of_ble_eq_true rfl) ?_
  show w_p _ _ 0 [(0, .ref 44), (1, .int k)] [] h Q
  refine w_b 2 2 [(0, .ref 44), (1, .int k)] [.ref 44, .ref 44] rfl ?_
  refine w_get (g := 588) rfl rfl rfl (kd_44 sh) ?_
  refine w_b 1 6 [(0, .ref 44), (1, .int k)] [.int 1, .int (h_oi h 588 44), .ref 44] rfl ?_
  refine w_cv (As := [.int (h_oi h 588 44), .int 1]) (b := 44) (rest := []) rfl rfl rfl (Nat.le_of_ble_eq_true rfl) (kd_44 sh) (fun z => absurd z (by decide)) (dc := 1) (by omega) (F.mono (fun r h1 F => ?_))
  obtain ⟨z2, rfl, sh1, F⟩ := F
  show w_p _ _ 9 [(0, .ref 44), (1, .int k)] [.int z2] h1 _
  refine w_b 2 11 [(2, .int z2), (0, .ref 44), (1, .int k)] [.ref 44] rfl ?_
  refine w_getS (b := 57) rfl rfl rfl (kd_44 sh1) (or_603_44 sh1) ?_
  refine w_b 1 15 [(2, .int z2), (0, .ref 44), (1, .int k)] [.int k, .ref 57] rfl ?_
  obtain ⟨g3, F⟩ := F
  refine w_iald rfl (kd_57 sh1) (by rw [show h_al h1 57 = 10 from (al_57 sh1)]; exact g3) ?_
  refine w_b 1 17 [(2, .int z2), (0, .ref 44), (1, .int k)] [.ref 44, .int (h_ai h1 57 k.toNatClampNeg)] rfl ?_
  refine w_getS (b := 56) rfl rfl rfl (kd_44 sh1) (or_602_44 sh1) ?_
  refine w_b 1 21 [(2, .int z2), (0, .ref 44), (1, .int k)] [.int k, .ref 56, .int (h_ai h1 57 k.toNatClampNeg)] rfl ?_
  obtain ⟨g4, F⟩ := F
  refine w_iald rfl (kd_56 sh1) (by rw [show h_al h1 56 = 10 from (al_56 sh1)]; exact g4) ?_
  refine w_b 3 25 [(3, .int ((h_ai h1 57 k.toNatClampNeg) - (h_ai h1 56 k.toNatClampNeg))), (2, .int z2), (0, .ref 44), (1, .int k)] [.ref 44] rfl ?_
  refine w_getS (b := 56) rfl rfl rfl (kd_44 sh1) (or_602_44 sh1) ?_
  refine w_b 1 29 [(3, .int ((h_ai h1 57 k.toNatClampNeg) - (h_ai h1 56 k.toNatClampNeg))), (2, .int z2), (0, .ref 44), (1, .int k)] [.int k, .ref 56] rfl ?_
  obtain ⟨g5, F⟩ := F
  refine w_iald rfl (kd_56 sh1) (by rw [show h_al h1 56 = 10 from (al_56 sh1)]; exact g5) ?_
  refine w_b 1 32 [(4, .int (h_ai h1 56 k.toNatClampNeg)), (3, .int ((h_ai h1 57 k.toNatClampNeg) - (h_ai h1 56 k.toNatClampNeg))), (2, .int z2), (0, .ref 44), (1, .int k)] [] rfl ?_
  refine w_lo [0, 1, 2, 3, 4] [(0, .ref 44), (1, .int k), (2, .int z2), (3, .int ((h_ai h1 57 k.toNatClampNeg) - (h_ai h1 56 k.toNatClampNeg))), (4, .int (h_ai h1 56 k.toNatClampNeg))] rfl rfl ?_
  exact k32 _ _ _ _ _ F

set_option maxRecDepth 20000 in
theorem t_X9_priceOf_32 {h : mm_H} {Q : Option Value → mm_H → Prop} (sh : s_h h) (k : Int32) (x2 : Int32) (x3 : Int32) (x4 : Int32) {K32 : Int32 → Int32 → Int32 → Int32 → mm_H → Prop} (k32 : ∀ (k : Int32) (x2 : Int32) (x3 : Int32) (x4 : Int32) (h : mm_H), K32 k x2 x3 x4 h → w_p 2 (9, 5, mc_X9_priceOf) 32 [(0, .ref 44), (1, .int k), (2, .int x2), (3, .int x3), (4, .int x4)] [] h Q) 
    (F : (vp_in k 10 ∧ (((h_ai h 57 k.toNatClampNeg) ≤ x4 → Q (some (.int x3)) h) ∧ (¬ ((h_ai h 57 k.toNatClampNeg) ≤ x4) → ((x2 = (-4) → Q (some (.int x3)) h) ∧ (¬ (x2 = (-4)) → ((x4 < x2 → K32 k x2 (x3 + 0) (x4 + 1) h) ∧ (¬ (x4 < x2) → K32 k x2 (x3 + 1) (x4 + 1) h)))))))) :
    w_p 2 (9, 5, mc_X9_priceOf) 32 [(0, .ref 44), (1, .int k), (2, .int x2), (3, .int x3), (4, .int x4)] [] h Q := by
  refine w_b 2 35 [(0, .ref 44), (1, .int k), (2, .int x2), (3, .int x3), (4, .int x4)] [.ref 44, .int x4] rfl ?_
  refine w_getS (b := 57) rfl rfl rfl (kd_44 sh) (or_603_44 sh) ?_
  refine w_b 1 39 [(0, .ref 44), (1, .int k), (2, .int x2), (3, .int x3), (4, .int x4)] [.int k, .ref 57, .int x4] rfl ?_
  obtain ⟨g1, F⟩ := F
  refine w_iald rfl (kd_57 sh) (by rw [show h_al h 57 = 10 from (al_57 sh)]; exact g1) ?_
  refine w_ic_ge (tgt := 69) (x := x4) (y := h_ai h 57 k.toNatClampNeg) rfl (by decide) ⟨fun c2 => ?_, fun c2 => ?_⟩
  · have F := F.1 c2
    refine w_b 1 70 [(0, .ref 44), (1, .int k), (2, .int x2), (3, .int x3), (4, .int x4)] [.int x3] rfl ?_
    exact w_ir rfl F
  · have F := F.2 c2
    refine w_b 2 46 [(0, .ref 44), (1, .int k), (2, .int x2), (3, .int x3), (4, .int x4)] [.int (-4), .int x2] rfl ?_
    refine w_ic_eq (tgt := 69) (x := x2) (y := (-4)) rfl (by decide) ⟨fun c3 => ?_, fun c3 => ?_⟩
    · have F := F.1 c3
      refine w_b 1 70 [(0, .ref 44), (1, .int k), (2, .int x2), (3, .int x3), (4, .int x4)] [.int x3] rfl ?_
      exact w_ir rfl F
    · have F := F.2 c3
      refine w_b 3 53 [(0, .ref 44), (1, .int k), (2, .int x2), (3, .int x3), (4, .int x4)] [.int x2, .int x4, .int x3] rfl ?_
      refine w_ic_lt (tgt := 60) (x := x4) (y := x2) rfl (by decide) ⟨fun c4 => ?_, fun c4 => ?_⟩
      · have F := F.1 c4
        refine w_b 5 32 [(4, .int (x4 + 1)), (3, .int (x3 + 0)), (0, .ref 44), (1, .int k), (2, .int x2)] [] rfl ?_
        refine w_lo [0, 1, 2, 3, 4] [(0, .ref 44), (1, .int k), (2, .int x2), (3, .int (x3 + 0)), (4, .int (x4 + 1))] rfl rfl ?_
        exact k32 _ _ _ _ _ F
      · have F := F.2 c4
        refine w_b 6 32 [(4, .int (x4 + 1)), (3, .int (x3 + 1)), (0, .ref 44), (1, .int k), (2, .int x2)] [] rfl ?_
        refine w_lo [0, 1, 2, 3, 4] [(0, .ref 44), (1, .int k), (2, .int x2), (3, .int (x3 + 1)), (4, .int (x4 + 1))] rfl rfl ?_
        exact k32 _ _ _ _ _ F

/-! visits, prices -/
def isA (n : Nat) (i : Int32) : Prop := ∃ j : Nat, i = nI j ∧ j < n
theorem tV_le {tn : Nat} {td : Nat → Nat} {tv : Nat → Nat → Option Nat} (hX : xC tn td tv) {d k v : Nat} (hk : k < 5) (e : tV tn td tv d k = some v) : v ≤ 400 := by
  unfold tV at e
  cases eb : tB td d tn with
  | none => rw [eb] at e; cases e
  | some t =>
    rw [eb] at e
    exact (hX.2 t (tB_lt td d tn t eb)).2 k hk v e
theorem tL_s {tn : Nat} {td : Nat → Nat} {tv : Nat → Nat → Option Nat} {d k v : Nat} (e : tV tn td tv d k = some v) : tL tn td tv d k = nI v := by unfold tL; rw [e]
theorem tL_n {tn : Nat} {td : Nat → Nat} {tv : Nat → Nat → Option Nat} {d k : Nat} (e : tV tn td tv d k = none) : tL tn td tv d k = if k = 1 ∨ k = 2 then (-4 : Int32) else 0 := by unfold tL; rw [e]
def a_pr (a b : Nat) (o : Option Nat) : Nat := (b - a) + (match o with | none => 0 | some t => b - max a t)
theorem a_pr_le {a b : Nat} {o : Option Nat} (h : b ≤ 48) : a_pr a b o ≤ 96 := by
  unfold a_pr
  cases o with
  | none => show b - a + 0 ≤ 96; omega
  | some t => show b - a + (b - max a t) ≤ 96; omega
theorem c_has31 {h : mm_H} {Q : Option Value → mm_H → Prop} (sh : s_h h) {n : Nat} {vf va vb : Nat → Nat} (V : cV h 31 n vf va vb) (hn : n ≤ 10) (i : Int32) (k0 : ¬ isA n i → Q (some (.int 0)) h) (k1 : ∀ j, i = nI j → j < n → Q (some (.int 1)) h) : w_c 0 54 [.ref 31, .int i] h Q := by
  obtain ⟨v1, v2⟩ := V
  refine t_X7_has_31_0 sh i ⟨fun c => k0 ?_, fun c => ?_⟩
  · rintro ⟨j, rfl, hj⟩
    exact absurd c (nI_pos (by omega))
  · obtain ⟨j, hj, rfl⟩ := nat_of c
    rw [v1, i_le (by omega) hj]
    refine ⟨fun z => k0 ?_, fun z => k1 j rfl (by omega)⟩
    rintro ⟨i, e, hi⟩
    rw [nI_eqI hj (by omega)] at e
    omega
theorem c_famOf31 {h : mm_H} {Q : Option Value → mm_H → Prop} (sh : s_h h) {n : Nat} {vf va vb : Nat → Nat} (V : cV h 31 n vf va vb) (hn : n ≤ 10) {j : Nat} (hj : j < n) (k : Q (some (.int (nI (vf j)))) h) : w_c 1 55 [.ref 31, .int (nI j)] h Q := by
  refine t_X7_familyOf_31_0 sh _ (c_has31 sh V hn _ (fun z => absurd ⟨j, rfl, hj⟩ z) (fun _ _ _ => ⟨1, rfl, sh, fun z => absurd z (by decide), fun _ => ⟨vp_in_nI (by omega) (by decide), ?_⟩⟩))
  rw [i_cl (by omega), show h_ai h 32 j = nI (vf j) from (V.2 j hj).1]
  exact k
theorem c_fromOf31 {h : mm_H} {Q : Option Value → mm_H → Prop} (sh : s_h h) {n : Nat} {vf va vb : Nat → Nat} (V : cV h 31 n vf va vb) (hn : n ≤ 10) {j : Nat} (hj : j < n) (k : Q (some (.int (nI (va j)))) h) : w_c 1 56 [.ref 31, .int (nI j)] h Q := by
  refine t_X7_fromOf_31_0 sh _ (c_has31 sh V hn _ (fun z => absurd ⟨j, rfl, hj⟩ z) (fun _ _ _ => ⟨1, rfl, sh, fun z => absurd z (by decide), fun _ => ⟨vp_in_nI (by omega) (by decide), ?_⟩⟩))
  rw [i_cl (by omega), show h_ai h 33 j = nI (va j) from (V.2 j hj).2.1]
  exact k
theorem c_toOf31 {h : mm_H} {Q : Option Value → mm_H → Prop} (sh : s_h h) {n : Nat} {vf va vb : Nat → Nat} (V : cV h 31 n vf va vb) (hn : n ≤ 10) {j : Nat} (hj : j < n) (k : Q (some (.int (nI (vb j)))) h) : w_c 1 57 [.ref 31, .int (nI j)] h Q := by
  refine t_X7_toOf_31_0 sh _ (c_has31 sh V hn _ (fun z => absurd ⟨j, rfl, hj⟩ z) (fun _ _ _ => ⟨1, rfl, sh, fun z => absurd z (by decide), fun _ => ⟨vp_in_nI (by omega) (by decide), ?_⟩⟩))
  rw [i_cl (by omega), show h_ai h 34 j = nI (vb j) from (V.2 j hj).2.2]
  exact k
theorem c_has35 {h : mm_H} {Q : Option Value → mm_H → Prop} (sh : s_h h) {n : Nat} {vf va vb : Nat → Nat} (V : cV h 35 n vf va vb) (hn : n ≤ 10) (i : Int32) (k0 : ¬ isA n i → Q (some (.int 0)) h) (k1 : ∀ j, i = nI j → j < n → Q (some (.int 1)) h) : w_c 0 54 [.ref 35, .int i] h Q := by
  obtain ⟨v1, v2⟩ := V
  refine t_X7_has_35_0 sh i ⟨fun c => k0 ?_, fun c => ?_⟩
  · rintro ⟨j, rfl, hj⟩
    exact absurd c (nI_pos (by omega))
  · obtain ⟨j, hj, rfl⟩ := nat_of c
    rw [v1, i_le (by omega) hj]
    refine ⟨fun z => k0 ?_, fun z => k1 j rfl (by omega)⟩
    rintro ⟨i, e, hi⟩
    rw [nI_eqI hj (by omega)] at e
    omega
theorem c_famOf35 {h : mm_H} {Q : Option Value → mm_H → Prop} (sh : s_h h) {n : Nat} {vf va vb : Nat → Nat} (V : cV h 35 n vf va vb) (hn : n ≤ 10) {j : Nat} (hj : j < n) (k : Q (some (.int (nI (vf j)))) h) : w_c 1 55 [.ref 35, .int (nI j)] h Q := by
  refine t_X7_familyOf_35_0 sh _ (c_has35 sh V hn _ (fun z => absurd ⟨j, rfl, hj⟩ z) (fun _ _ _ => ⟨1, rfl, sh, fun z => absurd z (by decide), fun _ => ⟨vp_in_nI (by omega) (by decide), ?_⟩⟩))
  rw [i_cl (by omega), show h_ai h 36 j = nI (vf j) from (V.2 j hj).1]
  exact k
theorem c_fromOf35 {h : mm_H} {Q : Option Value → mm_H → Prop} (sh : s_h h) {n : Nat} {vf va vb : Nat → Nat} (V : cV h 35 n vf va vb) (hn : n ≤ 10) {j : Nat} (hj : j < n) (k : Q (some (.int (nI (va j)))) h) : w_c 1 56 [.ref 35, .int (nI j)] h Q := by
  refine t_X7_fromOf_35_0 sh _ (c_has35 sh V hn _ (fun z => absurd ⟨j, rfl, hj⟩ z) (fun _ _ _ => ⟨1, rfl, sh, fun z => absurd z (by decide), fun _ => ⟨vp_in_nI (by omega) (by decide), ?_⟩⟩))
  rw [i_cl (by omega), show h_ai h 37 j = nI (va j) from (V.2 j hj).2.1]
  exact k
theorem c_toOf35 {h : mm_H} {Q : Option Value → mm_H → Prop} (sh : s_h h) {n : Nat} {vf va vb : Nat → Nat} (V : cV h 35 n vf va vb) (hn : n ≤ 10) {j : Nat} (hj : j < n) (k : Q (some (.int (nI (vb j)))) h) : w_c 1 57 [.ref 35, .int (nI j)] h Q := by
  refine t_X7_toOf_35_0 sh _ (c_has35 sh V hn _ (fun z => absurd ⟨j, rfl, hj⟩ z) (fun _ _ _ => ⟨1, rfl, sh, fun z => absurd z (by decide), fun _ => ⟨vp_in_nI (by omega) (by decide), ?_⟩⟩))
  rw [i_cl (by omega), show h_ai h 38 j = nI (vb j) from (V.2 j hj).2.2]
  exact k
theorem c_priceOf {h : mm_H} {Q : Option Value → mm_H → Prop} (sh : s_h h) {n : Nat} {vf va vb : Nat → Nat} {tn dy : Nat} {td : Nat → Nat} {tv : Nat → Nat → Option Nat} (V : cV h 31 n vf va vb) (hn : n ≤ 10) (hX : cX h tn td tv) (D : cD h dy) {j : Nat} (hj : j < n) (hv : va j < vb j ∧ vb j ≤ 48) (k : Q (some (.int (nI (a_pr (va j) (vb j) (tV tn td tv dy 1))))) h) : w_c 2 92 [.ref 16, .int (nI j)] h Q := by
  refine t_X8_priceOf_0 sh _ (c_fromOf31 sh V hn hj ⟨_, rfl, sh, c_toOf31 sh V hn hj ⟨_, rfl, sh, ?_⟩⟩)
  rw [D.2]
  have hd := D.1
  refine sp_lawC sh hX (d := dy) (k := 1) (by omega) (by decide) ⟨_, rfl, sh, ?_⟩
  rw [nI_sub (by omega)]
  cases e : tV tn td tv dy 1 with
  | none =>
    rw [tL_n e]
    rw [e] at k
    refine ⟨fun z => absurd rfl z, fun _ => ?_⟩
    rw [show (nI (vb j - va j) + 0 : Int32) = nI (vb j - va j + 0) from nI_add _ 0]
    exact k
  | some t =>
    have ht := tV_le hX.1 (by decide) e
    rw [tL_s e]
    rw [e] at k
    refine ⟨fun _ => ?_, fun z => absurd z (nI_neN t (by omega))⟩
    have e1 : (if nI (va j) < nI t then nI t else nI (va j)) = nI (max (va j) t) := by
      by_cases z : va j < t
      · rw [if_pos ((i_lt (by omega) (by omega)).mpr z)]; congr 1; omega
      · rw [if_neg (fun y => z ((i_lt (by omega) (by omega)).mp y))]; congr 1; omega
    rw [e1]
    have e2 : (if 0 < nI (vb j) - nI (max (va j) t) then nI (vb j) - nI (max (va j) t) else 0) = nI (vb j - max (va j) t) := by
      by_cases z : max (va j) t < vb j
      · rw [nI_sub (by omega), if_pos (show (0 : Int32) < nI (vb j - max (va j) t) from (i_lt (a := 0) (by decide) (by omega)).mpr (by omega))]
      · have e3 : vb j - max (va j) t = 0 := by omega
        rw [e3]
        refine if_neg (fun y => ?_)
        have y := (fa_lt _ _).mp y
        rw [fb_subI (by rw [nI_toInt (by omega), nI_toInt (by omega)]; omega) (by rw [nI_toInt (by omega), nI_toInt (by omega)]; omega), nI_toInt (by omega), nI_toInt (by omega)] at y
        have y0 : (0 : Int32).toInt = 0 := rfl
        omega
    rw [e2, nI_add]
    exact k
theorem m_priceOf {h : mm_H} {Q : Option Value → mm_H → Prop} (sh : s_h h) {n : Nat} {vf va vb : Nat → Nat} {tn dy : Nat} {td : Nat → Nat} {tv : Nat → Nat → Option Nat} (V : mV h 600 55 n vf va vb) (hn : n ≤ 10) (hX : mX h tn td tv) (D : mD h dy) {j : Nat} (hj : j < n) (hv : va j < vb j ∧ vb j ≤ 48) (k : Q (some (.int (nI (a_pr (va j) (vb j) (tV tn td tv dy 1))))) h) : w_c 2 132 [.ref 44, .int (nI j)] h Q := by
  have vj : vp_in (nI j) 10 := vp_in_nI (by omega) (by decide)
  have ej : (nI j).toNatClampNeg = j := i_cl (by omega)
  have e56 : h_ai h 56 j = nI (va j) := (V.2 j hj).2.1
  have e57 : h_ai h 57 j = nI (vb j) := (V.2 j hj).2.2
  have hd := D.1
  refine t_X9_priceOf_0 sh _ (K32 := fun y1 y2 y3 y4 hh => y1 = nI j ∧ y2 = tL tn td tv dy 1 ∧ y3 = nI (vb j - va j) ∧ y4 = nI (va j) ∧ hh = h) (fun y1 y2 y3 y4 hh z => ?_) ?_
  · obtain ⟨rfl, rfl, rfl, rfl, rfl⟩ := z
    cases e : tV tn td tv dy 1 with
    | none =>
      rw [e] at k
      rw [tL_n e]
      refine t_X9_priceOf_32 sh _ _ _ _ (K32 := fun _ _ _ _ _ => False) (fun _ _ _ _ _ z => z.elim) ⟨vj, fun _ => k, fun _ => ⟨fun _ => k, fun y => absurd rfl y⟩⟩
    | some t =>
      have ht := tV_le hX.1 (by decide) e
      rw [e] at k
      rw [tL_s e]
      have loop : ∀ w i, i + w = vb j → va j ≤ i → w_p 2 (9, 5, mc_X9_priceOf) 32 [(0, .ref 44), (1, .int (nI j)), (2, .int (nI t)), (3, .int (nI (vb j - va j + (i - max (va j) t)))), (4, .int (nI i))] [] hh Q := by
        intro w
        induction w with
        | zero =>
          intro i hi hva
          refine t_X9_priceOf_32 sh _ _ _ _ (K32 := fun _ _ _ _ _ => False) (fun _ _ _ _ _ z => z.elim) ⟨vj, fun _ => ?_, fun z => absurd ?_ z⟩
          · rw [show i = vb j by omega]; exact k
          · rw [ej, e57, i_le (by omega) (by omega)]; omega
        | succ w ih =>
          intro i hi hva
          refine t_X9_priceOf_32 sh _ _ _ _ (K32 := fun y1 y2 y3 y4 hh' => y1 = nI j ∧ y2 = nI t ∧ y3 = nI (vb j - va j + (i + 1 - max (va j) t)) ∧ y4 = nI (i + 1) ∧ hh' = hh) (fun y1 y2 y3 y4 hh' z => ?_) ⟨vj, fun z => ?_, fun _ => ⟨fun z => absurd z (nI_neN t (by omega)), fun _ => ⟨fun z => ⟨rfl, rfl, ?_, nI_1 i, rfl⟩, fun z => ⟨rfl, rfl, ?_, nI_1 i, rfl⟩⟩⟩⟩
          · obtain ⟨rfl, rfl, rfl, rfl, rfl⟩ := z
            exact ih (i + 1) (by omega) (by omega)
          · rw [ej, e57, i_le (by omega) (by omega)] at z
            omega
          · rw [i_lt (by omega) (by omega)] at z
            refine (nI_add _ 0).trans ?_
            congr 1; omega
          · rw [i_lt (by omega) (by omega)] at z
            refine (nI_1 _).trans ?_
            congr 1; omega
      have := loop (vb j - va j) (va j) (by omega) (Nat.le_refl _)
      rw [show va j - max (va j) t = 0 by omega, Nat.add_zero] at this
      exact this
  · rw [D.2]
    refine sp_lawM sh hX (d := dy) (k := 1) (by omega) (by decide) ⟨_, rfl, sh, vj, vj, vj, rfl, rfl, ?_, ?_, rfl⟩
    · rw [ej, e57, e56, nI_sub (by omega)]
    · rw [ej, e56]
