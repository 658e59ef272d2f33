set_option maxRecDepth 20000 in
theorem t_X8_mostPairs_0 {h : mm_H} {Q : Option Value → mm_H → Prop} (sh : s_h h) (debt : Int32) 
    (F : w_c 4 94 [.ref 16, .int debt] h (fun r h1 => r = none ∧ s_h h1 ∧ w_c 13 15 [.ref 39] h1 (fun r h2 => ∃ z3 : Int32, r = some (.int z3) ∧ s_h h2 ∧ Q (some (.int z3)) h2))) :
    w_c 14 95 [.ref 16, .int debt] h Q := by
  refine w_ci (M := (8, 2, mc_X8_mostPairs)) rfl (Nat.le_of_ble_eq_true rfl) ?_
  show w_p _ _ 0 [(0, .ref 16), (1, .int debt)] [] h Q
  refine w_b 2 2 [(0, .ref 16), (1, .int debt)] [.int debt, .ref 16] rfl ?_
  refine w_cv (As := [.int debt]) (b := 16) (rest := []) rfl rfl rfl (Nat.le_of_ble_eq_true rfl) (kd_16 sh) (fun z => absurd z (by decide)) (dc := 4) (by omega) (F.mono (fun r h1 F => ?_))
  obtain ⟨rfl, sh1, F⟩ := F
  show w_p _ _ 5 [(0, .ref 16), (1, .int debt)] [] h1 _
  refine w_b 1 6 [(0, .ref 16), (1, .int debt)] [.ref 16] rfl ?_
  refine w_getS (b := 39) rfl rfl rfl (kd_16 sh1) (or_518_16 sh1) ?_
  refine w_cv (As := []) (b := 39) (rest := []) rfl rfl rfl (Nat.le_of_ble_eq_true rfl) (kd_39 sh1) (fun z => absurd z (by decide)) (dc := 13) (by omega) (F.mono (fun r h2 F => ?_))
  obtain ⟨z3, rfl, sh2, F⟩ := F
  show w_p _ _ 12 [(0, .ref 16), (1, .int debt)] [.int z3] h2 _
  exact w_ir rfl F

set_option maxRecDepth 20000 in
theorem t_X8_findTheMatch_0 {h : mm_H} {Q : Option Value → mm_H → Prop} (sh : s_h h) 
    (F : w_c 1 10 [.ref 21, .int (h_oi h 521 16), .int 4] h (fun r h1 => ∃ z2 : Int32, r = some (.int z2) ∧ s_h h1 ∧ w_c 4 94 [.ref 16, .int z2] h1 (fun r h3 => r = none ∧ s_h h3 ∧ w_c 14 19 [.ref 39] h3 (fun r h4 => r = none ∧ s_h h4 ∧ Q none h4)))) :
    w_c 15 96 [.ref 16] h Q := by
  refine w_ci (M := (8, 1, mc_X8_findTheMatch)) rfl (Nat.le_of_ble_eq_true rfl) ?_
  show w_p _ _ 0 [(0, .ref 16)] [] h Q
  refine w_b 2 2 [(0, .ref 16)] [.ref 16, .ref 16] rfl ?_
  refine w_getS (b := 21) rfl rfl rfl (kd_16 sh) (or_514_16 sh) ?_
  refine w_b 1 6 [(0, .ref 16)] [.ref 16, .ref 21, .ref 16] rfl ?_
  refine w_get (g := 521) rfl rfl rfl (kd_16 sh) ?_
  refine w_b 1 10 [(0, .ref 16)] [.int 4, .int (h_oi h 521 16), .ref 21, .ref 16] rfl ?_
  refine w_cv (As := [.int (h_oi h 521 16), .int 4]) (b := 21) (rest := [.ref 16]) rfl rfl rfl (Nat.le_of_ble_eq_true rfl) (kd_21 sh) (fun z => absurd z (by decide)) (dc := 1) (by omega) (F.mono (fun r h1 F => ?_))
  obtain ⟨z2, rfl, sh1, F⟩ := F
  show w_p _ _ 13 [(0, .ref 16)] [.int z2, .ref 16] h1 _
  refine w_cv (As := [.int z2]) (b := 16) (rest := []) rfl rfl rfl (Nat.le_of_ble_eq_true rfl) (kd_16 sh1) (fun z => absurd z (by decide)) (dc := 4) (by omega) (F.mono (fun r h3 F => ?_))
  obtain ⟨rfl, sh3, F⟩ := F
  show w_p _ _ 16 [(0, .ref 16)] [] h3 _
  refine w_b 1 17 [(0, .ref 16)] [.ref 16] rfl ?_
  refine w_getS (b := 39) rfl rfl rfl (kd_16 sh3) (or_518_16 sh3) ?_
  refine w_cv (As := []) (b := 39) (rest := []) rfl rfl rfl (Nat.le_of_ble_eq_true rfl) (kd_39 sh3) (fun z => absurd z (by decide)) (dc := 14) (by omega) (F.mono (fun r h4 F => ?_))
  obtain ⟨rfl, sh4, F⟩ := F
  show w_p _ _ 23 [(0, .ref 16)] [] h4 _
  exact w_vr rfl F

set_option maxRecDepth 20000 in
theorem t_X8_met_0 {h : mm_H} {Q : Option Value → mm_H → Prop} (sh : s_h h) 
    (F : w_c 1 10 [.ref 21, .int (h_oi h 521 16), .int 4] h (fun r h1 => ∃ z2 : Int32, r = some (.int z2) ∧ s_h h1 ∧ w_c 14 95 [.ref 16, .int z2] h1 (fun r h3 => ∃ z4 : Int32, r = some (.int z4) ∧ s_h h3 ∧ Q (some (.int z4)) h3))) :
    w_c 15 77 [.ref 16] h Q := by
  refine w_ci (M := (8, 1, mc_X8_met)) rfl (Nat.le_of_ble_eq_true rfl) ?_
  show w_p _ _ 0 [(0, .ref 16)] [] h Q
  refine w_b 2 2 [(0, .ref 16)] [.ref 16, .ref 16] rfl ?_
  refine w_getS (b := 21) rfl rfl rfl (kd_16 sh) (or_514_16 sh) ?_
  refine w_b 1 6 [(0, .ref 16)] [.ref 16, .ref 21, .ref 16] rfl ?_
  refine w_get (g := 521) rfl rfl rfl (kd_16 sh) ?_
  refine w_b 1 10 [(0, .ref 16)] [.int 4, .int (h_oi h 521 16), .ref 21, .ref 16] rfl ?_
  refine w_cv (As := [.int (h_oi h 521 16), .int 4]) (b := 21) (rest := [.ref 16]) rfl rfl rfl (Nat.le_of_ble_eq_true rfl) (kd_21 sh) (fun z => absurd z (by decide)) (dc := 1) (by omega) (F.mono (fun r h1 F => ?_))
  obtain ⟨z2, rfl, sh1, F⟩ := F
  show w_p _ _ 13 [(0, .ref 16)] [.int z2, .ref 16] h1 _
  refine w_cv (As := [.int z2]) (b := 16) (rest := []) rfl rfl rfl (Nat.le_of_ble_eq_true rfl) (kd_16 sh1) (fun z => absurd z (by decide)) (dc := 14) (by omega) (F.mono (fun r h3 F => ?_))
  obtain ⟨z4, rfl, sh3, F⟩ := F
  show w_p _ _ 16 [(0, .ref 16)] [.int z4] h3 _
  exact w_ir rfl F

set_option maxRecDepth 20000 in
theorem t_X8_sitter_0 {h : mm_H} {Q : Option Value → mm_H → Prop} (sh : s_h h) (a : Int32) 
    (F : w_c 0 54 [.ref 31, .int a] h (fun r h1 => ∃ z2 : Int32, r = some (.int z2) ∧ s_h h1 ∧ ((¬ z2 = 0 → w_c 15 96 [.ref 16] h1 (fun r h4 => r = none ∧ s_h h4 ∧ w_c 0 14 [.ref 39, .int a] h4 (fun r h5 => ∃ z6 : Int32, r = some (.int z6) ∧ s_h h5 ∧ Q (some (.int z6)) h5))) ∧ (z2 = 0 → Q (some (.int (-1))) h1)))) :
    w_c 16 78 [.ref 16, .int a] h Q := by
  refine w_ci (M := (8, 2, mc_X8_sitter)) rfl (Nat.le_of_ble_eq_true rfl) ?_
  show w_p _ _ 0 [(0, .ref 16), (1, .int a)] [] h Q
  refine w_b 1 1 [(0, .ref 16), (1, .int a)] [.ref 16] rfl ?_
  refine w_getS (b := 31) rfl rfl rfl (kd_16 sh) (or_516_16 sh) ?_
  refine w_b 1 5 [(0, .ref 16), (1, .int a)] [.int a, .ref 31] rfl ?_
  refine w_cv (As := [.int a]) (b := 31) (rest := []) rfl rfl rfl (Nat.le_of_ble_eq_true rfl) (kd_31 sh) (fun z => absurd z (by decide)) (dc := 0) (by omega) (F.mono (fun r h1 F => ?_))
  obtain ⟨z2, rfl, sh1, F⟩ := F
  show w_p _ _ 8 [(0, .ref 16), (1, .int a)] [.int z2] h1 _
  refine w_if_ne (tgt := 13) (x := z2) rfl (by decide) ⟨fun c3 => ?_, fun c3 => ?_⟩
  · have F := F.1 c3
    refine w_b 1 14 [(0, .ref 16), (1, .int a)] [.ref 16] rfl ?_
    refine w_cv (As := []) (b := 16) (rest := []) rfl rfl rfl (Nat.le_of_ble_eq_true rfl) (kd_16 sh1) (fun z => absurd z (by decide)) (dc := 15) (by omega) (F.mono (fun r h4 F => ?_))
    obtain ⟨rfl, sh4, F⟩ := F
    show w_p _ _ 17 [(0, .ref 16), (1, .int a)] [] h4 _
    refine w_b 1 18 [(0, .ref 16), (1, .int a)] [.ref 16] rfl ?_
    refine w_getS (b := 39) rfl rfl rfl (kd_16 sh4) (or_518_16 sh4) ?_
    refine w_b 1 22 [(0, .ref 16), (1, .int a)] [.int a, .ref 39] rfl ?_
    refine w_cv (As := [.int a]) (b := 39) (rest := []) rfl rfl rfl (Nat.le_of_ble_eq_true rfl) (kd_39 sh4) (fun z => absurd z (by decide)) (dc := 0) (by omega) (F.mono (fun r h5 F => ?_))
    obtain ⟨z6, rfl, sh5, F⟩ := F
    show w_p _ _ 25 [(0, .ref 16), (1, .int a)] [.int z6] h5 _
    exact w_ir rfl F
  · have F := F.2 (Decidable.not_not.mp c3)
    refine w_b 1 12 [(0, .ref 16), (1, .int a)] [.int (-1)] rfl ?_
    exact w_ir rfl F

set_option maxRecDepth 20000 in
theorem t_X8_why_0 {h : mm_H} {Q : Option Value → mm_H → Prop} (sh : s_h h) (what : Int32) 
    (F : ((what = 0 → w_c 15 96 [.ref 16] h (fun r h2 => r = none ∧ s_h h2 ∧ w_c 1 21 [.ref 39] h2 (fun r h3 => r = none ∧ s_h h3 ∧ ((¬ what = 0 → Q (some (.int (h_oi h3 135 39))) h3) ∧ (what = 0 → w_c 0 23 [.ref 39] h3 (fun r h5 => ∃ z6 : Int32, r = some (.int z6) ∧ s_h h5 ∧ Q (some (.int z6)) h5)))))) ∧ (¬ (what = 0) → ((what = 1 → w_c 15 96 [.ref 16] h (fun r h8 => r = none ∧ s_h h8 ∧ w_c 1 21 [.ref 39] h8 (fun r h9 => r = none ∧ s_h h9 ∧ ((¬ what = 0 → Q (some (.int (h_oi h9 135 39))) h9) ∧ (what = 0 → w_c 0 23 [.ref 39] h9 (fun r h11 => ∃ z12 : Int32, r = some (.int z12) ∧ s_h h11 ∧ Q (some (.int z12)) h11)))))) ∧ (¬ (what = 1) → Q (some (.int (-1))) h))))) :
    w_c 16 79 [.ref 16, .int what] h Q := by
  refine w_ci (M := (8, 2, mc_X8_why)) rfl (Nat.le_of_ble_eq_true rfl) ?_
  show w_p _ _ 0 [(0, .ref 16), (1, .int what)] [] h Q
  refine w_b 1 1 [(0, .ref 16), (1, .int what)] [.int what] rfl ?_
  refine w_if_eq (tgt := 11) (x := what) rfl (by decide) ⟨fun c1 => ?_, fun c1 => ?_⟩
  · have F := F.1 c1
    refine w_b 1 12 [(0, .ref 16), (1, .int what)] [.ref 16] rfl ?_
    refine w_cv (As := []) (b := 16) (rest := []) rfl rfl rfl (Nat.le_of_ble_eq_true rfl) (kd_16 sh) (fun z => absurd z (by decide)) (dc := 15) (by omega) (F.mono (fun r h2 F => ?_))
    obtain ⟨rfl, sh2, F⟩ := F
    show w_p _ _ 15 [(0, .ref 16), (1, .int what)] [] h2 _
    refine w_b 1 16 [(0, .ref 16), (1, .int what)] [.ref 16] rfl ?_
    refine w_getS (b := 39) rfl rfl rfl (kd_16 sh2) (or_518_16 sh2) ?_
    refine w_cv (As := []) (b := 39) (rest := []) rfl rfl rfl (Nat.le_of_ble_eq_true rfl) (kd_39 sh2) (fun z => absurd z (by decide)) (dc := 1) (by omega) (F.mono (fun r h3 F => ?_))
    obtain ⟨rfl, sh3, F⟩ := F
    show w_p _ _ 22 [(0, .ref 16), (1, .int what)] [] h3 _
    refine w_b 1 23 [(0, .ref 16), (1, .int what)] [.int what] rfl ?_
    refine w_if_ne (tgt := 36) (x := what) rfl (by decide) ⟨fun c4 => ?_, fun c4 => ?_⟩
    · have F := F.1 c4
      refine w_b 1 37 [(0, .ref 16), (1, .int what)] [.ref 16] rfl ?_
      refine w_getS (b := 39) rfl rfl rfl (kd_16 sh3) (or_518_16 sh3) ?_
      refine w_get (g := 135) rfl rfl rfl (kd_39 sh3) ?_
      exact w_ir rfl F
    · have F := F.2 (Decidable.not_not.mp c4)
      refine w_b 1 27 [(0, .ref 16), (1, .int what)] [.ref 16] rfl ?_
      refine w_getS (b := 39) rfl rfl rfl (kd_16 sh3) (or_518_16 sh3) ?_
      refine w_cv (As := []) (b := 39) (rest := []) rfl rfl rfl (Nat.le_of_ble_eq_true rfl) (kd_39 sh3) (fun z => absurd z (by decide)) (dc := 0) (by omega) (F.mono (fun r h5 F => ?_))
      obtain ⟨z6, rfl, sh5, F⟩ := F
      show w_p _ _ 33 [(0, .ref 16), (1, .int what)] [.int z6] h5 _
      refine w_b 1 43 [(0, .ref 16), (1, .int what)] [.int z6] rfl ?_
      exact w_ir rfl F
  · have F := F.2 c1
    refine w_b 2 6 [(0, .ref 16), (1, .int what)] [.int 1, .int what] rfl ?_
    refine w_ic_eq (tgt := 11) (x := what) (y := 1) rfl (by decide) ⟨fun c7 => ?_, fun c7 => ?_⟩
    · have F := F.1 c7
      refine w_b 1 12 [(0, .ref 16), (1, .int what)] [.ref 16] rfl ?_
      refine w_cv (As := []) (b := 16) (rest := []) rfl rfl rfl (Nat.le_of_ble_eq_true rfl) (kd_16 sh) (fun z => absurd z (by decide)) (dc := 15) (by omega) (F.mono (fun r h8 F => ?_))
      obtain ⟨rfl, sh8, F⟩ := F
      show w_p _ _ 15 [(0, .ref 16), (1, .int what)] [] h8 _
      refine w_b 1 16 [(0, .ref 16), (1, .int what)] [.ref 16] rfl ?_
      refine w_getS (b := 39) rfl rfl rfl (kd_16 sh8) (or_518_16 sh8) ?_
      refine w_cv (As := []) (b := 39) (rest := []) rfl rfl rfl (Nat.le_of_ble_eq_true rfl) (kd_39 sh8) (fun z => absurd z (by decide)) (dc := 1) (by omega) (F.mono (fun r h9 F => ?_))
      obtain ⟨rfl, sh9, F⟩ := F
      show w_p _ _ 22 [(0, .ref 16), (1, .int what)] [] h9 _
      refine w_b 1 23 [(0, .ref 16), (1, .int what)] [.int what] rfl ?_
      refine w_if_ne (tgt := 36) (x := what) rfl (by decide) ⟨fun c10 => ?_, fun c10 => ?_⟩
      · have F := F.1 c10
        refine w_b 1 37 [(0, .ref 16), (1, .int what)] [.ref 16] rfl ?_
        refine w_getS (b := 39) rfl rfl rfl (kd_16 sh9) (or_518_16 sh9) ?_
        refine w_get (g := 135) rfl rfl rfl (kd_39 sh9) ?_
        exact w_ir rfl F
      · have F := F.2 (Decidable.not_not.mp c10)
        refine w_b 1 27 [(0, .ref 16), (1, .int what)] [.ref 16] rfl ?_
        refine w_getS (b := 39) rfl rfl rfl (kd_16 sh9) (or_518_16 sh9) ?_
        refine w_cv (As := []) (b := 39) (rest := []) rfl rfl rfl (Nat.le_of_ble_eq_true rfl) (kd_39 sh9) (fun z => absurd z (by decide)) (dc := 0) (by omega) (F.mono (fun r h11 F => ?_))
        obtain ⟨z12, rfl, sh11, F⟩ := F
        show w_p _ _ 33 [(0, .ref 16), (1, .int what)] [.int z12] h11 _
        refine w_b 1 43 [(0, .ref 16), (1, .int what)] [.int z12] rfl ?_
        exact w_ir rfl F
    · have F := F.2 c7
      refine w_b 1 10 [(0, .ref 16), (1, .int what)] [.int (-1)] rfl ?_
      exact w_ir rfl F

set_option maxRecDepth 20000 in
theorem t_X8_would_0 {h : mm_H} {Q : Option Value → mm_H → Prop} (sh : s_h h) (n : Int32) 
    (F : ((n < 0 → Q (some (.int (-1))) h) ∧ (¬ (n < 0) → ((n ≤ 1000 → w_c 14 95 [.ref 16, .int n] h (fun r h3 => ∃ z4 : Int32, r = some (.int z4) ∧ s_h h3 ∧ Q (some (.int z4)) h3)) ∧ (¬ (n ≤ 1000) → Q (some (.int (-1))) h))))) :
    w_c 15 80 [.ref 16, .int n] h Q := by
  refine w_ci (M := (8, 2, mc_X8_would)) rfl (Nat.le_of_ble_eq_true rfl) ?_
  show w_p _ _ 0 [(0, .ref 16), (1, .int n)] [] h Q
  refine w_b 1 1 [(0, .ref 16), (1, .int n)] [.int n] rfl ?_
  refine w_if_lt (tgt := 11) (x := n) rfl (by decide) ⟨fun c1 => ?_, fun c1 => ?_⟩
  · have F := F.1 c1
    refine w_b 2 20 [(0, .ref 16), (1, .int n)] [.int (-1)] rfl ?_
    exact w_ir rfl F
  · have F := F.2 c1
    refine w_b 2 8 [(0, .ref 16), (1, .int n)] [.int 1000, .int n] rfl ?_
    refine w_ic_le (tgt := 15) (x := n) (y := 1000) rfl (by decide) ⟨fun c2 => ?_, fun c2 => ?_⟩
    · have F := F.1 c2
      refine w_b 2 17 [(0, .ref 16), (1, .int n)] [.int n, .ref 16] rfl ?_
      refine w_cv (As := [.int n]) (b := 16) (rest := []) rfl rfl rfl (Nat.le_of_ble_eq_true rfl) (kd_16 sh) (fun z => absurd z (by decide)) (dc := 14) (by omega) (F.mono (fun r h3 F => ?_))
      obtain ⟨z4, rfl, sh3, F⟩ := F
      show w_p _ _ 20 [(0, .ref 16), (1, .int n)] [.int z4] h3 _
      exact w_ir rfl F
    · have F := F.2 c2
      refine w_b 2 20 [(0, .ref 16), (1, .int n)] [.int (-1)] rfl ?_
      exact w_ir rfl F

set_option maxRecDepth 20000 in
theorem t_X8_price_0 {h : mm_H} {Q : Option Value → mm_H → Prop} (sh : s_h h) (a : Int32) 
    (F : w_c 0 54 [.ref 31, .int a] h (fun r h1 => ∃ z2 : Int32, r = some (.int z2) ∧ s_h h1 ∧ ((z2 = 0 → Q (some (.int (-1))) h1) ∧ (¬ (z2 = 0) → w_c 2 92 [.ref 16, .int a] h1 (fun r h4 => ∃ z5 : Int32, r = some (.int z5) ∧ s_h h4 ∧ Q (some (.int z5)) h4))))) :
    w_c 3 75 [.ref 16, .int a] h Q := by
  refine w_ci (M := (8, 2, mc_X8_price)) rfl (Nat.le_of_ble_eq_true rfl) ?_
  show w_p _ _ 0 [(0, .ref 16), (1, .int a)] [] h Q
  refine w_b 1 1 [(0, .ref 16), (1, .int a)] [.ref 16] rfl ?_
  refine w_getS (b := 31) rfl rfl rfl (kd_16 sh) (or_516_16 sh) ?_
  refine w_b 1 5 [(0, .ref 16), (1, .int a)] [.int a, .ref 31] rfl ?_
  refine w_cv (As := [.int a]) (b := 31) (rest := []) rfl rfl rfl (Nat.le_of_ble_eq_true rfl) (kd_31 sh) (fun z => absurd z (by decide)) (dc := 0) (by omega) (F.mono (fun r h1 F => ?_))
  obtain ⟨z2, rfl, sh1, F⟩ := F
  show w_p _ _ 8 [(0, .ref 16), (1, .int a)] [.int z2] h1 _
  refine w_if_eq (tgt := 19) (x := z2) rfl (by decide) ⟨fun c3 => ?_, fun c3 => ?_⟩
  · have F := F.1 c3
    refine w_b 1 20 [(0, .ref 16), (1, .int a)] [.int (-1)] rfl ?_
    exact w_ir rfl F
  · have F := F.2 c3
    refine w_b 2 13 [(0, .ref 16), (1, .int a)] [.int a, .ref 16] rfl ?_
    refine w_cv (As := [.int a]) (b := 16) (rest := []) rfl rfl rfl (Nat.le_of_ble_eq_true rfl) (kd_16 sh1) (fun z => absurd z (by decide)) (dc := 2) (by omega) (F.mono (fun r h4 F => ?_))
    obtain ⟨z5, rfl, sh4, F⟩ := F
    show w_p _ _ 16 [(0, .ref 16), (1, .int a)] [.int z5] h4 _
    refine w_b 1 20 [(0, .ref 16), (1, .int a)] [.int z5] rfl ?_
    exact w_ir rfl F

set_option maxRecDepth 20000 in
theorem t_X8_fits_0 {h : mm_H} {Q : Option Value → mm_H → Prop} (sh : s_h h) (a : Int32) (o : Int32) 
    (F : w_c 0 54 [.ref 31, .int a] h (fun r h1 => ∃ z2 : Int32, r = some (.int z2) ∧ s_h h1 ∧ ((z2 = 0 → Q (some (.int (-1))) h1) ∧ (¬ (z2 = 0) → w_c 0 54 [.ref 35, .int o] h1 (fun r h4 => ∃ z5 : Int32, r = some (.int z5) ∧ s_h h4 ∧ ((¬ z5 = 0 → w_c 1 10 [.ref 21, .int (h_oi h4 521 16), .int 4] h4 (fun r h7 => ∃ z8 : Int32, r = some (.int z8) ∧ s_h h7 ∧ w_c 3 93 [.ref 16, .int a, .int o, .int z8] h7 (fun r h9 => ∃ z10 : Int32, r = some (.int z10) ∧ s_h h9 ∧ ((z10 = 0 → Q (some (.int 0)) h9) ∧ (¬ (z10 = 0) → Q (some (.int 1)) h9))))) ∧ (z5 = 0 → Q (some (.int (-1))) h4))))))) :
    w_c 4 76 [.ref 16, .int a, .int o] h Q := by
  refine w_ci (M := (8, 3, mc_X8_fits)) rfl (Nat.le_of_ble_eq_true rfl) ?_
  show w_p _ _ 0 [(0, .ref 16), (1, .int a), (2, .int o)] [] h Q
  refine w_b 1 1 [(0, .ref 16), (1, .int a), (2, .int o)] [.ref 16] rfl ?_
  refine w_getS (b := 31) rfl rfl rfl (kd_16 sh) (or_516_16 sh) ?_
  refine w_b 1 5 [(0, .ref 16), (1, .int a), (2, .int o)] [.int a, .ref 31] rfl ?_
  refine w_cv (As := [.int a]) (b := 31) (rest := []) rfl rfl rfl (Nat.le_of_ble_eq_true rfl) (kd_31 sh) (fun z => absurd z (by decide)) (dc := 0) (by omega) (F.mono (fun r h1 F => ?_))
  obtain ⟨z2, rfl, sh1, F⟩ := F
  show w_p _ _ 8 [(0, .ref 16), (1, .int a), (2, .int o)] [.int z2] h1 _
  refine w_if_eq (tgt := 22) (x := z2) rfl (by decide) ⟨fun c3 => ?_, fun c3 => ?_⟩
  · have F := F.1 c3
    refine w_b 1 23 [(0, .ref 16), (1, .int a), (2, .int o)] [.int (-1)] rfl ?_
    exact w_ir rfl F
  · have F := F.2 c3
    refine w_b 1 12 [(0, .ref 16), (1, .int a), (2, .int o)] [.ref 16] rfl ?_
    refine w_getS (b := 35) rfl rfl rfl (kd_16 sh1) (or_517_16 sh1) ?_
    refine w_b 1 16 [(0, .ref 16), (1, .int a), (2, .int o)] [.int o, .ref 35] rfl ?_
    refine w_cv (As := [.int o]) (b := 35) (rest := []) rfl rfl rfl (Nat.le_of_ble_eq_true rfl) (kd_35 sh1) (fun z => absurd z (by decide)) (dc := 0) (by omega) (F.mono (fun r h4 F => ?_))
    obtain ⟨z5, rfl, sh4, F⟩ := F
    show w_p _ _ 19 [(0, .ref 16), (1, .int a), (2, .int o)] [.int z5] h4 _
    refine w_if_ne (tgt := 24) (x := z5) rfl (by decide) ⟨fun c6 => ?_, fun c6 => ?_⟩
    · have F := F.1 c6
      refine w_b 4 28 [(0, .ref 16), (1, .int a), (2, .int o)] [.ref 16, .int o, .int a, .ref 16] rfl ?_
      refine w_getS (b := 21) rfl rfl rfl (kd_16 sh4) (or_514_16 sh4) ?_
      refine w_b 1 32 [(0, .ref 16), (1, .int a), (2, .int o)] [.ref 16, .ref 21, .int o, .int a, .ref 16] rfl ?_
      refine w_get (g := 521) rfl rfl rfl (kd_16 sh4) ?_
      refine w_b 1 36 [(0, .ref 16), (1, .int a), (2, .int o)] [.int 4, .int (h_oi h4 521 16), .ref 21, .int o, .int a, .ref 16] rfl ?_
      refine w_cv (As := [.int (h_oi h4 521 16), .int 4]) (b := 21) (rest := [.int o, .int a, .ref 16]) rfl rfl rfl (Nat.le_of_ble_eq_true rfl) (kd_21 sh4) (fun z => absurd z (by decide)) (dc := 1) (by omega) (F.mono (fun r h7 F => ?_))
      obtain ⟨z8, rfl, sh7, F⟩ := F
      show w_p _ _ 39 [(0, .ref 16), (1, .int a), (2, .int o)] [.int z8, .int o, .int a, .ref 16] h7 _
      refine w_cv (As := [.int a, .int o, .int z8]) (b := 16) (rest := []) rfl rfl rfl (Nat.le_of_ble_eq_true rfl) (kd_16 sh7) (fun z => absurd z (by decide)) (dc := 3) (by omega) (F.mono (fun r h9 F => ?_))
      obtain ⟨z10, rfl, sh9, F⟩ := F
      show w_p _ _ 42 [(0, .ref 16), (1, .int a), (2, .int o)] [.int z10] h9 _
      refine w_if_eq (tgt := 49) (x := z10) rfl (by decide) ⟨fun c11 => ?_, fun c11 => ?_⟩
      · have F := F.1 c11
        refine w_b 1 50 [(0, .ref 16), (1, .int a), (2, .int o)] [.int 0] rfl ?_
        exact w_ir rfl F
      · have F := F.2 c11
        refine w_b 2 50 [(0, .ref 16), (1, .int a), (2, .int o)] [.int 1] rfl ?_
        exact w_ir rfl F
    · have F := F.2 (Decidable.not_not.mp c6)
      refine w_b 1 23 [(0, .ref 16), (1, .int a), (2, .int o)] [.int (-1)] rfl ?_
      exact w_ir rfl F

set_option maxRecDepth 20000 in
theorem t_X9_price_0 {h : mm_H} {Q : Option Value → mm_H → Prop} (sh : s_h h) (a : Int32) 
    (F : (((f_in a.toInt64 (Int64.ofNat 0) (((h_oi h 600 44) - (1 : Int32)).toInt64)) = 0 → Q (some (.int (-1))) h) ∧ (¬ ((f_in a.toInt64 (Int64.ofNat 0) (((h_oi h 600 44) - (1 : Int32)).toInt64)) = 0) → w_c 2 132 [.ref 44, .int a] h (fun r h2 => ∃ z3 : Int32, r = some (.int z3) ∧ s_h h2 ∧ Q (some (.int z3)) h2)))) :
    w_c 3 133 [.ref 44, .int a] h Q := by
  refine w_ci (M := (9, 2, mc_X9_price)) rfl (Nat.le_of_ble_eq_true rfl) ?_
  show w_p _ _ 0 [(0, .ref 44), (1, .int a)] [] h Q
  refine w_b 4 4 [(0, .ref 44), (1, .int a)] [.ref 44, .long (Int64.ofNat 0), .long a.toInt64] rfl ?_
  refine w_get (g := 600) rfl rfl rfl (kd_44 sh) ?_
  refine w_b 3 10 [(0, .ref 44), (1, .int a)] [.long (((h_oi h 600 44) - (1 : Int32)).toInt64), .long (Int64.ofNat 0), .long a.toInt64] rfl ?_
  refine w_cs (As := [.long a.toInt64, .long (Int64.ofNat 0), .long (((h_oi h 600 44) - (1 : Int32)).toInt64)]) (rest := []) rfl rfl rfl (Nat.le_of_ble_eq_true rfl) (dc := 0) (by omega) (sp_in  ?_)
  show w_p _ _ 13 [(0, .ref 44), (1, .int a)] [.int (f_in a.toInt64 (Int64.ofNat 0) (((h_oi h 600 44) - (1 : Int32)).toInt64))] h _
  refine w_if_eq (tgt := 24) (x := f_in a.toInt64 (Int64.ofNat 0) (((h_oi h 600 44) - (1 : Int32)).toInt64)) rfl (by decide) ⟨fun c1 => ?_, fun c1 => ?_⟩
  · have F := F.1 c1
    refine w_b 1 25 [(0, .ref 44), (1, .int a)] [.int (-1)] rfl ?_
    exact w_ir rfl F
  · have F := F.2 c1
    refine w_b 2 18 [(0, .ref 44), (1, .int a)] [.int a, .ref 44] rfl ?_
    refine w_cv (As := [.int a]) (b := 44) (rest := []) rfl rfl rfl (Nat.le_of_ble_eq_true rfl) (kd_44 sh) (fun z => absurd z (by decide)) (dc := 2) (by omega) (F.mono (fun r h2 F => ?_))
    obtain ⟨z3, rfl, sh2, F⟩ := F
    show w_p _ _ 21 [(0, .ref 44), (1, .int a)] [.int z3] h2 _
    refine w_b 1 25 [(0, .ref 44), (1, .int a)] [.int z3] rfl ?_
    exact w_ir rfl F

set_option maxRecDepth 20000 in
theorem t_X9_fits_0 {h : mm_H} {Q : Option Value → mm_H → Prop} (sh : s_h h) (a : Int32) (o : Int32) 
    (F : (((f_in a.toInt64 (Int64.ofNat 0) (((h_oi h 600 44) - (1 : Int32)).toInt64)) = 0 → Q (some (.int (-1))) h) ∧ (¬ ((f_in a.toInt64 (Int64.ofNat 0) (((h_oi h 600 44) - (1 : Int32)).toInt64)) = 0) → ((¬ (f_in o.toInt64 (Int64.ofNat 0) (((h_oi h 604 44) - (1 : Int32)).toInt64)) = 0 → w_c 1 116 [.ref 44, .int (h_oi h 588 44), .int 4] h (fun r h3 => ∃ z4 : Int32, r = some (.int z4) ∧ s_h h3 ∧ w_c 3 134 [.ref 44, .int a, .int o, .int z4] h3 (fun r h5 => ∃ z6 : Int32, r = some (.int z6) ∧ s_h h5 ∧ ((z6 = 0 → Q (some (.int 0)) h5) ∧ (¬ (z6 = 0) → Q (some (.int 1)) h5))))) ∧ ((f_in o.toInt64 (Int64.ofNat 0) (((h_oi h 604 44) - (1 : Int32)).toInt64)) = 0 → Q (some (.int (-1))) h))))) :
    w_c 4 135 [.ref 44, .int a, .int o] h Q := by
  refine w_ci (M := (9, 3, mc_X9_fits)) rfl (Nat.le_of_ble_eq_true rfl) ?_
  show w_p _ _ 0 [(0, .ref 44), (1, .int a), (2, .int o)] [] h Q
  refine w_b 4 4 [(0, .ref 44), (1, .int a), (2, .int o)] [.ref 44, .long (Int64.ofNat 0), .long a.toInt64] rfl ?_
  refine w_get (g := 600) rfl rfl rfl (kd_44 sh) ?_
  refine w_b 3 10 [(0, .ref 44), (1, .int a), (2, .int o)] [.long (((h_oi h 600 44) - (1 : Int32)).toInt64), .long (Int64.ofNat 0), .long a.toInt64] rfl ?_
  refine w_cs (As := [.long a.toInt64, .long (Int64.ofNat 0), .long (((h_oi h 600 44) - (1 : Int32)).toInt64)]) (rest := []) rfl rfl rfl (Nat.le_of_ble_eq_true rfl) (dc := 0) (by omega) (sp_in  ?_)
  show w_p _ _ 13 [(0, .ref 44), (1, .int a), (2, .int o)] [.int (f_in a.toInt64 (Int64.ofNat 0) (((h_oi h 600 44) - (1 : Int32)).toInt64))] h _
  refine w_if_eq (tgt := 32) (x := f_in a.toInt64 (Int64.ofNat 0) (((h_oi h 600 44) - (1 : Int32)).toInt64)) rfl (by decide) ⟨fun c1 => ?_, fun c1 => ?_⟩
  · have F := F.1 c1
    refine w_b 2 59 [(0, .ref 44), (1, .int a), (2, .int o)] [.int (-1)] rfl ?_
    exact w_ir rfl F
  · have F := F.2 c1
    refine w_b 4 20 [(0, .ref 44), (1, .int a), (2, .int o)] [.ref 44, .long (Int64.ofNat 0), .long o.toInt64] rfl ?_
    refine w_get (g := 604) rfl rfl rfl (kd_44 sh) ?_
    refine w_b 3 26 [(0, .ref 44), (1, .int a), (2, .int o)] [.long (((h_oi h 604 44) - (1 : Int32)).toInt64), .long (Int64.ofNat 0), .long o.toInt64] rfl ?_
    refine w_cs (As := [.long o.toInt64, .long (Int64.ofNat 0), .long (((h_oi h 604 44) - (1 : Int32)).toInt64)]) (rest := []) rfl rfl rfl (Nat.le_of_ble_eq_true rfl) (dc := 0) (by omega) (sp_in  ?_)
    show w_p _ _ 29 [(0, .ref 44), (1, .int a), (2, .int o)] [.int (f_in o.toInt64 (Int64.ofNat 0) (((h_oi h 604 44) - (1 : Int32)).toInt64))] h _
    refine w_if_ne (tgt := 36) (x := f_in o.toInt64 (Int64.ofNat 0) (((h_oi h 604 44) - (1 : Int32)).toInt64)) rfl (by decide) ⟨fun c2 => ?_, fun c2 => ?_⟩
    · have F := F.1 c2
      refine w_b 5 41 [(0, .ref 44), (1, .int a), (2, .int o)] [.ref 44, .ref 44, .int o, .int a, .ref 44] rfl ?_
      refine w_get (g := 588) rfl rfl rfl (kd_44 sh) ?_
      refine w_b 1 45 [(0, .ref 44), (1, .int a), (2, .int o)] [.int 4, .int (h_oi h 588 44), .ref 44, .int o, .int a, .ref 44] rfl ?_
      refine w_cv (As := [.int (h_oi h 588 44), .int 4]) (b := 44) (rest := [.int o, .int a, .ref 44]) rfl rfl rfl (Nat.le_of_ble_eq_true rfl) (kd_44 sh) (fun z => absurd z (by decide)) (dc := 1) (by omega) (F.mono (fun r h3 F => ?_))
      obtain ⟨z4, rfl, sh3, F⟩ := F
      show w_p _ _ 48 [(0, .ref 44), (1, .int a), (2, .int o)] [.int z4, .int o, .int a, .ref 44] h3 _
      refine w_cv (As := [.int a, .int o, .int z4]) (b := 44) (rest := []) rfl rfl rfl (Nat.le_of_ble_eq_true rfl) (kd_44 sh3) (fun z => absurd z (by decide)) (dc := 3) (by omega) (F.mono (fun r h5 F => ?_))
      obtain ⟨z6, rfl, sh5, F⟩ := F
      show w_p _ _ 51 [(0, .ref 44), (1, .int a), (2, .int o)] [.int z6] h5 _
      refine w_if_eq (tgt := 58) (x := z6) rfl (by decide) ⟨fun c7 => ?_, fun c7 => ?_⟩
      · have F := F.1 c7
        refine w_b 1 59 [(0, .ref 44), (1, .int a), (2, .int o)] [.int 0] rfl ?_
        exact w_ir rfl F
      · have F := F.2 c7
        refine w_b 2 59 [(0, .ref 44), (1, .int a), (2, .int o)] [.int 1] rfl ?_
        exact w_ir rfl F
    · have F := F.2 (Decidable.not_not.mp c2)
      refine w_b 2 59 [(0, .ref 44), (1, .int a), (2, .int o)] [.int (-1)] rfl ?_
      exact w_ir rfl F

set_option maxRecDepth 20000 in
theorem t_X9_met_0 {h : mm_H} {Q : Option Value → mm_H → Prop} (sh : s_h h) 
    (F : w_c 5 140 [.ref 44] h (fun r h1 => ∃ z2 : Int32, r = some (.int z2) ∧ s_h h1 ∧ Q (some (.int z2)) h1)) :
    w_c 6 141 [.ref 44] h Q := by
  refine w_ci (M := (9, 1, mc_X9_met)) rfl (Nat.le_of_ble_eq_true rfl) ?_
  show w_p _ _ 0 [(0, .ref 44)] [] h Q
  refine w_b 1 1 [(0, .ref 44)] [.ref 44] rfl ?_
  refine w_cv (As := []) (b := 44) (rest := []) rfl rfl rfl (Nat.le_of_ble_eq_true rfl) (kd_44 sh) (fun z => absurd z (by decide)) (dc := 5) (by omega) (F.mono (fun r h1 F => ?_))
  obtain ⟨z2, rfl, sh1, F⟩ := F
  show w_p _ _ 4 [(0, .ref 44)] [.int z2] h1 _
  exact w_ir rfl F

set_option maxRecDepth 20000 in
theorem t_X9_sitter_0 {h : mm_H} {Q : Option Value → mm_H → Prop} (sh : s_h h) (a : Int32) 
    (F : ((¬ (f_in a.toInt64 (Int64.ofNat 0) (((h_oi h 600 44) - (1 : Int32)).toInt64)) = 0 → w_c 5 140 [.ref 44] h (fun r h2 => ∃ z3 : Int32, r = some (.int z3) ∧ s_h h2 ∧ (vp_in a 10 ∧ Q (some (.int (h_ai h2 66 a.toNatClampNeg))) h2))) ∧ ((f_in a.toInt64 (Int64.ofNat 0) (((h_oi h 600 44) - (1 : Int32)).toInt64)) = 0 → Q (some (.int (-1))) h))) :
    w_c 6 142 [.ref 44, .int a] h Q := by
  refine w_ci (M := (9, 2, mc_X9_sitter)) rfl (Nat.le_of_ble_eq_true rfl) ?_
  show w_p _ _ 0 [(0, .ref 44), (1, .int a)] [] h Q
  refine w_b 4 4 [(0, .ref 44), (1, .int a)] [.ref 44, .long (Int64.ofNat 0), .long a.toInt64] rfl ?_
  refine w_get (g := 600) rfl rfl rfl (kd_44 sh) ?_
  refine w_b 3 10 [(0, .ref 44), (1, .int a)] [.long (((h_oi h 600 44) - (1 : Int32)).toInt64), .long (Int64.ofNat 0), .long a.toInt64] rfl ?_
  refine w_cs (As := [.long a.toInt64, .long (Int64.ofNat 0), .long (((h_oi h 600 44) - (1 : Int32)).toInt64)]) (rest := []) rfl rfl rfl (Nat.le_of_ble_eq_true rfl) (dc := 0) (by omega) (sp_in  ?_)
  show w_p _ _ 13 [(0, .ref 44), (1, .int a)] [.int (f_in a.toInt64 (Int64.ofNat 0) (((h_oi h 600 44) - (1 : Int32)).toInt64))] h _
  refine w_if_ne (tgt := 18) (x := f_in a.toInt64 (Int64.ofNat 0) (((h_oi h 600 44) - (1 : Int32)).toInt64)) rfl (by decide) ⟨fun c1 => ?_, fun c1 => ?_⟩
  · have F := F.1 c1
    refine w_b 1 19 [(0, .ref 44), (1, .int a)] [.ref 44] rfl ?_
    refine w_cv (As := []) (b := 44) (rest := []) rfl rfl rfl (Nat.le_of_ble_eq_true rfl) (kd_44 sh) (fun z => absurd z (by decide)) (dc := 5) (by omega) (F.mono (fun r h2 F => ?_))
    obtain ⟨z3, rfl, sh2, F⟩ := F
    show w_p _ _ 22 [(0, .ref 44), (1, .int a)] [.int z3] h2 _
    refine w_b 2 24 [(0, .ref 44), (1, .int a)] [.ref 44] rfl ?_
    refine w_getS (b := 66) rfl rfl rfl (kd_44 sh2) (or_613_44 sh2) ?_
    refine w_b 1 28 [(0, .ref 44), (1, .int a)] [.int a, .ref 66] rfl ?_
    obtain ⟨g4, F⟩ := F
    refine w_iald rfl (kd_66 sh2) (by rw [show h_al h2 66 = 10 from (al_66 sh2)]; exact g4) ?_
    exact w_ir rfl F
  · have F := F.2 (Decidable.not_not.mp c1)
    refine w_b 1 17 [(0, .ref 44), (1, .int a)] [.int (-1)] rfl ?_
    exact w_ir rfl F

set_option maxRecDepth 20000 in
theorem t_X9_would_0 {h : mm_H} {Q : Option Value → mm_H → Prop} (sh : s_h h) (n : Int32) 
    (F : ((¬ (f_in n.toInt64 (Int64.ofNat 0) (Int64.ofNat 1000)) = 0 → w_c 4 136 [.ref 44, .int n] h (fun r h2 => r = none ∧ s_h h2 ∧ w_c 2 139 [.ref 44, .int 0, .int 0] h2 (fun r h3 => ∃ z4 : Int32, r = some (.int z4) ∧ s_h h3 ∧ Q (some (.int z4)) h3))) ∧ ((f_in n.toInt64 (Int64.ofNat 0) (Int64.ofNat 1000)) = 0 → Q (some (.int (-1))) h))) :
    w_c 5 144 [.ref 44, .int n] h Q := by
  refine w_ci (M := (9, 2, mc_X9_would)) rfl (Nat.le_of_ble_eq_true rfl) ?_
  show w_p _ _ 0 [(0, .ref 44), (1, .int n)] [] h Q
  refine w_b 4 6 [(0, .ref 44), (1, .int n)] [.long (Int64.ofNat 1000), .long (Int64.ofNat 0), .long n.toInt64] rfl ?_
  refine w_cs (As := [.long n.toInt64, .long (Int64.ofNat 0), .long (Int64.ofNat 1000)]) (rest := []) rfl rfl rfl (Nat.le_of_ble_eq_true rfl) (dc := 0) (by omega) (sp_in  ?_)
  show w_p _ _ 9 [(0, .ref 44), (1, .int n)] [.int (f_in n.toInt64 (Int64.ofNat 0) (Int64.ofNat 1000))] h _
  refine w_if_ne (tgt := 14) (x := f_in n.toInt64 (Int64.ofNat 0) (Int64.ofNat 1000)) rfl (by decide) ⟨fun c1 => ?_, fun c1 => ?_⟩
  · have F := F.1 c1
    refine w_b 2 16 [(0, .ref 44), (1, .int n)] [.int n, .ref 44] rfl ?_
    refine w_cv (As := [.int n]) (b := 44) (rest := []) rfl rfl rfl (Nat.le_of_ble_eq_true rfl) (kd_44 sh) (fun z => absurd z (by decide)) (dc := 4) (by omega) (F.mono (fun r h2 F => ?_))
    obtain ⟨rfl, sh2, F⟩ := F
    show w_p _ _ 19 [(0, .ref 44), (1, .int n)] [] h2 _
    refine w_b 3 22 [(0, .ref 44), (1, .int n)] [.int 0, .int 0, .ref 44] rfl ?_
    refine w_cv (As := [.int 0, .int 0]) (b := 44) (rest := []) rfl rfl rfl (Nat.le_of_ble_eq_true rfl) (kd_44 sh2) (fun z => absurd z (by decide)) (dc := 2) (by omega) (F.mono (fun r h3 F => ?_))
    obtain ⟨z4, rfl, sh3, F⟩ := F
    show w_p _ _ 25 [(0, .ref 44), (1, .int n)] [.int z4] h3 _
    exact w_ir rfl F
  · have F := F.2 (Decidable.not_not.mp c1)
    refine w_b 1 13 [(0, .ref 44), (1, .int n)] [.int (-1)] rfl ?_
    exact w_ir rfl F

/-! price, fits, met, sitter, why, would -/
theorem in_isA {n : Nat} (hn : n ≤ 100) (a : Int32) : f_in a.toInt64 (Int64.ofNat 0) ((nI n - (1 : Int32)).toInt64) = 0 ↔ ¬ isA n a := by
  by_cases hc : n = 0
  · subst hc
    refine ⟨fun _ => ?_, fun _ => ?_⟩
    · rintro ⟨j, -, hj⟩
      omega
    · rw [f_in0]
      intro z
      have a1 := (fa_le64 _ _).mp z.1
      have a2 := (fa_le64 _ _).mp z.2
      have e : ((nI 0 - 1 : Int32).toInt64).toInt = -1 := by decide
      rw [e] at a2
      have e0 : (Int64.ofNat 0).toInt = 0 := by decide
      omega
  · have e1 : nI n - 1 = nI (n - 1) := nI_sub1 (by omega)
    rw [e1, wL _ (by omega)]
    refine ⟨fun c => ?_, fun c => ?_⟩
    · rintro ⟨j, rfl, hj⟩
      exact ((f_in_nz (by decide) (by omega)).mpr ⟨(i_le (by decide) (by omega)).mpr (Nat.zero_le _), (i_le (by omega) (by omega)).mpr (by omega)⟩) c
    · refine Classical.byContradiction (fun z => c ?_)
      have z := (f_in_nz (by decide) (by omega)).mp z
      obtain ⟨j, hj, rfl⟩ := nat_of (le0.mp z.1)
      have c2 := (i_le hj (by omega)).mp z.2
      exact ⟨j, rfl, by omega⟩
theorem isA.j {n : Nat} {a : Int32} (hn : n ≤ 100) (h : isA n a) : a = nI a.toNatClampNeg ∧ a.toNatClampNeg < n := by
  obtain ⟨j, rfl, hj⟩ := h
  rw [i_cl (by omega)]
  exact ⟨rfl, hj⟩
noncomputable def zDf (X : zX) (dy : Nat) (A O : zV) (N : zN) : Nat → Nat → Bool := a_fit X dy A O N (tL X.1 X.2.1 X.2.2 dy 4)
noncomputable def r_if (c : Prop) (x y : Int32) : Int32 := @ite Int32 c (Classical.propDecidable _) x y
theorem r_if_t {c : Prop} {x y : Int32} (h : c) : r_if c x y = x := by unfold r_if; exact if_pos h
theorem r_if_f {c : Prop} {x y : Int32} (h : ¬ c) : r_if c x y = y := by unfold r_if; exact if_neg h
theorem c_mostP {h : mm_H} {Q : Option Value → mm_H → Prop} {own cap : Nat → Nat} {T : zT} {X : zX} {dy W : Nat} {ft : Int32} {F : zF} {A O : zV} {N : zN} {C : zC} {H : zH} (sh : s_h h) (K : CS h own cap T X dy ft F A O N C H) (Z : zP W cap F A O N H) {debt : Int32} (k : ∀ h', fx h h' gS aS → dn h h' → Q (some (.int (nI (mA (a_fit X dy A O N debt) A.1 O.1)))) h') : w_c 14 95 [.ref 16, .int debt] h Q := by
  refine t_X8_mostPairs_0 sh _ ((c_look sh K Z (fun h1 f d M _ _ => ⟨rfl, f.sh sh (by decide), ?_⟩)).up (by decide))
  refine c_mostAll (f.sh sh (by decide)) M (fun h2 f2 d2 => ⟨_, rfl, f2.sh (f.sh sh (by decide)) (by decide), k h2 (f.tr f2 (by decide) (by decide) (by decide) (by decide)) (d.tr d2)⟩)
theorem c_findM {h : mm_H} {Q : Option Value → mm_H → Prop} {own cap : Nat → Nat} {T : zT} {X : zX} {dy W : Nat} {ft : Int32} {F : zF} {A O : zV} {N : zN} {C : zC} {H : zH} (sh : s_h h) (K : CS h own cap T X dy ft F A O N C H) (Z : zP W cap F A O N H) (k : ∀ h', fx h h' gS aS → dn h h' → cM h' A.1 O.1 (zDf X dy A O N) → cMz h' A.1 O.1 → cG h' A.1 (mg (zDf X dy A O N) A.1 O.1) → Q none h') : w_c 15 96 [.ref 16] h Q := by
  have cd : cD h dy := K.2.2.1
  have hd := cd.1
  refine t_X8_findTheMatch_0 sh ?_
  rw [cd.2]
  refine (sp_lawC sh K.2.1 (d := dy) (k := 4) (by omega) (by decide) ⟨_, rfl, sh, ?_⟩)
  refine (c_look sh K Z (fun h1 f d M Mz q => ⟨rfl, f.sh sh (by decide), ?_⟩))
  have sh1 := f.sh sh (by decide)
  refine c_match sh1 M q (fun h2 f2 d2 G => ⟨rfl, f2.sh sh1 (by decide), k h2 (f.tr f2 (by decide) (by decide) (by decide) (by decide)) (d.tr d2) (M.fx f2 (by decide) (by decide) (by decide)) (Mz.fx f2 (by decide)) G⟩)
theorem m_matches {h : mm_H} {Q : Option Value → mm_H → Prop} {cap : Nat → Nat} {T : zT} {X : zX} {dy cl W : Nat} {ft : Int32} {F : zF} {A O : zV} {N : zN} {C : zC} {H : zH} (sh : s_h h) (K : MS h cl T X dy ft F A O N C H) (Z : zP W cap F A O N H) (k : ∀ h', fx h h' [] [61, 62, 63, 64, 65, 66] → dn h h' → mC h' A.1 O.1 → mF h' A.1 O.1 (zDf X dy A O N) → mGm h' A.1 (mg (zDf X dy A O N) A.1 O.1) → Q (some (.int (nI (mA (zDf X dy A O N) A.1 O.1)))) h') : w_c 5 140 [.ref 44] h Q := by
  have md := K.d
  have hd := md.1
  have mc : mC h A.1 O.1 := ⟨⟨Z.2.1.1, Z.2.2.1.1⟩, K.2.2.2.2.1.1, K.2.2.2.2.2.1.1⟩
  refine t_X9_matches_0 (D := 4) sh (K27 := fun y1 y2 y3 y4 hh => y1 = nI (mA (zDf X dy A O N) A.1 O.1) ∧ y2 = nI 0 ∧ y3 = 0 ∧ y4 = nI 0 ∧ fx h hh [] [61, 62, 63, 64, 65, 66] ∧ dn h hh ∧ mF hh A.1 O.1 (zDf X dy A O N)) (fun y1 y2 y3 y4 hh z => ?_) ?_
  · obtain ⟨rfl, rfl, rfl, rfl, f, d, M⟩ := z
    have mc1 : mC hh A.1 O.1 := mc.fx f (by decide) (by decide)
    refine m_matchL (D := 4) (by decide) (f.sh sh (by decide)) mc1 M (fun h2 f2 d2 G => k h2 (f.tr f2 (by decide) (by decide) (by decide) (by decide)) (d.tr d2) (mc1.fx f2 (by decide) (by decide)) (M.fx f2 (by decide)) G)
  · rw [md.2]
    refine (sp_lawM sh K.2.1 (d := dy) (k := 4) (by omega) (by decide) ⟨_, rfl, sh, ?_⟩).up (by decide)
    refine m_find sh K Z (fun h1 f d M => ⟨rfl, f.sh sh (by decide), ?_⟩)
    have sh1 := f.sh sh (by decide)
    refine (m_most (first := 0) (F := fun _ => true) sh1 (mc.fx f (by decide) (by decide)) M (Nat.zero_le _) (fun o ho => b_0 o) (fun h2 f2 d2 => ⟨_, rfl, f2.sh sh1 (by decide), rfl, rfl, rfl, rfl, f.tr f2 (by decide) (by decide) (by decide) (by decide), d.tr d2, M.fx f2 (by decide)⟩)).up (by decide)
noncomputable def r_price (X : zX) (dy : Nat) (A : zV) (a : Int32) : Int32 := r_if (isA A.1 a) (nI (zPr X dy A a.toNatClampNeg)) (-1)
theorem c_price {h : mm_H} {Q : Option Value → mm_H → Prop} {own cap : Nat → Nat} {T : zT} {X : zX} {dy W : Nat} {ft : Int32} {F : zF} {A O : zV} {N : zN} {C : zC} {H : zH} (sh : s_h h) (K : CS h own cap T X dy ft F A O N C H) (Z : zP W cap F A O N H) (a : Int32) (k : ∀ h', fx h h' gS aS → dn h h' → Q (some (.int (r_price X dy A a))) h') : w_c 3 75 [.ref 16, .int a] h Q := by
  replace k := k h (fx.rf _ _ _) (dn.rf _)
  have z2 := Z.2.1.1
  refine t_X8_price_0 sh _ ((c_has31 sh K.2.2.2.2.2.1 z2 a (fun c => ⟨_, rfl, sh, fun _ => ?_, fun z => absurd rfl z⟩) (fun j e hj => ⟨_, rfl, sh, fun z => absurd z (by decide), fun _ => ?_⟩)).up (by decide))
  · unfold r_price at k; rw [r_if_f c] at k; exact k
  · subst e
    unfold r_price at k
    rw [r_if_t ⟨j, rfl, hj⟩, i_cl (by omega)] at k
    exact c_priceOf sh K.2.2.2.2.2.1 z2 K.2.1 K.2.2.1 hj ⟨(Z.2.1.2 j hj).2.1, (Z.2.1.2 j hj).2.2⟩ ⟨_, rfl, sh, k⟩
theorem m_price {h : mm_H} {Q : Option Value → mm_H → Prop} {cap : Nat → Nat} {T : zT} {X : zX} {dy cl W : Nat} {ft : Int32} {F : zF} {A O : zV} {N : zN} {C : zC} {H : zH} (sh : s_h h) (K : MS h cl T X dy ft F A O N C H) (Z : zP W cap F A O N H) (a : Int32) (k : ∀ h', fx h h' gSm aSm → dn h h' → Q (some (.int (r_price X dy A a))) h') : w_c 3 133 [.ref 44, .int a] h Q := by
  replace k := k h (fx.rf _ _ _) (dn.rf _)
  have z2 := Z.2.1.1
  refine t_X9_price_0 sh _ ?_
  rw [show h_oi h 600 44 = nI A.1 from K.2.2.2.2.1.1, in_isA (by omega)]
  unfold r_price at k
  refine ⟨fun c => by rw [r_if_f c] at k; exact k, fun c => ?_⟩
  have c := Classical.not_not.mp c
  rw [r_if_t c] at k
  obtain ⟨e, hj⟩ := c.j (by omega)
  generalize a.toNatClampNeg = j at e hj k
  subst e
  exact m_priceOf sh K.2.2.2.2.1 z2 K.2.1 K.d hj ⟨(Z.2.1.2 j hj).2.1, (Z.2.1.2 j hj).2.2⟩ ⟨_, rfl, sh, k⟩
noncomputable def r_fits (X : zX) (dy : Nat) (A O : zV) (N : zN) (a o : Int32) : Int32 := r_if (isA A.1 a ∧ isA O.1 o) (r_if (zFit X dy A O N (tL X.1 X.2.1 X.2.2 dy 4) a.toNatClampNeg o.toNatClampNeg) 1 0) (-1)
theorem c_fits {h : mm_H} {Q : Option Value → mm_H → Prop} {own cap : Nat → Nat} {T : zT} {X : zX} {dy W : Nat} {ft : Int32} {F : zF} {A O : zV} {N : zN} {C : zC} {H : zH} (sh : s_h h) (K : CS h own cap T X dy ft F A O N C H) (Z : zP W cap F A O N H) (a o : Int32) (k : ∀ h', fx h h' gS aS → dn h h' → Q (some (.int (r_fits X dy A O N a o))) h') : w_c 4 76 [.ref 16, .int a, .int o] h Q := by
  replace k := k h (fx.rf _ _ _) (dn.rf _)
  have z2 := Z.2.1.1
  have z4 := Z.2.2.1.1
  have cd : cD h dy := K.2.2.1
  have hd := cd.1
  unfold r_fits at k
  refine t_X8_fits_0 sh _ _ ((c_has31 sh K.2.2.2.2.2.1 z2 a (fun c => ⟨_, rfl, sh, fun _ => ?_, fun z => absurd rfl z⟩) (fun j e hj => ⟨_, rfl, sh, fun z => absurd z (by decide), fun _ => (c_has35 sh K.2.2.2.2.2.2.1 z4 o (fun c => ⟨_, rfl, sh, fun z => absurd rfl z, fun _ => ?_⟩) (fun j2 e2 hj2 => ⟨_, rfl, sh, fun _ => ?_, fun z => absurd z (by decide)⟩)).up (by decide)⟩)).up (by decide))
  · rw [r_if_f (fun z => c z.1)] at k; exact k
  · rw [r_if_f (fun z => c z.2)] at k; exact k
  · subst e
    subst e2
    rw [r_if_t ⟨⟨j, rfl, hj⟩, ⟨j2, rfl, hj2⟩⟩, i_cl (by omega), i_cl (by omega)] at k
    rw [cd.2]
    refine (sp_lawC sh K.2.1 (d := dy) (k := 4) (by omega) (by decide) ⟨_, rfl, sh, ?_⟩)
    refine c_fit sh K Z hj hj2 (fun c => ⟨_, rfl, sh, fun _ => ?_, fun z => absurd rfl z⟩) (fun c => ⟨_, rfl, sh, fun z => absurd z (by decide), fun _ => ?_⟩)
    · rw [r_if_f c] at k; exact k
    · rw [r_if_t c] at k; exact k
theorem m_fits {h : mm_H} {Q : Option Value → mm_H → Prop} {cap : Nat → Nat} {T : zT} {X : zX} {dy cl W : Nat} {ft : Int32} {F : zF} {A O : zV} {N : zN} {C : zC} {H : zH} (sh : s_h h) (K : MS h cl T X dy ft F A O N C H) (Z : zP W cap F A O N H) (a o : Int32) (k : ∀ h', fx h h' gSm aSm → dn h h' → Q (some (.int (r_fits X dy A O N a o))) h') : w_c 4 135 [.ref 44, .int a, .int o] h Q := by
  replace k := k h (fx.rf _ _ _) (dn.rf _)
  have z2 := Z.2.1.1
  have z4 := Z.2.2.1.1
  have md := K.d
  have hd := md.1
  unfold r_fits at k
  refine t_X9_fits_0 sh _ _ ?_
  rw [show h_oi h 600 44 = nI A.1 from K.2.2.2.2.1.1, show h_oi h 604 44 = nI O.1 from K.2.2.2.2.2.1.1, in_isA (by omega), in_isA (by omega)]
  refine ⟨fun c => by rw [r_if_f (fun z => c z.1)] at k; exact k, fun c => ⟨fun c2 => ?_, fun c2 => by rw [r_if_f (fun z => c2 z.2)] at k; exact k⟩⟩
  have c := Classical.not_not.mp c
  have c2 := Classical.not_not.mp c2
  rw [r_if_t ⟨c, c2⟩] at k
  obtain ⟨e, hj⟩ := c.j (by omega)
  obtain ⟨e2, hj2⟩ := c2.j (by omega)
  generalize a.toNatClampNeg = j at e hj k
  generalize o.toNatClampNeg = j2 at e2 hj2 k
  subst e
  subst e2
  rw [md.2]
  refine (sp_lawM sh K.2.1 (d := dy) (k := 4) (by omega) (by decide) ⟨_, rfl, sh, ?_⟩)
  refine m_fit sh K Z hj hj2 (fun c => ⟨_, rfl, sh, fun _ => ?_, fun z => absurd rfl z⟩) (fun c => ⟨_, rfl, sh, fun z => absurd z (by decide), fun _ => ?_⟩)
  · rw [r_if_f c] at k; exact k
  · rw [r_if_t c] at k; exact k
noncomputable def r_met (X : zX) (dy : Nat) (A O : zV) (N : zN) : Int32 := nI (mA (zDf X dy A O N) A.1 O.1)
theorem c_met {h : mm_H} {Q : Option Value → mm_H → Prop} {own cap : Nat → Nat} {T : zT} {X : zX} {dy W : Nat} {ft : Int32} {F : zF} {A O : zV} {N : zN} {C : zC} {H : zH} (sh : s_h h) (K : CS h own cap T X dy ft F A O N C H) (Z : zP W cap F A O N H) (k : ∀ h', fx h h' gS aS → dn h h' → Q (some (.int (r_met X dy A O N))) h') : w_c 15 77 [.ref 16] h Q := by
  have cd : cD h dy := K.2.2.1
  have hd := cd.1
  refine t_X8_met_0 sh ?_
  rw [cd.2]
  refine (sp_lawC sh K.2.1 (d := dy) (k := 4) (by omega) (by decide) ⟨_, rfl, sh, ?_⟩)
  exact c_mostP sh K Z (fun h1 f d => ⟨_, rfl, f.sh sh (by decide), k h1 f d⟩)
theorem m_met {h : mm_H} {Q : Option Value → mm_H → Prop} {cap : Nat → Nat} {T : zT} {X : zX} {dy cl W : Nat} {ft : Int32} {F : zF} {A O : zV} {N : zN} {C : zC} {H : zH} (sh : s_h h) (K : MS h cl T X dy ft F A O N C H) (Z : zP W cap F A O N H) (k : ∀ h', fx h h' gSm aSm → dn h h' → Q (some (.int (r_met X dy A O N))) h') : w_c 6 141 [.ref 44] h Q := by
  refine t_X9_met_0 sh (m_matches sh K Z (fun h1 f d _ _ _ => ⟨_, rfl, f.sh sh (by decide), k h1 (f.wk (by decide) (by decide)) d⟩))
noncomputable def r_sitter (X : zX) (dy : Nat) (A O : zV) (N : zN) (a : Int32) : Int32 := r_if (isA A.1 a) (oN (mg (zDf X dy A O N) A.1 O.1 a.toNatClampNeg)) (-1)
theorem c_sitter {h : mm_H} {Q : Option Value → mm_H → Prop} {own cap : Nat → Nat} {T : zT} {X : zX} {dy W : Nat} {ft : Int32} {F : zF} {A O : zV} {N : zN} {C : zC} {H : zH} (sh : s_h h) (K : CS h own cap T X dy ft F A O N C H) (Z : zP W cap F A O N H) (a : Int32) (k : ∀ h', fx h h' gS aS → dn h h' → Q (some (.int (r_sitter X dy A O N a))) h') : w_c 16 78 [.ref 16, .int a] h Q := by
  have z2 := Z.2.1.1
  unfold r_sitter at k
  refine t_X8_sitter_0 sh _ ((c_has31 sh K.2.2.2.2.2.1 z2 a (fun c => ⟨_, rfl, sh, fun z => absurd rfl z, fun _ => ?_⟩) (fun j e hj => ⟨_, rfl, sh, fun _ => ?_, fun z => absurd z (by decide)⟩)).up (by decide))
  · rw [r_if_f c] at k; exact k h (fx.rf _ _ _) (dn.rf _)
  · subst e
    rw [r_if_t ⟨j, rfl, hj⟩, i_cl (by omega)] at k
    refine c_findM sh K Z (fun h1 f d M _ G => ⟨rfl, f.sh sh (by decide), ?_⟩)
    exact (c_offerOf (f.sh sh (by decide)) M G hj ⟨_, rfl, f.sh sh (by decide), k h1 f d⟩).up (by decide)
theorem m_sitter {h : mm_H} {Q : Option Value → mm_H → Prop} {cap : Nat → Nat} {T : zT} {X : zX} {dy cl W : Nat} {ft : Int32} {F : zF} {A O : zV} {N : zN} {C : zC} {H : zH} (sh : s_h h) (K : MS h cl T X dy ft F A O N C H) (Z : zP W cap F A O N H) (a : Int32) (k : ∀ h', fx h h' gSm aSm → dn h h' → Q (some (.int (r_sitter X dy A O N a))) h') : w_c 6 142 [.ref 44, .int a] h Q := by
  have z2 := Z.2.1.1
  refine t_X9_sitter_0 sh _ ?_
  rw [show h_oi h 600 44 = nI A.1 from K.2.2.2.2.1.1, in_isA (by omega)]
  unfold r_sitter at k
  refine ⟨fun c => ?_, fun c => by rw [r_if_f c] at k; exact k h (fx.rf _ _ _) (dn.rf _)⟩
  have c := Classical.not_not.mp c
  rw [r_if_t c] at k
  obtain ⟨e, hj⟩ := c.j (by omega)
  refine m_matches sh K Z (fun h1 f d _ _ G => ⟨_, rfl, f.sh sh (by decide), ?_, ?_⟩)
  · rw [e]; exact vp_in_nI (by omega) (by decide)
  · rw [G _ hj]; exact k h1 (f.wk (by decide) (by decide)) d
theorem rB_ex (P : Nat → Prop) : ∃ x, (∃ y, rB y P) → rB x P := by
  by_cases h : ∃ y, rB y P
  · obtain ⟨y, hy⟩ := h
    exact ⟨y, fun _ => hy⟩
  · exact ⟨0, fun z => absurd z h⟩
noncomputable def rV (P : Nat → Prop) : Int32 := Classical.choose (rB_ex P)
theorem rV_eq {P : Nat → Prop} {x : Int32} (h : rB x P) : x = rV P := rB_one h (Classical.choose_spec (rB_ex P) ⟨x, h⟩)
noncomputable def r_why (X : zX) (dy : Nat) (A O : zV) (N : zN) (what : Int32) : Int32 := r_if (what = 0) (rV (fun i => i < A.1 ∧ ¬ (rch (zDf X dy A O N) (mg (zDf X dy A O N) A.1 O.1) A.1 O.1 (A.1 + 1)).1 i)) (r_if (what = 1) (rV (rch (zDf X dy A O N) (mg (zDf X dy A O N) A.1 O.1) A.1 O.1 (A.1 + 1)).2) (-1))
theorem c_why {h : mm_H} {Q : Option Value → mm_H → Prop} {own cap : Nat → Nat} {T : zT} {X : zX} {dy W : Nat} {ft : Int32} {F : zF} {A O : zV} {N : zN} {C : zC} {H : zH} (sh : s_h h) (K : CS h own cap T X dy ft F A O N C H) (Z : zP W cap F A O N H) (what : Int32) (k : ∀ h', fx h h' gS aS → dn h h' → Q (some (.int (r_why X dy A O N what))) h') : w_c 16 79 [.ref 16, .int what] h Q := by
  unfold r_why at k
  have core : (what = 0 ∨ what = 1) → ∀ (Q2 : Option Value → mm_H → Prop), (∀ h3, fx h h3 gS aS → dn h h3 → cM h3 A.1 O.1 (zDf X dy A O N) → rB (h_oi h3 134 39) (rch (zDf X dy A O N) (mg (zDf X dy A O N) A.1 O.1) A.1 O.1 (A.1 + 1)).1 → rB (h_oi h3 135 39) (rch (zDf X dy A O N) (mg (zDf X dy A O N) A.1 O.1) A.1 O.1 (A.1 + 1)).2 → Q2 none h3) → w_c 15 96 [.ref 16] h (fun r h2 => r = none ∧ s_h h2 ∧ w_c 1 21 [.ref 39] h2 Q2) := by
    intro _ Q2 kk
    refine c_findM sh K Z (fun h1 f d M Mz G => ⟨rfl, f.sh sh (by decide), ?_⟩)
    have sh1 := f.sh sh (by decide)
    exact c_reach sh1 M Mz G (fun k o e => mg_lt e) (fun h2 f2 d2 q1 q2 => kk h2 (f.tr f2 (by decide) (by decide) (by decide) (by decide)) (d.tr d2) (M.fx f2 (by decide) (by decide) (by decide)) q1 q2)
  refine t_X8_why_0 sh _ ⟨fun c => core (Or.inl c) _ (fun h3 f d M q1 q2 => ⟨rfl, f.sh sh (by decide), fun z => absurd c z, fun _ => ?_⟩), fun c => ⟨fun c2 => core (Or.inr c2) _ (fun h3 f d M q1 q2 => ⟨rfl, f.sh sh (by decide), fun _ => ?_, fun z => absurd z c⟩), fun c2 => ?_⟩⟩
  · rw [r_if_t c] at k
    refine c_notReached (f.sh sh (by decide)) M q1 (fun x hx => ⟨_, rfl, f.sh sh (by decide), ?_⟩)
    rw [rV_eq hx]
    exact k h3 f d
  · rw [r_if_f c, r_if_t c2] at k
    rw [rV_eq q2]
    exact k h3 f d
  · rw [r_if_f c, r_if_f c2] at k
    exact k h (fx.rf _ _ _) (dn.rf _)
theorem m_why {h : mm_H} {Q : Option Value → mm_H → Prop} {cap : Nat → Nat} {T : zT} {X : zX} {dy cl W : Nat} {ft : Int32} {F : zF} {A O : zV} {N : zN} {C : zC} {H : zH} (sh : s_h h) (K : MS h cl T X dy ft F A O N C H) (Z : zP W cap F A O N H) (what : Int32) (k : ∀ h', fx h h' gSm aSm → dn h h' → Q (some (.int (r_why X dy A O N what))) h') : w_c 6 143 [.ref 44, .int what] h Q := by
  unfold r_why at k
  refine t_X9_why_0 (D := 5) sh _ (K24 := fun y1 y2 y3 y4 hh => y1 = what ∧ y2 = 0 ∧ y3 = 0 ∧ y4 = nI 0 ∧ (what = 0 ∨ what = 1) ∧ fx h hh [] [61, 62, 63, 64, 65, 66] ∧ dn h hh ∧ mC hh A.1 O.1 ∧ mF hh A.1 O.1 (zDf X dy A O N) ∧ mGm hh A.1 (mg (zDf X dy A O N) A.1 O.1)) (fun y1 y2 y3 y4 hh z => ?_) ⟨fun c => ?_, fun c => ?_⟩
  · obtain ⟨rfl, rfl, rfl, rfl, h01, f, d, M1, M2, M3⟩ := z
    refine m_whyL (f.sh sh (by decide)) M1 M2 M3 (fun k o e => mg_lt e) (fun c x hx => ?_) (fun c x hx => ?_)
    · have c0 : y1 = 0 := h01.resolve_right c
      rw [r_if_t c0] at k
      rw [rV_eq hx]
      exact k hh (f.wk (by decide) (by decide)) d
    · have c0 : ¬ y1 = 0 := fun z => by rw [z] at c; exact absurd c (by decide)
      rw [r_if_f c0, r_if_t c] at k
      rw [rV_eq hx]
      exact k hh (f.wk (by decide) (by decide)) d
  · have c := (f_in_nz (by decide) (by decide)).mp c
    obtain ⟨j, hj, rfl⟩ := nat_of (le0.mp c.1)
    have c2 := (i_le hj (by decide)).mp c.2
    have h01 : nI j = 0 ∨ nI j = 1 := by
      have : j = 0 ∨ j = 1 := by omega
      rcases this with rfl | rfl
      · exact Or.inl rfl
      · exact Or.inr rfl
    exact m_matches sh K Z (fun h1 f d M1 M2 M3 => ⟨_, rfl, f.sh sh (by decide), rfl, rfl, rfl, rfl, h01, f, d, M1, M2, M3⟩)
  · have n0 : ∀ j : Nat, j ≤ 1 → what ≠ nI j := fun j hj e => by
      refine ((f_in_nz (v := what) (a := 0) (b := 1) (by decide) (by decide)).mpr ?_) c
      rw [e]
      exact ⟨(i_le (by decide) (by omega)).mpr (by omega), (i_le (by omega) (by decide)).mpr hj⟩
    rw [r_if_f (show ¬ what = 0 from n0 0 (by decide)), r_if_f (show ¬ what = 1 from n0 1 (by decide))] at k
    exact k h (fx.rf _ _ _) (dn.rf _)
noncomputable def r_would (X : zX) (dy : Nat) (A O : zV) (N : zN) (n : Int32) : Int32 := r_if (0 ≤ n ∧ n ≤ 1000) (nI (mA (a_fit X dy A O N n) A.1 O.1)) (-1)
theorem c_would {h : mm_H} {Q : Option Value → mm_H → Prop} {own cap : Nat → Nat} {T : zT} {X : zX} {dy W : Nat} {ft : Int32} {F : zF} {A O : zV} {N : zN} {C : zC} {H : zH} (sh : s_h h) (K : CS h own cap T X dy ft F A O N C H) (Z : zP W cap F A O N H) (n : Int32) (k : ∀ h', fx h h' gS aS → dn h h' → Q (some (.int (r_would X dy A O N n))) h') : w_c 15 80 [.ref 16, .int n] h Q := by
  unfold r_would at k
  refine t_X8_would_0 sh _ ⟨fun c => ?_, fun c => ⟨fun c2 => ?_, fun c2 => ?_⟩⟩
  · rw [r_if_f (fun z => le0.mp z.1 c)] at k; exact k h (fx.rf _ _ _) (dn.rf _)
  · rw [r_if_t ⟨le0.mpr c, c2⟩] at k
    exact c_mostP sh K Z (fun h1 f d => ⟨_, rfl, f.sh sh (by decide), k h1 f d⟩)
  · rw [r_if_f (fun z => c2 z.2)] at k; exact k h (fx.rf _ _ _) (dn.rf _)
theorem m_would {h : mm_H} {Q : Option Value → mm_H → Prop} {cap : Nat → Nat} {T : zT} {X : zX} {dy cl W : Nat} {ft : Int32} {F : zF} {A O : zV} {N : zN} {C : zC} {H : zH} (sh : s_h h) (K : MS h cl T X dy ft F A O N C H) (Z : zP W cap F A O N H) (n : Int32) (k : ∀ h', fx h h' gSm aSm → dn h h' → Q (some (.int (r_would X dy A O N n))) h') : w_c 5 144 [.ref 44, .int n] h Q := by
  unfold r_would at k
  have mc : mC h A.1 O.1 := ⟨⟨Z.2.1.1, Z.2.2.1.1⟩, K.2.2.2.2.1.1, K.2.2.2.2.2.1.1⟩
  refine t_X9_would_0 sh _ ⟨fun c => ?_, fun c => ?_⟩
  · have c : 0 ≤ n ∧ n ≤ 1000 := (f_in_nz (by decide) (by decide)).mp c
    rw [r_if_t c] at k
    refine m_find sh K Z (fun h1 f d M => ⟨rfl, f.sh sh (by decide), ?_⟩)
    have sh1 := f.sh sh (by decide)
    exact m_most (first := 0) (F := fun _ => true) sh1 (mc.fx f (by decide) (by decide)) M (Nat.zero_le _) (fun o ho => b_0 o) (fun h2 f2 d2 => ⟨_, rfl, f2.sh sh1 (by decide), k h2 (f.tr f2 (by decide) (by decide) (by decide) (by decide)) (d.tr d2)⟩)
  · have c : ¬ (0 ≤ n ∧ n ≤ 1000) := fun z => ((f_in_nz (v := n) (a := 0) (b := 1000) (by decide) (by decide)).mpr z) c
    rw [r_if_f c] at k; exact k h (fx.rf _ _ _) (dn.rf _)
