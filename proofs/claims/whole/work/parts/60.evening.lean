set_option maxRecDepth 20000 in
theorem t_X8_hold_0 {h : mm_H} {Q : Option Value → mm_H → Prop} (sh : s_h h) (a : Int32) (o : Int32) 
    (F : w_c 0 54 [.ref 35, .int o] h (fun r h1 => ∃ z2 : Int32, r = some (.int z2) ∧ s_h h1 ∧ ((¬ z2 = 0 → w_c 1 55 [.ref 31, .int a] h1 (fun r h4 => ∃ z5 : Int32, r = some (.int z5) ∧ s_h h4 ∧ w_c 0 87 [.ref 16, .int z5] h4 (fun r h6 => ∃ z7 : Option Nat, r = some (va_rf z7) ∧ s_h h6 ∧ w_c 1 55 [.ref 35, .int o] h6 (fun r h8 => ∃ z9 : Int32, r = some (.int z9) ∧ s_h h8 ∧ w_c 0 87 [.ref 16, .int z9] h8 (fun r h10 => ∃ z11 : Option Nat, r = some (va_rf z11) ∧ s_h h10 ∧ w_c 2 92 [.ref 16, .int a] h10 (fun r h12 => ∃ z13 : Int32, r = some (.int z13) ∧ s_h h12 ∧ ((z7 = none → Q (some (.int 0)) h12) ∧ (∀ a15 : Nat, z7 = some a15 → ((z11 = none → Q (some (.int 0)) h12) ∧ (∀ a17 : Nat, z11 = some a17 → (h_kd h12 a15 = 1 ∧ w_c 1 3 [.ref a15, .int z13] h12 (fun r h19 => ∃ z20 : Int32, r = some (.int z20) ∧ s_h h19 ∧ w_c 1 10 [.ref 21, .int (h_oi h19 521 16), .int 4] h19 (fun r h21 => ∃ z22 : Int32, r = some (.int z22) ∧ s_h h21 ∧ ((z20 ≤ z22 → w_c 24 98 [.ref 16, .ref a15, .ref a17, .int z13] h21 (fun r h24 => r = none ∧ s_h h24 ∧ (h_kd h24 a17 = 1 ∧ (h_kd h24 a17 = 1 ∧ (16 ≤ a17 ∧ (h_kd (h_sI h24 3 a17 ((h_oi h24 3 a17) + z13)) a15 = 1 ∧ (h_kd (h_sI h24 3 a17 ((h_oi h24 3 a17) + z13)) a15 = 1 ∧ (16 ≤ a15 ∧ Q (some (.int 1)) (h_sI (h_sI h24 3 a17 ((h_oi h24 3 a17) + z13)) 4 a15 ((h_oi h24 4 a15) + 1)))))))))) ∧ (¬ (z20 ≤ z22) → Q (some (.int 0)) h21))))))))))))))) ∧ (z2 = 0 → Q (some (.int 0)) h1)))) :
    w_c 25 97 [.ref 16, .int a, .int o] h Q := by
  refine w_ci (M := (8, 6, mc_X8_hold)) rfl (Nat.le_of_ble_eq_true rfl) ?_
  show w_p _ _ 0 [(0, .ref 16), (1, .int a), (2, .int o)] [] h Q
  refine w_b 1 1 [(0, .ref 16), (1, .int a), (2, .int o)] [.ref 16] rfl ?_
  refine w_getS (b := 35) rfl rfl rfl (kd_16 sh) (or_517_16 sh) ?_
  refine w_b 1 5 [(0, .ref 16), (1, .int a), (2, .int o)] [.int o, .ref 35] rfl ?_
  refine w_cv (As := [.int o]) (b := 35) (rest := []) rfl rfl rfl (Nat.le_of_ble_eq_true rfl) (kd_35 sh) (fun z => absurd z (by decide)) (dc := 0) (by omega) (F.mono (fun r h1 F => ?_))
  obtain ⟨z2, rfl, sh1, F⟩ := F
  show w_p _ _ 8 [(0, .ref 16), (1, .int a), (2, .int o)] [.int z2] h1 _
  refine w_if_ne (tgt := 13) (x := z2) rfl (by decide) ⟨fun c3 => ?_, fun c3 => ?_⟩
  · have F := F.1 c3
    refine w_b 2 15 [(0, .ref 16), (1, .int a), (2, .int o)] [.ref 16, .ref 16] rfl ?_
    refine w_getS (b := 31) rfl rfl rfl (kd_16 sh1) (or_516_16 sh1) ?_
    refine w_b 1 19 [(0, .ref 16), (1, .int a), (2, .int o)] [.int a, .ref 31, .ref 16] rfl ?_
    refine w_cv (As := [.int a]) (b := 31) (rest := [.ref 16]) rfl rfl rfl (Nat.le_of_ble_eq_true rfl) (kd_31 sh1) (fun z => absurd z (by decide)) (dc := 1) (by omega) (F.mono (fun r h4 F => ?_))
    obtain ⟨z5, rfl, sh4, F⟩ := F
    show w_p _ _ 22 [(0, .ref 16), (1, .int a), (2, .int o)] [.int z5, .ref 16] h4 _
    refine w_cv (As := [.int z5]) (b := 16) (rest := []) rfl rfl rfl (Nat.le_of_ble_eq_true rfl) (kd_16 sh4) (fun z => absurd z (by decide)) (dc := 0) (by omega) (F.mono (fun r h6 F => ?_))
    obtain ⟨z7, rfl, sh6, F⟩ := F
    show w_p _ _ 25 [(0, .ref 16), (1, .int a), (2, .int o)] [va_rf z7] h6 _
    refine w_astN (r := z7) (lo2 := [(3, va_rf z7), (0, .ref 16), (1, .int a), (2, .int o)]) rfl (by decide) rfl ?_
    refine w_b 2 28 [(3, va_rf z7), (0, .ref 16), (1, .int a), (2, .int o)] [.ref 16, .ref 16] rfl ?_
    refine w_getS (b := 35) rfl rfl rfl (kd_16 sh6) (or_517_16 sh6) ?_
    refine w_b 1 32 [(3, va_rf z7), (0, .ref 16), (1, .int a), (2, .int o)] [.int o, .ref 35, .ref 16] rfl ?_
    refine w_cv (As := [.int o]) (b := 35) (rest := [.ref 16]) rfl rfl rfl (Nat.le_of_ble_eq_true rfl) (kd_35 sh6) (fun z => absurd z (by decide)) (dc := 1) (by omega) (F.mono (fun r h8 F => ?_))
    obtain ⟨z9, rfl, sh8, F⟩ := F
    show w_p _ _ 35 [(3, va_rf z7), (0, .ref 16), (1, .int a), (2, .int o)] [.int z9, .ref 16] h8 _
    refine w_cv (As := [.int z9]) (b := 16) (rest := []) rfl rfl rfl (Nat.le_of_ble_eq_true rfl) (kd_16 sh8) (fun z => absurd z (by decide)) (dc := 0) (by omega) (F.mono (fun r h10 F => ?_))
    obtain ⟨z11, rfl, sh10, F⟩ := F
    show w_p _ _ 38 [(3, va_rf z7), (0, .ref 16), (1, .int a), (2, .int o)] [va_rf z11] h10 _
    refine w_astM (r := z11) (lo2 := [(4, va_rf z11), (3, va_rf z7), (0, .ref 16), (1, .int a), (2, .int o)]) rfl (by decide) (by generalize z7 = zz; cases zz <;> rfl) ?_
    refine w_b 2 42 [(4, va_rf z11), (3, va_rf z7), (0, .ref 16), (1, .int a), (2, .int o)] [.int a, .ref 16] rfl ?_
    refine w_cv (As := [.int a]) (b := 16) (rest := []) rfl rfl rfl (Nat.le_of_ble_eq_true rfl) (kd_16 sh10) (fun z => absurd z (by decide)) (dc := 2) (by omega) (F.mono (fun r h12 F => ?_))
    obtain ⟨z13, rfl, sh12, F⟩ := F
    show w_p _ _ 45 [(4, va_rf z11), (3, va_rf z7), (0, .ref 16), (1, .int a), (2, .int o)] [.int z13] h12 _
    refine w_b 1 47 [(5, .int z13), (4, va_rf z11), (3, va_rf z7), (0, .ref 16), (1, .int a), (2, .int o)] [] (by generalize z11 = zz0; cases zz0 <;> rfl) ?_
    refine w_aldN (r := z7) rfl rfl ?_
    refine w_ifnull (tgt := 77) (r := z7) rfl (by decide) ⟨fun c14 => ?_, fun a15 c14 => ?_⟩
    · have F := F.1 c14
      refine w_b 1 78 [(5, .int z13), (4, va_rf z11), (3, va_rf z7), (0, .ref 16), (1, .int a), (2, .int o)] [.int 0] rfl ?_
      exact w_br rfl (by decide) F
    · have F := F.2 a15 c14
      simp only [c14] ; show w_p _ _ 51 [(5, .int z13), (4, va_rf z11), (3, .ref a15), (0, .ref 16), (1, .int a), (2, .int o)] [] h12 _
      refine w_aldM (r := z11) rfl rfl ?_
      refine w_ifnull (tgt := 77) (r := z11) rfl (by decide) ⟨fun c16 => ?_, fun a17 c16 => ?_⟩
      · have F := F.1 c16
        refine w_b 1 78 [(5, .int z13), (4, va_rf z11), (3, .ref a15), (0, .ref 16), (1, .int a), (2, .int o)] [.int 0] rfl ?_
        exact w_br rfl (by decide) F
      · have F := F.2 a17 c16
        simp only [c16] ; show w_p _ _ 56 [(5, .int z13), (4, .ref a17), (3, .ref a15), (0, .ref 16), (1, .int a), (2, .int o)] [] h12 _
        refine w_b 2 59 [(5, .int z13), (4, .ref a17), (3, .ref a15), (0, .ref 16), (1, .int a), (2, .int o)] [.int z13, .ref a15] rfl ?_
        obtain ⟨g18, F⟩ := F
        refine w_cv (As := [.int z13]) (b := a15) (rest := []) rfl rfl rfl (Nat.le_of_ble_eq_true rfl) g18 (fun z => absurd z (by decide)) (dc := 1) (by omega) (F.mono (fun r h19 F => ?_))
        obtain ⟨z20, rfl, sh19, F⟩ := F
        show w_p _ _ 62 [(5, .int z13), (4, .ref a17), (3, .ref a15), (0, .ref 16), (1, .int a), (2, .int o)] [.int z20] h19 _
        refine w_b 1 63 [(5, .int z13), (4, .ref a17), (3, .ref a15), (0, .ref 16), (1, .int a), (2, .int o)] [.ref 16, .int z20] rfl ?_
        refine w_getS (b := 21) rfl rfl rfl (kd_16 sh19) (or_514_16 sh19) ?_
        refine w_b 1 67 [(5, .int z13), (4, .ref a17), (3, .ref a15), (0, .ref 16), (1, .int a), (2, .int o)] [.ref 16, .ref 21, .int z20] rfl ?_
        refine w_get (g := 521) rfl rfl rfl (kd_16 sh19) ?_
        refine w_b 1 71 [(5, .int z13), (4, .ref a17), (3, .ref a15), (0, .ref 16), (1, .int a), (2, .int o)] [.int 4, .int (h_oi h19 521 16), .ref 21, .int z20] rfl ?_
        refine w_cv (As := [.int (h_oi h19 521 16), .int 4]) (b := 21) (rest := [.int z20]) rfl rfl rfl (Nat.le_of_ble_eq_true rfl) (kd_21 sh19) (fun z => absurd z (by decide)) (dc := 1) (by omega) (F.mono (fun r h21 F => ?_))
        obtain ⟨z22, rfl, sh21, F⟩ := F
        show w_p _ _ 74 [(5, .int z13), (4, .ref a17), (3, .ref a15), (0, .ref 16), (1, .int a), (2, .int o)] [.int z22, .int z20] h21 _
        refine w_ic_le (tgt := 79) (x := z20) (y := z22) rfl (by decide) ⟨fun c23 => ?_, fun c23 => ?_⟩
        · have F := F.1 c23
          refine w_b 4 85 [(5, .int z13), (4, .ref a17), (3, .ref a15), (0, .ref 16), (1, .int a), (2, .int o)] [.int z13, .ref a17, .ref a15, .ref 16] rfl ?_
          refine w_cv (As := [.ref a15, .ref a17, .int z13]) (b := 16) (rest := []) rfl rfl rfl (Nat.le_of_ble_eq_true rfl) (kd_16 sh21) (fun z => absurd z (by decide)) (dc := 24) (by omega) (F.mono (fun r h24 F => ?_))
          obtain ⟨rfl, sh24, F⟩ := F
          show w_p _ _ 88 [(5, .int z13), (4, .ref a17), (3, .ref a15), (0, .ref 16), (1, .int a), (2, .int o)] [] h24 _
          refine w_b 2 91 [(5, .int z13), (4, .ref a17), (3, .ref a15), (0, .ref 16), (1, .int a), (2, .int o)] [.ref a17, .ref a17] rfl ?_
          obtain ⟨g25, F⟩ := F
          refine w_get (g := 3) rfl rfl rfl g25 ?_
          refine w_b 2 97 [(5, .int z13), (4, .ref a17), (3, .ref a15), (0, .ref 16), (1, .int a), (2, .int o)] [.int ((h_oi h24 3 a17) + z13), .ref a17] rfl ?_
          obtain ⟨g26, F⟩ := F
          obtain ⟨g27, F⟩ := F
          refine w_put (g := 3) (x := (h_oi h24 3 a17) + z13) rfl rfl rfl g26 g27 ?_
          refine w_b 2 102 [(5, .int z13), (4, .ref a17), (3, .ref a15), (0, .ref 16), (1, .int a), (2, .int o)] [.ref a15, .ref a15] rfl ?_
          obtain ⟨g28, F⟩ := F
          refine w_get (g := 4) rfl rfl rfl g28 ?_
          refine w_b 2 107 [(5, .int z13), (4, .ref a17), (3, .ref a15), (0, .ref 16), (1, .int a), (2, .int o)] [.int ((h_oi h24 4 a15) + 1), .ref a15] rfl ?_
          obtain ⟨g29, F⟩ := F
          obtain ⟨g30, F⟩ := F
          refine w_put (g := 4) (x := (h_oi h24 4 a15) + 1) rfl rfl rfl g29 g30 ?_
          refine w_b 1 111 [(5, .int z13), (4, .ref a17), (3, .ref a15), (0, .ref 16), (1, .int a), (2, .int o)] [.int 1] rfl ?_
          exact w_br rfl (by decide) F
        · have F := F.2 c23
          refine w_b 1 78 [(5, .int z13), (4, .ref a17), (3, .ref a15), (0, .ref 16), (1, .int a), (2, .int o)] [.int 0] rfl ?_
          exact w_br rfl (by decide) F
  · have F := F.2 (Decidable.not_not.mp c3)
    refine w_b 1 12 [(0, .ref 16), (1, .int a), (2, .int o)] [.int 0] rfl ?_
    exact w_br rfl (by decide) F

set_option maxRecDepth 20000 in
theorem t_X8_evening_0 {h : mm_H} {Q : Option Value → mm_H → Prop} (sh : s_h h) {K8 : Int32 → Int32 → mm_H → Prop} (k8 : ∀ (x1 : Int32) (x2 : Int32) (h : mm_H), K8 x1 x2 h → w_p 26 (8, 3, mc_X8_evening) 8 [(0, .ref 16), (1, .int x1), (2, .int x2)] [] h Q) 
    (F : w_c 15 96 [.ref 16] h (fun r h1 => r = none ∧ s_h h1 ∧ K8 0 0 h1)) :
    w_c 26 82 [.ref 16] h Q := by
  refine w_ci (M := (8, 3, mc_X8_evening)) rfl (Nat.le_of_ble_eq_true rfl) ?_
  show w_p _ _ 0 [(0, .ref 16)] [] h Q
  refine w_b 1 1 [(0, .ref 16)] [.ref 16] rfl ?_
  refine w_cv (As := []) (b := 16) (rest := []) rfl rfl rfl (Nat.le_of_ble_eq_true rfl) (kd_16 sh) (fun z => absurd z (by decide)) (dc := 15) (by omega) (F.mono (fun r h1 F => ?_))
  obtain ⟨rfl, sh1, F⟩ := F
  show w_p _ _ 4 [(0, .ref 16)] [] h1 _
  refine w_b 4 8 [(2, .int 0), (1, .int 0), (0, .ref 16)] [] rfl ?_
  refine w_lo [0, 1, 2] [(0, .ref 16), (1, .int 0), (2, .int 0)] rfl rfl ?_
  exact k8 _ _ _ F

set_option maxRecDepth 20000 in
theorem t_X8_evening_8 {h : mm_H} {Q : Option Value → mm_H → Prop} (sh : s_h h) (x1 : Int32) (x2 : Int32) {K8 : Int32 → Int32 → mm_H → Prop} (k8 : ∀ (x1 : Int32) (x2 : Int32) (h : mm_H), K8 x1 x2 h → w_p 26 (8, 3, mc_X8_evening) 8 [(0, .ref 16), (1, .int x1), (2, .int x2)] [] h Q) 
    (F : (((h_oi h 451 31) ≤ x2 → Q (some (.int x1)) (h_sI (h_sI h 451 31 0) 451 35 0)) ∧ (¬ ((h_oi h 451 31) ≤ x2) → w_c 0 14 [.ref 39, .int x2] h (fun r h2 => ∃ z3 : Int32, r = some (.int z3) ∧ s_h h2 ∧ w_c 25 97 [.ref 16, .int x2, .int z3] h2 (fun r h4 => ∃ z5 : Int32, r = some (.int z5) ∧ s_h h4 ∧ ((z5 = 0 → K8 x1 (x2 + 1) h4) ∧ (¬ (z5 = 0) → K8 (x1 + 1) (x2 + 1) h4))))))) :
    w_p 26 (8, 3, mc_X8_evening) 8 [(0, .ref 16), (1, .int x1), (2, .int x2)] [] h Q := by
  refine w_b 2 10 [(0, .ref 16), (1, .int x1), (2, .int x2)] [.ref 16, .int x2] rfl ?_
  refine w_getS (b := 31) rfl rfl rfl (kd_16 sh) (or_516_16 sh) ?_
  refine w_get (g := 451) rfl rfl rfl (kd_31 sh) ?_
  refine w_ic_ge (tgt := 44) (x := x2) (y := h_oi h 451 31) rfl (by decide) ⟨fun c1 => ?_, fun c1 => ?_⟩
  · have F := F.1 c1
    refine w_b 1 45 [(0, .ref 16), (1, .int x1), (2, .int x2)] [.ref 16] rfl ?_
    refine w_getS (b := 31) rfl rfl rfl (kd_16 sh) (or_516_16 sh) ?_
    refine w_b 1 49 [(0, .ref 16), (1, .int x1), (2, .int x2)] [.int 0, .ref 31] rfl ?_
    refine w_put (g := 451) (x := 0) rfl rfl rfl (kd_31 sh) (by decide) ?_
    refine w_b 1 53 [(0, .ref 16), (1, .int x1), (2, .int x2)] [.ref 16] rfl ?_
    refine w_getS (b := 35) rfl rfl rfl (kd_16 sh) (or_517_16 sh) ?_
    refine w_b 1 57 [(0, .ref 16), (1, .int x1), (2, .int x2)] [.int 0, .ref 35] rfl ?_
    refine w_put (g := 451) (x := 0) rfl rfl rfl (kd_35 sh) (by decide) ?_
    refine w_b 1 61 [(0, .ref 16), (1, .int x1), (2, .int x2)] [.int x1] rfl ?_
    exact w_ir rfl F
  · have F := F.2 c1
    refine w_b 3 22 [(0, .ref 16), (1, .int x1), (2, .int x2)] [.ref 16, .int x2, .ref 16] rfl ?_
    refine w_getS (b := 39) rfl rfl rfl (kd_16 sh) (or_518_16 sh) ?_
    refine w_b 1 26 [(0, .ref 16), (1, .int x1), (2, .int x2)] [.int x2, .ref 39, .int x2, .ref 16] rfl ?_
    refine w_cv (As := [.int x2]) (b := 39) (rest := [.int x2, .ref 16]) rfl rfl rfl (Nat.le_of_ble_eq_true rfl) (kd_39 sh) (fun z => absurd z (by decide)) (dc := 0) (by omega) (F.mono (fun r h2 F => ?_))
    obtain ⟨z3, rfl, sh2, F⟩ := F
    show w_p _ _ 29 [(0, .ref 16), (1, .int x1), (2, .int x2)] [.int z3, .int x2, .ref 16] h2 _
    refine w_cv (As := [.int x2, .int z3]) (b := 16) (rest := []) rfl rfl rfl (Nat.le_of_ble_eq_true rfl) (kd_16 sh2) (fun z => absurd z (by decide)) (dc := 25) (by omega) (F.mono (fun r h4 F => ?_))
    obtain ⟨z5, rfl, sh4, F⟩ := F
    show w_p _ _ 32 [(0, .ref 16), (1, .int x1), (2, .int x2)] [.int z5] h4 _
    refine w_if_eq (tgt := 38) (x := z5) rfl (by decide) ⟨fun c6 => ?_, fun c6 => ?_⟩
    · have F := F.1 c6
      refine w_b 2 8 [(2, .int (x2 + 1)), (0, .ref 16), (1, .int x1)] [] rfl ?_
      refine w_lo [0, 1, 2] [(0, .ref 16), (1, .int x1), (2, .int (x2 + 1))] rfl rfl ?_
      exact k8 _ _ _ F
    · have F := F.2 c6
      refine w_b 3 8 [(2, .int (x2 + 1)), (1, .int (x1 + 1)), (0, .ref 16)] [] rfl ?_
      refine w_lo [0, 1, 2] [(0, .ref 16), (1, .int (x1 + 1)), (2, .int (x2 + 1))] rfl rfl ?_
      exact k8 _ _ _ F

set_option maxRecDepth 20000 in
theorem t_X9_evening_0 {h : mm_H} {Q : Option Value → mm_H → Prop} (sh : s_h h) {K19 : Int32 → Int32 → Int32 → mm_H → Prop} (k19 : ∀ (x1 : Int32) (x2 : Int32) (x3 : Int32) (h : mm_H), K19 x1 x2 x3 h → w_p 6 (9, 6, mc_X9_evening) 19 [(0, .ref 44), (1, .int x1), (2, .int x2), (3, .int x3)] [] h Q) 
    (F : w_c 5 140 [.ref 44] h (fun r h1 => ∃ z2 : Int32, r = some (.int z2) ∧ s_h h1 ∧ w_c 1 116 [.ref 44, .int (h_oi h1 588 44), .int 4] h1 (fun r h3 => ∃ z4 : Int32, r = some (.int z4) ∧ s_h h3 ∧ K19 0 z4 0 h3))) :
    w_c 6 146 [.ref 44] h Q := by
  refine w_ci (M := (9, 6, mc_X9_evening)) rfl (Nat.le_of_ble_eq_true rfl) ?_
  show w_p _ _ 0 [(0, .ref 44)] [] h Q
  refine w_b 1 1 [(0, .ref 44)] [.ref 44] rfl ?_
  refine w_cv (As := []) (b := 44) (rest := []) rfl rfl rfl (Nat.le_of_ble_eq_true rfl) (kd_44 sh) (fun z => absurd z (by decide)) (dc := 5) (by omega) (F.mono (fun r h1 F => ?_))
  obtain ⟨z2, rfl, sh1, F⟩ := F
  show w_p _ _ 4 [(0, .ref 44)] [.int z2] h1 _
  refine w_b 5 9 [(1, .int 0), (0, .ref 44)] [.ref 44, .ref 44] rfl ?_
  refine w_get (g := 588) rfl rfl rfl (kd_44 sh1) ?_
  refine w_b 1 13 [(1, .int 0), (0, .ref 44)] [.int 4, .int (h_oi h1 588 44), .ref 44] rfl ?_
  refine w_cv (As := [.int (h_oi h1 588 44), .int 4]) (b := 44) (rest := []) rfl rfl rfl (Nat.le_of_ble_eq_true rfl) (kd_44 sh1) (fun z => absurd z (by decide)) (dc := 1) (by omega) (F.mono (fun r h3 F => ?_))
  obtain ⟨z4, rfl, sh3, F⟩ := F
  show w_p _ _ 16 [(1, .int 0), (0, .ref 44)] [.int z4] h3 _
  refine w_b 3 19 [(3, .int 0), (2, .int z4), (1, .int 0), (0, .ref 44)] [] rfl ?_
  refine w_lo [0, 1, 2, 3] [(0, .ref 44), (1, .int 0), (2, .int z4), (3, .int 0)] rfl rfl ?_
  exact k19 _ _ _ _ F

set_option maxRecDepth 20000 in
theorem t_X9_evening_19 {h : mm_H} {Q : Option Value → mm_H → Prop} (sh : s_h h) (x1 : Int32) (x2 : Int32) (x3 : Int32) {K19 : Int32 → Int32 → Int32 → mm_H → Prop} (k19 : ∀ (x1 : Int32) (x2 : Int32) (x3 : Int32) (h : mm_H), K19 x1 x2 x3 h → w_p 6 (9, 6, mc_X9_evening) 19 [(0, .ref 44), (1, .int x1), (2, .int x2), (3, .int x3)] [] h Q) 
    (F : (((h_oi h 600 44) ≤ x3 → Q (some (.int x1)) (h_sI (h_sI h 600 44 0) 604 44 0)) ∧ (¬ ((h_oi h 600 44) ≤ x3) → w_c 2 132 [.ref 44, .int x3] h (fun r h2 => ∃ z3 : Int32, r = some (.int z3) ∧ s_h h2 ∧ (vp_in x3 10 ∧ (((h_ai h2 66 x3.toNatClampNeg) = (-4) → K19 x1 x2 (x3 + 1) h2) ∧ (¬ ((h_ai h2 66 x3.toNatClampNeg) = (-4)) → (vp_in x3 10 ∧ w_c 1 127 [.ref 44, .int (h_ai h2 55 x3.toNatClampNeg), .int z3, .int x2] h2 (fun r h7 => ∃ z8 : Int32, r = some (.int z8) ∧ s_h h7 ∧ ((z8 = 0 → K19 x1 x2 (x3 + 1) h7) ∧ (¬ (z8 = 0) → (vp_in x3 10 ∧ (vp_in (h_ai h7 66 x3.toNatClampNeg) 10 ∧ (vp_in x3 10 ∧ w_c 0 128 [.ref 44, .int (h_ai h7 55 x3.toNatClampNeg), .int (h_ai h7 58 (h_ai h7 66 x3.toNatClampNeg).toNatClampNeg), .int z3] h7 (fun r h13 => r = none ∧ s_h h13 ∧ (vp_in (h_ai h7 58 (h_ai h7 66 x3.toNatClampNeg).toNatClampNeg) 12 ∧ (vp_in (h_ai h7 58 (h_ai h7 66 x3.toNatClampNeg).toNatClampNeg) 12 ∧ (vp_in x3 10 ∧ (vp_in (h_ai h13 55 x3.toNatClampNeg) 12 ∧ (vp_in (h_ai h13 55 x3.toNatClampNeg) 12 ∧ K19 (x1 + 1) x2 (x3 + 1) (h_sA (h_sA h13 51 ((h_ai h7 58 (h_ai h7 66 x3.toNatClampNeg).toNatClampNeg).toNatClampNeg) ((h_ai h13 51 (h_ai h7 58 (h_ai h7 66 x3.toNatClampNeg).toNatClampNeg).toNatClampNeg) + z3)) 52 ((h_ai h13 55 x3.toNatClampNeg).toNatClampNeg) ((h_ai h13 52 (h_ai h13 55 x3.toNatClampNeg).toNatClampNeg) + 1)))))))))))))))))))))) :
    w_p 6 (9, 6, mc_X9_evening) 19 [(0, .ref 44), (1, .int x1), (2, .int x2), (3, .int x3)] [] h Q := by
  refine w_b 2 21 [(0, .ref 44), (1, .int x1), (2, .int x2), (3, .int x3)] [.ref 44, .int x3] rfl ?_
  refine w_get (g := 600) rfl rfl rfl (kd_44 sh) ?_
  refine w_ic_ge (tgt := 124) (x := x3) (y := h_oi h 600 44) rfl (by decide) ⟨fun c1 => ?_, fun c1 => ?_⟩
  · have F := F.1 c1
    refine w_b 2 126 [(0, .ref 44), (1, .int x1), (2, .int x2), (3, .int x3)] [.int 0, .ref 44] rfl ?_
    refine w_put (g := 600) (x := 0) rfl rfl rfl (kd_44 sh) (by decide) ?_
    refine w_b 2 131 [(0, .ref 44), (1, .int x1), (2, .int x2), (3, .int x3)] [.int 0, .ref 44] rfl ?_
    refine w_put (g := 604) (x := 0) rfl rfl rfl (kd_44 sh) (by decide) ?_
    refine w_b 1 135 [(0, .ref 44), (1, .int x1), (2, .int x2), (3, .int x3)] [.int x1] rfl ?_
    exact w_ir rfl F
  · have F := F.2 c1
    refine w_b 2 29 [(0, .ref 44), (1, .int x1), (2, .int x2), (3, .int x3)] [.int x3, .ref 44] rfl ?_
    refine w_cv (As := [.int x3]) (b := 44) (rest := []) rfl rfl rfl (Nat.le_of_ble_eq_true rfl) (kd_44 sh) (fun z => absurd z (by decide)) (dc := 2) (by omega) (F.mono (fun r h2 F => ?_))
    obtain ⟨z3, rfl, sh2, F⟩ := F
    show w_p _ _ 32 [(0, .ref 44), (1, .int x1), (2, .int x2), (3, .int x3)] [.int z3] h2 _
    refine w_b 2 35 [(4, .int z3), (0, .ref 44), (1, .int x1), (2, .int x2), (3, .int x3)] [.ref 44] rfl ?_
    refine w_getS (b := 66) rfl rfl rfl (kd_44 sh2) (or_613_44 sh2) ?_
    refine w_b 1 39 [(4, .int z3), (0, .ref 44), (1, .int x1), (2, .int x2), (3, .int x3)] [.int x3, .ref 66] rfl ?_
    obtain ⟨g4, F⟩ := F
    refine w_iald rfl (kd_66 sh2) (by rw [show h_al h2 66 = 10 from (al_66 sh2)]; exact g4) ?_
    refine w_b 1 42 [(4, .int z3), (0, .ref 44), (1, .int x1), (2, .int x2), (3, .int x3)] [.int (-4), .int (h_ai h2 66 x3.toNatClampNeg)] rfl ?_
    refine w_ic_eq (tgt := 118) (x := h_ai h2 66 x3.toNatClampNeg) (y := (-4)) rfl (by decide) ⟨fun c5 => ?_, fun c5 => ?_⟩
    · have F := F.1 c5
      refine w_b 2 19 [(3, .int (x3 + 1)), (4, .int z3), (0, .ref 44), (1, .int x1), (2, .int x2)] [] rfl ?_
      refine w_lo [0, 1, 2, 3] [(0, .ref 44), (1, .int x1), (2, .int x2), (3, .int (x3 + 1))] rfl rfl ?_
      exact k19 _ _ _ _ F
    · have F := F.2 c5
      refine w_b 2 47 [(4, .int z3), (0, .ref 44), (1, .int x1), (2, .int x2), (3, .int x3)] [.ref 44, .ref 44] rfl ?_
      refine w_getS (b := 55) rfl rfl rfl (kd_44 sh2) (or_601_44 sh2) ?_
      refine w_b 1 51 [(4, .int z3), (0, .ref 44), (1, .int x1), (2, .int x2), (3, .int x3)] [.int x3, .ref 55, .ref 44] rfl ?_
      obtain ⟨g6, F⟩ := F
      refine w_iald rfl (kd_55 sh2) (by rw [show h_al h2 55 = 10 from (al_55 sh2)]; exact g6) ?_
      refine w_b 2 55 [(4, .int z3), (0, .ref 44), (1, .int x1), (2, .int x2), (3, .int x3)] [.int x2, .int z3, .int (h_ai h2 55 x3.toNatClampNeg), .ref 44] rfl ?_
      refine w_cv (As := [.int (h_ai h2 55 x3.toNatClampNeg), .int z3, .int x2]) (b := 44) (rest := []) rfl rfl rfl (Nat.le_of_ble_eq_true rfl) (kd_44 sh2) (fun z => absurd z (by decide)) (dc := 1) (by omega) (F.mono (fun r h7 F => ?_))
      obtain ⟨z8, rfl, sh7, F⟩ := F
      show w_p _ _ 58 [(4, .int z3), (0, .ref 44), (1, .int x1), (2, .int x2), (3, .int x3)] [.int z8] h7 _
      refine w_if_eq (tgt := 118) (x := z8) rfl (by decide) ⟨fun c9 => ?_, fun c9 => ?_⟩
      · have F := F.1 c9
        refine w_b 2 19 [(3, .int (x3 + 1)), (4, .int z3), (0, .ref 44), (1, .int x1), (2, .int x2)] [] rfl ?_
        refine w_lo [0, 1, 2, 3] [(0, .ref 44), (1, .int x1), (2, .int x2), (3, .int (x3 + 1))] rfl rfl ?_
        exact k19 _ _ _ _ F
      · have F := F.2 c9
        refine w_b 1 62 [(4, .int z3), (0, .ref 44), (1, .int x1), (2, .int x2), (3, .int x3)] [.ref 44] rfl ?_
        refine w_getS (b := 58) rfl rfl rfl (kd_44 sh7) (or_605_44 sh7) ?_
        refine w_b 1 66 [(4, .int z3), (0, .ref 44), (1, .int x1), (2, .int x2), (3, .int x3)] [.ref 44, .ref 58] rfl ?_
        refine w_getS (b := 66) rfl rfl rfl (kd_44 sh7) (or_613_44 sh7) ?_
        refine w_b 1 70 [(4, .int z3), (0, .ref 44), (1, .int x1), (2, .int x2), (3, .int x3)] [.int x3, .ref 66, .ref 58] rfl ?_
        obtain ⟨g10, F⟩ := F
        refine w_iald rfl (kd_66 sh7) (by rw [show h_al h7 66 = 10 from (al_66 sh7)]; exact g10) ?_
        obtain ⟨g11, F⟩ := F
        refine w_iald rfl (kd_58 sh7) (by rw [show h_al h7 58 = 10 from (al_58 sh7)]; exact g11) ?_
        refine w_b 3 76 [(5, .int (h_ai h7 58 (h_ai h7 66 x3.toNatClampNeg).toNatClampNeg)), (4, .int z3), (0, .ref 44), (1, .int x1), (2, .int x2), (3, .int x3)] [.ref 44, .ref 44] rfl ?_
        refine w_getS (b := 55) rfl rfl rfl (kd_44 sh7) (or_601_44 sh7) ?_
        refine w_b 1 80 [(5, .int (h_ai h7 58 (h_ai h7 66 x3.toNatClampNeg).toNatClampNeg)), (4, .int z3), (0, .ref 44), (1, .int x1), (2, .int x2), (3, .int x3)] [.int x3, .ref 55, .ref 44] rfl ?_
        obtain ⟨g12, F⟩ := F
        refine w_iald rfl (kd_55 sh7) (by rw [show h_al h7 55 = 10 from (al_55 sh7)]; exact g12) ?_
        refine w_b 2 85 [(5, .int (h_ai h7 58 (h_ai h7 66 x3.toNatClampNeg).toNatClampNeg)), (4, .int z3), (0, .ref 44), (1, .int x1), (2, .int x2), (3, .int x3)] [.int z3, .int (h_ai h7 58 (h_ai h7 66 x3.toNatClampNeg).toNatClampNeg), .int (h_ai h7 55 x3.toNatClampNeg), .ref 44] rfl ?_
        refine w_cv (As := [.int (h_ai h7 55 x3.toNatClampNeg), .int (h_ai h7 58 (h_ai h7 66 x3.toNatClampNeg).toNatClampNeg), .int z3]) (b := 44) (rest := []) rfl rfl rfl (Nat.le_of_ble_eq_true rfl) (kd_44 sh7) (fun z => absurd z (by decide)) (dc := 0) (by omega) (F.mono (fun r h13 F => ?_))
        obtain ⟨rfl, sh13, F⟩ := F
        show w_p _ _ 88 [(5, .int (h_ai h7 58 (h_ai h7 66 x3.toNatClampNeg).toNatClampNeg)), (4, .int z3), (0, .ref 44), (1, .int x1), (2, .int x2), (3, .int x3)] [] h13 _
        refine w_b 1 89 [(5, .int (h_ai h7 58 (h_ai h7 66 x3.toNatClampNeg).toNatClampNeg)), (4, .int z3), (0, .ref 44), (1, .int x1), (2, .int x2), (3, .int x3)] [.ref 44] rfl ?_
        refine w_getS (b := 51) rfl rfl rfl (kd_44 sh13) (or_593_44 sh13) ?_
        refine w_b 2 95 [(5, .int (h_ai h7 58 (h_ai h7 66 x3.toNatClampNeg).toNatClampNeg)), (4, .int z3), (0, .ref 44), (1, .int x1), (2, .int x2), (3, .int x3)] [.int (h_ai h7 58 (h_ai h7 66 x3.toNatClampNeg).toNatClampNeg), .ref 51, .int (h_ai h7 58 (h_ai h7 66 x3.toNatClampNeg).toNatClampNeg), .ref 51] rfl ?_
        obtain ⟨g14, F⟩ := F
        refine w_iald rfl (kd_51 sh13) (by rw [show h_al h13 51 = 12 from (al_51 sh13)]; exact g14) ?_
        refine w_b 2 99 [(5, .int (h_ai h7 58 (h_ai h7 66 x3.toNatClampNeg).toNatClampNeg)), (4, .int z3), (0, .ref 44), (1, .int x1), (2, .int x2), (3, .int x3)] [.int ((h_ai h13 51 (h_ai h7 58 (h_ai h7 66 x3.toNatClampNeg).toNatClampNeg).toNatClampNeg) + z3), .int (h_ai h7 58 (h_ai h7 66 x3.toNatClampNeg).toNatClampNeg), .ref 51] rfl ?_
        obtain ⟨g15, F⟩ := F
        refine w_iast rfl (kd_51 sh13) (by decide) (by rw [show h_al h13 51 = 12 from (al_51 sh13)]; exact g15) ?_
        refine w_b 1 101 [(5, .int (h_ai h7 58 (h_ai h7 66 x3.toNatClampNeg).toNatClampNeg)), (4, .int z3), (0, .ref 44), (1, .int x1), (2, .int x2), (3, .int x3)] [.ref 44] rfl ?_
        refine w_getS (b := 52) rfl rfl rfl (kd_44 sh13) (or_594_44 sh13) ?_
        refine w_b 1 105 [(5, .int (h_ai h7 58 (h_ai h7 66 x3.toNatClampNeg).toNatClampNeg)), (4, .int z3), (0, .ref 44), (1, .int x1), (2, .int x2), (3, .int x3)] [.ref 44, .ref 52] rfl ?_
        refine w_getS (b := 55) rfl rfl rfl (kd_44 sh13) (or_601_44 sh13) ?_
        refine w_b 1 109 [(5, .int (h_ai h7 58 (h_ai h7 66 x3.toNatClampNeg).toNatClampNeg)), (4, .int z3), (0, .ref 44), (1, .int x1), (2, .int x2), (3, .int x3)] [.int x3, .ref 55, .ref 52] rfl ?_
        obtain ⟨g16, F⟩ := F
        refine w_iald rfl (kd_55 sh13) (by rw [show h_al (h_sA h13 51 ((h_ai h7 58 (h_ai h7 66 x3.toNatClampNeg).toNatClampNeg).toNatClampNeg) ((h_ai h13 51 (h_ai h7 58 (h_ai h7 66 x3.toNatClampNeg).toNatClampNeg).toNatClampNeg) + z3)) 55 = 10 from (al_55 sh13)]; exact g16) ?_
        refine w_b 1 111 [(5, .int (h_ai h7 58 (h_ai h7 66 x3.toNatClampNeg).toNatClampNeg)), (4, .int z3), (0, .ref 44), (1, .int x1), (2, .int x2), (3, .int x3)] [.int (h_ai h13 55 x3.toNatClampNeg), .ref 52, .int (h_ai h13 55 x3.toNatClampNeg), .ref 52] rfl ?_
        obtain ⟨g17, F⟩ := F
        refine w_iald rfl (kd_52 sh13) (by rw [show h_al (h_sA h13 51 ((h_ai h7 58 (h_ai h7 66 x3.toNatClampNeg).toNatClampNeg).toNatClampNeg) ((h_ai h13 51 (h_ai h7 58 (h_ai h7 66 x3.toNatClampNeg).toNatClampNeg).toNatClampNeg) + z3)) 52 = 12 from (al_52 sh13)]; exact g17) ?_
        refine w_b 2 114 [(5, .int (h_ai h7 58 (h_ai h7 66 x3.toNatClampNeg).toNatClampNeg)), (4, .int z3), (0, .ref 44), (1, .int x1), (2, .int x2), (3, .int x3)] [.int ((h_ai h13 52 (h_ai h13 55 x3.toNatClampNeg).toNatClampNeg) + 1), .int (h_ai h13 55 x3.toNatClampNeg), .ref 52] rfl ?_
        obtain ⟨g18, F⟩ := F
        refine w_iast rfl (kd_52 sh13) (by decide) (by rw [show h_al (h_sA h13 51 ((h_ai h7 58 (h_ai h7 66 x3.toNatClampNeg).toNatClampNeg).toNatClampNeg) ((h_ai h13 51 (h_ai h7 58 (h_ai h7 66 x3.toNatClampNeg).toNatClampNeg).toNatClampNeg) + z3)) 52 = 12 from (al_52 sh13)]; exact g18) ?_
        refine w_b 3 19 [(3, .int (x3 + 1)), (1, .int (x1 + 1)), (5, .int (h_ai h7 58 (h_ai h7 66 x3.toNatClampNeg).toNatClampNeg)), (4, .int z3), (0, .ref 44), (2, .int x2)] [] rfl ?_
        refine w_lo [0, 1, 2, 3] [(0, .ref 44), (1, .int (x1 + 1)), (2, .int x2), (3, .int (x3 + 1))] rfl rfl ?_
        exact k19 _ _ _ _ F

/-! HELD EVENINGS -/
def zHc (X : zX) (dy : Nat) (A : zV) (N : zN) (k : Nat) : Prop := a_owe (N.2.1 (A.2.1 k)) (fb_sm (N.1 (A.2.1 k)) 2001) (nI (zPr X dy A k)) ≤ tL X.1 X.2.1 X.2.2 dy 4
def n_hold (N : zN) (x y pr dy : Nat) : zN := ((n_pay N x y pr dy).1, (n_pay N x y pr dy).2.1, N.2.2.1, va_up N.2.2.2.1 y (N.2.2.2.1 y + nI pr), va_up N.2.2.2.2 x (N.2.2.2.2 x + 1))
theorem z_hold {cap : Nat → Nat} {W x y am dy : Nat} {F : zF} {A O : zV} {N : zN} {H : zH} (Z : zP W cap F A O (n_pay N x y am dy) H) (hx : x < F.1) (hy : y < F.1) : zP W cap F A O (n_hold N x y am dy) H := by
  obtain ⟨z1, z2, z3, z4, z5, z6, z7, z8⟩ := Z
  refine ⟨z1, z2, z3, z4, fun f h1 h2 => ?_, z6, z7, z8⟩
  obtain ⟨y1, y2, y3, y4, y5⟩ := z5 f h1 h2
  refine ⟨y1, y2, ?_, ?_, y5⟩
  · show va_up N.2.2.2.1 y _ f = 0
    rw [va_up_ne _ _ (by omega)]; exact y3
  · show va_up N.2.2.2.2 x _ f = 0
    rw [va_up_ne _ _ (by omega)]; exact y4
set_option maxHeartbeats 1000000 in
theorem c_hold {h : mm_H} {Q : Option Value → mm_H → Prop} {own cap : Nat → Nat} {T : zT} {X : zX} {dy W : Nat} {ft : Int32} {F : zF} {A O : zV} {N : zN} {C : zC} {H : zH} (sh : s_h h) (K : CS h own cap T X dy ft F A O N C H) (Z : zP W cap F A O N H) {k0' : Nat} (hk : k0' < A.1) {g : Option Nat} (hg : ∀ o, g = some o → o < O.1 ∧ A.2.1 k0' ≠ O.2.1 o)
    (k0 : (∀ o, g = some o → ¬ zHc X dy A N k0') → Q (some (.int 0)) h)
    (k1 : ∀ o, g = some o → zHc X dy A N k0' → ∀ h' own' c', CS h' own' (va_up cap (O.2.1 o) c') T X dy ft F A O (n_hold N (A.2.1 k0') (O.2.1 o) (zPr X dy A k0') dy) (c_pays C N (A.2.1 k0') (O.2.1 o) (zPr X dy A k0')) H → fx h h' [(523, 16), (525, 16)] [] → c' ≤ 4096 → rR h cap h' (va_up cap (O.2.1 o) c') → Q (some (.int 1)) h') : w_c 25 97 [.ref 16, .int (nI k0'), .int (oN g)] h Q := by
  obtain ⟨-, cx, cd, -, cp, cva, cvo, cf, -⟩ := id K
  obtain ⟨z1, ⟨z2, z3⟩, ⟨z4, z5⟩, -⟩ := id Z
  have hd := cd.1
  obtain ⟨a1, a3, a4⟩ := z3 k0' hk
  cases g with
  | none =>
    refine t_X8_hold_0 sh _ _ ((c_has35 sh cvo z4 _ (fun c => ⟨_, rfl, sh, fun z => absurd rfl z, fun _ => k0 (fun o e => by cases e)⟩) (fun j e hj => ?_)).up (by decide))
    exact absurd e.symm (nI_neN j (by omega))
  | some o =>
    obtain ⟨ho, hne⟩ := hg o rfl
    obtain ⟨b1, b3, b4⟩ := z5 o ho
    have hpr : zPr X dy A k0' ≤ 96 := a_pr_le a4
    refine t_X8_hold_0 sh _ _ ((c_has35 sh cvo z4 (nI o) (fun c => absurd ⟨o, rfl, ho⟩ c) (fun _ _ _ => ⟨_, rfl, sh, fun _ => (c_famOf31 sh cva z2 hk ⟨_, rfl, sh, (c_famAt sh cp cf a1.1 a1.2 (fun q p d n K1 => ⟨_, rfl, sh, (c_famOf35 sh cvo z4 ho ⟨_, rfl, sh, (c_famAt sh cp cf b1.1 b1.2 (fun q2 p2 d2 n2 K2 => ⟨_, rfl, sh, (c_priceOf sh cva z2 cx cd hk ⟨a3, a4⟩ ⟨_, rfl, sh, fun z => (by cases z), fun q' e => ⟨fun z => (by cases z), fun q2' e2 => ?_⟩⟩).up (by decide)⟩)).up (by decide)⟩).up (by decide)⟩)).up (by decide)⟩).up (by decide), fun z => absurd z (by decide)⟩)).up (by decide))
    cases e
    cases e2
    refine ⟨K1.2.2.1.1, (c_wouldOwe sh K1.2.2 _ ⟨_, rfl, sh, ?_⟩).up (by decide)⟩
    rw [cd.2]
    refine (sp_lawC sh cx (d := dy) (k := 4) (by omega) (by decide) ⟨_, rfl, sh, fun c => ?_, fun c => k0 (fun o e y => c y)⟩).up (by decide)
    show w_c 24 98 [.ref 16, .ref q, .ref q2, .int (nI (zPr X dy A k0'))] h _
    refine c_payS sh K Z a1 b1 hne (by omega) K1 K2 (fun h' own' c' K' f' hc' r' KX KY => ?_)
    obtain ⟨p', d', n', KX⟩ := KX
    obtain ⟨p2', d2', n2', KY⟩ := KY
    obtain ⟨x1, ⟨x2, x3, x4, x5⟩, x6⟩ := id KX
    obtain ⟨y1, ⟨y2, y3, y4, y5⟩, y6⟩ := id KY
    have q70 : 70 ≤ q := x6.1.2.1
    have q270 : 70 ≤ q2 := y6.1.2.1
    refine ⟨rfl, f'.sh sh (by decide), y6.1.1, y6.1.1, by omega, x6.1.1, x6.1.1, by omega, ?_⟩
    have est : h_oi h' 3 q2 = N.2.2.2.1 (O.2.1 o) := y6.2.2.1.2.2.1
    have esf : h_oi h' 4 q = N.2.2.2.2 (A.2.1 k0') := x6.2.2.1.2.2.2
    rw [est, esf]
    have hne' : O.2.1 o ≠ A.2.1 k0' := fun z => hne z.symm
    have f2 : fx h' (h_sI (h_sI h' 3 q2 (N.2.2.2.1 (O.2.1 o) + nI (a_pr (A.2.2.1 k0') (A.2.2.2 k0') (tV X.1 X.2.1 X.2.2 dy 1)))) 4 q (N.2.2.2.2 (A.2.1 k0') + 1)) [] [] := ((fx.rf _ _ _).sI _ (Or.inr q270)).sI _ (Or.inr q70)
    refine k1 o rfl c _ own' c' ?_ (f'.tr f2 (by decide) (by decide) (by decide) (by decide)) hc' (r'.tr (rR.rm ⟨rfl, rfl⟩ _))
    have E2 : ex h' (h_sI (h_sI h' 3 q2 (N.2.2.2.1 (O.2.1 o) + nI (a_pr (A.2.2.1 k0') (A.2.2.2 k0') (tV X.1 X.2.1 X.2.2 dy 1)))) 4 q (N.2.2.2.2 (A.2.1 k0') + 1)) (fun a => a = q2 ∨ a = q) := ((ex.rf _ _).sI _ (Or.inl (Or.inl rfl))).sI _ (Or.inl (Or.inr rfl))
    have e3 : ex h' (h_sI h' 3 q2 (N.2.2.2.1 (O.2.1 o) + nI (a_pr (A.2.2.1 k0') (A.2.2.2 k0') (tV X.1 X.2.1 X.2.2 dy 1)))) (fun a => a = q2) := (ex.rf _ _).sI _ (Or.inl rfl)
    have X1 := (x6.frm e3 (own_ne x2 y2 hne) (own_ne x3 y2 hne) (own_ne x4 y2 hne) (own_ne x5 y2 hne)).sf' (N.2.2.2.2 (A.2.1 k0') + 1)
    have e4 : ex (h_sI h' 3 q2 (N.2.2.2.1 (O.2.1 o) + nI (a_pr (A.2.2.1 k0') (A.2.2.2 k0') (tV X.1 X.2.1 X.2.2 dy 1)))) (h_sI (h_sI h' 3 q2 (N.2.2.2.1 (O.2.1 o) + nI (a_pr (A.2.2.1 k0') (A.2.2.2 k0') (tV X.1 X.2.1 X.2.2 dy 1)))) 4 q (N.2.2.2.2 (A.2.1 k0') + 1)) (fun a => a = q) := (ex.rf _ _).sI _ (Or.inl rfl)
    have Y1 := (y6.st' (N.2.2.2.1 (O.2.1 o) + nI (a_pr (A.2.2.1 k0') (A.2.2.2 k0') (tV X.1 X.2.1 X.2.2 dy 1)))).frm e4 (own_ne y2 x2 hne') (own_ne y3 x2 hne') (own_ne y4 x2 hne') (own_ne y5 x2 hne')
    refine K'.fam (Tc := fun a => a = A.2.1 k0' ∨ a = O.2.1 o) z1 E2 (f2.wk (by decide) (by decide)) (fun a h70 _ ha => ?_) (fun k hk z => by have z : 12 + k = A.2.1 k0' ∨ 12 + k = O.2.1 o := z; omega) (fun a _ _ => rfl) (fun g hg => ?_) (fun g hg h1 h2 => ?_) ⟨(f2.oi _ _ (by decide) (by decide)).trans K'.2.2.2.2.2.2.2.2.1.1, (f2.oi _ _ (by decide) (by decide)).trans K'.2.2.2.2.2.2.2.2.1.2.1, (f2.oi _ _ (by decide) (by decide)).trans K'.2.2.2.2.2.2.2.2.1.2.2⟩
    · rcases ha with z | z
      · exact Or.inr (by rw [z]; exact y2)
      · exact Or.inl (by rw [z]; exact x2)
    · refine ⟨rfl, rfl, rfl, rfl, ?_, ?_⟩
      · exact va_up_ne _ _ (fun z => hg (Or.inr z))
      · exact va_up_ne _ _ (fun z => hg (Or.inl z))
    · have ar2 := f2.ar 30 (by decide) (by decide)
      rcases hg with z | z
      · have z : g = A.2.1 k0' := z
        subst z
        refine ⟨q, p', d', n', by rw [ar2]; exact x1, ⟨x2, x3, x4, x5⟩, ?_⟩
        rw [va_up_ne _ _ hne]
        show cF1 _ q p' d' n' _ _ _ _ (va_up N.2.2.2.1 (O.2.1 o) _ (A.2.1 k0')) (va_up N.2.2.2.2 (A.2.1 k0') _ (A.2.1 k0'))
        rw [va_up_self, va_up_ne _ _ hne]
        exact X1
      · have z : g = O.2.1 o := z
        subst z
        refine ⟨q2, p2', d2', n2', by rw [ar2]; exact y1, ⟨y2, y3, y4, y5⟩, ?_⟩
        rw [va_up_self]
        show cF1 _ q2 p2' d2' n2' _ _ _ _ (va_up N.2.2.2.1 (O.2.1 o) _ (O.2.1 o)) (va_up N.2.2.2.2 (A.2.1 k0') _ (O.2.1 o))
        rw [va_up_self, va_up_ne _ _ hne']
        exact Y1
noncomputable def zE1 (X : zX) (dy : Nat) (A O : zV) (g : Nat → Option Nat) (k : Nat) (s : zN × zC × Nat) : zN × zC × Nat := match g k with
  | none => s
  | some o => z_if (zHc X dy A s.1 k) (n_hold s.1 (A.2.1 k) (O.2.1 o) (zPr X dy A k) dy, c_pays s.2.1 s.1 (A.2.1 k) (O.2.1 o) (zPr X dy A k), s.2.2 + 1) s
noncomputable def zEv (X : zX) (dy : Nat) (A O : zV) (g : Nat → Option Nat) (N : zN) (C : zC) : Nat → zN × zC × Nat
  | 0 => (N, C, 0)
  | k + 1 => zE1 X dy A O g k (zEv X dy A O g N C k)
theorem zE1_no {X : zX} {dy : Nat} {A O : zV} {g : Nat → Option Nat} {k : Nat} {s : zN × zC × Nat} (h : ∀ o, g k = some o → ¬ zHc X dy A s.1 k) : zE1 X dy A O g k s = s := by
  unfold zE1
  cases e : g k with
  | none => rfl
  | some o => exact z_if_f (h o e)
theorem zE1_yes {X : zX} {dy : Nat} {A O : zV} {g : Nat → Option Nat} {k o : Nat} {s : zN × zC × Nat} (e : g k = some o) (h : zHc X dy A s.1 k) : zE1 X dy A O g k s = (n_hold s.1 (A.2.1 k) (O.2.1 o) (zPr X dy A k) dy, c_pays s.2.1 s.1 (A.2.1 k) (O.2.1 o) (zPr X dy A k), s.2.2 + 1) := by
  unfold zE1
  rw [e]
  exact z_if_t h
def v_0 (V : zV) : zV := (0, V.2)
theorem z_v0 {cap : Nat → Nat} {W : Nat} {F : zF} {A O : zV} {N : zN} {H : zH} (Z : zP W cap F A O N H) : zP W cap F (v_0 A) (v_0 O) N H := by
  obtain ⟨z1, z2, z3, z4, z5, z6, z7, z8⟩ := Z
  exact ⟨z1, ⟨Nat.zero_le _, fun i hi => absurd hi (Nat.not_lt_zero _)⟩, ⟨Nat.zero_le _, fun i hi => absurd hi (Nat.not_lt_zero _)⟩, z4, z5, z6, z7, z8⟩
theorem z_W {cap : Nat → Nat} {W W' : Nat} {F : zF} {A O : zV} {N : zN} {H : zH} (Z : zP W cap F A O N H) (h : W ≤ W') (h' : W' ≤ 1000000) : zP W' cap F A O N H := by
  obtain ⟨z1, z2, z3, z4, z5, z6, ⟨z7, z7', z7''⟩, z8⟩ := Z
  exact ⟨z1, z2, z3, z4, z5, z6, ⟨by omega, h', fun f hf => ⟨by have := (z7'' f hf).1; omega, (z7'' f hf).2⟩⟩, z8⟩
noncomputable def zMg (X : zX) (dy : Nat) (A O : zV) (N : zN) : Nat → Option Nat := mg (zDf X dy A O N) A.1 O.1
theorem zMg_ne {X : zX} {dy : Nat} {A O : zV} {N : zN} {k o : Nat} (e : zMg X dy A O N k = some o) : o < O.1 ∧ A.2.1 k ≠ O.2.1 o := ⟨mg_lt e, (a_fit_t.mp (mg_fit e)).1⟩
set_option maxHeartbeats 1000000 in
theorem c_evening {h : mm_H} {Q : Option Value → mm_H → Prop} {own cap : Nat → Nat} {T : zT} {X : zX} {dy W : Nat} {ft : Int32} {F : zF} {A O : zV} {N : zN} {C : zC} {H : zH} (sh : s_h h) (K : CS h own cap T X dy ft F A O N C H) (Z : zP W cap F A O N H) (hW : W + 1000 ≤ 1000000) (k : ∀ h' own' cap', CS h' own' cap' T X dy ft F (v_0 A) (v_0 O) (zEv X dy A O (zMg X dy A O N) N C A.1).1 (zEv X dy A O (zMg X dy A O N) N C A.1).2.1 H → fC h h' → rR h cap h' cap' → zP (W + 1000) cap' F (v_0 A) (v_0 O) (zEv X dy A O (zMg X dy A O N) N C A.1).1 H → Q (some (.int (nI (zEv X dy A O (zMg X dy A O N) N C A.1).2.2))) h') : w_c 26 82 [.ref 16] h Q := by
  have hna := Z.2.1.1
  have loop : ∀ w i, i + w = A.1 → ∀ hh own1 cap1, s_h hh → CS hh own1 cap1 T X dy ft F A O (zEv X dy A O (zMg X dy A O N) N C i).1 (zEv X dy A O (zMg X dy A O N) N C i).2.1 H → zP (W + 96 * i) cap1 F A O (zEv X dy A O (zMg X dy A O N) N C i).1 H → rR h cap hh cap1 → fC h hh → cM hh A.1 O.1 (zDf X dy A O N) → cG hh A.1 (zMg X dy A O N) → w_p 26 (8, 3, mc_X8_evening) 8 [(0, .ref 16), (1, .int (nI (zEv X dy A O (zMg X dy A O N) N C i).2.2)), (2, .int (nI i))] [] hh Q := by
    intro w
    induction w with
    | zero =>
      intro i hi hh own1 cap1 sh1 K1 Z1 r1 f1 M1 G1
      have e : i = A.1 := by omega
      subst e
      have n31 : h_oi hh 451 31 = nI A.1 := K1.2.2.2.2.2.1.1
      refine t_X8_evening_8 sh1 _ _ (K8 := fun _ _ _ => False) (fun _ _ _ z => z.elim) ⟨fun _ => ?_, fun z => absurd ?_ z⟩
      · have f2 : fx hh (h_sI (h_sI hh 451 31 0) 451 35 0) [(451, 31), (451, 35)] [] := ((fx.rf _ _ _).sI _ (Or.inl (by decide))).sI _ (Or.inl (by decide))
        have d2 : dn hh (h_sI (h_sI hh 451 31 0) 451 35 0) := ((dn.rf _).sI _ (by decide)).sI _ (by decide)
        obtain ⟨c1, c2, c3, c4, c5, c6, c7, c8, c9, c10⟩ := K1
        refine k _ own1 cap1 ⟨c1.fx f2 (by decide) (by decide), c2.fx f2 (by decide) (by decide) (by decide), c3.fx f2 (by decide), c4.fx f2 (by decide), c5.dn f2 d2 (by decide) (by decide), ⟨(oi_neA (by decide) _).trans (oi_self _ _ _ _), fun i hi => absurd hi (Nat.not_lt_zero _)⟩, ⟨oi_self _ _ _ _, fun i hi => absurd hi (Nat.not_lt_zero _)⟩, c8.dn f2 d2 (by decide), c9.fx f2 (by decide) (by decide) (by decide), c10.dn f2 d2 (by decide)⟩ (f1.tr (f2.wk (by decide) (by decide))) (r1.tr (rR.rm ⟨rfl, rfl⟩ _)) (z_v0 (z_W Z1 (by omega) hW))
      · rw [n31, i_le (by omega) (by omega)]; exact Nat.le_refl _
    | succ w ih =>
      intro i hi hh own1 cap1 sh1 K1 Z1 r1 f1 M1 G1
      have n31 : h_oi hh 451 31 = nI A.1 := K1.2.2.2.2.2.1.1
      have hz : (zEv X dy A O (zMg X dy A O N) N C (i + 1)) = zE1 X dy A O (zMg X dy A O N) i (zEv X dy A O (zMg X dy A O N) N C i) := rfl
      refine t_X8_evening_8 sh1 _ _ (K8 := fun y1 y2 h2 => y2 = nI (i + 1) ∧ ∃ own2 cap2, y1 = nI (zEv X dy A O (zMg X dy A O N) N C (i + 1)).2.2 ∧ s_h h2 ∧ CS h2 own2 cap2 T X dy ft F A O (zEv X dy A O (zMg X dy A O N) N C (i + 1)).1 (zEv X dy A O (zMg X dy A O N) N C (i + 1)).2.1 H ∧ zP (W + 96 * (i + 1)) cap2 F A O (zEv X dy A O (zMg X dy A O N) N C (i + 1)).1 H ∧ rR h cap h2 cap2 ∧ fC h h2 ∧ cM h2 A.1 O.1 (zDf X dy A O N) ∧ cG h2 A.1 (zMg X dy A O N)) (fun y1 y2 h2 z => ?_) ⟨fun z => ?_, fun _ => ?_⟩
      · obtain ⟨rfl, own2, cap2, rfl, q1, q2, q3, q4, q5, q6, q7⟩ := z
        exact ih (i + 1) (by omega) h2 own2 cap2 q1 q2 q3 q4 q5 q6 q7
      · rw [n31, i_le (by omega) (by omega)] at z; omega
      · refine (c_offerOf sh1 M1 G1 (by omega) ⟨_, rfl, sh1, ?_⟩).up (by decide)
        refine c_hold sh1 K1 Z1 (by omega) (fun o e => zMg_ne e) (fun hn => ⟨_, rfl, sh1, fun _ => ⟨nI_1 i, own1, cap1, ?_, sh1, ?_, ?_, r1, f1, M1, G1⟩, fun z => absurd rfl z⟩) (fun o e hc h2 own2 c2 K2 f2 hc2 r2 => ⟨_, rfl, f2.sh sh1 (by decide), fun z => absurd z (by decide), fun _ => ⟨nI_1 i, own2, va_up cap1 (O.2.1 o) c2, ?_, f2.sh sh1 (by decide), ?_, ?_, r1.tr r2, f1.tr (f2.wk (by decide) (by decide)), M1.fx f2 (by decide) (by decide) (by decide), G1.fx f2 (by decide)⟩⟩)
        · rw [hz, zE1_no hn]
        · rw [hz, zE1_no hn]; exact K1
        · rw [hz, zE1_no hn]; exact z_W Z1 (by omega) (by omega)
        · rw [hz, zE1_yes e hc]; exact nI_1 _
        · rw [hz, zE1_yes e hc]; exact K2
        · rw [hz, zE1_yes e hc]
          have hpr : zPr X dy A i ≤ 96 := a_pr_le (Z.2.1.2 i (by omega)).2.2
          have ha := (Z.2.1.2 i (by omega)).1
          have hb := (Z.2.2.1.2 o (zMg_ne e).1).1
          exact z_W (z_hold (z_pay Z1 ha hb (zMg_ne e).2 K.2.2.1.1 (by omega) (fun f hf => va_up_ne _ _ hf) (by rw [va_up_self]; exact hc2)) ha.1 hb.1) (by omega) (by omega)
  refine t_X8_evening_0 sh (K8 := fun y1 y2 h1 => y1 = nI 0 ∧ y2 = nI 0 ∧ s_h h1 ∧ fx h h1 gS aS ∧ dn h h1 ∧ cM h1 A.1 O.1 (zDf X dy A O N) ∧ cG h1 A.1 (zMg X dy A O N)) (fun y1 y2 h1 z => ?_) ((c_findM sh K Z (fun h1 f d M Mz G => ⟨rfl, f.sh sh (by decide), rfl, rfl, f.sh sh (by decide), f, d, M, G⟩)).up (by decide))
  obtain ⟨rfl, rfl, sh1, f, d, M, G⟩ := z
  exact loop A.1 0 (by omega) h1 own cap sh1 (K.sc f d) Z (rR.rm ⟨d.1, d.2.1⟩ _) (f.wk (by decide) (by decide)) M G
set_option maxHeartbeats 1000000 in
theorem m_evening {h : mm_H} {Q : Option Value → mm_H → Prop} {cap : Nat → Nat} {T : zT} {X : zX} {dy cl W : Nat} {ft : Int32} {F : zF} {A O : zV} {N : zN} {C : zC} {H : zH} (sh : s_h h) (K : MS h cl T X dy ft F A O N C H) (Z : zP W cap F A O N H) (hW : W + 1000 ≤ 1000000) (k : ∀ h', MS h' cl T X dy ft F (v_0 A) (v_0 O) (zEv X dy A O (zMg X dy A O N) N C A.1).1 (zEv X dy A O (zMg X dy A O N) N C A.1).2.1 H → fM h h' → Q (some (.int (nI (zEv X dy A O (zMg X dy A O N) N C A.1).2.2))) h') : w_c 6 146 [.ref 44] h Q := by
  have z1 := Z.1
  have hna := Z.2.1.1
  have hno := Z.2.2.1.1
  have md := K.d
  have hd := md.1
  have loop : ∀ w i, i + w = A.1 → ∀ hh, s_h hh → MS hh cl T X dy ft F A O (zEv X dy A O (zMg X dy A O N) N C i).1 (zEv X dy A O (zMg X dy A O N) N C i).2.1 H → zP (W + 96 * i) cap F A O (zEv X dy A O (zMg X dy A O N) N C i).1 H → fM h hh → mGm hh A.1 (zMg X dy A O N) → w_p 6 (9, 6, mc_X9_evening) 19 [(0, .ref 44), (1, .int (nI (zEv X dy A O (zMg X dy A O N) N C i).2.2)), (2, .int (tL X.1 X.2.1 X.2.2 dy 4)), (3, .int (nI i))] [] hh Q := by
    intro w
    induction w with
    | zero =>
      intro i hi hh sh1 K1 Z1 f1 G1
      have e : i = A.1 := by omega
      subst e
      have n31 : h_oi hh 600 44 = nI A.1 := K1.2.2.2.2.1.1
      refine t_X9_evening_19 sh1 _ _ _ (K19 := fun _ _ _ _ => False) (fun _ _ _ _ z => z.elim) ⟨fun _ => ?_, fun z => absurd ?_ z⟩
      · have f2 : fx hh (h_sI (h_sI hh 600 44 0) 604 44 0) [(600, 44), (604, 44)] [] := ((fx.rf _ _ _).sI _ (Or.inl (by decide))).sI _ (Or.inl (by decide))
        have d2 : dn hh (h_sI (h_sI hh 600 44 0) 604 44 0) := ((dn.rf _).sI _ (by decide)).sI _ (by decide)
        obtain ⟨c1, c2, c3, c4, c5, c6, c7, c8, c9, c10, c11, c12⟩ := K1
        refine k _ ⟨c1.fx f2 (by decide) (by decide), c2.fx f2 (by decide) (by decide) (by decide), c3.fx f2 (by decide), c4.fx f2 (by decide) (by decide), ⟨(oi_neG (by decide) _).trans (oi_self _ _ _ _), fun i hi => absurd hi (Nat.not_lt_zero _)⟩, ⟨oi_self _ _ _ _, fun i hi => absurd hi (Nat.not_lt_zero _)⟩, c7.fx f2 (by decide) (by decide) (by decide), c8.fx f2 (by decide), c9.fx f2 (by decide) (by decide) (by decide), c10.fx f2 (by decide) (by decide) (by decide), c11.fx f2 (by decide) (by decide) (by decide), c12.fx f2 (by decide)⟩ (f1.tr ⟨f2.wk (by decide) (by decide), d2⟩)
      · rw [n31, i_le (by omega) (by omega)]; exact Nat.le_refl _
    | succ w ih =>
      intro i hi hh sh1 K1 Z1 f1 G1
      have n31 : h_oi hh 600 44 = nI A.1 := K1.2.2.2.2.1.1
      have hz : (zEv X dy A O (zMg X dy A O N) N C (i + 1)) = zE1 X dy A O (zMg X dy A O N) i (zEv X dy A O (zMg X dy A O N) N C i) := rfl
      obtain ⟨a1, a3, a4⟩ := Z.2.1.2 i (by omega)
      have hpr : zPr X dy A i ≤ 96 := a_pr_le a4
      have vi : vp_in (nI i) 10 := vp_in_nI (by omega) (by decide)
      have ic : (nI i).toNatClampNeg = i := i_cl (by omega)
      have stay : (∀ o, zMg X dy A O N i = some o → ¬ zHc X dy A (zEv X dy A O (zMg X dy A O N) N C i).1 i) → nI (zEv X dy A O (zMg X dy A O N) N C i).2.2 = nI (zEv X dy A O (zMg X dy A O N) N C (i + 1)).2.2 ∧ MS hh cl T X dy ft F A O (zEv X dy A O (zMg X dy A O N) N C (i + 1)).1 (zEv X dy A O (zMg X dy A O N) N C (i + 1)).2.1 H ∧ zP (W + 96 * (i + 1)) cap F A O (zEv X dy A O (zMg X dy A O N) N C (i + 1)).1 H := fun hn => by
        rw [hz, zE1_no hn]
        exact ⟨rfl, K1, z_W Z1 (by omega) (by omega)⟩
      refine t_X9_evening_19 sh1 _ _ _ (K19 := fun y1 y2 y3 h2 => y1 = nI (zEv X dy A O (zMg X dy A O N) N C (i + 1)).2.2 ∧ y2 = tL X.1 X.2.1 X.2.2 dy 4 ∧ y3 = nI (i + 1) ∧ s_h h2 ∧ MS h2 cl T X dy ft F A O (zEv X dy A O (zMg X dy A O N) N C (i + 1)).1 (zEv X dy A O (zMg X dy A O N) N C (i + 1)).2.1 H ∧ zP (W + 96 * (i + 1)) cap F A O (zEv X dy A O (zMg X dy A O N) N C (i + 1)).1 H ∧ fM h h2 ∧ mGm h2 A.1 (zMg X dy A O N)) (fun y1 y2 y3 h2 z => ?_) ⟨fun z => ?_, fun _ => ?_⟩
      · obtain ⟨rfl, rfl, rfl, q1, q2, q3, q4, q5⟩ := z
        exact ih (i + 1) (by omega) h2 q1 q2 q3 q4 q5
      · rw [n31, i_le (by omega) (by omega)] at z; omega
      · refine (m_priceOf sh1 K1.2.2.2.2.1 hna K1.2.1 K1.d (by omega) ⟨a3, a4⟩ ⟨_, rfl, sh1, vi, ?_⟩).up (by decide)
        rw [ic, G1 i (by omega)]
        cases e : zMg X dy A O N i with
        | none =>
          obtain ⟨s1, s2, s3⟩ := stay (fun o y => by rw [e] at y; cases y)
          exact ⟨fun _ => ⟨s1, rfl, nI_1 i, sh1, s2, s3, f1, G1⟩, fun z => absurd rfl z⟩
        | some o =>
          obtain ⟨ho, hne⟩ := zMg_ne e
          obtain ⟨b1, -⟩ := Z.2.2.1.2 o ho
          refine ⟨fun z => absurd z (oN_ne o (by omega)), fun _ => ⟨vi, ?_⟩⟩
          rw [show h_ai hh 55 i = nI (A.2.1 i) from (K1.2.2.2.2.1.2 i (by omega)).1]
          refine (m_may sh1 K1.2.2.2.2.2.2.1 K1.2.2.2.2.2.2.2.1 (by omega) _ _ (fun c => ⟨_, rfl, sh1, fun _ => ?_, fun z => absurd rfl z⟩) (fun c => ⟨_, rfl, sh1, fun z => absurd z (by decide), fun _ => ⟨vi, ?_, vi, ?_⟩⟩)).up (by decide)
          · obtain ⟨s1, s2, s3⟩ := stay (fun o y => c)
            exact ⟨s1, rfl, nI_1 i, sh1, s2, s3, f1, G1⟩
          · rw [G1 i (by omega), e]; exact vp_in_nI (by omega) (by decide)
          · rw [show h_ai hh 55 i = nI (A.2.1 i) from (K1.2.2.2.2.1.2 i (by omega)).1, G1 i (by omega), e, show (oN (some o)).toNatClampNeg = o from i_cl (by omega), show h_ai hh 58 o = nI (O.2.1 o) from (K1.2.2.2.2.2.1.2 o ho).1, i_cl (a := O.2.1 o) (by omega)]
            show w_c 0 128 [.ref 44, .int (nI (A.2.1 i)), .int (nI (O.2.1 o)), .int (nI (zPr X dy A i))] hh _
            refine m_payS sh1 K1 Z1 a1 b1 hne (by omega) (fun h3 K3 f3 d3 => ?_)
            have e55 : h_ai h3 55 i = nI (A.2.1 i) := (K3.2.2.2.2.1.2 i (by omega)).1
            rw [e55, i_cl (a := A.2.1 i) (by omega)]
            have vx : vp_in (nI (A.2.1 i)) 12 := vp_in_nI (by omega) (by decide)
            have vy : vp_in (nI (O.2.1 o)) 12 := vp_in_nI (by omega) (by decide)
            have sh3 := f3.sh sh1 (by decide)
            have Z3 : zP (W + 96 * (i + 1)) cap F A O (n_hold (zEv X dy A O (zMg X dy A O N) N C i).1 (A.2.1 i) (O.2.1 o) (zPr X dy A i) dy) H := z_W (z_hold (z_pay Z1 a1 b1 hne hd (by omega) (fun f hf => rfl) (by
              obtain ⟨-, -, -, -, -, -, ⟨-, -, y2⟩, -⟩ := Z
              exact (y2 (O.2.1 o) (by omega)).2)) a1.1 b1.1) (by omega) (by omega)
            obtain ⟨c1, c2, c3, c4, c5, c6, c7, c8, ⟨c91, c92, c93⟩, c10, c11, c12⟩ := K3
            have e51 : h_ai h3 51 (O.2.1 o) = (zEv X dy A O (zMg X dy A O N) N C i).1.2.2.2.1 (O.2.1 o) := c91 (O.2.1 o) (by omega)
            have e52 : h_ai h3 52 (A.2.1 i) = (zEv X dy A O (zMg X dy A O N) N C i).1.2.2.2.2 (A.2.1 i) := c92 (A.2.1 i) (by omega)
            rw [e51, e52]
            have f4 : fx h3 (h_sA (h_sA h3 51 (O.2.1 o) ((zEv X dy A O (zMg X dy A O N) N C i).1.2.2.2.1 (O.2.1 o) + nI (a_pr (A.2.2.1 i) (A.2.2.2 i) (tV X.1 X.2.1 X.2.2 dy 1)))) 52 (A.2.1 i) ((zEv X dy A O (zMg X dy A O N) N C i).1.2.2.2.2 (A.2.1 i) + 1)) [] [51, 52] := ((fx.rf _ _ _).sA _ _ (Or.inl (by decide))).sA _ _ (Or.inl (by decide))
            have d4 : dn h3 (h_sA (h_sA h3 51 (O.2.1 o) ((zEv X dy A O (zMg X dy A O N) N C i).1.2.2.2.1 (O.2.1 o) + nI (a_pr (A.2.2.1 i) (A.2.2.2 i) (tV X.1 X.2.1 X.2.2 dy 1)))) 52 (A.2.1 i) ((zEv X dy A O (zMg X dy A O N) N C i).1.2.2.2.2 (A.2.1 i) + 1)) := ((dn.rf _).sA _ _ (by decide)).sA _ _ (by decide)
            refine ⟨rfl, sh3, vy, vy, vi, vx, vx, ?_, rfl, nI_1 i, f4.sh sh3 (by decide), ?_, ?_, f1.tr (fM.tr ⟨f3.wk (by decide) (by decide), d3⟩ ⟨f4.wk (by decide) (by decide), d4⟩), (G1.fx f3 (by decide)).fx f4 (by decide)⟩
            · rw [hz, zE1_yes e c]; exact nI_1 _
            · rw [hz, zE1_yes e c]
              refine ⟨c1.fx f4 (by decide) (by decide), c2.fx f4 (by decide) (by decide) (by decide), c3.fx f4 (by decide), c4.fx f4 (by decide) (by decide), c5.fx f4 (by decide) (by decide) (by decide) (by decide) (by decide), c6.fx f4 (by decide) (by decide) (by decide) (by decide) (by decide), c7.fx f4 (by decide) (by decide) (by decide), c8.fx f4 (by decide), ⟨fun g hg => ?_, fun g hg => ?_, ?_⟩, c10.fx f4 (by decide) (by decide) (by decide), c11.fx f4 (by decide) (by decide) (by decide), c12.fx f4 (by decide)⟩
              · rw [ai_ne (by decide), ai_self]
                show _ = va_up (zEv X dy A O (zMg X dy A O N) N C i).1.2.2.2.1 (O.2.1 o) _ g
                by_cases z : g = O.2.1 o
                · rw [z, va_up_self, va_up_self]; rfl
                · rw [va_up_ne _ _ z, va_up_ne _ _ z]; exact c91 g hg
              · rw [ai_self, ai_ne (by decide)]
                show _ = va_up (zEv X dy A O (zMg X dy A O N) N C i).1.2.2.2.2 (A.2.1 i) _ g
                by_cases z : g = A.2.1 i
                · rw [z, va_up_self, va_up_self]
                · rw [va_up_ne _ _ z, va_up_ne _ _ z]; exact c92 g hg
              · rw [f4.ai 54 (by decide) (by decide)]; exact c93
            · rw [hz, zE1_yes e c]; exact Z3
  refine t_X9_evening_0 sh (K19 := fun y1 y2 y3 hh => y1 = nI 0 ∧ y2 = tL X.1 X.2.1 X.2.2 dy 4 ∧ y3 = nI 0 ∧ s_h hh ∧ fx h hh [] [61, 62, 63, 64, 65, 66] ∧ dn h hh ∧ mGm hh A.1 (zMg X dy A O N)) (fun y1 y2 y3 hh z => ?_) (m_matches sh K Z (fun h1 f d _ _ G => ⟨_, rfl, f.sh sh (by decide), ?_⟩))
  · obtain ⟨rfl, rfl, rfl, sh1, f, d, G⟩ := z
    exact loop A.1 0 (by omega) hh sh1 (K.sc (f.wk (by decide) (by decide))) Z ⟨f.wk (by decide) (by decide), d⟩ G
  · have sh1 := f.sh sh (by decide)
    have K1 : MS h1 cl T X dy ft F A O N C H := K.sc (f.wk (by decide) (by decide))
    rw [K1.d.2]
    exact (sp_lawM sh1 K1.2.1 (d := dy) (k := 4) (by omega) (by decide) ⟨_, rfl, sh1, rfl, rfl, rfl, sh1, f, d, G⟩).up (by decide)
