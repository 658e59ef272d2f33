set_option maxRecDepth 20000 in
theorem t_X7_remove_0 {h : mm_H} {Q : Option Value → mm_H → Prop} (sh : s_h h) (i : Int32) {K13 : Int32 → Int32 → mm_H → Prop} (k13 : ∀ (i : Int32) (x2 : Int32) (h : mm_H), K13 i x2 h → w_p 1 (7, 3, mc_X7_remove) 13 [(0, .ref 31), (1, .int i), (2, .int x2)] [] h Q) 
    (F : w_c 0 54 [.ref 31, .int i] h (fun r h1 => ∃ z2 : Int32, r = some (.int z2) ∧ s_h h1 ∧ ((¬ z2 = 0 → K13 i (i + 1) h1) ∧ (z2 = 0 → Q none h1)))) :
    w_c 1 59 [.ref 31, .int i] h Q := by
  refine w_ci (M := (7, 3, mc_X7_remove)) rfl (Nat.le_of_ble_eq_true rfl) ?_
  show w_p _ _ 0 [(0, .ref 31), (1, .int i)] [] h Q
  refine w_b 2 2 [(0, .ref 31), (1, .int i)] [.int i, .ref 31] rfl ?_
  refine w_cv (As := [.int i]) (b := 31) (rest := []) rfl rfl rfl (Nat.le_of_ble_eq_true rfl) (kd_31 sh) (fun z => absurd z (by decide)) (dc := 0) (by omega) (F.mono (fun r h1 F => ?_))
  obtain ⟨z2, rfl, sh1, F⟩ := F
  show w_p _ _ 5 [(0, .ref 31), (1, .int i)] [.int z2] h1 _
  refine w_if_ne (tgt := 9) (x := z2) rfl (by decide) ⟨fun c3 => ?_, fun c3 => ?_⟩
  · have F := F.1 c3
    refine w_b 4 13 [(2, .int (i + 1)), (0, .ref 31), (1, .int i)] [] rfl ?_
    refine w_lo [0, 1, 2] [(0, .ref 31), (1, .int i), (2, .int (i + 1))] rfl rfl ?_
    exact k13 _ _ _ F
  · have F := F.2 (Decidable.not_not.mp c3)
    exact w_vr rfl F

set_option maxRecDepth 20000 in
theorem t_X7_remove_13 {h : mm_H} {Q : Option Value → mm_H → Prop} (sh : s_h h) (i : Int32) (x2 : Int32) {K13 : Int32 → Int32 → mm_H → Prop} (k13 : ∀ (i : Int32) (x2 : Int32) (h : mm_H), K13 i x2 h → w_p 1 (7, 3, mc_X7_remove) 13 [(0, .ref 31), (1, .int i), (2, .int x2)] [] h Q) 
    (F : (((h_oi h 451 31) ≤ x2 → Q none (h_sI h 451 31 ((h_oi h 451 31) - (1 : Int32)))) ∧ (¬ ((h_oi h 451 31) ≤ x2) → (vp_in x2 10 ∧ (vp_in (x2 - (1 : Int32)) 10 ∧ (vp_in x2 10 ∧ (vp_in (x2 - (1 : Int32)) 10 ∧ (vp_in x2 10 ∧ (vp_in (x2 - (1 : Int32)) 10 ∧ K13 i (x2 + 1) (h_sA (h_sA (h_sA h 32 ((x2 - (1 : Int32)).toNatClampNeg) (h_ai h 32 x2.toNatClampNeg)) 33 ((x2 - (1 : Int32)).toNatClampNeg) (h_ai h 33 x2.toNatClampNeg)) 34 ((x2 - (1 : Int32)).toNatClampNeg) (h_ai h 34 x2.toNatClampNeg))))))))))) :
    w_p 1 (7, 3, mc_X7_remove) 13 [(0, .ref 31), (1, .int i), (2, .int x2)] [] h Q := by
  refine w_b 2 15 [(0, .ref 31), (1, .int i), (2, .int x2)] [.ref 31, .int x2] rfl ?_
  refine w_get (g := 451) rfl rfl rfl (kd_31 sh) ?_
  refine w_ic_ge (tgt := 69) (x := x2) (y := h_oi h 451 31) rfl (by decide) ⟨fun c1 => ?_, fun c1 => ?_⟩
  · have F := F.1 c1
    refine w_b 2 71 [(0, .ref 31), (1, .int i), (2, .int x2)] [.ref 31, .ref 31] rfl ?_
    refine w_get (g := 451) rfl rfl rfl (kd_31 sh) ?_
    refine w_b 2 76 [(0, .ref 31), (1, .int i), (2, .int x2)] [.int ((h_oi h 451 31) - (1 : Int32)), .ref 31] rfl ?_
    refine w_put (g := 451) (x := (h_oi h 451 31) - (1 : Int32)) rfl rfl rfl (kd_31 sh) (by decide) ?_
    exact w_vr rfl F
  · have F := F.2 c1
    refine w_b 1 22 [(0, .ref 31), (1, .int i), (2, .int x2)] [.ref 31] rfl ?_
    refine w_getS (b := 32) rfl rfl rfl (kd_31 sh) (or_448_31 sh) ?_
    refine w_b 4 29 [(0, .ref 31), (1, .int i), (2, .int x2)] [.ref 31, .int (x2 - (1 : Int32)), .ref 32] rfl ?_
    refine w_getS (b := 32) rfl rfl rfl (kd_31 sh) (or_448_31 sh) ?_
    refine w_b 1 33 [(0, .ref 31), (1, .int i), (2, .int x2)] [.int x2, .ref 32, .int (x2 - (1 : Int32)), .ref 32] rfl ?_
    obtain ⟨g2, F⟩ := F
    refine w_iald rfl (kd_32 sh) (Eq.mpr (congrArg (vp_in x2) (al_32 sh)) g2) ?_
    obtain ⟨g3, F⟩ := F
    refine w_iast rfl (kd_32 sh) (by decide) (Eq.mpr (congrArg (vp_in (x2 - (1 : Int32))) (al_32 sh)) g3) ?_
    refine w_b 1 36 [(0, .ref 31), (1, .int i), (2, .int x2)] [.ref 31] rfl ?_
    refine w_getS (b := 33) rfl rfl rfl (kd_31 sh) (or_449_31 sh) ?_
    refine w_b 4 43 [(0, .ref 31), (1, .int i), (2, .int x2)] [.ref 31, .int (x2 - (1 : Int32)), .ref 33] rfl ?_
    refine w_getS (b := 33) rfl rfl rfl (kd_31 sh) (or_449_31 sh) ?_
    refine w_b 1 47 [(0, .ref 31), (1, .int i), (2, .int x2)] [.int x2, .ref 33, .int (x2 - (1 : Int32)), .ref 33] rfl ?_
    obtain ⟨g4, F⟩ := F
    refine w_iald rfl (kd_33 sh) (Eq.mpr (congrArg (vp_in x2) (al_33 sh)) g4) ?_
    obtain ⟨g5, F⟩ := F
    refine w_iast rfl (kd_33 sh) (by decide) (Eq.mpr (congrArg (vp_in (x2 - (1 : Int32))) (al_33 sh)) g5) ?_
    refine w_b 1 50 [(0, .ref 31), (1, .int i), (2, .int x2)] [.ref 31] rfl ?_
    refine w_getS (b := 34) rfl rfl rfl (kd_31 sh) (or_450_31 sh) ?_
    refine w_b 4 57 [(0, .ref 31), (1, .int i), (2, .int x2)] [.ref 31, .int (x2 - (1 : Int32)), .ref 34] rfl ?_
    refine w_getS (b := 34) rfl rfl rfl (kd_31 sh) (or_450_31 sh) ?_
    refine w_b 1 61 [(0, .ref 31), (1, .int i), (2, .int x2)] [.int x2, .ref 34, .int (x2 - (1 : Int32)), .ref 34] rfl ?_
    obtain ⟨g6, F⟩ := F
    refine w_iald rfl (kd_34 sh) (Eq.mpr (congrArg (vp_in x2) (al_34 sh)) g6) ?_
    obtain ⟨g7, F⟩ := F
    refine w_iast rfl (kd_34 sh) (by decide) (Eq.mpr (congrArg (vp_in (x2 - (1 : Int32))) (al_34 sh)) g7) ?_
    refine w_b 2 13 [(2, .int (x2 + 1)), (0, .ref 31), (1, .int i)] [] rfl ?_
    refine w_lo [0, 1, 2] [(0, .ref 31), (1, .int i), (2, .int (x2 + 1))] rfl rfl ?_
    exact k13 _ _ _ F

set_option maxRecDepth 20000 in
theorem t_X8_broken_0 {h : mm_H} {Q : Option Value → mm_H → Prop} (sh : s_h h) (a : Int32) 
    (F : w_c 0 54 [.ref 31, .int a] h (fun r h1 => ∃ z2 : Int32, r = some (.int z2) ∧ s_h h1 ∧ ((¬ z2 = 0 → w_c 15 96 [.ref 16] h1 (fun r h4 => r = none ∧ s_h h4 ∧ w_c 0 14 [.ref 39, .int a] h4 (fun r h5 => ∃ z6 : Int32, r = some (.int z6) ∧ s_h h5 ∧ w_c 0 54 [.ref 35, .int z6] h5 (fun r h7 => ∃ z8 : Int32, r = some (.int z8) ∧ s_h h7 ∧ ((z8 = 0 → w_c 1 59 [.ref 31, .int a] h7 (fun r h10 => r = none ∧ s_h h10 ∧ Q (some (.int 0)) h10)) ∧ (¬ (z8 = 0) → w_c 1 10 [.ref 21, .int (h_oi h7 521 16), .int 3] h7 (fun r h11 => ∃ z12 : Int32, r = some (.int z12) ∧ s_h h11 ∧ w_c 1 55 [.ref 31, .int a] h11 (fun r h13 => ∃ z14 : Int32, r = some (.int z14) ∧ s_h h13 ∧ w_c 0 87 [.ref 16, .int z14] h13 (fun r h15 => ∃ z16 : Option Nat, r = some (va_rf z16) ∧ s_h h15 ∧ w_c 1 55 [.ref 35, .int z6] h15 (fun r h17 => ∃ z18 : Int32, r = some (.int z18) ∧ s_h h17 ∧ w_c 0 87 [.ref 16, .int z18] h17 (fun r h19 => ∃ z20 : Option Nat, r = some (va_rf z20) ∧ s_h h19 ∧ w_c 24 98 [.ref 16, va_rf z16, va_rf z20, .int z12] h19 (fun r h21 => r = none ∧ s_h h21 ∧ w_c 1 59 [.ref 31, .int a] h21 (fun r h22 => r = none ∧ s_h h22 ∧ Q (some (.int z12)) h22))))))))))))) ∧ (z2 = 0 → Q (some (.int (-1))) h1)))) :
    w_c 25 81 [.ref 16, .int a] h Q := by
  refine w_ci (M := (8, 4, mc_X8_broken)) rfl (Nat.le_of_ble_eq_true rfl) ?_
  show w_p _ _ 0 [(0, .ref 16), (1, .int a)] [] h Q
  refine w_b 1 1 [(0, .ref 16), (1, .int a)] [.ref 16] rfl ?_
  refine w_getS (b := 31) rfl rfl rfl (kd_16 sh) (or_516_16 sh) ?_
  refine w_b 1 5 [(0, .ref 16), (1, .int a)] [.int a, .ref 31] rfl ?_
  refine w_cv (As := [.int a]) (b := 31) (rest := []) rfl rfl rfl (Nat.le_of_ble_eq_true rfl) (kd_31 sh) (fun z => absurd z (by decide)) (dc := 0) (by omega) (F.mono (fun r h1 F => ?_))
  obtain ⟨z2, rfl, sh1, F⟩ := F
  show w_p _ _ 8 [(0, .ref 16), (1, .int a)] [.int z2] h1 _
  refine w_if_ne (tgt := 13) (x := z2) rfl (by decide) ⟨fun c3 => ?_, fun c3 => ?_⟩
  · have F := F.1 c3
    refine w_b 1 14 [(0, .ref 16), (1, .int a)] [.ref 16] rfl ?_
    refine w_cv (As := []) (b := 16) (rest := []) rfl rfl rfl (Nat.le_of_ble_eq_true rfl) (kd_16 sh1) (fun z => absurd z (by decide)) (dc := 15) (by omega) (F.mono (fun r h4 F => ?_))
    obtain ⟨rfl, sh4, F⟩ := F
    show w_p _ _ 17 [(0, .ref 16), (1, .int a)] [] h4 _
    refine w_b 1 18 [(0, .ref 16), (1, .int a)] [.ref 16] rfl ?_
    refine w_getS (b := 39) rfl rfl rfl (kd_16 sh4) (or_518_16 sh4) ?_
    refine w_b 1 22 [(0, .ref 16), (1, .int a)] [.int a, .ref 39] rfl ?_
    refine w_cv (As := [.int a]) (b := 39) (rest := []) rfl rfl rfl (Nat.le_of_ble_eq_true rfl) (kd_39 sh4) (fun z => absurd z (by decide)) (dc := 0) (by omega) (F.mono (fun r h5 F => ?_))
    obtain ⟨z6, rfl, sh5, F⟩ := F
    show w_p _ _ 25 [(0, .ref 16), (1, .int a)] [.int z6] h5 _
    refine w_b 4 29 [(3, .int 0), (2, .int z6), (0, .ref 16), (1, .int a)] [.ref 16] rfl ?_
    refine w_getS (b := 35) rfl rfl rfl (kd_16 sh5) (or_517_16 sh5) ?_
    refine w_b 1 33 [(3, .int 0), (2, .int z6), (0, .ref 16), (1, .int a)] [.int z6, .ref 35] rfl ?_
    refine w_cv (As := [.int z6]) (b := 35) (rest := []) rfl rfl rfl (Nat.le_of_ble_eq_true rfl) (kd_35 sh5) (fun z => absurd z (by decide)) (dc := 0) (by omega) (F.mono (fun r h7 F => ?_))
    obtain ⟨z8, rfl, sh7, F⟩ := F
    show w_p _ _ 36 [(3, .int 0), (2, .int z6), (0, .ref 16), (1, .int a)] [.int z8] h7 _
    refine w_if_eq (tgt := 81) (x := z8) rfl (by decide) ⟨fun c9 => ?_, fun c9 => ?_⟩
    · have F := F.1 c9
      refine w_b 1 82 [(3, .int 0), (2, .int z6), (0, .ref 16), (1, .int a)] [.ref 16] rfl ?_
      refine w_getS (b := 31) rfl rfl rfl (kd_16 sh7) (or_516_16 sh7) ?_
      refine w_b 1 86 [(3, .int 0), (2, .int z6), (0, .ref 16), (1, .int a)] [.int a, .ref 31] rfl ?_
      refine w_cv (As := [.int a]) (b := 31) (rest := []) rfl rfl rfl (Nat.le_of_ble_eq_true rfl) (kd_31 sh7) (fun z => absurd z (by decide)) (dc := 1) (by omega) (F.mono (fun r h10 F => ?_))
      obtain ⟨rfl, sh10, F⟩ := F
      show w_p _ _ 89 [(3, .int 0), (2, .int z6), (0, .ref 16), (1, .int a)] [] h10 _
      refine w_b 1 90 [(3, .int 0), (2, .int z6), (0, .ref 16), (1, .int a)] [.int 0] rfl ?_
      exact w_ir rfl F
    · have F := F.2 c9
      refine w_b 1 40 [(3, .int 0), (2, .int z6), (0, .ref 16), (1, .int a)] [.ref 16] rfl ?_
      refine w_getS (b := 21) rfl rfl rfl (kd_16 sh7) (or_514_16 sh7) ?_
      refine w_b 1 44 [(3, .int 0), (2, .int z6), (0, .ref 16), (1, .int a)] [.ref 16, .ref 21] rfl ?_
      refine w_get (g := 521) rfl rfl rfl (kd_16 sh7) ?_
      refine w_b 1 48 [(3, .int 0), (2, .int z6), (0, .ref 16), (1, .int a)] [.int 3, .int (h_oi h7 521 16), .ref 21] rfl ?_
      refine w_cv (As := [.int (h_oi h7 521 16), .int 3]) (b := 21) (rest := []) rfl rfl rfl (Nat.le_of_ble_eq_true rfl) (kd_21 sh7) (fun z => absurd z (by decide)) (dc := 1) (by omega) (F.mono (fun r h11 F => ?_))
      obtain ⟨z12, rfl, sh11, F⟩ := F
      show w_p _ _ 51 [(3, .int 0), (2, .int z6), (0, .ref 16), (1, .int a)] [.int z12] h11 _
      refine w_b 4 55 [(3, .int z12), (2, .int z6), (0, .ref 16), (1, .int a)] [.ref 16, .ref 16, .ref 16] rfl ?_
      refine w_getS (b := 31) rfl rfl rfl (kd_16 sh11) (or_516_16 sh11) ?_
      refine w_b 1 59 [(3, .int z12), (2, .int z6), (0, .ref 16), (1, .int a)] [.int a, .ref 31, .ref 16, .ref 16] rfl ?_
      refine w_cv (As := [.int a]) (b := 31) (rest := [.ref 16, .ref 16]) rfl rfl rfl (Nat.le_of_ble_eq_true rfl) (kd_31 sh11) (fun z => absurd z (by decide)) (dc := 1) (by omega) (F.mono (fun r h13 F => ?_))
      obtain ⟨z14, rfl, sh13, F⟩ := F
      show w_p _ _ 62 [(3, .int z12), (2, .int z6), (0, .ref 16), (1, .int a)] [.int z14, .ref 16, .ref 16] h13 _
      refine w_cv (As := [.int z14]) (b := 16) (rest := [.ref 16]) rfl rfl rfl (Nat.le_of_ble_eq_true rfl) (kd_16 sh13) (fun z => absurd z (by decide)) (dc := 0) (by omega) (F.mono (fun r h15 F => ?_))
      obtain ⟨z16, rfl, sh15, F⟩ := F
      show w_p _ _ 65 [(3, .int z12), (2, .int z6), (0, .ref 16), (1, .int a)] [va_rf z16, .ref 16] h15 _
      refine w_b 2 67 [(3, .int z12), (2, .int z6), (0, .ref 16), (1, .int a)] [.ref 16, .ref 16, va_rf z16, .ref 16] rfl ?_
      refine w_getS (b := 35) rfl rfl rfl (kd_16 sh15) (or_517_16 sh15) ?_
      refine w_b 1 71 [(3, .int z12), (2, .int z6), (0, .ref 16), (1, .int a)] [.int z6, .ref 35, .ref 16, va_rf z16, .ref 16] rfl ?_
      refine w_cv (As := [.int z6]) (b := 35) (rest := [.ref 16, va_rf z16, .ref 16]) rfl rfl rfl (by generalize z16 = zz0; cases zz0 <;> exact Nat.le_of_ble_eq_true rfl) (kd_35 sh15) (fun z => absurd z (by decide)) (dc := 1) (by omega) (F.mono (fun r h17 F => ?_))
      obtain ⟨z18, rfl, sh17, F⟩ := F
      show w_p _ _ 74 [(3, .int z12), (2, .int z6), (0, .ref 16), (1, .int a)] [.int z18, .ref 16, va_rf z16, .ref 16] h17 _
      refine w_cv (As := [.int z18]) (b := 16) (rest := [va_rf z16, .ref 16]) rfl rfl rfl (by generalize z16 = zz0; cases zz0 <;> exact Nat.le_of_ble_eq_true rfl) (kd_16 sh17) (fun z => absurd z (by decide)) (dc := 0) (by omega) (F.mono (fun r h19 F => ?_))
      obtain ⟨z20, rfl, sh19, F⟩ := F
      show w_p _ _ 77 [(3, .int z12), (2, .int z6), (0, .ref 16), (1, .int a)] [va_rf z20, va_rf z16, .ref 16] h19 _
      refine w_b 1 78 [(3, .int z12), (2, .int z6), (0, .ref 16), (1, .int a)] [.int z12, va_rf z20, va_rf z16, .ref 16] rfl ?_
      refine w_cv (As := [va_rf z16, va_rf z20, .int z12]) (b := 16) (rest := []) rfl rfl rfl (Nat.le_of_ble_eq_true rfl) (kd_16 sh19) (fun z => absurd z (by decide)) (dc := 24) (by omega) (F.mono (fun r h21 F => ?_))
      obtain ⟨rfl, sh21, F⟩ := F
      show w_p _ _ 81 [(3, .int z12), (2, .int z6), (0, .ref 16), (1, .int a)] [] h21 _
      refine w_b 1 82 [(3, .int z12), (2, .int z6), (0, .ref 16), (1, .int a)] [.ref 16] rfl ?_
      refine w_getS (b := 31) rfl rfl rfl (kd_16 sh21) (or_516_16 sh21) ?_
      refine w_b 1 86 [(3, .int z12), (2, .int z6), (0, .ref 16), (1, .int a)] [.int a, .ref 31] rfl ?_
      refine w_cv (As := [.int a]) (b := 31) (rest := []) rfl rfl rfl (Nat.le_of_ble_eq_true rfl) (kd_31 sh21) (fun z => absurd z (by decide)) (dc := 1) (by omega) (F.mono (fun r h22 F => ?_))
      obtain ⟨rfl, sh22, F⟩ := F
      show w_p _ _ 89 [(3, .int z12), (2, .int z6), (0, .ref 16), (1, .int a)] [] h22 _
      refine w_b 1 90 [(3, .int z12), (2, .int z6), (0, .ref 16), (1, .int a)] [.int z12] rfl ?_
      exact w_ir rfl F
  · have F := F.2 (Decidable.not_not.mp c3)
    refine w_b 1 12 [(0, .ref 16), (1, .int a)] [.int (-1)] rfl ?_
    exact w_ir rfl F

set_option maxRecDepth 20000 in
theorem t_X9_broken_0 {h : mm_H} {Q : Option Value → mm_H → Prop} (sh : s_h h) (a : Int32) {K93 : Int32 → Int32 → Int32 → mm_H → Prop} (k93 : ∀ (a : Int32) (x2 : Int32) (x3 : Int32) (h : mm_H), K93 a x2 x3 h → w_p 6 (9, 4, mc_X9_broken) 93 [(0, .ref 44), (1, .int a), (2, .int x2), (3, .int x3)] [] h Q) 
    (F : ((¬ (f_in a.toInt64 (Int64.ofNat 0) (((h_oi h 600 44) - (1 : Int32)).toInt64)) = 0 → w_c 5 140 [.ref 44] h (fun r h2 => ∃ z3 : Int32, r = some (.int z3) ∧ s_h h2 ∧ (vp_in a 10 ∧ ((¬ (h_ai h2 66 a.toNatClampNeg) = (-4) → w_c 1 116 [.ref 44, .int (h_oi h2 588 44), .int 3] h2 (fun r h6 => ∃ z7 : Int32, r = some (.int z7) ∧ s_h h6 ∧ (vp_in a 10 ∧ (((h_ai h6 66 a.toNatClampNeg) = (-4) → K93 a z7 a (h_sI h6 600 44 ((h_oi h6 600 44) - (1 : Int32)))) ∧ (¬ ((h_ai h6 66 a.toNatClampNeg) = (-4)) → (vp_in a 10 ∧ (vp_in a 10 ∧ (vp_in (h_ai h6 66 a.toNatClampNeg) 10 ∧ w_c 0 128 [.ref 44, .int (h_ai h6 55 a.toNatClampNeg), .int (h_ai h6 58 (h_ai h6 66 a.toNatClampNeg).toNatClampNeg), .int z7] h6 (fun r h13 => r = none ∧ s_h h13 ∧ K93 a z7 a (h_sI h13 600 44 ((h_oi h13 600 44) - (1 : Int32)))))))))))) ∧ ((h_ai h2 66 a.toNatClampNeg) = (-4) → (vp_in a 10 ∧ (((h_ai h2 66 a.toNatClampNeg) = (-4) → K93 a 0 a (h_sI h2 600 44 ((h_oi h2 600 44) - (1 : Int32)))) ∧ (¬ ((h_ai h2 66 a.toNatClampNeg) = (-4)) → (vp_in a 10 ∧ (vp_in a 10 ∧ (vp_in (h_ai h2 66 a.toNatClampNeg) 10 ∧ w_c 0 128 [.ref 44, .int (h_ai h2 55 a.toNatClampNeg), .int (h_ai h2 58 (h_ai h2 66 a.toNatClampNeg).toNatClampNeg), .int 0] h2 (fun r h19 => r = none ∧ s_h h19 ∧ K93 a 0 a (h_sI h19 600 44 ((h_oi h19 600 44) - (1 : Int32))))))))))))))) ∧ ((f_in a.toInt64 (Int64.ofNat 0) (((h_oi h 600 44) - (1 : Int32)).toInt64)) = 0 → Q (some (.int (-1))) h))) :
    w_c 6 145 [.ref 44, .int a] h Q := by
  refine w_ci (M := (9, 4, mc_X9_broken)) rfl (Nat.le_of_ble_eq_true rfl) ?_
  show w_p _ _ 0 [(0, .ref 44), (1, .int a)] [] h Q
  refine w_b 4 4 [(0, .ref 44), (1, .int a)] [.ref 44, .long (Int64.ofNat 0), .long a.toInt64] rfl ?_
  refine w_get (g := 600) rfl rfl rfl (kd_44 sh) ?_
  refine w_b 3 10 [(0, .ref 44), (1, .int a)] [.long (((h_oi h 600 44) - (1 : Int32)).toInt64), .long (Int64.ofNat 0), .long a.toInt64] rfl ?_
  refine w_cs (As := [.long a.toInt64, .long (Int64.ofNat 0), .long (((h_oi h 600 44) - (1 : Int32)).toInt64)]) (rest := []) rfl rfl rfl (Nat.le_of_ble_eq_true rfl) (dc := 0) (by omega) (sp_in  ?_)
  show w_p _ _ 13 [(0, .ref 44), (1, .int a)] [.int (f_in a.toInt64 (Int64.ofNat 0) (((h_oi h 600 44) - (1 : Int32)).toInt64))] h _
  refine w_if_ne (tgt := 18) (x := f_in a.toInt64 (Int64.ofNat 0) (((h_oi h 600 44) - (1 : Int32)).toInt64)) rfl (by decide) ⟨fun c1 => ?_, fun c1 => ?_⟩
  · have F := F.1 c1
    refine w_b 1 19 [(0, .ref 44), (1, .int a)] [.ref 44] rfl ?_
    refine w_cv (As := []) (b := 44) (rest := []) rfl rfl rfl (Nat.le_of_ble_eq_true rfl) (kd_44 sh) (fun z => absurd z (by decide)) (dc := 5) (by omega) (F.mono (fun r h2 F => ?_))
    obtain ⟨z3, rfl, sh2, F⟩ := F
    show w_p _ _ 22 [(0, .ref 44), (1, .int a)] [.int z3] h2 _
    refine w_b 2 24 [(0, .ref 44), (1, .int a)] [.ref 44] rfl ?_
    refine w_getS (b := 66) rfl rfl rfl (kd_44 sh2) (or_613_44 sh2) ?_
    refine w_b 1 28 [(0, .ref 44), (1, .int a)] [.int a, .ref 66] rfl ?_
    obtain ⟨g4, F⟩ := F
    refine w_iald rfl (kd_66 sh2) (Eq.mpr (congrArg (vp_in a) (al_66 sh2)) g4) ?_
    refine w_b 1 31 [(0, .ref 44), (1, .int a)] [.int (-4), .int (h_ai h2 66 a.toNatClampNeg)] rfl ?_
    refine w_ic_ne (tgt := 38) (x := h_ai h2 66 a.toNatClampNeg) (y := (-4)) rfl (by decide) ⟨fun c5 => ?_, fun c5 => ?_⟩
    · have F := F.1 c5
      refine w_b 2 40 [(0, .ref 44), (1, .int a)] [.ref 44, .ref 44] rfl ?_
      refine w_get (g := 588) rfl rfl rfl (kd_44 sh2) ?_
      refine w_b 1 44 [(0, .ref 44), (1, .int a)] [.int 3, .int (h_oi h2 588 44), .ref 44] rfl ?_
      refine w_cv (As := [.int (h_oi h2 588 44), .int 3]) (b := 44) (rest := []) rfl rfl rfl (Nat.le_of_ble_eq_true rfl) (kd_44 sh2) (fun z => absurd z (by decide)) (dc := 1) (by omega) (F.mono (fun r h6 F => ?_))
      obtain ⟨z7, rfl, sh6, F⟩ := F
      show w_p _ _ 47 [(0, .ref 44), (1, .int a)] [.int z7] h6 _
      refine w_b 2 49 [(2, .int z7), (0, .ref 44), (1, .int a)] [.ref 44] rfl ?_
      refine w_getS (b := 66) rfl rfl rfl (kd_44 sh6) (or_613_44 sh6) ?_
      refine w_b 1 53 [(2, .int z7), (0, .ref 44), (1, .int a)] [.int a, .ref 66] rfl ?_
      obtain ⟨g8, F⟩ := F
      refine w_iald rfl (kd_66 sh6) (Eq.mpr (congrArg (vp_in a) (al_66 sh6)) g8) ?_
      refine w_b 1 56 [(2, .int z7), (0, .ref 44), (1, .int a)] [.int (-4), .int (h_ai h6 66 a.toNatClampNeg)] rfl ?_
      refine w_ic_eq (tgt := 81) (x := h_ai h6 66 a.toNatClampNeg) (y := (-4)) rfl (by decide) ⟨fun c9 => ?_, fun c9 => ?_⟩
      · have F := F.1 c9
        refine w_b 2 83 [(2, .int z7), (0, .ref 44), (1, .int a)] [.ref 44, .ref 44] rfl ?_
        refine w_get (g := 600) rfl rfl rfl (kd_44 sh6) ?_
        refine w_b 2 88 [(2, .int z7), (0, .ref 44), (1, .int a)] [.int ((h_oi h6 600 44) - (1 : Int32)), .ref 44] rfl ?_
        refine w_put (g := 600) (x := (h_oi h6 600 44) - (1 : Int32)) rfl rfl rfl (kd_44 sh6) (by decide) ?_
        refine w_b 2 93 [(3, .int a), (2, .int z7), (0, .ref 44), (1, .int a)] [] rfl ?_
        refine w_lo [0, 1, 2, 3] [(0, .ref 44), (1, .int a), (2, .int z7), (3, .int a)] rfl rfl ?_
        exact k93 _ _ _ _ F
      · have F := F.2 c9
        refine w_b 2 61 [(2, .int z7), (0, .ref 44), (1, .int a)] [.ref 44, .ref 44] rfl ?_
        refine w_getS (b := 55) rfl rfl rfl (kd_44 sh6) (or_601_44 sh6) ?_
        refine w_b 1 65 [(2, .int z7), (0, .ref 44), (1, .int a)] [.int a, .ref 55, .ref 44] rfl ?_
        obtain ⟨g10, F⟩ := F
        refine w_iald rfl (kd_55 sh6) (Eq.mpr (congrArg (vp_in a) (al_55 sh6)) g10) ?_
        refine w_b 1 67 [(2, .int z7), (0, .ref 44), (1, .int a)] [.ref 44, .int (h_ai h6 55 a.toNatClampNeg), .ref 44] rfl ?_
        refine w_getS (b := 58) rfl rfl rfl (kd_44 sh6) (or_605_44 sh6) ?_
        refine w_b 1 71 [(2, .int z7), (0, .ref 44), (1, .int a)] [.ref 44, .ref 58, .int (h_ai h6 55 a.toNatClampNeg), .ref 44] rfl ?_
        refine w_getS (b := 66) rfl rfl rfl (kd_44 sh6) (or_613_44 sh6) ?_
        refine w_b 1 75 [(2, .int z7), (0, .ref 44), (1, .int a)] [.int a, .ref 66, .ref 58, .int (h_ai h6 55 a.toNatClampNeg), .ref 44] rfl ?_
        obtain ⟨g11, F⟩ := F
        refine w_iald rfl (kd_66 sh6) (Eq.mpr (congrArg (vp_in a) (al_66 sh6)) g11) ?_
        obtain ⟨g12, F⟩ := F
        refine w_iald rfl (kd_58 sh6) (Eq.mpr (congrArg (vp_in (h_ai h6 66 a.toNatClampNeg)) (al_58 sh6)) g12) ?_
        refine w_b 1 78 [(2, .int z7), (0, .ref 44), (1, .int a)] [.int z7, .int (h_ai h6 58 (h_ai h6 66 a.toNatClampNeg).toNatClampNeg), .int (h_ai h6 55 a.toNatClampNeg), .ref 44] rfl ?_
        refine w_cv (As := [.int (h_ai h6 55 a.toNatClampNeg), .int (h_ai h6 58 (h_ai h6 66 a.toNatClampNeg).toNatClampNeg), .int z7]) (b := 44) (rest := []) rfl rfl rfl (Nat.le_of_ble_eq_true rfl) (kd_44 sh6) (fun z => absurd z (by decide)) (dc := 0) (by omega) (F.mono (fun r h13 F => ?_))
        obtain ⟨rfl, sh13, F⟩ := F
        show w_p _ _ 81 [(2, .int z7), (0, .ref 44), (1, .int a)] [] h13 _
        refine w_b 2 83 [(2, .int z7), (0, .ref 44), (1, .int a)] [.ref 44, .ref 44] rfl ?_
        refine w_get (g := 600) rfl rfl rfl (kd_44 sh13) ?_
        refine w_b 2 88 [(2, .int z7), (0, .ref 44), (1, .int a)] [.int ((h_oi h13 600 44) - (1 : Int32)), .ref 44] rfl ?_
        refine w_put (g := 600) (x := (h_oi h13 600 44) - (1 : Int32)) rfl rfl rfl (kd_44 sh13) (by decide) ?_
        refine w_b 2 93 [(3, .int a), (2, .int z7), (0, .ref 44), (1, .int a)] [] rfl ?_
        refine w_lo [0, 1, 2, 3] [(0, .ref 44), (1, .int a), (2, .int z7), (3, .int a)] rfl rfl ?_
        exact k93 _ _ _ _ F
    · have F := F.2 (Decidable.not_not.mp c5)
      refine w_b 4 49 [(2, .int 0), (0, .ref 44), (1, .int a)] [.ref 44] rfl ?_
      refine w_getS (b := 66) rfl rfl rfl (kd_44 sh2) (or_613_44 sh2) ?_
      refine w_b 1 53 [(2, .int 0), (0, .ref 44), (1, .int a)] [.int a, .ref 66] rfl ?_
      obtain ⟨g14, F⟩ := F
      refine w_iald rfl (kd_66 sh2) (Eq.mpr (congrArg (vp_in a) (al_66 sh2)) g14) ?_
      refine w_b 1 56 [(2, .int 0), (0, .ref 44), (1, .int a)] [.int (-4), .int (h_ai h2 66 a.toNatClampNeg)] rfl ?_
      refine w_ic_eq (tgt := 81) (x := h_ai h2 66 a.toNatClampNeg) (y := (-4)) rfl (by decide) ⟨fun c15 => ?_, fun c15 => ?_⟩
      · have F := F.1 c15
        refine w_b 2 83 [(2, .int 0), (0, .ref 44), (1, .int a)] [.ref 44, .ref 44] rfl ?_
        refine w_get (g := 600) rfl rfl rfl (kd_44 sh2) ?_
        refine w_b 2 88 [(2, .int 0), (0, .ref 44), (1, .int a)] [.int ((h_oi h2 600 44) - (1 : Int32)), .ref 44] rfl ?_
        refine w_put (g := 600) (x := (h_oi h2 600 44) - (1 : Int32)) rfl rfl rfl (kd_44 sh2) (by decide) ?_
        refine w_b 2 93 [(3, .int a), (2, .int 0), (0, .ref 44), (1, .int a)] [] rfl ?_
        refine w_lo [0, 1, 2, 3] [(0, .ref 44), (1, .int a), (2, .int 0), (3, .int a)] rfl rfl ?_
        exact k93 _ _ _ _ F
      · have F := F.2 c15
        refine w_b 2 61 [(2, .int 0), (0, .ref 44), (1, .int a)] [.ref 44, .ref 44] rfl ?_
        refine w_getS (b := 55) rfl rfl rfl (kd_44 sh2) (or_601_44 sh2) ?_
        refine w_b 1 65 [(2, .int 0), (0, .ref 44), (1, .int a)] [.int a, .ref 55, .ref 44] rfl ?_
        obtain ⟨g16, F⟩ := F
        refine w_iald rfl (kd_55 sh2) (Eq.mpr (congrArg (vp_in a) (al_55 sh2)) g16) ?_
        refine w_b 1 67 [(2, .int 0), (0, .ref 44), (1, .int a)] [.ref 44, .int (h_ai h2 55 a.toNatClampNeg), .ref 44] rfl ?_
        refine w_getS (b := 58) rfl rfl rfl (kd_44 sh2) (or_605_44 sh2) ?_
        refine w_b 1 71 [(2, .int 0), (0, .ref 44), (1, .int a)] [.ref 44, .ref 58, .int (h_ai h2 55 a.toNatClampNeg), .ref 44] rfl ?_
        refine w_getS (b := 66) rfl rfl rfl (kd_44 sh2) (or_613_44 sh2) ?_
        refine w_b 1 75 [(2, .int 0), (0, .ref 44), (1, .int a)] [.int a, .ref 66, .ref 58, .int (h_ai h2 55 a.toNatClampNeg), .ref 44] rfl ?_
        obtain ⟨g17, F⟩ := F
        refine w_iald rfl (kd_66 sh2) (Eq.mpr (congrArg (vp_in a) (al_66 sh2)) g17) ?_
        obtain ⟨g18, F⟩ := F
        refine w_iald rfl (kd_58 sh2) (Eq.mpr (congrArg (vp_in (h_ai h2 66 a.toNatClampNeg)) (al_58 sh2)) g18) ?_
        refine w_b 1 78 [(2, .int 0), (0, .ref 44), (1, .int a)] [.int 0, .int (h_ai h2 58 (h_ai h2 66 a.toNatClampNeg).toNatClampNeg), .int (h_ai h2 55 a.toNatClampNeg), .ref 44] rfl ?_
        refine w_cv (As := [.int (h_ai h2 55 a.toNatClampNeg), .int (h_ai h2 58 (h_ai h2 66 a.toNatClampNeg).toNatClampNeg), .int 0]) (b := 44) (rest := []) rfl rfl rfl (Nat.le_of_ble_eq_true rfl) (kd_44 sh2) (fun z => absurd z (by decide)) (dc := 0) (by omega) (F.mono (fun r h19 F => ?_))
        obtain ⟨rfl, sh19, F⟩ := F
        show w_p _ _ 81 [(2, .int 0), (0, .ref 44), (1, .int a)] [] h19 _
        refine w_b 2 83 [(2, .int 0), (0, .ref 44), (1, .int a)] [.ref 44, .ref 44] rfl ?_
        refine w_get (g := 600) rfl rfl rfl (kd_44 sh19) ?_
        refine w_b 2 88 [(2, .int 0), (0, .ref 44), (1, .int a)] [.int ((h_oi h19 600 44) - (1 : Int32)), .ref 44] rfl ?_
        refine w_put (g := 600) (x := (h_oi h19 600 44) - (1 : Int32)) rfl rfl rfl (kd_44 sh19) (by decide) ?_
        refine w_b 2 93 [(3, .int a), (2, .int 0), (0, .ref 44), (1, .int a)] [] rfl ?_
        refine w_lo [0, 1, 2, 3] [(0, .ref 44), (1, .int a), (2, .int 0), (3, .int a)] rfl rfl ?_
        exact k93 _ _ _ _ F
  · have F := F.2 (Decidable.not_not.mp c1)
    refine w_b 1 17 [(0, .ref 44), (1, .int a)] [.int (-1)] rfl ?_
    exact w_ir rfl F

set_option maxRecDepth 20000 in
theorem t_X9_broken_93 {h : mm_H} {Q : Option Value → mm_H → Prop} (sh : s_h h) (a : Int32) (x2 : Int32) (x3 : Int32) {K93 : Int32 → Int32 → Int32 → mm_H → Prop} (k93 : ∀ (a : Int32) (x2 : Int32) (x3 : Int32) (h : mm_H), K93 a x2 x3 h → w_p 6 (9, 4, mc_X9_broken) 93 [(0, .ref 44), (1, .int a), (2, .int x2), (3, .int x3)] [] h Q) 
    (F : (((h_oi h 600 44) ≤ x3 → Q (some (.int x2)) h) ∧ (¬ ((h_oi h 600 44) ≤ x3) → (vp_in (x3 + 1) 10 ∧ (vp_in x3 10 ∧ (vp_in (x3 + 1) 10 ∧ (vp_in x3 10 ∧ (vp_in (x3 + 1) 10 ∧ (vp_in x3 10 ∧ K93 a x2 (x3 + 1) (h_sA (h_sA (h_sA h 55 x3.toNatClampNeg (h_ai h 55 (x3 + 1).toNatClampNeg)) 56 x3.toNatClampNeg (h_ai h 56 (x3 + 1).toNatClampNeg)) 57 x3.toNatClampNeg (h_ai h 57 (x3 + 1).toNatClampNeg))))))))))) :
    w_p 6 (9, 4, mc_X9_broken) 93 [(0, .ref 44), (1, .int a), (2, .int x2), (3, .int x3)] [] h Q := by
  refine w_b 2 95 [(0, .ref 44), (1, .int a), (2, .int x2), (3, .int x3)] [.ref 44, .int x3] rfl ?_
  refine w_get (g := 600) rfl rfl rfl (kd_44 sh) ?_
  refine w_ic_ge (tgt := 149) (x := x3) (y := h_oi h 600 44) rfl (by decide) ⟨fun c1 => ?_, fun c1 => ?_⟩
  · have F := F.1 c1
    refine w_b 1 150 [(0, .ref 44), (1, .int a), (2, .int x2), (3, .int x3)] [.int x2] rfl ?_
    exact w_ir rfl F
  · have F := F.2 c1
    refine w_b 1 102 [(0, .ref 44), (1, .int a), (2, .int x2), (3, .int x3)] [.ref 44] rfl ?_
    refine w_getS (b := 55) rfl rfl rfl (kd_44 sh) (or_601_44 sh) ?_
    refine w_b 2 107 [(0, .ref 44), (1, .int a), (2, .int x2), (3, .int x3)] [.ref 44, .int x3, .ref 55] rfl ?_
    refine w_getS (b := 55) rfl rfl rfl (kd_44 sh) (or_601_44 sh) ?_
    refine w_b 3 113 [(0, .ref 44), (1, .int a), (2, .int x2), (3, .int x3)] [.int (x3 + 1), .ref 55, .int x3, .ref 55] rfl ?_
    obtain ⟨g2, F⟩ := F
    refine w_iald rfl (kd_55 sh) (Eq.mpr (congrArg (vp_in (x3 + 1)) (al_55 sh)) g2) ?_
    obtain ⟨g3, F⟩ := F
    refine w_iast rfl (kd_55 sh) (by decide) (Eq.mpr (congrArg (vp_in x3) (al_55 sh)) g3) ?_
    refine w_b 1 116 [(0, .ref 44), (1, .int a), (2, .int x2), (3, .int x3)] [.ref 44] rfl ?_
    refine w_getS (b := 56) rfl rfl rfl (kd_44 sh) (or_602_44 sh) ?_
    refine w_b 2 121 [(0, .ref 44), (1, .int a), (2, .int x2), (3, .int x3)] [.ref 44, .int x3, .ref 56] rfl ?_
    refine w_getS (b := 56) rfl rfl rfl (kd_44 sh) (or_602_44 sh) ?_
    refine w_b 3 127 [(0, .ref 44), (1, .int a), (2, .int x2), (3, .int x3)] [.int (x3 + 1), .ref 56, .int x3, .ref 56] rfl ?_
    obtain ⟨g4, F⟩ := F
    refine w_iald rfl (kd_56 sh) (Eq.mpr (congrArg (vp_in (x3 + 1)) (al_56 sh)) g4) ?_
    obtain ⟨g5, F⟩ := F
    refine w_iast rfl (kd_56 sh) (by decide) (Eq.mpr (congrArg (vp_in x3) (al_56 sh)) g5) ?_
    refine w_b 1 130 [(0, .ref 44), (1, .int a), (2, .int x2), (3, .int x3)] [.ref 44] rfl ?_
    refine w_getS (b := 57) rfl rfl rfl (kd_44 sh) (or_603_44 sh) ?_
    refine w_b 2 135 [(0, .ref 44), (1, .int a), (2, .int x2), (3, .int x3)] [.ref 44, .int x3, .ref 57] rfl ?_
    refine w_getS (b := 57) rfl rfl rfl (kd_44 sh) (or_603_44 sh) ?_
    refine w_b 3 141 [(0, .ref 44), (1, .int a), (2, .int x2), (3, .int x3)] [.int (x3 + 1), .ref 57, .int x3, .ref 57] rfl ?_
    obtain ⟨g6, F⟩ := F
    refine w_iald rfl (kd_57 sh) (Eq.mpr (congrArg (vp_in (x3 + 1)) (al_57 sh)) g6) ?_
    obtain ⟨g7, F⟩ := F
    refine w_iast rfl (kd_57 sh) (by decide) (Eq.mpr (congrArg (vp_in x3) (al_57 sh)) g7) ?_
    refine w_b 2 93 [(3, .int (x3 + 1)), (0, .ref 44), (1, .int a), (2, .int x2)] [] rfl ?_
    refine w_lo [0, 1, 2, 3] [(0, .ref 44), (1, .int a), (2, .int x2), (3, .int (x3 + 1))] rfl rfl ?_
    exact k93 _ _ _ _ F

/-! BROKEN ASKS -/
def sk (f : Nat → Nat) (j : Nat) : Nat → Nat := fun i => if i < j then f i else f (i + 1)
def v_rm (A : zV) (j : Nat) : zV := (A.1 - 1, sk A.2.1 j, sk A.2.2.1 j, sk A.2.2.2 j)
theorem z_rm {cap : Nat → Nat} {W j : Nat} {F : zF} {A O : zV} {N : zN} {H : zH} (Z : zP W cap F A O N H) (hj : j < A.1) : zP W cap F (v_rm A j) O N H := by
  obtain ⟨z1, ⟨z2, z2'⟩, z3, z4, z5, z6, z7, z8⟩ := Z
  refine ⟨z1, ⟨by show A.1 - 1 ≤ 10; omega, fun i hi => ?_⟩, z3, z4, z5, z6, z7, z8⟩
  have hi : i < A.1 - 1 := hi
  show ((sk A.2.1 j i < F.1 ∧ F.2 (sk A.2.1 j i) = true) ∧ sk A.2.2.1 j i < sk A.2.2.2 j i ∧ sk A.2.2.2 j i ≤ 48)
  unfold sk
  by_cases w : i < j
  · rw [if_pos w, if_pos w, if_pos w]; exact z2' i (by omega)
  · rw [if_neg w, if_neg w, if_neg w]; exact z2' (i + 1) (by omega)
/-- an array in which the cells from j to i have been moved down -/
def skA (f : Nat → Nat) (j i t : Nat) : Nat := if t < i then sk f j t else f t
theorem skA_0 (f : Nat → Nat) (j t : Nat) : skA f j j t = f t := by
  unfold skA sk
  by_cases w : t < j
  · rw [if_pos w, if_pos w]
  · rw [if_neg w]
theorem skA_s {f : Nat → Nat} {j i : Nat} (hij : j ≤ i) (t : Nat) : va_up (skA f j i) i (f (i + 1)) t = skA f j (i + 1) t := by
  by_cases w : t = i
  · rw [w, va_up_self]
    unfold skA sk
    rw [if_pos (by omega), if_neg (by omega)]
  · rw [va_up_ne _ _ w]
    unfold skA
    by_cases y : t < i
    · rw [if_pos y, if_pos (by omega)]
    · rw [if_neg y, if_neg (by omega)]
theorem skA_at {f : Nat → Nat} {j i t : Nat} (h : i ≤ t) : skA f j i t = f t := by unfold skA; rw [if_neg (by omega)]
theorem skA_e {f : Nat → Nat} {j i t : Nat} (h : t < i) : skA f j i t = sk f j t := by unfold skA; rw [if_pos h]
theorem up_nI {a : Nat → Int32} {f : Nat → Nat} {n i v : Nat} (h : ∀ t, t < n → a t = nI (f t)) : ∀ t, t < n → va_up a i (nI v) t = nI (va_up f i v t) := fun t ht => by
  by_cases w : t = i
  · rw [w, va_up_self, va_up_self]
  · rw [va_up_ne _ _ w, va_up_ne _ _ w]; exact h t ht
theorem c_remove {h : mm_H} {Q : Option Value → mm_H → Prop} (sh : s_h h) {n : Nat} {vf va vb : Nat → Nat} (V : cV h 31 n vf va vb) (hn : n ≤ 10) {j : Nat} (hj : j < n) (k : ∀ h', fx h h' [(451, 31)] [32, 33, 34] → dn h h' → cV h' 31 (n - 1) (sk vf j) (sk va j) (sk vb j) → Q none h') : w_c 1 59 [.ref 31, .int (nI j)] h Q := by
  obtain ⟨v1, v2⟩ := id V
  have loop : ∀ w i, i + 1 + w = n → j ≤ i → ∀ h1, fx h h1 [(451, 31)] [32, 33, 34] → dn h h1 → h_oi h1 451 31 = nI n → (∀ t, t < n → h_ai h1 32 t = nI (skA vf j i t)) → (∀ t, t < n → h_ai h1 33 t = nI (skA va j i t)) → (∀ t, t < n → h_ai h1 34 t = nI (skA vb j i t)) → w_p 1 (7, 3, mc_X7_remove) 13 [(0, .ref 31), (1, .int (nI j)), (2, .int (nI (i + 1)))] [] h1 Q := by
    intro w
    induction w with
    | zero =>
      intro i hi hji h1 f1 d1 n1 q1 q2 q3
      refine t_X7_remove_13 (f1.sh sh (by decide)) _ _ (K13 := fun _ _ _ => False) (fun _ _ _ z => z.elim) ⟨fun _ => ?_, fun z => absurd ?_ z⟩
      · rw [n1, nI_sub1 (by omega)]
        refine k _ (f1.sI _ (Or.inl (by decide))) (d1.sI _ (by decide)) ⟨oi_self _ _ _ _, fun t ht => ⟨?_, ?_, ?_⟩⟩
        · exact (q1 t (by omega)).trans (by rw [skA_e (by omega)])
        · exact (q2 t (by omega)).trans (by rw [skA_e (by omega)])
        · exact (q3 t (by omega)).trans (by rw [skA_e (by omega)])
      · rw [n1, i_le (by omega) (by omega)]; omega
    | succ w ih =>
      intro i hi hji h1 f1 d1 n1 q1 q2 q3
      have x0 : nI (i + 1) - 1 = nI i := nI_sub1 (by omega)
      have va1 : vp_in (nI (i + 1)) 10 := vp_in_nI (by omega) (by decide)
      have va2 : vp_in (nI i) 10 := vp_in_nI (by omega) (by decide)
      have g1 : h_ai h1 32 (i + 1) = nI (vf (i + 1)) := (q1 (i + 1) (by omega)).trans (by rw [skA_at (by omega)])
      have g2 : h_ai h1 33 (i + 1) = nI (va (i + 1)) := (q2 (i + 1) (by omega)).trans (by rw [skA_at (by omega)])
      have g3 : h_ai h1 34 (i + 1) = nI (vb (i + 1)) := (q3 (i + 1) (by omega)).trans (by rw [skA_at (by omega)])
      refine t_X7_remove_13 (f1.sh sh (by decide)) _ _ (K13 := fun y1 y2 hh => y1 = nI j ∧ y2 = nI (i + 1 + 1) ∧ hh = h_sA (h_sA (h_sA h1 32 i (nI (vf (i + 1)))) 33 i (nI (va (i + 1)))) 34 i (nI (vb (i + 1)))) (fun y1 y2 hh z => ?_) ⟨fun z => ?_, fun _ => ?_⟩
      · obtain ⟨rfl, rfl, rfl⟩ := z
        refine ih (i + 1) (by omega) (by omega) _ (((f1.sA _ _ (Or.inl (by decide))).sA _ _ (Or.inl (by decide))).sA _ _ (Or.inl (by decide))) (((d1.sA _ _ (by decide)).sA _ _ (by decide)).sA _ _ (by decide)) n1 (fun t ht => ?_) (fun t ht => ?_) (fun t ht => ?_)
        · rw [ai_ne (by decide), ai_ne (by decide), ai_self, up_nI q1 t ht, skA_s hji]
        · rw [ai_ne (by decide), ai_self, ai_ne (by decide), up_nI q2 t ht, skA_s hji]
        · rw [ai_self, ai_ne (by decide), ai_ne (by decide), up_nI q3 t ht, skA_s hji]
      · rw [n1, i_le (by omega) (by omega)] at z; omega
      · rw [x0, i_cl (a := i) (by omega), i_cl (a := i + 1) (by omega), g1, g2, g3]
        exact ⟨va1, va2, va1, va2, va1, va2, rfl, nI_1 (i + 1), rfl⟩
  refine t_X7_remove_0 sh _ (K13 := fun y1 y2 hh => y1 = nI j ∧ y2 = nI (j + 1) ∧ hh = h) (fun y1 y2 hh z => ?_) ((c_has31 sh V hn _ (fun z => absurd ⟨j, rfl, hj⟩ z) (fun _ _ _ => ⟨_, rfl, sh, fun _ => ⟨rfl, nI_1 j, rfl⟩, fun z => absurd z (by decide)⟩)).up (by decide))
  obtain ⟨rfl, rfl, rfl⟩ := z
  exact loop (n - (j + 1)) j (by omega) (Nat.le_refl _) hh (fx.rf _ _ _) (dn.rf _) v1 (fun t ht => by rw [skA_0]; exact (v2 t ht).1) (fun t ht => by rw [skA_0]; exact (v2 t ht).2.1) (fun t ht => by rw [skA_0]; exact (v2 t ht).2.2)
theorem CS.rm {h h' : mm_H} {own cap : Nat → Nat} {T : zT} {X : zX} {dy : Nat} {ft : Int32} {F : zF} {A O : zV} {N : zN} {C : zC} {H : zH} {j : Nat} (K : CS h own cap T X dy ft F A O N C H) (f : fx h h' [(451, 31)] [32, 33, 34]) (d : dn h h') (V : cV h' 31 (A.1 - 1) (sk A.2.1 j) (sk A.2.2.1 j) (sk A.2.2.2 j)) : CS h' own cap T X dy ft F (v_rm A j) O N C H := by
  obtain ⟨k1, k2, k3, k4, k5, k6, k7, k8, k9, k10⟩ := K
  exact ⟨k1.fx f (by decide) (by decide), k2.fx f (by decide) (by decide) (by decide), k3.fx f (by decide), k4.fx f (by decide), k5.dn f d (by decide) (by decide), V, k7.fx f (by decide) (by decide) (by decide) (by decide) (by decide), k8.dn f d (by decide), k9.fx f (by decide) (by decide) (by decide), k10.dn f d (by decide)⟩
noncomputable def zBk1 (X : zX) (dy : Nat) (A O : zV) (N : zN) (C : zC) (j : Nat) : zN × zC × Nat := match zMg X dy A O N j with
  | none => (N, C, 0)
  | some o => (n_pay N (A.2.1 j) (O.2.1 o) (zLw X dy 3) dy, c_pays C N (A.2.1 j) (O.2.1 o) (zLw X dy 3), zLw X dy 3)
theorem zBk1_n {X : zX} {dy : Nat} {A O : zV} {N : zN} {C : zC} {j : Nat} (e : zMg X dy A O N j = none) : zBk1 X dy A O N C j = (N, C, 0) := by unfold zBk1; rw [e]
theorem zBk1_s {X : zX} {dy : Nat} {A O : zV} {N : zN} {C : zC} {j o : Nat} (e : zMg X dy A O N j = some o) : zBk1 X dy A O N C j = (n_pay N (A.2.1 j) (O.2.1 o) (zLw X dy 3) dy, c_pays C N (A.2.1 j) (O.2.1 o) (zLw X dy 3), zLw X dy 3) := by unfold zBk1; rw [e]
set_option maxHeartbeats 1000000 in
theorem c_broken {h : mm_H} {Q : Option Value → mm_H → Prop} {own cap : Nat → Nat} {T : zT} {X : zX} {dy W : Nat} {ft : Int32} {F : zF} {A O : zV} {N : zN} {C : zC} {H : zH} (sh : s_h h) (K : CS h own cap T X dy ft F A O N C H) (Z : zP W cap F A O N H) (hW : W + 1000 ≤ 1000000) (a : Int32) (k0 : ¬ isA A.1 a → Q (some (.int (-1))) h) (k1 : ∀ j, a = nI j → j < A.1 → ∀ h' own' cap', CS h' own' cap' T X dy ft F (v_rm A j) O (zBk1 X dy A O N C j).1 (zBk1 X dy A O N C j).2.1 H → fC h h' → rR h cap h' cap' → zP (W + 1000) cap' F (v_rm A j) O (zBk1 X dy A O N C j).1 H → Q (some (.int (nI (zBk1 X dy A O N C j).2.2))) h') : w_c 25 81 [.ref 16, .int a] h Q := by
  have z1 := Z.1
  have z2 := Z.2.1.1
  have z4 := Z.2.2.1.1
  refine t_X8_broken_0 sh _ ((c_has31 sh K.2.2.2.2.2.1 z2 a (fun c => ⟨_, rfl, sh, fun z => absurd rfl z, fun _ => k0 c⟩) (fun j e hj => ⟨_, rfl, sh, fun _ => ?_, fun z => absurd z (by decide)⟩)).up (by decide))
  subst e
  refine (c_findM sh K Z (fun h1 f d M Mz G => ⟨rfl, f.sh sh (by decide), ?_⟩)).up (by decide)
  have sh1 := f.sh sh (by decide)
  have K1 : CS h1 own cap T X dy ft F A O N C H := K.sc f d
  have fc1 : fC h h1 := f.wk (by decide) (by decide)
  have r1 : rR h cap h1 cap := rR.rm ⟨d.1, d.2.1⟩ _
  have G : cG h1 A.1 (zMg X dy A O N) := G
  refine (c_offerOf sh1 M G hj ⟨_, rfl, sh1, ?_⟩).up (by decide)
  have k1 := k1 j rfl hj
  obtain ⟨a1, a3, a4⟩ := Z.2.1.2 j hj
  cases e : zMg X dy A O N j with
  | none =>
    rw [zBk1_n e] at k1
    refine (c_has35 sh1 K1.2.2.2.2.2.2.1 z4 _ (fun _ => ⟨_, rfl, sh1, fun _ => ?_, fun z => absurd rfl z⟩) (fun i ei hi => absurd ei.symm (nI_neN i (by omega)))).up (by decide)
    refine (c_remove sh1 K1.2.2.2.2.2.1 z2 hj (fun h2 f2 d2 V2 => ⟨rfl, f2.sh sh1 (by decide), ?_⟩)).up (by decide)
    exact k1 h2 own cap (K1.rm f2 d2 V2) (fc1.tr (f2.wk (by decide) (by decide))) (r1.tr (rR.rm ⟨d2.1, d2.2.1⟩ _)) (z_rm (z_W Z (by omega) hW) hj)
  | some o =>
    rw [zBk1_s e] at k1
    obtain ⟨ho, hne⟩ := zMg_ne e
    obtain ⟨b1, b3, b4⟩ := Z.2.2.1.2 o ho
    have cd := K1.2.2.1
    have hd := cd.1
    have hl : zLw X dy 3 ≤ 400 := tV_gle K.2.1.1 (by decide)
    refine (c_has35 sh1 K1.2.2.2.2.2.2.1 z4 (nI o) (fun c => absurd ⟨o, rfl, ho⟩ c) (fun _ _ _ => ⟨_, rfl, sh1, fun z => absurd z (by decide), fun _ => ?_⟩)).up (by decide)
    rw [cd.2]
    refine (sp_lawC sh1 K1.2.1 (d := dy) (k := 3) (by omega) (by decide) ⟨_, rfl, sh1, ?_⟩).up (by decide)
    rw [tL_g (by decide)]
    refine (c_famOf31 sh1 K1.2.2.2.2.2.1 z2 hj ⟨_, rfl, sh1, (c_famAt sh1 K1.2.2.2.2.1 K1.2.2.2.2.2.2.2.1 a1.1 a1.2 (fun q p d' n KA => ⟨_, rfl, sh1, (c_famOf35 sh1 K1.2.2.2.2.2.2.1 z4 ho ⟨_, rfl, sh1, (c_famAt sh1 K1.2.2.2.2.1 K1.2.2.2.2.2.2.2.1 b1.1 b1.2 (fun q2 p2 d2 n2 KB => ⟨_, rfl, sh1, ?_⟩)).up (by decide)⟩).up (by decide)⟩)).up (by decide)⟩).up (by decide)
    show w_c 24 98 [.ref 16, .ref q, .ref q2, .int (nI (zLw X dy 3))] h1 _
    refine c_payS sh1 K1 Z a1 b1 hne (by omega) KA KB (fun h2 own2 c2 K2 f2 hc2 r2 _ _ => ⟨rfl, f2.sh sh1 (by decide), ?_⟩)
    have sh2 := f2.sh sh1 (by decide)
    refine (c_remove sh2 K2.2.2.2.2.2.1 z2 hj (fun h3 f3 d3 V3 => ⟨rfl, f3.sh sh2 (by decide), ?_⟩)).up (by decide)
    exact k1 h3 own2 _ (K2.rm f3 d3 V3) (fc1.tr (fC.tr (f2.wk (by decide) (by decide)) (f3.wk (by decide) (by decide)))) (r1.tr (r2.tr (rR.rm ⟨d3.1, d3.2.1⟩ _))) (z_rm (z_W (z_pay Z a1 b1 hne hd (by omega) (fun f hf => va_up_ne _ _ hf) (by rw [va_up_self]; exact hc2)) (by omega) hW) hj)
set_option maxHeartbeats 1000000 in
theorem m_rmL {h : mm_H} {Q : Option Value → mm_H → Prop} (sh : s_h h) {n : Nat} {vf va vb : Nat → Nat} {x2 : Int32} (n1 : h_oi h 600 44 = nI (n - 1)) (v2 : ∀ t, t < n → h_ai h 55 t = nI (vf t) ∧ h_ai h 56 t = nI (va t) ∧ h_ai h 57 t = nI (vb t)) (hn : n ≤ 10) {j : Nat} (hj : j < n) (k : ∀ h', fx h h' [] [55, 56, 57] → dn h h' → mV h' 600 55 (n - 1) (sk vf j) (sk va j) (sk vb j) → Q (some (.int x2)) h') : w_p 6 (9, 4, mc_X9_broken) 93 [(0, .ref 44), (1, .int (nI j)), (2, .int x2), (3, .int (nI j))] [] h Q := by
  have loop : ∀ w i, i + w = n - 1 → j ≤ i → ∀ h1, fx h h1 [] [55, 56, 57] → dn h h1 → (∀ t, t < n → h_ai h1 55 t = nI (skA vf j i t)) → (∀ t, t < n → h_ai h1 56 t = nI (skA va j i t)) → (∀ t, t < n → h_ai h1 57 t = nI (skA vb j i t)) → w_p 6 (9, 4, mc_X9_broken) 93 [(0, .ref 44), (1, .int (nI j)), (2, .int x2), (3, .int (nI i))] [] h1 Q := by
    intro w
    induction w with
    | zero =>
      intro i hi hji h1 f1 d1 q1 q2 q3
      have n2 : h_oi h1 600 44 = nI (n - 1) := (f1.oi _ _ (by decide) (by decide)).trans n1
      refine t_X9_broken_93 (f1.sh sh (by decide)) _ _ _ (K93 := fun _ _ _ _ => False) (fun _ _ _ _ z => z.elim) ⟨fun _ => ?_, fun z => absurd ?_ z⟩
      · refine k _ f1 d1 ⟨n2, fun t ht => ⟨?_, ?_, ?_⟩⟩
        · exact (q1 t (by omega)).trans (by rw [skA_e (by omega)])
        · exact (q2 t (by omega)).trans (by rw [skA_e (by omega)])
        · exact (q3 t (by omega)).trans (by rw [skA_e (by omega)])
      · rw [n2, i_le (by omega) (by omega)]; omega
    | succ w ih =>
      intro i hi hji h1 f1 d1 q1 q2 q3
      have n2 : h_oi h1 600 44 = nI (n - 1) := (f1.oi _ _ (by decide) (by decide)).trans n1
      have va1 : vp_in (nI (i + 1)) 10 := vp_in_nI (by omega) (by decide)
      have va2 : vp_in (nI i) 10 := vp_in_nI (by omega) (by decide)
      have g1 : h_ai h1 55 (i + 1) = nI (vf (i + 1)) := (q1 (i + 1) (by omega)).trans (by rw [skA_at (by omega)])
      have g2 : h_ai h1 56 (i + 1) = nI (va (i + 1)) := (q2 (i + 1) (by omega)).trans (by rw [skA_at (by omega)])
      have g3 : h_ai h1 57 (i + 1) = nI (vb (i + 1)) := (q3 (i + 1) (by omega)).trans (by rw [skA_at (by omega)])
      refine t_X9_broken_93 (f1.sh sh (by decide)) _ _ _ (K93 := fun y1 y2 y3 hh => y1 = nI j ∧ y2 = x2 ∧ y3 = nI (i + 1) ∧ hh = h_sA (h_sA (h_sA h1 55 i (nI (vf (i + 1)))) 56 i (nI (va (i + 1)))) 57 i (nI (vb (i + 1)))) (fun y1 y2 y3 hh z => ?_) ⟨fun z => ?_, fun _ => ?_⟩
      · obtain ⟨rfl, rfl, rfl, rfl⟩ := z
        refine ih (i + 1) (by omega) (by omega) _ (((f1.sA _ _ (Or.inl (by decide))).sA _ _ (Or.inl (by decide))).sA _ _ (Or.inl (by decide))) (((d1.sA _ _ (by decide)).sA _ _ (by decide)).sA _ _ (by decide)) (fun t ht => ?_) (fun t ht => ?_) (fun t ht => ?_)
        · rw [ai_ne (by decide), ai_ne (by decide), ai_self, up_nI q1 t ht, skA_s hji]
        · rw [ai_ne (by decide), ai_self, ai_ne (by decide), up_nI q2 t ht, skA_s hji]
        · rw [ai_self, ai_ne (by decide), ai_ne (by decide), up_nI q3 t ht, skA_s hji]
      · rw [n2, i_le (by omega) (by omega)] at z; omega
      · rw [nI_1, i_cl (a := i) (by omega), i_cl (a := i + 1) (by omega), g1, g2, g3]
        exact ⟨va1, va2, va1, va2, va1, va2, rfl, rfl, rfl, rfl⟩
  exact loop (n - 1 - j) j (by omega) (Nat.le_refl _) h (fx.rf _ _ _) (dn.rf _) (fun t ht => by rw [skA_0]; exact (v2 t ht).1) (fun t ht => by rw [skA_0]; exact (v2 t ht).2.1) (fun t ht => by rw [skA_0]; exact (v2 t ht).2.2)
theorem MS.rm {h h' : mm_H} {cl : Nat} {T : zT} {X : zX} {dy : Nat} {ft : Int32} {F : zF} {A O : zV} {N : zN} {C : zC} {H : zH} {j : Nat} (K : MS h cl T X dy ft F A O N C H) (f : fx h h' [(600, 44)] [55, 56, 57]) (V : mV h' 600 55 (A.1 - 1) (sk A.2.1 j) (sk A.2.2.1 j) (sk A.2.2.2 j)) : MS h' cl T X dy ft F (v_rm A j) O N C H := by
  obtain ⟨k1, k2, k3, k4, k5, k6, k7, k8, k9, k10, k11, k12⟩ := K
  exact ⟨k1.fx f (by decide) (by decide), k2.fx f (by decide) (by decide) (by decide), k3.fx f (by decide), k4.fx f (by decide) (by decide), V, k6.fx f (by decide) (by decide) (by decide) (by decide) (by decide), k7.fx f (by decide) (by decide) (by decide), k8.fx f (by decide), k9.fx f (by decide) (by decide) (by decide), k10.fx f (by decide) (by decide) (by decide), k11.fx f (by decide) (by decide) (by decide), k12.fx f (by decide)⟩
set_option maxHeartbeats 1000000 in
theorem m_broken {h : mm_H} {Q : Option Value → mm_H → Prop} {cap : Nat → Nat} {T : zT} {X : zX} {dy cl W : Nat} {ft : Int32} {F : zF} {A O : zV} {N : zN} {C : zC} {H : zH} (sh : s_h h) (K : MS h cl T X dy ft F A O N C H) (Z : zP W cap F A O N H) (a : Int32) (k0 : ¬ isA A.1 a → Q (some (.int (-1))) h) (k1 : ∀ j, a = nI j → j < A.1 → ∀ h', MS h' cl T X dy ft F (v_rm A j) O (zBk1 X dy A O N C j).1 (zBk1 X dy A O N C j).2.1 H → fM h h' → Q (some (.int (nI (zBk1 X dy A O N C j).2.2))) h') : w_c 6 145 [.ref 44, .int a] h Q := by
  have z1 := Z.1
  have z2 := Z.2.1.1
  have z4 := Z.2.2.1.1
  have md := K.d
  have hd := md.1
  have tail : ∀ j, a = nI j → j < A.1 → ∀ h1, s_h h1 → MS h1 cl T X dy ft F A O (zBk1 X dy A O N C j).1 (zBk1 X dy A O N C j).2.1 H → fM h h1 → w_p 6 (9, 4, mc_X9_broken) 93 [(0, .ref 44), (1, .int (nI j)), (2, .int (nI (zBk1 X dy A O N C j).2.2)), (3, .int (nI j))] [] (h_sI h1 600 44 (h_oi h1 600 44 - (1 : Int32))) Q := by
    intro j ej hj h1 sh1 K1 f1
    rw [show h_oi h1 600 44 = nI A.1 from K1.2.2.2.2.1.1, nI_sub1 (by omega)]
    have f2 : fx h1 (h_sI h1 600 44 (nI (A.1 - 1))) [(600, 44)] [] := (fx.rf _ _ _).sI _ (Or.inl (by decide))
    refine m_rmL (f2.sh sh1 (by decide)) (oi_self _ _ _ _) K1.2.2.2.2.1.2 z2 hj (fun h3 f3 d3 V3 => ?_)
    have f4 : fx h1 h3 [(600, 44)] [55, 56, 57] := f2.tr f3 (by decide) (by decide) (by decide) (by decide)
    exact k1 j ej hj h3 (K1.rm f4 V3) (f1.tr ⟨f4.wk (by decide) (by decide), dn.tr ((dn.rf _).sI _ (by decide)) d3⟩)
  refine t_X9_broken_0 sh _ (K93 := fun y1 y2 y3 hh => ∃ j h1, a = nI j ∧ j < A.1 ∧ y1 = nI j ∧ y3 = nI j ∧ y2 = nI (zBk1 X dy A O N C j).2.2 ∧ s_h h1 ∧ MS h1 cl T X dy ft F A O (zBk1 X dy A O N C j).1 (zBk1 X dy A O N C j).2.1 H ∧ fM h h1 ∧ hh = h_sI h1 600 44 (h_oi h1 600 44 - (1 : Int32))) (fun y1 y2 y3 hh z => ?_) ?_
  · obtain ⟨j, h1, ej, hj, rfl, rfl, rfl, sh1, K1, f1, rfl⟩ := z
    exact tail j ej hj h1 sh1 K1 f1
  · rw [show h_oi h 600 44 = nI A.1 from K.2.2.2.2.1.1, in_isA (by omega)]
    refine ⟨fun c => ?_, k0⟩
    have c := Classical.not_not.mp c
    obtain ⟨ej, hj⟩ := c.j (by omega)
    generalize a.toNatClampNeg = j at ej hj ⊢
    subst ej
    obtain ⟨a1, a3, a4⟩ := Z.2.1.2 j hj
    have vj : vp_in (nI j) 10 := vp_in_nI (by omega) (by decide)
    refine m_matches sh K Z (fun h1 f d _ _ G => ⟨_, rfl, f.sh sh (by decide), vj, ?_⟩)
    have sh1 := f.sh sh (by decide)
    have K1 : MS h1 cl T X dy ft F A O N C H := K.sc (f.wk (by decide) (by decide))
    have fm1 : fM h h1 := ⟨f.wk (by decide) (by decide), d⟩
    have eg : h_ai h1 66 j = oN (zMg X dy A O N j) := G j hj
    rw [eg]
    cases e : zMg X dy A O N j with
    | none =>
      refine ⟨fun z => absurd rfl z, fun _ => ⟨vj, fun _ => ⟨j, h1, rfl, hj, rfl, rfl, ?_, sh1, ?_, fm1, rfl⟩, fun z => absurd rfl z⟩⟩
      · rw [zBk1_n e]; rfl
      · rw [zBk1_n e]; exact K1
    | some o =>
      obtain ⟨ho, hne⟩ := zMg_ne e
      obtain ⟨b1, b3, b4⟩ := Z.2.2.1.2 o ho
      have hl : zLw X dy 3 ≤ 400 := tV_gle K.2.1.1 (by decide)
      refine ⟨fun _ => ?_, fun z => absurd z (oN_ne o (by omega))⟩
      rw [K1.d.2]
      refine (sp_lawM sh1 K1.2.1 (d := dy) (k := 3) (by omega) (by decide) ⟨_, rfl, sh1, vj, fun z => ?_, fun _ => ⟨vj, vj, ?_, ?_⟩⟩).up (by decide)
      · rw [eg, e] at z; exact absurd z (oN_ne o (by omega))
      · rw [eg, e]; exact vp_in_nI (by omega) (by decide)
      · rw [eg, e, tL_g (by decide), show (oN (some o)).toNatClampNeg = o from i_cl (by omega), show h_ai h1 55 j = nI (A.2.1 j) from (K1.2.2.2.2.1.2 j hj).1, show h_ai h1 58 o = nI (O.2.1 o) from (K1.2.2.2.2.2.1.2 o ho).1]
        show w_c 0 128 [.ref 44, .int (nI (A.2.1 j)), .int (nI (O.2.1 o)), .int (nI (zLw X dy 3))] h1 _
        refine m_payS sh1 K1 Z a1 b1 hne (by omega) (fun h2 K2 f2 d2 => ⟨rfl, f2.sh sh1 (by decide), j, h2, rfl, hj, rfl, rfl, ?_, f2.sh sh1 (by decide), ?_, fm1.tr ⟨f2.wk (by decide) (by decide), d2⟩, rfl⟩)
        · rw [zBk1_s e]; rfl
        · rw [zBk1_s e]; exact K2
