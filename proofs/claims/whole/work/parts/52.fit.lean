set_option maxRecDepth 20000 in
theorem t_X8_areFitting_0 {h : mm_H} {Q : Option Value → mm_H → Prop} (sh : s_h h) (a : Int32) (o : Int32) (debt : Int32) 
    (F : w_c 1 55 [.ref 31, .int a] h (fun r h1 => ∃ z2 : Int32, r = some (.int z2) ∧ s_h h1 ∧ w_c 1 55 [.ref 35, .int o] h1 (fun r h3 => ∃ z4 : Int32, r = some (.int z4) ∧ s_h h3 ∧ w_c 0 87 [.ref 16, .int z2] h3 (fun r h5 => ∃ z6 : Option Nat, r = some (va_rf z6) ∧ s_h h5 ∧ w_c 0 87 [.ref 16, .int z4] h5 (fun r h7 => ∃ z8 : Option Nat, r = some (va_rf z8) ∧ s_h h7 ∧ ((z6 = none → Q (some (.int 0)) h7) ∧ (∀ a10 : Nat, z6 = some a10 → ((z8 = none → Q (some (.int 0)) h7) ∧ (∀ a12 : Nat, z8 = some a12 → ((¬ z2 = z4 → (h_kd h7 a10 = 1 ∧ w_c 0 1 [.ref a10, .int z4] h7 (fun r h15 => ∃ z16 : Int32, r = some (.int z16) ∧ s_h h15 ∧ ((¬ z16 = 0 → Q (some (.int 0)) h15) ∧ (z16 = 0 → (h_kd h15 a12 = 1 ∧ w_c 0 1 [.ref a12, .int z2] h15 (fun r h19 => ∃ z20 : Int32, r = some (.int z20) ∧ s_h h19 ∧ ((z20 = 0 → w_c 1 56 [.ref 35, .int o] h19 (fun r h22 => ∃ z23 : Int32, r = some (.int z23) ∧ s_h h22 ∧ w_c 1 56 [.ref 31, .int a] h22 (fun r h24 => ∃ z25 : Int32, r = some (.int z25) ∧ s_h h24 ∧ ((z25 < z23 → Q (some (.int 0)) h24) ∧ (¬ (z25 < z23) → w_c 1 57 [.ref 31, .int a] h24 (fun r h28 => ∃ z29 : Int32, r = some (.int z29) ∧ s_h h28 ∧ w_c 1 57 [.ref 35, .int o] h28 (fun r h30 => ∃ z31 : Int32, r = some (.int z31) ∧ s_h h30 ∧ ((z31 < z29 → Q (some (.int 0)) h30) ∧ (¬ (z31 < z29) → w_c 2 92 [.ref 16, .int a] h30 (fun r h35 => ∃ z36 : Int32, r = some (.int z36) ∧ s_h h35 ∧ (h_kd h35 a10 = 1 ∧ w_c 1 3 [.ref a10, .int z36] h35 (fun r h38 => ∃ z39 : Int32, r = some (.int z39) ∧ s_h h38 ∧ ((debt < z39 → Q (some (.int 0)) h38) ∧ (¬ (debt < z39) → Q (some (.int 1)) h38)))))))))))))) ∧ (¬ (z20 = 0) → Q (some (.int 0)) h19))))))))) ∧ (z2 = z4 → Q (some (.int 0)) h7))))))))))) :
    w_c 3 93 [.ref 16, .int a, .int o, .int debt] h Q := by
  refine w_ci (M := (8, 9, mc_X8_areFitting)) rfl (Nat.le_of_ble_eq_true rfl) ?_
  show w_p _ _ 0 [(0, .ref 16), (1, .int a), (2, .int o), (3, .int debt)] [] h Q
  refine w_b 1 1 [(0, .ref 16), (1, .int a), (2, .int o), (3, .int debt)] [.ref 16] rfl ?_
  refine w_getS (b := 31) rfl rfl rfl (kd_16 sh) (or_516_16 sh) ?_
  refine w_b 1 5 [(0, .ref 16), (1, .int a), (2, .int o), (3, .int debt)] [.int a, .ref 31] rfl ?_
  refine w_cv (As := [.int a]) (b := 31) (rest := []) rfl rfl rfl (Nat.le_of_ble_eq_true rfl) (kd_31 sh) (fun z => absurd z (by decide)) (dc := 1) (by omega) (F.mono (fun r h1 F => ?_))
  obtain ⟨z2, rfl, sh1, F⟩ := F
  show w_p _ _ 8 [(0, .ref 16), (1, .int a), (2, .int o), (3, .int debt)] [.int z2] h1 _
  refine w_b 2 11 [(4, .int z2), (0, .ref 16), (1, .int a), (2, .int o), (3, .int debt)] [.ref 16] rfl ?_
  refine w_getS (b := 35) rfl rfl rfl (kd_16 sh1) (or_517_16 sh1) ?_
  refine w_b 1 15 [(4, .int z2), (0, .ref 16), (1, .int a), (2, .int o), (3, .int debt)] [.int o, .ref 35] rfl ?_
  refine w_cv (As := [.int o]) (b := 35) (rest := []) rfl rfl rfl (Nat.le_of_ble_eq_true rfl) (kd_35 sh1) (fun z => absurd z (by decide)) (dc := 1) (by omega) (F.mono (fun r h3 F => ?_))
  obtain ⟨z4, rfl, sh3, F⟩ := F
  show w_p _ _ 18 [(4, .int z2), (0, .ref 16), (1, .int a), (2, .int o), (3, .int debt)] [.int z4] h3 _
  refine w_b 3 23 [(5, .int z4), (4, .int z2), (0, .ref 16), (1, .int a), (2, .int o), (3, .int debt)] [.int z2, .ref 16] rfl ?_
  refine w_cv (As := [.int z2]) (b := 16) (rest := []) rfl rfl rfl (Nat.le_of_ble_eq_true rfl) (kd_16 sh3) (fun z => absurd z (by decide)) (dc := 0) (by omega) (F.mono (fun r h5 F => ?_))
  obtain ⟨z6, rfl, sh5, F⟩ := F
  show w_p _ _ 26 [(5, .int z4), (4, .int z2), (0, .ref 16), (1, .int a), (2, .int o), (3, .int debt)] [va_rf z6] h5 _
  refine w_astM (r := z6) (lo2 := [(6, va_rf z6), (5, .int z4), (4, .int z2), (0, .ref 16), (1, .int a), (2, .int o), (3, .int debt)]) rfl (by decide) rfl ?_
  refine w_b 2 31 [(6, va_rf z6), (5, .int z4), (4, .int z2), (0, .ref 16), (1, .int a), (2, .int o), (3, .int debt)] [.int z4, .ref 16] rfl ?_
  refine w_cv (As := [.int z4]) (b := 16) (rest := []) rfl rfl rfl (Nat.le_of_ble_eq_true rfl) (kd_16 sh5) (fun z => absurd z (by decide)) (dc := 0) (by omega) (F.mono (fun r h7 F => ?_))
  obtain ⟨z8, rfl, sh7, F⟩ := F
  show w_p _ _ 34 [(6, va_rf z6), (5, .int z4), (4, .int z2), (0, .ref 16), (1, .int a), (2, .int o), (3, .int debt)] [va_rf z8] h7 _
  refine w_astM (r := z8) (lo2 := [(7, va_rf z8), (6, va_rf z6), (5, .int z4), (4, .int z2), (0, .ref 16), (1, .int a), (2, .int o), (3, .int debt)]) rfl (by decide) (by generalize z6 = zz; cases zz <;> rfl) ?_
  refine w_aldM (r := z6) rfl rfl ?_
  refine w_ifnull (tgt := 53) (r := z6) rfl (by decide) ⟨fun c9 => ?_, fun a10 c9 => ?_⟩
  · have F := F.1 c9
    refine w_b 1 54 [(7, va_rf z8), (6, va_rf z6), (5, .int z4), (4, .int z2), (0, .ref 16), (1, .int a), (2, .int o), (3, .int debt)] [.int 0] rfl ?_
    exact w_br rfl (by decide) F
  · have F := F.2 a10 c9
    simp only [c9] ; show w_p _ _ 41 [(7, va_rf z8), (6, .ref a10), (5, .int z4), (4, .int z2), (0, .ref 16), (1, .int a), (2, .int o), (3, .int debt)] [] h7 _
    refine w_aldM (r := z8) rfl rfl ?_
    refine w_ifnull (tgt := 53) (r := z8) rfl (by decide) ⟨fun c11 => ?_, fun a12 c11 => ?_⟩
    · have F := F.1 c11
      refine w_b 1 54 [(7, va_rf z8), (6, .ref a10), (5, .int z4), (4, .int z2), (0, .ref 16), (1, .int a), (2, .int o), (3, .int debt)] [.int 0] rfl ?_
      exact w_br rfl (by decide) F
    · have F := F.2 a12 c11
      simp only [c11] ; show w_p _ _ 46 [(7, .ref a12), (6, .ref a10), (5, .int z4), (4, .int z2), (0, .ref 16), (1, .int a), (2, .int o), (3, .int debt)] [] h7 _
      refine w_b 2 50 [(7, .ref a12), (6, .ref a10), (5, .int z4), (4, .int z2), (0, .ref 16), (1, .int a), (2, .int o), (3, .int debt)] [.int z4, .int z2] rfl ?_
      refine w_ic_ne (tgt := 55) (x := z2) (y := z4) rfl (by decide) ⟨fun c13 => ?_, fun c13 => ?_⟩
      · have F := F.1 c13
        refine w_b 2 59 [(7, .ref a12), (6, .ref a10), (5, .int z4), (4, .int z2), (0, .ref 16), (1, .int a), (2, .int o), (3, .int debt)] [.int z4, .ref a10] rfl ?_
        obtain ⟨g14, F⟩ := F
        refine w_cv (As := [.int z4]) (b := a10) (rest := []) rfl rfl rfl (Nat.le_of_ble_eq_true rfl) g14 (fun z => absurd z (by decide)) (dc := 0) (by omega) (F.mono (fun r h15 F => ?_))
        obtain ⟨z16, rfl, sh15, F⟩ := F
        show w_p _ _ 62 [(7, .ref a12), (6, .ref a10), (5, .int z4), (4, .int z2), (0, .ref 16), (1, .int a), (2, .int o), (3, .int debt)] [.int z16] h15 _
        refine w_if_ne (tgt := 75) (x := z16) rfl (by decide) ⟨fun c17 => ?_, fun c17 => ?_⟩
        · have F := F.1 c17
          refine w_b 1 76 [(7, .ref a12), (6, .ref a10), (5, .int z4), (4, .int z2), (0, .ref 16), (1, .int a), (2, .int o), (3, .int debt)] [.int 0] rfl ?_
          exact w_br rfl (by decide) F
        · have F := F.2 (Decidable.not_not.mp c17)
          refine w_b 2 69 [(7, .ref a12), (6, .ref a10), (5, .int z4), (4, .int z2), (0, .ref 16), (1, .int a), (2, .int o), (3, .int debt)] [.int z2, .ref a12] rfl ?_
          obtain ⟨g18, F⟩ := F
          refine w_cv (As := [.int z2]) (b := a12) (rest := []) rfl rfl rfl (Nat.le_of_ble_eq_true rfl) g18 (fun z => absurd z (by decide)) (dc := 0) (by omega) (F.mono (fun r h19 F => ?_))
          obtain ⟨z20, rfl, sh19, F⟩ := F
          show w_p _ _ 72 [(7, .ref a12), (6, .ref a10), (5, .int z4), (4, .int z2), (0, .ref 16), (1, .int a), (2, .int o), (3, .int debt)] [.int z20] h19 _
          refine w_if_eq (tgt := 77) (x := z20) rfl (by decide) ⟨fun c21 => ?_, fun c21 => ?_⟩
          · have F := F.1 c21
            refine w_b 1 78 [(7, .ref a12), (6, .ref a10), (5, .int z4), (4, .int z2), (0, .ref 16), (1, .int a), (2, .int o), (3, .int debt)] [.ref 16] rfl ?_
            refine w_getS (b := 35) rfl rfl rfl (kd_16 sh19) (or_517_16 sh19) ?_
            refine w_b 1 82 [(7, .ref a12), (6, .ref a10), (5, .int z4), (4, .int z2), (0, .ref 16), (1, .int a), (2, .int o), (3, .int debt)] [.int o, .ref 35] rfl ?_
            refine w_cv (As := [.int o]) (b := 35) (rest := []) rfl rfl rfl (Nat.le_of_ble_eq_true rfl) (kd_35 sh19) (fun z => absurd z (by decide)) (dc := 1) (by omega) (F.mono (fun r h22 F => ?_))
            obtain ⟨z23, rfl, sh22, F⟩ := F
            show w_p _ _ 85 [(7, .ref a12), (6, .ref a10), (5, .int z4), (4, .int z2), (0, .ref 16), (1, .int a), (2, .int o), (3, .int debt)] [.int z23] h22 _
            refine w_b 1 86 [(7, .ref a12), (6, .ref a10), (5, .int z4), (4, .int z2), (0, .ref 16), (1, .int a), (2, .int o), (3, .int debt)] [.ref 16, .int z23] rfl ?_
            refine w_getS (b := 31) rfl rfl rfl (kd_16 sh22) (or_516_16 sh22) ?_
            refine w_b 1 90 [(7, .ref a12), (6, .ref a10), (5, .int z4), (4, .int z2), (0, .ref 16), (1, .int a), (2, .int o), (3, .int debt)] [.int a, .ref 31, .int z23] rfl ?_
            refine w_cv (As := [.int a]) (b := 31) (rest := [.int z23]) rfl rfl rfl (Nat.le_of_ble_eq_true rfl) (kd_31 sh22) (fun z => absurd z (by decide)) (dc := 1) (by omega) (F.mono (fun r h24 F => ?_))
            obtain ⟨z25, rfl, sh24, F⟩ := F
            show w_p _ _ 93 [(7, .ref a12), (6, .ref a10), (5, .int z4), (4, .int z2), (0, .ref 16), (1, .int a), (2, .int o), (3, .int debt)] [.int z25, .int z23] h24 _
            refine w_ic_gt (tgt := 119) (x := z23) (y := z25) rfl (by decide) ⟨fun c26 => ?_, fun c26 => ?_⟩
            · have F := F.1 c26
              refine w_b 3 124 [(8, .int 0), (7, .ref a12), (6, .ref a10), (5, .int z4), (4, .int z2), (0, .ref 16), (1, .int a), (2, .int o), (3, .int debt)] [.int 0] rfl ?_
              refine w_if_eq (tgt := 145) (x := 0) rfl (by decide) ⟨fun _ => ?_, fun c27 => absurd (by decide) c27⟩
              refine w_b 1 146 [(8, .int 0), (7, .ref a12), (6, .ref a10), (5, .int z4), (4, .int z2), (0, .ref 16), (1, .int a), (2, .int o), (3, .int debt)] [.int 0] rfl ?_
              exact w_br rfl (by decide) F
            · have F := F.2 c26
              refine w_b 1 97 [(7, .ref a12), (6, .ref a10), (5, .int z4), (4, .int z2), (0, .ref 16), (1, .int a), (2, .int o), (3, .int debt)] [.ref 16] rfl ?_
              refine w_getS (b := 31) rfl rfl rfl (kd_16 sh24) (or_516_16 sh24) ?_
              refine w_b 1 101 [(7, .ref a12), (6, .ref a10), (5, .int z4), (4, .int z2), (0, .ref 16), (1, .int a), (2, .int o), (3, .int debt)] [.int a, .ref 31] rfl ?_
              refine w_cv (As := [.int a]) (b := 31) (rest := []) rfl rfl rfl (Nat.le_of_ble_eq_true rfl) (kd_31 sh24) (fun z => absurd z (by decide)) (dc := 1) (by omega) (F.mono (fun r h28 F => ?_))
              obtain ⟨z29, rfl, sh28, F⟩ := F
              show w_p _ _ 104 [(7, .ref a12), (6, .ref a10), (5, .int z4), (4, .int z2), (0, .ref 16), (1, .int a), (2, .int o), (3, .int debt)] [.int z29] h28 _
              refine w_b 1 105 [(7, .ref a12), (6, .ref a10), (5, .int z4), (4, .int z2), (0, .ref 16), (1, .int a), (2, .int o), (3, .int debt)] [.ref 16, .int z29] rfl ?_
              refine w_getS (b := 35) rfl rfl rfl (kd_16 sh28) (or_517_16 sh28) ?_
              refine w_b 1 109 [(7, .ref a12), (6, .ref a10), (5, .int z4), (4, .int z2), (0, .ref 16), (1, .int a), (2, .int o), (3, .int debt)] [.int o, .ref 35, .int z29] rfl ?_
              refine w_cv (As := [.int o]) (b := 35) (rest := [.int z29]) rfl rfl rfl (Nat.le_of_ble_eq_true rfl) (kd_35 sh28) (fun z => absurd z (by decide)) (dc := 1) (by omega) (F.mono (fun r h30 F => ?_))
              obtain ⟨z31, rfl, sh30, F⟩ := F
              show w_p _ _ 112 [(7, .ref a12), (6, .ref a10), (5, .int z4), (4, .int z2), (0, .ref 16), (1, .int a), (2, .int o), (3, .int debt)] [.int z31, .int z29] h30 _
              refine w_ic_gt (tgt := 119) (x := z29) (y := z31) rfl (by decide) ⟨fun c32 => ?_, fun c32 => ?_⟩
              · have F := F.1 c32
                refine w_b 3 124 [(8, .int 0), (7, .ref a12), (6, .ref a10), (5, .int z4), (4, .int z2), (0, .ref 16), (1, .int a), (2, .int o), (3, .int debt)] [.int 0] rfl ?_
                refine w_if_eq (tgt := 145) (x := 0) rfl (by decide) ⟨fun _ => ?_, fun c33 => absurd (by decide) c33⟩
                refine w_b 1 146 [(8, .int 0), (7, .ref a12), (6, .ref a10), (5, .int z4), (4, .int z2), (0, .ref 16), (1, .int a), (2, .int o), (3, .int debt)] [.int 0] rfl ?_
                exact w_br rfl (by decide) F
              · have F := F.2 c32
                refine w_b 4 124 [(8, .int 1), (7, .ref a12), (6, .ref a10), (5, .int z4), (4, .int z2), (0, .ref 16), (1, .int a), (2, .int o), (3, .int debt)] [.int 1] rfl ?_
                refine w_if_eq (tgt := 145) (x := 1) rfl (by decide) ⟨fun c34 => absurd c34 (by decide), fun _ => ?_⟩
                refine w_b 3 131 [(8, .int 1), (7, .ref a12), (6, .ref a10), (5, .int z4), (4, .int z2), (0, .ref 16), (1, .int a), (2, .int o), (3, .int debt)] [.int a, .ref 16, .ref a10] rfl ?_
                refine w_cv (As := [.int a]) (b := 16) (rest := [.ref a10]) rfl rfl rfl (Nat.le_of_ble_eq_true rfl) (kd_16 sh30) (fun z => absurd z (by decide)) (dc := 2) (by omega) (F.mono (fun r h35 F => ?_))
                obtain ⟨z36, rfl, sh35, F⟩ := F
                show w_p _ _ 134 [(8, .int 1), (7, .ref a12), (6, .ref a10), (5, .int z4), (4, .int z2), (0, .ref 16), (1, .int a), (2, .int o), (3, .int debt)] [.int z36, .ref a10] h35 _
                obtain ⟨g37, F⟩ := F
                refine w_cv (As := [.int z36]) (b := a10) (rest := []) rfl rfl rfl (Nat.le_of_ble_eq_true rfl) g37 (fun z => absurd z (by decide)) (dc := 1) (by omega) (F.mono (fun r h38 F => ?_))
                obtain ⟨z39, rfl, sh38, F⟩ := F
                show w_p _ _ 137 [(8, .int 1), (7, .ref a12), (6, .ref a10), (5, .int z4), (4, .int z2), (0, .ref 16), (1, .int a), (2, .int o), (3, .int debt)] [.int z39] h38 _
                refine w_b 1 138 [(8, .int 1), (7, .ref a12), (6, .ref a10), (5, .int z4), (4, .int z2), (0, .ref 16), (1, .int a), (2, .int o), (3, .int debt)] [.int debt, .int z39] rfl ?_
                refine w_ic_gt (tgt := 145) (x := z39) (y := debt) rfl (by decide) ⟨fun c40 => ?_, fun c40 => ?_⟩
                · have F := F.1 c40
                  refine w_b 1 146 [(8, .int 1), (7, .ref a12), (6, .ref a10), (5, .int z4), (4, .int z2), (0, .ref 16), (1, .int a), (2, .int o), (3, .int debt)] [.int 0] rfl ?_
                  exact w_br rfl (by decide) F
                · have F := F.2 c40
                  refine w_b 2 146 [(8, .int 1), (7, .ref a12), (6, .ref a10), (5, .int z4), (4, .int z2), (0, .ref 16), (1, .int a), (2, .int o), (3, .int debt)] [.int 1] rfl ?_
                  exact w_br rfl (by decide) F
          · have F := F.2 c21
            refine w_b 1 76 [(7, .ref a12), (6, .ref a10), (5, .int z4), (4, .int z2), (0, .ref 16), (1, .int a), (2, .int o), (3, .int debt)] [.int 0] rfl ?_
            exact w_br rfl (by decide) F
      · have F := F.2 (Decidable.not_not.mp c13)
        refine w_b 1 54 [(7, .ref a12), (6, .ref a10), (5, .int z4), (4, .int z2), (0, .ref 16), (1, .int a), (2, .int o), (3, .int debt)] [.int 0] rfl ?_
        exact w_br rfl (by decide) F

set_option maxRecDepth 20000 in
theorem t_X9_isFit_0 {h : mm_H} {Q : Option Value → mm_H → Prop} (sh : s_h h) (k : Int32) (o : Int32) (debt : Int32) 
    (F : (vp_in k 10 ∧ (vp_in o 10 ∧ (((h_ai h 55 k.toNatClampNeg) = (h_ai h 58 o.toNatClampNeg) → Q (some (.int 0)) h) ∧ (¬ ((h_ai h 55 k.toNatClampNeg) = (h_ai h 58 o.toNatClampNeg)) → (vp_in (((12 : Int32) * (h_ai h 55 k.toNatClampNeg)) + (h_ai h 58 o.toNatClampNeg)) 144 ∧ ((¬ (h_ai h 54 (((12 : Int32) * (h_ai h 55 k.toNatClampNeg)) + (h_ai h 58 o.toNatClampNeg)).toNatClampNeg) = 0 → Q (some (.int 0)) h) ∧ ((h_ai h 54 (((12 : Int32) * (h_ai h 55 k.toNatClampNeg)) + (h_ai h 58 o.toNatClampNeg)).toNatClampNeg) = 0 → (vp_in (((12 : Int32) * (h_ai h 58 o.toNatClampNeg)) + (h_ai h 55 k.toNatClampNeg)) 144 ∧ ((¬ (h_ai h 54 (((12 : Int32) * (h_ai h 58 o.toNatClampNeg)) + (h_ai h 55 k.toNatClampNeg)).toNatClampNeg) = 0 → Q (some (.int 0)) h) ∧ ((h_ai h 54 (((12 : Int32) * (h_ai h 58 o.toNatClampNeg)) + (h_ai h 55 k.toNatClampNeg)).toNatClampNeg) = 0 → (vp_in o 10 ∧ (vp_in k 10 ∧ (((h_ai h 56 k.toNatClampNeg) < (h_ai h 59 o.toNatClampNeg) → Q (some (.int 0)) h) ∧ (¬ ((h_ai h 56 k.toNatClampNeg) < (h_ai h 59 o.toNatClampNeg)) → (vp_in k 10 ∧ (vp_in o 10 ∧ (((h_ai h 60 o.toNatClampNeg) < (h_ai h 57 k.toNatClampNeg) → Q (some (.int 0)) h) ∧ (¬ ((h_ai h 60 o.toNatClampNeg) < (h_ai h 57 k.toNatClampNeg)) → w_c 2 132 [.ref 44, .int k] h (fun r h14 => ∃ z15 : Int32, r = some (.int z15) ∧ s_h h14 ∧ w_c 1 127 [.ref 44, .int (h_ai h 55 k.toNatClampNeg), .int z15, .int debt] h14 (fun r h16 => ∃ z17 : Int32, r = some (.int z17) ∧ s_h h16 ∧ ((z17 = 0 → Q (some (.int 0)) h16) ∧ (¬ (z17 = 0) → Q (some (.int 1)) h16))))))))))))))))))))))) :
    w_c 3 134 [.ref 44, .int k, .int o, .int debt] h Q := by
  refine w_ci (M := (9, 6, mc_X9_isFit)) rfl (Nat.le_of_ble_eq_true rfl) ?_
  show w_p _ _ 0 [(0, .ref 44), (1, .int k), (2, .int o), (3, .int debt)] [] h Q
  refine w_b 1 1 [(0, .ref 44), (1, .int k), (2, .int o), (3, .int debt)] [.ref 44] rfl ?_
  refine w_getS (b := 55) rfl rfl rfl (kd_44 sh) (or_601_44 sh) ?_
  refine w_b 1 5 [(0, .ref 44), (1, .int k), (2, .int o), (3, .int debt)] [.int k, .ref 55] rfl ?_
  obtain ⟨g1, F⟩ := F
  refine w_iald rfl (kd_55 sh) (by rw [show h_al h 55 = 10 from (al_55 sh)]; exact g1) ?_
  refine w_b 2 9 [(4, .int (h_ai h 55 k.toNatClampNeg)), (0, .ref 44), (1, .int k), (2, .int o), (3, .int debt)] [.ref 44] rfl ?_
  refine w_getS (b := 58) rfl rfl rfl (kd_44 sh) (or_605_44 sh) ?_
  refine w_b 1 13 [(4, .int (h_ai h 55 k.toNatClampNeg)), (0, .ref 44), (1, .int k), (2, .int o), (3, .int debt)] [.int o, .ref 58] rfl ?_
  obtain ⟨g2, F⟩ := F
  refine w_iald rfl (kd_58 sh) (by rw [show h_al h 58 = 10 from (al_58 sh)]; exact g2) ?_
  refine w_b 3 20 [(5, .int (h_ai h 58 o.toNatClampNeg)), (4, .int (h_ai h 55 k.toNatClampNeg)), (0, .ref 44), (1, .int k), (2, .int o), (3, .int debt)] [.int (h_ai h 58 o.toNatClampNeg), .int (h_ai h 55 k.toNatClampNeg)] rfl ?_
  refine w_ic_eq (tgt := 104) (x := h_ai h 55 k.toNatClampNeg) (y := h_ai h 58 o.toNatClampNeg) rfl (by decide) ⟨fun c3 => ?_, fun c3 => ?_⟩
  · have F := F.1 c3
    refine w_b 1 105 [(5, .int (h_ai h 58 o.toNatClampNeg)), (4, .int (h_ai h 55 k.toNatClampNeg)), (0, .ref 44), (1, .int k), (2, .int o), (3, .int debt)] [.int 0] rfl ?_
    exact w_br rfl (by decide) F
  · have F := F.2 c3
    refine w_b 1 24 [(5, .int (h_ai h 58 o.toNatClampNeg)), (4, .int (h_ai h 55 k.toNatClampNeg)), (0, .ref 44), (1, .int k), (2, .int o), (3, .int debt)] [.ref 44] rfl ?_
    refine w_getS (b := 54) rfl rfl rfl (kd_44 sh) (or_596_44 sh) ?_
    refine w_b 5 35 [(5, .int (h_ai h 58 o.toNatClampNeg)), (4, .int (h_ai h 55 k.toNatClampNeg)), (0, .ref 44), (1, .int k), (2, .int o), (3, .int debt)] [.int (((12 : Int32) * (h_ai h 55 k.toNatClampNeg)) + (h_ai h 58 o.toNatClampNeg)), .ref 54] rfl ?_
    obtain ⟨g4, F⟩ := F
    refine w_bald rfl (Or.inr (kd_54 sh)) (by rw [show h_al h 54 = 144 from (al_54 sh)]; exact g4) ?_
    refine w_if_ne (tgt := 104) (x := h_ai h 54 (((12 : Int32) * (h_ai h 55 k.toNatClampNeg)) + (h_ai h 58 o.toNatClampNeg)).toNatClampNeg) rfl (by decide) ⟨fun c5 => ?_, fun c5 => ?_⟩
    · have F := F.1 c5
      refine w_b 1 105 [(5, .int (h_ai h 58 o.toNatClampNeg)), (4, .int (h_ai h 55 k.toNatClampNeg)), (0, .ref 44), (1, .int k), (2, .int o), (3, .int debt)] [.int 0] rfl ?_
      exact w_br rfl (by decide) F
    · have F := F.2 (Decidable.not_not.mp c5)
      refine w_b 1 40 [(5, .int (h_ai h 58 o.toNatClampNeg)), (4, .int (h_ai h 55 k.toNatClampNeg)), (0, .ref 44), (1, .int k), (2, .int o), (3, .int debt)] [.ref 44] rfl ?_
      refine w_getS (b := 54) rfl rfl rfl (kd_44 sh) (or_596_44 sh) ?_
      refine w_b 5 51 [(5, .int (h_ai h 58 o.toNatClampNeg)), (4, .int (h_ai h 55 k.toNatClampNeg)), (0, .ref 44), (1, .int k), (2, .int o), (3, .int debt)] [.int (((12 : Int32) * (h_ai h 58 o.toNatClampNeg)) + (h_ai h 55 k.toNatClampNeg)), .ref 54] rfl ?_
      obtain ⟨g6, F⟩ := F
      refine w_bald rfl (Or.inr (kd_54 sh)) (by rw [show h_al h 54 = 144 from (al_54 sh)]; exact g6) ?_
      refine w_if_ne (tgt := 104) (x := h_ai h 54 (((12 : Int32) * (h_ai h 58 o.toNatClampNeg)) + (h_ai h 55 k.toNatClampNeg)).toNatClampNeg) rfl (by decide) ⟨fun c7 => ?_, fun c7 => ?_⟩
      · have F := F.1 c7
        refine w_b 1 105 [(5, .int (h_ai h 58 o.toNatClampNeg)), (4, .int (h_ai h 55 k.toNatClampNeg)), (0, .ref 44), (1, .int k), (2, .int o), (3, .int debt)] [.int 0] rfl ?_
        exact w_br rfl (by decide) F
      · have F := F.2 (Decidable.not_not.mp c7)
        refine w_b 1 56 [(5, .int (h_ai h 58 o.toNatClampNeg)), (4, .int (h_ai h 55 k.toNatClampNeg)), (0, .ref 44), (1, .int k), (2, .int o), (3, .int debt)] [.ref 44] rfl ?_
        refine w_getS (b := 59) rfl rfl rfl (kd_44 sh) (or_606_44 sh) ?_
        refine w_b 1 60 [(5, .int (h_ai h 58 o.toNatClampNeg)), (4, .int (h_ai h 55 k.toNatClampNeg)), (0, .ref 44), (1, .int k), (2, .int o), (3, .int debt)] [.int o, .ref 59] rfl ?_
        obtain ⟨g8, F⟩ := F
        refine w_iald rfl (kd_59 sh) (by rw [show h_al h 59 = 10 from (al_59 sh)]; exact g8) ?_
        refine w_b 1 62 [(5, .int (h_ai h 58 o.toNatClampNeg)), (4, .int (h_ai h 55 k.toNatClampNeg)), (0, .ref 44), (1, .int k), (2, .int o), (3, .int debt)] [.ref 44, .int (h_ai h 59 o.toNatClampNeg)] rfl ?_
        refine w_getS (b := 56) rfl rfl rfl (kd_44 sh) (or_602_44 sh) ?_
        refine w_b 1 66 [(5, .int (h_ai h 58 o.toNatClampNeg)), (4, .int (h_ai h 55 k.toNatClampNeg)), (0, .ref 44), (1, .int k), (2, .int o), (3, .int debt)] [.int k, .ref 56, .int (h_ai h 59 o.toNatClampNeg)] rfl ?_
        obtain ⟨g9, F⟩ := F
        refine w_iald rfl (kd_56 sh) (by rw [show h_al h 56 = 10 from (al_56 sh)]; exact g9) ?_
        refine w_ic_gt (tgt := 104) (x := h_ai h 59 o.toNatClampNeg) (y := h_ai h 56 k.toNatClampNeg) rfl (by decide) ⟨fun c10 => ?_, fun c10 => ?_⟩
        · have F := F.1 c10
          refine w_b 1 105 [(5, .int (h_ai h 58 o.toNatClampNeg)), (4, .int (h_ai h 55 k.toNatClampNeg)), (0, .ref 44), (1, .int k), (2, .int o), (3, .int debt)] [.int 0] rfl ?_
          exact w_br rfl (by decide) F
        · have F := F.2 c10
          refine w_b 1 71 [(5, .int (h_ai h 58 o.toNatClampNeg)), (4, .int (h_ai h 55 k.toNatClampNeg)), (0, .ref 44), (1, .int k), (2, .int o), (3, .int debt)] [.ref 44] rfl ?_
          refine w_getS (b := 57) rfl rfl rfl (kd_44 sh) (or_603_44 sh) ?_
          refine w_b 1 75 [(5, .int (h_ai h 58 o.toNatClampNeg)), (4, .int (h_ai h 55 k.toNatClampNeg)), (0, .ref 44), (1, .int k), (2, .int o), (3, .int debt)] [.int k, .ref 57] rfl ?_
          obtain ⟨g11, F⟩ := F
          refine w_iald rfl (kd_57 sh) (by rw [show h_al h 57 = 10 from (al_57 sh)]; exact g11) ?_
          refine w_b 1 77 [(5, .int (h_ai h 58 o.toNatClampNeg)), (4, .int (h_ai h 55 k.toNatClampNeg)), (0, .ref 44), (1, .int k), (2, .int o), (3, .int debt)] [.ref 44, .int (h_ai h 57 k.toNatClampNeg)] rfl ?_
          refine w_getS (b := 60) rfl rfl rfl (kd_44 sh) (or_607_44 sh) ?_
          refine w_b 1 81 [(5, .int (h_ai h 58 o.toNatClampNeg)), (4, .int (h_ai h 55 k.toNatClampNeg)), (0, .ref 44), (1, .int k), (2, .int o), (3, .int debt)] [.int o, .ref 60, .int (h_ai h 57 k.toNatClampNeg)] rfl ?_
          obtain ⟨g12, F⟩ := F
          refine w_iald rfl (kd_60 sh) (by rw [show h_al h 60 = 10 from (al_60 sh)]; exact g12) ?_
          refine w_ic_gt (tgt := 104) (x := h_ai h 57 k.toNatClampNeg) (y := h_ai h 60 o.toNatClampNeg) rfl (by decide) ⟨fun c13 => ?_, fun c13 => ?_⟩
          · have F := F.1 c13
            refine w_b 1 105 [(5, .int (h_ai h 58 o.toNatClampNeg)), (4, .int (h_ai h 55 k.toNatClampNeg)), (0, .ref 44), (1, .int k), (2, .int o), (3, .int debt)] [.int 0] rfl ?_
            exact w_br rfl (by decide) F
          · have F := F.2 c13
            refine w_b 4 90 [(5, .int (h_ai h 58 o.toNatClampNeg)), (4, .int (h_ai h 55 k.toNatClampNeg)), (0, .ref 44), (1, .int k), (2, .int o), (3, .int debt)] [.int k, .ref 44, .int (h_ai h 55 k.toNatClampNeg), .ref 44] rfl ?_
            refine w_cv (As := [.int k]) (b := 44) (rest := [.int (h_ai h 55 k.toNatClampNeg), .ref 44]) rfl rfl rfl (Nat.le_of_ble_eq_true rfl) (kd_44 sh) (fun z => absurd z (by decide)) (dc := 2) (by omega) (F.mono (fun r h14 F => ?_))
            obtain ⟨z15, rfl, sh14, F⟩ := F
            show w_p _ _ 93 [(5, .int (h_ai h 58 o.toNatClampNeg)), (4, .int (h_ai h 55 k.toNatClampNeg)), (0, .ref 44), (1, .int k), (2, .int o), (3, .int debt)] [.int z15, .int (h_ai h 55 k.toNatClampNeg), .ref 44] h14 _
            refine w_b 1 94 [(5, .int (h_ai h 58 o.toNatClampNeg)), (4, .int (h_ai h 55 k.toNatClampNeg)), (0, .ref 44), (1, .int k), (2, .int o), (3, .int debt)] [.int debt, .int z15, .int (h_ai h 55 k.toNatClampNeg), .ref 44] rfl ?_
            refine w_cv (As := [.int (h_ai h 55 k.toNatClampNeg), .int z15, .int debt]) (b := 44) (rest := []) rfl rfl rfl (Nat.le_of_ble_eq_true rfl) (kd_44 sh14) (fun z => absurd z (by decide)) (dc := 1) (by omega) (F.mono (fun r h16 F => ?_))
            obtain ⟨z17, rfl, sh16, F⟩ := F
            show w_p _ _ 97 [(5, .int (h_ai h 58 o.toNatClampNeg)), (4, .int (h_ai h 55 k.toNatClampNeg)), (0, .ref 44), (1, .int k), (2, .int o), (3, .int debt)] [.int z17] h16 _
            refine w_if_eq (tgt := 104) (x := z17) rfl (by decide) ⟨fun c18 => ?_, fun c18 => ?_⟩
            · have F := F.1 c18
              refine w_b 1 105 [(5, .int (h_ai h 58 o.toNatClampNeg)), (4, .int (h_ai h 55 k.toNatClampNeg)), (0, .ref 44), (1, .int k), (2, .int o), (3, .int debt)] [.int 0] rfl ?_
              exact w_br rfl (by decide) F
            · have F := F.2 c18
              refine w_b 2 105 [(5, .int (h_ai h 58 o.toNatClampNeg)), (4, .int (h_ai h 55 k.toNatClampNeg)), (0, .ref 44), (1, .int k), (2, .int o), (3, .int debt)] [.int 1] rfl ?_
              exact w_br rfl (by decide) F

set_option maxRecDepth 20000 in
theorem t_X8_lookForFits_0 {h : mm_H} {Q : Option Value → mm_H → Prop} (sh : s_h h) (debt : Int32) {K23 : Int32 → Int32 → mm_H → Prop} (k23 : ∀ (debt : Int32) (x2 : Int32) (h : mm_H), K23 debt x2 h → w_p 4 (8, 4, mc_X8_lookForFits) 23 [(0, .ref 16), (1, .int debt), (2, .int x2)] [] h Q) 
    (F : w_c 1 12 [.ref 39, .int (h_oi h 451 31), .int (h_oi h 451 35)] h (fun r h1 => r = none ∧ s_h h1 ∧ K23 debt 0 h1)) :
    w_c 4 94 [.ref 16, .int debt] h Q := by
  refine w_ci (M := (8, 4, mc_X8_lookForFits)) rfl (Nat.le_of_ble_eq_true rfl) ?_
  show w_p _ _ 0 [(0, .ref 16), (1, .int debt)] [] h Q
  refine w_b 1 1 [(0, .ref 16), (1, .int debt)] [.ref 16] rfl ?_
  refine w_getS (b := 39) rfl rfl rfl (kd_16 sh) (or_518_16 sh) ?_
  refine w_b 1 5 [(0, .ref 16), (1, .int debt)] [.ref 16, .ref 39] rfl ?_
  refine w_getS (b := 31) rfl rfl rfl (kd_16 sh) (or_516_16 sh) ?_
  refine w_get (g := 451) rfl rfl rfl (kd_31 sh) ?_
  refine w_b 1 12 [(0, .ref 16), (1, .int debt)] [.ref 16, .int (h_oi h 451 31), .ref 39] rfl ?_
  refine w_getS (b := 35) rfl rfl rfl (kd_16 sh) (or_517_16 sh) ?_
  refine w_get (g := 451) rfl rfl rfl (kd_35 sh) ?_
  refine w_cv (As := [.int (h_oi h 451 31), .int (h_oi h 451 35)]) (b := 39) (rest := []) rfl rfl rfl (Nat.le_of_ble_eq_true rfl) (kd_39 sh) (fun z => absurd z (by decide)) (dc := 1) (by omega) (F.mono (fun r h1 F => ?_))
  obtain ⟨rfl, sh1, F⟩ := F
  show w_p _ _ 21 [(0, .ref 16), (1, .int debt)] [] h1 _
  refine w_b 2 23 [(2, .int 0), (0, .ref 16), (1, .int debt)] [] rfl ?_
  refine w_lo [0, 1, 2] [(0, .ref 16), (1, .int debt), (2, .int 0)] rfl rfl ?_
  exact k23 _ _ _ F

set_option maxRecDepth 20000 in
theorem t_X8_lookForFits_23 {h : mm_H} {Q : Option Value → mm_H → Prop} (sh : s_h h) (debt : Int32) (x2 : Int32) {K36 : Int32 → Int32 → Int32 → mm_H → Prop} (k36 : ∀ (debt : Int32) (x2 : Int32) (x3 : Int32) (h : mm_H), K36 debt x2 x3 h → w_p 4 (8, 4, mc_X8_lookForFits) 36 [(0, .ref 16), (1, .int debt), (2, .int x2), (3, .int x3)] [] h Q) 
    (F : (((h_oi h 451 31) ≤ x2 → Q none h) ∧ (¬ ((h_oi h 451 31) ≤ x2) → K36 debt x2 0 h))) :
    w_p 4 (8, 4, mc_X8_lookForFits) 23 [(0, .ref 16), (1, .int debt), (2, .int x2)] [] h Q := by
  refine w_b 2 25 [(0, .ref 16), (1, .int debt), (2, .int x2)] [.ref 16, .int x2] rfl ?_
  refine w_getS (b := 31) rfl rfl rfl (kd_16 sh) (or_516_16 sh) ?_
  refine w_get (g := 451) rfl rfl rfl (kd_31 sh) ?_
  refine w_ic_ge (tgt := 78) (x := x2) (y := h_oi h 451 31) rfl (by decide) ⟨fun c1 => ?_, fun c1 => ?_⟩
  · have F := F.1 c1
    exact w_vr rfl F
  · have F := F.2 c1
    refine w_b 2 36 [(3, .int 0), (0, .ref 16), (1, .int debt), (2, .int x2)] [] rfl ?_
    refine w_lo [0, 1, 2, 3] [(0, .ref 16), (1, .int debt), (2, .int x2), (3, .int 0)] rfl rfl ?_
    exact k36 _ _ _ _ F

set_option maxRecDepth 20000 in
theorem t_X8_lookForFits_36 {h : mm_H} {Q : Option Value → mm_H → Prop} (sh : s_h h) (debt : Int32) (x2 : Int32) (x3 : Int32) {K23 : Int32 → Int32 → mm_H → Prop} (k23 : ∀ (debt : Int32) (x2 : Int32) (h : mm_H), K23 debt x2 h → w_p 4 (8, 4, mc_X8_lookForFits) 23 [(0, .ref 16), (1, .int debt), (2, .int x2)] [] h Q) {K36 : Int32 → Int32 → Int32 → mm_H → Prop} (k36 : ∀ (debt : Int32) (x2 : Int32) (x3 : Int32) (h : mm_H), K36 debt x2 x3 h → w_p 4 (8, 4, mc_X8_lookForFits) 36 [(0, .ref 16), (1, .int debt), (2, .int x2), (3, .int x3)] [] h Q) 
    (F : (((h_oi h 451 35) ≤ x3 → K23 debt (x2 + 1) h) ∧ (¬ ((h_oi h 451 35) ≤ x3) → w_c 3 93 [.ref 16, .int x2, .int x3, .int debt] h (fun r h2 => ∃ z3 : Int32, r = some (.int z3) ∧ s_h h2 ∧ ((z3 = 0 → K36 debt x2 (x3 + 1) h2) ∧ (¬ (z3 = 0) → w_c 0 13 [.ref 39, .int x2, .int x3] h2 (fun r h5 => r = none ∧ s_h h5 ∧ K36 debt x2 (x3 + 1) h5))))))) :
    w_p 4 (8, 4, mc_X8_lookForFits) 36 [(0, .ref 16), (1, .int debt), (2, .int x2), (3, .int x3)] [] h Q := by
  refine w_b 2 38 [(0, .ref 16), (1, .int debt), (2, .int x2), (3, .int x3)] [.ref 16, .int x3] rfl ?_
  refine w_getS (b := 35) rfl rfl rfl (kd_16 sh) (or_517_16 sh) ?_
  refine w_get (g := 451) rfl rfl rfl (kd_35 sh) ?_
  refine w_ic_ge (tgt := 72) (x := x3) (y := h_oi h 451 35) rfl (by decide) ⟨fun c1 => ?_, fun c1 => ?_⟩
  · have F := F.1 c1
    refine w_b 2 23 [(2, .int (x2 + 1)), (0, .ref 16), (1, .int debt), (3, .int x3)] [] rfl ?_
    refine w_lo [0, 1, 2] [(0, .ref 16), (1, .int debt), (2, .int (x2 + 1))] rfl rfl ?_
    exact k23 _ _ _ F
  · have F := F.2 c1
    refine w_b 4 51 [(0, .ref 16), (1, .int debt), (2, .int x2), (3, .int x3)] [.int debt, .int x3, .int x2, .ref 16] rfl ?_
    refine w_cv (As := [.int x2, .int x3, .int debt]) (b := 16) (rest := []) rfl rfl rfl (Nat.le_of_ble_eq_true rfl) (kd_16 sh) (fun z => absurd z (by decide)) (dc := 3) (by omega) (F.mono (fun r h2 F => ?_))
    obtain ⟨z3, rfl, sh2, F⟩ := F
    show w_p _ _ 54 [(0, .ref 16), (1, .int debt), (2, .int x2), (3, .int x3)] [.int z3] h2 _
    refine w_if_eq (tgt := 66) (x := z3) rfl (by decide) ⟨fun c4 => ?_, fun c4 => ?_⟩
    · have F := F.1 c4
      refine w_b 2 36 [(3, .int (x3 + 1)), (0, .ref 16), (1, .int debt), (2, .int x2)] [] rfl ?_
      refine w_lo [0, 1, 2, 3] [(0, .ref 16), (1, .int debt), (2, .int x2), (3, .int (x3 + 1))] rfl rfl ?_
      exact k36 _ _ _ _ F
    · have F := F.2 c4
      refine w_b 1 58 [(0, .ref 16), (1, .int debt), (2, .int x2), (3, .int x3)] [.ref 16] rfl ?_
      refine w_getS (b := 39) rfl rfl rfl (kd_16 sh2) (or_518_16 sh2) ?_
      refine w_b 2 63 [(0, .ref 16), (1, .int debt), (2, .int x2), (3, .int x3)] [.int x3, .int x2, .ref 39] rfl ?_
      refine w_cv (As := [.int x2, .int x3]) (b := 39) (rest := []) rfl rfl rfl (Nat.le_of_ble_eq_true rfl) (kd_39 sh2) (fun z => absurd z (by decide)) (dc := 0) (by omega) (F.mono (fun r h5 F => ?_))
      obtain ⟨rfl, sh5, F⟩ := F
      show w_p _ _ 66 [(0, .ref 16), (1, .int debt), (2, .int x2), (3, .int x3)] [] h5 _
      refine w_b 2 36 [(3, .int (x3 + 1)), (0, .ref 16), (1, .int debt), (2, .int x2)] [] rfl ?_
      refine w_lo [0, 1, 2, 3] [(0, .ref 16), (1, .int debt), (2, .int x2), (3, .int (x3 + 1))] rfl rfl ?_
      exact k36 _ _ _ _ F

set_option maxRecDepth 20000 in
theorem t_X9_findFits_0 {h : mm_H} {Q : Option Value → mm_H → Prop} (sh : s_h h) (debt : Int32) {K2 : Int32 → Int32 → mm_H → Prop} (k2 : ∀ (debt : Int32) (x2 : Int32) (h : mm_H), K2 debt x2 h → w_p 4 (9, 4, mc_X9_findFits) 2 [(0, .ref 44), (1, .int debt), (2, .int x2)] [] h Q) 
    (F : K2 debt 0 h) :
    w_c 4 136 [.ref 44, .int debt] h Q := by
  refine w_ci (M := (9, 4, mc_X9_findFits)) rfl (Nat.le_of_ble_eq_true rfl) ?_
  show w_p _ _ 0 [(0, .ref 44), (1, .int debt)] [] h Q
  refine w_b 2 2 [(2, .int 0), (0, .ref 44), (1, .int debt)] [] rfl ?_
  refine w_lo [0, 1, 2] [(0, .ref 44), (1, .int debt), (2, .int 0)] rfl rfl ?_
  exact k2 _ _ _ F

set_option maxRecDepth 20000 in
theorem t_X9_findFits_2 {h : mm_H} {Q : Option Value → mm_H → Prop} (sh : s_h h) (debt : Int32) (x2 : Int32) {K12 : Int32 → Int32 → Int32 → mm_H → Prop} (k12 : ∀ (debt : Int32) (x2 : Int32) (x3 : Int32) (h : mm_H), K12 debt x2 x3 h → w_p 4 (9, 4, mc_X9_findFits) 12 [(0, .ref 44), (1, .int debt), (2, .int x2), (3, .int x3)] [] h Q) 
    (F : (((h_oi h 600 44) ≤ x2 → Q none h) ∧ (¬ ((h_oi h 600 44) ≤ x2) → K12 debt x2 0 h))) :
    w_p 4 (9, 4, mc_X9_findFits) 2 [(0, .ref 44), (1, .int debt), (2, .int x2)] [] h Q := by
  refine w_b 2 4 [(0, .ref 44), (1, .int debt), (2, .int x2)] [.ref 44, .int x2] rfl ?_
  refine w_get (g := 600) rfl rfl rfl (kd_44 sh) ?_
  refine w_ic_ge (tgt := 50) (x := x2) (y := h_oi h 600 44) rfl (by decide) ⟨fun c1 => ?_, fun c1 => ?_⟩
  · have F := F.1 c1
    exact w_vr rfl F
  · have F := F.2 c1
    refine w_b 2 12 [(3, .int 0), (0, .ref 44), (1, .int debt), (2, .int x2)] [] rfl ?_
    refine w_lo [0, 1, 2, 3] [(0, .ref 44), (1, .int debt), (2, .int x2), (3, .int 0)] rfl rfl ?_
    exact k12 _ _ _ _ F

set_option maxRecDepth 20000 in
theorem t_X9_findFits_12 {h : mm_H} {Q : Option Value → mm_H → Prop} (sh : s_h h) (debt : Int32) (x2 : Int32) (x3 : Int32) {K2 : Int32 → Int32 → mm_H → Prop} (k2 : ∀ (debt : Int32) (x2 : Int32) (h : mm_H), K2 debt x2 h → w_p 4 (9, 4, mc_X9_findFits) 2 [(0, .ref 44), (1, .int debt), (2, .int x2)] [] h Q) {K12 : Int32 → Int32 → Int32 → mm_H → Prop} (k12 : ∀ (debt : Int32) (x2 : Int32) (x3 : Int32) (h : mm_H), K12 debt x2 x3 h → w_p 4 (9, 4, mc_X9_findFits) 12 [(0, .ref 44), (1, .int debt), (2, .int x2), (3, .int x3)] [] h Q) 
    (F : (((h_oi h 604 44) ≤ x3 → K2 debt (x2 + 1) h) ∧ (¬ ((h_oi h 604 44) ≤ x3) → w_c 3 134 [.ref 44, .int x2, .int x3, .int debt] h (fun r h2 => ∃ z3 : Int32, r = some (.int z3) ∧ s_h h2 ∧ (vp_in (((10 : Int32) * x2) + x3) 100 ∧ K12 debt x2 (x3 + 1) (h_sA h2 61 ((((10 : Int32) * x2) + x3).toNatClampNeg) (vp_nar .boolean z3))))))) :
    w_p 4 (9, 4, mc_X9_findFits) 12 [(0, .ref 44), (1, .int debt), (2, .int x2), (3, .int x3)] [] h Q := by
  refine w_b 2 14 [(0, .ref 44), (1, .int debt), (2, .int x2), (3, .int x3)] [.ref 44, .int x3] rfl ?_
  refine w_get (g := 604) rfl rfl rfl (kd_44 sh) ?_
  refine w_ic_ge (tgt := 44) (x := x3) (y := h_oi h 604 44) rfl (by decide) ⟨fun c1 => ?_, fun c1 => ?_⟩
  · have F := F.1 c1
    refine w_b 2 2 [(2, .int (x2 + 1)), (0, .ref 44), (1, .int debt), (3, .int x3)] [] rfl ?_
    refine w_lo [0, 1, 2] [(0, .ref 44), (1, .int debt), (2, .int (x2 + 1))] rfl rfl ?_
    exact k2 _ _ _ F
  · have F := F.2 c1
    refine w_b 1 21 [(0, .ref 44), (1, .int debt), (2, .int x2), (3, .int x3)] [.ref 44] rfl ?_
    refine w_getS (b := 61) rfl rfl rfl (kd_44 sh) (or_608_44 sh) ?_
    refine w_b 9 34 [(0, .ref 44), (1, .int debt), (2, .int x2), (3, .int x3)] [.int debt, .int x3, .int x2, .ref 44, .int (((10 : Int32) * x2) + x3), .ref 61] rfl ?_
    refine w_cv (As := [.int x2, .int x3, .int debt]) (b := 44) (rest := [.int (((10 : Int32) * x2) + x3), .ref 61]) rfl rfl rfl (Nat.le_of_ble_eq_true rfl) (kd_44 sh) (fun z => absurd z (by decide)) (dc := 3) (by omega) (F.mono (fun r h2 F => ?_))
    obtain ⟨z3, rfl, sh2, F⟩ := F
    show w_p _ _ 37 [(0, .ref 44), (1, .int debt), (2, .int x2), (3, .int x3)] [.int z3, .int (((10 : Int32) * x2) + x3), .ref 61] h2 _
    obtain ⟨g4, F⟩ := F
    refine w_zast rfl (kd_61 sh2) (by decide) (by rw [show h_al h2 61 = 100 from (al_61 sh2)]; exact g4) ?_
    refine w_b 2 12 [(3, .int (x3 + 1)), (0, .ref 44), (1, .int debt), (2, .int x2)] [] rfl ?_
    refine w_lo [0, 1, 2, 3] [(0, .ref 44), (1, .int debt), (2, .int x2), (3, .int (x3 + 1))] rfl rfl ?_
    exact k12 _ _ _ _ F

/-! WHAT FITS -/
def zPr (X : zX) (dy : Nat) (A : zV) (k : Nat) : Nat := a_pr (A.2.2.1 k) (A.2.2.2 k) (tV X.1 X.2.1 X.2.2 dy 1)
def zFit (X : zX) (dy : Nat) (A O : zV) (N : zN) (debt : Int32) (k o : Nat) : Prop := A.2.1 k ≠ O.2.1 o ∧ bt (N.2.2.1 (A.2.1 k)) (O.2.1 o) = false ∧ bt (N.2.2.1 (O.2.1 o)) (A.2.1 k) = false ∧ O.2.2.1 o ≤ A.2.2.1 k ∧ A.2.2.2 k ≤ O.2.2.2 o ∧ a_owe (N.2.1 (A.2.1 k)) (fb_sm (N.1 (A.2.1 k)) 2001) (nI (zPr X dy A k)) ≤ debt
noncomputable def a_fit (X : zX) (dy : Nat) (A O : zV) (N : zN) (debt : Int32) (k o : Nat) : Bool := @decide (zFit X dy A O N debt k o) (Classical.propDecidable _)
theorem a_fit_t {X : zX} {dy : Nat} {A O : zV} {N : zN} {debt : Int32} {k o : Nat} : a_fit X dy A O N debt k o = true ↔ zFit X dy A O N debt k o := by
  unfold a_fit
  exact @decide_eq_true_iff _ (Classical.propDecidable _)
theorem bfalse {b : Bool} (h : ¬ b = true) : b = false := by cases b with | true => exact absurd rfl h | false => rfl
theorem c_famAt {h : mm_H} {Q : Option Value → mm_H → Prop} {own cap : Nat → Nat} {F : zF} {N : zN} (sh : s_h h) (P : cP h F.1 F.2) (Fs : cFs h own cap F N) {f : Nat} (hf : f < F.1) (hp : F.2 f = true) (k : ∀ q p d n, cFo h own (cap f) N f q p d n → Q (some (va_rf (some q))) h) : w_c 0 87 [.ref 16, .int (nI f)] h Q := by
  have h12 := P.1
  refine sp_famC sh P (nI f) (fun z => absurd ⟨f, rfl, hf, hp⟩ z) (fun j q e hj hp' hq _ _ _ => ?_)
  rw [nI_eqI (by omega) (by omega)] at e
  subst e
  obtain ⟨q2, p, d, n, K⟩ := Fs f hj hp'
  have e2 : q = q2 := Option.some.inj (hq.symm.trans K.1)
  subst e2
  exact k q p d n K
theorem c_fit {h : mm_H} {Q : Option Value → mm_H → Prop} {own cap : Nat → Nat} {T : zT} {X : zX} {dy W : Nat} {ft : Int32} {F : zF} {A O : zV} {N : zN} {C : zC} {H : zH} (sh : s_h h) (K : CS h own cap T X dy ft F A O N C H) (Z : zP W cap F A O N H) {debt : Int32} {k o : Nat} (hk : k < A.1) (ho : o < O.1) (k0 : ¬ zFit X dy A O N debt k o → Q (some (.int 0)) h) (k1 : zFit X dy A O N debt k o → Q (some (.int 1)) h) : w_c 3 93 [.ref 16, .int (nI k), .int (nI o), .int debt] h Q := by
  obtain ⟨-, cx, cd, -, cp, cva, cvo, cf, -⟩ := K
  obtain ⟨z1, ⟨z2, z3⟩, ⟨z4, z5⟩, -⟩ := Z
  obtain ⟨⟨a1, a2⟩, a3, a4⟩ := z3 k hk
  obtain ⟨⟨b1, b2⟩, b3, b4⟩ := z5 o ho
  refine t_X8_areFitting_0 sh _ _ _ (c_famOf31 sh cva z2 hk ⟨_, rfl, sh, c_famOf35 sh cvo z4 ho ⟨_, rfl, sh, c_famAt sh cp cf a1 a2 (fun q p d n K1 => ⟨_, rfl, sh, c_famAt sh cp cf b1 b2 (fun q2 p2 d2 n2 K2 => ⟨_, rfl, sh, fun z => (by cases z), fun y1 e1 => ⟨fun z => (by cases z), fun y2 e2 => ?_⟩⟩)⟩)⟩⟩)
  cases e1
  cases e2
  rw [nI_eqI (by omega) (by omega)]
  refine ⟨fun c => ⟨K1.2.2.1.1, c_doesBar sh K1.2.2 (by omega) (fun c2 => ⟨_, rfl, sh, fun z => absurd rfl z, fun _ => ⟨K2.2.2.1.1, c_doesBar sh K2.2.2 (by omega) (fun c3 => ⟨_, rfl, sh, fun _ => ?_, fun z => absurd rfl z⟩) (fun c3 => ⟨_, rfl, sh, fun z => absurd z (by decide), fun _ => k0 (fun y => ?_)⟩)⟩⟩) (fun c2 => ⟨_, rfl, sh, fun _ => k0 (fun y => ?_), fun z => absurd z (by decide)⟩)⟩, fun c => k0 (fun y => y.1 c)⟩
  · refine c_fromOf35 sh cvo z4 ho ⟨_, rfl, sh, c_fromOf31 sh cva z2 hk ⟨_, rfl, sh, ?_⟩⟩
    rw [i_lt (by omega) (by omega)]
    refine ⟨fun c4 => k0 (fun y => by have := y.2.2.2.1; omega), fun c4 => c_toOf31 sh cva z2 hk ⟨_, rfl, sh, c_toOf35 sh cvo z4 ho ⟨_, rfl, sh, ?_⟩⟩⟩
    rw [i_lt (by omega) (by omega)]
    refine ⟨fun c5 => k0 (fun y => by have := y.2.2.2.2.1; omega), fun c5 => c_priceOf sh cva z2 cx cd hk ⟨a3, a4⟩ ⟨_, rfl, sh, K1.2.2.1.1, c_wouldOwe sh K1.2.2 _ ⟨_, rfl, sh, fun c6 => k0 (fun y => (fa_of_lt c6).2.1 y.2.2.2.2.2), fun c6 => k1 ⟨c, c2, c3, by omega, by omega, fa_of_nlt c6⟩⟩⟩⟩
  · rw [y.2.2.1] at c3; cases c3
  · rw [y.2.1] at c2; cases c2
theorem e12 (f g : Nat) : (12 : Int32) * nI f + nI g = nI (12 * f + g) := by rw [show (12 : Int32) = nI 12 from rfl, pk_mul, nI_add]
theorem MS.d {h : mm_H} {T : zT} {X : zX} {dy cl : Nat} {ft : Int32} {F : zF} {A O : zV} {N : zN} {C : zC} {H : zH} (K : MS h cl T X dy ft F A O N C H) : mD h dy := ⟨K.2.2.2.2.2.2.1.1.2, K.2.2.2.2.2.2.1.2.1⟩
theorem m_fit {h : mm_H} {Q : Option Value → mm_H → Prop} {cap : Nat → Nat} {T : zT} {X : zX} {dy cl W : Nat} {ft : Int32} {F : zF} {A O : zV} {N : zN} {C : zC} {H : zH} (sh : s_h h) (K : MS h cl T X dy ft F A O N C H) (Z : zP W cap F A O N H) {debt : Int32} {k o : Nat} (hk : k < A.1) (ho : o < O.1) (k0 : ¬ zFit X dy A O N debt k o → Q (some (.int 0)) h) (k1 : zFit X dy A O N debt k o → Q (some (.int 1)) h) : w_c 3 134 [.ref 44, .int (nI k), .int (nI o), .int debt] h Q := by
  have md := K.d
  obtain ⟨-, mx, -, -, mva, mvo, mb, mo, ⟨-, -, mbar⟩, -⟩ := K
  obtain ⟨z1, ⟨z2, z3⟩, ⟨z4, z5⟩, -⟩ := Z
  obtain ⟨⟨a1, a2⟩, a3, a4⟩ := z3 k hk
  obtain ⟨⟨b1, b2⟩, b3, b4⟩ := z5 o ho
  have vk : vp_in (nI k) 10 := vp_in_nI (by omega) (by decide)
  have vo : vp_in (nI o) 10 := vp_in_nI (by omega) (by decide)
  have e1 : h_ai h 55 k = nI (A.2.1 k) := (mva.2 k hk).1
  have e2 : h_ai h 56 k = nI (A.2.2.1 k) := (mva.2 k hk).2.1
  have e3 : h_ai h 57 k = nI (A.2.2.2 k) := (mva.2 k hk).2.2
  have e4 : h_ai h 58 o = nI (O.2.1 o) := (mvo.2 o ho).1
  have e5 : h_ai h 59 o = nI (O.2.2.1 o) := (mvo.2 o ho).2.1
  have e6 : h_ai h 60 o = nI (O.2.2.2 o) := (mvo.2 o ho).2.2
  refine t_X9_isFit_0 sh _ _ _ ?_
  rw [i_cl (a := k) (by omega), i_cl (a := o) (by omega), e1, e2, e3, e4, e5, e6, e12, e12, i_cl (by omega), i_cl (by omega), mbar _ (by omega) _ (by omega), mbar _ (by omega) _ (by omega), nI_eqI (by omega) (by omega), i_lt (by omega) (by omega), i_lt (by omega) (by omega)]
  refine ⟨vk, vo, fun c => k0 (fun y => y.1 c), fun c => ⟨vp_in_nI (by omega) (by decide), fun c2 => k0 (fun y => ?_), fun c2 => ⟨vp_in_nI (by omega) (by decide), fun c3 => k0 (fun y => ?_), fun c3 => ⟨vo, vk, fun c4 => k0 (fun y => by have := y.2.2.2.1; omega), fun c4 => ⟨vk, vo, fun c5 => k0 (fun y => by have := y.2.2.2.2.1; omega), fun c5 => ?_⟩⟩⟩⟩⟩
  · rw [y.2.1] at c2; exact c2 rfl
  · rw [y.2.2.1] at c3; exact c3 rfl
  · have d2 : bt (N.2.2.1 (A.2.1 k)) (O.2.1 o) = false := bfalse (fun z => by rw [if_pos z] at c2; exact absurd c2 (by decide))
    have d3 : bt (N.2.2.1 (O.2.1 o)) (A.2.1 k) = false := bfalse (fun z => by rw [if_pos z] at c3; exact absurd c3 (by decide))
    refine m_priceOf sh mva z2 mx md hk ⟨a3, a4⟩ ⟨_, rfl, sh, m_may sh mb mo (by omega) _ _ (fun c6 => ⟨_, rfl, sh, fun _ => k0 (fun y => c6 y.2.2.2.2.2), fun z => absurd rfl z⟩) (fun c6 => ⟨_, rfl, sh, fun z => absurd z (by decide), fun _ => k1 ⟨c, d2, d3, by omega, by omega, c6⟩⟩)⟩
set_option maxHeartbeats 1000000 in
theorem c_look {h : mm_H} {Q : Option Value → mm_H → Prop} {own cap : Nat → Nat} {T : zT} {X : zX} {dy W : Nat} {ft : Int32} {F : zF} {A O : zV} {N : zN} {C : zC} {H : zH} (sh : s_h h) (K : CS h own cap T X dy ft F A O N C H) (Z : zP W cap F A O N H) {debt : Int32} (k : ∀ h', fx h h' [(131, 39), (132, 39)] [40, 41] → dn h h' → cM h' A.1 O.1 (a_fit X dy A O N debt) → cMz h' A.1 O.1 → (∀ i, i < 10 → h_ai h' 41 i = -4) → Q none h') : w_c 4 94 [.ref 16, .int debt] h Q := by
  obtain ⟨hna, hno⟩ : A.1 ≤ 10 ∧ O.1 ≤ 10 := ⟨Z.2.1.1, Z.2.2.1.1⟩
  have n31 : h_oi h 451 31 = nI A.1 := K.2.2.2.2.2.1.1
  have n35 : h_oi h 451 35 = nI O.1 := K.2.2.2.2.2.2.1.1
  have inner : ∀ a, a < A.1 → ∀ w b, b + w = O.1 → ∀ h1, fx h h1 [(131, 39), (132, 39)] [40, 41] → dn h h1 → h_oi h1 131 39 = nI A.1 → h_oi h1 132 39 = nI O.1 → (∀ i, i < 10 → h_ai h1 41 i = -4) → (∀ a', a' < A.1 → ∀ o, o < 32 → (bt (h_ai h1 40 a') o = true ↔ o < O.1 ∧ (a' < a ∨ (a' = a ∧ o < b)) ∧ zFit X dy A O N debt a' o)) → (∀ h2, fx h h2 [(131, 39), (132, 39)] [40, 41] → dn h h2 → h_oi h2 131 39 = nI A.1 → h_oi h2 132 39 = nI O.1 → (∀ i, i < 10 → h_ai h2 41 i = -4) → (∀ a', a' < A.1 → ∀ o, o < 32 → (bt (h_ai h2 40 a') o = true ↔ o < O.1 ∧ a' < a + 1 ∧ zFit X dy A O N debt a' o)) → w_p 4 (8, 4, mc_X8_lookForFits) 23 [(0, .ref 16), (1, .int debt), (2, .int (nI (a + 1)))] [] h2 Q) → w_p 4 (8, 4, mc_X8_lookForFits) 36 [(0, .ref 16), (1, .int debt), (2, .int (nI a)), (3, .int (nI b))] [] h1 Q := by
    intro a ha w
    induction w with
    | zero =>
      intro b hb h1 f d q1 q2 q3 q4 kk
      have m35 : h_oi h1 451 35 = nI O.1 := (f.oi _ _ (by decide) (by decide)).trans n35
      refine t_X8_lookForFits_36 (f.sh sh (by decide)) _ _ _ (K23 := fun y1 y2 hh => y1 = debt ∧ y2 = nI (a + 1) ∧ hh = h1) (fun y1 y2 hh z => ?_) (K36 := fun _ _ _ _ => False) (fun _ _ _ _ z => z.elim) ⟨fun _ => ⟨rfl, nI_1 a, rfl⟩, fun z => absurd ?_ z⟩
      · obtain ⟨rfl, rfl, rfl⟩ := z
        refine kk hh f d q1 q2 q3 (fun a' ha' o ho => (q4 a' ha' o ho).trans ⟨fun y => ⟨y.1, by omega, y.2.2⟩, fun y => ⟨y.1, by omega, y.2.2⟩⟩)
      · rw [m35, i_le (by omega) (by omega)]; omega
    | succ w ih =>
      intro b hb h1 f d q1 q2 q3 q4 kk
      have sh1 := f.sh sh (by decide)
      have K1 : CS h1 own cap T X dy ft F A O N C H := K.sc (f.wk (by decide) (by decide)) d
      have m35 : h_oi h1 451 35 = nI O.1 := (f.oi _ _ (by decide) (by decide)).trans n35
      refine t_X8_lookForFits_36 sh1 _ _ _ (K23 := fun _ _ _ => False) (fun _ _ _ z => z.elim) (K36 := fun y1 y2 y3 hh => y1 = debt ∧ y2 = nI a ∧ y3 = nI (b + 1) ∧ fx h hh [(131, 39), (132, 39)] [40, 41] ∧ dn h hh ∧ h_oi hh 131 39 = nI A.1 ∧ h_oi hh 132 39 = nI O.1 ∧ (∀ i, i < 10 → h_ai hh 41 i = -4) ∧ (∀ a', a' < A.1 → ∀ o, o < 32 → (bt (h_ai hh 40 a') o = true ↔ o < O.1 ∧ (a' < a ∨ (a' = a ∧ o < b + 1)) ∧ zFit X dy A O N debt a' o))) (fun y1 y2 y3 hh z => ?_) ⟨fun z => ?_, fun _ => ?_⟩
      · obtain ⟨rfl, rfl, rfl, f2, d2, r1, r2, r3, r4⟩ := z
        exact ih (b + 1) (by omega) hh f2 d2 r1 r2 r3 r4 kk
      · rw [m35, i_le (by omega) (by omega)] at z; omega
      · refine c_fit sh1 K1 Z ha (by omega) (fun c => ⟨_, rfl, sh1, fun _ => ⟨rfl, rfl, nI_1 b, f, d, q1, q2, q3, fun a' ha' o ho => (q4 a' ha' o ho).trans ⟨fun y => ⟨y.1, by omega, y.2.2⟩, fun y => ⟨y.1, ?_, y.2.2⟩⟩⟩, fun z => absurd rfl z⟩) (fun c => ⟨_, rfl, sh1, fun z => absurd z (by decide), fun _ => c_addFit sh1 ⟨⟨hna, hno⟩, q1, q2⟩ ha (by omega) ⟨rfl, ?_⟩⟩)
        · rcases y.2.1 with y1 | ⟨y1, y2⟩
          · exact Or.inl y1
          · refine Or.inr ⟨y1, ?_⟩
            by_cases z : o = b
            · rw [y1, z] at y; exact absurd y.2.2 c
            · omega
        · have f2 : fx h (h_sA h1 40 a (h_ai h1 40 a ||| ((1 : Int32) <<< (nI b &&& 31)))) [(131, 39), (132, 39)] [40, 41] := f.sA _ _ (Or.inl (by decide))
          refine ⟨f2.sh sh (by decide), rfl, rfl, nI_1 b, f2, d.sA _ _ (by decide), q1, q2, fun i hi => by rw [ai_ne (by decide)]; exact q3 i hi, fun a' ha' o ho => ?_⟩
          rw [ai_self]
          by_cases z : a' = a
          · rw [z, va_up_self, b_or, bt_1 (by omega), Bool.or_eq_true, decide_eq_true_iff]
            rw [q4 a ha o ho]
            refine ⟨fun y => ?_, fun y => ?_⟩
            · rcases y with y | y
              · exact ⟨y.1, by omega, y.2.2⟩
              · rw [y]; exact ⟨by omega, Or.inr ⟨rfl, by omega⟩, c⟩
            · by_cases z2 : o = b
              · exact Or.inr z2
              · exact Or.inl ⟨y.1, by omega, y.2.2⟩
          · rw [va_up_ne _ _ z, q4 a' ha' o ho]
            exact ⟨fun y => ⟨y.1, by omega, y.2.2⟩, fun y => ⟨y.1, by omega, y.2.2⟩⟩
  have outer : ∀ w a, a + w = A.1 → ∀ h1, fx h h1 [(131, 39), (132, 39)] [40, 41] → dn h h1 → h_oi h1 131 39 = nI A.1 → h_oi h1 132 39 = nI O.1 → (∀ i, i < 10 → h_ai h1 41 i = -4) → (∀ a', a' < A.1 → ∀ o, o < 32 → (bt (h_ai h1 40 a') o = true ↔ o < O.1 ∧ a' < a ∧ zFit X dy A O N debt a' o)) → w_p 4 (8, 4, mc_X8_lookForFits) 23 [(0, .ref 16), (1, .int debt), (2, .int (nI a))] [] h1 Q := by
    intro w
    induction w with
    | zero =>
      intro a ha h1 f d q1 q2 q3 q4
      have m31 : h_oi h1 451 31 = nI A.1 := (f.oi _ _ (by decide) (by decide)).trans n31
      refine t_X8_lookForFits_23 (f.sh sh (by decide)) _ _ (K36 := fun _ _ _ _ => False) (fun _ _ _ _ z => z.elim) ⟨fun _ => k h1 f d ⟨⟨hna, hno⟩, q1, q2, fun a' ha' o ho => ?_⟩ (fun a' ha' o ho1 ho2 => bfalse (fun z => by have := ((q4 a' ha' o ho2).mp z).1; omega)) q3, fun z => absurd ?_ z⟩
      · rw [Bool.eq_iff_iff, q4 a' ha' o (by omega), a_fit_t]
        exact ⟨fun y => y.2.2, fun y => ⟨ho, by omega, y⟩⟩
      · rw [m31, i_le (by omega) (by omega)]; omega
    | succ w ih =>
      intro a ha h1 f d q1 q2 q3 q4
      have m31 : h_oi h1 451 31 = nI A.1 := (f.oi _ _ (by decide) (by decide)).trans n31
      refine t_X8_lookForFits_23 (f.sh sh (by decide)) _ _ (K36 := fun y1 y2 y3 hh => y1 = debt ∧ y2 = nI a ∧ y3 = nI 0 ∧ hh = h1) (fun y1 y2 y3 hh z => ?_) ⟨fun z => ?_, fun _ => ⟨rfl, rfl, rfl, rfl⟩⟩
      · obtain ⟨rfl, rfl, rfl, rfl⟩ := z
        exact inner a (by omega) O.1 0 (by omega) hh f d q1 q2 q3 (fun a' ha' o ho => (q4 a' ha' o ho).trans ⟨fun y => ⟨y.1, Or.inl y.2.1, y.2.2⟩, fun y => ⟨y.1, by omega, y.2.2⟩⟩) (fun h2 f2 d2 r1 r2 r3 r4 => ih (a + 1) (by omega) h2 f2 d2 r1 r2 r3 r4)
      · rw [m31, i_le (by omega) (by omega)] at z; omega
  refine t_X8_lookForFits_0 sh _ (K23 := fun y1 y2 hh => y1 = debt ∧ y2 = nI 0 ∧ fx h hh [(131, 39), (132, 39)] [40, 41] ∧ dn h hh ∧ h_oi hh 131 39 = nI A.1 ∧ h_oi hh 132 39 = nI O.1 ∧ (∀ i, i < 10 → h_ai hh 41 i = -4) ∧ ∀ i, i < 10 → h_ai hh 40 i = 0) (fun y1 y2 hh z => ?_) ?_
  · obtain ⟨rfl, rfl, f, d, q1, q2, q3, q4⟩ := z
    refine outer A.1 0 (by omega) hh f d q1 q2 q3 (fun a' ha' o ho => ?_)
    rw [q4 a' (by omega), b_0]
    exact ⟨fun z => (by cases z), fun z => absurd z.2.1 (by omega)⟩
  · rw [n31, n35]
    exact c_begin sh hna hno (fun h' f d q1 q2 q3 q4 => ⟨rfl, f.sh sh (by decide), rfl, rfl, f, d, q1, q2, q4, q3⟩)
set_option maxHeartbeats 1000000 in
theorem m_find {h : mm_H} {Q : Option Value → mm_H → Prop} {cap : Nat → Nat} {T : zT} {X : zX} {dy cl W : Nat} {ft : Int32} {F : zF} {A O : zV} {N : zN} {C : zC} {H : zH} (sh : s_h h) (K : MS h cl T X dy ft F A O N C H) (Z : zP W cap F A O N H) {debt : Int32} (k : ∀ h', fx h h' [] [61] → dn h h' → mF h' A.1 O.1 (a_fit X dy A O N debt) → Q none h') : w_c 4 136 [.ref 44, .int debt] h Q := by
  obtain ⟨hna, hno⟩ : A.1 ≤ 10 ∧ O.1 ≤ 10 := ⟨Z.2.1.1, Z.2.2.1.1⟩
  have n31 : h_oi h 600 44 = nI A.1 := K.2.2.2.2.1.1
  have n35 : h_oi h 604 44 = nI O.1 := K.2.2.2.2.2.1.1
  have inner : ∀ a, a < A.1 → ∀ w b, b + w = O.1 → ∀ h1, fx h h1 [] [61] → dn h h1 → (∀ a', a' ≤ a → ∀ o, o < O.1 → (a' < a ∨ o < b) → h_ai h1 61 (10 * a' + o) = if a_fit X dy A O N debt a' o then 1 else 0) → (∀ h2, fx h h2 [] [61] → dn h h2 → (∀ a', a' < a + 1 → ∀ o, o < O.1 → h_ai h2 61 (10 * a' + o) = if a_fit X dy A O N debt a' o then 1 else 0) → w_p 4 (9, 4, mc_X9_findFits) 2 [(0, .ref 44), (1, .int debt), (2, .int (nI (a + 1)))] [] h2 Q) → w_p 4 (9, 4, mc_X9_findFits) 12 [(0, .ref 44), (1, .int debt), (2, .int (nI a)), (3, .int (nI b))] [] h1 Q := by
    intro a ha w
    induction w with
    | zero =>
      intro b hb h1 f d q4 kk
      have m35 : h_oi h1 604 44 = nI O.1 := (f.oi _ _ (by decide) (by decide)).trans n35
      refine t_X9_findFits_12 (f.sh sh (by decide)) _ _ _ (K2 := fun y1 y2 hh => y1 = debt ∧ y2 = nI (a + 1) ∧ hh = h1) (fun y1 y2 hh z => ?_) (K12 := fun _ _ _ _ => False) (fun _ _ _ _ z => z.elim) ⟨fun _ => ⟨rfl, nI_1 a, rfl⟩, fun z => absurd ?_ z⟩
      · obtain ⟨rfl, rfl, rfl⟩ := z
        exact kk hh f d (fun a' ha' o ho => q4 a' (by omega) o ho (by omega))
      · rw [m35, i_le (by omega) (by omega)]; omega
    | succ w ih =>
      intro b hb h1 f d q4 kk
      have sh1 := f.sh sh (by decide)
      have K1 : MS h1 cl T X dy ft F A O N C H := K.sc (f.wk (by decide) (by decide))
      have m35 : h_oi h1 604 44 = nI O.1 := (f.oi _ _ (by decide) (by decide)).trans n35
      have vi : vp_in (nI (10 * a + b)) 100 := vp_in_nI (by omega) (by decide)
      have ic : (nI (10 * a + b)).toNatClampNeg = 10 * a + b := i_cl (by omega)
      refine t_X9_findFits_12 sh1 _ _ _ (K2 := fun _ _ _ => False) (fun _ _ _ z => z.elim) (K12 := fun y1 y2 y3 hh => y1 = debt ∧ y2 = nI a ∧ y3 = nI (b + 1) ∧ fx h hh [] [61] ∧ dn h hh ∧ (∀ a', a' ≤ a → ∀ o, o < O.1 → (a' < a ∨ o < b + 1) → h_ai hh 61 (10 * a' + o) = if a_fit X dy A O N debt a' o then 1 else 0)) (fun y1 y2 y3 hh z => ?_) ⟨fun z => ?_, fun _ => ?_⟩
      · obtain ⟨rfl, rfl, rfl, f2, d2, r4⟩ := z
        exact ih (b + 1) (by omega) hh f2 d2 r4 kk
      · rw [m35, i_le (by omega) (by omega)] at z; omega
      · rw [e10, ic]
        have step : ∀ v : Int32, (v = if a_fit X dy A O N debt a b then 1 else 0) → (∀ a', a' ≤ a → ∀ o, o < O.1 → (a' < a ∨ o < b + 1) → h_ai (h_sA h1 61 (10 * a + b) v) 61 (10 * a' + o) = if a_fit X dy A O N debt a' o then 1 else 0) := by
          intro v hv a' ha' o ho hc
          rw [ai_self]
          by_cases z : 10 * a' + o = 10 * a + b
          · have z1 : a' = a := by omega
            have z2 : o = b := by omega
            rw [z1, z2, va_up_self]
            exact hv
          · rw [va_up_ne _ _ z]
            exact q4 a' ha' o ho (by omega)
        refine m_fit sh1 K1 Z ha (by omega) (fun c => ⟨_, rfl, sh1, vi, rfl, rfl, nI_1 b, f.sA _ _ (Or.inl (by decide)), d.sA _ _ (by decide), step _ ?_⟩) (fun c => ⟨_, rfl, sh1, vi, rfl, rfl, nI_1 b, f.sA _ _ (Or.inl (by decide)), d.sA _ _ (by decide), step _ ?_⟩)
        · rw [if_neg (fun z => c (a_fit_t.mp z))]; rfl
        · rw [if_pos (a_fit_t.mpr c)]; rfl
  have outer : ∀ w a, a + w = A.1 → ∀ h1, fx h h1 [] [61] → dn h h1 → (∀ a', a' < a → ∀ o, o < O.1 → h_ai h1 61 (10 * a' + o) = if a_fit X dy A O N debt a' o then 1 else 0) → w_p 4 (9, 4, mc_X9_findFits) 2 [(0, .ref 44), (1, .int debt), (2, .int (nI a))] [] h1 Q := by
    intro w
    induction w with
    | zero =>
      intro a ha h1 f d q4
      have m31 : h_oi h1 600 44 = nI A.1 := (f.oi _ _ (by decide) (by decide)).trans n31
      refine t_X9_findFits_2 (f.sh sh (by decide)) _ _ (K12 := fun _ _ _ _ => False) (fun _ _ _ _ z => z.elim) ⟨fun _ => k h1 f d (fun a' ha' o ho => q4 a' (by omega) o ho), fun z => absurd ?_ z⟩
      rw [m31, i_le (by omega) (by omega)]; omega
    | succ w ih =>
      intro a ha h1 f d q4
      have m31 : h_oi h1 600 44 = nI A.1 := (f.oi _ _ (by decide) (by decide)).trans n31
      refine t_X9_findFits_2 (f.sh sh (by decide)) _ _ (K12 := fun y1 y2 y3 hh => y1 = debt ∧ y2 = nI a ∧ y3 = nI 0 ∧ hh = h1) (fun y1 y2 y3 hh z => ?_) ⟨fun z => ?_, fun _ => ⟨rfl, rfl, rfl, rfl⟩⟩
      · obtain ⟨rfl, rfl, rfl, rfl⟩ := z
        exact inner a (by omega) O.1 0 (by omega) hh f d (fun a' ha' o ho hc => q4 a' (by omega) o ho) (fun h2 f2 d2 r4 => ih (a + 1) (by omega) h2 f2 d2 r4)
      · rw [m31, i_le (by omega) (by omega)] at z; omega
  refine t_X9_findFits_0 sh _ (K2 := fun y1 y2 hh => y1 = debt ∧ y2 = nI 0 ∧ hh = h) (fun y1 y2 hh z => ?_) ⟨rfl, rfl, rfl⟩
  obtain ⟨rfl, rfl, rfl⟩ := z
  exact outer A.1 0 (by omega) hh (fx.rf _ _ _) (dn.rf _) (fun a' ha' => absurd ha' (by omega))
