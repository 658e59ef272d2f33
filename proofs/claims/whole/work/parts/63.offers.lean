set_option maxRecDepth 20000 in
theorem t_X8_offerFrom_0 {h : mm_H} {Q : Option Value → mm_H → Prop} (sh : s_h h) (ro : Nat) (c : Int32) {ra rn : Nat} (kr : h_kd h ro = 6) (ka : h_kd h ra = 20) (rr : h_or h 321 ro = some ra) (al : h_al h ra = rn) (hr : 16 ≤ ro) (ha : 16 ≤ ra)
    (F : ((c < 0 → Q (some (.int (-12))) h) ∧ (¬ (c < 0) → ((c ≤ ((Int32.ofNat rn) - (3 : Int32)) → w_c 1 45 [.ref ro, .int c] h (fun r h3 => ∃ z4 : Int32, r = some (.int z4) ∧ s_h h3 ∧ (h_kd h3 ro = 6 ∧ w_c 1 45 [.ref ro, .int (c + 1)] h3 (fun r h6 => ∃ z7 : Int32, r = some (.int z7) ∧ s_h h6 ∧ (h_kd h6 ro = 6 ∧ w_c 1 45 [.ref ro, .int (c + 2)] h6 (fun r h9 => ∃ z10 : Int32, r = some (.int z10) ∧ s_h h9 ∧ w_c 2 74 [.ref 16, .int z4, .int z7, .int z10] h9 (fun r h11 => ∃ z12 : Int32, r = some (.int z12) ∧ s_h h11 ∧ ((0 ≤ z12 → Q (some (.int z12)) h11) ∧ (¬ (0 ≤ z12) → Q (some (.int ((-20) + z12))) h11))))))))) ∧ (¬ (c ≤ ((Int32.ofNat rn) - (3 : Int32))) → Q (some (.int (-12))) h))))) :
    w_c 4 101 [.ref 16, .ref ro, .int c] h Q := by
  refine w_ci (M := (8, 4, mc_X8_offerFrom)) rfl (Nat.le_of_ble_eq_true rfl) ?_
  show w_p _ _ 0 [(0, .ref 16), (1, .ref ro), (2, .int c)] [] h Q
  refine w_b 1 1 [(0, .ref 16), (1, .ref ro), (2, .int c)] [.int c] rfl ?_
  refine w_if_lt (tgt := 15) (x := c) rfl (by decide) ⟨fun c1 => ?_, fun c1 => ?_⟩
  · have F := F.1 c1
    refine w_b 1 17 [(0, .ref 16), (1, .ref ro), (2, .int c)] [.int (-12)] rfl ?_
    exact w_ir rfl F
  · have F := F.2 c1
    refine w_b 2 6 [(0, .ref 16), (1, .ref ro), (2, .int c)] [.ref ro, .int c] rfl ?_
    refine w_getS (b := ra) rfl rfl rfl kr (rr) ?_
    refine w_alen rfl (by rw [show _ = 20 from ka]; decide) ?_
    rw [show h_al h ra = rn from al]
    refine w_b 2 12 [(0, .ref 16), (1, .ref ro), (2, .int c)] [.int ((Int32.ofNat rn) - (3 : Int32)), .int c] rfl ?_
    refine w_ic_le (tgt := 18) (x := c) (y := (Int32.ofNat rn) - (3 : Int32)) rfl (by decide) ⟨fun c2 => ?_, fun c2 => ?_⟩
    · have F := F.1 c2
      refine w_b 3 21 [(0, .ref 16), (1, .ref ro), (2, .int c)] [.int c, .ref ro, .ref 16] rfl ?_
      refine w_cv (As := [.int c]) (b := ro) (rest := [.ref 16]) rfl rfl rfl (Nat.le_of_ble_eq_true rfl) kr (fun z => absurd z (by decide)) (dc := 1) (by omega) (F.mono (fun r h3 F => ?_))
      obtain ⟨z4, rfl, sh3, F⟩ := F
      show w_p _ _ 24 [(0, .ref 16), (1, .ref ro), (2, .int c)] [.int z4, .ref 16] h3 _
      refine w_b 4 28 [(0, .ref 16), (1, .ref ro), (2, .int c)] [.int (c + 1), .ref ro, .int z4, .ref 16] rfl ?_
      obtain ⟨g5, F⟩ := F
      refine w_cv (As := [.int (c + 1)]) (b := ro) (rest := [.int z4, .ref 16]) rfl rfl rfl (Nat.le_of_ble_eq_true rfl) g5 (fun z => absurd z (by decide)) (dc := 1) (by omega) (F.mono (fun r h6 F => ?_))
      obtain ⟨z7, rfl, sh6, F⟩ := F
      show w_p _ _ 31 [(0, .ref 16), (1, .ref ro), (2, .int c)] [.int z7, .int z4, .ref 16] h6 _
      refine w_b 4 35 [(0, .ref 16), (1, .ref ro), (2, .int c)] [.int (c + 2), .ref ro, .int z7, .int z4, .ref 16] rfl ?_
      obtain ⟨g8, F⟩ := F
      refine w_cv (As := [.int (c + 2)]) (b := ro) (rest := [.int z7, .int z4, .ref 16]) rfl rfl rfl (Nat.le_of_ble_eq_true rfl) g8 (fun z => absurd z (by decide)) (dc := 1) (by omega) (F.mono (fun r h9 F => ?_))
      obtain ⟨z10, rfl, sh9, F⟩ := F
      show w_p _ _ 38 [(0, .ref 16), (1, .ref ro), (2, .int c)] [.int z10, .int z7, .int z4, .ref 16] h9 _
      refine w_cv (As := [.int z4, .int z7, .int z10]) (b := 16) (rest := []) rfl rfl rfl (Nat.le_of_ble_eq_true rfl) (kd_16 sh9) (fun z => absurd z (by decide)) (dc := 2) (by omega) (F.mono (fun r h11 F => ?_))
      obtain ⟨z12, rfl, sh11, F⟩ := F
      show w_p _ _ 41 [(0, .ref 16), (1, .ref ro), (2, .int c)] [.int z12] h11 _
      refine w_b 2 43 [(3, .int z12), (0, .ref 16), (1, .ref ro), (2, .int c)] [.int z12] rfl ?_
      refine w_if_ge (tgt := 53) (x := z12) rfl (by decide) ⟨fun c13 => ?_, fun c13 => ?_⟩
      · have F := F.1 c13
        refine w_b 1 54 [(3, .int z12), (0, .ref 16), (1, .ref ro), (2, .int c)] [.int z12] rfl ?_
        exact w_ir rfl F
      · have F := F.2 c13
        refine w_b 4 54 [(3, .int z12), (0, .ref 16), (1, .ref ro), (2, .int c)] [.int ((-20) + z12)] rfl ?_
        exact w_ir rfl F
    · have F := F.2 c2
      refine w_b 1 17 [(0, .ref 16), (1, .ref ro), (2, .int c)] [.int (-12)] rfl ?_
      exact w_ir rfl F

set_option maxRecDepth 20000 in
theorem t_X8_offers_0 {h : mm_H} {Q : Option Value → mm_H → Prop} (sh : s_h h) (k : Int32) (lane : Int32) (c : Int32) (n : Int32) {K68 : Int32 → Int32 → Int32 → Int32 → Nat → Int32 → Int32 → mm_H → Prop} (k68 : ∀ (k : Int32) (lane : Int32) (c : Int32) (n : Int32) (x5 : Nat) (x6 : Int32) (x7 : Int32) (h : mm_H), K68 k lane c n x5 x6 x7 h → w_p 5 (8, 9, mc_X8_offers) 68 [(0, .ref 16), (1, .int k), (2, .int lane), (3, .int c), (4, .int n), (5, .ref x5), (6, .int x6), (7, .int x7)] [] h Q) 
    (F : w_c 0 99 [.int k] h (fun r h1 => ∃ z2 : Int32, r = some (.int z2) ∧ s_h h1 ∧ ((z2 = 0 → Q (some (.int (-1))) h1) ∧ (¬ (z2 = 0) → w_c 0 100 [.int lane] h1 (fun r h4 => ∃ z5 : Int32, r = some (.int z5) ∧ s_h h4 ∧ ((z5 = 0 → Q (some (.int (-1))) h4) ∧ (¬ (z5 = 0) → ((n < 0 → Q (some (.int (-1))) h4) ∧ (¬ (n < 0) → ((n ≤ 10 → (vp_in k 4 ∧ (((h_ar h4 43 k.toNatClampNeg) = none → Q (some (.int (-11))) h4) ∧ (∀ a11 : Nat, (h_ar h4 43 k.toNatClampNeg) = some a11 → (h_kd h4 a11 = 6 ∧ (((h_oi h4 320 a11) = lane → K68 k lane c n a11 (h_oi h4 451 35) 0 h4) ∧ (¬ ((h_oi h4 320 a11) = lane) → Q (some (.int (-13))) h4))))))) ∧ (¬ (n ≤ 10) → Q (some (.int (-1))) h4))))))))))) :
    w_c 5 85 [.ref 16, .int k, .int lane, .int c, .int n] h Q := by
  refine w_ci (M := (8, 9, mc_X8_offers)) rfl (Nat.le_of_ble_eq_true rfl) ?_
  show w_p _ _ 0 [(0, .ref 16), (1, .int k), (2, .int lane), (3, .int c), (4, .int n)] [] h Q
  refine w_b 1 1 [(0, .ref 16), (1, .int k), (2, .int lane), (3, .int c), (4, .int n)] [.int k] rfl ?_
  refine w_cs (As := [.int k]) (rest := []) rfl rfl rfl (Nat.le_of_ble_eq_true rfl) (dc := 0) (by omega) (F.mono (fun r h1 F => ?_))
  obtain ⟨z2, rfl, sh1, F⟩ := F
  show w_p _ _ 4 [(0, .ref 16), (1, .int k), (2, .int lane), (3, .int c), (4, .int n)] [.int z2] h1 _
  refine w_if_eq (tgt := 26) (x := z2) rfl (by decide) ⟨fun c3 => ?_, fun c3 => ?_⟩
  · have F := F.1 c3
    refine w_b 1 27 [(0, .ref 16), (1, .int k), (2, .int lane), (3, .int c), (4, .int n)] [.int (-1)] rfl ?_
    exact w_ir rfl F
  · have F := F.2 c3
    refine w_b 1 8 [(0, .ref 16), (1, .int k), (2, .int lane), (3, .int c), (4, .int n)] [.int lane] rfl ?_
    refine w_cs (As := [.int lane]) (rest := []) rfl rfl rfl (Nat.le_of_ble_eq_true rfl) (dc := 0) (by omega) (F.mono (fun r h4 F => ?_))
    obtain ⟨z5, rfl, sh4, F⟩ := F
    show w_p _ _ 11 [(0, .ref 16), (1, .int k), (2, .int lane), (3, .int c), (4, .int n)] [.int z5] h4 _
    refine w_if_eq (tgt := 26) (x := z5) rfl (by decide) ⟨fun c6 => ?_, fun c6 => ?_⟩
    · have F := F.1 c6
      refine w_b 1 27 [(0, .ref 16), (1, .int k), (2, .int lane), (3, .int c), (4, .int n)] [.int (-1)] rfl ?_
      exact w_ir rfl F
    · have F := F.2 c6
      refine w_b 1 16 [(0, .ref 16), (1, .int k), (2, .int lane), (3, .int c), (4, .int n)] [.int n] rfl ?_
      refine w_if_lt (tgt := 26) (x := n) rfl (by decide) ⟨fun c7 => ?_, fun c7 => ?_⟩
      · have F := F.1 c7
        refine w_b 1 27 [(0, .ref 16), (1, .int k), (2, .int lane), (3, .int c), (4, .int n)] [.int (-1)] rfl ?_
        exact w_ir rfl F
      · have F := F.2 c7
        refine w_b 2 23 [(0, .ref 16), (1, .int k), (2, .int lane), (3, .int c), (4, .int n)] [.int 10, .int n] rfl ?_
        refine w_ic_le (tgt := 28) (x := n) (y := 10) rfl (by decide) ⟨fun c8 => ?_, fun c8 => ?_⟩
        · have F := F.1 c8
          refine w_b 1 29 [(0, .ref 16), (1, .int k), (2, .int lane), (3, .int c), (4, .int n)] [.ref 16] rfl ?_
          refine w_getS (b := 43) rfl rfl rfl (kd_16 sh4) (or_519_16 sh4) ?_
          refine w_b 1 33 [(0, .ref 16), (1, .int k), (2, .int lane), (3, .int c), (4, .int n)] [.int k, .ref 43] rfl ?_
          obtain ⟨g9, F⟩ := F
          refine w_aald rfl (by rw [kd_43 sh4]; decide) (Eq.mpr (congrArg (vp_in k) (al_43 sh4)) g9) ?_
          refine w_astM (r := h_ar h4 43 k.toNatClampNeg) (lo2 := [(5, va_rf (h_ar h4 43 k.toNatClampNeg)), (0, .ref 16), (1, .int k), (2, .int lane), (3, .int c), (4, .int n)]) rfl (by decide) rfl ?_
          refine w_aldM (r := h_ar h4 43 k.toNatClampNeg) rfl rfl ?_
          refine w_ifnonnull (tgt := 44) (r := h_ar h4 43 k.toNatClampNeg) rfl (by decide) ⟨fun c10 => ?_, fun a11 c10 => ?_⟩
          · have F := F.1 c10
            refine w_b 1 43 [(5, va_rf (h_ar h4 43 k.toNatClampNeg)), (0, .ref 16), (1, .int k), (2, .int lane), (3, .int c), (4, .int n)] [.int (-11)] rfl ?_
            exact w_ir rfl F
          · have F := F.2 a11 c10
            simp only [c10] ; show w_p _ _ 44 [(5, .ref a11), (0, .ref 16), (1, .int k), (2, .int lane), (3, .int c), (4, .int n)] [] h4 _
            refine w_b 1 46 [(5, .ref a11), (0, .ref 16), (1, .int k), (2, .int lane), (3, .int c), (4, .int n)] [.ref a11] rfl ?_
            obtain ⟨g12, F⟩ := F
            refine w_get (g := 320) rfl rfl rfl g12 ?_
            refine w_b 1 50 [(5, .ref a11), (0, .ref 16), (1, .int k), (2, .int lane), (3, .int c), (4, .int n)] [.int lane, .int (h_oi h4 320 a11)] rfl ?_
            refine w_ic_eq (tgt := 56) (x := h_oi h4 320 a11) (y := lane) rfl (by decide) ⟨fun c13 => ?_, fun c13 => ?_⟩
            · have F := F.1 c13
              refine w_b 1 57 [(5, .ref a11), (0, .ref 16), (1, .int k), (2, .int lane), (3, .int c), (4, .int n)] [.ref 16] rfl ?_
              refine w_getS (b := 35) rfl rfl rfl (kd_16 sh4) (or_517_16 sh4) ?_
              refine w_get (g := 451) rfl rfl rfl (kd_35 sh4) ?_
              refine w_b 3 68 [(7, .int 0), (6, .int (h_oi h4 451 35)), (5, .ref a11), (0, .ref 16), (1, .int k), (2, .int lane), (3, .int c), (4, .int n)] [] rfl ?_
              refine w_lo [0, 1, 2, 3, 4, 5, 6, 7] [(0, .ref 16), (1, .int k), (2, .int lane), (3, .int c), (4, .int n), (5, .ref a11), (6, .int (h_oi h4 451 35)), (7, .int 0)] rfl rfl ?_
              exact k68 _ _ _ _ _ _ _ _ F
            · have F := F.2 c13
              refine w_b 1 55 [(5, .ref a11), (0, .ref 16), (1, .int k), (2, .int lane), (3, .int c), (4, .int n)] [.int (-13)] rfl ?_
              exact w_ir rfl F
        · have F := F.2 c8
          refine w_b 1 27 [(0, .ref 16), (1, .int k), (2, .int lane), (3, .int c), (4, .int n)] [.int (-1)] rfl ?_
          exact w_ir rfl F

set_option maxRecDepth 20000 in
theorem t_X8_offers_68 {h : mm_H} {Q : Option Value → mm_H → Prop} (sh : s_h h) (k : Int32) (lane : Int32) (c : Int32) (n : Int32) (x5 : Nat) (x6 : Int32) (x7 : Int32) {K68 : Int32 → Int32 → Int32 → Int32 → Nat → Int32 → Int32 → mm_H → Prop} (k68 : ∀ (k : Int32) (lane : Int32) (c : Int32) (n : Int32) (x5 : Nat) (x6 : Int32) (x7 : Int32) (h : mm_H), K68 k lane c n x5 x6 x7 h → w_p 5 (8, 9, mc_X8_offers) 68 [(0, .ref 16), (1, .int k), (2, .int lane), (3, .int c), (4, .int n), (5, .ref x5), (6, .int x6), (7, .int x7)] [] h Q) 
    (F : ((n ≤ x7 → Q (some (.int n)) h) ∧ (¬ (n ≤ x7) → w_c 4 101 [.ref 16, .ref x5, .int (c + (x7 * (3 : Int32)))] h (fun r h2 => ∃ z3 : Int32, r = some (.int z3) ∧ s_h h2 ∧ ((0 ≤ z3 → K68 k lane c n x5 x6 (x7 + 1) h2) ∧ (¬ (0 ≤ z3) → Q (some (.int z3)) (h_sI h2 451 35 x6))))))) :
    w_p 5 (8, 9, mc_X8_offers) 68 [(0, .ref 16), (1, .int k), (2, .int lane), (3, .int c), (4, .int n), (5, .ref x5), (6, .int x6), (7, .int x7)] [] h Q := by
  refine w_b 2 72 [(0, .ref 16), (1, .int k), (2, .int lane), (3, .int c), (4, .int n), (5, .ref x5), (6, .int x6), (7, .int x7)] [.int n, .int x7] rfl ?_
  refine w_ic_ge (tgt := 112) (x := x7) (y := n) rfl (by decide) ⟨fun c1 => ?_, fun c1 => ?_⟩
  · have F := F.1 c1
    refine w_b 1 114 [(0, .ref 16), (1, .int k), (2, .int lane), (3, .int c), (4, .int n), (5, .ref x5), (6, .int x6), (7, .int x7)] [.int n] rfl ?_
    exact w_ir rfl F
  · have F := F.2 c1
    refine w_b 7 84 [(0, .ref 16), (1, .int k), (2, .int lane), (3, .int c), (4, .int n), (5, .ref x5), (6, .int x6), (7, .int x7)] [.int (c + (x7 * (3 : Int32))), .ref x5, .ref 16] rfl ?_
    refine w_cv (As := [.ref x5, .int (c + (x7 * (3 : Int32)))]) (b := 16) (rest := []) rfl rfl rfl (Nat.le_of_ble_eq_true rfl) (kd_16 sh) (fun z => absurd z (by decide)) (dc := 4) (by omega) (F.mono (fun r h2 F => ?_))
    obtain ⟨z3, rfl, sh2, F⟩ := F
    show w_p _ _ 87 [(0, .ref 16), (1, .int k), (2, .int lane), (3, .int c), (4, .int n), (5, .ref x5), (6, .int x6), (7, .int x7)] [.int z3] h2 _
    refine w_b 2 91 [(8, .int z3), (0, .ref 16), (1, .int k), (2, .int lane), (3, .int c), (4, .int n), (5, .ref x5), (6, .int x6), (7, .int x7)] [.int z3] rfl ?_
    refine w_if_ge (tgt := 106) (x := z3) rfl (by decide) ⟨fun c4 => ?_, fun c4 => ?_⟩
    · have F := F.1 c4
      refine w_b 2 68 [(7, .int (x7 + 1)), (8, .int z3), (0, .ref 16), (1, .int k), (2, .int lane), (3, .int c), (4, .int n), (5, .ref x5), (6, .int x6)] [] rfl ?_
      refine w_lo [0, 1, 2, 3, 4, 5, 6, 7] [(0, .ref 16), (1, .int k), (2, .int lane), (3, .int c), (4, .int n), (5, .ref x5), (6, .int x6), (7, .int (x7 + 1))] rfl rfl ?_
      exact k68 _ _ _ _ _ _ _ _ F
    · have F := F.2 c4
      refine w_b 1 95 [(8, .int z3), (0, .ref 16), (1, .int k), (2, .int lane), (3, .int c), (4, .int n), (5, .ref x5), (6, .int x6), (7, .int x7)] [.ref 16] rfl ?_
      refine w_getS (b := 35) rfl rfl rfl (kd_16 sh2) (or_517_16 sh2) ?_
      refine w_b 1 100 [(8, .int z3), (0, .ref 16), (1, .int k), (2, .int lane), (3, .int c), (4, .int n), (5, .ref x5), (6, .int x6), (7, .int x7)] [.int x6, .ref 35] rfl ?_
      refine w_put (g := 451) (x := x6) rfl rfl rfl (kd_35 sh2) (by decide) ?_
      refine w_b 1 105 [(8, .int z3), (0, .ref 16), (1, .int k), (2, .int lane), (3, .int c), (4, .int n), (5, .ref x5), (6, .int x6), (7, .int x7)] [.int z3] rfl ?_
      exact w_ir rfl F

set_option maxRecDepth 20000 in
theorem t_X9_offers_0 {h : mm_H} {Q : Option Value → mm_H → Prop} (sh : s_h h) (k : Int32) (lane : Int32) (c : Int32) (n : Int32) {K65 : Int32 → Int32 → Int32 → Int32 → Int32 → Int32 → Int32 → mm_H → Prop} (k65 : ∀ (k : Int32) (lane : Int32) (c : Int32) (n : Int32) (x5 : Int32) (x6 : Int32) (x7 : Int32) (h : mm_H), K65 k lane c n x5 x6 x7 h → w_p 4 (9, 12, mc_X9_offers) 65 [(0, .ref 44), (1, .int k), (2, .int lane), (3, .int c), (4, .int n), (5, .int x5), (6, .int x6), (7, .int x7)] [] h Q) 
    (F : w_c 1 147 [.int k, .int lane] h (fun r h1 => ∃ z2 : Int32, r = some (.int z2) ∧ s_h h1 ∧ ((z2 = 0 → Q (some (.int (-1))) h1) ∧ (¬ (z2 = 0) → ((¬ (f_in n.toInt64 (Int64.ofNat 0) (Int64.ofNat 10)) = 0 → (vp_in k 4 ∧ (((h_ai h1 67 k.toNatClampNeg) = lane → K65 k lane c n (h_oi h1 604 44) n 0 h1) ∧ (¬ ((h_ai h1 67 k.toNatClampNeg) = lane) → (vp_in k 4 ∧ ((¬ (h_ai h1 67 k.toNatClampNeg) = (-4) → Q (some (.int (-13))) h1) ∧ ((h_ai h1 67 k.toNatClampNeg) = (-4) → Q (some (.int (-11))) h1))))))) ∧ ((f_in n.toInt64 (Int64.ofNat 0) (Int64.ofNat 10)) = 0 → Q (some (.int (-1))) h1)))))) :
    w_c 4 150 [.ref 44, .int k, .int lane, .int c, .int n] h Q := by
  refine w_ci (M := (9, 12, mc_X9_offers)) rfl (Nat.le_of_ble_eq_true rfl) ?_
  show w_p _ _ 0 [(0, .ref 44), (1, .int k), (2, .int lane), (3, .int c), (4, .int n)] [] h Q
  refine w_b 2 2 [(0, .ref 44), (1, .int k), (2, .int lane), (3, .int c), (4, .int n)] [.int lane, .int k] rfl ?_
  refine w_cs (As := [.int k, .int lane]) (rest := []) rfl rfl rfl (Nat.le_of_ble_eq_true rfl) (dc := 1) (by omega) (F.mono (fun r h1 F => ?_))
  obtain ⟨z2, rfl, sh1, F⟩ := F
  show w_p _ _ 5 [(0, .ref 44), (1, .int k), (2, .int lane), (3, .int c), (4, .int n)] [.int z2] h1 _
  refine w_if_eq (tgt := 21) (x := z2) rfl (by decide) ⟨fun c3 => ?_, fun c3 => ?_⟩
  · have F := F.1 c3
    refine w_b 1 22 [(0, .ref 44), (1, .int k), (2, .int lane), (3, .int c), (4, .int n)] [.int (-1)] rfl ?_
    exact w_ir rfl F
  · have F := F.2 c3
    refine w_b 4 15 [(0, .ref 44), (1, .int k), (2, .int lane), (3, .int c), (4, .int n)] [.long (Int64.ofNat 10), .long (Int64.ofNat 0), .long n.toInt64] rfl ?_
    refine w_cs (As := [.long n.toInt64, .long (Int64.ofNat 0), .long (Int64.ofNat 10)]) (rest := []) rfl rfl rfl (Nat.le_of_ble_eq_true rfl) (dc := 0) (by omega) (sp_in  ?_)
    show w_p _ _ 18 [(0, .ref 44), (1, .int k), (2, .int lane), (3, .int c), (4, .int n)] [.int (f_in n.toInt64 (Int64.ofNat 0) (Int64.ofNat 10))] h1 _
    refine w_if_ne (tgt := 23) (x := f_in n.toInt64 (Int64.ofNat 0) (Int64.ofNat 10)) rfl (by decide) ⟨fun c4 => ?_, fun c4 => ?_⟩
    · have F := F.1 c4
      refine w_b 1 24 [(0, .ref 44), (1, .int k), (2, .int lane), (3, .int c), (4, .int n)] [.ref 44] rfl ?_
      refine w_getS (b := 67) rfl rfl rfl (kd_44 sh1) (or_614_44 sh1) ?_
      refine w_b 1 28 [(0, .ref 44), (1, .int k), (2, .int lane), (3, .int c), (4, .int n)] [.int k, .ref 67] rfl ?_
      obtain ⟨g5, F⟩ := F
      refine w_iald rfl (kd_67 sh1) (Eq.mpr (congrArg (vp_in k) (al_67 sh1)) g5) ?_
      refine w_b 1 30 [(0, .ref 44), (1, .int k), (2, .int lane), (3, .int c), (4, .int n)] [.int lane, .int (h_ai h1 67 k.toNatClampNeg)] rfl ?_
      refine w_ic_eq (tgt := 52) (x := h_ai h1 67 k.toNatClampNeg) (y := lane) rfl (by decide) ⟨fun c6 => ?_, fun c6 => ?_⟩
      · have F := F.1 c6
        refine w_b 1 53 [(0, .ref 44), (1, .int k), (2, .int lane), (3, .int c), (4, .int n)] [.ref 44] rfl ?_
        refine w_get (g := 604) rfl rfl rfl (kd_44 sh1) ?_
        refine w_b 5 65 [(7, .int 0), (6, .int n), (5, .int (h_oi h1 604 44)), (0, .ref 44), (1, .int k), (2, .int lane), (3, .int c), (4, .int n)] [] rfl ?_
        refine w_lo [0, 1, 2, 3, 4, 5, 6, 7] [(0, .ref 44), (1, .int k), (2, .int lane), (3, .int c), (4, .int n), (5, .int (h_oi h1 604 44)), (6, .int n), (7, .int 0)] rfl rfl ?_
        exact k65 _ _ _ _ _ _ _ _ F
      · have F := F.2 c6
        refine w_b 1 34 [(0, .ref 44), (1, .int k), (2, .int lane), (3, .int c), (4, .int n)] [.ref 44] rfl ?_
        refine w_getS (b := 67) rfl rfl rfl (kd_44 sh1) (or_614_44 sh1) ?_
        refine w_b 1 38 [(0, .ref 44), (1, .int k), (2, .int lane), (3, .int c), (4, .int n)] [.int k, .ref 67] rfl ?_
        obtain ⟨g7, F⟩ := F
        refine w_iald rfl (kd_67 sh1) (Eq.mpr (congrArg (vp_in k) (al_67 sh1)) g7) ?_
        refine w_b 1 41 [(0, .ref 44), (1, .int k), (2, .int lane), (3, .int c), (4, .int n)] [.int (-4), .int (h_ai h1 67 k.toNatClampNeg)] rfl ?_
        refine w_ic_ne (tgt := 49) (x := h_ai h1 67 k.toNatClampNeg) (y := (-4)) rfl (by decide) ⟨fun c8 => ?_, fun c8 => ?_⟩
        · have F := F.1 c8
          refine w_b 1 51 [(0, .ref 44), (1, .int k), (2, .int lane), (3, .int c), (4, .int n)] [.int (-13)] rfl ?_
          exact w_ir rfl F
        · have F := F.2 (Decidable.not_not.mp c8)
          refine w_b 2 51 [(0, .ref 44), (1, .int k), (2, .int lane), (3, .int c), (4, .int n)] [.int (-11)] rfl ?_
          exact w_ir rfl F
    · have F := F.2 (Decidable.not_not.mp c4)
      refine w_b 1 22 [(0, .ref 44), (1, .int k), (2, .int lane), (3, .int c), (4, .int n)] [.int (-1)] rfl ?_
      exact w_ir rfl F

set_option maxRecDepth 20000 in
theorem t_X9_offers_65 {h : mm_H} {Q : Option Value → mm_H → Prop} (sh : s_h h) (k : Int32) (lane : Int32) (c : Int32) (n : Int32) (x5 : Int32) (x6 : Int32) (x7 : Int32) {K65 : Int32 → Int32 → Int32 → Int32 → Int32 → Int32 → Int32 → mm_H → Prop} (k65 : ∀ (k : Int32) (lane : Int32) (c : Int32) (n : Int32) (x5 : Int32) (x6 : Int32) (x7 : Int32) (h : mm_H), K65 k lane c n x5 x6 x7 h → w_p 4 (9, 12, mc_X9_offers) 65 [(0, .ref 44), (1, .int k), (2, .int lane), (3, .int c), (4, .int n), (5, .int x5), (6, .int x6), (7, .int x7)] [] h Q) 
    (F : ((n ≤ x7 → ((0 ≤ x6 → Q (some (.int x6)) (h_sI h 604 44 (h_oi h 604 44))) ∧ (¬ (0 ≤ x6) → Q (some (.int x6)) (h_sI h 604 44 x5)))) ∧ (¬ (n ≤ x7) → ((¬ x6 = n → ((0 ≤ x6 → Q (some (.int x6)) (h_sI h 604 44 (h_oi h 604 44))) ∧ (¬ (0 ≤ x6) → Q (some (.int x6)) (h_sI h 604 44 x5)))) ∧ (x6 = n → (((lg_cmp (c.toInt64 + (((3 : Int32) * x7).toInt64)) (Int64.ofNat 0)) < 0 → K65 k lane c n x5 (-12) (x7 + 1) h) ∧ (¬ ((lg_cmp (c.toInt64 + (((3 : Int32) * x7).toInt64)) (Int64.ofNat 0)) < 0) → (vp_in k 4 ∧ (((lg_cmp ((c.toInt64 + (((3 : Int32) * x7).toInt64)) + (Int64.ofNat 3)) ((h_ai h 68 k.toNatClampNeg).toInt64)) ≤ 0 → (vp_in (((60 : Int32) * k) + ((c.toInt64 + (((3 : Int32) * x7).toInt64)).toInt32)) 240 ∧ (vp_in ((((60 : Int32) * k) + ((c.toInt64 + (((3 : Int32) * x7).toInt64)).toInt32)) + 1) 240 ∧ (vp_in ((((60 : Int32) * k) + ((c.toInt64 + (((3 : Int32) * x7).toInt64)).toInt32)) + 2) 240 ∧ w_c 3 131 [.ref 44, .int (h_ai h 69 (((60 : Int32) * k) + ((c.toInt64 + (((3 : Int32) * x7).toInt64)).toInt32)).toNatClampNeg), .int (h_ai h 69 ((((60 : Int32) * k) + ((c.toInt64 + (((3 : Int32) * x7).toInt64)).toInt32)) + 1).toNatClampNeg), .int (h_ai h 69 ((((60 : Int32) * k) + ((c.toInt64 + (((3 : Int32) * x7).toInt64)).toInt32)) + 2).toNatClampNeg)] h (fun r h11 => ∃ z12 : Int32, r = some (.int z12) ∧ s_h h11 ∧ ((0 ≤ z12 → K65 k lane c n x5 n (x7 + 1) h11) ∧ (¬ (0 ≤ z12) → K65 k lane c n x5 ((-20) + z12) (x7 + 1) h11))))))) ∧ (¬ ((lg_cmp ((c.toInt64 + (((3 : Int32) * x7).toInt64)) + (Int64.ofNat 3)) ((h_ai h 68 k.toNatClampNeg).toInt64)) ≤ 0) → K65 k lane c n x5 (-12) (x7 + 1) h)))))))))) :
    w_p 4 (9, 12, mc_X9_offers) 65 [(0, .ref 44), (1, .int k), (2, .int lane), (3, .int c), (4, .int n), (5, .int x5), (6, .int x6), (7, .int x7)] [] h Q := by
  refine w_b 2 69 [(0, .ref 44), (1, .int k), (2, .int lane), (3, .int c), (4, .int n), (5, .int x5), (6, .int x6), (7, .int x7)] [.int n, .int x7] rfl ?_
  refine w_ic_ge (tgt := 184) (x := x7) (y := n) rfl (by decide) ⟨fun c1 => ?_, fun c1 => ?_⟩
  · have F := F.1 c1
    refine w_b 2 187 [(0, .ref 44), (1, .int k), (2, .int lane), (3, .int c), (4, .int n), (5, .int x5), (6, .int x6), (7, .int x7)] [.int x6, .ref 44] rfl ?_
    refine w_if_ge (tgt := 195) (x := x6) rfl (by decide) ⟨fun c2 => ?_, fun c2 => ?_⟩
    · have F := F.1 c2
      refine w_b 1 196 [(0, .ref 44), (1, .int k), (2, .int lane), (3, .int c), (4, .int n), (5, .int x5), (6, .int x6), (7, .int x7)] [.ref 44, .ref 44] rfl ?_
      refine w_get (g := 604) rfl rfl rfl (kd_44 sh) ?_
      refine w_put (g := 604) (x := h_oi h 604 44) rfl rfl rfl (kd_44 sh) (by decide) ?_
      refine w_b 1 204 [(0, .ref 44), (1, .int k), (2, .int lane), (3, .int c), (4, .int n), (5, .int x5), (6, .int x6), (7, .int x7)] [.int x6] rfl ?_
      exact w_ir rfl F
    · have F := F.2 c2
      refine w_b 2 199 [(0, .ref 44), (1, .int k), (2, .int lane), (3, .int c), (4, .int n), (5, .int x5), (6, .int x6), (7, .int x7)] [.int x5, .ref 44] rfl ?_
      refine w_put (g := 604) (x := x5) rfl rfl rfl (kd_44 sh) (by decide) ?_
      refine w_b 1 204 [(0, .ref 44), (1, .int k), (2, .int lane), (3, .int c), (4, .int n), (5, .int x5), (6, .int x6), (7, .int x7)] [.int x6] rfl ?_
      exact w_ir rfl F
  · have F := F.2 c1
    refine w_b 2 76 [(0, .ref 44), (1, .int k), (2, .int lane), (3, .int c), (4, .int n), (5, .int x5), (6, .int x6), (7, .int x7)] [.int n, .int x6] rfl ?_
    refine w_ic_ne (tgt := 184) (x := x6) (y := n) rfl (by decide) ⟨fun c3 => ?_, fun c3 => ?_⟩
    · have F := F.1 c3
      refine w_b 2 187 [(0, .ref 44), (1, .int k), (2, .int lane), (3, .int c), (4, .int n), (5, .int x5), (6, .int x6), (7, .int x7)] [.int x6, .ref 44] rfl ?_
      refine w_if_ge (tgt := 195) (x := x6) rfl (by decide) ⟨fun c4 => ?_, fun c4 => ?_⟩
      · have F := F.1 c4
        refine w_b 1 196 [(0, .ref 44), (1, .int k), (2, .int lane), (3, .int c), (4, .int n), (5, .int x5), (6, .int x6), (7, .int x7)] [.ref 44, .ref 44] rfl ?_
        refine w_get (g := 604) rfl rfl rfl (kd_44 sh) ?_
        refine w_put (g := 604) (x := h_oi h 604 44) rfl rfl rfl (kd_44 sh) (by decide) ?_
        refine w_b 1 204 [(0, .ref 44), (1, .int k), (2, .int lane), (3, .int c), (4, .int n), (5, .int x5), (6, .int x6), (7, .int x7)] [.int x6] rfl ?_
        exact w_ir rfl F
      · have F := F.2 c4
        refine w_b 2 199 [(0, .ref 44), (1, .int k), (2, .int lane), (3, .int c), (4, .int n), (5, .int x5), (6, .int x6), (7, .int x7)] [.int x5, .ref 44] rfl ?_
        refine w_put (g := 604) (x := x5) rfl rfl rfl (kd_44 sh) (by decide) ?_
        refine w_b 1 204 [(0, .ref 44), (1, .int k), (2, .int lane), (3, .int c), (4, .int n), (5, .int x5), (6, .int x6), (7, .int x7)] [.int x6] rfl ?_
        exact w_ir rfl F
    · have F := F.2 (Decidable.not_not.mp c3)
      refine w_b 11 93 [(8, .long (c.toInt64 + (((3 : Int32) * x7).toInt64))), (0, .ref 44), (1, .int k), (2, .int lane), (3, .int c), (4, .int n), (5, .int x5), (6, .int x6), (7, .int x7)] [.int (lg_cmp (c.toInt64 + (((3 : Int32) * x7).toInt64)) (Int64.ofNat 0))] rfl ?_
      refine w_if_lt (tgt := 113) (x := lg_cmp (c.toInt64 + (((3 : Int32) * x7).toInt64)) (Int64.ofNat 0)) rfl (by decide) ⟨fun c5 => ?_, fun c5 => ?_⟩
      · have F := F.1 c5
        refine w_b 5 65 [(7, .int (x7 + 1)), (6, .int (-12)), (8, .long (c.toInt64 + (((3 : Int32) * x7).toInt64))), (0, .ref 44), (1, .int k), (2, .int lane), (3, .int c), (4, .int n), (5, .int x5)] [] rfl ?_
        refine w_lo [0, 1, 2, 3, 4, 5, 6, 7] [(0, .ref 44), (1, .int k), (2, .int lane), (3, .int c), (4, .int n), (5, .int x5), (6, .int (-12)), (7, .int (x7 + 1))] rfl rfl ?_
        exact k65 _ _ _ _ _ _ _ _ F
      · have F := F.2 c5
        refine w_b 4 103 [(8, .long (c.toInt64 + (((3 : Int32) * x7).toInt64))), (0, .ref 44), (1, .int k), (2, .int lane), (3, .int c), (4, .int n), (5, .int x5), (6, .int x6), (7, .int x7)] [.ref 44, .long ((c.toInt64 + (((3 : Int32) * x7).toInt64)) + (Int64.ofNat 3))] rfl ?_
        refine w_getS (b := 68) rfl rfl rfl (kd_44 sh) (or_615_44 sh) ?_
        refine w_b 1 107 [(8, .long (c.toInt64 + (((3 : Int32) * x7).toInt64))), (0, .ref 44), (1, .int k), (2, .int lane), (3, .int c), (4, .int n), (5, .int x5), (6, .int x6), (7, .int x7)] [.int k, .ref 68, .long ((c.toInt64 + (((3 : Int32) * x7).toInt64)) + (Int64.ofNat 3))] rfl ?_
        obtain ⟨g6, F⟩ := F
        refine w_iald rfl (kd_68 sh) (Eq.mpr (congrArg (vp_in k) (al_68 sh)) g6) ?_
        refine w_b 2 110 [(8, .long (c.toInt64 + (((3 : Int32) * x7).toInt64))), (0, .ref 44), (1, .int k), (2, .int lane), (3, .int c), (4, .int n), (5, .int x5), (6, .int x6), (7, .int x7)] [.int (lg_cmp ((c.toInt64 + (((3 : Int32) * x7).toInt64)) + (Int64.ofNat 3)) ((h_ai h 68 k.toNatClampNeg).toInt64))] rfl ?_
        refine w_if_le (tgt := 120) (x := lg_cmp ((c.toInt64 + (((3 : Int32) * x7).toInt64)) + (Int64.ofNat 3)) ((h_ai h 68 k.toNatClampNeg).toInt64)) rfl (by decide) ⟨fun c7 => ?_, fun c7 => ?_⟩
        · have F := F.1 c7
          refine w_b 9 132 [(10, .int (((60 : Int32) * k) + ((c.toInt64 + (((3 : Int32) * x7).toInt64)).toInt32))), (8, .long (c.toInt64 + (((3 : Int32) * x7).toInt64))), (0, .ref 44), (1, .int k), (2, .int lane), (3, .int c), (4, .int n), (5, .int x5), (6, .int x6), (7, .int x7)] [.ref 44, .ref 44] rfl ?_
          refine w_getS (b := 69) rfl rfl rfl (kd_44 sh) (or_616_44 sh) ?_
          refine w_b 1 137 [(10, .int (((60 : Int32) * k) + ((c.toInt64 + (((3 : Int32) * x7).toInt64)).toInt32))), (8, .long (c.toInt64 + (((3 : Int32) * x7).toInt64))), (0, .ref 44), (1, .int k), (2, .int lane), (3, .int c), (4, .int n), (5, .int x5), (6, .int x6), (7, .int x7)] [.int (((60 : Int32) * k) + ((c.toInt64 + (((3 : Int32) * x7).toInt64)).toInt32)), .ref 69, .ref 44] rfl ?_
          obtain ⟨g8, F⟩ := F
          refine w_iald rfl (kd_69 sh) (Eq.mpr (congrArg (vp_in (((60 : Int32) * k) + ((c.toInt64 + (((3 : Int32) * x7).toInt64)).toInt32))) (al_69 sh)) g8) ?_
          refine w_b 1 139 [(10, .int (((60 : Int32) * k) + ((c.toInt64 + (((3 : Int32) * x7).toInt64)).toInt32))), (8, .long (c.toInt64 + (((3 : Int32) * x7).toInt64))), (0, .ref 44), (1, .int k), (2, .int lane), (3, .int c), (4, .int n), (5, .int x5), (6, .int x6), (7, .int x7)] [.ref 44, .int (h_ai h 69 (((60 : Int32) * k) + ((c.toInt64 + (((3 : Int32) * x7).toInt64)).toInt32)).toNatClampNeg), .ref 44] rfl ?_
          refine w_getS (b := 69) rfl rfl rfl (kd_44 sh) (or_616_44 sh) ?_
          refine w_b 3 146 [(10, .int (((60 : Int32) * k) + ((c.toInt64 + (((3 : Int32) * x7).toInt64)).toInt32))), (8, .long (c.toInt64 + (((3 : Int32) * x7).toInt64))), (0, .ref 44), (1, .int k), (2, .int lane), (3, .int c), (4, .int n), (5, .int x5), (6, .int x6), (7, .int x7)] [.int ((((60 : Int32) * k) + ((c.toInt64 + (((3 : Int32) * x7).toInt64)).toInt32)) + 1), .ref 69, .int (h_ai h 69 (((60 : Int32) * k) + ((c.toInt64 + (((3 : Int32) * x7).toInt64)).toInt32)).toNatClampNeg), .ref 44] rfl ?_
          obtain ⟨g9, F⟩ := F
          refine w_iald rfl (kd_69 sh) (Eq.mpr (congrArg (vp_in ((((60 : Int32) * k) + ((c.toInt64 + (((3 : Int32) * x7).toInt64)).toInt32)) + 1)) (al_69 sh)) g9) ?_
          refine w_b 1 148 [(10, .int (((60 : Int32) * k) + ((c.toInt64 + (((3 : Int32) * x7).toInt64)).toInt32))), (8, .long (c.toInt64 + (((3 : Int32) * x7).toInt64))), (0, .ref 44), (1, .int k), (2, .int lane), (3, .int c), (4, .int n), (5, .int x5), (6, .int x6), (7, .int x7)] [.ref 44, .int (h_ai h 69 ((((60 : Int32) * k) + ((c.toInt64 + (((3 : Int32) * x7).toInt64)).toInt32)) + 1).toNatClampNeg), .int (h_ai h 69 (((60 : Int32) * k) + ((c.toInt64 + (((3 : Int32) * x7).toInt64)).toInt32)).toNatClampNeg), .ref 44] rfl ?_
          refine w_getS (b := 69) rfl rfl rfl (kd_44 sh) (or_616_44 sh) ?_
          refine w_b 3 155 [(10, .int (((60 : Int32) * k) + ((c.toInt64 + (((3 : Int32) * x7).toInt64)).toInt32))), (8, .long (c.toInt64 + (((3 : Int32) * x7).toInt64))), (0, .ref 44), (1, .int k), (2, .int lane), (3, .int c), (4, .int n), (5, .int x5), (6, .int x6), (7, .int x7)] [.int ((((60 : Int32) * k) + ((c.toInt64 + (((3 : Int32) * x7).toInt64)).toInt32)) + 2), .ref 69, .int (h_ai h 69 ((((60 : Int32) * k) + ((c.toInt64 + (((3 : Int32) * x7).toInt64)).toInt32)) + 1).toNatClampNeg), .int (h_ai h 69 (((60 : Int32) * k) + ((c.toInt64 + (((3 : Int32) * x7).toInt64)).toInt32)).toNatClampNeg), .ref 44] rfl ?_
          obtain ⟨g10, F⟩ := F
          refine w_iald rfl (kd_69 sh) (Eq.mpr (congrArg (vp_in ((((60 : Int32) * k) + ((c.toInt64 + (((3 : Int32) * x7).toInt64)).toInt32)) + 2)) (al_69 sh)) g10) ?_
          refine w_cv (As := [.int (h_ai h 69 (((60 : Int32) * k) + ((c.toInt64 + (((3 : Int32) * x7).toInt64)).toInt32)).toNatClampNeg), .int (h_ai h 69 ((((60 : Int32) * k) + ((c.toInt64 + (((3 : Int32) * x7).toInt64)).toInt32)) + 1).toNatClampNeg), .int (h_ai h 69 ((((60 : Int32) * k) + ((c.toInt64 + (((3 : Int32) * x7).toInt64)).toInt32)) + 2).toNatClampNeg)]) (b := 44) (rest := []) rfl rfl rfl (Nat.le_of_ble_eq_true rfl) (kd_44 sh) (fun z => absurd z (by decide)) (dc := 3) (by omega) (F.mono (fun r h11 F => ?_))
          obtain ⟨z12, rfl, sh11, F⟩ := F
          show w_p _ _ 159 [(10, .int (((60 : Int32) * k) + ((c.toInt64 + (((3 : Int32) * x7).toInt64)).toInt32))), (8, .long (c.toInt64 + (((3 : Int32) * x7).toInt64))), (0, .ref 44), (1, .int k), (2, .int lane), (3, .int c), (4, .int n), (5, .int x5), (6, .int x6), (7, .int x7)] [.int z12] h11 _
          refine w_b 2 163 [(11, .int z12), (10, .int (((60 : Int32) * k) + ((c.toInt64 + (((3 : Int32) * x7).toInt64)).toInt32))), (8, .long (c.toInt64 + (((3 : Int32) * x7).toInt64))), (0, .ref 44), (1, .int k), (2, .int lane), (3, .int c), (4, .int n), (5, .int x5), (6, .int x6), (7, .int x7)] [.int z12] rfl ?_
          refine w_if_ge (tgt := 174) (x := z12) rfl (by decide) ⟨fun c13 => ?_, fun c13 => ?_⟩
          · have F := F.1 c13
            refine w_b 4 65 [(7, .int (x7 + 1)), (6, .int n), (11, .int z12), (10, .int (((60 : Int32) * k) + ((c.toInt64 + (((3 : Int32) * x7).toInt64)).toInt32))), (8, .long (c.toInt64 + (((3 : Int32) * x7).toInt64))), (0, .ref 44), (1, .int k), (2, .int lane), (3, .int c), (4, .int n), (5, .int x5)] [] rfl ?_
            refine w_lo [0, 1, 2, 3, 4, 5, 6, 7] [(0, .ref 44), (1, .int k), (2, .int lane), (3, .int c), (4, .int n), (5, .int x5), (6, .int n), (7, .int (x7 + 1))] rfl rfl ?_
            exact k65 _ _ _ _ _ _ _ _ F
          · have F := F.2 c13
            refine w_b 7 65 [(7, .int (x7 + 1)), (6, .int ((-20) + z12)), (11, .int z12), (10, .int (((60 : Int32) * k) + ((c.toInt64 + (((3 : Int32) * x7).toInt64)).toInt32))), (8, .long (c.toInt64 + (((3 : Int32) * x7).toInt64))), (0, .ref 44), (1, .int k), (2, .int lane), (3, .int c), (4, .int n), (5, .int x5)] [] rfl ?_
            refine w_lo [0, 1, 2, 3, 4, 5, 6, 7] [(0, .ref 44), (1, .int k), (2, .int lane), (3, .int c), (4, .int n), (5, .int x5), (6, .int ((-20) + z12)), (7, .int (x7 + 1))] rfl rfl ?_
            exact k65 _ _ _ _ _ _ _ _ F
        · have F := F.2 c7
          refine w_b 5 65 [(7, .int (x7 + 1)), (6, .int (-12)), (8, .long (c.toInt64 + (((3 : Int32) * x7).toInt64))), (0, .ref 44), (1, .int k), (2, .int lane), (3, .int c), (4, .int n), (5, .int x5)] [] rfl ?_
          refine w_lo [0, 1, 2, 3, 4, 5, 6, 7] [(0, .ref 44), (1, .int k), (2, .int lane), (3, .int c), (4, .int n), (5, .int x5), (6, .int (-12)), (7, .int (x7 + 1))] rfl rfl ?_
          exact k65 _ _ _ _ _ _ _ _ F

/-! OFFERS OF A SHEET -/
def v_add (O : zV) (f a b : Int32) : zV := (O.1 + 1, va_up O.2.1 O.1 f.toNatClampNeg, va_up O.2.2.1 O.1 a.toNatClampNeg, va_up O.2.2.2 O.1 b.toNatClampNeg)
def zOs (cc : Nat → Int32) (c : Nat) (O : zV) : Nat → zV
  | 0 => O
  | i + 1 => v_add (zOs cc c O i) (cc (c + 3 * i)) (cc (c + 3 * i + 1)) (cc (c + 3 * i + 2))
theorem zOs_1 (cc : Nat → Int32) (c : Nat) (O : zV) : ∀ i, (zOs cc c O i).1 = O.1 + i
  | 0 => rfl
  | i + 1 => by show (zOs cc c O i).1 + 1 = _; rw [zOs_1 cc c O i]; rfl
theorem zOs_lt (cc : Nat → Int32) (c : Nat) (O : zV) {t : Nat} (ht : t < O.1) : ∀ i, (zOs cc c O i).2.1 t = O.2.1 t ∧ (zOs cc c O i).2.2.1 t = O.2.2.1 t ∧ (zOs cc c O i).2.2.2 t = O.2.2.2 t
  | 0 => ⟨rfl, rfl, rfl⟩
  | i + 1 => by
    obtain ⟨a1, a2, a3⟩ := zOs_lt cc c O ht i
    have e := zOs_1 cc c O i
    refine ⟨?_, ?_, ?_⟩
    · show va_up (zOs cc c O i).2.1 (zOs cc c O i).1 _ t = _
      rw [va_up_ne _ _ (by omega)]; exact a1
    · show va_up (zOs cc c O i).2.2.1 (zOs cc c O i).1 _ t = _
      rw [va_up_ne _ _ (by omega)]; exact a2
    · show va_up (zOs cc c O i).2.2.2 (zOs cc c O i).1 _ t = _
      rw [va_up_ne _ _ (by omega)]; exact a3
/-- the cells of the i-th offer are there -/
def zOc (c : Int32) (sz i : Nat) : Prop := ¬ c < 0 ∧ c.toNatClampNeg + 3 * i + 3 ≤ sz
def zOv (F : zF) (cc : Nat → Int32) (c : Int32) (i : Nat) : Prop := isV F.1 F.2 (cc (c.toNatClampNeg + 3 * i)) (cc (c.toNatClampNeg + 3 * i + 1)) (cc (c.toNatClampNeg + 3 * i + 2))
def zOk (F : zF) (O : zV) (cc : Nat → Int32) (c : Int32) (sz i : Nat) : Prop := zOc c sz i ∧ zOv F cc c i ∧ O.1 + i < 10
noncomputable def zOe (F : zF) (cc : Nat → Int32) (c : Int32) (sz i : Nat) : Int32 := r_if (zOc c sz i) (r_if (zOv F cc c i) (-23) (-21)) (-12)
noncomputable def zOr (F : zF) (O : zV) (cc : Nat → Int32) (c : Int32) (sz m : Nat) : Int32 × zV := z_if (∀ j, j < m → zOk F O cc c sz j) (nI m, zOs cc c.toNatClampNeg O m) (zOe F cc c sz (Classical.epsilon (fun i => i < m ∧ ¬ zOk F O cc c sz i ∧ ∀ j, j < i → zOk F O cc c sz j)), O)
theorem zOr_s {F : zF} {O : zV} {cc : Nat → Int32} {c : Int32} {sz m : Nat} (h : ∀ j, j < m → zOk F O cc c sz j) : zOr F O cc c sz m = (nI m, zOs cc c.toNatClampNeg O m) := z_if_t h
theorem zOr_f {F : zF} {O : zV} {cc : Nat → Int32} {c : Int32} {sz m i : Nat} (hi : i < m) (h : ∀ j, j < i → zOk F O cc c sz j) (hn : ¬ zOk F O cc c sz i) : zOr F O cc c sz m = (zOe F cc c sz i, O) := by
  have e := Classical.epsilon_spec (p := fun i => i < m ∧ ¬ zOk F O cc c sz i ∧ ∀ j, j < i → zOk F O cc c sz j) ⟨i, hi, hn, h⟩
  unfold zOr
  rw [z_if_f (fun y => hn (y i hi))]
  generalize (Classical.epsilon (fun i => i < m ∧ ¬ zOk F O cc c sz i ∧ ∀ j, j < i → zOk F O cc c sz j)) = i2 at e
  have ei : i2 = i := by
    rcases Nat.lt_trichotomy i2 i with z | z | z
    · exact absurd (h i2 z) e.2.1
    · exact z
    · exact absurd (e.2.2 i z) hn
  rw [ei]
theorem z_os {cap : Nat → Nat} {W m sz : Nat} {F : zF} {A O : zV} {N : zN} {H : zH} {cc : Nat → Int32} {c : Int32} (Z : zP W cap F A O N H) : ∀ i, (∀ j, j < i → zOk F O cc c sz j) → zP W cap F A (zOs cc c.toNatClampNeg O i) N H
  | 0, _ => Z
  | i + 1, h => by
    obtain ⟨z1, z2, z3, z4, z5, z6, z7, z8⟩ := z_os (m := m) Z i (fun j hj => h j (by omega))
    have hk := h i (by omega)
    exact ⟨z1, z2, vC.add z3 (by rw [zOs_1]; exact hk.2.2) hk.2.1 z1, z4, z5, z6, z7, z8⟩
theorem CS.off {h h' : mm_H} {own cap : Nat → Nat} {T : zT} {X : zX} {dy : Nat} {ft : Int32} {F : zF} {A O O' : zV} {N : zN} {C : zC} {H : zH} (K : CS h own cap T X dy ft F A O N C H) (f : fx h h' [(451, 35)] [36, 37, 38]) (d : dn h h') (V : cV h' 35 O'.1 O'.2.1 O'.2.2.1 O'.2.2.2) : CS h' own cap T X dy ft F A O' N C H := by
  obtain ⟨k1, k2, k3, k4, k5, k6, k7, k8, k9, k10⟩ := K
  exact ⟨k1.fx f (by decide) (by decide), k2.fx f (by decide) (by decide) (by decide), k3.fx f (by decide), k4.fx f (by decide), k5.dn f d (by decide) (by decide), k6.fx f (by decide) (by decide) (by decide) (by decide) (by decide), V, k8.dn f d (by decide), k9.fx f (by decide) (by decide) (by decide), k10.dn f d (by decide)⟩
theorem MS.off {h h' : mm_H} {cl : Nat} {T : zT} {X : zX} {dy : Nat} {ft : Int32} {F : zF} {A O O' : zV} {N : zN} {C : zC} {H : zH} (K : MS h cl T X dy ft F A O N C H) (f : fx h h' [(604, 44)] [58, 59, 60]) (V : mV h' 604 58 O'.1 O'.2.1 O'.2.2.1 O'.2.2.2) : MS h' cl T X dy ft F A O' N C H := by
  obtain ⟨k1, k2, k3, k4, k5, k6, k7, k8, k9, k10, k11, k12⟩ := K
  exact ⟨k1.fx f (by decide) (by decide), k2.fx f (by decide) (by decide) (by decide), k3.fx f (by decide), k4.fx f (by decide) (by decide), k5.fx f (by decide) (by decide) (by decide) (by decide) (by decide), V, k7.fx f (by decide) (by decide) (by decide), k8.fx f (by decide), k9.fx f (by decide) (by decide) (by decide), k10.fx f (by decide) (by decide) (by decide), k11.fx f (by decide) (by decide) (by decide), k12.fx f (by decide)⟩
/-- one offer of the sheet -/
theorem c_ofr {h : mm_H} {Q : Option Value → mm_H → Prop} {own cap : Nat → Nat} {T : zT} {X : zX} {dy W : Nat} {ft : Int32} {F : zF} {A O : zV} {N : zN} {C : zC} {H : zH} (sh : s_h h) (K : CS h own cap T X dy ft F A O N C H) (Z : zP W cap F A O N H) {j l sz : Nat} {cc : Nat → Int32} (hj : j < 4) (eH : H j = some (l, sz, cc)) {r a : Nat} (R : cRo h own j l sz cc r a) (c : Int32) {i : Nat} (hi : i < 10) (O0 : zV) (eO : O = zOs cc c.toNatClampNeg O0 i) (hc : 0 < i → zOc c sz 0) (hO : O0.1 ≤ 10)
    (k0 : ¬ zOk F O0 cc c sz i → Q (some (.int (zOe F cc c sz i))) h)
    (k1 : zOk F O0 cc c sz i → ∀ h', CS h' own cap T X dy ft F A (zOs cc c.toNatClampNeg O0 (i + 1)) N C H → fx h h' [(451, 35)] [36, 37, 38] → dn h h' → Q (some (.int (nI (O0.1 + i)))) h') : w_c 4 101 [.ref 16, .ref r, .int (c + nI i * 3)] h Q := by
  obtain ⟨hl, hsz⟩ := Z.2.2.2.2.2.2.2 j hj l sz cc eH
  obtain ⟨f1, f2, f3, f4, f5, f6⟩ := R.fac
  have zo := Z.2.2.1.1
  have eO1 : O.1 = O0.1 + i := by rw [eO, zOs_1]
  unfold zOe at k0
  have e3 : nI i * 3 = nI (3 * i) := by rw [show (3 : Int32) = nI 3 from rfl, pk_mul, Nat.mul_comm]
  rw [e3]
  have bad : ¬ zOc c sz i → Q (some (.int (-12))) h := fun hn => by
    have k0 := k0 (fun y => hn y.1)
    rw [r_if_f hn] at k0
    exact k0
  refine t_X8_offerFrom_0 sh r _ f1 f2 f3 f4 f5 f6 ?_
  by_cases hc0 : c < 0
  · have i0 : i = 0 := by
      rcases Nat.eq_zero_or_pos i with z | z
      · exact z
      · exact absurd hc0 (hc z).1
    subst i0
    refine ⟨fun _ => bad (fun y => y.1 hc0), fun z => ?_⟩
    exact absurd (show c + nI 0 < 0 by rw [add_n0]; exact hc0) z
  · obtain ⟨c0, hc31, rfl⟩ := nat_of hc0
    rw [i_cl hc31] at k1 eO
    have ecl : (nI c0).toNatClampNeg = c0 := i_cl hc31
    have zc : ∀ t, zOc (nI c0) sz t ↔ c0 + 3 * t + 3 ≤ sz := fun t => by
      unfold zOc
      rw [ecl]
      exact ⟨fun y => y.2, fun y => ⟨hc0, y⟩⟩
    by_cases big : i = 0 ∧ 60 < c0
    · obtain ⟨rfl, hb⟩ := big
      rw [show nI c0 + nI (3 * 0) = nI c0 from add_n0 _]
      refine ⟨fun z => absurd z hc0, fun _ => ⟨fun z => ?_, fun _ => bad (fun y => by have := (zc 0).mp y; omega)⟩⟩
      exfalso
      have z := (fa_le _ _).mp z
      have e4 : (Int32.ofNat sz : Int32) = nI sz := rfl
      rw [e4, show (3 : Int32) = nI 3 from rfl, fb_subI (by rw [nI_toInt (by omega), nI_toInt (by omega)]; omega) (by rw [nI_toInt (by omega), nI_toInt (by omega)]; omega), nI_toInt (by omega), nI_toInt (by omega), nI_toInt (by omega)] at z
      omega
    · have c60 : c0 ≤ 60 := by
        rcases Nat.eq_zero_or_pos i with z | z
        · have : ¬ 60 < c0 := fun y => big ⟨z, y⟩
          omega
        · have := (zc 0).mp (hc z); omega
      rw [nI_add]
      refine ⟨fun z => absurd z (nI_pos (by omega)), fun _ => ⟨fun z => ?_, fun z => bad (fun y => z ?_)⟩⟩
      · have hz : c0 + 3 * i + 3 ≤ sz := by
          have z := (fa_le _ _).mp z
          have e4 : (Int32.ofNat sz : Int32) = nI sz := rfl
          rw [e4, show (3 : Int32) = nI 3 from rfl, fb_subI (by rw [nI_toInt (by omega), nI_toInt (by omega)]; omega) (by rw [nI_toInt (by omega), nI_toInt (by omega)]; omega), nI_toInt (by omega), nI_toInt (by omega), nI_toInt (by omega)] at z
          omega
        have zci : zOc (nI c0) sz i := (zc i).mpr hz
        rw [r_if_t zci] at k0
        have ev : zOv F cc (nI c0) i ↔ isV F.1 F.2 (cc (c0 + 3 * i)) (cc (c0 + 3 * i + 1)) (cc (c0 + 3 * i + 2)) := by
          unfold zOv
          rw [ecl]
        refine c_rat sh R hsz (by omega) ⟨_, rfl, sh, f1, ?_⟩
        rw [nI_1]
        refine c_rat sh R hsz (by omega) ⟨_, rfl, sh, f1, ?_⟩
        rw [show nI (c0 + 3 * i) + 2 = nI (c0 + 3 * i + 2) from nI_add _ 2]
        refine c_rat sh R hsz (by omega) ⟨_, rfl, sh, ?_⟩
        refine c_offer sh K.2.2.2.2.1 Z.2.2.1 K.2.2.2.2.2.2.1 _ _ _ (fun hv => ⟨_, rfl, sh, fun y => absurd y (by decide), fun _ => ?_⟩) (fun hv h10 => ⟨_, rfl, sh, fun y => absurd y (by decide), fun _ => ?_⟩) (fun hv h10 h' f' d' V' => ⟨_, rfl, f'.sh sh (by decide), fun _ => ?_, fun y => absurd ((i_le (a := 0) (by decide) (by omega)).mpr (Nat.zero_le _)) y⟩)
        · have k0 := k0 (fun y => hv (ev.mp y.2.1))
          rw [r_if_f (fun y => hv (ev.mp y))] at k0
          exact k0
        · have k0 := k0 (fun y => by have := y.2.2; omega)
          rw [r_if_t (ev.mpr hv)] at k0
          exact k0
        · rw [eO1]
          refine k1 ⟨zci, ev.mpr hv, by omega⟩ h' ?_ f' d'
          refine K.off f' d' ?_
          show cV h' 35 ((zOs cc c0 O0 i).1 + 1) (va_up (zOs cc c0 O0 i).2.1 (zOs cc c0 O0 i).1 _) (va_up (zOs cc c0 O0 i).2.2.1 (zOs cc c0 O0 i).1 _) (va_up (zOs cc c0 O0 i).2.2.2 (zOs cc c0 O0 i).1 _)
          rw [← eO]
          exact V'
      · have hz := (zc i).mp y
        rw [fa_le]
        have e4 : (Int32.ofNat sz : Int32) = nI sz := rfl
        rw [e4, show (3 : Int32) = nI 3 from rfl, fb_subI (by rw [nI_toInt (by omega), nI_toInt (by omega)]; omega) (by rw [nI_toInt (by omega), nI_toInt (by omega)]; omega), nI_toInt (by omega), nI_toInt (by omega), nI_toInt (by omega)]
        omega
/-- what an offers call may meet -/
def zOg (k lane n : Int32) : Prop := (isS k ∧ isL lane) ∧ 0 ≤ n ∧ n ≤ 10
set_option maxHeartbeats 1000000 in
theorem c_offers {h : mm_H} {Q : Option Value → mm_H → Prop} {own cap : Nat → Nat} {T : zT} {X : zX} {dy W : Nat} {ft : Int32} {F : zF} {A O : zV} {N : zN} {C : zC} {H : zH} (sh : s_h h) (K : CS h own cap T X dy ft F A O N C H) (Z : zP W cap F A O N H) (k lane c n : Int32) (k0 : ¬ zOg k lane n → Q (some (.int (-1))) h) (k1 : ∀ j, k = nI j → j < 4 → zOg k lane n → H j = none → Q (some (.int (-11))) h) (k2 : ∀ j l sz cc, k = nI j → j < 4 → zOg k lane n → H j = some (l, sz, cc) → lane ≠ nI l → Q (some (.int (-13))) h) (k3 : ∀ j l sz cc m, k = nI j → j < 4 → H j = some (l, sz, cc) → lane = nI l → n = nI m → m ≤ 10 → ∀ h', CS h' own cap T X dy ft F A (zOr F O cc c sz m).2 N C H → fC h h' → rm h h' → Q (some (.int (zOr F O cc c sz m).1)) h') : w_c 5 85 [.ref 16, .int k, .int lane, .int c, .int n] h Q := by
  have z1 := Z.1
  have zo := Z.2.2.1.1
  have c10 := K.2.2.2.2.2.2.2.2.2
  have n35 : h_oi h 451 35 = nI O.1 := K.2.2.2.2.2.2.1.1
  have loop : ∀ j l sz cc m r, k = nI j → j < 4 → H j = some (l, sz, cc) → lane = nI l → n = nI m → m ≤ 10 → h_ar h 43 j = some r → ∀ w i, i + w = m → (∀ t, t < i → zOk F O cc c sz t) → ∀ h1, CS h1 own cap T X dy ft F A (zOs cc c.toNatClampNeg O i) N C H → fx h h1 [(451, 35)] [36, 37, 38] → dn h h1 → w_p 5 (8, 9, mc_X8_offers) 68 [(0, .ref 16), (1, .int (nI j)), (2, .int lane), (3, .int c), (4, .int (nI m)), (5, .ref r), (6, .int (nI O.1)), (7, .int (nI i))] [] h1 Q := by
    intro j l sz cc m r ej hj eH el en hm er w
    induction w with
    | zero =>
      intro i hi hok h1 K1 f1 d1
      have e : i = m := by omega
      subst e
      have k3 := k3 j l sz cc i ej hj eH el en hm
      rw [zOr_s hok] at k3
      refine t_X8_offers_68 (f1.sh sh (by decide)) _ _ _ _ _ _ _ (K68 := fun _ _ _ _ _ _ _ _ => False) (fun _ _ _ _ _ _ _ _ z => z.elim) ⟨fun _ => k3 h1 K1 (f1.wk (by decide) (by decide)) ⟨d1.1, d1.2.1⟩, fun z => absurd ((i_le (by omega) (by omega)).mpr (Nat.le_refl _)) z⟩
    | succ w ih =>
      intro i hi hok h1 K1 f1 d1
      have sh1 := f1.sh sh (by decide)
      have Z1 := z_os (m := m) Z i hok
      have er1 : h_ar h1 43 j = some r := by rw [f1.ar 43 (by decide) (by decide)]; exact er
      obtain ⟨r', a, R⟩ := (K1.2.2.2.2.2.2.2.2.2 j hj).2 l sz cc eH
      have err : r' = r := Option.some.inj (R.1.symm.trans er1)
      subst err
      refine t_X8_offers_68 sh1 _ _ _ _ _ _ _ (K68 := fun y1 y2 y3 y4 y5 y6 y7 hh => y1 = nI j ∧ y2 = lane ∧ y3 = c ∧ y4 = nI m ∧ y5 = r' ∧ y6 = nI O.1 ∧ y7 = nI (i + 1) ∧ zOk F O cc c sz i ∧ CS hh own cap T X dy ft F A (zOs cc c.toNatClampNeg O (i + 1)) N C H ∧ fx h hh [(451, 35)] [36, 37, 38] ∧ dn h hh) (fun y1 y2 y3 y4 y5 y6 y7 hh z => ?_) ⟨fun z => ?_, fun _ => ?_⟩
      · obtain ⟨rfl, rfl, rfl, rfl, rfl, rfl, rfl, q1, q2, q3, q4⟩ := z
        refine ih (i + 1) (by omega) (fun t ht => ?_) hh q2 q3 q4
        by_cases y : t = i
        · rw [y]; exact q1
        · exact hok t (by omega)
      · rw [i_le (by omega) (by omega)] at z; omega
      · refine c_ofr sh1 K1 Z1 hj eH R c (by omega) O rfl (fun y => (hok 0 y).1) zo (fun hn => ⟨_, rfl, sh1, fun y => ?_, fun _ => ?_⟩) (fun hk h2 K2 f2 d2 => ⟨_, rfl, f2.sh sh1 (by decide), fun _ => ⟨rfl, rfl, rfl, rfl, rfl, rfl, nI_1 i, hk, K2, f1.tr f2 (by decide) (by decide) (by decide) (by decide), d1.tr d2⟩, fun y => absurd ((i_le (a := 0) (by decide) (by have := hk.2.2; omega)).mpr (Nat.zero_le _)) y⟩)
        · exfalso
          unfold zOe at y
          by_cases y1 : zOc c sz i
          · rw [r_if_t y1] at y
            by_cases y2 : zOv F cc c i
            · rw [r_if_t y2] at y; exact absurd y (by decide)
            · rw [r_if_f y2] at y; exact absurd y (by decide)
          · rw [r_if_f y1] at y; exact absurd y (by decide)
        · have k3 := k3 j l sz cc m ej hj eH el en hm
          rw [zOr_f (by omega) hok hn] at k3
          have f2 : fx h (h_sI h1 451 35 (nI O.1)) [(451, 35)] [36, 37, 38] := f1.sI _ (Or.inl (by decide))
          refine k3 _ (K.off f2 (d1.sI _ (by decide)) ?_) (f2.wk (by decide) (by decide)) ⟨d1.1, d1.2.1⟩
          refine ⟨oi_self _ _ _ _, fun t ht => ?_⟩
          have ht : t < O.1 := ht
          have q := K1.2.2.2.2.2.2.1.2 t (by rw [zOs_1]; omega)
          obtain ⟨w1, w2, w3⟩ := zOs_lt cc c.toNatClampNeg O ht i
          rw [w1, w2, w3] at q
          exact q
  refine t_X8_offers_0 sh _ _ _ _ (K68 := fun y1 y2 y3 y4 y5 y6 y7 hh => ∃ j l sz cc m, k = nI j ∧ j < 4 ∧ H j = some (l, sz, cc) ∧ lane = nI l ∧ n = nI m ∧ m ≤ 10 ∧ h_ar h 43 j = some y5 ∧ y1 = nI j ∧ y2 = lane ∧ y3 = c ∧ y4 = nI m ∧ y6 = nI O.1 ∧ y7 = nI 0 ∧ hh = h) (fun y1 y2 y3 y4 y5 y6 y7 hh z => ?_) ((c_isS k (fun cs => ⟨_, rfl, sh, fun _ => k0 (fun y => cs y.1.1), fun z => absurd rfl z⟩) (fun j ej hj => ⟨_, rfl, sh, fun z => absurd z (by decide), fun _ => (c_isL lane (fun cl => ⟨_, rfl, sh, fun _ => k0 (fun y => cl y.1.2), fun z => absurd rfl z⟩) (fun l0 el hl0 => ⟨_, rfl, sh, fun z => absurd z (by decide), fun _ => ⟨fun c1 => k0 (fun y => le0.mp y.2.1 c1), fun c1 => ⟨fun c2 => ⟨by rw [ej]; exact vp_in_nI hj (by decide), ?_⟩, fun c2 => k0 (fun y => c2 y.2.2)⟩⟩⟩) sh).up (by decide)⟩) sh).up (by decide))
  · obtain ⟨j, l, sz, cc, m, ej, hj, eH, el, en, hm, er, rfl, rfl, rfl, rfl, rfl, rfl, rfl⟩ := z
    exact loop j l sz cc m y5 ej hj eH el en hm er m 0 (by omega) (fun t ht => absurd ht (Nat.not_lt_zero _)) hh K (fx.rf _ _ _) (dn.rf _)
  · obtain ⟨m, hm, em⟩ := nat_of c1
    have hm10 : m ≤ 10 := by rw [em] at c2; exact (i_le (b := 10) hm (by decide)).mp c2
    have og : zOg k lane n := ⟨⟨⟨j, ej, hj⟩, ⟨l0, el, hl0⟩⟩, le0.mpr c1, c2⟩
    have ecl : k.toNatClampNeg = j := by rw [ej]; exact i_cl (by omega)
    rw [ecl]
    obtain ⟨q1, q2⟩ := c10 j hj
    cases eH : H j with
    | none =>
      refine ⟨fun _ => k1 j ej hj og eH, fun r e => ?_⟩
      rw [q1 eH] at e; cases e
    | some s =>
      obtain ⟨l, sz, cc⟩ := s
      obtain ⟨r, a, R⟩ := q2 l sz cc eH
      refine ⟨fun e => ?_, fun r' e => ?_⟩
      · rw [R.1] at e; cases e
      · have er : r' = r := Option.some.inj (e.symm.trans R.1)
        subst er
        refine ⟨R.fac.1, fun z => ⟨j, l, sz, cc, m, ej, hj, eH, ?_, em, hm10, e, ej, rfl, rfl, em, n35, rfl, rfl⟩, fun z => k2 j l sz cc ej hj og eH (fun y => z ?_)⟩
        · rw [← z]; exact R.2.2.2.1
        · rw [y]; exact R.2.2.2.1
theorem lN_t {n : Nat} (h : n < 4611686018427387904) : (lN n).toInt = (n : Int) := lg_ofNat_toInt (by omega)
theorem le_0 (x : Int32) : x ≤ 0 ↔ ¬ 0 < x := ⟨fun a b => (fa_of_lt b).2.1 a, fun a => fa_of_nlt a⟩
set_option maxHeartbeats 1000000 in
theorem m_offers {h : mm_H} {Q : Option Value → mm_H → Prop} {cap : Nat → Nat} {T : zT} {X : zX} {dy cl W : Nat} {ft : Int32} {F : zF} {A O : zV} {N : zN} {C : zC} {H : zH} (sh : s_h h) (K : MS h cl T X dy ft F A O N C H) (Z : zP W cap F A O N H) (k lane c n : Int32) (k0 : ¬ zOg k lane n → Q (some (.int (-1))) h) (k1 : ∀ j, k = nI j → j < 4 → zOg k lane n → H j = none → Q (some (.int (-11))) h) (k2 : ∀ j l sz cc, k = nI j → j < 4 → zOg k lane n → H j = some (l, sz, cc) → lane ≠ nI l → Q (some (.int (-13))) h) (k3 : ∀ j l sz cc m, k = nI j → j < 4 → H j = some (l, sz, cc) → lane = nI l → n = nI m → m ≤ 10 → ∀ h', MS h' cl T X dy ft F A (zOr F O cc c sz m).2 N C H → fM h h' → Q (some (.int (zOr F O cc c sz m).1)) h') : w_c 4 150 [.ref 44, .int k, .int lane, .int c, .int n] h Q := by
  have z1 := Z.1
  have zo := Z.2.2.1.1
  obtain ⟨c1, c2, c3, c4, c5, c6, c7, c8, c9, c10, c11, c12⟩ := id K
  have n35 : h_oi h 604 44 = nI O.1 := c6.1
  have err : ∀ j l sz cc m i, k = nI j → j < 4 → H j = some (l, sz, cc) → lane = nI l → n = nI m → m ≤ 10 → i < m → (∀ t, t < i → zOk F O cc c sz t) → ¬ zOk F O cc c sz i → ∀ e x7, e = zOe F cc c sz i → ∀ h1, MS h1 cl T X dy ft F A (zOs cc c.toNatClampNeg O i) N C H → fx h h1 [(604, 44)] [58, 59, 60] → dn h h1 → w_p 4 (9, 12, mc_X9_offers) 65 [(0, .ref 44), (1, .int (nI j)), (2, .int lane), (3, .int c), (4, .int (nI m)), (5, .int (nI O.1)), (6, .int e), (7, .int x7)] [] h1 Q := by
    intro j l sz cc m i ej hj eH el en hm him hok hn e x7 he h1 K1 f1 d1
    have k3 := k3 j l sz cc m ej hj eH el en hm
    rw [zOr_f him hok hn, ← he] at k3
    have en3 : e = -23 ∨ e = -21 ∨ e = -12 := by
      rw [he]
      unfold zOe
      by_cases y1 : zOc c sz i
      · rw [r_if_t y1]
        by_cases y2 : zOv F cc c i
        · rw [r_if_t y2]; exact Or.inl rfl
        · rw [r_if_f y2]; exact Or.inr (Or.inl rfl)
      · rw [r_if_f y1]; exact Or.inr (Or.inr rfl)
    have neg : e < 0 := by rcases en3 with z | z | z <;> rw [z] <;> decide
    have f2 : fx h (h_sI h1 604 44 (nI O.1)) [(604, 44)] [58, 59, 60] := f1.sI _ (Or.inl (by decide))
    have fin : Q (some (.int e)) (h_sI h1 604 44 (nI O.1)) := by
      refine k3 _ (K.off f2 ⟨oi_self _ _ _ _, fun t ht => ?_⟩) ⟨f2.wk (by decide) (by decide), d1.sI _ (by decide)⟩
      have ht : t < O.1 := ht
      have q := K1.2.2.2.2.2.1.2 t (by rw [zOs_1]; omega)
      obtain ⟨w1, w2, w3⟩ := zOs_lt cc c.toNatClampNeg O ht i
      rw [w1, w2, w3] at q
      exact q
    have nle : ¬ 0 ≤ e := (fa_of_lt neg).2.1
    refine t_X9_offers_65 (f1.sh sh (by decide)) _ _ _ _ _ _ _ (K65 := fun _ _ _ _ _ _ _ _ => False) (fun _ _ _ _ _ _ _ _ z => z.elim) ⟨fun _ => ⟨fun z => absurd z nle, fun _ => fin⟩, fun _ => ⟨fun _ => ⟨fun z => absurd z nle, fun _ => fin⟩, fun z => ?_⟩⟩
    exfalso
    rw [z] at neg
    exact absurd neg (nI_pos (by omega))
  have loop : ∀ j l sz cc m, k = nI j → j < 4 → H j = some (l, sz, cc) → lane = nI l → n = nI m → m ≤ 10 → ∀ w i, i + w = m → (∀ t, t < i → zOk F O cc c sz t) → ∀ h1, MS h1 cl T X dy ft F A (zOs cc c.toNatClampNeg O i) N C H → fx h h1 [(604, 44)] [58, 59, 60] → dn h h1 → w_p 4 (9, 12, mc_X9_offers) 65 [(0, .ref 44), (1, .int (nI j)), (2, .int lane), (3, .int c), (4, .int (nI m)), (5, .int (nI O.1)), (6, .int (nI m)), (7, .int (nI i))] [] h1 Q := by
    intro j l sz cc m ej hj eH el en hm w
    obtain ⟨hl, hsz⟩ := Z.2.2.2.2.2.2.2 j hj l sz cc eH
    induction w with
    | zero =>
      intro i hi hok h1 K1 f1 d1
      have e : i = m := by omega
      subst e
      have k3 := k3 j l sz cc i ej hj eH el en hm
      rw [zOr_s hok] at k3
      have f2 : fx h (h_sI h1 604 44 (h_oi h1 604 44)) [(604, 44)] [58, 59, 60] := f1.sI _ (Or.inl (by decide))
      refine t_X9_offers_65 (f1.sh sh (by decide)) _ _ _ _ _ _ _ (K65 := fun _ _ _ _ _ _ _ _ => False) (fun _ _ _ _ _ _ _ _ z => z.elim) ⟨fun _ => ⟨fun _ => ?_, fun z => absurd ((i_le (a := 0) (by decide) (by omega)).mpr (Nat.zero_le _)) z⟩, fun z => absurd ((i_le (by omega) (by omega)).mpr (Nat.le_refl _)) z⟩
      refine k3 _ (K1.off (O' := zOs cc c.toNatClampNeg O i) ((fx.rf _ _ _).sI _ (Or.inl (by decide))) ⟨(oi_self _ _ _ _).trans K1.2.2.2.2.2.1.1, K1.2.2.2.2.2.1.2⟩) ⟨f2.wk (by decide) (by decide), d1.sI _ (by decide)⟩
    | succ w ih =>
      intro i hi hok h1 K1 f1 d1
      have sh1 := f1.sh sh (by decide)
      have Z1 := z_os (m := m) Z i hok
      obtain ⟨w1, w2, w3⟩ := (K1.2.2.2.2.2.2.2.2.2.2.1 j hj).2 l sz cc eH
      have e3 : (3 : Int32) * nI i = nI (3 * i) := by rw [show (3 : Int32) = nI 3 from rfl, pk_mul]
      have bad : ∀ x7, ¬ zOc c sz i → w_p 4 (9, 12, mc_X9_offers) 65 [(0, .ref 44), (1, .int (nI j)), (2, .int lane), (3, .int c), (4, .int (nI m)), (5, .int (nI O.1)), (6, .int (-12)), (7, .int x7)] [] h1 Q := fun x7 hn => by
        refine err j l sz cc m i ej hj eH el en hm (by omega) hok (fun y => hn y.1) (-12) x7 ?_ h1 K1 f1 d1
        unfold zOe
        rw [r_if_f hn]
      refine t_X9_offers_65 sh1 _ _ _ _ _ _ _ (K65 := fun y1 y2 y3 y4 y5 y6 y7 hh => y1 = nI j ∧ y2 = lane ∧ y3 = c ∧ y4 = nI m ∧ y5 = nI O.1 ∧ ((y6 = nI m ∧ y7 = nI (i + 1) ∧ zOk F O cc c sz i ∧ MS hh cl T X dy ft F A (zOs cc c.toNatClampNeg O (i + 1)) N C H ∧ fx h hh [(604, 44)] [58, 59, 60] ∧ dn h hh) ∨ (¬ zOk F O cc c sz i ∧ y6 = zOe F cc c sz i ∧ hh = h1))) (fun y1 y2 y3 y4 y5 y6 y7 hh z => ?_) ⟨fun z => ?_, fun _ => ⟨fun z => absurd rfl z, fun _ => ?_⟩⟩
      · obtain ⟨rfl, rfl, rfl, rfl, rfl, (⟨rfl, rfl, q1, q2, q3, q4⟩ | ⟨q1, q2, rfl⟩)⟩ := z
        · refine ih (i + 1) (by omega) (fun t ht => ?_) hh q2 q3 q4
          by_cases y : t = i
          · rw [y]; exact q1
          · exact hok t (by omega)
        · exact err j l sz cc m i ej hj eH el en hm (by omega) hok q1 y6 y7 q2 hh K1 f1 d1
      · rw [i_le (by omega) (by omega)] at z; omega
      · have e12 : ¬ zOc c sz i → (-12 : Int32) = zOe F cc c sz i := fun hn => by unfold zOe; rw [r_if_f hn]
        rw [e3, i_cl (a := j) (by omega), w2, wL (3 * i) (by omega), wL sz (by omega)]
        have vj : vp_in (nI j) 4 := vp_in_nI hj (by decide)
        by_cases hc0 : c < 0
        · have i0 : i = 0 := by
            rcases Nat.eq_zero_or_pos i with z | z
            · exact z
            · exact absurd hc0 (hok 0 z).1.1
          subst i0
          have nOc : ¬ zOc c sz 0 := fun y => y.1 hc0
          refine ⟨fun _ => ⟨rfl, rfl, rfl, rfl, rfl, Or.inr ⟨fun y => nOc y.1, e12 nOc, rfl⟩⟩, fun z => absurd ?_ z⟩
          rw [lg_lt0, fa_lt64]
          have a1 := (fa_lt _ _).mp hc0
          have a2 := fb_rng c
          have e0 : (0 : Int32).toInt = 0 := rfl
          have e1 : (Int64.ofNat 0).toInt = 0 := by decide
          have e2 : (Int64.ofNat (3 * 0)).toInt = 0 := by decide
          rw [fb_addL (by rw [Int32.toInt_toInt64, e2]; omega) (by rw [Int32.toInt_toInt64, e2]; omega), Int32.toInt_toInt64, e2]
          omega
        · obtain ⟨c0, hc31, rfl⟩ := nat_of hc0
          have ecl : (nI c0).toNatClampNeg = c0 := i_cl hc31
          have zc : ∀ t, zOc (nI c0) sz t ↔ c0 + 3 * t + 3 ≤ sz := fun t => by
            unfold zOc
            rw [ecl]
            exact ⟨fun y => y.2, fun y => ⟨hc0, y⟩⟩
          have ev : zOv F cc (nI c0) i ↔ isV F.1 F.2 (cc (c0 + 3 * i)) (cc (c0 + 3 * i + 1)) (cc (c0 + 3 * i + 2)) := by
            unfold zOv
            rw [ecl]
          rw [wL c0 hc31]
          have ep : Int64.ofNat c0 + Int64.ofNat (3 * i) = lN (c0 + 3 * i) := (Int64.ofNat_add c0 (3 * i)).symm
          have ep3 : lN (c0 + 3 * i) + Int64.ofNat 3 = lN (c0 + 3 * i + 3) := (Int64.ofNat_add (c0 + 3 * i) 3).symm
          rw [ep, ep3]
          refine ⟨fun z => ?_, fun _ => ⟨vj, fun z => ?_, fun z => ⟨rfl, rfl, rfl, rfl, rfl, Or.inr ?_⟩⟩⟩
          · exfalso
            rw [lg_lt0, fa_lt64, lN_t (by omega)] at z
            have e1 : (Int64.ofNat 0).toInt = 0 := by decide
            omega
          · have hz : c0 + 3 * i + 3 ≤ sz := by
              rw [le_0, lg_gt0] at z
              have z : ¬ lN sz < lN (c0 + 3 * i + 3) := z
              rw [fa_lt64, lN_t (by omega), lN_t (by omega)] at z
              omega
            have e32 : (lN (c0 + 3 * i)).toInt32 = nI (c0 + 3 * i) := by
              rw [show lN (c0 + 3 * i) = (nI (c0 + 3 * i)).toInt64 from (wL _ (by omega)).symm]
              exact Int32.toInt32_toInt64 _
            rw [e32, e60, nI_1, show nI (60 * j + (c0 + 3 * i)) + 2 = nI (60 * j + (c0 + 3 * i) + 2) from nI_add _ 2, i_cl (by omega), i_cl (by omega), i_cl (by omega)]
            have r0 : h_ai h1 69 (60 * j + (c0 + 3 * i)) = cc (c0 + 3 * i) := w3 _ (by omega)
            have r1 : h_ai h1 69 (60 * j + (c0 + 3 * i) + 1) = cc (c0 + 3 * i + 1) := w3 (c0 + 3 * i + 1) (by omega)
            have r2 : h_ai h1 69 (60 * j + (c0 + 3 * i) + 2) = cc (c0 + 3 * i + 2) := w3 (c0 + 3 * i + 2) (by omega)
            rw [r0, r1, r2]
            have zci : zOc (nI c0) sz i := (zc i).mpr hz
            rw [ecl] at K1 Z1
            refine ⟨vp_in_nI (by omega) (by decide), vp_in_nI (by omega) (by decide), vp_in_nI (by omega) (by decide), ?_⟩
            refine m_offer sh1 K1.2.2.2.1 Z1.2.2.1 K1.2.2.2.2.2.1 _ _ _ (fun hv => ⟨_, rfl, sh1, fun y => absurd y (by decide), fun _ => ⟨rfl, rfl, rfl, rfl, rfl, Or.inr ⟨fun y => hv (ev.mp y.2.1), ?_, rfl⟩⟩⟩) (fun hv h10 => ⟨_, rfl, sh1, fun y => absurd y (by decide), fun _ => ⟨rfl, rfl, rfl, rfl, rfl, Or.inr ⟨fun y => ?_, ?_, rfl⟩⟩⟩) (fun hv h10 h' f' d' V' => ⟨_, rfl, f'.sh sh1 (by decide), fun _ => ⟨rfl, rfl, rfl, rfl, rfl, Or.inl ⟨rfl, nI_1 i, ⟨zci, ev.mpr hv, by rw [zOs_1] at h10; exact h10⟩, ?_, f1.tr f' (by decide) (by decide) (by decide) (by decide), d1.tr d'⟩⟩, fun y => absurd ((i_le (a := 0) (by decide) (by rw [zOs_1]; omega)).mpr (Nat.zero_le _)) y⟩)
            · unfold zOe; rw [r_if_t zci, r_if_f (fun y => hv (ev.mp y))]; rfl
            · have := y.2.2
              rw [zOs_1] at h10
              omega
            · unfold zOe; rw [r_if_t zci, r_if_t (ev.mpr hv)]; rfl
            · rw [ecl]
              exact K1.off (O' := zOs cc c0 O (i + 1)) f' V'
          · have nOc : ¬ zOc (nI c0) sz i := fun y => z (by
              rw [le_0, lg_gt0]
              show ¬ lN sz < lN (c0 + 3 * i + 3)
              have := (zc i).mp y
              rw [fa_lt64, lN_t (by omega), lN_t (by omega)]
              omega)
            exact ⟨fun y => nOc y.1, e12 nOc, rfl⟩
  refine t_X9_offers_0 sh _ _ _ _ (K65 := fun y1 y2 y3 y4 y5 y6 y7 hh => ∃ j l sz cc m, k = nI j ∧ j < 4 ∧ H j = some (l, sz, cc) ∧ lane = nI l ∧ n = nI m ∧ m ≤ 10 ∧ y1 = nI j ∧ y2 = lane ∧ y3 = c ∧ y4 = nI m ∧ y5 = nI O.1 ∧ y6 = nI m ∧ y7 = nI 0 ∧ hh = h) (fun y1 y2 y3 y4 y5 y6 y7 hh z => ?_) (m_isS k lane (fun cs => ⟨_, rfl, sh, fun _ => k0 (fun y => cs y.1), fun z => absurd rfl z⟩) (fun j l0 ej hj el hl0 => ⟨_, rfl, sh, fun z => absurd z (by decide), fun _ => ⟨fun cc1 => ?_, fun cc1 => k0 (fun y => ((f_in_nz (v := n) (a := 0) (b := 10) (by decide) (by decide)).mpr y.2) cc1)⟩⟩) sh)
  · obtain ⟨j, l, sz, cc, m, ej, hj, eH, el, en, hm, rfl, rfl, rfl, rfl, rfl, rfl, rfl, rfl⟩ := z
    exact loop j l sz cc m ej hj eH el en hm m 0 (by omega) (fun t ht => absurd ht (Nat.not_lt_zero _)) hh K (fx.rf _ _ _) (dn.rf _)
  · have cc1 := (f_in_nz (v := n) (a := 0) (b := 10) (by decide) (by decide)).mp cc1
    obtain ⟨m, hm, em⟩ := nat_of (le0.mp cc1.1)
    have hm10 : m ≤ 10 := by have := cc1.2; rw [em] at this; exact (i_le (b := 10) hm (by decide)).mp this
    have og : zOg k lane n := ⟨⟨⟨j, ej, hj⟩, ⟨l0, el, hl0⟩⟩, cc1.1, cc1.2⟩
    have vk : vp_in k 4 := by rw [ej]; exact vp_in_nI hj (by decide)
    have ecl : k.toNatClampNeg = j := by rw [ej]; exact i_cl (by omega)
    rw [ecl]
    obtain ⟨q1, q2⟩ := c11 j hj
    refine ⟨vk, ?_⟩
    cases eH : H j with
    | none =>
      rw [q1 eH]
      refine ⟨fun z => ?_, fun _ => ⟨vk, fun z => absurd rfl z, fun _ => k1 j ej hj og eH⟩⟩
      rw [el] at z
      exact absurd z.symm (nI_neN l0 (by omega))
    | some s =>
      obtain ⟨l, sz, cc⟩ := s
      obtain ⟨w1, w2, w3⟩ := q2 l sz cc eH
      obtain ⟨hl, hsz⟩ := Z.2.2.2.2.2.2.2 j hj l sz cc eH
      rw [w1]
      refine ⟨fun z => ⟨j, l, sz, cc, m, ej, hj, eH, z.symm, em, hm10, ej, rfl, rfl, em, n35, em, rfl, rfl⟩, fun z => ⟨vk, fun _ => k2 j l sz cc ej hj og eH (fun y => z y.symm), fun y => absurd y (nI_neN l (by omega))⟩⟩
