set_option maxRecDepth 20000 in
theorem t_X4_readLaw_0 {h : mm_H} {Q : Option Value → mm_H → Prop} (sh : s_h h) 
    (F : w_c 1 36 [.ref 19, .int 1] h (fun r h1 => ∃ z2 : Int32, r = some (.int z2) ∧ s_h h1 ∧ ((¬ z2 = 0 → (((h_oi h1 260 19) < 0 → w_c 0 37 [.ref 19, .int 1] h1 (fun r h5 => r = none ∧ s_h h5 ∧ Q none h5)) ∧ (¬ ((h_oi h1 260 19) < 0) → (((h_oi h1 260 19) < 5 → (vp_in (h_oi h1 260 19) 5 ∧ (((h_ai h1 20 (h_oi h1 260 19).toNatClampNeg) = (-1) → w_c 23 38 [.ref 19, .ref 17] h1 (fun r h9 => r = none ∧ s_h h9 ∧ w_c 1 36 [.ref 19, .int 2] h9 (fun r h10 => ∃ z11 : Int32, r = some (.int z11) ∧ s_h h10 ∧ ((¬ z11 = 0 → (vp_in (h_oi h1 260 19) 5 ∧ (((h_oi h10 260 19) < (h_ai h10 1 (h_oi h1 260 19).toNatClampNeg) → w_c 0 37 [.ref 19, .int 3] h10 (fun r h15 => r = none ∧ s_h h15 ∧ Q none h15)) ∧ (¬ ((h_oi h10 260 19) < (h_ai h10 1 (h_oi h1 260 19).toNatClampNeg)) → (vp_in (h_oi h1 260 19) 5 ∧ (((h_oi h10 260 19) ≤ (h_ai h10 2 (h_oi h1 260 19).toNatClampNeg) → (vp_in (h_oi h1 260 19) 5 ∧ w_c 23 38 [.ref 19, .ref 17] (h_sA h10 20 ((h_oi h1 260 19).toNatClampNeg) (h_oi h10 260 19)) (fun r h19 => r = none ∧ s_h h19 ∧ w_c 1 36 [.ref 19, .int 3] h19 (fun r h20 => ∃ z21 : Int32, r = some (.int z21) ∧ s_h h20 ∧ ((z21 = 0 → Q none h20) ∧ (¬ (z21 = 0) → w_c 23 38 [.ref 19, .ref 17] h20 (fun r h23 => r = none ∧ s_h h23 ∧ Q none h23))))))) ∧ (¬ ((h_oi h10 260 19) ≤ (h_ai h10 2 (h_oi h1 260 19).toNatClampNeg)) → w_c 0 37 [.ref 19, .int 3] h10 (fun r h24 => r = none ∧ s_h h24 ∧ Q none h24)))))))) ∧ (z11 = 0 → Q none h10))))) ∧ (¬ ((h_ai h1 20 (h_oi h1 260 19).toNatClampNeg) = (-1)) → w_c 0 37 [.ref 19, .int 4] h1 (fun r h25 => r = none ∧ s_h h25 ∧ Q none h25))))) ∧ (¬ ((h_oi h1 260 19) < 5) → w_c 0 37 [.ref 19, .int 1] h1 (fun r h26 => r = none ∧ s_h h26 ∧ Q none h26)))))) ∧ (z2 = 0 → Q none h1)))) :
    w_c 24 35 [.ref 19, .ref 17] h Q := by
  refine w_ci (M := (4, 3, mc_X4_readLaw)) rfl (Nat.le_of_ble_eq_true rfl) ?_
  show w_p _ _ 0 [(0, .ref 19), (1, .ref 17)] [] h Q
  refine w_b 2 2 [(0, .ref 19), (1, .ref 17)] [.int 1, .ref 19] rfl ?_
  refine w_cv (As := [.int 1]) (b := 19) (rest := []) rfl rfl rfl (Nat.le_of_ble_eq_true rfl) (kd_19 sh) (fun z => absurd z (by decide)) (dc := 1) (by omega) (F.mono (fun r h1 F => ?_))
  obtain ⟨z2, rfl, sh1, F⟩ := F
  show w_p _ _ 5 [(0, .ref 19), (1, .ref 17)] [.int z2] h1 _
  refine w_if_ne (tgt := 9) (x := z2) rfl (by decide) ⟨fun c3 => ?_, fun c3 => ?_⟩
  · have F := F.1 c3
    refine w_b 1 10 [(0, .ref 19), (1, .ref 17)] [.ref 19] rfl ?_
    refine w_get (g := 260) rfl rfl rfl (kd_19 sh1) ?_
    refine w_b 2 15 [(2, .int (h_oi h1 260 19)), (0, .ref 19), (1, .ref 17)] [.int (h_oi h1 260 19)] rfl ?_
    refine w_if_lt (tgt := 23) (x := h_oi h1 260 19) rfl (by decide) ⟨fun c4 => ?_, fun c4 => ?_⟩
    · have F := F.1 c4
      refine w_b 2 25 [(2, .int (h_oi h1 260 19)), (0, .ref 19), (1, .ref 17)] [.int 1, .ref 19] rfl ?_
      refine w_cv (As := [.int 1]) (b := 19) (rest := []) rfl rfl rfl (Nat.le_of_ble_eq_true rfl) (kd_19 sh1) (fun z => absurd z (by decide)) (dc := 0) (by omega) (F.mono (fun r h5 F => ?_))
      obtain ⟨rfl, sh5, F⟩ := F
      show w_p _ _ 28 [(2, .int (h_oi h1 260 19)), (0, .ref 19), (1, .ref 17)] [] h5 _
      exact w_vr rfl F
    · have F := F.2 c4
      refine w_b 2 20 [(2, .int (h_oi h1 260 19)), (0, .ref 19), (1, .ref 17)] [.int 5, .int (h_oi h1 260 19)] rfl ?_
      refine w_ic_lt (tgt := 29) (x := h_oi h1 260 19) (y := 5) rfl (by decide) ⟨fun c6 => ?_, fun c6 => ?_⟩
      · have F := F.1 c6
        refine w_b 1 30 [(2, .int (h_oi h1 260 19)), (0, .ref 19), (1, .ref 17)] [.ref 19] rfl ?_
        refine w_getS (b := 20) rfl rfl rfl (kd_19 sh1) (or_256_19 sh1) ?_
        refine w_b 1 34 [(2, .int (h_oi h1 260 19)), (0, .ref 19), (1, .ref 17)] [.int (h_oi h1 260 19), .ref 20] rfl ?_
        obtain ⟨g7, F⟩ := F
        refine w_iald rfl (kd_20 sh1) (Eq.mpr (congrArg (vp_in (h_oi h1 260 19)) (al_20 sh1)) g7) ?_
        refine w_b 1 36 [(2, .int (h_oi h1 260 19)), (0, .ref 19), (1, .ref 17)] [.int (-1), .int (h_ai h1 20 (h_oi h1 260 19).toNatClampNeg)] rfl ?_
        refine w_ic_eq (tgt := 45) (x := h_ai h1 20 (h_oi h1 260 19).toNatClampNeg) (y := (-1)) rfl (by decide) ⟨fun c8 => ?_, fun c8 => ?_⟩
        · have F := F.1 c8
          refine w_b 2 47 [(2, .int (h_oi h1 260 19)), (0, .ref 19), (1, .ref 17)] [.ref 17, .ref 19] rfl ?_
          refine w_cv (As := [.ref 17]) (b := 19) (rest := []) rfl rfl rfl (Nat.le_of_ble_eq_true rfl) (kd_19 sh1) (fun z => absurd z (by decide)) (dc := 23) (by omega) (F.mono (fun r h9 F => ?_))
          obtain ⟨rfl, sh9, F⟩ := F
          show w_p _ _ 50 [(2, .int (h_oi h1 260 19)), (0, .ref 19), (1, .ref 17)] [] h9 _
          refine w_b 2 52 [(2, .int (h_oi h1 260 19)), (0, .ref 19), (1, .ref 17)] [.int 2, .ref 19] rfl ?_
          refine w_cv (As := [.int 2]) (b := 19) (rest := []) rfl rfl rfl (Nat.le_of_ble_eq_true rfl) (kd_19 sh9) (fun z => absurd z (by decide)) (dc := 1) (by omega) (F.mono (fun r h10 F => ?_))
          obtain ⟨z11, rfl, sh10, F⟩ := F
          show w_p _ _ 55 [(2, .int (h_oi h1 260 19)), (0, .ref 19), (1, .ref 17)] [.int z11] h10 _
          refine w_if_ne (tgt := 59) (x := z11) rfl (by decide) ⟨fun c12 => ?_, fun c12 => ?_⟩
          · have F := F.1 c12
            refine w_b 1 60 [(2, .int (h_oi h1 260 19)), (0, .ref 19), (1, .ref 17)] [.ref 19] rfl ?_
            refine w_get (g := 260) rfl rfl rfl (kd_19 sh10) ?_
            refine w_b 2 67 [(2, .int (h_oi h1 260 19)), (0, .ref 19), (1, .ref 17)] [.int (h_oi h1 260 19), .ref 1, .int (h_oi h10 260 19)] rfl ?_
            obtain ⟨g13, F⟩ := F
            refine w_iald rfl (kd_1 sh10) (Eq.mpr (congrArg (vp_in (h_oi h1 260 19)) (al_1 sh10)) g13) ?_
            refine w_ic_lt (tgt := 83) (x := h_oi h10 260 19) (y := h_ai h10 1 (h_oi h1 260 19).toNatClampNeg) rfl (by decide) ⟨fun c14 => ?_, fun c14 => ?_⟩
            · have F := F.1 c14
              refine w_b 2 85 [(2, .int (h_oi h1 260 19)), (0, .ref 19), (1, .ref 17)] [.int 3, .ref 19] rfl ?_
              refine w_cv (As := [.int 3]) (b := 19) (rest := []) rfl rfl rfl (Nat.le_of_ble_eq_true rfl) (kd_19 sh10) (fun z => absurd z (by decide)) (dc := 0) (by omega) (F.mono (fun r h15 F => ?_))
              obtain ⟨rfl, sh15, F⟩ := F
              show w_p _ _ 88 [(2, .int (h_oi h1 260 19)), (0, .ref 19), (1, .ref 17)] [] h15 _
              exact w_vr rfl F
            · have F := F.2 c14
              refine w_b 1 72 [(2, .int (h_oi h1 260 19)), (0, .ref 19), (1, .ref 17)] [.ref 19] rfl ?_
              refine w_get (g := 260) rfl rfl rfl (kd_19 sh10) ?_
              refine w_b 2 79 [(2, .int (h_oi h1 260 19)), (0, .ref 19), (1, .ref 17)] [.int (h_oi h1 260 19), .ref 2, .int (h_oi h10 260 19)] rfl ?_
              obtain ⟨g16, F⟩ := F
              refine w_iald rfl (kd_2 sh10) (Eq.mpr (congrArg (vp_in (h_oi h1 260 19)) (al_2 sh10)) g16) ?_
              refine w_ic_le (tgt := 89) (x := h_oi h10 260 19) (y := h_ai h10 2 (h_oi h1 260 19).toNatClampNeg) rfl (by decide) ⟨fun c17 => ?_, fun c17 => ?_⟩
              · have F := F.1 c17
                refine w_b 1 90 [(2, .int (h_oi h1 260 19)), (0, .ref 19), (1, .ref 17)] [.ref 19] rfl ?_
                refine w_getS (b := 20) rfl rfl rfl (kd_19 sh10) (or_256_19 sh10) ?_
                refine w_b 2 95 [(2, .int (h_oi h1 260 19)), (0, .ref 19), (1, .ref 17)] [.ref 19, .int (h_oi h1 260 19), .ref 20] rfl ?_
                refine w_get (g := 260) rfl rfl rfl (kd_19 sh10) ?_
                obtain ⟨g18, F⟩ := F
                refine w_iast rfl (kd_20 sh10) (by decide) (Eq.mpr (congrArg (vp_in (h_oi h1 260 19)) (al_20 sh10)) g18) ?_
                refine w_b 2 101 [(2, .int (h_oi h1 260 19)), (0, .ref 19), (1, .ref 17)] [.ref 17, .ref 19] rfl ?_
                refine w_cv (As := [.ref 17]) (b := 19) (rest := []) rfl rfl rfl (Nat.le_of_ble_eq_true rfl) (kd_19 sh10) (fun z => absurd z (by decide)) (dc := 23) (by omega) (F.mono (fun r h19 F => ?_))
                obtain ⟨rfl, sh19, F⟩ := F
                show w_p _ _ 104 [(2, .int (h_oi h1 260 19)), (0, .ref 19), (1, .ref 17)] [] h19 _
                refine w_b 2 106 [(2, .int (h_oi h1 260 19)), (0, .ref 19), (1, .ref 17)] [.int 3, .ref 19] rfl ?_
                refine w_cv (As := [.int 3]) (b := 19) (rest := []) rfl rfl rfl (Nat.le_of_ble_eq_true rfl) (kd_19 sh19) (fun z => absurd z (by decide)) (dc := 1) (by omega) (F.mono (fun r h20 F => ?_))
                obtain ⟨z21, rfl, sh20, F⟩ := F
                show w_p _ _ 109 [(2, .int (h_oi h1 260 19)), (0, .ref 19), (1, .ref 17)] [.int z21] h20 _
                refine w_if_eq (tgt := 117) (x := z21) rfl (by decide) ⟨fun c22 => ?_, fun c22 => ?_⟩
                · have F := F.1 c22
                  exact w_vr rfl F
                · have F := F.2 c22
                  refine w_b 2 114 [(2, .int (h_oi h1 260 19)), (0, .ref 19), (1, .ref 17)] [.ref 17, .ref 19] rfl ?_
                  refine w_cv (As := [.ref 17]) (b := 19) (rest := []) rfl rfl rfl (Nat.le_of_ble_eq_true rfl) (kd_19 sh20) (fun z => absurd z (by decide)) (dc := 23) (by omega) (F.mono (fun r h23 F => ?_))
                  obtain ⟨rfl, sh23, F⟩ := F
                  show w_p _ _ 117 [(2, .int (h_oi h1 260 19)), (0, .ref 19), (1, .ref 17)] [] h23 _
                  exact w_vr rfl F
              · have F := F.2 c17
                refine w_b 2 85 [(2, .int (h_oi h1 260 19)), (0, .ref 19), (1, .ref 17)] [.int 3, .ref 19] rfl ?_
                refine w_cv (As := [.int 3]) (b := 19) (rest := []) rfl rfl rfl (Nat.le_of_ble_eq_true rfl) (kd_19 sh10) (fun z => absurd z (by decide)) (dc := 0) (by omega) (F.mono (fun r h24 F => ?_))
                obtain ⟨rfl, sh24, F⟩ := F
                show w_p _ _ 88 [(2, .int (h_oi h1 260 19)), (0, .ref 19), (1, .ref 17)] [] h24 _
                exact w_vr rfl F
          · have F := F.2 (Decidable.not_not.mp c12)
            exact w_vr rfl F
        · have F := F.2 c8
          refine w_b 2 41 [(2, .int (h_oi h1 260 19)), (0, .ref 19), (1, .ref 17)] [.int 4, .ref 19] rfl ?_
          refine w_cv (As := [.int 4]) (b := 19) (rest := []) rfl rfl rfl (Nat.le_of_ble_eq_true rfl) (kd_19 sh1) (fun z => absurd z (by decide)) (dc := 0) (by omega) (F.mono (fun r h25 F => ?_))
          obtain ⟨rfl, sh25, F⟩ := F
          show w_p _ _ 44 [(2, .int (h_oi h1 260 19)), (0, .ref 19), (1, .ref 17)] [] h25 _
          exact w_vr rfl F
      · have F := F.2 c6
        refine w_b 2 25 [(2, .int (h_oi h1 260 19)), (0, .ref 19), (1, .ref 17)] [.int 1, .ref 19] rfl ?_
        refine w_cv (As := [.int 1]) (b := 19) (rest := []) rfl rfl rfl (Nat.le_of_ble_eq_true rfl) (kd_19 sh1) (fun z => absurd z (by decide)) (dc := 0) (by omega) (F.mono (fun r h26 F => ?_))
        obtain ⟨rfl, sh26, F⟩ := F
        show w_p _ _ 28 [(2, .int (h_oi h1 260 19)), (0, .ref 19), (1, .ref 17)] [] h26 _
        exact w_vr rfl F
  · have F := F.2 (Decidable.not_not.mp c3)
    exact w_vr rfl F

set_option maxRecDepth 20000 in
theorem t_X4_read_0 {h : mm_H} {Q : Option Value → mm_H → Prop} (sh : s_h h) {K30 : Int32 → mm_H → Prop} (k30 : ∀ (x2 : Int32) (h : mm_H), K30 x2 h → w_p 25 (4, 4, mc_X4_read) 30 [(0, .ref 19), (1, .ref 17), (2, .int x2)] [] h Q) 
    (F : w_c 0 152 [.ref 20, .int (-1)] h (fun r h1 => r = none ∧ s_h h1 ∧ w_c 23 38 [.ref 19, .ref 17] (h_sI (h_sI (h_sI h1 257 19 0) 258 19 0) 262 19 0) (fun r h2 => r = none ∧ s_h h2 ∧ K30 0 h2))) :
    w_c 25 34 [.ref 19, .ref 17] h Q := by
  refine w_ci (M := (4, 4, mc_X4_read)) rfl (Nat.le_of_ble_eq_true rfl) ?_
  show w_p _ _ 0 [(0, .ref 19), (1, .ref 17)] [] h Q
  refine w_b 1 1 [(0, .ref 19), (1, .ref 17)] [.ref 19] rfl ?_
  refine w_getS (b := 20) rfl rfl rfl (kd_19 sh) (or_256_19 sh) ?_
  refine w_b 1 5 [(0, .ref 19), (1, .ref 17)] [.int (-1), .ref 20] rfl ?_
  refine w_cs (As := [.ref 20, .int (-1)]) (rest := []) rfl rfl rfl (Nat.le_of_ble_eq_true rfl) (dc := 0) (by omega) (F.mono (fun r h1 F => ?_))
  obtain ⟨rfl, sh1, F⟩ := F
  show w_p _ _ 8 [(0, .ref 19), (1, .ref 17)] [] h1 _
  refine w_b 2 10 [(0, .ref 19), (1, .ref 17)] [.int 0, .ref 19] rfl ?_
  refine w_put (g := 257) (x := 0) rfl rfl rfl (kd_19 sh1) (by decide) ?_
  refine w_b 2 15 [(0, .ref 19), (1, .ref 17)] [.int 0, .ref 19] rfl ?_
  refine w_put (g := 258) (x := 0) rfl rfl rfl (kd_19 sh1) (by decide) ?_
  refine w_b 2 20 [(0, .ref 19), (1, .ref 17)] [.int 0, .ref 19] rfl ?_
  refine w_put (g := 262) (x := 0) rfl rfl rfl (kd_19 sh1) (by decide) ?_
  refine w_b 2 25 [(0, .ref 19), (1, .ref 17)] [.ref 17, .ref 19] rfl ?_
  refine w_cv (As := [.ref 17]) (b := 19) (rest := []) rfl rfl rfl (Nat.le_of_ble_eq_true rfl) (kd_19 sh1) (fun z => absurd z (by decide)) (dc := 23) (by omega) (F.mono (fun r h2 F => ?_))
  obtain ⟨rfl, sh2, F⟩ := F
  show w_p _ _ 28 [(0, .ref 19), (1, .ref 17)] [] h2 _
  refine w_b 2 30 [(2, .int 0), (0, .ref 19), (1, .ref 17)] [] rfl ?_
  refine w_lo [0, 1, 2] [(0, .ref 19), (1, .ref 17), (2, .int 0)] rfl rfl ?_
  exact k30 _ _ F

set_option maxRecDepth 20000 in
theorem t_X4_read_30 {h : mm_H} {Q : Option Value → mm_H → Prop} (sh : s_h h) (x2 : Int32) {K30 : Int32 → mm_H → Prop} (k30 : ∀ (x2 : Int32) (h : mm_H), K30 x2 h → w_p 25 (4, 4, mc_X4_read) 30 [(0, .ref 19), (1, .ref 17), (2, .int x2)] [] h Q) 
    (F : ((5 < x2 → Q none h) ∧ (¬ (5 < x2) → ((x2 ≤ 0 → ((¬ (h_oi h 257 19) = 0 → Q none h) ∧ ((h_oi h 257 19) = 0 → w_c 24 35 [.ref 19, .ref 17] h (fun r h5 => r = none ∧ s_h h5 ∧ K30 (x2 + 1) h5)))) ∧ (¬ (x2 ≤ 0) → ((¬ (h_oi h 259 19) = 0 → ((¬ (h_oi h 257 19) = 0 → Q none h) ∧ ((h_oi h 257 19) = 0 → w_c 24 35 [.ref 19, .ref 17] h (fun r h9 => r = none ∧ s_h h9 ∧ K30 (x2 + 1) h9)))) ∧ ((h_oi h 259 19) = 0 → ((¬ (h_oi h 257 19) = 0 → Q none h) ∧ ((h_oi h 257 19) = 0 → Q none h))))))))) :
    w_p 25 (4, 4, mc_X4_read) 30 [(0, .ref 19), (1, .ref 17), (2, .int x2)] [] h Q := by
  refine w_b 2 32 [(0, .ref 19), (1, .ref 17), (2, .int x2)] [.int 5, .int x2] rfl ?_
  refine w_ic_gt (tgt := 75) (x := x2) (y := 5) rfl (by decide) ⟨fun c1 => ?_, fun c1 => ?_⟩
  · have F := F.1 c1
    exact w_vr rfl F
  · have F := F.2 c1
    refine w_b 1 36 [(0, .ref 19), (1, .ref 17), (2, .int x2)] [.int x2] rfl ?_
    refine w_if_le (tgt := 50) (x := x2) rfl (by decide) ⟨fun c2 => ?_, fun c2 => ?_⟩
    · have F := F.1 c2
      refine w_b 3 53 [(3, .int 0), (0, .ref 19), (1, .ref 17), (2, .int x2)] [.ref 19] rfl ?_
      refine w_get (g := 257) rfl rfl rfl (kd_19 sh) ?_
      refine w_if_ne (tgt := 63) (x := h_oi h 257 19) rfl (by decide) ⟨fun c3 => ?_, fun c3 => ?_⟩
      · have F := F.1 c3
        exact w_vr rfl F
      · have F := F.2 (Decidable.not_not.mp c3)
        refine w_b 1 60 [(3, .int 0), (0, .ref 19), (1, .ref 17), (2, .int x2)] [.int 0] rfl ?_
        refine w_if_eq (tgt := 64) (x := 0) rfl (by decide) ⟨fun _ => ?_, fun c4 => absurd (by decide) c4⟩
        refine w_b 2 66 [(3, .int 0), (0, .ref 19), (1, .ref 17), (2, .int x2)] [.ref 17, .ref 19] rfl ?_
        refine w_cv (As := [.ref 17]) (b := 19) (rest := []) rfl rfl rfl (Nat.le_of_ble_eq_true rfl) (kd_19 sh) (fun z => absurd z (by decide)) (dc := 24) (by omega) (F.mono (fun r h5 F => ?_))
        obtain ⟨rfl, sh5, F⟩ := F
        show w_p _ _ 69 [(3, .int 0), (0, .ref 19), (1, .ref 17), (2, .int x2)] [] h5 _
        refine w_b 2 30 [(2, .int (x2 + 1)), (3, .int 0), (0, .ref 19), (1, .ref 17)] [] rfl ?_
        refine w_lo [0, 1, 2] [(0, .ref 19), (1, .ref 17), (2, .int (x2 + 1))] rfl rfl ?_
        exact k30 _ _ F
    · have F := F.2 c2
      refine w_b 1 40 [(0, .ref 19), (1, .ref 17), (2, .int x2)] [.ref 19] rfl ?_
      refine w_get (g := 259) rfl rfl rfl (kd_19 sh) ?_
      refine w_if_ne (tgt := 50) (x := h_oi h 259 19) rfl (by decide) ⟨fun c6 => ?_, fun c6 => ?_⟩
      · have F := F.1 c6
        refine w_b 3 53 [(3, .int 0), (0, .ref 19), (1, .ref 17), (2, .int x2)] [.ref 19] rfl ?_
        refine w_get (g := 257) rfl rfl rfl (kd_19 sh) ?_
        refine w_if_ne (tgt := 63) (x := h_oi h 257 19) rfl (by decide) ⟨fun c7 => ?_, fun c7 => ?_⟩
        · have F := F.1 c7
          exact w_vr rfl F
        · have F := F.2 (Decidable.not_not.mp c7)
          refine w_b 1 60 [(3, .int 0), (0, .ref 19), (1, .ref 17), (2, .int x2)] [.int 0] rfl ?_
          refine w_if_eq (tgt := 64) (x := 0) rfl (by decide) ⟨fun _ => ?_, fun c8 => absurd (by decide) c8⟩
          refine w_b 2 66 [(3, .int 0), (0, .ref 19), (1, .ref 17), (2, .int x2)] [.ref 17, .ref 19] rfl ?_
          refine w_cv (As := [.ref 17]) (b := 19) (rest := []) rfl rfl rfl (Nat.le_of_ble_eq_true rfl) (kd_19 sh) (fun z => absurd z (by decide)) (dc := 24) (by omega) (F.mono (fun r h9 F => ?_))
          obtain ⟨rfl, sh9, F⟩ := F
          show w_p _ _ 69 [(3, .int 0), (0, .ref 19), (1, .ref 17), (2, .int x2)] [] h9 _
          refine w_b 2 30 [(2, .int (x2 + 1)), (3, .int 0), (0, .ref 19), (1, .ref 17)] [] rfl ?_
          refine w_lo [0, 1, 2] [(0, .ref 19), (1, .ref 17), (2, .int (x2 + 1))] rfl rfl ?_
          exact k30 _ _ F
      · have F := F.2 (Decidable.not_not.mp c6)
        refine w_b 4 53 [(3, .int 1), (0, .ref 19), (1, .ref 17), (2, .int x2)] [.ref 19] rfl ?_
        refine w_get (g := 257) rfl rfl rfl (kd_19 sh) ?_
        refine w_if_ne (tgt := 63) (x := h_oi h 257 19) rfl (by decide) ⟨fun c10 => ?_, fun c10 => ?_⟩
        · have F := F.1 c10
          exact w_vr rfl F
        · have F := F.2 (Decidable.not_not.mp c10)
          refine w_b 1 60 [(3, .int 1), (0, .ref 19), (1, .ref 17), (2, .int x2)] [.int 1] rfl ?_
          refine w_if_eq (tgt := 64) (x := 1) rfl (by decide) ⟨fun c11 => absurd c11 (by decide), fun _ => ?_⟩
          exact w_vr rfl F

set_option maxRecDepth 20000 in
theorem t_X9_readLaw_0 {h : mm_H} {Q : Option Value → mm_H → Prop} (sh : s_h h) {K24 : mm_H → Prop} (k24 : ∀  (h : mm_H), K24  h → w_p 4 (9, 3, mc_X9_readLaw) 24 [(0, .ref 44)] [] h Q) 
    (F : ((¬ (h_oi h 582 44) = 0 → K24 h) ∧ ((h_oi h 582 44) = 0 → (((h_oi h 580 44) = 1 → K24 h) ∧ (¬ ((h_oi h 580 44) = 1) → w_c 0 106 [.ref 44, .int 2, .int (h_oi h 579 44)] h (fun r h3 => r = none ∧ s_h h3 ∧ K24 h3)))))) :
    w_c 4 111 [.ref 44] h Q := by
  refine w_ci (M := (9, 3, mc_X9_readLaw)) rfl (Nat.le_of_ble_eq_true rfl) ?_
  show w_p _ _ 0 [(0, .ref 44)] [] h Q
  refine w_b 1 1 [(0, .ref 44)] [.ref 44] rfl ?_
  refine w_get (g := 582) rfl rfl rfl (kd_44 sh) ?_
  refine w_if_ne (tgt := 24) (x := h_oi h 582 44) rfl (by decide) ⟨fun c1 => ?_, fun c1 => ?_⟩
  · have F := F.1 c1
    exact k24 _ F
  · have F := F.2 (Decidable.not_not.mp c1)
    refine w_b 1 8 [(0, .ref 44)] [.ref 44] rfl ?_
    refine w_get (g := 580) rfl rfl rfl (kd_44 sh) ?_
    refine w_b 1 12 [(0, .ref 44)] [.int 1, .int (h_oi h 580 44)] rfl ?_
    refine w_ic_eq (tgt := 24) (x := h_oi h 580 44) (y := 1) rfl (by decide) ⟨fun c2 => ?_, fun c2 => ?_⟩
    · have F := F.1 c2
      exact k24 _ F
    · have F := F.2 c2
      refine w_b 3 18 [(0, .ref 44)] [.ref 44, .int 2, .ref 44] rfl ?_
      refine w_get (g := 579) rfl rfl rfl (kd_44 sh) ?_
      refine w_cv (As := [.int 2, .int (h_oi h 579 44)]) (b := 44) (rest := []) rfl rfl rfl (Nat.le_of_ble_eq_true rfl) (kd_44 sh) (fun z => absurd z (by decide)) (dc := 0) (by omega) (F.mono (fun r h3 F => ?_))
      obtain ⟨rfl, sh3, F⟩ := F
      show w_p _ _ 24 [(0, .ref 44)] [] h3 _
      exact k24 _ F

set_option maxRecDepth 20000 in
theorem t_X9_readLaw_24 {h : mm_H} {Q : Option Value → mm_H → Prop} (sh : s_h h) {K56 : Int32 → mm_H → Prop} (k56 : ∀ (x1 : Int32) (h : mm_H), K56 x1 h → w_p 4 (9, 3, mc_X9_readLaw) 56 [(0, .ref 44), (1, .int x1)] [] h Q) 
    (F : ((¬ (h_oi h 582 44) = 0 → K56 (h_oi h 581 44) h) ∧ ((h_oi h 582 44) = 0 → (vp_in (h_oi h 581 44) 5 ∧ (((h_ai h 46 (h_oi h 581 44).toNatClampNeg) = (-4) → K56 (h_oi h 581 44) h) ∧ (¬ ((h_ai h 46 (h_oi h 581 44).toNatClampNeg) = (-4)) → w_c 0 106 [.ref 44, .int 4, .int (h_oi h 579 44)] h (fun r h4 => r = none ∧ s_h h4 ∧ K56 (h_oi h 581 44) h4))))))) :
    w_p 4 (9, 3, mc_X9_readLaw) 24 [(0, .ref 44)] [] h Q := by
  refine w_b 1 25 [(0, .ref 44)] [.ref 44] rfl ?_
  refine w_get (g := 581) rfl rfl rfl (kd_44 sh) ?_
  refine w_b 2 30 [(1, .int (h_oi h 581 44)), (0, .ref 44)] [.ref 44] rfl ?_
  refine w_get (g := 582) rfl rfl rfl (kd_44 sh) ?_
  refine w_if_ne (tgt := 56) (x := h_oi h 582 44) rfl (by decide) ⟨fun c1 => ?_, fun c1 => ?_⟩
  · have F := F.1 c1
    refine w_lo [0, 1] [(0, .ref 44), (1, .int (h_oi h 581 44))] rfl rfl ?_
    exact k56 _ _ F
  · have F := F.2 (Decidable.not_not.mp c1)
    refine w_b 1 37 [(1, .int (h_oi h 581 44)), (0, .ref 44)] [.ref 44] rfl ?_
    refine w_getS (b := 46) rfl rfl rfl (kd_44 sh) (or_584_44 sh) ?_
    refine w_b 1 41 [(1, .int (h_oi h 581 44)), (0, .ref 44)] [.int (h_oi h 581 44), .ref 46] rfl ?_
    obtain ⟨g2, F⟩ := F
    refine w_iald rfl (kd_46 sh) (Eq.mpr (congrArg (vp_in (h_oi h 581 44)) (al_46 sh)) g2) ?_
    refine w_b 1 44 [(1, .int (h_oi h 581 44)), (0, .ref 44)] [.int (-4), .int (h_ai h 46 (h_oi h 581 44).toNatClampNeg)] rfl ?_
    refine w_ic_eq (tgt := 56) (x := h_ai h 46 (h_oi h 581 44).toNatClampNeg) (y := (-4)) rfl (by decide) ⟨fun c3 => ?_, fun c3 => ?_⟩
    · have F := F.1 c3
      refine w_lo [0, 1] [(0, .ref 44), (1, .int (h_oi h 581 44))] rfl rfl ?_
      exact k56 _ _ F
    · have F := F.2 c3
      refine w_b 3 50 [(1, .int (h_oi h 581 44)), (0, .ref 44)] [.ref 44, .int 4, .ref 44] rfl ?_
      refine w_get (g := 579) rfl rfl rfl (kd_44 sh) ?_
      refine w_cv (As := [.int 4, .int (h_oi h 579 44)]) (b := 44) (rest := []) rfl rfl rfl (Nat.le_of_ble_eq_true rfl) (kd_44 sh) (fun z => absurd z (by decide)) (dc := 0) (by omega) (F.mono (fun r h4 F => ?_))
      obtain ⟨rfl, sh4, F⟩ := F
      show w_p _ _ 56 [(1, .int (h_oi h 581 44)), (0, .ref 44)] [] h4 _
      refine w_lo [0, 1] [(0, .ref 44), (1, .int (h_oi h 581 44))] rfl rfl ?_
      exact k56 _ _ F

set_option maxRecDepth 20000 in
theorem t_X9_readLaw_56 {h : mm_H} {Q : Option Value → mm_H → Prop} (sh : s_h h) (x1 : Int32) {K92 : Int32 → mm_H → Prop} (k92 : ∀ (x1 : Int32) (h : mm_H), K92 x1 h → w_p 4 (9, 3, mc_X9_readLaw) 92 [(0, .ref 44), (1, .int x1)] [] h Q) 
    (F : (((h_oi h 582 44) ≤ 0 → w_c 3 110 [.ref 44] h (fun r h2 => r = none ∧ s_h h2 ∧ ((¬ (h_oi h2 582 44) = 0 → K92 x1 h2) ∧ ((h_oi h2 582 44) = 0 → (((h_oi h2 580 44) = 2 → K92 x1 h2) ∧ (¬ ((h_oi h2 580 44) = 2) → w_c 0 106 [.ref 44, .int 2, .int (h_oi h2 579 44)] h2 (fun r h5 => r = none ∧ s_h h5 ∧ K92 x1 h5))))))) ∧ (¬ ((h_oi h 582 44) ≤ 0) → Q none h))) :
    w_p 4 (9, 3, mc_X9_readLaw) 56 [(0, .ref 44), (1, .int x1)] [] h Q := by
  refine w_b 1 57 [(0, .ref 44), (1, .int x1)] [.ref 44] rfl ?_
  refine w_get (g := 582) rfl rfl rfl (kd_44 sh) ?_
  refine w_if_le (tgt := 64) (x := h_oi h 582 44) rfl (by decide) ⟨fun c1 => ?_, fun c1 => ?_⟩
  · have F := F.1 c1
    refine w_b 1 65 [(0, .ref 44), (1, .int x1)] [.ref 44] rfl ?_
    refine w_cv (As := []) (b := 44) (rest := []) rfl rfl rfl (Nat.le_of_ble_eq_true rfl) (kd_44 sh) (fun z => absurd z (by decide)) (dc := 3) (by omega) (F.mono (fun r h2 F => ?_))
    obtain ⟨rfl, sh2, F⟩ := F
    show w_p _ _ 68 [(0, .ref 44), (1, .int x1)] [] h2 _
    refine w_b 1 69 [(0, .ref 44), (1, .int x1)] [.ref 44] rfl ?_
    refine w_get (g := 582) rfl rfl rfl (kd_44 sh2) ?_
    refine w_if_ne (tgt := 92) (x := h_oi h2 582 44) rfl (by decide) ⟨fun c3 => ?_, fun c3 => ?_⟩
    · have F := F.1 c3
      exact k92 _ _ F
    · have F := F.2 (Decidable.not_not.mp c3)
      refine w_b 1 76 [(0, .ref 44), (1, .int x1)] [.ref 44] rfl ?_
      refine w_get (g := 580) rfl rfl rfl (kd_44 sh2) ?_
      refine w_b 1 80 [(0, .ref 44), (1, .int x1)] [.int 2, .int (h_oi h2 580 44)] rfl ?_
      refine w_ic_eq (tgt := 92) (x := h_oi h2 580 44) (y := 2) rfl (by decide) ⟨fun c4 => ?_, fun c4 => ?_⟩
      · have F := F.1 c4
        exact k92 _ _ F
      · have F := F.2 c4
        refine w_b 3 86 [(0, .ref 44), (1, .int x1)] [.ref 44, .int 2, .ref 44] rfl ?_
        refine w_get (g := 579) rfl rfl rfl (kd_44 sh2) ?_
        refine w_cv (As := [.int 2, .int (h_oi h2 579 44)]) (b := 44) (rest := []) rfl rfl rfl (Nat.le_of_ble_eq_true rfl) (kd_44 sh2) (fun z => absurd z (by decide)) (dc := 0) (by omega) (F.mono (fun r h5 F => ?_))
        obtain ⟨rfl, sh5, F⟩ := F
        show w_p _ _ 92 [(0, .ref 44), (1, .int x1)] [] h5 _
        exact k92 _ _ F
  · have F := F.2 c1
    exact w_vr rfl F

set_option maxRecDepth 20000 in
theorem t_X9_readLaw_92 {h : mm_H} {Q : Option Value → mm_H → Prop} (sh : s_h h) (x1 : Int32) {K136 : Int32 → Int32 → mm_H → Prop} (k136 : ∀ (x1 : Int32) (x2 : Int32) (h : mm_H), K136 x1 x2 h → w_p 4 (9, 3, mc_X9_readLaw) 136 [(0, .ref 44), (1, .int x1), (2, .int x2)] [] h Q) 
    (F : ((¬ x1 = 0 → ((¬ x1 = 1 → ((¬ x1 = 2 → ((¬ x1 = 3 → K136 x1 100 h) ∧ (x1 = 3 → K136 x1 50 h))) ∧ (x1 = 2 → K136 x1 400 h))) ∧ (x1 = 1 → K136 x1 47 h))) ∧ (x1 = 0 → K136 x1 200 h))) :
    w_p 4 (9, 3, mc_X9_readLaw) 92 [(0, .ref 44), (1, .int x1)] [] h Q := by
  refine w_b 1 93 [(0, .ref 44), (1, .int x1)] [.int x1] rfl ?_
  refine w_if_ne (tgt := 102) (x := x1) rfl (by decide) ⟨fun c1 => ?_, fun c1 => ?_⟩
  · have F := F.1 c1
    refine w_b 2 104 [(0, .ref 44), (1, .int x1)] [.int 1, .int x1] rfl ?_
    refine w_ic_ne (tgt := 112) (x := x1) (y := 1) rfl (by decide) ⟨fun c2 => ?_, fun c2 => ?_⟩
    · have F := F.1 c2
      refine w_b 2 114 [(0, .ref 44), (1, .int x1)] [.int 2, .int x1] rfl ?_
      refine w_ic_ne (tgt := 123) (x := x1) (y := 2) rfl (by decide) ⟨fun c3 => ?_, fun c3 => ?_⟩
      · have F := F.1 c3
        refine w_b 2 125 [(0, .ref 44), (1, .int x1)] [.int 3, .int x1] rfl ?_
        refine w_ic_ne (tgt := 133) (x := x1) (y := 3) rfl (by decide) ⟨fun c4 => ?_, fun c4 => ?_⟩
        · have F := F.1 c4
          refine w_b 2 136 [(2, .int 100), (0, .ref 44), (1, .int x1)] [] rfl ?_
          refine w_lo [0, 1, 2] [(0, .ref 44), (1, .int x1), (2, .int 100)] rfl rfl ?_
          exact k136 _ _ _ F
        · have F := F.2 (Decidable.not_not.mp c4)
          refine w_b 3 136 [(2, .int 50), (0, .ref 44), (1, .int x1)] [] rfl ?_
          refine w_lo [0, 1, 2] [(0, .ref 44), (1, .int x1), (2, .int 50)] rfl rfl ?_
          exact k136 _ _ _ F
      · have F := F.2 (Decidable.not_not.mp c3)
        refine w_b 3 136 [(2, .int 400), (0, .ref 44), (1, .int x1)] [] rfl ?_
        refine w_lo [0, 1, 2] [(0, .ref 44), (1, .int x1), (2, .int 400)] rfl rfl ?_
        exact k136 _ _ _ F
    · have F := F.2 (Decidable.not_not.mp c2)
      refine w_b 3 136 [(2, .int 47), (0, .ref 44), (1, .int x1)] [] rfl ?_
      refine w_lo [0, 1, 2] [(0, .ref 44), (1, .int x1), (2, .int 47)] rfl rfl ?_
      exact k136 _ _ _ F
  · have F := F.2 (Decidable.not_not.mp c1)
    refine w_b 3 136 [(2, .int 200), (0, .ref 44), (1, .int x1)] [] rfl ?_
    refine w_lo [0, 1, 2] [(0, .ref 44), (1, .int x1), (2, .int 200)] rfl rfl ?_
    exact k136 _ _ _ F

set_option maxRecDepth 20000 in
theorem t_X9_readLaw_136 {h : mm_H} {Q : Option Value → mm_H → Prop} (sh : s_h h) (x1 : Int32) (x2 : Int32) {K175 : Int32 → Int32 → mm_H → Prop} (k175 : ∀ (x1 : Int32) (x2 : Int32) (h : mm_H), K175 x1 x2 h → w_p 4 (9, 3, mc_X9_readLaw) 175 [(0, .ref 44), (1, .int x1), (2, .int x2)] [] h Q) 
    (F : ((¬ (h_oi h 582 44) = 0 → K175 x1 x2 h) ∧ ((h_oi h 582 44) = 0 → ((¬ x1 = 2 → ((¬ (f_in ((h_oi h 581 44).toInt64) (Int64.ofNat 0) x2.toInt64) = 0 → K175 x1 x2 h) ∧ ((f_in ((h_oi h 581 44).toInt64) (Int64.ofNat 0) x2.toInt64) = 0 → w_c 0 106 [.ref 44, .int 3, .int (h_oi h 579 44)] h (fun r h4 => r = none ∧ s_h h4 ∧ K175 x1 x2 h4)))) ∧ (x1 = 2 → ((¬ (f_in ((h_oi h 581 44).toInt64) (Int64.ofNat 1) x2.toInt64) = 0 → K175 x1 x2 h) ∧ ((f_in ((h_oi h 581 44).toInt64) (Int64.ofNat 1) x2.toInt64) = 0 → w_c 0 106 [.ref 44, .int 3, .int (h_oi h 579 44)] h (fun r h6 => r = none ∧ s_h h6 ∧ K175 x1 x2 h6)))))))) :
    w_p 4 (9, 3, mc_X9_readLaw) 136 [(0, .ref 44), (1, .int x1), (2, .int x2)] [] h Q := by
  refine w_b 1 137 [(0, .ref 44), (1, .int x1), (2, .int x2)] [.ref 44] rfl ?_
  refine w_get (g := 582) rfl rfl rfl (kd_44 sh) ?_
  refine w_if_ne (tgt := 175) (x := h_oi h 582 44) rfl (by decide) ⟨fun c1 => ?_, fun c1 => ?_⟩
  · have F := F.1 c1
    exact k175 _ _ _ F
  · have F := F.2 (Decidable.not_not.mp c1)
    refine w_b 1 144 [(0, .ref 44), (1, .int x1), (2, .int x2)] [.ref 44] rfl ?_
    refine w_get (g := 581) rfl rfl rfl (kd_44 sh) ?_
    refine w_b 3 150 [(0, .ref 44), (1, .int x1), (2, .int x2)] [.int 2, .int x1, .long ((h_oi h 581 44).toInt64)] rfl ?_
    refine w_ic_ne (tgt := 157) (x := x1) (y := 2) rfl (by decide) ⟨fun c2 => ?_, fun c2 => ?_⟩
    · have F := F.1 c2
      refine w_b 3 160 [(0, .ref 44), (1, .int x1), (2, .int x2)] [.long x2.toInt64, .long (Int64.ofNat 0), .long ((h_oi h 581 44).toInt64)] rfl ?_
      refine w_cs (As := [.long ((h_oi h 581 44).toInt64), .long (Int64.ofNat 0), .long x2.toInt64]) (rest := []) rfl rfl rfl (Nat.le_of_ble_eq_true rfl) (dc := 0) (by omega) (sp_in  ?_)
      show w_p _ _ 163 [(0, .ref 44), (1, .int x1), (2, .int x2)] [.int (f_in ((h_oi h 581 44).toInt64) (Int64.ofNat 0) x2.toInt64)] h _
      refine w_if_ne (tgt := 175) (x := f_in ((h_oi h 581 44).toInt64) (Int64.ofNat 0) x2.toInt64) rfl (by decide) ⟨fun c3 => ?_, fun c3 => ?_⟩
      · have F := F.1 c3
        exact k175 _ _ _ F
      · have F := F.2 (Decidable.not_not.mp c3)
        refine w_b 3 169 [(0, .ref 44), (1, .int x1), (2, .int x2)] [.ref 44, .int 3, .ref 44] rfl ?_
        refine w_get (g := 579) rfl rfl rfl (kd_44 sh) ?_
        refine w_cv (As := [.int 3, .int (h_oi h 579 44)]) (b := 44) (rest := []) rfl rfl rfl (Nat.le_of_ble_eq_true rfl) (kd_44 sh) (fun z => absurd z (by decide)) (dc := 0) (by omega) (F.mono (fun r h4 F => ?_))
        obtain ⟨rfl, sh4, F⟩ := F
        show w_p _ _ 175 [(0, .ref 44), (1, .int x1), (2, .int x2)] [] h4 _
        exact k175 _ _ _ F
    · have F := F.2 (Decidable.not_not.mp c2)
      refine w_b 4 160 [(0, .ref 44), (1, .int x1), (2, .int x2)] [.long x2.toInt64, .long (Int64.ofNat 1), .long ((h_oi h 581 44).toInt64)] rfl ?_
      refine w_cs (As := [.long ((h_oi h 581 44).toInt64), .long (Int64.ofNat 1), .long x2.toInt64]) (rest := []) rfl rfl rfl (Nat.le_of_ble_eq_true rfl) (dc := 0) (by omega) (sp_in  ?_)
      show w_p _ _ 163 [(0, .ref 44), (1, .int x1), (2, .int x2)] [.int (f_in ((h_oi h 581 44).toInt64) (Int64.ofNat 1) x2.toInt64)] h _
      refine w_if_ne (tgt := 175) (x := f_in ((h_oi h 581 44).toInt64) (Int64.ofNat 1) x2.toInt64) rfl (by decide) ⟨fun c5 => ?_, fun c5 => ?_⟩
      · have F := F.1 c5
        exact k175 _ _ _ F
      · have F := F.2 (Decidable.not_not.mp c5)
        refine w_b 3 169 [(0, .ref 44), (1, .int x1), (2, .int x2)] [.ref 44, .int 3, .ref 44] rfl ?_
        refine w_get (g := 579) rfl rfl rfl (kd_44 sh) ?_
        refine w_cv (As := [.int 3, .int (h_oi h 579 44)]) (b := 44) (rest := []) rfl rfl rfl (Nat.le_of_ble_eq_true rfl) (kd_44 sh) (fun z => absurd z (by decide)) (dc := 0) (by omega) (F.mono (fun r h6 F => ?_))
        obtain ⟨rfl, sh6, F⟩ := F
        show w_p _ _ 175 [(0, .ref 44), (1, .int x1), (2, .int x2)] [] h6 _
        exact k175 _ _ _ F

set_option maxRecDepth 20000 in
theorem t_X9_readLaw_175 {h : mm_H} {Q : Option Value → mm_H → Prop} (sh : s_h h) (x1 : Int32) (x2 : Int32) {K196 : Int32 → Int32 → mm_H → Prop} (k196 : ∀ (x1 : Int32) (x2 : Int32) (h : mm_H), K196 x1 x2 h → w_p 4 (9, 3, mc_X9_readLaw) 196 [(0, .ref 44), (1, .int x1), (2, .int x2)] [] h Q) 
    (F : (vp_in x1 5 ∧ ((¬ (h_oi h 582 44) = 0 → K196 x1 x2 (h_sA h 46 x1.toNatClampNeg (h_oi h 581 44))) ∧ ((h_oi h 582 44) = 0 → w_c 3 110 [.ref 44] (h_sA h 46 x1.toNatClampNeg (h_oi h 581 44)) (fun r h3 => r = none ∧ s_h h3 ∧ K196 x1 x2 h3))))) :
    w_p 4 (9, 3, mc_X9_readLaw) 175 [(0, .ref 44), (1, .int x1), (2, .int x2)] [] h Q := by
  refine w_b 1 176 [(0, .ref 44), (1, .int x1), (2, .int x2)] [.ref 44] rfl ?_
  refine w_getS (b := 46) rfl rfl rfl (kd_44 sh) (or_584_44 sh) ?_
  refine w_b 2 181 [(0, .ref 44), (1, .int x1), (2, .int x2)] [.ref 44, .int x1, .ref 46] rfl ?_
  refine w_get (g := 581) rfl rfl rfl (kd_44 sh) ?_
  obtain ⟨g1, F⟩ := F
  refine w_iast rfl (kd_46 sh) (by decide) (Eq.mpr (congrArg (vp_in x1) (al_46 sh)) g1) ?_
  refine w_b 1 186 [(0, .ref 44), (1, .int x1), (2, .int x2)] [.ref 44] rfl ?_
  refine w_get (g := 582) rfl rfl rfl (kd_44 sh) ?_
  refine w_if_ne (tgt := 196) (x := h_oi h 582 44) rfl (by decide) ⟨fun c2 => ?_, fun c2 => ?_⟩
  · have F := F.1 c2
    exact k196 _ _ _ F
  · have F := F.2 (Decidable.not_not.mp c2)
    refine w_b 1 193 [(0, .ref 44), (1, .int x1), (2, .int x2)] [.ref 44] rfl ?_
    refine w_cv (As := []) (b := 44) (rest := []) rfl rfl rfl (Nat.le_of_ble_eq_true rfl) (kd_44 sh) (fun z => absurd z (by decide)) (dc := 3) (by omega) (F.mono (fun r h3 F => ?_))
    obtain ⟨rfl, sh3, F⟩ := F
    show w_p _ _ 196 [(0, .ref 44), (1, .int x1), (2, .int x2)] [] h3 _
    exact k196 _ _ _ F

set_option maxRecDepth 20000 in
theorem t_X9_readLaw_196 {h : mm_H} {Q : Option Value → mm_H → Prop} (sh : s_h h) (x1 : Int32) (x2 : Int32) {K220 : Int32 → Int32 → mm_H → Prop} (k220 : ∀ (x1 : Int32) (x2 : Int32) (h : mm_H), K220 x1 x2 h → w_p 4 (9, 3, mc_X9_readLaw) 220 [(0, .ref 44), (1, .int x1), (2, .int x2)] [] h Q) 
    (F : ((¬ (h_oi h 582 44) = 0 → K220 x1 x2 h) ∧ ((h_oi h 582 44) = 0 → (((h_oi h 580 44) = 3 → K220 x1 x2 h) ∧ (¬ ((h_oi h 580 44) = 3) → w_c 0 106 [.ref 44, .int 2, .int (h_oi h 579 44)] h (fun r h3 => r = none ∧ s_h h3 ∧ K220 x1 x2 h3)))))) :
    w_p 4 (9, 3, mc_X9_readLaw) 196 [(0, .ref 44), (1, .int x1), (2, .int x2)] [] h Q := by
  refine w_b 1 197 [(0, .ref 44), (1, .int x1), (2, .int x2)] [.ref 44] rfl ?_
  refine w_get (g := 582) rfl rfl rfl (kd_44 sh) ?_
  refine w_if_ne (tgt := 220) (x := h_oi h 582 44) rfl (by decide) ⟨fun c1 => ?_, fun c1 => ?_⟩
  · have F := F.1 c1
    exact k220 _ _ _ F
  · have F := F.2 (Decidable.not_not.mp c1)
    refine w_b 1 204 [(0, .ref 44), (1, .int x1), (2, .int x2)] [.ref 44] rfl ?_
    refine w_get (g := 580) rfl rfl rfl (kd_44 sh) ?_
    refine w_b 1 208 [(0, .ref 44), (1, .int x1), (2, .int x2)] [.int 3, .int (h_oi h 580 44)] rfl ?_
    refine w_ic_eq (tgt := 220) (x := h_oi h 580 44) (y := 3) rfl (by decide) ⟨fun c2 => ?_, fun c2 => ?_⟩
    · have F := F.1 c2
      exact k220 _ _ _ F
    · have F := F.2 c2
      refine w_b 3 214 [(0, .ref 44), (1, .int x1), (2, .int x2)] [.ref 44, .int 2, .ref 44] rfl ?_
      refine w_get (g := 579) rfl rfl rfl (kd_44 sh) ?_
      refine w_cv (As := [.int 2, .int (h_oi h 579 44)]) (b := 44) (rest := []) rfl rfl rfl (Nat.le_of_ble_eq_true rfl) (kd_44 sh) (fun z => absurd z (by decide)) (dc := 0) (by omega) (F.mono (fun r h3 F => ?_))
      obtain ⟨rfl, sh3, F⟩ := F
      show w_p _ _ 220 [(0, .ref 44), (1, .int x1), (2, .int x2)] [] h3 _
      exact k220 _ _ _ F

set_option maxRecDepth 20000 in
theorem t_X9_readLaw_220 {h : mm_H} {Q : Option Value → mm_H → Prop} (sh : s_h h) (x1 : Int32) (x2 : Int32) 
    (F : ((¬ (h_oi h 582 44) = 0 → Q none h) ∧ ((h_oi h 582 44) = 0 → w_c 3 110 [.ref 44] h (fun r h2 => r = none ∧ s_h h2 ∧ Q none h2)))) :
    w_p 4 (9, 3, mc_X9_readLaw) 220 [(0, .ref 44), (1, .int x1), (2, .int x2)] [] h Q := by
  refine w_b 1 221 [(0, .ref 44), (1, .int x1), (2, .int x2)] [.ref 44] rfl ?_
  refine w_get (g := 582) rfl rfl rfl (kd_44 sh) ?_
  refine w_if_ne (tgt := 231) (x := h_oi h 582 44) rfl (by decide) ⟨fun c1 => ?_, fun c1 => ?_⟩
  · have F := F.1 c1
    exact w_vr rfl F
  · have F := F.2 (Decidable.not_not.mp c1)
    refine w_b 1 228 [(0, .ref 44), (1, .int x1), (2, .int x2)] [.ref 44] rfl ?_
    refine w_cv (As := []) (b := 44) (rest := []) rfl rfl rfl (Nat.le_of_ble_eq_true rfl) (kd_44 sh) (fun z => absurd z (by decide)) (dc := 3) (by omega) (F.mono (fun r h2 F => ?_))
    obtain ⟨rfl, sh2, F⟩ := F
    show w_p _ _ 231 [(0, .ref 44), (1, .int x1), (2, .int x2)] [] h2 _
    exact w_vr rfl F

/-! LAWS ARE READ -/
abbrev zK : Type := Nat × Nat × Nat × Nat
abbrev zRs : Type := (Nat × Nat) × (Nat → Option Nat) × zK
def zLe (k : Nat) : Nat := if k = 2 then 1 else 0
def zMo (k : Nat) : Nat := [200, 47, 400, 50, 100].getD k 0
noncomputable def zT1 (L : Nat → Option Nat) (t : zK) : zRs := z_if (t.1 = 4) ((1, t.2.1), L, t) ((0, 0), L, t)
noncomputable def zLaw (T : zT) (L : Nat → Option Nat) (t : zK) : zRs := z_if (¬ t.1 = 1) ((2, t.2.1), L, t) (z_if (¬ L t.2.2.2 = none) ((4, t.2.1), L, t) (z_if ((zTk T t.2.2.1).1 = 4) ((1, (zTk T t.2.2.1).2.1), L, t) (z_if (¬ (zTk T t.2.2.1).1 = 2) ((2, (zTk T t.2.2.1).2.1), L, t) (z_if (¬ (zLe t.2.2.2 ≤ (zTk T t.2.2.1).2.2.2 ∧ (zTk T t.2.2.1).2.2.2 ≤ zMo t.2.2.2)) ((3, (zTk T t.2.2.1).2.1), L, t) (z_if ((zTk T (zTk T t.2.2.1).2.2.1).1 = 4) ((1, (zTk T (zTk T t.2.2.1).2.2.1).2.1), L, t) (z_if (¬ (zTk T (zTk T t.2.2.1).2.2.1).1 = 3) ((2, (zTk T (zTk T t.2.2.1).2.2.1).2.1), L, t) (zT1 (va_up L t.2.2.2 (some (zTk T t.2.2.1).2.2.2)) (zTk T (zTk T (zTk T t.2.2.1).2.2.1).2.2.1))))))))
theorem rn_ex {p : Nat → Prop} {m : Nat} (h : ∀ i, p i → i < m) : ∀ w n, n + w = m → ∃ e, rn p n e ∧ e ≤ m
  | 0, n, hn => ⟨n, ⟨Nat.le_refl _, fun i h1 h2 => by omega, fun y => by have := h n y; omega⟩, by omega⟩
  | w + 1, n, hn => by
    by_cases z : p n
    · obtain ⟨e, ⟨e1, e2, e3⟩, e4⟩ := rn_ex h w (n + 1) (by omega)
      refine ⟨e, ⟨by omega, fun i h1 h2 => ?_, e3⟩, e4⟩
      by_cases y : i = n
      · rw [y]; exact z
      · exact e2 i (by omega) h2
    · exact ⟨n, ⟨Nat.le_refl _, fun i h1 h2 => by omega, z⟩, by omega⟩
theorem zNm_lt {T : zT} {s e k : Nat} (h : zNm T s e = some k) : k < 5 := by
  by_cases z : ∃ j, j < 5 ∧ zSp T s e j
  · obtain ⟨j, hj, hz⟩ := z
    rw [zNm_s hj hz] at h
    cases h
    exact hj
  · rw [zNm_n (fun j hj y => z ⟨j, hj, y⟩)] at h
    cases h
/-- what is known of a token -/
def zKo (T : zT) (t : zK) : Prop := t.1 ≤ 4 ∧ t.2.2.1 ≤ T.1 ∧ (t.1 = 1 → t.2.2.2 < 5) ∧ t.2.2.2 ≤ 9999
theorem zTk_ok {T : zT} {n : Nat} (hn : n ≤ T.1) : zKo T (zTk T n) := by
  obtain ⟨s, hs, hsT⟩ := rn_ex (p := tBl T) (fun i y => y.1) (T.1 - n) n (by omega)
  have ek : zTk T n = zTs T s := by unfold zTk; rw [zEn_eq hs]
  rw [ek]
  by_cases h1 : T.1 ≤ s
  · rw [zTs_end h1]; exact ⟨by show (0 : Nat) ≤ 4; decide, hsT, fun y => (by cases y), Nat.zero_le _⟩
  · by_cases h2 : tLt T s
    · obtain ⟨e, he, heT⟩ := rn_ex (p := tLt T) (fun i y => y.1) (T.1 - s) s (by omega)
      cases ez : zNm T s e with
      | none => rw [zTs_bn h2 he ez]; exact ⟨by show (4 : Nat) ≤ 4; decide, heT, fun y => (by cases y), Nat.zero_le _⟩
      | some k =>
        have hk := zNm_lt ez
        rw [zTs_nm h2 he ez]; exact ⟨by show (1 : Nat) ≤ 4; decide, heT, fun _ => hk, by show k ≤ 9999; omega⟩
    · by_cases h3 : tFg T s
      · obtain ⟨e, he, heT⟩ := rn_ex (p := tFg T) (fun i y => y.1) (T.1 - s) s (by omega)
        by_cases h4 : e - s ≤ 4
        · rw [zTs_nu h3 he h4]
          refine ⟨by show (2 : Nat) ≤ 4; decide, heT, fun y => (by cases y), (zNum_le (e - s) (fun i hi => ?_)).1⟩
          exact (he.2.1 (s + i) (by omega) (by omega)).2.2
        · rw [zTs_bu h3 he h4]; exact ⟨by show (4 : Nat) ≤ 4; decide, heT, fun y => (by cases y), Nat.zero_le _⟩
      · by_cases h4 : T.2 s = 59
        · rw [zTs_se (by omega) h4]; exact ⟨by show (3 : Nat) ≤ 4; decide, by show s + 1 ≤ T.1; omega, fun y => (by cases y), Nat.zero_le _⟩
        · rw [zTs_ba (by omega) h2 h3 h4]; exact ⟨by show (4 : Nat) ≤ 4; decide, hsT, fun y => (by cases y), Nat.zero_le _⟩
def cLw (h : mm_H) (L : Nat → Option Nat) : Prop := ∀ k, k < 5 → h_ai h 20 k = tW (-1) (L k)
def mLw (h : mm_H) (L : Nat → Option Nat) : Prop := ∀ k, k < 5 → h_ai h 46 k = tW (-4) (L k)
def cTo (h : mm_H) (t : zK) : Prop := t.1 ≤ 3 ∧ h_oi h 257 19 = 0 ∧ h_oi h 259 19 = nI t.1 ∧ h_oi h 261 19 = nI t.2.1 ∧ h_oi h 262 19 = nI t.2.2.1 ∧ (t.1 = 1 ∨ t.1 = 2 → h_oi h 260 19 = nI t.2.2.2)
def mTo (h : mm_H) (t : zK) : Prop := t.1 ≤ 3 ∧ h_oi h 582 44 = 0 ∧ h_oi h 580 44 = nI t.1 ∧ h_oi h 579 44 = nI t.2.1 ∧ h_oi h 578 44 = nI t.2.2.1 ∧ (t.1 = 1 ∨ t.1 = 2 → h_oi h 581 44 = nI t.2.2.2)
def cRd (h : mm_H) (R : zRs) : Prop := (R.1.1 = 0 ∧ cTo h R.2.2 ∧ cLw h R.2.1) ∨ ((1 ≤ R.1.1 ∧ R.1.1 ≤ 4) ∧ h_oi h 257 19 = nI R.1.1 ∧ h_oi h 258 19 = nI R.1.2)
def mRd (h : mm_H) (R : zRs) : Prop := (R.1.1 = 0 ∧ mTo h R.2.2 ∧ mLw h R.2.1) ∨ ((1 ≤ R.1.1 ∧ R.1.1 ≤ 4) ∧ h_oi h 582 44 = nI R.1.1 ∧ h_oi h 583 44 = nI R.1.2)
theorem tW_m1 {o : Option Nat} (h : ∀ v, o = some v → v < 2147483648) : tW (-1) o = -1 ↔ o = none := by
  cases o with
  | none => exact ⟨fun _ => rfl, fun _ => rfl⟩
  | some v => exact ⟨fun z => absurd z (nI_ne1 v (h v rfl)), fun z => by cases z⟩
theorem tW_m4 {o : Option Nat} (h : ∀ v, o = some v → v < 2147483648) : tW (-4) o = -4 ↔ o = none := by
  cases o with
  | none => exact ⟨fun _ => rfl, fun _ => rfl⟩
  | some v => exact ⟨fun z => absurd z (nI_neN v (h v rfl)), fun z => by cases z⟩
section LW
variable {h : mm_H} {Q : Option Value → mm_H → Prop} {T : zT} {L : Nat → Option Nat} {t : zK}
theorem c_can {w c s : Nat} (sh : s_h h) (hw : w < 100) (hc : c < 100) (a0 : h_oi h 257 19 = 0) (a1 : h_oi h 259 19 = nI c) (a2 : h_oi h 261 19 = nI s) (k1 : c = w → Q (some (.int 1)) h) (k0 : ¬ c = w → ∀ h', fx h h' gR [] → dn h h' → h_oi h' 257 19 = nI 2 → h_oi h' 258 19 = nI s → Q (some (.int 0)) h') : w_c 1 36 [.ref 19, .int (nI w)] h Q := by
  refine t_X4_canStand_0 sh _ ?_
  rw [a0, a1, nI_eqI (by omega) (by omega)]
  refine ⟨fun z => absurd rfl z, fun _ => ⟨fun z => ⟨fun y => absurd rfl y, fun _ => k1 z⟩, fun z => ?_⟩⟩
  have f2 : fx h (h_sI (h_sI h 257 19 2) 258 19 (h_oi h 261 19)) gR [] := ((fx.rf _ _ _).sI _ (Or.inl (by decide))).sI _ (Or.inl (by decide))
  have e7 : h_oi (h_sI (h_sI h 257 19 2) 258 19 (h_oi h 261 19)) 257 19 = nI 2 := (oi_neG (by decide) _).trans (oi_self _ _ _ _)
  refine (c_fail sh ⟨rfl, f2.sh sh (by decide), fun _ => ?_, fun y => ?_⟩).up (by decide)
  · exact k0 z _ f2 (((dn.rf _).sI _ (by decide)).sI _ (by decide)) e7 (by rw [oi_self, a2])
  · rw [e7] at y; exact absurd y (by decide)
theorem c_canB {w : Int32} {x : Nat} (sh : s_h h) (a0 : h_oi h 257 19 = nI x) (hx : 1 ≤ x ∧ x ≤ 4) (k : Q (some (.int 0)) h) : w_c 1 36 [.ref 19, .int w] h Q := by
  have nz : ¬ h_oi h 257 19 = 0 := by rw [a0]; exact fun z => by have := (nI_eqI (b := 0) (by omega) (by decide)).mp z; omega
  exact t_X4_canStand_0 sh _ ⟨fun _ => ⟨fun _ => k, fun z => absurd z nz⟩, fun z => absurd z nz⟩
theorem cTok_c {h : mm_H} {t : zK} (H : cTok h t) : (cTo h t ∧ t.1 ≤ 3) ∨ (t.1 = 4 ∧ h_oi h 257 19 = nI 1 ∧ h_oi h 258 19 = nI t.2.1) := by
  rcases H with y | y
  · exact Or.inl ⟨y, y.1⟩
  · exact Or.inr y
theorem mTok_c {h : mm_H} {t : zK} (H : mTok h t) : (mTo h t ∧ t.1 ≤ 3) ∨ (t.1 = 4 ∧ h_oi h 582 44 = nI 1 ∧ h_oi h 583 44 = nI t.2.1) := by
  rcases H with y | y
  · exact Or.inl ⟨y, y.1⟩
  · exact Or.inr y
theorem lst : ∀ k, k < 5 → ([0, 0, 1, 0, 0] : List Int32).getD k 0 = nI (zLe k) ∧ ([200, 47, 400, 50, 100] : List Int32).getD k 0 = nI (zMo k) ∧ zLe k ≤ 1 ∧ zMo k ≤ 400 := by decide +kernel
set_option maxHeartbeats 1000000 in
theorem c_readLaw (sh : s_h h) (H : cT h T.1 T.2) (Ht : cTo h t) (HL : cLw h L) (Ok : zKo T t) (Lb : ∀ k v, L k = some v → v < 2147483648) (k : ∀ h', fx h h' gR [20] → dn h h' → cRd h' (zLaw T L t) → Q none h') : w_c 24 35 [.ref 19, .ref 17] h Q := by
  have hT := H.1
  obtain ⟨t0, a0, a1, a2, a3, a4⟩ := id Ht
  obtain ⟨o1, o2, o3, o4⟩ := id Ok
  refine t_X4_readLaw_0 sh ((c_can (w := 1) sh (by decide) (by omega) a0 a1 a2 (fun c1 => ⟨_, rfl, sh, fun _ => ?_, fun z => absurd z (by decide)⟩) (fun c1 h1 f1 d1 e1 e2 => ⟨_, rfl, f1.sh sh (by decide), fun z => absurd rfl z, fun _ => k h1 (f1.wk (by decide) (by decide)) d1 ?_⟩)).up (by decide))
  rotate_left
  · have e : zLaw T L t = ((2, t.2.1), L, t) := by unfold zLaw; rw [z_if_t c1]
    rw [e]
    exact Or.inr ⟨by show 1 ≤ 2 ∧ 2 ≤ 4; decide, e1, e2⟩
  have hk := o3 c1
  have av : h_oi h 260 19 = nI t.2.2.2 := a4 (Or.inl c1)
  have vk : vp_in (nI t.2.2.2) 5 := vp_in_nI hk (by decide)
  have ic : (nI t.2.2.2).toNatClampNeg = t.2.2.2 := i_cl (by omega)
  rw [av, ic, HL _ hk, tW_m1 (Lb _)]
  have g0 : ¬ nI t.2.2.2 < 0 := fun z => absurd ((i_lt (a := t.2.2.2) (b := 0) (by omega) (by decide)).mp z) (Nat.not_lt_zero _)
  have g5 : nI t.2.2.2 < 5 := (i_lt (a := t.2.2.2) (b := 5) (by omega) (by decide)).mpr hk
  refine ⟨fun z => absurd z g0, fun _ => ⟨fun _ => ⟨vk, fun c2 => ?_, fun c2 => ?_⟩, fun z => absurd g5 z⟩⟩
  rotate_left
  · have f2 : fx h (h_sI (h_sI h 257 19 4) 258 19 (h_oi h 261 19)) gR [20] := ((fx.rf _ _ _).sI _ (Or.inl (by decide))).sI _ (Or.inl (by decide))
    refine (c_fail sh ⟨rfl, f2.sh sh (by decide), k _ f2 (((dn.rf _).sI _ (by decide)).sI _ (by decide)) ?_⟩).up (by decide)
    have e : zLaw T L t = ((4, t.2.1), L, t) := by unfold zLaw; rw [z_if_f (fun y => y c1), z_if_t c2]
    rw [e]
    exact Or.inr ⟨by show 1 ≤ 4 ∧ 4 ≤ 4; decide, (oi_neG (by decide) _).trans (oi_self _ _ _ _), by rw [oi_self, a2]⟩
  refine c_scan sh H o2 a0 a3 (fun h2 f2 d2 T2 => ⟨rfl, f2.sh sh (by decide), ?_⟩)
  have sh2 := f2.sh sh (by decide)
  have Ok2 := zTk_ok (T := T) o2
  have L2 : cLw h2 L := fun j hj => by rw [f2.ai 20 (by decide) (by decide)]; exact HL j hj
  have H2 : cT h2 T.1 T.2 := cT_r H f2
  have pre2 : ∀ X, zLaw T L t = z_if ((zTk T t.2.2.1).1 = 4) ((1, (zTk T t.2.2.1).2.1), L, t) X → True := fun _ _ => trivial
  rcases cTok_c T2 with ⟨To2, t2⟩ | ⟨t2, b0, b1⟩
  rotate_left
  · refine (c_canB sh2 b0 (by decide) ⟨_, rfl, sh2, fun z => absurd rfl z, fun _ => k h2 (f2.wk (by decide) (by decide)) d2 ?_⟩).up (by decide)
    have e : zLaw T L t = ((1, (zTk T t.2.2.1).2.1), L, t) := by unfold zLaw; rw [z_if_f (fun y => y c1), z_if_f (fun y => y c2), z_if_t t2]
    rw [e]
    exact Or.inr ⟨by show 1 ≤ 1 ∧ 1 ≤ 4; decide, b0, b1⟩
  obtain ⟨-, b0, b1, b2, b3, b4⟩ := id To2
  refine (c_can (w := 2) sh2 (by decide) (by omega) b0 b1 b2 (fun c3 => ⟨_, rfl, sh2, fun _ => ?_, fun z => absurd z (by decide)⟩) (fun c3 h3 f3 d3 e1 e2 => ⟨_, rfl, f3.sh sh2 (by decide), fun z => absurd rfl z, fun _ => k h3 (f2.tr f3 (by decide) (by decide) (by decide) (by decide)) (d2.tr d3) ?_⟩)).up (by decide)
  rotate_left
  · have e : zLaw T L t = ((2, (zTk T t.2.2.1).2.1), L, t) := by unfold zLaw; rw [z_if_f (fun y => y c1), z_if_f (fun y => y c2), z_if_f (by omega), z_if_t c3]
    rw [e]
    exact Or.inr ⟨by show 1 ≤ 2 ∧ 2 ≤ 4; decide, e1, e2⟩
  have bv : h_oi h2 260 19 = nI (zTk T t.2.2.1).2.2.2 := b4 (Or.inr c3)
  obtain ⟨l1, l2, l3, l4⟩ := lst t.2.2.2 hk
  have r1 : h_ai h2 1 t.2.2.2 = nI (zLe t.2.2.2) := by rw [ai_1 sh2]; exact l1
  have r2 : h_ai h2 2 t.2.2.2 = nI (zMo t.2.2.2) := by rw [ai_2 sh2]; exact l2
  have v2 := Ok2.2.2.2
  have out : ¬ (zLe t.2.2.2 ≤ (zTk T t.2.2.1).2.2.2 ∧ (zTk T t.2.2.1).2.2.2 ≤ zMo t.2.2.2) → w_c 0 37 [.ref 19, .int 3] h2 (fun r h12 => r = none ∧ s_h h12 ∧ Q none h12) := fun hn => by
    have f3 : fx h (h_sI (h_sI h2 257 19 3) 258 19 (h_oi h2 261 19)) gR [20] := ((f2.wk (by decide) (by decide)).sI _ (Or.inl (by decide))).sI _ (Or.inl (by decide))
    refine c_fail sh2 ⟨rfl, f3.sh sh (by decide), k _ f3 ((d2.sI _ (by decide)).sI _ (by decide)) ?_⟩
    have e : zLaw T L t = ((3, (zTk T t.2.2.1).2.1), L, t) := by unfold zLaw; rw [z_if_f (fun y => y c1), z_if_f (fun y => y c2), z_if_f (by omega), z_if_f (fun y => y c3), z_if_t hn]
    rw [e]
    exact Or.inr ⟨by show 1 ≤ 3 ∧ 3 ≤ 4; decide, (oi_neG (by decide) _).trans (oi_self _ _ _ _), by rw [oi_self, b2]⟩
  rw [r1, r2, bv, i_lt (by omega) (by omega), i_le (by omega) (by omega)]
  refine ⟨vk, fun c4 => (out (fun y => by omega)).up (by decide), fun c4 => ⟨vk, fun c5 => ⟨vk, ?_⟩, fun c5 => (out (fun y => by omega)).up (by decide)⟩⟩
  have f3 : fx h (h_sA h2 20 t.2.2.2 (nI (zTk T t.2.2.1).2.2.2)) gR [20] := (f2.wk (by decide) (by decide)).sA _ _ (Or.inl (by decide))
  have d3 : dn h (h_sA h2 20 t.2.2.2 (nI (zTk T t.2.2.1).2.2.2)) := d2.sA _ _ (by decide)
  have sh3 := f3.sh sh (by decide)
  have H3 : cT (h_sA h2 20 t.2.2.2 (nI (zTk T t.2.2.1).2.2.2)) T.1 T.2 := H.fx f3 (by decide) (by decide)
  have L3 : cLw (h_sA h2 20 t.2.2.2 (nI (zTk T t.2.2.1).2.2.2)) (va_up L t.2.2.2 (some (zTk T t.2.2.1).2.2.2)) := fun j hj => by
    rw [ai_self]
    by_cases z : j = t.2.2.2
    · rw [z, va_up_self, va_up_self]; rfl
    · rw [va_up_ne _ _ z, va_up_ne _ _ z]; exact L2 j hj
  have g0 : h_oi (h_sA h2 20 t.2.2.2 (nI (zTk T t.2.2.1).2.2.2)) 257 19 = 0 := b0
  have g3 : h_oi (h_sA h2 20 t.2.2.2 (nI (zTk T t.2.2.1).2.2.2)) 262 19 = nI (zTk T t.2.2.1).2.2.1 := b3
  generalize (h_sA h2 20 t.2.2.2 (nI (zTk T t.2.2.1).2.2.2)) = h3 at f3 d3 sh3 H3 L3 g0 g3 ⊢
  refine c_scan sh3 H3 Ok2.2.1 g0 g3 (fun h4 f4 d4 T4 => ⟨rfl, f4.sh sh3 (by decide), ?_⟩)
  have sh4 := f4.sh sh3 (by decide)
  have F4 : fx h h4 gR [20] := f3.tr f4 (by decide) (by decide) (by decide) (by decide)
  have Ok4 := zTk_ok (T := T) Ok2.2.1
  rcases cTok_c T4 with ⟨To4, t4⟩ | ⟨t4, b40, b41⟩
  rotate_left
  · refine (c_canB sh4 b40 (by decide) ⟨_, rfl, sh4, fun _ => k h4 F4 (d3.tr d4) ?_, fun z => absurd rfl z⟩).up (by decide)
    have e : zLaw T L t = ((1, (zTk T (zTk T t.2.2.1).2.2.1).2.1), L, t) := by unfold zLaw; rw [z_if_f (fun y => y c1), z_if_f (fun y => y c2), z_if_f (by omega), z_if_f (fun y => y c3), z_if_f (fun y => y ⟨by omega, by omega⟩), z_if_t t4]
    rw [e]
    exact Or.inr ⟨by show 1 ≤ 1 ∧ 1 ≤ 4; decide, b40, b41⟩
  obtain ⟨-, b40, b41, b42, b43, b44⟩ := id To4
  refine (c_can (w := 3) sh4 (by decide) (by omega) b40 b41 b42 (fun c6 => ⟨_, rfl, sh4, fun z => absurd z (by decide), fun _ => ?_⟩) (fun c6 h5 f5 d5 e1 e2 => ⟨_, rfl, f5.sh sh4 (by decide), fun _ => k h5 (F4.tr f5 (by decide) (by decide) (by decide) (by decide)) ((d3.tr d4).tr d5) ?_, fun z => absurd rfl z⟩)).up (by decide)
  rotate_left
  · have e : zLaw T L t = ((2, (zTk T (zTk T t.2.2.1).2.2.1).2.1), L, t) := by unfold zLaw; rw [z_if_f (fun y => y c1), z_if_f (fun y => y c2), z_if_f (by omega), z_if_f (fun y => y c3), z_if_f (fun y => y ⟨by omega, by omega⟩), z_if_f (by omega), z_if_t c6]
    rw [e]
    exact Or.inr ⟨by show 1 ≤ 2 ∧ 2 ≤ 4; decide, e1, e2⟩
  have H4 : cT h4 T.1 T.2 := cT_r H3 f4
  refine c_scan sh4 H4 Ok4.2.1 b40 b43 (fun h5 f5 d5 T5 => ⟨rfl, f5.sh sh4 (by decide), k h5 (F4.tr f5 (by decide) (by decide) (by decide) (by decide)) ((d3.tr d4).tr d5) ?_⟩)
  have e : zLaw T L t = zT1 (va_up L t.2.2.2 (some (zTk T t.2.2.1).2.2.2)) (zTk T (zTk T (zTk T t.2.2.1).2.2.1).2.2.1) := by unfold zLaw; rw [z_if_f (fun y => y c1), z_if_f (fun y => y c2), z_if_f (by omega), z_if_f (fun y => y c3), z_if_f (fun y => y ⟨by omega, by omega⟩), z_if_f (by omega), z_if_f (fun y => y c6)]
  rw [e]
  unfold zT1
  rcases cTok_c T5 with ⟨To5, t5⟩ | ⟨t5, b50, b51⟩
  · rw [z_if_f (by omega)]
    refine Or.inl ⟨rfl, To5, fun j hj => ?_⟩
    rw [f5.ai 20 (by decide) (by decide), f4.ai 20 (by decide) (by decide)]
    exact L3 j hj
  · rw [z_if_t t5]
    exact Or.inr ⟨by show 1 ≤ 1 ∧ 1 ≤ 4; decide, b50, b51⟩
end LW
