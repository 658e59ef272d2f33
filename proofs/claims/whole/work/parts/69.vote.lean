set_option maxRecDepth 20000 in
theorem t_X1_isFull_0 {h : mm_H} {Q : Option Value → mm_H → Prop} (sh : s_h h) 
    (F : (((h_oi h 66 21) < 6 → Q (some (.int 0)) h) ∧ (¬ ((h_oi h 66 21) < 6) → Q (some (.int 1)) h))) :
    w_c 0 6 [.ref 21] h Q := by
  refine w_ci (M := (1, 1, mc_X1_isFull)) rfl (Nat.le_of_ble_eq_true rfl) ?_
  show w_p _ _ 0 [(0, .ref 21)] [] h Q
  refine w_b 1 1 [(0, .ref 21)] [.ref 21] rfl ?_
  refine w_get (g := 66) rfl rfl rfl (kd_21 sh) ?_
  refine w_b 1 6 [(0, .ref 21)] [.int 6, .int (h_oi h 66 21)] rfl ?_
  refine w_ic_lt (tgt := 13) (x := h_oi h 66 21) (y := 6) rfl (by decide) ⟨fun c1 => ?_, fun c1 => ?_⟩
  · have F := F.1 c1
    refine w_b 1 14 [(0, .ref 21)] [.int 0] rfl ?_
    exact w_br rfl (by decide) F
  · have F := F.2 c1
    refine w_b 2 14 [(0, .ref 21)] [.int 1] rfl ?_
    exact w_br rfl (by decide) F

set_option maxRecDepth 20000 in
theorem t_X1_add_0 {h : mm_H} {Q : Option Value → mm_H → Prop} (sh : s_h h) (dd : Int32) {K22 : Int32 → Int32 → mm_H → Prop} (k22 : ∀ (dd : Int32) (x3 : Int32) (h : mm_H), K22 dd x3 h → w_p 1 (1, 4, mc_X1_add) 22 [(0, .ref 21), (1, .int dd), (2, .ref 20), (3, .int x3)] [] h Q) 
    (F : w_c 0 6 [.ref 21] h (fun r h1 => ∃ z2 : Int32, r = some (.int z2) ∧ s_h h1 ∧ ((z2 = 0 → (vp_in (h_oi h1 66 21) 6 ∧ K22 dd 0 (h_sA h1 22 ((h_oi h1 66 21).toNatClampNeg) dd))) ∧ (¬ (z2 = 0) → Q (some (.int (-3))) h1)))) :
    w_c 1 7 [.ref 21, .int dd, .ref 20] h Q := by
  refine w_ci (M := (1, 4, mc_X1_add)) rfl (Nat.le_of_ble_eq_true rfl) ?_
  show w_p _ _ 0 [(0, .ref 21), (1, .int dd), (2, .ref 20)] [] h Q
  refine w_b 1 1 [(0, .ref 21), (1, .int dd), (2, .ref 20)] [.ref 21] rfl ?_
  refine w_cv (As := []) (b := 21) (rest := []) rfl rfl rfl (Nat.le_of_ble_eq_true rfl) (kd_21 sh) (fun z => absurd z (by decide)) (dc := 0) (by omega) (F.mono (fun r h1 F => ?_))
  obtain ⟨z2, rfl, sh1, F⟩ := F
  show w_p _ _ 4 [(0, .ref 21), (1, .int dd), (2, .ref 20)] [.int z2] h1 _
  refine w_if_eq (tgt := 10) (x := z2) rfl (by decide) ⟨fun c3 => ?_, fun c3 => ?_⟩
  · have F := F.1 c3
    refine w_b 1 11 [(0, .ref 21), (1, .int dd), (2, .ref 20)] [.ref 21] rfl ?_
    refine w_getS (b := 22) rfl rfl rfl (kd_21 sh1) (or_64_21 sh1) ?_
    refine w_b 1 15 [(0, .ref 21), (1, .int dd), (2, .ref 20)] [.ref 21, .ref 22] rfl ?_
    refine w_get (g := 66) rfl rfl rfl (kd_21 sh1) ?_
    refine w_b 1 19 [(0, .ref 21), (1, .int dd), (2, .ref 20)] [.int dd, .int (h_oi h1 66 21), .ref 22] rfl ?_
    obtain ⟨g4, F⟩ := F
    refine w_iast rfl (kd_22 sh1) (by decide) (Eq.mpr (congrArg (vp_in (h_oi h1 66 21)) (al_22 sh1)) g4) ?_
    refine w_b 2 22 [(3, .int 0), (0, .ref 21), (1, .int dd), (2, .ref 20)] [] rfl ?_
    refine w_lo [0, 1, 2, 3] [(0, .ref 21), (1, .int dd), (2, .ref 20), (3, .int 0)] rfl rfl ?_
    exact k22 _ _ _ F
  · have F := F.2 c3
    refine w_b 1 9 [(0, .ref 21), (1, .int dd), (2, .ref 20)] [.int (-3)] rfl ?_
    exact w_ir rfl F

set_option maxRecDepth 20000 in
theorem t_X1_add_22 {h : mm_H} {Q : Option Value → mm_H → Prop} (sh : s_h h) (dd : Int32) (x3 : Int32) {K22 : Int32 → Int32 → mm_H → Prop} (k22 : ∀ (dd : Int32) (x3 : Int32) (h : mm_H), K22 dd x3 h → w_p 1 (1, 4, mc_X1_add) 22 [(0, .ref 21), (1, .int dd), (2, .ref 20), (3, .int x3)] [] h Q) 
    (F : ((5 ≤ x3 → Q (some (.int (((h_oi h 66 21) + 1) - (1 : Int32)))) (h_sI h 66 21 ((h_oi h 66 21) + 1))) ∧ (¬ (5 ≤ x3) → (((Int32.ofNat 5) ≤ x3 → Q (some (.int (((h_oi h 66 21) + 1) - (1 : Int32)))) (h_sI h 66 21 ((h_oi h 66 21) + 1))) ∧ (¬ ((Int32.ofNat 5) ≤ x3) → (vp_in (h_oi h 66 21) 6 ∧ (vp_in x3 5 ∧ (∃ b5 : Nat, (h_ar h 23 (h_oi h 66 21).toNatClampNeg) = some b5 ∧ (h_kd h b5 = 20 ∧ (vp_in x3 (h_al h b5) ∧ (16 ≤ b5 ∧ K22 dd (x3 + 1) (h_sA h b5 x3.toNatClampNeg (h_ai h 20 x3.toNatClampNeg))))))))))))) :
    w_p 1 (1, 4, mc_X1_add) 22 [(0, .ref 21), (1, .int dd), (2, .ref 20), (3, .int x3)] [] h Q := by
  refine w_b 2 24 [(0, .ref 21), (1, .int dd), (2, .ref 20), (3, .int x3)] [.int 5, .int x3] rfl ?_
  refine w_ic_ge (tgt := 53) (x := x3) (y := 5) rfl (by decide) ⟨fun c1 => ?_, fun c1 => ?_⟩
  · have F := F.1 c1
    refine w_b 2 55 [(0, .ref 21), (1, .int dd), (2, .ref 20), (3, .int x3)] [.ref 21, .ref 21] rfl ?_
    refine w_get (g := 66) rfl rfl rfl (kd_21 sh) ?_
    refine w_b 2 60 [(0, .ref 21), (1, .int dd), (2, .ref 20), (3, .int x3)] [.int ((h_oi h 66 21) + 1), .ref 21] rfl ?_
    refine w_put (g := 66) (x := (h_oi h 66 21) + 1) rfl rfl rfl (kd_21 sh) (by decide) ?_
    refine w_b 1 64 [(0, .ref 21), (1, .int dd), (2, .ref 20), (3, .int x3)] [.ref 21] rfl ?_
    refine w_get (g := 66) rfl rfl rfl (kd_21 sh) ?_
    refine w_b 2 69 [(0, .ref 21), (1, .int dd), (2, .ref 20), (3, .int x3)] [.int (((h_oi h 66 21) + 1) - (1 : Int32))] rfl ?_
    exact w_ir rfl F
  · have F := F.2 c1
    refine w_b 2 29 [(0, .ref 21), (1, .int dd), (2, .ref 20), (3, .int x3)] [.ref 20, .int x3] rfl ?_
    refine w_alen rfl (by rw [kd_20 sh]; decide) ?_
    rw [show h_al h 20 = 5 from (al_20 sh)]
    refine w_ic_ge (tgt := 53) (x := x3) (y := Int32.ofNat 5) rfl (by decide) ⟨fun c2 => ?_, fun c2 => ?_⟩
    · have F := F.1 c2
      refine w_b 2 55 [(0, .ref 21), (1, .int dd), (2, .ref 20), (3, .int x3)] [.ref 21, .ref 21] rfl ?_
      refine w_get (g := 66) rfl rfl rfl (kd_21 sh) ?_
      refine w_b 2 60 [(0, .ref 21), (1, .int dd), (2, .ref 20), (3, .int x3)] [.int ((h_oi h 66 21) + 1), .ref 21] rfl ?_
      refine w_put (g := 66) (x := (h_oi h 66 21) + 1) rfl rfl rfl (kd_21 sh) (by decide) ?_
      refine w_b 1 64 [(0, .ref 21), (1, .int dd), (2, .ref 20), (3, .int x3)] [.ref 21] rfl ?_
      refine w_get (g := 66) rfl rfl rfl (kd_21 sh) ?_
      refine w_b 2 69 [(0, .ref 21), (1, .int dd), (2, .ref 20), (3, .int x3)] [.int (((h_oi h 66 21) + 1) - (1 : Int32))] rfl ?_
      exact w_ir rfl F
    · have F := F.2 c2
      refine w_b 1 34 [(0, .ref 21), (1, .int dd), (2, .ref 20), (3, .int x3)] [.ref 21] rfl ?_
      refine w_getS (b := 23) rfl rfl rfl (kd_21 sh) (or_65_21 sh) ?_
      refine w_b 1 38 [(0, .ref 21), (1, .int dd), (2, .ref 20), (3, .int x3)] [.ref 21, .ref 23] rfl ?_
      refine w_get (g := 66) rfl rfl rfl (kd_21 sh) ?_
      obtain ⟨g3, F⟩ := F
      refine w_aald rfl (by rw [kd_23 sh]; decide) (Eq.mpr (congrArg (vp_in (h_oi h 66 21)) (al_23 sh)) g3) ?_
      refine w_b 3 45 [(0, .ref 21), (1, .int dd), (2, .ref 20), (3, .int x3)] [.int x3, .ref 20, .int x3, va_rf (h_ar h 23 (h_oi h 66 21).toNatClampNeg)] rfl ?_
      obtain ⟨g4, F⟩ := F
      refine w_iald rfl (kd_20 sh) (Eq.mpr (congrArg (vp_in x3) (al_20 sh)) g4) ?_
      obtain ⟨b5, e6, F⟩ := F
      rw [e6]
      show w_p _ _ 46 [(0, .ref 21), (1, .int dd), (2, .ref 20), (3, .int x3)] [.int (h_ai h 20 x3.toNatClampNeg), .int x3, .ref b5] h _
      obtain ⟨g7, F⟩ := F
      obtain ⟨g8, F⟩ := F
      obtain ⟨g9, F⟩ := F
      refine w_iast rfl g7 g9 g8 ?_
      refine w_b 2 22 [(3, .int (x3 + 1)), (0, .ref 21), (1, .int dd), (2, .ref 20)] [] rfl ?_
      refine w_lo [0, 1, 2, 3] [(0, .ref 21), (1, .int dd), (2, .ref 20), (3, .int (x3 + 1))] rfl rfl ?_
      exact k22 _ _ _ F

set_option maxRecDepth 20000 in
theorem t_X8_vote_0 {h : mm_H} {Q : Option Value → mm_H → Prop} (sh : s_h h) (dd : Int32) 
    (F : ((dd < (h_oi h 521 16) → Q (some (.int (-1))) h) ∧ (¬ (dd < (h_oi h 521 16)) → ((dd ≤ 2000 → w_c 0 6 [.ref 21] h (fun r h3 => ∃ z4 : Int32, r = some (.int z4) ∧ s_h h3 ∧ ((z4 = 0 → w_c 25 34 [.ref 19, .ref 17] h3 (fun r h6 => r = none ∧ s_h h6 ∧ (((h_oi h6 257 19) = 0 → w_c 1 7 [.ref 21, .int dd, .ref 20] (h_sI (h_sI h6 385 17 0) 522 16 (h_oi h6 257 19)) (fun r h8 => ∃ z9 : Int32, r = some (.int z9) ∧ s_h h8 ∧ w_c 2 88 [.ref 16] h8 (fun r h10 => r = none ∧ s_h h10 ∧ Q (some (.int z9)) h10))) ∧ (¬ ((h_oi h6 257 19) = 0) → Q (some (.int ((-10 : Int32) - (h_oi h6 258 19)))) (h_sI (h_sI h6 385 17 0) 522 16 (h_oi h6 257 19)))))) ∧ (¬ (z4 = 0) → Q (some (.int (-3))) h3)))) ∧ (¬ (dd ≤ 2000) → Q (some (.int (-1))) h))))) :
    w_c 26 64 [.ref 16, .int dd] h Q := by
  refine w_ci (M := (8, 3, mc_X8_vote)) rfl (Nat.le_of_ble_eq_true rfl) ?_
  show w_p _ _ 0 [(0, .ref 16), (1, .int dd)] [] h Q
  refine w_b 2 2 [(0, .ref 16), (1, .int dd)] [.ref 16, .int dd] rfl ?_
  refine w_get (g := 521) rfl rfl rfl (kd_16 sh) ?_
  refine w_ic_lt (tgt := 15) (x := dd) (y := h_oi h 521 16) rfl (by decide) ⟨fun c1 => ?_, fun c1 => ?_⟩
  · have F := F.1 c1
    refine w_b 1 16 [(0, .ref 16), (1, .int dd)] [.int (-1)] rfl ?_
    exact w_ir rfl F
  · have F := F.2 c1
    refine w_b 2 12 [(0, .ref 16), (1, .int dd)] [.int 2000, .int dd] rfl ?_
    refine w_ic_le (tgt := 17) (x := dd) (y := 2000) rfl (by decide) ⟨fun c2 => ?_, fun c2 => ?_⟩
    · have F := F.1 c2
      refine w_b 1 18 [(0, .ref 16), (1, .int dd)] [.ref 16] rfl ?_
      refine w_getS (b := 21) rfl rfl rfl (kd_16 sh) (or_514_16 sh) ?_
      refine w_cv (As := []) (b := 21) (rest := []) rfl rfl rfl (Nat.le_of_ble_eq_true rfl) (kd_21 sh) (fun z => absurd z (by decide)) (dc := 0) (by omega) (F.mono (fun r h3 F => ?_))
      obtain ⟨z4, rfl, sh3, F⟩ := F
      show w_p _ _ 24 [(0, .ref 16), (1, .int dd)] [.int z4] h3 _
      refine w_if_eq (tgt := 30) (x := z4) rfl (by decide) ⟨fun c5 => ?_, fun c5 => ?_⟩
      · have F := F.1 c5
        refine w_b 1 31 [(0, .ref 16), (1, .int dd)] [.ref 16] rfl ?_
        refine w_getS (b := 19) rfl rfl rfl (kd_16 sh3) (or_513_16 sh3) ?_
        refine w_b 1 35 [(0, .ref 16), (1, .int dd)] [.ref 16, .ref 19] rfl ?_
        refine w_getS (b := 17) rfl rfl rfl (kd_16 sh3) (or_512_16 sh3) ?_
        refine w_cv (As := [.ref 17]) (b := 19) (rest := []) rfl rfl rfl (Nat.le_of_ble_eq_true rfl) (kd_19 sh3) (fun z => absurd z (by decide)) (dc := 25) (by omega) (F.mono (fun r h6 F => ?_))
        obtain ⟨rfl, sh6, F⟩ := F
        show w_p _ _ 41 [(0, .ref 16), (1, .int dd)] [] h6 _
        refine w_b 1 42 [(0, .ref 16), (1, .int dd)] [.ref 16] rfl ?_
        refine w_getS (b := 17) rfl rfl rfl (kd_16 sh6) (or_512_16 sh6) ?_
        refine w_b 1 46 [(0, .ref 16), (1, .int dd)] [.int 0, .ref 17] rfl ?_
        refine w_put (g := 385) (x := 0) rfl rfl rfl (kd_17 sh6) (by decide) ?_
        refine w_b 2 51 [(0, .ref 16), (1, .int dd)] [.ref 16, .ref 16] rfl ?_
        refine w_getS (b := 19) rfl rfl rfl (kd_16 sh6) (or_513_16 sh6) ?_
        refine w_get (g := 257) rfl rfl rfl (kd_19 sh6) ?_
        refine w_put (g := 522) (x := h_oi h6 257 19) rfl rfl rfl (kd_16 sh6) (by decide) ?_
        refine w_b 1 61 [(0, .ref 16), (1, .int dd)] [.ref 16] rfl ?_
        refine w_get (g := 522) rfl rfl rfl (kd_16 sh6) ?_
        refine w_if_eq (tgt := 78) (x := h_oi h6 257 19) rfl (by decide) ⟨fun c7 => ?_, fun c7 => ?_⟩
        · have F := F.1 c7
          refine w_b 1 79 [(0, .ref 16), (1, .int dd)] [.ref 16] rfl ?_
          refine w_getS (b := 21) rfl rfl rfl (kd_16 sh6) (or_514_16 sh6) ?_
          refine w_b 2 84 [(0, .ref 16), (1, .int dd)] [.ref 16, .int dd, .ref 21] rfl ?_
          refine w_getS (b := 19) rfl rfl rfl (kd_16 sh6) (or_513_16 sh6) ?_
          refine w_getS (b := 20) rfl rfl rfl (kd_19 sh6) (or_256_19 sh6) ?_
          refine w_cv (As := [.int dd, .ref 20]) (b := 21) (rest := []) rfl rfl rfl (Nat.le_of_ble_eq_true rfl) (kd_21 sh6) (fun z => absurd z (by decide)) (dc := 1) (by omega) (F.mono (fun r h8 F => ?_))
          obtain ⟨z9, rfl, sh8, F⟩ := F
          show w_p _ _ 93 [(0, .ref 16), (1, .int dd)] [.int z9] h8 _
          refine w_b 2 95 [(2, .int z9), (0, .ref 16), (1, .int dd)] [.ref 16] rfl ?_
          refine w_cv (As := []) (b := 16) (rest := []) rfl rfl rfl (Nat.le_of_ble_eq_true rfl) (kd_16 sh8) (fun z => absurd z (by decide)) (dc := 2) (by omega) (F.mono (fun r h10 F => ?_))
          obtain ⟨rfl, sh10, F⟩ := F
          show w_p _ _ 98 [(2, .int z9), (0, .ref 16), (1, .int dd)] [] h10 _
          refine w_b 1 99 [(2, .int z9), (0, .ref 16), (1, .int dd)] [.int z9] rfl ?_
          exact w_ir rfl F
        · have F := F.2 c7
          refine w_b 2 70 [(0, .ref 16), (1, .int dd)] [.ref 16, .int (-10)] rfl ?_
          refine w_getS (b := 19) rfl rfl rfl (kd_16 sh6) (or_513_16 sh6) ?_
          refine w_get (g := 258) rfl rfl rfl (kd_19 sh6) ?_
          refine w_b 1 77 [(0, .ref 16), (1, .int dd)] [.int ((-10 : Int32) - (h_oi h6 258 19))] rfl ?_
          exact w_ir rfl F
      · have F := F.2 c5
        refine w_b 1 29 [(0, .ref 16), (1, .int dd)] [.int (-3)] rfl ?_
        exact w_ir rfl F
    · have F := F.2 c2
      refine w_b 1 16 [(0, .ref 16), (1, .int dd)] [.int (-1)] rfl ?_
      exact w_ir rfl F

set_option maxRecDepth 20000 in
theorem t_X9_vote_0 {h : mm_H} {Q : Option Value → mm_H → Prop} (sh : s_h h) (dd : Int32) {K42 : Int32 → Int32 → mm_H → Prop} (k42 : ∀ (dd : Int32) (x2 : Int32) (h : mm_H), K42 dd x2 h → w_p 5 (9, 4, mc_X9_vote) 42 [(0, .ref 44), (1, .int dd), (2, .int x2)] [] h Q) 
    (F : ((¬ (f_in dd.toInt64 ((h_oi h 588 44).toInt64) (Int64.ofNat 2000)) = 0 → ((¬ (h_oi h 585 44) = 6 → K42 dd 0 (h_sI (h_sI h 582 44 0) 578 44 0)) ∧ ((h_oi h 585 44) = 6 → Q (some (.int (-3))) h))) ∧ ((f_in dd.toInt64 ((h_oi h 588 44).toInt64) (Int64.ofNat 2000)) = 0 → Q (some (.int (-1))) h))) :
    w_c 5 112 [.ref 44, .int dd] h Q := by
  refine w_ci (M := (9, 4, mc_X9_vote)) rfl (Nat.le_of_ble_eq_true rfl) ?_
  show w_p _ _ 0 [(0, .ref 44), (1, .int dd)] [] h Q
  refine w_b 3 3 [(0, .ref 44), (1, .int dd)] [.ref 44, .long dd.toInt64] rfl ?_
  refine w_get (g := 588) rfl rfl rfl (kd_44 sh) ?_
  refine w_b 2 10 [(0, .ref 44), (1, .int dd)] [.long (Int64.ofNat 2000), .long ((h_oi h 588 44).toInt64), .long dd.toInt64] rfl ?_
  refine w_cs (As := [.long dd.toInt64, .long ((h_oi h 588 44).toInt64), .long (Int64.ofNat 2000)]) (rest := []) rfl rfl rfl (Nat.le_of_ble_eq_true rfl) (dc := 0) (by omega) (sp_in  ?_)
  show w_p _ _ 13 [(0, .ref 44), (1, .int dd)] [.int (f_in dd.toInt64 ((h_oi h 588 44).toInt64) (Int64.ofNat 2000))] h _
  refine w_if_ne (tgt := 18) (x := f_in dd.toInt64 ((h_oi h 588 44).toInt64) (Int64.ofNat 2000)) rfl (by decide) ⟨fun c1 => ?_, fun c1 => ?_⟩
  · have F := F.1 c1
    refine w_b 1 19 [(0, .ref 44), (1, .int dd)] [.ref 44] rfl ?_
    refine w_get (g := 585) rfl rfl rfl (kd_44 sh) ?_
    refine w_b 1 24 [(0, .ref 44), (1, .int dd)] [.int 6, .int (h_oi h 585 44)] rfl ?_
    refine w_ic_ne (tgt := 30) (x := h_oi h 585 44) (y := 6) rfl (by decide) ⟨fun c2 => ?_, fun c2 => ?_⟩
    · have F := F.1 c2
      refine w_b 2 32 [(0, .ref 44), (1, .int dd)] [.int 0, .ref 44] rfl ?_
      refine w_put (g := 582) (x := 0) rfl rfl rfl (kd_44 sh) (by decide) ?_
      refine w_b 2 37 [(0, .ref 44), (1, .int dd)] [.int 0, .ref 44] rfl ?_
      refine w_put (g := 578) (x := 0) rfl rfl rfl (kd_44 sh) (by decide) ?_
      refine w_b 2 42 [(2, .int 0), (0, .ref 44), (1, .int dd)] [] rfl ?_
      refine w_lo [0, 1, 2] [(0, .ref 44), (1, .int dd), (2, .int 0)] rfl rfl ?_
      exact k42 _ _ _ F
    · have F := F.2 (Decidable.not_not.mp c2)
      refine w_b 1 29 [(0, .ref 44), (1, .int dd)] [.int (-3)] rfl ?_
      exact w_ir rfl F
  · have F := F.2 (Decidable.not_not.mp c1)
    refine w_b 1 17 [(0, .ref 44), (1, .int dd)] [.int (-1)] rfl ?_
    exact w_ir rfl F

set_option maxRecDepth 20000 in
theorem t_X9_vote_42 {h : mm_H} {Q : Option Value → mm_H → Prop} (sh : s_h h) (dd : Int32) (x2 : Int32) {K42 : Int32 → Int32 → mm_H → Prop} (k42 : ∀ (dd : Int32) (x2 : Int32) (h : mm_H), K42 dd x2 h → w_p 5 (9, 4, mc_X9_vote) 42 [(0, .ref 44), (1, .int dd), (2, .int x2)] [] h Q) {K67 : Int32 → Int32 → mm_H → Prop} (k67 : ∀ (dd : Int32) (x2 : Int32) (h : mm_H), K67 dd x2 h → w_p 5 (9, 4, mc_X9_vote) 67 [(0, .ref 44), (1, .int dd), (2, .int x2)] [] h Q) 
    (F : ((5 ≤ x2 → w_c 3 110 [.ref 44] h (fun r h2 => r = none ∧ s_h h2 ∧ K67 dd 1 h2)) ∧ (¬ (5 ≤ x2) → (vp_in x2 5 ∧ K42 dd (x2 + 1) (h_sA h 46 x2.toNatClampNeg (-4)))))) :
    w_p 5 (9, 4, mc_X9_vote) 42 [(0, .ref 44), (1, .int dd), (2, .int x2)] [] h Q := by
  refine w_b 2 44 [(0, .ref 44), (1, .int dd), (2, .int x2)] [.int 5, .int x2] rfl ?_
  refine w_ic_ge (tgt := 61) (x := x2) (y := 5) rfl (by decide) ⟨fun c1 => ?_, fun c1 => ?_⟩
  · have F := F.1 c1
    refine w_b 1 62 [(0, .ref 44), (1, .int dd), (2, .int x2)] [.ref 44] rfl ?_
    refine w_cv (As := []) (b := 44) (rest := []) rfl rfl rfl (Nat.le_of_ble_eq_true rfl) (kd_44 sh) (fun z => absurd z (by decide)) (dc := 3) (by omega) (F.mono (fun r h2 F => ?_))
    obtain ⟨rfl, sh2, F⟩ := F
    show w_p _ _ 65 [(0, .ref 44), (1, .int dd), (2, .int x2)] [] h2 _
    refine w_b 2 67 [(2, .int 1), (0, .ref 44), (1, .int dd)] [] rfl ?_
    refine w_lo [0, 1, 2] [(0, .ref 44), (1, .int dd), (2, .int 1)] rfl rfl ?_
    exact k67 _ _ _ F
  · have F := F.2 c1
    refine w_b 1 48 [(0, .ref 44), (1, .int dd), (2, .int x2)] [.ref 44] rfl ?_
    refine w_getS (b := 46) rfl rfl rfl (kd_44 sh) (or_584_44 sh) ?_
    refine w_b 2 54 [(0, .ref 44), (1, .int dd), (2, .int x2)] [.int (-4), .int x2, .ref 46] rfl ?_
    obtain ⟨g3, F⟩ := F
    refine w_iast rfl (kd_46 sh) (by decide) (Eq.mpr (congrArg (vp_in x2) (al_46 sh)) g3) ?_
    refine w_b 2 42 [(2, .int (x2 + 1)), (0, .ref 44), (1, .int dd)] [] rfl ?_
    refine w_lo [0, 1, 2] [(0, .ref 44), (1, .int dd), (2, .int (x2 + 1))] rfl rfl ?_
    exact k42 _ _ _ F

set_option maxRecDepth 20000 in
theorem t_X9_vote_67 {h : mm_H} {Q : Option Value → mm_H → Prop} (sh : s_h h) (dd : Int32) (x2 : Int32) {K67 : Int32 → Int32 → mm_H → Prop} (k67 : ∀ (dd : Int32) (x2 : Int32) (h : mm_H), K67 dd x2 h → w_p 5 (9, 4, mc_X9_vote) 67 [(0, .ref 44), (1, .int dd), (2, .int x2)] [] h Q) {K130 : Int32 → Int32 → Int32 → mm_H → Prop} (k130 : ∀ (dd : Int32) (x2 : Int32) (x3 : Int32) (h : mm_H), K130 dd x2 x3 h → w_p 5 (9, 4, mc_X9_vote) 130 [(0, .ref 44), (1, .int dd), (2, .int x2), (3, .int x3)] [] h Q) 
    (F : ((x2 = 0 → (((h_oi h 582 44) ≤ 0 → (vp_in (h_oi h 585 44) 6 ∧ K130 dd x2 0 (h_sA (h_sI h 577 44 0) 47 ((h_oi h 585 44).toNatClampNeg) dd))) ∧ (¬ ((h_oi h 582 44) ≤ 0) → Q (some (.int ((-10 : Int32) - (h_oi h 583 44)))) (h_sI h 577 44 0)))) ∧ (¬ (x2 = 0) → ((¬ (h_oi h 582 44) = 0 → (((h_oi h 582 44) ≤ 0 → (vp_in (h_oi h 585 44) 6 ∧ K130 dd x2 0 (h_sA (h_sI h 577 44 0) 47 ((h_oi h 585 44).toNatClampNeg) dd))) ∧ (¬ ((h_oi h 582 44) ≤ 0) → Q (some (.int ((-10 : Int32) - (h_oi h 583 44)))) (h_sI h 577 44 0)))) ∧ ((h_oi h 582 44) = 0 → w_c 4 111 [.ref 44] h (fun r h7 => r = none ∧ s_h h7 ∧ (((h_oi h7 580 44) = 0 → K67 dd 0 h7) ∧ (¬ ((h_oi h7 580 44) = 0) → K67 dd 1 h7)))))))) :
    w_p 5 (9, 4, mc_X9_vote) 67 [(0, .ref 44), (1, .int dd), (2, .int x2)] [] h Q := by
  refine w_b 1 68 [(0, .ref 44), (1, .int dd), (2, .int x2)] [.int x2] rfl ?_
  refine w_if_eq (tgt := 98) (x := x2) rfl (by decide) ⟨fun c1 => ?_, fun c1 => ?_⟩
  · have F := F.1 c1
    refine w_b 2 100 [(0, .ref 44), (1, .int dd), (2, .int x2)] [.int 0, .ref 44] rfl ?_
    refine w_put (g := 577) (x := 0) rfl rfl rfl (kd_44 sh) (by decide) ?_
    refine w_b 1 104 [(0, .ref 44), (1, .int dd), (2, .int x2)] [.ref 44] rfl ?_
    refine w_get (g := 582) rfl rfl rfl (kd_44 sh) ?_
    refine w_if_le (tgt := 118) (x := h_oi h 582 44) rfl (by decide) ⟨fun c2 => ?_, fun c2 => ?_⟩
    · have F := F.1 c2
      refine w_b 1 119 [(0, .ref 44), (1, .int dd), (2, .int x2)] [.ref 44] rfl ?_
      refine w_getS (b := 47) rfl rfl rfl (kd_44 sh) (or_586_44 sh) ?_
      refine w_b 1 123 [(0, .ref 44), (1, .int dd), (2, .int x2)] [.ref 44, .ref 47] rfl ?_
      refine w_get (g := 585) rfl rfl rfl (kd_44 sh) ?_
      refine w_b 1 127 [(0, .ref 44), (1, .int dd), (2, .int x2)] [.int dd, .int (h_oi h 585 44), .ref 47] rfl ?_
      obtain ⟨g3, F⟩ := F
      refine w_iast rfl (kd_47 sh) (by decide) (Eq.mpr (congrArg (vp_in (h_oi h 585 44)) (al_47 sh)) g3) ?_
      refine w_b 2 130 [(3, .int 0), (0, .ref 44), (1, .int dd), (2, .int x2)] [] rfl ?_
      refine w_lo [0, 1, 2, 3] [(0, .ref 44), (1, .int dd), (2, .int x2), (3, .int 0)] rfl rfl ?_
      exact k130 _ _ _ _ F
    · have F := F.2 c2
      refine w_b 2 113 [(0, .ref 44), (1, .int dd), (2, .int x2)] [.ref 44, .int (-10)] rfl ?_
      refine w_get (g := 583) rfl rfl rfl (kd_44 sh) ?_
      refine w_b 1 117 [(0, .ref 44), (1, .int dd), (2, .int x2)] [.int ((-10 : Int32) - (h_oi h 583 44))] rfl ?_
      exact w_ir rfl F
  · have F := F.2 c1
    refine w_b 1 72 [(0, .ref 44), (1, .int dd), (2, .int x2)] [.ref 44] rfl ?_
    refine w_get (g := 582) rfl rfl rfl (kd_44 sh) ?_
    refine w_if_ne (tgt := 98) (x := h_oi h 582 44) rfl (by decide) ⟨fun c4 => ?_, fun c4 => ?_⟩
    · have F := F.1 c4
      refine w_b 2 100 [(0, .ref 44), (1, .int dd), (2, .int x2)] [.int 0, .ref 44] rfl ?_
      refine w_put (g := 577) (x := 0) rfl rfl rfl (kd_44 sh) (by decide) ?_
      refine w_b 1 104 [(0, .ref 44), (1, .int dd), (2, .int x2)] [.ref 44] rfl ?_
      refine w_get (g := 582) rfl rfl rfl (kd_44 sh) ?_
      refine w_if_le (tgt := 118) (x := h_oi h 582 44) rfl (by decide) ⟨fun c5 => ?_, fun c5 => ?_⟩
      · have F := F.1 c5
        refine w_b 1 119 [(0, .ref 44), (1, .int dd), (2, .int x2)] [.ref 44] rfl ?_
        refine w_getS (b := 47) rfl rfl rfl (kd_44 sh) (or_586_44 sh) ?_
        refine w_b 1 123 [(0, .ref 44), (1, .int dd), (2, .int x2)] [.ref 44, .ref 47] rfl ?_
        refine w_get (g := 585) rfl rfl rfl (kd_44 sh) ?_
        refine w_b 1 127 [(0, .ref 44), (1, .int dd), (2, .int x2)] [.int dd, .int (h_oi h 585 44), .ref 47] rfl ?_
        obtain ⟨g6, F⟩ := F
        refine w_iast rfl (kd_47 sh) (by decide) (Eq.mpr (congrArg (vp_in (h_oi h 585 44)) (al_47 sh)) g6) ?_
        refine w_b 2 130 [(3, .int 0), (0, .ref 44), (1, .int dd), (2, .int x2)] [] rfl ?_
        refine w_lo [0, 1, 2, 3] [(0, .ref 44), (1, .int dd), (2, .int x2), (3, .int 0)] rfl rfl ?_
        exact k130 _ _ _ _ F
      · have F := F.2 c5
        refine w_b 2 113 [(0, .ref 44), (1, .int dd), (2, .int x2)] [.ref 44, .int (-10)] rfl ?_
        refine w_get (g := 583) rfl rfl rfl (kd_44 sh) ?_
        refine w_b 1 117 [(0, .ref 44), (1, .int dd), (2, .int x2)] [.int ((-10 : Int32) - (h_oi h 583 44))] rfl ?_
        exact w_ir rfl F
    · have F := F.2 (Decidable.not_not.mp c4)
      refine w_b 1 79 [(0, .ref 44), (1, .int dd), (2, .int x2)] [.ref 44] rfl ?_
      refine w_cv (As := []) (b := 44) (rest := []) rfl rfl rfl (Nat.le_of_ble_eq_true rfl) (kd_44 sh) (fun z => absurd z (by decide)) (dc := 4) (by omega) (F.mono (fun r h7 F => ?_))
      obtain ⟨rfl, sh7, F⟩ := F
      show w_p _ _ 82 [(0, .ref 44), (1, .int dd), (2, .int x2)] [] h7 _
      refine w_b 1 83 [(0, .ref 44), (1, .int dd), (2, .int x2)] [.ref 44] rfl ?_
      refine w_get (g := 580) rfl rfl rfl (kd_44 sh7) ?_
      refine w_if_eq (tgt := 93) (x := h_oi h7 580 44) rfl (by decide) ⟨fun c8 => ?_, fun c8 => ?_⟩
      · have F := F.1 c8
        refine w_b 3 67 [(2, .int 0), (0, .ref 44), (1, .int dd)] [] rfl ?_
        refine w_lo [0, 1, 2] [(0, .ref 44), (1, .int dd), (2, .int 0)] rfl rfl ?_
        exact k67 _ _ _ F
      · have F := F.2 c8
        refine w_b 4 67 [(2, .int 1), (0, .ref 44), (1, .int dd)] [] rfl ?_
        refine w_lo [0, 1, 2] [(0, .ref 44), (1, .int dd), (2, .int 1)] rfl rfl ?_
        exact k67 _ _ _ F

set_option maxRecDepth 20000 in
theorem t_X9_vote_130 {h : mm_H} {Q : Option Value → mm_H → Prop} (sh : s_h h) (dd : Int32) (x2 : Int32) (x3 : Int32) {K130 : Int32 → Int32 → Int32 → mm_H → Prop} (k130 : ∀ (dd : Int32) (x2 : Int32) (x3 : Int32) (h : mm_H), K130 dd x2 x3 h → w_p 5 (9, 4, mc_X9_vote) 130 [(0, .ref 44), (1, .int dd), (2, .int x2), (3, .int x3)] [] h Q) 
    (F : ((5 ≤ x3 → w_c 2 119 [.ref 44] (h_sI h 585 44 ((h_oi h 585 44) + 1)) (fun r h2 => r = none ∧ s_h h2 ∧ Q (some (.int ((h_oi h2 585 44) - (1 : Int32)))) h2)) ∧ (¬ (5 ≤ x3) → (vp_in x3 5 ∧ (vp_in (((5 : Int32) * (h_oi h 585 44)) + x3) 30 ∧ K130 dd x2 (x3 + 1) (h_sA h 48 ((((5 : Int32) * (h_oi h 585 44)) + x3).toNatClampNeg) (h_ai h 46 x3.toNatClampNeg))))))) :
    w_p 5 (9, 4, mc_X9_vote) 130 [(0, .ref 44), (1, .int dd), (2, .int x2), (3, .int x3)] [] h Q := by
  refine w_b 2 132 [(0, .ref 44), (1, .int dd), (2, .int x2), (3, .int x3)] [.int 5, .int x3] rfl ?_
  refine w_ic_ge (tgt := 160) (x := x3) (y := 5) rfl (by decide) ⟨fun c1 => ?_, fun c1 => ?_⟩
  · have F := F.1 c1
    refine w_b 2 162 [(0, .ref 44), (1, .int dd), (2, .int x2), (3, .int x3)] [.ref 44, .ref 44] rfl ?_
    refine w_get (g := 585) rfl rfl rfl (kd_44 sh) ?_
    refine w_b 2 167 [(0, .ref 44), (1, .int dd), (2, .int x2), (3, .int x3)] [.int ((h_oi h 585 44) + 1), .ref 44] rfl ?_
    refine w_put (g := 585) (x := (h_oi h 585 44) + 1) rfl rfl rfl (kd_44 sh) (by decide) ?_
    refine w_b 1 171 [(0, .ref 44), (1, .int dd), (2, .int x2), (3, .int x3)] [.ref 44] rfl ?_
    refine w_cv (As := []) (b := 44) (rest := []) rfl rfl rfl (Nat.le_of_ble_eq_true rfl) (kd_44 sh) (fun z => absurd z (by decide)) (dc := 2) (by omega) (F.mono (fun r h2 F => ?_))
    obtain ⟨rfl, sh2, F⟩ := F
    show w_p _ _ 174 [(0, .ref 44), (1, .int dd), (2, .int x2), (3, .int x3)] [] h2 _
    refine w_b 1 175 [(0, .ref 44), (1, .int dd), (2, .int x2), (3, .int x3)] [.ref 44] rfl ?_
    refine w_get (g := 585) rfl rfl rfl (kd_44 sh2) ?_
    refine w_b 2 180 [(0, .ref 44), (1, .int dd), (2, .int x2), (3, .int x3)] [.int ((h_oi h2 585 44) - (1 : Int32))] rfl ?_
    exact w_ir rfl F
  · have F := F.2 c1
    refine w_b 1 136 [(0, .ref 44), (1, .int dd), (2, .int x2), (3, .int x3)] [.ref 44] rfl ?_
    refine w_getS (b := 48) rfl rfl rfl (kd_44 sh) (or_587_44 sh) ?_
    refine w_b 2 141 [(0, .ref 44), (1, .int dd), (2, .int x2), (3, .int x3)] [.ref 44, .int 5, .ref 48] rfl ?_
    refine w_get (g := 585) rfl rfl rfl (kd_44 sh) ?_
    refine w_b 4 148 [(0, .ref 44), (1, .int dd), (2, .int x2), (3, .int x3)] [.ref 44, .int (((5 : Int32) * (h_oi h 585 44)) + x3), .ref 48] rfl ?_
    refine w_getS (b := 46) rfl rfl rfl (kd_44 sh) (or_584_44 sh) ?_
    refine w_b 1 152 [(0, .ref 44), (1, .int dd), (2, .int x2), (3, .int x3)] [.int x3, .ref 46, .int (((5 : Int32) * (h_oi h 585 44)) + x3), .ref 48] rfl ?_
    obtain ⟨g3, F⟩ := F
    refine w_iald rfl (kd_46 sh) (Eq.mpr (congrArg (vp_in x3) (al_46 sh)) g3) ?_
    obtain ⟨g4, F⟩ := F
    refine w_iast rfl (kd_48 sh) (by decide) (Eq.mpr (congrArg (vp_in (((5 : Int32) * (h_oi h 585 44)) + x3)) (al_48 sh)) g4) ?_
    refine w_b 2 130 [(3, .int (x3 + 1)), (0, .ref 44), (1, .int dd), (2, .int x2)] [] rfl ?_
    refine w_lo [0, 1, 2, 3] [(0, .ref 44), (1, .int dd), (2, .int x2), (3, .int (x3 + 1))] rfl rfl ?_
    exact k130 _ _ _ _ F

/-! VOTES -/
def x_add (X : zX) (d : Nat) (L : Nat → Option Nat) : zX := (X.1 + 1, va_up X.2.1 X.1 d, va_up X.2.2 X.1 L)
def zVk (dy : Nat) (dd : Int32) : Prop := nI dy ≤ dd ∧ dd ≤ 2000
theorem zVk_n {dy : Nat} {dd : Int32} (hd : dy ≤ 2000) (h : zVk dy dd) : ∃ j, dd = nI j ∧ dy ≤ j ∧ j ≤ 2000 := by
  have h1 := (fa_le _ _).mp h.1
  rw [nI_toInt (by omega)] at h1
  obtain ⟨j, hj, rfl⟩ := nat_of (x := dd) (fun z => by
    have z := (fa_lt _ _).mp z
    have e0 : (0 : Int32).toInt = 0 := rfl
    omega)
  exact ⟨j, rfl, (i_le (by omega) hj).mp h.1, (i_le (b := 2000) hj (by decide)).mp h.2⟩
theorem xC.add {X : zX} {d : Nat} {L : Nat → Option Nat} (hX : xC X.1 X.2.1 X.2.2) (h6 : X.1 < 6) (hd : d ≤ 2000) (hL : ∀ k v, L k = some v → k < 5 ∧ v ≤ 400) : xC (x_add X d L).1 (x_add X d L).2.1 (x_add X d L).2.2 := by
  refine ⟨h6, fun i hi => ?_⟩
  have hi : i < X.1 + 1 := hi
  show va_up X.2.1 X.1 d i ≤ 2000 ∧ ∀ k, k < 5 → ∀ v, va_up X.2.2 X.1 L i k = some v → v ≤ 400
  by_cases z : i = X.1
  · rw [z, va_up_self, va_up_self]
    exact ⟨hd, fun k _ v e => (hL k v e).2⟩
  · rw [va_up_ne _ _ z, va_up_ne _ _ z]
    exact hX.2 i (by omega)
set_option maxHeartbeats 1000000 in
theorem c_add {h : mm_H} {Q : Option Value → mm_H → Prop} {X : zX} {d : Nat} {L : Nat → Option Nat} (sh : s_h h) (K : cX h X.1 X.2.1 X.2.2) (HL : cLw h L) (h6 : X.1 < 6) (hd : d ≤ 2000) (hL : ∀ k v, L k = some v → k < 5 ∧ v ≤ 400) (k : ∀ h', fx h h' [(66, 21)] [22, 24, 25, 26, 27, 28, 29] → dn h h' → cX h' (x_add X d L).1 (x_add X d L).2.1 (x_add X d L).2.2 → Q (some (.int (nI X.1))) h') : w_c 1 7 [.ref 21, .int (nI d), .ref 20] h Q := by
  obtain ⟨x1, x2, x3⟩ := id K
  have mem : 24 + X.1 ∈ [22, 24, 25, 26, 27, 28, 29] := by
    have : X.1 = 0 ∨ X.1 = 1 ∨ X.1 = 2 ∨ X.1 = 3 ∨ X.1 = 4 ∨ X.1 = 5 := by omega
    rcases this with e | e | e | e | e | e <;> rw [e] <;> decide
  have loop : ∀ w i, i + w = 5 → ∀ h1, fx h h1 [(66, 21)] [22, 24, 25, 26, 27, 28, 29] → dn h h1 → h_oi h1 66 21 = nI X.1 → h_ai h1 22 = va_up (h_ai h 22) X.1 (nI d) → (∀ j, j < 6 → j ≠ X.1 → h_ai h1 (24 + j) = h_ai h (24 + j)) → (∀ j, j < i → h_ai h1 (24 + X.1) j = tW (-1) (L j)) → w_p 1 (1, 4, mc_X1_add) 22 [(0, .ref 21), (1, .int (nI d)), (2, .ref 20), (3, .int (nI i))] [] h1 Q := by
    intro w
    induction w with
    | zero =>
      intro i hi h1 f d1 t1 t2 t3 t4
      have e : i = 5 := by omega
      subst e
      refine t_X1_add_22 (f.sh sh (by decide)) _ _ (K22 := fun _ _ _ => False) (fun _ _ _ z => z.elim) ⟨fun _ => ?_, fun z => absurd (show (5 : Int32) ≤ nI 5 from (i_le (a := 5) (b := 5) (by decide) (by decide)).mpr (Nat.le_refl _)) z⟩
      rw [t1, nI_1, nI_sub1 (by omega), Nat.add_sub_cancel]
      refine k _ (f.sI _ (Or.inl (by decide))) (d1.sI _ (by decide)) ⟨xC.add x1 h6 hd hL, oi_self _ _ _ _, fun j hj => ?_⟩
      have hj : j < X.1 + 1 := hj
      show h_ai h1 22 j = nI (va_up X.2.1 X.1 d j) ∧ ∀ k, k < 5 → h_ai h1 (24 + j) k = tW (-1) (va_up X.2.2 X.1 L j k)
      rw [t2]
      by_cases z : j = X.1
      · rw [z, va_up_self, va_up_self, va_up_self]
        exact ⟨rfl, t4⟩
      · rw [va_up_ne _ _ z, va_up_ne _ _ z, va_up_ne _ _ z, t3 j (by omega) z]
        exact x3 j (by omega)
    | succ w ih =>
      intro i hi h1 f d1 t1 t2 t3 t4
      have sh1 := f.sh sh (by decide)
      obtain ⟨r1, r2⟩ := in_row sh1 h6
      have vi : vp_in (nI i) 5 := vp_in_nI (by omega) (by decide)
      have e20 : h_ai h1 20 i = tW (-1) (L i) := by rw [f.ai 20 (by decide) (by decide)]; exact HL i (by omega)
      refine t_X1_add_22 sh1 _ _ (K22 := fun y1 y2 hh => y1 = nI d ∧ y2 = nI (i + 1) ∧ hh = h_sA h1 (24 + X.1) i (tW (-1) (L i))) (fun y1 y2 hh z => ?_) ⟨fun z => ?_, fun _ => ⟨fun z => ?_, fun _ => ?_⟩⟩
      · obtain ⟨rfl, rfl, rfl⟩ := z
        refine ih (i + 1) (by omega) _ (f.sA _ _ (Or.inl mem)) (d1.sA _ _ (by omega)) t1 ((ai_ne (by omega)).trans t2) (fun j hj hne => (ai_ne (by omega)).trans (t3 j hj hne)) (fun j hj => ?_)
        rw [ai_self]
        by_cases z : j = i
        · rw [z, va_up_self]
        · rw [va_up_ne _ _ z]; exact t4 j (by omega)
      · have := (i_le (a := 5) (by decide) (by omega)).mp z
        omega
      · have := (i_le (a := 5) (by decide) (by omega)).mp z
        omega
      · rw [t1, i_cl (a := i) (by omega), i_cl (a := X.1) (by omega), e20]
        exact ⟨vp_in_nI h6 (by decide), vi, 24 + X.1, ar_23 sh1 h6, r1, by rw [r2]; exact vi, by omega, rfl, nI_1 i, rfl⟩
  refine t_X1_add_0 sh _ (K22 := fun y1 y2 hh => y1 = nI d ∧ y2 = nI 0 ∧ hh = h_sA h 22 X.1 (nI d)) (fun y1 y2 hh z => ?_) ((t_X1_isFull_0 sh ?_).up (by decide))
  · obtain ⟨rfl, rfl, rfl⟩ := z
    exact loop 5 0 (by omega) _ ((fx.rf _ _ _).sA _ _ (Or.inl (by decide))) ((dn.rf _).sA _ _ (by decide)) x2 (ai_self _ _ _ _) (fun j hj _ => ai_ne (by omega)) (fun j hj => absurd hj (Nat.not_lt_zero _))
  · rw [x2]
    refine ⟨fun _ => ⟨_, rfl, sh, fun _ => ?_, fun z => absurd rfl z⟩, fun z => absurd ((i_lt (b := 6) (by omega) (by decide)).mpr h6) z⟩
    rw [i_cl (by omega)]
    exact ⟨vp_in_nI h6 (by decide), rfl, rfl, rfl⟩
set_option maxHeartbeats 1000000 in
theorem c_vote {h : mm_H} {Q : Option Value → mm_H → Prop} {own cap : Nat → Nat} {T : zT} {X : zX} {dy W : Nat} {ft : Int32} {F : zF} {A O : zV} {N : zN} {C : zC} {H : zH} (sh : s_h h) (K : CS h own cap T X dy ft F A O N C H) (Z : zP W cap F A O N H) (dd : Int32) (k0 : ¬ zVk dy dd → Q (some (.int (-1))) h) (k1 : zVk dy dd → X.1 = 6 → Q (some (.int (-3))) h) (k2 : zVk dy dd → X.1 < 6 → ¬ (zRd T 6).1.1 = 0 → ∀ h', CS h' own cap (0, T.2) X dy (nI (zRd T 6).1.1) F A O N C H → fC h h' → rm h h' → Q (some (.int ((-10) - nI (zRd T 6).1.2))) h') (k3 : ∀ j, dd = nI j → dy ≤ j → j ≤ 2000 → X.1 < 6 → (zRd T 6).1.1 = 0 → ∀ h', CS h' own cap (0, T.2) (x_add X j (zRd T 6).2.1) dy 0 F A O (n_exp (zBx (x_add X j (zRd T 6).2.1) dy) N) (c_exps (zBx (x_add X j (zRd T 6).2.1) dy) F N C) H → fC h h' → rm h h' → Q (some (.int (nI X.1))) h') : w_c 26 64 [.ref 16, .int dd] h Q := by
  obtain ⟨c1, c2, c3, c4, c5, c6, c7, c8, c9, c10⟩ := id K
  have hd := c3.1
  have x6 := c2.1.1
  refine t_X8_vote_0 sh _ ?_
  rw [c3.2]
  refine ⟨fun z => k0 (fun y => (fa_of_lt z).2.1 y.1), fun z => ⟨fun z2 => ?_, fun z2 => k0 (fun y => z2 y.2)⟩⟩
  have vk : zVk dy dd := ⟨fa_of_nlt z, z2⟩
  refine (t_X1_isFull_0 sh ?_).up (by decide)
  rw [c2.2.1, show ((nI X.1 : Int32) < 6) = (nI X.1 < nI 6) from rfl, i_lt (by omega) (by decide)]
  refine ⟨fun h6 => ⟨_, rfl, sh, fun _ => ?_, fun y => absurd rfl y⟩, fun h6 => ⟨_, rfl, sh, fun y => absurd y (by decide), fun _ => k1 vk (by omega)⟩⟩
  refine c_read sh c1 (fun h1 f1 d1 R => ⟨rfl, f1.sh sh (by decide), ?_⟩)
  have sh1 := f1.sh sh (by decide)
  have K1 : CS h1 own cap T X dy ft F A O N C H := K.sc (f1.wk (by decide) (by decide)) d1
  have fc1 : fC h h1 := f1.wk (by decide) (by decide)
  have step : ∀ x : Nat, CS (h_sI (h_sI h1 385 17 0) 522 16 (nI x)) own cap (0, T.2) X dy (nI x) F A O N C H ∧ fC h1 (h_sI (h_sI h1 385 17 0) 522 16 (nI x)) := fun x => by
    have f2 : fx h1 (h_sI (h_sI h1 385 17 0) 522 16 (nI x)) [(385, 17), (522, 16)] [] := ((fx.rf _ _ _).sI _ (Or.inl (by decide))).sI _ (Or.inl (by decide))
    have d2 : dn h1 (h_sI (h_sI h1 385 17 0) 522 16 (nI x)) := ((dn.rf _).sI _ (by decide)).sI _ (by decide)
    obtain ⟨g1, g2, g3, g4, g5, g6, g7, g8, g9, g10⟩ := K1
    exact ⟨⟨⟨Nat.zero_le _, (oi_neG (by decide) _).trans (oi_self _ _ _ _), fun i hi => absurd hi (Nat.not_lt_zero _)⟩, g2.fx f2 (by decide) (by decide) (by decide), g3.fx f2 (by decide), oi_self _ _ _ _, g5.dn f2 d2 (by decide) (by decide), g6.fx f2 (by decide) (by decide) (by decide) (by decide) (by decide), g7.fx f2 (by decide) (by decide) (by decide) (by decide) (by decide), g8.dn f2 d2 (by decide), g9.fx f2 (by decide) (by decide) (by decide), g10.dn f2 d2 (by decide)⟩, f2.wk (by decide) (by decide)⟩
  rcases R with ⟨r0, To, Lw⟩ | ⟨rx, e1, e2⟩
  · obtain ⟨j, ej, hj1, hj2⟩ := zVk_n hd vk
    obtain ⟨-, -, o3⟩ := zRd_ok T 6 r0
    rw [To.2.1]
    refine ⟨fun _ => ?_, fun y => absurd rfl y⟩
    obtain ⟨K2, f2⟩ := step 0
    have K2 : CS (h_sI (h_sI h1 385 17 0) 522 16 0) own cap (0, T.2) X dy 0 F A O N C H := K2
    have f2 : fC h1 (h_sI (h_sI h1 385 17 0) 522 16 0) := f2
    have sh2 := f2.sh sh1
    have Lw2 : cLw (h_sI (h_sI h1 385 17 0) 522 16 0) (zRd T 6).2.1 := Lw
    have r2 : rm h1 (h_sI (h_sI h1 385 17 0) 522 16 0) := ⟨rfl, rfl⟩
    generalize (h_sI (h_sI h1 385 17 0) 522 16 0) = h2 at K2 f2 sh2 Lw2 r2 ⊢
    rw [ej]
    refine (c_add sh2 K2.2.1 Lw2 h6 hj2 o3 (fun h3 f3 d3 X3 => ⟨_, rfl, f3.sh sh2 (by decide), ?_⟩)).up (by decide)
    have sh3 := f3.sh sh2 (by decide)
    have K3 : CS h3 own cap (0, T.2) (x_add X j (zRd T 6).2.1) dy 0 F A O N C H := by
      obtain ⟨g1, g2, g3, g4, g5, g6, g7, g8, g9, g10⟩ := K2
      exact ⟨g1.fx f3 (by decide) (by decide), X3, g3.fx f3 (by decide), g4.fx f3 (by decide), g5.dn f3 d3 (by decide) (by decide), g6.fx f3 (by decide) (by decide) (by decide) (by decide) (by decide), g7.fx f3 (by decide) (by decide) (by decide) (by decide) (by decide), g8.dn f3 d3 (by decide), g9.fx f3 (by decide) (by decide) (by decide), g10.dn f3 d3 (by decide)⟩
    have fc3 : fC h2 h3 := f3.wk (by decide) (by decide)
    refine (c_exp sh3 K3 Z (fun h4 K4 f4 r4 => ⟨rfl, f4.sh sh3, k3 j ej hj1 hj2 h6 r0 h4 K4 (fc1.tr (f2.tr (fc3.tr f4))) ⟨((r4.1.trans d3.1).trans r2.1).trans d1.1, ((r4.2.trans d3.2.1).trans r2.2).trans d1.2.1⟩⟩)).up (by decide)
  · have nz : ¬ nI (zRd T 6).1.1 = 0 := fun y => by have := (nI_eqI (b := 0) (by omega) (by decide)).mp y; omega
    rw [e1, e2]
    refine ⟨fun y => absurd y nz, fun _ => ?_⟩
    obtain ⟨K2, f2⟩ := step (zRd T 6).1.1
    exact k2 vk h6 (by omega) _ K2 (fc1.tr f2) ⟨d1.1, d1.2.1⟩
theorem e5 (f d : Nat) : (5 : Int32) * nI f + nI d = nI (5 * f + d) := by rw [show (5 : Int32) = nI 5 from rfl, pk_mul, nI_add]
set_option maxHeartbeats 1000000 in
theorem m_vote {h : mm_H} {Q : Option Value → mm_H → Prop} {cap : Nat → Nat} {T : zT} {X : zX} {dy cl W : Nat} {ft : Int32} {F : zF} {A O : zV} {N : zN} {C : zC} {H : zH} (sh : s_h h) (K : MS h cl T X dy ft F A O N C H) (Z : zP W cap F A O N H) (dd : Int32) (k0 : ¬ zVk dy dd → Q (some (.int (-1))) h) (k1 : zVk dy dd → X.1 = 6 → Q (some (.int (-3))) h) (k2 : zVk dy dd → X.1 < 6 → ¬ (zRd T 6).1.1 = 0 → ∀ h', MS h' cl (0, T.2) X dy (nI (zRd T 6).1.1) F A O N C H → fM h h' → Q (some (.int ((-10) - nI (zRd T 6).1.2))) h') (k3 : ∀ j, dd = nI j → dy ≤ j → j ≤ 2000 → X.1 < 6 → (zRd T 6).1.1 = 0 → ∀ h' cl', MS h' cl' (0, T.2) (x_add X j (zRd T 6).2.1) dy 0 F A O (n_exp (zBx (x_add X j (zRd T 6).2.1) dy) N) (c_exps (zBx (x_add X j (zRd T 6).2.1) dy) F N C) H → fM h h' → Q (some (.int (nI X.1))) h') : w_c 5 112 [.ref 44, .int dd] h Q := by
  have md := K.d
  obtain ⟨c1, c2, c3, c4, c5, c6, c7, c8, c9, c10, c11, c12⟩ := id K
  have hd := md.1
  have x6 := c2.1.1
  obtain ⟨x1, x2, x3⟩ := id c2
  have inr : (¬ f_in dd.toInt64 ((nI dy).toInt64) (Int64.ofNat 2000) = 0) ↔ zVk dy dd := by
    rw [wL dy (by omega)]
    exact f_in_nz (by omega) (by decide)
  -- the frame of what is read
  have base : ∀ {h1 : mm_H}, fx h h1 (gMR ++ [(577, 44)]) [46, 47, 48] → mX h1 X.1 X.2.1 X.2.2 → h_oi h1 577 44 = nI 0 → ∀ x, h_oi h1 582 44 = nI x → MS h1 cl (0, T.2) X dy (nI x) F A O N C H := fun f g2 g577 x g582 =>
    ⟨⟨Nat.zero_le _, g577, fun i hi => absurd hi (Nat.not_lt_zero _)⟩, g2, g582, c4.fx f (by decide) (by decide), c5.fx f (by decide) (by decide) (by decide) (by decide) (by decide), c6.fx f (by decide) (by decide) (by decide) (by decide) (by decide), c7.fx f (by decide) (by decide) (by decide), c8.fx f (by decide), c9.fx f (by decide) (by decide) (by decide), c10.fx f (by decide) (by decide) (by decide), c11.fx f (by decide) (by decide) (by decide), c12.fx f (by decide)⟩
  have exit : zVk dy dd → X.1 < 6 → ∀ h1, fx h h1 gMR [46] → dn h h1 → mRd h1 (zRd T 6) → ∀ x2, ((h_oi h1 582 44 ≤ 0 → (vp_in (h_oi h1 585 44) 6 ∧ w_p 5 (9, 4, mc_X9_vote) 130 [(0, .ref 44), (1, .int dd), (2, .int x2), (3, .int (nI 0))] [] (h_sA (h_sI h1 577 44 0) 47 ((h_oi h1 585 44).toNatClampNeg) dd) Q)) ∧ (¬ (h_oi h1 582 44 ≤ 0) → Q (some (.int ((-10 : Int32) - (h_oi h1 583 44)))) (h_sI h1 577 44 0))) := by
    intro vk h6 h1 f d R y2
    have sh1 := f.sh sh (by decide)
    have f2 : fx h (h_sI h1 577 44 0) (gMR ++ [(577, 44)]) [46] := (f.wk (by decide) (by decide)).sI _ (Or.inl (by decide))
    rcases R with ⟨r0, To, Lw⟩ | ⟨rx, e1, e2⟩
    rotate_left
    · have nz : ¬ nI (zRd T 6).1.1 ≤ 0 := fun y => by have := (i_le (b := 0) (by omega) (by decide)).mp y; omega
      rw [e1, e2]
      refine ⟨fun y => absurd y nz, fun _ => k2 vk h6 (by omega) _ (base (f2.wk (by decide) (by decide)) (c2.fx f2 (by decide) (by decide) (by decide)) (oi_self _ _ _ _) _ ((oi_neG (by decide) _).trans e1)) ⟨f2.wk (by decide) (by decide), d.sI _ (by decide)⟩⟩
    obtain ⟨j, ej, hj1, hj2⟩ := zVk_n hd vk
    obtain ⟨-, -, o3⟩ := zRd_ok T 6 r0
    have t585 : h_oi h1 585 44 = nI X.1 := (f.oi _ _ (by decide) (by decide)).trans x2
    have loop : ∀ w i, i + w = 5 → ∀ h2, fx h h2 (gMR ++ [(577, 44)]) [46, 47, 48] → dn h h2 → h_oi h2 585 44 = nI X.1 → h_oi h2 577 44 = nI 0 → h_oi h2 582 44 = nI 0 → h_ai h2 47 = va_up (h_ai h 47) X.1 (nI j) → mLw h2 (zRd T 6).2.1 → (∀ t, t < 30 → h_ai h2 48 t = if 5 * X.1 ≤ t ∧ t < 5 * X.1 + i then tW (-4) ((zRd T 6).2.1 (t - 5 * X.1)) else h_ai h 48 t) → w_p 5 (9, 4, mc_X9_vote) 130 [(0, .ref 44), (1, .int dd), (2, .int y2), (3, .int (nI i))] [] h2 Q := by
      intro w
      induction w with
      | zero =>
        intro i hi h2 f3 d3 g1 g2 g3 g4 g5 g6
        have e : i = 5 := by omega
        subst e
        have sh2 := f3.sh sh (by decide)
        refine t_X9_vote_130 sh2 _ _ _ (K130 := fun _ _ _ _ => False) (fun _ _ _ _ z => z.elim) ⟨fun _ => ?_, fun z => absurd (show (5 : Int32) ≤ nI 5 from (i_le (a := 5) (b := 5) (by decide) (by decide)).mpr (Nat.le_refl _)) z⟩
        rw [g1, nI_1]
        have f4 : fx h (h_sI h2 585 44 (nI (X.1 + 1))) ((585, 44) :: (gMR ++ [(577, 44)])) [46, 47, 48] := (f3.wk (by decide) (by decide)).sI _ (Or.inl (by decide))
        have d4 : dn h (h_sI h2 585 44 (nI (X.1 + 1))) := d3.sI _ (by decide)
        have sh4 := f4.sh sh (by decide)
        have mx : mX (h_sI h2 585 44 (nI (X.1 + 1))) (x_add X j (zRd T 6).2.1).1 (x_add X j (zRd T 6).2.1).2.1 (x_add X j (zRd T 6).2.1).2.2 := by
          refine ⟨xC.add x1 h6 hj2 o3, oi_self _ _ _ _, fun i hi => ?_⟩
          have hi : i < X.1 + 1 := hi
          show h_ai h2 47 i = nI (va_up X.2.1 X.1 j i) ∧ ∀ k, k < 5 → h_ai h2 48 (5 * i + k) = tW (-4) (va_up X.2.2 X.1 (zRd T 6).2.1 i k)
          rw [g4]
          by_cases z : i = X.1
          · rw [z, va_up_self, va_up_self, va_up_self]
            refine ⟨rfl, fun k hk => ?_⟩
            rw [g6 _ (by omega), if_pos (by omega), Nat.add_sub_cancel_left]
          · rw [va_up_ne _ _ z, va_up_ne _ _ z, va_up_ne _ _ z]
            refine ⟨(x3 i (by omega)).1, fun k hk => ?_⟩
            rw [g6 _ (by omega), if_neg (by omega)]
            exact (x3 i (by omega)).2 k hk
        have K4 : MS (h_sI h2 585 44 (nI (X.1 + 1))) cl (0, T.2) (x_add X j (zRd T 6).2.1) dy 0 F A O N C H := ⟨⟨Nat.zero_le _, (oi_neG (by decide) _).trans g2, fun i hi => absurd hi (Nat.not_lt_zero _)⟩, mx, (oi_neG (by decide) _).trans g3, c4.fx f4 (by decide) (by decide), c5.fx f4 (by decide) (by decide) (by decide) (by decide) (by decide), c6.fx f4 (by decide) (by decide) (by decide) (by decide) (by decide), c7.fx f4 (by decide) (by decide) (by decide), c8.fx f4 (by decide), c9.fx f4 (by decide) (by decide) (by decide), c10.fx f4 (by decide) (by decide) (by decide), c11.fx f4 (by decide) (by decide) (by decide), c12.fx f4 (by decide)⟩
        have fm4 : fM h (h_sI h2 585 44 (nI (X.1 + 1))) := ⟨f4.wk (by decide) (by decide), d4⟩
        refine (m_exp sh4 K4 Z (fun h5 cl5 K5 f5 => ⟨rfl, f5.sh sh4, ?_⟩)).up (by decide)
        rw [show h_oi h5 585 44 = nI (X.1 + 1) from K5.2.1.2.1, nI_sub1 (by omega), Nat.add_sub_cancel]
        exact k3 j ej hj1 hj2 h6 r0 h5 cl5 K5 (fm4.tr f5)
      | succ w ih =>
        intro i hi h2 f3 d3 g1 g2 g3 g4 g5 g6
        have sh2 := f3.sh sh (by decide)
        refine t_X9_vote_130 sh2 _ _ _ (K130 := fun y1 y3 y4 hh => y1 = dd ∧ y3 = y2 ∧ y4 = nI (i + 1) ∧ hh = h_sA h2 48 (5 * X.1 + i) (tW (-4) ((zRd T 6).2.1 i))) (fun y1 y3 y4 hh z => ?_) ⟨fun z => ?_, fun _ => ?_⟩
        · obtain ⟨rfl, rfl, rfl, rfl⟩ := z
          refine ih (i + 1) (by omega) _ (f3.sA _ _ (Or.inl (by decide))) (d3.sA _ _ (by decide)) g1 g2 g3 ((ai_ne (by decide)).trans g4) (fun k hk => by rw [ai_ne (by decide)]; exact g5 k hk) (fun t ht => ?_)
          rw [ai_self]
          by_cases z : t = 5 * X.1 + i
          · rw [z, va_up_self, if_pos (by omega), Nat.add_sub_cancel_left]
          · rw [va_up_ne _ _ z, g6 t ht]
            by_cases y : 5 * X.1 ≤ t ∧ t < 5 * X.1 + i
            · rw [if_pos y, if_pos (by omega)]
            · rw [if_neg y, if_neg (by omega)]
        · have := (i_le (a := 5) (by decide) (by omega)).mp z
          omega
        · rw [g1, e5, i_cl (a := 5 * X.1 + i) (by omega), i_cl (a := i) (by omega), g5 i (by omega)]
          exact ⟨vp_in_nI (by omega) (by decide), vp_in_nI (by omega) (by decide), rfl, rfl, nI_1 i, rfl⟩
    rw [To.2.1, t585, i_cl (by omega)]
    refine ⟨fun _ => ⟨vp_in_nI h6 (by decide), ?_⟩, fun y => absurd (by decide) y⟩
    refine loop 5 0 (by omega) _ ((f2.wk (by decide) (by decide)).sA _ _ (Or.inl (by decide))) ((d.sI _ (by decide)).sA _ _ (by decide)) ((show h_oi (h_sI h1 577 44 0) 585 44 = _ from oi_neG (by decide) _).trans t585) (show h_oi (h_sI h1 577 44 0) 577 44 = _ from oi_self _ _ _ _) ((show h_oi (h_sI h1 577 44 0) 582 44 = _ from oi_neG (by decide) _).trans To.2.1) ?_ (fun k hk => ?_) (fun t ht => ?_)
    · rw [ai_self, ej]
      show va_up (h_ai h1 47) X.1 (nI j) = _
      rw [f.ai 47 (by decide) (by decide)]
    · rw [ai_ne (by decide)]; exact Lw k hk
    · rw [ai_ne (by decide), if_neg (by omega)]
      show h_ai h1 48 t = _
      rw [f.ai 48 (by decide) (by decide)]
  have rdl : zVk dy dd → X.1 < 6 → ∀ w i, i + w = 6 → ∀ h1 x2, fx h h1 gMR [46] → dn h h1 → mRd h1 (zRd T i) → ((zRd T i).1.1 = 0 → (x2 = 0 ↔ zDn T i)) → w_p 5 (9, 4, mc_X9_vote) 67 [(0, .ref 44), (1, .int dd), (2, .int x2)] [] h1 Q := by
    intro vk h6 w
    induction w with
    | zero =>
      intro i hi h1 y2 f d R hx
      have dnn : zDn T i := Classical.byContradiction (fun y => by have := zDn_6 T y; omega)
      have e6 : i = 6 := by omega
      subst e6
      have F := exit vk h6 h1 f d R
      refine t_X9_vote_67 (f.sh sh (by decide)) _ _ (K67 := fun _ _ _ => False) (fun _ _ _ z => z.elim) (K130 := fun y1 y3 y4 hh => w_p 5 (9, 4, mc_X9_vote) 130 [(0, .ref 44), (1, .int y1), (2, .int y3), (3, .int y4)] [] hh Q) (fun _ _ _ _ z => z) ⟨fun z => F y2, fun z => ⟨fun z2 => F y2, fun z2 => ?_⟩⟩
      exfalso
      rcases R with ⟨r0, To, Lw⟩ | ⟨rx, e1, e2⟩
      · exact z ((hx r0).mpr dnn)
      · rw [e1] at z2
        have := (nI_eqI (b := 0) (by omega) (by decide)).mp z2
        omega
    | succ w ih =>
      intro i hi h1 y2 f d R hx
      have sh1 := f.sh sh (by decide)
      have stop : zDn T i → ((h_oi h1 582 44 ≤ 0 → (vp_in (h_oi h1 585 44) 6 ∧ w_p 5 (9, 4, mc_X9_vote) 130 [(0, .ref 44), (1, .int dd), (2, .int y2), (3, .int (nI 0))] [] (h_sA (h_sI h1 577 44 0) 47 ((h_oi h1 585 44).toNatClampNeg) dd) Q)) ∧ (¬ (h_oi h1 582 44 ≤ 0) → Q (some (.int ((-10 : Int32) - (h_oi h1 583 44)))) (h_sI h1 577 44 0))) := fun y => exit vk h6 h1 f d (by rw [zRd_6 y (by omega)]; exact R) y2
      have ff : ¬ h_oi h1 582 44 = 0 → zDn T i := fun z => by
        rcases R with ⟨_, To, _⟩ | ⟨y, _⟩
        · exact absurd To.2.1 z
        · exact Or.inl (by omega)
      refine t_X9_vote_67 sh1 _ _ (K67 := fun y1 y3 hh => y1 = dd ∧ fx h hh gMR [46] ∧ dn h hh ∧ mRd hh (zRd T (i + 1)) ∧ ((zRd T (i + 1)).1.1 = 0 → (y3 = 0 ↔ zDn T (i + 1)))) (fun y1 y3 hh z => ?_) (K130 := fun y1 y3 y4 hh => w_p 5 (9, 4, mc_X9_vote) 130 [(0, .ref 44), (1, .int y1), (2, .int y3), (3, .int y4)] [] hh Q) (fun _ _ _ _ z => z) ⟨fun z => ?_, fun z => ⟨fun z2 => stop (ff z2), fun z2 => ?_⟩⟩
      · obtain ⟨rfl, q1, q2, q3, q4⟩ := z
        exact ih (i + 1) (by omega) hh y3 q1 q2 q3 q4
      · refine stop ?_
        by_cases r0 : (zRd T i).1.1 = 0
        · exact (hx r0).mp z
        · exact Or.inl r0
      · rcases R with ⟨r0, To, Lw⟩ | ⟨rx, e1, e2⟩
        · have ndn : ¬ zDn T i := fun y => z ((hx r0).mpr y)
          obtain ⟨o1, o2, o3⟩ := zRd_ok T i r0
          refine (m_readLaw sh1 (c1.fx f (by decide) (by decide)) To Lw o1 (fun k v e => by have := (o3 k v e).2; omega) (fun h7 f7 d7 R7 => ⟨rfl, f7.sh sh1 (by decide), ?_⟩)).up (by decide)
          rw [← zRd_n ndn] at R7
          have F7 : fx h h7 gMR [46] := f.tr f7 (by decide) (by decide) (by decide) (by decide)
          have srt : (zRd T (i + 1)).1.1 = 0 → (h_oi h7 580 44 = 0 ↔ zDn T (i + 1)) := fun q0 => by
            rcases R7 with ⟨_, To7, _⟩ | ⟨y, _⟩
            · rw [To7.2.2.1, show (nI (zRd T (i + 1)).2.2.1 = 0) = (nI (zRd T (i + 1)).2.2.1 = nI 0) from rfl, nI_eqI (by have := To7.1; omega) (by decide)]
              refine ⟨fun y => Or.inr ⟨Nat.succ_pos _, y⟩, fun y => ?_⟩
              rcases y with y | y
              · exact absurd q0 y
              · exact y.2
            · omega
          refine ⟨fun y => ⟨rfl, F7, d.tr d7, R7, fun q0 => ⟨fun _ => (srt q0).mp y, fun _ => rfl⟩⟩, fun y => ⟨rfl, F7, d.tr d7, R7, fun q0 => ⟨fun u => absurd u (by decide), fun u => absurd ((srt q0).mpr u) y⟩⟩⟩
        · rw [e1] at z2
          have := (nI_eqI (b := 0) (by omega) (by decide)).mp z2
          omega
  have fill : zVk dy dd → X.1 < 6 → ∀ w i, i + w = 5 → ∀ h1, fx h h1 gMR [46] → dn h h1 → h_oi h1 582 44 = 0 → h_oi h1 578 44 = nI 0 → (∀ k, k < i → h_ai h1 46 k = -4) → w_p 5 (9, 4, mc_X9_vote) 42 [(0, .ref 44), (1, .int dd), (2, .int (nI i))] [] h1 Q := by
    intro vk h6 w
    induction w with
    | zero =>
      intro i hi h1 f d a0 a2 q
      have sh1 := f.sh sh (by decide)
      have H1 : mT h1 T.1 T.2 := c1.fx f (by decide) (by decide)
      refine t_X9_vote_42 sh1 _ _ (K42 := fun _ _ _ => False) (fun _ _ _ z => z.elim) (K67 := fun y1 y3 hh => y1 = dd ∧ y3 = 1 ∧ fx h hh gMR [46] ∧ dn h hh ∧ mRd hh (zRd T 0)) (fun y1 y3 hh z => ?_) ⟨fun _ => ?_, fun z => absurd ?_ z⟩
      · obtain ⟨rfl, rfl, q1, q2, q3⟩ := z
        refine rdl vk h6 6 0 (by omega) hh _ q1 q2 q3 (fun q0 => ⟨fun u => absurd u (by decide), fun u => ?_⟩)
        rcases u with u | u
        · exact absurd q0 u
        · exact absurd u.1 (Nat.lt_irrefl _)
      · refine (m_next sh1 H1 (Nat.zero_le _) a0 a2 (fun h3 f3 d3 T3 => ⟨rfl, f3.sh sh1 (by decide), rfl, rfl, f.tr f3 (by decide) (by decide) (by decide) (by decide), d.tr d3, ?_⟩)).up (by decide)
        show mRd h3 (zT1 (fun _ => none) (zTk T 0))
        unfold zT1
        rcases mTok_c T3 with ⟨To3, t3⟩ | ⟨t3, b0, b1⟩
        · rw [z_if_f (by omega)]
          exact Or.inl ⟨rfl, To3, fun j hj => by rw [f3.ai 46 (by decide) (by decide)]; exact q j (by omega)⟩
        · rw [z_if_t t3]
          exact Or.inr ⟨by show 1 ≤ 1 ∧ 1 ≤ 4; decide, b0, b1⟩
      · rw [show i = 5 by omega]; decide
    | succ w ih =>
      intro i hi h1 f d a0 a2 q
      refine t_X9_vote_42 (f.sh sh (by decide)) _ _ (K42 := fun y1 y3 hh => y1 = dd ∧ y3 = nI (i + 1) ∧ hh = h_sA h1 46 i (-4)) (fun y1 y3 hh z => ?_) (K67 := fun _ _ _ => False) (fun _ _ _ z => z.elim) ⟨fun z => ?_, fun _ => ?_⟩
      · obtain ⟨rfl, rfl, rfl⟩ := z
        refine ih (i + 1) (by omega) _ (f.sA _ _ (Or.inl (by decide))) (d.sA _ _ (by decide)) a0 a2 (fun k hk => ?_)
        rw [ai_self]
        by_cases z : k = i
        · rw [z, va_up_self]
        · rw [va_up_ne _ _ z]; exact q k (by omega)
      · have := (i_le (a := 5) (by decide) (by omega)).mp z
        omega
      · rw [i_cl (by omega)]
        exact ⟨vp_in_nI (by omega) (by decide), rfl, nI_1 i, rfl⟩
  refine t_X9_vote_0 sh _ (K42 := fun y1 y3 hh => zVk dy dd ∧ X.1 < 6 ∧ y1 = dd ∧ y3 = nI 0 ∧ hh = h_sI (h_sI h 582 44 0) 578 44 0) (fun y1 y3 hh z => ?_) ?_
  · obtain ⟨vk, h6, rfl, rfl, rfl⟩ := z
    exact fill vk h6 5 0 (by omega) _ (((fx.rf _ _ _).sI _ (Or.inl (by decide))).sI _ (Or.inl (by decide))) (((dn.rf _).sI _ (by decide)).sI _ (by decide)) ((oi_neG (by decide) _).trans (oi_self _ _ _ _)) (oi_self _ _ _ _) (fun k hk => absurd hk (Nat.not_lt_zero _))
  · rw [md.2, x2]
    refine ⟨fun z => ⟨fun z2 => ⟨inr.mp z, ?_, rfl, rfl, rfl⟩, fun z2 => k1 (inr.mp z) ?_⟩, fun z => k0 (fun y => (inr.mpr y) z)⟩
    · have : ¬ X.1 = 6 := fun y => z2 (by rw [y]; rfl)
      omega
    · exact (nI_eqI (b := 6) (by omega) (by decide)).mp z2
