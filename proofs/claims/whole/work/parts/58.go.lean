set_option maxRecDepth 20000 in
theorem t_X8_expireNotes_0 {h : mm_H} {Q : Option Value → mm_H → Prop} (sh : s_h h) {K31 : Int32 → Int32 → Int32 → mm_H → Prop} (k31 : ∀ (x1 : Int32) (x3 : Int32) (x4 : Int32) (h : mm_H), K31 x1 x3 x4 h → w_p 2 (8, 6, mc_X8_expireNotes) 31 [(0, .ref 16), (1, .int x1), (2, .ref 30), (3, .int x3), (4, .int x4)] [] h Q) 
    (F : w_c 1 10 [.ref 21, .int (h_oi h 521 16), .int 2] h (fun r h1 => ∃ z2 : Int32, r = some (.int z2) ∧ s_h h1 ∧ ((¬ z2 = (-4) → K31 z2 (Int32.ofNat 12) 0 h1) ∧ (z2 = (-4) → Q none h1)))) :
    w_c 2 88 [.ref 16] h Q := by
  refine w_ci (M := (8, 6, mc_X8_expireNotes)) rfl (Nat.le_of_ble_eq_true rfl) ?_
  show w_p _ _ 0 [(0, .ref 16)] [] h Q
  refine w_b 1 1 [(0, .ref 16)] [.ref 16] rfl ?_
  refine w_getS (b := 21) rfl rfl rfl (kd_16 sh) (or_514_16 sh) ?_
  refine w_b 1 5 [(0, .ref 16)] [.ref 16, .ref 21] rfl ?_
  refine w_get (g := 521) rfl rfl rfl (kd_16 sh) ?_
  refine w_b 1 9 [(0, .ref 16)] [.int 2, .int (h_oi h 521 16), .ref 21] rfl ?_
  refine w_cv (As := [.int (h_oi h 521 16), .int 2]) (b := 21) (rest := []) rfl rfl rfl (Nat.le_of_ble_eq_true rfl) (kd_21 sh) (fun z => absurd z (by decide)) (dc := 1) (by omega) (F.mono (fun r h1 F => ?_))
  obtain ⟨z2, rfl, sh1, F⟩ := F
  show w_p _ _ 12 [(0, .ref 16)] [.int z2] h1 _
  refine w_b 3 16 [(1, .int z2), (0, .ref 16)] [.int (-4), .int z2] rfl ?_
  refine w_ic_ne (tgt := 20) (x := z2) (y := (-4)) rfl (by decide) ⟨fun c3 => ?_, fun c3 => ?_⟩
  · have F := F.1 c3
    refine w_b 1 21 [(1, .int z2), (0, .ref 16)] [.ref 16] rfl ?_
    refine w_getS (b := 30) rfl rfl rfl (kd_16 sh1) (or_515_16 sh1) ?_
    refine w_b 2 26 [(2, .ref 30), (1, .int z2), (0, .ref 16)] [.ref 30] rfl ?_
    refine w_alen rfl (by rw [kd_30 sh1]; decide) ?_
    rw [show h_al h1 30 = 12 from (al_30 sh1)]
    refine w_b 3 31 [(4, .int 0), (3, .int (Int32.ofNat 12)), (2, .ref 30), (1, .int z2), (0, .ref 16)] [] rfl ?_
    refine w_lo [0, 1, 2, 3, 4] [(0, .ref 16), (1, .int z2), (2, .ref 30), (3, .int (Int32.ofNat 12)), (4, .int 0)] rfl rfl ?_
    exact k31 _ _ _ _ F
  · have F := F.2 (Decidable.not_not.mp c3)
    exact w_vr rfl F

set_option maxRecDepth 20000 in
theorem t_X8_expireNotes_31 {h : mm_H} {Q : Option Value → mm_H → Prop} (sh : s_h h) (x1 : Int32) (x3 : Int32) (x4 : Int32) {K31 : Int32 → Int32 → Int32 → mm_H → Prop} (k31 : ∀ (x1 : Int32) (x3 : Int32) (x4 : Int32) (h : mm_H), K31 x1 x3 x4 h → w_p 2 (8, 6, mc_X8_expireNotes) 31 [(0, .ref 16), (1, .int x1), (2, .ref 30), (3, .int x3), (4, .int x4)] [] h Q) 
    (F : ((x3 ≤ x4 → Q none h) ∧ (¬ (x3 ≤ x4) → (vp_in x4 12 ∧ (((h_ar h 30 x4.toNatClampNeg) = none → K31 x1 x3 (x4 + 1) h) ∧ (∀ a4 : Nat, (h_ar h 30 x4.toNatClampNeg) = some a4 → (h_kd h a4 = 1 ∧ (∃ b6 : Nat, (h_or h 0 a4) = some b6 ∧ (h_kd h b6 = 4 ∧ w_c 1 31 [.ref b6, .int ((h_oi h 521 16) - x1)] h (fun r h9 => ∃ z10 : Int32, r = some (.int z10) ∧ s_h h9 ∧ K31 x1 x3 (x4 + 1) (h_sI h9 524 16 ((h_oi h 524 16) + z10)))))))))))) :
    w_p 2 (8, 6, mc_X8_expireNotes) 31 [(0, .ref 16), (1, .int x1), (2, .ref 30), (3, .int x3), (4, .int x4)] [] h Q := by
  refine w_b 2 34 [(0, .ref 16), (1, .int x1), (2, .ref 30), (3, .int x3), (4, .int x4)] [.int x3, .int x4] rfl ?_
  refine w_ic_ge (tgt := 77) (x := x4) (y := x3) rfl (by decide) ⟨fun c1 => ?_, fun c1 => ?_⟩
  · have F := F.1 c1
    exact w_vr rfl F
  · have F := F.2 c1
    refine w_b 2 40 [(0, .ref 16), (1, .int x1), (2, .ref 30), (3, .int x3), (4, .int x4)] [.int x4, .ref 30] rfl ?_
    obtain ⟨g2, F⟩ := F
    refine w_aald rfl (by rw [kd_30 sh]; decide) (by rw [show h_al h 30 = 12 from (al_30 sh)]; exact g2) ?_
    refine w_astM (r := h_ar h 30 x4.toNatClampNeg) (lo2 := [(5, va_rf (h_ar h 30 x4.toNatClampNeg)), (0, .ref 16), (1, .int x1), (2, .ref 30), (3, .int x3), (4, .int x4)]) rfl (by decide) rfl ?_
    refine w_aldM (r := h_ar h 30 x4.toNatClampNeg) rfl rfl ?_
    refine w_ifnull (tgt := 71) (r := h_ar h 30 x4.toNatClampNeg) rfl (by decide) ⟨fun c3 => ?_, fun a4 c3 => ?_⟩
    · have F := F.1 c3
      refine w_b 2 31 [(4, .int (x4 + 1)), (5, va_rf (h_ar h 30 x4.toNatClampNeg)), (0, .ref 16), (1, .int x1), (2, .ref 30), (3, .int x3)] [] rfl ?_
      refine w_lo [0, 1, 2, 3, 4] [(0, .ref 16), (1, .int x1), (2, .ref 30), (3, .int x3), (4, .int (x4 + 1))] rfl rfl ?_
      exact k31 _ _ _ _ F
    · have F := F.2 a4 c3
      simp only [c3] ; show w_p _ _ 48 [(5, .ref a4), (0, .ref 16), (1, .int x1), (2, .ref 30), (3, .int x3), (4, .int x4)] [] h _
      refine w_b 2 50 [(5, .ref a4), (0, .ref 16), (1, .int x1), (2, .ref 30), (3, .int x3), (4, .int x4)] [.ref 16, .ref 16] rfl ?_
      refine w_get (g := 524) rfl rfl rfl (kd_16 sh) ?_
      refine w_b 1 55 [(5, .ref a4), (0, .ref 16), (1, .int x1), (2, .ref 30), (3, .int x3), (4, .int x4)] [.ref a4, .int (h_oi h 524 16), .ref 16] rfl ?_
      obtain ⟨g5, F⟩ := F
      refine w_getR (g := 0) rfl rfl rfl g5 ?_
      refine w_b 1 59 [(5, .ref a4), (0, .ref 16), (1, .int x1), (2, .ref 30), (3, .int x3), (4, .int x4)] [.ref 16, va_rf (h_or h 0 a4), .int (h_oi h 524 16), .ref 16] rfl ?_
      refine w_get (g := 521) rfl rfl rfl (kd_16 sh) ?_
      refine w_b 2 64 [(5, .ref a4), (0, .ref 16), (1, .int x1), (2, .ref 30), (3, .int x3), (4, .int x4)] [.int ((h_oi h 521 16) - x1), va_rf (h_or h 0 a4), .int (h_oi h 524 16), .ref 16] rfl ?_
      obtain ⟨b6, e7, F⟩ := F
      rw [e7]
      show w_p _ _ 64 [(5, .ref a4), (0, .ref 16), (1, .int x1), (2, .ref 30), (3, .int x3), (4, .int x4)] [.int ((h_oi h 521 16) - x1), .ref b6, .int (h_oi h 524 16), .ref 16] h _
      obtain ⟨g8, F⟩ := F
      refine w_cv (As := [.int ((h_oi h 521 16) - x1)]) (b := b6) (rest := [.int (h_oi h 524 16), .ref 16]) rfl rfl rfl (Nat.le_of_ble_eq_true rfl) g8 (fun z => absurd z (by decide)) (dc := 1) (by omega) (F.mono (fun r h9 F => ?_))
      obtain ⟨z10, rfl, sh9, F⟩ := F
      show w_p _ _ 67 [(5, .ref a4), (0, .ref 16), (1, .int x1), (2, .ref 30), (3, .int x3), (4, .int x4)] [.int z10, .int (h_oi h 524 16), .ref 16] h9 _
      refine w_b 1 68 [(5, .ref a4), (0, .ref 16), (1, .int x1), (2, .ref 30), (3, .int x3), (4, .int x4)] [.int ((h_oi h 524 16) + z10), .ref 16] rfl ?_
      refine w_put (g := 524) (x := (h_oi h 524 16) + z10) rfl rfl rfl (kd_16 sh9) (by decide) ?_
      refine w_b 2 31 [(4, .int (x4 + 1)), (5, .ref a4), (0, .ref 16), (1, .int x1), (2, .ref 30), (3, .int x3)] [] rfl ?_
      refine w_lo [0, 1, 2, 3, 4] [(0, .ref 16), (1, .int x1), (2, .ref 30), (3, .int x3), (4, .int (x4 + 1))] rfl rfl ?_
      exact k31 _ _ _ _ F

set_option maxRecDepth 20000 in
theorem t_X9_expires_0 {h : mm_H} {Q : Option Value → mm_H → Prop} (sh : s_h h) {K27 : Int32 → Int32 → mm_H → Prop} (k27 : ∀ (x1 : Int32) (x2 : Int32) (h : mm_H), K27 x1 x2 h → w_p 2 (9, 4, mc_X9_expires) 27 [(0, .ref 44), (1, .int x1), (2, .int x2)] [] h Q) 
    (F : w_c 1 116 [.ref 44, .int (h_oi h 588 44), .int 2] h (fun r h1 => ∃ z2 : Int32, r = some (.int z2) ∧ s_h h1 ∧ ((¬ z2 = (-4) → K27 z2 ((h_oi h1 588 44) - z2) h1) ∧ (z2 = (-4) → K27 z2 0 h1)))) :
    w_c 2 119 [.ref 44] h Q := by
  refine w_ci (M := (9, 4, mc_X9_expires)) rfl (Nat.le_of_ble_eq_true rfl) ?_
  show w_p _ _ 0 [(0, .ref 44)] [] h Q
  refine w_b 2 2 [(0, .ref 44)] [.ref 44, .ref 44] rfl ?_
  refine w_get (g := 588) rfl rfl rfl (kd_44 sh) ?_
  refine w_b 1 6 [(0, .ref 44)] [.int 2, .int (h_oi h 588 44), .ref 44] rfl ?_
  refine w_cv (As := [.int (h_oi h 588 44), .int 2]) (b := 44) (rest := []) rfl rfl rfl (Nat.le_of_ble_eq_true rfl) (kd_44 sh) (fun z => absurd z (by decide)) (dc := 1) (by omega) (F.mono (fun r h1 F => ?_))
  obtain ⟨z2, rfl, sh1, F⟩ := F
  show w_p _ _ 9 [(0, .ref 44)] [.int z2] h1 _
  refine w_b 3 13 [(1, .int z2), (0, .ref 44)] [.int (-4), .int z2] rfl ?_
  refine w_ic_ne (tgt := 20) (x := z2) (y := (-4)) rfl (by decide) ⟨fun c3 => ?_, fun c3 => ?_⟩
  · have F := F.1 c3
    refine w_b 1 21 [(1, .int z2), (0, .ref 44)] [.ref 44] rfl ?_
    refine w_get (g := 588) rfl rfl rfl (kd_44 sh1) ?_
    refine w_b 3 27 [(2, .int ((h_oi h1 588 44) - z2)), (1, .int z2), (0, .ref 44)] [] rfl ?_
    refine w_lo [0, 1, 2] [(0, .ref 44), (1, .int z2), (2, .int ((h_oi h1 588 44) - z2))] rfl rfl ?_
    exact k27 _ _ _ F
  · have F := F.2 (Decidable.not_not.mp c3)
    refine w_b 3 27 [(2, .int 0), (1, .int z2), (0, .ref 44)] [] rfl ?_
    refine w_lo [0, 1, 2] [(0, .ref 44), (1, .int z2), (2, .int 0)] rfl rfl ?_
    exact k27 _ _ _ F

set_option maxRecDepth 20000 in
theorem t_X9_expires_27 {h : mm_H} {Q : Option Value → mm_H → Prop} (sh : s_h h) (x1 : Int32) (x2 : Int32) {K37 : Int32 → Int32 → Int32 → mm_H → Prop} (k37 : ∀ (x1 : Int32) (x2 : Int32) (x3 : Int32) (h : mm_H), K37 x1 x2 x3 h → w_p 2 (9, 4, mc_X9_expires) 37 [(0, .ref 44), (1, .int x1), (2, .int x2), (3, .int x3)] [] h Q) 
    (F : ((x2 ≤ (h_oi h 589 44) → Q none h) ∧ (¬ (x2 ≤ (h_oi h 589 44)) → K37 x1 x2 0 h))) :
    w_p 2 (9, 4, mc_X9_expires) 27 [(0, .ref 44), (1, .int x1), (2, .int x2)] [] h Q := by
  refine w_b 1 28 [(0, .ref 44), (1, .int x1), (2, .int x2)] [.ref 44] rfl ?_
  refine w_get (g := 589) rfl rfl rfl (kd_44 sh) ?_
  refine w_b 1 32 [(0, .ref 44), (1, .int x1), (2, .int x2)] [.int x2, .int (h_oi h 589 44)] rfl ?_
  refine w_ic_ge (tgt := 104) (x := h_oi h 589 44) (y := x2) rfl (by decide) ⟨fun c1 => ?_, fun c1 => ?_⟩
  · have F := F.1 c1
    exact w_vr rfl F
  · have F := F.2 c1
    refine w_b 2 37 [(3, .int 0), (0, .ref 44), (1, .int x1), (2, .int x2)] [] rfl ?_
    refine w_lo [0, 1, 2, 3] [(0, .ref 44), (1, .int x1), (2, .int x2), (3, .int 0)] rfl rfl ?_
    exact k37 _ _ _ _ F

set_option maxRecDepth 20000 in
theorem t_X9_expires_37 {h : mm_H} {Q : Option Value → mm_H → Prop} (sh : s_h h) (x1 : Int32) (x2 : Int32) (x3 : Int32) {K27 : Int32 → Int32 → mm_H → Prop} (k27 : ∀ (x1 : Int32) (x2 : Int32) (h : mm_H), K27 x1 x2 h → w_p 2 (9, 4, mc_X9_expires) 27 [(0, .ref 44), (1, .int x1), (2, .int x2)] [] h Q) {K37 : Int32 → Int32 → Int32 → mm_H → Prop} (k37 : ∀ (x1 : Int32) (x2 : Int32) (x3 : Int32) (h : mm_H), K37 x1 x2 x3 h → w_p 2 (9, 4, mc_X9_expires) 37 [(0, .ref 44), (1, .int x1), (2, .int x2), (3, .int x3)] [] h Q) 
    (F : (((h_oi h 590 44) ≤ x3 → K27 x1 x2 (h_sI h 589 44 ((h_oi h 589 44) + 1))) ∧ (¬ ((h_oi h 590 44) ≤ x3) → (vp_in (((2001 : Int32) * x3) + (h_oi h 589 44)) 24012 ∧ (vp_in (((2001 : Int32) * x3) + (h_oi h 589 44)) 24012 ∧ K37 x1 x2 (x3 + 1) (h_sA (h_sI h 598 44 ((h_oi h 598 44) + (h_ai h 53 (((2001 : Int32) * x3) + (h_oi h 589 44)).toNatClampNeg))) 53 ((((2001 : Int32) * x3) + (h_oi h 589 44)).toNatClampNeg) 0)))))) :
    w_p 2 (9, 4, mc_X9_expires) 37 [(0, .ref 44), (1, .int x1), (2, .int x2), (3, .int x3)] [] h Q := by
  refine w_b 2 39 [(0, .ref 44), (1, .int x1), (2, .int x2), (3, .int x3)] [.ref 44, .int x3] rfl ?_
  refine w_get (g := 590) rfl rfl rfl (kd_44 sh) ?_
  refine w_ic_ge (tgt := 91) (x := x3) (y := h_oi h 590 44) rfl (by decide) ⟨fun c1 => ?_, fun c1 => ?_⟩
  · have F := F.1 c1
    refine w_b 2 93 [(0, .ref 44), (1, .int x1), (2, .int x2), (3, .int x3)] [.ref 44, .ref 44] rfl ?_
    refine w_get (g := 589) rfl rfl rfl (kd_44 sh) ?_
    refine w_b 2 98 [(0, .ref 44), (1, .int x1), (2, .int x2), (3, .int x3)] [.int ((h_oi h 589 44) + 1), .ref 44] rfl ?_
    refine w_put (g := 589) (x := (h_oi h 589 44) + 1) rfl rfl rfl (kd_44 sh) (by decide) ?_
    refine w_b 1 27 [(0, .ref 44), (1, .int x1), (2, .int x2), (3, .int x3)] [] rfl ?_
    refine w_lo [0, 1, 2] [(0, .ref 44), (1, .int x1), (2, .int x2)] rfl rfl ?_
    exact k27 _ _ _ F
  · have F := F.2 c1
    refine w_b 2 47 [(0, .ref 44), (1, .int x1), (2, .int x2), (3, .int x3)] [.ref 44, .ref 44] rfl ?_
    refine w_get (g := 598) rfl rfl rfl (kd_44 sh) ?_
    refine w_b 1 51 [(0, .ref 44), (1, .int x1), (2, .int x2), (3, .int x3)] [.ref 44, .int (h_oi h 598 44), .ref 44] rfl ?_
    refine w_getS (b := 53) rfl rfl rfl (kd_44 sh) (or_595_44 sh) ?_
    refine w_b 4 60 [(0, .ref 44), (1, .int x1), (2, .int x2), (3, .int x3)] [.ref 44, .int ((2001 : Int32) * x3), .ref 53, .int (h_oi h 598 44), .ref 44] rfl ?_
    refine w_get (g := 589) rfl rfl rfl (kd_44 sh) ?_
    refine w_b 1 64 [(0, .ref 44), (1, .int x1), (2, .int x2), (3, .int x3)] [.int (((2001 : Int32) * x3) + (h_oi h 589 44)), .ref 53, .int (h_oi h 598 44), .ref 44] rfl ?_
    obtain ⟨g2, F⟩ := F
    refine w_iald rfl (kd_53 sh) (by rw [show h_al h 53 = 24012 from (al_53 sh)]; exact g2) ?_
    refine w_b 1 66 [(0, .ref 44), (1, .int x1), (2, .int x2), (3, .int x3)] [.int ((h_oi h 598 44) + (h_ai h 53 (((2001 : Int32) * x3) + (h_oi h 589 44)).toNatClampNeg)), .ref 44] rfl ?_
    refine w_put (g := 598) (x := (h_oi h 598 44) + (h_ai h 53 (((2001 : Int32) * x3) + (h_oi h 589 44)).toNatClampNeg)) rfl rfl rfl (kd_44 sh) (by decide) ?_
    refine w_b 1 70 [(0, .ref 44), (1, .int x1), (2, .int x2), (3, .int x3)] [.ref 44] rfl ?_
    refine w_getS (b := 53) rfl rfl rfl (kd_44 sh) (or_595_44 sh) ?_
    refine w_b 4 79 [(0, .ref 44), (1, .int x1), (2, .int x2), (3, .int x3)] [.ref 44, .int ((2001 : Int32) * x3), .ref 53] rfl ?_
    refine w_get (g := 589) rfl rfl rfl (kd_44 sh) ?_
    refine w_b 2 84 [(0, .ref 44), (1, .int x1), (2, .int x2), (3, .int x3)] [.int 0, .int (((2001 : Int32) * x3) + (h_oi h 589 44)), .ref 53] rfl ?_
    obtain ⟨g3, F⟩ := F
    refine w_iast rfl (kd_53 sh) (by decide) (by rw [show h_al (h_sI h 598 44 ((h_oi h 598 44) + (h_ai h 53 (((2001 : Int32) * x3) + (h_oi h 589 44)).toNatClampNeg))) 53 = 24012 from (al_53 sh)]; exact g3) ?_
    refine w_b 2 37 [(3, .int (x3 + 1)), (0, .ref 44), (1, .int x1), (2, .int x2)] [] rfl ?_
    refine w_lo [0, 1, 2, 3] [(0, .ref 44), (1, .int x1), (2, .int x2), (3, .int (x3 + 1))] rfl rfl ?_
    exact k37 _ _ _ _ F

set_option maxRecDepth 20000 in
theorem t_X8_go_0 {h : mm_H} {Q : Option Value → mm_H → Prop} (sh : s_h h) (n : Int32) {K50 : Int32 → Int32 → mm_H → Prop} (k50 : ∀ (n : Int32) (x2 : Int32) (h : mm_H), K50 n x2 h → w_p 3 (8, 3, mc_X8_go) 50 [(0, .ref 16), (1, .int n), (2, .int x2)] [] h Q) 
    (F : ((n < 1 → Q (some (.int (-1))) h) ∧ (¬ (n < 1) → ((n ≤ 100 → ((2000 < ((h_oi h 521 16) + n) → Q (some (.int (-2))) h) ∧ (¬ (2000 < ((h_oi h 521 16) + n)) → ((0 < (h_oi h 451 31) → Q (some (.int (-2))) h) ∧ (¬ (0 < (h_oi h 451 31)) → (((h_oi h 451 35) ≤ 0 → K50 n 0 h) ∧ (¬ ((h_oi h 451 35) ≤ 0) → Q (some (.int (-2))) h))))))) ∧ (¬ (n ≤ 100) → Q (some (.int (-1))) h))))) :
    w_c 3 68 [.ref 16, .int n] h Q := by
  refine w_ci (M := (8, 3, mc_X8_go)) rfl (Nat.le_of_ble_eq_true rfl) ?_
  show w_p _ _ 0 [(0, .ref 16), (1, .int n)] [] h Q
  refine w_b 2 2 [(0, .ref 16), (1, .int n)] [.int 1, .int n] rfl ?_
  refine w_ic_lt (tgt := 11) (x := n) (y := 1) rfl (by decide) ⟨fun c1 => ?_, fun c1 => ?_⟩
  · have F := F.1 c1
    refine w_b 1 12 [(0, .ref 16), (1, .int n)] [.int (-1)] rfl ?_
    exact w_ir rfl F
  · have F := F.2 c1
    refine w_b 2 8 [(0, .ref 16), (1, .int n)] [.int 100, .int n] rfl ?_
    refine w_ic_le (tgt := 13) (x := n) (y := 100) rfl (by decide) ⟨fun c2 => ?_, fun c2 => ?_⟩
    · have F := F.1 c2
      refine w_b 1 14 [(0, .ref 16), (1, .int n)] [.ref 16] rfl ?_
      refine w_get (g := 521) rfl rfl rfl (kd_16 sh) ?_
      refine w_b 3 22 [(0, .ref 16), (1, .int n)] [.int 2000, .int ((h_oi h 521 16) + n)] rfl ?_
      refine w_ic_gt (tgt := 45) (x := (h_oi h 521 16) + n) (y := 2000) rfl (by decide) ⟨fun c3 => ?_, fun c3 => ?_⟩
      · have F := F.1 c3
        refine w_b 1 47 [(0, .ref 16), (1, .int n)] [.int (-2)] rfl ?_
        exact w_ir rfl F
      · have F := F.2 c3
        refine w_b 1 26 [(0, .ref 16), (1, .int n)] [.ref 16] rfl ?_
        refine w_getS (b := 31) rfl rfl rfl (kd_16 sh) (or_516_16 sh) ?_
        refine w_get (g := 451) rfl rfl rfl (kd_31 sh) ?_
        refine w_if_gt (tgt := 45) (x := h_oi h 451 31) rfl (by decide) ⟨fun c4 => ?_, fun c4 => ?_⟩
        · have F := F.1 c4
          refine w_b 1 47 [(0, .ref 16), (1, .int n)] [.int (-2)] rfl ?_
          exact w_ir rfl F
        · have F := F.2 c4
          refine w_b 1 36 [(0, .ref 16), (1, .int n)] [.ref 16] rfl ?_
          refine w_getS (b := 35) rfl rfl rfl (kd_16 sh) (or_517_16 sh) ?_
          refine w_get (g := 451) rfl rfl rfl (kd_35 sh) ?_
          refine w_if_le (tgt := 48) (x := h_oi h 451 35) rfl (by decide) ⟨fun c5 => ?_, fun c5 => ?_⟩
          · have F := F.1 c5
            refine w_b 2 50 [(2, .int 0), (0, .ref 16), (1, .int n)] [] rfl ?_
            refine w_lo [0, 1, 2] [(0, .ref 16), (1, .int n), (2, .int 0)] rfl rfl ?_
            exact k50 _ _ _ F
          · have F := F.2 c5
            refine w_b 1 47 [(0, .ref 16), (1, .int n)] [.int (-2)] rfl ?_
            exact w_ir rfl F
    · have F := F.2 c2
      refine w_b 1 12 [(0, .ref 16), (1, .int n)] [.int (-1)] rfl ?_
      exact w_ir rfl F

set_option maxRecDepth 20000 in
theorem t_X8_go_50 {h : mm_H} {Q : Option Value → mm_H → Prop} (sh : s_h h) (n : Int32) (x2 : Int32) {K50 : Int32 → Int32 → mm_H → Prop} (k50 : ∀ (n : Int32) (x2 : Int32) (h : mm_H), K50 n x2 h → w_p 3 (8, 3, mc_X8_go) 50 [(0, .ref 16), (1, .int n), (2, .int x2)] [] h Q) 
    (F : ((n ≤ x2 → Q (some (.int (h_oi h 521 16))) h) ∧ (¬ (n ≤ x2) → w_c 2 88 [.ref 16] (h_sI h 521 16 ((h_oi h 521 16) + 1)) (fun r h2 => r = none ∧ s_h h2 ∧ K50 n (x2 + 1) h2)))) :
    w_p 3 (8, 3, mc_X8_go) 50 [(0, .ref 16), (1, .int n), (2, .int x2)] [] h Q := by
  refine w_b 2 52 [(0, .ref 16), (1, .int n), (2, .int x2)] [.int n, .int x2] rfl ?_
  refine w_ic_ge (tgt := 75) (x := x2) (y := n) rfl (by decide) ⟨fun c1 => ?_, fun c1 => ?_⟩
  · have F := F.1 c1
    refine w_b 1 76 [(0, .ref 16), (1, .int n), (2, .int x2)] [.ref 16] rfl ?_
    refine w_get (g := 521) rfl rfl rfl (kd_16 sh) ?_
    exact w_ir rfl F
  · have F := F.2 c1
    refine w_b 2 57 [(0, .ref 16), (1, .int n), (2, .int x2)] [.ref 16, .ref 16] rfl ?_
    refine w_get (g := 521) rfl rfl rfl (kd_16 sh) ?_
    refine w_b 2 62 [(0, .ref 16), (1, .int n), (2, .int x2)] [.int ((h_oi h 521 16) + 1), .ref 16] rfl ?_
    refine w_put (g := 521) (x := (h_oi h 521 16) + 1) rfl rfl rfl (kd_16 sh) (by decide) ?_
    refine w_b 1 66 [(0, .ref 16), (1, .int n), (2, .int x2)] [.ref 16] rfl ?_
    refine w_cv (As := []) (b := 16) (rest := []) rfl rfl rfl (Nat.le_of_ble_eq_true rfl) (kd_16 sh) (fun z => absurd z (by decide)) (dc := 2) (by omega) (F.mono (fun r h2 F => ?_))
    obtain ⟨rfl, sh2, F⟩ := F
    show w_p _ _ 69 [(0, .ref 16), (1, .int n), (2, .int x2)] [] h2 _
    refine w_b 2 50 [(2, .int (x2 + 1)), (0, .ref 16), (1, .int n)] [] rfl ?_
    refine w_lo [0, 1, 2] [(0, .ref 16), (1, .int n), (2, .int (x2 + 1))] rfl rfl ?_
    exact k50 _ _ _ F

set_option maxRecDepth 20000 in
theorem t_X9_go_0 {h : mm_H} {Q : Option Value → mm_H → Prop} (sh : s_h h) (n : Int32) {K45 : Int32 → Int32 → mm_H → Prop} (k45 : ∀ (n : Int32) (x2 : Int32) (h : mm_H), K45 n x2 h → w_p 3 (9, 3, mc_X9_go) 45 [(0, .ref 44), (1, .int n), (2, .int x2)] [] h Q) 
    (F : ((¬ (f_in n.toInt64 (Int64.ofNat 1) (Int64.ofNat 100)) = 0 → ((2000 < ((h_oi h 588 44) + n) → Q (some (.int (-2))) h) ∧ (¬ (2000 < ((h_oi h 588 44) + n)) → ((0 < (h_oi h 600 44) → Q (some (.int (-2))) h) ∧ (¬ (0 < (h_oi h 600 44)) → (((h_oi h 604 44) ≤ 0 → K45 n 0 h) ∧ (¬ ((h_oi h 604 44) ≤ 0) → Q (some (.int (-2))) h))))))) ∧ ((f_in n.toInt64 (Int64.ofNat 1) (Int64.ofNat 100)) = 0 → Q (some (.int (-1))) h))) :
    w_c 3 120 [.ref 44, .int n] h Q := by
  refine w_ci (M := (9, 3, mc_X9_go)) rfl (Nat.le_of_ble_eq_true rfl) ?_
  show w_p _ _ 0 [(0, .ref 44), (1, .int n)] [] h Q
  refine w_b 4 6 [(0, .ref 44), (1, .int n)] [.long (Int64.ofNat 100), .long (Int64.ofNat 1), .long n.toInt64] rfl ?_
  refine w_cs (As := [.long n.toInt64, .long (Int64.ofNat 1), .long (Int64.ofNat 100)]) (rest := []) rfl rfl rfl (Nat.le_of_ble_eq_true rfl) (dc := 0) (by omega) (sp_in  ?_)
  show w_p _ _ 9 [(0, .ref 44), (1, .int n)] [.int (f_in n.toInt64 (Int64.ofNat 1) (Int64.ofNat 100))] h _
  refine w_if_ne (tgt := 14) (x := f_in n.toInt64 (Int64.ofNat 1) (Int64.ofNat 100)) rfl (by decide) ⟨fun c1 => ?_, fun c1 => ?_⟩
  · have F := F.1 c1
    refine w_b 1 15 [(0, .ref 44), (1, .int n)] [.ref 44] rfl ?_
    refine w_get (g := 588) rfl rfl rfl (kd_44 sh) ?_
    refine w_b 3 23 [(0, .ref 44), (1, .int n)] [.int 2000, .int ((h_oi h 588 44) + n)] rfl ?_
    refine w_ic_gt (tgt := 40) (x := (h_oi h 588 44) + n) (y := 2000) rfl (by decide) ⟨fun c2 => ?_, fun c2 => ?_⟩
    · have F := F.1 c2
      refine w_b 1 42 [(0, .ref 44), (1, .int n)] [.int (-2)] rfl ?_
      exact w_ir rfl F
    · have F := F.2 c2
      refine w_b 1 27 [(0, .ref 44), (1, .int n)] [.ref 44] rfl ?_
      refine w_get (g := 600) rfl rfl rfl (kd_44 sh) ?_
      refine w_if_gt (tgt := 40) (x := h_oi h 600 44) rfl (by decide) ⟨fun c3 => ?_, fun c3 => ?_⟩
      · have F := F.1 c3
        refine w_b 1 42 [(0, .ref 44), (1, .int n)] [.int (-2)] rfl ?_
        exact w_ir rfl F
      · have F := F.2 c3
        refine w_b 1 34 [(0, .ref 44), (1, .int n)] [.ref 44] rfl ?_
        refine w_get (g := 604) rfl rfl rfl (kd_44 sh) ?_
        refine w_if_le (tgt := 43) (x := h_oi h 604 44) rfl (by decide) ⟨fun c4 => ?_, fun c4 => ?_⟩
        · have F := F.1 c4
          refine w_b 2 45 [(2, .int 0), (0, .ref 44), (1, .int n)] [] rfl ?_
          refine w_lo [0, 1, 2] [(0, .ref 44), (1, .int n), (2, .int 0)] rfl rfl ?_
          exact k45 _ _ _ F
        · have F := F.2 c4
          refine w_b 1 42 [(0, .ref 44), (1, .int n)] [.int (-2)] rfl ?_
          exact w_ir rfl F
  · have F := F.2 (Decidable.not_not.mp c1)
    refine w_b 1 13 [(0, .ref 44), (1, .int n)] [.int (-1)] rfl ?_
    exact w_ir rfl F

set_option maxRecDepth 20000 in
theorem t_X9_go_45 {h : mm_H} {Q : Option Value → mm_H → Prop} (sh : s_h h) (n : Int32) (x2 : Int32) {K45 : Int32 → Int32 → mm_H → Prop} (k45 : ∀ (n : Int32) (x2 : Int32) (h : mm_H), K45 n x2 h → w_p 3 (9, 3, mc_X9_go) 45 [(0, .ref 44), (1, .int n), (2, .int x2)] [] h Q) 
    (F : ((n ≤ x2 → Q (some (.int (h_oi h 588 44))) h) ∧ (¬ (n ≤ x2) → w_c 2 119 [.ref 44] (h_sI h 588 44 ((h_oi h 588 44) + 1)) (fun r h2 => r = none ∧ s_h h2 ∧ K45 n (x2 + 1) h2)))) :
    w_p 3 (9, 3, mc_X9_go) 45 [(0, .ref 44), (1, .int n), (2, .int x2)] [] h Q := by
  refine w_b 2 47 [(0, .ref 44), (1, .int n), (2, .int x2)] [.int n, .int x2] rfl ?_
  refine w_ic_ge (tgt := 70) (x := x2) (y := n) rfl (by decide) ⟨fun c1 => ?_, fun c1 => ?_⟩
  · have F := F.1 c1
    refine w_b 1 71 [(0, .ref 44), (1, .int n), (2, .int x2)] [.ref 44] rfl ?_
    refine w_get (g := 588) rfl rfl rfl (kd_44 sh) ?_
    exact w_ir rfl F
  · have F := F.2 c1
    refine w_b 2 52 [(0, .ref 44), (1, .int n), (2, .int x2)] [.ref 44, .ref 44] rfl ?_
    refine w_get (g := 588) rfl rfl rfl (kd_44 sh) ?_
    refine w_b 2 57 [(0, .ref 44), (1, .int n), (2, .int x2)] [.int ((h_oi h 588 44) + 1), .ref 44] rfl ?_
    refine w_put (g := 588) (x := (h_oi h 588 44) + 1) rfl rfl rfl (kd_44 sh) (by decide) ?_
    refine w_b 1 61 [(0, .ref 44), (1, .int n), (2, .int x2)] [.ref 44] rfl ?_
    refine w_cv (As := []) (b := 44) (rest := []) rfl rfl rfl (Nat.le_of_ble_eq_true rfl) (kd_44 sh) (fun z => absurd z (by decide)) (dc := 2) (by omega) (F.mono (fun r h2 F => ?_))
    obtain ⟨rfl, sh2, F⟩ := F
    show w_p _ _ 64 [(0, .ref 44), (1, .int n), (2, .int x2)] [] h2 _
    refine w_b 2 45 [(2, .int (x2 + 1)), (0, .ref 44), (1, .int n)] [] rfl ?_
    refine w_lo [0, 1, 2] [(0, .ref 44), (1, .int n), (2, .int (x2 + 1))] rfl rfl ?_
    exact k45 _ _ _ F

/-! NOTES EXPIRE; days go -/
def zBx (X : zX) (dy : Nat) : Nat := match tV X.1 X.2.1 X.2.2 dy 2 with
  | none => 0
  | some v => dy - v
theorem zBx_n {X : zX} {dy : Nat} (e : tV X.1 X.2.1 X.2.2 dy 2 = none) : zBx X dy = 0 := by unfold zBx; rw [e]
theorem zBx_s {X : zX} {dy v : Nat} (e : tV X.1 X.2.1 X.2.2 dy 2 = some v) : zBx X dy = dy - v := by unfold zBx; rw [e]
def n_exp (b : Nat) (N : zN) : zN := (fun f d => if b ≤ d then N.1 f d else 0, N.2)
def c_exps (b : Nat) (F : zF) (N : zN) (C : zC) : zC := (C.1, C.2.1 + nI (fb_sm (fun f => fb_sm (N.1 f) b) F.1), C.2.2)
theorem add_n0 (x : Int32) : x + nI 0 = x := Int32.add_zero x
theorem n_exp_0 (N : zN) : n_exp 0 N = N := by
  show (fun f d => if 0 ≤ d then N.1 f d else 0, N.2) = (N.1, N.2)
  have : (fun f d => if 0 ≤ d then N.1 f d else 0) = N.1 := funext fun f => funext fun d => if_pos (Nat.zero_le _)
  rw [this]
theorem c_exps_z {b : Nat} {F : zF} {N : zN} (C : zC) (h : ∀ f, f < F.1 → fb_sm (N.1 f) b = 0) : c_exps b F N C = C := by
  show (C.1, C.2.1 + nI (fb_sm (fun f => fb_sm (N.1 f) b) F.1), C.2.2) = (C.1, C.2.1, C.2.2)
  rw [sm_0 h, add_n0]
set_option maxHeartbeats 1000000 in
theorem c_exp {h : mm_H} {Q : Option Value → mm_H → Prop} {own cap : Nat → Nat} {T : zT} {X : zX} {dy W : Nat} {ft : Int32} {F : zF} {A O : zV} {N : zN} {C : zC} {H : zH} (sh : s_h h) (K : CS h own cap T X dy ft F A O N C H) (Z : zP W cap F A O N H) (k : ∀ h', CS h' own cap T X dy ft F A O (n_exp (zBx X dy) N) (c_exps (zBx X dy) F N C) H → fC h h' → rm h h' → Q none h') : w_c 2 88 [.ref 16] h Q := by
  have z1 := Z.1
  have cd := K.2.2.1
  have hd := cd.1
  have G0 : ∀ b g, g < 12 → ¬ (g < F.1 ∧ F.2 g = true) → fb_sm (N.1 g) b = 0 := fun b g hg hn => sm_0 (fun d _ => (Z.2.2.2.1 g hg hn).1 d)
  have loop : ∀ v, tV X.1 X.2.1 X.2.2 dy 2 = some v → ∀ w f, f + w = 12 → ∀ h1, CS h1 own cap T X dy ft F A O (fun g d => if g < f ∧ d < zBx X dy then 0 else N.1 g d, N.2) (C.1, C.2.1 + nI (fb_sm (fun g => fb_sm (N.1 g) (zBx X dy)) f), C.2.2) H → fC h h1 → rm h h1 → w_p 2 (8, 6, mc_X8_expireNotes) 31 [(0, .ref 16), (1, .int (nI v)), (2, .ref 30), (3, .int (Int32.ofNat 12)), (4, .int (nI f))] [] h1 Q := by
    intro v ev w
    have hv := tV_le K.2.1.1 (by decide) ev
    have eb := zBx_s ev
    generalize zBx X dy = b at k eb
    induction w with
    | zero =>
      intro f hf h1 K1 f1 r1
      have e : f = 12 := by omega
      subst e
      refine t_X8_expireNotes_31 (f1.sh sh) _ _ _ (K31 := fun _ _ _ _ => False) (fun _ _ _ _ z => z.elim) ⟨fun _ => k h1 ?_ f1 r1, fun z => absurd (show (Int32.ofNat 12) ≤ nI 12 from (i_le (a := 12) (b := 12) (by decide) (by decide)).mpr (Nat.le_refl _)) z⟩
      have e2 : fb_sm (fun g => fb_sm (N.1 g) b) 12 = fb_sm (fun g => fb_sm (N.1 g) b) F.1 := sm_z 12 z1 (fun g hg hg2 => G0 b g hg2 (fun y => by omega))
      rw [e2] at K1
      obtain ⟨q1, q2, q3, q4, q5, q6, q7, q8, q9, q10⟩ := K1
      refine ⟨q1, q2, q3, q4, q5, q6, q7, fun g hg hp => ?_, q9, q10⟩
      obtain ⟨q, p, d, n, y1, y2, y3⟩ := q8 g hg hp
      refine ⟨q, p, d, n, y1, y2, ?_⟩
      have e3 : (n_exp b N).1 g = (fun d => if g < 12 ∧ d < b then 0 else N.1 g d) := funext fun d => by
        show (if b ≤ d then N.1 g d else 0) = _
        by_cases w : b ≤ d
        · rw [if_pos w, if_neg (fun y => by have := y.2; omega)]
        · rw [if_neg w, if_pos ⟨by omega, by omega⟩]
      rw [e3]
      exact y3
    | succ w ih =>
      intro f hf h1 K1 f1 r1
      have sh1 := f1.sh sh
      have c5 := K1.2.2.2.2.1
      refine t_X8_expireNotes_31 sh1 _ _ _ (K31 := fun y1 y3 y4 hh => y1 = nI v ∧ y3 = Int32.ofNat 12 ∧ y4 = nI (f + 1) ∧ CS hh own cap T X dy ft F A O (fun g d => if g < f + 1 ∧ d < b then 0 else N.1 g d, N.2) (C.1, C.2.1 + nI (fb_sm (fun g => fb_sm (N.1 g) b) (f + 1)), C.2.2) H ∧ fC h hh ∧ rm h hh) (fun y1 y3 y4 hh z => ?_) ⟨fun z => ?_, fun _ => ⟨vp_in_nI (by omega) (by decide), ?_⟩⟩
      · obtain ⟨rfl, rfl, rfl, q1, q2, q3⟩ := z
        exact ih (f + 1) (by omega) hh q1 q2 q3
      · have := (i_le (a := 12) (by decide) (by omega)).mp z
        omega
      · rw [i_cl (by omega)]
        obtain ⟨p1, p2⟩ := c5.2.2 f (by omega)
        refine ⟨fun e => ⟨rfl, rfl, nI_1 f, ?_, f1, r1⟩, fun q e => ?_⟩
        · have hn := p1 e
          have e4 : (fun g d => if g < f + 1 ∧ d < b then 0 else N.1 g d) = (fun g d => if g < f ∧ d < b then 0 else N.1 g d) := funext fun g => funext fun d => by
            by_cases z : g = f
            · rw [z, (Z.2.2.2.1 f (by omega) hn).1 d, ite_self, ite_self]
            · by_cases y : g < f ∧ d < b
              · rw [if_pos y, if_pos ⟨by omega, y.2⟩]
              · rw [if_neg y, if_neg (fun w => y ⟨by have := w.1; omega, w.2⟩)]
          rw [e4, fb_sm_succ, G0 b f (by omega) hn, Nat.add_zero]
          exact K1
        · have hpf := (p2 q e).1
          obtain ⟨q', p, d, n, y1, ⟨y2, y3, y4, y5⟩, y6⟩ := K1.2.2.2.2.2.2.2.1 f hpf.1 hpf.2
          have eq : q = q' := Option.some.inj (e.symm.trans y1)
          subst eq
          have e5 : (fun d => if f < f ∧ d < b then 0 else N.1 f d) = N.1 f := funext fun d => if_neg (fun y => by have := y.1; omega)
          have y6 : cF1 h1 q p d n (cap f) (fun d => if f < f ∧ d < b then 0 else N.1 f d) (N.2.1 f) (N.2.2.1 f) (N.2.2.2.1 f) (N.2.2.2.2 f) := y6
          rw [e5] at y6
          refine ⟨y6.1.1, p, y6.2.1, y6.2.2.2.k.1.1, ?_⟩
          rw [K1.2.2.1.2]
          have K2 := y6.2.2.2.k
          refine c_dropB (b := b) sh1 y6.2.2.2 (by omega) (fun u hu => ?_) (fun h2 e2 r2 P2 => ?_)
          · rw [fa_le, fb_subI (by rw [nI_toInt (by omega), nI_toInt (by omega)]; omega) (by rw [nI_toInt (by omega), nI_toInt (by omega)]; omega), nI_toInt (by omega), nI_toInt (by omega), nI_toInt (by omega)]
            omega
          · have sh2 := s_h.ex sh1 e2 (p3_70 K2)
            refine ⟨_, rfl, sh2, rfl, rfl, nI_1 f, ?_, ?_, ?_⟩
            · have f2 : fx h1 h2 [] [] := e2.fx sh1 (fun a ha z => absurd (p3_70 K2 a z) (by omega)) [] []
              have f3' : fx h1 (h_sI h2 524 16 (h_oi h1 524 16 + nI (fb_sm (N.1 f) b))) [(524, 16)] [] := (f2.wk (by decide) (by decide)).sI _ (Or.inl (by decide))
              have f3 : fx h1 (h_sI h2 524 16 (h_oi h1 524 16 + nI (fb_sm (N.1 f) b))) [(523, 16), (524, 16), (525, 16)] [] := f3'.wk (by decide) (by decide)
              have E3 : ex h1 (h_sI h2 524 16 (h_oi h1 524 16 + nI (fb_sm (N.1 f) b))) (fun a => a = 16 ∨ p3 p d n a) := (e2.mono (fun a _ z => Or.inr z)).sI _ (Or.inl (Or.inl rfl))
              obtain ⟨m1, m2, m3⟩ := y6.ne
              have nq : ¬ p3 p d n q := by
                rintro (z | z | z)
                · exact m1 z
                · exact m2 z
                · exact m3 z
              have g1 := e2.2 q y6.1.2.2
              have g2 := g1.2 nq
              have F2 : cF1 h2 q p d n (cap f) (fun y => if b ≤ y then N.1 f y else 0) (N.2.1 f) (N.2.2.1 f) (N.2.2.2.1 f) (N.2.2.2.2 f) := ⟨⟨g1.1.1.trans y6.1.1, y6.1.2.1, Nat.lt_of_lt_of_le y6.1.2.2 e2.1⟩, (g2.2.2 0).1.trans y6.2.1, ⟨(g2.2.2 1).2.trans y6.2.2.1.1, (g2.2.2 2).2.trans y6.2.2.1.2.1, (g2.2.2 3).2.trans y6.2.2.1.2.2.1, (g2.2.2 4).2.trans y6.2.2.1.2.2.2⟩, P2⟩
              have e4 : ex h2 (h_sI h2 524 16 (h_oi h1 524 16 + nI (fb_sm (N.1 f) b))) (fun a => a = 16) := (ex.rf _ _).sI _ (Or.inl rfl)
              have n16 : ∀ a, 70 ≤ a → ¬ (fun a => a = 16) a := fun a ha z => by have z : a = 16 := z; omega
              have kk := F2.2.2.2.k.2.2.2.1
              have F3 := F2.frm e4 (n16 _ F2.1.2.1) (n16 _ kk.1) (n16 _ kk.2.1) (n16 _ kk.2.2.1)
              refine K1.fam (Tc := fun a => a = f) z1 E3 f3 (fun a h70 _ ha => ?_) (fun k hk z => by have z : 12 + k = f := z; omega) (fun _ _ _ => rfl) (fun g hg => ⟨rfl, funext fun d => ?_, rfl, rfl, rfl, rfl⟩) (fun g hg _ _ => ?_) ⟨(f3'.oi 523 16 (by decide) (by decide)).trans K1.2.2.2.2.2.2.2.2.1.1, ?_, (f3'.oi 525 16 (by decide) (by decide)).trans K1.2.2.2.2.2.2.2.2.1.2.2⟩
              · rcases ha with z | z | z | z
                · omega
                · rw [z]; exact y3
                · rw [z]; exact y4
                · rw [z]; exact y5
              · have hg : g ≠ f := hg
                show (if g < f + 1 ∧ d < b then 0 else N.1 g d) = (if g < f ∧ d < b then 0 else N.1 g d)
                by_cases y : g < f ∧ d < b
                · rw [if_pos y, if_pos ⟨by omega, y.2⟩]
                · rw [if_neg y, if_neg (fun w => y ⟨by have := w.1; omega, w.2⟩)]
              · have hg : g = f := hg
                subst hg
                refine ⟨q, p, d, n, ?_, ⟨y2, y3, y4, y5⟩, ?_⟩
                · rw [f3.ar 30 (by decide) (by decide)]; exact y1
                · have e6 : (fun d => if g < g + 1 ∧ d < b then 0 else N.1 g d) = (fun y => if b ≤ y then N.1 g y else 0) := funext fun d => by
                    by_cases w : b ≤ d
                    · rw [if_pos w, if_neg (fun y => by have := y.2; omega)]
                    · rw [if_neg w, if_pos ⟨by omega, by omega⟩]
                  show cF1 _ q p d n (cap g) (fun d => if g < g + 1 ∧ d < b then 0 else N.1 g d) _ _ _ _
                  rw [e6]
                  exact F3
              · rw [oi_self, K1.2.2.2.2.2.2.2.2.1.2.1]
                show C.2.1 + nI _ + nI _ = C.2.1 + nI _
                rw [Int32.add_assoc, nI_add, fb_sm_succ]
            · have f2 : fx h1 h2 [] [] := e2.fx sh1 (fun a ha z => absurd (p3_70 K2 a z) (by omega)) [] []
              exact f1.tr (fx.sI (f2.wk (gs' := gC) (as' := aC) (by decide) (by decide)) _ (Or.inl (by decide)))
            · exact ⟨r2.1.trans r1.1, r2.2.trans r1.2⟩
  refine t_X8_expireNotes_0 sh (K31 := fun y1 y3 y4 hh => ∃ v, tV X.1 X.2.1 X.2.2 dy 2 = some v ∧ y1 = nI v ∧ y3 = Int32.ofNat 12 ∧ y4 = nI 0 ∧ hh = h) (fun y1 y3 y4 hh z => ?_) ?_
  · obtain ⟨v, ev, rfl, rfl, rfl, rfl⟩ := z
    refine loop v ev 12 0 (by omega) hh ?_ (fC.rf _) ⟨rfl, rfl⟩
    have e1 : (fun g d => if g < 0 ∧ d < zBx X dy then 0 else N.1 g d) = N.1 := funext fun g => funext fun d => if_neg (fun y => absurd y.1 (Nat.not_lt_zero _))
    rw [e1]
    show CS hh own cap T X dy ft F A O N (C.1, C.2.1 + nI 0, C.2.2) H
    rw [add_n0]
    exact K
  · rw [cd.2]
    refine sp_lawC sh K.2.1 (d := dy) (k := 2) (by omega) (by decide) ⟨_, rfl, sh, ?_⟩
    cases ev : tV X.1 X.2.1 X.2.2 dy 2 with
    | none =>
      rw [tL_n ev]
      refine ⟨fun z => absurd rfl z, fun _ => k h ?_ (fC.rf _) ⟨rfl, rfl⟩⟩
      rw [zBx_n ev, n_exp_0, c_exps_z C (fun _ _ => rfl)]
      exact K
    | some v =>
      have hv := tV_le K.2.1.1 (by decide) ev
      rw [tL_s ev]
      exact ⟨fun _ => ⟨v, rfl, rfl, rfl, rfl, rfl⟩, fun z => absurd z (nI_neN v (by omega))⟩
theorem MS.nt {h : mm_H} {cl : Nat} {T : zT} {X : zX} {dy : Nat} {ft : Int32} {F : zF} {A O : zV} {N N' : zN} {C : zC} {H : zH} (K : MS h cl T X dy ft F A O N C H) (e : N'.2 = N.2) (e1 : ∀ f, f < 12 → ∀ d, N'.1 f d = N.1 f d) : MS h cl T X dy ft F A O N' C H := by
  obtain ⟨k1, k2, k3, k4, k5, k6, ⟨k71, k72, k73, k74, k75⟩, k8, k9, k10, k11, k12⟩ := K
  refine ⟨k1, k2, k3, k4, k5, k6, ⟨k71, k72, k73, fun f hf d hd => by rw [e1 f hf d]; exact k74 f hf d hd, fun f hf d hd => by rw [e1 f hf d]; exact k75 f hf d hd⟩, by rw [e]; exact k8, ?_, k10, k11, k12⟩
  unfold mSt
  rw [e]
  exact k9
set_option maxHeartbeats 1000000 in
theorem m_exp {h : mm_H} {Q : Option Value → mm_H → Prop} {cap : Nat → Nat} {T : zT} {X : zX} {dy cl W : Nat} {ft : Int32} {F : zF} {A O : zV} {N : zN} {C : zC} {H : zH} (sh : s_h h) (K : MS h cl T X dy ft F A O N C H) (Z : zP W cap F A O N H) (k : ∀ h' cl', MS h' cl' T X dy ft F A O (n_exp (zBx X dy) N) (c_exps (zBx X dy) F N C) H → fM h h' → Q none h') : w_c 2 119 [.ref 44] h Q := by
  have z1 := Z.1
  have md := K.d
  obtain ⟨k1, k2, k3, k4, k5, k6, k7, k8, k9, k10, k11, k12⟩ := id K
  obtain ⟨⟨b1, b2⟩, b3, b4, b5, b6⟩ := id k7
  have zlo : ∀ c, c ≤ cl → ∀ f, f < 12 → fb_sm (N.1 f) c = 0 := fun c hc f hf => sm_0 (fun d hd => b6 f hf d (Or.inl (by omega)))
  have zab : ∀ g, F.1 ≤ g → g < 12 → ∀ d, N.1 g d = 0 := fun g h1 h2 d => (Z.2.2.2.1 g h2 (fun y => by omega)).1 d
  have skip : zBx X dy ≤ cl → Q none h := by
    intro hb
    refine k h cl ?_ (fM.rf _)
    rw [c_exps_z C (fun f hf => zlo _ hb f (by omega))]
    refine K.nt rfl (fun f hf d => ?_)
    show (if zBx X dy ≤ d then N.1 f d else 0) = N.1 f d
    by_cases w : zBx X dy ≤ d
    · rw [if_pos w]
    · rw [if_neg w, b6 f hf d (Or.inl (by omega))]
  have outer : ∀ v, tV X.1 X.2.1 X.2.2 dy 2 = some v → cl ≤ zBx X dy → zBx X dy ≤ dy → ∀ w c, c + w = zBx X dy → cl ≤ c → ∀ h1, fx h h1 [(589, 44), (598, 44)] [53] → dn h h1 → h_oi h1 589 44 = nI c → h_oi h1 598 44 = C.2.1 + nI (fb_sm (fun f => fb_sm (N.1 f) c) F.1) → mNa h1 (fun f d => if d < c then 0 else N.1 f d) → w_p 2 (9, 4, mc_X9_expires) 27 [(0, .ref 44), (1, .int (nI v)), (2, .int (nI (zBx X dy)))] [] h1 Q := by
    intro v ev hb1 hb2 w
    induction w with
    | zero =>
      intro c hc hcl h1 f1 d1 t1 t2 A1
      have ec : c = zBx X dy := by omega
      refine t_X9_expires_27 (f1.sh sh (by decide)) _ _ (K37 := fun _ _ _ _ => False) (fun _ _ _ _ z => z.elim) ⟨fun _ => ?_, fun z => absurd ?_ z⟩
      · rw [ec] at t1 t2 A1
        refine k h1 (zBx X dy) ⟨k1.fx f1 (by decide) (by decide), k2.fx f1 (by decide) (by decide) (by decide), k3.fx f1 (by decide), k4.fx f1 (by decide) (by decide), k5.fx f1 (by decide) (by decide) (by decide) (by decide) (by decide), k6.fx f1 (by decide) (by decide) (by decide) (by decide) (by decide), ⟨⟨hb2, b2⟩, (f1.oi _ _ (by decide) (by decide)).trans b3, t1, fun f hf d hd => ?_, fun f hf d hd => ?_⟩, k8.fx f1 (by decide), k9.fx f1 (by decide) (by decide) (by decide), ⟨(f1.oi _ _ (by decide) (by decide)).trans k10.1, t2, (f1.oi _ _ (by decide) (by decide)).trans k10.2.2⟩, k11.fx f1 (by decide) (by decide) (by decide), k12.fx f1 (by decide)⟩ ⟨f1.wk (by decide) (by decide), d1⟩
        · rw [A1 f hf d hd]
          show nI (if d < zBx X dy then 0 else N.1 f d) = nI (if zBx X dy ≤ d then N.1 f d else 0)
          by_cases w : d < zBx X dy
          · rw [if_pos w, if_neg (by omega)]
          · rw [if_neg w, if_pos (by omega)]
        · show (if zBx X dy ≤ d then N.1 f d else 0) = 0
          by_cases w : zBx X dy ≤ d
          · rw [if_pos w, b6 f hf d (by omega)]
          · rw [if_neg w]
      · rw [t1, i_le (by omega) (by omega)]; omega
    | succ w ih =>
      intro c hc hcl h1 f1 d1 t1 t2 A1
      have inner : ∀ u f, f + u = F.1 → ∀ h1, fx h h1 [(589, 44), (598, 44)] [53] → dn h h1 → h_oi h1 589 44 = nI c → h_oi h1 598 44 = C.2.1 + nI (fb_sm (fun f => fb_sm (N.1 f) c) F.1 + fb_sm (fun g => N.1 g c) f) → mNa h1 (fun g d => if d < c ∨ (d = c ∧ g < f) then 0 else N.1 g d) → w_p 2 (9, 4, mc_X9_expires) 37 [(0, .ref 44), (1, .int (nI v)), (2, .int (nI (zBx X dy))), (3, .int (nI f))] [] h1 Q := by
        intro u
        induction u with
        | zero =>
          intro f hf h1 f1 d1 t1 t2 A1
          have e : f = F.1 := by omega
          subst e
          have m590 : h_oi h1 590 44 = nI F.1 := (f1.oi _ _ (by decide) (by decide)).trans k4.2.1
          refine t_X9_expires_37 (f1.sh sh (by decide)) _ _ _ (K27 := fun y1 y2 hh => y1 = nI v ∧ y2 = nI (zBx X dy) ∧ hh = h_sI h1 589 44 (nI (c + 1))) (fun y1 y2 hh z => ?_) (K37 := fun _ _ _ _ => False) (fun _ _ _ _ z => z.elim) ⟨fun _ => ⟨rfl, rfl, by rw [t1, nI_1]⟩, fun z => absurd ?_ z⟩
          · obtain ⟨rfl, rfl, rfl⟩ := z
            refine ih (c + 1) (by omega) (by omega) _ (f1.sI _ (Or.inl (by decide))) (d1.sI _ (by decide)) (oi_self _ _ _ _) ?_ ?_
            · rw [oi_neG (by decide), t2]
              have e2 : fb_sm (fun f => fb_sm (N.1 f) (c + 1)) F.1 = fb_sm (fun f => fb_sm (N.1 f) c) F.1 + fb_sm (fun g => N.1 g c) F.1 := fb_sm_add (fun f => fb_sm (N.1 f) c) (fun g => N.1 g c) F.1
              rw [e2]
            · have A2 : mNa (h_sI h1 589 44 (nI (c + 1))) _ := A1
              refine A2.cong (fun g hg d hd => ?_)
              show (if d < c ∨ (d = c ∧ g < F.1) then 0 else N.1 g d) = (if d < c + 1 then 0 else N.1 g d)
              by_cases y : d < c ∨ (d = c ∧ g < F.1)
              · rw [if_pos y, if_pos (by omega)]
              · rw [if_neg y]
                by_cases y2 : d < c + 1
                · rw [if_pos y2, zab g (by omega) hg d]
                · rw [if_neg y2]
          · rw [m590, i_le (by omega) (by omega)]
            exact Nat.le_refl _
        | succ u ih2 =>
          intro f hf h1 f1 d1 t1 t2 A1
          have m590 : h_oi h1 590 44 = nI F.1 := (f1.oi _ _ (by decide) (by decide)).trans k4.2.1
          have ev2 : h_ai h1 53 (2001 * f + c) = nI (N.1 f c) := by
            rw [A1 f (by omega) c (by omega)]
            show nI (if c < c ∨ (c = c ∧ f < f) then 0 else N.1 f c) = _
            rw [if_neg (by omega)]
          have vi : vp_in (nI (2001 * f + c)) 24012 := vp_in_nI (by omega) (by decide)
          have t1' : ∀ x, h_oi (h_sI h1 598 44 x) 589 44 = nI c := fun x => (oi_neG (by decide) 44).trans t1
          refine t_X9_expires_37 (f1.sh sh (by decide)) _ _ _ (K27 := fun _ _ _ => False) (fun _ _ _ z => z.elim) (K37 := fun y1 y2 y3 hh => y1 = nI v ∧ y2 = nI (zBx X dy) ∧ y3 = nI (f + 1) ∧ hh = h_sA (h_sI h1 598 44 (C.2.1 + nI (fb_sm (fun f => fb_sm (N.1 f) c) F.1 + fb_sm (fun g => N.1 g c) (f + 1)))) 53 (2001 * f + c) 0) (fun y1 y2 y3 hh z => ?_) ⟨fun z => ?_, fun _ => ?_⟩
          · obtain ⟨rfl, rfl, rfl, rfl⟩ := z
            refine ih2 (f + 1) (by omega) _ ((f1.sI _ (Or.inl (by decide))).sA _ _ (Or.inl (by decide))) ((d1.sI _ (by decide)).sA _ _ (by decide)) (t1' (C.2.1 + nI (fb_sm (fun f => fb_sm (N.1 f) c) F.1 + fb_sm (fun g => N.1 g c) (f + 1)))) (show h_oi (h_sI h1 598 44 _) 598 44 = _ from oi_self _ _ _ _) ?_
            have A2 : mNa (h_sI h1 598 44 (C.2.1 + nI (fb_sm (fun f => fb_sm (N.1 f) c) F.1 + fb_sm (fun g => N.1 g c) (f + 1)))) _ := A1
            refine (A2.up (f := f) (d := c) (by omega) 0).cong (fun g hg d hd => ?_)
            show (va_up (fun g d => if d < c ∨ (d = c ∧ g < f) then 0 else N.1 g d) f (va_up ((fun g d => if d < c ∨ (d = c ∧ g < f) then 0 else N.1 g d) f) c 0)) g d = (if d < c ∨ (d = c ∧ g < f + 1) then 0 else N.1 g d)
            by_cases z : g = f
            · rw [z, va_up_self]
              by_cases y : d = c
              · rw [y, va_up_self, if_pos (by omega)]
              · rw [va_up_ne _ _ y]
                show (if d < c ∨ (d = c ∧ f < f) then 0 else N.1 f d) = _
                by_cases y2 : d < c
                · rw [if_pos (Or.inl y2), if_pos (Or.inl y2)]
                · rw [if_neg (by omega), if_neg (by omega)]
            · rw [va_up_ne _ _ z]
              show (if d < c ∨ (d = c ∧ g < f) then 0 else N.1 g d) = _
              by_cases y2 : d < c ∨ (d = c ∧ g < f)
              · rw [if_pos y2, if_pos (by omega)]
              · rw [if_neg y2, if_neg (by omega)]
          · rw [m590, i_le (by omega) (by omega)] at z; omega
          · rw [t1, e2001, i_cl (by omega), ev2, t2, Int32.add_assoc, nI_add, Nat.add_assoc, fb_sm_succ]
            exact ⟨vi, vi, rfl, rfl, nI_1 f, rfl⟩
      refine t_X9_expires_27 (f1.sh sh (by decide)) _ _ (K37 := fun y1 y2 y3 hh => y1 = nI v ∧ y2 = nI (zBx X dy) ∧ y3 = nI 0 ∧ hh = h1) (fun y1 y2 y3 hh z => ?_) ⟨fun z => ?_, fun _ => ⟨rfl, rfl, rfl, rfl⟩⟩
      · obtain ⟨rfl, rfl, rfl, rfl⟩ := z
        refine inner F.1 0 (by omega) hh f1 d1 t1 t2 (A1.cong (fun g hg d hd => ?_))
        show (if d < c then 0 else N.1 g d) = (if d < c ∨ (d = c ∧ g < 0) then 0 else N.1 g d)
        by_cases y : d < c
        · rw [if_pos y, if_pos (Or.inl y)]
        · rw [if_neg y, if_neg (by omega)]
      · rw [t1, i_le (by omega) (by omega)] at z; omega
  refine t_X9_expires_0 sh (K27 := fun y1 y2 hh => hh = h ∧ ((y2 ≤ nI cl ∧ zBx X dy ≤ cl) ∨ (∃ v, tV X.1 X.2.1 X.2.2 dy 2 = some v ∧ y1 = nI v ∧ y2 = nI (zBx X dy) ∧ cl ≤ zBx X dy ∧ zBx X dy ≤ dy))) (fun y1 y2 hh z => ?_) ?_
  · obtain ⟨rfl, (⟨q1, q2⟩ | ⟨v, ev, rfl, rfl, q1, q2⟩)⟩ := z
    · refine t_X9_expires_27 sh _ _ (K37 := fun _ _ _ _ => False) (fun _ _ _ _ z => z.elim) ⟨fun _ => skip q2, fun z => absurd ?_ z⟩
      rw [b4]; exact q1
    · refine outer v ev q1 q2 (zBx X dy - cl) cl (by omega) (Nat.le_refl _) hh (fx.rf _ _ _) (dn.rf _) b4 ?_ (fun f hf d hd => ?_)
      · rw [sm_0 (fun f hf => zlo cl (Nat.le_refl _) f (by omega)), add_n0]
        exact k10.2.1
      · show _ = nI (if d < cl then 0 else N.1 f d)
        rw [b5 f hf d hd]
        by_cases y : d < cl
        · rw [if_pos y, b6 f hf d (Or.inl y)]
        · rw [if_neg y]
  · rw [md.2]
    refine sp_lawM sh k2 (d := dy) (k := 2) (by omega) (by decide) ⟨_, rfl, sh, ?_⟩
    cases ev : tV X.1 X.2.1 X.2.2 dy 2 with
    | none =>
      rw [tL_n ev]
      refine ⟨fun z => absurd rfl z, fun _ => ⟨rfl, Or.inl ⟨?_, by rw [zBx_n ev]; exact Nat.zero_le _⟩⟩⟩
      exact (i_le (a := 0) (by decide) (by omega)).mpr (Nat.zero_le _)
    | some v =>
      have hv := tV_le k2.1 (by decide) ev
      have eb := zBx_s ev
      rw [tL_s ev, md.2]
      refine ⟨fun _ => ⟨rfl, ?_⟩, fun z => absurd z (nI_neN v (by omega))⟩
      by_cases y : zBx X dy ≤ cl
      · refine Or.inl ⟨?_, y⟩
        rw [fa_le, fb_subI (by rw [nI_toInt (by omega), nI_toInt (by omega)]; omega) (by rw [nI_toInt (by omega), nI_toInt (by omega)]; omega), nI_toInt (by omega), nI_toInt (by omega), nI_toInt (by omega)]
        omega
      · exact Or.inr ⟨v, rfl, rfl, by rw [eb, nI_sub (by omega)], by omega, by omega⟩
theorem z_exp {cap : Nat → Nat} {W : Nat} {F : zF} {A O : zV} {N : zN} {H : zH} (Z : zP W cap F A O N H) (b : Nat) : zP W cap F A O (n_exp b N) H := by
  obtain ⟨z1, z2, z3, z4, z5, z6, ⟨z7, z7', z7''⟩, z8⟩ := Z
  have le : ∀ f x, (n_exp b N).1 f x ≤ N.1 f x := fun f x => by
    show (if b ≤ x then N.1 f x else 0) ≤ N.1 f x
    by_cases w : b ≤ x
    · rw [if_pos w]; exact Nat.le_refl _
    · rw [if_neg w]; exact Nat.zero_le _
  have le2 : ∀ f, fb_sm ((n_exp b N).1 f) 2001 ≤ fb_sm (N.1 f) 2001 := fun f => fb_sm_le (fun x _ => le f x)
  refine ⟨z1, z2, z3, fun f hf hn => ⟨fun d => Nat.le_zero.mp (Nat.le_trans (le f d) (Nat.le_of_eq ((z4 f hf hn).1 d))), (z4 f hf hn).2⟩, z5, fun f hf => ?_, ⟨Nat.le_trans (fb_sm_le (fun f _ => le2 f)) z7, z7', z7''⟩, z8⟩
  rcases z6 f hf with y | y
  · exact Or.inl y
  · exact Or.inr (Nat.le_zero.mp (Nat.le_trans (le2 f) (Nat.le_of_eq y)))
def zDay (X : zX) (F : zF) (s : Nat × zN × zC) : Nat × zN × zC := (s.1 + 1, n_exp (zBx X (s.1 + 1)) s.2.1, c_exps (zBx X (s.1 + 1)) F s.2.1 s.2.2)
def zGo (X : zX) (F : zF) (s : Nat × zN × zC) : Nat → Nat × zN × zC
  | 0 => s
  | k + 1 => zDay X F (zGo X F s k)
theorem zGo_1 (X : zX) (F : zF) (s : Nat × zN × zC) : ∀ k, (zGo X F s k).1 = s.1 + k
  | 0 => rfl
  | k + 1 => by show (zGo X F s k).1 + 1 = _; rw [zGo_1 X F s k]; rfl
theorem z_go {cap : Nat → Nat} {W : Nat} {X : zX} {F : zF} {A O : zV} {s : Nat × zN × zC} {H : zH} (Z : zP W cap F A O s.2.1 H) : ∀ k, zP W cap F A O (zGo X F s k).2.1 H
  | 0 => Z
  | k + 1 => z_exp (z_go Z k) _
theorem CS.day {h : mm_H} {own cap : Nat → Nat} {T : zT} {X : zX} {dy : Nat} {ft : Int32} {F : zF} {A O : zV} {N : zN} {C : zC} {H : zH} (K : CS h own cap T X dy ft F A O N C H) {d2 : Nat} (hd : d2 ≤ 2000) : CS (h_sI h 521 16 (nI d2)) own cap T X d2 ft F A O N C H := by
  have f : fx h (h_sI h 521 16 (nI d2)) [(521, 16)] [] := (fx.rf _ _ _).sI _ (Or.inl (by decide))
  have d : dn h (h_sI h 521 16 (nI d2)) := (dn.rf _).sI _ (by decide)
  obtain ⟨k1, k2, k3, k4, k5, k6, k7, k8, k9, k10⟩ := K
  exact ⟨k1.fx f (by decide) (by decide), k2.fx f (by decide) (by decide) (by decide), ⟨hd, oi_self _ _ _ _⟩, k4.fx f (by decide), k5.dn f d (by decide) (by decide), k6.fx f (by decide) (by decide) (by decide) (by decide) (by decide), k7.fx f (by decide) (by decide) (by decide) (by decide) (by decide), k8.dn f d (by decide), k9.fx f (by decide) (by decide) (by decide), k10.dn f d (by decide)⟩
theorem MS.day {h : mm_H} {cl : Nat} {T : zT} {X : zX} {dy : Nat} {ft : Int32} {F : zF} {A O : zV} {N : zN} {C : zC} {H : zH} (K : MS h cl T X dy ft F A O N C H) (hd : dy + 1 ≤ 2000) : MS (h_sI h 588 44 (nI (dy + 1))) cl T X (dy + 1) ft F A O N C H := by
  have f : fx h (h_sI h 588 44 (nI (dy + 1))) [(588, 44)] [] := (fx.rf _ _ _).sI _ (Or.inl (by decide))
  obtain ⟨k1, k2, k3, k4, k5, k6, ⟨⟨k71, k71'⟩, k72, k73, k74, k75⟩, k8, k9, k10, k11, k12⟩ := K
  exact ⟨k1.fx f (by decide) (by decide), k2.fx f (by decide) (by decide) (by decide), k3.fx f (by decide), k4.fx f (by decide) (by decide), k5.fx f (by decide) (by decide) (by decide) (by decide) (by decide), k6.fx f (by decide) (by decide) (by decide) (by decide) (by decide), ⟨⟨by omega, hd⟩, oi_self _ _ _ _, (f.oi _ _ (by decide) (by decide)).trans k73, k74, fun g hg e he => k75 g hg e (by omega)⟩, k8.fx f (by decide), k9.fx f (by decide) (by decide) (by decide), k10.fx f (by decide) (by decide) (by decide), k11.fx f (by decide) (by decide) (by decide), k12.fx f (by decide)⟩
def zGk (dy : Nat) (A O : zV) (n : Nat) : Prop := dy + n ≤ 2000 ∧ A.1 = 0 ∧ O.1 = 0
theorem c_go {h : mm_H} {Q : Option Value → mm_H → Prop} {own cap : Nat → Nat} {T : zT} {X : zX} {dy W : Nat} {ft : Int32} {F : zF} {A O : zV} {N : zN} {C : zC} {H : zH} (sh : s_h h) (K : CS h own cap T X dy ft F A O N C H) (Z : zP W cap F A O N H) (n : Int32) (k0 : ¬ (1 ≤ n ∧ n ≤ 100) → Q (some (.int (-1))) h) (k1 : ∀ j, n = nI j → 1 ≤ j → j ≤ 100 → ¬ zGk dy A O j → Q (some (.int (-2))) h) (k2 : ∀ j, n = nI j → 1 ≤ j → j ≤ 100 → zGk dy A O j → ∀ h', CS h' own cap T X (zGo X F (dy, N, C) j).1 ft F A O (zGo X F (dy, N, C) j).2.1 (zGo X F (dy, N, C) j).2.2 H → fC h h' → rm h h' → Q (some (.int (nI (dy + j)))) h') : w_c 3 68 [.ref 16, .int n] h Q := by
  have cd := K.2.2.1
  have hdy := cd.1
  have n31 : h_oi h 451 31 = nI A.1 := K.2.2.2.2.2.1.1
  have n35 : h_oi h 451 35 = nI O.1 := K.2.2.2.2.2.2.1.1
  have za := Z.2.1.1
  have zo := Z.2.2.1.1
  have loop : ∀ j, n = nI j → 1 ≤ j → j ≤ 100 → zGk dy A O j → ∀ w i, i + w = j → ∀ h1, CS h1 own cap T X (zGo X F (dy, N, C) i).1 ft F A O (zGo X F (dy, N, C) i).2.1 (zGo X F (dy, N, C) i).2.2 H → fC h h1 → rm h h1 → w_p 3 (8, 3, mc_X8_go) 50 [(0, .ref 16), (1, .int (nI j)), (2, .int (nI i))] [] h1 Q := by
    intro j ej hj1 hj2 hg w
    induction w with
    | zero =>
      intro i hi h1 K1 f1 r1
      have e : i = j := by omega
      subst e
      have d1 := K1.2.2.1.2
      rw [zGo_1] at d1
      refine t_X8_go_50 (f1.sh sh) _ _ (K50 := fun _ _ _ => False) (fun _ _ _ z => z.elim) ⟨fun _ => ?_, fun z => absurd ((i_le (by omega) (by omega)).mpr (Nat.le_refl _)) z⟩
      rw [d1]
      exact k2 i ej hj1 hj2 hg h1 K1 f1 r1
    | succ w ih =>
      intro i hi h1 K1 f1 r1
      have sh1 := f1.sh sh
      have hg1 := hg.1
      have e1 : (zGo X F (dy, N, C) i).1 = dy + i := zGo_1 _ _ _ _
      refine t_X8_go_50 sh1 _ _ (K50 := fun y1 y2 hh => y1 = nI j ∧ y2 = nI (i + 1) ∧ CS hh own cap T X (zGo X F (dy, N, C) (i + 1)).1 ft F A O (zGo X F (dy, N, C) (i + 1)).2.1 (zGo X F (dy, N, C) (i + 1)).2.2 H ∧ fC h hh ∧ rm h hh) (fun y1 y2 hh z => ?_) ⟨fun z => ?_, fun _ => ?_⟩
      · obtain ⟨rfl, rfl, q1, q2, q3⟩ := z
        exact ih (i + 1) (by omega) hh q1 q2 q3
      · rw [i_le (by omega) (by omega)] at z; omega
      · rw [K1.2.2.1.2, nI_1]
        have f2 : fC h1 (h_sI h1 521 16 (nI ((zGo X F (dy, N, C) i).1 + 1))) := fx.sI (fx.rf _ _ _) _ (Or.inl (by decide))
        refine c_exp (f2.sh sh1) (K1.day (by omega)) (z_go (s := (dy, N, C)) Z i) (fun h2 K2 f3 r3 => ⟨rfl, (f2.tr f3).sh sh1, rfl, nI_1 i, K2, f1.tr (f2.tr f3), r3.1.trans r1.1, r3.2.trans r1.2⟩)
  have gk : ∀ j, n = nI j → (1 ≤ n ∧ n ≤ 100) → 1 ≤ j ∧ j ≤ 100 ∧ j < 2147483648 → True := fun _ _ _ _ => trivial
  refine t_X8_go_0 sh _ (K50 := fun y1 y2 hh => ∃ j, n = nI j ∧ 1 ≤ j ∧ j ≤ 100 ∧ zGk dy A O j ∧ y1 = nI j ∧ y2 = nI 0 ∧ hh = h) (fun y1 y2 hh z => ?_) ⟨fun c => k0 (fun y => (fa_of_lt c).2.1 y.1), fun c => ⟨fun c2 => ?_, fun c2 => k0 (fun y => c2 y.2)⟩⟩
  · obtain ⟨j, e, h1, h2, h3, rfl, rfl, rfl⟩ := z
    exact loop j e h1 h2 h3 j 0 (by omega) hh K (fC.rf _) ⟨rfl, rfl⟩
  · have c1 : 1 ≤ n := fa_of_nlt c
    obtain ⟨j, hj, rfl⟩ := nat_of (x := n) (fun z => by
      have a1 := (fa_le _ _).mp c1
      have a2 := (fa_lt _ _).mp z
      have e0 : (0 : Int32).toInt = 0 := rfl
      have e1 : (1 : Int32).toInt = 1 := rfl
      omega)
    have j1 : 1 ≤ j := (i_le (a := 1) (by decide) hj).mp c1
    have j2 : j ≤ 100 := (i_le (b := 100) hj (by decide)).mp c2
    rw [cd.2, n31, n35, nI_add]
    refine ⟨fun c3 => k1 j rfl j1 j2 (fun y => ?_), fun c3 => ⟨fun c4 => k1 j rfl j1 j2 (fun y => ?_), fun c4 => ⟨fun c5 => ⟨j, rfl, j1, j2, ⟨?_, ?_, ?_⟩, rfl, rfl, rfl⟩, fun c5 => k1 j rfl j1 j2 (fun y => ?_)⟩⟩⟩
    · have := (i_lt (a := 2000) (by decide) (by omega)).mp c3
      have := y.1
      omega
    · rw [y.2.1] at c4; exact absurd c4 (by decide)
    · have c3 : ¬ 2000 < dy + j := fun z => c3 ((i_lt (a := 2000) (by decide) (by omega)).mpr z)
      omega
    · rcases Nat.eq_zero_or_pos A.1 with z | z
      · exact z
      · exact absurd ((i_lt (a := 0) (by decide) (by omega)).mpr z) c4
    · have := (i_le (b := 0) (by omega) (by decide)).mp c5
      omega
    · rw [y.2.2] at c5; exact c5 (by decide)
theorem m_go {h : mm_H} {Q : Option Value → mm_H → Prop} {cap : Nat → Nat} {T : zT} {X : zX} {dy cl W : Nat} {ft : Int32} {F : zF} {A O : zV} {N : zN} {C : zC} {H : zH} (sh : s_h h) (K : MS h cl T X dy ft F A O N C H) (Z : zP W cap F A O N H) (n : Int32) (k0 : ¬ (1 ≤ n ∧ n ≤ 100) → Q (some (.int (-1))) h) (k1 : ∀ j, n = nI j → 1 ≤ j → j ≤ 100 → ¬ zGk dy A O j → Q (some (.int (-2))) h) (k2 : ∀ j, n = nI j → 1 ≤ j → j ≤ 100 → zGk dy A O j → ∀ h' cl', MS h' cl' T X (zGo X F (dy, N, C) j).1 ft F A O (zGo X F (dy, N, C) j).2.1 (zGo X F (dy, N, C) j).2.2 H → fM h h' → Q (some (.int (nI (dy + j)))) h') : w_c 3 120 [.ref 44, .int n] h Q := by
  have md := K.d
  have hdy := md.1
  have n31 : h_oi h 600 44 = nI A.1 := K.2.2.2.2.1.1
  have n35 : h_oi h 604 44 = nI O.1 := K.2.2.2.2.2.1.1
  have za := Z.2.1.1
  have zo := Z.2.2.1.1
  have loop : ∀ j, n = nI j → 1 ≤ j → j ≤ 100 → zGk dy A O j → ∀ w i, i + w = j → ∀ h1 cl1, MS h1 cl1 T X (zGo X F (dy, N, C) i).1 ft F A O (zGo X F (dy, N, C) i).2.1 (zGo X F (dy, N, C) i).2.2 H → fM h h1 → w_p 3 (9, 3, mc_X9_go) 45 [(0, .ref 44), (1, .int (nI j)), (2, .int (nI i))] [] h1 Q := by
    intro j ej hj1 hj2 hg w
    induction w with
    | zero =>
      intro i hi h1 cl1 K1 f1
      have e : i = j := by omega
      subst e
      have d1 := K1.d.2
      rw [zGo_1] at d1
      refine t_X9_go_45 (f1.sh sh) _ _ (K45 := fun _ _ _ => False) (fun _ _ _ z => z.elim) ⟨fun _ => ?_, fun z => absurd ((i_le (by omega) (by omega)).mpr (Nat.le_refl _)) z⟩
      rw [d1]
      exact k2 i ej hj1 hj2 hg h1 cl1 K1 f1
    | succ w ih =>
      intro i hi h1 cl1 K1 f1
      have sh1 := f1.sh sh
      have hg1 := hg.1
      have e1 : (zGo X F (dy, N, C) i).1 = dy + i := zGo_1 _ _ _ _
      refine t_X9_go_45 sh1 _ _ (K45 := fun y1 y2 hh => y1 = nI j ∧ y2 = nI (i + 1) ∧ (∃ cl2, MS hh cl2 T X (zGo X F (dy, N, C) (i + 1)).1 ft F A O (zGo X F (dy, N, C) (i + 1)).2.1 (zGo X F (dy, N, C) (i + 1)).2.2 H) ∧ fM h hh) (fun y1 y2 hh z => ?_) ⟨fun z => ?_, fun _ => ?_⟩
      · obtain ⟨rfl, rfl, ⟨cl2, q1⟩, q2⟩ := z
        exact ih (i + 1) (by omega) hh cl2 q1 q2
      · rw [i_le (by omega) (by omega)] at z; omega
      · rw [K1.d.2, nI_1]
        have f2 : fM h1 (h_sI h1 588 44 (nI ((zGo X F (dy, N, C) i).1 + 1))) := ⟨fx.sI (fx.rf _ _ _) _ (Or.inl (by decide)), (dn.rf _).sI _ (by decide)⟩
        refine m_exp (f2.sh sh1) (K1.day (by omega)) (z_go (s := (dy, N, C)) Z i) (fun h2 cl2 K2 f3 => ⟨rfl, (f2.tr f3).sh sh1, rfl, nI_1 i, ⟨cl2, K2⟩, f1.tr (f2.tr f3)⟩)
  refine t_X9_go_0 sh _ (K45 := fun y1 y2 hh => ∃ j, n = nI j ∧ 1 ≤ j ∧ j ≤ 100 ∧ zGk dy A O j ∧ y1 = nI j ∧ y2 = nI 0 ∧ hh = h) (fun y1 y2 hh z => ?_) ⟨fun c => ?_, fun c => k0 (fun y => ((f_in_nz (v := n) (a := 1) (b := 100) (by decide) (by decide)).mpr y) c)⟩
  · obtain ⟨j, e, h1, h2, h3, rfl, rfl, rfl⟩ := z
    exact loop j e h1 h2 h3 j 0 (by omega) hh cl K (fM.rf _)
  · have c := (f_in_nz (v := n) (a := 1) (b := 100) (by decide) (by decide)).mp c
    obtain ⟨j, hj, rfl⟩ := nat_of (x := n) (fun z => by
      have a1 := (fa_le _ _).mp c.1
      have a2 := (fa_lt _ _).mp z
      have e0 : (0 : Int32).toInt = 0 := rfl
      have e1 : (nI 1).toInt = 1 := rfl
      omega)
    have j1 : 1 ≤ j := (i_le (a := 1) (by decide) hj).mp c.1
    have j2 : j ≤ 100 := (i_le (b := 100) hj (by decide)).mp c.2
    rw [md.2, n31, n35, nI_add]
    refine ⟨fun c3 => k1 j rfl j1 j2 (fun y => ?_), fun c3 => ⟨fun c4 => k1 j rfl j1 j2 (fun y => ?_), fun c4 => ⟨fun c5 => ⟨j, rfl, j1, j2, ⟨?_, ?_, ?_⟩, rfl, rfl, rfl⟩, fun c5 => k1 j rfl j1 j2 (fun y => ?_)⟩⟩⟩
    · have := (i_lt (a := 2000) (by decide) (by omega)).mp c3
      have := y.1
      omega
    · rw [y.2.1] at c4; exact absurd c4 (by decide)
    · have c3 : ¬ 2000 < dy + j := fun z => c3 ((i_lt (a := 2000) (by decide) (by omega)).mpr z)
      omega
    · rcases Nat.eq_zero_or_pos A.1 with z | z
      · exact z
      · exact absurd ((i_lt (a := 0) (by decide) (by omega)).mpr z) c4
    · have := (i_le (b := 0) (by omega) (by decide)).mp c5
      omega
    · rw [y.2.2] at c5; exact c5 (by decide)
