set_option maxRecDepth 20000 in
theorem t_X7_areOf_31_0 {h : mm_H} {Q : Option Value → mm_H → Prop} (sh : s_h h) (f : Int32) {K2 : Int32 → Int32 → mm_H → Prop} (k2 : ∀ (f : Int32) (x2 : Int32) (h : mm_H), K2 f x2 h → w_p 0 (7, 3, mc_X7_areOf) 2 [(0, .ref 31), (1, .int f), (2, .int x2)] [] h Q) 
    (F : K2 f 0 h) :
    w_c 0 60 [.ref 31, .int f] h Q := by
  refine w_ci (M := (7, 3, mc_X7_areOf)) rfl (Nat.le_of_ble_eq_true rfl) ?_
  show w_p _ _ 0 [(0, .ref 31), (1, .int f)] [] h Q
  refine w_b 2 2 [(2, .int 0), (0, .ref 31), (1, .int f)] [] rfl ?_
  refine w_lo [0, 1, 2] [(0, .ref 31), (1, .int f), (2, .int 0)] rfl rfl ?_
  exact k2 _ _ _ F

set_option maxRecDepth 20000 in
theorem t_X7_areOf_31_2 {h : mm_H} {Q : Option Value → mm_H → Prop} (sh : s_h h) (f : Int32) (x2 : Int32) {K2 : Int32 → Int32 → mm_H → Prop} (k2 : ∀ (f : Int32) (x2 : Int32) (h : mm_H), K2 f x2 h → w_p 0 (7, 3, mc_X7_areOf) 2 [(0, .ref 31), (1, .int f), (2, .int x2)] [] h Q) 
    (F : (((h_oi h 451 31) ≤ x2 → Q (some (.int 0)) h) ∧ (¬ ((h_oi h 451 31) ≤ x2) → (vp_in x2 10 ∧ ((¬ (h_ai h 32 x2.toNatClampNeg) = f → K2 f (x2 + 1) h) ∧ ((h_ai h 32 x2.toNatClampNeg) = f → Q (some (.int 1)) h)))))) :
    w_p 0 (7, 3, mc_X7_areOf) 2 [(0, .ref 31), (1, .int f), (2, .int x2)] [] h Q := by
  refine w_b 2 4 [(0, .ref 31), (1, .int f), (2, .int x2)] [.ref 31, .int x2] rfl ?_
  refine w_get (g := 451) rfl rfl rfl (kd_31 sh) ?_
  refine w_ic_ge (tgt := 28) (x := x2) (y := h_oi h 451 31) rfl (by decide) ⟨fun c1 => ?_, fun c1 => ?_⟩
  · have F := F.1 c1
    refine w_b 1 29 [(0, .ref 31), (1, .int f), (2, .int x2)] [.int 0] rfl ?_
    exact w_br rfl (by decide) F
  · have F := F.2 c1
    refine w_b 1 11 [(0, .ref 31), (1, .int f), (2, .int x2)] [.ref 31] rfl ?_
    refine w_getS (b := 32) rfl rfl rfl (kd_31 sh) (or_448_31 sh) ?_
    refine w_b 1 15 [(0, .ref 31), (1, .int f), (2, .int x2)] [.int x2, .ref 32] rfl ?_
    obtain ⟨g2, F⟩ := F
    refine w_iald rfl (kd_32 sh) (by rw [show h_al h 32 = 10 from (al_32 sh)]; exact g2) ?_
    refine w_b 1 17 [(0, .ref 31), (1, .int f), (2, .int x2)] [.int f, .int (h_ai h 32 x2.toNatClampNeg)] rfl ?_
    refine w_ic_ne (tgt := 22) (x := h_ai h 32 x2.toNatClampNeg) (y := f) rfl (by decide) ⟨fun c3 => ?_, fun c3 => ?_⟩
    · have F := F.1 c3
      refine w_b 2 2 [(2, .int (x2 + 1)), (0, .ref 31), (1, .int f)] [] rfl ?_
      refine w_lo [0, 1, 2] [(0, .ref 31), (1, .int f), (2, .int (x2 + 1))] rfl rfl ?_
      exact k2 _ _ _ F
    · have F := F.2 (Decidable.not_not.mp c3)
      refine w_b 1 21 [(0, .ref 31), (1, .int f), (2, .int x2)] [.int 1] rfl ?_
      exact w_br rfl (by decide) F

set_option maxRecDepth 20000 in
theorem t_X7_areOf_35_0 {h : mm_H} {Q : Option Value → mm_H → Prop} (sh : s_h h) (f : Int32) {K2 : Int32 → Int32 → mm_H → Prop} (k2 : ∀ (f : Int32) (x2 : Int32) (h : mm_H), K2 f x2 h → w_p 0 (7, 3, mc_X7_areOf) 2 [(0, .ref 35), (1, .int f), (2, .int x2)] [] h Q) 
    (F : K2 f 0 h) :
    w_c 0 60 [.ref 35, .int f] h Q := by
  refine w_ci (M := (7, 3, mc_X7_areOf)) rfl (Nat.le_of_ble_eq_true rfl) ?_
  show w_p _ _ 0 [(0, .ref 35), (1, .int f)] [] h Q
  refine w_b 2 2 [(2, .int 0), (0, .ref 35), (1, .int f)] [] rfl ?_
  refine w_lo [0, 1, 2] [(0, .ref 35), (1, .int f), (2, .int 0)] rfl rfl ?_
  exact k2 _ _ _ F

set_option maxRecDepth 20000 in
theorem t_X7_areOf_35_2 {h : mm_H} {Q : Option Value → mm_H → Prop} (sh : s_h h) (f : Int32) (x2 : Int32) {K2 : Int32 → Int32 → mm_H → Prop} (k2 : ∀ (f : Int32) (x2 : Int32) (h : mm_H), K2 f x2 h → w_p 0 (7, 3, mc_X7_areOf) 2 [(0, .ref 35), (1, .int f), (2, .int x2)] [] h Q) 
    (F : (((h_oi h 451 35) ≤ x2 → Q (some (.int 0)) h) ∧ (¬ ((h_oi h 451 35) ≤ x2) → (vp_in x2 10 ∧ ((¬ (h_ai h 36 x2.toNatClampNeg) = f → K2 f (x2 + 1) h) ∧ ((h_ai h 36 x2.toNatClampNeg) = f → Q (some (.int 1)) h)))))) :
    w_p 0 (7, 3, mc_X7_areOf) 2 [(0, .ref 35), (1, .int f), (2, .int x2)] [] h Q := by
  refine w_b 2 4 [(0, .ref 35), (1, .int f), (2, .int x2)] [.ref 35, .int x2] rfl ?_
  refine w_get (g := 451) rfl rfl rfl (kd_35 sh) ?_
  refine w_ic_ge (tgt := 28) (x := x2) (y := h_oi h 451 35) rfl (by decide) ⟨fun c1 => ?_, fun c1 => ?_⟩
  · have F := F.1 c1
    refine w_b 1 29 [(0, .ref 35), (1, .int f), (2, .int x2)] [.int 0] rfl ?_
    exact w_br rfl (by decide) F
  · have F := F.2 c1
    refine w_b 1 11 [(0, .ref 35), (1, .int f), (2, .int x2)] [.ref 35] rfl ?_
    refine w_getS (b := 36) rfl rfl rfl (kd_35 sh) (or_448_35 sh) ?_
    refine w_b 1 15 [(0, .ref 35), (1, .int f), (2, .int x2)] [.int x2, .ref 36] rfl ?_
    obtain ⟨g2, F⟩ := F
    refine w_iald rfl (kd_36 sh) (by rw [show h_al h 36 = 10 from (al_36 sh)]; exact g2) ?_
    refine w_b 1 17 [(0, .ref 35), (1, .int f), (2, .int x2)] [.int f, .int (h_ai h 36 x2.toNatClampNeg)] rfl ?_
    refine w_ic_ne (tgt := 22) (x := h_ai h 36 x2.toNatClampNeg) (y := f) rfl (by decide) ⟨fun c3 => ?_, fun c3 => ?_⟩
    · have F := F.1 c3
      refine w_b 2 2 [(2, .int (x2 + 1)), (0, .ref 35), (1, .int f)] [] rfl ?_
      refine w_lo [0, 1, 2] [(0, .ref 35), (1, .int f), (2, .int (x2 + 1))] rfl rfl ?_
      exact k2 _ _ _ F
    · have F := F.2 (Decidable.not_not.mp c3)
      refine w_b 1 21 [(0, .ref 35), (1, .int f), (2, .int x2)] [.int 1] rfl ?_
      exact w_br rfl (by decide) F

set_option maxRecDepth 20000 in
theorem t_X8_leave_0 {h : mm_H} {Q : Option Value → mm_H → Prop} (sh : s_h h) (f : Int32) 
    (F : w_c 0 87 [.ref 16, .int f] h (fun r h1 => ∃ z2 : Option Nat, r = some (va_rf z2) ∧ s_h h1 ∧ ((z2 = none → Q (some (.int (-1))) h1) ∧ (∀ a4 : Nat, z2 = some a4 → (h_kd h1 a4 = 1 ∧ ((0 < (h_oi h1 1 a4) → Q (some (.int (-2))) h1) ∧ (¬ (0 < (h_oi h1 1 a4)) → w_c 0 60 [.ref 31, .int f] h1 (fun r h7 => ∃ z8 : Int32, r = some (.int z8) ∧ s_h h7 ∧ ((¬ z8 = 0 → Q (some (.int (-2))) h7) ∧ (z8 = 0 → w_c 0 60 [.ref 35, .int f] h7 (fun r h10 => ∃ z11 : Int32, r = some (.int z11) ∧ s_h h10 ∧ ((z11 = 0 → (h_kd h10 a4 = 1 ∧ (∃ b14 : Nat, (h_or h10 0 a4) = some b14 ∧ (h_kd h10 b14 = 4 ∧ (vp_in f 12 ∧ Q (some (.int (h_oi h10 195 b14))) (h_sQ (h_sI h10 525 16 ((h_oi h10 525 16) + (h_oi h10 195 b14))) 30 f.toNatClampNeg none)))))) ∧ (¬ (z11 = 0) → Q (some (.int (-2))) h10))))))))))))) :
    w_c 2 70 [.ref 16, .int f] h Q := by
  refine w_ci (M := (8, 4, mc_X8_leave)) rfl (Nat.le_of_ble_eq_true rfl) ?_
  show w_p _ _ 0 [(0, .ref 16), (1, .int f)] [] h Q
  refine w_b 2 2 [(0, .ref 16), (1, .int f)] [.int f, .ref 16] rfl ?_
  refine w_cv (As := [.int f]) (b := 16) (rest := []) rfl rfl rfl (Nat.le_of_ble_eq_true rfl) (kd_16 sh) (fun z => absurd z (by decide)) (dc := 0) (by omega) (F.mono (fun r h1 F => ?_))
  obtain ⟨z2, rfl, sh1, F⟩ := F
  show w_p _ _ 5 [(0, .ref 16), (1, .int f)] [va_rf z2] h1 _
  refine w_astN (r := z2) (lo2 := [(2, va_rf z2), (0, .ref 16), (1, .int f)]) rfl (by decide) rfl ?_
  refine w_aldN (r := z2) rfl rfl ?_
  refine w_ifnonnull (tgt := 12) (r := z2) rfl (by decide) ⟨fun c3 => ?_, fun a4 c3 => ?_⟩
  · have F := F.1 c3
    refine w_b 1 11 [(2, va_rf z2), (0, .ref 16), (1, .int f)] [.int (-1)] rfl ?_
    exact w_ir rfl F
  · have F := F.2 a4 c3
    simp only [c3] ; show w_p _ _ 12 [(2, .ref a4), (0, .ref 16), (1, .int f)] [] h1 _
    refine w_b 1 13 [(2, .ref a4), (0, .ref 16), (1, .int f)] [.ref a4] rfl ?_
    obtain ⟨g5, F⟩ := F
    refine w_get (g := 1) rfl rfl rfl g5 ?_
    refine w_if_gt (tgt := 41) (x := h_oi h1 1 a4) rfl (by decide) ⟨fun c6 => ?_, fun c6 => ?_⟩
    · have F := F.1 c6
      refine w_b 1 43 [(2, .ref a4), (0, .ref 16), (1, .int f)] [.int (-2)] rfl ?_
      exact w_ir rfl F
    · have F := F.2 c6
      refine w_b 1 20 [(2, .ref a4), (0, .ref 16), (1, .int f)] [.ref 16] rfl ?_
      refine w_getS (b := 31) rfl rfl rfl (kd_16 sh1) (or_516_16 sh1) ?_
      refine w_b 1 24 [(2, .ref a4), (0, .ref 16), (1, .int f)] [.int f, .ref 31] rfl ?_
      refine w_cv (As := [.int f]) (b := 31) (rest := []) rfl rfl rfl (Nat.le_of_ble_eq_true rfl) (kd_31 sh1) (fun z => absurd z (by decide)) (dc := 0) (by omega) (F.mono (fun r h7 F => ?_))
      obtain ⟨z8, rfl, sh7, F⟩ := F
      show w_p _ _ 27 [(2, .ref a4), (0, .ref 16), (1, .int f)] [.int z8] h7 _
      refine w_if_ne (tgt := 41) (x := z8) rfl (by decide) ⟨fun c9 => ?_, fun c9 => ?_⟩
      · have F := F.1 c9
        refine w_b 1 43 [(2, .ref a4), (0, .ref 16), (1, .int f)] [.int (-2)] rfl ?_
        exact w_ir rfl F
      · have F := F.2 (Decidable.not_not.mp c9)
        refine w_b 1 31 [(2, .ref a4), (0, .ref 16), (1, .int f)] [.ref 16] rfl ?_
        refine w_getS (b := 35) rfl rfl rfl (kd_16 sh7) (or_517_16 sh7) ?_
        refine w_b 1 35 [(2, .ref a4), (0, .ref 16), (1, .int f)] [.int f, .ref 35] rfl ?_
        refine w_cv (As := [.int f]) (b := 35) (rest := []) rfl rfl rfl (Nat.le_of_ble_eq_true rfl) (kd_35 sh7) (fun z => absurd z (by decide)) (dc := 0) (by omega) (F.mono (fun r h10 F => ?_))
        obtain ⟨z11, rfl, sh10, F⟩ := F
        show w_p _ _ 38 [(2, .ref a4), (0, .ref 16), (1, .int f)] [.int z11] h10 _
        refine w_if_eq (tgt := 44) (x := z11) rfl (by decide) ⟨fun c12 => ?_, fun c12 => ?_⟩
        · have F := F.1 c12
          refine w_b 1 45 [(2, .ref a4), (0, .ref 16), (1, .int f)] [.ref a4] rfl ?_
          obtain ⟨g13, F⟩ := F
          refine w_getR (g := 0) rfl rfl rfl g13 ?_
          obtain ⟨b14, e15, F⟩ := F
          rw [e15]
          show w_p _ _ 48 [(2, .ref a4), (0, .ref 16), (1, .int f)] [.ref b14] h10 _
          obtain ⟨g16, F⟩ := F
          refine w_get (g := 195) rfl rfl rfl g16 ?_
          refine w_b 3 54 [(3, .int (h_oi h10 195 b14)), (2, .ref a4), (0, .ref 16), (1, .int f)] [.ref 16, .ref 16] rfl ?_
          refine w_get (g := 525) rfl rfl rfl (kd_16 sh10) ?_
          refine w_b 2 59 [(3, .int (h_oi h10 195 b14)), (2, .ref a4), (0, .ref 16), (1, .int f)] [.int ((h_oi h10 525 16) + (h_oi h10 195 b14)), .ref 16] rfl ?_
          refine w_put (g := 525) (x := (h_oi h10 525 16) + (h_oi h10 195 b14)) rfl rfl rfl (kd_16 sh10) (by decide) ?_
          refine w_b 1 63 [(3, .int (h_oi h10 195 b14)), (2, .ref a4), (0, .ref 16), (1, .int f)] [.ref 16] rfl ?_
          refine w_getS (b := 30) rfl rfl rfl (kd_16 sh10) (or_515_16 sh10) ?_
          refine w_b 1 67 [(3, .int (h_oi h10 195 b14)), (2, .ref a4), (0, .ref 16), (1, .int f)] [.int f, .ref 30] rfl ?_
          refine w_b 1 68 [(3, .int (h_oi h10 195 b14)), (2, .ref a4), (0, .ref 16), (1, .int f)] [va_rf none, .int f, .ref 30] rfl ?_
          obtain ⟨g17, F⟩ := F
          refine w_aast (y := none) rfl (by decide) (by rw [show h_al (h_sI h10 525 16 ((h_oi h10 525 16) + (h_oi h10 195 b14))) 30 = 12 from (al_30 sh10)]; exact g17) (Or.inl ⟨(kd_30 sh10), (fun w z => by cases z)⟩) ?_
          refine w_b 1 70 [(3, .int (h_oi h10 195 b14)), (2, .ref a4), (0, .ref 16), (1, .int f)] [.int (h_oi h10 195 b14)] rfl ?_
          exact w_ir rfl F
        · have F := F.2 c12
          refine w_b 1 43 [(2, .ref a4), (0, .ref 16), (1, .int f)] [.int (-2)] rfl ?_
          exact w_ir rfl F

set_option maxRecDepth 20000 in
theorem t_X9_leave_0 {h : mm_H} {Q : Option Value → mm_H → Prop} (sh : s_h h) (f : Int32) {K27 : Int32 → Int32 → Int32 → mm_H → Prop} (k27 : ∀ (f : Int32) (x2 : Int32) (x3 : Int32) (h : mm_H), K27 f x2 x3 h → w_p 2 (9, 5, mc_X9_leave) 27 [(0, .ref 44), (1, .int f), (2, .int x2), (3, .int x3)] [] h Q) 
    (F : w_c 1 118 [.ref 44, .int f] h (fun r h1 => ∃ z2 : Int32, r = some (.int z2) ∧ s_h h1 ∧ ((¬ z2 = 0 → (vp_in f 12 ∧ (((h_ai h1 50 f.toNatClampNeg) ≤ 0 → K27 f 0 0 h1) ∧ (¬ ((h_ai h1 50 f.toNatClampNeg) ≤ 0) → K27 f 1 0 h1)))) ∧ (z2 = 0 → Q (some (.int (-1))) h1)))) :
    w_c 2 123 [.ref 44, .int f] h Q := by
  refine w_ci (M := (9, 5, mc_X9_leave)) rfl (Nat.le_of_ble_eq_true rfl) ?_
  show w_p _ _ 0 [(0, .ref 44), (1, .int f)] [] h Q
  refine w_b 2 2 [(0, .ref 44), (1, .int f)] [.int f, .ref 44] rfl ?_
  refine w_cv (As := [.int f]) (b := 44) (rest := []) rfl rfl rfl (Nat.le_of_ble_eq_true rfl) (kd_44 sh) (fun z => absurd z (by decide)) (dc := 1) (by omega) (F.mono (fun r h1 F => ?_))
  obtain ⟨z2, rfl, sh1, F⟩ := F
  show w_p _ _ 5 [(0, .ref 44), (1, .int f)] [.int z2] h1 _
  refine w_if_ne (tgt := 10) (x := z2) rfl (by decide) ⟨fun c3 => ?_, fun c3 => ?_⟩
  · have F := F.1 c3
    refine w_b 1 11 [(0, .ref 44), (1, .int f)] [.ref 44] rfl ?_
    refine w_getS (b := 50) rfl rfl rfl (kd_44 sh1) (or_592_44 sh1) ?_
    refine w_b 1 15 [(0, .ref 44), (1, .int f)] [.int f, .ref 50] rfl ?_
    obtain ⟨g4, F⟩ := F
    refine w_iald rfl (kd_50 sh1) (by rw [show h_al h1 50 = 12 from (al_50 sh1)]; exact g4) ?_
    refine w_if_le (tgt := 23) (x := h_ai h1 50 f.toNatClampNeg) rfl (by decide) ⟨fun c5 => ?_, fun c5 => ?_⟩
    · have F := F.1 c5
      refine w_b 4 27 [(3, .int 0), (2, .int 0), (0, .ref 44), (1, .int f)] [] rfl ?_
      refine w_lo [0, 1, 2, 3] [(0, .ref 44), (1, .int f), (2, .int 0), (3, .int 0)] rfl rfl ?_
      exact k27 _ _ _ _ F
    · have F := F.2 c5
      refine w_b 5 27 [(3, .int 0), (2, .int 1), (0, .ref 44), (1, .int f)] [] rfl ?_
      refine w_lo [0, 1, 2, 3] [(0, .ref 44), (1, .int f), (2, .int 1), (3, .int 0)] rfl rfl ?_
      exact k27 _ _ _ _ F
  · have F := F.2 (Decidable.not_not.mp c3)
    refine w_b 1 9 [(0, .ref 44), (1, .int f)] [.int (-1)] rfl ?_
    exact w_ir rfl F

set_option maxRecDepth 20000 in
theorem t_X9_leave_27 {h : mm_H} {Q : Option Value → mm_H → Prop} (sh : s_h h) (f : Int32) (x2 : Int32) (x3 : Int32) {K27 : Int32 → Int32 → Int32 → mm_H → Prop} (k27 : ∀ (f : Int32) (x2 : Int32) (x3 : Int32) (h : mm_H), K27 f x2 x3 h → w_p 2 (9, 5, mc_X9_leave) 27 [(0, .ref 44), (1, .int f), (2, .int x2), (3, .int x3)] [] h Q) {K63 : Int32 → Int32 → Int32 → mm_H → Prop} (k63 : ∀ (f : Int32) (x2 : Int32) (x3 : Int32) (h : mm_H), K63 f x2 x3 h → w_p 2 (9, 5, mc_X9_leave) 63 [(0, .ref 44), (1, .int f), (2, .int x2), (3, .int x3)] [] h Q) 
    (F : (((h_oi h 600 44) ≤ x3 → K63 f x2 0 h) ∧ (¬ ((h_oi h 600 44) ≤ x3) → ((¬ x2 = 0 → K27 f 1 (x3 + 1) h) ∧ (x2 = 0 → (vp_in x3 10 ∧ ((¬ (h_ai h 55 x3.toNatClampNeg) = f → K27 f 0 (x3 + 1) h) ∧ ((h_ai h 55 x3.toNatClampNeg) = f → K27 f 1 (x3 + 1) h)))))))) :
    w_p 2 (9, 5, mc_X9_leave) 27 [(0, .ref 44), (1, .int f), (2, .int x2), (3, .int x3)] [] h Q := by
  refine w_b 2 29 [(0, .ref 44), (1, .int f), (2, .int x2), (3, .int x3)] [.ref 44, .int x3] rfl ?_
  refine w_get (g := 600) rfl rfl rfl (kd_44 sh) ?_
  refine w_ic_ge (tgt := 61) (x := x3) (y := h_oi h 600 44) rfl (by decide) ⟨fun c1 => ?_, fun c1 => ?_⟩
  · have F := F.1 c1
    refine w_b 2 63 [(3, .int 0), (0, .ref 44), (1, .int f), (2, .int x2)] [] rfl ?_
    refine w_lo [0, 1, 2, 3] [(0, .ref 44), (1, .int f), (2, .int x2), (3, .int 0)] rfl rfl ?_
    exact k63 _ _ _ _ F
  · have F := F.2 c1
    refine w_b 1 36 [(0, .ref 44), (1, .int f), (2, .int x2), (3, .int x3)] [.int x2] rfl ?_
    refine w_if_ne (tgt := 49) (x := x2) rfl (by decide) ⟨fun c2 => ?_, fun c2 => ?_⟩
    · have F := F.1 c2
      refine w_b 5 27 [(3, .int (x3 + 1)), (2, .int 1), (0, .ref 44), (1, .int f)] [] rfl ?_
      refine w_lo [0, 1, 2, 3] [(0, .ref 44), (1, .int f), (2, .int 1), (3, .int (x3 + 1))] rfl rfl ?_
      exact k27 _ _ _ _ F
    · have F := F.2 (Decidable.not_not.mp c2)
      refine w_b 1 40 [(0, .ref 44), (1, .int f), (2, .int x2), (3, .int x3)] [.ref 44] rfl ?_
      refine w_getS (b := 55) rfl rfl rfl (kd_44 sh) (or_601_44 sh) ?_
      refine w_b 1 44 [(0, .ref 44), (1, .int f), (2, .int x2), (3, .int x3)] [.int x3, .ref 55] rfl ?_
      obtain ⟨g3, F⟩ := F
      refine w_iald rfl (kd_55 sh) (by rw [show h_al h 55 = 10 from (al_55 sh)]; exact g3) ?_
      refine w_b 1 46 [(0, .ref 44), (1, .int f), (2, .int x2), (3, .int x3)] [.int f, .int (h_ai h 55 x3.toNatClampNeg)] rfl ?_
      refine w_ic_ne (tgt := 53) (x := h_ai h 55 x3.toNatClampNeg) (y := f) rfl (by decide) ⟨fun c4 => ?_, fun c4 => ?_⟩
      · have F := F.1 c4
        refine w_b 4 27 [(3, .int (x3 + 1)), (2, .int 0), (0, .ref 44), (1, .int f)] [] rfl ?_
        refine w_lo [0, 1, 2, 3] [(0, .ref 44), (1, .int f), (2, .int 0), (3, .int (x3 + 1))] rfl rfl ?_
        exact k27 _ _ _ _ F
      · have F := F.2 (Decidable.not_not.mp c4)
        refine w_b 5 27 [(3, .int (x3 + 1)), (2, .int 1), (0, .ref 44), (1, .int f)] [] rfl ?_
        refine w_lo [0, 1, 2, 3] [(0, .ref 44), (1, .int f), (2, .int 1), (3, .int (x3 + 1))] rfl rfl ?_
        exact k27 _ _ _ _ F

set_option maxRecDepth 20000 in
theorem t_X9_leave_63 {h : mm_H} {Q : Option Value → mm_H → Prop} (sh : s_h h) (f : Int32) (x2 : Int32) (x3 : Int32) {K63 : Int32 → Int32 → Int32 → mm_H → Prop} (k63 : ∀ (f : Int32) (x2 : Int32) (x3 : Int32) (h : mm_H), K63 f x2 x3 h → w_p 2 (9, 5, mc_X9_leave) 63 [(0, .ref 44), (1, .int f), (2, .int x2), (3, .int x3)] [] h Q) {K126 : Int32 → Int32 → Int32 → Int32 → mm_H → Prop} (k126 : ∀ (f : Int32) (x2 : Int32) (x3 : Int32) (x4 : Int32) (h : mm_H), K126 f x2 x3 x4 h → w_p 2 (9, 5, mc_X9_leave) 126 [(0, .ref 44), (1, .int f), (2, .int x2), (3, .int x3), (4, .int x4)] [] h Q) 
    (F : (((h_oi h 604 44) ≤ x3 → ((x2 = 0 → w_c 0 121 [.ref 44, .int f] h (fun r h3 => ∃ z4 : Int32, r = some (.int z4) ∧ s_h h3 ∧ K126 f x2 z4 (h_oi h3 589 44) (h_sI h3 599 44 ((h_oi h3 599 44) + z4)))) ∧ (¬ (x2 = 0) → Q (some (.int (-2))) h))) ∧ (¬ ((h_oi h 604 44) ≤ x3) → ((¬ x2 = 0 → K63 f 1 (x3 + 1) h) ∧ (x2 = 0 → (vp_in x3 10 ∧ ((¬ (h_ai h 58 x3.toNatClampNeg) = f → K63 f 0 (x3 + 1) h) ∧ ((h_ai h 58 x3.toNatClampNeg) = f → K63 f 1 (x3 + 1) h)))))))) :
    w_p 2 (9, 5, mc_X9_leave) 63 [(0, .ref 44), (1, .int f), (2, .int x2), (3, .int x3)] [] h Q := by
  refine w_b 2 65 [(0, .ref 44), (1, .int f), (2, .int x2), (3, .int x3)] [.ref 44, .int x3] rfl ?_
  refine w_get (g := 604) rfl rfl rfl (kd_44 sh) ?_
  refine w_ic_ge (tgt := 97) (x := x3) (y := h_oi h 604 44) rfl (by decide) ⟨fun c1 => ?_, fun c1 => ?_⟩
  · have F := F.1 c1
    refine w_b 1 98 [(0, .ref 44), (1, .int f), (2, .int x2), (3, .int x3)] [.int x2] rfl ?_
    refine w_if_eq (tgt := 104) (x := x2) rfl (by decide) ⟨fun c2 => ?_, fun c2 => ?_⟩
    · have F := F.1 c2
      refine w_b 2 106 [(0, .ref 44), (1, .int f), (2, .int x2), (3, .int x3)] [.int f, .ref 44] rfl ?_
      refine w_cv (As := [.int f]) (b := 44) (rest := []) rfl rfl rfl (Nat.le_of_ble_eq_true rfl) (kd_44 sh) (fun z => absurd z (by decide)) (dc := 0) (by omega) (F.mono (fun r h3 F => ?_))
      obtain ⟨z4, rfl, sh3, F⟩ := F
      show w_p _ _ 109 [(0, .ref 44), (1, .int f), (2, .int x2), (3, .int x3)] [.int z4] h3 _
      refine w_b 3 112 [(3, .int z4), (0, .ref 44), (1, .int f), (2, .int x2)] [.ref 44, .ref 44] rfl ?_
      refine w_get (g := 599) rfl rfl rfl (kd_44 sh3) ?_
      refine w_b 2 117 [(3, .int z4), (0, .ref 44), (1, .int f), (2, .int x2)] [.int ((h_oi h3 599 44) + z4), .ref 44] rfl ?_
      refine w_put (g := 599) (x := (h_oi h3 599 44) + z4) rfl rfl rfl (kd_44 sh3) (by decide) ?_
      refine w_b 1 121 [(3, .int z4), (0, .ref 44), (1, .int f), (2, .int x2)] [.ref 44] rfl ?_
      refine w_get (g := 589) rfl rfl rfl (kd_44 sh3) ?_
      refine w_b 1 126 [(4, .int (h_oi h3 589 44)), (3, .int z4), (0, .ref 44), (1, .int f), (2, .int x2)] [] rfl ?_
      refine w_lo [0, 1, 2, 3, 4] [(0, .ref 44), (1, .int f), (2, .int x2), (3, .int z4), (4, .int (h_oi h3 589 44))] rfl rfl ?_
      exact k126 _ _ _ _ _ F
    · have F := F.2 c2
      refine w_b 1 103 [(0, .ref 44), (1, .int f), (2, .int x2), (3, .int x3)] [.int (-2)] rfl ?_
      exact w_ir rfl F
  · have F := F.2 c1
    refine w_b 1 72 [(0, .ref 44), (1, .int f), (2, .int x2), (3, .int x3)] [.int x2] rfl ?_
    refine w_if_ne (tgt := 85) (x := x2) rfl (by decide) ⟨fun c5 => ?_, fun c5 => ?_⟩
    · have F := F.1 c5
      refine w_b 5 63 [(3, .int (x3 + 1)), (2, .int 1), (0, .ref 44), (1, .int f)] [] rfl ?_
      refine w_lo [0, 1, 2, 3] [(0, .ref 44), (1, .int f), (2, .int 1), (3, .int (x3 + 1))] rfl rfl ?_
      exact k63 _ _ _ _ F
    · have F := F.2 (Decidable.not_not.mp c5)
      refine w_b 1 76 [(0, .ref 44), (1, .int f), (2, .int x2), (3, .int x3)] [.ref 44] rfl ?_
      refine w_getS (b := 58) rfl rfl rfl (kd_44 sh) (or_605_44 sh) ?_
      refine w_b 1 80 [(0, .ref 44), (1, .int f), (2, .int x2), (3, .int x3)] [.int x3, .ref 58] rfl ?_
      obtain ⟨g6, F⟩ := F
      refine w_iald rfl (kd_58 sh) (by rw [show h_al h 58 = 10 from (al_58 sh)]; exact g6) ?_
      refine w_b 1 82 [(0, .ref 44), (1, .int f), (2, .int x2), (3, .int x3)] [.int f, .int (h_ai h 58 x3.toNatClampNeg)] rfl ?_
      refine w_ic_ne (tgt := 89) (x := h_ai h 58 x3.toNatClampNeg) (y := f) rfl (by decide) ⟨fun c7 => ?_, fun c7 => ?_⟩
      · have F := F.1 c7
        refine w_b 4 63 [(3, .int (x3 + 1)), (2, .int 0), (0, .ref 44), (1, .int f)] [] rfl ?_
        refine w_lo [0, 1, 2, 3] [(0, .ref 44), (1, .int f), (2, .int 0), (3, .int (x3 + 1))] rfl rfl ?_
        exact k63 _ _ _ _ F
      · have F := F.2 (Decidable.not_not.mp c7)
        refine w_b 5 63 [(3, .int (x3 + 1)), (2, .int 1), (0, .ref 44), (1, .int f)] [] rfl ?_
        refine w_lo [0, 1, 2, 3] [(0, .ref 44), (1, .int f), (2, .int 1), (3, .int (x3 + 1))] rfl rfl ?_
        exact k63 _ _ _ _ F

set_option maxRecDepth 20000 in
theorem t_X9_leave_126 {h : mm_H} {Q : Option Value → mm_H → Prop} (sh : s_h h) (f : Int32) (x2 : Int32) (x3 : Int32) (x4 : Int32) {K126 : Int32 → Int32 → Int32 → Int32 → mm_H → Prop} (k126 : ∀ (f : Int32) (x2 : Int32) (x3 : Int32) (x4 : Int32) (h : mm_H), K126 f x2 x3 x4 h → w_p 2 (9, 5, mc_X9_leave) 126 [(0, .ref 44), (1, .int f), (2, .int x2), (3, .int x3), (4, .int x4)] [] h Q) 
    (F : (((h_oi h 588 44) < x4 → (vp_in f 12 ∧ Q (some (.int x3)) (h_sA h 49 f.toNatClampNeg (vp_nar .boolean 1)))) ∧ (¬ ((h_oi h 588 44) < x4) → (vp_in (((2001 : Int32) * f) + x4) 24012 ∧ K126 f x2 x3 (x4 + 1) (h_sA h 53 ((((2001 : Int32) * f) + x4).toNatClampNeg) 0))))) :
    w_p 2 (9, 5, mc_X9_leave) 126 [(0, .ref 44), (1, .int f), (2, .int x2), (3, .int x3), (4, .int x4)] [] h Q := by
  refine w_b 2 129 [(0, .ref 44), (1, .int f), (2, .int x2), (3, .int x3), (4, .int x4)] [.ref 44, .int x4] rfl ?_
  refine w_get (g := 588) rfl rfl rfl (kd_44 sh) ?_
  refine w_ic_gt (tgt := 155) (x := x4) (y := h_oi h 588 44) rfl (by decide) ⟨fun c1 => ?_, fun c1 => ?_⟩
  · have F := F.1 c1
    refine w_b 1 156 [(0, .ref 44), (1, .int f), (2, .int x2), (3, .int x3), (4, .int x4)] [.ref 44] rfl ?_
    refine w_getS (b := 49) rfl rfl rfl (kd_44 sh) (or_591_44 sh) ?_
    refine w_b 2 161 [(0, .ref 44), (1, .int f), (2, .int x2), (3, .int x3), (4, .int x4)] [.int 1, .int f, .ref 49] rfl ?_
    obtain ⟨g2, F⟩ := F
    refine w_zast rfl (kd_49 sh) (by decide) (by rw [show h_al h 49 = 12 from (al_49 sh)]; exact g2) ?_
    refine w_b 1 163 [(0, .ref 44), (1, .int f), (2, .int x2), (3, .int x3), (4, .int x4)] [.int x3] rfl ?_
    exact w_ir rfl F
  · have F := F.2 c1
    refine w_b 1 136 [(0, .ref 44), (1, .int f), (2, .int x2), (3, .int x3), (4, .int x4)] [.ref 44] rfl ?_
    refine w_getS (b := 53) rfl rfl rfl (kd_44 sh) (or_595_44 sh) ?_
    refine w_b 6 148 [(0, .ref 44), (1, .int f), (2, .int x2), (3, .int x3), (4, .int x4)] [.int 0, .int (((2001 : Int32) * f) + x4), .ref 53] rfl ?_
    obtain ⟨g3, F⟩ := F
    refine w_iast rfl (kd_53 sh) (by decide) (by rw [show h_al h 53 = 24012 from (al_53 sh)]; exact g3) ?_
    refine w_b 2 126 [(4, .int (x4 + 1)), (0, .ref 44), (1, .int f), (2, .int x2), (3, .int x3)] [] rfl ?_
    refine w_lo [0, 1, 2, 3, 4] [(0, .ref 44), (1, .int f), (2, .int x2), (3, .int x3), (4, .int (x4 + 1))] rfl rfl ?_
    exact k126 _ _ _ _ _ F

/-! LEAVING -/
theorem z_join {cap : Nat → Nat} {W dy c' : Nat} {X : zX} {F : zF} {A O : zV} {N : zN} {H : zH} (Z : zP W cap F A O N H) (hX : xC X.1 X.2.1 X.2.2) (hc : F.1 < 12) (hdy : dy ≤ 2000) (hW : W + 1000 ≤ 1000000) (hc' : c' ≤ 4096) : zP (W + 1000) (va_up cap F.1 c') (f_join F) A O (n_join X dy F N) H := by
  obtain ⟨z1, ⟨z2, z2'⟩, ⟨z3, z3'⟩, z4, z5, z6, ⟨z7, z7', z7''⟩, z8⟩ := Z
  have hv : zLw X dy 0 ≤ 400 := tV_gle hX (by decide)
  have z0 : fb_sm (fun _ => 0) 2001 = 0 := sm_0 (fun _ _ => rfl)
  have ab := z4 F.1 hc (fun z => absurd z.1 (Nat.lt_irrefl _))
  have snew : fb_sm (va_up (fun _ => 0) dy (zLw X dy 0)) 2001 = zLw X dy 0 := by
    have := sm_up (fun _ => 0) (i := dy) (v := zLw X dy 0) (n := 2001) (by omega)
    rw [z0] at this
    have this : _ + 0 = 0 + _ := this
    omega
  have pr' : ∀ g, g < F.1 → (f_join F).2 g = F.2 g := fun g hg => va_up_ne _ _ (by omega)
  refine ⟨hc, ⟨z2, fun i hi => ?_⟩, ⟨z3, fun i hi => ?_⟩, fun g hg hn => ?_, fun g h1 h2 => ?_, fun g hg => ?_, ⟨?_, hW, fun g hg => ?_⟩, z8⟩
  · obtain ⟨⟨y1, y2⟩, y3⟩ := z2' i hi
    exact ⟨⟨Nat.lt_succ_of_lt y1, by rw [pr' _ y1]; exact y2⟩, y3⟩
  · obtain ⟨⟨y1, y2⟩, y3⟩ := z3' i hi
    exact ⟨⟨Nat.lt_succ_of_lt y1, by rw [pr' _ y1]; exact y2⟩, y3⟩
  · have hne : g ≠ F.1 := fun z => hn ⟨by rw [z]; exact Nat.lt_succ_self _, by rw [z]; exact va_up_self _ _ _⟩
    obtain ⟨y1, y2⟩ := z4 g hg (fun y => hn ⟨Nat.lt_succ_of_lt y.1, by rw [pr' _ y.1]; exact y.2⟩)
    refine ⟨fun d => ?_, y2⟩
    show va_up N.1 F.1 _ g d = 0
    rw [va_up_ne _ _ hne]
    exact y1 d
  · have h1 : F.1 + 1 ≤ g := h1
    obtain ⟨y1, y2, y3, y4, y5⟩ := z5 g (by omega) h2
    exact ⟨(va_up_ne _ _ (by omega)).trans y1, y2, y3, y4, (va_up_ne _ _ (by omega)).trans y5⟩
  · by_cases z : g = F.1
    · rw [z]; exact Or.inl ab.2
    · show _ ∨ fb_sm (va_up N.1 F.1 _ g) 2001 = 0
      rw [va_up_ne _ _ z]; exact z6 g hg
  · have e1 : fb_sm (fun f => fb_sm ((n_join X dy F N).1 f) 2001) 12 = fb_sm (va_up (fun f => fb_sm (N.1 f) 2001) F.1 (zLw X dy 0)) 12 := fb_sm_cong (fun g hg => by
      show fb_sm (va_up N.1 F.1 _ g) 2001 = _
      by_cases z : g = F.1
      · rw [z, va_up_self, va_up_self, snew]
      · rw [va_up_ne _ _ z, va_up_ne _ _ z])
    rw [e1]
    have e2 := sm_up (fun f => fb_sm (N.1 f) 2001) (i := F.1) (v := zLw X dy 0) (n := 12) hc
    omega
  · by_cases z : g = F.1
    · rw [z, va_up_self]
      exact ⟨by show N.2.1 F.1 ≤ _; rw [ab.2]; exact Nat.zero_le _, hc'⟩
    · rw [va_up_ne _ _ z]
      obtain ⟨y1, y2⟩ := z7'' g hg
      exact ⟨by show N.2.1 g ≤ _; omega, y2⟩
def zLv (A O : zV) (N : zN) (f : Nat) : Prop := N.2.1 f = 0 ∧ (∀ i, i < A.1 → A.2.1 i ≠ f) ∧ ∀ i, i < O.1 → O.2.1 i ≠ f
def f_leave (F : zF) (f : Nat) : zF := (F.1, va_up F.2 f false)
def n_leave (N : zN) (f : Nat) : zN := (va_up N.1 f (fun _ => 0), N.2)
theorem z_leave {cap : Nat → Nat} {W f : Nat} {F : zF} {A O : zV} {N : zN} {H : zH} (Z : zP W cap F A O N H) (hf : f < F.1) (hl : zLv A O N f) : zP W cap (f_leave F f) A O (n_leave N f) H := by
  obtain ⟨z1, ⟨z2, z2'⟩, ⟨z3, z3'⟩, z4, z5, z6, ⟨z7, z7', z7''⟩, z8⟩ := Z
  obtain ⟨l1, l2, l3⟩ := hl
  have z0 : fb_sm (fun _ => 0) 2001 = 0 := sm_0 (fun _ _ => rfl)
  refine ⟨z1, ⟨z2, fun i hi => ?_⟩, ⟨z3, fun i hi => ?_⟩, fun g hg hn => ?_, fun g h1 h2 => ?_, fun g hg => ?_, ⟨?_, z7', z7''⟩, z8⟩
  · obtain ⟨⟨y1, y2⟩, y3⟩ := z2' i hi
    exact ⟨⟨y1, (va_up_ne _ _ (l2 i hi)).trans y2⟩, y3⟩
  · obtain ⟨⟨y1, y2⟩, y3⟩ := z3' i hi
    exact ⟨⟨y1, (va_up_ne _ _ (l3 i hi)).trans y2⟩, y3⟩
  · by_cases z : g = f
    · rw [z]
      exact ⟨fun d => by show va_up N.1 f _ f d = 0; rw [va_up_self], l1⟩
    · obtain ⟨y1, y2⟩ := z4 g hg (fun y => hn ⟨y.1, (va_up_ne _ _ z).trans y.2⟩)
      exact ⟨fun d => by show va_up N.1 f _ g d = 0; rw [va_up_ne _ _ z]; exact y1 d, y2⟩
  · have h1 : F.1 ≤ g := h1
    obtain ⟨y1, y2, y3, y4, y5⟩ := z5 g h1 h2
    exact ⟨(va_up_ne _ _ (by omega)).trans y1, y2, y3, y4, y5⟩
  · by_cases z : g = f
    · rw [z]; exact Or.inl l1
    · show _ ∨ fb_sm (va_up N.1 f _ g) 2001 = 0
      rw [va_up_ne _ _ z]; exact z6 g hg
  · have e1 : fb_sm (fun g => fb_sm ((n_leave N f).1 g) 2001) 12 = fb_sm (va_up (fun g => fb_sm (N.1 g) 2001) f 0) 12 := fb_sm_cong (fun g hg => by
      show fb_sm (va_up N.1 f _ g) 2001 = _
      by_cases z : g = f
      · rw [z, va_up_self, va_up_self, z0]
      · rw [va_up_ne _ _ z, va_up_ne _ _ z])
    rw [e1]
    have e2 := sm_up (fun g => fb_sm (N.1 g) 2001) (i := f) (v := 0) (n := 12) (by omega)
    omega
theorem c_areOf31 {h : mm_H} {Q : Option Value → mm_H → Prop} (sh : s_h h) {n : Nat} {vf va vb : Nat → Nat} (V : cV h 31 n vf va vb) (hn : n ≤ 10) {f : Nat} (hf : f < 2147483648) (hb : ∀ i, i < n → vf i < 2147483648) (k0 : (∀ i, i < n → vf i ≠ f) → Q (some (.int 0)) h) (k1 : ¬ (∀ i, i < n → vf i ≠ f) → Q (some (.int 1)) h) : w_c 0 60 [.ref 31, .int (nI f)] h Q := by
  obtain ⟨v1, v2⟩ := V
  have loop : ∀ w j, j + w = n → (∀ i, i < j → vf i ≠ f) → w_p 0 (7, 3, mc_X7_areOf) 2 [(0, .ref 31), (1, .int (nI f)), (2, .int (nI j))] [] h Q := by
    intro w
    induction w with
    | zero =>
      intro j hj hq
      refine t_X7_areOf_31_2 sh _ _ (K2 := fun _ _ _ => False) (fun _ _ _ z => z.elim) ⟨fun _ => k0 (fun i hi => hq i (by omega)), fun z => absurd ?_ z⟩
      rw [v1, i_le (by omega) (by omega)]; omega
    | succ w ih =>
      intro j hj hq
      refine t_X7_areOf_31_2 sh _ _ (K2 := fun y1 y2 hh => y1 = nI f ∧ y2 = nI (j + 1) ∧ hh = h ∧ vf j ≠ f) (fun y1 y2 hh z => ?_) ⟨fun z => ?_, fun _ => ⟨vp_in_nI (by omega) (by decide), ?_⟩⟩
      · obtain ⟨rfl, rfl, rfl, y⟩ := z
        refine ih (j + 1) (by omega) (fun i hi => ?_)
        by_cases w : i = j
        · rw [w]; exact y
        · exact hq i (by omega)
      · rw [v1, i_le (by omega) (by omega)] at z; omega
      · rw [i_cl (by omega), show h_ai h 32 j = nI (vf j) from (v2 j (by omega)).1, nI_eqI (hb j (by omega)) hf]
        exact ⟨fun z => ⟨rfl, nI_1 j, rfl, z⟩, fun z => k1 (fun y => y j (by omega) z)⟩
  refine t_X7_areOf_31_0 sh _ (K2 := fun y1 y2 hh => y1 = nI f ∧ y2 = nI 0 ∧ hh = h) (fun y1 y2 hh z => ?_) ⟨rfl, rfl, rfl⟩
  obtain ⟨rfl, rfl, rfl⟩ := z
  exact loop n 0 (by omega) (fun i hi => absurd hi (Nat.not_lt_zero _))
theorem c_areOf35 {h : mm_H} {Q : Option Value → mm_H → Prop} (sh : s_h h) {n : Nat} {vf va vb : Nat → Nat} (V : cV h 35 n vf va vb) (hn : n ≤ 10) {f : Nat} (hf : f < 2147483648) (hb : ∀ i, i < n → vf i < 2147483648) (k0 : (∀ i, i < n → vf i ≠ f) → Q (some (.int 0)) h) (k1 : ¬ (∀ i, i < n → vf i ≠ f) → Q (some (.int 1)) h) : w_c 0 60 [.ref 35, .int (nI f)] h Q := by
  obtain ⟨v1, v2⟩ := V
  have loop : ∀ w j, j + w = n → (∀ i, i < j → vf i ≠ f) → w_p 0 (7, 3, mc_X7_areOf) 2 [(0, .ref 35), (1, .int (nI f)), (2, .int (nI j))] [] h Q := by
    intro w
    induction w with
    | zero =>
      intro j hj hq
      refine t_X7_areOf_35_2 sh _ _ (K2 := fun _ _ _ => False) (fun _ _ _ z => z.elim) ⟨fun _ => k0 (fun i hi => hq i (by omega)), fun z => absurd ?_ z⟩
      rw [v1, i_le (by omega) (by omega)]; omega
    | succ w ih =>
      intro j hj hq
      refine t_X7_areOf_35_2 sh _ _ (K2 := fun y1 y2 hh => y1 = nI f ∧ y2 = nI (j + 1) ∧ hh = h ∧ vf j ≠ f) (fun y1 y2 hh z => ?_) ⟨fun z => ?_, fun _ => ⟨vp_in_nI (by omega) (by decide), ?_⟩⟩
      · obtain ⟨rfl, rfl, rfl, y⟩ := z
        refine ih (j + 1) (by omega) (fun i hi => ?_)
        by_cases w : i = j
        · rw [w]; exact y
        · exact hq i (by omega)
      · rw [v1, i_le (by omega) (by omega)] at z; omega
      · rw [i_cl (by omega), show h_ai h 36 j = nI (vf j) from (v2 j (by omega)).1, nI_eqI (hb j (by omega)) hf]
        exact ⟨fun z => ⟨rfl, nI_1 j, rfl, z⟩, fun z => k1 (fun y => y j (by omega) z)⟩
  refine t_X7_areOf_35_0 sh _ (K2 := fun y1 y2 hh => y1 = nI f ∧ y2 = nI 0 ∧ hh = h) (fun y1 y2 hh z => ?_) ⟨rfl, rfl, rfl⟩
  obtain ⟨rfl, rfl, rfl⟩ := z
  exact loop n 0 (by omega) (fun i hi => absurd hi (Nat.not_lt_zero _))
set_option maxHeartbeats 1000000 in
theorem c_leave {h : mm_H} {Q : Option Value → mm_H → Prop} {own cap : Nat → Nat} {T : zT} {X : zX} {dy W : Nat} {ft : Int32} {F : zF} {A O : zV} {N : zN} {C : zC} {H : zH} (sh : s_h h) (K : CS h own cap T X dy ft F A O N C H) (Z : zP W cap F A O N H) (f : Int32) (k0 : ¬ isP F.1 F.2 f → Q (some (.int (-1))) h) (k1 : ∀ j, f = nI j → j < F.1 → F.2 j = true → ¬ zLv A O N j → Q (some (.int (-2))) h) (k2 : ∀ j, f = nI j → j < F.1 → F.2 j = true → zLv A O N j → ∀ h', CS h' own cap T X dy ft (f_leave F j) A O (n_leave N j) (C.1, C.2.1, C.2.2 + nI (fb_sm (N.1 j) 2001)) H → fC h h' → rm h h' → Q (some (.int (nI (fb_sm (N.1 j) 2001)))) h') : w_c 2 70 [.ref 16, .int f] h Q := by
  have z1 := Z.1
  obtain ⟨c1, c2, c3, c4, c5, c6, c7, c8, c9, c10⟩ := id K
  by_cases c : isP F.1 F.2 f
  · obtain ⟨j, rfl, hj, hp⟩ := c
    refine t_X8_leave_0 sh _ ((c_famAt sh c5 c8 hj hp (fun q p d n K1 => ⟨_, rfl, sh, fun z => (by cases z), fun q' e => ?_⟩)).up (by decide))
    cases e
    obtain ⟨g1, ⟨g2, g3, g4, g5⟩, g6⟩ := K1
    have q70 : 70 ≤ q := g6.1.2.1
    have hT := g6.tot
    have ob : N.2.1 j ≤ 1000000 := by
      obtain ⟨-, -, -, -, -, -, ⟨-, y1, y2⟩, -⟩ := Z
      have := (y2 j (by omega)).1
      omega
    refine ⟨g6.1.1, ?_⟩
    rw [g6.2.2.1.1]
    refine ⟨fun c => k1 j rfl hj hp (fun y => ?_), fun c => ?_⟩
    · rw [y.1] at c; exact absurd c (by decide)
    · have ow0 : N.2.1 j = 0 := by
        rcases Nat.eq_zero_or_pos (N.2.1 j) with z | z
        · exact z
        · exact absurd ((i_lt (a := 0) (by decide) (by omega)).mpr z) c
      refine (c_areOf31 sh c6 Z.2.1.1 (by omega) (fun i hi => by have := (Z.2.1.2 i hi).1.1; omega) (fun l2 => ⟨_, rfl, sh, fun z => absurd rfl z, fun _ => (c_areOf35 sh c7 Z.2.2.1.1 (by omega) (fun i hi => by have := (Z.2.2.1.2 i hi).1.1; omega) (fun l3 => ⟨_, rfl, sh, fun _ => ⟨g6.1.1, p, g6.2.1, g6.2.2.2.k.1.1, vp_in_nI (by omega) (by decide), ?_⟩, fun z => absurd rfl z⟩) (fun l3 => ⟨_, rfl, sh, fun z => absurd z (by decide), fun _ => k1 j rfl hj hp (fun y => l3 y.2.2)⟩)).up (by decide)⟩) (fun l2 => ⟨_, rfl, sh, fun _ => k1 j rfl hj hp (fun y => l2 y.2.1), fun z => absurd z (by decide)⟩)).up (by decide)
      rw [hT, i_cl (by omega), c9.2.2]
      have f' : fx h (h_sQ (h_sI h 525 16 (C.2.2 + nI (fb_sm (N.1 j) 2001))) 30 j none) [(525, 16)] [30] := ((fx.rf _ _ _).sI _ (Or.inl (by decide))).sQ _ _ (Or.inl (by decide))
      have E' : ex h (h_sQ (h_sI h 525 16 (C.2.2 + nI (fb_sm (N.1 j) 2001))) 30 j none) (fun a => a = 16 ∨ a = 30) := ((ex.rf _ _).sI _ (Or.inl (Or.inl rfl))).sQ _ _ (Or.inl (Or.inr rfl))
      have n1630 : ∀ a, 70 ≤ a → ¬ (fun a => a = 16 ∨ a = 30) a := fun a ha z => by have z : a = 16 ∨ a = 30 := z; omega
      have ar : h_ar (h_sQ (h_sI h 525 16 (C.2.2 + nI (fb_sm (N.1 j) 2001))) 30 j none) 30 = va_up (h_ar h 30) j none := ar_self _ _ _ _
      have t2 : h_oi (h_sQ (h_sI h 525 16 (C.2.2 + nI (fb_sm (N.1 j) 2001))) 30 j none) 525 16 = C.2.2 + nI (fb_sm (N.1 j) 2001) := (show h_oi (h_sI h 525 16 _) 525 16 = _ from oi_self _ _ _ _)
      have r' : rm h (h_sQ (h_sI h 525 16 (C.2.2 + nI (fb_sm (N.1 j) 2001))) 30 j none) := ⟨rfl, rfl⟩
      generalize (h_sQ (h_sI h 525 16 (C.2.2 + nI (fb_sm (N.1 j) 2001))) 30 j none) = h1 at f' E' ar t2 r' ⊢
      refine k2 j rfl hj hp ⟨ow0, l2, l3⟩ h1 ⟨c1.fx f' (by decide) (by decide), c2.fx f' (by decide) (by decide) (by decide), c3.fx f' (by decide), c4.fx f' (by decide), ?_, c6.fx f' (by decide) (by decide) (by decide) (by decide) (by decide), c7.fx f' (by decide) (by decide) (by decide) (by decide) (by decide), ?_, ⟨(f'.oi _ _ (by decide) (by decide)).trans c9.1, (f'.oi _ _ (by decide) (by decide)).trans c9.2.1, t2⟩, ?_⟩ (f'.wk (by decide) (by decide)) r'
      · refine ⟨z1, (f'.oi _ _ (by decide) (by decide)).trans c5.2.1, fun g hg => ?_⟩
        rw [ar]
        by_cases z : g = j
        · rw [z, va_up_self]
          refine ⟨fun _ y => ?_, fun q y => (by cases y)⟩
          have y2 : va_up F.2 j false j = true := y.2
          rw [va_up_self] at y2
          cases y2
        · rw [va_up_ne _ _ z]
          obtain ⟨p1, p2⟩ := c5.2.2 g hg
          have ep : (f_leave F j).2 g = F.2 g := va_up_ne _ _ z
          rw [ep]
          refine ⟨p1, fun q y => ?_⟩
          obtain ⟨w1, w2, w3, w4⟩ := p2 q y
          exact ⟨w1, w2, Nat.lt_of_lt_of_le w3 E'.1, ((E'.2 q w3).1.1).trans w4⟩
      · refine c8.upd (Tc := fun a => a = j) (F' := f_leave F j) z1 E' (fun g _ hg => by rw [ar, va_up_ne _ _ hg]) (fun a h70 _ z => absurd z (n1630 a h70)) (fun a ha _ => rfl) (fun g hg h1 h2 => ?_) (fun g hg h1 h2 => ?_)
        · have hg : g ≠ j := hg
          have h2 : va_up F.2 j false g = true := h2
          rw [va_up_ne _ _ hg] at h2
          exact ⟨⟨h1, h2⟩, rfl, va_up_ne _ _ hg, rfl, rfl, rfl, rfl⟩
        · have hg : g = j := hg
          have h2 : va_up F.2 j false g = true := h2
          rw [hg, va_up_self] at h2
          cases h2
      · exact c10.upd (Tc := fun a => a = j) E' (fun k _ => by rw [f'.ar 43 (by decide) (by decide)]) (fun a h70 _ z => absurd z (n1630 a h70)) (fun k hk z => by have z : 12 + k = j := z; omega) (fun a ha _ => rfl)
  · exact t_X8_leave_0 sh _ ((sp_famC sh c5 f (fun _ => ⟨_, rfl, sh, fun _ => k0 c, fun _ z => (by cases z)⟩) (fun j q e hj hp _ _ _ _ => absurd ⟨j, e, hj, hp⟩ c)).up (by decide))
set_option maxHeartbeats 1000000 in
theorem m_leave {h : mm_H} {Q : Option Value → mm_H → Prop} {cap : Nat → Nat} {T : zT} {X : zX} {dy cl W : Nat} {ft : Int32} {F : zF} {A O : zV} {N : zN} {C : zC} {H : zH} (sh : s_h h) (K : MS h cl T X dy ft F A O N C H) (Z : zP W cap F A O N H) (f : Int32) (k0 : ¬ isP F.1 F.2 f → Q (some (.int (-1))) h) (k1 : ∀ j, f = nI j → j < F.1 → F.2 j = true → ¬ zLv A O N j → Q (some (.int (-2))) h) (k2 : ∀ j, f = nI j → j < F.1 → F.2 j = true → zLv A O N j → ∀ h', MS h' cl T X dy ft (f_leave F j) A O (n_leave N j) (C.1, C.2.1, C.2.2 + nI (fb_sm (N.1 j) 2001)) H → fM h h' → Q (some (.int (nI (fb_sm (N.1 j) 2001)))) h') : w_c 2 123 [.ref 44, .int f] h Q := by
  have z1 := Z.1
  have z2 := Z.2.1.1
  have z3 := Z.2.2.1.1
  obtain ⟨c1, c2, c3, c4, c5, c6, c7, c8, c9, c10, c11, c12⟩ := id K
  have va0 : ∀ i, i < A.1 → A.2.1 i < 2147483648 := fun i hi => by have := (Z.2.1.2 i hi).1.1; omega
  have vo0 : ∀ i, i < O.1 → O.2.1 i < 2147483648 := fun i hi => by have := (Z.2.2.1.2 i hi).1.1; omega
  have ob : ∀ j, j < 12 → N.2.1 j ≤ 1000000 := fun j hj => by
    obtain ⟨-, -, -, -, -, -, ⟨-, y1, y2⟩, -⟩ := Z
    have := (y2 j hj).1
    omega
  have main : ∀ j, f = nI j → j < F.1 → F.2 j = true → ∀ b, (b = 0 ∨ b = 1) → (b = 0 ↔ N.2.1 j = 0) → w_p 2 (9, 5, mc_X9_leave) 27 [(0, .ref 44), (1, .int (nI j)), (2, .int b), (3, .int (nI 0))] [] h Q := by
    intro j ej hj hp b hb hb2
    have clr : zLv A O N j → ∀ x2 w d, d + w = dy + 1 → cl ≤ d → ∀ h1, fx h h1 [(599, 44)] [53] → dn h h1 → h_oi h1 599 44 = C.2.2 + nI (fb_sm (N.1 j) 2001) → mNa h1 (fun g e => if g = j ∧ e < d then 0 else N.1 g e) → w_p 2 (9, 5, mc_X9_leave) 126 [(0, .ref 44), (1, .int (nI j)), (2, .int x2), (3, .int (nI (fb_sm (N.1 j) 2001))), (4, .int (nI d))] [] h1 Q := by
      intro hl x2 w
      induction w with
      | zero =>
        intro d hd hcl h1 f1 d1 t1 A1
        have hdy := c7.1.2
        have e3 : h_oi h1 588 44 = nI dy := (f1.oi _ _ (by decide) (by decide)).trans c7.2.1
        refine t_X9_leave_126 (f1.sh sh (by decide)) _ _ _ _ (K126 := fun _ _ _ _ _ => False) (fun _ _ _ _ _ z => z.elim) ⟨fun _ => ⟨vp_in_nI (by omega) (by decide), ?_⟩, fun z => absurd ?_ z⟩
        · rw [i_cl (by omega)]
          have f2 : fx h (h_sA h1 49 j (vp_nar .boolean 1)) [(599, 44)] [49, 53] := (f1.wk (by decide) (by decide)).sA _ _ (Or.inl (by decide))
          refine k2 j ej hj hp hl _ ⟨c1.fx f2 (by decide) (by decide), c2.fx f2 (by decide) (by decide) (by decide), c3.fx f2 (by decide), ⟨z1, (f2.oi _ _ (by decide) (by decide)).trans c4.2.1, fun g hg => ?_⟩, c5.fx f2 (by decide) (by decide) (by decide) (by decide) (by decide), c6.fx f2 (by decide) (by decide) (by decide) (by decide) (by decide), ⟨c7.1, (f2.oi _ _ (by decide) (by decide)).trans c7.2.1, (f2.oi _ _ (by decide) (by decide)).trans c7.2.2.1, fun g hg e he => ?_, fun g hg e he => ?_⟩, c8.fx f2 (by decide), c9.fx f2 (by decide) (by decide) (by decide), ⟨(f2.oi _ _ (by decide) (by decide)).trans c10.1, (f2.oi _ _ (by decide) (by decide)).trans c10.2.1, t1⟩, c11.fx f2 (by decide) (by decide) (by decide), fun g g1 g2 => ?_⟩ ⟨f2.wk (by decide) (by decide), d1.sA _ _ (by decide)⟩
          · rw [ai_self, f1.ai 49 (by decide) (by decide)]
            show _ = if va_up F.2 j false g = true then 0 else 1
            by_cases z : g = j
            · rw [z, va_up_self, va_up_self]; rfl
            · rw [va_up_ne _ _ z, va_up_ne _ _ z]; exact c4.2.2 g hg
          · rw [ai_ne (by decide), A1 g hg e he]
            show nI (if g = j ∧ e < d then 0 else N.1 g e) = nI (va_up N.1 j (fun _ => 0) g e)
            by_cases z : g = j
            · rw [z, va_up_self]
              by_cases y : e < d
              · rw [if_pos ⟨rfl, y⟩]
              · rw [if_neg (fun w => y w.2), c7.2.2.2.2 j (by omega) e (Or.inr (by omega))]
            · rw [if_neg (fun w => z w.1), va_up_ne _ _ z]
          · show va_up N.1 j (fun _ => 0) g e = 0
            by_cases z : g = j
            · rw [z, va_up_self]
            · rw [va_up_ne _ _ z]; exact c7.2.2.2.2 g hg e he
          · rw [ai_self, f1.ai 49 (by decide) (by decide), va_up_ne _ _ (by have g1 : F.1 ≤ g := g1; omega)]
            exact c12 g g1 g2
        · rw [e3, i_lt (by omega) (by omega)]; omega
      | succ w ih =>
        intro d hd hcl h1 f1 d1 t1 A1
        have hdy := c7.1.2
        have e3 : h_oi h1 588 44 = nI dy := (f1.oi _ _ (by decide) (by decide)).trans c7.2.1
        refine t_X9_leave_126 (f1.sh sh (by decide)) _ _ _ _ (K126 := fun y1 y2 y3 y4 hh => y1 = nI j ∧ y2 = x2 ∧ y3 = nI (fb_sm (N.1 j) 2001) ∧ y4 = nI (d + 1) ∧ hh = h_sA h1 53 (2001 * j + d) 0) (fun y1 y2 y3 y4 hh z => ?_) ⟨fun z => ?_, fun _ => ?_⟩
        · obtain ⟨rfl, rfl, rfl, rfl, rfl⟩ := z
          refine ih (d + 1) (by omega) (by omega) _ (f1.sA _ _ (Or.inl (by decide))) (d1.sA _ _ (by decide)) t1 ((A1.up (f := j) (d := d) (by omega) 0).cong (fun g hg e he => ?_))
          show (va_up (fun g e => if g = j ∧ e < d then 0 else N.1 g e) j (va_up ((fun g e => if g = j ∧ e < d then 0 else N.1 g e) j) d 0)) g e = if g = j ∧ e < d + 1 then 0 else N.1 g e
          by_cases z : g = j
          · rw [z, va_up_self]
            by_cases y : e = d
            · rw [y, va_up_self, if_pos ⟨rfl, by omega⟩]
            · rw [va_up_ne _ _ y]
              show (if j = j ∧ e < d then 0 else N.1 j e) = _
              by_cases w : e < d
              · rw [if_pos ⟨rfl, w⟩, if_pos ⟨rfl, by omega⟩]
              · rw [if_neg (fun x => w x.2), if_neg (fun x => by have := x.2; omega)]
          · rw [va_up_ne _ _ z]
            show (if g = j ∧ e < d then 0 else N.1 g e) = _
            rw [if_neg (fun x => z x.1), if_neg (fun x => z x.1)]
        · rw [e3, i_lt (by omega) (by omega)] at z; omega
        · rw [e2001, i_cl (by omega)]
          exact ⟨vp_in_nI (by omega) (by decide), rfl, rfl, rfl, nI_1 d, rfl⟩
    have loop2 : ∀ w i, i + w = O.1 → ∀ b, (b = 0 ∨ b = 1) → (b = 0 ↔ N.2.1 j = 0 ∧ (∀ i, i < A.1 → A.2.1 i ≠ j) ∧ ∀ k, k < i → O.2.1 k ≠ j) → w_p 2 (9, 5, mc_X9_leave) 63 [(0, .ref 44), (1, .int (nI j)), (2, .int b), (3, .int (nI i))] [] h Q := by
      intro w
      induction w with
      | zero =>
        intro i hi b hb hb2
        have e : i = O.1 := by omega
        subst e
        refine t_X9_leave_63 sh _ _ _ (K63 := fun _ _ _ _ => False) (fun _ _ _ _ z => z.elim) (K126 := fun y1 y2 y3 y4 hh => y1 = nI j ∧ y3 = nI (fb_sm (N.1 j) 2001) ∧ y4 = nI cl ∧ zLv A O N j ∧ hh = h_sI h 599 44 (C.2.2 + nI (fb_sm (N.1 j) 2001))) (fun y1 y2 y3 y4 hh z => ?_) ⟨fun _ => ⟨fun c => ?_, fun c => k1 j ej hj hp (fun y => c (hb2.mpr y))⟩, fun z => absurd ?_ z⟩
        · obtain ⟨rfl, rfl, rfl, hl, rfl⟩ := z
          have f1 : fx h (h_sI h 599 44 (C.2.2 + nI (fb_sm (N.1 j) 2001))) [(599, 44)] [53] := (fx.rf _ _ _).sI _ (Or.inl (by decide))
          refine clr hl y2 (dy + 1 - cl) cl (by have := c7.1; omega) (Nat.le_refl _) _ f1 ((dn.rf _).sI _ (by decide)) (oi_self _ _ _ _) (fun g hg e he => ?_)
          show h_ai h 53 _ = nI (if g = j ∧ e < cl then 0 else N.1 g e)
          rw [c7.2.2.2.1 g hg e he]
          by_cases z : g = j ∧ e < cl
          · rw [if_pos z, c7.2.2.2.2 g hg e (Or.inl z.2)]
          · rw [if_neg z]
        · refine (m_has sh c7 (by omega) ⟨_, rfl, sh, rfl, rfl, c7.2.2.1, hb2.mp c, ?_⟩).up (by decide)
          rw [c10.2.2]
        · rw [c6.1, i_le (by omega) (by omega)]; omega
      | succ w ih =>
        intro i hi b hb hb2
        refine t_X9_leave_63 sh _ _ _ (K63 := fun y1 y2 y3 hh => y1 = nI j ∧ y3 = nI (i + 1) ∧ hh = h ∧ (y2 = 0 ∨ y2 = 1) ∧ (y2 = 0 ↔ N.2.1 j = 0 ∧ (∀ i, i < A.1 → A.2.1 i ≠ j) ∧ ∀ k, k < i + 1 → O.2.1 k ≠ j)) (fun y1 y2 y3 hh z => ?_) (K126 := fun _ _ _ _ _ => False) (fun _ _ _ _ _ z => z.elim) ⟨fun z => ?_, fun _ => ⟨fun c => ⟨rfl, nI_1 i, rfl, Or.inr rfl, fun y => absurd y (by decide), fun y => absurd (hb2.mpr ⟨y.1, y.2.1, fun k hk => y.2.2 k (by omega)⟩) c⟩, fun c => ⟨vp_in_nI (by omega) (by decide), ?_⟩⟩⟩
        · obtain ⟨rfl, rfl, rfl, q1, q2⟩ := z
          exact ih (i + 1) (by omega) y2 q1 q2
        · rw [c6.1, i_le (by omega) (by omega)] at z; omega
        · rw [i_cl (by omega), show h_ai h 58 i = nI (O.2.1 i) from (c6.2 i (by omega)).1, nI_eqI (vo0 i (by omega)) (by omega)]
          have h0 := hb2.mp c
          refine ⟨fun y => ⟨rfl, nI_1 i, rfl, Or.inl rfl, fun _ => ⟨h0.1, h0.2.1, fun k hk => ?_⟩, fun _ => rfl⟩, fun y => ⟨rfl, nI_1 i, rfl, Or.inr rfl, fun y2 => absurd y2 (by decide), fun y2 => absurd y (y2.2.2 i (by omega))⟩⟩
          by_cases w : k = i
          · rw [w]; exact y
          · exact h0.2.2 k (by omega)
    have loop1 : ∀ w i, i + w = A.1 → ∀ b, (b = 0 ∨ b = 1) → (b = 0 ↔ N.2.1 j = 0 ∧ ∀ k, k < i → A.2.1 k ≠ j) → w_p 2 (9, 5, mc_X9_leave) 27 [(0, .ref 44), (1, .int (nI j)), (2, .int b), (3, .int (nI i))] [] h Q := by
      intro w
      induction w with
      | zero =>
        intro i hi b hb hb2
        have e : i = A.1 := by omega
        subst e
        refine t_X9_leave_27 sh _ _ _ (K27 := fun _ _ _ _ => False) (fun _ _ _ _ z => z.elim) (K63 := fun y1 y2 y3 hh => y1 = nI j ∧ y2 = b ∧ y3 = nI 0 ∧ hh = h) (fun y1 y2 y3 hh z => ?_) ⟨fun _ => ⟨rfl, rfl, rfl, rfl⟩, fun z => absurd ?_ z⟩
        · obtain ⟨rfl, rfl, rfl, rfl⟩ := z
          exact loop2 O.1 0 (by omega) y2 hb ⟨fun y => ⟨(hb2.mp y).1, (hb2.mp y).2, fun k hk => absurd hk (Nat.not_lt_zero _)⟩, fun y => hb2.mpr ⟨y.1, y.2.1⟩⟩
        · rw [c5.1, i_le (by omega) (by omega)]; omega
      | succ w ih =>
        intro i hi b hb hb2
        refine t_X9_leave_27 sh _ _ _ (K27 := fun y1 y2 y3 hh => y1 = nI j ∧ y3 = nI (i + 1) ∧ hh = h ∧ (y2 = 0 ∨ y2 = 1) ∧ (y2 = 0 ↔ N.2.1 j = 0 ∧ ∀ k, k < i + 1 → A.2.1 k ≠ j)) (fun y1 y2 y3 hh z => ?_) (K63 := fun _ _ _ _ => False) (fun _ _ _ _ z => z.elim) ⟨fun z => ?_, fun _ => ⟨fun c => ⟨rfl, nI_1 i, rfl, Or.inr rfl, fun y => absurd y (by decide), fun y => absurd (hb2.mpr ⟨y.1, fun k hk => y.2 k (by omega)⟩) c⟩, fun c => ⟨vp_in_nI (by omega) (by decide), ?_⟩⟩⟩
        · obtain ⟨rfl, rfl, rfl, q1, q2⟩ := z
          exact ih (i + 1) (by omega) y2 q1 q2
        · rw [c5.1, i_le (by omega) (by omega)] at z; omega
        · rw [i_cl (by omega), show h_ai h 55 i = nI (A.2.1 i) from (c5.2 i (by omega)).1, nI_eqI (va0 i (by omega)) (by omega)]
          have h0 := hb2.mp c
          refine ⟨fun y => ⟨rfl, nI_1 i, rfl, Or.inl rfl, fun _ => ⟨h0.1, fun k hk => ?_⟩, fun _ => rfl⟩, fun y => ⟨rfl, nI_1 i, rfl, Or.inr rfl, fun y2 => absurd y2 (by decide), fun y2 => absurd y (y2.2 i (by omega))⟩⟩
          by_cases w : k = i
          · rw [w]; exact y
          · exact h0.2 k (by omega)
    exact loop1 A.1 0 (by omega) b hb ⟨fun y => ⟨hb2.mp y, fun k hk => absurd hk (Nat.not_lt_zero _)⟩, fun y => hb2.mpr y.1⟩
  refine t_X9_leave_0 sh _ (K27 := fun y1 y2 y3 hh => ∃ j, f = nI j ∧ j < F.1 ∧ F.2 j = true ∧ y1 = nI j ∧ y3 = nI 0 ∧ hh = h ∧ (y2 = 0 ∨ y2 = 1) ∧ (y2 = 0 ↔ N.2.1 j = 0)) (fun y1 y2 y3 hh z => ?_) (sp_famM sh c4 f (fun c => ⟨_, rfl, sh, fun z => absurd rfl z, fun _ => k0 c⟩) (fun j e hj hp => ⟨_, rfl, sh, fun _ => ⟨?_, ?_⟩, fun z => absurd z (by decide)⟩))
  · obtain ⟨j, e, hj, hp, rfl, rfl, rfl, q1, q2⟩ := z
    exact main j e hj hp y2 q1 q2
  · rw [e]; exact vp_in_nI (by omega) (by decide)
  · rw [e, i_cl (by omega), c8 j (by omega)]
    have obj := ob j (by omega)
    refine ⟨fun z => ⟨j, e.symm ▸ rfl, hj, hp, rfl, rfl, rfl, Or.inl rfl, fun _ => ?_, fun _ => rfl⟩, fun z => ⟨j, e.symm ▸ rfl, hj, hp, rfl, rfl, rfl, Or.inr rfl, fun y => absurd y (by decide), fun y => absurd ?_ z⟩⟩
    · have := (i_le (b := 0) (by omega) (by decide)).mp z
      omega
    · rw [y]; decide
