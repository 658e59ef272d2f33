set_option maxRecDepth 20000 in
theorem t_X8_familyAt_0 {h : mm_H} {Q : Option Value → mm_H → Prop} (sh : s_h h) (f : Int32) 
    (F : ((f < 0 → Q (some (va_rf none)) h) ∧ (¬ (f < 0) → (((h_oi h 520 16) ≤ f → Q (some (va_rf none)) h) ∧ (¬ ((h_oi h 520 16) ≤ f) → ((f < (Int32.ofNat 12) → (vp_in f 12 ∧ Q (some (va_rf (h_ar h 30 f.toNatClampNeg))) h)) ∧ (¬ (f < (Int32.ofNat 12)) → Q (some (va_rf none)) h))))))) :
    w_c 0 87 [.ref 16, .int f] h Q := by
  refine w_ci (M := (8, 2, mc_X8_familyAt)) rfl (Nat.le_of_ble_eq_true rfl) ?_
  show w_p _ _ 0 [(0, .ref 16), (1, .int f)] [] h Q
  refine w_b 1 1 [(0, .ref 16), (1, .int f)] [.int f] rfl ?_
  refine w_if_lt (tgt := 21) (x := f) rfl (by decide) ⟨fun c1 => ?_, fun c1 => ?_⟩
  · have F := F.1 c1
    refine w_b 1 22 [(0, .ref 16), (1, .int f)] [va_rf none] rfl ?_
    refine w_b 1 31 [(0, .ref 16), (1, .int f)] [va_rf none] rfl ?_
    exact w_ar (r := none) rfl F
  · have F := F.2 c1
    refine w_b 2 6 [(0, .ref 16), (1, .int f)] [.ref 16, .int f] rfl ?_
    refine w_get (g := 520) rfl rfl rfl (kd_16 sh) ?_
    refine w_ic_ge (tgt := 21) (x := f) (y := h_oi h 520 16) rfl (by decide) ⟨fun c2 => ?_, fun c2 => ?_⟩
    · have F := F.1 c2
      refine w_b 1 22 [(0, .ref 16), (1, .int f)] [va_rf none] rfl ?_
      refine w_b 1 31 [(0, .ref 16), (1, .int f)] [va_rf none] rfl ?_
      exact w_ar (r := none) rfl F
    · have F := F.2 c2
      refine w_b 2 14 [(0, .ref 16), (1, .int f)] [.ref 16, .int f] rfl ?_
      refine w_getS (b := 30) rfl rfl rfl (kd_16 sh) (or_515_16 sh) ?_
      refine w_alen rfl (by rw [kd_30 sh]; decide) ?_
      rw [show h_al h 30 = 12 from (al_30 sh)]
      refine w_ic_lt (tgt := 25) (x := f) (y := Int32.ofNat 12) rfl (by decide) ⟨fun c3 => ?_, fun c3 => ?_⟩
      · have F := F.1 c3
        refine w_b 1 26 [(0, .ref 16), (1, .int f)] [.ref 16] rfl ?_
        refine w_getS (b := 30) rfl rfl rfl (kd_16 sh) (or_515_16 sh) ?_
        refine w_b 1 30 [(0, .ref 16), (1, .int f)] [.int f, .ref 30] rfl ?_
        obtain ⟨g4, F⟩ := F
        refine w_aald rfl (by rw [kd_30 sh]; decide) (by rw [show h_al h 30 = 12 from (al_30 sh)]; exact g4) ?_
        exact w_ar (r := h_ar h 30 f.toNatClampNeg) rfl F
      · have F := F.2 c3
        refine w_b 1 22 [(0, .ref 16), (1, .int f)] [va_rf none] rfl ?_
        refine w_b 1 31 [(0, .ref 16), (1, .int f)] [va_rf none] rfl ?_
        exact w_ar (r := none) rfl F

set_option maxRecDepth 20000 in
theorem t_X7_add_31_0 {h : mm_H} {Q : Option Value → mm_H → Prop} (sh : s_h h) (f : Int32) (a : Int32) (b : Int32) 
    (F : (((h_oi h 451 31) < 10 → (vp_in (h_oi h 451 31) 10 ∧ (vp_in (h_oi h 451 31) 10 ∧ (vp_in (h_oi h 451 31) 10 ∧ Q (some (.int 1)) (h_sI (h_sA (h_sA (h_sA h 32 ((h_oi h 451 31).toNatClampNeg) f) 33 ((h_oi h 451 31).toNatClampNeg) a) 34 ((h_oi h 451 31).toNatClampNeg) b) 451 31 ((h_oi h 451 31) + 1)))))) ∧ (¬ ((h_oi h 451 31) < 10) → Q (some (.int 0)) h))) :
    w_c 0 58 [.ref 31, .int f, .int a, .int b] h Q := by
  refine w_ci (M := (7, 4, mc_X7_add)) rfl (Nat.le_of_ble_eq_true rfl) ?_
  show w_p _ _ 0 [(0, .ref 31), (1, .int f), (2, .int a), (3, .int b)] [] h Q
  refine w_b 1 1 [(0, .ref 31), (1, .int f), (2, .int a), (3, .int b)] [.ref 31] rfl ?_
  refine w_get (g := 451) rfl rfl rfl (kd_31 sh) ?_
  refine w_b 1 6 [(0, .ref 31), (1, .int f), (2, .int a), (3, .int b)] [.int 10, .int (h_oi h 451 31)] rfl ?_
  refine w_ic_lt (tgt := 11) (x := h_oi h 451 31) (y := 10) rfl (by decide) ⟨fun c1 => ?_, fun c1 => ?_⟩
  · have F := F.1 c1
    refine w_b 1 12 [(0, .ref 31), (1, .int f), (2, .int a), (3, .int b)] [.ref 31] rfl ?_
    refine w_getS (b := 32) rfl rfl rfl (kd_31 sh) (or_448_31 sh) ?_
    refine w_b 1 16 [(0, .ref 31), (1, .int f), (2, .int a), (3, .int b)] [.ref 31, .ref 32] rfl ?_
    refine w_get (g := 451) rfl rfl rfl (kd_31 sh) ?_
    refine w_b 1 20 [(0, .ref 31), (1, .int f), (2, .int a), (3, .int b)] [.int f, .int (h_oi h 451 31), .ref 32] rfl ?_
    obtain ⟨g2, F⟩ := F
    refine w_iast rfl (kd_32 sh) (by decide) (by rw [show h_al h 32 = 10 from (al_32 sh)]; exact g2) ?_
    refine w_b 1 22 [(0, .ref 31), (1, .int f), (2, .int a), (3, .int b)] [.ref 31] rfl ?_
    refine w_getS (b := 33) rfl rfl rfl (kd_31 sh) (or_449_31 sh) ?_
    refine w_b 1 26 [(0, .ref 31), (1, .int f), (2, .int a), (3, .int b)] [.ref 31, .ref 33] rfl ?_
    refine w_get (g := 451) rfl rfl rfl (kd_31 sh) ?_
    refine w_b 1 30 [(0, .ref 31), (1, .int f), (2, .int a), (3, .int b)] [.int a, .int (h_oi h 451 31), .ref 33] rfl ?_
    obtain ⟨g3, F⟩ := F
    refine w_iast rfl (kd_33 sh) (by decide) (by rw [show h_al (h_sA h 32 ((h_oi h 451 31).toNatClampNeg) f) 33 = 10 from (al_33 sh)]; exact g3) ?_
    refine w_b 1 32 [(0, .ref 31), (1, .int f), (2, .int a), (3, .int b)] [.ref 31] rfl ?_
    refine w_getS (b := 34) rfl rfl rfl (kd_31 sh) (or_450_31 sh) ?_
    refine w_b 1 36 [(0, .ref 31), (1, .int f), (2, .int a), (3, .int b)] [.ref 31, .ref 34] rfl ?_
    refine w_get (g := 451) rfl rfl rfl (kd_31 sh) ?_
    refine w_b 1 40 [(0, .ref 31), (1, .int f), (2, .int a), (3, .int b)] [.int b, .int (h_oi h 451 31), .ref 34] rfl ?_
    obtain ⟨g4, F⟩ := F
    refine w_iast rfl (kd_34 sh) (by decide) (by rw [show h_al (h_sA (h_sA h 32 ((h_oi h 451 31).toNatClampNeg) f) 33 ((h_oi h 451 31).toNatClampNeg) a) 34 = 10 from (al_34 sh)]; exact g4) ?_
    refine w_b 2 43 [(0, .ref 31), (1, .int f), (2, .int a), (3, .int b)] [.ref 31, .ref 31] rfl ?_
    refine w_get (g := 451) rfl rfl rfl (kd_31 sh) ?_
    refine w_b 2 48 [(0, .ref 31), (1, .int f), (2, .int a), (3, .int b)] [.int ((h_oi h 451 31) + 1), .ref 31] rfl ?_
    refine w_put (g := 451) (x := (h_oi h 451 31) + 1) rfl rfl rfl (kd_31 sh) (by decide) ?_
    refine w_b 1 52 [(0, .ref 31), (1, .int f), (2, .int a), (3, .int b)] [.int 1] rfl ?_
    exact w_br rfl (by decide) F
  · have F := F.2 c1
    refine w_b 1 10 [(0, .ref 31), (1, .int f), (2, .int a), (3, .int b)] [.int 0] rfl ?_
    exact w_br rfl (by decide) F

set_option maxRecDepth 20000 in
theorem t_X8_addVisit_31_0 {h : mm_H} {Q : Option Value → mm_H → Prop} (sh : s_h h) (f : Int32) (a : Int32) (b : Int32) 
    (F : w_c 0 87 [.ref 16, .int f] h (fun r h1 => ∃ z2 : Option Nat, r = some (va_rf z2) ∧ s_h h1 ∧ ((z2 = none → Q (some (.int (-1))) h1) ∧ (∀ a4 : Nat, z2 = some a4 → ((a < 0 → Q (some (.int (-1))) h1) ∧ (¬ (a < 0) → ((48 < b → Q (some (.int (-1))) h1) ∧ (¬ (48 < b) → ((a < b → w_c 0 58 [.ref 31, .int f, .int a, .int b] h1 (fun r h8 => ∃ z9 : Int32, r = some (.int z9) ∧ s_h h8 ∧ ((z9 = 0 → Q (some (.int (-3))) h8) ∧ (¬ (z9 = 0) → Q (some (.int ((h_oi h8 451 31) - (1 : Int32)))) h8)))) ∧ (¬ (a < b) → Q (some (.int (-1))) h1)))))))))) :
    w_c 1 91 [.ref 16, .ref 31, .int f, .int a, .int b] h Q := by
  refine w_ci (M := (8, 5, mc_X8_addVisit)) rfl (Nat.le_of_ble_eq_true rfl) ?_
  show w_p _ _ 0 [(0, .ref 16), (1, .ref 31), (2, .int f), (3, .int a), (4, .int b)] [] h Q
  refine w_b 2 2 [(0, .ref 16), (1, .ref 31), (2, .int f), (3, .int a), (4, .int b)] [.int f, .ref 16] rfl ?_
  refine w_cv (As := [.int f]) (b := 16) (rest := []) rfl rfl rfl (Nat.le_of_ble_eq_true rfl) (kd_16 sh) (fun z => absurd z (by decide)) (dc := 0) (by omega) (F.mono (fun r h1 F => ?_))
  obtain ⟨z2, rfl, sh1, F⟩ := F
  show w_p _ _ 5 [(0, .ref 16), (1, .ref 31), (2, .int f), (3, .int a), (4, .int b)] [va_rf z2] h1 _
  refine w_ifnull (tgt := 25) (r := z2) rfl (by decide) ⟨fun c3 => ?_, fun a4 c3 => ?_⟩
  · have F := F.1 c3
    refine w_b 1 26 [(0, .ref 16), (1, .ref 31), (2, .int f), (3, .int a), (4, .int b)] [.int (-1)] rfl ?_
    exact w_ir rfl F
  · have F := F.2 a4 c3
    refine w_b 1 9 [(0, .ref 16), (1, .ref 31), (2, .int f), (3, .int a), (4, .int b)] [.int a] rfl ?_
    refine w_if_lt (tgt := 25) (x := a) rfl (by decide) ⟨fun c5 => ?_, fun c5 => ?_⟩
    · have F := F.1 c5
      refine w_b 1 26 [(0, .ref 16), (1, .ref 31), (2, .int f), (3, .int a), (4, .int b)] [.int (-1)] rfl ?_
      exact w_ir rfl F
    · have F := F.2 c5
      refine w_b 2 16 [(0, .ref 16), (1, .ref 31), (2, .int f), (3, .int a), (4, .int b)] [.int 48, .int b] rfl ?_
      refine w_ic_gt (tgt := 25) (x := b) (y := 48) rfl (by decide) ⟨fun c6 => ?_, fun c6 => ?_⟩
      · have F := F.1 c6
        refine w_b 1 26 [(0, .ref 16), (1, .ref 31), (2, .int f), (3, .int a), (4, .int b)] [.int (-1)] rfl ?_
        exact w_ir rfl F
      · have F := F.2 c6
        refine w_b 2 22 [(0, .ref 16), (1, .ref 31), (2, .int f), (3, .int a), (4, .int b)] [.int b, .int a] rfl ?_
        refine w_ic_lt (tgt := 27) (x := a) (y := b) rfl (by decide) ⟨fun c7 => ?_, fun c7 => ?_⟩
        · have F := F.1 c7
          refine w_b 4 32 [(0, .ref 16), (1, .ref 31), (2, .int f), (3, .int a), (4, .int b)] [.int b, .int a, .int f, .ref 31] rfl ?_
          refine w_cv (As := [.int f, .int a, .int b]) (b := 31) (rest := []) rfl rfl rfl (Nat.le_of_ble_eq_true rfl) (kd_31 sh1) (fun z => absurd z (by decide)) (dc := 0) (by omega) (F.mono (fun r h8 F => ?_))
          obtain ⟨z9, rfl, sh8, F⟩ := F
          show w_p _ _ 35 [(0, .ref 16), (1, .ref 31), (2, .int f), (3, .int a), (4, .int b)] [.int z9] h8 _
          refine w_if_eq (tgt := 47) (x := z9) rfl (by decide) ⟨fun c10 => ?_, fun c10 => ?_⟩
          · have F := F.1 c10
            refine w_b 1 49 [(0, .ref 16), (1, .ref 31), (2, .int f), (3, .int a), (4, .int b)] [.int (-3)] rfl ?_
            exact w_ir rfl F
          · have F := F.2 c10
            refine w_b 1 39 [(0, .ref 16), (1, .ref 31), (2, .int f), (3, .int a), (4, .int b)] [.ref 31] rfl ?_
            refine w_get (g := 451) rfl rfl rfl (kd_31 sh8) ?_
            refine w_b 3 49 [(0, .ref 16), (1, .ref 31), (2, .int f), (3, .int a), (4, .int b)] [.int ((h_oi h8 451 31) - (1 : Int32))] rfl ?_
            exact w_ir rfl F
        · have F := F.2 c7
          refine w_b 1 26 [(0, .ref 16), (1, .ref 31), (2, .int f), (3, .int a), (4, .int b)] [.int (-1)] rfl ?_
          exact w_ir rfl F

set_option maxRecDepth 20000 in
theorem t_X7_add_35_0 {h : mm_H} {Q : Option Value → mm_H → Prop} (sh : s_h h) (f : Int32) (a : Int32) (b : Int32) 
    (F : (((h_oi h 451 35) < 10 → (vp_in (h_oi h 451 35) 10 ∧ (vp_in (h_oi h 451 35) 10 ∧ (vp_in (h_oi h 451 35) 10 ∧ Q (some (.int 1)) (h_sI (h_sA (h_sA (h_sA h 36 ((h_oi h 451 35).toNatClampNeg) f) 37 ((h_oi h 451 35).toNatClampNeg) a) 38 ((h_oi h 451 35).toNatClampNeg) b) 451 35 ((h_oi h 451 35) + 1)))))) ∧ (¬ ((h_oi h 451 35) < 10) → Q (some (.int 0)) h))) :
    w_c 0 58 [.ref 35, .int f, .int a, .int b] h Q := by
  refine w_ci (M := (7, 4, mc_X7_add)) rfl (Nat.le_of_ble_eq_true rfl) ?_
  show w_p _ _ 0 [(0, .ref 35), (1, .int f), (2, .int a), (3, .int b)] [] h Q
  refine w_b 1 1 [(0, .ref 35), (1, .int f), (2, .int a), (3, .int b)] [.ref 35] rfl ?_
  refine w_get (g := 451) rfl rfl rfl (kd_35 sh) ?_
  refine w_b 1 6 [(0, .ref 35), (1, .int f), (2, .int a), (3, .int b)] [.int 10, .int (h_oi h 451 35)] rfl ?_
  refine w_ic_lt (tgt := 11) (x := h_oi h 451 35) (y := 10) rfl (by decide) ⟨fun c1 => ?_, fun c1 => ?_⟩
  · have F := F.1 c1
    refine w_b 1 12 [(0, .ref 35), (1, .int f), (2, .int a), (3, .int b)] [.ref 35] rfl ?_
    refine w_getS (b := 36) rfl rfl rfl (kd_35 sh) (or_448_35 sh) ?_
    refine w_b 1 16 [(0, .ref 35), (1, .int f), (2, .int a), (3, .int b)] [.ref 35, .ref 36] rfl ?_
    refine w_get (g := 451) rfl rfl rfl (kd_35 sh) ?_
    refine w_b 1 20 [(0, .ref 35), (1, .int f), (2, .int a), (3, .int b)] [.int f, .int (h_oi h 451 35), .ref 36] rfl ?_
    obtain ⟨g2, F⟩ := F
    refine w_iast rfl (kd_36 sh) (by decide) (by rw [show h_al h 36 = 10 from (al_36 sh)]; exact g2) ?_
    refine w_b 1 22 [(0, .ref 35), (1, .int f), (2, .int a), (3, .int b)] [.ref 35] rfl ?_
    refine w_getS (b := 37) rfl rfl rfl (kd_35 sh) (or_449_35 sh) ?_
    refine w_b 1 26 [(0, .ref 35), (1, .int f), (2, .int a), (3, .int b)] [.ref 35, .ref 37] rfl ?_
    refine w_get (g := 451) rfl rfl rfl (kd_35 sh) ?_
    refine w_b 1 30 [(0, .ref 35), (1, .int f), (2, .int a), (3, .int b)] [.int a, .int (h_oi h 451 35), .ref 37] rfl ?_
    obtain ⟨g3, F⟩ := F
    refine w_iast rfl (kd_37 sh) (by decide) (by rw [show h_al (h_sA h 36 ((h_oi h 451 35).toNatClampNeg) f) 37 = 10 from (al_37 sh)]; exact g3) ?_
    refine w_b 1 32 [(0, .ref 35), (1, .int f), (2, .int a), (3, .int b)] [.ref 35] rfl ?_
    refine w_getS (b := 38) rfl rfl rfl (kd_35 sh) (or_450_35 sh) ?_
    refine w_b 1 36 [(0, .ref 35), (1, .int f), (2, .int a), (3, .int b)] [.ref 35, .ref 38] rfl ?_
    refine w_get (g := 451) rfl rfl rfl (kd_35 sh) ?_
    refine w_b 1 40 [(0, .ref 35), (1, .int f), (2, .int a), (3, .int b)] [.int b, .int (h_oi h 451 35), .ref 38] rfl ?_
    obtain ⟨g4, F⟩ := F
    refine w_iast rfl (kd_38 sh) (by decide) (by rw [show h_al (h_sA (h_sA h 36 ((h_oi h 451 35).toNatClampNeg) f) 37 ((h_oi h 451 35).toNatClampNeg) a) 38 = 10 from (al_38 sh)]; exact g4) ?_
    refine w_b 2 43 [(0, .ref 35), (1, .int f), (2, .int a), (3, .int b)] [.ref 35, .ref 35] rfl ?_
    refine w_get (g := 451) rfl rfl rfl (kd_35 sh) ?_
    refine w_b 2 48 [(0, .ref 35), (1, .int f), (2, .int a), (3, .int b)] [.int ((h_oi h 451 35) + 1), .ref 35] rfl ?_
    refine w_put (g := 451) (x := (h_oi h 451 35) + 1) rfl rfl rfl (kd_35 sh) (by decide) ?_
    refine w_b 1 52 [(0, .ref 35), (1, .int f), (2, .int a), (3, .int b)] [.int 1] rfl ?_
    exact w_br rfl (by decide) F
  · have F := F.2 c1
    refine w_b 1 10 [(0, .ref 35), (1, .int f), (2, .int a), (3, .int b)] [.int 0] rfl ?_
    exact w_br rfl (by decide) F

set_option maxRecDepth 20000 in
theorem t_X8_addVisit_35_0 {h : mm_H} {Q : Option Value → mm_H → Prop} (sh : s_h h) (f : Int32) (a : Int32) (b : Int32) 
    (F : w_c 0 87 [.ref 16, .int f] h (fun r h1 => ∃ z2 : Option Nat, r = some (va_rf z2) ∧ s_h h1 ∧ ((z2 = none → Q (some (.int (-1))) h1) ∧ (∀ a4 : Nat, z2 = some a4 → ((a < 0 → Q (some (.int (-1))) h1) ∧ (¬ (a < 0) → ((48 < b → Q (some (.int (-1))) h1) ∧ (¬ (48 < b) → ((a < b → w_c 0 58 [.ref 35, .int f, .int a, .int b] h1 (fun r h8 => ∃ z9 : Int32, r = some (.int z9) ∧ s_h h8 ∧ ((z9 = 0 → Q (some (.int (-3))) h8) ∧ (¬ (z9 = 0) → Q (some (.int ((h_oi h8 451 35) - (1 : Int32)))) h8)))) ∧ (¬ (a < b) → Q (some (.int (-1))) h1)))))))))) :
    w_c 1 91 [.ref 16, .ref 35, .int f, .int a, .int b] h Q := by
  refine w_ci (M := (8, 5, mc_X8_addVisit)) rfl (Nat.le_of_ble_eq_true rfl) ?_
  show w_p _ _ 0 [(0, .ref 16), (1, .ref 35), (2, .int f), (3, .int a), (4, .int b)] [] h Q
  refine w_b 2 2 [(0, .ref 16), (1, .ref 35), (2, .int f), (3, .int a), (4, .int b)] [.int f, .ref 16] rfl ?_
  refine w_cv (As := [.int f]) (b := 16) (rest := []) rfl rfl rfl (Nat.le_of_ble_eq_true rfl) (kd_16 sh) (fun z => absurd z (by decide)) (dc := 0) (by omega) (F.mono (fun r h1 F => ?_))
  obtain ⟨z2, rfl, sh1, F⟩ := F
  show w_p _ _ 5 [(0, .ref 16), (1, .ref 35), (2, .int f), (3, .int a), (4, .int b)] [va_rf z2] h1 _
  refine w_ifnull (tgt := 25) (r := z2) rfl (by decide) ⟨fun c3 => ?_, fun a4 c3 => ?_⟩
  · have F := F.1 c3
    refine w_b 1 26 [(0, .ref 16), (1, .ref 35), (2, .int f), (3, .int a), (4, .int b)] [.int (-1)] rfl ?_
    exact w_ir rfl F
  · have F := F.2 a4 c3
    refine w_b 1 9 [(0, .ref 16), (1, .ref 35), (2, .int f), (3, .int a), (4, .int b)] [.int a] rfl ?_
    refine w_if_lt (tgt := 25) (x := a) rfl (by decide) ⟨fun c5 => ?_, fun c5 => ?_⟩
    · have F := F.1 c5
      refine w_b 1 26 [(0, .ref 16), (1, .ref 35), (2, .int f), (3, .int a), (4, .int b)] [.int (-1)] rfl ?_
      exact w_ir rfl F
    · have F := F.2 c5
      refine w_b 2 16 [(0, .ref 16), (1, .ref 35), (2, .int f), (3, .int a), (4, .int b)] [.int 48, .int b] rfl ?_
      refine w_ic_gt (tgt := 25) (x := b) (y := 48) rfl (by decide) ⟨fun c6 => ?_, fun c6 => ?_⟩
      · have F := F.1 c6
        refine w_b 1 26 [(0, .ref 16), (1, .ref 35), (2, .int f), (3, .int a), (4, .int b)] [.int (-1)] rfl ?_
        exact w_ir rfl F
      · have F := F.2 c6
        refine w_b 2 22 [(0, .ref 16), (1, .ref 35), (2, .int f), (3, .int a), (4, .int b)] [.int b, .int a] rfl ?_
        refine w_ic_lt (tgt := 27) (x := a) (y := b) rfl (by decide) ⟨fun c7 => ?_, fun c7 => ?_⟩
        · have F := F.1 c7
          refine w_b 4 32 [(0, .ref 16), (1, .ref 35), (2, .int f), (3, .int a), (4, .int b)] [.int b, .int a, .int f, .ref 35] rfl ?_
          refine w_cv (As := [.int f, .int a, .int b]) (b := 35) (rest := []) rfl rfl rfl (Nat.le_of_ble_eq_true rfl) (kd_35 sh1) (fun z => absurd z (by decide)) (dc := 0) (by omega) (F.mono (fun r h8 F => ?_))
          obtain ⟨z9, rfl, sh8, F⟩ := F
          show w_p _ _ 35 [(0, .ref 16), (1, .ref 35), (2, .int f), (3, .int a), (4, .int b)] [.int z9] h8 _
          refine w_if_eq (tgt := 47) (x := z9) rfl (by decide) ⟨fun c10 => ?_, fun c10 => ?_⟩
          · have F := F.1 c10
            refine w_b 1 49 [(0, .ref 16), (1, .ref 35), (2, .int f), (3, .int a), (4, .int b)] [.int (-3)] rfl ?_
            exact w_ir rfl F
          · have F := F.2 c10
            refine w_b 1 39 [(0, .ref 16), (1, .ref 35), (2, .int f), (3, .int a), (4, .int b)] [.ref 35] rfl ?_
            refine w_get (g := 451) rfl rfl rfl (kd_35 sh8) ?_
            refine w_b 3 49 [(0, .ref 16), (1, .ref 35), (2, .int f), (3, .int a), (4, .int b)] [.int ((h_oi h8 451 35) - (1 : Int32))] rfl ?_
            exact w_ir rfl F
        · have F := F.2 c7
          refine w_b 1 26 [(0, .ref 16), (1, .ref 35), (2, .int f), (3, .int a), (4, .int b)] [.int (-1)] rfl ?_
          exact w_ir rfl F

set_option maxRecDepth 20000 in
theorem t_X8_ask_0 {h : mm_H} {Q : Option Value → mm_H → Prop} (sh : s_h h) (f : Int32) (a : Int32) (b : Int32) 
    (F : w_c 1 91 [.ref 16, .ref 31, .int f, .int a, .int b] h (fun r h1 => ∃ z2 : Int32, r = some (.int z2) ∧ s_h h1 ∧ Q (some (.int z2)) h1)) :
    w_c 2 73 [.ref 16, .int f, .int a, .int b] h Q := by
  refine w_ci (M := (8, 4, mc_X8_ask)) rfl (Nat.le_of_ble_eq_true rfl) ?_
  show w_p _ _ 0 [(0, .ref 16), (1, .int f), (2, .int a), (3, .int b)] [] h Q
  refine w_b 2 2 [(0, .ref 16), (1, .int f), (2, .int a), (3, .int b)] [.ref 16, .ref 16] rfl ?_
  refine w_getS (b := 31) rfl rfl rfl (kd_16 sh) (or_516_16 sh) ?_
  refine w_b 3 8 [(0, .ref 16), (1, .int f), (2, .int a), (3, .int b)] [.int b, .int a, .int f, .ref 31, .ref 16] rfl ?_
  refine w_cv (As := [.ref 31, .int f, .int a, .int b]) (b := 16) (rest := []) rfl rfl rfl (Nat.le_of_ble_eq_true rfl) (kd_16 sh) (fun z => absurd z (by decide)) (dc := 1) (by omega) (F.mono (fun r h1 F => ?_))
  obtain ⟨z2, rfl, sh1, F⟩ := F
  show w_p _ _ 11 [(0, .ref 16), (1, .int f), (2, .int a), (3, .int b)] [.int z2] h1 _
  exact w_ir rfl F

set_option maxRecDepth 20000 in
theorem t_X8_offer_0 {h : mm_H} {Q : Option Value → mm_H → Prop} (sh : s_h h) (f : Int32) (a : Int32) (b : Int32) 
    (F : w_c 1 91 [.ref 16, .ref 35, .int f, .int a, .int b] h (fun r h1 => ∃ z2 : Int32, r = some (.int z2) ∧ s_h h1 ∧ Q (some (.int z2)) h1)) :
    w_c 2 74 [.ref 16, .int f, .int a, .int b] h Q := by
  refine w_ci (M := (8, 4, mc_X8_offer)) rfl (Nat.le_of_ble_eq_true rfl) ?_
  show w_p _ _ 0 [(0, .ref 16), (1, .int f), (2, .int a), (3, .int b)] [] h Q
  refine w_b 2 2 [(0, .ref 16), (1, .int f), (2, .int a), (3, .int b)] [.ref 16, .ref 16] rfl ?_
  refine w_getS (b := 35) rfl rfl rfl (kd_16 sh) (or_517_16 sh) ?_
  refine w_b 3 8 [(0, .ref 16), (1, .int f), (2, .int a), (3, .int b)] [.int b, .int a, .int f, .ref 35, .ref 16] rfl ?_
  refine w_cv (As := [.ref 35, .int f, .int a, .int b]) (b := 16) (rest := []) rfl rfl rfl (Nat.le_of_ble_eq_true rfl) (kd_16 sh) (fun z => absurd z (by decide)) (dc := 1) (by omega) (F.mono (fun r h1 F => ?_))
  obtain ⟨z2, rfl, sh1, F⟩ := F
  show w_p _ _ 11 [(0, .ref 16), (1, .int f), (2, .int a), (3, .int b)] [.int z2] h1 _
  exact w_ir rfl F

set_option maxRecDepth 20000 in
theorem t_X9_isFamily_0 {h : mm_H} {Q : Option Value → mm_H → Prop} (sh : s_h h) (f : Int32) 
    (F : (((f_in f.toInt64 (Int64.ofNat 0) (((h_oi h 590 44) - (1 : Int32)).toInt64)) = 0 → Q (some (.int 0)) h) ∧ (¬ ((f_in f.toInt64 (Int64.ofNat 0) (((h_oi h 590 44) - (1 : Int32)).toInt64)) = 0) → (vp_in f 12 ∧ ((¬ (h_ai h 49 f.toNatClampNeg) = 0 → Q (some (.int 0)) h) ∧ ((h_ai h 49 f.toNatClampNeg) = 0 → Q (some (.int 1)) h)))))) :
    w_c 1 118 [.ref 44, .int f] h Q := by
  refine w_ci (M := (9, 2, mc_X9_isFamily)) rfl (Nat.le_of_ble_eq_true rfl) ?_
  show w_p _ _ 0 [(0, .ref 44), (1, .int f)] [] h Q
  refine w_b 4 4 [(0, .ref 44), (1, .int f)] [.ref 44, .long (Int64.ofNat 0), .long f.toInt64] rfl ?_
  refine w_get (g := 590) rfl rfl rfl (kd_44 sh) ?_
  refine w_b 3 10 [(0, .ref 44), (1, .int f)] [.long (((h_oi h 590 44) - (1 : Int32)).toInt64), .long (Int64.ofNat 0), .long f.toInt64] rfl ?_
  refine w_cs (As := [.long f.toInt64, .long (Int64.ofNat 0), .long (((h_oi h 590 44) - (1 : Int32)).toInt64)]) (rest := []) rfl rfl rfl (Nat.le_of_ble_eq_true rfl) (dc := 0) (by omega) (sp_in  ?_)
  show w_p _ _ 13 [(0, .ref 44), (1, .int f)] [.int (f_in f.toInt64 (Int64.ofNat 0) (((h_oi h 590 44) - (1 : Int32)).toInt64))] h _
  refine w_if_eq (tgt := 29) (x := f_in f.toInt64 (Int64.ofNat 0) (((h_oi h 590 44) - (1 : Int32)).toInt64)) rfl (by decide) ⟨fun c1 => ?_, fun c1 => ?_⟩
  · have F := F.1 c1
    refine w_b 1 30 [(0, .ref 44), (1, .int f)] [.int 0] rfl ?_
    exact w_br rfl (by decide) F
  · have F := F.2 c1
    refine w_b 1 17 [(0, .ref 44), (1, .int f)] [.ref 44] rfl ?_
    refine w_getS (b := 49) rfl rfl rfl (kd_44 sh) (or_591_44 sh) ?_
    refine w_b 1 21 [(0, .ref 44), (1, .int f)] [.int f, .ref 49] rfl ?_
    obtain ⟨g2, F⟩ := F
    refine w_bald rfl (Or.inr (kd_49 sh)) (by rw [show h_al h 49 = 12 from (al_49 sh)]; exact g2) ?_
    refine w_if_ne (tgt := 29) (x := h_ai h 49 f.toNatClampNeg) rfl (by decide) ⟨fun c3 => ?_, fun c3 => ?_⟩
    · have F := F.1 c3
      refine w_b 1 30 [(0, .ref 44), (1, .int f)] [.int 0] rfl ?_
      exact w_br rfl (by decide) F
    · have F := F.2 (Decidable.not_not.mp c3)
      refine w_b 2 30 [(0, .ref 44), (1, .int f)] [.int 1] rfl ?_
      exact w_br rfl (by decide) F

set_option maxRecDepth 20000 in
theorem t_X9_isSpan_0 {h : mm_H} {Q : Option Value → mm_H → Prop} (sh : s_h h) (f : Int32) (a : Int32) (b : Int32) 
    (F : w_c 1 118 [.ref 44, .int f] h (fun r h1 => ∃ z2 : Int32, r = some (.int z2) ∧ s_h h1 ∧ ((z2 = 0 → Q (some (.int 0)) h1) ∧ (¬ (z2 = 0) → (((f_in a.toInt64 (Int64.ofNat 0) (Int64.ofNat 48)) = 0 → Q (some (.int 0)) h1) ∧ (¬ ((f_in a.toInt64 (Int64.ofNat 0) (Int64.ofNat 48)) = 0) → (((f_in b.toInt64 (a.toInt64 + (Int64.ofNat 1)) (Int64.ofNat 48)) = 0 → Q (some (.int 0)) h1) ∧ (¬ ((f_in b.toInt64 (a.toInt64 + (Int64.ofNat 1)) (Int64.ofNat 48)) = 0) → Q (some (.int 1)) h1)))))))) :
    w_c 2 129 [.ref 44, .int f, .int a, .int b] h Q := by
  refine w_ci (M := (9, 4, mc_X9_isSpan)) rfl (Nat.le_of_ble_eq_true rfl) ?_
  show w_p _ _ 0 [(0, .ref 44), (1, .int f), (2, .int a), (3, .int b)] [] h Q
  refine w_b 2 2 [(0, .ref 44), (1, .int f), (2, .int a), (3, .int b)] [.int f, .ref 44] rfl ?_
  refine w_cv (As := [.int f]) (b := 44) (rest := []) rfl rfl rfl (Nat.le_of_ble_eq_true rfl) (kd_44 sh) (fun z => absurd z (by decide)) (dc := 1) (by omega) (F.mono (fun r h1 F => ?_))
  obtain ⟨z2, rfl, sh1, F⟩ := F
  show w_p _ _ 5 [(0, .ref 44), (1, .int f), (2, .int a), (3, .int b)] [.int z2] h1 _
  refine w_if_eq (tgt := 39) (x := z2) rfl (by decide) ⟨fun c3 => ?_, fun c3 => ?_⟩
  · have F := F.1 c3
    refine w_b 1 40 [(0, .ref 44), (1, .int f), (2, .int a), (3, .int b)] [.int 0] rfl ?_
    exact w_br rfl (by decide) F
  · have F := F.2 c3
    refine w_b 4 14 [(0, .ref 44), (1, .int f), (2, .int a), (3, .int b)] [.long (Int64.ofNat 48), .long (Int64.ofNat 0), .long a.toInt64] rfl ?_
    refine w_cs (As := [.long a.toInt64, .long (Int64.ofNat 0), .long (Int64.ofNat 48)]) (rest := []) rfl rfl rfl (Nat.le_of_ble_eq_true rfl) (dc := 0) (by omega) (sp_in  ?_)
    show w_p _ _ 17 [(0, .ref 44), (1, .int f), (2, .int a), (3, .int b)] [.int (f_in a.toInt64 (Int64.ofNat 0) (Int64.ofNat 48))] h1 _
    refine w_if_eq (tgt := 39) (x := f_in a.toInt64 (Int64.ofNat 0) (Int64.ofNat 48)) rfl (by decide) ⟨fun c4 => ?_, fun c4 => ?_⟩
    · have F := F.1 c4
      refine w_b 1 40 [(0, .ref 44), (1, .int f), (2, .int a), (3, .int b)] [.int 0] rfl ?_
      exact w_br rfl (by decide) F
    · have F := F.2 c4
      refine w_b 7 29 [(0, .ref 44), (1, .int f), (2, .int a), (3, .int b)] [.long (Int64.ofNat 48), .long (a.toInt64 + (Int64.ofNat 1)), .long b.toInt64] rfl ?_
      refine w_cs (As := [.long b.toInt64, .long (a.toInt64 + (Int64.ofNat 1)), .long (Int64.ofNat 48)]) (rest := []) rfl rfl rfl (Nat.le_of_ble_eq_true rfl) (dc := 0) (by omega) (sp_in  ?_)
      show w_p _ _ 32 [(0, .ref 44), (1, .int f), (2, .int a), (3, .int b)] [.int (f_in b.toInt64 (a.toInt64 + (Int64.ofNat 1)) (Int64.ofNat 48))] h1 _
      refine w_if_eq (tgt := 39) (x := f_in b.toInt64 (a.toInt64 + (Int64.ofNat 1)) (Int64.ofNat 48)) rfl (by decide) ⟨fun c5 => ?_, fun c5 => ?_⟩
      · have F := F.1 c5
        refine w_b 1 40 [(0, .ref 44), (1, .int f), (2, .int a), (3, .int b)] [.int 0] rfl ?_
        exact w_br rfl (by decide) F
      · have F := F.2 c5
        refine w_b 2 40 [(0, .ref 44), (1, .int f), (2, .int a), (3, .int b)] [.int 1] rfl ?_
        exact w_br rfl (by decide) F

set_option maxRecDepth 20000 in
theorem t_X9_ask_0 {h : mm_H} {Q : Option Value → mm_H → Prop} (sh : s_h h) (f : Int32) (a : Int32) (b : Int32) 
    (F : w_c 2 129 [.ref 44, .int f, .int a, .int b] h (fun r h1 => ∃ z2 : Int32, r = some (.int z2) ∧ s_h h1 ∧ ((¬ z2 = 0 → ((¬ (h_oi h1 600 44) = 10 → (vp_in (h_oi h1 600 44) 10 ∧ (vp_in (h_oi h1 600 44) 10 ∧ (vp_in (h_oi h1 600 44) 10 ∧ Q (some (.int (((h_oi h1 600 44) + 1) - (1 : Int32)))) (h_sI (h_sA (h_sA (h_sA h1 55 ((h_oi h1 600 44).toNatClampNeg) f) 56 ((h_oi h1 600 44).toNatClampNeg) a) 57 ((h_oi h1 600 44).toNatClampNeg) b) 600 44 ((h_oi h1 600 44) + 1)))))) ∧ ((h_oi h1 600 44) = 10 → Q (some (.int (-3))) h1))) ∧ (z2 = 0 → Q (some (.int (-1))) h1)))) :
    w_c 3 130 [.ref 44, .int f, .int a, .int b] h Q := by
  refine w_ci (M := (9, 4, mc_X9_ask)) rfl (Nat.le_of_ble_eq_true rfl) ?_
  show w_p _ _ 0 [(0, .ref 44), (1, .int f), (2, .int a), (3, .int b)] [] h Q
  refine w_b 4 4 [(0, .ref 44), (1, .int f), (2, .int a), (3, .int b)] [.int b, .int a, .int f, .ref 44] rfl ?_
  refine w_cv (As := [.int f, .int a, .int b]) (b := 44) (rest := []) rfl rfl rfl (Nat.le_of_ble_eq_true rfl) (kd_44 sh) (fun z => absurd z (by decide)) (dc := 2) (by omega) (F.mono (fun r h1 F => ?_))
  obtain ⟨z2, rfl, sh1, F⟩ := F
  show w_p _ _ 7 [(0, .ref 44), (1, .int f), (2, .int a), (3, .int b)] [.int z2] h1 _
  refine w_if_ne (tgt := 12) (x := z2) rfl (by decide) ⟨fun c3 => ?_, fun c3 => ?_⟩
  · have F := F.1 c3
    refine w_b 1 13 [(0, .ref 44), (1, .int f), (2, .int a), (3, .int b)] [.ref 44] rfl ?_
    refine w_get (g := 600) rfl rfl rfl (kd_44 sh1) ?_
    refine w_b 1 18 [(0, .ref 44), (1, .int f), (2, .int a), (3, .int b)] [.int 10, .int (h_oi h1 600 44)] rfl ?_
    refine w_ic_ne (tgt := 24) (x := h_oi h1 600 44) (y := 10) rfl (by decide) ⟨fun c4 => ?_, fun c4 => ?_⟩
    · have F := F.1 c4
      refine w_b 1 25 [(0, .ref 44), (1, .int f), (2, .int a), (3, .int b)] [.ref 44] rfl ?_
      refine w_getS (b := 55) rfl rfl rfl (kd_44 sh1) (or_601_44 sh1) ?_
      refine w_b 1 29 [(0, .ref 44), (1, .int f), (2, .int a), (3, .int b)] [.ref 44, .ref 55] rfl ?_
      refine w_get (g := 600) rfl rfl rfl (kd_44 sh1) ?_
      refine w_b 1 33 [(0, .ref 44), (1, .int f), (2, .int a), (3, .int b)] [.int f, .int (h_oi h1 600 44), .ref 55] rfl ?_
      obtain ⟨g5, F⟩ := F
      refine w_iast rfl (kd_55 sh1) (by decide) (by rw [show h_al h1 55 = 10 from (al_55 sh1)]; exact g5) ?_
      refine w_b 1 35 [(0, .ref 44), (1, .int f), (2, .int a), (3, .int b)] [.ref 44] rfl ?_
      refine w_getS (b := 56) rfl rfl rfl (kd_44 sh1) (or_602_44 sh1) ?_
      refine w_b 1 39 [(0, .ref 44), (1, .int f), (2, .int a), (3, .int b)] [.ref 44, .ref 56] rfl ?_
      refine w_get (g := 600) rfl rfl rfl (kd_44 sh1) ?_
      refine w_b 1 43 [(0, .ref 44), (1, .int f), (2, .int a), (3, .int b)] [.int a, .int (h_oi h1 600 44), .ref 56] rfl ?_
      obtain ⟨g6, F⟩ := F
      refine w_iast rfl (kd_56 sh1) (by decide) (by rw [show h_al (h_sA h1 55 ((h_oi h1 600 44).toNatClampNeg) f) 56 = 10 from (al_56 sh1)]; exact g6) ?_
      refine w_b 1 45 [(0, .ref 44), (1, .int f), (2, .int a), (3, .int b)] [.ref 44] rfl ?_
      refine w_getS (b := 57) rfl rfl rfl (kd_44 sh1) (or_603_44 sh1) ?_
      refine w_b 1 49 [(0, .ref 44), (1, .int f), (2, .int a), (3, .int b)] [.ref 44, .ref 57] rfl ?_
      refine w_get (g := 600) rfl rfl rfl (kd_44 sh1) ?_
      refine w_b 1 53 [(0, .ref 44), (1, .int f), (2, .int a), (3, .int b)] [.int b, .int (h_oi h1 600 44), .ref 57] rfl ?_
      obtain ⟨g7, F⟩ := F
      refine w_iast rfl (kd_57 sh1) (by decide) (by rw [show h_al (h_sA (h_sA h1 55 ((h_oi h1 600 44).toNatClampNeg) f) 56 ((h_oi h1 600 44).toNatClampNeg) a) 57 = 10 from (al_57 sh1)]; exact g7) ?_
      refine w_b 2 56 [(0, .ref 44), (1, .int f), (2, .int a), (3, .int b)] [.ref 44, .ref 44] rfl ?_
      refine w_get (g := 600) rfl rfl rfl (kd_44 sh1) ?_
      refine w_b 2 61 [(0, .ref 44), (1, .int f), (2, .int a), (3, .int b)] [.int ((h_oi h1 600 44) + 1), .ref 44] rfl ?_
      refine w_put (g := 600) (x := (h_oi h1 600 44) + 1) rfl rfl rfl (kd_44 sh1) (by decide) ?_
      refine w_b 1 65 [(0, .ref 44), (1, .int f), (2, .int a), (3, .int b)] [.ref 44] rfl ?_
      refine w_get (g := 600) rfl rfl rfl (kd_44 sh1) ?_
      refine w_b 2 70 [(0, .ref 44), (1, .int f), (2, .int a), (3, .int b)] [.int (((h_oi h1 600 44) + 1) - (1 : Int32))] rfl ?_
      exact w_ir rfl F
    · have F := F.2 (Decidable.not_not.mp c4)
      refine w_b 1 23 [(0, .ref 44), (1, .int f), (2, .int a), (3, .int b)] [.int (-3)] rfl ?_
      exact w_ir rfl F
  · have F := F.2 (Decidable.not_not.mp c3)
    refine w_b 1 11 [(0, .ref 44), (1, .int f), (2, .int a), (3, .int b)] [.int (-1)] rfl ?_
    exact w_ir rfl F

set_option maxRecDepth 20000 in
theorem t_X9_offer_0 {h : mm_H} {Q : Option Value → mm_H → Prop} (sh : s_h h) (f : Int32) (a : Int32) (b : Int32) 
    (F : w_c 2 129 [.ref 44, .int f, .int a, .int b] h (fun r h1 => ∃ z2 : Int32, r = some (.int z2) ∧ s_h h1 ∧ ((¬ z2 = 0 → ((¬ (h_oi h1 604 44) = 10 → (vp_in (h_oi h1 604 44) 10 ∧ (vp_in (h_oi h1 604 44) 10 ∧ (vp_in (h_oi h1 604 44) 10 ∧ Q (some (.int (((h_oi h1 604 44) + 1) - (1 : Int32)))) (h_sI (h_sA (h_sA (h_sA h1 58 ((h_oi h1 604 44).toNatClampNeg) f) 59 ((h_oi h1 604 44).toNatClampNeg) a) 60 ((h_oi h1 604 44).toNatClampNeg) b) 604 44 ((h_oi h1 604 44) + 1)))))) ∧ ((h_oi h1 604 44) = 10 → Q (some (.int (-3))) h1))) ∧ (z2 = 0 → Q (some (.int (-1))) h1)))) :
    w_c 3 131 [.ref 44, .int f, .int a, .int b] h Q := by
  refine w_ci (M := (9, 4, mc_X9_offer)) rfl (Nat.le_of_ble_eq_true rfl) ?_
  show w_p _ _ 0 [(0, .ref 44), (1, .int f), (2, .int a), (3, .int b)] [] h Q
  refine w_b 4 4 [(0, .ref 44), (1, .int f), (2, .int a), (3, .int b)] [.int b, .int a, .int f, .ref 44] rfl ?_
  refine w_cv (As := [.int f, .int a, .int b]) (b := 44) (rest := []) rfl rfl rfl (Nat.le_of_ble_eq_true rfl) (kd_44 sh) (fun z => absurd z (by decide)) (dc := 2) (by omega) (F.mono (fun r h1 F => ?_))
  obtain ⟨z2, rfl, sh1, F⟩ := F
  show w_p _ _ 7 [(0, .ref 44), (1, .int f), (2, .int a), (3, .int b)] [.int z2] h1 _
  refine w_if_ne (tgt := 12) (x := z2) rfl (by decide) ⟨fun c3 => ?_, fun c3 => ?_⟩
  · have F := F.1 c3
    refine w_b 1 13 [(0, .ref 44), (1, .int f), (2, .int a), (3, .int b)] [.ref 44] rfl ?_
    refine w_get (g := 604) rfl rfl rfl (kd_44 sh1) ?_
    refine w_b 1 18 [(0, .ref 44), (1, .int f), (2, .int a), (3, .int b)] [.int 10, .int (h_oi h1 604 44)] rfl ?_
    refine w_ic_ne (tgt := 24) (x := h_oi h1 604 44) (y := 10) rfl (by decide) ⟨fun c4 => ?_, fun c4 => ?_⟩
    · have F := F.1 c4
      refine w_b 1 25 [(0, .ref 44), (1, .int f), (2, .int a), (3, .int b)] [.ref 44] rfl ?_
      refine w_getS (b := 58) rfl rfl rfl (kd_44 sh1) (or_605_44 sh1) ?_
      refine w_b 1 29 [(0, .ref 44), (1, .int f), (2, .int a), (3, .int b)] [.ref 44, .ref 58] rfl ?_
      refine w_get (g := 604) rfl rfl rfl (kd_44 sh1) ?_
      refine w_b 1 33 [(0, .ref 44), (1, .int f), (2, .int a), (3, .int b)] [.int f, .int (h_oi h1 604 44), .ref 58] rfl ?_
      obtain ⟨g5, F⟩ := F
      refine w_iast rfl (kd_58 sh1) (by decide) (by rw [show h_al h1 58 = 10 from (al_58 sh1)]; exact g5) ?_
      refine w_b 1 35 [(0, .ref 44), (1, .int f), (2, .int a), (3, .int b)] [.ref 44] rfl ?_
      refine w_getS (b := 59) rfl rfl rfl (kd_44 sh1) (or_606_44 sh1) ?_
      refine w_b 1 39 [(0, .ref 44), (1, .int f), (2, .int a), (3, .int b)] [.ref 44, .ref 59] rfl ?_
      refine w_get (g := 604) rfl rfl rfl (kd_44 sh1) ?_
      refine w_b 1 43 [(0, .ref 44), (1, .int f), (2, .int a), (3, .int b)] [.int a, .int (h_oi h1 604 44), .ref 59] rfl ?_
      obtain ⟨g6, F⟩ := F
      refine w_iast rfl (kd_59 sh1) (by decide) (by rw [show h_al (h_sA h1 58 ((h_oi h1 604 44).toNatClampNeg) f) 59 = 10 from (al_59 sh1)]; exact g6) ?_
      refine w_b 1 45 [(0, .ref 44), (1, .int f), (2, .int a), (3, .int b)] [.ref 44] rfl ?_
      refine w_getS (b := 60) rfl rfl rfl (kd_44 sh1) (or_607_44 sh1) ?_
      refine w_b 1 49 [(0, .ref 44), (1, .int f), (2, .int a), (3, .int b)] [.ref 44, .ref 60] rfl ?_
      refine w_get (g := 604) rfl rfl rfl (kd_44 sh1) ?_
      refine w_b 1 53 [(0, .ref 44), (1, .int f), (2, .int a), (3, .int b)] [.int b, .int (h_oi h1 604 44), .ref 60] rfl ?_
      obtain ⟨g7, F⟩ := F
      refine w_iast rfl (kd_60 sh1) (by decide) (by rw [show h_al (h_sA (h_sA h1 58 ((h_oi h1 604 44).toNatClampNeg) f) 59 ((h_oi h1 604 44).toNatClampNeg) a) 60 = 10 from (al_60 sh1)]; exact g7) ?_
      refine w_b 2 56 [(0, .ref 44), (1, .int f), (2, .int a), (3, .int b)] [.ref 44, .ref 44] rfl ?_
      refine w_get (g := 604) rfl rfl rfl (kd_44 sh1) ?_
      refine w_b 2 61 [(0, .ref 44), (1, .int f), (2, .int a), (3, .int b)] [.int ((h_oi h1 604 44) + 1), .ref 44] rfl ?_
      refine w_put (g := 604) (x := (h_oi h1 604 44) + 1) rfl rfl rfl (kd_44 sh1) (by decide) ?_
      refine w_b 1 65 [(0, .ref 44), (1, .int f), (2, .int a), (3, .int b)] [.ref 44] rfl ?_
      refine w_get (g := 604) rfl rfl rfl (kd_44 sh1) ?_
      refine w_b 2 70 [(0, .ref 44), (1, .int f), (2, .int a), (3, .int b)] [.int (((h_oi h1 604 44) + 1) - (1 : Int32))] rfl ?_
      exact w_ir rfl F
    · have F := F.2 (Decidable.not_not.mp c4)
      refine w_b 1 23 [(0, .ref 44), (1, .int f), (2, .int a), (3, .int b)] [.int (-3)] rfl ?_
      exact w_ir rfl F
  · have F := F.2 (Decidable.not_not.mp c3)
    refine w_b 1 11 [(0, .ref 44), (1, .int f), (2, .int a), (3, .int b)] [.int (-1)] rfl ?_
    exact w_ir rfl F

/-! WHO IS A FAMILY; asks and offers -/
def cP (h : mm_H) (cn : Nat) (pr : Nat → Bool) : Prop := cn ≤ 12 ∧ h_oi h 520 16 = nI cn ∧ ∀ f, f < 12 → (h_ar h 30 f = none → ¬ (f < cn ∧ pr f = true)) ∧ ∀ q, h_ar h 30 f = some q → (f < cn ∧ pr f = true) ∧ 70 ≤ q ∧ q < h_n h ∧ h_kd h q = 1
def mP (h : mm_H) (cn : Nat) (pr : Nat → Bool) : Prop := cn ≤ 12 ∧ h_oi h 590 44 = nI cn ∧ ∀ f, f < cn → h_ai h 49 f = if pr f = true then 0 else 1
def isP (cn : Nat) (pr : Nat → Bool) (f : Int32) : Prop := ∃ j : Nat, f = nI j ∧ j < cn ∧ pr j = true
theorem sp_famC {h : mm_H} {Q : Option Value → mm_H → Prop} (sh : s_h h) {cn : Nat} {pr : Nat → Bool} (H : cP h cn pr) (f : Int32) (k1 : ¬ isP cn pr f → Q (some (va_rf none)) h) (k2 : ∀ j q, f = nI j → j < cn → pr j = true → h_ar h 30 j = some q → 70 ≤ q → q < h_n h → h_kd h q = 1 → Q (some (va_rf (some q))) h) : w_c 0 87 [.ref 16, .int f] h Q := by
  obtain ⟨h1, h2, h3⟩ := H
  refine t_X8_familyAt_0 sh f ⟨fun c => k1 ?_, fun c => ?_⟩
  · rintro ⟨j, rfl, hj, -⟩
    exact absurd c (nI_pos (by omega))
  · obtain ⟨j, hj, rfl⟩ := nat_of c
    rw [h2]
    refine ⟨fun c2 => k1 ?_, fun c2 => ?_⟩
    · rintro ⟨i, e, hi, -⟩
      rw [nI_eqI hj (by omega)] at e
      rw [i_le (by omega) hj] at c2
      omega
    · rw [i_le (by omega) hj] at c2
      refine ⟨fun _ => ⟨vp_in_nI (by omega) (by decide), ?_⟩, fun c3 => absurd (nI_lt (a := j) (b := 12) (by omega) (by decide)) c3⟩
      rw [i_cl hj]
      obtain ⟨g1, g2⟩ := h3 j (by omega)
      cases e : h_ar h 30 j with
      | none =>
        refine k1 ?_
        rintro ⟨i, e2, hi, hp⟩
        rw [nI_eqI hj (by omega)] at e2
        subst e2
        exact g1 e ⟨hi, hp⟩
      | some q =>
        obtain ⟨⟨p1, p2⟩, p3, p4, p5⟩ := g2 q e
        exact k2 j q rfl p1 p2 e p3 p4 p5
theorem sp_famM {h : mm_H} {Q : Option Value → mm_H → Prop} (sh : s_h h) {cn : Nat} {pr : Nat → Bool} (H : mP h cn pr) (f : Int32) (k1 : ¬ isP cn pr f → Q (some (.int 0)) h) (k2 : ∀ j, f = nI j → j < cn → pr j = true → Q (some (.int 1)) h) : w_c 1 118 [.ref 44, .int f] h Q := by
  obtain ⟨h1, h2, h3⟩ := H
  refine t_X9_isFamily_0 sh f ?_
  rw [h2]
  by_cases hc : cn = 0
  · subst hc
    refine ⟨fun _ => k1 ?_, fun c => ?_⟩
    · rintro ⟨j, -, hj, -⟩
      omega
    · exfalso
      apply c
      rw [f_in0]
      intro z
      have a1 := (fa_le64 _ _).mp z.1
      have a2 := (fa_le64 _ _).mp z.2
      have e : ((nI 0 - 1 : Int32).toInt64).toInt = -1 := by decide
      rw [e] at a2
      have e0 : (Int64.ofNat 0).toInt = 0 := by decide
      omega
  · have e1 : nI cn - 1 = nI (cn - 1) := by
      show nI cn - nI 1 = _
      rw [pk_sub (by omega)]
    rw [e1, wL _ (by omega)]
    refine ⟨fun c => k1 ?_, fun c => ?_⟩
    · rintro ⟨j, rfl, hj, -⟩
      exact ((f_in_nz (by decide) (by omega)).mpr ⟨(i_le (by decide) (by omega)).mpr (Nat.zero_le _), (i_le (by omega) (by omega)).mpr (by omega)⟩) c
    · have c := (f_in_nz (by decide) (by omega)).mp c
      have c0 : ¬ f < 0 := le0.mp c.1
      obtain ⟨j, hj, rfl⟩ := nat_of c0
      have c2 := (i_le hj (by omega)).mp c.2
      rw [i_cl hj, h3 j (by omega)]
      refine ⟨vp_in_nI (by omega) (by decide), fun c3 => k1 ?_, fun c3 => k2 j rfl (by omega) ?_⟩
      · rintro ⟨i, e2, hi, hp⟩
        rw [nI_eqI hj (by omega)] at e2
        subst e2
        rw [if_pos hp] at c3
        exact c3 rfl
      · by_cases hp : pr j = true
        · exact hp
        · rw [if_neg hp] at c3
          exact absurd c3 (by decide)
/-- a family, and two half hours in order -/
def isV (cn : Nat) (pr : Nat → Bool) (f a b : Int32) : Prop := isP cn pr f ∧ ∃ i j : Nat, a = nI i ∧ b = nI j ∧ i < j ∧ j ≤ 48
theorem isV_of {a b : Int32} (h1 : ¬ a < 0) (h2 : ¬ 48 < b) (h3 : a < b) : ∃ i j : Nat, a = nI i ∧ b = nI j ∧ i < j ∧ j ≤ 48 := by
  obtain ⟨i, hi, rfl⟩ := nat_of h1
  have h4 : ¬ b < 0 := fun z => by
    have a1 := (fa_lt _ _).mp h3
    have a2 := (fa_lt _ _).mp z
    rw [nI_toInt (by omega)] at a1
    have e0 : (0 : Int32).toInt = 0 := rfl
    omega
  obtain ⟨j, hj, rfl⟩ := nat_of h4
  have := (i_lt hi hj).mp h3
  have h5 : ¬ nI 48 < nI j := h2
  rw [i_lt (by decide) hj] at h5
  exact ⟨i, j, rfl, rfl, this, by omega⟩
theorem sp_spanM {h : mm_H} {Q : Option Value → mm_H → Prop} (sh : s_h h) {cn : Nat} {pr : Nat → Bool} (H : mP h cn pr) (f a b : Int32) (k1 : ¬ isV cn pr f a b → Q (some (.int 0)) h) (k2 : isV cn pr f a b → Q (some (.int 1)) h) : w_c 2 129 [.ref 44, .int f, .int a, .int b] h Q := by
  refine t_X9_isSpan_0 sh f a b (sp_famM sh H f (fun c => ⟨0, rfl, sh, fun _ => k1 (fun z => c z.1), fun z => absurd rfl z⟩) (fun j e hj hp => ⟨1, rfl, sh, fun z => absurd z (by decide), fun _ => ⟨fun c => k1 ?_, fun c => ?_⟩⟩))
  · rintro ⟨-, i, j, rfl, rfl, hij, h48⟩
    exact ((f_in_nz (by decide) (by decide)).mpr ⟨(i_le (by decide) (by omega)).mpr (Nat.zero_le _), (i_le (by omega) (by decide)).mpr (by omega)⟩) c
  · have c := (f_in_nz (by decide) (by decide)).mp c
    obtain ⟨i, hi, rfl⟩ := nat_of (le0.mp c.1)
    have hi48 := (i_le hi (by decide)).mp c.2
    have e1 : (nI i).toInt64 + Int64.ofNat 1 = lN (i + 1) := by
      rw [wL i (by omega)]
      exact lN_1 i
    have e3 : (lN (i + 1)).toInt = ((i + 1 : Nat) : Int) := lN_toInt (by omega)
    have e4 : (b.toInt64).toInt = b.toInt := Int32.toInt_toInt64 b
    rw [e1]
    refine ⟨fun c2 => k1 ?_, fun c2 => k2 ?_⟩
    · rintro ⟨-, i2, j2, e2, rfl, hij, h48⟩
      rw [nI_eqI hi (by omega)] at e2
      subst e2
      rw [f_in0] at c2
      apply c2
      rw [fa_le64, fa_le64, e3, e4, nI_toInt (by omega)]
      have e5 : (Int64.ofNat 48).toInt = 48 := by decide
      rw [e5]
      omega
    · have c3 : lN (i + 1) ≤ b.toInt64 ∧ b.toInt64 ≤ Int64.ofNat 48 := by
        by_cases z : lN (i + 1) ≤ b.toInt64 ∧ b.toInt64 ≤ Int64.ofNat 48
        · exact z
        · exact absurd (f_in0.mpr z) c2
      rw [fa_le64, fa_le64, e3, e4] at c3
      have e5 : (Int64.ofNat 48).toInt = 48 := by decide
      rw [e5] at c3
      have h4 : ¬ b < 0 := fun z => by
        have a2 := (fa_lt _ _).mp z
        have e0 : (0 : Int32).toInt = 0 := rfl
        omega
      obtain ⟨j2, hj2, rfl⟩ := nat_of h4
      rw [nI_toInt (by omega)] at c3
      exact ⟨⟨j, e, hj, hp⟩, i, j2, rfl, rfl, by omega, by omega⟩
def vC (cn : Nat) (pr : Nat → Bool) (n : Nat) (vf va vb : Nat → Nat) : Prop := n ≤ 10 ∧ ∀ i, i < n → (vf i < cn ∧ pr (vf i) = true) ∧ va i < vb i ∧ vb i ≤ 48
/-- the visits at o, o + 1 .. -/
def cV (h : mm_H) (o n : Nat) (vf va vb : Nat → Nat) : Prop := h_oi h 451 o = nI n ∧ ∀ i, i < n → h_ai h (o + 1) i = nI (vf i) ∧ h_ai h (o + 2) i = nI (va i) ∧ h_ai h (o + 3) i = nI (vb i)
def mV (h : mm_H) (g o n : Nat) (vf va vb : Nat → Nat) : Prop := h_oi h g 44 = nI n ∧ ∀ i, i < n → h_ai h o i = nI (vf i) ∧ h_ai h (o + 1) i = nI (va i) ∧ h_ai h (o + 2) i = nI (vb i)
theorem vC.add {cn : Nat} {pr : Nat → Bool} {n : Nat} {vf va vb : Nat → Nat} {f a b : Int32} (H : vC cn pr n vf va vb) (hn : n < 10) (V : isV cn pr f a b) (hcn : cn ≤ 12) : vC cn pr (n + 1) (va_up vf n f.toNatClampNeg) (va_up va n a.toNatClampNeg) (va_up vb n b.toNatClampNeg) := by
  obtain ⟨⟨j, rfl, hj, hp⟩, i1, i2, rfl, rfl, hij, h48⟩ := V
  refine ⟨by omega, fun i hi => ?_⟩
  by_cases e : i = n
  · subst e
    rw [va_up_self, va_up_self, va_up_self, i_cl (by omega), i_cl (by omega), i_cl (by omega)]
    exact ⟨⟨hj, hp⟩, hij, h48⟩
  · rw [va_up_ne _ _ e, va_up_ne _ _ e, va_up_ne _ _ e]
    exact H.2 i (by omega)
/-- ask(f, a, b) of the circle and of the reference: no such visit, no room, or a visit more -/
theorem c_ask {h : mm_H} {Q : Option Value → mm_H → Prop} (sh : s_h h) {cn : Nat} {pr : Nat → Bool} (P : cP h cn pr) {n : Nat} {vf va vb : Nat → Nat} (Vc : vC cn pr n vf va vb) (V : cV h 31 n vf va vb) (f a b : Int32) (k1 : ¬ isV cn pr f a b → Q (some (.int (-1))) h) (k2 : isV cn pr f a b → n = 10 → Q (some (.int (-3))) h)
    (k3 : isV cn pr f a b → n < 10 → ∀ h', fx h h' [(451, 31)] [32, 33, 34] → dn h h' → cV h' 31 (n + 1) (va_up vf n f.toNatClampNeg) (va_up va n a.toNatClampNeg) (va_up vb n b.toNatClampNeg) → Q (some (.int (nI n))) h') : w_c 2 73 [.ref 16, .int f, .int a, .int b] h Q := by
  have hn := Vc.1
  refine t_X8_ask_0 sh f a b (t_X8_addVisit_31_0 sh f a b (sp_famC sh P f (fun c => ⟨none, rfl, sh, fun _ => ⟨_, rfl, sh, k1 (fun z => c z.1)⟩, fun _ z => (by cases z)⟩) (fun j q e hj hp hq q1 q2 q3 => ⟨some q, rfl, sh, fun z => (by cases z), fun q4 _ => ⟨fun c => ?_, fun c => ⟨fun c2 => ?_, fun c2 => ⟨fun c3 => ?_, fun c3 => ?_⟩⟩⟩⟩)))
  · refine ⟨_, rfl, sh, k1 ?_⟩
    rintro ⟨-, i, j, rfl, rfl, hij, h48⟩
    exact absurd c (nI_pos (by omega))
  · refine ⟨_, rfl, sh, k1 ?_⟩
    rintro ⟨-, i, j, rfl, rfl, -, h48⟩
    have c2 : nI 48 < nI j := c2
    rw [i_lt (by decide) (by omega)] at c2
    omega
  · have hV : isV cn pr f a b := ⟨⟨j, e, hj, hp⟩, isV_of c c2 c3⟩
    refine t_X7_add_31_0 sh f a b ?_
    rw [V.1]
    refine ⟨fun c4 => ?_, fun c4 => ?_⟩
    · have c4 : n < 10 := (i_lt (b := 10) (by omega) (by decide)).mp c4
      have hv : vp_in (nI n) 10 := vp_in_nI c4 (by decide)
      rw [i_cl (by omega)]
      have f1 : fx h (h_sI (h_sA (h_sA (h_sA h 32 n f) 33 n a) 34 n b) 451 31 (nI n + 1)) [(451, 31)] [32, 33, 34] := ((((fx.rf _ _ _).sA _ _ (by decide)).sA _ _ (by decide)).sA _ _ (by decide)).sI _ (by decide)
      refine ⟨hv, hv, hv, 1, rfl, f1.sh sh (by decide), fun z => absurd z (by decide), fun _ => ?_⟩
      refine ⟨_, rfl, f1.sh sh (by decide), ?_⟩
      have e9 : h_oi (h_sI (h_sA (h_sA (h_sA h 32 n f) 33 n a) 34 n b) 451 31 (nI n + 1)) 451 31 - 1 = nI n := by
        show nI n + 1 - 1 = nI n
        rw [nI_1, nI_pred]
      rw [e9]
      obtain ⟨⟨j', rfl, hj', hp'⟩, i1, i2, rfl, rfl, hij, h48⟩ := id hV
      have hcn := P.1
      refine k3 hV c4 _ f1 ((((((dn.rf _).sA _ _ (by decide)).sA _ _ (by decide)).sA _ _ (by decide)).sI _ (by decide))) ⟨nI_1 n, fun i hi => ?_⟩
      show va_up (h_ai h 32) n (nI j') i = _ ∧ va_up (h_ai h 33) n (nI i1) i = _ ∧ va_up (h_ai h 34) n (nI i2) i = _
      by_cases e : i = n
      · subst e
        rw [va_up_self, va_up_self, va_up_self, va_up_self, va_up_self, va_up_self, i_cl (by omega), i_cl (by omega), i_cl (by omega)]
        exact ⟨rfl, rfl, rfl⟩
      · rw [va_up_ne _ _ e, va_up_ne _ _ e, va_up_ne _ _ e, va_up_ne _ _ e, va_up_ne _ _ e, va_up_ne _ _ e]
        exact V.2 i (by omega)
    · have c4 : ¬ nI n < nI 10 := c4
      rw [i_lt (by omega) (by decide)] at c4
      exact ⟨0, rfl, sh, fun _ => ⟨_, rfl, sh, k2 hV (by omega)⟩, fun z => absurd rfl z⟩
  · refine ⟨_, rfl, sh, k1 ?_⟩
    rintro ⟨-, i, j, rfl, rfl, hij, h48⟩
    exact c3 ((i_lt (by omega) (by omega)).mpr hij)
theorem m_ask {h : mm_H} {Q : Option Value → mm_H → Prop} (sh : s_h h) {cn : Nat} {pr : Nat → Bool} (P : mP h cn pr) {n : Nat} {vf va vb : Nat → Nat} (Vc : vC cn pr n vf va vb) (V : mV h 600 55 n vf va vb) (f a b : Int32) (k1 : ¬ isV cn pr f a b → Q (some (.int (-1))) h) (k2 : isV cn pr f a b → n = 10 → Q (some (.int (-3))) h)
    (k3 : isV cn pr f a b → n < 10 → ∀ h', fx h h' [(600, 44)] [55, 56, 57] → dn h h' → mV h' 600 55 (n + 1) (va_up vf n f.toNatClampNeg) (va_up va n a.toNatClampNeg) (va_up vb n b.toNatClampNeg) → Q (some (.int (nI n))) h') : w_c 3 130 [.ref 44, .int f, .int a, .int b] h Q := by
  have hn := Vc.1
  refine t_X9_ask_0 sh f a b (sp_spanM sh P f a b (fun c => ⟨0, rfl, sh, fun z => absurd rfl z, fun _ => k1 c⟩) (fun hV => ⟨1, rfl, sh, fun _ => ?_, fun z => absurd z (by decide)⟩))
  rw [V.1]
  refine ⟨fun c => ?_, fun c => k2 hV ((nI_eqI (b := 10) (by omega) (by decide)).mp c)⟩
  have c4 : n < 10 := by
    have : n ≠ 10 := fun z => c (by rw [z]; rfl)
    omega
  have hv : vp_in (nI n) 10 := vp_in_nI c4 (by decide)
  rw [i_cl (by omega)]
  refine ⟨hv, hv, hv, ?_⟩
  rw [show nI n + 1 - 1 = nI n by rw [nI_1, nI_pred]]
  obtain ⟨⟨j', rfl, hj', hp'⟩, i1, i2, rfl, rfl, hij, h48⟩ := id hV
  have hcn := P.1
  refine k3 hV c4 _ (((((fx.rf _ _ _).sA _ _ (by decide)).sA _ _ (by decide)).sA _ _ (by decide)).sI _ (by decide)) (((((dn.rf _).sA _ _ (by decide)).sA _ _ (by decide)).sA _ _ (by decide)).sI _ (by decide)) ⟨nI_1 n, fun i hi => ?_⟩
  show va_up (h_ai h 55) n (nI j') i = _ ∧ va_up (h_ai h 56) n (nI i1) i = _ ∧ va_up (h_ai h 57) n (nI i2) i = _
  by_cases e : i = n
  · subst e
    rw [va_up_self, va_up_self, va_up_self, va_up_self, va_up_self, va_up_self, i_cl (by omega), i_cl (by omega), i_cl (by omega)]
    exact ⟨rfl, rfl, rfl⟩
  · rw [va_up_ne _ _ e, va_up_ne _ _ e, va_up_ne _ _ e, va_up_ne _ _ e, va_up_ne _ _ e, va_up_ne _ _ e]
    exact V.2 i (by omega)
/-- offer(f, a, b) of the circle and of the reference: no such visit, no room, or a visit more -/
theorem c_offer {h : mm_H} {Q : Option Value → mm_H → Prop} (sh : s_h h) {cn : Nat} {pr : Nat → Bool} (P : cP h cn pr) {n : Nat} {vf va vb : Nat → Nat} (Vc : vC cn pr n vf va vb) (V : cV h 35 n vf va vb) (f a b : Int32) (k1 : ¬ isV cn pr f a b → Q (some (.int (-1))) h) (k2 : isV cn pr f a b → n = 10 → Q (some (.int (-3))) h)
    (k3 : isV cn pr f a b → n < 10 → ∀ h', fx h h' [(451, 35)] [36, 37, 38] → dn h h' → cV h' 35 (n + 1) (va_up vf n f.toNatClampNeg) (va_up va n a.toNatClampNeg) (va_up vb n b.toNatClampNeg) → Q (some (.int (nI n))) h') : w_c 2 74 [.ref 16, .int f, .int a, .int b] h Q := by
  have hn := Vc.1
  refine t_X8_offer_0 sh f a b (t_X8_addVisit_35_0 sh f a b (sp_famC sh P f (fun c => ⟨none, rfl, sh, fun _ => ⟨_, rfl, sh, k1 (fun z => c z.1)⟩, fun _ z => (by cases z)⟩) (fun j q e hj hp hq q1 q2 q3 => ⟨some q, rfl, sh, fun z => (by cases z), fun q4 _ => ⟨fun c => ?_, fun c => ⟨fun c2 => ?_, fun c2 => ⟨fun c3 => ?_, fun c3 => ?_⟩⟩⟩⟩)))
  · refine ⟨_, rfl, sh, k1 ?_⟩
    rintro ⟨-, i, j, rfl, rfl, hij, h48⟩
    exact absurd c (nI_pos (by omega))
  · refine ⟨_, rfl, sh, k1 ?_⟩
    rintro ⟨-, i, j, rfl, rfl, -, h48⟩
    have c2 : nI 48 < nI j := c2
    rw [i_lt (by decide) (by omega)] at c2
    omega
  · have hV : isV cn pr f a b := ⟨⟨j, e, hj, hp⟩, isV_of c c2 c3⟩
    refine t_X7_add_35_0 sh f a b ?_
    rw [V.1]
    refine ⟨fun c4 => ?_, fun c4 => ?_⟩
    · have c4 : n < 10 := (i_lt (b := 10) (by omega) (by decide)).mp c4
      have hv : vp_in (nI n) 10 := vp_in_nI c4 (by decide)
      rw [i_cl (by omega)]
      have f1 : fx h (h_sI (h_sA (h_sA (h_sA h 36 n f) 37 n a) 38 n b) 451 35 (nI n + 1)) [(451, 35)] [36, 37, 38] := ((((fx.rf _ _ _).sA _ _ (by decide)).sA _ _ (by decide)).sA _ _ (by decide)).sI _ (by decide)
      refine ⟨hv, hv, hv, 1, rfl, f1.sh sh (by decide), fun z => absurd z (by decide), fun _ => ?_⟩
      refine ⟨_, rfl, f1.sh sh (by decide), ?_⟩
      have e9 : h_oi (h_sI (h_sA (h_sA (h_sA h 36 n f) 37 n a) 38 n b) 451 35 (nI n + 1)) 451 35 - 1 = nI n := by
        show nI n + 1 - 1 = nI n
        rw [nI_1, nI_pred]
      rw [e9]
      obtain ⟨⟨j', rfl, hj', hp'⟩, i1, i2, rfl, rfl, hij, h48⟩ := id hV
      have hcn := P.1
      refine k3 hV c4 _ f1 ((((((dn.rf _).sA _ _ (by decide)).sA _ _ (by decide)).sA _ _ (by decide)).sI _ (by decide))) ⟨nI_1 n, fun i hi => ?_⟩
      show va_up (h_ai h 36) n (nI j') i = _ ∧ va_up (h_ai h 37) n (nI i1) i = _ ∧ va_up (h_ai h 38) n (nI i2) i = _
      by_cases e : i = n
      · subst e
        rw [va_up_self, va_up_self, va_up_self, va_up_self, va_up_self, va_up_self, i_cl (by omega), i_cl (by omega), i_cl (by omega)]
        exact ⟨rfl, rfl, rfl⟩
      · rw [va_up_ne _ _ e, va_up_ne _ _ e, va_up_ne _ _ e, va_up_ne _ _ e, va_up_ne _ _ e, va_up_ne _ _ e]
        exact V.2 i (by omega)
    · have c4 : ¬ nI n < nI 10 := c4
      rw [i_lt (by omega) (by decide)] at c4
      exact ⟨0, rfl, sh, fun _ => ⟨_, rfl, sh, k2 hV (by omega)⟩, fun z => absurd rfl z⟩
  · refine ⟨_, rfl, sh, k1 ?_⟩
    rintro ⟨-, i, j, rfl, rfl, hij, h48⟩
    exact c3 ((i_lt (by omega) (by omega)).mpr hij)
theorem m_offer {h : mm_H} {Q : Option Value → mm_H → Prop} (sh : s_h h) {cn : Nat} {pr : Nat → Bool} (P : mP h cn pr) {n : Nat} {vf va vb : Nat → Nat} (Vc : vC cn pr n vf va vb) (V : mV h 604 58 n vf va vb) (f a b : Int32) (k1 : ¬ isV cn pr f a b → Q (some (.int (-1))) h) (k2 : isV cn pr f a b → n = 10 → Q (some (.int (-3))) h)
    (k3 : isV cn pr f a b → n < 10 → ∀ h', fx h h' [(604, 44)] [58, 59, 60] → dn h h' → mV h' 604 58 (n + 1) (va_up vf n f.toNatClampNeg) (va_up va n a.toNatClampNeg) (va_up vb n b.toNatClampNeg) → Q (some (.int (nI n))) h') : w_c 3 131 [.ref 44, .int f, .int a, .int b] h Q := by
  have hn := Vc.1
  refine t_X9_offer_0 sh f a b (sp_spanM sh P f a b (fun c => ⟨0, rfl, sh, fun z => absurd rfl z, fun _ => k1 c⟩) (fun hV => ⟨1, rfl, sh, fun _ => ?_, fun z => absurd z (by decide)⟩))
  rw [V.1]
  refine ⟨fun c => ?_, fun c => k2 hV ((nI_eqI (b := 10) (by omega) (by decide)).mp c)⟩
  have c4 : n < 10 := by
    have : n ≠ 10 := fun z => c (by rw [z]; rfl)
    omega
  have hv : vp_in (nI n) 10 := vp_in_nI c4 (by decide)
  rw [i_cl (by omega)]
  refine ⟨hv, hv, hv, ?_⟩
  rw [show nI n + 1 - 1 = nI n by rw [nI_1, nI_pred]]
  obtain ⟨⟨j', rfl, hj', hp'⟩, i1, i2, rfl, rfl, hij, h48⟩ := id hV
  have hcn := P.1
  refine k3 hV c4 _ (((((fx.rf _ _ _).sA _ _ (by decide)).sA _ _ (by decide)).sA _ _ (by decide)).sI _ (by decide)) (((((dn.rf _).sA _ _ (by decide)).sA _ _ (by decide)).sA _ _ (by decide)).sI _ (by decide)) ⟨nI_1 n, fun i hi => ?_⟩
  show va_up (h_ai h 58) n (nI j') i = _ ∧ va_up (h_ai h 59) n (nI i1) i = _ ∧ va_up (h_ai h 60) n (nI i2) i = _
  by_cases e : i = n
  · subst e
    rw [va_up_self, va_up_self, va_up_self, va_up_self, va_up_self, va_up_self, i_cl (by omega), i_cl (by omega), i_cl (by omega)]
    exact ⟨rfl, rfl, rfl⟩
  · rw [va_up_ne _ _ e, va_up_ne _ _ e, va_up_ne _ _ e, va_up_ne _ _ e, va_up_ne _ _ e, va_up_ne _ _ e]
    exact V.2 i (by omega)
