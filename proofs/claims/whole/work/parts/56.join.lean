set_option maxRecDepth 20000 in
theorem t_X3_init_0 {h : mm_H} {Q : Option Value → mm_H → Prop} (sh : s_h h) (p : Nat) 
    (F : (h_kd (h_nA h 20 4) p = 4 ∧ (16 ≤ p ∧ (h_kd (h_nA (h_sR (h_nA h 20 4) 192 p (some (h_n h))) 20 4) p = 4 ∧ (16 ≤ p ∧ Q none (h_sR (h_nA (h_sR (h_nA h 20 4) 192 p (some (h_n h))) 20 4) 193 p (some (h_n h + 1)))))))) :
    w_c 1 24 [.ref p] h Q := by
  refine w_ci (M := (3, 1, mc_X3_init)) rfl (Nat.le_of_ble_eq_true rfl) ?_
  show w_p _ _ 0 [(0, .ref p)] [] h Q
  refine w_b 1 1 [(0, .ref p)] [.ref p] rfl ?_
  refine w_o rfl (Nat.le_of_ble_eq_true rfl) ?_
  refine w_b 2 6 [(0, .ref p)] [.int 4, .ref p] rfl ?_
  refine w_newa (x := 4) rfl (by decide) (by decide) ?_
  show w_p _ _ 8 [(0, .ref p)] [.ref (h_n h), .ref p] (h_nA h 20 4) _
  obtain ⟨g1, F⟩ := F
  obtain ⟨g2, F⟩ := F
  refine w_putR (g := 192) (x := some (h_n h)) rfl rfl rfl g1 g2 ?_
  refine w_b 2 13 [(0, .ref p)] [.int 4, .ref p] rfl ?_
  refine w_newa (x := 4) rfl (by decide) (by decide) ?_
  show w_p _ _ 15 [(0, .ref p)] [.ref (h_n h + 1), .ref p] (h_nA (h_sR (h_nA h 20 4) 192 p (some (h_n h))) 20 4) _
  obtain ⟨g3, F⟩ := F
  obtain ⟨g4, F⟩ := F
  refine w_putR (g := 193) (x := some (h_n h + 1)) rfl rfl rfl g3 g4 ?_
  exact w_vr rfl F

set_option maxRecDepth 20000 in
theorem t_X0_init_0 {h : mm_H} {Q : Option Value → mm_H → Prop} (sh : s_h h) (q : Nat) 
    (F : w_c 1 24 [.ref (h_n h)] (h_nO h 3 4) (fun r h1 => r = none ∧ s_h h1 ∧ (h_kd h1 q = 1 ∧ (16 ≤ q ∧ Q none (h_sR h1 0 q (some (h_n h))))))) :
    w_c 2 0 [.ref q] h Q := by
  refine w_ci (M := (0, 1, mc_X0_init)) rfl (Nat.le_of_ble_eq_true rfl) ?_
  show w_p _ _ 0 [(0, .ref q)] [] h Q
  refine w_b 1 1 [(0, .ref q)] [.ref q] rfl ?_
  refine w_o rfl (Nat.le_of_ble_eq_true rfl) ?_
  refine w_b 1 5 [(0, .ref q)] [.ref q] rfl ?_
  refine w_new rfl ?_
  show w_p _ _ 8 [(0, .ref q)] [.ref (h_n h), .ref q] (h_nO h 3 4) _
  refine w_b 1 9 [(0, .ref q)] [.ref (h_n h), .ref (h_n h), .ref q] rfl ?_
  refine w_cn (As := []) (b := h_n h) (rest := [.ref (h_n h), .ref q]) rfl rfl rfl (Nat.le_of_ble_eq_true rfl) (dc := 1) (by omega) (F.mono (fun r h1 F => ?_))
  obtain ⟨rfl, sh1, F⟩ := F
  show w_p _ _ 12 [(0, .ref q)] [.ref (h_n h), .ref q] h1 _
  obtain ⟨g2, F⟩ := F
  obtain ⟨g3, F⟩ := F
  refine w_putR (g := 0) (x := some (h_n h)) rfl rfl rfl g2 g3 ?_
  exact w_vr rfl F

set_option maxRecDepth 20000 in
theorem t_X8_join_0 {h : mm_H} {Q : Option Value → mm_H → Prop} (sh : s_h h) 
    (F : (((h_oi h 520 16) < 12 → w_c 2 0 [.ref (h_n h)] (h_nO h 0 5) (fun r h2 => r = none ∧ s_h h2 ∧ w_c 1 10 [.ref 21, .int (h_oi h2 521 16), .int 0] h2 (fun r h3 => ∃ z4 : Int32, r = some (.int z4) ∧ s_h h3 ∧ (h_kd h3 (h_n h) = 1 ∧ (∃ b6 : Nat, (h_or h3 0 (h_n h)) = some b6 ∧ (h_kd h3 b6 = 4 ∧ w_c 22 27 [.ref b6, .int (h_oi h3 521 16), .int z4] h3 (fun r h9 => r = none ∧ s_h h9 ∧ (vp_in (h_oi h9 520 16) 12 ∧ (h_kd (h_sI h9 523 16 ((h_oi h9 523 16) + z4)) (h_n h) = 1 ∧ Q (some (.int (((h_oi h9 520 16) + 1) - (1 : Int32)))) (h_sI (h_sQ (h_sI h9 523 16 ((h_oi h9 523 16) + z4)) 30 ((h_oi h9 520 16).toNatClampNeg) (some (h_n h))) 520 16 ((h_oi h9 520 16) + 1))))))))))) ∧ (¬ ((h_oi h 520 16) < 12) → Q (some (.int (-3))) h))) :
    w_c 23 69 [.ref 16] h Q := by
  refine w_ci (M := (8, 3, mc_X8_join)) rfl (Nat.le_of_ble_eq_true rfl) ?_
  show w_p _ _ 0 [(0, .ref 16)] [] h Q
  refine w_b 1 1 [(0, .ref 16)] [.ref 16] rfl ?_
  refine w_get (g := 520) rfl rfl rfl (kd_16 sh) ?_
  refine w_b 1 6 [(0, .ref 16)] [.int 12, .int (h_oi h 520 16)] rfl ?_
  refine w_ic_lt (tgt := 12) (x := h_oi h 520 16) (y := 12) rfl (by decide) ⟨fun c1 => ?_, fun c1 => ?_⟩
  · have F := F.1 c1
    refine w_new rfl ?_
    show w_p _ _ 15 [(0, .ref 16)] [.ref (h_n h)] (h_nO h 0 5) _
    refine w_b 1 16 [(0, .ref 16)] [.ref (h_n h), .ref (h_n h)] rfl ?_
    refine w_cn (As := []) (b := h_n h) (rest := [.ref (h_n h)]) rfl rfl rfl (Nat.le_of_ble_eq_true rfl) (dc := 2) (by omega) (F.mono (fun r h2 F => ?_))
    obtain ⟨rfl, sh2, F⟩ := F
    show w_p _ _ 19 [(0, .ref 16)] [.ref (h_n h)] h2 _
    refine w_b 2 21 [(1, .ref (h_n h)), (0, .ref 16)] [.ref 16] rfl ?_
    refine w_getS (b := 21) rfl rfl rfl (kd_16 sh2) (or_514_16 sh2) ?_
    refine w_b 1 25 [(1, .ref (h_n h)), (0, .ref 16)] [.ref 16, .ref 21] rfl ?_
    refine w_get (g := 521) rfl rfl rfl (kd_16 sh2) ?_
    refine w_b 1 29 [(1, .ref (h_n h)), (0, .ref 16)] [.int 0, .int (h_oi h2 521 16), .ref 21] rfl ?_
    refine w_cv (As := [.int (h_oi h2 521 16), .int 0]) (b := 21) (rest := []) rfl rfl rfl (Nat.le_of_ble_eq_true rfl) (kd_21 sh2) (fun z => absurd z (by decide)) (dc := 1) (by omega) (F.mono (fun r h3 F => ?_))
    obtain ⟨z4, rfl, sh3, F⟩ := F
    show w_p _ _ 32 [(1, .ref (h_n h)), (0, .ref 16)] [.int z4] h3 _
    refine w_b 2 34 [(2, .int z4), (1, .ref (h_n h)), (0, .ref 16)] [.ref (h_n h)] rfl ?_
    obtain ⟨g5, F⟩ := F
    refine w_getR (g := 0) rfl rfl rfl g5 ?_
    refine w_b 1 38 [(2, .int z4), (1, .ref (h_n h)), (0, .ref 16)] [.ref 16, va_rf (h_or h3 0 (h_n h))] rfl ?_
    refine w_get (g := 521) rfl rfl rfl (kd_16 sh3) ?_
    refine w_b 1 42 [(2, .int z4), (1, .ref (h_n h)), (0, .ref 16)] [.int z4, .int (h_oi h3 521 16), va_rf (h_or h3 0 (h_n h))] rfl ?_
    obtain ⟨b6, e7, F⟩ := F
    rw [e7]
    show w_p _ _ 42 [(2, .int z4), (1, .ref (h_n h)), (0, .ref 16)] [.int z4, .int (h_oi h3 521 16), .ref b6] h3 _
    obtain ⟨g8, F⟩ := F
    refine w_cv (As := [.int (h_oi h3 521 16), .int z4]) (b := b6) (rest := []) rfl rfl rfl (Nat.le_of_ble_eq_true rfl) g8 (fun z => absurd z (by decide)) (dc := 22) (by omega) (F.mono (fun r h9 F => ?_))
    obtain ⟨rfl, sh9, F⟩ := F
    show w_p _ _ 45 [(2, .int z4), (1, .ref (h_n h)), (0, .ref 16)] [] h9 _
    refine w_b 2 47 [(2, .int z4), (1, .ref (h_n h)), (0, .ref 16)] [.ref 16, .ref 16] rfl ?_
    refine w_get (g := 523) rfl rfl rfl (kd_16 sh9) ?_
    refine w_b 2 52 [(2, .int z4), (1, .ref (h_n h)), (0, .ref 16)] [.int ((h_oi h9 523 16) + z4), .ref 16] rfl ?_
    refine w_put (g := 523) (x := (h_oi h9 523 16) + z4) rfl rfl rfl (kd_16 sh9) (by decide) ?_
    refine w_b 1 56 [(2, .int z4), (1, .ref (h_n h)), (0, .ref 16)] [.ref 16] rfl ?_
    refine w_getS (b := 30) rfl rfl rfl (kd_16 sh9) (or_515_16 sh9) ?_
    refine w_b 1 60 [(2, .int z4), (1, .ref (h_n h)), (0, .ref 16)] [.ref 16, .ref 30] rfl ?_
    refine w_get (g := 520) rfl rfl rfl (kd_16 sh9) ?_
    refine w_b 1 64 [(2, .int z4), (1, .ref (h_n h)), (0, .ref 16)] [.ref (h_n h), .int (h_oi h9 520 16), .ref 30] rfl ?_
    obtain ⟨g10, F⟩ := F
    obtain ⟨g11, F⟩ := F
    refine w_aast (y := some (h_n h)) rfl (by decide) (by rw [show h_al (h_sI h9 523 16 ((h_oi h9 523 16) + z4)) 30 = 12 from (al_30 sh9)]; exact g10) (Or.inl ⟨(kd_30 sh9), (fun w z => by cases z; exact g11)⟩) ?_
    refine w_b 2 67 [(2, .int z4), (1, .ref (h_n h)), (0, .ref 16)] [.ref 16, .ref 16] rfl ?_
    refine w_get (g := 520) rfl rfl rfl (kd_16 sh9) ?_
    refine w_b 2 72 [(2, .int z4), (1, .ref (h_n h)), (0, .ref 16)] [.int ((h_oi h9 520 16) + 1), .ref 16] rfl ?_
    refine w_put (g := 520) (x := (h_oi h9 520 16) + 1) rfl rfl rfl (kd_16 sh9) (by decide) ?_
    refine w_b 1 76 [(2, .int z4), (1, .ref (h_n h)), (0, .ref 16)] [.ref 16] rfl ?_
    refine w_get (g := 520) rfl rfl rfl (kd_16 sh9) ?_
    refine w_b 2 81 [(2, .int z4), (1, .ref (h_n h)), (0, .ref 16)] [.int (((h_oi h9 520 16) + 1) - (1 : Int32))] rfl ?_
    exact w_ir rfl F
  · have F := F.2 c1
    refine w_b 1 11 [(0, .ref 16)] [.int (-3)] rfl ?_
    exact w_ir rfl F

set_option maxRecDepth 20000 in
theorem t_X9_join_0 {h : mm_H} {Q : Option Value → mm_H → Prop} (sh : s_h h) 
    (F : ((¬ (h_oi h 590 44) = 12 → w_c 1 116 [.ref 44, .int (h_oi h 588 44), .int 0] (h_sI h 590 44 ((h_oi h 590 44) + 1)) (fun r h2 => ∃ z3 : Int32, r = some (.int z3) ∧ s_h h2 ∧ (vp_in (((2001 : Int32) * (h_oi h 590 44)) + (h_oi h2 588 44)) 24012 ∧ Q (some (.int (h_oi h 590 44))) (h_sI (h_sA h2 53 ((((2001 : Int32) * (h_oi h 590 44)) + (h_oi h2 588 44)).toNatClampNeg) z3) 597 44 ((h_oi h2 597 44) + z3))))) ∧ ((h_oi h 590 44) = 12 → Q (some (.int (-3))) h))) :
    w_c 2 122 [.ref 44] h Q := by
  refine w_ci (M := (9, 3, mc_X9_join)) rfl (Nat.le_of_ble_eq_true rfl) ?_
  show w_p _ _ 0 [(0, .ref 44)] [] h Q
  refine w_b 1 1 [(0, .ref 44)] [.ref 44] rfl ?_
  refine w_get (g := 590) rfl rfl rfl (kd_44 sh) ?_
  refine w_b 1 6 [(0, .ref 44)] [.int 12, .int (h_oi h 590 44)] rfl ?_
  refine w_ic_ne (tgt := 12) (x := h_oi h 590 44) (y := 12) rfl (by decide) ⟨fun c1 => ?_, fun c1 => ?_⟩
  · have F := F.1 c1
    refine w_b 1 13 [(0, .ref 44)] [.ref 44] rfl ?_
    refine w_get (g := 590) rfl rfl rfl (kd_44 sh) ?_
    refine w_b 3 19 [(1, .int (h_oi h 590 44)), (0, .ref 44)] [.ref 44, .ref 44] rfl ?_
    refine w_get (g := 590) rfl rfl rfl (kd_44 sh) ?_
    refine w_b 2 24 [(1, .int (h_oi h 590 44)), (0, .ref 44)] [.int ((h_oi h 590 44) + 1), .ref 44] rfl ?_
    refine w_put (g := 590) (x := (h_oi h 590 44) + 1) rfl rfl rfl (kd_44 sh) (by decide) ?_
    refine w_b 2 29 [(1, .int (h_oi h 590 44)), (0, .ref 44)] [.ref 44, .ref 44] rfl ?_
    refine w_get (g := 588) rfl rfl rfl (kd_44 sh) ?_
    refine w_b 1 33 [(1, .int (h_oi h 590 44)), (0, .ref 44)] [.int 0, .int (h_oi h 588 44), .ref 44] rfl ?_
    refine w_cv (As := [.int (h_oi h 588 44), .int 0]) (b := 44) (rest := []) rfl rfl rfl (Nat.le_of_ble_eq_true rfl) (kd_44 sh) (fun z => absurd z (by decide)) (dc := 1) (by omega) (F.mono (fun r h2 F => ?_))
    obtain ⟨z3, rfl, sh2, F⟩ := F
    show w_p _ _ 36 [(1, .int (h_oi h 590 44)), (0, .ref 44)] [.int z3] h2 _
    refine w_b 2 38 [(2, .int z3), (1, .int (h_oi h 590 44)), (0, .ref 44)] [.ref 44] rfl ?_
    refine w_getS (b := 53) rfl rfl rfl (kd_44 sh2) (or_595_44 sh2) ?_
    refine w_b 4 47 [(2, .int z3), (1, .int (h_oi h 590 44)), (0, .ref 44)] [.ref 44, .int ((2001 : Int32) * (h_oi h 590 44)), .ref 53] rfl ?_
    refine w_get (g := 588) rfl rfl rfl (kd_44 sh2) ?_
    refine w_b 2 52 [(2, .int z3), (1, .int (h_oi h 590 44)), (0, .ref 44)] [.int z3, .int (((2001 : Int32) * (h_oi h 590 44)) + (h_oi h2 588 44)), .ref 53] rfl ?_
    obtain ⟨g4, F⟩ := F
    refine w_iast rfl (kd_53 sh2) (by decide) (by rw [show h_al h2 53 = 24012 from (al_53 sh2)]; exact g4) ?_
    refine w_b 2 55 [(2, .int z3), (1, .int (h_oi h 590 44)), (0, .ref 44)] [.ref 44, .ref 44] rfl ?_
    refine w_get (g := 597) rfl rfl rfl (kd_44 sh2) ?_
    refine w_b 2 60 [(2, .int z3), (1, .int (h_oi h 590 44)), (0, .ref 44)] [.int ((h_oi h2 597 44) + z3), .ref 44] rfl ?_
    refine w_put (g := 597) (x := (h_oi h2 597 44) + z3) rfl rfl rfl (kd_44 sh2) (by decide) ?_
    refine w_b 1 64 [(2, .int z3), (1, .int (h_oi h 590 44)), (0, .ref 44)] [.int (h_oi h 590 44)] rfl ?_
    exact w_ir rfl F
  · have F := F.2 (Decidable.not_not.mp c1)
    refine w_b 1 11 [(0, .ref 44)] [.int (-3)] rfl ?_
    exact w_ir rfl F

/-! A NEW FAMILY -/
def h_nF (h : mm_H) : mm_H := h_sR (h_sR (h_nA (h_sR (h_nA (h_nO (h_nO h 0 5) 3 4) 20 4) 192 (h_n h + 1) (some (h_n h + 2))) 20 4) 193 (h_n h + 1) (some (h_n h + 3))) 0 (h_n h) (some (h_n h + 1))
theorem nF_kd (h : mm_H) : h_kd (h_nF h) = va_up (va_up (va_up (va_up (h_kd h) (h_n h) 1) (h_n h + 1) 4) (h_n h + 2) 20) (h_n h + 3) 20 := rfl
theorem nF_al (h : mm_H) : h_al (h_nF h) = va_up (va_up (h_al h) (h_n h + 2) 4) (h_n h + 3) 4 := rfl
theorem nF_oi (h : mm_H) (g : Nat) : h_oi (h_nF h) g = va_up (va_up (h_oi h g) (h_n h) 0) (h_n h + 1) 0 := rfl
theorem nF_ex (h : mm_H) : ex h (h_nF h) (fun _ => False) := ((((((((ex.rf h (fun _ => False)).nO 0 5).nO 3 4).nA 20 4).sR _ (Or.inr (Nat.le_add_right _ _))).nA 20 4).sR _ (Or.inr (Nat.le_add_right _ _))).sR _ (Or.inr (Nat.le_refl _)))
theorem nF_F {h : mm_H} (hn : 70 ≤ h_n h) : cF1 (h_nF h) (h_n h) (h_n h + 1) (h_n h + 2) (h_n h + 3) 4 (fun _ => 0) 0 0 0 0 := by
  have z0 : fb_sm (fun _ => 0) 2001 = 0 := sm_0 (fun _ _ => rfl)
  refine ⟨⟨?_, hn, ?_⟩, ?_, ⟨?_, ?_, ?_, ?_⟩, 0, fun _ => 0, fun _ => 0, ⟨⟨⟨?_, ?_, ?_⟩, ⟨?_, ?_⟩, ⟨?_, ?_⟩, ⟨by omega, by omega, by omega, ?_, ?_, ?_, by omega⟩, by decide, by decide⟩, by decide, ?_, fun i hi => absurd hi (Nat.not_lt_zero _)⟩, ⟨fun i j _ hj => absurd hj (Nat.not_lt_zero _), fun i hi => absurd hi (Nat.not_lt_zero _), fun d hd => absurd hd (Nat.lt_irrefl _)⟩, ?_, by rw [z0]; decide⟩
  · rw [nF_kd, va_up_ne _ _ (by omega), va_up_ne _ _ (by omega), va_up_ne _ _ (by omega), va_up_self]
  · show h_n h < h_n h + 4; omega
  · exact or_self _ _ _ _
  · rw [nF_oi, va_up_ne _ _ (by omega), va_up_self]; rfl
  · rw [nF_oi, va_up_ne _ _ (by omega), va_up_self]
  · rw [nF_oi, va_up_ne _ _ (by omega), va_up_self]
  · rw [nF_oi, va_up_ne _ _ (by omega), va_up_self]
  · rw [nF_kd, va_up_ne _ _ (by omega), va_up_ne _ _ (by omega), va_up_self]
  · rw [nF_kd, va_up_ne _ _ (by omega), va_up_self]
  · rw [nF_kd, va_up_self]
  · refine (or_neG (by decide) _).trans ((or_neG (by decide) _).trans ?_)
    show h_or (h_sR (h_nA (h_nO (h_nO h 0 5) 3 4) 20 4) 192 (h_n h + 1) (some (h_n h + 2))) 192 (h_n h + 1) = _
    exact or_self _ _ _ _
  · exact (or_neG (by decide) _).trans (or_self _ _ _ _)
  · rw [nF_al, va_up_ne _ _ (by omega), va_up_self]
  · rw [nF_al, va_up_self]
  · show h_n h + 1 < h_n h + 4; omega
  · show h_n h + 2 < h_n h + 4; omega
  · show h_n h + 3 < h_n h + 4; omega
  · rw [nF_oi, va_up_self]; rfl
  · rw [nF_oi, va_up_self, z0]; rfl
theorem c_newF {h : mm_H} {Q : Option Value → mm_H → Prop} (sh : s_h h) (k : s_h (h_nF h) → Q none (h_nF h)) : w_c 2 0 [.ref (h_n h)] (h_nO h 0 5) Q := by
  have hn := n_70 sh
  have shF := (nF_ex h).sh sh (fun _ _ z => z)
  have sh1 : s_h (h_nO h 0 5) := (((ex.rf h (fun _ => False)).nO 0 5)).sh sh (fun _ _ z => z)
  have sh2 : s_h (h_nO (h_nO h 0 5) 3 4) := ((((ex.rf h (fun _ => False)).nO 0 5)).nO 3 4).sh sh (fun _ _ z => z)
  have k1 : ∀ x : mm_H, h_kd x = va_up (va_up (va_up (h_kd h) (h_n h) 1) (h_n h + 1) 4) (h_n h + 2) 20 → h_kd x (h_n h + 1) = 4 := fun x e => by rw [e, va_up_ne _ _ (by omega), va_up_self]
  refine t_X0_init_0 sh1 (h_n h) (t_X3_init_0 sh2 (h_n h + 1) ⟨k1 _ rfl, by omega, ?_, by omega, rfl, ?_, ?_, by omega, k shF⟩)
  · show va_up (va_up (va_up (va_up (h_kd h) (h_n h) 1) (h_n h + 1) 4) (h_n h + 2) 20) (h_n h + 3) 20 (h_n h + 1) = 4
    rw [va_up_ne _ _ (by omega), va_up_ne _ _ (by omega), va_up_self]
  · exact (((((((ex.rf h (fun _ => False)).nO 0 5).nO 3 4).nA 20 4).sR _ (Or.inr (Nat.le_add_right _ _))).nA 20 4).sR _ (Or.inr (Nat.le_add_right _ _))).sh sh (fun _ _ z => z)
  · show va_up (va_up (va_up (va_up (h_kd h) (h_n h) 1) (h_n h + 1) 4) (h_n h + 2) 20) (h_n h + 3) 20 (h_n h) = 1
    rw [va_up_ne _ _ (by omega), va_up_ne _ _ (by omega), va_up_ne _ _ (by omega), va_up_self]
theorem tL_g {tn : Nat} {td : Nat → Nat} {tv : Nat → Nat → Option Nat} {d k : Nat} (hk : ¬ (k = 1 ∨ k = 2)) : tL tn td tv d k = nI ((tV tn td tv d k).getD 0) := by
  cases e : tV tn td tv d k with
  | none => rw [tL_n e, if_neg hk]; rfl
  | some v => rw [tL_s e]; rfl
theorem tV_gle {tn : Nat} {td : Nat → Nat} {tv : Nat → Nat → Option Nat} (hX : xC tn td tv) {d k : Nat} (hk : k < 5) : (tV tn td tv d k).getD 0 ≤ 400 := by
  cases e : tV tn td tv d k with
  | none => exact Nat.zero_le _
  | some v => exact tV_le hX hk e
def zLw (X : zX) (dy k : Nat) : Nat := (tV X.1 X.2.1 X.2.2 dy k).getD 0
def f_join (F : zF) : zF := (F.1 + 1, va_up F.2 F.1 true)
def n_join (X : zX) (dy : Nat) (F : zF) (N : zN) : zN := (va_up N.1 F.1 (va_up (fun _ => 0) dy (zLw X dy 0)), N.2)
def o_join (h : mm_H) (F : zF) (own : Nat → Nat) : Nat → Nat := fun a => if h_n h ≤ a then F.1 else own a
theorem c_join0 {h : mm_H} {Q : Option Value → mm_H → Prop} {own cap : Nat → Nat} {T : zT} {X : zX} {dy W : Nat} {ft : Int32} {F : zF} {A O : zV} {N : zN} {C : zC} {H : zH} (sh : s_h h) (K : CS h own cap T X dy ft F A O N C H) (Z : zP W cap F A O N H) (hc : ¬ F.1 < 12) (k : Q (some (.int (-3))) h) : w_c 23 69 [.ref 16] h Q := by
  have z1 := Z.1
  refine t_X8_join_0 sh ⟨fun c => ?_, fun _ => k⟩
  rw [K.2.2.2.2.1.2.1] at c
  have := (i_lt (b := 12) (by omega) (by decide)).mp c
  omega
set_option maxHeartbeats 1000000 in
theorem c_join1 {h : mm_H} {Q : Option Value → mm_H → Prop} {own cap : Nat → Nat} {T : zT} {X : zX} {dy W : Nat} {ft : Int32} {F : zF} {A O : zV} {N : zN} {C : zC} {H : zH} (sh : s_h h) (K : CS h own cap T X dy ft F A O N C H) (Z : zP W cap F A O N H) (hc : F.1 < 12) (k : ∀ h' c', CS h' (o_join h F own) (va_up cap F.1 c') T X dy ft (f_join F) A O (n_join X dy F N) (C.1 + nI (zLw X dy 0), C.2) H → fC h h' → c' ≤ 4096 → h_s h' ≤ h_s h + 1 + 4 * c' → h_n h' ≤ h_n h + c' → Q (some (.int (nI F.1))) h') : w_c 23 69 [.ref 16] h Q := by
  have z1 := Z.1
  obtain ⟨k1, k2, k3, k4, k5, k6, k7, k8, k9, k10⟩ := id K
  have hn := n_70 sh
  have hd := k3.1
  refine t_X8_join_0 sh ⟨fun _ => (c_newF sh (fun shF => ⟨rfl, shF, ?_⟩)), fun c => ?_⟩
  · have eF := nF_ex h
    have fF : fx h (h_nF h) [] [] := eF.fx sh (fun _ _ z => z) [] []
    have X2 : cX (h_nF h) X.1 X.2.1 X.2.2 := k2.fx fF (by decide) (by decide) (fun _ _ => List.not_mem_nil)
    have D2 : cD (h_nF h) dy := k3.fx fF (by decide)
    have F2 := nF_F hn
    rw [D2.2]
    refine (sp_lawC shF X2 (d := dy) (k := 0) (by omega) (by decide) ⟨_, rfl, shF, F2.1.1, h_n h + 1, F2.2.1, F2.2.2.2.k.1.1, ?_⟩)
    rw [D2.2, tL_g (by decide)]
    have hv : zLw X dy 0 ≤ 400 := tV_gle k2.1 (by decide)
    show w_c 22 27 [.ref (h_n h + 1), .int (nI dy), .int (nI (zLw X dy 0))] (h_nF h) _
    have z0 : fb_sm (fun _ => 0) 2001 = 0 := sm_0 (fun _ _ => rfl)
    refine c_put shF F2.2.2.2 k3.1 (by rw [z0]; omega) (fun h9 d' n' c' e9 P9 q1 q2 g9 => ?_)
    have p70 : ∀ a, p3 (h_n h + 1) (h_n h + 2) (h_n h + 3) a → h_n h ≤ a := by
      rintro a (z | z | z) <;> omega
    have sh9 := s_h.ex shF e9 (fun a z => Nat.le_trans hn (p70 a z))
    have f9 : fx h h9 [] [] := fF.tr (e9.fx shF (fun a ha z => by have := p70 a z; omega) [] []) (by decide) (by decide) (by decide) (by decide)
    have E9 : ex h h9 (fun _ => False) := eF.tr e9 (fun _ z => z) (fun a ha z => by have := p70 a z; omega)
    have nq : ¬ p3 (h_n h + 1) (h_n h + 2) (h_n h + 3) (h_n h) := by
      rintro (z | z | z) <;> omega
    have g1 := e9.2 (h_n h) F2.1.2.2
    have g2 := g1.2 nq
    have F9 : cF1 h9 (h_n h) (h_n h + 1) d' n' c' (va_up (fun _ => 0) dy (zLw X dy 0)) 0 0 0 0 := ⟨⟨g1.1.1.trans F2.1.1, hn, Nat.lt_of_lt_of_le F2.1.2.2 e9.1⟩, (g2.2.2 0).1.trans F2.2.1, ⟨(g2.2.2 1).2.trans F2.2.2.1.1, (g2.2.2 2).2.trans F2.2.2.1.2.1, (g2.2.2 3).2.trans F2.2.2.1.2.2.1, (g2.2.2 4).2.trans F2.2.2.1.2.2.2⟩, by
      have e : (va_up (fun _ => 0) dy ((fun _ => 0) dy + zLw X dy 0) : Nat → Nat) = va_up (fun _ => 0) dy (zLw X dy 0) := by rw [Nat.zero_add]
      rw [← e]; exact P9⟩
    have i520 : h_oi h9 520 16 = nI F.1 := (f9.oi _ _ (by decide) (by decide)).trans k5.2.1
    have i523 : h_oi h9 523 16 = C.1 := (f9.oi _ _ (by decide) (by decide)).trans k9.1
    refine ⟨rfl, sh9, ?_⟩
    rw [i520, i523, i_cl (by omega), nI_1, nI_sub1 (by omega), Nat.add_sub_cancel]
    show _ ∧ _ ∧ Q (some (.int (nI F.1))) (h_sI (h_sQ (h_sI h9 523 16 (C.1 + nI (zLw X dy 0))) 30 F.1 (some (h_n h))) 520 16 (nI (F.1 + 1)))
    refine ⟨vp_in_nI hc (by decide), F9.1.1, ?_⟩
    have hd4 : h_n h ≤ d' := by rcases q1 with z | z <;> have w : h_n h ≤ h_n (h_nF h) := eF.1 <;> omega
    have hn4 : h_n h ≤ n' := by rcases q2 with z | z <;> have w : h_n h ≤ h_n (h_nF h) := eF.1 <;> omega
    have f' : fx h (h_sI (h_sQ (h_sI h9 523 16 (C.1 + nI (zLw X dy 0))) 30 F.1 (some (h_n h))) 520 16 (nI (F.1 + 1))) [(520, 16), (523, 16)] [30] := (((f9.wk (by decide) (by decide)).sI _ (Or.inl (by decide))).sQ _ _ (Or.inl (by decide))).sI _ (Or.inl (by decide))
    have E' : ex h9 (h_sI (h_sQ (h_sI h9 523 16 (C.1 + nI (zLw X dy 0))) 30 F.1 (some (h_n h))) 520 16 (nI (F.1 + 1))) (fun a => a = 16 ∨ a = 30) := (((ex.rf h9 (fun a => a = 16 ∨ a = 30)).sI _ (Or.inl (Or.inl rfl))).sQ _ _ (Or.inl (Or.inr rfl))).sI _ (Or.inl (Or.inl rfl))
    have E2 : ex h (h_sI (h_sQ (h_sI h9 523 16 (C.1 + nI (zLw X dy 0))) 30 F.1 (some (h_n h))) 520 16 (nI (F.1 + 1))) (fun a => a = 16 ∨ a = 30) := E9.tr E' (fun _ z => z.elim) (fun _ _ z => z)
    have n1630 : ∀ a, 70 ≤ a → ¬ (fun a => a = 16 ∨ a = 30) a := fun a ha z => by have z : a = 16 ∨ a = 30 := z; omega
    have kk := F9.2.2.2.k.2.2.2.1
    have F10 := F9.frm E' (n1630 _ F9.1.2.1) (n1630 _ kk.1) (n1630 _ kk.2.1) (n1630 _ kk.2.2.1)
    have ar : h_ar (h_sI (h_sQ (h_sI h9 523 16 (C.1 + nI (zLw X dy 0))) 30 F.1 (some (h_n h))) 520 16 (nI (F.1 + 1))) 30 = va_up (h_ar h 30) F.1 (some (h_n h)) := by
      show h_ar (h_sQ (h_sI h9 523 16 (C.1 + nI (zLw X dy 0))) 30 F.1 (some (h_n h))) 30 = _
      rw [ar_self]
      show va_up (h_ar h9 30) _ _ = _
      rw [f9.ar 30 (by decide) (by decide)]
    have t1 : h_oi (h_sI (h_sQ (h_sI h9 523 16 (C.1 + nI (zLw X dy 0))) 30 F.1 (some (h_n h))) 520 16 (nI (F.1 + 1))) 520 16 = nI (F.1 + 1) := oi_self _ _ _ _
    have t2 : h_oi (h_sI (h_sQ (h_sI h9 523 16 (C.1 + nI (zLw X dy 0))) 30 F.1 (some (h_n h))) 520 16 (nI (F.1 + 1))) 523 16 = C.1 + nI (zLw X dy 0) := (oi_neG (by decide) _).trans (show h_oi (h_sI h9 523 16 (C.1 + nI (zLw X dy 0))) 523 16 = _ from oi_self _ _ _ _)
    have t3 : h_s (h_sI (h_sQ (h_sI h9 523 16 (C.1 + nI (zLw X dy 0))) 30 F.1 (some (h_n h))) 520 16 (nI (F.1 + 1))) = h_s h9 := rfl
    have t4 : h_n (h_sI (h_sQ (h_sI h9 523 16 (C.1 + nI (zLw X dy 0))) 30 F.1 (some (h_n h))) 520 16 (nI (F.1 + 1))) = h_n h9 := rfl
    generalize (h_sI (h_sQ (h_sI h9 523 16 (C.1 + nI (zLw X dy 0))) 30 F.1 (some (h_n h))) 520 16 (nI (F.1 + 1))) = h10 at f' E' E2 F10 ar t1 t2 t3 t4 ⊢
    obtain ⟨ab1, ab2⟩ := Z.2.2.2.1 F.1 hc (fun z => absurd z.1 (Nat.lt_irrefl _))
    obtain ⟨-, bb2, bb3, bb4, bb5⟩ := Z.2.2.2.2.1 F.1 (Nat.le_refl _) hc
    have own1 : ∀ a, h_n h ≤ a → o_join h F own a = F.1 := fun a ha => if_pos ha
    have own2 : ∀ a, a < h_n h → o_join h F own a = own a := fun a ha => if_neg (by omega)
    refine k h10 c' ⟨k1.fx f' (by decide) (by decide), k2.fx f' (by decide) (by decide) (by decide), k3.fx f' (by decide), k4.fx f' (by decide), ?_, k6.fx f' (by decide) (by decide) (by decide) (by decide) (by decide), k7.fx f' (by decide) (by decide) (by decide) (by decide) (by decide), ?_, ⟨t2, (f'.oi _ _ (by decide) (by decide)).trans k9.2.1, (f'.oi _ _ (by decide) (by decide)).trans k9.2.2⟩, ?_⟩ (f'.wk (by decide) (by decide)) F9.2.2.2.k.2.2.2.2.2 ?_ ?_
    · refine ⟨hc, t1, fun g hg => ?_⟩
      rw [ar]
      by_cases z : g = F.1
      · rw [z, va_up_self]
        refine ⟨fun y => (by cases y), fun q y => ?_⟩
        cases y
        exact ⟨⟨Nat.lt_succ_self _, va_up_self _ _ _⟩, F10.1.2.1, F10.1.2.2, F10.1.1⟩
      · rw [va_up_ne _ _ z]
        obtain ⟨p1, p2⟩ := k5.2.2 g hg
        have ep : (f_join F).2 g = F.2 g := va_up_ne _ _ z
        have ef : (f_join F).1 = F.1 + 1 := rfl
        rw [ep, ef]
        refine ⟨fun y w => p1 y ⟨by omega, w.2⟩, fun q y => ?_⟩
        obtain ⟨w1, w2, w3, w4⟩ := p2 q y
        exact ⟨⟨by omega, w1.2⟩, w2, Nat.lt_of_lt_of_le w3 E2.1, ((E2.2 q w3).1.1).trans w4⟩
    · refine k8.upd (Tc := fun a => a = F.1) (F' := f_join F) (by show F.1 + 1 ≤ 12; omega) E2 (fun g _ hg => by rw [ar, va_up_ne _ _ hg]) (fun a h70 _ z => absurd z (n1630 a h70)) (fun a ha _ => own2 a ha) (fun g hg h1 h2 => ?_) (fun g hg h1 h2 => ?_)
      · have h1 : g < F.1 + 1 := h1
        have hg : g ≠ F.1 := hg
        have h2 : va_up F.2 F.1 true g = true := h2
        rw [va_up_ne _ _ hg] at h2
        exact ⟨⟨by omega, h2⟩, va_up_ne _ _ hg, va_up_ne _ _ hg, rfl, rfl, rfl, rfl⟩
      · have hg : g = F.1 := hg
        subst hg
        refine ⟨h_n h, h_n h + 1, d', n', ?_, ⟨own1 _ (Nat.le_refl _), own1 _ (by omega), own1 _ hd4, own1 _ hn4⟩, ?_⟩
        · rw [ar, va_up_self]
        · rw [va_up_self]
          show cF1 h10 _ _ _ _ _ (va_up N.1 F.1 _ F.1) (N.2.1 F.1) (N.2.2.1 F.1) (N.2.2.2.1 F.1) (N.2.2.2.2 F.1)
          rw [va_up_self, ab2, bb2, bb3, bb4]
          exact F10
    · exact k10.upd (Tc := fun a => a = F.1) E2 (fun k _ => by rw [f'.ar 43 (by decide) (by decide)]) (fun a h70 _ z => absurd z (n1630 a h70)) (fun k hk z => by have z : 12 + k = F.1 := z; omega) (fun a ha _ => own2 a ha)
    · obtain ⟨g91, g92, g93⟩ := g9
      have e4 : h_s (h_nF h) = h_s h + 5 + 4 + 4 + 4 := rfl
      have c4 := F9.2.2.2.k.2.2.2.2.1
      omega
    · obtain ⟨g91, g92, g93⟩ := g9
      have e4 : h_n (h_nF h) = h_n h + 1 + 1 + 1 + 1 := rfl
      omega
  · rw [k5.2.1] at c
    exact absurd ((i_lt (b := 12) (by omega) (by decide)).mpr hc) c
theorem m_join0 {h : mm_H} {Q : Option Value → mm_H → Prop} {cap : Nat → Nat} {T : zT} {X : zX} {dy cl W : Nat} {ft : Int32} {F : zF} {A O : zV} {N : zN} {C : zC} {H : zH} (sh : s_h h) (K : MS h cl T X dy ft F A O N C H) (Z : zP W cap F A O N H) (hc : ¬ F.1 < 12) (k : Q (some (.int (-3))) h) : w_c 2 122 [.ref 44] h Q := by
  have z1 := Z.1
  refine t_X9_join_0 sh ⟨fun c => absurd ?_ c, fun _ => k⟩
  rw [K.2.2.2.1.2.1, show F.1 = 12 by omega]
  rfl
theorem m_join1 {h : mm_H} {Q : Option Value → mm_H → Prop} {cap : Nat → Nat} {T : zT} {X : zX} {dy cl W : Nat} {ft : Int32} {F : zF} {A O : zV} {N : zN} {C : zC} {H : zH} (sh : s_h h) (K : MS h cl T X dy ft F A O N C H) (Z : zP W cap F A O N H) (hc : F.1 < 12) (k : ∀ h', MS h' cl T X dy ft (f_join F) A O (n_join X dy F N) (C.1 + nI (zLw X dy 0), C.2) H → fM h h' → Q (some (.int (nI F.1))) h') : w_c 2 122 [.ref 44] h Q := by
  have md := K.d
  have hd := md.1
  obtain ⟨k1, k2, k3, k4, k5, k6, k7, k8, k9, k10, k11, k12⟩ := id K
  refine t_X9_join_0 sh ⟨fun _ => ?_, fun c => ?_⟩
  · rw [k4.2.1, md.2, nI_1]
    have f1 : fx h (h_sI h 590 44 (nI (F.1 + 1))) [(590, 44)] [] := (fx.rf _ _ _).sI _ (Or.inl (by decide))
    have sh1 := f1.sh sh (by decide)
    refine sp_lawM sh1 (k2.fx f1 (by decide) (by decide) (by decide)) (d := dy) (k := 0) (by omega) (by decide) ⟨_, rfl, sh1, ?_⟩
    rw [show h_oi (h_sI h 590 44 (nI (F.1 + 1))) 588 44 = nI dy from (f1.oi _ _ (by decide) (by decide)).trans md.2, show h_oi (h_sI h 590 44 (nI (F.1 + 1))) 597 44 = C.1 from (f1.oi _ _ (by decide) (by decide)).trans k10.1, e2001, i_cl (by omega), tL_g (by decide)]
    refine ⟨vp_in_nI (by omega) (by decide), ?_⟩
    show Q (some (.int (nI F.1))) (h_sI (h_sA (h_sI h 590 44 (nI (F.1 + 1))) 53 (2001 * F.1 + dy) (nI (zLw X dy 0))) 597 44 (C.1 + nI (zLw X dy 0)))
    have f2 : fx h (h_sI (h_sA (h_sI h 590 44 (nI (F.1 + 1))) 53 (2001 * F.1 + dy) (nI (zLw X dy 0))) 597 44 (C.1 + nI (zLw X dy 0))) [(590, 44), (597, 44)] [53] := ((f1.wk (by decide) (by decide)).sA _ _ (Or.inl (by decide))).sI _ (Or.inl (by decide))
    have d2 : dn h (h_sI (h_sA (h_sI h 590 44 (nI (F.1 + 1))) 53 (2001 * F.1 + dy) (nI (zLw X dy 0))) 597 44 (C.1 + nI (zLw X dy 0))) := (((dn.rf _).sI _ (by decide)).sA _ _ (by decide)).sI _ (by decide)
    have ab1 := (Z.2.2.2.1 F.1 hc (fun z => absurd z.1 (Nat.lt_irrefl _))).1
    have A0 : mNa (h_sI h 590 44 (nI (F.1 + 1))) N.1 := k7.2.2.2.1
    have A1 := A0.up (f := F.1) (d := dy) hd (zLw X dy 0)
    refine k _ ⟨k1.fx f2 (by decide) (by decide), k2.fx f2 (by decide) (by decide) (by decide), k3.fx f2 (by decide), ?_, k5.fx f2 (by decide) (by decide) (by decide) (by decide) (by decide), k6.fx f2 (by decide) (by decide) (by decide) (by decide) (by decide), ?_, k8.fx f2 (by decide), k9.fx f2 (by decide) (by decide) (by decide), ⟨oi_self _ _ _ _, (f2.oi _ _ (by decide) (by decide)).trans k10.2.1, (f2.oi _ _ (by decide) (by decide)).trans k10.2.2⟩, k11.fx f2 (by decide) (by decide) (by decide), fun g h1 h2 => ?_⟩ ⟨f2.wk (by decide) (by decide), d2⟩
    · refine ⟨hc, (oi_neG (by decide) _).trans (show h_oi (h_sI h 590 44 (nI (F.1 + 1))) 590 44 = _ from oi_self _ _ _ _), fun g hg => ?_⟩
      rw [f2.ai 49 (by decide) (by decide)]
      have hg : g < F.1 + 1 := hg
      show _ = if va_up F.2 F.1 true g = true then 0 else 1
      by_cases z : g = F.1
      · rw [z, va_up_self, if_pos (show true = true from rfl)]
        exact k12 F.1 (Nat.le_refl _) hc
      · rw [va_up_ne _ _ z]
        exact k4.2.2 g (by omega)
    · refine ⟨k7.1, (f2.oi _ _ (by decide) (by decide)).trans k7.2.1, (f2.oi _ _ (by decide) (by decide)).trans k7.2.2.1, A1.cong (fun g hg e he => ?_), fun g hg e he => ?_⟩
      · show va_up N.1 F.1 (va_up (N.1 F.1) dy (zLw X dy 0)) g e = va_up N.1 F.1 (va_up (fun _ => 0) dy (zLw X dy 0)) g e
        by_cases z : g = F.1
        · rw [z, va_up_self, va_up_self]
          by_cases y : e = dy
          · rw [y, va_up_self, va_up_self]
          · rw [va_up_ne _ _ y, va_up_ne _ _ y]; exact ab1 e
        · rw [va_up_ne _ _ z, va_up_ne _ _ z]
      · show va_up N.1 F.1 (va_up (fun _ => 0) dy (zLw X dy 0)) g e = 0
        by_cases z : g = F.1
        · rw [z, va_up_self, va_up_ne _ _ (by have := k7.1; omega)]
        · rw [va_up_ne _ _ z]; exact k7.2.2.2.2 g hg e he
    · rw [f2.ai 49 (by decide) (by decide)]
      have h1 : F.1 + 1 ≤ g := h1
      exact k12 g (by omega) h2
  · rw [k4.2.1] at c
    have := (nI_eqI (b := 12) (by omega) (by decide)).mp c
    omega
