set_option maxRecDepth 20000 in
theorem t_X5_init_0 {h : mm_H} {Q : Option Value → mm_H → Prop} (sh : s_h h) (ro : Nat) (lane : Int32) (n : Int32) 
    (F : (h_kd h ro = 6 ∧ (16 ≤ ro ∧ (¬ (if 0 < n then n else 0) < 0 ∧ ((if 0 < n then n else 0).toNatClampNeg ≤ 100000000 ∧ (h_kd (h_nA (h_sI h 320 ro lane) 20 ((if 0 < n then n else 0).toNatClampNeg)) ro = 6 ∧ (16 ≤ ro ∧ Q none (h_sR (h_nA (h_sI h 320 ro lane) 20 ((if 0 < n then n else 0).toNatClampNeg)) 321 ro (some (h_n h)))))))))) :
    w_c 1 43 [.ref ro, .int lane, .int n] h Q := by
  refine w_ci (M := (5, 3, mc_X5_init)) rfl (Nat.le_of_ble_eq_true rfl) ?_
  show w_p _ _ 0 [(0, .ref ro), (1, .int lane), (2, .int n)] [] h Q
  refine w_b 1 1 [(0, .ref ro), (1, .int lane), (2, .int n)] [.ref ro] rfl ?_
  refine w_o rfl (Nat.le_of_ble_eq_true rfl) ?_
  refine w_b 2 6 [(0, .ref ro), (1, .int lane), (2, .int n)] [.int lane, .ref ro] rfl ?_
  obtain ⟨g1, F⟩ := F
  obtain ⟨g2, F⟩ := F
  refine w_put (g := 320) (x := lane) rfl rfl rfl g1 g2 ?_
  refine w_b 3 12 [(0, .ref ro), (1, .int lane), (2, .int n)] [.int n, .int 0, .ref ro] rfl ?_
  refine w_max (x := 0) (y := n) rfl (Nat.le_of_ble_eq_true rfl) ?_
  obtain ⟨g3, g4, F⟩ := F
  refine w_newa (x := if 0 < n then n else 0) rfl g3 g4 ?_
  show w_p _ _ 17 [(0, .ref ro), (1, .int lane), (2, .int n)] [.ref (h_n h), .ref ro] (h_nA (h_sI h 320 ro lane) 20 ((if 0 < n then n else 0).toNatClampNeg)) _
  obtain ⟨g5, F⟩ := F
  obtain ⟨g6, F⟩ := F
  refine w_putR (g := 321) (x := some (h_n h)) rfl rfl rfl g5 g6 ?_
  exact w_vr rfl F

set_option maxRecDepth 20000 in
theorem t_X5_has_0 {h : mm_H} {Q : Option Value → mm_H → Prop} (sh : s_h h) (ro : Nat) (i : Int32) {ra rn : Nat} (kr : h_kd h ro = 6) (ka : h_kd h ra = 20) (rr : h_or h 321 ro = some ra) (al : h_al h ra = rn) (hr : 16 ≤ ro) (ha : 16 ≤ ra)
    (F : ((i < 0 → Q (some (.int 0)) h) ∧ (¬ (i < 0) → (((Int32.ofNat rn) ≤ i → Q (some (.int 0)) h) ∧ (¬ ((Int32.ofNat rn) ≤ i) → Q (some (.int 1)) h))))) :
    w_c 0 44 [.ref ro, .int i] h Q := by
  refine w_ci (M := (5, 2, mc_X5_has)) rfl (Nat.le_of_ble_eq_true rfl) ?_
  show w_p _ _ 0 [(0, .ref ro), (1, .int i)] [] h Q
  refine w_b 1 1 [(0, .ref ro), (1, .int i)] [.int i] rfl ?_
  refine w_if_lt (tgt := 17) (x := i) rfl (by decide) ⟨fun c1 => ?_, fun c1 => ?_⟩
  · have F := F.1 c1
    refine w_b 1 18 [(0, .ref ro), (1, .int i)] [.int 0] rfl ?_
    exact w_br rfl (by decide) F
  · have F := F.2 c1
    refine w_b 2 6 [(0, .ref ro), (1, .int i)] [.ref ro, .int i] rfl ?_
    refine w_getS (b := ra) rfl rfl rfl kr (rr) ?_
    refine w_alen rfl (by rw [show _ = 20 from ka]; decide) ?_
    rw [show h_al h ra = rn from al]
    refine w_ic_ge (tgt := 17) (x := i) (y := Int32.ofNat rn) rfl (by decide) ⟨fun c2 => ?_, fun c2 => ?_⟩
    · have F := F.1 c2
      refine w_b 1 18 [(0, .ref ro), (1, .int i)] [.int 0] rfl ?_
      exact w_br rfl (by decide) F
    · have F := F.2 c2
      refine w_b 2 18 [(0, .ref ro), (1, .int i)] [.int 1] rfl ?_
      exact w_br rfl (by decide) F

set_option maxRecDepth 20000 in
theorem t_X5_at_0 {h : mm_H} {Q : Option Value → mm_H → Prop} (sh : s_h h) (ro : Nat) (i : Int32) {ra rn : Nat} (kr : h_kd h ro = 6) (ka : h_kd h ra = 20) (rr : h_or h 321 ro = some ra) (al : h_al h ra = rn) (hr : 16 ≤ ro) (ha : 16 ≤ ra)
    (F : w_c 0 44 [.ref ro, .int i] h (fun r h1 => ∃ z2 : Int32, r = some (.int z2) ∧ s_h h1 ∧ ((z2 = 0 → Q (some (.int 0)) h1) ∧ (¬ (z2 = 0) → (h_kd h1 ro = 6 ∧ (∃ b5 : Nat, (h_or h1 321 ro) = some b5 ∧ (h_kd h1 b5 = 20 ∧ (vp_in i (h_al h1 b5) ∧ Q (some (.int (h_ai h1 b5 i.toNatClampNeg))) h1)))))))) :
    w_c 1 45 [.ref ro, .int i] h Q := by
  refine w_ci (M := (5, 2, mc_X5_at)) rfl (Nat.le_of_ble_eq_true rfl) ?_
  show w_p _ _ 0 [(0, .ref ro), (1, .int i)] [] h Q
  refine w_b 2 2 [(0, .ref ro), (1, .int i)] [.int i, .ref ro] rfl ?_
  refine w_cv (As := [.int i]) (b := ro) (rest := []) rfl rfl rfl (Nat.le_of_ble_eq_true rfl) kr (fun z => absurd z (by decide)) (dc := 0) (by omega) (F.mono (fun r h1 F => ?_))
  obtain ⟨z2, rfl, sh1, F⟩ := F
  show w_p _ _ 5 [(0, .ref ro), (1, .int i)] [.int z2] h1 _
  refine w_if_eq (tgt := 17) (x := z2) rfl (by decide) ⟨fun c3 => ?_, fun c3 => ?_⟩
  · have F := F.1 c3
    refine w_b 1 18 [(0, .ref ro), (1, .int i)] [.int 0] rfl ?_
    exact w_ir rfl F
  · have F := F.2 c3
    refine w_b 1 9 [(0, .ref ro), (1, .int i)] [.ref ro] rfl ?_
    obtain ⟨g4, F⟩ := F
    refine w_getR (g := 321) rfl rfl rfl g4 ?_
    refine w_b 1 13 [(0, .ref ro), (1, .int i)] [.int i, va_rf (h_or h1 321 ro)] rfl ?_
    obtain ⟨b5, e6, F⟩ := F
    rw [e6]
    show w_p _ _ 13 [(0, .ref ro), (1, .int i)] [.int i, .ref b5] h1 _
    obtain ⟨g7, F⟩ := F
    obtain ⟨g8, F⟩ := F
    refine w_iald rfl g7 g8 ?_
    refine w_b 1 18 [(0, .ref ro), (1, .int i)] [.int (h_ai h1 b5 i.toNatClampNeg)] rfl ?_
    exact w_ir rfl F

set_option maxRecDepth 20000 in
theorem t_X5_write_0 {h : mm_H} {Q : Option Value → mm_H → Prop} (sh : s_h h) (ro : Nat) (i : Int32) (v : Int32) {ra rn : Nat} (kr : h_kd h ro = 6) (ka : h_kd h ra = 20) (rr : h_or h 321 ro = some ra) (al : h_al h ra = rn) (hr : 16 ≤ ro) (ha : 16 ≤ ra)
    (F : w_c 0 44 [.ref ro, .int i] h (fun r h1 => ∃ z2 : Int32, r = some (.int z2) ∧ s_h h1 ∧ ((z2 = 0 → Q none h1) ∧ (¬ (z2 = 0) → (h_kd h1 ro = 6 ∧ (h_kd h1 ro = 6 ∧ ((¬ (h_oi h1 320 ro) = 0 → (∃ b7 : Nat, (h_or h1 321 ro) = some b7 ∧ (h_kd h1 b7 = 20 ∧ (vp_in i (h_al h1 b7) ∧ (16 ≤ b7 ∧ Q none (h_sA h1 b7 i.toNatClampNeg v)))))) ∧ ((h_oi h1 320 ro) = 0 → (∃ b12 : Nat, (h_or h1 321 ro) = some b12 ∧ (h_kd h1 b12 = 20 ∧ (vp_in i (h_al h1 b12) ∧ (16 ≤ b12 ∧ Q none (h_sA h1 b12 i.toNatClampNeg v.toInt8.toInt32))))))))))))) :
    w_c 1 46 [.ref ro, .int i, .int v] h Q := by
  refine w_ci (M := (5, 3, mc_X5_write)) rfl (Nat.le_of_ble_eq_true rfl) ?_
  show w_p _ _ 0 [(0, .ref ro), (1, .int i), (2, .int v)] [] h Q
  refine w_b 2 2 [(0, .ref ro), (1, .int i), (2, .int v)] [.int i, .ref ro] rfl ?_
  refine w_cv (As := [.int i]) (b := ro) (rest := []) rfl rfl rfl (Nat.le_of_ble_eq_true rfl) kr (fun z => absurd z (by decide)) (dc := 0) (by omega) (F.mono (fun r h1 F => ?_))
  obtain ⟨z2, rfl, sh1, F⟩ := F
  show w_p _ _ 5 [(0, .ref ro), (1, .int i), (2, .int v)] [.int z2] h1 _
  refine w_if_eq (tgt := 27) (x := z2) rfl (by decide) ⟨fun c3 => ?_, fun c3 => ?_⟩
  · have F := F.1 c3
    exact w_vr rfl F
  · have F := F.2 c3
    refine w_b 1 9 [(0, .ref ro), (1, .int i), (2, .int v)] [.ref ro] rfl ?_
    obtain ⟨g4, F⟩ := F
    refine w_getR (g := 321) rfl rfl rfl g4 ?_
    refine w_b 2 14 [(0, .ref ro), (1, .int i), (2, .int v)] [.ref ro, .int i, va_rf (h_or h1 321 ro)] rfl ?_
    obtain ⟨g5, F⟩ := F
    refine w_get (g := 320) rfl rfl rfl g5 ?_
    refine w_if_ne (tgt := 25) (x := h_oi h1 320 ro) rfl (by decide) ⟨fun c6 => ?_, fun c6 => ?_⟩
    · have F := F.1 c6
      refine w_b 1 26 [(0, .ref ro), (1, .int i), (2, .int v)] [.int v, .int i, va_rf (h_or h1 321 ro)] rfl ?_
      obtain ⟨b7, e8, F⟩ := F
      rw [e8]
      show w_p _ _ 26 [(0, .ref ro), (1, .int i), (2, .int v)] [.int v, .int i, .ref b7] h1 _
      obtain ⟨g9, F⟩ := F
      obtain ⟨g10, F⟩ := F
      obtain ⟨g11, F⟩ := F
      refine w_iast rfl g9 g11 g10 ?_
      exact w_vr rfl F
    · have F := F.2 (Decidable.not_not.mp c6)
      refine w_b 3 26 [(0, .ref ro), (1, .int i), (2, .int v)] [.int v.toInt8.toInt32, .int i, va_rf (h_or h1 321 ro)] rfl ?_
      obtain ⟨b12, e13, F⟩ := F
      rw [e13]
      show w_p _ _ 26 [(0, .ref ro), (1, .int i), (2, .int v)] [.int v.toInt8.toInt32, .int i, .ref b12] h1 _
      obtain ⟨g14, F⟩ := F
      obtain ⟨g15, F⟩ := F
      obtain ⟨g16, F⟩ := F
      refine w_iast rfl g14 g16 g15 ?_
      exact w_vr rfl F

set_option maxRecDepth 20000 in
theorem t_X8_isSheet_0 {h : mm_H} {Q : Option Value → mm_H → Prop} (sh : s_h h) (k : Int32) 
    (F : ((k < 0 → Q (some (.int 0)) h) ∧ (¬ (k < 0) → ((4 ≤ k → Q (some (.int 0)) h) ∧ (¬ (4 ≤ k) → Q (some (.int 1)) h))))) :
    w_c 0 99 [.int k] h Q := by
  refine w_ci (M := (8, 1, mc_X8_isSheet)) rfl (Nat.le_of_ble_eq_true rfl) ?_
  show w_p _ _ 0 [(0, .int k)] [] h Q
  refine w_b 1 1 [(0, .int k)] [.int k] rfl ?_
  refine w_if_lt (tgt := 13) (x := k) rfl (by decide) ⟨fun c1 => ?_, fun c1 => ?_⟩
  · have F := F.1 c1
    refine w_b 1 14 [(0, .int k)] [.int 0] rfl ?_
    exact w_br rfl (by decide) F
  · have F := F.2 c1
    refine w_b 2 6 [(0, .int k)] [.int 4, .int k] rfl ?_
    refine w_ic_ge (tgt := 13) (x := k) (y := 4) rfl (by decide) ⟨fun c2 => ?_, fun c2 => ?_⟩
    · have F := F.1 c2
      refine w_b 1 14 [(0, .int k)] [.int 0] rfl ?_
      exact w_br rfl (by decide) F
    · have F := F.2 c2
      refine w_b 2 14 [(0, .int k)] [.int 1] rfl ?_
      exact w_br rfl (by decide) F

set_option maxRecDepth 20000 in
theorem t_X8_isLane_0 {h : mm_H} {Q : Option Value → mm_H → Prop} (sh : s_h h) (lane : Int32) 
    (F : ((lane = 0 → Q (some (.int 1)) h) ∧ (¬ (lane = 0) → ((¬ lane = 1 → Q (some (.int 0)) h) ∧ (lane = 1 → Q (some (.int 1)) h))))) :
    w_c 0 100 [.int lane] h Q := by
  refine w_ci (M := (8, 1, mc_X8_isLane)) rfl (Nat.le_of_ble_eq_true rfl) ?_
  show w_p _ _ 0 [(0, .int lane)] [] h Q
  refine w_b 1 1 [(0, .int lane)] [.int lane] rfl ?_
  refine w_if_eq (tgt := 9) (x := lane) rfl (by decide) ⟨fun c1 => ?_, fun c1 => ?_⟩
  · have F := F.1 c1
    refine w_b 2 14 [(0, .int lane)] [.int 1] rfl ?_
    exact w_br rfl (by decide) F
  · have F := F.2 c1
    refine w_b 2 6 [(0, .int lane)] [.int 1, .int lane] rfl ?_
    refine w_ic_ne (tgt := 13) (x := lane) (y := 1) rfl (by decide) ⟨fun c2 => ?_, fun c2 => ?_⟩
    · have F := F.1 c2
      refine w_b 1 14 [(0, .int lane)] [.int 0] rfl ?_
      exact w_br rfl (by decide) F
    · have F := F.2 (Decidable.not_not.mp c2)
      refine w_b 2 14 [(0, .int lane)] [.int 1] rfl ?_
      exact w_br rfl (by decide) F

set_option maxRecDepth 20000 in
theorem t_X8_sheet_0 {h : mm_H} {Q : Option Value → mm_H → Prop} (sh : s_h h) (k : Int32) (lane : Int32) (n : Int32) 
    (F : w_c 0 99 [.int k] h (fun r h1 => ∃ z2 : Int32, r = some (.int z2) ∧ s_h h1 ∧ ((z2 = 0 → Q (some (.int (-1))) h1) ∧ (¬ (z2 = 0) → w_c 0 100 [.int lane] h1 (fun r h4 => ∃ z5 : Int32, r = some (.int z5) ∧ s_h h4 ∧ ((z5 = 0 → Q (some (.int (-1))) h4) ∧ (¬ (z5 = 0) → ((n ≤ 60 → ((0 ≤ n → w_c 1 43 [.ref (h_n h4), .int lane, .int n] (h_nO h4 5 2) (fun r h9 => r = none ∧ s_h h9 ∧ (vp_in k 4 ∧ (h_kd h9 (h_n h4) = 6 ∧ Q (some (.int 1)) (h_sQ h9 43 k.toNatClampNeg (some (h_n h4))))))) ∧ (¬ (0 ≤ n) → Q (some (.int (-14))) h4))) ∧ (¬ (n ≤ 60) → Q (some (.int (-1))) h4))))))))) :
    w_c 2 83 [.ref 16, .int k, .int lane, .int n] h Q := by
  refine w_ci (M := (8, 4, mc_X8_sheet)) rfl (Nat.le_of_ble_eq_true rfl) ?_
  show w_p _ _ 0 [(0, .ref 16), (1, .int k), (2, .int lane), (3, .int n)] [] h Q
  refine w_b 1 1 [(0, .ref 16), (1, .int k), (2, .int lane), (3, .int n)] [.int k] rfl ?_
  refine w_cs (As := [.int k]) (rest := []) rfl rfl rfl (Nat.le_of_ble_eq_true rfl) (dc := 0) (by omega) (F.mono (fun r h1 F => ?_))
  obtain ⟨z2, rfl, sh1, F⟩ := F
  show w_p _ _ 4 [(0, .ref 16), (1, .int k), (2, .int lane), (3, .int n)] [.int z2] h1 _
  refine w_if_eq (tgt := 20) (x := z2) rfl (by decide) ⟨fun c3 => ?_, fun c3 => ?_⟩
  · have F := F.1 c3
    refine w_b 1 21 [(0, .ref 16), (1, .int k), (2, .int lane), (3, .int n)] [.int (-1)] rfl ?_
    exact w_ir rfl F
  · have F := F.2 c3
    refine w_b 1 8 [(0, .ref 16), (1, .int k), (2, .int lane), (3, .int n)] [.int lane] rfl ?_
    refine w_cs (As := [.int lane]) (rest := []) rfl rfl rfl (Nat.le_of_ble_eq_true rfl) (dc := 0) (by omega) (F.mono (fun r h4 F => ?_))
    obtain ⟨z5, rfl, sh4, F⟩ := F
    show w_p _ _ 11 [(0, .ref 16), (1, .int k), (2, .int lane), (3, .int n)] [.int z5] h4 _
    refine w_if_eq (tgt := 20) (x := z5) rfl (by decide) ⟨fun c6 => ?_, fun c6 => ?_⟩
    · have F := F.1 c6
      refine w_b 1 21 [(0, .ref 16), (1, .int k), (2, .int lane), (3, .int n)] [.int (-1)] rfl ?_
      exact w_ir rfl F
    · have F := F.2 c6
      refine w_b 2 17 [(0, .ref 16), (1, .int k), (2, .int lane), (3, .int n)] [.int 60, .int n] rfl ?_
      refine w_ic_le (tgt := 22) (x := n) (y := 60) rfl (by decide) ⟨fun c7 => ?_, fun c7 => ?_⟩
      · have F := F.1 c7
        refine w_b 1 23 [(0, .ref 16), (1, .int k), (2, .int lane), (3, .int n)] [.int n] rfl ?_
        refine w_if_ge (tgt := 29) (x := n) rfl (by decide) ⟨fun c8 => ?_, fun c8 => ?_⟩
        · have F := F.1 c8
          refine w_b 1 30 [(0, .ref 16), (1, .int k), (2, .int lane), (3, .int n)] [.ref 16] rfl ?_
          refine w_getS (b := 43) rfl rfl rfl (kd_16 sh4) (or_519_16 sh4) ?_
          refine w_b 1 34 [(0, .ref 16), (1, .int k), (2, .int lane), (3, .int n)] [.int k, .ref 43] rfl ?_
          refine w_new rfl ?_
          show w_p _ _ 37 [(0, .ref 16), (1, .int k), (2, .int lane), (3, .int n)] [.ref (h_n h4), .int k, .ref 43] (h_nO h4 5 2) _
          refine w_b 3 40 [(0, .ref 16), (1, .int k), (2, .int lane), (3, .int n)] [.int n, .int lane, .ref (h_n h4), .ref (h_n h4), .int k, .ref 43] rfl ?_
          refine w_cn (As := [.int lane, .int n]) (b := h_n h4) (rest := [.ref (h_n h4), .int k, .ref 43]) rfl rfl rfl (Nat.le_of_ble_eq_true rfl) (dc := 1) (by omega) (F.mono (fun r h9 F => ?_))
          obtain ⟨rfl, sh9, F⟩ := F
          show w_p _ _ 43 [(0, .ref 16), (1, .int k), (2, .int lane), (3, .int n)] [.ref (h_n h4), .int k, .ref 43] h9 _
          obtain ⟨g10, F⟩ := F
          obtain ⟨g11, F⟩ := F
          refine w_aast (y := some (h_n h4)) rfl (by decide) (Eq.mpr (congrArg (vp_in k) (al_43 sh9)) g10) (Or.inr ⟨(kd_43 sh9), (fun w z => by cases z; exact g11)⟩) ?_
          refine w_b 1 45 [(0, .ref 16), (1, .int k), (2, .int lane), (3, .int n)] [.int 1] rfl ?_
          exact w_ir rfl F
        · have F := F.2 c8
          refine w_b 1 28 [(0, .ref 16), (1, .int k), (2, .int lane), (3, .int n)] [.int (-14)] rfl ?_
          exact w_ir rfl F
      · have F := F.2 c7
        refine w_b 1 21 [(0, .ref 16), (1, .int k), (2, .int lane), (3, .int n)] [.int (-1)] rfl ?_
        exact w_ir rfl F

set_option maxRecDepth 20000 in
theorem t_X8_lay_0 {h : mm_H} {Q : Option Value → mm_H → Prop} (sh : s_h h) (k : Int32) (i : Int32) (v : Int32) 
    (F : w_c 0 99 [.int k] h (fun r h1 => ∃ z2 : Int32, r = some (.int z2) ∧ s_h h1 ∧ ((¬ z2 = 0 → (vp_in k 4 ∧ (((h_ar h1 43 k.toNatClampNeg) = none → Q (some (.int (-11))) h1) ∧ (∀ a6 : Nat, (h_ar h1 43 k.toNatClampNeg) = some a6 → (h_kd h1 a6 = 6 ∧ w_c 0 44 [.ref a6, .int i] h1 (fun r h8 => ∃ z9 : Int32, r = some (.int z9) ∧ s_h h8 ∧ ((¬ z9 = 0 → (h_kd h8 a6 = 6 ∧ w_c 1 46 [.ref a6, .int i, .int v] h8 (fun r h12 => r = none ∧ s_h h12 ∧ Q (some (.int 1)) h12))) ∧ (z9 = 0 → Q (some (.int (-12))) h8)))))))) ∧ (z2 = 0 → Q (some (.int (-1))) h1)))) :
    w_c 2 84 [.ref 16, .int k, .int i, .int v] h Q := by
  refine w_ci (M := (8, 5, mc_X8_lay)) rfl (Nat.le_of_ble_eq_true rfl) ?_
  show w_p _ _ 0 [(0, .ref 16), (1, .int k), (2, .int i), (3, .int v)] [] h Q
  refine w_b 1 1 [(0, .ref 16), (1, .int k), (2, .int i), (3, .int v)] [.int k] rfl ?_
  refine w_cs (As := [.int k]) (rest := []) rfl rfl rfl (Nat.le_of_ble_eq_true rfl) (dc := 0) (by omega) (F.mono (fun r h1 F => ?_))
  obtain ⟨z2, rfl, sh1, F⟩ := F
  show w_p _ _ 4 [(0, .ref 16), (1, .int k), (2, .int i), (3, .int v)] [.int z2] h1 _
  refine w_if_ne (tgt := 9) (x := z2) rfl (by decide) ⟨fun c3 => ?_, fun c3 => ?_⟩
  · have F := F.1 c3
    refine w_b 1 10 [(0, .ref 16), (1, .int k), (2, .int i), (3, .int v)] [.ref 16] rfl ?_
    refine w_getS (b := 43) rfl rfl rfl (kd_16 sh1) (or_519_16 sh1) ?_
    refine w_b 1 14 [(0, .ref 16), (1, .int k), (2, .int i), (3, .int v)] [.int k, .ref 43] rfl ?_
    obtain ⟨g4, F⟩ := F
    refine w_aald rfl (by rw [kd_43 sh1]; decide) (Eq.mpr (congrArg (vp_in k) (al_43 sh1)) g4) ?_
    refine w_astM (r := h_ar h1 43 k.toNatClampNeg) (lo2 := [(4, va_rf (h_ar h1 43 k.toNatClampNeg)), (0, .ref 16), (1, .int k), (2, .int i), (3, .int v)]) rfl (by decide) rfl ?_
    refine w_aldM (r := h_ar h1 43 k.toNatClampNeg) rfl rfl ?_
    refine w_ifnonnull (tgt := 25) (r := h_ar h1 43 k.toNatClampNeg) rfl (by decide) ⟨fun c5 => ?_, fun a6 c5 => ?_⟩
    · have F := F.1 c5
      refine w_b 1 24 [(4, va_rf (h_ar h1 43 k.toNatClampNeg)), (0, .ref 16), (1, .int k), (2, .int i), (3, .int v)] [.int (-11)] rfl ?_
      exact w_ir rfl F
    · have F := F.2 a6 c5
      simp only [c5] ; show w_p _ _ 25 [(4, .ref a6), (0, .ref 16), (1, .int k), (2, .int i), (3, .int v)] [] h1 _
      refine w_b 2 28 [(4, .ref a6), (0, .ref 16), (1, .int k), (2, .int i), (3, .int v)] [.int i, .ref a6] rfl ?_
      obtain ⟨g7, F⟩ := F
      refine w_cv (As := [.int i]) (b := a6) (rest := []) rfl rfl rfl (Nat.le_of_ble_eq_true rfl) g7 (fun z => absurd z (by decide)) (dc := 0) (by omega) (F.mono (fun r h8 F => ?_))
      obtain ⟨z9, rfl, sh8, F⟩ := F
      show w_p _ _ 31 [(4, .ref a6), (0, .ref 16), (1, .int k), (2, .int i), (3, .int v)] [.int z9] h8 _
      refine w_if_ne (tgt := 37) (x := z9) rfl (by decide) ⟨fun c10 => ?_, fun c10 => ?_⟩
      · have F := F.1 c10
        refine w_b 3 41 [(4, .ref a6), (0, .ref 16), (1, .int k), (2, .int i), (3, .int v)] [.int v, .int i, .ref a6] rfl ?_
        obtain ⟨g11, F⟩ := F
        refine w_cv (As := [.int i, .int v]) (b := a6) (rest := []) rfl rfl rfl (Nat.le_of_ble_eq_true rfl) g11 (fun z => absurd z (by decide)) (dc := 1) (by omega) (F.mono (fun r h12 F => ?_))
        obtain ⟨rfl, sh12, F⟩ := F
        show w_p _ _ 44 [(4, .ref a6), (0, .ref 16), (1, .int k), (2, .int i), (3, .int v)] [] h12 _
        refine w_b 1 45 [(4, .ref a6), (0, .ref 16), (1, .int k), (2, .int i), (3, .int v)] [.int 1] rfl ?_
        exact w_ir rfl F
      · have F := F.2 (Decidable.not_not.mp c10)
        refine w_b 1 36 [(4, .ref a6), (0, .ref 16), (1, .int k), (2, .int i), (3, .int v)] [.int (-12)] rfl ?_
        exact w_ir rfl F
  · have F := F.2 (Decidable.not_not.mp c3)
    refine w_b 1 8 [(0, .ref 16), (1, .int k), (2, .int i), (3, .int v)] [.int (-1)] rfl ?_
    exact w_ir rfl F

set_option maxRecDepth 20000 in
theorem t_X9_isSheet_0 {h : mm_H} {Q : Option Value → mm_H → Prop} (sh : s_h h) (k : Int32) (lane : Int32) 
    (F : (((f_in k.toInt64 (Int64.ofNat 0) (Int64.ofNat 3)) = 0 → Q (some (.int 0)) h) ∧ (¬ ((f_in k.toInt64 (Int64.ofNat 0) (Int64.ofNat 3)) = 0) → (((f_in lane.toInt64 (Int64.ofNat 0) (Int64.ofNat 1)) = 0 → Q (some (.int 0)) h) ∧ (¬ ((f_in lane.toInt64 (Int64.ofNat 0) (Int64.ofNat 1)) = 0) → Q (some (.int 1)) h))))) :
    w_c 1 147 [.int k, .int lane] h Q := by
  refine w_ci (M := (9, 2, mc_X9_isSheet)) rfl (Nat.le_of_ble_eq_true rfl) ?_
  show w_p _ _ 0 [(0, .int k), (1, .int lane)] [] h Q
  refine w_b 4 6 [(0, .int k), (1, .int lane)] [.long (Int64.ofNat 3), .long (Int64.ofNat 0), .long k.toInt64] rfl ?_
  refine w_cs (As := [.long k.toInt64, .long (Int64.ofNat 0), .long (Int64.ofNat 3)]) (rest := []) rfl rfl rfl (Nat.le_of_ble_eq_true rfl) (dc := 0) (by omega) (sp_in  ?_)
  show w_p _ _ 9 [(0, .int k), (1, .int lane)] [.int (f_in k.toInt64 (Int64.ofNat 0) (Int64.ofNat 3))] h _
  refine w_if_eq (tgt := 26) (x := f_in k.toInt64 (Int64.ofNat 0) (Int64.ofNat 3)) rfl (by decide) ⟨fun c1 => ?_, fun c1 => ?_⟩
  · have F := F.1 c1
    refine w_b 1 27 [(0, .int k), (1, .int lane)] [.int 0] rfl ?_
    exact w_br rfl (by decide) F
  · have F := F.2 c1
    refine w_b 4 16 [(0, .int k), (1, .int lane)] [.long (Int64.ofNat 1), .long (Int64.ofNat 0), .long lane.toInt64] rfl ?_
    refine w_cs (As := [.long lane.toInt64, .long (Int64.ofNat 0), .long (Int64.ofNat 1)]) (rest := []) rfl rfl rfl (Nat.le_of_ble_eq_true rfl) (dc := 0) (by omega) (sp_in  ?_)
    show w_p _ _ 19 [(0, .int k), (1, .int lane)] [.int (f_in lane.toInt64 (Int64.ofNat 0) (Int64.ofNat 1))] h _
    refine w_if_eq (tgt := 26) (x := f_in lane.toInt64 (Int64.ofNat 0) (Int64.ofNat 1)) rfl (by decide) ⟨fun c2 => ?_, fun c2 => ?_⟩
    · have F := F.1 c2
      refine w_b 1 27 [(0, .int k), (1, .int lane)] [.int 0] rfl ?_
      exact w_br rfl (by decide) F
    · have F := F.2 c2
      refine w_b 2 27 [(0, .int k), (1, .int lane)] [.int 1] rfl ?_
      exact w_br rfl (by decide) F

set_option maxRecDepth 20000 in
theorem t_X9_sheet_0 {h : mm_H} {Q : Option Value → mm_H → Prop} (sh : s_h h) (k : Int32) (lane : Int32) (n : Int32) {K40 : Int32 → Int32 → Int32 → Int32 → mm_H → Prop} (k40 : ∀ (k : Int32) (lane : Int32) (n : Int32) (x4 : Int32) (h : mm_H), K40 k lane n x4 h → w_p 2 (9, 5, mc_X9_sheet) 40 [(0, .ref 44), (1, .int k), (2, .int lane), (3, .int n), (4, .int x4)] [] h Q) 
    (F : w_c 1 147 [.int k, .int lane] h (fun r h1 => ∃ z2 : Int32, r = some (.int z2) ∧ s_h h1 ∧ ((z2 = 0 → Q (some (.int (-1))) h1) ∧ (¬ (z2 = 0) → ((n ≤ 60 → ((0 ≤ n → (vp_in k 4 ∧ (vp_in k 4 ∧ K40 k lane n 0 (h_sA (h_sA h1 67 k.toNatClampNeg lane) 68 k.toNatClampNeg n)))) ∧ (¬ (0 ≤ n) → Q (some (.int (-14))) h1))) ∧ (¬ (n ≤ 60) → Q (some (.int (-1))) h1)))))) :
    w_c 2 148 [.ref 44, .int k, .int lane, .int n] h Q := by
  refine w_ci (M := (9, 5, mc_X9_sheet)) rfl (Nat.le_of_ble_eq_true rfl) ?_
  show w_p _ _ 0 [(0, .ref 44), (1, .int k), (2, .int lane), (3, .int n)] [] h Q
  refine w_b 2 2 [(0, .ref 44), (1, .int k), (2, .int lane), (3, .int n)] [.int lane, .int k] rfl ?_
  refine w_cs (As := [.int k, .int lane]) (rest := []) rfl rfl rfl (Nat.le_of_ble_eq_true rfl) (dc := 1) (by omega) (F.mono (fun r h1 F => ?_))
  obtain ⟨z2, rfl, sh1, F⟩ := F
  show w_p _ _ 5 [(0, .ref 44), (1, .int k), (2, .int lane), (3, .int n)] [.int z2] h1 _
  refine w_if_eq (tgt := 14) (x := z2) rfl (by decide) ⟨fun c3 => ?_, fun c3 => ?_⟩
  · have F := F.1 c3
    refine w_b 1 15 [(0, .ref 44), (1, .int k), (2, .int lane), (3, .int n)] [.int (-1)] rfl ?_
    exact w_ir rfl F
  · have F := F.2 c3
    refine w_b 2 11 [(0, .ref 44), (1, .int k), (2, .int lane), (3, .int n)] [.int 60, .int n] rfl ?_
    refine w_ic_le (tgt := 16) (x := n) (y := 60) rfl (by decide) ⟨fun c4 => ?_, fun c4 => ?_⟩
    · have F := F.1 c4
      refine w_b 1 17 [(0, .ref 44), (1, .int k), (2, .int lane), (3, .int n)] [.int n] rfl ?_
      refine w_if_ge (tgt := 23) (x := n) rfl (by decide) ⟨fun c5 => ?_, fun c5 => ?_⟩
      · have F := F.1 c5
        refine w_b 1 24 [(0, .ref 44), (1, .int k), (2, .int lane), (3, .int n)] [.ref 44] rfl ?_
        refine w_getS (b := 67) rfl rfl rfl (kd_44 sh1) (or_614_44 sh1) ?_
        refine w_b 2 29 [(0, .ref 44), (1, .int k), (2, .int lane), (3, .int n)] [.int lane, .int k, .ref 67] rfl ?_
        obtain ⟨g6, F⟩ := F
        refine w_iast rfl (kd_67 sh1) (by decide) (Eq.mpr (congrArg (vp_in k) (al_67 sh1)) g6) ?_
        refine w_b 1 31 [(0, .ref 44), (1, .int k), (2, .int lane), (3, .int n)] [.ref 44] rfl ?_
        refine w_getS (b := 68) rfl rfl rfl (kd_44 sh1) (or_615_44 sh1) ?_
        refine w_b 2 36 [(0, .ref 44), (1, .int k), (2, .int lane), (3, .int n)] [.int n, .int k, .ref 68] rfl ?_
        obtain ⟨g7, F⟩ := F
        refine w_iast rfl (kd_68 sh1) (by decide) (Eq.mpr (congrArg (vp_in k) (al_68 sh1)) g7) ?_
        refine w_b 2 40 [(4, .int 0), (0, .ref 44), (1, .int k), (2, .int lane), (3, .int n)] [] rfl ?_
        refine w_lo [0, 1, 2, 3, 4] [(0, .ref 44), (1, .int k), (2, .int lane), (3, .int n), (4, .int 0)] rfl rfl ?_
        exact k40 _ _ _ _ _ F
      · have F := F.2 c5
        refine w_b 1 22 [(0, .ref 44), (1, .int k), (2, .int lane), (3, .int n)] [.int (-14)] rfl ?_
        exact w_ir rfl F
    · have F := F.2 c4
      refine w_b 1 15 [(0, .ref 44), (1, .int k), (2, .int lane), (3, .int n)] [.int (-1)] rfl ?_
      exact w_ir rfl F

set_option maxRecDepth 20000 in
theorem t_X9_sheet_40 {h : mm_H} {Q : Option Value → mm_H → Prop} (sh : s_h h) (k : Int32) (lane : Int32) (n : Int32) (x4 : Int32) {K40 : Int32 → Int32 → Int32 → Int32 → mm_H → Prop} (k40 : ∀ (k : Int32) (lane : Int32) (n : Int32) (x4 : Int32) (h : mm_H), K40 k lane n x4 h → w_p 2 (9, 5, mc_X9_sheet) 40 [(0, .ref 44), (1, .int k), (2, .int lane), (3, .int n), (4, .int x4)] [] h Q) 
    (F : ((60 ≤ x4 → Q (some (.int 1)) h) ∧ (¬ (60 ≤ x4) → (vp_in (((60 : Int32) * k) + x4) 240 ∧ K40 k lane n (x4 + 1) (h_sA h 69 ((((60 : Int32) * k) + x4).toNatClampNeg) 0))))) :
    w_p 2 (9, 5, mc_X9_sheet) 40 [(0, .ref 44), (1, .int k), (2, .int lane), (3, .int n), (4, .int x4)] [] h Q := by
  refine w_b 2 44 [(0, .ref 44), (1, .int k), (2, .int lane), (3, .int n), (4, .int x4)] [.int 60, .int x4] rfl ?_
  refine w_ic_ge (tgt := 66) (x := x4) (y := 60) rfl (by decide) ⟨fun c1 => ?_, fun c1 => ?_⟩
  · have F := F.1 c1
    refine w_b 1 67 [(0, .ref 44), (1, .int k), (2, .int lane), (3, .int n), (4, .int x4)] [.int 1] rfl ?_
    exact w_ir rfl F
  · have F := F.2 c1
    refine w_b 1 48 [(0, .ref 44), (1, .int k), (2, .int lane), (3, .int n), (4, .int x4)] [.ref 44] rfl ?_
    refine w_getS (b := 69) rfl rfl rfl (kd_44 sh) (or_616_44 sh) ?_
    refine w_b 6 59 [(0, .ref 44), (1, .int k), (2, .int lane), (3, .int n), (4, .int x4)] [.int 0, .int (((60 : Int32) * k) + x4), .ref 69] rfl ?_
    obtain ⟨g2, F⟩ := F
    refine w_iast rfl (kd_69 sh) (by decide) (Eq.mpr (congrArg (vp_in (((60 : Int32) * k) + x4)) (al_69 sh)) g2) ?_
    refine w_b 2 40 [(4, .int (x4 + 1)), (0, .ref 44), (1, .int k), (2, .int lane), (3, .int n)] [] rfl ?_
    refine w_lo [0, 1, 2, 3, 4] [(0, .ref 44), (1, .int k), (2, .int lane), (3, .int n), (4, .int (x4 + 1))] rfl rfl ?_
    exact k40 _ _ _ _ _ F

set_option maxRecDepth 20000 in
theorem t_X9_lay_0 {h : mm_H} {Q : Option Value → mm_H → Prop} (sh : s_h h) (k : Int32) (i : Int32) (v : Int32) 
    (F : w_c 1 147 [.int k, .int 0] h (fun r h1 => ∃ z2 : Int32, r = some (.int z2) ∧ s_h h1 ∧ ((¬ z2 = 0 → (vp_in k 4 ∧ ((¬ (h_ai h1 67 k.toNatClampNeg) = (-4) → (vp_in k 4 ∧ ((¬ (f_in i.toInt64 (Int64.ofNat 0) (((h_ai h1 68 k.toNatClampNeg) - (1 : Int32)).toInt64)) = 0 → (vp_in k 4 ∧ ((¬ (h_ai h1 67 k.toNatClampNeg) = 0 → (vp_in (((60 : Int32) * k) + i) 240 ∧ Q (some (.int 1)) (h_sA h1 69 ((((60 : Int32) * k) + i).toNatClampNeg) v))) ∧ ((h_ai h1 67 k.toNatClampNeg) = 0 → (vp_in (((60 : Int32) * k) + i) 240 ∧ Q (some (.int 1)) (h_sA h1 69 ((((60 : Int32) * k) + i).toNatClampNeg) v.toInt8.toInt32)))))) ∧ ((f_in i.toInt64 (Int64.ofNat 0) (((h_ai h1 68 k.toNatClampNeg) - (1 : Int32)).toInt64)) = 0 → Q (some (.int (-12))) h1)))) ∧ ((h_ai h1 67 k.toNatClampNeg) = (-4) → Q (some (.int (-11))) h1)))) ∧ (z2 = 0 → Q (some (.int (-1))) h1)))) :
    w_c 2 149 [.ref 44, .int k, .int i, .int v] h Q := by
  refine w_ci (M := (9, 4, mc_X9_lay)) rfl (Nat.le_of_ble_eq_true rfl) ?_
  show w_p _ _ 0 [(0, .ref 44), (1, .int k), (2, .int i), (3, .int v)] [] h Q
  refine w_b 2 2 [(0, .ref 44), (1, .int k), (2, .int i), (3, .int v)] [.int 0, .int k] rfl ?_
  refine w_cs (As := [.int k, .int 0]) (rest := []) rfl rfl rfl (Nat.le_of_ble_eq_true rfl) (dc := 1) (by omega) (F.mono (fun r h1 F => ?_))
  obtain ⟨z2, rfl, sh1, F⟩ := F
  show w_p _ _ 5 [(0, .ref 44), (1, .int k), (2, .int i), (3, .int v)] [.int z2] h1 _
  refine w_if_ne (tgt := 10) (x := z2) rfl (by decide) ⟨fun c3 => ?_, fun c3 => ?_⟩
  · have F := F.1 c3
    refine w_b 1 11 [(0, .ref 44), (1, .int k), (2, .int i), (3, .int v)] [.ref 44] rfl ?_
    refine w_getS (b := 67) rfl rfl rfl (kd_44 sh1) (or_614_44 sh1) ?_
    refine w_b 1 15 [(0, .ref 44), (1, .int k), (2, .int i), (3, .int v)] [.int k, .ref 67] rfl ?_
    obtain ⟨g4, F⟩ := F
    refine w_iald rfl (kd_67 sh1) (Eq.mpr (congrArg (vp_in k) (al_67 sh1)) g4) ?_
    refine w_b 1 18 [(0, .ref 44), (1, .int k), (2, .int i), (3, .int v)] [.int (-4), .int (h_ai h1 67 k.toNatClampNeg)] rfl ?_
    refine w_ic_ne (tgt := 24) (x := h_ai h1 67 k.toNatClampNeg) (y := (-4)) rfl (by decide) ⟨fun c5 => ?_, fun c5 => ?_⟩
    · have F := F.1 c5
      refine w_b 4 28 [(0, .ref 44), (1, .int k), (2, .int i), (3, .int v)] [.ref 44, .long (Int64.ofNat 0), .long i.toInt64] rfl ?_
      refine w_getS (b := 68) rfl rfl rfl (kd_44 sh1) (or_615_44 sh1) ?_
      refine w_b 1 32 [(0, .ref 44), (1, .int k), (2, .int i), (3, .int v)] [.int k, .ref 68, .long (Int64.ofNat 0), .long i.toInt64] rfl ?_
      obtain ⟨g6, F⟩ := F
      refine w_iald rfl (kd_68 sh1) (Eq.mpr (congrArg (vp_in k) (al_68 sh1)) g6) ?_
      refine w_b 3 36 [(0, .ref 44), (1, .int k), (2, .int i), (3, .int v)] [.long (((h_ai h1 68 k.toNatClampNeg) - (1 : Int32)).toInt64), .long (Int64.ofNat 0), .long i.toInt64] rfl ?_
      refine w_cs (As := [.long i.toInt64, .long (Int64.ofNat 0), .long (((h_ai h1 68 k.toNatClampNeg) - (1 : Int32)).toInt64)]) (rest := []) rfl rfl rfl (Nat.le_of_ble_eq_true rfl) (dc := 0) (by omega) (sp_in  ?_)
      show w_p _ _ 39 [(0, .ref 44), (1, .int k), (2, .int i), (3, .int v)] [.int (f_in i.toInt64 (Int64.ofNat 0) (((h_ai h1 68 k.toNatClampNeg) - (1 : Int32)).toInt64))] h1 _
      refine w_if_ne (tgt := 45) (x := f_in i.toInt64 (Int64.ofNat 0) (((h_ai h1 68 k.toNatClampNeg) - (1 : Int32)).toInt64)) rfl (by decide) ⟨fun c7 => ?_, fun c7 => ?_⟩
      · have F := F.1 c7
        refine w_b 1 46 [(0, .ref 44), (1, .int k), (2, .int i), (3, .int v)] [.ref 44] rfl ?_
        refine w_getS (b := 69) rfl rfl rfl (kd_44 sh1) (or_616_44 sh1) ?_
        refine w_b 6 56 [(0, .ref 44), (1, .int k), (2, .int i), (3, .int v)] [.ref 44, .int (((60 : Int32) * k) + i), .ref 69] rfl ?_
        refine w_getS (b := 67) rfl rfl rfl (kd_44 sh1) (or_614_44 sh1) ?_
        refine w_b 1 60 [(0, .ref 44), (1, .int k), (2, .int i), (3, .int v)] [.int k, .ref 67, .int (((60 : Int32) * k) + i), .ref 69] rfl ?_
        obtain ⟨g8, F⟩ := F
        refine w_iald rfl (kd_67 sh1) (Eq.mpr (congrArg (vp_in k) (al_67 sh1)) g8) ?_
        refine w_if_ne (tgt := 69) (x := h_ai h1 67 k.toNatClampNeg) rfl (by decide) ⟨fun c9 => ?_, fun c9 => ?_⟩
        · have F := F.1 c9
          refine w_b 1 70 [(0, .ref 44), (1, .int k), (2, .int i), (3, .int v)] [.int v, .int (((60 : Int32) * k) + i), .ref 69] rfl ?_
          obtain ⟨g10, F⟩ := F
          refine w_iast rfl (kd_69 sh1) (by decide) (Eq.mpr (congrArg (vp_in (((60 : Int32) * k) + i)) (al_69 sh1)) g10) ?_
          refine w_b 1 72 [(0, .ref 44), (1, .int k), (2, .int i), (3, .int v)] [.int 1] rfl ?_
          exact w_ir rfl F
        · have F := F.2 (Decidable.not_not.mp c9)
          refine w_b 3 70 [(0, .ref 44), (1, .int k), (2, .int i), (3, .int v)] [.int v.toInt8.toInt32, .int (((60 : Int32) * k) + i), .ref 69] rfl ?_
          obtain ⟨g11, F⟩ := F
          refine w_iast rfl (kd_69 sh1) (by decide) (Eq.mpr (congrArg (vp_in (((60 : Int32) * k) + i)) (al_69 sh1)) g11) ?_
          refine w_b 1 72 [(0, .ref 44), (1, .int k), (2, .int i), (3, .int v)] [.int 1] rfl ?_
          exact w_ir rfl F
      · have F := F.2 (Decidable.not_not.mp c7)
        refine w_b 1 44 [(0, .ref 44), (1, .int k), (2, .int i), (3, .int v)] [.int (-12)] rfl ?_
        exact w_ir rfl F
    · have F := F.2 (Decidable.not_not.mp c5)
      refine w_b 1 23 [(0, .ref 44), (1, .int k), (2, .int i), (3, .int v)] [.int (-11)] rfl ?_
      exact w_ir rfl F
  · have F := F.2 (Decidable.not_not.mp c3)
    refine w_b 1 9 [(0, .ref 44), (1, .int k), (2, .int i), (3, .int v)] [.int (-1)] rfl ?_
    exact w_ir rfl F

/-! SHEETS -/
theorem cRo.fac {h : mm_H} {own : Nat → Nat} {k l n : Nat} {c : Nat → Int32} {r a : Nat} (R : cRo h own k l n c r a) : h_kd h r = 6 ∧ h_kd h a = 20 ∧ h_or h 321 r = some a ∧ h_al h a = n ∧ 16 ≤ r ∧ 16 ≤ a := by
  obtain ⟨-, -, ⟨k4, k5, k6⟩, k7, k8, ⟨k9, k10, k11⟩, k12, k13⟩ := R
  exact ⟨k4, k9, k8, k12, by omega, by omega⟩
theorem c_rhas {h : mm_H} {Q : Option Value → mm_H → Prop} (sh : s_h h) {own : Nat → Nat} {k l n : Nat} {c : Nat → Int32} {r a : Nat} (R : cRo h own k l n c r a) (hn : n ≤ 60) (i : Int32) (k0 : ¬ isA n i → Q (some (.int 0)) h) (k1 : ∀ j, i = nI j → j < n → Q (some (.int 1)) h) : w_c 0 44 [.ref r, .int i] h Q := by
  obtain ⟨f1, f2, f3, f4, f5, f6⟩ := R.fac
  refine t_X5_has_0 sh r i f1 f2 f3 f4 f5 f6 ⟨fun c => k0 ?_, fun c => ?_⟩
  · rintro ⟨j, rfl, hj⟩
    exact absurd c (nI_pos (by omega))
  · obtain ⟨j, hj, rfl⟩ := nat_of c
    show (nI n ≤ nI j → _) ∧ (¬ nI n ≤ nI j → _)
    rw [i_le (by omega) hj]
    refine ⟨fun z => k0 ?_, fun z => k1 j rfl (by omega)⟩
    rintro ⟨i, e, hi⟩
    rw [nI_eqI hj (by omega)] at e
    omega
theorem c_rat {h : mm_H} {Q : Option Value → mm_H → Prop} (sh : s_h h) {own : Nat → Nat} {k l n : Nat} {c : Nat → Int32} {r a : Nat} (R : cRo h own k l n c r a) (hn : n ≤ 60) {j : Nat} (hj : j < n) (k0 : Q (some (.int (c j))) h) : w_c 1 45 [.ref r, .int (nI j)] h Q := by
  obtain ⟨f1, f2, f3, f4, f5, f6⟩ := R.fac
  refine t_X5_at_0 sh r _ f1 f2 f3 f4 f5 f6 ((c_rhas sh R hn _ (fun z => absurd ⟨j, rfl, hj⟩ z) (fun _ _ _ => ⟨_, rfl, sh, fun z => absurd z (by decide), fun _ => ⟨f1, a, f3, f2, ?_, ?_⟩⟩)).up (by decide))
  · rw [f4]; exact vp_in_nI hj (by omega)
  · rw [i_cl (by omega), R.2.2.2.2.2.2.2 j hj]; exact k0
def rV8 (l : Nat) (v : Int32) : Int32 := if l = 0 then v.toInt8.toInt32 else v
theorem c_rwr {h : mm_H} {Q : Option Value → mm_H → Prop} (sh : s_h h) {own : Nat → Nat} {k l n : Nat} {c : Nat → Int32} {r a : Nat} (R : cRo h own k l n c r a) (hl : l ≤ 1) (hn : n ≤ 60) {j : Nat} (hj : j < n) (v : Int32) (k0 : Q none (h_sA h a j (rV8 l v))) : w_c 1 46 [.ref r, .int (nI j), .int v] h Q := by
  obtain ⟨f1, f2, f3, f4, f5, f6⟩ := R.fac
  have vj : vp_in (nI j) (h_al h a) := by rw [f4]; exact vp_in_nI hj (by omega)
  unfold rV8 at k0
  refine t_X5_write_0 sh r _ _ f1 f2 f3 f4 f5 f6 ((c_rhas sh R hn _ (fun z => absurd ⟨j, rfl, hj⟩ z) (fun _ _ _ => ⟨_, rfl, sh, fun z => absurd z (by decide), fun _ => ⟨f1, f1, ?_⟩⟩)).up (by decide))
  rw [R.2.2.2.1, i_cl (by omega)]
  refine ⟨fun z => ⟨a, f3, f2, vj, f6, ?_⟩, fun z => ⟨a, f3, f2, vj, f6, ?_⟩⟩
  · rw [if_neg (fun y => z (by rw [y]; rfl))] at k0; exact k0
  · rw [if_pos ((nI_eqI (b := 0) (by omega) (by decide)).mp z)] at k0; exact k0
def isS (k : Int32) : Prop := ∃ j : Nat, k = nI j ∧ j < 4
def isL (lane : Int32) : Prop := ∃ j : Nat, lane = nI j ∧ j ≤ 1
theorem c_isS {h : mm_H} {Q : Option Value → mm_H → Prop} (k : Int32) (k0 : ¬ isS k → Q (some (.int 0)) h) (k1 : ∀ j, k = nI j → j < 4 → Q (some (.int 1)) h) (sh : s_h h) : w_c 0 99 [.int k] h Q := by
  refine t_X8_isSheet_0 sh k ⟨fun c => k0 ?_, fun c => ?_⟩
  · rintro ⟨j, rfl, hj⟩
    exact absurd c (nI_pos (by omega))
  · obtain ⟨j, hj, rfl⟩ := nat_of c
    refine ⟨fun z => k0 ?_, fun z => k1 j rfl ?_⟩
    · rintro ⟨i, e, hi⟩
      rw [nI_eqI hj (by omega)] at e
      have := (i_le (a := 4) (by decide) hj).mp z
      omega
    · have : ¬ 4 ≤ j := fun y => z ((i_le (a := 4) (by decide) hj).mpr y)
      omega
theorem c_isL {h : mm_H} {Q : Option Value → mm_H → Prop} (k : Int32) (k0 : ¬ isL k → Q (some (.int 0)) h) (k1 : ∀ j, k = nI j → j ≤ 1 → Q (some (.int 1)) h) (sh : s_h h) : w_c 0 100 [.int k] h Q := by
  refine t_X8_isLane_0 sh k ⟨fun c => k1 0 c (by decide), fun c => ⟨fun c2 => k0 ?_, fun c2 => k1 1 c2 (by decide)⟩⟩
  rintro ⟨j, e, hj⟩
  have : j = 0 ∨ j = 1 := by omega
  rcases this with rfl | rfl
  · exact c e
  · exact c2 e
theorem m_isS {h : mm_H} {Q : Option Value → mm_H → Prop} (k lane : Int32) (k0 : ¬ (isS k ∧ isL lane) → Q (some (.int 0)) h) (k1 : ∀ j l, k = nI j → j < 4 → lane = nI l → l ≤ 1 → Q (some (.int 1)) h) (sh : s_h h) : w_c 1 147 [.int k, .int lane] h Q := by
  have a1 : ∀ {x : Int32} {b : Nat}, b < 1000 → (¬ f_in x.toInt64 (Int64.ofNat 0) (Int64.ofNat b) = 0 ↔ ∃ j : Nat, x = nI j ∧ j ≤ b) := by
    intro x b hb
    rw [f_in_nz (by decide) (by omega)]
    refine ⟨fun c => ?_, ?_⟩
    · obtain ⟨j, hj, rfl⟩ := nat_of (le0.mp c.1)
      exact ⟨j, rfl, (i_le hj (by omega)).mp c.2⟩
    · rintro ⟨j, rfl, hj⟩
      exact ⟨(i_le (by decide) (by omega)).mpr (Nat.zero_le _), (i_le (by omega) (by omega)).mpr hj⟩
  refine t_X9_isSheet_0 sh k lane ⟨fun c => k0 (fun y => ?_), fun c => ⟨fun c2 => k0 (fun y => ?_), fun c2 => ?_⟩⟩
  · obtain ⟨⟨j, e, hj⟩, -⟩ := y
    exact ((a1 (x := k) (b := 3) (by decide)).mpr ⟨j, e, by omega⟩) c
  · obtain ⟨-, l, e, hl⟩ := y
    exact ((a1 (x := lane) (b := 1) (by decide)).mpr ⟨l, e, hl⟩) c2
  · obtain ⟨j, e, hj⟩ := (a1 (x := k) (b := 3) (by decide)).mp c
    obtain ⟨l, e2, hl⟩ := (a1 (x := lane) (b := 1) (by decide)).mp c2
    exact k1 j l e (by omega) e2 hl
def zSk (k lane n : Int32) : Prop := (isS k ∧ isL lane) ∧ n ≤ 60
def h_sht (H : zH) (j l m : Nat) : zH := va_up H j (some (l, m, fun _ => 0))
def o_sht (h : mm_H) (j : Nat) (own : Nat → Nat) : Nat → Nat := fun a => if h_n h ≤ a then 12 + j else own a
theorem z_sht {cap : Nat → Nat} {W j l m : Nat} {F : zF} {A O : zV} {N : zN} {H : zH} (Z : zP W cap F A O N H) (hl : l ≤ 1) (hm : m ≤ 60) (c : Nat → Int32) : zP W cap F A O N (va_up H j (some (l, m, c))) := by
  obtain ⟨z1, z2, z3, z4, z5, z6, z7, z8⟩ := Z
  refine ⟨z1, z2, z3, z4, z5, z6, z7, fun k hk l' n' c' e => ?_⟩
  by_cases z : k = j
  · rw [z, va_up_self] at e
    cases e
    exact ⟨hl, hm⟩
  · rw [va_up_ne _ _ z] at e
    exact z8 k hk l' n' c' e
set_option maxHeartbeats 1000000 in
theorem c_sheet {h : mm_H} {Q : Option Value → mm_H → Prop} {own cap : Nat → Nat} {T : zT} {X : zX} {dy W : Nat} {ft : Int32} {F : zF} {A O : zV} {N : zN} {C : zC} {H : zH} (sh : s_h h) (K : CS h own cap T X dy ft F A O N C H) (Z : zP W cap F A O N H) (k lane n : Int32) (k0 : ¬ zSk k lane n → Q (some (.int (-1))) h) (k1 : zSk k lane n → n < 0 → Q (some (.int (-14))) h) (k2 : ∀ j l m, k = nI j → j < 4 → lane = nI l → l ≤ 1 → n = nI m → m ≤ 60 → ∀ h', CS h' (o_sht h j own) cap T X dy ft F A O N C (h_sht H j l m) → fC h h' → h_s h' ≤ h_s h + 62 → h_n h' ≤ h_n h + 2 → Q (some (.int 1)) h') : w_c 2 83 [.ref 16, .int k, .int lane, .int n] h Q := by
  have z1 := Z.1
  have hn0 := n_70 sh
  refine t_X8_sheet_0 sh _ _ _ ((c_isS k (fun c => ⟨_, rfl, sh, fun _ => k0 (fun y => c y.1.1), fun z => absurd rfl z⟩) (fun j ej hj => ⟨_, rfl, sh, fun z => absurd z (by decide), fun _ => (c_isL lane (fun c => ⟨_, rfl, sh, fun _ => k0 (fun y => c y.1.2), fun z => absurd rfl z⟩) (fun l el hl => ⟨_, rfl, sh, fun z => absurd z (by decide), fun _ => ⟨fun c => ⟨fun c2 => ?_, fun c2 => k1 ⟨⟨⟨j, ej, hj⟩, ⟨l, el, hl⟩⟩, c⟩ (fa_of_nle c2)⟩, fun c => k0 (fun y => c y.2)⟩⟩) sh).up (by decide)⟩) sh).up (by decide))
  obtain ⟨m, hm, rfl⟩ := nat_of (le0.mp c2)
  have hm60 : m ≤ 60 := (i_le (b := 60) hm (by decide)).mp c
  subst ej
  subst el
  have em : (if 0 < nI m then nI m else 0) = nI m := by
    by_cases z : 0 < m
    · exact if_pos ((i_lt (a := 0) (by decide) (by omega)).mpr z)
    · rw [show m = 0 by omega]; rfl
  have e1 : ex h (h_nO h 5 2) (fun _ => False) := (ex.rf h (fun _ => False)).nO 5 2
  have sh1 : s_h (h_nO h 5 2) := e1.sh sh (fun _ _ z => z)
  refine t_X5_init_0 sh1 (h_n h) _ _ ?_
  rw [em, i_cl (by omega)]
  have E : ex h (h_sR (h_nA (h_sI (h_nO h 5 2) 320 (h_n h) (nI l)) 20 m) 321 (h_n h) (some (h_n h + 1))) (fun _ => False) := ((e1.sI _ (Or.inr (Nat.le_refl _))).nA 20 m).sR _ (Or.inr (Nat.le_refl _))
  have kd : h_kd (h_sR (h_nA (h_sI (h_nO h 5 2) 320 (h_n h) (nI l)) 20 m) 321 (h_n h) (some (h_n h + 1))) = va_up (va_up (h_kd h) (h_n h) 6) (h_n h + 1) 20 := rfl
  have k6 : h_kd (h_sR (h_nA (h_sI (h_nO h 5 2) 320 (h_n h) (nI l)) 20 m) 321 (h_n h) (some (h_n h + 1))) (h_n h) = 6 := by rw [kd, va_up_ne _ _ (by omega), va_up_self]
  have k20 : h_kd (h_sR (h_nA (h_sI (h_nO h 5 2) 320 (h_n h) (nI l)) 20 m) 321 (h_n h) (some (h_n h + 1))) (h_n h + 1) = 20 := by rw [kd, va_up_self]
  have oi : h_oi (h_sR (h_nA (h_sI (h_nO h 5 2) 320 (h_n h) (nI l)) 20 m) 321 (h_n h) (some (h_n h + 1))) 320 (h_n h) = nI l := oi_self (h_nO h 5 2) 320 (h_n h) (nI l)
  have orr : h_or (h_sR (h_nA (h_sI (h_nO h 5 2) 320 (h_n h) (nI l)) 20 m) 321 (h_n h) (some (h_n h + 1))) 321 (h_n h) = some (h_n h + 1) := or_self _ _ _ _
  have al : h_al (h_sR (h_nA (h_sI (h_nO h 5 2) 320 (h_n h) (nI l)) 20 m) 321 (h_n h) (some (h_n h + 1))) (h_n h + 1) = m := by
    show va_up (h_al h) (h_n h + 1) m (h_n h + 1) = m
    rw [va_up_self]
  have ai : h_ai (h_sR (h_nA (h_sI (h_nO h 5 2) 320 (h_n h) (nI l)) 20 m) 321 (h_n h) (some (h_n h + 1))) (h_n h + 1) = fun _ => 0 := by
    show va_up (h_ai h) (h_n h + 1) (fun _ => 0) (h_n h + 1) = _
    rw [va_up_self]
  have hnn : h_n (h_sR (h_nA (h_sI (h_nO h 5 2) 320 (h_n h) (nI l)) 20 m) 321 (h_n h) (some (h_n h + 1))) = h_n h + 2 := rfl
  have hss : h_s (h_sR (h_nA (h_sI (h_nO h 5 2) 320 (h_n h) (nI l)) 20 m) 321 (h_n h) (some (h_n h + 1))) = h_s h + 2 + m := rfl
  have kk1 : h_kd (h_nO h 5 2) (h_n h) = 6 := va_up_self _ _ _
  have kk2 : h_kd (h_nA (h_sI (h_nO h 5 2) 320 (h_n h) (nI l)) 20 m) (h_n h) = 6 := k6
  refine ⟨kk1, by omega, nI_pos (by omega), by omega, kk2, by omega, ?_⟩
  have shR := E.sh sh (fun _ _ z => z)
  show _ ∧ s_h (h_sR (h_nA (h_sI (h_nO h 5 2) 320 (h_n h) (nI l)) 20 m) 321 (h_n h) (some (h_n h + 1))) ∧ _ ∧ h_kd (h_sR (h_nA (h_sI (h_nO h 5 2) 320 (h_n h) (nI l)) 20 m) 321 (h_n h) (some (h_n h + 1))) (h_n h) = 6 ∧ Q (some (.int 1)) (h_sQ (h_sR (h_nA (h_sI (h_nO h 5 2) 320 (h_n h) (nI l)) 20 m) 321 (h_n h) (some (h_n h + 1))) 43 (nI j).toNatClampNeg (some (h_n h)))
  generalize (h_sR (h_nA (h_sI (h_nO h 5 2) 320 (h_n h) (nI l)) 20 m) 321 (h_n h) (some (h_n h + 1))) = hR at E k6 k20 oi orr al ai hnn hss shR ⊢
  refine ⟨rfl, shR, vp_in_nI hj (by decide), k6, ?_⟩
  rw [i_cl (by omega)]
  have fR : fx h hR [] [] := E.fx sh (fun _ _ z => z) [] []
  have f' : fx h (h_sQ hR 43 j (some (h_n h))) [] [43] := (fR.wk (by decide) (by decide)).sQ _ _ (Or.inl (by decide))
  have E' : ex h (h_sQ hR 43 j (some (h_n h))) (fun a => a = 43) := (E.mono (fun _ _ z => z.elim)).sQ _ _ (Or.inl rfl)
  have n43 : ∀ a, 70 ≤ a → ¬ (fun a => a = 43) a := fun a ha z => by have z : a = 43 := z; omega
  have own1 : ∀ a, h_n h ≤ a → o_sht h j own a = 12 + j := fun a ha => if_pos ha
  have own2 : ∀ a, a < h_n h → o_sht h j own a = own a := fun a ha => if_neg (by omega)
  obtain ⟨c1, c2, c3, c4, c5, c6, c7, c8, c9, c10⟩ := id K
  have ar30 := f'.ar 30 (by decide) (by decide)
  have ar43 : h_ar (h_sQ hR 43 j (some (h_n h))) 43 = va_up (h_ar h 43) j (some (h_n h)) := by rw [ar_self, fR.ar 43 (by decide) (by decide)]
  refine k2 j l m rfl hj rfl hl rfl hm60 _ ⟨c1.fx f' (by decide) (by decide), c2.fx f' (by decide) (by decide) (by decide), c3.fx f' (by decide), c4.fx f' (by decide), ?_, c6.fx f' (by decide) (by decide) (by decide) (by decide) (by decide), c7.fx f' (by decide) (by decide) (by decide) (by decide) (by decide), ?_, c9.fx f' (by decide) (by decide) (by decide), ?_⟩ (f'.wk (by decide) (by decide)) (by show h_s hR ≤ _; omega) (by show h_n hR ≤ _; omega)
  · obtain ⟨p1, p2, p3⟩ := c5
    refine ⟨p1, (f'.oi _ _ (by decide) (by decide)).trans p2, fun g hg => ?_⟩
    rw [ar30]
    obtain ⟨q1, q2⟩ := p3 g hg
    refine ⟨q1, fun q eq => ?_⟩
    obtain ⟨w1, w2, w3, w4⟩ := q2 q eq
    exact ⟨w1, w2, Nat.lt_of_lt_of_le w3 E'.1, ((E'.2 q w3).1.1).trans w4⟩
  · exact c8.upd (Tc := fun a => False) z1 E' (fun g _ _ => by rw [ar30]) (fun a h70 _ z => absurd z (n43 a h70)) (fun a ha _ => own2 a ha) (fun g _ h1 h2 => ⟨⟨h1, h2⟩, rfl, rfl, rfl, rfl, rfl, rfl⟩) (fun g z => z.elim)
  · intro k hk
    by_cases z : k = j
    · subst z
      refine ⟨fun e => ?_, fun l' n' c' e => ?_⟩
      · have e : va_up H k (some (l, m, fun _ => 0)) k = none := e
        rw [va_up_self] at e; cases e
      · have e : va_up H k (some (l, m, fun _ => 0)) k = some (l', n', c') := e
        rw [va_up_self] at e
        cases e
        refine ⟨h_n h, h_n h + 1, by rw [ar43, va_up_self], ⟨own1 _ (Nat.le_refl _), own1 _ (by omega)⟩, ⟨k6, hn0, by show h_n h < h_n hR; omega⟩, oi, orr, ⟨k20, by omega, by show h_n h + 1 < h_n hR; omega⟩, al, fun i hi => ?_⟩
        show h_ai hR (h_n h + 1) i = 0
        rw [ai]
    · obtain ⟨q1, q2⟩ := c10 k hk
      have ek : h_ar (h_sQ hR 43 j (some (h_n h))) 43 k = h_ar h 43 k := by rw [ar43, va_up_ne _ _ z]
      have eH : h_sht H j l m k = H k := va_up_ne _ _ z
      rw [eH]
      refine ⟨fun e => ek.trans (q1 e), fun l' n' c' e => ?_⟩
      obtain ⟨r, a, R⟩ := q2 l' n' c' e
      obtain ⟨g1, ⟨g2, g3⟩, g4⟩ := R.frm E' ek (fun a _ h70 _ => n43 a h70)
      obtain ⟨-, -, ⟨-, -, w6⟩, -, -, ⟨-, -, w11⟩, -⟩ := R
      exact ⟨r, a, g1, ⟨by rw [own2 r w6]; exact g2, by rw [own2 a w11]; exact g3⟩, g4⟩
theorem e60 (f d : Nat) : (60 : Int32) * nI f + nI d = nI (60 * f + d) := by rw [show (60 : Int32) = nI 60 from rfl, pk_mul, nI_add]
set_option maxHeartbeats 1000000 in
theorem m_sheet {h : mm_H} {Q : Option Value → mm_H → Prop} {cap : Nat → Nat} {T : zT} {X : zX} {dy cl W : Nat} {ft : Int32} {F : zF} {A O : zV} {N : zN} {C : zC} {H : zH} (sh : s_h h) (K : MS h cl T X dy ft F A O N C H) (Z : zP W cap F A O N H) (k lane n : Int32) (k0 : ¬ zSk k lane n → Q (some (.int (-1))) h) (k1 : zSk k lane n → n < 0 → Q (some (.int (-14))) h) (k2 : ∀ j l m, k = nI j → j < 4 → lane = nI l → l ≤ 1 → n = nI m → m ≤ 60 → ∀ h', MS h' cl T X dy ft F A O N C (h_sht H j l m) → fM h h' → Q (some (.int 1)) h') : w_c 2 148 [.ref 44, .int k, .int lane, .int n] h Q := by
  obtain ⟨c1, c2, c3, c4, c5, c6, c7, c8, c9, c10, c11, c12⟩ := id K
  have loop : ∀ j l m, k = nI j → j < 4 → lane = nI l → l ≤ 1 → n = nI m → m ≤ 60 → ∀ w i, i + w = 60 → ∀ h1, fx h h1 [] [67, 68, 69] → dn h h1 → h_ai h1 67 = va_up (h_ai h 67) j (nI l) → h_ai h1 68 = va_up (h_ai h 68) j (nI m) → (∀ t, t < 240 → h_ai h1 69 t = if 60 * j ≤ t ∧ t < 60 * j + i then 0 else h_ai h 69 t) → w_p 2 (9, 5, mc_X9_sheet) 40 [(0, .ref 44), (1, .int (nI j)), (2, .int (nI l)), (3, .int (nI m)), (4, .int (nI i))] [] h1 Q := by
    intro j l m ej hj el hl em hm w
    induction w with
    | zero =>
      intro i hi h1 f1 d1 t1 t2 t3
      have e : i = 60 := by omega
      subst e
      refine t_X9_sheet_40 (f1.sh sh (by decide)) _ _ _ _ (K40 := fun _ _ _ _ _ => False) (fun _ _ _ _ _ z => z.elim) ⟨fun _ => ?_, fun z => absurd (show (60 : Int32) ≤ nI 60 from (i_le (a := 60) (b := 60) (by decide) (by decide)).mpr (Nat.le_refl _)) z⟩
      refine k2 j l m ej hj el hl em hm h1 ⟨c1.fx f1 (by decide) (by decide), c2.fx f1 (by decide) (by decide) (by decide), c3.fx f1 (by decide), c4.fx f1 (by decide) (by decide), c5.fx f1 (by decide) (by decide) (by decide) (by decide) (by decide), c6.fx f1 (by decide) (by decide) (by decide) (by decide) (by decide), c7.fx f1 (by decide) (by decide) (by decide), c8.fx f1 (by decide), c9.fx f1 (by decide) (by decide) (by decide), c10.fx f1 (by decide) (by decide) (by decide), fun g hg => ?_, c12.fx f1 (by decide)⟩ ⟨f1.wk (by decide) (by decide), d1⟩
      rw [t1, t2]
      by_cases z : g = j
      · subst z
        rw [va_up_self, va_up_self]
        refine ⟨fun e => ?_, fun l' n' c' e => ?_⟩
        · have e : va_up H g (some (l, m, fun _ => 0)) g = none := e
          rw [va_up_self] at e; cases e
        · have e : va_up H g (some (l, m, fun _ => 0)) g = some (l', n', c') := e
          rw [va_up_self] at e
          cases e
          exact ⟨rfl, rfl, fun i hi => by rw [t3 _ (by omega), if_pos (by omega)]⟩
      · rw [va_up_ne _ _ z, va_up_ne _ _ z]
        have eH : h_sht H j l m g = H g := va_up_ne _ _ z
        rw [eH]
        obtain ⟨q1, q2⟩ := c11 g hg
        refine ⟨q1, fun l' n' c' e => ?_⟩
        obtain ⟨w1, w2, w3⟩ := q2 l' n' c' e
        have hn' := (Z.2.2.2.2.2.2.2 g hg l' n' c' e).2
        exact ⟨w1, w2, fun i hi => by rw [t3 _ (by omega), if_neg (by omega)]; exact w3 i hi⟩
    | succ w ih =>
      intro i hi h1 f1 d1 t1 t2 t3
      refine t_X9_sheet_40 (f1.sh sh (by decide)) _ _ _ _ (K40 := fun y1 y2 y3 y4 hh => y1 = nI j ∧ y2 = nI l ∧ y3 = nI m ∧ y4 = nI (i + 1) ∧ hh = h_sA h1 69 (60 * j + i) 0) (fun y1 y2 y3 y4 hh z => ?_) ⟨fun z => ?_, fun _ => ?_⟩
      · obtain ⟨rfl, rfl, rfl, rfl, rfl⟩ := z
        refine ih (i + 1) (by omega) _ (f1.sA _ _ (Or.inl (by decide))) (d1.sA _ _ (by decide)) ((ai_ne (by decide)).trans t1) ((ai_ne (by decide)).trans t2) (fun t ht => ?_)
        rw [ai_self]
        by_cases z : t = 60 * j + i
        · rw [z, va_up_self, if_pos (by omega)]
        · rw [va_up_ne _ _ z, t3 t ht]
          by_cases y : 60 * j ≤ t ∧ t < 60 * j + i
          · rw [if_pos y, if_pos (by omega)]
          · rw [if_neg y, if_neg (by omega)]
      · have := (i_le (a := 60) (by decide) (by omega)).mp z
        omega
      · rw [e60, i_cl (by omega)]
        exact ⟨vp_in_nI (by omega) (by decide), rfl, rfl, rfl, nI_1 i, rfl⟩
  refine t_X9_sheet_0 sh _ _ _ (K40 := fun y1 y2 y3 y4 hh => ∃ j l m, k = nI j ∧ j < 4 ∧ lane = nI l ∧ l ≤ 1 ∧ n = nI m ∧ m ≤ 60 ∧ y1 = nI j ∧ y2 = nI l ∧ y3 = nI m ∧ y4 = nI 0 ∧ hh = h_sA (h_sA h 67 j (nI l)) 68 j (nI m)) (fun y1 y2 y3 y4 hh z => ?_) (m_isS k lane (fun c => ⟨_, rfl, sh, fun _ => k0 (fun y => c y.1), fun z => absurd rfl z⟩) (fun j l ej hj el hl => ⟨_, rfl, sh, fun z => absurd z (by decide), fun _ => ⟨fun c => ⟨fun c2 => ?_, fun c2 => k1 ⟨⟨⟨j, ej, hj⟩, ⟨l, el, hl⟩⟩, c⟩ (fa_of_nle c2)⟩, fun c => k0 (fun y => c y.2)⟩⟩) sh)
  · obtain ⟨j, l, m, ej, hj, el, hl, em, hm, rfl, rfl, rfl, rfl, rfl⟩ := z
    refine loop j l m ej hj el hl em hm 60 0 (by omega) _ (((fx.rf _ _ _).sA _ _ (Or.inl (by decide))).sA _ _ (Or.inl (by decide))) (((dn.rf _).sA _ _ (by decide)).sA _ _ (by decide)) ?_ ?_ (fun t ht => ?_)
    · rw [ai_ne (by decide), ai_self]
    · rw [ai_self, ai_ne (by decide)]
    · rw [ai_ne (by decide), ai_ne (by decide), if_neg (by omega)]
  · obtain ⟨m, hm, em⟩ := nat_of (le0.mp c2)
    have hm60 : m ≤ 60 := by rw [em] at c; exact (i_le (b := 60) hm (by decide)).mp c
    have vk : vp_in k 4 := by rw [ej]; exact vp_in_nI hj (by decide)
    refine ⟨vk, vk, j, l, m, ej, hj, el, hl, em, hm60, ej, el, em, rfl, ?_⟩
    rw [ej, el, em, i_cl (by omega)]
def h_lay (H : zH) (j l n : Nat) (c : Nat → Int32) (i : Nat) (v : Int32) : zH := va_up H j (some (l, n, va_up c i (rV8 l v)))
set_option maxHeartbeats 1000000 in
theorem c_lay {h : mm_H} {Q : Option Value → mm_H → Prop} {own cap : Nat → Nat} {T : zT} {X : zX} {dy W : Nat} {ft : Int32} {F : zF} {A O : zV} {N : zN} {C : zC} {H : zH} (sh : s_h h) (K : CS h own cap T X dy ft F A O N C H) (Z : zP W cap F A O N H) (k i v : Int32) (k0 : ¬ isS k → Q (some (.int (-1))) h) (k1 : ∀ j, k = nI j → j < 4 → H j = none → Q (some (.int (-11))) h) (k2 : ∀ j l n c, k = nI j → j < 4 → H j = some (l, n, c) → ¬ isA n i → Q (some (.int (-12))) h) (k3 : ∀ j l n c t, k = nI j → j < 4 → H j = some (l, n, c) → i = nI t → t < n → ∀ h', CS h' own cap T X dy ft F A O N C (h_lay H j l n c t v) → fC h h' → rm h h' → Q (some (.int 1)) h') : w_c 2 84 [.ref 16, .int k, .int i, .int v] h Q := by
  have z1 := Z.1
  obtain ⟨c1, c2, c3, c4, c5, c6, c7, c8, c9, c10⟩ := id K
  refine t_X8_lay_0 sh _ _ _ ((c_isS k (fun c => ⟨_, rfl, sh, fun z => absurd rfl z, fun _ => k0 c⟩) (fun j ej hj => ⟨_, rfl, sh, fun _ => ⟨by rw [ej]; exact vp_in_nI hj (by decide), ?_⟩, fun z => absurd z (by decide)⟩) sh).up (by decide))
  rw [ej, i_cl (by omega)]
  obtain ⟨q1, q2⟩ := c10 j hj
  cases eH : H j with
  | none =>
    refine ⟨fun _ => k1 j ej hj eH, fun r e => ?_⟩
    rw [q1 eH] at e; cases e
  | some s =>
    obtain ⟨l, n, c⟩ := s
    obtain ⟨r, a, R⟩ := q2 l n c eH
    obtain ⟨hl, hn⟩ := Z.2.2.2.2.2.2.2 j hj l n c eH
    refine ⟨fun e => ?_, fun r' e => ?_⟩
    · rw [R.1] at e; cases e
    · have er : r' = r := Option.some.inj (e.symm.trans R.1)
      subst er
      refine ⟨R.fac.1, (c_rhas sh R hn i (fun c => ⟨_, rfl, sh, fun z => absurd rfl z, fun _ => k2 j l n _ ej hj eH c⟩) (fun t et ht => ⟨_, rfl, sh, fun _ => ⟨R.fac.1, ?_⟩, fun z => absurd z (by decide)⟩)).up (by decide)⟩
      rw [et]
      refine c_rwr sh R hl hn ht v ?_
      have a70 : 70 ≤ a := R.2.2.2.2.2.1.2.1
      have f' : fx h (h_sA h a t (rV8 l v)) [] [] := (fx.rf _ _ _).sA _ _ (Or.inr a70)
      have E' : ex h (h_sA h a t (rV8 l v)) (fun b => b = a) := (ex.rf _ _).sA _ _ (Or.inl rfl)
      have oa : own a = 12 + j := R.2.1.2
      have ar30 := f'.ar 30 (by decide) (by decide)
      have ar43 := f'.ar 43 (by decide) (by decide)
      refine ⟨rfl, f'.sh sh (by decide), k3 j l n c t ej hj eH et ht _ ⟨c1.fx f' (by decide) (by decide), c2.fx f' (by decide) (by decide) (by decide), c3.fx f' (by decide), c4.fx f' (by decide), ?_, c6.fx f' (by decide) (by decide) (by decide) (by decide) (by decide), c7.fx f' (by decide) (by decide) (by decide) (by decide) (by decide), ?_, c9.fx f' (by decide) (by decide) (by decide), ?_⟩ (f'.wk (by decide) (by decide)) ⟨rfl, rfl⟩⟩
      · obtain ⟨p1, p2, p3⟩ := c5
        refine ⟨p1, (f'.oi _ _ (by decide) (by decide)).trans p2, fun g hg => ?_⟩
        rw [ar30]
        exact p3 g hg
      · exact c8.upd (Tc := fun b => b = 12 + j) z1 E' (fun g _ _ => by rw [ar30]) (fun b _ _ z => by rw [show b = a from z]; exact oa) (fun b _ _ => rfl) (fun g _ h1 h2 => ⟨⟨h1, h2⟩, rfl, rfl, rfl, rfl, rfl, rfl⟩) (fun g z h1 _ => by have z : g = 12 + j := z; omega)
      · intro k hk
        by_cases z : k = j
        · subst z
          refine ⟨fun e => ?_, fun l' n' c' e => ?_⟩
          · have e : va_up H k (some (l, n, va_up c t (rV8 l v))) k = none := e
            rw [va_up_self] at e; cases e
          · have e : va_up H k (some (l, n, va_up c t (rV8 l v))) k = some (l', n', c') := e
            rw [va_up_self] at e
            cases e
            obtain ⟨y1, y2, y3, y4, y5, y6, y7, y8⟩ := R
            refine ⟨r', a, by rw [ar43]; exact y1, y2, y3, y4, y5, y6, y7, fun i hi => ?_⟩
            rw [ai_self]
            by_cases w : i = t
            · rw [w, va_up_self, va_up_self]
            · rw [va_up_ne _ _ w, va_up_ne _ _ w]; exact y8 i hi
        · obtain ⟨w1, w2⟩ := c10 k hk
          have eH2 : h_lay H j l n c t v k = H k := va_up_ne _ _ z
          rw [eH2, ar43]
          refine ⟨w1, fun l' n' c' e => ?_⟩
          obtain ⟨r2, a2, R2⟩ := w2 l' n' c' e
          exact ⟨r2, a2, R2.frm E' (by rw [ar43]) (fun b hb _ _ y => by rw [show b = a from y, oa] at hb; omega)⟩
set_option maxHeartbeats 1000000 in
theorem m_lay {h : mm_H} {Q : Option Value → mm_H → Prop} {cap : Nat → Nat} {T : zT} {X : zX} {dy cl W : Nat} {ft : Int32} {F : zF} {A O : zV} {N : zN} {C : zC} {H : zH} (sh : s_h h) (K : MS h cl T X dy ft F A O N C H) (Z : zP W cap F A O N H) (k i v : Int32) (k0 : ¬ isS k → Q (some (.int (-1))) h) (k1 : ∀ j, k = nI j → j < 4 → H j = none → Q (some (.int (-11))) h) (k2 : ∀ j l n c, k = nI j → j < 4 → H j = some (l, n, c) → ¬ isA n i → Q (some (.int (-12))) h) (k3 : ∀ j l n c t, k = nI j → j < 4 → H j = some (l, n, c) → i = nI t → t < n → ∀ h', MS h' cl T X dy ft F A O N C (h_lay H j l n c t v) → fM h h' → Q (some (.int 1)) h') : w_c 2 149 [.ref 44, .int k, .int i, .int v] h Q := by
  obtain ⟨c1, c2, c3, c4, c5, c6, c7, c8, c9, c10, c11, c12⟩ := id K
  refine t_X9_lay_0 sh _ _ _ (m_isS k 0 (fun c => ⟨_, rfl, sh, fun z => absurd rfl z, fun _ => k0 (fun y => c ⟨y, 0, rfl, by decide⟩)⟩) (fun j l0 ej hj _ _ => ⟨_, rfl, sh, fun _ => ⟨by rw [ej]; exact vp_in_nI hj (by decide), ?_⟩, fun z => absurd z (by decide)⟩) sh)
  have vk : vp_in k 4 := by rw [ej]; exact vp_in_nI hj (by decide)
  rw [ej, i_cl (by omega)]
  rw [ej] at vk
  obtain ⟨q1, q2⟩ := c11 j hj
  cases eH : H j with
  | none =>
    rw [q1 eH]
    exact ⟨fun z => absurd rfl z, fun _ => k1 j ej hj eH⟩
  | some s =>
    obtain ⟨l, n, c⟩ := s
    obtain ⟨w1, w2, w3⟩ := q2 l n c eH
    obtain ⟨hl, hn⟩ := Z.2.2.2.2.2.2.2 j hj l n c eH
    rw [w1, w2, in_isA (by omega)]
    refine ⟨fun _ => ⟨vk, fun cA => ?_, fun cA => k2 j l n c ej hj eH cA⟩, fun z => absurd z (nI_neN l (by omega))⟩
    have cA := Classical.not_not.mp cA
    obtain ⟨t, et, ht⟩ := cA
    rw [et, e60, i_cl (by omega)]
    have vi : vp_in (nI (60 * j + t)) 240 := vp_in_nI (by omega) (by decide)
    have fin : ∀ x, x = rV8 l v → Q (some (.int 1)) (h_sA h 69 (60 * j + t) x) := by
      intro x ex
      have f1 : fx h (h_sA h 69 (60 * j + t) x) [] [69] := (fx.rf _ _ _).sA _ _ (Or.inl (by decide))
      refine k3 j l n c t ej hj eH et ht _ ⟨c1.fx f1 (by decide) (by decide), c2.fx f1 (by decide) (by decide) (by decide), c3.fx f1 (by decide), c4.fx f1 (by decide) (by decide), c5.fx f1 (by decide) (by decide) (by decide) (by decide) (by decide), c6.fx f1 (by decide) (by decide) (by decide) (by decide) (by decide), c7.fx f1 (by decide) (by decide) (by decide), c8.fx f1 (by decide), c9.fx f1 (by decide) (by decide) (by decide), c10.fx f1 (by decide) (by decide) (by decide), fun g hg => ?_, c12.fx f1 (by decide)⟩ ⟨f1.wk (by decide) (by decide), (dn.rf _).sA _ _ (by decide)⟩
      rw [ai_ne (by decide), ai_ne (by decide), ai_self]
      by_cases z : g = j
      · subst z
        refine ⟨fun e => ?_, fun l' n' c' e => ?_⟩
        · have e : va_up H g (some (l, n, va_up c t (rV8 l v))) g = none := e
          rw [va_up_self] at e; cases e
        · have e : va_up H g (some (l, n, va_up c t (rV8 l v))) g = some (l', n', c') := e
          rw [va_up_self] at e
          cases e
          refine ⟨w1, w2, fun i hi => ?_⟩
          by_cases y : i = t
          · rw [y, va_up_self, va_up_self]; exact ex
          · rw [va_up_ne _ _ y, va_up_ne _ _ (by omega)]; exact w3 i hi
      · have eH2 : h_lay H j l n c t v g = H g := va_up_ne _ _ z
        rw [eH2]
        obtain ⟨y1, y2⟩ := c11 g hg
        refine ⟨y1, fun l' n' c' e => ?_⟩
        obtain ⟨u1, u2, u3⟩ := y2 l' n' c' e
        have hn' := (Z.2.2.2.2.2.2.2 g hg l' n' c' e).2
        exact ⟨u1, u2, fun i hi => by rw [va_up_ne _ _ (by omega)]; exact u3 i hi⟩
    refine ⟨vk, fun z => ⟨vi, fin _ ?_⟩, fun z => ⟨vi, fin _ ?_⟩⟩
    · unfold rV8; rw [if_neg (fun y => z (by rw [y]; rfl))]
    · unfold rV8; rw [if_pos ((nI_eqI (b := 0) (by omega) (by decide)).mp z)]
