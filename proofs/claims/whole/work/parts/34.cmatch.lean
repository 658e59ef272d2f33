set_option maxRecDepth 20000 in
theorem t_X2_begin_0 {D : Nat} {h : mm_H} {Q : Option Value → mm_H → Prop} (sh : s_h h) (na : Int32) (no : Int32) 
    (F : w_c D 152 [.ref 40, .int 0] (h_sI (h_sI h 131 39 (if 10 < na then 10 else na)) 132 39 (if 10 < no then 10 else no)) (fun r h1 => r = none ∧ s_h h1 ∧ w_c D 152 [.ref 41, .int (-4)] h1 (fun r h2 => r = none ∧ s_h h2 ∧ Q none h2))) :
    w_c (D + 1) 12 [.ref 39, .int na, .int no] h Q := by
  refine w_ci (M := (2, 3, mc_X2_begin)) rfl (Nat.le_of_ble_eq_true rfl) ?_
  show w_p _ _ 0 [(0, .ref 39), (1, .int na), (2, .int no)] [] h Q
  refine w_b 3 4 [(0, .ref 39), (1, .int na), (2, .int no)] [.int 10, .int na, .ref 39] rfl ?_
  refine w_min (x := na) (y := 10) rfl (Nat.le_of_ble_eq_true rfl) ?_
  refine w_put (g := 131) (x := if 10 < na then 10 else na) rfl rfl rfl (kd_39 sh) (by decide) ?_
  refine w_b 3 14 [(0, .ref 39), (1, .int na), (2, .int no)] [.int 10, .int no, .ref 39] rfl ?_
  refine w_min (x := no) (y := 10) rfl (Nat.le_of_ble_eq_true rfl) ?_
  refine w_put (g := 132) (x := if 10 < no then 10 else no) rfl rfl rfl (kd_39 sh) (by decide) ?_
  refine w_b 1 21 [(0, .ref 39), (1, .int na), (2, .int no)] [.ref 39] rfl ?_
  refine w_getS (b := 40) rfl rfl rfl (kd_39 sh) (or_128_39 sh) ?_
  refine w_b 1 25 [(0, .ref 39), (1, .int na), (2, .int no)] [.int 0, .ref 40] rfl ?_
  refine w_cs (As := [.ref 40, .int 0]) (rest := []) rfl rfl rfl (Nat.le_of_ble_eq_true rfl) (dc := D) (by omega) (F.mono (fun r h1 F => ?_))
  obtain ⟨rfl, sh1, F⟩ := F
  show w_p _ _ 28 [(0, .ref 39), (1, .int na), (2, .int no)] [] h1 _
  refine w_b 1 29 [(0, .ref 39), (1, .int na), (2, .int no)] [.ref 39] rfl ?_
  refine w_getS (b := 41) rfl rfl rfl (kd_39 sh1) (or_129_39 sh1) ?_
  refine w_b 1 34 [(0, .ref 39), (1, .int na), (2, .int no)] [.int (-4), .ref 41] rfl ?_
  refine w_cs (As := [.ref 41, .int (-4)]) (rest := []) rfl rfl rfl (Nat.le_of_ble_eq_true rfl) (dc := D) (by omega) (F.mono (fun r h2 F => ?_))
  obtain ⟨rfl, sh2, F⟩ := F
  show w_p _ _ 37 [(0, .ref 39), (1, .int na), (2, .int no)] [] h2 _
  exact w_vr rfl F

set_option maxRecDepth 20000 in
theorem t_X2_addFit_0 {h : mm_H} {Q : Option Value → mm_H → Prop} (sh : s_h h) (a : Int32) (o : Int32) 
    (F : ((a < 0 → Q none h) ∧ (¬ (a < 0) → (((h_oi h 131 39) ≤ a → Q none h) ∧ (¬ ((h_oi h 131 39) ≤ a) → ((o < 0 → Q none h) ∧ (¬ (o < 0) → (((h_oi h 132 39) ≤ o → Q none h) ∧ (¬ ((h_oi h 132 39) ≤ o) → (vp_in a 10 ∧ (vp_in a 10 ∧ Q none (h_sA h 40 a.toNatClampNeg ((h_ai h 40 a.toNatClampNeg) ||| ((1 : Int32) <<< (o &&& 31))))))))))))))) :
    w_c 0 13 [.ref 39, .int a, .int o] h Q := by
  refine w_ci (M := (2, 3, mc_X2_addFit)) rfl (Nat.le_of_ble_eq_true rfl) ?_
  show w_p _ _ 0 [(0, .ref 39), (1, .int a), (2, .int o)] [] h Q
  refine w_b 1 1 [(0, .ref 39), (1, .int a), (2, .int o)] [.int a] rfl ?_
  refine w_if_lt (tgt := 36) (x := a) rfl (by decide) ⟨fun c1 => ?_, fun c1 => ?_⟩
  · have F := F.1 c1
    exact w_vr rfl F
  · have F := F.2 c1
    refine w_b 2 6 [(0, .ref 39), (1, .int a), (2, .int o)] [.ref 39, .int a] rfl ?_
    refine w_get (g := 131) rfl rfl rfl (kd_39 sh) ?_
    refine w_ic_ge (tgt := 36) (x := a) (y := h_oi h 131 39) rfl (by decide) ⟨fun c2 => ?_, fun c2 => ?_⟩
    · have F := F.1 c2
      exact w_vr rfl F
    · have F := F.2 c2
      refine w_b 1 13 [(0, .ref 39), (1, .int a), (2, .int o)] [.int o] rfl ?_
      refine w_if_lt (tgt := 36) (x := o) rfl (by decide) ⟨fun c3 => ?_, fun c3 => ?_⟩
      · have F := F.1 c3
        exact w_vr rfl F
      · have F := F.2 c3
        refine w_b 2 18 [(0, .ref 39), (1, .int a), (2, .int o)] [.ref 39, .int o] rfl ?_
        refine w_get (g := 132) rfl rfl rfl (kd_39 sh) ?_
        refine w_ic_ge (tgt := 36) (x := o) (y := h_oi h 132 39) rfl (by decide) ⟨fun c4 => ?_, fun c4 => ?_⟩
        · have F := F.1 c4
          exact w_vr rfl F
        · have F := F.2 c4
          refine w_b 1 25 [(0, .ref 39), (1, .int a), (2, .int o)] [.ref 39] rfl ?_
          refine w_getS (b := 40) rfl rfl rfl (kd_39 sh) (or_128_39 sh) ?_
          refine w_b 2 30 [(0, .ref 39), (1, .int a), (2, .int o)] [.int a, .ref 40, .int a, .ref 40] rfl ?_
          obtain ⟨g5, F⟩ := F
          refine w_iald rfl (kd_40 sh) (by rw [show h_al h 40 = 10 from (al_40 sh)]; exact g5) ?_
          refine w_b 4 35 [(0, .ref 39), (1, .int a), (2, .int o)] [.int ((h_ai h 40 a.toNatClampNeg) ||| ((1 : Int32) <<< (o &&& 31))), .int a, .ref 40] rfl ?_
          obtain ⟨g6, F⟩ := F
          refine w_iast rfl (kd_40 sh) (by decide) (by rw [show h_al h 40 = 10 from (al_40 sh)]; exact g6) ?_
          exact w_vr rfl F

set_option maxRecDepth 20000 in
theorem t_X2_offerOf_0 {h : mm_H} {Q : Option Value → mm_H → Prop} (sh : s_h h) (a : Int32) 
    (F : ((a < 0 → Q (some (.int (-4))) h) ∧ (¬ (a < 0) → (((h_oi h 131 39) ≤ a → Q (some (.int (-4))) h) ∧ (¬ ((h_oi h 131 39) ≤ a) → (vp_in a 10 ∧ Q (some (.int (h_ai h 41 a.toNatClampNeg))) h)))))) :
    w_c 0 14 [.ref 39, .int a] h Q := by
  refine w_ci (M := (2, 2, mc_X2_offerOf)) rfl (Nat.le_of_ble_eq_true rfl) ?_
  show w_p _ _ 0 [(0, .ref 39), (1, .int a)] [] h Q
  refine w_b 1 1 [(0, .ref 39), (1, .int a)] [.int a] rfl ?_
  refine w_if_lt (tgt := 21) (x := a) rfl (by decide) ⟨fun c1 => ?_, fun c1 => ?_⟩
  · have F := F.1 c1
    refine w_b 1 23 [(0, .ref 39), (1, .int a)] [.int (-4)] rfl ?_
    exact w_ir rfl F
  · have F := F.2 c1
    refine w_b 2 6 [(0, .ref 39), (1, .int a)] [.ref 39, .int a] rfl ?_
    refine w_get (g := 131) rfl rfl rfl (kd_39 sh) ?_
    refine w_ic_ge (tgt := 21) (x := a) (y := h_oi h 131 39) rfl (by decide) ⟨fun c2 => ?_, fun c2 => ?_⟩
    · have F := F.1 c2
      refine w_b 1 23 [(0, .ref 39), (1, .int a)] [.int (-4)] rfl ?_
      exact w_ir rfl F
    · have F := F.2 c2
      refine w_b 1 13 [(0, .ref 39), (1, .int a)] [.ref 39] rfl ?_
      refine w_getS (b := 41) rfl rfl rfl (kd_39 sh) (or_129_39 sh) ?_
      refine w_b 1 17 [(0, .ref 39), (1, .int a)] [.int a, .ref 41] rfl ?_
      obtain ⟨g3, F⟩ := F
      refine w_iald rfl (kd_41 sh) (by rw [show h_al h 41 = 10 from (al_41 sh)]; exact g3) ?_
      refine w_b 1 23 [(0, .ref 39), (1, .int a)] [.int (h_ai h 41 a.toNatClampNeg)] rfl ?_
      exact w_ir rfl F

set_option maxRecDepth 20000 in
theorem t_X2_reach_0 {D : Nat} {h : mm_H} {Q : Option Value → mm_H → Prop} (sh : s_h h) {K12 : Int32 → mm_H → Prop} (k12 : ∀ (x1 : Int32) (h : mm_H), K12 x1 h → w_p (D + 1) (2, 2, mc_X2_reach) 12 [(0, .ref 39), (1, .int x1)] [] h Q) 
    (F : K12 0 (h_sI (h_sI h 134 39 0) 135 39 0)) :
    w_c (D + 1) 21 [.ref 39] h Q := by
  refine w_ci (M := (2, 2, mc_X2_reach)) rfl (Nat.le_of_ble_eq_true rfl) ?_
  show w_p _ _ 0 [(0, .ref 39)] [] h Q
  refine w_b 2 2 [(0, .ref 39)] [.int 0, .ref 39] rfl ?_
  refine w_put (g := 134) (x := 0) rfl rfl rfl (kd_39 sh) (by decide) ?_
  refine w_b 2 7 [(0, .ref 39)] [.int 0, .ref 39] rfl ?_
  refine w_put (g := 135) (x := 0) rfl rfl rfl (kd_39 sh) (by decide) ?_
  refine w_b 2 12 [(1, .int 0), (0, .ref 39)] [] rfl ?_
  refine w_lo [0, 1] [(0, .ref 39), (1, .int 0)] rfl rfl ?_
  exact k12 _ _ F

set_option maxRecDepth 20000 in
theorem t_X2_reach_12 {D : Nat} {h : mm_H} {Q : Option Value → mm_H → Prop} (sh : s_h h) (x1 : Int32) {K12 : Int32 → mm_H → Prop} (k12 : ∀ (x1 : Int32) (h : mm_H), K12 x1 h → w_p (D + 1) (2, 2, mc_X2_reach) 12 [(0, .ref 39), (1, .int x1)] [] h Q) {K51 : Int32 → mm_H → Prop} (k51 : ∀ (x1 : Int32) (h : mm_H), K51 x1 h → w_p (D + 1) (2, 2, mc_X2_reach) 51 [(0, .ref 39), (1, .int x1)] [] h Q) 
    (F : (((h_oi h 131 39) ≤ x1 → K51 0 h) ∧ (¬ ((h_oi h 131 39) ≤ x1) → (vp_in x1 10 ∧ ((¬ (h_ai h 41 x1.toNatClampNeg) = (-4) → K12 (x1 + 1) h) ∧ ((h_ai h 41 x1.toNatClampNeg) = (-4) → K12 (x1 + 1) (h_sI h 134 39 ((h_oi h 134 39) ||| ((1 : Int32) <<< (x1 &&& 31)))))))))) :
    w_p (D + 1) (2, 2, mc_X2_reach) 12 [(0, .ref 39), (1, .int x1)] [] h Q := by
  refine w_b 2 14 [(0, .ref 39), (1, .int x1)] [.ref 39, .int x1] rfl ?_
  refine w_get (g := 131) rfl rfl rfl (kd_39 sh) ?_
  refine w_ic_ge (tgt := 49) (x := x1) (y := h_oi h 131 39) rfl (by decide) ⟨fun c1 => ?_, fun c1 => ?_⟩
  · have F := F.1 c1
    refine w_b 2 51 [(1, .int 0), (0, .ref 39)] [] rfl ?_
    refine w_lo [0, 1] [(0, .ref 39), (1, .int 0)] rfl rfl ?_
    exact k51 _ _ F
  · have F := F.2 c1
    refine w_b 1 21 [(0, .ref 39), (1, .int x1)] [.ref 39] rfl ?_
    refine w_getS (b := 41) rfl rfl rfl (kd_39 sh) (or_129_39 sh) ?_
    refine w_b 1 25 [(0, .ref 39), (1, .int x1)] [.int x1, .ref 41] rfl ?_
    obtain ⟨g2, F⟩ := F
    refine w_iald rfl (kd_41 sh) (by rw [show h_al h 41 = 10 from (al_41 sh)]; exact g2) ?_
    refine w_b 1 28 [(0, .ref 39), (1, .int x1)] [.int (-4), .int (h_ai h 41 x1.toNatClampNeg)] rfl ?_
    refine w_ic_ne (tgt := 43) (x := h_ai h 41 x1.toNatClampNeg) (y := (-4)) rfl (by decide) ⟨fun c3 => ?_, fun c3 => ?_⟩
    · have F := F.1 c3
      refine w_b 2 12 [(1, .int (x1 + 1)), (0, .ref 39)] [] rfl ?_
      refine w_lo [0, 1] [(0, .ref 39), (1, .int (x1 + 1))] rfl rfl ?_
      exact k12 _ _ F
    · have F := F.2 (Decidable.not_not.mp c3)
      refine w_b 2 33 [(0, .ref 39), (1, .int x1)] [.ref 39, .ref 39] rfl ?_
      refine w_get (g := 134) rfl rfl rfl (kd_39 sh) ?_
      refine w_b 4 40 [(0, .ref 39), (1, .int x1)] [.int ((h_oi h 134 39) ||| ((1 : Int32) <<< (x1 &&& 31))), .ref 39] rfl ?_
      refine w_put (g := 134) (x := (h_oi h 134 39) ||| ((1 : Int32) <<< (x1 &&& 31))) rfl rfl rfl (kd_39 sh) (by decide) ?_
      refine w_b 2 12 [(1, .int (x1 + 1)), (0, .ref 39)] [] rfl ?_
      refine w_lo [0, 1] [(0, .ref 39), (1, .int (x1 + 1))] rfl rfl ?_
      exact k12 _ _ F

set_option maxRecDepth 20000 in
theorem t_X2_reach_51 {D : Nat} {h : mm_H} {Q : Option Value → mm_H → Prop} (sh : s_h h) (x1 : Int32) {K51 : Int32 → mm_H → Prop} (k51 : ∀ (x1 : Int32) (h : mm_H), K51 x1 h → w_p (D + 1) (2, 2, mc_X2_reach) 51 [(0, .ref 39), (1, .int x1)] [] h Q) 
    (F : (((h_oi h 131 39) < x1 → Q none h) ∧ (¬ ((h_oi h 131 39) < x1) → w_c D 22 [.ref 39] h (fun r h2 => r = none ∧ s_h h2 ∧ K51 (x1 + 1) h2)))) :
    w_p (D + 1) (2, 2, mc_X2_reach) 51 [(0, .ref 39), (1, .int x1)] [] h Q := by
  refine w_b 2 53 [(0, .ref 39), (1, .int x1)] [.ref 39, .int x1] rfl ?_
  refine w_get (g := 131) rfl rfl rfl (kd_39 sh) ?_
  refine w_ic_gt (tgt := 69) (x := x1) (y := h_oi h 131 39) rfl (by decide) ⟨fun c1 => ?_, fun c1 => ?_⟩
  · have F := F.1 c1
    exact w_vr rfl F
  · have F := F.2 c1
    refine w_b 1 60 [(0, .ref 39), (1, .int x1)] [.ref 39] rfl ?_
    refine w_cv (As := []) (b := 39) (rest := []) rfl rfl rfl (Nat.le_of_ble_eq_true rfl) (kd_39 sh) (fun z => absurd z (by decide)) (dc := D) (by omega) (F.mono (fun r h2 F => ?_))
    obtain ⟨rfl, sh2, F⟩ := F
    show w_p _ _ 63 [(0, .ref 39), (1, .int x1)] [] h2 _
    refine w_b 2 51 [(1, .int (x1 + 1)), (0, .ref 39)] [] rfl ?_
    refine w_lo [0, 1] [(0, .ref 39), (1, .int (x1 + 1))] rfl rfl ?_
    exact k51 _ _ F

set_option maxRecDepth 20000 in
theorem t_X2_reachFurther_0 {h : mm_H} {Q : Option Value → mm_H → Prop} (sh : s_h h) {K2 : Int32 → mm_H → Prop} (k2 : ∀ (x1 : Int32) (h : mm_H), K2 x1 h → w_p 0 (2, 2, mc_X2_reachFurther) 2 [(0, .ref 39), (1, .int x1)] [] h Q) 
    (F : K2 0 h) :
    w_c 0 22 [.ref 39] h Q := by
  refine w_ci (M := (2, 2, mc_X2_reachFurther)) rfl (Nat.le_of_ble_eq_true rfl) ?_
  show w_p _ _ 0 [(0, .ref 39)] [] h Q
  refine w_b 2 2 [(1, .int 0), (0, .ref 39)] [] rfl ?_
  refine w_lo [0, 1] [(0, .ref 39), (1, .int 0)] rfl rfl ?_
  exact k2 _ _ F

set_option maxRecDepth 20000 in
theorem t_X2_reachFurther_2 {h : mm_H} {Q : Option Value → mm_H → Prop} (sh : s_h h) (x1 : Int32) {K2 : Int32 → mm_H → Prop} (k2 : ∀ (x1 : Int32) (h : mm_H), K2 x1 h → w_p 0 (2, 2, mc_X2_reachFurther) 2 [(0, .ref 39), (1, .int x1)] [] h Q) {K44 : Int32 → mm_H → Prop} (k44 : ∀ (x1 : Int32) (h : mm_H), K44 x1 h → w_p 0 (2, 2, mc_X2_reachFurther) 44 [(0, .ref 39), (1, .int x1)] [] h Q) 
    (F : (((h_oi h 131 39) ≤ x1 → K44 0 h) ∧ (¬ ((h_oi h 131 39) ≤ x1) → (((((h_oi h 134 39) >>> (x1 &&& 31)) &&& (1 : Int32)) = 0 → K2 (x1 + 1) h) ∧ (¬ ((((h_oi h 134 39) >>> (x1 &&& 31)) &&& (1 : Int32)) = 0) → (vp_in x1 10 ∧ K2 (x1 + 1) (h_sI h 135 39 ((h_oi h 135 39) ||| (h_ai h 40 x1.toNatClampNeg))))))))) :
    w_p 0 (2, 2, mc_X2_reachFurther) 2 [(0, .ref 39), (1, .int x1)] [] h Q := by
  refine w_b 2 4 [(0, .ref 39), (1, .int x1)] [.ref 39, .int x1] rfl ?_
  refine w_get (g := 131) rfl rfl rfl (kd_39 sh) ?_
  refine w_ic_ge (tgt := 42) (x := x1) (y := h_oi h 131 39) rfl (by decide) ⟨fun c1 => ?_, fun c1 => ?_⟩
  · have F := F.1 c1
    refine w_b 2 44 [(1, .int 0), (0, .ref 39)] [] rfl ?_
    refine w_lo [0, 1] [(0, .ref 39), (1, .int 0)] rfl rfl ?_
    exact k44 _ _ F
  · have F := F.2 c1
    refine w_b 1 11 [(0, .ref 39), (1, .int x1)] [.ref 39] rfl ?_
    refine w_get (g := 134) rfl rfl rfl (kd_39 sh) ?_
    refine w_b 4 18 [(0, .ref 39), (1, .int x1)] [.int (((h_oi h 134 39) >>> (x1 &&& 31)) &&& (1 : Int32))] rfl ?_
    refine w_if_eq (tgt := 36) (x := ((h_oi h 134 39) >>> (x1 &&& 31)) &&& (1 : Int32)) rfl (by decide) ⟨fun c2 => ?_, fun c2 => ?_⟩
    · have F := F.1 c2
      refine w_b 2 2 [(1, .int (x1 + 1)), (0, .ref 39)] [] rfl ?_
      refine w_lo [0, 1] [(0, .ref 39), (1, .int (x1 + 1))] rfl rfl ?_
      exact k2 _ _ F
    · have F := F.2 c2
      refine w_b 2 23 [(0, .ref 39), (1, .int x1)] [.ref 39, .ref 39] rfl ?_
      refine w_get (g := 135) rfl rfl rfl (kd_39 sh) ?_
      refine w_b 1 27 [(0, .ref 39), (1, .int x1)] [.ref 39, .int (h_oi h 135 39), .ref 39] rfl ?_
      refine w_getS (b := 40) rfl rfl rfl (kd_39 sh) (or_128_39 sh) ?_
      refine w_b 1 31 [(0, .ref 39), (1, .int x1)] [.int x1, .ref 40, .int (h_oi h 135 39), .ref 39] rfl ?_
      obtain ⟨g3, F⟩ := F
      refine w_iald rfl (kd_40 sh) (by rw [show h_al h 40 = 10 from (al_40 sh)]; exact g3) ?_
      refine w_b 1 33 [(0, .ref 39), (1, .int x1)] [.int ((h_oi h 135 39) ||| (h_ai h 40 x1.toNatClampNeg)), .ref 39] rfl ?_
      refine w_put (g := 135) (x := (h_oi h 135 39) ||| (h_ai h 40 x1.toNatClampNeg)) rfl rfl rfl (kd_39 sh) (by decide) ?_
      refine w_b 2 2 [(1, .int (x1 + 1)), (0, .ref 39)] [] rfl ?_
      refine w_lo [0, 1] [(0, .ref 39), (1, .int (x1 + 1))] rfl rfl ?_
      exact k2 _ _ F

set_option maxRecDepth 20000 in
theorem t_X2_reachFurther_44 {h : mm_H} {Q : Option Value → mm_H → Prop} (sh : s_h h) (x1 : Int32) {K44 : Int32 → mm_H → Prop} (k44 : ∀ (x1 : Int32) (h : mm_H), K44 x1 h → w_p 0 (2, 2, mc_X2_reachFurther) 44 [(0, .ref 39), (1, .int x1)] [] h Q) 
    (F : (((h_oi h 131 39) ≤ x1 → Q none h) ∧ (¬ ((h_oi h 131 39) ≤ x1) → (vp_in x1 10 ∧ (((h_ai h 41 x1.toNatClampNeg) = (-4) → K44 (x1 + 1) h) ∧ (¬ ((h_ai h 41 x1.toNatClampNeg) = (-4)) → (vp_in x1 10 ∧ (((((h_oi h 135 39) >>> ((h_ai h 41 x1.toNatClampNeg) &&& 31)) &&& (1 : Int32)) = 0 → K44 (x1 + 1) h) ∧ (¬ ((((h_oi h 135 39) >>> ((h_ai h 41 x1.toNatClampNeg) &&& 31)) &&& (1 : Int32)) = 0) → K44 (x1 + 1) (h_sI h 134 39 ((h_oi h 134 39) ||| ((1 : Int32) <<< (x1 &&& 31))))))))))))) :
    w_p 0 (2, 2, mc_X2_reachFurther) 44 [(0, .ref 39), (1, .int x1)] [] h Q := by
  refine w_b 2 46 [(0, .ref 39), (1, .int x1)] [.ref 39, .int x1] rfl ?_
  refine w_get (g := 131) rfl rfl rfl (kd_39 sh) ?_
  refine w_ic_ge (tgt := 97) (x := x1) (y := h_oi h 131 39) rfl (by decide) ⟨fun c1 => ?_, fun c1 => ?_⟩
  · have F := F.1 c1
    exact w_vr rfl F
  · have F := F.2 c1
    refine w_b 1 53 [(0, .ref 39), (1, .int x1)] [.ref 39] rfl ?_
    refine w_getS (b := 41) rfl rfl rfl (kd_39 sh) (or_129_39 sh) ?_
    refine w_b 1 57 [(0, .ref 39), (1, .int x1)] [.int x1, .ref 41] rfl ?_
    obtain ⟨g2, F⟩ := F
    refine w_iald rfl (kd_41 sh) (by rw [show h_al h 41 = 10 from (al_41 sh)]; exact g2) ?_
    refine w_b 1 60 [(0, .ref 39), (1, .int x1)] [.int (-4), .int (h_ai h 41 x1.toNatClampNeg)] rfl ?_
    refine w_ic_eq (tgt := 91) (x := h_ai h 41 x1.toNatClampNeg) (y := (-4)) rfl (by decide) ⟨fun c3 => ?_, fun c3 => ?_⟩
    · have F := F.1 c3
      refine w_b 2 44 [(1, .int (x1 + 1)), (0, .ref 39)] [] rfl ?_
      refine w_lo [0, 1] [(0, .ref 39), (1, .int (x1 + 1))] rfl rfl ?_
      exact k44 _ _ F
    · have F := F.2 c3
      refine w_b 1 64 [(0, .ref 39), (1, .int x1)] [.ref 39] rfl ?_
      refine w_get (g := 135) rfl rfl rfl (kd_39 sh) ?_
      refine w_b 1 68 [(0, .ref 39), (1, .int x1)] [.ref 39, .int (h_oi h 135 39)] rfl ?_
      refine w_getS (b := 41) rfl rfl rfl (kd_39 sh) (or_129_39 sh) ?_
      refine w_b 1 72 [(0, .ref 39), (1, .int x1)] [.int x1, .ref 41, .int (h_oi h 135 39)] rfl ?_
      obtain ⟨g4, F⟩ := F
      refine w_iald rfl (kd_41 sh) (by rw [show h_al h 41 = 10 from (al_41 sh)]; exact g4) ?_
      refine w_b 3 76 [(0, .ref 39), (1, .int x1)] [.int (((h_oi h 135 39) >>> ((h_ai h 41 x1.toNatClampNeg) &&& 31)) &&& (1 : Int32))] rfl ?_
      refine w_if_eq (tgt := 91) (x := ((h_oi h 135 39) >>> ((h_ai h 41 x1.toNatClampNeg) &&& 31)) &&& (1 : Int32)) rfl (by decide) ⟨fun c5 => ?_, fun c5 => ?_⟩
      · have F := F.1 c5
        refine w_b 2 44 [(1, .int (x1 + 1)), (0, .ref 39)] [] rfl ?_
        refine w_lo [0, 1] [(0, .ref 39), (1, .int (x1 + 1))] rfl rfl ?_
        exact k44 _ _ F
      · have F := F.2 c5
        refine w_b 2 81 [(0, .ref 39), (1, .int x1)] [.ref 39, .ref 39] rfl ?_
        refine w_get (g := 134) rfl rfl rfl (kd_39 sh) ?_
        refine w_b 4 88 [(0, .ref 39), (1, .int x1)] [.int ((h_oi h 134 39) ||| ((1 : Int32) <<< (x1 &&& 31))), .ref 39] rfl ?_
        refine w_put (g := 134) (x := (h_oi h 134 39) ||| ((1 : Int32) <<< (x1 &&& 31))) rfl rfl rfl (kd_39 sh) (by decide) ?_
        refine w_b 2 44 [(1, .int (x1 + 1)), (0, .ref 39)] [] rfl ?_
        refine w_lo [0, 1] [(0, .ref 39), (1, .int (x1 + 1))] rfl rfl ?_
        exact k44 _ _ F

set_option maxRecDepth 20000 in
theorem t_X2_asksNotReached_0 {h : mm_H} {Q : Option Value → mm_H → Prop} (sh : s_h h) 
    (F : Q (some (.int (((h_oi h 134 39) ^^^ (-1 : Int32)) &&& (((1 : Int32) <<< ((h_oi h 131 39) &&& 31)) - (1 : Int32))))) h) :
    w_c 0 23 [.ref 39] h Q := by
  refine w_ci (M := (2, 1, mc_X2_asksNotReached)) rfl (Nat.le_of_ble_eq_true rfl) ?_
  show w_p _ _ 0 [(0, .ref 39)] [] h Q
  refine w_b 1 1 [(0, .ref 39)] [.ref 39] rfl ?_
  refine w_get (g := 134) rfl rfl rfl (kd_39 sh) ?_
  refine w_b 4 8 [(0, .ref 39)] [.ref 39, .int 1, .int ((h_oi h 134 39) ^^^ (-1 : Int32))] rfl ?_
  refine w_get (g := 131) rfl rfl rfl (kd_39 sh) ?_
  refine w_b 4 15 [(0, .ref 39)] [.int (((h_oi h 134 39) ^^^ (-1 : Int32)) &&& (((1 : Int32) <<< ((h_oi h 131 39) &&& 31)) - (1 : Int32)))] rfl ?_
  exact w_ir rfl F

theorem nI_m1 {a : Nat} (h : 0 < a) : nI a + (-1) = nI (a - 1) := (Int32.sub_eq_add_neg ..).symm.trans (nI_sub1 h)
/-- the matcher's answer: what each ask has -/
def cG (h : mm_H) (na : Nat) (g : Nat → Option Nat) : Prop := ∀ a, a < na → h_ai h 41 a = oN (g a)
theorem cG.fx {h h' : mm_H} {gs : List (Nat × Nat)} {as : List Nat} {na : Nat} {g : Nat → Option Nat} (H : cG h na g) (f : fx h h' gs as) (n3 : 41 ∉ as) : cG h' na g := by
  unfold cG at H ⊢
  rw [f.ai 41 (by decide) n3]
  exact H
theorem mg_none {fit : Nat → Nat → Bool} {na no k : Nat} (h : mg fit na no k = none) : mst fit na no (mA fit na no) (k + 1) = mst fit na no (mA fit na no) k := mst_no h
theorem mg_some {fit : Nat → Nat → Bool} {na no k o : Nat} (h : mg fit na no k = some o) : mst fit na no (mA fit na no) (k + 1) = (va_up (mst fit na no (mA fit na no) k).1 o false, (mst fit na no (mA fit na no) k).2 + 1) := mst_yes h
theorem mg_lt {fit : Nat → Nat → Bool} {na no k o : Nat} (h : mg fit na no k = some o) : o < no := (mpick_of h).1
theorem mg_fit {fit : Nat → Nat → Bool} {na no k o : Nat} (h : mg fit na no k = some o) : fit k o = true := (mpk_md (mpick_of h).2).1
theorem mg_lt2 {fit : Nat → Nat → Bool} {na no k o : Nat} (h : mg fit na no k = some o) : (mst fit na no (mA fit na no) k).2 < mA fit na no := by
  have := (mpk_md (mpick_of h).2).2.2
  omega
theorem mst_stay {fit : Nat → Nat → Bool} {na no s0 k : Nat} (h : s0 ≤ (mst fit na no s0 k).2) : ∀ j, mst fit na no s0 (k + j) = mst fit na no s0 k ∧ mpick fit na no s0 (k + j) (mst fit na no s0 (k + j)).1 (mst fit na no s0 (k + j)).2 = none
  | 0 => ⟨rfl, mpick_end h⟩
  | j + 1 => by
    obtain ⟨h1, h2⟩ := mst_stay h j
    have e : mst fit na no s0 (k + (j + 1)) = mst fit na no s0 k := (mst_no (k := k + j) h2).trans h1
    exact ⟨e, mpick_end (by rw [e]; exact h)⟩
theorem mg_end {fit : Nat → Nat → Bool} {na no k : Nat} (h : mA fit na no ≤ (mst fit na no (mA fit na no) k).2) {a : Nat} (ha : k ≤ a) : mg fit na no a = none := by
  have := (mst_stay h (a - k)).2
  rw [show k + (a - k) = a by omega] at this
  exact this
set_option maxHeartbeats 1000000 in
theorem c_match {h : mm_H} {Q : Option Value → mm_H → Prop} {na no : Nat} {fit : Nat → Nat → Bool} (sh : s_h h) (M : cM h na no fit) (G : ∀ i, i < 10 → h_ai h 41 i = -4) (k : ∀ h', fx h h' [(133, 39)] [41, 42] → dn h h' → cG h' na (mg fit na no) → Q none h') : w_c 14 19 [.ref 39] h Q := by
  obtain ⟨hna, hno⟩ := M.1
  have hA : mA fit na no ≤ no := mN_le
  have loop : ∀ m j, j + m = na → ∀ (h1 : mm_H) (free : Int32), fx h h1 [(133, 39)] [41, 42] → dn h h1 → (∀ o, o < no → bt free o = (mst fit na no (mA fit na no) j).1 o) → (∀ a, a < j → h_ai h1 41 a = oN (mg fit na no a)) → (∀ a, j ≤ a → a < 10 → h_ai h1 41 a = -4) → w_p (13 + 1) (2, 4, mc_X2_match) 14 [(0, .ref 39), (1, .int free), (2, .int (nI (mA fit na no - (mst fit na no (mA fit na no) j).2))), (3, .int (nI j))] [] h1 Q := by
    intro m
    induction m with
    | zero =>
      intro j hj h1 free f d hF g1 g2
      have M1 := M.fx f (by decide) (by decide) (by decide)
      refine t_X2_match_14 (f.sh sh (by decide)) _ _ _ (K14 := fun _ _ _ _ => False) (fun _ _ _ _ z => z.elim) ⟨fun _ => k h1 f d (fun a ha => g1 a (by omega)), fun c => absurd ?_ c⟩
      rw [M1.2.1, i_le (by omega) (by omega)]
      omega
    | succ m ih =>
      intro j hj h1 free f d hF g1 g2
      have M1 := M.fx f (by decide) (by decide) (by decide)
      refine t_X2_match_14 (f.sh sh (by decide)) _ _ _ (K14 := fun x1 x2 x3 hh => x2 = nI (mA fit na no - (mst fit na no (mA fit na no) (j + 1)).2) ∧ x3 = nI (j + 1) ∧ fx h hh [(133, 39)] [41, 42] ∧ dn h hh ∧ (∀ o, o < no → bt x1 o = (mst fit na no (mA fit na no) (j + 1)).1 o) ∧ (∀ a, a < j + 1 → h_ai hh 41 a = oN (mg fit na no a)) ∧ (∀ a, j + 1 ≤ a → a < 10 → h_ai hh 41 a = -4)) (fun x1 x2 x3 hh q => ?_) ⟨fun c => ?_, fun _ => ⟨fun c => ?_, fun c => ?_⟩⟩
      · obtain ⟨rfl, rfl, q1, q2, q3, q4, q5⟩ := q
        exact ih (j + 1) (by omega) hh x1 q1 q2 q3 q4 q5
      · rw [M1.2.1, i_le (by omega) (by omega)] at c
        omega
      · have c := (i_le (b := 0) (by omega) (by decide)).mp c
        refine k h1 f d (fun a ha => ?_)
        by_cases z : a < j
        · exact g1 a z
        · rw [g2 a (by omega) (by omega), mg_end (k := j) (by omega) (by omega)]
          rfl
      · have c : ¬ (mA fit na no - (mst fit na no (mA fit na no) j).2) ≤ 0 := fun z => c ((i_le (b := 0) (by omega) (by decide)).mpr z)
        refine c_least (f.sh sh (by decide)) M1 (by omega) (by omega) (by omega) hF (fun h3 f3 d3 => ?_)
        have hv : vp_in (nI j) 10 := vp_in_nI (by omega) (by decide)
        have f4 : fx h h3 [(133, 39)] [41, 42] := f.tr f3 (by decide) (by decide) (by decide) (by decide)
        have ecl : (nI j).toNatClampNeg = j := i_cl (by omega)
        have e0 : mpick fit na no (mA fit na no) j (mst fit na no (mA fit na no) j).1 (mst fit na no (mA fit na no) j).2 = mg fit na no j := rfl
        rw [e0]
        refine ⟨_, rfl, f4.sh sh (by decide), hv, hv, ?_⟩
        rw [ecl, va_up_self]
        have f5 := f4.sA (a := 41) j (oN (mg fit na no j)) (by decide)
        have d5 := (d.tr d3).sA (a := 41) j (oN (mg fit na no j)) (by decide)
        have ea : h_ai h3 41 = h_ai h1 41 := f3.ai 41 (by decide) (by decide)
        have r1 : ∀ a, a < j + 1 → h_ai (h_sA h3 41 j (oN (mg fit na no j))) 41 a = oN (mg fit na no a) := fun a ha => by
          show va_up (h_ai h3 41) j (oN (mg fit na no j)) a = _
          by_cases z : a = j
          · rw [z, va_up_self]
          · rw [va_up_ne _ _ z, ea]; exact g1 a (by omega)
        have r2 : ∀ a, j + 1 ≤ a → a < 10 → h_ai (h_sA h3 41 j (oN (mg fit na no j))) 41 a = -4 := fun a ha hb => by
          show va_up (h_ai h3 41) j (oN (mg fit na no j)) a = _
          rw [va_up_ne _ _ (by omega), ea]; exact g2 a (by omega) hb
        cases e : mg fit na no j with
        | none =>
          rw [e] at f5 d5 r1 r2
          rw [mg_none e]
          exact ⟨fun _ => ⟨rfl, nI_1 j, f5, d5, hF, r1, r2⟩, fun z => absurd rfl z⟩
        | some o =>
          rw [e] at f5 d5 r1 r2
          have ho := mg_lt e
          have hm := mg_lt2 e
          rw [mg_some e]
          refine ⟨fun z => absurd z (oN_ne o (by omega)), fun _ => ⟨hv, ?_, nI_1 j, f5, d5, fun i hi => ?_, r1, r2⟩⟩
          · rw [nI_m1 (by omega)]
            rfl
          · show bt (free &&& (((1 : Int32) <<< (nI o &&& 31)) ^^^ (-1))) i = va_up _ o false i
            rw [bt_and_not _ (by omega) (by omega)]
            by_cases z : i = o
            · rw [z, va_up_self, va_up_self]
            · rw [va_up_ne _ _ z, va_up_ne _ _ z]; exact hF i hi
  refine t_X2_match_0 (D := 13) sh (K14 := fun x1 x2 x3 hh => x2 = nI (mA fit na no) ∧ x3 = nI 0 ∧ fx h hh [(133, 39)] [41, 42] ∧ dn h hh ∧ (∀ o, o < no → bt x1 o = true) ∧ h_ai hh 41 = h_ai h 41) (fun x1 x2 x3 hh q => ?_) ((c_all sh M (fun x hx => ?_)).up (by decide))
  · obtain ⟨rfl, rfl, q1, q2, q3, q4⟩ := q
    exact loop na 0 (by omega) hh x1 q1 q2 q3 (fun a ha => by omega) (fun a _ ha => by rw [q4]; exact G a ha)
  · refine ⟨x, rfl, sh, (c_most (first := 0) sh M (by omega) (fun h3 f3 d3 => ⟨_, rfl, f3.sh sh (by decide), ?_, rfl, f3.tr (fx.rf _ [] []) (by decide) (by decide) (by decide) (by decide), d3, fun o ho => ?_, f3.ai 41 (by decide) (by decide)⟩)).up (by decide)⟩
    · exact congrArg nI (mN_cong (fun _ _ _ _ => rfl) (fun o ho => by show bt x o = true; rw [hx o (by omega)]; exact decide_eq_true ho))
    · rw [hx o (by omega)]; exact decide_eq_true ho
theorem c_mostAll {h : mm_H} {Q : Option Value → mm_H → Prop} {na no : Nat} {fit : Nat → Nat → Bool} (sh : s_h h) (M : cM h na no fit) (k : ∀ h', fx h h' [(133, 39)] [42] → dn h h' → Q (some (.int (nI (mA fit na no)))) h') : w_c 13 15 [.ref 39] h Q := by
  obtain ⟨hna, hno⟩ := M.1
  refine t_X2_mostPairsOfAll_0 (D := 12) sh ((c_all sh M (fun x hx => ?_)).up (by decide))
  refine ⟨x, rfl, sh, c_most (first := 0) sh M (by omega) (fun h3 f3 d3 => ⟨_, rfl, f3.sh sh (by decide), ?_⟩)⟩
  rw [show mN fit 0 na (fun o => bt x o) no = mA fit na no from mN_cong (fun _ _ _ _ => rfl) (fun o ho => by show bt x o = true; rw [hx o (by omega)]; exact decide_eq_true ho)]
  exact k h3 f3 d3
theorem c_offerOf {h : mm_H} {Q : Option Value → mm_H → Prop} {na no : Nat} {fit : Nat → Nat → Bool} {g : Nat → Option Nat} (sh : s_h h) (M : cM h na no fit) (H : cG h na g) {a : Nat} (ha : a < na) (k : Q (some (.int (oN (g a)))) h) : w_c 0 14 [.ref 39, .int (nI a)] h Q := by
  obtain ⟨hna, hno⟩ := M.1
  refine t_X2_offerOf_0 sh _ ⟨fun c => absurd c (nI_pos (by omega)), fun _ => ⟨fun c => ?_, fun _ => ⟨vp_in_nI (by omega) (by decide), ?_⟩⟩⟩
  · rw [M.2.1, i_le (by omega) (by omega)] at c
    omega
  · rw [i_cl (by omega), H a ha]
    exact k
theorem c_addFit {h : mm_H} {Q : Option Value → mm_H → Prop} {na no : Nat} (sh : s_h h) (M : (na ≤ 10 ∧ no ≤ 10) ∧ h_oi h 131 39 = nI na ∧ h_oi h 132 39 = nI no) {a o : Nat} (ha : a < na) (ho : o < no) (k : Q none (h_sA h 40 a (h_ai h 40 a ||| ((1 : Int32) <<< (nI o &&& 31))))) : w_c 0 13 [.ref 39, .int (nI a), .int (nI o)] h Q := by
  obtain ⟨⟨hna, hno⟩, h1, h2⟩ := M
  have hv : vp_in (nI a) 10 := vp_in_nI (by omega) (by decide)
  refine t_X2_addFit_0 sh _ _ ⟨fun c => absurd c (nI_pos (by omega)), fun _ => ⟨fun c => ?_, fun _ => ⟨fun c => absurd c (nI_pos (by omega)), fun _ => ⟨fun c => ?_, fun _ => ⟨hv, hv, ?_⟩⟩⟩⟩⟩
  · rw [h1, i_le (by omega) (by omega)] at c
    omega
  · rw [h2, i_le (by omega) (by omega)] at c
    omega
  · rw [i_cl (by omega)]
    exact k
theorem c_begin {h : mm_H} {Q : Option Value → mm_H → Prop} {na no : Nat} (sh : s_h h) (hna : na ≤ 10) (hno : no ≤ 10) (k : ∀ h', fx h h' [(131, 39), (132, 39)] [40, 41] → dn h h' → h_oi h' 131 39 = nI na → h_oi h' 132 39 = nI no → (∀ i, i < 10 → h_ai h' 40 i = 0) → (∀ i, i < 10 → h_ai h' 41 i = -4) → Q none h') : w_c 1 12 [.ref 39, .int (nI na), .int (nI no)] h Q := by
  have e : ∀ n : Nat, n ≤ 10 → (if (10 : Int32) < nI n then (10 : Int32) else nI n) = nI n := fun n hn => by
    rw [if_neg]
    intro c
    have := (i_lt (a := 10) (by decide) (by omega)).mp c
    omega
  refine t_X2_begin_0 (D := 0) sh _ _ ?_
  rw [e na hna, e no hno]
  have f0 : fx h (h_sI (h_sI h 131 39 (nI na)) 132 39 (nI no)) [(131, 39), (132, 39)] [40, 41] := ((fx.rf _ _ _).sI _ (by decide)).sI _ (by decide)
  have d0 : dn h (h_sI (h_sI h 131 39 (nI na)) 132 39 (nI no)) := ((dn.rf _).sI _ (by decide)).sI _ (by decide)
  refine c_fill_40 (f0.sh sh (by decide)) _ (fun h1 f1 d1 r1 => ?_)
  have f01 : fx h h1 [(131, 39), (132, 39)] [40, 41] := f0.tr f1 (by decide) (by decide) (by decide) (by decide)
  refine ⟨rfl, f01.sh sh (by decide), c_fill_41 (f01.sh sh (by decide)) _ (fun h2 f2 d2 r2 => ?_)⟩
  have f02 : fx h h2 [(131, 39), (132, 39)] [40, 41] := f01.tr f2 (by decide) (by decide) (by decide) (by decide)
  refine ⟨rfl, f02.sh sh (by decide), k h2 f02 ((d0.tr d1).tr d2) ?_ ?_ (fun i hi => by rw [f2.ai 40 (by decide) (by decide)]; exact r1 i hi) r2⟩
  · rw [f2.oi 131 39 (by decide) (by decide), f1.oi 131 39 (by decide) (by decide)]
    rfl
  · rw [f2.oi 132 39 (by decide) (by decide), f1.oi 132 39 (by decide) (by decide)]
    rfl
