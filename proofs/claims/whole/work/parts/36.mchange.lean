set_option maxRecDepth 20000 in
theorem t_X9_change_0 {h : mm_H} {Q : Option Value → mm_H → Prop} (sh : s_h h) (e : Int32) {K2 : Int32 → Int32 → mm_H → Prop} (k2 : ∀ (e : Int32) (x2 : Int32) (h : mm_H), K2 e x2 h → w_p 0 (9, 5, mc_X9_change) 2 [(0, .ref 44), (1, .int e), (2, .int x2)] [] h Q) 
    (F : K2 e e h) :
    w_c 0 138 [.ref 44, .int e] h Q := by
  refine w_ci (M := (9, 5, mc_X9_change)) rfl (Nat.le_of_ble_eq_true rfl) ?_
  show w_p _ _ 0 [(0, .ref 44), (1, .int e)] [] h Q
  refine w_b 2 2 [(2, .int e), (0, .ref 44), (1, .int e)] [] rfl ?_
  refine w_lo [0, 1, 2] [(0, .ref 44), (1, .int e), (2, .int e)] rfl rfl ?_
  exact k2 _ _ _ F

set_option maxRecDepth 20000 in
theorem t_X9_change_2 {h : mm_H} {Q : Option Value → mm_H → Prop} (sh : s_h h) (e : Int32) (x2 : Int32) {K2 : Int32 → Int32 → mm_H → Prop} (k2 : ∀ (e : Int32) (x2 : Int32) (h : mm_H), K2 e x2 h → w_p 0 (9, 5, mc_X9_change) 2 [(0, .ref 44), (1, .int e), (2, .int x2)] [] h Q) 
    (F : ((x2 = (-4) → Q none h) ∧ (¬ (x2 = (-4)) → (vp_in x2 10 ∧ (vp_in (h_ai h 64 x2.toNatClampNeg) 10 ∧ (vp_in (h_ai h 64 x2.toNatClampNeg) 10 ∧ (vp_in x2 10 ∧ K2 e (h_ai h 62 (h_ai h 64 x2.toNatClampNeg).toNatClampNeg) (h_sA (h_sA h 62 ((h_ai h 64 x2.toNatClampNeg).toNatClampNeg) x2) 63 x2.toNatClampNeg (h_ai h 64 x2.toNatClampNeg))))))))) :
    w_p 0 (9, 5, mc_X9_change) 2 [(0, .ref 44), (1, .int e), (2, .int x2)] [] h Q := by
  refine w_b 2 5 [(0, .ref 44), (1, .int e), (2, .int x2)] [.int (-4), .int x2] rfl ?_
  refine w_ic_eq (tgt := 43) (x := x2) (y := (-4)) rfl (by decide) ⟨fun c1 => ?_, fun c1 => ?_⟩
  · have F := F.1 c1
    exact w_vr rfl F
  · have F := F.2 c1
    refine w_b 1 9 [(0, .ref 44), (1, .int e), (2, .int x2)] [.ref 44] rfl ?_
    refine w_getS (b := 64) rfl rfl rfl (kd_44 sh) (or_611_44 sh) ?_
    refine w_b 1 13 [(0, .ref 44), (1, .int e), (2, .int x2)] [.int x2, .ref 64] rfl ?_
    obtain ⟨g2, F⟩ := F
    refine w_iald rfl (kd_64 sh) (by rw [show h_al h 64 = 10 from (al_64 sh)]; exact g2) ?_
    refine w_b 2 16 [(3, .int (h_ai h 64 x2.toNatClampNeg)), (0, .ref 44), (1, .int e), (2, .int x2)] [.ref 44] rfl ?_
    refine w_getS (b := 62) rfl rfl rfl (kd_44 sh) (or_609_44 sh) ?_
    refine w_b 1 20 [(3, .int (h_ai h 64 x2.toNatClampNeg)), (0, .ref 44), (1, .int e), (2, .int x2)] [.int (h_ai h 64 x2.toNatClampNeg), .ref 62] rfl ?_
    obtain ⟨g3, F⟩ := F
    refine w_iald rfl (kd_62 sh) (by rw [show h_al h 62 = 10 from (al_62 sh)]; exact g3) ?_
    refine w_b 2 24 [(4, .int (h_ai h 62 (h_ai h 64 x2.toNatClampNeg).toNatClampNeg)), (3, .int (h_ai h 64 x2.toNatClampNeg)), (0, .ref 44), (1, .int e), (2, .int x2)] [.ref 44] rfl ?_
    refine w_getS (b := 62) rfl rfl rfl (kd_44 sh) (or_609_44 sh) ?_
    refine w_b 2 29 [(4, .int (h_ai h 62 (h_ai h 64 x2.toNatClampNeg).toNatClampNeg)), (3, .int (h_ai h 64 x2.toNatClampNeg)), (0, .ref 44), (1, .int e), (2, .int x2)] [.int x2, .int (h_ai h 64 x2.toNatClampNeg), .ref 62] rfl ?_
    obtain ⟨g4, F⟩ := F
    refine w_iast rfl (kd_62 sh) (by decide) (by rw [show h_al h 62 = 10 from (al_62 sh)]; exact g4) ?_
    refine w_b 1 31 [(4, .int (h_ai h 62 (h_ai h 64 x2.toNatClampNeg).toNatClampNeg)), (3, .int (h_ai h 64 x2.toNatClampNeg)), (0, .ref 44), (1, .int e), (2, .int x2)] [.ref 44] rfl ?_
    refine w_getS (b := 63) rfl rfl rfl (kd_44 sh) (or_610_44 sh) ?_
    refine w_b 2 36 [(4, .int (h_ai h 62 (h_ai h 64 x2.toNatClampNeg).toNatClampNeg)), (3, .int (h_ai h 64 x2.toNatClampNeg)), (0, .ref 44), (1, .int e), (2, .int x2)] [.int (h_ai h 64 x2.toNatClampNeg), .int x2, .ref 63] rfl ?_
    obtain ⟨g5, F⟩ := F
    refine w_iast rfl (kd_63 sh) (by decide) (by rw [show h_al (h_sA h 62 ((h_ai h 64 x2.toNatClampNeg).toNatClampNeg) x2) 63 = 10 from (al_63 sh)]; exact g5) ?_
    refine w_b 3 2 [(2, .int (h_ai h 62 (h_ai h 64 x2.toNatClampNeg).toNatClampNeg)), (4, .int (h_ai h 62 (h_ai h 64 x2.toNatClampNeg).toNatClampNeg)), (3, .int (h_ai h 64 x2.toNatClampNeg)), (0, .ref 44), (1, .int e)] [] rfl ?_
    refine w_lo [0, 1, 2] [(0, .ref 44), (1, .int e), (2, .int (h_ai h 62 (h_ai h 64 x2.toNatClampNeg).toNatClampNeg))] rfl rfl ?_
    exact k2 _ _ _ F

set_option maxRecDepth 20000 in
theorem t_X9_grows_0 {D : Nat} {h : mm_H} {Q : Option Value → mm_H → Prop} (sh : s_h h) (start : Int32) (out : Int32) {K2 : Int32 → Int32 → Int32 → mm_H → Prop} (k2 : ∀ (start : Int32) (out : Int32) (x3 : Int32) (h : mm_H), K2 start out x3 h → w_p (D + 1) (9, 7, mc_X9_grows) 2 [(0, .ref 44), (1, .int start), (2, .int out), (3, .int x3)] [] h Q) 
    (F : K2 start out 0 h) :
    w_c (D + 1) 137 [.ref 44, .int start, .int out] h Q := by
  refine w_ci (M := (9, 7, mc_X9_grows)) rfl (Nat.le_of_ble_eq_true rfl) ?_
  show w_p _ _ 0 [(0, .ref 44), (1, .int start), (2, .int out)] [] h Q
  refine w_b 2 2 [(3, .int 0), (0, .ref 44), (1, .int start), (2, .int out)] [] rfl ?_
  refine w_lo [0, 1, 2, 3] [(0, .ref 44), (1, .int start), (2, .int out), (3, .int 0)] rfl rfl ?_
  exact k2 _ _ _ _ F

set_option maxRecDepth 20000 in
theorem t_X9_grows_2 {D : Nat} {h : mm_H} {Q : Option Value → mm_H → Prop} (sh : s_h h) (start : Int32) (out : Int32) (x3 : Int32) {K2 : Int32 → Int32 → Int32 → mm_H → Prop} (k2 : ∀ (start : Int32) (out : Int32) (x3 : Int32) (h : mm_H), K2 start out x3 h → w_p (D + 1) (9, 7, mc_X9_grows) 2 [(0, .ref 44), (1, .int start), (2, .int out), (3, .int x3)] [] h Q) {K36 : Int32 → Int32 → Int32 → Int32 → mm_H → Prop} (k36 : ∀ (start : Int32) (out : Int32) (x3 : Int32) (x4 : Int32) (h : mm_H), K36 start out x3 x4 h → w_p (D + 1) (9, 7, mc_X9_grows) 36 [(0, .ref 44), (1, .int start), (2, .int out), (3, .int x3), (4, .int x4)] [] h Q) 
    (F : (((h_oi h 604 44) ≤ x3 → (vp_in 0 20 ∧ K36 start out 1 0 (h_sA h 65 ((0 : Int32).toNatClampNeg) start))) ∧ (¬ ((h_oi h 604 44) ≤ x3) → (vp_in x3 10 ∧ K2 start out (x3 + 1) (h_sA h 64 x3.toNatClampNeg (-4)))))) :
    w_p (D + 1) (9, 7, mc_X9_grows) 2 [(0, .ref 44), (1, .int start), (2, .int out), (3, .int x3)] [] h Q := by
  refine w_b 2 4 [(0, .ref 44), (1, .int start), (2, .int out), (3, .int x3)] [.ref 44, .int x3] rfl ?_
  refine w_get (g := 604) rfl rfl rfl (kd_44 sh) ?_
  refine w_ic_ge (tgt := 24) (x := x3) (y := h_oi h 604 44) rfl (by decide) ⟨fun c1 => ?_, fun c1 => ?_⟩
  · have F := F.1 c1
    refine w_b 3 27 [(3, .int 1), (0, .ref 44), (1, .int start), (2, .int out)] [.ref 44] rfl ?_
    refine w_getS (b := 65) rfl rfl rfl (kd_44 sh) (or_612_44 sh) ?_
    refine w_b 2 32 [(3, .int 1), (0, .ref 44), (1, .int start), (2, .int out)] [.int start, .int 0, .ref 65] rfl ?_
    obtain ⟨g2, F⟩ := F
    refine w_iast rfl (kd_65 sh) (by decide) (by rw [show h_al h 65 = 20 from (al_65 sh)]; exact g2) ?_
    refine w_b 2 36 [(4, .int 0), (3, .int 1), (0, .ref 44), (1, .int start), (2, .int out)] [] rfl ?_
    refine w_lo [0, 1, 2, 3, 4] [(0, .ref 44), (1, .int start), (2, .int out), (3, .int 1), (4, .int 0)] rfl rfl ?_
    exact k36 _ _ _ _ _ F
  · have F := F.2 c1
    refine w_b 1 11 [(0, .ref 44), (1, .int start), (2, .int out), (3, .int x3)] [.ref 44] rfl ?_
    refine w_getS (b := 64) rfl rfl rfl (kd_44 sh) (or_611_44 sh) ?_
    refine w_b 2 17 [(0, .ref 44), (1, .int start), (2, .int out), (3, .int x3)] [.int (-4), .int x3, .ref 64] rfl ?_
    obtain ⟨g3, F⟩ := F
    refine w_iast rfl (kd_64 sh) (by decide) (by rw [show h_al h 64 = 10 from (al_64 sh)]; exact g3) ?_
    refine w_b 2 2 [(3, .int (x3 + 1)), (0, .ref 44), (1, .int start), (2, .int out)] [] rfl ?_
    refine w_lo [0, 1, 2, 3] [(0, .ref 44), (1, .int start), (2, .int out), (3, .int (x3 + 1))] rfl rfl ?_
    exact k2 _ _ _ _ F

set_option maxRecDepth 20000 in
theorem t_X9_grows_36 {D : Nat} {h : mm_H} {Q : Option Value → mm_H → Prop} (sh : s_h h) (start : Int32) (out : Int32) (x3 : Int32) (x4 : Int32) {K54 : Int32 → Int32 → Int32 → Int32 → Int32 → Int32 → mm_H → Prop} (k54 : ∀ (start : Int32) (out : Int32) (x3 : Int32) (x4 : Int32) (x5 : Int32) (x6 : Int32) (h : mm_H), K54 start out x3 x4 x5 x6 h → w_p (D + 1) (9, 7, mc_X9_grows) 54 [(0, .ref 44), (1, .int start), (2, .int out), (3, .int x3), (4, .int x4), (5, .int x5), (6, .int x6)] [] h Q) 
    (F : ((x3 ≤ x4 → Q (some (.int 0)) h) ∧ (¬ (x3 ≤ x4) → (vp_in x4 20 ∧ K54 start out x3 x4 (h_ai h 65 x4.toNatClampNeg) 0 h)))) :
    w_p (D + 1) (9, 7, mc_X9_grows) 36 [(0, .ref 44), (1, .int start), (2, .int out), (3, .int x3), (4, .int x4)] [] h Q := by
  refine w_b 2 39 [(0, .ref 44), (1, .int start), (2, .int out), (3, .int x3), (4, .int x4)] [.int x3, .int x4] rfl ?_
  refine w_ic_ge (tgt := 157) (x := x4) (y := x3) rfl (by decide) ⟨fun c1 => ?_, fun c1 => ?_⟩
  · have F := F.1 c1
    refine w_b 1 158 [(0, .ref 44), (1, .int start), (2, .int out), (3, .int x3), (4, .int x4)] [.int 0] rfl ?_
    exact w_br rfl (by decide) F
  · have F := F.2 c1
    refine w_b 1 43 [(0, .ref 44), (1, .int start), (2, .int out), (3, .int x3), (4, .int x4)] [.ref 44] rfl ?_
    refine w_getS (b := 65) rfl rfl rfl (kd_44 sh) (or_612_44 sh) ?_
    refine w_b 1 48 [(0, .ref 44), (1, .int start), (2, .int out), (3, .int x3), (4, .int x4)] [.int x4, .ref 65] rfl ?_
    obtain ⟨g2, F⟩ := F
    refine w_iald rfl (kd_65 sh) (by rw [show h_al h 65 = 20 from (al_65 sh)]; exact g2) ?_
    refine w_b 3 54 [(6, .int 0), (5, .int (h_ai h 65 x4.toNatClampNeg)), (0, .ref 44), (1, .int start), (2, .int out), (3, .int x3), (4, .int x4)] [] rfl ?_
    refine w_lo [0, 1, 2, 3, 4, 5, 6] [(0, .ref 44), (1, .int start), (2, .int out), (3, .int x3), (4, .int x4), (5, .int (h_ai h 65 x4.toNatClampNeg)), (6, .int 0)] rfl rfl ?_
    exact k54 _ _ _ _ _ _ _ F

set_option maxRecDepth 20000 in
theorem t_X9_grows_54 {D : Nat} {h : mm_H} {Q : Option Value → mm_H → Prop} (sh : s_h h) (start : Int32) (out : Int32) (x3 : Int32) (x4 : Int32) (x5 : Int32) (x6 : Int32) {K36 : Int32 → Int32 → Int32 → Int32 → mm_H → Prop} (k36 : ∀ (start : Int32) (out : Int32) (x3 : Int32) (x4 : Int32) (h : mm_H), K36 start out x3 x4 h → w_p (D + 1) (9, 7, mc_X9_grows) 36 [(0, .ref 44), (1, .int start), (2, .int out), (3, .int x3), (4, .int x4)] [] h Q) {K54 : Int32 → Int32 → Int32 → Int32 → Int32 → Int32 → mm_H → Prop} (k54 : ∀ (start : Int32) (out : Int32) (x3 : Int32) (x4 : Int32) (x5 : Int32) (x6 : Int32) (h : mm_H), K54 start out x3 x4 x5 x6 h → w_p (D + 1) (9, 7, mc_X9_grows) 54 [(0, .ref 44), (1, .int start), (2, .int out), (3, .int x3), (4, .int x4), (5, .int x5), (6, .int x6)] [] h Q) 
    (F : (((h_oi h 604 44) ≤ x6 → K36 start out x3 (x4 + 1) h) ∧ (¬ ((h_oi h 604 44) ≤ x6) → (vp_in (((10 : Int32) * x5) + x6) 100 ∧ (((h_ai h 61 (((10 : Int32) * x5) + x6).toNatClampNeg) = 0 → K54 start out x3 x4 x5 (x6 + 1) h) ∧ (¬ ((h_ai h 61 (((10 : Int32) * x5) + x6).toNatClampNeg) = 0) → (vp_in x6 10 ∧ ((¬ (h_ai h 64 x6.toNatClampNeg) = (-4) → K54 start out x3 x4 x5 (x6 + 1) h) ∧ ((h_ai h 64 x6.toNatClampNeg) = (-4) → ((¬ ((out >>> (x6 &&& 31)) &&& (1 : Int32)) = 0 → K54 start out x3 x4 x5 (x6 + 1) h) ∧ (((out >>> (x6 &&& 31)) &&& (1 : Int32)) = 0 → (vp_in x6 10 ∧ (vp_in x6 10 ∧ ((¬ (h_ai h 63 x6.toNatClampNeg) = (-4) → (vp_in x6 10 ∧ (vp_in x3 20 ∧ K54 start out (x3 + 1) x4 x5 (x6 + 1) (h_sA (h_sA h 64 x6.toNatClampNeg x5) 65 x3.toNatClampNeg (h_ai h 63 x6.toNatClampNeg))))) ∧ ((h_ai h 63 x6.toNatClampNeg) = (-4) → w_c D 138 [.ref 44, .int x6] (h_sA h 64 x6.toNatClampNeg x5) (fun r h12 => r = none ∧ s_h h12 ∧ Q (some (.int 1)) h12)))))))))))))))) :
    w_p (D + 1) (9, 7, mc_X9_grows) 54 [(0, .ref 44), (1, .int start), (2, .int out), (3, .int x3), (4, .int x4), (5, .int x5), (6, .int x6)] [] h Q := by
  refine w_b 2 57 [(0, .ref 44), (1, .int start), (2, .int out), (3, .int x3), (4, .int x4), (5, .int x5), (6, .int x6)] [.ref 44, .int x6] rfl ?_
  refine w_get (g := 604) rfl rfl rfl (kd_44 sh) ?_
  refine w_ic_ge (tgt := 151) (x := x6) (y := h_oi h 604 44) rfl (by decide) ⟨fun c1 => ?_, fun c1 => ?_⟩
  · have F := F.1 c1
    refine w_b 2 36 [(4, .int (x4 + 1)), (0, .ref 44), (1, .int start), (2, .int out), (3, .int x3), (5, .int x5), (6, .int x6)] [] rfl ?_
    refine w_lo [0, 1, 2, 3, 4] [(0, .ref 44), (1, .int start), (2, .int out), (3, .int x3), (4, .int (x4 + 1))] rfl rfl ?_
    exact k36 _ _ _ _ _ F
  · have F := F.2 c1
    refine w_b 1 64 [(0, .ref 44), (1, .int start), (2, .int out), (3, .int x3), (4, .int x4), (5, .int x5), (6, .int x6)] [.ref 44] rfl ?_
    refine w_getS (b := 61) rfl rfl rfl (kd_44 sh) (or_608_44 sh) ?_
    refine w_b 5 75 [(0, .ref 44), (1, .int start), (2, .int out), (3, .int x3), (4, .int x4), (5, .int x5), (6, .int x6)] [.int (((10 : Int32) * x5) + x6), .ref 61] rfl ?_
    obtain ⟨g2, F⟩ := F
    refine w_bald rfl (Or.inr (kd_61 sh)) (by rw [show h_al h 61 = 100 from (al_61 sh)]; exact g2) ?_
    refine w_if_eq (tgt := 145) (x := h_ai h 61 (((10 : Int32) * x5) + x6).toNatClampNeg) rfl (by decide) ⟨fun c3 => ?_, fun c3 => ?_⟩
    · have F := F.1 c3
      refine w_b 2 54 [(6, .int (x6 + 1)), (0, .ref 44), (1, .int start), (2, .int out), (3, .int x3), (4, .int x4), (5, .int x5)] [] rfl ?_
      refine w_lo [0, 1, 2, 3, 4, 5, 6] [(0, .ref 44), (1, .int start), (2, .int out), (3, .int x3), (4, .int x4), (5, .int x5), (6, .int (x6 + 1))] rfl rfl ?_
      exact k54 _ _ _ _ _ _ _ F
    · have F := F.2 c3
      refine w_b 1 80 [(0, .ref 44), (1, .int start), (2, .int out), (3, .int x3), (4, .int x4), (5, .int x5), (6, .int x6)] [.ref 44] rfl ?_
      refine w_getS (b := 64) rfl rfl rfl (kd_44 sh) (or_611_44 sh) ?_
      refine w_b 1 85 [(0, .ref 44), (1, .int start), (2, .int out), (3, .int x3), (4, .int x4), (5, .int x5), (6, .int x6)] [.int x6, .ref 64] rfl ?_
      obtain ⟨g4, F⟩ := F
      refine w_iald rfl (kd_64 sh) (by rw [show h_al h 64 = 10 from (al_64 sh)]; exact g4) ?_
      refine w_b 1 88 [(0, .ref 44), (1, .int start), (2, .int out), (3, .int x3), (4, .int x4), (5, .int x5), (6, .int x6)] [.int (-4), .int (h_ai h 64 x6.toNatClampNeg)] rfl ?_
      refine w_ic_ne (tgt := 145) (x := h_ai h 64 x6.toNatClampNeg) (y := (-4)) rfl (by decide) ⟨fun c5 => ?_, fun c5 => ?_⟩
      · have F := F.1 c5
        refine w_b 2 54 [(6, .int (x6 + 1)), (0, .ref 44), (1, .int start), (2, .int out), (3, .int x3), (4, .int x4), (5, .int x5)] [] rfl ?_
        refine w_lo [0, 1, 2, 3, 4, 5, 6] [(0, .ref 44), (1, .int start), (2, .int out), (3, .int x3), (4, .int x4), (5, .int x5), (6, .int (x6 + 1))] rfl rfl ?_
        exact k54 _ _ _ _ _ _ _ F
      · have F := F.2 (Decidable.not_not.mp c5)
        refine w_b 5 97 [(0, .ref 44), (1, .int start), (2, .int out), (3, .int x3), (4, .int x4), (5, .int x5), (6, .int x6)] [.int ((out >>> (x6 &&& 31)) &&& (1 : Int32))] rfl ?_
        refine w_if_ne (tgt := 145) (x := (out >>> (x6 &&& 31)) &&& (1 : Int32)) rfl (by decide) ⟨fun c6 => ?_, fun c6 => ?_⟩
        · have F := F.1 c6
          refine w_b 2 54 [(6, .int (x6 + 1)), (0, .ref 44), (1, .int start), (2, .int out), (3, .int x3), (4, .int x4), (5, .int x5)] [] rfl ?_
          refine w_lo [0, 1, 2, 3, 4, 5, 6] [(0, .ref 44), (1, .int start), (2, .int out), (3, .int x3), (4, .int x4), (5, .int x5), (6, .int (x6 + 1))] rfl rfl ?_
          exact k54 _ _ _ _ _ _ _ F
        · have F := F.2 (Decidable.not_not.mp c6)
          refine w_b 1 101 [(0, .ref 44), (1, .int start), (2, .int out), (3, .int x3), (4, .int x4), (5, .int x5), (6, .int x6)] [.ref 44] rfl ?_
          refine w_getS (b := 64) rfl rfl rfl (kd_44 sh) (or_611_44 sh) ?_
          refine w_b 2 108 [(0, .ref 44), (1, .int start), (2, .int out), (3, .int x3), (4, .int x4), (5, .int x5), (6, .int x6)] [.int x5, .int x6, .ref 64] rfl ?_
          obtain ⟨g7, F⟩ := F
          refine w_iast rfl (kd_64 sh) (by decide) (by rw [show h_al h 64 = 10 from (al_64 sh)]; exact g7) ?_
          refine w_b 1 110 [(0, .ref 44), (1, .int start), (2, .int out), (3, .int x3), (4, .int x4), (5, .int x5), (6, .int x6)] [.ref 44] rfl ?_
          refine w_getS (b := 63) rfl rfl rfl (kd_44 sh) (or_610_44 sh) ?_
          refine w_b 1 115 [(0, .ref 44), (1, .int start), (2, .int out), (3, .int x3), (4, .int x4), (5, .int x5), (6, .int x6)] [.int x6, .ref 63] rfl ?_
          obtain ⟨g8, F⟩ := F
          refine w_iald rfl (kd_63 sh) (by rw [show h_al (h_sA h 64 x6.toNatClampNeg x5) 63 = 10 from (al_63 sh)]; exact g8) ?_
          refine w_b 1 118 [(0, .ref 44), (1, .int start), (2, .int out), (3, .int x3), (4, .int x4), (5, .int x5), (6, .int x6)] [.int (-4), .int (h_ai h 63 x6.toNatClampNeg)] rfl ?_
          refine w_ic_ne (tgt := 129) (x := h_ai h 63 x6.toNatClampNeg) (y := (-4)) rfl (by decide) ⟨fun c9 => ?_, fun c9 => ?_⟩
          · have F := F.1 c9
            refine w_b 1 130 [(0, .ref 44), (1, .int start), (2, .int out), (3, .int x3), (4, .int x4), (5, .int x5), (6, .int x6)] [.ref 44] rfl ?_
            refine w_getS (b := 65) rfl rfl rfl (kd_44 sh) (or_612_44 sh) ?_
            refine w_b 2 135 [(0, .ref 44), (1, .int start), (2, .int out), (3, .int x3), (4, .int x4), (5, .int x5), (6, .int x6)] [.ref 44, .int x3, .ref 65] rfl ?_
            refine w_getS (b := 63) rfl rfl rfl (kd_44 sh) (or_610_44 sh) ?_
            refine w_b 1 140 [(0, .ref 44), (1, .int start), (2, .int out), (3, .int x3), (4, .int x4), (5, .int x5), (6, .int x6)] [.int x6, .ref 63, .int x3, .ref 65] rfl ?_
            obtain ⟨g10, F⟩ := F
            refine w_iald rfl (kd_63 sh) (by rw [show h_al (h_sA h 64 x6.toNatClampNeg x5) 63 = 10 from (al_63 sh)]; exact g10) ?_
            obtain ⟨g11, F⟩ := F
            refine w_iast rfl (kd_65 sh) (by decide) (by rw [show h_al (h_sA h 64 x6.toNatClampNeg x5) 65 = 20 from (al_65 sh)]; exact g11) ?_
            refine w_b 3 54 [(6, .int (x6 + 1)), (3, .int (x3 + 1)), (0, .ref 44), (1, .int start), (2, .int out), (4, .int x4), (5, .int x5)] [] rfl ?_
            refine w_lo [0, 1, 2, 3, 4, 5, 6] [(0, .ref 44), (1, .int start), (2, .int out), (3, .int (x3 + 1)), (4, .int x4), (5, .int x5), (6, .int (x6 + 1))] rfl rfl ?_
            exact k54 _ _ _ _ _ _ _ F
          · have F := F.2 (Decidable.not_not.mp c9)
            refine w_b 2 124 [(0, .ref 44), (1, .int start), (2, .int out), (3, .int x3), (4, .int x4), (5, .int x5), (6, .int x6)] [.int x6, .ref 44] rfl ?_
            refine w_cv (As := [.int x6]) (b := 44) (rest := []) rfl rfl rfl (Nat.le_of_ble_eq_true rfl) (kd_44 sh) (fun z => absurd z (by decide)) (dc := D) (by omega) (F.mono (fun r h12 F => ?_))
            obtain ⟨rfl, sh12, F⟩ := F
            show w_p _ _ 127 [(0, .ref 44), (1, .int start), (2, .int out), (3, .int x3), (4, .int x4), (5, .int x5), (6, .int x6)] [] h12 _
            refine w_b 1 128 [(0, .ref 44), (1, .int start), (2, .int out), (3, .int x3), (4, .int x4), (5, .int x5), (6, .int x6)] [.int 1] rfl ?_
            exact w_br rfl (by decide) F

/-! THE REFERENCE'S MATCHES -/
theorem e10 (a o : Nat) : (10 : Int32) * nI a + nI o = nI (10 * a + o) := by rw [show (10 : Int32) = nI 10 from rfl, pk_mul, nI_add]
def mC (h : mm_H) (na no : Nat) : Prop := (na ≤ 10 ∧ no ≤ 10) ∧ h_oi h 600 44 = nI na ∧ h_oi h 604 44 = nI no
def mF (h : mm_H) (na no : Nat) (fit : Nat → Nat → Bool) : Prop := ∀ a, a < na → ∀ o, o < no → h_ai h 61 (10 * a + o) = if fit a o then 1 else 0
def mTk (h : mm_H) (no : Nat) (t : Nat → Option Nat) : Prop := ∀ o, o < no → h_ai h 63 o = oN (t o)
def mMt (h : mm_H) (na : Nat) (w : Nat → Option Nat) : Prop := ∀ a, a < na → h_ai h 62 a = oN (w a)
def mCb (h : mm_H) (no : Nat) (cb : Nat → Option Nat) : Prop := ∀ o, o < no → h_ai h 64 o = oN (cb o)
def mLn (h : mm_H) (n : Nat) (ln : Nat → Nat) : Prop := ∀ i, i < n → h_ai h 65 i = nI (ln i)
theorem mC.fx {h h' : mm_H} {gs : List (Nat × Nat)} {as : List Nat} {na no : Nat} (H : mC h na no) (f : fx h h' gs as) (n1 : (600, 44) ∉ gs) (n2 : (604, 44) ∉ gs) : mC h' na no := by
  unfold mC at H ⊢
  rw [f.oi 600 44 (by decide) n1, f.oi 604 44 (by decide) n2]
  exact H
theorem mF.fx {h h' : mm_H} {gs : List (Nat × Nat)} {as : List Nat} {na no : Nat} {fit : Nat → Nat → Bool} (H : mF h na no fit) (f : fx h h' gs as) (n1 : 61 ∉ as) : mF h' na no fit := by
  unfold mF at H ⊢
  rw [f.ai 61 (by decide) n1]
  exact H
theorem mTk.fx {h h' : mm_H} {gs : List (Nat × Nat)} {as : List Nat} {no : Nat} {t : Nat → Option Nat} (H : mTk h no t) (f : fx h h' gs as) (n1 : 63 ∉ as) : mTk h' no t := by
  unfold mTk at H ⊢
  rw [f.ai 63 (by decide) n1]
  exact H
theorem mMt.fx {h h' : mm_H} {gs : List (Nat × Nat)} {as : List Nat} {na : Nat} {w : Nat → Option Nat} (H : mMt h na w) (f : fx h h' gs as) (n1 : 62 ∉ as) : mMt h' na w := by
  unfold mMt at H ⊢
  rw [f.ai 62 (by decide) n1]
  exact H
theorem mCb.fx {h h' : mm_H} {gs : List (Nat × Nat)} {as : List Nat} {no : Nat} {t : Nat → Option Nat} (H : mCb h no t) (f : fx h h' gs as) (n1 : 64 ∉ as) : mCb h' no t := by
  unfold mCb at H ⊢
  rw [f.ai 64 (by decide) n1]
  exact H
/-- matched and taken say the same -/
def cns (na no : Nat) (w t : Nat → Option Nat) : Prop := (∀ a, a < na → ∀ o, w a = some o → o < no ∧ t o = some a) ∧ ∀ o, o < no → ∀ a, t o = some a → a < na ∧ w a = some o
/-- one step along the way back: ask a gives up what it has and takes o -/
theorem cns_step {na no k lo : Nat} {fit : Nat → Nat → Bool} {F : Nat → Bool} {w t : Nat → Option Nat} {o o2 a : Nat} (hm : mtc fit lo k F no t) (hc : cns na no w t) (ho : o < no) (e0 : t o = none) (ha : a < na) (hw : w a = some o2) (hF : F o = true) (hf : fit a o = true) : mtc fit lo k F no (va_up (va_up t o (some a)) o2 none) ∧ cns na no (va_up w a (some o)) (va_up (va_up t o (some a)) o2 none) ∧ msz no (va_up (va_up t o (some a)) o2 none) = msz no t ∧ o2 < no ∧ o2 ≠ o := by
  obtain ⟨ho2, e2⟩ := hc.1 a ha o2 hw
  have hne : o2 ≠ o := fun z => by rw [z, e0] at e2; cases e2
  have key : ∀ i, va_up (va_up t o (some a)) o2 none i = if i = o2 then none else if i = o then some a else t i := fun i => by
    by_cases z : i = o2
    · rw [z, va_up_self, if_pos rfl]
    · rw [va_up_ne _ _ z, if_neg z]
      by_cases y : i = o
      · rw [y, va_up_self, if_pos rfl]
      · rw [va_up_ne _ _ y, if_neg y]
  have hr := (hm o2 ho2 a e2).1
  refine ⟨fun i hi b e => ?_, ⟨fun b hb i e => ?_, fun i hi b e => ?_⟩, ?_, ho2, hne⟩
  · rw [key] at e
    by_cases z : i = o2
    · rw [if_pos z] at e; cases e
    · rw [if_neg z] at e
      have uq : ∀ j, j < no → va_up (va_up t o (some a)) o2 none j = some b → j = i := fun j hj ej => by
        rw [key] at ej
        by_cases z3 : j = o2
        · rw [if_pos z3] at ej; cases ej
        · rw [if_neg z3] at ej
          by_cases y : i = o
          · rw [if_pos y] at e
            cases e
            by_cases y3 : j = o
            · rw [y3, y]
            · rw [if_neg y3] at ej
              exact absurd ((hm o2 ho2 a e2).2.2.2 j hj ej) z3
          · rw [if_neg y] at e
            by_cases y3 : j = o
            · rw [if_pos y3] at ej
              cases ej
              exact absurd ((hm o2 ho2 a e2).2.2.2 i hi e) z
            · rw [if_neg y3] at ej
              exact (hm i hi b e).2.2.2 j hj ej
      by_cases y : i = o
      · rw [if_pos y] at e
        cases e
        rw [y]
        rw [y] at uq
        exact ⟨hr, hF, hf, uq⟩
      · rw [if_neg y] at e
        obtain ⟨p1, p2, p3, _⟩ := hm i hi b e
        exact ⟨p1, p2, p3, uq⟩
  · by_cases z : b = a
    · rw [z, va_up_self] at e
      cases e
      exact ⟨ho, by rw [key, if_neg (fun y => hne y.symm), if_pos rfl, z]⟩
    · rw [va_up_ne _ _ z] at e
      obtain ⟨p1, p2⟩ := hc.1 b hb i e
      refine ⟨p1, ?_⟩
      rw [key, if_neg, if_neg]
      · exact p2
      · intro y; rw [y, e0] at p2; cases p2
      · intro y; rw [y, e2] at p2; cases p2; exact z rfl
  · rw [key] at e
    by_cases z : i = o2
    · rw [if_pos z] at e; cases e
    · rw [if_neg z] at e
      by_cases y : i = o
      · rw [if_pos y] at e
        cases e
        rw [va_up_self, y]
        exact ⟨ha, rfl⟩
      · rw [if_neg y] at e
        obtain ⟨p1, p2⟩ := hc.2 i hi b e
        refine ⟨p1, ?_⟩
        rw [va_up_ne]
        · exact p2
        · intro x
          rw [x, hw] at p2
          cases p2
          exact z rfl
  · unfold msz
    have c1 := mct_up (p := fun i => (t i).isSome) (q := fun i => (va_up t o (some a) i).isSome) ho (fun i _ z => by show (va_up t o (some a) i).isSome = _; rw [va_up_ne _ _ z])
    have c2 := mct_up (p := fun i => (va_up t o (some a) i).isSome) (q := fun i => (va_up (va_up t o (some a)) o2 none i).isSome) ho2 (fun i _ z => by show (va_up (va_up t o (some a)) o2 none i).isSome = _; rw [va_up_ne _ _ z])
    rw [if_neg (by show ¬ (t o).isSome = true; rw [e0]; decide), if_pos (by show (va_up t o (some a) o).isSome = true; rw [va_up_self]; rfl)] at c1
    rw [if_pos (by show (va_up t o (some a) o2).isSome = true; rw [va_up_ne _ _ hne, e2]; rfl), if_neg (by show ¬ (va_up (va_up t o (some a)) o2 none o2).isSome = true; rw [va_up_self]; decide)] at c2
    omega
theorem cns_last {na no k lo : Nat} {fit : Nat → Nat → Bool} {F : Nat → Bool} {w t : Nat → Option Nat} {o : Nat} (hm : mtc fit lo k F no t) (hc : cns na no w t) (ho : o < no) (e0 : t o = none) (hk : k < na) (hlo : lo ≤ k) (hF : F o = true) (hf : fit k o = true) : mtc fit lo (k + 1) F no (va_up t o (some k)) ∧ cns na no (va_up w k (some o)) (va_up t o (some k)) ∧ msz no (va_up t o (some k)) = msz no t + 1 := by
  refine ⟨fun i hi b e => ?_, ⟨fun b hb i e => ?_, fun i hi b e => ?_⟩, ?_⟩
  · by_cases z : i = o
    · rw [z, va_up_self] at e
      cases e
      rw [z]
      refine ⟨⟨hlo, by omega⟩, hF, hf, fun j hj ej => ?_⟩
      by_cases y : j = o
      · exact y
      · rw [va_up_ne _ _ y] at ej
        have := (hm j hj k ej).1
        omega
    · rw [va_up_ne _ _ z] at e
      obtain ⟨p1, p2, p3, p4⟩ := hm i hi b e
      refine ⟨⟨p1.1, by omega⟩, p2, p3, fun j hj ej => ?_⟩
      by_cases y : j = o
      · rw [y, va_up_self] at ej
        cases ej
        omega
      · rw [va_up_ne _ _ y] at ej
        exact p4 j hj ej
  · by_cases z : b = k
    · rw [z, va_up_self] at e
      cases e
      rw [va_up_self, z]
      exact ⟨ho, rfl⟩
    · rw [va_up_ne _ _ z] at e
      obtain ⟨p1, p2⟩ := hc.1 b hb i e
      refine ⟨p1, ?_⟩
      rw [va_up_ne]
      · exact p2
      · intro y; rw [y, e0] at p2; cases p2
  · by_cases z : i = o
    · rw [z, va_up_self] at e
      cases e
      rw [va_up_self, z]
      exact ⟨hk, rfl⟩
    · rw [va_up_ne _ _ z] at e
      obtain ⟨p1, p2⟩ := hc.2 i hi b e
      have := (hm i hi b e).1
      exact ⟨p1, by rw [va_up_ne _ _ (by omega)]; exact p2⟩
  · unfold msz
    have c1 := mct_up (p := fun i => (t i).isSome) (q := fun i => (va_up t o (some k) i).isSome) ho (fun i _ z => by show (va_up t o (some k) i).isSome = _; rw [va_up_ne _ _ z])
    rw [if_neg (by show ¬ (t o).isSome = true; rw [e0]; decide), if_pos (by show (va_up t o (some k) o).isSome = true; rw [va_up_self]; rfl)] at c1
    omega
/-- the offers that came by asks: their times, and what they came by -/
def cby (fit : Nat → Nat → Bool) (F : Nat → Bool) (no k : Nat) (t cb : Nat → Option Nat) (ti : Nat → Nat) (o : Nat) : Prop := ∀ a, cb o = some a → F o = true ∧ fit a o = true ∧ a ≤ k ∧ (a = k ∨ ∃ o2, o2 < no ∧ (cb o2).isSome = true ∧ t o2 = some a ∧ ti o2 < ti o)
set_option maxHeartbeats 1000000 in
theorem m_change {na no lo k s : Nat} {fit : Nat → Nat → Bool} {F : Nat → Bool} {t cb : Nat → Option Nat} {ti : Nat → Nat} (hna : na ≤ 10) (hno : no ≤ 10) (hk : k < na) (hlo : lo ≤ k) (hcb : ∀ o, o < no → cby fit F no k t cb ti o) (e : Int32) : ∀ (B : Nat) {h : mm_H} {Q : Option Value → mm_H → Prop} {tt w : Nat → Option Nat} {o : Nat}, ti o ≤ B → s_h h → mCb h no cb → mMt h na w → (∀ i, i < no → i ≠ o → h_ai h 63 i = oN (tt i)) → mtc fit lo k F no tt → msz no tt = s → cns na no w tt → o < no → tt o = none → (cb o).isSome = true → (∀ i, i < no → (cb i).isSome = true → ti i < ti o → tt i = t i) →
    (∀ h' t2 w2, fx h h' [] [62, 63] → dn h h' → mTk h' no t2 → mMt h' na w2 → cns na no w2 t2 → mtc fit lo (k + 1) F no t2 → msz no t2 = s + 1 → Q none h') → w_p 0 (9, 5, mc_X9_change) 2 [(0, .ref 44), (1, .int e), (2, .int (nI o))] [] h Q := by
  intro B
  induction B with
  | zero => 
    intro h Q tt w o hB sh Cb Mt Tk hm hs hc ho e0 hco hag kk
    cases eo : cb o with
    | none => rw [eo] at hco; cases hco
    | some a =>
      obtain ⟨p1, p2, p3, p4⟩ := hcb o ho a eo
      have ha : a = k := p4.elim (fun z => z) (fun ⟨o2, _, _, _, z⟩ => by omega)
      subst ha
      have hwk : w a = none := by
        cases ew : w a with
        | none => rfl
        | some o2 =>
          obtain ⟨q1, q2⟩ := hc.1 a hk o2 ew
          have := (hm o2 q1 a q2).1
          omega
      have hv : vp_in (nI o) 10 := vp_in_nI (by omega) (by decide)
      have hva : vp_in (nI a) 10 := vp_in_nI (by omega) (by decide)
      have ecl : (nI o).toNatClampNeg = o := i_cl (by omega)
      have ecb : h_ai h 64 o = nI a := by rw [Cb o ho, eo]; rfl
      have ecla : (nI a).toNatClampNeg = a := i_cl (by omega)
      obtain ⟨l1, l2, l3⟩ := cns_last hm hc ho e0 hk hlo p1 p2
      have emt : h_ai h 62 a = -4 := by rw [Mt a hk, hwk]; rfl
      refine t_X9_change_2 sh _ _ (K2 := fun x y hh => x = e ∧ y = -4 ∧ hh = h_sA (h_sA h 62 a (nI o)) 63 o (nI a)) (fun x y hh q => ?_) ⟨fun z => absurd z (oN_ne o (by omega)), fun _ => ?_⟩
      · obtain ⟨rfl, rfl, rfl⟩ := q
        have f1 : fx h (h_sA (h_sA h 62 a (nI o)) 63 o (nI a)) [] [62, 63] := ((fx.rf _ _ _).sA _ _ (by decide)).sA _ _ (by decide)
        refine t_X9_change_2 (f1.sh sh (by decide)) _ _ (K2 := fun _ _ _ => False) (fun _ _ _ z => z.elim) ⟨fun _ => ?_, fun z => absurd rfl z⟩
        refine kk _ _ _ f1 (((dn.rf _).sA _ _ (by decide)).sA _ _ (by decide)) (fun i hi => ?_) (fun b hb => ?_) l2 l1 (by rw [l3, hs])
        · show va_up (h_ai h 63) o (nI a) i = _
          by_cases z : i = o
          · rw [z, va_up_self, va_up_self]; rfl
          · rw [va_up_ne _ _ z, va_up_ne _ _ z]; exact Tk i hi z
        · show va_up (h_ai h 62) a (nI o) b = _
          by_cases z : b = a
          · rw [z, va_up_self, va_up_self]; rfl
          · rw [va_up_ne _ _ z, va_up_ne _ _ z]; exact Mt b hb
      · rw [ecl, ecb, ecla, emt]
        exact ⟨hv, hva, hva, hv, rfl, rfl, rfl⟩
  | succ B ih =>
    intro h Q tt w o hB sh Cb Mt Tk hm hs hc ho e0 hco hag kk
    cases eo : cb o with
    | none => rw [eo] at hco; cases hco
    | some a =>
      obtain ⟨p1, p2, p3, p4⟩ := hcb o ho a eo
      have han : a < na := by omega
      have hv : vp_in (nI o) 10 := vp_in_nI (by omega) (by decide)
      have hva : vp_in (nI a) 10 := vp_in_nI (by omega) (by decide)
      have ecl : (nI o).toNatClampNeg = o := i_cl (by omega)
      have ecb : h_ai h 64 o = nI a := by rw [Cb o ho, eo]; rfl
      have ecla : (nI a).toNatClampNeg = a := i_cl (by omega)
      have f1 : fx h (h_sA (h_sA h 62 a (nI o)) 63 o (nI a)) [] [62, 63] := ((fx.rf _ _ _).sA _ _ (by decide)).sA _ _ (by decide)
      have d1 : dn h (h_sA (h_sA h 62 a (nI o)) 63 o (nI a)) := ((dn.rf _).sA _ _ (by decide)).sA _ _ (by decide)
      have r2 : mMt (h_sA (h_sA h 62 a (nI o)) 63 o (nI a)) na (va_up w a (some o)) := fun b hb => by
        show va_up (h_ai h 62) a (nI o) b = _
        by_cases z : b = a
        · rw [z, va_up_self, va_up_self]; rfl
        · rw [va_up_ne _ _ z, va_up_ne _ _ z]; exact Mt b hb
      have r1 : ∀ i, i < no → h_ai (h_sA (h_sA h 62 a (nI o)) 63 o (nI a)) 63 i = oN (va_up tt o (some a) i) := fun i hi => by
        show va_up (h_ai h 63) o (nI a) i = _
        by_cases z : i = o
        · rw [z, va_up_self, va_up_self]; rfl
        · rw [va_up_ne _ _ z, va_up_ne _ _ z]; exact Tk i hi z
      have emt : h_ai h 62 a = oN (w a) := Mt a han
      refine t_X9_change_2 sh _ _ (K2 := fun x y hh => x = e ∧ y = oN (w a) ∧ hh = h_sA (h_sA h 62 a (nI o)) 63 o (nI a)) (fun x y hh q => ?_) ⟨fun z => absurd z (oN_ne o (by omega)), fun _ => ?_⟩
      · obtain ⟨rfl, rfl, rfl⟩ := q
        by_cases hak : a = k
        · have hwk : w a = none := by
            cases ew : w a with
            | none => rfl
            | some o2 =>
              obtain ⟨q1, q2⟩ := hc.1 a han o2 ew
              have := (hm o2 q1 a q2).1
              omega
          subst hak
          obtain ⟨l1, l2, l3⟩ := cns_last hm hc ho e0 hk hlo p1 p2
          rw [hwk]
          refine t_X9_change_2 (f1.sh sh (by decide)) _ _ (K2 := fun _ _ _ => False) (fun _ _ _ z => z.elim) ⟨fun _ => ?_, fun z => absurd rfl z⟩
          exact kk _ _ _ f1 d1 r1 r2 l2 l1 (by rw [l3, hs])
        · obtain ⟨o2, ho2, hc2, ht2, hti⟩ := p4.resolve_left hak
          have et2 := hag o2 ho2 hc2 hti
          have hw2 : w a = some o2 := (hc.2 o2 ho2 a (et2.trans ht2)).2
          obtain ⟨l1, l2, l3, l4, l5⟩ := cns_step hm hc ho e0 han hw2 p1 p2
          rw [hw2]
          refine ih (o := o2) (tt := va_up (va_up tt o (some a)) o2 none) (by omega) (f1.sh sh (by decide)) (Cb.fx f1 (by decide)) r2 (fun i hi z => ?_) l1 (by rw [l3, hs]) l2 ho2 (va_up_self _ _ _) hc2 (fun i hi z1 z2 => ?_) (fun h' t2 w2 f2 d2 k1 k2 k3 k4 k5 => kk h' t2 w2 (f1.tr f2 (by decide) (by decide) (by decide) (by decide)) (d1.tr d2) k1 k2 k3 k4 k5)
          · rw [va_up_ne _ _ z]
            exact r1 i hi
          · rw [va_up_ne _ _ (fun y => by rw [y] at z2; omega), va_up_ne _ _ (fun y => by rw [y] at z2; omega)]
            exact hag i hi z1 (by omega)
      · rw [ecl, ecb, ecla, emt]
        exact ⟨hv, hva, hva, hv, rfl, rfl, rfl⟩
