set_option maxRecDepth 20000 in
theorem t_X9_pays_0 {h : mm_H} {Q : Option Value → mm_H → Prop} (sh : s_h h) (x : Int32) (y : Int32) (n : Int32) {K9 : Int32 → Int32 → Int32 → Int32 → Int32 → mm_H → Prop} (k9 : ∀ (x : Int32) (y : Int32) (n : Int32) (x4 : Int32) (x5 : Int32) (h : mm_H), K9 x y n x4 x5 h → w_p 0 (9, 8, mc_X9_pays) 9 [(0, .ref 44), (1, .int x), (2, .int y), (3, .int n), (4, .int x4), (5, .int x5)] [] h Q) 
    (F : K9 x y n n (h_oi h 589 44) h) :
    w_c 0 128 [.ref 44, .int x, .int y, .int n] h Q := by
  refine w_ci (M := (9, 8, mc_X9_pays)) rfl (Nat.le_of_ble_eq_true rfl) ?_
  show w_p _ _ 0 [(0, .ref 44), (1, .int x), (2, .int y), (3, .int n)] [] h Q
  refine w_b 3 4 [(4, .int n), (0, .ref 44), (1, .int x), (2, .int y), (3, .int n)] [.ref 44] rfl ?_
  refine w_get (g := 589) rfl rfl rfl (kd_44 sh) ?_
  refine w_b 1 9 [(5, .int (h_oi h 589 44)), (4, .int n), (0, .ref 44), (1, .int x), (2, .int y), (3, .int n)] [] rfl ?_
  refine w_lo [0, 1, 2, 3, 4, 5] [(0, .ref 44), (1, .int x), (2, .int y), (3, .int n), (4, .int n), (5, .int (h_oi h 589 44))] rfl rfl ?_
  exact k9 _ _ _ _ _ _ F

set_option maxRecDepth 20000 in
theorem t_X9_pays_9 {h : mm_H} {Q : Option Value → mm_H → Prop} (sh : s_h h) (x : Int32) (y : Int32) (n : Int32) (x4 : Int32) (x5 : Int32) {K56 : Int32 → Int32 → Int32 → Int32 → Int32 → Int32 → mm_H → Prop} (k56 : ∀ (x : Int32) (y : Int32) (n : Int32) (x4 : Int32) (x5 : Int32) (x6 : Int32) (h : mm_H), K56 x y n x4 x5 x6 h → w_p 0 (9, 8, mc_X9_pays) 56 [(0, .ref 44), (1, .int x), (2, .int y), (3, .int n), (4, .int x4), (5, .int x5), (6, .int x6)] [] h Q) {K105 : Int32 → Int32 → Int32 → Int32 → Int32 → mm_H → Prop} (k105 : ∀ (x : Int32) (y : Int32) (n : Int32) (x4 : Int32) (x5 : Int32) (h : mm_H), K105 x y n x4 x5 h → w_p 0 (9, 8, mc_X9_pays) 105 [(0, .ref 44), (1, .int x), (2, .int y), (3, .int n), (4, .int x4), (5, .int x5)] [] h Q) 
    (F : (((h_oi h 588 44) < x5 → K105 x y n x4 x5 h) ∧ (¬ ((h_oi h 588 44) < x5) → (vp_in (((2001 : Int32) * x) + x5) 24012 ∧ ((x4 ≤ (h_ai h 53 (((2001 : Int32) * x) + x5).toNatClampNeg) → K56 x y n x4 x5 x4 h) ∧ (¬ (x4 ≤ (h_ai h 53 (((2001 : Int32) * x) + x5).toNatClampNeg)) → (vp_in (((2001 : Int32) * x) + x5) 24012 ∧ K56 x y n x4 x5 (h_ai h 53 (((2001 : Int32) * x) + x5).toNatClampNeg) h))))))) :
    w_p 0 (9, 8, mc_X9_pays) 9 [(0, .ref 44), (1, .int x), (2, .int y), (3, .int n), (4, .int x4), (5, .int x5)] [] h Q := by
  refine w_b 2 12 [(0, .ref 44), (1, .int x), (2, .int y), (3, .int n), (4, .int x4), (5, .int x5)] [.ref 44, .int x5] rfl ?_
  refine w_get (g := 588) rfl rfl rfl (kd_44 sh) ?_
  refine w_ic_gt (tgt := 105) (x := x5) (y := h_oi h 588 44) rfl (by decide) ⟨fun c1 => ?_, fun c1 => ?_⟩
  · have F := F.1 c1
    exact k105 _ _ _ _ _ _ F
  · have F := F.2 c1
    refine w_b 1 19 [(0, .ref 44), (1, .int x), (2, .int y), (3, .int n), (4, .int x4), (5, .int x5)] [.ref 44] rfl ?_
    refine w_getS (b := 53) rfl rfl rfl (kd_44 sh) (or_595_44 sh) ?_
    refine w_b 5 30 [(0, .ref 44), (1, .int x), (2, .int y), (3, .int n), (4, .int x4), (5, .int x5)] [.int (((2001 : Int32) * x) + x5), .ref 53] rfl ?_
    obtain ⟨g2, F⟩ := F
    refine w_iald rfl (kd_53 sh) (by rw [show h_al h 53 = 24012 from (al_53 sh)]; exact g2) ?_
    refine w_b 1 33 [(0, .ref 44), (1, .int x), (2, .int y), (3, .int n), (4, .int x4), (5, .int x5)] [.int x4, .int (h_ai h 53 (((2001 : Int32) * x) + x5).toNatClampNeg)] rfl ?_
    refine w_ic_ge (tgt := 52) (x := h_ai h 53 (((2001 : Int32) * x) + x5).toNatClampNeg) (y := x4) rfl (by decide) ⟨fun c3 => ?_, fun c3 => ?_⟩
    · have F := F.1 c3
      refine w_b 2 56 [(6, .int x4), (0, .ref 44), (1, .int x), (2, .int y), (3, .int n), (4, .int x4), (5, .int x5)] [] rfl ?_
      refine w_lo [0, 1, 2, 3, 4, 5, 6] [(0, .ref 44), (1, .int x), (2, .int y), (3, .int n), (4, .int x4), (5, .int x5), (6, .int x4)] rfl rfl ?_
      exact k56 _ _ _ _ _ _ _ F
    · have F := F.2 c3
      refine w_b 1 37 [(0, .ref 44), (1, .int x), (2, .int y), (3, .int n), (4, .int x4), (5, .int x5)] [.ref 44] rfl ?_
      refine w_getS (b := 53) rfl rfl rfl (kd_44 sh) (or_595_44 sh) ?_
      refine w_b 5 48 [(0, .ref 44), (1, .int x), (2, .int y), (3, .int n), (4, .int x4), (5, .int x5)] [.int (((2001 : Int32) * x) + x5), .ref 53] rfl ?_
      obtain ⟨g4, F⟩ := F
      refine w_iald rfl (kd_53 sh) (by rw [show h_al h 53 = 24012 from (al_53 sh)]; exact g4) ?_
      refine w_b 2 56 [(6, .int (h_ai h 53 (((2001 : Int32) * x) + x5).toNatClampNeg)), (0, .ref 44), (1, .int x), (2, .int y), (3, .int n), (4, .int x4), (5, .int x5)] [] rfl ?_
      refine w_lo [0, 1, 2, 3, 4, 5, 6] [(0, .ref 44), (1, .int x), (2, .int y), (3, .int n), (4, .int x4), (5, .int x5), (6, .int (h_ai h 53 (((2001 : Int32) * x) + x5).toNatClampNeg))] rfl rfl ?_
      exact k56 _ _ _ _ _ _ _ F

set_option maxRecDepth 20000 in
theorem t_X9_pays_56 {h : mm_H} {Q : Option Value → mm_H → Prop} (sh : s_h h) (x : Int32) (y : Int32) (n : Int32) (x4 : Int32) (x5 : Int32) (x6 : Int32) {K9 : Int32 → Int32 → Int32 → Int32 → Int32 → mm_H → Prop} (k9 : ∀ (x : Int32) (y : Int32) (n : Int32) (x4 : Int32) (x5 : Int32) (h : mm_H), K9 x y n x4 x5 h → w_p 0 (9, 8, mc_X9_pays) 9 [(0, .ref 44), (1, .int x), (2, .int y), (3, .int n), (4, .int x4), (5, .int x5)] [] h Q) 
    (F : (vp_in (((2001 : Int32) * x) + x5) 24012 ∧ (vp_in (((2001 : Int32) * x) + x5) 24012 ∧ (vp_in (((2001 : Int32) * y) + x5) 24012 ∧ (vp_in (((2001 : Int32) * y) + x5) 24012 ∧ K9 x y n (x4 - x6) (x5 + 1) (h_sA (h_sA h 53 ((((2001 : Int32) * x) + x5).toNatClampNeg) ((h_ai h 53 (((2001 : Int32) * x) + x5).toNatClampNeg) - x6)) 53 ((((2001 : Int32) * y) + x5).toNatClampNeg) ((va_up (h_ai h 53) ((((2001 : Int32) * x) + x5).toNatClampNeg) ((h_ai h 53 (((2001 : Int32) * x) + x5).toNatClampNeg) - x6) (((2001 : Int32) * y) + x5).toNatClampNeg) + x6))))))) :
    w_p 0 (9, 8, mc_X9_pays) 56 [(0, .ref 44), (1, .int x), (2, .int y), (3, .int n), (4, .int x4), (5, .int x5), (6, .int x6)] [] h Q := by
  refine w_b 1 57 [(0, .ref 44), (1, .int x), (2, .int y), (3, .int n), (4, .int x4), (5, .int x5), (6, .int x6)] [.ref 44] rfl ?_
  refine w_getS (b := 53) rfl rfl rfl (kd_44 sh) (or_595_44 sh) ?_
  refine w_b 6 69 [(0, .ref 44), (1, .int x), (2, .int y), (3, .int n), (4, .int x4), (5, .int x5), (6, .int x6)] [.int (((2001 : Int32) * x) + x5), .ref 53, .int (((2001 : Int32) * x) + x5), .ref 53] rfl ?_
  obtain ⟨g1, F⟩ := F
  refine w_iald rfl (kd_53 sh) (by rw [show h_al h 53 = 24012 from (al_53 sh)]; exact g1) ?_
  refine w_b 2 73 [(0, .ref 44), (1, .int x), (2, .int y), (3, .int n), (4, .int x4), (5, .int x5), (6, .int x6)] [.int ((h_ai h 53 (((2001 : Int32) * x) + x5).toNatClampNeg) - x6), .int (((2001 : Int32) * x) + x5), .ref 53] rfl ?_
  obtain ⟨g2, F⟩ := F
  refine w_iast rfl (kd_53 sh) (by decide) (by rw [show h_al h 53 = 24012 from (al_53 sh)]; exact g2) ?_
  refine w_b 1 75 [(0, .ref 44), (1, .int x), (2, .int y), (3, .int n), (4, .int x4), (5, .int x5), (6, .int x6)] [.ref 44] rfl ?_
  refine w_getS (b := 53) rfl rfl rfl (kd_44 sh) (or_595_44 sh) ?_
  refine w_b 6 87 [(0, .ref 44), (1, .int x), (2, .int y), (3, .int n), (4, .int x4), (5, .int x5), (6, .int x6)] [.int (((2001 : Int32) * y) + x5), .ref 53, .int (((2001 : Int32) * y) + x5), .ref 53] rfl ?_
  obtain ⟨g3, F⟩ := F
  refine w_iald rfl (kd_53 sh) (by rw [show h_al (h_sA h 53 ((((2001 : Int32) * x) + x5).toNatClampNeg) ((h_ai h 53 (((2001 : Int32) * x) + x5).toNatClampNeg) - x6)) 53 = 24012 from (al_53 sh)]; exact g3) ?_
  refine w_b 2 91 [(0, .ref 44), (1, .int x), (2, .int y), (3, .int n), (4, .int x4), (5, .int x5), (6, .int x6)] [.int ((va_up (h_ai h 53) ((((2001 : Int32) * x) + x5).toNatClampNeg) ((h_ai h 53 (((2001 : Int32) * x) + x5).toNatClampNeg) - x6) (((2001 : Int32) * y) + x5).toNatClampNeg) + x6), .int (((2001 : Int32) * y) + x5), .ref 53] rfl ?_
  obtain ⟨g4, F⟩ := F
  refine w_iast rfl (kd_53 sh) (by decide) (by rw [show h_al (h_sA h 53 ((((2001 : Int32) * x) + x5).toNatClampNeg) ((h_ai h 53 (((2001 : Int32) * x) + x5).toNatClampNeg) - x6)) 53 = 24012 from (al_53 sh)]; exact g4) ?_
  refine w_b 6 9 [(5, .int (x5 + 1)), (4, .int (x4 - x6)), (0, .ref 44), (1, .int x), (2, .int y), (3, .int n), (6, .int x6)] [] rfl ?_
  refine w_lo [0, 1, 2, 3, 4, 5] [(0, .ref 44), (1, .int x), (2, .int y), (3, .int n), (4, .int (x4 - x6)), (5, .int (x5 + 1))] rfl rfl ?_
  exact k9 _ _ _ _ _ _ F

set_option maxRecDepth 20000 in
theorem t_X9_pays_105 {h : mm_H} {Q : Option Value → mm_H → Prop} (sh : s_h h) (x : Int32) (y : Int32) (n : Int32) (x4 : Int32) (x5 : Int32) {K169 : Int32 → Int32 → Int32 → Int32 → Int32 → mm_H → Prop} (k169 : ∀ (x : Int32) (y : Int32) (n : Int32) (x4 : Int32) (x5 : Int32) (h : mm_H), K169 x y n x4 x5 h → w_p 0 (9, 8, mc_X9_pays) 169 [(0, .ref 44), (1, .int x), (2, .int y), (3, .int n), (4, .int x4), (5, .int x5)] [] h Q) 
    (F : (vp_in x 12 ∧ (vp_in x 12 ∧ (vp_in (((2001 : Int32) * y) + (h_oi h 588 44)) 24012 ∧ (vp_in (((2001 : Int32) * y) + (h_oi h 588 44)) 24012 ∧ (vp_in y 12 ∧ ((n ≤ (va_up (h_ai h 50) x.toNatClampNeg ((h_ai h 50 x.toNatClampNeg) + x4) y.toNatClampNeg) → K169 x y n x4 n (h_sI (h_sA (h_sA h 50 x.toNatClampNeg ((h_ai h 50 x.toNatClampNeg) + x4)) 53 ((((2001 : Int32) * y) + (h_oi h 588 44)).toNatClampNeg) ((h_ai h 53 (((2001 : Int32) * y) + (h_oi h 588 44)).toNatClampNeg) + x4)) 597 44 ((h_oi h 597 44) + x4))) ∧ (¬ (n ≤ (va_up (h_ai h 50) x.toNatClampNeg ((h_ai h 50 x.toNatClampNeg) + x4) y.toNatClampNeg)) → (vp_in y 12 ∧ K169 x y n x4 (va_up (h_ai h 50) x.toNatClampNeg ((h_ai h 50 x.toNatClampNeg) + x4) y.toNatClampNeg) (h_sI (h_sA (h_sA h 50 x.toNatClampNeg ((h_ai h 50 x.toNatClampNeg) + x4)) 53 ((((2001 : Int32) * y) + (h_oi h 588 44)).toNatClampNeg) ((h_ai h 53 (((2001 : Int32) * y) + (h_oi h 588 44)).toNatClampNeg) + x4)) 597 44 ((h_oi h 597 44) + x4))))))))))) :
    w_p 0 (9, 8, mc_X9_pays) 105 [(0, .ref 44), (1, .int x), (2, .int y), (3, .int n), (4, .int x4), (5, .int x5)] [] h Q := by
  refine w_b 1 106 [(0, .ref 44), (1, .int x), (2, .int y), (3, .int n), (4, .int x4), (5, .int x5)] [.ref 44] rfl ?_
  refine w_getS (b := 50) rfl rfl rfl (kd_44 sh) (or_592_44 sh) ?_
  refine w_b 2 111 [(0, .ref 44), (1, .int x), (2, .int y), (3, .int n), (4, .int x4), (5, .int x5)] [.int x, .ref 50, .int x, .ref 50] rfl ?_
  obtain ⟨g1, F⟩ := F
  refine w_iald rfl (kd_50 sh) (by rw [show h_al h 50 = 12 from (al_50 sh)]; exact g1) ?_
  refine w_b 2 115 [(0, .ref 44), (1, .int x), (2, .int y), (3, .int n), (4, .int x4), (5, .int x5)] [.int ((h_ai h 50 x.toNatClampNeg) + x4), .int x, .ref 50] rfl ?_
  obtain ⟨g2, F⟩ := F
  refine w_iast rfl (kd_50 sh) (by decide) (by rw [show h_al h 50 = 12 from (al_50 sh)]; exact g2) ?_
  refine w_b 1 117 [(0, .ref 44), (1, .int x), (2, .int y), (3, .int n), (4, .int x4), (5, .int x5)] [.ref 44] rfl ?_
  refine w_getS (b := 53) rfl rfl rfl (kd_44 sh) (or_595_44 sh) ?_
  refine w_b 4 126 [(0, .ref 44), (1, .int x), (2, .int y), (3, .int n), (4, .int x4), (5, .int x5)] [.ref 44, .int ((2001 : Int32) * y), .ref 53] rfl ?_
  refine w_get (g := 588) rfl rfl rfl (kd_44 sh) ?_
  refine w_b 2 131 [(0, .ref 44), (1, .int x), (2, .int y), (3, .int n), (4, .int x4), (5, .int x5)] [.int (((2001 : Int32) * y) + (h_oi h 588 44)), .ref 53, .int (((2001 : Int32) * y) + (h_oi h 588 44)), .ref 53] rfl ?_
  obtain ⟨g3, F⟩ := F
  refine w_iald rfl (kd_53 sh) (by rw [show h_al (h_sA h 50 x.toNatClampNeg ((h_ai h 50 x.toNatClampNeg) + x4)) 53 = 24012 from (al_53 sh)]; exact g3) ?_
  refine w_b 2 135 [(0, .ref 44), (1, .int x), (2, .int y), (3, .int n), (4, .int x4), (5, .int x5)] [.int ((h_ai h 53 (((2001 : Int32) * y) + (h_oi h 588 44)).toNatClampNeg) + x4), .int (((2001 : Int32) * y) + (h_oi h 588 44)), .ref 53] rfl ?_
  obtain ⟨g4, F⟩ := F
  refine w_iast rfl (kd_53 sh) (by decide) (by rw [show h_al (h_sA h 50 x.toNatClampNeg ((h_ai h 50 x.toNatClampNeg) + x4)) 53 = 24012 from (al_53 sh)]; exact g4) ?_
  refine w_b 2 138 [(0, .ref 44), (1, .int x), (2, .int y), (3, .int n), (4, .int x4), (5, .int x5)] [.ref 44, .ref 44] rfl ?_
  refine w_get (g := 597) rfl rfl rfl (kd_44 sh) ?_
  refine w_b 2 144 [(0, .ref 44), (1, .int x), (2, .int y), (3, .int n), (4, .int x4), (5, .int x5)] [.int ((h_oi h 597 44) + x4), .ref 44] rfl ?_
  refine w_put (g := 597) (x := (h_oi h 597 44) + x4) rfl rfl rfl (kd_44 sh) (by decide) ?_
  refine w_b 1 148 [(0, .ref 44), (1, .int x), (2, .int y), (3, .int n), (4, .int x4), (5, .int x5)] [.ref 44] rfl ?_
  refine w_getS (b := 50) rfl rfl rfl (kd_44 sh) (or_592_44 sh) ?_
  refine w_b 1 152 [(0, .ref 44), (1, .int x), (2, .int y), (3, .int n), (4, .int x4), (5, .int x5)] [.int y, .ref 50] rfl ?_
  obtain ⟨g5, F⟩ := F
  refine w_iald rfl (kd_50 sh) (by rw [show h_al (h_sI (h_sA (h_sA h 50 x.toNatClampNeg ((h_ai h 50 x.toNatClampNeg) + x4)) 53 ((((2001 : Int32) * y) + (h_oi h 588 44)).toNatClampNeg) ((h_ai h 53 (((2001 : Int32) * y) + (h_oi h 588 44)).toNatClampNeg) + x4)) 597 44 ((h_oi h 597 44) + x4)) 50 = 12 from (al_50 sh)]; exact g5) ?_
  refine w_b 1 154 [(0, .ref 44), (1, .int x), (2, .int y), (3, .int n), (4, .int x4), (5, .int x5)] [.int n, .int (va_up (h_ai h 50) x.toNatClampNeg ((h_ai h 50 x.toNatClampNeg) + x4) y.toNatClampNeg)] rfl ?_
  refine w_ic_ge (tgt := 166) (x := va_up (h_ai h 50) x.toNatClampNeg ((h_ai h 50 x.toNatClampNeg) + x4) y.toNatClampNeg) (y := n) rfl (by decide) ⟨fun c6 => ?_, fun c6 => ?_⟩
  · have F := F.1 c6
    refine w_b 2 169 [(5, .int n), (0, .ref 44), (1, .int x), (2, .int y), (3, .int n), (4, .int x4)] [] rfl ?_
    refine w_lo [0, 1, 2, 3, 4, 5] [(0, .ref 44), (1, .int x), (2, .int y), (3, .int n), (4, .int x4), (5, .int n)] rfl rfl ?_
    exact k169 _ _ _ _ _ _ F
  · have F := F.2 c6
    refine w_b 1 158 [(0, .ref 44), (1, .int x), (2, .int y), (3, .int n), (4, .int x4), (5, .int x5)] [.ref 44] rfl ?_
    refine w_getS (b := 50) rfl rfl rfl (kd_44 sh) (or_592_44 sh) ?_
    refine w_b 1 162 [(0, .ref 44), (1, .int x), (2, .int y), (3, .int n), (4, .int x4), (5, .int x5)] [.int y, .ref 50] rfl ?_
    obtain ⟨g7, F⟩ := F
    refine w_iald rfl (kd_50 sh) (by rw [show h_al (h_sI (h_sA (h_sA h 50 x.toNatClampNeg ((h_ai h 50 x.toNatClampNeg) + x4)) 53 ((((2001 : Int32) * y) + (h_oi h 588 44)).toNatClampNeg) ((h_ai h 53 (((2001 : Int32) * y) + (h_oi h 588 44)).toNatClampNeg) + x4)) 597 44 ((h_oi h 597 44) + x4)) 50 = 12 from (al_50 sh)]; exact g7) ?_
    refine w_b 2 169 [(5, .int (va_up (h_ai h 50) x.toNatClampNeg ((h_ai h 50 x.toNatClampNeg) + x4) y.toNatClampNeg)), (0, .ref 44), (1, .int x), (2, .int y), (3, .int n), (4, .int x4)] [] rfl ?_
    refine w_lo [0, 1, 2, 3, 4, 5] [(0, .ref 44), (1, .int x), (2, .int y), (3, .int n), (4, .int x4), (5, .int (va_up (h_ai h 50) x.toNatClampNeg ((h_ai h 50 x.toNatClampNeg) + x4) y.toNatClampNeg))] rfl rfl ?_
    exact k169 _ _ _ _ _ _ F

set_option maxRecDepth 20000 in
theorem t_X9_pays_169 {h : mm_H} {Q : Option Value → mm_H → Prop} (sh : s_h h) (x : Int32) (y : Int32) (n : Int32) (x4 : Int32) (x5 : Int32) {K197 : Int32 → Int32 → Int32 → Int32 → Int32 → Int32 → mm_H → Prop} (k197 : ∀ (x : Int32) (y : Int32) (n : Int32) (x4 : Int32) (x5 : Int32) (x6 : Int32) (h : mm_H), K197 x y n x4 x5 x6 h → w_p 0 (9, 8, mc_X9_pays) 197 [(0, .ref 44), (1, .int x), (2, .int y), (3, .int n), (4, .int x4), (5, .int x5), (6, .int x6)] [] h Q) 
    (F : (vp_in y 12 ∧ (vp_in y 12 ∧ K197 x y n x4 x5 (h_oi h 588 44) (h_sI (h_sA h 50 y.toNatClampNeg ((h_ai h 50 y.toNatClampNeg) - x5)) 599 44 ((h_oi h 599 44) + x5))))) :
    w_p 0 (9, 8, mc_X9_pays) 169 [(0, .ref 44), (1, .int x), (2, .int y), (3, .int n), (4, .int x4), (5, .int x5)] [] h Q := by
  refine w_b 1 170 [(0, .ref 44), (1, .int x), (2, .int y), (3, .int n), (4, .int x4), (5, .int x5)] [.ref 44] rfl ?_
  refine w_getS (b := 50) rfl rfl rfl (kd_44 sh) (or_592_44 sh) ?_
  refine w_b 2 175 [(0, .ref 44), (1, .int x), (2, .int y), (3, .int n), (4, .int x4), (5, .int x5)] [.int y, .ref 50, .int y, .ref 50] rfl ?_
  obtain ⟨g1, F⟩ := F
  refine w_iald rfl (kd_50 sh) (by rw [show h_al h 50 = 12 from (al_50 sh)]; exact g1) ?_
  refine w_b 2 179 [(0, .ref 44), (1, .int x), (2, .int y), (3, .int n), (4, .int x4), (5, .int x5)] [.int ((h_ai h 50 y.toNatClampNeg) - x5), .int y, .ref 50] rfl ?_
  obtain ⟨g2, F⟩ := F
  refine w_iast rfl (kd_50 sh) (by decide) (by rw [show h_al h 50 = 12 from (al_50 sh)]; exact g2) ?_
  refine w_b 2 182 [(0, .ref 44), (1, .int x), (2, .int y), (3, .int n), (4, .int x4), (5, .int x5)] [.ref 44, .ref 44] rfl ?_
  refine w_get (g := 599) rfl rfl rfl (kd_44 sh) ?_
  refine w_b 2 188 [(0, .ref 44), (1, .int x), (2, .int y), (3, .int n), (4, .int x4), (5, .int x5)] [.int ((h_oi h 599 44) + x5), .ref 44] rfl ?_
  refine w_put (g := 599) (x := (h_oi h 599 44) + x5) rfl rfl rfl (kd_44 sh) (by decide) ?_
  refine w_b 1 192 [(0, .ref 44), (1, .int x), (2, .int y), (3, .int n), (4, .int x4), (5, .int x5)] [.ref 44] rfl ?_
  refine w_get (g := 588) rfl rfl rfl (kd_44 sh) ?_
  refine w_b 1 197 [(6, .int (h_oi h 588 44)), (0, .ref 44), (1, .int x), (2, .int y), (3, .int n), (4, .int x4), (5, .int x5)] [] rfl ?_
  refine w_lo [0, 1, 2, 3, 4, 5, 6] [(0, .ref 44), (1, .int x), (2, .int y), (3, .int n), (4, .int x4), (5, .int x5), (6, .int (h_oi h 588 44))] rfl rfl ?_
  exact k197 _ _ _ _ _ _ _ F

set_option maxRecDepth 20000 in
theorem t_X9_pays_197 {h : mm_H} {Q : Option Value → mm_H → Prop} (sh : s_h h) (x : Int32) (y : Int32) (n : Int32) (x4 : Int32) (x5 : Int32) (x6 : Int32) {K240 : Int32 → Int32 → Int32 → Int32 → Int32 → Int32 → Int32 → mm_H → Prop} (k240 : ∀ (x : Int32) (y : Int32) (n : Int32) (x4 : Int32) (x5 : Int32) (x6 : Int32) (x7 : Int32) (h : mm_H), K240 x y n x4 x5 x6 x7 h → w_p 0 (9, 8, mc_X9_pays) 240 [(0, .ref 44), (1, .int x), (2, .int y), (3, .int n), (4, .int x4), (5, .int x5), (6, .int x6), (7, .int x7)] [] h Q) 
    (F : ((x5 ≤ 0 → Q none h) ∧ (¬ (x5 ≤ 0) → (vp_in (((2001 : Int32) * y) + x6) 24012 ∧ ((x5 ≤ (h_ai h 53 (((2001 : Int32) * y) + x6).toNatClampNeg) → K240 x y n x4 x5 x6 x5 h) ∧ (¬ (x5 ≤ (h_ai h 53 (((2001 : Int32) * y) + x6).toNatClampNeg)) → (vp_in (((2001 : Int32) * y) + x6) 24012 ∧ K240 x y n x4 x5 x6 (h_ai h 53 (((2001 : Int32) * y) + x6).toNatClampNeg) h))))))) :
    w_p 0 (9, 8, mc_X9_pays) 197 [(0, .ref 44), (1, .int x), (2, .int y), (3, .int n), (4, .int x4), (5, .int x5), (6, .int x6)] [] h Q := by
  refine w_b 1 199 [(0, .ref 44), (1, .int x), (2, .int y), (3, .int n), (4, .int x4), (5, .int x5), (6, .int x6)] [.int x5] rfl ?_
  refine w_if_le (tgt := 271) (x := x5) rfl (by decide) ⟨fun c1 => ?_, fun c1 => ?_⟩
  · have F := F.1 c1
    exact w_vr rfl F
  · have F := F.2 c1
    refine w_b 1 203 [(0, .ref 44), (1, .int x), (2, .int y), (3, .int n), (4, .int x4), (5, .int x5), (6, .int x6)] [.ref 44] rfl ?_
    refine w_getS (b := 53) rfl rfl rfl (kd_44 sh) (or_595_44 sh) ?_
    refine w_b 5 214 [(0, .ref 44), (1, .int x), (2, .int y), (3, .int n), (4, .int x4), (5, .int x5), (6, .int x6)] [.int (((2001 : Int32) * y) + x6), .ref 53] rfl ?_
    obtain ⟨g2, F⟩ := F
    refine w_iald rfl (kd_53 sh) (by rw [show h_al h 53 = 24012 from (al_53 sh)]; exact g2) ?_
    refine w_b 1 217 [(0, .ref 44), (1, .int x), (2, .int y), (3, .int n), (4, .int x4), (5, .int x5), (6, .int x6)] [.int x5, .int (h_ai h 53 (((2001 : Int32) * y) + x6).toNatClampNeg)] rfl ?_
    refine w_ic_ge (tgt := 236) (x := h_ai h 53 (((2001 : Int32) * y) + x6).toNatClampNeg) (y := x5) rfl (by decide) ⟨fun c3 => ?_, fun c3 => ?_⟩
    · have F := F.1 c3
      refine w_b 2 240 [(7, .int x5), (0, .ref 44), (1, .int x), (2, .int y), (3, .int n), (4, .int x4), (5, .int x5), (6, .int x6)] [] rfl ?_
      refine w_lo [0, 1, 2, 3, 4, 5, 6, 7] [(0, .ref 44), (1, .int x), (2, .int y), (3, .int n), (4, .int x4), (5, .int x5), (6, .int x6), (7, .int x5)] rfl rfl ?_
      exact k240 _ _ _ _ _ _ _ _ F
    · have F := F.2 c3
      refine w_b 1 221 [(0, .ref 44), (1, .int x), (2, .int y), (3, .int n), (4, .int x4), (5, .int x5), (6, .int x6)] [.ref 44] rfl ?_
      refine w_getS (b := 53) rfl rfl rfl (kd_44 sh) (or_595_44 sh) ?_
      refine w_b 5 232 [(0, .ref 44), (1, .int x), (2, .int y), (3, .int n), (4, .int x4), (5, .int x5), (6, .int x6)] [.int (((2001 : Int32) * y) + x6), .ref 53] rfl ?_
      obtain ⟨g4, F⟩ := F
      refine w_iald rfl (kd_53 sh) (by rw [show h_al h 53 = 24012 from (al_53 sh)]; exact g4) ?_
      refine w_b 2 240 [(7, .int (h_ai h 53 (((2001 : Int32) * y) + x6).toNatClampNeg)), (0, .ref 44), (1, .int x), (2, .int y), (3, .int n), (4, .int x4), (5, .int x5), (6, .int x6)] [] rfl ?_
      refine w_lo [0, 1, 2, 3, 4, 5, 6, 7] [(0, .ref 44), (1, .int x), (2, .int y), (3, .int n), (4, .int x4), (5, .int x5), (6, .int x6), (7, .int (h_ai h 53 (((2001 : Int32) * y) + x6).toNatClampNeg))] rfl rfl ?_
      exact k240 _ _ _ _ _ _ _ _ F

set_option maxRecDepth 20000 in
theorem t_X9_pays_240 {h : mm_H} {Q : Option Value → mm_H → Prop} (sh : s_h h) (x : Int32) (y : Int32) (n : Int32) (x4 : Int32) (x5 : Int32) (x6 : Int32) (x7 : Int32) {K197 : Int32 → Int32 → Int32 → Int32 → Int32 → Int32 → mm_H → Prop} (k197 : ∀ (x : Int32) (y : Int32) (n : Int32) (x4 : Int32) (x5 : Int32) (x6 : Int32) (h : mm_H), K197 x y n x4 x5 x6 h → w_p 0 (9, 8, mc_X9_pays) 197 [(0, .ref 44), (1, .int x), (2, .int y), (3, .int n), (4, .int x4), (5, .int x5), (6, .int x6)] [] h Q) 
    (F : (vp_in (((2001 : Int32) * y) + x6) 24012 ∧ (vp_in (((2001 : Int32) * y) + x6) 24012 ∧ K197 x y n x4 (x5 - x7) (x6 + (-1)) (h_sA h 53 ((((2001 : Int32) * y) + x6).toNatClampNeg) ((h_ai h 53 (((2001 : Int32) * y) + x6).toNatClampNeg) - x7))))) :
    w_p 0 (9, 8, mc_X9_pays) 240 [(0, .ref 44), (1, .int x), (2, .int y), (3, .int n), (4, .int x4), (5, .int x5), (6, .int x6), (7, .int x7)] [] h Q := by
  refine w_b 1 241 [(0, .ref 44), (1, .int x), (2, .int y), (3, .int n), (4, .int x4), (5, .int x5), (6, .int x6), (7, .int x7)] [.ref 44] rfl ?_
  refine w_getS (b := 53) rfl rfl rfl (kd_44 sh) (or_595_44 sh) ?_
  refine w_b 6 253 [(0, .ref 44), (1, .int x), (2, .int y), (3, .int n), (4, .int x4), (5, .int x5), (6, .int x6), (7, .int x7)] [.int (((2001 : Int32) * y) + x6), .ref 53, .int (((2001 : Int32) * y) + x6), .ref 53] rfl ?_
  obtain ⟨g1, F⟩ := F
  refine w_iald rfl (kd_53 sh) (by rw [show h_al h 53 = 24012 from (al_53 sh)]; exact g1) ?_
  refine w_b 2 257 [(0, .ref 44), (1, .int x), (2, .int y), (3, .int n), (4, .int x4), (5, .int x5), (6, .int x6), (7, .int x7)] [.int ((h_ai h 53 (((2001 : Int32) * y) + x6).toNatClampNeg) - x7), .int (((2001 : Int32) * y) + x6), .ref 53] rfl ?_
  obtain ⟨g2, F⟩ := F
  refine w_iast rfl (kd_53 sh) (by decide) (by rw [show h_al h 53 = 24012 from (al_53 sh)]; exact g2) ?_
  refine w_b 6 197 [(6, .int (x6 + (-1))), (5, .int (x5 - x7)), (0, .ref 44), (1, .int x), (2, .int y), (3, .int n), (4, .int x4), (7, .int x7)] [] rfl ?_
  refine w_lo [0, 1, 2, 3, 4, 5, 6] [(0, .ref 44), (1, .int x), (2, .int y), (3, .int n), (4, .int x4), (5, .int (x5 - x7)), (6, .int (x6 + (-1)))] rfl rfl ?_
  exact k197 _ _ _ _ _ _ _ F

/-! THE REFERENCE PAYS -/
def mNa (h : mm_H) (N : Nat → Nat → Nat) : Prop := ∀ f, f < 12 → ∀ d, d ≤ 2000 → h_ai h 53 (2001 * f + d) = nI (N f d)
theorem mNa.cong {h : mm_H} {N N2 : Nat → Nat → Nat} (H : mNa h N) (e : ∀ f, f < 12 → ∀ d, d ≤ 2000 → N f d = N2 f d) : mNa h N2 := fun f hf d hd => by rw [← e f hf d hd]; exact H f hf d hd
theorem mNa.up {h : mm_H} {N : Nat → Nat → Nat} (H : mNa h N) {f d : Nat} (hd : d ≤ 2000) (v : Nat) : mNa (h_sA h 53 (2001 * f + d) (nI v)) (va_up N f (va_up (N f) d v)) := fun g hg e he => by
  rw [ai_self]
  by_cases z : g = f
  · subst z
    rw [va_up_self]
    by_cases y : e = d
    · subst y
      rw [va_up_self, va_up_self]
    · rw [va_up_ne _ _ y, va_up_ne _ _ (by omega)]
      exact H g hg e he
  · rw [va_up_ne _ _ z, va_up_ne _ _ (by omega)]
    exact H g hg e he
def pX (nt : Nat → Nat) (n : Nat) : Nat → Nat := fun d => nt d - mvd nt n d
def pY (ntx nty : Nat → Nat) (n dy : Nat) : Nat → Nat := va_up (fun d => nty d + mvd ntx n d) dy (nty dy + mvd ntx n dy + (n - fb_sm ntx 2001))
def pZ (ntx nty : Nat → Nat) (n dy owy : Nat) : Nat → Nat := fun d => pY ntx nty n dy d - drd (pY ntx nty n dy) (min owy n) d
def zNT (NT : Nat → Nat → Nat) (ow : Nat → Nat) (x y n dy : Nat) : Nat → Nat → Nat := va_up (va_up NT x (pX (NT x) n)) y (pZ (NT x) (NT y) n dy (ow y))
def zOw (NT : Nat → Nat → Nat) (ow : Nat → Nat) (x y n : Nat) : Nat → Nat := va_up (va_up ow x (ow x + (n - fb_sm (NT x) 2001))) y (ow y - min (ow y) n)
theorem pY_sum (ntx nty : Nat → Nat) {n dy : Nat} (hdy : dy ≤ 2000) : fb_sm (pY ntx nty n dy) 2001 = fb_sm nty 2001 + n := by
  unfold pY
  have e1 := sm_up (fun d => nty d + mvd ntx n d) (i := dy) (v := nty dy + mvd ntx n dy + (n - fb_sm ntx 2001)) (n := 2001) (by omega)
  have e2 : fb_sm (fun d => nty d + mvd ntx n d) 2001 = fb_sm nty 2001 + min n (fb_sm ntx 2001) := by rw [fb_sm_add, mvd_sum]
  rw [e2] at e1
  have e1 : _ + (nty dy + mvd ntx n dy) = _ := e1
  omega
set_option maxHeartbeats 1000000 in
theorem m_pays2 {h : mm_H} {Q : Option Value → mm_H → Prop} (sh : s_h h) {N : Nat → Nat → Nat} (A : mNa h N) {x n x4 : Int32} {y s dy : Nat} (hy : y < 12) (hdy : dy ≤ 2000) (hz : ∀ e, dy < e → N y e = 0) (hs : s ≤ fb_sm (N y) 2001) (hb : fb_sm (N y) 2001 ≤ 200000000) (k : ∀ h', fx h h' [] [53] → dn h h' → mNa h' (va_up N y (fun e => N y e - drd (N y) s e)) → Q none h') : w_p 0 (9, 8, mc_X9_pays) 197 [(0, .ref 44), (1, .int x), (2, .int (nI y)), (3, .int n), (4, .int x4), (5, .int (nI s)), (6, .int (nI dy))] [] h Q := by
  have hhi : fb_sm (N y) 2001 = fb_sm (N y) (dy + 1) := sm_z 2001 (by omega) (fun d h1 _ => hz d (by omega))
  generalize hT : fb_sm (N y) 2001 = T at hs hb hhi
  have hle : ∀ e, e ≤ 2001 → fb_sm (N y) e ≤ T := fun e he => by rw [← hT]; exact fb_sm_lt _ he
  have hpt : ∀ e, e ≤ 2000 → N y e ≤ T := fun e he => by
    have := hle (e + 1) (by omega)
    rw [fb_sm_succ] at this
    omega
  have dr : ∀ e, drd (N y) s e = min (N y e) (s - (T - fb_sm (N y) (e + 1))) := fun e => by
    unfold drd
    rw [hT]
  have exit : ∀ e1, e1 ≤ dy + 1 → s - (T - fb_sm (N y) e1) = 0 → ∀ h1, fx h h1 [] [53] → dn h h1 → mNa h1 (va_up N y (fun e => if e1 ≤ e then N y e - drd (N y) s e else N y e)) → Q none h1 := by
    intro e1 he1 hl h1 f d A1
    refine k h1 f d (A1.cong (fun g hg e he => ?_))
    by_cases z : g = y
    · rw [z, va_up_self, va_up_self]
      show (if e1 ≤ e then _ else _) = _
      by_cases w : e1 ≤ e
      · rw [if_pos w]
      · rw [if_neg w, dr e]
        have := fb_sm_lt (N y) (i := e + 1) (j := e1) (by omega)
        omega
    · rw [va_up_ne _ _ z, va_up_ne _ _ z]
  have loop : ∀ e1, e1 ≤ dy + 1 → ∀ h1, fx h h1 [] [53] → dn h h1 → mNa h1 (va_up N y (fun e => if e1 ≤ e then N y e - drd (N y) s e else N y e)) → w_p 0 (9, 8, mc_X9_pays) 197 [(0, .ref 44), (1, .int x), (2, .int (nI y)), (3, .int n), (4, .int x4), (5, .int (nI (s - (T - fb_sm (N y) e1)))), (6, .int (nI e1 + (-1)))] [] h1 Q := by
    intro e1
    induction e1 with
    | zero =>
      intro he1 h1 f d A1
      have hl : s - (T - fb_sm (N y) 0) = 0 := by show s - (T - 0) = 0; omega
      refine t_X9_pays_197 (f.sh sh (by decide)) _ _ _ _ _ _ (K240 := fun _ _ _ _ _ _ _ _ => False) (fun _ _ _ _ _ _ _ _ z => z.elim) ⟨fun _ => exit 0 he1 hl h1 f d A1, fun z => absurd ?_ z⟩
      rw [hl]; decide
    | succ e ih =>
      intro he1 h1 f d A1
      have hx6 : nI (e + 1) + (-1) = nI e := nI_m1 (by omega)
      have sS : fb_sm (N y) (e + 1) = fb_sm (N y) e + N y e := fb_sm_succ _ _
      have s1 := hle (e + 1) (by omega)
      have p1 := hpt e (by omega)
      by_cases hl : s - (T - fb_sm (N y) (e + 1)) = 0
      · refine t_X9_pays_197 (f.sh sh (by decide)) _ _ _ _ _ _ (K240 := fun _ _ _ _ _ _ _ _ => False) (fun _ _ _ _ _ _ _ _ z => z.elim) ⟨fun _ => exit (e + 1) he1 hl h1 f d A1, fun z => absurd ?_ z⟩
        rw [hl]; decide
      · have ev : h_ai h1 53 (2001 * y + e) = nI (N y e) := by
          rw [A1 y hy e (by omega), va_up_self]
          show nI (if e + 1 ≤ e then _ else _) = _
          rw [if_neg (by omega)]
        have vi : vp_in (nI (2001 * y + e)) 24012 := vp_in_nI (by omega) (by decide)
        have ic : (nI (2001 * y + e)).toNatClampNeg = 2001 * y + e := i_cl (by omega)
        have core : w_p 0 (9, 8, mc_X9_pays) 240 [(0, .ref 44), (1, .int x), (2, .int (nI y)), (3, .int n), (4, .int x4), (5, .int (nI (s - (T - fb_sm (N y) (e + 1))))), (6, .int (nI e)), (7, .int (nI (drd (N y) s e)))] [] h1 Q := by
          have d1 := dr e
          refine t_X9_pays_240 (f.sh sh (by decide)) _ _ _ _ _ _ _ (K197 := fun y1 y2 y3 y4 y5 y6 hh => y1 = x ∧ y2 = nI y ∧ y3 = n ∧ y4 = x4 ∧ y5 = nI (s - (T - fb_sm (N y) e)) ∧ y6 = nI e + (-1) ∧ hh = h_sA h1 53 (2001 * y + e) (nI (N y e - drd (N y) s e))) (fun y1 y2 y3 y4 y5 y6 hh z => ?_) ?_
          · obtain ⟨rfl, rfl, rfl, rfl, rfl, rfl, rfl⟩ := z
            refine ih (by omega) _ (f.sA _ _ (Or.inl (by decide))) (d.sA _ _ (by decide)) ((A1.up (f := y) (d := e) (by omega) (N y e - drd (N y) s e)).cong (fun g hg i hi => ?_))
            by_cases z : g = y
            · rw [z, va_up_self, va_up_self, va_up_self]
              by_cases w : i = e
              · rw [w, va_up_self]
                show _ = (if e ≤ e then _ else _)
                rw [if_pos (Nat.le_refl _)]
              · rw [va_up_ne _ _ w]
                show (if e + 1 ≤ i then _ else _) = (if e ≤ i then _ else _)
                by_cases w2 : e ≤ i
                · rw [if_pos w2, if_pos (by omega)]
                · rw [if_neg w2, if_neg (by omega)]
            · rw [va_up_ne _ _ z, va_up_ne _ _ z, va_up_ne _ _ z]
          · rw [e2001, ic, ev, nI_sub (by omega), nI_sub (by omega)]
            refine ⟨vi, vi, rfl, rfl, rfl, rfl, ?_, rfl, rfl⟩
            congr 1
            omega
        rw [hx6]
        refine t_X9_pays_197 (f.sh sh (by decide)) _ _ _ _ _ _ (K240 := fun y1 y2 y3 y4 y5 y6 y7 hh => y1 = x ∧ y2 = nI y ∧ y3 = n ∧ y4 = x4 ∧ y5 = nI (s - (T - fb_sm (N y) (e + 1))) ∧ y6 = nI e ∧ y7 = nI (drd (N y) s e) ∧ hh = h1) (fun y1 y2 y3 y4 y5 y6 y7 hh z => ?_) ⟨fun z => ?_, fun _ => ?_⟩
        · obtain ⟨rfl, rfl, rfl, rfl, rfl, rfl, rfl, rfl⟩ := z
          exact core
        · have := (i_le (b := 0) (by omega) (by decide)).mp z
          omega
        · rw [e2001, ic, ev]
          have d1 := dr e
          refine ⟨vi, fun z => ⟨rfl, rfl, rfl, rfl, rfl, rfl, ?_, rfl⟩, fun z => ⟨vi, rfl, rfl, rfl, rfl, rfl, rfl, ?_, rfl⟩⟩
          · rw [i_le (by omega) (by omega)] at z
            congr 1; omega
          · rw [i_le (by omega) (by omega)] at z
            congr 1; omega
  have e0 : s - (T - fb_sm (N y) (dy + 1)) = s := by rw [← hhi]; omega
  have := loop (dy + 1) (Nat.le_refl _) h (fx.rf _ _ _) (dn.rf _) (A.cong (fun g hg e he => by
    by_cases z : g = y
    · rw [z, va_up_self]
      show _ = (if dy + 1 ≤ e then _ else _)
      by_cases w : dy + 1 ≤ e
      · rw [if_pos w, hz e (by omega), Nat.zero_sub]
      · rw [if_neg w]
    · rw [va_up_ne _ _ z]))
  rw [e0, nI_m1 (by omega)] at this
  exact this
set_option maxHeartbeats 1000000 in
theorem m_pays1 {h : mm_H} {Q : Option Value → mm_H → Prop} (sh : s_h h) {dy cl : Nat} {NT : Nat → Nat → Nat} (H : mB h dy cl NT) {x y n : Nat} (hx : x < 12) (hy : y < 12) (hxy : x ≠ y) (hn : n ≤ 1000) (hbx : fb_sm (NT x) 2001 ≤ 100000000) (hby : fb_sm (NT y) 2001 ≤ 100000000)
    (k : ∀ h' x5, fx h h' [] [53] → dn h h' → mNa h' (va_up (va_up NT x (pX (NT x) n)) y (fun d => NT y d + mvd (NT x) n d)) → w_p 0 (9, 8, mc_X9_pays) 105 [(0, .ref 44), (1, .int (nI x)), (2, .int (nI y)), (3, .int (nI n)), (4, .int (nI (n - fb_sm (NT x) 2001))), (5, .int x5)] [] h' Q) : w_c 0 128 [.ref 44, .int (nI x), .int (nI y), .int (nI n)] h Q := by
  have hlo := H.lo hx
  have hhi := H.hi hx
  obtain ⟨⟨h1, h2⟩, h3, h4, h5, h6⟩ := id H
  have hpx : ∀ e, e ≤ 2000 → NT x e ≤ 100000000 := fun e he => by have := fb_sm_part (NT x) (i := e) (n := 2001) (by omega); omega
  have loop : ∀ w d, d + w = dy + 1 → ∀ h1, fx h h1 [] [53] → dn h h1 → mNa h1 (fun f e => if e < d then (if f = x then NT x e - mvd (NT x) n e else if f = y then NT y e + mvd (NT x) n e else NT f e) else NT f e) → w_p 0 (9, 8, mc_X9_pays) 9 [(0, .ref 44), (1, .int (nI x)), (2, .int (nI y)), (3, .int (nI n)), (4, .int (nI (n - fb_sm (NT x) d))), (5, .int (nI d))] [] h1 Q := by
    intro w
    induction w with
    | zero =>
      intro d hd h1 f dd A1
      have e3 : h_oi h1 588 44 = nI dy := (f.oi _ _ (by decide) (by decide)).trans h3
      refine t_X9_pays_9 (f.sh sh (by decide)) _ _ _ _ _ (K56 := fun _ _ _ _ _ _ _ => False) (fun _ _ _ _ _ _ _ z => z.elim) (K105 := fun y1 y2 y3 y4 y5 hh => y1 = nI x ∧ y2 = nI y ∧ y3 = nI n ∧ y4 = nI (n - fb_sm (NT x) 2001) ∧ hh = h1) (fun y1 y2 y3 y4 y5 hh z => ?_) ⟨fun _ => ⟨rfl, rfl, rfl, ?_, rfl⟩, fun z => absurd ?_ z⟩
      · obtain ⟨rfl, rfl, rfl, rfl, rfl⟩ := z
        refine k hh y5 f dd (A1.cong (fun g hg e he => ?_))
        show (if e < d then _ else _) = _
        by_cases z : g = y
        · have zx : ¬ g = x := fun w => hxy (w.symm.trans z)
          rw [if_neg zx, if_pos z, z, va_up_self]
          by_cases w : e < d
          · rw [if_pos w]
          · rw [if_neg w]
            have a1 := h6 x hx e (Or.inr (by omega))
            unfold mvd
            rw [a1]
            omega
        · rw [va_up_ne _ _ z]
          by_cases zx : g = x
          · rw [if_pos zx, zx, va_up_self]
            unfold pX
            by_cases w : e < d
            · rw [if_pos w]
            · rw [if_neg w]
              have a1 := h6 x hx e (Or.inr (by omega))
              rw [a1]
              omega
          · rw [if_neg zx, if_neg z, va_up_ne _ _ zx]
            by_cases w : e < d
            · rw [if_pos w]
            · rw [if_neg w]
      · rw [show d = dy + 1 by omega, ← hhi]
      · rw [e3, i_lt (by omega) (by omega)]
        omega
    | succ w ih =>
      intro d hd h1 f dd A1
      have e3 : h_oi h1 588 44 = nI dy := (f.oi _ _ (by decide) (by decide)).trans h3
      have ex : h_ai h1 53 (2001 * x + d) = nI (NT x d) := by
        rw [A1 x hx d (by omega)]
        show nI (if d < d then _ else _) = _
        rw [if_neg (by omega)]
      have ey : h_ai h1 53 (2001 * y + d) = nI (NT y d) := by
        rw [A1 y hy d (by omega)]
        show nI (if d < d then _ else _) = _
        rw [if_neg (by omega)]
      have px := hpx d (by omega)
      have vx : vp_in (nI (2001 * x + d)) 24012 := vp_in_nI (by omega) (by decide)
      have vy : vp_in (nI (2001 * y + d)) 24012 := vp_in_nI (by omega) (by decide)
      have icx : (nI (2001 * x + d)).toNatClampNeg = 2001 * x + d := i_cl (by omega)
      have icy : (nI (2001 * y + d)).toNatClampNeg = 2001 * y + d := i_cl (by omega)
      have sS : fb_sm (NT x) (d + 1) = fb_sm (NT x) d + NT x d := fb_sm_succ _ _
      have dm : mvd (NT x) n d = min (NT x d) (n - fb_sm (NT x) d) := rfl
      have core : w_p 0 (9, 8, mc_X9_pays) 56 [(0, .ref 44), (1, .int (nI x)), (2, .int (nI y)), (3, .int (nI n)), (4, .int (nI (n - fb_sm (NT x) d))), (5, .int (nI d)), (6, .int (nI (mvd (NT x) n d)))] [] h1 Q := by
        refine t_X9_pays_56 (f.sh sh (by decide)) _ _ _ _ _ _ (K9 := fun y1 y2 y3 y4 y5 hh => y1 = nI x ∧ y2 = nI y ∧ y3 = nI n ∧ y4 = nI (n - fb_sm (NT x) (d + 1)) ∧ y5 = nI (d + 1) ∧ hh = h_sA (h_sA h1 53 (2001 * x + d) (nI (NT x d - mvd (NT x) n d))) 53 (2001 * y + d) (nI (NT y d + mvd (NT x) n d))) (fun y1 y2 y3 y4 y5 hh z => ?_) ?_
        · obtain ⟨rfl, rfl, rfl, rfl, rfl, rfl⟩ := z
          refine ih (d + 1) (by omega) _ ((f.sA _ _ (Or.inl (by decide))).sA _ _ (Or.inl (by decide))) ((dd.sA _ _ (by decide)).sA _ _ (by decide)) (((A1.up (f := x) (d := d) (by omega) (NT x d - mvd (NT x) n d)).up (f := y) (d := d) (by omega) (NT y d + mvd (NT x) n d)).cong (fun g hg i hi => ?_))
          by_cases z : g = y
          · have zx : ¬ g = x := fun w => hxy (w.symm.trans z)
            rw [z, va_up_self, va_up_ne _ _ (fun w => hxy w.symm)]
            show _ = (if i < d + 1 then (if y = x then _ else if y = y then _ else _) else _)
            rw [if_neg (show ¬ y = x from fun w => hxy w.symm), if_pos (show y = y from rfl)]
            by_cases w : i = d
            · rw [w, va_up_self, if_pos (by omega)]
            · rw [va_up_ne _ _ w]
              show (if i < d then (if y = x then _ else if y = y then _ else _) else _) = _
              rw [if_neg (show ¬ y = x from fun w => hxy w.symm), if_pos (show y = y from rfl)]
              by_cases w2 : i < d
              · rw [if_pos w2, if_pos (by omega)]
              · rw [if_neg w2, if_neg (by omega)]
          · rw [va_up_ne _ _ z]
            by_cases zx : g = x
            · rw [zx, va_up_self]
              show _ = (if i < d + 1 then (if x = x then _ else _) else _)
              rw [if_pos rfl]
              by_cases w : i = d
              · rw [w, va_up_self, if_pos (by omega)]
              · rw [va_up_ne _ _ w]
                show (if i < d then (if x = x then _ else _) else _) = _
                rw [if_pos rfl]
                by_cases w2 : i < d
                · rw [if_pos w2, if_pos (by omega)]
                · rw [if_neg w2, if_neg (by omega)]
            · rw [va_up_ne _ _ zx]
              show (if i < d then (if g = x then _ else if g = y then _ else _) else _) = (if i < d + 1 then (if g = x then _ else if g = y then _ else _) else _)
              rw [if_neg zx, if_neg z]
              by_cases w2 : i < d
              · rw [if_pos w2, if_pos (by omega)]
              · rw [if_neg w2]
                by_cases w3 : i < d + 1
                · rw [if_pos w3]
                · rw [if_neg w3]
        · rw [e2001, e2001, icx, icy, va_up_ne _ _ (by omega), ex, ey, nI_sub (by omega), nI_sub (by omega), nI_add]
          refine ⟨vx, vx, vy, vy, rfl, rfl, rfl, ?_, nI_1 d, rfl⟩
          congr 1
          omega
      refine t_X9_pays_9 (f.sh sh (by decide)) _ _ _ _ _ (K56 := fun y1 y2 y3 y4 y5 y6 hh => y1 = nI x ∧ y2 = nI y ∧ y3 = nI n ∧ y4 = nI (n - fb_sm (NT x) d) ∧ y5 = nI d ∧ y6 = nI (mvd (NT x) n d) ∧ hh = h1) (fun y1 y2 y3 y4 y5 y6 hh z => ?_) (K105 := fun _ _ _ _ _ _ => False) (fun _ _ _ _ _ _ z => z.elim) ⟨fun z => ?_, fun _ => ?_⟩
      · obtain ⟨rfl, rfl, rfl, rfl, rfl, rfl, rfl⟩ := z
        exact core
      · rw [e3, i_lt (by omega) (by omega)] at z
        omega
      · rw [e2001, icx, ex]
        refine ⟨vx, fun z => ⟨rfl, rfl, rfl, rfl, rfl, ?_, rfl⟩, fun z => ⟨vx, rfl, rfl, rfl, rfl, rfl, ?_, rfl⟩⟩
        · rw [i_le (by omega) (by omega)] at z
          congr 1; omega
        · rw [i_le (by omega) (by omega)] at z
          congr 1; omega
  refine t_X9_pays_0 sh _ _ _ (K9 := fun y1 y2 y3 y4 y5 hh => y1 = nI x ∧ y2 = nI y ∧ y3 = nI n ∧ y4 = nI (n - fb_sm (NT x) cl) ∧ y5 = nI cl ∧ hh = h) (fun y1 y2 y3 y4 y5 hh z => ?_) ⟨rfl, rfl, rfl, by rw [hlo]; rfl, h4, rfl⟩
  obtain ⟨rfl, rfl, rfl, rfl, rfl, rfl⟩ := z
  refine loop (dy + 1 - cl) cl (by omega) hh (fx.rf _ _ _) (dn.rf _) (fun f hf e he => ?_)
  show _ = nI (if e < cl then _ else _)
  rw [h5 f hf e he]
  by_cases w : e < cl
  · have a1 := h6 x hx e (Or.inl w)
    have a2 : mvd (NT x) n e = 0 := by unfold mvd; omega
    rw [if_pos w, a2, Nat.sub_zero, Nat.add_zero]
    by_cases zx : f = x
    · rw [if_pos zx, zx]
    · rw [if_neg zx]
      by_cases zy : f = y
      · rw [if_pos zy, zy]
      · rw [if_neg zy]
  · rw [if_neg w]
set_option maxHeartbeats 1000000 in
theorem m_pays {h : mm_H} {Q : Option Value → mm_H → Prop} (sh : s_h h) {dy cl : Nat} {NT : Nat → Nat → Nat} {ow : Nat → Nat} (H : mB h dy cl NT) (O : mOw h ow) {x y n : Nat} (hx : x < 12) (hy : y < 12) (hxy : x ≠ y) (hn : n ≤ 1000) (hbx : fb_sm (NT x) 2001 ≤ 100000000) (hby : fb_sm (NT y) 2001 ≤ 100000000) (hob : ow y ≤ 100000000)
    (k : ∀ h', fx h h' [(597, 44), (599, 44)] [50, 53] → dn h h' → mB h' dy cl (zNT NT ow x y n dy) → mOw h' (zOw NT ow x y n) → h_oi h' 597 44 = h_oi h 597 44 + nI (n - fb_sm (NT x) 2001) → h_oi h' 599 44 = h_oi h 599 44 + nI (min (ow y) n) → Q none h') : w_c 0 128 [.ref 44, .int (nI x), .int (nI y), .int (nI n)] h Q := by
  refine m_pays1 sh H hx hy hxy hn hbx hby (fun h1 x5 f d A1 => ?_)
  obtain ⟨⟨p1, p2⟩, p3, p4, p5, p6⟩ := id H
  have e3 : h_oi h1 588 44 = nI dy := (f.oi _ _ (by decide) (by decide)).trans p3
  have e4 : h_oi h1 589 44 = nI cl := (f.oi _ _ (by decide) (by decide)).trans p4
  have O1 : mOw h1 ow := O.fx f (by decide)
  have vy : vp_in (nI (2001 * y + dy)) 24012 := vp_in_nI (by omega) (by decide)
  have icy : (nI (2001 * y + dy)).toNatClampNeg = 2001 * y + dy := i_cl (by omega)
  have vx : vp_in (nI x) 12 := vp_in_nI hx (by decide)
  have vy2 : vp_in (nI y) 12 := vp_in_nI hy (by decide)
  have ey : h_ai h1 53 (2001 * y + dy) = nI (NT y dy + mvd (NT x) n dy) := by
    rw [A1 y hy dy (by omega), va_up_self]
  have tail : w_p 0 (9, 8, mc_X9_pays) 169 [(0, .ref 44), (1, .int (nI x)), (2, .int (nI y)), (3, .int (nI n)), (4, .int (nI (n - fb_sm (NT x) 2001))), (5, .int (nI (min (ow y) n)))] [] (h_sI (h_sA (h_sA h1 50 x (nI (ow x + (n - fb_sm (NT x) 2001)))) 53 (2001 * y + dy) (nI (NT y dy + mvd (NT x) n dy + (n - fb_sm (NT x) 2001)))) 597 44 (h_oi h1 597 44 + nI (n - fb_sm (NT x) 2001))) Q := by
    have A2 : mNa (h_sI (h_sA (h_sA h1 50 x (nI (ow x + (n - fb_sm (NT x) 2001)))) 53 (2001 * y + dy) (nI (NT y dy + mvd (NT x) n dy + (n - fb_sm (NT x) 2001)))) 597 44 (h_oi h1 597 44 + nI (n - fb_sm (NT x) 2001))) (va_up (va_up NT x (pX (NT x) n)) y (pY (NT x) (NT y) n dy)) := by
      have A3 : mNa (h_sA h1 50 x (nI (ow x + (n - fb_sm (NT x) 2001)))) _ := fun g hg e he => by rw [ai_ne (by decide)]; exact A1 g hg e he
      refine (A3.up (f := y) (d := dy) p2 (NT y dy + mvd (NT x) n dy + (n - fb_sm (NT x) 2001))).cong (fun g hg e he => ?_)
      by_cases z : g = y
      · rw [z, va_up_self, va_up_self, va_up_self]
        rfl
      · rw [va_up_ne _ _ z, va_up_ne _ _ z, va_up_ne _ _ z]
    have f2 : fx h (h_sI (h_sA (h_sA h1 50 x (nI (ow x + (n - fb_sm (NT x) 2001)))) 53 (2001 * y + dy) (nI (NT y dy + mvd (NT x) n dy + (n - fb_sm (NT x) 2001)))) 597 44 (h_oi h1 597 44 + nI (n - fb_sm (NT x) 2001))) [(597, 44), (599, 44)] [50, 53] := (((f.tr (fx.rf _ [] []) (gs' := [(597, 44), (599, 44)]) (as' := [50, 53]) (by decide) (by decide) (by decide) (by decide)).sA _ _ (Or.inl (by decide))).sA _ _ (Or.inl (by decide))).sI _ (Or.inl (by decide))
    have d2 : dn h (h_sI (h_sA (h_sA h1 50 x (nI (ow x + (n - fb_sm (NT x) 2001)))) 53 (2001 * y + dy) (nI (NT y dy + mvd (NT x) n dy + (n - fb_sm (NT x) 2001)))) 597 44 (h_oi h1 597 44 + nI (n - fb_sm (NT x) 2001))) := ((d.sA _ _ (by decide)).sA _ _ (by decide)).sI _ (by decide)
    have o2 : ∀ i, i < 12 → h_ai (h_sI (h_sA (h_sA h1 50 x (nI (ow x + (n - fb_sm (NT x) 2001)))) 53 (2001 * y + dy) (nI (NT y dy + mvd (NT x) n dy + (n - fb_sm (NT x) 2001)))) 597 44 (h_oi h1 597 44 + nI (n - fb_sm (NT x) 2001))) 50 i = nI (va_up ow x (ow x + (n - fb_sm (NT x) 2001)) i) := fun i hi => by
      show h_ai (h_sA (h_sA h1 50 x _) 53 _ _) 50 i = _
      rw [ai_ne (by decide), ai_self]
      by_cases z : i = x
      · rw [z, va_up_self, va_up_self]
      · rw [va_up_ne _ _ z, va_up_ne _ _ z]; exact O1 i hi
    have g1 : h_oi (h_sI (h_sA (h_sA h1 50 x (nI (ow x + (n - fb_sm (NT x) 2001)))) 53 (2001 * y + dy) (nI (NT y dy + mvd (NT x) n dy + (n - fb_sm (NT x) 2001)))) 597 44 (h_oi h1 597 44 + nI (n - fb_sm (NT x) 2001))) 597 44 = h_oi h 597 44 + nI (n - fb_sm (NT x) 2001) := by
      rw [oi_self, f.oi _ _ (by decide) (by decide)]
    have g2 : h_oi (h_sI (h_sA (h_sA h1 50 x (nI (ow x + (n - fb_sm (NT x) 2001)))) 53 (2001 * y + dy) (nI (NT y dy + mvd (NT x) n dy + (n - fb_sm (NT x) 2001)))) 597 44 (h_oi h1 597 44 + nI (n - fb_sm (NT x) 2001))) 599 44 = h_oi h 599 44 := by
      rw [oi_neG (by decide)]
      exact f.oi _ _ (by decide) (by decide)
    generalize (h_sI (h_sA (h_sA h1 50 x (nI (ow x + (n - fb_sm (NT x) 2001)))) 53 (2001 * y + dy) (nI (NT y dy + mvd (NT x) n dy + (n - fb_sm (NT x) 2001)))) 597 44 (h_oi h1 597 44 + nI (n - fb_sm (NT x) 2001))) = h2 at A2 f2 d2 o2 g1 g2 ⊢
    have e5 : h_oi h2 588 44 = nI dy := (f2.oi _ _ (by decide) (by decide)).trans p3
    have ic2 : (nI y).toNatClampNeg = y := i_cl (by omega)
    refine t_X9_pays_169 (f2.sh sh (by decide)) _ _ _ _ _ (K197 := fun y1 y2 y3 y4 y5 y6 hh => y1 = nI x ∧ y2 = nI y ∧ y3 = nI n ∧ y4 = nI (n - fb_sm (NT x) 2001) ∧ y5 = nI (min (ow y) n) ∧ y6 = nI dy ∧ hh = h_sI (h_sA h2 50 y (nI (ow y - min (ow y) n))) 599 44 (h_oi h 599 44 + nI (min (ow y) n))) (fun y1 y2 y3 y4 y5 y6 hh z => ?_) ?_
    · obtain ⟨rfl, rfl, rfl, rfl, rfl, rfl, rfl⟩ := z
      have A3 : mNa (h_sI (h_sA h2 50 y (nI (ow y - min (ow y) n))) 599 44 (h_oi h 599 44 + nI (min (ow y) n))) (va_up (va_up NT x (pX (NT x) n)) y (pY (NT x) (NT y) n dy)) := fun g hg e he => by
        show h_ai (h_sA h2 50 y _) 53 _ = _
        rw [ai_ne (by decide)]
        exact A2 g hg e he
      have f3 : fx h (h_sI (h_sA h2 50 y (nI (ow y - min (ow y) n))) 599 44 (h_oi h 599 44 + nI (min (ow y) n))) [(597, 44), (599, 44)] [50, 53] := (f2.sA _ _ (Or.inl (by decide))).sI _ (Or.inl (by decide))
      have d3 : dn h (h_sI (h_sA h2 50 y (nI (ow y - min (ow y) n))) 599 44 (h_oi h 599 44 + nI (min (ow y) n))) := (d2.sA _ _ (by decide)).sI _ (by decide)
      have eyN : (va_up (va_up NT x (pX (NT x) n)) y (pY (NT x) (NT y) n dy)) y = pY (NT x) (NT y) n dy := va_up_self _ _ _
      have sumY := pY_sum (NT x) (NT y) (n := n) p2
      refine m_pays2 (f3.sh sh (by decide)) A3 hy p2 (fun e he => ?_) ?_ ?_ (fun h4 f4 d4 A4 => ?_)
      · rw [eyN]
        unfold pY
        rw [va_up_ne _ _ (by omega)]
        have a1 := p6 x hx e (Or.inr he)
        have a2 := p6 y hy e (Or.inr he)
        unfold mvd
        omega
      · rw [eyN, sumY]; omega
      · rw [eyN, sumY]; omega
      · have f5 : fx h h4 [(597, 44), (599, 44)] [50, 53] := f3.tr f4 (by decide) (by decide) (by decide) (by decide)
        refine k h4 f5 (d3.tr d4) ⟨⟨p1, p2⟩, (f5.oi _ _ (by decide) (by decide)).trans p3, (f5.oi _ _ (by decide) (by decide)).trans p4, ?_, ?_⟩ ?_ ?_ ?_
        · refine A4.cong (fun g hg e he => ?_)
          unfold zNT
          by_cases z : g = y
          · rw [z, va_up_self, va_up_self, va_up_self]
            rfl
          · rw [va_up_ne _ _ z, va_up_ne _ _ z, va_up_ne _ _ z]
        · intro g hg e he
          have a1 := p6 x hx e he
          have a2 := p6 y hy e he
          unfold zNT
          by_cases z : g = y
          · rw [z, va_up_self]
            have : pY (NT x) (NT y) n dy e = 0 := by
              unfold pY
              rw [va_up_ne _ _ (by omega)]
              unfold mvd
              omega
            unfold pZ
            rw [this, Nat.zero_sub]
          · rw [va_up_ne _ _ z]
            by_cases zx : g = x
            · rw [zx, va_up_self]
              unfold pX
              rw [a1, Nat.zero_sub]
            · rw [va_up_ne _ _ zx]
              exact p6 g hg e he
        · intro i hi
          rw [f4.ai 50 (by decide) (by decide)]
          show h_ai (h_sA h2 50 y _) 50 i = _
          rw [ai_self]
          unfold zOw
          by_cases z : i = y
          · rw [z, va_up_self, va_up_self]
          · rw [va_up_ne _ _ z, va_up_ne _ _ z]; exact o2 i hi
        · rw [f4.oi _ _ (by decide) (by decide), oi_neG (by decide)]
          exact g1
        · rw [f4.oi _ _ (by decide) (by decide), oi_self]
    · rw [ic2, o2 y hy, va_up_ne _ _ (fun w => hxy w.symm), nI_sub (by omega), g2, e5]
      exact ⟨vy2, vy2, rfl, rfl, rfl, rfl, rfl, rfl, rfl⟩
  refine t_X9_pays_105 (f.sh sh (by decide)) _ _ _ _ _ (K169 := fun y1 y2 y3 y4 y5 hh => y1 = nI x ∧ y2 = nI y ∧ y3 = nI n ∧ y4 = nI (n - fb_sm (NT x) 2001) ∧ y5 = nI (min (ow y) n) ∧ hh = (h_sI (h_sA (h_sA h1 50 x (nI (ow x + (n - fb_sm (NT x) 2001)))) 53 (2001 * y + dy) (nI (NT y dy + mvd (NT x) n dy + (n - fb_sm (NT x) 2001)))) 597 44 (h_oi h1 597 44 + nI (n - fb_sm (NT x) 2001)))) (fun y1 y2 y3 y4 y5 hh z => ?_) ?_
  · obtain ⟨rfl, rfl, rfl, rfl, rfl, rfl⟩ := z
    exact tail
  · rw [e3, e2001, icy, i_cl (a := x) (by omega), i_cl (a := y) (by omega), ey, va_up_ne _ _ (fun w => hxy w.symm), O1 x hx, O1 y hy, nI_add, nI_add]
    refine ⟨vx, vx, vy, vy, vy2, fun z => ⟨rfl, rfl, rfl, rfl, ?_, rfl⟩, fun z => ⟨vy2, rfl, rfl, rfl, rfl, ?_, rfl⟩⟩
    · rw [i_le (by omega) (by omega)] at z
      congr 1; omega
    · rw [i_le (by omega) (by omega)] at z
      congr 1; omega
