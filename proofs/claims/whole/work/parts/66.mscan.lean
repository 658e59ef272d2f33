set_option maxRecDepth 20000 in
theorem t_X9_fails_0 {h : mm_H} {Q : Option Value → mm_H → Prop} (sh : s_h h) (code : Int32) (p : Int32) 
    (F : ((¬ (h_oi h 582 44) = 0 → Q none h) ∧ ((h_oi h 582 44) = 0 → Q none (h_sI (h_sI h 582 44 code) 583 44 p)))) :
    w_c 0 106 [.ref 44, .int code, .int p] h Q := by
  refine w_ci (M := (9, 3, mc_X9_fails)) rfl (Nat.le_of_ble_eq_true rfl) ?_
  show w_p _ _ 0 [(0, .ref 44), (1, .int code), (2, .int p)] [] h Q
  refine w_b 1 1 [(0, .ref 44), (1, .int code), (2, .int p)] [.ref 44] rfl ?_
  refine w_get (g := 582) rfl rfl rfl (kd_44 sh) ?_
  refine w_if_ne (tgt := 17) (x := h_oi h 582 44) rfl (by decide) ⟨fun c1 => ?_, fun c1 => ?_⟩
  · have F := F.1 c1
    exact w_vr rfl F
  · have F := F.2 (Decidable.not_not.mp c1)
    refine w_b 2 9 [(0, .ref 44), (1, .int code), (2, .int p)] [.int code, .ref 44] rfl ?_
    refine w_put (g := 582) (x := code) rfl rfl rfl (kd_44 sh) (by decide) ?_
    refine w_b 2 14 [(0, .ref 44), (1, .int code), (2, .int p)] [.int p, .ref 44] rfl ?_
    refine w_put (g := 583) (x := p) rfl rfl rfl (kd_44 sh) (by decide) ?_
    exact w_vr rfl F

set_option maxRecDepth 20000 in
theorem t_X9_look_0 {h : mm_H} {Q : Option Value → mm_H → Prop} (sh : s_h h) (p : Int32) 
    (F : (((h_oi h 577 44) ≤ p → Q (some (.int (-1))) h) ∧ (¬ ((h_oi h 577 44) ≤ p) → (vp_in p 200 ∧ Q (some (.int (h_ai h 45 p.toNatClampNeg))) h)))) :
    w_c 0 107 [.ref 44, .int p] h Q := by
  refine w_ci (M := (9, 2, mc_X9_look)) rfl (Nat.le_of_ble_eq_true rfl) ?_
  show w_p _ _ 0 [(0, .ref 44), (1, .int p)] [] h Q
  refine w_b 2 2 [(0, .ref 44), (1, .int p)] [.ref 44, .int p] rfl ?_
  refine w_get (g := 577) rfl rfl rfl (kd_44 sh) ?_
  refine w_ic_ge (tgt := 17) (x := p) (y := h_oi h 577 44) rfl (by decide) ⟨fun c1 => ?_, fun c1 => ?_⟩
  · have F := F.1 c1
    refine w_b 1 18 [(0, .ref 44), (1, .int p)] [.int (-1)] rfl ?_
    exact w_ir rfl F
  · have F := F.2 c1
    refine w_b 1 9 [(0, .ref 44), (1, .int p)] [.ref 44] rfl ?_
    refine w_getS (b := 45) rfl rfl rfl (kd_44 sh) (or_576_44 sh) ?_
    refine w_b 1 13 [(0, .ref 44), (1, .int p)] [.int p, .ref 45] rfl ?_
    obtain ⟨g2, F⟩ := F
    refine w_iald rfl (kd_45 sh) (Eq.mpr (congrArg (vp_in p) (al_45 sh)) g2) ?_
    refine w_b 1 18 [(0, .ref 44), (1, .int p)] [.int (h_ai h 45 p.toNatClampNeg)] rfl ?_
    exact w_ir rfl F

set_option maxRecDepth 20000 in
theorem t_X9_isName_0 {h : mm_H} {Q : Option Value → mm_H → Prop} (sh : s_h h) (a : Int32) (b : Int32) (c : Int32) (d : Int32) (e : Int32) (f : Int32) {K22 : Int32 → Int32 → Int32 → Int32 → Int32 → Int32 → Int32 → mm_H → Prop} (k22 : ∀ (a : Int32) (b : Int32) (c : Int32) (d : Int32) (e : Int32) (f : Int32) (x7 : Int32) (h : mm_H), K22 a b c d e f x7 h → w_p 1 (9, 8, mc_X9_isName) 22 [(0, .ref 44), (1, .int a), (2, .int b), (3, .int c), (4, .int d), (5, .int e), (6, .int f), (7, .int x7)] [] h Q) 
    (F : ((¬ e = 0 → ((¬ f = 0 → K22 a b c d e f 6 h) ∧ (f = 0 → K22 a b c d e f 5 h))) ∧ (e = 0 → K22 a b c d e f 4 h))) :
    w_c 1 108 [.ref 44, .int a, .int b, .int c, .int d, .int e, .int f] h Q := by
  refine w_ci (M := (9, 8, mc_X9_isName)) rfl (Nat.le_of_ble_eq_true rfl) ?_
  show w_p _ _ 0 [(0, .ref 44), (1, .int a), (2, .int b), (3, .int c), (4, .int d), (5, .int e), (6, .int f)] [] h Q
  refine w_b 1 2 [(0, .ref 44), (1, .int a), (2, .int b), (3, .int c), (4, .int d), (5, .int e), (6, .int f)] [.int e] rfl ?_
  refine w_if_ne (tgt := 9) (x := e) rfl (by decide) ⟨fun c1 => ?_, fun c1 => ?_⟩
  · have F := F.1 c1
    refine w_b 1 11 [(0, .ref 44), (1, .int a), (2, .int b), (3, .int c), (4, .int d), (5, .int e), (6, .int f)] [.int f] rfl ?_
    refine w_if_ne (tgt := 18) (x := f) rfl (by decide) ⟨fun c2 => ?_, fun c2 => ?_⟩
    · have F := F.1 c2
      refine w_b 2 22 [(7, .int 6), (0, .ref 44), (1, .int a), (2, .int b), (3, .int c), (4, .int d), (5, .int e), (6, .int f)] [] rfl ?_
      refine w_lo [0, 1, 2, 3, 4, 5, 6, 7] [(0, .ref 44), (1, .int a), (2, .int b), (3, .int c), (4, .int d), (5, .int e), (6, .int f), (7, .int 6)] rfl rfl ?_
      exact k22 _ _ _ _ _ _ _ _ F
    · have F := F.2 (Decidable.not_not.mp c2)
      refine w_b 3 22 [(7, .int 5), (0, .ref 44), (1, .int a), (2, .int b), (3, .int c), (4, .int d), (5, .int e), (6, .int f)] [] rfl ?_
      refine w_lo [0, 1, 2, 3, 4, 5, 6, 7] [(0, .ref 44), (1, .int a), (2, .int b), (3, .int c), (4, .int d), (5, .int e), (6, .int f), (7, .int 5)] rfl rfl ?_
      exact k22 _ _ _ _ _ _ _ _ F
  · have F := F.2 (Decidable.not_not.mp c1)
    refine w_b 3 22 [(7, .int 4), (0, .ref 44), (1, .int a), (2, .int b), (3, .int c), (4, .int d), (5, .int e), (6, .int f)] [] rfl ?_
    refine w_lo [0, 1, 2, 3, 4, 5, 6, 7] [(0, .ref 44), (1, .int a), (2, .int b), (3, .int c), (4, .int d), (5, .int e), (6, .int f), (7, .int 4)] rfl rfl ?_
    exact k22 _ _ _ _ _ _ _ _ F

set_option maxRecDepth 20000 in
theorem t_X9_isName_22 {h : mm_H} {Q : Option Value → mm_H → Prop} (sh : s_h h) (a : Int32) (b : Int32) (c : Int32) (d : Int32) (e : Int32) (f : Int32) (x7 : Int32) {K111 : Int32 → Int32 → Int32 → Int32 → Int32 → Int32 → Int32 → mm_H → Prop} (k111 : ∀ (a : Int32) (b : Int32) (c : Int32) (d : Int32) (e : Int32) (f : Int32) (x7 : Int32) (h : mm_H), K111 a b c d e f x7 h → w_p 1 (9, 8, mc_X9_isName) 111 [(0, .ref 44), (1, .int a), (2, .int b), (3, .int c), (4, .int d), (5, .int e), (6, .int f), (7, .int x7)] [] h Q) 
    (F : ((¬ ((h_oi h 578 44) - (h_oi h 579 44)) = x7 → Q (some (.int 0)) h) ∧ (((h_oi h 578 44) - (h_oi h 579 44)) = x7 → w_c 0 107 [.ref 44, .int (h_oi h 579 44)] h (fun r h2 => ∃ z3 : Int32, r = some (.int z3) ∧ s_h h2 ∧ ((¬ z3 = a → Q (some (.int 0)) h2) ∧ (z3 = a → w_c 0 107 [.ref 44, .int ((h_oi h2 579 44) + 1)] h2 (fun r h5 => ∃ z6 : Int32, r = some (.int z6) ∧ s_h h5 ∧ ((¬ z6 = b → Q (some (.int 0)) h5) ∧ (z6 = b → w_c 0 107 [.ref 44, .int ((h_oi h5 579 44) + 2)] h5 (fun r h8 => ∃ z9 : Int32, r = some (.int z9) ∧ s_h h8 ∧ ((¬ z9 = c → Q (some (.int 0)) h8) ∧ (z9 = c → w_c 0 107 [.ref 44, .int ((h_oi h8 579 44) + 3)] h8 (fun r h11 => ∃ z12 : Int32, r = some (.int z12) ∧ s_h h11 ∧ ((¬ z12 = d → Q (some (.int 0)) h11) ∧ (z12 = d → ((e = 0 → K111 a b c d e f x7 h11) ∧ (¬ (e = 0) → w_c 0 107 [.ref 44, .int ((h_oi h11 579 44) + 4)] h11 (fun r h15 => ∃ z16 : Int32, r = some (.int z16) ∧ s_h h15 ∧ ((¬ z16 = e → Q (some (.int 0)) h15) ∧ (z16 = e → K111 a b c d e f x7 h15)))))))))))))))))))) :
    w_p 1 (9, 8, mc_X9_isName) 22 [(0, .ref 44), (1, .int a), (2, .int b), (3, .int c), (4, .int d), (5, .int e), (6, .int f), (7, .int x7)] [] h Q := by
  refine w_b 1 23 [(0, .ref 44), (1, .int a), (2, .int b), (3, .int c), (4, .int d), (5, .int e), (6, .int f), (7, .int x7)] [.ref 44] rfl ?_
  refine w_get (g := 578) rfl rfl rfl (kd_44 sh) ?_
  refine w_b 1 27 [(0, .ref 44), (1, .int a), (2, .int b), (3, .int c), (4, .int d), (5, .int e), (6, .int f), (7, .int x7)] [.ref 44, .int (h_oi h 578 44)] rfl ?_
  refine w_get (g := 579) rfl rfl rfl (kd_44 sh) ?_
  refine w_b 2 33 [(0, .ref 44), (1, .int a), (2, .int b), (3, .int c), (4, .int d), (5, .int e), (6, .int f), (7, .int x7)] [.int x7, .int ((h_oi h 578 44) - (h_oi h 579 44))] rfl ?_
  refine w_ic_ne (tgt := 135) (x := (h_oi h 578 44) - (h_oi h 579 44)) (y := x7) rfl (by decide) ⟨fun c1 => ?_, fun c1 => ?_⟩
  · have F := F.1 c1
    refine w_b 1 136 [(0, .ref 44), (1, .int a), (2, .int b), (3, .int c), (4, .int d), (5, .int e), (6, .int f), (7, .int x7)] [.int 0] rfl ?_
    exact w_br rfl (by decide) F
  · have F := F.2 (Decidable.not_not.mp c1)
    refine w_b 2 38 [(0, .ref 44), (1, .int a), (2, .int b), (3, .int c), (4, .int d), (5, .int e), (6, .int f), (7, .int x7)] [.ref 44, .ref 44] rfl ?_
    refine w_get (g := 579) rfl rfl rfl (kd_44 sh) ?_
    refine w_cv (As := [.int (h_oi h 579 44)]) (b := 44) (rest := []) rfl rfl rfl (Nat.le_of_ble_eq_true rfl) (kd_44 sh) (fun z => absurd z (by decide)) (dc := 0) (by omega) (F.mono (fun r h2 F => ?_))
    obtain ⟨z3, rfl, sh2, F⟩ := F
    show w_p _ _ 44 [(0, .ref 44), (1, .int a), (2, .int b), (3, .int c), (4, .int d), (5, .int e), (6, .int f), (7, .int x7)] [.int z3] h2 _
    refine w_b 1 45 [(0, .ref 44), (1, .int a), (2, .int b), (3, .int c), (4, .int d), (5, .int e), (6, .int f), (7, .int x7)] [.int a, .int z3] rfl ?_
    refine w_ic_ne (tgt := 135) (x := z3) (y := a) rfl (by decide) ⟨fun c4 => ?_, fun c4 => ?_⟩
    · have F := F.1 c4
      refine w_b 1 136 [(0, .ref 44), (1, .int a), (2, .int b), (3, .int c), (4, .int d), (5, .int e), (6, .int f), (7, .int x7)] [.int 0] rfl ?_
      exact w_br rfl (by decide) F
    · have F := F.2 (Decidable.not_not.mp c4)
      refine w_b 2 50 [(0, .ref 44), (1, .int a), (2, .int b), (3, .int c), (4, .int d), (5, .int e), (6, .int f), (7, .int x7)] [.ref 44, .ref 44] rfl ?_
      refine w_get (g := 579) rfl rfl rfl (kd_44 sh2) ?_
      refine w_b 2 55 [(0, .ref 44), (1, .int a), (2, .int b), (3, .int c), (4, .int d), (5, .int e), (6, .int f), (7, .int x7)] [.int ((h_oi h2 579 44) + 1), .ref 44] rfl ?_
      refine w_cv (As := [.int ((h_oi h2 579 44) + 1)]) (b := 44) (rest := []) rfl rfl rfl (Nat.le_of_ble_eq_true rfl) (kd_44 sh2) (fun z => absurd z (by decide)) (dc := 0) (by omega) (F.mono (fun r h5 F => ?_))
      obtain ⟨z6, rfl, sh5, F⟩ := F
      show w_p _ _ 58 [(0, .ref 44), (1, .int a), (2, .int b), (3, .int c), (4, .int d), (5, .int e), (6, .int f), (7, .int x7)] [.int z6] h5 _
      refine w_b 1 59 [(0, .ref 44), (1, .int a), (2, .int b), (3, .int c), (4, .int d), (5, .int e), (6, .int f), (7, .int x7)] [.int b, .int z6] rfl ?_
      refine w_ic_ne (tgt := 135) (x := z6) (y := b) rfl (by decide) ⟨fun c7 => ?_, fun c7 => ?_⟩
      · have F := F.1 c7
        refine w_b 1 136 [(0, .ref 44), (1, .int a), (2, .int b), (3, .int c), (4, .int d), (5, .int e), (6, .int f), (7, .int x7)] [.int 0] rfl ?_
        exact w_br rfl (by decide) F
      · have F := F.2 (Decidable.not_not.mp c7)
        refine w_b 2 64 [(0, .ref 44), (1, .int a), (2, .int b), (3, .int c), (4, .int d), (5, .int e), (6, .int f), (7, .int x7)] [.ref 44, .ref 44] rfl ?_
        refine w_get (g := 579) rfl rfl rfl (kd_44 sh5) ?_
        refine w_b 2 69 [(0, .ref 44), (1, .int a), (2, .int b), (3, .int c), (4, .int d), (5, .int e), (6, .int f), (7, .int x7)] [.int ((h_oi h5 579 44) + 2), .ref 44] rfl ?_
        refine w_cv (As := [.int ((h_oi h5 579 44) + 2)]) (b := 44) (rest := []) rfl rfl rfl (Nat.le_of_ble_eq_true rfl) (kd_44 sh5) (fun z => absurd z (by decide)) (dc := 0) (by omega) (F.mono (fun r h8 F => ?_))
        obtain ⟨z9, rfl, sh8, F⟩ := F
        show w_p _ _ 72 [(0, .ref 44), (1, .int a), (2, .int b), (3, .int c), (4, .int d), (5, .int e), (6, .int f), (7, .int x7)] [.int z9] h8 _
        refine w_b 1 73 [(0, .ref 44), (1, .int a), (2, .int b), (3, .int c), (4, .int d), (5, .int e), (6, .int f), (7, .int x7)] [.int c, .int z9] rfl ?_
        refine w_ic_ne (tgt := 135) (x := z9) (y := c) rfl (by decide) ⟨fun c10 => ?_, fun c10 => ?_⟩
        · have F := F.1 c10
          refine w_b 1 136 [(0, .ref 44), (1, .int a), (2, .int b), (3, .int c), (4, .int d), (5, .int e), (6, .int f), (7, .int x7)] [.int 0] rfl ?_
          exact w_br rfl (by decide) F
        · have F := F.2 (Decidable.not_not.mp c10)
          refine w_b 2 78 [(0, .ref 44), (1, .int a), (2, .int b), (3, .int c), (4, .int d), (5, .int e), (6, .int f), (7, .int x7)] [.ref 44, .ref 44] rfl ?_
          refine w_get (g := 579) rfl rfl rfl (kd_44 sh8) ?_
          refine w_b 2 83 [(0, .ref 44), (1, .int a), (2, .int b), (3, .int c), (4, .int d), (5, .int e), (6, .int f), (7, .int x7)] [.int ((h_oi h8 579 44) + 3), .ref 44] rfl ?_
          refine w_cv (As := [.int ((h_oi h8 579 44) + 3)]) (b := 44) (rest := []) rfl rfl rfl (Nat.le_of_ble_eq_true rfl) (kd_44 sh8) (fun z => absurd z (by decide)) (dc := 0) (by omega) (F.mono (fun r h11 F => ?_))
          obtain ⟨z12, rfl, sh11, F⟩ := F
          show w_p _ _ 86 [(0, .ref 44), (1, .int a), (2, .int b), (3, .int c), (4, .int d), (5, .int e), (6, .int f), (7, .int x7)] [.int z12] h11 _
          refine w_b 1 88 [(0, .ref 44), (1, .int a), (2, .int b), (3, .int c), (4, .int d), (5, .int e), (6, .int f), (7, .int x7)] [.int d, .int z12] rfl ?_
          refine w_ic_ne (tgt := 135) (x := z12) (y := d) rfl (by decide) ⟨fun c13 => ?_, fun c13 => ?_⟩
          · have F := F.1 c13
            refine w_b 1 136 [(0, .ref 44), (1, .int a), (2, .int b), (3, .int c), (4, .int d), (5, .int e), (6, .int f), (7, .int x7)] [.int 0] rfl ?_
            exact w_br rfl (by decide) F
          · have F := F.2 (Decidable.not_not.mp c13)
            refine w_b 1 93 [(0, .ref 44), (1, .int a), (2, .int b), (3, .int c), (4, .int d), (5, .int e), (6, .int f), (7, .int x7)] [.int e] rfl ?_
            refine w_if_eq (tgt := 111) (x := e) rfl (by decide) ⟨fun c14 => ?_, fun c14 => ?_⟩
            · have F := F.1 c14
              exact k111 _ _ _ _ _ _ _ _ F
            · have F := F.2 c14
              refine w_b 2 98 [(0, .ref 44), (1, .int a), (2, .int b), (3, .int c), (4, .int d), (5, .int e), (6, .int f), (7, .int x7)] [.ref 44, .ref 44] rfl ?_
              refine w_get (g := 579) rfl rfl rfl (kd_44 sh11) ?_
              refine w_b 2 103 [(0, .ref 44), (1, .int a), (2, .int b), (3, .int c), (4, .int d), (5, .int e), (6, .int f), (7, .int x7)] [.int ((h_oi h11 579 44) + 4), .ref 44] rfl ?_
              refine w_cv (As := [.int ((h_oi h11 579 44) + 4)]) (b := 44) (rest := []) rfl rfl rfl (Nat.le_of_ble_eq_true rfl) (kd_44 sh11) (fun z => absurd z (by decide)) (dc := 0) (by omega) (F.mono (fun r h15 F => ?_))
              obtain ⟨z16, rfl, sh15, F⟩ := F
              show w_p _ _ 106 [(0, .ref 44), (1, .int a), (2, .int b), (3, .int c), (4, .int d), (5, .int e), (6, .int f), (7, .int x7)] [.int z16] h15 _
              refine w_b 1 108 [(0, .ref 44), (1, .int a), (2, .int b), (3, .int c), (4, .int d), (5, .int e), (6, .int f), (7, .int x7)] [.int e, .int z16] rfl ?_
              refine w_ic_ne (tgt := 135) (x := z16) (y := e) rfl (by decide) ⟨fun c17 => ?_, fun c17 => ?_⟩
              · have F := F.1 c17
                refine w_b 1 136 [(0, .ref 44), (1, .int a), (2, .int b), (3, .int c), (4, .int d), (5, .int e), (6, .int f), (7, .int x7)] [.int 0] rfl ?_
                exact w_br rfl (by decide) F
              · have F := F.2 (Decidable.not_not.mp c17)
                exact k111 _ _ _ _ _ _ _ _ F

set_option maxRecDepth 20000 in
theorem t_X9_isName_111 {h : mm_H} {Q : Option Value → mm_H → Prop} (sh : s_h h) (a : Int32) (b : Int32) (c : Int32) (d : Int32) (e : Int32) (f : Int32) (x7 : Int32) 
    (F : ((f = 0 → Q (some (.int 1)) h) ∧ (¬ (f = 0) → w_c 0 107 [.ref 44, .int ((h_oi h 579 44) + 5)] h (fun r h2 => ∃ z3 : Int32, r = some (.int z3) ∧ s_h h2 ∧ ((¬ z3 = f → Q (some (.int 0)) h2) ∧ (z3 = f → Q (some (.int 1)) h2)))))) :
    w_p 1 (9, 8, mc_X9_isName) 111 [(0, .ref 44), (1, .int a), (2, .int b), (3, .int c), (4, .int d), (5, .int e), (6, .int f), (7, .int x7)] [] h Q := by
  refine w_b 1 113 [(0, .ref 44), (1, .int a), (2, .int b), (3, .int c), (4, .int d), (5, .int e), (6, .int f), (7, .int x7)] [.int f] rfl ?_
  refine w_if_eq (tgt := 131) (x := f) rfl (by decide) ⟨fun c1 => ?_, fun c1 => ?_⟩
  · have F := F.1 c1
    refine w_b 2 136 [(0, .ref 44), (1, .int a), (2, .int b), (3, .int c), (4, .int d), (5, .int e), (6, .int f), (7, .int x7)] [.int 1] rfl ?_
    exact w_br rfl (by decide) F
  · have F := F.2 c1
    refine w_b 2 118 [(0, .ref 44), (1, .int a), (2, .int b), (3, .int c), (4, .int d), (5, .int e), (6, .int f), (7, .int x7)] [.ref 44, .ref 44] rfl ?_
    refine w_get (g := 579) rfl rfl rfl (kd_44 sh) ?_
    refine w_b 2 123 [(0, .ref 44), (1, .int a), (2, .int b), (3, .int c), (4, .int d), (5, .int e), (6, .int f), (7, .int x7)] [.int ((h_oi h 579 44) + 5), .ref 44] rfl ?_
    refine w_cv (As := [.int ((h_oi h 579 44) + 5)]) (b := 44) (rest := []) rfl rfl rfl (Nat.le_of_ble_eq_true rfl) (kd_44 sh) (fun z => absurd z (by decide)) (dc := 0) (by omega) (F.mono (fun r h2 F => ?_))
    obtain ⟨z3, rfl, sh2, F⟩ := F
    show w_p _ _ 126 [(0, .ref 44), (1, .int a), (2, .int b), (3, .int c), (4, .int d), (5, .int e), (6, .int f), (7, .int x7)] [.int z3] h2 _
    refine w_b 1 128 [(0, .ref 44), (1, .int a), (2, .int b), (3, .int c), (4, .int d), (5, .int e), (6, .int f), (7, .int x7)] [.int f, .int z3] rfl ?_
    refine w_ic_ne (tgt := 135) (x := z3) (y := f) rfl (by decide) ⟨fun c4 => ?_, fun c4 => ?_⟩
    · have F := F.1 c4
      refine w_b 1 136 [(0, .ref 44), (1, .int a), (2, .int b), (3, .int c), (4, .int d), (5, .int e), (6, .int f), (7, .int x7)] [.int 0] rfl ?_
      exact w_br rfl (by decide) F
    · have F := F.2 (Decidable.not_not.mp c4)
      refine w_b 2 136 [(0, .ref 44), (1, .int a), (2, .int b), (3, .int c), (4, .int d), (5, .int e), (6, .int f), (7, .int x7)] [.int 1] rfl ?_
      exact w_br rfl (by decide) F

set_option maxRecDepth 20000 in
theorem t_X9_nameNow_0 {h : mm_H} {Q : Option Value → mm_H → Prop} (sh : s_h h) 
    (F : w_c 1 108 [.ref 44, .int 105, .int 115, .int 115, .int 117, .int 101, .int 0] h (fun r h1 => ∃ z2 : Int32, r = some (.int z2) ∧ s_h h1 ∧ ((z2 = 0 → w_c 1 108 [.ref 44, .int 100, .int 111, .int 117, .int 98, .int 108, .int 101] h1 (fun r h4 => ∃ z5 : Int32, r = some (.int z5) ∧ s_h h4 ∧ ((z5 = 0 → w_c 1 108 [.ref 44, .int 101, .int 120, .int 112, .int 105, .int 114, .int 101] h4 (fun r h7 => ∃ z8 : Int32, r = some (.int z8) ∧ s_h h7 ∧ ((z8 = 0 → w_c 1 108 [.ref 44, .int 108, .int 97, .int 116, .int 101, .int 0, .int 0] h7 (fun r h10 => ∃ z11 : Int32, r = some (.int z11) ∧ s_h h10 ∧ ((z11 = 0 → w_c 1 108 [.ref 44, .int 100, .int 101, .int 98, .int 116, .int 0, .int 0] h10 (fun r h13 => ∃ z14 : Int32, r = some (.int z14) ∧ s_h h13 ∧ ((z14 = 0 → Q (some (.int (-4))) h13) ∧ (¬ (z14 = 0) → Q (some (.int 4)) h13)))) ∧ (¬ (z11 = 0) → Q (some (.int 3)) h10)))) ∧ (¬ (z8 = 0) → Q (some (.int 2)) h7)))) ∧ (¬ (z5 = 0) → Q (some (.int 1)) h4)))) ∧ (¬ (z2 = 0) → Q (some (.int 0)) h1)))) :
    w_c 2 109 [.ref 44] h Q := by
  refine w_ci (M := (9, 1, mc_X9_nameNow)) rfl (Nat.le_of_ble_eq_true rfl) ?_
  show w_p _ _ 0 [(0, .ref 44)] [] h Q
  refine w_b 7 12 [(0, .ref 44)] [.int 0, .int 101, .int 117, .int 115, .int 115, .int 105, .ref 44] rfl ?_
  refine w_cv (As := [.int 105, .int 115, .int 115, .int 117, .int 101, .int 0]) (b := 44) (rest := []) rfl rfl rfl (Nat.le_of_ble_eq_true rfl) (kd_44 sh) (fun z => absurd z (by decide)) (dc := 1) (by omega) (F.mono (fun r h1 F => ?_))
  obtain ⟨z2, rfl, sh1, F⟩ := F
  show w_p _ _ 15 [(0, .ref 44)] [.int z2] h1 _
  refine w_if_eq (tgt := 20) (x := z2) rfl (by decide) ⟨fun c3 => ?_, fun c3 => ?_⟩
  · have F := F.1 c3
    refine w_b 7 33 [(0, .ref 44)] [.int 101, .int 108, .int 98, .int 117, .int 111, .int 100, .ref 44] rfl ?_
    refine w_cv (As := [.int 100, .int 111, .int 117, .int 98, .int 108, .int 101]) (b := 44) (rest := []) rfl rfl rfl (Nat.le_of_ble_eq_true rfl) (kd_44 sh1) (fun z => absurd z (by decide)) (dc := 1) (by omega) (F.mono (fun r h4 F => ?_))
    obtain ⟨z5, rfl, sh4, F⟩ := F
    show w_p _ _ 36 [(0, .ref 44)] [.int z5] h4 _
    refine w_if_eq (tgt := 41) (x := z5) rfl (by decide) ⟨fun c6 => ?_, fun c6 => ?_⟩
    · have F := F.1 c6
      refine w_b 7 54 [(0, .ref 44)] [.int 101, .int 114, .int 105, .int 112, .int 120, .int 101, .ref 44] rfl ?_
      refine w_cv (As := [.int 101, .int 120, .int 112, .int 105, .int 114, .int 101]) (b := 44) (rest := []) rfl rfl rfl (Nat.le_of_ble_eq_true rfl) (kd_44 sh4) (fun z => absurd z (by decide)) (dc := 1) (by omega) (F.mono (fun r h7 F => ?_))
      obtain ⟨z8, rfl, sh7, F⟩ := F
      show w_p _ _ 57 [(0, .ref 44)] [.int z8] h7 _
      refine w_if_eq (tgt := 62) (x := z8) rfl (by decide) ⟨fun c9 => ?_, fun c9 => ?_⟩
      · have F := F.1 c9
        refine w_b 7 73 [(0, .ref 44)] [.int 0, .int 0, .int 101, .int 116, .int 97, .int 108, .ref 44] rfl ?_
        refine w_cv (As := [.int 108, .int 97, .int 116, .int 101, .int 0, .int 0]) (b := 44) (rest := []) rfl rfl rfl (Nat.le_of_ble_eq_true rfl) (kd_44 sh7) (fun z => absurd z (by decide)) (dc := 1) (by omega) (F.mono (fun r h10 F => ?_))
        obtain ⟨z11, rfl, sh10, F⟩ := F
        show w_p _ _ 76 [(0, .ref 44)] [.int z11] h10 _
        refine w_if_eq (tgt := 81) (x := z11) rfl (by decide) ⟨fun c12 => ?_, fun c12 => ?_⟩
        · have F := F.1 c12
          refine w_b 7 92 [(0, .ref 44)] [.int 0, .int 0, .int 116, .int 98, .int 101, .int 100, .ref 44] rfl ?_
          refine w_cv (As := [.int 100, .int 101, .int 98, .int 116, .int 0, .int 0]) (b := 44) (rest := []) rfl rfl rfl (Nat.le_of_ble_eq_true rfl) (kd_44 sh10) (fun z => absurd z (by decide)) (dc := 1) (by omega) (F.mono (fun r h13 F => ?_))
          obtain ⟨z14, rfl, sh13, F⟩ := F
          show w_p _ _ 95 [(0, .ref 44)] [.int z14] h13 _
          refine w_if_eq (tgt := 102) (x := z14) rfl (by decide) ⟨fun c15 => ?_, fun c15 => ?_⟩
          · have F := F.1 c15
            refine w_b 1 104 [(0, .ref 44)] [.int (-4)] rfl ?_
            exact w_ir rfl F
          · have F := F.2 c15
            refine w_b 2 104 [(0, .ref 44)] [.int 4] rfl ?_
            exact w_ir rfl F
        · have F := F.2 c12
          refine w_b 1 80 [(0, .ref 44)] [.int 3] rfl ?_
          exact w_ir rfl F
      · have F := F.2 c9
        refine w_b 1 61 [(0, .ref 44)] [.int 2] rfl ?_
        exact w_ir rfl F
    · have F := F.2 c6
      refine w_b 1 40 [(0, .ref 44)] [.int 1] rfl ?_
      exact w_ir rfl F
  · have F := F.2 c3
    refine w_b 1 19 [(0, .ref 44)] [.int 0] rfl ?_
    exact w_ir rfl F

set_option maxRecDepth 20000 in
theorem t_X9_next_L {h : mm_H} {Q : Option Value → mm_H → Prop} (sh : s_h h) {K0 : mm_H → Prop} (k0 : ∀  (h : mm_H), K0  h → w_p 3 (9, 2, mc_X9_next) 0 [(0, .ref 44)] [] h Q) {K74 : Int32 → mm_H → Prop} (k74 : ∀ (x1 : Int32) (h : mm_H), K74 x1 h → w_p 3 (9, 2, mc_X9_next) 74 [(0, .ref 44), (1, .int x1)] [] h Q) {K161 : Int32 → mm_H → Prop} (k161 : ∀ (x1 : Int32) (h : mm_H), K161 x1 h → w_p 3 (9, 2, mc_X9_next) 161 [(0, .ref 44), (1, .int x1)] [] h Q) 
    (F : w_c 0 107 [.ref 44, .int (h_oi h 578 44)] h (fun r h1 => ∃ z2 : Int32, r = some (.int z2) ∧ s_h h1 ∧ ((¬ z2 = 32 → w_c 0 107 [.ref 44, .int (h_oi h1 578 44)] (h_sI h1 579 44 (h_oi h1 578 44)) (fun r h4 => ∃ z5 : Int32, r = some (.int z5) ∧ s_h h4 ∧ ((0 ≤ z5 → (((f_in z5.toInt64 (Int64.ofNat 97) (Int64.ofNat 122)) = 0 → (((f_in z5.toInt64 (Int64.ofNat 48) (Int64.ofNat 57)) = 0 → ((¬ z5 = 59 → w_c 0 106 [.ref 44, .int 1, .int (h_oi h4 579 44)] h4 (fun r h10 => r = none ∧ s_h h10 ∧ Q none h10)) ∧ (z5 = 59 → Q none (h_sI (h_sI h4 580 44 3) 578 44 ((h_oi h4 578 44) + 1))))) ∧ (¬ ((f_in z5.toInt64 (Int64.ofNat 48) (Int64.ofNat 57)) = 0) → K161 z5 (h_sI (h_sI h4 580 44 2) 581 44 0)))) ∧ (¬ ((f_in z5.toInt64 (Int64.ofNat 97) (Int64.ofNat 122)) = 0) → K74 z5 (h_sI h4 580 44 1)))) ∧ (¬ (0 ≤ z5) → Q none (h_sI h4 580 44 0))))) ∧ (z2 = 32 → K0 (h_sI h1 578 44 ((h_oi h1 578 44) + 1)))))) :
    w_p 3 (9, 2, mc_X9_next) 0 [(0, .ref 44)] [] h Q := by
  refine w_b 2 2 [(0, .ref 44)] [.ref 44, .ref 44] rfl ?_
  refine w_get (g := 578) rfl rfl rfl (kd_44 sh) ?_
  refine w_cv (As := [.int (h_oi h 578 44)]) (b := 44) (rest := []) rfl rfl rfl (Nat.le_of_ble_eq_true rfl) (kd_44 sh) (fun z => absurd z (by decide)) (dc := 0) (by omega) (F.mono (fun r h1 F => ?_))
  obtain ⟨z2, rfl, sh1, F⟩ := F
  show w_p _ _ 8 [(0, .ref 44)] [.int z2] h1 _
  refine w_b 1 10 [(0, .ref 44)] [.int 32, .int z2] rfl ?_
  refine w_ic_ne (tgt := 26) (x := z2) (y := 32) rfl (by decide) ⟨fun c3 => ?_, fun c3 => ?_⟩
  · have F := F.1 c3
    refine w_b 2 28 [(0, .ref 44)] [.ref 44, .ref 44] rfl ?_
    refine w_get (g := 578) rfl rfl rfl (kd_44 sh1) ?_
    refine w_put (g := 579) (x := h_oi h1 578 44) rfl rfl rfl (kd_44 sh1) (by decide) ?_
    refine w_b 2 36 [(0, .ref 44)] [.ref 44, .ref 44] rfl ?_
    refine w_get (g := 578) rfl rfl rfl (kd_44 sh1) ?_
    refine w_cv (As := [.int (h_oi h1 578 44)]) (b := 44) (rest := []) rfl rfl rfl (Nat.le_of_ble_eq_true rfl) (kd_44 sh1) (fun z => absurd z (by decide)) (dc := 0) (by omega) (F.mono (fun r h4 F => ?_))
    obtain ⟨z5, rfl, sh4, F⟩ := F
    show w_p _ _ 42 [(0, .ref 44)] [.int z5] h4 _
    refine w_b 2 44 [(1, .int z5), (0, .ref 44)] [.int z5] rfl ?_
    refine w_if_ge (tgt := 55) (x := z5) rfl (by decide) ⟨fun c6 => ?_, fun c6 => ?_⟩
    · have F := F.1 c6
      refine w_b 4 63 [(1, .int z5), (0, .ref 44)] [.long (Int64.ofNat 122), .long (Int64.ofNat 97), .long z5.toInt64] rfl ?_
      refine w_cs (As := [.long z5.toInt64, .long (Int64.ofNat 97), .long (Int64.ofNat 122)]) (rest := []) rfl rfl rfl (Nat.le_of_ble_eq_true rfl) (dc := 0) (by omega) (sp_in  ?_)
      show w_p _ _ 66 [(1, .int z5), (0, .ref 44)] [.int (f_in z5.toInt64 (Int64.ofNat 97) (Int64.ofNat 122))] h4 _
      refine w_if_eq (tgt := 137) (x := f_in z5.toInt64 (Int64.ofNat 97) (Int64.ofNat 122)) rfl (by decide) ⟨fun c7 => ?_, fun c7 => ?_⟩
      · have F := F.1 c7
        refine w_b 4 145 [(1, .int z5), (0, .ref 44)] [.long (Int64.ofNat 57), .long (Int64.ofNat 48), .long z5.toInt64] rfl ?_
        refine w_cs (As := [.long z5.toInt64, .long (Int64.ofNat 48), .long (Int64.ofNat 57)]) (rest := []) rfl rfl rfl (Nat.le_of_ble_eq_true rfl) (dc := 0) (by omega) (sp_in  ?_)
        show w_p _ _ 148 [(1, .int z5), (0, .ref 44)] [.int (f_in z5.toInt64 (Int64.ofNat 48) (Int64.ofNat 57))] h4 _
        refine w_if_eq (tgt := 263) (x := f_in z5.toInt64 (Int64.ofNat 48) (Int64.ofNat 57)) rfl (by decide) ⟨fun c8 => ?_, fun c8 => ?_⟩
        · have F := F.1 c8
          refine w_b 2 266 [(1, .int z5), (0, .ref 44)] [.int 59, .int z5] rfl ?_
          refine w_ic_ne (tgt := 287) (x := z5) (y := 59) rfl (by decide) ⟨fun c9 => ?_, fun c9 => ?_⟩
          · have F := F.1 c9
            refine w_b 3 290 [(1, .int z5), (0, .ref 44)] [.ref 44, .int 1, .ref 44] rfl ?_
            refine w_get (g := 579) rfl rfl rfl (kd_44 sh4) ?_
            refine w_cv (As := [.int 1, .int (h_oi h4 579 44)]) (b := 44) (rest := []) rfl rfl rfl (Nat.le_of_ble_eq_true rfl) (kd_44 sh4) (fun z => absurd z (by decide)) (dc := 0) (by omega) (F.mono (fun r h10 F => ?_))
            obtain ⟨rfl, sh10, F⟩ := F
            show w_p _ _ 296 [(1, .int z5), (0, .ref 44)] [] h10 _
            exact w_vr rfl F
          · have F := F.2 (Decidable.not_not.mp c9)
            refine w_b 2 271 [(1, .int z5), (0, .ref 44)] [.int 3, .ref 44] rfl ?_
            refine w_put (g := 580) (x := 3) rfl rfl rfl (kd_44 sh4) (by decide) ?_
            refine w_b 2 276 [(1, .int z5), (0, .ref 44)] [.ref 44, .ref 44] rfl ?_
            refine w_get (g := 578) rfl rfl rfl (kd_44 sh4) ?_
            refine w_b 2 281 [(1, .int z5), (0, .ref 44)] [.int ((h_oi h4 578 44) + 1), .ref 44] rfl ?_
            refine w_put (g := 578) (x := (h_oi h4 578 44) + 1) rfl rfl rfl (kd_44 sh4) (by decide) ?_
            refine w_b 1 296 [(1, .int z5), (0, .ref 44)] [] rfl ?_
            exact w_vr rfl F
        · have F := F.2 c8
          refine w_b 2 153 [(1, .int z5), (0, .ref 44)] [.int 2, .ref 44] rfl ?_
          refine w_put (g := 580) (x := 2) rfl rfl rfl (kd_44 sh4) (by decide) ?_
          refine w_b 2 158 [(1, .int z5), (0, .ref 44)] [.int 0, .ref 44] rfl ?_
          refine w_put (g := 581) (x := 0) rfl rfl rfl (kd_44 sh4) (by decide) ?_
          refine w_lo [0, 1] [(0, .ref 44), (1, .int z5)] rfl rfl ?_
          exact k161 _ _ F
      · have F := F.2 c7
        refine w_b 2 71 [(1, .int z5), (0, .ref 44)] [.int 1, .ref 44] rfl ?_
        refine w_put (g := 580) (x := 1) rfl rfl rfl (kd_44 sh4) (by decide) ?_
        refine w_lo [0, 1] [(0, .ref 44), (1, .int z5)] rfl rfl ?_
        exact k74 _ _ F
    · have F := F.2 c6
      refine w_b 2 49 [(1, .int z5), (0, .ref 44)] [.int 0, .ref 44] rfl ?_
      refine w_put (g := 580) (x := 0) rfl rfl rfl (kd_44 sh4) (by decide) ?_
      refine w_b 1 296 [(1, .int z5), (0, .ref 44)] [] rfl ?_
      exact w_vr rfl F
  · have F := F.2 (Decidable.not_not.mp c3)
    refine w_b 2 15 [(0, .ref 44)] [.ref 44, .ref 44] rfl ?_
    refine w_get (g := 578) rfl rfl rfl (kd_44 sh1) ?_
    refine w_b 2 20 [(0, .ref 44)] [.int ((h_oi h1 578 44) + 1), .ref 44] rfl ?_
    refine w_put (g := 578) (x := (h_oi h1 578 44) + 1) rfl rfl rfl (kd_44 sh1) (by decide) ?_
    refine w_b 1 0 [(0, .ref 44)] [] rfl ?_
    exact k0 _ F

set_option maxRecDepth 20000 in
theorem t_X9_next_74 {h : mm_H} {Q : Option Value → mm_H → Prop} (sh : s_h h) (x1 : Int32) {K74 : Int32 → mm_H → Prop} (k74 : ∀ (x1 : Int32) (h : mm_H), K74 x1 h → w_p 3 (9, 2, mc_X9_next) 74 [(0, .ref 44), (1, .int x1)] [] h Q) 
    (F : w_c 0 107 [.ref 44, .int (h_oi h 578 44)] h (fun r h1 => ∃ z2 : Int32, r = some (.int z2) ∧ s_h h1 ∧ (((f_in z2.toInt64 (Int64.ofNat 97) (Int64.ofNat 122)) = 0 → w_c 2 109 [.ref 44] h1 (fun r h4 => ∃ z5 : Int32, r = some (.int z5) ∧ s_h h4 ∧ ((¬ z5 = (-4) → Q none (h_sI h4 581 44 z5)) ∧ (z5 = (-4) → w_c 0 106 [.ref 44, .int 1, .int (h_oi h4 579 44)] (h_sI h4 581 44 z5) (fun r h7 => r = none ∧ s_h h7 ∧ Q none h7))))) ∧ (¬ ((f_in z2.toInt64 (Int64.ofNat 97) (Int64.ofNat 122)) = 0) → K74 x1 (h_sI h1 578 44 ((h_oi h1 578 44) + 1)))))) :
    w_p 3 (9, 2, mc_X9_next) 74 [(0, .ref 44), (1, .int x1)] [] h Q := by
  refine w_b 2 76 [(0, .ref 44), (1, .int x1)] [.ref 44, .ref 44] rfl ?_
  refine w_get (g := 578) rfl rfl rfl (kd_44 sh) ?_
  refine w_cv (As := [.int (h_oi h 578 44)]) (b := 44) (rest := []) rfl rfl rfl (Nat.le_of_ble_eq_true rfl) (kd_44 sh) (fun z => absurd z (by decide)) (dc := 0) (by omega) (F.mono (fun r h1 F => ?_))
  obtain ⟨z2, rfl, sh1, F⟩ := F
  show w_p _ _ 82 [(0, .ref 44), (1, .int x1)] [.int z2] h1 _
  refine w_b 3 89 [(0, .ref 44), (1, .int x1)] [.long (Int64.ofNat 122), .long (Int64.ofNat 97), .long z2.toInt64] rfl ?_
  refine w_cs (As := [.long z2.toInt64, .long (Int64.ofNat 97), .long (Int64.ofNat 122)]) (rest := []) rfl rfl rfl (Nat.le_of_ble_eq_true rfl) (dc := 0) (by omega) (sp_in  ?_)
  show w_p _ _ 92 [(0, .ref 44), (1, .int x1)] [.int (f_in z2.toInt64 (Int64.ofNat 97) (Int64.ofNat 122))] h1 _
  refine w_if_eq (tgt := 108) (x := f_in z2.toInt64 (Int64.ofNat 97) (Int64.ofNat 122)) rfl (by decide) ⟨fun c3 => ?_, fun c3 => ?_⟩
  · have F := F.1 c3
    refine w_b 2 110 [(0, .ref 44), (1, .int x1)] [.ref 44, .ref 44] rfl ?_
    refine w_cv (As := []) (b := 44) (rest := [.ref 44]) rfl rfl rfl (Nat.le_of_ble_eq_true rfl) (kd_44 sh1) (fun z => absurd z (by decide)) (dc := 2) (by omega) (F.mono (fun r h4 F => ?_))
    obtain ⟨z5, rfl, sh4, F⟩ := F
    show w_p _ _ 113 [(0, .ref 44), (1, .int x1)] [.int z5, .ref 44] h4 _
    refine w_put (g := 581) (x := z5) rfl rfl rfl (kd_44 sh4) (by decide) ?_
    refine w_b 1 117 [(0, .ref 44), (1, .int x1)] [.ref 44] rfl ?_
    refine w_get (g := 581) rfl rfl rfl (kd_44 sh4) ?_
    refine w_b 1 122 [(0, .ref 44), (1, .int x1)] [.int (-4), .int z5] rfl ?_
    refine w_ic_ne (tgt := 296) (x := z5) (y := (-4)) rfl (by decide) ⟨fun c6 => ?_, fun c6 => ?_⟩
    · have F := F.1 c6
      exact w_vr rfl F
    · have F := F.2 (Decidable.not_not.mp c6)
      refine w_b 3 128 [(0, .ref 44), (1, .int x1)] [.ref 44, .int 1, .ref 44] rfl ?_
      refine w_get (g := 579) rfl rfl rfl (kd_44 sh4) ?_
      refine w_cv (As := [.int 1, .int (h_oi h4 579 44)]) (b := 44) (rest := []) rfl rfl rfl (Nat.le_of_ble_eq_true rfl) (kd_44 sh4) (fun z => absurd z (by decide)) (dc := 0) (by omega) (F.mono (fun r h7 F => ?_))
      obtain ⟨rfl, sh7, F⟩ := F
      show w_p _ _ 134 [(0, .ref 44), (1, .int x1)] [] h7 _
      refine w_b 1 296 [(0, .ref 44), (1, .int x1)] [] rfl ?_
      exact w_vr rfl F
  · have F := F.2 c3
    refine w_b 2 97 [(0, .ref 44), (1, .int x1)] [.ref 44, .ref 44] rfl ?_
    refine w_get (g := 578) rfl rfl rfl (kd_44 sh1) ?_
    refine w_b 2 102 [(0, .ref 44), (1, .int x1)] [.int ((h_oi h1 578 44) + 1), .ref 44] rfl ?_
    refine w_put (g := 578) (x := (h_oi h1 578 44) + 1) rfl rfl rfl (kd_44 sh1) (by decide) ?_
    refine w_b 1 74 [(0, .ref 44), (1, .int x1)] [] rfl ?_
    exact k74 _ _ F

set_option maxRecDepth 20000 in
theorem t_X9_next_161 {h : mm_H} {Q : Option Value → mm_H → Prop} (sh : s_h h) (x1 : Int32) {K161 : Int32 → mm_H → Prop} (k161 : ∀ (x1 : Int32) (h : mm_H), K161 x1 h → w_p 3 (9, 2, mc_X9_next) 161 [(0, .ref 44), (1, .int x1)] [] h Q) 
    (F : w_c 0 107 [.ref 44, .int (h_oi h 578 44)] h (fun r h1 => ∃ z2 : Int32, r = some (.int z2) ∧ s_h h1 ∧ (((f_in z2.toInt64 (Int64.ofNat 48) (Int64.ofNat 57)) = 0 → ((((h_oi h1 578 44) - (h_oi h1 579 44)) ≤ 4 → Q none h1) ∧ (¬ (((h_oi h1 578 44) - (h_oi h1 579 44)) ≤ 4) → w_c 0 106 [.ref 44, .int 1, .int (h_oi h1 579 44)] h1 (fun r h5 => r = none ∧ s_h h5 ∧ Q none h5)))) ∧ (¬ ((f_in z2.toInt64 (Int64.ofNat 48) (Int64.ofNat 57)) = 0) → ((4 ≤ ((h_oi h1 578 44) - (h_oi h1 579 44)) → K161 x1 (h_sI (h_sI h1 581 44 (h_oi h1 581 44)) 578 44 ((h_oi h1 578 44) + 1))) ∧ (¬ (4 ≤ ((h_oi h1 578 44) - (h_oi h1 579 44))) → w_c 0 107 [.ref 44, .int (h_oi h1 578 44)] h1 (fun r h7 => ∃ z8 : Int32, r = some (.int z8) ∧ s_h h7 ∧ K161 x1 (h_sI (h_sI h7 581 44 ((((10 : Int32) * (h_oi h1 581 44)) + z8) - (48 : Int32))) 578 44 ((h_oi h7 578 44) + 1))))))))) :
    w_p 3 (9, 2, mc_X9_next) 161 [(0, .ref 44), (1, .int x1)] [] h Q := by
  refine w_b 2 163 [(0, .ref 44), (1, .int x1)] [.ref 44, .ref 44] rfl ?_
  refine w_get (g := 578) rfl rfl rfl (kd_44 sh) ?_
  refine w_cv (As := [.int (h_oi h 578 44)]) (b := 44) (rest := []) rfl rfl rfl (Nat.le_of_ble_eq_true rfl) (kd_44 sh) (fun z => absurd z (by decide)) (dc := 0) (by omega) (F.mono (fun r h1 F => ?_))
  obtain ⟨z2, rfl, sh1, F⟩ := F
  show w_p _ _ 169 [(0, .ref 44), (1, .int x1)] [.int z2] h1 _
  refine w_b 3 176 [(0, .ref 44), (1, .int x1)] [.long (Int64.ofNat 57), .long (Int64.ofNat 48), .long z2.toInt64] rfl ?_
  refine w_cs (As := [.long z2.toInt64, .long (Int64.ofNat 48), .long (Int64.ofNat 57)]) (rest := []) rfl rfl rfl (Nat.le_of_ble_eq_true rfl) (dc := 0) (by omega) (sp_in  ?_)
  show w_p _ _ 179 [(0, .ref 44), (1, .int x1)] [.int (f_in z2.toInt64 (Int64.ofNat 48) (Int64.ofNat 57))] h1 _
  refine w_if_eq (tgt := 238) (x := f_in z2.toInt64 (Int64.ofNat 48) (Int64.ofNat 57)) rfl (by decide) ⟨fun c3 => ?_, fun c3 => ?_⟩
  · have F := F.1 c3
    refine w_b 1 239 [(0, .ref 44), (1, .int x1)] [.ref 44] rfl ?_
    refine w_get (g := 578) rfl rfl rfl (kd_44 sh1) ?_
    refine w_b 1 243 [(0, .ref 44), (1, .int x1)] [.ref 44, .int (h_oi h1 578 44)] rfl ?_
    refine w_get (g := 579) rfl rfl rfl (kd_44 sh1) ?_
    refine w_b 2 248 [(0, .ref 44), (1, .int x1)] [.int 4, .int ((h_oi h1 578 44) - (h_oi h1 579 44))] rfl ?_
    refine w_ic_le (tgt := 296) (x := (h_oi h1 578 44) - (h_oi h1 579 44)) (y := 4) rfl (by decide) ⟨fun c4 => ?_, fun c4 => ?_⟩
    · have F := F.1 c4
      exact w_vr rfl F
    · have F := F.2 c4
      refine w_b 3 254 [(0, .ref 44), (1, .int x1)] [.ref 44, .int 1, .ref 44] rfl ?_
      refine w_get (g := 579) rfl rfl rfl (kd_44 sh1) ?_
      refine w_cv (As := [.int 1, .int (h_oi h1 579 44)]) (b := 44) (rest := []) rfl rfl rfl (Nat.le_of_ble_eq_true rfl) (kd_44 sh1) (fun z => absurd z (by decide)) (dc := 0) (by omega) (F.mono (fun r h5 F => ?_))
      obtain ⟨rfl, sh5, F⟩ := F
      show w_p _ _ 260 [(0, .ref 44), (1, .int x1)] [] h5 _
      refine w_b 1 296 [(0, .ref 44), (1, .int x1)] [] rfl ?_
      exact w_vr rfl F
  · have F := F.2 c3
    refine w_b 2 184 [(0, .ref 44), (1, .int x1)] [.ref 44, .ref 44] rfl ?_
    refine w_get (g := 578) rfl rfl rfl (kd_44 sh1) ?_
    refine w_b 1 188 [(0, .ref 44), (1, .int x1)] [.ref 44, .int (h_oi h1 578 44), .ref 44] rfl ?_
    refine w_get (g := 579) rfl rfl rfl (kd_44 sh1) ?_
    refine w_b 2 193 [(0, .ref 44), (1, .int x1)] [.int 4, .int ((h_oi h1 578 44) - (h_oi h1 579 44)), .ref 44] rfl ?_
    refine w_ic_ge (tgt := 218) (x := (h_oi h1 578 44) - (h_oi h1 579 44)) (y := 4) rfl (by decide) ⟨fun c6 => ?_, fun c6 => ?_⟩
    · have F := F.1 c6
      refine w_b 1 219 [(0, .ref 44), (1, .int x1)] [.ref 44, .ref 44] rfl ?_
      refine w_get (g := 581) rfl rfl rfl (kd_44 sh1) ?_
      refine w_put (g := 581) (x := h_oi h1 581 44) rfl rfl rfl (kd_44 sh1) (by decide) ?_
      refine w_b 2 227 [(0, .ref 44), (1, .int x1)] [.ref 44, .ref 44] rfl ?_
      refine w_get (g := 578) rfl rfl rfl (kd_44 sh1) ?_
      refine w_b 2 232 [(0, .ref 44), (1, .int x1)] [.int ((h_oi h1 578 44) + 1), .ref 44] rfl ?_
      refine w_put (g := 578) (x := (h_oi h1 578 44) + 1) rfl rfl rfl (kd_44 sh1) (by decide) ?_
      refine w_b 1 161 [(0, .ref 44), (1, .int x1)] [] rfl ?_
      exact k161 _ _ F
    · have F := F.2 c6
      refine w_b 2 199 [(0, .ref 44), (1, .int x1)] [.ref 44, .int 10, .ref 44] rfl ?_
      refine w_get (g := 581) rfl rfl rfl (kd_44 sh1) ?_
      refine w_b 3 205 [(0, .ref 44), (1, .int x1)] [.ref 44, .ref 44, .int ((10 : Int32) * (h_oi h1 581 44)), .ref 44] rfl ?_
      refine w_get (g := 578) rfl rfl rfl (kd_44 sh1) ?_
      refine w_cv (As := [.int (h_oi h1 578 44)]) (b := 44) (rest := [.int ((10 : Int32) * (h_oi h1 581 44)), .ref 44]) rfl rfl rfl (Nat.le_of_ble_eq_true rfl) (kd_44 sh1) (fun z => absurd z (by decide)) (dc := 0) (by omega) (F.mono (fun r h7 F => ?_))
      obtain ⟨z8, rfl, sh7, F⟩ := F
      show w_p _ _ 211 [(0, .ref 44), (1, .int x1)] [.int z8, .int ((10 : Int32) * (h_oi h1 581 44)), .ref 44] h7 _
      refine w_b 4 222 [(0, .ref 44), (1, .int x1)] [.int ((((10 : Int32) * (h_oi h1 581 44)) + z8) - (48 : Int32)), .ref 44] rfl ?_
      refine w_put (g := 581) (x := (((10 : Int32) * (h_oi h1 581 44)) + z8) - (48 : Int32)) rfl rfl rfl (kd_44 sh7) (by decide) ?_
      refine w_b 2 227 [(0, .ref 44), (1, .int x1)] [.ref 44, .ref 44] rfl ?_
      refine w_get (g := 578) rfl rfl rfl (kd_44 sh7) ?_
      refine w_b 2 232 [(0, .ref 44), (1, .int x1)] [.int ((h_oi h7 578 44) + 1), .ref 44] rfl ?_
      refine w_put (g := 578) (x := (h_oi h7 578 44) + 1) rfl rfl rfl (kd_44 sh7) (by decide) ?_
      refine w_b 1 161 [(0, .ref 44), (1, .int x1)] [] rfl ?_
      exact k161 _ _ F

/-! THE REFERENCE SCANS -/
section RM
variable {h : mm_H} {Q : Option Value → mm_H → Prop} {T : zT}
theorem m_lookI (sh : s_h h) (H : mT h T.1 T.2) {i : Nat} (hi : i < T.1) (k : T.2 i < 256 → Q (some (.int (nI (T.2 i)))) h) : w_c 0 107 [.ref 44, .int (nI i)] h Q := by
  obtain ⟨h1, h2, h3⟩ := H
  refine t_X9_look_0 sh _ ?_
  rw [h2, i_cl (by omega), (h3 i hi).2]
  refine ⟨fun c => ?_, fun _ => ⟨vp_in_nI (by omega) (by decide), k (h3 i hi).1⟩⟩
  rw [i_le (by omega) (by omega)] at c
  omega
theorem m_lookE (sh : s_h h) (H : mT h T.1 T.2) {i : Nat} (hi : T.1 ≤ i) (hi2 : i < 2147483648) (k : Q (some (.int (-1))) h) : w_c 0 107 [.ref 44, .int (nI i)] h Q := by
  obtain ⟨h1, h2, h3⟩ := H
  refine t_X9_look_0 sh _ ⟨fun _ => k, fun c => absurd ?_ c⟩
  rw [h2, i_le (by omega) (by omega)]
  exact hi
theorem m_failsZ (sh : s_h h) {code p : Int32} (e0 : h_oi h 582 44 = 0) (k : Q none (h_sI (h_sI h 582 44 code) 583 44 p)) : w_c 0 106 [.ref 44, .int code, .int p] h Q := t_X9_fails_0 sh _ _ ⟨fun z => absurd e0 z, fun _ => k⟩
def isW (T : zT) (s e a b c d x y : Nat) : Prop := e - s = (if x = 0 then 4 else if y = 0 then 5 else 6) ∧ T.2 s = a ∧ T.2 (s + 1) = b ∧ T.2 (s + 2) = c ∧ T.2 (s + 3) = d ∧ (x = 0 ∨ T.2 (s + 4) = x) ∧ (y = 0 ∨ T.2 (s + 5) = y)
theorem m_isName (sh : s_h h) (H : mT h T.1 T.2) {s e : Nat} (hse : s ≤ e) (he : e ≤ T.1) (e1 : h_oi h 579 44 = nI s) (e2 : h_oi h 578 44 = nI e) {a b c d x y : Nat} (ha : a < 128) (hb : b < 128) (hc : c < 128) (hd : d < 128) (hx : x < 128) (hy : y < 128) (hxy : x = 0 → y = 0) (k0 : ¬ isW T s e a b c d x y → Q (some (.int 0)) h) (k1 : isW T s e a b c d x y → Q (some (.int 1)) h) : w_c 1 108 [.ref 44, .int (nI a), .int (nI b), .int (nI c), .int (nI d), .int (nI x), .int (nI y)] h Q := by
  have hT := H.1
  have nz : ∀ v, v < 128 → (nI v = 0 ↔ v = 0) := fun v hv => nI_eqI (b := 0) (by omega) (by decide)
  have len : ∀ n, n = (if x = 0 then 4 else if y = 0 then 5 else 6) → w_p 1 (9, 8, mc_X9_isName) 22 [(0, .ref 44), (1, .int (nI a)), (2, .int (nI b)), (3, .int (nI c)), (4, .int (nI d)), (5, .int (nI x)), (6, .int (nI y)), (7, .int (nI n))] [] h Q := by
    intro n hn
    have n6 : n ≤ 6 ∧ 4 ≤ n := by
      rw [hn]
      by_cases z : x = 0
      · rw [if_pos z]; decide
      · rw [if_neg z]
        by_cases z2 : y = 0
        · rw [if_pos z2]; decide
        · rw [if_neg z2]; decide
    have tail : e - s = n → T.2 s = a → T.2 (s + 1) = b → T.2 (s + 2) = c → T.2 (s + 3) = d → (x = 0 ∨ T.2 (s + 4) = x) → w_p 1 (9, 8, mc_X9_isName) 111 [(0, .ref 44), (1, .int (nI a)), (2, .int (nI b)), (3, .int (nI c)), (4, .int (nI d)), (5, .int (nI x)), (6, .int (nI y)), (7, .int (nI n))] [] h Q := by
      intro q0 q1 q2 q3 q4 q5
      refine t_X9_isName_111 sh _ _ _ _ _ _ _ ⟨fun z => k1 ⟨q0.trans hn, q1, q2, q3, q4, q5, Or.inl ((nz y hy).mp z)⟩, fun z => ?_⟩
      have y0 : ¬ y = 0 := fun w => z ((nz y hy).mpr w)
      have x0 : ¬ x = 0 := fun w => y0 (hxy w)
      rw [if_neg x0, if_neg y0] at hn
      rw [e1, show nI s + 5 = nI (s + 5) from nI_add s 5]
      refine (m_lookI sh H (by omega) (fun hb => ⟨_, rfl, sh, ?_⟩)).up (by decide)
      rw [nI_eqI (by omega) (by omega)]
      refine ⟨fun w => k0 (fun u => ?_), fun w => k1 ⟨by rw [if_neg x0, if_neg y0]; omega, q1, q2, q3, q4, q5, Or.inr w⟩⟩
      rcases u.2.2.2.2.2.2 with u | u
      · exact y0 u
      · exact w u
    refine t_X9_isName_22 sh _ _ _ _ _ _ _ (K111 := fun y1 y2 y3 y4 y5 y6 y7 hh => y1 = nI a ∧ y2 = nI b ∧ y3 = nI c ∧ y4 = nI d ∧ y5 = nI x ∧ y6 = nI y ∧ y7 = nI n ∧ hh = h ∧ e - s = n ∧ T.2 s = a ∧ T.2 (s + 1) = b ∧ T.2 (s + 2) = c ∧ T.2 (s + 3) = d ∧ (x = 0 ∨ T.2 (s + 4) = x)) (fun y1 y2 y3 y4 y5 y6 y7 hh z => ?_) ?_
    · obtain ⟨rfl, rfl, rfl, rfl, rfl, rfl, rfl, rfl, q0, q1, q2, q3, q4, q5⟩ := z
      exact tail q0 q1 q2 q3 q4 q5
    · rw [e1, e2, nI_sub hse, nI_eqI (by omega) (by omega)]
      refine ⟨fun z => k0 (fun u => z (u.1.trans hn.symm)), fun q0 => ?_⟩
      refine (m_lookI sh H (by omega) (fun hb1 => ⟨_, rfl, sh, ?_⟩)).up (by decide)
      rw [nI_eqI (by omega) (by omega)]
      refine ⟨fun z => k0 (fun u => z u.2.1), fun q1 => ?_⟩
      rw [e1, nI_1]
      refine (m_lookI sh H (by omega) (fun hb1 => ⟨_, rfl, sh, ?_⟩)).up (by decide)
      rw [nI_eqI (by omega) (by omega)]
      refine ⟨fun z => k0 (fun u => z u.2.2.1), fun q2 => ?_⟩
      rw [e1, show nI s + 2 = nI (s + 2) from nI_add s 2]
      refine (m_lookI sh H (by omega) (fun hb1 => ⟨_, rfl, sh, ?_⟩)).up (by decide)
      rw [nI_eqI (by omega) (by omega)]
      refine ⟨fun z => k0 (fun u => z u.2.2.2.1), fun q3 => ?_⟩
      rw [e1, show nI s + 3 = nI (s + 3) from nI_add s 3]
      refine (m_lookI sh H (by omega) (fun hb1 => ⟨_, rfl, sh, ?_⟩)).up (by decide)
      rw [nI_eqI (by omega) (by omega), nz x hx]
      refine ⟨fun z => k0 (fun u => z u.2.2.2.2.1), fun q4 => ⟨fun z => ⟨rfl, rfl, rfl, rfl, rfl, rfl, rfl, rfl, q0, q1, q2, q3, q4, Or.inl z⟩, fun z => ?_⟩⟩
      have n5 : 5 ≤ n := by
        rw [hn, if_neg z]
        by_cases z2 : y = 0
        · rw [if_pos z2]; decide
        · rw [if_neg z2]; decide
      rw [e1, show nI s + 4 = nI (s + 4) from nI_add s 4]
      refine (m_lookI sh H (by omega) (fun hb1 => ⟨_, rfl, sh, ?_⟩)).up (by decide)
      rw [nI_eqI (by omega) (by omega)]
      refine ⟨fun w => k0 (fun u => ?_), fun w => ⟨rfl, rfl, rfl, rfl, rfl, rfl, rfl, rfl, q0, q1, q2, q3, q4, Or.inr w⟩⟩
      rcases u.2.2.2.2.2.1 with u | u
      · exact z u
      · exact w u
  refine t_X9_isName_0 sh _ _ _ _ _ _ (K22 := fun y1 y2 y3 y4 y5 y6 y7 hh => y1 = nI a ∧ y2 = nI b ∧ y3 = nI c ∧ y4 = nI d ∧ y5 = nI x ∧ y6 = nI y ∧ hh = h ∧ ∃ n, n = (if x = 0 then 4 else if y = 0 then 5 else 6) ∧ y7 = nI n) (fun y1 y2 y3 y4 y5 y6 y7 hh z => ?_) ?_
  · obtain ⟨rfl, rfl, rfl, rfl, rfl, rfl, rfl, n, hn, rfl⟩ := z
    exact len n hn
  · rw [nz x hx, nz y hy]
    exact ⟨fun z => ⟨fun z2 => ⟨rfl, rfl, rfl, rfl, rfl, rfl, rfl, 6, by rw [if_neg z, if_neg z2], rfl⟩, fun z2 => ⟨rfl, rfl, rfl, rfl, rfl, rfl, rfl, 5, by rw [if_neg z, if_pos z2], rfl⟩⟩, fun z => ⟨rfl, rfl, rfl, rfl, rfl, rfl, rfl, 4, by rw [if_pos z], rfl⟩⟩
theorem isW_0 (T : zT) (s e : Nat) : isW T s e 105 115 115 117 101 0 ↔ zSp T s e 0 := by
  have el : (mm_tx (4 + 0)).length = 5 := rfl
  unfold isW zSp
  rw [el]
  refine ⟨fun u => ⟨u.1.trans (by decide), fun i hi => ?_⟩, fun u => ⟨u.1.trans (by decide), u.2 0 (by decide), u.2 1 (by decide), u.2 2 (by decide), u.2 3 (by decide), Or.inr (u.2 4 (by decide)), Or.inl rfl⟩⟩
  have : i = 0 ∨ i = 1 ∨ i = 2 ∨ i = 3 ∨ i = 4 := by omega
  rcases this with rfl | rfl | rfl | rfl | rfl
  · exact u.2.1
  · exact u.2.2.1
  · exact u.2.2.2.1
  · exact u.2.2.2.2.1
  · exact u.2.2.2.2.2.1.resolve_left (by decide)
theorem isW_1 (T : zT) (s e : Nat) : isW T s e 100 111 117 98 108 101 ↔ zSp T s e 1 := by
  have el : (mm_tx (4 + 1)).length = 6 := rfl
  unfold isW zSp
  rw [el]
  refine ⟨fun u => ⟨u.1.trans (by decide), fun i hi => ?_⟩, fun u => ⟨u.1.trans (by decide), u.2 0 (by decide), u.2 1 (by decide), u.2 2 (by decide), u.2 3 (by decide), Or.inr (u.2 4 (by decide)), Or.inr (u.2 5 (by decide))⟩⟩
  have : i = 0 ∨ i = 1 ∨ i = 2 ∨ i = 3 ∨ i = 4 ∨ i = 5 := by omega
  rcases this with rfl | rfl | rfl | rfl | rfl | rfl
  · exact u.2.1
  · exact u.2.2.1
  · exact u.2.2.2.1
  · exact u.2.2.2.2.1
  · exact u.2.2.2.2.2.1.resolve_left (by decide)
  · exact u.2.2.2.2.2.2.resolve_left (by decide)
theorem isW_2 (T : zT) (s e : Nat) : isW T s e 101 120 112 105 114 101 ↔ zSp T s e 2 := by
  have el : (mm_tx (4 + 2)).length = 6 := rfl
  unfold isW zSp
  rw [el]
  refine ⟨fun u => ⟨u.1.trans (by decide), fun i hi => ?_⟩, fun u => ⟨u.1.trans (by decide), u.2 0 (by decide), u.2 1 (by decide), u.2 2 (by decide), u.2 3 (by decide), Or.inr (u.2 4 (by decide)), Or.inr (u.2 5 (by decide))⟩⟩
  have : i = 0 ∨ i = 1 ∨ i = 2 ∨ i = 3 ∨ i = 4 ∨ i = 5 := by omega
  rcases this with rfl | rfl | rfl | rfl | rfl | rfl
  · exact u.2.1
  · exact u.2.2.1
  · exact u.2.2.2.1
  · exact u.2.2.2.2.1
  · exact u.2.2.2.2.2.1.resolve_left (by decide)
  · exact u.2.2.2.2.2.2.resolve_left (by decide)
theorem isW_3 (T : zT) (s e : Nat) : isW T s e 108 97 116 101 0 0 ↔ zSp T s e 3 := by
  have el : (mm_tx (4 + 3)).length = 4 := rfl
  unfold isW zSp
  rw [el]
  refine ⟨fun u => ⟨u.1.trans (by decide), fun i hi => ?_⟩, fun u => ⟨u.1.trans (by decide), u.2 0 (by decide), u.2 1 (by decide), u.2 2 (by decide), u.2 3 (by decide), Or.inl rfl, Or.inl rfl⟩⟩
  have : i = 0 ∨ i = 1 ∨ i = 2 ∨ i = 3 := by omega
  rcases this with rfl | rfl | rfl | rfl
  · exact u.2.1
  · exact u.2.2.1
  · exact u.2.2.2.1
  · exact u.2.2.2.2.1
theorem isW_4 (T : zT) (s e : Nat) : isW T s e 100 101 98 116 0 0 ↔ zSp T s e 4 := by
  have el : (mm_tx (4 + 4)).length = 4 := rfl
  unfold isW zSp
  rw [el]
  refine ⟨fun u => ⟨u.1.trans (by decide), fun i hi => ?_⟩, fun u => ⟨u.1.trans (by decide), u.2 0 (by decide), u.2 1 (by decide), u.2 2 (by decide), u.2 3 (by decide), Or.inl rfl, Or.inl rfl⟩⟩
  have : i = 0 ∨ i = 1 ∨ i = 2 ∨ i = 3 := by omega
  rcases this with rfl | rfl | rfl | rfl
  · exact u.2.1
  · exact u.2.2.1
  · exact u.2.2.2.1
  · exact u.2.2.2.2.1
theorem m_nameNow (sh : s_h h) (H : mT h T.1 T.2) {s e : Nat} (hse : s ≤ e) (he : e ≤ T.1) (e1 : h_oi h 579 44 = nI s) (e2 : h_oi h 578 44 = nI e) (k : Q (some (.int (oN (zNm T s e)))) h) : w_c 2 109 [.ref 44] h Q := by
  refine t_X9_nameNow_0 sh (m_isName sh H hse he e1 e2 (a := 105) (b := 115) (c := 115) (d := 117) (x := 101) (y := 0) (by decide) (by decide) (by decide) (by decide) (by decide) (by decide) (by decide) (fun z0 => ⟨_, rfl, sh, fun _ => ?_, fun z => absurd rfl z⟩) (fun z0 => ⟨_, rfl, sh, fun z => absurd z (by decide), fun _ => ?_⟩))
  · refine m_isName sh H hse he e1 e2 (a := 100) (b := 111) (c := 117) (d := 98) (x := 108) (y := 101) (by decide) (by decide) (by decide) (by decide) (by decide) (by decide) (by decide) (fun z1 => ⟨_, rfl, sh, fun _ => ?_, fun z => absurd rfl z⟩) (fun z1 => ⟨_, rfl, sh, fun z => absurd z (by decide), fun _ => ?_⟩)
    · refine m_isName sh H hse he e1 e2 (a := 101) (b := 120) (c := 112) (d := 105) (x := 114) (y := 101) (by decide) (by decide) (by decide) (by decide) (by decide) (by decide) (by decide) (fun z2 => ⟨_, rfl, sh, fun _ => ?_, fun z => absurd rfl z⟩) (fun z2 => ⟨_, rfl, sh, fun z => absurd z (by decide), fun _ => ?_⟩)
      · refine m_isName sh H hse he e1 e2 (a := 108) (b := 97) (c := 116) (d := 101) (x := 0) (y := 0) (by decide) (by decide) (by decide) (by decide) (by decide) (by decide) (by decide) (fun z3 => ⟨_, rfl, sh, fun _ => ?_, fun z => absurd rfl z⟩) (fun z3 => ⟨_, rfl, sh, fun z => absurd z (by decide), fun _ => ?_⟩)
        · refine m_isName sh H hse he e1 e2 (a := 100) (b := 101) (c := 98) (d := 116) (x := 0) (y := 0) (by decide) (by decide) (by decide) (by decide) (by decide) (by decide) (by decide) (fun z4 => ⟨_, rfl, sh, fun _ => ?_, fun z => absurd rfl z⟩) (fun z4 => ⟨_, rfl, sh, fun z => absurd z (by decide), fun _ => ?_⟩)
          · rw [zNm_n (fun i hi y => ?_)] at k
            · exact k
            · have : i = 0 ∨ i = 1 ∨ i = 2 ∨ i = 3 ∨ i = 4 := by omega
              rcases this with rfl | rfl | rfl | rfl | rfl
              · exact z0 ((isW_0 T s e).mpr y)
              · exact z1 ((isW_1 T s e).mpr y)
              · exact z2 ((isW_2 T s e).mpr y)
              · exact z3 ((isW_3 T s e).mpr y)
              · exact z4 ((isW_4 T s e).mpr y)
          · rw [zNm_s (k := 4) (by decide) ((isW_4 T s e).mp z4)] at k; exact k
        · rw [zNm_s (k := 3) (by decide) ((isW_3 T s e).mp z3)] at k; exact k
      · rw [zNm_s (k := 2) (by decide) ((isW_2 T s e).mp z2)] at k; exact k
    · rw [zNm_s (k := 1) (by decide) ((isW_1 T s e).mp z1)] at k; exact k
  · rw [zNm_s (k := 0) (by decide) ((isW_0 T s e).mp z0)] at k; exact k
def gMR : List (Nat × Nat) := [(578, 44), (579, 44), (580, 44), (581, 44), (582, 44), (583, 44)]
def mTok (h : mm_H) (t : Nat × Nat × Nat × Nat) : Prop := (t.1 ≤ 3 ∧ h_oi h 582 44 = 0 ∧ h_oi h 580 44 = nI t.1 ∧ h_oi h 579 44 = nI t.2.1 ∧ h_oi h 578 44 = nI t.2.2.1 ∧ (t.1 = 1 ∨ t.1 = 2 → h_oi h 581 44 = nI t.2.2.2)) ∨ (t.1 = 4 ∧ h_oi h 582 44 = 1 ∧ h_oi h 583 44 = nI t.2.1)
theorem mT_r {h h' : mm_H} {T : zT} (H : mT h T.1 T.2) (f : fx h h' gMR []) : mT h' T.1 T.2 := H.fx f (by decide) (by decide)
theorem in_b {b lo hi : Nat} (hb : b < 256) (h1 : lo < 256) (h2 : hi < 256) : (f_in (nI b).toInt64 (Int64.ofNat lo) (Int64.ofNat hi) = 0) ↔ ¬ (lo ≤ b ∧ b ≤ hi) := by
  have e := f_in_nz (v := nI b) (a := lo) (b := hi) (by omega) (by omega)
  rw [i_le (by omega) (by omega), i_le (by omega) (by omega)] at e
  exact ⟨fun z y => (e.mpr y) z, fun z => Classical.byContradiction (fun y => z (e.mp y))⟩
theorem in_m1 {lo hi : Nat} (h1 : lo < 256) (h2 : hi < 256) : (f_in (-1 : Int32).toInt64 (Int64.ofNat lo) (Int64.ofNat hi) = 0) := by
  refine Classical.byContradiction (fun y => ?_)
  have y := ((f_in_nz (v := -1) (a := lo) (b := hi) (by omega) (by omega)).mp y).1
  have y := (fa_le _ _).mp y
  rw [nI_toInt (by omega)] at y
  have e : (-1 : Int32).toInt = -1 := rfl
  omega
set_option maxHeartbeats 1000000 in
theorem m_next74 (sh : s_h h) (H : mT h T.1 T.2) {s : Nat} (hl : tLt T s) {x1 : Int32} (e0 : h_oi h 582 44 = 0) (e3 : h_oi h 580 44 = 1) (e1 : h_oi h 579 44 = nI s) (e2 : h_oi h 578 44 = nI s) (k : ∀ h', fx h h' gMR [] → dn h h' → mTok h' (zTs T s) → Q none h') : w_p 3 (9, 2, mc_X9_next) 74 [(0, .ref 44), (1, .int x1)] [] h Q := by
  have hT := H.1
  have hs := hl.1
  have fin : ∀ e, rn (tLt T) s e → e ≤ T.1 → ∀ h1, fx h h1 gMR [] → dn h h1 → h_oi h1 582 44 = 0 → h_oi h1 580 44 = 1 → h_oi h1 579 44 = nI s → h_oi h1 578 44 = nI e → w_c 2 109 [.ref 44] h1 (fun r h4 => ∃ z5 : Int32, r = some (.int z5) ∧ s_h h4 ∧ ((¬ z5 = (-4) → Q none (h_sI h4 581 44 z5)) ∧ (z5 = (-4) → w_c 0 106 [.ref 44, .int 1, .int (h_oi h4 579 44)] (h_sI h4 581 44 z5) (fun r h7 => r = none ∧ s_h h7 ∧ Q none h7)))) := by
    intro e he heT h1 f d a0 a3 a1 a2
    have sh1 := f.sh sh (by decide)
    refine m_nameNow sh1 (mT_r H f) he.1 heT a1 a2 ⟨_, rfl, sh1, ?_⟩
    cases ez : zNm T s e with
    | none =>
      refine ⟨fun z => absurd rfl z, fun _ => ?_⟩
      have f2 : fx h (h_sI h1 581 44 (oN none)) gMR [] := f.sI _ (Or.inl (by decide))
      have f3 : fx h (h_sI (h_sI (h_sI h1 581 44 (oN none)) 582 44 1) 583 44 (h_oi h1 579 44)) gMR [] := (f2.sI _ (Or.inl (by decide))).sI _ (Or.inl (by decide))
      refine m_failsZ (f2.sh sh (by decide)) ((oi_neG (by decide) _).trans a0) ⟨rfl, f3.sh sh (by decide), k _ f3 (((d.sI _ (by decide)).sI _ (by decide)).sI _ (by decide)) ?_⟩
      rw [zTs_bn hl he ez]
      refine Or.inr ⟨rfl, (oi_neG (by decide) _).trans (oi_self _ _ _ _), ?_⟩
      rw [oi_self, a1]
    | some j =>
      have hj : j < 200 := by
        unfold zNm at ez
        by_cases b0 : zSp T s e 0
        · rw [z_if_t b0] at ez; cases ez; decide
        · rw [z_if_f b0] at ez
          by_cases b1 : zSp T s e 1
          · rw [z_if_t b1] at ez; cases ez; decide
          · rw [z_if_f b1] at ez
            by_cases b2 : zSp T s e 2
            · rw [z_if_t b2] at ez; cases ez; decide
            · rw [z_if_f b2] at ez
              by_cases b3 : zSp T s e 3
              · rw [z_if_t b3] at ez; cases ez; decide
              · rw [z_if_f b3] at ez
                by_cases b4 : zSp T s e 4
                · rw [z_if_t b4] at ez; cases ez; decide
                · rw [z_if_f b4] at ez; cases ez
      refine ⟨fun _ => k _ (f.sI _ (Or.inl (by decide))) (d.sI _ (by decide)) ?_, fun z => absurd z (oN_ne j (by omega))⟩
      rw [zTs_nm hl he ez]
      exact Or.inl ⟨Nat.le_of_ble_eq_true rfl, (oi_neG (by decide) _).trans a0, (oi_neG (by decide) _).trans a3, (oi_neG (by decide) _).trans a1, (oi_neG (by decide) _).trans a2, fun _ => oi_self _ _ _ _⟩
  have loop : ∀ w i, i + w = T.1 → s ≤ i → (∀ j, s ≤ j → j < i → tLt T j) → ∀ h1, fx h h1 gMR [] → dn h h1 → h_oi h1 582 44 = 0 → h_oi h1 580 44 = 1 → h_oi h1 579 44 = nI s → h_oi h1 578 44 = nI i → w_p 3 (9, 2, mc_X9_next) 74 [(0, .ref 44), (1, .int x1)] [] h1 Q := by
    intro w
    induction w with
    | zero =>
      intro i hi hni hq h1 f d a0 a3 a1 a2
      have sh1 := f.sh sh (by decide)
      refine t_X9_next_74 sh1 _ (K74 := fun _ _ => False) (fun _ _ z => z.elim) ?_
      rw [a2]
      refine (m_lookE sh1 (mT_r H f) (by omega) (by omega) ⟨_, rfl, sh1, fun _ => (fin i ⟨hni, hq, fun y => by have := y.1; omega⟩ (by omega) h1 f d a0 a3 a1 a2), fun z => absurd (in_m1 (by decide) (by decide)) z⟩).up (by decide)
    | succ w ih =>
      intro i hi hni hq h1 f d a0 a3 a1 a2
      have sh1 := f.sh sh (by decide)
      refine t_X9_next_74 sh1 _ (K74 := fun y hh => y = x1 ∧ tLt T i ∧ hh = h_sI h1 578 44 (nI (i + 1))) (fun y hh z => ?_) ?_
      · obtain ⟨rfl, q, rfl⟩ := z
        refine ih (i + 1) (by omega) (by omega) (fun j h1 h2 => ?_) _ (f.sI _ (Or.inl (by decide))) (d.sI _ (by decide)) ((oi_neG (by decide) _).trans a0) ((oi_neG (by decide) _).trans a3) ((oi_neG (by decide) _).trans a1) (oi_self _ _ _ _)
        by_cases y : j = i
        · rw [y]; exact q
        · exact hq j h1 (by omega)
      · rw [a2]
        refine (m_lookI sh1 (mT_r H f) (by omega) (fun hb => ⟨_, rfl, sh1, ?_⟩)).up (by decide)
        rw [in_b hb (by decide) (by decide)]
        refine ⟨fun c => fin i ⟨hni, hq, fun y => c y.2⟩ (by omega) h1 f d a0 a3 a1 a2, fun c => ⟨rfl, ⟨by omega, (Classical.not_not.mp c)⟩, ?_⟩⟩
        rw [a2, nI_1]
  exact loop (T.1 - s) s (by omega) (Nat.le_refl _) (fun j h1 h2 => by omega) h (fx.rf _ _ _) (dn.rf _) e0 e3 e1 e2
set_option maxHeartbeats 1000000 in
theorem m_next161 (sh : s_h h) (H : mT h T.1 T.2) {s : Nat} (hl : tFg T s) {x1 : Int32} (e0 : h_oi h 582 44 = 0) (e3 : h_oi h 580 44 = 2) (e4 : h_oi h 581 44 = 0) (e1 : h_oi h 579 44 = nI s) (e2 : h_oi h 578 44 = nI s) (k : ∀ h', fx h h' gMR [] → dn h h' → mTok h' (zTs T s) → Q none h') : w_p 3 (9, 2, mc_X9_next) 161 [(0, .ref 44), (1, .int x1)] [] h Q := by
  have hT := H.1
  have hs := hl.1
  have fin : ∀ e, rn (tFg T) s e → e ≤ T.1 → ∀ h1, fx h h1 gMR [] → dn h h1 → h_oi h1 582 44 = 0 → h_oi h1 580 44 = 2 → h_oi h1 579 44 = nI s → h_oi h1 578 44 = nI e → h_oi h1 581 44 = nI (zNum T s (e - s)) → (((nI e - nI s) ≤ 4 → Q none h1) ∧ (¬ ((nI e - nI s) ≤ 4) → w_c 0 106 [.ref 44, .int 1, .int (h_oi h1 579 44)] h1 (fun r h5 => r = none ∧ s_h h5 ∧ Q none h5))) := by
    intro e he heT h1 f d a0 a3 a1 a2 a4
    have sh1 := f.sh sh (by decide)
    have hse := he.1
    rw [nI_sub hse]
    refine ⟨fun z => ?_, fun z => ?_⟩
    · have z := (i_le (b := 4) (by omega) (by decide)).mp z
      refine k h1 f d ?_
      rw [zTs_nu hl he z]
      exact Or.inl ⟨Nat.le_of_ble_eq_true rfl, a0, a3, a1, a2, fun _ => a4⟩
    · have z : ¬ e - s ≤ 4 := fun y => z ((i_le (b := 4) (by omega) (by decide)).mpr y)
      have f3 : fx h (h_sI (h_sI h1 582 44 1) 583 44 (h_oi h1 579 44)) gMR [] := (f.sI _ (Or.inl (by decide))).sI _ (Or.inl (by decide))
      refine m_failsZ sh1 a0 ⟨rfl, f3.sh sh (by decide), k _ f3 ((d.sI _ (by decide)).sI _ (by decide)) ?_⟩
      rw [zTs_bu hl he z]
      refine Or.inr ⟨rfl, (oi_neG (by decide) _).trans (oi_self _ _ _ _), ?_⟩
      rw [oi_self, a1]
  have loop : ∀ w i, s + i + w = T.1 → (∀ j, s ≤ j → j < s + i → tFg T j) → ∀ h1, fx h h1 gMR [] → dn h h1 → h_oi h1 582 44 = 0 → h_oi h1 580 44 = 2 → h_oi h1 579 44 = nI s → h_oi h1 578 44 = nI (s + i) → h_oi h1 581 44 = nI (zNum T s i) → w_p 3 (9, 2, mc_X9_next) 161 [(0, .ref 44), (1, .int x1)] [] h1 Q := by
    intro w
    induction w with
    | zero =>
      intro i hi hq h1 f d a0 a3 a1 a2 a4
      have sh1 := f.sh sh (by decide)
      have F := fin (s + i) ⟨by omega, hq, fun y => by have := y.1; omega⟩ (by omega) h1 f d a0 a3 a1 a2 (by rw [Nat.add_sub_cancel_left]; exact a4)
      refine t_X9_next_161 sh1 _ (K161 := fun _ _ => False) (fun _ _ z => z.elim) ?_
      rw [a2]
      refine (m_lookE sh1 (mT_r H f) (by omega) (by omega) ⟨_, rfl, sh1, fun _ => ?_, fun z => absurd (in_m1 (by decide) (by decide)) z⟩).up (by decide)
      rw [a2]
      have F1 := F.1
      have F2 := F.2
      rw [a1] at F2 ⊢
      exact ⟨F1, fun z => (F2 z).up (by decide)⟩
    | succ w ih =>
      intro i hi hq h1 f d a0 a3 a1 a2 a4
      have sh1 := f.sh sh (by decide)
      refine t_X9_next_161 sh1 _ (K161 := fun y hh => y = x1 ∧ tFg T (s + i) ∧ fx h hh gMR [] ∧ dn h hh ∧ h_oi hh 582 44 = 0 ∧ h_oi hh 580 44 = 2 ∧ h_oi hh 579 44 = nI s ∧ h_oi hh 578 44 = nI (s + i + 1) ∧ h_oi hh 581 44 = nI (zNum T s (i + 1))) (fun y hh z => ?_) ?_
      · obtain ⟨rfl, q, q1, q2, q3, q4, q5, q6, q7⟩ := z
        refine ih (i + 1) (by omega) (fun j h1 h2 => ?_) hh q1 q2 q3 q4 q5 q6 q7
        by_cases y : j = s + i
        · rw [y]; exact q
        · exact hq j h1 (by omega)
      · rw [a2]
        refine (m_lookI sh1 (mT_r H f) (by omega) (fun hb => ⟨_, rfl, sh1, ?_⟩)).up (by decide)
        rw [in_b hb (by decide) (by decide)]
        refine ⟨fun c => ?_, fun c => ?_⟩
        · have F := fin (s + i) ⟨by omega, hq, fun y => c y.2⟩ (by omega) h1 f d a0 a3 a1 a2 (by rw [Nat.add_sub_cancel_left]; exact a4)
          have F1 := F.1
          have F2 := F.2
          rw [a1] at F2 ⊢
          rw [a2]
          exact ⟨F1, fun z => (F2 z).up (by decide)⟩
        · have c : tFg T (s + i) := ⟨by omega, Classical.not_not.mp c⟩
          have ez : zNum T s (i + 1) = if i < 4 then 10 * zNum T s i + (T.2 (s + i) - 48) else zNum T s i := rfl
          rw [a1, a2, nI_sub (by omega), Nat.add_sub_cancel_left, nI_1]
          refine ⟨fun z => ?_, fun z => ?_⟩
          · have z := (i_le (a := 4) (by decide) (by omega)).mp z
            rw [if_neg (by omega)] at ez
            exact ⟨rfl, c, (f.sI _ (Or.inl (by decide))).sI _ (Or.inl (by decide)), (d.sI _ (by decide)).sI _ (by decide), (oi_neG (by decide) _).trans ((oi_neG (by decide) _).trans a0), (oi_neG (by decide) _).trans ((oi_neG (by decide) _).trans a3), (oi_neG (by decide) _).trans ((oi_neG (by decide) _).trans a1), oi_self _ _ _ _, by rw [oi_neG (by decide), oi_self, a4, ez]⟩
          · have z : ¬ 4 ≤ i := fun y => z ((i_le (a := 4) (by decide) (by omega)).mpr y)
            rw [if_pos (by omega)] at ez
            refine (m_lookI sh1 (mT_r H f) (by omega) (fun hb => ⟨_, rfl, sh1, ?_⟩)).up (by decide)
            have hb2 := c.2
            have ev : (10 : Int32) * h_oi h1 581 44 + nI (T.2 (s + i)) - 48 = nI (zNum T s (i + 1)) := by
              rw [a4, show (10 : Int32) = nI 10 from rfl, pk_mul, nI_add, show (48 : Int32) = nI 48 from rfl, nI_sub (by omega), ez]
              congr 1
              omega
            rw [a2, nI_1, ev]
            exact ⟨rfl, c, (f.sI _ (Or.inl (by decide))).sI _ (Or.inl (by decide)), (d.sI _ (by decide)).sI _ (by decide), (oi_neG (by decide) _).trans ((oi_neG (by decide) _).trans a0), (oi_neG (by decide) _).trans ((oi_neG (by decide) _).trans a3), (oi_neG (by decide) _).trans ((oi_neG (by decide) _).trans a1), oi_self _ _ _ _, (oi_neG (by decide) _).trans (oi_self _ _ _ _)⟩
  exact loop (T.1 - s) 0 (by omega) (fun j h1 h2 => by omega) h (fx.rf _ _ _) (dn.rf _) e0 e3 e1 e2 e4
set_option maxHeartbeats 1000000 in
theorem m_next (sh : s_h h) (H : mT h T.1 T.2) {n : Nat} (hn : n ≤ T.1) (e0 : h_oi h 582 44 = 0) (e2 : h_oi h 578 44 = nI n) (k : ∀ h', fx h h' gMR [] → dn h h' → mTok h' (zTk T n) → Q none h') : w_c 3 110 [.ref 44] h Q := by
  have hT := H.1
  have fin : ∀ s, rn (tBl T) n s → s ≤ T.1 → ∀ h1, fx h h1 gMR [] → dn h h1 → h_oi h1 582 44 = 0 → h_oi h1 578 44 = nI s → w_c 0 107 [.ref 44, .int (nI s)] (h_sI h1 579 44 (nI s)) (fun r h4 => ∃ z5 : Int32, r = some (.int z5) ∧ s_h h4 ∧ h4 = h_sI h1 579 44 (nI s) ∧ ((T.1 ≤ s ∧ z5 = -1) ∨ (s < T.1 ∧ T.2 s < 256 ∧ z5 = nI (T.2 s)))) := by
    intro s hr hsT h1 f d a0 a2
    have f2 : fx h (h_sI h1 579 44 (nI s)) gMR [] := f.sI _ (Or.inl (by decide))
    by_cases z : s < T.1
    · exact m_lookI (f2.sh sh (by decide)) (mT_r H f2) z (fun hb => ⟨_, rfl, f2.sh sh (by decide), rfl, Or.inr ⟨z, hb, rfl⟩⟩)
    · exact m_lookE (f2.sh sh (by decide)) (mT_r H f2) (by omega) (by omega) ⟨_, rfl, f2.sh sh (by decide), rfl, Or.inl ⟨by omega, rfl⟩⟩
  have loop : ∀ w i, i + w = T.1 → n ≤ i → (∀ j, n ≤ j → j < i → tBl T j) → ∀ h1, fx h h1 gMR [] → dn h h1 → h_oi h1 582 44 = 0 → h_oi h1 578 44 = nI i → w_p 3 (9, 2, mc_X9_next) 0 [(0, .ref 44)] [] h1 Q := by
    intro w
    induction w with
    | zero =>
      intro i hi hni hq h1 f d a0 a2
      have sh1 := f.sh sh (by decide)
      have hr : rn (tBl T) n i := ⟨hni, hq, fun y => by have := y.1; omega⟩
      have ek : zTk T n = zTs T i := by unfold zTk; rw [zEn_eq hr]
      refine t_X9_next_L sh1 (K0 := fun _ => False) (fun _ z => z.elim) (K74 := fun _ _ => False) (fun _ _ z => z.elim) (K161 := fun _ _ => False) (fun _ _ z => z.elim) ?_
      rw [a2]
      refine (m_lookE sh1 (mT_r H f) (by omega) (by omega) ⟨_, rfl, sh1, fun _ => ?_, fun z => absurd z (by decide)⟩).up (by decide)
      rw [a2]
      refine ((fin i hr (by omega) h1 f d a0 a2).mono (fun r h4 F => ?_)).up (by decide)
      obtain ⟨z5, rfl, sh4, rfl, (⟨_, rfl⟩ | ⟨y, _⟩)⟩ := F
      · refine ⟨_, rfl, sh4, fun z => absurd z (by decide), fun _ => k _ ((f.sI _ (Or.inl (by decide))).sI _ (Or.inl (by decide))) ((d.sI _ (by decide)).sI _ (by decide)) ?_⟩
        rw [ek, zTs_end (by omega)]
        exact Or.inl ⟨Nat.le_of_ble_eq_true rfl, (oi_neG (by decide) _).trans ((oi_neG (by decide) _).trans a0), oi_self _ _ _ _, (oi_neG (by decide) _).trans (oi_self _ _ _ _), (oi_neG (by decide) _).trans ((oi_neG (by decide) _).trans a2), fun y => by rcases y with y | y <;> cases y⟩
      · omega
    | succ w ih =>
      intro i hi hni hq h1 f d a0 a2
      have sh1 := f.sh sh (by decide)
      refine t_X9_next_L sh1 (K0 := fun hh => tBl T i ∧ hh = h_sI h1 578 44 (nI (i + 1))) (fun hh z => ?_) (K74 := fun y hh => rn (tBl T) n i ∧ tLt T i ∧ hh = h_sI (h_sI h1 579 44 (nI i)) 580 44 1) (fun y hh z => ?_) (K161 := fun y hh => rn (tBl T) n i ∧ tFg T i ∧ hh = h_sI (h_sI (h_sI h1 579 44 (nI i)) 580 44 2) 581 44 0) (fun y hh z => ?_) ?_
      · obtain ⟨q, rfl⟩ := z
        refine ih (i + 1) (by omega) (by omega) (fun j h1 h2 => ?_) _ (f.sI _ (Or.inl (by decide))) (d.sI _ (by decide)) ((oi_neG (by decide) _).trans a0) (oi_self _ _ _ _)
        by_cases y : j = i
        · rw [y]; exact q
        · exact hq j h1 (by omega)
      · obtain ⟨hr, q, rfl⟩ := z
        have ek : zTk T n = zTs T i := by unfold zTk; rw [zEn_eq hr]
        have f2 : fx h (h_sI (h_sI h1 579 44 (nI i)) 580 44 1) gMR [] := (f.sI _ (Or.inl (by decide))).sI _ (Or.inl (by decide))
        refine m_next74 (f2.sh sh (by decide)) (mT_r H f2) q ((oi_neG (by decide) _).trans ((oi_neG (by decide) _).trans a0)) (oi_self _ _ _ _) ((oi_neG (by decide) _).trans (oi_self _ _ _ _)) ((oi_neG (by decide) _).trans ((oi_neG (by decide) _).trans a2)) (fun h' f' d' t' => k h' (f2.tr f' (by decide) (by decide) (by decide) (by decide)) (((d.sI _ (by decide)).sI _ (by decide)).tr d') (by rw [ek]; exact t'))
      · obtain ⟨hr, q, rfl⟩ := z
        have ek : zTk T n = zTs T i := by unfold zTk; rw [zEn_eq hr]
        have f2 : fx h (h_sI (h_sI (h_sI h1 579 44 (nI i)) 580 44 2) 581 44 0) gMR [] := ((f.sI _ (Or.inl (by decide))).sI _ (Or.inl (by decide))).sI _ (Or.inl (by decide))
        refine m_next161 (f2.sh sh (by decide)) (mT_r H f2) q ((oi_neG (by decide) _).trans ((oi_neG (by decide) _).trans ((oi_neG (by decide) _).trans a0))) ((oi_neG (by decide) _).trans (oi_self _ _ _ _)) (oi_self _ _ _ _) ((oi_neG (by decide) _).trans ((oi_neG (by decide) _).trans (oi_self _ _ _ _))) ((oi_neG (by decide) _).trans ((oi_neG (by decide) _).trans ((oi_neG (by decide) _).trans a2))) (fun h' f' d' t' => k h' (f2.tr f' (by decide) (by decide) (by decide) (by decide)) ((((d.sI _ (by decide)).sI _ (by decide)).sI _ (by decide)).tr d') (by rw [ek]; exact t'))
      · rw [a2]
        refine (m_lookI sh1 (mT_r H f) (by omega) (fun hb => ⟨_, rfl, sh1, fun c => ?_, fun c => ⟨⟨by omega, ?_⟩, ?_⟩⟩)).up (by decide)
        · have nb : ¬ tBl T i := fun y => c (by rw [y.2]; rfl)
          have hr : rn (tBl T) n i := ⟨hni, hq, nb⟩
          have ek : zTk T n = zTs T i := by unfold zTk; rw [zEn_eq hr]
          rw [a2]
          refine ((fin i hr (by omega) h1 f d a0 a2).mono (fun r h4 F => ?_)).up (by decide)
          obtain ⟨z5, rfl, sh4, rfl, (⟨y, _⟩ | ⟨hi2, hb2, rfl⟩)⟩ := F
          · omega
          · refine ⟨_, rfl, sh4, fun _ => ?_, fun z => absurd ((i_le (a := 0) (by decide) (by omega)).mpr (Nat.zero_le _)) z⟩
            rw [in_b hb2 (by decide) (by decide), in_b hb2 (by decide) (by decide)]
            refine ⟨fun c1 => ⟨fun c2 => ⟨fun c3 => ?_, fun c3 => ?_⟩, fun c2 => ⟨hr, ⟨hi2, Classical.not_not.mp c2⟩, rfl⟩⟩, fun c1 => ⟨hr, ⟨hi2, Classical.not_not.mp c1⟩, rfl⟩⟩
            · have f3 : fx h (h_sI (h_sI (h_sI h1 579 44 (nI i)) 582 44 1) 583 44 (h_oi (h_sI h1 579 44 (nI i)) 579 44)) gMR [] := ((f.sI _ (Or.inl (by decide))).sI _ (Or.inl (by decide))).sI _ (Or.inl (by decide))
              refine (m_failsZ sh4 ((oi_neG (by decide) _).trans a0) ⟨rfl, f3.sh sh (by decide), k _ f3 (((d.sI _ (by decide)).sI _ (by decide)).sI _ (by decide)) ?_⟩).up (by decide)
              rw [ek, zTs_ba hi2 (fun y => c1 y.2) (fun y => c2 y.2) (fun y => c3 (by rw [y]; rfl))]
              refine Or.inr ⟨rfl, (oi_neG (by decide) _).trans (oi_self _ _ _ _), ?_⟩
              rw [oi_self, oi_self]
            · have c3 : T.2 i = 59 := (nI_eqI (b := 59) (by omega) (by decide)).mp c3
              have e578 : h_oi (h_sI h1 579 44 (nI i)) 578 44 = nI i := (oi_neG (by decide) _).trans a2
              rw [e578, nI_1]
              refine k _ (((f.sI _ (Or.inl (by decide))).sI _ (Or.inl (by decide))).sI _ (Or.inl (by decide))) (((d.sI _ (by decide)).sI _ (by decide)).sI _ (by decide)) ?_
              rw [ek, zTs_se hi2 c3]
              exact Or.inl ⟨Nat.le_of_ble_eq_true rfl, (oi_neG (by decide) _).trans ((oi_neG (by decide) _).trans ((oi_neG (by decide) _).trans a0)), (oi_neG (by decide) _).trans (oi_self _ _ _ _), (oi_neG (by decide) _).trans ((oi_neG (by decide) _).trans (oi_self _ _ _ _)), oi_self _ _ _ _, fun y => by rcases y with y | y <;> cases y⟩
        · exact (nI_eqI (b := 32) (by omega) (by decide)).mp c
        · rw [a2, nI_1]
  refine w_ci (M := (9, 2, mc_X9_next)) rfl (Nat.le_of_ble_eq_true rfl) ?_
  exact loop (T.1 - n) n (by omega) (Nat.le_refl _) (fun j h1 h2 => by omega) h (fx.rf _ _ _) (dn.rf _) e0 e2
end RM
