set_option maxRecDepth 20000 in
theorem t_X8_told_0 {h : mm_H} {Q : Option Value → mm_H → Prop} (sh : s_h h) (f : Int32) (what : Int32) 
    (F : w_c 0 87 [.ref 16, .int f] h (fun r h1 => ∃ z2 : Option Nat, r = some (va_rf z2) ∧ s_h h1 ∧ ((z2 = none → Q (some (.int (-1))) h1) ∧ (∀ a4 : Nat, z2 = some a4 → (((what.toInt < 0 ∨ 5 < what.toInt) → Q (some (.int (-1))) h1) ∧ (what.toInt = 0 → (h_kd h1 a4 = 1 ∧ (∃ b8 : Nat, (h_or h1 0 a4) = some b8 ∧ (h_kd h1 b8 = 4 ∧ Q (some (.int (h_oi h1 195 b8))) h1)))) ∧ (what.toInt = 1 → (h_kd h1 a4 = 1 ∧ Q (some (.int (h_oi h1 1 a4))) h1)) ∧ (what.toInt = 2 → (h_kd h1 a4 = 1 ∧ (∃ b13 : Nat, (h_or h1 0 a4) = some b13 ∧ (h_kd h1 b13 = 4 ∧ w_c 0 25 [.ref b13] h1 (fun r h16 => ∃ z17 : Int32, r = some (.int z17) ∧ s_h h16 ∧ Q (some (.int z17)) h16))))) ∧ (what.toInt = 3 → (h_kd h1 a4 = 1 ∧ Q (some (.int (h_oi h1 3 a4))) h1)) ∧ (what.toInt = 4 → (h_kd h1 a4 = 1 ∧ Q (some (.int (h_oi h1 4 a4))) h1)) ∧ (what.toInt = 5 → (h_kd h1 a4 = 1 ∧ (∃ b21 : Nat, (h_or h1 0 a4) = some b21 ∧ (h_kd h1 b21 = 4 ∧ w_c 0 26 [.ref b21] h1 (fun r h24 => ∃ z25 : Int32, r = some (.int z25) ∧ s_h h24 ∧ Q (some (.int z25)) h24)))))))))) :
    w_c 1 72 [.ref 16, .int f, .int what] h Q := by
  refine w_ci (M := (8, 4, mc_X8_told)) rfl (Nat.le_of_ble_eq_true rfl) ?_
  show w_p _ _ 0 [(0, .ref 16), (1, .int f), (2, .int what)] [] h Q
  refine w_b 2 2 [(0, .ref 16), (1, .int f), (2, .int what)] [.int f, .ref 16] rfl ?_
  refine w_cv (As := [.int f]) (b := 16) (rest := []) rfl rfl rfl (Nat.le_of_ble_eq_true rfl) (kd_16 sh) (fun z => absurd z (by decide)) (dc := 0) (by omega) (F.mono (fun r h1 F => ?_))
  obtain ⟨z2, rfl, sh1, F⟩ := F
  show w_p _ _ 5 [(0, .ref 16), (1, .int f), (2, .int what)] [va_rf z2] h1 _
  refine w_astN (r := z2) (lo2 := [(3, va_rf z2), (0, .ref 16), (1, .int f), (2, .int what)]) rfl (by decide) rfl ?_
  refine w_aldN (r := z2) rfl rfl ?_
  refine w_ifnonnull (tgt := 12) (r := z2) rfl (by decide) ⟨fun c3 => ?_, fun a4 c3 => ?_⟩
  · have F := F.1 c3
    refine w_b 1 11 [(3, va_rf z2), (0, .ref 16), (1, .int f), (2, .int what)] [.int (-1)] rfl ?_
    exact w_ir rfl F
  · have F := F.2 a4 c3
    simp only [c3] ; show w_p _ _ 12 [(3, .ref a4), (0, .ref 16), (1, .int f), (2, .int what)] [] h1 _
    refine w_b 1 13 [(3, .ref a4), (0, .ref 16), (1, .int f), (2, .int what)] [.int what] rfl ?_
    by_cases c5 : what.toInt < 0 ∨ 5 < what.toInt
    · have F := F.1 c5
      refine w_tabO (tgt := 91) rfl c5 (by decide) ?_
      refine w_b 1 92 [(3, .ref a4), (0, .ref 16), (1, .int f), (2, .int what)] [.int (-1)] rfl ?_
      exact w_ir rfl F
    · have F := F.2
      have e6 : what.toInt = 0 ∨ what.toInt = 1 ∨ what.toInt = 2 ∨ what.toInt = 3 ∨ what.toInt = 4 ∨ what.toInt = 5 := by omega
      rcases e6 with e6 | e6 | e6 | e6 | e6 | e6
      · have F := F.1 e6
        refine w_tabI (tgt := 52) (off := 39) rfl (by omega) (by omega) (by rw [e6]; rfl) (by decide) ?_
        refine w_b 1 53 [(3, .ref a4), (0, .ref 16), (1, .int f), (2, .int what)] [.ref a4] rfl ?_
        obtain ⟨g7, F⟩ := F
        refine w_getR (g := 0) rfl rfl rfl g7 ?_
        obtain ⟨b8, e9, F⟩ := F
        rw [e9]
        show w_p _ _ 56 [(3, .ref a4), (0, .ref 16), (1, .int f), (2, .int what)] [.ref b8] h1 _
        obtain ⟨g10, F⟩ := F
        refine w_get (g := 195) rfl rfl rfl g10 ?_
        exact w_ir rfl F
      · have F := F.2.1 e6
        refine w_tabI (tgt := 60) (off := 47) rfl (by omega) (by omega) (by rw [e6]; rfl) (by decide) ?_
        refine w_b 1 61 [(3, .ref a4), (0, .ref 16), (1, .int f), (2, .int what)] [.ref a4] rfl ?_
        obtain ⟨g11, F⟩ := F
        refine w_get (g := 1) rfl rfl rfl g11 ?_
        exact w_ir rfl F
      · have F := F.2.2.1 e6
        refine w_tabI (tgt := 65) (off := 52) rfl (by omega) (by omega) (by rw [e6]; rfl) (by decide) ?_
        refine w_b 1 66 [(3, .ref a4), (0, .ref 16), (1, .int f), (2, .int what)] [.ref a4] rfl ?_
        obtain ⟨g12, F⟩ := F
        refine w_getR (g := 0) rfl rfl rfl g12 ?_
        obtain ⟨b13, e14, F⟩ := F
        rw [e14]
        show w_p _ _ 69 [(3, .ref a4), (0, .ref 16), (1, .int f), (2, .int what)] [.ref b13] h1 _
        obtain ⟨g15, F⟩ := F
        refine w_cv (As := []) (b := b13) (rest := []) rfl rfl rfl (Nat.le_of_ble_eq_true rfl) g15 (fun z => absurd z (by decide)) (dc := 0) (by omega) (F.mono (fun r h16 F => ?_))
        obtain ⟨z17, rfl, sh16, F⟩ := F
        show w_p _ _ 72 [(3, .ref a4), (0, .ref 16), (1, .int f), (2, .int what)] [.int z17] h16 _
        exact w_ir rfl F
      · have F := F.2.2.2.1 e6
        refine w_tabI (tgt := 73) (off := 60) rfl (by omega) (by omega) (by rw [e6]; rfl) (by decide) ?_
        refine w_b 1 74 [(3, .ref a4), (0, .ref 16), (1, .int f), (2, .int what)] [.ref a4] rfl ?_
        obtain ⟨g18, F⟩ := F
        refine w_get (g := 3) rfl rfl rfl g18 ?_
        exact w_ir rfl F
      · have F := F.2.2.2.2.1 e6
        refine w_tabI (tgt := 78) (off := 65) rfl (by omega) (by omega) (by rw [e6]; rfl) (by decide) ?_
        refine w_b 1 79 [(3, .ref a4), (0, .ref 16), (1, .int f), (2, .int what)] [.ref a4] rfl ?_
        obtain ⟨g19, F⟩ := F
        refine w_get (g := 4) rfl rfl rfl g19 ?_
        exact w_ir rfl F
      · have F := F.2.2.2.2.2 e6
        refine w_tabI (tgt := 83) (off := 70) rfl (by omega) (by omega) (by rw [e6]; rfl) (by decide) ?_
        refine w_b 1 84 [(3, .ref a4), (0, .ref 16), (1, .int f), (2, .int what)] [.ref a4] rfl ?_
        obtain ⟨g20, F⟩ := F
        refine w_getR (g := 0) rfl rfl rfl g20 ?_
        obtain ⟨b21, e22, F⟩ := F
        rw [e22]
        show w_p _ _ 87 [(3, .ref a4), (0, .ref 16), (1, .int f), (2, .int what)] [.ref b21] h1 _
        obtain ⟨g23, F⟩ := F
        refine w_cv (As := []) (b := b21) (rest := []) rfl rfl rfl (Nat.le_of_ble_eq_true rfl) g23 (fun z => absurd z (by decide)) (dc := 0) (by omega) (F.mono (fun r h24 F => ?_))
        obtain ⟨z25, rfl, sh24, F⟩ := F
        show w_p _ _ 90 [(3, .ref a4), (0, .ref 16), (1, .int f), (2, .int what)] [.int z25] h24 _
        exact w_ir rfl F

set_option maxRecDepth 20000 in
theorem t_X9_told_0 {h : mm_H} {Q : Option Value → mm_H → Prop} (sh : s_h h) (f : Int32) (what : Int32) 
    (F : w_c 1 118 [.ref 44, .int f] h (fun r h1 => ∃ z2 : Int32, r = some (.int z2) ∧ s_h h1 ∧ ((z2 = 0 → Q (some (.int (-1))) h1) ∧ (¬ (z2 = 0) → ((¬ (f_in what.toInt64 (Int64.ofNat 0) (Int64.ofNat 5)) = 0 → w_c 0 125 [.ref 44, .int f] h1 (fun r h5 => ∃ z6 : Int32, r = some (.int z6) ∧ s_h h5 ∧ ((¬ what = 0 → ((¬ what = 1 → ((¬ what = 2 → ((¬ what = 3 → ((¬ what = 4 → ((¬ z6 = (-4) → (vp_in (((2001 : Int32) * f) + z6) 24012 ∧ Q (some (.int (h_ai h5 53 (((2001 : Int32) * f) + z6).toNatClampNeg))) h5)) ∧ (z6 = (-4) → Q (some (.int 0)) h5))) ∧ (what = 4 → (vp_in f 12 ∧ Q (some (.int (h_ai h5 52 f.toNatClampNeg))) h5)))) ∧ (what = 3 → (vp_in f 12 ∧ Q (some (.int (h_ai h5 51 f.toNatClampNeg))) h5)))) ∧ (what = 2 → Q (some (.int z6)) h5))) ∧ (what = 1 → (vp_in f 12 ∧ Q (some (.int (h_ai h5 50 f.toNatClampNeg))) h5)))) ∧ (what = 0 → w_c 0 121 [.ref 44, .int f] h5 (fun r h17 => ∃ z18 : Int32, r = some (.int z18) ∧ s_h h17 ∧ Q (some (.int z18)) h17))))) ∧ ((f_in what.toInt64 (Int64.ofNat 0) (Int64.ofNat 5)) = 0 → Q (some (.int (-1))) h1)))))) :
    w_c 2 126 [.ref 44, .int f, .int what] h Q := by
  refine w_ci (M := (9, 4, mc_X9_told)) rfl (Nat.le_of_ble_eq_true rfl) ?_
  show w_p _ _ 0 [(0, .ref 44), (1, .int f), (2, .int what)] [] h Q
  refine w_b 2 2 [(0, .ref 44), (1, .int f), (2, .int what)] [.int f, .ref 44] rfl ?_
  refine w_cv (As := [.int f]) (b := 44) (rest := []) rfl rfl rfl (Nat.le_of_ble_eq_true rfl) (kd_44 sh) (fun z => absurd z (by decide)) (dc := 1) (by omega) (F.mono (fun r h1 F => ?_))
  obtain ⟨z2, rfl, sh1, F⟩ := F
  show w_p _ _ 5 [(0, .ref 44), (1, .int f), (2, .int what)] [.int z2] h1 _
  refine w_if_eq (tgt := 20) (x := z2) rfl (by decide) ⟨fun c3 => ?_, fun c3 => ?_⟩
  · have F := F.1 c3
    refine w_b 1 21 [(0, .ref 44), (1, .int f), (2, .int what)] [.int (-1)] rfl ?_
    exact w_ir rfl F
  · have F := F.2 c3
    refine w_b 4 14 [(0, .ref 44), (1, .int f), (2, .int what)] [.long (Int64.ofNat 5), .long (Int64.ofNat 0), .long what.toInt64] rfl ?_
    refine w_cs (As := [.long what.toInt64, .long (Int64.ofNat 0), .long (Int64.ofNat 5)]) (rest := []) rfl rfl rfl (Nat.le_of_ble_eq_true rfl) (dc := 0) (by omega) (sp_in  ?_)
    show w_p _ _ 17 [(0, .ref 44), (1, .int f), (2, .int what)] [.int (f_in what.toInt64 (Int64.ofNat 0) (Int64.ofNat 5))] h1 _
    refine w_if_ne (tgt := 22) (x := f_in what.toInt64 (Int64.ofNat 0) (Int64.ofNat 5)) rfl (by decide) ⟨fun c4 => ?_, fun c4 => ?_⟩
    · have F := F.1 c4
      refine w_b 2 24 [(0, .ref 44), (1, .int f), (2, .int what)] [.int f, .ref 44] rfl ?_
      refine w_cv (As := [.int f]) (b := 44) (rest := []) rfl rfl rfl (Nat.le_of_ble_eq_true rfl) (kd_44 sh1) (fun z => absurd z (by decide)) (dc := 0) (by omega) (F.mono (fun r h5 F => ?_))
      obtain ⟨z6, rfl, sh5, F⟩ := F
      show w_p _ _ 27 [(0, .ref 44), (1, .int f), (2, .int what)] [.int z6] h5 _
      refine w_b 2 29 [(3, .int z6), (0, .ref 44), (1, .int f), (2, .int what)] [.int what] rfl ?_
      refine w_if_ne (tgt := 40) (x := what) rfl (by decide) ⟨fun c7 => ?_, fun c7 => ?_⟩
      · have F := F.1 c7
        refine w_b 2 42 [(3, .int z6), (0, .ref 44), (1, .int f), (2, .int what)] [.int 1, .int what] rfl ?_
        refine w_ic_ne (tgt := 54) (x := what) (y := 1) rfl (by decide) ⟨fun c8 => ?_, fun c8 => ?_⟩
        · have F := F.1 c8
          refine w_b 2 56 [(3, .int z6), (0, .ref 44), (1, .int f), (2, .int what)] [.int 2, .int what] rfl ?_
          refine w_ic_ne (tgt := 63) (x := what) (y := 2) rfl (by decide) ⟨fun c9 => ?_, fun c9 => ?_⟩
          · have F := F.1 c9
            refine w_b 2 65 [(3, .int z6), (0, .ref 44), (1, .int f), (2, .int what)] [.int 3, .int what] rfl ?_
            refine w_ic_ne (tgt := 77) (x := what) (y := 3) rfl (by decide) ⟨fun c10 => ?_, fun c10 => ?_⟩
            · have F := F.1 c10
              refine w_b 2 79 [(3, .int z6), (0, .ref 44), (1, .int f), (2, .int what)] [.int 4, .int what] rfl ?_
              refine w_ic_ne (tgt := 91) (x := what) (y := 4) rfl (by decide) ⟨fun c11 => ?_, fun c11 => ?_⟩
              · have F := F.1 c11
                refine w_b 2 94 [(3, .int z6), (0, .ref 44), (1, .int f), (2, .int what)] [.int (-4), .int z6] rfl ?_
                refine w_ic_ne (tgt := 101) (x := z6) (y := (-4)) rfl (by decide) ⟨fun c12 => ?_, fun c12 => ?_⟩
                · have F := F.1 c12
                  refine w_b 1 102 [(3, .int z6), (0, .ref 44), (1, .int f), (2, .int what)] [.ref 44] rfl ?_
                  refine w_getS (b := 53) rfl rfl rfl (kd_44 sh5) (or_595_44 sh5) ?_
                  refine w_b 5 112 [(3, .int z6), (0, .ref 44), (1, .int f), (2, .int what)] [.int (((2001 : Int32) * f) + z6), .ref 53] rfl ?_
                  obtain ⟨g13, F⟩ := F
                  refine w_iald rfl (kd_53 sh5) (by rw [show h_al h5 53 = 24012 from (al_53 sh5)]; exact g13) ?_
                  exact w_ir rfl F
                · have F := F.2 (Decidable.not_not.mp c12)
                  refine w_b 2 113 [(3, .int z6), (0, .ref 44), (1, .int f), (2, .int what)] [.int 0] rfl ?_
                  exact w_ir rfl F
              · have F := F.2 (Decidable.not_not.mp c11)
                refine w_b 1 83 [(3, .int z6), (0, .ref 44), (1, .int f), (2, .int what)] [.ref 44] rfl ?_
                refine w_getS (b := 52) rfl rfl rfl (kd_44 sh5) (or_594_44 sh5) ?_
                refine w_b 1 87 [(3, .int z6), (0, .ref 44), (1, .int f), (2, .int what)] [.int f, .ref 52] rfl ?_
                obtain ⟨g14, F⟩ := F
                refine w_iald rfl (kd_52 sh5) (by rw [show h_al h5 52 = 12 from (al_52 sh5)]; exact g14) ?_
                refine w_b 1 113 [(3, .int z6), (0, .ref 44), (1, .int f), (2, .int what)] [.int (h_ai h5 52 f.toNatClampNeg)] rfl ?_
                exact w_ir rfl F
            · have F := F.2 (Decidable.not_not.mp c10)
              refine w_b 1 69 [(3, .int z6), (0, .ref 44), (1, .int f), (2, .int what)] [.ref 44] rfl ?_
              refine w_getS (b := 51) rfl rfl rfl (kd_44 sh5) (or_593_44 sh5) ?_
              refine w_b 1 73 [(3, .int z6), (0, .ref 44), (1, .int f), (2, .int what)] [.int f, .ref 51] rfl ?_
              obtain ⟨g15, F⟩ := F
              refine w_iald rfl (kd_51 sh5) (by rw [show h_al h5 51 = 12 from (al_51 sh5)]; exact g15) ?_
              refine w_b 1 113 [(3, .int z6), (0, .ref 44), (1, .int f), (2, .int what)] [.int (h_ai h5 51 f.toNatClampNeg)] rfl ?_
              exact w_ir rfl F
          · have F := F.2 (Decidable.not_not.mp c9)
            refine w_b 2 113 [(3, .int z6), (0, .ref 44), (1, .int f), (2, .int what)] [.int z6] rfl ?_
            exact w_ir rfl F
        · have F := F.2 (Decidable.not_not.mp c8)
          refine w_b 1 46 [(3, .int z6), (0, .ref 44), (1, .int f), (2, .int what)] [.ref 44] rfl ?_
          refine w_getS (b := 50) rfl rfl rfl (kd_44 sh5) (or_592_44 sh5) ?_
          refine w_b 1 50 [(3, .int z6), (0, .ref 44), (1, .int f), (2, .int what)] [.int f, .ref 50] rfl ?_
          obtain ⟨g16, F⟩ := F
          refine w_iald rfl (kd_50 sh5) (by rw [show h_al h5 50 = 12 from (al_50 sh5)]; exact g16) ?_
          refine w_b 1 113 [(3, .int z6), (0, .ref 44), (1, .int f), (2, .int what)] [.int (h_ai h5 50 f.toNatClampNeg)] rfl ?_
          exact w_ir rfl F
      · have F := F.2 (Decidable.not_not.mp c7)
        refine w_b 2 34 [(3, .int z6), (0, .ref 44), (1, .int f), (2, .int what)] [.int f, .ref 44] rfl ?_
        refine w_cv (As := [.int f]) (b := 44) (rest := []) rfl rfl rfl (Nat.le_of_ble_eq_true rfl) (kd_44 sh5) (fun z => absurd z (by decide)) (dc := 0) (by omega) (F.mono (fun r h17 F => ?_))
        obtain ⟨z18, rfl, sh17, F⟩ := F
        show w_p _ _ 37 [(3, .int z6), (0, .ref 44), (1, .int f), (2, .int what)] [.int z18] h17 _
        refine w_b 1 113 [(3, .int z6), (0, .ref 44), (1, .int f), (2, .int what)] [.int z18] rfl ?_
        exact w_ir rfl F
    · have F := F.2 (Decidable.not_not.mp c4)
      refine w_b 1 21 [(0, .ref 44), (1, .int f), (2, .int what)] [.int (-1)] rfl ?_
      exact w_ir rfl F

set_option maxRecDepth 20000 in
theorem t_X8_familiesHere_0 {h : mm_H} {Q : Option Value → mm_H → Prop} (sh : s_h h) {K13 : Int32 → Int32 → Int32 → mm_H → Prop} (k13 : ∀ (x1 : Int32) (x3 : Int32) (x4 : Int32) (h : mm_H), K13 x1 x3 x4 h → w_p 0 (8, 6, mc_X8_familiesHere) 13 [(0, .ref 16), (1, .int x1), (2, .ref 30), (3, .int x3), (4, .int x4)] [] h Q) 
    (F : K13 0 (Int32.ofNat 12) 0 h) :
    w_c 0 89 [.ref 16] h Q := by
  refine w_ci (M := (8, 6, mc_X8_familiesHere)) rfl (Nat.le_of_ble_eq_true rfl) ?_
  show w_p _ _ 0 [(0, .ref 16)] [] h Q
  refine w_b 3 3 [(1, .int 0), (0, .ref 16)] [.ref 16] rfl ?_
  refine w_getS (b := 30) rfl rfl rfl (kd_16 sh) (or_515_16 sh) ?_
  refine w_b 2 8 [(2, .ref 30), (1, .int 0), (0, .ref 16)] [.ref 30] rfl ?_
  refine w_alen rfl (by rw [kd_30 sh]; decide) ?_
  rw [show h_al h 30 = 12 from (al_30 sh)]
  refine w_b 3 13 [(4, .int 0), (3, .int (Int32.ofNat 12)), (2, .ref 30), (1, .int 0), (0, .ref 16)] [] rfl ?_
  refine w_lo [0, 1, 2, 3, 4] [(0, .ref 16), (1, .int 0), (2, .ref 30), (3, .int (Int32.ofNat 12)), (4, .int 0)] rfl rfl ?_
  exact k13 _ _ _ _ F

set_option maxRecDepth 20000 in
theorem t_X8_familiesHere_13 {h : mm_H} {Q : Option Value → mm_H → Prop} (sh : s_h h) (x1 : Int32) (x3 : Int32) (x4 : Int32) {K13 : Int32 → Int32 → Int32 → mm_H → Prop} (k13 : ∀ (x1 : Int32) (x3 : Int32) (x4 : Int32) (h : mm_H), K13 x1 x3 x4 h → w_p 0 (8, 6, mc_X8_familiesHere) 13 [(0, .ref 16), (1, .int x1), (2, .ref 30), (3, .int x3), (4, .int x4)] [] h Q) 
    (F : ((x3 ≤ x4 → Q (some (.int x1)) h) ∧ (¬ (x3 ≤ x4) → (vp_in x4 12 ∧ (((h_ar h 30 x4.toNatClampNeg) = none → K13 x1 x3 (x4 + 1) h) ∧ (∀ a4 : Nat, (h_ar h 30 x4.toNatClampNeg) = some a4 → K13 (x1 + 1) x3 (x4 + 1) h)))))) :
    w_p 0 (8, 6, mc_X8_familiesHere) 13 [(0, .ref 16), (1, .int x1), (2, .ref 30), (3, .int x3), (4, .int x4)] [] h Q := by
  refine w_b 2 16 [(0, .ref 16), (1, .int x1), (2, .ref 30), (3, .int x3), (4, .int x4)] [.int x3, .int x4] rfl ?_
  refine w_ic_ge (tgt := 39) (x := x4) (y := x3) rfl (by decide) ⟨fun c1 => ?_, fun c1 => ?_⟩
  · have F := F.1 c1
    refine w_b 1 40 [(0, .ref 16), (1, .int x1), (2, .ref 30), (3, .int x3), (4, .int x4)] [.int x1] rfl ?_
    exact w_ir rfl F
  · have F := F.2 c1
    refine w_b 2 22 [(0, .ref 16), (1, .int x1), (2, .ref 30), (3, .int x3), (4, .int x4)] [.int x4, .ref 30] rfl ?_
    obtain ⟨g2, F⟩ := F
    refine w_aald rfl (by rw [kd_30 sh]; decide) (by rw [show h_al h 30 = 12 from (al_30 sh)]; exact g2) ?_
    refine w_astM (r := h_ar h 30 x4.toNatClampNeg) (lo2 := [(5, va_rf (h_ar h 30 x4.toNatClampNeg)), (0, .ref 16), (1, .int x1), (2, .ref 30), (3, .int x3), (4, .int x4)]) rfl (by decide) rfl ?_
    refine w_aldM (r := h_ar h 30 x4.toNatClampNeg) rfl rfl ?_
    refine w_ifnull (tgt := 33) (r := h_ar h 30 x4.toNatClampNeg) rfl (by decide) ⟨fun c3 => ?_, fun a4 c3 => ?_⟩
    · have F := F.1 c3
      refine w_b 2 13 [(4, .int (x4 + 1)), (5, va_rf (h_ar h 30 x4.toNatClampNeg)), (0, .ref 16), (1, .int x1), (2, .ref 30), (3, .int x3)] [] rfl ?_
      refine w_lo [0, 1, 2, 3, 4] [(0, .ref 16), (1, .int x1), (2, .ref 30), (3, .int x3), (4, .int (x4 + 1))] rfl rfl ?_
      exact k13 _ _ _ _ F
    · have F := F.2 a4 c3
      simp only [c3] ; show w_p _ _ 30 [(5, .ref a4), (0, .ref 16), (1, .int x1), (2, .ref 30), (3, .int x3), (4, .int x4)] [] h _
      refine w_b 3 13 [(4, .int (x4 + 1)), (1, .int (x1 + 1)), (5, .ref a4), (0, .ref 16), (2, .ref 30), (3, .int x3)] [] rfl ?_
      refine w_lo [0, 1, 2, 3, 4] [(0, .ref 16), (1, .int (x1 + 1)), (2, .ref 30), (3, .int x3), (4, .int (x4 + 1))] rfl rfl ?_
      exact k13 _ _ _ _ F

set_option maxRecDepth 20000 in
theorem t_X8_sumTold_0 {h : mm_H} {Q : Option Value → mm_H → Prop} (sh : s_h h) (what : Int32) {K4 : Int32 → Int32 → Int32 → mm_H → Prop} (k4 : ∀ (what : Int32) (x2 : Int32) (x3 : Int32) (h : mm_H), K4 what x2 x3 h → w_p 2 (8, 4, mc_X8_sumTold) 4 [(0, .ref 16), (1, .int what), (2, .int x2), (3, .int x3)] [] h Q) 
    (F : K4 what 0 0 h) :
    w_c 2 90 [.ref 16, .int what] h Q := by
  refine w_ci (M := (8, 4, mc_X8_sumTold)) rfl (Nat.le_of_ble_eq_true rfl) ?_
  show w_p _ _ 0 [(0, .ref 16), (1, .int what)] [] h Q
  refine w_b 4 4 [(3, .int 0), (2, .int 0), (0, .ref 16), (1, .int what)] [] rfl ?_
  refine w_lo [0, 1, 2, 3] [(0, .ref 16), (1, .int what), (2, .int 0), (3, .int 0)] rfl rfl ?_
  exact k4 _ _ _ _ F

set_option maxRecDepth 20000 in
theorem t_X8_sumTold_4 {h : mm_H} {Q : Option Value → mm_H → Prop} (sh : s_h h) (what : Int32) (x2 : Int32) (x3 : Int32) {K4 : Int32 → Int32 → Int32 → mm_H → Prop} (k4 : ∀ (what : Int32) (x2 : Int32) (x3 : Int32) (h : mm_H), K4 what x2 x3 h → w_p 2 (8, 4, mc_X8_sumTold) 4 [(0, .ref 16), (1, .int what), (2, .int x2), (3, .int x3)] [] h Q) 
    (F : (((h_oi h 520 16) ≤ x3 → Q (some (.int x2)) h) ∧ (¬ ((h_oi h 520 16) ≤ x3) → w_c 0 87 [.ref 16, .int x3] h (fun r h2 => ∃ z3 : Option Nat, r = some (va_rf z3) ∧ s_h h2 ∧ ((z3 = none → K4 what x2 (x3 + 1) h2) ∧ (∀ a5 : Nat, z3 = some a5 → w_c 1 72 [.ref 16, .int x3, .int what] h2 (fun r h6 => ∃ z7 : Int32, r = some (.int z7) ∧ s_h h6 ∧ K4 what (x2 + z7) (x3 + 1) h6))))))) :
    w_p 2 (8, 4, mc_X8_sumTold) 4 [(0, .ref 16), (1, .int what), (2, .int x2), (3, .int x3)] [] h Q := by
  refine w_b 2 6 [(0, .ref 16), (1, .int what), (2, .int x2), (3, .int x3)] [.ref 16, .int x3] rfl ?_
  refine w_get (g := 520) rfl rfl rfl (kd_16 sh) ?_
  refine w_ic_ge (tgt := 35) (x := x3) (y := h_oi h 520 16) rfl (by decide) ⟨fun c1 => ?_, fun c1 => ?_⟩
  · have F := F.1 c1
    refine w_b 1 36 [(0, .ref 16), (1, .int what), (2, .int x2), (3, .int x3)] [.int x2] rfl ?_
    exact w_ir rfl F
  · have F := F.2 c1
    refine w_b 2 14 [(0, .ref 16), (1, .int what), (2, .int x2), (3, .int x3)] [.int x3, .ref 16] rfl ?_
    refine w_cv (As := [.int x3]) (b := 16) (rest := []) rfl rfl rfl (Nat.le_of_ble_eq_true rfl) (kd_16 sh) (fun z => absurd z (by decide)) (dc := 0) (by omega) (F.mono (fun r h2 F => ?_))
    obtain ⟨z3, rfl, sh2, F⟩ := F
    show w_p _ _ 17 [(0, .ref 16), (1, .int what), (2, .int x2), (3, .int x3)] [va_rf z3] h2 _
    refine w_ifnull (tgt := 29) (r := z3) rfl (by decide) ⟨fun c4 => ?_, fun a5 c4 => ?_⟩
    · have F := F.1 c4
      refine w_b 2 4 [(3, .int (x3 + 1)), (0, .ref 16), (1, .int what), (2, .int x2)] [] rfl ?_
      refine w_lo [0, 1, 2, 3] [(0, .ref 16), (1, .int what), (2, .int x2), (3, .int (x3 + 1))] rfl rfl ?_
      exact k4 _ _ _ _ F
    · have F := F.2 a5 c4
      refine w_b 4 24 [(0, .ref 16), (1, .int what), (2, .int x2), (3, .int x3)] [.int what, .int x3, .ref 16, .int x2] rfl ?_
      refine w_cv (As := [.int x3, .int what]) (b := 16) (rest := [.int x2]) rfl rfl rfl (Nat.le_of_ble_eq_true rfl) (kd_16 sh2) (fun z => absurd z (by decide)) (dc := 1) (by omega) (F.mono (fun r h6 F => ?_))
      obtain ⟨z7, rfl, sh6, F⟩ := F
      show w_p _ _ 27 [(0, .ref 16), (1, .int what), (2, .int x2), (3, .int x3)] [.int z7, .int x2] h6 _
      refine w_b 4 4 [(3, .int (x3 + 1)), (2, .int (x2 + z7)), (0, .ref 16), (1, .int what)] [] rfl ?_
      refine w_lo [0, 1, 2, 3] [(0, .ref 16), (1, .int what), (2, .int (x2 + z7)), (3, .int (x3 + 1))] rfl rfl ?_
      exact k4 _ _ _ _ F

set_option maxRecDepth 20000 in
theorem t_X8_count_0 {h : mm_H} {Q : Option Value → mm_H → Prop} (sh : s_h h) (what : Int32) 
    (F : (((what.toInt < 0 ∨ 9 < what.toInt) → Q (some (.int (-1))) h) ∧ (what.toInt = 0 → w_c 0 89 [.ref 16] h (fun r h3 => ∃ z4 : Int32, r = some (.int z4) ∧ s_h h3 ∧ Q (some (.int z4)) h3)) ∧ (what.toInt = 1 → Q (some (.int (h_oi h 66 21))) h) ∧ (what.toInt = 2 → Q (some (.int (h_oi h 521 16))) h) ∧ (what.toInt = 3 → Q (some (.int (h_oi h 451 31))) h) ∧ (what.toInt = 4 → Q (some (.int (h_oi h 451 35))) h) ∧ (what.toInt = 5 → w_c 2 90 [.ref 16, .int 0] h (fun r h5 => ∃ z6 : Int32, r = some (.int z6) ∧ s_h h5 ∧ Q (some (.int z6)) h5)) ∧ (what.toInt = 6 → w_c 2 90 [.ref 16, .int 1] h (fun r h7 => ∃ z8 : Int32, r = some (.int z8) ∧ s_h h7 ∧ Q (some (.int z8)) h7)) ∧ (what.toInt = 7 → Q (some (.int (h_oi h 523 16))) h) ∧ (what.toInt = 8 → Q (some (.int (h_oi h 524 16))) h) ∧ (what.toInt = 9 → Q (some (.int (h_oi h 525 16))) h))) :
    w_c 3 86 [.ref 16, .int what] h Q := by
  refine w_ci (M := (8, 2, mc_X8_count)) rfl (Nat.le_of_ble_eq_true rfl) ?_
  show w_p _ _ 0 [(0, .ref 16), (1, .int what)] [] h Q
  refine w_b 1 1 [(0, .ref 16), (1, .int what)] [.int what] rfl ?_
  by_cases c1 : what.toInt < 0 ∨ 9 < what.toInt
  · have F := F.1 c1
    refine w_tabO (tgt := 117) rfl c1 (by decide) ?_
    refine w_b 1 118 [(0, .ref 16), (1, .int what)] [.int (-1)] rfl ?_
    exact w_ir rfl F
  · have F := F.2
    have e2 : what.toInt = 0 ∨ what.toInt = 1 ∨ what.toInt = 2 ∨ what.toInt = 3 ∨ what.toInt = 4 ∨ what.toInt = 5 ∨ what.toInt = 6 ∨ what.toInt = 7 ∨ what.toInt = 8 ∨ what.toInt = 9 := by omega
    rcases e2 with e2 | e2 | e2 | e2 | e2 | e2 | e2 | e2 | e2 | e2
    · have F := F.1 e2
      refine w_tabI (tgt := 56) (off := 55) rfl (by omega) (by omega) (by rw [e2]; rfl) (by decide) ?_
      refine w_b 1 57 [(0, .ref 16), (1, .int what)] [.ref 16] rfl ?_
      refine w_cv (As := []) (b := 16) (rest := []) rfl rfl rfl (Nat.le_of_ble_eq_true rfl) (kd_16 sh) (fun z => absurd z (by decide)) (dc := 0) (by omega) (F.mono (fun r h3 F => ?_))
      obtain ⟨z4, rfl, sh3, F⟩ := F
      show w_p _ _ 60 [(0, .ref 16), (1, .int what)] [.int z4] h3 _
      exact w_ir rfl F
    · have F := F.2.1 e2
      refine w_tabI (tgt := 61) (off := 60) rfl (by omega) (by omega) (by rw [e2]; rfl) (by decide) ?_
      refine w_b 1 62 [(0, .ref 16), (1, .int what)] [.ref 16] rfl ?_
      refine w_getS (b := 21) rfl rfl rfl (kd_16 sh) (or_514_16 sh) ?_
      refine w_get (g := 66) rfl rfl rfl (kd_21 sh) ?_
      exact w_ir rfl F
    · have F := F.2.2.1 e2
      refine w_tabI (tgt := 69) (off := 68) rfl (by omega) (by omega) (by rw [e2]; rfl) (by decide) ?_
      refine w_b 1 70 [(0, .ref 16), (1, .int what)] [.ref 16] rfl ?_
      refine w_get (g := 521) rfl rfl rfl (kd_16 sh) ?_
      exact w_ir rfl F
    · have F := F.2.2.2.1 e2
      refine w_tabI (tgt := 74) (off := 73) rfl (by omega) (by omega) (by rw [e2]; rfl) (by decide) ?_
      refine w_b 1 75 [(0, .ref 16), (1, .int what)] [.ref 16] rfl ?_
      refine w_getS (b := 31) rfl rfl rfl (kd_16 sh) (or_516_16 sh) ?_
      refine w_get (g := 451) rfl rfl rfl (kd_31 sh) ?_
      exact w_ir rfl F
    · have F := F.2.2.2.2.1 e2
      refine w_tabI (tgt := 82) (off := 81) rfl (by omega) (by omega) (by rw [e2]; rfl) (by decide) ?_
      refine w_b 1 83 [(0, .ref 16), (1, .int what)] [.ref 16] rfl ?_
      refine w_getS (b := 35) rfl rfl rfl (kd_16 sh) (or_517_16 sh) ?_
      refine w_get (g := 451) rfl rfl rfl (kd_35 sh) ?_
      exact w_ir rfl F
    · have F := F.2.2.2.2.2.1 e2
      refine w_tabI (tgt := 90) (off := 89) rfl (by omega) (by omega) (by rw [e2]; rfl) (by decide) ?_
      refine w_b 2 92 [(0, .ref 16), (1, .int what)] [.int 0, .ref 16] rfl ?_
      refine w_cv (As := [.int 0]) (b := 16) (rest := []) rfl rfl rfl (Nat.le_of_ble_eq_true rfl) (kd_16 sh) (fun z => absurd z (by decide)) (dc := 2) (by omega) (F.mono (fun r h5 F => ?_))
      obtain ⟨z6, rfl, sh5, F⟩ := F
      show w_p _ _ 95 [(0, .ref 16), (1, .int what)] [.int z6] h5 _
      exact w_ir rfl F
    · have F := F.2.2.2.2.2.2.1 e2
      refine w_tabI (tgt := 96) (off := 95) rfl (by omega) (by omega) (by rw [e2]; rfl) (by decide) ?_
      refine w_b 2 98 [(0, .ref 16), (1, .int what)] [.int 1, .ref 16] rfl ?_
      refine w_cv (As := [.int 1]) (b := 16) (rest := []) rfl rfl rfl (Nat.le_of_ble_eq_true rfl) (kd_16 sh) (fun z => absurd z (by decide)) (dc := 2) (by omega) (F.mono (fun r h7 F => ?_))
      obtain ⟨z8, rfl, sh7, F⟩ := F
      show w_p _ _ 101 [(0, .ref 16), (1, .int what)] [.int z8] h7 _
      exact w_ir rfl F
    · have F := F.2.2.2.2.2.2.2.1 e2
      refine w_tabI (tgt := 102) (off := 101) rfl (by omega) (by omega) (by rw [e2]; rfl) (by decide) ?_
      refine w_b 1 103 [(0, .ref 16), (1, .int what)] [.ref 16] rfl ?_
      refine w_get (g := 523) rfl rfl rfl (kd_16 sh) ?_
      exact w_ir rfl F
    · have F := F.2.2.2.2.2.2.2.2.1 e2
      refine w_tabI (tgt := 107) (off := 106) rfl (by omega) (by omega) (by rw [e2]; rfl) (by decide) ?_
      refine w_b 1 108 [(0, .ref 16), (1, .int what)] [.ref 16] rfl ?_
      refine w_get (g := 524) rfl rfl rfl (kd_16 sh) ?_
      exact w_ir rfl F
    · have F := F.2.2.2.2.2.2.2.2.2 e2
      refine w_tabI (tgt := 112) (off := 111) rfl (by omega) (by omega) (by rw [e2]; rfl) (by decide) ?_
      refine w_b 1 113 [(0, .ref 16), (1, .int what)] [.ref 16] rfl ?_
      refine w_get (g := 525) rfl rfl rfl (kd_16 sh) ?_
      exact w_ir rfl F

set_option maxRecDepth 20000 in
theorem t_X9_count_0 {h : mm_H} {Q : Option Value → mm_H → Prop} (sh : s_h h) (what : Int32) {K10 : Int32 → Int32 → Int32 → Int32 → Int32 → mm_H → Prop} (k10 : ∀ (what : Int32) (x2 : Int32) (x3 : Int32) (x4 : Int32) (x5 : Int32) (h : mm_H), K10 what x2 x3 x4 x5 h → w_p 1 (9, 6, mc_X9_count) 10 [(0, .ref 44), (1, .int what), (2, .int x2), (3, .int x3), (4, .int x4), (5, .int x5)] [] h Q) 
    (F : K10 what 0 0 0 0 h) :
    w_c 1 151 [.ref 44, .int what] h Q := by
  refine w_ci (M := (9, 6, mc_X9_count)) rfl (Nat.le_of_ble_eq_true rfl) ?_
  show w_p _ _ 0 [(0, .ref 44), (1, .int what)] [] h Q
  refine w_b 8 10 [(5, .int 0), (4, .int 0), (3, .int 0), (2, .int 0), (0, .ref 44), (1, .int what)] [] rfl ?_
  refine w_lo [0, 1, 2, 3, 4, 5] [(0, .ref 44), (1, .int what), (2, .int 0), (3, .int 0), (4, .int 0), (5, .int 0)] rfl rfl ?_
  exact k10 _ _ _ _ _ _ F

set_option maxRecDepth 20000 in
theorem t_X9_count_10 {h : mm_H} {Q : Option Value → mm_H → Prop} (sh : s_h h) (what : Int32) (x2 : Int32) (x3 : Int32) (x4 : Int32) (x5 : Int32) {K10 : Int32 → Int32 → Int32 → Int32 → Int32 → mm_H → Prop} (k10 : ∀ (what : Int32) (x2 : Int32) (x3 : Int32) (x4 : Int32) (x5 : Int32) (h : mm_H), K10 what x2 x3 x4 x5 h → w_p 1 (9, 6, mc_X9_count) 10 [(0, .ref 44), (1, .int what), (2, .int x2), (3, .int x3), (4, .int x4), (5, .int x5)] [] h Q) 
    (F : (((h_oi h 590 44) ≤ x5 → (((what.toInt < 0 ∨ 9 < what.toInt) → Q (some (.int (-1))) h) ∧ (what.toInt = 0 → Q (some (.int x2)) h) ∧ (what.toInt = 1 → Q (some (.int (h_oi h 585 44))) h) ∧ (what.toInt = 2 → Q (some (.int (h_oi h 588 44))) h) ∧ (what.toInt = 3 → Q (some (.int (h_oi h 600 44))) h) ∧ (what.toInt = 4 → Q (some (.int (h_oi h 604 44))) h) ∧ (what.toInt = 5 → Q (some (.int x3)) h) ∧ (what.toInt = 6 → Q (some (.int x4)) h) ∧ (what.toInt = 7 → Q (some (.int (h_oi h 597 44))) h) ∧ (what.toInt = 8 → Q (some (.int (h_oi h 598 44))) h) ∧ (what.toInt = 9 → Q (some (.int (h_oi h 599 44))) h))) ∧ (¬ ((h_oi h 590 44) ≤ x5) → (vp_in x5 12 ∧ (((h_ai h 49 x5.toNatClampNeg) = 0 → w_c 0 121 [.ref 44, .int x5] h (fun r h6 => ∃ z7 : Int32, r = some (.int z7) ∧ s_h h6 ∧ (vp_in x5 12 ∧ K10 what (x2 + 1) (x3 + z7) (x4 + (h_ai h6 50 x5.toNatClampNeg)) (x5 + 1) h6))) ∧ (¬ ((h_ai h 49 x5.toNatClampNeg) = 0) → w_c 0 121 [.ref 44, .int x5] h (fun r h9 => ∃ z10 : Int32, r = some (.int z10) ∧ s_h h9 ∧ (vp_in x5 12 ∧ K10 what (x2 + 0) (x3 + z10) (x4 + (h_ai h9 50 x5.toNatClampNeg)) (x5 + 1) h9)))))))) :
    w_p 1 (9, 6, mc_X9_count) 10 [(0, .ref 44), (1, .int what), (2, .int x2), (3, .int x3), (4, .int x4), (5, .int x5)] [] h Q := by
  refine w_b 2 13 [(0, .ref 44), (1, .int what), (2, .int x2), (3, .int x3), (4, .int x4), (5, .int x5)] [.ref 44, .int x5] rfl ?_
  refine w_get (g := 590) rfl rfl rfl (kd_44 sh) ?_
  refine w_ic_ge (tgt := 64) (x := x5) (y := h_oi h 590 44) rfl (by decide) ⟨fun c1 => ?_, fun c1 => ?_⟩
  · have F := F.1 c1
    refine w_b 1 65 [(0, .ref 44), (1, .int what), (2, .int x2), (3, .int x3), (4, .int x4), (5, .int x5)] [.int what] rfl ?_
    by_cases c2 : what.toInt < 0 ∨ 9 < what.toInt
    · have F := F.1 c2
      refine w_tabO (tgt := 162) rfl c2 (by decide) ?_
      refine w_b 1 163 [(0, .ref 44), (1, .int what), (2, .int x2), (3, .int x3), (4, .int x4), (5, .int x5)] [.int (-1)] rfl ?_
      exact w_ir rfl F
    · have F := F.2
      have e3 : what.toInt = 0 ∨ what.toInt = 1 ∨ what.toInt = 2 ∨ what.toInt = 3 ∨ what.toInt = 4 ∨ what.toInt = 5 ∨ what.toInt = 6 ∨ what.toInt = 7 ∨ what.toInt = 8 ∨ what.toInt = 9 := by omega
      rcases e3 with e3 | e3 | e3 | e3 | e3 | e3 | e3 | e3 | e3 | e3
      · have F := F.1 e3
        refine w_tabI (tgt := 120) (off := 55) rfl (by omega) (by omega) (by rw [e3]; rfl) (by decide) ?_
        refine w_b 1 121 [(0, .ref 44), (1, .int what), (2, .int x2), (3, .int x3), (4, .int x4), (5, .int x5)] [.int x2] rfl ?_
        exact w_ir rfl F
      · have F := F.2.1 e3
        refine w_tabI (tgt := 122) (off := 57) rfl (by omega) (by omega) (by rw [e3]; rfl) (by decide) ?_
        refine w_b 1 123 [(0, .ref 44), (1, .int what), (2, .int x2), (3, .int x3), (4, .int x4), (5, .int x5)] [.ref 44] rfl ?_
        refine w_get (g := 585) rfl rfl rfl (kd_44 sh) ?_
        exact w_ir rfl F
      · have F := F.2.2.1 e3
        refine w_tabI (tgt := 127) (off := 62) rfl (by omega) (by omega) (by rw [e3]; rfl) (by decide) ?_
        refine w_b 1 128 [(0, .ref 44), (1, .int what), (2, .int x2), (3, .int x3), (4, .int x4), (5, .int x5)] [.ref 44] rfl ?_
        refine w_get (g := 588) rfl rfl rfl (kd_44 sh) ?_
        exact w_ir rfl F
      · have F := F.2.2.2.1 e3
        refine w_tabI (tgt := 132) (off := 67) rfl (by omega) (by omega) (by rw [e3]; rfl) (by decide) ?_
        refine w_b 1 133 [(0, .ref 44), (1, .int what), (2, .int x2), (3, .int x3), (4, .int x4), (5, .int x5)] [.ref 44] rfl ?_
        refine w_get (g := 600) rfl rfl rfl (kd_44 sh) ?_
        exact w_ir rfl F
      · have F := F.2.2.2.2.1 e3
        refine w_tabI (tgt := 137) (off := 72) rfl (by omega) (by omega) (by rw [e3]; rfl) (by decide) ?_
        refine w_b 1 138 [(0, .ref 44), (1, .int what), (2, .int x2), (3, .int x3), (4, .int x4), (5, .int x5)] [.ref 44] rfl ?_
        refine w_get (g := 604) rfl rfl rfl (kd_44 sh) ?_
        exact w_ir rfl F
      · have F := F.2.2.2.2.2.1 e3
        refine w_tabI (tgt := 142) (off := 77) rfl (by omega) (by omega) (by rw [e3]; rfl) (by decide) ?_
        refine w_b 1 143 [(0, .ref 44), (1, .int what), (2, .int x2), (3, .int x3), (4, .int x4), (5, .int x5)] [.int x3] rfl ?_
        exact w_ir rfl F
      · have F := F.2.2.2.2.2.2.1 e3
        refine w_tabI (tgt := 144) (off := 79) rfl (by omega) (by omega) (by rw [e3]; rfl) (by decide) ?_
        refine w_b 1 146 [(0, .ref 44), (1, .int what), (2, .int x2), (3, .int x3), (4, .int x4), (5, .int x5)] [.int x4] rfl ?_
        exact w_ir rfl F
      · have F := F.2.2.2.2.2.2.2.1 e3
        refine w_tabI (tgt := 147) (off := 82) rfl (by omega) (by omega) (by rw [e3]; rfl) (by decide) ?_
        refine w_b 1 148 [(0, .ref 44), (1, .int what), (2, .int x2), (3, .int x3), (4, .int x4), (5, .int x5)] [.ref 44] rfl ?_
        refine w_get (g := 597) rfl rfl rfl (kd_44 sh) ?_
        exact w_ir rfl F
      · have F := F.2.2.2.2.2.2.2.2.1 e3
        refine w_tabI (tgt := 152) (off := 87) rfl (by omega) (by omega) (by rw [e3]; rfl) (by decide) ?_
        refine w_b 1 153 [(0, .ref 44), (1, .int what), (2, .int x2), (3, .int x3), (4, .int x4), (5, .int x5)] [.ref 44] rfl ?_
        refine w_get (g := 598) rfl rfl rfl (kd_44 sh) ?_
        exact w_ir rfl F
      · have F := F.2.2.2.2.2.2.2.2.2 e3
        refine w_tabI (tgt := 157) (off := 92) rfl (by omega) (by omega) (by rw [e3]; rfl) (by decide) ?_
        refine w_b 1 158 [(0, .ref 44), (1, .int what), (2, .int x2), (3, .int x3), (4, .int x4), (5, .int x5)] [.ref 44] rfl ?_
        refine w_get (g := 599) rfl rfl rfl (kd_44 sh) ?_
        exact w_ir rfl F
  · have F := F.2 c1
    refine w_b 2 21 [(0, .ref 44), (1, .int what), (2, .int x2), (3, .int x3), (4, .int x4), (5, .int x5)] [.ref 44, .int x2] rfl ?_
    refine w_getS (b := 49) rfl rfl rfl (kd_44 sh) (or_591_44 sh) ?_
    refine w_b 1 26 [(0, .ref 44), (1, .int what), (2, .int x2), (3, .int x3), (4, .int x4), (5, .int x5)] [.int x5, .ref 49, .int x2] rfl ?_
    obtain ⟨g4, F⟩ := F
    refine w_bald rfl (Or.inr (kd_49 sh)) (by rw [show h_al h 49 = 12 from (al_49 sh)]; exact g4) ?_
    refine w_if_eq (tgt := 34) (x := h_ai h 49 x5.toNatClampNeg) rfl (by decide) ⟨fun c5 => ?_, fun c5 => ?_⟩
    · have F := F.1 c5
      refine w_b 6 41 [(2, .int (x2 + 1)), (0, .ref 44), (1, .int what), (3, .int x3), (4, .int x4), (5, .int x5)] [.int x5, .ref 44, .int x3] rfl ?_
      refine w_cv (As := [.int x5]) (b := 44) (rest := [.int x3]) rfl rfl rfl (Nat.le_of_ble_eq_true rfl) (kd_44 sh) (fun z => absurd z (by decide)) (dc := 0) (by omega) (F.mono (fun r h6 F => ?_))
      obtain ⟨z7, rfl, sh6, F⟩ := F
      show w_p _ _ 44 [(2, .int (x2 + 1)), (0, .ref 44), (1, .int what), (3, .int x3), (4, .int x4), (5, .int x5)] [.int z7, .int x3] h6 _
      refine w_b 4 49 [(3, .int (x3 + z7)), (2, .int (x2 + 1)), (0, .ref 44), (1, .int what), (4, .int x4), (5, .int x5)] [.ref 44, .int x4] rfl ?_
      refine w_getS (b := 50) rfl rfl rfl (kd_44 sh6) (or_592_44 sh6) ?_
      refine w_b 1 54 [(3, .int (x3 + z7)), (2, .int (x2 + 1)), (0, .ref 44), (1, .int what), (4, .int x4), (5, .int x5)] [.int x5, .ref 50, .int x4] rfl ?_
      obtain ⟨g8, F⟩ := F
      refine w_iald rfl (kd_50 sh6) (by rw [show h_al h6 50 = 12 from (al_50 sh6)]; exact g8) ?_
      refine w_b 4 10 [(5, .int (x5 + 1)), (4, .int (x4 + (h_ai h6 50 x5.toNatClampNeg))), (3, .int (x3 + z7)), (2, .int (x2 + 1)), (0, .ref 44), (1, .int what)] [] rfl ?_
      refine w_lo [0, 1, 2, 3, 4, 5] [(0, .ref 44), (1, .int what), (2, .int (x2 + 1)), (3, .int (x3 + z7)), (4, .int (x4 + (h_ai h6 50 x5.toNatClampNeg))), (5, .int (x5 + 1))] rfl rfl ?_
      exact k10 _ _ _ _ _ _ F
    · have F := F.2 c5
      refine w_b 7 41 [(2, .int (x2 + 0)), (0, .ref 44), (1, .int what), (3, .int x3), (4, .int x4), (5, .int x5)] [.int x5, .ref 44, .int x3] rfl ?_
      refine w_cv (As := [.int x5]) (b := 44) (rest := [.int x3]) rfl rfl rfl (Nat.le_of_ble_eq_true rfl) (kd_44 sh) (fun z => absurd z (by decide)) (dc := 0) (by omega) (F.mono (fun r h9 F => ?_))
      obtain ⟨z10, rfl, sh9, F⟩ := F
      show w_p _ _ 44 [(2, .int (x2 + 0)), (0, .ref 44), (1, .int what), (3, .int x3), (4, .int x4), (5, .int x5)] [.int z10, .int x3] h9 _
      refine w_b 4 49 [(3, .int (x3 + z10)), (2, .int (x2 + 0)), (0, .ref 44), (1, .int what), (4, .int x4), (5, .int x5)] [.ref 44, .int x4] rfl ?_
      refine w_getS (b := 50) rfl rfl rfl (kd_44 sh9) (or_592_44 sh9) ?_
      refine w_b 1 54 [(3, .int (x3 + z10)), (2, .int (x2 + 0)), (0, .ref 44), (1, .int what), (4, .int x4), (5, .int x5)] [.int x5, .ref 50, .int x4] rfl ?_
      obtain ⟨g11, F⟩ := F
      refine w_iald rfl (kd_50 sh9) (by rw [show h_al h9 50 = 12 from (al_50 sh9)]; exact g11) ?_
      refine w_b 4 10 [(5, .int (x5 + 1)), (4, .int (x4 + (h_ai h9 50 x5.toNatClampNeg))), (3, .int (x3 + z10)), (2, .int (x2 + 0)), (0, .ref 44), (1, .int what)] [] rfl ?_
      refine w_lo [0, 1, 2, 3, 4, 5] [(0, .ref 44), (1, .int what), (2, .int (x2 + 0)), (3, .int (x3 + z10)), (4, .int (x4 + (h_ai h9 50 x5.toNatClampNeg))), (5, .int (x5 + 1))] rfl rfl ?_
      exact k10 _ _ _ _ _ _ F

/-! told, count -/
theorem a_old_0 {m : Nat} {hd hn nt : Nat → Nat} (L : pL m hd hn nt) (h0 : m = 0) : a_old nt = none := a_old_none (fun e _ => pL_no L (fun i hi => by omega))
theorem a_old_1 {m : Nat} {hd hn nt : Nat → Nat} (L : pL m hd hn nt) (h0 : 0 < m) : a_old nt = some (hd 0) := by
  have l0 := L.2.1 0 h0
  refine a_old_some (by omega) (by rw [l0.2.2]; exact l0.2.1) (fun e he => ?_)
  refine pL_no L (fun i hi y => ?_)
  have := pL_mono L (i := 0) (j := i) (by omega) hi
  omega
noncomputable def a_on (nt : Nat → Nat) : Int32 := match a_old nt with
  | none => 0
  | some d => nI (nt d)
theorem c_oldest {h : mm_H} {Q : Option Value → mm_H → Prop} (sh : s_h h) {p d n c : Nat} {nt : Nat → Nat} (P : pS h p d n c nt) (k : Q (some (.int (oN (a_old nt)))) h) : w_c 0 25 [.ref p] h Q := by
  obtain ⟨m, hd, hn, A, L, T, B⟩ := id P
  obtain ⟨K, hmc, hm, hv⟩ := id A
  obtain ⟨⟨k1, k2, k3⟩, ⟨r1, r2⟩, ⟨l1, l2⟩, ⟨b1, b2, b3, b4, b5, b6, b7⟩, c1, c2⟩ := id K
  refine t_X3_oldestDay_0 sh p k1 k2 k3 r1 r2 l1 l2 (by omega) (by omega) (by omega) ?_
  rw [hm]
  refine ⟨fun c => ?_, fun c => ⟨vp_in_nI (n := 0) (by omega) (by omega), ?_⟩⟩
  · have := (i_le (b := 0) (by omega) (by decide)).mp c
    rw [a_old_0 L (by omega)] at k
    exact k
  · have hm0 : 0 < m := by
      rcases Nat.eq_zero_or_pos m with z | z
      · rw [z] at c; exact absurd (by decide) c
      · exact z
    rw [a_old_1 L hm0] at k
    rw [show h_ai h d (0 : Int32).toNatClampNeg = nI (hd 0) from (hv 0 hm0).1]
    exact k
theorem c_oldestN {h : mm_H} {Q : Option Value → mm_H → Prop} (sh : s_h h) {p d n c : Nat} {nt : Nat → Nat} (P : pS h p d n c nt) (k : Q (some (.int (a_on nt))) h) : w_c 0 26 [.ref p] h Q := by
  obtain ⟨m, hd, hn, A, L, T, B⟩ := id P
  obtain ⟨K, hmc, hm, hv⟩ := id A
  obtain ⟨⟨k1, k2, k3⟩, ⟨r1, r2⟩, ⟨l1, l2⟩, ⟨b1, b2, b3, b4, b5, b6, b7⟩, c1, c2⟩ := id K
  refine t_X3_notesOfOldestDay_0 sh p k1 k2 k3 r1 r2 l1 l2 (by omega) (by omega) (by omega) ?_
  rw [hm]
  unfold a_on at k
  refine ⟨fun c => ?_, fun c => ⟨vp_in_nI (n := 0) (by omega) (by omega), ?_⟩⟩
  · have := (i_le (b := 0) (by omega) (by decide)).mp c
    rw [a_old_0 L (by omega)] at k
    exact k
  · have hm0 : 0 < m := by
      rcases Nat.eq_zero_or_pos m with z | z
      · rw [z] at c; exact absurd (by decide) c
      · exact z
    rw [a_old_1 L hm0] at k
    rw [show h_ai h n (0 : Int32).toNatClampNeg = nI (hn 0) from (hv 0 hm0).2, ← (L.2.1 0 hm0).2.2]
    exact k
noncomputable def a_told (N : zN) (f : Nat) (what : Int32) : Int32 := if what = 0 then nI (fb_sm (N.1 f) 2001) else if what = 1 then nI (N.2.1 f) else if what = 2 then oN (a_old (N.1 f)) else if what = 3 then N.2.2.2.1 f else if what = 4 then N.2.2.2.2 f else if what = 5 then a_on (N.1 f) else -1
theorem a_told_0 (N : zN) (f : Nat) : a_told N f 0 = nI (fb_sm (N.1 f) 2001) := by unfold a_told; rw [if_pos rfl]
theorem a_told_1 (N : zN) (f : Nat) : a_told N f 1 = nI (N.2.1 f) := by unfold a_told; rw [if_neg (by decide), if_pos rfl]
theorem a_told_2 (N : zN) (f : Nat) : a_told N f 2 = oN (a_old (N.1 f)) := by unfold a_told; rw [if_neg (by decide), if_neg (by decide), if_pos rfl]
theorem a_told_3 (N : zN) (f : Nat) : a_told N f 3 = N.2.2.2.1 f := by unfold a_told; rw [if_neg (by decide), if_neg (by decide), if_neg (by decide), if_pos rfl]
theorem a_told_4 (N : zN) (f : Nat) : a_told N f 4 = N.2.2.2.2 f := by unfold a_told; rw [if_neg (by decide), if_neg (by decide), if_neg (by decide), if_neg (by decide), if_pos rfl]
theorem a_told_5 (N : zN) (f : Nat) : a_told N f 5 = a_on (N.1 f) := by unfold a_told; rw [if_neg (by decide), if_neg (by decide), if_neg (by decide), if_neg (by decide), if_neg (by decide), if_pos rfl]
theorem a_told_no (N : zN) (f : Nat) {what : Int32} (h : ∀ j : Nat, j ≤ 5 → what ≠ nI j) : a_told N f what = -1 := by unfold a_told; rw [if_neg (show ¬ what = 0 from h 0 (by decide)), if_neg (show ¬ what = 1 from h 1 (by decide)), if_neg (show ¬ what = 2 from h 2 (by decide)), if_neg (show ¬ what = 3 from h 3 (by decide)), if_neg (show ¬ what = 4 from h 4 (by decide)), if_neg (show ¬ what = 5 from h 5 (by decide))]
theorem toInt_is {x : Int32} {n : Nat} (hn : n < 2147483648) (h : x.toInt = (n : Int)) : x = nI n := (fa_eq _ _).mpr (by rw [h, nI_toInt (by omega)])
theorem c_toldF {h : mm_H} {Q : Option Value → mm_H → Prop} {own cap : Nat → Nat} {T : zT} {X : zX} {dy W : Nat} {ft : Int32} {F : zF} {A O : zV} {N : zN} {C : zC} {H : zH} (sh : s_h h) (K : CS h own cap T X dy ft F A O N C H) (Z : zP W cap F A O N H) {f : Nat} (hf : f < F.1) (hp : F.2 f = true) (what : Int32) (k : Q (some (.int (a_told N f what))) h) : w_c 1 72 [.ref 16, .int (nI f), .int what] h Q := by
  refine t_X8_told_0 sh _ _ ((c_famAt sh K.2.2.2.2.1 K.2.2.2.2.2.2.2.1 hf hp (fun q p d n K1 => ⟨_, rfl, sh, fun z => (by cases z), fun q' e => ?_⟩)).up (by decide))
  cases e
  obtain ⟨-, -, K1⟩ := K1
  have kt := K1.tot
  obtain ⟨⟨k1, k2, k3⟩, k4, ⟨k5, k6, k7, k8⟩, k9⟩ := id K1
  have kp := k9.k.1.1
  refine ⟨fun c => ?_, fun c => ⟨k1, p, k4, kp, ?_⟩, fun c => ⟨k1, ?_⟩, fun c => ⟨k1, p, k4, kp, ?_⟩, fun c => ⟨k1, ?_⟩, fun c => ⟨k1, ?_⟩, fun c => ⟨k1, p, k4, kp, ?_⟩⟩
  · rw [a_told_no N f (fun j hj e => by rw [e, nI_toInt (by omega)] at c; omega)] at k
    exact k
  · rw [toInt_is (n := 0) (by decide) c] at k
    have k : Q (some (.int (a_told N f 0))) h := k
    rw [a_told_0] at k
    rw [kt]; exact k
  · rw [toInt_is (n := 1) (by decide) c] at k
    have k : Q (some (.int (a_told N f 1))) h := k
    rw [a_told_1] at k
    rw [k5]; exact k
  · rw [toInt_is (n := 2) (by decide) c] at k
    have k : Q (some (.int (a_told N f 2))) h := k
    rw [a_told_2] at k
    exact c_oldest sh k9 ⟨_, rfl, sh, k⟩
  · rw [toInt_is (n := 3) (by decide) c] at k
    have k : Q (some (.int (a_told N f 3))) h := k
    rw [a_told_3] at k
    rw [k7]; exact k
  · rw [toInt_is (n := 4) (by decide) c] at k
    have k : Q (some (.int (a_told N f 4))) h := k
    rw [a_told_4] at k
    rw [k8]; exact k
  · rw [toInt_is (n := 5) (by decide) c] at k
    have k : Q (some (.int (a_told N f 5))) h := k
    rw [a_told_5] at k
    exact c_oldestN sh k9 ⟨_, rfl, sh, k⟩
noncomputable def r_told (F : zF) (N : zN) (f what : Int32) : Int32 := r_if (isP F.1 F.2 f) (a_told N f.toNatClampNeg what) (-1)
theorem c_told {h : mm_H} {Q : Option Value → mm_H → Prop} {own cap : Nat → Nat} {T : zT} {X : zX} {dy W : Nat} {ft : Int32} {F : zF} {A O : zV} {N : zN} {C : zC} {H : zH} (sh : s_h h) (K : CS h own cap T X dy ft F A O N C H) (Z : zP W cap F A O N H) (f what : Int32) (k : ∀ h', fx h h' gS aS → dn h h' → Q (some (.int (r_told F N f what))) h') : w_c 1 72 [.ref 16, .int f, .int what] h Q := by
  replace k := k h (fx.rf _ _ _) (dn.rf _)
  have z1 := Z.1
  unfold r_told at k
  by_cases c : isP F.1 F.2 f
  · rw [r_if_t c] at k
    obtain ⟨j, rfl, hj, hp⟩ := c
    rw [i_cl (by omega)] at k
    exact c_toldF sh K Z hj hp what k
  · rw [r_if_f c] at k
    exact t_X8_told_0 sh _ _ ((sp_famC sh K.2.2.2.2.1 f (fun _ => ⟨_, rfl, sh, fun _ => k, fun _ z => (by cases z)⟩) (fun j q e hj hp _ _ _ _ => absurd ⟨j, e, hj, hp⟩ c)).up (by decide))
theorem zP.nb {W : Nat} {cap : Nat → Nat} {F : zF} {A O : zV} {N : zN} {H : zH} (Z : zP W cap F A O N H) {f : Nat} (hf : f < 12) : fb_sm (N.1 f) 2001 ≤ 1000000 := by
  obtain ⟨-, -, -, -, -, -, ⟨s1, s2, -⟩, -⟩ := Z
  have := fb_sm_part (fun f => fb_sm (N.1 f) 2001) (i := f) (n := 12) hf
  have this : _ + fb_sm (N.1 f) 2001 ≤ _ := this
  omega
theorem m_told {h : mm_H} {Q : Option Value → mm_H → Prop} {cap : Nat → Nat} {T : zT} {X : zX} {dy cl W : Nat} {ft : Int32} {F : zF} {A O : zV} {N : zN} {C : zC} {H : zH} (sh : s_h h) (K : MS h cl T X dy ft F A O N C H) (Z : zP W cap F A O N H) (f what : Int32) (k : ∀ h', fx h h' gSm aSm → dn h h' → Q (some (.int (r_told F N f what))) h') : w_c 2 126 [.ref 44, .int f, .int what] h Q := by
  replace k := k h (fx.rf _ _ _) (dn.rf _)
  have z1 := Z.1
  unfold r_told at k
  obtain ⟨-, -, -, mp, -, -, mb, mo, ⟨ms1, ms2, -⟩, -⟩ := K
  refine t_X9_told_0 sh _ _ (sp_famM sh mp f (fun c => ⟨_, rfl, sh, fun _ => by rw [r_if_f c] at k; exact k, fun z => absurd rfl z⟩) (fun j e hj hp => ⟨_, rfl, sh, fun z => absurd z (by decide), fun _ => ⟨fun c => ?_, fun c => ?_⟩⟩))
  · subst e
    rw [r_if_t ⟨j, rfl, hj, hp⟩, i_cl (by omega)] at k
    have c := (f_in_nz (by decide) (by decide)).mp c
    obtain ⟨w, hw, rfl⟩ := nat_of (le0.mp c.1)
    have hw5 := (i_le hw (by decide)).mp c.2
    have nb := Z.nb (f := j) (by omega)
    have nd : ∀ d, N.1 j d < 2147483648 := fun d => by
      by_cases z : d < 2001
      · have := fb_sm_part (N.1 j) (i := d) (n := 2001) z; omega
      · rw [mb.2.2.2.2 j (by omega) d (Or.inr (by have := mb.1; omega))]; decide
    have vj : vp_in (nI j) 12 := vp_in_nI (by omega) (by decide)
    have ne : ∀ i, i < 2147483648 → (¬ nI w = nI i ↔ ¬ w = i) := fun i hi => by rw [nI_eqI hw hi]
    refine m_oldest sh mb (by omega) nd ⟨_, rfl, sh, ?_⟩
    refine ⟨fun c0 => ⟨fun c1 => ⟨fun c2 => ⟨fun c3 => ⟨fun c4 => ?_, fun c4 => ⟨vj, ?_⟩⟩, fun c3 => ⟨vj, ?_⟩⟩, fun c2 => ?_⟩, fun c1 => ⟨vj, ?_⟩⟩, fun c0 => ?_⟩
    · have c0 := (ne 0 (by decide)).mp c0
      have c1 := (ne 1 (by decide)).mp c1
      have c2 := (ne 2 (by decide)).mp c2
      have c3 := (ne 3 (by decide)).mp c3
      have c4 := (ne 4 (by decide)).mp c4
      have e5 : w = 5 := by omega
      subst e5
      have k : Q (some (.int (a_told N j 5))) h := k
      rw [a_told_5] at k
      unfold a_on at k
      refine ⟨fun c5 => ?_, fun c5 => ?_⟩
      · cases eo : a_old (N.1 j) with
        | none => rw [eo] at c5; exact absurd rfl c5
        | some d =>
          rw [eo] at k
          have hd : d ≤ 2000 := Nat.le_of_lt_succ (a_old_lt eo)
          show vp_in ((2001 : Int32) * nI j + nI d) 24012 ∧ _
          rw [show oN (some d) = nI d from rfl, e2001, i_cl (by omega), mb.2.2.2.1 j (by omega) d hd]
          exact ⟨vp_in_nI (by omega) (by decide), k⟩
      · cases eo : a_old (N.1 j) with
        | none => rw [eo] at k; exact k
        | some d =>
          rw [eo] at c5
          have hd : d ≤ 2000 := Nat.le_of_lt_succ (a_old_lt eo)
          exact absurd c5 (oN_ne d (by omega))
    · rw [c4, a_told_4] at k
      rw [i_cl (by omega), ms2 j (by omega)]; exact k
    · rw [c3, a_told_3] at k
      rw [i_cl (by omega), ms1 j (by omega)]; exact k
    · rw [c2, a_told_2] at k
      exact k
    · rw [c1, a_told_1] at k
      rw [i_cl (by omega), mo j (by omega)]; exact k
    · rw [c0, a_told_0] at k
      exact m_has sh mb (by omega) ⟨_, rfl, sh, k⟩
  · rw [r_if_t ⟨j, e, hj, hp⟩, a_told_no N _ (fun i hi e2 => ?_)] at k
    · exact k
    · refine ((f_in_nz (v := what) (a := 0) (b := 5) (by decide) (by decide)).mpr ?_) c
      rw [e2]
      exact ⟨(i_le (by decide) (by omega)).mpr (by omega), (i_le (by omega) (by decide)).mpr hi⟩
def a_count (X : zX) (dy : Nat) (F : zF) (A O : zV) (N : zN) (C : zC) (what : Int32) : Int32 := if what = 0 then nI (fb_ct F.2 F.1) else if what = 1 then nI X.1 else if what = 2 then nI dy else if what = 3 then nI A.1 else if what = 4 then nI O.1 else if what = 5 then nI (fb_sm (fun f => fb_sm (N.1 f) 2001) F.1) else if what = 6 then nI (fb_sm N.2.1 F.1) else if what = 7 then C.1 else if what = 8 then C.2.1 else if what = 9 then C.2.2 else -1
theorem c_here {h : mm_H} {Q : Option Value → mm_H → Prop} {own cap : Nat → Nat} {T : zT} {X : zX} {dy W : Nat} {ft : Int32} {F : zF} {A O : zV} {N : zN} {C : zC} {H : zH} (sh : s_h h) (K : CS h own cap T X dy ft F A O N C H) (Z : zP W cap F A O N H) (k : Q (some (.int (nI (fb_ct F.2 F.1)))) h) : w_c 0 89 [.ref 16] h Q := by
  have z1 := Z.1
  have cp : cP h F.1 F.2 := K.2.2.2.2.1
  have e12' : fb_ct F.2 12 = fb_ct F.2 F.1 := by
    have e := fb_ct_split F.2 F.1 (12 - F.1)
    rw [show F.1 + (12 - F.1) = 12 by omega] at e
    have e0 : fb_ct (fun k => F.2 (F.1 + k)) (12 - F.1) = 0 := fb_ct_zero.mpr (fun k hk => (Z.2.2.2.2.1 (F.1 + k) (by omega) (by omega)).1)
    omega
  have loop : ∀ w f, f + w = 12 → w_p 0 (8, 6, mc_X8_familiesHere) 13 [(0, .ref 16), (1, .int (nI (fb_ct F.2 f))), (2, .ref 30), (3, .int (Int32.ofNat 12)), (4, .int (nI f))] [] h Q := by
    intro w
    induction w with
    | zero =>
      intro f hf
      refine t_X8_familiesHere_13 sh _ _ _ (K13 := fun _ _ _ _ => False) (fun _ _ _ _ z => z.elim) ⟨fun _ => ?_, fun z => absurd ?_ z⟩
      · rw [show f = 12 by omega, e12']; exact k
      · exact (i_le (a := 12) (by decide) (by omega)).mpr (by omega)
    | succ w ih =>
      intro f hf
      obtain ⟨p1, p2⟩ := cp.2.2 f (by omega)
      refine t_X8_familiesHere_13 sh _ _ _ (K13 := fun y1 y3 y4 hh => y1 = nI (fb_ct F.2 (f + 1)) ∧ y3 = Int32.ofNat 12 ∧ y4 = nI (f + 1) ∧ hh = h) (fun y1 y3 y4 hh z => ?_) ⟨fun z => ?_, fun _ => ⟨vp_in_nI (by omega) (by decide), ?_⟩⟩
      · obtain ⟨rfl, rfl, rfl, rfl⟩ := z
        exact ih (f + 1) (by omega)
      · have := (i_le (a := 12) (by decide) (by omega)).mp z
        omega
      · rw [i_cl (by omega), fb_ct_succ]
        refine ⟨fun e => ⟨?_, rfl, nI_1 f, rfl⟩, fun q e => ⟨?_, rfl, nI_1 f, rfl⟩⟩
        · have hp : F.2 f = false := bfalse (fun z => by
            by_cases y : f < F.1
            · exact p1 e ⟨y, z⟩
            · rw [(Z.2.2.2.2.1 f (by omega) (by omega)).1] at z; cases z)
          rw [hp]; rfl
        · rw [(p2 q e).1.2]
          exact nI_1 _
  refine t_X8_familiesHere_0 sh (K13 := fun y1 y3 y4 hh => y1 = nI (fb_ct F.2 0) ∧ y3 = Int32.ofNat 12 ∧ y4 = nI 0 ∧ hh = h) (fun y1 y3 y4 hh z => ?_) ⟨rfl, rfl, rfl, rfl⟩
  obtain ⟨rfl, rfl, rfl, rfl⟩ := z
  exact loop 12 0 (by omega)
theorem c_sumT {h : mm_H} {Q : Option Value → mm_H → Prop} {own cap : Nat → Nat} {T : zT} {X : zX} {dy W : Nat} {ft : Int32} {F : zF} {A O : zV} {N : zN} {C : zC} {H : zH} (sh : s_h h) (K : CS h own cap T X dy ft F A O N C H) (Z : zP W cap F A O N H) (what : Int32) (g : Nat → Nat) (hg : ∀ f, f < F.1 → F.2 f = true → a_told N f what = nI (g f)) (hz : ∀ f, f < F.1 → F.2 f = false → g f = 0) (k : Q (some (.int (nI (fb_sm g F.1)))) h) : w_c 2 90 [.ref 16, .int what] h Q := by
  have z1 := Z.1
  have cp : cP h F.1 F.2 := K.2.2.2.2.1
  have loop : ∀ w f, f + w = F.1 → w_p 2 (8, 4, mc_X8_sumTold) 4 [(0, .ref 16), (1, .int what), (2, .int (nI (fb_sm g f))), (3, .int (nI f))] [] h Q := by
    intro w
    induction w with
    | zero =>
      intro f hf
      refine t_X8_sumTold_4 sh _ _ _ (K4 := fun _ _ _ _ => False) (fun _ _ _ _ z => z.elim) ⟨fun _ => ?_, fun z => absurd ?_ z⟩
      · rw [show f = F.1 by omega]; exact k
      · rw [cp.2.1, i_le (by omega) (by omega)]; omega
    | succ w ih =>
      intro f hf
      refine t_X8_sumTold_4 sh _ _ _ (K4 := fun y1 y2 y3 hh => y1 = what ∧ y2 = nI (fb_sm g (f + 1)) ∧ y3 = nI (f + 1) ∧ hh = h) (fun y1 y2 y3 hh z => ?_) ⟨fun z => ?_, fun _ => ?_⟩
      · obtain ⟨rfl, rfl, rfl, rfl⟩ := z
        exact ih (f + 1) (by omega)
      · rw [cp.2.1, i_le (by omega) (by omega)] at z; omega
      · by_cases hp : F.2 f = true
        · refine (c_famAt sh cp K.2.2.2.2.2.2.2.1 (by omega) hp (fun q p d n K1 => ⟨_, rfl, sh, fun z => (by cases z), fun q' e => ?_⟩)).up (by decide)
          refine c_toldF sh K Z (by omega) hp what ⟨_, rfl, sh, rfl, ?_, nI_1 f, rfl⟩
          rw [hg f (by omega) hp, nI_add, fb_sm_succ]
        · have hp := bfalse hp
          refine (sp_famC sh cp (nI f) (fun _ => ⟨_, rfl, sh, fun _ => ⟨rfl, ?_, nI_1 f, rfl⟩, fun _ z => (by cases z)⟩) (fun j q e hj hp2 _ _ _ _ => ?_)).up (by decide)
          · rw [nI_eqI (by omega) (by omega)] at e
            subst e
            rw [hp] at hp2; cases hp2
          · rw [fb_sm_succ, hz f (by omega) hp, Nat.add_zero]
  refine t_X8_sumTold_0 sh _ (K4 := fun y1 y2 y3 hh => y1 = what ∧ y2 = nI (fb_sm g 0) ∧ y3 = nI 0 ∧ hh = h) (fun y1 y2 y3 hh z => ?_) ⟨rfl, rfl, rfl, rfl⟩
  obtain ⟨rfl, rfl, rfl, rfl⟩ := z
  exact loop F.1 0 (by omega)
theorem a_count_no (X : zX) (dy : Nat) (F : zF) (A O : zV) (N : zN) (C : zC) {what : Int32} (h : ∀ j : Nat, j ≤ 9 → what ≠ nI j) : a_count X dy F A O N C what = -1 := by unfold a_count; rw [if_neg (show ¬ what = 0 from h 0 (by decide)), if_neg (show ¬ what = 1 from h 1 (by decide)), if_neg (show ¬ what = 2 from h 2 (by decide)), if_neg (show ¬ what = 3 from h 3 (by decide)), if_neg (show ¬ what = 4 from h 4 (by decide)), if_neg (show ¬ what = 5 from h 5 (by decide)), if_neg (show ¬ what = 6 from h 6 (by decide)), if_neg (show ¬ what = 7 from h 7 (by decide)), if_neg (show ¬ what = 8 from h 8 (by decide)), if_neg (show ¬ what = 9 from h 9 (by decide))]
theorem a_count_0 (X : zX) (dy : Nat) (F : zF) (A O : zV) (N : zN) (C : zC) : a_count X dy F A O N C (nI 0) = nI (fb_ct F.2 F.1) := by unfold a_count; rw [if_pos (by decide)]
theorem a_count_1 (X : zX) (dy : Nat) (F : zF) (A O : zV) (N : zN) (C : zC) : a_count X dy F A O N C (nI 1) = nI X.1 := by unfold a_count; rw [if_neg (by decide), if_pos (by decide)]
theorem a_count_2 (X : zX) (dy : Nat) (F : zF) (A O : zV) (N : zN) (C : zC) : a_count X dy F A O N C (nI 2) = nI dy := by unfold a_count; rw [if_neg (by decide), if_neg (by decide), if_pos (by decide)]
theorem a_count_3 (X : zX) (dy : Nat) (F : zF) (A O : zV) (N : zN) (C : zC) : a_count X dy F A O N C (nI 3) = nI A.1 := by unfold a_count; rw [if_neg (by decide), if_neg (by decide), if_neg (by decide), if_pos (by decide)]
theorem a_count_4 (X : zX) (dy : Nat) (F : zF) (A O : zV) (N : zN) (C : zC) : a_count X dy F A O N C (nI 4) = nI O.1 := by unfold a_count; rw [if_neg (by decide), if_neg (by decide), if_neg (by decide), if_neg (by decide), if_pos (by decide)]
theorem a_count_5 (X : zX) (dy : Nat) (F : zF) (A O : zV) (N : zN) (C : zC) : a_count X dy F A O N C (nI 5) = nI (fb_sm (fun f => fb_sm (N.1 f) 2001) F.1) := by unfold a_count; rw [if_neg (by decide), if_neg (by decide), if_neg (by decide), if_neg (by decide), if_neg (by decide), if_pos (by decide)]
theorem a_count_6 (X : zX) (dy : Nat) (F : zF) (A O : zV) (N : zN) (C : zC) : a_count X dy F A O N C (nI 6) = nI (fb_sm N.2.1 F.1) := by unfold a_count; rw [if_neg (by decide), if_neg (by decide), if_neg (by decide), if_neg (by decide), if_neg (by decide), if_neg (by decide), if_pos (by decide)]
theorem a_count_7 (X : zX) (dy : Nat) (F : zF) (A O : zV) (N : zN) (C : zC) : a_count X dy F A O N C (nI 7) = C.1 := by unfold a_count; rw [if_neg (by decide), if_neg (by decide), if_neg (by decide), if_neg (by decide), if_neg (by decide), if_neg (by decide), if_neg (by decide), if_pos (by decide)]
theorem a_count_8 (X : zX) (dy : Nat) (F : zF) (A O : zV) (N : zN) (C : zC) : a_count X dy F A O N C (nI 8) = C.2.1 := by unfold a_count; rw [if_neg (by decide), if_neg (by decide), if_neg (by decide), if_neg (by decide), if_neg (by decide), if_neg (by decide), if_neg (by decide), if_neg (by decide), if_pos (by decide)]
theorem a_count_9 (X : zX) (dy : Nat) (F : zF) (A O : zV) (N : zN) (C : zC) : a_count X dy F A O N C (nI 9) = C.2.2 := by unfold a_count; rw [if_neg (by decide), if_neg (by decide), if_neg (by decide), if_neg (by decide), if_neg (by decide), if_neg (by decide), if_neg (by decide), if_neg (by decide), if_neg (by decide), if_pos (by decide)]
theorem c_count {h : mm_H} {Q : Option Value → mm_H → Prop} {own cap : Nat → Nat} {T : zT} {X : zX} {dy W : Nat} {ft : Int32} {F : zF} {A O : zV} {N : zN} {C : zC} {H : zH} (sh : s_h h) (K : CS h own cap T X dy ft F A O N C H) (Z : zP W cap F A O N H) (what : Int32) (k : ∀ h', fx h h' gS aS → dn h h' → Q (some (.int (a_count X dy F A O N C what))) h') : w_c 3 86 [.ref 16, .int what] h Q := by
  replace k := k h (fx.rf _ _ _) (dn.rf _)
  have z1 := Z.1
  obtain ⟨-, k2, k3, -, -, k6, k7, -, ⟨k91, k92, k93⟩, -⟩ := id K
  refine t_X8_count_0 sh _ ⟨fun c => ?_, fun c => ?_, fun c => ?_, fun c => ?_, fun c => ?_, fun c => ?_, fun c => ?_, fun c => ?_, fun c => ?_, fun c => ?_, fun c => ?_⟩
  · rw [a_count_no X dy F A O N C (fun j hj e => by rw [e, nI_toInt (by omega)] at c; omega)] at k
    exact k
  · rw [toInt_is (n := 0) (by decide) c, a_count_0] at k
    exact (c_here sh K Z ⟨_, rfl, sh, k⟩)
  · rw [toInt_is (n := 1) (by decide) c, a_count_1] at k
    rw [k2.2.1]; exact k
  · rw [toInt_is (n := 2) (by decide) c, a_count_2] at k
    rw [k3.2]; exact k
  · rw [toInt_is (n := 3) (by decide) c, a_count_3] at k
    rw [k6.1]; exact k
  · rw [toInt_is (n := 4) (by decide) c, a_count_4] at k
    rw [k7.1]; exact k
  · rw [toInt_is (n := 5) (by decide) c, a_count_5] at k
    exact c_sumT sh K Z 0 (fun f => fb_sm (N.1 f) 2001) (fun f _ _ => a_told_0 N f) (fun f hf hp => sm_0 (fun d _ => (Z.2.2.2.1 f (by omega) (fun z => by rw [hp] at z; cases z.2)).1 d)) ⟨_, rfl, sh, k⟩
  · rw [toInt_is (n := 6) (by decide) c, a_count_6] at k
    exact c_sumT sh K Z 1 N.2.1 (fun f _ _ => a_told_1 N f) (fun f hf hp => (Z.2.2.2.1 f (by omega) (fun z => by rw [hp] at z; cases z.2)).2) ⟨_, rfl, sh, k⟩
  · rw [toInt_is (n := 7) (by decide) c, a_count_7] at k
    rw [k91]; exact k
  · rw [toInt_is (n := 8) (by decide) c, a_count_8] at k
    rw [k92]; exact k
  · rw [toInt_is (n := 9) (by decide) c, a_count_9] at k
    rw [k93]; exact k
theorem m_count {h : mm_H} {Q : Option Value → mm_H → Prop} {cap : Nat → Nat} {T : zT} {X : zX} {dy cl W : Nat} {ft : Int32} {F : zF} {A O : zV} {N : zN} {C : zC} {H : zH} (sh : s_h h) (K : MS h cl T X dy ft F A O N C H) (Z : zP W cap F A O N H) (what : Int32) (k : ∀ h', fx h h' gSm aSm → dn h h' → Q (some (.int (a_count X dy F A O N C what))) h') : w_c 1 151 [.ref 44, .int what] h Q := by
  replace k := k h (fx.rf _ _ _) (dn.rf _)
  have z1 := Z.1
  have md := K.d
  obtain ⟨-, mx, -, mp, mva, mvo, mb, mo, -, ⟨mc1, mc2, mc3⟩, -⟩ := id K
  have loop : ∀ w f, f + w = F.1 → w_p 1 (9, 6, mc_X9_count) 10 [(0, .ref 44), (1, .int what), (2, .int (nI (fb_ct F.2 f))), (3, .int (nI (fb_sm (fun f => fb_sm (N.1 f) 2001) f))), (4, .int (nI (fb_sm N.2.1 f))), (5, .int (nI f))] [] h Q := by
    intro w
    induction w with
    | zero =>
      intro f hf
      have ef : f = F.1 := by omega
      subst ef
      refine t_X9_count_10 sh _ _ _ _ _ (K10 := fun _ _ _ _ _ _ => False) (fun _ _ _ _ _ _ z => z.elim) ⟨fun _ => ⟨fun c => ?_, fun c => ?_, fun c => ?_, fun c => ?_, fun c => ?_, fun c => ?_, fun c => ?_, fun c => ?_, fun c => ?_, fun c => ?_, fun c => ?_⟩, fun z => absurd ?_ z⟩
      · rw [a_count_no X dy F A O N C (fun j hj e => by rw [e, nI_toInt (by omega)] at c; omega)] at k
        exact k
      · rw [toInt_is (n := 0) (by decide) c, a_count_0] at k
        exact k
      · rw [toInt_is (n := 1) (by decide) c, a_count_1] at k
        rw [mx.2.1]; exact k
      · rw [toInt_is (n := 2) (by decide) c, a_count_2] at k
        rw [md.2]; exact k
      · rw [toInt_is (n := 3) (by decide) c, a_count_3] at k
        rw [mva.1]; exact k
      · rw [toInt_is (n := 4) (by decide) c, a_count_4] at k
        rw [mvo.1]; exact k
      · rw [toInt_is (n := 5) (by decide) c, a_count_5] at k
        exact k
      · rw [toInt_is (n := 6) (by decide) c, a_count_6] at k
        exact k
      · rw [toInt_is (n := 7) (by decide) c, a_count_7] at k
        rw [mc1]; exact k
      · rw [toInt_is (n := 8) (by decide) c, a_count_8] at k
        rw [mc2]; exact k
      · rw [toInt_is (n := 9) (by decide) c, a_count_9] at k
        rw [mc3]; exact k
      · rw [mp.2.1, i_le (by omega) (by omega)]
        exact Nat.le_refl _
    | succ w ih =>
      intro f hf
      have vf : vp_in (nI f) 12 := vp_in_nI (by omega) (by decide)
      have ef : (nI f).toNatClampNeg = f := i_cl (by omega)
      refine t_X9_count_10 sh _ _ _ _ _ (K10 := fun y1 y2 y3 y4 y5 hh => y1 = what ∧ y2 = nI (fb_ct F.2 (f + 1)) ∧ y3 = nI (fb_sm (fun f => fb_sm (N.1 f) 2001) (f + 1)) ∧ y4 = nI (fb_sm N.2.1 (f + 1)) ∧ y5 = nI (f + 1) ∧ hh = h) (fun y1 y2 y3 y4 y5 hh z => ?_) ⟨fun z => ?_, fun _ => ⟨vf, fun c => ?_, fun c => ?_⟩⟩
      · obtain ⟨rfl, rfl, rfl, rfl, rfl, rfl⟩ := z
        exact ih (f + 1) (by omega)
      · rw [mp.2.1, i_le (by omega) (by omega)] at z; omega
      · refine m_has sh mb (by omega) ⟨_, rfl, sh, vf, rfl, ?_, nI_add _ _, ?_, nI_1 f, rfl⟩
        · rw [ef, mp.2.2 f (by omega)] at c
          have hp : F.2 f = true := by
            by_cases y : F.2 f = true
            · exact y
            · rw [if_neg y] at c; exact absurd c (by decide)
          rw [fb_ct_succ, hp]
          exact nI_1 _
        · rw [ef, mo f (by omega)]
          exact nI_add _ _
      · refine m_has sh mb (by omega) ⟨_, rfl, sh, vf, rfl, ?_, nI_add _ _, ?_, nI_1 f, rfl⟩
        · rw [ef, mp.2.2 f (by omega)] at c
          have hp : F.2 f = false := bfalse (fun y => by rw [if_pos y] at c; exact c rfl)
          rw [fb_ct_succ, hp]
          exact nI_add _ 0
        · rw [ef, mo f (by omega)]
          exact nI_add _ _
  refine t_X9_count_0 sh _ (K10 := fun y1 y2 y3 y4 y5 hh => y1 = what ∧ y2 = nI (fb_ct F.2 0) ∧ y3 = nI (fb_sm (fun f => fb_sm (N.1 f) 2001) 0) ∧ y4 = nI (fb_sm N.2.1 0) ∧ y5 = nI 0 ∧ hh = h) (fun y1 y2 y3 y4 y5 hh z => ?_) ⟨rfl, rfl, rfl, rfl, rfl, rfl⟩
  obtain ⟨rfl, rfl, rfl, rfl, rfl, rfl⟩ := z
  exact loop F.1 0 (by omega)
