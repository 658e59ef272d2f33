theorem nI_neN (n : Nat) (h : n < 2147483648) : ¬ nI n = -4 := oN_ne n h
theorem nI_ne1 (n : Nat) (h : n < 2147483648) : ¬ nI n = -1 := by
  rw [fa_eq, nI_toInt (by omega)]
  show ¬ (n : Int) = -1
  omega
theorem nI_eqI {a b : Nat} (ha : a < 2147483648) (hb : b < 2147483648) : nI a = nI b ↔ a = b := nI_eq (by omega) (by omega)
theorem tL_some {tn : Nat} {td : Nat → Nat} {tv : Nat → Nat → Option Nat} {d k t v : Nat} (e : tB td d tn = some t) (e2 : tv t k = some v) : tL tn td tv d k = nI v := by
  unfold tL tV
  rw [e]
  show (match tv t k with | some v => nI v | none => if k = 1 ∨ k = 2 then (-4 : Int32) else 0) = nI v
  rw [e2]
theorem tL_none {tn : Nat} {td : Nat → Nat} {tv : Nat → Nat → Option Nat} {d k t : Nat} (e : tB td d tn = some t) (e2 : tv t k = none) : tL tn td tv d k = if k = 1 ∨ k = 2 then (-4 : Int32) else 0 := by
  unfold tL tV
  rw [e]
  show (match tv t k with | some v => nI v | none => if k = 1 ∨ k = 2 then (-4 : Int32) else 0) = _
  rw [e2]
theorem tL_no {tn : Nat} {td : Nat → Nat} {tv : Nat → Nat → Option Nat} {d k : Nat} (e : tB td d tn = none) : tL tn td tv d k = if k = 1 ∨ k = 2 then (-4 : Int32) else 0 := by
  unfold tL tV
  rw [e]
theorem sp_lawM {h : mm_H} {Q : Option Value → mm_H → Prop} (sh : s_h h) {tn : Nat} {td : Nat → Nat} {tv : Nat → Nat → Option Nat} (hX : mX h tn td tv) {d k : Nat} (hd : d < 2147483648) (hk : k < 5) (K : Q (some (.int (tL tn td tv d k))) h) : w_c 1 116 [.ref 44, .int (nI d), .int (nI k)] h Q := by
  refine t_X9_law_0 sh _ _ (sp_textOfM sh hX hd ?_)
  refine ⟨_, rfl, sh, ?_, ?_⟩
  · intro c
    cases eb : tB td d tn with
    | none => rw [eb] at c; exact absurd rfl c
    | some t =>
      obtain ⟨⟨h6, hb⟩, hn, hv⟩ := hX
      have ht := tB_lt td d tn t eb
      have e1 : (5 : Int32) * oN (some t) + nI k = nI (5 * t + k) := by
        show nI 5 * nI t + nI k = _
        rw [pk_mul, nI_add]
      have e2 := (hv t ht).2 k hk
      rw [e1, nI_clamp (by omega), e2]
      refine ⟨vp_in_nI (by omega) (by decide), fun c2 => ?_, fun c2 => ?_⟩
      · cases ev : tv t k with
        | none => rw [ev] at c2; exact absurd rfl c2
        | some v =>
          rw [tL_some eb ev] at K
          exact K
      · cases ev : tv t k with
        | some v =>
          rw [ev] at c2
          have := (hb t ht).2 k hk v ev
          exact absurd c2 (nI_neN v (by omega))
        | none =>
          rw [tL_none eb ev] at K
          refine ⟨fun c3 => ?_, fun c3 => ⟨fun c4 => ?_, fun c4 => ?_⟩⟩
          · have c3 : k = 1 := (nI_eqI (by omega) (by decide)).mp c3
            rw [if_pos (Or.inl c3)] at K
            exact K
          · have c4 : k = 2 := (nI_eqI (by omega) (by decide)).mp c4
            rw [if_pos (Or.inr c4)] at K
            exact K
          · have c3 : ¬ k = 1 := fun z => c3 ((nI_eqI (by omega) (by decide)).mpr z)
            have c4 : ¬ k = 2 := fun z => c4 ((nI_eqI (by omega) (by decide)).mpr z)
            rw [if_neg (by omega)] at K
            exact K
  · intro c
    cases eb : tB td d tn with
    | some t =>
      have ht := tB_lt td d tn t eb
      have := hX.1.1
      rw [eb] at c
      exact absurd c (oN_ne t (by omega))
    | none =>
      rw [tL_no eb] at K
      refine ⟨fun c3 => ?_, fun c3 => ⟨fun c4 => ?_, fun c4 => ?_⟩⟩
      · have c3 : k = 1 := (nI_eqI (by omega) (by decide)).mp c3
        rw [if_pos (Or.inl c3)] at K
        exact K
      · have c4 : k = 2 := (nI_eqI (by omega) (by decide)).mp c4
        rw [if_pos (Or.inr c4)] at K
        exact K
      · have c3 : ¬ k = 1 := fun z => c3 ((nI_eqI (by omega) (by decide)).mpr z)
        have c4 : ¬ k = 2 := fun z => c4 ((nI_eqI (by omega) (by decide)).mpr z)
        rw [if_neg (by omega)] at K
        exact K
theorem wo_at {k : Nat} (hk : k < 5) : ([0, -4, -4, 0, 0] : List Int32).getD k 0 = if k = 1 ∨ k = 2 then (-4 : Int32) else 0 := by
  have h5 : k = 0 ∨ k = 1 ∨ k = 2 ∨ k = 3 ∨ k = 4 := by omega
  rcases h5 with rfl | rfl | rfl | rfl | rfl <;> rfl
theorem in_row {h : mm_H} (sh : s_h h) {t : Nat} (ht : t < 6) : h_kd h (24 + t) = 20 ∧ h_al h (24 + t) = 5 := by
  have h6 : t = 0 ∨ t = 1 ∨ t = 2 ∨ t = 3 ∨ t = 4 ∨ t = 5 := by omega
  rcases h6 with rfl | rfl | rfl | rfl | rfl | rfl
  · exact ⟨kd_24 sh, al_24 sh⟩
  · exact ⟨kd_25 sh, al_25 sh⟩
  · exact ⟨kd_26 sh, al_26 sh⟩
  · exact ⟨kd_27 sh, al_27 sh⟩
  · exact ⟨kd_28 sh, al_28 sh⟩
  · exact ⟨kd_29 sh, al_29 sh⟩
theorem sp_lawC {h : mm_H} {Q : Option Value → mm_H → Prop} (sh : s_h h) {tn : Nat} {td : Nat → Nat} {tv : Nat → Nat → Option Nat} (hX : cX h tn td tv) {d k : Nat} (hd : d < 2147483648) (hk : k < 5) (K : Q (some (.int (tL tn td tv d k))) h) : w_c 1 10 [.ref 21, .int (nI d), .int (nI k)] h Q := by
  have hclk : (nI k).toNatClampNeg = k := nI_clamp (by omega)
  have hw : h_ai h 3 (nI k).toNatClampNeg = if k = 1 ∨ k = 2 then (-4 : Int32) else 0 := by
    rw [ai_3 sh, hclk]
    exact wo_at hk
  refine t_X1_lawOf_0 sh _ _ ⟨fun c => absurd c (nI_pos (by omega)), fun _ => ⟨fun _ => sp_textOfC sh hX hd ?_, fun c => absurd (nI_lt (b := 5) hk (by decide)) c⟩⟩
  refine ⟨_, rfl, sh, ?_, ?_⟩
  · intro c
    cases eb : tB td d tn with
    | some t =>
      have ht := tB_lt td d tn t eb
      have := hX.1.1
      rw [eb] at c
      exact absurd c (oN_ne t (by omega))
    | none =>
      rw [tL_no eb] at K
      refine ⟨vp_in_nI (by omega) (by decide), ?_⟩
      rw [hw]
      exact K
  · intro c
    cases eb : tB td d tn with
    | none => rw [eb] at c; exact absurd rfl c
    | some t =>
      obtain ⟨⟨h6, hb⟩, hn, hv⟩ := hX
      have ht := tB_lt td d tn t eb
      have e2 := (hv t ht).2 k hk
      have hclt : (oN (some t)).toNatClampNeg = t := nI_clamp (by omega)
      obtain ⟨r1, r2⟩ := in_row sh (t := t) (by omega)
      rw [hclt, hw, hclk]
      refine ⟨vp_in_nI (by omega) (by decide), 24 + t, ar_23 sh (by omega), r1, by rw [r2]; exact vp_in_nI (by omega) (by decide), fun c2 => ?_, fun c2 => ?_⟩
      · rw [e2] at c2
        cases ev : tv t k with
        | some v =>
          rw [ev] at c2
          have := (hb t ht).2 k hk v ev
          exact absurd c2 (nI_ne1 v (by omega))
        | none =>
          rw [tL_none eb ev] at K
          exact ⟨vp_in_nI (by omega) (by decide), K⟩
      · rw [e2] at c2
        cases ev : tv t k with
        | none => rw [ev] at c2; exact absurd rfl c2
        | some v =>
          rw [tL_some eb ev] at K
          exact ⟨vp_in_nI (by omega) (by decide), 24 + t, ar_23 sh (by omega), r1, by rw [r2]; exact vp_in_nI (by omega) (by decide), by rw [e2, ev]; exact K⟩
set_option maxRecDepth 20000 in
theorem t_X8_rule_0 {h : mm_H} {Q : Option Value → mm_H → Prop} (sh : s_h h) (dd : Int32) (what : Int32) 
    (F : ((dd < 0 → Q (some (.int (-1))) h) ∧ (¬ (dd < 0) → ((2000 < dd → Q (some (.int (-1))) h) ∧ (¬ (2000 < dd) → ((what < 0 → Q (some (.int (-1))) h) ∧ (¬ (what < 0) → ((what ≤ 5 → ((¬ what = 5 → w_c 1 10 [.ref 21, .int dd, .int what] h (fun r h6 => ∃ x7 : Int32, r = some (.int x7) ∧ s_h h6 ∧ Q (some (.int x7)) h6)) ∧ (what = 5 → w_c 0 9 [.ref 21, .int dd] h (fun r h8 => ∃ x9 : Int32, r = some (.int x9) ∧ s_h h8 ∧ Q (some (.int x9)) h8)))) ∧ (¬ (what ≤ 5) → Q (some (.int (-1))) h))))))))) :
    w_c 2 67 [.ref 16, .int dd, .int what] h Q := by
  refine w_ci (M := (8, 3, mc_X8_rule)) rfl (Nat.le_of_ble_eq_true rfl) ?_
  show w_p _ _ 0 [(0, .ref 16), (1, .int dd), (2, .int what)] [] h Q
  refine w_b 1 1 [(0, .ref 16), (1, .int dd), (2, .int what)] [.int dd] rfl ?_
  refine w_if_lt (tgt := 20) (x := dd) rfl (by decide) ⟨fun c1 => ?_, fun c1 => ?_⟩
  · have F := F.1 c1
    refine w_b 1 21 [(0, .ref 16), (1, .int dd), (2, .int what)] [.int (-1)] rfl ?_
    exact w_ir rfl F
  · have F := F.2 c1
    refine w_b 2 8 [(0, .ref 16), (1, .int dd), (2, .int what)] [.int 2000, .int dd] rfl ?_
    refine w_ic_gt (tgt := 20) (x := dd) (y := 2000) rfl (by decide) ⟨fun c2 => ?_, fun c2 => ?_⟩
    · have F := F.1 c2
      refine w_b 1 21 [(0, .ref 16), (1, .int dd), (2, .int what)] [.int (-1)] rfl ?_
      exact w_ir rfl F
    · have F := F.2 c2
      refine w_b 1 12 [(0, .ref 16), (1, .int dd), (2, .int what)] [.int what] rfl ?_
      refine w_if_lt (tgt := 20) (x := what) rfl (by decide) ⟨fun c3 => ?_, fun c3 => ?_⟩
      · have F := F.1 c3
        refine w_b 1 21 [(0, .ref 16), (1, .int dd), (2, .int what)] [.int (-1)] rfl ?_
        exact w_ir rfl F
      · have F := F.2 c3
        refine w_b 2 17 [(0, .ref 16), (1, .int dd), (2, .int what)] [.int 5, .int what] rfl ?_
        refine w_ic_le (tgt := 22) (x := what) (y := 5) rfl (by decide) ⟨fun c4 => ?_, fun c4 => ?_⟩
        · have F := F.1 c4
          refine w_b 2 24 [(0, .ref 16), (1, .int dd), (2, .int what)] [.int 5, .int what] rfl ?_
          refine w_ic_ne (tgt := 38) (x := what) (y := 5) rfl (by decide) ⟨fun c5 => ?_, fun c5 => ?_⟩
          · have F := F.1 c5
            refine w_b 1 39 [(0, .ref 16), (1, .int dd), (2, .int what)] [.ref 16] rfl ?_
            refine w_getS (b := 21) rfl rfl rfl (kd_16 sh) (or_514_16 sh) ?_
            refine w_b 2 44 [(0, .ref 16), (1, .int dd), (2, .int what)] [.int what, .int dd, .ref 21] rfl ?_
            refine w_cv (As := [.int dd, .int what]) (b := 21) (rest := []) rfl rfl rfl (Nat.le_of_ble_eq_true rfl) (kd_21 sh) (fun z => absurd z (by decide)) (dc := 1) (by omega) (F.mono (fun r h6 F => ?_))
            obtain ⟨x7, rfl, sh6, F⟩ := F
            show w_p _ _ 47 [(0, .ref 16), (1, .int dd), (2, .int what)] [.int x7] h6 _
            exact w_ir rfl F
          · have F := F.2 (Decidable.not_not.mp c5)
            refine w_b 1 28 [(0, .ref 16), (1, .int dd), (2, .int what)] [.ref 16] rfl ?_
            refine w_getS (b := 21) rfl rfl rfl (kd_16 sh) (or_514_16 sh) ?_
            refine w_b 1 32 [(0, .ref 16), (1, .int dd), (2, .int what)] [.int dd, .ref 21] rfl ?_
            refine w_cv (As := [.int dd]) (b := 21) (rest := []) rfl rfl rfl (Nat.le_of_ble_eq_true rfl) (kd_21 sh) (fun z => absurd z (by decide)) (dc := 0) (by omega) (F.mono (fun r h8 F => ?_))
            obtain ⟨x9, rfl, sh8, F⟩ := F
            show w_p _ _ 35 [(0, .ref 16), (1, .int dd), (2, .int what)] [.int x9] h8 _
            refine w_b 1 47 [(0, .ref 16), (1, .int dd), (2, .int what)] [.int x9] rfl ?_
            exact w_ir rfl F
        · have F := F.2 c4
          refine w_b 1 21 [(0, .ref 16), (1, .int dd), (2, .int what)] [.int (-1)] rfl ?_
          exact w_ir rfl F

set_option maxRecDepth 20000 in
theorem t_X9_rule_0 {h : mm_H} {Q : Option Value → mm_H → Prop} (sh : s_h h) (dd : Int32) (what : Int32) 
    (F : (((f_in dd.toInt64 (Int64.ofNat 0) (Int64.ofNat 2000)) = 0 → Q (some (.int (-1))) h) ∧ (¬ ((f_in dd.toInt64 (Int64.ofNat 0) (Int64.ofNat 2000)) = 0) → ((¬ (f_in what.toInt64 (Int64.ofNat 0) (Int64.ofNat 5)) = 0 → ((¬ what = 5 → w_c 1 116 [.ref 44, .int dd, .int what] h (fun r h4 => ∃ x5 : Int32, r = some (.int x5) ∧ s_h h4 ∧ Q (some (.int x5)) h4)) ∧ (what = 5 → w_c 0 115 [.ref 44, .int dd] h (fun r h6 => ∃ x7 : Int32, r = some (.int x7) ∧ s_h h6 ∧ Q (some (.int x7)) h6)))) ∧ ((f_in what.toInt64 (Int64.ofNat 0) (Int64.ofNat 5)) = 0 → Q (some (.int (-1))) h))))) :
    w_c 2 117 [.ref 44, .int dd, .int what] h Q := by
  refine w_ci (M := (9, 3, mc_X9_rule)) rfl (Nat.le_of_ble_eq_true rfl) ?_
  show w_p _ _ 0 [(0, .ref 44), (1, .int dd), (2, .int what)] [] h Q
  refine w_b 4 6 [(0, .ref 44), (1, .int dd), (2, .int what)] [.long (Int64.ofNat 2000), .long (Int64.ofNat 0), .long dd.toInt64] rfl ?_
  refine w_cs (As := [.long dd.toInt64, .long (Int64.ofNat 0), .long (Int64.ofNat 2000)]) (rest := []) rfl rfl rfl (Nat.le_of_ble_eq_true rfl) (dc := 0) (by omega) (sp_in  ?_)
  show w_p _ _ 9 [(0, .ref 44), (1, .int dd), (2, .int what)] [.int (f_in dd.toInt64 (Int64.ofNat 0) (Int64.ofNat 2000))] h _
  refine w_if_eq (tgt := 24) (x := f_in dd.toInt64 (Int64.ofNat 0) (Int64.ofNat 2000)) rfl (by decide) ⟨fun c1 => ?_, fun c1 => ?_⟩
  · have F := F.1 c1
    refine w_b 2 47 [(0, .ref 44), (1, .int dd), (2, .int what)] [.int (-1)] rfl ?_
    exact w_ir rfl F
  · have F := F.2 c1
    refine w_b 4 18 [(0, .ref 44), (1, .int dd), (2, .int what)] [.long (Int64.ofNat 5), .long (Int64.ofNat 0), .long what.toInt64] rfl ?_
    refine w_cs (As := [.long what.toInt64, .long (Int64.ofNat 0), .long (Int64.ofNat 5)]) (rest := []) rfl rfl rfl (Nat.le_of_ble_eq_true rfl) (dc := 0) (by omega) (sp_in  ?_)
    show w_p _ _ 21 [(0, .ref 44), (1, .int dd), (2, .int what)] [.int (f_in what.toInt64 (Int64.ofNat 0) (Int64.ofNat 5))] h _
    refine w_if_ne (tgt := 28) (x := f_in what.toInt64 (Int64.ofNat 0) (Int64.ofNat 5)) rfl (by decide) ⟨fun c2 => ?_, fun c2 => ?_⟩
    · have F := F.1 c2
      refine w_b 2 30 [(0, .ref 44), (1, .int dd), (2, .int what)] [.int 5, .int what] rfl ?_
      refine w_ic_ne (tgt := 41) (x := what) (y := 5) rfl (by decide) ⟨fun c3 => ?_, fun c3 => ?_⟩
      · have F := F.1 c3
        refine w_b 3 44 [(0, .ref 44), (1, .int dd), (2, .int what)] [.int what, .int dd, .ref 44] rfl ?_
        refine w_cv (As := [.int dd, .int what]) (b := 44) (rest := []) rfl rfl rfl (Nat.le_of_ble_eq_true rfl) (kd_44 sh) (fun z => absurd z (by decide)) (dc := 1) (by omega) (F.mono (fun r h4 F => ?_))
        obtain ⟨x5, rfl, sh4, F⟩ := F
        show w_p _ _ 47 [(0, .ref 44), (1, .int dd), (2, .int what)] [.int x5] h4 _
        exact w_ir rfl F
      · have F := F.2 (Decidable.not_not.mp c3)
        refine w_b 2 35 [(0, .ref 44), (1, .int dd), (2, .int what)] [.int dd, .ref 44] rfl ?_
        refine w_cv (As := [.int dd]) (b := 44) (rest := []) rfl rfl rfl (Nat.le_of_ble_eq_true rfl) (kd_44 sh) (fun z => absurd z (by decide)) (dc := 0) (by omega) (F.mono (fun r h6 F => ?_))
        obtain ⟨x7, rfl, sh6, F⟩ := F
        show w_p _ _ 38 [(0, .ref 44), (1, .int dd), (2, .int what)] [.int x7] h6 _
        refine w_b 1 47 [(0, .ref 44), (1, .int dd), (2, .int what)] [.int x7] rfl ?_
        exact w_ir rfl F
    · have F := F.2 (Decidable.not_not.mp c2)
      refine w_b 2 47 [(0, .ref 44), (1, .int dd), (2, .int what)] [.int (-1)] rfl ?_
      exact w_ir rfl F

set_option maxRecDepth 20000 in
theorem t_X1_latestDay_0 {h : mm_H} {Q : Option Value → mm_H → Prop} (sh : s_h h) 
    (F : (((h_oi h 66 21) ≤ 0 → Q (some (.int (-4))) h) ∧ (¬ ((h_oi h 66 21) ≤ 0) → (vp_in ((h_oi h 66 21) - 1) 6 ∧ Q (some (.int (h_ai h 22 ((h_oi h 66 21) - 1).toNatClampNeg))) h)))) :
    w_c 0 8 [.ref 21] h Q := by
  refine w_ci (M := (1, 1, mc_X1_latestDay)) rfl (Nat.le_of_ble_eq_true rfl) ?_
  show w_p _ _ 0 [(0, .ref 21)] [] h Q
  refine w_b 1 1 [(0, .ref 21)] [.ref 21] rfl ?_
  refine w_get (g := 66) rfl rfl rfl (kd_21 sh) ?_
  refine w_if_le (tgt := 21) (x := h_oi h 66 21) rfl (by decide) ⟨fun c1 => ?_, fun c1 => ?_⟩
  · have F := F.1 c1
    refine w_b 1 23 [(0, .ref 21)] [.int (-4)] rfl ?_
    exact w_ir rfl F
  · have F := F.2 c1
    refine w_b 1 8 [(0, .ref 21)] [.ref 21] rfl ?_
    refine w_getS (b := 22) rfl rfl rfl (kd_21 sh) (or_64_21 sh) ?_
    refine w_b 1 12 [(0, .ref 21)] [.ref 21, .ref 22] rfl ?_
    refine w_get (g := 66) rfl rfl rfl (kd_21 sh) ?_
    refine w_b 2 17 [(0, .ref 21)] [.int ((h_oi h 66 21) - 1), .ref 22] rfl ?_
    obtain ⟨g2, F⟩ := F
    refine w_iald rfl (kd_22 sh) (by rw [show h_al h 22 = 6 from (al_22 sh)]; exact g2) ?_
    refine w_b 1 23 [(0, .ref 21)] [.int (h_ai h 22 ((h_oi h 66 21) - 1).toNatClampNeg)] rfl ?_
    exact w_ir rfl F

set_option maxRecDepth 20000 in
theorem t_X8_unwind_0 {h : mm_H} {Q : Option Value → mm_H → Prop} (sh : s_h h) 
    (F : ((¬ (h_oi h 66 21) = 0 → w_c 0 8 [.ref 21] h (fun r h2 => ∃ x3 : Int32, r = some (.int x3) ∧ s_h h2 ∧ (((h_oi h2 521 16) < x3 → Q (some (.int ((h_oi h2 66 21) - 1))) (h_sI h2 66 21 ((h_oi h2 66 21) - 1))) ∧ (¬ ((h_oi h2 521 16) < x3) → Q (some (.int (-2))) h2)))) ∧ ((h_oi h 66 21) = 0 → Q (some (.int (-4))) h))) :
    w_c 1 66 [.ref 16] h Q := by
  refine w_ci (M := (8, 1, mc_X8_unwind)) rfl (Nat.le_of_ble_eq_true rfl) ?_
  show w_p _ _ 0 [(0, .ref 16)] [] h Q
  refine w_b 1 1 [(0, .ref 16)] [.ref 16] rfl ?_
  refine w_getS (b := 21) rfl rfl rfl (kd_16 sh) (or_514_16 sh) ?_
  refine w_get (g := 66) rfl rfl rfl (kd_21 sh) ?_
  refine w_if_ne (tgt := 13) (x := h_oi h 66 21) rfl (by decide) ⟨fun c1 => ?_, fun c1 => ?_⟩
  · have F := F.1 c1
    refine w_b 1 14 [(0, .ref 16)] [.ref 16] rfl ?_
    refine w_getS (b := 21) rfl rfl rfl (kd_16 sh) (or_514_16 sh) ?_
    refine w_cv (As := []) (b := 21) (rest := []) rfl rfl rfl (Nat.le_of_ble_eq_true rfl) (kd_21 sh) (fun z => absurd z (by decide)) (dc := 0) (by omega) (F.mono (fun r h2 F => ?_))
    obtain ⟨x3, rfl, sh2, F⟩ := F
    show w_p _ _ 20 [(0, .ref 16)] [.int x3] h2 _
    refine w_b 1 21 [(0, .ref 16)] [.ref 16, .int x3] rfl ?_
    refine w_get (g := 521) rfl rfl rfl (kd_16 sh2) ?_
    refine w_ic_gt (tgt := 30) (x := x3) (y := h_oi h2 521 16) rfl (by decide) ⟨fun c4 => ?_, fun c4 => ?_⟩
    · have F := F.1 c4
      refine w_b 1 31 [(0, .ref 16)] [.ref 16] rfl ?_
      refine w_getS (b := 21) rfl rfl rfl (kd_16 sh2) (or_514_16 sh2) ?_
      refine w_b 1 35 [(0, .ref 16)] [.ref 21, .ref 21] rfl ?_
      refine w_get (g := 66) rfl rfl rfl (kd_21 sh2) ?_
      refine w_b 2 40 [(0, .ref 16)] [.int ((h_oi h2 66 21) - 1), .ref 21] rfl ?_
      refine w_put (g := 66) (x := (h_oi h2 66 21) - 1) rfl rfl rfl (kd_21 sh2) (by decide) ?_
      refine w_b 1 44 [(0, .ref 16)] [.ref 16] rfl ?_
      refine w_getS (b := 21) rfl rfl rfl (kd_16 sh2) (or_514_16 sh2) ?_
      refine w_get (g := 66) rfl rfl rfl (kd_21 sh2) ?_
      exact w_ir rfl F
    · have F := F.2 c4
      refine w_b 1 29 [(0, .ref 16)] [.int (-2)] rfl ?_
      exact w_ir rfl F
  · have F := F.2 (Decidable.not_not.mp c1)
    refine w_b 1 12 [(0, .ref 16)] [.int (-4)] rfl ?_
    exact w_ir rfl F

set_option maxRecDepth 20000 in
theorem t_X9_unwind_0 {h : mm_H} {Q : Option Value → mm_H → Prop} (sh : s_h h) 
    (F : ((¬ (h_oi h 585 44) = 0 → (vp_in ((h_oi h 585 44) - 1) 6 ∧ (((h_oi h 588 44) < (h_ai h 47 ((h_oi h 585 44) - 1).toNatClampNeg) → Q (some (.int ((h_oi h 585 44) - 1))) (h_sI h 585 44 ((h_oi h 585 44) - 1))) ∧ (¬ ((h_oi h 588 44) < (h_ai h 47 ((h_oi h 585 44) - 1).toNatClampNeg)) → Q (some (.int (-2))) h)))) ∧ ((h_oi h 585 44) = 0 → Q (some (.int (-4))) h))) :
    w_c 1 114 [.ref 44] h Q := by
  refine w_ci (M := (9, 1, mc_X9_unwind)) rfl (Nat.le_of_ble_eq_true rfl) ?_
  show w_p _ _ 0 [(0, .ref 44)] [] h Q
  refine w_b 1 1 [(0, .ref 44)] [.ref 44] rfl ?_
  refine w_get (g := 585) rfl rfl rfl (kd_44 sh) ?_
  refine w_if_ne (tgt := 10) (x := h_oi h 585 44) rfl (by decide) ⟨fun c1 => ?_, fun c1 => ?_⟩
  · have F := F.1 c1
    refine w_b 1 11 [(0, .ref 44)] [.ref 44] rfl ?_
    refine w_getS (b := 47) rfl rfl rfl (kd_44 sh) (or_586_44 sh) ?_
    refine w_b 1 15 [(0, .ref 44)] [.ref 44, .ref 47] rfl ?_
    refine w_get (g := 585) rfl rfl rfl (kd_44 sh) ?_
    refine w_b 2 20 [(0, .ref 44)] [.int ((h_oi h 585 44) - 1), .ref 47] rfl ?_
    obtain ⟨g2, F⟩ := F
    refine w_iald rfl (kd_47 sh) (by rw [show h_al h 47 = 6 from (al_47 sh)]; exact g2) ?_
    refine w_b 1 22 [(0, .ref 44)] [.ref 44, .int (h_ai h 47 ((h_oi h 585 44) - 1).toNatClampNeg)] rfl ?_
    refine w_get (g := 588) rfl rfl rfl (kd_44 sh) ?_
    refine w_ic_gt (tgt := 31) (x := h_ai h 47 ((h_oi h 585 44) - 1).toNatClampNeg) (y := h_oi h 588 44) rfl (by decide) ⟨fun c3 => ?_, fun c3 => ?_⟩
    · have F := F.1 c3
      refine w_b 2 33 [(0, .ref 44)] [.ref 44, .ref 44] rfl ?_
      refine w_get (g := 585) rfl rfl rfl (kd_44 sh) ?_
      refine w_b 2 38 [(0, .ref 44)] [.int ((h_oi h 585 44) - 1), .ref 44] rfl ?_
      refine w_put (g := 585) (x := (h_oi h 585 44) - 1) rfl rfl rfl (kd_44 sh) (by decide) ?_
      refine w_b 1 42 [(0, .ref 44)] [.ref 44] rfl ?_
      refine w_get (g := 585) rfl rfl rfl (kd_44 sh) ?_
      exact w_ir rfl F
    · have F := F.2 c3
      refine w_b 1 30 [(0, .ref 44)] [.int (-2)] rfl ?_
      exact w_ir rfl F
  · have F := F.2 (Decidable.not_not.mp c1)
    refine w_b 1 9 [(0, .ref 44)] [.int (-4)] rfl ?_
    exact w_ir rfl F

set_option maxRecDepth 20000 in
theorem t_X8_fault_0 {h : mm_H} {Q : Option Value → mm_H → Prop} (sh : s_h h) 
    (F : Q (some (.int (h_oi h 522 16))) h) :
    w_c 0 65 [.ref 16] h Q := by
  refine w_ci (M := (8, 1, mc_X8_fault)) rfl (Nat.le_of_ble_eq_true rfl) ?_
  show w_p _ _ 0 [(0, .ref 16)] [] h Q
  refine w_b 1 1 [(0, .ref 16)] [.ref 16] rfl ?_
  refine w_get (g := 522) rfl rfl rfl (kd_16 sh) ?_
  exact w_ir rfl F

set_option maxRecDepth 20000 in
theorem t_X9_fault_0 {h : mm_H} {Q : Option Value → mm_H → Prop} (sh : s_h h) 
    (F : Q (some (.int (h_oi h 582 44))) h) :
    w_c 0 113 [.ref 44] h Q := by
  refine w_ci (M := (9, 1, mc_X9_fault)) rfl (Nat.le_of_ble_eq_true rfl) ?_
  show w_p _ _ 0 [(0, .ref 44)] [] h Q
  refine w_b 1 1 [(0, .ref 44)] [.ref 44] rfl ?_
  refine w_get (g := 582) rfl rfl rfl (kd_44 sh) ?_
  exact w_ir rfl F

