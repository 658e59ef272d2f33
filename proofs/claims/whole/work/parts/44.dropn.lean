set_option maxRecDepth 20000 in
theorem t_X3_moveOldest_0 {D : Nat} {h : mm_H} {Q : Option Value → mm_H → Prop} (sh : s_h h) (p : Nat) (am : Int32) (t : Nat) {K22 : Nat → Int32 → Nat → Int32 → Int32 → Int32 → Int32 → mm_H → Prop} (k22 : ∀ (p : Nat) (am : Int32) (t : Nat) (x3 : Int32) (x4 : Int32) (x5 : Int32) (x6 : Int32) (h : mm_H), K22 p am t x3 x4 x5 x6 h → w_p (D + 1) (3, 8, mc_X3_moveOldest) 22 [(0, .ref p), (1, .int am), (2, .ref t), (3, .int x3), (4, .int x4), (5, .int x5), (6, .int x6)] [] h Q) {pd pn cp : Nat} (kp : h_kd h p = 4) (kd : h_kd h pd = 20) (kn : h_kd h pn = 20) (rd : h_or h 192 p = some pd) (rn : h_or h 193 p = some pn) (ad : h_al h pd = cp) (an : h_al h pn = cp) (hp : 16 ≤ p) (hd : 16 ≤ pd) (hn : 16 ≤ pn)
    (F : K22 p am t (if 0 < (if (h_oi h 195 p) < am then (h_oi h 195 p) else am) then (if (h_oi h 195 p) < am then (h_oi h 195 p) else am) else 0) (if 0 < (if (h_oi h 195 p) < am then (h_oi h 195 p) else am) then (if (h_oi h 195 p) < am then (h_oi h 195 p) else am) else 0) 0 0 h) :
    w_c (D + 1) 29 [.ref p, .int am, .ref t] h Q := by
  refine w_ci (M := (3, 8, mc_X3_moveOldest)) rfl (Nat.le_of_ble_eq_true rfl) ?_
  show w_p _ _ 0 [(0, .ref p), (1, .int am), (2, .ref t)] [] h Q
  refine w_b 3 3 [(0, .ref p), (1, .int am), (2, .ref t)] [.ref p, .int am, .int 0] rfl ?_
  refine w_get (g := 195) rfl rfl rfl kp ?_
  refine w_min (x := am) (y := h_oi h 195 p) rfl (Nat.le_of_ble_eq_true rfl) ?_
  refine w_max (x := 0) (y := if (h_oi h 195 p) < am then (h_oi h 195 p) else am) rfl (Nat.le_of_ble_eq_true rfl) ?_
  refine w_b 7 22 [(6, .int 0), (5, .int 0), (4, .int (if 0 < (if (h_oi h 195 p) < am then (h_oi h 195 p) else am) then (if (h_oi h 195 p) < am then (h_oi h 195 p) else am) else 0)), (3, .int (if 0 < (if (h_oi h 195 p) < am then (h_oi h 195 p) else am) then (if (h_oi h 195 p) < am then (h_oi h 195 p) else am) else 0)), (0, .ref p), (1, .int am), (2, .ref t)] [] rfl ?_
  refine w_lo [0, 1, 2, 3, 4, 5, 6] [(0, .ref p), (1, .int am), (2, .ref t), (3, .int (if 0 < (if (h_oi h 195 p) < am then (h_oi h 195 p) else am) then (if (h_oi h 195 p) < am then (h_oi h 195 p) else am) else 0)), (4, .int (if 0 < (if (h_oi h 195 p) < am then (h_oi h 195 p) else am) then (if (h_oi h 195 p) < am then (h_oi h 195 p) else am) else 0)), (5, .int 0), (6, .int 0)] rfl rfl ?_
  exact k22 _ _ _ _ _ _ _ _ F

set_option maxRecDepth 20000 in
theorem t_X3_moveOldest_22 {D : Nat} {h : mm_H} {Q : Option Value → mm_H → Prop} (sh : s_h h) (p : Nat) (am : Int32) (t : Nat) (x3 : Int32) (x4 : Int32) (x5 : Int32) (x6 : Int32) {K63 : Nat → Int32 → Nat → Int32 → Int32 → Int32 → Int32 → Int32 → mm_H → Prop} (k63 : ∀ (p : Nat) (am : Int32) (t : Nat) (x3 : Int32) (x4 : Int32) (x5 : Int32) (x6 : Int32) (x7 : Int32) (h : mm_H), K63 p am t x3 x4 x5 x6 x7 h → w_p (D + 1) (3, 8, mc_X3_moveOldest) 63 [(0, .ref p), (1, .int am), (2, .ref t), (3, .int x3), (4, .int x4), (5, .int x5), (6, .int x6), (7, .int x7)] [] h Q) {K101 : Nat → Int32 → Nat → Int32 → Int32 → Int32 → Int32 → mm_H → Prop} (k101 : ∀ (p : Nat) (am : Int32) (t : Nat) (x3 : Int32) (x4 : Int32) (x5 : Int32) (x6 : Int32) (h : mm_H), K101 p am t x3 x4 x5 x6 h → w_p (D + 1) (3, 8, mc_X3_moveOldest) 101 [(0, .ref p), (1, .int am), (2, .ref t), (3, .int x3), (4, .int x4), (5, .int x5), (6, .int x6)] [] h Q) {pd pn cp : Nat} (kp : h_kd h p = 4) (kd : h_kd h pd = 20) (kn : h_kd h pn = 20) (rd : h_or h 192 p = some pd) (rn : h_or h 193 p = some pn) (ad : h_al h pd = cp) (an : h_al h pn = cp) (hp : 16 ≤ p) (hd : 16 ≤ pd) (hn : 16 ≤ pn)
    (F : (((h_oi h 194 p) ≤ x6 → K101 p am t x3 x4 x5 x6 h) ∧ (¬ ((h_oi h 194 p) ≤ x6) → ((x4 ≤ 0 → K101 p am t x3 x4 x5 x6 h) ∧ (¬ (x4 ≤ 0) → (vp_in x6 cp ∧ (vp_in x6 cp ∧ (h_kd h t = 4 ∧ w_c D 27 [.ref t, .int (h_ai h pd x6.toNatClampNeg), .int (if (h_ai h pn x6.toNatClampNeg) < x4 then (h_ai h pn x6.toNatClampNeg) else x4)] h (fun r h6 => r = none ∧ s_h h6 ∧ K63 p am t x3 x4 x5 x6 (if (h_ai h pn x6.toNatClampNeg) < x4 then (h_ai h pn x6.toNatClampNeg) else x4) h6))))))))) :
    w_p (D + 1) (3, 8, mc_X3_moveOldest) 22 [(0, .ref p), (1, .int am), (2, .ref t), (3, .int x3), (4, .int x4), (5, .int x5), (6, .int x6)] [] h Q := by
  refine w_b 2 25 [(0, .ref p), (1, .int am), (2, .ref t), (3, .int x3), (4, .int x4), (5, .int x5), (6, .int x6)] [.ref p, .int x6] rfl ?_
  refine w_get (g := 194) rfl rfl rfl kp ?_
  refine w_ic_ge (tgt := 101) (x := x6) (y := h_oi h 194 p) rfl (by decide) ⟨fun c1 => ?_, fun c1 => ?_⟩
  · have F := F.1 c1
    exact k101 _ _ _ _ _ _ _ _ F
  · have F := F.2 c1
    refine w_b 1 33 [(0, .ref p), (1, .int am), (2, .ref t), (3, .int x3), (4, .int x4), (5, .int x5), (6, .int x6)] [.int x4] rfl ?_
    refine w_if_le (tgt := 101) (x := x4) rfl (by decide) ⟨fun c2 => ?_, fun c2 => ?_⟩
    · have F := F.1 c2
      exact k101 _ _ _ _ _ _ _ _ F
    · have F := F.2 c2
      refine w_b 2 39 [(0, .ref p), (1, .int am), (2, .ref t), (3, .int x3), (4, .int x4), (5, .int x5), (6, .int x6)] [.ref p, .int x4] rfl ?_
      refine w_getS (b := pn) rfl rfl rfl kp (rn) ?_
      refine w_b 1 44 [(0, .ref p), (1, .int am), (2, .ref t), (3, .int x3), (4, .int x4), (5, .int x5), (6, .int x6)] [.int x6, .ref pn, .int x4] rfl ?_
      obtain ⟨g3, F⟩ := F
      refine w_iald rfl kn (by rw [show h_al h pn = cp from an]; exact g3) ?_
      refine w_min (x := x4) (y := h_ai h pn x6.toNatClampNeg) rfl (Nat.le_of_ble_eq_true rfl) ?_
      refine w_b 3 52 [(7, .int (if (h_ai h pn x6.toNatClampNeg) < x4 then (h_ai h pn x6.toNatClampNeg) else x4)), (0, .ref p), (1, .int am), (2, .ref t), (3, .int x3), (4, .int x4), (5, .int x5), (6, .int x6)] [.ref p, .ref t] rfl ?_
      refine w_getS (b := pd) rfl rfl rfl kp (rd) ?_
      refine w_b 1 57 [(7, .int (if (h_ai h pn x6.toNatClampNeg) < x4 then (h_ai h pn x6.toNatClampNeg) else x4)), (0, .ref p), (1, .int am), (2, .ref t), (3, .int x3), (4, .int x4), (5, .int x5), (6, .int x6)] [.int x6, .ref pd, .ref t] rfl ?_
      obtain ⟨g4, F⟩ := F
      refine w_iald rfl kd (by rw [show h_al h pd = cp from ad]; exact g4) ?_
      refine w_b 1 60 [(7, .int (if (h_ai h pn x6.toNatClampNeg) < x4 then (h_ai h pn x6.toNatClampNeg) else x4)), (0, .ref p), (1, .int am), (2, .ref t), (3, .int x3), (4, .int x4), (5, .int x5), (6, .int x6)] [.int (if (h_ai h pn x6.toNatClampNeg) < x4 then (h_ai h pn x6.toNatClampNeg) else x4), .int (h_ai h pd x6.toNatClampNeg), .ref t] rfl ?_
      obtain ⟨g5, F⟩ := F
      refine w_cv (As := [.int (h_ai h pd x6.toNatClampNeg), .int (if (h_ai h pn x6.toNatClampNeg) < x4 then (h_ai h pn x6.toNatClampNeg) else x4)]) (b := t) (rest := []) rfl rfl rfl (Nat.le_of_ble_eq_true rfl) g5 (fun z => absurd z (by decide)) (dc := D) (by omega) (F.mono (fun r h6 F => ?_))
      obtain ⟨rfl, sh6, F⟩ := F
      show w_p _ _ 63 [(7, .int (if (h_ai h pn x6.toNatClampNeg) < x4 then (h_ai h pn x6.toNatClampNeg) else x4)), (0, .ref p), (1, .int am), (2, .ref t), (3, .int x3), (4, .int x4), (5, .int x5), (6, .int x6)] [] h6 _
      refine w_lo [0, 1, 2, 3, 4, 5, 6, 7] [(0, .ref p), (1, .int am), (2, .ref t), (3, .int x3), (4, .int x4), (5, .int x5), (6, .int x6), (7, .int (if (h_ai h pn x6.toNatClampNeg) < x4 then (h_ai h pn x6.toNatClampNeg) else x4))] rfl rfl ?_
      exact k63 _ _ _ _ _ _ _ _ _ F

set_option maxRecDepth 20000 in
theorem t_X3_moveOldest_63 {D : Nat} {h : mm_H} {Q : Option Value → mm_H → Prop} (sh : s_h h) (p : Nat) (am : Int32) (t : Nat) (x3 : Int32) (x4 : Int32) (x5 : Int32) (x6 : Int32) (x7 : Int32) {K22 : Nat → Int32 → Nat → Int32 → Int32 → Int32 → Int32 → mm_H → Prop} (k22 : ∀ (p : Nat) (am : Int32) (t : Nat) (x3 : Int32) (x4 : Int32) (x5 : Int32) (x6 : Int32) (h : mm_H), K22 p am t x3 x4 x5 x6 h → w_p (D + 1) (3, 8, mc_X3_moveOldest) 22 [(0, .ref p), (1, .int am), (2, .ref t), (3, .int x3), (4, .int x4), (5, .int x5), (6, .int x6)] [] h Q) {pd pn cp : Nat} (kp : h_kd h p = 4) (kd : h_kd h pd = 20) (kn : h_kd h pn = 20) (rd : h_or h 192 p = some pd) (rn : h_or h 193 p = some pn) (ad : h_al h pd = cp) (an : h_al h pn = cp) (hp : 16 ≤ p) (hd : 16 ≤ pd) (hn : 16 ≤ pn)
    (F : (vp_in x6 cp ∧ (vp_in x6 cp ∧ (vp_in x6 cp ∧ ((¬ (h_ai (h_sA h pn x6.toNatClampNeg ((h_ai h pn x6.toNatClampNeg) - x7)) pn x6.toNatClampNeg) = 0 → K22 p am t x3 (x4 - x7) x5 (x6 + 1) (h_sA h pn x6.toNatClampNeg ((h_ai h pn x6.toNatClampNeg) - x7))) ∧ ((h_ai (h_sA h pn x6.toNatClampNeg ((h_ai h pn x6.toNatClampNeg) - x7)) pn x6.toNatClampNeg) = 0 → K22 p am t x3 (x4 - x7) (x5 + 1) (x6 + 1) (h_sA h pn x6.toNatClampNeg ((h_ai h pn x6.toNatClampNeg) - x7)))))))) :
    w_p (D + 1) (3, 8, mc_X3_moveOldest) 63 [(0, .ref p), (1, .int am), (2, .ref t), (3, .int x3), (4, .int x4), (5, .int x5), (6, .int x6), (7, .int x7)] [] h Q := by
  refine w_b 1 64 [(0, .ref p), (1, .int am), (2, .ref t), (3, .int x3), (4, .int x4), (5, .int x5), (6, .int x6), (7, .int x7)] [.ref p] rfl ?_
  refine w_getS (b := pn) rfl rfl rfl kp (rn) ?_
  refine w_b 2 70 [(0, .ref p), (1, .int am), (2, .ref t), (3, .int x3), (4, .int x4), (5, .int x5), (6, .int x6), (7, .int x7)] [.int x6, .ref pn, .int x6, .ref pn] rfl ?_
  obtain ⟨g1, F⟩ := F
  refine w_iald rfl kn (by rw [show h_al h pn = cp from an]; exact g1) ?_
  refine w_b 2 74 [(0, .ref p), (1, .int am), (2, .ref t), (3, .int x3), (4, .int x4), (5, .int x5), (6, .int x6), (7, .int x7)] [.int ((h_ai h pn x6.toNatClampNeg) - x7), .int x6, .ref pn] rfl ?_
  obtain ⟨g2, F⟩ := F
  refine w_iast rfl kn hn (by rw [show h_al h pn = cp from an]; exact g2) ?_
  refine w_b 5 83 [(4, .int (x4 - x7)), (0, .ref p), (1, .int am), (2, .ref t), (3, .int x3), (5, .int x5), (6, .int x6), (7, .int x7)] [.ref p] rfl ?_
  refine w_getS (b := pn) rfl rfl rfl kp (rn) ?_
  refine w_b 1 88 [(4, .int (x4 - x7)), (0, .ref p), (1, .int am), (2, .ref t), (3, .int x3), (5, .int x5), (6, .int x6), (7, .int x7)] [.int x6, .ref pn] rfl ?_
  obtain ⟨g3, F⟩ := F
  refine w_iald rfl kn (by rw [show h_al (h_sA h pn x6.toNatClampNeg ((h_ai h pn x6.toNatClampNeg) - x7)) pn = cp from an]; exact g3) ?_
  refine w_if_ne (tgt := 95) (x := h_ai (h_sA h pn x6.toNatClampNeg ((h_ai h pn x6.toNatClampNeg) - x7)) pn x6.toNatClampNeg) rfl (by decide) ⟨fun c4 => ?_, fun c4 => ?_⟩
  · have F := F.1 c4
    refine w_b 2 22 [(6, .int (x6 + 1)), (4, .int (x4 - x7)), (0, .ref p), (1, .int am), (2, .ref t), (3, .int x3), (5, .int x5), (7, .int x7)] [] rfl ?_
    refine w_lo [0, 1, 2, 3, 4, 5, 6] [(0, .ref p), (1, .int am), (2, .ref t), (3, .int x3), (4, .int (x4 - x7)), (5, .int x5), (6, .int (x6 + 1))] rfl rfl ?_
    exact k22 _ _ _ _ _ _ _ _ F
  · have F := F.2 (Decidable.not_not.mp c4)
    refine w_b 3 22 [(6, .int (x6 + 1)), (5, .int (x5 + 1)), (4, .int (x4 - x7)), (0, .ref p), (1, .int am), (2, .ref t), (3, .int x3), (7, .int x7)] [] rfl ?_
    refine w_lo [0, 1, 2, 3, 4, 5, 6] [(0, .ref p), (1, .int am), (2, .ref t), (3, .int x3), (4, .int (x4 - x7)), (5, .int (x5 + 1)), (6, .int (x6 + 1))] rfl rfl ?_
    exact k22 _ _ _ _ _ _ _ _ F

set_option maxRecDepth 20000 in
theorem t_X3_moveOldest_101 {D : Nat} {h : mm_H} {Q : Option Value → mm_H → Prop} (sh : s_h h) (p : Nat) (am : Int32) (t : Nat) (x3 : Int32) (x4 : Int32) (x5 : Int32) (x6 : Int32) {pd pn cp : Nat} (kp : h_kd h p = 4) (kd : h_kd h pd = 20) (kn : h_kd h pn = 20) (rd : h_or h 192 p = some pd) (rn : h_or h 193 p = some pn) (ad : h_al h pd = cp) (an : h_al h pn = cp) (hp : 16 ≤ p) (hd : 16 ≤ pd) (hn : 16 ≤ pn)
    (F : w_c D 32 [.ref p, .int x5] (h_sI h 195 p ((h_oi h 195 p) - x3)) (fun r h1 => r = none ∧ s_h h1 ∧ Q (some (.int x3)) h1)) :
    w_p (D + 1) (3, 8, mc_X3_moveOldest) 101 [(0, .ref p), (1, .int am), (2, .ref t), (3, .int x3), (4, .int x4), (5, .int x5), (6, .int x6)] [] h Q := by
  refine w_b 2 103 [(0, .ref p), (1, .int am), (2, .ref t), (3, .int x3), (4, .int x4), (5, .int x5), (6, .int x6)] [.ref p, .ref p] rfl ?_
  refine w_get (g := 195) rfl rfl rfl kp ?_
  refine w_b 2 108 [(0, .ref p), (1, .int am), (2, .ref t), (3, .int x3), (4, .int x4), (5, .int x5), (6, .int x6)] [.int ((h_oi h 195 p) - x3), .ref p] rfl ?_
  refine w_put (g := 195) (x := (h_oi h 195 p) - x3) rfl rfl rfl kp hp ?_
  refine w_b 2 114 [(0, .ref p), (1, .int am), (2, .ref t), (3, .int x3), (4, .int x4), (5, .int x5), (6, .int x6)] [.int x5, .ref p] rfl ?_
  refine w_cv (As := [.int x5]) (b := p) (rest := []) rfl rfl rfl (Nat.le_of_ble_eq_true rfl) kp (fun z => absurd z (by decide)) (dc := D) (by omega) (F.mono (fun r h1 F => ?_))
  obtain ⟨rfl, sh1, F⟩ := F
  show w_p _ _ 117 [(0, .ref p), (1, .int am), (2, .ref t), (3, .int x3), (4, .int x4), (5, .int x5), (6, .int x6)] [] h1 _
  refine w_b 1 118 [(0, .ref p), (1, .int am), (2, .ref t), (3, .int x3), (4, .int x4), (5, .int x5), (6, .int x6)] [.int x3] rfl ?_
  exact w_ir rfl F

theorem add_m1 (x : Int32) : x + (-1) = x - 1 := (Int32.sub_eq_add_neg x 1).symm
/-- what goes of each day when a notes go, the newest first -/
def drd (nt : Nat → Nat) (a x : Nat) : Nat := min (nt x) (a - (fb_sm nt 2001 - fb_sm nt (x + 1)))
theorem pL_at1 {m : Nat} {hd hn nt : Nat → Nat} (H : pL m hd hn nt) {i : Nat} (hi : i < m) : fb_sm nt (hd i + 1) = fb_sm hn (i + 1) := by
  rw [fb_sm_succ, fb_sm_succ, pL_at H hi, (H.2.1 i hi).2.2]
theorem pL_dropN {m : Nat} {hd hn nt : Nat → Nat} (H : pL m hd hn nt) {i l a : Nat} (hi : i ≤ m) (hl : 0 < l → 0 < i ∧ l < hn (i - 1)) (ha : a = fb_sm hn m - fb_sm hn i + l) : pL i hd (va_up hn (i - 1) (hn (i - 1) - l)) (fun x => nt x - drd nt a x) := by
  have hall := pL_all H
  have key : ∀ j, j < m → nt (hd j) - drd nt a (hd j) = if j < i then va_up hn (i - 1) (hn (i - 1) - l) j else 0 := by
    intro j hj
    unfold drd
    have hnj := (H.2.1 j hj).2
    have s1 : fb_sm hn (j + 1) ≤ fb_sm hn m := fb_sm_lt hn (by omega)
    have s2 : fb_sm hn i ≤ fb_sm hn m := fb_sm_lt hn (by omega)
    have s3 : fb_sm hn (j + 1) = fb_sm hn j + hn j := fb_sm_succ hn j
    rw [hall, pL_at1 H hj, hnj.2]
    by_cases z : j < i
    · rw [if_pos z]
      by_cases y : j = i - 1
      · have e1 : j + 1 = i := by omega
        rw [← y, va_up_self, e1]
        have : l ≤ hn j := by
          rcases Nat.eq_zero_or_pos l with w | w
          · omega
          · have := (hl w).2; rw [← y] at this; omega
        omega
      · rw [va_up_ne _ _ y]
        have s4 : fb_sm hn (j + 1) ≤ fb_sm hn (i - 1) := fb_sm_lt hn (by omega)
        have s5 : fb_sm hn i = fb_sm hn (i - 1) + hn (i - 1) := by
          have : i = (i - 1) + 1 := by omega
          conv => lhs; rw [this, fb_sm_succ]
        have : l ≤ hn (i - 1) := by
          rcases Nat.eq_zero_or_pos l with w | w
          · omega
          · have := (hl w).2; omega
        omega
    · rw [if_neg z]
      have s4 : fb_sm hn i ≤ fb_sm hn j := fb_sm_lt hn (by omega)
      omega
  refine ⟨fun x y hxy hy => H.1 x y hxy (by omega), fun j hj => ?_, fun d hd' => ?_⟩
  · refine ⟨(H.2.1 j (by omega)).1, ?_, ?_⟩
    · by_cases y : j = i - 1
      · rw [y, va_up_self]
        rcases Nat.eq_zero_or_pos l with w | w
        · have := (H.2.1 (i - 1) (by omega)).2.1; omega
        · have := (hl w).2; omega
      · rw [va_up_ne _ _ y]; exact (H.2.1 j (by omega)).2.1
    · show nt (hd j) - drd nt a (hd j) = _
      rw [key j (by omega), if_pos hj]
  · have hd' : 0 < nt d - drd nt a d := hd'
    obtain ⟨j, hj, e⟩ := H.2.2 d (by omega)
    rw [← e, key j hj] at hd'
    by_cases z : j < i
    · exact ⟨j, z, e⟩
    · rw [if_neg z] at hd'; omega
set_option maxHeartbeats 2000000 in
theorem c_dropN {h : mm_H} {Q : Option Value → mm_H → Prop} {p d n c a : Nat} {nt : Nat → Nat} (sh : s_h h) (P : pS h p d n c nt) (ha : a ≤ fb_sm nt 2001) (k : ∀ h', ex h h' (p3 p d n) → rm h h' → pS h' p d n c (fun x => nt x - drd nt a x) → Q none h') : w_c 1 30 [.ref p, .int (nI a)] h Q := by
  obtain ⟨m, hd, hn, A, L, T, B⟩ := id P
  obtain ⟨K, hmc, hm, hv⟩ := id A
  obtain ⟨e1, e2, e3⟩ := K.ne
  obtain ⟨⟨k1, k2, k3⟩, ⟨r1, r2⟩, ⟨l1, l2⟩, ⟨b1, b2, b3, b4, b5, b6, b7⟩, c1, c2⟩ := id K
  have hall := pL_all L
  have fin : ∀ i l, i ≤ m → (0 < l → 0 < i ∧ l < hn (i - 1)) → a = fb_sm hn m - fb_sm hn i + l → ∀ h1 : mm_H, ex h h1 (p3 p d n) → rm h h1 → pK h1 p d n c → h_oi h1 194 p = nI i → h_oi h1 195 p = nI (fb_sm hn i - l) → (∀ j, j < i → h_ai h1 d j = nI (hd j) ∧ h_ai h1 n j = nI (va_up hn (i - 1) (hn (i - 1) - l) j)) → Q none h1 := by
    intro i l hi hl hal h1 f r K1 m1 t1 q
    have L1 := pL_dropN L hi hl hal
    have s1 : fb_sm hn i ≤ fb_sm hn m := fb_sm_lt hn hi
    have es : fb_sm (fun x => nt x - drd nt a x) 2001 = fb_sm hn i - l := by
      rw [pL_all L1]
      rcases Nat.eq_zero_or_pos i with y | y
      · subst y
        show 0 = 0 - l
        omega
      · have := sm_up hn (i := i - 1) (v := hn (i - 1) - l) (n := i) (by omega)
        have : l ≤ hn (i - 1) := by
          rcases Nat.eq_zero_or_pos l with w | w
          · omega
          · have := (hl w).2; omega
        omega
    refine k h1 f r ⟨i, hd, _, ⟨K1, by omega, m1, q⟩, L1, ?_, ?_⟩
    · rw [es]; exact t1
    · rw [es]; omega
  have stop : ∀ (x3 : Int32) (h1 : mm_H), s_h h1 → pK h1 p d n c → Q none h1 → w_p (0 + 1) (3, 5, mc_X3_dropNewest) 9 [(0, .ref p), (1, .int (nI a)), (2, .int (nI 0)), (3, .int x3)] [] h1 Q := by
    intro x3 h1 sh1 K1 hq
    obtain ⟨⟨k1, k2, k3⟩, ⟨r1, r2⟩, ⟨l1, l2⟩, _⟩ := id K1
    exact t_X3_dropNewest_9 (D := 0) sh1 p _ _ _ (K9 := fun _ _ _ _ _ => False) (fun _ _ _ _ _ z => z.elim) k1 k2 k3 r1 r2 l1 l2 (by omega) (by omega) (by omega) ⟨fun _ => hq, fun _ => ⟨fun _ => hq, fun z => absurd (by decide) z⟩⟩
  have loop : ∀ i, i ≤ m → ∀ l, a = fb_sm hn m - fb_sm hn i + l → ∀ h1 : mm_H, ex h h1 (p3 p d n) → rm h h1 → pK h1 p d n c → h_oi h1 194 p = nI i → h_oi h1 195 p = nI (fb_sm hn i) → (∀ j, j < i → h_ai h1 d j = nI (hd j) ∧ h_ai h1 n j = nI (hn j)) → w_p (0 + 1) (3, 5, mc_X3_dropNewest) 9 [(0, .ref p), (1, .int (nI a)), (2, .int (nI l)), (3, .int (nI i - 1))] [] h1 Q := by
    intro i
    induction i with
    | zero =>
      intro hi l hal h1 f r K1 m1 t1 q
      obtain ⟨⟨k1, k2, k3⟩, ⟨r1, r2⟩, ⟨l1, l2⟩, _⟩ := id K1
      have hl0 : l = 0 := by
        have : fb_sm hn 0 = 0 := rfl
        omega
      subst hl0
      refine stop _ h1 (s_h.ex sh f (p3_70 K)) K1 (fin 0 0 hi (fun z => by omega) hal h1 f r K1 m1 t1 (fun j hj => by omega))
    | succ i ih =>
      intro hi l hal h1 f r K1 m1 t1 q
      obtain ⟨⟨k1, k2, k3⟩, ⟨r1, r2⟩, ⟨l1, l2⟩, _⟩ := id K1
      have sS : fb_sm hn (i + 1) = fb_sm hn i + hn i := fb_sm_succ hn i
      have s1 : fb_sm hn (i + 1) ≤ fb_sm hn m := fb_sm_lt hn hi
      rcases Nat.eq_zero_or_pos l with hl | hl
      · subst hl
        refine stop _ h1 (s_h.ex sh f (p3_70 K)) K1 (fin (i + 1) 0 hi (fun z => by omega) hal h1 f r K1 m1 t1 (fun j hj => ?_))
        rw [Nat.sub_zero, up_same]
        exact q j hj
      · have x0 : nI (i + 1) - 1 = nI i := nI_sub1 (by omega)
        rw [x0]
        have v1 : vp_in (nI i) c := vp_in_nI (by omega) (by omega)
        have hni := (L.2.1 i (by omega)).2.1
        have en : h_ai h1 n (nI i).toNatClampNeg = nI (hn i) := by rw [i_cl (by omega)]; exact (q i (by omega)).2
        have ecl : (nI i).toNatClampNeg = i := i_cl (by omega)
        have hle : l ≤ 100000000 := by omega
        have hnle : hn i ≤ 100000000 := by omega
        have emin : (if nI (hn i) < nI l then nI (hn i) else nI l) = nI (min (hn i) l) := by
          by_cases z : hn i < l
          · rw [if_pos ((i_lt (by omega) (by omega)).mpr z), Nat.min_eq_left (by omega)]
          · rw [if_neg (fun y => z ((i_lt (by omega) (by omega)).mp y)), Nat.min_eq_right (by omega)]
        have f1 : ex h (h_sA h1 n i (nI (hn i - min (hn i) l))) (p3 p d n) := f.sA _ _ (Or.inl (Or.inr (Or.inr rfl)))
        have f2 : ex h (h_sI (h_sA h1 n i (nI (hn i - min (hn i) l))) 195 p (nI (fb_sm hn (i + 1) - min (hn i) l))) (p3 p d n) := f1.sI _ (Or.inl (Or.inl rfl))
        refine t_X3_dropNewest_9 (D := 0) (s_h.ex sh f (p3_70 K)) p _ _ _ (K9 := fun y1 y2 y3 y4 hh => y1 = p ∧ y2 = nI a ∧ y3 = nI (l - min (hn i) l) ∧ y4 = nI i - 1 ∧ ((hh = h_sI (h_sA h1 n i (nI (hn i - min (hn i) l))) 195 p (nI (fb_sm hn (i + 1) - min (hn i) l)) ∧ hn i - min (hn i) l ≠ 0) ∨ (hh = h_sI (h_sI (h_sA h1 n i (nI (hn i - min (hn i) l))) 195 p (nI (fb_sm hn (i + 1) - min (hn i) l))) 194 p (nI i) ∧ hn i - min (hn i) l = 0))) (fun y1 y2 y3 y4 hh qq => ?_) k1 k2 k3 r1 r2 l1 l2 (by omega) (by omega) (by omega) ⟨fun z => absurd z (nI_pos (by omega)), fun _ => ⟨fun z => ?_, fun _ => ⟨v1, v1, v1, v1, ?_⟩⟩⟩
        · obtain ⟨rfl, rfl, rfl, rfl, (⟨rfl, hz⟩ | ⟨rfl, hz⟩)⟩ := qq
          · have hll : min (hn i) l = l := by omega
            rw [hll] at hz f2 ⊢
            rw [Nat.sub_self]
            refine stop _ _ (s_h.ex sh f2 (p3_70 K)) K1 (fin (i + 1) l hi (fun _ => ⟨by omega, by show l < hn i; omega⟩) hal _ f2 r K1 ?_ (oi_self _ _ _ _) (fun j hj => ?_))
            · exact (oi_neG (by decide) y1).trans m1
            · show h_ai (h_sA h1 n i (nI (hn i - l))) d j = _ ∧ h_ai (h_sA h1 n i (nI (hn i - l))) n j = nI (va_up hn i (hn i - l) j)
              rw [ai_ne e3, ai_self]
              refine ⟨(q j hj).1, ?_⟩
              by_cases w : j = i
              · rw [w, va_up_self, va_up_self]
              · rw [va_up_ne _ _ w, va_up_ne _ _ w]; exact (q j hj).2
          · have hll : min (hn i) l = hn i := by omega
            rw [hll] at hz f2 ⊢
            refine ih (by omega) (l - hn i) (by omega) _ (f2.sI _ (Or.inl (Or.inl rfl))) r K1 (oi_self _ _ _ _) ?_ (fun j hj => ?_)
            · rw [oi_neG (by decide), oi_self, sS]
              congr 1
              omega
            · show h_ai (h_sA h1 n i (nI (hn i - hn i))) d j = _ ∧ h_ai (h_sA h1 n i (nI (hn i - hn i))) n j = _
              rw [ai_ne e3, ai_self, va_up_ne _ _ (by omega)]
              exact q j (by omega)
        · have := (i_le (b := 0) (by omega) (by decide)).mp z
          omega
        · rw [en, emin, nI_sub (by omega), t1, nI_sub (by omega), nI_sub (by omega), ecl, ai_self, va_up_self]
          refine ⟨fun z => ⟨rfl, rfl, rfl, add_m1 _, Or.inl ⟨rfl, fun y => z (by rw [y]; rfl)⟩⟩, fun z => ⟨rfl, rfl, rfl, add_m1 _, Or.inr ⟨rfl, (nI_eqI (b := 0) (by omega) (by decide)).mp z⟩⟩⟩
  refine t_X3_dropNewest_0 (D := 0) sh p _ (K9 := fun y1 y2 y3 y4 hh => y1 = p ∧ y2 = nI a ∧ y3 = nI a ∧ y4 = nI m - 1 ∧ hh = h) (fun y1 y2 y3 y4 hh qq => ?_) k1 k2 k3 r1 r2 l1 l2 (by omega) (by omega) (by omega) ⟨rfl, rfl, rfl, by rw [hm], rfl⟩
  obtain ⟨rfl, rfl, rfl, rfl, rfl⟩ := qq
  exact loop m (Nat.le_refl _) a (by omega) hh (ex.rf _ _) ⟨rfl, rfl⟩ K hm (by rw [← hall]; exact T) hv
