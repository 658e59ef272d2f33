set_option maxRecDepth 20000 in
theorem t_X3_insertHeap_0 {D : Nat} {h : mm_H} {Q : Option Value → mm_H → Prop} (sh : s_h h) (p : Nat) (at0 : Int32) (day : Int32) (am : Int32) {K46 : Nat → Int32 → Int32 → Int32 → mm_H → Prop} (k46 : ∀ (p : Nat) (at0 : Int32) (day : Int32) (am : Int32) (h : mm_H), K46 p at0 day am h → w_p (D + 1) (3, 5, mc_X3_insertHeap) 46 [(0, .ref p), (1, .int at0), (2, .int day), (3, .int am)] [] h Q) {pd pn cp : Nat} (kp : h_kd h p = 4) (kd : h_kd h pd = 20) (kn : h_kd h pn = 20) (rd : h_or h 192 p = some pd) (rn : h_or h 193 p = some pn) (ad : h_al h pd = cp) (an : h_al h pn = cp) (hp : 16 ≤ p) (hd : 16 ≤ pd) (hn : 16 ≤ pn)
    (F : (((h_oi h 194 p) < (Int32.ofNat cp) → K46 p at0 day am h) ∧ (¬ ((h_oi h 194 p) < (Int32.ofNat cp)) → w_c D 154 [.ref pd, .int ((h_oi h 194 p) * (2 : Int32))] h (fun r h2 => ∃ z3 : Option Nat, r = some (va_rf z3) ∧ s_h h2 ∧ (h_kd h2 p = 4 ∧ (h_kd (h_sR h2 192 p z3) p = 4 ∧ (h_kd (h_sR h2 192 p z3) p = 4 ∧ w_c D 154 [va_rf (h_or (h_sR h2 192 p z3) 193 p), .int ((h_oi h2 194 p) * (2 : Int32))] (h_sR h2 192 p z3) (fun r h7 => ∃ z8 : Option Nat, r = some (va_rf z8) ∧ s_h h7 ∧ (h_kd h7 p = 4 ∧ K46 p at0 day am (h_sR h7 193 p z8)))))))))) :
    w_c (D + 1) 28 [.ref p, .int at0, .int day, .int am] h Q := by
  refine w_ci (M := (3, 5, mc_X3_insertHeap)) rfl (Nat.le_of_ble_eq_true rfl) ?_
  show w_p _ _ 0 [(0, .ref p), (1, .int at0), (2, .int day), (3, .int am)] [] h Q
  refine w_b 1 1 [(0, .ref p), (1, .int at0), (2, .int day), (3, .int am)] [.ref p] rfl ?_
  refine w_get (g := 194) rfl rfl rfl kp ?_
  refine w_b 1 5 [(0, .ref p), (1, .int at0), (2, .int day), (3, .int am)] [.ref p, .int (h_oi h 194 p)] rfl ?_
  refine w_getS (b := pd) rfl rfl rfl kp (rd) ?_
  refine w_alen rfl (by rw [show _ = 20 from kd]; decide) ?_
  rw [show h_al h pd = cp from ad]
  refine w_ic_lt (tgt := 46) (x := h_oi h 194 p) (y := Int32.ofNat cp) rfl (by decide) ⟨fun c1 => ?_, fun c1 => ?_⟩
  · have F := F.1 c1
    exact k46 _ _ _ _ _ F
  · have F := F.2 c1
    refine w_b 2 14 [(0, .ref p), (1, .int at0), (2, .int day), (3, .int am)] [.ref p, .ref p] rfl ?_
    refine w_getS (b := pd) rfl rfl rfl kp (rd) ?_
    refine w_b 1 18 [(0, .ref p), (1, .int at0), (2, .int day), (3, .int am)] [.ref p, .ref pd, .ref p] rfl ?_
    refine w_get (g := 194) rfl rfl rfl kp ?_
    refine w_b 2 23 [(0, .ref p), (1, .int at0), (2, .int day), (3, .int am)] [.int ((h_oi h 194 p) * (2 : Int32)), .ref pd, .ref p] rfl ?_
    refine w_cs (As := [.ref pd, .int ((h_oi h 194 p) * (2 : Int32))]) (rest := [.ref p]) rfl rfl rfl (Nat.le_of_ble_eq_true rfl) (dc := D) (by omega) (F.mono (fun r h2 F => ?_))
    obtain ⟨z3, rfl, sh2, F⟩ := F
    show w_p _ _ 26 [(0, .ref p), (1, .int at0), (2, .int day), (3, .int am)] [va_rf z3, .ref p] h2 _
    obtain ⟨g4, F⟩ := F
    refine w_putR (g := 192) (x := z3) rfl rfl rfl g4 hp ?_
    refine w_b 2 31 [(0, .ref p), (1, .int at0), (2, .int day), (3, .int am)] [.ref p, .ref p] rfl ?_
    obtain ⟨g5, F⟩ := F
    refine w_getR (g := 193) rfl rfl rfl g5 ?_
    refine w_b 1 35 [(0, .ref p), (1, .int at0), (2, .int day), (3, .int am)] [.ref p, va_rf (h_or (h_sR h2 192 p z3) 193 p), .ref p] rfl ?_
    obtain ⟨g6, F⟩ := F
    refine w_get (g := 194) rfl rfl rfl g6 ?_
    refine w_b 2 40 [(0, .ref p), (1, .int at0), (2, .int day), (3, .int am)] [.int ((h_oi h2 194 p) * (2 : Int32)), va_rf (h_or (h_sR h2 192 p z3) 193 p), .ref p] rfl ?_
    refine w_cs (As := [va_rf (h_or (h_sR h2 192 p z3) 193 p), .int ((h_oi h2 194 p) * (2 : Int32))]) (rest := [.ref p]) rfl rfl rfl (Nat.le_of_ble_eq_true rfl) (dc := D) (by omega) (F.mono (fun r h7 F => ?_))
    obtain ⟨z8, rfl, sh7, F⟩ := F
    show w_p _ _ 43 [(0, .ref p), (1, .int at0), (2, .int day), (3, .int am)] [va_rf z8, .ref p] h7 _
    obtain ⟨g9, F⟩ := F
    refine w_putR (g := 193) (x := z8) rfl rfl rfl g9 hp ?_
    exact k46 _ _ _ _ _ F

set_option maxRecDepth 20000 in
theorem t_X3_insertHeap_46 {D : Nat} {h : mm_H} {Q : Option Value → mm_H → Prop} (sh : s_h h) (p : Nat) (at0 : Int32) (day : Int32) (am : Int32) {K52 : Nat → Int32 → Int32 → Int32 → Int32 → mm_H → Prop} (k52 : ∀ (p : Nat) (at0 : Int32) (day : Int32) (am : Int32) (x4 : Int32) (h : mm_H), K52 p at0 day am x4 h → w_p (D + 1) (3, 5, mc_X3_insertHeap) 52 [(0, .ref p), (1, .int at0), (2, .int day), (3, .int am), (4, .int x4)] [] h Q) {pd pn cp : Nat} (kp : h_kd h p = 4) (kd : h_kd h pd = 20) (kn : h_kd h pn = 20) (rd : h_or h 192 p = some pd) (rn : h_or h 193 p = some pn) (ad : h_al h pd = cp) (an : h_al h pn = cp) (hp : 16 ≤ p) (hd : 16 ≤ pd) (hn : 16 ≤ pn)
    (F : K52 p at0 day am (h_oi h 194 p) h) :
    w_p (D + 1) (3, 5, mc_X3_insertHeap) 46 [(0, .ref p), (1, .int at0), (2, .int day), (3, .int am)] [] h Q := by
  refine w_b 1 47 [(0, .ref p), (1, .int at0), (2, .int day), (3, .int am)] [.ref p] rfl ?_
  refine w_get (g := 194) rfl rfl rfl kp ?_
  refine w_b 1 52 [(4, .int (h_oi h 194 p)), (0, .ref p), (1, .int at0), (2, .int day), (3, .int am)] [] rfl ?_
  refine w_lo [0, 1, 2, 3, 4] [(0, .ref p), (1, .int at0), (2, .int day), (3, .int am), (4, .int (h_oi h 194 p))] rfl rfl ?_
  exact k52 _ _ _ _ _ _ F

set_option maxRecDepth 20000 in
theorem t_X3_insertHeap_52 {D : Nat} {h : mm_H} {Q : Option Value → mm_H → Prop} (sh : s_h h) (p : Nat) (at0 : Int32) (day : Int32) (am : Int32) (x4 : Int32) {K52 : Nat → Int32 → Int32 → Int32 → Int32 → mm_H → Prop} (k52 : ∀ (p : Nat) (at0 : Int32) (day : Int32) (am : Int32) (x4 : Int32) (h : mm_H), K52 p at0 day am x4 h → w_p (D + 1) (3, 5, mc_X3_insertHeap) 52 [(0, .ref p), (1, .int at0), (2, .int day), (3, .int am), (4, .int x4)] [] h Q) {pd pn cp : Nat} (kp : h_kd h p = 4) (kd : h_kd h pd = 20) (kn : h_kd h pn = 20) (rd : h_or h 192 p = some pd) (rn : h_or h 193 p = some pn) (ad : h_al h pd = cp) (an : h_al h pn = cp) (hp : 16 ≤ p) (hd : 16 ≤ pd) (hn : 16 ≤ pn)
    (F : ((x4 ≤ at0 → (vp_in at0 cp ∧ (vp_in at0 cp ∧ Q none (h_sI (h_sA (h_sA h pd at0.toNatClampNeg day) pn at0.toNatClampNeg am) 194 p ((h_oi h 194 p) + 1))))) ∧ (¬ (x4 ≤ at0) → (vp_in (x4 - (1 : Int32)) cp ∧ (vp_in x4 cp ∧ (vp_in (x4 - (1 : Int32)) cp ∧ (vp_in x4 cp ∧ K52 p at0 day am (x4 + (-1)) (h_sA (h_sA h pd x4.toNatClampNeg (h_ai h pd (x4 - (1 : Int32)).toNatClampNeg)) pn x4.toNatClampNeg (h_ai (h_sA h pd x4.toNatClampNeg (h_ai h pd (x4 - (1 : Int32)).toNatClampNeg)) pn (x4 - (1 : Int32)).toNatClampNeg))))))))) :
    w_p (D + 1) (3, 5, mc_X3_insertHeap) 52 [(0, .ref p), (1, .int at0), (2, .int day), (3, .int am), (4, .int x4)] [] h Q := by
  refine w_b 2 55 [(0, .ref p), (1, .int at0), (2, .int day), (3, .int am), (4, .int x4)] [.int at0, .int x4] rfl ?_
  refine w_ic_le (tgt := 96) (x := x4) (y := at0) rfl (by decide) ⟨fun c1 => ?_, fun c1 => ?_⟩
  · have F := F.1 c1
    refine w_b 1 97 [(0, .ref p), (1, .int at0), (2, .int day), (3, .int am), (4, .int x4)] [.ref p] rfl ?_
    refine w_getS (b := pd) rfl rfl rfl kp (rd) ?_
    refine w_b 2 102 [(0, .ref p), (1, .int at0), (2, .int day), (3, .int am), (4, .int x4)] [.int day, .int at0, .ref pd] rfl ?_
    obtain ⟨g2, F⟩ := F
    refine w_iast rfl kd hd (by rw [show h_al h pd = cp from ad]; exact g2) ?_
    refine w_b 1 104 [(0, .ref p), (1, .int at0), (2, .int day), (3, .int am), (4, .int x4)] [.ref p] rfl ?_
    refine w_getS (b := pn) rfl rfl rfl kp (rn) ?_
    refine w_b 2 109 [(0, .ref p), (1, .int at0), (2, .int day), (3, .int am), (4, .int x4)] [.int am, .int at0, .ref pn] rfl ?_
    obtain ⟨g3, F⟩ := F
    refine w_iast rfl kn hn (by rw [show h_al (h_sA h pd at0.toNatClampNeg day) pn = cp from an]; exact g3) ?_
    refine w_b 2 112 [(0, .ref p), (1, .int at0), (2, .int day), (3, .int am), (4, .int x4)] [.ref p, .ref p] rfl ?_
    refine w_get (g := 194) rfl rfl rfl kp ?_
    refine w_b 2 117 [(0, .ref p), (1, .int at0), (2, .int day), (3, .int am), (4, .int x4)] [.int ((h_oi h 194 p) + 1), .ref p] rfl ?_
    refine w_put (g := 194) (x := (h_oi h 194 p) + 1) rfl rfl rfl kp hp ?_
    exact w_vr rfl F
  · have F := F.2 c1
    refine w_b 1 59 [(0, .ref p), (1, .int at0), (2, .int day), (3, .int am), (4, .int x4)] [.ref p] rfl ?_
    refine w_getS (b := pd) rfl rfl rfl kp (rd) ?_
    refine w_b 2 65 [(0, .ref p), (1, .int at0), (2, .int day), (3, .int am), (4, .int x4)] [.ref p, .int x4, .ref pd] rfl ?_
    refine w_getS (b := pd) rfl rfl rfl kp (rd) ?_
    refine w_b 3 72 [(0, .ref p), (1, .int at0), (2, .int day), (3, .int am), (4, .int x4)] [.int (x4 - (1 : Int32)), .ref pd, .int x4, .ref pd] rfl ?_
    obtain ⟨g4, F⟩ := F
    refine w_iald rfl kd (by rw [show h_al h pd = cp from ad]; exact g4) ?_
    obtain ⟨g5, F⟩ := F
    refine w_iast rfl kd hd (by rw [show h_al h pd = cp from ad]; exact g5) ?_
    refine w_b 1 75 [(0, .ref p), (1, .int at0), (2, .int day), (3, .int am), (4, .int x4)] [.ref p] rfl ?_
    refine w_getS (b := pn) rfl rfl rfl kp (rn) ?_
    refine w_b 2 81 [(0, .ref p), (1, .int at0), (2, .int day), (3, .int am), (4, .int x4)] [.ref p, .int x4, .ref pn] rfl ?_
    refine w_getS (b := pn) rfl rfl rfl kp (rn) ?_
    refine w_b 3 88 [(0, .ref p), (1, .int at0), (2, .int day), (3, .int am), (4, .int x4)] [.int (x4 - (1 : Int32)), .ref pn, .int x4, .ref pn] rfl ?_
    obtain ⟨g6, F⟩ := F
    refine w_iald rfl kn (by rw [show h_al (h_sA h pd x4.toNatClampNeg (h_ai h pd (x4 - (1 : Int32)).toNatClampNeg)) pn = cp from an]; exact g6) ?_
    obtain ⟨g7, F⟩ := F
    refine w_iast rfl kn hn (by rw [show h_al (h_sA h pd x4.toNatClampNeg (h_ai h pd (x4 - (1 : Int32)).toNatClampNeg)) pn = cp from an]; exact g7) ?_
    refine w_b 2 52 [(4, .int (x4 + (-1))), (0, .ref p), (1, .int at0), (2, .int day), (3, .int am)] [] rfl ?_
    refine w_lo [0, 1, 2, 3, 4] [(0, .ref p), (1, .int at0), (2, .int day), (3, .int am), (4, .int (x4 + (-1)))] rfl rfl ?_
    exact k52 _ _ _ _ _ _ F

set_option maxRecDepth 20000 in
theorem t_X3_put_0 {D : Nat} {h : mm_H} {Q : Option Value → mm_H → Prop} (sh : s_h h) (p : Nat) (day : Int32) (am : Int32) {K20 : Nat → Int32 → Int32 → Int32 → mm_H → Prop} (k20 : ∀ (p : Nat) (day : Int32) (am : Int32) (x3 : Int32) (h : mm_H), K20 p day am x3 h → w_p (D + 1) (3, 4, mc_X3_put) 20 [(0, .ref p), (1, .int day), (2, .int am), (3, .int x3)] [] h Q) {pd pn cp : Nat} (kp : h_kd h p = 4) (kd : h_kd h pd = 20) (kn : h_kd h pn = 20) (rd : h_or h 192 p = some pd) (rn : h_or h 193 p = some pn) (ad : h_al h pd = cp) (an : h_al h pn = cp) (hp : 16 ≤ p) (hd : 16 ≤ pd) (hn : 16 ≤ pn)
    (F : ((0 < am → K20 p day am (h_oi h 194 p) (h_sI h 195 p ((h_oi h 195 p) + am))) ∧ (¬ (0 < am) → Q none h))) :
    w_c (D + 1) 27 [.ref p, .int day, .int am] h Q := by
  refine w_ci (M := (3, 4, mc_X3_put)) rfl (Nat.le_of_ble_eq_true rfl) ?_
  show w_p _ _ 0 [(0, .ref p), (1, .int day), (2, .int am)] [] h Q
  refine w_b 1 1 [(0, .ref p), (1, .int day), (2, .int am)] [.int am] rfl ?_
  refine w_if_gt (tgt := 5) (x := am) rfl (by decide) ⟨fun c1 => ?_, fun c1 => ?_⟩
  · have F := F.1 c1
    refine w_b 2 7 [(0, .ref p), (1, .int day), (2, .int am)] [.ref p, .ref p] rfl ?_
    refine w_get (g := 195) rfl rfl rfl kp ?_
    refine w_b 2 12 [(0, .ref p), (1, .int day), (2, .int am)] [.int ((h_oi h 195 p) + am), .ref p] rfl ?_
    refine w_put (g := 195) (x := (h_oi h 195 p) + am) rfl rfl rfl kp hp ?_
    refine w_b 1 16 [(0, .ref p), (1, .int day), (2, .int am)] [.ref p] rfl ?_
    refine w_get (g := 194) rfl rfl rfl kp ?_
    refine w_b 1 20 [(3, .int (h_oi h 194 p)), (0, .ref p), (1, .int day), (2, .int am)] [] rfl ?_
    refine w_lo [0, 1, 2, 3] [(0, .ref p), (1, .int day), (2, .int am), (3, .int (h_oi h 194 p))] rfl rfl ?_
    exact k20 _ _ _ _ _ F
  · have F := F.2 c1
    exact w_vr rfl F

set_option maxRecDepth 20000 in
theorem t_X3_put_20 {D : Nat} {h : mm_H} {Q : Option Value → mm_H → Prop} (sh : s_h h) (p : Nat) (day : Int32) (am : Int32) (x3 : Int32) {K20 : Nat → Int32 → Int32 → Int32 → mm_H → Prop} (k20 : ∀ (p : Nat) (day : Int32) (am : Int32) (x3 : Int32) (h : mm_H), K20 p day am x3 h → w_p (D + 1) (3, 4, mc_X3_put) 20 [(0, .ref p), (1, .int day), (2, .int am), (3, .int x3)] [] h Q) {pd pn cp : Nat} (kp : h_kd h p = 4) (kd : h_kd h pd = 20) (kn : h_kd h pn = 20) (rd : h_or h 192 p = some pd) (rn : h_or h 193 p = some pn) (ad : h_al h pd = cp) (an : h_al h pn = cp) (hp : 16 ≤ p) (hd : 16 ≤ pd) (hn : 16 ≤ pn)
    (F : ((x3 ≤ 0 → ((x3 ≤ 0 → w_c D 28 [.ref p, .int x3, .int day, .int am] h (fun r h3 => r = none ∧ s_h h3 ∧ Q none h3)) ∧ (¬ (x3 ≤ 0) → (vp_in (x3 - (1 : Int32)) cp ∧ ((¬ (h_ai h pd (x3 - (1 : Int32)).toNatClampNeg) = day → w_c D 28 [.ref p, .int x3, .int day, .int am] h (fun r h6 => r = none ∧ s_h h6 ∧ Q none h6)) ∧ ((h_ai h pd (x3 - (1 : Int32)).toNatClampNeg) = day → (vp_in (x3 - (1 : Int32)) cp ∧ (vp_in (x3 - (1 : Int32)) cp ∧ Q none (h_sA h pn ((x3 - (1 : Int32)).toNatClampNeg) ((h_ai h pn (x3 - (1 : Int32)).toNatClampNeg) + am)))))))))) ∧ (¬ (x3 ≤ 0) → (vp_in (x3 - (1 : Int32)) cp ∧ (((h_ai h pd (x3 - (1 : Int32)).toNatClampNeg) ≤ day → ((x3 ≤ 0 → w_c D 28 [.ref p, .int x3, .int day, .int am] h (fun r h12 => r = none ∧ s_h h12 ∧ Q none h12)) ∧ (¬ (x3 ≤ 0) → (vp_in (x3 - (1 : Int32)) cp ∧ ((¬ (h_ai h pd (x3 - (1 : Int32)).toNatClampNeg) = day → w_c D 28 [.ref p, .int x3, .int day, .int am] h (fun r h15 => r = none ∧ s_h h15 ∧ Q none h15)) ∧ ((h_ai h pd (x3 - (1 : Int32)).toNatClampNeg) = day → (vp_in (x3 - (1 : Int32)) cp ∧ (vp_in (x3 - (1 : Int32)) cp ∧ Q none (h_sA h pn ((x3 - (1 : Int32)).toNatClampNeg) ((h_ai h pn (x3 - (1 : Int32)).toNatClampNeg) + am)))))))))) ∧ (¬ ((h_ai h pd (x3 - (1 : Int32)).toNatClampNeg) ≤ day) → K20 p day am (x3 + (-1)) h)))))) :
    w_p (D + 1) (3, 4, mc_X3_put) 20 [(0, .ref p), (1, .int day), (2, .int am), (3, .int x3)] [] h Q := by
  refine w_b 1 21 [(0, .ref p), (1, .int day), (2, .int am), (3, .int x3)] [.int x3] rfl ?_
  refine w_if_le (tgt := 42) (x := x3) rfl (by decide) ⟨fun c1 => ?_, fun c1 => ?_⟩
  · have F := F.1 c1
    refine w_b 1 43 [(0, .ref p), (1, .int day), (2, .int am), (3, .int x3)] [.int x3] rfl ?_
    refine w_if_le (tgt := 73) (x := x3) rfl (by decide) ⟨fun c2 => ?_, fun c2 => ?_⟩
    · have F := F.1 c2
      refine w_b 4 77 [(0, .ref p), (1, .int day), (2, .int am), (3, .int x3)] [.int am, .int day, .int x3, .ref p] rfl ?_
      refine w_cv (As := [.int x3, .int day, .int am]) (b := p) (rest := []) rfl rfl rfl (Nat.le_of_ble_eq_true rfl) kp (fun z => absurd z (by decide)) (dc := D) (by omega) (F.mono (fun r h3 F => ?_))
      obtain ⟨rfl, sh3, F⟩ := F
      show w_p _ _ 80 [(0, .ref p), (1, .int day), (2, .int am), (3, .int x3)] [] h3 _
      exact w_vr rfl F
    · have F := F.2 c2
      refine w_b 1 47 [(0, .ref p), (1, .int day), (2, .int am), (3, .int x3)] [.ref p] rfl ?_
      refine w_getS (b := pd) rfl rfl rfl kp (rd) ?_
      refine w_b 3 53 [(0, .ref p), (1, .int day), (2, .int am), (3, .int x3)] [.int (x3 - (1 : Int32)), .ref pd] rfl ?_
      obtain ⟨g4, F⟩ := F
      refine w_iald rfl kd (by rw [show h_al h pd = cp from ad]; exact g4) ?_
      refine w_b 1 55 [(0, .ref p), (1, .int day), (2, .int am), (3, .int x3)] [.int day, .int (h_ai h pd (x3 - (1 : Int32)).toNatClampNeg)] rfl ?_
      refine w_ic_ne (tgt := 73) (x := h_ai h pd (x3 - (1 : Int32)).toNatClampNeg) (y := day) rfl (by decide) ⟨fun c5 => ?_, fun c5 => ?_⟩
      · have F := F.1 c5
        refine w_b 4 77 [(0, .ref p), (1, .int day), (2, .int am), (3, .int x3)] [.int am, .int day, .int x3, .ref p] rfl ?_
        refine w_cv (As := [.int x3, .int day, .int am]) (b := p) (rest := []) rfl rfl rfl (Nat.le_of_ble_eq_true rfl) kp (fun z => absurd z (by decide)) (dc := D) (by omega) (F.mono (fun r h6 F => ?_))
        obtain ⟨rfl, sh6, F⟩ := F
        show w_p _ _ 80 [(0, .ref p), (1, .int day), (2, .int am), (3, .int x3)] [] h6 _
        exact w_vr rfl F
      · have F := F.2 (Decidable.not_not.mp c5)
        refine w_b 1 59 [(0, .ref p), (1, .int day), (2, .int am), (3, .int x3)] [.ref p] rfl ?_
        refine w_getS (b := pn) rfl rfl rfl kp (rn) ?_
        refine w_b 4 66 [(0, .ref p), (1, .int day), (2, .int am), (3, .int x3)] [.int (x3 - (1 : Int32)), .ref pn, .int (x3 - (1 : Int32)), .ref pn] rfl ?_
        obtain ⟨g7, F⟩ := F
        refine w_iald rfl kn (by rw [show h_al h pn = cp from an]; exact g7) ?_
        refine w_b 2 69 [(0, .ref p), (1, .int day), (2, .int am), (3, .int x3)] [.int ((h_ai h pn (x3 - (1 : Int32)).toNatClampNeg) + am), .int (x3 - (1 : Int32)), .ref pn] rfl ?_
        obtain ⟨g8, F⟩ := F
        refine w_iast rfl kn hn (by rw [show h_al h pn = cp from an]; exact g8) ?_
        refine w_b 1 80 [(0, .ref p), (1, .int day), (2, .int am), (3, .int x3)] [] rfl ?_
        exact w_vr rfl F
  · have F := F.2 c1
    refine w_b 1 25 [(0, .ref p), (1, .int day), (2, .int am), (3, .int x3)] [.ref p] rfl ?_
    refine w_getS (b := pd) rfl rfl rfl kp (rd) ?_
    refine w_b 3 31 [(0, .ref p), (1, .int day), (2, .int am), (3, .int x3)] [.int (x3 - (1 : Int32)), .ref pd] rfl ?_
    obtain ⟨g9, F⟩ := F
    refine w_iald rfl kd (by rw [show h_al h pd = cp from ad]; exact g9) ?_
    refine w_b 1 33 [(0, .ref p), (1, .int day), (2, .int am), (3, .int x3)] [.int day, .int (h_ai h pd (x3 - (1 : Int32)).toNatClampNeg)] rfl ?_
    refine w_ic_le (tgt := 42) (x := h_ai h pd (x3 - (1 : Int32)).toNatClampNeg) (y := day) rfl (by decide) ⟨fun c10 => ?_, fun c10 => ?_⟩
    · have F := F.1 c10
      refine w_b 1 43 [(0, .ref p), (1, .int day), (2, .int am), (3, .int x3)] [.int x3] rfl ?_
      refine w_if_le (tgt := 73) (x := x3) rfl (by decide) ⟨fun c11 => ?_, fun c11 => ?_⟩
      · have F := F.1 c11
        refine w_b 4 77 [(0, .ref p), (1, .int day), (2, .int am), (3, .int x3)] [.int am, .int day, .int x3, .ref p] rfl ?_
        refine w_cv (As := [.int x3, .int day, .int am]) (b := p) (rest := []) rfl rfl rfl (Nat.le_of_ble_eq_true rfl) kp (fun z => absurd z (by decide)) (dc := D) (by omega) (F.mono (fun r h12 F => ?_))
        obtain ⟨rfl, sh12, F⟩ := F
        show w_p _ _ 80 [(0, .ref p), (1, .int day), (2, .int am), (3, .int x3)] [] h12 _
        exact w_vr rfl F
      · have F := F.2 c11
        refine w_b 1 47 [(0, .ref p), (1, .int day), (2, .int am), (3, .int x3)] [.ref p] rfl ?_
        refine w_getS (b := pd) rfl rfl rfl kp (rd) ?_
        refine w_b 3 53 [(0, .ref p), (1, .int day), (2, .int am), (3, .int x3)] [.int (x3 - (1 : Int32)), .ref pd] rfl ?_
        obtain ⟨g13, F⟩ := F
        refine w_iald rfl kd (by rw [show h_al h pd = cp from ad]; exact g13) ?_
        refine w_b 1 55 [(0, .ref p), (1, .int day), (2, .int am), (3, .int x3)] [.int day, .int (h_ai h pd (x3 - (1 : Int32)).toNatClampNeg)] rfl ?_
        refine w_ic_ne (tgt := 73) (x := h_ai h pd (x3 - (1 : Int32)).toNatClampNeg) (y := day) rfl (by decide) ⟨fun c14 => ?_, fun c14 => ?_⟩
        · have F := F.1 c14
          refine w_b 4 77 [(0, .ref p), (1, .int day), (2, .int am), (3, .int x3)] [.int am, .int day, .int x3, .ref p] rfl ?_
          refine w_cv (As := [.int x3, .int day, .int am]) (b := p) (rest := []) rfl rfl rfl (Nat.le_of_ble_eq_true rfl) kp (fun z => absurd z (by decide)) (dc := D) (by omega) (F.mono (fun r h15 F => ?_))
          obtain ⟨rfl, sh15, F⟩ := F
          show w_p _ _ 80 [(0, .ref p), (1, .int day), (2, .int am), (3, .int x3)] [] h15 _
          exact w_vr rfl F
        · have F := F.2 (Decidable.not_not.mp c14)
          refine w_b 1 59 [(0, .ref p), (1, .int day), (2, .int am), (3, .int x3)] [.ref p] rfl ?_
          refine w_getS (b := pn) rfl rfl rfl kp (rn) ?_
          refine w_b 4 66 [(0, .ref p), (1, .int day), (2, .int am), (3, .int x3)] [.int (x3 - (1 : Int32)), .ref pn, .int (x3 - (1 : Int32)), .ref pn] rfl ?_
          obtain ⟨g16, F⟩ := F
          refine w_iald rfl kn (by rw [show h_al h pn = cp from an]; exact g16) ?_
          refine w_b 2 69 [(0, .ref p), (1, .int day), (2, .int am), (3, .int x3)] [.int ((h_ai h pn (x3 - (1 : Int32)).toNatClampNeg) + am), .int (x3 - (1 : Int32)), .ref pn] rfl ?_
          obtain ⟨g17, F⟩ := F
          refine w_iast rfl kn hn (by rw [show h_al h pn = cp from an]; exact g17) ?_
          refine w_b 1 80 [(0, .ref p), (1, .int day), (2, .int am), (3, .int x3)] [] rfl ?_
          exact w_vr rfl F
    · have F := F.2 c10
      refine w_b 2 20 [(3, .int (x3 + (-1))), (0, .ref p), (1, .int day), (2, .int am)] [] rfl ?_
      refine w_lo [0, 1, 2, 3] [(0, .ref p), (1, .int day), (2, .int am), (3, .int (x3 + (-1)))] rfl rfl ?_
      exact k20 _ _ _ _ _ F

theorem cp_kd_ne {h : mm_H} {a N b : Nat} (e : b ≠ h_n h) : h_kd (h_cp h a N) b = h_kd h b := va_up_ne _ _ e
theorem cp_kd (h : mm_H) (a N : Nat) : h_kd (h_cp h a N) (h_n h) = 20 := va_up_self _ _ _
theorem cp_al_ne {h : mm_H} {a N b : Nat} (e : b ≠ h_n h) : h_al (h_cp h a N) b = h_al h b := va_up_ne _ _ e
theorem cp_al (h : mm_H) (a N : Nat) : h_al (h_cp h a N) (h_n h) = N := va_up_self _ _ _
theorem cp_ai_ne {h : mm_H} {a N b : Nat} (e : b ≠ h_n h) : h_ai (h_cp h a N) b = h_ai h b := va_up_ne _ _ e
theorem cp_ai (h : mm_H) (a N : Nat) : h_ai (h_cp h a N) (h_n h) = fun i => if i < h_al h a then h_ai h a i else 0 := va_up_self _ _ _
theorem sm_up (f : Nat → Nat) {i v : Nat} {n : Nat} (hi : i < n) : fb_sm (va_up f i v) n + f i = fb_sm f n + v := by
  have e : va_up f i v = fun k => if k = i then v else f k := funext fun k => by
    by_cases z : k = i
    · rw [z, va_up_self, if_pos rfl]
    · rw [va_up_ne _ _ z, if_neg z]
  rw [e]
  exact fb_sm_upd f v hi
theorem ins_lt {f : Nat → Nat} {a v i : Nat} (h : i < a) : ins f a v i = f i := if_pos h
theorem ins_at (f : Nat → Nat) (a v : Nat) : ins f a v a = v := by
  show (if a < a then f a else if a = a then v else f (a - 1)) = v
  rw [if_neg (Nat.lt_irrefl _), if_pos rfl]
theorem ins_gt {f : Nat → Nat} {a v i : Nat} (h : a < i) : ins f a v i = f (i - 1) := by
  show (if i < a then f i else if i = a then v else f (i - 1)) = _
  rw [if_neg (by omega), if_neg (by omega)]
set_option maxHeartbeats 1000000 in
theorem c_ins46 {h : mm_H} {Q : Option Value → mm_H → Prop} {p d n c m at0 day v D : Nat} {hd hn : Nat → Nat} (sh : s_h h) (A : pA h p d n c m hd hn) (hmc : m < c) (ha : at0 ≤ m) (k : ∀ h', ex h h' (p3 p d n) → rm h h' → pA h' p d n c (m + 1) (ins hd at0 day) (ins hn at0 v) → h_oi h' 195 p = h_oi h 195 p → Q none h') : w_p (D + 1) (3, 5, mc_X3_insertHeap) 46 [(0, .ref p), (1, .int (nI at0)), (2, .int (nI day)), (3, .int (nI v))] [] h Q := by
  obtain ⟨K, _, hm, hv⟩ := id A
  obtain ⟨e1, e2, e3⟩ := K.ne
  obtain ⟨⟨k1, k2, k3⟩, ⟨r1, r2⟩, ⟨l1, l2⟩, ⟨b1, b2, b3, b4, b5, b6, b7⟩, c1, c2⟩ := id K
  have loop : ∀ w, at0 + w ≤ m → ∀ h1 : mm_H, ex h h1 (p3 p d n) → rm h h1 → pK h1 p d n c → h_oi h1 194 p = nI m → h_oi h1 195 p = h_oi h 195 p → (∀ i, i ≤ at0 + w → h_ai h1 d i = h_ai h d i ∧ h_ai h1 n i = h_ai h n i) → (∀ i, at0 + w < i → i ≤ m → h_ai h1 d i = nI (hd (i - 1)) ∧ h_ai h1 n i = nI (hn (i - 1))) → w_p (D + 1) (3, 5, mc_X3_insertHeap) 52 [(0, .ref p), (1, .int (nI at0)), (2, .int (nI day)), (3, .int (nI v)), (4, .int (nI (at0 + w)))] [] h1 Q := by
    intro w
    induction w with
    | zero =>
      intro hw h1 f r K1 m1 t1 q1 q2
      obtain ⟨⟨k1, k2, k3⟩, ⟨r1, r2⟩, ⟨l1, l2⟩, _⟩ := id K1
      have v1 : vp_in (nI at0) c := vp_in_nI (by omega) (by omega)
      refine t_X3_insertHeap_52 (s_h.ex sh f (p3_70 K)) p _ _ _ _ (K52 := fun _ _ _ _ _ _ => False) (fun _ _ _ _ _ _ z => z.elim) k1 k2 k3 r1 r2 l1 l2 (by omega) (by omega) (by omega) ⟨fun _ => ⟨v1, v1, ?_⟩, fun z => absurd ?_ z⟩
      · rw [i_cl (by omega), m1, nI_1]
        refine k _ (((f.sA _ _ (Or.inl (Or.inr (Or.inl rfl)))).sA _ _ (Or.inl (Or.inr (Or.inr rfl)))).sI _ (Or.inl (Or.inl rfl))) r ⟨K1, by omega, oi_self _ _ _ _, fun i hi => ?_⟩ ((oi_neG (by decide) p).trans t1)
        show h_ai (h_sA (h_sA h1 d at0 (nI day)) n at0 (nI v)) d i = _ ∧ h_ai (h_sA (h_sA h1 d at0 (nI day)) n at0 (nI v)) n i = _
        rw [ai_ne e3, ai_self, ai_self, ai_ne e3.symm]
        rcases Nat.lt_trichotomy i at0 with y | y | y
        · rw [va_up_ne _ _ (by omega), va_up_ne _ _ (by omega), ins_lt y, ins_lt y, (q1 i (by omega)).1, (q1 i (by omega)).2]
          exact hv i (by omega)
        · subst y
          rw [va_up_self, va_up_self, ins_at, ins_at]
          exact ⟨rfl, rfl⟩
        · rw [va_up_ne _ _ (by omega), va_up_ne _ _ (by omega), ins_gt y, ins_gt y]
          exact q2 i (by omega) (by omega)
      · exact (i_le (by omega) (by omega)).mpr (Nat.le_refl _)
    | succ w ih =>
      intro hw h1 f r K1 m1 t1 q1 q2
      obtain ⟨⟨k1, k2, k3⟩, ⟨r1, r2⟩, ⟨l1, l2⟩, _⟩ := id K1
      have x0 : nI (at0 + (w + 1)) - 1 = nI (at0 + w) := nI_sub1 (by omega)
      have v1 : vp_in (nI (at0 + (w + 1)) - 1) c := by rw [x0]; exact vp_in_nI (by omega) (by omega)
      have v2 : vp_in (nI (at0 + (w + 1))) c := vp_in_nI (by omega) (by omega)
      refine t_X3_insertHeap_52 (s_h.ex sh f (p3_70 K)) p _ _ _ _ (K52 := fun y1 y2 y3 y4 y5 hh => y1 = p ∧ y2 = nI at0 ∧ y3 = nI day ∧ y4 = nI v ∧ y5 = nI (at0 + w) ∧ ex h hh (p3 p d n) ∧ rm h hh ∧ pK hh p d n c ∧ h_oi hh 194 p = nI m ∧ h_oi hh 195 p = h_oi h 195 p ∧ (∀ i, i ≤ at0 + w → h_ai hh d i = h_ai h d i ∧ h_ai hh n i = h_ai h n i) ∧ (∀ i, at0 + w < i → i ≤ m → h_ai hh d i = nI (hd (i - 1)) ∧ h_ai hh n i = nI (hn (i - 1)))) (fun y1 y2 y3 y4 y5 hh q => ?_) k1 k2 k3 r1 r2 l1 l2 (by omega) (by omega) (by omega) ⟨fun z => ?_, fun _ => ⟨v1, v2, v1, v2, rfl, rfl, rfl, rfl, ?_, ?_⟩⟩
      · obtain ⟨rfl, rfl, rfl, rfl, rfl, z1, z2, z3, z4, z5, z6, z7⟩ := q
        exact ih (by omega) hh z1 z2 z3 z4 z5 z6 z7
      · have := (i_le (by omega) (by omega)).mp z
        omega
      · rw [nI_m1 (by omega)]
        rfl
      · rw [x0, i_cl (a := at0 + w) (by omega), i_cl (a := at0 + (w + 1)) (by omega), ai_ne e3.symm]
        refine ⟨(f.sA _ _ (Or.inl (Or.inr (Or.inl rfl)))).sA _ _ (Or.inl (Or.inr (Or.inr rfl))), r, K1, m1, t1, fun i hi => ?_, fun i hi hi2 => ?_⟩
        · rw [ai_ne e3, ai_self, ai_self, ai_ne e3.symm, va_up_ne _ _ (by omega), va_up_ne _ _ (by omega)]
          exact q1 i (by omega)
        · rw [ai_ne e3, ai_self, ai_self, ai_ne e3.symm]
          by_cases z : i = at0 + (w + 1)
          · rw [z, va_up_self, va_up_self, (q1 (at0 + w) (by omega)).1, (q1 (at0 + w) (by omega)).2]
            exact hv (at0 + w) (by omega)
          · rw [va_up_ne _ _ z, va_up_ne _ _ z]
            exact q2 i (by omega) hi2
  refine t_X3_insertHeap_46 sh p _ _ _ (K52 := fun y1 y2 y3 y4 y5 hh => y1 = p ∧ y2 = nI at0 ∧ y3 = nI day ∧ y4 = nI v ∧ y5 = nI (at0 + (m - at0)) ∧ hh = h) (fun y1 y2 y3 y4 y5 hh q => ?_) k1 k2 k3 r1 r2 l1 l2 (by omega) (by omega) (by omega) ⟨rfl, rfl, rfl, rfl, ?_, rfl⟩
  · obtain ⟨rfl, rfl, rfl, rfl, rfl, rfl⟩ := q
    exact loop (m - at0) (by omega) hh (ex.rf _ _) ⟨rfl, rfl⟩ K hm rfl (fun i _ => ⟨rfl, rfl⟩) (fun i hi hi2 => by omega)
  · rw [hm, show at0 + (m - at0) = m by omega]
set_option maxHeartbeats 1000000 in
theorem c_ins {h : mm_H} {Q : Option Value → mm_H → Prop} {p d n c m at0 day v : Nat} {hd hn : Nat → Nat} (sh : s_h h) (A : pA h p d n c m hd hn) (hm1 : m ≤ 2001) (ha : at0 ≤ m) (k : ∀ h' d' n' c', ex h h' (p3 p d n) → pA h' p d' n' c' (m + 1) (ins hd at0 day) (ins hn at0 v) → (d' = d ∨ h_n h ≤ d') → (n' = n ∨ h_n h ≤ n') → gr h c h' c' → h_oi h' 195 p = h_oi h 195 p → Q none h') : w_c 21 28 [.ref p, .int (nI at0), .int (nI day), .int (nI v)] h Q := by
  obtain ⟨K, hmc, hm, hv⟩ := id A
  obtain ⟨e1, e2, e3⟩ := K.ne
  obtain ⟨⟨k1, k2, k3⟩, ⟨r1, r2⟩, ⟨l1, l2⟩, ⟨b1, b2, b3, b4, b5, b6, b7⟩, c1, c2⟩ := id K
  refine t_X3_insertHeap_0 (D := 20) sh p _ _ _ (K46 := fun y1 y2 y3 y4 hh => y1 = p ∧ y2 = nI at0 ∧ y3 = nI day ∧ y4 = nI v ∧ s_h hh ∧ ex h hh (p3 p d n) ∧ ∃ d' n' c', pA hh p d' n' c' m hd hn ∧ m < c' ∧ (d' = d ∨ h_n h ≤ d') ∧ (n' = n ∨ h_n h ≤ n') ∧ gr h c hh c' ∧ h_oi hh 195 p = h_oi h 195 p) (fun y1 y2 y3 y4 hh q => ?_) k1 k2 k3 r1 r2 l1 l2 (by omega) (by omega) (by omega) ⟨fun z => ?_, fun z => ?_⟩
  · obtain ⟨rfl, rfl, rfl, rfl, sh1, f1, d', n', c', A1, hlt, hd1, hn1, g1, t1⟩ := q
    refine c_ins46 sh1 A1 hlt ha (fun h' f2 r2' A2 t2 => k h' d' n' c' (f1.tr f2 (fun _ z => z) (fun a ha2 z => ?_)) A2 hd1 hn1 ?_ (t2.trans t1))
    · rcases z with z | z | z
      · exact Or.inl z
      · rcases hd1 with w | w
        · exact Or.inr (Or.inl (by rw [z, w]))
        · omega
      · rcases hn1 with w | w
        · exact Or.inr (Or.inr (by rw [z, w]))
        · omega
    · obtain ⟨g2, g3, g4⟩ := g1
      exact ⟨by rw [r2'.2]; exact g2, by rw [r2'.1]; exact g3, g4⟩
  · rw [hm] at z
    have := (i_lt (by omega) (by omega)).mp z
    exact ⟨rfl, rfl, rfl, rfl, sh, ex.rf _ _, d, n, c, A, this, Or.inl rfl, Or.inl rfl, ⟨by omega, by omega, Nat.le_refl _⟩, rfl⟩
  · rw [hm] at z ⊢
    have hcm : m = c := by
      have : ¬ m < c := fun y => z ((i_lt (by omega) (by omega)).mpr y)
      omega
    have em : nI m * 2 = nI (m * 2) := pk_mul m 2
    rw [em]
    have ecl : (nI (m * 2)).toNatClampNeg = m * 2 := i_cl (by omega)
    refine w_copy k2 (nI_pos (by omega)) (by rw [ecl]; omega) (by rw [ecl, l1]; omega) ?_
    rw [ecl]
    have f1 : ex h (h_cp h d (m * 2)) (p3 p d n) := (ex.rf _ _).cp _ _
    have ep : p ≠ h_n h := by omega
    have kp1 : h_kd (h_cp h d (m * 2)) p = 4 := (cp_kd_ne (a := d) (N := m * 2) ep).trans k1
    have f2 : ex h (h_sR (h_cp h d (m * 2)) 192 p (some (h_n h))) (p3 p d n) := f1.sR _ (Or.inl (Or.inl rfl))
    refine ⟨some (h_n h), rfl, s_h.ex sh f1 (p3_70 K), kp1, kp1, kp1, ?_⟩
    rw [show h_or (h_sR (h_cp h d (m * 2)) 192 p (some (h_n h))) 193 p = some n from (or_neG (by decide) p).trans r2, show h_oi (h_cp h d (m * 2)) 194 p = nI m from hm, em]
    have kn2 : h_kd (h_sR (h_cp h d (m * 2)) 192 p (some (h_n h))) n = 20 := (cp_kd_ne (a := d) (N := m * 2) (by omega)).trans k3
    have ln2 : h_al (h_sR (h_cp h d (m * 2)) 192 p (some (h_n h))) n = c := (cp_al_ne (a := d) (N := m * 2) (by omega)).trans l2
    refine w_copy kn2 (nI_pos (by omega)) (by rw [ecl]; omega) (by rw [ecl, ln2]; omega) ?_
    rw [ecl]
    have f3 : ex h (h_cp (h_sR (h_cp h d (m * 2)) 192 p (some (h_n h))) n (m * 2)) (p3 p d n) := f2.cp _ _
    have f4 : ex h (h_sR (h_cp (h_sR (h_cp h d (m * 2)) 192 p (some (h_n h))) n (m * 2)) 193 p (some (h_n h + 1))) (p3 p d n) := f3.sR _ (Or.inl (Or.inl rfl))
    have ep3 : p ≠ h_n (h_sR (h_cp h d (m * 2)) 192 p (some (h_n h))) := by show p ≠ h_n h + 1; omega
    have kp3 : h_kd (h_cp (h_sR (h_cp h d (m * 2)) 192 p (some (h_n h))) n (m * 2)) p = 4 := (cp_kd_ne (a := n) (N := m * 2) ep3).trans kp1
    have ed3 : h_n h ≠ h_n (h_sR (h_cp h d (m * 2)) 192 p (some (h_n h))) := by show h_n h ≠ h_n h + 1; omega
    have ro0 : h_or (h_cp (h_sR (h_cp h d (m * 2)) 192 p (some (h_n h))) n (m * 2)) 192 p = some (h_n h) := or_self (h_cp h d (m * 2)) 192 p (some (h_n h))
    have ro1 : h_or (h_sR (h_cp (h_sR (h_cp h d (m * 2)) 192 p (some (h_n h))) n (m * 2)) 193 p (some (h_n h + 1))) 192 p = some (h_n h) := (or_neG (by decide) p).trans ro0
    refine ⟨some (h_n h + 1), rfl, s_h.ex sh f3 (p3_70 K), kp3, rfl, rfl, rfl, rfl, s_h.ex sh f4 (p3_70 K), f4, h_n h, h_n h + 1, m * 2, ⟨⟨⟨kp3, (cp_kd_ne (a := n) (N := m * 2) ed3).trans (cp_kd h d (m * 2)), cp_kd (h_sR (h_cp h d (m * 2)) 192 p (some (h_n h))) n (m * 2)⟩, ⟨ro1, or_self _ _ _ _⟩, ⟨(cp_al_ne (a := n) (N := m * 2) ed3).trans (cp_al h d (m * 2)), cp_al (h_sR (h_cp h d (m * 2)) 192 p (some (h_n h))) n (m * 2)⟩, ⟨b1, by omega, by omega, ?_, ?_, ?_, by omega⟩, by omega, by omega⟩, by omega, hm, fun i hi => ?_⟩, by omega, Or.inr (Nat.le_refl _), Or.inr (Nat.le_succ _), ⟨?_, ?_, by omega⟩, rfl⟩
    · show p < h_n h + 1 + 1; omega
    · show h_n h < h_n h + 1 + 1; omega
    · show h_n h + 1 < h_n h + 1 + 1; omega
    · show h_ai (h_cp (h_sR (h_cp h d (m * 2)) 192 p (some (h_n h))) n (m * 2)) (h_n h) i = _ ∧ h_ai (h_cp (h_sR (h_cp h d (m * 2)) 192 p (some (h_n h))) n (m * 2)) (h_n h + 1) i = _
      rw [cp_ai_ne ed3, show h_ai (h_sR (h_cp h d (m * 2)) 192 p (some (h_n h))) (h_n h) = fun i => if i < h_al h d then h_ai h d i else 0 from cp_ai h d (m * 2), show h_ai (h_cp (h_sR (h_cp h d (m * 2)) 192 p (some (h_n h))) n (m * 2)) (h_n h + 1) = fun i => if i < h_al (h_sR (h_cp h d (m * 2)) 192 p (some (h_n h))) n then h_ai (h_sR (h_cp h d (m * 2)) 192 p (some (h_n h))) n i else 0 from cp_ai _ n (m * 2)]
      show (if i < h_al h d then h_ai h d i else 0) = _ ∧ (if i < h_al (h_sR (h_cp h d (m * 2)) 192 p (some (h_n h))) n then h_ai (h_sR (h_cp h d (m * 2)) 192 p (some (h_n h))) n i else 0) = _
      rw [if_pos (by omega), if_pos (by omega), show h_ai (h_sR (h_cp h d (m * 2)) 192 p (some (h_n h))) n = h_ai h n from cp_ai_ne (a := d) (N := m * 2) (by omega)]
      exact hv i hi
    · show h_s h + m * 2 + m * 2 = _
      omega
    · show h_n h + 1 + 1 + c ≤ _
      omega
