set_option maxRecDepth 20000 in
theorem t_X3_oldestDay_0 {h : mm_H} {Q : Option Value → mm_H → Prop} (sh : s_h h) (p : Nat) {pd pn cp : Nat} (kp : h_kd h p = 4) (kd : h_kd h pd = 20) (kn : h_kd h pn = 20) (rd : h_or h 192 p = some pd) (rn : h_or h 193 p = some pn) (ad : h_al h pd = cp) (an : h_al h pn = cp) (hp : 16 ≤ p) (hd : 16 ≤ pd) (hn : 16 ≤ pn)
    (F : (((h_oi h 194 p) ≤ 0 → Q (some (.int (-4))) h) ∧ (¬ ((h_oi h 194 p) ≤ 0) → (vp_in 0 cp ∧ Q (some (.int (h_ai h pd (0 : Int32).toNatClampNeg))) h)))) :
    w_c 0 25 [.ref p] h Q := by
  refine w_ci (M := (3, 1, mc_X3_oldestDay)) rfl (Nat.le_of_ble_eq_true rfl) ?_
  show w_p _ _ 0 [(0, .ref p)] [] h Q
  refine w_b 1 1 [(0, .ref p)] [.ref p] rfl ?_
  refine w_get (g := 194) rfl rfl rfl kp ?_
  refine w_if_le (tgt := 16) (x := h_oi h 194 p) rfl (by decide) ⟨fun c1 => ?_, fun c1 => ?_⟩
  · have F := F.1 c1
    refine w_b 1 18 [(0, .ref p)] [.int (-4)] rfl ?_
    exact w_ir rfl F
  · have F := F.2 c1
    refine w_b 1 8 [(0, .ref p)] [.ref p] rfl ?_
    refine w_getS (b := pd) rfl rfl rfl kp (rd) ?_
    refine w_b 1 12 [(0, .ref p)] [.int 0, .ref pd] rfl ?_
    obtain ⟨g2, F⟩ := F
    refine w_iald rfl kd (by rw [show h_al h pd = cp from ad]; exact g2) ?_
    refine w_b 1 18 [(0, .ref p)] [.int (h_ai h pd (0 : Int32).toNatClampNeg)] rfl ?_
    exact w_ir rfl F

set_option maxRecDepth 20000 in
theorem t_X3_notesOfOldestDay_0 {h : mm_H} {Q : Option Value → mm_H → Prop} (sh : s_h h) (p : Nat) {pd pn cp : Nat} (kp : h_kd h p = 4) (kd : h_kd h pd = 20) (kn : h_kd h pn = 20) (rd : h_or h 192 p = some pd) (rn : h_or h 193 p = some pn) (ad : h_al h pd = cp) (an : h_al h pn = cp) (hp : 16 ≤ p) (hd : 16 ≤ pd) (hn : 16 ≤ pn)
    (F : (((h_oi h 194 p) ≤ 0 → Q (some (.int 0)) h) ∧ (¬ ((h_oi h 194 p) ≤ 0) → (vp_in 0 cp ∧ Q (some (.int (h_ai h pn (0 : Int32).toNatClampNeg))) h)))) :
    w_c 0 26 [.ref p] h Q := by
  refine w_ci (M := (3, 1, mc_X3_notesOfOldestDay)) rfl (Nat.le_of_ble_eq_true rfl) ?_
  show w_p _ _ 0 [(0, .ref p)] [] h Q
  refine w_b 1 1 [(0, .ref p)] [.ref p] rfl ?_
  refine w_get (g := 194) rfl rfl rfl kp ?_
  refine w_if_le (tgt := 16) (x := h_oi h 194 p) rfl (by decide) ⟨fun c1 => ?_, fun c1 => ?_⟩
  · have F := F.1 c1
    refine w_b 1 17 [(0, .ref p)] [.int 0] rfl ?_
    exact w_ir rfl F
  · have F := F.2 c1
    refine w_b 1 8 [(0, .ref p)] [.ref p] rfl ?_
    refine w_getS (b := pn) rfl rfl rfl kp (rn) ?_
    refine w_b 1 12 [(0, .ref p)] [.int 0, .ref pn] rfl ?_
    obtain ⟨g2, F⟩ := F
    refine w_iald rfl kn (by rw [show h_al h pn = cp from an]; exact g2) ?_
    refine w_b 1 17 [(0, .ref p)] [.int (h_ai h pn (0 : Int32).toNatClampNeg)] rfl ?_
    exact w_ir rfl F

set_option maxRecDepth 20000 in
theorem t_X3_removeOldestHeaps_0 {h : mm_H} {Q : Option Value → mm_H → Prop} (sh : s_h h) (p : Nat) (em : Int32) {K2 : Nat → Int32 → Int32 → mm_H → Prop} (k2 : ∀ (p : Nat) (em : Int32) (x2 : Int32) (h : mm_H), K2 p em x2 h → w_p 0 (3, 3, mc_X3_removeOldestHeaps) 2 [(0, .ref p), (1, .int em), (2, .int x2)] [] h Q) {pd pn cp : Nat} (kp : h_kd h p = 4) (kd : h_kd h pd = 20) (kn : h_kd h pn = 20) (rd : h_or h 192 p = some pd) (rn : h_or h 193 p = some pn) (ad : h_al h pd = cp) (an : h_al h pn = cp) (hp : 16 ≤ p) (hd : 16 ≤ pd) (hn : 16 ≤ pn)
    (F : K2 p em em h) :
    w_c 0 32 [.ref p, .int em] h Q := by
  refine w_ci (M := (3, 3, mc_X3_removeOldestHeaps)) rfl (Nat.le_of_ble_eq_true rfl) ?_
  show w_p _ _ 0 [(0, .ref p), (1, .int em)] [] h Q
  refine w_b 2 2 [(2, .int em), (0, .ref p), (1, .int em)] [] rfl ?_
  refine w_lo [0, 1, 2] [(0, .ref p), (1, .int em), (2, .int em)] rfl rfl ?_
  exact k2 _ _ _ _ F

set_option maxRecDepth 20000 in
theorem t_X3_removeOldestHeaps_2 {h : mm_H} {Q : Option Value → mm_H → Prop} (sh : s_h h) (p : Nat) (em : Int32) (x2 : Int32) {K2 : Nat → Int32 → Int32 → mm_H → Prop} (k2 : ∀ (p : Nat) (em : Int32) (x2 : Int32) (h : mm_H), K2 p em x2 h → w_p 0 (3, 3, mc_X3_removeOldestHeaps) 2 [(0, .ref p), (1, .int em), (2, .int x2)] [] h Q) {pd pn cp : Nat} (kp : h_kd h p = 4) (kd : h_kd h pd = 20) (kn : h_kd h pn = 20) (rd : h_or h 192 p = some pd) (rn : h_or h 193 p = some pn) (ad : h_al h pd = cp) (an : h_al h pn = cp) (hp : 16 ≤ p) (hd : 16 ≤ pd) (hn : 16 ≤ pn)
    (F : (((h_oi h 194 p) ≤ x2 → Q none (h_sI h 194 p ((h_oi h 194 p) - em))) ∧ (¬ ((h_oi h 194 p) ≤ x2) → (vp_in x2 cp ∧ (vp_in (x2 - em) cp ∧ (vp_in x2 cp ∧ (vp_in (x2 - em) cp ∧ K2 p em (x2 + 1) (h_sA (h_sA h pd ((x2 - em).toNatClampNeg) (h_ai h pd x2.toNatClampNeg)) pn ((x2 - em).toNatClampNeg) (h_ai (h_sA h pd ((x2 - em).toNatClampNeg) (h_ai h pd x2.toNatClampNeg)) pn x2.toNatClampNeg))))))))) :
    w_p 0 (3, 3, mc_X3_removeOldestHeaps) 2 [(0, .ref p), (1, .int em), (2, .int x2)] [] h Q := by
  refine w_b 2 4 [(0, .ref p), (1, .int em), (2, .int x2)] [.ref p, .int x2] rfl ?_
  refine w_get (g := 194) rfl rfl rfl kp ?_
  refine w_ic_ge (tgt := 44) (x := x2) (y := h_oi h 194 p) rfl (by decide) ⟨fun c1 => ?_, fun c1 => ?_⟩
  · have F := F.1 c1
    refine w_b 2 46 [(0, .ref p), (1, .int em), (2, .int x2)] [.ref p, .ref p] rfl ?_
    refine w_get (g := 194) rfl rfl rfl kp ?_
    refine w_b 2 51 [(0, .ref p), (1, .int em), (2, .int x2)] [.int ((h_oi h 194 p) - em), .ref p] rfl ?_
    refine w_put (g := 194) (x := (h_oi h 194 p) - em) rfl rfl rfl kp hp ?_
    exact w_vr rfl F
  · have F := F.2 c1
    refine w_b 1 11 [(0, .ref p), (1, .int em), (2, .int x2)] [.ref p] rfl ?_
    refine w_getS (b := pd) rfl rfl rfl kp (rd) ?_
    refine w_b 4 18 [(0, .ref p), (1, .int em), (2, .int x2)] [.ref p, .int (x2 - em), .ref pd] rfl ?_
    refine w_getS (b := pd) rfl rfl rfl kp (rd) ?_
    refine w_b 1 22 [(0, .ref p), (1, .int em), (2, .int x2)] [.int x2, .ref pd, .int (x2 - em), .ref pd] rfl ?_
    obtain ⟨g2, F⟩ := F
    refine w_iald rfl kd (by rw [show h_al h pd = cp from ad]; exact g2) ?_
    obtain ⟨g3, F⟩ := F
    refine w_iast rfl kd hd (by rw [show h_al h pd = cp from ad]; exact g3) ?_
    refine w_b 1 25 [(0, .ref p), (1, .int em), (2, .int x2)] [.ref p] rfl ?_
    refine w_getS (b := pn) rfl rfl rfl kp (rn) ?_
    refine w_b 4 32 [(0, .ref p), (1, .int em), (2, .int x2)] [.ref p, .int (x2 - em), .ref pn] rfl ?_
    refine w_getS (b := pn) rfl rfl rfl kp (rn) ?_
    refine w_b 1 36 [(0, .ref p), (1, .int em), (2, .int x2)] [.int x2, .ref pn, .int (x2 - em), .ref pn] rfl ?_
    obtain ⟨g4, F⟩ := F
    refine w_iald rfl kn (by rw [show h_al (h_sA h pd ((x2 - em).toNatClampNeg) (h_ai h pd x2.toNatClampNeg)) pn = cp from an]; exact g4) ?_
    obtain ⟨g5, F⟩ := F
    refine w_iast rfl kn hn (by rw [show h_al (h_sA h pd ((x2 - em).toNatClampNeg) (h_ai h pd x2.toNatClampNeg)) pn = cp from an]; exact g5) ?_
    refine w_b 2 2 [(2, .int (x2 + 1)), (0, .ref p), (1, .int em)] [] rfl ?_
    refine w_lo [0, 1, 2] [(0, .ref p), (1, .int em), (2, .int (x2 + 1))] rfl rfl ?_
    exact k2 _ _ _ _ F

set_option maxRecDepth 20000 in
theorem t_X3_dropBefore_0 {D : Nat} {h : mm_H} {Q : Option Value → mm_H → Prop} (sh : s_h h) (p : Nat) (day : Int32) {K7 : Nat → Int32 → Int32 → Int32 → Int32 → mm_H → Prop} (k7 : ∀ (p : Nat) (day : Int32) (x2 : Int32) (x3 : Int32) (x4 : Int32) (h : mm_H), K7 p day x2 x3 x4 h → w_p (D + 1) (3, 5, mc_X3_dropBefore) 7 [(0, .ref p), (1, .int day), (2, .int x2), (3, .int x3), (4, .int x4)] [] h Q) {pd pn cp : Nat} (kp : h_kd h p = 4) (kd : h_kd h pd = 20) (kn : h_kd h pn = 20) (rd : h_or h 192 p = some pd) (rn : h_or h 193 p = some pn) (ad : h_al h pd = cp) (an : h_al h pn = cp) (hp : 16 ≤ p) (hd : 16 ≤ pd) (hn : 16 ≤ pn)
    (F : K7 p day 0 0 0 h) :
    w_c (D + 1) 31 [.ref p, .int day] h Q := by
  refine w_ci (M := (3, 5, mc_X3_dropBefore)) rfl (Nat.le_of_ble_eq_true rfl) ?_
  show w_p _ _ 0 [(0, .ref p), (1, .int day)] [] h Q
  refine w_b 6 7 [(4, .int 0), (3, .int 0), (2, .int 0), (0, .ref p), (1, .int day)] [] rfl ?_
  refine w_lo [0, 1, 2, 3, 4] [(0, .ref p), (1, .int day), (2, .int 0), (3, .int 0), (4, .int 0)] rfl rfl ?_
  exact k7 _ _ _ _ _ _ F

set_option maxRecDepth 20000 in
theorem t_X3_dropBefore_7 {D : Nat} {h : mm_H} {Q : Option Value → mm_H → Prop} (sh : s_h h) (p : Nat) (day : Int32) (x2 : Int32) (x3 : Int32) (x4 : Int32) {K7 : Nat → Int32 → Int32 → Int32 → Int32 → mm_H → Prop} (k7 : ∀ (p : Nat) (day : Int32) (x2 : Int32) (x3 : Int32) (x4 : Int32) (h : mm_H), K7 p day x2 x3 x4 h → w_p (D + 1) (3, 5, mc_X3_dropBefore) 7 [(0, .ref p), (1, .int day), (2, .int x2), (3, .int x3), (4, .int x4)] [] h Q) {pd pn cp : Nat} (kp : h_kd h p = 4) (kd : h_kd h pd = 20) (kn : h_kd h pn = 20) (rd : h_or h 192 p = some pd) (rn : h_or h 193 p = some pn) (ad : h_al h pd = cp) (an : h_al h pn = cp) (hp : 16 ≤ p) (hd : 16 ≤ pd) (hn : 16 ≤ pn)
    (F : (((h_oi h 194 p) ≤ x4 → w_c D 32 [.ref p, .int x3] (h_sI h 195 p ((h_oi h 195 p) - x2)) (fun r h2 => r = none ∧ s_h h2 ∧ Q (some (.int x2)) h2)) ∧ (¬ ((h_oi h 194 p) ≤ x4) → (vp_in x4 cp ∧ ((day ≤ (h_ai h pd x4.toNatClampNeg) → w_c D 32 [.ref p, .int x3] (h_sI h 195 p ((h_oi h 195 p) - x2)) (fun r h5 => r = none ∧ s_h h5 ∧ Q (some (.int x2)) h5)) ∧ (¬ (day ≤ (h_ai h pd x4.toNatClampNeg)) → (vp_in x4 cp ∧ K7 p day (x2 + (h_ai h pn x4.toNatClampNeg)) (x3 + 1) (x4 + 1) h))))))) :
    w_p (D + 1) (3, 5, mc_X3_dropBefore) 7 [(0, .ref p), (1, .int day), (2, .int x2), (3, .int x3), (4, .int x4)] [] h Q := by
  refine w_b 2 10 [(0, .ref p), (1, .int day), (2, .int x2), (3, .int x3), (4, .int x4)] [.ref p, .int x4] rfl ?_
  refine w_get (g := 194) rfl rfl rfl kp ?_
  refine w_ic_ge (tgt := 46) (x := x4) (y := h_oi h 194 p) rfl (by decide) ⟨fun c1 => ?_, fun c1 => ?_⟩
  · have F := F.1 c1
    refine w_b 2 48 [(0, .ref p), (1, .int day), (2, .int x2), (3, .int x3), (4, .int x4)] [.ref p, .ref p] rfl ?_
    refine w_get (g := 195) rfl rfl rfl kp ?_
    refine w_b 2 53 [(0, .ref p), (1, .int day), (2, .int x2), (3, .int x3), (4, .int x4)] [.int ((h_oi h 195 p) - x2), .ref p] rfl ?_
    refine w_put (g := 195) (x := (h_oi h 195 p) - x2) rfl rfl rfl kp hp ?_
    refine w_b 2 58 [(0, .ref p), (1, .int day), (2, .int x2), (3, .int x3), (4, .int x4)] [.int x3, .ref p] rfl ?_
    refine w_cv (As := [.int x3]) (b := p) (rest := []) rfl rfl rfl (Nat.le_of_ble_eq_true rfl) kp (fun z => absurd z (by decide)) (dc := D) (by omega) (F.mono (fun r h2 F => ?_))
    obtain ⟨rfl, sh2, F⟩ := F
    show w_p _ _ 61 [(0, .ref p), (1, .int day), (2, .int x2), (3, .int x3), (4, .int x4)] [] h2 _
    refine w_b 1 62 [(0, .ref p), (1, .int day), (2, .int x2), (3, .int x3), (4, .int x4)] [.int x2] rfl ?_
    exact w_ir rfl F
  · have F := F.2 c1
    refine w_b 1 17 [(0, .ref p), (1, .int day), (2, .int x2), (3, .int x3), (4, .int x4)] [.ref p] rfl ?_
    refine w_getS (b := pd) rfl rfl rfl kp (rd) ?_
    refine w_b 1 22 [(0, .ref p), (1, .int day), (2, .int x2), (3, .int x3), (4, .int x4)] [.int x4, .ref pd] rfl ?_
    obtain ⟨g3, F⟩ := F
    refine w_iald rfl kd (by rw [show h_al h pd = cp from ad]; exact g3) ?_
    refine w_b 1 24 [(0, .ref p), (1, .int day), (2, .int x2), (3, .int x3), (4, .int x4)] [.int day, .int (h_ai h pd x4.toNatClampNeg)] rfl ?_
    refine w_ic_ge (tgt := 46) (x := h_ai h pd x4.toNatClampNeg) (y := day) rfl (by decide) ⟨fun c4 => ?_, fun c4 => ?_⟩
    · have F := F.1 c4
      refine w_b 2 48 [(0, .ref p), (1, .int day), (2, .int x2), (3, .int x3), (4, .int x4)] [.ref p, .ref p] rfl ?_
      refine w_get (g := 195) rfl rfl rfl kp ?_
      refine w_b 2 53 [(0, .ref p), (1, .int day), (2, .int x2), (3, .int x3), (4, .int x4)] [.int ((h_oi h 195 p) - x2), .ref p] rfl ?_
      refine w_put (g := 195) (x := (h_oi h 195 p) - x2) rfl rfl rfl kp hp ?_
      refine w_b 2 58 [(0, .ref p), (1, .int day), (2, .int x2), (3, .int x3), (4, .int x4)] [.int x3, .ref p] rfl ?_
      refine w_cv (As := [.int x3]) (b := p) (rest := []) rfl rfl rfl (Nat.le_of_ble_eq_true rfl) kp (fun z => absurd z (by decide)) (dc := D) (by omega) (F.mono (fun r h5 F => ?_))
      obtain ⟨rfl, sh5, F⟩ := F
      show w_p _ _ 61 [(0, .ref p), (1, .int day), (2, .int x2), (3, .int x3), (4, .int x4)] [] h5 _
      refine w_b 1 62 [(0, .ref p), (1, .int day), (2, .int x2), (3, .int x3), (4, .int x4)] [.int x2] rfl ?_
      exact w_ir rfl F
    · have F := F.2 c4
      refine w_b 2 29 [(0, .ref p), (1, .int day), (2, .int x2), (3, .int x3), (4, .int x4)] [.ref p, .int x2] rfl ?_
      refine w_getS (b := pn) rfl rfl rfl kp (rn) ?_
      refine w_b 1 34 [(0, .ref p), (1, .int day), (2, .int x2), (3, .int x3), (4, .int x4)] [.int x4, .ref pn, .int x2] rfl ?_
      obtain ⟨g6, F⟩ := F
      refine w_iald rfl kn (by rw [show h_al h pn = cp from an]; exact g6) ?_
      refine w_b 5 7 [(4, .int (x4 + 1)), (3, .int (x3 + 1)), (2, .int (x2 + (h_ai h pn x4.toNatClampNeg))), (0, .ref p), (1, .int day)] [] rfl ?_
      refine w_lo [0, 1, 2, 3, 4] [(0, .ref p), (1, .int day), (2, .int (x2 + (h_ai h pn x4.toNatClampNeg))), (3, .int (x3 + 1)), (4, .int (x4 + 1))] rfl rfl ?_
      exact k7 _ _ _ _ _ _ F

set_option maxRecDepth 20000 in
theorem t_X3_dropNewest_0 {D : Nat} {h : mm_H} {Q : Option Value → mm_H → Prop} (sh : s_h h) (p : Nat) (am : Int32) {K9 : Nat → Int32 → Int32 → Int32 → mm_H → Prop} (k9 : ∀ (p : Nat) (am : Int32) (x2 : Int32) (x3 : Int32) (h : mm_H), K9 p am x2 x3 h → w_p (D + 1) (3, 5, mc_X3_dropNewest) 9 [(0, .ref p), (1, .int am), (2, .int x2), (3, .int x3)] [] h Q) {pd pn cp : Nat} (kp : h_kd h p = 4) (kd : h_kd h pd = 20) (kn : h_kd h pn = 20) (rd : h_or h 192 p = some pd) (rn : h_or h 193 p = some pn) (ad : h_al h pd = cp) (an : h_al h pn = cp) (hp : 16 ≤ p) (hd : 16 ≤ pd) (hn : 16 ≤ pn)
    (F : K9 p am am ((h_oi h 194 p) - (1 : Int32)) h) :
    w_c (D + 1) 30 [.ref p, .int am] h Q := by
  refine w_ci (M := (3, 5, mc_X3_dropNewest)) rfl (Nat.le_of_ble_eq_true rfl) ?_
  show w_p _ _ 0 [(0, .ref p), (1, .int am)] [] h Q
  refine w_b 3 3 [(2, .int am), (0, .ref p), (1, .int am)] [.ref p] rfl ?_
  refine w_get (g := 194) rfl rfl rfl kp ?_
  refine w_b 3 9 [(3, .int ((h_oi h 194 p) - (1 : Int32))), (2, .int am), (0, .ref p), (1, .int am)] [] rfl ?_
  refine w_lo [0, 1, 2, 3] [(0, .ref p), (1, .int am), (2, .int am), (3, .int ((h_oi h 194 p) - (1 : Int32)))] rfl rfl ?_
  exact k9 _ _ _ _ _ F

set_option maxRecDepth 20000 in
theorem t_X3_dropNewest_9 {D : Nat} {h : mm_H} {Q : Option Value → mm_H → Prop} (sh : s_h h) (p : Nat) (am : Int32) (x2 : Int32) (x3 : Int32) {K9 : Nat → Int32 → Int32 → Int32 → mm_H → Prop} (k9 : ∀ (p : Nat) (am : Int32) (x2 : Int32) (x3 : Int32) (h : mm_H), K9 p am x2 x3 h → w_p (D + 1) (3, 5, mc_X3_dropNewest) 9 [(0, .ref p), (1, .int am), (2, .int x2), (3, .int x3)] [] h Q) {pd pn cp : Nat} (kp : h_kd h p = 4) (kd : h_kd h pd = 20) (kn : h_kd h pn = 20) (rd : h_or h 192 p = some pd) (rn : h_or h 193 p = some pn) (ad : h_al h pd = cp) (an : h_al h pn = cp) (hp : 16 ≤ p) (hd : 16 ≤ pd) (hn : 16 ≤ pn)
    (F : ((x3 < 0 → Q none h) ∧ (¬ (x3 < 0) → ((x2 ≤ 0 → Q none h) ∧ (¬ (x2 ≤ 0) → (vp_in x3 cp ∧ (vp_in x3 cp ∧ (vp_in x3 cp ∧ (vp_in x3 cp ∧ ((¬ (h_ai (h_sA h pn x3.toNatClampNeg ((h_ai h pn x3.toNatClampNeg) - (if (h_ai h pn x3.toNatClampNeg) < x2 then (h_ai h pn x3.toNatClampNeg) else x2))) pn x3.toNatClampNeg) = 0 → K9 p am (x2 - (if (h_ai h pn x3.toNatClampNeg) < x2 then (h_ai h pn x3.toNatClampNeg) else x2)) (x3 + (-1)) (h_sI (h_sA h pn x3.toNatClampNeg ((h_ai h pn x3.toNatClampNeg) - (if (h_ai h pn x3.toNatClampNeg) < x2 then (h_ai h pn x3.toNatClampNeg) else x2))) 195 p ((h_oi h 195 p) - (if (h_ai h pn x3.toNatClampNeg) < x2 then (h_ai h pn x3.toNatClampNeg) else x2)))) ∧ ((h_ai (h_sA h pn x3.toNatClampNeg ((h_ai h pn x3.toNatClampNeg) - (if (h_ai h pn x3.toNatClampNeg) < x2 then (h_ai h pn x3.toNatClampNeg) else x2))) pn x3.toNatClampNeg) = 0 → K9 p am (x2 - (if (h_ai h pn x3.toNatClampNeg) < x2 then (h_ai h pn x3.toNatClampNeg) else x2)) (x3 + (-1)) (h_sI (h_sI (h_sA h pn x3.toNatClampNeg ((h_ai h pn x3.toNatClampNeg) - (if (h_ai h pn x3.toNatClampNeg) < x2 then (h_ai h pn x3.toNatClampNeg) else x2))) 195 p ((h_oi h 195 p) - (if (h_ai h pn x3.toNatClampNeg) < x2 then (h_ai h pn x3.toNatClampNeg) else x2))) 194 p x3)))))))))))) :
    w_p (D + 1) (3, 5, mc_X3_dropNewest) 9 [(0, .ref p), (1, .int am), (2, .int x2), (3, .int x3)] [] h Q := by
  refine w_b 1 10 [(0, .ref p), (1, .int am), (2, .int x2), (3, .int x3)] [.int x3] rfl ?_
  refine w_if_lt (tgt := 76) (x := x3) rfl (by decide) ⟨fun c1 => ?_, fun c1 => ?_⟩
  · have F := F.1 c1
    exact w_vr rfl F
  · have F := F.2 c1
    refine w_b 1 14 [(0, .ref p), (1, .int am), (2, .int x2), (3, .int x3)] [.int x2] rfl ?_
    refine w_if_le (tgt := 76) (x := x2) rfl (by decide) ⟨fun c2 => ?_, fun c2 => ?_⟩
    · have F := F.1 c2
      exact w_vr rfl F
    · have F := F.2 c2
      refine w_b 2 19 [(0, .ref p), (1, .int am), (2, .int x2), (3, .int x3)] [.ref p, .int x2] rfl ?_
      refine w_getS (b := pn) rfl rfl rfl kp (rn) ?_
      refine w_b 1 23 [(0, .ref p), (1, .int am), (2, .int x2), (3, .int x3)] [.int x3, .ref pn, .int x2] rfl ?_
      obtain ⟨g3, F⟩ := F
      refine w_iald rfl kn (by rw [show h_al h pn = cp from an]; exact g3) ?_
      refine w_min (x := x2) (y := h_ai h pn x3.toNatClampNeg) rfl (Nat.le_of_ble_eq_true rfl) ?_
      refine w_b 2 30 [(4, .int (if (h_ai h pn x3.toNatClampNeg) < x2 then (h_ai h pn x3.toNatClampNeg) else x2)), (0, .ref p), (1, .int am), (2, .int x2), (3, .int x3)] [.ref p] rfl ?_
      refine w_getS (b := pn) rfl rfl rfl kp (rn) ?_
      refine w_b 2 35 [(4, .int (if (h_ai h pn x3.toNatClampNeg) < x2 then (h_ai h pn x3.toNatClampNeg) else x2)), (0, .ref p), (1, .int am), (2, .int x2), (3, .int x3)] [.int x3, .ref pn, .int x3, .ref pn] rfl ?_
      obtain ⟨g4, F⟩ := F
      refine w_iald rfl kn (by rw [show h_al h pn = cp from an]; exact g4) ?_
      refine w_b 2 39 [(4, .int (if (h_ai h pn x3.toNatClampNeg) < x2 then (h_ai h pn x3.toNatClampNeg) else x2)), (0, .ref p), (1, .int am), (2, .int x2), (3, .int x3)] [.int ((h_ai h pn x3.toNatClampNeg) - (if (h_ai h pn x3.toNatClampNeg) < x2 then (h_ai h pn x3.toNatClampNeg) else x2)), .int x3, .ref pn] rfl ?_
      obtain ⟨g5, F⟩ := F
      refine w_iast rfl kn hn (by rw [show h_al h pn = cp from an]; exact g5) ?_
      refine w_b 6 47 [(2, .int (x2 - (if (h_ai h pn x3.toNatClampNeg) < x2 then (h_ai h pn x3.toNatClampNeg) else x2))), (4, .int (if (h_ai h pn x3.toNatClampNeg) < x2 then (h_ai h pn x3.toNatClampNeg) else x2)), (0, .ref p), (1, .int am), (3, .int x3)] [.ref p, .ref p] rfl ?_
      refine w_get (g := 195) rfl rfl rfl kp ?_
      refine w_b 2 53 [(2, .int (x2 - (if (h_ai h pn x3.toNatClampNeg) < x2 then (h_ai h pn x3.toNatClampNeg) else x2))), (4, .int (if (h_ai h pn x3.toNatClampNeg) < x2 then (h_ai h pn x3.toNatClampNeg) else x2)), (0, .ref p), (1, .int am), (3, .int x3)] [.int ((h_oi h 195 p) - (if (h_ai h pn x3.toNatClampNeg) < x2 then (h_ai h pn x3.toNatClampNeg) else x2)), .ref p] rfl ?_
      refine w_put (g := 195) (x := (h_oi h 195 p) - (if (h_ai h pn x3.toNatClampNeg) < x2 then (h_ai h pn x3.toNatClampNeg) else x2)) rfl rfl rfl kp hp ?_
      refine w_b 1 57 [(2, .int (x2 - (if (h_ai h pn x3.toNatClampNeg) < x2 then (h_ai h pn x3.toNatClampNeg) else x2))), (4, .int (if (h_ai h pn x3.toNatClampNeg) < x2 then (h_ai h pn x3.toNatClampNeg) else x2)), (0, .ref p), (1, .int am), (3, .int x3)] [.ref p] rfl ?_
      refine w_getS (b := pn) rfl rfl rfl kp (rn) ?_
      refine w_b 1 61 [(2, .int (x2 - (if (h_ai h pn x3.toNatClampNeg) < x2 then (h_ai h pn x3.toNatClampNeg) else x2))), (4, .int (if (h_ai h pn x3.toNatClampNeg) < x2 then (h_ai h pn x3.toNatClampNeg) else x2)), (0, .ref p), (1, .int am), (3, .int x3)] [.int x3, .ref pn] rfl ?_
      obtain ⟨g6, F⟩ := F
      refine w_iald rfl kn (by rw [show h_al (h_sI (h_sA h pn x3.toNatClampNeg ((h_ai h pn x3.toNatClampNeg) - (if (h_ai h pn x3.toNatClampNeg) < x2 then (h_ai h pn x3.toNatClampNeg) else x2))) 195 p ((h_oi h 195 p) - (if (h_ai h pn x3.toNatClampNeg) < x2 then (h_ai h pn x3.toNatClampNeg) else x2))) pn = cp from an]; exact g6) ?_
      refine w_if_ne (tgt := 70) (x := h_ai (h_sA h pn x3.toNatClampNeg ((h_ai h pn x3.toNatClampNeg) - (if (h_ai h pn x3.toNatClampNeg) < x2 then (h_ai h pn x3.toNatClampNeg) else x2))) pn x3.toNatClampNeg) rfl (by decide) ⟨fun c7 => ?_, fun c7 => ?_⟩
      · have F := F.1 c7
        refine w_b 2 9 [(3, .int (x3 + (-1))), (2, .int (x2 - (if (h_ai h pn x3.toNatClampNeg) < x2 then (h_ai h pn x3.toNatClampNeg) else x2))), (4, .int (if (h_ai h pn x3.toNatClampNeg) < x2 then (h_ai h pn x3.toNatClampNeg) else x2)), (0, .ref p), (1, .int am)] [] rfl ?_
        refine w_lo [0, 1, 2, 3] [(0, .ref p), (1, .int am), (2, .int (x2 - (if (h_ai h pn x3.toNatClampNeg) < x2 then (h_ai h pn x3.toNatClampNeg) else x2))), (3, .int (x3 + (-1)))] rfl rfl ?_
        exact k9 _ _ _ _ _ F
      · have F := F.2 (Decidable.not_not.mp c7)
        refine w_b 2 67 [(2, .int (x2 - (if (h_ai h pn x3.toNatClampNeg) < x2 then (h_ai h pn x3.toNatClampNeg) else x2))), (4, .int (if (h_ai h pn x3.toNatClampNeg) < x2 then (h_ai h pn x3.toNatClampNeg) else x2)), (0, .ref p), (1, .int am), (3, .int x3)] [.int x3, .ref p] rfl ?_
        refine w_put (g := 194) (x := x3) rfl rfl rfl kp hp ?_
        refine w_b 2 9 [(3, .int (x3 + (-1))), (2, .int (x2 - (if (h_ai h pn x3.toNatClampNeg) < x2 then (h_ai h pn x3.toNatClampNeg) else x2))), (4, .int (if (h_ai h pn x3.toNatClampNeg) < x2 then (h_ai h pn x3.toNatClampNeg) else x2)), (0, .ref p), (1, .int am)] [] rfl ?_
        refine w_lo [0, 1, 2, 3] [(0, .ref p), (1, .int am), (2, .int (x2 - (if (h_ai h pn x3.toNatClampNeg) < x2 then (h_ai h pn x3.toNatClampNeg) else x2))), (3, .int (x3 + (-1)))] rfl rfl ?_
        exact k9 _ _ _ _ _ F

/-! THE PURSE'S METHODS -/
theorem nI_sub {a b : Nat} (h : b ≤ a) : nI a - nI b = nI (a - b) := by
  have e : nI (a - b) + nI b = nI a := by rw [nI_add, Nat.sub_add_cancel h]
  rw [← e, Int32.add_sub_cancel]
theorem s_h.ex {h h' : mm_H} {P : Nat → Prop} (s : s_h h) (f : ex h h' P) (hP : ∀ a, P a → 70 ≤ a) : s_h h' := f.sh s (fun a ha y => by have := hP a y; omega)
def p3 (p d n : Nat) : Nat → Prop := fun a => a = p ∨ a = d ∨ a = n
theorem p3_70 {h : mm_H} {p d n c : Nat} (K : pK h p d n c) : ∀ a, p3 p d n a → 70 ≤ a := by
  obtain ⟨_, _, _, ⟨b1, b2, b3, _⟩, _⟩ := K
  rintro a (rfl | rfl | rfl) <;> assumption
set_option maxHeartbeats 1000000 in
theorem c_rmold {h : mm_H} {Q : Option Value → mm_H → Prop} {p d n c m e : Nat} {hd hn : Nat → Nat} (sh : s_h h) (A : pA h p d n c m hd hn) (he : e ≤ m) (k : ∀ h', ex h h' (p3 p d n) → rm h h' → pA h' p d n c (m - e) (fun i => hd (i + e)) (fun i => hn (i + e)) → h_oi h' 195 p = h_oi h 195 p → Q none h') : w_c 0 32 [.ref p, .int (nI e)] h Q := by
  obtain ⟨K, hmc, hm, hv⟩ := id A
  obtain ⟨e1, e2, e3⟩ := K.ne
  obtain ⟨_, _, _, ⟨b1, b2, b3, b4, b5, b6, b7⟩, c1, c2⟩ := id K
  have loop : ∀ w j, e + j + w = m → ∀ h1 : mm_H, ex h h1 (p3 p d n) → rm h h1 → pK h1 p d n c → h_oi h1 194 p = nI m → h_oi h1 195 p = h_oi h 195 p → (∀ i, i < j → h_ai h1 d i = nI (hd (i + e)) ∧ h_ai h1 n i = nI (hn (i + e))) → (∀ i, j ≤ i → h_ai h1 d i = h_ai h d i ∧ h_ai h1 n i = h_ai h n i) → w_p 0 (3, 3, mc_X3_removeOldestHeaps) 2 [(0, .ref p), (1, .int (nI e)), (2, .int (nI (e + j)))] [] h1 Q := by
    intro w
    induction w with
    | zero =>
      intro j hj h1 f r K1 m1 t1 q1 q2
      obtain ⟨⟨k1, k2, k3⟩, ⟨r1, r2⟩, ⟨l1, l2⟩, _⟩ := id K1
      refine t_X3_removeOldestHeaps_2 (s_h.ex sh f (p3_70 K)) p _ _ (K2 := fun _ _ _ _ => False) (fun _ _ _ _ z => z.elim) k1 k2 k3 r1 r2 l1 l2 (by omega) (by omega) (by omega) ⟨fun _ => ?_, fun z => absurd ?_ z⟩
      · rw [m1, nI_sub he]
        refine k _ (f.sI _ (Or.inl (Or.inl rfl))) r ⟨K1, by omega, oi_self _ _ _ _, fun i hi => ?_⟩ (by rw [oi_neG (by decide)]; exact t1)
        exact q1 i (by omega)
      · rw [m1, i_le (by omega) (by omega)]
        omega
    | succ w ih =>
      intro j hj h1 f r K1 m1 t1 q1 q2
      obtain ⟨⟨k1, k2, k3⟩, ⟨r1, r2⟩, ⟨l1, l2⟩, _⟩ := id K1
      have v1 : vp_in (nI (e + j)) c := vp_in_nI (by omega) (by omega)
      have v2 : vp_in (nI (e + j) - nI e) c := by rw [nI_sub (by omega)]; exact vp_in_nI (by omega) (by omega)
      have x1 : (nI (e + j) - nI e).toNatClampNeg = j := by rw [nI_sub (by omega), i_cl (by omega)]; omega
      have x2 : (nI (e + j)).toNatClampNeg = e + j := i_cl (by omega)
      refine t_X3_removeOldestHeaps_2 (s_h.ex sh f (p3_70 K)) p _ _ (K2 := fun x y z hh => x = p ∧ y = nI e ∧ z = nI (e + (j + 1)) ∧ ex h hh (p3 p d n) ∧ rm h hh ∧ pK hh p d n c ∧ h_oi hh 194 p = nI m ∧ h_oi hh 195 p = h_oi h 195 p ∧ (∀ i, i < j + 1 → h_ai hh d i = nI (hd (i + e)) ∧ h_ai hh n i = nI (hn (i + e))) ∧ (∀ i, j + 1 ≤ i → h_ai hh d i = h_ai h d i ∧ h_ai hh n i = h_ai h n i)) (fun x y z hh q => ?_) k1 k2 k3 r1 r2 l1 l2 (by omega) (by omega) (by omega) ⟨fun z => ?_, fun _ => ⟨v1, v2, v1, v2, rfl, rfl, nI_1 (e + j), ?_⟩⟩
      · obtain ⟨rfl, rfl, rfl, z1, z2, z3, z4, z5, z6, z7⟩ := q
        exact ih (j + 1) (by omega) hh z1 z2 z3 z4 z5 z6 z7
      · rw [m1, i_le (by omega) (by omega)] at z
        omega
      · rw [x1, x2, ai_ne e3.symm]
        refine ⟨(f.sA _ _ (Or.inl (Or.inr (Or.inl rfl)))).sA _ _ (Or.inl (Or.inr (Or.inr rfl))), r, K1, m1, t1, fun i hi => ?_, fun i hi => ?_⟩
        · rw [ai_ne e3, ai_self, ai_self, ai_ne e3.symm]
          by_cases z : i = j
          · rw [z, va_up_self, va_up_self, (q2 (e + j) (by omega)).1, (q2 (e + j) (by omega)).2, Nat.add_comm e j]
            exact hv (j + e) (by omega)
          · rw [va_up_ne _ _ z, va_up_ne _ _ z]
            exact q1 i (by omega)
        · rw [ai_ne e3, ai_self, ai_self, ai_ne e3.symm, va_up_ne _ _ (by omega), va_up_ne _ _ (by omega)]
          exact q2 i (by omega)
  obtain ⟨⟨k1, k2, k3⟩, ⟨r1, r2⟩, ⟨l1, l2⟩, _⟩ := id K
  refine t_X3_removeOldestHeaps_0 sh p _ (K2 := fun x y z hh => x = p ∧ y = nI e ∧ z = nI (e + 0) ∧ hh = h) (fun x y z hh q => ?_) k1 k2 k3 r1 r2 l1 l2 (by omega) (by omega) (by omega) ⟨rfl, rfl, rfl, rfl⟩
  obtain ⟨rfl, rfl, rfl, rfl⟩ := q
  exact loop (m - e) 0 (by omega) hh (ex.rf _ _) ⟨rfl, rfl⟩ K hm rfl (fun i hi => by omega) (fun i _ => ⟨rfl, rfl⟩)
theorem pL_cutB {m : Nat} {hd hn nt : Nat → Nat} (H : pL m hd hn nt) {e b : Nat} (he : e ≤ m) (h1 : ∀ j, j < e → hd j < b) (h2 : ∀ j, e ≤ j → j < m → b ≤ hd j) : pL (m - e) (fun i => hd (i + e)) (fun i => hn (i + e)) (fun x => if b ≤ x then nt x else 0) := by
  have := pL_cut H he
  have ef : (fun x => if e < m ∧ hd e ≤ x then nt x else 0) = fun x => if b ≤ x then nt x else 0 := funext fun x => by
    by_cases z : b ≤ x
    · rw [if_pos z]
      by_cases y : e < m ∧ hd e ≤ x
      · rw [if_pos y]
      · rw [if_neg y]
        refine (pL_no H (fun i hi w => y ?_)).symm
        have hei : e ≤ i := by
          rcases Nat.lt_or_ge i e with u | u
          · have := h1 i u; omega
          · exact u
        have := pL_mono H hei hi
        exact ⟨by omega, by omega⟩
    · rw [if_neg z, if_neg]
      intro y
      have := h2 e (Nat.le_refl _) y.1
      omega
  rw [ef] at this
  exact this
theorem fb_sm_lt (f : Nat → Nat) {i j : Nat} (h : i ≤ j) : fb_sm f i ≤ fb_sm f j := by
  have := fb_sm_mono f i (j - i)
  rwa [show i + (j - i) = j by omega] at this
theorem fb_sm_cut (nt : Nat → Nat) (b : Nat) : ∀ x, b ≤ x → fb_sm (fun y => if b ≤ y then nt y else 0) x = fb_sm nt x - fb_sm nt b := by
  intro x hx
  have h0 : ∀ y, y ≤ b → fb_sm (fun y => if b ≤ y then nt y else 0) y = 0 := by
    intro y
    induction y with
    | zero => intro _; rfl
    | succ y ih =>
      intro hy
      rw [fb_sm_succ, ih (by omega), if_neg (by omega)]
  have : ∀ w, fb_sm (fun y => if b ≤ y then nt y else 0) (b + w) + fb_sm nt b = fb_sm nt (b + w) := by
    intro w
    induction w with
    | zero => rw [Nat.add_zero, h0 b (Nat.le_refl _), Nat.zero_add]
    | succ w ih =>
      rw [show b + (w + 1) = (b + w) + 1 by omega, fb_sm_succ, fb_sm_succ, if_pos (by omega)]
      omega
  have := this (x - b)
  rw [show b + (x - b) = x by omega] at this
  omega
set_option maxHeartbeats 1000000 in
theorem c_dropB {h : mm_H} {Q : Option Value → mm_H → Prop} {p d n c b : Nat} {nt : Nat → Nat} {x : Int32} (sh : s_h h) (P : pS h p d n c nt) (hb : b ≤ 2000) (hx : ∀ v, v ≤ 2000 → (x ≤ nI v ↔ b ≤ v)) (k : ∀ h', ex h h' (p3 p d n) → rm h h' → pS h' p d n c (fun y => if b ≤ y then nt y else 0) → Q (some (.int (nI (fb_sm nt b)))) h') : w_c 1 31 [.ref p, .int x] h Q := by
  obtain ⟨m, hd, hn, A, L, T, B⟩ := P
  obtain ⟨K, hmc, hm, hv⟩ := id A
  obtain ⟨e1, e2, e3⟩ := K.ne
  obtain ⟨⟨k1, k2, k3⟩, ⟨r1, r2⟩, ⟨l1, l2⟩, ⟨b1, b2, b3, b4, b5, b6, b7⟩, c1, c2⟩ := id K
  have fin : ∀ i, i ≤ m → (∀ j, j < i → hd j < b) → (∀ j, i ≤ j → j < m → b ≤ hd j) → w_c 0 32 [.ref p, .int (nI i)] (h_sI h 195 p (h_oi h 195 p - nI (fb_sm hn i))) (fun r h2 => r = none ∧ s_h h2 ∧ Q (some (.int (nI (fb_sm hn i)))) h2) := by
    intro i hi h1 h2
    have es : fb_sm nt b = fb_sm hn i := pL_sum L b i hi h1 h2
    have hle : fb_sm nt b ≤ fb_sm nt 2001 := fb_sm_lt nt (by omega)
    have f1 : ex h (h_sI h 195 p (h_oi h 195 p - nI (fb_sm hn i))) (p3 p d n) := (ex.rf _ _).sI _ (Or.inl (Or.inl rfl))
    have s1 := s_h.ex sh f1 (p3_70 K)
    have A1 : pA (h_sI h 195 p (h_oi h 195 p - nI (fb_sm hn i))) p d n c m hd hn := ⟨K, hmc, (oi_neG (by decide) p).trans hm, hv⟩
    refine c_rmold s1 A1 hi (fun h' f2 g2 A2 t2 => ⟨rfl, s_h.ex s1 f2 (p3_70 K), ?_⟩)
    rw [← es]
    refine k h' (f1.tr f2 (fun _ z => z) (fun _ _ z => z)) g2 ⟨m - i, _, _, A2, pL_cutB L hi h1 h2, ?_, ?_⟩
    · rw [t2, oi_self, T, ← es, nI_sub hle, fb_sm_cut nt b 2001 (by omega)]
    · rw [fb_sm_cut nt b 2001 (by omega)]
      omega
  have loop : ∀ w i, i + w = m → (∀ j, j < i → hd j < b) → w_p (0 + 1) (3, 5, mc_X3_dropBefore) 7 [(0, .ref p), (1, .int x), (2, .int (nI (fb_sm hn i))), (3, .int (nI i)), (4, .int (nI i))] [] h Q := by
    intro w
    induction w with
    | zero =>
      intro i hi h1
      refine t_X3_dropBefore_7 (D := 0) sh p _ _ _ _ (K7 := fun _ _ _ _ _ _ => False) (fun _ _ _ _ _ _ z => z.elim) k1 k2 k3 r1 r2 l1 l2 (by omega) (by omega) (by omega) ⟨fun _ => fin i (by omega) h1 (fun j _ _ => by omega), fun z => absurd ?_ z⟩
      rw [hm, i_le (by omega) (by omega)]
      omega
    | succ w ih =>
      intro i hi h1
      have v1 : vp_in (nI i) c := vp_in_nI (by omega) (by omega)
      have hdi := (L.2.1 i (by omega)).1
      refine t_X3_dropBefore_7 (D := 0) sh p _ _ _ _ (K7 := fun y1 y2 y3 y4 y5 hh => y1 = p ∧ y2 = x ∧ y3 = nI (fb_sm hn (i + 1)) ∧ y4 = nI (i + 1) ∧ y5 = nI (i + 1) ∧ hh = h ∧ hd i < b) (fun y1 y2 y3 y4 y5 hh q => ?_) k1 k2 k3 r1 r2 l1 l2 (by omega) (by omega) (by omega) ⟨fun z => ?_, fun _ => ⟨v1, ?_⟩⟩
      · obtain ⟨rfl, rfl, rfl, rfl, rfl, rfl, hlt⟩ := q
        refine ih (i + 1) (by omega) (fun j hj => ?_)
        by_cases z : j = i
        · rw [z]; exact hlt
        · exact h1 j (by omega)
      · rw [hm, i_le (by omega) (by omega)] at z
        omega
      · rw [i_cl (by omega), (hv i (by omega)).1, hx _ hdi, (hv i (by omega)).2]
        refine ⟨fun z => fin i (by omega) h1 (fun j hj hjm => by have := pL_mono L hj hjm; omega), fun z => ⟨v1, rfl, rfl, ?_, nI_1 i, nI_1 i, rfl, by omega⟩⟩
        rw [nI_add]
        rfl
  refine t_X3_dropBefore_0 (D := 0) sh p _ (K7 := fun y1 y2 y3 y4 y5 hh => y1 = p ∧ y2 = x ∧ y3 = nI (fb_sm hn 0) ∧ y4 = nI 0 ∧ y5 = nI 0 ∧ hh = h) (fun y1 y2 y3 y4 y5 hh q => ?_) k1 k2 k3 r1 r2 l1 l2 (by omega) (by omega) (by omega) ⟨rfl, rfl, rfl, rfl, rfl, rfl⟩
  obtain ⟨rfl, rfl, rfl, rfl, rfl, rfl⟩ := q
  exact loop m 0 (by omega) (fun j hj => by omega)
