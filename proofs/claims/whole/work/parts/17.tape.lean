/-! THE TAPE: feed, end -/
theorem lg_lt0 (x y : Int64) : lg_cmp x y < 0 ↔ x < y := by
  unfold lg_cmp
  split
  · rename_i h1
    rw [gt_iff_lt, fa_lt64] at h1
    rw [fa_lt64]
    exact ⟨fun z => absurd z (by decide), fun z => by omega⟩
  · rename_i h1
    split
    · rename_i h2
      subst h2
      exact ⟨fun z => absurd z (by decide), fun z => absurd z h1⟩
    · rename_i h2
      rw [gt_iff_lt, fa_lt64] at h1
      rw [fa_eq64] at h2
      rw [fa_lt64]
      exact ⟨fun _ => by omega, fun _ => by decide⟩
theorem lg_gt0 (x y : Int64) : 0 < lg_cmp x y ↔ y < x := by
  unfold lg_cmp
  split
  · rename_i h1
    exact ⟨fun _ => h1, fun _ => by decide⟩
  · rename_i h1
    split
    · exact ⟨fun z => absurd z (by decide), fun z => absurd z h1⟩
    · exact ⟨fun z => absurd z (by decide), fun z => absurd z h1⟩
def f_in (v low high : Int64) : Int32 := if low ≤ v ∧ v ≤ high then 1 else 0
set_option maxRecDepth 20000 in
theorem t_X9_in_0 {h : mm_H} {Q : Option Value → mm_H → Prop} (v : Int64) (low : Int64) (high : Int64) 
    (F : (((lg_cmp v low) < 0 → Q (some (.int 0)) h) ∧ (¬ ((lg_cmp v low) < 0) → ((0 < (lg_cmp v high) → Q (some (.int 0)) h) ∧ (¬ (0 < (lg_cmp v high)) → Q (some (.int 1)) h))))) :
    w_c 0 103 [.long v, .long low, .long high] h Q := by
  refine w_ci (M := (9, 6, mc_X9_in)) rfl (Nat.le_of_ble_eq_true rfl) ?_
  show w_p _ _ 0 [(0, .long v), (2, .long low), (4, .long high)] [] h Q
  refine w_b 3 3 [(0, .long v), (2, .long low), (4, .long high)] [.int (lg_cmp v low)] rfl ?_
  refine w_if_lt (tgt := 17) (x := lg_cmp v low) rfl (by decide) ⟨fun c1 => ?_, fun c1 => ?_⟩
  · have F := F.1 c1
    refine w_b 1 18 [(0, .long v), (2, .long low), (4, .long high)] [.int 0] rfl ?_
    exact w_br rfl (by decide) F
  · have F := F.2 c1
    refine w_b 3 10 [(0, .long v), (2, .long low), (4, .long high)] [.int (lg_cmp v high)] rfl ?_
    refine w_if_gt (tgt := 17) (x := lg_cmp v high) rfl (by decide) ⟨fun c2 => ?_, fun c2 => ?_⟩
    · have F := F.1 c2
      refine w_b 1 18 [(0, .long v), (2, .long low), (4, .long high)] [.int 0] rfl ?_
      exact w_br rfl (by decide) F
    · have F := F.2 c2
      refine w_b 2 18 [(0, .long v), (2, .long low), (4, .long high)] [.int 1] rfl ?_
      exact w_br rfl (by decide) F

theorem sp_in {h : mm_H} {Q : Option Value → mm_H → Prop} {v low high : Int64} (k : Q (some (.int (f_in v low high))) h) : w_c 0 103 [.long v, .long low, .long high] h Q := by
  unfold f_in at k
  refine t_X9_in_0 v low high ⟨fun c => ?_, fun c => ⟨fun c2 => ?_, fun c2 => ?_⟩⟩
  · rw [lg_lt0, fa_lt64] at c
    rw [if_neg (fun z => by rw [fa_le64, fa_le64] at z; omega)] at k
    exact k
  · rw [lg_gt0, fa_lt64] at c2
    rw [if_neg (fun z => by rw [fa_le64, fa_le64] at z; omega)] at k
    exact k
  · rw [lg_lt0, fa_lt64] at c
    rw [lg_gt0, fa_lt64] at c2
    rw [if_pos (by rw [fa_le64, fa_le64]; omega)] at k
    exact k
theorem f_in_I (v low high : Int32) : f_in v.toInt64 low.toInt64 high.toInt64 = if low ≤ v ∧ v ≤ high then 1 else 0 := by
  unfold f_in
  simp only [fa_wide_le]
theorem f_in0 {v low high : Int64} : f_in v low high = 0 ↔ ¬ (low ≤ v ∧ v ≤ high) := by
  unfold f_in
  by_cases c : low ≤ v ∧ v ≤ high
  · rw [if_pos c]; exact ⟨fun z => absurd z (by decide), fun z => absurd c z⟩
  · rw [if_neg c]; exact ⟨fun _ => c, fun _ => rfl⟩
set_option maxRecDepth 20000 in
theorem t_X6_append_0 {h : mm_H} {Q : Option Value → mm_H → Prop} (sh : s_h h) (v : Int64) {K15 : Int64 → Int32 → mm_H → Prop} (k15 : ∀ (v : Int64) (x3 : Int32) (h : mm_H), K15 v x3 h → w_p 0 (6, 4, mc_X6_append) 15 [(0, .ref 17), (1, .long v), (3, .int x3)] [] h Q) 
    (F : (((h_oi h 385 17) ≤ 192 → K15 v 7 h) ∧ (¬ ((h_oi h 385 17) ≤ 192) → Q (some (.int 0)) h))) :
    w_c 0 48 [.ref 17, .long v] h Q := by
  refine w_ci (M := (6, 4, mc_X6_append)) rfl (Nat.le_of_ble_eq_true rfl) ?_
  show w_p _ _ 0 [(0, .ref 17), (1, .long v)] [] h Q
  refine w_b 1 1 [(0, .ref 17), (1, .long v)] [.ref 17] rfl ?_
  refine w_get (g := 385) rfl rfl rfl (kd_17 sh) ?_
  refine w_b 1 7 [(0, .ref 17), (1, .long v)] [.int 192, .int (h_oi h 385 17)] rfl ?_
  refine w_ic_le (tgt := 12) (x := h_oi h 385 17) (y := 192) rfl (by decide) ⟨fun c1 => ?_, fun c1 => ?_⟩
  · have F := F.1 c1
    refine w_b 2 15 [(3, .int 7), (0, .ref 17), (1, .long v)] [] rfl ?_
    refine w_lo [0, 1, 3] [(0, .ref 17), (1, .long v), (3, .int 7)] rfl rfl ?_
    exact k15 _ _ _ F
  · have F := F.2 c1
    refine w_b 1 11 [(0, .ref 17), (1, .long v)] [.int 0] rfl ?_
    exact w_br rfl (by decide) F

set_option maxRecDepth 20000 in
theorem t_X6_append_15 {h : mm_H} {Q : Option Value → mm_H → Prop} (sh : s_h h) (v : Int64) (x3 : Int32) {K15 : Int64 → Int32 → mm_H → Prop} (k15 : ∀ (v : Int64) (x3 : Int32) (h : mm_H), K15 v x3 h → w_p 0 (6, 4, mc_X6_append) 15 [(0, .ref 17), (1, .long v), (3, .int x3)] [] h Q) 
    (F : ((x3 < 0 → Q (some (.int 1)) h) ∧ (¬ (x3 < 0) → (vp_in (h_oi h 385 17) 200 ∧ K15 v (x3 + (-1)) (h_sI (h_sA h 18 ((h_oi h 385 17).toNatClampNeg) (vp_nar .byte ((((v.toUInt64 >>> (((8 : Int32) * x3).toInt64.toUInt64 &&& Int64.toUInt64 63)).toInt64).toInt32).toInt8.toInt32))) 385 17 ((h_oi h 385 17) + 1)))))) :
    w_p 0 (6, 4, mc_X6_append) 15 [(0, .ref 17), (1, .long v), (3, .int x3)] [] h Q := by
  refine w_b 1 16 [(0, .ref 17), (1, .long v), (3, .int x3)] [.int x3] rfl ?_
  refine w_if_lt (tgt := 52) (x := x3) rfl (by decide) ⟨fun c1 => ?_, fun c1 => ?_⟩
  · have F := F.1 c1
    refine w_b 1 53 [(0, .ref 17), (1, .long v), (3, .int x3)] [.int 1] rfl ?_
    exact w_br rfl (by decide) F
  · have F := F.2 c1
    refine w_b 1 20 [(0, .ref 17), (1, .long v), (3, .int x3)] [.ref 17] rfl ?_
    refine w_getS (b := 18) rfl rfl rfl (kd_17 sh) (or_384_17 sh) ?_
    refine w_b 1 24 [(0, .ref 17), (1, .long v), (3, .int x3)] [.ref 17, .ref 18] rfl ?_
    refine w_get (g := 385) rfl rfl rfl (kd_17 sh) ?_
    refine w_b 7 35 [(0, .ref 17), (1, .long v), (3, .int x3)] [.int ((((v.toUInt64 >>> (((8 : Int32) * x3).toInt64.toUInt64 &&& Int64.toUInt64 63)).toInt64).toInt32).toInt8.toInt32), .int (h_oi h 385 17), .ref 18] rfl ?_
    obtain ⟨g2, F⟩ := F
    refine w_bast rfl (kd_18 sh) (by decide) (by rw [show h_al h 18 = 200 from (al_18 sh)]; exact g2) ?_
    refine w_b 2 38 [(0, .ref 17), (1, .long v), (3, .int x3)] [.ref 17, .ref 17] rfl ?_
    refine w_get (g := 385) rfl rfl rfl (kd_17 sh) ?_
    refine w_b 2 43 [(0, .ref 17), (1, .long v), (3, .int x3)] [.int ((h_oi h 385 17) + 1), .ref 17] rfl ?_
    refine w_put (g := 385) (x := (h_oi h 385 17) + 1) rfl rfl rfl (kd_17 sh) (by decide) ?_
    refine w_b 2 15 [(3, .int (x3 + (-1))), (0, .ref 17), (1, .long v)] [] rfl ?_
    refine w_lo [0, 1, 3] [(0, .ref 17), (1, .long v), (3, .int (x3 + (-1)))] rfl rfl ?_
    exact k15 _ _ _ F

set_option maxRecDepth 20000 in
theorem t_X8_feed_0 {h : mm_H} {Q : Option Value → mm_H → Prop} (sh : s_h h) (v : Int64) 
    (F : w_c 0 48 [.ref 17, .long v] h (fun r h1 => ∃ z2 : Int32, r = some (.int z2) ∧ s_h h1 ∧ ((z2 = 0 → Q (some (.int (-3))) h1) ∧ (¬ (z2 = 0) → Q (some (.int (h_oi h1 385 17))) h1)))) :
    w_c 1 62 [.ref 16, .long v] h Q := by
  refine w_ci (M := (8, 3, mc_X8_feed)) rfl (Nat.le_of_ble_eq_true rfl) ?_
  show w_p _ _ 0 [(0, .ref 16), (1, .long v)] [] h Q
  refine w_b 1 1 [(0, .ref 16), (1, .long v)] [.ref 16] rfl ?_
  refine w_getS (b := 17) rfl rfl rfl (kd_16 sh) (or_512_16 sh) ?_
  refine w_b 1 5 [(0, .ref 16), (1, .long v)] [.long v, .ref 17] rfl ?_
  refine w_cv (As := [.long v]) (b := 17) (rest := []) rfl rfl rfl (Nat.le_of_ble_eq_true rfl) (kd_17 sh) (fun z => absurd z (by decide)) (dc := 0) (by omega) (F.mono (fun r h1 F => ?_))
  obtain ⟨z2, rfl, sh1, F⟩ := F
  show w_p _ _ 8 [(0, .ref 16), (1, .long v)] [.int z2] h1 _
  refine w_if_eq (tgt := 21) (x := z2) rfl (by decide) ⟨fun c3 => ?_, fun c3 => ?_⟩
  · have F := F.1 c3
    refine w_b 1 23 [(0, .ref 16), (1, .long v)] [.int (-3)] rfl ?_
    exact w_ir rfl F
  · have F := F.2 c3
    refine w_b 1 12 [(0, .ref 16), (1, .long v)] [.ref 16] rfl ?_
    refine w_getS (b := 17) rfl rfl rfl (kd_16 sh1) (or_512_16 sh1) ?_
    refine w_get (g := 385) rfl rfl rfl (kd_17 sh1) ?_
    refine w_b 1 23 [(0, .ref 16), (1, .long v)] [.int (h_oi h1 385 17)] rfl ?_
    exact w_ir rfl F

set_option maxRecDepth 20000 in
theorem t_X9_feed_0 {h : mm_H} {Q : Option Value → mm_H → Prop} (sh : s_h h) (v : Int64) {K19 : Int64 → Int32 → mm_H → Prop} (k19 : ∀ (v : Int64) (x3 : Int32) (h : mm_H), K19 v x3 h → w_p 0 (9, 4, mc_X9_feed) 19 [(0, .ref 44), (1, .long v), (3, .int x3)] [] h Q) 
    (F : ((((h_oi h 577 44) + 8) ≤ 200 → K19 v 56 h) ∧ (¬ (((h_oi h 577 44) + 8) ≤ 200) → Q (some (.int (-3))) h))) :
    w_c 0 104 [.ref 44, .long v] h Q := by
  refine w_ci (M := (9, 4, mc_X9_feed)) rfl (Nat.le_of_ble_eq_true rfl) ?_
  show w_p _ _ 0 [(0, .ref 44), (1, .long v)] [] h Q
  refine w_b 1 1 [(0, .ref 44), (1, .long v)] [.ref 44] rfl ?_
  refine w_get (g := 577) rfl rfl rfl (kd_44 sh) ?_
  refine w_b 3 10 [(0, .ref 44), (1, .long v)] [.int 200, .int ((h_oi h 577 44) + 8)] rfl ?_
  refine w_ic_le (tgt := 16) (x := (h_oi h 577 44) + 8) (y := 200) rfl (by decide) ⟨fun c1 => ?_, fun c1 => ?_⟩
  · have F := F.1 c1
    refine w_b 2 19 [(3, .int 56), (0, .ref 44), (1, .long v)] [] rfl ?_
    refine w_lo [0, 1, 3] [(0, .ref 44), (1, .long v), (3, .int 56)] rfl rfl ?_
    exact k19 _ _ _ F
  · have F := F.2 c1
    refine w_b 1 15 [(0, .ref 44), (1, .long v)] [.int (-3)] rfl ?_
    exact w_ir rfl F

set_option maxRecDepth 20000 in
theorem t_X9_feed_19 {h : mm_H} {Q : Option Value → mm_H → Prop} (sh : s_h h) (v : Int64) (x3 : Int32) {K19 : Int64 → Int32 → mm_H → Prop} (k19 : ∀ (v : Int64) (x3 : Int32) (h : mm_H), K19 v x3 h → w_p 0 (9, 4, mc_X9_feed) 19 [(0, .ref 44), (1, .long v), (3, .int x3)] [] h Q) 
    (F : ((x3 < 0 → Q (some (.int (h_oi h 577 44))) h) ∧ (¬ (x3 < 0) → (vp_in (h_oi h 577 44) 200 ∧ K19 v (x3 + (-8)) (h_sI (h_sA h 45 ((h_oi h 577 44).toNatClampNeg) (((v >>> (x3.toInt64 &&& 63)) &&& (Int64.ofNat 255)).toInt32)) 577 44 ((h_oi h 577 44) + 1)))))) :
    w_p 0 (9, 4, mc_X9_feed) 19 [(0, .ref 44), (1, .long v), (3, .int x3)] [] h Q := by
  refine w_b 1 20 [(0, .ref 44), (1, .long v), (3, .int x3)] [.int x3] rfl ?_
  refine w_if_lt (tgt := 56) (x := x3) rfl (by decide) ⟨fun c1 => ?_, fun c1 => ?_⟩
  · have F := F.1 c1
    refine w_b 1 57 [(0, .ref 44), (1, .long v), (3, .int x3)] [.ref 44] rfl ?_
    refine w_get (g := 577) rfl rfl rfl (kd_44 sh) ?_
    exact w_ir rfl F
  · have F := F.2 c1
    refine w_b 1 24 [(0, .ref 44), (1, .long v), (3, .int x3)] [.ref 44] rfl ?_
    refine w_getS (b := 45) rfl rfl rfl (kd_44 sh) (or_576_44 sh) ?_
    refine w_b 1 28 [(0, .ref 44), (1, .long v), (3, .int x3)] [.ref 44, .ref 45] rfl ?_
    refine w_get (g := 577) rfl rfl rfl (kd_44 sh) ?_
    refine w_b 6 39 [(0, .ref 44), (1, .long v), (3, .int x3)] [.int (((v >>> (x3.toInt64 &&& 63)) &&& (Int64.ofNat 255)).toInt32), .int (h_oi h 577 44), .ref 45] rfl ?_
    obtain ⟨g2, F⟩ := F
    refine w_iast rfl (kd_45 sh) (by decide) (by rw [show h_al h 45 = 200 from (al_45 sh)]; exact g2) ?_
    refine w_b 2 42 [(0, .ref 44), (1, .long v), (3, .int x3)] [.ref 44, .ref 44] rfl ?_
    refine w_get (g := 577) rfl rfl rfl (kd_44 sh) ?_
    refine w_b 2 47 [(0, .ref 44), (1, .long v), (3, .int x3)] [.int ((h_oi h 577 44) + 1), .ref 44] rfl ?_
    refine w_put (g := 577) (x := (h_oi h 577 44) + 1) rfl rfl rfl (kd_44 sh) (by decide) ?_
    refine w_b 2 19 [(3, .int (x3 + (-8))), (0, .ref 44), (1, .long v)] [] rfl ?_
    refine w_lo [0, 1, 3] [(0, .ref 44), (1, .long v), (3, .int (x3 + (-8)))] rfl rfl ?_
    exact k19 _ _ _ F

set_option maxRecDepth 20000 in
theorem t_X8_end_0 {h : mm_H} {Q : Option Value → mm_H → Prop} (sh : s_h h) (n : Int32) 
    (F : ((n < 0 → Q (some (.int (-1))) h) ∧ (¬ (n < 0) → ((n ≤ (h_oi h 385 17) → Q (some (.int (h_oi h 385 17))) (h_sI h 385 17 n)) ∧ (¬ (n ≤ (h_oi h 385 17)) → Q (some (.int (-1))) h))))) :
    w_c 0 63 [.ref 16, .int n] h Q := by
  refine w_ci (M := (8, 3, mc_X8_end)) rfl (Nat.le_of_ble_eq_true rfl) ?_
  show w_p _ _ 0 [(0, .ref 16), (1, .int n)] [] h Q
  refine w_b 1 1 [(0, .ref 16), (1, .int n)] [.ref 16] rfl ?_
  refine w_getS (b := 17) rfl rfl rfl (kd_16 sh) (or_512_16 sh) ?_
  refine w_get (g := 385) rfl rfl rfl (kd_17 sh) ?_
  refine w_b 2 9 [(2, .int (h_oi h 385 17)), (0, .ref 16), (1, .int n)] [.int n] rfl ?_
  refine w_if_lt (tgt := 17) (x := n) rfl (by decide) ⟨fun c1 => ?_, fun c1 => ?_⟩
  · have F := F.1 c1
    refine w_b 1 18 [(2, .int (h_oi h 385 17)), (0, .ref 16), (1, .int n)] [.int (-1)] rfl ?_
    exact w_ir rfl F
  · have F := F.2 c1
    refine w_b 2 14 [(2, .int (h_oi h 385 17)), (0, .ref 16), (1, .int n)] [.int (h_oi h 385 17), .int n] rfl ?_
    refine w_ic_le (tgt := 19) (x := n) (y := h_oi h 385 17) rfl (by decide) ⟨fun c2 => ?_, fun c2 => ?_⟩
    · have F := F.1 c2
      refine w_b 1 20 [(2, .int (h_oi h 385 17)), (0, .ref 16), (1, .int n)] [.ref 16] rfl ?_
      refine w_getS (b := 17) rfl rfl rfl (kd_16 sh) (or_512_16 sh) ?_
      refine w_b 1 24 [(2, .int (h_oi h 385 17)), (0, .ref 16), (1, .int n)] [.int n, .ref 17] rfl ?_
      refine w_put (g := 385) (x := n) rfl rfl rfl (kd_17 sh) (by decide) ?_
      refine w_b 1 28 [(2, .int (h_oi h 385 17)), (0, .ref 16), (1, .int n)] [.int (h_oi h 385 17)] rfl ?_
      exact w_ir rfl F
    · have F := F.2 c2
      refine w_b 1 18 [(2, .int (h_oi h 385 17)), (0, .ref 16), (1, .int n)] [.int (-1)] rfl ?_
      exact w_ir rfl F

set_option maxRecDepth 20000 in
theorem t_X9_end_0 {h : mm_H} {Q : Option Value → mm_H → Prop} (sh : s_h h) (n : Int32) 
    (F : ((¬ (f_in n.toInt64 (Int64.ofNat 0) ((h_oi h 577 44).toInt64)) = 0 → Q (some (.int (h_oi h 577 44))) (h_sI h 577 44 n)) ∧ ((f_in n.toInt64 (Int64.ofNat 0) ((h_oi h 577 44).toInt64)) = 0 → Q (some (.int (-1))) h))) :
    w_c 1 105 [.ref 44, .int n] h Q := by
  refine w_ci (M := (9, 3, mc_X9_end)) rfl (Nat.le_of_ble_eq_true rfl) ?_
  show w_p _ _ 0 [(0, .ref 44), (1, .int n)] [] h Q
  refine w_b 4 4 [(0, .ref 44), (1, .int n)] [.ref 44, .long (Int64.ofNat 0), .long n.toInt64] rfl ?_
  refine w_get (g := 577) rfl rfl rfl (kd_44 sh) ?_
  refine w_b 1 8 [(0, .ref 44), (1, .int n)] [.long ((h_oi h 577 44).toInt64), .long (Int64.ofNat 0), .long n.toInt64] rfl ?_
  refine w_cs (As := [.long n.toInt64, .long (Int64.ofNat 0), .long ((h_oi h 577 44).toInt64)]) (rest := []) rfl rfl rfl (Nat.le_of_ble_eq_true rfl) (dc := 0) (by omega) (sp_in  ?_)
  show w_p _ _ 11 [(0, .ref 44), (1, .int n)] [.int (f_in n.toInt64 (Int64.ofNat 0) ((h_oi h 577 44).toInt64))] h _
  refine w_if_ne (tgt := 16) (x := f_in n.toInt64 (Int64.ofNat 0) ((h_oi h 577 44).toInt64)) rfl (by decide) ⟨fun c1 => ?_, fun c1 => ?_⟩
  · have F := F.1 c1
    refine w_b 1 17 [(0, .ref 44), (1, .int n)] [.ref 44] rfl ?_
    refine w_get (g := 577) rfl rfl rfl (kd_44 sh) ?_
    refine w_b 3 23 [(2, .int (h_oi h 577 44)), (0, .ref 44), (1, .int n)] [.int n, .ref 44] rfl ?_
    refine w_put (g := 577) (x := n) rfl rfl rfl (kd_44 sh) (by decide) ?_
    refine w_b 1 27 [(2, .int (h_oi h 577 44)), (0, .ref 44), (1, .int n)] [.int (h_oi h 577 44)] rfl ?_
    exact w_ir rfl F
  · have F := F.2 (Decidable.not_not.mp c1)
    refine w_b 1 15 [(0, .ref 44), (1, .int n)] [.int (-1)] rfl ?_
    exact w_ir rfl F

