/-! THE LAW'S LOOP -/
theorem LO.use {D y D' y' : Nat} {as as' : List Value} {h : mm_H} {i L : Nat} {xs : Nat → Int32} {Q : Option Value → mm_H → Prop} (w : LO D y as D' y' as' h i L xs) (k : ∀ z h1, s_h h1 → sX h1 L xs → w_c D' y' as' h1 (fun r2 h2 => r2 = some (.int z) ∧ LI h2 (i + 1) L xs) → Q (some (.int z)) h1) : w_c D y as h Q := w_c.mono w (fun r h1 q => by
  obtain ⟨z, rfl, s1, x1, w1⟩ := q
  exact k z h1 s1 x1 w1)
theorem LO.fin {D' y' : Nat} {as' : List Value} {h1 : mm_H} {i L : Nat} {xs : Nat → Int32} {z x : Int32} {Q : Option Value → mm_H → Prop} (w : w_c D' y' as' h1 (fun r2 h2 => r2 = some (.int z) ∧ LI h2 (i + 1) L xs)) : w_c D' y' as' h1 (fun r h2 => ∃ z' : Int32, r = some (.int z') ∧ s_h h2 ∧ ((z = z' → (x = x ∧ LI h2 (i + 1) L xs)) ∧ (¬ (z = z') → Q (some (.int 0)) h2))) := w.mono (fun r h2 q => by
  obtain ⟨rfl, q⟩ := q
  obtain ⟨a, b, c, d, e, f, g, j, k, l, n, p, q', K⟩ := id q
  exact ⟨z, rfl, K.1, fun _ => ⟨rfl, q⟩, fun n => absurd rfl n⟩)
theorem x_in {i L j : Nat} (h : 5 * i + 5 ≤ L) (hL : L ≤ 2560) (hj : j < 5) : vp_in (nI (5 * i) + nI j) L := by
  rw [show nI (5 * i) + nI j = nI (5 * i + j) from (nI_add _ _)]
  exact vp_in_nI (by omega) (by omega)
set_option maxRecDepth 20000 in
theorem t_L_law_18 {h : mm_H} {Q : Option Value → mm_H → Prop} (sh : s_h h) (x3 : Int32) {K148 : Int32 → mm_H → Prop} (k148 : ∀ (x3 : Int32) (h : mm_H), K148 x3 h → w_p 1000 (99, 4, mc_L_law) 148 [(0, .ref 0), (1, .ref 16), (2, .ref 44), (3, .int x3)] [] h Q) {K201 : Int32 → mm_H → Prop} (k201 : ∀ (x3 : Int32) (h : mm_H), K201 x3 h → w_p 1000 (99, 4, mc_L_law) 201 [(0, .ref 0), (1, .ref 16), (2, .ref 44), (3, .int x3)] [] h Q) {K224 : Int32 → mm_H → Prop} (k224 : ∀ (x3 : Int32) (h : mm_H), K224 x3 h → w_p 1000 (99, 4, mc_L_law) 224 [(0, .ref 0), (1, .ref 16), (2, .ref 44), (3, .int x3)] [] h Q) {K247 : Int32 → mm_H → Prop} (k247 : ∀ (x3 : Int32) (h : mm_H), K247 x3 h → w_p 1000 (99, 4, mc_L_law) 247 [(0, .ref 0), (1, .ref 16), (2, .ref 44), (3, .int x3)] [] h Q) {K260 : Int32 → mm_H → Prop} (k260 : ∀ (x3 : Int32) (h : mm_H), K260 x3 h → w_p 1000 (99, 4, mc_L_law) 260 [(0, .ref 0), (1, .ref 16), (2, .ref 44), (3, .int x3)] [] h Q) {K273 : Int32 → mm_H → Prop} (k273 : ∀ (x3 : Int32) (h : mm_H), K273 x3 h → w_p 1000 (99, 4, mc_L_law) 273 [(0, .ref 0), (1, .ref 16), (2, .ref 44), (3, .int x3)] [] h Q) {K306 : Int32 → mm_H → Prop} (k306 : ∀ (x3 : Int32) (h : mm_H), K306 x3 h → w_p 1000 (99, 4, mc_L_law) 306 [(0, .ref 0), (1, .ref 16), (2, .ref 44), (3, .int x3)] [] h Q) {K329 : Int32 → mm_H → Prop} (k329 : ∀ (x3 : Int32) (h : mm_H), K329 x3 h → w_p 1000 (99, 4, mc_L_law) 329 [(0, .ref 0), (1, .ref 16), (2, .ref 44), (3, .int x3)] [] h Q) {K342 : Int32 → mm_H → Prop} (k342 : ∀ (x3 : Int32) (h : mm_H), K342 x3 h → w_p 1000 (99, 4, mc_L_law) 342 [(0, .ref 0), (1, .ref 16), (2, .ref 44), (3, .int x3)] [] h Q) {K365 : Int32 → mm_H → Prop} (k365 : ∀ (x3 : Int32) (h : mm_H), K365 x3 h → w_p 1000 (99, 4, mc_L_law) 365 [(0, .ref 0), (1, .ref 16), (2, .ref 44), (3, .int x3)] [] h Q) {K424 : Int32 → mm_H → Prop} (k424 : ∀ (x3 : Int32) (h : mm_H), K424 x3 h → w_p 1000 (99, 4, mc_L_law) 424 [(0, .ref 0), (1, .ref 16), (2, .ref 44), (3, .int x3)] [] h Q) {K457 : Int32 → mm_H → Prop} (k457 : ∀ (x3 : Int32) (h : mm_H), K457 x3 h → w_p 1000 (99, 4, mc_L_law) 457 [(0, .ref 0), (1, .ref 16), (2, .ref 44), (3, .int x3)] [] h Q) {K500 : Int32 → mm_H → Prop} (k500 : ∀ (x3 : Int32) (h : mm_H), K500 x3 h → w_p 1000 (99, 4, mc_L_law) 500 [(0, .ref 0), (1, .ref 16), (2, .ref 44), (3, .int x3)] [] h Q) {K543 : Int32 → mm_H → Prop} (k543 : ∀ (x3 : Int32) (h : mm_H), K543 x3 h → w_p 1000 (99, 4, mc_L_law) 543 [(0, .ref 0), (1, .ref 16), (2, .ref 44), (3, .int x3)] [] h Q) {K566 : Int32 → mm_H → Prop} (k566 : ∀ (x3 : Int32) (h : mm_H), K566 x3 h → w_p 1000 (99, 4, mc_L_law) 566 [(0, .ref 0), (1, .ref 16), (2, .ref 44), (3, .int x3)] [] h Q) {K599 : Int32 → mm_H → Prop} (k599 : ∀ (x3 : Int32) (h : mm_H), K599 x3 h → w_p 1000 (99, 4, mc_L_law) 599 [(0, .ref 0), (1, .ref 16), (2, .ref 44), (3, .int x3)] [] h Q) {K612 : Int32 → mm_H → Prop} (k612 : ∀ (x3 : Int32) (h : mm_H), K612 x3 h → w_p 1000 (99, 4, mc_L_law) 612 [(0, .ref 0), (1, .ref 16), (2, .ref 44), (3, .int x3)] [] h Q) {K635 : Int32 → mm_H → Prop} (k635 : ∀ (x3 : Int32) (h : mm_H), K635 x3 h → w_p 1000 (99, 4, mc_L_law) 635 [(0, .ref 0), (1, .ref 16), (2, .ref 44), (3, .int x3)] [] h Q) {K658 : Int32 → mm_H → Prop} (k658 : ∀ (x3 : Int32) (h : mm_H), K658 x3 h → w_p 1000 (99, 4, mc_L_law) 658 [(0, .ref 0), (1, .ref 16), (2, .ref 44), (3, .int x3)] [] h Q) {K681 : Int32 → mm_H → Prop} (k681 : ∀ (x3 : Int32) (h : mm_H), K681 x3 h → w_p 1000 (99, 4, mc_L_law) 681 [(0, .ref 0), (1, .ref 16), (2, .ref 44), (3, .int x3)] [] h Q) {K704 : Int32 → mm_H → Prop} (k704 : ∀ (x3 : Int32) (h : mm_H), K704 x3 h → w_p 1000 (99, 4, mc_L_law) 704 [(0, .ref 0), (1, .ref 16), (2, .ref 44), (3, .int x3)] [] h Q) {K717 : Int32 → mm_H → Prop} (k717 : ∀ (x3 : Int32) (h : mm_H), K717 x3 h → w_p 1000 (99, 4, mc_L_law) 717 [(0, .ref 0), (1, .ref 16), (2, .ref 44), (3, .int x3)] [] h Q) {K760 : Int32 → mm_H → Prop} (k760 : ∀ (x3 : Int32) (h : mm_H), K760 x3 h → w_p 1000 (99, 4, mc_L_law) 760 [(0, .ref 0), (1, .ref 16), (2, .ref 44), (3, .int x3)] [] h Q) {K803 : Int32 → mm_H → Prop} (k803 : ∀ (x3 : Int32) (h : mm_H), K803 x3 h → w_p 1000 (99, 4, mc_L_law) 803 [(0, .ref 0), (1, .ref 16), (2, .ref 44), (3, .int x3)] [] h Q) {K856 : Int32 → mm_H → Prop} (k856 : ∀ (x3 : Int32) (h : mm_H), K856 x3 h → w_p 1000 (99, 4, mc_L_law) 856 [(0, .ref 0), (1, .ref 16), (2, .ref 44), (3, .int x3)] [] h Q) {K879 : Int32 → mm_H → Prop} (k879 : ∀ (x3 : Int32) (h : mm_H), K879 x3 h → w_p 1000 (99, 4, mc_L_law) 879 [(0, .ref 0), (1, .ref 16), (2, .ref 44), (3, .int x3)] [] h Q) 
    (F : ((20 ≤ h_kd h 0 ∧ h_kd h 0 ≤ 25) ∧ ((((Int32.ofNat (h_al h 0)) - (5 : Int32)) < x3 → Q (some (.int 1)) h) ∧ (¬ (((Int32.ofNat (h_al h 0)) - (5 : Int32)) < x3) → (h_kd h 0 = 20 ∧ (vp_in x3 (h_al h 0) ∧ (((((h_ai h 0 x3.toNatClampNeg) &&& (31 : Int32)).toInt < 0 ∨ 24 < ((h_ai h 0 x3.toNatClampNeg) &&& (31 : Int32)).toInt) → K879 x3 h) ∧ (((h_ai h 0 x3.toNatClampNeg) &&& (31 : Int32)).toInt = 0 → K148 x3 h) ∧ (((h_ai h 0 x3.toNatClampNeg) &&& (31 : Int32)).toInt = 1 → K201 x3 h) ∧ (((h_ai h 0 x3.toNatClampNeg) &&& (31 : Int32)).toInt = 2 → K224 x3 h) ∧ (((h_ai h 0 x3.toNatClampNeg) &&& (31 : Int32)).toInt = 3 → K247 x3 h) ∧ (((h_ai h 0 x3.toNatClampNeg) &&& (31 : Int32)).toInt = 4 → K260 x3 h) ∧ (((h_ai h 0 x3.toNatClampNeg) &&& (31 : Int32)).toInt = 5 → K273 x3 h) ∧ (((h_ai h 0 x3.toNatClampNeg) &&& (31 : Int32)).toInt = 6 → K306 x3 h) ∧ (((h_ai h 0 x3.toNatClampNeg) &&& (31 : Int32)).toInt = 7 → K329 x3 h) ∧ (((h_ai h 0 x3.toNatClampNeg) &&& (31 : Int32)).toInt = 8 → K342 x3 h) ∧ (((h_ai h 0 x3.toNatClampNeg) &&& (31 : Int32)).toInt = 9 → K365 x3 h) ∧ (((h_ai h 0 x3.toNatClampNeg) &&& (31 : Int32)).toInt = 10 → K424 x3 h) ∧ (((h_ai h 0 x3.toNatClampNeg) &&& (31 : Int32)).toInt = 11 → K457 x3 h) ∧ (((h_ai h 0 x3.toNatClampNeg) &&& (31 : Int32)).toInt = 12 → K500 x3 h) ∧ (((h_ai h 0 x3.toNatClampNeg) &&& (31 : Int32)).toInt = 13 → K543 x3 h) ∧ (((h_ai h 0 x3.toNatClampNeg) &&& (31 : Int32)).toInt = 14 → K566 x3 h) ∧ (((h_ai h 0 x3.toNatClampNeg) &&& (31 : Int32)).toInt = 15 → K599 x3 h) ∧ (((h_ai h 0 x3.toNatClampNeg) &&& (31 : Int32)).toInt = 16 → K612 x3 h) ∧ (((h_ai h 0 x3.toNatClampNeg) &&& (31 : Int32)).toInt = 17 → K635 x3 h) ∧ (((h_ai h 0 x3.toNatClampNeg) &&& (31 : Int32)).toInt = 18 → K658 x3 h) ∧ (((h_ai h 0 x3.toNatClampNeg) &&& (31 : Int32)).toInt = 19 → K681 x3 h) ∧ (((h_ai h 0 x3.toNatClampNeg) &&& (31 : Int32)).toInt = 20 → K704 x3 h) ∧ (((h_ai h 0 x3.toNatClampNeg) &&& (31 : Int32)).toInt = 21 → K717 x3 h) ∧ (((h_ai h 0 x3.toNatClampNeg) &&& (31 : Int32)).toInt = 22 → K760 x3 h) ∧ (((h_ai h 0 x3.toNatClampNeg) &&& (31 : Int32)).toInt = 23 → K803 x3 h) ∧ (((h_ai h 0 x3.toNatClampNeg) &&& (31 : Int32)).toInt = 24 → K856 x3 h)))))))) :
    w_p 1000 (99, 4, mc_L_law) 18 [(0, .ref 0), (1, .ref 16), (2, .ref 44), (3, .int x3)] [] h Q := by
  refine w_b 2 20 [(0, .ref 0), (1, .ref 16), (2, .ref 44), (3, .int x3)] [.ref 0, .int x3] rfl ?_
  obtain ⟨g1, F⟩ := F
  refine w_alen rfl g1 ?_
  refine w_b 2 23 [(0, .ref 0), (1, .ref 16), (2, .ref 44), (3, .int x3)] [.int ((Int32.ofNat (h_al h 0)) - (5 : Int32)), .int x3] rfl ?_
  refine w_ic_gt (tgt := 885) (x := x3) (y := (Int32.ofNat (h_al h 0)) - (5 : Int32)) rfl (by decide) ⟨fun c2 => ?_, fun c2 => ?_⟩
  · have F := F.1 c2
    refine w_b 1 886 [(0, .ref 0), (1, .ref 16), (2, .ref 44), (3, .int x3)] [.int 1] rfl ?_
    exact w_br rfl (by decide) F
  · have F := F.2 c2
    refine w_b 2 28 [(0, .ref 0), (1, .ref 16), (2, .ref 44), (3, .int x3)] [.int x3, .ref 0] rfl ?_
    obtain ⟨g3, F⟩ := F
    obtain ⟨g4, F⟩ := F
    refine w_iald rfl g3 g4 ?_
    refine w_b 2 32 [(0, .ref 0), (1, .ref 16), (2, .ref 44), (3, .int x3)] [.int ((h_ai h 0 x3.toNatClampNeg) &&& (31 : Int32))] rfl ?_
    by_cases c5 : ((h_ai h 0 x3.toNatClampNeg) &&& (31 : Int32)).toInt < 0 ∨ 24 < ((h_ai h 0 x3.toNatClampNeg) &&& (31 : Int32)).toInt
    · have F := F.1 c5
      refine w_tabO (tgt := 879) rfl c5 (by decide) ?_
      exact k879 _ _ F
    · have F := F.2
      have e6 : ((h_ai h 0 x3.toNatClampNeg) &&& (31 : Int32)).toInt = 0 ∨ ((h_ai h 0 x3.toNatClampNeg) &&& (31 : Int32)).toInt = 1 ∨ ((h_ai h 0 x3.toNatClampNeg) &&& (31 : Int32)).toInt = 2 ∨ ((h_ai h 0 x3.toNatClampNeg) &&& (31 : Int32)).toInt = 3 ∨ ((h_ai h 0 x3.toNatClampNeg) &&& (31 : Int32)).toInt = 4 ∨ ((h_ai h 0 x3.toNatClampNeg) &&& (31 : Int32)).toInt = 5 ∨ ((h_ai h 0 x3.toNatClampNeg) &&& (31 : Int32)).toInt = 6 ∨ ((h_ai h 0 x3.toNatClampNeg) &&& (31 : Int32)).toInt = 7 ∨ ((h_ai h 0 x3.toNatClampNeg) &&& (31 : Int32)).toInt = 8 ∨ ((h_ai h 0 x3.toNatClampNeg) &&& (31 : Int32)).toInt = 9 ∨ ((h_ai h 0 x3.toNatClampNeg) &&& (31 : Int32)).toInt = 10 ∨ ((h_ai h 0 x3.toNatClampNeg) &&& (31 : Int32)).toInt = 11 ∨ ((h_ai h 0 x3.toNatClampNeg) &&& (31 : Int32)).toInt = 12 ∨ ((h_ai h 0 x3.toNatClampNeg) &&& (31 : Int32)).toInt = 13 ∨ ((h_ai h 0 x3.toNatClampNeg) &&& (31 : Int32)).toInt = 14 ∨ ((h_ai h 0 x3.toNatClampNeg) &&& (31 : Int32)).toInt = 15 ∨ ((h_ai h 0 x3.toNatClampNeg) &&& (31 : Int32)).toInt = 16 ∨ ((h_ai h 0 x3.toNatClampNeg) &&& (31 : Int32)).toInt = 17 ∨ ((h_ai h 0 x3.toNatClampNeg) &&& (31 : Int32)).toInt = 18 ∨ ((h_ai h 0 x3.toNatClampNeg) &&& (31 : Int32)).toInt = 19 ∨ ((h_ai h 0 x3.toNatClampNeg) &&& (31 : Int32)).toInt = 20 ∨ ((h_ai h 0 x3.toNatClampNeg) &&& (31 : Int32)).toInt = 21 ∨ ((h_ai h 0 x3.toNatClampNeg) &&& (31 : Int32)).toInt = 22 ∨ ((h_ai h 0 x3.toNatClampNeg) &&& (31 : Int32)).toInt = 23 ∨ ((h_ai h 0 x3.toNatClampNeg) &&& (31 : Int32)).toInt = 24 := by omega
      rcases e6 with e6 | e6 | e6 | e6 | e6 | e6 | e6 | e6 | e6 | e6 | e6 | e6 | e6 | e6 | e6 | e6 | e6 | e6 | e6 | e6 | e6 | e6 | e6 | e6 | e6
      · have F := F.1 e6
        refine w_tabI (tgt := 148) (off := 116) rfl (by omega) (by omega) (by rw [e6]; rfl) (by decide) ?_
        exact k148 _ _ F
      · have F := F.2.1 e6
        refine w_tabI (tgt := 201) (off := 169) rfl (by omega) (by omega) (by rw [e6]; rfl) (by decide) ?_
        exact k201 _ _ F
      · have F := F.2.2.1 e6
        refine w_tabI (tgt := 224) (off := 192) rfl (by omega) (by omega) (by rw [e6]; rfl) (by decide) ?_
        exact k224 _ _ F
      · have F := F.2.2.2.1 e6
        refine w_tabI (tgt := 247) (off := 215) rfl (by omega) (by omega) (by rw [e6]; rfl) (by decide) ?_
        exact k247 _ _ F
      · have F := F.2.2.2.2.1 e6
        refine w_tabI (tgt := 260) (off := 228) rfl (by omega) (by omega) (by rw [e6]; rfl) (by decide) ?_
        exact k260 _ _ F
      · have F := F.2.2.2.2.2.1 e6
        refine w_tabI (tgt := 273) (off := 241) rfl (by omega) (by omega) (by rw [e6]; rfl) (by decide) ?_
        exact k273 _ _ F
      · have F := F.2.2.2.2.2.2.1 e6
        refine w_tabI (tgt := 306) (off := 274) rfl (by omega) (by omega) (by rw [e6]; rfl) (by decide) ?_
        exact k306 _ _ F
      · have F := F.2.2.2.2.2.2.2.1 e6
        refine w_tabI (tgt := 329) (off := 297) rfl (by omega) (by omega) (by rw [e6]; rfl) (by decide) ?_
        exact k329 _ _ F
      · have F := F.2.2.2.2.2.2.2.2.1 e6
        refine w_tabI (tgt := 342) (off := 310) rfl (by omega) (by omega) (by rw [e6]; rfl) (by decide) ?_
        exact k342 _ _ F
      · have F := F.2.2.2.2.2.2.2.2.2.1 e6
        refine w_tabI (tgt := 365) (off := 333) rfl (by omega) (by omega) (by rw [e6]; rfl) (by decide) ?_
        exact k365 _ _ F
      · have F := F.2.2.2.2.2.2.2.2.2.2.1 e6
        refine w_tabI (tgt := 424) (off := 392) rfl (by omega) (by omega) (by rw [e6]; rfl) (by decide) ?_
        exact k424 _ _ F
      · have F := F.2.2.2.2.2.2.2.2.2.2.2.1 e6
        refine w_tabI (tgt := 457) (off := 425) rfl (by omega) (by omega) (by rw [e6]; rfl) (by decide) ?_
        exact k457 _ _ F
      · have F := F.2.2.2.2.2.2.2.2.2.2.2.2.1 e6
        refine w_tabI (tgt := 500) (off := 468) rfl (by omega) (by omega) (by rw [e6]; rfl) (by decide) ?_
        exact k500 _ _ F
      · have F := F.2.2.2.2.2.2.2.2.2.2.2.2.2.1 e6
        refine w_tabI (tgt := 543) (off := 511) rfl (by omega) (by omega) (by rw [e6]; rfl) (by decide) ?_
        exact k543 _ _ F
      · have F := F.2.2.2.2.2.2.2.2.2.2.2.2.2.2.1 e6
        refine w_tabI (tgt := 566) (off := 534) rfl (by omega) (by omega) (by rw [e6]; rfl) (by decide) ?_
        exact k566 _ _ F
      · have F := F.2.2.2.2.2.2.2.2.2.2.2.2.2.2.2.1 e6
        refine w_tabI (tgt := 599) (off := 567) rfl (by omega) (by omega) (by rw [e6]; rfl) (by decide) ?_
        exact k599 _ _ F
      · have F := F.2.2.2.2.2.2.2.2.2.2.2.2.2.2.2.2.1 e6
        refine w_tabI (tgt := 612) (off := 580) rfl (by omega) (by omega) (by rw [e6]; rfl) (by decide) ?_
        exact k612 _ _ F
      · have F := F.2.2.2.2.2.2.2.2.2.2.2.2.2.2.2.2.2.1 e6
        refine w_tabI (tgt := 635) (off := 603) rfl (by omega) (by omega) (by rw [e6]; rfl) (by decide) ?_
        exact k635 _ _ F
      · have F := F.2.2.2.2.2.2.2.2.2.2.2.2.2.2.2.2.2.2.1 e6
        refine w_tabI (tgt := 658) (off := 626) rfl (by omega) (by omega) (by rw [e6]; rfl) (by decide) ?_
        exact k658 _ _ F
      · have F := F.2.2.2.2.2.2.2.2.2.2.2.2.2.2.2.2.2.2.2.1 e6
        refine w_tabI (tgt := 681) (off := 649) rfl (by omega) (by omega) (by rw [e6]; rfl) (by decide) ?_
        exact k681 _ _ F
      · have F := F.2.2.2.2.2.2.2.2.2.2.2.2.2.2.2.2.2.2.2.2.1 e6
        refine w_tabI (tgt := 704) (off := 672) rfl (by omega) (by omega) (by rw [e6]; rfl) (by decide) ?_
        exact k704 _ _ F
      · have F := F.2.2.2.2.2.2.2.2.2.2.2.2.2.2.2.2.2.2.2.2.2.1 e6
        refine w_tabI (tgt := 717) (off := 685) rfl (by omega) (by omega) (by rw [e6]; rfl) (by decide) ?_
        exact k717 _ _ F
      · have F := F.2.2.2.2.2.2.2.2.2.2.2.2.2.2.2.2.2.2.2.2.2.2.1 e6
        refine w_tabI (tgt := 760) (off := 728) rfl (by omega) (by omega) (by rw [e6]; rfl) (by decide) ?_
        exact k760 _ _ F
      · have F := F.2.2.2.2.2.2.2.2.2.2.2.2.2.2.2.2.2.2.2.2.2.2.2.1 e6
        refine w_tabI (tgt := 803) (off := 771) rfl (by omega) (by omega) (by rw [e6]; rfl) (by decide) ?_
        exact k803 _ _ F
      · have F := F.2.2.2.2.2.2.2.2.2.2.2.2.2.2.2.2.2.2.2.2.2.2.2.2 e6
        refine w_tabI (tgt := 856) (off := 824) rfl (by omega) (by omega) (by rw [e6]; rfl) (by decide) ?_
        exact k856 _ _ F

set_option maxRecDepth 20000 in
theorem t_L_law_148 {h : mm_H} {Q : Option Value → mm_H → Prop} (sh : s_h h) (x3 : Int32) {K879 : Int32 → mm_H → Prop} (k879 : ∀ (x3 : Int32) (h : mm_H), K879 x3 h → w_p 1000 (99, 4, mc_L_law) 879 [(0, .ref 0), (1, .ref 16), (2, .ref 44), (3, .int x3)] [] h Q) 
    (F : (h_kd h 0 = 20 ∧ (vp_in (x3 + 1) (h_al h 0) ∧ (h_kd h 0 = 20 ∧ (vp_in (x3 + 2) (h_al h 0) ∧ w_c 1 62 [.ref 16, .long ((((h_ai h 0 (x3 + 1).toNatClampNeg).toInt64) <<< ((32 : Int32).toInt64 &&& 63)) ||| (((h_ai h 0 (x3 + 2).toNatClampNeg).toInt64) &&& (Int64.ofNat 4294967295)))] h (fun r h5 => ∃ z6 : Int32, r = some (.int z6) ∧ s_h h5 ∧ (h_kd h5 0 = 20 ∧ (vp_in (x3 + 1) (h_al h5 0) ∧ (h_kd h5 0 = 20 ∧ (vp_in (x3 + 2) (h_al h5 0) ∧ w_c 0 104 [.ref 44, .long ((((h_ai h5 0 (x3 + 1).toNatClampNeg).toInt64) <<< ((32 : Int32).toInt64 &&& 63)) ||| (((h_ai h5 0 (x3 + 2).toNatClampNeg).toInt64) &&& (Int64.ofNat 4294967295)))] h5 (fun r h11 => ∃ z12 : Int32, r = some (.int z12) ∧ s_h h11 ∧ ((z6 = z12 → K879 x3 h11) ∧ (¬ (z6 = z12) → Q (some (.int 0)) h11))))))))))))) :
    w_p 1000 (99, 4, mc_L_law) 148 [(0, .ref 0), (1, .ref 16), (2, .ref 44), (3, .int x3)] [] h Q := by
  refine w_b 5 153 [(0, .ref 0), (1, .ref 16), (2, .ref 44), (3, .int x3)] [.int (x3 + 1), .ref 0, .ref 16] rfl ?_
  obtain ⟨g1, F⟩ := F
  obtain ⟨g2, F⟩ := F
  refine w_iald rfl g1 g2 ?_
  refine w_b 7 162 [(0, .ref 0), (1, .ref 16), (2, .ref 44), (3, .int x3)] [.int (x3 + 2), .ref 0, .long (((h_ai h 0 (x3 + 1).toNatClampNeg).toInt64) <<< ((32 : Int32).toInt64 &&& 63)), .ref 16] rfl ?_
  obtain ⟨g3, F⟩ := F
  obtain ⟨g4, F⟩ := F
  refine w_iald rfl g3 g4 ?_
  refine w_b 4 169 [(0, .ref 0), (1, .ref 16), (2, .ref 44), (3, .int x3)] [.long ((((h_ai h 0 (x3 + 1).toNatClampNeg).toInt64) <<< ((32 : Int32).toInt64 &&& 63)) ||| (((h_ai h 0 (x3 + 2).toNatClampNeg).toInt64) &&& (Int64.ofNat 4294967295))), .ref 16] rfl ?_
  refine w_cv (As := [.long ((((h_ai h 0 (x3 + 1).toNatClampNeg).toInt64) <<< ((32 : Int32).toInt64 &&& 63)) ||| (((h_ai h 0 (x3 + 2).toNatClampNeg).toInt64) &&& (Int64.ofNat 4294967295)))]) (b := 16) (rest := []) rfl rfl rfl (Nat.le_of_ble_eq_true rfl) (kd_16 sh) (fun z => absurd z (by decide)) (dc := 1) (by omega) (F.mono (fun r h5 F => ?_))
  obtain ⟨z6, rfl, sh5, F⟩ := F
  show w_p _ _ 172 [(0, .ref 0), (1, .ref 16), (2, .ref 44), (3, .int x3)] [.int z6] h5 _
  refine w_b 5 177 [(0, .ref 0), (1, .ref 16), (2, .ref 44), (3, .int x3)] [.int (x3 + 1), .ref 0, .ref 44, .int z6] rfl ?_
  obtain ⟨g7, F⟩ := F
  obtain ⟨g8, F⟩ := F
  refine w_iald rfl g7 g8 ?_
  refine w_b 7 186 [(0, .ref 0), (1, .ref 16), (2, .ref 44), (3, .int x3)] [.int (x3 + 2), .ref 0, .long (((h_ai h5 0 (x3 + 1).toNatClampNeg).toInt64) <<< ((32 : Int32).toInt64 &&& 63)), .ref 44, .int z6] rfl ?_
  obtain ⟨g9, F⟩ := F
  obtain ⟨g10, F⟩ := F
  refine w_iald rfl g9 g10 ?_
  refine w_b 4 193 [(0, .ref 0), (1, .ref 16), (2, .ref 44), (3, .int x3)] [.long ((((h_ai h5 0 (x3 + 1).toNatClampNeg).toInt64) <<< ((32 : Int32).toInt64 &&& 63)) ||| (((h_ai h5 0 (x3 + 2).toNatClampNeg).toInt64) &&& (Int64.ofNat 4294967295))), .ref 44, .int z6] rfl ?_
  refine w_cv (As := [.long ((((h_ai h5 0 (x3 + 1).toNatClampNeg).toInt64) <<< ((32 : Int32).toInt64 &&& 63)) ||| (((h_ai h5 0 (x3 + 2).toNatClampNeg).toInt64) &&& (Int64.ofNat 4294967295)))]) (b := 44) (rest := [.int z6]) rfl rfl rfl (Nat.le_of_ble_eq_true rfl) (kd_44 sh5) (fun z => absurd z (by decide)) (dc := 0) (by omega) (F.mono (fun r h11 F => ?_))
  obtain ⟨z12, rfl, sh11, F⟩ := F
  show w_p _ _ 196 [(0, .ref 0), (1, .ref 16), (2, .ref 44), (3, .int x3)] [.int z12, .int z6] h11 _
  refine w_ic_eq (tgt := 879) (x := z6) (y := z12) rfl (by decide) ⟨fun c13 => ?_, fun c13 => ?_⟩
  · have F := F.1 c13
    exact k879 _ _ F
  · have F := F.2 c13
    refine w_b 1 200 [(0, .ref 0), (1, .ref 16), (2, .ref 44), (3, .int x3)] [.int 0] rfl ?_
    exact w_br rfl (by decide) F

set_option maxRecDepth 20000 in
theorem t_L_law_201 {h : mm_H} {Q : Option Value → mm_H → Prop} (sh : s_h h) (x3 : Int32) {K879 : Int32 → mm_H → Prop} (k879 : ∀ (x3 : Int32) (h : mm_H), K879 x3 h → w_p 1000 (99, 4, mc_L_law) 879 [(0, .ref 0), (1, .ref 16), (2, .ref 44), (3, .int x3)] [] h Q) 
    (F : (h_kd h 0 = 20 ∧ (vp_in (x3 + 1) (h_al h 0) ∧ w_c 0 63 [.ref 16, .int (h_ai h 0 (x3 + 1).toNatClampNeg)] h (fun r h3 => ∃ z4 : Int32, r = some (.int z4) ∧ s_h h3 ∧ (h_kd h3 0 = 20 ∧ (vp_in (x3 + 1) (h_al h3 0) ∧ w_c 1 105 [.ref 44, .int (h_ai h3 0 (x3 + 1).toNatClampNeg)] h3 (fun r h7 => ∃ z8 : Int32, r = some (.int z8) ∧ s_h h7 ∧ ((z4 = z8 → K879 x3 h7) ∧ (¬ (z4 = z8) → Q (some (.int 0)) h7))))))))) :
    w_p 1000 (99, 4, mc_L_law) 201 [(0, .ref 0), (1, .ref 16), (2, .ref 44), (3, .int x3)] [] h Q := by
  refine w_b 5 206 [(0, .ref 0), (1, .ref 16), (2, .ref 44), (3, .int x3)] [.int (x3 + 1), .ref 0, .ref 16] rfl ?_
  obtain ⟨g1, F⟩ := F
  obtain ⟨g2, F⟩ := F
  refine w_iald rfl g1 g2 ?_
  refine w_cv (As := [.int (h_ai h 0 (x3 + 1).toNatClampNeg)]) (b := 16) (rest := []) rfl rfl rfl (Nat.le_of_ble_eq_true rfl) (kd_16 sh) (fun z => absurd z (by decide)) (dc := 0) (by omega) (F.mono (fun r h3 F => ?_))
  obtain ⟨z4, rfl, sh3, F⟩ := F
  show w_p _ _ 210 [(0, .ref 0), (1, .ref 16), (2, .ref 44), (3, .int x3)] [.int z4] h3 _
  refine w_b 5 215 [(0, .ref 0), (1, .ref 16), (2, .ref 44), (3, .int x3)] [.int (x3 + 1), .ref 0, .ref 44, .int z4] rfl ?_
  obtain ⟨g5, F⟩ := F
  obtain ⟨g6, F⟩ := F
  refine w_iald rfl g5 g6 ?_
  refine w_cv (As := [.int (h_ai h3 0 (x3 + 1).toNatClampNeg)]) (b := 44) (rest := [.int z4]) rfl rfl rfl (Nat.le_of_ble_eq_true rfl) (kd_44 sh3) (fun z => absurd z (by decide)) (dc := 1) (by omega) (F.mono (fun r h7 F => ?_))
  obtain ⟨z8, rfl, sh7, F⟩ := F
  show w_p _ _ 219 [(0, .ref 0), (1, .ref 16), (2, .ref 44), (3, .int x3)] [.int z8, .int z4] h7 _
  refine w_ic_eq (tgt := 879) (x := z4) (y := z8) rfl (by decide) ⟨fun c9 => ?_, fun c9 => ?_⟩
  · have F := F.1 c9
    exact k879 _ _ F
  · have F := F.2 c9
    refine w_b 1 223 [(0, .ref 0), (1, .ref 16), (2, .ref 44), (3, .int x3)] [.int 0] rfl ?_
    exact w_br rfl (by decide) F

set_option maxRecDepth 20000 in
theorem t_L_law_224 {h : mm_H} {Q : Option Value → mm_H → Prop} (sh : s_h h) (x3 : Int32) {K879 : Int32 → mm_H → Prop} (k879 : ∀ (x3 : Int32) (h : mm_H), K879 x3 h → w_p 1000 (99, 4, mc_L_law) 879 [(0, .ref 0), (1, .ref 16), (2, .ref 44), (3, .int x3)] [] h Q) 
    (F : (h_kd h 0 = 20 ∧ (vp_in (x3 + 1) (h_al h 0) ∧ w_c 26 64 [.ref 16, .int (h_ai h 0 (x3 + 1).toNatClampNeg)] h (fun r h3 => ∃ z4 : Int32, r = some (.int z4) ∧ s_h h3 ∧ (h_kd h3 0 = 20 ∧ (vp_in (x3 + 1) (h_al h3 0) ∧ w_c 5 112 [.ref 44, .int (h_ai h3 0 (x3 + 1).toNatClampNeg)] h3 (fun r h7 => ∃ z8 : Int32, r = some (.int z8) ∧ s_h h7 ∧ ((z4 = z8 → K879 x3 h7) ∧ (¬ (z4 = z8) → Q (some (.int 0)) h7))))))))) :
    w_p 1000 (99, 4, mc_L_law) 224 [(0, .ref 0), (1, .ref 16), (2, .ref 44), (3, .int x3)] [] h Q := by
  refine w_b 5 229 [(0, .ref 0), (1, .ref 16), (2, .ref 44), (3, .int x3)] [.int (x3 + 1), .ref 0, .ref 16] rfl ?_
  obtain ⟨g1, F⟩ := F
  obtain ⟨g2, F⟩ := F
  refine w_iald rfl g1 g2 ?_
  refine w_cv (As := [.int (h_ai h 0 (x3 + 1).toNatClampNeg)]) (b := 16) (rest := []) rfl rfl rfl (Nat.le_of_ble_eq_true rfl) (kd_16 sh) (fun z => absurd z (by decide)) (dc := 26) (by omega) (F.mono (fun r h3 F => ?_))
  obtain ⟨z4, rfl, sh3, F⟩ := F
  show w_p _ _ 233 [(0, .ref 0), (1, .ref 16), (2, .ref 44), (3, .int x3)] [.int z4] h3 _
  refine w_b 5 238 [(0, .ref 0), (1, .ref 16), (2, .ref 44), (3, .int x3)] [.int (x3 + 1), .ref 0, .ref 44, .int z4] rfl ?_
  obtain ⟨g5, F⟩ := F
  obtain ⟨g6, F⟩ := F
  refine w_iald rfl g5 g6 ?_
  refine w_cv (As := [.int (h_ai h3 0 (x3 + 1).toNatClampNeg)]) (b := 44) (rest := [.int z4]) rfl rfl rfl (Nat.le_of_ble_eq_true rfl) (kd_44 sh3) (fun z => absurd z (by decide)) (dc := 5) (by omega) (F.mono (fun r h7 F => ?_))
  obtain ⟨z8, rfl, sh7, F⟩ := F
  show w_p _ _ 242 [(0, .ref 0), (1, .ref 16), (2, .ref 44), (3, .int x3)] [.int z8, .int z4] h7 _
  refine w_ic_eq (tgt := 879) (x := z4) (y := z8) rfl (by decide) ⟨fun c9 => ?_, fun c9 => ?_⟩
  · have F := F.1 c9
    exact k879 _ _ F
  · have F := F.2 c9
    refine w_b 1 246 [(0, .ref 0), (1, .ref 16), (2, .ref 44), (3, .int x3)] [.int 0] rfl ?_
    exact w_br rfl (by decide) F

set_option maxRecDepth 20000 in
theorem t_L_law_247 {h : mm_H} {Q : Option Value → mm_H → Prop} (sh : s_h h) (x3 : Int32) {K879 : Int32 → mm_H → Prop} (k879 : ∀ (x3 : Int32) (h : mm_H), K879 x3 h → w_p 1000 (99, 4, mc_L_law) 879 [(0, .ref 0), (1, .ref 16), (2, .ref 44), (3, .int x3)] [] h Q) 
    (F : w_c 0 65 [.ref 16] h (fun r h1 => ∃ z2 : Int32, r = some (.int z2) ∧ s_h h1 ∧ w_c 0 113 [.ref 44] h1 (fun r h3 => ∃ z4 : Int32, r = some (.int z4) ∧ s_h h3 ∧ ((z2 = z4 → K879 x3 h3) ∧ (¬ (z2 = z4) → Q (some (.int 0)) h3))))) :
    w_p 1000 (99, 4, mc_L_law) 247 [(0, .ref 0), (1, .ref 16), (2, .ref 44), (3, .int x3)] [] h Q := by
  refine w_b 1 248 [(0, .ref 0), (1, .ref 16), (2, .ref 44), (3, .int x3)] [.ref 16] rfl ?_
  refine w_cv (As := []) (b := 16) (rest := []) rfl rfl rfl (Nat.le_of_ble_eq_true rfl) (kd_16 sh) (fun z => absurd z (by decide)) (dc := 0) (by omega) (F.mono (fun r h1 F => ?_))
  obtain ⟨z2, rfl, sh1, F⟩ := F
  show w_p _ _ 251 [(0, .ref 0), (1, .ref 16), (2, .ref 44), (3, .int x3)] [.int z2] h1 _
  refine w_b 1 252 [(0, .ref 0), (1, .ref 16), (2, .ref 44), (3, .int x3)] [.ref 44, .int z2] rfl ?_
  refine w_cv (As := []) (b := 44) (rest := [.int z2]) rfl rfl rfl (Nat.le_of_ble_eq_true rfl) (kd_44 sh1) (fun z => absurd z (by decide)) (dc := 0) (by omega) (F.mono (fun r h3 F => ?_))
  obtain ⟨z4, rfl, sh3, F⟩ := F
  show w_p _ _ 255 [(0, .ref 0), (1, .ref 16), (2, .ref 44), (3, .int x3)] [.int z4, .int z2] h3 _
  refine w_ic_eq (tgt := 879) (x := z2) (y := z4) rfl (by decide) ⟨fun c5 => ?_, fun c5 => ?_⟩
  · have F := F.1 c5
    exact k879 _ _ F
  · have F := F.2 c5
    refine w_b 1 259 [(0, .ref 0), (1, .ref 16), (2, .ref 44), (3, .int x3)] [.int 0] rfl ?_
    exact w_br rfl (by decide) F

set_option maxRecDepth 20000 in
theorem t_L_law_260 {h : mm_H} {Q : Option Value → mm_H → Prop} (sh : s_h h) (x3 : Int32) {K879 : Int32 → mm_H → Prop} (k879 : ∀ (x3 : Int32) (h : mm_H), K879 x3 h → w_p 1000 (99, 4, mc_L_law) 879 [(0, .ref 0), (1, .ref 16), (2, .ref 44), (3, .int x3)] [] h Q) 
    (F : w_c 1 66 [.ref 16] h (fun r h1 => ∃ z2 : Int32, r = some (.int z2) ∧ s_h h1 ∧ w_c 1 114 [.ref 44] h1 (fun r h3 => ∃ z4 : Int32, r = some (.int z4) ∧ s_h h3 ∧ ((z2 = z4 → K879 x3 h3) ∧ (¬ (z2 = z4) → Q (some (.int 0)) h3))))) :
    w_p 1000 (99, 4, mc_L_law) 260 [(0, .ref 0), (1, .ref 16), (2, .ref 44), (3, .int x3)] [] h Q := by
  refine w_b 1 261 [(0, .ref 0), (1, .ref 16), (2, .ref 44), (3, .int x3)] [.ref 16] rfl ?_
  refine w_cv (As := []) (b := 16) (rest := []) rfl rfl rfl (Nat.le_of_ble_eq_true rfl) (kd_16 sh) (fun z => absurd z (by decide)) (dc := 1) (by omega) (F.mono (fun r h1 F => ?_))
  obtain ⟨z2, rfl, sh1, F⟩ := F
  show w_p _ _ 264 [(0, .ref 0), (1, .ref 16), (2, .ref 44), (3, .int x3)] [.int z2] h1 _
  refine w_b 1 265 [(0, .ref 0), (1, .ref 16), (2, .ref 44), (3, .int x3)] [.ref 44, .int z2] rfl ?_
  refine w_cv (As := []) (b := 44) (rest := [.int z2]) rfl rfl rfl (Nat.le_of_ble_eq_true rfl) (kd_44 sh1) (fun z => absurd z (by decide)) (dc := 1) (by omega) (F.mono (fun r h3 F => ?_))
  obtain ⟨z4, rfl, sh3, F⟩ := F
  show w_p _ _ 268 [(0, .ref 0), (1, .ref 16), (2, .ref 44), (3, .int x3)] [.int z4, .int z2] h3 _
  refine w_ic_eq (tgt := 879) (x := z2) (y := z4) rfl (by decide) ⟨fun c5 => ?_, fun c5 => ?_⟩
  · have F := F.1 c5
    exact k879 _ _ F
  · have F := F.2 c5
    refine w_b 1 272 [(0, .ref 0), (1, .ref 16), (2, .ref 44), (3, .int x3)] [.int 0] rfl ?_
    exact w_br rfl (by decide) F

set_option maxRecDepth 20000 in
theorem t_L_law_273 {h : mm_H} {Q : Option Value → mm_H → Prop} (sh : s_h h) (x3 : Int32) {K879 : Int32 → mm_H → Prop} (k879 : ∀ (x3 : Int32) (h : mm_H), K879 x3 h → w_p 1000 (99, 4, mc_L_law) 879 [(0, .ref 0), (1, .ref 16), (2, .ref 44), (3, .int x3)] [] h Q) 
    (F : (h_kd h 0 = 20 ∧ (vp_in (x3 + 1) (h_al h 0) ∧ (h_kd h 0 = 20 ∧ (vp_in (x3 + 2) (h_al h 0) ∧ w_c 2 67 [.ref 16, .int (h_ai h 0 (x3 + 1).toNatClampNeg), .int (h_ai h 0 (x3 + 2).toNatClampNeg)] h (fun r h5 => ∃ z6 : Int32, r = some (.int z6) ∧ s_h h5 ∧ (h_kd h5 0 = 20 ∧ (vp_in (x3 + 1) (h_al h5 0) ∧ (h_kd h5 0 = 20 ∧ (vp_in (x3 + 2) (h_al h5 0) ∧ w_c 2 117 [.ref 44, .int (h_ai h5 0 (x3 + 1).toNatClampNeg), .int (h_ai h5 0 (x3 + 2).toNatClampNeg)] h5 (fun r h11 => ∃ z12 : Int32, r = some (.int z12) ∧ s_h h11 ∧ ((z6 = z12 → K879 x3 h11) ∧ (¬ (z6 = z12) → Q (some (.int 0)) h11))))))))))))) :
    w_p 1000 (99, 4, mc_L_law) 273 [(0, .ref 0), (1, .ref 16), (2, .ref 44), (3, .int x3)] [] h Q := by
  refine w_b 5 278 [(0, .ref 0), (1, .ref 16), (2, .ref 44), (3, .int x3)] [.int (x3 + 1), .ref 0, .ref 16] rfl ?_
  obtain ⟨g1, F⟩ := F
  obtain ⟨g2, F⟩ := F
  refine w_iald rfl g1 g2 ?_
  refine w_b 4 283 [(0, .ref 0), (1, .ref 16), (2, .ref 44), (3, .int x3)] [.int (x3 + 2), .ref 0, .int (h_ai h 0 (x3 + 1).toNatClampNeg), .ref 16] rfl ?_
  obtain ⟨g3, F⟩ := F
  obtain ⟨g4, F⟩ := F
  refine w_iald rfl g3 g4 ?_
  refine w_cv (As := [.int (h_ai h 0 (x3 + 1).toNatClampNeg), .int (h_ai h 0 (x3 + 2).toNatClampNeg)]) (b := 16) (rest := []) rfl rfl rfl (Nat.le_of_ble_eq_true rfl) (kd_16 sh) (fun z => absurd z (by decide)) (dc := 2) (by omega) (F.mono (fun r h5 F => ?_))
  obtain ⟨z6, rfl, sh5, F⟩ := F
  show w_p _ _ 287 [(0, .ref 0), (1, .ref 16), (2, .ref 44), (3, .int x3)] [.int z6] h5 _
  refine w_b 5 292 [(0, .ref 0), (1, .ref 16), (2, .ref 44), (3, .int x3)] [.int (x3 + 1), .ref 0, .ref 44, .int z6] rfl ?_
  obtain ⟨g7, F⟩ := F
  obtain ⟨g8, F⟩ := F
  refine w_iald rfl g7 g8 ?_
  refine w_b 4 297 [(0, .ref 0), (1, .ref 16), (2, .ref 44), (3, .int x3)] [.int (x3 + 2), .ref 0, .int (h_ai h5 0 (x3 + 1).toNatClampNeg), .ref 44, .int z6] rfl ?_
  obtain ⟨g9, F⟩ := F
  obtain ⟨g10, F⟩ := F
  refine w_iald rfl g9 g10 ?_
  refine w_cv (As := [.int (h_ai h5 0 (x3 + 1).toNatClampNeg), .int (h_ai h5 0 (x3 + 2).toNatClampNeg)]) (b := 44) (rest := [.int z6]) rfl rfl rfl (Nat.le_of_ble_eq_true rfl) (kd_44 sh5) (fun z => absurd z (by decide)) (dc := 2) (by omega) (F.mono (fun r h11 F => ?_))
  obtain ⟨z12, rfl, sh11, F⟩ := F
  show w_p _ _ 301 [(0, .ref 0), (1, .ref 16), (2, .ref 44), (3, .int x3)] [.int z12, .int z6] h11 _
  refine w_ic_eq (tgt := 879) (x := z6) (y := z12) rfl (by decide) ⟨fun c13 => ?_, fun c13 => ?_⟩
  · have F := F.1 c13
    exact k879 _ _ F
  · have F := F.2 c13
    refine w_b 1 305 [(0, .ref 0), (1, .ref 16), (2, .ref 44), (3, .int x3)] [.int 0] rfl ?_
    exact w_br rfl (by decide) F

set_option maxRecDepth 20000 in
theorem t_L_law_306 {h : mm_H} {Q : Option Value → mm_H → Prop} (sh : s_h h) (x3 : Int32) {K879 : Int32 → mm_H → Prop} (k879 : ∀ (x3 : Int32) (h : mm_H), K879 x3 h → w_p 1000 (99, 4, mc_L_law) 879 [(0, .ref 0), (1, .ref 16), (2, .ref 44), (3, .int x3)] [] h Q) 
    (F : (h_kd h 0 = 20 ∧ (vp_in (x3 + 1) (h_al h 0) ∧ w_c 3 68 [.ref 16, .int (h_ai h 0 (x3 + 1).toNatClampNeg)] h (fun r h3 => ∃ z4 : Int32, r = some (.int z4) ∧ s_h h3 ∧ (h_kd h3 0 = 20 ∧ (vp_in (x3 + 1) (h_al h3 0) ∧ w_c 3 120 [.ref 44, .int (h_ai h3 0 (x3 + 1).toNatClampNeg)] h3 (fun r h7 => ∃ z8 : Int32, r = some (.int z8) ∧ s_h h7 ∧ ((z4 = z8 → K879 x3 h7) ∧ (¬ (z4 = z8) → Q (some (.int 0)) h7))))))))) :
    w_p 1000 (99, 4, mc_L_law) 306 [(0, .ref 0), (1, .ref 16), (2, .ref 44), (3, .int x3)] [] h Q := by
  refine w_b 5 311 [(0, .ref 0), (1, .ref 16), (2, .ref 44), (3, .int x3)] [.int (x3 + 1), .ref 0, .ref 16] rfl ?_
  obtain ⟨g1, F⟩ := F
  obtain ⟨g2, F⟩ := F
  refine w_iald rfl g1 g2 ?_
  refine w_cv (As := [.int (h_ai h 0 (x3 + 1).toNatClampNeg)]) (b := 16) (rest := []) rfl rfl rfl (Nat.le_of_ble_eq_true rfl) (kd_16 sh) (fun z => absurd z (by decide)) (dc := 3) (by omega) (F.mono (fun r h3 F => ?_))
  obtain ⟨z4, rfl, sh3, F⟩ := F
  show w_p _ _ 315 [(0, .ref 0), (1, .ref 16), (2, .ref 44), (3, .int x3)] [.int z4] h3 _
  refine w_b 5 320 [(0, .ref 0), (1, .ref 16), (2, .ref 44), (3, .int x3)] [.int (x3 + 1), .ref 0, .ref 44, .int z4] rfl ?_
  obtain ⟨g5, F⟩ := F
  obtain ⟨g6, F⟩ := F
  refine w_iald rfl g5 g6 ?_
  refine w_cv (As := [.int (h_ai h3 0 (x3 + 1).toNatClampNeg)]) (b := 44) (rest := [.int z4]) rfl rfl rfl (Nat.le_of_ble_eq_true rfl) (kd_44 sh3) (fun z => absurd z (by decide)) (dc := 3) (by omega) (F.mono (fun r h7 F => ?_))
  obtain ⟨z8, rfl, sh7, F⟩ := F
  show w_p _ _ 324 [(0, .ref 0), (1, .ref 16), (2, .ref 44), (3, .int x3)] [.int z8, .int z4] h7 _
  refine w_ic_eq (tgt := 879) (x := z4) (y := z8) rfl (by decide) ⟨fun c9 => ?_, fun c9 => ?_⟩
  · have F := F.1 c9
    exact k879 _ _ F
  · have F := F.2 c9
    refine w_b 1 328 [(0, .ref 0), (1, .ref 16), (2, .ref 44), (3, .int x3)] [.int 0] rfl ?_
    exact w_br rfl (by decide) F

set_option maxRecDepth 20000 in
theorem t_L_law_329 {h : mm_H} {Q : Option Value → mm_H → Prop} (sh : s_h h) (x3 : Int32) {K879 : Int32 → mm_H → Prop} (k879 : ∀ (x3 : Int32) (h : mm_H), K879 x3 h → w_p 1000 (99, 4, mc_L_law) 879 [(0, .ref 0), (1, .ref 16), (2, .ref 44), (3, .int x3)] [] h Q) 
    (F : w_c 23 69 [.ref 16] h (fun r h1 => ∃ z2 : Int32, r = some (.int z2) ∧ s_h h1 ∧ w_c 2 122 [.ref 44] h1 (fun r h3 => ∃ z4 : Int32, r = some (.int z4) ∧ s_h h3 ∧ ((z2 = z4 → K879 x3 h3) ∧ (¬ (z2 = z4) → Q (some (.int 0)) h3))))) :
    w_p 1000 (99, 4, mc_L_law) 329 [(0, .ref 0), (1, .ref 16), (2, .ref 44), (3, .int x3)] [] h Q := by
  refine w_b 1 330 [(0, .ref 0), (1, .ref 16), (2, .ref 44), (3, .int x3)] [.ref 16] rfl ?_
  refine w_cv (As := []) (b := 16) (rest := []) rfl rfl rfl (Nat.le_of_ble_eq_true rfl) (kd_16 sh) (fun z => absurd z (by decide)) (dc := 23) (by omega) (F.mono (fun r h1 F => ?_))
  obtain ⟨z2, rfl, sh1, F⟩ := F
  show w_p _ _ 333 [(0, .ref 0), (1, .ref 16), (2, .ref 44), (3, .int x3)] [.int z2] h1 _
  refine w_b 1 334 [(0, .ref 0), (1, .ref 16), (2, .ref 44), (3, .int x3)] [.ref 44, .int z2] rfl ?_
  refine w_cv (As := []) (b := 44) (rest := [.int z2]) rfl rfl rfl (Nat.le_of_ble_eq_true rfl) (kd_44 sh1) (fun z => absurd z (by decide)) (dc := 2) (by omega) (F.mono (fun r h3 F => ?_))
  obtain ⟨z4, rfl, sh3, F⟩ := F
  show w_p _ _ 337 [(0, .ref 0), (1, .ref 16), (2, .ref 44), (3, .int x3)] [.int z4, .int z2] h3 _
  refine w_ic_eq (tgt := 879) (x := z2) (y := z4) rfl (by decide) ⟨fun c5 => ?_, fun c5 => ?_⟩
  · have F := F.1 c5
    exact k879 _ _ F
  · have F := F.2 c5
    refine w_b 1 341 [(0, .ref 0), (1, .ref 16), (2, .ref 44), (3, .int x3)] [.int 0] rfl ?_
    exact w_br rfl (by decide) F

set_option maxRecDepth 20000 in
theorem t_L_law_342 {h : mm_H} {Q : Option Value → mm_H → Prop} (sh : s_h h) (x3 : Int32) {K879 : Int32 → mm_H → Prop} (k879 : ∀ (x3 : Int32) (h : mm_H), K879 x3 h → w_p 1000 (99, 4, mc_L_law) 879 [(0, .ref 0), (1, .ref 16), (2, .ref 44), (3, .int x3)] [] h Q) 
    (F : (h_kd h 0 = 20 ∧ (vp_in (x3 + 1) (h_al h 0) ∧ w_c 2 70 [.ref 16, .int (h_ai h 0 (x3 + 1).toNatClampNeg)] h (fun r h3 => ∃ z4 : Int32, r = some (.int z4) ∧ s_h h3 ∧ (h_kd h3 0 = 20 ∧ (vp_in (x3 + 1) (h_al h3 0) ∧ w_c 2 123 [.ref 44, .int (h_ai h3 0 (x3 + 1).toNatClampNeg)] h3 (fun r h7 => ∃ z8 : Int32, r = some (.int z8) ∧ s_h h7 ∧ ((z4 = z8 → K879 x3 h7) ∧ (¬ (z4 = z8) → Q (some (.int 0)) h7))))))))) :
    w_p 1000 (99, 4, mc_L_law) 342 [(0, .ref 0), (1, .ref 16), (2, .ref 44), (3, .int x3)] [] h Q := by
  refine w_b 5 347 [(0, .ref 0), (1, .ref 16), (2, .ref 44), (3, .int x3)] [.int (x3 + 1), .ref 0, .ref 16] rfl ?_
  obtain ⟨g1, F⟩ := F
  obtain ⟨g2, F⟩ := F
  refine w_iald rfl g1 g2 ?_
  refine w_cv (As := [.int (h_ai h 0 (x3 + 1).toNatClampNeg)]) (b := 16) (rest := []) rfl rfl rfl (Nat.le_of_ble_eq_true rfl) (kd_16 sh) (fun z => absurd z (by decide)) (dc := 2) (by omega) (F.mono (fun r h3 F => ?_))
  obtain ⟨z4, rfl, sh3, F⟩ := F
  show w_p _ _ 351 [(0, .ref 0), (1, .ref 16), (2, .ref 44), (3, .int x3)] [.int z4] h3 _
  refine w_b 5 356 [(0, .ref 0), (1, .ref 16), (2, .ref 44), (3, .int x3)] [.int (x3 + 1), .ref 0, .ref 44, .int z4] rfl ?_
  obtain ⟨g5, F⟩ := F
  obtain ⟨g6, F⟩ := F
  refine w_iald rfl g5 g6 ?_
  refine w_cv (As := [.int (h_ai h3 0 (x3 + 1).toNatClampNeg)]) (b := 44) (rest := [.int z4]) rfl rfl rfl (Nat.le_of_ble_eq_true rfl) (kd_44 sh3) (fun z => absurd z (by decide)) (dc := 2) (by omega) (F.mono (fun r h7 F => ?_))
  obtain ⟨z8, rfl, sh7, F⟩ := F
  show w_p _ _ 360 [(0, .ref 0), (1, .ref 16), (2, .ref 44), (3, .int x3)] [.int z8, .int z4] h7 _
  refine w_ic_eq (tgt := 879) (x := z4) (y := z8) rfl (by decide) ⟨fun c9 => ?_, fun c9 => ?_⟩
  · have F := F.1 c9
    exact k879 _ _ F
  · have F := F.2 c9
    refine w_b 1 364 [(0, .ref 0), (1, .ref 16), (2, .ref 44), (3, .int x3)] [.int 0] rfl ?_
    exact w_br rfl (by decide) F

set_option maxRecDepth 20000 in
theorem t_L_law_365 {h : mm_H} {Q : Option Value → mm_H → Prop} (sh : s_h h) (x3 : Int32) {K879 : Int32 → mm_H → Prop} (k879 : ∀ (x3 : Int32) (h : mm_H), K879 x3 h → w_p 1000 (99, 4, mc_L_law) 879 [(0, .ref 0), (1, .ref 16), (2, .ref 44), (3, .int x3)] [] h Q) 
    (F : (h_kd h 0 = 20 ∧ (vp_in (x3 + 1) (h_al h 0) ∧ (h_kd h 0 = 20 ∧ (vp_in (x3 + 2) (h_al h 0) ∧ (h_kd h 0 = 20 ∧ (vp_in (x3 + 3) (h_al h 0) ∧ (((h_ai h 0 (x3 + 3).toNatClampNeg) = 0 → w_c 2 71 [.ref 16, .int (h_ai h 0 (x3 + 1).toNatClampNeg), .int (h_ai h 0 (x3 + 2).toNatClampNeg), .int 0] h (fun r h8 => ∃ z9 : Int32, r = some (.int z9) ∧ s_h h8 ∧ (h_kd h8 0 = 20 ∧ (vp_in (x3 + 1) (h_al h8 0) ∧ (h_kd h8 0 = 20 ∧ (vp_in (x3 + 2) (h_al h8 0) ∧ (h_kd h8 0 = 20 ∧ (vp_in (x3 + 3) (h_al h8 0) ∧ (((h_ai h8 0 (x3 + 3).toNatClampNeg) = 0 → w_c 2 124 [.ref 44, .int (h_ai h8 0 (x3 + 1).toNatClampNeg), .int (h_ai h8 0 (x3 + 2).toNatClampNeg), .int 0] h8 (fun r h17 => ∃ z18 : Int32, r = some (.int z18) ∧ s_h h17 ∧ ((z9 = z18 → K879 x3 h17) ∧ (¬ (z9 = z18) → Q (some (.int 0)) h17)))) ∧ (¬ ((h_ai h8 0 (x3 + 3).toNatClampNeg) = 0) → w_c 2 124 [.ref 44, .int (h_ai h8 0 (x3 + 1).toNatClampNeg), .int (h_ai h8 0 (x3 + 2).toNatClampNeg), .int 1] h8 (fun r h20 => ∃ z21 : Int32, r = some (.int z21) ∧ s_h h20 ∧ ((z9 = z21 → K879 x3 h20) ∧ (¬ (z9 = z21) → Q (some (.int 0)) h20))))))))))))) ∧ (¬ ((h_ai h 0 (x3 + 3).toNatClampNeg) = 0) → w_c 2 71 [.ref 16, .int (h_ai h 0 (x3 + 1).toNatClampNeg), .int (h_ai h 0 (x3 + 2).toNatClampNeg), .int 1] h (fun r h23 => ∃ z24 : Int32, r = some (.int z24) ∧ s_h h23 ∧ (h_kd h23 0 = 20 ∧ (vp_in (x3 + 1) (h_al h23 0) ∧ (h_kd h23 0 = 20 ∧ (vp_in (x3 + 2) (h_al h23 0) ∧ (h_kd h23 0 = 20 ∧ (vp_in (x3 + 3) (h_al h23 0) ∧ (((h_ai h23 0 (x3 + 3).toNatClampNeg) = 0 → w_c 2 124 [.ref 44, .int (h_ai h23 0 (x3 + 1).toNatClampNeg), .int (h_ai h23 0 (x3 + 2).toNatClampNeg), .int 0] h23 (fun r h32 => ∃ z33 : Int32, r = some (.int z33) ∧ s_h h32 ∧ ((z24 = z33 → K879 x3 h32) ∧ (¬ (z24 = z33) → Q (some (.int 0)) h32)))) ∧ (¬ ((h_ai h23 0 (x3 + 3).toNatClampNeg) = 0) → w_c 2 124 [.ref 44, .int (h_ai h23 0 (x3 + 1).toNatClampNeg), .int (h_ai h23 0 (x3 + 2).toNatClampNeg), .int 1] h23 (fun r h35 => ∃ z36 : Int32, r = some (.int z36) ∧ s_h h35 ∧ ((z24 = z36 → K879 x3 h35) ∧ (¬ (z24 = z36) → Q (some (.int 0)) h35))))))))))))))))))))) :
    w_p 1000 (99, 4, mc_L_law) 365 [(0, .ref 0), (1, .ref 16), (2, .ref 44), (3, .int x3)] [] h Q := by
  refine w_b 5 370 [(0, .ref 0), (1, .ref 16), (2, .ref 44), (3, .int x3)] [.int (x3 + 1), .ref 0, .ref 16] rfl ?_
  obtain ⟨g1, F⟩ := F
  obtain ⟨g2, F⟩ := F
  refine w_iald rfl g1 g2 ?_
  refine w_b 4 375 [(0, .ref 0), (1, .ref 16), (2, .ref 44), (3, .int x3)] [.int (x3 + 2), .ref 0, .int (h_ai h 0 (x3 + 1).toNatClampNeg), .ref 16] rfl ?_
  obtain ⟨g3, F⟩ := F
  obtain ⟨g4, F⟩ := F
  refine w_iald rfl g3 g4 ?_
  refine w_b 4 380 [(0, .ref 0), (1, .ref 16), (2, .ref 44), (3, .int x3)] [.int (x3 + 3), .ref 0, .int (h_ai h 0 (x3 + 2).toNatClampNeg), .int (h_ai h 0 (x3 + 1).toNatClampNeg), .ref 16] rfl ?_
  obtain ⟨g5, F⟩ := F
  obtain ⟨g6, F⟩ := F
  refine w_iald rfl g5 g6 ?_
  refine w_if_eq (tgt := 388) (x := h_ai h 0 (x3 + 3).toNatClampNeg) rfl (by decide) ⟨fun c7 => ?_, fun c7 => ?_⟩
  · have F := F.1 c7
    refine w_b 1 389 [(0, .ref 0), (1, .ref 16), (2, .ref 44), (3, .int x3)] [.int 0, .int (h_ai h 0 (x3 + 2).toNatClampNeg), .int (h_ai h 0 (x3 + 1).toNatClampNeg), .ref 16] rfl ?_
    refine w_cv (As := [.int (h_ai h 0 (x3 + 1).toNatClampNeg), .int (h_ai h 0 (x3 + 2).toNatClampNeg), .int 0]) (b := 16) (rest := []) rfl rfl rfl (Nat.le_of_ble_eq_true rfl) (kd_16 sh) (fun z => absurd z (by decide)) (dc := 2) (by omega) (F.mono (fun r h8 F => ?_))
    obtain ⟨z9, rfl, sh8, F⟩ := F
    show w_p _ _ 392 [(0, .ref 0), (1, .ref 16), (2, .ref 44), (3, .int x3)] [.int z9] h8 _
    refine w_b 5 397 [(0, .ref 0), (1, .ref 16), (2, .ref 44), (3, .int x3)] [.int (x3 + 1), .ref 0, .ref 44, .int z9] rfl ?_
    obtain ⟨g10, F⟩ := F
    obtain ⟨g11, F⟩ := F
    refine w_iald rfl g10 g11 ?_
    refine w_b 4 402 [(0, .ref 0), (1, .ref 16), (2, .ref 44), (3, .int x3)] [.int (x3 + 2), .ref 0, .int (h_ai h8 0 (x3 + 1).toNatClampNeg), .ref 44, .int z9] rfl ?_
    obtain ⟨g12, F⟩ := F
    obtain ⟨g13, F⟩ := F
    refine w_iald rfl g12 g13 ?_
    refine w_b 4 407 [(0, .ref 0), (1, .ref 16), (2, .ref 44), (3, .int x3)] [.int (x3 + 3), .ref 0, .int (h_ai h8 0 (x3 + 2).toNatClampNeg), .int (h_ai h8 0 (x3 + 1).toNatClampNeg), .ref 44, .int z9] rfl ?_
    obtain ⟨g14, F⟩ := F
    obtain ⟨g15, F⟩ := F
    refine w_iald rfl g14 g15 ?_
    refine w_if_eq (tgt := 415) (x := h_ai h8 0 (x3 + 3).toNatClampNeg) rfl (by decide) ⟨fun c16 => ?_, fun c16 => ?_⟩
    · have F := F.1 c16
      refine w_b 1 416 [(0, .ref 0), (1, .ref 16), (2, .ref 44), (3, .int x3)] [.int 0, .int (h_ai h8 0 (x3 + 2).toNatClampNeg), .int (h_ai h8 0 (x3 + 1).toNatClampNeg), .ref 44, .int z9] rfl ?_
      refine w_cv (As := [.int (h_ai h8 0 (x3 + 1).toNatClampNeg), .int (h_ai h8 0 (x3 + 2).toNatClampNeg), .int 0]) (b := 44) (rest := [.int z9]) rfl rfl rfl (Nat.le_of_ble_eq_true rfl) (kd_44 sh8) (fun z => absurd z (by decide)) (dc := 2) (by omega) (F.mono (fun r h17 F => ?_))
      obtain ⟨z18, rfl, sh17, F⟩ := F
      show w_p _ _ 419 [(0, .ref 0), (1, .ref 16), (2, .ref 44), (3, .int x3)] [.int z18, .int z9] h17 _
      refine w_ic_eq (tgt := 879) (x := z9) (y := z18) rfl (by decide) ⟨fun c19 => ?_, fun c19 => ?_⟩
      · have F := F.1 c19
        exact k879 _ _ F
      · have F := F.2 c19
        refine w_b 1 423 [(0, .ref 0), (1, .ref 16), (2, .ref 44), (3, .int x3)] [.int 0] rfl ?_
        exact w_br rfl (by decide) F
    · have F := F.2 c16
      refine w_b 2 416 [(0, .ref 0), (1, .ref 16), (2, .ref 44), (3, .int x3)] [.int 1, .int (h_ai h8 0 (x3 + 2).toNatClampNeg), .int (h_ai h8 0 (x3 + 1).toNatClampNeg), .ref 44, .int z9] rfl ?_
      refine w_cv (As := [.int (h_ai h8 0 (x3 + 1).toNatClampNeg), .int (h_ai h8 0 (x3 + 2).toNatClampNeg), .int 1]) (b := 44) (rest := [.int z9]) rfl rfl rfl (Nat.le_of_ble_eq_true rfl) (kd_44 sh8) (fun z => absurd z (by decide)) (dc := 2) (by omega) (F.mono (fun r h20 F => ?_))
      obtain ⟨z21, rfl, sh20, F⟩ := F
      show w_p _ _ 419 [(0, .ref 0), (1, .ref 16), (2, .ref 44), (3, .int x3)] [.int z21, .int z9] h20 _
      refine w_ic_eq (tgt := 879) (x := z9) (y := z21) rfl (by decide) ⟨fun c22 => ?_, fun c22 => ?_⟩
      · have F := F.1 c22
        exact k879 _ _ F
      · have F := F.2 c22
        refine w_b 1 423 [(0, .ref 0), (1, .ref 16), (2, .ref 44), (3, .int x3)] [.int 0] rfl ?_
        exact w_br rfl (by decide) F
  · have F := F.2 c7
    refine w_b 2 389 [(0, .ref 0), (1, .ref 16), (2, .ref 44), (3, .int x3)] [.int 1, .int (h_ai h 0 (x3 + 2).toNatClampNeg), .int (h_ai h 0 (x3 + 1).toNatClampNeg), .ref 16] rfl ?_
    refine w_cv (As := [.int (h_ai h 0 (x3 + 1).toNatClampNeg), .int (h_ai h 0 (x3 + 2).toNatClampNeg), .int 1]) (b := 16) (rest := []) rfl rfl rfl (Nat.le_of_ble_eq_true rfl) (kd_16 sh) (fun z => absurd z (by decide)) (dc := 2) (by omega) (F.mono (fun r h23 F => ?_))
    obtain ⟨z24, rfl, sh23, F⟩ := F
    show w_p _ _ 392 [(0, .ref 0), (1, .ref 16), (2, .ref 44), (3, .int x3)] [.int z24] h23 _
    refine w_b 5 397 [(0, .ref 0), (1, .ref 16), (2, .ref 44), (3, .int x3)] [.int (x3 + 1), .ref 0, .ref 44, .int z24] rfl ?_
    obtain ⟨g25, F⟩ := F
    obtain ⟨g26, F⟩ := F
    refine w_iald rfl g25 g26 ?_
    refine w_b 4 402 [(0, .ref 0), (1, .ref 16), (2, .ref 44), (3, .int x3)] [.int (x3 + 2), .ref 0, .int (h_ai h23 0 (x3 + 1).toNatClampNeg), .ref 44, .int z24] rfl ?_
    obtain ⟨g27, F⟩ := F
    obtain ⟨g28, F⟩ := F
    refine w_iald rfl g27 g28 ?_
    refine w_b 4 407 [(0, .ref 0), (1, .ref 16), (2, .ref 44), (3, .int x3)] [.int (x3 + 3), .ref 0, .int (h_ai h23 0 (x3 + 2).toNatClampNeg), .int (h_ai h23 0 (x3 + 1).toNatClampNeg), .ref 44, .int z24] rfl ?_
    obtain ⟨g29, F⟩ := F
    obtain ⟨g30, F⟩ := F
    refine w_iald rfl g29 g30 ?_
    refine w_if_eq (tgt := 415) (x := h_ai h23 0 (x3 + 3).toNatClampNeg) rfl (by decide) ⟨fun c31 => ?_, fun c31 => ?_⟩
    · have F := F.1 c31
      refine w_b 1 416 [(0, .ref 0), (1, .ref 16), (2, .ref 44), (3, .int x3)] [.int 0, .int (h_ai h23 0 (x3 + 2).toNatClampNeg), .int (h_ai h23 0 (x3 + 1).toNatClampNeg), .ref 44, .int z24] rfl ?_
      refine w_cv (As := [.int (h_ai h23 0 (x3 + 1).toNatClampNeg), .int (h_ai h23 0 (x3 + 2).toNatClampNeg), .int 0]) (b := 44) (rest := [.int z24]) rfl rfl rfl (Nat.le_of_ble_eq_true rfl) (kd_44 sh23) (fun z => absurd z (by decide)) (dc := 2) (by omega) (F.mono (fun r h32 F => ?_))
      obtain ⟨z33, rfl, sh32, F⟩ := F
      show w_p _ _ 419 [(0, .ref 0), (1, .ref 16), (2, .ref 44), (3, .int x3)] [.int z33, .int z24] h32 _
      refine w_ic_eq (tgt := 879) (x := z24) (y := z33) rfl (by decide) ⟨fun c34 => ?_, fun c34 => ?_⟩
      · have F := F.1 c34
        exact k879 _ _ F
      · have F := F.2 c34
        refine w_b 1 423 [(0, .ref 0), (1, .ref 16), (2, .ref 44), (3, .int x3)] [.int 0] rfl ?_
        exact w_br rfl (by decide) F
    · have F := F.2 c31
      refine w_b 2 416 [(0, .ref 0), (1, .ref 16), (2, .ref 44), (3, .int x3)] [.int 1, .int (h_ai h23 0 (x3 + 2).toNatClampNeg), .int (h_ai h23 0 (x3 + 1).toNatClampNeg), .ref 44, .int z24] rfl ?_
      refine w_cv (As := [.int (h_ai h23 0 (x3 + 1).toNatClampNeg), .int (h_ai h23 0 (x3 + 2).toNatClampNeg), .int 1]) (b := 44) (rest := [.int z24]) rfl rfl rfl (Nat.le_of_ble_eq_true rfl) (kd_44 sh23) (fun z => absurd z (by decide)) (dc := 2) (by omega) (F.mono (fun r h35 F => ?_))
      obtain ⟨z36, rfl, sh35, F⟩ := F
      show w_p _ _ 419 [(0, .ref 0), (1, .ref 16), (2, .ref 44), (3, .int x3)] [.int z36, .int z24] h35 _
      refine w_ic_eq (tgt := 879) (x := z24) (y := z36) rfl (by decide) ⟨fun c37 => ?_, fun c37 => ?_⟩
      · have F := F.1 c37
        exact k879 _ _ F
      · have F := F.2 c37
        refine w_b 1 423 [(0, .ref 0), (1, .ref 16), (2, .ref 44), (3, .int x3)] [.int 0] rfl ?_
        exact w_br rfl (by decide) F

set_option maxRecDepth 20000 in
theorem t_L_law_424 {h : mm_H} {Q : Option Value → mm_H → Prop} (sh : s_h h) (x3 : Int32) {K879 : Int32 → mm_H → Prop} (k879 : ∀ (x3 : Int32) (h : mm_H), K879 x3 h → w_p 1000 (99, 4, mc_L_law) 879 [(0, .ref 0), (1, .ref 16), (2, .ref 44), (3, .int x3)] [] h Q) 
    (F : (h_kd h 0 = 20 ∧ (vp_in (x3 + 1) (h_al h 0) ∧ (h_kd h 0 = 20 ∧ (vp_in (x3 + 2) (h_al h 0) ∧ w_c 1 72 [.ref 16, .int (h_ai h 0 (x3 + 1).toNatClampNeg), .int (h_ai h 0 (x3 + 2).toNatClampNeg)] h (fun r h5 => ∃ z6 : Int32, r = some (.int z6) ∧ s_h h5 ∧ (h_kd h5 0 = 20 ∧ (vp_in (x3 + 1) (h_al h5 0) ∧ (h_kd h5 0 = 20 ∧ (vp_in (x3 + 2) (h_al h5 0) ∧ w_c 2 126 [.ref 44, .int (h_ai h5 0 (x3 + 1).toNatClampNeg), .int (h_ai h5 0 (x3 + 2).toNatClampNeg)] h5 (fun r h11 => ∃ z12 : Int32, r = some (.int z12) ∧ s_h h11 ∧ ((z6 = z12 → K879 x3 h11) ∧ (¬ (z6 = z12) → Q (some (.int 0)) h11))))))))))))) :
    w_p 1000 (99, 4, mc_L_law) 424 [(0, .ref 0), (1, .ref 16), (2, .ref 44), (3, .int x3)] [] h Q := by
  refine w_b 5 429 [(0, .ref 0), (1, .ref 16), (2, .ref 44), (3, .int x3)] [.int (x3 + 1), .ref 0, .ref 16] rfl ?_
  obtain ⟨g1, F⟩ := F
  obtain ⟨g2, F⟩ := F
  refine w_iald rfl g1 g2 ?_
  refine w_b 4 434 [(0, .ref 0), (1, .ref 16), (2, .ref 44), (3, .int x3)] [.int (x3 + 2), .ref 0, .int (h_ai h 0 (x3 + 1).toNatClampNeg), .ref 16] rfl ?_
  obtain ⟨g3, F⟩ := F
  obtain ⟨g4, F⟩ := F
  refine w_iald rfl g3 g4 ?_
  refine w_cv (As := [.int (h_ai h 0 (x3 + 1).toNatClampNeg), .int (h_ai h 0 (x3 + 2).toNatClampNeg)]) (b := 16) (rest := []) rfl rfl rfl (Nat.le_of_ble_eq_true rfl) (kd_16 sh) (fun z => absurd z (by decide)) (dc := 1) (by omega) (F.mono (fun r h5 F => ?_))
  obtain ⟨z6, rfl, sh5, F⟩ := F
  show w_p _ _ 438 [(0, .ref 0), (1, .ref 16), (2, .ref 44), (3, .int x3)] [.int z6] h5 _
  refine w_b 5 443 [(0, .ref 0), (1, .ref 16), (2, .ref 44), (3, .int x3)] [.int (x3 + 1), .ref 0, .ref 44, .int z6] rfl ?_
  obtain ⟨g7, F⟩ := F
  obtain ⟨g8, F⟩ := F
  refine w_iald rfl g7 g8 ?_
  refine w_b 4 448 [(0, .ref 0), (1, .ref 16), (2, .ref 44), (3, .int x3)] [.int (x3 + 2), .ref 0, .int (h_ai h5 0 (x3 + 1).toNatClampNeg), .ref 44, .int z6] rfl ?_
  obtain ⟨g9, F⟩ := F
  obtain ⟨g10, F⟩ := F
  refine w_iald rfl g9 g10 ?_
  refine w_cv (As := [.int (h_ai h5 0 (x3 + 1).toNatClampNeg), .int (h_ai h5 0 (x3 + 2).toNatClampNeg)]) (b := 44) (rest := [.int z6]) rfl rfl rfl (Nat.le_of_ble_eq_true rfl) (kd_44 sh5) (fun z => absurd z (by decide)) (dc := 2) (by omega) (F.mono (fun r h11 F => ?_))
  obtain ⟨z12, rfl, sh11, F⟩ := F
  show w_p _ _ 452 [(0, .ref 0), (1, .ref 16), (2, .ref 44), (3, .int x3)] [.int z12, .int z6] h11 _
  refine w_ic_eq (tgt := 879) (x := z6) (y := z12) rfl (by decide) ⟨fun c13 => ?_, fun c13 => ?_⟩
  · have F := F.1 c13
    exact k879 _ _ F
  · have F := F.2 c13
    refine w_b 1 456 [(0, .ref 0), (1, .ref 16), (2, .ref 44), (3, .int x3)] [.int 0] rfl ?_
    exact w_br rfl (by decide) F

set_option maxRecDepth 20000 in
theorem t_L_law_457 {h : mm_H} {Q : Option Value → mm_H → Prop} (sh : s_h h) (x3 : Int32) {K879 : Int32 → mm_H → Prop} (k879 : ∀ (x3 : Int32) (h : mm_H), K879 x3 h → w_p 1000 (99, 4, mc_L_law) 879 [(0, .ref 0), (1, .ref 16), (2, .ref 44), (3, .int x3)] [] h Q) 
    (F : (h_kd h 0 = 20 ∧ (vp_in (x3 + 1) (h_al h 0) ∧ (h_kd h 0 = 20 ∧ (vp_in (x3 + 2) (h_al h 0) ∧ (h_kd h 0 = 20 ∧ (vp_in (x3 + 3) (h_al h 0) ∧ w_c 2 73 [.ref 16, .int (h_ai h 0 (x3 + 1).toNatClampNeg), .int (h_ai h 0 (x3 + 2).toNatClampNeg), .int (h_ai h 0 (x3 + 3).toNatClampNeg)] h (fun r h7 => ∃ z8 : Int32, r = some (.int z8) ∧ s_h h7 ∧ (h_kd h7 0 = 20 ∧ (vp_in (x3 + 1) (h_al h7 0) ∧ (h_kd h7 0 = 20 ∧ (vp_in (x3 + 2) (h_al h7 0) ∧ (h_kd h7 0 = 20 ∧ (vp_in (x3 + 3) (h_al h7 0) ∧ w_c 3 130 [.ref 44, .int (h_ai h7 0 (x3 + 1).toNatClampNeg), .int (h_ai h7 0 (x3 + 2).toNatClampNeg), .int (h_ai h7 0 (x3 + 3).toNatClampNeg)] h7 (fun r h15 => ∃ z16 : Int32, r = some (.int z16) ∧ s_h h15 ∧ ((z8 = z16 → K879 x3 h15) ∧ (¬ (z8 = z16) → Q (some (.int 0)) h15))))))))))))))))) :
    w_p 1000 (99, 4, mc_L_law) 457 [(0, .ref 0), (1, .ref 16), (2, .ref 44), (3, .int x3)] [] h Q := by
  refine w_b 5 462 [(0, .ref 0), (1, .ref 16), (2, .ref 44), (3, .int x3)] [.int (x3 + 1), .ref 0, .ref 16] rfl ?_
  obtain ⟨g1, F⟩ := F
  obtain ⟨g2, F⟩ := F
  refine w_iald rfl g1 g2 ?_
  refine w_b 4 467 [(0, .ref 0), (1, .ref 16), (2, .ref 44), (3, .int x3)] [.int (x3 + 2), .ref 0, .int (h_ai h 0 (x3 + 1).toNatClampNeg), .ref 16] rfl ?_
  obtain ⟨g3, F⟩ := F
  obtain ⟨g4, F⟩ := F
  refine w_iald rfl g3 g4 ?_
  refine w_b 4 472 [(0, .ref 0), (1, .ref 16), (2, .ref 44), (3, .int x3)] [.int (x3 + 3), .ref 0, .int (h_ai h 0 (x3 + 2).toNatClampNeg), .int (h_ai h 0 (x3 + 1).toNatClampNeg), .ref 16] rfl ?_
  obtain ⟨g5, F⟩ := F
  obtain ⟨g6, F⟩ := F
  refine w_iald rfl g5 g6 ?_
  refine w_cv (As := [.int (h_ai h 0 (x3 + 1).toNatClampNeg), .int (h_ai h 0 (x3 + 2).toNatClampNeg), .int (h_ai h 0 (x3 + 3).toNatClampNeg)]) (b := 16) (rest := []) rfl rfl rfl (Nat.le_of_ble_eq_true rfl) (kd_16 sh) (fun z => absurd z (by decide)) (dc := 2) (by omega) (F.mono (fun r h7 F => ?_))
  obtain ⟨z8, rfl, sh7, F⟩ := F
  show w_p _ _ 476 [(0, .ref 0), (1, .ref 16), (2, .ref 44), (3, .int x3)] [.int z8] h7 _
  refine w_b 5 481 [(0, .ref 0), (1, .ref 16), (2, .ref 44), (3, .int x3)] [.int (x3 + 1), .ref 0, .ref 44, .int z8] rfl ?_
  obtain ⟨g9, F⟩ := F
  obtain ⟨g10, F⟩ := F
  refine w_iald rfl g9 g10 ?_
  refine w_b 4 486 [(0, .ref 0), (1, .ref 16), (2, .ref 44), (3, .int x3)] [.int (x3 + 2), .ref 0, .int (h_ai h7 0 (x3 + 1).toNatClampNeg), .ref 44, .int z8] rfl ?_
  obtain ⟨g11, F⟩ := F
  obtain ⟨g12, F⟩ := F
  refine w_iald rfl g11 g12 ?_
  refine w_b 4 491 [(0, .ref 0), (1, .ref 16), (2, .ref 44), (3, .int x3)] [.int (x3 + 3), .ref 0, .int (h_ai h7 0 (x3 + 2).toNatClampNeg), .int (h_ai h7 0 (x3 + 1).toNatClampNeg), .ref 44, .int z8] rfl ?_
  obtain ⟨g13, F⟩ := F
  obtain ⟨g14, F⟩ := F
  refine w_iald rfl g13 g14 ?_
  refine w_cv (As := [.int (h_ai h7 0 (x3 + 1).toNatClampNeg), .int (h_ai h7 0 (x3 + 2).toNatClampNeg), .int (h_ai h7 0 (x3 + 3).toNatClampNeg)]) (b := 44) (rest := [.int z8]) rfl rfl rfl (Nat.le_of_ble_eq_true rfl) (kd_44 sh7) (fun z => absurd z (by decide)) (dc := 3) (by omega) (F.mono (fun r h15 F => ?_))
  obtain ⟨z16, rfl, sh15, F⟩ := F
  show w_p _ _ 495 [(0, .ref 0), (1, .ref 16), (2, .ref 44), (3, .int x3)] [.int z16, .int z8] h15 _
  refine w_ic_eq (tgt := 879) (x := z8) (y := z16) rfl (by decide) ⟨fun c17 => ?_, fun c17 => ?_⟩
  · have F := F.1 c17
    exact k879 _ _ F
  · have F := F.2 c17
    refine w_b 1 499 [(0, .ref 0), (1, .ref 16), (2, .ref 44), (3, .int x3)] [.int 0] rfl ?_
    exact w_br rfl (by decide) F

set_option maxRecDepth 20000 in
theorem t_L_law_500 {h : mm_H} {Q : Option Value → mm_H → Prop} (sh : s_h h) (x3 : Int32) {K879 : Int32 → mm_H → Prop} (k879 : ∀ (x3 : Int32) (h : mm_H), K879 x3 h → w_p 1000 (99, 4, mc_L_law) 879 [(0, .ref 0), (1, .ref 16), (2, .ref 44), (3, .int x3)] [] h Q) 
    (F : (h_kd h 0 = 20 ∧ (vp_in (x3 + 1) (h_al h 0) ∧ (h_kd h 0 = 20 ∧ (vp_in (x3 + 2) (h_al h 0) ∧ (h_kd h 0 = 20 ∧ (vp_in (x3 + 3) (h_al h 0) ∧ w_c 2 74 [.ref 16, .int (h_ai h 0 (x3 + 1).toNatClampNeg), .int (h_ai h 0 (x3 + 2).toNatClampNeg), .int (h_ai h 0 (x3 + 3).toNatClampNeg)] h (fun r h7 => ∃ z8 : Int32, r = some (.int z8) ∧ s_h h7 ∧ (h_kd h7 0 = 20 ∧ (vp_in (x3 + 1) (h_al h7 0) ∧ (h_kd h7 0 = 20 ∧ (vp_in (x3 + 2) (h_al h7 0) ∧ (h_kd h7 0 = 20 ∧ (vp_in (x3 + 3) (h_al h7 0) ∧ w_c 3 131 [.ref 44, .int (h_ai h7 0 (x3 + 1).toNatClampNeg), .int (h_ai h7 0 (x3 + 2).toNatClampNeg), .int (h_ai h7 0 (x3 + 3).toNatClampNeg)] h7 (fun r h15 => ∃ z16 : Int32, r = some (.int z16) ∧ s_h h15 ∧ ((z8 = z16 → K879 x3 h15) ∧ (¬ (z8 = z16) → Q (some (.int 0)) h15))))))))))))))))) :
    w_p 1000 (99, 4, mc_L_law) 500 [(0, .ref 0), (1, .ref 16), (2, .ref 44), (3, .int x3)] [] h Q := by
  refine w_b 5 505 [(0, .ref 0), (1, .ref 16), (2, .ref 44), (3, .int x3)] [.int (x3 + 1), .ref 0, .ref 16] rfl ?_
  obtain ⟨g1, F⟩ := F
  obtain ⟨g2, F⟩ := F
  refine w_iald rfl g1 g2 ?_
  refine w_b 4 510 [(0, .ref 0), (1, .ref 16), (2, .ref 44), (3, .int x3)] [.int (x3 + 2), .ref 0, .int (h_ai h 0 (x3 + 1).toNatClampNeg), .ref 16] rfl ?_
  obtain ⟨g3, F⟩ := F
  obtain ⟨g4, F⟩ := F
  refine w_iald rfl g3 g4 ?_
  refine w_b 4 515 [(0, .ref 0), (1, .ref 16), (2, .ref 44), (3, .int x3)] [.int (x3 + 3), .ref 0, .int (h_ai h 0 (x3 + 2).toNatClampNeg), .int (h_ai h 0 (x3 + 1).toNatClampNeg), .ref 16] rfl ?_
  obtain ⟨g5, F⟩ := F
  obtain ⟨g6, F⟩ := F
  refine w_iald rfl g5 g6 ?_
  refine w_cv (As := [.int (h_ai h 0 (x3 + 1).toNatClampNeg), .int (h_ai h 0 (x3 + 2).toNatClampNeg), .int (h_ai h 0 (x3 + 3).toNatClampNeg)]) (b := 16) (rest := []) rfl rfl rfl (Nat.le_of_ble_eq_true rfl) (kd_16 sh) (fun z => absurd z (by decide)) (dc := 2) (by omega) (F.mono (fun r h7 F => ?_))
  obtain ⟨z8, rfl, sh7, F⟩ := F
  show w_p _ _ 519 [(0, .ref 0), (1, .ref 16), (2, .ref 44), (3, .int x3)] [.int z8] h7 _
  refine w_b 5 524 [(0, .ref 0), (1, .ref 16), (2, .ref 44), (3, .int x3)] [.int (x3 + 1), .ref 0, .ref 44, .int z8] rfl ?_
  obtain ⟨g9, F⟩ := F
  obtain ⟨g10, F⟩ := F
  refine w_iald rfl g9 g10 ?_
  refine w_b 4 529 [(0, .ref 0), (1, .ref 16), (2, .ref 44), (3, .int x3)] [.int (x3 + 2), .ref 0, .int (h_ai h7 0 (x3 + 1).toNatClampNeg), .ref 44, .int z8] rfl ?_
  obtain ⟨g11, F⟩ := F
  obtain ⟨g12, F⟩ := F
  refine w_iald rfl g11 g12 ?_
  refine w_b 4 534 [(0, .ref 0), (1, .ref 16), (2, .ref 44), (3, .int x3)] [.int (x3 + 3), .ref 0, .int (h_ai h7 0 (x3 + 2).toNatClampNeg), .int (h_ai h7 0 (x3 + 1).toNatClampNeg), .ref 44, .int z8] rfl ?_
  obtain ⟨g13, F⟩ := F
  obtain ⟨g14, F⟩ := F
  refine w_iald rfl g13 g14 ?_
  refine w_cv (As := [.int (h_ai h7 0 (x3 + 1).toNatClampNeg), .int (h_ai h7 0 (x3 + 2).toNatClampNeg), .int (h_ai h7 0 (x3 + 3).toNatClampNeg)]) (b := 44) (rest := [.int z8]) rfl rfl rfl (Nat.le_of_ble_eq_true rfl) (kd_44 sh7) (fun z => absurd z (by decide)) (dc := 3) (by omega) (F.mono (fun r h15 F => ?_))
  obtain ⟨z16, rfl, sh15, F⟩ := F
  show w_p _ _ 538 [(0, .ref 0), (1, .ref 16), (2, .ref 44), (3, .int x3)] [.int z16, .int z8] h15 _
  refine w_ic_eq (tgt := 879) (x := z8) (y := z16) rfl (by decide) ⟨fun c17 => ?_, fun c17 => ?_⟩
  · have F := F.1 c17
    exact k879 _ _ F
  · have F := F.2 c17
    refine w_b 1 542 [(0, .ref 0), (1, .ref 16), (2, .ref 44), (3, .int x3)] [.int 0] rfl ?_
    exact w_br rfl (by decide) F

set_option maxRecDepth 20000 in
theorem t_L_law_543 {h : mm_H} {Q : Option Value → mm_H → Prop} (sh : s_h h) (x3 : Int32) {K879 : Int32 → mm_H → Prop} (k879 : ∀ (x3 : Int32) (h : mm_H), K879 x3 h → w_p 1000 (99, 4, mc_L_law) 879 [(0, .ref 0), (1, .ref 16), (2, .ref 44), (3, .int x3)] [] h Q) 
    (F : (h_kd h 0 = 20 ∧ (vp_in (x3 + 1) (h_al h 0) ∧ w_c 3 75 [.ref 16, .int (h_ai h 0 (x3 + 1).toNatClampNeg)] h (fun r h3 => ∃ z4 : Int32, r = some (.int z4) ∧ s_h h3 ∧ (h_kd h3 0 = 20 ∧ (vp_in (x3 + 1) (h_al h3 0) ∧ w_c 3 133 [.ref 44, .int (h_ai h3 0 (x3 + 1).toNatClampNeg)] h3 (fun r h7 => ∃ z8 : Int32, r = some (.int z8) ∧ s_h h7 ∧ ((z4 = z8 → K879 x3 h7) ∧ (¬ (z4 = z8) → Q (some (.int 0)) h7))))))))) :
    w_p 1000 (99, 4, mc_L_law) 543 [(0, .ref 0), (1, .ref 16), (2, .ref 44), (3, .int x3)] [] h Q := by
  refine w_b 5 548 [(0, .ref 0), (1, .ref 16), (2, .ref 44), (3, .int x3)] [.int (x3 + 1), .ref 0, .ref 16] rfl ?_
  obtain ⟨g1, F⟩ := F
  obtain ⟨g2, F⟩ := F
  refine w_iald rfl g1 g2 ?_
  refine w_cv (As := [.int (h_ai h 0 (x3 + 1).toNatClampNeg)]) (b := 16) (rest := []) rfl rfl rfl (Nat.le_of_ble_eq_true rfl) (kd_16 sh) (fun z => absurd z (by decide)) (dc := 3) (by omega) (F.mono (fun r h3 F => ?_))
  obtain ⟨z4, rfl, sh3, F⟩ := F
  show w_p _ _ 552 [(0, .ref 0), (1, .ref 16), (2, .ref 44), (3, .int x3)] [.int z4] h3 _
  refine w_b 5 557 [(0, .ref 0), (1, .ref 16), (2, .ref 44), (3, .int x3)] [.int (x3 + 1), .ref 0, .ref 44, .int z4] rfl ?_
  obtain ⟨g5, F⟩ := F
  obtain ⟨g6, F⟩ := F
  refine w_iald rfl g5 g6 ?_
  refine w_cv (As := [.int (h_ai h3 0 (x3 + 1).toNatClampNeg)]) (b := 44) (rest := [.int z4]) rfl rfl rfl (Nat.le_of_ble_eq_true rfl) (kd_44 sh3) (fun z => absurd z (by decide)) (dc := 3) (by omega) (F.mono (fun r h7 F => ?_))
  obtain ⟨z8, rfl, sh7, F⟩ := F
  show w_p _ _ 561 [(0, .ref 0), (1, .ref 16), (2, .ref 44), (3, .int x3)] [.int z8, .int z4] h7 _
  refine w_ic_eq (tgt := 879) (x := z4) (y := z8) rfl (by decide) ⟨fun c9 => ?_, fun c9 => ?_⟩
  · have F := F.1 c9
    exact k879 _ _ F
  · have F := F.2 c9
    refine w_b 1 565 [(0, .ref 0), (1, .ref 16), (2, .ref 44), (3, .int x3)] [.int 0] rfl ?_
    exact w_br rfl (by decide) F

set_option maxRecDepth 20000 in
theorem t_L_law_566 {h : mm_H} {Q : Option Value → mm_H → Prop} (sh : s_h h) (x3 : Int32) {K879 : Int32 → mm_H → Prop} (k879 : ∀ (x3 : Int32) (h : mm_H), K879 x3 h → w_p 1000 (99, 4, mc_L_law) 879 [(0, .ref 0), (1, .ref 16), (2, .ref 44), (3, .int x3)] [] h Q) 
    (F : (h_kd h 0 = 20 ∧ (vp_in (x3 + 1) (h_al h 0) ∧ (h_kd h 0 = 20 ∧ (vp_in (x3 + 2) (h_al h 0) ∧ w_c 4 76 [.ref 16, .int (h_ai h 0 (x3 + 1).toNatClampNeg), .int (h_ai h 0 (x3 + 2).toNatClampNeg)] h (fun r h5 => ∃ z6 : Int32, r = some (.int z6) ∧ s_h h5 ∧ (h_kd h5 0 = 20 ∧ (vp_in (x3 + 1) (h_al h5 0) ∧ (h_kd h5 0 = 20 ∧ (vp_in (x3 + 2) (h_al h5 0) ∧ w_c 4 135 [.ref 44, .int (h_ai h5 0 (x3 + 1).toNatClampNeg), .int (h_ai h5 0 (x3 + 2).toNatClampNeg)] h5 (fun r h11 => ∃ z12 : Int32, r = some (.int z12) ∧ s_h h11 ∧ ((z6 = z12 → K879 x3 h11) ∧ (¬ (z6 = z12) → Q (some (.int 0)) h11))))))))))))) :
    w_p 1000 (99, 4, mc_L_law) 566 [(0, .ref 0), (1, .ref 16), (2, .ref 44), (3, .int x3)] [] h Q := by
  refine w_b 5 571 [(0, .ref 0), (1, .ref 16), (2, .ref 44), (3, .int x3)] [.int (x3 + 1), .ref 0, .ref 16] rfl ?_
  obtain ⟨g1, F⟩ := F
  obtain ⟨g2, F⟩ := F
  refine w_iald rfl g1 g2 ?_
  refine w_b 4 576 [(0, .ref 0), (1, .ref 16), (2, .ref 44), (3, .int x3)] [.int (x3 + 2), .ref 0, .int (h_ai h 0 (x3 + 1).toNatClampNeg), .ref 16] rfl ?_
  obtain ⟨g3, F⟩ := F
  obtain ⟨g4, F⟩ := F
  refine w_iald rfl g3 g4 ?_
  refine w_cv (As := [.int (h_ai h 0 (x3 + 1).toNatClampNeg), .int (h_ai h 0 (x3 + 2).toNatClampNeg)]) (b := 16) (rest := []) rfl rfl rfl (Nat.le_of_ble_eq_true rfl) (kd_16 sh) (fun z => absurd z (by decide)) (dc := 4) (by omega) (F.mono (fun r h5 F => ?_))
  obtain ⟨z6, rfl, sh5, F⟩ := F
  show w_p _ _ 580 [(0, .ref 0), (1, .ref 16), (2, .ref 44), (3, .int x3)] [.int z6] h5 _
  refine w_b 5 585 [(0, .ref 0), (1, .ref 16), (2, .ref 44), (3, .int x3)] [.int (x3 + 1), .ref 0, .ref 44, .int z6] rfl ?_
  obtain ⟨g7, F⟩ := F
  obtain ⟨g8, F⟩ := F
  refine w_iald rfl g7 g8 ?_
  refine w_b 4 590 [(0, .ref 0), (1, .ref 16), (2, .ref 44), (3, .int x3)] [.int (x3 + 2), .ref 0, .int (h_ai h5 0 (x3 + 1).toNatClampNeg), .ref 44, .int z6] rfl ?_
  obtain ⟨g9, F⟩ := F
  obtain ⟨g10, F⟩ := F
  refine w_iald rfl g9 g10 ?_
  refine w_cv (As := [.int (h_ai h5 0 (x3 + 1).toNatClampNeg), .int (h_ai h5 0 (x3 + 2).toNatClampNeg)]) (b := 44) (rest := [.int z6]) rfl rfl rfl (Nat.le_of_ble_eq_true rfl) (kd_44 sh5) (fun z => absurd z (by decide)) (dc := 4) (by omega) (F.mono (fun r h11 F => ?_))
  obtain ⟨z12, rfl, sh11, F⟩ := F
  show w_p _ _ 594 [(0, .ref 0), (1, .ref 16), (2, .ref 44), (3, .int x3)] [.int z12, .int z6] h11 _
  refine w_ic_eq (tgt := 879) (x := z6) (y := z12) rfl (by decide) ⟨fun c13 => ?_, fun c13 => ?_⟩
  · have F := F.1 c13
    exact k879 _ _ F
  · have F := F.2 c13
    refine w_b 1 598 [(0, .ref 0), (1, .ref 16), (2, .ref 44), (3, .int x3)] [.int 0] rfl ?_
    exact w_br rfl (by decide) F

set_option maxRecDepth 20000 in
theorem t_L_law_599 {h : mm_H} {Q : Option Value → mm_H → Prop} (sh : s_h h) (x3 : Int32) {K879 : Int32 → mm_H → Prop} (k879 : ∀ (x3 : Int32) (h : mm_H), K879 x3 h → w_p 1000 (99, 4, mc_L_law) 879 [(0, .ref 0), (1, .ref 16), (2, .ref 44), (3, .int x3)] [] h Q) 
    (F : w_c 15 77 [.ref 16] h (fun r h1 => ∃ z2 : Int32, r = some (.int z2) ∧ s_h h1 ∧ w_c 6 141 [.ref 44] h1 (fun r h3 => ∃ z4 : Int32, r = some (.int z4) ∧ s_h h3 ∧ ((z2 = z4 → K879 x3 h3) ∧ (¬ (z2 = z4) → Q (some (.int 0)) h3))))) :
    w_p 1000 (99, 4, mc_L_law) 599 [(0, .ref 0), (1, .ref 16), (2, .ref 44), (3, .int x3)] [] h Q := by
  refine w_b 1 600 [(0, .ref 0), (1, .ref 16), (2, .ref 44), (3, .int x3)] [.ref 16] rfl ?_
  refine w_cv (As := []) (b := 16) (rest := []) rfl rfl rfl (Nat.le_of_ble_eq_true rfl) (kd_16 sh) (fun z => absurd z (by decide)) (dc := 15) (by omega) (F.mono (fun r h1 F => ?_))
  obtain ⟨z2, rfl, sh1, F⟩ := F
  show w_p _ _ 603 [(0, .ref 0), (1, .ref 16), (2, .ref 44), (3, .int x3)] [.int z2] h1 _
  refine w_b 1 604 [(0, .ref 0), (1, .ref 16), (2, .ref 44), (3, .int x3)] [.ref 44, .int z2] rfl ?_
  refine w_cv (As := []) (b := 44) (rest := [.int z2]) rfl rfl rfl (Nat.le_of_ble_eq_true rfl) (kd_44 sh1) (fun z => absurd z (by decide)) (dc := 6) (by omega) (F.mono (fun r h3 F => ?_))
  obtain ⟨z4, rfl, sh3, F⟩ := F
  show w_p _ _ 607 [(0, .ref 0), (1, .ref 16), (2, .ref 44), (3, .int x3)] [.int z4, .int z2] h3 _
  refine w_ic_eq (tgt := 879) (x := z2) (y := z4) rfl (by decide) ⟨fun c5 => ?_, fun c5 => ?_⟩
  · have F := F.1 c5
    exact k879 _ _ F
  · have F := F.2 c5
    refine w_b 1 611 [(0, .ref 0), (1, .ref 16), (2, .ref 44), (3, .int x3)] [.int 0] rfl ?_
    exact w_br rfl (by decide) F

set_option maxRecDepth 20000 in
theorem t_L_law_612 {h : mm_H} {Q : Option Value → mm_H → Prop} (sh : s_h h) (x3 : Int32) {K879 : Int32 → mm_H → Prop} (k879 : ∀ (x3 : Int32) (h : mm_H), K879 x3 h → w_p 1000 (99, 4, mc_L_law) 879 [(0, .ref 0), (1, .ref 16), (2, .ref 44), (3, .int x3)] [] h Q) 
    (F : (h_kd h 0 = 20 ∧ (vp_in (x3 + 1) (h_al h 0) ∧ w_c 16 78 [.ref 16, .int (h_ai h 0 (x3 + 1).toNatClampNeg)] h (fun r h3 => ∃ z4 : Int32, r = some (.int z4) ∧ s_h h3 ∧ (h_kd h3 0 = 20 ∧ (vp_in (x3 + 1) (h_al h3 0) ∧ w_c 6 142 [.ref 44, .int (h_ai h3 0 (x3 + 1).toNatClampNeg)] h3 (fun r h7 => ∃ z8 : Int32, r = some (.int z8) ∧ s_h h7 ∧ ((z4 = z8 → K879 x3 h7) ∧ (¬ (z4 = z8) → Q (some (.int 0)) h7))))))))) :
    w_p 1000 (99, 4, mc_L_law) 612 [(0, .ref 0), (1, .ref 16), (2, .ref 44), (3, .int x3)] [] h Q := by
  refine w_b 5 617 [(0, .ref 0), (1, .ref 16), (2, .ref 44), (3, .int x3)] [.int (x3 + 1), .ref 0, .ref 16] rfl ?_
  obtain ⟨g1, F⟩ := F
  obtain ⟨g2, F⟩ := F
  refine w_iald rfl g1 g2 ?_
  refine w_cv (As := [.int (h_ai h 0 (x3 + 1).toNatClampNeg)]) (b := 16) (rest := []) rfl rfl rfl (Nat.le_of_ble_eq_true rfl) (kd_16 sh) (fun z => absurd z (by decide)) (dc := 16) (by omega) (F.mono (fun r h3 F => ?_))
  obtain ⟨z4, rfl, sh3, F⟩ := F
  show w_p _ _ 621 [(0, .ref 0), (1, .ref 16), (2, .ref 44), (3, .int x3)] [.int z4] h3 _
  refine w_b 5 626 [(0, .ref 0), (1, .ref 16), (2, .ref 44), (3, .int x3)] [.int (x3 + 1), .ref 0, .ref 44, .int z4] rfl ?_
  obtain ⟨g5, F⟩ := F
  obtain ⟨g6, F⟩ := F
  refine w_iald rfl g5 g6 ?_
  refine w_cv (As := [.int (h_ai h3 0 (x3 + 1).toNatClampNeg)]) (b := 44) (rest := [.int z4]) rfl rfl rfl (Nat.le_of_ble_eq_true rfl) (kd_44 sh3) (fun z => absurd z (by decide)) (dc := 6) (by omega) (F.mono (fun r h7 F => ?_))
  obtain ⟨z8, rfl, sh7, F⟩ := F
  show w_p _ _ 630 [(0, .ref 0), (1, .ref 16), (2, .ref 44), (3, .int x3)] [.int z8, .int z4] h7 _
  refine w_ic_eq (tgt := 879) (x := z4) (y := z8) rfl (by decide) ⟨fun c9 => ?_, fun c9 => ?_⟩
  · have F := F.1 c9
    exact k879 _ _ F
  · have F := F.2 c9
    refine w_b 1 634 [(0, .ref 0), (1, .ref 16), (2, .ref 44), (3, .int x3)] [.int 0] rfl ?_
    exact w_br rfl (by decide) F

set_option maxRecDepth 20000 in
theorem t_L_law_635 {h : mm_H} {Q : Option Value → mm_H → Prop} (sh : s_h h) (x3 : Int32) {K879 : Int32 → mm_H → Prop} (k879 : ∀ (x3 : Int32) (h : mm_H), K879 x3 h → w_p 1000 (99, 4, mc_L_law) 879 [(0, .ref 0), (1, .ref 16), (2, .ref 44), (3, .int x3)] [] h Q) 
    (F : (h_kd h 0 = 20 ∧ (vp_in (x3 + 1) (h_al h 0) ∧ w_c 16 79 [.ref 16, .int (h_ai h 0 (x3 + 1).toNatClampNeg)] h (fun r h3 => ∃ z4 : Int32, r = some (.int z4) ∧ s_h h3 ∧ (h_kd h3 0 = 20 ∧ (vp_in (x3 + 1) (h_al h3 0) ∧ w_c 6 143 [.ref 44, .int (h_ai h3 0 (x3 + 1).toNatClampNeg)] h3 (fun r h7 => ∃ z8 : Int32, r = some (.int z8) ∧ s_h h7 ∧ ((z4 = z8 → K879 x3 h7) ∧ (¬ (z4 = z8) → Q (some (.int 0)) h7))))))))) :
    w_p 1000 (99, 4, mc_L_law) 635 [(0, .ref 0), (1, .ref 16), (2, .ref 44), (3, .int x3)] [] h Q := by
  refine w_b 5 640 [(0, .ref 0), (1, .ref 16), (2, .ref 44), (3, .int x3)] [.int (x3 + 1), .ref 0, .ref 16] rfl ?_
  obtain ⟨g1, F⟩ := F
  obtain ⟨g2, F⟩ := F
  refine w_iald rfl g1 g2 ?_
  refine w_cv (As := [.int (h_ai h 0 (x3 + 1).toNatClampNeg)]) (b := 16) (rest := []) rfl rfl rfl (Nat.le_of_ble_eq_true rfl) (kd_16 sh) (fun z => absurd z (by decide)) (dc := 16) (by omega) (F.mono (fun r h3 F => ?_))
  obtain ⟨z4, rfl, sh3, F⟩ := F
  show w_p _ _ 644 [(0, .ref 0), (1, .ref 16), (2, .ref 44), (3, .int x3)] [.int z4] h3 _
  refine w_b 5 649 [(0, .ref 0), (1, .ref 16), (2, .ref 44), (3, .int x3)] [.int (x3 + 1), .ref 0, .ref 44, .int z4] rfl ?_
  obtain ⟨g5, F⟩ := F
  obtain ⟨g6, F⟩ := F
  refine w_iald rfl g5 g6 ?_
  refine w_cv (As := [.int (h_ai h3 0 (x3 + 1).toNatClampNeg)]) (b := 44) (rest := [.int z4]) rfl rfl rfl (Nat.le_of_ble_eq_true rfl) (kd_44 sh3) (fun z => absurd z (by decide)) (dc := 6) (by omega) (F.mono (fun r h7 F => ?_))
  obtain ⟨z8, rfl, sh7, F⟩ := F
  show w_p _ _ 653 [(0, .ref 0), (1, .ref 16), (2, .ref 44), (3, .int x3)] [.int z8, .int z4] h7 _
  refine w_ic_eq (tgt := 879) (x := z4) (y := z8) rfl (by decide) ⟨fun c9 => ?_, fun c9 => ?_⟩
  · have F := F.1 c9
    exact k879 _ _ F
  · have F := F.2 c9
    refine w_b 1 657 [(0, .ref 0), (1, .ref 16), (2, .ref 44), (3, .int x3)] [.int 0] rfl ?_
    exact w_br rfl (by decide) F

set_option maxRecDepth 20000 in
theorem t_L_law_658 {h : mm_H} {Q : Option Value → mm_H → Prop} (sh : s_h h) (x3 : Int32) {K879 : Int32 → mm_H → Prop} (k879 : ∀ (x3 : Int32) (h : mm_H), K879 x3 h → w_p 1000 (99, 4, mc_L_law) 879 [(0, .ref 0), (1, .ref 16), (2, .ref 44), (3, .int x3)] [] h Q) 
    (F : (h_kd h 0 = 20 ∧ (vp_in (x3 + 1) (h_al h 0) ∧ w_c 15 80 [.ref 16, .int (h_ai h 0 (x3 + 1).toNatClampNeg)] h (fun r h3 => ∃ z4 : Int32, r = some (.int z4) ∧ s_h h3 ∧ (h_kd h3 0 = 20 ∧ (vp_in (x3 + 1) (h_al h3 0) ∧ w_c 5 144 [.ref 44, .int (h_ai h3 0 (x3 + 1).toNatClampNeg)] h3 (fun r h7 => ∃ z8 : Int32, r = some (.int z8) ∧ s_h h7 ∧ ((z4 = z8 → K879 x3 h7) ∧ (¬ (z4 = z8) → Q (some (.int 0)) h7))))))))) :
    w_p 1000 (99, 4, mc_L_law) 658 [(0, .ref 0), (1, .ref 16), (2, .ref 44), (3, .int x3)] [] h Q := by
  refine w_b 5 663 [(0, .ref 0), (1, .ref 16), (2, .ref 44), (3, .int x3)] [.int (x3 + 1), .ref 0, .ref 16] rfl ?_
  obtain ⟨g1, F⟩ := F
  obtain ⟨g2, F⟩ := F
  refine w_iald rfl g1 g2 ?_
  refine w_cv (As := [.int (h_ai h 0 (x3 + 1).toNatClampNeg)]) (b := 16) (rest := []) rfl rfl rfl (Nat.le_of_ble_eq_true rfl) (kd_16 sh) (fun z => absurd z (by decide)) (dc := 15) (by omega) (F.mono (fun r h3 F => ?_))
  obtain ⟨z4, rfl, sh3, F⟩ := F
  show w_p _ _ 667 [(0, .ref 0), (1, .ref 16), (2, .ref 44), (3, .int x3)] [.int z4] h3 _
  refine w_b 5 672 [(0, .ref 0), (1, .ref 16), (2, .ref 44), (3, .int x3)] [.int (x3 + 1), .ref 0, .ref 44, .int z4] rfl ?_
  obtain ⟨g5, F⟩ := F
  obtain ⟨g6, F⟩ := F
  refine w_iald rfl g5 g6 ?_
  refine w_cv (As := [.int (h_ai h3 0 (x3 + 1).toNatClampNeg)]) (b := 44) (rest := [.int z4]) rfl rfl rfl (Nat.le_of_ble_eq_true rfl) (kd_44 sh3) (fun z => absurd z (by decide)) (dc := 5) (by omega) (F.mono (fun r h7 F => ?_))
  obtain ⟨z8, rfl, sh7, F⟩ := F
  show w_p _ _ 676 [(0, .ref 0), (1, .ref 16), (2, .ref 44), (3, .int x3)] [.int z8, .int z4] h7 _
  refine w_ic_eq (tgt := 879) (x := z4) (y := z8) rfl (by decide) ⟨fun c9 => ?_, fun c9 => ?_⟩
  · have F := F.1 c9
    exact k879 _ _ F
  · have F := F.2 c9
    refine w_b 1 680 [(0, .ref 0), (1, .ref 16), (2, .ref 44), (3, .int x3)] [.int 0] rfl ?_
    exact w_br rfl (by decide) F

set_option maxRecDepth 20000 in
theorem t_L_law_681 {h : mm_H} {Q : Option Value → mm_H → Prop} (sh : s_h h) (x3 : Int32) {K879 : Int32 → mm_H → Prop} (k879 : ∀ (x3 : Int32) (h : mm_H), K879 x3 h → w_p 1000 (99, 4, mc_L_law) 879 [(0, .ref 0), (1, .ref 16), (2, .ref 44), (3, .int x3)] [] h Q) 
    (F : (h_kd h 0 = 20 ∧ (vp_in (x3 + 1) (h_al h 0) ∧ w_c 25 81 [.ref 16, .int (h_ai h 0 (x3 + 1).toNatClampNeg)] h (fun r h3 => ∃ z4 : Int32, r = some (.int z4) ∧ s_h h3 ∧ (h_kd h3 0 = 20 ∧ (vp_in (x3 + 1) (h_al h3 0) ∧ w_c 6 145 [.ref 44, .int (h_ai h3 0 (x3 + 1).toNatClampNeg)] h3 (fun r h7 => ∃ z8 : Int32, r = some (.int z8) ∧ s_h h7 ∧ ((z4 = z8 → K879 x3 h7) ∧ (¬ (z4 = z8) → Q (some (.int 0)) h7))))))))) :
    w_p 1000 (99, 4, mc_L_law) 681 [(0, .ref 0), (1, .ref 16), (2, .ref 44), (3, .int x3)] [] h Q := by
  refine w_b 5 686 [(0, .ref 0), (1, .ref 16), (2, .ref 44), (3, .int x3)] [.int (x3 + 1), .ref 0, .ref 16] rfl ?_
  obtain ⟨g1, F⟩ := F
  obtain ⟨g2, F⟩ := F
  refine w_iald rfl g1 g2 ?_
  refine w_cv (As := [.int (h_ai h 0 (x3 + 1).toNatClampNeg)]) (b := 16) (rest := []) rfl rfl rfl (Nat.le_of_ble_eq_true rfl) (kd_16 sh) (fun z => absurd z (by decide)) (dc := 25) (by omega) (F.mono (fun r h3 F => ?_))
  obtain ⟨z4, rfl, sh3, F⟩ := F
  show w_p _ _ 690 [(0, .ref 0), (1, .ref 16), (2, .ref 44), (3, .int x3)] [.int z4] h3 _
  refine w_b 5 695 [(0, .ref 0), (1, .ref 16), (2, .ref 44), (3, .int x3)] [.int (x3 + 1), .ref 0, .ref 44, .int z4] rfl ?_
  obtain ⟨g5, F⟩ := F
  obtain ⟨g6, F⟩ := F
  refine w_iald rfl g5 g6 ?_
  refine w_cv (As := [.int (h_ai h3 0 (x3 + 1).toNatClampNeg)]) (b := 44) (rest := [.int z4]) rfl rfl rfl (Nat.le_of_ble_eq_true rfl) (kd_44 sh3) (fun z => absurd z (by decide)) (dc := 6) (by omega) (F.mono (fun r h7 F => ?_))
  obtain ⟨z8, rfl, sh7, F⟩ := F
  show w_p _ _ 699 [(0, .ref 0), (1, .ref 16), (2, .ref 44), (3, .int x3)] [.int z8, .int z4] h7 _
  refine w_ic_eq (tgt := 879) (x := z4) (y := z8) rfl (by decide) ⟨fun c9 => ?_, fun c9 => ?_⟩
  · have F := F.1 c9
    exact k879 _ _ F
  · have F := F.2 c9
    refine w_b 1 703 [(0, .ref 0), (1, .ref 16), (2, .ref 44), (3, .int x3)] [.int 0] rfl ?_
    exact w_br rfl (by decide) F

set_option maxRecDepth 20000 in
theorem t_L_law_704 {h : mm_H} {Q : Option Value → mm_H → Prop} (sh : s_h h) (x3 : Int32) {K879 : Int32 → mm_H → Prop} (k879 : ∀ (x3 : Int32) (h : mm_H), K879 x3 h → w_p 1000 (99, 4, mc_L_law) 879 [(0, .ref 0), (1, .ref 16), (2, .ref 44), (3, .int x3)] [] h Q) 
    (F : w_c 26 82 [.ref 16] h (fun r h1 => ∃ z2 : Int32, r = some (.int z2) ∧ s_h h1 ∧ w_c 6 146 [.ref 44] h1 (fun r h3 => ∃ z4 : Int32, r = some (.int z4) ∧ s_h h3 ∧ ((z2 = z4 → K879 x3 h3) ∧ (¬ (z2 = z4) → Q (some (.int 0)) h3))))) :
    w_p 1000 (99, 4, mc_L_law) 704 [(0, .ref 0), (1, .ref 16), (2, .ref 44), (3, .int x3)] [] h Q := by
  refine w_b 1 705 [(0, .ref 0), (1, .ref 16), (2, .ref 44), (3, .int x3)] [.ref 16] rfl ?_
  refine w_cv (As := []) (b := 16) (rest := []) rfl rfl rfl (Nat.le_of_ble_eq_true rfl) (kd_16 sh) (fun z => absurd z (by decide)) (dc := 26) (by omega) (F.mono (fun r h1 F => ?_))
  obtain ⟨z2, rfl, sh1, F⟩ := F
  show w_p _ _ 708 [(0, .ref 0), (1, .ref 16), (2, .ref 44), (3, .int x3)] [.int z2] h1 _
  refine w_b 1 709 [(0, .ref 0), (1, .ref 16), (2, .ref 44), (3, .int x3)] [.ref 44, .int z2] rfl ?_
  refine w_cv (As := []) (b := 44) (rest := [.int z2]) rfl rfl rfl (Nat.le_of_ble_eq_true rfl) (kd_44 sh1) (fun z => absurd z (by decide)) (dc := 6) (by omega) (F.mono (fun r h3 F => ?_))
  obtain ⟨z4, rfl, sh3, F⟩ := F
  show w_p _ _ 712 [(0, .ref 0), (1, .ref 16), (2, .ref 44), (3, .int x3)] [.int z4, .int z2] h3 _
  refine w_ic_eq (tgt := 879) (x := z2) (y := z4) rfl (by decide) ⟨fun c5 => ?_, fun c5 => ?_⟩
  · have F := F.1 c5
    exact k879 _ _ F
  · have F := F.2 c5
    refine w_b 1 716 [(0, .ref 0), (1, .ref 16), (2, .ref 44), (3, .int x3)] [.int 0] rfl ?_
    exact w_br rfl (by decide) F

set_option maxRecDepth 20000 in
theorem t_L_law_717 {h : mm_H} {Q : Option Value → mm_H → Prop} (sh : s_h h) (x3 : Int32) {K879 : Int32 → mm_H → Prop} (k879 : ∀ (x3 : Int32) (h : mm_H), K879 x3 h → w_p 1000 (99, 4, mc_L_law) 879 [(0, .ref 0), (1, .ref 16), (2, .ref 44), (3, .int x3)] [] h Q) 
    (F : (h_kd h 0 = 20 ∧ (vp_in (x3 + 1) (h_al h 0) ∧ (h_kd h 0 = 20 ∧ (vp_in (x3 + 2) (h_al h 0) ∧ (h_kd h 0 = 20 ∧ (vp_in (x3 + 3) (h_al h 0) ∧ w_c 2 83 [.ref 16, .int (h_ai h 0 (x3 + 1).toNatClampNeg), .int (h_ai h 0 (x3 + 2).toNatClampNeg), .int (h_ai h 0 (x3 + 3).toNatClampNeg)] h (fun r h7 => ∃ z8 : Int32, r = some (.int z8) ∧ s_h h7 ∧ (h_kd h7 0 = 20 ∧ (vp_in (x3 + 1) (h_al h7 0) ∧ (h_kd h7 0 = 20 ∧ (vp_in (x3 + 2) (h_al h7 0) ∧ (h_kd h7 0 = 20 ∧ (vp_in (x3 + 3) (h_al h7 0) ∧ w_c 2 148 [.ref 44, .int (h_ai h7 0 (x3 + 1).toNatClampNeg), .int (h_ai h7 0 (x3 + 2).toNatClampNeg), .int (h_ai h7 0 (x3 + 3).toNatClampNeg)] h7 (fun r h15 => ∃ z16 : Int32, r = some (.int z16) ∧ s_h h15 ∧ ((z8 = z16 → K879 x3 h15) ∧ (¬ (z8 = z16) → Q (some (.int 0)) h15))))))))))))))))) :
    w_p 1000 (99, 4, mc_L_law) 717 [(0, .ref 0), (1, .ref 16), (2, .ref 44), (3, .int x3)] [] h Q := by
  refine w_b 5 722 [(0, .ref 0), (1, .ref 16), (2, .ref 44), (3, .int x3)] [.int (x3 + 1), .ref 0, .ref 16] rfl ?_
  obtain ⟨g1, F⟩ := F
  obtain ⟨g2, F⟩ := F
  refine w_iald rfl g1 g2 ?_
  refine w_b 4 727 [(0, .ref 0), (1, .ref 16), (2, .ref 44), (3, .int x3)] [.int (x3 + 2), .ref 0, .int (h_ai h 0 (x3 + 1).toNatClampNeg), .ref 16] rfl ?_
  obtain ⟨g3, F⟩ := F
  obtain ⟨g4, F⟩ := F
  refine w_iald rfl g3 g4 ?_
  refine w_b 4 732 [(0, .ref 0), (1, .ref 16), (2, .ref 44), (3, .int x3)] [.int (x3 + 3), .ref 0, .int (h_ai h 0 (x3 + 2).toNatClampNeg), .int (h_ai h 0 (x3 + 1).toNatClampNeg), .ref 16] rfl ?_
  obtain ⟨g5, F⟩ := F
  obtain ⟨g6, F⟩ := F
  refine w_iald rfl g5 g6 ?_
  refine w_cv (As := [.int (h_ai h 0 (x3 + 1).toNatClampNeg), .int (h_ai h 0 (x3 + 2).toNatClampNeg), .int (h_ai h 0 (x3 + 3).toNatClampNeg)]) (b := 16) (rest := []) rfl rfl rfl (Nat.le_of_ble_eq_true rfl) (kd_16 sh) (fun z => absurd z (by decide)) (dc := 2) (by omega) (F.mono (fun r h7 F => ?_))
  obtain ⟨z8, rfl, sh7, F⟩ := F
  show w_p _ _ 736 [(0, .ref 0), (1, .ref 16), (2, .ref 44), (3, .int x3)] [.int z8] h7 _
  refine w_b 5 741 [(0, .ref 0), (1, .ref 16), (2, .ref 44), (3, .int x3)] [.int (x3 + 1), .ref 0, .ref 44, .int z8] rfl ?_
  obtain ⟨g9, F⟩ := F
  obtain ⟨g10, F⟩ := F
  refine w_iald rfl g9 g10 ?_
  refine w_b 4 746 [(0, .ref 0), (1, .ref 16), (2, .ref 44), (3, .int x3)] [.int (x3 + 2), .ref 0, .int (h_ai h7 0 (x3 + 1).toNatClampNeg), .ref 44, .int z8] rfl ?_
  obtain ⟨g11, F⟩ := F
  obtain ⟨g12, F⟩ := F
  refine w_iald rfl g11 g12 ?_
  refine w_b 4 751 [(0, .ref 0), (1, .ref 16), (2, .ref 44), (3, .int x3)] [.int (x3 + 3), .ref 0, .int (h_ai h7 0 (x3 + 2).toNatClampNeg), .int (h_ai h7 0 (x3 + 1).toNatClampNeg), .ref 44, .int z8] rfl ?_
  obtain ⟨g13, F⟩ := F
  obtain ⟨g14, F⟩ := F
  refine w_iald rfl g13 g14 ?_
  refine w_cv (As := [.int (h_ai h7 0 (x3 + 1).toNatClampNeg), .int (h_ai h7 0 (x3 + 2).toNatClampNeg), .int (h_ai h7 0 (x3 + 3).toNatClampNeg)]) (b := 44) (rest := [.int z8]) rfl rfl rfl (Nat.le_of_ble_eq_true rfl) (kd_44 sh7) (fun z => absurd z (by decide)) (dc := 2) (by omega) (F.mono (fun r h15 F => ?_))
  obtain ⟨z16, rfl, sh15, F⟩ := F
  show w_p _ _ 755 [(0, .ref 0), (1, .ref 16), (2, .ref 44), (3, .int x3)] [.int z16, .int z8] h15 _
  refine w_ic_eq (tgt := 879) (x := z8) (y := z16) rfl (by decide) ⟨fun c17 => ?_, fun c17 => ?_⟩
  · have F := F.1 c17
    exact k879 _ _ F
  · have F := F.2 c17
    refine w_b 1 759 [(0, .ref 0), (1, .ref 16), (2, .ref 44), (3, .int x3)] [.int 0] rfl ?_
    exact w_br rfl (by decide) F

set_option maxRecDepth 20000 in
theorem t_L_law_760 {h : mm_H} {Q : Option Value → mm_H → Prop} (sh : s_h h) (x3 : Int32) {K879 : Int32 → mm_H → Prop} (k879 : ∀ (x3 : Int32) (h : mm_H), K879 x3 h → w_p 1000 (99, 4, mc_L_law) 879 [(0, .ref 0), (1, .ref 16), (2, .ref 44), (3, .int x3)] [] h Q) 
    (F : (h_kd h 0 = 20 ∧ (vp_in (x3 + 1) (h_al h 0) ∧ (h_kd h 0 = 20 ∧ (vp_in (x3 + 2) (h_al h 0) ∧ (h_kd h 0 = 20 ∧ (vp_in (x3 + 3) (h_al h 0) ∧ w_c 2 84 [.ref 16, .int (h_ai h 0 (x3 + 1).toNatClampNeg), .int (h_ai h 0 (x3 + 2).toNatClampNeg), .int (h_ai h 0 (x3 + 3).toNatClampNeg)] h (fun r h7 => ∃ z8 : Int32, r = some (.int z8) ∧ s_h h7 ∧ (h_kd h7 0 = 20 ∧ (vp_in (x3 + 1) (h_al h7 0) ∧ (h_kd h7 0 = 20 ∧ (vp_in (x3 + 2) (h_al h7 0) ∧ (h_kd h7 0 = 20 ∧ (vp_in (x3 + 3) (h_al h7 0) ∧ w_c 2 149 [.ref 44, .int (h_ai h7 0 (x3 + 1).toNatClampNeg), .int (h_ai h7 0 (x3 + 2).toNatClampNeg), .int (h_ai h7 0 (x3 + 3).toNatClampNeg)] h7 (fun r h15 => ∃ z16 : Int32, r = some (.int z16) ∧ s_h h15 ∧ ((z8 = z16 → K879 x3 h15) ∧ (¬ (z8 = z16) → Q (some (.int 0)) h15))))))))))))))))) :
    w_p 1000 (99, 4, mc_L_law) 760 [(0, .ref 0), (1, .ref 16), (2, .ref 44), (3, .int x3)] [] h Q := by
  refine w_b 5 765 [(0, .ref 0), (1, .ref 16), (2, .ref 44), (3, .int x3)] [.int (x3 + 1), .ref 0, .ref 16] rfl ?_
  obtain ⟨g1, F⟩ := F
  obtain ⟨g2, F⟩ := F
  refine w_iald rfl g1 g2 ?_
  refine w_b 4 770 [(0, .ref 0), (1, .ref 16), (2, .ref 44), (3, .int x3)] [.int (x3 + 2), .ref 0, .int (h_ai h 0 (x3 + 1).toNatClampNeg), .ref 16] rfl ?_
  obtain ⟨g3, F⟩ := F
  obtain ⟨g4, F⟩ := F
  refine w_iald rfl g3 g4 ?_
  refine w_b 4 775 [(0, .ref 0), (1, .ref 16), (2, .ref 44), (3, .int x3)] [.int (x3 + 3), .ref 0, .int (h_ai h 0 (x3 + 2).toNatClampNeg), .int (h_ai h 0 (x3 + 1).toNatClampNeg), .ref 16] rfl ?_
  obtain ⟨g5, F⟩ := F
  obtain ⟨g6, F⟩ := F
  refine w_iald rfl g5 g6 ?_
  refine w_cv (As := [.int (h_ai h 0 (x3 + 1).toNatClampNeg), .int (h_ai h 0 (x3 + 2).toNatClampNeg), .int (h_ai h 0 (x3 + 3).toNatClampNeg)]) (b := 16) (rest := []) rfl rfl rfl (Nat.le_of_ble_eq_true rfl) (kd_16 sh) (fun z => absurd z (by decide)) (dc := 2) (by omega) (F.mono (fun r h7 F => ?_))
  obtain ⟨z8, rfl, sh7, F⟩ := F
  show w_p _ _ 779 [(0, .ref 0), (1, .ref 16), (2, .ref 44), (3, .int x3)] [.int z8] h7 _
  refine w_b 5 784 [(0, .ref 0), (1, .ref 16), (2, .ref 44), (3, .int x3)] [.int (x3 + 1), .ref 0, .ref 44, .int z8] rfl ?_
  obtain ⟨g9, F⟩ := F
  obtain ⟨g10, F⟩ := F
  refine w_iald rfl g9 g10 ?_
  refine w_b 4 789 [(0, .ref 0), (1, .ref 16), (2, .ref 44), (3, .int x3)] [.int (x3 + 2), .ref 0, .int (h_ai h7 0 (x3 + 1).toNatClampNeg), .ref 44, .int z8] rfl ?_
  obtain ⟨g11, F⟩ := F
  obtain ⟨g12, F⟩ := F
  refine w_iald rfl g11 g12 ?_
  refine w_b 4 794 [(0, .ref 0), (1, .ref 16), (2, .ref 44), (3, .int x3)] [.int (x3 + 3), .ref 0, .int (h_ai h7 0 (x3 + 2).toNatClampNeg), .int (h_ai h7 0 (x3 + 1).toNatClampNeg), .ref 44, .int z8] rfl ?_
  obtain ⟨g13, F⟩ := F
  obtain ⟨g14, F⟩ := F
  refine w_iald rfl g13 g14 ?_
  refine w_cv (As := [.int (h_ai h7 0 (x3 + 1).toNatClampNeg), .int (h_ai h7 0 (x3 + 2).toNatClampNeg), .int (h_ai h7 0 (x3 + 3).toNatClampNeg)]) (b := 44) (rest := [.int z8]) rfl rfl rfl (Nat.le_of_ble_eq_true rfl) (kd_44 sh7) (fun z => absurd z (by decide)) (dc := 2) (by omega) (F.mono (fun r h15 F => ?_))
  obtain ⟨z16, rfl, sh15, F⟩ := F
  show w_p _ _ 798 [(0, .ref 0), (1, .ref 16), (2, .ref 44), (3, .int x3)] [.int z16, .int z8] h15 _
  refine w_ic_eq (tgt := 879) (x := z8) (y := z16) rfl (by decide) ⟨fun c17 => ?_, fun c17 => ?_⟩
  · have F := F.1 c17
    exact k879 _ _ F
  · have F := F.2 c17
    refine w_b 1 802 [(0, .ref 0), (1, .ref 16), (2, .ref 44), (3, .int x3)] [.int 0] rfl ?_
    exact w_br rfl (by decide) F

set_option maxRecDepth 20000 in
theorem t_L_law_803 {h : mm_H} {Q : Option Value → mm_H → Prop} (sh : s_h h) (x3 : Int32) {K879 : Int32 → mm_H → Prop} (k879 : ∀ (x3 : Int32) (h : mm_H), K879 x3 h → w_p 1000 (99, 4, mc_L_law) 879 [(0, .ref 0), (1, .ref 16), (2, .ref 44), (3, .int x3)] [] h Q) 
    (F : (h_kd h 0 = 20 ∧ (vp_in (x3 + 1) (h_al h 0) ∧ (h_kd h 0 = 20 ∧ (vp_in (x3 + 2) (h_al h 0) ∧ (h_kd h 0 = 20 ∧ (vp_in (x3 + 3) (h_al h 0) ∧ (h_kd h 0 = 20 ∧ (vp_in (x3 + 4) (h_al h 0) ∧ w_c 5 85 [.ref 16, .int (h_ai h 0 (x3 + 1).toNatClampNeg), .int (h_ai h 0 (x3 + 2).toNatClampNeg), .int (h_ai h 0 (x3 + 3).toNatClampNeg), .int (h_ai h 0 (x3 + 4).toNatClampNeg)] h (fun r h9 => ∃ z10 : Int32, r = some (.int z10) ∧ s_h h9 ∧ (h_kd h9 0 = 20 ∧ (vp_in (x3 + 1) (h_al h9 0) ∧ (h_kd h9 0 = 20 ∧ (vp_in (x3 + 2) (h_al h9 0) ∧ (h_kd h9 0 = 20 ∧ (vp_in (x3 + 3) (h_al h9 0) ∧ (h_kd h9 0 = 20 ∧ (vp_in (x3 + 4) (h_al h9 0) ∧ w_c 4 150 [.ref 44, .int (h_ai h9 0 (x3 + 1).toNatClampNeg), .int (h_ai h9 0 (x3 + 2).toNatClampNeg), .int (h_ai h9 0 (x3 + 3).toNatClampNeg), .int (h_ai h9 0 (x3 + 4).toNatClampNeg)] h9 (fun r h19 => ∃ z20 : Int32, r = some (.int z20) ∧ s_h h19 ∧ ((z10 = z20 → K879 x3 h19) ∧ (¬ (z10 = z20) → Q (some (.int 0)) h19))))))))))))))))))))) :
    w_p 1000 (99, 4, mc_L_law) 803 [(0, .ref 0), (1, .ref 16), (2, .ref 44), (3, .int x3)] [] h Q := by
  refine w_b 5 808 [(0, .ref 0), (1, .ref 16), (2, .ref 44), (3, .int x3)] [.int (x3 + 1), .ref 0, .ref 16] rfl ?_
  obtain ⟨g1, F⟩ := F
  obtain ⟨g2, F⟩ := F
  refine w_iald rfl g1 g2 ?_
  refine w_b 4 813 [(0, .ref 0), (1, .ref 16), (2, .ref 44), (3, .int x3)] [.int (x3 + 2), .ref 0, .int (h_ai h 0 (x3 + 1).toNatClampNeg), .ref 16] rfl ?_
  obtain ⟨g3, F⟩ := F
  obtain ⟨g4, F⟩ := F
  refine w_iald rfl g3 g4 ?_
  refine w_b 4 818 [(0, .ref 0), (1, .ref 16), (2, .ref 44), (3, .int x3)] [.int (x3 + 3), .ref 0, .int (h_ai h 0 (x3 + 2).toNatClampNeg), .int (h_ai h 0 (x3 + 1).toNatClampNeg), .ref 16] rfl ?_
  obtain ⟨g5, F⟩ := F
  obtain ⟨g6, F⟩ := F
  refine w_iald rfl g5 g6 ?_
  refine w_b 4 823 [(0, .ref 0), (1, .ref 16), (2, .ref 44), (3, .int x3)] [.int (x3 + 4), .ref 0, .int (h_ai h 0 (x3 + 3).toNatClampNeg), .int (h_ai h 0 (x3 + 2).toNatClampNeg), .int (h_ai h 0 (x3 + 1).toNatClampNeg), .ref 16] rfl ?_
  obtain ⟨g7, F⟩ := F
  obtain ⟨g8, F⟩ := F
  refine w_iald rfl g7 g8 ?_
  refine w_cv (As := [.int (h_ai h 0 (x3 + 1).toNatClampNeg), .int (h_ai h 0 (x3 + 2).toNatClampNeg), .int (h_ai h 0 (x3 + 3).toNatClampNeg), .int (h_ai h 0 (x3 + 4).toNatClampNeg)]) (b := 16) (rest := []) rfl rfl rfl (Nat.le_of_ble_eq_true rfl) (kd_16 sh) (fun z => absurd z (by decide)) (dc := 5) (by omega) (F.mono (fun r h9 F => ?_))
  obtain ⟨z10, rfl, sh9, F⟩ := F
  show w_p _ _ 827 [(0, .ref 0), (1, .ref 16), (2, .ref 44), (3, .int x3)] [.int z10] h9 _
  refine w_b 5 832 [(0, .ref 0), (1, .ref 16), (2, .ref 44), (3, .int x3)] [.int (x3 + 1), .ref 0, .ref 44, .int z10] rfl ?_
  obtain ⟨g11, F⟩ := F
  obtain ⟨g12, F⟩ := F
  refine w_iald rfl g11 g12 ?_
  refine w_b 4 837 [(0, .ref 0), (1, .ref 16), (2, .ref 44), (3, .int x3)] [.int (x3 + 2), .ref 0, .int (h_ai h9 0 (x3 + 1).toNatClampNeg), .ref 44, .int z10] rfl ?_
  obtain ⟨g13, F⟩ := F
  obtain ⟨g14, F⟩ := F
  refine w_iald rfl g13 g14 ?_
  refine w_b 4 842 [(0, .ref 0), (1, .ref 16), (2, .ref 44), (3, .int x3)] [.int (x3 + 3), .ref 0, .int (h_ai h9 0 (x3 + 2).toNatClampNeg), .int (h_ai h9 0 (x3 + 1).toNatClampNeg), .ref 44, .int z10] rfl ?_
  obtain ⟨g15, F⟩ := F
  obtain ⟨g16, F⟩ := F
  refine w_iald rfl g15 g16 ?_
  refine w_b 4 847 [(0, .ref 0), (1, .ref 16), (2, .ref 44), (3, .int x3)] [.int (x3 + 4), .ref 0, .int (h_ai h9 0 (x3 + 3).toNatClampNeg), .int (h_ai h9 0 (x3 + 2).toNatClampNeg), .int (h_ai h9 0 (x3 + 1).toNatClampNeg), .ref 44, .int z10] rfl ?_
  obtain ⟨g17, F⟩ := F
  obtain ⟨g18, F⟩ := F
  refine w_iald rfl g17 g18 ?_
  refine w_cv (As := [.int (h_ai h9 0 (x3 + 1).toNatClampNeg), .int (h_ai h9 0 (x3 + 2).toNatClampNeg), .int (h_ai h9 0 (x3 + 3).toNatClampNeg), .int (h_ai h9 0 (x3 + 4).toNatClampNeg)]) (b := 44) (rest := [.int z10]) rfl rfl rfl (Nat.le_of_ble_eq_true rfl) (kd_44 sh9) (fun z => absurd z (by decide)) (dc := 4) (by omega) (F.mono (fun r h19 F => ?_))
  obtain ⟨z20, rfl, sh19, F⟩ := F
  show w_p _ _ 851 [(0, .ref 0), (1, .ref 16), (2, .ref 44), (3, .int x3)] [.int z20, .int z10] h19 _
  refine w_ic_eq (tgt := 879) (x := z10) (y := z20) rfl (by decide) ⟨fun c21 => ?_, fun c21 => ?_⟩
  · have F := F.1 c21
    exact k879 _ _ F
  · have F := F.2 c21
    refine w_b 1 855 [(0, .ref 0), (1, .ref 16), (2, .ref 44), (3, .int x3)] [.int 0] rfl ?_
    exact w_br rfl (by decide) F

set_option maxRecDepth 20000 in
theorem t_L_law_856 {h : mm_H} {Q : Option Value → mm_H → Prop} (sh : s_h h) (x3 : Int32) {K879 : Int32 → mm_H → Prop} (k879 : ∀ (x3 : Int32) (h : mm_H), K879 x3 h → w_p 1000 (99, 4, mc_L_law) 879 [(0, .ref 0), (1, .ref 16), (2, .ref 44), (3, .int x3)] [] h Q) 
    (F : (h_kd h 0 = 20 ∧ (vp_in (x3 + 1) (h_al h 0) ∧ w_c 3 86 [.ref 16, .int (h_ai h 0 (x3 + 1).toNatClampNeg)] h (fun r h3 => ∃ z4 : Int32, r = some (.int z4) ∧ s_h h3 ∧ (h_kd h3 0 = 20 ∧ (vp_in (x3 + 1) (h_al h3 0) ∧ w_c 1 151 [.ref 44, .int (h_ai h3 0 (x3 + 1).toNatClampNeg)] h3 (fun r h7 => ∃ z8 : Int32, r = some (.int z8) ∧ s_h h7 ∧ ((z4 = z8 → K879 x3 h7) ∧ (¬ (z4 = z8) → Q (some (.int 0)) h7))))))))) :
    w_p 1000 (99, 4, mc_L_law) 856 [(0, .ref 0), (1, .ref 16), (2, .ref 44), (3, .int x3)] [] h Q := by
  refine w_b 5 861 [(0, .ref 0), (1, .ref 16), (2, .ref 44), (3, .int x3)] [.int (x3 + 1), .ref 0, .ref 16] rfl ?_
  obtain ⟨g1, F⟩ := F
  obtain ⟨g2, F⟩ := F
  refine w_iald rfl g1 g2 ?_
  refine w_cv (As := [.int (h_ai h 0 (x3 + 1).toNatClampNeg)]) (b := 16) (rest := []) rfl rfl rfl (Nat.le_of_ble_eq_true rfl) (kd_16 sh) (fun z => absurd z (by decide)) (dc := 3) (by omega) (F.mono (fun r h3 F => ?_))
  obtain ⟨z4, rfl, sh3, F⟩ := F
  show w_p _ _ 865 [(0, .ref 0), (1, .ref 16), (2, .ref 44), (3, .int x3)] [.int z4] h3 _
  refine w_b 5 870 [(0, .ref 0), (1, .ref 16), (2, .ref 44), (3, .int x3)] [.int (x3 + 1), .ref 0, .ref 44, .int z4] rfl ?_
  obtain ⟨g5, F⟩ := F
  obtain ⟨g6, F⟩ := F
  refine w_iald rfl g5 g6 ?_
  refine w_cv (As := [.int (h_ai h3 0 (x3 + 1).toNatClampNeg)]) (b := 44) (rest := [.int z4]) rfl rfl rfl (Nat.le_of_ble_eq_true rfl) (kd_44 sh3) (fun z => absurd z (by decide)) (dc := 1) (by omega) (F.mono (fun r h7 F => ?_))
  obtain ⟨z8, rfl, sh7, F⟩ := F
  show w_p _ _ 874 [(0, .ref 0), (1, .ref 16), (2, .ref 44), (3, .int x3)] [.int z8, .int z4] h7 _
  refine w_ic_eq (tgt := 879) (x := z4) (y := z8) rfl (by decide) ⟨fun c9 => ?_, fun c9 => ?_⟩
  · have F := F.1 c9
    exact k879 _ _ F
  · have F := F.2 c9
    refine w_b 1 878 [(0, .ref 0), (1, .ref 16), (2, .ref 44), (3, .int x3)] [.int 0] rfl ?_
    exact w_br rfl (by decide) F

set_option maxRecDepth 20000 in
theorem t_L_law_879 {h : mm_H} {Q : Option Value → mm_H → Prop} (sh : s_h h) (x3 : Int32) {K18 : Int32 → mm_H → Prop} (k18 : ∀ (x3 : Int32) (h : mm_H), K18 x3 h → w_p 1000 (99, 4, mc_L_law) 18 [(0, .ref 0), (1, .ref 16), (2, .ref 44), (3, .int x3)] [] h Q) 
    (F : K18 (x3 + 5) h) :
    w_p 1000 (99, 4, mc_L_law) 879 [(0, .ref 0), (1, .ref 16), (2, .ref 44), (3, .int x3)] [] h Q := by
  refine w_b 2 18 [(3, .int (x3 + 5)), (0, .ref 0), (1, .ref 16), (2, .ref 44)] [] rfl ?_
  refine w_lo [0, 1, 2, 3] [(0, .ref 0), (1, .ref 16), (2, .ref 44), (3, .int (x3 + 5))] rfl rfl ?_
  exact k18 _ _ F

theorem lc_feed {h : mm_H} {i L : Nat} {xs : Nat → Int32} {Q : Option Value → mm_H → Prop} (I : LI h i L xs) (hi : 5 * i + 5 ≤ L) (hL : L ≤ 2560) (k : ∀ h2, LI h2 (i + 1) L xs → w_p 1000 (99, 4, mc_L_law) 879 [(0, .ref 0), (1, .ref 16), (2, .ref 44), (3, .int (nI (5 * i)))] [] h2 Q) : w_p 1000 (99, 4, mc_L_law) 148 [(0, .ref 0), (1, .ref 16), (2, .ref 44), (3, .int (nI (5 * i)))] [] h Q := by
  obtain ⟨own, cap, cl, T, X, dy, ft, F, A, O, N, C, H, K⟩ := I
  have sx := K.2.1
  have v1 : vp_in (nI (5 * i) + 1) L := x_in (j := 1) hi hL (by decide)
  have v2 : vp_in (nI (5 * i) + 2) L := x_in (j := 2) hi hL (by decide)
  refine t_L_law_148 K.1 _ (K879 := fun y hh => nI (5 * i) = y ∧ LI hh (i + 1) L xs) (fun y hh z => by obtain ⟨rfl, z⟩ := z; exact k hh z) ?_
  refine ⟨sx.1, by rw [sx.2.1]; exact v1, sx.1, by rw [sx.2.1]; exact v2, ?_⟩
  rw [sx.2.2]
  refine (l_feed K (by omega) _).use (fun z h1 s1 x1 w1 => ⟨z, rfl, s1, x1.1, by rw [x1.2.1]; exact v1, x1.1, by rw [x1.2.1]; exact v2, ?_⟩)
  rw [x1.2.2]
  exact LO.fin w1
theorem lc_end {h : mm_H} {i L : Nat} {xs : Nat → Int32} {Q : Option Value → mm_H → Prop} (I : LI h i L xs) (hi : 5 * i + 5 ≤ L) (hL : L ≤ 2560) (k : ∀ h2, LI h2 (i + 1) L xs → w_p 1000 (99, 4, mc_L_law) 879 [(0, .ref 0), (1, .ref 16), (2, .ref 44), (3, .int (nI (5 * i)))] [] h2 Q) : w_p 1000 (99, 4, mc_L_law) 201 [(0, .ref 0), (1, .ref 16), (2, .ref 44), (3, .int (nI (5 * i)))] [] h Q := by
  obtain ⟨own, cap, cl, T, X, dy, ft, F, A, O, N, C, H, K⟩ := I
  have sx := K.2.1
  have v1 : vp_in (nI (5 * i) + 1) L := x_in (j := 1) hi hL (by decide)
  refine t_L_law_201 K.1 _ (K879 := fun y hh => nI (5 * i) = y ∧ LI hh (i + 1) L xs) (fun y hh z => by obtain ⟨rfl, z⟩ := z; exact k hh z) ?_
  refine ⟨sx.1, by rw [sx.2.1]; exact v1, ?_⟩
  rw [sx.2.2]
  refine (l_end K (by omega) _).use (fun z h1 s1 x1 w1 => ⟨z, rfl, s1, x1.1, by rw [x1.2.1]; exact v1, ?_⟩)
  rw [x1.2.2]
  exact LO.fin w1
theorem lc_vote {h : mm_H} {i L : Nat} {xs : Nat → Int32} {Q : Option Value → mm_H → Prop} (I : LI h i L xs) (hi : 5 * i + 5 ≤ L) (hL : L ≤ 2560) (k : ∀ h2, LI h2 (i + 1) L xs → w_p 1000 (99, 4, mc_L_law) 879 [(0, .ref 0), (1, .ref 16), (2, .ref 44), (3, .int (nI (5 * i)))] [] h2 Q) : w_p 1000 (99, 4, mc_L_law) 224 [(0, .ref 0), (1, .ref 16), (2, .ref 44), (3, .int (nI (5 * i)))] [] h Q := by
  obtain ⟨own, cap, cl, T, X, dy, ft, F, A, O, N, C, H, K⟩ := I
  have sx := K.2.1
  have v1 : vp_in (nI (5 * i) + 1) L := x_in (j := 1) hi hL (by decide)
  refine t_L_law_224 K.1 _ (K879 := fun y hh => nI (5 * i) = y ∧ LI hh (i + 1) L xs) (fun y hh z => by obtain ⟨rfl, z⟩ := z; exact k hh z) ?_
  refine ⟨sx.1, by rw [sx.2.1]; exact v1, ?_⟩
  rw [sx.2.2]
  refine (l_vote K (by omega) _).use (fun z h1 s1 x1 w1 => ⟨z, rfl, s1, x1.1, by rw [x1.2.1]; exact v1, ?_⟩)
  rw [x1.2.2]
  exact LO.fin w1
theorem lc_fault {h : mm_H} {i L : Nat} {xs : Nat → Int32} {Q : Option Value → mm_H → Prop} (I : LI h i L xs) (hi : 5 * i + 5 ≤ L) (hL : L ≤ 2560) (k : ∀ h2, LI h2 (i + 1) L xs → w_p 1000 (99, 4, mc_L_law) 879 [(0, .ref 0), (1, .ref 16), (2, .ref 44), (3, .int (nI (5 * i)))] [] h2 Q) : w_p 1000 (99, 4, mc_L_law) 247 [(0, .ref 0), (1, .ref 16), (2, .ref 44), (3, .int (nI (5 * i)))] [] h Q := by
  obtain ⟨own, cap, cl, T, X, dy, ft, F, A, O, N, C, H, K⟩ := I
  have sx := K.2.1
  refine t_L_law_247 K.1 _ (K879 := fun y hh => nI (5 * i) = y ∧ LI hh (i + 1) L xs) (fun y hh z => by obtain ⟨rfl, z⟩ := z; exact k hh z) ?_
  refine (l_fault K (by omega)).use (fun z h1 s1 x1 w1 => ⟨z, rfl, s1, ?_⟩)
  exact LO.fin w1
theorem lc_unw {h : mm_H} {i L : Nat} {xs : Nat → Int32} {Q : Option Value → mm_H → Prop} (I : LI h i L xs) (hi : 5 * i + 5 ≤ L) (hL : L ≤ 2560) (k : ∀ h2, LI h2 (i + 1) L xs → w_p 1000 (99, 4, mc_L_law) 879 [(0, .ref 0), (1, .ref 16), (2, .ref 44), (3, .int (nI (5 * i)))] [] h2 Q) : w_p 1000 (99, 4, mc_L_law) 260 [(0, .ref 0), (1, .ref 16), (2, .ref 44), (3, .int (nI (5 * i)))] [] h Q := by
  obtain ⟨own, cap, cl, T, X, dy, ft, F, A, O, N, C, H, K⟩ := I
  have sx := K.2.1
  refine t_L_law_260 K.1 _ (K879 := fun y hh => nI (5 * i) = y ∧ LI hh (i + 1) L xs) (fun y hh z => by obtain ⟨rfl, z⟩ := z; exact k hh z) ?_
  refine (l_unw K (by omega)).use (fun z h1 s1 x1 w1 => ⟨z, rfl, s1, ?_⟩)
  exact LO.fin w1
theorem lc_rule {h : mm_H} {i L : Nat} {xs : Nat → Int32} {Q : Option Value → mm_H → Prop} (I : LI h i L xs) (hi : 5 * i + 5 ≤ L) (hL : L ≤ 2560) (k : ∀ h2, LI h2 (i + 1) L xs → w_p 1000 (99, 4, mc_L_law) 879 [(0, .ref 0), (1, .ref 16), (2, .ref 44), (3, .int (nI (5 * i)))] [] h2 Q) : w_p 1000 (99, 4, mc_L_law) 273 [(0, .ref 0), (1, .ref 16), (2, .ref 44), (3, .int (nI (5 * i)))] [] h Q := by
  obtain ⟨own, cap, cl, T, X, dy, ft, F, A, O, N, C, H, K⟩ := I
  have sx := K.2.1
  have v1 : vp_in (nI (5 * i) + 1) L := x_in (j := 1) hi hL (by decide)
  have v2 : vp_in (nI (5 * i) + 2) L := x_in (j := 2) hi hL (by decide)
  refine t_L_law_273 K.1 _ (K879 := fun y hh => nI (5 * i) = y ∧ LI hh (i + 1) L xs) (fun y hh z => by obtain ⟨rfl, z⟩ := z; exact k hh z) ?_
  refine ⟨sx.1, by rw [sx.2.1]; exact v1, sx.1, by rw [sx.2.1]; exact v2, ?_⟩
  rw [sx.2.2]
  refine (l_rule K (by omega) _ _).use (fun z h1 s1 x1 w1 => ⟨z, rfl, s1, x1.1, by rw [x1.2.1]; exact v1, x1.1, by rw [x1.2.1]; exact v2, ?_⟩)
  rw [x1.2.2]
  exact LO.fin w1
theorem lc_go {h : mm_H} {i L : Nat} {xs : Nat → Int32} {Q : Option Value → mm_H → Prop} (I : LI h i L xs) (hi : 5 * i + 5 ≤ L) (hL : L ≤ 2560) (k : ∀ h2, LI h2 (i + 1) L xs → w_p 1000 (99, 4, mc_L_law) 879 [(0, .ref 0), (1, .ref 16), (2, .ref 44), (3, .int (nI (5 * i)))] [] h2 Q) : w_p 1000 (99, 4, mc_L_law) 306 [(0, .ref 0), (1, .ref 16), (2, .ref 44), (3, .int (nI (5 * i)))] [] h Q := by
  obtain ⟨own, cap, cl, T, X, dy, ft, F, A, O, N, C, H, K⟩ := I
  have sx := K.2.1
  have v1 : vp_in (nI (5 * i) + 1) L := x_in (j := 1) hi hL (by decide)
  refine t_L_law_306 K.1 _ (K879 := fun y hh => nI (5 * i) = y ∧ LI hh (i + 1) L xs) (fun y hh z => by obtain ⟨rfl, z⟩ := z; exact k hh z) ?_
  refine ⟨sx.1, by rw [sx.2.1]; exact v1, ?_⟩
  rw [sx.2.2]
  refine (l_go K (by omega) _).use (fun z h1 s1 x1 w1 => ⟨z, rfl, s1, x1.1, by rw [x1.2.1]; exact v1, ?_⟩)
  rw [x1.2.2]
  exact LO.fin w1
theorem lc_join {h : mm_H} {i L : Nat} {xs : Nat → Int32} {Q : Option Value → mm_H → Prop} (I : LI h i L xs) (hi : 5 * i + 5 ≤ L) (hL : L ≤ 2560) (k : ∀ h2, LI h2 (i + 1) L xs → w_p 1000 (99, 4, mc_L_law) 879 [(0, .ref 0), (1, .ref 16), (2, .ref 44), (3, .int (nI (5 * i)))] [] h2 Q) : w_p 1000 (99, 4, mc_L_law) 329 [(0, .ref 0), (1, .ref 16), (2, .ref 44), (3, .int (nI (5 * i)))] [] h Q := by
  obtain ⟨own, cap, cl, T, X, dy, ft, F, A, O, N, C, H, K⟩ := I
  have sx := K.2.1
  refine t_L_law_329 K.1 _ (K879 := fun y hh => nI (5 * i) = y ∧ LI hh (i + 1) L xs) (fun y hh z => by obtain ⟨rfl, z⟩ := z; exact k hh z) ?_
  refine (l_join K (by omega)).use (fun z h1 s1 x1 w1 => ⟨z, rfl, s1, ?_⟩)
  exact LO.fin w1
theorem lc_leave {h : mm_H} {i L : Nat} {xs : Nat → Int32} {Q : Option Value → mm_H → Prop} (I : LI h i L xs) (hi : 5 * i + 5 ≤ L) (hL : L ≤ 2560) (k : ∀ h2, LI h2 (i + 1) L xs → w_p 1000 (99, 4, mc_L_law) 879 [(0, .ref 0), (1, .ref 16), (2, .ref 44), (3, .int (nI (5 * i)))] [] h2 Q) : w_p 1000 (99, 4, mc_L_law) 342 [(0, .ref 0), (1, .ref 16), (2, .ref 44), (3, .int (nI (5 * i)))] [] h Q := by
  obtain ⟨own, cap, cl, T, X, dy, ft, F, A, O, N, C, H, K⟩ := I
  have sx := K.2.1
  have v1 : vp_in (nI (5 * i) + 1) L := x_in (j := 1) hi hL (by decide)
  refine t_L_law_342 K.1 _ (K879 := fun y hh => nI (5 * i) = y ∧ LI hh (i + 1) L xs) (fun y hh z => by obtain ⟨rfl, z⟩ := z; exact k hh z) ?_
  refine ⟨sx.1, by rw [sx.2.1]; exact v1, ?_⟩
  rw [sx.2.2]
  refine (l_leave K (by omega) _).use (fun z h1 s1 x1 w1 => ⟨z, rfl, s1, x1.1, by rw [x1.2.1]; exact v1, ?_⟩)
  rw [x1.2.2]
  exact LO.fin w1
theorem lc_bar {h : mm_H} {i L : Nat} {xs : Nat → Int32} {Q : Option Value → mm_H → Prop} (I : LI h i L xs) (hi : 5 * i + 5 ≤ L) (hL : L ≤ 2560) (k : ∀ h2, LI h2 (i + 1) L xs → w_p 1000 (99, 4, mc_L_law) 879 [(0, .ref 0), (1, .ref 16), (2, .ref 44), (3, .int (nI (5 * i)))] [] h2 Q) : w_p 1000 (99, 4, mc_L_law) 365 [(0, .ref 0), (1, .ref 16), (2, .ref 44), (3, .int (nI (5 * i)))] [] h Q := by
  obtain ⟨own, cap, cl, T, X, dy, ft, F, A, O, N, C, H, K⟩ := I
  have sx := K.2.1
  have v1 : vp_in (nI (5 * i) + 1) L := x_in (j := 1) hi hL (by decide)
  have v2 : vp_in (nI (5 * i) + 2) L := x_in (j := 2) hi hL (by decide)
  have v3 : vp_in (nI (5 * i) + 3) L := x_in (j := 3) hi hL (by decide)
  refine t_L_law_365 K.1 _ (K879 := fun y hh => nI (5 * i) = y ∧ LI hh (i + 1) L xs) (fun y hh z => by obtain ⟨rfl, z⟩ := z; exact k hh z) ?_
  refine ⟨sx.1, by rw [sx.2.1]; exact v1, sx.1, by rw [sx.2.1]; exact v2, sx.1, by rw [sx.2.1]; exact v3, fun e => ?_, fun e => ?_⟩
  · rw [sx.2.2] at e ⊢
    refine (l_bar K (by omega) _ _ _ (Or.inl rfl)).use (fun z h1 s1 x1 w1 => ⟨z, rfl, s1, x1.1, by rw [x1.2.1]; exact v1, x1.1, by rw [x1.2.1]; exact v2, x1.1, by rw [x1.2.1]; exact v3, fun _ => ?_, fun z => absurd (by rw [x1.2.2]; exact e) z⟩)
    rw [x1.2.2]
    exact LO.fin w1
  · rw [sx.2.2] at e ⊢
    refine (l_bar K (by omega) _ _ _ (Or.inr rfl)).use (fun z h1 s1 x1 w1 => ⟨z, rfl, s1, x1.1, by rw [x1.2.1]; exact v1, x1.1, by rw [x1.2.1]; exact v2, x1.1, by rw [x1.2.1]; exact v3, fun z => absurd (by rw [x1.2.2] at z; exact z) e, fun _ => ?_⟩)
    rw [x1.2.2]
    exact LO.fin w1
theorem lc_told {h : mm_H} {i L : Nat} {xs : Nat → Int32} {Q : Option Value → mm_H → Prop} (I : LI h i L xs) (hi : 5 * i + 5 ≤ L) (hL : L ≤ 2560) (k : ∀ h2, LI h2 (i + 1) L xs → w_p 1000 (99, 4, mc_L_law) 879 [(0, .ref 0), (1, .ref 16), (2, .ref 44), (3, .int (nI (5 * i)))] [] h2 Q) : w_p 1000 (99, 4, mc_L_law) 424 [(0, .ref 0), (1, .ref 16), (2, .ref 44), (3, .int (nI (5 * i)))] [] h Q := by
  obtain ⟨own, cap, cl, T, X, dy, ft, F, A, O, N, C, H, K⟩ := I
  have sx := K.2.1
  have v1 : vp_in (nI (5 * i) + 1) L := x_in (j := 1) hi hL (by decide)
  have v2 : vp_in (nI (5 * i) + 2) L := x_in (j := 2) hi hL (by decide)
  refine t_L_law_424 K.1 _ (K879 := fun y hh => nI (5 * i) = y ∧ LI hh (i + 1) L xs) (fun y hh z => by obtain ⟨rfl, z⟩ := z; exact k hh z) ?_
  refine ⟨sx.1, by rw [sx.2.1]; exact v1, sx.1, by rw [sx.2.1]; exact v2, ?_⟩
  rw [sx.2.2]
  refine (l_told K (by omega) _ _).use (fun z h1 s1 x1 w1 => ⟨z, rfl, s1, x1.1, by rw [x1.2.1]; exact v1, x1.1, by rw [x1.2.1]; exact v2, ?_⟩)
  rw [x1.2.2]
  exact LO.fin w1
theorem lc_ask {h : mm_H} {i L : Nat} {xs : Nat → Int32} {Q : Option Value → mm_H → Prop} (I : LI h i L xs) (hi : 5 * i + 5 ≤ L) (hL : L ≤ 2560) (k : ∀ h2, LI h2 (i + 1) L xs → w_p 1000 (99, 4, mc_L_law) 879 [(0, .ref 0), (1, .ref 16), (2, .ref 44), (3, .int (nI (5 * i)))] [] h2 Q) : w_p 1000 (99, 4, mc_L_law) 457 [(0, .ref 0), (1, .ref 16), (2, .ref 44), (3, .int (nI (5 * i)))] [] h Q := by
  obtain ⟨own, cap, cl, T, X, dy, ft, F, A, O, N, C, H, K⟩ := I
  have sx := K.2.1
  have v1 : vp_in (nI (5 * i) + 1) L := x_in (j := 1) hi hL (by decide)
  have v2 : vp_in (nI (5 * i) + 2) L := x_in (j := 2) hi hL (by decide)
  have v3 : vp_in (nI (5 * i) + 3) L := x_in (j := 3) hi hL (by decide)
  refine t_L_law_457 K.1 _ (K879 := fun y hh => nI (5 * i) = y ∧ LI hh (i + 1) L xs) (fun y hh z => by obtain ⟨rfl, z⟩ := z; exact k hh z) ?_
  refine ⟨sx.1, by rw [sx.2.1]; exact v1, sx.1, by rw [sx.2.1]; exact v2, sx.1, by rw [sx.2.1]; exact v3, ?_⟩
  rw [sx.2.2]
  refine (l_ask K (by omega) _ _ _).use (fun z h1 s1 x1 w1 => ⟨z, rfl, s1, x1.1, by rw [x1.2.1]; exact v1, x1.1, by rw [x1.2.1]; exact v2, x1.1, by rw [x1.2.1]; exact v3, ?_⟩)
  rw [x1.2.2]
  exact LO.fin w1
theorem lc_offer {h : mm_H} {i L : Nat} {xs : Nat → Int32} {Q : Option Value → mm_H → Prop} (I : LI h i L xs) (hi : 5 * i + 5 ≤ L) (hL : L ≤ 2560) (k : ∀ h2, LI h2 (i + 1) L xs → w_p 1000 (99, 4, mc_L_law) 879 [(0, .ref 0), (1, .ref 16), (2, .ref 44), (3, .int (nI (5 * i)))] [] h2 Q) : w_p 1000 (99, 4, mc_L_law) 500 [(0, .ref 0), (1, .ref 16), (2, .ref 44), (3, .int (nI (5 * i)))] [] h Q := by
  obtain ⟨own, cap, cl, T, X, dy, ft, F, A, O, N, C, H, K⟩ := I
  have sx := K.2.1
  have v1 : vp_in (nI (5 * i) + 1) L := x_in (j := 1) hi hL (by decide)
  have v2 : vp_in (nI (5 * i) + 2) L := x_in (j := 2) hi hL (by decide)
  have v3 : vp_in (nI (5 * i) + 3) L := x_in (j := 3) hi hL (by decide)
  refine t_L_law_500 K.1 _ (K879 := fun y hh => nI (5 * i) = y ∧ LI hh (i + 1) L xs) (fun y hh z => by obtain ⟨rfl, z⟩ := z; exact k hh z) ?_
  refine ⟨sx.1, by rw [sx.2.1]; exact v1, sx.1, by rw [sx.2.1]; exact v2, sx.1, by rw [sx.2.1]; exact v3, ?_⟩
  rw [sx.2.2]
  refine (l_offer K (by omega) _ _ _).use (fun z h1 s1 x1 w1 => ⟨z, rfl, s1, x1.1, by rw [x1.2.1]; exact v1, x1.1, by rw [x1.2.1]; exact v2, x1.1, by rw [x1.2.1]; exact v3, ?_⟩)
  rw [x1.2.2]
  exact LO.fin w1
theorem lc_price {h : mm_H} {i L : Nat} {xs : Nat → Int32} {Q : Option Value → mm_H → Prop} (I : LI h i L xs) (hi : 5 * i + 5 ≤ L) (hL : L ≤ 2560) (k : ∀ h2, LI h2 (i + 1) L xs → w_p 1000 (99, 4, mc_L_law) 879 [(0, .ref 0), (1, .ref 16), (2, .ref 44), (3, .int (nI (5 * i)))] [] h2 Q) : w_p 1000 (99, 4, mc_L_law) 543 [(0, .ref 0), (1, .ref 16), (2, .ref 44), (3, .int (nI (5 * i)))] [] h Q := by
  obtain ⟨own, cap, cl, T, X, dy, ft, F, A, O, N, C, H, K⟩ := I
  have sx := K.2.1
  have v1 : vp_in (nI (5 * i) + 1) L := x_in (j := 1) hi hL (by decide)
  refine t_L_law_543 K.1 _ (K879 := fun y hh => nI (5 * i) = y ∧ LI hh (i + 1) L xs) (fun y hh z => by obtain ⟨rfl, z⟩ := z; exact k hh z) ?_
  refine ⟨sx.1, by rw [sx.2.1]; exact v1, ?_⟩
  rw [sx.2.2]
  refine (l_price K (by omega) _).use (fun z h1 s1 x1 w1 => ⟨z, rfl, s1, x1.1, by rw [x1.2.1]; exact v1, ?_⟩)
  rw [x1.2.2]
  exact LO.fin w1
theorem lc_fits {h : mm_H} {i L : Nat} {xs : Nat → Int32} {Q : Option Value → mm_H → Prop} (I : LI h i L xs) (hi : 5 * i + 5 ≤ L) (hL : L ≤ 2560) (k : ∀ h2, LI h2 (i + 1) L xs → w_p 1000 (99, 4, mc_L_law) 879 [(0, .ref 0), (1, .ref 16), (2, .ref 44), (3, .int (nI (5 * i)))] [] h2 Q) : w_p 1000 (99, 4, mc_L_law) 566 [(0, .ref 0), (1, .ref 16), (2, .ref 44), (3, .int (nI (5 * i)))] [] h Q := by
  obtain ⟨own, cap, cl, T, X, dy, ft, F, A, O, N, C, H, K⟩ := I
  have sx := K.2.1
  have v1 : vp_in (nI (5 * i) + 1) L := x_in (j := 1) hi hL (by decide)
  have v2 : vp_in (nI (5 * i) + 2) L := x_in (j := 2) hi hL (by decide)
  refine t_L_law_566 K.1 _ (K879 := fun y hh => nI (5 * i) = y ∧ LI hh (i + 1) L xs) (fun y hh z => by obtain ⟨rfl, z⟩ := z; exact k hh z) ?_
  refine ⟨sx.1, by rw [sx.2.1]; exact v1, sx.1, by rw [sx.2.1]; exact v2, ?_⟩
  rw [sx.2.2]
  refine (l_fits K (by omega) _ _).use (fun z h1 s1 x1 w1 => ⟨z, rfl, s1, x1.1, by rw [x1.2.1]; exact v1, x1.1, by rw [x1.2.1]; exact v2, ?_⟩)
  rw [x1.2.2]
  exact LO.fin w1
theorem lc_met {h : mm_H} {i L : Nat} {xs : Nat → Int32} {Q : Option Value → mm_H → Prop} (I : LI h i L xs) (hi : 5 * i + 5 ≤ L) (hL : L ≤ 2560) (k : ∀ h2, LI h2 (i + 1) L xs → w_p 1000 (99, 4, mc_L_law) 879 [(0, .ref 0), (1, .ref 16), (2, .ref 44), (3, .int (nI (5 * i)))] [] h2 Q) : w_p 1000 (99, 4, mc_L_law) 599 [(0, .ref 0), (1, .ref 16), (2, .ref 44), (3, .int (nI (5 * i)))] [] h Q := by
  obtain ⟨own, cap, cl, T, X, dy, ft, F, A, O, N, C, H, K⟩ := I
  have sx := K.2.1
  refine t_L_law_599 K.1 _ (K879 := fun y hh => nI (5 * i) = y ∧ LI hh (i + 1) L xs) (fun y hh z => by obtain ⟨rfl, z⟩ := z; exact k hh z) ?_
  refine (l_met K (by omega)).use (fun z h1 s1 x1 w1 => ⟨z, rfl, s1, ?_⟩)
  exact LO.fin w1
theorem lc_sitter {h : mm_H} {i L : Nat} {xs : Nat → Int32} {Q : Option Value → mm_H → Prop} (I : LI h i L xs) (hi : 5 * i + 5 ≤ L) (hL : L ≤ 2560) (k : ∀ h2, LI h2 (i + 1) L xs → w_p 1000 (99, 4, mc_L_law) 879 [(0, .ref 0), (1, .ref 16), (2, .ref 44), (3, .int (nI (5 * i)))] [] h2 Q) : w_p 1000 (99, 4, mc_L_law) 612 [(0, .ref 0), (1, .ref 16), (2, .ref 44), (3, .int (nI (5 * i)))] [] h Q := by
  obtain ⟨own, cap, cl, T, X, dy, ft, F, A, O, N, C, H, K⟩ := I
  have sx := K.2.1
  have v1 : vp_in (nI (5 * i) + 1) L := x_in (j := 1) hi hL (by decide)
  refine t_L_law_612 K.1 _ (K879 := fun y hh => nI (5 * i) = y ∧ LI hh (i + 1) L xs) (fun y hh z => by obtain ⟨rfl, z⟩ := z; exact k hh z) ?_
  refine ⟨sx.1, by rw [sx.2.1]; exact v1, ?_⟩
  rw [sx.2.2]
  refine (l_sitter K (by omega) _).use (fun z h1 s1 x1 w1 => ⟨z, rfl, s1, x1.1, by rw [x1.2.1]; exact v1, ?_⟩)
  rw [x1.2.2]
  exact LO.fin w1
theorem lc_why {h : mm_H} {i L : Nat} {xs : Nat → Int32} {Q : Option Value → mm_H → Prop} (I : LI h i L xs) (hi : 5 * i + 5 ≤ L) (hL : L ≤ 2560) (k : ∀ h2, LI h2 (i + 1) L xs → w_p 1000 (99, 4, mc_L_law) 879 [(0, .ref 0), (1, .ref 16), (2, .ref 44), (3, .int (nI (5 * i)))] [] h2 Q) : w_p 1000 (99, 4, mc_L_law) 635 [(0, .ref 0), (1, .ref 16), (2, .ref 44), (3, .int (nI (5 * i)))] [] h Q := by
  obtain ⟨own, cap, cl, T, X, dy, ft, F, A, O, N, C, H, K⟩ := I
  have sx := K.2.1
  have v1 : vp_in (nI (5 * i) + 1) L := x_in (j := 1) hi hL (by decide)
  refine t_L_law_635 K.1 _ (K879 := fun y hh => nI (5 * i) = y ∧ LI hh (i + 1) L xs) (fun y hh z => by obtain ⟨rfl, z⟩ := z; exact k hh z) ?_
  refine ⟨sx.1, by rw [sx.2.1]; exact v1, ?_⟩
  rw [sx.2.2]
  refine (l_why K (by omega) _).use (fun z h1 s1 x1 w1 => ⟨z, rfl, s1, x1.1, by rw [x1.2.1]; exact v1, ?_⟩)
  rw [x1.2.2]
  exact LO.fin w1
theorem lc_would {h : mm_H} {i L : Nat} {xs : Nat → Int32} {Q : Option Value → mm_H → Prop} (I : LI h i L xs) (hi : 5 * i + 5 ≤ L) (hL : L ≤ 2560) (k : ∀ h2, LI h2 (i + 1) L xs → w_p 1000 (99, 4, mc_L_law) 879 [(0, .ref 0), (1, .ref 16), (2, .ref 44), (3, .int (nI (5 * i)))] [] h2 Q) : w_p 1000 (99, 4, mc_L_law) 658 [(0, .ref 0), (1, .ref 16), (2, .ref 44), (3, .int (nI (5 * i)))] [] h Q := by
  obtain ⟨own, cap, cl, T, X, dy, ft, F, A, O, N, C, H, K⟩ := I
  have sx := K.2.1
  have v1 : vp_in (nI (5 * i) + 1) L := x_in (j := 1) hi hL (by decide)
  refine t_L_law_658 K.1 _ (K879 := fun y hh => nI (5 * i) = y ∧ LI hh (i + 1) L xs) (fun y hh z => by obtain ⟨rfl, z⟩ := z; exact k hh z) ?_
  refine ⟨sx.1, by rw [sx.2.1]; exact v1, ?_⟩
  rw [sx.2.2]
  refine (l_would K (by omega) _).use (fun z h1 s1 x1 w1 => ⟨z, rfl, s1, x1.1, by rw [x1.2.1]; exact v1, ?_⟩)
  rw [x1.2.2]
  exact LO.fin w1
theorem lc_broken {h : mm_H} {i L : Nat} {xs : Nat → Int32} {Q : Option Value → mm_H → Prop} (I : LI h i L xs) (hi : 5 * i + 5 ≤ L) (hL : L ≤ 2560) (k : ∀ h2, LI h2 (i + 1) L xs → w_p 1000 (99, 4, mc_L_law) 879 [(0, .ref 0), (1, .ref 16), (2, .ref 44), (3, .int (nI (5 * i)))] [] h2 Q) : w_p 1000 (99, 4, mc_L_law) 681 [(0, .ref 0), (1, .ref 16), (2, .ref 44), (3, .int (nI (5 * i)))] [] h Q := by
  obtain ⟨own, cap, cl, T, X, dy, ft, F, A, O, N, C, H, K⟩ := I
  have sx := K.2.1
  have v1 : vp_in (nI (5 * i) + 1) L := x_in (j := 1) hi hL (by decide)
  refine t_L_law_681 K.1 _ (K879 := fun y hh => nI (5 * i) = y ∧ LI hh (i + 1) L xs) (fun y hh z => by obtain ⟨rfl, z⟩ := z; exact k hh z) ?_
  refine ⟨sx.1, by rw [sx.2.1]; exact v1, ?_⟩
  rw [sx.2.2]
  refine (l_broken K (by omega) _).use (fun z h1 s1 x1 w1 => ⟨z, rfl, s1, x1.1, by rw [x1.2.1]; exact v1, ?_⟩)
  rw [x1.2.2]
  exact LO.fin w1
theorem lc_evening {h : mm_H} {i L : Nat} {xs : Nat → Int32} {Q : Option Value → mm_H → Prop} (I : LI h i L xs) (hi : 5 * i + 5 ≤ L) (hL : L ≤ 2560) (k : ∀ h2, LI h2 (i + 1) L xs → w_p 1000 (99, 4, mc_L_law) 879 [(0, .ref 0), (1, .ref 16), (2, .ref 44), (3, .int (nI (5 * i)))] [] h2 Q) : w_p 1000 (99, 4, mc_L_law) 704 [(0, .ref 0), (1, .ref 16), (2, .ref 44), (3, .int (nI (5 * i)))] [] h Q := by
  obtain ⟨own, cap, cl, T, X, dy, ft, F, A, O, N, C, H, K⟩ := I
  have sx := K.2.1
  refine t_L_law_704 K.1 _ (K879 := fun y hh => nI (5 * i) = y ∧ LI hh (i + 1) L xs) (fun y hh z => by obtain ⟨rfl, z⟩ := z; exact k hh z) ?_
  refine (l_evening K (by omega)).use (fun z h1 s1 x1 w1 => ⟨z, rfl, s1, ?_⟩)
  exact LO.fin w1
theorem lc_sheet {h : mm_H} {i L : Nat} {xs : Nat → Int32} {Q : Option Value → mm_H → Prop} (I : LI h i L xs) (hi : 5 * i + 5 ≤ L) (hL : L ≤ 2560) (k : ∀ h2, LI h2 (i + 1) L xs → w_p 1000 (99, 4, mc_L_law) 879 [(0, .ref 0), (1, .ref 16), (2, .ref 44), (3, .int (nI (5 * i)))] [] h2 Q) : w_p 1000 (99, 4, mc_L_law) 717 [(0, .ref 0), (1, .ref 16), (2, .ref 44), (3, .int (nI (5 * i)))] [] h Q := by
  obtain ⟨own, cap, cl, T, X, dy, ft, F, A, O, N, C, H, K⟩ := I
  have sx := K.2.1
  have v1 : vp_in (nI (5 * i) + 1) L := x_in (j := 1) hi hL (by decide)
  have v2 : vp_in (nI (5 * i) + 2) L := x_in (j := 2) hi hL (by decide)
  have v3 : vp_in (nI (5 * i) + 3) L := x_in (j := 3) hi hL (by decide)
  refine t_L_law_717 K.1 _ (K879 := fun y hh => nI (5 * i) = y ∧ LI hh (i + 1) L xs) (fun y hh z => by obtain ⟨rfl, z⟩ := z; exact k hh z) ?_
  refine ⟨sx.1, by rw [sx.2.1]; exact v1, sx.1, by rw [sx.2.1]; exact v2, sx.1, by rw [sx.2.1]; exact v3, ?_⟩
  rw [sx.2.2]
  refine (l_sheet K (by omega) _ _ _).use (fun z h1 s1 x1 w1 => ⟨z, rfl, s1, x1.1, by rw [x1.2.1]; exact v1, x1.1, by rw [x1.2.1]; exact v2, x1.1, by rw [x1.2.1]; exact v3, ?_⟩)
  rw [x1.2.2]
  exact LO.fin w1
theorem lc_lay {h : mm_H} {i L : Nat} {xs : Nat → Int32} {Q : Option Value → mm_H → Prop} (I : LI h i L xs) (hi : 5 * i + 5 ≤ L) (hL : L ≤ 2560) (k : ∀ h2, LI h2 (i + 1) L xs → w_p 1000 (99, 4, mc_L_law) 879 [(0, .ref 0), (1, .ref 16), (2, .ref 44), (3, .int (nI (5 * i)))] [] h2 Q) : w_p 1000 (99, 4, mc_L_law) 760 [(0, .ref 0), (1, .ref 16), (2, .ref 44), (3, .int (nI (5 * i)))] [] h Q := by
  obtain ⟨own, cap, cl, T, X, dy, ft, F, A, O, N, C, H, K⟩ := I
  have sx := K.2.1
  have v1 : vp_in (nI (5 * i) + 1) L := x_in (j := 1) hi hL (by decide)
  have v2 : vp_in (nI (5 * i) + 2) L := x_in (j := 2) hi hL (by decide)
  have v3 : vp_in (nI (5 * i) + 3) L := x_in (j := 3) hi hL (by decide)
  refine t_L_law_760 K.1 _ (K879 := fun y hh => nI (5 * i) = y ∧ LI hh (i + 1) L xs) (fun y hh z => by obtain ⟨rfl, z⟩ := z; exact k hh z) ?_
  refine ⟨sx.1, by rw [sx.2.1]; exact v1, sx.1, by rw [sx.2.1]; exact v2, sx.1, by rw [sx.2.1]; exact v3, ?_⟩
  rw [sx.2.2]
  refine (l_lay K (by omega) _ _ _).use (fun z h1 s1 x1 w1 => ⟨z, rfl, s1, x1.1, by rw [x1.2.1]; exact v1, x1.1, by rw [x1.2.1]; exact v2, x1.1, by rw [x1.2.1]; exact v3, ?_⟩)
  rw [x1.2.2]
  exact LO.fin w1
theorem lc_offers {h : mm_H} {i L : Nat} {xs : Nat → Int32} {Q : Option Value → mm_H → Prop} (I : LI h i L xs) (hi : 5 * i + 5 ≤ L) (hL : L ≤ 2560) (k : ∀ h2, LI h2 (i + 1) L xs → w_p 1000 (99, 4, mc_L_law) 879 [(0, .ref 0), (1, .ref 16), (2, .ref 44), (3, .int (nI (5 * i)))] [] h2 Q) : w_p 1000 (99, 4, mc_L_law) 803 [(0, .ref 0), (1, .ref 16), (2, .ref 44), (3, .int (nI (5 * i)))] [] h Q := by
  obtain ⟨own, cap, cl, T, X, dy, ft, F, A, O, N, C, H, K⟩ := I
  have sx := K.2.1
  have v1 : vp_in (nI (5 * i) + 1) L := x_in (j := 1) hi hL (by decide)
  have v2 : vp_in (nI (5 * i) + 2) L := x_in (j := 2) hi hL (by decide)
  have v3 : vp_in (nI (5 * i) + 3) L := x_in (j := 3) hi hL (by decide)
  have v4 : vp_in (nI (5 * i) + 4) L := x_in (j := 4) hi hL (by decide)
  refine t_L_law_803 K.1 _ (K879 := fun y hh => nI (5 * i) = y ∧ LI hh (i + 1) L xs) (fun y hh z => by obtain ⟨rfl, z⟩ := z; exact k hh z) ?_
  refine ⟨sx.1, by rw [sx.2.1]; exact v1, sx.1, by rw [sx.2.1]; exact v2, sx.1, by rw [sx.2.1]; exact v3, sx.1, by rw [sx.2.1]; exact v4, ?_⟩
  rw [sx.2.2]
  refine (l_offers K (by omega) _ _ _ _).use (fun z h1 s1 x1 w1 => ⟨z, rfl, s1, x1.1, by rw [x1.2.1]; exact v1, x1.1, by rw [x1.2.1]; exact v2, x1.1, by rw [x1.2.1]; exact v3, x1.1, by rw [x1.2.1]; exact v4, ?_⟩)
  rw [x1.2.2]
  exact LO.fin w1
theorem lc_count {h : mm_H} {i L : Nat} {xs : Nat → Int32} {Q : Option Value → mm_H → Prop} (I : LI h i L xs) (hi : 5 * i + 5 ≤ L) (hL : L ≤ 2560) (k : ∀ h2, LI h2 (i + 1) L xs → w_p 1000 (99, 4, mc_L_law) 879 [(0, .ref 0), (1, .ref 16), (2, .ref 44), (3, .int (nI (5 * i)))] [] h2 Q) : w_p 1000 (99, 4, mc_L_law) 856 [(0, .ref 0), (1, .ref 16), (2, .ref 44), (3, .int (nI (5 * i)))] [] h Q := by
  obtain ⟨own, cap, cl, T, X, dy, ft, F, A, O, N, C, H, K⟩ := I
  have sx := K.2.1
  have v1 : vp_in (nI (5 * i) + 1) L := x_in (j := 1) hi hL (by decide)
  refine t_L_law_856 K.1 _ (K879 := fun y hh => nI (5 * i) = y ∧ LI hh (i + 1) L xs) (fun y hh z => by obtain ⟨rfl, z⟩ := z; exact k hh z) ?_
  refine ⟨sx.1, by rw [sx.2.1]; exact v1, ?_⟩
  rw [sx.2.2]
  refine (l_count K (by omega) _).use (fun z h1 s1 x1 w1 => ⟨z, rfl, s1, x1.1, by rw [x1.2.1]; exact v1, ?_⟩)
  rw [x1.2.2]
  exact LO.fin w1
theorem law_loop {L : Nat} {xs : Nat → Int32} (hL : L ≤ 2560) : ∀ w i h, i + w = 513 → LI h i L xs → 5 * i ≤ L → w_p 1000 (99, 4, mc_L_law) 18 [(0, .ref 0), (1, .ref 16), (2, .ref 44), (3, .int (nI (5 * i)))] [] h (fun r h => r = some (.int 1) ∧ h_n h ≤ 600016 ∧ h_s h ≤ 7302250) := by
  intro w
  induction w with
  | zero => intro i h e I hi; omega
  | succ w ih =>
    intro i h e I hi
    obtain ⟨own, cap, cl, T, X, dy, ft, F, A, O, N, C, H, K⟩ := id I
    have sx := K.2.1
    by_cases h5 : 5 * i + 5 ≤ L
    · have kn : ∀ h2, LI h2 (i + 1) L xs → w_p 1000 (99, 4, mc_L_law) 879 [(0, .ref 0), (1, .ref 16), (2, .ref 44), (3, .int (nI (5 * i)))] [] h2 (fun r h => r = some (.int 1) ∧ h_n h ≤ 600016 ∧ h_s h ≤ 7302250) := fun h2 I2 => by
        obtain ⟨_, _, _, _, _, _, _, _, _, _, _, _, _, K2⟩ := id I2
        refine t_L_law_879 K2.1 _ (K18 := fun y hh => nI (5 * (i + 1)) = y ∧ hh = h2) (fun y hh z => by obtain ⟨rfl, rfl⟩ := z; exact ih (i + 1) _ (by omega) I2 (by omega)) ⟨?_, rfl⟩
        exact (nI_add (5 * i) 5).symm
      refine t_L_law_18 K.1 _ (K148 := fun y hh => nI (5 * i) = y ∧ hh = h) (K201 := fun y hh => nI (5 * i) = y ∧ hh = h) (K224 := fun y hh => nI (5 * i) = y ∧ hh = h) (K247 := fun y hh => nI (5 * i) = y ∧ hh = h) (K260 := fun y hh => nI (5 * i) = y ∧ hh = h) (K273 := fun y hh => nI (5 * i) = y ∧ hh = h) (K306 := fun y hh => nI (5 * i) = y ∧ hh = h) (K329 := fun y hh => nI (5 * i) = y ∧ hh = h) (K342 := fun y hh => nI (5 * i) = y ∧ hh = h) (K365 := fun y hh => nI (5 * i) = y ∧ hh = h) (K424 := fun y hh => nI (5 * i) = y ∧ hh = h) (K457 := fun y hh => nI (5 * i) = y ∧ hh = h) (K500 := fun y hh => nI (5 * i) = y ∧ hh = h) (K543 := fun y hh => nI (5 * i) = y ∧ hh = h) (K566 := fun y hh => nI (5 * i) = y ∧ hh = h) (K599 := fun y hh => nI (5 * i) = y ∧ hh = h) (K612 := fun y hh => nI (5 * i) = y ∧ hh = h) (K635 := fun y hh => nI (5 * i) = y ∧ hh = h) (K658 := fun y hh => nI (5 * i) = y ∧ hh = h) (K681 := fun y hh => nI (5 * i) = y ∧ hh = h) (K704 := fun y hh => nI (5 * i) = y ∧ hh = h) (K717 := fun y hh => nI (5 * i) = y ∧ hh = h) (K760 := fun y hh => nI (5 * i) = y ∧ hh = h) (K803 := fun y hh => nI (5 * i) = y ∧ hh = h) (K856 := fun y hh => nI (5 * i) = y ∧ hh = h) (K879 := fun y hh => nI (5 * i) = y ∧ hh = h)
        (fun y hh z => by obtain ⟨rfl, rfl⟩ := z; exact lc_feed I h5 hL kn)
        (fun y hh z => by obtain ⟨rfl, rfl⟩ := z; exact lc_end I h5 hL kn)
        (fun y hh z => by obtain ⟨rfl, rfl⟩ := z; exact lc_vote I h5 hL kn)
        (fun y hh z => by obtain ⟨rfl, rfl⟩ := z; exact lc_fault I h5 hL kn)
        (fun y hh z => by obtain ⟨rfl, rfl⟩ := z; exact lc_unw I h5 hL kn)
        (fun y hh z => by obtain ⟨rfl, rfl⟩ := z; exact lc_rule I h5 hL kn)
        (fun y hh z => by obtain ⟨rfl, rfl⟩ := z; exact lc_go I h5 hL kn)
        (fun y hh z => by obtain ⟨rfl, rfl⟩ := z; exact lc_join I h5 hL kn)
        (fun y hh z => by obtain ⟨rfl, rfl⟩ := z; exact lc_leave I h5 hL kn)
        (fun y hh z => by obtain ⟨rfl, rfl⟩ := z; exact lc_bar I h5 hL kn)
        (fun y hh z => by obtain ⟨rfl, rfl⟩ := z; exact lc_told I h5 hL kn)
        (fun y hh z => by obtain ⟨rfl, rfl⟩ := z; exact lc_ask I h5 hL kn)
        (fun y hh z => by obtain ⟨rfl, rfl⟩ := z; exact lc_offer I h5 hL kn)
        (fun y hh z => by obtain ⟨rfl, rfl⟩ := z; exact lc_price I h5 hL kn)
        (fun y hh z => by obtain ⟨rfl, rfl⟩ := z; exact lc_fits I h5 hL kn)
        (fun y hh z => by obtain ⟨rfl, rfl⟩ := z; exact lc_met I h5 hL kn)
        (fun y hh z => by obtain ⟨rfl, rfl⟩ := z; exact lc_sitter I h5 hL kn)
        (fun y hh z => by obtain ⟨rfl, rfl⟩ := z; exact lc_why I h5 hL kn)
        (fun y hh z => by obtain ⟨rfl, rfl⟩ := z; exact lc_would I h5 hL kn)
        (fun y hh z => by obtain ⟨rfl, rfl⟩ := z; exact lc_broken I h5 hL kn)
        (fun y hh z => by obtain ⟨rfl, rfl⟩ := z; exact lc_evening I h5 hL kn)
        (fun y hh z => by obtain ⟨rfl, rfl⟩ := z; exact lc_sheet I h5 hL kn)
        (fun y hh z => by obtain ⟨rfl, rfl⟩ := z; exact lc_lay I h5 hL kn)
        (fun y hh z => by obtain ⟨rfl, rfl⟩ := z; exact lc_offers I h5 hL kn)
        (fun y hh z => by obtain ⟨rfl, rfl⟩ := z; exact lc_count I h5 hL kn)
        (fun y hh z => by obtain ⟨rfl, rfl⟩ := z; exact kn _ (K.up (by omega)))
        ⟨by rw [sx.1]; decide, fun z => ?_, fun _ => ⟨sx.1, ?_, fun _ => ⟨rfl, rfl⟩, fun _ => ⟨rfl, rfl⟩, fun _ => ⟨rfl, rfl⟩, fun _ => ⟨rfl, rfl⟩, fun _ => ⟨rfl, rfl⟩, fun _ => ⟨rfl, rfl⟩, fun _ => ⟨rfl, rfl⟩, fun _ => ⟨rfl, rfl⟩, fun _ => ⟨rfl, rfl⟩, fun _ => ⟨rfl, rfl⟩, fun _ => ⟨rfl, rfl⟩, fun _ => ⟨rfl, rfl⟩, fun _ => ⟨rfl, rfl⟩, fun _ => ⟨rfl, rfl⟩, fun _ => ⟨rfl, rfl⟩, fun _ => ⟨rfl, rfl⟩, fun _ => ⟨rfl, rfl⟩, fun _ => ⟨rfl, rfl⟩, fun _ => ⟨rfl, rfl⟩, fun _ => ⟨rfl, rfl⟩, fun _ => ⟨rfl, rfl⟩, fun _ => ⟨rfl, rfl⟩, fun _ => ⟨rfl, rfl⟩, fun _ => ⟨rfl, rfl⟩, fun _ => ⟨rfl, rfl⟩, fun _ => ⟨rfl, rfl⟩⟩⟩
      · rw [sx.2.1] at z
        have z : nI L - nI 5 < nI (5 * i) := z
        rw [nI_sub (by omega)] at z
        have z := (i_lt (by omega) (by omega)).mp z
        omega
      · rw [sx.2.1]
        exact vp_in_nI (by omega) (by omega)
    · have hlt : nI L - 5 < nI (5 * i) := by
        by_cases l5 : 5 ≤ L
        · show nI L - nI 5 < nI (5 * i)
          rw [nI_sub l5]
          exact (i_lt (by omega) (by omega)).mpr (by omega)
        · have : i = 0 := by omega
          subst this
          have : L = 0 ∨ L = 1 ∨ L = 2 ∨ L = 3 ∨ L = 4 := by omega
          rcases this with rfl | rfl | rfl | rfl | rfl <;> decide
      refine t_L_law_18 K.1 _ (K148 := fun _ _ => False) (K201 := fun _ _ => False) (K224 := fun _ _ => False) (K247 := fun _ _ => False) (K260 := fun _ _ => False) (K273 := fun _ _ => False) (K306 := fun _ _ => False) (K329 := fun _ _ => False) (K342 := fun _ _ => False) (K365 := fun _ _ => False) (K424 := fun _ _ => False) (K457 := fun _ _ => False) (K500 := fun _ _ => False) (K543 := fun _ _ => False) (K566 := fun _ _ => False) (K599 := fun _ _ => False) (K612 := fun _ _ => False) (K635 := fun _ _ => False) (K658 := fun _ _ => False) (K681 := fun _ _ => False) (K704 := fun _ _ => False) (K717 := fun _ _ => False) (K760 := fun _ _ => False) (K803 := fun _ _ => False) (K856 := fun _ _ => False) (K879 := fun _ _ => False)
        (fun y hh z => z.elim)
        (fun y hh z => z.elim)
        (fun y hh z => z.elim)
        (fun y hh z => z.elim)
        (fun y hh z => z.elim)
        (fun y hh z => z.elim)
        (fun y hh z => z.elim)
        (fun y hh z => z.elim)
        (fun y hh z => z.elim)
        (fun y hh z => z.elim)
        (fun y hh z => z.elim)
        (fun y hh z => z.elim)
        (fun y hh z => z.elim)
        (fun y hh z => z.elim)
        (fun y hh z => z.elim)
        (fun y hh z => z.elim)
        (fun y hh z => z.elim)
        (fun y hh z => z.elim)
        (fun y hh z => z.elim)
        (fun y hh z => z.elim)
        (fun y hh z => z.elim)
        (fun y hh z => z.elim)
        (fun y hh z => z.elim)
        (fun y hh z => z.elim)
        (fun y hh z => z.elim)
        (fun y hh z => z.elim)
        ⟨by rw [sx.1]; decide, fun _ => ?_, fun z => absurd (by rw [sx.2.1]; exact hlt) z⟩
      have b := fb_sm_bound (n := 12) (fun f hf => (K.2.2.1.2.2.2.2.2.2.1.2.2 f hf).2)
      obtain ⟨r1, r2⟩ := K.2.2.2.2.2
      exact ⟨rfl, by omega, by omega⟩
