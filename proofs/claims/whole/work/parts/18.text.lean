/-! THE TEXTS: what counts on a day -/
def oN : Option Nat → Int32
  | none => -4
  | some n => nI n
theorem oN_ne (n : Nat) (h : n < 2147483648) : ¬ oN (some n) = -4 := by
  show ¬ nI n = -4
  rw [fa_eq, nI_toInt (by omega)]
  show ¬ (n : Int) = -4
  omega
def tB (td : Nat → Nat) (d : Nat) : Nat → Option Nat
  | 0 => none
  | n + 1 => match tB td d n with
    | none => if td n ≤ d then some n else none
    | some b => if td n ≤ d ∧ td b ≤ td n then some n else some b
theorem tB_lt (td : Nat → Nat) (d : Nat) : ∀ n b, tB td d n = some b → b < n
  | 0, b, h => by cases h
  | n + 1, b, h => by
    unfold tB at h
    split at h
    · split at h
      · cases h; omega
      · cases h
    · rename_i b' hb
      have := tB_lt td d n b' hb
      split at h
      · cases h; omega
      · cases h; omega
theorem tB_skip (td : Nat → Nat) (d n : Nat) (h : ¬ td n ≤ d) : tB td d (n + 1) = tB td d n := by
  show (match tB td d n with | none => if td n ≤ d then some n else none | some b => if td n ≤ d ∧ td b ≤ td n then some n else some b) = tB td d n
  cases tB td d n with
  | none => exact if_neg h
  | some b => exact if_neg (fun z => h z.1)
/-- a law as it is kept: told, or not (u) -/
def tW (u : Int32) : Option Nat → Int32
  | none => u
  | some v => nI v
def xC (tn : Nat) (td : Nat → Nat) (tv : Nat → Nat → Option Nat) : Prop := tn ≤ 6 ∧ ∀ i, i < tn → td i ≤ 2000 ∧ ∀ k, k < 5 → ∀ v, tv i k = some v → v ≤ 400
def cX (h : mm_H) (tn : Nat) (td : Nat → Nat) (tv : Nat → Nat → Option Nat) : Prop := xC tn td tv ∧ h_oi h 66 21 = nI tn ∧ ∀ i, i < tn → h_ai h 22 i = nI (td i) ∧ ∀ k, k < 5 → h_ai h (24 + i) k = tW (-1) (tv i k)
def mX (h : mm_H) (tn : Nat) (td : Nat → Nat) (tv : Nat → Nat → Option Nat) : Prop := xC tn td tv ∧ h_oi h 585 44 = nI tn ∧ ∀ i, i < tn → h_ai h 47 i = nI (td i) ∧ ∀ k, k < 5 → h_ai h 48 (5 * i + k) = tW (-4) (tv i k)
set_option maxRecDepth 20000 in
theorem t_X9_textOf_0 {h : mm_H} {Q : Option Value → mm_H → Prop} (sh : s_h h) (dd : Int32) {K5 : Int32 → Int32 → Int32 → mm_H → Prop} (k5 : ∀ (dd : Int32) (x2 : Int32) (x3 : Int32) (h : mm_H), K5 dd x2 x3 h → w_p 0 (9, 4, mc_X9_textOf) 5 [(0, .ref 44), (1, .int dd), (2, .int x2), (3, .int x3)] [] h Q) 
    (F : K5 dd (-4) 0 h) :
    w_c 0 115 [.ref 44, .int dd] h Q := by
  refine w_ci (M := (9, 4, mc_X9_textOf)) rfl (Nat.le_of_ble_eq_true rfl) ?_
  show w_p _ _ 0 [(0, .ref 44), (1, .int dd)] [] h Q
  refine w_b 4 5 [(3, .int 0), (2, .int (-4)), (0, .ref 44), (1, .int dd)] [] rfl ?_
  refine w_lo [0, 1, 2, 3] [(0, .ref 44), (1, .int dd), (2, .int (-4)), (3, .int 0)] rfl rfl ?_
  exact k5 _ _ _ _ F

set_option maxRecDepth 20000 in
theorem t_X9_textOf_5 {h : mm_H} {Q : Option Value → mm_H → Prop} (sh : s_h h) (dd : Int32) (x2 : Int32) (x3 : Int32) {K5 : Int32 → Int32 → Int32 → mm_H → Prop} (k5 : ∀ (dd : Int32) (x2 : Int32) (x3 : Int32) (h : mm_H), K5 dd x2 x3 h → w_p 0 (9, 4, mc_X9_textOf) 5 [(0, .ref 44), (1, .int dd), (2, .int x2), (3, .int x3)] [] h Q) 
    (F : (((h_oi h 585 44) ≤ x3 → Q (some (.int x2)) h) ∧ (¬ ((h_oi h 585 44) ≤ x3) → (vp_in x3 6 ∧ ((dd < (h_ai h 47 x3.toNatClampNeg) → K5 dd x2 (x3 + 1) h) ∧ (¬ (dd < (h_ai h 47 x3.toNatClampNeg)) → ((x2 = (-4) → K5 dd x3 (x3 + 1) h) ∧ (¬ (x2 = (-4)) → (vp_in x3 6 ∧ (vp_in x2 6 ∧ (((h_ai h 47 x3.toNatClampNeg) < (h_ai h 47 x2.toNatClampNeg) → K5 dd x2 (x3 + 1) h) ∧ (¬ ((h_ai h 47 x3.toNatClampNeg) < (h_ai h 47 x2.toNatClampNeg)) → K5 dd x3 (x3 + 1) h)))))))))))) :
    w_p 0 (9, 4, mc_X9_textOf) 5 [(0, .ref 44), (1, .int dd), (2, .int x2), (3, .int x3)] [] h Q := by
  refine w_b 2 7 [(0, .ref 44), (1, .int dd), (2, .int x2), (3, .int x3)] [.ref 44, .int x3] rfl ?_
  refine w_get (g := 585) rfl rfl rfl (kd_44 sh) ?_
  refine w_ic_ge (tgt := 52) (x := x3) (y := h_oi h 585 44) rfl (by decide) ⟨fun c1 => ?_, fun c1 => ?_⟩
  · have F := F.1 c1
    refine w_b 1 53 [(0, .ref 44), (1, .int dd), (2, .int x2), (3, .int x3)] [.int x2] rfl ?_
    exact w_ir rfl F
  · have F := F.2 c1
    refine w_b 1 14 [(0, .ref 44), (1, .int dd), (2, .int x2), (3, .int x3)] [.ref 44] rfl ?_
    refine w_getS (b := 47) rfl rfl rfl (kd_44 sh) (or_586_44 sh) ?_
    refine w_b 1 18 [(0, .ref 44), (1, .int dd), (2, .int x2), (3, .int x3)] [.int x3, .ref 47] rfl ?_
    obtain ⟨g2, F⟩ := F
    refine w_iald rfl (kd_47 sh) (by rw [show h_al h 47 = 6 from (al_47 sh)]; exact g2) ?_
    refine w_b 1 20 [(0, .ref 44), (1, .int dd), (2, .int x2), (3, .int x3)] [.int dd, .int (h_ai h 47 x3.toNatClampNeg)] rfl ?_
    refine w_ic_gt (tgt := 46) (x := h_ai h 47 x3.toNatClampNeg) (y := dd) rfl (by decide) ⟨fun c3 => ?_, fun c3 => ?_⟩
    · have F := F.1 c3
      refine w_b 2 5 [(3, .int (x3 + 1)), (0, .ref 44), (1, .int dd), (2, .int x2)] [] rfl ?_
      refine w_lo [0, 1, 2, 3] [(0, .ref 44), (1, .int dd), (2, .int x2), (3, .int (x3 + 1))] rfl rfl ?_
      exact k5 _ _ _ _ F
    · have F := F.2 c3
      refine w_b 2 26 [(0, .ref 44), (1, .int dd), (2, .int x2), (3, .int x3)] [.int (-4), .int x2] rfl ?_
      refine w_ic_eq (tgt := 44) (x := x2) (y := (-4)) rfl (by decide) ⟨fun c4 => ?_, fun c4 => ?_⟩
      · have F := F.1 c4
        refine w_b 4 5 [(3, .int (x3 + 1)), (2, .int x3), (0, .ref 44), (1, .int dd)] [] rfl ?_
        refine w_lo [0, 1, 2, 3] [(0, .ref 44), (1, .int dd), (2, .int x3), (3, .int (x3 + 1))] rfl rfl ?_
        exact k5 _ _ _ _ F
      · have F := F.2 c4
        refine w_b 1 30 [(0, .ref 44), (1, .int dd), (2, .int x2), (3, .int x3)] [.ref 44] rfl ?_
        refine w_getS (b := 47) rfl rfl rfl (kd_44 sh) (or_586_44 sh) ?_
        refine w_b 1 34 [(0, .ref 44), (1, .int dd), (2, .int x2), (3, .int x3)] [.int x3, .ref 47] rfl ?_
        obtain ⟨g5, F⟩ := F
        refine w_iald rfl (kd_47 sh) (by rw [show h_al h 47 = 6 from (al_47 sh)]; exact g5) ?_
        refine w_b 1 36 [(0, .ref 44), (1, .int dd), (2, .int x2), (3, .int x3)] [.ref 44, .int (h_ai h 47 x3.toNatClampNeg)] rfl ?_
        refine w_getS (b := 47) rfl rfl rfl (kd_44 sh) (or_586_44 sh) ?_
        refine w_b 1 40 [(0, .ref 44), (1, .int dd), (2, .int x2), (3, .int x3)] [.int x2, .ref 47, .int (h_ai h 47 x3.toNatClampNeg)] rfl ?_
        obtain ⟨g6, F⟩ := F
        refine w_iald rfl (kd_47 sh) (by rw [show h_al h 47 = 6 from (al_47 sh)]; exact g6) ?_
        refine w_ic_lt (tgt := 46) (x := h_ai h 47 x3.toNatClampNeg) (y := h_ai h 47 x2.toNatClampNeg) rfl (by decide) ⟨fun c7 => ?_, fun c7 => ?_⟩
        · have F := F.1 c7
          refine w_b 2 5 [(3, .int (x3 + 1)), (0, .ref 44), (1, .int dd), (2, .int x2)] [] rfl ?_
          refine w_lo [0, 1, 2, 3] [(0, .ref 44), (1, .int dd), (2, .int x2), (3, .int (x3 + 1))] rfl rfl ?_
          exact k5 _ _ _ _ F
        · have F := F.2 c7
          refine w_b 4 5 [(3, .int (x3 + 1)), (2, .int x3), (0, .ref 44), (1, .int dd)] [] rfl ?_
          refine w_lo [0, 1, 2, 3] [(0, .ref 44), (1, .int dd), (2, .int x3), (3, .int (x3 + 1))] rfl rfl ?_
          exact k5 _ _ _ _ F

theorem sp_textOfM {h : mm_H} {Q : Option Value → mm_H → Prop} (sh : s_h h) {tn : Nat} {td : Nat → Nat} {tv : Nat → Nat → Option Nat} (hX : mX h tn td tv) {d : Nat} (hd : d < 2147483648) (k : Q (some (.int (oN (tB td d tn)))) h) : w_c 0 115 [.ref 44, .int (nI d)] h Q := by
  obtain ⟨⟨h6, hb⟩, hn, hv⟩ := hX
  have loop : ∀ m j, j ≤ tn → tn - j = m → w_p 0 (9, 4, mc_X9_textOf) 5 [(0, .ref 44), (1, .int (nI d)), (2, .int (oN (tB td d j))), (3, .int (nI j))] [] h Q := by
    intro m
    induction m with
    | zero =>
      intro j hj hm
      have e : j = tn := by omega
      subst e
      refine t_X9_textOf_5 sh _ _ _ (K5 := fun _ _ _ _ => False) (fun _ _ _ _ z => z.elim) ⟨fun _ => k, fun c => absurd ?_ c⟩
      rw [hn]
      exact nI_le (Nat.le_refl _) (by omega)
    | succ m ih =>
      intro j hj hm
      have hj2 : j < tn := by omega
      have e1 : h_ai h 47 j = nI (td j) := (hv j hj2).1
      have b1 := (hb j hj2).1
      have hcl : (nI j).toNatClampNeg = j := nI_clamp (by omega)
      refine t_X9_textOf_5 sh (nI d) (oN (tB td d j)) (nI j) (K5 := fun a b c hh => a = nI d ∧ b = oN (tB td d (j + 1)) ∧ c = nI (j + 1) ∧ hh = h) (fun a b c hh z => ?_) ⟨fun c => ?_, fun _ => ⟨vp_in_nI (by omega) (by decide), ?_⟩⟩
      · obtain ⟨rfl, rfl, rfl, rfl⟩ := z
        exact ih (j + 1) (by omega) (by omega)
      · rw [hn, nI_leI (by omega) (by omega)] at c
        omega
      · rw [hcl, e1]
        have hnx : nI j + 1 = nI (j + 1) := nI_1 j
        refine ⟨fun c => ⟨rfl, ?_, hnx, rfl⟩, fun c => ?_⟩
        · rw [nI_ltI (by omega) (by omega)] at c
          rw [tB_skip td d j (by omega)]
        · rw [nI_ltI (by omega) (by omega)] at c
          cases eb : tB td d j with
          | none =>
            refine ⟨fun _ => ⟨rfl, ?_, hnx, rfl⟩, fun c2 => absurd rfl c2⟩
            show nI j = _
            unfold tB
            rw [eb]
            show nI j = oN (if td j ≤ d then some j else none)
            rw [if_pos (by omega)]
            rfl
          | some b =>
            have hbj := tB_lt td d j b eb
            have e2 : h_ai h 47 b = nI (td b) := (hv b (by omega)).1
            have b2 := (hb b (by omega)).1
            have hclb : (oN (some b)).toNatClampNeg = b := nI_clamp (by omega)
            refine ⟨fun c2 => absurd c2 (oN_ne b (by omega)), fun _ => ⟨vp_in_nI (by omega) (by decide), vp_in_nI (by omega) (by decide), ?_⟩⟩
            rw [hclb, e2]
            refine ⟨fun c3 => ⟨rfl, ?_, hnx, rfl⟩, fun c3 => ⟨rfl, ?_, hnx, rfl⟩⟩
            · rw [nI_ltI (by omega) (by omega)] at c3
              unfold tB
              rw [eb]
              show oN (some b) = oN (if td j ≤ d ∧ td b ≤ td j then some j else some b)
              rw [if_neg (by omega)]
            · rw [nI_ltI (by omega) (by omega)] at c3
              unfold tB
              rw [eb]
              show nI j = oN (if td j ≤ d ∧ td b ≤ td j then some j else some b)
              rw [if_pos (by omega)]
              rfl
  refine t_X9_textOf_0 sh (nI d) (K5 := fun a b c hh => a = nI d ∧ b = -4 ∧ c = 0 ∧ hh = h) (fun a b c hh z => ?_) ⟨rfl, rfl, rfl, rfl⟩
  obtain ⟨rfl, rfl, rfl, rfl⟩ := z
  exact loop tn 0 (Nat.zero_le _) rfl
set_option maxRecDepth 20000 in
theorem t_X1_textOf_0 {h : mm_H} {Q : Option Value → mm_H → Prop} (sh : s_h h) (dd : Int32) {K5 : Int32 → Int32 → Int32 → mm_H → Prop} (k5 : ∀ (dd : Int32) (x2 : Int32) (x3 : Int32) (h : mm_H), K5 dd x2 x3 h → w_p 0 (1, 4, mc_X1_textOf) 5 [(0, .ref 21), (1, .int dd), (2, .int x2), (3, .int x3)] [] h Q) 
    (F : K5 dd (-4) 0 h) :
    w_c 0 9 [.ref 21, .int dd] h Q := by
  refine w_ci (M := (1, 4, mc_X1_textOf)) rfl (Nat.le_of_ble_eq_true rfl) ?_
  show w_p _ _ 0 [(0, .ref 21), (1, .int dd)] [] h Q
  refine w_b 4 5 [(3, .int 0), (2, .int (-4)), (0, .ref 21), (1, .int dd)] [] rfl ?_
  refine w_lo [0, 1, 2, 3] [(0, .ref 21), (1, .int dd), (2, .int (-4)), (3, .int 0)] rfl rfl ?_
  exact k5 _ _ _ _ F

set_option maxRecDepth 20000 in
theorem t_X1_textOf_5 {h : mm_H} {Q : Option Value → mm_H → Prop} (sh : s_h h) (dd : Int32) (x2 : Int32) (x3 : Int32) {K5 : Int32 → Int32 → Int32 → mm_H → Prop} (k5 : ∀ (dd : Int32) (x2 : Int32) (x3 : Int32) (h : mm_H), K5 dd x2 x3 h → w_p 0 (1, 4, mc_X1_textOf) 5 [(0, .ref 21), (1, .int dd), (2, .int x2), (3, .int x3)] [] h Q) 
    (F : (((h_oi h 66 21) ≤ x3 → Q (some (.int x2)) h) ∧ (¬ ((h_oi h 66 21) ≤ x3) → (vp_in x3 6 ∧ ((dd < (h_ai h 22 x3.toNatClampNeg) → K5 dd x2 (x3 + 1) h) ∧ (¬ (dd < (h_ai h 22 x3.toNatClampNeg)) → ((x2 = (-4) → K5 dd x3 (x3 + 1) h) ∧ (¬ (x2 = (-4)) → (vp_in x3 6 ∧ (vp_in x2 6 ∧ (((h_ai h 22 x3.toNatClampNeg) < (h_ai h 22 x2.toNatClampNeg) → K5 dd x2 (x3 + 1) h) ∧ (¬ ((h_ai h 22 x3.toNatClampNeg) < (h_ai h 22 x2.toNatClampNeg)) → K5 dd x3 (x3 + 1) h)))))))))))) :
    w_p 0 (1, 4, mc_X1_textOf) 5 [(0, .ref 21), (1, .int dd), (2, .int x2), (3, .int x3)] [] h Q := by
  refine w_b 2 7 [(0, .ref 21), (1, .int dd), (2, .int x2), (3, .int x3)] [.ref 21, .int x3] rfl ?_
  refine w_get (g := 66) rfl rfl rfl (kd_21 sh) ?_
  refine w_ic_ge (tgt := 52) (x := x3) (y := h_oi h 66 21) rfl (by decide) ⟨fun c1 => ?_, fun c1 => ?_⟩
  · have F := F.1 c1
    refine w_b 1 53 [(0, .ref 21), (1, .int dd), (2, .int x2), (3, .int x3)] [.int x2] rfl ?_
    exact w_ir rfl F
  · have F := F.2 c1
    refine w_b 1 14 [(0, .ref 21), (1, .int dd), (2, .int x2), (3, .int x3)] [.ref 21] rfl ?_
    refine w_getS (b := 22) rfl rfl rfl (kd_21 sh) (or_64_21 sh) ?_
    refine w_b 1 18 [(0, .ref 21), (1, .int dd), (2, .int x2), (3, .int x3)] [.int x3, .ref 22] rfl ?_
    obtain ⟨g2, F⟩ := F
    refine w_iald rfl (kd_22 sh) (by rw [show h_al h 22 = 6 from (al_22 sh)]; exact g2) ?_
    refine w_b 1 20 [(0, .ref 21), (1, .int dd), (2, .int x2), (3, .int x3)] [.int dd, .int (h_ai h 22 x3.toNatClampNeg)] rfl ?_
    refine w_ic_gt (tgt := 46) (x := h_ai h 22 x3.toNatClampNeg) (y := dd) rfl (by decide) ⟨fun c3 => ?_, fun c3 => ?_⟩
    · have F := F.1 c3
      refine w_b 2 5 [(3, .int (x3 + 1)), (0, .ref 21), (1, .int dd), (2, .int x2)] [] rfl ?_
      refine w_lo [0, 1, 2, 3] [(0, .ref 21), (1, .int dd), (2, .int x2), (3, .int (x3 + 1))] rfl rfl ?_
      exact k5 _ _ _ _ F
    · have F := F.2 c3
      refine w_b 2 26 [(0, .ref 21), (1, .int dd), (2, .int x2), (3, .int x3)] [.int (-4), .int x2] rfl ?_
      refine w_ic_eq (tgt := 44) (x := x2) (y := (-4)) rfl (by decide) ⟨fun c4 => ?_, fun c4 => ?_⟩
      · have F := F.1 c4
        refine w_b 4 5 [(3, .int (x3 + 1)), (2, .int x3), (0, .ref 21), (1, .int dd)] [] rfl ?_
        refine w_lo [0, 1, 2, 3] [(0, .ref 21), (1, .int dd), (2, .int x3), (3, .int (x3 + 1))] rfl rfl ?_
        exact k5 _ _ _ _ F
      · have F := F.2 c4
        refine w_b 1 30 [(0, .ref 21), (1, .int dd), (2, .int x2), (3, .int x3)] [.ref 21] rfl ?_
        refine w_getS (b := 22) rfl rfl rfl (kd_21 sh) (or_64_21 sh) ?_
        refine w_b 1 34 [(0, .ref 21), (1, .int dd), (2, .int x2), (3, .int x3)] [.int x3, .ref 22] rfl ?_
        obtain ⟨g5, F⟩ := F
        refine w_iald rfl (kd_22 sh) (by rw [show h_al h 22 = 6 from (al_22 sh)]; exact g5) ?_
        refine w_b 1 36 [(0, .ref 21), (1, .int dd), (2, .int x2), (3, .int x3)] [.ref 21, .int (h_ai h 22 x3.toNatClampNeg)] rfl ?_
        refine w_getS (b := 22) rfl rfl rfl (kd_21 sh) (or_64_21 sh) ?_
        refine w_b 1 40 [(0, .ref 21), (1, .int dd), (2, .int x2), (3, .int x3)] [.int x2, .ref 22, .int (h_ai h 22 x3.toNatClampNeg)] rfl ?_
        obtain ⟨g6, F⟩ := F
        refine w_iald rfl (kd_22 sh) (by rw [show h_al h 22 = 6 from (al_22 sh)]; exact g6) ?_
        refine w_ic_lt (tgt := 46) (x := h_ai h 22 x3.toNatClampNeg) (y := h_ai h 22 x2.toNatClampNeg) rfl (by decide) ⟨fun c7 => ?_, fun c7 => ?_⟩
        · have F := F.1 c7
          refine w_b 2 5 [(3, .int (x3 + 1)), (0, .ref 21), (1, .int dd), (2, .int x2)] [] rfl ?_
          refine w_lo [0, 1, 2, 3] [(0, .ref 21), (1, .int dd), (2, .int x2), (3, .int (x3 + 1))] rfl rfl ?_
          exact k5 _ _ _ _ F
        · have F := F.2 c7
          refine w_b 4 5 [(3, .int (x3 + 1)), (2, .int x3), (0, .ref 21), (1, .int dd)] [] rfl ?_
          refine w_lo [0, 1, 2, 3] [(0, .ref 21), (1, .int dd), (2, .int x3), (3, .int (x3 + 1))] rfl rfl ?_
          exact k5 _ _ _ _ F

theorem sp_textOfC {h : mm_H} {Q : Option Value → mm_H → Prop} (sh : s_h h) {tn : Nat} {td : Nat → Nat} {tv : Nat → Nat → Option Nat} (hX : cX h tn td tv) {d : Nat} (hd : d < 2147483648) (k : Q (some (.int (oN (tB td d tn)))) h) : w_c 0 9 [.ref 21, .int (nI d)] h Q := by
  obtain ⟨⟨h6, hb⟩, hn, hv⟩ := hX
  have loop : ∀ m j, j ≤ tn → tn - j = m → w_p 0 (1, 4, mc_X1_textOf) 5 [(0, .ref 21), (1, .int (nI d)), (2, .int (oN (tB td d j))), (3, .int (nI j))] [] h Q := by
    intro m
    induction m with
    | zero =>
      intro j hj hm
      have e : j = tn := by omega
      subst e
      refine t_X1_textOf_5 sh _ _ _ (K5 := fun _ _ _ _ => False) (fun _ _ _ _ z => z.elim) ⟨fun _ => k, fun c => absurd ?_ c⟩
      rw [hn]
      exact nI_le (Nat.le_refl _) (by omega)
    | succ m ih =>
      intro j hj hm
      have hj2 : j < tn := by omega
      have e1 : h_ai h 22 j = nI (td j) := (hv j hj2).1
      have b1 := (hb j hj2).1
      have hcl : (nI j).toNatClampNeg = j := nI_clamp (by omega)
      refine t_X1_textOf_5 sh (nI d) (oN (tB td d j)) (nI j) (K5 := fun a b c hh => a = nI d ∧ b = oN (tB td d (j + 1)) ∧ c = nI (j + 1) ∧ hh = h) (fun a b c hh z => ?_) ⟨fun c => ?_, fun _ => ⟨vp_in_nI (by omega) (by decide), ?_⟩⟩
      · obtain ⟨rfl, rfl, rfl, rfl⟩ := z
        exact ih (j + 1) (by omega) (by omega)
      · rw [hn, nI_leI (by omega) (by omega)] at c
        omega
      · rw [hcl, e1]
        have hnx : nI j + 1 = nI (j + 1) := nI_1 j
        refine ⟨fun c => ⟨rfl, ?_, hnx, rfl⟩, fun c => ?_⟩
        · rw [nI_ltI (by omega) (by omega)] at c
          rw [tB_skip td d j (by omega)]
        · rw [nI_ltI (by omega) (by omega)] at c
          cases eb : tB td d j with
          | none =>
            refine ⟨fun _ => ⟨rfl, ?_, hnx, rfl⟩, fun c2 => absurd rfl c2⟩
            show nI j = _
            unfold tB
            rw [eb]
            show nI j = oN (if td j ≤ d then some j else none)
            rw [if_pos (by omega)]
            rfl
          | some b =>
            have hbj := tB_lt td d j b eb
            have e2 : h_ai h 22 b = nI (td b) := (hv b (by omega)).1
            have b2 := (hb b (by omega)).1
            have hclb : (oN (some b)).toNatClampNeg = b := nI_clamp (by omega)
            refine ⟨fun c2 => absurd c2 (oN_ne b (by omega)), fun _ => ⟨vp_in_nI (by omega) (by decide), vp_in_nI (by omega) (by decide), ?_⟩⟩
            rw [hclb, e2]
            refine ⟨fun c3 => ⟨rfl, ?_, hnx, rfl⟩, fun c3 => ⟨rfl, ?_, hnx, rfl⟩⟩
            · rw [nI_ltI (by omega) (by omega)] at c3
              unfold tB
              rw [eb]
              show oN (some b) = oN (if td j ≤ d ∧ td b ≤ td j then some j else some b)
              rw [if_neg (by omega)]
            · rw [nI_ltI (by omega) (by omega)] at c3
              unfold tB
              rw [eb]
              show nI j = oN (if td j ≤ d ∧ td b ≤ td j then some j else some b)
              rw [if_pos (by omega)]
              rfl
  refine t_X1_textOf_0 sh (nI d) (K5 := fun a b c hh => a = nI d ∧ b = -4 ∧ c = 0 ∧ hh = h) (fun a b c hh z => ?_) ⟨rfl, rfl, rfl, rfl⟩
  obtain ⟨rfl, rfl, rfl, rfl⟩ := z
  exact loop tn 0 (Nat.zero_le _) rfl
/-- what counts of kind k on day d: -4 where it's none of issue, late, debt -/
def tV (tn : Nat) (td : Nat → Nat) (tv : Nat → Nat → Option Nat) (d k : Nat) : Option Nat := match tB td d tn with
  | none => none
  | some t => tv t k
def tL (tn : Nat) (td : Nat → Nat) (tv : Nat → Nat → Option Nat) (d k : Nat) : Int32 := match tV tn td tv d k with
  | some v => nI v
  | none => if k = 1 ∨ k = 2 then -4 else 0
set_option maxRecDepth 20000 in
theorem t_X9_law_0 {h : mm_H} {Q : Option Value → mm_H → Prop} (sh : s_h h) (dd : Int32) (k : Int32) 
    (F : w_c 0 115 [.ref 44, .int dd] h (fun r h1 => ∃ x2 : Int32, r = some (.int x2) ∧ s_h h1 ∧ ((¬ x2 = (-4) → (vp_in ((5 * x2) + k) 30 ∧ ((¬ (h_ai h1 48 ((5 * x2) + k).toNatClampNeg) = (-4) → Q (some (.int (h_ai h1 48 ((5 * x2) + k).toNatClampNeg))) h1) ∧ ((h_ai h1 48 ((5 * x2) + k).toNatClampNeg) = (-4) → ((k = 1 → Q (some (.int (h_ai h1 48 ((5 * x2) + k).toNatClampNeg))) h1) ∧ (¬ (k = 1) → ((k = 2 → Q (some (.int (h_ai h1 48 ((5 * x2) + k).toNatClampNeg))) h1) ∧ (¬ (k = 2) → Q (some (.int 0)) h1)))))))) ∧ (x2 = (-4) → ((k = 1 → Q (some (.int (-4))) h1) ∧ (¬ (k = 1) → ((k = 2 → Q (some (.int (-4))) h1) ∧ (¬ (k = 2) → Q (some (.int 0)) h1)))))))) :
    w_c 1 116 [.ref 44, .int dd, .int k] h Q := by
  refine w_ci (M := (9, 5, mc_X9_law)) rfl (Nat.le_of_ble_eq_true rfl) ?_
  show w_p _ _ 0 [(0, .ref 44), (1, .int dd), (2, .int k)] [] h Q
  refine w_b 2 2 [(0, .ref 44), (1, .int dd), (2, .int k)] [.int dd, .ref 44] rfl ?_
  refine w_cv (As := [.int dd]) (b := 44) (rest := []) rfl rfl rfl (Nat.le_of_ble_eq_true rfl) (kd_44 sh) (fun z => absurd z (by decide)) (dc := 0) (by omega) (F.mono (fun r h1 F => ?_))
  obtain ⟨x2, rfl, sh1, F⟩ := F
  show w_p _ _ 5 [(0, .ref 44), (1, .int dd), (2, .int k)] [.int x2] h1 _
  refine w_b 3 9 [(3, .int x2), (0, .ref 44), (1, .int dd), (2, .int k)] [.int (-4), .int x2] rfl ?_
  refine w_ic_ne (tgt := 17) (x := x2) (y := (-4)) rfl (by decide) ⟨fun c3 => ?_, fun c3 => ?_⟩
  · have F := F.1 c3
    refine w_b 1 18 [(3, .int x2), (0, .ref 44), (1, .int dd), (2, .int k)] [.ref 44] rfl ?_
    refine w_getS (b := 48) rfl rfl rfl (kd_44 sh1) (or_587_44 sh1) ?_
    refine w_b 5 26 [(3, .int x2), (0, .ref 44), (1, .int dd), (2, .int k)] [.int ((5 * x2) + k), .ref 48] rfl ?_
    obtain ⟨g4, F⟩ := F
    refine w_iald rfl (kd_48 sh1) (by rw [show h_al h1 48 = 30 from (al_48 sh1)]; exact g4) ?_
    refine w_b 3 33 [(4, .int (h_ai h1 48 ((5 * x2) + k).toNatClampNeg)), (3, .int x2), (0, .ref 44), (1, .int dd), (2, .int k)] [.int (-4), .int (h_ai h1 48 ((5 * x2) + k).toNatClampNeg)] rfl ?_
    refine w_ic_ne (tgt := 50) (x := h_ai h1 48 ((5 * x2) + k).toNatClampNeg) (y := (-4)) rfl (by decide) ⟨fun c5 => ?_, fun c5 => ?_⟩
    · have F := F.1 c5
      refine w_b 1 52 [(4, .int (h_ai h1 48 ((5 * x2) + k).toNatClampNeg)), (3, .int x2), (0, .ref 44), (1, .int dd), (2, .int k)] [.int (h_ai h1 48 ((5 * x2) + k).toNatClampNeg)] rfl ?_
      exact w_ir rfl F
    · have F := F.2 (Decidable.not_not.mp c5)
      refine w_b 2 38 [(4, .int (h_ai h1 48 ((5 * x2) + k).toNatClampNeg)), (3, .int x2), (0, .ref 44), (1, .int dd), (2, .int k)] [.int 1, .int k] rfl ?_
      refine w_ic_eq (tgt := 50) (x := k) (y := 1) rfl (by decide) ⟨fun c6 => ?_, fun c6 => ?_⟩
      · have F := F.1 c6
        refine w_b 1 52 [(4, .int (h_ai h1 48 ((5 * x2) + k).toNatClampNeg)), (3, .int x2), (0, .ref 44), (1, .int dd), (2, .int k)] [.int (h_ai h1 48 ((5 * x2) + k).toNatClampNeg)] rfl ?_
        exact w_ir rfl F
      · have F := F.2 c6
        refine w_b 2 43 [(4, .int (h_ai h1 48 ((5 * x2) + k).toNatClampNeg)), (3, .int x2), (0, .ref 44), (1, .int dd), (2, .int k)] [.int 2, .int k] rfl ?_
        refine w_ic_eq (tgt := 50) (x := k) (y := 2) rfl (by decide) ⟨fun c7 => ?_, fun c7 => ?_⟩
        · have F := F.1 c7
          refine w_b 1 52 [(4, .int (h_ai h1 48 ((5 * x2) + k).toNatClampNeg)), (3, .int x2), (0, .ref 44), (1, .int dd), (2, .int k)] [.int (h_ai h1 48 ((5 * x2) + k).toNatClampNeg)] rfl ?_
          exact w_ir rfl F
        · have F := F.2 c7
          refine w_b 2 52 [(4, .int (h_ai h1 48 ((5 * x2) + k).toNatClampNeg)), (3, .int x2), (0, .ref 44), (1, .int dd), (2, .int k)] [.int 0] rfl ?_
          exact w_ir rfl F
  · have F := F.2 (Decidable.not_not.mp c3)
    refine w_b 5 33 [(4, .int (-4)), (3, .int x2), (0, .ref 44), (1, .int dd), (2, .int k)] [.int (-4), .int (-4)] rfl ?_
    refine w_ic_ne (tgt := 50) (x := (-4)) (y := (-4)) rfl (by decide) ⟨fun c8 => absurd c8 (by decide), fun _ => ?_⟩
    refine w_b 2 38 [(4, .int (-4)), (3, .int x2), (0, .ref 44), (1, .int dd), (2, .int k)] [.int 1, .int k] rfl ?_
    refine w_ic_eq (tgt := 50) (x := k) (y := 1) rfl (by decide) ⟨fun c9 => ?_, fun c9 => ?_⟩
    · have F := F.1 c9
      refine w_b 1 52 [(4, .int (-4)), (3, .int x2), (0, .ref 44), (1, .int dd), (2, .int k)] [.int (-4)] rfl ?_
      exact w_ir rfl F
    · have F := F.2 c9
      refine w_b 2 43 [(4, .int (-4)), (3, .int x2), (0, .ref 44), (1, .int dd), (2, .int k)] [.int 2, .int k] rfl ?_
      refine w_ic_eq (tgt := 50) (x := k) (y := 2) rfl (by decide) ⟨fun c10 => ?_, fun c10 => ?_⟩
      · have F := F.1 c10
        refine w_b 1 52 [(4, .int (-4)), (3, .int x2), (0, .ref 44), (1, .int dd), (2, .int k)] [.int (-4)] rfl ?_
        exact w_ir rfl F
      · have F := F.2 c10
        refine w_b 2 52 [(4, .int (-4)), (3, .int x2), (0, .ref 44), (1, .int dd), (2, .int k)] [.int 0] rfl ?_
        exact w_ir rfl F

set_option maxRecDepth 20000 in
theorem t_X1_lawOf_0 {h : mm_H} {Q : Option Value → mm_H → Prop} (sh : s_h h) (dd : Int32) (k : Int32) 
    (F : ((k < 0 → Q (some (.int (-1))) h) ∧ (¬ (k < 0) → ((k < 5 → w_c 0 9 [.ref 21, .int dd] h (fun r h3 => ∃ x4 : Int32, r = some (.int x4) ∧ s_h h3 ∧ ((x4 = (-4) → (vp_in k 5 ∧ Q (some (.int (h_ai h3 3 k.toNatClampNeg))) h3)) ∧ (¬ (x4 = (-4)) → (vp_in x4 6 ∧ (∃ b9 : Nat, (h_ar h3 23 x4.toNatClampNeg) = some b9 ∧ (h_kd h3 b9 = 20 ∧ (vp_in k (h_al h3 b9) ∧ (((h_ai h3 b9 k.toNatClampNeg) = (-1) → (vp_in k 5 ∧ Q (some (.int (h_ai h3 3 k.toNatClampNeg))) h3)) ∧ (¬ ((h_ai h3 b9 k.toNatClampNeg) = (-1)) → (vp_in x4 6 ∧ (∃ b18 : Nat, (h_ar h3 23 x4.toNatClampNeg) = some b18 ∧ (h_kd h3 b18 = 20 ∧ (vp_in k (h_al h3 b18) ∧ Q (some (.int (h_ai h3 b18 k.toNatClampNeg))) h3)))))))))))))) ∧ (¬ (k < 5) → Q (some (.int (-1))) h))))) :
    w_c 1 10 [.ref 21, .int dd, .int k] h Q := by
  refine w_ci (M := (1, 5, mc_X1_lawOf)) rfl (Nat.le_of_ble_eq_true rfl) ?_
  show w_p _ _ 0 [(0, .ref 21), (1, .int dd), (2, .int k)] [] h Q
  refine w_b 1 1 [(0, .ref 21), (1, .int dd), (2, .int k)] [.int k] rfl ?_
  refine w_if_lt (tgt := 9) (x := k) rfl (by decide) ⟨fun c1 => ?_, fun c1 => ?_⟩
  · have F := F.1 c1
    refine w_b 1 10 [(0, .ref 21), (1, .int dd), (2, .int k)] [.int (-1)] rfl ?_
    exact w_ir rfl F
  · have F := F.2 c1
    refine w_b 2 6 [(0, .ref 21), (1, .int dd), (2, .int k)] [.int 5, .int k] rfl ?_
    refine w_ic_lt (tgt := 11) (x := k) (y := 5) rfl (by decide) ⟨fun c2 => ?_, fun c2 => ?_⟩
    · have F := F.1 c2
      refine w_b 2 13 [(0, .ref 21), (1, .int dd), (2, .int k)] [.int dd, .ref 21] rfl ?_
      refine w_cv (As := [.int dd]) (b := 21) (rest := []) rfl rfl rfl (Nat.le_of_ble_eq_true rfl) (kd_21 sh) (fun z => absurd z (by decide)) (dc := 0) (by omega) (F.mono (fun r h3 F => ?_))
      obtain ⟨x4, rfl, sh3, F⟩ := F
      show w_p _ _ 16 [(0, .ref 21), (1, .int dd), (2, .int k)] [.int x4] h3 _
      refine w_b 3 20 [(3, .int x4), (0, .ref 21), (1, .int dd), (2, .int k)] [.int (-4), .int x4] rfl ?_
      refine w_ic_eq (tgt := 39) (x := x4) (y := (-4)) rfl (by decide) ⟨fun c5 => ?_, fun c5 => ?_⟩
      · have F := F.1 c5
        refine w_b 3 44 [(4, .int 0), (3, .int x4), (0, .ref 21), (1, .int dd), (2, .int k)] [.int 0] rfl ?_
        refine w_if_eq (tgt := 58) (x := 0) rfl (by decide) ⟨fun _ => ?_, fun c6 => absurd (by decide) c6⟩
        refine w_b 2 62 [(4, .int 0), (3, .int x4), (0, .ref 21), (1, .int dd), (2, .int k)] [.int k, .ref 3] rfl ?_
        obtain ⟨g7, F⟩ := F
        refine w_iald rfl (kd_3 sh3) (by rw [show h_al h3 3 = 5 from (al_3 sh3)]; exact g7) ?_
        exact w_ir rfl F
      · have F := F.2 c5
        refine w_b 1 24 [(3, .int x4), (0, .ref 21), (1, .int dd), (2, .int k)] [.ref 21] rfl ?_
        refine w_getS (b := 23) rfl rfl rfl (kd_21 sh3) (or_65_21 sh3) ?_
        refine w_b 1 28 [(3, .int x4), (0, .ref 21), (1, .int dd), (2, .int k)] [.int x4, .ref 23] rfl ?_
        obtain ⟨g8, F⟩ := F
        refine w_aald rfl (by rw [kd_23 sh3]; decide) (by rw [show h_al h3 23 = 6 from (al_23 sh3)]; exact g8) ?_
        refine w_b 1 30 [(3, .int x4), (0, .ref 21), (1, .int dd), (2, .int k)] [.int k, va_rf (h_ar h3 23 x4.toNatClampNeg)] rfl ?_
        obtain ⟨b9, e10, F⟩ := F
        rw [e10]
        show w_p _ _ 30 [(3, .int x4), (0, .ref 21), (1, .int dd), (2, .int k)] [.int k, .ref b9] h3 _
        obtain ⟨g11, F⟩ := F
        obtain ⟨g12, F⟩ := F
        refine w_iald rfl g11 g12 ?_
        refine w_b 1 32 [(3, .int x4), (0, .ref 21), (1, .int dd), (2, .int k)] [.int (-1), .int (h_ai h3 b9 k.toNatClampNeg)] rfl ?_
        refine w_ic_eq (tgt := 39) (x := h_ai h3 b9 k.toNatClampNeg) (y := (-1)) rfl (by decide) ⟨fun c13 => ?_, fun c13 => ?_⟩
        · have F := F.1 c13
          refine w_b 3 44 [(4, .int 0), (3, .int x4), (0, .ref 21), (1, .int dd), (2, .int k)] [.int 0] rfl ?_
          refine w_if_eq (tgt := 58) (x := 0) rfl (by decide) ⟨fun _ => ?_, fun c14 => absurd (by decide) c14⟩
          refine w_b 2 62 [(4, .int 0), (3, .int x4), (0, .ref 21), (1, .int dd), (2, .int k)] [.int k, .ref 3] rfl ?_
          obtain ⟨g15, F⟩ := F
          refine w_iald rfl (kd_3 sh3) (by rw [show h_al h3 3 = 5 from (al_3 sh3)]; exact g15) ?_
          exact w_ir rfl F
        · have F := F.2 c13
          refine w_b 4 44 [(4, .int 1), (3, .int x4), (0, .ref 21), (1, .int dd), (2, .int k)] [.int 1] rfl ?_
          refine w_if_eq (tgt := 58) (x := 1) rfl (by decide) ⟨fun c16 => absurd c16 (by decide), fun _ => ?_⟩
          refine w_b 1 48 [(4, .int 1), (3, .int x4), (0, .ref 21), (1, .int dd), (2, .int k)] [.ref 21] rfl ?_
          refine w_getS (b := 23) rfl rfl rfl (kd_21 sh3) (or_65_21 sh3) ?_
          refine w_b 1 52 [(4, .int 1), (3, .int x4), (0, .ref 21), (1, .int dd), (2, .int k)] [.int x4, .ref 23] rfl ?_
          obtain ⟨g17, F⟩ := F
          refine w_aald rfl (by rw [kd_23 sh3]; decide) (by rw [show h_al h3 23 = 6 from (al_23 sh3)]; exact g17) ?_
          refine w_b 1 54 [(4, .int 1), (3, .int x4), (0, .ref 21), (1, .int dd), (2, .int k)] [.int k, va_rf (h_ar h3 23 x4.toNatClampNeg)] rfl ?_
          obtain ⟨b18, e19, F⟩ := F
          rw [e19]
          show w_p _ _ 54 [(4, .int 1), (3, .int x4), (0, .ref 21), (1, .int dd), (2, .int k)] [.int k, .ref b18] h3 _
          obtain ⟨g20, F⟩ := F
          obtain ⟨g21, F⟩ := F
          refine w_iald rfl g20 g21 ?_
          refine w_b 1 63 [(4, .int 1), (3, .int x4), (0, .ref 21), (1, .int dd), (2, .int k)] [.int (h_ai h3 b18 k.toNatClampNeg)] rfl ?_
          exact w_ir rfl F
    · have F := F.2 c2
      refine w_b 1 10 [(0, .ref 21), (1, .int dd), (2, .int k)] [.int (-1)] rfl ?_
      exact w_ir rfl F

