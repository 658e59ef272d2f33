/-! WHO IS REACHED -/
def rO1 (fit : Nat → Nat → Bool) (na no : Nat) (A O : Nat → Prop) : Nat → Prop := fun o => O o ∨ (o < no ∧ ∃ k, k < na ∧ A k ∧ fit k o = true)
def rA1 (g : Nat → Option Nat) (na : Nat) (A O : Nat → Prop) : Nat → Prop := fun k => A k ∨ (k < na ∧ ∃ o, g k = some o ∧ O o)
def rch (fit : Nat → Nat → Bool) (g : Nat → Option Nat) (na no : Nat) : Nat → (Nat → Prop) × (Nat → Prop)
  | 0 => (fun k => k < na ∧ g k = none, fun _ => False)
  | n + 1 => (rA1 g na (rch fit g na no n).1 (rO1 fit na no (rch fit g na no n).1 (rch fit g na no n).2), rO1 fit na no (rch fit g na no n).1 (rch fit g na no n).2)
section
variable {fit : Nat → Nat → Bool} {g : Nat → Option Nat} {na no : Nat}
theorem rch_lt (n : Nat) : (∀ k, (rch fit g na no n).1 k → k < na) ∧ ∀ o, (rch fit g na no n).2 o → o < no := by
  induction n with
  | zero => exact ⟨fun k h => h.1, fun o h => h.elim⟩
  | succ n ih =>
    have h2 : ∀ o, (rch fit g na no (n + 1)).2 o → o < no := fun o h => h.elim (ih.2 o) (fun z => z.1)
    exact ⟨fun k h => h.elim (ih.1 k) (fun z => z.1), h2⟩
theorem rch_st {n : Nat} (h : ∀ k, (rch fit g na no (n + 1)).1 k → (rch fit g na no n).1 k) : rch fit g na no (n + 2) = rch fit g na no (n + 1) := by
  have hO : (rch fit g na no (n + 2)).2 = (rch fit g na no (n + 1)).2 := funext fun o => propext ⟨fun z => z.elim (fun y => y) (fun ⟨ho, k, hk, hA, hf⟩ => Or.inr ⟨ho, k, hk, h k hA, hf⟩), fun z => Or.inl z⟩
  have hA : (rch fit g na no (n + 2)).1 = (rch fit g na no (n + 1)).1 := by
    show rA1 g na (rch fit g na no (n + 1)).1 (rch fit g na no (n + 2)).2 = _
    rw [hO]
    exact funext fun k => propext ⟨fun z => z.elim (fun y => y) (fun y => Or.inr y), fun z => Or.inl z⟩
  exact Prod.ext hA hO
theorem rch_stm {n : Nat} (h : ∀ k, (rch fit g na no (n + 1)).1 k → (rch fit g na no n).1 k) : ∀ m, rch fit g na no (n + 1 + m) = rch fit g na no (n + 1)
  | 0 => rfl
  | m + 1 => by
    have ih := rch_stm h m
    have e : rch fit g na no (n + 1 + (m + 1)) = (rA1 g na (rch fit g na no (n + 1 + m)).1 (rO1 fit na no (rch fit g na no (n + 1 + m)).1 (rch fit g na no (n + 1 + m)).2), rO1 fit na no (rch fit g na no (n + 1 + m)).1 (rch fit g na no (n + 1 + m)).2) := rfl
    rw [e, ih]
    exact rch_st h
noncomputable def pB (P : Nat → Prop) (k : Nat) : Bool := @decide (P k) (Classical.propDecidable _)
theorem pB_t {P : Nat → Prop} {k : Nat} : pB P k = true ↔ P k := by
  unfold pB
  exact @decide_eq_true_iff _ (Classical.propDecidable _)
theorem rch_ct : ∀ n, (∃ i, i < n ∧ ∀ k, (rch fit g na no (i + 1)).1 k → (rch fit g na no i).1 k) ∨ n ≤ fb_ct (pB (rch fit g na no n).1) na
  | 0 => Or.inr (Nat.zero_le _)
  | n + 1 => by
    rcases rch_ct n with ⟨i, hi, h⟩ | h
    · exact Or.inl ⟨i, by omega, h⟩
    · by_cases z : ∀ k, (rch fit g na no (n + 1)).1 k → (rch fit g na no n).1 k
      · exact Or.inl ⟨n, by omega, z⟩
      · right
        obtain ⟨k, hk⟩ := Classical.not_forall.mp z
        have h1 : (rch fit g na no (n + 1)).1 k := Classical.not_not.mp (fun y => hk (fun x => absurd x y))
        have h2 : ¬ (rch fit g na no n).1 k := fun y => hk (fun _ => y)
        have hkn := (rch_lt (n + 1)).1 k h1
        have c := mct_up (p := pB (rch fit g na no n).1) (q := va_up (pB (rch fit g na no n).1) k true) hkn (fun i _ y => va_up_ne _ _ y)
        have e1 : pB (rch fit g na no n).1 k = false := by
          cases e : pB (rch fit g na no n).1 k with
          | false => rfl
          | true => exact absurd (pB_t.mp e) h2
        rw [e1, va_up_self] at c
        have s : fb_ct (va_up (pB (rch fit g na no n).1) k true) na ≤ fb_ct (pB (rch fit g na no (n + 1)).1) na := fb_ct_sub (fun i hi y => by
          by_cases w : i = k
          · rw [w]; exact pB_t.mpr h1
          · rw [va_up_ne _ _ w] at y
            exact pB_t.mpr (Or.inl (pB_t.mp y)))
        simp at c
        omega
theorem rch_fin {n : Nat} (hn : na + 1 ≤ n) : rch fit g na no n = rch fit g na no (na + 1) := by
  rcases rch_ct (fit := fit) (g := g) (na := na) (no := no) (na + 1) with ⟨i, hi, h⟩ | h
  · have e1 := rch_stm h (n - (i + 1))
    have e2 := rch_stm h (na + 1 - (i + 1))
    rw [show i + 1 + (n - (i + 1)) = n by omega] at e1
    rw [show i + 1 + (na + 1 - (i + 1)) = na + 1 by omega] at e2
    rw [e1, e2]
  · have := fb_ct_le (pB (rch fit g na no (na + 1)).1) na
    omega
end
theorem bt_one : ∀ j, j < 32 → bt 1 j = decide (j = 0) := by decide +kernel
theorem bit_sh (x : Int32) {i : Nat} (hi : i < 32) : ((x >>> (nI i &&& 31)) &&& 1) = 0 ↔ bt x i = false := by
  have h0 : ∀ j, j < 32 → bt ((x >>> (nI i &&& 31)) &&& 1) j = (decide (j = 0) && bt x i) := fun j hj => by
    rw [b_and, bt_one j hj]
    by_cases z : j = 0
    · subst z
      rw [b_sshr i hi x (by decide), if_pos (by omega)]
      simp
    · simp [z]
  constructor
  · intro z
    have := h0 0 (by decide)
    rw [z, b_0] at this
    simpa using this.symm
  · intro z
    refine b_ext (fun j hj => ?_)
    rw [h0 j hj, z, b_0]
    simp
theorem bit_sh1 (x : Int32) {i : Nat} (hi : i < 32) : ((x >>> (nI i &&& 31)) &&& 1) = 1 ↔ bt x i = true := by
  have h0 : ∀ j, j < 32 → bt ((x >>> (nI i &&& 31)) &&& 1) j = (decide (j = 0) && bt x i) := fun j hj => by
    rw [b_and, bt_one j hj]
    by_cases z : j = 0
    · subst z
      rw [b_sshr i hi x (by decide), if_pos (by omega)]
      simp
    · simp [z]
  constructor
  · intro z
    have := h0 0 (by decide)
    rw [z, bt_one 0 (by decide)] at this
    simpa using this.symm
  · intro z
    refine b_ext (fun j hj => ?_)
    rw [h0 j hj, z, bt_one j hj]
    simp
/-- an int whose bits are a set -/
def rB (x : Int32) (P : Nat → Prop) : Prop := ∀ i, i < 32 → (bt x i = true ↔ P i)
theorem rB_one {x y : Int32} {P : Nat → Prop} (h1 : rB x P) (h2 : rB y P) : x = y := b_ext fun i hi => by
  have := (h1 i hi).trans (h2 i hi).symm
  cases e1 : bt x i <;> cases e2 : bt y i <;> simp [e1, e2] at this ⊢
theorem rB.or1 {x : Int32} {P : Nat → Prop} (h : rB x P) {k : Nat} (hk : k < 32) : rB (x ||| ((1 : Int32) <<< (nI k &&& 31))) (fun i => P i ∨ i = k) := fun i hi => by
  rw [b_or, bt_1 hk, Bool.or_eq_true, h i hi, decide_eq_true_eq]
theorem rB.cong {x : Int32} {P P2 : Nat → Prop} (h : rB x P) (e : ∀ i, i < 32 → (P i ↔ P2 i)) : rB x P2 := fun i hi => (h i hi).trans (e i hi)
def cMz (h : mm_H) (na no : Nat) : Prop := ∀ a, a < na → ∀ o, no ≤ o → o < 32 → bt (h_ai h 40 a) o = false
theorem cMz.fx {h h' : mm_H} {gs : List (Nat × Nat)} {as : List Nat} {na no : Nat} (H : cMz h na no) (f : fx h h' gs as) (n3 : 40 ∉ as) : cMz h' na no := by
  unfold cMz at H ⊢
  rw [f.ai 40 (by decide) n3]
  exact H
set_option maxHeartbeats 1000000 in
theorem c_further {h : mm_H} {Q : Option Value → mm_H → Prop} {na no : Nat} {fit : Nat → Nat → Bool} {g : Nat → Option Nat} (sh : s_h h) (M : cM h na no fit) (Z : cMz h na no) (G : cG h na g) (hg : ∀ k o, g k = some o → o < no) {A O : Nat → Prop} (hA : rB (h_oi h 134 39) A) (hO : rB (h_oi h 135 39) O) (k : ∀ h', fx h h' [(134, 39), (135, 39)] [] → dn h h' → rB (h_oi h' 134 39) (rA1 g na A (rO1 fit na no A O)) → rB (h_oi h' 135 39) (rO1 fit na no A O) → Q none h') : w_c 0 22 [.ref 39] h Q := by
  obtain ⟨hna, hno⟩ := M.1
  have loop2 : ∀ m j, j + m = na → ∀ (h1 : mm_H), fx h h1 [(134, 39), (135, 39)] [] → dn h h1 → rB (h_oi h1 134 39) (rA1 g j A (rO1 fit na no A O)) → rB (h_oi h1 135 39) (rO1 fit na no A O) → w_p 0 (2, 2, mc_X2_reachFurther) 44 [(0, .ref 39), (1, .int (nI j))] [] h1 Q := by
    intro m
    induction m with
    | zero =>
      intro j hj h1 f d b1 b2
      have M1 := M.fx f (by decide) (by decide) (by decide)
      have ej : j = na := by omega
      subst ej
      refine t_X2_reachFurther_44 (f.sh sh (by decide)) _ (K44 := fun _ _ => False) (fun _ _ z => z.elim) ⟨fun _ => k h1 f d b1 b2, fun c => absurd ?_ c⟩
      rw [M1.2.1, i_le (by omega) (by omega)]
      exact Nat.le_refl _
    | succ m ih =>
      intro j hj h1 f d b1 b2
      have M1 := M.fx f (by decide) (by decide) (by decide)
      have G1 := G.fx f (by decide)
      have hv : vp_in (nI j) 10 := vp_in_nI (by omega) (by decide)
      refine t_X2_reachFurther_44 (f.sh sh (by decide)) _ (K44 := fun x hh => x = nI (j + 1) ∧ fx h hh [(134, 39), (135, 39)] [] ∧ dn h hh ∧ rB (h_oi hh 134 39) (rA1 g (j + 1) A (rO1 fit na no A O)) ∧ rB (h_oi hh 135 39) (rO1 fit na no A O)) (fun x hh q => ?_) ⟨fun c => ?_, fun _ => ⟨hv, ?_⟩⟩
      · obtain ⟨rfl, q1, q2, q3, q4⟩ := q
        exact ih (j + 1) (by omega) hh q1 q2 q3 q4
      · rw [M1.2.1, i_le (by omega) (by omega)] at c
        omega
      · rw [i_cl (by omega), G1 j (by omega)]
        have same : (¬ ∃ o, g j = some o ∧ rO1 fit na no A O o) → rB (h_oi h1 134 39) (rA1 g (j + 1) A (rO1 fit na no A O)) := fun z => b1.cong fun i hi => ⟨fun y => y.elim Or.inl (fun w => Or.inr ⟨by omega, w.2⟩), fun y => y.elim Or.inl (fun w => Or.inr ⟨by
          have : i ≠ j := fun e => z (by rw [← e]; exact w.2)
          omega, w.2⟩)⟩
        cases e : g j with
        | none => exact ⟨fun _ => ⟨nI_1 j, f, d, same (fun ⟨o, eo, _⟩ => by rw [e] at eo; cases eo), b2⟩, fun z => absurd rfl z⟩
        | some o =>
          have ho := hg j o e
          refine ⟨fun z => absurd z (oN_ne o (by omega)), fun _ => ⟨hv, ?_⟩⟩
          show ((h_oi h1 135 39 >>> (nI o &&& 31)) &&& 1 = 0 → _) ∧ (¬ (h_oi h1 135 39 >>> (nI o &&& 31)) &&& 1 = 0 → _)
          rw [bit_sh _ (by omega)]
          refine ⟨fun c => ⟨nI_1 j, f, d, same (fun ⟨o2, eo, w⟩ => ?_), b2⟩, fun c => ⟨nI_1 j, f.sI _ (by decide), d.sI _ (by decide), ?_, b2⟩⟩
          · rw [e] at eo
            cases eo
            have := (b2 o (by omega)).mpr w
            rw [c] at this
            cases this
          · have c : bt (h_oi h1 135 39) o = true := by cases e3 : bt (h_oi h1 135 39) o with
              | true => rfl
              | false => exact absurd e3 c
            refine (b1.or1 (k := j) (by omega)).cong fun i hi => ⟨fun y => ?_, fun y => ?_⟩
            · rcases y with y | rfl
              · exact y.elim Or.inl (fun w => Or.inr ⟨by omega, w.2⟩)
              · exact Or.inr ⟨by omega, o, e, (b2 o (by omega)).mp c⟩
            · rcases y with y | ⟨y1, y2⟩
              · exact Or.inl (Or.inl y)
              · by_cases w : i = j
                · exact Or.inr w
                · exact Or.inl (Or.inr ⟨by omega, y2⟩)
  have loop1 : ∀ m j, j + m = na → ∀ (h1 : mm_H), fx h h1 [(134, 39), (135, 39)] [] → dn h h1 → rB (h_oi h1 134 39) A → rB (h_oi h1 135 39) (rO1 fit j no A O) → w_p 0 (2, 2, mc_X2_reachFurther) 2 [(0, .ref 39), (1, .int (nI j))] [] h1 Q := by
    intro m
    induction m with
    | zero =>
      intro j hj h1 f d b1 b2
      have M1 := M.fx f (by decide) (by decide) (by decide)
      have ej : j = na := by omega
      subst ej
      refine t_X2_reachFurther_2 (f.sh sh (by decide)) _ (K2 := fun _ _ => False) (fun _ _ z => z.elim) (K44 := fun x hh => x = nI 0 ∧ hh = h1) (fun x hh q => ?_) ⟨fun _ => ⟨rfl, rfl⟩, fun c => absurd ?_ c⟩
      · obtain ⟨rfl, rfl⟩ := q
        exact loop2 j 0 (by omega) hh f d (b1.cong fun i hi => ⟨Or.inl, fun y => y.elim (fun w => w) (fun w => by omega)⟩) b2
      · rw [M1.2.1, i_le (by omega) (by omega)]
        exact Nat.le_refl _
    | succ m ih =>
      intro j hj h1 f d b1 b2
      have M1 := M.fx f (by decide) (by decide) (by decide)
      have Z1 := Z.fx f (by decide)
      have hv : vp_in (nI j) 10 := vp_in_nI (by omega) (by decide)
      refine t_X2_reachFurther_2 (f.sh sh (by decide)) _ (K2 := fun x hh => x = nI (j + 1) ∧ fx h hh [(134, 39), (135, 39)] [] ∧ dn h hh ∧ rB (h_oi hh 134 39) A ∧ rB (h_oi hh 135 39) (rO1 fit (j + 1) no A O)) (fun x hh q => ?_) (K44 := fun _ _ => False) (fun _ _ z => z.elim) ⟨fun c => ?_, fun _ => ?_⟩
      · obtain ⟨rfl, q1, q2, q3, q4⟩ := q
        exact ih (j + 1) (by omega) hh q1 q2 q3 q4
      · rw [M1.2.1, i_le (by omega) (by omega)] at c
        omega
      · rw [bit_sh _ (by omega), i_cl (by omega)]
        refine ⟨fun c => ⟨nI_1 j, f, d, b1, b2.cong fun i hi => ⟨fun y => y.elim Or.inl (fun ⟨w1, w, w2, w3, w4⟩ => Or.inr ⟨w1, w, by omega, w3, w4⟩), fun y => y.elim Or.inl (fun ⟨w1, w, w2, w3, w4⟩ => Or.inr ⟨w1, w, ?_, w3, w4⟩)⟩⟩, fun c => ⟨hv, nI_1 j, f.sI _ (by decide), d.sI _ (by decide), b1, fun i hi => ?_⟩⟩
        · have : w ≠ j := fun e => by
            rw [e] at w3
            have := (b1 j (by omega)).mpr w3
            rw [c] at this
            cases this
          omega
        · have c : bt (h_oi h1 134 39) j = true := by cases e3 : bt (h_oi h1 134 39) j with
            | true => rfl
            | false => exact absurd e3 c
          show bt (h_oi h1 135 39 ||| h_ai h1 40 j) i = true ↔ _
          rw [b_or, Bool.or_eq_true, b2 i hi]
          constructor
          · rintro (y | y)
            · exact y.elim Or.inl (fun ⟨w1, w, w2, w3, w4⟩ => Or.inr ⟨w1, w, by omega, w3, w4⟩)
            · by_cases w : i < no
              · rw [M1.fit (by omega) w] at y
                exact Or.inr ⟨w, j, by omega, (b1 j (by omega)).mp c, y⟩
              · rw [Z1 j (by omega) i (by omega) hi] at y
                cases y
          · rintro (y | ⟨w1, w, w2, w3, w4⟩)
            · exact Or.inl (Or.inl y)
            · by_cases e : w = j
              · right
                rw [M1.fit (by omega) w1, ← e]
                exact w4
              · exact Or.inl (Or.inr ⟨w1, w, by omega, w3, w4⟩)
  refine t_X2_reachFurther_0 sh (K2 := fun x hh => x = nI 0 ∧ hh = h) (fun x hh q => ?_) ⟨rfl, rfl⟩
  obtain ⟨rfl, rfl⟩ := q
  exact loop1 na 0 (by omega) hh (fx.rf _ _ _) (dn.rf _) hA (hO.cong fun i hi => ⟨Or.inl, fun y => y.elim (fun w => w) (fun ⟨_, _, w, _⟩ => by omega)⟩)
set_option maxHeartbeats 1000000 in
theorem c_reach {h : mm_H} {Q : Option Value → mm_H → Prop} {na no : Nat} {fit : Nat → Nat → Bool} {g : Nat → Option Nat} (sh : s_h h) (M : cM h na no fit) (Z : cMz h na no) (G : cG h na g) (hg : ∀ k o, g k = some o → o < no) (k : ∀ h', fx h h' [(134, 39), (135, 39)] [] → dn h h' → rB (h_oi h' 134 39) (rch fit g na no (na + 1)).1 → rB (h_oi h' 135 39) (rch fit g na no (na + 1)).2 → Q none h') : w_c 1 21 [.ref 39] h Q := by
  obtain ⟨hna, hno⟩ := M.1
  have loop2 : ∀ m j, j + m = na + 1 → ∀ (h1 : mm_H), fx h h1 [(134, 39), (135, 39)] [] → dn h h1 → rB (h_oi h1 134 39) (rch fit g na no j).1 → rB (h_oi h1 135 39) (rch fit g na no j).2 → w_p (0 + 1) (2, 2, mc_X2_reach) 51 [(0, .ref 39), (1, .int (nI j))] [] h1 Q := by
    intro m
    induction m with
    | zero =>
      intro j hj h1 f d b1 b2
      have M1 := M.fx f (by decide) (by decide) (by decide)
      have ej : j = na + 1 := by omega
      subst ej
      refine t_X2_reach_51 (f.sh sh (by decide)) _ (K51 := fun _ _ => False) (fun _ _ z => z.elim) ⟨fun _ => k h1 f d b1 b2, fun c => absurd ?_ c⟩
      rw [M1.2.1, i_lt (by omega) (by omega)]
      omega
    | succ m ih =>
      intro j hj h1 f d b1 b2
      have M1 := M.fx f (by decide) (by decide) (by decide)
      refine t_X2_reach_51 (f.sh sh (by decide)) _ (K51 := fun x hh => x = nI (j + 1) ∧ fx h hh [(134, 39), (135, 39)] [] ∧ dn h hh ∧ rB (h_oi hh 134 39) (rch fit g na no (j + 1)).1 ∧ rB (h_oi hh 135 39) (rch fit g na no (j + 1)).2) (fun x hh q => ?_) ⟨fun c => ?_, fun _ => ?_⟩
      · obtain ⟨rfl, q1, q2, q3, q4⟩ := q
        exact ih (j + 1) (by omega) hh q1 q2 q3 q4
      · rw [M1.2.1, i_lt (by omega) (by omega)] at c
        omega
      · refine c_further (f.sh sh (by decide)) M1 (Z.fx f (by decide)) (G.fx f (by decide)) hg b1 b2 (fun h3 f3 d3 r1 r2 => ?_)
        have f4 : fx h h3 [(134, 39), (135, 39)] [] := f.tr f3 (by decide) (by decide) (by decide) (by decide)
        exact ⟨rfl, f4.sh sh (by decide), nI_1 j, f4, d.tr d3, r1, r2⟩
  have loop1 : ∀ m j, j + m = na → ∀ (h1 : mm_H), fx h h1 [(134, 39), (135, 39)] [] → dn h h1 → rB (h_oi h1 134 39) (fun i => i < j ∧ g i = none) → rB (h_oi h1 135 39) (fun _ => False) → w_p (0 + 1) (2, 2, mc_X2_reach) 12 [(0, .ref 39), (1, .int (nI j))] [] h1 Q := by
    intro m
    induction m with
    | zero =>
      intro j hj h1 f d b1 b2
      have M1 := M.fx f (by decide) (by decide) (by decide)
      have ej : j = na := by omega
      subst ej
      refine t_X2_reach_12 (f.sh sh (by decide)) _ (K12 := fun _ _ => False) (fun _ _ z => z.elim) (K51 := fun x hh => x = nI 0 ∧ hh = h1) (fun x hh q => ?_) ⟨fun _ => ⟨rfl, rfl⟩, fun c => absurd ?_ c⟩
      · obtain ⟨rfl, rfl⟩ := q
        exact loop2 (j + 1) 0 (by omega) hh f d b1 b2
      · rw [M1.2.1, i_le (by omega) (by omega)]
        exact Nat.le_refl _
    | succ m ih =>
      intro j hj h1 f d b1 b2
      have M1 := M.fx f (by decide) (by decide) (by decide)
      have G1 := G.fx f (by decide)
      have hv : vp_in (nI j) 10 := vp_in_nI (by omega) (by decide)
      refine t_X2_reach_12 (f.sh sh (by decide)) _ (K12 := fun x hh => x = nI (j + 1) ∧ fx h hh [(134, 39), (135, 39)] [] ∧ dn h hh ∧ rB (h_oi hh 134 39) (fun i => i < j + 1 ∧ g i = none) ∧ rB (h_oi hh 135 39) (fun _ => False)) (fun x hh q => ?_) (K51 := fun _ _ => False) (fun _ _ z => z.elim) ⟨fun c => ?_, fun _ => ⟨hv, ?_⟩⟩
      · obtain ⟨rfl, q1, q2, q3, q4⟩ := q
        exact ih (j + 1) (by omega) hh q1 q2 q3 q4
      · rw [M1.2.1, i_le (by omega) (by omega)] at c
        omega
      · rw [i_cl (by omega), G1 j (by omega)]
        refine ⟨fun c => ⟨nI_1 j, f, d, b1.cong fun i hi => ⟨fun y => ⟨by omega, y.2⟩, fun y => ⟨?_, y.2⟩⟩, b2⟩, fun c => ⟨nI_1 j, f.sI _ (by decide), d.sI _ (by decide), (b1.or1 (k := j) (by omega)).cong fun i hi => ⟨fun y => ?_, fun y => ?_⟩, b2⟩⟩
        · have : i ≠ j := fun e => c (by rw [← e, y.2]; rfl)
          omega
        · rcases y with y | rfl
          · exact ⟨by omega, y.2⟩
          · refine ⟨by omega, ?_⟩
            cases e : g i with
            | none => rfl
            | some o =>
              rw [e] at c
              exact absurd c (oN_ne o (by have := hg i o e; omega))
        · by_cases w : i = j
          · exact Or.inr w
          · exact Or.inl ⟨by omega, y.2⟩
  refine t_X2_reach_0 (D := 0) sh (K12 := fun x hh => x = nI 0 ∧ hh = h_sI (h_sI h 134 39 0) 135 39 0) (fun x hh q => ?_) ⟨rfl, rfl⟩
  obtain ⟨rfl, rfl⟩ := q
  exact loop1 na 0 (by omega) _ (((fx.rf _ _ _).sI _ (by decide)).sI _ (by decide)) (((dn.rf _).sI _ (by decide)).sI _ (by decide)) (fun i hi => ⟨fun y => (by rw [show bt (h_oi (h_sI (h_sI h 134 39 0) 135 39 0) 134 39) i = bt 0 i from rfl, b_0] at y; cases y), fun y => by omega⟩) (fun i hi => ⟨fun y => (by rw [show bt (h_oi (h_sI (h_sI h 134 39 0) 135 39 0) 135 39) i = bt 0 i from rfl, b_0] at y; cases y), fun y => y.elim⟩)
theorem c_notReached {h : mm_H} {Q : Option Value → mm_H → Prop} {na no : Nat} {fit : Nat → Nat → Bool} (sh : s_h h) (M : cM h na no fit) {A : Nat → Prop} (hA : rB (h_oi h 134 39) A) (k : ∀ x, rB x (fun i => i < na ∧ ¬ A i) → Q (some (.int x)) h) : w_c 0 23 [.ref 39] h Q := by
  refine t_X2_asksNotReached_0 sh ?_
  rw [M.2.1]
  refine k _ (fun i hi => ?_)
  rw [b_and, bt_not _ hi, bt_all na M.1.1 i hi, Bool.and_eq_true, decide_eq_true_eq]
  have := hA i hi
  cases e : bt (h_oi h 134 39) i <;> simp [e] at this ⊢ <;> simp [this]
