set_option maxRecDepth 20000 in
theorem t_X2_takeOne_0 {D : Nat} {h : mm_H} {Q : Option Value → mm_H → Prop} (sh : s_h h) (ask : Int32) (free : Int32) (dep_ : Int32) {K23 : Int32 → Int32 → Int32 → Int32 → mm_H → Prop} (k23 : ∀ (ask : Int32) (free : Int32) (dep_ : Int32) (x4 : Int32) (h : mm_H), K23 ask free dep_ x4 h → w_p (D + 1) (2, 6, mc_X2_takeOne) 23 [(0, .ref 39), (1, .int ask), (2, .int free), (3, .int dep_), (4, .int x4)] [] h Q) 
    (F : ((ask < 0 → Q (some (.int 0)) h) ∧ (¬ (ask < 0) → (((h_oi h 131 39) ≤ ask → Q (some (.int 0)) h) ∧ (¬ ((h_oi h 131 39) ≤ ask) → ((dep_ ≤ 10 → K23 ask free dep_ 0 h) ∧ (¬ (dep_ ≤ 10) → Q (some (.int 0)) h))))))) :
    w_c (D + 1) 18 [.ref 39, .int ask, .int free, .int dep_] h Q := by
  refine w_ci (M := (2, 6, mc_X2_takeOne)) rfl (Nat.le_of_ble_eq_true rfl) ?_
  show w_p _ _ 0 [(0, .ref 39), (1, .int ask), (2, .int free), (3, .int dep_)] [] h Q
  refine w_b 1 1 [(0, .ref 39), (1, .int ask), (2, .int free), (3, .int dep_)] [.int ask] rfl ?_
  refine w_if_lt (tgt := 18) (x := ask) rfl (by decide) ⟨fun c1 => ?_, fun c1 => ?_⟩
  · have F := F.1 c1
    refine w_b 1 19 [(0, .ref 39), (1, .int ask), (2, .int free), (3, .int dep_)] [.int 0] rfl ?_
    exact w_br rfl (by decide) F
  · have F := F.2 c1
    refine w_b 2 6 [(0, .ref 39), (1, .int ask), (2, .int free), (3, .int dep_)] [.ref 39, .int ask] rfl ?_
    refine w_get (g := 131) rfl rfl rfl (kd_39 sh) ?_
    refine w_ic_ge (tgt := 18) (x := ask) (y := h_oi h 131 39) rfl (by decide) ⟨fun c2 => ?_, fun c2 => ?_⟩
    · have F := F.1 c2
      refine w_b 1 19 [(0, .ref 39), (1, .int ask), (2, .int free), (3, .int dep_)] [.int 0] rfl ?_
      exact w_br rfl (by decide) F
    · have F := F.2 c2
      refine w_b 2 15 [(0, .ref 39), (1, .int ask), (2, .int free), (3, .int dep_)] [.int 10, .int dep_] rfl ?_
      refine w_ic_le (tgt := 20) (x := dep_) (y := 10) rfl (by decide) ⟨fun c3 => ?_, fun c3 => ?_⟩
      · have F := F.1 c3
        refine w_b 2 23 [(4, .int 0), (0, .ref 39), (1, .int ask), (2, .int free), (3, .int dep_)] [] rfl ?_
        refine w_lo [0, 1, 2, 3, 4] [(0, .ref 39), (1, .int ask), (2, .int free), (3, .int dep_), (4, .int 0)] rfl rfl ?_
        exact k23 _ _ _ _ _ F
      · have F := F.2 c3
        refine w_b 1 19 [(0, .ref 39), (1, .int ask), (2, .int free), (3, .int dep_)] [.int 0] rfl ?_
        exact w_br rfl (by decide) F

set_option maxRecDepth 20000 in
theorem t_X2_takeOne_23 {D : Nat} {h : mm_H} {Q : Option Value → mm_H → Prop} (sh : s_h h) (ask : Int32) (free : Int32) (dep_ : Int32) (x4 : Int32) {K23 : Int32 → Int32 → Int32 → Int32 → mm_H → Prop} (k23 : ∀ (ask : Int32) (free : Int32) (dep_ : Int32) (x4 : Int32) (h : mm_H), K23 ask free dep_ x4 h → w_p (D + 1) (2, 6, mc_X2_takeOne) 23 [(0, .ref 39), (1, .int ask), (2, .int free), (3, .int dep_), (4, .int x4)] [] h Q) 
    (F : (((h_oi h 132 39) ≤ x4 → Q (some (.int 0)) h) ∧ (¬ ((h_oi h 132 39) ≤ x4) → (vp_in ask 10 ∧ ((¬ ((((h_ai h 40 ask.toNatClampNeg) &&& free) &&& ((h_oi h 133 39) ^^^ (-1 : Int32))) &&& ((1 : Int32) <<< (x4 &&& 31))) = 0 → (vp_in x4 10 ∧ (((h_ai h 42 x4.toNatClampNeg) = (-4) → (vp_in x4 10 ∧ Q (some (.int 1)) (h_sA (h_sI h 133 39 ((h_oi h 133 39) ||| ((1 : Int32) <<< (x4 &&& 31)))) 42 x4.toNatClampNeg ask))) ∧ (¬ ((h_ai h 42 x4.toNatClampNeg) = (-4)) → (vp_in x4 10 ∧ w_c D 18 [.ref 39, .int (h_ai h 42 x4.toNatClampNeg), .int free, .int (dep_ + 1)] (h_sI h 133 39 ((h_oi h 133 39) ||| ((1 : Int32) <<< (x4 &&& 31)))) (fun r h8 => ∃ z9 : Int32, r = some (.int z9) ∧ s_h h8 ∧ ((z9 = 0 → K23 ask free dep_ (x4 + 1) h8) ∧ (¬ (z9 = 0) → (vp_in x4 10 ∧ Q (some (.int 1)) (h_sA h8 42 x4.toNatClampNeg ask)))))))))) ∧ (((((h_ai h 40 ask.toNatClampNeg) &&& free) &&& ((h_oi h 133 39) ^^^ (-1 : Int32))) &&& ((1 : Int32) <<< (x4 &&& 31))) = 0 → K23 ask free dep_ (x4 + 1) h)))))) :
    w_p (D + 1) (2, 6, mc_X2_takeOne) 23 [(0, .ref 39), (1, .int ask), (2, .int free), (3, .int dep_), (4, .int x4)] [] h Q := by
  refine w_b 2 26 [(0, .ref 39), (1, .int ask), (2, .int free), (3, .int dep_), (4, .int x4)] [.ref 39, .int x4] rfl ?_
  refine w_get (g := 132) rfl rfl rfl (kd_39 sh) ?_
  refine w_ic_ge (tgt := 119) (x := x4) (y := h_oi h 132 39) rfl (by decide) ⟨fun c1 => ?_, fun c1 => ?_⟩
  · have F := F.1 c1
    refine w_b 1 120 [(0, .ref 39), (1, .int ask), (2, .int free), (3, .int dep_), (4, .int x4)] [.int 0] rfl ?_
    exact w_br rfl (by decide) F
  · have F := F.2 c1
    refine w_b 5 39 [(5, .int ((1 : Int32) <<< (x4 &&& 31))), (0, .ref 39), (1, .int ask), (2, .int free), (3, .int dep_), (4, .int x4)] [.ref 39] rfl ?_
    refine w_getS (b := 40) rfl rfl rfl (kd_39 sh) (or_128_39 sh) ?_
    refine w_b 1 43 [(5, .int ((1 : Int32) <<< (x4 &&& 31))), (0, .ref 39), (1, .int ask), (2, .int free), (3, .int dep_), (4, .int x4)] [.int ask, .ref 40] rfl ?_
    obtain ⟨g2, F⟩ := F
    refine w_iald rfl (kd_40 sh) (by rw [show h_al h 40 = 10 from (al_40 sh)]; exact g2) ?_
    refine w_b 3 47 [(5, .int ((1 : Int32) <<< (x4 &&& 31))), (0, .ref 39), (1, .int ask), (2, .int free), (3, .int dep_), (4, .int x4)] [.ref 39, .int ((h_ai h 40 ask.toNatClampNeg) &&& free)] rfl ?_
    refine w_get (g := 133) rfl rfl rfl (kd_39 sh) ?_
    refine w_b 5 56 [(5, .int ((1 : Int32) <<< (x4 &&& 31))), (0, .ref 39), (1, .int ask), (2, .int free), (3, .int dep_), (4, .int x4)] [.int ((((h_ai h 40 ask.toNatClampNeg) &&& free) &&& ((h_oi h 133 39) ^^^ (-1 : Int32))) &&& ((1 : Int32) <<< (x4 &&& 31)))] rfl ?_
    refine w_if_ne (tgt := 62) (x := (((h_ai h 40 ask.toNatClampNeg) &&& free) &&& ((h_oi h 133 39) ^^^ (-1 : Int32))) &&& ((1 : Int32) <<< (x4 &&& 31))) rfl (by decide) ⟨fun c3 => ?_, fun c3 => ?_⟩
    · have F := F.1 c3
      refine w_b 2 64 [(5, .int ((1 : Int32) <<< (x4 &&& 31))), (0, .ref 39), (1, .int ask), (2, .int free), (3, .int dep_), (4, .int x4)] [.ref 39, .ref 39] rfl ?_
      refine w_get (g := 133) rfl rfl rfl (kd_39 sh) ?_
      refine w_b 2 70 [(5, .int ((1 : Int32) <<< (x4 &&& 31))), (0, .ref 39), (1, .int ask), (2, .int free), (3, .int dep_), (4, .int x4)] [.int ((h_oi h 133 39) ||| ((1 : Int32) <<< (x4 &&& 31))), .ref 39] rfl ?_
      refine w_put (g := 133) (x := (h_oi h 133 39) ||| ((1 : Int32) <<< (x4 &&& 31))) rfl rfl rfl (kd_39 sh) (by decide) ?_
      refine w_b 1 74 [(5, .int ((1 : Int32) <<< (x4 &&& 31))), (0, .ref 39), (1, .int ask), (2, .int free), (3, .int dep_), (4, .int x4)] [.ref 39] rfl ?_
      refine w_getS (b := 42) rfl rfl rfl (kd_39 sh) (or_130_39 sh) ?_
      refine w_b 1 79 [(5, .int ((1 : Int32) <<< (x4 &&& 31))), (0, .ref 39), (1, .int ask), (2, .int free), (3, .int dep_), (4, .int x4)] [.int x4, .ref 42] rfl ?_
      obtain ⟨g4, F⟩ := F
      refine w_iald rfl (kd_42 sh) (by rw [show h_al (h_sI h 133 39 ((h_oi h 133 39) ||| ((1 : Int32) <<< (x4 &&& 31)))) 42 = 10 from (al_42 sh)]; exact g4) ?_
      refine w_b 1 82 [(5, .int ((1 : Int32) <<< (x4 &&& 31))), (0, .ref 39), (1, .int ask), (2, .int free), (3, .int dep_), (4, .int x4)] [.int (-4), .int (h_ai h 42 x4.toNatClampNeg)] rfl ?_
      refine w_ic_eq (tgt := 103) (x := h_ai h 42 x4.toNatClampNeg) (y := (-4)) rfl (by decide) ⟨fun c5 => ?_, fun c5 => ?_⟩
      · have F := F.1 c5
        refine w_b 1 104 [(5, .int ((1 : Int32) <<< (x4 &&& 31))), (0, .ref 39), (1, .int ask), (2, .int free), (3, .int dep_), (4, .int x4)] [.ref 39] rfl ?_
        refine w_getS (b := 42) rfl rfl rfl (kd_39 sh) (or_130_39 sh) ?_
        refine w_b 2 110 [(5, .int ((1 : Int32) <<< (x4 &&& 31))), (0, .ref 39), (1, .int ask), (2, .int free), (3, .int dep_), (4, .int x4)] [.int ask, .int x4, .ref 42] rfl ?_
        obtain ⟨g6, F⟩ := F
        refine w_iast rfl (kd_42 sh) (by decide) (by rw [show h_al (h_sI h 133 39 ((h_oi h 133 39) ||| ((1 : Int32) <<< (x4 &&& 31)))) 42 = 10 from (al_42 sh)]; exact g6) ?_
        refine w_b 1 112 [(5, .int ((1 : Int32) <<< (x4 &&& 31))), (0, .ref 39), (1, .int ask), (2, .int free), (3, .int dep_), (4, .int x4)] [.int 1] rfl ?_
        exact w_br rfl (by decide) F
      · have F := F.2 c5
        refine w_b 2 87 [(5, .int ((1 : Int32) <<< (x4 &&& 31))), (0, .ref 39), (1, .int ask), (2, .int free), (3, .int dep_), (4, .int x4)] [.ref 39, .ref 39] rfl ?_
        refine w_getS (b := 42) rfl rfl rfl (kd_39 sh) (or_130_39 sh) ?_
        refine w_b 1 92 [(5, .int ((1 : Int32) <<< (x4 &&& 31))), (0, .ref 39), (1, .int ask), (2, .int free), (3, .int dep_), (4, .int x4)] [.int x4, .ref 42, .ref 39] rfl ?_
        obtain ⟨g7, F⟩ := F
        refine w_iald rfl (kd_42 sh) (by rw [show h_al (h_sI h 133 39 ((h_oi h 133 39) ||| ((1 : Int32) <<< (x4 &&& 31)))) 42 = 10 from (al_42 sh)]; exact g7) ?_
        refine w_b 4 97 [(5, .int ((1 : Int32) <<< (x4 &&& 31))), (0, .ref 39), (1, .int ask), (2, .int free), (3, .int dep_), (4, .int x4)] [.int (dep_ + 1), .int free, .int (h_ai h 42 x4.toNatClampNeg), .ref 39] rfl ?_
        refine w_cv (As := [.int (h_ai h 42 x4.toNatClampNeg), .int free, .int (dep_ + 1)]) (b := 39) (rest := []) rfl rfl rfl (Nat.le_of_ble_eq_true rfl) (kd_39 sh) (fun z => absurd z (by decide)) (dc := D) (by omega) (F.mono (fun r h8 F => ?_))
        obtain ⟨z9, rfl, sh8, F⟩ := F
        show w_p _ _ 100 [(5, .int ((1 : Int32) <<< (x4 &&& 31))), (0, .ref 39), (1, .int ask), (2, .int free), (3, .int dep_), (4, .int x4)] [.int z9] h8 _
        refine w_if_eq (tgt := 113) (x := z9) rfl (by decide) ⟨fun c10 => ?_, fun c10 => ?_⟩
        · have F := F.1 c10
          refine w_b 2 23 [(4, .int (x4 + 1)), (5, .int ((1 : Int32) <<< (x4 &&& 31))), (0, .ref 39), (1, .int ask), (2, .int free), (3, .int dep_)] [] rfl ?_
          refine w_lo [0, 1, 2, 3, 4] [(0, .ref 39), (1, .int ask), (2, .int free), (3, .int dep_), (4, .int (x4 + 1))] rfl rfl ?_
          exact k23 _ _ _ _ _ F
        · have F := F.2 c10
          refine w_b 1 104 [(5, .int ((1 : Int32) <<< (x4 &&& 31))), (0, .ref 39), (1, .int ask), (2, .int free), (3, .int dep_), (4, .int x4)] [.ref 39] rfl ?_
          refine w_getS (b := 42) rfl rfl rfl (kd_39 sh8) (or_130_39 sh8) ?_
          refine w_b 2 110 [(5, .int ((1 : Int32) <<< (x4 &&& 31))), (0, .ref 39), (1, .int ask), (2, .int free), (3, .int dep_), (4, .int x4)] [.int ask, .int x4, .ref 42] rfl ?_
          obtain ⟨g11, F⟩ := F
          refine w_iast rfl (kd_42 sh8) (by decide) (by rw [show h_al h8 42 = 10 from (al_42 sh8)]; exact g11) ?_
          refine w_b 1 112 [(5, .int ((1 : Int32) <<< (x4 &&& 31))), (0, .ref 39), (1, .int ask), (2, .int free), (3, .int dep_), (4, .int x4)] [.int 1] rfl ?_
          exact w_br rfl (by decide) F
    · have F := F.2 (Decidable.not_not.mp c3)
      refine w_b 3 23 [(4, .int (x4 + 1)), (5, .int ((1 : Int32) <<< (x4 &&& 31))), (0, .ref 39), (1, .int ask), (2, .int free), (3, .int dep_)] [] rfl ?_
      refine w_lo [0, 1, 2, 3, 4] [(0, .ref 39), (1, .int ask), (2, .int free), (3, .int dep_), (4, .int (x4 + 1))] rfl rfl ?_
      exact k23 _ _ _ _ _ F

/-! THE CIRCLE'S MATCHER: takeOne -/
theorem bit_and (x : Int32) {o : Nat} (ho : o < 32) : (x &&& ((1 : Int32) <<< (nI o &&& 31))) = 0 ↔ bt x o = false := by
  have e := nf_sh o ho
  have h1 : (x &&& ((1 : Int32) <<< (nI o &&& 31))).toBitVec = if x.toBitVec.getLsbD o then BitVec.twoPow 32 o else 0#32 := by
    show x.toBitVec &&& ((1 : Int32) <<< (nI o &&& 31)).toBitVec = _
    rw [e, BitVec.and_twoPow]
  have h2 : bt x o = x.toBitVec.getLsbD o := rfl
  constructor
  · intro z
    rw [z] at h1
    rw [h2]
    cases e2 : x.toBitVec.getLsbD o with
    | false => rfl
    | true =>
      rw [e2, if_pos rfl] at h1
      exact absurd h1.symm (nf_tp o ho)
  · intro z
    rw [h2] at z
    rw [z, if_neg (by decide)] at h1
    exact Int32.toBitVec_inj.mp h1
theorem bt_1 {o i : Nat} (ho : o < 32) : bt ((1 : Int32) <<< (nI o &&& 31)) i = decide (i = o) := by
  show ((1 : Int32) <<< (nI o &&& 31)).toBitVec.getLsbD i = _
  rw [nf_sh o ho, BitVec.getLsbD_twoPow]
  by_cases z : i = o
  · subst z; simp [ho]
  · have : ¬ o = i := fun y => z y.symm
    simp [this, z]
theorem bt_not (x : Int32) {i : Nat} (hi : i < 32) : bt (x ^^^ (-1)) i = !bt x i := by
  rw [b_xor, b_m1 i hi]
  cases bt x i <;> rfl
/-- the matcher's counts and fits -/
def cM (h : mm_H) (na no : Nat) (fit : Nat → Nat → Bool) : Prop := (na ≤ 10 ∧ no ≤ 10) ∧ h_oi h 131 39 = nI na ∧ h_oi h 132 39 = nI no ∧ ∀ a, a < na → ∀ o, o < no → bt (h_ai h 40 a) o = fit a o
def cTk (h : mm_H) (na no : Nat) (t : Nat → Option Nat) : Prop := ∀ o, o < no → h_ai h 42 o = oN (t o) ∧ ∀ a, t o = some a → a < na
def cTr (h : mm_H) (no : Nat) (T : Nat → Bool) : Prop := ∀ o, o < no → bt (h_oi h 133 39) o = T o
theorem cM.fx {h h' : mm_H} {gs : List (Nat × Nat)} {as : List Nat} {na no : Nat} {fit : Nat → Nat → Bool} (H : cM h na no fit) (f : fx h h' gs as) (n1 : (131, 39) ∉ gs) (n2 : (132, 39) ∉ gs) (n3 : 40 ∉ as) : cM h' na no fit := by
  unfold cM at H ⊢
  rw [f.oi 131 39 (by decide) n1, f.oi 132 39 (by decide) n2, f.ai 40 (by decide) n3]
  exact H
theorem cTk.fx {h h' : mm_H} {gs : List (Nat × Nat)} {as : List Nat} {na no : Nat} {t : Nat → Option Nat} (H : cTk h na no t) (f : fx h h' gs as) (n3 : 42 ∉ as) : cTk h' na no t := by
  unfold cTk at H ⊢
  rw [f.ai 42 (by decide) n3]
  exact H
theorem cTr.add {h : mm_H} {no : Nat} {T : Nat → Bool} (H : cTr h no T) (hno : no ≤ 10) {o : Nat} (ho : o < no) : cTr (h_sI h 133 39 (h_oi h 133 39 ||| ((1 : Int32) <<< (nI o &&& 31)))) no (va_up T o true) := by
  intro i hi
  show bt (h_oi h 133 39 ||| ((1 : Int32) <<< (nI o &&& 31))) i = _
  rw [b_or, bt_1 (by omega), H i hi]
  by_cases z : i = o
  · subst z; rw [va_up_self]; simp
  · rw [va_up_ne _ _ z]; simp [z]
theorem cTk.put {h : mm_H} {na no : Nat} {t : Nat → Option Nat} (H : cTk h na no t) {o ask : Nat} (ha : ask < na) : cTk (h_sA h 42 o (nI ask)) na no (va_up t o (some ask)) := by
  intro i hi
  show va_up (h_ai h 42) o (nI ask) i = _ ∧ _
  by_cases z : i = o
  · subst z
    rw [va_up_self, va_up_self]
    exact ⟨rfl, fun a e => by cases e; exact ha⟩
  · rw [va_up_ne _ _ z, va_up_ne _ _ z]
    exact H i hi
theorem un_less {no : Nat} {T : Nat → Bool} {o : Nat} (ho : o < no) (hT : T o = false) : fb_ct (fun i => !va_up T o true i) no + 1 = fb_ct (fun i => !T i) no := by
  have c := mct_up (p := fun i => !T i) (q := fun i => !va_up T o true i) ho (fun i _ z => by show (!va_up T o true i) = _; rw [va_up_ne _ _ z])
  have e1 : (!T o) = true := by rw [hT]; rfl
  have e2 : (!va_up T o true o) = false := by rw [va_up_self]; rfl
  simp only [e1, e2] at c
  simpa using c
theorem un_mono {no : Nat} {T T2 : Nat → Bool} (hs : ∀ i, i < no → T i = true → T2 i = true) : fb_ct (fun i => !T2 i) no ≤ fb_ct (fun i => !T i) no := fb_ct_sub (fun i hi e => by
  cases e2 : T i with
  | false => rfl
  | true => rw [hs i hi e2] at e; cases e)
/-- what takeOne leaves where it fails: T grew to a set that is closed -/
def mfail (fit : Nat → Nat → Bool) (F : Nat → Bool) (no : Nat) (T : Nat → Bool) (t : Nat → Option Nat) (ask : Nat) (T2 : Nat → Bool) : Prop := (∀ o, o < no → T o = true → T2 o = true) ∧ (∀ o, o < no → F o = true → fit ask o = true → T2 o = true) ∧ ∀ o, o < no → T2 o = true → T o = false → ∃ a, t o = some a ∧ ∀ o2, o2 < no → F o2 = true → fit a o2 = true → T2 o2 = true
set_option maxHeartbeats 4000000 in
theorem c_take {na no : Nat} {fit : Nat → Nat → Bool} {free : Int32} : ∀ (u : Nat) {h : mm_H} {Q : Option Value → mm_H → Prop} {T : Nat → Bool} {t : Nat → Option Nat} {ask dep : Nat}, s_h h → cM h na no fit → cTk h na no t → cTr h no T → ask < na → fb_ct (fun o => !T o) no ≤ u → dep + u ≤ 10 → mpre fit (fun o => bt free o) no T t ask →
    (∀ h' T2, fx h h' [(133, 39)] [] → dn h h' → cTr h' no T2 → mfail fit (fun o => bt free o) no T t ask T2 → Q (some (.int 0)) h') →
    (∀ h' t2, fx h h' [(133, 39)] [42] → dn h h' → cTk h' na no t2 → maug fit (fun o => bt free o) no T t ask t2 → Q (some (.int 1)) h') → w_c (u + 1) 18 [.ref 39, .int (nI ask), .int free, .int (nI dep)] h Q := by
  intro u
  induction u with
  | zero =>
    intro h Q T t ask dep sh M Tk Tr ha hu hdep hp kF kT
    obtain ⟨⟨hna, hno⟩, m1, m2, m3⟩ := id M
    have hall : ∀ o, o < no → T o = true := fun o ho => by
      cases e : T o with
      | true => rfl
      | false =>
        have := un_less ho e
        omega
    have loop : ∀ m j, j + m = no → w_p (0 + 1) (2, 6, mc_X2_takeOne) 23 [(0, .ref 39), (1, .int (nI ask)), (2, .int free), (3, .int (nI dep)), (4, .int (nI j))] [] h Q := by
      intro m
      induction m with
      | zero =>
        intro j hj
        refine t_X2_takeOne_23 sh _ _ _ _ (K23 := fun _ _ _ _ _ => False) (fun _ _ _ _ _ z => z.elim) ⟨fun _ => kF h T (fx.rf _ _ _) (dn.rf _) Tr ⟨fun _ _ z => z, fun o ho _ _ => hall o ho, fun o ho h1 h2 => by rw [h1] at h2; cases h2⟩, fun c => absurd ?_ c⟩
        rw [m2, i_le (by omega) (by omega)]
        omega
      | succ m ih =>
        intro j hj
        have hbit : bt (((h_ai h 40 ask &&& free) &&& (h_oi h 133 39 ^^^ (-1)))) j = false := by
          rw [b_and, bt_not _ (by omega), Tr j (by omega), hall j (by omega)]
          simp
        refine t_X2_takeOne_23 sh _ _ _ _ (K23 := fun a b c x hh => a = nI ask ∧ b = free ∧ c = nI dep ∧ x = nI (j + 1) ∧ hh = h) (fun a b c x hh z => ?_) ⟨fun c => ?_, fun _ => ⟨vp_in_nI (by omega) (by decide), fun c => ?_, fun _ => ⟨rfl, rfl, rfl, nI_1 j, rfl⟩⟩⟩
        · obtain ⟨rfl, rfl, rfl, rfl, rfl⟩ := z
          exact ih (j + 1) (by omega)
        · rw [m2, i_le (by omega) (by omega)] at c
          omega
        · rw [i_cl (a := ask) (by omega)] at c
          exact absurd ((bit_and _ (by omega)).mpr hbit) c
    refine t_X2_takeOne_0 sh _ _ _ (K23 := fun a b c x hh => a = nI ask ∧ b = free ∧ c = nI dep ∧ x = 0 ∧ hh = h) (fun a b c x hh z => ?_) ⟨fun c => absurd c (nI_pos (by omega)), fun _ => ⟨fun c => ?_, fun _ => ⟨fun _ => ⟨rfl, rfl, rfl, rfl, rfl⟩, fun c => ?_⟩⟩⟩
    · obtain ⟨rfl, rfl, rfl, rfl, rfl⟩ := z
      exact loop no 0 (by omega)
    · rw [m1, i_le (by omega) (by omega)] at c
      omega
    · exact absurd ((i_le (b := 10) (by omega) (by decide)).mpr (by omega)) c
  | succ u IH =>
    intro h Q T t ask dep sh M Tk Tr ha hu hdep hp kF kT
    obtain ⟨⟨hna, hno⟩, m1, m2, m3⟩ := id M
    have loop : ∀ m j, j + m = no → ∀ (h1 : mm_H) (T1 : Nat → Bool), fx h h1 [(133, 39)] [] → dn h h1 → cTr h1 no T1 → (∀ o, o < no → T o = true → T1 o = true) → (∀ o, o < j → bt free o = true → fit ask o = true → T1 o = true) → (∀ o, o < no → T1 o = true → T o = false → ∃ a, t o = some a ∧ ∀ o2, o2 < no → bt free o2 = true → fit a o2 = true → T1 o2 = true) →
        w_p (u + 1 + 1) (2, 6, mc_X2_takeOne) 23 [(0, .ref 39), (1, .int (nI ask)), (2, .int free), (3, .int (nI dep)), (4, .int (nI j))] [] h1 Q := by
      intro m
      induction m with
      | zero =>
        intro j hj h1 T1 f1 d1 Tr1 s1 s2 s3
        have sh1 := f1.sh sh (by decide)
        have M1 := M.fx f1 (by decide) (by decide) (by decide)
        refine t_X2_takeOne_23 sh1 _ _ _ _ (K23 := fun _ _ _ _ _ => False) (fun _ _ _ _ _ z => z.elim) ⟨fun _ => kF h1 T1 f1 d1 Tr1 ⟨s1, fun o ho => s2 o (by omega), s3⟩, fun c => absurd ?_ c⟩
        rw [M1.2.2.1, i_le (by omega) (by omega)]
        omega
      | succ m ih =>
        intro j hj h1 T1 f1 d1 Tr1 s1 s2 s3
        have sh1 := f1.sh sh (by decide)
        have M1 := M.fx f1 (by decide) (by decide) (by decide)
        have Tk1 := Tk.fx f1 (by decide)
        have hp1 := mpre_more hp s1
        have hbit : bt (((h_ai h1 40 ask &&& free) &&& (h_oi h1 133 39 ^^^ (-1)))) j = ((fit ask j && bt free j) && !T1 j) := by
          rw [b_and, b_and, bt_not _ (by omega), Tr1 j (by omega), M1.2.2.2 ask ha j (by omega)]
        have hun := un_mono (no := no) s1
        refine t_X2_takeOne_23 sh1 _ _ _ _ (K23 := fun a b c x hh => a = nI ask ∧ b = free ∧ c = nI dep ∧ x = nI (j + 1) ∧ ∃ T2, fx h hh [(133, 39)] [] ∧ dn h hh ∧ cTr hh no T2 ∧ (∀ o, o < no → T o = true → T2 o = true) ∧ (∀ o, o < j + 1 → bt free o = true → fit ask o = true → T2 o = true) ∧ (∀ o, o < no → T2 o = true → T o = false → ∃ a, t o = some a ∧ ∀ o2, o2 < no → bt free o2 = true → fit a o2 = true → T2 o2 = true)) (fun a b c x hh z => ?_) ⟨fun c => ?_, fun _ => ⟨vp_in_nI (by omega) (by decide), fun c => ?_, fun c => ?_⟩⟩
        · obtain ⟨rfl, rfl, rfl, rfl, T2, z1, z2, z3, z4, z5, z6⟩ := z
          exact ih (j + 1) (by omega) hh T2 z1 z2 z3 z4 z5 z6
        · rw [M1.2.2.1, i_le (by omega) (by omega)] at c
          omega
        · rw [i_cl (a := ask) (by omega)] at c
          have hb : ((fit ask j && bt free j) && !T1 j) = true := by
            cases e : ((fit ask j && bt free j) && !T1 j) with
            | true => rfl
            | false => rw [e] at hbit; exact absurd ((bit_and _ (by omega)).mpr hbit) c
          rw [Bool.and_eq_true, Bool.and_eq_true] at hb
          obtain ⟨⟨b1, b2⟩, b3⟩ := hb
          have b3 : T1 j = false := by simpa using b3
          have hT0 : T j = false := by
            cases e : T j with
            | false => rfl
            | true => rw [s1 j (by omega) e] at b3; cases b3
          have ec : (nI j).toNatClampNeg = j := i_cl (by omega)
          rw [ec, (Tk1 j (by omega)).1]
          have hv : vp_in (nI j) 10 := vp_in_nI (by omega) (by decide)
          have f2 : fx h (h_sI h1 133 39 (h_oi h1 133 39 ||| ((1 : Int32) <<< (nI j &&& 31)))) [(133, 39)] [] := f1.sI _ (by decide)
          have d2 : dn h (h_sI h1 133 39 (h_oi h1 133 39 ||| ((1 : Int32) <<< (nI j &&& 31)))) := d1.sI _ (by decide)
          have Tr2 := Tr1.add hno (o := j) (by omega)
          have Tk2 := Tk.fx f2 (by decide)
          have M2 := M.fx f2 (by decide) (by decide) (by decide)
          refine ⟨hv, fun c2 => ⟨hv, ?_⟩, fun c2 => ⟨hv, ?_⟩⟩
          · have e0 : t j = none := by
              cases e : t j with
              | none => rfl
              | some a =>
                have := (Tk1 j (by omega)).2 a e
                rw [e] at c2
                exact absurd c2 (oN_ne a (by omega))
            refine kT _ (va_up t j (some ask)) ?_ (d2.sA _ _ (by decide)) (Tk2.put ha) (maug_less hp s1 (maug_here hp1 (by omega) b3 b2 b1 e0))
            exact (f2.tr (fx.rf _ [(133, 39)] [42]) (by decide) (by decide) (by decide) (by decide)).sA _ _ (by decide)
          · cases e : t j with
            | none => rw [e] at c2; exact absurd rfl c2
            | some a2 =>
              have ha2 := (Tk1 j (by omega)).2 a2 e
              have hun2 := un_less (no := no) (o := j) (by omega) b3
              have s12 : ∀ o, o < no → T o = true → va_up T1 j true o = true := fun o ho z => by
                by_cases y : o = j
                · rw [y, va_up_self]
                · rw [va_up_ne _ _ y]; exact s1 o ho z
              show w_c (u + 1) 18 [.ref 39, .int (nI a2), .int free, .int (nI dep + 1)] _ _
              rw [nI_1]
              refine IH (dep := dep + 1) (T := va_up T1 j true) (t := t) (f2.sh sh (by decide)) M2 Tk2 Tr2 ha2 (by omega) (by omega) (mpre_deep hp1 (by omega) b3 e) (fun h3 T3 f3 d3 Tr3 hf3 => ?_) (fun h3 t3 f3 d3 Tk3 ha3 => ?_)
              · obtain ⟨g1, g2, g3⟩ := hf3
                have f4 : fx h h3 [(133, 39)] [] := f2.tr f3 (by decide) (by decide) (by decide) (by decide)
                refine ⟨0, rfl, f4.sh sh (by decide), fun _ => ⟨rfl, rfl, rfl, nI_1 j, T3, f4, d2.tr d3, Tr3, fun o ho z => g1 o ho (s12 o ho z), fun o ho z1 z2 => ?_, fun o ho z1 z2 => ?_⟩, fun z => absurd rfl z⟩
                · by_cases y : o = j
                  · subst y; exact g1 o (by omega) (va_up_self _ _ _)
                  · refine g1 o (by omega) ?_
                    rw [va_up_ne _ _ y]
                    exact s2 o (by omega) z1 z2
                · by_cases y : o = j
                  · subst y
                    exact ⟨a2, e, g2⟩
                  · cases e1 : T1 o with
                    | true =>
                      obtain ⟨a, k1, k2⟩ := s3 o ho e1 z2
                      refine ⟨a, k1, fun o2 ho2 y1 y2 => g1 o2 ho2 ?_⟩
                      by_cases w : o2 = j
                      · rw [w, va_up_self]
                      · rw [va_up_ne _ _ w]; exact k2 o2 ho2 y1 y2
                    | false => exact g3 o ho z1 (by rw [va_up_ne _ _ y]; exact e1)
              · have f4 : fx h h3 [(133, 39)] [42] := f2.tr f3 (by decide) (by decide) (by decide) (by decide)
                exact ⟨1, rfl, f4.sh sh (by decide), fun z => absurd z (by decide), fun _ => ⟨hv, kT _ (va_up t3 j (some ask)) (f4.sA _ _ (by decide)) ((d2.tr d3).sA _ _ (by decide)) (Tk3.put ha) (maug_less hp s1 (maug_deep hp1 (by omega) b3 b2 b1 e ha3))⟩⟩
        · rw [i_cl (a := ask) (by omega), bit_and _ (by omega), hbit] at c
          refine ⟨rfl, rfl, rfl, nI_1 j, T1, f1, d1, Tr1, s1, fun o ho z1 z2 => ?_, s3⟩
          by_cases y : o = j
          · subst y
            rw [z1, z2] at c
            simpa using c
          · exact s2 o (by omega) z1 z2
    refine t_X2_takeOne_0 sh _ _ _ (K23 := fun a b c x hh => a = nI ask ∧ b = free ∧ c = nI dep ∧ x = 0 ∧ hh = h) (fun a b c x hh z => ?_) ⟨fun c => absurd c (nI_pos (by omega)), fun _ => ⟨fun c => ?_, fun _ => ⟨fun _ => ⟨rfl, rfl, rfl, rfl, rfl⟩, fun c => ?_⟩⟩⟩
    · obtain ⟨rfl, rfl, rfl, rfl, rfl⟩ := z
      exact loop no 0 (by omega) hh T (fx.rf _ _ _) (dn.rf _) Tr (fun _ _ z => z) (fun o ho => by omega) (fun o ho h1 h2 => by rw [h1] at h2; cases h2)
    · rw [m1, i_le (by omega) (by omega)] at c
      omega
    · exact absurd ((i_le (b := 10) (by omega) (by decide)).mpr (by omega)) c
