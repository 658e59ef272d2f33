theorem sub_mask {m x : Int32} (h : ∀ i, i < 32 → bt x i = true → bt m i = true) : m - x = m &&& (x ^^^ (-1)) := by
  have e : (m &&& (x ^^^ (-1))) + x = m := by
    apply Int32.toBitVec_inj.mp
    show (m &&& (x ^^^ (-1))).toBitVec + x.toBitVec = m.toBitVec
    have z : (m &&& (x ^^^ (-1))).toBitVec &&& x.toBitVec = 0#32 := by
      have : ((m &&& (x ^^^ (-1))) &&& x) = 0 := b_ext fun i hi => by
        rw [b_and, b_and, bt_not _ hi, b_0]
        cases bt x i <;> simp
      exact congrArg Int32.toBitVec this
    rw [BitVec.add_eq_or_of_and_eq_zero _ _ z]
    have : ((m &&& (x ^^^ (-1))) ||| x) = m := b_ext fun i hi => by
      rw [b_or, b_and, bt_not _ hi]
      have := h i hi
      cases e1 : bt x i <;> cases e2 : bt m i <;> simp [e1, e2] at this ⊢
    exact congrArg Int32.toBitVec this
  have e2 : ((m &&& (x ^^^ (-1))) + x) - x = m &&& (x ^^^ (-1)) := Int32.add_sub_cancel _ _
  rw [e] at e2
  exact e2
theorem or0 (x : Int32) : x ||| 0 = x := b_ext fun i hi => by rw [b_or, b_0, Bool.or_false]
set_option maxHeartbeats 2000000 in
theorem m_whyL {h : mm_H} {Q : Option Value → mm_H → Prop} {na no D : Nat} {fit : Nat → Nat → Bool} {g : Nat → Option Nat} {what : Int32} (sh : s_h h) (C : mC h na no) (Ft : mF h na no fit) (Gm : mGm h na g) (hg : ∀ k o, g k = some o → o < no) (k0 : ¬ what = 1 → ∀ x, rB x (fun i => i < na ∧ ¬ (rch fit g na no (na + 1)).1 i) → Q (some (.int x)) h) (k1 : what = 1 → ∀ x, rB x (rch fit g na no (na + 1)).2 → Q (some (.int x)) h) : w_p (D + 1) (9, 7, mc_X9_why) 24 [(0, .ref 44), (1, .int what), (2, .int 0), (3, .int 0), (4, .int (nI 0))] [] h Q := by
  obtain ⟨hna, hno⟩ := C.1
  have rounds : ∀ m t, t + m = 20 → ∀ (ax ox : Int32), rB ax (rch fit g na no t).1 → rB ox (rch fit g na no t).2 → w_p (D + 1) (9, 7, mc_X9_why) 65 [(0, .ref 44), (1, .int what), (2, .int ax), (3, .int ox), (4, .int (nI t))] [] h Q := by
    intro m
    induction m with
    | zero =>
      intro t ht ax ox b1 b2
      have et : t = 20 := by omega
      subst et
      rw [rch_fin (n := 20) (by omega)] at b1 b2
      refine t_X9_why_65 sh _ _ _ _ (K75 := fun _ _ _ _ _ _ => False) (fun _ _ _ _ _ _ z => z.elim) ⟨fun _ => ⟨fun c => ?_, fun c => k1 c _ b2⟩, fun c => absurd ?_ c⟩
      · refine k0 c _ (fun i hi => ?_)
        rw [C.2.1, sub_mask, b_and, bt_not _ hi, bt_all na hna i hi, Bool.and_eq_true, decide_eq_true_eq]
        · have := b1 i hi
          cases e : bt ax i <;> simp [e] at this ⊢ <;> simp [this]
        · intro j hj y
          rw [bt_all na hna j hj]
          exact decide_eq_true ((rch_lt _).1 j ((b1 j hj).mp y))
      · decide
    | succ m ih =>
      intro t ht ax ox b1 b2
      have last : ∀ m j, j + m = na → ∀ (ax2 ox2 : Int32), rB ax2 (rA1 g j (rch fit g na no t).1 (rch fit g na no (t + 1)).2) → rB ox2 (rch fit g na no (t + 1)).2 → w_p (D + 1) (9, 7, mc_X9_why) 148 [(0, .ref 44), (1, .int what), (2, .int ax2), (3, .int ox2), (4, .int (nI t)), (5, .int (nI j))] [] h Q := by
        intro m
        induction m with
        | zero =>
          intro j hj ax2 ox2 c1 c2
          have ej : j = na := by omega
          subst ej
          refine t_X9_why_148 sh _ _ _ _ _ (K65 := fun x1 x2 x3 x4 hh => x1 = what ∧ x2 = ax2 ∧ x3 = ox2 ∧ x4 = nI (t + 1) ∧ hh = h) (fun x1 x2 x3 x4 hh q => ?_) (K148 := fun _ _ _ _ _ _ => False) (fun _ _ _ _ _ _ z => z.elim) ⟨fun _ => ⟨rfl, rfl, rfl, nI_1 t, rfl⟩, fun c => absurd ?_ c⟩
          · obtain ⟨rfl, rfl, rfl, rfl, rfl⟩ := q
            exact ih (t + 1) (by omega) _ _ c1 c2
          · rw [C.2.1, i_le (by omega) (by omega)]
            exact Nat.le_refl _
        | succ m ih2 =>
          intro j hj ax2 ox2 c1 c2
          have hv : vp_in (nI j) 10 := vp_in_nI (by omega) (by decide)
          refine t_X9_why_148 sh _ _ _ _ _ (K65 := fun _ _ _ _ _ => False) (fun _ _ _ _ _ z => z.elim) (K148 := fun x1 x2 x3 x4 x5 hh => x1 = what ∧ rB x2 (rA1 g (j + 1) (rch fit g na no t).1 (rch fit g na no (t + 1)).2) ∧ x3 = ox2 ∧ x4 = nI t ∧ x5 = nI (j + 1) ∧ hh = h) (fun x1 x2 x3 x4 x5 hh q => ?_) ⟨fun c => ?_, fun _ => ⟨hv, ?_⟩⟩
          · obtain ⟨rfl, q1, rfl, rfl, rfl, rfl⟩ := q
            exact ih2 (j + 1) (by omega) _ _ q1 c2
          · rw [C.2.1, i_le (by omega) (by omega)] at c
            omega
          · rw [i_cl (by omega), Gm j (by omega), or0]
            have same : (¬ ∃ o, g j = some o ∧ (rch fit g na no (t + 1)).2 o) → rB ax2 (rA1 g (j + 1) (rch fit g na no t).1 (rch fit g na no (t + 1)).2) := fun z => c1.cong fun i hi => ⟨fun y => y.elim Or.inl (fun w => Or.inr ⟨by omega, w.2⟩), fun y => y.elim Or.inl (fun w => Or.inr ⟨by
              have : i ≠ j := fun e => z (by rw [← e]; exact w.2)
              omega, w.2⟩)⟩
            cases e : g j with
            | none => exact ⟨fun _ => ⟨rfl, same (fun ⟨o, eo, _⟩ => by rw [e] at eo; cases eo), rfl, rfl, nI_1 j, rfl⟩, fun z => absurd rfl z⟩
            | some o =>
              have ho := hg j o e
              refine ⟨fun z => absurd z (oN_ne o (by omega)), fun _ => ⟨hv, ?_⟩⟩
              show (¬ (ox2 >>> (nI o &&& 31)) &&& 1 = 1 → _) ∧ ((ox2 >>> (nI o &&& 31)) &&& 1 = 1 → _)
              rw [bit_sh1 _ (by omega)]
              refine ⟨fun c => ⟨rfl, same (fun ⟨o2, eo, w⟩ => ?_), rfl, rfl, nI_1 j, rfl⟩, fun c => ⟨rfl, ?_, rfl, rfl, nI_1 j, rfl⟩⟩
              · rw [e] at eo
                cases eo
                exact c ((c2 o (by omega)).mpr w)
              · refine (c1.or1 (k := j) (by omega)).cong fun i hi => ⟨fun y => ?_, fun y => ?_⟩
                · rcases y with y | rfl
                  · exact y.elim Or.inl (fun w => Or.inr ⟨by omega, w.2⟩)
                  · exact Or.inr ⟨by omega, o, e, (c2 o (by omega)).mp c⟩
                · rcases y with y | ⟨y1, y2⟩
                  · exact Or.inl (Or.inl y)
                  · by_cases w : i = j
                    · exact Or.inr w
                    · exact Or.inl (Or.inr ⟨by omega, y2⟩)
      have mid : ∀ m j, j + m = na → ∀ (ox2 : Int32), rB ox2 (rO1 fit j no (rch fit g na no t).1 (rch fit g na no t).2) → w_p (D + 1) (9, 7, mc_X9_why) 75 [(0, .ref 44), (1, .int what), (2, .int ax), (3, .int ox2), (4, .int (nI t)), (5, .int (nI j))] [] h Q := by
        intro m
        induction m with
        | zero =>
          intro j hj ox2 c2
          have ej : j = na := by omega
          subst ej
          refine t_X9_why_75 sh _ _ _ _ _ (K87 := fun _ _ _ _ _ _ _ => False) (fun _ _ _ _ _ _ _ z => z.elim) (K148 := fun x1 x2 x3 x4 x5 hh => x1 = what ∧ x2 = ax ∧ x3 = ox2 ∧ x4 = nI t ∧ x5 = nI 0 ∧ hh = h) (fun x1 x2 x3 x4 x5 hh q => ?_) ⟨fun _ => ⟨rfl, rfl, rfl, rfl, rfl, rfl⟩, fun c => absurd ?_ c⟩
          · obtain ⟨rfl, rfl, rfl, rfl, rfl, rfl⟩ := q
            exact last j 0 (by omega) _ _ (b1.cong fun i hi => ⟨Or.inl, fun y => y.elim (fun w => w) (fun w => by omega)⟩) c2
          · rw [C.2.1, i_le (by omega) (by omega)]
            exact Nat.le_refl _
        | succ m ih2 =>
          intro j hj ox2 c2
          have inner : ∀ m2 i, i + m2 = no → ∀ (ox3 : Int32), rB ox3 (fun o => rO1 fit j no (rch fit g na no t).1 (rch fit g na no t).2 o ∨ (o < i ∧ (rch fit g na no t).1 j ∧ fit j o = true)) → w_p (D + 1) (9, 7, mc_X9_why) 87 [(0, .ref 44), (1, .int what), (2, .int ax), (3, .int ox3), (4, .int (nI t)), (5, .int (nI j)), (6, .int (nI i))] [] h Q := by
            intro m2
            induction m2 with
            | zero =>
              intro i hi ox3 c3
              refine t_X9_why_87 sh _ _ _ _ _ _ (K75 := fun x1 x2 x3 x4 x5 hh => x1 = what ∧ x2 = ax ∧ x3 = ox3 ∧ x4 = nI t ∧ x5 = nI (j + 1) ∧ hh = h) (fun x1 x2 x3 x4 x5 hh q => ?_) (K87 := fun _ _ _ _ _ _ _ => False) (fun _ _ _ _ _ _ _ z => z.elim) ⟨fun _ => ⟨rfl, rfl, rfl, rfl, nI_1 j, rfl⟩, fun c => absurd ?_ c⟩
              · obtain ⟨rfl, rfl, rfl, rfl, rfl, rfl⟩ := q
                refine ih2 (j + 1) (by omega) _ (c3.cong fun o ho => ⟨fun y => ?_, fun y => ?_⟩)
                · rcases y with (y | ⟨w1, w, w2, w3, w4⟩) | ⟨y1, y2, y3⟩
                  · exact Or.inl y
                  · exact Or.inr ⟨w1, w, by omega, w3, w4⟩
                  · exact Or.inr ⟨by omega, j, by omega, y2, y3⟩
                · rcases y with y | ⟨w1, w, w2, w3, w4⟩
                  · exact Or.inl (Or.inl y)
                  · by_cases z : w = j
                    · rw [z] at w3 w4
                      exact Or.inr ⟨by omega, w3, w4⟩
                    · exact Or.inl (Or.inr ⟨w1, w, by omega, w3, w4⟩)
              · rw [C.2.2, i_le (by omega) (by omega)]
                omega
            | succ m2 ih3 =>
              intro i hi ox3 c3
              refine t_X9_why_87 sh _ _ _ _ _ _ (K75 := fun _ _ _ _ _ _ => False) (fun _ _ _ _ _ _ z => z.elim) (K87 := fun x1 x2 x3 x4 x5 x6 hh => x1 = what ∧ x2 = ax ∧ rB x3 (fun o => rO1 fit j no (rch fit g na no t).1 (rch fit g na no t).2 o ∨ (o < i + 1 ∧ (rch fit g na no t).1 j ∧ fit j o = true)) ∧ x4 = nI t ∧ x5 = nI j ∧ x6 = nI (i + 1) ∧ hh = h) (fun x1 x2 x3 x4 x5 x6 hh q => ?_) ⟨fun c => ?_, fun _ => ?_⟩
              · obtain ⟨rfl, rfl, q1, rfl, rfl, rfl, rfl⟩ := q
                exact ih3 (i + 1) (by omega) _ q1
              · rw [C.2.2, i_le (by omega) (by omega)] at c
                omega
              · rw [bit_sh1 _ (by omega), e10, i_cl (a := 10 * j + i) (by omega), Ft j (by omega) i (by omega), or0]
                have same : ¬ ((rch fit g na no t).1 j ∧ fit j i = true) → rB ox3 (fun o => rO1 fit j no (rch fit g na no t).1 (rch fit g na no t).2 o ∨ (o < i + 1 ∧ (rch fit g na no t).1 j ∧ fit j o = true)) := fun z => c3.cong fun o ho => ⟨fun y => y.elim Or.inl (fun w => Or.inr ⟨by omega, w.2⟩), fun y => y.elim Or.inl (fun w => Or.inr ⟨by
                  have : o ≠ i := fun e => z (by rw [← e]; exact w.2)
                  omega, w.2⟩)⟩
                refine ⟨fun c => ⟨rfl, rfl, same (fun z => c ((b1 j (by omega)).mpr z.1)), rfl, rfl, nI_1 i, rfl⟩, fun c => ⟨vp_in_nI (by omega) (by decide), fun c4 => ⟨rfl, rfl, same (fun z => ?_), rfl, rfl, nI_1 i, rfl⟩, fun c4 => ⟨rfl, rfl, ?_, rfl, rfl, nI_1 i, rfl⟩⟩⟩
                · rw [z.2, if_pos rfl] at c4
                  exact absurd c4 (by decide)
                · have hf : fit j i = true := by
                    cases e : fit j i with
                    | true => rfl
                    | false => rw [e] at c4; exact absurd rfl c4
                  refine (c3.or1 (k := i) (by omega)).cong fun o ho => ⟨fun y => ?_, fun y => ?_⟩
                  · rcases y with (y | y) | rfl
                    · exact Or.inl y
                    · exact Or.inr ⟨by omega, y.2⟩
                    · exact Or.inr ⟨by omega, (b1 j (by omega)).mp c, hf⟩
                  · rcases y with y | y
                    · exact Or.inl (Or.inl y)
                    · by_cases z : o = i
                      · exact Or.inr z
                      · exact Or.inl (Or.inr ⟨by omega, y.2⟩)
          refine t_X9_why_75 sh _ _ _ _ _ (K87 := fun x1 x2 x3 x4 x5 x6 hh => x1 = what ∧ x2 = ax ∧ x3 = ox2 ∧ x4 = nI t ∧ x5 = nI j ∧ x6 = nI 0 ∧ hh = h) (fun x1 x2 x3 x4 x5 x6 hh q => ?_) (K148 := fun _ _ _ _ _ _ => False) (fun _ _ _ _ _ _ z => z.elim) ⟨fun c => ?_, fun _ => ⟨rfl, rfl, rfl, rfl, rfl, rfl, rfl⟩⟩
          · obtain ⟨rfl, rfl, rfl, rfl, rfl, rfl, rfl⟩ := q
            exact inner no 0 (by omega) _ (c2.cong fun o ho => ⟨Or.inl, fun y => y.elim (fun w => w) (fun w => by omega)⟩)
          · rw [C.2.1, i_le (by omega) (by omega)] at c
            omega
      refine t_X9_why_65 sh _ _ _ _ (K75 := fun x1 x2 x3 x4 x5 hh => x1 = what ∧ x2 = ax ∧ x3 = ox ∧ x4 = nI t ∧ x5 = nI 0 ∧ hh = h) (fun x1 x2 x3 x4 x5 hh q => ?_) ⟨fun c => ?_, fun _ => ⟨rfl, rfl, rfl, rfl, rfl, rfl⟩⟩
      · obtain ⟨rfl, rfl, rfl, rfl, rfl, rfl⟩ := q
        exact mid na 0 (by omega) _ (b2.cong fun i hi => ⟨Or.inl, fun y => y.elim (fun w => w) (fun ⟨_, _, w, _⟩ => by omega)⟩)
      · have := (i_le (a := 20) (by decide) (by omega)).mp c
        omega
  have first : ∀ m j, j + m = na → ∀ (ax : Int32), rB ax (fun i => i < j ∧ g i = none) → w_p (D + 1) (9, 7, mc_X9_why) 24 [(0, .ref 44), (1, .int what), (2, .int ax), (3, .int 0), (4, .int (nI j))] [] h Q := by
    intro m
    induction m with
    | zero =>
      intro j hj ax b1
      have ej : j = na := by omega
      subst ej
      refine t_X9_why_24 sh _ _ _ _ (K24 := fun _ _ _ _ _ => False) (fun _ _ _ _ _ z => z.elim) (K65 := fun x1 x2 x3 x4 hh => x1 = what ∧ x2 = ax ∧ x3 = 0 ∧ x4 = nI 0 ∧ hh = h) (fun x1 x2 x3 x4 hh q => ?_) ⟨fun _ => ⟨rfl, rfl, rfl, rfl, rfl⟩, fun c => absurd ?_ c⟩
      · obtain ⟨rfl, rfl, rfl, rfl, rfl⟩ := q
        exact rounds 20 0 rfl _ _ b1 (fun i hi => ⟨fun y => (by rw [b_0] at y; cases y), fun y => y.elim⟩)
      · rw [C.2.1, i_le (by omega) (by omega)]
        exact Nat.le_refl _
    | succ m ih =>
      intro j hj ax b1
      refine t_X9_why_24 sh _ _ _ _ (K24 := fun x1 x2 x3 x4 hh => x1 = what ∧ rB x2 (fun i => i < j + 1 ∧ g i = none) ∧ x3 = 0 ∧ x4 = nI (j + 1) ∧ hh = h) (fun x1 x2 x3 x4 hh q => ?_) (K65 := fun _ _ _ _ _ => False) (fun _ _ _ _ _ z => z.elim) ⟨fun c => ?_, fun _ => ⟨vp_in_nI (by omega) (by decide), ?_⟩⟩
      · obtain ⟨rfl, q1, rfl, rfl, rfl⟩ := q
        exact ih (j + 1) (by omega) _ q1
      · rw [C.2.1, i_le (by omega) (by omega)] at c
        omega
      · rw [i_cl (by omega), Gm j (by omega), or0]
        refine ⟨fun c => ⟨rfl, b1.cong fun i hi => ⟨fun y => ⟨by omega, y.2⟩, fun y => ⟨?_, y.2⟩⟩, rfl, nI_1 j, rfl⟩, fun c => ⟨rfl, (b1.or1 (k := j) (by omega)).cong fun i hi => ⟨fun y => ?_, fun y => ?_⟩, rfl, nI_1 j, rfl⟩⟩
        · have : i ≠ j := fun e => c (by rw [← e, y.2]; rfl)
          omega
        · rcases y with y | rfl
          · exact ⟨by omega, y.2⟩
          · refine ⟨by omega, ?_⟩
            cases e : g i with
            | none => rfl
            | some o =>
              rw [e] at c
              exact absurd c (oN_ne o (by have := hg i o e; omega))
        · by_cases w : i = j
          · exact Or.inr w
          · exact Or.inl ⟨by omega, y.2⟩
  exact first na 0 (by omega) 0 (fun i hi => ⟨fun y => (by rw [b_0] at y; cases y), fun y => by omega⟩)
