/-! MATCHINGS: t gives each offer the ask that has it -/
def mtc (fit : Nat → Nat → Bool) (lo hi : Nat) (F : Nat → Bool) (no : Nat) (t : Nat → Option Nat) : Prop := ∀ o, o < no → ∀ a, t o = some a → (lo ≤ a ∧ a < hi) ∧ F o = true ∧ fit a o = true ∧ ∀ o2, o2 < no → t o2 = some a → o2 = o
def msz (no : Nat) (t : Nat → Option Nat) : Nat := fb_ct (fun o => (t o).isSome) no
/-- s is the most pairs of the asks from lo on and below hi -/
def mx (fit : Nat → Nat → Bool) (lo hi : Nat) (F : Nat → Bool) (no s : Nat) : Prop := (∃ t, mtc fit lo hi F no t ∧ msz no t = s) ∧ ∀ t, mtc fit lo hi F no t → msz no t ≤ s
section MX
variable {fit : Nat → Nat → Bool} {lo hi k : Nat} {F : Nat → Bool} {no s : Nat} {t : Nat → Option Nat}
theorem mx_one {s2 : Nat} (h1 : mx fit lo hi F no s) (h2 : mx fit lo hi F no s2) : s = s2 := by
  obtain ⟨⟨t1, a1, b1⟩, c1⟩ := h1
  obtain ⟨⟨t2, a2, b2⟩, c2⟩ := h2
  have x := c1 t2 a2
  have y := c2 t1 a1
  omega
theorem mx_0 : mx fit lo lo F no 0 ∧ mtc fit lo lo F no (fun _ => none) ∧ msz no (fun _ => none) = 0 := by
  have e : msz no (fun _ => none) = 0 := fb_ct_zero.mpr (fun _ _ => rfl)
  refine ⟨⟨⟨fun _ => none, fun o _ a h => (by cases h), e⟩, fun t ht => ?_⟩, fun o _ a h => (by cases h), e⟩
  have : msz no t = 0 := fb_ct_zero.mpr (fun o ho => by
    cases e : t o with
    | none => rfl
    | some a =>
      have := (ht o ho a e).1
      omega)
  omega
/-- an ask more, and no way to it: as many pairs as before -/
theorem mx_no (hm : mtc fit lo k F no t) (hx : ∀ t, mtc fit lo k F no t → msz no t ≤ s) (hs : msz no t = s) (V : Nat → Prop) (T : Nat → Bool) (hk : V k) (h1 : ∀ a, V a → ∀ o, o < no → F o = true → fit a o = true → T o = true) (h2 : ∀ o, o < no → T o = true → ∃ a, t o = some a ∧ V a) : mtc fit lo (k + 1) F no t ∧ ∀ t2, mtc fit lo (k + 1) F no t2 → msz no t2 ≤ s := by
  refine ⟨fun o ho a e => ?_, fun t2 h3 => ?_⟩
  · obtain ⟨p1, p2⟩ := hm o ho a e
    exact ⟨⟨p1.1, by omega⟩, p2⟩
  · have key : mtc fit lo k F no (fun o => if T o = true then t o else t2 o) := by
      have inT : ∀ o, o < no → ∀ a, t2 o = some a → V a → T o = true := fun o ho a e hv => by
        obtain ⟨-, p2, p3, -⟩ := h3 o ho a e
        exact h1 a hv o ho p2 p3
      intro o ho a e
      have e : (if T o = true then t o else t2 o) = some a := e
      by_cases c : T o = true
      · rw [if_pos c] at e
        obtain ⟨p1, p2, p3, p4⟩ := hm o ho a e
        obtain ⟨a2, e2, hv⟩ := h2 o ho c
        have ea : a2 = a := Option.some.inj (e2.symm.trans e)
        subst ea
        refine ⟨p1, p2, p3, fun o2 ho2 e3 => ?_⟩
        have e3 : (if T o2 = true then t o2 else t2 o2) = some a2 := e3
        by_cases c2 : T o2 = true
        · rw [if_pos c2] at e3
          exact p4 o2 ho2 e3
        · rw [if_neg c2] at e3
          exact absurd (inT o2 ho2 a2 e3 hv) c2
      · rw [if_neg c] at e
        obtain ⟨p1, p2, p3, p4⟩ := h3 o ho a e
        have hv : ¬ V a := fun z => c (inT o ho a e z)
        have hak : a ≠ k := fun z => hv (by rw [z]; exact hk)
        refine ⟨⟨p1.1, by omega⟩, p2, p3, fun o2 ho2 e3 => ?_⟩
        have e3 : (if T o2 = true then t o2 else t2 o2) = some a := e3
        by_cases c2 : T o2 = true
        · rw [if_pos c2] at e3
          obtain ⟨a2, e2, hv2⟩ := h2 o2 ho2 c2
          have ea : a2 = a := Option.some.inj (e2.symm.trans e3)
          subst ea
          exact absurd hv2 hv
        · rw [if_neg c2] at e3
          exact p4 o2 ho2 e3
    refine Nat.le_trans (fb_ct_sub (fun o ho e => ?_)) (hx _ key)
    show ((if T o = true then t o else t2 o) : Option Nat).isSome = true
    by_cases c : T o = true
    · rw [if_pos c]
      obtain ⟨a2, e2, -⟩ := h2 o ho c
      rw [e2]
      rfl
    · rw [if_neg c]
      exact e
/-- an ask more, and a pair more -/
theorem mx_yes {t2 : Nat → Option Nat} (hx : ∀ t, mtc fit lo k F no t → msz no t ≤ s) (h2 : mtc fit lo (k + 1) F no t2) (hs : msz no t2 = s + 1) : ∀ t3, mtc fit lo (k + 1) F no t3 → msz no t3 ≤ s + 1 := by
  intro t3 h3
  have key : mtc fit lo k F no (fun o => if t3 o = some k then none else t3 o) := by
    intro o ho a e
    have e : (if t3 o = some k then none else t3 o) = some a := e
    by_cases c : t3 o = some k
    · rw [if_pos c] at e; cases e
    · rw [if_neg c] at e
      obtain ⟨p1, p2, p3, p4⟩ := h3 o ho a e
      have hak : a ≠ k := fun z => c (by rw [e, z])
      refine ⟨⟨p1.1, by omega⟩, p2, p3, fun o2 ho2 e3 => ?_⟩
      have e3 : (if t3 o2 = some k then none else t3 o2) = some a := e3
      by_cases c2 : t3 o2 = some k
      · rw [if_pos c2] at e3; cases e3
      · rw [if_neg c2] at e3
        exact p4 o2 ho2 e3
  have h4 := hx _ key
  -- at most one offer goes
  have h5 : msz no t3 ≤ msz no (fun o => if t3 o = some k then none else t3 o) + 1 := by
    by_cases c : ∃ o, o < no ∧ t3 o = some k
    · obtain ⟨o0, ho0, e0⟩ := c
      have e1 := fb_ct_upd (fun o => (t3 o).isSome) false ho0
      have e2 : fb_ct (fun q => if q = o0 then false else (t3 q).isSome) no ≤ msz no (fun o => if t3 o = some k then none else t3 o) := fb_ct_sub (fun q hq hz => by
        have hz : (if q = o0 then false else (t3 q).isSome) = true := hz
        by_cases z : q = o0
        · rw [if_pos z] at hz; cases hz
        · rw [if_neg z] at hz
          show ((if t3 q = some k then none else t3 q) : Option Nat).isSome = true
          rw [if_neg (fun y => z ((h3 o0 ho0 k e0).2.2.2 q hq y))]
          exact hz)
      have e3 : (if (t3 o0).isSome = true then 1 else 0) = 1 := by rw [e0]; rfl
      have e1 : fb_ct (fun q => if q = o0 then false else (t3 q).isSome) no + (if (t3 o0).isSome = true then 1 else 0) = fb_ct (fun o => (t3 o).isSome) no + (if false = true then 1 else 0) := e1
      rw [e3] at e1
      have e4 : (if false = true then 1 else 0 : Nat) = 0 := rfl
      show fb_ct (fun o => (t3 o).isSome) no ≤ _
      omega
    · refine Nat.le_trans (fb_ct_sub (fun q hq hz => ?_)) (Nat.le_succ _)
      show ((if t3 q = some k then none else t3 q) : Option Nat).isSome = true
      rw [if_neg (fun y => c ⟨q, hq, y⟩)]
      exact hz
  omega
end MX
/-! WAYS: from t one ask more is given an offer, outside the offers T -/
def mpre (fit : Nat → Nat → Bool) (F : Nat → Bool) (no : Nat) (T : Nat → Bool) (t : Nat → Option Nat) (ask : Nat) : Prop := (∀ o o2, o < no → o2 < no → T o = false → T o2 = false → ∀ a, t o = some a → t o2 = some a → o = o2) ∧ ∀ o, o < no → T o = false → ∀ a, t o = some a → F o = true ∧ fit a o = true ∧ a ≠ ask
def maug (fit : Nat → Nat → Bool) (F : Nat → Bool) (no : Nat) (T : Nat → Bool) (t : Nat → Option Nat) (ask : Nat) (t2 : Nat → Option Nat) : Prop := (∀ o, o < no → T o = true → t2 o = t o) ∧ (∀ o, o < no → T o = false → ∀ a, t2 o = some a → (a = ask ∨ ∃ o1, o1 < no ∧ T o1 = false ∧ t o1 = some a) ∧ F o = true ∧ fit a o = true) ∧ (∀ o o2, o < no → o2 < no → T o = false → T o2 = false → ∀ a, t2 o = some a → t2 o2 = some a → o = o2) ∧ fb_ct (fun o => !T o && (t2 o).isSome) no = fb_ct (fun o => !T o && (t o).isSome) no + 1
section MA
variable {fit : Nat → Nat → Bool} {F : Nat → Bool} {no : Nat} {T T2 : Nat → Bool} {t t2 : Nat → Option Nat} {ask o a2 : Nat}
theorem mct_up {p : Nat → Bool} {q : Nat → Bool} (ho : o < no) (h : ∀ i, i < no → i ≠ o → q i = p i) : fb_ct q no + (if p o = true then 1 else 0) = fb_ct p no + (if q o = true then 1 else 0) := by
  have e := fb_ct_upd p (q o) ho
  have e2 : fb_ct (fun k => if k = o then q o else p k) no = fb_ct q no := fb_ct_cong (fun i hi => by
    by_cases z : i = o
    · subst z; exact if_pos rfl
    · show (if i = o then q o else p i) = q i
      rw [if_neg z]
      exact (h i hi z).symm)
  rw [e2] at e
  exact e
theorem maug_here (hp : mpre fit F no T t ask) (ho : o < no) (hT : T o = false) (hF : F o = true) (hf : fit ask o = true) (e : t o = none) : maug fit F no T t ask (va_up t o (some ask)) := by
  refine ⟨fun i hi hti => ?_, fun i hi hti a h => ?_, fun i j hi hj hti htj a h1 h2 => ?_, ?_⟩
  · rw [va_up_ne _ _ (fun z => by rw [z, hT] at hti; cases hti)]
  · by_cases z : i = o
    · subst z
      rw [va_up_self] at h
      cases h
      exact ⟨Or.inl rfl, hF, hf⟩
    · rw [va_up_ne _ _ z] at h
      obtain ⟨p1, p2, -⟩ := hp.2 i hi hti a h
      exact ⟨Or.inr ⟨i, hi, hti, h⟩, p1, p2⟩
  · by_cases z : i = o
    · subst z
      rw [va_up_self] at h1
      cases h1
      by_cases y : j = i
      · exact y.symm
      · rw [va_up_ne _ _ y] at h2
        exact absurd rfl (hp.2 j hj htj ask h2).2.2
    · rw [va_up_ne _ _ z] at h1
      by_cases y : j = o
      · subst y
        rw [va_up_self] at h2
        cases h2
        exact absurd rfl (hp.2 i hi hti ask h1).2.2
      · rw [va_up_ne _ _ y] at h2
        exact hp.1 i j hi hj hti htj a h1 h2
  · have h := mct_up (p := fun o => !T o && (t o).isSome) (q := fun i => !T i && (va_up t o (some ask) i).isSome) ho (fun i _ z => by show (!T i && (va_up t o (some ask) i).isSome) = _; rw [va_up_ne _ _ z])
    have e1 : (!T o && (t o).isSome) = false := by rw [e]; simp
    have e2 : (!T o && (va_up t o (some ask) o).isSome) = true := by rw [va_up_self, hT]; rfl
    simp only [e1, e2] at h
    simpa using h
theorem mpre_deep (hp : mpre fit F no T t ask) (ho : o < no) (hT : T o = false) (e : t o = some a2) : mpre fit F no (va_up T o true) t a2 := by
  have key : ∀ i, va_up T o true i = false → i ≠ o ∧ T i = false := fun i hi => by
    by_cases z : i = o
    · rw [z, va_up_self] at hi; cases hi
    · rw [va_up_ne _ _ z] at hi
      exact ⟨z, hi⟩
  refine ⟨fun i j hi hj hti htj a h1 h2 => hp.1 i j hi hj (key i hti).2 (key j htj).2 a h1 h2, fun i hi hti a h => ?_⟩
  obtain ⟨p1, p2, -⟩ := hp.2 i hi (key i hti).2 a h
  refine ⟨p1, p2, fun z => ?_⟩
  subst z
  exact (key i hti).1 (hp.1 i o hi ho (key i hti).2 hT a h e)
theorem maug_deep (hp : mpre fit F no T t ask) (ho : o < no) (hT : T o = false) (hF : F o = true) (hf : fit ask o = true) (e : t o = some a2) (h : maug fit F no (va_up T o true) t a2 t2) : maug fit F no T t ask (va_up t2 o (some ask)) := by
  obtain ⟨g1, g2, g3, g4⟩ := h
  have tn : ∀ i, i ≠ o → va_up T o true i = T i := fun i z => va_up_ne _ _ z
  have no_ask : ∀ i, i < no → i ≠ o → T i = false → t2 i ≠ some ask := fun i hi z hti h => by
    obtain ⟨hor, -, -⟩ := g2 i hi (by rw [tn i z]; exact hti) ask h
    rcases hor with rfl | ⟨o1, h1, h2, h3⟩
    · exact (hp.2 o ho hT _ e).2.2 rfl
    · have z1 : o1 ≠ o := fun y => by rw [y, va_up_self] at h2; cases h2
      rw [tn o1 z1] at h2
      exact (hp.2 o1 h1 h2 _ h3).2.2 rfl
  refine ⟨fun i hi hti => ?_, fun i hi hti a h => ?_, fun i j hi hj hti htj a h1 h2 => ?_, ?_⟩
  · have z : i ≠ o := fun z => by rw [z, hT] at hti; cases hti
    rw [va_up_ne _ _ z]
    exact g1 i hi (by rw [tn i z]; exact hti)
  · by_cases z : i = o
    · subst z
      rw [va_up_self] at h
      cases h
      exact ⟨Or.inl rfl, hF, hf⟩
    · rw [va_up_ne _ _ z] at h
      obtain ⟨hor, p1, p2⟩ := g2 i hi (by rw [tn i z]; exact hti) a h
      refine ⟨Or.inr ?_, p1, p2⟩
      rcases hor with rfl | ⟨o1, h1, h2, h3⟩
      · exact ⟨o, ho, hT, e⟩
      · have z1 : o1 ≠ o := fun y => by rw [y, va_up_self] at h2; cases h2
        rw [tn o1 z1] at h2
        exact ⟨o1, h1, h2, h3⟩
  · by_cases z : i = o
    · subst z
      rw [va_up_self] at h1
      cases h1
      by_cases y : j = i
      · exact y.symm
      · rw [va_up_ne _ _ y] at h2
        exact absurd h2 (no_ask j hj y htj)
    · rw [va_up_ne _ _ z] at h1
      by_cases y : j = o
      · subst y
        rw [va_up_self] at h2
        cases h2
        exact absurd h1 (no_ask i hi z hti)
      · rw [va_up_ne _ _ y] at h2
        exact g3 i j hi hj (by rw [tn i z]; exact hti) (by rw [tn j y]; exact htj) a h1 h2
  · have c1 := mct_up (p := fun i => !T i && (t i).isSome) (q := fun i => !va_up T o true i && (t i).isSome) ho (fun i _ z => by show (!va_up T o true i && (t i).isSome) = _; rw [va_up_ne _ _ z])
    have c2 := mct_up (p := fun i => !va_up T o true i && (t2 i).isSome) (q := fun i => !T i && (va_up t2 o (some ask) i).isSome) ho (fun i _ z => by show (!T i && (va_up t2 o (some ask) i).isSome) = (!va_up T o true i && (t2 i).isSome); rw [va_up_ne _ _ z, va_up_ne _ _ z])
    have e1 : (!T o && (t o).isSome) = true := by rw [e, hT]; rfl
    have e2 : (!va_up T o true o && (t o).isSome) = false := by rw [va_up_self]; rfl
    have e3 : (!va_up T o true o && (t2 o).isSome) = false := by rw [va_up_self]; rfl
    have e4 : (!T o && (va_up t2 o (some ask) o).isSome) = true := by rw [va_up_self, hT]; rfl
    simp only [e1, e2] at c1
    simp only [e3, e4] at c2
    simp at c1 c2
    omega
theorem mpre_more (hp : mpre fit F no T t ask) (hs : ∀ i, i < no → T i = true → T2 i = true) : mpre fit F no T2 t ask := by
  have key : ∀ i, i < no → T2 i = false → T i = false := fun i hi h => by
    cases e : T i with
    | false => rfl
    | true => rw [hs i hi e] at h; cases h
  exact ⟨fun i j hi hj hti htj a h1 h2 => hp.1 i j hi hj (key i hi hti) (key j hj htj) a h1 h2, fun i hi hti a h => hp.2 i hi (key i hi hti) a h⟩
theorem maug_less (hp : mpre fit F no T t ask) (hs : ∀ i, i < no → T i = true → T2 i = true) (h : maug fit F no T2 t ask t2) : maug fit F no T t ask t2 := by
  have key : ∀ i, i < no → T2 i = false → T i = false := fun i hi h => by
    cases e : T i with
    | false => rfl
    | true => rw [hs i hi e] at h; cases h
  obtain ⟨g1, g2, g3, g4⟩ := h
  have cross : ∀ i j, i < no → j < no → T i = false → T2 i = true → T2 j = false → ∀ a, t2 i = some a → t2 j = some a → False := fun i j hi hj hti hti2 htj a h1 h2 => by
    rw [g1 i hi hti2] at h1
    obtain ⟨hor, -, -⟩ := g2 j hj htj a h2
    rcases hor with rfl | ⟨o1, k1, k2, k3⟩
    · exact (hp.2 i hi hti _ h1).2.2 rfl
    · have := hp.1 i o1 hi k1 hti (key o1 k1 k2) a h1 k3
      subst this
      rw [hti2] at k2
      cases k2
  refine ⟨fun i hi hti => g1 i hi (hs i hi hti), fun i hi hti a h => ?_, fun i j hi hj hti htj a h1 h2 => ?_, ?_⟩
  · cases e : T2 i with
    | true =>
      rw [g1 i hi e] at h
      obtain ⟨p1, p2, -⟩ := hp.2 i hi hti a h
      exact ⟨Or.inr ⟨i, hi, hti, h⟩, p1, p2⟩
    | false =>
      obtain ⟨hor, p1, p2⟩ := g2 i hi e a h
      refine ⟨?_, p1, p2⟩
      rcases hor with rfl | ⟨o1, k1, k2, k3⟩
      · exact Or.inl rfl
      · exact Or.inr ⟨o1, k1, key o1 k1 k2, k3⟩
  · cases e : T2 i with
    | true =>
      cases e2 : T2 j with
      | true =>
        rw [g1 i hi e] at h1
        rw [g1 j hj e2] at h2
        exact hp.1 i j hi hj hti htj a h1 h2
      | false => exact (cross i j hi hj hti e e2 a h1 h2).elim
    | false =>
      cases e2 : T2 j with
      | true => exact (cross j i hj hi htj e2 e a h2 h1).elim
      | false => exact g3 i j hi hj e e2 a h1 h2
  · have split : ∀ t' : Nat → Option Nat, fb_ct (fun o => !T o && (t' o).isSome) no = fb_ct (fun o => !T2 o && (t' o).isSome) no + fb_ct (fun o => (!T o && T2 o) && (t' o).isSome) no := fun t' => by
      rw [← fb_ct_or (fun i hi => by
        intro z
        cases e : T2 i <;> simp [e] at z)]
      refine fb_ct_cong (fun i hi => ?_)
      cases e : T2 i with
      | false => simp [key i hi e]
      | true => simp
    rw [split t2, split t, g4]
    have : fb_ct (fun o => (!T o && T2 o) && (t2 o).isSome) no = fb_ct (fun o => (!T o && T2 o) && (t o).isSome) no := fb_ct_cong (fun i hi => by
      cases e : T2 i with
      | false => simp
      | true => rw [g1 i hi e])
    omega
end MA
