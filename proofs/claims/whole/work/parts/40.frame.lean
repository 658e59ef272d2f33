/-! WHAT IS MADE LATER: frames -/
def h_cp (h : mm_H) (a N : Nat) : mm_H := (va_up (h_kd h) (h_n h) 20, h_oi h, h_or h, va_up (h_al h) (h_n h) N, va_up (h_ai h) (h_n h) (fun i => if i < h_al h a then h_ai h a i else 0), va_up (h_ar h) (h_n h) (fun _ => none), h_n h + 1, h_s h + N)
theorem w_copy {h : mm_H} {Q : Option Value → mm_H → Prop} {a : Nat} {x : Int32} (hk : h_kd h a = 20) (h1 : ¬ x < 0) (h2 : x.toNatClampNeg ≤ 100000000) (h3 : h_al h a < x.toNatClampNeg) (k : Q (some (.ref (h_n h))) (h_cp h a x.toNatClampNeg)) : w_c 20 154 [.ref a, .int x] h Q :=
  ⟨0, (some (.ref (h_n h)), h_cp h a x.toNatClampNeg), Or.inr ⟨rfl, Nat.le_refl _, Or.inl ⟨rfl, a, x, rfl, hk, h1, h2, h3, rfl, rfl⟩⟩, k⟩
/-- all that stood before stays but for these addresses; kinds and lengths always stay -/
def ex (h h' : mm_H) (P : Nat → Prop) : Prop := h_n h ≤ h_n h' ∧ ∀ a, a < h_n h → (h_kd h' a = h_kd h a ∧ h_al h' a = h_al h a) ∧ (¬ P a → h_ai h' a = h_ai h a ∧ h_ar h' a = h_ar h a ∧ ∀ g, h_or h' g a = h_or h g a ∧ h_oi h' g a = h_oi h g a)
theorem ex.rf (h : mm_H) (P : Nat → Prop) : ex h h P := ⟨Nat.le_refl _, fun _ _ => ⟨⟨rfl, rfl⟩, fun _ => ⟨rfl, rfl, fun _ => ⟨rfl, rfl⟩⟩⟩⟩
theorem ex.tr {h h1 h2 : mm_H} {P P2 P3 : Nat → Prop} (f : ex h h1 P) (f2 : ex h1 h2 P2) (i1 : ∀ a, P a → P3 a) (i2 : ∀ a, a < h_n h → P2 a → P3 a) : ex h h2 P3 := by
  refine ⟨Nat.le_trans f.1 f2.1, fun a ha => ?_⟩
  obtain ⟨⟨p1, p2⟩, p3⟩ := f.2 a ha
  obtain ⟨⟨q1, q2⟩, q3⟩ := f2.2 a (Nat.lt_of_lt_of_le ha f.1)
  refine ⟨⟨q1.trans p1, q2.trans p2⟩, fun z => ?_⟩
  obtain ⟨r1, r2, r3⟩ := p3 (fun y => z (i1 a y))
  obtain ⟨s1, s2, s3⟩ := q3 (fun y => z (i2 a ha y))
  exact ⟨s1.trans r1, s2.trans r2, fun g => ⟨(s3 g).1.trans (r3 g).1, (s3 g).2.trans (r3 g).2⟩⟩
theorem ex.mono {h h1 : mm_H} {P P3 : Nat → Prop} (f : ex h h1 P) (i1 : ∀ a, a < h_n h → P a → P3 a) : ex h h1 P3 := ⟨f.1, fun a ha => ⟨(f.2 a ha).1, fun z => (f.2 a ha).2 (fun y => z (i1 a ha y))⟩⟩
theorem oi_self (h : mm_H) (g a : Nat) (x : Int32) : h_oi (h_sI h g a x) g a = x := by
  show va_up (h_oi h) g (va_up (h_oi h g) a x) g a = x
  rw [va_up_self, va_up_self]
theorem oi_neA {h : mm_H} {g a b : Nat} {x : Int32} (e : b ≠ a) (g2 : Nat) : h_oi (h_sI h g a x) g2 b = h_oi h g2 b := by
  show va_up (h_oi h) g (va_up (h_oi h g) a x) g2 b = _
  by_cases z : g2 = g
  · rw [z, va_up_self, va_up_ne _ _ e]
  · rw [va_up_ne _ _ z]
theorem oi_neG {h : mm_H} {g a g2 : Nat} {x : Int32} (e : g2 ≠ g) (b : Nat) : h_oi (h_sI h g a x) g2 b = h_oi h g2 b := by
  show va_up (h_oi h) g (va_up (h_oi h g) a x) g2 b = _
  rw [va_up_ne _ _ e]
theorem or_self (h : mm_H) (g a : Nat) (x : Option Nat) : h_or (h_sR h g a x) g a = x := by
  show va_up (h_or h) g (va_up (h_or h g) a x) g a = x
  rw [va_up_self, va_up_self]
theorem or_neA {h : mm_H} {g a b : Nat} {x : Option Nat} (e : b ≠ a) (g2 : Nat) : h_or (h_sR h g a x) g2 b = h_or h g2 b := by
  show va_up (h_or h) g (va_up (h_or h g) a x) g2 b = _
  by_cases z : g2 = g
  · rw [z, va_up_self, va_up_ne _ _ e]
  · rw [va_up_ne _ _ z]
theorem or_neG {h : mm_H} {g a g2 : Nat} {x : Option Nat} (e : g2 ≠ g) (b : Nat) : h_or (h_sR h g a x) g2 b = h_or h g2 b := by
  show va_up (h_or h) g (va_up (h_or h g) a x) g2 b = _
  rw [va_up_ne _ _ e]
theorem ai_self (h : mm_H) (a i : Nat) (x : Int32) : h_ai (h_sA h a i x) a = va_up (h_ai h a) i x := by
  show va_up (h_ai h) a (va_up (h_ai h a) i x) a = _
  rw [va_up_self]
theorem ai_ne {h : mm_H} {a b : Nat} {i : Nat} {x : Int32} (e : b ≠ a) : h_ai (h_sA h a i x) b = h_ai h b := by
  show va_up (h_ai h) a (va_up (h_ai h a) i x) b = _
  rw [va_up_ne _ _ e]
theorem ar_self (h : mm_H) (a i : Nat) (x : Option Nat) : h_ar (h_sQ h a i x) a = va_up (h_ar h a) i x := by
  show va_up (h_ar h) a (va_up (h_ar h a) i x) a = _
  rw [va_up_self]
theorem ar_ne {h : mm_H} {a b : Nat} {i : Nat} {x : Option Nat} (e : b ≠ a) : h_ar (h_sQ h a i x) b = h_ar h b := by
  show va_up (h_ar h) a (va_up (h_ar h a) i x) b = _
  rw [va_up_ne _ _ e]
theorem ex.sI {h h' : mm_H} {P : Nat → Prop} (f : ex h h' P) {g a : Nat} (x : Int32) (ha : P a ∨ h_n h ≤ a) : ex h (h_sI h' g a x) P := by
  refine ⟨f.1, fun b hb => ⟨(f.2 b hb).1, fun z => ?_⟩⟩
  obtain ⟨p1, p2, p3⟩ := (f.2 b hb).2 z
  have e : b ≠ a := fun e => by
    subst e
    rcases ha with ha | ha
    · exact z ha
    · omega
  exact ⟨p1, p2, fun g2 => ⟨(p3 g2).1, (oi_neA e g2).trans (p3 g2).2⟩⟩
theorem ex.sR {h h' : mm_H} {P : Nat → Prop} (f : ex h h' P) {g a : Nat} (x : Option Nat) (ha : P a ∨ h_n h ≤ a) : ex h (h_sR h' g a x) P := by
  refine ⟨f.1, fun b hb => ⟨(f.2 b hb).1, fun z => ?_⟩⟩
  obtain ⟨p1, p2, p3⟩ := (f.2 b hb).2 z
  have e : b ≠ a := fun e => by
    subst e
    rcases ha with ha | ha
    · exact z ha
    · omega
  exact ⟨p1, p2, fun g2 => ⟨(or_neA e g2).trans (p3 g2).1, (p3 g2).2⟩⟩
theorem ex.sA {h h' : mm_H} {P : Nat → Prop} (f : ex h h' P) {a : Nat} (i : Nat) (x : Int32) (ha : P a ∨ h_n h ≤ a) : ex h (h_sA h' a i x) P := by
  refine ⟨f.1, fun b hb => ⟨(f.2 b hb).1, fun z => ?_⟩⟩
  obtain ⟨p1, p2, p3⟩ := (f.2 b hb).2 z
  have e : b ≠ a := fun e => by
    subst e
    rcases ha with ha | ha
    · exact z ha
    · omega
  exact ⟨(ai_ne e).trans p1, p2, p3⟩
theorem ex.sQ {h h' : mm_H} {P : Nat → Prop} (f : ex h h' P) {a : Nat} (i : Nat) (x : Option Nat) (ha : P a ∨ h_n h ≤ a) : ex h (h_sQ h' a i x) P := by
  refine ⟨f.1, fun b hb => ⟨(f.2 b hb).1, fun z => ?_⟩⟩
  obtain ⟨p1, p2, p3⟩ := (f.2 b hb).2 z
  have e : b ≠ a := fun e => by
    subst e
    rcases ha with ha | ha
    · exact z ha
    · omega
  exact ⟨p1, (ar_ne e).trans p2, p3⟩
theorem ex.nO {h h' : mm_H} {P : Nat → Prop} (f : ex h h' P) (ci N : Nat) : ex h (h_nO h' ci N) P := by
  refine ⟨Nat.le_succ_of_le f.1, fun b hb => ?_⟩
  have hne : b ≠ h_n h' := by have := f.1; omega
  obtain ⟨⟨q1, q2⟩, q3⟩ := f.2 b hb
  refine ⟨⟨(va_up_ne (h_kd h') (ci + 1) hne).trans q1, q2⟩, fun z => ?_⟩
  obtain ⟨p1, p2, p3⟩ := q3 z
  exact ⟨p1, p2, fun g => ⟨(va_up_ne (h_or h' g) none hne).trans (p3 g).1, (va_up_ne (h_oi h' g) 0 hne).trans (p3 g).2⟩⟩
theorem ex.nA {h h' : mm_H} {P : Nat → Prop} (f : ex h h' P) (κ N : Nat) : ex h (h_nA h' κ N) P := by
  refine ⟨Nat.le_succ_of_le f.1, fun b hb => ?_⟩
  have hne : b ≠ h_n h' := by have := f.1; omega
  obtain ⟨⟨q1, q2⟩, q3⟩ := f.2 b hb
  refine ⟨⟨(va_up_ne (h_kd h') κ hne).trans q1, (va_up_ne (h_al h') N hne).trans q2⟩, fun z => ?_⟩
  obtain ⟨p1, p2, p3⟩ := q3 z
  exact ⟨(va_up_ne (h_ai h') _ hne).trans p1, (va_up_ne (h_ar h') _ hne).trans p2, p3⟩
theorem ex.cp {h h' : mm_H} {P : Nat → Prop} (f : ex h h' P) (a N : Nat) : ex h (h_cp h' a N) P := by
  refine ⟨Nat.le_succ_of_le f.1, fun b hb => ?_⟩
  have hne : b ≠ h_n h' := by have := f.1; omega
  obtain ⟨⟨q1, q2⟩, q3⟩ := f.2 b hb
  refine ⟨⟨(va_up_ne (h_kd h') 20 hne).trans q1, (va_up_ne (h_al h') N hne).trans q2⟩, fun z => ?_⟩
  obtain ⟨p1, p2, p3⟩ := q3 z
  exact ⟨(va_up_ne (h_ai h') _ hne).trans p1, (va_up_ne (h_ar h') _ hne).trans p2, p3⟩
theorem ex.fx {h h' : mm_H} {P : Nat → Prop} (f : ex h h' P) (s : s_h h) (hP : ∀ a, a < 70 → ¬ P a) (gs : List (Nat × Nat)) (as : List Nat) : fx h h' gs as := by
  refine ⟨fun a ha => ?_, f.1⟩
  obtain ⟨⟨p1, p2⟩, p3⟩ := f.2 a (Nat.lt_of_lt_of_le ha (n_70 s))
  obtain ⟨q1, q2, q3⟩ := p3 (hP a ha)
  exact ⟨p1, p2, fun g => (q3 g).1, fun _ => q1, fun _ => q2, fun g _ => (q3 g).2⟩
theorem ex.sh {h h' : mm_H} {P : Nat → Prop} (f : ex h h' P) (s : s_h h) (hP : ∀ a, a < 70 → ¬ P a) : s_h h' := (f.fx s hP [] []).sh s (by decide)
theorem dn.ex {h h' : mm_H} {gs : List (Nat × Nat)} {as : List Nat} (d : dn h h') (f : fx h h' gs as) : ex h h' (fun a => a < 70) := by
  refine ⟨Nat.le_of_eq d.1.symm, fun a ha => ?_⟩
  by_cases z : a < 70
  · obtain ⟨p1, p2, _⟩ := f.1 a z
    exact ⟨⟨p1, p2⟩, fun y => absurd z y⟩
  · obtain ⟨p1, p2, p3, p4⟩ := d.2.2.1 a (by omega)
    exact ⟨⟨p1, p2⟩, fun _ => ⟨p3, p4, fun g => d.2.2.2 g a (by omega)⟩⟩
theorem fx.nO {h h' : mm_H} {gs : List (Nat × Nat)} {as : List Nat} (f : fx h h' gs as) (s : 70 ≤ h_n h) (ci N : Nat) : fx h (h_nO h' ci N) gs as := by
  refine ⟨fun a ha => ?_, Nat.le_succ_of_le f.2⟩
  have hne : a ≠ h_n h' := by have := f.2; omega
  obtain ⟨p1, p2, p3, p4, p5, p6⟩ := f.1 a ha
  exact ⟨(va_up_ne (h_kd h') (ci + 1) hne).trans p1, p2, fun g => (va_up_ne (h_or h' g) none hne).trans (p3 g), p4, p5, fun g hg => (va_up_ne (h_oi h' g) 0 hne).trans (p6 g hg)⟩
theorem fx.nA {h h' : mm_H} {gs : List (Nat × Nat)} {as : List Nat} (f : fx h h' gs as) (s : 70 ≤ h_n h) (κ N : Nat) : fx h (h_nA h' κ N) gs as := by
  refine ⟨fun a ha => ?_, Nat.le_succ_of_le f.2⟩
  have hne : a ≠ h_n h' := by have := f.2; omega
  obtain ⟨p1, p2, p3, p4, p5, p6⟩ := f.1 a ha
  exact ⟨(va_up_ne (h_kd h') κ hne).trans p1, (va_up_ne (h_al h') N hne).trans p2, p3, fun hn => (va_up_ne (h_ai h') _ hne).trans (p4 hn), fun hn => (va_up_ne (h_ar h') _ hne).trans (p5 hn), p6⟩
theorem fx.sR {h h' : mm_H} {gs : List (Nat × Nat)} {as : List Nat} (f : fx h h' gs as) {g a : Nat} (x : Option Nat) (ha : 70 ≤ a) : fx h (h_sR h' g a x) gs as := by
  refine ⟨fun b hb => ?_, f.2⟩
  obtain ⟨p1, p2, p3, p4, p5, p6⟩ := f.1 b hb
  exact ⟨p1, p2, fun g2 => (or_neA (by omega) g2).trans (p3 g2), p4, p5, p6⟩
theorem fx.sQ {h h' : mm_H} {gs : List (Nat × Nat)} {as : List Nat} (f : fx h h' gs as) {a : Nat} (i : Nat) (x : Option Nat) (hm : a ∈ as ∨ 70 ≤ a) : fx h (h_sQ h' a i x) gs as := by
  refine ⟨fun b hb => ?_, f.2⟩
  obtain ⟨p1, p2, p3, p4, p5, p6⟩ := f.1 b hb
  refine ⟨p1, p2, p3, p4, fun hn => ?_, p6⟩
  have e : b ≠ a := fun e => by
    subst e
    rcases hm with hm | hm
    · exact hn hm
    · omega
  exact (ar_ne e).trans (p5 hn)
/-! THE PURSE: heaps m of days hd and notes hn, in arrays d and n of room c -/
def pK (h : mm_H) (p d n c : Nat) : Prop := (h_kd h p = 4 ∧ h_kd h d = 20 ∧ h_kd h n = 20) ∧ (h_or h 192 p = some d ∧ h_or h 193 p = some n) ∧ (h_al h d = c ∧ h_al h n = c) ∧ (70 ≤ p ∧ 70 ≤ d ∧ 70 ≤ n ∧ p < h_n h ∧ d < h_n h ∧ n < h_n h ∧ d ≠ n) ∧ 4 ≤ c ∧ c ≤ 4096
def pA (h : mm_H) (p d n c m : Nat) (hd hn : Nat → Nat) : Prop := pK h p d n c ∧ m ≤ c ∧ h_oi h 194 p = nI m ∧ ∀ i, i < m → h_ai h d i = nI (hd i) ∧ h_ai h n i = nI (hn i)
theorem pK.ne {h : mm_H} {p d n c : Nat} (H : pK h p d n c) : p ≠ d ∧ p ≠ n ∧ d ≠ n := by
  obtain ⟨⟨k1, k2, k3⟩, _, _, ⟨_, _, _, _, _, _, e⟩, _⟩ := H
  refine ⟨fun z => ?_, fun z => ?_, e⟩
  · rw [z, k2] at k1; cases k1
  · rw [z, k3] at k1; cases k1
theorem pK.ex {h h' : mm_H} {P : Nat → Prop} {p d n c : Nat} (H : pK h p d n c) (f : ex h h' P) (n1 : ¬ P p) : pK h' p d n c := by
  obtain ⟨⟨k1, k2, k3⟩, ⟨r1, r2⟩, ⟨l1, l2⟩, ⟨b1, b2, b3, b4, b5, b6, b7⟩, hc⟩ := H
  have f1 := f.2 p b4
  have f2 := f.2 d b5
  have f3 := f.2 n b6
  have hn' := f.1
  exact ⟨⟨f1.1.1.trans k1, f2.1.1.trans k2, f3.1.1.trans k3⟩, ⟨((f1.2 n1).2.2 192).1.trans r1, ((f1.2 n1).2.2 193).1.trans r2⟩, ⟨f2.1.2.trans l1, f3.1.2.trans l2⟩, ⟨b1, b2, b3, by omega, by omega, by omega, b7⟩, hc⟩
theorem pA.ex {h h' : mm_H} {P : Nat → Prop} {p d n c m : Nat} {hd hn : Nat → Nat} (H : pA h p d n c m hd hn) (f : ex h h' P) (n1 : ¬ P p) (n2 : ¬ P d) (n3 : ¬ P n) : pA h' p d n c m hd hn := by
  obtain ⟨K, hc, hm, hv⟩ := H
  have K' := K.ex f n1
  obtain ⟨_, _, _, ⟨b1, b2, b3, b4, b5, b6, b7⟩, _⟩ := K
  refine ⟨K', hc, (((f.2 p b4).2 n1).2.2 194).2.trans hm, fun i hi => ?_⟩
  rw [((f.2 d b5).2 n2).1, ((f.2 n b6).2 n3).1]
  exact hv i hi
/-- the heaps of a purse are its notes by day -/
def pL (m : Nat) (hd hn nt : Nat → Nat) : Prop := (∀ i j, i < j → j < m → hd i < hd j) ∧ (∀ i, i < m → hd i ≤ 2000 ∧ 0 < hn i ∧ nt (hd i) = hn i) ∧ ∀ d, 0 < nt d → ∃ i, i < m ∧ hd i = d
theorem pL_sum {m : Nat} {hd hn nt : Nat → Nat} (H : pL m hd hn nt) : ∀ (x i : Nat), i ≤ m → (∀ j, j < i → hd j < x) → (∀ j, i ≤ j → j < m → x ≤ hd j) → fb_sm nt x = fb_sm hn i
  | 0, i, hi, h1, _ => by
    cases i with
    | zero => rfl
    | succ i => exact absurd (h1 i (by omega)) (by omega)
  | x + 1, i, hi, h1, h2 => by
    rw [fb_sm_succ]
    by_cases z : ∃ j, j < m ∧ hd j = x
    · obtain ⟨j, hj, e⟩ := z
      have hji : j < i := by
        rcases Nat.lt_or_ge j i with y | y
        · exact y
        · have := h2 j y hj
          omega
      have hl : j = i - 1 := by
        rcases Nat.lt_or_ge j (i - 1) with y | y
        · have q1 := H.1 j (i - 1) y (by omega)
          have q2 := h1 (i - 1) (by omega)
          omega
        · omega
      have ih := pL_sum H x (i - 1) (by omega) (fun j' hj' => by have := H.1 j' j (by omega) hj; omega) (fun j' hj' hm' => by
        rcases Nat.eq_or_lt_of_le hj' with y | y
        · rw [← y, ← hl]; omega
        · have := H.1 j j' (by omega) hm'
          omega)
      have e2 := (H.2.1 j hj).2.2
      rw [e] at e2
      rw [ih, e2, hl]
      have : i = (i - 1) + 1 := by omega
      conv => rhs; rw [this, fb_sm_succ]
    · have e0 : nt x = 0 := by
        rcases Nat.eq_zero_or_pos (nt x) with y | y
        · exact y
        · exact absurd (H.2.2 x y) z
      rw [e0, Nat.add_zero]
      refine pL_sum H x i hi (fun j hj => ?_) (fun j hj hm' => by have := h2 j hj hm'; omega)
      have q1 := h1 j hj
      have q2 : hd j ≠ x := fun y => z ⟨j, by omega, y⟩
      omega
theorem pL_at {m : Nat} {hd hn nt : Nat → Nat} (H : pL m hd hn nt) {i : Nat} (hi : i < m) : fb_sm nt (hd i) = fb_sm hn i := pL_sum H _ i (by omega) (fun j hj => H.1 j i hj hi) (fun j hj hm => by
  rcases Nat.eq_or_lt_of_le hj with y | y
  · rw [y]; exact Nat.le_refl _
  · exact Nat.le_of_lt (H.1 i j y hm))
theorem pL_all {m : Nat} {hd hn nt : Nat → Nat} (H : pL m hd hn nt) : fb_sm nt 2001 = fb_sm hn m := pL_sum H _ m (Nat.le_refl _) (fun j hj => by have := (H.2.1 j hj).1; omega) (fun j hj hm => by omega)
theorem pL_len {m : Nat} {hd hn nt : Nat → Nat} (H : pL m hd hn nt) : m ≤ 2001 := fb_holes 2001 m hd (fun i hi => by have := (H.2.1 i hi).1; omega) (fun i j hij hj => by have := H.1 i j hij hj; omega)
theorem pL_mono {m : Nat} {hd hn nt : Nat → Nat} (H : pL m hd hn nt) {i j : Nat} (hij : i ≤ j) (hj : j < m) : hd i ≤ hd j := by
  rcases Nat.eq_or_lt_of_le hij with y | y
  · rw [y]; exact Nat.le_refl _
  · exact Nat.le_of_lt (H.1 i j y hj)
theorem pL_no {m : Nat} {hd hn nt : Nat → Nat} (H : pL m hd hn nt) {d : Nat} (h : ∀ i, i < m → hd i ≠ d) : nt d = 0 := by
  rcases Nat.eq_zero_or_pos (nt d) with y | y
  · exact y
  · obtain ⟨i, hi, e⟩ := H.2.2 d y
    exact absurd e (h i hi)
/-- a heap grows -/
theorem pL_add {m : Nat} {hd hn nt : Nat → Nat} (H : pL m hd hn nt) {i : Nat} (hi : i < m) (v : Nat) (hv : 0 < v) : pL m hd (va_up hn i v) (va_up nt (hd i) v) := by
  refine ⟨H.1, fun j hj => ?_, fun d hd' => ?_⟩
  · by_cases z : j = i
    · rw [z, va_up_self, va_up_self]
      exact ⟨(H.2.1 i hi).1, hv, rfl⟩
    · have hne : hd j ≠ hd i := by
        rcases Nat.lt_or_ge j i with y | y
        · have := H.1 j i y hi; omega
        · have := H.1 i j (by omega) hj; omega
      rw [va_up_ne _ _ z, va_up_ne _ _ hne]
      exact H.2.1 j hj
  · by_cases z : d = hd i
    · exact ⟨i, hi, z.symm⟩
    · rw [va_up_ne _ _ z] at hd'
      exact H.2.2 d hd'
/-- a new heap -/
def ins (f : Nat → Nat) (at' v : Nat) : Nat → Nat := fun i => if i < at' then f i else if i = at' then v else f (i - 1)
theorem pL_ins {m : Nat} {hd hn nt : Nat → Nat} (H : pL m hd hn nt) {at' day v : Nat} (ha : at' ≤ m) (hday : day ≤ 2000) (hv : 0 < v) (h1 : ∀ j, j < at' → hd j < day) (h2 : ∀ j, at' ≤ j → j < m → day < hd j) : pL (m + 1) (ins hd at' day) (ins hn at' v) (va_up nt day v) := by
  have a1 : ∀ (f : Nat → Nat) (x i : Nat), i < at' → ins f at' x i = f i := fun f x i hi => if_pos hi
  have a2 : ∀ (f : Nat → Nat) (x : Nat), ins f at' x at' = x := fun f x => by
    show (if at' < at' then f at' else if at' = at' then x else f (at' - 1)) = x
    rw [if_neg (Nat.lt_irrefl _), if_pos rfl]
  have a3 : ∀ (f : Nat → Nat) (x i : Nat), at' < i → ins f at' x i = f (i - 1) := fun f x i hi => by
    show (if i < at' then f i else if i = at' then x else f (i - 1)) = _
    rw [if_neg (by omega), if_neg (by omega)]
  refine ⟨fun i j hij hj => ?_, fun i hi => ?_, fun d hd' => ?_⟩
  · rcases Nat.lt_trichotomy j at' with y | y | y
    · rw [a1 _ _ _ y, a1 _ _ _ (by omega)]; exact H.1 i j hij (by omega)
    · subst y; rw [a2, a1 _ _ _ hij]; exact h1 i hij
    · rw [a3 _ _ _ y]
      rcases Nat.lt_trichotomy i at' with w | w | w
      · rw [a1 _ _ _ w]
        have := h1 i w
        have := h2 (j - 1) (by omega) (by omega)
        omega
      · subst w; rw [a2]; exact h2 (j - 1) (by omega) (by omega)
      · rw [a3 _ _ _ w]; exact H.1 (i - 1) (j - 1) (by omega) (by omega)
  · rcases Nat.lt_trichotomy i at' with w | w | w
    · rw [a1 _ _ _ w, a1 _ _ _ w, va_up_ne _ _ (by have := h1 i w; omega)]
      exact H.2.1 i (by omega)
    · subst w; rw [a2, a2, va_up_self]; exact ⟨hday, hv, rfl⟩
    · rw [a3 _ _ _ w, a3 _ _ _ w, va_up_ne _ _ (by have := h2 (i - 1) (by omega) (by omega); omega)]
      exact H.2.1 (i - 1) (by omega)
  · by_cases z : d = day
    · exact ⟨at', by omega, by rw [a2]; exact z.symm⟩
    · rw [va_up_ne _ _ z] at hd'
      obtain ⟨i, hi, e⟩ := H.2.2 d hd'
      by_cases w : i < at'
      · exact ⟨i, by omega, by rw [a1 _ _ _ w]; exact e⟩
      · exact ⟨i + 1, by omega, by rw [a3 _ _ _ (by omega)]; exact e⟩
/-- the oldest heaps go -/
theorem pL_cut {m : Nat} {hd hn nt : Nat → Nat} (H : pL m hd hn nt) {e : Nat} (he : e ≤ m) : pL (m - e) (fun i => hd (i + e)) (fun i => hn (i + e)) (fun d => if e < m ∧ hd e ≤ d then nt d else 0) := by
  refine ⟨fun i j hij hj => H.1 (i + e) (j + e) (by omega) (by omega), fun i hi => ?_, fun d hd' => ?_⟩
  · refine ⟨(H.2.1 (i + e) (by omega)).1, (H.2.1 (i + e) (by omega)).2.1, ?_⟩
    show (if e < m ∧ hd e ≤ hd (i + e) then nt (hd (i + e)) else 0) = _
    rw [if_pos ⟨by omega, pL_mono H (by omega) (by omega)⟩]
    exact (H.2.1 (i + e) (by omega)).2.2
  · by_cases z : e < m ∧ hd e ≤ d
    · have hd' : 0 < (if e < m ∧ hd e ≤ d then nt d else 0) := hd'
      rw [if_pos z] at hd'
      obtain ⟨i, hi, e2⟩ := H.2.2 d hd'
      have : e ≤ i := by
        rcases Nat.lt_or_ge i e with y | y
        · have := H.1 i e y z.1
          omega
        · exact y
      exact ⟨i - e, by omega, by show hd (i - e + e) = d; rw [Nat.sub_add_cancel this]; exact e2⟩
    · have hd' : 0 < (if e < m ∧ hd e ≤ d then nt d else 0) := hd'
      rw [if_neg z] at hd'
      omega
/-- a purse with its notes by day -/
def pS (h : mm_H) (p d n c : Nat) (nt : Nat → Nat) : Prop := ∃ m hd hn, pA h p d n c m hd hn ∧ pL m hd hn nt ∧ h_oi h 195 p = nI (fb_sm nt 2001) ∧ fb_sm nt 2001 ≤ 100000000
theorem pS.ex {h h' : mm_H} {P : Nat → Prop} {p d n c : Nat} {nt : Nat → Nat} (H : pS h p d n c nt) (f : ex h h' P) (n1 : ¬ P p) (n2 : ¬ P d) (n3 : ¬ P n) : pS h' p d n c nt := by
  obtain ⟨m, hd, hn, A, L, T, B⟩ := H
  refine ⟨m, hd, hn, A.ex f n1 n2 n3, L, ?_, B⟩
  obtain ⟨⟨_, _, _, ⟨_, _, _, b4, _⟩, _⟩, _⟩ := A
  exact (((f.2 p b4).2 n1).2.2 195).2.trans T
theorem pS.k {h : mm_H} {p d n c : Nat} {nt : Nat → Nat} (H : pS h p d n c nt) : pK h p d n c := by
  obtain ⟨_, _, _, A, _⟩ := H
  exact A.1
/-- room stays -/
def rm (h h' : mm_H) : Prop := h_n h' = h_n h ∧ h_s h' = h_s h
/-- room grows with the purse's room -/
def gr (h : mm_H) (c : Nat) (h' : mm_H) (c' : Nat) : Prop := h_s h' = h_s h + 4 * (c' - c) ∧ h_n h' + c ≤ h_n h + c' ∧ c ≤ c'
