/-! PAYING, in the words of the state -/
def n_pay (N : zN) (x y am dy : Nat) : zN := (zNT N.1 N.2.1 x y am dy, zOw N.1 N.2.1 x y am, N.2.2)
def c_pays (C : zC) (N : zN) (x y am : Nat) : zC := (C.1 + nI (am - fb_sm (N.1 x) 2001), C.2.1, C.2.2 + nI (min (N.2.1 y) am))
/-- the room spent, by the purses' room -/
def rR (h : mm_H) (cap : Nat → Nat) (h' : mm_H) (cap' : Nat → Nat) : Prop := h_s h' + 4 * fb_sm cap 12 ≤ h_s h + 4 * fb_sm cap' 12 ∧ h_n h' + fb_sm cap 12 ≤ h_n h + fb_sm cap' 12
theorem rR.rf (h : mm_H) (cap : Nat → Nat) : rR h cap h cap := ⟨Nat.le_refl _, Nat.le_refl _⟩
theorem rR.tr {h h1 h2 : mm_H} {cap cap1 cap2 : Nat → Nat} (a : rR h cap h1 cap1) (b : rR h1 cap1 h2 cap2) : rR h cap h2 cap2 := by
  obtain ⟨a1, a2⟩ := a
  obtain ⟨b1, b2⟩ := b
  exact ⟨by omega, by omega⟩
theorem rR.rm {h h' : mm_H} (r : rm h h') (cap : Nat → Nat) : rR h cap h' cap := ⟨by rw [r.2]; exact Nat.le_refl _, by rw [r.1]; exact Nat.le_refl _⟩
theorem rR.gr {h h' : mm_H} {cap : Nat → Nat} {y c' : Nat} (hy : y < 12) (g : gr h (cap y) h' c') : rR h cap h' (va_up cap y c') := by
  obtain ⟨g1, g2, g3⟩ := g
  have e := sm_up cap (i := y) (v := c') (n := 12) hy
  exact ⟨by omega, by omega⟩
theorem rI.rR {h h' : mm_H} {i : Nat} {cap cap' : Nat → Nat} (K : rI h i cap) (r : rR h cap h' cap') : rI h' i cap' := by
  obtain ⟨k1, k2⟩ := K
  obtain ⟨r1, r2⟩ := r
  exact ⟨by omega, by omega⟩
theorem sm_sub {f g : Nat → Nat} (h : ∀ d, g d ≤ f d) (n : Nat) : fb_sm (fun d => f d - g d) n + fb_sm g n = fb_sm f n := by
  rw [← fb_sm_add]
  refine fb_sm_cong (fun d _ => ?_)
  have := h d
  omega
theorem pX_sum (nt : Nat → Nat) (n : Nat) : fb_sm (pX nt n) 2001 = fb_sm nt 2001 - n := by
  have e := sm_sub (f := nt) (g := mvd nt n) (fun d => Nat.min_le_left _ _) 2001
  rw [mvd_sum] at e
  have e : fb_sm (pX nt n) 2001 + min n (fb_sm nt 2001) = fb_sm nt 2001 := e
  omega
theorem drd_sum {nt : Nat → Nat} {a T : Nat} (hT : fb_sm nt 2001 = T) (ha : a ≤ T) : ∀ x, x ≤ 2001 → fb_sm (drd nt a) x = a - (T - fb_sm nt x)
  | 0, _ => by show 0 = a - (T - 0); omega
  | x + 1, hx => by
    have s1 : fb_sm nt (x + 1) ≤ T := by rw [← hT]; exact fb_sm_lt _ hx
    have s2 : fb_sm nt (x + 1) = fb_sm nt x + nt x := fb_sm_succ _ _
    have d1 : drd nt a x = min (nt x) (a - (T - fb_sm nt (x + 1))) := by unfold drd; rw [hT]
    rw [fb_sm_succ, drd_sum hT ha x (by omega), d1]
    omega
theorem pZ_sum (ntx nty : Nat → Nat) {n dy : Nat} (owy : Nat) (hdy : dy ≤ 2000) : fb_sm (pZ ntx nty n dy owy) 2001 = fb_sm nty 2001 + n - min owy n := by
  have sY := pY_sum ntx nty (n := n) hdy
  have e := sm_sub (f := pY ntx nty n dy) (g := drd (pY ntx nty n dy) (min owy n)) (fun d => Nat.min_le_left _ _) 2001
  rw [drd_sum sY (by omega) 2001 (Nat.le_refl _), sY] at e
  have e : fb_sm (pZ ntx nty n dy owy) 2001 + _ = _ := e
  omega
theorem z_pay {cap cap' : Nat → Nat} {W x y am dy : Nat} {F : zF} {A O : zV} {N : zN} {H : zH} (Z : zP W cap F A O N H) (hx : x < F.1 ∧ F.2 x = true) (hy : y < F.1 ∧ F.2 y = true) (hxy : x ≠ y) (hdy : dy ≤ 2000) (hW : W + am ≤ 1000000) (hc : ∀ f, f ≠ y → cap' f = cap f) (hc2 : cap' y ≤ 4096) : zP (W + am) cap' F A O (n_pay N x y am dy) H := by
  obtain ⟨z1, z2, z3, z4, z5, z6, ⟨z7, z7', z7''⟩, z8⟩ := Z
  have hx12 : x < 12 := by omega
  have hy12 : y < 12 := by omega
  have ex : (n_pay N x y am dy).1 x = pX (N.1 x) am := by
    show va_up (va_up N.1 x _) y _ x = _
    rw [va_up_ne _ _ hxy, va_up_self]
  have ey : (n_pay N x y am dy).1 y = pZ (N.1 x) (N.1 y) am dy (N.2.1 y) := va_up_self _ _ _
  have eo : ∀ f, f ≠ x → f ≠ y → (n_pay N x y am dy).1 f = N.1 f := fun f h1 h2 => by
    show va_up (va_up N.1 x _) y _ f = _
    rw [va_up_ne _ _ h2, va_up_ne _ _ h1]
  have ox : (n_pay N x y am dy).2.1 x = N.2.1 x + (am - fb_sm (N.1 x) 2001) := by
    show va_up (va_up N.2.1 x _) y _ x = _
    rw [va_up_ne _ _ hxy, va_up_self]
  have oy : (n_pay N x y am dy).2.1 y = N.2.1 y - min (N.2.1 y) am := va_up_self _ _ _
  have oo : ∀ f, f ≠ x → f ≠ y → (n_pay N x y am dy).2.1 f = N.2.1 f := fun f h1 h2 => by
    show va_up (va_up N.2.1 x _) y _ f = _
    rw [va_up_ne _ _ h2, va_up_ne _ _ h1]
  have sx := pX_sum (N.1 x) am
  have sy := pZ_sum (N.1 x) (N.1 y) (n := am) (N.2.1 y) hdy
  refine ⟨z1, z2, z3, fun f hf hn => ?_, fun f h1 h2 => ?_, fun f hf => ?_, ⟨?_, hW, fun f hf => ?_⟩, z8⟩
  · have n1 : f ≠ x := fun z => hn (by rw [z]; exact hx)
    have n2 : f ≠ y := fun z => hn (by rw [z]; exact hy)
    rw [eo f n1 n2, oo f n1 n2]
    exact z4 f hf hn
  · rw [hc f (by omega)]
    exact z5 f h1 h2
  · by_cases a1 : f = x
    · rw [a1, ex, ox, sx]
      rcases z6 x hx12 with w | w <;> omega
    · by_cases a2 : f = y
      · rw [a2, ey, oy, sy]
        rcases z6 y hy12 with w | w <;> omega
      · rw [eo f a1 a2, oo f a1 a2]; exact z6 f hf
  · have e1 : fb_sm (fun f => fb_sm ((n_pay N x y am dy).1 f) 2001) 12 = fb_sm (va_up (va_up (fun f => fb_sm (N.1 f) 2001) x (fb_sm (N.1 x) 2001 - am)) y (fb_sm (N.1 y) 2001 + am - min (N.2.1 y) am)) 12 := fb_sm_cong (fun f _ => by
      show fb_sm ((n_pay N x y am dy).1 f) 2001 = _
      by_cases a2 : f = y
      · rw [a2, ey, va_up_self, sy]
      · rw [va_up_ne _ _ a2]
        by_cases a1 : f = x
        · rw [a1, ex, va_up_self, sx]
        · rw [va_up_ne _ _ a1, eo f a1 a2])
    rw [e1]
    have e2 := sm_up (va_up (fun f => fb_sm (N.1 f) 2001) x (fb_sm (N.1 x) 2001 - am)) (i := y) (v := fb_sm (N.1 y) 2001 + am - min (N.2.1 y) am) (n := 12) hy12
    rw [va_up_ne _ _ (fun z => hxy z.symm)] at e2
    have e3 := sm_up (fun f => fb_sm (N.1 f) 2001) (i := x) (v := fb_sm (N.1 x) 2001 - am) (n := 12) hx12
    have e2 : _ + fb_sm (N.1 y) 2001 = _ := e2
    have e3 : _ + fb_sm (N.1 x) 2001 = _ := e3
    omega
  · have c4 : cap' f ≤ 4096 := by
      by_cases a2 : f = y
      · rw [a2]; exact hc2
      · rw [hc f a2]; exact (z7'' f hf).2
    refine ⟨?_, c4⟩
    have w0 := (z7'' f hf).1
    by_cases a1 : f = x
    · rw [a1] at w0 ⊢; rw [ox]; omega
    · by_cases a2 : f = y
      · rw [a2] at w0 ⊢; rw [oy]; omega
      · rw [oo f a1 a2]; omega
theorem own_ne {own : Nat → Nat} {a b f g : Nat} (h1 : own a = f) (h2 : own b = g) (h : f ≠ g) : a ≠ b := fun z => h (by rw [← h1, ← h2, z])
set_option maxHeartbeats 1000000 in
theorem c_payS {h : mm_H} {Q : Option Value → mm_H → Prop} {own cap : Nat → Nat} {T : zT} {X : zX} {dy W : Nat} {ft : Int32} {F : zF} {A O : zV} {N : zN} {C : zC} {H : zH} (sh : s_h h) (K : CS h own cap T X dy ft F A O N C H) (Z : zP W cap F A O N H) {x y am q p d n q2 p2 d2 n2 : Nat} (hx : x < F.1 ∧ F.2 x = true) (hy : y < F.1 ∧ F.2 y = true) (hxy : x ≠ y) (ham : am ≤ 1000) (K1 : cFo h own (cap x) N x q p d n) (K2 : cFo h own (cap y) N y q2 p2 d2 n2)
    (k : ∀ h' own' c', CS h' own' (va_up cap y c') T X dy ft F A O (n_pay N x y am dy) (c_pays C N x y am) H → fx h h' [(523, 16), (525, 16)] [] → c' ≤ 4096 → rR h cap h' (va_up cap y c') → (∃ p d n, cFo h' own' (cap x) (n_pay N x y am dy) x q p d n) → (∃ p d n, cFo h' own' c' (n_pay N x y am dy) y q2 p d n) → Q none h') : w_c 24 98 [.ref 16, .ref q, .ref q2, .int (nI am)] h Q := by
  have z1 := Z.1
  have nbx := Z.nb (f := x) (by omega)
  have nby := Z.nb (f := y) (by omega)
  obtain ⟨a1, ⟨a2, a3, a4, a5⟩, a6⟩ := id K1
  obtain ⟨b1, ⟨b2, b3, b4, b5⟩, b6⟩ := id K2
  have hyx : y ≠ x := fun z => hxy z.symm
  have inv : N.2.1 y = 0 ∨ fb_sm (N.1 y) 2001 = 0 := Z.2.2.2.2.2.1 y (by omega)
  have ob : N.2.1 y ≤ 1000000 := by
    obtain ⟨-, -, -, -, -, -, ⟨-, y1, y2⟩, -⟩ := Z
    have := (y2 y (by omega)).1
    omega
  refine c_pay sh a6 b6 (own_ne a2 b2 hxy) (own_ne a3 b3 hxy) ⟨own_ne a4 b4 hxy, own_ne a4 b5 hxy, own_ne a5 b4 hxy, own_ne a5 b5 hxy⟩ K.2.2.1 ham (by omega) inv (by omega) (fun h' d2' n2' c' E f F1 F2 q1 q2' g u1 u2 => ?_)
  have kk := b6.2.2.2.k.2.2.2.1
  have kx := a6.2.2.2.k.2.2.2.1
  have eN1 : (n_pay N x y am dy).1 x = pX (N.1 x) am := by
    show va_up (va_up N.1 x _) y _ x = _
    rw [va_up_ne _ _ hxy, va_up_self]
  have eN2 : (n_pay N x y am dy).1 y = pZ (N.1 x) (N.1 y) am dy (N.2.1 y) := va_up_self _ _ _
  have eO1 : (n_pay N x y am dy).2.1 x = N.2.1 x + (am - fb_sm (N.1 x) 2001) := by
    show va_up (va_up N.2.1 x _) y _ x = _
    rw [va_up_ne _ _ hxy, va_up_self]
  have eO2 : (n_pay N x y am dy).2.1 y = N.2.1 y - min (N.2.1 y) am := va_up_self _ _ _
  have ownx : ∀ a, a < h_n h → own a = x → (fun a => if a = d2' ∨ a = n2' then y else own a) a = x := fun a ha e => by
    show (if a = d2' ∨ a = n2' then y else own a) = x
    rw [if_neg]
    · exact e
    · rintro (z | z)
      · rcases q1 with w | w
        · rw [z, w, b4] at e; exact hyx e
        · omega
      · rcases q2' with w | w
        · rw [z, w, b5] at e; exact hyx e
        · omega
  have owny : ∀ a, own a = y → (fun a => if a = d2' ∨ a = n2' then y else own a) a = y := fun a e => by
    show (if a = d2' ∨ a = n2' then y else own a) = y
    by_cases z : a = d2' ∨ a = n2'
    · rw [if_pos z]
    · rw [if_neg z]; exact e
  have ar : h_ar h' 30 = h_ar h 30 := f.ar 30 (by decide) (by decide)
  have KX : cFo h' (fun a => if a = d2' ∨ a = n2' then y else own a) (cap x) (n_pay N x y am dy) x q p d n := by
    refine ⟨by rw [ar]; exact a1, ⟨ownx q a6.1.2.2 a2, ownx p kx.2.2.2.1 a3, ownx d kx.2.2.2.2.1 a4, ownx n kx.2.2.2.2.2.1 a5⟩, ?_⟩
    rw [eN1, eO1]
    exact F1
  have KY : cFo h' (fun a => if a = d2' ∨ a = n2' then y else own a) c' (n_pay N x y am dy) y q2 p2 d2' n2' := by
    refine ⟨by rw [ar]; exact b1, ⟨owny q2 b2, owny p2 b3, if_pos (Or.inl rfl), if_pos (Or.inr rfl)⟩, ?_⟩
    rw [eN2, eO2]
    exact F2
  refine k h' _ c' ?_ f F2.2.2.2.k.2.2.2.2.2 (rR.gr (by omega) g) ⟨p, d, n, KX⟩ ⟨p2, d2', n2', KY⟩
  refine K.fam (Tc := fun a => a = x ∨ a = y) z1 E (f.wk (by decide) (by decide)) (fun a h70 _ ha => ?_) (fun k hk z => by have z : 12 + k = x ∨ 12 + k = y := z; omega) (fun a ha hT => ?_) (fun g hg => ?_) (fun g hg h1 h2 => ?_) ⟨?_, (f.oi _ _ (by decide) (by decide)).trans K.2.2.2.2.2.2.2.2.1.2.1, ?_⟩
  · rcases ha with z | (z | z | z | z) | (z | z | z | z)
    · omega
    · exact Or.inl (by rw [z]; exact a2)
    · exact Or.inl (by rw [z]; exact a3)
    · exact Or.inl (by rw [z]; exact a4)
    · exact Or.inl (by rw [z]; exact a5)
    · exact Or.inr (by rw [z]; exact b2)
    · exact Or.inr (by rw [z]; exact b3)
    · exact Or.inr (by rw [z]; exact b4)
    · exact Or.inr (by rw [z]; exact b5)
  · show (if a = d2' ∨ a = n2' then y else own a) = own a
    refine if_neg ?_
    rintro (z | z)
    · rcases q1 with w | w
      · exact hT (Or.inr (by rw [z, w]; exact b4))
      · omega
    · rcases q2' with w | w
      · exact hT (Or.inr (by rw [z, w]; exact b5))
      · omega
  · have g1 : g ≠ x := fun z => hg (Or.inl z)
    have g2 : g ≠ y := fun z => hg (Or.inr z)
    refine ⟨va_up_ne _ _ g2, ?_, ?_, rfl, rfl, rfl⟩
    · show va_up (va_up N.1 x _) y _ g = _
      rw [va_up_ne _ _ g2, va_up_ne _ _ g1]
    · show va_up (va_up N.2.1 x _) y _ g = _
      rw [va_up_ne _ _ g2, va_up_ne _ _ g1]
  · rcases hg with z | z
    · have z : g = x := z
      subst z
      rw [va_up_ne _ _ hxy]
      exact ⟨q, p, d, n, KX⟩
    · have z : g = y := z
      subst z
      rw [va_up_self]
      exact ⟨q2, p2, d2', n2', KY⟩
  · rw [u1, K.2.2.2.2.2.2.2.2.1.1]; rfl
  · rw [u2, K.2.2.2.2.2.2.2.2.1.2.2]; rfl
theorem m_payS {h : mm_H} {Q : Option Value → mm_H → Prop} {cap : Nat → Nat} {T : zT} {X : zX} {dy cl W : Nat} {ft : Int32} {F : zF} {A O : zV} {N : zN} {C : zC} {H : zH} (sh : s_h h) (K : MS h cl T X dy ft F A O N C H) (Z : zP W cap F A O N H) {x y am : Nat} (hx : x < F.1 ∧ F.2 x = true) (hy : y < F.1 ∧ F.2 y = true) (hxy : x ≠ y) (ham : am ≤ 1000) (k : ∀ h', MS h' cl T X dy ft F A O (n_pay N x y am dy) (c_pays C N x y am) H → fx h h' [(597, 44), (599, 44)] [50, 53] → dn h h' → Q none h') : w_c 0 128 [.ref 44, .int (nI x), .int (nI y), .int (nI am)] h Q := by
  have z1 := Z.1
  have nbx := Z.nb (f := x) (by omega)
  have nby := Z.nb (f := y) (by omega)
  have ob : N.2.1 y ≤ 1000000 := by
    obtain ⟨-, -, -, -, -, -, ⟨-, y1, y2⟩, -⟩ := Z
    have := (y2 y (by omega)).1
    omega
  obtain ⟨k1, k2, k3, k4, k5, k6, k7, k8, k9, k10, k11, k12⟩ := id K
  refine m_pays sh k7 k8 (by omega) (by omega) hxy ham (by omega) (by omega) (by omega) (fun h' f d B' O' u1 u2 => ?_)
  exact k h' ⟨k1.fx f (by decide) (by decide), k2.fx f (by decide) (by decide) (by decide), k3.fx f (by decide), k4.fx f (by decide) (by decide), k5.fx f (by decide) (by decide) (by decide) (by decide) (by decide), k6.fx f (by decide) (by decide) (by decide) (by decide) (by decide), B', O', k9.fx f (by decide) (by decide) (by decide), ⟨by rw [u1, k10.1]; rfl, (f.oi _ _ (by decide) (by decide)).trans k10.2.1, by rw [u2, k10.2.2]; rfl⟩, k11.fx f (by decide) (by decide) (by decide), k12.fx f (by decide)⟩ f d
