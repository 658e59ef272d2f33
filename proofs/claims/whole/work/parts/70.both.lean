/-! THE CALLS, side by side -/
def sX (h : mm_H) (L : Nat) (xs : Nat → Int32) : Prop := h_kd h 0 = 20 ∧ h_al h 0 = L ∧ h_ai h 0 = xs
theorem sX.fx {h h' : mm_H} {L : Nat} {xs : Nat → Int32} {gs : List (Nat × Nat)} {as : List Nat} (s : sX h L xs) (f : fx h h' gs as) (n : 0 ∉ as) : sX h' L xs := ⟨(f.1 0 (by decide)).1.trans s.1, (f.1 0 (by decide)).2.1.trans s.2.1, (f.ai 0 (by decide) n).trans s.2.2⟩
def LC (h : mm_H) (i L : Nat) (xs : Nat → Int32) (own cap : Nat → Nat) (cl : Nat) (T : zT) (X : zX) (dy : Nat) (ft : Int32) (F : zF) (A O : zV) (N : zN) (C : zC) (H : zH) : Prop := s_h h ∧ sX h L xs ∧ zP (1000 * i) cap F A O N H ∧ CS h own cap T X dy ft F A O N C H ∧ MS h cl T X dy ft F A O N C H ∧ rI h i cap
def LI (h : mm_H) (i L : Nat) (xs : Nat → Int32) : Prop := ∃ (own cap : Nat → Nat) (cl : Nat) (T : zT) (X : zX) (dy : Nat) (ft : Int32) (F : zF) (A O : zV) (N : zN) (C : zC) (H : zH), LC h i L xs own cap cl T X dy ft F A O N C H
def LO (D y : Nat) (as : List Value) (D' y' : Nat) (as' : List Value) (h : mm_H) (i L : Nat) (xs : Nat → Int32) : Prop := w_c D y as h (fun r h1 => ∃ z : Int32, r = some (.int z) ∧ s_h h1 ∧ sX h1 L xs ∧ w_c D' y' as' h1 (fun r2 h2 => r2 = some (.int z) ∧ LI h2 (i + 1) L xs))
theorem LI.fin {h1 h2 : mm_H} {i L : Nat} {xs : Nat → Int32} {own cap : Nat → Nat} {cl : Nat} {T : zT} {X : zX} {dy : Nat} {ft : Int32} {F : zF} {A O : zV} {N : zN} {C : zC} {H : zH} (s1 : s_h h1) (x1 : sX h1 L xs) (Z : zP (1000 * i) cap F A O N H) (K : CS h1 own cap T X dy ft F A O N C H) (R : rI h1 i cap) (M : MS h2 cl T X dy ft F A O N C H) (f : fM h1 h2) : LI h2 i L xs := ⟨own, cap, cl, T, X, dy, ft, F, A, O, N, C, H, f.sh s1, x1.fx f.1 (by decide), Z, K.fM f, M, R.dn f.2⟩
theorem z_up {i : Nat} {cap : Nat → Nat} {F : zF} {A O : zV} {N : zN} {H : zH} (Z : zP (1000 * i) cap F A O N H) (hi : i < 512) : zP (1000 * (i + 1)) cap F A O N H := z_W Z (by omega) (by omega)
theorem z_up' {i : Nat} {cap : Nat → Nat} {F : zF} {A O : zV} {N : zN} {H : zH} (Z : zP (1000 * i + 1000) cap F A O N H) : zP (1000 * (i + 1)) cap F A O N H := Z
theorem rm.rI {h h' : mm_H} {i : Nat} {cap : Nat → Nat} (r : rm h h') (R : rI h i cap) : rI h' (i + 1) cap := ⟨by have := R.1; have := r.2; omega, by have := R.2; have := r.1; omega⟩
theorem rR.rI {h h' : mm_H} {i : Nat} {cap cap' : Nat → Nat} (r : rR h cap h' cap') (R : rI h i cap) : rI h' (i + 1) cap' := ⟨by have := R.1; have := r.1; omega, by have := R.2; have := r.2; omega⟩
theorem LC.up {h : mm_H} {i L : Nat} {xs : Nat → Int32} {own cap : Nat → Nat} {cl : Nat} {T : zT} {X : zX} {dy : Nat} {ft : Int32} {F : zF} {A O : zV} {N : zN} {C : zC} {H : zH} (K : LC h i L xs own cap cl T X dy ft F A O N C H) (hi : i < 512) : LI h (i + 1) L xs := ⟨own, cap, cl, T, X, dy, ft, F, A, O, N, C, H, K.1, K.2.1, z_up K.2.2.1 hi, K.2.2.2.1, K.2.2.2.2.1, K.2.2.2.2.2.up⟩
theorem LO.ro {h : mm_H} {i L : Nat} {xs : Nat → Int32} {own cap : Nat → Nat} {cl : Nat} {T : zT} {X : zX} {dy : Nat} {ft : Int32} {F : zF} {A O : zV} {N : zN} {C : zC} {H : zH} {D y D' y' : Nat} {as as' : List Value} {r : Int32} (K : LC h i L xs own cap cl T X dy ft F A O N C H) (hi : i < 512) (a : ∀ Q : Option Value → mm_H → Prop, (∀ h', fx h h' gS aS → dn h h' → Q (some (.int r)) h') → w_c D y as h Q) (b : ∀ (h1 : mm_H) (Q : Option Value → mm_H → Prop), s_h h1 → MS h1 cl T X dy ft F A O N C H → (∀ h', fx h1 h' gSm aSm → dn h1 h' → Q (some (.int r)) h') → w_c D' y' as' h1 Q) : LO D y as D' y' as' h i L xs := by
  obtain ⟨sh, sx, Z, KC, KM, R⟩ := K
  refine a _ (fun h1 f1 d1 => ?_)
  have s1 := f1.sh sh (by decide)
  have c1 : fC h h1 := f1.wk (by decide) (by decide)
  refine ⟨r, rfl, s1, sx.fx f1 (by decide), b h1 _ s1 (KM.fC c1) (fun h2 f2 d2 => ⟨rfl, ?_⟩)⟩
  have m2 : fM h1 h2 := ⟨f2.wk (by decide) (by decide), d2⟩
  exact LI.fin s1 (sx.fx f1 (by decide)) (z_up Z hi) (KC.sc f1 d1) (R.dn d1).up ((KM.fC c1).sc f2) m2
theorem nI_inj {a b : Nat} (ha : a < 2147483648) (hb : b < 2147483648) (h : nI a = nI b) : a = b := (nI_eqI ha hb).mp h
theorem l_price {h : mm_H} {i L : Nat} {xs : Nat → Int32} {own cap : Nat → Nat} {cl : Nat} {T : zT} {X : zX} {dy : Nat} {ft : Int32} {F : zF} {A O : zV} {N : zN} {C : zC} {H : zH} (K : LC h i L xs own cap cl T X dy ft F A O N C H) (hi : i < 512) (a : Int32) : LO 3 75 [.ref 16, .int a] 3 133 [.ref 44, .int a] h i L xs :=
  LO.ro K hi (fun Q k => c_price K.1 K.2.2.2.1 K.2.2.1 a k) (fun h1 Q s1 M1 k => m_price s1 M1 K.2.2.1 a k)
theorem l_fits {h : mm_H} {i L : Nat} {xs : Nat → Int32} {own cap : Nat → Nat} {cl : Nat} {T : zT} {X : zX} {dy : Nat} {ft : Int32} {F : zF} {A O : zV} {N : zN} {C : zC} {H : zH} (K : LC h i L xs own cap cl T X dy ft F A O N C H) (hi : i < 512) (a : Int32) (b : Int32) : LO 4 76 [.ref 16, .int a, .int b] 4 135 [.ref 44, .int a, .int b] h i L xs :=
  LO.ro K hi (fun Q k => c_fits K.1 K.2.2.2.1 K.2.2.1 a b k) (fun h1 Q s1 M1 k => m_fits s1 M1 K.2.2.1 a b k)
theorem l_met {h : mm_H} {i L : Nat} {xs : Nat → Int32} {own cap : Nat → Nat} {cl : Nat} {T : zT} {X : zX} {dy : Nat} {ft : Int32} {F : zF} {A O : zV} {N : zN} {C : zC} {H : zH} (K : LC h i L xs own cap cl T X dy ft F A O N C H) (hi : i < 512) : LO 15 77 [.ref 16] 6 141 [.ref 44] h i L xs :=
  LO.ro K hi (fun Q k => c_met K.1 K.2.2.2.1 K.2.2.1 k) (fun h1 Q s1 M1 k => m_met s1 M1 K.2.2.1 k)
theorem l_sitter {h : mm_H} {i L : Nat} {xs : Nat → Int32} {own cap : Nat → Nat} {cl : Nat} {T : zT} {X : zX} {dy : Nat} {ft : Int32} {F : zF} {A O : zV} {N : zN} {C : zC} {H : zH} (K : LC h i L xs own cap cl T X dy ft F A O N C H) (hi : i < 512) (a : Int32) : LO 16 78 [.ref 16, .int a] 6 142 [.ref 44, .int a] h i L xs :=
  LO.ro K hi (fun Q k => c_sitter K.1 K.2.2.2.1 K.2.2.1 a k) (fun h1 Q s1 M1 k => m_sitter s1 M1 K.2.2.1 a k)
theorem l_why {h : mm_H} {i L : Nat} {xs : Nat → Int32} {own cap : Nat → Nat} {cl : Nat} {T : zT} {X : zX} {dy : Nat} {ft : Int32} {F : zF} {A O : zV} {N : zN} {C : zC} {H : zH} (K : LC h i L xs own cap cl T X dy ft F A O N C H) (hi : i < 512) (a : Int32) : LO 16 79 [.ref 16, .int a] 6 143 [.ref 44, .int a] h i L xs :=
  LO.ro K hi (fun Q k => c_why K.1 K.2.2.2.1 K.2.2.1 a k) (fun h1 Q s1 M1 k => m_why s1 M1 K.2.2.1 a k)
theorem l_would {h : mm_H} {i L : Nat} {xs : Nat → Int32} {own cap : Nat → Nat} {cl : Nat} {T : zT} {X : zX} {dy : Nat} {ft : Int32} {F : zF} {A O : zV} {N : zN} {C : zC} {H : zH} (K : LC h i L xs own cap cl T X dy ft F A O N C H) (hi : i < 512) (a : Int32) : LO 15 80 [.ref 16, .int a] 5 144 [.ref 44, .int a] h i L xs :=
  LO.ro K hi (fun Q k => c_would K.1 K.2.2.2.1 K.2.2.1 a k) (fun h1 Q s1 M1 k => m_would s1 M1 K.2.2.1 a k)
theorem l_told {h : mm_H} {i L : Nat} {xs : Nat → Int32} {own cap : Nat → Nat} {cl : Nat} {T : zT} {X : zX} {dy : Nat} {ft : Int32} {F : zF} {A O : zV} {N : zN} {C : zC} {H : zH} (K : LC h i L xs own cap cl T X dy ft F A O N C H) (hi : i < 512) (a : Int32) (b : Int32) : LO 1 72 [.ref 16, .int a, .int b] 2 126 [.ref 44, .int a, .int b] h i L xs :=
  LO.ro K hi (fun Q k => c_told K.1 K.2.2.2.1 K.2.2.1 a b k) (fun h1 Q s1 M1 k => m_told s1 M1 K.2.2.1 a b k)
theorem l_count {h : mm_H} {i L : Nat} {xs : Nat → Int32} {own cap : Nat → Nat} {cl : Nat} {T : zT} {X : zX} {dy : Nat} {ft : Int32} {F : zF} {A O : zV} {N : zN} {C : zC} {H : zH} (K : LC h i L xs own cap cl T X dy ft F A O N C H) (hi : i < 512) (a : Int32) : LO 3 86 [.ref 16, .int a] 1 151 [.ref 44, .int a] h i L xs :=
  LO.ro K hi (fun Q k => c_count K.1 K.2.2.2.1 K.2.2.1 a k) (fun h1 Q s1 M1 k => m_count s1 M1 K.2.2.1 a k)
theorem l_fault {h : mm_H} {i L : Nat} {xs : Nat → Int32} {own cap : Nat → Nat} {cl : Nat} {T : zT} {X : zX} {dy : Nat} {ft : Int32} {F : zF} {A O : zV} {N : zN} {C : zC} {H : zH} (K : LC h i L xs own cap cl T X dy ft F A O N C H) (hi : i < 512) : LO 0 65 [.ref 16] 0 113 [.ref 44] h i L xs := by
  obtain ⟨sh, sx, Z, KC, KM, R⟩ := id K
  exact c_fault sh KC.2.2.2.1 ⟨ft, rfl, sh, sx, m_fault sh KM.2.2.1 ⟨rfl, K.up hi⟩⟩
theorem l_rule {h : mm_H} {i L : Nat} {xs : Nat → Int32} {own cap : Nat → Nat} {cl : Nat} {T : zT} {X : zX} {dy : Nat} {ft : Int32} {F : zF} {A O : zV} {N : zN} {C : zC} {H : zH} (K : LC h i L xs own cap cl T X dy ft F A O N C H) (hi : i < 512) (a b : Int32) : LO 2 67 [.ref 16, .int a, .int b] 2 117 [.ref 44, .int a, .int b] h i L xs := by
  obtain ⟨sh, sx, Z, KC, KM, R⟩ := id K
  exact c_rule sh KC.2.1 a b ⟨_, rfl, sh, sx, m_rule sh KM.2.1 a b ⟨rfl, K.up hi⟩⟩
theorem l_feed {h : mm_H} {i L : Nat} {xs : Nat → Int32} {own cap : Nat → Nat} {cl : Nat} {T : zT} {X : zX} {dy : Nat} {ft : Int32} {F : zF} {A O : zV} {N : zN} {C : zC} {H : zH} (K : LC h i L xs own cap cl T X dy ft F A O N C H) (hi : i < 512) (v : Int64) : LO 1 62 [.ref 16, .long v] 0 104 [.ref 44, .long v] h i L xs := by
  obtain ⟨sh, sx, Z, KC, KM, R⟩ := id K
  refine c_feed sh KC.1 v (fun h1 f1 d1 t1 => ?_)
  have s1 := f1.sh sh (by decide)
  have c1 : fC h h1 := f1.wk (by decide) (by decide)
  have M1 := KM.fC c1
  refine ⟨_, rfl, s1, sx.fx f1 (by decide), m_feed s1 M1.1 v (fun h2 f2 d2 t2 => ⟨rfl, ?_⟩)⟩
  obtain ⟨k1, k2, k3, k4, k5, k6, k7, k8, k9, k10⟩ := KC
  obtain ⟨m1, m2, m3, m4, m5, m6, m7, m8, m9, m10, m11, m12⟩ := M1
  refine LI.fin (cl := cl) (T := ((a_feed T.1).2, tq v T.1 T.2)) s1 (sx.fx f1 (by decide)) (z_up Z hi) ⟨t1, k2.fx f1 (by decide) (by decide) (by decide), k3.fx f1 (by decide), k4.fx f1 (by decide), k5.dn f1 d1 (by decide) (by decide), k6.fx f1 (by decide) (by decide) (by decide) (by decide) (by decide), k7.fx f1 (by decide) (by decide) (by decide) (by decide) (by decide), k8.dn f1 d1 (by decide), k9.fx f1 (by decide) (by decide) (by decide), k10.dn f1 d1 (by decide)⟩ (R.dn d1).up ⟨t2, m2.fx f2 (by decide) (by decide) (by decide), m3.fx f2 (by decide), m4.fx f2 (by decide) (by decide), m5.fx f2 (by decide) (by decide) (by decide) (by decide) (by decide), m6.fx f2 (by decide) (by decide) (by decide) (by decide) (by decide), m7.fx f2 (by decide) (by decide) (by decide), m8.fx f2 (by decide), m9.fx f2 (by decide) (by decide) (by decide), m10.fx f2 (by decide) (by decide) (by decide), m11.fx f2 (by decide) (by decide) (by decide), m12.fx f2 (by decide)⟩ ⟨f2.wk (by decide) (by decide), d2⟩
theorem l_end {h : mm_H} {i L : Nat} {xs : Nat → Int32} {own cap : Nat → Nat} {cl : Nat} {T : zT} {X : zX} {dy : Nat} {ft : Int32} {F : zF} {A O : zV} {N : zN} {C : zC} {H : zH} (K : LC h i L xs own cap cl T X dy ft F A O N C H) (hi : i < 512) (n : Int32) : LO 0 63 [.ref 16, .int n] 1 105 [.ref 44, .int n] h i L xs := by
  obtain ⟨sh, sx, Z, KC, KM, R⟩ := id K
  refine c_end sh KC.1 n (fun h1 f1 d1 t1 => ?_)
  have s1 := f1.sh sh (by decide)
  have c1 : fC h h1 := f1.wk (by decide) (by decide)
  have M1 := KM.fC c1
  refine ⟨_, rfl, s1, sx.fx f1 (by decide), m_end s1 M1.1 n (fun h2 f2 d2 t2 => ⟨rfl, ?_⟩)⟩
  obtain ⟨k1, k2, k3, k4, k5, k6, k7, k8, k9, k10⟩ := KC
  obtain ⟨m1, m2, m3, m4, m5, m6, m7, m8, m9, m10, m11, m12⟩ := M1
  refine LI.fin (cl := cl) (T := ((a_end T.1 n).2, T.2)) s1 (sx.fx f1 (by decide)) (z_up Z hi) ⟨t1, k2.fx f1 (by decide) (by decide) (by decide), k3.fx f1 (by decide), k4.fx f1 (by decide), k5.dn f1 d1 (by decide) (by decide), k6.fx f1 (by decide) (by decide) (by decide) (by decide) (by decide), k7.fx f1 (by decide) (by decide) (by decide) (by decide) (by decide), k8.dn f1 d1 (by decide), k9.fx f1 (by decide) (by decide) (by decide), k10.dn f1 d1 (by decide)⟩ (R.dn d1).up ⟨t2, m2.fx f2 (by decide) (by decide) (by decide), m3.fx f2 (by decide), m4.fx f2 (by decide) (by decide), m5.fx f2 (by decide) (by decide) (by decide) (by decide) (by decide), m6.fx f2 (by decide) (by decide) (by decide) (by decide) (by decide), m7.fx f2 (by decide) (by decide) (by decide), m8.fx f2 (by decide), m9.fx f2 (by decide) (by decide) (by decide), m10.fx f2 (by decide) (by decide) (by decide), m11.fx f2 (by decide) (by decide) (by decide), m12.fx f2 (by decide)⟩ ⟨f2.wk (by decide) (by decide), d2⟩
theorem l_unw {h : mm_H} {i L : Nat} {xs : Nat → Int32} {own cap : Nat → Nat} {cl : Nat} {T : zT} {X : zX} {dy : Nat} {ft : Int32} {F : zF} {A O : zV} {N : zN} {C : zC} {H : zH} (K : LC h i L xs own cap cl T X dy ft F A O N C H) (hi : i < 512) : LO 1 66 [.ref 16] 1 114 [.ref 44] h i L xs := by
  obtain ⟨sh, sx, Z, KC, KM, R⟩ := id K
  refine c_unw sh KC.2.1 KC.2.2.1 (fun h1 f1 d1 t1 => ?_)
  have s1 := f1.sh sh (by decide)
  have c1 : fC h h1 := f1.wk (by decide) (by decide)
  have M1 := KM.fC c1
  refine ⟨_, rfl, s1, sx.fx f1 (by decide), m_unw s1 M1.2.1 M1.d (fun h2 f2 d2 t2 => ⟨rfl, ?_⟩)⟩
  obtain ⟨k1, k2, k3, k4, k5, k6, k7, k8, k9, k10⟩ := KC
  obtain ⟨m1, m2, m3, m4, m5, m6, m7, m8, m9, m10, m11, m12⟩ := M1
  refine LI.fin (cl := cl) (X := ((a_unw X.1 X.2.1 dy).2, X.2)) s1 (sx.fx f1 (by decide)) (z_up Z hi) ⟨k1.fx f1 (by decide) (by decide), t1, k3.fx f1 (by decide), k4.fx f1 (by decide), k5.dn f1 d1 (by decide) (by decide), k6.fx f1 (by decide) (by decide) (by decide) (by decide) (by decide), k7.fx f1 (by decide) (by decide) (by decide) (by decide) (by decide), k8.dn f1 d1 (by decide), k9.fx f1 (by decide) (by decide) (by decide), k10.dn f1 d1 (by decide)⟩ (R.dn d1).up ⟨m1.fx f2 (by decide) (by decide), t2, m3.fx f2 (by decide), m4.fx f2 (by decide) (by decide), m5.fx f2 (by decide) (by decide) (by decide) (by decide) (by decide), m6.fx f2 (by decide) (by decide) (by decide) (by decide) (by decide), m7.fx f2 (by decide) (by decide) (by decide), m8.fx f2 (by decide), m9.fx f2 (by decide) (by decide) (by decide), m10.fx f2 (by decide) (by decide) (by decide), m11.fx f2 (by decide) (by decide) (by decide), m12.fx f2 (by decide)⟩ ⟨f2.wk (by decide) (by decide), d2⟩
theorem CS.ask {h h' : mm_H} {own cap : Nat → Nat} {T : zT} {X : zX} {dy : Nat} {ft : Int32} {F : zF} {A A' O : zV} {N : zN} {C : zC} {H : zH} (K : CS h own cap T X dy ft F A O N C H) (f : fx h h' [(451, 31)] [32, 33, 34]) (d : dn h h') (V : cV h' 31 A'.1 A'.2.1 A'.2.2.1 A'.2.2.2) : CS h' own cap T X dy ft F A' O N C H := by
  obtain ⟨k1, k2, k3, k4, k5, k6, k7, k8, k9, k10⟩ := K
  exact ⟨k1.fx f (by decide) (by decide), k2.fx f (by decide) (by decide) (by decide), k3.fx f (by decide), k4.fx f (by decide), k5.dn f d (by decide) (by decide), V, k7.fx f (by decide) (by decide) (by decide) (by decide) (by decide), k8.dn f d (by decide), k9.fx f (by decide) (by decide) (by decide), k10.dn f d (by decide)⟩
theorem MS.ask {h h' : mm_H} {cl : Nat} {T : zT} {X : zX} {dy : Nat} {ft : Int32} {F : zF} {A A' O : zV} {N : zN} {C : zC} {H : zH} (K : MS h cl T X dy ft F A O N C H) (f : fx h h' [(600, 44)] [55, 56, 57]) (V : mV h' 600 55 A'.1 A'.2.1 A'.2.2.1 A'.2.2.2) : MS h' cl T X dy ft F A' O N C H := by
  obtain ⟨m1, m2, m3, m4, m5, m6, m7, m8, m9, m10, m11, m12⟩ := K
  exact ⟨m1.fx f (by decide) (by decide), m2.fx f (by decide) (by decide) (by decide), m3.fx f (by decide), m4.fx f (by decide) (by decide), V, m6.fx f (by decide) (by decide) (by decide) (by decide) (by decide), m7.fx f (by decide) (by decide) (by decide), m8.fx f (by decide), m9.fx f (by decide) (by decide) (by decide), m10.fx f (by decide) (by decide) (by decide), m11.fx f (by decide) (by decide) (by decide), m12.fx f (by decide)⟩
theorem z_ask {W : Nat} {cap : Nat → Nat} {F : zF} {A O : zV} {N : zN} {H : zH} {f a b : Int32} (Z : zP W cap F A O N H) (hn : A.1 < 10) (v : isV F.1 F.2 f a b) : zP W cap F (v_add A f a b) O N H := ⟨Z.1, Z.2.1.add hn v Z.1, Z.2.2⟩
theorem z_off {W : Nat} {cap : Nat → Nat} {F : zF} {A O : zV} {N : zN} {H : zH} {f a b : Int32} (Z : zP W cap F A O N H) (hn : O.1 < 10) (v : isV F.1 F.2 f a b) : zP W cap F A (v_add O f a b) N H := ⟨Z.1, Z.2.1, Z.2.2.1.add hn v Z.1, Z.2.2.2⟩
theorem l_ask {h : mm_H} {i L : Nat} {xs : Nat → Int32} {own cap : Nat → Nat} {cl : Nat} {T : zT} {X : zX} {dy : Nat} {ft : Int32} {F : zF} {A O : zV} {N : zN} {C : zC} {H : zH} (K : LC h i L xs own cap cl T X dy ft F A O N C H) (hi : i < 512) (f a b : Int32) : LO 2 73 [.ref 16, .int f, .int a, .int b] 3 130 [.ref 44, .int f, .int a, .int b] h i L xs := by
  obtain ⟨sh, sx, Z, KC, KM, R⟩ := id K
  have Zv := Z.2.1
  refine c_ask sh KC.2.2.2.2.1 Zv KC.2.2.2.2.2.1 f a b (fun n1 => ⟨_, rfl, sh, sx, m_ask sh KM.2.2.2.1 Zv KM.2.2.2.2.1 f a b (fun _ => ⟨rfl, K.up hi⟩) (fun z => absurd z n1) (fun z => absurd z n1)⟩) (fun v n1 => ⟨_, rfl, sh, sx, m_ask sh KM.2.2.2.1 Zv KM.2.2.2.2.1 f a b (fun z => absurd v z) (fun _ _ => ⟨rfl, K.up hi⟩) (fun _ z => by omega)⟩) (fun v n1 h1 f1 d1 V1 => ?_)
  have s1 := f1.sh sh (by decide)
  have c1 : fC h h1 := f1.wk (by decide) (by decide)
  have M1 := KM.fC c1
  refine ⟨_, rfl, s1, sx.fx f1 (by decide), m_ask s1 M1.2.2.2.1 Zv M1.2.2.2.2.1 f a b (fun z => absurd v z) (fun _ z => by omega) (fun _ _ h2 f2 d2 V2 => ⟨rfl, ?_⟩)⟩
  exact LI.fin (A := v_add A f a b) s1 (sx.fx f1 (by decide)) (z_up (z_ask Z n1 v) hi) (KC.ask f1 d1 V1) (R.dn d1).up (M1.ask f2 V2) ⟨f2.wk (by decide) (by decide), d2⟩
theorem l_offer {h : mm_H} {i L : Nat} {xs : Nat → Int32} {own cap : Nat → Nat} {cl : Nat} {T : zT} {X : zX} {dy : Nat} {ft : Int32} {F : zF} {A O : zV} {N : zN} {C : zC} {H : zH} (K : LC h i L xs own cap cl T X dy ft F A O N C H) (hi : i < 512) (f a b : Int32) : LO 2 74 [.ref 16, .int f, .int a, .int b] 3 131 [.ref 44, .int f, .int a, .int b] h i L xs := by
  obtain ⟨sh, sx, Z, KC, KM, R⟩ := id K
  have Zv := Z.2.2.1
  refine c_offer sh KC.2.2.2.2.1 Zv KC.2.2.2.2.2.2.1 f a b (fun n1 => ⟨_, rfl, sh, sx, m_offer sh KM.2.2.2.1 Zv KM.2.2.2.2.2.1 f a b (fun _ => ⟨rfl, K.up hi⟩) (fun z => absurd z n1) (fun z => absurd z n1)⟩) (fun v n1 => ⟨_, rfl, sh, sx, m_offer sh KM.2.2.2.1 Zv KM.2.2.2.2.2.1 f a b (fun z => absurd v z) (fun _ _ => ⟨rfl, K.up hi⟩) (fun _ z => by omega)⟩) (fun v n1 h1 f1 d1 V1 => ?_)
  have s1 := f1.sh sh (by decide)
  have c1 : fC h h1 := f1.wk (by decide) (by decide)
  have M1 := KM.fC c1
  refine ⟨_, rfl, s1, sx.fx f1 (by decide), m_offer s1 M1.2.2.2.1 Zv M1.2.2.2.2.2.1 f a b (fun z => absurd v z) (fun _ z => by omega) (fun _ _ h2 f2 d2 V2 => ⟨rfl, ?_⟩)⟩
  exact LI.fin (O := v_add O f a b) s1 (sx.fx f1 (by decide)) (z_up (z_off Z n1 v) hi) (KC.off f1 d1 V1) (R.dn d1).up (M1.off f2 V2) ⟨f2.wk (by decide) (by decide), d2⟩
theorem l_bar {h : mm_H} {i L : Nat} {xs : Nat → Int32} {own cap : Nat → Nat} {cl : Nat} {T : zT} {X : zX} {dy : Nat} {ft : Int32} {F : zF} {A O : zV} {N : zN} {C : zC} {H : zH} (K : LC h i L xs own cap cl T X dy ft F A O N C H) (hi : i < 512) (f g on : Int32) (hon : on = 0 ∨ on = 1) : LO 2 71 [.ref 16, .int f, .int g, .int on] 2 124 [.ref 44, .int f, .int g, .int on] h i L xs := by
  obtain ⟨sh, sx, Z, KC, KM, R⟩ := id K
  refine c_bar sh KC Z f g on (fun h1 K1 c1 r1 => ?_)
  have x1 := sx.fx c1 (by decide)
  exact ⟨_, rfl, c1.sh sh, x1, m_bar (c1.sh sh) (KM.fC c1) Z f g on hon (fun h2 M2 f2 => ⟨rfl, LI.fin (c1.sh sh) x1 (z_up (z_bar Z f g on) hi) K1 (r1.rI R) M2 f2⟩)⟩
theorem l_join {h : mm_H} {i L : Nat} {xs : Nat → Int32} {own cap : Nat → Nat} {cl : Nat} {T : zT} {X : zX} {dy : Nat} {ft : Int32} {F : zF} {A O : zV} {N : zN} {C : zC} {H : zH} (K : LC h i L xs own cap cl T X dy ft F A O N C H) (hi : i < 512) : LO 23 69 [.ref 16] 2 122 [.ref 44] h i L xs := by
  obtain ⟨sh, sx, Z, KC, KM, R⟩ := id K
  by_cases hc : F.1 < 12
  · refine c_join1 sh KC Z hc (fun h1 c' K1 c1 g1 g2 g3 => ?_)
    have x1 := sx.fx c1 (by decide)
    refine ⟨_, rfl, c1.sh sh, x1, m_join1 (c1.sh sh) (KM.fC c1) Z hc (fun h2 M2 f2 => ⟨rfl, LI.fin (c1.sh sh) x1 (z_up' (z_join Z KC.2.1.1 hc KC.2.2.1.1 (by omega) g1)) K1 ?_ M2 f2⟩)⟩
    have e0 := (Z.2.2.2.2.1 F.1 (Nat.le_refl _) hc).2.2.2.2
    have e := sm_up cap (v := c') hc
    obtain ⟨R1, R2⟩ := R
    exact ⟨by omega, by omega⟩
  · exact c_join0 sh KC Z hc ⟨_, rfl, sh, sx, m_join0 sh KM Z hc ⟨rfl, K.up hi⟩⟩
theorem l_leave {h : mm_H} {i L : Nat} {xs : Nat → Int32} {own cap : Nat → Nat} {cl : Nat} {T : zT} {X : zX} {dy : Nat} {ft : Int32} {F : zF} {A O : zV} {N : zN} {C : zC} {H : zH} (K : LC h i L xs own cap cl T X dy ft F A O N C H) (hi : i < 512) (f : Int32) : LO 2 70 [.ref 16, .int f] 2 123 [.ref 44, .int f] h i L xs := by
  obtain ⟨sh, sx, Z, KC, KM, R⟩ := id K
  have hF := Z.1
  refine c_leave sh KC Z f (fun n0 => ⟨_, rfl, sh, sx, m_leave sh KM Z f (fun _ => ⟨rfl, K.up hi⟩) (fun j e1 e2 e3 _ => absurd ⟨j, e1, e2, e3⟩ n0) (fun j e1 e2 e3 _ => absurd ⟨j, e1, e2, e3⟩ n0)⟩) (fun j e1 e2 e3 n1 => ⟨_, rfl, sh, sx, m_leave sh KM Z f (fun z => absurd ⟨j, e1, e2, e3⟩ z) (fun _ _ _ _ _ => ⟨rfl, K.up hi⟩) (fun j' e1' e2' e3' n1' => by
      have e := nI_inj (by omega) (by omega) (e1.symm.trans e1')
      subst e
      exact absurd n1' n1)⟩) (fun j e1 e2 e3 n1 h1 K1 c1 r1 => ?_)
  have x1 := sx.fx c1 (by decide)
  refine ⟨_, rfl, c1.sh sh, x1, m_leave (c1.sh sh) (KM.fC c1) Z f (fun z => absurd ⟨j, e1, e2, e3⟩ z) (fun j' e1' e2' e3' n1' => ?_) (fun j' e1' e2' e3' n1' h2 M2 f2 => ?_)⟩
  · have e := nI_inj (by omega) (by omega) (e1.symm.trans e1')
    subst e
    exact absurd n1 n1'
  · have e := nI_inj (by omega) (by omega) (e1.symm.trans e1')
    subst e
    exact ⟨rfl, LI.fin (c1.sh sh) x1 (z_up (z_leave Z e2 n1) hi) K1 (r1.rI R) M2 f2⟩
theorem l_go {h : mm_H} {i L : Nat} {xs : Nat → Int32} {own cap : Nat → Nat} {cl : Nat} {T : zT} {X : zX} {dy : Nat} {ft : Int32} {F : zF} {A O : zV} {N : zN} {C : zC} {H : zH} (K : LC h i L xs own cap cl T X dy ft F A O N C H) (hi : i < 512) (n : Int32) : LO 3 68 [.ref 16, .int n] 3 120 [.ref 44, .int n] h i L xs := by
  obtain ⟨sh, sx, Z, KC, KM, R⟩ := id K
  have rg : ∀ j, n = nI j → 1 ≤ j → j ≤ 100 → 1 ≤ n ∧ n ≤ 100 := fun j e h1 h2 => by
    subst e
    exact ⟨(i_le (a := 1) (by decide) (by omega)).mpr h1, (i_le (b := 100) (by omega) (by decide)).mpr h2⟩
  refine c_go sh KC Z n (fun n0 => ⟨_, rfl, sh, sx, m_go sh KM Z n (fun _ => ⟨rfl, K.up hi⟩) (fun j e1 e2 e3 _ => absurd (rg j e1 e2 e3) n0) (fun j e1 e2 e3 _ => absurd (rg j e1 e2 e3) n0)⟩) (fun j e1 e2 e3 n1 => ⟨_, rfl, sh, sx, m_go sh KM Z n (fun z => absurd (rg j e1 e2 e3) z) (fun _ _ _ _ _ => ⟨rfl, K.up hi⟩) (fun j' e1' e2' e3' n1' => by
      have e := nI_inj (by omega) (by omega) (e1.symm.trans e1')
      subst e
      exact absurd n1' n1)⟩) (fun j e1 e2 e3 n1 h1 K1 c1 r1 => ?_)
  have x1 := sx.fx c1 (by decide)
  refine ⟨_, rfl, c1.sh sh, x1, m_go (c1.sh sh) (KM.fC c1) Z n (fun z => absurd (rg j e1 e2 e3) z) (fun j' e1' e2' e3' n1' => ?_) (fun j' e1' e2' e3' n1' h2 cl' M2 f2 => ?_)⟩
  · have e := nI_inj (by omega) (by omega) (e1.symm.trans e1')
    subst e
    exact absurd n1 n1'
  · have e := nI_inj (by omega) (by omega) (e1.symm.trans e1')
    subst e
    exact ⟨rfl, LI.fin (c1.sh sh) x1 (z_up (z_go (s := (dy, N, C)) Z j) hi) K1 (r1.rI R) M2 f2⟩
theorem l_evening {h : mm_H} {i L : Nat} {xs : Nat → Int32} {own cap : Nat → Nat} {cl : Nat} {T : zT} {X : zX} {dy : Nat} {ft : Int32} {F : zF} {A O : zV} {N : zN} {C : zC} {H : zH} (K : LC h i L xs own cap cl T X dy ft F A O N C H) (hi : i < 512) : LO 26 82 [.ref 16] 6 146 [.ref 44] h i L xs := by
  obtain ⟨sh, sx, Z, KC, KM, R⟩ := id K
  refine c_evening sh KC Z (by omega) (fun h1 own' cap' K1 c1 r1 Z1 => ?_)
  have x1 := sx.fx c1 (by decide)
  exact ⟨_, rfl, c1.sh sh, x1, m_evening (c1.sh sh) (KM.fC c1) Z (by omega) (fun h2 M2 f2 => ⟨rfl, LI.fin (c1.sh sh) x1 (z_up' Z1) K1 (r1.rI R) M2 f2⟩)⟩
theorem l_broken {h : mm_H} {i L : Nat} {xs : Nat → Int32} {own cap : Nat → Nat} {cl : Nat} {T : zT} {X : zX} {dy : Nat} {ft : Int32} {F : zF} {A O : zV} {N : zN} {C : zC} {H : zH} (K : LC h i L xs own cap cl T X dy ft F A O N C H) (hi : i < 512) (a : Int32) : LO 25 81 [.ref 16, .int a] 6 145 [.ref 44, .int a] h i L xs := by
  obtain ⟨sh, sx, Z, KC, KM, R⟩ := id K
  have hA := Z.2.1.1
  refine c_broken sh KC Z (by omega) a (fun n0 => ⟨_, rfl, sh, sx, m_broken sh KM Z a (fun _ => ⟨rfl, K.up hi⟩) (fun j e1 e2 => absurd ⟨j, e1, e2⟩ n0)⟩) (fun j e1 e2 h1 own' cap' K1 c1 r1 Z1 => ?_)
  have x1 := sx.fx c1 (by decide)
  refine ⟨_, rfl, c1.sh sh, x1, m_broken (c1.sh sh) (KM.fC c1) Z a (fun z => absurd ⟨j, e1, e2⟩ z) (fun j' e1' e2' h2 M2 f2 => ?_)⟩
  have e := nI_inj (by omega) (by omega) (e1.symm.trans e1')
  subst e
  exact ⟨rfl, LI.fin (c1.sh sh) x1 (z_up' Z1) K1 (r1.rI R) M2 f2⟩
theorem l_sheet {h : mm_H} {i L : Nat} {xs : Nat → Int32} {own cap : Nat → Nat} {cl : Nat} {T : zT} {X : zX} {dy : Nat} {ft : Int32} {F : zF} {A O : zV} {N : zN} {C : zC} {H : zH} (K : LC h i L xs own cap cl T X dy ft F A O N C H) (hi : i < 512) (k lane n : Int32) : LO 2 83 [.ref 16, .int k, .int lane, .int n] 2 148 [.ref 44, .int k, .int lane, .int n] h i L xs := by
  obtain ⟨sh, sx, Z, KC, KM, R⟩ := id K
  have sk : ∀ j l m, k = nI j → j < 4 → lane = nI l → l ≤ 1 → n = nI m → m ≤ 60 → zSk k lane n ∧ ¬ n < 0 := fun j l m e1 e2 e3 e4 e5 e6 => by
    subst e1 e3 e5
    exact ⟨⟨⟨⟨j, rfl, e2⟩, ⟨l, rfl, by omega⟩⟩, (i_le (b := 60) (by omega) (by decide)).mpr e6⟩, fun z => by
      have z := (fa_lt _ _).mp z
      rw [nI_toInt (by omega)] at z
      have e0 : (0 : Int32).toInt = 0 := rfl
      omega⟩
  refine c_sheet sh KC Z k lane n (fun n0 => ⟨_, rfl, sh, sx, m_sheet sh KM Z k lane n (fun _ => ⟨rfl, K.up hi⟩) (fun z => absurd z n0) (fun j l m e1 e2 e3 e4 e5 e6 => absurd (sk j l m e1 e2 e3 e4 e5 e6).1 n0)⟩) (fun z0 n0 => ⟨_, rfl, sh, sx, m_sheet sh KM Z k lane n (fun z => absurd z0 z) (fun _ _ => ⟨rfl, K.up hi⟩) (fun j l m e1 e2 e3 e4 e5 e6 => absurd n0 (sk j l m e1 e2 e3 e4 e5 e6).2)⟩) (fun j l m e1 e2 e3 e4 e5 e6 h1 K1 c1 g1 g2 => ?_)
  have x1 := sx.fx c1 (by decide)
  refine ⟨_, rfl, c1.sh sh, x1, m_sheet (c1.sh sh) (KM.fC c1) Z k lane n (fun z => absurd (sk j l m e1 e2 e3 e4 e5 e6).1 z) (fun _ z => absurd z (sk j l m e1 e2 e3 e4 e5 e6).2) (fun j' l' m' e1' e2' e3' e4' e5' e6' h2 M2 f2 => ?_)⟩
  have q1 := nI_inj (by omega) (by omega) (e1.symm.trans e1')
  have q2 := nI_inj (by omega) (by omega) (e3.symm.trans e3')
  have q3 := nI_inj (by omega) (by omega) (e5.symm.trans e5')
  subst q1 q2 q3
  refine ⟨rfl, LI.fin (c1.sh sh) x1 (z_up (z_sht Z e4 e6 _) hi) K1 ?_ M2 f2⟩
  obtain ⟨R1, R2⟩ := R
  exact ⟨by omega, by omega⟩
theorem l_lay {h : mm_H} {i L : Nat} {xs : Nat → Int32} {own cap : Nat → Nat} {cl : Nat} {T : zT} {X : zX} {dy : Nat} {ft : Int32} {F : zF} {A O : zV} {N : zN} {C : zC} {H : zH} (K : LC h i L xs own cap cl T X dy ft F A O N C H) (hi : i < 512) (k t v : Int32) : LO 2 84 [.ref 16, .int k, .int t, .int v] 2 149 [.ref 44, .int k, .int t, .int v] h i L xs := by
  obtain ⟨sh, sx, Z, KC, KM, R⟩ := id K
  have ZH := Z.2.2.2.2.2.2.2
  have eq : ∀ j j', k = nI j → j < 4 → k = nI j' → j' < 4 → j = j' := fun j j' e1 e2 e3 e4 => nI_inj (by omega) (by omega) (e1.symm.trans e3)
  by_cases hk : ∃ j, k = nI j ∧ j < 4
  · obtain ⟨j, e1, e2⟩ := hk
    have fj : ∀ j', k = nI j' → j' < 4 → j' = j := fun j' e3 e4 => eq j' j e3 e4 e1 e2
    cases hH : H j with
    | none => exact c_lay sh KC Z k t v (fun z => absurd ⟨j, e1, e2⟩ z) (fun _ _ _ _ => ⟨_, rfl, sh, sx, m_lay sh KM Z k t v (fun z => absurd ⟨j, e1, e2⟩ z) (fun _ _ _ _ => ⟨rfl, K.up hi⟩) (fun j' l n c e3 e4 e5 _ => by rw [fj j' e3 e4, hH] at e5; cases e5) (fun j' l n c t' e3 e4 e5 _ _ => by rw [fj j' e3 e4, hH] at e5; cases e5)⟩) (fun j' l n c e3 e4 e5 _ => by rw [fj j' e3 e4, hH] at e5; cases e5) (fun j' l n c t' e3 e4 e5 _ _ => by rw [fj j' e3 e4, hH] at e5; cases e5)
    | some w =>
      obtain ⟨l, n, c⟩ := w
      have zH := ZH j e2 l n c hH
      by_cases ht : isA n t
      · obtain ⟨t0, e6, e7⟩ := ht
        refine c_lay sh KC Z k t v (fun z => absurd ⟨j, e1, e2⟩ z) (fun j' e3 e4 e5 => by rw [fj j' e3 e4, hH] at e5; cases e5) (fun j' l' n' c' e3 e4 e5 z => by
          rw [fj j' e3 e4, hH] at e5
          cases e5
          exact absurd ⟨t0, e6, e7⟩ z) (fun j' l' n' c' t' e3 e4 e5 e8 e9 h1 K1 c1 r1 => ?_)
        rw [fj j' e3 e4, hH] at e5
        cases e5
        have q := fj j' e3 e4
        subst q
        have qt := nI_inj (by omega) (by omega) (e6.symm.trans e8)
        subst qt
        have x1 := sx.fx c1 (by decide)
        refine ⟨_, rfl, c1.sh sh, x1, m_lay (c1.sh sh) (KM.fC c1) Z k t v (fun z => absurd ⟨_, e1, e2⟩ z) (fun j' e3 e4 e5 => by rw [fj j' e3 e4, hH] at e5; cases e5) (fun j' l' n' c' e3 e4 e5 z => by
          rw [fj j' e3 e4, hH] at e5
          cases e5
          exact absurd ⟨_, e6, e7⟩ z) (fun j' l' n' c' t' e3 e4 e5 e8 e9 h2 M2 f2 => ?_)⟩
        rw [fj j' e3 e4, hH] at e5
        cases e5
        have q := fj j' e3 e4
        subst q
        have qt := nI_inj (by omega) (by omega) (e6.symm.trans e8)
        subst qt
        exact ⟨rfl, LI.fin (c1.sh sh) x1 (z_up (z_sht Z zH.1 zH.2 _) hi) K1 (r1.rI R) M2 f2⟩
      · exact c_lay sh KC Z k t v (fun z => absurd ⟨j, e1, e2⟩ z) (fun j' e3 e4 e5 => by rw [fj j' e3 e4, hH] at e5; cases e5) (fun _ _ _ _ _ _ _ _ => ⟨_, rfl, sh, sx, m_lay sh KM Z k t v (fun z => absurd ⟨j, e1, e2⟩ z) (fun j' e3 e4 e5 => by rw [fj j' e3 e4, hH] at e5; cases e5) (fun _ _ _ _ _ _ _ _ => ⟨rfl, K.up hi⟩) (fun j' l' n' c' t' e3 e4 e5 e8 e9 => by
          rw [fj j' e3 e4, hH] at e5
          cases e5
          exact absurd ⟨t', e8, e9⟩ ht)⟩) (fun j' l' n' c' t' e3 e4 e5 e8 e9 => by
          rw [fj j' e3 e4, hH] at e5
          cases e5
          exact absurd ⟨t', e8, e9⟩ ht)
  · exact c_lay sh KC Z k t v (fun _ => ⟨_, rfl, sh, sx, m_lay sh KM Z k t v (fun _ => ⟨rfl, K.up hi⟩) (fun j e1 e2 _ => absurd ⟨j, e1, e2⟩ hk) (fun j _ _ _ e1 e2 _ _ => absurd ⟨j, e1, e2⟩ hk) (fun j _ _ _ _ e1 e2 _ _ _ => absurd ⟨j, e1, e2⟩ hk)⟩) (fun j e1 e2 _ => absurd ⟨j, e1, e2⟩ hk) (fun j _ _ _ e1 e2 _ _ => absurd ⟨j, e1, e2⟩ hk) (fun j _ _ _ _ e1 e2 _ _ _ => absurd ⟨j, e1, e2⟩ hk)
theorem z_lst {P : Nat → Prop} (h : ∃ i, P i) : ∃ i, P i ∧ ∀ j, j < i → ¬ P j := by
  obtain ⟨n, hn⟩ := h
  induction n using Nat.strongRecOn with
  | _ n ih =>
    by_cases q : ∃ j, j < n ∧ P j
    · obtain ⟨j, h1, h2⟩ := q
      exact ih j h1 h2
    · exact ⟨n, hn, fun j h1 h2 => q ⟨j, h1, h2⟩⟩
theorem z_or {W m sz : Nat} {cap : Nat → Nat} {F : zF} {A O : zV} {N : zN} {H : zH} {cc : Nat → Int32} {c : Int32} (Z : zP W cap F A O N H) : zP W cap F A (zOr F O cc c sz m).2 N H := by
  by_cases q : ∀ j, j < m → zOk F O cc c sz j
  · rw [zOr_s q]
    exact z_os (m := m) (sz := sz) Z m q
  · have : ∃ i, i < m ∧ ¬ zOk F O cc c sz i := Classical.byContradiction (fun z => q (fun j hj => Classical.byContradiction (fun w => z ⟨j, hj, w⟩)))
    obtain ⟨i, ⟨h1, h2⟩, h3⟩ := z_lst this
    rw [zOr_f h1 (fun j hj => Classical.byContradiction (fun w => h3 j hj ⟨by omega, w⟩)) h2]
    exact Z
theorem l_offers {h : mm_H} {i L : Nat} {xs : Nat → Int32} {own cap : Nat → Nat} {cl : Nat} {T : zT} {X : zX} {dy : Nat} {ft : Int32} {F : zF} {A O : zV} {N : zN} {C : zC} {H : zH} (K : LC h i L xs own cap cl T X dy ft F A O N C H) (hi : i < 512) (k lane c n : Int32) : LO 5 85 [.ref 16, .int k, .int lane, .int c, .int n] 4 150 [.ref 44, .int k, .int lane, .int c, .int n] h i L xs := by
  obtain ⟨sh, sx, Z, KC, KM, R⟩ := id K
  have ZH := Z.2.2.2.2.2.2.2
  have og : ∀ j l sz cc m, k = nI j → j < 4 → H j = some (l, sz, cc) → lane = nI l → n = nI m → m ≤ 10 → zOg k lane n := fun j l sz cc m e1 e2 e3 e4 e5 e6 => by
    have := ZH j e2 l sz cc e3
    subst e1 e4 e5
    exact ⟨⟨⟨j, rfl, e2⟩, ⟨l, rfl, by omega⟩⟩, (i_le (a := 0) (by decide) (by omega)).mpr (Nat.zero_le _), (i_le (b := 10) (by omega) (by decide)).mpr e6⟩
  by_cases hk : zOg k lane n
  · obtain ⟨j, e1, e2⟩ := hk.1.1
    have fj : ∀ j', k = nI j' → j' < 4 → j' = j := fun j' e3 e4 => nI_inj (by omega) (by omega) (e3.symm.trans e1)
    cases hH : H j with
    | none => exact c_offers sh KC Z k lane c n (fun z => absurd hk z) (fun _ _ _ _ _ => ⟨_, rfl, sh, sx, m_offers sh KM Z k lane c n (fun z => absurd hk z) (fun _ _ _ _ _ => ⟨rfl, K.up hi⟩) (fun j' l n c e3 e4 _ e5 _ => by rw [fj j' e3 e4, hH] at e5; cases e5) (fun j' l n c t' e3 e4 e5 _ _ _ => by rw [fj j' e3 e4, hH] at e5; cases e5)⟩) (fun j' l n c e3 e4 _ e5 _ => by rw [fj j' e3 e4, hH] at e5; cases e5) (fun j' l n c t' e3 e4 e5 _ _ _ => by rw [fj j' e3 e4, hH] at e5; cases e5)
    | some w =>
      obtain ⟨l, sz, cc⟩ := w
      by_cases hl : lane = nI l
      · refine c_offers sh KC Z k lane c n (fun z => absurd hk z) (fun j' e3 e4 _ e5 => by rw [fj j' e3 e4, hH] at e5; cases e5) (fun j' l' n' c' e3 e4 _ e5 z => by
          rw [fj j' e3 e4, hH] at e5
          cases e5
          exact absurd hl z) (fun j' l' n' c' m e3 e4 e5 e6 e7 e8 h1 K1 c1 r1 => ?_)
        rw [fj j' e3 e4, hH] at e5
        cases e5
        have x1 := sx.fx c1 (by decide)
        refine ⟨_, rfl, c1.sh sh, x1, m_offers (c1.sh sh) (KM.fC c1) Z k lane c n (fun z => absurd hk z) (fun j' e3 e4 _ e5 => by rw [fj j' e3 e4, hH] at e5; cases e5) (fun j' l' n' c' e3 e4 _ e5 z => by
          rw [fj j' e3 e4, hH] at e5
          cases e5
          exact absurd hl z) (fun j' l' n' c' m' e3 e4 e5 e6 e7' e8' h2 M2 f2 => ?_)⟩
        rw [fj j' e3 e4, hH] at e5
        cases e5
        have qt := nI_inj (by omega) (by omega) (e7.symm.trans e7')
        subst qt
        exact ⟨rfl, LI.fin (c1.sh sh) x1 (z_up (z_or Z) hi) K1 (r1.rI R) M2 f2⟩
      · exact c_offers sh KC Z k lane c n (fun z => absurd hk z) (fun j' e3 e4 _ e5 => by rw [fj j' e3 e4, hH] at e5; cases e5) (fun _ _ _ _ _ _ _ _ _ => ⟨_, rfl, sh, sx, m_offers sh KM Z k lane c n (fun z => absurd hk z) (fun j' e3 e4 _ e5 => by rw [fj j' e3 e4, hH] at e5; cases e5) (fun _ _ _ _ _ _ _ _ _ => ⟨rfl, K.up hi⟩) (fun j' l' n' c' t' e3 e4 e5 e6 _ _ => by
          rw [fj j' e3 e4, hH] at e5
          cases e5
          exact absurd e6 hl)⟩) (fun j' l' n' c' t' e3 e4 e5 e6 _ _ => by
          rw [fj j' e3 e4, hH] at e5
          cases e5
          exact absurd e6 hl)
  · exact c_offers sh KC Z k lane c n (fun _ => ⟨_, rfl, sh, sx, m_offers sh KM Z k lane c n (fun _ => ⟨rfl, K.up hi⟩) (fun j e1 e2 z _ => absurd z hk) (fun j _ _ _ e1 e2 z _ _ => absurd z hk) (fun j l sz cc m e1 e2 e3 e4 e5 e6 => absurd (og j l sz cc m e1 e2 e3 e4 e5 e6) hk)⟩) (fun j e1 e2 z _ => absurd z hk) (fun j _ _ _ e1 e2 z _ _ => absurd z hk) (fun j l sz cc m e1 e2 e3 e4 e5 e6 => absurd (og j l sz cc m e1 e2 e3 e4 e5 e6) hk)
theorem l_vote {h : mm_H} {i L : Nat} {xs : Nat → Int32} {own cap : Nat → Nat} {cl : Nat} {T : zT} {X : zX} {dy : Nat} {ft : Int32} {F : zF} {A O : zV} {N : zN} {C : zC} {H : zH} (K : LC h i L xs own cap cl T X dy ft F A O N C H) (hi : i < 512) (dd : Int32) : LO 26 64 [.ref 16, .int dd] 5 112 [.ref 44, .int dd] h i L xs := by
  obtain ⟨sh, sx, Z, KC, KM, R⟩ := id K
  have hdy := KC.2.2.1.1
  have vk : ∀ j, dd = nI j → dy ≤ j → j ≤ 2000 → zVk dy dd := fun j e1 e2 e3 => by
    subst e1
    exact ⟨(i_le (by omega) (by omega)).mpr e2, (i_le (b := 2000) (by omega) (by decide)).mpr e3⟩
  refine c_vote sh KC Z dd (fun n0 => ⟨_, rfl, sh, sx, m_vote sh KM Z dd (fun _ => ⟨rfl, K.up hi⟩) (fun z => absurd z n0) (fun z => absurd z n0) (fun j e1 e2 e3 => absurd (vk j e1 e2 e3) n0)⟩) (fun z0 z6 => ⟨_, rfl, sh, sx, m_vote sh KM Z dd (fun z => absurd z0 z) (fun _ _ => ⟨rfl, K.up hi⟩) (fun _ z => by omega) (fun _ _ _ _ z => by omega)⟩) (fun z0 z6 zf h1 K1 c1 r1 => ?_) (fun j e1 e2 e3 z6 zf h1 K1 c1 r1 => ?_)
  · have x1 := sx.fx c1 (by decide)
    exact ⟨_, rfl, c1.sh sh, x1, m_vote (c1.sh sh) (KM.fC c1) Z dd (fun z => absurd z0 z) (fun _ z => by omega) (fun _ _ _ h2 M2 f2 => ⟨rfl, LI.fin (c1.sh sh) x1 (z_up Z hi) K1 (r1.rI R) M2 f2⟩) (fun _ _ _ _ _ z => absurd z zf)⟩
  · have x1 := sx.fx c1 (by decide)
    refine ⟨_, rfl, c1.sh sh, x1, m_vote (c1.sh sh) (KM.fC c1) Z dd (fun z => absurd (vk j e1 e2 e3) z) (fun _ z => by omega) (fun _ _ z => absurd zf z) (fun j' e1' e2' e3' _ _ h2 cl' M2 f2 => ?_)⟩
    have e := nI_inj (by omega) (by omega) (e1.symm.trans e1')
    subst e
    exact ⟨rfl, LI.fin (c1.sh sh) x1 (z_up (z_exp Z _) hi) K1 (r1.rI R) M2 f2⟩
