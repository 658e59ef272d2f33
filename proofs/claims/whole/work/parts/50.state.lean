/-! THE STATE of both sides, in words that they share -/
abbrev zT : Type := Nat × (Nat → Nat)
abbrev zX : Type := Nat × (Nat → Nat) × (Nat → Nat → Option Nat)
abbrev zF : Type := Nat × (Nat → Bool)
abbrev zV : Type := Nat × (Nat → Nat) × (Nat → Nat) × (Nat → Nat)
abbrev zN : Type := (Nat → Nat → Nat) × (Nat → Nat) × (Nat → Int32) × (Nat → Int32) × (Nat → Int32)
abbrev zC : Type := Int32 × Int32 × Int32
abbrev zH : Type := Nat → Option (Nat × Nat × (Nat → Int32))
def cFo (h : mm_H) (own : Nat → Nat) (c : Nat) (N : zN) (f q p d n : Nat) : Prop := h_ar h 30 f = some q ∧ (own q = f ∧ own p = f ∧ own d = f ∧ own n = f) ∧ cF1 h q p d n c (N.1 f) (N.2.1 f) (N.2.2.1 f) (N.2.2.2.1 f) (N.2.2.2.2 f)
def cFs (h : mm_H) (own cap : Nat → Nat) (F : zF) (N : zN) : Prop := ∀ f, f < F.1 → F.2 f = true → ∃ q p d n, cFo h own (cap f) N f q p d n
def cCt (h : mm_H) (C : zC) : Prop := h_oi h 523 16 = C.1 ∧ h_oi h 524 16 = C.2.1 ∧ h_oi h 525 16 = C.2.2
def cRo (h : mm_H) (own : Nat → Nat) (k l n : Nat) (c : Nat → Int32) (r a : Nat) : Prop := h_ar h 43 k = some r ∧ (own r = 12 + k ∧ own a = 12 + k) ∧ (h_kd h r = 6 ∧ 70 ≤ r ∧ r < h_n h) ∧ h_oi h 320 r = nI l ∧ h_or h 321 r = some a ∧ (h_kd h a = 20 ∧ 70 ≤ a ∧ a < h_n h) ∧ h_al h a = n ∧ ∀ i, i < n → h_ai h a i = c i
def cSh (h : mm_H) (own : Nat → Nat) (H : zH) : Prop := ∀ k, k < 4 → (H k = none → h_ar h 43 k = none) ∧ ∀ l n c, H k = some (l, n, c) → ∃ r a, cRo h own k l n c r a
def CS (h : mm_H) (own cap : Nat → Nat) (T : zT) (X : zX) (dy : Nat) (ft : Int32) (F : zF) (A O : zV) (N : zN) (C : zC) (H : zH) : Prop := cT h T.1 T.2 ∧ cX h X.1 X.2.1 X.2.2 ∧ cD h dy ∧ cE h ft ∧ cP h F.1 F.2 ∧ cV h 31 A.1 A.2.1 A.2.2.1 A.2.2.2 ∧ cV h 35 O.1 O.2.1 O.2.2.1 O.2.2.2 ∧ cFs h own cap F N ∧ cCt h C ∧ cSh h own H
def mSt (h : mm_H) (N : zN) : Prop := (∀ f, f < 12 → h_ai h 51 f = N.2.2.2.1 f) ∧ (∀ f, f < 12 → h_ai h 52 f = N.2.2.2.2 f) ∧ ∀ f, f < 12 → ∀ g, g < 12 → h_ai h 54 (12 * f + g) = if bt (N.2.2.1 f) g = true then 1 else 0
def mCt (h : mm_H) (C : zC) : Prop := h_oi h 597 44 = C.1 ∧ h_oi h 598 44 = C.2.1 ∧ h_oi h 599 44 = C.2.2
def mSh (h : mm_H) (H : zH) : Prop := ∀ k, k < 4 → (H k = none → h_ai h 67 k = -4) ∧ ∀ l n c, H k = some (l, n, c) → h_ai h 67 k = nI l ∧ h_ai h 68 k = nI n ∧ ∀ i, i < n → h_ai h 69 (60 * k + i) = c i
def mLf (h : mm_H) (F : zF) : Prop := ∀ f, F.1 ≤ f → f < 12 → h_ai h 49 f = 0
def MS (h : mm_H) (cl : Nat) (T : zT) (X : zX) (dy : Nat) (ft : Int32) (F : zF) (A O : zV) (N : zN) (C : zC) (H : zH) : Prop := mT h T.1 T.2 ∧ mX h X.1 X.2.1 X.2.2 ∧ mE h ft ∧ mP h F.1 F.2 ∧ mV h 600 55 A.1 A.2.1 A.2.2.1 A.2.2.2 ∧ mV h 604 58 O.1 O.2.1 O.2.2.1 O.2.2.2 ∧ mB h dy cl N.1 ∧ mOw h N.2.1 ∧ mSt h N ∧ mCt h C ∧ mSh h H ∧ mLf h F
/-- what holds of the words alone -/
def zP (W : Nat) (cap : Nat → Nat) (F : zF) (A O : zV) (N : zN) (H : zH) : Prop := F.1 ≤ 12 ∧ vC F.1 F.2 A.1 A.2.1 A.2.2.1 A.2.2.2 ∧ vC F.1 F.2 O.1 O.2.1 O.2.2.1 O.2.2.2 ∧ (∀ f, f < 12 → ¬ (f < F.1 ∧ F.2 f = true) → (∀ d, N.1 f d = 0) ∧ N.2.1 f = 0) ∧ (∀ f, F.1 ≤ f → f < 12 → F.2 f = false ∧ N.2.2.1 f = 0 ∧ N.2.2.2.1 f = 0 ∧ N.2.2.2.2 f = 0 ∧ cap f = 0) ∧ (∀ f, f < 12 → N.2.1 f = 0 ∨ fb_sm (N.1 f) 2001 = 0) ∧ (fb_sm (fun f => fb_sm (N.1 f) 2001) 12 ≤ W ∧ W ≤ 1000000 ∧ ∀ f, f < 12 → N.2.1 f ≤ W ∧ cap f ≤ 4096) ∧ ∀ k, k < 4 → ∀ l n c, H k = some (l, n, c) → l ≤ 1 ∧ n ≤ 60
/-- the room spent -/
def rI (h : mm_H) (i : Nat) (cap : Nat → Nat) : Prop := h_s h ≤ 40000 + 70 * i + 4 * fb_sm cap 12 ∧ h_n h ≤ 70 + 4 * i + fb_sm cap 12
def gC : List (Nat × Nat) := [(385, 17), (257, 19), (258, 19), (259, 19), (260, 19), (261, 19), (262, 19), (66, 21), (451, 31), (451, 35), (131, 39), (132, 39), (133, 39), (134, 39), (135, 39), (520, 16), (521, 16), (522, 16), (523, 16), (524, 16), (525, 16)]
def aC : List Nat := [18, 20, 22, 24, 25, 26, 27, 28, 29, 30, 32, 33, 34, 36, 37, 38, 40, 41, 42, 43]
def gM : List (Nat × Nat) := [(577, 44), (578, 44), (579, 44), (580, 44), (581, 44), (582, 44), (583, 44), (585, 44), (588, 44), (589, 44), (590, 44), (597, 44), (598, 44), (599, 44), (600, 44), (604, 44)]
def aM : List Nat := [45, 46, 47, 48, 49, 50, 51, 52, 53, 54, 55, 56, 57, 58, 59, 60, 61, 62, 63, 64, 65, 66, 67, 68, 69]
def fC (h h' : mm_H) : Prop := fx h h' gC aC
def fM (h h' : mm_H) : Prop := fx h h' gM aM ∧ dn h h'
theorem fx.wk {h h' : mm_H} {gs gs' : List (Nat × Nat)} {as as' : List Nat} (f : fx h h' gs as) (hg : ∀ q ∈ gs, q ∈ gs') (ha : ∀ q ∈ as, q ∈ as') : fx h h' gs' as' := f.tr (fx.rf h' [] []) hg (fun _ z => absurd z List.not_mem_nil) ha (fun _ z => absurd z List.not_mem_nil)
theorem fC.rf (h : mm_H) : fC h h := fx.rf _ _ _
theorem fM.rf (h : mm_H) : fM h h := ⟨fx.rf _ _ _, dn.rf _⟩
theorem fC.tr {h h1 h2 : mm_H} (a : fC h h1) (b : fC h1 h2) : fC h h2 := fx.tr a b (fun _ z => z) (fun _ z => z) (fun _ z => z) (fun _ z => z)
theorem fM.tr {h h1 h2 : mm_H} (a : fM h h1) (b : fM h1 h2) : fM h h2 := ⟨fx.tr a.1 b.1 (fun _ z => z) (fun _ z => z) (fun _ z => z) (fun _ z => z), a.2.tr b.2⟩
theorem fC.sh {h h' : mm_H} (f : fC h h') (s : s_h h) : s_h h' := fx.sh f s (by decide)
theorem fM.sh {h h' : mm_H} (f : fM h h') (s : s_h h) : s_h h' := fx.sh f.1 s (by decide)
section ST
variable {h h' : mm_H} {gs : List (Nat × Nat)} {as : List Nat} {own cap : Nat → Nat} {T : zT} {X : zX} {dy cl : Nat} {ft : Int32} {F : zF} {A O : zV} {N : zN} {C : zC} {H : zH} {cn : Nat} {pr : Nat → Bool}
theorem cP.dn (P : cP h cn pr) (f : fx h h' gs as) (d : dn h h') (n1 : (520, 16) ∉ gs) (n2 : 30 ∉ as) : cP h' cn pr := by
  obtain ⟨p1, p2, p3⟩ := P
  refine ⟨p1, (f.oi _ _ (by decide) n1).trans p2, fun g hg => ?_⟩
  rw [f.ar 30 (by decide) n2]
  obtain ⟨q1, q2⟩ := p3 g hg
  refine ⟨q1, fun q e => ?_⟩
  obtain ⟨z1, z2, z3, z4⟩ := q2 q e
  exact ⟨z1, z2, by rw [d.1]; exact z3, ((d.2.2.1 q z2).1).trans z4⟩
theorem mP.fx (P : mP h cn pr) (f : fx h h' gs as) (n1 : (590, 44) ∉ gs) (n2 : 49 ∉ as) : mP h' cn pr := by
  obtain ⟨p1, p2, p3⟩ := P
  refine ⟨p1, (f.oi _ _ (by decide) n1).trans p2, ?_⟩
  rw [f.ai 49 (by decide) n2]
  exact p3
theorem cV.fx {u n : Nat} {vf va vb : Nat → Nat} (V : cV h u n vf va vb) (f : fx h h' gs as) (hu : u < 60) (n1 : (451, u) ∉ gs) (n2 : u + 1 ∉ as) (n3 : u + 2 ∉ as) (n4 : u + 3 ∉ as) : cV h' u n vf va vb := by
  obtain ⟨v1, v2⟩ := V
  refine ⟨(f.oi _ _ (by omega) n1).trans v1, ?_⟩
  rw [f.ai (u + 1) (by omega) n2, f.ai (u + 2) (by omega) n3, f.ai (u + 3) (by omega) n4]
  exact v2
theorem mV.fx {g u n : Nat} {vf va vb : Nat → Nat} (V : mV h g u n vf va vb) (f : fx h h' gs as) (hu : u < 60) (n1 : (g, 44) ∉ gs) (n2 : u ∉ as) (n3 : u + 1 ∉ as) (n4 : u + 2 ∉ as) : mV h' g u n vf va vb := by
  obtain ⟨v1, v2⟩ := V
  refine ⟨(f.oi _ _ (by decide) n1).trans v1, ?_⟩
  rw [f.ai u (by omega) n2, f.ai (u + 1) (by omega) n3, f.ai (u + 2) (by omega) n4]
  exact v2
theorem cCt.fx (K : cCt h C) (f : fx h h' gs as) (n1 : (523, 16) ∉ gs) (n2 : (524, 16) ∉ gs) (n3 : (525, 16) ∉ gs) : cCt h' C := ⟨(f.oi _ _ (by decide) n1).trans K.1, (f.oi _ _ (by decide) n2).trans K.2.1, (f.oi _ _ (by decide) n3).trans K.2.2⟩
theorem mCt.fx (K : mCt h C) (f : fx h h' gs as) (n1 : (597, 44) ∉ gs) (n2 : (598, 44) ∉ gs) (n3 : (599, 44) ∉ gs) : mCt h' C := ⟨(f.oi _ _ (by decide) n1).trans K.1, (f.oi _ _ (by decide) n2).trans K.2.1, (f.oi _ _ (by decide) n3).trans K.2.2⟩
theorem mSt.fx (K : mSt h N) (f : fx h h' gs as) (n1 : 51 ∉ as) (n2 : 52 ∉ as) (n3 : 54 ∉ as) : mSt h' N := by
  unfold mSt
  rw [f.ai 51 (by decide) n1, f.ai 52 (by decide) n2, f.ai 54 (by decide) n3]
  exact K
theorem mLf.fx (K : mLf h F) (f : fx h h' gs as) (n1 : 49 ∉ as) : mLf h' F := by
  unfold mLf
  rw [f.ai 49 (by decide) n1]
  exact K
theorem mSh.fx (K : mSh h H) (f : fx h h' gs as) (n1 : 67 ∉ as) (n2 : 68 ∉ as) (n3 : 69 ∉ as) : mSh h' H := by
  unfold mSh
  rw [f.ai 67 (by decide) n1, f.ai 68 (by decide) n2, f.ai 69 (by decide) n3]
  exact K
theorem cFo.frm {P : Nat → Prop} {c g q p d n : Nat} (K : cFo h own c N g q p d n) (f : ex h h' P) (ha : h_ar h' 30 g = h_ar h 30 g) (hP : ∀ a, own a = g → 70 ≤ a → a < h_n h → ¬ P a) : cFo h' own c N g q p d n := by
  obtain ⟨k1, ⟨k2, k3, k4, k5⟩, k6⟩ := K
  have kk := k6.2.2.2.k.2.2.2.1
  exact ⟨ha.trans k1, ⟨k2, k3, k4, k5⟩, k6.frm f (hP q k2 k6.1.2.1 k6.1.2.2) (hP p k3 kk.1 kk.2.2.2.1) (hP d k4 kk.2.1 kk.2.2.2.2.1) (hP n k5 kk.2.2.1 kk.2.2.2.2.2.1)⟩
theorem cRo.frm {P : Nat → Prop} {k l n : Nat} {c : Nat → Int32} {r a : Nat} (K : cRo h own k l n c r a) (f : ex h h' P) (ha : h_ar h' 43 k = h_ar h 43 k) (hP : ∀ a, own a = 12 + k → 70 ≤ a → a < h_n h → ¬ P a) : cRo h' own k l n c r a := by
  obtain ⟨k1, ⟨k2, k3⟩, ⟨k4, k5, k6⟩, k7, k8, ⟨k9, k10, k11⟩, k12, k13⟩ := K
  have g1 := f.2 r k6
  have g2 := g1.2 (hP r k2 k5 k6)
  have g3 := f.2 a k11
  have g4 := g3.2 (hP a k3 k10 k11)
  exact ⟨ha.trans k1, ⟨k2, k3⟩, ⟨g1.1.1.trans k4, k5, Nat.lt_of_lt_of_le k6 f.1⟩, (g2.2.2 320).2.trans k7, (g2.2.2 321).1.trans k8, ⟨g3.1.1.trans k9, k10, Nat.lt_of_lt_of_le k11 f.1⟩, g3.1.2.trans k12, by rw [g4.1]; exact k13⟩
theorem cFs.dn (K : cFs h own cap F N) (f : fx h h' gs as) (d : dn h h') (n2 : 30 ∉ as) : cFs h' own cap F N := fun g hg hp => by
  obtain ⟨q, p, dd, n, K⟩ := K g hg hp
  exact ⟨q, p, dd, n, K.frm (dn.ex d f) (by rw [f.ar 30 (by decide) n2]) (fun a _ ha _ z => by have z : a < 70 := z; omega)⟩
theorem cSh.dn (K : cSh h own H) (f : fx h h' gs as) (d : dn h h') (n2 : 43 ∉ as) : cSh h' own H := fun k hk => by
  obtain ⟨k1, k2⟩ := K k hk
  refine ⟨fun e => by rw [f.ar 43 (by decide) n2]; exact k1 e, fun l n c e => ?_⟩
  obtain ⟨r, a, K⟩ := k2 l n c e
  exact ⟨r, a, K.frm (dn.ex d f) (by rw [f.ar 43 (by decide) n2]) (fun a _ ha _ z => by have z : a < 70 := z; omega)⟩
theorem MS.fC (K : MS h cl T X dy ft F A O N C H) (f : fC h h') : MS h' cl T X dy ft F A O N C H := by
  have f : fx h h' gC aC := f
  obtain ⟨k1, k2, k3, k4, k5, k6, k7, k8, k9, k10, k11, k12⟩ := K
  exact ⟨k1.fx f (by decide) (by decide), k2.fx f (by decide) (by decide) (by decide), k3.fx f (by decide), k4.fx f (by decide) (by decide), k5.fx f (by decide) (by decide) (by decide) (by decide) (by decide), k6.fx f (by decide) (by decide) (by decide) (by decide) (by decide), k7.fx f (by decide) (by decide) (by decide), k8.fx f (by decide), k9.fx f (by decide) (by decide) (by decide), k10.fx f (by decide) (by decide) (by decide), k11.fx f (by decide) (by decide) (by decide), k12.fx f (by decide)⟩
theorem CS.fM (K : CS h own cap T X dy ft F A O N C H) (f : fM h h') : CS h' own cap T X dy ft F A O N C H := by
  obtain ⟨f, d⟩ := f
  obtain ⟨k1, k2, k3, k4, k5, k6, k7, k8, k9, k10⟩ := K
  exact ⟨k1.fx f (by decide) (by decide), k2.fx f (by decide) (by decide) (by decide), k3.fx f (by decide), k4.fx f (by decide), k5.dn f d (by decide) (by decide), k6.fx f (by decide) (by decide) (by decide) (by decide) (by decide), k7.fx f (by decide) (by decide) (by decide) (by decide) (by decide), k8.dn f d (by decide), k9.fx f (by decide) (by decide) (by decide), k10.dn f d (by decide)⟩
/-- the matcher's and the reader's cells are scratch -/
def gS : List (Nat × Nat) := [(257, 19), (258, 19), (259, 19), (260, 19), (261, 19), (262, 19), (131, 39), (132, 39), (133, 39), (134, 39), (135, 39)]
def aS : List Nat := [20, 40, 41, 42]
theorem CS.sc (K : CS h own cap T X dy ft F A O N C H) (f : fx h h' gS aS) (d : dn h h') : CS h' own cap T X dy ft F A O N C H := by
  obtain ⟨k1, k2, k3, k4, k5, k6, k7, k8, k9, k10⟩ := K
  exact ⟨k1.fx f (by decide) (by decide), k2.fx f (by decide) (by decide) (by decide), k3.fx f (by decide), k4.fx f (by decide), k5.dn f d (by decide) (by decide), k6.fx f (by decide) (by decide) (by decide) (by decide) (by decide), k7.fx f (by decide) (by decide) (by decide) (by decide) (by decide), k8.dn f d (by decide), k9.fx f (by decide) (by decide) (by decide), k10.dn f d (by decide)⟩
/-- the reference's: its reading and its matching -/
def gSm : List (Nat × Nat) := [(578, 44), (579, 44), (580, 44), (581, 44), (583, 44)]
def aSm : List Nat := [46, 61, 62, 63, 64, 65, 66]
theorem MS.sc (K : MS h cl T X dy ft F A O N C H) (f : fx h h' gSm aSm) : MS h' cl T X dy ft F A O N C H := by
  obtain ⟨k1, k2, k3, k4, k5, k6, k7, k8, k9, k10, k11, k12⟩ := K
  exact ⟨k1.fx f (by decide) (by decide), k2.fx f (by decide) (by decide) (by decide), k3.fx f (by decide), k4.fx f (by decide) (by decide), k5.fx f (by decide) (by decide) (by decide) (by decide) (by decide), k6.fx f (by decide) (by decide) (by decide) (by decide) (by decide), k7.fx f (by decide) (by decide) (by decide), k8.fx f (by decide), k9.fx f (by decide) (by decide) (by decide), k10.fx f (by decide) (by decide) (by decide), k11.fx f (by decide) (by decide) (by decide), k12.fx f (by decide)⟩
theorem rI.dn {i : Nat} (K : rI h i cap) (d : dn h h') : rI h' i cap := by
  obtain ⟨d1, d2, _⟩ := d
  unfold rI
  rw [d1, d2]
  exact K
theorem rI.up {i : Nat} (K : rI h i cap) : rI h (i + 1) cap := ⟨by have := K.1; omega, by have := K.2; omega⟩
end ST
