theorem up_same {f : Nat → Nat} {i : Nat} : va_up f i (f i) = f := funext fun k => by
  by_cases z : k = i
  · rw [z, va_up_self]
  · rw [va_up_ne _ _ z]
set_option maxHeartbeats 1000000 in
theorem c_put {h : mm_H} {Q : Option Value → mm_H → Prop} {p d n c day v : Nat} {nt : Nat → Nat} (sh : s_h h) (P : pS h p d n c nt) (hday : day ≤ 2000) (hv0 : fb_sm nt 2001 + v ≤ 100000000) (k : ∀ h' d' n' c', ex h h' (p3 p d n) → pS h' p d' n' c' (va_up nt day (nt day + v)) → (d' = d ∨ h_n h ≤ d') → (n' = n ∨ h_n h ≤ n') → gr h c h' c' → Q none h') : w_c 22 27 [.ref p, .int (nI day), .int (nI v)] h Q := by
  obtain ⟨m, hd, hn, A, L, T, B⟩ := id P
  obtain ⟨K, hmc, hm, hv⟩ := id A
  obtain ⟨e1, e2, e3⟩ := K.ne
  obtain ⟨⟨k1, k2, k3⟩, ⟨r1, r2⟩, ⟨l1, l2⟩, ⟨b1, b2, b3, b4, b5, b6, b7⟩, c1, c2⟩ := id K
  have hm1 := pL_len L
  have f1 : ex h (h_sI h 195 p (nI (fb_sm nt 2001 + v))) (p3 p d n) := (ex.rf _ _).sI _ (Or.inl (Or.inl rfl))
  have sh1 := s_h.ex sh f1 (p3_70 K)
  have A1 : pA (h_sI h 195 p (nI (fb_sm nt 2001 + v))) p d n c m hd hn := ⟨K, hmc, (oi_neG (by decide) p).trans hm, hv⟩
  have t1 : h_oi (h_sI h 195 p (nI (fb_sm nt 2001 + v))) 195 p = nI (fb_sm nt 2001 + v) := oi_self _ _ _ _
  have hsum : fb_sm (va_up nt day (nt day + v)) 2001 = fb_sm nt 2001 + v := by
    have := sm_up nt (i := day) (v := nt day + v) (n := 2001) (by omega)
    omega
  by_cases hv1 : v = 0
  · subst hv1
    refine t_X3_put_0 (D := 21) sh p _ _ (K20 := fun _ _ _ _ _ => False) (fun _ _ _ _ _ z => z.elim) k1 k2 k3 r1 r2 l1 l2 (by omega) (by omega) (by omega) ⟨fun z => absurd z (by decide), fun _ => ?_⟩
    refine k h d n c (ex.rf _ _) ?_ (Or.inl rfl) (Or.inl rfl) ⟨by omega, by omega, Nat.le_refl _⟩
    rw [Nat.add_zero, up_same]
    exact P
  have tail : ∀ i, i ≤ m → (∀ j, i ≤ j → j < m → nI day < nI (hd j)) → (0 < i → hd (i - 1) ≤ day) →
      ((nI i ≤ 0 → w_c 21 28 [.ref p, .int (nI i), .int (nI day), .int (nI v)] (h_sI h 195 p (nI (fb_sm nt 2001 + v))) (fun r h3 => r = none ∧ s_h h3 ∧ Q none h3)) ∧ (¬ (nI i ≤ 0) → (vp_in (nI i - (1 : Int32)) c ∧ ((¬ (h_ai (h_sI h 195 p (nI (fb_sm nt 2001 + v))) d (nI i - (1 : Int32)).toNatClampNeg) = nI day → w_c 21 28 [.ref p, .int (nI i), .int (nI day), .int (nI v)] (h_sI h 195 p (nI (fb_sm nt 2001 + v))) (fun r h6 => r = none ∧ s_h h6 ∧ Q none h6)) ∧ ((h_ai (h_sI h 195 p (nI (fb_sm nt 2001 + v))) d (nI i - (1 : Int32)).toNatClampNeg) = nI day → (vp_in (nI i - (1 : Int32)) c ∧ (vp_in (nI i - (1 : Int32)) c ∧ Q none (h_sA (h_sI h 195 p (nI (fb_sm nt 2001 + v))) n ((nI i - (1 : Int32)).toNatClampNeg) ((h_ai (h_sI h 195 p (nI (fb_sm nt 2001 + v))) n (nI i - (1 : Int32)).toNatClampNeg) + nI v))))))))) := by
    intro i hi hgt hle
    have hgt : ∀ j, i ≤ j → j < m → day < hd j := fun j hj hjm => (i_lt (by omega) (by have := (L.2.1 j hjm).1; omega)).mp (hgt j hj hjm)
    have insert : (0 < i → hd (i - 1) ≠ day) → w_c 21 28 [.ref p, .int (nI i), .int (nI day), .int (nI v)] (h_sI h 195 p (nI (fb_sm nt 2001 + v))) (fun r h3 => r = none ∧ s_h h3 ∧ Q none h3) := by
      intro hne
      have hlt : ∀ j, j < i → hd j < day := fun j hj => by
        have q1 := pL_mono L (i := j) (j := i - 1) (by omega) (by omega)
        have q2 := hle (by omega)
        have q3 := hne (by omega)
        omega
      have e0 : nt day = 0 := pL_no L (fun j hj y => by
        rcases Nat.lt_or_ge j i with w | w
        · have := hlt j w; omega
        · have := hgt j w hj; omega)
      refine c_ins sh1 A1 hm1 hi (fun h' d' n' c' f2 A2 q1 q2 q3 t2 => ⟨rfl, s_h.ex sh1 f2 (p3_70 K), ?_⟩)
      refine k h' d' n' c' (f1.tr f2 (fun _ z => z) (fun _ _ z => z)) ⟨m + 1, _, _, A2, ?_, ?_, ?_⟩ q1 q2 q3
      · rw [e0, Nat.zero_add]
        exact pL_ins L hi hday (by omega) hlt hgt
      · rw [t2, t1, hsum]
      · rw [hsum]; exact hv0
    refine ⟨fun z => ?_, fun z => ?_⟩
    · have := (i_le (b := 0) (by omega) (by decide)).mp z
      exact insert (fun y => by omega)
    · have hi0 : 0 < i := by
        rcases Nat.eq_zero_or_pos i with y | y
        · rw [y] at z; exact absurd (by decide) z
        · exact y
      have x0 : nI i - 1 = nI (i - 1) := nI_sub1 hi0
      rw [x0, i_cl (by omega)]
      have v1 : vp_in (nI (i - 1)) c := vp_in_nI (by omega) (by omega)
      have hdi := (L.2.1 (i - 1) (by omega)).1
      have ed : h_ai (h_sI h 195 p (nI (fb_sm nt 2001 + v))) d (i - 1) = nI (hd (i - 1)) := (hv (i - 1) (by omega)).1
      have en : h_ai (h_sI h 195 p (nI (fb_sm nt 2001 + v))) n (i - 1) = nI (hn (i - 1)) := (hv (i - 1) (by omega)).2
      rw [ed, en, nI_eqI (by omega) (by omega), nI_add]
      refine ⟨v1, fun y => insert (fun _ => y), fun y => ⟨v1, v1, ?_⟩⟩
      have hnt := (L.2.1 (i - 1) (by omega)).2
      rw [y] at hnt
      refine k _ d n c (f1.sA _ _ (Or.inl (Or.inr (Or.inr rfl)))) ⟨m, hd, va_up hn (i - 1) (hn (i - 1) + v), ⟨K, hmc, A1.2.2.1, fun j hj => ?_⟩, ?_, t1.trans (by rw [hsum]), by rw [hsum]; exact hv0⟩ (Or.inl rfl) (Or.inl rfl) ⟨by show h_s h = _; omega, by show h_n h + c ≤ _; omega, Nat.le_refl _⟩
      · rw [ai_ne e3, ai_self]
        refine ⟨(hv j hj).1, ?_⟩
        by_cases w : j = i - 1
        · rw [w, va_up_self, va_up_self]
        · rw [va_up_ne _ _ w, va_up_ne _ _ w]; exact (hv j hj).2
      · have := pL_add L (i := i - 1) (by omega) (hn (i - 1) + v) (by omega)
        rw [y] at this
        rw [hnt.2]
        exact this
  have loop : ∀ w i, i = w → i ≤ m → (∀ j, i ≤ j → j < m → nI day < nI (hd j)) → w_p (21 + 1) (3, 4, mc_X3_put) 20 [(0, .ref p), (1, .int (nI day)), (2, .int (nI v)), (3, .int (nI i))] [] (h_sI h 195 p (nI (fb_sm nt 2001 + v))) Q := by
    intro w
    induction w with
    | zero =>
      intro i hw hi hgt
      subst hw
      refine t_X3_put_20 (D := 21) sh1 p _ _ _ (K20 := fun _ _ _ _ _ => False) (fun _ _ _ _ _ z => z.elim) k1 k2 k3 r1 r2 l1 l2 (by omega) (by omega) (by omega) ⟨fun _ => tail 0 hi hgt (fun y => by omega), fun z => absurd (by decide) z⟩
    | succ w ih =>
      intro i hw hi hgt
      have x0 : nI i - 1 = nI (i - 1) := nI_sub1 (by omega)
      have x1 : (nI i - 1).toNatClampNeg = i - 1 := by rw [x0]; exact i_cl (by omega)
      have v1 : vp_in (nI i - 1) c := by rw [x0]; exact vp_in_nI (by omega) (by omega)
      have hdi := (L.2.1 (i - 1) (by omega)).1
      have ed : h_ai (h_sI h 195 p (nI (fb_sm nt 2001 + v))) d (nI i - 1).toNatClampNeg = nI (hd (i - 1)) := by rw [x1]; exact (hv (i - 1) (by omega)).1
      refine t_X3_put_20 (D := 21) sh1 p _ _ _ (K20 := fun y1 y2 y3 y4 hh => y1 = p ∧ y2 = nI day ∧ y3 = nI v ∧ y4 = nI (i - 1) ∧ hh = h_sI h 195 p (nI (fb_sm nt 2001 + v)) ∧ day < hd (i - 1)) (fun y1 y2 y3 y4 hh q => ?_) k1 k2 k3 r1 r2 l1 l2 (by omega) (by omega) (by omega) ⟨fun z => ?_, fun _ => ⟨v1, fun z => ?_, fun z => ⟨rfl, rfl, rfl, nI_m1 (by omega), rfl, ?_⟩⟩⟩
      · obtain ⟨rfl, rfl, rfl, rfl, rfl, hlt⟩ := q
        refine ih (i - 1) (by omega) (by omega) (fun j hj hjm => ?_)
        by_cases y : j = i - 1
        · rw [y]; exact (i_lt (by omega) (by omega)).mpr hlt
        · exact hgt j (by omega) hjm
      · have := (i_le (b := 0) (by omega) (by decide)).mp z
        omega
      · rw [ed, i_le (by omega) (by omega)] at z
        exact tail i hi hgt (fun _ => z)
      · rw [ed, i_le (by omega) (by omega)] at z
        omega
  refine t_X3_put_0 (D := 21) sh p _ _ (K20 := fun y1 y2 y3 y4 hh => y1 = p ∧ y2 = nI day ∧ y3 = nI v ∧ y4 = nI m ∧ hh = h_sI h 195 p (nI (fb_sm nt 2001 + v))) (fun y1 y2 y3 y4 hh q => ?_) k1 k2 k3 r1 r2 l1 l2 (by omega) (by omega) (by omega) ⟨fun _ => ⟨rfl, rfl, rfl, hm, by rw [T, nI_add]⟩, fun z => absurd ((i_lt (a := 0) (by decide) (by omega)).mpr (by omega)) z⟩
  obtain ⟨rfl, rfl, rfl, rfl, rfl⟩ := q
  exact loop m m rfl (Nat.le_refl _) (fun j hj hjm => by omega)
