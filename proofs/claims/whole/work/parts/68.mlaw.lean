/-! THE REFERENCE READS A LAW; reading to the end -/
section LM
variable {h : mm_H} {Q : Option Value → mm_H → Prop} {T : zT} {L : Nat → Option Nat} {t : zK}
set_option maxHeartbeats 1000000 in
theorem m_readLaw (sh : s_h h) (H : mT h T.1 T.2) (Ht : mTo h t) (HL : mLw h L) (Ok : zKo T t) (Lb : ∀ k v, L k = some v → v < 2147483648) (k : ∀ h', fx h h' gMR [46] → dn h h' → mRd h' (zLaw T L t) → Q none h') : w_c 4 111 [.ref 44] h Q := by
  have hT := H.1
  obtain ⟨t0, a0, a1, a2, a3, a4⟩ := id Ht
  obtain ⟨o1, o2, o3, o4⟩ := id Ok
  have kB : ∀ x pl, (1 ≤ x ∧ x ≤ 4) → (zLaw T L t).1 = (x, pl) → ∀ h', fx h h' gMR [46] → dn h h' → h_oi h' 582 44 = nI x → h_oi h' 583 44 = nI pl → Q none h' := fun x pl hx e h' f d e1 e2 => k h' f d (Or.inr (by rw [e]; exact ⟨hx, e1, e2⟩))
  have nz : ∀ {h1 : mm_H} {x : Nat}, (1 ≤ x ∧ x ≤ 4) → h_oi h1 582 44 = nI x → ¬ h_oi h1 582 44 = 0 ∧ ¬ h_oi h1 582 44 ≤ 0 := fun hx e => by
    rw [e]
    exact ⟨fun z => by have := (nI_eqI (b := 0) (by omega) (by decide)).mp z; omega, fun z => by have := (i_le (b := 0) (by omega) (by decide)).mp z; omega⟩
  have bad56 : ∀ x pl, (1 ≤ x ∧ x ≤ 4) → (zLaw T L t).1 = (x, pl) → ∀ h1 y, fx h h1 gMR [46] → dn h h1 → h_oi h1 582 44 = nI x → h_oi h1 583 44 = nI pl → w_p 4 (9, 3, mc_X9_readLaw) 56 [(0, .ref 44), (1, .int y)] [] h1 Q := by
    intro x pl hx e h1 y f d e1 e2
    exact t_X9_readLaw_56 (f.sh sh (by decide)) _ (K92 := fun _ _ => False) (fun _ _ z => z.elim) ⟨fun z => absurd z (nz hx e1).2, fun _ => kB x pl hx e h1 f d e1 e2⟩
  have bad24 : ∀ x pl, (1 ≤ x ∧ x ≤ 4) → (zLaw T L t).1 = (x, pl) → ∀ h1, fx h h1 gMR [46] → dn h h1 → h_oi h1 582 44 = nI x → h_oi h1 583 44 = nI pl → w_p 4 (9, 3, mc_X9_readLaw) 24 [(0, .ref 44)] [] h1 Q := by
    intro x pl hx e h1 f d e1 e2
    exact t_X9_readLaw_24 (f.sh sh (by decide)) (K56 := fun _ hh => hh = h1) (fun y hh z => by subst z; exact bad56 x pl hx e hh y f d e1 e2) ⟨fun _ => rfl, fun z => absurd z (nz hx e1).1⟩
  have bad220 : ∀ x pl, (1 ≤ x ∧ x ≤ 4) → (zLaw T L t).1 = (x, pl) → ∀ h1 y1 y2, fx h h1 gMR [46] → dn h h1 → h_oi h1 582 44 = nI x → h_oi h1 583 44 = nI pl → w_p 4 (9, 3, mc_X9_readLaw) 220 [(0, .ref 44), (1, .int y1), (2, .int y2)] [] h1 Q := by
    intro x pl hx e h1 y1 y2 f d e1 e2
    exact t_X9_readLaw_220 (f.sh sh (by decide)) _ _ ⟨fun _ => kB x pl hx e h1 f d e1 e2, fun z => absurd z (nz hx e1).1⟩
  have bad196 : ∀ x pl, (1 ≤ x ∧ x ≤ 4) → (zLaw T L t).1 = (x, pl) → ∀ h1 y1 y2, fx h h1 gMR [46] → dn h h1 → h_oi h1 582 44 = nI x → h_oi h1 583 44 = nI pl → w_p 4 (9, 3, mc_X9_readLaw) 196 [(0, .ref 44), (1, .int y1), (2, .int y2)] [] h1 Q := by
    intro x pl hx e h1 y1 y2 f d e1 e2
    exact t_X9_readLaw_196 (f.sh sh (by decide)) _ _ (K220 := fun z1 z2 hh => hh = h1) (fun z1 z2 hh z => by subst z; exact bad220 x pl hx e hh z1 z2 f d e1 e2) ⟨fun _ => rfl, fun z => absurd z (nz hx e1).1⟩
  have bad175 : ∀ x pl, (1 ≤ x ∧ x ≤ 4) → (zLaw T L t).1 = (x, pl) → ∀ v, v < 5 → ∀ h1 y2, fx h h1 gMR [46] → dn h h1 → h_oi h1 582 44 = nI x → h_oi h1 583 44 = nI pl → w_p 4 (9, 3, mc_X9_readLaw) 175 [(0, .ref 44), (1, .int (nI v)), (2, .int y2)] [] h1 Q := by
    intro x pl hx e v hv h1 y2 f d e1 e2
    exact t_X9_readLaw_175 (f.sh sh (by decide)) _ _ (K196 := fun z1 z2 hh => hh = h_sA h1 46 (nI v).toNatClampNeg (h_oi h1 581 44)) (fun z1 z2 hh z => by subst z; exact bad196 x pl hx e _ z1 z2 (f.sA _ _ (Or.inl (by decide))) (d.sA _ _ (by decide)) e1 e2) ⟨vp_in_nI hv (by decide), fun _ => rfl, fun z => absurd z (nz hx e1).1⟩
  have bad136 : ∀ x pl, (1 ≤ x ∧ x ≤ 4) → (zLaw T L t).1 = (x, pl) → ∀ v, v < 5 → ∀ h1 y2, fx h h1 gMR [46] → dn h h1 → h_oi h1 582 44 = nI x → h_oi h1 583 44 = nI pl → w_p 4 (9, 3, mc_X9_readLaw) 136 [(0, .ref 44), (1, .int (nI v)), (2, .int y2)] [] h1 Q := by
    intro x pl hx e v hv h1 y2 f d e1 e2
    exact t_X9_readLaw_136 (f.sh sh (by decide)) _ _ (K175 := fun z1 z2 hh => z1 = nI v ∧ hh = h1) (fun z1 z2 hh z => by obtain ⟨rfl, rfl⟩ := z; exact bad175 x pl hx e v hv hh z2 f d e1 e2) ⟨fun _ => ⟨rfl, rfl⟩, fun z => absurd z (nz hx e1).1⟩
  have go92 : ∀ v, v < 5 → ∀ h1, s_h h1 → (∀ hh, hh = h1 → w_p 4 (9, 3, mc_X9_readLaw) 136 [(0, .ref 44), (1, .int (nI v)), (2, .int (nI (zMo v)))] [] hh Q) → w_p 4 (9, 3, mc_X9_readLaw) 92 [(0, .ref 44), (1, .int (nI v))] [] h1 Q := by
    intro v hv h1 sh1 kk
    have ne : ∀ i, i < 100 → (nI v = nI i ↔ v = i) := fun i hi => nI_eqI (by omega) (by omega)
    refine t_X9_readLaw_92 sh1 _ (K136 := fun z1 z2 hh => z1 = nI v ∧ z2 = nI (zMo v) ∧ hh = h1) (fun z1 z2 hh z => by obtain ⟨rfl, rfl, rfl⟩ := z; exact kk hh rfl) ⟨fun c0 => ⟨fun c1 => ⟨fun c2 => ⟨fun c3 => ⟨rfl, ?_, rfl⟩, fun c3 => ⟨rfl, ?_, rfl⟩⟩, fun c2 => ⟨rfl, ?_, rfl⟩⟩, fun c1 => ⟨rfl, ?_, rfl⟩⟩, fun c0 => ⟨rfl, ?_, rfl⟩⟩
    · have : ¬ v = 0 := fun y => c0 ((ne 0 (by decide)).mpr y)
      have : ¬ v = 1 := fun y => c1 ((ne 1 (by decide)).mpr y)
      have : ¬ v = 2 := fun y => c2 ((ne 2 (by decide)).mpr y)
      have : ¬ v = 3 := fun y => c3 ((ne 3 (by decide)).mpr y)
      rw [show v = 4 by omega]; rfl
    · rw [(ne 3 (by decide)).mp c3]; rfl
    · rw [(ne 2 (by decide)).mp c2]; rfl
    · rw [(ne 1 (by decide)).mp c1]; rfl
    · rw [(ne 0 (by decide)).mp c0]; rfl
  have start : w_p 4 (9, 3, mc_X9_readLaw) 24 [(0, .ref 44)] [] h Q ∨ ¬ t.1 = 1 := by
    by_cases c1 : t.1 = 1
    · left
      have hk := o3 c1
      have av : h_oi h 581 44 = nI t.2.2.2 := a4 (Or.inl c1)
      have vk : vp_in (nI t.2.2.2) 5 := vp_in_nI hk (by decide)
      have ic : (nI t.2.2.2).toNatClampNeg = t.2.2.2 := i_cl (by omega)
      obtain ⟨l1, l2, l3, l4⟩ := lst t.2.2.2 hk
      refine t_X9_readLaw_24 sh (K56 := fun y hh => y = nI t.2.2.2 ∧ ((L t.2.2.2 = none ∧ hh = h) ∨ (¬ L t.2.2.2 = none ∧ hh = h_sI (h_sI h 582 44 4) 583 44 (nI t.2.1)))) (fun y hh z => ?_) ⟨fun z => absurd a0 z, fun _ => ?_⟩
      rotate_left
      · rw [av, ic, HL _ hk, tW_m4 (Lb _), a2]
        have f2 : fx h (h_sI (h_sI h 582 44 4) 583 44 (nI t.2.1)) gMR [46] := ((fx.rf _ _ _).sI _ (Or.inl (by decide))).sI _ (Or.inl (by decide))
        exact ⟨vk, fun c2 => ⟨rfl, Or.inl ⟨c2, rfl⟩⟩, fun c2 => (m_failsZ sh a0 ⟨rfl, f2.sh sh (by decide), rfl, Or.inr ⟨c2, rfl⟩⟩).up (by decide)⟩
      · obtain ⟨rfl, (⟨c2, rfl⟩ | ⟨c2, rfl⟩)⟩ := z
        rotate_left
        · have f2 : fx h (h_sI (h_sI h 582 44 4) 583 44 (nI t.2.1)) gMR [46] := ((fx.rf _ _ _).sI _ (Or.inl (by decide))).sI _ (Or.inl (by decide))
          refine bad56 4 t.2.1 (by decide) ?_ _ _ f2 (((dn.rf _).sI _ (by decide)).sI _ (by decide)) ((oi_neG (by decide) _).trans (oi_self _ _ _ _)) (oi_self _ _ _ _)
          unfold zLaw; rw [z_if_f (fun y => y c1), z_if_t c2]
        have Ok2 := zTk_ok (T := T) o2
        have v2 := Ok2.2.2.2
        refine t_X9_readLaw_56 sh _ (K92 := fun y h2 => y = nI t.2.2.2 ∧ fx hh h2 gMR [46] ∧ dn hh h2 ∧ mLw h2 L ∧ ((mTo h2 (zTk T t.2.2.1) ∧ (zTk T t.2.2.1).1 = 2) ∨ ∃ x pl, (1 ≤ x ∧ x ≤ 4) ∧ (zLaw T L t).1 = (x, pl) ∧ h_oi h2 582 44 = nI x ∧ h_oi h2 583 44 = nI pl)) (fun y h2 z => ?_) ⟨fun _ => ?_, fun z => absurd ?_ z⟩
        · obtain ⟨rfl, f2, d2, L2, (⟨To2, c3⟩ | ⟨x, pl, hx, e, e1, e2⟩)⟩ := z
          rotate_left
          · exact go92 _ hk h2 (f2.sh sh (by decide)) (fun hh' eh => by subst eh; exact bad136 x pl hx e _ hk _ _ f2 d2 e1 e2)
          have sh2 := f2.sh sh (by decide)
          obtain ⟨-, b0, b1, b2, b3, b4⟩ := id To2
          have bv : h_oi h2 581 44 = nI (zTk T t.2.2.1).2.2.2 := b4 (Or.inr c3)
          refine go92 _ hk h2 sh2 (fun hh' eh => ?_)
          subst eh
          have chk : ∀ (lo : Nat), lo = zLe t.2.2.2 → ((f_in ((h_oi hh' 581 44).toInt64) (Int64.ofNat lo) ((nI (zMo t.2.2.2)).toInt64)) = 0 ↔ ¬ (zLe t.2.2.2 ≤ (zTk T t.2.2.1).2.2.2 ∧ (zTk T t.2.2.1).2.2.2 ≤ zMo t.2.2.2)) := fun lo hlo => by
            rw [bv, wL (zMo t.2.2.2) (by omega), hlo]
            have e := f_in_nz (v := nI (zTk T t.2.2.1).2.2.2) (a := zLe t.2.2.2) (b := zMo t.2.2.2) (by omega) (by omega)
            rw [i_le (by omega) (by omega), i_le (by omega) (by omega)] at e
            exact ⟨fun z y => (e.mpr y) z, fun z => Classical.byContradiction (fun y => z (e.mp y))⟩
          have K175 : ∀ (inR : zLe t.2.2.2 ≤ (zTk T t.2.2.1).2.2.2 ∧ (zTk T t.2.2.1).2.2.2 ≤ zMo t.2.2.2) (y2 : Int32), w_p 4 (9, 3, mc_X9_readLaw) 175 [(0, .ref 44), (1, .int (nI t.2.2.2)), (2, .int y2)] [] hh' Q := by
            intro inR y2
            have f3 : fx hh (h_sA hh' 46 t.2.2.2 (nI (zTk T t.2.2.1).2.2.2)) gMR [46] := f2.sA _ _ (Or.inl (by decide))
            have d3 : dn hh (h_sA hh' 46 t.2.2.2 (nI (zTk T t.2.2.1).2.2.2)) := d2.sA _ _ (by decide)
            have sh3 := f3.sh sh (by decide)
            have H3 : mT (h_sA hh' 46 t.2.2.2 (nI (zTk T t.2.2.1).2.2.2)) T.1 T.2 := H.fx f3 (by decide) (by decide)
            have L3 : mLw (h_sA hh' 46 t.2.2.2 (nI (zTk T t.2.2.1).2.2.2)) (va_up L t.2.2.2 (some (zTk T t.2.2.1).2.2.2)) := fun j hj => by
              rw [ai_self]
              by_cases z : j = t.2.2.2
              · rw [z, va_up_self, va_up_self]; rfl
              · rw [va_up_ne _ _ z, va_up_ne _ _ z]; exact L2 j hj
            refine t_X9_readLaw_175 sh2 _ _ (K196 := fun z1 z2 h4 => fx hh h4 gMR [46] ∧ dn hh h4 ∧ mLw h4 (va_up L t.2.2.2 (some (zTk T t.2.2.1).2.2.2)) ∧ mTok h4 (zTk T (zTk T t.2.2.1).2.2.1)) (fun z1 z2 h4 z => ?_) ?_
            rotate_left
            · rw [ic, bv]
              refine ⟨vk, fun z => absurd b0 z, fun _ => ?_⟩
              refine (m_next sh3 H3 Ok2.2.1 b0 b3 (fun h4 f4 d4 T4 => ⟨rfl, f4.sh sh3 (by decide), f3.tr f4 (by decide) (by decide) (by decide) (by decide), d3.tr d4, fun j hj => ?_, T4⟩)).up (by decide)
              rw [f4.ai 46 (by decide) (by decide)]; exact L3 j hj
            · obtain ⟨f4, d4, L4, T4⟩ := z
              have sh4 := f4.sh sh (by decide)
              have Ok4 := zTk_ok (T := T) Ok2.2.1
              rcases mTok_c T4 with ⟨To4, t4⟩ | ⟨t4, b40, b41⟩
              rotate_left
              · refine bad196 1 (zTk T (zTk T t.2.2.1).2.2.1).2.1 (by decide) ?_ h4 z1 z2 f4 d4 b40 b41
                unfold zLaw; rw [z_if_f (fun y => y c1), z_if_f (fun y => y c2), z_if_f (by omega), z_if_f (fun y => y c3), z_if_f (fun y => y inR), z_if_t t4]
              obtain ⟨-, b40, b41, b42, b43, b44⟩ := id To4
              refine t_X9_readLaw_196 sh4 _ _ (K220 := fun y1 y2 h5 => ((zTk T (zTk T t.2.2.1).2.2.1).1 = 3 ∧ h5 = h4) ∨ (¬ (zTk T (zTk T t.2.2.1).2.2.1).1 = 3 ∧ h5 = h_sI (h_sI h4 582 44 2) 583 44 (nI (zTk T (zTk T t.2.2.1).2.2.1).2.1))) (fun y1 y2 h5 z => ?_) ⟨fun z => absurd b40 z, fun _ => ?_⟩
              rotate_left
              · rw [b41, b42, show (nI (zTk T (zTk T t.2.2.1).2.2.1).1 = 3) = (nI (zTk T (zTk T t.2.2.1).2.2.1).1 = nI 3) from rfl, nI_eqI (by omega) (by decide)]
                have f5 : fx hh (h_sI (h_sI h4 582 44 2) 583 44 (nI (zTk T (zTk T t.2.2.1).2.2.1).2.1)) gMR [46] := (f4.sI _ (Or.inl (by decide))).sI _ (Or.inl (by decide))
                exact ⟨fun z => Or.inl ⟨z, rfl⟩, fun z => (m_failsZ sh4 b40 ⟨rfl, f5.sh sh (by decide), Or.inr ⟨z, rfl⟩⟩).up (by decide)⟩
              · rcases z with ⟨c6, rfl⟩ | ⟨c6, rfl⟩
                rotate_left
                · have f5 : fx hh (h_sI (h_sI h4 582 44 2) 583 44 (nI (zTk T (zTk T t.2.2.1).2.2.1).2.1)) gMR [46] := (f4.sI _ (Or.inl (by decide))).sI _ (Or.inl (by decide))
                  refine bad220 2 (zTk T (zTk T t.2.2.1).2.2.1).2.1 (by decide) ?_ _ y1 y2 f5 ((d4.sI _ (by decide)).sI _ (by decide)) ((oi_neG (by decide) _).trans (oi_self _ _ _ _)) (oi_self _ _ _ _)
                  unfold zLaw; rw [z_if_f (fun y => y c1), z_if_f (fun y => y c2), z_if_f (by omega), z_if_f (fun y => y c3), z_if_f (fun y => y inR), z_if_f (by omega), z_if_t c6]
                refine t_X9_readLaw_220 sh4 _ _ ⟨fun z => absurd b40 z, fun _ => ?_⟩
                have H5 : mT h5 T.1 T.2 := H.fx f4 (by decide) (by decide)
                refine (m_next sh4 H5 Ok4.2.1 b40 b43 (fun h6 f6 d6 T6 => ⟨rfl, f6.sh sh4 (by decide), k h6 (f4.tr f6 (by decide) (by decide) (by decide) (by decide)) (d4.tr d6) ?_⟩)).up (by decide)
                have e : zLaw T L t = zT1 (va_up L t.2.2.2 (some (zTk T t.2.2.1).2.2.2)) (zTk T (zTk T (zTk T t.2.2.1).2.2.1).2.2.1) := by unfold zLaw; rw [z_if_f (fun y => y c1), z_if_f (fun y => y c2), z_if_f (by omega), z_if_f (fun y => y c3), z_if_f (fun y => y inR), z_if_f (by omega), z_if_f (fun y => y c6)]
                rw [e]
                unfold zT1
                rcases mTok_c T6 with ⟨To6, t6⟩ | ⟨t6, b60, b61⟩
                · rw [z_if_f (by omega)]
                  refine Or.inl ⟨rfl, To6, fun j hj => ?_⟩
                  rw [f6.ai 46 (by decide) (by decide)]; exact L4 j hj
                · rw [z_if_t t6]
                  exact Or.inr ⟨by show 1 ≤ 1 ∧ 1 ≤ 4; decide, b60, b61⟩
          have out3 : ¬ (zLe t.2.2.2 ≤ (zTk T t.2.2.1).2.2.2 ∧ (zTk T t.2.2.1).2.2.2 ≤ zMo t.2.2.2) → (zLaw T L t).1 = (3, (zTk T t.2.2.1).2.1) := fun hn => by
            unfold zLaw; rw [z_if_f (fun y => y c1), z_if_f (fun y => y c2), z_if_f (by omega), z_if_f (fun y => y c3), z_if_t hn]
          have f3 : fx hh (h_sI (h_sI hh' 582 44 3) 583 44 (nI (zTk T t.2.2.1).2.1)) gMR [46] := (f2.sI _ (Or.inl (by decide))).sI _ (Or.inl (by decide))
          have ne2 : nI t.2.2.2 = 2 ↔ t.2.2.2 = 2 := nI_eqI (b := 2) (by omega) (by decide)
          refine t_X9_readLaw_136 sh2 _ _ (K175 := fun z1 z2 h4 => z1 = nI t.2.2.2 ∧ (((zLe t.2.2.2 ≤ (zTk T t.2.2.1).2.2.2 ∧ (zTk T t.2.2.1).2.2.2 ≤ zMo t.2.2.2) ∧ h4 = hh') ∨ (¬ (zLe t.2.2.2 ≤ (zTk T t.2.2.1).2.2.2 ∧ (zTk T t.2.2.1).2.2.2 ≤ zMo t.2.2.2) ∧ h4 = h_sI (h_sI hh' 582 44 3) 583 44 (nI (zTk T t.2.2.1).2.1)))) (fun z1 z2 h4 z => ?_) ⟨fun z => absurd b0 z, fun _ => ?_⟩
          · obtain ⟨rfl, (⟨inR, rfl⟩ | ⟨hn, rfl⟩)⟩ := z
            · exact K175 inR z2
            · exact bad175 3 _ (by decide) (out3 hn) _ hk _ z2 f3 ((d2.sI _ (by decide)).sI _ (by decide)) ((oi_neG (by decide) _).trans (oi_self _ _ _ _)) (oi_self _ _ _ _)
          · rw [b2]
            refine ⟨fun z => ?_, fun z => ?_⟩
            · have el : 0 = zLe t.2.2.2 := by unfold zLe; rw [if_neg (fun y => z (ne2.mpr y))]
              rw [chk 0 el]
              exact ⟨fun y => ⟨rfl, Or.inl ⟨Classical.not_not.mp y, rfl⟩⟩, fun y => (m_failsZ sh2 b0 ⟨rfl, f3.sh sh (by decide), rfl, Or.inr ⟨y, rfl⟩⟩).up (by decide)⟩
            · have el : 1 = zLe t.2.2.2 := by unfold zLe; rw [if_pos (ne2.mp z)]
              rw [chk 1 el]
              exact ⟨fun y => ⟨rfl, Or.inl ⟨Classical.not_not.mp y, rfl⟩⟩, fun y => (m_failsZ sh2 b0 ⟨rfl, f3.sh sh (by decide), rfl, Or.inr ⟨y, rfl⟩⟩).up (by decide)⟩
        · refine (m_next sh H o2 a0 a3 (fun h2 f2 d2 T2 => ⟨rfl, f2.sh sh (by decide), ?_⟩)).up (by decide)
          have sh2 := f2.sh sh (by decide)
          have L2 : mLw h2 L := fun j hj => by rw [f2.ai 46 (by decide) (by decide)]; exact HL j hj
          have F2 : fx hh h2 gMR [46] := f2.wk (by decide) (by decide)
          rcases mTok_c T2 with ⟨To2, t2⟩ | ⟨t2, b0, b1⟩
          · obtain ⟨-, b0, b1, b2, b3, b4⟩ := id To2
            rw [b1, b2, show (nI (zTk T t.2.2.1).1 = 2) = (nI (zTk T t.2.2.1).1 = nI 2) from rfl, nI_eqI (a := (zTk T t.2.2.1).1) (b := 2) (by omega) (by decide)]
            have f3 : fx hh (h_sI (h_sI h2 582 44 2) 583 44 (nI (zTk T t.2.2.1).2.1)) gMR [46] := (F2.sI _ (Or.inl (by decide))).sI _ (Or.inl (by decide))
            refine ⟨fun z => absurd b0 z, fun _ => ⟨fun c3 => ⟨rfl, F2, d2, L2, Or.inl ⟨To2, c3⟩⟩, fun c3 => (m_failsZ sh2 b0 ⟨rfl, f3.sh sh (by decide), rfl, f3, (d2.sI _ (by decide)).sI _ (by decide), L2, Or.inr ⟨2, (zTk T t.2.2.1).2.1, by decide, ?_, (oi_neG (by decide) _).trans (oi_self _ _ _ _), oi_self _ _ _ _⟩⟩).up (by decide)⟩⟩
            unfold zLaw; rw [z_if_f (fun y => y c1), z_if_f (fun y => y c2), z_if_f (by omega), z_if_t c3]
          · refine ⟨fun _ => ⟨rfl, F2, d2, L2, Or.inr ⟨1, (zTk T t.2.2.1).2.1, by decide, ?_, b0, b1⟩⟩, fun z => ?_⟩
            · unfold zLaw; rw [z_if_f (fun y => y c1), z_if_f (fun y => y c2), z_if_t t2]
            · rw [b0] at z; exact absurd z (by decide)
        · rw [a0]; decide
    · exact Or.inr c1
  refine t_X9_readLaw_0 sh (K24 := fun hh => (t.1 = 1 ∧ hh = h) ∨ (¬ t.1 = 1 ∧ hh = h_sI (h_sI h 582 44 2) 583 44 (nI t.2.1))) (fun hh z => ?_) ⟨fun z => absurd a0 z, fun _ => ?_⟩
  · rcases z with ⟨c1, rfl⟩ | ⟨c1, rfl⟩
    · exact start.resolve_right (fun y => y c1)
    · have f2 : fx h (h_sI (h_sI h 582 44 2) 583 44 (nI t.2.1)) gMR [46] := ((fx.rf _ _ _).sI _ (Or.inl (by decide))).sI _ (Or.inl (by decide))
      refine bad24 2 t.2.1 (by decide) ?_ _ f2 (((dn.rf _).sI _ (by decide)).sI _ (by decide)) ((oi_neG (by decide) _).trans (oi_self _ _ _ _)) (oi_self _ _ _ _)
      unfold zLaw; rw [z_if_t c1]
  · rw [a1, a2, show (nI t.1 = 1) = (nI t.1 = nI 1) from rfl, nI_eqI (by omega) (by decide)]
    have f2 : fx h (h_sI (h_sI h 582 44 2) 583 44 (nI t.2.1)) gMR [46] := ((fx.rf _ _ _).sI _ (Or.inl (by decide))).sI _ (Or.inl (by decide))
    exact ⟨fun z => Or.inl ⟨z, rfl⟩, fun z => (m_failsZ sh a0 ⟨rfl, f2.sh sh (by decide), Or.inr ⟨z, rfl⟩⟩).up (by decide)⟩
end LM
/-- the state after i laws -/
noncomputable def zRd (T : zT) : Nat → zRs
  | 0 => zT1 (fun _ => none) (zTk T 0)
  | i + 1 => z_if (¬ (zRd T i).1.1 = 0 ∨ (0 < i ∧ (zRd T i).2.2.1 = 0)) (zRd T i) (zLaw T (zRd T i).2.1 (zRd T i).2.2)
def zDn (T : zT) (i : Nat) : Prop := ¬ (zRd T i).1.1 = 0 ∨ (0 < i ∧ (zRd T i).2.2.1 = 0)
theorem zRd_d {T : zT} {i : Nat} (h : zDn T i) : zRd T (i + 1) = zRd T i := z_if_t h
theorem zRd_n {T : zT} {i : Nat} (h : ¬ zDn T i) : zRd T (i + 1) = zLaw T (zRd T i).2.1 (zRd T i).2.2 := z_if_f h
theorem zDn_s {T : zT} {i : Nat} (h : zDn T i) : zDn T (i + 1) := by
  unfold zDn
  rw [zRd_d h]
  rcases h with y | y
  · exact Or.inl y
  · exact Or.inr ⟨Nat.succ_pos _, y.2⟩
theorem zRd_st {T : zT} {i : Nat} (h : zDn T i) : ∀ k, zDn T (i + k) ∧ zRd T (i + k) = zRd T i
  | 0 => ⟨h, rfl⟩
  | k + 1 => by
    obtain ⟨a, b⟩ := zRd_st h k
    exact ⟨zDn_s a, (zRd_d a).trans b⟩
theorem zLaw_s {T : zT} {L : Nat → Option Nat} {t : zK} (Ok : zKo T t) (h : (zLaw T L t).1.1 = 0) : t.1 = 1 ∧ t.2.2.2 < 5 ∧ L t.2.2.2 = none ∧ (∃ v, v ≤ 400 ∧ (zLaw T L t).2.1 = va_up L t.2.2.2 (some v)) ∧ zKo T (zLaw T L t).2.2 ∧ (zLaw T L t).2.2.1 ≤ 3 := by
  by_cases c1 : t.1 = 1
  · have hk := Ok.2.2.1 c1
    obtain ⟨-, -, -, l4⟩ := lst t.2.2.2 hk
    have Ok2 := zTk_ok (T := T) Ok.2.1
    have Ok4 := zTk_ok (T := T) Ok2.2.1
    have Ok6 := zTk_ok (T := T) Ok4.2.1
    unfold zLaw at h ⊢
    rw [z_if_f (fun y => y c1)] at h ⊢
    by_cases c2 : L t.2.2.2 = none
    · rw [z_if_f (fun y => y c2)] at h ⊢
      by_cases c3 : (zTk T t.2.2.1).1 = 4
      · rw [z_if_t c3] at h; cases h
      · rw [z_if_f c3] at h ⊢
        by_cases c4 : (zTk T t.2.2.1).1 = 2
        · rw [z_if_f (fun y => y c4)] at h ⊢
          by_cases c5 : zLe t.2.2.2 ≤ (zTk T t.2.2.1).2.2.2 ∧ (zTk T t.2.2.1).2.2.2 ≤ zMo t.2.2.2
          · rw [z_if_f (fun y => y c5)] at h ⊢
            by_cases c6 : (zTk T (zTk T t.2.2.1).2.2.1).1 = 4
            · rw [z_if_t c6] at h; cases h
            · rw [z_if_f c6] at h ⊢
              by_cases c7 : (zTk T (zTk T t.2.2.1).2.2.1).1 = 3
              · rw [z_if_f (fun y => y c7)] at h ⊢
                unfold zT1 at h ⊢
                by_cases c8 : (zTk T (zTk T (zTk T t.2.2.1).2.2.1).2.2.1).1 = 4
                · rw [z_if_t c8] at h; cases h
                · rw [z_if_f c8]
                  exact ⟨c1, hk, c2, ⟨_, by omega, rfl⟩, Ok6, by have := Ok6.1; show (zTk T (zTk T (zTk T t.2.2.1).2.2.1).2.2.1).1 ≤ 3; omega⟩
              · rw [z_if_t c7] at h; cases h
          · rw [z_if_t c5] at h; cases h
        · rw [z_if_t c4] at h; cases h
    · rw [z_if_t c2] at h; cases h
  · unfold zLaw at h
    rw [z_if_t c1] at h; cases h
theorem zRd_ok (T : zT) : ∀ i, (zRd T i).1.1 = 0 → zKo T (zRd T i).2.2 ∧ (zRd T i).2.2.1 ≤ 3 ∧ ∀ k v, (zRd T i).2.1 k = some v → k < 5 ∧ v ≤ 400
  | 0, h => by
    have Ok := zTk_ok (T := T) (n := 0) (Nat.zero_le _)
    have h : (zT1 (fun _ => none) (zTk T 0)).1.1 = 0 := h
    show zKo T (zT1 (fun _ => none) (zTk T 0)).2.2 ∧ (zT1 (fun _ => none) (zTk T 0)).2.2.1 ≤ 3 ∧ ∀ k v, (zT1 (fun _ => none) (zTk T 0)).2.1 k = some v → k < 5 ∧ v ≤ 400
    unfold zT1 at h ⊢
    by_cases c : (zTk T 0).1 = 4
    · rw [z_if_t c] at h; cases h
    · rw [z_if_f c]
      exact ⟨Ok, by have := Ok.1; show (zTk T 0).1 ≤ 3; omega, fun k v e => by cases e⟩
  | i + 1, h => by
    by_cases d : zDn T i
    · rw [zRd_d d] at h ⊢
      exact zRd_ok T i h
    · have h0 : (zRd T i).1.1 = 0 := Classical.byContradiction (fun y => d (Or.inl y))
      obtain ⟨a1, a2, a3⟩ := zRd_ok T i h0
      rw [zRd_n d] at h ⊢
      obtain ⟨b1, b2, b3, ⟨v, hv, b4⟩, b5, b6⟩ := zLaw_s a1 h
      refine ⟨b5, b6, fun k w e => ?_⟩
      rw [b4] at e
      by_cases z : k = (zRd T i).2.2.2.2.2
      · rw [z, va_up_self] at e
        cases e
        rw [z]
        exact ⟨b2, hv⟩
      · rw [va_up_ne _ _ z] at e
        exact a3 k w e
theorem zRd_ct (T : zT) : ∀ i, (∀ j, j < i → ¬ zDn T j) → (zRd T i).1.1 = 0 → fb_ct (fun k => ((zRd T i).2.1 k).isSome) 5 = i
  | 0, _, h => by
    have h : (zT1 (fun _ => none) (zTk T 0)).1.1 = 0 := h
    show fb_ct (fun k => ((zT1 (fun _ => none) (zTk T 0)).2.1 k).isSome) 5 = 0
    unfold zT1 at h ⊢
    by_cases c : (zTk T 0).1 = 4
    · rw [z_if_t c] at h; cases h
    · rw [z_if_f c]; rfl
  | i + 1, hn, h => by
    have d := hn i (Nat.lt_succ_self _)
    have h0 : (zRd T i).1.1 = 0 := Classical.byContradiction (fun y => d (Or.inl y))
    have ih := zRd_ct T i (fun j hj => hn j (by omega)) h0
    obtain ⟨a1, a2, a3⟩ := zRd_ok T i h0
    rw [zRd_n d] at h ⊢
    obtain ⟨b1, b2, b3, ⟨v, hv, b4⟩, b5, b6⟩ := zLaw_s a1 h
    have e := mct_up (no := 5) (p := fun k => ((zRd T i).2.1 k).isSome) (q := fun k => ((zLaw T (zRd T i).2.1 (zRd T i).2.2).2.1 k).isSome) (o := (zRd T i).2.2.2.2.2) b2 (fun j _ hj => by
      show ((zLaw T (zRd T i).2.1 (zRd T i).2.2).2.1 j).isSome = _
      rw [b4, va_up_ne _ _ hj])
    rw [ih] at e
    have e1 : ((zRd T i).2.1 (zRd T i).2.2.2.2.2).isSome = false := by rw [b3]; rfl
    have e2 : ((zLaw T (zRd T i).2.1 (zRd T i).2.2).2.1 (zRd T i).2.2.2.2.2).isSome = true := by rw [b4, va_up_self]; rfl
    rw [e1, e2] at e
    rw [if_neg (by decide), if_pos rfl] at e
    omega
theorem zDn_6 (T : zT) {i : Nat} (h : ¬ zDn T i) : i ≤ 5 := by
  have h0 : (zRd T i).1.1 = 0 := Classical.byContradiction (fun y => h (Or.inl y))
  have hj : ∀ j, j < i → ¬ zDn T j := fun j hj y => by
    have := (zRd_st y (i - j)).1
    rw [show j + (i - j) = i by omega] at this
    exact h this
  have e := zRd_ct T i hj h0
  have := fb_ct_le (fun k => ((zRd T i).2.1 k).isSome) 5
  omega
theorem zRd_6 {T : zT} {i : Nat} (h : zDn T i) (hi : i ≤ 6) : zRd T 6 = zRd T i := by
  have := (zRd_st h (6 - i)).2
  rw [show i + (6 - i) = 6 by omega] at this
  exact this
theorem c_fillR {h : mm_H} {Q : Option Value → mm_H → Prop} (sh : s_h h) (k : ∀ h', fx h h' [] [20] → dn h h' → cLw h' (fun _ => none) → Q none h') : w_c 0 152 [.ref 20, .int (-1)] h Q := c_fill_20 sh (-1) (fun h' f d q => k h' f d (fun j hj => q j hj))
set_option maxHeartbeats 1000000 in
theorem c_read {h : mm_H} {Q : Option Value → mm_H → Prop} {T : zT} (sh : s_h h) (H : cT h T.1 T.2) (k : ∀ h', fx h h' gR [20] → dn h h' → cRd h' (zRd T 6) → Q none h') : w_c 25 34 [.ref 19, .ref 17] h Q := by
  have loop : ∀ w i, i + w = 6 → ∀ h1, fx h h1 gR [20] → dn h h1 → cRd h1 (zRd T i) → w_p 25 (4, 4, mc_X4_read) 30 [(0, .ref 19), (1, .ref 17), (2, .int (nI i))] [] h1 Q := by
    intro w
    induction w with
    | zero =>
      intro i hi h1 f d R
      have e : i = 6 := by omega
      subst e
      exact t_X4_read_30 (f.sh sh (by decide)) _ (K30 := fun _ _ => False) (fun _ _ z => z.elim) ⟨fun _ => k h1 f d R, fun z => absurd (show (5 : Int32) < nI 6 from (i_lt (a := 5) (b := 6) (by decide) (by decide)).mpr (by decide)) z⟩
    | succ w ih =>
      intro i hi h1 f d R
      have sh1 := f.sh sh (by decide)
      have H1 : cT h1 T.1 T.2 := H.fx f (by decide) (by decide)
      have stop : zDn T i → Q none h1 := fun y => k h1 f d (by rw [zRd_6 y (by omega)]; exact R)
      have go : h_oi h1 257 19 = 0 → ¬ zDn T i → w_c 24 35 [.ref 19, .ref 17] h1 (fun r h5 => r = none ∧ s_h h5 ∧ (nI i + 1 = nI (i + 1) ∧ fx h h5 gR [20] ∧ dn h h5 ∧ cRd h5 (zRd T (i + 1)))) := fun e0 hn => by
        have h0 : (zRd T i).1.1 = 0 := Classical.byContradiction (fun y => hn (Or.inl y))
        obtain ⟨o1, o2, o3⟩ := zRd_ok T i h0
        rcases R with ⟨_, To, Lw⟩ | ⟨y, _⟩
        · refine c_readLaw sh1 H1 To Lw o1 (fun k v e => by have := (o3 k v e).2; omega) (fun h5 f5 d5 R5 => ⟨rfl, f5.sh sh1 (by decide), nI_1 i, f.tr f5 (by decide) (by decide) (by decide) (by decide), d.tr d5, ?_⟩)
          rw [zRd_n hn]; exact R5
        · omega
      have ff : ¬ h_oi h1 257 19 = 0 → zDn T i := fun z => by
        rcases R with ⟨_, To, _⟩ | ⟨y, _⟩
        · exact absurd To.2.1 z
        · exact Or.inl (by omega)
      have f0 : h_oi h1 257 19 = 0 → (zRd T i).1.1 = 0 ∧ cTo h1 (zRd T i).2.2 := fun z => by
        rcases R with ⟨y, To, _⟩ | ⟨y, e, _⟩
        · exact ⟨y, To⟩
        · rw [e] at z
          have := (nI_eqI (b := 0) (by omega) (by decide)).mp z
          omega
      refine t_X4_read_30 sh1 _ (K30 := fun y hh => y = nI (i + 1) ∧ fx h hh gR [20] ∧ dn h hh ∧ cRd hh (zRd T (i + 1))) (fun y hh z => ?_) ⟨fun z => ?_, fun _ => ⟨fun z => ⟨fun y => stop (ff y), fun y => ?_⟩, fun z => ⟨fun z2 => ⟨fun y => stop (ff y), fun y => ?_⟩, fun z2 => ⟨fun y => stop (ff y), fun y => ?_⟩⟩⟩⟩
      · obtain ⟨rfl, q1, q2, q3⟩ := z
        exact ih (i + 1) (by omega) hh q1 q2 q3
      · have := (i_lt (a := 5) (by decide) (by omega)).mp z
        omega
      · have i0 : i = 0 := by
          have := (i_le (b := 0) (by omega) (by decide)).mp z
          omega
        exact go y (fun dn' => by
          rcases dn' with w | w
          · exact w (f0 y).1
          · omega)
      · refine go y (fun dn' => ?_)
        rcases dn' with w | w
        · exact w (f0 y).1
        · exact z2 (by rw [(f0 y).2.2.2.1, w.2]; rfl)
      · refine stop (Or.inr ⟨?_, ?_⟩)
        · rcases Nat.eq_zero_or_pos i with w | w
          · rw [w] at z; exact absurd (by decide) z
          · exact w
        · have e := (f0 y).2.2.2.1
          rw [z2] at e
          have := (nI_eqI (a := 0) (by decide) (by have := (f0 y).2.1; omega)).mp e
          omega
  refine t_X4_read_0 sh (K30 := fun y hh => y = nI 0 ∧ fx h hh gR [20] ∧ dn h hh ∧ cRd hh (zRd T 0)) (fun y hh z => ?_) ((c_fillR sh (fun h1 f1 d1 L1 => ⟨rfl, f1.sh sh (by decide), ?_⟩)).up (by decide))
  · obtain ⟨rfl, q1, q2, q3⟩ := z
    exact loop 6 0 (by omega) hh q1 q2 q3
  · have f2 : fx h (h_sI (h_sI (h_sI h1 257 19 0) 258 19 0) 262 19 0) gR [20] := (((f1.wk (by decide) (by decide)).sI _ (Or.inl (by decide))).sI _ (Or.inl (by decide))).sI _ (Or.inl (by decide))
    have d2 : dn h (h_sI (h_sI (h_sI h1 257 19 0) 258 19 0) 262 19 0) := ((d1.sI _ (by decide)).sI _ (by decide)).sI _ (by decide)
    have sh2 := f2.sh sh (by decide)
    have H2 : cT (h_sI (h_sI (h_sI h1 257 19 0) 258 19 0) 262 19 0) T.1 T.2 := H.fx f2 (by decide) (by decide)
    have g0 : h_oi (h_sI (h_sI (h_sI h1 257 19 0) 258 19 0) 262 19 0) 257 19 = 0 := (oi_neG (by decide) _).trans ((oi_neG (by decide) _).trans (oi_self _ _ _ _))
    have g3 : h_oi (h_sI (h_sI (h_sI h1 257 19 0) 258 19 0) 262 19 0) 262 19 = nI 0 := oi_self _ _ _ _
    have L2 : cLw (h_sI (h_sI (h_sI h1 257 19 0) 258 19 0) 262 19 0) (fun _ => none) := L1
    generalize (h_sI (h_sI (h_sI h1 257 19 0) 258 19 0) 262 19 0) = h2 at f2 d2 sh2 H2 g0 g3 L2 ⊢
    refine (c_scan sh2 H2 (Nat.zero_le _) g0 g3 (fun h3 f3 d3 T3 => ⟨rfl, f3.sh sh2 (by decide), rfl, f2.tr f3 (by decide) (by decide) (by decide) (by decide), d2.tr d3, ?_⟩)).up (by decide)
    show cRd h3 (zT1 (fun _ => none) (zTk T 0))
    unfold zT1
    rcases cTok_c T3 with ⟨To3, t3⟩ | ⟨t3, b0, b1⟩
    · rw [z_if_f (by omega)]
      exact Or.inl ⟨rfl, To3, fun j hj => by rw [f3.ai 20 (by decide) (by decide)]; exact L2 j hj⟩
    · rw [z_if_t t3]
      exact Or.inr ⟨by show 1 ≤ 1 ∧ 1 ≤ 4; decide, b0, b1⟩
