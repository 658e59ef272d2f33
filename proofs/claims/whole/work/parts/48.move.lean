/-- words that omega need not see -/
def nw (h : mm_H) (a b : Nat) : Prop := a = b ∨ h_n h ≤ a
def n4 (d n td tn : Nat) : Prop := d ≠ td ∧ d ≠ tn ∧ n ≠ td ∧ n ≠ tn
def mvc (hn : Nat → Nat) (s mv e i : Nat) : Prop := (s = fb_sm hn i ∧ e = i) ∨ (s = mv ∧ e + 1 = i ∧ fb_sm hn e ≤ mv ∧ mv < fb_sm hn (e + 1))
theorem min_is {a b c : Nat} (h : min a b = c) : c ≤ a ∧ c ≤ b ∧ (c ≠ a → c = b) := by omega
theorem nw_tr {h h1 : mm_H} {a b c : Nat} (q : nw h b c) (z : nw h1 a b) (hn : h_n h ≤ h_n h1) : nw h a c := by
  rcases z with y | y
  · rcases q with x | x
    · exact Or.inl (y.trans x)
    · exact Or.inr (by omega)
  · exact Or.inr (by omega)
theorem n4_tr {h1 : mm_H} {d n td tn td2 tn2 : Nat} (q : n4 d n td tn) (z1 : nw h1 td2 td) (z2 : nw h1 tn2 tn) (hd : d < h_n h1) (hn : n < h_n h1) : n4 d n td2 tn2 := by
  obtain ⟨y1, y2, y3, y4⟩ := q
  refine ⟨?_, ?_, ?_, ?_⟩
  · rcases z1 with x | x
    · rw [x]; exact y1
    · omega
  · rcases z2 with x | x
    · rw [x]; exact y2
    · omega
  · rcases z1 with x | x
    · rw [x]; exact y3
    · omega
  · rcases z2 with x | x
    · rw [x]; exact y4
    · omega
def p6 (p d n t td tn : Nat) : Nat → Prop := fun a => p3 p d n a ∨ p3 t td tn a
set_option maxHeartbeats 4000000 in
theorem c_move {h : mm_H} {Q : Option Value → mm_H → Prop} {p d n c t td tn tc a : Nat} {nt ntt : Nat → Nat} (sh : s_h h) (P : pS h p d n c nt) (PT : pS h t td tn tc ntt) (hpt : p ≠ t) (hd1 : d ≠ td ∧ d ≠ tn ∧ n ≠ td ∧ n ≠ tn) {TT TN : Nat} (hT : sN nt TT) (hN : sN ntt TN) (hb : TN + TT ≤ 100000000) (ha : a ≤ 100000000)
    (k : ∀ h' td' tn' tc', ex h h' (p6 p d n t td tn) → pS h' p d n c (fun x => nt x - mvd nt (min a TT) x) → pS h' t td' tn' tc' (fun x => ntt x + mvd nt (min a TT) x) → (td' = td ∨ h_n h ≤ td') → (tn' = tn ∨ h_n h ≤ tn') → gr h tc h' tc' → Q (some (.int (nI (min a TT)))) h') : w_c 23 29 [.ref p, .int (nI a), .ref t] h Q := by
  obtain ⟨m, hd, hn, A, L, T, B⟩ := id P
  rw [show fb_sm nt 2001 = TT from hT] at T B
  obtain ⟨K, hmc, hm, hv⟩ := id A
  obtain ⟨e1, e2, e3⟩ := K.ne
  obtain ⟨⟨k1, k2, k3⟩, ⟨r1, r2⟩, ⟨l1, l2⟩, ⟨b1, b2, b3, b4, b5, b6, b7⟩, c1, c2⟩ := id K
  have KT := PT.k
  obtain ⟨⟨kt1, kt2, kt3⟩, _, _, ⟨bt1, bt2, bt3, bt4, bt5, bt6, bt7⟩, _⟩ := id KT
  have hall : TT = fb_sm hn m := (show fb_sm nt 2001 = TT from hT).symm.trans (pL_all L)
  have hlen := pL_len L
  generalize hmv : min a TT = mv at k
  have hmv1 : mv ≤ TT := by omega
  have h670 : ∀ x, p6 p d n t td tn x → 70 ≤ x := fun x z => z.elim (p3_70 K x) (p3_70 KT x)
  have fin : ∀ (e : Nat) (x4 x6 : Int32), e ≤ m → fb_sm hn e ≤ mv → (e < m → mv < fb_sm hn (e + 1)) → ∀ (h1 : mm_H) (td' tn' tc' : Nat), ex h h1 (p6 p d n t td tn) → pK h1 p d n c → h_oi h1 194 p = nI m → h_oi h1 195 p = nI TT → (∀ j, j < m → h_ai h1 d j = nI (hd j) ∧ h_ai h1 n j = nI (hn j - mvd nt mv (hd j))) → pS h1 t td' tn' tc' (fun x => ntt x + mvd nt mv x) → nw h td' td → nw h tn' tn → n4 d n td' tn' → gr h tc h1 tc' → w_p (22 + 1) (3, 8, mc_X3_moveOldest) 101 [(0, .ref p), (1, .int (nI a)), (2, .ref t), (3, .int (nI mv)), (4, .int x4), (5, .int (nI e)), (6, .int x6)] [] h1 Q := by
    intro e x4 x6 he s1 s2 h1 td' tn' tc' f K1 m1 t1 q PT1 q1 q2 q3 g1
    obtain ⟨⟨k1, k2, k3⟩, ⟨r1, r2⟩, ⟨l1, l2⟩, _⟩ := id K1
    have sh1 := s_h.ex sh f h670
    refine t_X3_moveOldest_101 (D := 22) sh1 p _ t _ _ _ _ k1 k2 k3 r1 r2 l1 l2 (by omega) (by omega) (by omega) ?_
    rw [t1, nI_sub hmv1]
    have f1 : ex h1 (h_sI h1 195 p (nI (TT - mv))) (p3 p d n) := (ex.rf _ _).sI _ (Or.inl (Or.inl rfl))
    have sh2 := s_h.ex sh1 f1 (p3_70 K)
    have A2 : pA (h_sI h1 195 p (nI (TT - mv))) p d n c m hd (fun j => hn j - mvd nt mv (hd j)) := ⟨K1, hmc, (oi_neG (by decide) p).trans m1, q⟩
    refine (c_rmold sh2 A2 he (fun h3 f3 r3 A3 t3 => ⟨rfl, s_h.ex sh2 f3 (p3_70 K), ?_⟩)).up (by decide)
    have f13 : ex h1 h3 (p3 p d n) := f1.tr f3 (fun _ z => z) (fun _ _ z => z)
    have L3 := pL_mv L he s1 s2
    have es : sN (fun x => nt x - mvd nt mv x) (TT - mv) := by
      have e1 : fb_sm (fun x => (fun x => nt x - mvd nt mv x) x + mvd nt mv x) 2001 = fb_sm nt 2001 := fb_sm_cong (fun x _ => by
        show nt x - mvd nt mv x + mvd nt mv x = nt x
        unfold mvd
        omega)
      rw [fb_sm_add, mvd_sum, show fb_sm nt 2001 = TT from hT] at e1
      show fb_sm _ 2001 = _
      omega
    have KT1 := PT1.k
    obtain ⟨⟨kt1, kt2, kt3⟩, _⟩ := id KT1
    have nt1 : ¬ p3 p d n t := by
      rintro (z | z | z)
      · exact hpt z.symm
      · rw [z, k2] at kt1; cases kt1
      · rw [z, k3] at kt1; cases kt1
    have nt2 : ¬ p3 p d n td' := by
      rintro (z | z | z)
      · rw [z, k1] at kt2; cases kt2
      · exact q3.1 z.symm
      · exact q3.2.2.1 z.symm
    have nt3 : ¬ p3 p d n tn' := by
      rintro (z | z | z)
      · rw [z, k1] at kt3; cases kt3
      · exact q3.2.1 z.symm
      · exact q3.2.2.2 z.symm
    refine k h3 td' tn' tc' (f.tr f13 (fun _ z => z) (fun _ _ z => Or.inl z)) ⟨m - e, _, _, A3, L3, ?_, ?_⟩ (PT1.ex f13 nt1 nt2 nt3) q1 q2 ?_
    · rw [t3, oi_self]
      exact congrArg nI (Eq.symm es)
    · exact Nat.le_trans (Nat.le_of_eq es) (by omega)
    · obtain ⟨g2, g3, g4⟩ := g1
      exact ⟨by rw [r3.2]; exact g2, by rw [r3.1]; exact g3, g4⟩
  have loop : ∀ w i, i + w = m → ∀ (h1 : mm_H) (s td' tn' tc' e : Nat), ex h h1 (p6 p d n t td tn) → pK h1 p d n c → h_oi h1 194 p = nI m → h_oi h1 195 p = nI TT → (∀ j, j < m → h_ai h1 d j = nI (hd j) ∧ h_ai h1 n j = nI (hn j - mvd nt s (hd j))) → pS h1 t td' tn' tc' (fun x => ntt x + mvd nt s x) → nw h td' td → nw h tn' tn → n4 d n td' tn' → gr h tc h1 tc' → s ≤ mv → mvc hn s mv e i → w_p (22 + 1) (3, 8, mc_X3_moveOldest) 22 [(0, .ref p), (1, .int (nI a)), (2, .ref t), (3, .int (nI mv)), (4, .int (nI (mv - s))), (5, .int (nI e)), (6, .int (nI i))] [] h1 Q := by
    intro w
    induction w with
    | zero =>
      intro i hi h1 s td' tn' tc' e f K1 m1 t1 q PT1 q1 q2 q3 g1 hs hc
      obtain ⟨⟨k1, k2, k3⟩, ⟨r1, r2⟩, ⟨l1, l2⟩, _⟩ := id K1
      have ei : i = m := by omega
      have hsm : s = mv := by
        rcases hc with ⟨y1, y2⟩ | ⟨y1, _⟩
        · rw [ei] at y1; omega
        · exact y1
      rw [hsm] at q PT1
      refine t_X3_moveOldest_22 (D := 22) (s_h.ex sh f h670) p _ t _ _ _ _ (K63 := fun _ _ _ _ _ _ _ _ _ => False) (fun _ _ _ _ _ _ _ _ _ z => z.elim) (K101 := fun y1 y2 y3 y4 y5 y6 y7 hh => y1 = p ∧ y2 = nI a ∧ y3 = t ∧ y4 = nI mv ∧ y6 = nI e ∧ hh = h1) (fun y1 y2 y3 y4 y5 y6 y7 hh z => ?_) k1 k2 k3 r1 r2 l1 l2 (by omega) (by omega) (by omega) ⟨fun _ => ⟨rfl, rfl, rfl, rfl, rfl, rfl⟩, fun z => absurd ?_ z⟩
      · obtain ⟨rfl, rfl, rfl, rfl, rfl, rfl⟩ := z
        refine fin e y5 y7 ?_ ?_ ?_ hh td' tn' tc' f K1 m1 t1 q PT1 q1 q2 q3 g1
        · rcases hc with ⟨_, y⟩ | ⟨_, y, _⟩ <;> omega
        · rcases hc with ⟨y1, y2⟩ | ⟨_, _, y, _⟩
          · rw [y2]; omega
          · exact y
        · intro y
          rcases hc with ⟨_, y2⟩ | ⟨_, _, _, y2⟩
          · omega
          · exact y2
      · rw [m1, i_le (by omega) (by omega)]
        omega
    | succ w ih =>
      intro i hi h1 s td' tn' tc' e f K1 m1 t1 q PT1 q1 q2 q3 g1 hs hc
      obtain ⟨⟨k1, k2, k3⟩, ⟨r1, r2⟩, ⟨l1, l2⟩, ⟨_, _, _, bb4, bb5, bb6, _⟩, _⟩ := id K1
      have sh1 := s_h.ex sh f h670
      have sS : fb_sm hn (i + 1) = fb_sm hn i + hn i := fb_sm_succ hn i
      have hni := (L.2.1 i (by omega)).2.1
      have hdi := (L.2.1 i (by omega)).1
      have sle : fb_sm hn (i + 1) ≤ fb_sm hn m := fb_sm_lt hn (by omega)
      by_cases hl : mv - s = 0
      · have hsm : s = mv := by omega
        rw [hsm] at q PT1
        refine t_X3_moveOldest_22 (D := 22) sh1 p _ t _ _ _ _ (K63 := fun _ _ _ _ _ _ _ _ _ => False) (fun _ _ _ _ _ _ _ _ _ z => z.elim) (K101 := fun y1 y2 y3 y4 y5 y6 y7 hh => y1 = p ∧ y2 = nI a ∧ y3 = t ∧ y4 = nI mv ∧ y6 = nI e ∧ hh = h1) (fun y1 y2 y3 y4 y5 y6 y7 hh z => ?_) k1 k2 k3 r1 r2 l1 l2 (by omega) (by omega) (by omega) ⟨fun _ => ⟨rfl, rfl, rfl, rfl, rfl, rfl⟩, fun _ => ⟨fun _ => ⟨rfl, rfl, rfl, rfl, rfl, rfl⟩, fun z => absurd ?_ z⟩⟩
        · obtain ⟨rfl, rfl, rfl, rfl, rfl, rfl⟩ := z
          refine fin e y5 y7 ?_ ?_ ?_ hh td' tn' tc' f K1 m1 t1 q PT1 q1 q2 q3 g1
          · rcases hc with ⟨_, y⟩ | ⟨_, y, _⟩ <;> omega
          · rcases hc with ⟨y1, y2⟩ | ⟨_, _, y, _⟩
            · rw [y2]; omega
            · exact y
          · intro y
            rcases hc with ⟨y1, y2⟩ | ⟨_, _, _, y2⟩
            · rw [y2]; omega
            · exact y2
        · rw [hl]; decide
      · obtain ⟨hsi, hei⟩ : s = fb_sm hn i ∧ e = i := by
          rcases hc with y | ⟨y, _⟩
          · exact y
          · omega
        subst hei
        have v1 : vp_in (nI e) c := vp_in_nI (by omega) (by omega)
        have ecl : (nI e).toNatClampNeg = e := i_cl (by omega)
        have mv0 : mvd nt s (hd e) = 0 := by
          rw [hsi, mvd_0 L (by omega) (by omega), if_neg (by omega)]
        have en : h_ai h1 n e = nI (hn e) := by rw [(q e (by omega)).2, mv0, Nat.sub_zero]
        have ed : h_ai h1 d e = nI (hd e) := (q e (by omega)).1
        have emin : (if nI (hn e) < nI (mv - s) then nI (hn e) else nI (mv - s)) = nI (min (hn e) (mv - s)) := by
          by_cases z : hn e < mv - s
          · rw [if_pos ((i_lt (by omega) (by omega)).mpr z), Nat.min_eq_left (by omega)]
          · rw [if_neg (fun y => z ((i_lt (by omega) (by omega)).mp y)), Nat.min_eq_right (by omega)]
        have KT1 := PT1.k
        obtain ⟨⟨kt1, kt2, kt3⟩, _⟩ := id KT1
        generalize hso : min (hn e) (mv - s) = so at emin
        obtain ⟨hso1, hso2, hso3⟩ := min_is hso
        clear hso
        have esum : sN (fun x => ntt x + mvd nt s x) (TN + s) := by
          show fb_sm _ 2001 = _
          rw [fb_sm_add, mvd_sum, show fb_sm nt 2001 = TT from hT, show fb_sm ntt 2001 = TN from hN]
          omega
        have estep : ∀ x, va_up (fun x => ntt x + mvd nt s x) (hd e) (ntt (hd e) + mvd nt s (hd e) + so) x = ntt x + mvd nt (s + so) x := fun x => by
          rw [hsi, mvd_step L (i := e) (by omega) hso1 x]
          by_cases z : x = hd e
          · rw [z, va_up_self, va_up_self, ← hsi, mv0, Nat.add_zero]
          · rw [va_up_ne _ _ z, va_up_ne _ _ z]
        refine t_X3_moveOldest_22 (D := 22) sh1 p _ t _ _ _ _ (K63 := fun y1 y2 y3 y4 y5 y6 y7 y8 hh => y1 = p ∧ y2 = nI a ∧ y3 = t ∧ y4 = nI mv ∧ y5 = nI (mv - s) ∧ y6 = nI e ∧ y7 = nI e ∧ y8 = nI so ∧ ex h1 hh (p3 t td' tn') ∧ ∃ td2 tn2 tc2, pS hh t td2 tn2 tc2 (fun x => ntt x + mvd nt (s + so) x) ∧ nw h1 td2 td' ∧ nw h1 tn2 tn' ∧ gr h1 tc' hh tc2) (fun y1 y2 y3 y4 y5 y6 y7 y8 hh z => ?_) (K101 := fun _ _ _ _ _ _ _ _ => False) (fun _ _ _ _ _ _ _ _ z => z.elim) k1 k2 k3 r1 r2 l1 l2 (by omega) (by omega) (by omega) ⟨fun z => ?_, fun _ => ⟨fun z => ?_, fun _ => ⟨v1, v1, kt1, ?_⟩⟩⟩
        · obtain ⟨rfl, rfl, rfl, rfl, rfl, rfl, rfl, rfl, f2, td2, tn2, tc2, PT2, z1, z2, z3⟩ := z
          have n1 : ¬ p3 y3 td' tn' y1 := by
            rintro (z | z | z)
            · exact hpt z
            · rw [z, kt2] at k1; cases k1
            · rw [z, kt3] at k1; cases k1
          have n2 : ¬ p3 y3 td' tn' d := by
            rintro (z | z | z)
            · rw [z, kt1] at k2; cases k2
            · exact q3.1 z
            · exact q3.2.1 z
          have n3 : ¬ p3 y3 td' tn' n := by
            rintro (z | z | z)
            · rw [z, kt1] at k3; cases k3
            · exact q3.2.2.1 z
            · exact q3.2.2.2 z
          have K2 : pK hh y1 d n c := K1.ex f2 n1
          have sh2 := s_h.ex sh1 f2 (p3_70 KT1)
          have g2 := (f2.2 y1 bb4).2 n1
          have gd := ((f2.2 d bb5).2 n2).1
          have gn := ((f2.2 n bb6).2 n3).1
          obtain ⟨⟨k1, k2, k3⟩, ⟨r1, r2⟩, ⟨l1, l2⟩, _⟩ := id K2
          have f02 : ex h hh (p6 y1 d n y3 td tn) := f.tr f2 (fun _ z => z) (fun x hx z => by
            rcases z with z | z | z
            · exact Or.inr (Or.inl z)
            · rcases q1 with y | y
              · exact Or.inr (Or.inr (Or.inl (z.trans y)))
              · omega
            · rcases q2 with y | y
              · exact Or.inr (Or.inr (Or.inr (z.trans y)))
              · omega)
          have f03 : ex h (h_sA hh n e (nI (hn e - so))) (p6 y1 d n y3 td tn) := f02.sA _ _ (Or.inl (Or.inl (Or.inr (Or.inr rfl))))
          have hnn : h_n h ≤ h_n h1 := f.1
          have q1' : nw h td2 td := nw_tr q1 z1 hnn
          have q2' : nw h tn2 tn := nw_tr q2 z2 hnn
          have q3' : n4 d n td2 tn2 := n4_tr q3 z1 z2 bb5 bb6
          have arr : ∀ j, j < m → h_ai (h_sA hh n e (nI (hn e - so))) d j = nI (hd j) ∧ h_ai (h_sA hh n e (nI (hn e - so))) n j = nI (hn j - mvd nt (s + so) (hd j)) := fun j hj => by
            rw [ai_ne e3, ai_self, gd, gn]
            refine ⟨(q j hj).1, ?_⟩
            rw [hsi, mvd_step L (i := e) (by omega) hso1]
            by_cases z : j = e
            · rw [z, va_up_self, va_up_self]
            · have hne : hd j ≠ hd e := by
                rcases Nat.lt_or_ge j e with w | w
                · have := L.1 j e w (by omega); omega
                · have := L.1 e j (by omega) hj; omega
              rw [va_up_ne _ _ z, va_up_ne _ _ hne, ← hsi]
              exact (q j hj).2
          have nA : ¬ (fun x => x = n) y3 := fun z => by
            have z : y3 = n := z
            have w := PT2.k.1.1
            rw [z, k3] at w
            cases w
          have fA : ex hh (h_sA hh n e (nI (hn e - so))) (fun x => x = n) := (ex.rf _ _).sA _ _ (Or.inl rfl)
          have PT3 : pS (h_sA hh n e (nI (hn e - so))) y3 td2 tn2 tc2 (fun x => ntt x + mvd nt (s + so) x) := PT2.ex fA nA (fun z => q3'.2.2.1 (Eq.symm z)) (fun z => q3'.2.2.2 (Eq.symm z))
          refine t_X3_moveOldest_63 (D := 22) sh2 y1 _ y3 _ _ _ _ _ (K22 := fun y1' y2' y3' y4' y5' y6' y7' hh' => y1' = y1 ∧ y2' = nI a ∧ y3' = y3 ∧ y4' = nI mv ∧ y5' = nI (mv - (s + so)) ∧ y7' = nI (e + 1) ∧ hh' = h_sA hh n e (nI (hn e - so)) ∧ ((so = hn e ∧ y6' = nI (e + 1)) ∨ (so ≠ hn e ∧ y6' = nI e))) (fun y1' y2' y3' y4' y5' y6' y7' hh' z => ?_) k1 k2 k3 r1 r2 l1 l2 (by omega) (by omega) (by omega) ⟨v1, v1, v1, ?_⟩
          · obtain ⟨rfl, rfl, rfl, rfl, rfl, rfl, rfl, (⟨y, rfl⟩ | ⟨y, rfl⟩)⟩ := z
            · exact ih (e + 1) (by omega) _ (s + so) td2 tn2 tc2 (e + 1) f03 K2 ((g2.2.2 194).2.trans m1) ((g2.2.2 195).2.trans t1) arr PT3 q1' q2' q3' (g1.tr z3) (by omega) (Or.inl ⟨by omega, rfl⟩)
            · exact ih (e + 1) (by omega) _ (s + so) td2 tn2 tc2 e f03 K2 ((g2.2.2 194).2.trans m1) ((g2.2.2 195).2.trans t1) arr PT3 q1' q2' q3' (g1.tr z3) (by omega) (Or.inr ⟨by have := hso3 y; omega, rfl, by omega, by have := hso3 y; omega⟩)
          · rw [ecl, gn, en, nI_sub hso1, ai_self, va_up_self, nI_sub hso2, Nat.sub_sub]
            refine ⟨fun z => ⟨rfl, rfl, rfl, rfl, rfl, nI_1 e, rfl, Or.inr ⟨fun y => z (by rw [y, Nat.sub_self]; rfl), rfl⟩⟩, fun z => ⟨rfl, rfl, rfl, rfl, rfl, nI_1 e, rfl, Or.inl ⟨?_, nI_1 e⟩⟩⟩
            have := (nI_eqI (b := 0) (by omega) (by decide)).mp z
            omega
        · rw [m1, i_le (by omega) (by omega)] at z
          omega
        · have := (i_le (b := 0) (by omega) (by decide)).mp z
          omega
        · rw [ecl, en, ed, emin]
          refine c_put sh1 PT1 hdi (by rw [show fb_sm (fun x => ntt x + mvd nt s x) 2001 = TN + s from esum]; omega) (fun h2 td2 tn2 tc2 f2 PT2 z1 z2 z3 => ⟨rfl, s_h.ex sh1 f2 (p3_70 KT1), rfl, rfl, rfl, rfl, rfl, rfl, rfl, rfl, f2, td2, tn2, tc2, ?_, z1, z2, z3⟩)
          have ef : va_up (fun x => ntt x + mvd nt s x) (hd e) (ntt (hd e) + mvd nt s (hd e) + so) = fun x => ntt x + mvd nt (s + so) x := funext estep
          rw [← ef]
          exact PT2
  have hmvI : (if 0 < (if (h_oi h 195 p) < nI a then (h_oi h 195 p) else nI a) then (if (h_oi h 195 p) < nI a then (h_oi h 195 p) else nI a) else 0) = nI mv := by
    rw [T]
    have e1 : (if nI TT < nI a then nI TT else nI a) = nI mv := by
      by_cases z : TT < a
      · rw [if_pos ((i_lt (by omega) (by omega)).mpr z)]
        congr 1; omega
      · rw [if_neg (fun y => z ((i_lt (by omega) (by omega)).mp y))]
        congr 1; omega
    rw [e1]
    by_cases z : 0 < mv
    · rw [if_pos (show (0 : Int32) < nI mv from (i_lt (a := 0) (by decide) (by omega)).mpr z)]
    · rw [if_neg (show ¬ (0 : Int32) < nI mv from fun y => z ((i_lt (a := 0) (by decide) (by omega)).mp y))]
      rw [show mv = 0 by omega]; rfl
  refine t_X3_moveOldest_0 (D := 22) sh p _ t (K22 := fun y1 y2 y3 y4 y5 y6 y7 hh => y1 = p ∧ y2 = nI a ∧ y3 = t ∧ y4 = nI mv ∧ y5 = nI (mv - 0) ∧ y6 = nI 0 ∧ y7 = nI 0 ∧ hh = h) (fun y1 y2 y3 y4 y5 y6 y7 hh z => ?_) k1 k2 k3 r1 r2 l1 l2 (by omega) (by omega) (by omega) ⟨rfl, rfl, rfl, hmvI, hmvI, rfl, rfl, rfl⟩
  obtain ⟨rfl, rfl, rfl, rfl, rfl, rfl, rfl, rfl⟩ := z
  have z0 : ∀ x, mvd nt 0 x = 0 := fun x => by unfold mvd; omega
  refine loop m 0 (by omega) hh 0 td tn tc 0 (ex.rf _ _) K hm T (fun j hj => by rw [z0, Nat.sub_zero]; exact hv j hj) ?_ (Or.inl rfl) (Or.inl rfl) hd1 ⟨by omega, by omega, Nat.le_refl _⟩ (by omega) (Or.inl ⟨rfl, rfl⟩)
  have : (fun x => ntt x + mvd nt 0 x) = ntt := funext fun x => by rw [z0, Nat.add_zero]
  rw [this]
  exact PT
