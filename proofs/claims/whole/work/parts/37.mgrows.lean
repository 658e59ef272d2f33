/-! THE REFERENCE'S SEARCH -/
def bI (fit : Nat → Nat → Bool) (F : Nat → Bool) (no k : Nat) (t : Nat → Option Nat) (n : Nat) (cb : Nat → Option Nat) (ti ln : Nat → Nat) : Prop := n = 1 + fb_ct (fun o => (cb o).isSome) no ∧ ln 0 = k ∧ (∀ i, 0 < i → i < n → ∃ o, o < no ∧ (cb o).isSome = true ∧ t o = some (ln i) ∧ ti o = i) ∧ ∀ o, o < no → cby fit F no k t cb ti o ∧ ((cb o).isSome = true → ti o < n ∧ t o = some (ln (ti o)))
section
variable {fit : Nat → Nat → Bool} {F : Nat → Bool} {lo no k n : Nat} {t cb : Nat → Option Nat} {ti ln : Nat → Nat}
theorem bI_ln (hm : mtc fit lo k F no t) (H : bI fit F no k t n cb ti ln) {i : Nat} (hi : i < n) : ln i ≤ k := by
  by_cases z : i = 0
  · rw [z, H.2.1]; exact Nat.le_refl _
  · obtain ⟨o, ho, _, e, _⟩ := H.2.2.1 i (by omega) hi
    have := (hm o ho _ e).1
    omega
theorem bI_cby (hm : mtc fit lo k F no t) (H : bI fit F no k t n cb ti ln) {i j : Nat} (hi : i < n) (hj : j < no) (e : cb j = none) (hF : F j = true) (hf : fit (ln i) j = true) : ∀ o, o < no → cby fit F no k t (va_up cb j (some (ln i))) (va_up ti j n) o := by
  intro o ho a ea
  by_cases z : o = j
  · rw [z, va_up_self] at ea
    cases ea
    rw [z, va_up_self]
    refine ⟨hF, hf, bI_ln hm H hi, ?_⟩
    by_cases y : i = 0
    · left; rw [y]; exact H.2.1
    · right
      obtain ⟨o2, ho2, c2, t2, e2⟩ := H.2.2.1 i (by omega) hi
      have hne : o2 ≠ j := fun w => by rw [w, e] at c2; cases c2
      exact ⟨o2, ho2, by rw [va_up_ne _ _ hne]; exact c2, t2, by rw [va_up_ne _ _ hne, e2]; exact hi⟩
  · rw [va_up_ne _ _ z] at ea
    obtain ⟨p1, p2, p3, p4⟩ := (H.2.2.2 o ho).1 a ea
    refine ⟨p1, p2, p3, p4.imp (fun y => y) (fun ⟨o2, ho2, c2, t2, e2⟩ => ?_)⟩
    have hne : o2 ≠ j := fun w => by rw [w, e] at c2; cases c2
    exact ⟨o2, ho2, by rw [va_up_ne _ _ hne]; exact c2, t2, by rw [va_up_ne _ _ hne, va_up_ne _ _ z]; exact e2⟩
theorem bI_mark (hm : mtc fit lo k F no t) (H : bI fit F no k t n cb ti ln) {i j b : Nat} (hi : i < n) (hj : j < no) (e : cb j = none) (hF : F j = true) (hf : fit (ln i) j = true) (et : t j = some b) : bI fit F no k t (n + 1) (va_up cb j (some (ln i))) (va_up ti j n) (va_up ln n b) := by
  have hc := bI_cby hm H hi hj e hF hf
  refine ⟨?_, ?_, fun i' h0 hi' => ?_, fun o ho => ⟨hc o ho, fun y => ?_⟩⟩
  · have c1 := mct_up (p := fun i => (cb i).isSome) (q := fun o => (va_up cb j (some (ln i)) o).isSome) hj (fun o _ z => by show (va_up cb j (some (ln i)) o).isSome = _; rw [va_up_ne _ _ z])
    rw [if_neg (by show ¬ (cb j).isSome = true; rw [e]; decide), if_pos (by show (va_up cb j (some (ln i)) j).isSome = true; rw [va_up_self]; rfl)] at c1
    have := H.1
    omega
  · rw [va_up_ne _ _ (by omega)]; exact H.2.1
  · by_cases z : i' = n
    · rw [z, va_up_self]
      exact ⟨j, hj, by rw [va_up_self]; rfl, et, va_up_self _ _ _⟩
    · obtain ⟨o2, ho2, c2, t2, e2⟩ := H.2.2.1 i' h0 (by omega)
      have hne : o2 ≠ j := fun w => by rw [w, e] at c2; cases c2
      exact ⟨o2, ho2, by rw [va_up_ne _ _ hne]; exact c2, by rw [va_up_ne _ _ z]; exact t2, by rw [va_up_ne _ _ hne]; exact e2⟩
  · by_cases z : o = j
    · rw [z, va_up_self, va_up_self]
      exact ⟨by omega, et⟩
    · rw [va_up_ne _ _ z] at y
      obtain ⟨q1, q2⟩ := (H.2.2.2 o ho).2 y
      rw [va_up_ne _ _ z, va_up_ne _ _ (by omega)]
      exact ⟨by omega, q2⟩
theorem bI_n (H : bI fit F no k t n cb ti ln) : n ≤ no + 1 := by
  have := fb_ct_le (fun o => (cb o).isSome) no
  have := H.1
  omega
end
set_option maxHeartbeats 2000000 in
theorem m_grows {h : mm_H} {Q : Option Value → mm_H → Prop} {na no lo k s : Nat} {fit : Nat → Nat → Bool} {F : Nat → Bool} {t w : Nat → Option Nat} {out : Int32} (sh : s_h h) (C : mC h na no) (Ft : mF h na no fit) (Tk : mTk h no t) (Mt : mMt h na w) (hc : cns na no w t) (hm : mtc fit lo k F no t) (hF : ∀ o, o < no → bt out o = !F o) (hs : msz no t = s) (hk : k < na) (hlo : lo ≤ k)
    (kF : ∀ h', fx h h' [] [62, 63, 64, 65] → dn h h' → mTk h' no t → mMt h' na w → (∃ (V : Nat → Prop) (T : Nat → Bool), V k ∧ (∀ a, V a → ∀ o, o < no → F o = true → fit a o = true → T o = true) ∧ ∀ o, o < no → T o = true → ∃ a, t o = some a ∧ V a) → Q (some (.int 0)) h')
    (kT : ∀ h' t2 w2, fx h h' [] [62, 63, 64, 65] → dn h h' → mTk h' no t2 → mMt h' na w2 → cns na no w2 t2 → mtc fit lo (k + 1) F no t2 → msz no t2 = s + 1 → Q (some (.int 1)) h') : w_c 1 137 [.ref 44, .int (nI k), .int out] h Q := by
  obtain ⟨hna, hno⟩ := C.1
  have loop2 : ∀ m i, i + m = 12 → ∀ (h1 : mm_H) (n : Nat) (cb : Nat → Option Nat) (ti ln : Nat → Nat), fx h h1 [] [64, 65] → dn h h1 → mCb h1 no cb → mLn h1 n ln → bI fit F no k t n cb ti ln → i ≤ n → (∀ i', i' < i → ∀ o, o < no → F o = true → fit (ln i') o = true → (cb o).isSome = true) → w_p (0 + 1) (9, 7, mc_X9_grows) 36 [(0, .ref 44), (1, .int (nI k)), (2, .int out), (3, .int (nI n)), (4, .int (nI i))] [] h1 Q := by
    intro m
    induction m with
    | zero =>
      intro i hi h1 n cb ti ln f d Cb Ln H hin cl
      have := bI_n H
      omega
    | succ m ih =>
      intro i hi h1 n cb ti ln f d Cb Ln H hin cl
      have hn := bI_n H
      by_cases hend : n ≤ i
      · have ei : i = n := by omega
        subst ei
        refine t_X9_grows_36 (f.sh sh (by decide)) _ _ _ _ (K54 := fun _ _ _ _ _ _ _ => False) (fun _ _ _ _ _ _ _ z => z.elim) ⟨fun _ => ?_, fun c => absurd ?_ c⟩
        · have f4 : fx h h1 [] [62, 63, 64, 65] := f.tr (fx.rf _ [] []) (by decide) (by decide) (by decide) (by decide)
          refine kF h1 f4 d (Tk.fx f (by decide)) (Mt.fx f (by decide)) ⟨fun a => ∃ i', i' < i ∧ ln i' = a, fun o => (cb o).isSome, ⟨0, ?_, H.2.1⟩, fun a ⟨i', h1, h2⟩ o ho y1 y2 => cl i' h1 o ho y1 (by rw [h2]; exact y2), fun o ho y => ?_⟩
          · have := H.1; omega
          · obtain ⟨q1, q2⟩ := (H.2.2.2 o ho).2 y
            exact ⟨_, q2, _, q1, rfl⟩
        · exact (i_le (by omega) (by omega)).mpr (Nat.le_refl _)
      · have inner : ∀ m2 j, j + m2 = no → ∀ (h1 : mm_H) (n : Nat) (cb : Nat → Option Nat) (ti ln : Nat → Nat), fx h h1 [] [64, 65] → dn h h1 → mCb h1 no cb → mLn h1 n ln → bI fit F no k t n cb ti ln → i < n → (∀ i', i' < i → ∀ o, o < no → F o = true → fit (ln i') o = true → (cb o).isSome = true) → (∀ o, o < j → F o = true → fit (ln i) o = true → (cb o).isSome = true) → w_p (0 + 1) (9, 7, mc_X9_grows) 54 [(0, .ref 44), (1, .int (nI k)), (2, .int out), (3, .int (nI n)), (4, .int (nI i)), (5, .int (nI (ln i))), (6, .int (nI j))] [] h1 Q := by
          intro m2
          induction m2 with
          | zero =>
            intro j hj h1 n cb ti ln f d Cb Ln H hin cl cl2
            have C1 := C.fx f (by decide) (by decide)
            refine t_X9_grows_54 (f.sh sh (by decide)) _ _ _ _ _ _ (K36 := fun x1 x2 x3 x4 hh => x1 = nI k ∧ x2 = out ∧ x3 = nI n ∧ x4 = nI (i + 1) ∧ hh = h1) (fun x1 x2 x3 x4 hh q => ?_) (K54 := fun _ _ _ _ _ _ _ => False) (fun _ _ _ _ _ _ _ z => z.elim) ⟨fun _ => ⟨rfl, rfl, rfl, nI_1 i, rfl⟩, fun c => absurd ?_ c⟩
            · obtain ⟨rfl, rfl, rfl, rfl, rfl⟩ := q
              refine ih (i + 1) (by omega) hh n cb ti ln f d Cb Ln H hin (fun i' hi' o ho y1 y2 => ?_)
              by_cases z : i' = i
              · rw [z] at y2; exact cl2 o (by omega) y1 y2
              · exact cl i' (by omega) o ho y1 y2
            · rw [C1.2.2, i_le (by omega) (by omega)]
              omega
          | succ m2 ih2 =>
            intro j hj h1 n cb ti ln f d Cb Ln H hin cl cl2
            have hn := bI_n H
            have C1 := C.fx f (by decide) (by decide)
            have Ft1 := Ft.fx f (by decide)
            have Tk1 := Tk.fx f (by decide)
            have hlnk := bI_ln hm H hin
            have hv : vp_in (nI j) 10 := vp_in_nI (by omega) (by decide)
            have ej : (nI j).toNatClampNeg = j := i_cl (by omega)
            refine t_X9_grows_54 (f.sh sh (by decide)) _ _ _ _ _ _ (K36 := fun _ _ _ _ _ => False) (fun _ _ _ _ _ z => z.elim) (K54 := fun x1 x2 x3 x4 x5 x6 hh => x1 = nI k ∧ x2 = out ∧ x4 = nI i ∧ x6 = nI (j + 1) ∧ ∃ n cb ti ln, x3 = nI n ∧ x5 = nI (ln i) ∧ fx h hh [] [64, 65] ∧ dn h hh ∧ mCb hh no cb ∧ mLn hh n ln ∧ bI fit F no k t n cb ti ln ∧ i < n ∧ (∀ i', i' < i → ∀ o, o < no → F o = true → fit (ln i') o = true → (cb o).isSome = true) ∧ (∀ o, o < j + 1 → F o = true → fit (ln i) o = true → (cb o).isSome = true)) (fun x1 x2 x3 x4 x5 x6 hh q => ?_) ⟨fun c => ?_, fun _ => ?_⟩
            · obtain ⟨rfl, rfl, rfl, rfl, n2, cb2, ti2, ln2, rfl, rfl, q1, q2, q3, q4, q5, q6, q7, q8⟩ := q
              exact ih2 (j + 1) (by omega) hh n2 cb2 ti2 ln2 q1 q2 q3 q4 q5 q6 q7 q8
            · rw [C1.2.2, i_le (by omega) (by omega)] at c
              omega
            · rw [e10, i_cl (by omega), Ft1 (ln i) (by omega) j (by omega)]
              have stay : (F j = true → fit (ln i) j = true → (cb j).isSome = true) → (nI k = nI k ∧ out = out ∧ nI i = nI i ∧ nI j + 1 = nI (j + 1) ∧ ∃ n' cb ti ln', nI n = nI n' ∧ nI (ln i) = nI (ln' i) ∧ fx h h1 [] [64, 65] ∧ dn h h1 ∧ mCb h1 no cb ∧ mLn h1 n' ln' ∧ bI fit F no k t n' cb ti ln' ∧ i < n' ∧ (∀ i', i' < i → ∀ o, o < no → F o = true → fit (ln' i') o = true → (cb o).isSome = true) ∧ (∀ o, o < j + 1 → F o = true → fit (ln' i) o = true → (cb o).isSome = true)) := fun z => ⟨rfl, rfl, rfl, nI_1 j, n, cb, ti, ln, rfl, rfl, f, d, Cb, Ln, H, hin, cl, fun o ho y1 y2 => by
                by_cases x : o = j
                · subst x; exact z y1 y2
                · exact cl2 o (by omega) y1 y2⟩
              refine ⟨vp_in_nI (by omega) (by decide), fun c => stay (fun _ y => ?_), fun c => ⟨hv, ?_⟩⟩
              · rw [y, if_pos rfl] at c; exact absurd c (by decide)
              · have hf : fit (ln i) j = true := by
                  cases e : fit (ln i) j with
                  | true => rfl
                  | false => rw [e] at c; exact absurd rfl c
                rw [ej, Cb j (by omega)]
                cases ec : cb j with
                | some a =>
                  refine ⟨fun _ => stay (fun _ _ => by rw [ec]; rfl), fun z => absurd z (oN_ne a ?_)⟩
                  have := ((H.2.2.2 j (by omega)).1 a ec).2.2.1
                  omega
                | none =>
                  refine ⟨fun z => absurd rfl z, fun _ => ?_⟩
                  rw [bit_sh _ (by omega), hF j (by omega)]
                  refine ⟨fun c => stay (fun y _ => ?_), fun c => ⟨hv, hv, ?_⟩⟩
                  · rw [y] at c; exact absurd rfl c
                  · have hFj : F j = true := by
                      cases e : F j with
                      | true => rfl
                      | false => rw [e] at c; cases c
                    rw [Tk1 j (by omega)]
                    have f2 : fx h (h_sA h1 64 j (nI (ln i))) [] [64, 65] := f.sA _ _ (by decide)
                    have d2 : dn h (h_sA h1 64 j (nI (ln i))) := d.sA _ _ (by decide)
                    have Cb2 : mCb (h_sA h1 64 j (nI (ln i))) no (va_up cb j (some (ln i))) := fun o ho => by
                      show va_up (h_ai h1 64) j (nI (ln i)) o = _
                      by_cases z : o = j
                      · rw [z, va_up_self, va_up_self]; rfl
                      · rw [va_up_ne _ _ z, va_up_ne _ _ z]; exact Cb o ho
                    cases et : t j with
                    | some b =>
                      have hb := (hm j (by omega) b et).1
                      refine ⟨fun _ => ⟨hv, vp_in_nI (by omega) (by decide), rfl, rfl, rfl, nI_1 j, n + 1, va_up cb j (some (ln i)), va_up ti j n, va_up ln n b, nI_1 n, by rw [va_up_ne _ _ (by omega)], ?_⟩, fun z => absurd z (oN_ne b (by omega))⟩
                      rw [i_cl (by omega)]
                      have f3 : fx h (h_sA (h_sA h1 64 j (nI (ln i))) 65 n (nI b)) [] [64, 65] := f2.sA _ _ (by decide)
                      refine ⟨f3, d2.sA _ _ (by decide), fun o ho => Cb2 o ho, fun x hx => ?_, bI_mark hm H hin (by omega) ec hFj hf et, by omega, fun i' hi' o ho y1 y2 => ?_, fun o ho y1 y2 => ?_⟩
                      · show va_up (h_ai h1 65) n (nI b) x = _
                        by_cases z : x = n
                        · rw [z, va_up_self, va_up_self]
                        · rw [va_up_ne _ _ z, va_up_ne _ _ z]; exact Ln x (by omega)
                      · rw [va_up_ne _ _ (by omega)] at y2
                        by_cases z : o = j
                        · rw [z, va_up_self]; rfl
                        · rw [va_up_ne _ _ z]; exact cl i' hi' o ho y1 y2
                      · rw [va_up_ne _ _ (by omega)] at y2
                        by_cases z : o = j
                        · rw [z, va_up_self]; rfl
                        · rw [va_up_ne _ _ z]; exact cl2 o (by omega) y1 y2
                    | none =>
                      refine ⟨fun z => absurd rfl z, fun _ => ?_⟩
                      refine t_X9_change_0 (f2.sh sh (by decide)) _ (K2 := fun x y hh => x = nI j ∧ y = nI j ∧ hh = h_sA h1 64 j (nI (ln i))) (fun x y hh q => ?_) ⟨rfl, rfl, rfl⟩
                      obtain ⟨rfl, rfl, rfl⟩ := q
                      refine m_change (s := s) hna hno hk hlo (bI_cby hm H hin (by omega) ec hFj hf) _ _ (Nat.le_refl _) (f2.sh sh (by decide)) Cb2 (Mt.fx f2 (by decide)) (fun o ho _ => (Tk.fx f2 (by decide)) o ho) hm hs hc (by omega) et (by rw [va_up_self]; rfl) (fun _ _ _ _ => rfl) (fun h5 t2 w2 f5 d5 k1 k2 k3 k4 k5 => ?_)
                      have f6 : fx h h5 [] [62, 63, 64, 65] := f2.tr f5 (by decide) (by decide) (by decide) (by decide)
                      exact ⟨rfl, f6.sh sh (by decide), kT h5 t2 w2 f6 (d2.tr d5) k1 k2 k3 k4 k5⟩
        refine t_X9_grows_36 (f.sh sh (by decide)) _ _ _ _ (K54 := fun x1 x2 x3 x4 x5 x6 hh => x1 = nI k ∧ x2 = out ∧ x3 = nI n ∧ x4 = nI i ∧ x5 = nI (ln i) ∧ x6 = nI 0 ∧ hh = h1) (fun x1 x2 x3 x4 x5 x6 hh q => ?_) ⟨fun c => ?_, fun _ => ⟨vp_in_nI (by omega) (by decide), rfl, rfl, rfl, rfl, ?_, rfl, rfl⟩⟩
        · obtain ⟨rfl, rfl, rfl, rfl, rfl, rfl, rfl⟩ := q
          exact inner no 0 (by omega) hh n cb ti ln f d Cb Ln H (by omega) cl (fun o ho => by omega)
        · have := (i_le (by omega) (by omega)).mp c
          omega
        · rw [i_cl (by omega)]
          exact Ln i (by omega)
  have loop1 : ∀ m j, j + m = no → ∀ (h1 : mm_H), fx h h1 [] [64, 65] → dn h h1 → (∀ o, o < j → h_ai h1 64 o = -4) → w_p (0 + 1) (9, 7, mc_X9_grows) 2 [(0, .ref 44), (1, .int (nI k)), (2, .int out), (3, .int (nI j))] [] h1 Q := by
    intro m
    induction m with
    | zero =>
      intro j hj h1 f d r
      have C1 := C.fx f (by decide) (by decide)
      refine t_X9_grows_2 (f.sh sh (by decide)) _ _ _ (K2 := fun _ _ _ _ => False) (fun _ _ _ _ z => z.elim) (K36 := fun x1 x2 x3 x4 hh => x1 = nI k ∧ x2 = out ∧ x3 = nI 1 ∧ x4 = nI 0 ∧ hh = h_sA h1 65 0 (nI k)) (fun x1 x2 x3 x4 hh q => ?_) ⟨fun _ => ⟨vp_in_nI (n := 0) (by decide) (by decide), rfl, rfl, rfl, rfl, rfl⟩, fun c => absurd ?_ c⟩
      · obtain ⟨rfl, rfl, rfl, rfl, rfl⟩ := q
        refine loop2 12 0 rfl _ 1 (fun _ => none) (fun _ => 0) (fun _ => k) (f.sA _ _ (by decide)) (d.sA _ _ (by decide)) (fun o ho => r o (by omega)) (fun i hi => ?_) ⟨?_, rfl, fun i h0 hi => by omega, fun o ho => ⟨fun a e => (by cases e), fun z => (by cases z)⟩⟩ (by omega) (fun i' hi' => by omega)
        · show va_up (h_ai h1 65) 0 (nI k) i = _
          rw [show i = 0 by omega, va_up_self]
        · rw [(fb_ct_zero (p := fun o => ((fun _ : Nat => (none : Option Nat)) o).isSome)).mpr (fun _ _ => rfl)]
      · rw [C1.2.2, i_le (by omega) (by omega)]
        omega
    | succ m ih =>
      intro j hj h1 f d r
      have C1 := C.fx f (by decide) (by decide)
      refine t_X9_grows_2 (f.sh sh (by decide)) _ _ _ (K2 := fun x1 x2 x3 hh => x1 = nI k ∧ x2 = out ∧ x3 = nI (j + 1) ∧ fx h hh [] [64, 65] ∧ dn h hh ∧ (∀ o, o < j + 1 → h_ai hh 64 o = -4)) (fun x1 x2 x3 hh q => ?_) (K36 := fun _ _ _ _ _ => False) (fun _ _ _ _ _ z => z.elim) ⟨fun c => ?_, fun _ => ⟨vp_in_nI (by omega) (by decide), rfl, rfl, nI_1 j, f.sA _ _ (by decide), d.sA _ _ (by decide), fun o ho => ?_⟩⟩
      · obtain ⟨rfl, rfl, rfl, q1, q2, q3⟩ := q
        exact ih (j + 1) (by omega) hh q1 q2 q3
      · rw [C1.2.2, i_le (by omega) (by omega)] at c
        omega
      · show va_up (h_ai h1 64) (nI j).toNatClampNeg (-4) o = -4
        rw [i_cl (by omega)]
        by_cases z : o = j
        · rw [z, va_up_self]
        · rw [va_up_ne _ _ z]; exact r o (by omega)
  refine t_X9_grows_0 (D := 0) sh _ _ (K2 := fun x1 x2 x3 hh => x1 = nI k ∧ x2 = out ∧ x3 = nI 0 ∧ hh = h) (fun x1 x2 x3 hh q => ?_) ⟨rfl, rfl, rfl, rfl⟩
  obtain ⟨rfl, rfl, rfl, rfl⟩ := q
  exact loop1 no 0 (by omega) hh (fx.rf _ _ _) (dn.rf _) (fun o ho => by omega)
