/-! OPERATIONS on the tape and the texts: end, fault, rule, unwind, feed -/
theorem nat_of {x : Int32} (h : ¬ x < 0) : ∃ j : Nat, j < 2147483648 ∧ x = nI j := by
  obtain ⟨j, h1, h2⟩ := nI_of h
  exact ⟨j, by omega, h2⟩
theorem i_lt {a b : Nat} (ha : a < 2147483648) (hb : b < 2147483648) : nI a < nI b ↔ a < b := nI_ltI (by omega) (by omega)
theorem i_le {a b : Nat} (ha : a < 2147483648) (hb : b < 2147483648) : nI a ≤ nI b ↔ a ≤ b := nI_leI (by omega) (by omega)
theorem i_cl {a : Nat} (ha : a < 2147483648) : (nI a).toNatClampNeg = a := nI_clamp (by omega)
theorem wL (n : Nat) (h : n < 2147483648) : (nI n).toInt64 = Int64.ofNat n := nI_l (by omega)
/-- in(v, 0, n) for an int v -/
theorem f_in_nz {v : Int32} {a b : Nat} (ha : a < 2147483648) (hb : b < 2147483648) : (¬ f_in v.toInt64 (Int64.ofNat a) (Int64.ofNat b) = 0) ↔ (nI a ≤ v ∧ v ≤ nI b) := by
  rw [← wL a ha, ← wL b hb, f_in_I]
  by_cases c : nI a ≤ v ∧ v ≤ nI b
  · rw [if_pos c]; exact ⟨fun _ => c, fun _ => by decide⟩
  · rw [if_neg c]; exact ⟨fun z => absurd rfl z, fun z => absurd z c⟩
def cT (h : mm_H) (tl : Nat) (tp : Nat → Nat) : Prop := tl ≤ 200 ∧ h_oi h 385 17 = nI tl ∧ ∀ i, i < tl → tp i < 256 ∧ h_ai h 18 i = (nI (tp i)).toInt8.toInt32
def mT (h : mm_H) (tl : Nat) (tp : Nat → Nat) : Prop := tl ≤ 200 ∧ h_oi h 577 44 = nI tl ∧ ∀ i, i < tl → tp i < 256 ∧ h_ai h 45 i = nI (tp i)
def cD (h : mm_H) (dy : Nat) : Prop := dy ≤ 2000 ∧ h_oi h 521 16 = nI dy
def mD (h : mm_H) (dy : Nat) : Prop := dy ≤ 2000 ∧ h_oi h 588 44 = nI dy
def cE (h : mm_H) (ft : Int32) : Prop := h_oi h 522 16 = ft
def mE (h : mm_H) (ft : Int32) : Prop := h_oi h 582 44 = ft
section GR
variable {h h' : mm_H} {gs : List (Nat × Nat)} {as : List Nat} {tl : Nat} {tp : Nat → Nat} {tn : Nat} {td : Nat → Nat} {tv : Nat → Nat → Option Nat} {dy : Nat} {ft : Int32}
theorem cT.fx (H : cT h tl tp) (f : fx h h' gs as) (n1 : (385, 17) ∉ gs) (n2 : 18 ∉ as) : cT h' tl tp := by
  unfold cT at H ⊢
  rw [f.oi 385 17 (by decide) n1, f.ai 18 (by decide) n2]
  exact H
theorem mT.fx (H : mT h tl tp) (f : fx h h' gs as) (n1 : (577, 44) ∉ gs) (n2 : 45 ∉ as) : mT h' tl tp := by
  unfold mT at H ⊢
  rw [f.oi 577 44 (by decide) n1, f.ai 45 (by decide) n2]
  exact H
theorem cD.fx (H : cD h dy) (f : fx h h' gs as) (n1 : (521, 16) ∉ gs) : cD h' dy := by
  unfold cD at H ⊢
  rw [f.oi 521 16 (by decide) n1]
  exact H
theorem mD.fx (H : mD h dy) (f : fx h h' gs as) (n1 : (588, 44) ∉ gs) : mD h' dy := by
  unfold mD at H ⊢
  rw [f.oi 588 44 (by decide) n1]
  exact H
theorem cE.fx (H : cE h ft) (f : fx h h' gs as) (n1 : (522, 16) ∉ gs) : cE h' ft := by
  unfold cE at H ⊢
  rw [f.oi 522 16 (by decide) n1]
  exact H
theorem mE.fx (H : mE h ft) (f : fx h h' gs as) (n1 : (582, 44) ∉ gs) : mE h' ft := by
  unfold mE at H ⊢
  rw [f.oi 582 44 (by decide) n1]
  exact H
theorem cX.fx (H : cX h tn td tv) (f : fx h h' gs as) (n1 : (66, 21) ∉ gs) (n2 : 22 ∉ as) (n3 : ∀ i, i < 6 → 24 + i ∉ as) : cX h' tn td tv := by
  obtain ⟨h1, h2, h3⟩ := H
  refine ⟨h1, by rw [f.oi 66 21 (by decide) n1]; exact h2, fun i hi => ?_⟩
  have h6 := h1.1
  rw [f.ai 22 (by decide) n2, f.ai (24 + i) (by omega) (n3 i (by omega))]
  exact h3 i hi
theorem mX.fx (H : mX h tn td tv) (f : fx h h' gs as) (n1 : (585, 44) ∉ gs) (n2 : 47 ∉ as) (n3 : 48 ∉ as) : mX h' tn td tv := by
  unfold mX at H ⊢
  rw [f.oi 585 44 (by decide) n1, f.ai 47 (by decide) n2, f.ai 48 (by decide) n3]
  exact H
end GR
/-- end(n): the answer, the new length -/
def a_end (tl : Nat) (n : Int32) : Int32 × Nat := if 0 ≤ n ∧ n ≤ nI tl then (nI tl, n.toNatClampNeg) else (-1, tl)
theorem le0 {x : Int32} : (0 ≤ x) ↔ ¬ x < 0 := by
  rw [fa_le, fa_lt]
  omega
theorem c_end {h : mm_H} {Q : Option Value → mm_H → Prop} (sh : s_h h) {tl : Nat} {tp : Nat → Nat} (H : cT h tl tp) (n : Int32) (k : ∀ h', fx h h' [(385, 17)] [] → dn h h' → cT h' (a_end tl n).2 tp → Q (some (.int (a_end tl n).1)) h') : w_c 0 63 [.ref 16, .int n] h Q := by
  obtain ⟨h1, h2, h3⟩ := id H
  unfold a_end at k
  refine t_X8_end_0 sh n ⟨fun c => ?_, fun c => ?_⟩
  · rw [if_neg (fun z => (le0.mp z.1) c)] at k
    exact k h (fx.rf _ _ _) (dn.rf _) H
  · rw [h2]
    refine ⟨fun c2 => ?_, fun c2 => ?_⟩
    · rw [if_pos ⟨le0.mpr c, c2⟩] at k
      refine k _ ((fx.rf _ _ _).sI _ (by decide)) ((dn.rf _).sI _ (by decide)) ?_
      obtain ⟨j, hj, rfl⟩ := nat_of c
      rw [i_le hj (by omega)] at c2
      refine ⟨?_, ?_, fun i hi => ?_⟩
      · show (nI j).toNatClampNeg ≤ 200
        rw [i_cl hj]; omega
      · show nI j = nI (nI j).toNatClampNeg
        rw [i_cl hj]
      · have hi : i < (nI j).toNatClampNeg := hi
        rw [i_cl hj] at hi
        exact h3 i (by omega)
    · rw [if_neg (fun z => c2 z.2)] at k
      exact k h (fx.rf _ _ _) (dn.rf _) H
theorem m_end {h : mm_H} {Q : Option Value → mm_H → Prop} (sh : s_h h) {tl : Nat} {tp : Nat → Nat} (H : mT h tl tp) (n : Int32) (k : ∀ h', fx h h' [(577, 44)] [] → dn h h' → mT h' (a_end tl n).2 tp → Q (some (.int (a_end tl n).1)) h') : w_c 1 105 [.ref 44, .int n] h Q := by
  obtain ⟨h1, h2, h3⟩ := id H
  unfold a_end at k
  refine t_X9_end_0 sh n ?_
  rw [h2, wL tl (by omega)]
  refine ⟨fun c => ?_, fun c => ?_⟩
  · rw [f_in_nz (by decide) (by omega)] at c
    have c : 0 ≤ n ∧ n ≤ nI tl := c
    rw [if_pos c] at k
    have c0 : ¬ n < 0 := le0.mp c.1
    refine k _ ((fx.rf _ _ _).sI _ (by decide)) ((dn.rf _).sI _ (by decide)) ?_
    obtain ⟨j, hj, rfl⟩ := nat_of c0
    have c2 := c.2
    rw [i_le hj (by omega)] at c2
    refine ⟨?_, ?_, fun i hi => ?_⟩
    · show (nI j).toNatClampNeg ≤ 200
      rw [i_cl hj]; omega
    · show nI j = nI (nI j).toNatClampNeg
      rw [i_cl hj]
    · have hi : i < (nI j).toNatClampNeg := hi
      rw [i_cl hj] at hi
      exact h3 i (by omega)
  · have c1 : ¬ (0 ≤ n ∧ n ≤ nI tl) := fun z => by
      have := (f_in_nz (v := n) (a := 0) (b := tl) (by decide) (by omega)).mpr z
      exact this c
    rw [if_neg c1] at k
    exact k h (fx.rf _ _ _) (dn.rf _) H
theorem c_fault {h : mm_H} {Q : Option Value → mm_H → Prop} (sh : s_h h) {ft : Int32} (H : cE h ft) (k : Q (some (.int ft)) h) : w_c 0 65 [.ref 16] h Q := t_X8_fault_0 sh (by rw [show h_oi h 522 16 = ft from H]; exact k)
theorem m_fault {h : mm_H} {Q : Option Value → mm_H → Prop} (sh : s_h h) {ft : Int32} (H : mE h ft) (k : Q (some (.int ft)) h) : w_c 0 113 [.ref 44] h Q := t_X9_fault_0 sh (by rw [show h_oi h 582 44 = ft from H]; exact k)
/-- rule(day, what) -/
def a_rule (tn : Nat) (td : Nat → Nat) (tv : Nat → Nat → Option Nat) (d w : Int32) : Int32 := if (0 ≤ d ∧ d ≤ 2000) ∧ (0 ≤ w ∧ w ≤ 5) then (if w = 5 then oN (tB td d.toNatClampNeg tn) else tL tn td tv d.toNatClampNeg w.toNatClampNeg) else -1
theorem c_rule {h : mm_H} {Q : Option Value → mm_H → Prop} (sh : s_h h) {tn : Nat} {td : Nat → Nat} {tv : Nat → Nat → Option Nat} (H : cX h tn td tv) (d w : Int32) (k : Q (some (.int (a_rule tn td tv d w))) h) : w_c 2 67 [.ref 16, .int d, .int w] h Q := by
  unfold a_rule at k
  refine t_X8_rule_0 sh d w ⟨fun c => ?_, fun c => ⟨fun c2 => ?_, fun c2 => ⟨fun c3 => ?_, fun c3 => ⟨fun c4 => ?_, fun c4 => ?_⟩⟩⟩⟩
  · rw [if_neg (fun z => (le0.mp z.1.1) c)] at k; exact k
  · rw [if_neg (fun z => by have := (fa_le _ _).mp z.1.2; have := (fa_lt _ _).mp c2; omega)] at k; exact k
  · rw [if_neg (fun z => (le0.mp z.2.1) c3)] at k; exact k
  · have hd : 0 ≤ d ∧ d ≤ 2000 := ⟨le0.mpr c, fa_of_nlt c2⟩
    rw [if_pos ⟨hd, le0.mpr c3, c4⟩] at k
    obtain ⟨j, hj, rfl⟩ := nat_of c
    obtain ⟨i, hi, rfl⟩ := nat_of c3
    have h5 : i ≤ 5 := (i_le hi (by decide)).mp c4
    rw [i_cl hj, i_cl hi] at k
    refine ⟨fun c5 => ?_, fun c5 => ?_⟩
    · rw [if_neg c5] at k
      have hi5 : i ≠ 5 := fun z => c5 (by rw [z]; rfl)
      exact sp_lawC sh H hj (by omega) ⟨_, rfl, sh, k⟩
    · rw [if_pos c5] at k
      exact (sp_textOfC sh H hj ⟨_, rfl, sh, k⟩)
  · rw [if_neg (fun z => c4 z.2.2)] at k; exact k
theorem m_rule {h : mm_H} {Q : Option Value → mm_H → Prop} (sh : s_h h) {tn : Nat} {td : Nat → Nat} {tv : Nat → Nat → Option Nat} (H : mX h tn td tv) (d w : Int32) (k : Q (some (.int (a_rule tn td tv d w))) h) : w_c 2 117 [.ref 44, .int d, .int w] h Q := by
  unfold a_rule at k
  refine t_X9_rule_0 sh d w ⟨fun c => ?_, fun c => ?_⟩
  · rw [if_neg (fun z => ((f_in_nz (by decide) (by decide)).mpr z.1) c)] at k; exact k
  · have hd := (f_in_nz (by decide) (by decide)).mp c
    refine ⟨fun c2 => ?_, fun c2 => ?_⟩
    · have hw := (f_in_nz (by decide) (by decide)).mp c2
      rw [if_pos ⟨hd, hw⟩] at k
      obtain ⟨j, hj, rfl⟩ := nat_of (le0.mp hd.1)
      obtain ⟨i, hi, rfl⟩ := nat_of (le0.mp hw.1)
      have h5 : i ≤ 5 := (i_le hi (by decide)).mp hw.2
      rw [i_cl hj, i_cl hi] at k
      refine ⟨fun c5 => ?_, fun c5 => ?_⟩
      · rw [if_neg c5] at k
        have hi5 : i ≠ 5 := fun z => c5 (by rw [z]; rfl)
        exact sp_lawM sh H hj (by omega) ⟨_, rfl, sh, k⟩
      · rw [if_pos c5] at k
        exact (sp_textOfM sh H hj ⟨_, rfl, sh, k⟩)
    · rw [if_neg (fun z => ((f_in_nz (by decide) (by decide)).mpr z.2) c2)] at k; exact k
/-- unwind() -/
def a_unw (tn : Nat) (td : Nat → Nat) (dy : Nat) : Int32 × Nat := if tn = 0 then (-4, tn) else if td (tn - 1) ≤ dy then (-2, tn) else (nI (tn - 1), tn - 1)
theorem xC.less {tn : Nat} {td : Nat → Nat} {tv : Nat → Nat → Option Nat} (H : xC tn td tv) : xC (tn - 1) td tv := ⟨by have := H.1; omega, fun i hi => H.2 i (by omega)⟩
theorem c_unw {h : mm_H} {Q : Option Value → mm_H → Prop} (sh : s_h h) {tn : Nat} {td : Nat → Nat} {tv : Nat → Nat → Option Nat} {dy : Nat} (H : cX h tn td tv) (D : cD h dy) (k : ∀ h', fx h h' [(66, 21)] [] → dn h h' → cX h' (a_unw tn td dy).2 td tv → Q (some (.int (a_unw tn td dy).1)) h') : w_c 1 66 [.ref 16] h Q := by
  obtain ⟨h1, h2, h3⟩ := id H
  have h6 := h1.1
  unfold a_unw at k
  refine t_X8_unwind_0 sh ?_
  rw [h2]
  refine ⟨fun c => ?_, fun c => ?_⟩
  · have c : tn ≠ 0 := fun z => c (by rw [z]; rfl)
    rw [if_neg c] at k
    refine t_X1_latestDay_0 sh ?_
    have e1 : nI tn - 1 = nI (tn - 1) := by
      show nI tn - nI 1 = _
      rw [pk_sub (by omega)]
    have e2 := (h3 (tn - 1) (by omega)).1
    have b2 := (h1.2 (tn - 1) (by omega)).1
    rw [h2]
    refine ⟨fun c2 => ?_, fun _ => ?_⟩
    · have : nI tn ≤ nI 0 := c2
      rw [i_le (by omega) (by decide)] at this
      omega
    · rw [e1, i_cl (by omega), e2]
      refine ⟨vp_in_nI (by omega) (by decide), _, rfl, sh, ?_⟩
      rw [D.2]
      have := D.1
      refine ⟨fun c3 => ?_, fun c3 => ?_⟩
      · rw [i_lt (by omega) (by omega)] at c3
        rw [if_neg (by omega)] at k
        exact k _ ((fx.rf _ _ _).sI _ (by decide)) ((dn.rf _).sI _ (by decide)) ⟨h1.less, rfl, fun i hi => h3 i (by omega)⟩
      · rw [i_lt (by omega) (by omega)] at c3
        rw [if_pos (by omega)] at k
        exact k h (fx.rf _ _ _) (dn.rf _) H
  · have c : tn = 0 := (nI_eqI (by omega) (by decide)).mp c
    rw [if_pos c] at k
    exact k h (fx.rf _ _ _) (dn.rf _) H
theorem m_unw {h : mm_H} {Q : Option Value → mm_H → Prop} (sh : s_h h) {tn : Nat} {td : Nat → Nat} {tv : Nat → Nat → Option Nat} {dy : Nat} (H : mX h tn td tv) (D : mD h dy) (k : ∀ h', fx h h' [(585, 44)] [] → dn h h' → mX h' (a_unw tn td dy).2 td tv → Q (some (.int (a_unw tn td dy).1)) h') : w_c 1 114 [.ref 44] h Q := by
  obtain ⟨h1, h2, h3⟩ := id H
  have h6 := h1.1
  unfold a_unw at k
  refine t_X9_unwind_0 sh ?_
  rw [h2]
  refine ⟨fun c => ?_, fun c => ?_⟩
  · have c : tn ≠ 0 := fun z => c (by rw [z]; rfl)
    rw [if_neg c] at k
    have e1 : nI tn - 1 = nI (tn - 1) := by
      show nI tn - nI 1 = _
      rw [pk_sub (by omega)]
    have e2 := (h3 (tn - 1) (by omega)).1
    have b2 := (h1.2 (tn - 1) (by omega)).1
    rw [e1, i_cl (by omega), e2, D.2]
    have := D.1
    refine ⟨vp_in_nI (by omega) (by decide), fun c3 => ?_, fun c3 => ?_⟩
    · rw [i_lt (by omega) (by omega)] at c3
      rw [if_neg (by omega)] at k
      exact k _ ((fx.rf _ _ _).sI _ (by decide)) ((dn.rf _).sI _ (by decide)) ⟨h1.less, rfl, fun i hi => h3 i (by omega)⟩
    · rw [i_lt (by omega) (by omega)] at c3
      rw [if_pos (by omega)] at k
      exact k h (fx.rf _ _ _) (dn.rf _) H
  · have c : tn = 0 := (nI_eqI (by omega) (by decide)).mp c
    rw [if_pos c] at k
    exact k h (fx.rf _ _ _) (dn.rf _) H
