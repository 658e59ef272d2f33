/-- the notes of a purse in all -/
def sN (nt : Nat → Nat) (T : Nat) : Prop := fb_sm nt 2001 = T
/-- what goes of each day when a notes go, the oldest first -/
def mvd (nt : Nat → Nat) (a x : Nat) : Nat := min (nt x) (a - fb_sm nt x)
theorem mvd_sum (nt : Nat → Nat) (a : Nat) : ∀ x, fb_sm (mvd nt a) x = min a (fb_sm nt x)
  | 0 => by show 0 = min a 0; omega
  | x + 1 => by
    rw [fb_sm_succ, fb_sm_succ, mvd_sum nt a x]
    unfold mvd
    omega
theorem mvd_min {nt : Nat → Nat} (h0 : ∀ x, 2000 < x → nt x = 0) (a x : Nat) : mvd nt (min a (fb_sm nt 2001)) x = mvd nt a x := by
  unfold mvd
  by_cases z : x ≤ 2000
  · have := fb_sm_part nt (i := x) (n := 2001) (by omega)
    omega
  · rw [h0 x (by omega)]
    omega
theorem mvd_0 {m : Nat} {hd hn nt : Nat → Nat} (H : pL m hd hn nt) {i j : Nat} (hi : i ≤ m) (hj : j < m) : mvd nt (fb_sm hn i) (hd j) = if j < i then hn j else 0 := by
  unfold mvd
  rw [pL_at H hj, (H.2.1 j hj).2.2]
  by_cases z : j < i
  · rw [if_pos z]
    have s1 : fb_sm hn (j + 1) ≤ fb_sm hn i := fb_sm_lt hn (by omega)
    have s2 : fb_sm hn (j + 1) = fb_sm hn j + hn j := fb_sm_succ hn j
    omega
  · rw [if_neg z]
    have s1 : fb_sm hn i ≤ fb_sm hn j := fb_sm_lt hn (by omega)
    omega
theorem mvd_step {m : Nat} {hd hn nt : Nat → Nat} (H : pL m hd hn nt) {i so : Nat} (hi : i < m) (hso : so ≤ hn i) (x : Nat) : mvd nt (fb_sm hn i + so) x = va_up (mvd nt (fb_sm hn i)) (hd i) so x := by
  by_cases z : ∃ j, j < m ∧ hd j = x
  · obtain ⟨j, hj, rfl⟩ := z
    by_cases y : j = i
    · subst y
      rw [va_up_self]
      unfold mvd
      rw [pL_at H hj, (H.2.1 j hj).2.2]
      omega
    · have hne : hd j ≠ hd i := by
        rcases Nat.lt_or_ge j i with w | w
        · have := H.1 j i w hi; omega
        · have := H.1 i j (by omega) hj; omega
      rw [va_up_ne _ _ hne, mvd_0 H (by omega) hj]
      unfold mvd
      rw [pL_at H hj, (H.2.1 j hj).2.2]
      have s2 : fb_sm hn (j + 1) = fb_sm hn j + hn j := fb_sm_succ hn j
      have s3 : fb_sm hn (i + 1) = fb_sm hn i + hn i := fb_sm_succ hn i
      by_cases w : j < i
      · rw [if_pos w]
        have s1 : fb_sm hn (j + 1) ≤ fb_sm hn i := fb_sm_lt hn (by omega)
        omega
      · rw [if_neg w]
        have s1 : fb_sm hn (i + 1) ≤ fb_sm hn j := fb_sm_lt hn (by omega)
        omega
  · have e0 : nt x = 0 := pL_no H (fun i hi y => z ⟨i, hi, y⟩)
    rw [va_up_ne _ _ (fun y => z ⟨i, hi, y.symm⟩)]
    unfold mvd
    rw [e0]
    omega
theorem pL_mv {m : Nat} {hd hn nt : Nat → Nat} (H : pL m hd hn nt) {e a : Nat} (he : e ≤ m) (h1 : fb_sm hn e ≤ a) (h2 : e < m → a < fb_sm hn (e + 1)) : pL (m - e) (fun i => hd (i + e)) (fun i => hn (i + e) - mvd nt a (hd (i + e))) (fun x => nt x - mvd nt a x) := by
  have key : ∀ j, j < m → (j < e → mvd nt a (hd j) = hn j) ∧ (e ≤ j → mvd nt a (hd j) < hn j) := by
    intro j hj
    have s2 : fb_sm hn (j + 1) = fb_sm hn j + hn j := fb_sm_succ hn j
    have hp := (H.2.1 j hj).2.1
    unfold mvd
    rw [pL_at H hj, (H.2.1 j hj).2.2]
    refine ⟨fun z => ?_, fun z => ?_⟩
    · have s1 : fb_sm hn (j + 1) ≤ fb_sm hn e := fb_sm_lt hn (by omega)
      omega
    · have s1 : fb_sm hn (e + 1) ≤ fb_sm hn (j + 1) := fb_sm_lt hn (by omega)
      have := h2 (by omega)
      omega
  refine ⟨fun i j hij hj => H.1 (i + e) (j + e) (by omega) (by omega), fun i hi => ⟨(H.2.1 (i + e) (by omega)).1, ?_, ?_⟩, fun d hd' => ?_⟩
  · have := (key (i + e) (by omega)).2 (by omega)
    show 0 < hn (i + e) - mvd nt a (hd (i + e))
    omega
  · show nt (hd (i + e)) - mvd nt a (hd (i + e)) = _
    rw [(H.2.1 (i + e) (by omega)).2.2]
  · have hd' : 0 < nt d - mvd nt a d := hd'
    obtain ⟨j, hj, rfl⟩ := H.2.2 d (by omega)
    have : e ≤ j := by
      rcases Nat.lt_or_ge j e with w | w
      · have := (key j hj).1 w
        rw [this, (H.2.1 j hj).2.2] at hd'
        omega
      · exact w
    exact ⟨j - e, by omega, by show hd (j - e + e) = _; rw [Nat.sub_add_cancel this]⟩
theorem gr.tr {h h1 h2 : mm_H} {c c1 c2 : Nat} (a : gr h c h1 c1) (b : gr h1 c1 h2 c2) : gr h c h2 c2 := by
  obtain ⟨a1, a2, a3⟩ := a
  obtain ⟨b1, b2, b3⟩ := b
  exact ⟨by omega, by omega, by omega⟩

