/-! fewer locals, in another order -/
def mm_nd (lo : mm_L) : Prop := (lo.map Prod.fst).Nodup
theorem mm_lkn : ∀ {lo : mm_L} {i : Nat} {v : Value}, mm_nd lo → (i, v) ∈ lo → mm_lk lo i = some v
  | [], _, _, _, h => by cases h
  | q :: t, i, v, hn, h => by
    unfold mm_nd at hn
    rw [List.map_cons, List.nodup_cons] at hn
    unfold mm_lk
    rcases List.mem_cons.mp h with rfl | h
    · rw [if_pos (by exact beq_self_eq_true i)]
    · have hne : ¬ (q.1 == i) = true := fun z => by
        have z : q.1 = i := eq_of_beq z
        exact hn.1 (by rw [z]; exact List.mem_map.mpr ⟨(i, v), h, rfl⟩)
      rw [if_neg hne]
      exact mm_lkn hn.2 h
theorem mm_st_mem {lo : mm_L} {i : Nat} {v : Value} {q : Nat × Value} : q ∈ mm_st lo i v ↔ q = (i, v) ∨ (q ∈ lo ∧ (!(q.1 == i) && !(q.1 + 1 == i && q.2.category == 2)) = true) := by
  unfold mm_st
  rw [List.mem_cons, List.mem_filter]
theorem mm_st2_mem {lo : mm_L} {i : Nat} {v : Value} {q : Nat × Value} : q ∈ mm_st2 lo i v ↔ q = (i, v) ∨ (q ∈ lo ∧ (!(q.1 == i) && (!(q.1 == i + 1) && !(q.1 + 1 == i && q.2.category == 2))) = true) := by
  unfold mm_st2
  rw [List.mem_cons, List.mem_filter]
theorem mm_nd_f {lo : mm_L} {i : Nat} {v : Value} {p : Nat × Value → Bool} (hn : mm_nd lo) (hp : ∀ q, p q = true → q.1 ≠ i) : mm_nd ((i, v) :: lo.filter p) := by
  unfold mm_nd at hn ⊢
  rw [List.map_cons, List.nodup_cons]
  refine ⟨fun h => ?_, ?_⟩
  · obtain ⟨q, hq, e⟩ := List.mem_map.mp h
    exact hp q (List.mem_filter.mp hq).2 e
  · exact hn.sublist (List.Sublist.map _ List.filter_sublist)
theorem mm_st_nd {lo : mm_L} {i : Nat} {v : Value} (hn : mm_nd lo) : mm_nd (mm_st lo i v) := mm_nd_f hn (fun q h => by
  rw [Bool.and_eq_true] at h
  have h1 := h.1
  intro e
  rw [e] at h1
  simp at h1)
theorem mm_st2_nd {lo : mm_L} {i : Nat} {v : Value} (hn : mm_nd lo) : mm_nd (mm_st2 lo i v) := mm_nd_f hn (fun q h => by
  rw [Bool.and_eq_true] at h
  have h1 := h.1
  intro e
  rw [e] at h1
  simp at h1)
theorem mm_st_sub {lo lo' : mm_L} {i : Nat} {v : Value} (hs : ∀ q ∈ lo', q ∈ lo) : ∀ q ∈ mm_st lo' i v, q ∈ mm_st lo i v := fun q hq => mm_st_mem.mpr ((mm_st_mem.mp hq).imp id (fun z => ⟨hs q z.1, z.2⟩))
theorem mm_st2_sub {lo lo' : mm_L} {i : Nat} {v : Value} (hs : ∀ q ∈ lo', q ∈ lo) : ∀ q ∈ mm_st2 lo' i v, q ∈ mm_st2 lo i v := fun q hq => mm_st2_mem.mpr ((mm_st2_mem.mp hq).imp id (fun z => ⟨hs q z.1, z.2⟩))
section LO
variable {nL : Nat} {en : mm_E} {pc : Nat} {lo lo' : mm_L} {st : List Value} {h : mm_H} {s' : mm_S}
theorem mm_l1 (hs : ∀ q ∈ lo', q ∈ lo) (hn : mm_nd lo) (hX : mm_X1 nL en pc lo' st h s') : ∃ lo2, mm_X1 nL en pc lo st h (s'.1, lo2, s'.2.2.1, s'.2.2.2) ∧ (∀ q ∈ s'.2.1, q ∈ lo2) ∧ mm_nd lo2 := by
  have key : ∀ {i : Nat} {v : Value}, mm_lk lo' i = some v → mm_lk lo i = some v := fun hk => mm_lkn hn (hs _ (ms_lkm hk))
  obtain ⟨i, len, u, v⟩ := en
  cases i
  all_goals first
    | exact False.elim hX
    | (obtain rfl : s' = _ := hX; exact ⟨lo, rfl, hs, hn⟩)
    | (obtain ⟨x, hk, rfl⟩ := hX; exact ⟨lo, ⟨x, key hk, rfl⟩, hs, hn⟩)
    | (obtain ⟨x, rest, rfl, hk, rfl⟩ := hX; exact ⟨_, ⟨x, rest, rfl, hk, rfl⟩, mm_st_sub hs, mm_st_nd hn⟩)
    | (obtain ⟨x, rest, rfl, hk, rfl⟩ := hX; exact ⟨_, ⟨x, rest, rfl, hk, rfl⟩, mm_st2_sub hs, mm_st2_nd hn⟩)
    | (obtain ⟨x, hk, hk2, rfl⟩ := hX; exact ⟨_, ⟨x, key hk, hk2, rfl⟩, mm_st_sub hs, mm_st_nd hn⟩)
theorem mm_l2 (hX : mm_X2 en pc lo' st h s') : s'.2.1 = lo' ∧ mm_X2 en pc lo st h (s'.1, lo, s'.2.2.1, s'.2.2.2) := by
  obtain ⟨i, len, u, v⟩ := en
  cases i
  all_goals first
    | exact False.elim hX
    | (obtain ⟨a1, a2, a3, a4, rfl⟩ := hX; exact ⟨rfl, a1, a2, a3, a4, rfl⟩)
    | (obtain ⟨a1, a2, a3, rfl⟩ := hX; exact ⟨rfl, a1, a2, a3, rfl⟩)
    | (obtain ⟨a1, a2, a3, a4, a5, a6, rfl⟩ := hX; exact ⟨rfl, a1, a2, a3, a4, a5, a6, rfl⟩)
theorem mm_l3 (hX : mm_X3 en pc lo' st h s') : s'.2.1 = lo' ∧ mm_X3 en pc lo st h (s'.1, lo, s'.2.2.1, s'.2.2.2) := by
  obtain ⟨i, len, u, v⟩ := en
  cases i
  all_goals first
    | exact False.elim hX
    | (obtain ⟨a1, a2, rfl⟩ := hX; exact ⟨rfl, a1, a2, rfl⟩)
    | (obtain ⟨a1, a2, a3, a4, a5, rfl⟩ := hX; exact ⟨rfl, a1, a2, a3, a4, a5, rfl⟩)
    | (obtain ⟨a1, a2, a3, a4, a5, a6, rfl⟩ := hX; exact ⟨rfl, a1, a2, a3, a4, a5, a6, rfl⟩)
    | (obtain ⟨a1, a2, a3, a4, a5, a6, a7, rfl⟩ := hX; exact ⟨rfl, a1, a2, a3, a4, a5, a6, a7, rfl⟩)
theorem mm_l4 (hX : mm_X4 en pc lo' st h s') : s'.2.1 = lo' ∧ mm_X4 en pc lo st h (s'.1, lo, s'.2.2.1, s'.2.2.2) := by
  obtain ⟨i, len, u, v⟩ := en
  cases i
  all_goals first
    | exact False.elim hX
    | (obtain rfl : s' = _ := hX; exact ⟨rfl, rfl⟩)
    | (obtain ⟨a1, a2, a3, a4, rfl⟩ := hX; exact ⟨rfl, a1, a2, a3, a4, rfl⟩)
    | (obtain ⟨a1, a2, a3, a4, a5, rfl⟩ := hX; exact ⟨rfl, a1, a2, a3, a4, a5, rfl⟩)
    | (obtain ⟨a1, a2, a3, a4, a5, a6, rfl⟩ := hX; exact ⟨rfl, a1, a2, a3, a4, a5, a6, rfl⟩)
    | (obtain ⟨a1, a2, a3, a4, a5, a6, a7, rfl⟩ := hX; exact ⟨rfl, a1, a2, a3, a4, a5, a6, a7, rfl⟩)
    | (obtain ⟨a1, a2, a3, a4, a5, a6, a7, a8, rfl⟩ := hX; exact ⟨rfl, a1, a2, a3, a4, a5, a6, a7, a8, rfl⟩)
    | (obtain ⟨a1, a2, a3, a4, ⟨b1, b2, b3, rfl⟩ | ⟨b1, b2, b3, rfl⟩⟩ := hX
       · exact ⟨rfl, a1, a2, a3, a4, Or.inl ⟨b1, b2, b3, rfl⟩⟩
       · exact ⟨rfl, a1, a2, a3, a4, Or.inr ⟨b1, b2, b3, rfl⟩⟩)
    | (obtain ⟨a1, a2, a3, a4, a5, a6, a7, ⟨b1, rfl⟩ | ⟨b1, rfl⟩⟩ := hX
       · exact ⟨rfl, a1, a2, a3, a4, a5, a6, a7, Or.inl ⟨b1, rfl⟩⟩
       · exact ⟨rfl, a1, a2, a3, a4, a5, a6, a7, Or.inr ⟨b1, rfl⟩⟩)
end LO
theorem mm_lo : ∀ (n d : Nat) (M : mm_M) (pc : Nat) (lo lo' : mm_L) (st : List Value) (h : mm_H) (r : Option Value × mm_H), (∀ q ∈ lo', q ∈ lo) → mm_nd lo → mm_R n d M pc lo' st h r → mm_R n d M pc lo st h r
  | 0, _, _, _, _, _, _, _, _, _, _, hR => False.elim hR
  | n + 1, d, M, pc, lo, lo', st, h, r, hs, hn, hR => by
    obtain ⟨e, he, hc⟩ := hR
    refine ⟨e, he, ?_⟩
    rcases hc with ⟨s', hX, hR⟩ | hZ | ⟨k, As, rest, r1, h1, hk, hY, hC, hR⟩ | ⟨k, rest, hk, hO, hR⟩
    · rcases hX with hX | hX | hX | hX
      · obtain ⟨lo2, g1, g2, g3⟩ := mm_l1 hs hn hX
        exact Or.inl ⟨_, Or.inl g1, mm_lo n d M _ _ _ _ _ r g2 g3 hR⟩
      · obtain ⟨g0, g1⟩ := mm_l2 (lo := lo) hX
        exact Or.inl ⟨_, Or.inr (Or.inl g1), mm_lo n d M _ _ _ _ _ r (by rw [g0]; exact hs) hn hR⟩
      · obtain ⟨g0, g1⟩ := mm_l3 (lo := lo) hX
        exact Or.inl ⟨_, Or.inr (Or.inr (Or.inl g1)), mm_lo n d M _ _ _ _ _ r (by rw [g0]; exact hs) hn hR⟩
      · obtain ⟨g0, g1⟩ := mm_l4 (lo := lo) hX
        exact Or.inl ⟨_, Or.inr (Or.inr (Or.inr g1)), mm_lo n d M _ _ _ _ _ r (by rw [g0]; exact hs) hn hR⟩
    · exact Or.inr (Or.inl hZ)
    · exact Or.inr (Or.inr (Or.inl ⟨k, As, rest, r1, h1, hk, hY, hC, mm_lo n d M _ _ _ _ _ r hs hn hR⟩))
    · exact Or.inr (Or.inr (Or.inr ⟨k, rest, hk, hO, mm_lo n d M _ _ _ _ _ r hs hn hR⟩))
def mm_pk (lo : mm_L) (ks : List Nat) : mm_L := ks.filterMap (fun k => (mm_lk lo k).map (fun v => (k, v)))
/-- the places of a list of locals are apart -/
def mm_ap : mm_L → Bool
  | [] => true
  | q :: t => (t.all (fun r => !(r.1 == q.1))) && mm_ap t
theorem mm_ap_nd : ∀ {lo : mm_L}, mm_ap lo = true → mm_nd lo
  | [], _ => List.nodup_nil
  | q :: t, h => by
    unfold mm_ap at h
    rw [Bool.and_eq_true] at h
    unfold mm_nd
    rw [List.map_cons, List.nodup_cons]
    refine ⟨fun z => ?_, mm_ap_nd h.2⟩
    obtain ⟨r, hr, e⟩ := List.mem_map.mp z
    have := List.all_eq_true.mp h.1 r hr
    rw [e] at this
    simp at this
theorem w_lo {d : Nat} {M : mm_M} {pc : Nat} {lo : mm_L} {st : List Value} {h : mm_H} {Q : Option Value → mm_H → Prop} (ks : List Nat) (lo2 : mm_L) (hp : mm_pk lo ks = lo2) (ha : mm_ap lo = true) (k : w_p d M pc lo2 st h Q) : w_p d M pc lo st h Q := by
  subst hp
  obtain ⟨n, r, h1, h2⟩ := k
  refine ⟨n, r, mm_lo n d M pc lo _ st h r (fun q hq => ?_) (mm_ap_nd ha) h1, h2⟩
  obtain ⟨k, -, e⟩ := List.mem_filterMap.mp hq
  cases hk : mm_lk lo k with
  | none => rw [hk] at e; cases e
  | some v =>
    rw [hk] at e
    cases e
    exact ms_lkm hk
