/-! THE TWO CONSTRUCTORS -/
def bJ (h : mm_H) (n s : Nat) (kd al : List (Nat × Nat)) (or : List (Nat × Nat × Nat)) (L : Nat) (xs : Nat → Int32) : Prop := (h_n h = n ∧ 16 ≤ n) ∧ h_s h = s ∧ (∀ q ∈ kd, h_kd h q.1 = q.2 ∧ q.1 < n) ∧ (∀ q ∈ al, h_al h q.1 = q.2 ∧ q.1 < n) ∧ (∀ q ∈ or, h_or h q.1 q.2.1 = some q.2.2 ∧ q.2.1 < n) ∧ (∀ g a, h_oi h g a = 0) ∧ (∀ a, 4 ≤ a → ∀ i, h_ai h a i = 0) ∧ (∀ a, a ≠ 23 → ∀ i, h_ar h a i = none) ∧ (30 ≤ n → ∀ i, i < 6 → h_ar h 23 i = some (24 + i)) ∧ (h_ai h 1 = (fun i => [0, 0, 1, 0, 0].getD i 0) ∧ h_ai h 2 = (fun i => [200, 47, 400, 50, 100].getD i 0) ∧ h_ai h 3 = (fun i => [0, -4, -4, 0, 0].getD i 0)) ∧ sX h L xs
section BI
variable {h : mm_H} {n s : Nat} {kd al : List (Nat × Nat)} {or : List (Nat × Nat × Nat)} {L : Nat} {xs : Nat → Int32}
theorem bJ.k (b : bJ h n s kd al or L xs) {q : Nat × Nat} (hq : q ∈ kd) : h_kd h q.1 = q.2 := (b.2.2.1 q hq).1
theorem bJ.nO (b : bJ h n s kd al or L xs) (ci N : Nat) (h29 : n ≠ 29) : bJ (h_nO h ci N) (n + 1) (s + N) ((n, ci + 1) :: kd) al or L xs := by
  obtain ⟨⟨b1, b1'⟩, b2, b3, b4, b5, b6, b7, b8, b9, b10, b11, b12, b13⟩ := b
  refine ⟨⟨by show h_n h + 1 = n + 1; rw [b1], by omega⟩, by show h_s h + N = s + N; rw [b2], fun q hq => ?_, fun q hq => ⟨(b4 q hq).1, by have := (b4 q hq).2; omega⟩, fun q hq => ?_, fun g a => ?_, b7, b8, fun hn => b9 (by omega), b10, ?_, b12, b13⟩
  · show va_up (h_kd h) (h_n h) (ci + 1) q.1 = q.2 ∧ _
    rw [b1]
    rcases List.mem_cons.mp hq with rfl | hq
    · exact ⟨va_up_self _ _ _, by omega⟩
    · have := b3 q hq
      exact ⟨(va_up_ne _ _ (by omega)).trans this.1, by omega⟩
  · have := b5 q hq
    show va_up (h_or h q.1) (h_n h) none q.2.1 = some q.2.2 ∧ _
    rw [b1]
    exact ⟨(va_up_ne _ _ (by omega)).trans this.1, by omega⟩
  · show va_up (h_oi h g) (h_n h) 0 a = 0
    by_cases e : a = h_n h
    · rw [e]; exact va_up_self _ _ _
    · exact (va_up_ne _ _ e).trans (b6 g a)
  · show va_up (h_kd h) (h_n h) (ci + 1) 0 = 20
    exact (va_up_ne _ _ (by omega)).trans b11
theorem bJ.nA (b : bJ h n s kd al or L xs) (κ N : Nat) (h29 : n ≠ 29 ∧ n ≠ 23) : bJ (h_nA h κ N) (n + 1) (s + N) ((n, κ) :: kd) ((n, N) :: al) or L xs := by
  obtain ⟨⟨b1, b1'⟩, b2, b3, b4, b5, b6, b7, b8, b9, ⟨b10, b14, b15⟩, b11, b12, b13⟩ := b
  refine ⟨⟨by show h_n h + 1 = n + 1; rw [b1], by omega⟩, by show h_s h + N = s + N; rw [b2], fun q hq => ?_, fun q hq => ?_, fun q hq => ⟨(b5 q hq).1, by have := (b5 q hq).2; omega⟩, b6, fun a ha i => ?_, fun a ha i => ?_, fun hn i hi => ?_, ⟨?_, ?_, ?_⟩, ?_, ?_, ?_⟩
  · show va_up (h_kd h) (h_n h) κ q.1 = q.2 ∧ _
    rw [b1]
    rcases List.mem_cons.mp hq with rfl | hq
    · exact ⟨va_up_self _ _ _, by omega⟩
    · have := b3 q hq
      exact ⟨(va_up_ne _ _ (by omega)).trans this.1, by omega⟩
  · show va_up (h_al h) (h_n h) N q.1 = q.2 ∧ _
    rw [b1]
    rcases List.mem_cons.mp hq with rfl | hq
    · exact ⟨va_up_self _ _ _, by omega⟩
    · have := b4 q hq
      exact ⟨(va_up_ne _ _ (by omega)).trans this.1, by omega⟩
  · show va_up (h_ai h) (h_n h) (fun _ => 0) a i = 0
    by_cases e : a = h_n h
    · rw [e, va_up_self]
    · rw [va_up_ne _ _ e]; exact b7 a ha i
  · show va_up (h_ar h) (h_n h) (fun _ => none) a i = none
    by_cases e : a = h_n h
    · rw [e, va_up_self]
    · rw [va_up_ne _ _ e]; exact b8 a ha i
  · show va_up (h_ar h) (h_n h) (fun _ => none) 23 i = _
    rw [va_up_ne _ _ (by omega)]; exact b9 (by omega) i hi
  · exact (va_up_ne _ _ (by omega)).trans b10
  · exact (va_up_ne _ _ (by omega)).trans b14
  · exact (va_up_ne _ _ (by omega)).trans b15
  · exact (va_up_ne _ _ (by omega)).trans b11
  · exact (va_up_ne _ _ (by omega)).trans b12
  · exact (va_up_ne _ _ (by omega)).trans b13
theorem bJ.nM (b : bJ h 23 s kd al or L xs) : bJ (h_nM h 6 5) 30 (s + 6 + 30) ((23, 25) :: (24, 20) :: (25, 20) :: (26, 20) :: (27, 20) :: (28, 20) :: (29, 20) :: kd) ((23, 6) :: (24, 5) :: (25, 5) :: (26, 5) :: (27, 5) :: (28, 5) :: (29, 5) :: al) or L xs := by
  obtain ⟨⟨b1, b1'⟩, b2, b3, b4, b5, b6, b7, b8, b9, ⟨b10, b14, b15⟩, b11, b12, b13⟩ := b
  have kd0 : ∀ a, h_kd (h_nM h 6 5) a = if a = 23 then 25 else if 23 < a ∧ a ≤ 29 then 20 else h_kd h a := fun a => by
    have g : ∀ n, n = 23 → (if a = n then 25 else if n < a ∧ a ≤ n + 6 then 20 else h_kd h a) = (if a = 23 then 25 else if 23 < a ∧ a ≤ 29 then 20 else h_kd h a) := fun n e => by subst e; rfl
    exact g _ b1
  have al0 : ∀ a, h_al (h_nM h 6 5) a = if a = 23 then 6 else if 23 < a ∧ a ≤ 29 then 5 else h_al h a := fun a => by
    have g : ∀ n, n = 23 → (if a = n then 6 else if n < a ∧ a ≤ n + 6 then 5 else h_al h a) = (if a = 23 then 6 else if 23 < a ∧ a ≤ 29 then 5 else h_al h a) := fun n e => by subst e; rfl
    exact g _ b1
  have ai0 : ∀ a, h_ai (h_nM h 6 5) a = if 23 < a ∧ a ≤ 29 then (fun _ => 0) else h_ai h a := fun a => by
    have g : ∀ n, n = 23 → (if n < a ∧ a ≤ n + 6 then (fun _ => 0) else h_ai h a) = (if 23 < a ∧ a ≤ 29 then (fun _ => 0) else h_ai h a) := fun n e => by subst e; rfl
    exact g _ b1
  have ar0 : h_ar (h_nM h 6 5) = va_up (h_ar h) 23 (fun i => if i < 6 then some (24 + i) else none) := by
    have g : ∀ n, n = 23 → va_up (h_ar h) n (fun i => if i < 6 then some (n + 1 + i) else none) = va_up (h_ar h) 23 (fun i => if i < 6 then some (24 + i) else none) := fun n e => by subst e; rfl
    exact g _ b1
  refine ⟨⟨by show h_n h + 1 + 6 = 30; rw [b1], by omega⟩, by show h_s h + 6 + 6 * 5 = s + 6 + 30; rw [b2], fun q hq => ?_, fun q hq => ?_, fun q hq => ⟨(b5 q hq).1, by have := (b5 q hq).2; omega⟩, b6, fun a ha i => ?_, fun a ha i => ?_, fun hn i hi => ?_, ⟨?_, ?_, ?_⟩, ?_, ?_, ?_⟩
  · rw [kd0]
    simp only [List.mem_cons] at hq
    rcases hq with rfl | rfl | rfl | rfl | rfl | rfl | rfl | hq
    iterate 7 exact ⟨rfl, by decide⟩
    have := b3 q hq
    rw [if_neg (by omega), if_neg (by omega)]
    exact ⟨this.1, by omega⟩
  · rw [al0]
    simp only [List.mem_cons] at hq
    rcases hq with rfl | rfl | rfl | rfl | rfl | rfl | rfl | hq
    iterate 7 exact ⟨rfl, by decide⟩
    have := b4 q hq
    rw [if_neg (by omega), if_neg (by omega)]
    exact ⟨this.1, by omega⟩
  · rw [ai0]
    split
    · rfl
    · exact b7 a ha i
  · rw [ar0, va_up_ne _ _ ha]; exact b8 a ha i
  · rw [ar0, va_up_self, if_pos hi]
  · rw [ai0, if_neg (by omega)]; exact b10
  · rw [ai0, if_neg (by omega)]; exact b14
  · rw [ai0, if_neg (by omega)]; exact b15
  · rw [kd0, if_neg (by omega), if_neg (by omega)]; exact b11
  · rw [al0, if_neg (by omega), if_neg (by omega)]; exact b12
  · rw [ai0, if_neg (by omega)]; exact b13
theorem bJ.sR (b : bJ h n s kd al or L xs) (g a : Nat) {x v : Nat} (hx : x = v) (ha : a < n) (hf : ∀ q ∈ or, ¬ (q.1 = g ∧ q.2.1 = a)) : bJ (h_sR h g a (some x)) n s kd al ((g, a, v) :: or) L xs := by
  subst hx
  obtain ⟨b1, b2, b3, b4, b5, b6, b7, b8, b9, b10, b11, b12, b13⟩ := b
  refine ⟨b1, b2, b3, b4, fun q hq => ?_, b6, b7, b8, b9, b10, b11, b12, b13⟩
  show va_up (h_or h) g (va_up (h_or h g) a (some x)) q.1 q.2.1 = some q.2.2 ∧ _
  rcases List.mem_cons.mp hq with rfl | hq
  · exact ⟨by rw [va_up_self, va_up_self], ha⟩
  · have := hf q hq
    refine ⟨?_, (b5 q hq).2⟩
    by_cases e : q.1 = g
    · rw [e, va_up_self, va_up_ne _ _ (fun z => this ⟨e, z⟩), ← e]
      exact (b5 q hq).1
    · rw [va_up_ne _ _ e]
      exact (b5 q hq).1
end BI
theorem nf_cons {or : List (Nat × Nat × Nat)} {g a g' a' v' : Nat} (h1 : ¬ (g' = g ∧ a' = a)) (h : ∀ q ∈ or, ¬ (q.1 = g ∧ q.2.1 = a)) : ∀ q ∈ ((g', a', v') :: or), ¬ (q.1 = g ∧ q.2.1 = a) := List.forall_mem_cons.mpr ⟨h1, h⟩
set_option maxRecDepth 20000 in
theorem t_X6_init_17_0 {h : mm_H} {Q : Option Value → mm_H → Prop} 
    (F : (h_kd (h_nA h 21 200) 17 = 7 ∧ Q none (h_sR (h_nA h 21 200) 384 17 (some (h_n h))))) :
    w_c 2 47 [.ref 17] h Q := by
  refine w_ci (M := (6, 1, mc_X6_init)) rfl (Nat.le_of_ble_eq_true rfl) ?_
  show w_p _ _ 0 [(0, .ref 17)] [] h Q
  refine w_b 1 1 [(0, .ref 17)] [.ref 17] rfl ?_
  refine w_o rfl (Nat.le_of_ble_eq_true rfl) ?_
  refine w_b 2 8 [(0, .ref 17)] [.int 200, .ref 17] rfl ?_
  refine w_newa (x := 200) rfl (by decide) (by decide) ?_
  show w_p _ _ 10 [(0, .ref 17)] [.ref (h_n h), .ref 17] (h_nA h 21 200) _
  obtain ⟨g1, F⟩ := F
  refine w_putR (g := 384) (x := some (h_n h)) rfl rfl rfl g1 (by decide) ?_
  exact w_vr rfl F

theorem i_X6_init_17 {h : mm_H} {Q : Option Value → mm_H → Prop} {s : Nat} {kd al : List (Nat × Nat)} {or : List (Nat × Nat × Nat)} {L : Nat} {xs : Nat → Int32} (b : bJ h 18 s kd al or L xs) (hk : (17, 7) ∈ kd) (hf : ∀ q ∈ or, q.2.1 ≠ 17) (k : ∀ h', bJ h' 19 (s + 200) ((18, 21) :: kd) ((18, 200) :: al) ((384, 17, 18) :: or) L xs → Q none h') : w_c 2 47 [.ref 17] h Q := by
  have b0 := b.nA 21 200 (by decide)
  have k1 : (17, 7) ∈ _ := List.mem_cons_of_mem (18, 21) hk
  have b1 := b0.sR 384 17 (x := h_n h) (v := 18) (by have := b.1.1; omega) (by decide) (fun q hq z => hf q hq z.2)
  exact t_X6_init_17_0 ⟨b0.k k1, k _ b1⟩
set_option maxRecDepth 20000 in
theorem t_X4_init_19_0 {h : mm_H} {Q : Option Value → mm_H → Prop} 
    (F : (h_kd (h_nA h 20 5) 19 = 5 ∧ Q none (h_sR (h_nA h 20 5) 256 19 (some (h_n h))))) :
    w_c 2 33 [.ref 19] h Q := by
  refine w_ci (M := (4, 1, mc_X4_init)) rfl (Nat.le_of_ble_eq_true rfl) ?_
  show w_p _ _ 0 [(0, .ref 19)] [] h Q
  refine w_b 1 1 [(0, .ref 19)] [.ref 19] rfl ?_
  refine w_o rfl (Nat.le_of_ble_eq_true rfl) ?_
  refine w_b 2 6 [(0, .ref 19)] [.int 5, .ref 19] rfl ?_
  refine w_newa (x := 5) rfl (by decide) (by decide) ?_
  show w_p _ _ 8 [(0, .ref 19)] [.ref (h_n h), .ref 19] (h_nA h 20 5) _
  obtain ⟨g1, F⟩ := F
  refine w_putR (g := 256) (x := some (h_n h)) rfl rfl rfl g1 (by decide) ?_
  exact w_vr rfl F

theorem i_X4_init_19 {h : mm_H} {Q : Option Value → mm_H → Prop} {s : Nat} {kd al : List (Nat × Nat)} {or : List (Nat × Nat × Nat)} {L : Nat} {xs : Nat → Int32} (b : bJ h 20 s kd al or L xs) (hk : (19, 5) ∈ kd) (hf : ∀ q ∈ or, q.2.1 ≠ 19) (k : ∀ h', bJ h' 21 (s + 5) ((20, 20) :: kd) ((20, 5) :: al) ((256, 19, 20) :: or) L xs → Q none h') : w_c 2 33 [.ref 19] h Q := by
  have b0 := b.nA 20 5 (by decide)
  have k1 : (19, 5) ∈ _ := List.mem_cons_of_mem (20, 20) hk
  have b1 := b0.sR 256 19 (x := h_n h) (v := 20) (by have := b.1.1; omega) (by decide) (fun q hq z => hf q hq z.2)
  exact t_X4_init_19_0 ⟨b0.k k1, k _ b1⟩
set_option maxRecDepth 20000 in
theorem t_X1_init_21_0 {h : mm_H} {Q : Option Value → mm_H → Prop} 
    (F : (h_kd (h_nA h 20 6) 21 = 2 ∧ (h_kd (h_nM (h_sR (h_nA h 20 6) 64 21 (some (h_n h))) 6 5) 21 = 2 ∧ Q none (h_sR (h_nM (h_sR (h_nA h 20 6) 64 21 (some (h_n h))) 6 5) 65 21 (some (h_n h + 1)))))) :
    w_c 2 5 [.ref 21] h Q := by
  refine w_ci (M := (1, 1, mc_X1_init)) rfl (Nat.le_of_ble_eq_true rfl) ?_
  show w_p _ _ 0 [(0, .ref 21)] [] h Q
  refine w_b 1 1 [(0, .ref 21)] [.ref 21] rfl ?_
  refine w_o rfl (Nat.le_of_ble_eq_true rfl) ?_
  refine w_b 2 7 [(0, .ref 21)] [.int 6, .ref 21] rfl ?_
  refine w_newa (x := 6) rfl (by decide) (by decide) ?_
  show w_p _ _ 9 [(0, .ref 21)] [.ref (h_n h), .ref 21] (h_nA h 20 6) _
  obtain ⟨g1, F⟩ := F
  refine w_putR (g := 64) (x := some (h_n h)) rfl rfl rfl g1 (by decide) ?_
  refine w_b 3 16 [(0, .ref 21)] [.int 5, .int 6, .ref 21] rfl ?_
  refine w_mnew (x := 6) (y := 5) rfl (by decide) (by decide) (by decide) (by decide) ?_
  show w_p _ _ 20 [(0, .ref 21)] [.ref (h_n h + 1), .ref 21] (h_nM (h_sR (h_nA h 20 6) 64 21 (some (h_n h))) 6 5) _
  obtain ⟨g2, F⟩ := F
  refine w_putR (g := 65) (x := some (h_n h + 1)) rfl rfl rfl g2 (by decide) ?_
  exact w_vr rfl F

theorem i_X1_init_21 {h : mm_H} {Q : Option Value → mm_H → Prop} {s : Nat} {kd al : List (Nat × Nat)} {or : List (Nat × Nat × Nat)} {L : Nat} {xs : Nat → Int32} (b : bJ h 22 s kd al or L xs) (hk : (21, 2) ∈ kd) (hf : ∀ q ∈ or, q.2.1 ≠ 21) (k : ∀ h', bJ h' 30 (s + 6 + 6 + 30) ((23, 25) :: (24, 20) :: (25, 20) :: (26, 20) :: (27, 20) :: (28, 20) :: (29, 20) :: (22, 20) :: kd) ((23, 6) :: (24, 5) :: (25, 5) :: (26, 5) :: (27, 5) :: (28, 5) :: (29, 5) :: (22, 6) :: al) ((65, 21, 23) :: (64, 21, 22) :: or) L xs → Q none h') : w_c 2 5 [.ref 21] h Q := by
  have b0 := b.nA 20 6 (by decide)
  have k1 : (21, 2) ∈ _ := List.mem_cons_of_mem (22, 20) hk
  have b1 := b0.sR 64 21 (x := h_n h) (v := 22) (by have := b.1.1; omega) (by decide) (fun q hq z => hf q hq z.2)
  have b2 := bJ.nM (h := _) b1
  have k3 : (21, 2) ∈ _ := (List.mem_cons_of_mem (23, 25) (List.mem_cons_of_mem (24, 20) (List.mem_cons_of_mem (25, 20) (List.mem_cons_of_mem (26, 20) (List.mem_cons_of_mem (27, 20) (List.mem_cons_of_mem (28, 20) (List.mem_cons_of_mem (29, 20) k1)))))))
  have b3 := b2.sR 65 21 (x := h_n h + 1) (v := 23) (by have := b.1.1; omega) (by decide) (nf_cons (by decide) (fun q hq z => hf q hq z.2))
  exact t_X1_init_21_0 ⟨b0.k k1, b2.k k3, k _ b3⟩
set_option maxRecDepth 20000 in
theorem t_X7_init_31_0 {h : mm_H} {Q : Option Value → mm_H → Prop} 
    (F : (h_kd (h_nA h 20 10) 31 = 8 ∧ (h_kd (h_nA (h_sR (h_nA h 20 10) 448 31 (some (h_n h))) 20 10) 31 = 8 ∧ (h_kd (h_nA (h_sR (h_nA (h_sR (h_nA h 20 10) 448 31 (some (h_n h))) 20 10) 449 31 (some (h_n h + 1))) 20 10) 31 = 8 ∧ Q none (h_sR (h_nA (h_sR (h_nA (h_sR (h_nA h 20 10) 448 31 (some (h_n h))) 20 10) 449 31 (some (h_n h + 1))) 20 10) 450 31 (some (h_n h + 2))))))) :
    w_c 2 53 [.ref 31] h Q := by
  refine w_ci (M := (7, 1, mc_X7_init)) rfl (Nat.le_of_ble_eq_true rfl) ?_
  show w_p _ _ 0 [(0, .ref 31)] [] h Q
  refine w_b 1 1 [(0, .ref 31)] [.ref 31] rfl ?_
  refine w_o rfl (Nat.le_of_ble_eq_true rfl) ?_
  refine w_b 2 7 [(0, .ref 31)] [.int 10, .ref 31] rfl ?_
  refine w_newa (x := 10) rfl (by decide) (by decide) ?_
  show w_p _ _ 9 [(0, .ref 31)] [.ref (h_n h), .ref 31] (h_nA h 20 10) _
  obtain ⟨g1, F⟩ := F
  refine w_putR (g := 448) (x := some (h_n h)) rfl rfl rfl g1 (by decide) ?_
  refine w_b 2 15 [(0, .ref 31)] [.int 10, .ref 31] rfl ?_
  refine w_newa (x := 10) rfl (by decide) (by decide) ?_
  show w_p _ _ 17 [(0, .ref 31)] [.ref (h_n h + 1), .ref 31] (h_nA (h_sR (h_nA h 20 10) 448 31 (some (h_n h))) 20 10) _
  obtain ⟨g2, F⟩ := F
  refine w_putR (g := 449) (x := some (h_n h + 1)) rfl rfl rfl g2 (by decide) ?_
  refine w_b 2 23 [(0, .ref 31)] [.int 10, .ref 31] rfl ?_
  refine w_newa (x := 10) rfl (by decide) (by decide) ?_
  show w_p _ _ 25 [(0, .ref 31)] [.ref (h_n h + 2), .ref 31] (h_nA (h_sR (h_nA (h_sR (h_nA h 20 10) 448 31 (some (h_n h))) 20 10) 449 31 (some (h_n h + 1))) 20 10) _
  obtain ⟨g3, F⟩ := F
  refine w_putR (g := 450) (x := some (h_n h + 2)) rfl rfl rfl g3 (by decide) ?_
  exact w_vr rfl F

theorem i_X7_init_31 {h : mm_H} {Q : Option Value → mm_H → Prop} {s : Nat} {kd al : List (Nat × Nat)} {or : List (Nat × Nat × Nat)} {L : Nat} {xs : Nat → Int32} (b : bJ h 32 s kd al or L xs) (hk : (31, 8) ∈ kd) (hf : ∀ q ∈ or, q.2.1 ≠ 31) (k : ∀ h', bJ h' 35 (s + 10 + 10 + 10) ((34, 20) :: (33, 20) :: (32, 20) :: kd) ((34, 10) :: (33, 10) :: (32, 10) :: al) ((450, 31, 34) :: (449, 31, 33) :: (448, 31, 32) :: or) L xs → Q none h') : w_c 2 53 [.ref 31] h Q := by
  have b0 := b.nA 20 10 (by decide)
  have k1 : (31, 8) ∈ _ := List.mem_cons_of_mem (32, 20) hk
  have b1 := b0.sR 448 31 (x := h_n h) (v := 32) (by have := b.1.1; omega) (by decide) (fun q hq z => hf q hq z.2)
  have b2 := b1.nA 20 10 (by decide)
  have k3 : (31, 8) ∈ _ := List.mem_cons_of_mem (33, 20) k1
  have b3 := b2.sR 449 31 (x := h_n h + 1) (v := 33) (by have := b.1.1; omega) (by decide) (nf_cons (by decide) (fun q hq z => hf q hq z.2))
  have b4 := b3.nA 20 10 (by decide)
  have k5 : (31, 8) ∈ _ := List.mem_cons_of_mem (34, 20) k3
  have b5 := b4.sR 450 31 (x := h_n h + 2) (v := 34) (by have := b.1.1; omega) (by decide) (nf_cons (by decide) (nf_cons (by decide) (fun q hq z => hf q hq z.2)))
  exact t_X7_init_31_0 ⟨b0.k k1, b2.k k3, b4.k k5, k _ b5⟩
set_option maxRecDepth 20000 in
theorem t_X7_init_35_0 {h : mm_H} {Q : Option Value → mm_H → Prop} 
    (F : (h_kd (h_nA h 20 10) 35 = 8 ∧ (h_kd (h_nA (h_sR (h_nA h 20 10) 448 35 (some (h_n h))) 20 10) 35 = 8 ∧ (h_kd (h_nA (h_sR (h_nA (h_sR (h_nA h 20 10) 448 35 (some (h_n h))) 20 10) 449 35 (some (h_n h + 1))) 20 10) 35 = 8 ∧ Q none (h_sR (h_nA (h_sR (h_nA (h_sR (h_nA h 20 10) 448 35 (some (h_n h))) 20 10) 449 35 (some (h_n h + 1))) 20 10) 450 35 (some (h_n h + 2))))))) :
    w_c 2 53 [.ref 35] h Q := by
  refine w_ci (M := (7, 1, mc_X7_init)) rfl (Nat.le_of_ble_eq_true rfl) ?_
  show w_p _ _ 0 [(0, .ref 35)] [] h Q
  refine w_b 1 1 [(0, .ref 35)] [.ref 35] rfl ?_
  refine w_o rfl (Nat.le_of_ble_eq_true rfl) ?_
  refine w_b 2 7 [(0, .ref 35)] [.int 10, .ref 35] rfl ?_
  refine w_newa (x := 10) rfl (by decide) (by decide) ?_
  show w_p _ _ 9 [(0, .ref 35)] [.ref (h_n h), .ref 35] (h_nA h 20 10) _
  obtain ⟨g1, F⟩ := F
  refine w_putR (g := 448) (x := some (h_n h)) rfl rfl rfl g1 (by decide) ?_
  refine w_b 2 15 [(0, .ref 35)] [.int 10, .ref 35] rfl ?_
  refine w_newa (x := 10) rfl (by decide) (by decide) ?_
  show w_p _ _ 17 [(0, .ref 35)] [.ref (h_n h + 1), .ref 35] (h_nA (h_sR (h_nA h 20 10) 448 35 (some (h_n h))) 20 10) _
  obtain ⟨g2, F⟩ := F
  refine w_putR (g := 449) (x := some (h_n h + 1)) rfl rfl rfl g2 (by decide) ?_
  refine w_b 2 23 [(0, .ref 35)] [.int 10, .ref 35] rfl ?_
  refine w_newa (x := 10) rfl (by decide) (by decide) ?_
  show w_p _ _ 25 [(0, .ref 35)] [.ref (h_n h + 2), .ref 35] (h_nA (h_sR (h_nA (h_sR (h_nA h 20 10) 448 35 (some (h_n h))) 20 10) 449 35 (some (h_n h + 1))) 20 10) _
  obtain ⟨g3, F⟩ := F
  refine w_putR (g := 450) (x := some (h_n h + 2)) rfl rfl rfl g3 (by decide) ?_
  exact w_vr rfl F

theorem i_X7_init_35 {h : mm_H} {Q : Option Value → mm_H → Prop} {s : Nat} {kd al : List (Nat × Nat)} {or : List (Nat × Nat × Nat)} {L : Nat} {xs : Nat → Int32} (b : bJ h 36 s kd al or L xs) (hk : (35, 8) ∈ kd) (hf : ∀ q ∈ or, q.2.1 ≠ 35) (k : ∀ h', bJ h' 39 (s + 10 + 10 + 10) ((38, 20) :: (37, 20) :: (36, 20) :: kd) ((38, 10) :: (37, 10) :: (36, 10) :: al) ((450, 35, 38) :: (449, 35, 37) :: (448, 35, 36) :: or) L xs → Q none h') : w_c 2 53 [.ref 35] h Q := by
  have b0 := b.nA 20 10 (by decide)
  have k1 : (35, 8) ∈ _ := List.mem_cons_of_mem (36, 20) hk
  have b1 := b0.sR 448 35 (x := h_n h) (v := 36) (by have := b.1.1; omega) (by decide) (fun q hq z => hf q hq z.2)
  have b2 := b1.nA 20 10 (by decide)
  have k3 : (35, 8) ∈ _ := List.mem_cons_of_mem (37, 20) k1
  have b3 := b2.sR 449 35 (x := h_n h + 1) (v := 37) (by have := b.1.1; omega) (by decide) (nf_cons (by decide) (fun q hq z => hf q hq z.2))
  have b4 := b3.nA 20 10 (by decide)
  have k5 : (35, 8) ∈ _ := List.mem_cons_of_mem (38, 20) k3
  have b5 := b4.sR 450 35 (x := h_n h + 2) (v := 38) (by have := b.1.1; omega) (by decide) (nf_cons (by decide) (nf_cons (by decide) (fun q hq z => hf q hq z.2)))
  exact t_X7_init_35_0 ⟨b0.k k1, b2.k k3, b4.k k5, k _ b5⟩
set_option maxRecDepth 20000 in
theorem t_X2_init_39_0 {h : mm_H} {Q : Option Value → mm_H → Prop} 
    (F : (h_kd (h_nA h 20 10) 39 = 3 ∧ (h_kd (h_nA (h_sR (h_nA h 20 10) 128 39 (some (h_n h))) 20 10) 39 = 3 ∧ (h_kd (h_nA (h_sR (h_nA (h_sR (h_nA h 20 10) 128 39 (some (h_n h))) 20 10) 129 39 (some (h_n h + 1))) 20 10) 39 = 3 ∧ Q none (h_sR (h_nA (h_sR (h_nA (h_sR (h_nA h 20 10) 128 39 (some (h_n h))) 20 10) 129 39 (some (h_n h + 1))) 20 10) 130 39 (some (h_n h + 2))))))) :
    w_c 2 11 [.ref 39] h Q := by
  refine w_ci (M := (2, 1, mc_X2_init)) rfl (Nat.le_of_ble_eq_true rfl) ?_
  show w_p _ _ 0 [(0, .ref 39)] [] h Q
  refine w_b 1 1 [(0, .ref 39)] [.ref 39] rfl ?_
  refine w_o rfl (Nat.le_of_ble_eq_true rfl) ?_
  refine w_b 2 7 [(0, .ref 39)] [.int 10, .ref 39] rfl ?_
  refine w_newa (x := 10) rfl (by decide) (by decide) ?_
  show w_p _ _ 9 [(0, .ref 39)] [.ref (h_n h), .ref 39] (h_nA h 20 10) _
  obtain ⟨g1, F⟩ := F
  refine w_putR (g := 128) (x := some (h_n h)) rfl rfl rfl g1 (by decide) ?_
  refine w_b 2 15 [(0, .ref 39)] [.int 10, .ref 39] rfl ?_
  refine w_newa (x := 10) rfl (by decide) (by decide) ?_
  show w_p _ _ 17 [(0, .ref 39)] [.ref (h_n h + 1), .ref 39] (h_nA (h_sR (h_nA h 20 10) 128 39 (some (h_n h))) 20 10) _
  obtain ⟨g2, F⟩ := F
  refine w_putR (g := 129) (x := some (h_n h + 1)) rfl rfl rfl g2 (by decide) ?_
  refine w_b 2 23 [(0, .ref 39)] [.int 10, .ref 39] rfl ?_
  refine w_newa (x := 10) rfl (by decide) (by decide) ?_
  show w_p _ _ 25 [(0, .ref 39)] [.ref (h_n h + 2), .ref 39] (h_nA (h_sR (h_nA (h_sR (h_nA h 20 10) 128 39 (some (h_n h))) 20 10) 129 39 (some (h_n h + 1))) 20 10) _
  obtain ⟨g3, F⟩ := F
  refine w_putR (g := 130) (x := some (h_n h + 2)) rfl rfl rfl g3 (by decide) ?_
  exact w_vr rfl F

theorem i_X2_init_39 {h : mm_H} {Q : Option Value → mm_H → Prop} {s : Nat} {kd al : List (Nat × Nat)} {or : List (Nat × Nat × Nat)} {L : Nat} {xs : Nat → Int32} (b : bJ h 40 s kd al or L xs) (hk : (39, 3) ∈ kd) (hf : ∀ q ∈ or, q.2.1 ≠ 39) (k : ∀ h', bJ h' 43 (s + 10 + 10 + 10) ((42, 20) :: (41, 20) :: (40, 20) :: kd) ((42, 10) :: (41, 10) :: (40, 10) :: al) ((130, 39, 42) :: (129, 39, 41) :: (128, 39, 40) :: or) L xs → Q none h') : w_c 2 11 [.ref 39] h Q := by
  have b0 := b.nA 20 10 (by decide)
  have k1 : (39, 3) ∈ _ := List.mem_cons_of_mem (40, 20) hk
  have b1 := b0.sR 128 39 (x := h_n h) (v := 40) (by have := b.1.1; omega) (by decide) (fun q hq z => hf q hq z.2)
  have b2 := b1.nA 20 10 (by decide)
  have k3 : (39, 3) ∈ _ := List.mem_cons_of_mem (41, 20) k1
  have b3 := b2.sR 129 39 (x := h_n h + 1) (v := 41) (by have := b.1.1; omega) (by decide) (nf_cons (by decide) (fun q hq z => hf q hq z.2))
  have b4 := b3.nA 20 10 (by decide)
  have k5 : (39, 3) ∈ _ := List.mem_cons_of_mem (42, 20) k3
  have b5 := b4.sR 130 39 (x := h_n h + 2) (v := 42) (by have := b.1.1; omega) (by decide) (nf_cons (by decide) (nf_cons (by decide) (fun q hq z => hf q hq z.2)))
  exact t_X2_init_39_0 ⟨b0.k k1, b2.k k3, b4.k k5, k _ b5⟩
set_option maxRecDepth 20000 in
theorem t_X8_init_0 {h : mm_H} {Q : Option Value → mm_H → Prop} 
    (F : w_c 2 47 [.ref (h_n h)] (h_nO h 6 2) (fun r h1 => r = none ∧ (h_kd h1 16 = 9 ∧ w_c 2 33 [.ref (h_n h1)] (h_nO (h_sR h1 512 16 (some (h_n h))) 4 7) (fun r h3 => r = none ∧ (h_kd h3 16 = 9 ∧ w_c 2 5 [.ref (h_n h3)] (h_nO (h_sR h3 513 16 (some (h_n h1))) 1 3) (fun r h5 => r = none ∧ (h_kd h5 16 = 9 ∧ (h_kd (h_nA (h_sR h5 514 16 (some (h_n h3))) 23 12) 16 = 9 ∧ w_c 2 53 [.ref (h_n h5 + 1)] (h_nO (h_sR (h_nA (h_sR h5 514 16 (some (h_n h3))) 23 12) 515 16 (some (h_n h5))) 7 4) (fun r h8 => r = none ∧ (h_kd h8 16 = 9 ∧ w_c 2 53 [.ref (h_n h8)] (h_nO (h_sR h8 516 16 (some (h_n h5 + 1))) 7 4) (fun r h10 => r = none ∧ (h_kd h10 16 = 9 ∧ w_c 2 11 [.ref (h_n h10)] (h_nO (h_sR h10 517 16 (some (h_n h8))) 2 8) (fun r h12 => r = none ∧ (h_kd h12 16 = 9 ∧ (h_kd (h_nA (h_sR h12 518 16 (some (h_n h10))) 24 4) 16 = 9 ∧ Q none (h_sR (h_nA (h_sR h12 518 16 (some (h_n h10))) 24 4) 519 16 (some (h_n h12)))))))))))))))))) :
    w_c 3 61 [.ref 16] h Q := by
  refine w_ci (M := (8, 1, mc_X8_init)) rfl (Nat.le_of_ble_eq_true rfl) ?_
  show w_p _ _ 0 [(0, .ref 16)] [] h Q
  refine w_b 1 1 [(0, .ref 16)] [.ref 16] rfl ?_
  refine w_o rfl (Nat.le_of_ble_eq_true rfl) ?_
  refine w_b 1 5 [(0, .ref 16)] [.ref 16] rfl ?_
  refine w_new rfl ?_
  show w_p _ _ 8 [(0, .ref 16)] [.ref (h_n h), .ref 16] (h_nO h 6 2) _
  refine w_b 1 9 [(0, .ref 16)] [.ref (h_n h), .ref (h_n h), .ref 16] rfl ?_
  refine w_cn (As := []) (b := h_n h) (rest := [.ref (h_n h), .ref 16]) rfl rfl rfl (Nat.le_of_ble_eq_true rfl) (dc := 2) (by omega) (F.mono (fun r h1 F => ?_))
  obtain ⟨rfl, F⟩ := F
  show w_p _ _ 12 [(0, .ref 16)] [.ref (h_n h), .ref 16] h1 _
  obtain ⟨g2, F⟩ := F
  refine w_putR (g := 512) (x := some (h_n h)) rfl rfl rfl g2 (by decide) ?_
  refine w_b 1 16 [(0, .ref 16)] [.ref 16] rfl ?_
  refine w_new rfl ?_
  show w_p _ _ 19 [(0, .ref 16)] [.ref (h_n h1), .ref 16] (h_nO (h_sR h1 512 16 (some (h_n h))) 4 7) _
  refine w_b 1 20 [(0, .ref 16)] [.ref (h_n h1), .ref (h_n h1), .ref 16] rfl ?_
  refine w_cn (As := []) (b := h_n h1) (rest := [.ref (h_n h1), .ref 16]) rfl rfl rfl (Nat.le_of_ble_eq_true rfl) (dc := 2) (by omega) (F.mono (fun r h3 F => ?_))
  obtain ⟨rfl, F⟩ := F
  show w_p _ _ 23 [(0, .ref 16)] [.ref (h_n h1), .ref 16] h3 _
  obtain ⟨g4, F⟩ := F
  refine w_putR (g := 513) (x := some (h_n h1)) rfl rfl rfl g4 (by decide) ?_
  refine w_b 1 27 [(0, .ref 16)] [.ref 16] rfl ?_
  refine w_new rfl ?_
  show w_p _ _ 30 [(0, .ref 16)] [.ref (h_n h3), .ref 16] (h_nO (h_sR h3 513 16 (some (h_n h1))) 1 3) _
  refine w_b 1 31 [(0, .ref 16)] [.ref (h_n h3), .ref (h_n h3), .ref 16] rfl ?_
  refine w_cn (As := []) (b := h_n h3) (rest := [.ref (h_n h3), .ref 16]) rfl rfl rfl (Nat.le_of_ble_eq_true rfl) (dc := 2) (by omega) (F.mono (fun r h5 F => ?_))
  obtain ⟨rfl, F⟩ := F
  show w_p _ _ 34 [(0, .ref 16)] [.ref (h_n h3), .ref 16] h5 _
  obtain ⟨g6, F⟩ := F
  refine w_putR (g := 514) (x := some (h_n h3)) rfl rfl rfl g6 (by decide) ?_
  refine w_b 2 40 [(0, .ref 16)] [.int 12, .ref 16] rfl ?_
  refine w_anew (x := 12) rfl (by decide) (by decide) ?_
  show w_p _ _ 43 [(0, .ref 16)] [.ref (h_n h5), .ref 16] (h_nA (h_sR h5 514 16 (some (h_n h3))) 23 12) _
  obtain ⟨g7, F⟩ := F
  refine w_putR (g := 515) (x := some (h_n h5)) rfl rfl rfl g7 (by decide) ?_
  refine w_b 1 47 [(0, .ref 16)] [.ref 16] rfl ?_
  refine w_new rfl ?_
  show w_p _ _ 50 [(0, .ref 16)] [.ref (h_n h5 + 1), .ref 16] (h_nO (h_sR (h_nA (h_sR h5 514 16 (some (h_n h3))) 23 12) 515 16 (some (h_n h5))) 7 4) _
  refine w_b 1 51 [(0, .ref 16)] [.ref (h_n h5 + 1), .ref (h_n h5 + 1), .ref 16] rfl ?_
  refine w_cn (As := []) (b := h_n h5 + 1) (rest := [.ref (h_n h5 + 1), .ref 16]) rfl rfl rfl (Nat.le_of_ble_eq_true rfl) (dc := 2) (by omega) (F.mono (fun r h8 F => ?_))
  obtain ⟨rfl, F⟩ := F
  show w_p _ _ 54 [(0, .ref 16)] [.ref (h_n h5 + 1), .ref 16] h8 _
  obtain ⟨g9, F⟩ := F
  refine w_putR (g := 516) (x := some (h_n h5 + 1)) rfl rfl rfl g9 (by decide) ?_
  refine w_b 1 58 [(0, .ref 16)] [.ref 16] rfl ?_
  refine w_new rfl ?_
  show w_p _ _ 61 [(0, .ref 16)] [.ref (h_n h8), .ref 16] (h_nO (h_sR h8 516 16 (some (h_n h5 + 1))) 7 4) _
  refine w_b 1 62 [(0, .ref 16)] [.ref (h_n h8), .ref (h_n h8), .ref 16] rfl ?_
  refine w_cn (As := []) (b := h_n h8) (rest := [.ref (h_n h8), .ref 16]) rfl rfl rfl (Nat.le_of_ble_eq_true rfl) (dc := 2) (by omega) (F.mono (fun r h10 F => ?_))
  obtain ⟨rfl, F⟩ := F
  show w_p _ _ 65 [(0, .ref 16)] [.ref (h_n h8), .ref 16] h10 _
  obtain ⟨g11, F⟩ := F
  refine w_putR (g := 517) (x := some (h_n h8)) rfl rfl rfl g11 (by decide) ?_
  refine w_b 1 69 [(0, .ref 16)] [.ref 16] rfl ?_
  refine w_new rfl ?_
  show w_p _ _ 72 [(0, .ref 16)] [.ref (h_n h10), .ref 16] (h_nO (h_sR h10 517 16 (some (h_n h8))) 2 8) _
  refine w_b 1 73 [(0, .ref 16)] [.ref (h_n h10), .ref (h_n h10), .ref 16] rfl ?_
  refine w_cn (As := []) (b := h_n h10) (rest := [.ref (h_n h10), .ref 16]) rfl rfl rfl (Nat.le_of_ble_eq_true rfl) (dc := 2) (by omega) (F.mono (fun r h12 F => ?_))
  obtain ⟨rfl, F⟩ := F
  show w_p _ _ 76 [(0, .ref 16)] [.ref (h_n h10), .ref 16] h12 _
  obtain ⟨g13, F⟩ := F
  refine w_putR (g := 518) (x := some (h_n h10)) rfl rfl rfl g13 (by decide) ?_
  refine w_b 2 81 [(0, .ref 16)] [.int 4, .ref 16] rfl ?_
  refine w_anew (x := 4) rfl (by decide) (by decide) ?_
  show w_p _ _ 84 [(0, .ref 16)] [.ref (h_n h12), .ref 16] (h_nA (h_sR h12 518 16 (some (h_n h10))) 24 4) _
  obtain ⟨g14, F⟩ := F
  refine w_putR (g := 519) (x := some (h_n h12)) rfl rfl rfl g14 (by decide) ?_
  exact w_vr rfl F

theorem i_X8 {h : mm_H} {Q : Option Value → mm_H → Prop} {s L : Nat} {xs : Nat → Int32} (b : bJ h 17 s [(16, 9), (1, 20), (2, 20), (3, 20), (4, 30), (5, 30), (6, 30), (7, 30), (8, 30)] [(1, 5), (2, 5), (3, 5)] [] L xs) (k : ∀ h', bJ h' 44 (s + 381) [(43, 24), (42, 20), (41, 20), (40, 20), (39, 3), (38, 20), (37, 20), (36, 20), (35, 8), (34, 20), (33, 20), (32, 20), (31, 8), (30, 23), (23, 25), (24, 20), (25, 20), (26, 20), (27, 20), (28, 20), (29, 20), (22, 20), (21, 2), (20, 20), (19, 5), (18, 21), (17, 7), (16, 9), (1, 20), (2, 20), (3, 20), (4, 30), (5, 30), (6, 30), (7, 30), (8, 30)] [(43, 4), (42, 10), (41, 10), (40, 10), (38, 10), (37, 10), (36, 10), (34, 10), (33, 10), (32, 10), (30, 12), (23, 6), (24, 5), (25, 5), (26, 5), (27, 5), (28, 5), (29, 5), (22, 6), (20, 5), (18, 200), (1, 5), (2, 5), (3, 5)] [(519, 16, 43), (518, 16, 39), (130, 39, 42), (129, 39, 41), (128, 39, 40), (517, 16, 35), (450, 35, 38), (449, 35, 37), (448, 35, 36), (516, 16, 31), (450, 31, 34), (449, 31, 33), (448, 31, 32), (515, 16, 30), (514, 16, 21), (65, 21, 23), (64, 21, 22), (513, 16, 19), (256, 19, 20), (512, 16, 17), (384, 17, 18)] L xs → Q none h') : w_c 3 61 [.ref 16] h Q := by
  refine t_X8_init_0 ?_
  have e := b.1.1
  rw [e]
  refine i_X6_init_17 (b.nO 6 2 (by decide)) (by decide) (by decide) (fun h1 b1 => ⟨rfl, b1.k (q := (16, 9)) (by decide), ?_⟩)
  have e1 := b1.1.1
  rw [e1]
  have c1 := b1.sR 512 16 (x := 17) (v := 17) rfl (by decide) (by decide)
  refine i_X4_init_19 (c1.nO 4 7 (by decide)) (by decide) (by decide) (fun h2 b2 => ⟨rfl, b2.k (q := (16, 9)) (by decide), ?_⟩)
  have e2 := b2.1.1
  rw [e2]
  have c2 := b2.sR 513 16 (x := 19) (v := 19) rfl (by decide) (by decide)
  refine i_X1_init_21 (c2.nO 1 3 (by decide)) (by decide) (by decide) (fun h3 b3 => ⟨rfl, b3.k (q := (16, 9)) (by decide), ?_⟩)
  have e3 := b3.1.1
  rw [e3]
  have c3 := b3.sR 514 16 (x := 21) (v := 21) rfl (by decide) (by decide)
  have w1 := c3.nA 23 12 (by decide)
  refine ⟨w1.k (q := (16, 9)) (by decide), ?_⟩
  have w2 := w1.sR 515 16 (x := 30) (v := 30) rfl (by decide) (by decide)
  refine i_X7_init_31 (w2.nO 7 4 (by decide)) (by decide) (by decide) (fun h4 b4 => ⟨rfl, b4.k (q := (16, 9)) (by decide), ?_⟩)
  have e4 := b4.1.1
  rw [e4]
  have c4 := b4.sR 516 16 (x := 31) (v := 31) rfl (by decide) (by decide)
  refine i_X7_init_35 (c4.nO 7 4 (by decide)) (by decide) (by decide) (fun h5 b5 => ⟨rfl, b5.k (q := (16, 9)) (by decide), ?_⟩)
  have e5 := b5.1.1
  rw [e5]
  have c5 := b5.sR 517 16 (x := 35) (v := 35) rfl (by decide) (by decide)
  refine i_X2_init_39 (c5.nO 2 8 (by decide)) (by decide) (by decide) (fun h6 b6 => ⟨rfl, b6.k (q := (16, 9)) (by decide), ?_⟩)
  have e6 := b6.1.1
  rw [e6]
  have c6 := b6.sR 518 16 (x := 39) (v := 39) rfl (by decide) (by decide)
  have w3 := c6.nA 24 4 (by decide)
  have w4 := w3.sR 519 16 (x := 43) (v := 43) rfl (by decide) (by decide)
  exact ⟨w3.k (q := (16, 9)) (by decide), k _ w4⟩
set_option maxRecDepth 20000 in
theorem t_X9_init_0 {h : mm_H} {Q : Option Value → mm_H → Prop} {K207 : Int32 → mm_H → Prop} (k207 : ∀ (x1 : Int32) (h : mm_H), K207 x1 h → w_p 3 (9, 2, mc_X9_init) 207 [(0, .ref 44), (1, .int x1)] [] h Q) 
    (F : (h_kd (h_nA h 20 200) 44 = 10 ∧ (h_kd (h_nA (h_sR (h_nA h 20 200) 576 44 (some (h_n h))) 20 5) 44 = 10 ∧ (h_kd (h_nA (h_sR (h_nA (h_sR (h_nA h 20 200) 576 44 (some (h_n h))) 20 5) 584 44 (some (h_n h + 1))) 20 6) 44 = 10 ∧ (h_kd (h_nA (h_sR (h_nA (h_sR (h_nA (h_sR (h_nA h 20 200) 576 44 (some (h_n h))) 20 5) 584 44 (some (h_n h + 1))) 20 6) 586 44 (some (h_n h + 2))) 20 30) 44 = 10 ∧ (h_kd (h_nA (h_sR (h_nA (h_sR (h_nA (h_sR (h_nA (h_sR (h_nA h 20 200) 576 44 (some (h_n h))) 20 5) 584 44 (some (h_n h + 1))) 20 6) 586 44 (some (h_n h + 2))) 20 30) 587 44 (some (h_n h + 3))) 22 12) 44 = 10 ∧ (h_kd (h_nA (h_sR (h_nA (h_sR (h_nA (h_sR (h_nA (h_sR (h_nA (h_sR (h_nA h 20 200) 576 44 (some (h_n h))) 20 5) 584 44 (some (h_n h + 1))) 20 6) 586 44 (some (h_n h + 2))) 20 30) 587 44 (some (h_n h + 3))) 22 12) 591 44 (some (h_n h + 4))) 20 12) 44 = 10 ∧ (h_kd (h_nA (h_sR (h_nA (h_sR (h_nA (h_sR (h_nA (h_sR (h_nA (h_sR (h_nA (h_sR (h_nA h 20 200) 576 44 (some (h_n h))) 20 5) 584 44 (some (h_n h + 1))) 20 6) 586 44 (some (h_n h + 2))) 20 30) 587 44 (some (h_n h + 3))) 22 12) 591 44 (some (h_n h + 4))) 20 12) 592 44 (some (h_n h + 5))) 20 12) 44 = 10 ∧ (h_kd (h_nA (h_sR (h_nA (h_sR (h_nA (h_sR (h_nA (h_sR (h_nA (h_sR (h_nA (h_sR (h_nA (h_sR (h_nA h 20 200) 576 44 (some (h_n h))) 20 5) 584 44 (some (h_n h + 1))) 20 6) 586 44 (some (h_n h + 2))) 20 30) 587 44 (some (h_n h + 3))) 22 12) 591 44 (some (h_n h + 4))) 20 12) 592 44 (some (h_n h + 5))) 20 12) 593 44 (some (h_n h + 6))) 20 12) 44 = 10 ∧ (h_kd (h_nA (h_sR (h_nA (h_sR (h_nA (h_sR (h_nA (h_sR (h_nA (h_sR (h_nA (h_sR (h_nA (h_sR (h_nA (h_sR (h_nA h 20 200) 576 44 (some (h_n h))) 20 5) 584 44 (some (h_n h + 1))) 20 6) 586 44 (some (h_n h + 2))) 20 30) 587 44 (some (h_n h + 3))) 22 12) 591 44 (some (h_n h + 4))) 20 12) 592 44 (some (h_n h + 5))) 20 12) 593 44 (some (h_n h + 6))) 20 12) 594 44 (some (h_n h + 7))) 20 24012) 44 = 10 ∧ (h_kd (h_nA (h_sR (h_nA (h_sR (h_nA (h_sR (h_nA (h_sR (h_nA (h_sR (h_nA (h_sR (h_nA (h_sR (h_nA (h_sR (h_nA (h_sR (h_nA h 20 200) 576 44 (some (h_n h))) 20 5) 584 44 (some (h_n h + 1))) 20 6) 586 44 (some (h_n h + 2))) 20 30) 587 44 (some (h_n h + 3))) 22 12) 591 44 (some (h_n h + 4))) 20 12) 592 44 (some (h_n h + 5))) 20 12) 593 44 (some (h_n h + 6))) 20 12) 594 44 (some (h_n h + 7))) 20 24012) 595 44 (some (h_n h + 8))) 22 144) 44 = 10 ∧ (h_kd (h_nA (h_sR (h_nA (h_sR (h_nA (h_sR (h_nA (h_sR (h_nA (h_sR (h_nA (h_sR (h_nA (h_sR (h_nA (h_sR (h_nA (h_sR (h_nA (h_sR (h_nA h 20 200) 576 44 (some (h_n h))) 20 5) 584 44 (some (h_n h + 1))) 20 6) 586 44 (some (h_n h + 2))) 20 30) 587 44 (some (h_n h + 3))) 22 12) 591 44 (some (h_n h + 4))) 20 12) 592 44 (some (h_n h + 5))) 20 12) 593 44 (some (h_n h + 6))) 20 12) 594 44 (some (h_n h + 7))) 20 24012) 595 44 (some (h_n h + 8))) 22 144) 596 44 (some (h_n h + 9))) 20 10) 44 = 10 ∧ (h_kd (h_nA (h_sR (h_nA (h_sR (h_nA (h_sR (h_nA (h_sR (h_nA (h_sR (h_nA (h_sR (h_nA (h_sR (h_nA (h_sR (h_nA (h_sR (h_nA (h_sR (h_nA (h_sR (h_nA h 20 200) 576 44 (some (h_n h))) 20 5) 584 44 (some (h_n h + 1))) 20 6) 586 44 (some (h_n h + 2))) 20 30) 587 44 (some (h_n h + 3))) 22 12) 591 44 (some (h_n h + 4))) 20 12) 592 44 (some (h_n h + 5))) 20 12) 593 44 (some (h_n h + 6))) 20 12) 594 44 (some (h_n h + 7))) 20 24012) 595 44 (some (h_n h + 8))) 22 144) 596 44 (some (h_n h + 9))) 20 10) 601 44 (some (h_n h + 10))) 20 10) 44 = 10 ∧ (h_kd (h_nA (h_sR (h_nA (h_sR (h_nA (h_sR (h_nA (h_sR (h_nA (h_sR (h_nA (h_sR (h_nA (h_sR (h_nA (h_sR (h_nA (h_sR (h_nA (h_sR (h_nA (h_sR (h_nA (h_sR (h_nA h 20 200) 576 44 (some (h_n h))) 20 5) 584 44 (some (h_n h + 1))) 20 6) 586 44 (some (h_n h + 2))) 20 30) 587 44 (some (h_n h + 3))) 22 12) 591 44 (some (h_n h + 4))) 20 12) 592 44 (some (h_n h + 5))) 20 12) 593 44 (some (h_n h + 6))) 20 12) 594 44 (some (h_n h + 7))) 20 24012) 595 44 (some (h_n h + 8))) 22 144) 596 44 (some (h_n h + 9))) 20 10) 601 44 (some (h_n h + 10))) 20 10) 602 44 (some (h_n h + 11))) 20 10) 44 = 10 ∧ (h_kd (h_nA (h_sR (h_nA (h_sR (h_nA (h_sR (h_nA (h_sR (h_nA (h_sR (h_nA (h_sR (h_nA (h_sR (h_nA (h_sR (h_nA (h_sR (h_nA (h_sR (h_nA (h_sR (h_nA (h_sR (h_nA (h_sR (h_nA h 20 200) 576 44 (some (h_n h))) 20 5) 584 44 (some (h_n h + 1))) 20 6) 586 44 (some (h_n h + 2))) 20 30) 587 44 (some (h_n h + 3))) 22 12) 591 44 (some (h_n h + 4))) 20 12) 592 44 (some (h_n h + 5))) 20 12) 593 44 (some (h_n h + 6))) 20 12) 594 44 (some (h_n h + 7))) 20 24012) 595 44 (some (h_n h + 8))) 22 144) 596 44 (some (h_n h + 9))) 20 10) 601 44 (some (h_n h + 10))) 20 10) 602 44 (some (h_n h + 11))) 20 10) 603 44 (some (h_n h + 12))) 20 10) 44 = 10 ∧ (h_kd (h_nA (h_sR (h_nA (h_sR (h_nA (h_sR (h_nA (h_sR (h_nA (h_sR (h_nA (h_sR (h_nA (h_sR (h_nA (h_sR (h_nA (h_sR (h_nA (h_sR (h_nA (h_sR (h_nA (h_sR (h_nA (h_sR (h_nA (h_sR (h_nA h 20 200) 576 44 (some (h_n h))) 20 5) 584 44 (some (h_n h + 1))) 20 6) 586 44 (some (h_n h + 2))) 20 30) 587 44 (some (h_n h + 3))) 22 12) 591 44 (some (h_n h + 4))) 20 12) 592 44 (some (h_n h + 5))) 20 12) 593 44 (some (h_n h + 6))) 20 12) 594 44 (some (h_n h + 7))) 20 24012) 595 44 (some (h_n h + 8))) 22 144) 596 44 (some (h_n h + 9))) 20 10) 601 44 (some (h_n h + 10))) 20 10) 602 44 (some (h_n h + 11))) 20 10) 603 44 (some (h_n h + 12))) 20 10) 605 44 (some (h_n h + 13))) 20 10) 44 = 10 ∧ (h_kd (h_nA (h_sR (h_nA (h_sR (h_nA (h_sR (h_nA (h_sR (h_nA (h_sR (h_nA (h_sR (h_nA (h_sR (h_nA (h_sR (h_nA (h_sR (h_nA (h_sR (h_nA (h_sR (h_nA (h_sR (h_nA (h_sR (h_nA (h_sR (h_nA (h_sR (h_nA h 20 200) 576 44 (some (h_n h))) 20 5) 584 44 (some (h_n h + 1))) 20 6) 586 44 (some (h_n h + 2))) 20 30) 587 44 (some (h_n h + 3))) 22 12) 591 44 (some (h_n h + 4))) 20 12) 592 44 (some (h_n h + 5))) 20 12) 593 44 (some (h_n h + 6))) 20 12) 594 44 (some (h_n h + 7))) 20 24012) 595 44 (some (h_n h + 8))) 22 144) 596 44 (some (h_n h + 9))) 20 10) 601 44 (some (h_n h + 10))) 20 10) 602 44 (some (h_n h + 11))) 20 10) 603 44 (some (h_n h + 12))) 20 10) 605 44 (some (h_n h + 13))) 20 10) 606 44 (some (h_n h + 14))) 20 10) 44 = 10 ∧ (h_kd (h_nA (h_sR (h_nA (h_sR (h_nA (h_sR (h_nA (h_sR (h_nA (h_sR (h_nA (h_sR (h_nA (h_sR (h_nA (h_sR (h_nA (h_sR (h_nA (h_sR (h_nA (h_sR (h_nA (h_sR (h_nA (h_sR (h_nA (h_sR (h_nA (h_sR (h_nA (h_sR (h_nA h 20 200) 576 44 (some (h_n h))) 20 5) 584 44 (some (h_n h + 1))) 20 6) 586 44 (some (h_n h + 2))) 20 30) 587 44 (some (h_n h + 3))) 22 12) 591 44 (some (h_n h + 4))) 20 12) 592 44 (some (h_n h + 5))) 20 12) 593 44 (some (h_n h + 6))) 20 12) 594 44 (some (h_n h + 7))) 20 24012) 595 44 (some (h_n h + 8))) 22 144) 596 44 (some (h_n h + 9))) 20 10) 601 44 (some (h_n h + 10))) 20 10) 602 44 (some (h_n h + 11))) 20 10) 603 44 (some (h_n h + 12))) 20 10) 605 44 (some (h_n h + 13))) 20 10) 606 44 (some (h_n h + 14))) 20 10) 607 44 (some (h_n h + 15))) 22 100) 44 = 10 ∧ (h_kd (h_nA (h_sR (h_nA (h_sR (h_nA (h_sR (h_nA (h_sR (h_nA (h_sR (h_nA (h_sR (h_nA (h_sR (h_nA (h_sR (h_nA (h_sR (h_nA (h_sR (h_nA (h_sR (h_nA (h_sR (h_nA (h_sR (h_nA (h_sR (h_nA (h_sR (h_nA (h_sR (h_nA (h_sR (h_nA h 20 200) 576 44 (some (h_n h))) 20 5) 584 44 (some (h_n h + 1))) 20 6) 586 44 (some (h_n h + 2))) 20 30) 587 44 (some (h_n h + 3))) 22 12) 591 44 (some (h_n h + 4))) 20 12) 592 44 (some (h_n h + 5))) 20 12) 593 44 (some (h_n h + 6))) 20 12) 594 44 (some (h_n h + 7))) 20 24012) 595 44 (some (h_n h + 8))) 22 144) 596 44 (some (h_n h + 9))) 20 10) 601 44 (some (h_n h + 10))) 20 10) 602 44 (some (h_n h + 11))) 20 10) 603 44 (some (h_n h + 12))) 20 10) 605 44 (some (h_n h + 13))) 20 10) 606 44 (some (h_n h + 14))) 20 10) 607 44 (some (h_n h + 15))) 22 100) 608 44 (some (h_n h + 16))) 20 10) 44 = 10 ∧ (h_kd (h_nA (h_sR (h_nA (h_sR (h_nA (h_sR (h_nA (h_sR (h_nA (h_sR (h_nA (h_sR (h_nA (h_sR (h_nA (h_sR (h_nA (h_sR (h_nA (h_sR (h_nA (h_sR (h_nA (h_sR (h_nA (h_sR (h_nA (h_sR (h_nA (h_sR (h_nA (h_sR (h_nA (h_sR (h_nA (h_sR (h_nA h 20 200) 576 44 (some (h_n h))) 20 5) 584 44 (some (h_n h + 1))) 20 6) 586 44 (some (h_n h + 2))) 20 30) 587 44 (some (h_n h + 3))) 22 12) 591 44 (some (h_n h + 4))) 20 12) 592 44 (some (h_n h + 5))) 20 12) 593 44 (some (h_n h + 6))) 20 12) 594 44 (some (h_n h + 7))) 20 24012) 595 44 (some (h_n h + 8))) 22 144) 596 44 (some (h_n h + 9))) 20 10) 601 44 (some (h_n h + 10))) 20 10) 602 44 (some (h_n h + 11))) 20 10) 603 44 (some (h_n h + 12))) 20 10) 605 44 (some (h_n h + 13))) 20 10) 606 44 (some (h_n h + 14))) 20 10) 607 44 (some (h_n h + 15))) 22 100) 608 44 (some (h_n h + 16))) 20 10) 609 44 (some (h_n h + 17))) 20 10) 44 = 10 ∧ (h_kd (h_nA (h_sR (h_nA (h_sR (h_nA (h_sR (h_nA (h_sR (h_nA (h_sR (h_nA (h_sR (h_nA (h_sR (h_nA (h_sR (h_nA (h_sR (h_nA (h_sR (h_nA (h_sR (h_nA (h_sR (h_nA (h_sR (h_nA (h_sR (h_nA (h_sR (h_nA (h_sR (h_nA (h_sR (h_nA (h_sR (h_nA (h_sR (h_nA h 20 200) 576 44 (some (h_n h))) 20 5) 584 44 (some (h_n h + 1))) 20 6) 586 44 (some (h_n h + 2))) 20 30) 587 44 (some (h_n h + 3))) 22 12) 591 44 (some (h_n h + 4))) 20 12) 592 44 (some (h_n h + 5))) 20 12) 593 44 (some (h_n h + 6))) 20 12) 594 44 (some (h_n h + 7))) 20 24012) 595 44 (some (h_n h + 8))) 22 144) 596 44 (some (h_n h + 9))) 20 10) 601 44 (some (h_n h + 10))) 20 10) 602 44 (some (h_n h + 11))) 20 10) 603 44 (some (h_n h + 12))) 20 10) 605 44 (some (h_n h + 13))) 20 10) 606 44 (some (h_n h + 14))) 20 10) 607 44 (some (h_n h + 15))) 22 100) 608 44 (some (h_n h + 16))) 20 10) 609 44 (some (h_n h + 17))) 20 10) 610 44 (some (h_n h + 18))) 20 10) 44 = 10 ∧ (h_kd (h_nA (h_sR (h_nA (h_sR (h_nA (h_sR (h_nA (h_sR (h_nA (h_sR (h_nA (h_sR (h_nA (h_sR (h_nA (h_sR (h_nA (h_sR (h_nA (h_sR (h_nA (h_sR (h_nA (h_sR (h_nA (h_sR (h_nA (h_sR (h_nA (h_sR (h_nA (h_sR (h_nA (h_sR (h_nA (h_sR (h_nA (h_sR (h_nA (h_sR (h_nA h 20 200) 576 44 (some (h_n h))) 20 5) 584 44 (some (h_n h + 1))) 20 6) 586 44 (some (h_n h + 2))) 20 30) 587 44 (some (h_n h + 3))) 22 12) 591 44 (some (h_n h + 4))) 20 12) 592 44 (some (h_n h + 5))) 20 12) 593 44 (some (h_n h + 6))) 20 12) 594 44 (some (h_n h + 7))) 20 24012) 595 44 (some (h_n h + 8))) 22 144) 596 44 (some (h_n h + 9))) 20 10) 601 44 (some (h_n h + 10))) 20 10) 602 44 (some (h_n h + 11))) 20 10) 603 44 (some (h_n h + 12))) 20 10) 605 44 (some (h_n h + 13))) 20 10) 606 44 (some (h_n h + 14))) 20 10) 607 44 (some (h_n h + 15))) 22 100) 608 44 (some (h_n h + 16))) 20 10) 609 44 (some (h_n h + 17))) 20 10) 610 44 (some (h_n h + 18))) 20 10) 611 44 (some (h_n h + 19))) 20 20) 44 = 10 ∧ (h_kd (h_nA (h_sR (h_nA (h_sR (h_nA (h_sR (h_nA (h_sR (h_nA (h_sR (h_nA (h_sR (h_nA (h_sR (h_nA (h_sR (h_nA (h_sR (h_nA (h_sR (h_nA (h_sR (h_nA (h_sR (h_nA (h_sR (h_nA (h_sR (h_nA (h_sR (h_nA (h_sR (h_nA (h_sR (h_nA (h_sR (h_nA (h_sR (h_nA (h_sR (h_nA (h_sR (h_nA h 20 200) 576 44 (some (h_n h))) 20 5) 584 44 (some (h_n h + 1))) 20 6) 586 44 (some (h_n h + 2))) 20 30) 587 44 (some (h_n h + 3))) 22 12) 591 44 (some (h_n h + 4))) 20 12) 592 44 (some (h_n h + 5))) 20 12) 593 44 (some (h_n h + 6))) 20 12) 594 44 (some (h_n h + 7))) 20 24012) 595 44 (some (h_n h + 8))) 22 144) 596 44 (some (h_n h + 9))) 20 10) 601 44 (some (h_n h + 10))) 20 10) 602 44 (some (h_n h + 11))) 20 10) 603 44 (some (h_n h + 12))) 20 10) 605 44 (some (h_n h + 13))) 20 10) 606 44 (some (h_n h + 14))) 20 10) 607 44 (some (h_n h + 15))) 22 100) 608 44 (some (h_n h + 16))) 20 10) 609 44 (some (h_n h + 17))) 20 10) 610 44 (some (h_n h + 18))) 20 10) 611 44 (some (h_n h + 19))) 20 20) 612 44 (some (h_n h + 20))) 20 10) 44 = 10 ∧ (h_kd (h_nA (h_sR (h_nA (h_sR (h_nA (h_sR (h_nA (h_sR (h_nA (h_sR (h_nA (h_sR (h_nA (h_sR (h_nA (h_sR (h_nA (h_sR (h_nA (h_sR (h_nA (h_sR (h_nA (h_sR (h_nA (h_sR (h_nA (h_sR (h_nA (h_sR (h_nA (h_sR (h_nA (h_sR (h_nA (h_sR (h_nA (h_sR (h_nA (h_sR (h_nA (h_sR (h_nA (h_sR (h_nA h 20 200) 576 44 (some (h_n h))) 20 5) 584 44 (some (h_n h + 1))) 20 6) 586 44 (some (h_n h + 2))) 20 30) 587 44 (some (h_n h + 3))) 22 12) 591 44 (some (h_n h + 4))) 20 12) 592 44 (some (h_n h + 5))) 20 12) 593 44 (some (h_n h + 6))) 20 12) 594 44 (some (h_n h + 7))) 20 24012) 595 44 (some (h_n h + 8))) 22 144) 596 44 (some (h_n h + 9))) 20 10) 601 44 (some (h_n h + 10))) 20 10) 602 44 (some (h_n h + 11))) 20 10) 603 44 (some (h_n h + 12))) 20 10) 605 44 (some (h_n h + 13))) 20 10) 606 44 (some (h_n h + 14))) 20 10) 607 44 (some (h_n h + 15))) 22 100) 608 44 (some (h_n h + 16))) 20 10) 609 44 (some (h_n h + 17))) 20 10) 610 44 (some (h_n h + 18))) 20 10) 611 44 (some (h_n h + 19))) 20 20) 612 44 (some (h_n h + 20))) 20 10) 613 44 (some (h_n h + 21))) 20 4) 44 = 10 ∧ (h_kd (h_nA (h_sR (h_nA (h_sR (h_nA (h_sR (h_nA (h_sR (h_nA (h_sR (h_nA (h_sR (h_nA (h_sR (h_nA (h_sR (h_nA (h_sR (h_nA (h_sR (h_nA (h_sR (h_nA (h_sR (h_nA (h_sR (h_nA (h_sR (h_nA (h_sR (h_nA (h_sR (h_nA (h_sR (h_nA (h_sR (h_nA (h_sR (h_nA (h_sR (h_nA (h_sR (h_nA (h_sR (h_nA (h_sR (h_nA h 20 200) 576 44 (some (h_n h))) 20 5) 584 44 (some (h_n h + 1))) 20 6) 586 44 (some (h_n h + 2))) 20 30) 587 44 (some (h_n h + 3))) 22 12) 591 44 (some (h_n h + 4))) 20 12) 592 44 (some (h_n h + 5))) 20 12) 593 44 (some (h_n h + 6))) 20 12) 594 44 (some (h_n h + 7))) 20 24012) 595 44 (some (h_n h + 8))) 22 144) 596 44 (some (h_n h + 9))) 20 10) 601 44 (some (h_n h + 10))) 20 10) 602 44 (some (h_n h + 11))) 20 10) 603 44 (some (h_n h + 12))) 20 10) 605 44 (some (h_n h + 13))) 20 10) 606 44 (some (h_n h + 14))) 20 10) 607 44 (some (h_n h + 15))) 22 100) 608 44 (some (h_n h + 16))) 20 10) 609 44 (some (h_n h + 17))) 20 10) 610 44 (some (h_n h + 18))) 20 10) 611 44 (some (h_n h + 19))) 20 20) 612 44 (some (h_n h + 20))) 20 10) 613 44 (some (h_n h + 21))) 20 4) 614 44 (some (h_n h + 22))) 20 4) 44 = 10 ∧ (h_kd (h_nA (h_sR (h_nA (h_sR (h_nA (h_sR (h_nA (h_sR (h_nA (h_sR (h_nA (h_sR (h_nA (h_sR (h_nA (h_sR (h_nA (h_sR (h_nA (h_sR (h_nA (h_sR (h_nA (h_sR (h_nA (h_sR (h_nA (h_sR (h_nA (h_sR (h_nA (h_sR (h_nA (h_sR (h_nA (h_sR (h_nA (h_sR (h_nA (h_sR (h_nA (h_sR (h_nA (h_sR (h_nA (h_sR (h_nA (h_sR (h_nA h 20 200) 576 44 (some (h_n h))) 20 5) 584 44 (some (h_n h + 1))) 20 6) 586 44 (some (h_n h + 2))) 20 30) 587 44 (some (h_n h + 3))) 22 12) 591 44 (some (h_n h + 4))) 20 12) 592 44 (some (h_n h + 5))) 20 12) 593 44 (some (h_n h + 6))) 20 12) 594 44 (some (h_n h + 7))) 20 24012) 595 44 (some (h_n h + 8))) 22 144) 596 44 (some (h_n h + 9))) 20 10) 601 44 (some (h_n h + 10))) 20 10) 602 44 (some (h_n h + 11))) 20 10) 603 44 (some (h_n h + 12))) 20 10) 605 44 (some (h_n h + 13))) 20 10) 606 44 (some (h_n h + 14))) 20 10) 607 44 (some (h_n h + 15))) 22 100) 608 44 (some (h_n h + 16))) 20 10) 609 44 (some (h_n h + 17))) 20 10) 610 44 (some (h_n h + 18))) 20 10) 611 44 (some (h_n h + 19))) 20 20) 612 44 (some (h_n h + 20))) 20 10) 613 44 (some (h_n h + 21))) 20 4) 614 44 (some (h_n h + 22))) 20 4) 615 44 (some (h_n h + 23))) 20 240) 44 = 10 ∧ K207 0 (h_sR (h_nA (h_sR (h_nA (h_sR (h_nA (h_sR (h_nA (h_sR (h_nA (h_sR (h_nA (h_sR (h_nA (h_sR (h_nA (h_sR (h_nA (h_sR (h_nA (h_sR (h_nA (h_sR (h_nA (h_sR (h_nA (h_sR (h_nA (h_sR (h_nA (h_sR (h_nA (h_sR (h_nA (h_sR (h_nA (h_sR (h_nA (h_sR (h_nA (h_sR (h_nA (h_sR (h_nA (h_sR (h_nA (h_sR (h_nA (h_sR (h_nA h 20 200) 576 44 (some (h_n h))) 20 5) 584 44 (some (h_n h + 1))) 20 6) 586 44 (some (h_n h + 2))) 20 30) 587 44 (some (h_n h + 3))) 22 12) 591 44 (some (h_n h + 4))) 20 12) 592 44 (some (h_n h + 5))) 20 12) 593 44 (some (h_n h + 6))) 20 12) 594 44 (some (h_n h + 7))) 20 24012) 595 44 (some (h_n h + 8))) 22 144) 596 44 (some (h_n h + 9))) 20 10) 601 44 (some (h_n h + 10))) 20 10) 602 44 (some (h_n h + 11))) 20 10) 603 44 (some (h_n h + 12))) 20 10) 605 44 (some (h_n h + 13))) 20 10) 606 44 (some (h_n h + 14))) 20 10) 607 44 (some (h_n h + 15))) 22 100) 608 44 (some (h_n h + 16))) 20 10) 609 44 (some (h_n h + 17))) 20 10) 610 44 (some (h_n h + 18))) 20 10) 611 44 (some (h_n h + 19))) 20 20) 612 44 (some (h_n h + 20))) 20 10) 613 44 (some (h_n h + 21))) 20 4) 614 44 (some (h_n h + 22))) 20 4) 615 44 (some (h_n h + 23))) 20 240) 616 44 (some (h_n h + 24))))))))))))))))))))))))))))) :
    w_c 3 102 [.ref 44] h Q := by
  refine w_ci (M := (9, 2, mc_X9_init)) rfl (Nat.le_of_ble_eq_true rfl) ?_
  show w_p _ _ 0 [(0, .ref 44)] [] h Q
  refine w_b 1 1 [(0, .ref 44)] [.ref 44] rfl ?_
  refine w_o rfl (Nat.le_of_ble_eq_true rfl) ?_
  refine w_b 2 8 [(0, .ref 44)] [.int 200, .ref 44] rfl ?_
  refine w_newa (x := 200) rfl (by decide) (by decide) ?_
  show w_p _ _ 10 [(0, .ref 44)] [.ref (h_n h), .ref 44] (h_nA h 20 200) _
  obtain ⟨g1, F⟩ := F
  refine w_putR (g := 576) (x := some (h_n h)) rfl rfl rfl g1 (by decide) ?_
  refine w_b 2 15 [(0, .ref 44)] [.int 5, .ref 44] rfl ?_
  refine w_newa (x := 5) rfl (by decide) (by decide) ?_
  show w_p _ _ 17 [(0, .ref 44)] [.ref (h_n h + 1), .ref 44] (h_nA (h_sR (h_nA h 20 200) 576 44 (some (h_n h))) 20 5) _
  obtain ⟨g2, F⟩ := F
  refine w_putR (g := 584) (x := some (h_n h + 1)) rfl rfl rfl g2 (by decide) ?_
  refine w_b 2 23 [(0, .ref 44)] [.int 6, .ref 44] rfl ?_
  refine w_newa (x := 6) rfl (by decide) (by decide) ?_
  show w_p _ _ 25 [(0, .ref 44)] [.ref (h_n h + 2), .ref 44] (h_nA (h_sR (h_nA (h_sR (h_nA h 20 200) 576 44 (some (h_n h))) 20 5) 584 44 (some (h_n h + 1))) 20 6) _
  obtain ⟨g3, F⟩ := F
  refine w_putR (g := 586) (x := some (h_n h + 2)) rfl rfl rfl g3 (by decide) ?_
  refine w_b 2 31 [(0, .ref 44)] [.int 30, .ref 44] rfl ?_
  refine w_newa (x := 30) rfl (by decide) (by decide) ?_
  show w_p _ _ 33 [(0, .ref 44)] [.ref (h_n h + 3), .ref 44] (h_nA (h_sR (h_nA (h_sR (h_nA (h_sR (h_nA h 20 200) 576 44 (some (h_n h))) 20 5) 584 44 (some (h_n h + 1))) 20 6) 586 44 (some (h_n h + 2))) 20 30) _
  obtain ⟨g4, F⟩ := F
  refine w_putR (g := 587) (x := some (h_n h + 3)) rfl rfl rfl g4 (by decide) ?_
  refine w_b 2 39 [(0, .ref 44)] [.int 12, .ref 44] rfl ?_
  refine w_newa (x := 12) rfl (by decide) (by decide) ?_
  show w_p _ _ 41 [(0, .ref 44)] [.ref (h_n h + 4), .ref 44] (h_nA (h_sR (h_nA (h_sR (h_nA (h_sR (h_nA (h_sR (h_nA h 20 200) 576 44 (some (h_n h))) 20 5) 584 44 (some (h_n h + 1))) 20 6) 586 44 (some (h_n h + 2))) 20 30) 587 44 (some (h_n h + 3))) 22 12) _
  obtain ⟨g5, F⟩ := F
  refine w_putR (g := 591) (x := some (h_n h + 4)) rfl rfl rfl g5 (by decide) ?_
  refine w_b 2 47 [(0, .ref 44)] [.int 12, .ref 44] rfl ?_
  refine w_newa (x := 12) rfl (by decide) (by decide) ?_
  show w_p _ _ 49 [(0, .ref 44)] [.ref (h_n h + 5), .ref 44] (h_nA (h_sR (h_nA (h_sR (h_nA (h_sR (h_nA (h_sR (h_nA (h_sR (h_nA h 20 200) 576 44 (some (h_n h))) 20 5) 584 44 (some (h_n h + 1))) 20 6) 586 44 (some (h_n h + 2))) 20 30) 587 44 (some (h_n h + 3))) 22 12) 591 44 (some (h_n h + 4))) 20 12) _
  obtain ⟨g6, F⟩ := F
  refine w_putR (g := 592) (x := some (h_n h + 5)) rfl rfl rfl g6 (by decide) ?_
  refine w_b 2 55 [(0, .ref 44)] [.int 12, .ref 44] rfl ?_
  refine w_newa (x := 12) rfl (by decide) (by decide) ?_
  show w_p _ _ 57 [(0, .ref 44)] [.ref (h_n h + 6), .ref 44] (h_nA (h_sR (h_nA (h_sR (h_nA (h_sR (h_nA (h_sR (h_nA (h_sR (h_nA (h_sR (h_nA h 20 200) 576 44 (some (h_n h))) 20 5) 584 44 (some (h_n h + 1))) 20 6) 586 44 (some (h_n h + 2))) 20 30) 587 44 (some (h_n h + 3))) 22 12) 591 44 (some (h_n h + 4))) 20 12) 592 44 (some (h_n h + 5))) 20 12) _
  obtain ⟨g7, F⟩ := F
  refine w_putR (g := 593) (x := some (h_n h + 6)) rfl rfl rfl g7 (by decide) ?_
  refine w_b 2 63 [(0, .ref 44)] [.int 12, .ref 44] rfl ?_
  refine w_newa (x := 12) rfl (by decide) (by decide) ?_
  show w_p _ _ 65 [(0, .ref 44)] [.ref (h_n h + 7), .ref 44] (h_nA (h_sR (h_nA (h_sR (h_nA (h_sR (h_nA (h_sR (h_nA (h_sR (h_nA (h_sR (h_nA (h_sR (h_nA h 20 200) 576 44 (some (h_n h))) 20 5) 584 44 (some (h_n h + 1))) 20 6) 586 44 (some (h_n h + 2))) 20 30) 587 44 (some (h_n h + 3))) 22 12) 591 44 (some (h_n h + 4))) 20 12) 592 44 (some (h_n h + 5))) 20 12) 593 44 (some (h_n h + 6))) 20 12) _
  obtain ⟨g8, F⟩ := F
  refine w_putR (g := 594) (x := some (h_n h + 7)) rfl rfl rfl g8 (by decide) ?_
  refine w_b 2 72 [(0, .ref 44)] [.int 24012, .ref 44] rfl ?_
  refine w_newa (x := 24012) rfl (by decide) (by decide) ?_
  show w_p _ _ 74 [(0, .ref 44)] [.ref (h_n h + 8), .ref 44] (h_nA (h_sR (h_nA (h_sR (h_nA (h_sR (h_nA (h_sR (h_nA (h_sR (h_nA (h_sR (h_nA (h_sR (h_nA (h_sR (h_nA h 20 200) 576 44 (some (h_n h))) 20 5) 584 44 (some (h_n h + 1))) 20 6) 586 44 (some (h_n h + 2))) 20 30) 587 44 (some (h_n h + 3))) 22 12) 591 44 (some (h_n h + 4))) 20 12) 592 44 (some (h_n h + 5))) 20 12) 593 44 (some (h_n h + 6))) 20 12) 594 44 (some (h_n h + 7))) 20 24012) _
  obtain ⟨g9, F⟩ := F
  refine w_putR (g := 595) (x := some (h_n h + 8)) rfl rfl rfl g9 (by decide) ?_
  refine w_b 2 81 [(0, .ref 44)] [.int 144, .ref 44] rfl ?_
  refine w_newa (x := 144) rfl (by decide) (by decide) ?_
  show w_p _ _ 83 [(0, .ref 44)] [.ref (h_n h + 9), .ref 44] (h_nA (h_sR (h_nA (h_sR (h_nA (h_sR (h_nA (h_sR (h_nA (h_sR (h_nA (h_sR (h_nA (h_sR (h_nA (h_sR (h_nA (h_sR (h_nA h 20 200) 576 44 (some (h_n h))) 20 5) 584 44 (some (h_n h + 1))) 20 6) 586 44 (some (h_n h + 2))) 20 30) 587 44 (some (h_n h + 3))) 22 12) 591 44 (some (h_n h + 4))) 20 12) 592 44 (some (h_n h + 5))) 20 12) 593 44 (some (h_n h + 6))) 20 12) 594 44 (some (h_n h + 7))) 20 24012) 595 44 (some (h_n h + 8))) 22 144) _
  obtain ⟨g10, F⟩ := F
  refine w_putR (g := 596) (x := some (h_n h + 9)) rfl rfl rfl g10 (by decide) ?_
  refine w_b 2 89 [(0, .ref 44)] [.int 10, .ref 44] rfl ?_
  refine w_newa (x := 10) rfl (by decide) (by decide) ?_
  show w_p _ _ 91 [(0, .ref 44)] [.ref (h_n h + 10), .ref 44] (h_nA (h_sR (h_nA (h_sR (h_nA (h_sR (h_nA (h_sR (h_nA (h_sR (h_nA (h_sR (h_nA (h_sR (h_nA (h_sR (h_nA (h_sR (h_nA (h_sR (h_nA h 20 200) 576 44 (some (h_n h))) 20 5) 584 44 (some (h_n h + 1))) 20 6) 586 44 (some (h_n h + 2))) 20 30) 587 44 (some (h_n h + 3))) 22 12) 591 44 (some (h_n h + 4))) 20 12) 592 44 (some (h_n h + 5))) 20 12) 593 44 (some (h_n h + 6))) 20 12) 594 44 (some (h_n h + 7))) 20 24012) 595 44 (some (h_n h + 8))) 22 144) 596 44 (some (h_n h + 9))) 20 10) _
  obtain ⟨g11, F⟩ := F
  refine w_putR (g := 601) (x := some (h_n h + 10)) rfl rfl rfl g11 (by decide) ?_
  refine w_b 2 97 [(0, .ref 44)] [.int 10, .ref 44] rfl ?_
  refine w_newa (x := 10) rfl (by decide) (by decide) ?_
  show w_p _ _ 99 [(0, .ref 44)] [.ref (h_n h + 11), .ref 44] (h_nA (h_sR (h_nA (h_sR (h_nA (h_sR (h_nA (h_sR (h_nA (h_sR (h_nA (h_sR (h_nA (h_sR (h_nA (h_sR (h_nA (h_sR (h_nA (h_sR (h_nA (h_sR (h_nA h 20 200) 576 44 (some (h_n h))) 20 5) 584 44 (some (h_n h + 1))) 20 6) 586 44 (some (h_n h + 2))) 20 30) 587 44 (some (h_n h + 3))) 22 12) 591 44 (some (h_n h + 4))) 20 12) 592 44 (some (h_n h + 5))) 20 12) 593 44 (some (h_n h + 6))) 20 12) 594 44 (some (h_n h + 7))) 20 24012) 595 44 (some (h_n h + 8))) 22 144) 596 44 (some (h_n h + 9))) 20 10) 601 44 (some (h_n h + 10))) 20 10) _
  obtain ⟨g12, F⟩ := F
  refine w_putR (g := 602) (x := some (h_n h + 11)) rfl rfl rfl g12 (by decide) ?_
  refine w_b 2 105 [(0, .ref 44)] [.int 10, .ref 44] rfl ?_
  refine w_newa (x := 10) rfl (by decide) (by decide) ?_
  show w_p _ _ 107 [(0, .ref 44)] [.ref (h_n h + 12), .ref 44] (h_nA (h_sR (h_nA (h_sR (h_nA (h_sR (h_nA (h_sR (h_nA (h_sR (h_nA (h_sR (h_nA (h_sR (h_nA (h_sR (h_nA (h_sR (h_nA (h_sR (h_nA (h_sR (h_nA (h_sR (h_nA h 20 200) 576 44 (some (h_n h))) 20 5) 584 44 (some (h_n h + 1))) 20 6) 586 44 (some (h_n h + 2))) 20 30) 587 44 (some (h_n h + 3))) 22 12) 591 44 (some (h_n h + 4))) 20 12) 592 44 (some (h_n h + 5))) 20 12) 593 44 (some (h_n h + 6))) 20 12) 594 44 (some (h_n h + 7))) 20 24012) 595 44 (some (h_n h + 8))) 22 144) 596 44 (some (h_n h + 9))) 20 10) 601 44 (some (h_n h + 10))) 20 10) 602 44 (some (h_n h + 11))) 20 10) _
  obtain ⟨g13, F⟩ := F
  refine w_putR (g := 603) (x := some (h_n h + 12)) rfl rfl rfl g13 (by decide) ?_
  refine w_b 2 113 [(0, .ref 44)] [.int 10, .ref 44] rfl ?_
  refine w_newa (x := 10) rfl (by decide) (by decide) ?_
  show w_p _ _ 115 [(0, .ref 44)] [.ref (h_n h + 13), .ref 44] (h_nA (h_sR (h_nA (h_sR (h_nA (h_sR (h_nA (h_sR (h_nA (h_sR (h_nA (h_sR (h_nA (h_sR (h_nA (h_sR (h_nA (h_sR (h_nA (h_sR (h_nA (h_sR (h_nA (h_sR (h_nA (h_sR (h_nA h 20 200) 576 44 (some (h_n h))) 20 5) 584 44 (some (h_n h + 1))) 20 6) 586 44 (some (h_n h + 2))) 20 30) 587 44 (some (h_n h + 3))) 22 12) 591 44 (some (h_n h + 4))) 20 12) 592 44 (some (h_n h + 5))) 20 12) 593 44 (some (h_n h + 6))) 20 12) 594 44 (some (h_n h + 7))) 20 24012) 595 44 (some (h_n h + 8))) 22 144) 596 44 (some (h_n h + 9))) 20 10) 601 44 (some (h_n h + 10))) 20 10) 602 44 (some (h_n h + 11))) 20 10) 603 44 (some (h_n h + 12))) 20 10) _
  obtain ⟨g14, F⟩ := F
  refine w_putR (g := 605) (x := some (h_n h + 13)) rfl rfl rfl g14 (by decide) ?_
  refine w_b 2 121 [(0, .ref 44)] [.int 10, .ref 44] rfl ?_
  refine w_newa (x := 10) rfl (by decide) (by decide) ?_
  show w_p _ _ 123 [(0, .ref 44)] [.ref (h_n h + 14), .ref 44] (h_nA (h_sR (h_nA (h_sR (h_nA (h_sR (h_nA (h_sR (h_nA (h_sR (h_nA (h_sR (h_nA (h_sR (h_nA (h_sR (h_nA (h_sR (h_nA (h_sR (h_nA (h_sR (h_nA (h_sR (h_nA (h_sR (h_nA (h_sR (h_nA h 20 200) 576 44 (some (h_n h))) 20 5) 584 44 (some (h_n h + 1))) 20 6) 586 44 (some (h_n h + 2))) 20 30) 587 44 (some (h_n h + 3))) 22 12) 591 44 (some (h_n h + 4))) 20 12) 592 44 (some (h_n h + 5))) 20 12) 593 44 (some (h_n h + 6))) 20 12) 594 44 (some (h_n h + 7))) 20 24012) 595 44 (some (h_n h + 8))) 22 144) 596 44 (some (h_n h + 9))) 20 10) 601 44 (some (h_n h + 10))) 20 10) 602 44 (some (h_n h + 11))) 20 10) 603 44 (some (h_n h + 12))) 20 10) 605 44 (some (h_n h + 13))) 20 10) _
  obtain ⟨g15, F⟩ := F
  refine w_putR (g := 606) (x := some (h_n h + 14)) rfl rfl rfl g15 (by decide) ?_
  refine w_b 2 129 [(0, .ref 44)] [.int 10, .ref 44] rfl ?_
  refine w_newa (x := 10) rfl (by decide) (by decide) ?_
  show w_p _ _ 131 [(0, .ref 44)] [.ref (h_n h + 15), .ref 44] (h_nA (h_sR (h_nA (h_sR (h_nA (h_sR (h_nA (h_sR (h_nA (h_sR (h_nA (h_sR (h_nA (h_sR (h_nA (h_sR (h_nA (h_sR (h_nA (h_sR (h_nA (h_sR (h_nA (h_sR (h_nA (h_sR (h_nA (h_sR (h_nA (h_sR (h_nA h 20 200) 576 44 (some (h_n h))) 20 5) 584 44 (some (h_n h + 1))) 20 6) 586 44 (some (h_n h + 2))) 20 30) 587 44 (some (h_n h + 3))) 22 12) 591 44 (some (h_n h + 4))) 20 12) 592 44 (some (h_n h + 5))) 20 12) 593 44 (some (h_n h + 6))) 20 12) 594 44 (some (h_n h + 7))) 20 24012) 595 44 (some (h_n h + 8))) 22 144) 596 44 (some (h_n h + 9))) 20 10) 601 44 (some (h_n h + 10))) 20 10) 602 44 (some (h_n h + 11))) 20 10) 603 44 (some (h_n h + 12))) 20 10) 605 44 (some (h_n h + 13))) 20 10) 606 44 (some (h_n h + 14))) 20 10) _
  obtain ⟨g16, F⟩ := F
  refine w_putR (g := 607) (x := some (h_n h + 15)) rfl rfl rfl g16 (by decide) ?_
  refine w_b 2 137 [(0, .ref 44)] [.int 100, .ref 44] rfl ?_
  refine w_newa (x := 100) rfl (by decide) (by decide) ?_
  show w_p _ _ 139 [(0, .ref 44)] [.ref (h_n h + 16), .ref 44] (h_nA (h_sR (h_nA (h_sR (h_nA (h_sR (h_nA (h_sR (h_nA (h_sR (h_nA (h_sR (h_nA (h_sR (h_nA (h_sR (h_nA (h_sR (h_nA (h_sR (h_nA (h_sR (h_nA (h_sR (h_nA (h_sR (h_nA (h_sR (h_nA (h_sR (h_nA (h_sR (h_nA h 20 200) 576 44 (some (h_n h))) 20 5) 584 44 (some (h_n h + 1))) 20 6) 586 44 (some (h_n h + 2))) 20 30) 587 44 (some (h_n h + 3))) 22 12) 591 44 (some (h_n h + 4))) 20 12) 592 44 (some (h_n h + 5))) 20 12) 593 44 (some (h_n h + 6))) 20 12) 594 44 (some (h_n h + 7))) 20 24012) 595 44 (some (h_n h + 8))) 22 144) 596 44 (some (h_n h + 9))) 20 10) 601 44 (some (h_n h + 10))) 20 10) 602 44 (some (h_n h + 11))) 20 10) 603 44 (some (h_n h + 12))) 20 10) 605 44 (some (h_n h + 13))) 20 10) 606 44 (some (h_n h + 14))) 20 10) 607 44 (some (h_n h + 15))) 22 100) _
  obtain ⟨g17, F⟩ := F
  refine w_putR (g := 608) (x := some (h_n h + 16)) rfl rfl rfl g17 (by decide) ?_
  refine w_b 2 145 [(0, .ref 44)] [.int 10, .ref 44] rfl ?_
  refine w_newa (x := 10) rfl (by decide) (by decide) ?_
  show w_p _ _ 147 [(0, .ref 44)] [.ref (h_n h + 17), .ref 44] (h_nA (h_sR (h_nA (h_sR (h_nA (h_sR (h_nA (h_sR (h_nA (h_sR (h_nA (h_sR (h_nA (h_sR (h_nA (h_sR (h_nA (h_sR (h_nA (h_sR (h_nA (h_sR (h_nA (h_sR (h_nA (h_sR (h_nA (h_sR (h_nA (h_sR (h_nA (h_sR (h_nA (h_sR (h_nA h 20 200) 576 44 (some (h_n h))) 20 5) 584 44 (some (h_n h + 1))) 20 6) 586 44 (some (h_n h + 2))) 20 30) 587 44 (some (h_n h + 3))) 22 12) 591 44 (some (h_n h + 4))) 20 12) 592 44 (some (h_n h + 5))) 20 12) 593 44 (some (h_n h + 6))) 20 12) 594 44 (some (h_n h + 7))) 20 24012) 595 44 (some (h_n h + 8))) 22 144) 596 44 (some (h_n h + 9))) 20 10) 601 44 (some (h_n h + 10))) 20 10) 602 44 (some (h_n h + 11))) 20 10) 603 44 (some (h_n h + 12))) 20 10) 605 44 (some (h_n h + 13))) 20 10) 606 44 (some (h_n h + 14))) 20 10) 607 44 (some (h_n h + 15))) 22 100) 608 44 (some (h_n h + 16))) 20 10) _
  obtain ⟨g18, F⟩ := F
  refine w_putR (g := 609) (x := some (h_n h + 17)) rfl rfl rfl g18 (by decide) ?_
  refine w_b 2 153 [(0, .ref 44)] [.int 10, .ref 44] rfl ?_
  refine w_newa (x := 10) rfl (by decide) (by decide) ?_
  show w_p _ _ 155 [(0, .ref 44)] [.ref (h_n h + 18), .ref 44] (h_nA (h_sR (h_nA (h_sR (h_nA (h_sR (h_nA (h_sR (h_nA (h_sR (h_nA (h_sR (h_nA (h_sR (h_nA (h_sR (h_nA (h_sR (h_nA (h_sR (h_nA (h_sR (h_nA (h_sR (h_nA (h_sR (h_nA (h_sR (h_nA (h_sR (h_nA (h_sR (h_nA (h_sR (h_nA (h_sR (h_nA h 20 200) 576 44 (some (h_n h))) 20 5) 584 44 (some (h_n h + 1))) 20 6) 586 44 (some (h_n h + 2))) 20 30) 587 44 (some (h_n h + 3))) 22 12) 591 44 (some (h_n h + 4))) 20 12) 592 44 (some (h_n h + 5))) 20 12) 593 44 (some (h_n h + 6))) 20 12) 594 44 (some (h_n h + 7))) 20 24012) 595 44 (some (h_n h + 8))) 22 144) 596 44 (some (h_n h + 9))) 20 10) 601 44 (some (h_n h + 10))) 20 10) 602 44 (some (h_n h + 11))) 20 10) 603 44 (some (h_n h + 12))) 20 10) 605 44 (some (h_n h + 13))) 20 10) 606 44 (some (h_n h + 14))) 20 10) 607 44 (some (h_n h + 15))) 22 100) 608 44 (some (h_n h + 16))) 20 10) 609 44 (some (h_n h + 17))) 20 10) _
  obtain ⟨g19, F⟩ := F
  refine w_putR (g := 610) (x := some (h_n h + 18)) rfl rfl rfl g19 (by decide) ?_
  refine w_b 2 161 [(0, .ref 44)] [.int 10, .ref 44] rfl ?_
  refine w_newa (x := 10) rfl (by decide) (by decide) ?_
  show w_p _ _ 163 [(0, .ref 44)] [.ref (h_n h + 19), .ref 44] (h_nA (h_sR (h_nA (h_sR (h_nA (h_sR (h_nA (h_sR (h_nA (h_sR (h_nA (h_sR (h_nA (h_sR (h_nA (h_sR (h_nA (h_sR (h_nA (h_sR (h_nA (h_sR (h_nA (h_sR (h_nA (h_sR (h_nA (h_sR (h_nA (h_sR (h_nA (h_sR (h_nA (h_sR (h_nA (h_sR (h_nA (h_sR (h_nA h 20 200) 576 44 (some (h_n h))) 20 5) 584 44 (some (h_n h + 1))) 20 6) 586 44 (some (h_n h + 2))) 20 30) 587 44 (some (h_n h + 3))) 22 12) 591 44 (some (h_n h + 4))) 20 12) 592 44 (some (h_n h + 5))) 20 12) 593 44 (some (h_n h + 6))) 20 12) 594 44 (some (h_n h + 7))) 20 24012) 595 44 (some (h_n h + 8))) 22 144) 596 44 (some (h_n h + 9))) 20 10) 601 44 (some (h_n h + 10))) 20 10) 602 44 (some (h_n h + 11))) 20 10) 603 44 (some (h_n h + 12))) 20 10) 605 44 (some (h_n h + 13))) 20 10) 606 44 (some (h_n h + 14))) 20 10) 607 44 (some (h_n h + 15))) 22 100) 608 44 (some (h_n h + 16))) 20 10) 609 44 (some (h_n h + 17))) 20 10) 610 44 (some (h_n h + 18))) 20 10) _
  obtain ⟨g20, F⟩ := F
  refine w_putR (g := 611) (x := some (h_n h + 19)) rfl rfl rfl g20 (by decide) ?_
  refine w_b 2 169 [(0, .ref 44)] [.int 20, .ref 44] rfl ?_
  refine w_newa (x := 20) rfl (by decide) (by decide) ?_
  show w_p _ _ 171 [(0, .ref 44)] [.ref (h_n h + 20), .ref 44] (h_nA (h_sR (h_nA (h_sR (h_nA (h_sR (h_nA (h_sR (h_nA (h_sR (h_nA (h_sR (h_nA (h_sR (h_nA (h_sR (h_nA (h_sR (h_nA (h_sR (h_nA (h_sR (h_nA (h_sR (h_nA (h_sR (h_nA (h_sR (h_nA (h_sR (h_nA (h_sR (h_nA (h_sR (h_nA (h_sR (h_nA (h_sR (h_nA (h_sR (h_nA h 20 200) 576 44 (some (h_n h))) 20 5) 584 44 (some (h_n h + 1))) 20 6) 586 44 (some (h_n h + 2))) 20 30) 587 44 (some (h_n h + 3))) 22 12) 591 44 (some (h_n h + 4))) 20 12) 592 44 (some (h_n h + 5))) 20 12) 593 44 (some (h_n h + 6))) 20 12) 594 44 (some (h_n h + 7))) 20 24012) 595 44 (some (h_n h + 8))) 22 144) 596 44 (some (h_n h + 9))) 20 10) 601 44 (some (h_n h + 10))) 20 10) 602 44 (some (h_n h + 11))) 20 10) 603 44 (some (h_n h + 12))) 20 10) 605 44 (some (h_n h + 13))) 20 10) 606 44 (some (h_n h + 14))) 20 10) 607 44 (some (h_n h + 15))) 22 100) 608 44 (some (h_n h + 16))) 20 10) 609 44 (some (h_n h + 17))) 20 10) 610 44 (some (h_n h + 18))) 20 10) 611 44 (some (h_n h + 19))) 20 20) _
  obtain ⟨g21, F⟩ := F
  refine w_putR (g := 612) (x := some (h_n h + 20)) rfl rfl rfl g21 (by decide) ?_
  refine w_b 2 177 [(0, .ref 44)] [.int 10, .ref 44] rfl ?_
  refine w_newa (x := 10) rfl (by decide) (by decide) ?_
  show w_p _ _ 179 [(0, .ref 44)] [.ref (h_n h + 21), .ref 44] (h_nA (h_sR (h_nA (h_sR (h_nA (h_sR (h_nA (h_sR (h_nA (h_sR (h_nA (h_sR (h_nA (h_sR (h_nA (h_sR (h_nA (h_sR (h_nA (h_sR (h_nA (h_sR (h_nA (h_sR (h_nA (h_sR (h_nA (h_sR (h_nA (h_sR (h_nA (h_sR (h_nA (h_sR (h_nA (h_sR (h_nA (h_sR (h_nA (h_sR (h_nA (h_sR (h_nA h 20 200) 576 44 (some (h_n h))) 20 5) 584 44 (some (h_n h + 1))) 20 6) 586 44 (some (h_n h + 2))) 20 30) 587 44 (some (h_n h + 3))) 22 12) 591 44 (some (h_n h + 4))) 20 12) 592 44 (some (h_n h + 5))) 20 12) 593 44 (some (h_n h + 6))) 20 12) 594 44 (some (h_n h + 7))) 20 24012) 595 44 (some (h_n h + 8))) 22 144) 596 44 (some (h_n h + 9))) 20 10) 601 44 (some (h_n h + 10))) 20 10) 602 44 (some (h_n h + 11))) 20 10) 603 44 (some (h_n h + 12))) 20 10) 605 44 (some (h_n h + 13))) 20 10) 606 44 (some (h_n h + 14))) 20 10) 607 44 (some (h_n h + 15))) 22 100) 608 44 (some (h_n h + 16))) 20 10) 609 44 (some (h_n h + 17))) 20 10) 610 44 (some (h_n h + 18))) 20 10) 611 44 (some (h_n h + 19))) 20 20) 612 44 (some (h_n h + 20))) 20 10) _
  obtain ⟨g22, F⟩ := F
  refine w_putR (g := 613) (x := some (h_n h + 21)) rfl rfl rfl g22 (by decide) ?_
  refine w_b 2 184 [(0, .ref 44)] [.int 4, .ref 44] rfl ?_
  refine w_newa (x := 4) rfl (by decide) (by decide) ?_
  show w_p _ _ 186 [(0, .ref 44)] [.ref (h_n h + 22), .ref 44] (h_nA (h_sR (h_nA (h_sR (h_nA (h_sR (h_nA (h_sR (h_nA (h_sR (h_nA (h_sR (h_nA (h_sR (h_nA (h_sR (h_nA (h_sR (h_nA (h_sR (h_nA (h_sR (h_nA (h_sR (h_nA (h_sR (h_nA (h_sR (h_nA (h_sR (h_nA (h_sR (h_nA (h_sR (h_nA (h_sR (h_nA (h_sR (h_nA (h_sR (h_nA (h_sR (h_nA (h_sR (h_nA h 20 200) 576 44 (some (h_n h))) 20 5) 584 44 (some (h_n h + 1))) 20 6) 586 44 (some (h_n h + 2))) 20 30) 587 44 (some (h_n h + 3))) 22 12) 591 44 (some (h_n h + 4))) 20 12) 592 44 (some (h_n h + 5))) 20 12) 593 44 (some (h_n h + 6))) 20 12) 594 44 (some (h_n h + 7))) 20 24012) 595 44 (some (h_n h + 8))) 22 144) 596 44 (some (h_n h + 9))) 20 10) 601 44 (some (h_n h + 10))) 20 10) 602 44 (some (h_n h + 11))) 20 10) 603 44 (some (h_n h + 12))) 20 10) 605 44 (some (h_n h + 13))) 20 10) 606 44 (some (h_n h + 14))) 20 10) 607 44 (some (h_n h + 15))) 22 100) 608 44 (some (h_n h + 16))) 20 10) 609 44 (some (h_n h + 17))) 20 10) 610 44 (some (h_n h + 18))) 20 10) 611 44 (some (h_n h + 19))) 20 20) 612 44 (some (h_n h + 20))) 20 10) 613 44 (some (h_n h + 21))) 20 4) _
  obtain ⟨g23, F⟩ := F
  refine w_putR (g := 614) (x := some (h_n h + 22)) rfl rfl rfl g23 (by decide) ?_
  refine w_b 2 191 [(0, .ref 44)] [.int 4, .ref 44] rfl ?_
  refine w_newa (x := 4) rfl (by decide) (by decide) ?_
  show w_p _ _ 193 [(0, .ref 44)] [.ref (h_n h + 23), .ref 44] (h_nA (h_sR (h_nA (h_sR (h_nA (h_sR (h_nA (h_sR (h_nA (h_sR (h_nA (h_sR (h_nA (h_sR (h_nA (h_sR (h_nA (h_sR (h_nA (h_sR (h_nA (h_sR (h_nA (h_sR (h_nA (h_sR (h_nA (h_sR (h_nA (h_sR (h_nA (h_sR (h_nA (h_sR (h_nA (h_sR (h_nA (h_sR (h_nA (h_sR (h_nA (h_sR (h_nA (h_sR (h_nA (h_sR (h_nA h 20 200) 576 44 (some (h_n h))) 20 5) 584 44 (some (h_n h + 1))) 20 6) 586 44 (some (h_n h + 2))) 20 30) 587 44 (some (h_n h + 3))) 22 12) 591 44 (some (h_n h + 4))) 20 12) 592 44 (some (h_n h + 5))) 20 12) 593 44 (some (h_n h + 6))) 20 12) 594 44 (some (h_n h + 7))) 20 24012) 595 44 (some (h_n h + 8))) 22 144) 596 44 (some (h_n h + 9))) 20 10) 601 44 (some (h_n h + 10))) 20 10) 602 44 (some (h_n h + 11))) 20 10) 603 44 (some (h_n h + 12))) 20 10) 605 44 (some (h_n h + 13))) 20 10) 606 44 (some (h_n h + 14))) 20 10) 607 44 (some (h_n h + 15))) 22 100) 608 44 (some (h_n h + 16))) 20 10) 609 44 (some (h_n h + 17))) 20 10) 610 44 (some (h_n h + 18))) 20 10) 611 44 (some (h_n h + 19))) 20 20) 612 44 (some (h_n h + 20))) 20 10) 613 44 (some (h_n h + 21))) 20 4) 614 44 (some (h_n h + 22))) 20 4) _
  obtain ⟨g24, F⟩ := F
  refine w_putR (g := 615) (x := some (h_n h + 23)) rfl rfl rfl g24 (by decide) ?_
  refine w_b 2 200 [(0, .ref 44)] [.int 240, .ref 44] rfl ?_
  refine w_newa (x := 240) rfl (by decide) (by decide) ?_
  show w_p _ _ 202 [(0, .ref 44)] [.ref (h_n h + 24), .ref 44] (h_nA (h_sR (h_nA (h_sR (h_nA (h_sR (h_nA (h_sR (h_nA (h_sR (h_nA (h_sR (h_nA (h_sR (h_nA (h_sR (h_nA (h_sR (h_nA (h_sR (h_nA (h_sR (h_nA (h_sR (h_nA (h_sR (h_nA (h_sR (h_nA (h_sR (h_nA (h_sR (h_nA (h_sR (h_nA (h_sR (h_nA (h_sR (h_nA (h_sR (h_nA (h_sR (h_nA (h_sR (h_nA (h_sR (h_nA (h_sR (h_nA h 20 200) 576 44 (some (h_n h))) 20 5) 584 44 (some (h_n h + 1))) 20 6) 586 44 (some (h_n h + 2))) 20 30) 587 44 (some (h_n h + 3))) 22 12) 591 44 (some (h_n h + 4))) 20 12) 592 44 (some (h_n h + 5))) 20 12) 593 44 (some (h_n h + 6))) 20 12) 594 44 (some (h_n h + 7))) 20 24012) 595 44 (some (h_n h + 8))) 22 144) 596 44 (some (h_n h + 9))) 20 10) 601 44 (some (h_n h + 10))) 20 10) 602 44 (some (h_n h + 11))) 20 10) 603 44 (some (h_n h + 12))) 20 10) 605 44 (some (h_n h + 13))) 20 10) 606 44 (some (h_n h + 14))) 20 10) 607 44 (some (h_n h + 15))) 22 100) 608 44 (some (h_n h + 16))) 20 10) 609 44 (some (h_n h + 17))) 20 10) 610 44 (some (h_n h + 18))) 20 10) 611 44 (some (h_n h + 19))) 20 20) 612 44 (some (h_n h + 20))) 20 10) 613 44 (some (h_n h + 21))) 20 4) 614 44 (some (h_n h + 22))) 20 4) 615 44 (some (h_n h + 23))) 20 240) _
  obtain ⟨g25, F⟩ := F
  refine w_putR (g := 616) (x := some (h_n h + 24)) rfl rfl rfl g25 (by decide) ?_
  refine w_b 2 207 [(1, .int 0), (0, .ref 44)] [] rfl ?_
  refine w_lo [0, 1] [(0, .ref 44), (1, .int 0)] rfl rfl ?_
  exact k207 _ _ F

set_option maxRecDepth 20000 in
theorem t_X9_init_207 {h : mm_H} {Q : Option Value → mm_H → Prop} (sh : s_h h) (x1 : Int32) {K207 : Int32 → mm_H → Prop} (k207 : ∀ (x1 : Int32) (h : mm_H), K207 x1 h → w_p 3 (9, 2, mc_X9_init) 207 [(0, .ref 44), (1, .int x1)] [] h Q) 
    (F : ((4 ≤ x1 → Q none h) ∧ (¬ (4 ≤ x1) → (vp_in x1 4 ∧ K207 (x1 + 1) (h_sA h 67 x1.toNatClampNeg (-4)))))) :
    w_p 3 (9, 2, mc_X9_init) 207 [(0, .ref 44), (1, .int x1)] [] h Q := by
  refine w_b 2 209 [(0, .ref 44), (1, .int x1)] [.int 4, .int x1] rfl ?_
  refine w_ic_ge (tgt := 226) (x := x1) (y := 4) rfl (by decide) ⟨fun c1 => ?_, fun c1 => ?_⟩
  · have F := F.1 c1
    exact w_vr rfl F
  · have F := F.2 c1
    refine w_b 1 213 [(0, .ref 44), (1, .int x1)] [.ref 44] rfl ?_
    refine w_getS (b := 67) rfl rfl rfl (kd_44 sh) (or_614_44 sh) ?_
    refine w_b 2 219 [(0, .ref 44), (1, .int x1)] [.int (-4), .int x1, .ref 67] rfl ?_
    obtain ⟨g2, F⟩ := F
    refine w_iast rfl (kd_67 sh) (by decide) (Eq.mpr (congrArg (vp_in x1) (al_67 sh)) g2) ?_
    refine w_b 2 207 [(1, .int (x1 + 1)), (0, .ref 44)] [] rfl ?_
    refine w_lo [0, 1] [(0, .ref 44), (1, .int (x1 + 1))] rfl rfl ?_
    exact k207 _ _ F

theorem i_X9 {h : mm_H} {Q : Option Value → mm_H → Prop} {s : Nat} {kd al : List (Nat × Nat)} {or : List (Nat × Nat × Nat)} {L : Nat} {xs : Nat → Int32} (b : bJ h 45 s kd al or L xs) (hk : (44, 10) ∈ kd) (hf : ∀ q ∈ or, q.2.1 ≠ 44) (k : ∀ h', bJ h' 70 (s + 200 + 5 + 6 + 30 + 12 + 12 + 12 + 12 + 24012 + 144 + 10 + 10 + 10 + 10 + 10 + 10 + 100 + 10 + 10 + 10 + 20 + 10 + 4 + 4 + 240) ((69, 20) :: (68, 20) :: (67, 20) :: (66, 20) :: (65, 20) :: (64, 20) :: (63, 20) :: (62, 20) :: (61, 22) :: (60, 20) :: (59, 20) :: (58, 20) :: (57, 20) :: (56, 20) :: (55, 20) :: (54, 22) :: (53, 20) :: (52, 20) :: (51, 20) :: (50, 20) :: (49, 22) :: (48, 20) :: (47, 20) :: (46, 20) :: (45, 20) :: kd) ((69, 240) :: (68, 4) :: (67, 4) :: (66, 10) :: (65, 20) :: (64, 10) :: (63, 10) :: (62, 10) :: (61, 100) :: (60, 10) :: (59, 10) :: (58, 10) :: (57, 10) :: (56, 10) :: (55, 10) :: (54, 144) :: (53, 24012) :: (52, 12) :: (51, 12) :: (50, 12) :: (49, 12) :: (48, 30) :: (47, 6) :: (46, 5) :: (45, 200) :: al) ((616, 44, 69) :: (615, 44, 68) :: (614, 44, 67) :: (613, 44, 66) :: (612, 44, 65) :: (611, 44, 64) :: (610, 44, 63) :: (609, 44, 62) :: (608, 44, 61) :: (607, 44, 60) :: (606, 44, 59) :: (605, 44, 58) :: (603, 44, 57) :: (602, 44, 56) :: (601, 44, 55) :: (596, 44, 54) :: (595, 44, 53) :: (594, 44, 52) :: (593, 44, 51) :: (592, 44, 50) :: (591, 44, 49) :: (587, 44, 48) :: (586, 44, 47) :: (584, 44, 46) :: (576, 44, 45) :: or) L xs → w_p 3 (9, 2, mc_X9_init) 207 [(0, .ref 44), (1, .int 0)] [] h' Q) : w_c 3 102 [.ref 44] h Q := by
  have b0 := b.nA 20 200 (by decide)
  have k1 : (44, 10) ∈ _ := List.mem_cons_of_mem (45, 20) hk
  have b1 := b0.sR 576 44 (x := h_n h) (v := 45) (by have := b.1.1; omega) (by decide) (fun q hq z => hf q hq z.2)
  have b2 := b1.nA 20 5 (by decide)
  have k3 : (44, 10) ∈ _ := List.mem_cons_of_mem (46, 20) k1
  have b3 := b2.sR 584 44 (x := h_n h + 1) (v := 46) (by have := b.1.1; omega) (by decide) (nf_cons (by decide) (fun q hq z => hf q hq z.2))
  have b4 := b3.nA 20 6 (by decide)
  have k5 : (44, 10) ∈ _ := List.mem_cons_of_mem (47, 20) k3
  have b5 := b4.sR 586 44 (x := h_n h + 2) (v := 47) (by have := b.1.1; omega) (by decide) (nf_cons (by decide) (nf_cons (by decide) (fun q hq z => hf q hq z.2)))
  have b6 := b5.nA 20 30 (by decide)
  have k7 : (44, 10) ∈ _ := List.mem_cons_of_mem (48, 20) k5
  have b7 := b6.sR 587 44 (x := h_n h + 3) (v := 48) (by have := b.1.1; omega) (by decide) (nf_cons (by decide) (nf_cons (by decide) (nf_cons (by decide) (fun q hq z => hf q hq z.2))))
  have b8 := b7.nA 22 12 (by decide)
  have k9 : (44, 10) ∈ _ := List.mem_cons_of_mem (49, 22) k7
  have b9 := b8.sR 591 44 (x := h_n h + 4) (v := 49) (by have := b.1.1; omega) (by decide) (nf_cons (by decide) (nf_cons (by decide) (nf_cons (by decide) (nf_cons (by decide) (fun q hq z => hf q hq z.2)))))
  have b10 := b9.nA 20 12 (by decide)
  have k11 : (44, 10) ∈ _ := List.mem_cons_of_mem (50, 20) k9
  have b11 := b10.sR 592 44 (x := h_n h + 5) (v := 50) (by have := b.1.1; omega) (by decide) (nf_cons (by decide) (nf_cons (by decide) (nf_cons (by decide) (nf_cons (by decide) (nf_cons (by decide) (fun q hq z => hf q hq z.2))))))
  have b12 := b11.nA 20 12 (by decide)
  have k13 : (44, 10) ∈ _ := List.mem_cons_of_mem (51, 20) k11
  have b13 := b12.sR 593 44 (x := h_n h + 6) (v := 51) (by have := b.1.1; omega) (by decide) (nf_cons (by decide) (nf_cons (by decide) (nf_cons (by decide) (nf_cons (by decide) (nf_cons (by decide) (nf_cons (by decide) (fun q hq z => hf q hq z.2)))))))
  have b14 := b13.nA 20 12 (by decide)
  have k15 : (44, 10) ∈ _ := List.mem_cons_of_mem (52, 20) k13
  have b15 := b14.sR 594 44 (x := h_n h + 7) (v := 52) (by have := b.1.1; omega) (by decide) (nf_cons (by decide) (nf_cons (by decide) (nf_cons (by decide) (nf_cons (by decide) (nf_cons (by decide) (nf_cons (by decide) (nf_cons (by decide) (fun q hq z => hf q hq z.2))))))))
  have b16 := b15.nA 20 24012 (by decide)
  have k17 : (44, 10) ∈ _ := List.mem_cons_of_mem (53, 20) k15
  have b17 := b16.sR 595 44 (x := h_n h + 8) (v := 53) (by have := b.1.1; omega) (by decide) (nf_cons (by decide) (nf_cons (by decide) (nf_cons (by decide) (nf_cons (by decide) (nf_cons (by decide) (nf_cons (by decide) (nf_cons (by decide) (nf_cons (by decide) (fun q hq z => hf q hq z.2)))))))))
  have b18 := b17.nA 22 144 (by decide)
  have k19 : (44, 10) ∈ _ := List.mem_cons_of_mem (54, 22) k17
  have b19 := b18.sR 596 44 (x := h_n h + 9) (v := 54) (by have := b.1.1; omega) (by decide) (nf_cons (by decide) (nf_cons (by decide) (nf_cons (by decide) (nf_cons (by decide) (nf_cons (by decide) (nf_cons (by decide) (nf_cons (by decide) (nf_cons (by decide) (nf_cons (by decide) (fun q hq z => hf q hq z.2))))))))))
  have b20 := b19.nA 20 10 (by decide)
  have k21 : (44, 10) ∈ _ := List.mem_cons_of_mem (55, 20) k19
  have b21 := b20.sR 601 44 (x := h_n h + 10) (v := 55) (by have := b.1.1; omega) (by decide) (nf_cons (by decide) (nf_cons (by decide) (nf_cons (by decide) (nf_cons (by decide) (nf_cons (by decide) (nf_cons (by decide) (nf_cons (by decide) (nf_cons (by decide) (nf_cons (by decide) (nf_cons (by decide) (fun q hq z => hf q hq z.2)))))))))))
  have b22 := b21.nA 20 10 (by decide)
  have k23 : (44, 10) ∈ _ := List.mem_cons_of_mem (56, 20) k21
  have b23 := b22.sR 602 44 (x := h_n h + 11) (v := 56) (by have := b.1.1; omega) (by decide) (nf_cons (by decide) (nf_cons (by decide) (nf_cons (by decide) (nf_cons (by decide) (nf_cons (by decide) (nf_cons (by decide) (nf_cons (by decide) (nf_cons (by decide) (nf_cons (by decide) (nf_cons (by decide) (nf_cons (by decide) (fun q hq z => hf q hq z.2))))))))))))
  have b24 := b23.nA 20 10 (by decide)
  have k25 : (44, 10) ∈ _ := List.mem_cons_of_mem (57, 20) k23
  have b25 := b24.sR 603 44 (x := h_n h + 12) (v := 57) (by have := b.1.1; omega) (by decide) (nf_cons (by decide) (nf_cons (by decide) (nf_cons (by decide) (nf_cons (by decide) (nf_cons (by decide) (nf_cons (by decide) (nf_cons (by decide) (nf_cons (by decide) (nf_cons (by decide) (nf_cons (by decide) (nf_cons (by decide) (nf_cons (by decide) (fun q hq z => hf q hq z.2)))))))))))))
  have b26 := b25.nA 20 10 (by decide)
  have k27 : (44, 10) ∈ _ := List.mem_cons_of_mem (58, 20) k25
  have b27 := b26.sR 605 44 (x := h_n h + 13) (v := 58) (by have := b.1.1; omega) (by decide) (nf_cons (by decide) (nf_cons (by decide) (nf_cons (by decide) (nf_cons (by decide) (nf_cons (by decide) (nf_cons (by decide) (nf_cons (by decide) (nf_cons (by decide) (nf_cons (by decide) (nf_cons (by decide) (nf_cons (by decide) (nf_cons (by decide) (nf_cons (by decide) (fun q hq z => hf q hq z.2))))))))))))))
  have b28 := b27.nA 20 10 (by decide)
  have k29 : (44, 10) ∈ _ := List.mem_cons_of_mem (59, 20) k27
  have b29 := b28.sR 606 44 (x := h_n h + 14) (v := 59) (by have := b.1.1; omega) (by decide) (nf_cons (by decide) (nf_cons (by decide) (nf_cons (by decide) (nf_cons (by decide) (nf_cons (by decide) (nf_cons (by decide) (nf_cons (by decide) (nf_cons (by decide) (nf_cons (by decide) (nf_cons (by decide) (nf_cons (by decide) (nf_cons (by decide) (nf_cons (by decide) (nf_cons (by decide) (fun q hq z => hf q hq z.2)))))))))))))))
  have b30 := b29.nA 20 10 (by decide)
  have k31 : (44, 10) ∈ _ := List.mem_cons_of_mem (60, 20) k29
  have b31 := b30.sR 607 44 (x := h_n h + 15) (v := 60) (by have := b.1.1; omega) (by decide) (nf_cons (by decide) (nf_cons (by decide) (nf_cons (by decide) (nf_cons (by decide) (nf_cons (by decide) (nf_cons (by decide) (nf_cons (by decide) (nf_cons (by decide) (nf_cons (by decide) (nf_cons (by decide) (nf_cons (by decide) (nf_cons (by decide) (nf_cons (by decide) (nf_cons (by decide) (nf_cons (by decide) (fun q hq z => hf q hq z.2))))))))))))))))
  have b32 := b31.nA 22 100 (by decide)
  have k33 : (44, 10) ∈ _ := List.mem_cons_of_mem (61, 22) k31
  have b33 := b32.sR 608 44 (x := h_n h + 16) (v := 61) (by have := b.1.1; omega) (by decide) (nf_cons (by decide) (nf_cons (by decide) (nf_cons (by decide) (nf_cons (by decide) (nf_cons (by decide) (nf_cons (by decide) (nf_cons (by decide) (nf_cons (by decide) (nf_cons (by decide) (nf_cons (by decide) (nf_cons (by decide) (nf_cons (by decide) (nf_cons (by decide) (nf_cons (by decide) (nf_cons (by decide) (nf_cons (by decide) (fun q hq z => hf q hq z.2)))))))))))))))))
  have b34 := b33.nA 20 10 (by decide)
  have k35 : (44, 10) ∈ _ := List.mem_cons_of_mem (62, 20) k33
  have b35 := b34.sR 609 44 (x := h_n h + 17) (v := 62) (by have := b.1.1; omega) (by decide) (nf_cons (by decide) (nf_cons (by decide) (nf_cons (by decide) (nf_cons (by decide) (nf_cons (by decide) (nf_cons (by decide) (nf_cons (by decide) (nf_cons (by decide) (nf_cons (by decide) (nf_cons (by decide) (nf_cons (by decide) (nf_cons (by decide) (nf_cons (by decide) (nf_cons (by decide) (nf_cons (by decide) (nf_cons (by decide) (nf_cons (by decide) (fun q hq z => hf q hq z.2))))))))))))))))))
  have b36 := b35.nA 20 10 (by decide)
  have k37 : (44, 10) ∈ _ := List.mem_cons_of_mem (63, 20) k35
  have b37 := b36.sR 610 44 (x := h_n h + 18) (v := 63) (by have := b.1.1; omega) (by decide) (nf_cons (by decide) (nf_cons (by decide) (nf_cons (by decide) (nf_cons (by decide) (nf_cons (by decide) (nf_cons (by decide) (nf_cons (by decide) (nf_cons (by decide) (nf_cons (by decide) (nf_cons (by decide) (nf_cons (by decide) (nf_cons (by decide) (nf_cons (by decide) (nf_cons (by decide) (nf_cons (by decide) (nf_cons (by decide) (nf_cons (by decide) (nf_cons (by decide) (fun q hq z => hf q hq z.2)))))))))))))))))))
  have b38 := b37.nA 20 10 (by decide)
  have k39 : (44, 10) ∈ _ := List.mem_cons_of_mem (64, 20) k37
  have b39 := b38.sR 611 44 (x := h_n h + 19) (v := 64) (by have := b.1.1; omega) (by decide) (nf_cons (by decide) (nf_cons (by decide) (nf_cons (by decide) (nf_cons (by decide) (nf_cons (by decide) (nf_cons (by decide) (nf_cons (by decide) (nf_cons (by decide) (nf_cons (by decide) (nf_cons (by decide) (nf_cons (by decide) (nf_cons (by decide) (nf_cons (by decide) (nf_cons (by decide) (nf_cons (by decide) (nf_cons (by decide) (nf_cons (by decide) (nf_cons (by decide) (nf_cons (by decide) (fun q hq z => hf q hq z.2))))))))))))))))))))
  have b40 := b39.nA 20 20 (by decide)
  have k41 : (44, 10) ∈ _ := List.mem_cons_of_mem (65, 20) k39
  have b41 := b40.sR 612 44 (x := h_n h + 20) (v := 65) (by have := b.1.1; omega) (by decide) (nf_cons (by decide) (nf_cons (by decide) (nf_cons (by decide) (nf_cons (by decide) (nf_cons (by decide) (nf_cons (by decide) (nf_cons (by decide) (nf_cons (by decide) (nf_cons (by decide) (nf_cons (by decide) (nf_cons (by decide) (nf_cons (by decide) (nf_cons (by decide) (nf_cons (by decide) (nf_cons (by decide) (nf_cons (by decide) (nf_cons (by decide) (nf_cons (by decide) (nf_cons (by decide) (nf_cons (by decide) (fun q hq z => hf q hq z.2)))))))))))))))))))))
  have b42 := b41.nA 20 10 (by decide)
  have k43 : (44, 10) ∈ _ := List.mem_cons_of_mem (66, 20) k41
  have b43 := b42.sR 613 44 (x := h_n h + 21) (v := 66) (by have := b.1.1; omega) (by decide) (nf_cons (by decide) (nf_cons (by decide) (nf_cons (by decide) (nf_cons (by decide) (nf_cons (by decide) (nf_cons (by decide) (nf_cons (by decide) (nf_cons (by decide) (nf_cons (by decide) (nf_cons (by decide) (nf_cons (by decide) (nf_cons (by decide) (nf_cons (by decide) (nf_cons (by decide) (nf_cons (by decide) (nf_cons (by decide) (nf_cons (by decide) (nf_cons (by decide) (nf_cons (by decide) (nf_cons (by decide) (nf_cons (by decide) (fun q hq z => hf q hq z.2))))))))))))))))))))))
  have b44 := b43.nA 20 4 (by decide)
  have k45 : (44, 10) ∈ _ := List.mem_cons_of_mem (67, 20) k43
  have b45 := b44.sR 614 44 (x := h_n h + 22) (v := 67) (by have := b.1.1; omega) (by decide) (nf_cons (by decide) (nf_cons (by decide) (nf_cons (by decide) (nf_cons (by decide) (nf_cons (by decide) (nf_cons (by decide) (nf_cons (by decide) (nf_cons (by decide) (nf_cons (by decide) (nf_cons (by decide) (nf_cons (by decide) (nf_cons (by decide) (nf_cons (by decide) (nf_cons (by decide) (nf_cons (by decide) (nf_cons (by decide) (nf_cons (by decide) (nf_cons (by decide) (nf_cons (by decide) (nf_cons (by decide) (nf_cons (by decide) (nf_cons (by decide) (fun q hq z => hf q hq z.2)))))))))))))))))))))))
  have b46 := b45.nA 20 4 (by decide)
  have k47 : (44, 10) ∈ _ := List.mem_cons_of_mem (68, 20) k45
  have b47 := b46.sR 615 44 (x := h_n h + 23) (v := 68) (by have := b.1.1; omega) (by decide) (nf_cons (by decide) (nf_cons (by decide) (nf_cons (by decide) (nf_cons (by decide) (nf_cons (by decide) (nf_cons (by decide) (nf_cons (by decide) (nf_cons (by decide) (nf_cons (by decide) (nf_cons (by decide) (nf_cons (by decide) (nf_cons (by decide) (nf_cons (by decide) (nf_cons (by decide) (nf_cons (by decide) (nf_cons (by decide) (nf_cons (by decide) (nf_cons (by decide) (nf_cons (by decide) (nf_cons (by decide) (nf_cons (by decide) (nf_cons (by decide) (nf_cons (by decide) (fun q hq z => hf q hq z.2))))))))))))))))))))))))
  have b48 := b47.nA 20 240 (by decide)
  have k49 : (44, 10) ∈ _ := List.mem_cons_of_mem (69, 20) k47
  have b49 := b48.sR 616 44 (x := h_n h + 24) (v := 69) (by have := b.1.1; omega) (by decide) (nf_cons (by decide) (nf_cons (by decide) (nf_cons (by decide) (nf_cons (by decide) (nf_cons (by decide) (nf_cons (by decide) (nf_cons (by decide) (nf_cons (by decide) (nf_cons (by decide) (nf_cons (by decide) (nf_cons (by decide) (nf_cons (by decide) (nf_cons (by decide) (nf_cons (by decide) (nf_cons (by decide) (nf_cons (by decide) (nf_cons (by decide) (nf_cons (by decide) (nf_cons (by decide) (nf_cons (by decide) (nf_cons (by decide) (nf_cons (by decide) (nf_cons (by decide) (nf_cons (by decide) (fun q hq z => hf q hq z.2)))))))))))))))))))))))))
  exact t_X9_init_0 (K207 := fun y hh => y = 0 ∧ bJ hh 70 (s + 200 + 5 + 6 + 30 + 12 + 12 + 12 + 12 + 24012 + 144 + 10 + 10 + 10 + 10 + 10 + 10 + 100 + 10 + 10 + 10 + 20 + 10 + 4 + 4 + 240) ((69, 20) :: (68, 20) :: (67, 20) :: (66, 20) :: (65, 20) :: (64, 20) :: (63, 20) :: (62, 20) :: (61, 22) :: (60, 20) :: (59, 20) :: (58, 20) :: (57, 20) :: (56, 20) :: (55, 20) :: (54, 22) :: (53, 20) :: (52, 20) :: (51, 20) :: (50, 20) :: (49, 22) :: (48, 20) :: (47, 20) :: (46, 20) :: (45, 20) :: kd) ((69, 240) :: (68, 4) :: (67, 4) :: (66, 10) :: (65, 20) :: (64, 10) :: (63, 10) :: (62, 10) :: (61, 100) :: (60, 10) :: (59, 10) :: (58, 10) :: (57, 10) :: (56, 10) :: (55, 10) :: (54, 144) :: (53, 24012) :: (52, 12) :: (51, 12) :: (50, 12) :: (49, 12) :: (48, 30) :: (47, 6) :: (46, 5) :: (45, 200) :: al) ((616, 44, 69) :: (615, 44, 68) :: (614, 44, 67) :: (613, 44, 66) :: (612, 44, 65) :: (611, 44, 64) :: (610, 44, 63) :: (609, 44, 62) :: (608, 44, 61) :: (607, 44, 60) :: (606, 44, 59) :: (605, 44, 58) :: (603, 44, 57) :: (602, 44, 56) :: (601, 44, 55) :: (596, 44, 54) :: (595, 44, 53) :: (594, 44, 52) :: (593, 44, 51) :: (592, 44, 50) :: (591, 44, 49) :: (587, 44, 48) :: (586, 44, 47) :: (584, 44, 46) :: (576, 44, 45) :: or) L xs) (fun y hh z => by obtain ⟨rfl, z⟩ := z; exact k hh z) ⟨b0.k k1, b2.k k3, b4.k k5, b6.k k7, b8.k k9, b10.k k11, b12.k k13, b14.k k15, b16.k k17, b18.k k19, b20.k k21, b22.k k23, b24.k k25, b26.k k27, b28.k k29, b30.k k31, b32.k k33, b34.k k35, b36.k k37, b38.k k39, b40.k k41, b42.k k43, b44.k k45, b46.k k47, b48.k k49, rfl, b49⟩
theorem bJ.sh {h : mm_H} {s L : Nat} {xs : Nat → Int32} (b : bJ h 70 s [(69, 20), (68, 20), (67, 20), (66, 20), (65, 20), (64, 20), (63, 20), (62, 20), (61, 22), (60, 20), (59, 20), (58, 20), (57, 20), (56, 20), (55, 20), (54, 22), (53, 20), (52, 20), (51, 20), (50, 20), (49, 22), (48, 20), (47, 20), (46, 20), (45, 20), (44, 10), (43, 24), (42, 20), (41, 20), (40, 20), (39, 3), (38, 20), (37, 20), (36, 20), (35, 8), (34, 20), (33, 20), (32, 20), (31, 8), (30, 23), (23, 25), (24, 20), (25, 20), (26, 20), (27, 20), (28, 20), (29, 20), (22, 20), (21, 2), (20, 20), (19, 5), (18, 21), (17, 7), (16, 9), (1, 20), (2, 20), (3, 20), (4, 30), (5, 30), (6, 30), (7, 30), (8, 30)] [(69, 240), (68, 4), (67, 4), (66, 10), (65, 20), (64, 10), (63, 10), (62, 10), (61, 100), (60, 10), (59, 10), (58, 10), (57, 10), (56, 10), (55, 10), (54, 144), (53, 24012), (52, 12), (51, 12), (50, 12), (49, 12), (48, 30), (47, 6), (46, 5), (45, 200), (43, 4), (42, 10), (41, 10), (40, 10), (38, 10), (37, 10), (36, 10), (34, 10), (33, 10), (32, 10), (30, 12), (23, 6), (24, 5), (25, 5), (26, 5), (27, 5), (28, 5), (29, 5), (22, 6), (20, 5), (18, 200), (1, 5), (2, 5), (3, 5)] [(616, 44, 69), (615, 44, 68), (614, 44, 67), (613, 44, 66), (612, 44, 65), (611, 44, 64), (610, 44, 63), (609, 44, 62), (608, 44, 61), (607, 44, 60), (606, 44, 59), (605, 44, 58), (603, 44, 57), (602, 44, 56), (601, 44, 55), (596, 44, 54), (595, 44, 53), (594, 44, 52), (593, 44, 51), (592, 44, 50), (591, 44, 49), (587, 44, 48), (586, 44, 47), (584, 44, 46), (576, 44, 45), (519, 16, 43), (518, 16, 39), (130, 39, 42), (129, 39, 41), (128, 39, 40), (517, 16, 35), (450, 35, 38), (449, 35, 37), (448, 35, 36), (516, 16, 31), (450, 31, 34), (449, 31, 33), (448, 31, 32), (515, 16, 30), (514, 16, 21), (65, 21, 23), (64, 21, 22), (513, 16, 19), (256, 19, 20), (512, 16, 17), (384, 17, 18)] L xs) : s_h h := by
  have q1 : ∀ q ∈ sk_kd, q ∈ ([(69, 20), (68, 20), (67, 20), (66, 20), (65, 20), (64, 20), (63, 20), (62, 20), (61, 22), (60, 20), (59, 20), (58, 20), (57, 20), (56, 20), (55, 20), (54, 22), (53, 20), (52, 20), (51, 20), (50, 20), (49, 22), (48, 20), (47, 20), (46, 20), (45, 20), (44, 10), (43, 24), (42, 20), (41, 20), (40, 20), (39, 3), (38, 20), (37, 20), (36, 20), (35, 8), (34, 20), (33, 20), (32, 20), (31, 8), (30, 23), (23, 25), (24, 20), (25, 20), (26, 20), (27, 20), (28, 20), (29, 20), (22, 20), (21, 2), (20, 20), (19, 5), (18, 21), (17, 7), (16, 9), (1, 20), (2, 20), (3, 20), (4, 30), (5, 30), (6, 30), (7, 30), (8, 30)] : List (Nat × Nat)) := by decide +kernel
  have q2 : ∀ q ∈ sk_or, q ∈ ([(616, 44, 69), (615, 44, 68), (614, 44, 67), (613, 44, 66), (612, 44, 65), (611, 44, 64), (610, 44, 63), (609, 44, 62), (608, 44, 61), (607, 44, 60), (606, 44, 59), (605, 44, 58), (603, 44, 57), (602, 44, 56), (601, 44, 55), (596, 44, 54), (595, 44, 53), (594, 44, 52), (593, 44, 51), (592, 44, 50), (591, 44, 49), (587, 44, 48), (586, 44, 47), (584, 44, 46), (576, 44, 45), (519, 16, 43), (518, 16, 39), (130, 39, 42), (129, 39, 41), (128, 39, 40), (517, 16, 35), (450, 35, 38), (449, 35, 37), (448, 35, 36), (516, 16, 31), (450, 31, 34), (449, 31, 33), (448, 31, 32), (515, 16, 30), (514, 16, 21), (65, 21, 23), (64, 21, 22), (513, 16, 19), (256, 19, 20), (512, 16, 17), (384, 17, 18)] : List (Nat × Nat × Nat)) := by decide +kernel
  have q3 : ∀ q ∈ sk_al, q ∈ ([(69, 240), (68, 4), (67, 4), (66, 10), (65, 20), (64, 10), (63, 10), (62, 10), (61, 100), (60, 10), (59, 10), (58, 10), (57, 10), (56, 10), (55, 10), (54, 144), (53, 24012), (52, 12), (51, 12), (50, 12), (49, 12), (48, 30), (47, 6), (46, 5), (45, 200), (43, 4), (42, 10), (41, 10), (40, 10), (38, 10), (37, 10), (36, 10), (34, 10), (33, 10), (32, 10), (30, 12), (23, 6), (24, 5), (25, 5), (26, 5), (27, 5), (28, 5), (29, 5), (22, 6), (20, 5), (18, 200), (1, 5), (2, 5), (3, 5)] : List (Nat × Nat)) := by decide +kernel
  obtain ⟨⟨b1, b1'⟩, b2, b3, b4, b5, b6, b7, b8, b9, b10, b11⟩ := b
  exact ⟨fun q hq => (b3 q (q1 q hq)).1, fun q hq => (b5 q (q2 q hq)).1, fun q hq => (b4 q (q3 q hq)).1, by omega, b9 (by decide), b10⟩
theorem bJ.li {h h' : mm_H} {s L : Nat} {xs : Nat → Int32} (b : bJ h 70 s [(69, 20), (68, 20), (67, 20), (66, 20), (65, 20), (64, 20), (63, 20), (62, 20), (61, 22), (60, 20), (59, 20), (58, 20), (57, 20), (56, 20), (55, 20), (54, 22), (53, 20), (52, 20), (51, 20), (50, 20), (49, 22), (48, 20), (47, 20), (46, 20), (45, 20), (44, 10), (43, 24), (42, 20), (41, 20), (40, 20), (39, 3), (38, 20), (37, 20), (36, 20), (35, 8), (34, 20), (33, 20), (32, 20), (31, 8), (30, 23), (23, 25), (24, 20), (25, 20), (26, 20), (27, 20), (28, 20), (29, 20), (22, 20), (21, 2), (20, 20), (19, 5), (18, 21), (17, 7), (16, 9), (1, 20), (2, 20), (3, 20), (4, 30), (5, 30), (6, 30), (7, 30), (8, 30)] [(69, 240), (68, 4), (67, 4), (66, 10), (65, 20), (64, 10), (63, 10), (62, 10), (61, 100), (60, 10), (59, 10), (58, 10), (57, 10), (56, 10), (55, 10), (54, 144), (53, 24012), (52, 12), (51, 12), (50, 12), (49, 12), (48, 30), (47, 6), (46, 5), (45, 200), (43, 4), (42, 10), (41, 10), (40, 10), (38, 10), (37, 10), (36, 10), (34, 10), (33, 10), (32, 10), (30, 12), (23, 6), (24, 5), (25, 5), (26, 5), (27, 5), (28, 5), (29, 5), (22, 6), (20, 5), (18, 200), (1, 5), (2, 5), (3, 5)] [(616, 44, 69), (615, 44, 68), (614, 44, 67), (613, 44, 66), (612, 44, 65), (611, 44, 64), (610, 44, 63), (609, 44, 62), (608, 44, 61), (607, 44, 60), (606, 44, 59), (605, 44, 58), (603, 44, 57), (602, 44, 56), (601, 44, 55), (596, 44, 54), (595, 44, 53), (594, 44, 52), (593, 44, 51), (592, 44, 50), (591, 44, 49), (587, 44, 48), (586, 44, 47), (584, 44, 46), (576, 44, 45), (519, 16, 43), (518, 16, 39), (130, 39, 42), (129, 39, 41), (128, 39, 40), (517, 16, 35), (450, 35, 38), (449, 35, 37), (448, 35, 36), (516, 16, 31), (450, 31, 34), (449, 31, 33), (448, 31, 32), (515, 16, 30), (514, 16, 21), (65, 21, 23), (64, 21, 22), (513, 16, 19), (256, 19, 20), (512, 16, 17), (384, 17, 18)] L xs) (hs : s ≤ 40000) (f : fx h h' [] [67]) (d : dn h h') (e : ∀ k, k < 4 → h_ai h' 67 k = -4) : LI h' 0 L xs := by
  have sh := b.sh
  obtain ⟨⟨b1, b1'⟩, b2, b3, b4, b5, b6, b7, b8, b9, b10, b11⟩ := b
  have z0 : (0 : Int32) = nI 0 := rfl
  have o0 : ∀ g a, a < 70 → h_oi h' g a = nI 0 := fun g a ha => ((f.oi g a ha List.not_mem_nil).trans (b6 g a)).trans z0
  have a0 : ∀ a, a < 67 → 4 ≤ a → ∀ i, h_ai h' a i = 0 := fun a ha h4 i => by
    rw [f.ai a (by omega) (by simp; omega)]
    exact b7 a h4 i
  have r0 : ∀ a, a < 67 → a ≠ 23 → ∀ i, h_ar h' a i = none := fun a ha h4 i => by
    rw [f.ar a (by omega) (by simp; omega)]
    exact b8 a h4 i
  have nl : ∀ {a : Nat} {p : Prop}, a < 0 → p := fun z => absurd z (Nat.not_lt_zero _)
  refine ⟨fun _ => 0, fun _ => 0, 0, (0, fun _ => 0), (0, fun _ => 0, fun _ _ => none), 0, 0, (0, fun _ => false), (0, fun _ => 0, fun _ => 0, fun _ => 0), (0, fun _ => 0, fun _ => 0, fun _ => 0), (fun _ _ => 0, fun _ => 0, fun _ => 0, fun _ => 0, fun _ => 0), (0, 0, 0), fun _ => none, f.sh sh (by decide), sX.fx b11 f (by decide), ?_, ?_, ?_, ?_⟩
  · have s0 : ∀ n, fb_sm (fun _ : Nat => 0) n = 0 := fun n => sm_0 (fun _ _ => rfl)
    refine ⟨Nat.zero_le _, ⟨Nat.zero_le _, fun i z => nl z⟩, ⟨Nat.zero_le _, fun i z => nl z⟩, fun f _ _ => ⟨fun _ => rfl, rfl⟩, fun f _ _ => ⟨rfl, rfl, rfl, rfl, rfl⟩, fun f _ => Or.inl rfl, ⟨?_, by omega, fun f _ => ⟨Nat.zero_le _, Nat.zero_le _⟩⟩, fun k _ l n c z => by cases z⟩
    show fb_sm (fun f => fb_sm (fun _ => 0) 2001) 12 ≤ _
    rw [sm_0 (fun d _ => s0 2001)]
    exact Nat.zero_le _
  · refine ⟨⟨Nat.zero_le _, o0 _ _ (by decide), fun i z => nl z⟩, ⟨⟨Nat.zero_le _, fun i z => nl z⟩, o0 _ _ (by decide), fun i z => nl z⟩, ⟨Nat.zero_le _, o0 _ _ (by decide)⟩, o0 _ _ (by decide), ⟨Nat.zero_le _, o0 _ _ (by decide), fun f _ => ⟨fun _ z => nl z.1, fun q z => by rw [r0 30 (by decide) (by decide)] at z; cases z⟩⟩, ⟨o0 _ _ (by decide), fun i z => nl z⟩, ⟨o0 _ _ (by decide), fun i z => nl z⟩, fun f z => nl z, ⟨o0 _ _ (by decide), o0 _ _ (by decide), o0 _ _ (by decide)⟩, fun k _ => ⟨fun _ => r0 43 (by decide) (by decide) k, fun l n c z => by cases z⟩⟩
  · refine ⟨⟨Nat.zero_le _, o0 _ _ (by decide), fun i z => nl z⟩, ⟨⟨Nat.zero_le _, fun i z => nl z⟩, o0 _ _ (by decide), fun i z => nl z⟩, o0 _ _ (by decide), ⟨Nat.zero_le _, o0 _ _ (by decide), fun f z => nl z⟩, ⟨o0 _ _ (by decide), fun i z => nl z⟩, ⟨o0 _ _ (by decide), fun i z => nl z⟩, ⟨⟨Nat.le_refl _, Nat.zero_le _⟩, o0 _ _ (by decide), o0 _ _ (by decide), fun f _ d _ => a0 53 (by decide) (by decide) _, fun f _ d _ => rfl⟩, fun f _ => a0 50 (by decide) (by decide) _, ⟨fun f _ => a0 51 (by decide) (by decide) _, fun f _ => a0 52 (by decide) (by decide) _, fun f _ g hg => ?_⟩, ⟨o0 _ _ (by decide), o0 _ _ (by decide), o0 _ _ (by decide)⟩, fun k hk => ⟨fun _ => e k hk, fun l n c z => by cases z⟩, fun f _ _ => a0 49 (by decide) (by decide) _⟩
    rw [a0 54 (by decide) (by decide)]
    have e0 : bt 0 g = false := by
      have : ∀ g, g < 12 → bt 0 g = false := by decide
      exact this g hg
    show (0 : Int32) = if bt 0 g = true then 1 else 0
    rw [e0]
    rfl
  · have := d.1
    have := d.2.1
    exact ⟨by omega, by omega⟩
theorem i_loop {h : mm_H} {Q : Option Value → mm_H → Prop} (sh : s_h h) (k : ∀ h', fx h h' [] [67] → dn h h' → (∀ k, k < 4 → h_ai h' 67 k = -4) → Q none h') : w_p 3 (9, 2, mc_X9_init) 207 [(0, .ref 44), (1, .int 0)] [] h Q := by
  have loop : ∀ w i, i + w = 4 → ∀ h1, fx h h1 [] [67] → dn h h1 → (∀ j, j < i → h_ai h1 67 j = -4) → w_p 3 (9, 2, mc_X9_init) 207 [(0, .ref 44), (1, .int (nI i))] [] h1 Q := by
    intro w
    induction w with
    | zero =>
      intro i hi h1 f d t
      have e : i = 4 := by omega
      subst e
      exact t_X9_init_207 (f.sh sh (by decide)) _ (K207 := fun _ _ => False) (fun _ _ z => z.elim) ⟨fun _ => k h1 f d t, fun z => absurd (show (4 : Int32) ≤ nI 4 from (i_le (a := 4) (b := 4) (by decide) (by decide)).mpr (Nat.le_refl _)) z⟩
    | succ w ih =>
      intro i hi h1 f d t
      refine t_X9_init_207 (f.sh sh (by decide)) _ (K207 := fun y hh => y = nI (i + 1) ∧ hh = h_sA h1 67 i (-4)) (fun y hh z => ?_) ⟨fun z => ?_, fun _ => ⟨vp_in_nI (by omega) (by decide), nI_1 i, ?_⟩⟩
      · obtain ⟨rfl, rfl⟩ := z
        refine ih (i + 1) (by omega) _ (f.sA _ _ (Or.inl (by decide))) (d.sA _ _ (by decide)) (fun j hj => ?_)
        rw [ai_self]
        by_cases z : j = i
        · rw [z, va_up_self]
        · rw [va_up_ne _ _ z]; exact t j (by omega)
      · have := (i_le (a := 4) (by decide) (by omega)).mp z
        omega
      · rw [i_cl (a := i) (by omega)]
  exact loop 4 0 rfl h (fx.rf _ _ _) (dn.rf _) (fun j hj => absurd hj (Nat.not_lt_zero _))
