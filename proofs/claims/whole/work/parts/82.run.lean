/-! THE LAW'S RUN, from its entry -/
theorem b_st (L : Nat) (xs : Nat → Int32) : bJ (h_nO (h_0 L xs) 8 14) 17 14 [(16, 9), (1, 20), (2, 20), (3, 20), (4, 30), (5, 30), (6, 30), (7, 30), (8, 30)] [(1, 5), (2, 5), (3, 5)] [] L xs := by
  have b : bJ (h_0 L xs) 16 0 [(1, 20), (2, 20), (3, 20), (4, 30), (5, 30), (6, 30), (7, 30), (8, 30)] [(1, 5), (2, 5), (3, 5)] [] L xs := by
    refine ⟨⟨rfl, by decide⟩, rfl, fun q hq => ?_, fun q hq => ?_, fun q hq => absurd hq List.not_mem_nil, fun _ _ => rfl, fun a ha i => ?_, fun _ _ _ => rfl, fun z => absurd z (by decide), ⟨rfl, rfl, rfl⟩, rfl, rfl, rfl⟩
    · simp only [List.mem_cons, List.not_mem_nil, or_false] at hq
      rcases hq with rfl | rfl | rfl | rfl | rfl | rfl | rfl | rfl <;> exact ⟨rfl, by decide⟩
    · simp only [List.mem_cons, List.not_mem_nil, or_false] at hq
      rcases hq with rfl | rfl | rfl <;> exact ⟨rfl, by decide⟩
    · show (if a = 0 then xs else if a = 1 then _ else if a = 2 then _ else if a = 3 then _ else (fun _ => 0)) i = 0
      rw [if_neg (by omega), if_neg (by omega), if_neg (by omega), if_neg (by omega)]
  exact b.nO 8 14 (by decide)
theorem law_run {L : Nat} (hL : L ≤ 2560) (xs : Nat → Int32) : w_p 1000 (99, 4, mc_L_law) 0 [(0, .ref 0)] [] (h_0 L xs) (fun r h => r = some (.int 1) ∧ h_n h ≤ 600016 ∧ h_s h ≤ 7302250) := by
  refine w_new rfl ?_
  show w_p _ _ 3 [(0, .ref 0)] [.ref 16] (h_nO (h_0 L xs) 8 14) _
  refine w_b 1 4 [(0, .ref 0)] [.ref 16, .ref 16] rfl ?_
  refine w_cn (As := []) (b := 16) (rest := [.ref 16]) rfl rfl rfl (Nat.le_of_ble_eq_true rfl) (dc := 3) (by omega) (i_X8 (b_st L xs) (fun h1 b1 => ?_))
  show w_p _ _ 7 [(0, .ref 0)] [.ref 16] h1 _
  refine w_b 1 8 [(1, .ref 16), (0, .ref 0)] [] rfl ?_
  refine w_new rfl ?_
  rw [b1.1.1]
  show w_p _ _ 11 [(1, .ref 16), (0, .ref 0)] [.ref 44] (h_nO h1 9 41) _
  refine w_b 1 12 [(1, .ref 16), (0, .ref 0)] [.ref 44, .ref 44] rfl ?_
  refine w_cn (As := []) (b := 44) (rest := [.ref 44]) rfl rfl rfl (Nat.le_of_ble_eq_true rfl) (dc := 3) (by omega) (i_X9 (b1.nO 9 41 (by decide)) (by decide) (by decide) (fun h2 b2 => i_loop b2.sh (fun h3 f3 d3 e3 => ?_)))
  show w_p _ _ 15 [(1, .ref 16), (0, .ref 0)] [.ref 44] h3 _
  have I := b2.li (by decide) f3 d3 e3
  refine w_b 3 18 [(3, .int 0), (2, .ref 44), (1, .ref 16), (0, .ref 0)] [] rfl ?_
  refine w_lo [0, 1, 2, 3] [(0, .ref 0), (1, .ref 16), (2, .ref 44), (3, .int 0)] rfl rfl ?_
  exact law_loop hL 513 0 h3 rfl I (by omega)
