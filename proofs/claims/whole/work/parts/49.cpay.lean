set_option maxRecDepth 20000 in
theorem t_X0_doesBar_0 {h : mm_H} {Q : Option Value → mm_H → Prop} (sh : s_h h) (q : Nat) (g : Int32) {p : Nat} (kq : h_kd h q = 1) (kp : h_kd h p = 4) (rp : h_or h 0 q = some p) (hq : 16 ≤ q) (hp : 16 ≤ p)
    (F : (((((h_oi h 2 q) >>> (g &&& 31)) &&& (1 : Int32)) = 0 → Q (some (.int 0)) h) ∧ (¬ ((((h_oi h 2 q) >>> (g &&& 31)) &&& (1 : Int32)) = 0) → Q (some (.int 1)) h))) :
    w_c 0 1 [.ref q, .int g] h Q := by
  refine w_ci (M := (0, 2, mc_X0_doesBar)) rfl (Nat.le_of_ble_eq_true rfl) ?_
  show w_p _ _ 0 [(0, .ref q), (1, .int g)] [] h Q
  refine w_b 1 1 [(0, .ref q), (1, .int g)] [.ref q] rfl ?_
  refine w_get (g := 2) rfl rfl rfl kq ?_
  refine w_b 4 8 [(0, .ref q), (1, .int g)] [.int (((h_oi h 2 q) >>> (g &&& 31)) &&& (1 : Int32))] rfl ?_
  refine w_if_eq (tgt := 15) (x := ((h_oi h 2 q) >>> (g &&& 31)) &&& (1 : Int32)) rfl (by decide) ⟨fun c1 => ?_, fun c1 => ?_⟩
  · have F := F.1 c1
    refine w_b 1 16 [(0, .ref q), (1, .int g)] [.int 0] rfl ?_
    exact w_br rfl (by decide) F
  · have F := F.2 c1
    refine w_b 2 16 [(0, .ref q), (1, .int g)] [.int 1] rfl ?_
    exact w_br rfl (by decide) F

set_option maxRecDepth 20000 in
theorem t_X0_setBar_0 {h : mm_H} {Q : Option Value → mm_H → Prop} (sh : s_h h) (q : Nat) (g : Int32) (on : Int32) {p : Nat} (kq : h_kd h q = 1) (kp : h_kd h p = 4) (rp : h_or h 0 q = some p) (hq : 16 ≤ q) (hp : 16 ≤ p)
    (F : ((on = 0 → Q none (h_sI h 2 q ((h_oi h 2 q) &&& (((1 : Int32) <<< (g &&& 31)) ^^^ (-1 : Int32))))) ∧ (¬ (on = 0) → Q none (h_sI h 2 q ((h_oi h 2 q) ||| ((1 : Int32) <<< (g &&& 31))))))) :
    w_c 0 2 [.ref q, .int g, .int on] h Q := by
  refine w_ci (M := (0, 3, mc_X0_setBar)) rfl (Nat.le_of_ble_eq_true rfl) ?_
  show w_p _ _ 0 [(0, .ref q), (1, .int g), (2, .int on)] [] h Q
  refine w_b 2 2 [(0, .ref q), (1, .int g), (2, .int on)] [.int on, .ref q] rfl ?_
  refine w_if_eq (tgt := 16) (x := on) rfl (by decide) ⟨fun c1 => ?_, fun c1 => ?_⟩
  · have F := F.1 c1
    refine w_b 1 17 [(0, .ref q), (1, .int g), (2, .int on)] [.ref q, .ref q] rfl ?_
    refine w_get (g := 2) rfl rfl rfl kq ?_
    refine w_b 6 26 [(0, .ref q), (1, .int g), (2, .int on)] [.int ((h_oi h 2 q) &&& (((1 : Int32) <<< (g &&& 31)) ^^^ (-1 : Int32))), .ref q] rfl ?_
    refine w_put (g := 2) (x := (h_oi h 2 q) &&& (((1 : Int32) <<< (g &&& 31)) ^^^ (-1 : Int32))) rfl rfl rfl kq hq ?_
    exact w_vr rfl F
  · have F := F.2 c1
    refine w_b 1 6 [(0, .ref q), (1, .int g), (2, .int on)] [.ref q, .ref q] rfl ?_
    refine w_get (g := 2) rfl rfl rfl kq ?_
    refine w_b 5 26 [(0, .ref q), (1, .int g), (2, .int on)] [.int ((h_oi h 2 q) ||| ((1 : Int32) <<< (g &&& 31))), .ref q] rfl ?_
    refine w_put (g := 2) (x := (h_oi h 2 q) ||| ((1 : Int32) <<< (g &&& 31))) rfl rfl rfl kq hq ?_
    exact w_vr rfl F

set_option maxRecDepth 20000 in
theorem t_X0_wouldOwe_0 {h : mm_H} {Q : Option Value → mm_H → Prop} (sh : s_h h) (q : Nat) (am : Int32) {p : Nat} (kq : h_kd h q = 1) (kp : h_kd h p = 4) (rp : h_or h 0 q = some p) (hq : 16 ≤ q) (hp : 16 ≤ p)
    (F : Q (some (.int ((h_oi h 1 q) + (if 0 < (am - (h_oi h 195 p)) then (am - (h_oi h 195 p)) else 0)))) h) :
    w_c 1 3 [.ref q, .int am] h Q := by
  refine w_ci (M := (0, 2, mc_X0_wouldOwe)) rfl (Nat.le_of_ble_eq_true rfl) ?_
  show w_p _ _ 0 [(0, .ref q), (1, .int am)] [] h Q
  refine w_b 1 1 [(0, .ref q), (1, .int am)] [.ref q] rfl ?_
  refine w_get (g := 1) rfl rfl rfl kq ?_
  refine w_b 3 7 [(0, .ref q), (1, .int am)] [.ref q, .int am, .int 0, .int (h_oi h 1 q)] rfl ?_
  refine w_getS (b := p) rfl rfl rfl kq (rp) ?_
  refine w_get (g := 195) rfl rfl rfl kp ?_
  refine w_b 1 14 [(0, .ref q), (1, .int am)] [.int (am - (h_oi h 195 p)), .int 0, .int (h_oi h 1 q)] rfl ?_
  refine w_max (x := 0) (y := am - (h_oi h 195 p)) rfl (Nat.le_of_ble_eq_true rfl) ?_
  refine w_b 1 18 [(0, .ref q), (1, .int am)] [.int ((h_oi h 1 q) + (if 0 < (am - (h_oi h 195 p)) then (am - (h_oi h 195 p)) else 0))] rfl ?_
  exact w_ir rfl F

set_option maxRecDepth 20000 in
theorem t_X0_settle_0 {h : mm_H} {Q : Option Value → mm_H → Prop} (sh : s_h h) (q : Nat) {p : Nat} (kq : h_kd h q = 1) (kp : h_kd h p = 4) (rp : h_or h 0 q = some p) (hq : 16 ≤ q) (hp : 16 ≤ p)
    (F : w_c 1 30 [.ref p, .int (if (h_oi h 195 p) < (h_oi h 1 q) then (h_oi h 195 p) else (h_oi h 1 q))] h (fun r h1 => r = none ∧ s_h h1 ∧ (h_kd h1 q = 1 ∧ (h_kd h1 q = 1 ∧ Q (some (.int (if (h_oi h 195 p) < (h_oi h 1 q) then (h_oi h 195 p) else (h_oi h 1 q)))) (h_sI h1 1 q ((h_oi h1 1 q) - (if (h_oi h 195 p) < (h_oi h 1 q) then (h_oi h 195 p) else (h_oi h 1 q)))))))) :
    w_c 2 4 [.ref q] h Q := by
  refine w_ci (M := (0, 2, mc_X0_settle)) rfl (Nat.le_of_ble_eq_true rfl) ?_
  show w_p _ _ 0 [(0, .ref q)] [] h Q
  refine w_b 1 1 [(0, .ref q)] [.ref q] rfl ?_
  refine w_get (g := 1) rfl rfl rfl kq ?_
  refine w_b 1 5 [(0, .ref q)] [.ref q, .int (h_oi h 1 q)] rfl ?_
  refine w_getS (b := p) rfl rfl rfl kq (rp) ?_
  refine w_get (g := 195) rfl rfl rfl kp ?_
  refine w_min (x := h_oi h 1 q) (y := h_oi h 195 p) rfl (Nat.le_of_ble_eq_true rfl) ?_
  refine w_b 2 16 [(1, .int (if (h_oi h 195 p) < (h_oi h 1 q) then (h_oi h 195 p) else (h_oi h 1 q))), (0, .ref q)] [.ref q] rfl ?_
  refine w_getS (b := p) rfl rfl rfl kq (rp) ?_
  refine w_b 1 20 [(1, .int (if (h_oi h 195 p) < (h_oi h 1 q) then (h_oi h 195 p) else (h_oi h 1 q))), (0, .ref q)] [.int (if (h_oi h 195 p) < (h_oi h 1 q) then (h_oi h 195 p) else (h_oi h 1 q)), .ref p] rfl ?_
  refine w_cv (As := [.int (if (h_oi h 195 p) < (h_oi h 1 q) then (h_oi h 195 p) else (h_oi h 1 q))]) (b := p) (rest := []) rfl rfl rfl (Nat.le_of_ble_eq_true rfl) kp (fun z => absurd z (by decide)) (dc := 1) (by omega) (F.mono (fun r h1 F => ?_))
  obtain ⟨rfl, sh1, F⟩ := F
  show w_p _ _ 23 [(1, .int (if (h_oi h 195 p) < (h_oi h 1 q) then (h_oi h 195 p) else (h_oi h 1 q))), (0, .ref q)] [] h1 _
  refine w_b 2 25 [(1, .int (if (h_oi h 195 p) < (h_oi h 1 q) then (h_oi h 195 p) else (h_oi h 1 q))), (0, .ref q)] [.ref q, .ref q] rfl ?_
  obtain ⟨g2, F⟩ := F
  refine w_get (g := 1) rfl rfl rfl g2 ?_
  refine w_b 2 30 [(1, .int (if (h_oi h 195 p) < (h_oi h 1 q) then (h_oi h 195 p) else (h_oi h 1 q))), (0, .ref q)] [.int ((h_oi h1 1 q) - (if (h_oi h 195 p) < (h_oi h 1 q) then (h_oi h 195 p) else (h_oi h 1 q))), .ref q] rfl ?_
  obtain ⟨g3, F⟩ := F
  refine w_put (g := 1) (x := (h_oi h1 1 q) - (if (h_oi h 195 p) < (h_oi h 1 q) then (h_oi h 195 p) else (h_oi h 1 q))) rfl rfl rfl g3 hq ?_
  refine w_b 1 34 [(1, .int (if (h_oi h 195 p) < (h_oi h 1 q) then (h_oi h 195 p) else (h_oi h 1 q))), (0, .ref q)] [.int (if (h_oi h 195 p) < (h_oi h 1 q) then (h_oi h 195 p) else (h_oi h 1 q))] rfl ?_
  exact w_ir rfl F

set_option maxRecDepth 20000 in
theorem t_X8_pay_0 {h : mm_H} {Q : Option Value → mm_H → Prop} (sh : s_h h) (q : Nat) (q2 : Nat) (am : Int32) 
    (F : (h_kd h q = 1 ∧ (h_kd h q2 = 1 ∧ (∃ b3 : Nat, (h_or h 0 q) = some b3 ∧ (h_kd h b3 = 4 ∧ w_c 23 29 [.ref b3, .int am, va_rf (h_or h 0 q2)] h (fun r h6 => ∃ z7 : Int32, r = some (.int z7) ∧ s_h h6 ∧ (h_kd h6 q = 1 ∧ (h_kd h6 q = 1 ∧ (16 ≤ q ∧ (h_kd (h_sI h6 1 q ((h_oi h6 1 q) + (am - z7))) q2 = 1 ∧ (∃ b12 : Nat, (h_or (h_sI h6 1 q ((h_oi h6 1 q) + (am - z7))) 0 q2) = some b12 ∧ (h_kd (h_sI h6 1 q ((h_oi h6 1 q) + (am - z7))) b12 = 4 ∧ w_c 22 27 [.ref b12, .int (h_oi h6 521 16), .int (am - z7)] (h_sI h6 1 q ((h_oi h6 1 q) + (am - z7))) (fun r h15 => r = none ∧ s_h h15 ∧ (h_kd (h_sI h15 523 16 ((h_oi h15 523 16) + (am - z7))) q2 = 1 ∧ w_c 2 4 [.ref q2] (h_sI h15 523 16 ((h_oi h15 523 16) + (am - z7))) (fun r h17 => ∃ z18 : Int32, r = some (.int z18) ∧ s_h h17 ∧ Q none (h_sI h17 525 16 ((h_oi h15 525 16) + z18))))))))))))))))) :
    w_c 24 98 [.ref 16, .ref q, .ref q2, .int am] h Q := by
  refine w_ci (M := (8, 5, mc_X8_pay)) rfl (Nat.le_of_ble_eq_true rfl) ?_
  show w_p _ _ 0 [(0, .ref 16), (1, .ref q), (2, .ref q2), (3, .int am)] [] h Q
  refine w_b 1 1 [(0, .ref 16), (1, .ref q), (2, .ref q2), (3, .int am)] [.ref q] rfl ?_
  refine w_ifnull (tgt := 8) (r := some q) rfl (by decide) ⟨fun z => (by cases z), fun _ _ => ?_⟩
  refine w_b 1 5 [(0, .ref 16), (1, .ref q), (2, .ref q2), (3, .int am)] [.ref q2] rfl ?_
  refine w_ifnonnull (tgt := 9) (r := some q2) rfl (by decide) ⟨fun z => (by cases z), fun _ _ => ?_⟩
  refine w_b 2 11 [(0, .ref 16), (1, .ref q), (2, .ref q2), (3, .int am)] [.ref q, .int am] rfl ?_
  obtain ⟨g1, F⟩ := F
  refine w_getR (g := 0) rfl rfl rfl g1 ?_
  refine w_b 2 16 [(0, .ref 16), (1, .ref q), (2, .ref q2), (3, .int am)] [.ref q2, .int am, va_rf (h_or h 0 q), .int am] rfl ?_
  obtain ⟨g2, F⟩ := F
  refine w_getR (g := 0) rfl rfl rfl g2 ?_
  obtain ⟨b3, e4, F⟩ := F
  rw [e4]
  show w_p _ _ 19 [(0, .ref 16), (1, .ref q), (2, .ref q2), (3, .int am)] [va_rf (h_or h 0 q2), .int am, .ref b3, .int am] h _
  obtain ⟨g5, F⟩ := F
  refine w_cv (As := [.int am, va_rf (h_or h 0 q2)]) (b := b3) (rest := [.int am]) rfl rfl rfl (Nat.le_of_ble_eq_true rfl) g5 (fun z => absurd z (by decide)) (dc := 23) (by omega) (F.mono (fun r h6 F => ?_))
  obtain ⟨z7, rfl, sh6, F⟩ := F
  show w_p _ _ 22 [(0, .ref 16), (1, .ref q), (2, .ref q2), (3, .int am)] [.int z7, .int am] h6 _
  refine w_b 4 27 [(4, .int (am - z7)), (0, .ref 16), (1, .ref q), (2, .ref q2), (3, .int am)] [.ref q, .ref q] rfl ?_
  obtain ⟨g8, F⟩ := F
  refine w_get (g := 1) rfl rfl rfl g8 ?_
  refine w_b 2 33 [(4, .int (am - z7)), (0, .ref 16), (1, .ref q), (2, .ref q2), (3, .int am)] [.int ((h_oi h6 1 q) + (am - z7)), .ref q] rfl ?_
  obtain ⟨g9, F⟩ := F
  obtain ⟨g10, F⟩ := F
  refine w_put (g := 1) (x := (h_oi h6 1 q) + (am - z7)) rfl rfl rfl g9 g10 ?_
  refine w_b 1 37 [(4, .int (am - z7)), (0, .ref 16), (1, .ref q), (2, .ref q2), (3, .int am)] [.ref q2] rfl ?_
  obtain ⟨g11, F⟩ := F
  refine w_getR (g := 0) rfl rfl rfl g11 ?_
  refine w_b 1 41 [(4, .int (am - z7)), (0, .ref 16), (1, .ref q), (2, .ref q2), (3, .int am)] [.ref 16, va_rf (h_or (h_sI h6 1 q ((h_oi h6 1 q) + (am - z7))) 0 q2)] rfl ?_
  refine w_get (g := 521) rfl rfl rfl (kd_16 sh6) ?_
  refine w_b 1 46 [(4, .int (am - z7)), (0, .ref 16), (1, .ref q), (2, .ref q2), (3, .int am)] [.int (am - z7), .int (h_oi h6 521 16), va_rf (h_or (h_sI h6 1 q ((h_oi h6 1 q) + (am - z7))) 0 q2)] rfl ?_
  obtain ⟨b12, e13, F⟩ := F
  rw [e13]
  show w_p _ _ 46 [(4, .int (am - z7)), (0, .ref 16), (1, .ref q), (2, .ref q2), (3, .int am)] [.int (am - z7), .int (h_oi h6 521 16), .ref b12] (h_sI h6 1 q ((h_oi h6 1 q) + (am - z7))) _
  obtain ⟨g14, F⟩ := F
  refine w_cv (As := [.int (h_oi h6 521 16), .int (am - z7)]) (b := b12) (rest := []) rfl rfl rfl (Nat.le_of_ble_eq_true rfl) g14 (fun z => absurd z (by decide)) (dc := 22) (by omega) (F.mono (fun r h15 F => ?_))
  obtain ⟨rfl, sh15, F⟩ := F
  show w_p _ _ 49 [(4, .int (am - z7)), (0, .ref 16), (1, .ref q), (2, .ref q2), (3, .int am)] [] h15 _
  refine w_b 2 51 [(4, .int (am - z7)), (0, .ref 16), (1, .ref q), (2, .ref q2), (3, .int am)] [.ref 16, .ref 16] rfl ?_
  refine w_get (g := 523) rfl rfl rfl (kd_16 sh15) ?_
  refine w_b 2 57 [(4, .int (am - z7)), (0, .ref 16), (1, .ref q), (2, .ref q2), (3, .int am)] [.int ((h_oi h15 523 16) + (am - z7)), .ref 16] rfl ?_
  refine w_put (g := 523) (x := (h_oi h15 523 16) + (am - z7)) rfl rfl rfl (kd_16 sh15) (by decide) ?_
  refine w_b 2 62 [(4, .int (am - z7)), (0, .ref 16), (1, .ref q), (2, .ref q2), (3, .int am)] [.ref 16, .ref 16] rfl ?_
  refine w_get (g := 525) rfl rfl rfl (kd_16 sh15) ?_
  refine w_b 1 66 [(4, .int (am - z7)), (0, .ref 16), (1, .ref q), (2, .ref q2), (3, .int am)] [.ref q2, .int (h_oi h15 525 16), .ref 16] rfl ?_
  obtain ⟨g16, F⟩ := F
  refine w_cv (As := []) (b := q2) (rest := [.int (h_oi h15 525 16), .ref 16]) rfl rfl rfl (Nat.le_of_ble_eq_true rfl) g16 (fun z => absurd z (by decide)) (dc := 2) (by omega) (F.mono (fun r h17 F => ?_))
  obtain ⟨z18, rfl, sh17, F⟩ := F
  show w_p _ _ 69 [(4, .int (am - z7)), (0, .ref 16), (1, .ref q), (2, .ref q2), (3, .int am)] [.int z18, .int (h_oi h15 525 16), .ref 16] h17 _
  refine w_b 1 70 [(4, .int (am - z7)), (0, .ref 16), (1, .ref q), (2, .ref q2), (3, .int am)] [.int ((h_oi h15 525 16) + z18), .ref 16] rfl ?_
  refine w_put (g := 525) (x := (h_oi h15 525 16) + z18) rfl rfl rfl (kd_16 sh17) (by decide) ?_
  exact w_vr rfl F

/-! A FAMILY of the class: its object q, its purse p with arrays d, n of room c -/
def cF1 (h : mm_H) (q p d n c : Nat) (nt : Nat → Nat) (ow : Nat) (br st sf : Int32) : Prop := (h_kd h q = 1 ∧ 70 ≤ q ∧ q < h_n h) ∧ h_or h 0 q = some p ∧ (h_oi h 1 q = nI ow ∧ h_oi h 2 q = br ∧ h_oi h 3 q = st ∧ h_oi h 4 q = sf) ∧ pS h p d n c nt
def p4 (q p d n : Nat) : Nat → Prop := fun a => a = q ∨ p3 p d n a
section CF
variable {h h' : mm_H} {q p d n c : Nat} {nt : Nat → Nat} {ow : Nat} {br st sf : Int32} {P : Nat → Prop}
theorem cF1.frm (H : cF1 h q p d n c nt ow br st sf) (f : ex h h' P) (n0 : ¬ P q) (n1 : ¬ P p) (n2 : ¬ P d) (n3 : ¬ P n) : cF1 h' q p d n c nt ow br st sf := by
  obtain ⟨⟨h1, h2, h3⟩, h4, ⟨h5, h6, h7, h8⟩, h9⟩ := H
  have g := f.2 q h3
  have g2 := g.2 n0
  exact ⟨⟨g.1.1.trans h1, h2, Nat.lt_of_lt_of_le h3 f.1⟩, (g2.2.2 0).1.trans h4, ⟨(g2.2.2 1).2.trans h5, (g2.2.2 2).2.trans h6, (g2.2.2 3).2.trans h7, (g2.2.2 4).2.trans h8⟩, h9.ex f n1 n2 n3⟩
theorem cF1.p4_70 (H : cF1 h q p d n c nt ow br st sf) : ∀ a, p4 q p d n a → 70 ≤ a := by
  rintro a (z | z)
  · rw [z]; exact H.1.2.1
  · exact p3_70 H.2.2.2.k a z
theorem cF1.ne (H : cF1 h q p d n c nt ow br st sf) : q ≠ p ∧ q ≠ d ∧ q ≠ n := by
  have k := H.2.2.2.k.1
  have k1 := H.1.1
  refine ⟨fun z => ?_, fun z => ?_, fun z => ?_⟩
  · rw [z, k.1] at k1; cases k1
  · rw [z, k.2.1] at k1; cases k1
  · rw [z, k.2.2] at k1; cases k1
/-- the family's own int fields -/
theorem cF1.sI (H : cF1 h q p d n c nt ow br st sf) {g : Nat} {x : Int32} : ex h (h_sI h g q x) (fun a => a = q) ∧ pS (h_sI h g q x) p d n c nt := by
  have f : ex h (h_sI h g q x) (fun a => a = q) := (ex.rf _ _).sI _ (Or.inl rfl)
  obtain ⟨e1, e2, e3⟩ := H.ne
  exact ⟨f, H.2.2.2.ex f (fun z => e1 (Eq.symm z)) (fun z => e2 (Eq.symm z)) (fun z => e3 (Eq.symm z))⟩
theorem cF1.ow' (H : cF1 h q p d n c nt ow br st sf) (x : Nat) : cF1 (h_sI h 1 q (nI x)) q p d n c nt x br st sf := by
  obtain ⟨⟨h1, h2, h3⟩, h4, ⟨h5, h6, h7, h8⟩, h9⟩ := id H
  exact ⟨⟨h1, h2, h3⟩, h4, ⟨oi_self _ _ _ _, (oi_neG (by decide) _).trans h6, (oi_neG (by decide) _).trans h7, (oi_neG (by decide) _).trans h8⟩, H.sI.2⟩
theorem cF1.br' (H : cF1 h q p d n c nt ow br st sf) (x : Int32) : cF1 (h_sI h 2 q x) q p d n c nt ow x st sf := by
  obtain ⟨⟨h1, h2, h3⟩, h4, ⟨h5, h6, h7, h8⟩, h9⟩ := id H
  exact ⟨⟨h1, h2, h3⟩, h4, ⟨(oi_neG (by decide) _).trans h5, oi_self _ _ _ _, (oi_neG (by decide) _).trans h7, (oi_neG (by decide) _).trans h8⟩, H.sI.2⟩
theorem cF1.st' (H : cF1 h q p d n c nt ow br st sf) (x : Int32) : cF1 (h_sI h 3 q x) q p d n c nt ow br x sf := by
  obtain ⟨⟨h1, h2, h3⟩, h4, ⟨h5, h6, h7, h8⟩, h9⟩ := id H
  exact ⟨⟨h1, h2, h3⟩, h4, ⟨(oi_neG (by decide) _).trans h5, (oi_neG (by decide) _).trans h6, oi_self _ _ _ _, (oi_neG (by decide) _).trans h8⟩, H.sI.2⟩
theorem cF1.sf' (H : cF1 h q p d n c nt ow br st sf) (x : Int32) : cF1 (h_sI h 4 q x) q p d n c nt ow br st x := by
  obtain ⟨⟨h1, h2, h3⟩, h4, ⟨h5, h6, h7, h8⟩, h9⟩ := id H
  exact ⟨⟨h1, h2, h3⟩, h4, ⟨(oi_neG (by decide) _).trans h5, (oi_neG (by decide) _).trans h6, (oi_neG (by decide) _).trans h7, oi_self _ _ _ _⟩, H.sI.2⟩
theorem cF1.tot (H : cF1 h q p d n c nt ow br st sf) : h_oi h 195 p = nI (fb_sm nt 2001) := by
  obtain ⟨m, hd, hn, A, L, T, B⟩ := H.2.2.2
  exact T
theorem cF1.nz (H : cF1 h q p d n c nt ow br st sf) : ∀ x, 2000 < x → nt x = 0 := by
  obtain ⟨m, hd, hn, A, L, T, B⟩ := H.2.2.2
  intro x hx
  rcases Nat.eq_zero_or_pos (nt x) with z | z
  · exact z
  · obtain ⟨i, hi, e⟩ := L.2.2 x z
    have := (L.2.1 i hi).1
    omega
end CF
theorem c_wouldOwe {h : mm_H} {Q : Option Value → mm_H → Prop} (sh : s_h h) {q p d n c : Nat} {nt : Nat → Nat} {ow : Nat} {br st sf : Int32} (F : cF1 h q p d n c nt ow br st sf) (am : Int32) (k : Q (some (.int (a_owe ow (fb_sm nt 2001) am))) h) : w_c 1 3 [.ref q, .int am] h Q := by
  have hT := F.tot
  obtain ⟨⟨h1, h2, h3⟩, h4, ⟨h5, h6, h7, h8⟩, h9⟩ := id F
  have K := h9.k
  refine t_X0_wouldOwe_0 sh q am h1 K.1.1 h4 (by omega) (by have := K.2.2.2.1.1; omega) ?_
  rw [h5, hT]
  exact k
theorem c_doesBar {h : mm_H} {Q : Option Value → mm_H → Prop} (sh : s_h h) {q p d n c : Nat} {nt : Nat → Nat} {ow : Nat} {br st sf : Int32} (F : cF1 h q p d n c nt ow br st sf) {g : Nat} (hg : g < 32) (k0 : bt br g = false → Q (some (.int 0)) h) (k1 : bt br g = true → Q (some (.int 1)) h) : w_c 0 1 [.ref q, .int (nI g)] h Q := by
  obtain ⟨⟨h1, h2, h3⟩, h4, ⟨h5, h6, h7, h8⟩, h9⟩ := id F
  have K := h9.k
  refine t_X0_doesBar_0 sh q _ h1 K.1.1 h4 (by omega) (by have := K.2.2.2.1.1; omega) ?_
  rw [h6, bit_sh _ hg]
  exact ⟨k0, fun z => k1 (by cases e : bt br g with | true => rfl | false => exact absurd e z)⟩
theorem c_settle {h : mm_H} {Q : Option Value → mm_H → Prop} (sh : s_h h) {q p d n c : Nat} {nt : Nat → Nat} {ow : Nat} {br st sf : Int32} (F : cF1 h q p d n c nt ow br st sf) (ho : ow ≤ 1000000000) (k : ∀ h', ex h h' (p4 q p d n) → rm h h' → cF1 h' q p d n c (fun x => nt x - drd nt (min ow (fb_sm nt 2001)) x) (ow - min ow (fb_sm nt 2001)) br st sf → Q (some (.int (nI (min ow (fb_sm nt 2001))))) h') : w_c 2 4 [.ref q] h Q := by
  have hT := F.tot
  have hB : fb_sm nt 2001 ≤ 100000000 := by
    obtain ⟨m, hd, hn, A, L, T, B⟩ := F.2.2.2
    exact B
  obtain ⟨⟨h1, h2, h3⟩, h4, ⟨h5, h6, h7, h8⟩, h9⟩ := id F
  have K := h9.k
  have emin : (if nI (fb_sm nt 2001) < nI ow then nI (fb_sm nt 2001) else nI ow) = nI (min ow (fb_sm nt 2001)) := by
    by_cases z : fb_sm nt 2001 < ow
    · rw [if_pos ((i_lt (by omega) (by omega)).mpr z)]
      congr 1; omega
    · rw [if_neg (fun y => z ((i_lt (by omega) (by omega)).mp y))]
      congr 1; omega
  refine t_X0_settle_0 sh q h1 K.1.1 h4 (by omega) (by have := K.2.2.2.1.1; omega) ?_
  rw [h5, hT, emin]
  refine c_dropN sh h9 (by omega) (fun h1' f r P1 => ?_)
  obtain ⟨e1, e2, e3⟩ := F.ne
  have nq : ¬ p3 p d n q := by
    rintro (z | z | z)
    · exact e1 z
    · exact e2 z
    · exact e3 z
  have g := f.2 q h3
  have g2 := g.2 nq
  have F1 : cF1 h1' q p d n c (fun x => nt x - drd nt (min ow (fb_sm nt 2001)) x) ow br st sf := ⟨⟨g.1.1.trans h1, h2, Nat.lt_of_lt_of_le h3 f.1⟩, (g2.2.2 0).1.trans h4, ⟨(g2.2.2 1).2.trans h5, (g2.2.2 2).2.trans h6, (g2.2.2 3).2.trans h7, (g2.2.2 4).2.trans h8⟩, P1⟩
  refine ⟨rfl, s_h.ex sh f (p3_70 K), g.1.1.trans h1, g.1.1.trans h1, ?_⟩
  rw [F1.2.2.1.1, nI_sub (by omega)]
  exact k _ (f.tr F1.sI.1 (fun _ z => Or.inr z) (fun _ _ z => Or.inl z)) r (F1.ow' _)
set_option maxHeartbeats 1000000 in
theorem c_pay {h : mm_H} {Q : Option Value → mm_H → Prop} (sh : s_h h) {q p d n c q2 p2 d2 n2 c2 am dy : Nat} {nt nt2 : Nat → Nat} {ow ow2 : Nat} {br st sf br2 st2 sf2 : Int32} (F1 : cF1 h q p d n c nt ow br st sf) (F2 : cF1 h q2 p2 d2 n2 c2 nt2 ow2 br2 st2 sf2) (hq : q ≠ q2) (hp : p ≠ p2) (hd : d ≠ d2 ∧ d ≠ n2 ∧ n ≠ d2 ∧ n ≠ n2) (D : cD h dy) (ham : am ≤ 1000) (hb : fb_sm nt2 2001 + fb_sm nt 2001 + 1000 ≤ 100000000) (hinv : ow2 = 0 ∨ fb_sm nt2 2001 = 0) (ho : ow2 ≤ 1000000000)
    (k : ∀ h' d2' n2' c2', ex h h' (fun a => a = 16 ∨ p4 q p d n a ∨ p4 q2 p2 d2 n2 a) → fx h h' [(523, 16), (525, 16)] [] → cF1 h' q p d n c (pX nt am) (ow + (am - fb_sm nt 2001)) br st sf → cF1 h' q2 p2 d2' n2' c2' (pZ nt nt2 am dy ow2) (ow2 - min ow2 am) br2 st2 sf2 → (d2' = d2 ∨ h_n h ≤ d2') → (n2' = n2 ∨ h_n h ≤ n2') → gr h c2 h' c2' → h_oi h' 523 16 = h_oi h 523 16 + nI (am - fb_sm nt 2001) → h_oi h' 525 16 = h_oi h 525 16 + nI (min ow2 am) → Q none h') : w_c 24 98 [.ref 16, .ref q, .ref q2, .int (nI am)] h Q := by
  obtain ⟨⟨a1, a2, a3⟩, a4, ⟨a5, a6, a7, a8⟩, a9⟩ := id F1
  obtain ⟨⟨b1, b2, b3⟩, b4, ⟨b5, b6, b7, b8⟩, b9⟩ := id F2
  have nz := F1.nz
  have K1 := a9.k
  have K2 := b9.k
  have k11 := K1.1.1
  have k12 := K1.1.2.1
  have k13 := K1.1.2.2
  have k21 := K2.1.1
  have k22 := K2.1.2.1
  have k23 := K2.1.2.2
  obtain ⟨e1, e2, e3⟩ := F1.ne
  obtain ⟨e4, e5, e6⟩ := F2.ne
  have g70 : ∀ a, p6 p d n p2 d2 n2 a → 70 ≤ a := fun x z => z.elim (p3_70 K1 x) (p3_70 K2 x)
  have nq1 : ¬ p6 p d n p2 d2 n2 q := by
    rintro ((z | z | z) | (z | z | z))
    · exact e1 z
    · exact e2 z
    · exact e3 z
    · rw [z, k21] at a1; cases a1
    · rw [z, k22] at a1; cases a1
    · rw [z, k23] at a1; cases a1
  have nq2 : ¬ p6 p d n p2 d2 n2 q2 := by
    rintro ((z | z | z) | (z | z | z))
    · rw [z, k11] at b1; cases b1
    · rw [z, k12] at b1; cases b1
    · rw [z, k13] at b1; cases b1
    · exact e4 z
    · exact e5 z
    · exact e6 z
  refine t_X8_pay_0 sh q q2 _ ⟨a1, b1, p, a4, k11, ?_⟩
  rw [b4]
  refine c_move (a := am) sh a9 b9 hp hd (TT := fb_sm nt 2001) (TN := fb_sm nt2 2001) rfl rfl (by omega) (by omega) (fun h1 td tn tc f1 P1 P2 q1 q2' g1 => ?_)
  have sh1 := s_h.ex sh f1 g70
  have em : ∀ x, mvd nt (min am (fb_sm nt 2001)) x = mvd nt am x := mvd_min nz am
  have P1 : pS h1 p d n c (pX nt am) := by
    have e : (fun x => nt x - mvd nt (min am (fb_sm nt 2001)) x) = pX nt am := funext fun x => by rw [em]; rfl
    rw [← e]; exact P1
  have P2 : pS h1 p2 td tn tc (fun x => nt2 x + mvd nt am x) := by
    have e : (fun x => nt2 x + mvd nt (min am (fb_sm nt 2001)) x) = fun x => nt2 x + mvd nt am x := funext fun x => by rw [em]
    rw [← e]; exact P2
  have gq := f1.2 q a3
  have gq1 := gq.2 nq1
  have gr2 := f1.2 q2 b3
  have gr1 := gr2.2 nq2
  have F11 : cF1 h1 q p d n c (pX nt am) ow br st sf := ⟨⟨gq.1.1.trans a1, a2, Nat.lt_of_lt_of_le a3 f1.1⟩, (gq1.2.2 0).1.trans a4, ⟨(gq1.2.2 1).2.trans a5, (gq1.2.2 2).2.trans a6, (gq1.2.2 3).2.trans a7, (gq1.2.2 4).2.trans a8⟩, P1⟩
  have F21 : cF1 h1 q2 p2 td tn tc (fun x => nt2 x + mvd nt am x) ow2 br2 st2 sf2 := ⟨⟨gr2.1.1.trans b1, b2, Nat.lt_of_lt_of_le b3 f1.1⟩, (gr1.2.2 0).1.trans b4, ⟨(gr1.2.2 1).2.trans b5, (gr1.2.2 2).2.trans b6, (gr1.2.2 3).2.trans b7, (gr1.2.2 4).2.trans b8⟩, P2⟩
  have d1 : h_oi h1 521 16 = nI dy := by
    have z := ((f1.2 16 (by have := n_70 sh; omega)).2 (fun z => absurd (g70 16 z) (by decide))).2.2 521
    exact z.2.trans D.2
  have ers : nI am - nI (min am (fb_sm nt 2001)) = nI (am - fb_sm nt 2001) := by
    rw [nI_sub (by omega)]
    congr 1; omega
  have F12 : cF1 (h_sI h1 1 q (nI (ow + (am - fb_sm nt 2001)))) q p d n c (pX nt am) (ow + (am - fb_sm nt 2001)) br st sf := F11.ow' _
  obtain ⟨m1, m2, m3⟩ := F21.ne
  have f2 : ex h1 (h_sI h1 1 q (nI (ow + (am - fb_sm nt 2001)))) (fun a => a = q) := F11.sI.1
  have k31 := F21.2.2.2.k.1
  have c1 := F11.1.1
  have F22 : cF1 (h_sI h1 1 q (nI (ow + (am - fb_sm nt 2001)))) q2 p2 td tn tc (fun x => nt2 x + mvd nt am x) ow2 br2 st2 sf2 := F21.frm f2 (fun z => hq (Eq.symm z)) (fun z => by have z : p2 = q := z; have w := k31.1; rw [z, c1] at w; cases w) (fun z => by have z : td = q := z; have w := k31.2.1; rw [z, c1] at w; cases w) (fun z => by have z : tn = q := z; have w := k31.2.2; rw [z, c1] at w; cases w)
  have sh2 := s_h.ex sh1 f2 (fun a z => by have z : a = q := z; omega)
  refine ⟨_, rfl, sh1, F11.1.1, F11.1.1, by omega, F21.1.1, p2, F21.2.1, F21.2.2.2.k.1.1, ?_⟩
  rw [F11.2.2.1.1, d1, ers, nI_add]
  have hsum2 : fb_sm (fun x => nt2 x + mvd nt am x) 2001 = fb_sm nt2 2001 + min am (fb_sm nt 2001) := by rw [fb_sm_add, mvd_sum]
  refine c_put sh2 F22.2.2.2 D.1 (by rw [hsum2]; omega) (fun h3 td3 tn3 tc3 f3 P3 q3 q4 g3 => ?_)
  have K22 := F22.2.2.2.k
  have sh3 := s_h.ex sh2 f3 (p3_70 K22)
  have nq3 : ¬ p3 p2 td tn q2 := by
    rintro (z | z | z)
    · exact m1 z
    · exact m2 z
    · exact m3 z
  have hnn1 := f1.1
  have F13 : cF1 h3 q p d n c (pX nt am) (ow + (am - fb_sm nt 2001)) br st sf := by
    have k32 := F12.2.2.2.k
    have d1' := k32.2.2.2.1
    refine F12.frm f3 ?_ ?_ ?_ ?_
    · rintro (z | z | z)
      · have w := k31.1; rw [← z, c1] at w; cases w
      · have w := k31.2.1; rw [← z, c1] at w; cases w
      · have w := k31.2.2; rw [← z, c1] at w; cases w
    · rintro (z | z | z)
      · exact hp z
      · have w := K22.1.2.1; rw [← z, k32.1.1] at w; cases w
      · have w := K22.1.2.2; rw [← z, k32.1.1] at w; cases w
    · rintro (z | z | z)
      · have w := K22.1.1; rw [← z, k32.1.2.1] at w; cases w
      · rcases q1 with y | y
        · exact hd.1 (z.trans y)
        · have := K1.2.2.2.1; omega
      · rcases q2' with y | y
        · exact hd.2.1 (z.trans y)
        · have := K1.2.2.2.1; omega
    · rintro (z | z | z)
      · have w := K22.1.1; rw [← z, k32.1.2.2] at w; cases w
      · rcases q1 with y | y
        · exact hd.2.2.1 (z.trans y)
        · have := K1.2.2.2.1; omega
      · rcases q2' with y | y
        · exact hd.2.2.2 (z.trans y)
        · have := K1.2.2.2.1; omega
  have hr3 := f3.2 q2 F22.1.2.2
  have hr4 := hr3.2 nq3
  have F23 : cF1 h3 q2 p2 td3 tn3 tc3 (pY nt nt2 am dy) ow2 br2 st2 sf2 := ⟨⟨hr3.1.1.trans F22.1.1, b2, Nat.lt_of_lt_of_le F22.1.2.2 f3.1⟩, (hr4.2.2 0).1.trans F22.2.1, ⟨(hr4.2.2 1).2.trans F22.2.2.1.1, (hr4.2.2 2).2.trans F22.2.2.1.2.1, (hr4.2.2 3).2.trans F22.2.2.1.2.2.1, (hr4.2.2 4).2.trans F22.2.2.1.2.2.2⟩, P3⟩
  have f4 : ex h3 (h_sI h3 523 16 (h_oi h3 523 16 + nI (am - fb_sm nt 2001))) (fun a => a = 16) := (ex.rf _ _).sI _ (Or.inl rfl)
  have n16 : ∀ a, 70 ≤ a → ¬ (fun a => a = 16) a := fun a ha z => by have z : a = 16 := z; omega
  have F14 := F13.frm f4 (n16 _ F13.1.2.1) (n16 _ F13.2.2.2.k.2.2.2.1.1) (n16 _ F13.2.2.2.k.2.2.2.1.2.1) (n16 _ F13.2.2.2.k.2.2.2.1.2.2.1)
  have F24 := F23.frm f4 (n16 _ F23.1.2.1) (n16 _ F23.2.2.2.k.2.2.2.1.1) (n16 _ F23.2.2.2.k.2.2.2.1.2.1) (n16 _ F23.2.2.2.k.2.2.2.1.2.2.1)
  have x3 : fx h h3 [(523, 16), (525, 16)] [] := (((f1.fx sh (fun a ha z => absurd (g70 a z) (by omega)) [] []).tr (f2.fx sh1 (fun a ha z => by have z : a = q := z; omega) [] []) (gs' := [(523, 16), (525, 16)]) (as' := []) (by decide) (by decide) (by decide) (by decide))).tr (f3.fx sh2 (fun a ha z => absurd (p3_70 K22 a z) (by omega)) [] []) (by decide) (by decide) (by decide) (by decide)
  have x4 : fx h (h_sI h3 523 16 (h_oi h3 523 16 + nI (am - fb_sm nt 2001))) [(523, 16), (525, 16)] [] := x3.sI _ (Or.inl (by decide))
  have sh4 := x4.sh sh (by decide)
  have u3 : h_oi h3 523 16 = h_oi h 523 16 ∧ h_oi h3 525 16 = h_oi h 525 16 := by
    have z1 := ((f1.2 16 (by have := n_70 sh; omega)).2 (fun z => absurd (g70 16 z) (by decide))).2.2
    have z3 := ((f3.2 16 (by have := n_70 sh2; omega)).2 (fun z => absurd (p3_70 K22 16 z) (by decide))).2.2
    have z2 : ∀ g, h_oi (h_sI h1 1 q (nI (ow + (am - fb_sm nt 2001)))) g 16 = h_oi h1 g 16 := fun g => oi_neA (by omega) g
    exact ⟨((z3 523).2.trans (z2 523)).trans (z1 523).2, ((z3 525).2.trans (z2 525)).trans (z1 525).2⟩
  refine ⟨rfl, sh3, F23.1.1, ?_⟩
  refine c_settle sh4 F24 ho (fun h5 f5 r5 F25 => ?_)
  have hsY := pY_sum nt nt2 (n := am) D.1
  have emn : min ow2 (fb_sm (pY nt nt2 am dy) 2001) = min ow2 am := by
    rw [hsY]
    rcases hinv with z | z <;> omega
  rw [emn] at F25
  rw [emn]
  have K24 := F24.p4_70
  have sh5 := s_h.ex sh4 f5 K24
  refine ⟨_, rfl, sh5, ?_⟩
  have hnn3 : h_n h ≤ h_n h3 := x3.2
  have tq1 : td3 = d2 ∨ h_n h ≤ td3 := by
    rcases q3 with y | y
    · rcases q1 with w | w
      · exact Or.inl (y.trans w)
      · exact Or.inr (by omega)
    · exact Or.inr (Nat.le_trans hnn1 y)
  have tq2 : tn3 = n2 ∨ h_n h ≤ tn3 := by
    rcases q4 with y | y
    · rcases q2' with w | w
      · exact Or.inl (y.trans w)
      · exact Or.inr (by omega)
    · exact Or.inr (Nat.le_trans hnn1 y)
  have F15 : cF1 h5 q p d n c (pX nt am) (ow + (am - fb_sm nt 2001)) br st sf := by
    have kk := F24.2.2.2.k
    have k32 := F14.2.2.2.k
    refine F14.frm f5 ?_ ?_ ?_ ?_
    · rintro (z | z | z | z)
      · exact hq z
      · have w := kk.1.1; rw [← z, F14.1.1] at w; cases w
      · have w := kk.1.2.1; rw [← z, F14.1.1] at w; cases w
      · have w := kk.1.2.2; rw [← z, F14.1.1] at w; cases w
    · rintro (z | z | z | z)
      · have w := F24.1.1; rw [← z, k32.1.1] at w; cases w
      · exact hp z
      · have w := kk.1.2.1; rw [← z, k32.1.1] at w; cases w
      · have w := kk.1.2.2; rw [← z, k32.1.1] at w; cases w
    · rintro (z | z | z | z)
      · have w := F24.1.1; rw [← z, k32.1.2.1] at w; cases w
      · have w := kk.1.1; rw [← z, k32.1.2.1] at w; cases w
      · rcases tq1 with y | y
        · exact hd.1 (z.trans y)
        · have := K1.2.2.2.1; omega
      · rcases tq2 with y | y
        · exact hd.2.1 (z.trans y)
        · have := K1.2.2.2.1; omega
    · rintro (z | z | z | z)
      · have w := F24.1.1; rw [← z, k32.1.2.2] at w; cases w
      · have w := kk.1.1; rw [← z, k32.1.2.2] at w; cases w
      · rcases tq1 with y | y
        · exact hd.2.2.1 (z.trans y)
        · have := K1.2.2.2.1; omega
      · rcases tq2 with y | y
        · exact hd.2.2.2 (z.trans y)
        · have := K1.2.2.2.1; omega
  have f6 : ex h5 (h_sI h5 525 16 (h_oi h3 525 16 + nI (min ow2 am))) (fun a => a = 16) := (ex.rf _ _).sI _ (Or.inl rfl)
  have F16 := F15.frm f6 (n16 _ F15.1.2.1) (n16 _ F15.2.2.2.k.2.2.2.1.1) (n16 _ F15.2.2.2.k.2.2.2.1.2.1) (n16 _ F15.2.2.2.k.2.2.2.1.2.2.1)
  have F26 := F25.frm f6 (n16 _ F25.1.2.1) (n16 _ F25.2.2.2.k.2.2.2.1.1) (n16 _ F25.2.2.2.k.2.2.2.1.2.1) (n16 _ F25.2.2.2.k.2.2.2.1.2.2.1)
  have x5 : fx h h5 [(523, 16), (525, 16)] [] := x4.tr (f5.fx sh4 (fun a ha z => absurd (K24 a z) (by omega)) [] []) (by decide) (by decide) (by decide) (by decide)
  have x6 : fx h (h_sI h5 525 16 (h_oi h3 525 16 + nI (min ow2 am))) [(523, 16), (525, 16)] [] := x5.sI _ (Or.inl (by decide))
  have E3 : ex h h3 (fun a => a = 16 ∨ p4 q p d n a ∨ p4 q2 p2 d2 n2 a) := by
    have w1 : ex h (h_sI h1 1 q (nI (ow + (am - fb_sm nt 2001)))) (fun a => a = 16 ∨ p4 q p d n a ∨ p4 q2 p2 d2 n2 a) := f1.tr f2 (fun a z => by
      rcases z with z | z
      · exact Or.inr (Or.inl (Or.inr z))
      · exact Or.inr (Or.inr (Or.inr z))) (fun a _ z => Or.inr (Or.inl (Or.inl z)))
    refine w1.tr f3 (fun _ z => z) (fun a ha z => ?_)
    rcases z with z | z | z
    · exact Or.inr (Or.inr (Or.inr (Or.inl z)))
    · rcases q1 with y | y
      · exact Or.inr (Or.inr (Or.inr (Or.inr (Or.inl (z.trans y)))))
      · omega
    · rcases q2' with y | y
      · exact Or.inr (Or.inr (Or.inr (Or.inr (Or.inr (z.trans y)))))
      · omega
  have E5 : ex h h5 (fun a => a = 16 ∨ p4 q p d n a ∨ p4 q2 p2 d2 n2 a) := by
    have w2 : ex h (h_sI h3 523 16 (h_oi h3 523 16 + nI (am - fb_sm nt 2001))) (fun a => a = 16 ∨ p4 q p d n a ∨ p4 q2 p2 d2 n2 a) := E3.tr f4 (fun _ z => z) (fun _ _ z => Or.inl z)
    refine w2.tr f5 (fun _ z => z) (fun a ha z => ?_)
    rcases z with z | z | z | z
    · exact Or.inr (Or.inr (Or.inl z))
    · exact Or.inr (Or.inr (Or.inr (Or.inl z)))
    · rcases tq1 with y | y
      · exact Or.inr (Or.inr (Or.inr (Or.inr (Or.inl (z.trans y)))))
      · omega
    · rcases tq2 with y | y
      · exact Or.inr (Or.inr (Or.inr (Or.inr (Or.inr (z.trans y)))))
      · omega
  have E6 : ex h (h_sI h5 525 16 (h_oi h3 525 16 + nI (min ow2 am))) (fun a => a = 16 ∨ p4 q p d n a ∨ p4 q2 p2 d2 n2 a) := E5.tr f6 (fun _ z => z) (fun _ _ z => Or.inl z)
  have t5 := ((f5.2 16 (by have := n_70 sh4; omega)).2 (fun z => absurd (K24 16 z) (by decide))).2.2
  refine k _ td3 tn3 tc3 E6 x6 F16 F26 tq1 tq2 ?_ ?_ ?_
  · obtain ⟨g11, g12, g13⟩ := g1
    obtain ⟨g31, g32, g33⟩ := g3
    obtain ⟨r51, r52⟩ := r5
    have g31 : h_s h3 = h_s h1 + 4 * (tc3 - tc) := g31
    have g32 : h_n h3 + tc ≤ h_n h1 + tc3 := g32
    have r51 : h_n h5 = h_n h3 := r51
    have r52 : h_s h5 = h_s h3 := r52
    exact ⟨by show h_s h5 = _; omega, by show h_n h5 + _ ≤ _; omega, by omega⟩
  · rw [oi_neG (by decide), (t5 523).2, oi_self, u3.1]
  · rw [oi_self, u3.2]
