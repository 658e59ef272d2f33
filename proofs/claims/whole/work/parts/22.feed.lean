/-! feed: eight bytes of a long -/
def bt8 (v : Int64) (k : Nat) : Nat := uN v / 2 ^ k % 256
theorem bt8_lt (v : Int64) (k : Nat) : bt8 v k < 256 := Nat.mod_lt _ (by decide)
theorem byte_nI (m : Nat) : (nI m).toInt8 = (nI (m % 256)).toInt8 := by
  have h := fa_mask m 8
  have e : nI m &&& 255 = nI (m % 256) := h
  rw [← e]
  exact (fa_byte_low (nI m)).symm
theorem feed_c (v : Int64) (k : Nat) (hk : k < 64) : vp_nar .byte (((v.toUInt64 >>> ((nI k).toInt64.toUInt64 &&& Int64.toUInt64 63)).toInt64).toInt32.toInt8.toInt32) = (nI (bt8 v k)).toInt8.toInt32 := by
  rw [vp_nar_byte, fb_byte_twice]
  have h1 := uN_sk v hk
  generalize (v.toUInt64 >>> ((nI k).toInt64.toUInt64 &&& Int64.toUInt64 63)).toInt64 = w at h1 ⊢
  have h2 : w = lN (uN w) := by
    apply uN_inj
    show uN w = (lN (uN w)).toBitVec.toNat
    rw [wb_tn (by have := uN_lt w; omega)]
  rw [h2, lN_i, h1, byte_nI]
  rfl
theorem feed_m (v : Int64) (k : Nat) (hk : k ≤ 56) : ((v >>> ((nI k).toInt64 &&& 63)) &&& Int64.ofNat 255).toInt32 = nI (bt8 v k) := by
  have e : (v >>> ((nI k).toInt64 &&& 63)) &&& Int64.ofNat 255 = lN (bt8 v k) := by
    rw [wb_c k (by omega)]
    apply wb_inj
    rw [wb_tb]
    show (v.toBitVec.sshiftRight' ((BitVec.ofNat 64 k).smod 64)) &&& BitVec.ofNat 64 255 = BitVec.ofNat 64 (bt8 v k)
    rw [wb_sm k (by omega)]
    apply BitVec.eq_of_getLsbD_eq
    intro i hi
    rw [BitVec.getLsbD_and, BitVec.getLsbD_ofNat, BitVec.getLsbD_ofNat]
    unfold bt8 uN
    rw [show (256 : Nat) = 2 ^ 8 from rfl, Nat.testBit_mod_two_pow, Nat.testBit_div_two_pow, show (255 : Nat) = 2 ^ 8 - 1 from rfl, Nat.testBit_two_pow_sub_one]
    by_cases h8 : i < 8
    · simp only [hi, h8, decide_true, Bool.true_and, Bool.and_true]
      rw [BitVec.sshiftRight', BitVec.getLsbD_sshiftRight]
      have e2 : (BitVec.ofNat 64 k).toNat = k := by
        rw [BitVec.toNat_ofNat]
        exact Nat.mod_eq_of_lt (by omega)
      rw [e2]
      simp only [show ¬ 64 ≤ i by omega, show k + i < 64 by omega, if_true, decide_false, Bool.not_false, Bool.true_and]
      show v.toBitVec.getLsbD (k + i) = v.toBitVec.toNat.testBit (i + k)
      rw [BitVec.testBit_toNat, Nat.add_comm]
    · simp [h8]
  rw [e, lN_i]
def tq (v : Int64) (tl : Nat) (tp : Nat → Nat) : Nat → Nat := fun i => if i < tl then tp i else bt8 v (56 - 8 * (i - tl))
theorem dec8 : ∀ j, j < 8 → ((7 : Int32) - nI j) + (-1) = 7 - nI (j + 1) ∧ (7 : Int32) - nI j = nI (7 - j) ∧ (8 : Int32) * nI (7 - j) = nI (56 - 8 * j) ∧ ((56 : Int32) - 8 * nI j) + (-8) = 56 - 8 * nI (j + 1) ∧ (56 : Int32) - 8 * nI j = nI (56 - 8 * j) := by decide
theorem c_append {h : mm_H} {Q : Option Value → mm_H → Prop} (sh : s_h h) {tl : Nat} {tp : Nat → Nat} (H : cT h tl tp) (v : Int64) (h0 : tl > 192 → Q (some (.int 0)) h) (k : tl ≤ 192 → ∀ h', fx h h' [(385, 17)] [18] → dn h h' → cT h' (tl + 8) (tq v tl tp) → Q (some (.int 1)) h') : w_c 0 48 [.ref 17, .long v] h Q := by
  by_cases hl : tl ≤ 192
  · have loop : ∀ m j, j + m = 8 → ∀ h1, fx h h1 [(385, 17)] [18] → dn h h1 → cT h1 (tl + j) (tq v tl tp) → w_p 0 (6, 4, mc_X6_append) 15 [(0, .ref 17), (1, .long v), (3, .int (7 - nI j))] [] h1 Q := by
      intro m
      induction m with
      | zero =>
        intro j hj h1 f d c
        have e : j = 8 := by omega
        subst e
        refine t_X6_append_15 (f.sh sh (by decide)) _ _ (K15 := fun _ _ _ => False) (fun _ _ _ z => z.elim) ⟨fun _ => k hl h1 f d c, fun c2 => absurd (by decide) c2⟩
      | succ m ih =>
        intro j hj h1 f d c
        obtain ⟨e1, e2, e3, -, -⟩ := dec8 j (by omega)
        obtain ⟨c1, c2, c3⟩ := c
        refine t_X6_append_15 (f.sh sh (by decide)) _ _ (K15 := fun a b hh => a = v ∧ b = 7 - nI (j + 1) ∧ fx h hh [(385, 17)] [18] ∧ dn h hh ∧ cT hh (tl + (j + 1)) (tq v tl tp)) (fun a b hh z => ?_) ⟨fun q => ?_, fun q => ⟨?_, rfl, e1, ?_, ?_, ?_⟩⟩
        · obtain ⟨rfl, rfl, z1, z2, z3⟩ := z
          exact ih (j + 1) (by omega) hh z1 z2 z3
        · rw [e2] at q
          exact absurd q (nI_pos (by omega))
        · rw [c2]
          exact vp_in_nI (by omega) (by decide)
        · exact (f.sA _ _ (by decide)).sI _ (by decide)
        · exact (d.sA _ _ (by decide)).sI _ (by decide)
        · refine ⟨by omega, ?_, fun i hi => ?_⟩
          · show h_oi h1 385 17 + 1 = _
            rw [c2, nI_1]
            rfl
          · show _ ∧ va_up (h_ai h1 18) (h_oi h1 385 17).toNatClampNeg _ i = _
            rw [c2, i_cl (by omega)]
            by_cases hi2 : i = tl + j
            · subst hi2
              have e4 : tq v tl tp (tl + j) = bt8 v (56 - 8 * j) := by
                unfold tq
                rw [if_neg (by omega), show tl + j - tl = j by omega]
              refine ⟨by rw [e4]; exact bt8_lt _ _, ?_⟩
              rw [va_up_self, e4, e2, e3]
              exact feed_c v _ (by omega)
            · rw [va_up_ne _ _ hi2]
              exact c3 i (by omega)
    refine t_X6_append_0 sh v (K15 := fun a b hh => a = v ∧ b = 7 ∧ hh = h) (fun a b hh z => ?_) ⟨fun _ => ⟨rfl, rfl, rfl⟩, fun c => ?_⟩
    · obtain ⟨rfl, rfl, rfl⟩ := z
      have := loop 8 0 rfl hh (fx.rf _ _ _) (dn.rf _) ⟨by omega, H.2.1, fun i hi => by
        have e : tq a tl tp i = tp i := if_pos (by omega)
        rw [e]
        exact H.2.2 i hi⟩
      exact this
    · rw [H.2.1] at c
      exact absurd ((i_le (b := 192) (by omega) (by decide)).mpr hl) c
  · refine t_X6_append_0 sh v (K15 := fun a b hh => False) (fun a b hh z => z.elim) ⟨fun c => ?_, fun c => h0 (by omega)⟩
    rw [H.2.1] at c
    have := H.1
    exact absurd ((i_le (b := 192) (by omega) (by decide)).mp c) hl
/-- feed(v): the answer, the new length -/
def a_feed (tl : Nat) : Int32 × Nat := if tl ≤ 192 then (nI (tl + 8), tl + 8) else (-3, tl)
theorem c_feed {h : mm_H} {Q : Option Value → mm_H → Prop} (sh : s_h h) {tl : Nat} {tp : Nat → Nat} (H : cT h tl tp) (v : Int64) (k : ∀ h', fx h h' [(385, 17)] [18] → dn h h' → cT h' (a_feed tl).2 (tq v tl tp) → Q (some (.int (a_feed tl).1)) h') : w_c 1 62 [.ref 16, .long v] h Q := by
  refine t_X8_feed_0 sh v (c_append sh H v (fun hl => ?_) (fun hl h1 f d c => ?_))
  · unfold a_feed at k
    rw [if_neg (by omega)] at k
    exact ⟨0, rfl, sh, fun _ => k h (fx.rf _ _ _) (dn.rf _) ⟨H.1, H.2.1, fun i hi => by
      have e : tq v tl tp i = tp i := if_pos hi
      rw [e]
      exact H.2.2 i hi⟩, fun z => absurd rfl z⟩
  · unfold a_feed at k
    rw [if_pos hl] at k
    refine ⟨1, rfl, f.sh sh (by decide), fun z => absurd z (by decide), fun _ => ?_⟩
    rw [c.2.1]
    exact k h1 f d c
theorem m_feed {h : mm_H} {Q : Option Value → mm_H → Prop} (sh : s_h h) {tl : Nat} {tp : Nat → Nat} (H : mT h tl tp) (v : Int64) (k : ∀ h', fx h h' [(577, 44)] [45] → dn h h' → mT h' (a_feed tl).2 (tq v tl tp) → Q (some (.int (a_feed tl).1)) h') : w_c 0 104 [.ref 44, .long v] h Q := by
  unfold a_feed at k
  have e8 : h_oi h 577 44 + 8 = nI (tl + 8) := by
    rw [H.2.1]
    exact nI_add tl 8
  have h200 := H.1
  by_cases hl : tl ≤ 192
  · rw [if_pos hl] at k
    have loop : ∀ m j, j + m = 8 → ∀ h1, fx h h1 [(577, 44)] [45] → dn h h1 → mT h1 (tl + j) (tq v tl tp) → w_p 0 (9, 4, mc_X9_feed) 19 [(0, .ref 44), (1, .long v), (3, .int (56 - 8 * nI j))] [] h1 Q := by
      intro m
      induction m with
      | zero =>
        intro j hj h1 f d c
        have e : j = 8 := by omega
        subst e
        refine t_X9_feed_19 (f.sh sh (by decide)) _ _ (K19 := fun _ _ _ => False) (fun _ _ _ z => z.elim) ⟨fun _ => ?_, fun c2 => absurd (by decide) c2⟩
        rw [c.2.1]
        exact k h1 f d c
      | succ m ih =>
        intro j hj h1 f d c
        obtain ⟨-, -, -, e1, e2⟩ := dec8 j (by omega)
        obtain ⟨c1, c2, c3⟩ := c
        refine t_X9_feed_19 (f.sh sh (by decide)) _ _ (K19 := fun a b hh => a = v ∧ b = 56 - 8 * nI (j + 1) ∧ fx h hh [(577, 44)] [45] ∧ dn h hh ∧ mT hh (tl + (j + 1)) (tq v tl tp)) (fun a b hh z => ?_) ⟨fun q => ?_, fun q => ⟨?_, rfl, e1, ?_, ?_, ?_⟩⟩
        · obtain ⟨rfl, rfl, z1, z2, z3⟩ := z
          exact ih (j + 1) (by omega) hh z1 z2 z3
        · rw [e2] at q
          exact absurd q (nI_pos (by omega))
        · rw [c2]
          exact vp_in_nI (by omega) (by decide)
        · exact (f.sA _ _ (by decide)).sI _ (by decide)
        · exact (d.sA _ _ (by decide)).sI _ (by decide)
        · refine ⟨by omega, ?_, fun i hi => ?_⟩
          · show h_oi h1 577 44 + 1 = _
            rw [c2, nI_1]
            rfl
          · show _ ∧ va_up (h_ai h1 45) (h_oi h1 577 44).toNatClampNeg _ i = _
            rw [c2, i_cl (by omega)]
            by_cases hi2 : i = tl + j
            · subst hi2
              have e4 : tq v tl tp (tl + j) = bt8 v (56 - 8 * j) := by
                unfold tq
                rw [if_neg (by omega), show tl + j - tl = j by omega]
              refine ⟨by rw [e4]; exact bt8_lt _ _, ?_⟩
              rw [va_up_self, e4, e2]
              exact feed_m v _ (by omega)
            · rw [va_up_ne _ _ hi2]
              exact c3 i (by omega)
    refine t_X9_feed_0 sh v (K19 := fun a b hh => a = v ∧ b = 56 ∧ hh = h) (fun a b hh z => ?_) ⟨fun _ => ⟨rfl, rfl, rfl⟩, fun c => ?_⟩
    · obtain ⟨rfl, rfl, rfl⟩ := z
      exact loop 8 0 rfl hh (fx.rf _ _ _) (dn.rf _) ⟨by omega, H.2.1, fun i hi => by
        have e : tq a tl tp i = tp i := if_pos (by omega)
        rw [e]
        exact H.2.2 i hi⟩
    · rw [e8] at c
      exact absurd ((i_le (b := 200) (by omega) (by decide)).mpr (by omega)) c
  · rw [if_neg hl] at k
    refine t_X9_feed_0 sh v (K19 := fun a b hh => False) (fun a b hh z => z.elim) ⟨fun c => ?_, fun c => k h (fx.rf _ _ _) (dn.rf _) ⟨H.1, H.2.1, fun i hi => by
      have e : tq v tl tp i = tp i := if_pos hi
      rw [e]
      exact H.2.2 i hi⟩⟩
    rw [e8] at c
    have := (i_le (b := 200) (by omega) (by decide)).mp c
    omega
