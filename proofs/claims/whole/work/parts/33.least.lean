theorem mx_ex0 {fit : Nat → Nat → Bool} {lo hi : Nat} {F : Nat → Bool} {no : Nat} : ∀ m, (∀ t, mtc fit lo hi F no t → msz no t ≤ m) → ∃ s, mx fit lo hi F no s
  | 0, h => ⟨0, ⟨fun _ => none, fun o ho a e => (by cases e), (fb_ct_zero (p := fun o => ((fun _ : Nat => (none : Option Nat)) o).isSome)).mpr (fun _ _ => rfl)⟩, h⟩
  | m + 1, h => by
    by_cases z : ∃ t, mtc fit lo hi F no t ∧ msz no t = m + 1
    · exact ⟨m + 1, z, h⟩
    · refine mx_ex0 m (fun t ht => ?_)
      have h1 := h t ht
      have h2 : msz no t ≠ m + 1 := fun e => z ⟨t, ht, e⟩
      omega
theorem mN_mx (fit : Nat → Nat → Bool) (lo hi : Nat) (F : Nat → Bool) (no : Nat) : mx fit lo hi F no (mN fit lo hi F no) := Classical.epsilon_spec (p := fun s => mx fit lo hi F no s) (mx_ex0 no (fun _ _ => msz_le))
theorem mN_le {fit : Nat → Nat → Bool} {lo hi : Nat} {F : Nat → Bool} {no : Nat} : mN fit lo hi F no ≤ no := mx_le (mN_mx fit lo hi F no)
theorem bt_and_not (x : Int32) {o i : Nat} (ho : o < 32) (hi : i < 32) : bt (x &&& (((1 : Int32) <<< (nI o &&& 31)) ^^^ (-1))) i = va_up (fun i => bt x i) o false i := by
  rw [b_and, bt_not _ hi, bt_1 ho]
  by_cases z : i = o
  · rw [z, va_up_self]; simp
  · rw [va_up_ne _ _ z]; simp [z]
theorem bt_all : ∀ n, n ≤ 10 → ∀ i, i < 32 → bt ((((1 : Int32) <<< (nI n &&& 31)) - 1)) i = decide (i < n) := by decide +kernel
theorem c_all {h : mm_H} {Q : Option Value → mm_H → Prop} {na no : Nat} {fit : Nat → Nat → Bool} (sh : s_h h) (M : cM h na no fit) (k : ∀ x : Int32, (∀ i, i < 32 → bt x i = decide (i < no)) → Q (some (.int x)) h) : w_c 0 16 [.ref 39] h Q := by
  refine t_X2_allOffers_0 sh ?_
  rw [M.2.2.1]
  exact k _ (bt_all no M.1.2)
theorem nI_sub1 {a : Nat} (h : 0 < a) : nI a - 1 = nI (a - 1) := by
  have : a = (a - 1) + 1 := by omega
  rw [this, nI_pred]
  rfl
set_option maxHeartbeats 1000000 in
theorem c_least {h : mm_H} {Q : Option Value → mm_H → Prop} {na no : Nat} {fit : Nat → Nat → Bool} (sh : s_h h) (M : cM h na no fit) {ask s0 md : Nat} {free : Int32} {F : Nat → Bool} (ha : ask < na) (hs : s0 ≤ 10) (hmd : md < s0) (hF : ∀ o, o < no → bt free o = F o) (k : ∀ h', fx h h' [(133, 39)] [42] → dn h h' → Q (some (.int (oN (mpick fit na no s0 ask F md)))) h') : w_c 13 20 [.ref 39, .int (nI ask), .int free, .int (nI (s0 - md))] h Q := by
  obtain ⟨hna, hno⟩ := M.1
  have loop : ∀ m j, j + m = no → ∀ (h1 : mm_H), fx h h1 [(133, 39)] [42] → dn h h1 → (∀ i, i < j → mpk fit na no s0 ask F md i = false) → w_p (12 + 1) (2, 7, mc_X2_leastOffer) 3 [(0, .ref 39), (1, .int (nI ask)), (2, .int free), (3, .int (nI (s0 - md))), (4, .int (nI j))] [] h1 Q := by
    intro m
    induction m with
    | zero =>
      intro j hj h1 f d r
      have M1 := M.fx f (by decide) (by decide) (by decide)
      refine t_X2_leastOffer_3 (f.sh sh (by decide)) _ _ _ _ (K3 := fun _ _ _ _ _ => False) (fun _ _ _ _ _ z => z.elim) ⟨fun _ => ?_, fun c => absurd ?_ c⟩
      · have := k h1 f d
        rw [mpick_none (fun i hi => r i (by omega))] at this
        exact this
      · rw [M1.2.2.1, i_le (by omega) (by omega)]
        omega
    | succ m ih =>
      intro j hj h1 f d r
      have M1 := M.fx f (by decide) (by decide) (by decide)
      have hbit : bt (h_ai h1 40 ask &&& free) j = (fit ask j && F j) := by
        rw [b_and, M1.fit ha (by omega), hF j (by omega)]
      refine t_X2_leastOffer_3 (f.sh sh (by decide)) _ _ _ _ (K3 := fun x1 x2 x3 x4 hh => x1 = nI ask ∧ x2 = free ∧ x3 = nI (s0 - md) ∧ x4 = nI (j + 1) ∧ fx h hh [(133, 39)] [42] ∧ dn h hh ∧ ∀ i, i < j + 1 → mpk fit na no s0 ask F md i = false) (fun x1 x2 x3 x4 hh q => ?_) ⟨fun c => ?_, fun c => ⟨vp_in_nI (by omega) (by decide), ?_⟩⟩
      · obtain ⟨rfl, rfl, rfl, rfl, q1, q2, q3⟩ := q
        exact ih (j + 1) (by omega) hh q1 q2 q3
      · rw [M1.2.2.1, i_le (by omega) (by omega)] at c
        omega
      · rw [i_cl (a := ask) (by omega)]
        have ext : mpk fit na no s0 ask F md j = false → ∀ i, i < j + 1 → mpk fit na no s0 ask F md i = false := fun e i hi => by
          by_cases z : i = j
          · rw [z]; exact e
          · exact r i (by omega)
        refine ⟨fun c2 => ⟨rfl, rfl, rfl, nI_1 j, f, d, ext ?_⟩, fun c2 => ?_⟩
        · rw [bit_and _ (by omega), hbit] at c2
          unfold mpk
          rw [c2]
          rfl
        · rw [bit_and _ (by omega), hbit] at c2
          have c2 : (fit ask j && F j) = true := by cases e : (fit ask j && F j) with
            | true => rfl
            | false => exact absurd e c2
          show w_c 12 17 [.ref 39, .int (nI ask + 1), .int _] h1 _
          rw [nI_1]
          refine c_most (f.sh sh (by decide)) M1 (by omega) (fun h3 f3 d3 => ?_)
          have f4 : fx h h3 [(133, 39)] [42] := f.tr f3 (by decide) (by decide) (by decide) (by decide)
          have eN : mN fit (ask + 1) na (fun o => bt (free &&& (((1 : Int32) <<< (nI j &&& 31)) ^^^ (-1))) o) no = mN fit (ask + 1) na (va_up F j false) no := mN_cong (fun _ _ _ _ => rfl) (fun o ho => by
            show bt (free &&& (((1 : Int32) <<< (nI j &&& 31)) ^^^ (-1))) o = _
            rw [bt_and_not _ (by omega) (by omega)]
            by_cases z : o = j
            · rw [z, va_up_self, va_up_self]
            · rw [va_up_ne _ _ z, va_up_ne _ _ z]; exact hF o ho)
          refine ⟨_, rfl, f4.sh sh (by decide), fun c3 => ⟨rfl, rfl, rfl, nI_1 j, f4, d.tr d3, ext ?_⟩, fun c3 => ?_⟩
          · rw [eN, nI_sub1 (by omega)] at c3
            cases e : mpk fit na no s0 ask F md j with
            | false => rfl
            | true =>
              have := (mpk_md e).2.2
              exact absurd (congrArg nI (by omega)) c3
          · rw [eN, nI_sub1 (by omega)] at c3
            have hk := k h3 f4 (d.tr d3)
            rw [mpick_some (o := j) (by omega) ?_ r] at hk
            · exact hk
            · rw [mpk_eq]
              rw [Bool.and_eq_true] at c2
              refine ⟨c2, ?_⟩
              have := (nI_eqI (a := mN fit (ask + 1) na (va_up F j false) no) ?_ (by omega)).mp c3
              · omega
              · have := mN_le (fit := fit) (lo := ask + 1) (hi := na) (F := va_up F j false) (no := no)
                omega
  refine t_X2_leastOffer_0 (D := 12) sh _ _ _ (K3 := fun x1 x2 x3 x4 hh => x1 = nI ask ∧ x2 = free ∧ x3 = nI (s0 - md) ∧ x4 = nI 0 ∧ hh = h) (fun x1 x2 x3 x4 hh q => ?_) ⟨rfl, rfl, rfl, rfl, rfl⟩
  obtain ⟨rfl, rfl, rfl, rfl, rfl⟩ := q
  exact loop no 0 (by omega) hh (fx.rf _ _ _) (dn.rf _) (fun i hi => by omega)
