/-! THE CLASS SCANS -/
theorem tx_1 : ∀ i, i < 5 → ∀ j, j < 5 → (mm_tx (4 + i)).length = (mm_tx (4 + j)).length → (mm_tx (4 + i)).getD 0 0 = (mm_tx (4 + j)).getD 0 0 → i = j := by decide +kernel
theorem zSp_one {T : zT} {s e i j : Nat} (hi : i < 5) (hj : j < 5) (a : zSp T s e i) (b : zSp T s e j) : i = j := by
  have l1 := (tx_b i hi).2.1
  have l2 := (tx_b j hj).2.1
  exact tx_1 i hi j hj (a.1.symm.trans b.1) ((a.2 0 (by omega)).symm.trans (b.2 0 (by omega)))
theorem zNm_n {T : zT} {s e : Nat} (h : ∀ k, k < 5 → ¬ zSp T s e k) : zNm T s e = none := by
  unfold zNm
  rw [z_if_f (h 0 (by decide)), z_if_f (h 1 (by decide)), z_if_f (h 2 (by decide)), z_if_f (h 3 (by decide)), z_if_f (h 4 (by decide))]
theorem zNm_s {T : zT} {s e k : Nat} (hk : k < 5) (h : zSp T s e k) : zNm T s e = some k := by
  have ne : ∀ i, i < 5 → i ≠ k → ¬ zSp T s e i := fun i hi hne y => hne (zSp_one hi hk y h)
  unfold zNm
  have : k = 0 ∨ k = 1 ∨ k = 2 ∨ k = 3 ∨ k = 4 := by omega
  rcases this with rfl | rfl | rfl | rfl | rfl
  · rw [z_if_t h]
  · rw [z_if_f (ne 0 (by decide) (by decide)), z_if_t h]
  · rw [z_if_f (ne 0 (by decide) (by decide)), z_if_f (ne 1 (by decide) (by decide)), z_if_t h]
  · rw [z_if_f (ne 0 (by decide) (by decide)), z_if_f (ne 1 (by decide) (by decide)), z_if_f (ne 2 (by decide) (by decide)), z_if_t h]
  · rw [z_if_f (ne 0 (by decide) (by decide)), z_if_f (ne 1 (by decide) (by decide)), z_if_f (ne 2 (by decide) (by decide)), z_if_f (ne 3 (by decide) (by decide)), z_if_t h]
section RD2
variable {h : mm_H} {Q : Option Value → mm_H → Prop} {T : zT}
theorem cT_r {h h' : mm_H} {T : zT} (H : cT h T.1 T.2) (f : fx h h' gR []) : cT h' T.1 T.2 := H.fx f (by decide) (by decide)
set_option maxHeartbeats 1000000 in
theorem c_scanName (sh : s_h h) (H : cT h T.1 T.2) {s : Nat} (hl : tLt T s) (e0 : h_oi h 257 19 = 0) (e1 : h_oi h 261 19 = nI s) (e2 : h_oi h 262 19 = nI s) (k : ∀ h', fx h h' gR [] → dn h h' → cTok h' (zTs T s) → Q none h') : w_c 22 40 [.ref 19, .ref 17] h Q := by
  have hT := H.1
  have hs := hl.1
  have names : ∀ e, rn (tLt T) s e → e ≤ T.1 → ∀ w i, i + w = 5 → ∀ h1, fx h h1 gR [] → dn h h1 → h_oi h1 257 19 = 0 → h_oi h1 259 19 = 1 → h_oi h1 261 19 = nI s → h_oi h1 262 19 = nI e → ((∀ k, k < i → ¬ zSp T s e k) ∧ h_oi h1 260 19 = -4 ∨ ∃ k, k < i ∧ zSp T s e k ∧ h_oi h1 260 19 = nI k) → w_p 22 (4, 3, mc_X4_scanName) 48 [(0, .ref 19), (1, .ref 17), (2, .int (nI i))] [] h1 Q := by
    intro e he heT w
    induction w with
    | zero =>
      intro i hi h1 f d a0 a1 a2 a3 a4
      have sh1 := f.sh sh (by decide)
      have e5 : i = 5 := by omega
      subst e5
      refine t_X4_scanName_48 sh1 _ (K48 := fun _ _ => False) (fun _ _ z => z.elim) ⟨fun _ => ⟨fun z => ?_, fun z => ?_⟩, fun z => absurd (show (5 : Int32) ≤ nI 5 from (i_le (a := 5) (b := 5) (by decide) (by decide)).mpr (Nat.le_refl _)) z⟩
      · rcases a4 with ⟨_, y⟩ | ⟨j, hj, hsp, y⟩
        · exact absurd y z
        · refine k h1 f d ?_
          rw [zTs_nm hl he (zNm_s hj hsp)]
          exact Or.inl ⟨Nat.le_of_ble_eq_true rfl, a0, a1, a2, a3, fun _ => y⟩
      · rcases a4 with ⟨hn, _⟩ | ⟨j, hj, hsp, y⟩
        · have f2 : fx h (h_sI (h_sI h1 257 19 1) 258 19 (h_oi h1 261 19)) gR [] := (f.sI _ (Or.inl (by decide))).sI _ (Or.inl (by decide))
          refine (c_fail sh1 ⟨rfl, f2.sh sh (by decide), ?_⟩).up (by decide)
          refine k _ f2 ((d.sI _ (by decide)).sI _ (by decide)) ?_
          rw [zTs_bn hl he (zNm_n hn)]
          refine Or.inr ⟨rfl, (oi_neG (by decide) _).trans (oi_self _ _ _ _), ?_⟩
          rw [oi_self, a2]
        · rw [y] at z
          exact absurd z (nI_neN j (by omega))
    | succ w ih =>
      intro i hi h1 f d a0 a1 a2 a3 a4
      have sh1 := f.sh sh (by decide)
      refine t_X4_scanName_48 sh1 _ (K48 := fun y1 hh => y1 = nI (i + 1) ∧ fx h hh gR [] ∧ dn h hh ∧ h_oi hh 257 19 = 0 ∧ h_oi hh 259 19 = 1 ∧ h_oi hh 261 19 = nI s ∧ h_oi hh 262 19 = nI e ∧ ((∀ k, k < i + 1 → ¬ zSp T s e k) ∧ h_oi hh 260 19 = -4 ∨ ∃ k, k < i + 1 ∧ zSp T s e k ∧ h_oi hh 260 19 = nI k)) (fun y1 hh z => ?_) ⟨fun z => ?_, fun _ => ?_⟩
      · obtain ⟨rfl, q1, q2, q3, q4, q5, q6, q7⟩ := z
        exact ih (i + 1) (by omega) hh q1 q2 q3 q4 q5 q6 q7
      · have := (i_le (a := 5) (by decide) (by omega)).mp z
        omega
      · refine (c_nameOf sh1 (by omega) ⟨_, rfl, sh1, ?_⟩).up (by decide)
        rw [a2, a3]
        refine c_spells sh1 (cT_r H f) he.1 heT (by omega) (fun hn => ⟨_, rfl, sh1, fun _ => ⟨nI_1 i, f, d, a0, a1, a2, a3, ?_⟩, fun z => absurd rfl z⟩) (fun hy => ⟨_, rfl, sh1, fun z => absurd z (by decide), fun _ => ⟨nI_1 i, f.sI _ (Or.inl (by decide)), d.sI _ (by decide), (oi_neG (by decide) _).trans a0, (oi_neG (by decide) _).trans a1, (oi_neG (by decide) _).trans a2, (oi_neG (by decide) _).trans a3, Or.inr ⟨i, by omega, hy, oi_self _ _ _ _⟩⟩⟩)
        rcases a4 with ⟨y1, y2⟩ | ⟨j, hj, hsp, y⟩
        · refine Or.inl ⟨fun j hj => ?_, y2⟩
          by_cases z : j = i
          · rw [z]; exact hn
          · exact y1 j (by omega)
        · exact Or.inr ⟨j, by omega, hsp, y⟩
  have loop : ∀ w i, i + w = T.1 → s ≤ i → (∀ j, s ≤ j → j < i → tLt T j) → ∀ h1, fx h h1 gR [] → dn h h1 → h_oi h1 257 19 = 0 → h_oi h1 261 19 = nI s → h_oi h1 262 19 = nI i → w_p 22 (4, 3, mc_X4_scanName) 0 [(0, .ref 19), (1, .ref 17)] [] h1 Q := by
    intro w
    have go48 : ∀ e, rn (tLt T) s e → e ≤ T.1 → ∀ h1, fx h h1 gR [] → dn h h1 → h_oi h1 257 19 = 0 → h_oi h1 261 19 = nI s → h_oi h1 262 19 = nI e → w_p 22 (4, 3, mc_X4_scanName) 48 [(0, .ref 19), (1, .ref 17), (2, .int (nI 0))] [] (h_sI (h_sI h1 259 19 1) 260 19 (-4)) Q := by
      intro e he heT h1 f d a0 a1 a2
      exact names e he heT 5 0 (by omega) _ ((f.sI _ (Or.inl (by decide))).sI _ (Or.inl (by decide))) ((d.sI _ (by decide)).sI _ (by decide)) ((oi_neG (by decide) _).trans ((oi_neG (by decide) _).trans a0)) ((oi_neG (by decide) _).trans (oi_self _ _ _ _)) ((oi_neG (by decide) _).trans ((oi_neG (by decide) _).trans a1)) ((oi_neG (by decide) _).trans ((oi_neG (by decide) _).trans a2)) (Or.inl ⟨fun j hj => absurd hj (Nat.not_lt_zero _), oi_self _ _ _ _⟩)
    induction w with
    | zero =>
      intro i hi hni hq h1 f d a0 a1 a2
      have H1 := (cT_r H f)
      refine t_X4_scanName_L (f.sh sh (by decide)) (K0 := fun _ => False) (fun _ z => z.elim) (K48 := fun y hh => y = nI 0 ∧ hh = h_sI (h_sI h1 259 19 1) 260 19 (-4)) (fun y hh z => ?_) ⟨fun _ => ⟨rfl, rfl⟩, fun z => absurd ?_ z⟩
      · obtain ⟨rfl, rfl⟩ := z
        exact go48 i ⟨hni, hq, fun y => by have := y.1; omega⟩ (by omega) h1 f d a0 a1 a2
      · rw [H1.2.1, a2, i_le (by omega) (by omega)]; omega
    | succ w ih =>
      intro i hi hni hq h1 f d a0 a1 a2
      have sh1 := f.sh sh (by decide)
      have H1 := (cT_r H f)
      refine t_X4_scanName_L sh1 (K0 := fun hh => tLt T i ∧ hh = h_sI h1 262 19 (nI (i + 1))) (fun hh z => ?_) (K48 := fun y hh => ¬ tLt T i ∧ y = nI 0 ∧ hh = h_sI (h_sI h1 259 19 1) 260 19 (-4)) (fun y hh z => ?_) ⟨fun z => ?_, fun _ => ?_⟩
      · obtain ⟨q, rfl⟩ := z
        refine ih (i + 1) (by omega) (by omega) (fun j h1 h2 => ?_) _ (f.sI _ (Or.inl (by decide))) (d.sI _ (by decide)) ((oi_neG (by decide) _).trans a0) ((oi_neG (by decide) _).trans a1) (oi_self _ _ _ _)
        by_cases y : j = i
        · rw [y]; exact q
        · exact hq j h1 (by omega)
      · obtain ⟨q, rfl, rfl⟩ := z
        exact go48 i ⟨hni, hq, q⟩ (by omega) h1 f d a0 a1 a2
      · rw [H1.2.1, a2, i_le (by omega) (by omega)] at z; omega
      · rw [a2]
        exact (c_lt sh1 H1 (by omega) (fun c => ⟨_, rfl, sh1, fun _ => ⟨c, rfl, rfl⟩, fun z => absurd rfl z⟩) (fun c => ⟨_, rfl, sh1, fun z => absurd z (by decide), fun _ => ⟨c, by rw [a2, nI_1]⟩⟩)).up (by decide)
  refine w_ci (M := (4, 3, mc_X4_scanName)) rfl (Nat.le_of_ble_eq_true rfl) ?_
  exact loop (T.1 - s) s (by omega) (Nat.le_refl _) (fun j h1 h2 => by omega) h (fx.rf _ _ _) (dn.rf _) e0 e1 e2
theorem zNum_le {T : zT} {s : Nat} : ∀ j, (∀ i, i < j → T.2 (s + i) ≤ 57) → zNum T s j ≤ 9999 ∧ (j ≤ 1 → zNum T s j ≤ 9) ∧ (j ≤ 2 → zNum T s j ≤ 99) ∧ (j ≤ 3 → zNum T s j ≤ 999)
  | 0, _ => ⟨Nat.zero_le _, fun _ => Nat.zero_le _, fun _ => Nat.zero_le _, fun _ => Nat.zero_le _⟩
  | j + 1, h => by
    obtain ⟨a1, a2, a3, a4⟩ := zNum_le j (fun i hi => h i (by omega))
    have hb := h j (by omega)
    have e : zNum T s (j + 1) = if j < 4 then 10 * zNum T s j + (T.2 (s + j) - 48) else zNum T s j := rfl
    have a5 : j = 0 → zNum T s j = 0 := fun y => by rw [y]; rfl
    rw [e]
    by_cases z : j < 4
    · rw [if_pos z]
      have : j = 0 ∨ j = 1 ∨ j = 2 ∨ j = 3 := by omega
      rcases this with y | y | y | y
      · have := a5 y
        exact ⟨by omega, fun _ => by omega, fun _ => by omega, fun _ => by omega⟩
      · have := a2 (by omega)
        exact ⟨by omega, fun _ => by omega, fun _ => by omega, fun _ => by omega⟩
      · have := a3 (by omega)
        exact ⟨by omega, fun _ => by omega, fun _ => by omega, fun _ => by omega⟩
      · have := a4 (by omega)
        exact ⟨by omega, fun _ => by omega, fun _ => by omega, fun _ => by omega⟩
    · rw [if_neg z]
      exact ⟨a1, fun _ => by omega, fun _ => by omega, fun _ => by omega⟩
set_option maxHeartbeats 1000000 in
theorem c_scanNum (sh : s_h h) (H : cT h T.1 T.2) {s : Nat} (hl : tFg T s) (e0 : h_oi h 257 19 = 0) (e1 : h_oi h 261 19 = nI s) (e2 : h_oi h 262 19 = nI s) (k : ∀ h', fx h h' gR [] → dn h h' → cTok h' (zTs T s) → Q none h') : w_c 2 42 [.ref 19, .ref 17] h Q := by
  have hT := H.1
  have hs := hl.1
  have fin : ∀ e, rn (tFg T) s e → e ≤ T.1 → ∀ h1, fx h h1 gR [] → dn h h1 → h_oi h1 257 19 = 0 → h_oi h1 259 19 = 2 → h_oi h1 261 19 = nI s → h_oi h1 262 19 = nI e → h_oi h1 260 19 = nI (zNum T s (e - s)) → (((nI e - nI s) ≤ 4 → Q none h1) ∧ (¬ ((nI e - nI s) ≤ 4) → w_c 0 37 [.ref 19, .int 1] h1 (fun r h3 => r = none ∧ s_h h3 ∧ Q none h3))) := by
    intro e he heT h1 f d a0 a1 a2 a3 a4
    have sh1 := f.sh sh (by decide)
    have hse := he.1
    rw [nI_sub hse]
    refine ⟨fun z => ?_, fun z => ?_⟩
    · have z := (i_le (b := 4) (by omega) (by decide)).mp z
      refine k h1 f d ?_
      rw [zTs_nu hl he z]
      exact Or.inl ⟨Nat.le_of_ble_eq_true rfl, a0, a1, a2, a3, fun _ => a4⟩
    · have z : ¬ e - s ≤ 4 := fun y => z ((i_le (b := 4) (by omega) (by decide)).mpr y)
      have f2 : fx h (h_sI (h_sI h1 257 19 1) 258 19 (h_oi h1 261 19)) gR [] := (f.sI _ (Or.inl (by decide))).sI _ (Or.inl (by decide))
      refine c_fail sh1 ⟨rfl, f2.sh sh (by decide), k _ f2 ((d.sI _ (by decide)).sI _ (by decide)) ?_⟩
      rw [zTs_bu hl he z]
      refine Or.inr ⟨rfl, (oi_neG (by decide) _).trans (oi_self _ _ _ _), ?_⟩
      rw [oi_self, a2]
  have loop : ∀ w i, s + i + w = T.1 → (∀ j, s ≤ j → j < s + i → tFg T j) → ∀ h1, fx h h1 gR [] → dn h h1 → h_oi h1 257 19 = 0 → h_oi h1 259 19 = 2 → h_oi h1 261 19 = nI s → h_oi h1 262 19 = nI (s + i) → h_oi h1 260 19 = nI (zNum T s i) → w_p 2 (4, 2, mc_X4_scanNumber) 10 [(0, .ref 19), (1, .ref 17)] [] h1 Q := by
    intro w
    induction w with
    | zero =>
      intro i hi hq h1 f d a0 a1 a2 a3 a4
      have H1 := (cT_r H f)
      have F := fin (s + i) ⟨by omega, hq, fun y => by have := y.1; omega⟩ (by omega) h1 f d a0 a1 a2 a3 (by rw [Nat.add_sub_cancel_left]; exact a4)
      refine t_X4_scanNumber_10 (f.sh sh (by decide)) (K10 := fun _ => False) (fun _ z => z.elim) ⟨fun _ => ?_, fun z => absurd ?_ z⟩
      · rw [a2, a3]; exact ⟨F.1, fun z => (F.2 z).up (by decide)⟩
      · rw [H1.2.1, a3, i_le (by omega) (by omega)]; omega
    | succ w ih =>
      intro i hi hq h1 f d a0 a1 a2 a3 a4
      have sh1 := f.sh sh (by decide)
      have H1 := (cT_r H f)
      refine t_X4_scanNumber_10 sh1 (K10 := fun hh => tFg T (s + i) ∧ fx h hh gR [] ∧ dn h hh ∧ h_oi hh 257 19 = 0 ∧ h_oi hh 259 19 = 2 ∧ h_oi hh 261 19 = nI s ∧ h_oi hh 262 19 = nI (s + i + 1) ∧ h_oi hh 260 19 = nI (zNum T s (i + 1))) (fun hh z => ?_) ⟨fun z => ?_, fun _ => ?_⟩
      · obtain ⟨q, q1, q2, q3, q4, q5, q6, q7⟩ := z
        refine ih (i + 1) (by omega) (fun j h1 h2 => ?_) hh q1 q2 q3 q4 q5 q6 q7
        by_cases y : j = s + i
        · rw [y]; exact q
        · exact hq j h1 (by omega)
      · rw [H1.2.1, a3, i_le (by omega) (by omega)] at z; omega
      · rw [a3]
        refine (c_fg sh1 H1 (by omega) (fun c => ⟨_, rfl, sh1, fun _ => ?_, fun z => absurd rfl z⟩) (fun c => ⟨_, rfl, sh1, fun z => absurd z (by decide), fun _ => ?_⟩)).up (by decide)
        · have F := fin (s + i) ⟨by omega, hq, c⟩ (by omega) h1 f d a0 a1 a2 a3 (by rw [Nat.add_sub_cancel_left]; exact a4)
          rw [a2, a3]; exact ⟨F.1, fun z => (F.2 z).up (by decide)⟩
        · rw [a2, a3, nI_sub (by omega), Nat.add_sub_cancel_left, nI_1]
          have ez : zNum T s (i + 1) = if i < 4 then 10 * zNum T s i + (T.2 (s + i) - 48) else zNum T s i := rfl
          refine ⟨fun z => ?_, fun z => ?_⟩
          · have z := (i_le (a := 4) (by decide) (by omega)).mp z
            rw [if_neg (by omega)] at ez
            exact ⟨c, f.sI _ (Or.inl (by decide)), d.sI _ (by decide), (oi_neG (by decide) _).trans a0, (oi_neG (by decide) _).trans a1, (oi_neG (by decide) _).trans a2, oi_self _ _ _ _, by rw [oi_neG (by decide), a4, ez]⟩
          · have z : ¬ 4 ≤ i := fun y => z ((i_le (a := 4) (by decide) (by omega)).mpr y)
            rw [if_pos (by omega)] at ez
            refine (c_atI sh1 H1 (by omega) (fun hb => ⟨_, rfl, sh1, ?_⟩)).up (by decide)
            have hb2 := c.2
            have esx : (nI (T.2 (s + i))).toInt8.toInt32 = nI (T.2 (s + i)) := (sx_c hb (by omega)).1.mpr rfl
            have ev : h_oi h1 260 19 * 10 + (nI (T.2 (s + i))).toInt8.toInt32 - 48 = nI (zNum T s (i + 1)) := by
              rw [a4, esx, show (10 : Int32) = nI 10 from rfl, pk_mul, nI_add, show (48 : Int32) = nI 48 from rfl, nI_sub (by omega), ez]
              congr 1
              omega
            rw [a3, nI_1, ev]
            exact ⟨c, (f.sI _ (Or.inl (by decide))).sI _ (Or.inl (by decide)), (d.sI _ (by decide)).sI _ (by decide), (oi_neG (by decide) _).trans ((oi_neG (by decide) _).trans a0), (oi_neG (by decide) _).trans ((oi_neG (by decide) _).trans a1), (oi_neG (by decide) _).trans ((oi_neG (by decide) _).trans a2), oi_self _ _ _ _, (oi_neG (by decide) _).trans (oi_self _ _ _ _)⟩
  refine t_X4_scanNumber_0 sh (K10 := fun hh => hh = h_sI (h_sI h 259 19 2) 260 19 0) (fun hh z => ?_) rfl
  subst z
  exact loop (T.1 - s) 0 (by omega) (fun j h1 h2 => by omega) _ (((fx.rf _ _ _).sI _ (Or.inl (by decide))).sI _ (Or.inl (by decide))) (((dn.rf _).sI _ (by decide)).sI _ (by decide)) ((oi_neG (by decide) _).trans ((oi_neG (by decide) _).trans e0)) ((oi_neG (by decide) _).trans (oi_self _ _ _ _)) ((oi_neG (by decide) _).trans ((oi_neG (by decide) _).trans e1)) ((oi_neG (by decide) _).trans ((oi_neG (by decide) _).trans e2)) (oi_self _ _ _ _)
set_option maxHeartbeats 1000000 in
theorem c_scan (sh : s_h h) (H : cT h T.1 T.2) {n : Nat} (hn : n ≤ T.1) (e0 : h_oi h 257 19 = 0) (e2 : h_oi h 262 19 = nI n) (k : ∀ h', fx h h' gR [] → dn h h' → cTok h' (zTk T n) → Q none h') : w_c 23 38 [.ref 19, .ref 17] h Q := by
  have hT := H.1
  refine t_X4_scan_0 sh ((c_skip sh H hn e2 (fun s h1 hr hsT f d a2 => ⟨rfl, f.sh sh (by decide), ?_⟩)).up (by decide))
  have ek : zTk T n = zTs T s := by unfold zTk; rw [zEn_eq hr]
  rw [ek] at k
  have sh1 := f.sh sh (by decide)
  have a0 : h_oi h1 257 19 = 0 := (f.oi _ _ (by decide) (by decide)).trans e0
  have H1 : cT h1 T.1 T.2 := H.fx f (by decide) (by decide)
  have f2 : fx h (h_sI h1 261 19 (nI s)) gR [] := (f.wk (by decide) (by decide)).sI _ (Or.inl (by decide))
  have d2 : dn h (h_sI h1 261 19 (nI s)) := d.sI _ (by decide)
  rw [a2, H1.2.1, i_lt (by omega) (by omega)]
  refine ⟨fun c => ?_, fun c => ?_⟩
  · have sh2 := f2.sh sh (by decide)
    have H2 : cT (h_sI h1 261 19 (nI s)) T.1 T.2 := (cT_r H f2)
    have b0 : h_oi (h_sI h1 261 19 (nI s)) 257 19 = 0 := (oi_neG (by decide) _).trans a0
    have b1 : h_oi (h_sI h1 261 19 (nI s)) 261 19 = nI s := oi_self _ _ _ _
    have b2 : h_oi (h_sI h1 261 19 (nI s)) 262 19 = nI s := (oi_neG (by decide) _).trans a2
    generalize (h_sI h1 261 19 (nI s)) = h2 at f2 d2 sh2 H2 b0 b1 b2 ⊢
    refine (c_lt sh2 H2 c (fun c1 => ⟨_, rfl, sh2, fun _ => ?_, fun z => absurd rfl z⟩) (fun c1 => ⟨_, rfl, sh2, fun z => absurd z (by decide), fun _ => ?_⟩)).up (by decide)
    · rw [b1]
      refine (c_fg sh2 H2 c (fun c2 => ⟨_, rfl, sh2, fun _ => ?_, fun z => absurd rfl z⟩) (fun c2 => ⟨_, rfl, sh2, fun z => absurd z (by decide), fun _ => ?_⟩)).up (by decide)
      · rw [b1]
        refine (c_atI sh2 H2 c (fun hb => ⟨_, rfl, sh2, ?_⟩)).up (by decide)
        have e59 := (sx_c (c := 59) hb (by decide)).1
        refine ⟨fun z => ?_, fun z => ?_⟩
        · have z : ¬ T.2 s = 59 := fun y => z (e59.mpr y)
          have f3 : fx h (h_sI (h_sI h2 257 19 1) 258 19 (h_oi h2 261 19)) gR [] := (f2.sI _ (Or.inl (by decide))).sI _ (Or.inl (by decide))
          refine (c_fail sh2 ⟨rfl, f3.sh sh (by decide), k _ f3 ((d2.sI _ (by decide)).sI _ (by decide)) ?_⟩).up (by decide)
          rw [zTs_ba c c1 c2 z]
          refine Or.inr ⟨rfl, (oi_neG (by decide) _).trans (oi_self _ _ _ _), ?_⟩
          rw [oi_self, b1]
        · have z := e59.mp z
          rw [b1, nI_1]
          refine k _ ((f2.sI _ (Or.inl (by decide))).sI _ (Or.inl (by decide))) ((d2.sI _ (by decide)).sI _ (by decide)) ?_
          rw [zTs_se c z]
          exact Or.inl ⟨Nat.le_of_ble_eq_true rfl, (oi_neG (by decide) _).trans ((oi_neG (by decide) _).trans b0), (oi_neG (by decide) _).trans (oi_self _ _ _ _), (oi_neG (by decide) _).trans ((oi_neG (by decide) _).trans b1), oi_self _ _ _ _, fun y => by rcases y with y | y <;> cases y⟩
      · exact (c_scanNum sh2 H2 c2 b0 b1 b2 (fun h' f' d' t' => ⟨rfl, f'.sh sh2 (by decide), k h' (f2.tr f' (by decide) (by decide) (by decide) (by decide)) (d2.tr d') t'⟩)).up (by decide)
    · exact c_scanName sh2 H2 c1 b0 b1 b2 (fun h' f' d' t' => ⟨rfl, f'.sh sh2 (by decide), k h' (f2.tr f' (by decide) (by decide) (by decide) (by decide)) (d2.tr d') t'⟩)
  · refine k _ (f2.sI _ (Or.inl (by decide))) (d2.sI _ (by decide)) ?_
    rw [zTs_end (by omega)]
    exact Or.inl ⟨Nat.le_of_ble_eq_true rfl, (oi_neG (by decide) _).trans ((oi_neG (by decide) _).trans a0), oi_self _ _ _ _, (oi_neG (by decide) _).trans (oi_self _ _ _ _), (oi_neG (by decide) _).trans ((oi_neG (by decide) _).trans a2), fun y => by rcases y with y | y <;> cases y⟩
end RD2
