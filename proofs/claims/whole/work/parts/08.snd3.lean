theorem ms_nref {ty : FieldType} (h : ty.isReference = true) (r : Option Nat) : narrow ty (va_rf r) = va_rf r ∧ fits ty (va_rf r) = true := by
  cases ty <;> first | (cases h; done) | (cases r <;> exact ⟨rfl, rfl⟩)
theorem ms_nint (x : Int32) : narrow .int (.int x) = .int x ∧ fits .int (.int x) = true := ⟨vp_nar_int x, rfl⟩
theorem ms_outer (c : ClassId) (N h0 : Nat) : ∀ i : Nat, Jvm.Free.Multi.outerC c N h0 i = arrV c N (fun j => va_rf (if j < i then some (h0 + 1 + j) else none))
  | 0 => by
    show ({ cls := c, slots := Array.replicate N .null, vm := .none } : Cell) = _
    rw [arrV_new]
    refine congrArg (arrV c N) (funext fun j => ?_)
    simp [va_rf]
  | i + 1 => by
    show (Jvm.Free.Multi.outerC c N h0 i).setSlot i (.ref (h0 + 1 + i)) = _
    rw [ms_outer c N h0 i, arrV_store]
    refine congrArg (arrV c N) (funext fun j => ?_)
    by_cases e : j = i
    · subst e
      simp [updV, va_rf]
    · by_cases h : j < i
      · simp [updV, e, h, Nat.lt_succ_of_lt h]
      · simp [updV, e, h, show ¬ j < i + 1 by omega]
theorem ms_P.nM {G : ms_G} (hsp : ms_sp G) {h : mm_H} {H H' : Heap} (hP : ms_P G h H) {N K : Nat} (hz : H'.size = H.size + 1 + N) (ho : ∀ x : Nat, x < H.size → H'[x]? = H[x]?)
    (hout : H'[H.size]? = some (arrV (g_cA G 25) N (fun j => va_rf (if j < N then some (H.size + 1 + j) else none)))) (hrow : ∀ j : Nat, j < N → H'[H.size + 1 + j]? = some (arrV (g_cA G 20) K (fun _ => .int 0))) : ms_P G (h_nM h N K) H' := by
  have hl := fun a ha => ms_tr_lt (a := a) hsp hP ha
  have hn := ms_tr_n hP
  have hk0 := fun a => ms_lt_n (a := a) hP
  obtain ⟨p1, p2, p3, p4, p5, p6, p7⟩ := hP
  have kdn : ∀ a, ¬ (h_n h ≤ a ∧ a ≤ h_n h + N) → h_kd (h_nM h N K) a = h_kd h a := fun a e => by
    show (if a = h_n h then 25 else if h_n h < a ∧ a ≤ h_n h + N then 20 else h_kd h a) = _
    rw [if_neg (by omega), if_neg (by omega)]
  have aln : ∀ a, ¬ (h_n h ≤ a ∧ a ≤ h_n h + N) → h_al (h_nM h N K) a = h_al h a := fun a e => by
    show (if a = h_n h then N else if h_n h < a ∧ a ≤ h_n h + N then K else h_al h a) = _
    rw [if_neg (by omega), if_neg (by omega)]
  have ain : ∀ a, ¬ (h_n h < a ∧ a ≤ h_n h + N) → h_ai (h_nM h N K) a = h_ai h a := fun a e => by
    show (if h_n h < a ∧ a ≤ h_n h + N then (fun _ => 0) else h_ai h a) = _
    rw [if_neg e]
  have arn : ∀ a, a ≠ h_n h → h_ar (h_nM h N K) a = h_ar h a := fun a e => va_up_ne _ _ e
  have kds : h_kd (h_nM h N K) (h_n h) = 25 := if_pos rfl
  have kdi : ∀ a, h_n h < a → a ≤ h_n h + N → h_kd (h_nM h N K) a = 20 := fun a e1 e2 => by
    show (if a = h_n h then 25 else if h_n h < a ∧ a ≤ h_n h + N then 20 else h_kd h a) = _
    rw [if_neg (by omega), if_pos ⟨e1, e2⟩]
  have als : h_al (h_nM h N K) (h_n h) = N := if_pos rfl
  have ali : ∀ a, h_n h < a → a ≤ h_n h + N → h_al (h_nM h N K) a = K := fun a e1 e2 => by
    show (if a = h_n h then N else if h_n h < a ∧ a ≤ h_n h + N then K else h_al h a) = _
    rw [if_neg (by omega), if_pos ⟨e1, e2⟩]
  have aii : ∀ a, h_n h < a → a ≤ h_n h + N → h_ai (h_nM h N K) a = fun _ => 0 := fun a e1 e2 => if_pos ⟨e1, e2⟩
  have ars : h_ar (h_nM h N K) (h_n h) = fun i => if i < N then some (h_n h + 1 + i) else none := va_up_self _ _ _
  refine ⟨?_, ?_, fun a h1 => ?_, fun a h1 => ?_, fun a c r h1 h2 h3 => ?_, fun a h1 h2 h3 => ?_, fun a h1 h2 h3 => ?_⟩
  · show H'.size = _ + (h_n h + 1 + N - 16)
    omega
  · show 16 ≤ h_n h + 1 + N
    omega
  · have h1 : h_n h + 1 + N ≤ a := h1
    rw [kdn a (by omega)]
    exact p3 a (by omega)
  · rw [kdn a (by omega), aln a (by omega), ain a (by omega)]
    exact p4 a h1
  · have h10 := ms_N c r h3
    have e : ¬ (h_n h ≤ a ∧ a ≤ h_n h + N) := fun z => by
      by_cases z1 : a = h_n h
      · subst z1
        rw [kds] at h2
        omega
      · rw [kdi a (by omega) z.2] at h2
        omega
    rw [kdn a e] at h2
    exact (p5 a c r h1 h2 h3).kept (ho _ (hl a (hk0 a (by omega))))
  · by_cases e : h_n h < a ∧ a ≤ h_n h + N
    · rw [kdi a e.1 e.2, ali a e.1 e.2, aii a e.1 e.2, ms_tr_hi h1, show g_b G + (a - 16) = H.size + 1 + (a - h_n h - 1) by omega]
      exact hrow _ (by omega)
    · have e1 : a ≠ h_n h := fun z => by
        subst z
        rw [kds] at h3
        omega
      have e2 : ¬ (h_n h ≤ a ∧ a ≤ h_n h + N) := by omega
      rw [kdn a e2] at h2 h3 ⊢
      rw [aln a e2, ain a e, ho _ (hl a (hk0 a (by omega)))]
      exact p6 a h1 h2 h3
  · by_cases e : a = h_n h
    · subst e
      rw [kds, als, ars, hn, hout]
      congr 2
      funext j
      rw [ms_vt_rf]
      congr 1
      dsimp only
      by_cases z : j < N
      · rw [if_pos z, if_pos z]
        show some _ = some (ms_tr G (h_n h + 1 + j))
        rw [ms_tr_hi (by omega)]
        congr 1
        omega
      · rw [if_neg z, if_neg z]
        rfl
    · have e2 : ¬ (h_n h ≤ a ∧ a ≤ h_n h + N) := fun z => by
        rw [kdi a (by omega) z.2] at h2
        omega
      rw [kdn a e2] at h2 h3 ⊢
      rw [aln a e2, arn a e, ho _ (hl a (hk0 a (by omega)))]
      exact p7 a h1 h2 h3
section MS4
variable {G : ms_G} {p : Program} {l : Launch} {e : Env} {R : Room} {s : State} {m : MethodId} {args : Array Value} {below : List Frame} {meth : Method} {c : Code} {H : Heap} {locs : List Loc} {cells slots : Nat} {Q : State → Prop} {cc : ByteArray} {nL pc : Nat} {own : String} {ini : Bool} {ls : Array Slot} {en : mm_E} {lo : mm_L} {st : List Value} {h : mm_H} {s' : mm_S}
theorem ms_putf (C : ms_C G p s m args c cc nL own) (hP : ms_P G h H) (hS : va_S (ms_A G) s.heap H locs) {a ci k idx : Nat} {q : vw_C} {rest : List Value} (hhi : 16 ≤ a) (hk : h_kd h a = ci + 1) (hc : vwCl[ci]? = some q) (hkN : k < q.2.2) (hd : decode cc pc = .ok (.putfield idx, 3))
    (hlink : ((Cond.fieldLink own idx (q.2.1 k).1 (q.2.1 k).2.1 (q.2.1 k).2.2.1).before args s = true ∧ ((q.2.1 k).2.2.2 = false ∨ (meth.name = "<init>" ∧ (q.2.1 k).1 = own))) ∨ ((Cond.fieldLinkNest own idx (q.2.1 k).1 (q.2.1 k).2.1 (q.2.1 k).2.2.1 "SitterCircle").before args s = true ∧ (q.2.1 k).2.2.2 = false))
    {v : Value} (hn : narrow (ms_fty ci k) v = v) (hfit : fits (ms_fty ci k) v = true)
    (kk : ∀ (H' : Heap) (locs' : List Loc), t_OB (ms_tr G a) (g_dC G ci) q.2.2 (g_dI G ci) H' (updV (fun j => ms_vt G (mm_fv h ci j a)) k v) → H'.size = H.size → (∀ x : Nat, x ≠ ms_tr G a → H'[x]? = H[x]?) → va_S (ms_A G) s.heap H' locs' → W p l e R s m args below meth c H' locs' cells slots Q (F0 m (pc + 3) ls rest)) :
    W p l e R s m args below meth c H locs cells slots Q (F0 m pc ls (v :: .ref (ms_tr G a) :: rest)) := by
  obtain ⟨hx, hb, hml, hown, -, hF⟩ := id C
  have hts := ms_hts C
  have hin := ms_lay ci q hc
  have hty := ms_tyok ci q hc
  have hnm := ms_nmok ci q hc
  obtain ⟨Cn, Tn, Nn⟩ := q
  have hap := va_apart (own := own) hts hin (ms_fty ci) hty hnm hF.1 hc
  obtain ⟨cell, q1, q2, q3, q4⟩ := hP.2.2.2.2.1 a ci _ hhi hk hc
  obtain ⟨hSl, hfc, kC, hkC, hkind⟩ := hF.1.1 ci _ hc
  obtain ⟨cf, kf, fi, f, hi, hsl⟩ := hSl k hkN
  have hlay := hts _ (hin _ (u_in_lay hkN))
  unfold u_lay at hlay
  have hst := (u_facts hfc hkC (u_lays hts hin hkN) hi).1
  have hA := ms_tr_A (G := G) hhi
  rcases hlink with ⟨hlink, hfin | ⟨hin2, hdecl⟩⟩ | ⟨hlink, hfin⟩
  · rw [if_neg (by rw [hfin]; decide)] at hlay
    have h6 := u_store hfc hkC hkind hlay hi (hty k hkN) hn hfit
    refine W.putK hx hb (f := f) ⟨hown, hlink, ⟨_, _, _, hi⟩, hst⟩ (by rw [q2]; exact h6) q1 q3 (by rw [hsl]; exact k2_hasslot (q4 k hkN)) rfl rfl hd fun H' e1 e2 e3 => ?_
    rw [hsl] at e1 ⊢
    exact kk H' _ ⟨_, e1, q2, q3, t_set q4 hap hkN v⟩ e2 e3 (hS.put e2 e3 hA)
  · by_cases hfin : (Tn k).2.2.2 = true
    · rw [if_pos hfin] at hlay
      have hcf : m.cls = cf := by
        obtain ⟨_, _, c', _, _, _, -, -, hf', -, -, -, hown2, -⟩ := Cond.laysFinal_spec hlay
        have e1 : c' = cf := by have := hi.symm.trans hf'; simp at this; exact this.1.symm
        rw [hdecl] at hown2
        rw [← e1]; exact Option.some.inj (hown.symm.trans hown2)
      have h6 := u_fits hfc hkC hkind (Or.inr hlay) hi (hty k hkN) hn hfit
      refine W.putFinK hx hb hown hlink hi hst hcf hin2 (by rw [q2]; exact h6) q1 q3 (by rw [hsl]; exact k2_hasslot (q4 k hkN)) rfl rfl hd fun H' e1 e2 e3 => ?_
      rw [hsl] at e1 ⊢
      exact kk H' _ ⟨_, e1, q2, q3, t_set q4 hap hkN v⟩ e2 e3 (hS.put e2 e3 hA)
    · rw [if_neg hfin] at hlay
      have h6 := u_store hfc hkC hkind hlay hi (hty k hkN) hn hfit
      refine W.putK hx hb (f := f) ⟨hown, hlink, ⟨_, _, _, hi⟩, hst⟩ (by rw [q2]; exact h6) q1 q3 (by rw [hsl]; exact k2_hasslot (q4 k hkN)) rfl rfl hd fun H' e1 e2 e3 => ?_
      rw [hsl] at e1 ⊢
      exact kk H' _ ⟨_, e1, q2, q3, t_set q4 hap hkN v⟩ e2 e3 (hS.put e2 e3 hA)
  · rw [if_neg (by rw [hfin]; decide)] at hlay
    have h6 := u_store hfc hkC hkind hlay hi (hty k hkN) hn hfit
    refine va_WputK hx hb (f := f) hown hlink hi hst (by rw [q2]; exact h6) q1 q3 (by rw [hsl]; exact k2_hasslot (q4 k hkN)) rfl rfl hd fun H' e1 e2 e3 => ?_
    rw [hsl] at e1 ⊢
    exact kk H' _ ⟨_, e1, q2, q3, t_set q4 hap hkN v⟩ e2 e3 (hS.put e2 e3 hA)
theorem ms_okF_of {i ci k : Nat} (C : ms_C G p s m args c cc nL own) (h1 : ms_okF own i ci k = true) : ∃ q, vwCl[ci]? = some q ∧ k < q.2.2 ∧ ((Cond.fieldLink own i (q.2.1 k).1 (q.2.1 k).2.1 (q.2.1 k).2.2.1).before args s = true ∨ (Cond.fieldLinkNest own i (q.2.1 k).1 (q.2.1 k).2.1 (q.2.1 k).2.2.1 "SitterCircle").before args s = true) := by
  unfold ms_okF at h1
  split at h1
  · rename_i q hc
    rw [Bool.and_eq_true, Bool.or_eq_true] at h1
    refine ⟨q, hc, of_decide_eq_true h1.1, ?_⟩
    rcases h1.2 with z | z
    · exact Or.inl (ms_gd C z)
    · exact Or.inr (va_Nw.use rfl (ms_nd C z))
  · cases h1
theorem ms_okP_of {i ci k : Nat} (C : ms_C G p s m args c cc nL own) (hini : ini = true → meth.name = "<init>") (h1 : ms_okP own ini i ci k = true) : ∃ q, vwCl[ci]? = some q ∧ k < q.2.2 ∧ (((Cond.fieldLink own i (q.2.1 k).1 (q.2.1 k).2.1 (q.2.1 k).2.2.1).before args s = true ∧ ((q.2.1 k).2.2.2 = false ∨ (meth.name = "<init>" ∧ (q.2.1 k).1 = own))) ∨ ((Cond.fieldLinkNest own i (q.2.1 k).1 (q.2.1 k).2.1 (q.2.1 k).2.2.1 "SitterCircle").before args s = true ∧ (q.2.1 k).2.2.2 = false)) := by
  unfold ms_okP at h1
  split at h1
  · rename_i q hc
    rw [Bool.and_eq_true, Bool.or_eq_true, Bool.and_eq_true, Bool.and_eq_true, Bool.or_eq_true, Bool.and_eq_true] at h1
    refine ⟨q, hc, of_decide_eq_true h1.1, ?_⟩
    rcases h1.2 with ⟨z, y⟩ | ⟨z, y⟩
    · refine Or.inl ⟨ms_gd C z, ?_⟩
      rcases y with y | ⟨y1, y2⟩
      · exact Or.inl (by simpa using y)
      · exact Or.inr ⟨hini y1, of_decide_eq_true y2⟩
    · exact Or.inr ⟨va_Nw.use rfl (ms_nd C z), by simpa using y⟩
  · cases h1
theorem ms_spF {U : State} (hF : ms_F G U) : ms_sp G := fun a ha => (hF.2.2.2.2.2.2.2.2.2.1 a ha).1
/-- array kinds other than int[] are never among the given -/
theorem ms_arr_hi {U : State} (hF : ms_F G U) (hP : ms_P G h H) {a : Nat} (h1 : 21 ≤ h_kd h a) (h2 : h_kd h a ≤ 25) : 16 ≤ a := by
  rcases Nat.lt_or_ge a 16 with z | z
  · have h1 := (hP.2.2.2.1 a z).1
    have h2 := (hF.2.2.2.2.2.2.2.2.2.1 a z).2
    omega
  · exact z
theorem ms_arrT {U : State} (hF : ms_F G U) {κ : Nat} (h1 : 20 ≤ κ) (h2 : κ ≤ 25) (n : Nat) (z : Nat → Value) : U.isArrayOf (arrV (g_cA G κ) n z) (ms_ty κ) := by
  have hk : κ = 20 ∨ κ = 21 ∨ κ = 22 ∨ κ = 23 ∨ κ = 24 ∨ κ = 25 := by omega
  rcases hk with rfl | rfl | rfl | rfl | rfl | rfl
  · exact (hF.1.2 0 _ rfl).1 n z
  · exact (hF.1.2 1 _ rfl).1 n z
  · exact (hF.1.2 2 _ rfl).1 n z
  · exact (hF.1.2 3 _ rfl).1 n z
  · exact (hF.1.2 4 _ rfl).1 n z
  · exact (hF.1.2 5 _ rfl).1 n z
set_option maxHeartbeats 4000000 in
theorem ms_s4 {n0 s0 : Nat} (C : ms_C G p s m args c cc nL own) (hini : ini = true → meth.name = "<init>") (hok : ms_ok own ini cc (pc, en) = true) (hP : ms_P G h H) (hS : va_S (ms_A G) s.heap H locs) (hX : mm_X4 en pc lo st h s') (hc1 : cells + n0 = h_n h) (hc2 : slots + s0 = h_s h) (hR1 : h_n s'.2.2.2 ≤ n0 + R.cells) (hR2 : h_s s'.2.2.2 ≤ s0 + R.slots) (kk : s'.2.1 = lo → ∀ (H' : Heap) (locs' : List Loc) (cells' slots' : Nat), ms_P G s'.2.2.2 H' → va_S (ms_A G) s.heap H' locs' → cells' + n0 = h_n s'.2.2.2 → slots' + s0 = h_s s'.2.2.2 → W p l e R s m args below meth c H' locs' cells' slots' Q (F0 m s'.1 ls (s'.2.2.1.map (ms_vt G)))) : W p l e R s m args below meth c H locs cells slots Q (F0 m pc ls (st.map (ms_vt G))) := by
  obtain ⟨hx, hb, hml, hown, hts, hF⟩ := id C
  have hsp := ms_spF hF
  obtain ⟨i, len, u, v⟩ := en
  obtain ⟨hd, hlen⟩ := ms_ok_d hok
  cases i
  case getfield idx =>
    obtain rfl : len = 3 := eq_of_beq hlen
    obtain ⟨a, rest, rfl, hk, rfl⟩ := hX
    obtain ⟨q, hc, hkN, hlink⟩ := ms_okF_of C (ms_ok_r hok rfl)
    have hhi := ms_obj_hi hF hP hk hc
    have h1 := ms_one hP hhi hk hc
    have hv : (ms_fs G h u q.2.2 a)[v]? = some (ms_vt G (mm_fv h u v a)) := by simp [ms_fs, hkN]
    have hlay := ms_lay u q hc
    obtain ⟨Cn, Tn, Nn⟩ := q
    rcases hlink with hlink | hlink
    · exact va_get (ref := (Tn v).1) hx hb (ms_hts C) hlay hown hF.1 h1 0 rfl hc v hkN hlink (fun _ z => z) hv hd (kk rfl H locs cells slots hP hS hc1 hc2)
    · exact va_getN (ref := (Tn v).1) (host := "SitterCircle") hx hb (ms_hts C) hlay hown hF.1 h1 0 rfl hc v hkN hlink (fun _ z => z) hv hd (kk rfl H locs cells slots hP hS hc1 hc2)
  case putfield idx =>
    obtain rfl : len = 3 := eq_of_beq hlen
    obtain ⟨a, rest, hk, ha, hX⟩ := hX
    obtain ⟨q, hc, hkN, hlink⟩ := ms_okP_of C hini (ms_ok_r hok rfl)
    have hri := ms_riok u q hc v hkN
    rcases hX with ⟨x, rfl, hr, rfl⟩ | ⟨r, rfl, hr, rfl⟩
    · rw [if_neg (by simp [hr])] at hri
      refine ms_putf (v := .int x) (rest := rest.map (ms_vt G)) C hP hS ha hk hc hkN hd hlink (by rw [hri]; exact (ms_nint x).1) (by rw [hri]; exact (ms_nint x).2) (fun H' locs' e1 e2 e3 e4 => ?_)
      refine kk rfl H' locs' cells slots (hP.put hsp ha hk hc e2 e3 rfl rfl rfl rfl rfl (fun c k a z => ms_fv_up z) (e1.to (fun j _ => ?_))) e4 hc1 hc2
      show (if j = v then Value.int x else ms_vt G (mm_fv h u j a)) = ms_vt G (if mm_ri u j = true then va_rf (h_or h (64 * u + j) a) else .int (va_up (h_oi h) (64 * u + v) (va_up (h_oi h (64 * u + v)) a x) (64 * u + j) a))
      by_cases z : j = v
      · subst z
        rw [if_pos rfl, if_neg (by simp [hr]), va_up_self, va_up_self]
        rfl
      · rw [if_neg z, va_up_ne _ _ (by omega)]
        rfl
    · rw [if_pos hr] at hri
      have hw := ms_nref hri.2 (r.map (ms_tr G))
      have e0 : List.map (ms_vt G) (va_rf r :: Value.ref a :: rest) = va_rf (r.map (ms_tr G)) :: Value.ref (ms_tr G a) :: rest.map (ms_vt G) := by rw [List.map_cons, ms_vt_rf]; rfl
      rw [e0]
      refine ms_putf (v := va_rf (r.map (ms_tr G))) (rest := rest.map (ms_vt G)) C hP hS ha hk hc hkN hd hlink hw.1 hw.2 (fun H' locs' e1 e2 e3 e4 => ?_)
      refine kk rfl H' locs' cells slots (hP.put hsp ha hk hc e2 e3 rfl rfl rfl rfl rfl (fun c k a z => ms_fv_upR z) (e1.to (fun j _ => ?_))) e4 hc1 hc2
      show (if j = v then va_rf (r.map (ms_tr G)) else ms_vt G (mm_fv h u j a)) = ms_vt G (if mm_ri u j = true then va_rf (va_up (h_or h) (64 * u + v) (va_up (h_or h (64 * u + v)) a r) (64 * u + j) a) else .int (h_oi h (64 * u + j) a))
      by_cases z : j = v
      · subst z
        rw [if_pos rfl, if_pos hr, va_up_self, va_up_self, ms_vt_rf]
      · rw [if_neg z, va_up_ne _ _ (by omega)]
        rfl
  case iaload  =>
    obtain rfl : len = 1 := eq_of_beq hlen
    obtain ⟨a, j, rest, rfl, hk, hin, rfl⟩ := hX
    have hlt : j.toNatClampNeg < h_al h a := Nat.not_le.mp fun q => hin (Or.inr q)
    rcases Nat.lt_or_ge a 16 with z | z
    · obtain ⟨g1, g2, g3⟩ := hP.2.2.2.1 a z
      have hT := hF.2.2.2.2.2.2.2.2.2.2.1 a z (by rw [← g1]; exact hk)
      rw [g2] at hin
      have et : ms_tr G a = g_sp G a := if_pos z
      have kk := kk rfl H locs cells slots hP hS hc1 hc2
      refine va_ti (t := g_sp G a) (rest := rest.map (ms_vt G)) hx hb hT hS hin (v := .int (h_ai h a j.toNatClampNeg)) (by rw [g3]) hd kk |> fun w => ?_
      show W p l e R s m args below meth c H locs cells slots Q (F0 m pc ls (.int j :: .ref (ms_tr G a) :: rest.map (ms_vt G)))
      rw [et]
      exact w
    · have hcell := hP.2.2.2.2.2.1 a z (by omega) (by omega)
      rw [hk] at hcell
      exact W.iald (v := .int (h_ai h a j.toNatClampNeg)) (rest := rest.map (ms_vt G)) hx hb hcell (ms_arrT hF (κ := 20) (by omega) (by omega) _ _) (fun q => by cases q) (by show ¬ (j < 0 ∨ (arrV _ _ _).slots.size ≤ _); rw [arrV_size]; exact hin) (by show (arrV _ _ _).slots[_]? = _; rw [arrV_read _ _ hlt]) rfl rfl hd (kk rfl H locs cells slots hP hS hc1 hc2)
  case baload  =>
    obtain rfl : len = 1 := eq_of_beq hlen
    obtain ⟨a, j, rest, rfl, hk, hin, rfl⟩ := hX
    have hlt : j.toNatClampNeg < h_al h a := Nat.not_le.mp fun q => hin (Or.inr q)
    have z := ms_arr_hi hF hP (a := a) (by omega) (by omega)
    have hcell := hP.2.2.2.2.2.1 a z (by omega) (by omega)
    rcases hk with hk | hk
    · rw [hk] at hcell
      exact W.bald (v := .int (h_ai h a j.toNatClampNeg)) (rest := rest.map (ms_vt G)) hx hb hcell (ms_arrT hF (κ := 21) (by omega) (by omega) _ _) (fun q => by cases q) (by show ¬ (j < 0 ∨ (arrV _ _ _).slots.size ≤ _); rw [arrV_size]; exact hin) (by show (arrV _ _ _).slots[_]? = _; rw [arrV_read _ _ hlt]) rfl rfl hd (kk rfl H locs cells slots hP hS hc1 hc2)
    · rw [hk] at hcell
      exact W.zald (v := .int (h_ai h a j.toNatClampNeg)) (rest := rest.map (ms_vt G)) hx hb hcell (ms_arrT hF (κ := 22) (by omega) (by omega) _ _) (fun q => by cases q) (by show ¬ (j < 0 ∨ (arrV _ _ _).slots.size ≤ _); rw [arrV_size]; exact hin) (by show (arrV _ _ _).slots[_]? = _; rw [arrV_read _ _ hlt]) rfl rfl hd (kk rfl H locs cells slots hP hS hc1 hc2)
  case aaload  =>
    obtain rfl : len = 1 := eq_of_beq hlen
    obtain ⟨a, j, rest, rfl, hk1, hk2, hin, rfl⟩ := hX
    have hlt : j.toNatClampNeg < h_al h a := Nat.not_le.mp fun q => hin (Or.inr q)
    have z := ms_arr_hi hF hP (a := a) (by omega) (by omega)
    have hcell := hP.2.2.2.2.2.2 a z hk1 hk2
    have href : (ms_ty (h_kd h a)).isReference = true := by
      have hk : h_kd h a = 23 ∨ h_kd h a = 24 ∨ h_kd h a = 25 := by omega
      rcases hk with hk | hk | hk <;> rw [hk] <;> rfl
    exact W.aald (v := ms_vt G (va_rf (h_ar h a j.toNatClampNeg))) (rest := rest.map (ms_vt G)) hx hb hcell (ms_arrT hF (κ := h_kd h a) (by omega) (by omega) _ _) href (fun q => by cases q) (by show ¬ (j < 0 ∨ (arrV _ _ _).slots.size ≤ _); rw [arrV_size]; exact hin) (by show (arrV _ _ _).slots[_]? = _; rw [arrV_read _ _ hlt]) rfl rfl hd (kk rfl H locs cells slots hP hS hc1 hc2)
  case iastore  =>
    obtain rfl : len = 1 := eq_of_beq hlen
    obtain ⟨a, j, x, rest, rfl, hk, ha, hin, rfl⟩ := hX
    have hcell := hP.2.2.2.2.2.1 a ha (by omega) (by omega)
    rw [hk] at hcell
    refine W.iast (rest := rest.map (ms_vt G)) (x := x) hx hb hcell (ms_arrT hF (κ := 20) (by omega) (by omega) _ _) (fun q => by cases q) (by show ¬ (j < 0 ∨ (arrV _ _ _).slots.size ≤ _); rw [arrV_size]; exact hin) rfl rfl hd fun H1 e1 e2 e3 => ?_
    refine kk rfl H1 _ cells slots (hP.sA hsp ha (by omega) (by omega) e2 e3 ?_) (hS.put e2 e3 (ms_tr_A ha)) hc1 hc2
    rw [e1, arrV_store, hk]
    congr 2
    funext q
    by_cases hq : q = j.toNatClampNeg
    · subst hq
      simp [updV, va_up, vp_nar]
      try rfl
    · simp [updV, va_up, hq]
  case bastore  =>
    obtain rfl : len = 1 := eq_of_beq hlen
    obtain ⟨a, j, x, rest, rfl, ha, hin, hX⟩ := hX
    rcases hX with ⟨hk, rfl⟩ | ⟨hk, rfl⟩
    · have hcell := hP.2.2.2.2.2.1 a ha (by omega) (by omega)
      rw [hk] at hcell
      refine W.bast (rest := rest.map (ms_vt G)) (x := x) hx hb hcell (ms_arrT hF (κ := 21) (by omega) (by omega) _ _) (fun q => by cases q) (by show ¬ (j < 0 ∨ (arrV _ _ _).slots.size ≤ _); rw [arrV_size]; exact hin) rfl rfl hd fun H1 e1 e2 e3 => ?_
      refine kk rfl H1 _ cells slots (hP.sA hsp ha (by omega) (by omega) e2 e3 ?_) (hS.put e2 e3 (ms_tr_A ha)) hc1 hc2
      rw [e1, arrV_store, hk]
      congr 2
      funext q
      by_cases hq : q = j.toNatClampNeg
      · subst hq
        simp [updV, va_up, vp_nar]
        try rfl
      · simp [updV, va_up, hq]
    · have hcell := hP.2.2.2.2.2.1 a ha (by omega) (by omega)
      rw [hk] at hcell
      refine W.zast (rest := rest.map (ms_vt G)) (x := x) hx hb hcell (ms_arrT hF (κ := 22) (by omega) (by omega) _ _) (fun q => by cases q) (by show ¬ (j < 0 ∨ (arrV _ _ _).slots.size ≤ _); rw [arrV_size]; exact hin) rfl rfl hd fun H1 e1 e2 e3 => ?_
      refine kk rfl H1 _ cells slots (hP.sA hsp ha (by omega) (by omega) e2 e3 ?_) (hS.put e2 e3 (ms_tr_A ha)) hc1 hc2
      rw [e1, arrV_store, hk]
      congr 2
      funext q
      by_cases hq : q = j.toNatClampNeg
      · subst hq
        simp [updV, va_up, vp_nar]
        try rfl
      · simp [updV, va_up, hq]
  case aastore  =>
    obtain rfl : len = 1 := eq_of_beq hlen
    obtain ⟨a, j, r, rest, rfl, ha, hin, hX, rfl⟩ := hX
    have hlt : j.toNatClampNeg < h_al h a := Nat.not_le.mp fun q => hin (Or.inr q)
    have h0 : ¬ j < 0 := fun q => hin (Or.inl q)
    rcases hX with ⟨hk, hv⟩ | ⟨hk, hv⟩
    · have hcell := hP.2.2.2.2.2.2 a ha (by omega) (by omega)
      rw [hk] at hcell
      cases r with
      | none =>
        refine va_WaastN (C := RX0) (rest := rest.map (ms_vt G)) hx hb hcell (ms_arrT hF (κ := 23) (by omega) (by omega) _ _) (fun q => by cases q) (by show ¬ (j < 0 ∨ (arrV _ _ _).slots.size ≤ _); rw [arrV_size]; exact hin) rfl rfl hd fun H1 e1 e2 e3 => ?_
        refine kk rfl H1 _ cells slots (hP.sQ hsp ha (by omega) (by omega) e2 e3 ?_) (hS.put e2 e3 (ms_tr_A ha)) hc1 hc2
        rw [e1, arrV_store, hk]
        congr 2
        funext q
        by_cases hq : q = j.toNatClampNeg
        · subst hq
          simp [updV, va_up, va_rf, ms_vt]
        · simp [updV, va_up, hq]
      | some w =>
        have hkw := hv w rfl
        have hwhi := ms_obj_hi hF hP (ci := 0) hkw rfl
        obtain ⟨cellV, g1, g2, g3, -⟩ := hP.2.2.2.2.1 w 0 _ hwhi hkw rfl
        have hcls := (hF.1.1 0 _ rfl).2
        obtain ⟨kA, comp, k1, k2, k3, -⟩ := (hF.1.2 3 _ rfl).2
        have hcomp : comp = g_dC G 0 := Option.some.inj (k3.symm.trans hcls.1)
        subst hcomp
        obtain ⟨kC, hkC, -⟩ := hcls.2
        refine W.aast (rest := rest.map (ms_vt G)) hx hb hcell (fun q h => by cases h) (fun h => by cases h) k1 k2 rfl hkC ⟨h0, by show _ < (arrV _ _ _).slots.size; rw [arrV_size]; exact hlt⟩ g1 (fun q h => by rw [g3] at h; cases h) (by rw [g2]; exact hkC) (by rw [g2]; exact va_assign hcls) rfl rfl hd fun H1 e1 e2 e3 => ?_
        refine kk rfl H1 _ cells slots (hP.sQ hsp ha (by omega) (by omega) e2 e3 ?_) (hS.put e2 e3 (ms_tr_A ha)) hc1 hc2
        rw [e1, arrV_store, hk]
        congr 2
        funext q
        by_cases hq : q = j.toNatClampNeg
        · subst hq
          simp [updV, va_up, va_rf, ms_vt]
        · simp [updV, va_up, hq]
    · have hcell := hP.2.2.2.2.2.2 a ha (by omega) (by omega)
      rw [hk] at hcell
      cases r with
      | none =>
        refine va_WaastN (C := RX5) (rest := rest.map (ms_vt G)) hx hb hcell (ms_arrT hF (κ := 24) (by omega) (by omega) _ _) (fun q => by cases q) (by show ¬ (j < 0 ∨ (arrV _ _ _).slots.size ≤ _); rw [arrV_size]; exact hin) rfl rfl hd fun H1 e1 e2 e3 => ?_
        refine kk rfl H1 _ cells slots (hP.sQ hsp ha (by omega) (by omega) e2 e3 ?_) (hS.put e2 e3 (ms_tr_A ha)) hc1 hc2
        rw [e1, arrV_store, hk]
        congr 2
        funext q
        by_cases hq : q = j.toNatClampNeg
        · subst hq
          simp [updV, va_up, va_rf, ms_vt]
        · simp [updV, va_up, hq]
      | some w =>
        have hkw := hv w rfl
        have hwhi := ms_obj_hi hF hP (ci := 5) hkw rfl
        obtain ⟨cellV, g1, g2, g3, -⟩ := hP.2.2.2.2.1 w 5 _ hwhi hkw rfl
        have hcls := (hF.1.1 5 _ rfl).2
        obtain ⟨kA, comp, k1, k2, k3, -⟩ := (hF.1.2 4 _ rfl).2
        have hcomp : comp = g_dC G 5 := Option.some.inj (k3.symm.trans hcls.1)
        subst hcomp
        obtain ⟨kC, hkC, -⟩ := hcls.2
        refine W.aast (rest := rest.map (ms_vt G)) hx hb hcell (fun q h => by cases h) (fun h => by cases h) k1 k2 rfl hkC ⟨h0, by show _ < (arrV _ _ _).slots.size; rw [arrV_size]; exact hlt⟩ g1 (fun q h => by rw [g3] at h; cases h) (by rw [g2]; exact hkC) (by rw [g2]; exact va_assign hcls) rfl rfl hd fun H1 e1 e2 e3 => ?_
        refine kk rfl H1 _ cells slots (hP.sQ hsp ha (by omega) (by omega) e2 e3 ?_) (hS.put e2 e3 (ms_tr_A ha)) hc1 hc2
        rw [e1, arrV_store, hk]
        congr 2
        funext q
        by_cases hq : q = j.toNatClampNeg
        · subst hq
          simp [updV, va_up, va_rf, ms_vt]
        · simp [updV, va_up, hq]
  case arraylength  =>
    obtain rfl : len = 1 := eq_of_beq hlen
    obtain ⟨a, rest, rfl, hk1, hk2, rfl⟩ := hX
    have kk := kk rfl H locs cells slots hP hS hc1 hc2
    rcases Nat.lt_or_ge a 16 with z | z
    · obtain ⟨g1, g2, g3⟩ := hP.2.2.2.1 a z
      have g4 := (hF.2.2.2.2.2.2.2.2.2.1 a z).2
      have hT := hF.2.2.2.2.2.2.2.2.2.2.1 a z (by omega)
      have et : ms_tr G a = g_sp G a := if_pos z
      have w := va_tlen (t := g_sp G a) (rest := rest.map (ms_vt G)) hx hb hT hS (v := Int32.ofNat (h_al h a)) (by rw [g2]) hd kk
      show W p l e R s m args below meth c H locs cells slots Q (F0 m pc ls (.ref (ms_tr G a) :: rest.map (ms_vt G)))
      rw [et]
      exact w
    · rcases Nat.lt_or_ge (h_kd h a) 23 with y | y
      · have hcell := hP.2.2.2.2.2.1 a z hk1 (by omega)
        exact W.alen (rest := rest.map (ms_vt G)) hx hb hcell (ms_arrT hF (κ := h_kd h a) (by omega) (by omega) _ _) (by rw [arrV_size]) rfl rfl hd kk
      · have hcell := hP.2.2.2.2.2.2 a z y hk2
        exact W.alen (rest := rest.map (ms_vt G)) hx hb hcell (ms_arrT hF (κ := h_kd h a) (by omega) (by omega) _ _) (by rw [arrV_size]) rfl rfl hd kk
  case new idx =>
    obtain rfl : len = 3 := eq_of_beq hlen
    obtain rfl : s' = _ := hX
    have h1 : ms_okN own idx u = true := ms_ok_r hok rfl
    unfold ms_okN at h1
    split at h1
    · rename_i q hc
      rw [Bool.and_eq_true, Bool.and_eq_true, Bool.and_eq_true] at h1
      obtain ⟨⟨⟨y1, y2⟩, y3⟩, y4⟩ := h1
      have hc : vwCl[u]? = some q := hc
      have y4 : mm_N u = q.2.2 := of_decide_eq_true y4
      have hlay := ms_lay u q hc
      have hty := ms_tyok u q hc
      have hri := ms_riok u q hc
      have hKn := hF.1.1 u _ hc
      obtain ⟨Cn, Tn, Nn⟩ := q
      have hR1 : h_n h + 1 ≤ n0 + R.cells := hR1
      have hR2 : h_s h + mm_N u ≤ s0 + R.slots := hR2
      rw [y4] at hR2
      refine W.newcK hx hb hown (ms_gd C y1) (ms_gd C y2) (ms_gd C y3) rfl hd (by omega) (by show slots + Nn ≤ _; have : h_s h + Nn ≤ s0 + R.slots := hR2; omega) hKn.2.1 rfl fun H1 kC hkC e1 z1 o1 => ?_
      have hb1 := u_born (ms_fty u) (ms_hts C) hlay hKn hkC e1 hty
      have kk := kk rfl H1 locs (cells + 1) (slots + Nn) (hP.nO hsp hc z1 o1 (hb1.to (fun k hk => ?_))) ⟨Nat.le_trans hS.1 (by omega), fun x h1 h2 => (o1 x (Nat.lt_of_lt_of_le h1 hS.1)).trans (hS.2.1 x h1 h2), hS.2.2⟩ (by show cells + 1 + n0 = h_n h + 1; omega) (by show slots + Nn + s0 = h_s h + mm_N u; rw [y4]; show slots + Nn + s0 = h_s h + Nn; omega)
      · have e5 : List.map (ms_vt G) (Value.ref (h_n h) :: st) = Value.ref H.size :: st.map (ms_vt G) := by
          show Value.ref (ms_tr G (h_n h)) :: _ = _
          rw [ms_tr_n hP]
        rw [e5] at kk
        exact kk
      · have := hri k hk
        by_cases z : mm_ri u k = true
        · rw [if_pos z] at this ⊢
          exact this.1
        · rw [if_neg z] at this ⊢
          rw [this]
          rfl
    · cases h1
  case newarray t =>
    obtain rfl : len = 2 := eq_of_beq hlen
    obtain ⟨x, rest, rfl, hx0, hx1, rfl⟩ := hX
    have h1 := ms_ok_r hok rfl
    rw [Bool.and_eq_true, Bool.and_eq_true, Bool.and_eq_true] at h1
    obtain ⟨⟨⟨y1, y2⟩, y3⟩, y4⟩ := h1
    have y1 : newarray.typeOf t = ms_ty u := of_decide_eq_true y1
    have y2 : 20 ≤ u := of_decide_eq_true y2
    have y3 : u ≤ 22 := of_decide_eq_true y3
    have hR1 : h_n h + 1 ≤ n0 + R.cells := hR1
    have hR2 : h_s h + x.toNatClampNeg ≤ s0 + R.slots := hR2
    have hw := ms_gd C y4
    have hbyt : x.toNatClampNeg * componentBytes (newarray.typeOf t) ≤ 536870912 := by
      rw [y1]
      have hk : u = 20 ∨ u = 21 ∨ u = 22 := by omega
      rcases hk with rfl | rfl | rfl
      · show x.toNatClampNeg * 4 ≤ _; omega
      · show x.toNatClampNeg * 1 ≤ _; omega
      · show x.toNatClampNeg * 1 ≤ _; omega
    refine va_newaK (rest := rest.map (ms_vt G)) hx hb hw rfl hd rfl hx0 rfl hbyt (by omega) (by omega) rfl fun H1 cA1 e1 z1 o1 hAr hNm => ?_
    have hcA : cA1 = g_cA G u := by
      rw [y1] at hNm
      have hk : u = 20 ∨ u = 21 ∨ u = 22 := by omega
      rcases hk with rfl | rfl | rfl
      · exact Option.some.inj (hNm.symm.trans (hF.1.2 0 _ rfl).2)
      · exact Option.some.inj (hNm.symm.trans (hF.1.2 1 _ rfl).2)
      · exact Option.some.inj (hNm.symm.trans (hF.1.2 2 _ rfl).2)
    rw [hcA] at e1
    have hcell : H1[H.size]? = some (arrV (g_cA G u) x.toNatClampNeg (fun j => if u ≤ 22 then .int ((fun _ => 0 : Nat → Int32) j) else .null)) := by
      rw [e1]
      congr 2
      funext j
      rw [if_pos y3, y1]
      have hk : u = 20 ∨ u = 21 ∨ u = 22 := by omega
      rcases hk with rfl | rfl | rfl <;> rfl
    have kk := kk rfl H1 locs (cells + 1) (slots + x.toNatClampNeg) (hP.nA hsp ⟨y2, by omega⟩ z1 o1 rfl hcell) ⟨Nat.le_trans hS.1 (by omega), fun x h1 h2 => (o1 x (Nat.lt_of_lt_of_le h1 hS.1)).trans (hS.2.1 x h1 h2), hS.2.2⟩ (by show cells + 1 + n0 = h_n h + 1; omega) (by show slots + x.toNatClampNeg + s0 = h_s h + x.toNatClampNeg; omega)
    have e5 : List.map (ms_vt G) (Value.ref (h_n h) :: rest) = Value.ref H.size :: rest.map (ms_vt G) := by
      show Value.ref (ms_tr G (h_n h)) :: _ = _
      rw [ms_tr_n hP]
    rw [e5] at kk
    exact kk
  case anewarray idx =>
    obtain rfl : len = 3 := eq_of_beq hlen
    obtain ⟨x, rest, rfl, hx0, hx1, rfl⟩ := hX
    have h1 := ms_ok_r hok rfl
    rw [Bool.or_eq_true, Bool.and_eq_true, Bool.and_eq_true] at h1
    have hR1 : h_n h + 1 ≤ n0 + R.cells := hR1
    have hR2 : h_s h + x.toNatClampNeg ≤ s0 + R.slots := hR2
    rcases h1 with ⟨y1, y2⟩ | ⟨y1, y2⟩
    · obtain rfl : u = 23 := of_decide_eq_true y1
      refine W.anew (rest := rest.map (ms_vt G)) hx hb hown (ms_gd C y2) (va_AO.use hF.2.2.1) rfl hd rfl hx0 (by omega) (by omega) (by omega) fun cA1 kA comp f1 f2 f3 f4 => ?_
      have hcA : cA1 = g_cA G 23 := by
        obtain ⟨kA9, comp9, k1, k2, k3, k4⟩ := (hF.1.2 3 _ rfl).2
        exact Option.some.inj (f1.symm.trans k4)
      subst hcA
      generalize hH1 : H.push ({ cls := g_cA G 23, slots := Array.replicate x.toNatClampNeg .null, vm := .none } : Cell) = H1
      have z1 : H1.size = H.size + 1 := by rw [← hH1, Array.size_push]
      have e1 : H1[H.size]? = some (arrV (g_cA G 23) x.toNatClampNeg (fun j => if 23 ≤ 22 then .int ((fun _ => 0 : Nat → Int32) j) else .null)) := by rw [← hH1, Array.getElem?_push_size, ← arrV_new]; rfl
      have o1 : ∀ q : Nat, q < H.size → H1[q]? = H[q]? := fun q hq => by rw [← hH1, Array.getElem?_push, if_neg (Nat.ne_of_lt hq)]
      have kk := kk rfl H1 locs (cells + 1) (slots + x.toNatClampNeg) (hP.nA (κ := 23) hsp ⟨by decide, by decide⟩ z1 o1 rfl e1) ⟨Nat.le_trans hS.1 (by omega), fun x h1 h2 => (o1 x (Nat.lt_of_lt_of_le h1 hS.1)).trans (hS.2.1 x h1 h2), hS.2.2⟩ (by show cells + 1 + n0 = h_n h + 1; omega) (by show slots + x.toNatClampNeg + s0 = h_s h + x.toNatClampNeg; omega)
      have e5 : List.map (ms_vt G) (Value.ref (h_n h) :: rest) = Value.ref H.size :: rest.map (ms_vt G) := by
        show Value.ref (ms_tr G (h_n h)) :: _ = _
        rw [ms_tr_n hP]
      rw [e5] at kk
      exact kk
    · obtain rfl : u = 24 := of_decide_eq_true y1
      refine W.anew (rest := rest.map (ms_vt G)) hx hb hown (ms_gd C y2) (va_AO.use hF.2.2.2.1) rfl hd rfl hx0 (by omega) (by omega) (by omega) fun cA1 kA comp f1 f2 f3 f4 => ?_
      have hcA : cA1 = g_cA G 24 := by
        obtain ⟨kA9, comp9, k1, k2, k3, k4⟩ := (hF.1.2 4 _ rfl).2
        exact Option.some.inj (f1.symm.trans k4)
      subst hcA
      generalize hH1 : H.push ({ cls := g_cA G 24, slots := Array.replicate x.toNatClampNeg .null, vm := .none } : Cell) = H1
      have z1 : H1.size = H.size + 1 := by rw [← hH1, Array.size_push]
      have e1 : H1[H.size]? = some (arrV (g_cA G 24) x.toNatClampNeg (fun j => if 24 ≤ 22 then .int ((fun _ => 0 : Nat → Int32) j) else .null)) := by rw [← hH1, Array.getElem?_push_size, ← arrV_new]; rfl
      have o1 : ∀ q : Nat, q < H.size → H1[q]? = H[q]? := fun q hq => by rw [← hH1, Array.getElem?_push, if_neg (Nat.ne_of_lt hq)]
      have kk := kk rfl H1 locs (cells + 1) (slots + x.toNatClampNeg) (hP.nA (κ := 24) hsp ⟨by decide, by decide⟩ z1 o1 rfl e1) ⟨Nat.le_trans hS.1 (by omega), fun x h1 h2 => (o1 x (Nat.lt_of_lt_of_le h1 hS.1)).trans (hS.2.1 x h1 h2), hS.2.2⟩ (by show cells + 1 + n0 = h_n h + 1; omega) (by show slots + x.toNatClampNeg + s0 = h_s h + x.toNatClampNeg; omega)
      have e5 : List.map (ms_vt G) (Value.ref (h_n h) :: rest) = Value.ref H.size :: rest.map (ms_vt G) := by
        show Value.ref (ms_tr G (h_n h)) :: _ = _
        rw [ms_tr_n hP]
      rw [e5] at kk
      exact kk
  case multianewarray idx dm =>
    obtain rfl : len = 4 := eq_of_beq hlen
    obtain ⟨x, y, rest, rfl, hx0, hy0, hx1, hy1, rfl⟩ := hX
    have h1 := ms_ok_r hok rfl
    rw [Bool.and_eq_true, Bool.and_eq_true] at h1
    obtain ⟨⟨y1, y2⟩, y3⟩ := h1
    obtain rfl : dm = 2 := of_decide_eq_true y1
    have hR1 : h_n h + 1 + x.toNatClampNeg ≤ n0 + R.cells := hR1
    have hR2 : h_s h + x.toNatClampNeg + x.toNatClampNeg * y.toNatClampNeg ≤ s0 + R.slots := hR2
    intro T hT Xs
    obtain ⟨vm₁, cA1, comp, -, fA, fC, hO, -, X1, step⟩ := Xs.multianewarray2F hx hown (ty := .int) (ms_gd C y2) hF.2.2.2.2.1 (ms_gd C y3) (g := F0 m pc ls (.int y :: .int x :: rest.map (ms_vt G))) rfl (by rw [hb]; exact hd) rfl hx0 hy0 (by omega) (by show y.toNatClampNeg * 4 ≤ _; omega) (by omega) rfl rfl (by omega) (by omega)
    have hcA : cA1 = g_cA G 25 := Option.some.inj (fA.symm.trans (hF.1.2 5 _ rfl).2)
    have hcB : comp = g_cA G 20 := Option.some.inj (fC.symm.trans (hF.1.2 0 _ rfl).2)
    subst hcA
    subst hcB
    generalize hFl : Jvm.Free.Multi.fill (T.setVm vm₁) (g_cA G 25) (g_cA G 20) x.toNatClampNeg y.toNatClampNeg (defaultValue .int) x.toNatClampNeg = F at X1 step
    have hTh : (T.setVm vm₁).heap = H := hT
    obtain ⟨f1, f2, -, -⟩ := Jvm.Free.Multi.fill_facts (T.setVm vm₁) (g_cA G 25) (g_cA G 20) x.toNatClampNeg y.toNatClampNeg (defaultValue .int) x.toNatClampNeg
    rw [hFl, hTh] at f1 f2
    have hold : ∀ z : Nat, z < H.size → F.heap[z]? = H[z]? := fun z hz => by
      have := Jvm.Free.Multi.fill_old (T.setVm vm₁) (g_cA G 25) (g_cA G 20) x.toNatClampNeg y.toNatClampNeg (defaultValue .int) (a := z) (by rw [hTh]; exact hz) x.toNatClampNeg
      rw [hFl, hTh] at this
      exact this
    have hrow : ∀ j : Nat, j < x.toNatClampNeg → F.heap[H.size + 1 + j]? = some (arrV (g_cA G 20) y.toNatClampNeg (fun _ => .int 0)) := fun j hj => by
      have := Jvm.Free.Multi.fill_inner (T.setVm vm₁) (g_cA G 25) (g_cA G 20) x.toNatClampNeg y.toNatClampNeg (defaultValue .int) x.toNatClampNeg j hj
      rw [hFl, hTh] at this
      rw [this]
      exact congrArg some (arrV_new _ _ _)
    rw [ms_outer] at f2
    have kk := kk rfl F.heap locs (cells + 1 + x.toNatClampNeg) (slots + x.toNatClampNeg + x.toNatClampNeg * y.toNatClampNeg) (hP.nM hsp f1 hold f2 hrow) ⟨by rw [f1]; have := hS.1; omega, fun z h1 h2 => (hold z (Nat.lt_of_lt_of_le h1 hS.1)).trans (hS.2.1 z h1 h2), hS.2.2⟩ (by show cells + 1 + x.toNatClampNeg + n0 = h_n h + 1 + x.toNatClampNeg; omega) (by show slots + x.toNatClampNeg + x.toNatClampNeg * y.toNatClampNeg + s0 = h_s h + x.toNatClampNeg + x.toNatClampNeg * y.toNatClampNeg; omega)
    have e5 : List.map (ms_vt G) (Value.ref (h_n h) :: rest) = Value.ref H.size :: rest.map (ms_vt G) := by
      show Value.ref (ms_tr G (h_n h)) :: _ = _
      rw [ms_tr_n hP]
    rw [e5] at kk
    obtain ⟨t, a1, b1⟩ := kk F rfl X1
    refine ⟨t, step t ?_, b1⟩
    rw [show T.heap.size = H.size by rw [hT]]
    exact a1
  all_goals exact False.elim hX
end MS4
