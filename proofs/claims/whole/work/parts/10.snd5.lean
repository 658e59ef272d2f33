/-! SOUNDNESS, 4: a run of the small machine is a walk of the real one -/
def ms_Go (G : ms_G) (l : Launch) (n : Nat) : Prop := ∀ (d : Nat) (M : mm_M) (pc : Nat) (lo : mm_L) (st : List Value) (h : mm_H) (r : Option Value × mm_H), mm_R n d M pc lo st h r →
  ∀ {p : Program} {e : Env} {R : Room} {s : State} {m : MethodId} {args : Array Value} {below : List Frame} {meth : Method} {c : Code} {H : Heap} {locs : List Loc} {cells slots : Nat} {Q : State → Prop} {cc : ByteArray} {nL : Nat} {own : String} {ini : Bool} {ls : Array Slot} {n0 s0 : Nat},
  ms_C G p s m args c cc nL own → (ini = true → meth.name = "<init>") → M.2.1 = nL → (∀ q ∈ M.2.2, ms_ok own ini cc q = true) → lv_has ls nL (ms_lt G lo) → ms_P G h H → va_S (ms_A G) s.heap H locs → cells + n0 = h_n h → slots + s0 = h_s h → d ≤ R.frames → 40 * d ≤ R.locals → h_n r.2 ≤ n0 + R.cells → h_s r.2 ≤ s0 + R.slots →
  (∀ (pc' : Nat) (en : mm_E) (st' : List Value) (H' : Heap) (locs' : List Loc) (cells' slots' : Nat) (ls' : Array Slot), (pc', en) ∈ M.2.2 → decode cc pc' = .ok (en.1, en.2.1) → ms_ln en.1 en.2.1 = true → mm_Z en st' r.1 → ms_P G r.2 H' → va_S (ms_A G) s.heap H' locs' → cells' + n0 = h_n r.2 → slots' + s0 = h_s r.2 → W p l e R s m args below meth c H' locs' cells' slots' Q (F0 m pc' ls' (st'.map (ms_vt G)))) →
  W p l e R s m args below meth c H locs cells slots Q (F0 m pc ls (st.map (ms_vt G)))
theorem ms_met {G : ms_G} {l : Launch} {n : Nat} (hAll : ms_All) (ih : ms_Go G l n) {y d : Nat} {M : mm_M} {As : List Value} {h : mm_H} {r : Option Value × mm_H} (hmt : mm_mt y = some M) (hw : (As.map fun v => v.category).sum ≤ M.2.1) (hR : mm_R n d M 0 (lv_args 0 As) [] h r) : ms_Mt G l y d As h r := by
  intro q hq
  obtain ⟨hM, hnL, hcode⟩ := hAll y M q hmt hq
  obtain ⟨k1, k2, k3, k4, k5, k6⟩ := ms_okM_of hM
  have hmono := mm_mono n d M 0 _ _ h r hR
  refine Met.ofW (cc := q.2.1) (maxL := q.2.2.1) (ret := q.2.2.2) k3 rfl ?_
  intro p e s m args below meth c s₁ B hml hv
  obtain ⟨rfl, hF, hP⟩ := hv
  have hts := atoms_spec (ws := ms_ws q) B.pre
  have hown : s.vm.findClass q.1.cls = some m.cls := findClass_of_methodNamed B.named
  have hlocks := B.notSynchronized
  have hnm : meth.name = q.1.name := (name_of_methodNamed B.named B.method).1
  have hr := B.returns
  have C : ms_C G p s m (As.map (ms_vt G)).toArray c q.2.1 q.2.2.1 q.1.cls := ⟨B.exec, B.bytes, hml, hown, fun w h1 h2 => hts w (List.mem_cons_of_mem _ (List.mem_filter.mpr ⟨h1, h2⟩)), hF⟩
  have hl := lv_entry (As.map (ms_vt G)) (n := q.2.2.1) (by rw [ms_wid, ms_sum, hnL]; exact hw)
  rw [lg_entry_eq]
  rw [ms_args] at hl
  refine ih d M 0 (lv_args 0 As) [] h r hR C (fun z => hnm.trans (eq_of_beq z)) hnL.symm (fun e he => (hcode e he).1) hl hP va_S.rf (n0 := h_n h) (s0 := h_s h) (by omega) (by omega) (Nat.le_refl _) (Nat.le_refl _) (by show h_n r.2 ≤ h_n h + (h_n r.2 - h_n h); omega) (by show h_s r.2 ≤ h_s h + (h_s r.2 - h_s h); omega) ?_
  intro pc' en st' H' locs' cells' slots' ls' hin hd hlen hZ hP' hS' hc1 hc2
  have e1 : cells' = h_n r.2 - h_n h := by omega
  have e2 : slots' = h_s r.2 - h_s h := by omega
  subst e1
  subst e2
  have hoR := (hcode _ hin).2
  have hx := B.exec
  have hb := B.bytes
  obtain ⟨i, len, u, v⟩ := en
  cases i
  case ireturn =>
    obtain rfl : len = 1 := eq_of_beq hlen
    obtain ⟨x, rfl, h01, hr1⟩ := hZ
    have hoR : ((decide (u = 0) && decide (q.2.2.2 = some .int)) || (decide (u = 1) && decide (q.2.2.2 = some .boolean))) = true := hoR
    rw [Bool.or_eq_true, Bool.and_eq_true, Bool.and_eq_true] at hoR
    have hq : ∀ t : State, t.heap = H' → s.WarmedH t.vm → ms_Qc G r (As.map (ms_vt G)).toArray s (.returned (some (.int x))) t := fun t ht _ => ⟨by rw [hr1]; rfl, by rw [ht]; exact hP', hS'.F ht⟩
    rcases hoR with ⟨-, z⟩ | ⟨z0, z⟩
    · exact W.iret hx hb (hr.trans (of_decide_eq_true z)) hq hS'.2.2 hd
    · have z0 : u = 1 := of_decide_eq_true z0
      have h01 : u = 0 ∨ x = 0 ∨ x = 1 := h01
      refine W.zret hx hb (hr.trans (of_decide_eq_true z)) ?_ hq hS'.2.2 hd
      rcases h01 with h01 | rfl | rfl
      · omega
      · rfl
      · rfl
  case return_ =>
    obtain rfl : len = 1 := eq_of_beq hlen
    obtain ⟨rfl, hr1⟩ := hZ
    exact W.vret hx hb (hr.trans (of_decide_eq_true hoR)) (fun t ht _ => ⟨by rw [hr1]; rfl, by rw [ht]; exact hP', hS'.F ht⟩) hS'.2.2 hd
  case areturn =>
    obtain rfl : len = 1 := eq_of_beq hlen
    obtain ⟨x, rfl, hr1⟩ := hZ
    have hoR : (decide (q.2.2.2 = some (.object "SitterCircle$Family")) || decide (q.2.2.2 = some (.object "java/lang/String"))) = true := hoR
    rw [Bool.or_eq_true] at hoR
    have hrt : ∃ n, meth.sig.returnType = some (.object n) := by
      rcases hoR with z | z
      · exact ⟨_, hr.trans (of_decide_eq_true z)⟩
      · exact ⟨_, hr.trans (of_decide_eq_true z)⟩
    obtain ⟨nn, hrt⟩ := hrt
    have e3 : List.map (ms_vt G) [va_rf x] = [va_rf (x.map (ms_tr G))] := by
      show [ms_vt G (va_rf x)] = _
      rw [ms_vt_rf]
    rw [e3]
    exact W.aret hx hb hrt (Or.inl ⟨nn, rfl⟩) (va_rf_or _) (fun t ht _ => ⟨by rw [hr1]; show Outcome.returned (some _) = Outcome.returned (some (ms_vt G (va_rf x))); rw [ms_vt_rf], by rw [ht]; exact hP', hS'.F ht⟩) hS'.2.2 hd
  all_goals exact False.elim hZ
set_option maxHeartbeats 4000000 in
theorem ms_main {G : ms_G} {l : Launch} (hAll : ms_All) (hBI : ms_BI G l) (hB : ms_okB) : ∀ n : Nat, ms_Go G l n := by
  intro n
  induction n with
  | zero => intro d M pc lo st h r hR; exact False.elim hR
  | succ n ih =>
    intro d M pc lo st h r hR p e R s m args below meth c H locs cells slots Q cc nL own ini ls n0 s0 C hini hnL hcode hl hP hS hc1 hc2 hRf hRl hR1 hR2 hret
    obtain ⟨en, hen, hcase⟩ := hR
    have hin := ms_clm hen
    have hok := hcode _ hin
    rw [hnL] at hcase
    rcases hcase with ⟨s', hX, hR⟩ | ⟨hZ, hr⟩ | ⟨d', As, rest, r1, h1, hdd, hY, hC, hR⟩ | ⟨d', rest, hdd, hO, hR⟩
    · rcases hX with hX | hX | hX | hX
      · refine ms_s1 C hok hl hS hX (fun eh ls' hl' => ?_)
        exact ih d M s'.1 s'.2.1 s'.2.2.1 s'.2.2.2 r hR C hini hnL hcode hl' (by rw [eh]; exact hP) hS (by rw [eh]; exact hc1) (by rw [eh]; exact hc2) hRf hRl hR1 hR2 hret
      · refine ms_s2 C hok hl hS hX (fun eh ls' hl' => ?_)
        exact ih d M s'.1 s'.2.1 s'.2.2.1 s'.2.2.2 r hR C hini hnL hcode hl' (by rw [eh]; exact hP) hS (by rw [eh]; exact hc1) (by rw [eh]; exact hc2) hRf hRl hR1 hR2 hret
      · refine ms_s3 C hok hl hS hX (fun eh ls' hl' => ?_)
        exact ih d M s'.1 s'.2.1 s'.2.2.1 s'.2.2.2 r hR C hini hnL hcode hl' (by rw [eh]; exact hP) hS (by rw [eh]; exact hc1) (by rw [eh]; exact hc2) hRf hRl hR1 hR2 hret
      · have hmo := mm_mono n d M _ _ _ _ r hR
        refine ms_s4 C hini hok hP hS hX hc1 hc2 (Nat.le_trans hmo.1 hR1) (Nat.le_trans hmo.2 hR2) (fun el H' locs' cells' slots' hP' hS' hc1' hc2' => ?_)
        exact ih d M s'.1 s'.2.1 s'.2.2.1 s'.2.2.2 r hR C hini hnL hcode (by rw [el]; exact hl) hP' hS' hc1' hc2' hRf hRl hR1 hR2 hret
    · obtain ⟨hd, hlen⟩ := ms_ok_d hok
      exact hret pc en st H locs cells slots ls hin hd hlen hZ (by rw [hr]; exact hP) hS (by rw [hr]; exact hc1) (by rw [hr]; exact hc2)
    · subst hdd
      have hmo := mm_mono n (d' + 1) M _ _ _ _ r hR
      have hm1 : h_n h ≤ h_n h1 ∧ h_s h ≤ h_s h1 := by
        rcases hC with ⟨M', -, -, hC⟩ | ⟨-, -, hC⟩
        · exact mm_mono n d' M' _ _ _ _ (r1, h1) hC
        · exact mm_mB hC
      have hMt : ms_Mt G l en.2.2.1 d' As h (r1, h1) ∧ (en.2.2.1 ≠ 153 ∧ en.2.2.1 < 157) ∧ en.2.2.1 ≠ 999 := by
        rcases hC with ⟨M', hmt, hw, hC⟩ | ⟨hmt, h20, hC⟩
        · have hlt : en.2.2.1 < mm_tab.length := (List.getElem?_eq_some_iff.mp hmt).1
          have hl9 : mm_tab.length = 153 := by rfl
          exact ⟨ms_met hAll ih hmt hw hC, by omega, by omega⟩
        · refine ⟨hBI _ _ _ _ _ hmt h20 hC, ?_⟩
          rcases hC with ⟨z, -⟩ | ⟨z, -⟩ | ⟨z, -⟩ <;> omega
      refine ms_call (n0 := n0) (s0 := s0) hB C hok hl hP hS hc1 hc2 hY hMt.1 hMt.2.1 hMt.2.2 hm1 hRf hRl (Nat.le_trans hmo.1 hR1) (Nat.le_trans hmo.2 hR2) (fun H' locs' cells' slots' hP' hS' hc1' hc2' => ?_)
      exact ih (d' + 1) M (pc + 3) lo (r1.toList ++ rest) h1 r hR C hini hnL hcode hl hP' hS' hc1' hc2' hRf hRl hR1 hR2 hret
    · subst hdd
      obtain ⟨hx, hb, hml, hown, hts, hF⟩ := id C
      obtain ⟨i, len, u, v⟩ := en
      obtain ⟨hd, hlen⟩ := ms_ok_d hok
      cases i
      case invokespecial idx =>
        obtain rfl : len = 3 := eq_of_beq hlen
        obtain ⟨hu, hsum, a, rfl⟩ := hO
        have hu : u = 999 := hu
        have hok1 := ms_ok_r hok rfl
        rw [Bool.or_eq_true] at hok1
        have hok2 := hok1.resolve_right (fun z => by
          rw [Bool.and_eq_true] at z
          exact (of_decide_eq_true z.1) hu)
        rw [Bool.and_eq_true, Bool.and_eq_true, Bool.and_eq_true] at hok2
        refine W.objInit (rest := rest.map (ms_vt G)) hx hb hown (ms_gd C hok2.1.1.2) (ms_gd C hok2.1.2) (ms_gd C hok2.2) rfl (by rw [hml]; exact hl.1) rfl hd (by omega) ?_ ?_
        · have e1 := ms_sum G rest
          show 2 * 0 + ((rest.map (ms_vt G)).map fun v => v.category).sum + 12 ≤ R.locals
          rw [e1]
          omega
        · exact ih (d' + 1) M (pc + 3) lo rest h r hR C hini hnL hcode hl hP hS hc1 hc2 hRf hRl hR1 hR2 hret
      case invokestatic idx =>
        obtain rfl : len = 3 := eq_of_beq hlen
        obtain ⟨x, y, rest2, rfl, hsum, hO⟩ := hO
        have hok1 := ms_ok_r hok rfl
        rw [Bool.or_eq_true, Bool.or_eq_true, Bool.and_eq_true, Bool.and_eq_true, Bool.and_eq_true] at hok1
        have hmo := mm_mono n (d' + 1) M _ _ _ _ r hR
        have hsum2 := ms_sum G rest2
        have hml2 : c.maxLocals = ls.size := by rw [hml, hl.1]
        have hM1 : ms_gw (.static Lib.Math.max.name) = true ∧ ms_gw (.initialized "java/lang/Math") = true ∧ ms_gw (.code Lib.Math.max.name Lib.Math.max.code 2 (some .int)) = true := by decide +kernel
        have hM2 : ms_gw (.static Lib.Math.min.name) = true ∧ ms_gw (.code Lib.Math.min.name Lib.Math.min.code 2 (some .int)) = true := by decide +kernel
        rcases hO with ⟨hu, rfl⟩ | ⟨hu, rfl⟩
        · have hu : u = 157 := hu
          have hok2 : ms_gw (.methodLink own idx Lib.Math.max.name) = true := by
            rcases hok1 with (⟨z, z2⟩ | ⟨z, -⟩) | ⟨z, -⟩
            · exact z2
            · have z : u = 158 := of_decide_eq_true z
              omega
            · have z : u < 157 := of_decide_eq_true z
              omega
          exact va_mmax (x := x) (y := y) (rest := rest2.map (ms_vt G)) hx hb hml2 hown (ms_gd C hok2) (ms_gd C hM1.1) (ms_gd C hM1.2.1) (ms_gd C hM1.2.2) (by omega) (by rw [hsum2]; omega) (by omega) (by omega) hd (ih (d' + 1) M (pc + 3) lo _ h r hR C hini hnL hcode hl hP hS hc1 hc2 hRf hRl hR1 hR2 hret)
        · have hu : u = 158 := hu
          have hok2 : ms_gw (.methodLink own idx Lib.Math.min.name) = true := by
            rcases hok1 with (⟨z, -⟩ | ⟨z, z2⟩) | ⟨z, -⟩
            · have z : u = 157 := of_decide_eq_true z
              omega
            · exact z2
            · have z : u < 157 := of_decide_eq_true z
              omega
          exact va_mmin (x := x) (y := y) (rest := rest2.map (ms_vt G)) hx hb hml2 hown (ms_gd C hok2) (ms_gd C hM2.1) (ms_gd C hM1.2.1) (ms_gd C hM2.2) (by omega) (by rw [hsum2]; omega) (by omega) (by omega) hd (ih (d' + 1) M (pc + 3) lo _ h r hR C hini hnL hcode hl hP hS hc1 hc2 hRf hRl hR1 hR2 hret)
      all_goals exact False.elim hO
