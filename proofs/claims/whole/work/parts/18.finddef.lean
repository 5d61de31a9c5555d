/-! findDefect (by tool/defects.py). -/
set_option maxHeartbeats 4000000 in
set_option maxRecDepth 100000 in
theorem c_X0_defectOfOpen (l : Launch) (dC : Nat → ClassId) (dI : Nat → Nat → Nat) (ad : Nat → Nat) (cz ci cj : ClassId) (sz : Nat) (cnt : Int32) (fO : Nat → Int32) (fA : Nat → Int32) (fB : Nat → Int32) (fT : Nat → Int32) (sv : Int32) (fC : Nat → Int64) (rs : Int64) (dk : Int32) (ds : Int32) (fL : Nat → Int32) (fl : Nat → Int32) (fh : Nat → Int32) (n : Nat) (c0 : Nat) (hg : g_ok c0 fO fA fB fT) (hn : n < c0) (hO : ¬ fO n = 0) : Met l yX0_defectOfOpen wX0_defectOfOpen ({ frames := 1, cells := 0, slots := 0, locals := 21 }) (va_Pc [.ref (ad 0), .int (nI n)] (g_Pre (dC, dI) vwCl (gty cz ci cj) (gw ad cz ci cj (cnt, fO, fA, fB, fT, sv, fC, rs, dk, ds, fL, fl, fh)) sz)) (va_Qi (fun (r : Int32) (u : GS) => u = (cnt, fO, fA, fB, fT, sv, fC, rs, dk, ds, fL, fl, fh) ∧ r = g_dn fO fA fB n) (g_At (dC, dI) vwCl (gty cz ci cj) (va_A (gw ad cz ci cj (cnt, fO, fA, fB, fT, sv, fC, rs, dk, ds, fL, fl, fh)) sz) (gw ad cz ci cj)) (va_A (gw ad cz ci cj (cnt, fO, fA, fB, fT, sv, fC, rs, dk, ds, fL, fl, fh)) sz)) 0 0 (va_A (gw ad cz ci cj (cnt, fO, fA, fB, fT, sv, fC, rs, dk, ds, fL, fl, fh)) sz) := by
  refine Met.ofW (cc := cX0_defectOfOpen) (maxL := 2) (ret := some .int) (by decide) rfl ?_
  intro p e s m args below meth c s₁ Bd hml hv
  obtain ⟨rfl, hsz, hP, hK, hD0⟩ := hv
  have hx := Bd.exec
  have hb := Bd.bytes
  have hr := Bd.returns
  have hts := atoms_spec (ws := wX0_defectOfOpen) Bd.pre
  have hw : ∀ w ∈ wAll, w.before _ s = true := fun w h => hts w (List.mem_cons_of_mem _ h)
  have hown : s.vm.findClass "GameGraph" = some m.cls := findClass_of_methodNamed Bd.named
  have hlocks := Bd.notSynchronized
  subst hsz
  have hD := hD0.self (sz := s.heap.size)
  generalize hAe : va_A (gw ad cz ci cj (cnt, fO, fA, fB, fT, sv, fC, rs, dk, ds, fL, fl, fh)) s.heap.size = Ar at hD ⊢
  have hA : ∀ q : Nat, s.heap.size ≤ q → Ar q := fun q h => by rw [← hAe]; exact Or.inr h
  obtain ⟨H, hH⟩ : ∃ H : Heap, H = s.heap := ⟨_, rfl⟩
  have hS : va_S Ar s.heap H [] := by rw [hH]; exact va_S.rf
  have hP : va_P (dC, dI) vwCl (gw ad cz ci cj (cnt, fO, fA, fB, fT, sv, fC, rs, dk, ds, fL, fl, fh)) H := by rw [hH]; exact hP
  rw [← hH]
  have hl := lv_entry ([.ref (ad 0), .int (nI n)]) (n := 2) (Nat.le_of_ble_eq_true rfl)
  rw [lg_entry_eq]
  generalize (lg_sl ([.ref (ad 0), .int (nI n)]) ++ List.replicate (2 - (lg_sl ([.ref (ad 0), .int (nI n)])).length) Slot.unset).toArray = ls at hl ⊢
  have hl : lv_has ls 2 [(0, .ref (ad 0)), (1, .int (nI n))] := hl
  have h60 := hg.2.1
  have h12 := (g_mvI hg hn).2
  refine lv_aload_n hx hb dX0_defectOfOpen_0 rfl (lv_at hl 0 rfl) ?_
  refine lv_iload_n hx hb dX0_defectOfOpen_1 rfl (lv_at hl 1 rfl) ?_
  refine g_calli ⟨hx, hb, hml, hown, hw⟩ (c_X0_jointMoves l dC dI ad cz ci cj H.size cnt fO fA fB fT sv fC rs dk ds fL fl fh n (by omega)) (cwV 1 hw gv_X0_X0_jointMoves rfl rfl rfl (by decide +kernel) ⟨Nat.le_of_ble_eq_true rfl, Nat.le_of_ble_eq_true rfl⟩) hK hP hD hS hA (ci := 0) (q0 := 0) rfl rfl rfl hl.1 rfl (Nat.le_of_ble_eq_true rfl) dX0_defectOfOpen_2 ⟨Nat.zero_le _, Nat.zero_le _⟩ (fun r_1 un H locs hq hP hD hS => ?_)
  obtain ⟨rfl, hq⟩ := hq
  have hP : va_P (dC, dI) vwCl (gw ad cz ci cj (cnt, fO, fA, fB, fT, sv, fC, rs, dk, ds, fL, fl, fh)) H := hP
  have hD : va_D Ar (gw ad cz ci cj (cnt, fO, fA, fB, fT, sv, fC, rs, dk, ds, fL, fl, fh)) := hD
  refine x_topi (y := nI (gmv fO fA fB n)) (by rw [hq]; exact (g_mvI hg hn).1) ?_
  refine lv_if_ne (tgt := 10) hx hb dX0_defectOfOpen_5 (by decide) (fun c_2 => ?_) (fun c_2 => ?_)
  · refine lv_aload_n hx hb dX0_defectOfOpen_10 rfl (lv_at hl 0 rfl) ?_
    refine va_get (D := (dC, dI)) (ci := 0) (v := .ref (ad 2)) (C := RX0) (T := TX0) (N := 13) hx hb hw in_X0 hown hK hP 0 rfl rfl 2 (by decide) (hw _ m_1_20) (fun _ h9 => h9) rfl dX0_defectOfOpen_11 ?_
    refine lv_iload_n hx hb dX0_defectOfOpen_14 rfl (lv_at hl 1 rfl) ?_
    refine va_iald hx hb hK hP 2 1 rfl rfl (vp_in_nI (by omega) (by decide)) dX0_defectOfOpen_15 ?_
    refine x_topi (y := fA n) (by rw [nI_clamp (by omega)]) ?_
    refine lv_iconst (v := 1) hx hb dX0_defectOfOpen_16 (by decide) ?_
    refine lv_icmp_le (tgt := 34) hx hb dX0_defectOfOpen_17 (by decide) (fun ca_3 => ?_) (fun ca_3 => ?_)
    · refine lv_iconst (v := 0) hx hb dX0_defectOfOpen_34 (by decide) ?_
      exact W.iret (v := 0) hx hb hr (fun t ht hW => ⟨⟨0, (cnt, fO, fA, fB, fT, sv, fC, rs, dk, ds, fL, fl, fh), rfl, (⟨rfl, k_dn0 hO (k_n0 c_2) (Or.inl ca_3)⟩), (by rw [ht]; exact hP), va_K.moved hW.alike hK, hD⟩, hS.F ht⟩) hS.2.2 dX0_defectOfOpen_35
    · refine lv_aload_n hx hb dX0_defectOfOpen_20 rfl (lv_at hl 0 rfl) ?_
      refine va_get (D := (dC, dI)) (ci := 0) (v := .ref (ad 3)) (C := RX0) (T := TX0) (N := 13) hx hb hw in_X0 hown hK hP 0 rfl rfl 3 (by decide) (hw _ m_1_21) (fun _ h9 => h9) rfl dX0_defectOfOpen_21 ?_
      refine lv_iload_n hx hb dX0_defectOfOpen_24 rfl (lv_at hl 1 rfl) ?_
      refine va_iald hx hb hK hP 3 1 rfl rfl (vp_in_nI (by omega) (by decide)) dX0_defectOfOpen_25 ?_
      refine x_topi (y := fB n) (by rw [nI_clamp (by omega)]) ?_
      refine lv_iconst (v := 1) hx hb dX0_defectOfOpen_26 (by decide) ?_
      refine lv_icmp_le (tgt := 34) hx hb dX0_defectOfOpen_27 (by decide) (fun cab_4 => ?_) (fun cab_4 => ?_)
      · refine lv_iconst (v := 0) hx hb dX0_defectOfOpen_34 (by decide) ?_
        exact W.iret (v := 0) hx hb hr (fun t ht hW => ⟨⟨0, (cnt, fO, fA, fB, fT, sv, fC, rs, dk, ds, fL, fl, fh), rfl, (⟨rfl, k_dn0 hO (k_n0 c_2) (Or.inr cab_4)⟩), (by rw [ht]; exact hP), va_K.moved hW.alike hK, hD⟩, hS.F ht⟩) hS.2.2 dX0_defectOfOpen_35
      · refine lv_iconst (v := 3) hx hb dX0_defectOfOpen_30 (by decide) ?_
        refine lv_goto (tgt := 35) hx hb dX0_defectOfOpen_31 (by decide) ?_
        exact W.iret (v := 3) hx hb hr (fun t ht hW => ⟨⟨3, (cnt, fO, fA, fB, fT, sv, fC, rs, dk, ds, fL, fl, fh), rfl, (⟨rfl, k_dn3 hO (k_n0 c_2) ca_3 cab_4⟩), (by rw [ht]; exact hP), va_K.moved hW.alike hK, hD⟩, hS.F ht⟩) hS.2.2 dX0_defectOfOpen_35
  · refine lv_iconst (v := 2) hx hb dX0_defectOfOpen_8 (by decide) ?_
    exact W.iret (v := 2) hx hb hr (fun t ht hW => ⟨⟨2, (cnt, fO, fA, fB, fT, sv, fC, rs, dk, ds, fL, fl, fh), rfl, (⟨rfl, k_dn2 hO (k_e0 (by omega) c_2)⟩), (by rw [ht]; exact hP), va_K.moved hW.alike hK, hD⟩, hS.F ht⟩) hS.2.2 dX0_defectOfOpen_9
set_option maxHeartbeats 4000000 in
set_option maxRecDepth 100000 in
theorem c_X0_defectOfEnd (l : Launch) (dC : Nat → ClassId) (dI : Nat → Nat → Nat) (ad : Nat → Nat) (cz ci cj : ClassId) (sz : Nat) (cnt : Int32) (fO : Nat → Int32) (fA : Nat → Int32) (fB : Nat → Int32) (fT : Nat → Int32) (sv : Int32) (fC : Nat → Int64) (rs : Int64) (dk : Int32) (ds : Int32) (fL : Nat → Int32) (fl : Nat → Int32) (fh : Nat → Int32) (n : Nat) (hn : n < 60) (hO : fO n = 0) : Met l yX0_defectOfEnd wX0_defectOfEnd ({ frames := 0, cells := 0, slots := 0, locals := 0 }) (va_Pc [.ref (ad 0), .int (nI n)] (g_Pre (dC, dI) vwCl (gty cz ci cj) (gw ad cz ci cj (cnt, fO, fA, fB, fT, sv, fC, rs, dk, ds, fL, fl, fh)) sz)) (va_Qi (fun (r : Int32) (u : GS) => u = (cnt, fO, fA, fB, fT, sv, fC, rs, dk, ds, fL, fl, fh) ∧ r = g_dn fO fA fB n) (g_At (dC, dI) vwCl (gty cz ci cj) (va_A (gw ad cz ci cj (cnt, fO, fA, fB, fT, sv, fC, rs, dk, ds, fL, fl, fh)) sz) (gw ad cz ci cj)) (va_A (gw ad cz ci cj (cnt, fO, fA, fB, fT, sv, fC, rs, dk, ds, fL, fl, fh)) sz)) 0 0 (va_A (gw ad cz ci cj (cnt, fO, fA, fB, fT, sv, fC, rs, dk, ds, fL, fl, fh)) sz) := by
  refine Met.ofW (cc := cX0_defectOfEnd) (maxL := 2) (ret := some .int) (by decide) rfl ?_
  intro p e s m args below meth c s₁ Bd hml hv
  obtain ⟨rfl, hsz, hP, hK, hD0⟩ := hv
  have hx := Bd.exec
  have hb := Bd.bytes
  have hr := Bd.returns
  have hts := atoms_spec (ws := wX0_defectOfEnd) Bd.pre
  have hw : ∀ w ∈ wAll, w.before _ s = true := fun w h => hts w (List.mem_cons_of_mem _ h)
  have hown : s.vm.findClass "GameGraph" = some m.cls := findClass_of_methodNamed Bd.named
  have hlocks := Bd.notSynchronized
  subst hsz
  have hD := hD0.self (sz := s.heap.size)
  generalize hAe : va_A (gw ad cz ci cj (cnt, fO, fA, fB, fT, sv, fC, rs, dk, ds, fL, fl, fh)) s.heap.size = Ar at hD ⊢
  have hA : ∀ q : Nat, s.heap.size ≤ q → Ar q := fun q h => by rw [← hAe]; exact Or.inr h
  obtain ⟨H, hH⟩ : ∃ H : Heap, H = s.heap := ⟨_, rfl⟩
  have hS : va_S Ar s.heap H [] := by rw [hH]; exact va_S.rf
  have hP : va_P (dC, dI) vwCl (gw ad cz ci cj (cnt, fO, fA, fB, fT, sv, fC, rs, dk, ds, fL, fl, fh)) H := by rw [hH]; exact hP
  rw [← hH]
  have hl := lv_entry ([.ref (ad 0), .int (nI n)]) (n := 2) (Nat.le_of_ble_eq_true rfl)
  rw [lg_entry_eq]
  generalize (lg_sl ([.ref (ad 0), .int (nI n)]) ++ List.replicate (2 - (lg_sl ([.ref (ad 0), .int (nI n)])).length) Slot.unset).toArray = ls at hl ⊢
  have hl : lv_has ls 2 [(0, .ref (ad 0)), (1, .int (nI n))] := hl
  refine lv_aload_n hx hb dX0_defectOfEnd_0 rfl (lv_at hl 0 rfl) ?_
  refine va_get (D := (dC, dI)) (ci := 0) (v := .ref (ad 2)) (C := RX0) (T := TX0) (N := 13) hx hb hw in_X0 hown hK hP 0 rfl rfl 2 (by decide) (hw _ m_1_20) (fun _ h9 => h9) rfl dX0_defectOfEnd_1 ?_
  refine lv_iload_n hx hb dX0_defectOfEnd_4 rfl (lv_at hl 1 rfl) ?_
  refine va_iald hx hb hK hP 2 1 rfl rfl (vp_in_nI (by omega) (by decide)) dX0_defectOfEnd_5 ?_
  refine x_topi (y := fA n) (by rw [nI_clamp (by omega)]) ?_
  refine lv_if_lt (tgt := 18) hx hb dX0_defectOfEnd_6 (by decide) (fun c_1 => ?_) (fun c_1 => ?_)
  · refine lv_iconst (v := 4) hx hb dX0_defectOfEnd_18 (by decide) ?_
    exact W.iret (v := 4) hx hb hr (fun t ht hW => ⟨⟨4, (cnt, fO, fA, fB, fT, sv, fC, rs, dk, ds, fL, fl, fh), rfl, (⟨rfl, k_dn4 hO (Or.inl c_1)⟩), (by rw [ht]; exact hP), va_K.moved hW.alike hK, hD⟩, hS.F ht⟩) hS.2.2 dX0_defectOfEnd_19
  · refine lv_aload_n hx hb dX0_defectOfEnd_9 rfl (lv_at hl 0 rfl) ?_
    refine va_get (D := (dC, dI)) (ci := 0) (v := .ref (ad 3)) (C := RX0) (T := TX0) (N := 13) hx hb hw in_X0 hown hK hP 0 rfl rfl 3 (by decide) (hw _ m_1_21) (fun _ h9 => h9) rfl dX0_defectOfEnd_10 ?_
    refine lv_iload_n hx hb dX0_defectOfEnd_13 rfl (lv_at hl 1 rfl) ?_
    refine va_iald hx hb hK hP 3 1 rfl rfl (vp_in_nI (by omega) (by decide)) dX0_defectOfEnd_14 ?_
    refine x_topi (y := fB n) (by rw [nI_clamp (by omega)]) ?_
    refine lv_if_ge (tgt := 20) hx hb dX0_defectOfEnd_15 (by decide) (fun cb_2 => ?_) (fun cb_2 => ?_)
    · refine lv_aload_n hx hb dX0_defectOfEnd_20 rfl (lv_at hl 0 rfl) ?_
      refine va_get (D := (dC, dI)) (ci := 0) (v := .ref (ad 2)) (C := RX0) (T := TX0) (N := 13) hx hb hw in_X0 hown hK hP 0 rfl rfl 2 (by decide) (hw _ m_1_20) (fun _ h9 => h9) rfl dX0_defectOfEnd_21 ?_
      refine lv_iload_n hx hb dX0_defectOfEnd_24 rfl (lv_at hl 1 rfl) ?_
      refine va_iald hx hb hK hP 2 1 rfl rfl (vp_in_nI (by omega) (by decide)) dX0_defectOfEnd_25 ?_
      refine x_topi (y := fA n) (by rw [nI_clamp (by omega)]) ?_
      refine lv_aload_n hx hb dX0_defectOfEnd_26 rfl (lv_at hl 0 rfl) ?_
      refine va_get (D := (dC, dI)) (ci := 0) (v := .ref (ad 3)) (C := RX0) (T := TX0) (N := 13) hx hb hw in_X0 hown hK hP 0 rfl rfl 3 (by decide) (hw _ m_1_21) (fun _ h9 => h9) rfl dX0_defectOfEnd_27 ?_
      refine lv_iload_n hx hb dX0_defectOfEnd_30 rfl (lv_at hl 1 rfl) ?_
      refine va_iald hx hb hK hP 3 1 rfl rfl (vp_in_nI (by omega) (by decide)) dX0_defectOfEnd_31 ?_
      refine x_topi (y := fB n) (by rw [nI_clamp (by omega)]) ?_
      refine lv_iadd hx hb dX0_defectOfEnd_32 ?_
      refine lv_bipush (v := 100) hx hb dX0_defectOfEnd_33 (by decide) ?_
      refine lv_icmp_eq (tgt := 42) hx hb dX0_defectOfEnd_35 (by decide) (fun cba_3 => ?_) (fun cba_3 => ?_)
      · refine lv_iconst (v := 0) hx hb dX0_defectOfEnd_42 (by decide) ?_
        exact W.iret (v := 0) hx hb hr (fun t ht hW => ⟨⟨0, (cnt, fO, fA, fB, fT, sv, fC, rs, dk, ds, fL, fl, fh), rfl, (⟨rfl, k_dn6 hO (k_or2 c_1 cb_2) cba_3⟩), (by rw [ht]; exact hP), va_K.moved hW.alike hK, hD⟩, hS.F ht⟩) hS.2.2 dX0_defectOfEnd_43
      · refine lv_iconst (v := 5) hx hb dX0_defectOfEnd_38 (by decide) ?_
        refine lv_goto (tgt := 43) hx hb dX0_defectOfEnd_39 (by decide) ?_
        exact W.iret (v := 5) hx hb hr (fun t ht hW => ⟨⟨5, (cnt, fO, fA, fB, fT, sv, fC, rs, dk, ds, fL, fl, fh), rfl, (⟨rfl, k_dn5 hO (k_or2 c_1 cb_2) cba_3⟩), (by rw [ht]; exact hP), va_K.moved hW.alike hK, hD⟩, hS.F ht⟩) hS.2.2 dX0_defectOfEnd_43
    · refine lv_iconst (v := 4) hx hb dX0_defectOfEnd_18 (by decide) ?_
      exact W.iret (v := 4) hx hb hr (fun t ht hW => ⟨⟨4, (cnt, fO, fA, fB, fT, sv, fC, rs, dk, ds, fL, fl, fh), rfl, (⟨rfl, k_dn4 hO (Or.inr (k_nge cb_2))⟩), (by rw [ht]; exact hP), va_K.moved hW.alike hK, hD⟩, hS.F ht⟩) hS.2.2 dX0_defectOfEnd_19
set_option maxHeartbeats 4000000 in
set_option maxRecDepth 100000 in
theorem lp_def1 {p : Program} {l : Launch} {e : Env} {R : Room} {s : State} {m : MethodId} {args : Array Value} {below : List Frame} {meth : Method} {c : Code} {Q : State → Prop} {dC : Nat → ClassId} {dI : Nat → Nat → Nat} {ad : Nat → Nat} {cz ci cj : ClassId} {Ar : Nat → Prop} (hx : p.tables.exec = Jvm.exec) (hb : c.code = cX0_findDefect) (hml : c.maxLocals = 2) (hown : s.vm.findClass "GameGraph" = some m.cls) (hw : ∀ w ∈ wAll, w.before args s = true) (hK : va_K (dC, dI) vwCl (gty cz ci cj) s) (hA : ∀ q, s.heap.size ≤ q → Ar q) (hR1 : 2 ≤ R.frames) (hR2 : 42 ≤ R.locals) (fO fA fB fT : Nat → Int32) (sv : Int32) (fC : Nat → Int64) (rs : Int64) (fL fl fh : Nat → Int32) (c0 : Nat) (hg : g_ok c0 fO fA fB fT) (hrs : ∀ m, m < c0 → (b_t rs m = true ↔ s_re c0 (gmv fO fA fB) (gtg fT) m)) (hC : ∀ a, a < c0 → ∀ m, b_t (fC a) m = true ↔ s_to c0 (gmv fO fA fB) (gtg fT) a m)
    (kx : ∀ (dk2 : Int32) (ds2 : Int32), (g_i2 c0 0 (s_re c0 (gmv fO fA fB) (gtg fT)) (fun n => s_to c0 (gmv fO fA fB) (gtg fT) n n) (g_dn fO fA fB) dk2 ds2) → ∀ (H : Heap) (locs : List Loc), va_P (dC, dI) vwCl (gw ad cz ci cj ((nI c0), fO, fA, fB, fT, sv, fC, rs, dk2, ds2, fL, fl, fh)) H → va_D Ar (gw ad cz ci cj ((nI c0), fO, fA, fB, fT, sv, fC, rs, dk2, ds2, fL, fl, fh)) → va_S Ar s.heap H locs → ∀ (ls : Array Slot), lv_has ls 2 [(0, .ref (ad 0))] → W p l e R s m args below meth c H locs 0 0 Q (F0 m 71 ls [])) :
    ∀ (fuel : Nat) (i : Nat) (dk2 : Int32) (ds2 : Int32), c0 + 1 ≤ i + fuel → i ≤ c0 → (g_i1 c0 i (s_re c0 (gmv fO fA fB) (gtg fT)) (g_dn fO fA fB) dk2 ds2) → ∀ (H : Heap) (locs : List Loc), va_P (dC, dI) vwCl (gw ad cz ci cj ((nI c0), fO, fA, fB, fT, sv, fC, rs, dk2, ds2, fL, fl, fh)) H → va_D Ar (gw ad cz ci cj ((nI c0), fO, fA, fB, fT, sv, fC, rs, dk2, ds2, fL, fl, fh)) → va_S Ar s.heap H locs → ∀ (ls : Array Slot), lv_has ls 2 [(0, .ref (ad 0)), (1, .int (nI i))] → W p l e R s m args below meth c H locs 0 0 Q (F0 m 12 ls []) := by
  intro fuel
  induction fuel with
  | zero => intro i dk2 ds2 hfu hi hI; exact absurd hfu (by omega)
  | succ fuel ih =>
    intro i dk2 ds2 hfu hi hI H locs hP hD hS ls hl
    have h60 := hg.2.1
    refine lv_iload_n hx hb dX0_findDefect_12 rfl (lv_at hl 1 rfl) ?_
    refine lv_aload_n hx hb dX0_findDefect_13 rfl (lv_at hl 0 rfl) ?_
    refine va_get (D := (dC, dI)) (ci := 0) (v := .int (nI c0)) (C := RX0) (T := TX0) (N := 13) hx hb hw in_X0 hown hK hP 0 rfl rfl 0 (by decide) (hw _ m_1_18) (fun _ h9 => h9) rfl dX0_findDefect_14 ?_
    refine lv_icmp_ge (tgt := 71) hx hb dX0_findDefect_17 (by decide) (fun c_1 => ?_) (fun c_1 => ?_)
    · exact kx dk2 ds2 (g_i1_x (by rw [show i = c0 from (k_eq hi c_1 (by omega)).symm] at hI; exact hI) _) _ _ hP hD hS _ (lv_sub hl [0] rfl)
    · have hlt : i < c0 := k_lt c_1 (by omega)
      refine lv_aload_n hx hb dX0_findDefect_20 rfl (lv_at hl 0 rfl) ?_
      refine va_get (D := (dC, dI)) (ci := 0) (v := .int dk2) (C := RX0) (T := TX0) (N := 13) hx hb hw in_X0 hown hK hP 0 rfl rfl 8 (by decide) (hw _ m_1_26) (fun _ h9 => h9) rfl dX0_findDefect_21 ?_
      refine lv_if_ne (tgt := 71) hx hb dX0_findDefect_24 (by decide) (fun cb_2 => ?_) (fun cb_2 => ?_)
      · exact kx dk2 ds2 (g_i1_y hI cb_2 _) _ _ hP hD hS _ (lv_sub hl [0] rfl)
      · refine lv_aload_n hx hb dX0_findDefect_27 rfl (lv_at hl 0 rfl) ?_
        refine va_get (D := (dC, dI)) (ci := 0) (v := .long rs) (C := RX0) (T := TX0) (N := 13) hx hb hw in_X0 hown hK hP 0 rfl rfl 7 (by decide) (hw _ m_1_25) (fun _ h9 => h9) rfl dX0_findDefect_28 ?_
        refine lv_iload_n hx hb dX0_findDefect_31 rfl (lv_at hl 1 rfl) ?_
        refine g_calls ⟨hx, hb, hml, hown, hw⟩ (c_X0_contains l rs i (by omega)) (va_cwS 2 hw gs_X0_X0_contains rfl rfl rfl (by decide +kernel) ⟨Nat.le_trans (Nat.le_of_ble_eq_true rfl) hR1, Nat.le_trans (Nat.le_of_ble_eq_true rfl) hR2⟩) hP hS rfl hl.1 rfl (Nat.le_of_ble_eq_true rfl) dX0_findDefect_32 ⟨Nat.zero_le _, Nat.zero_le _⟩ (fun rbb_3 H locs hq hP hS => ?_)
        have hP : va_P (dC, dI) vwCl (gw ad cz ci cj ((nI c0), fO, fA, fB, fT, sv, fC, rs, dk2, ds2, fL, fl, fh)) H := hP
        have hD : va_D Ar (gw ad cz ci cj ((nI c0), fO, fA, fB, fT, sv, fC, rs, dk2, ds2, fL, fl, fh)) := hD
        refine lv_if_eq (tgt := 65) hx hb dX0_findDefect_35 (by decide) (fun cbb_4 => ?_) (fun cbb_4 => ?_)
        · refine lv_iinc (v := (nI (i + 1))) (lv' := [(1, .int (nI (i + 1))), (0, .ref (ad 0))]) hx hb dX0_findDefect_65 hl (k := 1) rfl (nI_1 i) (by decide) rfl (fun ls hl => ?_)
          refine lv_goto (tgt := 12) hx hb dX0_findDefect_68 (by decide) ?_
          exact ih (i + 1) dk2 ds2 (by omega) (by omega) (g_i1_no hI (fun h => by have h1 := (hrs i hlt).mpr h; rw [k_b0 hq cbb_4] at h1; cases h1)) _ _ hP hD hS _ (lv_sub hl [1, 0] rfl)
        · have hre := (hrs i hlt).mp (k_b1 hq cbb_4)
          refine lv_aload_n hx hb dX0_findDefect_38 rfl (lv_at hl 0 rfl) ?_
          refine lv_iload_n hx hb dX0_findDefect_39 rfl (lv_at hl 1 rfl) ?_
          refine lv_aload_n hx hb dX0_findDefect_40 rfl (lv_at hl 0 rfl) ?_
          refine va_get (D := (dC, dI)) (ci := 0) (v := .ref (ad 1)) (C := RX0) (T := TX0) (N := 13) hx hb hw in_X0 hown hK hP 0 rfl rfl 1 (by decide) (hw _ m_1_19) (fun _ h9 => h9) rfl dX0_findDefect_41 ?_
          refine lv_iload_n hx hb dX0_findDefect_44 rfl (lv_at hl 1 rfl) ?_
          refine va_zald hx hb hK hP 1 0 rfl rfl (vp_in_nI (by omega) (by decide)) dX0_findDefect_45 ?_
          refine x_topi (y := fO i) (by rw [nI_clamp (by omega)]) ?_
          refine lv_if_eq (tgt := 57) hx hb dX0_findDefect_46 (by decide) (fun cbbb_5 => ?_) (fun cbbb_5 => ?_)
          · refine lv_aload_n hx hb dX0_findDefect_57 rfl (lv_at hl 0 rfl) ?_
            refine lv_iload_n hx hb dX0_findDefect_58 rfl (lv_at hl 1 rfl) ?_
            refine g_calli ⟨hx, hb, hml, hown, hw⟩ (c_X0_defectOfEnd l dC dI ad cz ci cj H.size (nI c0) fO fA fB fT sv fC rs dk2 ds2 fL fl fh i (by omega) cbbb_5) (cwV 1 hw gv_X0_X0_defectOfEnd rfl rfl rfl (by decide +kernel) ⟨Nat.le_trans (Nat.le_of_ble_eq_true rfl) hR1, Nat.le_trans (Nat.le_of_ble_eq_true rfl) hR2⟩) hK hP hD hS hA (ci := 0) (q0 := 0) rfl rfl rfl hl.1 rfl (Nat.le_of_ble_eq_true rfl) dX0_findDefect_59 ⟨Nat.zero_le _, Nat.zero_le _⟩ (fun rbbba_6 un H locs hq hP hD hS => ?_)
            obtain ⟨rfl, hd⟩ := hq
            have hP : va_P (dC, dI) vwCl (gw ad cz ci cj ((nI c0), fO, fA, fB, fT, sv, fC, rs, dk2, ds2, fL, fl, fh)) H := hP
            have hD : va_D Ar (gw ad cz ci cj ((nI c0), fO, fA, fB, fT, sv, fC, rs, dk2, ds2, fL, fl, fh)) := hD
            refine x_topi (y := g_dn fO fA fB i) (hd) ?_
            refine g_callv ⟨hx, hb, hml, hown, hw⟩ (c_X0_noteDefect l dC dI ad cz ci cj H.size (nI c0) fO fA fB fT sv fC rs dk2 ds2 fL fl fh (nI i) (g_dn fO fA fB i)) (cwV 2 hw gv_X0_X0_noteDefect rfl rfl rfl (by decide +kernel) ⟨Nat.le_trans (Nat.le_of_ble_eq_true rfl) hR1, Nat.le_trans (Nat.le_of_ble_eq_true rfl) hR2⟩) hK hP hD hS hA (ci := 0) (q0 := 0) rfl rfl rfl hl.1 rfl (Nat.le_of_ble_eq_true rfl) dX0_findDefect_62 ⟨Nat.zero_le _, Nat.zero_le _⟩ (fun  un H locs hq hP hD hS => ?_)
            have hu : un = ((nI c0), fO, fA, fB, fT, sv, fC, rs, (if g_dn fO fA fB i = 0 then dk2 else g_dn fO fA fB i), (if g_dn fO fA fB i = 0 then ds2 else nI i), fL, fl, fh) := by rw [hq]; by_cases q : g_dn fO fA fB i = 0 <;> simp [q]
            subst hu
            have hP : va_P (dC, dI) vwCl (gw ad cz ci cj ((nI c0), fO, fA, fB, fT, sv, fC, rs, (if g_dn fO fA fB i = 0 then dk2 else g_dn fO fA fB i), (if g_dn fO fA fB i = 0 then ds2 else nI i), fL, fl, fh)) H := hP
            have hD : va_D Ar (gw ad cz ci cj ((nI c0), fO, fA, fB, fT, sv, fC, rs, (if g_dn fO fA fB i = 0 then dk2 else g_dn fO fA fB i), (if g_dn fO fA fB i = 0 then ds2 else nI i), fL, fl, fh)) := hD
            refine lv_iinc (v := (nI (i + 1))) (lv' := [(1, .int (nI (i + 1))), (0, .ref (ad 0))]) hx hb dX0_findDefect_65 hl (k := 1) rfl (nI_1 i) (by decide) rfl (fun ls hl => ?_)
            refine lv_goto (tgt := 12) hx hb dX0_findDefect_68 (by decide) ?_
            exact ih (i + 1) (if g_dn fO fA fB i = 0 then dk2 else g_dn fO fA fB i) (if g_dn fO fA fB i = 0 then ds2 else nI i) (by omega) (by omega) (g_i1_st hI cb_2 hlt hre rfl rfl) _ _ hP hD hS _ (lv_sub hl [1, 0] rfl)
          · refine lv_aload_n hx hb dX0_findDefect_49 rfl (lv_at hl 0 rfl) ?_
            refine lv_iload_n hx hb dX0_findDefect_50 rfl (lv_at hl 1 rfl) ?_
            refine g_calli ⟨hx, hb, hml, hown, hw⟩ (c_X0_defectOfOpen l dC dI ad cz ci cj H.size (nI c0) fO fA fB fT sv fC rs dk2 ds2 fL fl fh i c0 hg hlt cbbb_5) (cwV 1 hw gv_X0_X0_defectOfOpen rfl rfl rfl (by decide +kernel) ⟨Nat.le_trans (Nat.le_of_ble_eq_true rfl) hR1, Nat.le_trans (Nat.le_of_ble_eq_true rfl) hR2⟩) hK hP hD hS hA (ci := 0) (q0 := 0) rfl rfl rfl hl.1 rfl (Nat.le_of_ble_eq_true rfl) dX0_findDefect_51 ⟨Nat.zero_le _, Nat.zero_le _⟩ (fun rbbbb_6 un H locs hq hP hD hS => ?_)
            obtain ⟨rfl, hd⟩ := hq
            have hP : va_P (dC, dI) vwCl (gw ad cz ci cj ((nI c0), fO, fA, fB, fT, sv, fC, rs, dk2, ds2, fL, fl, fh)) H := hP
            have hD : va_D Ar (gw ad cz ci cj ((nI c0), fO, fA, fB, fT, sv, fC, rs, dk2, ds2, fL, fl, fh)) := hD
            refine x_topi (y := g_dn fO fA fB i) (hd) ?_
            refine lv_goto (tgt := 62) hx hb dX0_findDefect_54 (by decide) ?_
            refine g_callv ⟨hx, hb, hml, hown, hw⟩ (c_X0_noteDefect l dC dI ad cz ci cj H.size (nI c0) fO fA fB fT sv fC rs dk2 ds2 fL fl fh (nI i) (g_dn fO fA fB i)) (cwV 2 hw gv_X0_X0_noteDefect rfl rfl rfl (by decide +kernel) ⟨Nat.le_trans (Nat.le_of_ble_eq_true rfl) hR1, Nat.le_trans (Nat.le_of_ble_eq_true rfl) hR2⟩) hK hP hD hS hA (ci := 0) (q0 := 0) rfl rfl rfl hl.1 rfl (Nat.le_of_ble_eq_true rfl) dX0_findDefect_62 ⟨Nat.zero_le _, Nat.zero_le _⟩ (fun  un H locs hq hP hD hS => ?_)
            have hu : un = ((nI c0), fO, fA, fB, fT, sv, fC, rs, (if g_dn fO fA fB i = 0 then dk2 else g_dn fO fA fB i), (if g_dn fO fA fB i = 0 then ds2 else nI i), fL, fl, fh) := by rw [hq]; by_cases q : g_dn fO fA fB i = 0 <;> simp [q]
            subst hu
            have hP : va_P (dC, dI) vwCl (gw ad cz ci cj ((nI c0), fO, fA, fB, fT, sv, fC, rs, (if g_dn fO fA fB i = 0 then dk2 else g_dn fO fA fB i), (if g_dn fO fA fB i = 0 then ds2 else nI i), fL, fl, fh)) H := hP
            have hD : va_D Ar (gw ad cz ci cj ((nI c0), fO, fA, fB, fT, sv, fC, rs, (if g_dn fO fA fB i = 0 then dk2 else g_dn fO fA fB i), (if g_dn fO fA fB i = 0 then ds2 else nI i), fL, fl, fh)) := hD
            refine lv_iinc (v := (nI (i + 1))) (lv' := [(1, .int (nI (i + 1))), (0, .ref (ad 0))]) hx hb dX0_findDefect_65 hl (k := 1) rfl (nI_1 i) (by decide) rfl (fun ls hl => ?_)
            refine lv_goto (tgt := 12) hx hb dX0_findDefect_68 (by decide) ?_
            exact ih (i + 1) (if g_dn fO fA fB i = 0 then dk2 else g_dn fO fA fB i) (if g_dn fO fA fB i = 0 then ds2 else nI i) (by omega) (by omega) (g_i1_st hI cb_2 hlt hre rfl rfl) _ _ hP hD hS _ (lv_sub hl [1, 0] rfl)
set_option maxHeartbeats 4000000 in
set_option maxRecDepth 100000 in
theorem lp_def2 {p : Program} {l : Launch} {e : Env} {R : Room} {s : State} {m : MethodId} {args : Array Value} {below : List Frame} {meth : Method} {c : Code} {Q : State → Prop} {dC : Nat → ClassId} {dI : Nat → Nat → Nat} {ad : Nat → Nat} {cz ci cj : ClassId} {Ar : Nat → Prop} (hx : p.tables.exec = Jvm.exec) (hb : c.code = cX0_findDefect) (hml : c.maxLocals = 2) (hown : s.vm.findClass "GameGraph" = some m.cls) (hw : ∀ w ∈ wAll, w.before args s = true) (hK : va_K (dC, dI) vwCl (gty cz ci cj) s) (hA : ∀ q, s.heap.size ≤ q → Ar q) (hR1 : 1 ≤ R.frames) (hR2 : 22 ≤ R.locals) (fO fA fB fT : Nat → Int32) (sv : Int32) (fC : Nat → Int64) (rs : Int64) (fL fl fh : Nat → Int32) (c0 : Nat) (hg : g_ok c0 fO fA fB fT) (hrs : ∀ m, m < c0 → (b_t rs m = true ↔ s_re c0 (gmv fO fA fB) (gtg fT) m)) (hC : ∀ a, a < c0 → ∀ m, b_t (fC a) m = true ↔ s_to c0 (gmv fO fA fB) (gtg fT) a m)
    (kx : ∀ (dk2 : Int32) (ds2 : Int32), (g_df c0 (s_re c0 (gmv fO fA fB) (gtg fT)) (fun n => s_to c0 (gmv fO fA fB) (gtg fT) n n) (g_dn fO fA fB) dk2 ds2) → ∀ (H : Heap) (locs : List Loc), va_P (dC, dI) vwCl (gw ad cz ci cj ((nI c0), fO, fA, fB, fT, sv, fC, rs, dk2, ds2, fL, fl, fh)) H → va_D Ar (gw ad cz ci cj ((nI c0), fO, fA, fB, fT, sv, fC, rs, dk2, ds2, fL, fl, fh)) → va_S Ar s.heap H locs → ∀ (ls : Array Slot), lv_has ls 2 [(0, .ref (ad 0))] → W p l e R s m args below meth c H locs 0 0 Q (F0 m 129 ls [])) :
    ∀ (fuel : Nat) (i : Nat) (dk2 : Int32) (ds2 : Int32), c0 + 1 ≤ i + fuel → i ≤ c0 → (g_i2 c0 i (s_re c0 (gmv fO fA fB) (gtg fT)) (fun n => s_to c0 (gmv fO fA fB) (gtg fT) n n) (g_dn fO fA fB) dk2 ds2) → ∀ (H : Heap) (locs : List Loc), va_P (dC, dI) vwCl (gw ad cz ci cj ((nI c0), fO, fA, fB, fT, sv, fC, rs, dk2, ds2, fL, fl, fh)) H → va_D Ar (gw ad cz ci cj ((nI c0), fO, fA, fB, fT, sv, fC, rs, dk2, ds2, fL, fl, fh)) → va_S Ar s.heap H locs → ∀ (ls : Array Slot), lv_has ls 2 [(0, .ref (ad 0)), (1, .int (nI i))] → W p l e R s m args below meth c H locs 0 0 Q (F0 m 73 ls []) := by
  intro fuel
  induction fuel with
  | zero => intro i dk2 ds2 hfu hi hI; exact absurd hfu (by omega)
  | succ fuel ih =>
    intro i dk2 ds2 hfu hi hI H locs hP hD hS ls hl
    have h60 := hg.2.1
    refine lv_iload_n hx hb dX0_findDefect_73 rfl (lv_at hl 1 rfl) ?_
    refine lv_aload_n hx hb dX0_findDefect_74 rfl (lv_at hl 0 rfl) ?_
    refine va_get (D := (dC, dI)) (ci := 0) (v := .int (nI c0)) (C := RX0) (T := TX0) (N := 13) hx hb hw in_X0 hown hK hP 0 rfl rfl 0 (by decide) (hw _ m_1_18) (fun _ h9 => h9) rfl dX0_findDefect_75 ?_
    refine lv_icmp_ge (tgt := 129) hx hb dX0_findDefect_78 (by decide) (fun c_1 => ?_) (fun c_1 => ?_)
    · exact kx dk2 ds2 (g_i2_x (by rw [show i = c0 from (k_eq hi c_1 (by omega)).symm] at hI; exact hI)) _ _ hP hD hS _ (lv_sub hl [0] rfl)
    · have hlt : i < c0 := k_lt c_1 (by omega)
      refine lv_aload_n hx hb dX0_findDefect_81 rfl (lv_at hl 0 rfl) ?_
      refine va_get (D := (dC, dI)) (ci := 0) (v := .int dk2) (C := RX0) (T := TX0) (N := 13) hx hb hw in_X0 hown hK hP 0 rfl rfl 8 (by decide) (hw _ m_1_26) (fun _ h9 => h9) rfl dX0_findDefect_82 ?_
      refine lv_if_ne (tgt := 129) hx hb dX0_findDefect_85 (by decide) (fun cb_2 => ?_) (fun cb_2 => ?_)
      · exact kx dk2 ds2 (g_i2_y hI cb_2) _ _ hP hD hS _ (lv_sub hl [0] rfl)
      · refine lv_aload_n hx hb dX0_findDefect_88 rfl (lv_at hl 0 rfl) ?_
        refine va_get (D := (dC, dI)) (ci := 0) (v := .long rs) (C := RX0) (T := TX0) (N := 13) hx hb hw in_X0 hown hK hP 0 rfl rfl 7 (by decide) (hw _ m_1_25) (fun _ h9 => h9) rfl dX0_findDefect_89 ?_
        refine lv_iload_n hx hb dX0_findDefect_92 rfl (lv_at hl 1 rfl) ?_
        refine g_calls ⟨hx, hb, hml, hown, hw⟩ (c_X0_contains l rs i (by omega)) (va_cwS 2 hw gs_X0_X0_contains rfl rfl rfl (by decide +kernel) ⟨Nat.le_trans (Nat.le_of_ble_eq_true rfl) hR1, Nat.le_trans (Nat.le_of_ble_eq_true rfl) hR2⟩) hP hS rfl hl.1 rfl (Nat.le_of_ble_eq_true rfl) dX0_findDefect_93 ⟨Nat.zero_le _, Nat.zero_le _⟩ (fun rbb_3 H locs hq hP hS => ?_)
        have hP : va_P (dC, dI) vwCl (gw ad cz ci cj ((nI c0), fO, fA, fB, fT, sv, fC, rs, dk2, ds2, fL, fl, fh)) H := hP
        have hD : va_D Ar (gw ad cz ci cj ((nI c0), fO, fA, fB, fT, sv, fC, rs, dk2, ds2, fL, fl, fh)) := hD
        refine lv_if_eq (tgt := 123) hx hb dX0_findDefect_96 (by decide) (fun cbb_4 => ?_) (fun cbb_4 => ?_)
        · refine lv_iinc (v := (nI (i + 1))) (lv' := [(1, .int (nI (i + 1))), (0, .ref (ad 0))]) hx hb dX0_findDefect_123 hl (k := 1) rfl (nI_1 i) (by decide) rfl (fun ls hl => ?_)
          refine lv_goto (tgt := 73) hx hb dX0_findDefect_126 (by decide) ?_
          exact ih (i + 1) dk2 ds2 (by omega) (by omega) (g_i2_no hI (fun h => by have h1 := (hrs i hlt).mpr h; rw [k_b0 hq cbb_4] at h1; cases h1)) _ _ hP hD hS _ (lv_sub hl [1, 0] rfl)
        · have hre := (hrs i hlt).mp (k_b1 hq cbb_4)
          refine lv_aload_n hx hb dX0_findDefect_99 rfl (lv_at hl 0 rfl) ?_
          refine lv_iload_n hx hb dX0_findDefect_100 rfl (lv_at hl 1 rfl) ?_
          refine lv_aload_n hx hb dX0_findDefect_101 rfl (lv_at hl 0 rfl) ?_
          refine va_get (D := (dC, dI)) (ci := 0) (v := .ref (ad 5)) (C := RX0) (T := TX0) (N := 13) hx hb hw in_X0 hown hK hP 0 rfl rfl 6 (by decide) (hw _ m_1_24) (fun _ h9 => h9) rfl dX0_findDefect_102 ?_
          refine lv_iload_n hx hb dX0_findDefect_105 rfl (lv_at hl 1 rfl) ?_
          refine va_lald hx hb hK hP 5 2 rfl rfl (vp_in_nI (by omega) (by decide)) dX0_findDefect_106 ?_
          refine x_topl (y := fC i) (by rw [nI_clamp (by omega)]) ?_
          refine lv_iload_n hx hb dX0_findDefect_107 rfl (lv_at hl 1 rfl) ?_
          refine g_calls ⟨hx, hb, hml, hown, hw⟩ (c_X0_contains l (fC i) i (by omega)) (va_cwS 2 hw gs_X0_X0_contains rfl rfl rfl (by decide +kernel) ⟨Nat.le_trans (Nat.le_of_ble_eq_true rfl) hR1, Nat.le_trans (Nat.le_of_ble_eq_true rfl) hR2⟩) hP hS rfl hl.1 rfl (Nat.le_of_ble_eq_true rfl) dX0_findDefect_108 ⟨Nat.zero_le _, Nat.zero_le _⟩ (fun rbbb_5 H locs hq hP hS => ?_)
          have hP : va_P (dC, dI) vwCl (gw ad cz ci cj ((nI c0), fO, fA, fB, fT, sv, fC, rs, dk2, ds2, fL, fl, fh)) H := hP
          have hD : va_D Ar (gw ad cz ci cj ((nI c0), fO, fA, fB, fT, sv, fC, rs, dk2, ds2, fL, fl, fh)) := hD
          refine lv_if_eq (tgt := 119) hx hb dX0_findDefect_111 (by decide) (fun cbbb_6 => ?_) (fun cbbb_6 => ?_)
          · have hbb := k_b0 hq cbbb_6
            refine lv_iconst (v := 0) hx hb dX0_findDefect_119 (by decide) ?_
            refine g_callv ⟨hx, hb, hml, hown, hw⟩ (c_X0_noteDefect l dC dI ad cz ci cj H.size (nI c0) fO fA fB fT sv fC rs dk2 ds2 fL fl fh (nI i) 0) (cwV 2 hw gv_X0_X0_noteDefect rfl rfl rfl (by decide +kernel) ⟨Nat.le_trans (Nat.le_of_ble_eq_true rfl) hR1, Nat.le_trans (Nat.le_of_ble_eq_true rfl) hR2⟩) hK hP hD hS hA (ci := 0) (q0 := 0) rfl rfl rfl hl.1 rfl (Nat.le_of_ble_eq_true rfl) dX0_findDefect_120 ⟨Nat.zero_le _, Nat.zero_le _⟩ (fun  un H locs hq hP hD hS => ?_)
            rw [if_pos rfl] at hq
            subst hq
            have hP : va_P (dC, dI) vwCl (gw ad cz ci cj ((nI c0), fO, fA, fB, fT, sv, fC, rs, dk2, ds2, fL, fl, fh)) H := hP
            have hD : va_D Ar (gw ad cz ci cj ((nI c0), fO, fA, fB, fT, sv, fC, rs, dk2, ds2, fL, fl, fh)) := hD
            refine lv_iinc (v := (nI (i + 1))) (lv' := [(1, .int (nI (i + 1))), (0, .ref (ad 0))]) hx hb dX0_findDefect_123 hl (k := 1) rfl (nI_1 i) (by decide) rfl (fun ls hl => ?_)
            refine lv_goto (tgt := 73) hx hb dX0_findDefect_126 (by decide) ?_
            exact ih (i + 1) dk2 ds2 (by omega) (by omega) (g_i2_no hI (fun _ h => by have h1 := (hC i hlt i).mpr h; rw [hbb] at h1; cases h1)) _ _ hP hD hS _ (lv_sub hl [1, 0] rfl)
          · have hbb := k_b1 hq cbbb_6
            refine lv_bipush (v := 6) hx hb dX0_findDefect_114 (by decide) ?_
            refine lv_goto (tgt := 120) hx hb dX0_findDefect_116 (by decide) ?_
            refine g_callv ⟨hx, hb, hml, hown, hw⟩ (c_X0_noteDefect l dC dI ad cz ci cj H.size (nI c0) fO fA fB fT sv fC rs dk2 ds2 fL fl fh (nI i) 6) (cwV 2 hw gv_X0_X0_noteDefect rfl rfl rfl (by decide +kernel) ⟨Nat.le_trans (Nat.le_of_ble_eq_true rfl) hR1, Nat.le_trans (Nat.le_of_ble_eq_true rfl) hR2⟩) hK hP hD hS hA (ci := 0) (q0 := 0) rfl rfl rfl hl.1 rfl (Nat.le_of_ble_eq_true rfl) dX0_findDefect_120 ⟨Nat.zero_le _, Nat.zero_le _⟩ (fun  un H locs hq hP hD hS => ?_)
            rw [if_neg (by decide)] at hq
            subst hq
            have hP : va_P (dC, dI) vwCl (gw ad cz ci cj ((nI c0), fO, fA, fB, fT, sv, fC, rs, 6, (nI i), fL, fl, fh)) H := hP
            have hD : va_D Ar (gw ad cz ci cj ((nI c0), fO, fA, fB, fT, sv, fC, rs, 6, (nI i), fL, fl, fh)) := hD
            refine lv_iinc (v := (nI (i + 1))) (lv' := [(1, .int (nI (i + 1))), (0, .ref (ad 0))]) hx hb dX0_findDefect_123 hl (k := 1) rfl (nI_1 i) (by decide) rfl (fun ls hl => ?_)
            refine lv_goto (tgt := 73) hx hb dX0_findDefect_126 (by decide) ?_
            exact ih (i + 1) 6 (nI i) (by omega) (by omega) (g_i2_st hI cb_2 hlt hre ((hC i hlt i).mp hbb)) _ _ hP hD hS _ (lv_sub hl [1, 0] rfl)
set_option maxHeartbeats 4000000 in
set_option maxRecDepth 100000 in
theorem c_X0_findDefect (l : Launch) (dC : Nat → ClassId) (dI : Nat → Nat → Nat) (ad : Nat → Nat) (cz ci cj : ClassId) (sz : Nat) (cnt : Int32) (fO : Nat → Int32) (fA : Nat → Int32) (fB : Nat → Int32) (fT : Nat → Int32) (sv : Int32) (fC : Nat → Int64) (rs : Int64) (dk : Int32) (ds : Int32) (fL : Nat → Int32) (fl : Nat → Int32) (fh : Nat → Int32)  (c0 : Nat) (hg : g_ok c0 fO fA fB fT) (hrs : ∀ m, m < c0 → (b_t rs m = true ↔ s_re c0 (gmv fO fA fB) (gtg fT) m)) (hC : ∀ a, a < c0 → ∀ m, b_t (fC a) m = true ↔ s_to c0 (gmv fO fA fB) (gtg fT) a m) : Met l yX0_findDefect wX0_findDefect ({ frames := 2, cells := 0, slots := 0, locals := 42 }) (va_Pc [.ref (ad 0)] (g_Pre (dC, dI) vwCl (gty cz ci cj) (gw ad cz ci cj ((nI c0), fO, fA, fB, fT, sv, fC, rs, dk, ds, fL, fl, fh)) sz)) (va_Qv (fun (u : GS) => ∃ dk2 ds2 : Int32, g_df c0 (s_re c0 (gmv fO fA fB) (gtg fT)) (fun n => s_to c0 (gmv fO fA fB) (gtg fT) n n) (g_dn fO fA fB) dk2 ds2 ∧ u = (nI c0, fO, fA, fB, fT, sv, fC, rs, dk2, ds2, fL, fl, fh)) (g_At (dC, dI) vwCl (gty cz ci cj) (va_A (gw ad cz ci cj ((nI c0), fO, fA, fB, fT, sv, fC, rs, dk, ds, fL, fl, fh)) sz) (gw ad cz ci cj)) (va_A (gw ad cz ci cj ((nI c0), fO, fA, fB, fT, sv, fC, rs, dk, ds, fL, fl, fh)) sz)) 0 0 (va_A (gw ad cz ci cj ((nI c0), fO, fA, fB, fT, sv, fC, rs, dk, ds, fL, fl, fh)) sz) := by
  refine Met.ofW (cc := cX0_findDefect) (maxL := 2) (ret := none) (by decide) rfl ?_
  intro p e s m args below meth c s₁ Bd hml hv
  obtain ⟨rfl, hsz, hP, hK, hD0⟩ := hv
  have hx := Bd.exec
  have hb := Bd.bytes
  have hr := Bd.returns
  have hts := atoms_spec (ws := wX0_findDefect) Bd.pre
  have hw : ∀ w ∈ wAll, w.before _ s = true := fun w h => hts w (List.mem_cons_of_mem _ h)
  have hown : s.vm.findClass "GameGraph" = some m.cls := findClass_of_methodNamed Bd.named
  have hlocks := Bd.notSynchronized
  subst hsz
  have hD := hD0.self (sz := s.heap.size)
  generalize hAe : va_A (gw ad cz ci cj ((nI c0), fO, fA, fB, fT, sv, fC, rs, dk, ds, fL, fl, fh)) s.heap.size = Ar at hD ⊢
  have hA : ∀ q : Nat, s.heap.size ≤ q → Ar q := fun q h => by rw [← hAe]; exact Or.inr h
  obtain ⟨H, hH⟩ : ∃ H : Heap, H = s.heap := ⟨_, rfl⟩
  have hS : va_S Ar s.heap H [] := by rw [hH]; exact va_S.rf
  have hP : va_P (dC, dI) vwCl (gw ad cz ci cj ((nI c0), fO, fA, fB, fT, sv, fC, rs, dk, ds, fL, fl, fh)) H := by rw [hH]; exact hP
  rw [← hH]
  have hl := lv_entry ([.ref (ad 0)]) (n := 2) (Nat.le_of_ble_eq_true rfl)
  rw [lg_entry_eq]
  generalize (lg_sl ([.ref (ad 0)]) ++ List.replicate (2 - (lg_sl ([.ref (ad 0)])).length) Slot.unset).toArray = ls at hl ⊢
  have hl : lv_has ls 2 [(0, .ref (ad 0))] := hl
  refine lv_aload_n hx hb dX0_findDefect_0 rfl (lv_at hl 0 rfl) ?_
  refine lv_iconst (v := 0) hx hb dX0_findDefect_1 (by decide) ?_
  refine va_put (D := (dC, dI)) (ci := 0) (v := .int 0) (ty := .int) (C := RX0) (T := TX0) (N := 13) hx hb hw in_X0 tyX0 tyX0_ok nmX0 hown hK hP hD hS 0 rfl rfl 8 (by decide) (hw _ m_1_26) (fun _ h9 => h9) rfl (by decide +kernel) rfl rfl (Nat.le_of_ble_eq_true rfl) dX0_findDefect_2 (fun H locs hP hD hS => ?_)
  have hP : va_P (dC, dI) vwCl (gw ad cz ci cj ((nI c0), fO, fA, fB, fT, sv, fC, rs, 0, ds, fL, fl, fh)) H := hP
  have hD : va_D Ar (gw ad cz ci cj ((nI c0), fO, fA, fB, fT, sv, fC, rs, 0, ds, fL, fl, fh)) := hD
  refine lv_aload_n hx hb dX0_findDefect_5 rfl (lv_at hl 0 rfl) ?_
  refine lv_iconst (v := -1) hx hb dX0_findDefect_6 (by decide) ?_
  refine va_put (D := (dC, dI)) (ci := 0) (v := .int (-1)) (ty := .int) (C := RX0) (T := TX0) (N := 13) hx hb hw in_X0 tyX0 tyX0_ok nmX0 hown hK hP hD hS 0 rfl rfl 9 (by decide) (hw _ m_1_27) (fun _ h9 => h9) rfl (by decide +kernel) rfl rfl (Nat.le_of_ble_eq_true rfl) dX0_findDefect_7 (fun H locs hP hD hS => ?_)
  have hP : va_P (dC, dI) vwCl (gw ad cz ci cj ((nI c0), fO, fA, fB, fT, sv, fC, rs, 0, (-1), fL, fl, fh)) H := hP
  have hD : va_D Ar (gw ad cz ci cj ((nI c0), fO, fA, fB, fT, sv, fC, rs, 0, (-1), fL, fl, fh)) := hD
  refine lv_iconst (v := 0) hx hb dX0_findDefect_10 (by decide) ?_
  refine x_topi (y := nI 0) (rfl) ?_
  refine lv_istore_n (lv' := [(1, .int (nI 0)), (0, .ref (ad 0))]) hx hb dX0_findDefect_11 rfl hl (by decide) rfl (fun ls hl => ?_)
  refine lp_def1 (dC := dC) (dI := dI) (ad := ad) (cz := cz) (ci := ci) (cj := cj) (Ar := Ar) hx hb hml hown hw hK hA (Nat.le_of_ble_eq_true rfl) (Nat.le_of_ble_eq_true rfl) fO fA fB fT sv fC rs fL fl fh c0 hg hrs hC ?_ (c0 + 1) 0 0 (-1) (by omega) (by omega) (Or.inr ⟨fun k hk => absurd hk (Nat.not_lt_zero _), rfl, rfl⟩) _ _ hP hD hS _ (lv_sub hl [1, 0] rfl)
  intro dk2 ds2 hI H locs hP hD hS ls hl
  refine lv_iconst (v := 0) hx hb dX0_findDefect_71 (by decide) ?_
  refine x_topi (y := nI 0) (rfl) ?_
  refine lv_istore_n (lv' := [(1, .int (nI 0)), (0, .ref (ad 0))]) hx hb dX0_findDefect_72 rfl hl (by decide) rfl (fun ls hl => ?_)
  refine lp_def2 (dC := dC) (dI := dI) (ad := ad) (cz := cz) (ci := ci) (cj := cj) (Ar := Ar) hx hb hml hown hw hK hA (Nat.le_of_ble_eq_true rfl) (Nat.le_of_ble_eq_true rfl) fO fA fB fT sv fC rs fL fl fh c0 hg hrs hC ?_ (c0 + 1) 0 dk2 ds2 (by omega) (by omega) hI _ _ hP hD hS _ (lv_sub hl [1, 0] rfl)
  intro dk2 ds2 hI H locs hP hD hS ls hl
  exact W.vret hx hb hr (fun t ht hW => ⟨⟨((nI c0), fO, fA, fB, fT, sv, fC, rs, dk2, ds2, fL, fl, fh), rfl, (⟨dk2, ds2, hI, rfl⟩), (by rw [ht]; exact hP), va_K.moved hW.alike hK, hD⟩, hS.F ht⟩) hS.2.2 dX0_findDefect_129
