/-! Leaves of the class (by tool/leaves.py). -/
theorem k_has {n cnt : Int32} {k0 : Nat} (hc : cnt = nI k0) (hk0 : k0 ≤ 60) (h1 : ¬ n < 0) (h2 : ¬ cnt ≤ n) : ∃ k, k < k0 ∧ n = nI k := by
  obtain ⟨j, hj, e⟩ := nI_of h1
  refine ⟨j, ?_, e⟩
  rcases Nat.lt_or_ge j k0 with q | q
  · exact q
  · exact absurd (by rw [hc, e]; exact nI_le q hj) h2
set_option maxHeartbeats 4000000 in
set_option maxRecDepth 100000 in
/-- hasState(n): is it a state -/
theorem c_X0_hasState (l : Launch) (dC : Nat → ClassId) (dI : Nat → Nat → Nat) (ad : Nat → Nat) (cz ci cj : ClassId) (sz : Nat) (cnt : Int32) (fO : Nat → Int32) (fA : Nat → Int32) (fB : Nat → Int32) (fT : Nat → Int32) (sv : Int32) (fC : Nat → Int64) (rs : Int64) (dk : Int32) (ds : Int32) (fL : Nat → Int32) (fl : Nat → Int32) (fh : Nat → Int32) (n : Int32) (k0 : Nat) (hc : cnt = nI k0) (hk0 : k0 ≤ 60) : Met l yX0_hasState wX0_hasState ({ frames := 0, cells := 0, slots := 0, locals := 0 }) (va_Pc [.ref (ad 0), .int n] (g_Pre (dC, dI) vwCl (gty cz ci cj) (gw ad cz ci cj (cnt, fO, fA, fB, fT, sv, fC, rs, dk, ds, fL, fl, fh)) sz)) (va_Qi (fun (r : Int32) (u : GS) => u = (cnt, fO, fA, fB, fT, sv, fC, rs, dk, ds, fL, fl, fh) ∧ ((∃ k, k < k0 ∧ n = nI k) ∧ r = 1 ∨ (∀ k, k < k0 → n ≠ nI k) ∧ r = 0)) (g_At (dC, dI) vwCl (gty cz ci cj) (va_A (gw ad cz ci cj (cnt, fO, fA, fB, fT, sv, fC, rs, dk, ds, fL, fl, fh)) sz) (gw ad cz ci cj)) (va_A (gw ad cz ci cj (cnt, fO, fA, fB, fT, sv, fC, rs, dk, ds, fL, fl, fh)) sz)) 0 0 (va_A (gw ad cz ci cj (cnt, fO, fA, fB, fT, sv, fC, rs, dk, ds, fL, fl, fh)) sz) := by
  refine Met.ofW (cc := cX0_hasState) (maxL := 2) (ret := some .boolean) (by decide) rfl ?_
  intro p e s m args below meth c s₁ Bd hml hv
  obtain ⟨rfl, hsz, hP, hK, hD0⟩ := hv
  have hx := Bd.exec
  have hb := Bd.bytes
  have hr := Bd.returns
  have hts := atoms_spec (ws := wX0_hasState) Bd.pre
  have hw : ∀ w ∈ wAll, w.before _ s = true := fun w h => hts w (List.mem_cons_of_mem _ h)
  have hown : s.vm.findClass "GameGraph" = some m.cls := findClass_of_methodNamed Bd.named
  have hlocks := Bd.notSynchronized
  subst hsz
  have hD := hD0.self (sz := s.heap.size)
  generalize hAe : va_A (gw ad cz ci cj (cnt, fO, fA, fB, fT, sv, fC, rs, dk, ds, fL, fl, fh)) s.heap.size = Ar at hD ⊢
  have hA : ∀ q : Nat, s.heap.size ≤ q → Ar q := fun q h => by rw [← hAe]; exact Or.inr h
  obtain ⟨H, hH⟩ : ∃ H : Heap, H = s.heap := ⟨_, rfl⟩
  have hS : va_S Ar s.heap H [] := by rw [hH]; exact va_S.rf
  have hP : va_P (dC, dI) vwCl (gw ad cz ci cj (cnt, fO, fA, fB, fT, sv, fC, rs, dk, ds, fL, fl, fh)) H := by rw [hH]; exact hP
  rw [← hH]
  have hl := lv_entry ([.ref (ad 0), .int n]) (n := 2) (Nat.le_of_ble_eq_true rfl)
  rw [lg_entry_eq]
  generalize (lg_sl ([.ref (ad 0), .int n]) ++ List.replicate (2 - (lg_sl ([.ref (ad 0), .int n])).length) Slot.unset).toArray = ls at hl ⊢
  have hl : lv_has ls 2 [(0, .ref (ad 0)), (1, .int n)] := hl
  refine lv_iload_n hx hb dX0_hasState_0 rfl (lv_at hl 1 rfl) ?_
  refine lv_if_lt (tgt := 16) hx hb dX0_hasState_1 (by decide) (fun c_1 => ?_) (fun c_1 => ?_)
  · refine lv_iconst (v := 0) hx hb dX0_hasState_16 (by decide) ?_
    exact W.zret (v := 0) hx hb hr (by decide) (fun t ht hW => ⟨⟨0, (cnt, fO, fA, fB, fT, sv, fC, rs, dk, ds, fL, fl, fh), rfl, (⟨rfl, Or.inr ⟨fun k hk e => absurd c_1 (by rw [e]; exact nI_pos (by omega)), rfl⟩⟩), (by rw [ht]; exact hP), va_K.moved hW.alike hK, hD⟩, hS.F ht⟩) hS.2.2 dX0_hasState_17
  · refine lv_iload_n hx hb dX0_hasState_4 rfl (lv_at hl 1 rfl) ?_
    refine lv_aload_n hx hb dX0_hasState_5 rfl (lv_at hl 0 rfl) ?_
    refine va_get (D := (dC, dI)) (ci := 0) (v := .int cnt) (C := RX0) (T := TX0) (N := 13) hx hb hw in_X0 hown hK hP 0 rfl rfl 0 (by decide) (hw _ m_1_18) (fun _ h9 => h9) rfl dX0_hasState_6 ?_
    refine lv_icmp_ge (tgt := 16) hx hb dX0_hasState_9 (by decide) (fun cb_2 => ?_) (fun cb_2 => ?_)
    · refine lv_iconst (v := 0) hx hb dX0_hasState_16 (by decide) ?_
      exact W.zret (v := 0) hx hb hr (by decide) (fun t ht hW => ⟨⟨0, (cnt, fO, fA, fB, fT, sv, fC, rs, dk, ds, fL, fl, fh), rfl, (⟨rfl, Or.inr ⟨fun k hk e => absurd cb_2 (by rw [hc, e]; exact nI_ge hk (by omega)), rfl⟩⟩), (by rw [ht]; exact hP), va_K.moved hW.alike hK, hD⟩, hS.F ht⟩) hS.2.2 dX0_hasState_17
    · refine lv_iconst (v := 1) hx hb dX0_hasState_12 (by decide) ?_
      refine lv_goto (tgt := 17) hx hb dX0_hasState_13 (by decide) ?_
      exact W.zret (v := 1) hx hb hr (by decide) (fun t ht hW => ⟨⟨1, (cnt, fO, fA, fB, fT, sv, fC, rs, dk, ds, fL, fl, fh), rfl, (⟨rfl, Or.inl ⟨k_has hc hk0 c_1 cb_2, rfl⟩⟩), (by rw [ht]; exact hP), va_K.moved hW.alike hK, hD⟩, hS.F ht⟩) hS.2.2 dX0_hasState_17
set_option maxHeartbeats 4000000 in
set_option maxRecDepth 100000 in
/-- contains(set, k): bit k of set -/
theorem c_X0_contains (l : Launch) (set : Int64) (k : Nat) (hk : k < 64) : Met l yX0_contains wX0_contains ({ frames := 0, cells := 0, slots := 0, locals := 0 }) (va_Pc [.long set, .int (nI k)] (fun _ => True)) (va_Qi (fun (r : Int32) (_ : Unit) => r = if b_t set k = true then 1 else 0) (fun _ _ => True) g_No) 0 0 g_No := by
  refine Met.ofW (cc := cX0_contains) (maxL := 3) (ret := some .boolean) (by decide) rfl ?_
  intro p e s m args below meth c s₁ Bd hml hv
  obtain ⟨rfl, -⟩ := hv
  have hx := Bd.exec
  have hb := Bd.bytes
  have hr := Bd.returns
  have hts := atoms_spec (ws := wX0_contains) Bd.pre
  have hw : ∀ w ∈ wAll, w.before _ s = true := fun w h => hts w (List.mem_cons_of_mem _ h)
  have hown : s.vm.findClass "GameGraph" = some m.cls := findClass_of_methodNamed Bd.named
  have hlocks := Bd.notSynchronized
  have hS : va_S g_No s.heap s.heap [] := va_S.rf
  have hl := lv_entry ([.long set, .int (nI k)]) (n := 3) (Nat.le_of_ble_eq_true rfl)
  rw [lg_entry_eq]
  generalize (lg_sl ([.long set, .int (nI k)]) ++ List.replicate (3 - (lg_sl ([.long set, .int (nI k)])).length) Slot.unset).toArray = ls at hl ⊢
  have hl : lv_has ls 3 [(0, .long set), (2, .int (nI k))] := hl
  refine lv_lload_n hx hb dX0_contains_0 rfl (lv_at hl 0 rfl) ?_
  refine lv_iload_n hx hb dX0_contains_1 rfl (lv_at hl 1 rfl) ?_
  refine lv_lushr hx hb dX0_contains_2 rfl ?_
  refine lv_lconst (v := 1) hx hb dX0_contains_3 (by decide) ?_
  refine lv_land hx hb dX0_contains_4 ?_
  refine lv_lconst (v := 0) hx hb dX0_contains_5 (by decide) ?_
  refine W.lcmp hx hb dX0_contains_6 ?_
  refine lv_if_eq (tgt := 14) hx hb dX0_contains_7 (by decide) (fun c_1 => ?_) (fun c_1 => ?_)
  · refine lv_iconst (v := 0) hx hb dX0_contains_14 (by decide) ?_
    exact W.zret (v := 0) hx hb hr (by decide) (fun t ht hW => ⟨⟨0, (), rfl, (by rw [if_neg]; intro q; have := (b_t_has hk).mp ((b_cmp0 _).mp c_1); rw [this] at q; cases q), trivial⟩, hS.F ht⟩) hS.2.2 dX0_contains_15
  · refine lv_iconst (v := 1) hx hb dX0_contains_10 (by decide) ?_
    refine lv_goto (tgt := 15) hx hb dX0_contains_11 (by decide) ?_
    exact W.zret (v := 1) hx hb hr (by decide) (fun t ht hW => ⟨⟨1, (), rfl, (by rw [if_pos]; cases q : b_t set k with | true => rfl | false => exact absurd ((b_cmp0 _).mpr ((b_t_has hk).mpr q)) c_1), trivial⟩, hS.F ht⟩) hS.2.2 dX0_contains_15
set_option maxHeartbeats 4000000 in
set_option maxRecDepth 100000 in
/-- isGoal(x) -/
theorem c_X0_isGoal (l : Launch) (x : Int32)  : Met l yX0_isGoal wX0_isGoal ({ frames := 0, cells := 0, slots := 0, locals := 0 }) (va_Pc [.int x] (fun _ => True)) (va_Qi (fun (r : Int32) (_ : Unit) => r = if -2 ≤ x.toInt ∧ x.toInt ≤ 100 then 1 else 0) (fun _ _ => True) g_No) 0 0 g_No := by
  refine Met.ofW (cc := cX0_isGoal) (maxL := 1) (ret := some .boolean) (by decide) rfl ?_
  intro p e s m args below meth c s₁ Bd hml hv
  obtain ⟨rfl, -⟩ := hv
  have hx := Bd.exec
  have hb := Bd.bytes
  have hr := Bd.returns
  have hts := atoms_spec (ws := wX0_isGoal) Bd.pre
  have hw : ∀ w ∈ wAll, w.before _ s = true := fun w h => hts w (List.mem_cons_of_mem _ h)
  have hown : s.vm.findClass "GameGraph" = some m.cls := findClass_of_methodNamed Bd.named
  have hlocks := Bd.notSynchronized
  have hS : va_S g_No s.heap s.heap [] := va_S.rf
  have hl := lv_entry ([.int x]) (n := 1) (Nat.le_of_ble_eq_true rfl)
  rw [lg_entry_eq]
  generalize (lg_sl ([.int x]) ++ List.replicate (1 - (lg_sl ([.int x])).length) Slot.unset).toArray = ls at hl ⊢
  have hl : lv_has ls 1 [(0, .int x)] := hl
  have e2 : (100 : Int32).toInt = 100 := by decide
  have e1 : (-2 : Int32).toInt = -2 := by decide
  refine lv_iload_n hx hb dX0_isGoal_0 rfl (lv_at hl 0 rfl) ?_
  refine lv_bipush (v := -2) hx hb dX0_isGoal_1 (by decide) ?_
  refine lv_icmp_lt (tgt := 16) hx hb dX0_isGoal_3 (by decide) (fun c_1 => ?_) (fun c_1 => ?_)
  · rw [Int32.lt_iff_toInt_lt, e1] at c_1
    refine lv_iconst (v := 0) hx hb dX0_isGoal_16 (by decide) ?_
    exact W.zret (v := 0) hx hb hr (by decide) (fun t ht hW => ⟨⟨0, (), rfl, (by rw [if_neg]; omega), trivial⟩, hS.F ht⟩) hS.2.2 dX0_isGoal_17
  · rw [Int32.lt_iff_toInt_lt, e1] at c_1
    refine lv_iload_n hx hb dX0_isGoal_6 rfl (lv_at hl 0 rfl) ?_
    refine lv_bipush (v := 100) hx hb dX0_isGoal_7 (by decide) ?_
    refine lv_icmp_gt (tgt := 16) hx hb dX0_isGoal_9 (by decide) (fun cb_2 => ?_) (fun cb_2 => ?_)
    · rw [Int32.lt_iff_toInt_lt, e2] at cb_2
      refine lv_iconst (v := 0) hx hb dX0_isGoal_16 (by decide) ?_
      exact W.zret (v := 0) hx hb hr (by decide) (fun t ht hW => ⟨⟨0, (), rfl, (by rw [if_neg]; omega), trivial⟩, hS.F ht⟩) hS.2.2 dX0_isGoal_17
    · rw [Int32.lt_iff_toInt_lt, e2] at cb_2
      refine lv_iconst (v := 1) hx hb dX0_isGoal_12 (by decide) ?_
      refine lv_goto (tgt := 17) hx hb dX0_isGoal_13 (by decide) ?_
      exact W.zret (v := 1) hx hb hr (by decide) (fun t ht hW => ⟨⟨1, (), rfl, (by rw [if_pos]; omega), trivial⟩, hS.F ht⟩) hS.2.2 dX0_isGoal_17
set_option maxHeartbeats 4000000 in
set_option maxRecDepth 100000 in
/-- jointMoves(n) -/
theorem c_X0_jointMoves (l : Launch) (dC : Nat → ClassId) (dI : Nat → Nat → Nat) (ad : Nat → Nat) (cz ci cj : ClassId) (sz : Nat) (cnt : Int32) (fO : Nat → Int32) (fA : Nat → Int32) (fB : Nat → Int32) (fT : Nat → Int32) (sv : Int32) (fC : Nat → Int64) (rs : Int64) (dk : Int32) (ds : Int32) (fL : Nat → Int32) (fl : Nat → Int32) (fh : Nat → Int32) (n : Nat) (hn : n < 60) : Met l yX0_jointMoves wX0_jointMoves ({ frames := 0, cells := 0, slots := 0, locals := 0 }) (va_Pc [.ref (ad 0), .int (nI n)] (g_Pre (dC, dI) vwCl (gty cz ci cj) (gw ad cz ci cj (cnt, fO, fA, fB, fT, sv, fC, rs, dk, ds, fL, fl, fh)) sz)) (va_Qi (fun (r : Int32) (u : GS) => u = (cnt, fO, fA, fB, fT, sv, fC, rs, dk, ds, fL, fl, fh) ∧ r = if fO n = 0 then 0 else fA n * fB n) (g_At (dC, dI) vwCl (gty cz ci cj) (va_A (gw ad cz ci cj (cnt, fO, fA, fB, fT, sv, fC, rs, dk, ds, fL, fl, fh)) sz) (gw ad cz ci cj)) (va_A (gw ad cz ci cj (cnt, fO, fA, fB, fT, sv, fC, rs, dk, ds, fL, fl, fh)) sz)) 0 0 (va_A (gw ad cz ci cj (cnt, fO, fA, fB, fT, sv, fC, rs, dk, ds, fL, fl, fh)) sz) := by
  refine Met.ofW (cc := cX0_jointMoves) (maxL := 2) (ret := some .int) (by decide) rfl ?_
  intro p e s m args below meth c s₁ Bd hml hv
  obtain ⟨rfl, hsz, hP, hK, hD0⟩ := hv
  have hx := Bd.exec
  have hb := Bd.bytes
  have hr := Bd.returns
  have hts := atoms_spec (ws := wX0_jointMoves) Bd.pre
  have hw : ∀ w ∈ wAll, w.before _ s = true := fun w h => hts w (List.mem_cons_of_mem _ h)
  have hown : s.vm.findClass "GameGraph" = some m.cls := findClass_of_methodNamed Bd.named
  have hlocks := Bd.notSynchronized
  subst hsz
  have hD := hD0.self (sz := s.heap.size)
  generalize hAe : va_A (gw ad cz ci cj (cnt, fO, fA, fB, fT, sv, fC, rs, dk, ds, fL, fl, fh)) s.heap.size = Ar at hD ⊢
  have hA : ∀ q : Nat, s.heap.size ≤ q → Ar q := fun q h => by rw [← hAe]; exact Or.inr h
  obtain ⟨H, hH⟩ : ∃ H : Heap, H = s.heap := ⟨_, rfl⟩
  have hS : va_S Ar s.heap H [] := by rw [hH]; exact va_S.rf
  have hP : va_P (dC, dI) vwCl (gw ad cz ci cj (cnt, fO, fA, fB, fT, sv, fC, rs, dk, ds, fL, fl, fh)) H := by rw [hH]; exact hP
  rw [← hH]
  have hl := lv_entry ([.ref (ad 0), .int (nI n)]) (n := 2) (Nat.le_of_ble_eq_true rfl)
  rw [lg_entry_eq]
  generalize (lg_sl ([.ref (ad 0), .int (nI n)]) ++ List.replicate (2 - (lg_sl ([.ref (ad 0), .int (nI n)])).length) Slot.unset).toArray = ls at hl ⊢
  have hl : lv_has ls 2 [(0, .ref (ad 0)), (1, .int (nI n))] := hl
  refine lv_aload_n hx hb dX0_jointMoves_0 rfl (lv_at hl 0 rfl) ?_
  refine va_get (D := (dC, dI)) (ci := 0) (v := .ref (ad 1)) (C := RX0) (T := TX0) (N := 13) hx hb hw in_X0 hown hK hP 0 rfl rfl 1 (by decide) (hw _ m_1_19) (fun _ h9 => h9) rfl dX0_jointMoves_1 ?_
  refine lv_iload_n hx hb dX0_jointMoves_4 rfl (lv_at hl 1 rfl) ?_
  refine va_zald hx hb hK hP 1 0 rfl rfl (vp_in_nI (by omega) (by decide)) dX0_jointMoves_5 ?_
  refine x_topi (y := fO n) (by rw [nI_clamp (by omega)]) ?_
  refine lv_if_eq (tgt := 25) hx hb dX0_jointMoves_6 (by decide) (fun c_1 => ?_) (fun c_1 => ?_)
  · refine lv_iconst (v := 0) hx hb dX0_jointMoves_25 (by decide) ?_
    exact W.iret (v := 0) hx hb hr (fun t ht hW => ⟨⟨0, (cnt, fO, fA, fB, fT, sv, fC, rs, dk, ds, fL, fl, fh), rfl, (⟨rfl, by rw [if_pos c_1]⟩), (by rw [ht]; exact hP), va_K.moved hW.alike hK, hD⟩, hS.F ht⟩) hS.2.2 dX0_jointMoves_26
  · refine lv_aload_n hx hb dX0_jointMoves_9 rfl (lv_at hl 0 rfl) ?_
    refine va_get (D := (dC, dI)) (ci := 0) (v := .ref (ad 2)) (C := RX0) (T := TX0) (N := 13) hx hb hw in_X0 hown hK hP 0 rfl rfl 2 (by decide) (hw _ m_1_20) (fun _ h9 => h9) rfl dX0_jointMoves_10 ?_
    refine lv_iload_n hx hb dX0_jointMoves_13 rfl (lv_at hl 1 rfl) ?_
    refine va_iald hx hb hK hP 2 1 rfl rfl (vp_in_nI (by omega) (by decide)) dX0_jointMoves_14 ?_
    refine x_topi (y := fA n) (by rw [nI_clamp (by omega)]) ?_
    refine lv_aload_n hx hb dX0_jointMoves_15 rfl (lv_at hl 0 rfl) ?_
    refine va_get (D := (dC, dI)) (ci := 0) (v := .ref (ad 3)) (C := RX0) (T := TX0) (N := 13) hx hb hw in_X0 hown hK hP 0 rfl rfl 3 (by decide) (hw _ m_1_21) (fun _ h9 => h9) rfl dX0_jointMoves_16 ?_
    refine lv_iload_n hx hb dX0_jointMoves_19 rfl (lv_at hl 1 rfl) ?_
    refine va_iald hx hb hK hP 3 1 rfl rfl (vp_in_nI (by omega) (by decide)) dX0_jointMoves_20 ?_
    refine x_topi (y := fB n) (by rw [nI_clamp (by omega)]) ?_
    refine lv_imul hx hb dX0_jointMoves_21 ?_
    refine lv_goto (tgt := 26) hx hb dX0_jointMoves_22 (by decide) ?_
    exact W.iret (v := ((fA n) * (fB n))) hx hb hr (fun t ht hW => ⟨⟨((fA n) * (fB n)), (cnt, fO, fA, fB, fT, sv, fC, rs, dk, ds, fL, fl, fh), rfl, (⟨rfl, by rw [if_neg c_1]⟩), (by rw [ht]; exact hP), va_K.moved hW.alike hK, hD⟩, hS.F ht⟩) hS.2.2 dX0_jointMoves_26
set_option maxHeartbeats 4000000 in
set_option maxRecDepth 100000 in
/-- target(n, j) -/
theorem c_X0_target (l : Launch) (dC : Nat → ClassId) (dI : Nat → Nat → Nat) (ad : Nat → Nat) (cz ci cj : ClassId) (sz : Nat) (cnt : Int32) (fO : Nat → Int32) (fA : Nat → Int32) (fB : Nat → Int32) (fT : Nat → Int32) (sv : Int32) (fC : Nat → Int64) (rs : Int64) (dk : Int32) (ds : Int32) (fL : Nat → Int32) (fl : Nat → Int32) (fh : Nat → Int32) (n : Nat) (j : Nat) (hn : n < 60) (hj : j < 12) : Met l yX0_target wX0_target ({ frames := 0, cells := 0, slots := 0, locals := 0 }) (va_Pc [.ref (ad 0), .int (nI n), .int (nI j)] (g_Pre (dC, dI) vwCl (gty cz ci cj) (gw ad cz ci cj (cnt, fO, fA, fB, fT, sv, fC, rs, dk, ds, fL, fl, fh)) sz)) (va_Qi (fun (r : Int32) (u : GS) => u = (cnt, fO, fA, fB, fT, sv, fC, rs, dk, ds, fL, fl, fh) ∧ r = fT (n * 12 + j)) (g_At (dC, dI) vwCl (gty cz ci cj) (va_A (gw ad cz ci cj (cnt, fO, fA, fB, fT, sv, fC, rs, dk, ds, fL, fl, fh)) sz) (gw ad cz ci cj)) (va_A (gw ad cz ci cj (cnt, fO, fA, fB, fT, sv, fC, rs, dk, ds, fL, fl, fh)) sz)) 0 0 (va_A (gw ad cz ci cj (cnt, fO, fA, fB, fT, sv, fC, rs, dk, ds, fL, fl, fh)) sz) := by
  refine Met.ofW (cc := cX0_target) (maxL := 3) (ret := some .int) (by decide) rfl ?_
  intro p e s m args below meth c s₁ Bd hml hv
  obtain ⟨rfl, hsz, hP, hK, hD0⟩ := hv
  have hx := Bd.exec
  have hb := Bd.bytes
  have hr := Bd.returns
  have hts := atoms_spec (ws := wX0_target) Bd.pre
  have hw : ∀ w ∈ wAll, w.before _ s = true := fun w h => hts w (List.mem_cons_of_mem _ h)
  have hown : s.vm.findClass "GameGraph" = some m.cls := findClass_of_methodNamed Bd.named
  have hlocks := Bd.notSynchronized
  subst hsz
  have hD := hD0.self (sz := s.heap.size)
  generalize hAe : va_A (gw ad cz ci cj (cnt, fO, fA, fB, fT, sv, fC, rs, dk, ds, fL, fl, fh)) s.heap.size = Ar at hD ⊢
  have hA : ∀ q : Nat, s.heap.size ≤ q → Ar q := fun q h => by rw [← hAe]; exact Or.inr h
  obtain ⟨H, hH⟩ : ∃ H : Heap, H = s.heap := ⟨_, rfl⟩
  have hS : va_S Ar s.heap H [] := by rw [hH]; exact va_S.rf
  have hP : va_P (dC, dI) vwCl (gw ad cz ci cj (cnt, fO, fA, fB, fT, sv, fC, rs, dk, ds, fL, fl, fh)) H := by rw [hH]; exact hP
  rw [← hH]
  have hl := lv_entry ([.ref (ad 0), .int (nI n), .int (nI j)]) (n := 3) (Nat.le_of_ble_eq_true rfl)
  rw [lg_entry_eq]
  generalize (lg_sl ([.ref (ad 0), .int (nI n), .int (nI j)]) ++ List.replicate (3 - (lg_sl ([.ref (ad 0), .int (nI n), .int (nI j)])).length) Slot.unset).toArray = ls at hl ⊢
  have hl : lv_has ls 3 [(0, .ref (ad 0)), (1, .int (nI n)), (2, .int (nI j))] := hl
  refine lv_aload_n hx hb dX0_target_0 rfl (lv_at hl 0 rfl) ?_
  refine va_get (D := (dC, dI)) (ci := 0) (v := .ref (ad 4)) (C := RX0) (T := TX0) (N := 13) hx hb hw in_X0 hown hK hP 0 rfl rfl 4 (by decide) (hw _ m_1_22) (fun _ h9 => h9) rfl dX0_target_1 ?_
  refine lv_iload_n hx hb dX0_target_4 rfl (lv_at hl 1 rfl) ?_
  refine lv_bipush (v := 12) hx hb dX0_target_5 (by decide) ?_
  refine lv_imul hx hb dX0_target_7 ?_
  refine x_topi (y := nI (n * 12)) (pk_mul n 12) ?_
  refine lv_iload_n hx hb dX0_target_8 rfl (lv_at hl 2 rfl) ?_
  refine lv_iadd hx hb dX0_target_9 ?_
  refine x_topi (y := nI (n * 12 + j)) (nI_add _ _) ?_
  refine va_iald hx hb hK hP 4 1 rfl rfl (vp_in_nI (by omega) (by decide)) dX0_target_10 ?_
  refine x_topi (y := fT (n * 12 + j)) (by rw [nI_clamp (by omega)]) ?_
  exact W.iret (v := (fT (n * 12 + j))) hx hb hr (fun t ht hW => ⟨⟨(fT (n * 12 + j)), (cnt, fO, fA, fB, fT, sv, fC, rs, dk, ds, fL, fl, fh), rfl, (⟨rfl, rfl⟩), (by rw [ht]; exact hP), va_K.moved hW.alike hK, hD⟩, hS.F ht⟩) hS.2.2 dX0_target_11
set_option maxHeartbeats 4000000 in
set_option maxRecDepth 100000 in
/-- noteDefect(n, kind) -/
theorem c_X0_noteDefect (l : Launch) (dC : Nat → ClassId) (dI : Nat → Nat → Nat) (ad : Nat → Nat) (cz ci cj : ClassId) (sz : Nat) (cnt : Int32) (fO : Nat → Int32) (fA : Nat → Int32) (fB : Nat → Int32) (fT : Nat → Int32) (sv : Int32) (fC : Nat → Int64) (rs : Int64) (dk : Int32) (ds : Int32) (fL : Nat → Int32) (fl : Nat → Int32) (fh : Nat → Int32) (n : Int32) (kd : Int32)  : Met l yX0_noteDefect wX0_noteDefect ({ frames := 0, cells := 0, slots := 0, locals := 0 }) (va_Pc [.ref (ad 0), .int n, .int kd] (g_Pre (dC, dI) vwCl (gty cz ci cj) (gw ad cz ci cj (cnt, fO, fA, fB, fT, sv, fC, rs, dk, ds, fL, fl, fh)) sz)) (va_Qv (fun (u : GS) => u = if kd = 0 then (cnt, fO, fA, fB, fT, sv, fC, rs, dk, ds, fL, fl, fh) else (cnt, fO, fA, fB, fT, sv, fC, rs, kd, n, fL, fl, fh)) (g_At (dC, dI) vwCl (gty cz ci cj) (va_A (gw ad cz ci cj (cnt, fO, fA, fB, fT, sv, fC, rs, dk, ds, fL, fl, fh)) sz) (gw ad cz ci cj)) (va_A (gw ad cz ci cj (cnt, fO, fA, fB, fT, sv, fC, rs, dk, ds, fL, fl, fh)) sz)) 0 0 (va_A (gw ad cz ci cj (cnt, fO, fA, fB, fT, sv, fC, rs, dk, ds, fL, fl, fh)) sz) := by
  refine Met.ofW (cc := cX0_noteDefect) (maxL := 3) (ret := none) (by decide) rfl ?_
  intro p e s m args below meth c s₁ Bd hml hv
  obtain ⟨rfl, hsz, hP, hK, hD0⟩ := hv
  have hx := Bd.exec
  have hb := Bd.bytes
  have hr := Bd.returns
  have hts := atoms_spec (ws := wX0_noteDefect) Bd.pre
  have hw : ∀ w ∈ wAll, w.before _ s = true := fun w h => hts w (List.mem_cons_of_mem _ h)
  have hown : s.vm.findClass "GameGraph" = some m.cls := findClass_of_methodNamed Bd.named
  have hlocks := Bd.notSynchronized
  subst hsz
  have hD := hD0.self (sz := s.heap.size)
  generalize hAe : va_A (gw ad cz ci cj (cnt, fO, fA, fB, fT, sv, fC, rs, dk, ds, fL, fl, fh)) s.heap.size = Ar at hD ⊢
  have hA : ∀ q : Nat, s.heap.size ≤ q → Ar q := fun q h => by rw [← hAe]; exact Or.inr h
  obtain ⟨H, hH⟩ : ∃ H : Heap, H = s.heap := ⟨_, rfl⟩
  have hS : va_S Ar s.heap H [] := by rw [hH]; exact va_S.rf
  have hP : va_P (dC, dI) vwCl (gw ad cz ci cj (cnt, fO, fA, fB, fT, sv, fC, rs, dk, ds, fL, fl, fh)) H := by rw [hH]; exact hP
  rw [← hH]
  have hl := lv_entry ([.ref (ad 0), .int n, .int kd]) (n := 3) (Nat.le_of_ble_eq_true rfl)
  rw [lg_entry_eq]
  generalize (lg_sl ([.ref (ad 0), .int n, .int kd]) ++ List.replicate (3 - (lg_sl ([.ref (ad 0), .int n, .int kd])).length) Slot.unset).toArray = ls at hl ⊢
  have hl : lv_has ls 3 [(0, .ref (ad 0)), (1, .int n), (2, .int kd)] := hl
  refine lv_iload_n hx hb dX0_noteDefect_0 rfl (lv_at hl 2 rfl) ?_
  refine lv_if_eq (tgt := 14) hx hb dX0_noteDefect_1 (by decide) (fun c_1 => ?_) (fun c_1 => ?_)
  · exact W.vret hx hb hr (fun t ht hW => ⟨⟨(cnt, fO, fA, fB, fT, sv, fC, rs, dk, ds, fL, fl, fh), rfl, (by rw [if_pos c_1]), (by rw [ht]; exact hP), va_K.moved hW.alike hK, hD⟩, hS.F ht⟩) hS.2.2 dX0_noteDefect_14
  · refine lv_aload_n hx hb dX0_noteDefect_4 rfl (lv_at hl 0 rfl) ?_
    refine lv_iload_n hx hb dX0_noteDefect_5 rfl (lv_at hl 2 rfl) ?_
    refine va_put (D := (dC, dI)) (ci := 0) (v := .int kd) (ty := .int) (C := RX0) (T := TX0) (N := 13) hx hb hw in_X0 tyX0 tyX0_ok nmX0 hown hK hP hD hS 0 rfl rfl 8 (by decide) (hw _ m_1_26) (fun _ h9 => h9) rfl (by decide +kernel) rfl rfl (Nat.le_of_ble_eq_true rfl) dX0_noteDefect_6 (fun H locs hP hD hS => ?_)
    have hP : va_P (dC, dI) vwCl (gw ad cz ci cj (cnt, fO, fA, fB, fT, sv, fC, rs, kd, ds, fL, fl, fh)) H := hP
    have hD : va_D Ar (gw ad cz ci cj (cnt, fO, fA, fB, fT, sv, fC, rs, kd, ds, fL, fl, fh)) := hD
    refine lv_aload_n hx hb dX0_noteDefect_9 rfl (lv_at hl 0 rfl) ?_
    refine lv_iload_n hx hb dX0_noteDefect_10 rfl (lv_at hl 1 rfl) ?_
    refine va_put (D := (dC, dI)) (ci := 0) (v := .int n) (ty := .int) (C := RX0) (T := TX0) (N := 13) hx hb hw in_X0 tyX0 tyX0_ok nmX0 hown hK hP hD hS 0 rfl rfl 9 (by decide) (hw _ m_1_27) (fun _ h9 => h9) rfl (by decide +kernel) rfl rfl (Nat.le_of_ble_eq_true rfl) dX0_noteDefect_11 (fun H locs hP hD hS => ?_)
    have hP : va_P (dC, dI) vwCl (gw ad cz ci cj (cnt, fO, fA, fB, fT, sv, fC, rs, kd, n, fL, fl, fh)) H := hP
    have hD : va_D Ar (gw ad cz ci cj (cnt, fO, fA, fB, fT, sv, fC, rs, kd, n, fL, fl, fh)) := hD
    exact W.vret hx hb hr (fun t ht hW => ⟨⟨(cnt, fO, fA, fB, fT, sv, fC, rs, kd, n, fL, fl, fh), rfl, (by rw [if_neg c_1]), (by rw [ht]; exact hP), va_K.moved hW.alike hK, hD⟩, hS.F ht⟩) hS.2.2 dX0_noteDefect_14
