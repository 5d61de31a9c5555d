/-! The reference: leaves and writes (by tool/mleaves.py). -/
set_option maxHeartbeats 4000000 in
set_option maxRecDepth 100000 in
theorem c_X1_thrown (l : Launch) (dC : Nat → ClassId) (dI : Nat → Nat → Nat) (ad : Nat → Nat) (cz ci cj : ClassId) (sz : Nat) (st : Int32) (fO : Nat → Int32) (fG : Nat → Int32) (fH : Nat → Int32) (fM : Nat → Int32) (fN : Nat → Int32) (fT : Nat → Int32) (fR : Nat → Int32) (fF : Nat → Int32) (fK : Nat → Int32) (fV : Nat → Int32) (fE : Nat → Int32) (th : Int32)   : Met l yX1_thrown wX1_thrown ({ frames := 0, cells := 0, slots := 0, locals := 0 }) (va_Pc [.ref (ad 0)] (g_Pre (dC, dI) vwCl (gty cz ci cj) (mw ad cz ci cj (st, fO, fG, fH, fM, fN, fT, fR, fF, fK, fV, fE, th)) sz)) (va_Qi (fun (r : Int32) (u : MS) => u = (st, fO, fG, fH, fM, fN, fT, fR, fF, fK, fV, fE, th) ∧ r = th) (g_At (dC, dI) vwCl (gty cz ci cj) (va_A (mw ad cz ci cj (st, fO, fG, fH, fM, fN, fT, fR, fF, fK, fV, fE, th)) sz) (mw ad cz ci cj)) (va_A (mw ad cz ci cj (st, fO, fG, fH, fM, fN, fT, fR, fF, fK, fV, fE, th)) sz)) 0 0 (va_A (mw ad cz ci cj (st, fO, fG, fH, fM, fN, fT, fR, fF, fK, fV, fE, th)) sz) := by
  refine Met.ofW (cc := cX1_thrown) (maxL := 1) (ret := some .int) (by decide) rfl ?_
  intro p e s m args below meth c s₁ Bd hml hv
  obtain ⟨rfl, hsz, hP, hK, hD0⟩ := hv
  have hx := Bd.exec
  have hb := Bd.bytes
  have hr := Bd.returns
  have hts := atoms_spec (ws := wX1_thrown) Bd.pre
  have hw : ∀ w ∈ wAll, w.before _ s = true := fun w h => hts w (List.mem_cons_of_mem _ h)
  have hown : s.vm.findClass "GameGraphModel" = some m.cls := findClass_of_methodNamed Bd.named
  have hlocks := Bd.notSynchronized
  subst hsz
  have hD := hD0.self (sz := s.heap.size)
  generalize hAe : va_A (mw ad cz ci cj (st, fO, fG, fH, fM, fN, fT, fR, fF, fK, fV, fE, th)) s.heap.size = Ar at hD ⊢
  have hA : ∀ q : Nat, s.heap.size ≤ q → Ar q := fun q h => by rw [← hAe]; exact Or.inr h
  obtain ⟨H, hH⟩ : ∃ H : Heap, H = s.heap := ⟨_, rfl⟩
  have hS : va_S Ar s.heap H [] := by rw [hH]; exact va_S.rf
  have hP : va_P (dC, dI) vwCl (mw ad cz ci cj (st, fO, fG, fH, fM, fN, fT, fR, fF, fK, fV, fE, th)) H := by rw [hH]; exact hP
  rw [← hH]
  have hl := lv_entry ([.ref (ad 0)]) (n := 1) (Nat.le_of_ble_eq_true rfl)
  rw [lg_entry_eq]
  generalize (lg_sl ([.ref (ad 0)]) ++ List.replicate (1 - (lg_sl ([.ref (ad 0)])).length) Slot.unset).toArray = ls at hl ⊢
  have hl : lv_has ls 1 [(0, .ref (ad 0))] := hl
  refine lv_aload_n hx hb dX1_thrown_0 rfl (lv_at hl 0 rfl) ?_
  refine va_get (D := (dC, dI)) (ci := 1) (v := .int th) (C := RX1) (T := TX1) (N := 13) hx hb hw in_X1 hown hK hP 0 rfl rfl 12 (by decide) (hw _ m_8_36) (fun _ h9 => h9) rfl dX1_thrown_1 ?_
  exact W.iret (v := th) hx hb hr (fun t ht hW => ⟨⟨th, (st, fO, fG, fH, fM, fN, fT, fR, fF, fK, fV, fE, th), rfl, (⟨rfl, rfl⟩), (by rw [ht]; exact hP), va_K.moved hW.alike hK, hD⟩, hS.F ht⟩) hS.2.2 dX1_thrown_4
set_option maxHeartbeats 4000000 in
set_option maxRecDepth 100000 in
theorem c_X1_isState (l : Launch) (dC : Nat → ClassId) (dI : Nat → Nat → Nat) (ad : Nat → Nat) (cz ci cj : ClassId) (sz : Nat) (st : Int32) (fO : Nat → Int32) (fG : Nat → Int32) (fH : Nat → Int32) (fM : Nat → Int32) (fN : Nat → Int32) (fT : Nat → Int32) (fR : Nat → Int32) (fF : Nat → Int32) (fK : Nat → Int32) (fV : Nat → Int32) (fE : Nat → Int32) (th : Int32) (n : Int32) (k0 : Nat) (hc : st = nI k0) (hk0 : k0 ≤ 60) : Met l yX1_isState wX1_isState ({ frames := 0, cells := 0, slots := 0, locals := 0 }) (va_Pc [.ref (ad 0), .int n] (g_Pre (dC, dI) vwCl (gty cz ci cj) (mw ad cz ci cj (st, fO, fG, fH, fM, fN, fT, fR, fF, fK, fV, fE, th)) sz)) (va_Qi (fun (r : Int32) (u : MS) => u = (st, fO, fG, fH, fM, fN, fT, fR, fF, fK, fV, fE, th) ∧ ((∃ k, k < k0 ∧ n = nI k) ∧ r = 1 ∨ (∀ k, k < k0 → n ≠ nI k) ∧ r = 0)) (g_At (dC, dI) vwCl (gty cz ci cj) (va_A (mw ad cz ci cj (st, fO, fG, fH, fM, fN, fT, fR, fF, fK, fV, fE, th)) sz) (mw ad cz ci cj)) (va_A (mw ad cz ci cj (st, fO, fG, fH, fM, fN, fT, fR, fF, fK, fV, fE, th)) sz)) 0 0 (va_A (mw ad cz ci cj (st, fO, fG, fH, fM, fN, fT, fR, fF, fK, fV, fE, th)) sz) := by
  refine Met.ofW (cc := cX1_isState) (maxL := 2) (ret := some .boolean) (by decide) rfl ?_
  intro p e s m args below meth c s₁ Bd hml hv
  obtain ⟨rfl, hsz, hP, hK, hD0⟩ := hv
  have hx := Bd.exec
  have hb := Bd.bytes
  have hr := Bd.returns
  have hts := atoms_spec (ws := wX1_isState) Bd.pre
  have hw : ∀ w ∈ wAll, w.before _ s = true := fun w h => hts w (List.mem_cons_of_mem _ h)
  have hown : s.vm.findClass "GameGraphModel" = some m.cls := findClass_of_methodNamed Bd.named
  have hlocks := Bd.notSynchronized
  subst hsz
  have hD := hD0.self (sz := s.heap.size)
  generalize hAe : va_A (mw ad cz ci cj (st, fO, fG, fH, fM, fN, fT, fR, fF, fK, fV, fE, th)) s.heap.size = Ar at hD ⊢
  have hA : ∀ q : Nat, s.heap.size ≤ q → Ar q := fun q h => by rw [← hAe]; exact Or.inr h
  obtain ⟨H, hH⟩ : ∃ H : Heap, H = s.heap := ⟨_, rfl⟩
  have hS : va_S Ar s.heap H [] := by rw [hH]; exact va_S.rf
  have hP : va_P (dC, dI) vwCl (mw ad cz ci cj (st, fO, fG, fH, fM, fN, fT, fR, fF, fK, fV, fE, th)) H := by rw [hH]; exact hP
  rw [← hH]
  have hl := lv_entry ([.ref (ad 0), .int n]) (n := 2) (Nat.le_of_ble_eq_true rfl)
  rw [lg_entry_eq]
  generalize (lg_sl ([.ref (ad 0), .int n]) ++ List.replicate (2 - (lg_sl ([.ref (ad 0), .int n])).length) Slot.unset).toArray = ls at hl ⊢
  have hl : lv_has ls 2 [(0, .ref (ad 0)), (1, .int n)] := hl
  refine lv_iload_n hx hb dX1_isState_0 rfl (lv_at hl 1 rfl) ?_
  refine lv_if_lt (tgt := 16) hx hb dX1_isState_1 (by decide) (fun c_1 => ?_) (fun c_1 => ?_)
  · refine lv_iconst (v := 0) hx hb dX1_isState_16 (by decide) ?_
    exact W.zret (v := 0) hx hb hr (by decide) (fun t ht hW => ⟨⟨0, (st, fO, fG, fH, fM, fN, fT, fR, fF, fK, fV, fE, th), rfl, (⟨rfl, Or.inr ⟨fun k hk e => absurd c_1 (by rw [e]; exact nI_pos (by omega)), rfl⟩⟩), (by rw [ht]; exact hP), va_K.moved hW.alike hK, hD⟩, hS.F ht⟩) hS.2.2 dX1_isState_17
  · refine lv_iload_n hx hb dX1_isState_4 rfl (lv_at hl 1 rfl) ?_
    refine lv_aload_n hx hb dX1_isState_5 rfl (lv_at hl 0 rfl) ?_
    refine va_get (D := (dC, dI)) (ci := 1) (v := .int st) (C := RX1) (T := TX1) (N := 13) hx hb hw in_X1 hown hK hP 0 rfl rfl 0 (by decide) (hw _ m_8_24) (fun _ h9 => h9) rfl dX1_isState_6 ?_
    refine lv_icmp_ge (tgt := 16) hx hb dX1_isState_9 (by decide) (fun cb_2 => ?_) (fun cb_2 => ?_)
    · refine lv_iconst (v := 0) hx hb dX1_isState_16 (by decide) ?_
      exact W.zret (v := 0) hx hb hr (by decide) (fun t ht hW => ⟨⟨0, (st, fO, fG, fH, fM, fN, fT, fR, fF, fK, fV, fE, th), rfl, (⟨rfl, Or.inr ⟨fun k hk e => absurd cb_2 (by rw [hc, e]; exact nI_ge hk (by omega)), rfl⟩⟩), (by rw [ht]; exact hP), va_K.moved hW.alike hK, hD⟩, hS.F ht⟩) hS.2.2 dX1_isState_17
    · refine lv_iconst (v := 1) hx hb dX1_isState_12 (by decide) ?_
      refine lv_goto (tgt := 17) hx hb dX1_isState_13 (by decide) ?_
      exact W.zret (v := 1) hx hb hr (by decide) (fun t ht hW => ⟨⟨1, (st, fO, fG, fH, fM, fN, fT, fR, fF, fK, fV, fE, th), rfl, (⟨rfl, Or.inl ⟨k_has hc hk0 c_1 cb_2, rfl⟩⟩), (by rw [ht]; exact hP), va_K.moved hW.alike hK, hD⟩, hS.F ht⟩) hS.2.2 dX1_isState_17
set_option maxHeartbeats 4000000 in
set_option maxRecDepth 100000 in
theorem c_X1_isMany (l : Launch) (x : Int32)  : Met l yX1_isMany wX1_isMany ({ frames := 0, cells := 0, slots := 0, locals := 0 }) (va_Pc [.int x] (fun _ => True)) (va_Qi (fun (r : Int32) (_ : Unit) => r = if 0 ≤ x.toInt ∧ x.toInt ≤ 12 then 1 else 0) (fun _ _ => True) g_No) 0 0 g_No := by
  refine Met.ofW (cc := cX1_isMany) (maxL := 1) (ret := some .boolean) (by decide) rfl ?_
  intro p e s m args below meth c s₁ Bd hml hv
  obtain ⟨rfl, -⟩ := hv
  have hx := Bd.exec
  have hb := Bd.bytes
  have hr := Bd.returns
  have hts := atoms_spec (ws := wX1_isMany) Bd.pre
  have hw : ∀ w ∈ wAll, w.before _ s = true := fun w h => hts w (List.mem_cons_of_mem _ h)
  have hown : s.vm.findClass "GameGraphModel" = some m.cls := findClass_of_methodNamed Bd.named
  have hlocks := Bd.notSynchronized
  have hS : va_S g_No s.heap s.heap [] := va_S.rf
  have hl := lv_entry ([.int x]) (n := 1) (Nat.le_of_ble_eq_true rfl)
  rw [lg_entry_eq]
  generalize (lg_sl ([.int x]) ++ List.replicate (1 - (lg_sl ([.int x])).length) Slot.unset).toArray = ls at hl ⊢
  have hl : lv_has ls 1 [(0, .int x)] := hl
  have e2 : (12 : Int32).toInt = 12 := by decide
  refine lv_iload_n hx hb dX1_isMany_0 rfl (lv_at hl 0 rfl) ?_
  refine lv_if_lt (tgt := 14) hx hb dX1_isMany_1 (by decide) (fun c_1 => ?_) (fun c_1 => ?_)
  · rw [Int32.lt_iff_toInt_lt, Int32.toInt_zero] at c_1
    refine lv_iconst (v := 0) hx hb dX1_isMany_14 (by decide) ?_
    exact W.zret (v := 0) hx hb hr (by decide) (fun t ht hW => ⟨⟨0, (), rfl, (by rw [if_neg]; omega), trivial⟩, hS.F ht⟩) hS.2.2 dX1_isMany_15
  · rw [Int32.lt_iff_toInt_lt, Int32.toInt_zero] at c_1
    refine lv_iload_n hx hb dX1_isMany_4 rfl (lv_at hl 0 rfl) ?_
    refine lv_bipush (v := 12) hx hb dX1_isMany_5 (by decide) ?_
    refine lv_icmp_gt (tgt := 14) hx hb dX1_isMany_7 (by decide) (fun cb_2 => ?_) (fun cb_2 => ?_)
    · rw [Int32.lt_iff_toInt_lt, e2] at cb_2
      refine lv_iconst (v := 0) hx hb dX1_isMany_14 (by decide) ?_
      exact W.zret (v := 0) hx hb hr (by decide) (fun t ht hW => ⟨⟨0, (), rfl, (by rw [if_neg]; omega), trivial⟩, hS.F ht⟩) hS.2.2 dX1_isMany_15
    · rw [Int32.lt_iff_toInt_lt, e2] at cb_2
      refine lv_iconst (v := 1) hx hb dX1_isMany_10 (by decide) ?_
      refine lv_goto (tgt := 15) hx hb dX1_isMany_11 (by decide) ?_
      exact W.zret (v := 1) hx hb hr (by decide) (fun t ht hW => ⟨⟨1, (), rfl, (by rw [if_pos]; omega), trivial⟩, hS.F ht⟩) hS.2.2 dX1_isMany_15
set_option maxHeartbeats 4000000 in
set_option maxRecDepth 100000 in
theorem c_X1_joint (l : Launch) (dC : Nat → ClassId) (dI : Nat → Nat → Nat) (ad : Nat → Nat) (cz ci cj : ClassId) (sz : Nat) (st : Int32) (fO : Nat → Int32) (fG : Nat → Int32) (fH : Nat → Int32) (fM : Nat → Int32) (fN : Nat → Int32) (fT : Nat → Int32) (fR : Nat → Int32) (fF : Nat → Int32) (fK : Nat → Int32) (fV : Nat → Int32) (fE : Nat → Int32) (th : Int32) (n : Nat) (hn : n < 60) : Met l yX1_joint wX1_joint ({ frames := 0, cells := 0, slots := 0, locals := 0 }) (va_Pc [.ref (ad 0), .int (nI n)] (g_Pre (dC, dI) vwCl (gty cz ci cj) (mw ad cz ci cj (st, fO, fG, fH, fM, fN, fT, fR, fF, fK, fV, fE, th)) sz)) (va_Qi (fun (r : Int32) (u : MS) => u = (st, fO, fG, fH, fM, fN, fT, fR, fF, fK, fV, fE, th) ∧ r = if fO n = 0 then 0 else fM n * fN n) (g_At (dC, dI) vwCl (gty cz ci cj) (va_A (mw ad cz ci cj (st, fO, fG, fH, fM, fN, fT, fR, fF, fK, fV, fE, th)) sz) (mw ad cz ci cj)) (va_A (mw ad cz ci cj (st, fO, fG, fH, fM, fN, fT, fR, fF, fK, fV, fE, th)) sz)) 0 0 (va_A (mw ad cz ci cj (st, fO, fG, fH, fM, fN, fT, fR, fF, fK, fV, fE, th)) sz) := by
  refine Met.ofW (cc := cX1_joint) (maxL := 2) (ret := some .int) (by decide) rfl ?_
  intro p e s m args below meth c s₁ Bd hml hv
  obtain ⟨rfl, hsz, hP, hK, hD0⟩ := hv
  have hx := Bd.exec
  have hb := Bd.bytes
  have hr := Bd.returns
  have hts := atoms_spec (ws := wX1_joint) Bd.pre
  have hw : ∀ w ∈ wAll, w.before _ s = true := fun w h => hts w (List.mem_cons_of_mem _ h)
  have hown : s.vm.findClass "GameGraphModel" = some m.cls := findClass_of_methodNamed Bd.named
  have hlocks := Bd.notSynchronized
  subst hsz
  have hD := hD0.self (sz := s.heap.size)
  generalize hAe : va_A (mw ad cz ci cj (st, fO, fG, fH, fM, fN, fT, fR, fF, fK, fV, fE, th)) s.heap.size = Ar at hD ⊢
  have hA : ∀ q : Nat, s.heap.size ≤ q → Ar q := fun q h => by rw [← hAe]; exact Or.inr h
  obtain ⟨H, hH⟩ : ∃ H : Heap, H = s.heap := ⟨_, rfl⟩
  have hS : va_S Ar s.heap H [] := by rw [hH]; exact va_S.rf
  have hP : va_P (dC, dI) vwCl (mw ad cz ci cj (st, fO, fG, fH, fM, fN, fT, fR, fF, fK, fV, fE, th)) H := by rw [hH]; exact hP
  rw [← hH]
  have hl := lv_entry ([.ref (ad 0), .int (nI n)]) (n := 2) (Nat.le_of_ble_eq_true rfl)
  rw [lg_entry_eq]
  generalize (lg_sl ([.ref (ad 0), .int (nI n)]) ++ List.replicate (2 - (lg_sl ([.ref (ad 0), .int (nI n)])).length) Slot.unset).toArray = ls at hl ⊢
  have hl : lv_has ls 2 [(0, .ref (ad 0)), (1, .int (nI n))] := hl
  refine lv_aload_n hx hb dX1_joint_0 rfl (lv_at hl 0 rfl) ?_
  refine va_get (D := (dC, dI)) (ci := 1) (v := .ref (ad 1)) (C := RX1) (T := TX1) (N := 13) hx hb hw in_X1 hown hK hP 0 rfl rfl 1 (by decide) (hw _ m_8_25) (fun _ h9 => h9) rfl dX1_joint_1 ?_
  refine lv_iload_n hx hb dX1_joint_4 rfl (lv_at hl 1 rfl) ?_
  refine va_zald hx hb hK hP 1 0 rfl rfl (vp_in_nI (by omega) (by decide)) dX1_joint_5 ?_
  refine x_topi (y := fO n) (by rw [nI_clamp (by omega)]) ?_
  refine lv_if_eq (tgt := 25) hx hb dX1_joint_6 (by decide) (fun c_1 => ?_) (fun c_1 => ?_)
  · refine lv_iconst (v := 0) hx hb dX1_joint_25 (by decide) ?_
    exact W.iret (v := 0) hx hb hr (fun t ht hW => ⟨⟨0, (st, fO, fG, fH, fM, fN, fT, fR, fF, fK, fV, fE, th), rfl, (⟨rfl, by rw [if_pos c_1]⟩), (by rw [ht]; exact hP), va_K.moved hW.alike hK, hD⟩, hS.F ht⟩) hS.2.2 dX1_joint_26
  · refine lv_aload_n hx hb dX1_joint_9 rfl (lv_at hl 0 rfl) ?_
    refine va_get (D := (dC, dI)) (ci := 1) (v := .ref (ad 4)) (C := RX1) (T := TX1) (N := 13) hx hb hw in_X1 hown hK hP 0 rfl rfl 4 (by decide) (hw _ m_8_28) (fun _ h9 => h9) rfl dX1_joint_10 ?_
    refine lv_iload_n hx hb dX1_joint_13 rfl (lv_at hl 1 rfl) ?_
    refine va_iald hx hb hK hP 4 1 rfl rfl (vp_in_nI (by omega) (by decide)) dX1_joint_14 ?_
    refine x_topi (y := fM n) (by rw [nI_clamp (by omega)]) ?_
    refine lv_aload_n hx hb dX1_joint_15 rfl (lv_at hl 0 rfl) ?_
    refine va_get (D := (dC, dI)) (ci := 1) (v := .ref (ad 5)) (C := RX1) (T := TX1) (N := 13) hx hb hw in_X1 hown hK hP 0 rfl rfl 5 (by decide) (hw _ m_8_29) (fun _ h9 => h9) rfl dX1_joint_16 ?_
    refine lv_iload_n hx hb dX1_joint_19 rfl (lv_at hl 1 rfl) ?_
    refine va_iald hx hb hK hP 5 1 rfl rfl (vp_in_nI (by omega) (by decide)) dX1_joint_20 ?_
    refine x_topi (y := fN n) (by rw [nI_clamp (by omega)]) ?_
    refine lv_imul hx hb dX1_joint_21 ?_
    refine lv_goto (tgt := 26) hx hb dX1_joint_22 (by decide) ?_
    exact W.iret (v := ((fM n) * (fN n))) hx hb hr (fun t ht hW => ⟨⟨((fM n) * (fN n)), (st, fO, fG, fH, fM, fN, fT, fR, fF, fK, fV, fE, th), rfl, (⟨rfl, by rw [if_neg c_1]⟩), (by rw [ht]; exact hP), va_K.moved hW.alike hK, hD⟩, hS.F ht⟩) hS.2.2 dX1_joint_26
set_option maxHeartbeats 4000000 in
set_option maxRecDepth 100000 in
theorem c_X1_isJoint (l : Launch) (dC : Nat → ClassId) (dI : Nat → Nat → Nat) (ad : Nat → Nat) (cz ci cj : ClassId) (sz : Nat) (st : Int32) (fO : Nat → Int32) (fG : Nat → Int32) (fH : Nat → Int32) (fM : Nat → Int32) (fN : Nat → Int32) (fT : Nat → Int32) (fR : Nat → Int32) (fF : Nat → Int32) (fK : Nat → Int32) (fV : Nat → Int32) (fE : Nat → Int32) (th : Int32) (n : Int32) (j : Int32) (sO sA sB sT : Nat → Int32) (c0 : Nat) (hg : g_ok c0 sO sA sB sT) (hm : m_rel c0 sO sA sB sT fO fG fH fM fN fT) : Met l yX1_isJoint wX1_isJoint ({ frames := 1, cells := 0, slots := 0, locals := 21 }) (va_Pc [.ref (ad 0), .int n, .int j] (g_Pre (dC, dI) vwCl (gty cz ci cj) (mw ad cz ci cj ((nI c0), fO, fG, fH, fM, fN, fT, fR, fF, fK, fV, fE, th)) sz)) (va_Qi (fun (r : Int32) (u : MS) => u = ((nI c0), fO, fG, fH, fM, fN, fT, fR, fF, fK, fV, fE, th) ∧ ((∃ a i, a < c0 ∧ i < gmv sO sA sB a ∧ n = nI a ∧ j = nI i) ∧ r = 1 ∨ (∀ a i, a < c0 → i < gmv sO sA sB a → ¬ (n = nI a ∧ j = nI i)) ∧ r = 0)) (g_At (dC, dI) vwCl (gty cz ci cj) (va_A (mw ad cz ci cj ((nI c0), fO, fG, fH, fM, fN, fT, fR, fF, fK, fV, fE, th)) sz) (mw ad cz ci cj)) (va_A (mw ad cz ci cj ((nI c0), fO, fG, fH, fM, fN, fT, fR, fF, fK, fV, fE, th)) sz)) 0 0 (va_A (mw ad cz ci cj ((nI c0), fO, fG, fH, fM, fN, fT, fR, fF, fK, fV, fE, th)) sz) := by
  refine Met.ofW (cc := cX1_isJoint) (maxL := 3) (ret := some .boolean) (by decide) rfl ?_
  intro p e s m args below meth c s₁ Bd hml hv
  obtain ⟨rfl, hsz, hP, hK, hD0⟩ := hv
  have hx := Bd.exec
  have hb := Bd.bytes
  have hr := Bd.returns
  have hts := atoms_spec (ws := wX1_isJoint) Bd.pre
  have hw : ∀ w ∈ wAll, w.before _ s = true := fun w h => hts w (List.mem_cons_of_mem _ h)
  have hown : s.vm.findClass "GameGraphModel" = some m.cls := findClass_of_methodNamed Bd.named
  have hlocks := Bd.notSynchronized
  subst hsz
  have hD := hD0.self (sz := s.heap.size)
  generalize hAe : va_A (mw ad cz ci cj ((nI c0), fO, fG, fH, fM, fN, fT, fR, fF, fK, fV, fE, th)) s.heap.size = Ar at hD ⊢
  have hA : ∀ q : Nat, s.heap.size ≤ q → Ar q := fun q h => by rw [← hAe]; exact Or.inr h
  obtain ⟨H, hH⟩ : ∃ H : Heap, H = s.heap := ⟨_, rfl⟩
  have hS : va_S Ar s.heap H [] := by rw [hH]; exact va_S.rf
  have hP : va_P (dC, dI) vwCl (mw ad cz ci cj ((nI c0), fO, fG, fH, fM, fN, fT, fR, fF, fK, fV, fE, th)) H := by rw [hH]; exact hP
  rw [← hH]
  have hl := lv_entry ([.ref (ad 0), .int n, .int j]) (n := 3) (Nat.le_of_ble_eq_true rfl)
  rw [lg_entry_eq]
  generalize (lg_sl ([.ref (ad 0), .int n, .int j]) ++ List.replicate (3 - (lg_sl ([.ref (ad 0), .int n, .int j])).length) Slot.unset).toArray = ls at hl ⊢
  have hl : lv_has ls 3 [(0, .ref (ad 0)), (1, .int n), (2, .int j)] := hl
  have h60 := hg.2.1
  refine lv_aload_n hx hb dX1_isJoint_0 rfl (lv_at hl 0 rfl) ?_
  refine lv_iload_n hx hb dX1_isJoint_1 rfl (lv_at hl 1 rfl) ?_
  refine g_calli ⟨hx, hb, hml, hown, hw⟩ (c_X1_isState l dC dI ad cz ci cj H.size (nI c0) fO fG fH fM fN fT fR fF fK fV fE th n c0 rfl hg.2.1) (cwV 1 hw gv_X1_X1_isState rfl rfl rfl (by decide +kernel) ⟨Nat.le_of_ble_eq_true rfl, Nat.le_of_ble_eq_true rfl⟩) hK hP hD hS hA (ci := 1) (q0 := 0) rfl rfl rfl hl.1 rfl (Nat.le_of_ble_eq_true rfl) dX1_isJoint_2 ⟨Nat.zero_le _, Nat.zero_le _⟩ (fun r_1 un H locs hq hP hD hS => ?_)
  obtain ⟨rfl, hq⟩ := hq
  have hP : va_P (dC, dI) vwCl (mw ad cz ci cj ((nI c0), fO, fG, fH, fM, fN, fT, fR, fF, fK, fV, fE, th)) H := hP
  have hD : va_D Ar (mw ad cz ci cj ((nI c0), fO, fG, fH, fM, fN, fT, fR, fF, fK, fV, fE, th)) := hD
  refine lv_if_eq (tgt := 25) hx hb dX1_isJoint_5 (by decide) (fun c_2 => ?_) (fun c_2 => ?_)
  · have hno : ∀ k, k < c0 → n ≠ nI k := by rcases hq with ⟨_, a⟩ | ⟨a, _⟩; exact absurd c_2 (by rw [a]; decide); exact a
    refine lv_iconst (v := 0) hx hb dX1_isJoint_25 (by decide) ?_
    exact W.zret (v := 0) hx hb hr (by decide) (fun t ht hW => ⟨⟨0, ((nI c0), fO, fG, fH, fM, fN, fT, fR, fF, fK, fV, fE, th), rfl, (⟨rfl, Or.inr ⟨fun a i ha _ h => hno a ha h.1, rfl⟩⟩), (by rw [ht]; exact hP), va_K.moved hW.alike hK, hD⟩, hS.F ht⟩) hS.2.2 dX1_isJoint_26
  · have hyes : ∃ k, k < c0 ∧ n = nI k := by rcases hq with ⟨a, _⟩ | ⟨_, a⟩; exact a; exact absurd a c_2
    obtain ⟨k, hk, rfl⟩ := hyes
    have h12 := (g_mvI hg hk).2
    refine lv_iload_n hx hb dX1_isJoint_8 rfl (lv_at hl 2 rfl) ?_
    refine lv_if_lt (tgt := 25) hx hb dX1_isJoint_9 (by decide) (fun cb_3 => ?_) (fun cb_3 => ?_)
    · refine lv_iconst (v := 0) hx hb dX1_isJoint_25 (by decide) ?_
      exact W.zret (v := 0) hx hb hr (by decide) (fun t ht hW => ⟨⟨0, ((nI c0), fO, fG, fH, fM, fN, fT, fR, fF, fK, fV, fE, th), rfl, (⟨rfl, Or.inr ⟨fun a i ha hi h => absurd cb_3 (by rw [h.2]; exact nI_pos (by have := (g_mvI hg ha).2; omega)), rfl⟩⟩), (by rw [ht]; exact hP), va_K.moved hW.alike hK, hD⟩, hS.F ht⟩) hS.2.2 dX1_isJoint_26
    · refine lv_iload_n hx hb dX1_isJoint_12 rfl (lv_at hl 2 rfl) ?_
      refine lv_aload_n hx hb dX1_isJoint_13 rfl (lv_at hl 0 rfl) ?_
      refine lv_iload_n hx hb dX1_isJoint_14 rfl (lv_at hl 1 rfl) ?_
      refine g_calli ⟨hx, hb, hml, hown, hw⟩ (c_X1_joint l dC dI ad cz ci cj H.size (nI c0) fO fG fH fM fN fT fR fF fK fV fE th k (by omega)) (cwV 1 hw gv_X1_X1_joint rfl rfl rfl (by decide +kernel) ⟨Nat.le_of_ble_eq_true rfl, Nat.le_of_ble_eq_true rfl⟩) hK hP hD hS hA (ci := 1) (q0 := 0) rfl rfl rfl hl.1 rfl (Nat.le_of_ble_eq_true rfl) dX1_isJoint_15 ⟨Nat.zero_le _, Nat.zero_le _⟩ (fun rbb_4 un H locs hq hP hD hS => ?_)
      obtain ⟨rfl, hq⟩ := hq
      have hP : va_P (dC, dI) vwCl (mw ad cz ci cj ((nI c0), fO, fG, fH, fM, fN, fT, fR, fF, fK, fV, fE, th)) H := hP
      have hD : va_D Ar (mw ad cz ci cj ((nI c0), fO, fG, fH, fM, fN, fT, fR, fF, fK, fV, fE, th)) := hD
      refine x_topi (y := nI (gmv sO sA sB k)) (by rw [hq]; exact (m_mv hg hm hk).1) ?_
      refine lv_icmp_ge (tgt := 25) hx hb dX1_isJoint_18 (by decide) (fun cbb_5 => ?_) (fun cbb_5 => ?_)
      · refine lv_iconst (v := 0) hx hb dX1_isJoint_25 (by decide) ?_
        exact W.zret (v := 0) hx hb hr (by decide) (fun t ht hW => ⟨⟨0, ((nI c0), fO, fG, fH, fM, fN, fT, fR, fF, fK, fV, fE, th), rfl, (⟨rfl, Or.inr ⟨fun a i ha hi h => by have e := k_inj (by omega) (by omega) h.1; subst e; exact absurd cbb_5 (by rw [h.2]; exact nI_ge hi (by omega)), rfl⟩⟩), (by rw [ht]; exact hP), va_K.moved hW.alike hK, hD⟩, hS.F ht⟩) hS.2.2 dX1_isJoint_26
      · obtain ⟨i, hi, rfl⟩ := nI_of cb_3
        refine lv_iconst (v := 1) hx hb dX1_isJoint_21 (by decide) ?_
        refine lv_goto (tgt := 26) hx hb dX1_isJoint_22 (by decide) ?_
        exact W.zret (v := 1) hx hb hr (by decide) (fun t ht hW => ⟨⟨1, ((nI c0), fO, fG, fH, fM, fN, fT, fR, fF, fK, fV, fE, th), rfl, (⟨rfl, Or.inl ⟨⟨k, i, hk, k_lt cbb_5 (by omega), rfl, rfl⟩, rfl⟩⟩), (by rw [ht]; exact hP), va_K.moved hW.alike hK, hD⟩, hS.F ht⟩) hS.2.2 dX1_isJoint_26
theorem k_ev3 {a b c : Nat → Int32} {i : Nat} (h : ∀ k, k < i → a k = 0 ∧ b k = 50 ∧ c k = 50) : ∀ k, k < i + 1 → upd a i 0 k = 0 ∧ upd b i 50 k = 50 ∧ upd c i 50 k = 50 := by
  intro k hk
  by_cases e : k = i
  · subst e; exact ⟨pk_us, pk_us, pk_us⟩
  · rw [pk_un e, pk_un e, pk_un e]; exact h k (by omega)
set_option maxHeartbeats 4000000 in
set_option maxRecDepth 100000 in
theorem lm_states {p : Program} {l : Launch} {e : Env} {R : Room} {s : State} {m : MethodId} {args : Array Value} {below : List Frame} {meth : Method} {c : Code} {Q : State → Prop} {dC : Nat → ClassId} {dI : Nat → Nat → Nat} {ad : Nat → Nat} {cz ci cj : ClassId} {Ar : Nat → Prop}  (hx : p.tables.exec = Jvm.exec) (hb : c.code = cX1_states) (hml : c.maxLocals = 3) (hown : s.vm.findClass "GameGraphModel" = some m.cls) (hw : ∀ w ∈ wAll, w.before args s = true) (hK : va_K (dC, dI) vwCl (gty cz ci cj) s) (hA : ∀ q, s.heap.size ≤ q → Ar q) (hR1 : 0 ≤ R.frames) (hR2 : 0 ≤ R.locals) (fM fN fT fR fF fK fV fE : Nat → Int32) (num : Nat) (hn : num ≤ 60)
    (kx : ∀ (fO2 : Nat → Int32) (fG2 : Nat → Int32) (fH2 : Nat → Int32), (∀ k, k < num → fO2 k = 0 ∧ fG2 k = 50 ∧ fH2 k = 50) → ∀ (H : Heap) (locs : List Loc), va_P (dC, dI) vwCl (mw ad cz ci cj ((nI num), fO2, fG2, fH2, fM, fN, fT, fR, fF, fK, fV, fE, 0)) H → va_D Ar (mw ad cz ci cj ((nI num), fO2, fG2, fH2, fM, fN, fT, fR, fF, fK, fV, fE, 0)) → va_S Ar s.heap H locs → ∀ (ls : Array Slot), lv_has ls 3 [(0, .ref (ad 0))] → W p l e R s m args below meth c H locs 0 0 Q (F0 m 69 ls [])) :
    ∀ (fuel : Nat) (i : Nat) (fO2 : Nat → Int32) (fG2 : Nat → Int32) (fH2 : Nat → Int32), num + 1 ≤ i + fuel → i ≤ num → (∀ k, k < i → fO2 k = 0 ∧ fG2 k = 50 ∧ fH2 k = 50) → ∀ (H : Heap) (locs : List Loc), va_P (dC, dI) vwCl (mw ad cz ci cj ((nI num), fO2, fG2, fH2, fM, fN, fT, fR, fF, fK, fV, fE, 0)) H → va_D Ar (mw ad cz ci cj ((nI num), fO2, fG2, fH2, fM, fN, fT, fR, fF, fK, fV, fE, 0)) → va_S Ar s.heap H locs → ∀ (ls : Array Slot), lv_has ls 3 [(0, .ref (ad 0)), (1, .int (nI num)), (2, .int (nI i))] → W p l e R s m args below meth c H locs 0 0 Q (F0 m 35 ls []) := by
  intro fuel
  induction fuel with
  | zero => intro i fO2 fG2 fH2 hfu hi hI; exact absurd hfu (by omega)
  | succ fuel ih =>
    intro i fO2 fG2 fH2 hfu hi hI H locs hP hD hS ls hl
    refine lv_iload_n hx hb dX1_states_35 rfl (lv_at hl 2 rfl) ?_
    refine lv_iload_n hx hb dX1_states_36 rfl (lv_at hl 1 rfl) ?_
    refine lv_icmp_ge (tgt := 69) hx hb dX1_states_37 (by decide) (fun c_1 => ?_) (fun c_1 => ?_)
    · exact kx fO2 fG2 fH2 (by rw [show i = num from (k_eq hi c_1 (by omega)).symm] at hI; exact hI) _ _ hP hD hS _ (lv_sub hl [0] rfl)
    · have hlt : i < num := k_lt c_1 (by omega)
      refine lv_aload_n hx hb dX1_states_40 rfl (lv_at hl 0 rfl) ?_
      refine va_get (D := (dC, dI)) (ci := 1) (v := .ref (ad 1)) (C := RX1) (T := TX1) (N := 13) hx hb hw in_X1 hown hK hP 0 rfl rfl 1 (by decide) (hw _ m_8_25) (fun _ h9 => h9) rfl dX1_states_41 ?_
      refine lv_iload_n hx hb dX1_states_44 rfl (lv_at hl 2 rfl) ?_
      refine lv_iconst (v := 0) hx hb dX1_states_45 (by decide) ?_
      refine va_zast hx hb hK hP hD hS 1 0 rfl rfl (vp_in_nI (by omega) (by decide)) dX1_states_46 (fun H locs hP hD hS => ?_)
      rw [nI_clamp (by omega)] at hP hD
      rw [show vp_nar .boolean 0 = 0 by decide] at hP hD
      have hP : va_P (dC, dI) vwCl (mw ad cz ci cj ((nI num), (upd fO2 i 0), fG2, fH2, fM, fN, fT, fR, fF, fK, fV, fE, 0)) H := hP
      have hD : va_D Ar (mw ad cz ci cj ((nI num), (upd fO2 i 0), fG2, fH2, fM, fN, fT, fR, fF, fK, fV, fE, 0)) := hD
      refine lv_aload_n hx hb dX1_states_47 rfl (lv_at hl 0 rfl) ?_
      refine va_get (D := (dC, dI)) (ci := 1) (v := .ref (ad 2)) (C := RX1) (T := TX1) (N := 13) hx hb hw in_X1 hown hK hP 0 rfl rfl 2 (by decide) (hw _ m_8_26) (fun _ h9 => h9) rfl dX1_states_48 ?_
      refine lv_iload_n hx hb dX1_states_51 rfl (lv_at hl 2 rfl) ?_
      refine lv_bipush (v := 50) hx hb dX1_states_52 (by decide) ?_
      refine va_iast hx hb hK hP hD hS 2 1 rfl rfl (vp_in_nI (by omega) (by decide)) dX1_states_54 (fun H locs hP hD hS => ?_)
      rw [nI_clamp (by omega)] at hP hD
      have hP : va_P (dC, dI) vwCl (mw ad cz ci cj ((nI num), (upd fO2 i 0), (upd fG2 i 50), fH2, fM, fN, fT, fR, fF, fK, fV, fE, 0)) H := hP
      have hD : va_D Ar (mw ad cz ci cj ((nI num), (upd fO2 i 0), (upd fG2 i 50), fH2, fM, fN, fT, fR, fF, fK, fV, fE, 0)) := hD
      refine lv_aload_n hx hb dX1_states_55 rfl (lv_at hl 0 rfl) ?_
      refine va_get (D := (dC, dI)) (ci := 1) (v := .ref (ad 3)) (C := RX1) (T := TX1) (N := 13) hx hb hw in_X1 hown hK hP 0 rfl rfl 3 (by decide) (hw _ m_8_27) (fun _ h9 => h9) rfl dX1_states_56 ?_
      refine lv_iload_n hx hb dX1_states_59 rfl (lv_at hl 2 rfl) ?_
      refine lv_bipush (v := 50) hx hb dX1_states_60 (by decide) ?_
      refine va_iast hx hb hK hP hD hS 3 1 rfl rfl (vp_in_nI (by omega) (by decide)) dX1_states_62 (fun H locs hP hD hS => ?_)
      rw [nI_clamp (by omega)] at hP hD
      have hP : va_P (dC, dI) vwCl (mw ad cz ci cj ((nI num), (upd fO2 i 0), (upd fG2 i 50), (upd fH2 i 50), fM, fN, fT, fR, fF, fK, fV, fE, 0)) H := hP
      have hD : va_D Ar (mw ad cz ci cj ((nI num), (upd fO2 i 0), (upd fG2 i 50), (upd fH2 i 50), fM, fN, fT, fR, fF, fK, fV, fE, 0)) := hD
      refine lv_iinc (v := (nI (i + 1))) (lv' := [(2, .int (nI (i + 1))), (0, .ref (ad 0)), (1, .int (nI num))]) hx hb dX1_states_63 hl (k := 2) rfl (nI_1 i) (by decide) rfl (fun ls hl => ?_)
      refine lv_goto (tgt := 35) hx hb dX1_states_66 (by decide) ?_
      exact ih (i + 1) (upd fO2 i 0) (upd fG2 i 50) (upd fH2 i 50) (by omega) (by omega) (k_ev3 hI) _ _ hP hD hS _ (lv_sub hl [1, 2, 0] rfl)
set_option maxHeartbeats 4000000 in
set_option maxRecDepth 100000 in
theorem c_X1_states (l : Launch) (dC : Nat → ClassId) (dI : Nat → Nat → Nat) (ad : Nat → Nat) (cz ci cj : ClassId) (sz : Nat) (st : Int32) (fO : Nat → Int32) (fG : Nat → Int32) (fH : Nat → Int32) (fM : Nat → Int32) (fN : Nat → Int32) (fT : Nat → Int32) (fR : Nat → Int32) (fF : Nat → Int32) (fK : Nat → Int32) (fV : Nat → Int32) (fE : Nat → Int32) (th : Int32) (n : Int32)  : Met l yX1_states wX1_states ({ frames := 0, cells := 0, slots := 0, locals := 0 }) (va_Pc [.ref (ad 0), .int n] (g_Pre (dC, dI) vwCl (gty cz ci cj) (mw ad cz ci cj (st, fO, fG, fH, fM, fN, fT, fR, fF, fK, fV, fE, th)) sz)) (va_Qv (fun (u : MS) => (∃ num, 1 ≤ num ∧ num ≤ 60 ∧ n = nI num ∧ ∃ fO2 fG2 fH2 : Nat → Int32, (∀ k, k < num → fO2 k = 0 ∧ fG2 k = 50 ∧ fH2 k = 50) ∧ u = (nI num, fO2, fG2, fH2, fM, fN, fT, fR, fF, fK, fV, fE, 0)) ∨ ((∀ k, 1 ≤ k → k ≤ 60 → n ≠ nI k) ∧ u = (st, fO, fG, fH, fM, fN, fT, fR, fF, fK, fV, fE, 1))) (g_At (dC, dI) vwCl (gty cz ci cj) (va_A (mw ad cz ci cj (st, fO, fG, fH, fM, fN, fT, fR, fF, fK, fV, fE, th)) sz) (mw ad cz ci cj)) (va_A (mw ad cz ci cj (st, fO, fG, fH, fM, fN, fT, fR, fF, fK, fV, fE, th)) sz)) 0 0 (va_A (mw ad cz ci cj (st, fO, fG, fH, fM, fN, fT, fR, fF, fK, fV, fE, th)) sz) := by
  refine Met.ofW (cc := cX1_states) (maxL := 3) (ret := none) (by decide) rfl ?_
  intro p e s m args below meth c s₁ Bd hml hv
  obtain ⟨rfl, hsz, hP, hK, hD0⟩ := hv
  have hx := Bd.exec
  have hb := Bd.bytes
  have hr := Bd.returns
  have hts := atoms_spec (ws := wX1_states) Bd.pre
  have hw : ∀ w ∈ wAll, w.before _ s = true := fun w h => hts w (List.mem_cons_of_mem _ h)
  have hown : s.vm.findClass "GameGraphModel" = some m.cls := findClass_of_methodNamed Bd.named
  have hlocks := Bd.notSynchronized
  subst hsz
  have hD := hD0.self (sz := s.heap.size)
  generalize hAe : va_A (mw ad cz ci cj (st, fO, fG, fH, fM, fN, fT, fR, fF, fK, fV, fE, th)) s.heap.size = Ar at hD ⊢
  have hA : ∀ q : Nat, s.heap.size ≤ q → Ar q := fun q h => by rw [← hAe]; exact Or.inr h
  obtain ⟨H, hH⟩ : ∃ H : Heap, H = s.heap := ⟨_, rfl⟩
  have hS : va_S Ar s.heap H [] := by rw [hH]; exact va_S.rf
  have hP : va_P (dC, dI) vwCl (mw ad cz ci cj (st, fO, fG, fH, fM, fN, fT, fR, fF, fK, fV, fE, th)) H := by rw [hH]; exact hP
  rw [← hH]
  have hl := lv_entry ([.ref (ad 0), .int n]) (n := 3) (Nat.le_of_ble_eq_true rfl)
  rw [lg_entry_eq]
  generalize (lg_sl ([.ref (ad 0), .int n]) ++ List.replicate (3 - (lg_sl ([.ref (ad 0), .int n])).length) Slot.unset).toArray = ls at hl ⊢
  have hl : lv_has ls 3 [(0, .ref (ad 0)), (1, .int n)] := hl
  refine lv_aload_n hx hb dX1_states_0 rfl (lv_at hl 0 rfl) ?_
  refine lv_iload_n hx hb dX1_states_1 rfl (lv_at hl 1 rfl) ?_
  refine lv_iconst (v := 1) hx hb dX1_states_2 (by decide) ?_
  refine lv_icmp_lt (tgt := 12) hx hb dX1_states_3 (by decide) (fun c_1 => ?_) (fun c_1 => ?_)
  · refine lv_iconst (v := 1) hx hb dX1_states_12 (by decide) ?_
    refine lv_goto (tgt := 17) hx hb dX1_states_13 (by decide) ?_
    refine va_put (D := (dC, dI)) (ci := 1) (v := .int 1) (ty := .int) (C := RX1) (T := TX1) (N := 13) hx hb hw in_X1 tyX1 tyX1_ok nmX1 hown hK hP hD hS 0 rfl rfl 12 (by decide) (hw _ m_8_36) (fun _ h9 => h9) rfl (by decide +kernel) rfl rfl (Nat.le_of_ble_eq_true rfl) dX1_states_17 (fun H locs hP hD hS => ?_)
    have hP : va_P (dC, dI) vwCl (mw ad cz ci cj (st, fO, fG, fH, fM, fN, fT, fR, fF, fK, fV, fE, 1)) H := hP
    have hD : va_D Ar (mw ad cz ci cj (st, fO, fG, fH, fM, fN, fT, fR, fF, fK, fV, fE, 1)) := hD
    refine lv_aload_n hx hb dX1_states_20 rfl (lv_at hl 0 rfl) ?_
    refine va_get (D := (dC, dI)) (ci := 1) (v := .int 1) (C := RX1) (T := TX1) (N := 13) hx hb hw in_X1 hown hK hP 0 rfl rfl 12 (by decide) (hw _ m_8_36) (fun _ h9 => h9) rfl dX1_states_21 ?_
    refine lv_if_eq (tgt := 28) hx hb dX1_states_24 (by decide) (fun ca_2 => ?_) (fun ca_2 => ?_)
    · exact absurd ca_2 (by decide)
    · exact W.vret hx hb hr (fun t ht hW => ⟨⟨(st, fO, fG, fH, fM, fN, fT, fR, fF, fK, fV, fE, 1), rfl, (Or.inr ⟨k_160' (Or.inl c_1), rfl⟩), (by rw [ht]; exact hP), va_K.moved hW.alike hK, hD⟩, hS.F ht⟩) hS.2.2 dX1_states_27
  · refine lv_iload_n hx hb dX1_states_6 rfl (lv_at hl 1 rfl) ?_
    refine lv_bipush (v := 60) hx hb dX1_states_7 (by decide) ?_
    refine lv_icmp_le (tgt := 16) hx hb dX1_states_9 (by decide) (fun cb_2 => ?_) (fun cb_2 => ?_)
    · obtain ⟨num, hn1, hn2, rfl⟩ := k_160 c_1 cb_2
      refine lv_iconst (v := 0) hx hb dX1_states_16 (by decide) ?_
      refine va_put (D := (dC, dI)) (ci := 1) (v := .int 0) (ty := .int) (C := RX1) (T := TX1) (N := 13) hx hb hw in_X1 tyX1 tyX1_ok nmX1 hown hK hP hD hS 0 rfl rfl 12 (by decide) (hw _ m_8_36) (fun _ h9 => h9) rfl (by decide +kernel) rfl rfl (Nat.le_of_ble_eq_true rfl) dX1_states_17 (fun H locs hP hD hS => ?_)
      have hP : va_P (dC, dI) vwCl (mw ad cz ci cj (st, fO, fG, fH, fM, fN, fT, fR, fF, fK, fV, fE, 0)) H := hP
      have hD : va_D Ar (mw ad cz ci cj (st, fO, fG, fH, fM, fN, fT, fR, fF, fK, fV, fE, 0)) := hD
      refine lv_aload_n hx hb dX1_states_20 rfl (lv_at hl 0 rfl) ?_
      refine va_get (D := (dC, dI)) (ci := 1) (v := .int 0) (C := RX1) (T := TX1) (N := 13) hx hb hw in_X1 hown hK hP 0 rfl rfl 12 (by decide) (hw _ m_8_36) (fun _ h9 => h9) rfl dX1_states_21 ?_
      refine lv_if_eq (tgt := 28) hx hb dX1_states_24 (by decide) (fun cba_3 => ?_) (fun cba_3 => ?_)
      · refine lv_aload_n hx hb dX1_states_28 rfl (lv_at hl 0 rfl) ?_
        refine lv_iload_n hx hb dX1_states_29 rfl (lv_at hl 1 rfl) ?_
        refine va_put (D := (dC, dI)) (ci := 1) (v := .int (nI num)) (ty := .int) (C := RX1) (T := TX1) (N := 13) hx hb hw in_X1 tyX1 tyX1_ok nmX1 hown hK hP hD hS 0 rfl rfl 0 (by decide) (hw _ m_8_24) (fun _ h9 => h9) rfl (by decide +kernel) rfl rfl (Nat.le_of_ble_eq_true rfl) dX1_states_30 (fun H locs hP hD hS => ?_)
        have hP : va_P (dC, dI) vwCl (mw ad cz ci cj ((nI num), fO, fG, fH, fM, fN, fT, fR, fF, fK, fV, fE, 0)) H := hP
        have hD : va_D Ar (mw ad cz ci cj ((nI num), fO, fG, fH, fM, fN, fT, fR, fF, fK, fV, fE, 0)) := hD
        refine lv_iconst (v := 0) hx hb dX1_states_33 (by decide) ?_
        refine x_topi (y := nI 0) (rfl) ?_
        refine lv_istore_n (lv' := [(2, .int (nI 0)), (0, .ref (ad 0)), (1, .int (nI num))]) hx hb dX1_states_34 rfl hl (by decide) rfl (fun ls hl => ?_)
        refine lm_states (dC := dC) (dI := dI) (ad := ad) (cz := cz) (ci := ci) (cj := cj) (Ar := Ar) hx hb hml hown hw hK hA (Nat.le_of_ble_eq_true rfl) (Nat.le_of_ble_eq_true rfl) fM fN fT fR fF fK fV fE num hn2 ?_  (num + 1) 0 fO fG fH (by omega) (by omega) (fun k hk => absurd hk (Nat.not_lt_zero _)) _ _ hP hD hS _ (lv_sub hl [1, 2, 0] rfl)
        intro fO2 fG2 fH2 hI H locs hP hD hS ls hl
        exact W.vret hx hb hr (fun t ht hW => ⟨⟨((nI num), fO2, fG2, fH2, fM, fN, fT, fR, fF, fK, fV, fE, 0), rfl, (Or.inl ⟨num, hn1, hn2, rfl, fO2, fG2, fH2, hI, rfl⟩), (by rw [ht]; exact hP), va_K.moved hW.alike hK, hD⟩, hS.F ht⟩) hS.2.2 dX1_states_69
      · exact absurd rfl cba_3
    · refine lv_iconst (v := 1) hx hb dX1_states_12 (by decide) ?_
      refine lv_goto (tgt := 17) hx hb dX1_states_13 (by decide) ?_
      refine va_put (D := (dC, dI)) (ci := 1) (v := .int 1) (ty := .int) (C := RX1) (T := TX1) (N := 13) hx hb hw in_X1 tyX1 tyX1_ok nmX1 hown hK hP hD hS 0 rfl rfl 12 (by decide) (hw _ m_8_36) (fun _ h9 => h9) rfl (by decide +kernel) rfl rfl (Nat.le_of_ble_eq_true rfl) dX1_states_17 (fun H locs hP hD hS => ?_)
      have hP : va_P (dC, dI) vwCl (mw ad cz ci cj (st, fO, fG, fH, fM, fN, fT, fR, fF, fK, fV, fE, 1)) H := hP
      have hD : va_D Ar (mw ad cz ci cj (st, fO, fG, fH, fM, fN, fT, fR, fF, fK, fV, fE, 1)) := hD
      refine lv_aload_n hx hb dX1_states_20 rfl (lv_at hl 0 rfl) ?_
      refine va_get (D := (dC, dI)) (ci := 1) (v := .int 1) (C := RX1) (T := TX1) (N := 13) hx hb hw in_X1 hown hK hP 0 rfl rfl 12 (by decide) (hw _ m_8_36) (fun _ h9 => h9) rfl dX1_states_21 ?_
      refine lv_if_eq (tgt := 28) hx hb dX1_states_24 (by decide) (fun cbb_3 => ?_) (fun cbb_3 => ?_)
      · exact absurd cbb_3 (by decide)
      · exact W.vret hx hb hr (fun t ht hW => ⟨⟨(st, fO, fG, fH, fM, fN, fT, fR, fF, fK, fV, fE, 1), rfl, (Or.inr ⟨k_160' (Or.inr cb_2), rfl⟩), (by rw [ht]; exact hP), va_K.moved hW.alike hK, hD⟩, hS.F ht⟩) hS.2.2 dX1_states_27
set_option maxHeartbeats 4000000 in
set_option maxRecDepth 100000 in
theorem c_X1_end (l : Launch) (dC : Nat → ClassId) (dI : Nat → Nat → Nat) (ad : Nat → Nat) (cz ci cj : ClassId) (sz : Nat) (st : Int32) (fO : Nat → Int32) (fG : Nat → Int32) (fH : Nat → Int32) (fM : Nat → Int32) (fN : Nat → Int32) (fT : Nat → Int32) (fR : Nat → Int32) (fF : Nat → Int32) (fK : Nat → Int32) (fV : Nat → Int32) (fE : Nat → Int32) (th : Int32) (n : Int32) (x : Int32) (y : Int32) (c0 : Nat) (h60 : c0 ≤ 60) : Met l yX1_end wX1_end ({ frames := 1, cells := 0, slots := 0, locals := 21 }) (va_Pc [.ref (ad 0), .int n, .int x, .int y] (g_Pre (dC, dI) vwCl (gty cz ci cj) (mw ad cz ci cj ((nI c0), fO, fG, fH, fM, fN, fT, fR, fF, fK, fV, fE, th)) sz)) (va_Qv (fun (u : MS) => (∃ k, k < c0 ∧ n = nI k ∧ ((-2 ≤ x.toInt ∧ x.toInt ≤ 100) ∧ (-2 ≤ y.toInt ∧ y.toInt ≤ 100)) ∧ u = ((nI c0), upd fO k 0, upd fG k x, upd fH k y, fM, fN, fT, fR, fF, fK, fV, fE, 0)) ∨ ((∀ k, k < c0 → n ≠ nI k) ∧ u = ((nI c0), fO, fG, fH, fM, fN, fT, fR, fF, fK, fV, fE, 1)) ∨ ((∃ k, k < c0 ∧ n = nI k) ∧ ¬ ((-2 ≤ x.toInt ∧ x.toInt ≤ 100) ∧ (-2 ≤ y.toInt ∧ y.toInt ≤ 100)) ∧ u = ((nI c0), fO, fG, fH, fM, fN, fT, fR, fF, fK, fV, fE, 2))) (g_At (dC, dI) vwCl (gty cz ci cj) (va_A (mw ad cz ci cj ((nI c0), fO, fG, fH, fM, fN, fT, fR, fF, fK, fV, fE, th)) sz) (mw ad cz ci cj)) (va_A (mw ad cz ci cj ((nI c0), fO, fG, fH, fM, fN, fT, fR, fF, fK, fV, fE, th)) sz)) 0 0 (va_A (mw ad cz ci cj ((nI c0), fO, fG, fH, fM, fN, fT, fR, fF, fK, fV, fE, th)) sz) := by
  refine Met.ofW (cc := cX1_end) (maxL := 4) (ret := none) (by decide) rfl ?_
  intro p e s m args below meth c s₁ Bd hml hv
  obtain ⟨rfl, hsz, hP, hK, hD0⟩ := hv
  have hx := Bd.exec
  have hb := Bd.bytes
  have hr := Bd.returns
  have hts := atoms_spec (ws := wX1_end) Bd.pre
  have hw : ∀ w ∈ wAll, w.before _ s = true := fun w h => hts w (List.mem_cons_of_mem _ h)
  have hown : s.vm.findClass "GameGraphModel" = some m.cls := findClass_of_methodNamed Bd.named
  have hlocks := Bd.notSynchronized
  subst hsz
  have hD := hD0.self (sz := s.heap.size)
  generalize hAe : va_A (mw ad cz ci cj ((nI c0), fO, fG, fH, fM, fN, fT, fR, fF, fK, fV, fE, th)) s.heap.size = Ar at hD ⊢
  have hA : ∀ q : Nat, s.heap.size ≤ q → Ar q := fun q h => by rw [← hAe]; exact Or.inr h
  obtain ⟨H, hH⟩ : ∃ H : Heap, H = s.heap := ⟨_, rfl⟩
  have hS : va_S Ar s.heap H [] := by rw [hH]; exact va_S.rf
  have hP : va_P (dC, dI) vwCl (mw ad cz ci cj ((nI c0), fO, fG, fH, fM, fN, fT, fR, fF, fK, fV, fE, th)) H := by rw [hH]; exact hP
  rw [← hH]
  have hl := lv_entry ([.ref (ad 0), .int n, .int x, .int y]) (n := 4) (Nat.le_of_ble_eq_true rfl)
  rw [lg_entry_eq]
  generalize (lg_sl ([.ref (ad 0), .int n, .int x, .int y]) ++ List.replicate (4 - (lg_sl ([.ref (ad 0), .int n, .int x, .int y])).length) Slot.unset).toArray = ls at hl ⊢
  have hl : lv_has ls 4 [(0, .ref (ad 0)), (1, .int n), (2, .int x), (3, .int y)] := hl
  have e1 : (-2 : Int32).toInt = -2 := by decide
  have e2 : (100 : Int32).toInt = 100 := by decide
  refine lv_aload_n hx hb dX1_end_0 rfl (lv_at hl 0 rfl) ?_
  refine lv_aload_n hx hb dX1_end_1 rfl (lv_at hl 0 rfl) ?_
  refine lv_iload_n hx hb dX1_end_2 rfl (lv_at hl 1 rfl) ?_
  refine g_calli ⟨hx, hb, hml, hown, hw⟩ (c_X1_isState l dC dI ad cz ci cj H.size (nI c0) fO fG fH fM fN fT fR fF fK fV fE th n c0 rfl h60) (cwV 1 hw gv_X1_X1_isState rfl rfl rfl (by decide +kernel) ⟨Nat.le_of_ble_eq_true rfl, Nat.le_of_ble_eq_true rfl⟩) hK hP hD hS hA (ci := 1) (q0 := 0) rfl rfl rfl hl.1 rfl (Nat.le_of_ble_eq_true rfl) dX1_end_3 ⟨Nat.zero_le _, Nat.zero_le _⟩ (fun r_1 un H locs hq hP hD hS => ?_)
  obtain ⟨rfl, hq⟩ := hq
  have hP : va_P (dC, dI) vwCl (mw ad cz ci cj ((nI c0), fO, fG, fH, fM, fN, fT, fR, fF, fK, fV, fE, th)) H := hP
  have hD : va_D Ar (mw ad cz ci cj ((nI c0), fO, fG, fH, fM, fN, fT, fR, fF, fK, fV, fE, th)) := hD
  refine lv_if_ne (tgt := 13) hx hb dX1_end_6 (by decide) (fun c_2 => ?_) (fun c_2 => ?_)
  · have hyes : ∃ k, k < c0 ∧ n = nI k := by rcases hq with ⟨a, _⟩ | ⟨_, a⟩; exact a; exact absurd a c_2
    obtain ⟨k, hk, rfl⟩ := hyes
    refine lv_iload_n hx hb dX1_end_13 rfl (lv_at hl 2 rfl) ?_
    refine lv_bipush (v := -2) hx hb dX1_end_14 (by decide) ?_
    refine lv_icmp_lt (tgt := 37) hx hb dX1_end_16 (by decide) (fun ca_3 => ?_) (fun ca_3 => ?_)
    · rw [Int32.lt_iff_toInt_lt, e1] at ca_3
      refine lv_iconst (v := 2) hx hb dX1_end_37 (by decide) ?_
      refine lv_goto (tgt := 42) hx hb dX1_end_38 (by decide) ?_
      refine va_put (D := (dC, dI)) (ci := 1) (v := .int 2) (ty := .int) (C := RX1) (T := TX1) (N := 13) hx hb hw in_X1 tyX1 tyX1_ok nmX1 hown hK hP hD hS 0 rfl rfl 12 (by decide) (hw _ m_8_36) (fun _ h9 => h9) rfl (by decide +kernel) rfl rfl (Nat.le_of_ble_eq_true rfl) dX1_end_42 (fun H locs hP hD hS => ?_)
      have hP : va_P (dC, dI) vwCl (mw ad cz ci cj ((nI c0), fO, fG, fH, fM, fN, fT, fR, fF, fK, fV, fE, 2)) H := hP
      have hD : va_D Ar (mw ad cz ci cj ((nI c0), fO, fG, fH, fM, fN, fT, fR, fF, fK, fV, fE, 2)) := hD
      refine lv_aload_n hx hb dX1_end_45 rfl (lv_at hl 0 rfl) ?_
      refine va_get (D := (dC, dI)) (ci := 1) (v := .int 2) (C := RX1) (T := TX1) (N := 13) hx hb hw in_X1 hown hK hP 0 rfl rfl 12 (by decide) (hw _ m_8_36) (fun _ h9 => h9) rfl dX1_end_46 ?_
      refine lv_if_eq (tgt := 53) hx hb dX1_end_49 (by decide) (fun caa_4 => ?_) (fun caa_4 => ?_)
      · exact absurd caa_4 (by decide)
      · exact W.vret hx hb hr (fun t ht hW => ⟨⟨((nI c0), fO, fG, fH, fM, fN, fT, fR, fF, fK, fV, fE, 2), rfl, (Or.inr (Or.inr ⟨⟨k, hk, rfl⟩, fun h => (by omega), rfl⟩)), (by rw [ht]; exact hP), va_K.moved hW.alike hK, hD⟩, hS.F ht⟩) hS.2.2 dX1_end_52
    · rw [Int32.lt_iff_toInt_lt, e1] at ca_3
      refine lv_iload_n hx hb dX1_end_19 rfl (lv_at hl 2 rfl) ?_
      refine lv_bipush (v := 100) hx hb dX1_end_20 (by decide) ?_
      refine lv_icmp_gt (tgt := 37) hx hb dX1_end_22 (by decide) (fun cab_4 => ?_) (fun cab_4 => ?_)
      · rw [Int32.lt_iff_toInt_lt, e2] at cab_4
        refine lv_iconst (v := 2) hx hb dX1_end_37 (by decide) ?_
        refine lv_goto (tgt := 42) hx hb dX1_end_38 (by decide) ?_
        refine va_put (D := (dC, dI)) (ci := 1) (v := .int 2) (ty := .int) (C := RX1) (T := TX1) (N := 13) hx hb hw in_X1 tyX1 tyX1_ok nmX1 hown hK hP hD hS 0 rfl rfl 12 (by decide) (hw _ m_8_36) (fun _ h9 => h9) rfl (by decide +kernel) rfl rfl (Nat.le_of_ble_eq_true rfl) dX1_end_42 (fun H locs hP hD hS => ?_)
        have hP : va_P (dC, dI) vwCl (mw ad cz ci cj ((nI c0), fO, fG, fH, fM, fN, fT, fR, fF, fK, fV, fE, 2)) H := hP
        have hD : va_D Ar (mw ad cz ci cj ((nI c0), fO, fG, fH, fM, fN, fT, fR, fF, fK, fV, fE, 2)) := hD
        refine lv_aload_n hx hb dX1_end_45 rfl (lv_at hl 0 rfl) ?_
        refine va_get (D := (dC, dI)) (ci := 1) (v := .int 2) (C := RX1) (T := TX1) (N := 13) hx hb hw in_X1 hown hK hP 0 rfl rfl 12 (by decide) (hw _ m_8_36) (fun _ h9 => h9) rfl dX1_end_46 ?_
        refine lv_if_eq (tgt := 53) hx hb dX1_end_49 (by decide) (fun caba_5 => ?_) (fun caba_5 => ?_)
        · exact absurd caba_5 (by decide)
        · exact W.vret hx hb hr (fun t ht hW => ⟨⟨((nI c0), fO, fG, fH, fM, fN, fT, fR, fF, fK, fV, fE, 2), rfl, (Or.inr (Or.inr ⟨⟨k, hk, rfl⟩, fun h => (by omega), rfl⟩)), (by rw [ht]; exact hP), va_K.moved hW.alike hK, hD⟩, hS.F ht⟩) hS.2.2 dX1_end_52
      · rw [Int32.lt_iff_toInt_lt, e2] at cab_4
        refine lv_iload_n hx hb dX1_end_25 rfl (lv_at hl 3 rfl) ?_
        refine lv_bipush (v := -2) hx hb dX1_end_26 (by decide) ?_
        refine lv_icmp_lt (tgt := 37) hx hb dX1_end_28 (by decide) (fun cabb_5 => ?_) (fun cabb_5 => ?_)
        · rw [Int32.lt_iff_toInt_lt, e1] at cabb_5
          refine lv_iconst (v := 2) hx hb dX1_end_37 (by decide) ?_
          refine lv_goto (tgt := 42) hx hb dX1_end_38 (by decide) ?_
          refine va_put (D := (dC, dI)) (ci := 1) (v := .int 2) (ty := .int) (C := RX1) (T := TX1) (N := 13) hx hb hw in_X1 tyX1 tyX1_ok nmX1 hown hK hP hD hS 0 rfl rfl 12 (by decide) (hw _ m_8_36) (fun _ h9 => h9) rfl (by decide +kernel) rfl rfl (Nat.le_of_ble_eq_true rfl) dX1_end_42 (fun H locs hP hD hS => ?_)
          have hP : va_P (dC, dI) vwCl (mw ad cz ci cj ((nI c0), fO, fG, fH, fM, fN, fT, fR, fF, fK, fV, fE, 2)) H := hP
          have hD : va_D Ar (mw ad cz ci cj ((nI c0), fO, fG, fH, fM, fN, fT, fR, fF, fK, fV, fE, 2)) := hD
          refine lv_aload_n hx hb dX1_end_45 rfl (lv_at hl 0 rfl) ?_
          refine va_get (D := (dC, dI)) (ci := 1) (v := .int 2) (C := RX1) (T := TX1) (N := 13) hx hb hw in_X1 hown hK hP 0 rfl rfl 12 (by decide) (hw _ m_8_36) (fun _ h9 => h9) rfl dX1_end_46 ?_
          refine lv_if_eq (tgt := 53) hx hb dX1_end_49 (by decide) (fun cabba_6 => ?_) (fun cabba_6 => ?_)
          · exact absurd cabba_6 (by decide)
          · exact W.vret hx hb hr (fun t ht hW => ⟨⟨((nI c0), fO, fG, fH, fM, fN, fT, fR, fF, fK, fV, fE, 2), rfl, (Or.inr (Or.inr ⟨⟨k, hk, rfl⟩, fun h => (by omega), rfl⟩)), (by rw [ht]; exact hP), va_K.moved hW.alike hK, hD⟩, hS.F ht⟩) hS.2.2 dX1_end_52
        · rw [Int32.lt_iff_toInt_lt, e1] at cabb_5
          refine lv_iload_n hx hb dX1_end_31 rfl (lv_at hl 3 rfl) ?_
          refine lv_bipush (v := 100) hx hb dX1_end_32 (by decide) ?_
          refine lv_icmp_le (tgt := 41) hx hb dX1_end_34 (by decide) (fun cabbb_6 => ?_) (fun cabbb_6 => ?_)
          · rw [Int32.le_iff_toInt_le, e2] at cabbb_6
            refine lv_iconst (v := 0) hx hb dX1_end_41 (by decide) ?_
            refine va_put (D := (dC, dI)) (ci := 1) (v := .int 0) (ty := .int) (C := RX1) (T := TX1) (N := 13) hx hb hw in_X1 tyX1 tyX1_ok nmX1 hown hK hP hD hS 0 rfl rfl 12 (by decide) (hw _ m_8_36) (fun _ h9 => h9) rfl (by decide +kernel) rfl rfl (Nat.le_of_ble_eq_true rfl) dX1_end_42 (fun H locs hP hD hS => ?_)
            have hP : va_P (dC, dI) vwCl (mw ad cz ci cj ((nI c0), fO, fG, fH, fM, fN, fT, fR, fF, fK, fV, fE, 0)) H := hP
            have hD : va_D Ar (mw ad cz ci cj ((nI c0), fO, fG, fH, fM, fN, fT, fR, fF, fK, fV, fE, 0)) := hD
            refine lv_aload_n hx hb dX1_end_45 rfl (lv_at hl 0 rfl) ?_
            refine va_get (D := (dC, dI)) (ci := 1) (v := .int 0) (C := RX1) (T := TX1) (N := 13) hx hb hw in_X1 hown hK hP 0 rfl rfl 12 (by decide) (hw _ m_8_36) (fun _ h9 => h9) rfl dX1_end_46 ?_
            refine lv_if_eq (tgt := 53) hx hb dX1_end_49 (by decide) (fun cabbba_7 => ?_) (fun cabbba_7 => ?_)
            · refine lv_aload_n hx hb dX1_end_53 rfl (lv_at hl 0 rfl) ?_
              refine va_get (D := (dC, dI)) (ci := 1) (v := .ref (ad 1)) (C := RX1) (T := TX1) (N := 13) hx hb hw in_X1 hown hK hP 0 rfl rfl 1 (by decide) (hw _ m_8_25) (fun _ h9 => h9) rfl dX1_end_54 ?_
              refine lv_iload_n hx hb dX1_end_57 rfl (lv_at hl 1 rfl) ?_
              refine lv_iconst (v := 0) hx hb dX1_end_58 (by decide) ?_
              refine va_zast hx hb hK hP hD hS 1 0 rfl rfl (vp_in_nI (by omega) (by decide)) dX1_end_59 (fun H locs hP hD hS => ?_)
              rw [nI_clamp (by omega)] at hP hD
              rw [show vp_nar .boolean 0 = 0 by decide] at hP hD
              have hP : va_P (dC, dI) vwCl (mw ad cz ci cj ((nI c0), (upd fO k 0), fG, fH, fM, fN, fT, fR, fF, fK, fV, fE, 0)) H := hP
              have hD : va_D Ar (mw ad cz ci cj ((nI c0), (upd fO k 0), fG, fH, fM, fN, fT, fR, fF, fK, fV, fE, 0)) := hD
              refine lv_aload_n hx hb dX1_end_60 rfl (lv_at hl 0 rfl) ?_
              refine va_get (D := (dC, dI)) (ci := 1) (v := .ref (ad 2)) (C := RX1) (T := TX1) (N := 13) hx hb hw in_X1 hown hK hP 0 rfl rfl 2 (by decide) (hw _ m_8_26) (fun _ h9 => h9) rfl dX1_end_61 ?_
              refine lv_iload_n hx hb dX1_end_64 rfl (lv_at hl 1 rfl) ?_
              refine lv_iload_n hx hb dX1_end_65 rfl (lv_at hl 2 rfl) ?_
              refine va_iast hx hb hK hP hD hS 2 1 rfl rfl (vp_in_nI (by omega) (by decide)) dX1_end_66 (fun H locs hP hD hS => ?_)
              rw [nI_clamp (by omega)] at hP hD
              have hP : va_P (dC, dI) vwCl (mw ad cz ci cj ((nI c0), (upd fO k 0), (upd fG k x), fH, fM, fN, fT, fR, fF, fK, fV, fE, 0)) H := hP
              have hD : va_D Ar (mw ad cz ci cj ((nI c0), (upd fO k 0), (upd fG k x), fH, fM, fN, fT, fR, fF, fK, fV, fE, 0)) := hD
              refine lv_aload_n hx hb dX1_end_67 rfl (lv_at hl 0 rfl) ?_
              refine va_get (D := (dC, dI)) (ci := 1) (v := .ref (ad 3)) (C := RX1) (T := TX1) (N := 13) hx hb hw in_X1 hown hK hP 0 rfl rfl 3 (by decide) (hw _ m_8_27) (fun _ h9 => h9) rfl dX1_end_68 ?_
              refine lv_iload_n hx hb dX1_end_71 rfl (lv_at hl 1 rfl) ?_
              refine lv_iload_n hx hb dX1_end_72 rfl (lv_at hl 3 rfl) ?_
              refine va_iast hx hb hK hP hD hS 3 1 rfl rfl (vp_in_nI (by omega) (by decide)) dX1_end_73 (fun H locs hP hD hS => ?_)
              rw [nI_clamp (by omega)] at hP hD
              have hP : va_P (dC, dI) vwCl (mw ad cz ci cj ((nI c0), (upd fO k 0), (upd fG k x), (upd fH k y), fM, fN, fT, fR, fF, fK, fV, fE, 0)) H := hP
              have hD : va_D Ar (mw ad cz ci cj ((nI c0), (upd fO k 0), (upd fG k x), (upd fH k y), fM, fN, fT, fR, fF, fK, fV, fE, 0)) := hD
              exact W.vret hx hb hr (fun t ht hW => ⟨⟨((nI c0), (upd fO k 0), (upd fG k x), (upd fH k y), fM, fN, fT, fR, fF, fK, fV, fE, 0), rfl, (Or.inl ⟨k, hk, rfl, ⟨⟨by omega, by omega⟩, by omega, by omega⟩, rfl⟩), (by rw [ht]; exact hP), va_K.moved hW.alike hK, hD⟩, hS.F ht⟩) hS.2.2 dX1_end_74
            · exact absurd rfl cabbba_7
          · rw [Int32.le_iff_toInt_le, e2] at cabbb_6
            refine lv_iconst (v := 2) hx hb dX1_end_37 (by decide) ?_
            refine lv_goto (tgt := 42) hx hb dX1_end_38 (by decide) ?_
            refine va_put (D := (dC, dI)) (ci := 1) (v := .int 2) (ty := .int) (C := RX1) (T := TX1) (N := 13) hx hb hw in_X1 tyX1 tyX1_ok nmX1 hown hK hP hD hS 0 rfl rfl 12 (by decide) (hw _ m_8_36) (fun _ h9 => h9) rfl (by decide +kernel) rfl rfl (Nat.le_of_ble_eq_true rfl) dX1_end_42 (fun H locs hP hD hS => ?_)
            have hP : va_P (dC, dI) vwCl (mw ad cz ci cj ((nI c0), fO, fG, fH, fM, fN, fT, fR, fF, fK, fV, fE, 2)) H := hP
            have hD : va_D Ar (mw ad cz ci cj ((nI c0), fO, fG, fH, fM, fN, fT, fR, fF, fK, fV, fE, 2)) := hD
            refine lv_aload_n hx hb dX1_end_45 rfl (lv_at hl 0 rfl) ?_
            refine va_get (D := (dC, dI)) (ci := 1) (v := .int 2) (C := RX1) (T := TX1) (N := 13) hx hb hw in_X1 hown hK hP 0 rfl rfl 12 (by decide) (hw _ m_8_36) (fun _ h9 => h9) rfl dX1_end_46 ?_
            refine lv_if_eq (tgt := 53) hx hb dX1_end_49 (by decide) (fun cabbbb_7 => ?_) (fun cabbbb_7 => ?_)
            · exact absurd cabbbb_7 (by decide)
            · exact W.vret hx hb hr (fun t ht hW => ⟨⟨((nI c0), fO, fG, fH, fM, fN, fT, fR, fF, fK, fV, fE, 2), rfl, (Or.inr (Or.inr ⟨⟨k, hk, rfl⟩, fun h => (by omega), rfl⟩)), (by rw [ht]; exact hP), va_K.moved hW.alike hK, hD⟩, hS.F ht⟩) hS.2.2 dX1_end_52
  · have hno : ∀ k, k < c0 → n ≠ nI k := by rcases hq with ⟨_, a⟩ | ⟨a, _⟩; exact absurd c_2 (by rw [a]; decide); exact a
    refine lv_iconst (v := 1) hx hb dX1_end_9 (by decide) ?_
    refine lv_goto (tgt := 42) hx hb dX1_end_10 (by decide) ?_
    refine va_put (D := (dC, dI)) (ci := 1) (v := .int 1) (ty := .int) (C := RX1) (T := TX1) (N := 13) hx hb hw in_X1 tyX1 tyX1_ok nmX1 hown hK hP hD hS 0 rfl rfl 12 (by decide) (hw _ m_8_36) (fun _ h9 => h9) rfl (by decide +kernel) rfl rfl (Nat.le_of_ble_eq_true rfl) dX1_end_42 (fun H locs hP hD hS => ?_)
    have hP : va_P (dC, dI) vwCl (mw ad cz ci cj ((nI c0), fO, fG, fH, fM, fN, fT, fR, fF, fK, fV, fE, 1)) H := hP
    have hD : va_D Ar (mw ad cz ci cj ((nI c0), fO, fG, fH, fM, fN, fT, fR, fF, fK, fV, fE, 1)) := hD
    refine lv_aload_n hx hb dX1_end_45 rfl (lv_at hl 0 rfl) ?_
    refine va_get (D := (dC, dI)) (ci := 1) (v := .int 1) (C := RX1) (T := TX1) (N := 13) hx hb hw in_X1 hown hK hP 0 rfl rfl 12 (by decide) (hw _ m_8_36) (fun _ h9 => h9) rfl dX1_end_46 ?_
    refine lv_if_eq (tgt := 53) hx hb dX1_end_49 (by decide) (fun cb_3 => ?_) (fun cb_3 => ?_)
    · exact absurd cb_3 (by decide)
    · exact W.vret hx hb hr (fun t ht hW => ⟨⟨((nI c0), fO, fG, fH, fM, fN, fT, fR, fF, fK, fV, fE, 1), rfl, (Or.inr (Or.inl ⟨hno, rfl⟩)), (by rw [ht]; exact hP), va_K.moved hW.alike hK, hD⟩, hS.F ht⟩) hS.2.2 dX1_end_52
set_option maxHeartbeats 4000000 in
set_option maxRecDepth 100000 in
theorem lm_open {p : Program} {l : Launch} {e : Env} {R : Room} {s : State} {m : MethodId} {args : Array Value} {below : List Frame} {meth : Method} {c : Code} {Q : State → Prop} {dC : Nat → ClassId} {dI : Nat → Nat → Nat} {ad : Nat → Nat} {cz ci cj : ClassId} {Ar : Nat → Prop}  (hx : p.tables.exec = Jvm.exec) (hb : c.code = cX1_open) (hml : c.maxLocals = 5) (hown : s.vm.findClass "GameGraphModel" = some m.cls) (hw : ∀ w ∈ wAll, w.before args s = true) (hK : va_K (dC, dI) vwCl (gty cz ci cj) s) (hA : ∀ q, s.heap.size ≤ q → Ar q) (hR1 : 0 ≤ R.frames) (hR2 : 0 ≤ R.locals) (st : Int32) (fO fG fH fM fN fT fR fF fK fV fE : Nat → Int32) (th : Int32) (k : Nat) (hk : k < 60)
    (kx : ∀ (fT2 : Nat → Int32), (∀ i, fT2 i = if k * 12 ≤ i ∧ i < k * 12 + 12 then 0 else fT i) → ∀ (H : Heap) (locs : List Loc), va_P (dC, dI) vwCl (mw ad cz ci cj (st, fO, fG, fH, fM, fN, fT2, fR, fF, fK, fV, fE, th)) H → va_D Ar (mw ad cz ci cj (st, fO, fG, fH, fM, fN, fT2, fR, fF, fK, fV, fE, th)) → va_S Ar s.heap H locs → ∀ (ls : Array Slot), lv_has ls 5 [(0, .ref (ad 0))] → W p l e R s m args below meth c H locs 0 0 Q (F0 m 101 ls [])) :
    ∀ (fuel : Nat) (j : Nat) (fT2 : Nat → Int32), 13 ≤ j + fuel → j ≤ 12 → (∀ i, fT2 i = if k * 12 ≤ i ∧ i < k * 12 + j then 0 else fT i) → ∀ (H : Heap) (locs : List Loc), va_P (dC, dI) vwCl (mw ad cz ci cj (st, fO, fG, fH, fM, fN, fT2, fR, fF, fK, fV, fE, th)) H → va_D Ar (mw ad cz ci cj (st, fO, fG, fH, fM, fN, fT2, fR, fF, fK, fV, fE, th)) → va_S Ar s.heap H locs → ∀ (ls : Array Slot), lv_has ls 5 [(0, .ref (ad 0)), (1, .int (nI k)), (4, .int (nI j))] → W p l e R s m args below meth c H locs 0 0 Q (F0 m 75 ls []) := by
  intro fuel
  induction fuel with
  | zero => intro j fT2 hfu hj0 hT; exact absurd hfu (by omega)
  | succ fuel ih =>
    intro j fT2 hfu hj0 hT H locs hP hD hS ls hl
    refine lv_iload hx hb dX1_open_75 (lv_at hl 2 rfl) ?_
    refine lv_bipush (v := 12) hx hb dX1_open_77 (by decide) ?_
    refine lv_icmp_ge (tgt := 101) hx hb dX1_open_79 (by decide) (fun c_1 => ?_) (fun c_1 => ?_)
    · exact kx fT2 (fun i => by rw [hT i, k_ge12 hj0 c_1]) _ _ hP hD hS _ (lv_sub hl [0] rfl)
    · have hj : j < 12 := k_lt12 hj0 c_1
      refine lv_aload_n hx hb dX1_open_82 rfl (lv_at hl 0 rfl) ?_
      refine va_get (D := (dC, dI)) (ci := 1) (v := .ref (ad 6)) (C := RX1) (T := TX1) (N := 13) hx hb hw in_X1 hown hK hP 0 rfl rfl 6 (by decide) (hw _ m_8_30) (fun _ h9 => h9) rfl dX1_open_83 ?_
      refine lv_bipush (v := 12) hx hb dX1_open_86 (by decide) ?_
      refine lv_iload_n hx hb dX1_open_88 rfl (lv_at hl 1 rfl) ?_
      refine lv_imul hx hb dX1_open_89 ?_
      refine x_topi (y := nI (k * 12)) ((pk_mul 12 k).trans (by rw [Nat.mul_comm])) ?_
      refine lv_iload hx hb dX1_open_90 (lv_at hl 2 rfl) ?_
      refine lv_iadd hx hb dX1_open_92 ?_
      refine x_topi (y := nI (k * 12 + j)) (nI_add _ _) ?_
      refine lv_iconst (v := 0) hx hb dX1_open_93 (by decide) ?_
      refine va_iast hx hb hK hP hD hS 6 1 rfl rfl (vp_in_nI (by omega) (by decide)) dX1_open_94 (fun H locs hP hD hS => ?_)
      rw [nI_clamp (by omega)] at hP hD
      have hP : va_P (dC, dI) vwCl (mw ad cz ci cj (st, fO, fG, fH, fM, fN, (upd fT2 (k * 12 + j) 0), fR, fF, fK, fV, fE, th)) H := hP
      have hD : va_D Ar (mw ad cz ci cj (st, fO, fG, fH, fM, fN, (upd fT2 (k * 12 + j) 0), fR, fF, fK, fV, fE, th)) := hD
      refine lv_iinc (v := (nI (j + 1))) (lv' := [(4, .int (nI (j + 1))), (0, .ref (ad 0)), (1, .int (nI k))]) hx hb dX1_open_95 hl (k := 2) rfl (nI_1 j) (by decide) rfl (fun ls hl => ?_)
      refine lv_goto (tgt := 75) hx hb dX1_open_98 (by decide) ?_
      exact ih (j + 1) (upd fT2 (k * 12 + j) 0) (by omega) (by omega) (k_zero hT) _ _ hP hD hS _ (lv_sub hl [1, 2, 0] rfl)
set_option maxHeartbeats 4000000 in
set_option maxRecDepth 100000 in
theorem c_X1_open (l : Launch) (dC : Nat → ClassId) (dI : Nat → Nat → Nat) (ad : Nat → Nat) (cz ci cj : ClassId) (sz : Nat) (st : Int32) (fO : Nat → Int32) (fG : Nat → Int32) (fH : Nat → Int32) (fM : Nat → Int32) (fN : Nat → Int32) (fT : Nat → Int32) (fR : Nat → Int32) (fF : Nat → Int32) (fK : Nat → Int32) (fV : Nat → Int32) (fE : Nat → Int32) (th : Int32) (n : Int32) (x : Int32) (y : Int32) (c0 : Nat) (h60 : c0 ≤ 60) : Met l yX1_open wX1_open ({ frames := 1, cells := 0, slots := 0, locals := 21 }) (va_Pc [.ref (ad 0), .int n, .int x, .int y] (g_Pre (dC, dI) vwCl (gty cz ci cj) (mw ad cz ci cj ((nI c0), fO, fG, fH, fM, fN, fT, fR, fF, fK, fV, fE, th)) sz)) (va_Qv (fun (u : MS) => (∃ k, k < c0 ∧ n = nI k ∧ ((0 ≤ x.toInt ∧ x.toInt ≤ 12) ∧ (0 ≤ y.toInt ∧ y.toInt ≤ 12) ∧ x * y ≤ 12) ∧ ∃ fT2 : Nat → Int32, (∀ i, fT2 i = if k * 12 ≤ i ∧ i < k * 12 + 12 then 0 else fT i) ∧ u = ((nI c0), upd fO k 1, fG, fH, upd fM k x, upd fN k y, fT2, fR, fF, fK, fV, fE, 0)) ∨ ((∀ k, k < c0 → n ≠ nI k) ∧ u = ((nI c0), fO, fG, fH, fM, fN, fT, fR, fF, fK, fV, fE, 1)) ∨ ((∃ k, k < c0 ∧ n = nI k) ∧ ¬ ((0 ≤ x.toInt ∧ x.toInt ≤ 12) ∧ (0 ≤ y.toInt ∧ y.toInt ≤ 12) ∧ x * y ≤ 12) ∧ u = ((nI c0), fO, fG, fH, fM, fN, fT, fR, fF, fK, fV, fE, 2))) (g_At (dC, dI) vwCl (gty cz ci cj) (va_A (mw ad cz ci cj ((nI c0), fO, fG, fH, fM, fN, fT, fR, fF, fK, fV, fE, th)) sz) (mw ad cz ci cj)) (va_A (mw ad cz ci cj ((nI c0), fO, fG, fH, fM, fN, fT, fR, fF, fK, fV, fE, th)) sz)) 0 0 (va_A (mw ad cz ci cj ((nI c0), fO, fG, fH, fM, fN, fT, fR, fF, fK, fV, fE, th)) sz) := by
  refine Met.ofW (cc := cX1_open) (maxL := 5) (ret := none) (by decide) rfl ?_
  intro p e s m args below meth c s₁ Bd hml hv
  obtain ⟨rfl, hsz, hP, hK, hD0⟩ := hv
  have hx := Bd.exec
  have hb := Bd.bytes
  have hr := Bd.returns
  have hts := atoms_spec (ws := wX1_open) Bd.pre
  have hw : ∀ w ∈ wAll, w.before _ s = true := fun w h => hts w (List.mem_cons_of_mem _ h)
  have hown : s.vm.findClass "GameGraphModel" = some m.cls := findClass_of_methodNamed Bd.named
  have hlocks := Bd.notSynchronized
  subst hsz
  have hD := hD0.self (sz := s.heap.size)
  generalize hAe : va_A (mw ad cz ci cj ((nI c0), fO, fG, fH, fM, fN, fT, fR, fF, fK, fV, fE, th)) s.heap.size = Ar at hD ⊢
  have hA : ∀ q : Nat, s.heap.size ≤ q → Ar q := fun q h => by rw [← hAe]; exact Or.inr h
  obtain ⟨H, hH⟩ : ∃ H : Heap, H = s.heap := ⟨_, rfl⟩
  have hS : va_S Ar s.heap H [] := by rw [hH]; exact va_S.rf
  have hP : va_P (dC, dI) vwCl (mw ad cz ci cj ((nI c0), fO, fG, fH, fM, fN, fT, fR, fF, fK, fV, fE, th)) H := by rw [hH]; exact hP
  rw [← hH]
  have hl := lv_entry ([.ref (ad 0), .int n, .int x, .int y]) (n := 5) (Nat.le_of_ble_eq_true rfl)
  rw [lg_entry_eq]
  generalize (lg_sl ([.ref (ad 0), .int n, .int x, .int y]) ++ List.replicate (5 - (lg_sl ([.ref (ad 0), .int n, .int x, .int y])).length) Slot.unset).toArray = ls at hl ⊢
  have hl : lv_has ls 5 [(0, .ref (ad 0)), (1, .int n), (2, .int x), (3, .int y)] := hl
  refine lv_aload_n hx hb dX1_open_0 rfl (lv_at hl 0 rfl) ?_
  refine lv_aload_n hx hb dX1_open_1 rfl (lv_at hl 0 rfl) ?_
  refine lv_iload_n hx hb dX1_open_2 rfl (lv_at hl 1 rfl) ?_
  refine g_calli ⟨hx, hb, hml, hown, hw⟩ (c_X1_isState l dC dI ad cz ci cj H.size (nI c0) fO fG fH fM fN fT fR fF fK fV fE th n c0 rfl h60) (cwV 1 hw gv_X1_X1_isState rfl rfl rfl (by decide +kernel) ⟨Nat.le_of_ble_eq_true rfl, Nat.le_of_ble_eq_true rfl⟩) hK hP hD hS hA (ci := 1) (q0 := 0) rfl rfl rfl hl.1 rfl (Nat.le_of_ble_eq_true rfl) dX1_open_3 ⟨Nat.zero_le _, Nat.zero_le _⟩ (fun r_1 un H locs hq hP hD hS => ?_)
  obtain ⟨rfl, hq⟩ := hq
  have hP : va_P (dC, dI) vwCl (mw ad cz ci cj ((nI c0), fO, fG, fH, fM, fN, fT, fR, fF, fK, fV, fE, th)) H := hP
  have hD : va_D Ar (mw ad cz ci cj ((nI c0), fO, fG, fH, fM, fN, fT, fR, fF, fK, fV, fE, th)) := hD
  refine lv_if_ne (tgt := 13) hx hb dX1_open_6 (by decide) (fun c_2 => ?_) (fun c_2 => ?_)
  · have hyes : ∃ k, k < c0 ∧ n = nI k := by rcases hq with ⟨a, _⟩ | ⟨_, a⟩; exact a; exact absurd a c_2
    obtain ⟨k, hk, rfl⟩ := hyes
    refine lv_iload_n hx hb dX1_open_13 rfl (lv_at hl 2 rfl) ?_
    refine g_calls ⟨hx, hb, hml, hown, hw⟩ (c_X1_isMany l x) (va_cwS 1 hw gs_X1_X1_isMany rfl rfl rfl (by decide +kernel) ⟨Nat.le_of_ble_eq_true rfl, Nat.le_of_ble_eq_true rfl⟩) hP hS rfl hl.1 rfl (Nat.le_of_ble_eq_true rfl) dX1_open_14 ⟨Nat.zero_le _, Nat.zero_le _⟩ (fun ra_3 H locs hq hP hS => ?_)
    have hP : va_P (dC, dI) vwCl (mw ad cz ci cj ((nI c0), fO, fG, fH, fM, fN, fT, fR, fF, fK, fV, fE, th)) H := hP
    have hD : va_D Ar (mw ad cz ci cj ((nI c0), fO, fG, fH, fM, fN, fT, fR, fF, fK, fV, fE, th)) := hD
    refine lv_if_eq (tgt := 35) hx hb dX1_open_17 (by decide) (fun ca_4 => ?_) (fun ca_4 => ?_)
    · have h1 := k_i0 hq ca_4
      refine lv_iconst (v := 2) hx hb dX1_open_35 (by decide) ?_
      refine lv_goto (tgt := 40) hx hb dX1_open_36 (by decide) ?_
      refine va_put (D := (dC, dI)) (ci := 1) (v := .int 2) (ty := .int) (C := RX1) (T := TX1) (N := 13) hx hb hw in_X1 tyX1 tyX1_ok nmX1 hown hK hP hD hS 0 rfl rfl 12 (by decide) (hw _ m_8_36) (fun _ h9 => h9) rfl (by decide +kernel) rfl rfl (Nat.le_of_ble_eq_true rfl) dX1_open_40 (fun H locs hP hD hS => ?_)
      have hP : va_P (dC, dI) vwCl (mw ad cz ci cj ((nI c0), fO, fG, fH, fM, fN, fT, fR, fF, fK, fV, fE, 2)) H := hP
      have hD : va_D Ar (mw ad cz ci cj ((nI c0), fO, fG, fH, fM, fN, fT, fR, fF, fK, fV, fE, 2)) := hD
      refine lv_aload_n hx hb dX1_open_43 rfl (lv_at hl 0 rfl) ?_
      refine va_get (D := (dC, dI)) (ci := 1) (v := .int 2) (C := RX1) (T := TX1) (N := 13) hx hb hw in_X1 hown hK hP 0 rfl rfl 12 (by decide) (hw _ m_8_36) (fun _ h9 => h9) rfl dX1_open_44 ?_
      refine lv_if_eq (tgt := 51) hx hb dX1_open_47 (by decide) (fun caa_5 => ?_) (fun caa_5 => ?_)
      · exact absurd caa_5 (by decide)
      · exact W.vret hx hb hr (fun t ht hW => ⟨⟨((nI c0), fO, fG, fH, fM, fN, fT, fR, fF, fK, fV, fE, 2), rfl, (Or.inr (Or.inr ⟨⟨k, hk, rfl⟩, fun h => h1 h.1, rfl⟩)), (by rw [ht]; exact hP), va_K.moved hW.alike hK, hD⟩, hS.F ht⟩) hS.2.2 dX1_open_50
    · have h1 := k_i1 hq ca_4
      refine lv_iload_n hx hb dX1_open_20 rfl (lv_at hl 3 rfl) ?_
      refine g_calls ⟨hx, hb, hml, hown, hw⟩ (c_X1_isMany l y) (va_cwS 1 hw gs_X1_X1_isMany rfl rfl rfl (by decide +kernel) ⟨Nat.le_of_ble_eq_true rfl, Nat.le_of_ble_eq_true rfl⟩) hP hS rfl hl.1 rfl (Nat.le_of_ble_eq_true rfl) dX1_open_21 ⟨Nat.zero_le _, Nat.zero_le _⟩ (fun rab_5 H locs hq hP hS => ?_)
      have hP : va_P (dC, dI) vwCl (mw ad cz ci cj ((nI c0), fO, fG, fH, fM, fN, fT, fR, fF, fK, fV, fE, th)) H := hP
      have hD : va_D Ar (mw ad cz ci cj ((nI c0), fO, fG, fH, fM, fN, fT, fR, fF, fK, fV, fE, th)) := hD
      refine lv_if_eq (tgt := 35) hx hb dX1_open_24 (by decide) (fun cab_6 => ?_) (fun cab_6 => ?_)
      · have h2 := k_i0 hq cab_6
        refine lv_iconst (v := 2) hx hb dX1_open_35 (by decide) ?_
        refine lv_goto (tgt := 40) hx hb dX1_open_36 (by decide) ?_
        refine va_put (D := (dC, dI)) (ci := 1) (v := .int 2) (ty := .int) (C := RX1) (T := TX1) (N := 13) hx hb hw in_X1 tyX1 tyX1_ok nmX1 hown hK hP hD hS 0 rfl rfl 12 (by decide) (hw _ m_8_36) (fun _ h9 => h9) rfl (by decide +kernel) rfl rfl (Nat.le_of_ble_eq_true rfl) dX1_open_40 (fun H locs hP hD hS => ?_)
        have hP : va_P (dC, dI) vwCl (mw ad cz ci cj ((nI c0), fO, fG, fH, fM, fN, fT, fR, fF, fK, fV, fE, 2)) H := hP
        have hD : va_D Ar (mw ad cz ci cj ((nI c0), fO, fG, fH, fM, fN, fT, fR, fF, fK, fV, fE, 2)) := hD
        refine lv_aload_n hx hb dX1_open_43 rfl (lv_at hl 0 rfl) ?_
        refine va_get (D := (dC, dI)) (ci := 1) (v := .int 2) (C := RX1) (T := TX1) (N := 13) hx hb hw in_X1 hown hK hP 0 rfl rfl 12 (by decide) (hw _ m_8_36) (fun _ h9 => h9) rfl dX1_open_44 ?_
        refine lv_if_eq (tgt := 51) hx hb dX1_open_47 (by decide) (fun caba_7 => ?_) (fun caba_7 => ?_)
        · exact absurd caba_7 (by decide)
        · exact W.vret hx hb hr (fun t ht hW => ⟨⟨((nI c0), fO, fG, fH, fM, fN, fT, fR, fF, fK, fV, fE, 2), rfl, (Or.inr (Or.inr ⟨⟨k, hk, rfl⟩, fun h => h2 h.2.1, rfl⟩)), (by rw [ht]; exact hP), va_K.moved hW.alike hK, hD⟩, hS.F ht⟩) hS.2.2 dX1_open_50
      · have h2 := k_i1 hq cab_6
        refine lv_iload_n hx hb dX1_open_27 rfl (lv_at hl 2 rfl) ?_
        refine lv_iload_n hx hb dX1_open_28 rfl (lv_at hl 3 rfl) ?_
        refine lv_imul hx hb dX1_open_29 ?_
        refine lv_bipush (v := 12) hx hb dX1_open_30 (by decide) ?_
        refine lv_icmp_le (tgt := 39) hx hb dX1_open_32 (by decide) (fun cabb_7 => ?_) (fun cabb_7 => ?_)
        · refine lv_iconst (v := 0) hx hb dX1_open_39 (by decide) ?_
          refine va_put (D := (dC, dI)) (ci := 1) (v := .int 0) (ty := .int) (C := RX1) (T := TX1) (N := 13) hx hb hw in_X1 tyX1 tyX1_ok nmX1 hown hK hP hD hS 0 rfl rfl 12 (by decide) (hw _ m_8_36) (fun _ h9 => h9) rfl (by decide +kernel) rfl rfl (Nat.le_of_ble_eq_true rfl) dX1_open_40 (fun H locs hP hD hS => ?_)
          have hP : va_P (dC, dI) vwCl (mw ad cz ci cj ((nI c0), fO, fG, fH, fM, fN, fT, fR, fF, fK, fV, fE, 0)) H := hP
          have hD : va_D Ar (mw ad cz ci cj ((nI c0), fO, fG, fH, fM, fN, fT, fR, fF, fK, fV, fE, 0)) := hD
          refine lv_aload_n hx hb dX1_open_43 rfl (lv_at hl 0 rfl) ?_
          refine va_get (D := (dC, dI)) (ci := 1) (v := .int 0) (C := RX1) (T := TX1) (N := 13) hx hb hw in_X1 hown hK hP 0 rfl rfl 12 (by decide) (hw _ m_8_36) (fun _ h9 => h9) rfl dX1_open_44 ?_
          refine lv_if_eq (tgt := 51) hx hb dX1_open_47 (by decide) (fun cabba_8 => ?_) (fun cabba_8 => ?_)
          · refine lv_aload_n hx hb dX1_open_51 rfl (lv_at hl 0 rfl) ?_
            refine va_get (D := (dC, dI)) (ci := 1) (v := .ref (ad 1)) (C := RX1) (T := TX1) (N := 13) hx hb hw in_X1 hown hK hP 0 rfl rfl 1 (by decide) (hw _ m_8_25) (fun _ h9 => h9) rfl dX1_open_52 ?_
            refine lv_iload_n hx hb dX1_open_55 rfl (lv_at hl 1 rfl) ?_
            refine lv_iconst (v := 1) hx hb dX1_open_56 (by decide) ?_
            refine va_zast hx hb hK hP hD hS 1 0 rfl rfl (vp_in_nI (by omega) (by decide)) dX1_open_57 (fun H locs hP hD hS => ?_)
            rw [nI_clamp (by omega)] at hP hD
            rw [show vp_nar .boolean 1 = 1 by decide] at hP hD
            have hP : va_P (dC, dI) vwCl (mw ad cz ci cj ((nI c0), (upd fO k 1), fG, fH, fM, fN, fT, fR, fF, fK, fV, fE, 0)) H := hP
            have hD : va_D Ar (mw ad cz ci cj ((nI c0), (upd fO k 1), fG, fH, fM, fN, fT, fR, fF, fK, fV, fE, 0)) := hD
            refine lv_aload_n hx hb dX1_open_58 rfl (lv_at hl 0 rfl) ?_
            refine va_get (D := (dC, dI)) (ci := 1) (v := .ref (ad 4)) (C := RX1) (T := TX1) (N := 13) hx hb hw in_X1 hown hK hP 0 rfl rfl 4 (by decide) (hw _ m_8_28) (fun _ h9 => h9) rfl dX1_open_59 ?_
            refine lv_iload_n hx hb dX1_open_62 rfl (lv_at hl 1 rfl) ?_
            refine lv_iload_n hx hb dX1_open_63 rfl (lv_at hl 2 rfl) ?_
            refine va_iast hx hb hK hP hD hS 4 1 rfl rfl (vp_in_nI (by omega) (by decide)) dX1_open_64 (fun H locs hP hD hS => ?_)
            rw [nI_clamp (by omega)] at hP hD
            have hP : va_P (dC, dI) vwCl (mw ad cz ci cj ((nI c0), (upd fO k 1), fG, fH, (upd fM k x), fN, fT, fR, fF, fK, fV, fE, 0)) H := hP
            have hD : va_D Ar (mw ad cz ci cj ((nI c0), (upd fO k 1), fG, fH, (upd fM k x), fN, fT, fR, fF, fK, fV, fE, 0)) := hD
            refine lv_aload_n hx hb dX1_open_65 rfl (lv_at hl 0 rfl) ?_
            refine va_get (D := (dC, dI)) (ci := 1) (v := .ref (ad 5)) (C := RX1) (T := TX1) (N := 13) hx hb hw in_X1 hown hK hP 0 rfl rfl 5 (by decide) (hw _ m_8_29) (fun _ h9 => h9) rfl dX1_open_66 ?_
            refine lv_iload_n hx hb dX1_open_69 rfl (lv_at hl 1 rfl) ?_
            refine lv_iload_n hx hb dX1_open_70 rfl (lv_at hl 3 rfl) ?_
            refine va_iast hx hb hK hP hD hS 5 1 rfl rfl (vp_in_nI (by omega) (by decide)) dX1_open_71 (fun H locs hP hD hS => ?_)
            rw [nI_clamp (by omega)] at hP hD
            have hP : va_P (dC, dI) vwCl (mw ad cz ci cj ((nI c0), (upd fO k 1), fG, fH, (upd fM k x), (upd fN k y), fT, fR, fF, fK, fV, fE, 0)) H := hP
            have hD : va_D Ar (mw ad cz ci cj ((nI c0), (upd fO k 1), fG, fH, (upd fM k x), (upd fN k y), fT, fR, fF, fK, fV, fE, 0)) := hD
            refine lv_iconst (v := 0) hx hb dX1_open_72 (by decide) ?_
            refine x_topi (y := nI 0) (rfl) ?_
            refine lv_istore (lv' := [(4, .int (nI 0)), (0, .ref (ad 0)), (1, .int (nI k)), (2, .int x), (3, .int y)]) hx hb dX1_open_73 hl (by decide) rfl (fun ls hl => ?_)
            refine lm_open (dC := dC) (dI := dI) (ad := ad) (cz := cz) (ci := ci) (cj := cj) (Ar := Ar) hx hb hml hown hw hK hA (Nat.le_of_ble_eq_true rfl) (Nat.le_of_ble_eq_true rfl) (nI c0) (upd fO k 1) fG fH (upd fM k x) (upd fN k y) fT fR fF fK fV fE 0 k (by omega) ?_  13 0 fT (by omega) (by omega) (fun i => by rw [if_neg (by omega)]) _ _ hP hD hS _ (lv_sub hl [1, 2, 0] rfl)
            intro fT2 hT H locs hP hD hS ls hl
            exact W.vret hx hb hr (fun t ht hW => ⟨⟨((nI c0), (upd fO k 1), fG, fH, (upd fM k x), (upd fN k y), fT2, fR, fF, fK, fV, fE, 0), rfl, (Or.inl ⟨k, hk, rfl, ⟨h1, h2, cabb_7⟩, fT2, hT, rfl⟩), (by rw [ht]; exact hP), va_K.moved hW.alike hK, hD⟩, hS.F ht⟩) hS.2.2 dX1_open_101
          · exact absurd rfl cabba_8
        · refine lv_iconst (v := 2) hx hb dX1_open_35 (by decide) ?_
          refine lv_goto (tgt := 40) hx hb dX1_open_36 (by decide) ?_
          refine va_put (D := (dC, dI)) (ci := 1) (v := .int 2) (ty := .int) (C := RX1) (T := TX1) (N := 13) hx hb hw in_X1 tyX1 tyX1_ok nmX1 hown hK hP hD hS 0 rfl rfl 12 (by decide) (hw _ m_8_36) (fun _ h9 => h9) rfl (by decide +kernel) rfl rfl (Nat.le_of_ble_eq_true rfl) dX1_open_40 (fun H locs hP hD hS => ?_)
          have hP : va_P (dC, dI) vwCl (mw ad cz ci cj ((nI c0), fO, fG, fH, fM, fN, fT, fR, fF, fK, fV, fE, 2)) H := hP
          have hD : va_D Ar (mw ad cz ci cj ((nI c0), fO, fG, fH, fM, fN, fT, fR, fF, fK, fV, fE, 2)) := hD
          refine lv_aload_n hx hb dX1_open_43 rfl (lv_at hl 0 rfl) ?_
          refine va_get (D := (dC, dI)) (ci := 1) (v := .int 2) (C := RX1) (T := TX1) (N := 13) hx hb hw in_X1 hown hK hP 0 rfl rfl 12 (by decide) (hw _ m_8_36) (fun _ h9 => h9) rfl dX1_open_44 ?_
          refine lv_if_eq (tgt := 51) hx hb dX1_open_47 (by decide) (fun cabbb_8 => ?_) (fun cabbb_8 => ?_)
          · exact absurd cabbb_8 (by decide)
          · exact W.vret hx hb hr (fun t ht hW => ⟨⟨((nI c0), fO, fG, fH, fM, fN, fT, fR, fF, fK, fV, fE, 2), rfl, (Or.inr (Or.inr ⟨⟨k, hk, rfl⟩, fun h => cabb_7 h.2.2, rfl⟩)), (by rw [ht]; exact hP), va_K.moved hW.alike hK, hD⟩, hS.F ht⟩) hS.2.2 dX1_open_50
  · have hno : ∀ k, k < c0 → n ≠ nI k := by rcases hq with ⟨_, a⟩ | ⟨a, _⟩; exact absurd c_2 (by rw [a]; decide); exact a
    refine lv_iconst (v := 1) hx hb dX1_open_9 (by decide) ?_
    refine lv_goto (tgt := 40) hx hb dX1_open_10 (by decide) ?_
    refine va_put (D := (dC, dI)) (ci := 1) (v := .int 1) (ty := .int) (C := RX1) (T := TX1) (N := 13) hx hb hw in_X1 tyX1 tyX1_ok nmX1 hown hK hP hD hS 0 rfl rfl 12 (by decide) (hw _ m_8_36) (fun _ h9 => h9) rfl (by decide +kernel) rfl rfl (Nat.le_of_ble_eq_true rfl) dX1_open_40 (fun H locs hP hD hS => ?_)
    have hP : va_P (dC, dI) vwCl (mw ad cz ci cj ((nI c0), fO, fG, fH, fM, fN, fT, fR, fF, fK, fV, fE, 1)) H := hP
    have hD : va_D Ar (mw ad cz ci cj ((nI c0), fO, fG, fH, fM, fN, fT, fR, fF, fK, fV, fE, 1)) := hD
    refine lv_aload_n hx hb dX1_open_43 rfl (lv_at hl 0 rfl) ?_
    refine va_get (D := (dC, dI)) (ci := 1) (v := .int 1) (C := RX1) (T := TX1) (N := 13) hx hb hw in_X1 hown hK hP 0 rfl rfl 12 (by decide) (hw _ m_8_36) (fun _ h9 => h9) rfl dX1_open_44 ?_
    refine lv_if_eq (tgt := 51) hx hb dX1_open_47 (by decide) (fun cb_3 => ?_) (fun cb_3 => ?_)
    · exact absurd cb_3 (by decide)
    · exact W.vret hx hb hr (fun t ht hW => ⟨⟨((nI c0), fO, fG, fH, fM, fN, fT, fR, fF, fK, fV, fE, 1), rfl, (Or.inr (Or.inl ⟨hno, rfl⟩)), (by rw [ht]; exact hP), va_K.moved hW.alike hK, hD⟩, hS.F ht⟩) hS.2.2 dX1_open_50
set_option maxHeartbeats 4000000 in
set_option maxRecDepth 100000 in
theorem c_X1_link (l : Launch) (dC : Nat → ClassId) (dI : Nat → Nat → Nat) (ad : Nat → Nat) (cz ci cj : ClassId) (sz : Nat) (st : Int32) (fO : Nat → Int32) (fG : Nat → Int32) (fH : Nat → Int32) (fM : Nat → Int32) (fN : Nat → Int32) (fT : Nat → Int32) (fR : Nat → Int32) (fF : Nat → Int32) (fK : Nat → Int32) (fV : Nat → Int32) (fE : Nat → Int32) (th : Int32) (n : Int32) (j : Int32) (x : Int32) (sO sA sB sT : Nat → Int32) (c0 : Nat) (hg : g_ok c0 sO sA sB sT) (hm : m_rel c0 sO sA sB sT fO fG fH fM fN fT) : Met l yX1_link wX1_link ({ frames := 2, cells := 0, slots := 0, locals := 43 }) (va_Pc [.ref (ad 0), .int n, .int j, .int x] (g_Pre (dC, dI) vwCl (gty cz ci cj) (mw ad cz ci cj ((nI c0), fO, fG, fH, fM, fN, fT, fR, fF, fK, fV, fE, th)) sz)) (va_Qv (fun (u : MS) => (∃ a i t, a < c0 ∧ i < gmv sO sA sB a ∧ t < c0 ∧ n = nI a ∧ j = nI i ∧ x = nI t ∧ u = ((nI c0), fO, fG, fH, fM, fN, upd fT (a * 12 + i) (nI t), fR, fF, fK, fV, fE, 0)) ∨ ((∀ a i t, a < c0 → i < gmv sO sA sB a → t < c0 → ¬ (n = nI a ∧ j = nI i ∧ x = nI t)) ∧ u = ((nI c0), fO, fG, fH, fM, fN, fT, fR, fF, fK, fV, fE, 1))) (g_At (dC, dI) vwCl (gty cz ci cj) (va_A (mw ad cz ci cj ((nI c0), fO, fG, fH, fM, fN, fT, fR, fF, fK, fV, fE, th)) sz) (mw ad cz ci cj)) (va_A (mw ad cz ci cj ((nI c0), fO, fG, fH, fM, fN, fT, fR, fF, fK, fV, fE, th)) sz)) 0 0 (va_A (mw ad cz ci cj ((nI c0), fO, fG, fH, fM, fN, fT, fR, fF, fK, fV, fE, th)) sz) := by
  refine Met.ofW (cc := cX1_link) (maxL := 4) (ret := none) (by decide) rfl ?_
  intro p e s m args below meth c s₁ Bd hml hv
  obtain ⟨rfl, hsz, hP, hK, hD0⟩ := hv
  have hx := Bd.exec
  have hb := Bd.bytes
  have hr := Bd.returns
  have hts := atoms_spec (ws := wX1_link) Bd.pre
  have hw : ∀ w ∈ wAll, w.before _ s = true := fun w h => hts w (List.mem_cons_of_mem _ h)
  have hown : s.vm.findClass "GameGraphModel" = some m.cls := findClass_of_methodNamed Bd.named
  have hlocks := Bd.notSynchronized
  subst hsz
  have hD := hD0.self (sz := s.heap.size)
  generalize hAe : va_A (mw ad cz ci cj ((nI c0), fO, fG, fH, fM, fN, fT, fR, fF, fK, fV, fE, th)) s.heap.size = Ar at hD ⊢
  have hA : ∀ q : Nat, s.heap.size ≤ q → Ar q := fun q h => by rw [← hAe]; exact Or.inr h
  obtain ⟨H, hH⟩ : ∃ H : Heap, H = s.heap := ⟨_, rfl⟩
  have hS : va_S Ar s.heap H [] := by rw [hH]; exact va_S.rf
  have hP : va_P (dC, dI) vwCl (mw ad cz ci cj ((nI c0), fO, fG, fH, fM, fN, fT, fR, fF, fK, fV, fE, th)) H := by rw [hH]; exact hP
  rw [← hH]
  have hl := lv_entry ([.ref (ad 0), .int n, .int j, .int x]) (n := 4) (Nat.le_of_ble_eq_true rfl)
  rw [lg_entry_eq]
  generalize (lg_sl ([.ref (ad 0), .int n, .int j, .int x]) ++ List.replicate (4 - (lg_sl ([.ref (ad 0), .int n, .int j, .int x])).length) Slot.unset).toArray = ls at hl ⊢
  have hl : lv_has ls 4 [(0, .ref (ad 0)), (1, .int n), (2, .int j), (3, .int x)] := hl
  have h60 := hg.2.1
  refine lv_aload_n hx hb dX1_link_0 rfl (lv_at hl 0 rfl) ?_
  refine lv_aload_n hx hb dX1_link_1 rfl (lv_at hl 0 rfl) ?_
  refine lv_iload_n hx hb dX1_link_2 rfl (lv_at hl 1 rfl) ?_
  refine lv_iload_n hx hb dX1_link_3 rfl (lv_at hl 2 rfl) ?_
  refine g_calli ⟨hx, hb, hml, hown, hw⟩ (c_X1_isJoint l dC dI ad cz ci cj H.size (nI c0) fO fG fH fM fN fT fR fF fK fV fE th n j sO sA sB sT c0 hg hm) (cwV 2 hw gv_X1_X1_isJoint rfl rfl rfl (by decide +kernel) ⟨Nat.le_of_ble_eq_true rfl, Nat.le_of_ble_eq_true rfl⟩) hK hP hD hS hA (ci := 1) (q0 := 0) rfl rfl rfl hl.1 rfl (Nat.le_of_ble_eq_true rfl) dX1_link_4 ⟨Nat.zero_le _, Nat.zero_le _⟩ (fun r_1 un H locs hq hP hD hS => ?_)
  obtain ⟨rfl, hq⟩ := hq
  have hP : va_P (dC, dI) vwCl (mw ad cz ci cj ((nI c0), fO, fG, fH, fM, fN, fT, fR, fF, fK, fV, fE, th)) H := hP
  have hD : va_D Ar (mw ad cz ci cj ((nI c0), fO, fG, fH, fM, fN, fT, fR, fF, fK, fV, fE, th)) := hD
  refine lv_if_eq (tgt := 22) hx hb dX1_link_7 (by decide) (fun c_2 => ?_) (fun c_2 => ?_)
  · have hno : (∀ a i, a < c0 → i < gmv sO sA sB a → ¬ (n = nI a ∧ j = nI i)) := by rcases hq with ⟨_, a⟩ | ⟨a, _⟩; exact absurd c_2 (by rw [a]; decide); exact a
    refine lv_iconst (v := 1) hx hb dX1_link_22 (by decide) ?_
    refine va_put (D := (dC, dI)) (ci := 1) (v := .int 1) (ty := .int) (C := RX1) (T := TX1) (N := 13) hx hb hw in_X1 tyX1 tyX1_ok nmX1 hown hK hP hD hS 0 rfl rfl 12 (by decide) (hw _ m_8_36) (fun _ h9 => h9) rfl (by decide +kernel) rfl rfl (Nat.le_of_ble_eq_true rfl) dX1_link_23 (fun H locs hP hD hS => ?_)
    have hP : va_P (dC, dI) vwCl (mw ad cz ci cj ((nI c0), fO, fG, fH, fM, fN, fT, fR, fF, fK, fV, fE, 1)) H := hP
    have hD : va_D Ar (mw ad cz ci cj ((nI c0), fO, fG, fH, fM, fN, fT, fR, fF, fK, fV, fE, 1)) := hD
    refine lv_aload_n hx hb dX1_link_26 rfl (lv_at hl 0 rfl) ?_
    refine va_get (D := (dC, dI)) (ci := 1) (v := .int 1) (C := RX1) (T := TX1) (N := 13) hx hb hw in_X1 hown hK hP 0 rfl rfl 12 (by decide) (hw _ m_8_36) (fun _ h9 => h9) rfl dX1_link_27 ?_
    refine lv_if_ne (tgt := 45) hx hb dX1_link_30 (by decide) (fun ca_3 => ?_) (fun ca_3 => ?_)
    · exact W.vret hx hb hr (fun t ht hW => ⟨⟨((nI c0), fO, fG, fH, fM, fN, fT, fR, fF, fK, fV, fE, 1), rfl, (Or.inr ⟨fun a i t ha hi _ h => hno a i ha hi ⟨h.1, h.2.1⟩, rfl⟩), (by rw [ht]; exact hP), va_K.moved hW.alike hK, hD⟩, hS.F ht⟩) hS.2.2 dX1_link_45
    · exact absurd ca_3 (by decide)
  · have hyes : (∃ a i, a < c0 ∧ i < gmv sO sA sB a ∧ n = nI a ∧ j = nI i) := by rcases hq with ⟨a, _⟩ | ⟨_, a⟩; exact a; exact absurd a c_2
    obtain ⟨a, i, ha, hi, rfl, rfl⟩ := hyes
    have h12 := (g_mvI hg ha).2
    refine lv_aload_n hx hb dX1_link_10 rfl (lv_at hl 0 rfl) ?_
    refine lv_iload_n hx hb dX1_link_11 rfl (lv_at hl 3 rfl) ?_
    refine g_calli ⟨hx, hb, hml, hown, hw⟩ (c_X1_isState l dC dI ad cz ci cj H.size (nI c0) fO fG fH fM fN fT fR fF fK fV fE th x c0 rfl hg.2.1) (cwV 1 hw gv_X1_X1_isState rfl rfl rfl (by decide +kernel) ⟨Nat.le_of_ble_eq_true rfl, Nat.le_of_ble_eq_true rfl⟩) hK hP hD hS hA (ci := 1) (q0 := 0) rfl rfl rfl hl.1 rfl (Nat.le_of_ble_eq_true rfl) dX1_link_12 ⟨Nat.zero_le _, Nat.zero_le _⟩ (fun rb_3 un H locs hq hP hD hS => ?_)
    obtain ⟨rfl, hq⟩ := hq
    have hP : va_P (dC, dI) vwCl (mw ad cz ci cj ((nI c0), fO, fG, fH, fM, fN, fT, fR, fF, fK, fV, fE, th)) H := hP
    have hD : va_D Ar (mw ad cz ci cj ((nI c0), fO, fG, fH, fM, fN, fT, fR, fF, fK, fV, fE, th)) := hD
    refine lv_if_eq (tgt := 22) hx hb dX1_link_15 (by decide) (fun cb_4 => ?_) (fun cb_4 => ?_)
    · have hno : ∀ k, k < c0 → x ≠ nI k := by rcases hq with ⟨_, a⟩ | ⟨a, _⟩; exact absurd cb_4 (by rw [a]; decide); exact a
      refine lv_iconst (v := 1) hx hb dX1_link_22 (by decide) ?_
      refine va_put (D := (dC, dI)) (ci := 1) (v := .int 1) (ty := .int) (C := RX1) (T := TX1) (N := 13) hx hb hw in_X1 tyX1 tyX1_ok nmX1 hown hK hP hD hS 0 rfl rfl 12 (by decide) (hw _ m_8_36) (fun _ h9 => h9) rfl (by decide +kernel) rfl rfl (Nat.le_of_ble_eq_true rfl) dX1_link_23 (fun H locs hP hD hS => ?_)
      have hP : va_P (dC, dI) vwCl (mw ad cz ci cj ((nI c0), fO, fG, fH, fM, fN, fT, fR, fF, fK, fV, fE, 1)) H := hP
      have hD : va_D Ar (mw ad cz ci cj ((nI c0), fO, fG, fH, fM, fN, fT, fR, fF, fK, fV, fE, 1)) := hD
      refine lv_aload_n hx hb dX1_link_26 rfl (lv_at hl 0 rfl) ?_
      refine va_get (D := (dC, dI)) (ci := 1) (v := .int 1) (C := RX1) (T := TX1) (N := 13) hx hb hw in_X1 hown hK hP 0 rfl rfl 12 (by decide) (hw _ m_8_36) (fun _ h9 => h9) rfl dX1_link_27 ?_
      refine lv_if_ne (tgt := 45) hx hb dX1_link_30 (by decide) (fun cba_5 => ?_) (fun cba_5 => ?_)
      · exact W.vret hx hb hr (fun t ht hW => ⟨⟨((nI c0), fO, fG, fH, fM, fN, fT, fR, fF, fK, fV, fE, 1), rfl, (Or.inr ⟨fun a i t _ _ ht h => hno t ht h.2.2, rfl⟩), (by rw [ht]; exact hP), va_K.moved hW.alike hK, hD⟩, hS.F ht⟩) hS.2.2 dX1_link_45
      · exact absurd cba_5 (by decide)
    · have hyes : ∃ k, k < c0 ∧ x = nI k := by rcases hq with ⟨a, _⟩ | ⟨_, a⟩; exact a; exact absurd a cb_4
      obtain ⟨t2, ht2, rfl⟩ := hyes
      refine lv_iconst (v := 0) hx hb dX1_link_18 (by decide) ?_
      refine lv_goto (tgt := 23) hx hb dX1_link_19 (by decide) ?_
      refine va_put (D := (dC, dI)) (ci := 1) (v := .int 0) (ty := .int) (C := RX1) (T := TX1) (N := 13) hx hb hw in_X1 tyX1 tyX1_ok nmX1 hown hK hP hD hS 0 rfl rfl 12 (by decide) (hw _ m_8_36) (fun _ h9 => h9) rfl (by decide +kernel) rfl rfl (Nat.le_of_ble_eq_true rfl) dX1_link_23 (fun H locs hP hD hS => ?_)
      have hP : va_P (dC, dI) vwCl (mw ad cz ci cj ((nI c0), fO, fG, fH, fM, fN, fT, fR, fF, fK, fV, fE, 0)) H := hP
      have hD : va_D Ar (mw ad cz ci cj ((nI c0), fO, fG, fH, fM, fN, fT, fR, fF, fK, fV, fE, 0)) := hD
      refine lv_aload_n hx hb dX1_link_26 rfl (lv_at hl 0 rfl) ?_
      refine va_get (D := (dC, dI)) (ci := 1) (v := .int 0) (C := RX1) (T := TX1) (N := 13) hx hb hw in_X1 hown hK hP 0 rfl rfl 12 (by decide) (hw _ m_8_36) (fun _ h9 => h9) rfl dX1_link_27 ?_
      refine lv_if_ne (tgt := 45) hx hb dX1_link_30 (by decide) (fun cbb_5 => ?_) (fun cbb_5 => ?_)
      · exact absurd rfl cbb_5
      · refine lv_aload_n hx hb dX1_link_33 rfl (lv_at hl 0 rfl) ?_
        refine va_get (D := (dC, dI)) (ci := 1) (v := .ref (ad 6)) (C := RX1) (T := TX1) (N := 13) hx hb hw in_X1 hown hK hP 0 rfl rfl 6 (by decide) (hw _ m_8_30) (fun _ h9 => h9) rfl dX1_link_34 ?_
        refine lv_bipush (v := 12) hx hb dX1_link_37 (by decide) ?_
        refine lv_iload_n hx hb dX1_link_39 rfl (lv_at hl 1 rfl) ?_
        refine lv_imul hx hb dX1_link_40 ?_
        refine x_topi (y := nI (a * 12)) ((pk_mul 12 a).trans (by rw [Nat.mul_comm])) ?_
        refine lv_iload_n hx hb dX1_link_41 rfl (lv_at hl 2 rfl) ?_
        refine lv_iadd hx hb dX1_link_42 ?_
        refine x_topi (y := nI (a * 12 + i)) (nI_add _ _) ?_
        refine lv_iload_n hx hb dX1_link_43 rfl (lv_at hl 3 rfl) ?_
        refine va_iast hx hb hK hP hD hS 6 1 rfl rfl (vp_in_nI (by omega) (by decide)) dX1_link_44 (fun H locs hP hD hS => ?_)
        rw [nI_clamp (by omega)] at hP hD
        have hP : va_P (dC, dI) vwCl (mw ad cz ci cj ((nI c0), fO, fG, fH, fM, fN, (upd fT (a * 12 + i) (nI t2)), fR, fF, fK, fV, fE, 0)) H := hP
        have hD : va_D Ar (mw ad cz ci cj ((nI c0), fO, fG, fH, fM, fN, (upd fT (a * 12 + i) (nI t2)), fR, fF, fK, fV, fE, 0)) := hD
        exact W.vret hx hb hr (fun t ht hW => ⟨⟨((nI c0), fO, fG, fH, fM, fN, (upd fT (a * 12 + i) (nI t2)), fR, fF, fK, fV, fE, 0), rfl, (Or.inl ⟨a, i, t2, ha, hi, ht2, rfl, rfl, rfl, rfl⟩), (by rw [ht]; exact hP), va_K.moved hW.alike hK, hD⟩, hS.F ht⟩) hS.2.2 dX1_link_45
set_option maxHeartbeats 4000000 in
set_option maxRecDepth 100000 in
theorem c_X1_next (l : Launch) (dC : Nat → ClassId) (dI : Nat → Nat → Nat) (ad : Nat → Nat) (cz ci cj : ClassId) (sz : Nat) (st : Int32) (fO : Nat → Int32) (fG : Nat → Int32) (fH : Nat → Int32) (fM : Nat → Int32) (fN : Nat → Int32) (fT : Nat → Int32) (fR : Nat → Int32) (fF : Nat → Int32) (fK : Nat → Int32) (fV : Nat → Int32) (fE : Nat → Int32) (th : Int32) (n : Int32) (j : Int32) (sO sA sB sT : Nat → Int32) (c0 : Nat) (hg : g_ok c0 sO sA sB sT) (hm : m_rel c0 sO sA sB sT fO fG fH fM fN fT) : Met l yX1_next wX1_next ({ frames := 2, cells := 0, slots := 0, locals := 43 }) (va_Pc [.ref (ad 0), .int n, .int j] (g_Pre (dC, dI) vwCl (gty cz ci cj) (mw ad cz ci cj ((nI c0), fO, fG, fH, fM, fN, fT, fR, fF, fK, fV, fE, th)) sz)) (va_Qi (fun (r : Int32) (u : MS) => (∃ a i, a < c0 ∧ i < gmv sO sA sB a ∧ n = nI a ∧ j = nI i ∧ r = nI (gtg sT a i) ∧ u = ((nI c0), fO, fG, fH, fM, fN, fT, fR, fF, fK, fV, fE, 0)) ∨ ((∀ a i, a < c0 → i < gmv sO sA sB a → ¬ (n = nI a ∧ j = nI i)) ∧ u = ((nI c0), fO, fG, fH, fM, fN, fT, fR, fF, fK, fV, fE, 1))) (g_At (dC, dI) vwCl (gty cz ci cj) (va_A (mw ad cz ci cj ((nI c0), fO, fG, fH, fM, fN, fT, fR, fF, fK, fV, fE, th)) sz) (mw ad cz ci cj)) (va_A (mw ad cz ci cj ((nI c0), fO, fG, fH, fM, fN, fT, fR, fF, fK, fV, fE, th)) sz)) 0 0 (va_A (mw ad cz ci cj ((nI c0), fO, fG, fH, fM, fN, fT, fR, fF, fK, fV, fE, th)) sz) := by
  refine Met.ofW (cc := cX1_next) (maxL := 3) (ret := some .int) (by decide) rfl ?_
  intro p e s m args below meth c s₁ Bd hml hv
  obtain ⟨rfl, hsz, hP, hK, hD0⟩ := hv
  have hx := Bd.exec
  have hb := Bd.bytes
  have hr := Bd.returns
  have hts := atoms_spec (ws := wX1_next) Bd.pre
  have hw : ∀ w ∈ wAll, w.before _ s = true := fun w h => hts w (List.mem_cons_of_mem _ h)
  have hown : s.vm.findClass "GameGraphModel" = some m.cls := findClass_of_methodNamed Bd.named
  have hlocks := Bd.notSynchronized
  subst hsz
  have hD := hD0.self (sz := s.heap.size)
  generalize hAe : va_A (mw ad cz ci cj ((nI c0), fO, fG, fH, fM, fN, fT, fR, fF, fK, fV, fE, th)) s.heap.size = Ar at hD ⊢
  have hA : ∀ q : Nat, s.heap.size ≤ q → Ar q := fun q h => by rw [← hAe]; exact Or.inr h
  obtain ⟨H, hH⟩ : ∃ H : Heap, H = s.heap := ⟨_, rfl⟩
  have hS : va_S Ar s.heap H [] := by rw [hH]; exact va_S.rf
  have hP : va_P (dC, dI) vwCl (mw ad cz ci cj ((nI c0), fO, fG, fH, fM, fN, fT, fR, fF, fK, fV, fE, th)) H := by rw [hH]; exact hP
  rw [← hH]
  have hl := lv_entry ([.ref (ad 0), .int n, .int j]) (n := 3) (Nat.le_of_ble_eq_true rfl)
  rw [lg_entry_eq]
  generalize (lg_sl ([.ref (ad 0), .int n, .int j]) ++ List.replicate (3 - (lg_sl ([.ref (ad 0), .int n, .int j])).length) Slot.unset).toArray = ls at hl ⊢
  have hl : lv_has ls 3 [(0, .ref (ad 0)), (1, .int n), (2, .int j)] := hl
  have h60 := hg.2.1
  refine lv_aload_n hx hb dX1_next_0 rfl (lv_at hl 0 rfl) ?_
  refine lv_aload_n hx hb dX1_next_1 rfl (lv_at hl 0 rfl) ?_
  refine lv_iload_n hx hb dX1_next_2 rfl (lv_at hl 1 rfl) ?_
  refine lv_iload_n hx hb dX1_next_3 rfl (lv_at hl 2 rfl) ?_
  refine g_calli ⟨hx, hb, hml, hown, hw⟩ (c_X1_isJoint l dC dI ad cz ci cj H.size (nI c0) fO fG fH fM fN fT fR fF fK fV fE th n j sO sA sB sT c0 hg hm) (cwV 2 hw gv_X1_X1_isJoint rfl rfl rfl (by decide +kernel) ⟨Nat.le_of_ble_eq_true rfl, Nat.le_of_ble_eq_true rfl⟩) hK hP hD hS hA (ci := 1) (q0 := 0) rfl rfl rfl hl.1 rfl (Nat.le_of_ble_eq_true rfl) dX1_next_4 ⟨Nat.zero_le _, Nat.zero_le _⟩ (fun r_1 un H locs hq hP hD hS => ?_)
  obtain ⟨rfl, hq⟩ := hq
  have hP : va_P (dC, dI) vwCl (mw ad cz ci cj ((nI c0), fO, fG, fH, fM, fN, fT, fR, fF, fK, fV, fE, th)) H := hP
  have hD : va_D Ar (mw ad cz ci cj ((nI c0), fO, fG, fH, fM, fN, fT, fR, fF, fK, fV, fE, th)) := hD
  refine lv_if_eq (tgt := 14) hx hb dX1_next_7 (by decide) (fun c_2 => ?_) (fun c_2 => ?_)
  · have hno : (∀ a i, a < c0 → i < gmv sO sA sB a → ¬ (n = nI a ∧ j = nI i)) := by rcases hq with ⟨_, a⟩ | ⟨a, _⟩; exact absurd c_2 (by rw [a]; decide); exact a
    refine lv_iconst (v := 1) hx hb dX1_next_14 (by decide) ?_
    refine va_put (D := (dC, dI)) (ci := 1) (v := .int 1) (ty := .int) (C := RX1) (T := TX1) (N := 13) hx hb hw in_X1 tyX1 tyX1_ok nmX1 hown hK hP hD hS 0 rfl rfl 12 (by decide) (hw _ m_8_36) (fun _ h9 => h9) rfl (by decide +kernel) rfl rfl (Nat.le_of_ble_eq_true rfl) dX1_next_15 (fun H locs hP hD hS => ?_)
    have hP : va_P (dC, dI) vwCl (mw ad cz ci cj ((nI c0), fO, fG, fH, fM, fN, fT, fR, fF, fK, fV, fE, 1)) H := hP
    have hD : va_D Ar (mw ad cz ci cj ((nI c0), fO, fG, fH, fM, fN, fT, fR, fF, fK, fV, fE, 1)) := hD
    refine lv_aload_n hx hb dX1_next_18 rfl (lv_at hl 0 rfl) ?_
    refine va_get (D := (dC, dI)) (ci := 1) (v := .int 1) (C := RX1) (T := TX1) (N := 13) hx hb hw in_X1 hown hK hP 0 rfl rfl 12 (by decide) (hw _ m_8_36) (fun _ h9 => h9) rfl dX1_next_19 ?_
    refine lv_if_eq (tgt := 29) hx hb dX1_next_22 (by decide) (fun ca_3 => ?_) (fun ca_3 => ?_)
    · exact absurd ca_3 (by decide)
    · refine lv_iconst (v := 0) hx hb dX1_next_25 (by decide) ?_
      refine lv_goto (tgt := 40) hx hb dX1_next_26 (by decide) ?_
      exact W.iret (v := 0) hx hb hr (fun t ht hW => ⟨⟨0, ((nI c0), fO, fG, fH, fM, fN, fT, fR, fF, fK, fV, fE, 1), rfl, (Or.inr ⟨hno, rfl⟩), (by rw [ht]; exact hP), va_K.moved hW.alike hK, hD⟩, hS.F ht⟩) hS.2.2 dX1_next_40
  · have hyes : (∃ a i, a < c0 ∧ i < gmv sO sA sB a ∧ n = nI a ∧ j = nI i) := by rcases hq with ⟨a, _⟩ | ⟨_, a⟩; exact a; exact absurd a c_2
    obtain ⟨a, i, ha, hi, rfl, rfl⟩ := hyes
    have h12 := (g_mvI hg ha).2
    refine lv_iconst (v := 0) hx hb dX1_next_10 (by decide) ?_
    refine lv_goto (tgt := 15) hx hb dX1_next_11 (by decide) ?_
    refine va_put (D := (dC, dI)) (ci := 1) (v := .int 0) (ty := .int) (C := RX1) (T := TX1) (N := 13) hx hb hw in_X1 tyX1 tyX1_ok nmX1 hown hK hP hD hS 0 rfl rfl 12 (by decide) (hw _ m_8_36) (fun _ h9 => h9) rfl (by decide +kernel) rfl rfl (Nat.le_of_ble_eq_true rfl) dX1_next_15 (fun H locs hP hD hS => ?_)
    have hP : va_P (dC, dI) vwCl (mw ad cz ci cj ((nI c0), fO, fG, fH, fM, fN, fT, fR, fF, fK, fV, fE, 0)) H := hP
    have hD : va_D Ar (mw ad cz ci cj ((nI c0), fO, fG, fH, fM, fN, fT, fR, fF, fK, fV, fE, 0)) := hD
    refine lv_aload_n hx hb dX1_next_18 rfl (lv_at hl 0 rfl) ?_
    refine va_get (D := (dC, dI)) (ci := 1) (v := .int 0) (C := RX1) (T := TX1) (N := 13) hx hb hw in_X1 hown hK hP 0 rfl rfl 12 (by decide) (hw _ m_8_36) (fun _ h9 => h9) rfl dX1_next_19 ?_
    refine lv_if_eq (tgt := 29) hx hb dX1_next_22 (by decide) (fun cb_3 => ?_) (fun cb_3 => ?_)
    · refine lv_aload_n hx hb dX1_next_29 rfl (lv_at hl 0 rfl) ?_
      refine va_get (D := (dC, dI)) (ci := 1) (v := .ref (ad 6)) (C := RX1) (T := TX1) (N := 13) hx hb hw in_X1 hown hK hP 0 rfl rfl 6 (by decide) (hw _ m_8_30) (fun _ h9 => h9) rfl dX1_next_30 ?_
      refine lv_bipush (v := 12) hx hb dX1_next_33 (by decide) ?_
      refine lv_iload_n hx hb dX1_next_35 rfl (lv_at hl 1 rfl) ?_
      refine lv_imul hx hb dX1_next_36 ?_
      refine x_topi (y := nI (a * 12)) ((pk_mul 12 a).trans (by rw [Nat.mul_comm])) ?_
      refine lv_iload_n hx hb dX1_next_37 rfl (lv_at hl 2 rfl) ?_
      refine lv_iadd hx hb dX1_next_38 ?_
      refine x_topi (y := nI (a * 12 + i)) (nI_add _ _) ?_
      refine va_iald hx hb hK hP 6 1 rfl rfl (vp_in_nI (by omega) (by decide)) dX1_next_39 ?_
      refine x_topi (y := fT (a * 12 + i)) (by rw [nI_clamp (by omega)]) ?_
      exact W.iret (v := (fT (a * 12 + i))) hx hb hr (fun t ht hW => ⟨⟨(fT (a * 12 + i)), ((nI c0), fO, fG, fH, fM, fN, fT, fR, fF, fK, fV, fE, 0), rfl, (Or.inl ⟨a, i, ha, hi, rfl, rfl, (m_tg hg hm ha hi).1, rfl⟩), (by rw [ht]; exact hP), va_K.moved hW.alike hK, hD⟩, hS.F ht⟩) hS.2.2 dX1_next_40
    · exact absurd rfl cb_3
