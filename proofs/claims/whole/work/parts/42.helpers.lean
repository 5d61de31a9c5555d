/-! The law's own static methods (by tool/helpers.py). -/
set_option maxHeartbeats 4000000 in
set_option maxRecDepth 100000 in
theorem c_L_states (l : Launch) (hl0 : l.stackTraces = false) (dC : Nat → ClassId) (dI : Nat → Nat → Nat) (ad : Nat → Nat) (cz ci cj : ClassId) (sz : Nat) (cnt : Int32) (fO : Nat → Int32) (fA : Nat → Int32) (fB : Nat → Int32) (fT : Nat → Int32) (sv : Int32) (fC : Nat → Int64) (rs : Int64) (dk : Int32) (ds : Int32) (fL : Nat → Int32) (fl : Nat → Int32) (fh : Nat → Int32) (n : Int32)  : Met l yL_states wL_states ({ frames := 7, cells := 1, slots := 6, locals := 111 }) (va_Pc [.ref (ad 0), .int n] (y_Pre (dC, dI) vwCl (gty cz ci cj) (gw ad cz ci cj (cnt, fO, fA, fB, fT, sv, fC, rs, dk, ds, fL, fl, fh)) sz)) (va_Qi (fun (r : Int32) (u : GS) => (r = 0 ∧ (∃ num, 1 ≤ num ∧ num ≤ 60 ∧ n = nI num ∧ ∃ fO2 fA2 fB2 fT2 : Nat → Int32, (∀ k, k < num → fO2 k = 0 ∧ fA2 k = 50 ∧ fB2 k = 50 ∧ ∀ j, j < 12 → fT2 (k * 12 + j) = 0) ∧ u = (nI num, fO2, fA2, fB2, fT2, 0, fC, rs, dk, ds, fL, fl, fh))) ∨ (r = 1 ∧ (u = (cnt, fO, fA, fB, fT, sv, fC, rs, dk, ds, fL, fl, fh) ∧ ∀ k, 1 ≤ k → k ≤ 60 → n ≠ nI k))) (g_At (dC, dI) vwCl (gty cz ci cj) (va_A (gw ad cz ci cj (cnt, fO, fA, fB, fT, sv, fC, rs, dk, ds, fL, fl, fh)) sz) (gw ad cz ci cj)) (va_A (gw ad cz ci cj (cnt, fO, fA, fB, fT, sv, fC, rs, dk, ds, fL, fl, fh)) sz)) 1 6 (va_A (gw ad cz ci cj (cnt, fO, fA, fB, fT, sv, fC, rs, dk, ds, fL, fl, fh)) sz) := by
  refine va_MetW (cc := cL_states) (maxL := 3) (ret := some .int) (hh := [(0, 5, 8, 13)]) (by decide) rfl ?_
  intro p e s m args below meth c s₁ Bd hml hv
  obtain ⟨rfl, ⟨hsz, hP, hK, hD0, hE⟩, hN⟩ := hv
  have hx := Bd.exec
  have hb := Bd.bytes
  have hr := Bd.returns
  have hts := atoms_spec (ws := wL_states) Bd.pre
  have htab := vx_table (x := yL_states) Bd (hts _ List.mem_cons_self)
  have hw : ∀ w ∈ wAll, w.before _ s = true := fun w h => hts w (List.mem_cons_of_mem _ h)
  have hown : s.vm.findClass "GameGraphLaw" = some m.cls := findClass_of_methodNamed Bd.named
  have hlocks := Bd.notSynchronized
  subst hsz
  have hD := hD0.self (sz := s.heap.size)
  generalize hAe : va_A (gw ad cz ci cj (cnt, fO, fA, fB, fT, sv, fC, rs, dk, ds, fL, fl, fh)) s.heap.size = Ar at hD hE ⊢
  have hA : ∀ q : Nat, s.heap.size ≤ q → Ar q := fun q h => by rw [← hAe]; exact Or.inr h
  obtain ⟨H, hH⟩ : ∃ H : Heap, H = s.heap := ⟨_, rfl⟩
  have hS : va_S Ar s.heap H [] := by rw [hH]; exact va_S.rf
  have hP : va_P (dC, dI) vwCl (gw ad cz ci cj (cnt, fO, fA, fB, fT, sv, fC, rs, dk, ds, fL, fl, fh)) H := by rw [hH]; exact hP
  rw [← hH]
  have hl := lv_entry ([.ref (ad 0), .int n]) (n := 3) (Nat.le_of_ble_eq_true rfl)
  rw [lg_entry_eq]
  generalize (lg_sl ([.ref (ad 0), .int n]) ++ List.replicate (3 - (lg_sl ([.ref (ad 0), .int n])).length) Slot.unset).toArray = ls at hl ⊢
  have hl : lv_has ls 3 [(0, .ref (ad 0)), (1, .int n)] := hl
  refine lv_aload_n hx hb dL_states_0 rfl (lv_at hl 0 rfl) ?_
  refine lv_iload_n hx hb dL_states_1 rfl (lv_at hl 1 rfl) ?_
  refine g_callxv ⟨hx, hb, hml, hown, hw⟩ (c_X0_states l hl0 dC dI ad cz ci cj H.size cnt fO fA fB fT sv fC rs dk ds fL fl fh n) (cwV 1 hw gv_L_X0_states rfl rfl rfl (by decide +kernel) ⟨Nat.le_of_ble_eq_true rfl, Nat.le_of_ble_eq_true rfl⟩) hK hP hD hS hA hE (ci := 0) (q0 := 0) rfl rfl rfl hl.1 rfl (Nat.le_of_ble_eq_true rfl) dL_states_2 ⟨Nat.le_of_ble_eq_true rfl, Nat.le_of_ble_eq_true rfl⟩ (fun un H locs hq hP hD hS => ?_) (fun E ce q9 un H locs hq hP hD hS hce hcv hcl => ?_)
  · refine lv_goto (tgt := 11) hx hb dL_states_5 (by decide) ?_
    refine lv_iconst (v := 0) hx hb dL_states_11 (by decide) ?_
    refine W.widen (k := 1) (n := 6) (Nat.le_of_ble_eq_true rfl) (Nat.le_of_ble_eq_true rfl) ?_
    exact W.iret (v := 0) hx hb hr (fun t ht hW => ⟨⟨0, un, rfl, (Or.inl (⟨rfl, hq⟩)), (by rw [ht]; exact hP), va_K.moved hW.alike hK, hD⟩, hS.F ht⟩) hS.2.2 dL_states_12
  · obtain ⟨rfl, hq⟩ := hq
    refine vx_catch (name := "java/lang/IllegalArgumentException") hown [] ⟨0, 5, 8, 13⟩ [] (by rw [htab]; rfl) (fun z hz => absurd hz List.not_mem_nil) (by decide) (by decide) (hw _ m_3_31) (va_Nw.use (x_bad_ot (Cond.castable "java/lang/IllegalArgumentException" "java/lang/IllegalArgumentException") (by decide +kernel)) (hE.2.2.1 (Cond.castable "java/lang/IllegalArgumentException" "java/lang/IllegalArgumentException") (by decide +kernel))) hce hcv hcl ?_
    refine lv_astore_n (lv' := [(2, .ref q9), (0, .ref (ad 0)), (1, .int n)]) hx hb dL_states_8 rfl hl (by decide) rfl (fun ls hl => ?_)
    refine lv_iconst (v := 1) hx hb dL_states_9 (by decide) ?_
    refine W.widen (k := 1) (n := 6) (Nat.le_of_ble_eq_true rfl) (Nat.le_of_ble_eq_true rfl) ?_
    exact W.iret (v := 1) hx hb hr (fun t ht hW => ⟨⟨1, un, rfl, (Or.inr (⟨rfl, hq⟩)), (by rw [ht]; exact hP), va_K.moved hW.alike hK, hD⟩, hS.F ht⟩) hS.2.2 dL_states_10
set_option maxHeartbeats 4000000 in
set_option maxRecDepth 100000 in
theorem c_L_end (l : Launch) (hl0 : l.stackTraces = false) (dC : Nat → ClassId) (dI : Nat → Nat → Nat) (ad : Nat → Nat) (cz ci cj : ClassId) (sz : Nat) (cnt : Int32) (fO : Nat → Int32) (fA : Nat → Int32) (fB : Nat → Int32) (fT : Nat → Int32) (sv : Int32) (fC : Nat → Int64) (rs : Int64) (dk : Int32) (ds : Int32) (fL : Nat → Int32) (fl : Nat → Int32) (fh : Nat → Int32) (n : Int32) (x : Int32) (y : Int32) (c0 : Nat) (hg : g_ok c0 fO fA fB fT) : Met l yL_end wL_end ({ frames := 8, cells := 2, slots := 12, locals := 134 }) (va_Pc [.ref (ad 0), .int n, .int x, .int y] (y_Pre (dC, dI) vwCl (gty cz ci cj) (gw ad cz ci cj ((nI c0), fO, fA, fB, fT, sv, fC, rs, dk, ds, fL, fl, fh)) sz)) (va_Qi (fun (r : Int32) (u : GS) => (r = 0 ∧ (∃ k, k < c0 ∧ n = nI k ∧ ((-2 ≤ x.toInt ∧ x.toInt ≤ 100) ∧ (-2 ≤ y.toInt ∧ y.toInt ≤ 100)) ∧ ∃ fT2 : Nat → Int32, (∀ i, fT2 i = if k * 12 ≤ i ∧ i < k * 12 + 12 then 0 else fT i) ∧ u = ((nI c0), upd fO k 0, upd fA k x, upd fB k y, fT2, 0, fC, rs, dk, ds, fL, fl, fh))) ∨ (r = 1 ∧ (u = ((nI c0), fO, fA, fB, fT, sv, fC, rs, dk, ds, fL, fl, fh) ∧ ∀ k, k < c0 → n ≠ nI k)) ∨ (r = 2 ∧ (u = ((nI c0), fO, fA, fB, fT, sv, fC, rs, dk, ds, fL, fl, fh) ∧ (∃ k, k < c0 ∧ n = nI k) ∧ ¬ ((-2 ≤ x.toInt ∧ x.toInt ≤ 100) ∧ (-2 ≤ y.toInt ∧ y.toInt ≤ 100))))) (g_At (dC, dI) vwCl (gty cz ci cj) (va_A (gw ad cz ci cj ((nI c0), fO, fA, fB, fT, sv, fC, rs, dk, ds, fL, fl, fh)) sz) (gw ad cz ci cj)) (va_A (gw ad cz ci cj ((nI c0), fO, fA, fB, fT, sv, fC, rs, dk, ds, fL, fl, fh)) sz)) 2 12 (va_A (gw ad cz ci cj ((nI c0), fO, fA, fB, fT, sv, fC, rs, dk, ds, fL, fl, fh)) sz) := by
  refine va_MetW (cc := cL_end) (maxL := 5) (ret := some .int) (hh := [(0, 7, 10, 19), (0, 7, 14, 13)]) (by decide) rfl ?_
  intro p e s m args below meth c s₁ Bd hml hv
  obtain ⟨rfl, ⟨hsz, hP, hK, hD0, hE⟩, hN⟩ := hv
  have hx := Bd.exec
  have hb := Bd.bytes
  have hr := Bd.returns
  have hts := atoms_spec (ws := wL_end) Bd.pre
  have htab := vx_table (x := yL_end) Bd (hts _ List.mem_cons_self)
  have hw : ∀ w ∈ wAll, w.before _ s = true := fun w h => hts w (List.mem_cons_of_mem _ h)
  have hown : s.vm.findClass "GameGraphLaw" = some m.cls := findClass_of_methodNamed Bd.named
  have hlocks := Bd.notSynchronized
  subst hsz
  have hD := hD0.self (sz := s.heap.size)
  generalize hAe : va_A (gw ad cz ci cj ((nI c0), fO, fA, fB, fT, sv, fC, rs, dk, ds, fL, fl, fh)) s.heap.size = Ar at hD hE ⊢
  have hA : ∀ q : Nat, s.heap.size ≤ q → Ar q := fun q h => by rw [← hAe]; exact Or.inr h
  obtain ⟨H, hH⟩ : ∃ H : Heap, H = s.heap := ⟨_, rfl⟩
  have hS : va_S Ar s.heap H [] := by rw [hH]; exact va_S.rf
  have hP : va_P (dC, dI) vwCl (gw ad cz ci cj ((nI c0), fO, fA, fB, fT, sv, fC, rs, dk, ds, fL, fl, fh)) H := by rw [hH]; exact hP
  rw [← hH]
  have hl := lv_entry ([.ref (ad 0), .int n, .int x, .int y]) (n := 5) (Nat.le_of_ble_eq_true rfl)
  rw [lg_entry_eq]
  generalize (lg_sl ([.ref (ad 0), .int n, .int x, .int y]) ++ List.replicate (5 - (lg_sl ([.ref (ad 0), .int n, .int x, .int y])).length) Slot.unset).toArray = ls at hl ⊢
  have hl : lv_has ls 5 [(0, .ref (ad 0)), (1, .int n), (2, .int x), (3, .int y)] := hl
  refine lv_aload_n hx hb dL_end_0 rfl (lv_at hl 0 rfl) ?_
  refine lv_iload_n hx hb dL_end_1 rfl (lv_at hl 1 rfl) ?_
  refine lv_iload_n hx hb dL_end_2 rfl (lv_at hl 2 rfl) ?_
  refine lv_iload_n hx hb dL_end_3 rfl (lv_at hl 3 rfl) ?_
  refine g_callxv ⟨hx, hb, hml, hown, hw⟩ (c_X0_end l hl0 dC dI ad cz ci cj H.size (nI c0) fO fA fB fT sv fC rs dk ds fL fl fh n x y c0 hg) (cwV 3 hw gv_L_X0_end rfl rfl rfl (by decide +kernel) ⟨Nat.le_of_ble_eq_true rfl, Nat.le_of_ble_eq_true rfl⟩) hK hP hD hS hA hE (ci := 0) (q0 := 0) rfl rfl rfl hl.1 rfl (Nat.le_of_ble_eq_true rfl) dL_end_4 ⟨Nat.le_of_ble_eq_true rfl, Nat.le_of_ble_eq_true rfl⟩ (fun un H locs hq hP hD hS => ?_) (fun E ce q9 un H locs hq hP hD hS hce hcv hcl => ?_)
  · refine lv_goto (tgt := 18) hx hb dL_end_7 (by decide) ?_
    refine lv_iconst (v := 0) hx hb dL_end_18 (by decide) ?_
    refine W.widen (k := 2) (n := 12) (Nat.le_of_ble_eq_true rfl) (Nat.le_of_ble_eq_true rfl) ?_
    exact W.iret (v := 0) hx hb hr (fun t ht hW => ⟨⟨0, un, rfl, (Or.inl (⟨rfl, hq⟩)), (by rw [ht]; exact hP), va_K.moved hW.alike hK, hD⟩, hS.F ht⟩) hS.2.2 dL_end_19
  · rcases hq with ⟨rfl, hq⟩ | ⟨rfl, hq⟩
    · refine vx_catch (name := "java/lang/IndexOutOfBoundsException") hown [] ⟨0, 7, 10, 19⟩ [⟨0, 7, 14, 13⟩] (by rw [htab]; rfl) (fun z hz => absurd hz List.not_mem_nil) (by decide) (by decide) (hw _ m_5_16) (va_Nw.use (x_bad_ot (Cond.castable "java/lang/IndexOutOfBoundsException" "java/lang/IndexOutOfBoundsException") (by decide +kernel)) (hE.2.2.1 (Cond.castable "java/lang/IndexOutOfBoundsException" "java/lang/IndexOutOfBoundsException") (by decide +kernel))) hce hcv hcl ?_
      refine lv_astore (lv' := [(4, .ref q9), (0, .ref (ad 0)), (1, .int n), (2, .int x), (3, .int y)]) hx hb dL_end_10 hl (by decide) rfl (fun ls hl => ?_)
      refine lv_iconst (v := 1) hx hb dL_end_12 (by decide) ?_
      refine W.widen (k := 2) (n := 12) (Nat.le_of_ble_eq_true rfl) (Nat.le_of_ble_eq_true rfl) ?_
      exact W.iret (v := 1) hx hb hr (fun t ht hW => ⟨⟨1, un, rfl, (Or.inr (Or.inl (⟨rfl, hq⟩))), (by rw [ht]; exact hP), va_K.moved hW.alike hK, hD⟩, hS.F ht⟩) hS.2.2 dL_end_13
    · refine vx_catch (name := "java/lang/IllegalArgumentException") hown [⟨0, 7, 10, 19⟩] ⟨0, 7, 14, 13⟩ [] (by rw [htab]; rfl) (fun z hz => by rw [List.mem_singleton.mp hz]; exact Or.inr ⟨by decide, "java/lang/IndexOutOfBoundsException", hw _ m_5_16, hN.1⟩) (by decide) (by decide) (hw _ m_3_31) (va_Nw.use (x_bad_ot (Cond.castable "java/lang/IllegalArgumentException" "java/lang/IllegalArgumentException") (by decide +kernel)) (hE.2.2.1 (Cond.castable "java/lang/IllegalArgumentException" "java/lang/IllegalArgumentException") (by decide +kernel))) hce hcv hcl ?_
      refine lv_astore (lv' := [(4, .ref q9), (0, .ref (ad 0)), (1, .int n), (2, .int x), (3, .int y)]) hx hb dL_end_14 hl (by decide) rfl (fun ls hl => ?_)
      refine lv_iconst (v := 2) hx hb dL_end_16 (by decide) ?_
      refine W.widen (k := 2) (n := 12) (Nat.le_of_ble_eq_true rfl) (Nat.le_of_ble_eq_true rfl) ?_
      exact W.iret (v := 2) hx hb hr (fun t ht hW => ⟨⟨2, un, rfl, (Or.inr (Or.inr (⟨rfl, hq⟩))), (by rw [ht]; exact hP), va_K.moved hW.alike hK, hD⟩, hS.F ht⟩) hS.2.2 dL_end_17
set_option maxHeartbeats 4000000 in
set_option maxRecDepth 100000 in
theorem c_L_open (l : Launch) (hl0 : l.stackTraces = false) (dC : Nat → ClassId) (dI : Nat → Nat → Nat) (ad : Nat → Nat) (cz ci cj : ClassId) (sz : Nat) (cnt : Int32) (fO : Nat → Int32) (fA : Nat → Int32) (fB : Nat → Int32) (fT : Nat → Int32) (sv : Int32) (fC : Nat → Int64) (rs : Int64) (dk : Int32) (ds : Int32) (fL : Nat → Int32) (fl : Nat → Int32) (fh : Nat → Int32) (n : Int32) (x : Int32) (y : Int32) (c0 : Nat) (hg : g_ok c0 fO fA fB fT) : Met l yL_open wL_open ({ frames := 8, cells := 2, slots := 12, locals := 134 }) (va_Pc [.ref (ad 0), .int n, .int x, .int y] (y_Pre (dC, dI) vwCl (gty cz ci cj) (gw ad cz ci cj ((nI c0), fO, fA, fB, fT, sv, fC, rs, dk, ds, fL, fl, fh)) sz)) (va_Qi (fun (r : Int32) (u : GS) => (r = 0 ∧ (∃ k, k < c0 ∧ n = nI k ∧ ((0 ≤ x.toInt ∧ x.toInt ≤ 12) ∧ (0 ≤ y.toInt ∧ y.toInt ≤ 12) ∧ x * y ≤ 12) ∧ ∃ fT2 : Nat → Int32, (∀ i, fT2 i = if k * 12 ≤ i ∧ i < k * 12 + 12 then 0 else fT i) ∧ u = ((nI c0), upd fO k 1, upd fA k x, upd fB k y, fT2, 0, fC, rs, dk, ds, fL, fl, fh))) ∨ (r = 1 ∧ (u = ((nI c0), fO, fA, fB, fT, sv, fC, rs, dk, ds, fL, fl, fh) ∧ ∀ k, k < c0 → n ≠ nI k)) ∨ (r = 2 ∧ (u = ((nI c0), fO, fA, fB, fT, sv, fC, rs, dk, ds, fL, fl, fh) ∧ (∃ k, k < c0 ∧ n = nI k) ∧ ¬ ((0 ≤ x.toInt ∧ x.toInt ≤ 12) ∧ (0 ≤ y.toInt ∧ y.toInt ≤ 12) ∧ x * y ≤ 12)))) (g_At (dC, dI) vwCl (gty cz ci cj) (va_A (gw ad cz ci cj ((nI c0), fO, fA, fB, fT, sv, fC, rs, dk, ds, fL, fl, fh)) sz) (gw ad cz ci cj)) (va_A (gw ad cz ci cj ((nI c0), fO, fA, fB, fT, sv, fC, rs, dk, ds, fL, fl, fh)) sz)) 2 12 (va_A (gw ad cz ci cj ((nI c0), fO, fA, fB, fT, sv, fC, rs, dk, ds, fL, fl, fh)) sz) := by
  refine va_MetW (cc := cL_open) (maxL := 5) (ret := some .int) (hh := [(0, 7, 10, 19), (0, 7, 14, 13)]) (by decide) rfl ?_
  intro p e s m args below meth c s₁ Bd hml hv
  obtain ⟨rfl, ⟨hsz, hP, hK, hD0, hE⟩, hN⟩ := hv
  have hx := Bd.exec
  have hb := Bd.bytes
  have hr := Bd.returns
  have hts := atoms_spec (ws := wL_open) Bd.pre
  have htab := vx_table (x := yL_open) Bd (hts _ List.mem_cons_self)
  have hw : ∀ w ∈ wAll, w.before _ s = true := fun w h => hts w (List.mem_cons_of_mem _ h)
  have hown : s.vm.findClass "GameGraphLaw" = some m.cls := findClass_of_methodNamed Bd.named
  have hlocks := Bd.notSynchronized
  subst hsz
  have hD := hD0.self (sz := s.heap.size)
  generalize hAe : va_A (gw ad cz ci cj ((nI c0), fO, fA, fB, fT, sv, fC, rs, dk, ds, fL, fl, fh)) s.heap.size = Ar at hD hE ⊢
  have hA : ∀ q : Nat, s.heap.size ≤ q → Ar q := fun q h => by rw [← hAe]; exact Or.inr h
  obtain ⟨H, hH⟩ : ∃ H : Heap, H = s.heap := ⟨_, rfl⟩
  have hS : va_S Ar s.heap H [] := by rw [hH]; exact va_S.rf
  have hP : va_P (dC, dI) vwCl (gw ad cz ci cj ((nI c0), fO, fA, fB, fT, sv, fC, rs, dk, ds, fL, fl, fh)) H := by rw [hH]; exact hP
  rw [← hH]
  have hl := lv_entry ([.ref (ad 0), .int n, .int x, .int y]) (n := 5) (Nat.le_of_ble_eq_true rfl)
  rw [lg_entry_eq]
  generalize (lg_sl ([.ref (ad 0), .int n, .int x, .int y]) ++ List.replicate (5 - (lg_sl ([.ref (ad 0), .int n, .int x, .int y])).length) Slot.unset).toArray = ls at hl ⊢
  have hl : lv_has ls 5 [(0, .ref (ad 0)), (1, .int n), (2, .int x), (3, .int y)] := hl
  refine lv_aload_n hx hb dL_open_0 rfl (lv_at hl 0 rfl) ?_
  refine lv_iload_n hx hb dL_open_1 rfl (lv_at hl 1 rfl) ?_
  refine lv_iload_n hx hb dL_open_2 rfl (lv_at hl 2 rfl) ?_
  refine lv_iload_n hx hb dL_open_3 rfl (lv_at hl 3 rfl) ?_
  refine g_callxv ⟨hx, hb, hml, hown, hw⟩ (c_X0_open l hl0 dC dI ad cz ci cj H.size (nI c0) fO fA fB fT sv fC rs dk ds fL fl fh n x y c0 hg) (cwV 3 hw gv_L_X0_open rfl rfl rfl (by decide +kernel) ⟨Nat.le_of_ble_eq_true rfl, Nat.le_of_ble_eq_true rfl⟩) hK hP hD hS hA hE (ci := 0) (q0 := 0) rfl rfl rfl hl.1 rfl (Nat.le_of_ble_eq_true rfl) dL_open_4 ⟨Nat.le_of_ble_eq_true rfl, Nat.le_of_ble_eq_true rfl⟩ (fun un H locs hq hP hD hS => ?_) (fun E ce q9 un H locs hq hP hD hS hce hcv hcl => ?_)
  · refine lv_goto (tgt := 18) hx hb dL_open_7 (by decide) ?_
    refine lv_iconst (v := 0) hx hb dL_open_18 (by decide) ?_
    refine W.widen (k := 2) (n := 12) (Nat.le_of_ble_eq_true rfl) (Nat.le_of_ble_eq_true rfl) ?_
    exact W.iret (v := 0) hx hb hr (fun t ht hW => ⟨⟨0, un, rfl, (Or.inl (⟨rfl, hq⟩)), (by rw [ht]; exact hP), va_K.moved hW.alike hK, hD⟩, hS.F ht⟩) hS.2.2 dL_open_19
  · rcases hq with ⟨rfl, hq⟩ | ⟨rfl, hq⟩
    · refine vx_catch (name := "java/lang/IndexOutOfBoundsException") hown [] ⟨0, 7, 10, 19⟩ [⟨0, 7, 14, 13⟩] (by rw [htab]; rfl) (fun z hz => absurd hz List.not_mem_nil) (by decide) (by decide) (hw _ m_5_16) (va_Nw.use (x_bad_ot (Cond.castable "java/lang/IndexOutOfBoundsException" "java/lang/IndexOutOfBoundsException") (by decide +kernel)) (hE.2.2.1 (Cond.castable "java/lang/IndexOutOfBoundsException" "java/lang/IndexOutOfBoundsException") (by decide +kernel))) hce hcv hcl ?_
      refine lv_astore (lv' := [(4, .ref q9), (0, .ref (ad 0)), (1, .int n), (2, .int x), (3, .int y)]) hx hb dL_open_10 hl (by decide) rfl (fun ls hl => ?_)
      refine lv_iconst (v := 1) hx hb dL_open_12 (by decide) ?_
      refine W.widen (k := 2) (n := 12) (Nat.le_of_ble_eq_true rfl) (Nat.le_of_ble_eq_true rfl) ?_
      exact W.iret (v := 1) hx hb hr (fun t ht hW => ⟨⟨1, un, rfl, (Or.inr (Or.inl (⟨rfl, hq⟩))), (by rw [ht]; exact hP), va_K.moved hW.alike hK, hD⟩, hS.F ht⟩) hS.2.2 dL_open_13
    · refine vx_catch (name := "java/lang/IllegalArgumentException") hown [⟨0, 7, 10, 19⟩] ⟨0, 7, 14, 13⟩ [] (by rw [htab]; rfl) (fun z hz => by rw [List.mem_singleton.mp hz]; exact Or.inr ⟨by decide, "java/lang/IndexOutOfBoundsException", hw _ m_5_16, hN.1⟩) (by decide) (by decide) (hw _ m_3_31) (va_Nw.use (x_bad_ot (Cond.castable "java/lang/IllegalArgumentException" "java/lang/IllegalArgumentException") (by decide +kernel)) (hE.2.2.1 (Cond.castable "java/lang/IllegalArgumentException" "java/lang/IllegalArgumentException") (by decide +kernel))) hce hcv hcl ?_
      refine lv_astore (lv' := [(4, .ref q9), (0, .ref (ad 0)), (1, .int n), (2, .int x), (3, .int y)]) hx hb dL_open_14 hl (by decide) rfl (fun ls hl => ?_)
      refine lv_iconst (v := 2) hx hb dL_open_16 (by decide) ?_
      refine W.widen (k := 2) (n := 12) (Nat.le_of_ble_eq_true rfl) (Nat.le_of_ble_eq_true rfl) ?_
      exact W.iret (v := 2) hx hb hr (fun t ht hW => ⟨⟨2, un, rfl, (Or.inr (Or.inr (⟨rfl, hq⟩))), (by rw [ht]; exact hP), va_K.moved hW.alike hK, hD⟩, hS.F ht⟩) hS.2.2 dL_open_17
set_option maxHeartbeats 4000000 in
set_option maxRecDepth 100000 in
theorem c_L_link (l : Launch) (hl0 : l.stackTraces = false) (dC : Nat → ClassId) (dI : Nat → Nat → Nat) (ad : Nat → Nat) (cz ci cj : ClassId) (sz : Nat) (cnt : Int32) (fO : Nat → Int32) (fA : Nat → Int32) (fB : Nat → Int32) (fT : Nat → Int32) (sv : Int32) (fC : Nat → Int64) (rs : Int64) (dk : Int32) (ds : Int32) (fL : Nat → Int32) (fl : Nat → Int32) (fh : Nat → Int32) (n : Int32) (j : Int32) (x : Int32) (c0 : Nat) (hg : g_ok c0 fO fA fB fT) : Met l yL_link wL_link ({ frames := 9, cells := 3, slots := 18, locals := 156 }) (va_Pc [.ref (ad 0), .int n, .int j, .int x] (y_Pre (dC, dI) vwCl (gty cz ci cj) (gw ad cz ci cj ((nI c0), fO, fA, fB, fT, sv, fC, rs, dk, ds, fL, fl, fh)) sz)) (va_Qi (fun (r : Int32) (u : GS) => (r = 0 ∧ (∃ a i t, a < c0 ∧ i < gmv fO fA fB a ∧ t < c0 ∧ n = nI a ∧ j = nI i ∧ x = nI t ∧ u = ((nI c0), fO, fA, fB, upd fT (a * 12 + i) (nI t), 0, fC, rs, dk, ds, fL, fl, fh))) ∨ (r = 1 ∧ (u = ((nI c0), fO, fA, fB, fT, sv, fC, rs, dk, ds, fL, fl, fh) ∧ ∀ a i t, a < c0 → i < gmv fO fA fB a → t < c0 → ¬ (n = nI a ∧ j = nI i ∧ x = nI t)))) (g_At (dC, dI) vwCl (gty cz ci cj) (va_A (gw ad cz ci cj ((nI c0), fO, fA, fB, fT, sv, fC, rs, dk, ds, fL, fl, fh)) sz) (gw ad cz ci cj)) (va_A (gw ad cz ci cj ((nI c0), fO, fA, fB, fT, sv, fC, rs, dk, ds, fL, fl, fh)) sz)) 3 18 (va_A (gw ad cz ci cj ((nI c0), fO, fA, fB, fT, sv, fC, rs, dk, ds, fL, fl, fh)) sz) := by
  refine va_MetW (cc := cL_link) (maxL := 5) (ret := some .int) (hh := [(0, 7, 10, 19)]) (by decide) rfl ?_
  intro p e s m args below meth c s₁ Bd hml hv
  obtain ⟨rfl, ⟨hsz, hP, hK, hD0, hE⟩, hN⟩ := hv
  have hx := Bd.exec
  have hb := Bd.bytes
  have hr := Bd.returns
  have hts := atoms_spec (ws := wL_link) Bd.pre
  have htab := vx_table (x := yL_link) Bd (hts _ List.mem_cons_self)
  have hw : ∀ w ∈ wAll, w.before _ s = true := fun w h => hts w (List.mem_cons_of_mem _ h)
  have hown : s.vm.findClass "GameGraphLaw" = some m.cls := findClass_of_methodNamed Bd.named
  have hlocks := Bd.notSynchronized
  subst hsz
  have hD := hD0.self (sz := s.heap.size)
  generalize hAe : va_A (gw ad cz ci cj ((nI c0), fO, fA, fB, fT, sv, fC, rs, dk, ds, fL, fl, fh)) s.heap.size = Ar at hD hE ⊢
  have hA : ∀ q : Nat, s.heap.size ≤ q → Ar q := fun q h => by rw [← hAe]; exact Or.inr h
  obtain ⟨H, hH⟩ : ∃ H : Heap, H = s.heap := ⟨_, rfl⟩
  have hS : va_S Ar s.heap H [] := by rw [hH]; exact va_S.rf
  have hP : va_P (dC, dI) vwCl (gw ad cz ci cj ((nI c0), fO, fA, fB, fT, sv, fC, rs, dk, ds, fL, fl, fh)) H := by rw [hH]; exact hP
  rw [← hH]
  have hl := lv_entry ([.ref (ad 0), .int n, .int j, .int x]) (n := 5) (Nat.le_of_ble_eq_true rfl)
  rw [lg_entry_eq]
  generalize (lg_sl ([.ref (ad 0), .int n, .int j, .int x]) ++ List.replicate (5 - (lg_sl ([.ref (ad 0), .int n, .int j, .int x])).length) Slot.unset).toArray = ls at hl ⊢
  have hl : lv_has ls 5 [(0, .ref (ad 0)), (1, .int n), (2, .int j), (3, .int x)] := hl
  refine lv_aload_n hx hb dL_link_0 rfl (lv_at hl 0 rfl) ?_
  refine lv_iload_n hx hb dL_link_1 rfl (lv_at hl 1 rfl) ?_
  refine lv_iload_n hx hb dL_link_2 rfl (lv_at hl 2 rfl) ?_
  refine lv_iload_n hx hb dL_link_3 rfl (lv_at hl 3 rfl) ?_
  refine g_callxv ⟨hx, hb, hml, hown, hw⟩ (c_X0_link l hl0 dC dI ad cz ci cj H.size (nI c0) fO fA fB fT sv fC rs dk ds fL fl fh n j x c0 hg) (cwV 3 hw gv_L_X0_link rfl rfl rfl (by decide +kernel) ⟨Nat.le_of_ble_eq_true rfl, Nat.le_of_ble_eq_true rfl⟩) hK hP hD hS hA hE (ci := 0) (q0 := 0) rfl rfl rfl hl.1 rfl (Nat.le_of_ble_eq_true rfl) dL_link_4 ⟨Nat.le_of_ble_eq_true rfl, Nat.le_of_ble_eq_true rfl⟩ (fun un H locs hq hP hD hS => ?_) (fun E ce q9 un H locs hq hP hD hS hce hcv hcl => ?_)
  · refine lv_goto (tgt := 14) hx hb dL_link_7 (by decide) ?_
    refine lv_iconst (v := 0) hx hb dL_link_14 (by decide) ?_
    refine W.widen (k := 3) (n := 18) (Nat.le_of_ble_eq_true rfl) (Nat.le_of_ble_eq_true rfl) ?_
    exact W.iret (v := 0) hx hb hr (fun t ht hW => ⟨⟨0, un, rfl, (Or.inl (⟨rfl, hq⟩)), (by rw [ht]; exact hP), va_K.moved hW.alike hK, hD⟩, hS.F ht⟩) hS.2.2 dL_link_15
  · obtain ⟨rfl, hq⟩ := hq
    refine vx_catch (name := "java/lang/IndexOutOfBoundsException") hown [] ⟨0, 7, 10, 19⟩ [] (by rw [htab]; rfl) (fun z hz => absurd hz List.not_mem_nil) (by decide) (by decide) (hw _ m_5_16) (va_Nw.use (x_bad_ot (Cond.castable "java/lang/IndexOutOfBoundsException" "java/lang/IndexOutOfBoundsException") (by decide +kernel)) (hE.2.2.1 (Cond.castable "java/lang/IndexOutOfBoundsException" "java/lang/IndexOutOfBoundsException") (by decide +kernel))) hce hcv hcl ?_
    refine lv_astore (lv' := [(4, .ref q9), (0, .ref (ad 0)), (1, .int n), (2, .int j), (3, .int x)]) hx hb dL_link_10 hl (by decide) rfl (fun ls hl => ?_)
    refine lv_iconst (v := 1) hx hb dL_link_12 (by decide) ?_
    refine W.widen (k := 3) (n := 18) (Nat.le_of_ble_eq_true rfl) (Nat.le_of_ble_eq_true rfl) ?_
    exact W.iret (v := 1) hx hb hr (fun t ht hW => ⟨⟨1, un, rfl, (Or.inr (⟨rfl, hq⟩)), (by rw [ht]; exact hP), va_K.moved hW.alike hK, hD⟩, hS.F ht⟩) hS.2.2 dL_link_13
set_option maxHeartbeats 4000000 in
set_option maxRecDepth 100000 in
theorem c_L_next (l : Launch) (hl0 : l.stackTraces = false) (dC : Nat → ClassId) (dI : Nat → Nat → Nat) (ad : Nat → Nat) (cz ci cj : ClassId) (qo : Nat) (fo : Nat → Int64) (sz : Nat) (cnt : Int32) (fO : Nat → Int32) (fA : Nat → Int32) (fB : Nat → Int32) (fT : Nat → Int32) (sv : Int32) (fC : Nat → Int64) (rs : Int64) (dk : Int32) (ds : Int32) (fL : Nat → Int32) (fl : Nat → Int32) (fh : Nat → Int32) (n : Int32) (j : Int32) (c0 : Nat) (hg : g_ok c0 fO fA fB fT) : Met l yL_next wL_next ({ frames := 9, cells := 2, slots := 12, locals := 155 }) (va_Pc [.ref (ad 0), .int n, .int j, .ref qo] (y_Pre (dC, dI) vwCl (gty cz ci cj) (gw ad cz ci cj ((nI c0), fO, fA, fB, fT, sv, fC, rs, dk, ds, fL, fl, fh) ++ [(qo, .inl (cj, 1, .inr (.inl fo)))]) sz)) (va_Qi (fun (r : Int32) (u : GS × (Nat → Int64)) => (r = 0 ∧ ∃ x9 : Int32, (u.1 = ((nI c0), fO, fA, fB, fT, sv, fC, rs, dk, ds, fL, fl, fh) ∧ ∃ a i, a < c0 ∧ i < gmv fO fA fB a ∧ n = nI a ∧ j = nI i ∧ x9 = nI (gtg fT a i)) ∧ u.2 (Int32.toNatClampNeg 0) = x9.toInt64) ∨ (r = 1 ∧ (u.1 = ((nI c0), fO, fA, fB, fT, sv, fC, rs, dk, ds, fL, fl, fh) ∧ ∀ a i, a < c0 → i < gmv fO fA fB a → ¬ (n = nI a ∧ j = nI i)))) (g_At (dC, dI) vwCl (gty cz ci cj) (va_A (gw ad cz ci cj ((nI c0), fO, fA, fB, fT, sv, fC, rs, dk, ds, fL, fl, fh) ++ [(qo, .inl (cj, 1, .inr (.inl fo)))]) sz) (fun (u : GS × (Nat → Int64)) => gw ad cz ci cj u.1 ++ [(qo, .inl (cj, 1, .inr (.inl u.2)))])) (va_A (gw ad cz ci cj ((nI c0), fO, fA, fB, fT, sv, fC, rs, dk, ds, fL, fl, fh) ++ [(qo, .inl (cj, 1, .inr (.inl fo)))]) sz)) 2 12 (va_A (gw ad cz ci cj ((nI c0), fO, fA, fB, fT, sv, fC, rs, dk, ds, fL, fl, fh) ++ [(qo, .inl (cj, 1, .inr (.inl fo)))]) sz) := by
  refine va_MetW (cc := cL_next) (maxL := 5) (ret := some .int) (hh := [(0, 10, 13, 19)]) (by decide) rfl ?_
  intro p e s m args below meth c s₁ Bd hml hv
  obtain ⟨rfl, ⟨hsz, hP, hK, hD0, hE⟩, hN⟩ := hv
  have hx := Bd.exec
  have hb := Bd.bytes
  have hr := Bd.returns
  have hts := atoms_spec (ws := wL_next) Bd.pre
  have htab := vx_table (x := yL_next) Bd (hts _ List.mem_cons_self)
  have hw : ∀ w ∈ wAll, w.before _ s = true := fun w h => hts w (List.mem_cons_of_mem _ h)
  have hown : s.vm.findClass "GameGraphLaw" = some m.cls := findClass_of_methodNamed Bd.named
  have hlocks := Bd.notSynchronized
  subst hsz
  have hD := hD0.self (sz := s.heap.size)
  generalize hAe : va_A (gw ad cz ci cj ((nI c0), fO, fA, fB, fT, sv, fC, rs, dk, ds, fL, fl, fh) ++ [(qo, .inl (cj, 1, .inr (.inl fo)))]) s.heap.size = Ar at hD hE ⊢
  have hA : ∀ q : Nat, s.heap.size ≤ q → Ar q := fun q h => by rw [← hAe]; exact Or.inr h
  obtain ⟨H, hH⟩ : ∃ H : Heap, H = s.heap := ⟨_, rfl⟩
  have hS : va_S Ar s.heap H [] := by rw [hH]; exact va_S.rf
  have hP : va_P (dC, dI) vwCl (gw ad cz ci cj ((nI c0), fO, fA, fB, fT, sv, fC, rs, dk, ds, fL, fl, fh) ++ [(qo, .inl (cj, 1, .inr (.inl fo)))]) H := by rw [hH]; exact hP
  rw [← hH]
  have hl := lv_entry ([.ref (ad 0), .int n, .int j, .ref qo]) (n := 5) (Nat.le_of_ble_eq_true rfl)
  rw [lg_entry_eq]
  generalize (lg_sl ([.ref (ad 0), .int n, .int j, .ref qo]) ++ List.replicate (5 - (lg_sl ([.ref (ad 0), .int n, .int j, .ref qo])).length) Slot.unset).toArray = ls at hl ⊢
  have hl : lv_has ls 5 [(0, .ref (ad 0)), (1, .int n), (2, .int j), (3, .ref qo)] := hl
  refine lv_aload_n hx hb dL_next_0 rfl (lv_at hl 3 rfl) ?_
  refine lv_iconst (v := 0) hx hb dL_next_1 (by decide) ?_
  refine lv_aload_n hx hb dL_next_2 rfl (lv_at hl 0 rfl) ?_
  refine lv_iload_n hx hb dL_next_3 rfl (lv_at hl 1 rfl) ?_
  refine lv_iload_n hx hb dL_next_4 rfl (lv_at hl 2 rfl) ?_
  have hPr := x_Pr hP
  have hP := x_Pl hP
  refine g_callxiR ⟨hx, hb, hml, hown, hw⟩ (c_X0_next l hl0 dC dI ad cz ci cj H.size (nI c0) fO fA fB fT sv fC rs dk ds fL fl fh n j c0 hg) (cwV 2 hw gv_L_X0_next rfl rfl rfl (by decide +kernel) ⟨Nat.le_of_ble_eq_true rfl, Nat.le_of_ble_eq_true rfl⟩) hK hP hPr hD hS hA hE (ci := 0) (q0 := 0) rfl rfl rfl hl.1 rfl (Nat.le_of_ble_eq_true rfl) dL_next_5 ⟨Nat.le_of_ble_eq_true rfl, Nat.le_of_ble_eq_true rfl⟩ (fun rr un H locs hq hP hPr hD hS => ?_) (fun E ce q9 un H locs hq hP hPr hD hS hce hcv hcl => ?_)
  · refine lv_i2l hx hb dL_next_8 rfl ?_
    refine va_last hx hb hK (hP.app hPr) hD hS 9 2 rfl rfl (by unfold vp_in; decide) dL_next_9 (fun H locs hP hD hS => ?_)
    have hP : va_P (dC, dI) vwCl (gw ad cz ci cj un ++ [(qo, .inl (cj, 1, .inr (.inl (vp_updL fo (Int32.toNatClampNeg 0) rr.toInt64))))]) H := hP
    have hD : va_D Ar (gw ad cz ci cj un ++ [(qo, .inl (cj, 1, .inr (.inl (vp_updL fo (Int32.toNatClampNeg 0) rr.toInt64))))]) := hD
    refine lv_goto (tgt := 17) hx hb dL_next_10 (by decide) ?_
    refine lv_iconst (v := 0) hx hb dL_next_17 (by decide) ?_
    refine W.widen (k := 2) (n := 12) (Nat.le_of_ble_eq_true rfl) (Nat.le_of_ble_eq_true rfl) ?_
    exact W.iret (v := 0) hx hb hr (fun t ht hW => ⟨⟨0, (un, vp_updL fo (Int32.toNatClampNeg 0) rr.toInt64), rfl, (Or.inl (⟨rfl, rr, hq, (by show vp_updL fo (Int32.toNatClampNeg 0) rr.toInt64 (Int32.toNatClampNeg 0) = _; exact pk_uLs)⟩)), (by rw [ht]; exact hP), va_K.moved hW.alike hK, hD⟩, hS.F ht⟩) hS.2.2 dL_next_18
  · obtain ⟨rfl, hq⟩ := hq
    have hP := hP.app hPr
    refine vx_catch (name := "java/lang/IndexOutOfBoundsException") hown [] ⟨0, 10, 13, 19⟩ [] (by rw [htab]; rfl) (fun z hz => absurd hz List.not_mem_nil) (by decide) (by decide) (hw _ m_5_16) (va_Nw.use (x_bad_ot (Cond.castable "java/lang/IndexOutOfBoundsException" "java/lang/IndexOutOfBoundsException") (by decide +kernel)) (hE.2.2.1 (Cond.castable "java/lang/IndexOutOfBoundsException" "java/lang/IndexOutOfBoundsException") (by decide +kernel))) hce hcv hcl ?_
    refine lv_astore (lv' := [(4, .ref q9), (0, .ref (ad 0)), (1, .int n), (2, .int j), (3, .ref qo)]) hx hb dL_next_13 hl (by decide) rfl (fun ls hl => ?_)
    refine lv_iconst (v := 1) hx hb dL_next_15 (by decide) ?_
    refine W.widen (k := 2) (n := 12) (Nat.le_of_ble_eq_true rfl) (Nat.le_of_ble_eq_true rfl) ?_
    exact W.iret (v := 1) hx hb hr (fun t ht hW => ⟨⟨1, (un, fo), rfl, (Or.inr (⟨rfl, hq⟩)), (by rw [ht]; exact hP), va_K.moved hW.alike hK, hD⟩, hS.F ht⟩) hS.2.2 dL_next_16
set_option maxHeartbeats 4000000 in
set_option maxRecDepth 100000 in
theorem c_L_defect (l : Launch) (hl0 : l.stackTraces = false) (dC : Nat → ClassId) (dI : Nat → Nat → Nat) (ad : Nat → Nat) (cz ci cj : ClassId) (qo : Nat) (fo : Nat → Int64) (sz : Nat) (cnt : Int32) (fO : Nat → Int32) (fA : Nat → Int32) (fB : Nat → Int32) (fT : Nat → Int32) (sv : Int32) (fC : Nat → Int64) (rs : Int64) (dk : Int32) (ds : Int32) (fL : Nat → Int32) (fl : Nat → Int32) (fh : Nat → Int32) (n : Int32) (c0 : Nat) (hg : g_ok c0 fO fA fB fT) (hsv : sv = 0 ∨ (sv = 1 ∧ g_sv c0 fO fA fB fT rs dk ds fL fl fh)) : Met l yL_defect wL_defect ({ frames := 7, cells := 1, slots := 6, locals := 111 }) (va_Pc [.ref (ad 0), .int n, .ref qo] (y_Pre (dC, dI) vwCl (gty cz ci cj) (gw ad cz ci cj ((nI c0), fO, fA, fB, fT, sv, fC, rs, dk, ds, fL, fl, fh) ++ [(qo, .inl (cj, 1, .inr (.inl fo)))]) sz)) (va_Qi (fun (r : Int32) (u : GS × (Nat → Int64)) => (r = 0 ∧ ∃ x9 : Int32, (∃ dk2 ds2, g_SV c0 fO fA fB fT dk2 ds2 u.1 ∧ ((n = 0 ∧ x9 = dk2) ∨ (n = 1 ∧ x9 = ds2))) ∧ u.2 (Int32.toNatClampNeg 0) = x9.toInt64) ∨ (r = 1 ∧ (u.1 = ((nI c0), fO, fA, fB, fT, sv, fC, rs, dk, ds, fL, fl, fh) ∧ ¬ n = 0 ∧ ¬ n = 1))) (g_At (dC, dI) vwCl (gty cz ci cj) (va_A (gw ad cz ci cj ((nI c0), fO, fA, fB, fT, sv, fC, rs, dk, ds, fL, fl, fh) ++ [(qo, .inl (cj, 1, .inr (.inl fo)))]) sz) (fun (u : GS × (Nat → Int64)) => gw ad cz ci cj u.1 ++ [(qo, .inl (cj, 1, .inr (.inl u.2)))])) (va_A (gw ad cz ci cj ((nI c0), fO, fA, fB, fT, sv, fC, rs, dk, ds, fL, fl, fh) ++ [(qo, .inl (cj, 1, .inr (.inl fo)))]) sz)) 1 6 (va_A (gw ad cz ci cj ((nI c0), fO, fA, fB, fT, sv, fC, rs, dk, ds, fL, fl, fh) ++ [(qo, .inl (cj, 1, .inr (.inl fo)))]) sz) := by
  refine va_MetW (cc := cL_defect) (maxL := 4) (ret := some .int) (hh := [(0, 9, 12, 13)]) (by decide) rfl ?_
  intro p e s m args below meth c s₁ Bd hml hv
  obtain ⟨rfl, ⟨hsz, hP, hK, hD0, hE⟩, hN⟩ := hv
  have hx := Bd.exec
  have hb := Bd.bytes
  have hr := Bd.returns
  have hts := atoms_spec (ws := wL_defect) Bd.pre
  have htab := vx_table (x := yL_defect) Bd (hts _ List.mem_cons_self)
  have hw : ∀ w ∈ wAll, w.before _ s = true := fun w h => hts w (List.mem_cons_of_mem _ h)
  have hown : s.vm.findClass "GameGraphLaw" = some m.cls := findClass_of_methodNamed Bd.named
  have hlocks := Bd.notSynchronized
  subst hsz
  have hD := hD0.self (sz := s.heap.size)
  generalize hAe : va_A (gw ad cz ci cj ((nI c0), fO, fA, fB, fT, sv, fC, rs, dk, ds, fL, fl, fh) ++ [(qo, .inl (cj, 1, .inr (.inl fo)))]) s.heap.size = Ar at hD hE ⊢
  have hA : ∀ q : Nat, s.heap.size ≤ q → Ar q := fun q h => by rw [← hAe]; exact Or.inr h
  obtain ⟨H, hH⟩ : ∃ H : Heap, H = s.heap := ⟨_, rfl⟩
  have hS : va_S Ar s.heap H [] := by rw [hH]; exact va_S.rf
  have hP : va_P (dC, dI) vwCl (gw ad cz ci cj ((nI c0), fO, fA, fB, fT, sv, fC, rs, dk, ds, fL, fl, fh) ++ [(qo, .inl (cj, 1, .inr (.inl fo)))]) H := by rw [hH]; exact hP
  rw [← hH]
  have hl := lv_entry ([.ref (ad 0), .int n, .ref qo]) (n := 4) (Nat.le_of_ble_eq_true rfl)
  rw [lg_entry_eq]
  generalize (lg_sl ([.ref (ad 0), .int n, .ref qo]) ++ List.replicate (4 - (lg_sl ([.ref (ad 0), .int n, .ref qo])).length) Slot.unset).toArray = ls at hl ⊢
  have hl : lv_has ls 4 [(0, .ref (ad 0)), (1, .int n), (2, .ref qo)] := hl
  refine lv_aload_n hx hb dL_defect_0 rfl (lv_at hl 2 rfl) ?_
  refine lv_iconst (v := 0) hx hb dL_defect_1 (by decide) ?_
  refine lv_aload_n hx hb dL_defect_2 rfl (lv_at hl 0 rfl) ?_
  refine lv_iload_n hx hb dL_defect_3 rfl (lv_at hl 1 rfl) ?_
  have hPr := x_Pr hP
  have hP := x_Pl hP
  refine g_callxiR ⟨hx, hb, hml, hown, hw⟩ (c_X0_defect l hl0 dC dI ad cz ci cj H.size (nI c0) fO fA fB fT sv fC rs dk ds fL fl fh n c0 hg hsv) (cwV 1 hw gv_L_X0_defect rfl rfl rfl (by decide +kernel) ⟨Nat.le_of_ble_eq_true rfl, Nat.le_of_ble_eq_true rfl⟩) hK hP hPr hD hS hA hE (ci := 0) (q0 := 0) rfl rfl rfl hl.1 rfl (Nat.le_of_ble_eq_true rfl) dL_defect_4 ⟨Nat.le_of_ble_eq_true rfl, Nat.le_of_ble_eq_true rfl⟩ (fun rr un H locs hq hP hPr hD hS => ?_) (fun E ce q9 un H locs hq hP hPr hD hS hce hcv hcl => ?_)
  · refine lv_i2l hx hb dL_defect_7 rfl ?_
    refine va_last hx hb hK (hP.app hPr) hD hS 9 2 rfl rfl (by unfold vp_in; decide) dL_defect_8 (fun H locs hP hD hS => ?_)
    have hP : va_P (dC, dI) vwCl (gw ad cz ci cj un ++ [(qo, .inl (cj, 1, .inr (.inl (vp_updL fo (Int32.toNatClampNeg 0) rr.toInt64))))]) H := hP
    have hD : va_D Ar (gw ad cz ci cj un ++ [(qo, .inl (cj, 1, .inr (.inl (vp_updL fo (Int32.toNatClampNeg 0) rr.toInt64))))]) := hD
    refine lv_goto (tgt := 15) hx hb dL_defect_9 (by decide) ?_
    refine lv_iconst (v := 0) hx hb dL_defect_15 (by decide) ?_
    refine W.widen (k := 1) (n := 6) (Nat.le_of_ble_eq_true rfl) (Nat.le_of_ble_eq_true rfl) ?_
    exact W.iret (v := 0) hx hb hr (fun t ht hW => ⟨⟨0, (un, vp_updL fo (Int32.toNatClampNeg 0) rr.toInt64), rfl, (Or.inl (⟨rfl, rr, hq, (by show vp_updL fo (Int32.toNatClampNeg 0) rr.toInt64 (Int32.toNatClampNeg 0) = _; exact pk_uLs)⟩)), (by rw [ht]; exact hP), va_K.moved hW.alike hK, hD⟩, hS.F ht⟩) hS.2.2 dL_defect_16
  · obtain ⟨rfl, hq⟩ := hq
    have hP := hP.app hPr
    refine vx_catch (name := "java/lang/IllegalArgumentException") hown [] ⟨0, 9, 12, 13⟩ [] (by rw [htab]; rfl) (fun z hz => absurd hz List.not_mem_nil) (by decide) (by decide) (hw _ m_3_31) (va_Nw.use (x_bad_ot (Cond.castable "java/lang/IllegalArgumentException" "java/lang/IllegalArgumentException") (by decide +kernel)) (hE.2.2.1 (Cond.castable "java/lang/IllegalArgumentException" "java/lang/IllegalArgumentException") (by decide +kernel))) hce hcv hcl ?_
    refine lv_astore_n (lv' := [(3, .ref q9), (0, .ref (ad 0)), (1, .int n), (2, .ref qo)]) hx hb dL_defect_12 rfl hl (by decide) rfl (fun ls hl => ?_)
    refine lv_iconst (v := 1) hx hb dL_defect_13 (by decide) ?_
    refine W.widen (k := 1) (n := 6) (Nat.le_of_ble_eq_true rfl) (Nat.le_of_ble_eq_true rfl) ?_
    exact W.iret (v := 1) hx hb hr (fun t ht hW => ⟨⟨1, (un, fo), rfl, (Or.inr (⟨rfl, hq⟩)), (by rw [ht]; exact hP), va_K.moved hW.alike hK, hD⟩, hS.F ht⟩) hS.2.2 dL_defect_14
set_option maxHeartbeats 4000000 in
set_option maxRecDepth 100000 in
theorem c_L_value (l : Launch) (hl0 : l.stackTraces = false) (dC : Nat → ClassId) (dI : Nat → Nat → Nat) (ad : Nat → Nat) (cz ci cj : ClassId) (qo : Nat) (fo : Nat → Int64) (sz : Nat) (cnt : Int32) (fO : Nat → Int32) (fA : Nat → Int32) (fB : Nat → Int32) (fT : Nat → Int32) (sv : Int32) (fC : Nat → Int64) (rs : Int64) (dk : Int32) (ds : Int32) (fL : Nat → Int32) (fl : Nat → Int32) (fh : Nat → Int32) (n : Int32) (c0 : Nat) (hg : g_ok c0 fO fA fB fT) (hsv : sv = 0 ∨ (sv = 1 ∧ g_sv c0 fO fA fB fT rs dk ds fL fl fh)) : Met l yL_value wL_value ({ frames := 123, cells := 1, slots := 6, locals := 3427 }) (va_Pc [.ref (ad 0), .int n, .ref qo] (y_Pre (dC, dI) vwCl (gty cz ci cj) (gw ad cz ci cj ((nI c0), fO, fA, fB, fT, sv, fC, rs, dk, ds, fL, fl, fh) ++ [(qo, .inl (cj, 1, .inr (.inl fo)))]) sz)) (va_Qi (fun (r : Int32) (u : GS × (Nat → Int64)) => (r = 0 ∧ ∃ x9 : Int32, (g_nd c0 fO fA fB fT ∧ (∃ ds2, g_SV c0 fO fA fB fT 0 ds2 u.1) ∧ ∃ k, k < c0 ∧ n = nI k ∧ gre c0 fO fA fB fT k ∧ x9.toInt = gval c0 fO fA fB fT k) ∧ u.2 (Int32.toNatClampNeg 0) = x9.toInt64) ∨ (r = 1 ∧ (∃ dk2 ds2, dk2 ≠ 0 ∧ g_SV c0 fO fA fB fT dk2 ds2 u.1)) ∨ (r = 2 ∧ ((∃ ds2, g_SV c0 fO fA fB fT 0 ds2 u.1) ∧ ∀ k, k < c0 → n = nI k → ¬ gre c0 fO fA fB fT k))) (g_At (dC, dI) vwCl (gty cz ci cj) (va_A (gw ad cz ci cj ((nI c0), fO, fA, fB, fT, sv, fC, rs, dk, ds, fL, fl, fh) ++ [(qo, .inl (cj, 1, .inr (.inl fo)))]) sz) (fun (u : GS × (Nat → Int64)) => gw ad cz ci cj u.1 ++ [(qo, .inl (cj, 1, .inr (.inl u.2)))])) (va_A (gw ad cz ci cj ((nI c0), fO, fA, fB, fT, sv, fC, rs, dk, ds, fL, fl, fh) ++ [(qo, .inl (cj, 1, .inr (.inl fo)))]) sz)) 1 6 (va_A (gw ad cz ci cj ((nI c0), fO, fA, fB, fT, sv, fC, rs, dk, ds, fL, fl, fh) ++ [(qo, .inl (cj, 1, .inr (.inl fo)))]) sz) := by
  refine va_MetW (cc := cL_value) (maxL := 4) (ret := some .int) (hh := [(0, 9, 12, 38), (0, 9, 15, 19)]) (by decide) rfl ?_
  intro p e s m args below meth c s₁ Bd hml hv
  obtain ⟨rfl, ⟨hsz, hP, hK, hD0, hE⟩, hN⟩ := hv
  have hx := Bd.exec
  have hb := Bd.bytes
  have hr := Bd.returns
  have hts := atoms_spec (ws := wL_value) Bd.pre
  have htab := vx_table (x := yL_value) Bd (hts _ List.mem_cons_self)
  have hw : ∀ w ∈ wAll, w.before _ s = true := fun w h => hts w (List.mem_cons_of_mem _ h)
  have hown : s.vm.findClass "GameGraphLaw" = some m.cls := findClass_of_methodNamed Bd.named
  have hlocks := Bd.notSynchronized
  subst hsz
  have hD := hD0.self (sz := s.heap.size)
  generalize hAe : va_A (gw ad cz ci cj ((nI c0), fO, fA, fB, fT, sv, fC, rs, dk, ds, fL, fl, fh) ++ [(qo, .inl (cj, 1, .inr (.inl fo)))]) s.heap.size = Ar at hD hE ⊢
  have hA : ∀ q : Nat, s.heap.size ≤ q → Ar q := fun q h => by rw [← hAe]; exact Or.inr h
  obtain ⟨H, hH⟩ : ∃ H : Heap, H = s.heap := ⟨_, rfl⟩
  have hS : va_S Ar s.heap H [] := by rw [hH]; exact va_S.rf
  have hP : va_P (dC, dI) vwCl (gw ad cz ci cj ((nI c0), fO, fA, fB, fT, sv, fC, rs, dk, ds, fL, fl, fh) ++ [(qo, .inl (cj, 1, .inr (.inl fo)))]) H := by rw [hH]; exact hP
  rw [← hH]
  have hl := lv_entry ([.ref (ad 0), .int n, .ref qo]) (n := 4) (Nat.le_of_ble_eq_true rfl)
  rw [lg_entry_eq]
  generalize (lg_sl ([.ref (ad 0), .int n, .ref qo]) ++ List.replicate (4 - (lg_sl ([.ref (ad 0), .int n, .ref qo])).length) Slot.unset).toArray = ls at hl ⊢
  have hl : lv_has ls 4 [(0, .ref (ad 0)), (1, .int n), (2, .ref qo)] := hl
  refine lv_aload_n hx hb dL_value_0 rfl (lv_at hl 2 rfl) ?_
  refine lv_iconst (v := 0) hx hb dL_value_1 (by decide) ?_
  refine lv_aload_n hx hb dL_value_2 rfl (lv_at hl 0 rfl) ?_
  refine lv_iload_n hx hb dL_value_3 rfl (lv_at hl 1 rfl) ?_
  have hPr := x_Pr hP
  have hP := x_Pl hP
  refine g_callxiR ⟨hx, hb, hml, hown, hw⟩ (c_X0_value l hl0 dC dI ad cz ci cj H.size (nI c0) fO fA fB fT sv fC rs dk ds fL fl fh n c0 hg hsv) (cwV 1 hw gv_L_X0_value rfl rfl rfl (by decide +kernel) ⟨Nat.le_of_ble_eq_true rfl, Nat.le_of_ble_eq_true rfl⟩) hK hP hPr hD hS hA hE (ci := 0) (q0 := 0) rfl rfl rfl hl.1 rfl (Nat.le_of_ble_eq_true rfl) dL_value_4 ⟨Nat.le_of_ble_eq_true rfl, Nat.le_of_ble_eq_true rfl⟩ (fun rr un H locs hq hP hPr hD hS => ?_) (fun E ce q9 un H locs hq hP hPr hD hS hce hcv hcl => ?_)
  · refine lv_i2l hx hb dL_value_7 rfl ?_
    refine va_last hx hb hK (hP.app hPr) hD hS 9 2 rfl rfl (by unfold vp_in; decide) dL_value_8 (fun H locs hP hD hS => ?_)
    have hP : va_P (dC, dI) vwCl (gw ad cz ci cj un ++ [(qo, .inl (cj, 1, .inr (.inl (vp_updL fo (Int32.toNatClampNeg 0) rr.toInt64))))]) H := hP
    have hD : va_D Ar (gw ad cz ci cj un ++ [(qo, .inl (cj, 1, .inr (.inl (vp_updL fo (Int32.toNatClampNeg 0) rr.toInt64))))]) := hD
    refine lv_goto (tgt := 18) hx hb dL_value_9 (by decide) ?_
    refine lv_iconst (v := 0) hx hb dL_value_18 (by decide) ?_
    refine W.widen (k := 1) (n := 6) (Nat.le_of_ble_eq_true rfl) (Nat.le_of_ble_eq_true rfl) ?_
    exact W.iret (v := 0) hx hb hr (fun t ht hW => ⟨⟨0, (un, vp_updL fo (Int32.toNatClampNeg 0) rr.toInt64), rfl, (Or.inl (⟨rfl, rr, hq, (by show vp_updL fo (Int32.toNatClampNeg 0) rr.toInt64 (Int32.toNatClampNeg 0) = _; exact pk_uLs)⟩)), (by rw [ht]; exact hP), va_K.moved hW.alike hK, hD⟩, hS.F ht⟩) hS.2.2 dL_value_19
  · rcases hq with ⟨rfl, hq⟩ | ⟨rfl, hq⟩
    · have hP := hP.app hPr
      refine vx_catch (name := "java/lang/IllegalStateException") hown [] ⟨0, 9, 12, 38⟩ [⟨0, 9, 15, 19⟩] (by rw [htab]; rfl) (fun z hz => absurd hz List.not_mem_nil) (by decide) (by decide) (hw _ m_7_1) (va_Nw.use (x_bad_ot (Cond.castable "java/lang/IllegalStateException" "java/lang/IllegalStateException") (by decide +kernel)) (hE.2.2.1 (Cond.castable "java/lang/IllegalStateException" "java/lang/IllegalStateException") (by decide +kernel))) hce hcv hcl ?_
      refine lv_astore_n (lv' := [(3, .ref q9), (0, .ref (ad 0)), (1, .int n), (2, .ref qo)]) hx hb dL_value_12 rfl hl (by decide) rfl (fun ls hl => ?_)
      refine lv_iconst (v := 1) hx hb dL_value_13 (by decide) ?_
      refine W.widen (k := 1) (n := 6) (Nat.le_of_ble_eq_true rfl) (Nat.le_of_ble_eq_true rfl) ?_
      exact W.iret (v := 1) hx hb hr (fun t ht hW => ⟨⟨1, (un, fo), rfl, (Or.inr (Or.inl (⟨rfl, hq⟩))), (by rw [ht]; exact hP), va_K.moved hW.alike hK, hD⟩, hS.F ht⟩) hS.2.2 dL_value_14
    · have hP := hP.app hPr
      refine vx_catch (name := "java/lang/IndexOutOfBoundsException") hown [⟨0, 9, 12, 38⟩] ⟨0, 9, 15, 19⟩ [] (by rw [htab]; rfl) (fun z hz => by rw [List.mem_singleton.mp hz]; exact Or.inr ⟨by decide, "java/lang/IllegalStateException", hw _ m_7_1, hN.2⟩) (by decide) (by decide) (hw _ m_5_16) (va_Nw.use (x_bad_ot (Cond.castable "java/lang/IndexOutOfBoundsException" "java/lang/IndexOutOfBoundsException") (by decide +kernel)) (hE.2.2.1 (Cond.castable "java/lang/IndexOutOfBoundsException" "java/lang/IndexOutOfBoundsException") (by decide +kernel))) hce hcv hcl ?_
      refine lv_astore_n (lv' := [(3, .ref q9), (0, .ref (ad 0)), (1, .int n), (2, .ref qo)]) hx hb dL_value_15 rfl hl (by decide) rfl (fun ls hl => ?_)
      refine lv_iconst (v := 2) hx hb dL_value_16 (by decide) ?_
      refine W.widen (k := 1) (n := 6) (Nat.le_of_ble_eq_true rfl) (Nat.le_of_ble_eq_true rfl) ?_
      exact W.iret (v := 2) hx hb hr (fun t ht hW => ⟨⟨2, (un, fo), rfl, (Or.inr (Or.inr (⟨rfl, hq⟩))), (by rw [ht]; exact hP), va_K.moved hW.alike hK, hD⟩, hS.F ht⟩) hS.2.2 dL_value_17
set_option maxHeartbeats 4000000 in
set_option maxRecDepth 100000 in
theorem c_L_best (l : Launch) (hl0 : l.stackTraces = false) (dC : Nat → ClassId) (dI : Nat → Nat → Nat) (ad : Nat → Nat) (cz ci cj : ClassId) (qo : Nat) (fo : Nat → Int64) (sz : Nat) (cnt : Int32) (fO : Nat → Int32) (fA : Nat → Int32) (fB : Nat → Int32) (fT : Nat → Int32) (sv : Int32) (fC : Nat → Int64) (rs : Int64) (dk : Int32) (ds : Int32) (fL : Nat → Int32) (fl : Nat → Int32) (fh : Nat → Int32) (n : Int32) (c0 : Nat) (hg : g_ok c0 fO fA fB fT) (hsv : sv = 0 ∨ (sv = 1 ∧ g_sv c0 fO fA fB fT rs dk ds fL fl fh)) : Met l yL_best wL_best ({ frames := 124, cells := 1, slots := 6, locals := 3451 }) (va_Pc [.ref (ad 0), .int n, .ref qo] (y_Pre (dC, dI) vwCl (gty cz ci cj) (gw ad cz ci cj ((nI c0), fO, fA, fB, fT, sv, fC, rs, dk, ds, fL, fl, fh) ++ [(qo, .inl (cj, 1, .inr (.inl fo)))]) sz)) (va_Qi (fun (r : Int32) (u : GS × (Nat → Int64)) => (r = 0 ∧ ∃ x9 : Int32, (g_nd c0 fO fA fB fT ∧ (∃ ds2, g_SV c0 fO fA fB fT 0 ds2 u.1) ∧ ∃ k, k < c0 ∧ n = nI k ∧ gre c0 fO fA fB fT k ∧ ((∃ j, j < gmv fO fA fB k ∧ gval c0 fO fA fB fT (gtg fT k j) = gval c0 fO fA fB fT k ∧ (∀ i, i < j → gval c0 fO fA fB fT (gtg fT k i) ≠ gval c0 fO fA fB fT k) ∧ x9 = nI j) ∨ ((∀ i, i < gmv fO fA fB k → gval c0 fO fA fB fT (gtg fT k i) ≠ gval c0 fO fA fB fT k) ∧ x9 = -1))) ∧ u.2 (Int32.toNatClampNeg 0) = x9.toInt64) ∨ (r = 1 ∧ (∃ dk2 ds2, dk2 ≠ 0 ∧ g_SV c0 fO fA fB fT dk2 ds2 u.1)) ∨ (r = 2 ∧ ((∃ ds2, g_SV c0 fO fA fB fT 0 ds2 u.1) ∧ ∀ k, k < c0 → n = nI k → ¬ gre c0 fO fA fB fT k))) (g_At (dC, dI) vwCl (gty cz ci cj) (va_A (gw ad cz ci cj ((nI c0), fO, fA, fB, fT, sv, fC, rs, dk, ds, fL, fl, fh) ++ [(qo, .inl (cj, 1, .inr (.inl fo)))]) sz) (fun (u : GS × (Nat → Int64)) => gw ad cz ci cj u.1 ++ [(qo, .inl (cj, 1, .inr (.inl u.2)))])) (va_A (gw ad cz ci cj ((nI c0), fO, fA, fB, fT, sv, fC, rs, dk, ds, fL, fl, fh) ++ [(qo, .inl (cj, 1, .inr (.inl fo)))]) sz)) 1 6 (va_A (gw ad cz ci cj ((nI c0), fO, fA, fB, fT, sv, fC, rs, dk, ds, fL, fl, fh) ++ [(qo, .inl (cj, 1, .inr (.inl fo)))]) sz) := by
  refine va_MetW (cc := cL_best) (maxL := 4) (ret := some .int) (hh := [(0, 9, 12, 38), (0, 9, 15, 19)]) (by decide) rfl ?_
  intro p e s m args below meth c s₁ Bd hml hv
  obtain ⟨rfl, ⟨hsz, hP, hK, hD0, hE⟩, hN⟩ := hv
  have hx := Bd.exec
  have hb := Bd.bytes
  have hr := Bd.returns
  have hts := atoms_spec (ws := wL_best) Bd.pre
  have htab := vx_table (x := yL_best) Bd (hts _ List.mem_cons_self)
  have hw : ∀ w ∈ wAll, w.before _ s = true := fun w h => hts w (List.mem_cons_of_mem _ h)
  have hown : s.vm.findClass "GameGraphLaw" = some m.cls := findClass_of_methodNamed Bd.named
  have hlocks := Bd.notSynchronized
  subst hsz
  have hD := hD0.self (sz := s.heap.size)
  generalize hAe : va_A (gw ad cz ci cj ((nI c0), fO, fA, fB, fT, sv, fC, rs, dk, ds, fL, fl, fh) ++ [(qo, .inl (cj, 1, .inr (.inl fo)))]) s.heap.size = Ar at hD hE ⊢
  have hA : ∀ q : Nat, s.heap.size ≤ q → Ar q := fun q h => by rw [← hAe]; exact Or.inr h
  obtain ⟨H, hH⟩ : ∃ H : Heap, H = s.heap := ⟨_, rfl⟩
  have hS : va_S Ar s.heap H [] := by rw [hH]; exact va_S.rf
  have hP : va_P (dC, dI) vwCl (gw ad cz ci cj ((nI c0), fO, fA, fB, fT, sv, fC, rs, dk, ds, fL, fl, fh) ++ [(qo, .inl (cj, 1, .inr (.inl fo)))]) H := by rw [hH]; exact hP
  rw [← hH]
  have hl := lv_entry ([.ref (ad 0), .int n, .ref qo]) (n := 4) (Nat.le_of_ble_eq_true rfl)
  rw [lg_entry_eq]
  generalize (lg_sl ([.ref (ad 0), .int n, .ref qo]) ++ List.replicate (4 - (lg_sl ([.ref (ad 0), .int n, .ref qo])).length) Slot.unset).toArray = ls at hl ⊢
  have hl : lv_has ls 4 [(0, .ref (ad 0)), (1, .int n), (2, .ref qo)] := hl
  refine lv_aload_n hx hb dL_best_0 rfl (lv_at hl 2 rfl) ?_
  refine lv_iconst (v := 0) hx hb dL_best_1 (by decide) ?_
  refine lv_aload_n hx hb dL_best_2 rfl (lv_at hl 0 rfl) ?_
  refine lv_iload_n hx hb dL_best_3 rfl (lv_at hl 1 rfl) ?_
  have hPr := x_Pr hP
  have hP := x_Pl hP
  refine g_callxiR ⟨hx, hb, hml, hown, hw⟩ (c_X0_best l hl0 dC dI ad cz ci cj H.size (nI c0) fO fA fB fT sv fC rs dk ds fL fl fh n c0 hg hsv) (cwV 1 hw gv_L_X0_best rfl rfl rfl (by decide +kernel) ⟨Nat.le_of_ble_eq_true rfl, Nat.le_of_ble_eq_true rfl⟩) hK hP hPr hD hS hA hE (ci := 0) (q0 := 0) rfl rfl rfl hl.1 rfl (Nat.le_of_ble_eq_true rfl) dL_best_4 ⟨Nat.le_of_ble_eq_true rfl, Nat.le_of_ble_eq_true rfl⟩ (fun rr un H locs hq hP hPr hD hS => ?_) (fun E ce q9 un H locs hq hP hPr hD hS hce hcv hcl => ?_)
  · refine lv_i2l hx hb dL_best_7 rfl ?_
    refine va_last hx hb hK (hP.app hPr) hD hS 9 2 rfl rfl (by unfold vp_in; decide) dL_best_8 (fun H locs hP hD hS => ?_)
    have hP : va_P (dC, dI) vwCl (gw ad cz ci cj un ++ [(qo, .inl (cj, 1, .inr (.inl (vp_updL fo (Int32.toNatClampNeg 0) rr.toInt64))))]) H := hP
    have hD : va_D Ar (gw ad cz ci cj un ++ [(qo, .inl (cj, 1, .inr (.inl (vp_updL fo (Int32.toNatClampNeg 0) rr.toInt64))))]) := hD
    refine lv_goto (tgt := 18) hx hb dL_best_9 (by decide) ?_
    refine lv_iconst (v := 0) hx hb dL_best_18 (by decide) ?_
    refine W.widen (k := 1) (n := 6) (Nat.le_of_ble_eq_true rfl) (Nat.le_of_ble_eq_true rfl) ?_
    exact W.iret (v := 0) hx hb hr (fun t ht hW => ⟨⟨0, (un, vp_updL fo (Int32.toNatClampNeg 0) rr.toInt64), rfl, (Or.inl (⟨rfl, rr, hq, (by show vp_updL fo (Int32.toNatClampNeg 0) rr.toInt64 (Int32.toNatClampNeg 0) = _; exact pk_uLs)⟩)), (by rw [ht]; exact hP), va_K.moved hW.alike hK, hD⟩, hS.F ht⟩) hS.2.2 dL_best_19
  · rcases hq with ⟨rfl, hq⟩ | ⟨rfl, hq⟩
    · have hP := hP.app hPr
      refine vx_catch (name := "java/lang/IllegalStateException") hown [] ⟨0, 9, 12, 38⟩ [⟨0, 9, 15, 19⟩] (by rw [htab]; rfl) (fun z hz => absurd hz List.not_mem_nil) (by decide) (by decide) (hw _ m_7_1) (va_Nw.use (x_bad_ot (Cond.castable "java/lang/IllegalStateException" "java/lang/IllegalStateException") (by decide +kernel)) (hE.2.2.1 (Cond.castable "java/lang/IllegalStateException" "java/lang/IllegalStateException") (by decide +kernel))) hce hcv hcl ?_
      refine lv_astore_n (lv' := [(3, .ref q9), (0, .ref (ad 0)), (1, .int n), (2, .ref qo)]) hx hb dL_best_12 rfl hl (by decide) rfl (fun ls hl => ?_)
      refine lv_iconst (v := 1) hx hb dL_best_13 (by decide) ?_
      refine W.widen (k := 1) (n := 6) (Nat.le_of_ble_eq_true rfl) (Nat.le_of_ble_eq_true rfl) ?_
      exact W.iret (v := 1) hx hb hr (fun t ht hW => ⟨⟨1, (un, fo), rfl, (Or.inr (Or.inl (⟨rfl, hq⟩))), (by rw [ht]; exact hP), va_K.moved hW.alike hK, hD⟩, hS.F ht⟩) hS.2.2 dL_best_14
    · have hP := hP.app hPr
      refine vx_catch (name := "java/lang/IndexOutOfBoundsException") hown [⟨0, 9, 12, 38⟩] ⟨0, 9, 15, 19⟩ [] (by rw [htab]; rfl) (fun z hz => by rw [List.mem_singleton.mp hz]; exact Or.inr ⟨by decide, "java/lang/IllegalStateException", hw _ m_7_1, hN.2⟩) (by decide) (by decide) (hw _ m_5_16) (va_Nw.use (x_bad_ot (Cond.castable "java/lang/IndexOutOfBoundsException" "java/lang/IndexOutOfBoundsException") (by decide +kernel)) (hE.2.2.1 (Cond.castable "java/lang/IndexOutOfBoundsException" "java/lang/IndexOutOfBoundsException") (by decide +kernel))) hce hcv hcl ?_
      refine lv_astore_n (lv' := [(3, .ref q9), (0, .ref (ad 0)), (1, .int n), (2, .ref qo)]) hx hb dL_best_15 rfl hl (by decide) rfl (fun ls hl => ?_)
      refine lv_iconst (v := 2) hx hb dL_best_16 (by decide) ?_
      refine W.widen (k := 1) (n := 6) (Nat.le_of_ble_eq_true rfl) (Nat.le_of_ble_eq_true rfl) ?_
      exact W.iret (v := 2) hx hb hr (fun t ht hW => ⟨⟨2, (un, fo), rfl, (Or.inr (Or.inr (⟨rfl, hq⟩))), (by rw [ht]; exact hP), va_K.moved hW.alike hK, hD⟩, hS.F ht⟩) hS.2.2 dL_best_17
set_option maxHeartbeats 4000000 in
set_option maxRecDepth 100000 in
theorem c_L_length (l : Launch) (hl0 : l.stackTraces = false) (dC : Nat → ClassId) (dI : Nat → Nat → Nat) (ad : Nat → Nat) (cz ci cj : ClassId) (qo : Nat) (fo : Nat → Int64) (sz : Nat) (cnt : Int32) (fO : Nat → Int32) (fA : Nat → Int32) (fB : Nat → Int32) (fT : Nat → Int32) (sv : Int32) (fC : Nat → Int64) (rs : Int64) (dk : Int32) (ds : Int32) (fL : Nat → Int32) (fl : Nat → Int32) (fh : Nat → Int32) (n : Int32) (c0 : Nat) (hg : g_ok c0 fO fA fB fT) (hsv : sv = 0 ∨ (sv = 1 ∧ g_sv c0 fO fA fB fT rs dk ds fL fl fh)) : Met l yL_length wL_length ({ frames := 8, cells := 1, slots := 6, locals := 132 }) (va_Pc [.ref (ad 0), .int n, .ref qo] (y_Pre (dC, dI) vwCl (gty cz ci cj) (gw ad cz ci cj ((nI c0), fO, fA, fB, fT, sv, fC, rs, dk, ds, fL, fl, fh) ++ [(qo, .inl (cj, 1, .inr (.inl fo)))]) sz)) (va_Qi (fun (r : Int32) (u : GS × (Nat → Int64)) => (r = 0 ∧ ∃ x9 : Int32, (g_nd c0 fO fA fB fT ∧ (∃ ds2, g_SV c0 fO fA fB fT 0 ds2 u.1) ∧ ∃ k, k < c0 ∧ n = nI k ∧ gre c0 fO fA fB fT k ∧ x9 = nI (glen c0 fO fA fB fT k)) ∧ u.2 (Int32.toNatClampNeg 0) = x9.toInt64) ∨ (r = 1 ∧ (∃ dk2 ds2, dk2 ≠ 0 ∧ g_SV c0 fO fA fB fT dk2 ds2 u.1)) ∨ (r = 2 ∧ ((∃ ds2, g_SV c0 fO fA fB fT 0 ds2 u.1) ∧ ∀ k, k < c0 → n = nI k → ¬ gre c0 fO fA fB fT k))) (g_At (dC, dI) vwCl (gty cz ci cj) (va_A (gw ad cz ci cj ((nI c0), fO, fA, fB, fT, sv, fC, rs, dk, ds, fL, fl, fh) ++ [(qo, .inl (cj, 1, .inr (.inl fo)))]) sz) (fun (u : GS × (Nat → Int64)) => gw ad cz ci cj u.1 ++ [(qo, .inl (cj, 1, .inr (.inl u.2)))])) (va_A (gw ad cz ci cj ((nI c0), fO, fA, fB, fT, sv, fC, rs, dk, ds, fL, fl, fh) ++ [(qo, .inl (cj, 1, .inr (.inl fo)))]) sz)) 1 6 (va_A (gw ad cz ci cj ((nI c0), fO, fA, fB, fT, sv, fC, rs, dk, ds, fL, fl, fh) ++ [(qo, .inl (cj, 1, .inr (.inl fo)))]) sz) := by
  refine va_MetW (cc := cL_length) (maxL := 4) (ret := some .int) (hh := [(0, 9, 12, 38), (0, 9, 15, 19)]) (by decide) rfl ?_
  intro p e s m args below meth c s₁ Bd hml hv
  obtain ⟨rfl, ⟨hsz, hP, hK, hD0, hE⟩, hN⟩ := hv
  have hx := Bd.exec
  have hb := Bd.bytes
  have hr := Bd.returns
  have hts := atoms_spec (ws := wL_length) Bd.pre
  have htab := vx_table (x := yL_length) Bd (hts _ List.mem_cons_self)
  have hw : ∀ w ∈ wAll, w.before _ s = true := fun w h => hts w (List.mem_cons_of_mem _ h)
  have hown : s.vm.findClass "GameGraphLaw" = some m.cls := findClass_of_methodNamed Bd.named
  have hlocks := Bd.notSynchronized
  subst hsz
  have hD := hD0.self (sz := s.heap.size)
  generalize hAe : va_A (gw ad cz ci cj ((nI c0), fO, fA, fB, fT, sv, fC, rs, dk, ds, fL, fl, fh) ++ [(qo, .inl (cj, 1, .inr (.inl fo)))]) s.heap.size = Ar at hD hE ⊢
  have hA : ∀ q : Nat, s.heap.size ≤ q → Ar q := fun q h => by rw [← hAe]; exact Or.inr h
  obtain ⟨H, hH⟩ : ∃ H : Heap, H = s.heap := ⟨_, rfl⟩
  have hS : va_S Ar s.heap H [] := by rw [hH]; exact va_S.rf
  have hP : va_P (dC, dI) vwCl (gw ad cz ci cj ((nI c0), fO, fA, fB, fT, sv, fC, rs, dk, ds, fL, fl, fh) ++ [(qo, .inl (cj, 1, .inr (.inl fo)))]) H := by rw [hH]; exact hP
  rw [← hH]
  have hl := lv_entry ([.ref (ad 0), .int n, .ref qo]) (n := 4) (Nat.le_of_ble_eq_true rfl)
  rw [lg_entry_eq]
  generalize (lg_sl ([.ref (ad 0), .int n, .ref qo]) ++ List.replicate (4 - (lg_sl ([.ref (ad 0), .int n, .ref qo])).length) Slot.unset).toArray = ls at hl ⊢
  have hl : lv_has ls 4 [(0, .ref (ad 0)), (1, .int n), (2, .ref qo)] := hl
  refine lv_aload_n hx hb dL_length_0 rfl (lv_at hl 2 rfl) ?_
  refine lv_iconst (v := 0) hx hb dL_length_1 (by decide) ?_
  refine lv_aload_n hx hb dL_length_2 rfl (lv_at hl 0 rfl) ?_
  refine lv_iload_n hx hb dL_length_3 rfl (lv_at hl 1 rfl) ?_
  have hPr := x_Pr hP
  have hP := x_Pl hP
  refine g_callxiR ⟨hx, hb, hml, hown, hw⟩ (c_X0_length l hl0 dC dI ad cz ci cj H.size (nI c0) fO fA fB fT sv fC rs dk ds fL fl fh n c0 hg hsv) (cwV 1 hw gv_L_X0_length rfl rfl rfl (by decide +kernel) ⟨Nat.le_of_ble_eq_true rfl, Nat.le_of_ble_eq_true rfl⟩) hK hP hPr hD hS hA hE (ci := 0) (q0 := 0) rfl rfl rfl hl.1 rfl (Nat.le_of_ble_eq_true rfl) dL_length_4 ⟨Nat.le_of_ble_eq_true rfl, Nat.le_of_ble_eq_true rfl⟩ (fun rr un H locs hq hP hPr hD hS => ?_) (fun E ce q9 un H locs hq hP hPr hD hS hce hcv hcl => ?_)
  · refine lv_i2l hx hb dL_length_7 rfl ?_
    refine va_last hx hb hK (hP.app hPr) hD hS 9 2 rfl rfl (by unfold vp_in; decide) dL_length_8 (fun H locs hP hD hS => ?_)
    have hP : va_P (dC, dI) vwCl (gw ad cz ci cj un ++ [(qo, .inl (cj, 1, .inr (.inl (vp_updL fo (Int32.toNatClampNeg 0) rr.toInt64))))]) H := hP
    have hD : va_D Ar (gw ad cz ci cj un ++ [(qo, .inl (cj, 1, .inr (.inl (vp_updL fo (Int32.toNatClampNeg 0) rr.toInt64))))]) := hD
    refine lv_goto (tgt := 18) hx hb dL_length_9 (by decide) ?_
    refine lv_iconst (v := 0) hx hb dL_length_18 (by decide) ?_
    refine W.widen (k := 1) (n := 6) (Nat.le_of_ble_eq_true rfl) (Nat.le_of_ble_eq_true rfl) ?_
    exact W.iret (v := 0) hx hb hr (fun t ht hW => ⟨⟨0, (un, vp_updL fo (Int32.toNatClampNeg 0) rr.toInt64), rfl, (Or.inl (⟨rfl, rr, hq, (by show vp_updL fo (Int32.toNatClampNeg 0) rr.toInt64 (Int32.toNatClampNeg 0) = _; exact pk_uLs)⟩)), (by rw [ht]; exact hP), va_K.moved hW.alike hK, hD⟩, hS.F ht⟩) hS.2.2 dL_length_19
  · rcases hq with ⟨rfl, hq⟩ | ⟨rfl, hq⟩
    · have hP := hP.app hPr
      refine vx_catch (name := "java/lang/IllegalStateException") hown [] ⟨0, 9, 12, 38⟩ [⟨0, 9, 15, 19⟩] (by rw [htab]; rfl) (fun z hz => absurd hz List.not_mem_nil) (by decide) (by decide) (hw _ m_7_1) (va_Nw.use (x_bad_ot (Cond.castable "java/lang/IllegalStateException" "java/lang/IllegalStateException") (by decide +kernel)) (hE.2.2.1 (Cond.castable "java/lang/IllegalStateException" "java/lang/IllegalStateException") (by decide +kernel))) hce hcv hcl ?_
      refine lv_astore_n (lv' := [(3, .ref q9), (0, .ref (ad 0)), (1, .int n), (2, .ref qo)]) hx hb dL_length_12 rfl hl (by decide) rfl (fun ls hl => ?_)
      refine lv_iconst (v := 1) hx hb dL_length_13 (by decide) ?_
      refine W.widen (k := 1) (n := 6) (Nat.le_of_ble_eq_true rfl) (Nat.le_of_ble_eq_true rfl) ?_
      exact W.iret (v := 1) hx hb hr (fun t ht hW => ⟨⟨1, (un, fo), rfl, (Or.inr (Or.inl (⟨rfl, hq⟩))), (by rw [ht]; exact hP), va_K.moved hW.alike hK, hD⟩, hS.F ht⟩) hS.2.2 dL_length_14
    · have hP := hP.app hPr
      refine vx_catch (name := "java/lang/IndexOutOfBoundsException") hown [⟨0, 9, 12, 38⟩] ⟨0, 9, 15, 19⟩ [] (by rw [htab]; rfl) (fun z hz => by rw [List.mem_singleton.mp hz]; exact Or.inr ⟨by decide, "java/lang/IllegalStateException", hw _ m_7_1, hN.2⟩) (by decide) (by decide) (hw _ m_5_16) (va_Nw.use (x_bad_ot (Cond.castable "java/lang/IndexOutOfBoundsException" "java/lang/IndexOutOfBoundsException") (by decide +kernel)) (hE.2.2.1 (Cond.castable "java/lang/IndexOutOfBoundsException" "java/lang/IndexOutOfBoundsException") (by decide +kernel))) hce hcv hcl ?_
      refine lv_astore_n (lv' := [(3, .ref q9), (0, .ref (ad 0)), (1, .int n), (2, .ref qo)]) hx hb dL_length_15 rfl hl (by decide) rfl (fun ls hl => ?_)
      refine lv_iconst (v := 2) hx hb dL_length_16 (by decide) ?_
      refine W.widen (k := 1) (n := 6) (Nat.le_of_ble_eq_true rfl) (Nat.le_of_ble_eq_true rfl) ?_
      exact W.iret (v := 2) hx hb hr (fun t ht hW => ⟨⟨2, (un, fo), rfl, (Or.inr (Or.inr (⟨rfl, hq⟩))), (by rw [ht]; exact hP), va_K.moved hW.alike hK, hD⟩, hS.F ht⟩) hS.2.2 dL_length_17
