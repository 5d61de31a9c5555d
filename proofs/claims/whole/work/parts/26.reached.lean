/-! reached (by tool/reach.py). -/
set_option maxHeartbeats 4000000 in
set_option maxRecDepth 100000 in
theorem c_J_bitCount (l : Launch) (x : Int64) : Met l yJ_bitCount wJ_bitCount ({ frames := 0, cells := 0, slots := 0, locals := 0 }) (va_Pc [.long x] (fun _ => True)) (va_Qi (fun (r : Int32) (_ : Unit) => r = nI (b_ct (b_t x) 64)) (fun _ _ => True) g_No) 0 0 g_No := by
  refine Met.ofW (cc := cJ_bitCount) (maxL := 2) (ret := some .int) (by decide) rfl ?_
  intro p e s m args below meth c s₁ Bd hml hv
  obtain ⟨rfl, -⟩ := hv
  have hx := Bd.exec
  have hb := Bd.bytes
  have hr := Bd.returns
  have hts := atoms_spec (ws := wJ_bitCount) Bd.pre
  have hw : ∀ w ∈ wAll, w.before _ s = true := fun w h => hts w (List.mem_cons_of_mem _ h)
  have hown : s.vm.findClass "java/lang/Long" = some m.cls := findClass_of_methodNamed Bd.named
  have hlocks := Bd.notSynchronized
  have hS : va_S g_No s.heap s.heap [] := va_S.rf
  have hl := lv_entry ([.long x]) (n := 2) (Nat.le_of_ble_eq_true rfl)
  rw [lg_entry_eq]
  generalize (lg_sl ([.long x]) ++ List.replicate (2 - (lg_sl ([.long x])).length) Slot.unset).toArray = ls at hl ⊢
  have hl : lv_has ls 2 [(0, .long x)] := hl
  refine lv_lload_n hx hb dJ_bitCount_0 rfl (lv_at hl 0 rfl) ?_
  refine lv_lload_n hx hb dJ_bitCount_1 rfl (lv_at hl 0 rfl) ?_
  refine lv_iconst (v := 1) hx hb dJ_bitCount_2 (by decide) ?_
  refine lv_lushr hx hb dJ_bitCount_3 rfl ?_
  refine lv_ldc2 hx hb hown (hw _ m_3_25) dJ_bitCount_4 ?_
  refine lv_land hx hb dJ_bitCount_7 ?_
  refine lv_lsub hx hb dJ_bitCount_8 ?_
  refine lv_topl (fun v_1 ev_1 => ?_)
  refine lv_lstore_n (lv' := [(0, .long v_1)]) hx hb dJ_bitCount_9 rfl hl (by decide) rfl (fun ls hl => ?_)
  refine lv_lload_n hx hb dJ_bitCount_10 rfl (lv_at hl 0 rfl) ?_
  refine lv_ldc2 hx hb hown (hw _ m_3_26) dJ_bitCount_11 ?_
  refine lv_land hx hb dJ_bitCount_14 ?_
  refine lv_lload_n hx hb dJ_bitCount_15 rfl (lv_at hl 0 rfl) ?_
  refine lv_iconst (v := 2) hx hb dJ_bitCount_16 (by decide) ?_
  refine lv_lushr hx hb dJ_bitCount_17 rfl ?_
  refine lv_ldc2 hx hb hown (hw _ m_3_26) dJ_bitCount_18 ?_
  refine lv_land hx hb dJ_bitCount_21 ?_
  refine lv_ladd hx hb dJ_bitCount_22 ?_
  refine lv_topl (fun v_2 ev_2 => ?_)
  refine lv_lstore_n (lv' := [(0, .long v_2)]) hx hb dJ_bitCount_23 rfl hl (by decide) rfl (fun ls hl => ?_)
  refine lv_lload_n hx hb dJ_bitCount_24 rfl (lv_at hl 0 rfl) ?_
  refine lv_lload_n hx hb dJ_bitCount_25 rfl (lv_at hl 0 rfl) ?_
  refine lv_iconst (v := 4) hx hb dJ_bitCount_26 (by decide) ?_
  refine lv_lushr hx hb dJ_bitCount_27 rfl ?_
  refine lv_ladd hx hb dJ_bitCount_28 ?_
  refine lv_ldc2 hx hb hown (hw _ m_3_27) dJ_bitCount_29 ?_
  refine lv_land hx hb dJ_bitCount_32 ?_
  refine lv_topl (fun v_3 ev_3 => ?_)
  refine lv_lstore_n (lv' := [(0, .long v_3)]) hx hb dJ_bitCount_33 rfl hl (by decide) rfl (fun ls hl => ?_)
  refine lv_lload_n hx hb dJ_bitCount_34 rfl (lv_at hl 0 rfl) ?_
  refine lv_lload_n hx hb dJ_bitCount_35 rfl (lv_at hl 0 rfl) ?_
  refine lv_bipush (v := 8) hx hb dJ_bitCount_36 (by decide) ?_
  refine lv_lushr hx hb dJ_bitCount_38 rfl ?_
  refine lv_ladd hx hb dJ_bitCount_39 ?_
  refine lv_topl (fun v_4 ev_4 => ?_)
  refine lv_lstore_n (lv' := [(0, .long v_4)]) hx hb dJ_bitCount_40 rfl hl (by decide) rfl (fun ls hl => ?_)
  refine lv_lload_n hx hb dJ_bitCount_41 rfl (lv_at hl 0 rfl) ?_
  refine lv_lload_n hx hb dJ_bitCount_42 rfl (lv_at hl 0 rfl) ?_
  refine lv_bipush (v := 16) hx hb dJ_bitCount_43 (by decide) ?_
  refine lv_lushr hx hb dJ_bitCount_45 rfl ?_
  refine lv_ladd hx hb dJ_bitCount_46 ?_
  refine lv_topl (fun v_5 ev_5 => ?_)
  refine lv_lstore_n (lv' := [(0, .long v_5)]) hx hb dJ_bitCount_47 rfl hl (by decide) rfl (fun ls hl => ?_)
  refine lv_lload_n hx hb dJ_bitCount_48 rfl (lv_at hl 0 rfl) ?_
  refine lv_lload_n hx hb dJ_bitCount_49 rfl (lv_at hl 0 rfl) ?_
  refine lv_bipush (v := 32) hx hb dJ_bitCount_50 (by decide) ?_
  refine lv_lushr hx hb dJ_bitCount_52 rfl ?_
  refine lv_ladd hx hb dJ_bitCount_53 ?_
  refine lv_topl (fun v_6 ev_6 => ?_)
  refine lv_lstore_n (lv' := [(0, .long v_6)]) hx hb dJ_bitCount_54 rfl hl (by decide) rfl (fun ls hl => ?_)
  refine lv_lload_n hx hb dJ_bitCount_55 rfl (lv_at hl 0 rfl) ?_
  refine lv_l2i hx hb dJ_bitCount_56 rfl ?_
  refine lv_bipush (v := 127) hx hb dJ_bitCount_57 (by decide) ?_
  refine lv_iand hx hb dJ_bitCount_59 ?_
  exact W.iret (v := (v_6.toInt32 &&& 127)) hx hb hr (fun t ht hW => ⟨⟨(v_6.toInt32 &&& 127), (), rfl, (k_pop ev_1 ev_2 ev_3 ev_4 ev_5 ev_6), trivial⟩, hS.F ht⟩) hS.2.2 dJ_bitCount_60
theorem k_rct {rs : Int64} {c : Nat} {re : Nat → Prop} (h : ∀ m, b_t rs m = true ↔ re m) (hr : ∀ m, re m → m < c) (hc : c ≤ 60) : b_ct (b_t rs) 64 = b_ct (b_t rs) c := by
  have e : 64 = c + (64 - c) := by omega
  rw [e, b_ct_add, b_ct_0 (g := fun j => b_t rs (c + j))]
  · omega
  · intro j _
    cases q : b_t rs (c + j) with
    | false => rfl
    | true => have := hr _ ((h _).mp q); omega
set_option maxHeartbeats 4000000 in
set_option maxRecDepth 100000 in
theorem c_X0_reached (l : Launch) (dC : Nat → ClassId) (dI : Nat → Nat → Nat) (ad : Nat → Nat) (cz ci cj : ClassId) (sz : Nat) (cnt : Int32) (fO : Nat → Int32) (fA : Nat → Int32) (fB : Nat → Int32) (fT : Nat → Int32) (sv : Int32) (fC : Nat → Int64) (rs : Int64) (dk : Int32) (ds : Int32) (fL : Nat → Int32) (fl : Nat → Int32) (fh : Nat → Int32)  (c0 : Nat) (hg : g_ok c0 fO fA fB fT) (hsv : sv = 0 ∨ (sv = 1 ∧ g_sv c0 fO fA fB fT rs dk ds fL fl fh)) : Met l yX0_reached wX0_reached ({ frames := 4, cells := 0, slots := 0, locals := 89 }) (va_Pc [.ref (ad 0)] (g_Pre (dC, dI) vwCl (gty cz ci cj) (gw ad cz ci cj ((nI c0), fO, fA, fB, fT, sv, fC, rs, dk, ds, fL, fl, fh)) sz)) (va_Qi (fun (r : Int32) (u : GS) => ∃ (dk2 ds2 : Int32) (g : Nat → Bool), g_SV c0 fO fA fB fT dk2 ds2 u ∧ (∀ m, g m = true ↔ gre c0 fO fA fB fT m) ∧ r = nI (b_ct g c0)) (g_At (dC, dI) vwCl (gty cz ci cj) (va_A (gw ad cz ci cj ((nI c0), fO, fA, fB, fT, sv, fC, rs, dk, ds, fL, fl, fh)) sz) (gw ad cz ci cj)) (va_A (gw ad cz ci cj ((nI c0), fO, fA, fB, fT, sv, fC, rs, dk, ds, fL, fl, fh)) sz)) 0 0 (va_A (gw ad cz ci cj ((nI c0), fO, fA, fB, fT, sv, fC, rs, dk, ds, fL, fl, fh)) sz) := by
  refine Met.ofW (cc := cX0_reached) (maxL := 1) (ret := some .int) (by decide) rfl ?_
  intro p e s m args below meth c s₁ Bd hml hv
  obtain ⟨rfl, hsz, hP, hK, hD0⟩ := hv
  have hx := Bd.exec
  have hb := Bd.bytes
  have hr := Bd.returns
  have hts := atoms_spec (ws := wX0_reached) Bd.pre
  have hw : ∀ w ∈ wAll, w.before _ s = true := fun w h => hts w (List.mem_cons_of_mem _ h)
  have hown : s.vm.findClass "GameGraph" = some m.cls := findClass_of_methodNamed Bd.named
  have hlocks := Bd.notSynchronized
  subst hsz
  have hD := hD0.self (sz := s.heap.size)
  generalize hAe : va_A (gw ad cz ci cj ((nI c0), fO, fA, fB, fT, sv, fC, rs, dk, ds, fL, fl, fh)) s.heap.size = Ar at hD ⊢
  have hA : ∀ q : Nat, s.heap.size ≤ q → Ar q := fun q h => by rw [← hAe]; exact Or.inr h
  obtain ⟨H, hH⟩ : ∃ H : Heap, H = s.heap := ⟨_, rfl⟩
  have hS : va_S Ar s.heap H [] := by rw [hH]; exact va_S.rf
  have hP : va_P (dC, dI) vwCl (gw ad cz ci cj ((nI c0), fO, fA, fB, fT, sv, fC, rs, dk, ds, fL, fl, fh)) H := by rw [hH]; exact hP
  rw [← hH]
  have hl := lv_entry ([.ref (ad 0)]) (n := 1) (Nat.le_of_ble_eq_true rfl)
  rw [lg_entry_eq]
  generalize (lg_sl ([.ref (ad 0)]) ++ List.replicate (1 - (lg_sl ([.ref (ad 0)])).length) Slot.unset).toArray = ls at hl ⊢
  have hl : lv_has ls 1 [(0, .ref (ad 0))] := hl
  refine lv_aload_n hx hb dX0_reached_0 rfl (lv_at hl 0 rfl) ?_
  refine g_callv ⟨hx, hb, hml, hown, hw⟩ (c_X0_survey l dC dI ad cz ci cj H.size (nI c0) fO fA fB fT sv fC rs dk ds fL fl fh  c0 hg hsv) (cwV 0 hw gv_X0_X0_survey rfl rfl rfl (by decide +kernel) ⟨Nat.le_of_ble_eq_true rfl, Nat.le_of_ble_eq_true rfl⟩) hK hP hD hS hA (ci := 0) (q0 := 0) rfl rfl rfl hl.1 rfl (Nat.le_of_ble_eq_true rfl) dX0_reached_1 ⟨Nat.zero_le _, Nat.zero_le _⟩ (fun  un H locs hq hP hD hS => ?_)
  obtain ⟨fC2, rs2, dk2, ds2, fL2, fl2, fh2, hs2, rfl⟩ := hq
  have hP : va_P (dC, dI) vwCl (gw ad cz ci cj ((nI c0), fO, fA, fB, fT, 1, fC2, rs2, dk2, ds2, fL2, fl2, fh2)) H := hP
  have hD : va_D Ar (gw ad cz ci cj ((nI c0), fO, fA, fB, fT, 1, fC2, rs2, dk2, ds2, fL2, fl2, fh2)) := hD
  refine lv_aload_n hx hb dX0_reached_4 rfl (lv_at hl 0 rfl) ?_
  refine va_get (D := (dC, dI)) (ci := 0) (v := .long rs2) (C := RX0) (T := TX0) (N := 13) hx hb hw in_X0 hown hK hP 0 rfl rfl 7 (by decide) (hw _ m_1_25) (fun _ h9 => h9) rfl dX0_reached_5 ?_
  refine g_calls ⟨hx, hb, hml, hown, hw⟩ (c_J_bitCount l rs2) (va_cwS 1 hw gs_X0_J_bitCount rfl rfl rfl (by decide +kernel) ⟨Nat.le_of_ble_eq_true rfl, Nat.le_of_ble_eq_true rfl⟩) hP hS rfl hl.1 rfl (Nat.le_of_ble_eq_true rfl) dX0_reached_8 ⟨Nat.zero_le _, Nat.zero_le _⟩ (fun r_1 H locs hq hP hS => ?_)
  have hP : va_P (dC, dI) vwCl (gw ad cz ci cj ((nI c0), fO, fA, fB, fT, 1, fC2, rs2, dk2, ds2, fL2, fl2, fh2)) H := hP
  have hD : va_D Ar (gw ad cz ci cj ((nI c0), fO, fA, fB, fT, 1, fC2, rs2, dk2, ds2, fL2, fl2, fh2)) := hD
  exact W.iret (v := r_1) hx hb hr (fun t ht hW => ⟨⟨r_1, ((nI c0), fO, fA, fB, fT, 1, fC2, rs2, dk2, ds2, fL2, fl2, fh2), rfl, (⟨dk2, ds2, b_t rs2, ⟨fC2, rs2, fL2, fl2, fh2, hs2, rfl⟩, hs2.1, by rw [hq, k_rct hs2.1 (fun m hm => s_re_lt (g_sok hg) hm) hg.2.1]⟩), (by rw [ht]; exact hP), va_K.moved hW.alike hK, hD⟩, hS.F ht⟩) hS.2.2 dX0_reached_11
