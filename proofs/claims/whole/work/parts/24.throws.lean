/-! Methods that may throw (by tool/throws.py). -/
set_option maxHeartbeats 4000000 in
set_option maxRecDepth 100000 in
theorem c_X0_requireState (l : Launch) (hl0 : l.stackTraces = false) (dC : Nat → ClassId) (dI : Nat → Nat → Nat) (ad : Nat → Nat) (cz ci cj : ClassId) (sz : Nat) (cnt : Int32) (fO : Nat → Int32) (fA : Nat → Int32) (fB : Nat → Int32) (fT : Nat → Int32) (sv : Int32) (fC : Nat → Int64) (rs : Int64) (dk : Int32) (ds : Int32) (fL : Nat → Int32) (fl : Nat → Int32) (fh : Nat → Int32) (n : Int32) (k0 : Nat) (hc : cnt = nI k0) (hk0 : k0 ≤ 60) : vx_Met l yX0_requireState wX0_requireState ({ frames := 6, cells := 1, slots := 6, locals := 90 }) (va_Pc [.ref (ad 0), .int n] (x_Pre (dC, dI) vwCl (gty cz ci cj) (gw ad cz ci cj (cnt, fO, fA, fB, fT, sv, fC, rs, dk, ds, fL, fl, fh)) sz)) (va_Qv (fun (u : GS) => u = (cnt, fO, fA, fB, fT, sv, fC, rs, dk, ds, fL, fl, fh) ∧ ∃ k, k < k0 ∧ n = nI k) (g_At (dC, dI) vwCl (gty cz ci cj) (va_A (gw ad cz ci cj (cnt, fO, fA, fB, fT, sv, fC, rs, dk, ds, fL, fl, fh)) sz) (gw ad cz ci cj)) (va_A (gw ad cz ci cj (cnt, fO, fA, fB, fT, sv, fC, rs, dk, ds, fL, fl, fh)) sz)) (x_XC (dC, dI) vwCl (gty cz ci cj) (va_A (gw ad cz ci cj (cnt, fO, fA, fB, fT, sv, fC, rs, dk, ds, fL, fl, fh)) sz) (gw ad cz ci cj) (fun (E : String) (u : GS) => E = "java/lang/IndexOutOfBoundsException" ∧ u = (cnt, fO, fA, fB, fT, sv, fC, rs, dk, ds, fL, fl, fh) ∧ ∀ k, k < k0 → n ≠ nI k)) 1 6 (va_A (gw ad cz ci cj (cnt, fO, fA, fB, fT, sv, fC, rs, dk, ds, fL, fl, fh)) sz) := by
  refine vx_ofW (cc := cX0_requireState) (maxL := 2) (ret := none) (by decide) rfl ?_
  intro p e s m args below meth c s₁ Bd hml htab hv
  obtain ⟨rfl, hsz, hP, hK, hD0, hE⟩ := hv
  have hx := Bd.exec
  have hb := Bd.bytes
  have hr := Bd.returns
  have hts := atoms_spec (ws := wX0_requireState) Bd.pre
  have hw : ∀ w ∈ wAll, w.before _ s = true := fun w h => hts w (List.mem_cons_of_mem _ h)
  have hown : s.vm.findClass "GameGraph" = some m.cls := findClass_of_methodNamed Bd.named
  have hlocks := Bd.notSynchronized
  subst hsz
  have hD := hD0.self (sz := s.heap.size)
  generalize hAe : va_A (gw ad cz ci cj (cnt, fO, fA, fB, fT, sv, fC, rs, dk, ds, fL, fl, fh)) s.heap.size = Ar at hD hE ⊢
  have hA : ∀ q : Nat, s.heap.size ≤ q → Ar q := fun q h => by rw [← hAe]; exact Or.inr h
  obtain ⟨H, hH⟩ : ∃ H : Heap, H = s.heap := ⟨_, rfl⟩
  have hS : va_S Ar s.heap H [] := by rw [hH]; exact va_S.rf
  have hP : va_P (dC, dI) vwCl (gw ad cz ci cj (cnt, fO, fA, fB, fT, sv, fC, rs, dk, ds, fL, fl, fh)) H := by rw [hH]; exact hP
  rw [← hH]
  have hl := lv_entry ([.ref (ad 0), .int n]) (n := 2) (Nat.le_of_ble_eq_true rfl)
  rw [lg_entry_eq]
  generalize (lg_sl ([.ref (ad 0), .int n]) ++ List.replicate (2 - (lg_sl ([.ref (ad 0), .int n])).length) Slot.unset).toArray = ls at hl ⊢
  have hl : lv_has ls 2 [(0, .ref (ad 0)), (1, .int n)] := hl
  refine lv_aload_n hx hb dX0_requireState_0 rfl (lv_at hl 0 rfl) ?_
  refine lv_iload_n hx hb dX0_requireState_1 rfl (lv_at hl 1 rfl) ?_
  refine g_calli ⟨hx, hb, hml, hown, hw⟩ (c_X0_hasState l dC dI ad cz ci cj H.size cnt fO fA fB fT sv fC rs dk ds fL fl fh n k0 hc hk0) (cwV 1 hw gv_X0_X0_hasState rfl rfl rfl (by decide +kernel) ⟨Nat.le_of_ble_eq_true rfl, Nat.le_of_ble_eq_true rfl⟩) hK hP hD hS hA (ci := 0) (q0 := 0) rfl rfl rfl hl.1 rfl (Nat.le_of_ble_eq_true rfl) dX0_requireState_2 ⟨Nat.le_of_ble_eq_true rfl, Nat.le_of_ble_eq_true rfl⟩ (fun r_1 un H locs hq hP hD hS => ?_)
  obtain ⟨rfl, hq⟩ := hq
  have hP : va_P (dC, dI) vwCl (gw ad cz ci cj (cnt, fO, fA, fB, fT, sv, fC, rs, dk, ds, fL, fl, fh)) H := hP
  have hD : va_D Ar (gw ad cz ci cj (cnt, fO, fA, fB, fT, sv, fC, rs, dk, ds, fL, fl, fh)) := hD
  refine lv_if_ne (tgt := 18) hx hb dX0_requireState_5 (by decide) (fun c_2 => ?_) (fun c_2 => ?_)
  · have hyes : ∃ k, k < k0 ∧ n = nI k := by rcases hq with ⟨a, _⟩ | ⟨_, a⟩; exact a; exact absurd a c_2
    refine vx_ret (W.widen (k := 1) (n := 6) (Nat.le_of_ble_eq_true rfl) (Nat.le_of_ble_eq_true rfl) ?_)
    exact W.vret hx hb hr (fun t ht hW => ⟨⟨(cnt, fO, fA, fB, fT, sv, fC, rs, dk, ds, fL, fl, fh), rfl, (⟨rfl, hyes⟩), (by rw [ht]; exact hP), va_K.moved hW.alike hK, hD⟩, hS.F ht⟩) hS.2.2 dX0_requireState_18
  · have hno : ∀ k, k < k0 → n ≠ nI k := by rcases hq with ⟨_, a⟩ | ⟨a, _⟩; exact absurd c_2 (by rw [a]; decide); exact a
    obtain ⟨sq, hsq⟩ := hE.2.2.2 ("GameGraph", 117, "there is no such state") (by decide +kernel)
    exact vx_throwS (names := ["java/lang/RuntimeException", "java/lang/Exception"]) hx hb hl0 hown (by decide +kernel) (by decide +kernel) (hw _ m_5_27) (hw _ m_1_0) hsq (vx_hat (fun w h => hw w (x_atI w h)) x_abI (fun w h => va_Nw.use (x_bad_ot w h) (hE.2.2.1 w h))) (List.forall_mem_cons.mpr ⟨by decide +kernel, List.forall_mem_cons.mpr ⟨by decide +kernel, x_agI⟩⟩) hE.1 hE.2.1 hS (hl.1.trans hml.symm) dX0_requireState_8 dX0_requireState_11 dX0_requireState_12 dX0_requireState_14 dX0_requireState_17 (fun x hx9 => (htab x hx9).elim) (Nat.le_of_ble_eq_true rfl) (Nat.le_of_ble_eq_true rfl) (Nat.le_of_ble_eq_true rfl) (Nat.le_of_ble_eq_true rfl) hlocks (fun t hal hz hq9 => ⟨(cnt, fO, fA, fB, fT, sv, fC, rs, dk, ds, fL, fl, fh), trivial, ⟨(⟨rfl, rfl, hno⟩), hP.kept (fun k q hk => hq9 q.1 (va_at.lt (hP k q hk))), va_K.moved hal hK, hD⟩, Nat.le_trans hS.1 hz, fun q h1 h2 => (hq9 q (Nat.lt_of_lt_of_le h1 hS.1)).trans (hS.2.1 q h1 h2)⟩) hS.2.2 (Nat.le_of_ble_eq_true rfl) (Nat.le_of_ble_eq_true rfl)
set_option maxHeartbeats 4000000 in
set_option maxRecDepth 100000 in
theorem c_X0_isNumberOfMoves (l : Launch) (x : Int32)  : Met l yX0_isNumberOfMoves wX0_isNumberOfMoves ({ frames := 0, cells := 0, slots := 0, locals := 0 }) (va_Pc [.int x] (fun _ => True)) (va_Qi (fun (r : Int32) (_ : Unit) => r = if 0 ≤ x.toInt ∧ x.toInt ≤ 12 then 1 else 0) (fun _ _ => True) g_No) 0 0 g_No := by
  refine Met.ofW (cc := cX0_isNumberOfMoves) (maxL := 1) (ret := some .boolean) (by decide) rfl ?_
  intro p e s m args below meth c s₁ Bd hml hv
  obtain ⟨rfl, -⟩ := hv
  have hx := Bd.exec
  have hb := Bd.bytes
  have hr := Bd.returns
  have hts := atoms_spec (ws := wX0_isNumberOfMoves) Bd.pre
  have hw : ∀ w ∈ wAll, w.before _ s = true := fun w h => hts w (List.mem_cons_of_mem _ h)
  have hown : s.vm.findClass "GameGraph" = some m.cls := findClass_of_methodNamed Bd.named
  have hlocks := Bd.notSynchronized
  have hS : va_S g_No s.heap s.heap [] := va_S.rf
  have hl := lv_entry ([.int x]) (n := 1) (Nat.le_of_ble_eq_true rfl)
  rw [lg_entry_eq]
  generalize (lg_sl ([.int x]) ++ List.replicate (1 - (lg_sl ([.int x])).length) Slot.unset).toArray = ls at hl ⊢
  have hl : lv_has ls 1 [(0, .int x)] := hl
  have e2 : (12 : Int32).toInt = 12 := by decide
  refine lv_iload_n hx hb dX0_isNumberOfMoves_0 rfl (lv_at hl 0 rfl) ?_
  refine lv_if_lt (tgt := 14) hx hb dX0_isNumberOfMoves_1 (by decide) (fun c_1 => ?_) (fun c_1 => ?_)
  · rw [Int32.lt_iff_toInt_lt, Int32.toInt_zero] at c_1
    refine lv_iconst (v := 0) hx hb dX0_isNumberOfMoves_14 (by decide) ?_
    exact W.zret (v := 0) hx hb hr (by decide) (fun t ht hW => ⟨⟨0, (), rfl, (by rw [if_neg]; omega), trivial⟩, hS.F ht⟩) hS.2.2 dX0_isNumberOfMoves_15
  · rw [Int32.lt_iff_toInt_lt, Int32.toInt_zero] at c_1
    refine lv_iload_n hx hb dX0_isNumberOfMoves_4 rfl (lv_at hl 0 rfl) ?_
    refine lv_bipush (v := 12) hx hb dX0_isNumberOfMoves_5 (by decide) ?_
    refine lv_icmp_gt (tgt := 14) hx hb dX0_isNumberOfMoves_7 (by decide) (fun cb_2 => ?_) (fun cb_2 => ?_)
    · rw [Int32.lt_iff_toInt_lt, e2] at cb_2
      refine lv_iconst (v := 0) hx hb dX0_isNumberOfMoves_14 (by decide) ?_
      exact W.zret (v := 0) hx hb hr (by decide) (fun t ht hW => ⟨⟨0, (), rfl, (by rw [if_neg]; omega), trivial⟩, hS.F ht⟩) hS.2.2 dX0_isNumberOfMoves_15
    · rw [Int32.lt_iff_toInt_lt, e2] at cb_2
      refine lv_iconst (v := 1) hx hb dX0_isNumberOfMoves_10 (by decide) ?_
      refine lv_goto (tgt := 15) hx hb dX0_isNumberOfMoves_11 (by decide) ?_
      exact W.zret (v := 1) hx hb hr (by decide) (fun t ht hW => ⟨⟨1, (), rfl, (by rw [if_pos]; omega), trivial⟩, hS.F ht⟩) hS.2.2 dX0_isNumberOfMoves_15
theorem k_inj {a b : Nat} (ha : a < 2 ^ 31) (hb : b < 2 ^ 31) (h : nI a = nI b) : a = b := (nI_eq ha hb).mp h
theorem k_i0 {P : Prop} {r : Int32} {inst : Decidable P} (h : r = @ite _ P inst 1 0) (h0 : r = 0) : ¬ P := by
  intro hp
  rw [if_pos hp] at h
  rw [h] at h0
  exact absurd h0 (by decide)
theorem k_i1 {P : Prop} {r : Int32} {inst : Decidable P} (h : r = @ite _ P inst 1 0) (h0 : ¬ r = 0) : P := by
  by_cases hp : P
  · exact hp
  · rw [if_neg hp] at h; exact absurd h h0
theorem k_160 {n : Int32} (h1 : ¬ n < 1) (h2 : n ≤ 60) : ∃ k, 1 ≤ k ∧ k ≤ 60 ∧ n = nI k := by
  have e1 : (1 : Int32).toInt = 1 := by decide
  have e2 : (60 : Int32).toInt = 60 := by decide
  rw [Int32.lt_iff_toInt_lt, e1] at h1
  rw [Int32.le_iff_toInt_le, e2] at h2
  obtain ⟨j, hj, e⟩ := nI_of (x := n) (by rw [Int32.lt_iff_toInt_lt, Int32.toInt_zero]; omega)
  have := nI_toInt hj
  rw [← e] at this
  exact ⟨j, by omega, by omega, e⟩
theorem k_160' {n : Int32} (h : n < 1 ∨ ¬ n ≤ 60) : ∀ k, 1 ≤ k → k ≤ 60 → n ≠ nI k := by
  intro k hk1 hk2 e
  have e1 : (1 : Int32).toInt = 1 := by decide
  have e2 : (60 : Int32).toInt = 60 := by decide
  have := nI_toInt (n := k) (by omega)
  rw [← e] at this
  rcases h with h | h
  · rw [Int32.lt_iff_toInt_lt, e1] at h; omega
  · rw [Int32.le_iff_toInt_le, e2] at h; omega
set_option maxHeartbeats 4000000 in
set_option maxRecDepth 100000 in
theorem c_X0_requireJointMove (l : Launch) (hl0 : l.stackTraces = false) (dC : Nat → ClassId) (dI : Nat → Nat → Nat) (ad : Nat → Nat) (cz ci cj : ClassId) (sz : Nat) (cnt : Int32) (fO : Nat → Int32) (fA : Nat → Int32) (fB : Nat → Int32) (fT : Nat → Int32) (sv : Int32) (fC : Nat → Int64) (rs : Int64) (dk : Int32) (ds : Int32) (fL : Nat → Int32) (fl : Nat → Int32) (fh : Nat → Int32) (n : Int32) (j : Int32) (c0 : Nat) (hg : g_ok c0 fO fA fB fT) : vx_Met l yX0_requireJointMove wX0_requireJointMove ({ frames := 7, cells := 2, slots := 12, locals := 111 }) (va_Pc [.ref (ad 0), .int n, .int j] (x_Pre (dC, dI) vwCl (gty cz ci cj) (gw ad cz ci cj ((nI c0), fO, fA, fB, fT, sv, fC, rs, dk, ds, fL, fl, fh)) sz)) (va_Qv (fun (u : GS) => u = ((nI c0), fO, fA, fB, fT, sv, fC, rs, dk, ds, fL, fl, fh) ∧ ∃ a i, a < c0 ∧ i < gmv fO fA fB a ∧ n = nI a ∧ j = nI i) (g_At (dC, dI) vwCl (gty cz ci cj) (va_A (gw ad cz ci cj ((nI c0), fO, fA, fB, fT, sv, fC, rs, dk, ds, fL, fl, fh)) sz) (gw ad cz ci cj)) (va_A (gw ad cz ci cj ((nI c0), fO, fA, fB, fT, sv, fC, rs, dk, ds, fL, fl, fh)) sz)) (x_XC (dC, dI) vwCl (gty cz ci cj) (va_A (gw ad cz ci cj ((nI c0), fO, fA, fB, fT, sv, fC, rs, dk, ds, fL, fl, fh)) sz) (gw ad cz ci cj) (fun (E : String) (u : GS) => E = "java/lang/IndexOutOfBoundsException" ∧ u = ((nI c0), fO, fA, fB, fT, sv, fC, rs, dk, ds, fL, fl, fh) ∧ ∀ a i, a < c0 → i < gmv fO fA fB a → ¬ (n = nI a ∧ j = nI i))) 2 12 (va_A (gw ad cz ci cj ((nI c0), fO, fA, fB, fT, sv, fC, rs, dk, ds, fL, fl, fh)) sz) := by
  refine vx_ofW (cc := cX0_requireJointMove) (maxL := 3) (ret := none) (by decide) rfl ?_
  intro p e s m args below meth c s₁ Bd hml htab hv
  obtain ⟨rfl, hsz, hP, hK, hD0, hE⟩ := hv
  have hx := Bd.exec
  have hb := Bd.bytes
  have hr := Bd.returns
  have hts := atoms_spec (ws := wX0_requireJointMove) Bd.pre
  have hw : ∀ w ∈ wAll, w.before _ s = true := fun w h => hts w (List.mem_cons_of_mem _ h)
  have hown : s.vm.findClass "GameGraph" = some m.cls := findClass_of_methodNamed Bd.named
  have hlocks := Bd.notSynchronized
  subst hsz
  have hD := hD0.self (sz := s.heap.size)
  generalize hAe : va_A (gw ad cz ci cj ((nI c0), fO, fA, fB, fT, sv, fC, rs, dk, ds, fL, fl, fh)) s.heap.size = Ar at hD hE ⊢
  have hA : ∀ q : Nat, s.heap.size ≤ q → Ar q := fun q h => by rw [← hAe]; exact Or.inr h
  obtain ⟨H, hH⟩ : ∃ H : Heap, H = s.heap := ⟨_, rfl⟩
  have hS : va_S Ar s.heap H [] := by rw [hH]; exact va_S.rf
  have hP : va_P (dC, dI) vwCl (gw ad cz ci cj ((nI c0), fO, fA, fB, fT, sv, fC, rs, dk, ds, fL, fl, fh)) H := by rw [hH]; exact hP
  rw [← hH]
  have hl := lv_entry ([.ref (ad 0), .int n, .int j]) (n := 3) (Nat.le_of_ble_eq_true rfl)
  rw [lg_entry_eq]
  generalize (lg_sl ([.ref (ad 0), .int n, .int j]) ++ List.replicate (3 - (lg_sl ([.ref (ad 0), .int n, .int j])).length) Slot.unset).toArray = ls at hl ⊢
  have hl : lv_has ls 3 [(0, .ref (ad 0)), (1, .int n), (2, .int j)] := hl
  have h60 := hg.2.1
  refine lv_aload_n hx hb dX0_requireJointMove_0 rfl (lv_at hl 0 rfl) ?_
  refine lv_iload_n hx hb dX0_requireJointMove_1 rfl (lv_at hl 1 rfl) ?_
  refine g_callxv ⟨hx, hb, hml, hown, hw⟩ (c_X0_requireState l hl0 dC dI ad cz ci cj H.size (nI c0) fO fA fB fT sv fC rs dk ds fL fl fh n c0 rfl hg.2.1) (cwV 1 hw gv_X0_X0_requireState rfl rfl rfl (by decide +kernel) ⟨Nat.le_of_ble_eq_true rfl, Nat.le_of_ble_eq_true rfl⟩) hK hP hD hS hA hE (ci := 0) (q0 := 0) rfl rfl rfl hl.1 rfl (Nat.le_of_ble_eq_true rfl) dX0_requireJointMove_2 ⟨Nat.le_of_ble_eq_true rfl, Nat.le_of_ble_eq_true rfl⟩ (fun  un H locs hq hP hD hS => ?_) (fun E ce q9 un H locs hq hP hD hS hce hcv hcl => ?_)
  · obtain ⟨rfl, k, hk, rfl⟩ := hq
    have hP : va_P (dC, dI) vwCl (gw ad cz ci cj ((nI c0), fO, fA, fB, fT, sv, fC, rs, dk, ds, fL, fl, fh)) H := hP
    have hD : va_D Ar (gw ad cz ci cj ((nI c0), fO, fA, fB, fT, sv, fC, rs, dk, ds, fL, fl, fh)) := hD
    have h12 := (g_mvI hg hk).2
    refine lv_iload_n hx hb dX0_requireJointMove_5 rfl (lv_at hl 2 rfl) ?_
    refine lv_if_lt (tgt := 18) hx hb dX0_requireJointMove_6 (by decide) (fun ca_1 => ?_) (fun ca_1 => ?_)
    · obtain ⟨sq, hsq⟩ := hE.2.2.2 ("GameGraph", 123, "the state has no such joint move") (by decide +kernel)
      exact vx_throwS (names := ["java/lang/RuntimeException", "java/lang/Exception"]) hx hb hl0 hown (by decide +kernel) (by decide +kernel) (hw _ m_5_27) (hw _ m_1_0) hsq (vx_hat (fun w h => hw w (x_atI w h)) x_abI (fun w h => va_Nw.use (x_bad_ot w h) (hE.2.2.1 w h))) (List.forall_mem_cons.mpr ⟨by decide +kernel, List.forall_mem_cons.mpr ⟨by decide +kernel, x_agI⟩⟩) hE.1 hE.2.1 hS (hl.1.trans hml.symm) dX0_requireJointMove_18 dX0_requireJointMove_21 dX0_requireJointMove_22 dX0_requireJointMove_24 dX0_requireJointMove_27 (fun x hx9 => (htab x hx9).elim) (Nat.le_of_ble_eq_true rfl) (Nat.le_of_ble_eq_true rfl) (Nat.le_of_ble_eq_true rfl) (Nat.le_of_ble_eq_true rfl) hlocks (fun t hal hz hq9 => ⟨((nI c0), fO, fA, fB, fT, sv, fC, rs, dk, ds, fL, fl, fh), trivial, ⟨(⟨rfl, rfl, fun a i ha hi h => absurd ca_1 (by rw [h.2]; exact nI_pos (by have := (g_mvI hg ha).2; omega))⟩), hP.kept (fun k q hk => hq9 q.1 (va_at.lt (hP k q hk))), va_K.moved hal hK, hD⟩, Nat.le_trans hS.1 hz, fun q h1 h2 => (hq9 q (Nat.lt_of_lt_of_le h1 hS.1)).trans (hS.2.1 q h1 h2)⟩) hS.2.2 (Nat.le_of_ble_eq_true rfl) (Nat.le_of_ble_eq_true rfl)
    · refine lv_iload_n hx hb dX0_requireJointMove_9 rfl (lv_at hl 2 rfl) ?_
      refine lv_aload_n hx hb dX0_requireJointMove_10 rfl (lv_at hl 0 rfl) ?_
      refine lv_iload_n hx hb dX0_requireJointMove_11 rfl (lv_at hl 1 rfl) ?_
      refine g_calli ⟨hx, hb, hml, hown, hw⟩ (c_X0_jointMoves l dC dI ad cz ci cj H.size (nI c0) fO fA fB fT sv fC rs dk ds fL fl fh k (by omega)) (cwV 1 hw gv_X0_X0_jointMoves rfl rfl rfl (by decide +kernel) ⟨Nat.le_of_ble_eq_true rfl, Nat.le_of_ble_eq_true rfl⟩) hK hP hD hS hA (ci := 0) (q0 := 0) rfl rfl rfl hl.1 rfl (Nat.le_of_ble_eq_true rfl) dX0_requireJointMove_12 ⟨Nat.le_of_ble_eq_true rfl, Nat.le_of_ble_eq_true rfl⟩ (fun rab_2 un H locs hq hP hD hS => ?_)
      obtain ⟨rfl, hq⟩ := hq
      have hP : va_P (dC, dI) vwCl (gw ad cz ci cj ((nI c0), fO, fA, fB, fT, sv, fC, rs, dk, ds, fL, fl, fh)) H := hP
      have hD : va_D Ar (gw ad cz ci cj ((nI c0), fO, fA, fB, fT, sv, fC, rs, dk, ds, fL, fl, fh)) := hD
      refine x_topi (y := nI (gmv fO fA fB k)) (by rw [hq]; exact (g_mvI hg hk).1) ?_
      refine lv_icmp_lt (tgt := 28) hx hb dX0_requireJointMove_15 (by decide) (fun cab_3 => ?_) (fun cab_3 => ?_)
      · obtain ⟨i, hi, rfl⟩ := nI_of ca_1
        refine vx_ret (W.widen (k := 2) (n := 12) (Nat.le_of_ble_eq_true rfl) (Nat.le_of_ble_eq_true rfl) ?_)
        exact W.vret hx hb hr (fun t ht hW => ⟨⟨((nI c0), fO, fA, fB, fT, sv, fC, rs, dk, ds, fL, fl, fh), rfl, (⟨rfl, k, i, hk, (nI_ltI hi (by omega)).mp cab_3, rfl, rfl⟩), (by rw [ht]; exact hP), va_K.moved hW.alike hK, hD⟩, hS.F ht⟩) hS.2.2 dX0_requireJointMove_28
      · obtain ⟨sq, hsq⟩ := hE.2.2.2 ("GameGraph", 123, "the state has no such joint move") (by decide +kernel)
        exact vx_throwS (names := ["java/lang/RuntimeException", "java/lang/Exception"]) hx hb hl0 hown (by decide +kernel) (by decide +kernel) (hw _ m_5_27) (hw _ m_1_0) hsq (vx_hat (fun w h => hw w (x_atI w h)) x_abI (fun w h => va_Nw.use (x_bad_ot w h) (hE.2.2.1 w h))) (List.forall_mem_cons.mpr ⟨by decide +kernel, List.forall_mem_cons.mpr ⟨by decide +kernel, x_agI⟩⟩) hE.1 hE.2.1 hS (hl.1.trans hml.symm) dX0_requireJointMove_18 dX0_requireJointMove_21 dX0_requireJointMove_22 dX0_requireJointMove_24 dX0_requireJointMove_27 (fun x hx9 => (htab x hx9).elim) (Nat.le_of_ble_eq_true rfl) (Nat.le_of_ble_eq_true rfl) (Nat.le_of_ble_eq_true rfl) (Nat.le_of_ble_eq_true rfl) hlocks (fun t hal hz hq9 => ⟨((nI c0), fO, fA, fB, fT, sv, fC, rs, dk, ds, fL, fl, fh), trivial, ⟨(⟨rfl, rfl, fun a i ha hi h => by have e := k_inj (by omega) (by omega) h.1; subst e; exact cab_3 (by rw [h.2]; exact nI_lt hi (by omega))⟩), hP.kept (fun k q hk => hq9 q.1 (va_at.lt (hP k q hk))), va_K.moved hal hK, hD⟩, Nat.le_trans hS.1 hz, fun q h1 h2 => (hq9 q (Nat.lt_of_lt_of_le h1 hS.1)).trans (hS.2.1 q h1 h2)⟩) hS.2.2 (Nat.le_of_ble_eq_true rfl) (Nat.le_of_ble_eq_true rfl)
  · obtain ⟨rfl, rfl, hno⟩ := hq
    exact vx_out (fun x hx9 => (htab x hx9).elim) hlocks hce hcv hcl (fun t ht hal => ⟨((nI c0), fO, fA, fB, fT, sv, fC, rs, dk, ds, fL, fl, fh), trivial, ⟨(⟨rfl, rfl, fun a i ha _ h => hno a ha h.1⟩), (by rw [ht]; exact hP), va_K.moved hal hK, hD⟩, hS.F ht⟩) hS.2.2 (Nat.le_of_ble_eq_true rfl) (Nat.le_of_ble_eq_true rfl)
set_option maxHeartbeats 4000000 in
set_option maxRecDepth 100000 in
theorem c_X0_states (l : Launch) (hl0 : l.stackTraces = false) (dC : Nat → ClassId) (dI : Nat → Nat → Nat) (ad : Nat → Nat) (cz ci cj : ClassId) (sz : Nat) (cnt : Int32) (fO : Nat → Int32) (fA : Nat → Int32) (fB : Nat → Int32) (fT : Nat → Int32) (sv : Int32) (fC : Nat → Int64) (rs : Int64) (dk : Int32) (ds : Int32) (fL : Nat → Int32) (fl : Nat → Int32) (fh : Nat → Int32) (n : Int32)  : vx_Met l yX0_states wX0_states ({ frames := 6, cells := 1, slots := 6, locals := 90 }) (va_Pc [.ref (ad 0), .int n] (x_Pre (dC, dI) vwCl (gty cz ci cj) (gw ad cz ci cj (cnt, fO, fA, fB, fT, sv, fC, rs, dk, ds, fL, fl, fh)) sz)) (va_Qv (fun (u : GS) => ∃ num, 1 ≤ num ∧ num ≤ 60 ∧ n = nI num ∧ ∃ fO2 fA2 fB2 fT2 : Nat → Int32, (∀ k, k < num → fO2 k = 0 ∧ fA2 k = 50 ∧ fB2 k = 50 ∧ ∀ j, j < 12 → fT2 (k * 12 + j) = 0) ∧ u = (nI num, fO2, fA2, fB2, fT2, 0, fC, rs, dk, ds, fL, fl, fh)) (g_At (dC, dI) vwCl (gty cz ci cj) (va_A (gw ad cz ci cj (cnt, fO, fA, fB, fT, sv, fC, rs, dk, ds, fL, fl, fh)) sz) (gw ad cz ci cj)) (va_A (gw ad cz ci cj (cnt, fO, fA, fB, fT, sv, fC, rs, dk, ds, fL, fl, fh)) sz)) (x_XC (dC, dI) vwCl (gty cz ci cj) (va_A (gw ad cz ci cj (cnt, fO, fA, fB, fT, sv, fC, rs, dk, ds, fL, fl, fh)) sz) (gw ad cz ci cj) (fun (E : String) (u : GS) => E = "java/lang/IllegalArgumentException" ∧ u = (cnt, fO, fA, fB, fT, sv, fC, rs, dk, ds, fL, fl, fh) ∧ ∀ k, 1 ≤ k → k ≤ 60 → n ≠ nI k)) 1 6 (va_A (gw ad cz ci cj (cnt, fO, fA, fB, fT, sv, fC, rs, dk, ds, fL, fl, fh)) sz) := by
  refine vx_ofW (cc := cX0_states) (maxL := 2) (ret := none) (by decide) rfl ?_
  intro p e s m args below meth c s₁ Bd hml htab hv
  obtain ⟨rfl, hsz, hP, hK, hD0, hE⟩ := hv
  have hx := Bd.exec
  have hb := Bd.bytes
  have hr := Bd.returns
  have hts := atoms_spec (ws := wX0_states) Bd.pre
  have hw : ∀ w ∈ wAll, w.before _ s = true := fun w h => hts w (List.mem_cons_of_mem _ h)
  have hown : s.vm.findClass "GameGraph" = some m.cls := findClass_of_methodNamed Bd.named
  have hlocks := Bd.notSynchronized
  subst hsz
  have hD := hD0.self (sz := s.heap.size)
  generalize hAe : va_A (gw ad cz ci cj (cnt, fO, fA, fB, fT, sv, fC, rs, dk, ds, fL, fl, fh)) s.heap.size = Ar at hD hE ⊢
  have hA : ∀ q : Nat, s.heap.size ≤ q → Ar q := fun q h => by rw [← hAe]; exact Or.inr h
  obtain ⟨H, hH⟩ : ∃ H : Heap, H = s.heap := ⟨_, rfl⟩
  have hS : va_S Ar s.heap H [] := by rw [hH]; exact va_S.rf
  have hP : va_P (dC, dI) vwCl (gw ad cz ci cj (cnt, fO, fA, fB, fT, sv, fC, rs, dk, ds, fL, fl, fh)) H := by rw [hH]; exact hP
  rw [← hH]
  have hl := lv_entry ([.ref (ad 0), .int n]) (n := 2) (Nat.le_of_ble_eq_true rfl)
  rw [lg_entry_eq]
  generalize (lg_sl ([.ref (ad 0), .int n]) ++ List.replicate (2 - (lg_sl ([.ref (ad 0), .int n])).length) Slot.unset).toArray = ls at hl ⊢
  have hl : lv_has ls 2 [(0, .ref (ad 0)), (1, .int n)] := hl
  refine lv_iload_n hx hb dX0_states_0 rfl (lv_at hl 1 rfl) ?_
  refine lv_iconst (v := 1) hx hb dX0_states_1 (by decide) ?_
  refine lv_icmp_lt (tgt := 11) hx hb dX0_states_2 (by decide) (fun c_1 => ?_) (fun c_1 => ?_)
  · obtain ⟨sq, hsq⟩ := hE.2.2.2 ("GameGraph", 42, "the number of states is not 1 .. 60") (by decide +kernel)
    exact vx_throwS (names := ["java/lang/RuntimeException", "java/lang/Exception"]) hx hb hl0 hown (by decide +kernel) (by decide +kernel) (hw _ m_3_36) (hw _ m_0_39) hsq (vx_hat (fun w h => hw w (x_atA w h)) x_abA (fun w h => va_Nw.use (x_bad_ot w h) (hE.2.2.1 w h))) (List.forall_mem_cons.mpr ⟨by decide +kernel, List.forall_mem_cons.mpr ⟨by decide +kernel, x_agA⟩⟩) hE.1 hE.2.1 hS (hl.1.trans hml.symm) dX0_states_11 dX0_states_14 dX0_states_15 dX0_states_17 dX0_states_20 (fun x hx9 => (htab x hx9).elim) (Nat.le_of_ble_eq_true rfl) (Nat.le_of_ble_eq_true rfl) (Nat.le_of_ble_eq_true rfl) (Nat.le_of_ble_eq_true rfl) hlocks (fun t hal hz hq9 => ⟨(cnt, fO, fA, fB, fT, sv, fC, rs, dk, ds, fL, fl, fh), trivial, ⟨(⟨rfl, rfl, k_160' (Or.inl c_1)⟩), hP.kept (fun k q hk => hq9 q.1 (va_at.lt (hP k q hk))), va_K.moved hal hK, hD⟩, Nat.le_trans hS.1 hz, fun q h1 h2 => (hq9 q (Nat.lt_of_lt_of_le h1 hS.1)).trans (hS.2.1 q h1 h2)⟩) hS.2.2 (Nat.le_of_ble_eq_true rfl) (Nat.le_of_ble_eq_true rfl)
  · refine lv_iload_n hx hb dX0_states_5 rfl (lv_at hl 1 rfl) ?_
    refine lv_bipush (v := 60) hx hb dX0_states_6 (by decide) ?_
    refine lv_icmp_le (tgt := 21) hx hb dX0_states_8 (by decide) (fun cb_2 => ?_) (fun cb_2 => ?_)
    · obtain ⟨num, hn1, hn2, rfl⟩ := k_160 c_1 cb_2
      refine lv_aload_n hx hb dX0_states_21 rfl (lv_at hl 0 rfl) ?_
      refine lv_iload_n hx hb dX0_states_22 rfl (lv_at hl 1 rfl) ?_
      refine g_callv ⟨hx, hb, hml, hown, hw⟩ (c_X0_makeEvenEnds l dC dI ad cz ci cj H.size cnt fO fA fB fT sv fC rs dk ds fL fl fh num hn1 hn2) (cwV 1 hw gv_X0_X0_makeEvenEnds rfl rfl rfl (by decide +kernel) ⟨Nat.le_of_ble_eq_true rfl, Nat.le_of_ble_eq_true rfl⟩) hK hP hD hS hA (ci := 0) (q0 := 0) rfl rfl rfl hl.1 rfl (Nat.le_of_ble_eq_true rfl) dX0_states_23 ⟨Nat.le_of_ble_eq_true rfl, Nat.le_of_ble_eq_true rfl⟩ (fun  un H locs hq hP hD hS => ?_)
      obtain ⟨fO2, fA2, fB2, fT2, hI, rfl⟩ := hq
      have hP : va_P (dC, dI) vwCl (gw ad cz ci cj ((nI num), fO2, fA2, fB2, fT2, 0, fC, rs, dk, ds, fL, fl, fh)) H := hP
      have hD : va_D Ar (gw ad cz ci cj ((nI num), fO2, fA2, fB2, fT2, 0, fC, rs, dk, ds, fL, fl, fh)) := hD
      refine vx_ret (W.widen (k := 1) (n := 6) (Nat.le_of_ble_eq_true rfl) (Nat.le_of_ble_eq_true rfl) ?_)
      exact W.vret hx hb hr (fun t ht hW => ⟨⟨((nI num), fO2, fA2, fB2, fT2, 0, fC, rs, dk, ds, fL, fl, fh), rfl, (⟨num, hn1, hn2, rfl, fO2, fA2, fB2, fT2, hI, rfl⟩), (by rw [ht]; exact hP), va_K.moved hW.alike hK, hD⟩, hS.F ht⟩) hS.2.2 dX0_states_26
    · obtain ⟨sq, hsq⟩ := hE.2.2.2 ("GameGraph", 42, "the number of states is not 1 .. 60") (by decide +kernel)
      exact vx_throwS (names := ["java/lang/RuntimeException", "java/lang/Exception"]) hx hb hl0 hown (by decide +kernel) (by decide +kernel) (hw _ m_3_36) (hw _ m_0_39) hsq (vx_hat (fun w h => hw w (x_atA w h)) x_abA (fun w h => va_Nw.use (x_bad_ot w h) (hE.2.2.1 w h))) (List.forall_mem_cons.mpr ⟨by decide +kernel, List.forall_mem_cons.mpr ⟨by decide +kernel, x_agA⟩⟩) hE.1 hE.2.1 hS (hl.1.trans hml.symm) dX0_states_11 dX0_states_14 dX0_states_15 dX0_states_17 dX0_states_20 (fun x hx9 => (htab x hx9).elim) (Nat.le_of_ble_eq_true rfl) (Nat.le_of_ble_eq_true rfl) (Nat.le_of_ble_eq_true rfl) (Nat.le_of_ble_eq_true rfl) hlocks (fun t hal hz hq9 => ⟨(cnt, fO, fA, fB, fT, sv, fC, rs, dk, ds, fL, fl, fh), trivial, ⟨(⟨rfl, rfl, k_160' (Or.inr cb_2)⟩), hP.kept (fun k q hk => hq9 q.1 (va_at.lt (hP k q hk))), va_K.moved hal hK, hD⟩, Nat.le_trans hS.1 hz, fun q h1 h2 => (hq9 q (Nat.lt_of_lt_of_le h1 hS.1)).trans (hS.2.1 q h1 h2)⟩) hS.2.2 (Nat.le_of_ble_eq_true rfl) (Nat.le_of_ble_eq_true rfl)
set_option maxHeartbeats 4000000 in
set_option maxRecDepth 100000 in
theorem c_X0_end (l : Launch) (hl0 : l.stackTraces = false) (dC : Nat → ClassId) (dI : Nat → Nat → Nat) (ad : Nat → Nat) (cz ci cj : ClassId) (sz : Nat) (cnt : Int32) (fO : Nat → Int32) (fA : Nat → Int32) (fB : Nat → Int32) (fT : Nat → Int32) (sv : Int32) (fC : Nat → Int64) (rs : Int64) (dk : Int32) (ds : Int32) (fL : Nat → Int32) (fl : Nat → Int32) (fh : Nat → Int32) (n : Int32) (x : Int32) (y : Int32) (c0 : Nat) (hg : g_ok c0 fO fA fB fT) : vx_Met l yX0_end wX0_end ({ frames := 7, cells := 2, slots := 12, locals := 111 }) (va_Pc [.ref (ad 0), .int n, .int x, .int y] (x_Pre (dC, dI) vwCl (gty cz ci cj) (gw ad cz ci cj ((nI c0), fO, fA, fB, fT, sv, fC, rs, dk, ds, fL, fl, fh)) sz)) (va_Qv (fun (u : GS) => ∃ k, k < c0 ∧ n = nI k ∧ ((-2 ≤ x.toInt ∧ x.toInt ≤ 100) ∧ (-2 ≤ y.toInt ∧ y.toInt ≤ 100)) ∧ ∃ fT2 : Nat → Int32, (∀ i, fT2 i = if k * 12 ≤ i ∧ i < k * 12 + 12 then 0 else fT i) ∧ u = ((nI c0), upd fO k 0, upd fA k x, upd fB k y, fT2, 0, fC, rs, dk, ds, fL, fl, fh)) (g_At (dC, dI) vwCl (gty cz ci cj) (va_A (gw ad cz ci cj ((nI c0), fO, fA, fB, fT, sv, fC, rs, dk, ds, fL, fl, fh)) sz) (gw ad cz ci cj)) (va_A (gw ad cz ci cj ((nI c0), fO, fA, fB, fT, sv, fC, rs, dk, ds, fL, fl, fh)) sz)) (x_XC (dC, dI) vwCl (gty cz ci cj) (va_A (gw ad cz ci cj ((nI c0), fO, fA, fB, fT, sv, fC, rs, dk, ds, fL, fl, fh)) sz) (gw ad cz ci cj) (fun (E : String) (u : GS) => (E = "java/lang/IndexOutOfBoundsException" ∧ u = ((nI c0), fO, fA, fB, fT, sv, fC, rs, dk, ds, fL, fl, fh) ∧ ∀ k, k < c0 → n ≠ nI k) ∨ (E = "java/lang/IllegalArgumentException" ∧ u = ((nI c0), fO, fA, fB, fT, sv, fC, rs, dk, ds, fL, fl, fh) ∧ (∃ k, k < c0 ∧ n = nI k) ∧ ¬ ((-2 ≤ x.toInt ∧ x.toInt ≤ 100) ∧ (-2 ≤ y.toInt ∧ y.toInt ≤ 100))))) 2 12 (va_A (gw ad cz ci cj ((nI c0), fO, fA, fB, fT, sv, fC, rs, dk, ds, fL, fl, fh)) sz) := by
  refine vx_ofW (cc := cX0_end) (maxL := 4) (ret := none) (by decide) rfl ?_
  intro p e s m args below meth c s₁ Bd hml htab hv
  obtain ⟨rfl, hsz, hP, hK, hD0, hE⟩ := hv
  have hx := Bd.exec
  have hb := Bd.bytes
  have hr := Bd.returns
  have hts := atoms_spec (ws := wX0_end) Bd.pre
  have hw : ∀ w ∈ wAll, w.before _ s = true := fun w h => hts w (List.mem_cons_of_mem _ h)
  have hown : s.vm.findClass "GameGraph" = some m.cls := findClass_of_methodNamed Bd.named
  have hlocks := Bd.notSynchronized
  subst hsz
  have hD := hD0.self (sz := s.heap.size)
  generalize hAe : va_A (gw ad cz ci cj ((nI c0), fO, fA, fB, fT, sv, fC, rs, dk, ds, fL, fl, fh)) s.heap.size = Ar at hD hE ⊢
  have hA : ∀ q : Nat, s.heap.size ≤ q → Ar q := fun q h => by rw [← hAe]; exact Or.inr h
  obtain ⟨H, hH⟩ : ∃ H : Heap, H = s.heap := ⟨_, rfl⟩
  have hS : va_S Ar s.heap H [] := by rw [hH]; exact va_S.rf
  have hP : va_P (dC, dI) vwCl (gw ad cz ci cj ((nI c0), fO, fA, fB, fT, sv, fC, rs, dk, ds, fL, fl, fh)) H := by rw [hH]; exact hP
  rw [← hH]
  have hl := lv_entry ([.ref (ad 0), .int n, .int x, .int y]) (n := 4) (Nat.le_of_ble_eq_true rfl)
  rw [lg_entry_eq]
  generalize (lg_sl ([.ref (ad 0), .int n, .int x, .int y]) ++ List.replicate (4 - (lg_sl ([.ref (ad 0), .int n, .int x, .int y])).length) Slot.unset).toArray = ls at hl ⊢
  have hl : lv_has ls 4 [(0, .ref (ad 0)), (1, .int n), (2, .int x), (3, .int y)] := hl
  have h60 := hg.2.1
  refine lv_aload_n hx hb dX0_end_0 rfl (lv_at hl 0 rfl) ?_
  refine lv_iload_n hx hb dX0_end_1 rfl (lv_at hl 1 rfl) ?_
  refine g_callxv ⟨hx, hb, hml, hown, hw⟩ (c_X0_requireState l hl0 dC dI ad cz ci cj H.size (nI c0) fO fA fB fT sv fC rs dk ds fL fl fh n c0 rfl hg.2.1) (cwV 1 hw gv_X0_X0_requireState rfl rfl rfl (by decide +kernel) ⟨Nat.le_of_ble_eq_true rfl, Nat.le_of_ble_eq_true rfl⟩) hK hP hD hS hA hE (ci := 0) (q0 := 0) rfl rfl rfl hl.1 rfl (Nat.le_of_ble_eq_true rfl) dX0_end_2 ⟨Nat.le_of_ble_eq_true rfl, Nat.le_of_ble_eq_true rfl⟩ (fun  un H locs hq hP hD hS => ?_) (fun E ce q9 un H locs hq hP hD hS hce hcv hcl => ?_)
  · obtain ⟨rfl, k, hk, rfl⟩ := hq
    have hP : va_P (dC, dI) vwCl (gw ad cz ci cj ((nI c0), fO, fA, fB, fT, sv, fC, rs, dk, ds, fL, fl, fh)) H := hP
    have hD : va_D Ar (gw ad cz ci cj ((nI c0), fO, fA, fB, fT, sv, fC, rs, dk, ds, fL, fl, fh)) := hD
    refine lv_iload_n hx hb dX0_end_5 rfl (lv_at hl 2 rfl) ?_
    refine g_calls ⟨hx, hb, hml, hown, hw⟩ (c_X0_isGoal l x) (va_cwS 1 hw gs_X0_X0_isGoal rfl rfl rfl (by decide +kernel) ⟨Nat.le_of_ble_eq_true rfl, Nat.le_of_ble_eq_true rfl⟩) hP hS rfl hl.1 rfl (Nat.le_of_ble_eq_true rfl) dX0_end_6 ⟨Nat.le_of_ble_eq_true rfl, Nat.le_of_ble_eq_true rfl⟩ (fun ra_1 H locs hq hP hS => ?_)
    have hP : va_P (dC, dI) vwCl (gw ad cz ci cj ((nI c0), fO, fA, fB, fT, sv, fC, rs, dk, ds, fL, fl, fh)) H := hP
    have hD : va_D Ar (gw ad cz ci cj ((nI c0), fO, fA, fB, fT, sv, fC, rs, dk, ds, fL, fl, fh)) := hD
    refine lv_if_eq (tgt := 19) hx hb dX0_end_9 (by decide) (fun ca_2 => ?_) (fun ca_2 => ?_)
    · have h1 := k_i0 hq ca_2
      obtain ⟨sq, hsq⟩ := hE.2.2.2 ("GameGraph", 54, "a goal is not -2 .. 100") (by decide +kernel)
      exact vx_throwS (names := ["java/lang/RuntimeException", "java/lang/Exception"]) hx hb hl0 hown (by decide +kernel) (by decide +kernel) (hw _ m_3_36) (hw _ m_0_39) hsq (vx_hat (fun w h => hw w (x_atA w h)) x_abA (fun w h => va_Nw.use (x_bad_ot w h) (hE.2.2.1 w h))) (List.forall_mem_cons.mpr ⟨by decide +kernel, List.forall_mem_cons.mpr ⟨by decide +kernel, x_agA⟩⟩) hE.1 hE.2.1 hS (hl.1.trans hml.symm) dX0_end_19 dX0_end_22 dX0_end_23 dX0_end_25 dX0_end_28 (fun x hx9 => (htab x hx9).elim) (Nat.le_of_ble_eq_true rfl) (Nat.le_of_ble_eq_true rfl) (Nat.le_of_ble_eq_true rfl) (Nat.le_of_ble_eq_true rfl) hlocks (fun t hal hz hq9 => ⟨((nI c0), fO, fA, fB, fT, sv, fC, rs, dk, ds, fL, fl, fh), trivial, ⟨(Or.inr ⟨rfl, rfl, ⟨k, hk, rfl⟩, fun h => h1 h.1⟩), hP.kept (fun k q hk => hq9 q.1 (va_at.lt (hP k q hk))), va_K.moved hal hK, hD⟩, Nat.le_trans hS.1 hz, fun q h1 h2 => (hq9 q (Nat.lt_of_lt_of_le h1 hS.1)).trans (hS.2.1 q h1 h2)⟩) hS.2.2 (Nat.le_of_ble_eq_true rfl) (Nat.le_of_ble_eq_true rfl)
    · have h1 := k_i1 hq ca_2
      refine lv_iload_n hx hb dX0_end_12 rfl (lv_at hl 3 rfl) ?_
      refine g_calls ⟨hx, hb, hml, hown, hw⟩ (c_X0_isGoal l y) (va_cwS 1 hw gs_X0_X0_isGoal rfl rfl rfl (by decide +kernel) ⟨Nat.le_of_ble_eq_true rfl, Nat.le_of_ble_eq_true rfl⟩) hP hS rfl hl.1 rfl (Nat.le_of_ble_eq_true rfl) dX0_end_13 ⟨Nat.le_of_ble_eq_true rfl, Nat.le_of_ble_eq_true rfl⟩ (fun rab_3 H locs hq hP hS => ?_)
      have hP : va_P (dC, dI) vwCl (gw ad cz ci cj ((nI c0), fO, fA, fB, fT, sv, fC, rs, dk, ds, fL, fl, fh)) H := hP
      have hD : va_D Ar (gw ad cz ci cj ((nI c0), fO, fA, fB, fT, sv, fC, rs, dk, ds, fL, fl, fh)) := hD
      refine lv_if_ne (tgt := 29) hx hb dX0_end_16 (by decide) (fun cab_4 => ?_) (fun cab_4 => ?_)
      · have h2 := k_i1 hq cab_4
        refine lv_aload_n hx hb dX0_end_29 rfl (lv_at hl 0 rfl) ?_
        refine lv_iload_n hx hb dX0_end_30 rfl (lv_at hl 1 rfl) ?_
        refine lv_iconst (v := 0) hx hb dX0_end_31 (by decide) ?_
        refine lv_iload_n hx hb dX0_end_32 rfl (lv_at hl 2 rfl) ?_
        refine lv_iload_n hx hb dX0_end_33 rfl (lv_at hl 3 rfl) ?_
        refine g_callv ⟨hx, hb, hml, hown, hw⟩ (c_X0_makeState l dC dI ad cz ci cj H.size (nI c0) fO fA fB fT sv fC rs dk ds fL fl fh k 0 x y (by omega) (by decide)) (cwV 4 hw gv_X0_X0_makeState rfl rfl rfl (by decide +kernel) ⟨Nat.le_of_ble_eq_true rfl, Nat.le_of_ble_eq_true rfl⟩) hK hP hD hS hA (ci := 0) (q0 := 0) rfl rfl rfl hl.1 rfl (Nat.le_of_ble_eq_true rfl) dX0_end_34 ⟨Nat.le_of_ble_eq_true rfl, Nat.le_of_ble_eq_true rfl⟩ (fun  un H locs hq hP hD hS => ?_)
        obtain ⟨fT2, hT, rfl⟩ := hq
        have hP : va_P (dC, dI) vwCl (gw ad cz ci cj ((nI c0), (upd fO k 0), (upd fA k x), (upd fB k y), fT2, 0, fC, rs, dk, ds, fL, fl, fh)) H := hP
        have hD : va_D Ar (gw ad cz ci cj ((nI c0), (upd fO k 0), (upd fA k x), (upd fB k y), fT2, 0, fC, rs, dk, ds, fL, fl, fh)) := hD
        refine vx_ret (W.widen (k := 2) (n := 12) (Nat.le_of_ble_eq_true rfl) (Nat.le_of_ble_eq_true rfl) ?_)
        exact W.vret hx hb hr (fun t ht hW => ⟨⟨((nI c0), (upd fO k 0), (upd fA k x), (upd fB k y), fT2, 0, fC, rs, dk, ds, fL, fl, fh), rfl, (⟨k, hk, rfl, ⟨h1, h2⟩, fT2, hT, rfl⟩), (by rw [ht]; exact hP), va_K.moved hW.alike hK, hD⟩, hS.F ht⟩) hS.2.2 dX0_end_37
      · have h2 := k_i0 hq cab_4
        obtain ⟨sq, hsq⟩ := hE.2.2.2 ("GameGraph", 54, "a goal is not -2 .. 100") (by decide +kernel)
        exact vx_throwS (names := ["java/lang/RuntimeException", "java/lang/Exception"]) hx hb hl0 hown (by decide +kernel) (by decide +kernel) (hw _ m_3_36) (hw _ m_0_39) hsq (vx_hat (fun w h => hw w (x_atA w h)) x_abA (fun w h => va_Nw.use (x_bad_ot w h) (hE.2.2.1 w h))) (List.forall_mem_cons.mpr ⟨by decide +kernel, List.forall_mem_cons.mpr ⟨by decide +kernel, x_agA⟩⟩) hE.1 hE.2.1 hS (hl.1.trans hml.symm) dX0_end_19 dX0_end_22 dX0_end_23 dX0_end_25 dX0_end_28 (fun x hx9 => (htab x hx9).elim) (Nat.le_of_ble_eq_true rfl) (Nat.le_of_ble_eq_true rfl) (Nat.le_of_ble_eq_true rfl) (Nat.le_of_ble_eq_true rfl) hlocks (fun t hal hz hq9 => ⟨((nI c0), fO, fA, fB, fT, sv, fC, rs, dk, ds, fL, fl, fh), trivial, ⟨(Or.inr ⟨rfl, rfl, ⟨k, hk, rfl⟩, fun h => h2 h.2⟩), hP.kept (fun k q hk => hq9 q.1 (va_at.lt (hP k q hk))), va_K.moved hal hK, hD⟩, Nat.le_trans hS.1 hz, fun q h1 h2 => (hq9 q (Nat.lt_of_lt_of_le h1 hS.1)).trans (hS.2.1 q h1 h2)⟩) hS.2.2 (Nat.le_of_ble_eq_true rfl) (Nat.le_of_ble_eq_true rfl)
  · obtain ⟨rfl, rfl, hno⟩ := hq
    exact vx_out (fun x hx9 => (htab x hx9).elim) hlocks hce hcv hcl (fun t ht hal => ⟨((nI c0), fO, fA, fB, fT, sv, fC, rs, dk, ds, fL, fl, fh), trivial, ⟨(Or.inl ⟨rfl, rfl, hno⟩), (by rw [ht]; exact hP), va_K.moved hal hK, hD⟩, hS.F ht⟩) hS.2.2 (Nat.le_of_ble_eq_true rfl) (Nat.le_of_ble_eq_true rfl)
set_option maxHeartbeats 4000000 in
set_option maxRecDepth 100000 in
theorem c_X0_open (l : Launch) (hl0 : l.stackTraces = false) (dC : Nat → ClassId) (dI : Nat → Nat → Nat) (ad : Nat → Nat) (cz ci cj : ClassId) (sz : Nat) (cnt : Int32) (fO : Nat → Int32) (fA : Nat → Int32) (fB : Nat → Int32) (fT : Nat → Int32) (sv : Int32) (fC : Nat → Int64) (rs : Int64) (dk : Int32) (ds : Int32) (fL : Nat → Int32) (fl : Nat → Int32) (fh : Nat → Int32) (n : Int32) (x : Int32) (y : Int32) (c0 : Nat) (hg : g_ok c0 fO fA fB fT) : vx_Met l yX0_open wX0_open ({ frames := 7, cells := 2, slots := 12, locals := 111 }) (va_Pc [.ref (ad 0), .int n, .int x, .int y] (x_Pre (dC, dI) vwCl (gty cz ci cj) (gw ad cz ci cj ((nI c0), fO, fA, fB, fT, sv, fC, rs, dk, ds, fL, fl, fh)) sz)) (va_Qv (fun (u : GS) => ∃ k, k < c0 ∧ n = nI k ∧ ((0 ≤ x.toInt ∧ x.toInt ≤ 12) ∧ (0 ≤ y.toInt ∧ y.toInt ≤ 12) ∧ x * y ≤ 12) ∧ ∃ fT2 : Nat → Int32, (∀ i, fT2 i = if k * 12 ≤ i ∧ i < k * 12 + 12 then 0 else fT i) ∧ u = ((nI c0), upd fO k 1, upd fA k x, upd fB k y, fT2, 0, fC, rs, dk, ds, fL, fl, fh)) (g_At (dC, dI) vwCl (gty cz ci cj) (va_A (gw ad cz ci cj ((nI c0), fO, fA, fB, fT, sv, fC, rs, dk, ds, fL, fl, fh)) sz) (gw ad cz ci cj)) (va_A (gw ad cz ci cj ((nI c0), fO, fA, fB, fT, sv, fC, rs, dk, ds, fL, fl, fh)) sz)) (x_XC (dC, dI) vwCl (gty cz ci cj) (va_A (gw ad cz ci cj ((nI c0), fO, fA, fB, fT, sv, fC, rs, dk, ds, fL, fl, fh)) sz) (gw ad cz ci cj) (fun (E : String) (u : GS) => (E = "java/lang/IndexOutOfBoundsException" ∧ u = ((nI c0), fO, fA, fB, fT, sv, fC, rs, dk, ds, fL, fl, fh) ∧ ∀ k, k < c0 → n ≠ nI k) ∨ (E = "java/lang/IllegalArgumentException" ∧ u = ((nI c0), fO, fA, fB, fT, sv, fC, rs, dk, ds, fL, fl, fh) ∧ (∃ k, k < c0 ∧ n = nI k) ∧ ¬ ((0 ≤ x.toInt ∧ x.toInt ≤ 12) ∧ (0 ≤ y.toInt ∧ y.toInt ≤ 12) ∧ x * y ≤ 12)))) 2 12 (va_A (gw ad cz ci cj ((nI c0), fO, fA, fB, fT, sv, fC, rs, dk, ds, fL, fl, fh)) sz) := by
  refine vx_ofW (cc := cX0_open) (maxL := 4) (ret := none) (by decide) rfl ?_
  intro p e s m args below meth c s₁ Bd hml htab hv
  obtain ⟨rfl, hsz, hP, hK, hD0, hE⟩ := hv
  have hx := Bd.exec
  have hb := Bd.bytes
  have hr := Bd.returns
  have hts := atoms_spec (ws := wX0_open) Bd.pre
  have hw : ∀ w ∈ wAll, w.before _ s = true := fun w h => hts w (List.mem_cons_of_mem _ h)
  have hown : s.vm.findClass "GameGraph" = some m.cls := findClass_of_methodNamed Bd.named
  have hlocks := Bd.notSynchronized
  subst hsz
  have hD := hD0.self (sz := s.heap.size)
  generalize hAe : va_A (gw ad cz ci cj ((nI c0), fO, fA, fB, fT, sv, fC, rs, dk, ds, fL, fl, fh)) s.heap.size = Ar at hD hE ⊢
  have hA : ∀ q : Nat, s.heap.size ≤ q → Ar q := fun q h => by rw [← hAe]; exact Or.inr h
  obtain ⟨H, hH⟩ : ∃ H : Heap, H = s.heap := ⟨_, rfl⟩
  have hS : va_S Ar s.heap H [] := by rw [hH]; exact va_S.rf
  have hP : va_P (dC, dI) vwCl (gw ad cz ci cj ((nI c0), fO, fA, fB, fT, sv, fC, rs, dk, ds, fL, fl, fh)) H := by rw [hH]; exact hP
  rw [← hH]
  have hl := lv_entry ([.ref (ad 0), .int n, .int x, .int y]) (n := 4) (Nat.le_of_ble_eq_true rfl)
  rw [lg_entry_eq]
  generalize (lg_sl ([.ref (ad 0), .int n, .int x, .int y]) ++ List.replicate (4 - (lg_sl ([.ref (ad 0), .int n, .int x, .int y])).length) Slot.unset).toArray = ls at hl ⊢
  have hl : lv_has ls 4 [(0, .ref (ad 0)), (1, .int n), (2, .int x), (3, .int y)] := hl
  have h60 := hg.2.1
  refine lv_aload_n hx hb dX0_open_0 rfl (lv_at hl 0 rfl) ?_
  refine lv_iload_n hx hb dX0_open_1 rfl (lv_at hl 1 rfl) ?_
  refine g_callxv ⟨hx, hb, hml, hown, hw⟩ (c_X0_requireState l hl0 dC dI ad cz ci cj H.size (nI c0) fO fA fB fT sv fC rs dk ds fL fl fh n c0 rfl hg.2.1) (cwV 1 hw gv_X0_X0_requireState rfl rfl rfl (by decide +kernel) ⟨Nat.le_of_ble_eq_true rfl, Nat.le_of_ble_eq_true rfl⟩) hK hP hD hS hA hE (ci := 0) (q0 := 0) rfl rfl rfl hl.1 rfl (Nat.le_of_ble_eq_true rfl) dX0_open_2 ⟨Nat.le_of_ble_eq_true rfl, Nat.le_of_ble_eq_true rfl⟩ (fun  un H locs hq hP hD hS => ?_) (fun E ce q9 un H locs hq hP hD hS hce hcv hcl => ?_)
  · obtain ⟨rfl, k, hk, rfl⟩ := hq
    have hP : va_P (dC, dI) vwCl (gw ad cz ci cj ((nI c0), fO, fA, fB, fT, sv, fC, rs, dk, ds, fL, fl, fh)) H := hP
    have hD : va_D Ar (gw ad cz ci cj ((nI c0), fO, fA, fB, fT, sv, fC, rs, dk, ds, fL, fl, fh)) := hD
    refine lv_iload_n hx hb dX0_open_5 rfl (lv_at hl 2 rfl) ?_
    refine g_calls ⟨hx, hb, hml, hown, hw⟩ (c_X0_isNumberOfMoves l x) (va_cwS 1 hw gs_X0_X0_isNumberOfMoves rfl rfl rfl (by decide +kernel) ⟨Nat.le_of_ble_eq_true rfl, Nat.le_of_ble_eq_true rfl⟩) hP hS rfl hl.1 rfl (Nat.le_of_ble_eq_true rfl) dX0_open_6 ⟨Nat.le_of_ble_eq_true rfl, Nat.le_of_ble_eq_true rfl⟩ (fun ra_1 H locs hq hP hS => ?_)
    have hP : va_P (dC, dI) vwCl (gw ad cz ci cj ((nI c0), fO, fA, fB, fT, sv, fC, rs, dk, ds, fL, fl, fh)) H := hP
    have hD : va_D Ar (gw ad cz ci cj ((nI c0), fO, fA, fB, fT, sv, fC, rs, dk, ds, fL, fl, fh)) := hD
    refine lv_if_eq (tgt := 27) hx hb dX0_open_9 (by decide) (fun ca_2 => ?_) (fun ca_2 => ?_)
    · have h1 := k_i0 hq ca_2
      obtain ⟨sq, hsq⟩ := hE.2.2.2 ("GameGraph", 63, "a number of moves is not 0 .. 12, or the product is above 12") (by decide +kernel)
      exact vx_throwS (names := ["java/lang/RuntimeException", "java/lang/Exception"]) hx hb hl0 hown (by decide +kernel) (by decide +kernel) (hw _ m_3_36) (hw _ m_0_39) hsq (vx_hat (fun w h => hw w (x_atA w h)) x_abA (fun w h => va_Nw.use (x_bad_ot w h) (hE.2.2.1 w h))) (List.forall_mem_cons.mpr ⟨by decide +kernel, List.forall_mem_cons.mpr ⟨by decide +kernel, x_agA⟩⟩) hE.1 hE.2.1 hS (hl.1.trans hml.symm) dX0_open_27 dX0_open_30 dX0_open_31 dX0_open_33 dX0_open_36 (fun x hx9 => (htab x hx9).elim) (Nat.le_of_ble_eq_true rfl) (Nat.le_of_ble_eq_true rfl) (Nat.le_of_ble_eq_true rfl) (Nat.le_of_ble_eq_true rfl) hlocks (fun t hal hz hq9 => ⟨((nI c0), fO, fA, fB, fT, sv, fC, rs, dk, ds, fL, fl, fh), trivial, ⟨(Or.inr ⟨rfl, rfl, ⟨k, hk, rfl⟩, fun h => h1 h.1⟩), hP.kept (fun k q hk => hq9 q.1 (va_at.lt (hP k q hk))), va_K.moved hal hK, hD⟩, Nat.le_trans hS.1 hz, fun q h1 h2 => (hq9 q (Nat.lt_of_lt_of_le h1 hS.1)).trans (hS.2.1 q h1 h2)⟩) hS.2.2 (Nat.le_of_ble_eq_true rfl) (Nat.le_of_ble_eq_true rfl)
    · have h1 := k_i1 hq ca_2
      refine lv_iload_n hx hb dX0_open_12 rfl (lv_at hl 3 rfl) ?_
      refine g_calls ⟨hx, hb, hml, hown, hw⟩ (c_X0_isNumberOfMoves l y) (va_cwS 1 hw gs_X0_X0_isNumberOfMoves rfl rfl rfl (by decide +kernel) ⟨Nat.le_of_ble_eq_true rfl, Nat.le_of_ble_eq_true rfl⟩) hP hS rfl hl.1 rfl (Nat.le_of_ble_eq_true rfl) dX0_open_13 ⟨Nat.le_of_ble_eq_true rfl, Nat.le_of_ble_eq_true rfl⟩ (fun rab_3 H locs hq hP hS => ?_)
      have hP : va_P (dC, dI) vwCl (gw ad cz ci cj ((nI c0), fO, fA, fB, fT, sv, fC, rs, dk, ds, fL, fl, fh)) H := hP
      have hD : va_D Ar (gw ad cz ci cj ((nI c0), fO, fA, fB, fT, sv, fC, rs, dk, ds, fL, fl, fh)) := hD
      refine lv_if_eq (tgt := 27) hx hb dX0_open_16 (by decide) (fun cab_4 => ?_) (fun cab_4 => ?_)
      · have h2 := k_i0 hq cab_4
        obtain ⟨sq, hsq⟩ := hE.2.2.2 ("GameGraph", 63, "a number of moves is not 0 .. 12, or the product is above 12") (by decide +kernel)
        exact vx_throwS (names := ["java/lang/RuntimeException", "java/lang/Exception"]) hx hb hl0 hown (by decide +kernel) (by decide +kernel) (hw _ m_3_36) (hw _ m_0_39) hsq (vx_hat (fun w h => hw w (x_atA w h)) x_abA (fun w h => va_Nw.use (x_bad_ot w h) (hE.2.2.1 w h))) (List.forall_mem_cons.mpr ⟨by decide +kernel, List.forall_mem_cons.mpr ⟨by decide +kernel, x_agA⟩⟩) hE.1 hE.2.1 hS (hl.1.trans hml.symm) dX0_open_27 dX0_open_30 dX0_open_31 dX0_open_33 dX0_open_36 (fun x hx9 => (htab x hx9).elim) (Nat.le_of_ble_eq_true rfl) (Nat.le_of_ble_eq_true rfl) (Nat.le_of_ble_eq_true rfl) (Nat.le_of_ble_eq_true rfl) hlocks (fun t hal hz hq9 => ⟨((nI c0), fO, fA, fB, fT, sv, fC, rs, dk, ds, fL, fl, fh), trivial, ⟨(Or.inr ⟨rfl, rfl, ⟨k, hk, rfl⟩, fun h => h2 h.2.1⟩), hP.kept (fun k q hk => hq9 q.1 (va_at.lt (hP k q hk))), va_K.moved hal hK, hD⟩, Nat.le_trans hS.1 hz, fun q h1 h2 => (hq9 q (Nat.lt_of_lt_of_le h1 hS.1)).trans (hS.2.1 q h1 h2)⟩) hS.2.2 (Nat.le_of_ble_eq_true rfl) (Nat.le_of_ble_eq_true rfl)
      · have h2 := k_i1 hq cab_4
        refine lv_iload_n hx hb dX0_open_19 rfl (lv_at hl 2 rfl) ?_
        refine lv_iload_n hx hb dX0_open_20 rfl (lv_at hl 3 rfl) ?_
        refine lv_imul hx hb dX0_open_21 ?_
        refine lv_bipush (v := 12) hx hb dX0_open_22 (by decide) ?_
        refine lv_icmp_le (tgt := 37) hx hb dX0_open_24 (by decide) (fun cabb_5 => ?_) (fun cabb_5 => ?_)
        · refine lv_aload_n hx hb dX0_open_37 rfl (lv_at hl 0 rfl) ?_
          refine lv_iload_n hx hb dX0_open_38 rfl (lv_at hl 1 rfl) ?_
          refine lv_iconst (v := 1) hx hb dX0_open_39 (by decide) ?_
          refine lv_iload_n hx hb dX0_open_40 rfl (lv_at hl 2 rfl) ?_
          refine lv_iload_n hx hb dX0_open_41 rfl (lv_at hl 3 rfl) ?_
          refine g_callv ⟨hx, hb, hml, hown, hw⟩ (c_X0_makeState l dC dI ad cz ci cj H.size (nI c0) fO fA fB fT sv fC rs dk ds fL fl fh k 1 x y (by omega) (by decide)) (cwV 4 hw gv_X0_X0_makeState rfl rfl rfl (by decide +kernel) ⟨Nat.le_of_ble_eq_true rfl, Nat.le_of_ble_eq_true rfl⟩) hK hP hD hS hA (ci := 0) (q0 := 0) rfl rfl rfl hl.1 rfl (Nat.le_of_ble_eq_true rfl) dX0_open_42 ⟨Nat.le_of_ble_eq_true rfl, Nat.le_of_ble_eq_true rfl⟩ (fun  un H locs hq hP hD hS => ?_)
          obtain ⟨fT2, hT, rfl⟩ := hq
          have hP : va_P (dC, dI) vwCl (gw ad cz ci cj ((nI c0), (upd fO k 1), (upd fA k x), (upd fB k y), fT2, 0, fC, rs, dk, ds, fL, fl, fh)) H := hP
          have hD : va_D Ar (gw ad cz ci cj ((nI c0), (upd fO k 1), (upd fA k x), (upd fB k y), fT2, 0, fC, rs, dk, ds, fL, fl, fh)) := hD
          refine vx_ret (W.widen (k := 2) (n := 12) (Nat.le_of_ble_eq_true rfl) (Nat.le_of_ble_eq_true rfl) ?_)
          exact W.vret hx hb hr (fun t ht hW => ⟨⟨((nI c0), (upd fO k 1), (upd fA k x), (upd fB k y), fT2, 0, fC, rs, dk, ds, fL, fl, fh), rfl, (⟨k, hk, rfl, ⟨h1, h2, cabb_5⟩, fT2, hT, rfl⟩), (by rw [ht]; exact hP), va_K.moved hW.alike hK, hD⟩, hS.F ht⟩) hS.2.2 dX0_open_45
        · obtain ⟨sq, hsq⟩ := hE.2.2.2 ("GameGraph", 63, "a number of moves is not 0 .. 12, or the product is above 12") (by decide +kernel)
          exact vx_throwS (names := ["java/lang/RuntimeException", "java/lang/Exception"]) hx hb hl0 hown (by decide +kernel) (by decide +kernel) (hw _ m_3_36) (hw _ m_0_39) hsq (vx_hat (fun w h => hw w (x_atA w h)) x_abA (fun w h => va_Nw.use (x_bad_ot w h) (hE.2.2.1 w h))) (List.forall_mem_cons.mpr ⟨by decide +kernel, List.forall_mem_cons.mpr ⟨by decide +kernel, x_agA⟩⟩) hE.1 hE.2.1 hS (hl.1.trans hml.symm) dX0_open_27 dX0_open_30 dX0_open_31 dX0_open_33 dX0_open_36 (fun x hx9 => (htab x hx9).elim) (Nat.le_of_ble_eq_true rfl) (Nat.le_of_ble_eq_true rfl) (Nat.le_of_ble_eq_true rfl) (Nat.le_of_ble_eq_true rfl) hlocks (fun t hal hz hq9 => ⟨((nI c0), fO, fA, fB, fT, sv, fC, rs, dk, ds, fL, fl, fh), trivial, ⟨(Or.inr ⟨rfl, rfl, ⟨k, hk, rfl⟩, fun h => cabb_5 h.2.2⟩), hP.kept (fun k q hk => hq9 q.1 (va_at.lt (hP k q hk))), va_K.moved hal hK, hD⟩, Nat.le_trans hS.1 hz, fun q h1 h2 => (hq9 q (Nat.lt_of_lt_of_le h1 hS.1)).trans (hS.2.1 q h1 h2)⟩) hS.2.2 (Nat.le_of_ble_eq_true rfl) (Nat.le_of_ble_eq_true rfl)
  · obtain ⟨rfl, rfl, hno⟩ := hq
    exact vx_out (fun x hx9 => (htab x hx9).elim) hlocks hce hcv hcl (fun t ht hal => ⟨((nI c0), fO, fA, fB, fT, sv, fC, rs, dk, ds, fL, fl, fh), trivial, ⟨(Or.inl ⟨rfl, rfl, hno⟩), (by rw [ht]; exact hP), va_K.moved hal hK, hD⟩, hS.F ht⟩) hS.2.2 (Nat.le_of_ble_eq_true rfl) (Nat.le_of_ble_eq_true rfl)
set_option maxHeartbeats 4000000 in
set_option maxRecDepth 100000 in
theorem c_X0_link (l : Launch) (hl0 : l.stackTraces = false) (dC : Nat → ClassId) (dI : Nat → Nat → Nat) (ad : Nat → Nat) (cz ci cj : ClassId) (sz : Nat) (cnt : Int32) (fO : Nat → Int32) (fA : Nat → Int32) (fB : Nat → Int32) (fT : Nat → Int32) (sv : Int32) (fC : Nat → Int64) (rs : Int64) (dk : Int32) (ds : Int32) (fL : Nat → Int32) (fl : Nat → Int32) (fh : Nat → Int32) (n : Int32) (j : Int32) (x : Int32) (c0 : Nat) (hg : g_ok c0 fO fA fB fT) : vx_Met l yX0_link wX0_link ({ frames := 8, cells := 3, slots := 18, locals := 133 }) (va_Pc [.ref (ad 0), .int n, .int j, .int x] (x_Pre (dC, dI) vwCl (gty cz ci cj) (gw ad cz ci cj ((nI c0), fO, fA, fB, fT, sv, fC, rs, dk, ds, fL, fl, fh)) sz)) (va_Qv (fun (u : GS) => ∃ a i t, a < c0 ∧ i < gmv fO fA fB a ∧ t < c0 ∧ n = nI a ∧ j = nI i ∧ x = nI t ∧ u = ((nI c0), fO, fA, fB, upd fT (a * 12 + i) (nI t), 0, fC, rs, dk, ds, fL, fl, fh)) (g_At (dC, dI) vwCl (gty cz ci cj) (va_A (gw ad cz ci cj ((nI c0), fO, fA, fB, fT, sv, fC, rs, dk, ds, fL, fl, fh)) sz) (gw ad cz ci cj)) (va_A (gw ad cz ci cj ((nI c0), fO, fA, fB, fT, sv, fC, rs, dk, ds, fL, fl, fh)) sz)) (x_XC (dC, dI) vwCl (gty cz ci cj) (va_A (gw ad cz ci cj ((nI c0), fO, fA, fB, fT, sv, fC, rs, dk, ds, fL, fl, fh)) sz) (gw ad cz ci cj) (fun (E : String) (u : GS) => E = "java/lang/IndexOutOfBoundsException" ∧ u = ((nI c0), fO, fA, fB, fT, sv, fC, rs, dk, ds, fL, fl, fh) ∧ ∀ a i t, a < c0 → i < gmv fO fA fB a → t < c0 → ¬ (n = nI a ∧ j = nI i ∧ x = nI t))) 3 18 (va_A (gw ad cz ci cj ((nI c0), fO, fA, fB, fT, sv, fC, rs, dk, ds, fL, fl, fh)) sz) := by
  refine vx_ofW (cc := cX0_link) (maxL := 4) (ret := none) (by decide) rfl ?_
  intro p e s m args below meth c s₁ Bd hml htab hv
  obtain ⟨rfl, hsz, hP, hK, hD0, hE⟩ := hv
  have hx := Bd.exec
  have hb := Bd.bytes
  have hr := Bd.returns
  have hts := atoms_spec (ws := wX0_link) Bd.pre
  have hw : ∀ w ∈ wAll, w.before _ s = true := fun w h => hts w (List.mem_cons_of_mem _ h)
  have hown : s.vm.findClass "GameGraph" = some m.cls := findClass_of_methodNamed Bd.named
  have hlocks := Bd.notSynchronized
  subst hsz
  have hD := hD0.self (sz := s.heap.size)
  generalize hAe : va_A (gw ad cz ci cj ((nI c0), fO, fA, fB, fT, sv, fC, rs, dk, ds, fL, fl, fh)) s.heap.size = Ar at hD hE ⊢
  have hA : ∀ q : Nat, s.heap.size ≤ q → Ar q := fun q h => by rw [← hAe]; exact Or.inr h
  obtain ⟨H, hH⟩ : ∃ H : Heap, H = s.heap := ⟨_, rfl⟩
  have hS : va_S Ar s.heap H [] := by rw [hH]; exact va_S.rf
  have hP : va_P (dC, dI) vwCl (gw ad cz ci cj ((nI c0), fO, fA, fB, fT, sv, fC, rs, dk, ds, fL, fl, fh)) H := by rw [hH]; exact hP
  rw [← hH]
  have hl := lv_entry ([.ref (ad 0), .int n, .int j, .int x]) (n := 4) (Nat.le_of_ble_eq_true rfl)
  rw [lg_entry_eq]
  generalize (lg_sl ([.ref (ad 0), .int n, .int j, .int x]) ++ List.replicate (4 - (lg_sl ([.ref (ad 0), .int n, .int j, .int x])).length) Slot.unset).toArray = ls at hl ⊢
  have hl : lv_has ls 4 [(0, .ref (ad 0)), (1, .int n), (2, .int j), (3, .int x)] := hl
  have h60 := hg.2.1
  refine lv_aload_n hx hb dX0_link_0 rfl (lv_at hl 0 rfl) ?_
  refine lv_iload_n hx hb dX0_link_1 rfl (lv_at hl 1 rfl) ?_
  refine lv_iload_n hx hb dX0_link_2 rfl (lv_at hl 2 rfl) ?_
  refine g_callxv ⟨hx, hb, hml, hown, hw⟩ (c_X0_requireJointMove l hl0 dC dI ad cz ci cj H.size (nI c0) fO fA fB fT sv fC rs dk ds fL fl fh n j c0 hg) (cwV 2 hw gv_X0_X0_requireJointMove rfl rfl rfl (by decide +kernel) ⟨Nat.le_of_ble_eq_true rfl, Nat.le_of_ble_eq_true rfl⟩) hK hP hD hS hA hE (ci := 0) (q0 := 0) rfl rfl rfl hl.1 rfl (Nat.le_of_ble_eq_true rfl) dX0_link_3 ⟨Nat.le_of_ble_eq_true rfl, Nat.le_of_ble_eq_true rfl⟩ (fun  un H locs hq hP hD hS => ?_) (fun E ce q9 un H locs hq hP hD hS hce hcv hcl => ?_)
  · obtain ⟨rfl, a, i, ha, hi, rfl, rfl⟩ := hq
    have hP : va_P (dC, dI) vwCl (gw ad cz ci cj ((nI c0), fO, fA, fB, fT, sv, fC, rs, dk, ds, fL, fl, fh)) H := hP
    have hD : va_D Ar (gw ad cz ci cj ((nI c0), fO, fA, fB, fT, sv, fC, rs, dk, ds, fL, fl, fh)) := hD
    have h12 := (g_mvI hg ha).2
    refine lv_aload_n hx hb dX0_link_6 rfl (lv_at hl 0 rfl) ?_
    refine lv_iload_n hx hb dX0_link_7 rfl (lv_at hl 3 rfl) ?_
    refine g_callxv ⟨hx, hb, hml, hown, hw⟩ (c_X0_requireState l hl0 dC dI ad cz ci cj H.size (nI c0) fO fA fB fT sv fC rs dk ds fL fl fh x c0 rfl hg.2.1) (cwV 1 hw gv_X0_X0_requireState rfl rfl rfl (by decide +kernel) ⟨Nat.le_of_ble_eq_true rfl, Nat.le_of_ble_eq_true rfl⟩) hK hP hD hS hA hE (ci := 0) (q0 := 0) rfl rfl rfl hl.1 rfl (Nat.le_of_ble_eq_true rfl) dX0_link_8 ⟨Nat.le_of_ble_eq_true rfl, Nat.le_of_ble_eq_true rfl⟩ (fun  un H locs hq hP hD hS => ?_) (fun E ce q9 un H locs hq hP hD hS hce hcv hcl => ?_)
    · obtain ⟨rfl, t2, ht2, rfl⟩ := hq
      have hP : va_P (dC, dI) vwCl (gw ad cz ci cj ((nI c0), fO, fA, fB, fT, sv, fC, rs, dk, ds, fL, fl, fh)) H := hP
      have hD : va_D Ar (gw ad cz ci cj ((nI c0), fO, fA, fB, fT, sv, fC, rs, dk, ds, fL, fl, fh)) := hD
      refine lv_aload_n hx hb dX0_link_11 rfl (lv_at hl 0 rfl) ?_
      refine va_get (D := (dC, dI)) (ci := 0) (v := .ref (ad 4)) (C := RX0) (T := TX0) (N := 13) hx hb hw in_X0 hown hK hP 0 rfl rfl 4 (by decide) (hw _ m_1_22) (fun _ h9 => h9) rfl dX0_link_12 ?_
      refine lv_iload_n hx hb dX0_link_15 rfl (lv_at hl 1 rfl) ?_
      refine lv_bipush (v := 12) hx hb dX0_link_16 (by decide) ?_
      refine lv_imul hx hb dX0_link_18 ?_
      refine x_topi (y := nI (a * 12)) (pk_mul a 12) ?_
      refine lv_iload_n hx hb dX0_link_19 rfl (lv_at hl 2 rfl) ?_
      refine lv_iadd hx hb dX0_link_20 ?_
      refine x_topi (y := nI (a * 12 + i)) (nI_add _ _) ?_
      refine lv_iload_n hx hb dX0_link_21 rfl (lv_at hl 3 rfl) ?_
      refine va_iast hx hb hK hP hD hS 4 1 rfl rfl (vp_in_nI (by omega) (by decide)) dX0_link_22 (fun H locs hP hD hS => ?_)
      rw [nI_clamp (by omega)] at hP hD
      have hP : va_P (dC, dI) vwCl (gw ad cz ci cj ((nI c0), fO, fA, fB, (upd fT (a * 12 + i) (nI t2)), sv, fC, rs, dk, ds, fL, fl, fh)) H := hP
      have hD : va_D Ar (gw ad cz ci cj ((nI c0), fO, fA, fB, (upd fT (a * 12 + i) (nI t2)), sv, fC, rs, dk, ds, fL, fl, fh)) := hD
      refine lv_aload_n hx hb dX0_link_23 rfl (lv_at hl 0 rfl) ?_
      refine lv_iconst (v := 0) hx hb dX0_link_24 (by decide) ?_
      refine va_put (D := (dC, dI)) (ci := 0) (v := .int 0) (ty := .boolean) (C := RX0) (T := TX0) (N := 13) hx hb hw in_X0 tyX0 tyX0_ok nmX0 hown hK hP hD hS 0 rfl rfl 5 (by decide) (hw _ m_1_23) (fun _ h9 => h9) rfl (by decide +kernel) rfl rfl (Nat.le_of_ble_eq_true rfl) dX0_link_25 (fun H locs hP hD hS => ?_)
      have hP : va_P (dC, dI) vwCl (gw ad cz ci cj ((nI c0), fO, fA, fB, (upd fT (a * 12 + i) (nI t2)), 0, fC, rs, dk, ds, fL, fl, fh)) H := hP
      have hD : va_D Ar (gw ad cz ci cj ((nI c0), fO, fA, fB, (upd fT (a * 12 + i) (nI t2)), 0, fC, rs, dk, ds, fL, fl, fh)) := hD
      refine vx_ret (W.widen (k := 3) (n := 18) (Nat.le_of_ble_eq_true rfl) (Nat.le_of_ble_eq_true rfl) ?_)
      exact W.vret hx hb hr (fun t ht hW => ⟨⟨((nI c0), fO, fA, fB, (upd fT (a * 12 + i) (nI t2)), 0, fC, rs, dk, ds, fL, fl, fh), rfl, (⟨a, i, t2, ha, hi, ht2, rfl, rfl, rfl, rfl⟩), (by rw [ht]; exact hP), va_K.moved hW.alike hK, hD⟩, hS.F ht⟩) hS.2.2 dX0_link_28
    · obtain ⟨rfl, rfl, hno⟩ := hq
      exact vx_out (fun x hx9 => (htab x hx9).elim) hlocks hce hcv hcl (fun t ht hal => ⟨((nI c0), fO, fA, fB, fT, sv, fC, rs, dk, ds, fL, fl, fh), trivial, ⟨(⟨rfl, rfl, fun a i t _ _ ht h => hno t ht h.2.2⟩), (by rw [ht]; exact hP), va_K.moved hal hK, hD⟩, hS.F ht⟩) hS.2.2 (Nat.le_of_ble_eq_true rfl) (Nat.le_of_ble_eq_true rfl)
  · obtain ⟨rfl, rfl, hno⟩ := hq
    exact vx_out (fun x hx9 => (htab x hx9).elim) hlocks hce hcv hcl (fun t ht hal => ⟨((nI c0), fO, fA, fB, fT, sv, fC, rs, dk, ds, fL, fl, fh), trivial, ⟨(⟨rfl, rfl, fun a i t ha hi _ h => hno a i ha hi ⟨h.1, h.2.1⟩⟩), (by rw [ht]; exact hP), va_K.moved hal hK, hD⟩, hS.F ht⟩) hS.2.2 (Nat.le_of_ble_eq_true rfl) (Nat.le_of_ble_eq_true rfl)
set_option maxHeartbeats 4000000 in
set_option maxRecDepth 100000 in
theorem c_X0_next (l : Launch) (hl0 : l.stackTraces = false) (dC : Nat → ClassId) (dI : Nat → Nat → Nat) (ad : Nat → Nat) (cz ci cj : ClassId) (sz : Nat) (cnt : Int32) (fO : Nat → Int32) (fA : Nat → Int32) (fB : Nat → Int32) (fT : Nat → Int32) (sv : Int32) (fC : Nat → Int64) (rs : Int64) (dk : Int32) (ds : Int32) (fL : Nat → Int32) (fl : Nat → Int32) (fh : Nat → Int32) (n : Int32) (j : Int32) (c0 : Nat) (hg : g_ok c0 fO fA fB fT) : vx_Met l yX0_next wX0_next ({ frames := 8, cells := 2, slots := 12, locals := 133 }) (va_Pc [.ref (ad 0), .int n, .int j] (x_Pre (dC, dI) vwCl (gty cz ci cj) (gw ad cz ci cj ((nI c0), fO, fA, fB, fT, sv, fC, rs, dk, ds, fL, fl, fh)) sz)) (va_Qi (fun (r : Int32) (u : GS) => u = ((nI c0), fO, fA, fB, fT, sv, fC, rs, dk, ds, fL, fl, fh) ∧ ∃ a i, a < c0 ∧ i < gmv fO fA fB a ∧ n = nI a ∧ j = nI i ∧ r = nI (gtg fT a i)) (g_At (dC, dI) vwCl (gty cz ci cj) (va_A (gw ad cz ci cj ((nI c0), fO, fA, fB, fT, sv, fC, rs, dk, ds, fL, fl, fh)) sz) (gw ad cz ci cj)) (va_A (gw ad cz ci cj ((nI c0), fO, fA, fB, fT, sv, fC, rs, dk, ds, fL, fl, fh)) sz)) (x_XC (dC, dI) vwCl (gty cz ci cj) (va_A (gw ad cz ci cj ((nI c0), fO, fA, fB, fT, sv, fC, rs, dk, ds, fL, fl, fh)) sz) (gw ad cz ci cj) (fun (E : String) (u : GS) => E = "java/lang/IndexOutOfBoundsException" ∧ u = ((nI c0), fO, fA, fB, fT, sv, fC, rs, dk, ds, fL, fl, fh) ∧ ∀ a i, a < c0 → i < gmv fO fA fB a → ¬ (n = nI a ∧ j = nI i))) 2 12 (va_A (gw ad cz ci cj ((nI c0), fO, fA, fB, fT, sv, fC, rs, dk, ds, fL, fl, fh)) sz) := by
  refine vx_ofW (cc := cX0_next) (maxL := 3) (ret := some .int) (by decide) rfl ?_
  intro p e s m args below meth c s₁ Bd hml htab hv
  obtain ⟨rfl, hsz, hP, hK, hD0, hE⟩ := hv
  have hx := Bd.exec
  have hb := Bd.bytes
  have hr := Bd.returns
  have hts := atoms_spec (ws := wX0_next) Bd.pre
  have hw : ∀ w ∈ wAll, w.before _ s = true := fun w h => hts w (List.mem_cons_of_mem _ h)
  have hown : s.vm.findClass "GameGraph" = some m.cls := findClass_of_methodNamed Bd.named
  have hlocks := Bd.notSynchronized
  subst hsz
  have hD := hD0.self (sz := s.heap.size)
  generalize hAe : va_A (gw ad cz ci cj ((nI c0), fO, fA, fB, fT, sv, fC, rs, dk, ds, fL, fl, fh)) s.heap.size = Ar at hD hE ⊢
  have hA : ∀ q : Nat, s.heap.size ≤ q → Ar q := fun q h => by rw [← hAe]; exact Or.inr h
  obtain ⟨H, hH⟩ : ∃ H : Heap, H = s.heap := ⟨_, rfl⟩
  have hS : va_S Ar s.heap H [] := by rw [hH]; exact va_S.rf
  have hP : va_P (dC, dI) vwCl (gw ad cz ci cj ((nI c0), fO, fA, fB, fT, sv, fC, rs, dk, ds, fL, fl, fh)) H := by rw [hH]; exact hP
  rw [← hH]
  have hl := lv_entry ([.ref (ad 0), .int n, .int j]) (n := 3) (Nat.le_of_ble_eq_true rfl)
  rw [lg_entry_eq]
  generalize (lg_sl ([.ref (ad 0), .int n, .int j]) ++ List.replicate (3 - (lg_sl ([.ref (ad 0), .int n, .int j])).length) Slot.unset).toArray = ls at hl ⊢
  have hl : lv_has ls 3 [(0, .ref (ad 0)), (1, .int n), (2, .int j)] := hl
  have h60 := hg.2.1
  refine lv_aload_n hx hb dX0_next_0 rfl (lv_at hl 0 rfl) ?_
  refine lv_iload_n hx hb dX0_next_1 rfl (lv_at hl 1 rfl) ?_
  refine lv_iload_n hx hb dX0_next_2 rfl (lv_at hl 2 rfl) ?_
  refine g_callxv ⟨hx, hb, hml, hown, hw⟩ (c_X0_requireJointMove l hl0 dC dI ad cz ci cj H.size (nI c0) fO fA fB fT sv fC rs dk ds fL fl fh n j c0 hg) (cwV 2 hw gv_X0_X0_requireJointMove rfl rfl rfl (by decide +kernel) ⟨Nat.le_of_ble_eq_true rfl, Nat.le_of_ble_eq_true rfl⟩) hK hP hD hS hA hE (ci := 0) (q0 := 0) rfl rfl rfl hl.1 rfl (Nat.le_of_ble_eq_true rfl) dX0_next_3 ⟨Nat.le_of_ble_eq_true rfl, Nat.le_of_ble_eq_true rfl⟩ (fun  un H locs hq hP hD hS => ?_) (fun E ce q9 un H locs hq hP hD hS hce hcv hcl => ?_)
  · obtain ⟨rfl, a, i, ha, hi, rfl, rfl⟩ := hq
    have hP : va_P (dC, dI) vwCl (gw ad cz ci cj ((nI c0), fO, fA, fB, fT, sv, fC, rs, dk, ds, fL, fl, fh)) H := hP
    have hD : va_D Ar (gw ad cz ci cj ((nI c0), fO, fA, fB, fT, sv, fC, rs, dk, ds, fL, fl, fh)) := hD
    have h12 := (g_mvI hg ha).2
    refine lv_aload_n hx hb dX0_next_6 rfl (lv_at hl 0 rfl) ?_
    refine lv_iload_n hx hb dX0_next_7 rfl (lv_at hl 1 rfl) ?_
    refine lv_iload_n hx hb dX0_next_8 rfl (lv_at hl 2 rfl) ?_
    refine g_calli ⟨hx, hb, hml, hown, hw⟩ (c_X0_target l dC dI ad cz ci cj H.size (nI c0) fO fA fB fT sv fC rs dk ds fL fl fh a i (by omega) (by omega)) (cwV 2 hw gv_X0_X0_target rfl rfl rfl (by decide +kernel) ⟨Nat.le_of_ble_eq_true rfl, Nat.le_of_ble_eq_true rfl⟩) hK hP hD hS hA (ci := 0) (q0 := 0) rfl rfl rfl hl.1 rfl (Nat.le_of_ble_eq_true rfl) dX0_next_9 ⟨Nat.le_of_ble_eq_true rfl, Nat.le_of_ble_eq_true rfl⟩ (fun ra_1 un H locs hq hP hD hS => ?_)
    obtain ⟨rfl, hq⟩ := hq
    have hP : va_P (dC, dI) vwCl (gw ad cz ci cj ((nI c0), fO, fA, fB, fT, sv, fC, rs, dk, ds, fL, fl, fh)) H := hP
    have hD : va_D Ar (gw ad cz ci cj ((nI c0), fO, fA, fB, fT, sv, fC, rs, dk, ds, fL, fl, fh)) := hD
    refine x_topi (y := nI (gtg fT a i)) (by rw [hq]; exact (g_tgI hg ha (by omega)).1) ?_
    refine vx_ret (W.widen (k := 2) (n := 12) (Nat.le_of_ble_eq_true rfl) (Nat.le_of_ble_eq_true rfl) ?_)
    exact W.iret (v := (nI (gtg fT a i))) hx hb hr (fun t ht hW => ⟨⟨(nI (gtg fT a i)), ((nI c0), fO, fA, fB, fT, sv, fC, rs, dk, ds, fL, fl, fh), rfl, (⟨rfl, a, i, ha, hi, rfl, rfl, rfl⟩), (by rw [ht]; exact hP), va_K.moved hW.alike hK, hD⟩, hS.F ht⟩) hS.2.2 dX0_next_12
  · obtain ⟨rfl, rfl, hno⟩ := hq
    exact vx_out (fun x hx9 => (htab x hx9).elim) hlocks hce hcv hcl (fun t ht hal => ⟨((nI c0), fO, fA, fB, fT, sv, fC, rs, dk, ds, fL, fl, fh), trivial, ⟨(⟨rfl, rfl, hno⟩), (by rw [ht]; exact hP), va_K.moved hal hK, hD⟩, hS.F ht⟩) hS.2.2 (Nat.le_of_ble_eq_true rfl) (Nat.le_of_ble_eq_true rfl)
/-- surveyed, with the defect dk -/
def g_SV (c0 : Nat) (fO fA fB fT : Nat → Int32) (dk ds : Int32) (u : GS) : Prop := ∃ (fC2 : Nat → Int64) (rs2 : Int64) (fL2 fl2 fh2 : Nat → Int32), g_sv c0 fO fA fB fT rs2 dk ds fL2 fl2 fh2 ∧ u = (nI c0, fO, fA, fB, fT, 1, fC2, rs2, dk, ds, fL2, fl2, fh2)
set_option maxHeartbeats 4000000 in
set_option maxRecDepth 100000 in
theorem c_X0_defect (l : Launch) (hl0 : l.stackTraces = false) (dC : Nat → ClassId) (dI : Nat → Nat → Nat) (ad : Nat → Nat) (cz ci cj : ClassId) (sz : Nat) (cnt : Int32) (fO : Nat → Int32) (fA : Nat → Int32) (fB : Nat → Int32) (fT : Nat → Int32) (sv : Int32) (fC : Nat → Int64) (rs : Int64) (dk : Int32) (ds : Int32) (fL : Nat → Int32) (fl : Nat → Int32) (fh : Nat → Int32) (n : Int32) (c0 : Nat) (hg : g_ok c0 fO fA fB fT) (hsv : sv = 0 ∨ (sv = 1 ∧ g_sv c0 fO fA fB fT rs dk ds fL fl fh)) : vx_Met l yX0_defect wX0_defect ({ frames := 6, cells := 1, slots := 6, locals := 90 }) (va_Pc [.ref (ad 0), .int n] (x_Pre (dC, dI) vwCl (gty cz ci cj) (gw ad cz ci cj ((nI c0), fO, fA, fB, fT, sv, fC, rs, dk, ds, fL, fl, fh)) sz)) (va_Qi (fun (r : Int32) (u : GS) => ∃ dk2 ds2, g_SV c0 fO fA fB fT dk2 ds2 u ∧ ((n = 0 ∧ r = dk2) ∨ (n = 1 ∧ r = ds2))) (g_At (dC, dI) vwCl (gty cz ci cj) (va_A (gw ad cz ci cj ((nI c0), fO, fA, fB, fT, sv, fC, rs, dk, ds, fL, fl, fh)) sz) (gw ad cz ci cj)) (va_A (gw ad cz ci cj ((nI c0), fO, fA, fB, fT, sv, fC, rs, dk, ds, fL, fl, fh)) sz)) (x_XC (dC, dI) vwCl (gty cz ci cj) (va_A (gw ad cz ci cj ((nI c0), fO, fA, fB, fT, sv, fC, rs, dk, ds, fL, fl, fh)) sz) (gw ad cz ci cj) (fun (E : String) (u : GS) => E = "java/lang/IllegalArgumentException" ∧ u = ((nI c0), fO, fA, fB, fT, sv, fC, rs, dk, ds, fL, fl, fh) ∧ ¬ n = 0 ∧ ¬ n = 1)) 1 6 (va_A (gw ad cz ci cj ((nI c0), fO, fA, fB, fT, sv, fC, rs, dk, ds, fL, fl, fh)) sz) := by
  refine vx_ofW (cc := cX0_defect) (maxL := 2) (ret := some .int) (by decide) rfl ?_
  intro p e s m args below meth c s₁ Bd hml htab hv
  obtain ⟨rfl, hsz, hP, hK, hD0, hE⟩ := hv
  have hx := Bd.exec
  have hb := Bd.bytes
  have hr := Bd.returns
  have hts := atoms_spec (ws := wX0_defect) Bd.pre
  have hw : ∀ w ∈ wAll, w.before _ s = true := fun w h => hts w (List.mem_cons_of_mem _ h)
  have hown : s.vm.findClass "GameGraph" = some m.cls := findClass_of_methodNamed Bd.named
  have hlocks := Bd.notSynchronized
  subst hsz
  have hD := hD0.self (sz := s.heap.size)
  generalize hAe : va_A (gw ad cz ci cj ((nI c0), fO, fA, fB, fT, sv, fC, rs, dk, ds, fL, fl, fh)) s.heap.size = Ar at hD hE ⊢
  have hA : ∀ q : Nat, s.heap.size ≤ q → Ar q := fun q h => by rw [← hAe]; exact Or.inr h
  obtain ⟨H, hH⟩ : ∃ H : Heap, H = s.heap := ⟨_, rfl⟩
  have hS : va_S Ar s.heap H [] := by rw [hH]; exact va_S.rf
  have hP : va_P (dC, dI) vwCl (gw ad cz ci cj ((nI c0), fO, fA, fB, fT, sv, fC, rs, dk, ds, fL, fl, fh)) H := by rw [hH]; exact hP
  rw [← hH]
  have hl := lv_entry ([.ref (ad 0), .int n]) (n := 2) (Nat.le_of_ble_eq_true rfl)
  rw [lg_entry_eq]
  generalize (lg_sl ([.ref (ad 0), .int n]) ++ List.replicate (2 - (lg_sl ([.ref (ad 0), .int n])).length) Slot.unset).toArray = ls at hl ⊢
  have hl : lv_has ls 2 [(0, .ref (ad 0)), (1, .int n)] := hl
  refine lv_iload_n hx hb dX0_defect_0 rfl (lv_at hl 1 rfl) ?_
  refine lv_if_eq (tgt := 19) hx hb dX0_defect_1 (by decide) (fun c_1 => ?_) (fun c_1 => ?_)
  · subst c_1
    refine lv_aload_n hx hb dX0_defect_19 rfl (lv_at hl 0 rfl) ?_
    refine g_callv ⟨hx, hb, hml, hown, hw⟩ (c_X0_survey l dC dI ad cz ci cj H.size (nI c0) fO fA fB fT sv fC rs dk ds fL fl fh  c0 hg hsv) (cwV 0 hw gv_X0_X0_survey rfl rfl rfl (by decide +kernel) ⟨Nat.le_of_ble_eq_true rfl, Nat.le_of_ble_eq_true rfl⟩) hK hP hD hS hA (ci := 0) (q0 := 0) rfl rfl rfl hl.1 rfl (Nat.le_of_ble_eq_true rfl) dX0_defect_20 ⟨Nat.le_of_ble_eq_true rfl, Nat.le_of_ble_eq_true rfl⟩ (fun  un H locs hq hP hD hS => ?_)
    obtain ⟨fC2, rs2, dk2, ds2, fL2, fl2, fh2, hs2, rfl⟩ := hq
    have hP : va_P (dC, dI) vwCl (gw ad cz ci cj ((nI c0), fO, fA, fB, fT, 1, fC2, rs2, dk2, ds2, fL2, fl2, fh2)) H := hP
    have hD : va_D Ar (gw ad cz ci cj ((nI c0), fO, fA, fB, fT, 1, fC2, rs2, dk2, ds2, fL2, fl2, fh2)) := hD
    refine lv_iload_n hx hb dX0_defect_23 rfl (lv_at hl 1 rfl) ?_
    refine lv_if_ne (tgt := 34) hx hb dX0_defect_24 (by decide) (fun ca_2 => ?_) (fun ca_2 => ?_)
    · exact absurd rfl ca_2
    · refine lv_aload_n hx hb dX0_defect_27 rfl (lv_at hl 0 rfl) ?_
      refine va_get (D := (dC, dI)) (ci := 0) (v := .int dk2) (C := RX0) (T := TX0) (N := 13) hx hb hw in_X0 hown hK hP 0 rfl rfl 8 (by decide) (hw _ m_1_26) (fun _ h9 => h9) rfl dX0_defect_28 ?_
      refine lv_goto (tgt := 38) hx hb dX0_defect_31 (by decide) ?_
      refine vx_ret (W.widen (k := 1) (n := 6) (Nat.le_of_ble_eq_true rfl) (Nat.le_of_ble_eq_true rfl) ?_)
      exact W.iret (v := dk2) hx hb hr (fun t ht hW => ⟨⟨dk2, ((nI c0), fO, fA, fB, fT, 1, fC2, rs2, dk2, ds2, fL2, fl2, fh2), rfl, (⟨dk2, ds2, ⟨fC2, rs2, fL2, fl2, fh2, hs2, rfl⟩, Or.inl ⟨rfl, rfl⟩⟩), (by rw [ht]; exact hP), va_K.moved hW.alike hK, hD⟩, hS.F ht⟩) hS.2.2 dX0_defect_38
  · refine lv_iload_n hx hb dX0_defect_4 rfl (lv_at hl 1 rfl) ?_
    refine lv_iconst (v := 1) hx hb dX0_defect_5 (by decide) ?_
    refine lv_icmp_eq (tgt := 19) hx hb dX0_defect_6 (by decide) (fun cb_2 => ?_) (fun cb_2 => ?_)
    · subst cb_2
      refine lv_aload_n hx hb dX0_defect_19 rfl (lv_at hl 0 rfl) ?_
      refine g_callv ⟨hx, hb, hml, hown, hw⟩ (c_X0_survey l dC dI ad cz ci cj H.size (nI c0) fO fA fB fT sv fC rs dk ds fL fl fh  c0 hg hsv) (cwV 0 hw gv_X0_X0_survey rfl rfl rfl (by decide +kernel) ⟨Nat.le_of_ble_eq_true rfl, Nat.le_of_ble_eq_true rfl⟩) hK hP hD hS hA (ci := 0) (q0 := 0) rfl rfl rfl hl.1 rfl (Nat.le_of_ble_eq_true rfl) dX0_defect_20 ⟨Nat.le_of_ble_eq_true rfl, Nat.le_of_ble_eq_true rfl⟩ (fun  un H locs hq hP hD hS => ?_)
      obtain ⟨fC2, rs2, dk2, ds2, fL2, fl2, fh2, hs2, rfl⟩ := hq
      have hP : va_P (dC, dI) vwCl (gw ad cz ci cj ((nI c0), fO, fA, fB, fT, 1, fC2, rs2, dk2, ds2, fL2, fl2, fh2)) H := hP
      have hD : va_D Ar (gw ad cz ci cj ((nI c0), fO, fA, fB, fT, 1, fC2, rs2, dk2, ds2, fL2, fl2, fh2)) := hD
      refine lv_iload_n hx hb dX0_defect_23 rfl (lv_at hl 1 rfl) ?_
      refine lv_if_ne (tgt := 34) hx hb dX0_defect_24 (by decide) (fun cba_3 => ?_) (fun cba_3 => ?_)
      · refine lv_aload_n hx hb dX0_defect_34 rfl (lv_at hl 0 rfl) ?_
        refine va_get (D := (dC, dI)) (ci := 0) (v := .int ds2) (C := RX0) (T := TX0) (N := 13) hx hb hw in_X0 hown hK hP 0 rfl rfl 9 (by decide) (hw _ m_1_27) (fun _ h9 => h9) rfl dX0_defect_35 ?_
        refine vx_ret (W.widen (k := 1) (n := 6) (Nat.le_of_ble_eq_true rfl) (Nat.le_of_ble_eq_true rfl) ?_)
        exact W.iret (v := ds2) hx hb hr (fun t ht hW => ⟨⟨ds2, ((nI c0), fO, fA, fB, fT, 1, fC2, rs2, dk2, ds2, fL2, fl2, fh2), rfl, (⟨dk2, ds2, ⟨fC2, rs2, fL2, fl2, fh2, hs2, rfl⟩, Or.inr ⟨rfl, rfl⟩⟩), (by rw [ht]; exact hP), va_K.moved hW.alike hK, hD⟩, hS.F ht⟩) hS.2.2 dX0_defect_38
      · exact absurd cba_3 (by decide)
    · obtain ⟨sq, hsq⟩ := hE.2.2.2 ("GameGraph", 90, "what is not 0 or 1") (by decide +kernel)
      exact vx_throwS (names := ["java/lang/RuntimeException", "java/lang/Exception"]) hx hb hl0 hown (by decide +kernel) (by decide +kernel) (hw _ m_3_36) (hw _ m_0_39) hsq (vx_hat (fun w h => hw w (x_atA w h)) x_abA (fun w h => va_Nw.use (x_bad_ot w h) (hE.2.2.1 w h))) (List.forall_mem_cons.mpr ⟨by decide +kernel, List.forall_mem_cons.mpr ⟨by decide +kernel, x_agA⟩⟩) hE.1 hE.2.1 hS (hl.1.trans hml.symm) dX0_defect_9 dX0_defect_12 dX0_defect_13 dX0_defect_15 dX0_defect_18 (fun x hx9 => (htab x hx9).elim) (Nat.le_of_ble_eq_true rfl) (Nat.le_of_ble_eq_true rfl) (Nat.le_of_ble_eq_true rfl) (Nat.le_of_ble_eq_true rfl) hlocks (fun t hal hz hq9 => ⟨((nI c0), fO, fA, fB, fT, sv, fC, rs, dk, ds, fL, fl, fh), trivial, ⟨(⟨rfl, rfl, c_1, cb_2⟩), hP.kept (fun k q hk => hq9 q.1 (va_at.lt (hP k q hk))), va_K.moved hal hK, hD⟩, Nat.le_trans hS.1 hz, fun q h1 h2 => (hq9 q (Nat.lt_of_lt_of_le h1 hS.1)).trans (hS.2.1 q h1 h2)⟩) hS.2.2 (Nat.le_of_ble_eq_true rfl) (Nat.le_of_ble_eq_true rfl)
set_option maxHeartbeats 4000000 in
set_option maxRecDepth 100000 in
theorem c_X0_requireValued (l : Launch) (hl0 : l.stackTraces = false) (dC : Nat → ClassId) (dI : Nat → Nat → Nat) (ad : Nat → Nat) (cz ci cj : ClassId) (sz : Nat) (cnt : Int32) (fO : Nat → Int32) (fA : Nat → Int32) (fB : Nat → Int32) (fT : Nat → Int32) (sv : Int32) (fC : Nat → Int64) (rs : Int64) (dk : Int32) (ds : Int32) (fL : Nat → Int32) (fl : Nat → Int32) (fh : Nat → Int32) (n : Int32) (c0 : Nat) (hg : g_ok c0 fO fA fB fT) (hsv : sv = 0 ∨ (sv = 1 ∧ g_sv c0 fO fA fB fT rs dk ds fL fl fh)) : vx_Met l yX0_requireValued wX0_requireValued ({ frames := 6, cells := 1, slots := 6, locals := 90 }) (va_Pc [.ref (ad 0), .int n] (x_Pre (dC, dI) vwCl (gty cz ci cj) (gw ad cz ci cj ((nI c0), fO, fA, fB, fT, sv, fC, rs, dk, ds, fL, fl, fh)) sz)) (va_Qv (fun (u : GS) => (∃ ds2, g_SV c0 fO fA fB fT 0 ds2 u) ∧ ∃ k, k < c0 ∧ n = nI k ∧ gre c0 fO fA fB fT k) (g_At (dC, dI) vwCl (gty cz ci cj) (va_A (gw ad cz ci cj ((nI c0), fO, fA, fB, fT, sv, fC, rs, dk, ds, fL, fl, fh)) sz) (gw ad cz ci cj)) (va_A (gw ad cz ci cj ((nI c0), fO, fA, fB, fT, sv, fC, rs, dk, ds, fL, fl, fh)) sz)) (x_XC (dC, dI) vwCl (gty cz ci cj) (va_A (gw ad cz ci cj ((nI c0), fO, fA, fB, fT, sv, fC, rs, dk, ds, fL, fl, fh)) sz) (gw ad cz ci cj) (fun (E : String) (u : GS) => (E = "java/lang/IllegalStateException" ∧ ∃ dk2 ds2, dk2 ≠ 0 ∧ g_SV c0 fO fA fB fT dk2 ds2 u) ∨ (E = "java/lang/IndexOutOfBoundsException" ∧ (∃ ds2, g_SV c0 fO fA fB fT 0 ds2 u) ∧ ∀ k, k < c0 → n = nI k → ¬ gre c0 fO fA fB fT k))) 1 6 (va_A (gw ad cz ci cj ((nI c0), fO, fA, fB, fT, sv, fC, rs, dk, ds, fL, fl, fh)) sz) := by
  refine vx_ofW (cc := cX0_requireValued) (maxL := 2) (ret := none) (by decide) rfl ?_
  intro p e s m args below meth c s₁ Bd hml htab hv
  obtain ⟨rfl, hsz, hP, hK, hD0, hE⟩ := hv
  have hx := Bd.exec
  have hb := Bd.bytes
  have hr := Bd.returns
  have hts := atoms_spec (ws := wX0_requireValued) Bd.pre
  have hw : ∀ w ∈ wAll, w.before _ s = true := fun w h => hts w (List.mem_cons_of_mem _ h)
  have hown : s.vm.findClass "GameGraph" = some m.cls := findClass_of_methodNamed Bd.named
  have hlocks := Bd.notSynchronized
  subst hsz
  have hD := hD0.self (sz := s.heap.size)
  generalize hAe : va_A (gw ad cz ci cj ((nI c0), fO, fA, fB, fT, sv, fC, rs, dk, ds, fL, fl, fh)) s.heap.size = Ar at hD hE ⊢
  have hA : ∀ q : Nat, s.heap.size ≤ q → Ar q := fun q h => by rw [← hAe]; exact Or.inr h
  obtain ⟨H, hH⟩ : ∃ H : Heap, H = s.heap := ⟨_, rfl⟩
  have hS : va_S Ar s.heap H [] := by rw [hH]; exact va_S.rf
  have hP : va_P (dC, dI) vwCl (gw ad cz ci cj ((nI c0), fO, fA, fB, fT, sv, fC, rs, dk, ds, fL, fl, fh)) H := by rw [hH]; exact hP
  rw [← hH]
  have hl := lv_entry ([.ref (ad 0), .int n]) (n := 2) (Nat.le_of_ble_eq_true rfl)
  rw [lg_entry_eq]
  generalize (lg_sl ([.ref (ad 0), .int n]) ++ List.replicate (2 - (lg_sl ([.ref (ad 0), .int n])).length) Slot.unset).toArray = ls at hl ⊢
  have hl : lv_has ls 2 [(0, .ref (ad 0)), (1, .int n)] := hl
  have h60 := hg.2.1
  refine lv_aload_n hx hb dX0_requireValued_0 rfl (lv_at hl 0 rfl) ?_
  refine g_callv ⟨hx, hb, hml, hown, hw⟩ (c_X0_survey l dC dI ad cz ci cj H.size (nI c0) fO fA fB fT sv fC rs dk ds fL fl fh  c0 hg hsv) (cwV 0 hw gv_X0_X0_survey rfl rfl rfl (by decide +kernel) ⟨Nat.le_of_ble_eq_true rfl, Nat.le_of_ble_eq_true rfl⟩) hK hP hD hS hA (ci := 0) (q0 := 0) rfl rfl rfl hl.1 rfl (Nat.le_of_ble_eq_true rfl) dX0_requireValued_1 ⟨Nat.le_of_ble_eq_true rfl, Nat.le_of_ble_eq_true rfl⟩ (fun  un H locs hq hP hD hS => ?_)
  obtain ⟨fC2, rs2, dk2, ds2, fL2, fl2, fh2, hs2, rfl⟩ := hq
  have hP : va_P (dC, dI) vwCl (gw ad cz ci cj ((nI c0), fO, fA, fB, fT, 1, fC2, rs2, dk2, ds2, fL2, fl2, fh2)) H := hP
  have hD : va_D Ar (gw ad cz ci cj ((nI c0), fO, fA, fB, fT, 1, fC2, rs2, dk2, ds2, fL2, fl2, fh2)) := hD
  refine lv_aload_n hx hb dX0_requireValued_4 rfl (lv_at hl 0 rfl) ?_
  refine va_get (D := (dC, dI)) (ci := 0) (v := .int dk2) (C := RX0) (T := TX0) (N := 13) hx hb hw in_X0 hown hK hP 0 rfl rfl 8 (by decide) (hw _ m_1_26) (fun _ h9 => h9) rfl dX0_requireValued_5 ?_
  refine lv_if_eq (tgt := 21) hx hb dX0_requireValued_8 (by decide) (fun c_1 => ?_) (fun c_1 => ?_)
  · subst c_1
    refine lv_aload_n hx hb dX0_requireValued_21 rfl (lv_at hl 0 rfl) ?_
    refine lv_iload_n hx hb dX0_requireValued_22 rfl (lv_at hl 1 rfl) ?_
    refine g_calli ⟨hx, hb, hml, hown, hw⟩ (c_X0_hasState l dC dI ad cz ci cj H.size (nI c0) fO fA fB fT 1 fC2 rs2 0 ds2 fL2 fl2 fh2 n c0 rfl hg.2.1) (cwV 1 hw gv_X0_X0_hasState rfl rfl rfl (by decide +kernel) ⟨Nat.le_of_ble_eq_true rfl, Nat.le_of_ble_eq_true rfl⟩) hK hP hD hS hA (ci := 0) (q0 := 0) rfl rfl rfl hl.1 rfl (Nat.le_of_ble_eq_true rfl) dX0_requireValued_23 ⟨Nat.le_of_ble_eq_true rfl, Nat.le_of_ble_eq_true rfl⟩ (fun ra_2 un H locs hq hP hD hS => ?_)
    obtain ⟨rfl, hq⟩ := hq
    have hP : va_P (dC, dI) vwCl (gw ad cz ci cj ((nI c0), fO, fA, fB, fT, 1, fC2, rs2, 0, ds2, fL2, fl2, fh2)) H := hP
    have hD : va_D Ar (gw ad cz ci cj ((nI c0), fO, fA, fB, fT, 1, fC2, rs2, 0, ds2, fL2, fl2, fh2)) := hD
    refine lv_if_eq (tgt := 40) hx hb dX0_requireValued_26 (by decide) (fun ca_3 => ?_) (fun ca_3 => ?_)
    · have hno : ∀ k, k < c0 → n ≠ nI k := by rcases hq with ⟨_, a⟩ | ⟨a, _⟩; exact absurd ca_3 (by rw [a]; decide); exact a
      obtain ⟨sq, hsq⟩ := hE.2.2.2 ("GameGraph", 134, "there is no such state, or it is not reached") (by decide +kernel)
      exact vx_throwS (names := ["java/lang/RuntimeException", "java/lang/Exception"]) hx hb hl0 hown (by decide +kernel) (by decide +kernel) (hw _ m_5_27) (hw _ m_1_0) hsq (vx_hat (fun w h => hw w (x_atI w h)) x_abI (fun w h => va_Nw.use (x_bad_ot w h) (hE.2.2.1 w h))) (List.forall_mem_cons.mpr ⟨by decide +kernel, List.forall_mem_cons.mpr ⟨by decide +kernel, x_agI⟩⟩) hE.1 hE.2.1 hS (hl.1.trans hml.symm) dX0_requireValued_40 dX0_requireValued_43 dX0_requireValued_44 dX0_requireValued_46 dX0_requireValued_49 (fun x hx9 => (htab x hx9).elim) (Nat.le_of_ble_eq_true rfl) (Nat.le_of_ble_eq_true rfl) (Nat.le_of_ble_eq_true rfl) (Nat.le_of_ble_eq_true rfl) hlocks (fun t hal hz hq9 => ⟨((nI c0), fO, fA, fB, fT, 1, fC2, rs2, 0, ds2, fL2, fl2, fh2), trivial, ⟨(Or.inr ⟨rfl, ⟨ds2, fC2, rs2, fL2, fl2, fh2, hs2, rfl⟩, fun k hk e => absurd e (hno k hk)⟩), hP.kept (fun k q hk => hq9 q.1 (va_at.lt (hP k q hk))), va_K.moved hal hK, hD⟩, Nat.le_trans hS.1 hz, fun q h1 h2 => (hq9 q (Nat.lt_of_lt_of_le h1 hS.1)).trans (hS.2.1 q h1 h2)⟩) hS.2.2 (Nat.le_of_ble_eq_true rfl) (Nat.le_of_ble_eq_true rfl)
    · have hyes : ∃ k, k < c0 ∧ n = nI k := by rcases hq with ⟨a, _⟩ | ⟨_, a⟩; exact a; exact absurd a ca_3
      obtain ⟨k, hk, rfl⟩ := hyes
      refine lv_aload_n hx hb dX0_requireValued_29 rfl (lv_at hl 0 rfl) ?_
      refine va_get (D := (dC, dI)) (ci := 0) (v := .long rs2) (C := RX0) (T := TX0) (N := 13) hx hb hw in_X0 hown hK hP 0 rfl rfl 7 (by decide) (hw _ m_1_25) (fun _ h9 => h9) rfl dX0_requireValued_30 ?_
      refine lv_iload_n hx hb dX0_requireValued_33 rfl (lv_at hl 1 rfl) ?_
      refine g_calls ⟨hx, hb, hml, hown, hw⟩ (c_X0_contains l rs2 k (by omega)) (va_cwS 2 hw gs_X0_X0_contains rfl rfl rfl (by decide +kernel) ⟨Nat.le_of_ble_eq_true rfl, Nat.le_of_ble_eq_true rfl⟩) hP hS rfl hl.1 rfl (Nat.le_of_ble_eq_true rfl) dX0_requireValued_34 ⟨Nat.le_of_ble_eq_true rfl, Nat.le_of_ble_eq_true rfl⟩ (fun rab_4 H locs hq hP hS => ?_)
      have hP : va_P (dC, dI) vwCl (gw ad cz ci cj ((nI c0), fO, fA, fB, fT, 1, fC2, rs2, 0, ds2, fL2, fl2, fh2)) H := hP
      have hD : va_D Ar (gw ad cz ci cj ((nI c0), fO, fA, fB, fT, 1, fC2, rs2, 0, ds2, fL2, fl2, fh2)) := hD
      refine lv_if_ne (tgt := 50) hx hb dX0_requireValued_37 (by decide) (fun cab_5 => ?_) (fun cab_5 => ?_)
      · refine vx_ret (W.widen (k := 1) (n := 6) (Nat.le_of_ble_eq_true rfl) (Nat.le_of_ble_eq_true rfl) ?_)
        exact W.vret hx hb hr (fun t ht hW => ⟨⟨((nI c0), fO, fA, fB, fT, 1, fC2, rs2, 0, ds2, fL2, fl2, fh2), rfl, (⟨⟨ds2, fC2, rs2, fL2, fl2, fh2, hs2, rfl⟩, k, hk, rfl, (hs2.1 k).mp (k_b1 hq cab_5)⟩), (by rw [ht]; exact hP), va_K.moved hW.alike hK, hD⟩, hS.F ht⟩) hS.2.2 dX0_requireValued_50
      · obtain ⟨sq, hsq⟩ := hE.2.2.2 ("GameGraph", 134, "there is no such state, or it is not reached") (by decide +kernel)
        exact vx_throwS (names := ["java/lang/RuntimeException", "java/lang/Exception"]) hx hb hl0 hown (by decide +kernel) (by decide +kernel) (hw _ m_5_27) (hw _ m_1_0) hsq (vx_hat (fun w h => hw w (x_atI w h)) x_abI (fun w h => va_Nw.use (x_bad_ot w h) (hE.2.2.1 w h))) (List.forall_mem_cons.mpr ⟨by decide +kernel, List.forall_mem_cons.mpr ⟨by decide +kernel, x_agI⟩⟩) hE.1 hE.2.1 hS (hl.1.trans hml.symm) dX0_requireValued_40 dX0_requireValued_43 dX0_requireValued_44 dX0_requireValued_46 dX0_requireValued_49 (fun x hx9 => (htab x hx9).elim) (Nat.le_of_ble_eq_true rfl) (Nat.le_of_ble_eq_true rfl) (Nat.le_of_ble_eq_true rfl) (Nat.le_of_ble_eq_true rfl) hlocks (fun t hal hz hq9 => ⟨((nI c0), fO, fA, fB, fT, 1, fC2, rs2, 0, ds2, fL2, fl2, fh2), trivial, ⟨(Or.inr ⟨rfl, ⟨ds2, fC2, rs2, fL2, fl2, fh2, hs2, rfl⟩, fun k2 hk2 e h => by have e2 := k_inj (by omega) (by omega) e; subst e2; have h1 := (hs2.1 k).mpr h; rw [k_b0 hq cab_5] at h1; cases h1⟩), hP.kept (fun k q hk => hq9 q.1 (va_at.lt (hP k q hk))), va_K.moved hal hK, hD⟩, Nat.le_trans hS.1 hz, fun q h1 h2 => (hq9 q (Nat.lt_of_lt_of_le h1 hS.1)).trans (hS.2.1 q h1 h2)⟩) hS.2.2 (Nat.le_of_ble_eq_true rfl) (Nat.le_of_ble_eq_true rfl)
  · obtain ⟨sq, hsq⟩ := hE.2.2.2 ("GameGraph", 127, "the graph has a defect") (by decide +kernel)
    exact vx_throwS (names := ["java/lang/RuntimeException", "java/lang/Exception"]) hx hb hl0 hown (by decide +kernel) (by decide +kernel) (hw _ m_7_9) (hw _ m_1_2) hsq (vx_hat (fun w h => hw w (x_atS w h)) x_abS (fun w h => va_Nw.use (x_bad_ot w h) (hE.2.2.1 w h))) (List.forall_mem_cons.mpr ⟨by decide +kernel, List.forall_mem_cons.mpr ⟨by decide +kernel, x_agS⟩⟩) hE.1 hE.2.1 hS (hl.1.trans hml.symm) dX0_requireValued_11 dX0_requireValued_14 dX0_requireValued_15 dX0_requireValued_17 dX0_requireValued_20 (fun x hx9 => (htab x hx9).elim) (Nat.le_of_ble_eq_true rfl) (Nat.le_of_ble_eq_true rfl) (Nat.le_of_ble_eq_true rfl) (Nat.le_of_ble_eq_true rfl) hlocks (fun t hal hz hq9 => ⟨((nI c0), fO, fA, fB, fT, 1, fC2, rs2, dk2, ds2, fL2, fl2, fh2), trivial, ⟨(Or.inl ⟨rfl, dk2, ds2, c_1, fC2, rs2, fL2, fl2, fh2, hs2, rfl⟩), hP.kept (fun k q hk => hq9 q.1 (va_at.lt (hP k q hk))), va_K.moved hal hK, hD⟩, Nat.le_trans hS.1 hz, fun q h1 h2 => (hq9 q (Nat.lt_of_lt_of_le h1 hS.1)).trans (hS.2.1 q h1 h2)⟩) hS.2.2 (Nat.le_of_ble_eq_true rfl) (Nat.le_of_ble_eq_true rfl)
theorem k_exact {r : Int32} {v : Int} (h : w_ok r.toInt v (0 : Int32).toInt (100 : Int32).toInt) (hv : 0 ≤ v ∧ v ≤ 100) : r.toInt = v := by
  have e1 : (0 : Int32).toInt = 0 := by decide
  have e2 : (100 : Int32).toInt = 100 := by decide
  rw [e1, e2] at h
  obtain ⟨a, b, c⟩ := h
  omega
theorem k_pmt : ∀ m, m < 101 → (nI m - 1).toInt = (m : Int) - 1 ∧ (nI m + 1).toInt = (m : Int) + 1 := by decide +kernel
theorem k_pm {v : Int32} (h0 : 0 ≤ v.toInt) (h1 : v.toInt ≤ 100) : (v - 1).toInt = v.toInt - 1 ∧ (v + 1).toInt = v.toInt + 1 := by
  obtain ⟨m, hm, e⟩ := nI_of (x := v) (by rw [Int32.lt_iff_toInt_lt, Int32.toInt_zero]; omega)
  have := nI_toInt hm
  subst e
  rw [this]
  exact k_pmt m (by omega)
set_option maxHeartbeats 4000000 in
set_option maxRecDepth 100000 in
theorem c_X0_findValue (l : Launch) (dC : Nat → ClassId) (dI : Nat → Nat → Nat) (ad : Nat → Nat) (cz ci cj : ClassId) (sz : Nat) (cnt : Int32) (fO : Nat → Int32) (fA : Nat → Int32) (fB : Nat → Int32) (fT : Nat → Int32) (sv : Int32) (fC : Nat → Int64) (rs : Int64) (dk : Int32) (ds : Int32) (fL : Nat → Int32) (fl : Nat → Int32) (fh : Nat → Int32) (n : Nat) (c0 : Nat) (hg : g_ok c0 fO fA fB fT) (hnd : g_nd c0 fO fA fB fT) (hre : gre c0 fO fA fB fT n) (hbd : g_bd c0 fO fA fB fT fl fh) : Met l yX0_findValue wX0_findValue ({ frames := 121, cells := 0, slots := 0, locals := 3385 }) (va_Pc [.ref (ad 0), .int (nI n)] (g_Pre (dC, dI) vwCl (gty cz ci cj) (gw ad cz ci cj ((nI c0), fO, fA, fB, fT, sv, fC, rs, dk, ds, fL, fl, fh)) sz)) (va_Qi (fun (r : Int32) (u : GS) => ∃ fl2 fh2 : Nat → Int32, g_bd c0 fO fA fB fT fl2 fh2 ∧ r.toInt = gval c0 fO fA fB fT n ∧ u = ((nI c0), fO, fA, fB, fT, sv, fC, rs, dk, ds, fL, fl2, fh2)) (g_At (dC, dI) vwCl (gty cz ci cj) (va_A (gw ad cz ci cj ((nI c0), fO, fA, fB, fT, sv, fC, rs, dk, ds, fL, fl, fh)) sz) (gw ad cz ci cj)) (va_A (gw ad cz ci cj ((nI c0), fO, fA, fB, fT, sv, fC, rs, dk, ds, fL, fl, fh)) sz)) 0 0 (va_A (gw ad cz ci cj ((nI c0), fO, fA, fB, fT, sv, fC, rs, dk, ds, fL, fl, fh)) sz) := by
  refine Met.ofW (cc := cX0_findValue) (maxL := 2) (ret := some .int) (by decide) rfl ?_
  intro p e s m args below meth c s₁ Bd hml hv
  obtain ⟨rfl, hsz, hP, hK, hD0⟩ := hv
  have hx := Bd.exec
  have hb := Bd.bytes
  have hr := Bd.returns
  have hts := atoms_spec (ws := wX0_findValue) Bd.pre
  have hw : ∀ w ∈ wAll, w.before _ s = true := fun w h => hts w (List.mem_cons_of_mem _ h)
  have hown : s.vm.findClass "GameGraph" = some m.cls := findClass_of_methodNamed Bd.named
  have hlocks := Bd.notSynchronized
  subst hsz
  have hD := hD0.self (sz := s.heap.size)
  generalize hAe : va_A (gw ad cz ci cj ((nI c0), fO, fA, fB, fT, sv, fC, rs, dk, ds, fL, fl, fh)) s.heap.size = Ar at hD ⊢
  have hA : ∀ q : Nat, s.heap.size ≤ q → Ar q := fun q h => by rw [← hAe]; exact Or.inr h
  obtain ⟨H, hH⟩ : ∃ H : Heap, H = s.heap := ⟨_, rfl⟩
  have hS : va_S Ar s.heap H [] := by rw [hH]; exact va_S.rf
  have hP : va_P (dC, dI) vwCl (gw ad cz ci cj ((nI c0), fO, fA, fB, fT, sv, fC, rs, dk, ds, fL, fl, fh)) H := by rw [hH]; exact hP
  rw [← hH]
  have hl := lv_entry ([.ref (ad 0), .int (nI n)]) (n := 2) (Nat.le_of_ble_eq_true rfl)
  rw [lg_entry_eq]
  generalize (lg_sl ([.ref (ad 0), .int (nI n)]) ++ List.replicate (2 - (lg_sl ([.ref (ad 0), .int (nI n)])).length) Slot.unset).toArray = ls at hl ⊢
  have hl : lv_has ls 2 [(0, .ref (ad 0)), (1, .int (nI n))] := hl
  have h60 := hg.2.1
  have hrk := s_rk_c (g_sok hg) hnd.2 hre
  refine lv_aload_n hx hb dX0_findValue_0 rfl (lv_at hl 0 rfl) ?_
  refine lv_iload_n hx hb dX0_findValue_1 rfl (lv_at hl 1 rfl) ?_
  refine lv_iconst (v := 0) hx hb dX0_findValue_2 (by decide) ?_
  refine lv_bipush (v := 100) hx hb dX0_findValue_3 (by decide) ?_
  refine lv_iconst (v := 0) hx hb dX0_findValue_5 (by decide) ?_
  refine x_topi (y := nI 0) (rfl) ?_
  refine g_calli ⟨hx, hb, hml, hown, hw⟩ (c_search l dC dI ad cz ci cj c0 fO fA fB fT hg hnd 60 H.size sv fC rs dk ds fL fl fh n 0 0 100 hre (by simp only [grk]; omega) (by simp only [grk]; omega) (by decide) hbd) (cwV 4 hw gv_X0_X0_search rfl rfl rfl (by decide +kernel) ⟨Nat.le_of_ble_eq_true rfl, Nat.le_of_ble_eq_true rfl⟩) hK hP hD hS hA (ci := 0) (q0 := 0) rfl rfl rfl hl.1 rfl (Nat.le_of_ble_eq_true rfl) dX0_findValue_6 ⟨Nat.zero_le _, Nat.zero_le _⟩ (fun r_1 un H locs hq hP hD hS => ?_)
  obtain ⟨fl2, fh2, hbd2, hok, rfl⟩ := hq
  have hP : va_P (dC, dI) vwCl (gw ad cz ci cj ((nI c0), fO, fA, fB, fT, sv, fC, rs, dk, ds, fL, fl2, fh2)) H := hP
  have hD : va_D Ar (gw ad cz ci cj ((nI c0), fO, fA, fB, fT, sv, fC, rs, dk, ds, fL, fl2, fh2)) := hD
  exact W.iret (v := r_1) hx hb hr (fun t ht hW => ⟨⟨r_1, ((nI c0), fO, fA, fB, fT, sv, fC, rs, dk, ds, fL, fl2, fh2), rfl, (⟨fl2, fh2, hbd2, k_exact hok (g_val_b hg hnd hre), rfl⟩), (by rw [ht]; exact hP), va_K.moved hW.alike hK, hD⟩, hS.F ht⟩) hS.2.2 dX0_findValue_9
set_option maxHeartbeats 4000000 in
set_option maxRecDepth 100000 in
theorem lp_best {p : Program} {l : Launch} {e : Env} {R : Room} {s : State} {m : MethodId} {args : Array Value} {below : List Frame} {meth : Method} {c : Code} {Q : State → Prop} {dC : Nat → ClassId} {dI : Nat → Nat → Nat} {ad : Nat → Nat} {cz ci cj : ClassId} {Ar : Nat → Prop}  (hx : p.tables.exec = Jvm.exec) (hb : c.code = cX0_findBest) (hml : c.maxLocals = 5) (hown : s.vm.findClass "GameGraph" = some m.cls) (hw : ∀ w ∈ wAll, w.before args s = true) (hK : va_K (dC, dI) vwCl (gty cz ci cj) s) (hA : ∀ q, s.heap.size ≤ q → Ar q) (hR1 : 121 ≤ R.frames) (hR2 : 3385 ≤ R.locals) (fO fA fB fT : Nat → Int32) (sv : Int32) (fC : Nat → Int64) (rs : Int64) (dk ds : Int32) (fL : Nat → Int32) (n : Nat) (c0 : Nat) (hg : g_ok c0 fO fA fB fT) (hnd : g_nd c0 fO fA fB fT) (hre : gre c0 fO fA fB fT n) (v : Int32) (hv : v.toInt = gval c0 fO fA fB fT n)
    (kx : ∀ (fl2 : Nat → Int32) (fh2 : Nat → Int32), (∀ i, i < gmv fO fA fB n → gval c0 fO fA fB fT (gtg fT n i) ≠ gval c0 fO fA fB fT n) → (g_bd c0 fO fA fB fT fl2 fh2) → ∀ (H : Heap) (locs : List Loc), va_P (dC, dI) vwCl (gw ad cz ci cj ((nI c0), fO, fA, fB, fT, sv, fC, rs, dk, ds, fL, fl2, fh2)) H → va_D Ar (gw ad cz ci cj ((nI c0), fO, fA, fB, fT, sv, fC, rs, dk, ds, fL, fl2, fh2)) → va_S Ar s.heap H locs → ∀ (ls : Array Slot), lv_has ls 5 [(0, .ref (ad 0))] → W p l e R s m args below meth c H locs 0 0 Q (F0 m 52 ls []))
    (ky : ∀ (j : Nat) (fl2 : Nat → Int32) (fh2 : Nat → Int32), j < gmv fO fA fB n → gval c0 fO fA fB fT (gtg fT n j) = gval c0 fO fA fB fT n → (∀ i, i < j → gval c0 fO fA fB fT (gtg fT n i) ≠ gval c0 fO fA fB fT n) → (g_bd c0 fO fA fB fT fl2 fh2) → ∀ (H : Heap) (locs : List Loc), va_P (dC, dI) vwCl (gw ad cz ci cj ((nI c0), fO, fA, fB, fT, sv, fC, rs, dk, ds, fL, fl2, fh2)) H → va_D Ar (gw ad cz ci cj ((nI c0), fO, fA, fB, fT, sv, fC, rs, dk, ds, fL, fl2, fh2)) → va_S Ar s.heap H locs → ∀ (ls : Array Slot), lv_has ls 5 [(4, .int (nI j))] → W p l e R s m args below meth c H locs 0 0 Q (F0 m 43 ls [])) :
    ∀ (fuel : Nat) (j : Nat) (fl2 : Nat → Int32) (fh2 : Nat → Int32), gmv fO fA fB n + 1 ≤ j + fuel → j ≤ gmv fO fA fB n → (∀ i, i < j → gval c0 fO fA fB fT (gtg fT n i) ≠ gval c0 fO fA fB fT n) → (g_bd c0 fO fA fB fT fl2 fh2) → ∀ (H : Heap) (locs : List Loc), va_P (dC, dI) vwCl (gw ad cz ci cj ((nI c0), fO, fA, fB, fT, sv, fC, rs, dk, ds, fL, fl2, fh2)) H → va_D Ar (gw ad cz ci cj ((nI c0), fO, fA, fB, fT, sv, fC, rs, dk, ds, fL, fl2, fh2)) → va_S Ar s.heap H locs → ∀ (ls : Array Slot), lv_has ls 5 [(0, .ref (ad 0)), (1, .int (nI n)), (2, .int v), (3, .int (nI (gmv fO fA fB n))), (4, .int (nI j))] → W p l e R s m args below meth c H locs 0 0 Q (F0 m 15 ls []) := by
  intro fuel
  induction fuel with
  | zero => intro j fl2 fh2 hfu hj hI hbd; exact absurd hfu (by omega)
  | succ fuel ih =>
    intro j fl2 fh2 hfu hj hI hbd H locs hP hD hS ls hl
    have h60 := hg.2.1
    have hnl := s_re_lt (g_sok hg) hre
    have h12 := (g_mvI hg hnl).2
    have hvb := g_val_b hg hnd hre
    have hpm := k_pm (v := v) (by omega) (by omega)
    refine lv_iload hx hb dX0_findBest_15 (lv_at hl 4 rfl) ?_
    refine lv_iload_n hx hb dX0_findBest_17 rfl (lv_at hl 3 rfl) ?_
    refine lv_icmp_ge (tgt := 52) hx hb dX0_findBest_18 (by decide) (fun c_1 => ?_) (fun c_1 => ?_)
    · exact kx fl2 fh2 (by rw [show j = gmv fO fA fB n from (k_eq hj c_1 (by omega)).symm] at hI; exact hI) hbd _ _ hP hD hS _ (lv_sub hl [0] rfl)
    · have hlt : j < gmv fO fA fB n := k_lt c_1 (by omega)
      refine lv_aload_n hx hb dX0_findBest_21 rfl (lv_at hl 0 rfl) ?_
      refine lv_aload_n hx hb dX0_findBest_22 rfl (lv_at hl 0 rfl) ?_
      refine lv_iload_n hx hb dX0_findBest_23 rfl (lv_at hl 1 rfl) ?_
      refine lv_iload hx hb dX0_findBest_24 (lv_at hl 4 rfl) ?_
      refine g_calli ⟨hx, hb, hml, hown, hw⟩ (c_X0_target l dC dI ad cz ci cj H.size (nI c0) fO fA fB fT sv fC rs dk ds fL fl2 fh2 n j (by omega) (by omega)) (cwV 2 hw gv_X0_X0_target rfl rfl rfl (by decide +kernel) ⟨Nat.le_trans (Nat.le_of_ble_eq_true rfl) hR1, Nat.le_trans (Nat.le_of_ble_eq_true rfl) hR2⟩) hK hP hD hS hA (ci := 0) (q0 := 0) rfl rfl rfl hl.1 rfl (Nat.le_of_ble_eq_true rfl) dX0_findBest_26 ⟨Nat.zero_le _, Nat.zero_le _⟩ (fun rb_2 un H locs hq hP hD hS => ?_)
      obtain ⟨rfl, hq⟩ := hq
      have hP : va_P (dC, dI) vwCl (gw ad cz ci cj ((nI c0), fO, fA, fB, fT, sv, fC, rs, dk, ds, fL, fl2, fh2)) H := hP
      have hD : va_D Ar (gw ad cz ci cj ((nI c0), fO, fA, fB, fT, sv, fC, rs, dk, ds, fL, fl2, fh2)) := hD
      have ht := g_tgI hg hnl (j := j) (by omega)
      refine x_topi (y := nI (gtg fT n j)) (by rw [hq]; exact ht.1) ?_
      have hrc := s_re_ed (g_sok hg) hre hlt
      have hkc := s_rk_c (g_sok hg) hnd.2 hrc
      refine lv_iload_n hx hb dX0_findBest_29 rfl (lv_at hl 2 rfl) ?_
      refine lv_iconst (v := 1) hx hb dX0_findBest_30 (by decide) ?_
      refine lv_isub hx hb dX0_findBest_31 ?_
      refine lv_iload_n hx hb dX0_findBest_32 rfl (lv_at hl 2 rfl) ?_
      refine lv_iconst (v := 1) hx hb dX0_findBest_33 (by decide) ?_
      refine lv_iadd hx hb dX0_findBest_34 ?_
      refine lv_iconst (v := 0) hx hb dX0_findBest_35 (by decide) ?_
      refine x_topi (y := nI 0) (rfl) ?_
      refine g_calli ⟨hx, hb, hml, hown, hw⟩ (c_search l dC dI ad cz ci cj c0 fO fA fB fT hg hnd 60 H.size sv fC rs dk ds fL fl2 fh2 (gtg fT n j) 0 (v - 1) (v + 1) hrc (by simp only [grk]; omega) (by simp only [grk]; omega) (by omega) hbd) (cwV 4 hw gv_X0_X0_search rfl rfl rfl (by decide +kernel) ⟨Nat.le_trans (Nat.le_of_ble_eq_true rfl) hR1, Nat.le_trans (Nat.le_of_ble_eq_true rfl) hR2⟩) hK hP hD hS hA (ci := 0) (q0 := 0) rfl rfl rfl hl.1 rfl (Nat.le_of_ble_eq_true rfl) dX0_findBest_36 ⟨Nat.zero_le _, Nat.zero_le _⟩ (fun rb_3 un H locs hq hP hD hS => ?_)
      obtain ⟨fl3, fh3, hbd3, hok, rfl⟩ := hq
      have hP : va_P (dC, dI) vwCl (gw ad cz ci cj ((nI c0), fO, fA, fB, fT, sv, fC, rs, dk, ds, fL, fl3, fh3)) H := hP
      have hD : va_D Ar (gw ad cz ci cj ((nI c0), fO, fA, fB, fT, sv, fC, rs, dk, ds, fL, fl3, fh3)) := hD
      rw [hpm.1, hpm.2] at hok
      refine lv_iload_n hx hb dX0_findBest_39 rfl (lv_at hl 2 rfl) ?_
      refine lv_icmp_ne (tgt := 46) hx hb dX0_findBest_40 (by decide) (fun cb_4 => ?_) (fun cb_4 => ?_)
      · have hne : gval c0 fO fA fB fT (gtg fT n j) ≠ gval c0 fO fA fB fT n := fun e => cb_4 (Int32.toInt_inj.mp (by rw [hok.2.1 (by omega) (by omega)]; omega))
        refine lv_iinc (v := (nI (j + 1))) (lv' := [(4, .int (nI (j + 1))), (0, .ref (ad 0)), (1, .int (nI n)), (2, .int v), (3, .int (nI (gmv fO fA fB n)))]) hx hb dX0_findBest_46 hl (k := 4) rfl (nI_1 j) (by decide) rfl (fun ls hl => ?_)
        refine lv_goto (tgt := 15) hx hb dX0_findBest_49 (by decide) ?_
        exact ih (j + 1) fl3 fh3 (by omega) (by omega) (fun i hi => by rcases Nat.lt_or_ge i j with q | q; exact hI i q; have e : i = j := (by omega); rw [e]; exact hne) hbd3 _ _ hP hD hS _ (lv_sub hl [1, 2, 3, 4, 0] rfl)
      · have e2 := congrArg Int32.toInt cb_4
        exact ky j fl3 fh3 hlt (by obtain ⟨a1, a2, a3⟩ := hok; omega) hI hbd3 _ _ hP hD hS _ (lv_sub hl [4] rfl)
set_option maxHeartbeats 4000000 in
set_option maxRecDepth 100000 in
theorem c_X0_findBest (l : Launch) (dC : Nat → ClassId) (dI : Nat → Nat → Nat) (ad : Nat → Nat) (cz ci cj : ClassId) (sz : Nat) (cnt : Int32) (fO : Nat → Int32) (fA : Nat → Int32) (fB : Nat → Int32) (fT : Nat → Int32) (sv : Int32) (fC : Nat → Int64) (rs : Int64) (dk : Int32) (ds : Int32) (fL : Nat → Int32) (fl : Nat → Int32) (fh : Nat → Int32) (n : Nat) (c0 : Nat) (hg : g_ok c0 fO fA fB fT) (hnd : g_nd c0 fO fA fB fT) (hre : gre c0 fO fA fB fT n) (hbd : g_bd c0 fO fA fB fT fl fh) : Met l yX0_findBest wX0_findBest ({ frames := 122, cells := 0, slots := 0, locals := 3406 }) (va_Pc [.ref (ad 0), .int (nI n)] (g_Pre (dC, dI) vwCl (gty cz ci cj) (gw ad cz ci cj ((nI c0), fO, fA, fB, fT, sv, fC, rs, dk, ds, fL, fl, fh)) sz)) (va_Qi (fun (r : Int32) (u : GS) => ∃ fl2 fh2 : Nat → Int32, g_bd c0 fO fA fB fT fl2 fh2 ∧ ((∃ j, j < gmv fO fA fB n ∧ gval c0 fO fA fB fT (gtg fT n j) = gval c0 fO fA fB fT n ∧ (∀ i, i < j → gval c0 fO fA fB fT (gtg fT n i) ≠ gval c0 fO fA fB fT n) ∧ r = nI j) ∨ ((∀ i, i < gmv fO fA fB n → gval c0 fO fA fB fT (gtg fT n i) ≠ gval c0 fO fA fB fT n) ∧ r = -1)) ∧ u = ((nI c0), fO, fA, fB, fT, sv, fC, rs, dk, ds, fL, fl2, fh2)) (g_At (dC, dI) vwCl (gty cz ci cj) (va_A (gw ad cz ci cj ((nI c0), fO, fA, fB, fT, sv, fC, rs, dk, ds, fL, fl, fh)) sz) (gw ad cz ci cj)) (va_A (gw ad cz ci cj ((nI c0), fO, fA, fB, fT, sv, fC, rs, dk, ds, fL, fl, fh)) sz)) 0 0 (va_A (gw ad cz ci cj ((nI c0), fO, fA, fB, fT, sv, fC, rs, dk, ds, fL, fl, fh)) sz) := by
  refine Met.ofW (cc := cX0_findBest) (maxL := 5) (ret := some .int) (by decide) rfl ?_
  intro p e s m args below meth c s₁ Bd hml hv
  obtain ⟨rfl, hsz, hP, hK, hD0⟩ := hv
  have hx := Bd.exec
  have hb := Bd.bytes
  have hr := Bd.returns
  have hts := atoms_spec (ws := wX0_findBest) Bd.pre
  have hw : ∀ w ∈ wAll, w.before _ s = true := fun w h => hts w (List.mem_cons_of_mem _ h)
  have hown : s.vm.findClass "GameGraph" = some m.cls := findClass_of_methodNamed Bd.named
  have hlocks := Bd.notSynchronized
  subst hsz
  have hD := hD0.self (sz := s.heap.size)
  generalize hAe : va_A (gw ad cz ci cj ((nI c0), fO, fA, fB, fT, sv, fC, rs, dk, ds, fL, fl, fh)) s.heap.size = Ar at hD ⊢
  have hA : ∀ q : Nat, s.heap.size ≤ q → Ar q := fun q h => by rw [← hAe]; exact Or.inr h
  obtain ⟨H, hH⟩ : ∃ H : Heap, H = s.heap := ⟨_, rfl⟩
  have hS : va_S Ar s.heap H [] := by rw [hH]; exact va_S.rf
  have hP : va_P (dC, dI) vwCl (gw ad cz ci cj ((nI c0), fO, fA, fB, fT, sv, fC, rs, dk, ds, fL, fl, fh)) H := by rw [hH]; exact hP
  rw [← hH]
  have hl := lv_entry ([.ref (ad 0), .int (nI n)]) (n := 5) (Nat.le_of_ble_eq_true rfl)
  rw [lg_entry_eq]
  generalize (lg_sl ([.ref (ad 0), .int (nI n)]) ++ List.replicate (5 - (lg_sl ([.ref (ad 0), .int (nI n)])).length) Slot.unset).toArray = ls at hl ⊢
  have hl : lv_has ls 5 [(0, .ref (ad 0)), (1, .int (nI n))] := hl
  have h60 := hg.2.1
  have hnl := s_re_lt (g_sok hg) hre
  refine lv_aload_n hx hb dX0_findBest_0 rfl (lv_at hl 0 rfl) ?_
  refine lv_iload_n hx hb dX0_findBest_1 rfl (lv_at hl 1 rfl) ?_
  refine g_calli ⟨hx, hb, hml, hown, hw⟩ (c_X0_findValue l dC dI ad cz ci cj H.size (nI c0) fO fA fB fT sv fC rs dk ds fL fl fh n c0 hg hnd hre hbd) (cwV 1 hw gv_X0_X0_findValue rfl rfl rfl (by decide +kernel) ⟨Nat.le_of_ble_eq_true rfl, Nat.le_of_ble_eq_true rfl⟩) hK hP hD hS hA (ci := 0) (q0 := 0) rfl rfl rfl hl.1 rfl (Nat.le_of_ble_eq_true rfl) dX0_findBest_2 ⟨Nat.zero_le _, Nat.zero_le _⟩ (fun r_1 un H locs hq hP hD hS => ?_)
  obtain ⟨fl2, fh2, hbd2, hv, rfl⟩ := hq
  have hP : va_P (dC, dI) vwCl (gw ad cz ci cj ((nI c0), fO, fA, fB, fT, sv, fC, rs, dk, ds, fL, fl2, fh2)) H := hP
  have hD : va_D Ar (gw ad cz ci cj ((nI c0), fO, fA, fB, fT, sv, fC, rs, dk, ds, fL, fl2, fh2)) := hD
  refine lv_istore_n (lv' := [(2, .int r_1), (0, .ref (ad 0)), (1, .int (nI n))]) hx hb dX0_findBest_5 rfl hl (by decide) rfl (fun ls hl => ?_)
  refine lv_aload_n hx hb dX0_findBest_6 rfl (lv_at hl 1 rfl) ?_
  refine lv_iload_n hx hb dX0_findBest_7 rfl (lv_at hl 2 rfl) ?_
  refine g_calli ⟨hx, hb, hml, hown, hw⟩ (c_X0_jointMoves l dC dI ad cz ci cj H.size (nI c0) fO fA fB fT sv fC rs dk ds fL fl2 fh2 n (by omega)) (cwV 1 hw gv_X0_X0_jointMoves rfl rfl rfl (by decide +kernel) ⟨Nat.le_of_ble_eq_true rfl, Nat.le_of_ble_eq_true rfl⟩) hK hP hD hS hA (ci := 0) (q0 := 0) rfl rfl rfl hl.1 rfl (Nat.le_of_ble_eq_true rfl) dX0_findBest_8 ⟨Nat.zero_le _, Nat.zero_le _⟩ (fun r_2 un H locs hq hP hD hS => ?_)
  obtain ⟨rfl, hq⟩ := hq
  have hP : va_P (dC, dI) vwCl (gw ad cz ci cj ((nI c0), fO, fA, fB, fT, sv, fC, rs, dk, ds, fL, fl2, fh2)) H := hP
  have hD : va_D Ar (gw ad cz ci cj ((nI c0), fO, fA, fB, fT, sv, fC, rs, dk, ds, fL, fl2, fh2)) := hD
  refine x_topi (y := nI (gmv fO fA fB n)) (by rw [hq]; exact (g_mvI hg hnl).1) ?_
  refine lv_istore_n (lv' := [(3, .int (nI (gmv fO fA fB n))), (2, .int r_1), (0, .ref (ad 0)), (1, .int (nI n))]) hx hb dX0_findBest_11 rfl hl (by decide) rfl (fun ls hl => ?_)
  refine lv_iconst (v := 0) hx hb dX0_findBest_12 (by decide) ?_
  refine x_topi (y := nI 0) (rfl) ?_
  refine lv_istore (lv' := [(4, .int (nI 0)), (3, .int (nI (gmv fO fA fB n))), (2, .int r_1), (0, .ref (ad 0)), (1, .int (nI n))]) hx hb dX0_findBest_13 hl (by decide) rfl (fun ls hl => ?_)
  refine lp_best (dC := dC) (dI := dI) (ad := ad) (cz := cz) (ci := ci) (cj := cj) (Ar := Ar) hx hb hml hown hw hK hA (Nat.le_of_ble_eq_true rfl) (Nat.le_of_ble_eq_true rfl) fO fA fB fT sv fC rs dk ds fL n c0 hg hnd hre r_1 hv ?_ ?_ (gmv fO fA fB n + 1) 0 fl2 fh2 (by omega) (by omega) (fun i hi => absurd hi (Nat.not_lt_zero _)) hbd2 _ _ hP hD hS _ (lv_sub hl [3, 4, 2, 1, 0] rfl)
  · intro fl2 fh2 hI hbd H locs hP hD hS ls hl
    refine lv_iconst (v := -1) hx hb dX0_findBest_52 (by decide) ?_
    exact W.iret (v := (-1)) hx hb hr (fun t ht hW => ⟨⟨(-1), ((nI c0), fO, fA, fB, fT, sv, fC, rs, dk, ds, fL, fl2, fh2), rfl, (⟨fl2, fh2, hbd, Or.inr ⟨hI, rfl⟩, rfl⟩), (by rw [ht]; exact hP), va_K.moved hW.alike hK, hD⟩, hS.F ht⟩) hS.2.2 dX0_findBest_53
  · intro j fl2 fh2 hlt he hI hbd H locs hP hD hS ls hl
    refine lv_iload hx hb dX0_findBest_43 (lv_at hl 0 rfl) ?_
    exact W.iret (v := (nI j)) hx hb hr (fun t ht hW => ⟨⟨(nI j), ((nI c0), fO, fA, fB, fT, sv, fC, rs, dk, ds, fL, fl2, fh2), rfl, (⟨fl2, fh2, hbd, Or.inl ⟨j, hlt, he, hI, rfl⟩, rfl⟩), (by rw [ht]; exact hP), va_K.moved hW.alike hK, hD⟩, hS.F ht⟩) hS.2.2 dX0_findBest_45
set_option maxHeartbeats 4000000 in
set_option maxRecDepth 100000 in
theorem c_X0_value (l : Launch) (hl0 : l.stackTraces = false) (dC : Nat → ClassId) (dI : Nat → Nat → Nat) (ad : Nat → Nat) (cz ci cj : ClassId) (sz : Nat) (cnt : Int32) (fO : Nat → Int32) (fA : Nat → Int32) (fB : Nat → Int32) (fT : Nat → Int32) (sv : Int32) (fC : Nat → Int64) (rs : Int64) (dk : Int32) (ds : Int32) (fL : Nat → Int32) (fl : Nat → Int32) (fh : Nat → Int32) (n : Int32) (c0 : Nat) (hg : g_ok c0 fO fA fB fT) (hsv : sv = 0 ∨ (sv = 1 ∧ g_sv c0 fO fA fB fT rs dk ds fL fl fh)) : vx_Met l yX0_value wX0_value ({ frames := 122, cells := 1, slots := 6, locals := 3406 }) (va_Pc [.ref (ad 0), .int n] (x_Pre (dC, dI) vwCl (gty cz ci cj) (gw ad cz ci cj ((nI c0), fO, fA, fB, fT, sv, fC, rs, dk, ds, fL, fl, fh)) sz)) (va_Qi (fun (r : Int32) (u : GS) => g_nd c0 fO fA fB fT ∧ (∃ ds2, g_SV c0 fO fA fB fT 0 ds2 u) ∧ ∃ k, k < c0 ∧ n = nI k ∧ gre c0 fO fA fB fT k ∧ r.toInt = gval c0 fO fA fB fT k) (g_At (dC, dI) vwCl (gty cz ci cj) (va_A (gw ad cz ci cj ((nI c0), fO, fA, fB, fT, sv, fC, rs, dk, ds, fL, fl, fh)) sz) (gw ad cz ci cj)) (va_A (gw ad cz ci cj ((nI c0), fO, fA, fB, fT, sv, fC, rs, dk, ds, fL, fl, fh)) sz)) (x_XC (dC, dI) vwCl (gty cz ci cj) (va_A (gw ad cz ci cj ((nI c0), fO, fA, fB, fT, sv, fC, rs, dk, ds, fL, fl, fh)) sz) (gw ad cz ci cj) (fun (E : String) (u : GS) => (E = "java/lang/IllegalStateException" ∧ ∃ dk2 ds2, dk2 ≠ 0 ∧ g_SV c0 fO fA fB fT dk2 ds2 u) ∨ (E = "java/lang/IndexOutOfBoundsException" ∧ (∃ ds2, g_SV c0 fO fA fB fT 0 ds2 u) ∧ ∀ k, k < c0 → n = nI k → ¬ gre c0 fO fA fB fT k))) 1 6 (va_A (gw ad cz ci cj ((nI c0), fO, fA, fB, fT, sv, fC, rs, dk, ds, fL, fl, fh)) sz) := by
  refine vx_ofW (cc := cX0_value) (maxL := 2) (ret := some .int) (by decide) rfl ?_
  intro p e s m args below meth c s₁ Bd hml htab hv
  obtain ⟨rfl, hsz, hP, hK, hD0, hE⟩ := hv
  have hx := Bd.exec
  have hb := Bd.bytes
  have hr := Bd.returns
  have hts := atoms_spec (ws := wX0_value) Bd.pre
  have hw : ∀ w ∈ wAll, w.before _ s = true := fun w h => hts w (List.mem_cons_of_mem _ h)
  have hown : s.vm.findClass "GameGraph" = some m.cls := findClass_of_methodNamed Bd.named
  have hlocks := Bd.notSynchronized
  subst hsz
  have hD := hD0.self (sz := s.heap.size)
  generalize hAe : va_A (gw ad cz ci cj ((nI c0), fO, fA, fB, fT, sv, fC, rs, dk, ds, fL, fl, fh)) s.heap.size = Ar at hD hE ⊢
  have hA : ∀ q : Nat, s.heap.size ≤ q → Ar q := fun q h => by rw [← hAe]; exact Or.inr h
  obtain ⟨H, hH⟩ : ∃ H : Heap, H = s.heap := ⟨_, rfl⟩
  have hS : va_S Ar s.heap H [] := by rw [hH]; exact va_S.rf
  have hP : va_P (dC, dI) vwCl (gw ad cz ci cj ((nI c0), fO, fA, fB, fT, sv, fC, rs, dk, ds, fL, fl, fh)) H := by rw [hH]; exact hP
  rw [← hH]
  have hl := lv_entry ([.ref (ad 0), .int n]) (n := 2) (Nat.le_of_ble_eq_true rfl)
  rw [lg_entry_eq]
  generalize (lg_sl ([.ref (ad 0), .int n]) ++ List.replicate (2 - (lg_sl ([.ref (ad 0), .int n])).length) Slot.unset).toArray = ls at hl ⊢
  have hl : lv_has ls 2 [(0, .ref (ad 0)), (1, .int n)] := hl
  refine lv_aload_n hx hb dX0_value_0 rfl (lv_at hl 0 rfl) ?_
  refine lv_iload_n hx hb dX0_value_1 rfl (lv_at hl 1 rfl) ?_
  refine g_callxv ⟨hx, hb, hml, hown, hw⟩ (c_X0_requireValued l hl0 dC dI ad cz ci cj H.size (nI c0) fO fA fB fT sv fC rs dk ds fL fl fh n c0 hg hsv) (cwV 1 hw gv_X0_X0_requireValued rfl rfl rfl (by decide +kernel) ⟨Nat.le_of_ble_eq_true rfl, Nat.le_of_ble_eq_true rfl⟩) hK hP hD hS hA hE (ci := 0) (q0 := 0) rfl rfl rfl hl.1 rfl (Nat.le_of_ble_eq_true rfl) dX0_value_2 ⟨Nat.le_of_ble_eq_true rfl, Nat.le_of_ble_eq_true rfl⟩ (fun  un H locs hq hP hD hS => ?_) (fun E ce q9 un H locs hq hP hD hS hce hcv hcl => ?_)
  · obtain ⟨⟨ds2, fC2, rs2, fL2, fl2, fh2, hs2, rfl⟩, k, hk, rfl, hre⟩ := hq
    have hP : va_P (dC, dI) vwCl (gw ad cz ci cj ((nI c0), fO, fA, fB, fT, 1, fC2, rs2, 0, ds2, fL2, fl2, fh2)) H := hP
    have hD : va_D Ar (gw ad cz ci cj ((nI c0), fO, fA, fB, fT, 1, fC2, rs2, 0, ds2, fL2, fl2, fh2)) := hD
    have hnd := g_nd_of hg hs2.2.1
    have h60 := hg.2.1
    refine lv_aload_n hx hb dX0_value_5 rfl (lv_at hl 0 rfl) ?_
    refine lv_iload_n hx hb dX0_value_6 rfl (lv_at hl 1 rfl) ?_
    refine g_calli ⟨hx, hb, hml, hown, hw⟩ (c_X0_findValue l dC dI ad cz ci cj H.size (nI c0) fO fA fB fT 1 fC2 rs2 0 ds2 fL2 fl2 fh2 k c0 hg hnd hre (hs2.2.2 rfl).2) (cwV 1 hw gv_X0_X0_findValue rfl rfl rfl (by decide +kernel) ⟨Nat.le_of_ble_eq_true rfl, Nat.le_of_ble_eq_true rfl⟩) hK hP hD hS hA (ci := 0) (q0 := 0) rfl rfl rfl hl.1 rfl (Nat.le_of_ble_eq_true rfl) dX0_value_7 ⟨Nat.le_of_ble_eq_true rfl, Nat.le_of_ble_eq_true rfl⟩ (fun ra_1 un H locs hq hP hD hS => ?_)
    obtain ⟨fl3, fh3, hb3, hv, rfl⟩ := hq
    have hP : va_P (dC, dI) vwCl (gw ad cz ci cj ((nI c0), fO, fA, fB, fT, 1, fC2, rs2, 0, ds2, fL2, fl3, fh3)) H := hP
    have hD : va_D Ar (gw ad cz ci cj ((nI c0), fO, fA, fB, fT, 1, fC2, rs2, 0, ds2, fL2, fl3, fh3)) := hD
    refine vx_ret (W.widen (k := 1) (n := 6) (Nat.le_of_ble_eq_true rfl) (Nat.le_of_ble_eq_true rfl) ?_)
    exact W.iret (v := ra_1) hx hb hr (fun t ht hW => ⟨⟨ra_1, ((nI c0), fO, fA, fB, fT, 1, fC2, rs2, 0, ds2, fL2, fl3, fh3), rfl, (⟨hnd, ⟨ds2, fC2, rs2, fL2, fl3, fh3, ⟨hs2.1, hs2.2.1, fun _ => ⟨(hs2.2.2 rfl).1, hb3⟩⟩, rfl⟩, k, hk, rfl, hre, hv⟩), (by rw [ht]; exact hP), va_K.moved hW.alike hK, hD⟩, hS.F ht⟩) hS.2.2 dX0_value_10
  · exact vx_out (fun x hx9 => (htab x hx9).elim) hlocks hce hcv hcl (fun t ht hal => ⟨un, trivial, ⟨hq, (by rw [ht]; exact hP), va_K.moved hal hK, hD⟩, hS.F ht⟩) hS.2.2 (Nat.le_of_ble_eq_true rfl) (Nat.le_of_ble_eq_true rfl)
set_option maxHeartbeats 4000000 in
set_option maxRecDepth 100000 in
theorem c_X0_best (l : Launch) (hl0 : l.stackTraces = false) (dC : Nat → ClassId) (dI : Nat → Nat → Nat) (ad : Nat → Nat) (cz ci cj : ClassId) (sz : Nat) (cnt : Int32) (fO : Nat → Int32) (fA : Nat → Int32) (fB : Nat → Int32) (fT : Nat → Int32) (sv : Int32) (fC : Nat → Int64) (rs : Int64) (dk : Int32) (ds : Int32) (fL : Nat → Int32) (fl : Nat → Int32) (fh : Nat → Int32) (n : Int32) (c0 : Nat) (hg : g_ok c0 fO fA fB fT) (hsv : sv = 0 ∨ (sv = 1 ∧ g_sv c0 fO fA fB fT rs dk ds fL fl fh)) : vx_Met l yX0_best wX0_best ({ frames := 123, cells := 1, slots := 6, locals := 3430 }) (va_Pc [.ref (ad 0), .int n] (x_Pre (dC, dI) vwCl (gty cz ci cj) (gw ad cz ci cj ((nI c0), fO, fA, fB, fT, sv, fC, rs, dk, ds, fL, fl, fh)) sz)) (va_Qi (fun (r : Int32) (u : GS) => g_nd c0 fO fA fB fT ∧ (∃ ds2, g_SV c0 fO fA fB fT 0 ds2 u) ∧ ∃ k, k < c0 ∧ n = nI k ∧ gre c0 fO fA fB fT k ∧ ((∃ j, j < gmv fO fA fB k ∧ gval c0 fO fA fB fT (gtg fT k j) = gval c0 fO fA fB fT k ∧ (∀ i, i < j → gval c0 fO fA fB fT (gtg fT k i) ≠ gval c0 fO fA fB fT k) ∧ r = nI j) ∨ ((∀ i, i < gmv fO fA fB k → gval c0 fO fA fB fT (gtg fT k i) ≠ gval c0 fO fA fB fT k) ∧ r = -1))) (g_At (dC, dI) vwCl (gty cz ci cj) (va_A (gw ad cz ci cj ((nI c0), fO, fA, fB, fT, sv, fC, rs, dk, ds, fL, fl, fh)) sz) (gw ad cz ci cj)) (va_A (gw ad cz ci cj ((nI c0), fO, fA, fB, fT, sv, fC, rs, dk, ds, fL, fl, fh)) sz)) (x_XC (dC, dI) vwCl (gty cz ci cj) (va_A (gw ad cz ci cj ((nI c0), fO, fA, fB, fT, sv, fC, rs, dk, ds, fL, fl, fh)) sz) (gw ad cz ci cj) (fun (E : String) (u : GS) => (E = "java/lang/IllegalStateException" ∧ ∃ dk2 ds2, dk2 ≠ 0 ∧ g_SV c0 fO fA fB fT dk2 ds2 u) ∨ (E = "java/lang/IndexOutOfBoundsException" ∧ (∃ ds2, g_SV c0 fO fA fB fT 0 ds2 u) ∧ ∀ k, k < c0 → n = nI k → ¬ gre c0 fO fA fB fT k))) 1 6 (va_A (gw ad cz ci cj ((nI c0), fO, fA, fB, fT, sv, fC, rs, dk, ds, fL, fl, fh)) sz) := by
  refine vx_ofW (cc := cX0_best) (maxL := 2) (ret := some .int) (by decide) rfl ?_
  intro p e s m args below meth c s₁ Bd hml htab hv
  obtain ⟨rfl, hsz, hP, hK, hD0, hE⟩ := hv
  have hx := Bd.exec
  have hb := Bd.bytes
  have hr := Bd.returns
  have hts := atoms_spec (ws := wX0_best) Bd.pre
  have hw : ∀ w ∈ wAll, w.before _ s = true := fun w h => hts w (List.mem_cons_of_mem _ h)
  have hown : s.vm.findClass "GameGraph" = some m.cls := findClass_of_methodNamed Bd.named
  have hlocks := Bd.notSynchronized
  subst hsz
  have hD := hD0.self (sz := s.heap.size)
  generalize hAe : va_A (gw ad cz ci cj ((nI c0), fO, fA, fB, fT, sv, fC, rs, dk, ds, fL, fl, fh)) s.heap.size = Ar at hD hE ⊢
  have hA : ∀ q : Nat, s.heap.size ≤ q → Ar q := fun q h => by rw [← hAe]; exact Or.inr h
  obtain ⟨H, hH⟩ : ∃ H : Heap, H = s.heap := ⟨_, rfl⟩
  have hS : va_S Ar s.heap H [] := by rw [hH]; exact va_S.rf
  have hP : va_P (dC, dI) vwCl (gw ad cz ci cj ((nI c0), fO, fA, fB, fT, sv, fC, rs, dk, ds, fL, fl, fh)) H := by rw [hH]; exact hP
  rw [← hH]
  have hl := lv_entry ([.ref (ad 0), .int n]) (n := 2) (Nat.le_of_ble_eq_true rfl)
  rw [lg_entry_eq]
  generalize (lg_sl ([.ref (ad 0), .int n]) ++ List.replicate (2 - (lg_sl ([.ref (ad 0), .int n])).length) Slot.unset).toArray = ls at hl ⊢
  have hl : lv_has ls 2 [(0, .ref (ad 0)), (1, .int n)] := hl
  refine lv_aload_n hx hb dX0_best_0 rfl (lv_at hl 0 rfl) ?_
  refine lv_iload_n hx hb dX0_best_1 rfl (lv_at hl 1 rfl) ?_
  refine g_callxv ⟨hx, hb, hml, hown, hw⟩ (c_X0_requireValued l hl0 dC dI ad cz ci cj H.size (nI c0) fO fA fB fT sv fC rs dk ds fL fl fh n c0 hg hsv) (cwV 1 hw gv_X0_X0_requireValued rfl rfl rfl (by decide +kernel) ⟨Nat.le_of_ble_eq_true rfl, Nat.le_of_ble_eq_true rfl⟩) hK hP hD hS hA hE (ci := 0) (q0 := 0) rfl rfl rfl hl.1 rfl (Nat.le_of_ble_eq_true rfl) dX0_best_2 ⟨Nat.le_of_ble_eq_true rfl, Nat.le_of_ble_eq_true rfl⟩ (fun  un H locs hq hP hD hS => ?_) (fun E ce q9 un H locs hq hP hD hS hce hcv hcl => ?_)
  · obtain ⟨⟨ds2, fC2, rs2, fL2, fl2, fh2, hs2, rfl⟩, k, hk, rfl, hre⟩ := hq
    have hP : va_P (dC, dI) vwCl (gw ad cz ci cj ((nI c0), fO, fA, fB, fT, 1, fC2, rs2, 0, ds2, fL2, fl2, fh2)) H := hP
    have hD : va_D Ar (gw ad cz ci cj ((nI c0), fO, fA, fB, fT, 1, fC2, rs2, 0, ds2, fL2, fl2, fh2)) := hD
    have hnd := g_nd_of hg hs2.2.1
    have h60 := hg.2.1
    refine lv_aload_n hx hb dX0_best_5 rfl (lv_at hl 0 rfl) ?_
    refine lv_iload_n hx hb dX0_best_6 rfl (lv_at hl 1 rfl) ?_
    refine g_calli ⟨hx, hb, hml, hown, hw⟩ (c_X0_findBest l dC dI ad cz ci cj H.size (nI c0) fO fA fB fT 1 fC2 rs2 0 ds2 fL2 fl2 fh2 k c0 hg hnd hre (hs2.2.2 rfl).2) (cwV 1 hw gv_X0_X0_findBest rfl rfl rfl (by decide +kernel) ⟨Nat.le_of_ble_eq_true rfl, Nat.le_of_ble_eq_true rfl⟩) hK hP hD hS hA (ci := 0) (q0 := 0) rfl rfl rfl hl.1 rfl (Nat.le_of_ble_eq_true rfl) dX0_best_7 ⟨Nat.le_of_ble_eq_true rfl, Nat.le_of_ble_eq_true rfl⟩ (fun ra_1 un H locs hq hP hD hS => ?_)
    obtain ⟨fl3, fh3, hb3, hv, rfl⟩ := hq
    have hP : va_P (dC, dI) vwCl (gw ad cz ci cj ((nI c0), fO, fA, fB, fT, 1, fC2, rs2, 0, ds2, fL2, fl3, fh3)) H := hP
    have hD : va_D Ar (gw ad cz ci cj ((nI c0), fO, fA, fB, fT, 1, fC2, rs2, 0, ds2, fL2, fl3, fh3)) := hD
    refine vx_ret (W.widen (k := 1) (n := 6) (Nat.le_of_ble_eq_true rfl) (Nat.le_of_ble_eq_true rfl) ?_)
    exact W.iret (v := ra_1) hx hb hr (fun t ht hW => ⟨⟨ra_1, ((nI c0), fO, fA, fB, fT, 1, fC2, rs2, 0, ds2, fL2, fl3, fh3), rfl, (⟨hnd, ⟨ds2, fC2, rs2, fL2, fl3, fh3, ⟨hs2.1, hs2.2.1, fun _ => ⟨(hs2.2.2 rfl).1, hb3⟩⟩, rfl⟩, k, hk, rfl, hre, hv⟩), (by rw [ht]; exact hP), va_K.moved hW.alike hK, hD⟩, hS.F ht⟩) hS.2.2 dX0_best_10
  · exact vx_out (fun x hx9 => (htab x hx9).elim) hlocks hce hcv hcl (fun t ht hal => ⟨un, trivial, ⟨hq, (by rw [ht]; exact hP), va_K.moved hal hK, hD⟩, hS.F ht⟩) hS.2.2 (Nat.le_of_ble_eq_true rfl) (Nat.le_of_ble_eq_true rfl)
set_option maxHeartbeats 4000000 in
set_option maxRecDepth 100000 in
theorem c_X0_length (l : Launch) (hl0 : l.stackTraces = false) (dC : Nat → ClassId) (dI : Nat → Nat → Nat) (ad : Nat → Nat) (cz ci cj : ClassId) (sz : Nat) (cnt : Int32) (fO : Nat → Int32) (fA : Nat → Int32) (fB : Nat → Int32) (fT : Nat → Int32) (sv : Int32) (fC : Nat → Int64) (rs : Int64) (dk : Int32) (ds : Int32) (fL : Nat → Int32) (fl : Nat → Int32) (fh : Nat → Int32) (n : Int32) (c0 : Nat) (hg : g_ok c0 fO fA fB fT) (hsv : sv = 0 ∨ (sv = 1 ∧ g_sv c0 fO fA fB fT rs dk ds fL fl fh)) : vx_Met l yX0_length wX0_length ({ frames := 7, cells := 1, slots := 6, locals := 111 }) (va_Pc [.ref (ad 0), .int n] (x_Pre (dC, dI) vwCl (gty cz ci cj) (gw ad cz ci cj ((nI c0), fO, fA, fB, fT, sv, fC, rs, dk, ds, fL, fl, fh)) sz)) (va_Qi (fun (r : Int32) (u : GS) => g_nd c0 fO fA fB fT ∧ (∃ ds2, g_SV c0 fO fA fB fT 0 ds2 u) ∧ ∃ k, k < c0 ∧ n = nI k ∧ gre c0 fO fA fB fT k ∧ r = nI (glen c0 fO fA fB fT k)) (g_At (dC, dI) vwCl (gty cz ci cj) (va_A (gw ad cz ci cj ((nI c0), fO, fA, fB, fT, sv, fC, rs, dk, ds, fL, fl, fh)) sz) (gw ad cz ci cj)) (va_A (gw ad cz ci cj ((nI c0), fO, fA, fB, fT, sv, fC, rs, dk, ds, fL, fl, fh)) sz)) (x_XC (dC, dI) vwCl (gty cz ci cj) (va_A (gw ad cz ci cj ((nI c0), fO, fA, fB, fT, sv, fC, rs, dk, ds, fL, fl, fh)) sz) (gw ad cz ci cj) (fun (E : String) (u : GS) => (E = "java/lang/IllegalStateException" ∧ ∃ dk2 ds2, dk2 ≠ 0 ∧ g_SV c0 fO fA fB fT dk2 ds2 u) ∨ (E = "java/lang/IndexOutOfBoundsException" ∧ (∃ ds2, g_SV c0 fO fA fB fT 0 ds2 u) ∧ ∀ k, k < c0 → n = nI k → ¬ gre c0 fO fA fB fT k))) 1 6 (va_A (gw ad cz ci cj ((nI c0), fO, fA, fB, fT, sv, fC, rs, dk, ds, fL, fl, fh)) sz) := by
  refine vx_ofW (cc := cX0_length) (maxL := 2) (ret := some .int) (by decide) rfl ?_
  intro p e s m args below meth c s₁ Bd hml htab hv
  obtain ⟨rfl, hsz, hP, hK, hD0, hE⟩ := hv
  have hx := Bd.exec
  have hb := Bd.bytes
  have hr := Bd.returns
  have hts := atoms_spec (ws := wX0_length) Bd.pre
  have hw : ∀ w ∈ wAll, w.before _ s = true := fun w h => hts w (List.mem_cons_of_mem _ h)
  have hown : s.vm.findClass "GameGraph" = some m.cls := findClass_of_methodNamed Bd.named
  have hlocks := Bd.notSynchronized
  subst hsz
  have hD := hD0.self (sz := s.heap.size)
  generalize hAe : va_A (gw ad cz ci cj ((nI c0), fO, fA, fB, fT, sv, fC, rs, dk, ds, fL, fl, fh)) s.heap.size = Ar at hD hE ⊢
  have hA : ∀ q : Nat, s.heap.size ≤ q → Ar q := fun q h => by rw [← hAe]; exact Or.inr h
  obtain ⟨H, hH⟩ : ∃ H : Heap, H = s.heap := ⟨_, rfl⟩
  have hS : va_S Ar s.heap H [] := by rw [hH]; exact va_S.rf
  have hP : va_P (dC, dI) vwCl (gw ad cz ci cj ((nI c0), fO, fA, fB, fT, sv, fC, rs, dk, ds, fL, fl, fh)) H := by rw [hH]; exact hP
  rw [← hH]
  have hl := lv_entry ([.ref (ad 0), .int n]) (n := 2) (Nat.le_of_ble_eq_true rfl)
  rw [lg_entry_eq]
  generalize (lg_sl ([.ref (ad 0), .int n]) ++ List.replicate (2 - (lg_sl ([.ref (ad 0), .int n])).length) Slot.unset).toArray = ls at hl ⊢
  have hl : lv_has ls 2 [(0, .ref (ad 0)), (1, .int n)] := hl
  refine lv_aload_n hx hb dX0_length_0 rfl (lv_at hl 0 rfl) ?_
  refine lv_iload_n hx hb dX0_length_1 rfl (lv_at hl 1 rfl) ?_
  refine g_callxv ⟨hx, hb, hml, hown, hw⟩ (c_X0_requireValued l hl0 dC dI ad cz ci cj H.size (nI c0) fO fA fB fT sv fC rs dk ds fL fl fh n c0 hg hsv) (cwV 1 hw gv_X0_X0_requireValued rfl rfl rfl (by decide +kernel) ⟨Nat.le_of_ble_eq_true rfl, Nat.le_of_ble_eq_true rfl⟩) hK hP hD hS hA hE (ci := 0) (q0 := 0) rfl rfl rfl hl.1 rfl (Nat.le_of_ble_eq_true rfl) dX0_length_2 ⟨Nat.le_of_ble_eq_true rfl, Nat.le_of_ble_eq_true rfl⟩ (fun  un H locs hq hP hD hS => ?_) (fun E ce q9 un H locs hq hP hD hS hce hcv hcl => ?_)
  · obtain ⟨⟨ds2, fC2, rs2, fL2, fl2, fh2, hs2, rfl⟩, k, hk, rfl, hre⟩ := hq
    have hP : va_P (dC, dI) vwCl (gw ad cz ci cj ((nI c0), fO, fA, fB, fT, 1, fC2, rs2, 0, ds2, fL2, fl2, fh2)) H := hP
    have hD : va_D Ar (gw ad cz ci cj ((nI c0), fO, fA, fB, fT, 1, fC2, rs2, 0, ds2, fL2, fl2, fh2)) := hD
    have hnd := g_nd_of hg hs2.2.1
    have h60 := hg.2.1
    refine lv_aload_n hx hb dX0_length_5 rfl (lv_at hl 0 rfl) ?_
    refine va_get (D := (dC, dI)) (ci := 0) (v := .ref (ad 6)) (C := RX0) (T := TX0) (N := 13) hx hb hw in_X0 hown hK hP 0 rfl rfl 10 (by decide) (hw _ m_1_28) (fun _ h9 => h9) rfl dX0_length_6 ?_
    refine lv_iload_n hx hb dX0_length_9 rfl (lv_at hl 1 rfl) ?_
    refine va_iald hx hb hK hP 6 1 rfl rfl (vp_in_nI (by omega) (by decide)) dX0_length_10 ?_
    refine x_topi (y := fL2 k) (by rw [nI_clamp (by omega)]) ?_
    refine vx_ret (W.widen (k := 1) (n := 6) (Nat.le_of_ble_eq_true rfl) (Nat.le_of_ble_eq_true rfl) ?_)
    exact W.iret (v := (fL2 k)) hx hb hr (fun t ht hW => ⟨⟨(fL2 k), ((nI c0), fO, fA, fB, fT, 1, fC2, rs2, 0, ds2, fL2, fl2, fh2), rfl, (⟨hnd, ⟨ds2, fC2, rs2, fL2, fl2, fh2, hs2, rfl⟩, k, hk, rfl, hre, (hs2.2.2 rfl).1 k hre⟩), (by rw [ht]; exact hP), va_K.moved hW.alike hK, hD⟩, hS.F ht⟩) hS.2.2 dX0_length_11
  · exact vx_out (fun x hx9 => (htab x hx9).elim) hlocks hce hcv hcl (fun t ht hal => ⟨un, trivial, ⟨hq, (by rw [ht]; exact hP), va_K.moved hal hK, hD⟩, hS.F ht⟩) hS.2.2 (Nat.le_of_ble_eq_true rfl) (Nat.le_of_ble_eq_true rfl)
