/-! The reference: defects (by tool/mdef.py). -/
set_option maxHeartbeats 4000000 in
set_option maxRecDepth 100000 in
theorem lm_def1 {p : Program} {l : Launch} {e : Env} {R : Room} {s : State} {m : MethodId} {args : Array Value} {below : List Frame} {meth : Method} {c : Code} {Q : State → Prop} {dC : Nat → ClassId} {dI : Nat → Nat → Nat} {ad : Nat → Nat} {cz ci cj : ClassId} {Ar : Nat → Prop}  (hx : p.tables.exec = Jvm.exec) (hb : c.code = cX1_defective) (hml : c.maxLocals = 2) (hown : s.vm.findClass "GameGraphModel" = some m.cls) (hw : ∀ w ∈ wAll, w.before args s = true) (hK : va_K (dC, dI) vwCl (gty cz ci cj) s) (hA : ∀ q, s.heap.size ≤ q → Ar q) (hR1 : 1 ≤ R.frames) (hR2 : 21 ≤ R.locals) (fO fG fH fM fN fT fR : Nat → Int32) (fF fK fV fE : Nat → Int32) (th : Int32) (sO sA sB sT : Nat → Int32) (c0 : Nat) (hg : g_ok c0 sO sA sB sT) (hm : m_rel c0 sO sA sB sT fO fG fH fM fN fT) (hR : ∀ m, m < c0 → ((¬ fR m = 0) ↔ gre c0 sO sA sB sT m))
    (kx : (∀ k, k < c0 → s_re c0 (gmv sO sA sB) (gtg sT) k → g_dn sO sA sB k = 0) → ∀ (H : Heap) (locs : List Loc), va_P (dC, dI) vwCl (mw ad cz ci cj ((nI c0), fO, fG, fH, fM, fN, fT, fR, fF, fK, fV, fE, th)) H → va_D Ar (mw ad cz ci cj ((nI c0), fO, fG, fH, fM, fN, fT, fR, fF, fK, fV, fE, th)) → va_S Ar s.heap H locs → ∀ (ls : Array Slot), lv_has ls 2 [(0, .ref (ad 0))] → W p l e R s m args below meth c H locs 0 0 Q (F0 m 39 ls []))
    (ky : ∀ (i : Nat), i < c0 → s_re c0 (gmv sO sA sB) (gtg sT) i → g_dn sO sA sB i ≠ 0 → (∀ k, k < i → s_re c0 (gmv sO sA sB) (gtg sT) k → g_dn sO sA sB k = 0) → ∀ (H : Heap) (locs : List Loc), va_P (dC, dI) vwCl (mw ad cz ci cj ((nI c0), fO, fG, fH, fM, fN, fT, fR, fF, fK, fV, fE, th)) H → va_D Ar (mw ad cz ci cj ((nI c0), fO, fG, fH, fM, fN, fT, fR, fF, fK, fV, fE, th)) → va_S Ar s.heap H locs → ∀ (ls : Array Slot), lv_has ls 2 [(1, .int (nI i))] → W p l e R s m args below meth c H locs 0 0 Q (F0 m 31 ls [])) :
    ∀ (fuel : Nat) (i : Nat), c0 + 1 ≤ i + fuel → i ≤ c0 → (∀ k, k < i → s_re c0 (gmv sO sA sB) (gtg sT) k → g_dn sO sA sB k = 0) → ∀ (H : Heap) (locs : List Loc), va_P (dC, dI) vwCl (mw ad cz ci cj ((nI c0), fO, fG, fH, fM, fN, fT, fR, fF, fK, fV, fE, th)) H → va_D Ar (mw ad cz ci cj ((nI c0), fO, fG, fH, fM, fN, fT, fR, fF, fK, fV, fE, th)) → va_S Ar s.heap H locs → ∀ (ls : Array Slot), lv_has ls 2 [(0, .ref (ad 0)), (1, .int (nI i))] → W p l e R s m args below meth c H locs 0 0 Q (F0 m 6 ls []) := by
  intro fuel
  induction fuel with
  | zero => intro i hfu hi hI; exact absurd hfu (by omega)
  | succ fuel ih =>
    intro i hfu hi hI H locs hP hD hS ls hl
    have h60 := hg.2.1
    refine lv_iload_n hx hb dX1_defective_6 rfl (lv_at hl 1 rfl) ?_
    refine lv_aload_n hx hb dX1_defective_7 rfl (lv_at hl 0 rfl) ?_
    refine va_get (D := (dC, dI)) (ci := 1) (v := .int (nI c0)) (C := RX1) (T := TX1) (N := 13) hx hb hw in_X1 hown hK hP 0 rfl rfl 0 (by decide) (hw _ m_8_24) (fun _ h9 => h9) rfl dX1_defective_8 ?_
    refine lv_icmp_ge (tgt := 39) hx hb dX1_defective_11 (by decide) (fun c_1 => ?_) (fun c_1 => ?_)
    · exact kx  (by rw [show i = c0 from (k_eq hi c_1 (by omega)).symm] at hI; exact hI) _ _ hP hD hS _ (lv_sub hl [0] rfl)
    · have hlt : i < c0 := k_lt c_1 (by omega)
      refine lv_aload_n hx hb dX1_defective_14 rfl (lv_at hl 0 rfl) ?_
      refine va_get (D := (dC, dI)) (ci := 1) (v := .ref (ad 7)) (C := RX1) (T := TX1) (N := 13) hx hb hw in_X1 hown hK hP 0 rfl rfl 7 (by decide) (hw _ m_8_31) (fun _ h9 => h9) rfl dX1_defective_15 ?_
      refine lv_iload_n hx hb dX1_defective_18 rfl (lv_at hl 1 rfl) ?_
      refine va_zald hx hb hK hP 7 0 rfl rfl (vp_in_nI (by omega) (by decide)) dX1_defective_19 ?_
      refine x_topi (y := fR i) (by rw [nI_clamp (by omega)]) ?_
      refine lv_if_eq (tgt := 33) hx hb dX1_defective_20 (by decide) (fun cb_2 => ?_) (fun cb_2 => ?_)
      · refine lv_iinc (v := (nI (i + 1))) (lv' := [(1, .int (nI (i + 1))), (0, .ref (ad 0))]) hx hb dX1_defective_33 hl (k := 1) rfl (nI_1 i) (by decide) rfl (fun ls hl => ?_)
        refine lv_goto (tgt := 6) hx hb dX1_defective_36 (by decide) ?_
        exact ih (i + 1) (by omega) (by omega) (fun k hk hr => by rcases Nat.lt_or_ge k i with q | q; exact hI k q hr; have e : k = i := (by omega); subst e; exact absurd cb_2 ((hR k hlt).mpr hr)) _ _ hP hD hS _ (lv_sub hl [1, 0] rfl)
      · have hre := (hR i hlt).mp cb_2
        refine lv_aload_n hx hb dX1_defective_23 rfl (lv_at hl 0 rfl) ?_
        refine lv_iload_n hx hb dX1_defective_24 rfl (lv_at hl 1 rfl) ?_
        refine g_calli ⟨hx, hb, hml, hown, hw⟩ (c_X1_own l dC dI ad cz ci cj H.size (nI c0) fO fG fH fM fN fT fR fF fK fV fE th i sO sA sB sT c0 hg hm hlt) (cwV 1 hw gv_X1_X1_own rfl rfl rfl (by decide +kernel) ⟨Nat.le_trans (Nat.le_of_ble_eq_true rfl) hR1, Nat.le_trans (Nat.le_of_ble_eq_true rfl) hR2⟩) hK hP hD hS hA (ci := 1) (q0 := 0) rfl rfl rfl hl.1 rfl (Nat.le_of_ble_eq_true rfl) dX1_defective_25 ⟨Nat.zero_le _, Nat.zero_le _⟩ (fun rbb_3 un H locs hq hP hD hS => ?_)
        obtain ⟨rfl, hq⟩ := hq
        have hP : va_P (dC, dI) vwCl (mw ad cz ci cj ((nI c0), fO, fG, fH, fM, fN, fT, fR, fF, fK, fV, fE, th)) H := hP
        have hD : va_D Ar (mw ad cz ci cj ((nI c0), fO, fG, fH, fM, fN, fT, fR, fF, fK, fV, fE, th)) := hD
        refine lv_if_eq (tgt := 33) hx hb dX1_defective_28 (by decide) (fun cbb_4 => ?_) (fun cbb_4 => ?_)
        · refine lv_iinc (v := (nI (i + 1))) (lv' := [(1, .int (nI (i + 1))), (0, .ref (ad 0))]) hx hb dX1_defective_33 hl (k := 1) rfl (nI_1 i) (by decide) rfl (fun ls hl => ?_)
          refine lv_goto (tgt := 6) hx hb dX1_defective_36 (by decide) ?_
          exact ih (i + 1) (by omega) (by omega) (fun k hk hr => by rcases Nat.lt_or_ge k i with q | q; exact hI k q hr; have e : k = i := (by omega); subst e; rw [← hq]; exact cbb_4) _ _ hP hD hS _ (lv_sub hl [1, 0] rfl)
        · exact ky i hlt hre (by rw [← hq]; exact cbb_4) hI _ _ hP hD hS _ (lv_sub hl [1] rfl)
set_option maxHeartbeats 4000000 in
set_option maxRecDepth 100000 in
theorem lm_def2 {p : Program} {l : Launch} {e : Env} {R : Room} {s : State} {m : MethodId} {args : Array Value} {below : List Frame} {meth : Method} {c : Code} {Q : State → Prop} {dC : Nat → ClassId} {dI : Nat → Nat → Nat} {ad : Nat → Nat} {cz ci cj : ClassId} {Ar : Nat → Prop}  (hx : p.tables.exec = Jvm.exec) (hb : c.code = cX1_defective) (hml : c.maxLocals = 2) (hown : s.vm.findClass "GameGraphModel" = some m.cls) (hw : ∀ w ∈ wAll, w.before args s = true) (hK : va_K (dC, dI) vwCl (gty cz ci cj) s) (hA : ∀ q, s.heap.size ≤ q → Ar q) (hR1 : 3 ≤ R.frames) (hR2 : 67 ≤ R.locals) (fO fG fH fM fN fT fR : Nat → Int32) (fK fV fE : Nat → Int32) (th : Int32) (sO sA sB sT : Nat → Int32) (c0 : Nat) (hg : g_ok c0 sO sA sB sT) (hm : m_rel c0 sO sA sB sT fO fG fH fM fN fT) (hR : ∀ m, m < c0 → ((¬ fR m = 0) ↔ gre c0 sO sA sB sT m))
    (kx : ∀ (fF2 : Nat → Int32), (∀ k, k < c0 → s_re c0 (gmv sO sA sB) (gtg sT) k → ¬ s_to c0 (gmv sO sA sB) (gtg sT) k k) → ∀ (H : Heap) (locs : List Loc), va_P (dC, dI) vwCl (mw ad cz ci cj ((nI c0), fO, fG, fH, fM, fN, fT, fR, fF2, fK, fV, fE, th)) H → va_D Ar (mw ad cz ci cj ((nI c0), fO, fG, fH, fM, fN, fT, fR, fF2, fK, fV, fE, th)) → va_S Ar s.heap H locs → ∀ (ls : Array Slot), lv_has ls 2 [(0, .ref (ad 0))] → W p l e R s m args below meth c H locs 0 0 Q (F0 m 74 ls []))
    (ky : ∀ (i : Nat) (fF2 : Nat → Int32), i < c0 → s_re c0 (gmv sO sA sB) (gtg sT) i → s_to c0 (gmv sO sA sB) (gtg sT) i i → (∀ k, k < i → s_re c0 (gmv sO sA sB) (gtg sT) k → ¬ s_to c0 (gmv sO sA sB) (gtg sT) k k) → ∀ (H : Heap) (locs : List Loc), va_P (dC, dI) vwCl (mw ad cz ci cj ((nI c0), fO, fG, fH, fM, fN, fT, fR, fF2, fK, fV, fE, th)) H → va_D Ar (mw ad cz ci cj ((nI c0), fO, fG, fH, fM, fN, fT, fR, fF2, fK, fV, fE, th)) → va_S Ar s.heap H locs → ∀ (ls : Array Slot), lv_has ls 2 [(1, .int (nI i))] → W p l e R s m args below meth c H locs 0 0 Q (F0 m 66 ls [])) :
    ∀ (fuel : Nat) (i : Nat) (fF2 : Nat → Int32), c0 + 1 ≤ i + fuel → i ≤ c0 → (∀ k, k < i → s_re c0 (gmv sO sA sB) (gtg sT) k → ¬ s_to c0 (gmv sO sA sB) (gtg sT) k k) → ∀ (H : Heap) (locs : List Loc), va_P (dC, dI) vwCl (mw ad cz ci cj ((nI c0), fO, fG, fH, fM, fN, fT, fR, fF2, fK, fV, fE, th)) H → va_D Ar (mw ad cz ci cj ((nI c0), fO, fG, fH, fM, fN, fT, fR, fF2, fK, fV, fE, th)) → va_S Ar s.heap H locs → ∀ (ls : Array Slot), lv_has ls 2 [(0, .ref (ad 0)), (1, .int (nI i))] → W p l e R s m args below meth c H locs 0 0 Q (F0 m 41 ls []) := by
  intro fuel
  induction fuel with
  | zero => intro i fF2 hfu hi hI; exact absurd hfu (by omega)
  | succ fuel ih =>
    intro i fF2 hfu hi hI H locs hP hD hS ls hl
    have h60 := hg.2.1
    refine lv_iload_n hx hb dX1_defective_41 rfl (lv_at hl 1 rfl) ?_
    refine lv_aload_n hx hb dX1_defective_42 rfl (lv_at hl 0 rfl) ?_
    refine va_get (D := (dC, dI)) (ci := 1) (v := .int (nI c0)) (C := RX1) (T := TX1) (N := 13) hx hb hw in_X1 hown hK hP 0 rfl rfl 0 (by decide) (hw _ m_8_24) (fun _ h9 => h9) rfl dX1_defective_43 ?_
    refine lv_icmp_ge (tgt := 74) hx hb dX1_defective_46 (by decide) (fun c_1 => ?_) (fun c_1 => ?_)
    · exact kx fF2 (by rw [show i = c0 from (k_eq hi c_1 (by omega)).symm] at hI; exact hI) _ _ hP hD hS _ (lv_sub hl [0] rfl)
    · have hlt : i < c0 := k_lt c_1 (by omega)
      refine lv_aload_n hx hb dX1_defective_49 rfl (lv_at hl 0 rfl) ?_
      refine va_get (D := (dC, dI)) (ci := 1) (v := .ref (ad 7)) (C := RX1) (T := TX1) (N := 13) hx hb hw in_X1 hown hK hP 0 rfl rfl 7 (by decide) (hw _ m_8_31) (fun _ h9 => h9) rfl dX1_defective_50 ?_
      refine lv_iload_n hx hb dX1_defective_53 rfl (lv_at hl 1 rfl) ?_
      refine va_zald hx hb hK hP 7 0 rfl rfl (vp_in_nI (by omega) (by decide)) dX1_defective_54 ?_
      refine x_topi (y := fR i) (by rw [nI_clamp (by omega)]) ?_
      refine lv_if_eq (tgt := 68) hx hb dX1_defective_55 (by decide) (fun cb_2 => ?_) (fun cb_2 => ?_)
      · refine lv_iinc (v := (nI (i + 1))) (lv' := [(1, .int (nI (i + 1))), (0, .ref (ad 0))]) hx hb dX1_defective_68 hl (k := 1) rfl (nI_1 i) (by decide) rfl (fun ls hl => ?_)
        refine lv_goto (tgt := 41) hx hb dX1_defective_71 (by decide) ?_
        exact ih (i + 1) fF2 (by omega) (by omega) (fun k hk hr => by rcases Nat.lt_or_ge k i with q | q; exact hI k q hr; have e : k = i := (by omega); subst e; exact absurd cb_2 ((hR k hlt).mpr hr)) _ _ hP hD hS _ (lv_sub hl [1, 0] rfl)
      · have hre := (hR i hlt).mp cb_2
        refine lv_aload_n hx hb dX1_defective_58 rfl (lv_at hl 0 rfl) ?_
        refine lv_iload_n hx hb dX1_defective_59 rfl (lv_at hl 1 rfl) ?_
        refine g_calli ⟨hx, hb, hml, hown, hw⟩ (c_X1_comesAgain l dC dI ad cz ci cj H.size (nI c0) fO fG fH fM fN fT fR fF2 fK fV fE th i sO sA sB sT c0 hg hm hlt) (cwV 1 hw gv_X1_X1_comesAgain rfl rfl rfl (by decide +kernel) ⟨Nat.le_trans (Nat.le_of_ble_eq_true rfl) hR1, Nat.le_trans (Nat.le_of_ble_eq_true rfl) hR2⟩) hK hP hD hS hA (ci := 1) (q0 := 0) rfl rfl rfl hl.1 rfl (Nat.le_of_ble_eq_true rfl) dX1_defective_60 ⟨Nat.zero_le _, Nat.zero_le _⟩ (fun rbb_3 un H locs hq hP hD hS => ?_)
        obtain ⟨fF3, _, hto, rfl⟩ := hq
        have hP : va_P (dC, dI) vwCl (mw ad cz ci cj ((nI c0), fO, fG, fH, fM, fN, fT, fR, fF3, fK, fV, fE, th)) H := hP
        have hD : va_D Ar (mw ad cz ci cj ((nI c0), fO, fG, fH, fM, fN, fT, fR, fF3, fK, fV, fE, th)) := hD
        refine lv_if_eq (tgt := 68) hx hb dX1_defective_63 (by decide) (fun cbb_4 => ?_) (fun cbb_4 => ?_)
        · refine lv_iinc (v := (nI (i + 1))) (lv' := [(1, .int (nI (i + 1))), (0, .ref (ad 0))]) hx hb dX1_defective_68 hl (k := 1) rfl (nI_1 i) (by decide) rfl (fun ls hl => ?_)
          refine lv_goto (tgt := 41) hx hb dX1_defective_71 (by decide) ?_
          exact ih (i + 1) fF3 (by omega) (by omega) (fun k hk hr => by rcases Nat.lt_or_ge k i with q | q; exact hI k q hr; have e : k = i := (by omega); subst e; exact fun z => (hto.mpr z) cbb_4) _ _ hP hD hS _ (lv_sub hl [1, 0] rfl)
        · exact ky i fF3 hlt hre (hto.mp cbb_4) hI _ _ hP hD hS _ (lv_sub hl [1] rfl)
set_option maxHeartbeats 4000000 in
set_option maxRecDepth 100000 in
theorem c_X1_defective (l : Launch) (dC : Nat → ClassId) (dI : Nat → Nat → Nat) (ad : Nat → Nat) (cz ci cj : ClassId) (sz : Nat) (st : Int32) (fO : Nat → Int32) (fG : Nat → Int32) (fH : Nat → Int32) (fM : Nat → Int32) (fN : Nat → Int32) (fT : Nat → Int32) (fR : Nat → Int32) (fF : Nat → Int32) (fK : Nat → Int32) (fV : Nat → Int32) (fE : Nat → Int32) (th : Int32)  (sO sA sB sT : Nat → Int32) (c0 : Nat) (hg : g_ok c0 sO sA sB sT) (hm : m_rel c0 sO sA sB sT fO fG fH fM fN fT) : Met l yX1_defective wX1_defective ({ frames := 3, cells := 0, slots := 0, locals := 67 }) (va_Pc [.ref (ad 0)] (g_Pre (dC, dI) vwCl (gty cz ci cj) (mw ad cz ci cj ((nI c0), fO, fG, fH, fM, fN, fT, fR, fF, fK, fV, fE, th)) sz)) (va_Qi (fun (r : Int32) (u : MS) => ∃ fR2 fF2 : Nat → Int32, ((∀ m, m < c0 → ((¬ fR2 m = 0) ↔ gre c0 sO sA sB sT m)) ∧ m_bo c0 fR2) ∧ (∃ dk, g_df c0 (s_re c0 (gmv sO sA sB) (gtg sT)) (fun n => s_to c0 (gmv sO sA sB) (gtg sT) n n) (g_dn sO sA sB) dk r) ∧ u = ((nI c0), fO, fG, fH, fM, fN, fT, fR2, fF2, fK, fV, fE, th)) (g_At (dC, dI) vwCl (gty cz ci cj) (va_A (mw ad cz ci cj ((nI c0), fO, fG, fH, fM, fN, fT, fR, fF, fK, fV, fE, th)) sz) (mw ad cz ci cj)) (va_A (mw ad cz ci cj ((nI c0), fO, fG, fH, fM, fN, fT, fR, fF, fK, fV, fE, th)) sz)) 0 0 (va_A (mw ad cz ci cj ((nI c0), fO, fG, fH, fM, fN, fT, fR, fF, fK, fV, fE, th)) sz) := by
  refine Met.ofW (cc := cX1_defective) (maxL := 2) (ret := some .int) (by decide) rfl ?_
  intro p e s m args below meth c s₁ Bd hml hv
  obtain ⟨rfl, hsz, hP, hK, hD0⟩ := hv
  have hx := Bd.exec
  have hb := Bd.bytes
  have hr := Bd.returns
  have hts := atoms_spec (ws := wX1_defective) Bd.pre
  have hw : ∀ w ∈ wAll, w.before _ s = true := fun w h => hts w (List.mem_cons_of_mem _ h)
  have hown : s.vm.findClass "GameGraphModel" = some m.cls := findClass_of_methodNamed Bd.named
  have hlocks := Bd.notSynchronized
  subst hsz
  have hD := hD0.self (sz := s.heap.size)
  generalize hAe : va_A (mw ad cz ci cj ((nI c0), fO, fG, fH, fM, fN, fT, fR, fF, fK, fV, fE, th)) s.heap.size = Ar at hD ⊢
  have hA : ∀ q : Nat, s.heap.size ≤ q → Ar q := fun q h => by rw [← hAe]; exact Or.inr h
  obtain ⟨H, hH⟩ : ∃ H : Heap, H = s.heap := ⟨_, rfl⟩
  have hS : va_S Ar s.heap H [] := by rw [hH]; exact va_S.rf
  have hP : va_P (dC, dI) vwCl (mw ad cz ci cj ((nI c0), fO, fG, fH, fM, fN, fT, fR, fF, fK, fV, fE, th)) H := by rw [hH]; exact hP
  rw [← hH]
  have hl := lv_entry ([.ref (ad 0)]) (n := 2) (Nat.le_of_ble_eq_true rfl)
  rw [lg_entry_eq]
  generalize (lg_sl ([.ref (ad 0)]) ++ List.replicate (2 - (lg_sl ([.ref (ad 0)])).length) Slot.unset).toArray = ls at hl ⊢
  have hl : lv_has ls 2 [(0, .ref (ad 0))] := hl
  refine lv_aload_n hx hb dX1_defective_0 rfl (lv_at hl 0 rfl) ?_
  refine g_callv ⟨hx, hb, hml, hown, hw⟩ (c_X1_reach l dC dI ad cz ci cj H.size (nI c0) fO fG fH fM fN fT fR fF fK fV fE th  sO sA sB sT c0 hg hm) (cwV 0 hw gv_X1_X1_reach rfl rfl rfl (by decide +kernel) ⟨Nat.le_of_ble_eq_true rfl, Nat.le_of_ble_eq_true rfl⟩) hK hP hD hS hA (ci := 1) (q0 := 0) rfl rfl rfl hl.1 rfl (Nat.le_of_ble_eq_true rfl) dX1_defective_1 ⟨Nat.zero_le _, Nat.zero_le _⟩ (fun  un H locs hq hP hD hS => ?_)
  obtain ⟨fR2, hR, rfl⟩ := hq
  have hP : va_P (dC, dI) vwCl (mw ad cz ci cj ((nI c0), fO, fG, fH, fM, fN, fT, fR2, fF, fK, fV, fE, th)) H := hP
  have hD : va_D Ar (mw ad cz ci cj ((nI c0), fO, fG, fH, fM, fN, fT, fR2, fF, fK, fV, fE, th)) := hD
  refine lv_iconst (v := 0) hx hb dX1_defective_4 (by decide) ?_
  refine x_topi (y := nI 0) (rfl) ?_
  refine lv_istore_n (lv' := [(1, .int (nI 0)), (0, .ref (ad 0))]) hx hb dX1_defective_5 rfl hl (by decide) rfl (fun ls hl => ?_)
  refine lm_def1 (dC := dC) (dI := dI) (ad := ad) (cz := cz) (ci := ci) (cj := cj) (Ar := Ar) hx hb hml hown hw hK hA (Nat.le_of_ble_eq_true rfl) (Nat.le_of_ble_eq_true rfl) fO fG fH fM fN fT fR2 fF fK fV fE th sO sA sB sT c0 hg hm hR.1 ?_ ?_ (c0 + 1) 0 (by omega) (by omega) (fun k hk => absurd hk (Nat.not_lt_zero _)) _ _ hP hD hS _ (lv_sub hl [1, 0] rfl)
  · intro  hI1 H locs hP hD hS ls hl
    refine lv_iconst (v := 0) hx hb dX1_defective_39 (by decide) ?_
    refine x_topi (y := nI 0) (rfl) ?_
    refine lv_istore_n (lv' := [(1, .int (nI 0)), (0, .ref (ad 0))]) hx hb dX1_defective_40 rfl hl (by decide) rfl (fun ls hl => ?_)
    refine lm_def2 (dC := dC) (dI := dI) (ad := ad) (cz := cz) (ci := ci) (cj := cj) (Ar := Ar) hx hb hml hown hw hK hA (Nat.le_of_ble_eq_true rfl) (Nat.le_of_ble_eq_true rfl) fO fG fH fM fN fT fR2 fK fV fE th sO sA sB sT c0 hg hm hR.1 ?_ ?_ (c0 + 1) 0 fF (by omega) (by omega) (fun k hk => absurd hk (Nat.not_lt_zero _)) _ _ hP hD hS _ (lv_sub hl [1, 0] rfl)
    · intro fF2 hI H locs hP hD hS ls hl
      refine lv_iconst (v := -1) hx hb dX1_defective_74 (by decide) ?_
      exact W.iret (v := (-1)) hx hb hr (fun t ht hW => ⟨⟨(-1), ((nI c0), fO, fG, fH, fM, fN, fT, fR2, fF2, fK, fV, fE, th), rfl, (⟨fR2, fF2, hR, ⟨0, Or.inr ⟨hI1, Or.inr ⟨hI, rfl, rfl⟩⟩⟩, rfl⟩), (by rw [ht]; exact hP), va_K.moved hW.alike hK, hD⟩, hS.F ht⟩) hS.2.2 dX1_defective_75
    · intro i fF2 hlt hre hd hI H locs hP hD hS ls hl
      refine lv_iload_n hx hb dX1_defective_66 rfl (lv_at hl 0 rfl) ?_
      exact W.iret (v := (nI i)) hx hb hr (fun t ht hW => ⟨⟨(nI i), ((nI c0), fO, fG, fH, fM, fN, fT, fR2, fF2, fK, fV, fE, th), rfl, (⟨fR2, fF2, hR, ⟨6, Or.inr ⟨hI1, Or.inl ⟨i, hlt, hre, hd, hI, rfl, rfl⟩⟩⟩, rfl⟩), (by rw [ht]; exact hP), va_K.moved hW.alike hK, hD⟩, hS.F ht⟩) hS.2.2 dX1_defective_67
  · intro i hlt hre hd hI H locs hP hD hS ls hl
    refine lv_iload_n hx hb dX1_defective_31 rfl (lv_at hl 0 rfl) ?_
    exact W.iret (v := (nI i)) hx hb hr (fun t ht hW => ⟨⟨(nI i), ((nI c0), fO, fG, fH, fM, fN, fT, fR2, fF, fK, fV, fE, th), rfl, (⟨fR2, fF, hR, ⟨_, Or.inl ⟨i, hlt, hre, hd, hI, rfl, rfl⟩⟩, rfl⟩), (by rw [ht]; exact hP), va_K.moved hW.alike hK, hD⟩, hS.F ht⟩) hS.2.2 dX1_defective_32
theorem m_df_st {c : Nat} {re to : Nat → Prop} {dn : Nat → Int32} {dk ds : Int32} (h : g_df c re to dn dk ds) (hne : ¬ ds = -1) : ∃ k, k < c ∧ re k ∧ ((¬ dn k = 0 ∧ dk = dn k) ∨ (dn k = 0 ∧ dk = 6)) ∧ ds = nI k := by
  rcases h with ⟨n, h1, h2, h3, _, h4, h5⟩ | ⟨ha, ⟨n, h1, h2, _, _, h4, h5⟩ | ⟨_, _, h5⟩⟩
  · exact ⟨n, h1, h2, Or.inl ⟨h3, h4⟩, h5⟩
  · exact ⟨n, h1, h2, Or.inr ⟨ha n h1 h2, h4⟩, h5⟩
  · exact absurd h5 hne
theorem m_nIm {k : Nat} (hk : k < 2 ^ 31) : ¬ nI k = -1 := by
  intro e
  have := nI_toInt hk
  rw [e] at this
  have q : (-1 : Int32).toInt = -1 := by decide
  omega
theorem m_df_0 {c : Nat} {re to : Nat → Prop} {dn : Nat → Int32} {dk ds : Int32} (hc : c ≤ 60) (h : g_df c re to dn dk ds) (hne : ds = -1) : dk = 0 := by
  rcases h with ⟨n, h1, _, _, _, _, h5⟩ | ⟨_, ⟨n, h1, _, _, _, _, h5⟩ | ⟨_, h4, _⟩⟩
  · exact absurd (h5.symm.trans hne) (m_nIm (by omega))
  · exact absurd (h5.symm.trans hne) (m_nIm (by omega))
  · exact h4
theorem m_df_u {c : Nat} {re to : Nat → Prop} {dn : Nat → Int32} {dk ds dk2 ds2 : Int32} (h : g_df c re to dn dk ds) (h' : g_df c re to dn dk2 ds2) : dk = dk2 ∧ ds = ds2 := by
  rcases h with ⟨n, h1, h2, h3, h4, h5, h6⟩ | ⟨ha, h⟩
  · rcases h' with ⟨n', g1, g2, g3, g4, g5, g6⟩ | ⟨ha, _⟩
    · have e : n = n' := by
        rcases Nat.lt_trichotomy n n' with q | q | q
        · exact absurd (g4 n q h2) h3
        · exact q
        · exact absurd (h4 n' q g2) g3
      subst e
      exact ⟨h5.trans g5.symm, h6.trans g6.symm⟩
    · exact absurd (ha n h1 h2) h3
  · rcases h' with ⟨n', g1, g2, g3, g4, g5, g6⟩ | ⟨_, h'⟩
    · exact absurd (ha n' g1 g2) g3
    · rcases h with ⟨n, h1, h2, h3, h4, h5, h6⟩ | ⟨hb, h5, h6⟩
      · rcases h' with ⟨n', g1, g2, g3, g4, g5, g6⟩ | ⟨hb, _, _⟩
        · have e : n = n' := by
            rcases Nat.lt_trichotomy n n' with q | q | q
            · exact absurd h3 (g4 n q h2)
            · exact q
            · exact absurd g3 (h4 n' q g2)
          subst e
          exact ⟨h5.trans g5.symm, h6.trans g6.symm⟩
        · exact absurd h3 (hb n h1 h2)
      · rcases h' with ⟨n', g1, g2, g3, g4, g5, g6⟩ | ⟨_, g5, g6⟩
        · exact absurd g3 (hb n' g1 g2)
        · exact ⟨h5.trans g5.symm, h6.trans g6.symm⟩
set_option maxHeartbeats 4000000 in
set_option maxRecDepth 100000 in
theorem c_X1_defect (l : Launch) (dC : Nat → ClassId) (dI : Nat → Nat → Nat) (ad : Nat → Nat) (cz ci cj : ClassId) (sz : Nat) (st : Int32) (fO : Nat → Int32) (fG : Nat → Int32) (fH : Nat → Int32) (fM : Nat → Int32) (fN : Nat → Int32) (fT : Nat → Int32) (fR : Nat → Int32) (fF : Nat → Int32) (fK : Nat → Int32) (fV : Nat → Int32) (fE : Nat → Int32) (th : Int32) (n : Int32) (sO sA sB sT : Nat → Int32) (c0 : Nat) (hg : g_ok c0 sO sA sB sT) (hm : m_rel c0 sO sA sB sT fO fG fH fM fN fT) : Met l yX1_defect wX1_defect ({ frames := 4, cells := 0, slots := 0, locals := 88 }) (va_Pc [.ref (ad 0), .int n] (g_Pre (dC, dI) vwCl (gty cz ci cj) (mw ad cz ci cj ((nI c0), fO, fG, fH, fM, fN, fT, fR, fF, fK, fV, fE, th)) sz)) (va_Qi (fun (r : Int32) (u : MS) => (∃ (fR2 fF2 : Nat → Int32) (dk ds : Int32), g_df c0 (s_re c0 (gmv sO sA sB) (gtg sT)) (fun n => s_to c0 (gmv sO sA sB) (gtg sT) n n) (g_dn sO sA sB) dk ds ∧ ((n = 0 ∧ r = dk) ∨ (n = 1 ∧ r = ds)) ∧ u = ((nI c0), fO, fG, fH, fM, fN, fT, fR2, fF2, fK, fV, fE, 0)) ∨ (¬ n = 0 ∧ ¬ n = 1 ∧ u = ((nI c0), fO, fG, fH, fM, fN, fT, fR, fF, fK, fV, fE, 1))) (g_At (dC, dI) vwCl (gty cz ci cj) (va_A (mw ad cz ci cj ((nI c0), fO, fG, fH, fM, fN, fT, fR, fF, fK, fV, fE, th)) sz) (mw ad cz ci cj)) (va_A (mw ad cz ci cj ((nI c0), fO, fG, fH, fM, fN, fT, fR, fF, fK, fV, fE, th)) sz)) 0 0 (va_A (mw ad cz ci cj ((nI c0), fO, fG, fH, fM, fN, fT, fR, fF, fK, fV, fE, th)) sz) := by
  refine Met.ofW (cc := cX1_defect) (maxL := 3) (ret := some .int) (by decide) rfl ?_
  intro p e s m args below meth c s₁ Bd hml hv
  obtain ⟨rfl, hsz, hP, hK, hD0⟩ := hv
  have hx := Bd.exec
  have hb := Bd.bytes
  have hr := Bd.returns
  have hts := atoms_spec (ws := wX1_defect) Bd.pre
  have hw : ∀ w ∈ wAll, w.before _ s = true := fun w h => hts w (List.mem_cons_of_mem _ h)
  have hown : s.vm.findClass "GameGraphModel" = some m.cls := findClass_of_methodNamed Bd.named
  have hlocks := Bd.notSynchronized
  subst hsz
  have hD := hD0.self (sz := s.heap.size)
  generalize hAe : va_A (mw ad cz ci cj ((nI c0), fO, fG, fH, fM, fN, fT, fR, fF, fK, fV, fE, th)) s.heap.size = Ar at hD ⊢
  have hA : ∀ q : Nat, s.heap.size ≤ q → Ar q := fun q h => by rw [← hAe]; exact Or.inr h
  obtain ⟨H, hH⟩ : ∃ H : Heap, H = s.heap := ⟨_, rfl⟩
  have hS : va_S Ar s.heap H [] := by rw [hH]; exact va_S.rf
  have hP : va_P (dC, dI) vwCl (mw ad cz ci cj ((nI c0), fO, fG, fH, fM, fN, fT, fR, fF, fK, fV, fE, th)) H := by rw [hH]; exact hP
  rw [← hH]
  have hl := lv_entry ([.ref (ad 0), .int n]) (n := 3) (Nat.le_of_ble_eq_true rfl)
  rw [lg_entry_eq]
  generalize (lg_sl ([.ref (ad 0), .int n]) ++ List.replicate (3 - (lg_sl ([.ref (ad 0), .int n])).length) Slot.unset).toArray = ls at hl ⊢
  have hl : lv_has ls 3 [(0, .ref (ad 0)), (1, .int n)] := hl
  have h60 := hg.2.1
  refine lv_aload_n hx hb dX1_defect_0 rfl (lv_at hl 0 rfl) ?_
  refine lv_iload_n hx hb dX1_defect_1 rfl (lv_at hl 1 rfl) ?_
  refine lv_if_eq (tgt := 10) hx hb dX1_defect_2 (by decide) (fun c_1 => ?_) (fun c_1 => ?_)
  · subst c_1
    refine lv_iconst (v := 0) hx hb dX1_defect_10 (by decide) ?_
    refine lv_goto (tgt := 15) hx hb dX1_defect_11 (by decide) ?_
    refine va_put (D := (dC, dI)) (ci := 1) (v := .int 0) (ty := .int) (C := RX1) (T := TX1) (N := 13) hx hb hw in_X1 tyX1 tyX1_ok nmX1 hown hK hP hD hS 0 rfl rfl 12 (by decide) (hw _ m_8_36) (fun _ h9 => h9) rfl (by decide +kernel) rfl rfl (Nat.le_of_ble_eq_true rfl) dX1_defect_15 (fun H locs hP hD hS => ?_)
    have hP : va_P (dC, dI) vwCl (mw ad cz ci cj ((nI c0), fO, fG, fH, fM, fN, fT, fR, fF, fK, fV, fE, 0)) H := hP
    have hD : va_D Ar (mw ad cz ci cj ((nI c0), fO, fG, fH, fM, fN, fT, fR, fF, fK, fV, fE, 0)) := hD
    refine lv_aload_n hx hb dX1_defect_18 rfl (lv_at hl 0 rfl) ?_
    refine va_get (D := (dC, dI)) (ci := 1) (v := .int 0) (C := RX1) (T := TX1) (N := 13) hx hb hw in_X1 hown hK hP 0 rfl rfl 12 (by decide) (hw _ m_8_36) (fun _ h9 => h9) rfl dX1_defect_19 ?_
    refine lv_if_eq (tgt := 27) hx hb dX1_defect_22 (by decide) (fun ca_2 => ?_) (fun ca_2 => ?_)
    · refine lv_aload_n hx hb dX1_defect_27 rfl (lv_at hl 0 rfl) ?_
      refine g_calli ⟨hx, hb, hml, hown, hw⟩ (c_X1_defective l dC dI ad cz ci cj H.size (nI c0) fO fG fH fM fN fT fR fF fK fV fE 0  sO sA sB sT c0 hg hm) (cwV 0 hw gv_X1_X1_defective rfl rfl rfl (by decide +kernel) ⟨Nat.le_of_ble_eq_true rfl, Nat.le_of_ble_eq_true rfl⟩) hK hP hD hS hA (ci := 1) (q0 := 0) rfl rfl rfl hl.1 rfl (Nat.le_of_ble_eq_true rfl) dX1_defect_28 ⟨Nat.zero_le _, Nat.zero_le _⟩ (fun raa_3 un H locs hq hP hD hS => ?_)
      obtain ⟨fR2, fF2, hR, ⟨dk, hdf⟩, rfl⟩ := hq
      have hP : va_P (dC, dI) vwCl (mw ad cz ci cj ((nI c0), fO, fG, fH, fM, fN, fT, fR2, fF2, fK, fV, fE, 0)) H := hP
      have hD : va_D Ar (mw ad cz ci cj ((nI c0), fO, fG, fH, fM, fN, fT, fR2, fF2, fK, fV, fE, 0)) := hD
      refine lv_istore_n (lv' := [(2, .int raa_3), (0, .ref (ad 0)), (1, .int 0)]) hx hb dX1_defect_31 rfl hl (by decide) rfl (fun ls hl => ?_)
      refine lv_iload_n hx hb dX1_defect_32 rfl (lv_at hl 2 rfl) ?_
      refine lv_iconst (v := 1) hx hb dX1_defect_33 (by decide) ?_
      refine lv_icmp_ne (tgt := 41) hx hb dX1_defect_34 (by decide) (fun caa_4 => ?_) (fun caa_4 => ?_)
      · refine lv_iload_n hx hb dX1_defect_41 rfl (lv_at hl 0 rfl) ?_
        refine lv_iconst (v := -1) hx hb dX1_defect_42 (by decide) ?_
        refine lv_icmp_ne (tgt := 50) hx hb dX1_defect_43 (by decide) (fun caaa_5 => ?_) (fun caaa_5 => ?_)
        · obtain ⟨k, hk, hre, hcase, rfl⟩ := m_df_st hdf caaa_5
          refine lv_aload_n hx hb dX1_defect_50 rfl (lv_at hl 1 rfl) ?_
          refine lv_iload_n hx hb dX1_defect_51 rfl (lv_at hl 0 rfl) ?_
          refine g_calli ⟨hx, hb, hml, hown, hw⟩ (c_X1_own l dC dI ad cz ci cj H.size (nI c0) fO fG fH fM fN fT fR2 fF2 fK fV fE 0 k sO sA sB sT c0 hg hm hk) (cwV 1 hw gv_X1_X1_own rfl rfl rfl (by decide +kernel) ⟨Nat.le_of_ble_eq_true rfl, Nat.le_of_ble_eq_true rfl⟩) hK hP hD hS hA (ci := 1) (q0 := 0) rfl rfl rfl hl.1 rfl (Nat.le_of_ble_eq_true rfl) dX1_defect_52 ⟨Nat.zero_le _, Nat.zero_le _⟩ (fun raaaa_6 un H locs hq hP hD hS => ?_)
          obtain ⟨rfl, hq⟩ := hq
          have hP : va_P (dC, dI) vwCl (mw ad cz ci cj ((nI c0), fO, fG, fH, fM, fN, fT, fR2, fF2, fK, fV, fE, 0)) H := hP
          have hD : va_D Ar (mw ad cz ci cj ((nI c0), fO, fG, fH, fM, fN, fT, fR2, fF2, fK, fV, fE, 0)) := hD
          refine lv_if_eq (tgt := 66) hx hb dX1_defect_55 (by decide) (fun caaaa_7 => ?_) (fun caaaa_7 => ?_)
          · refine lv_bipush (v := 6) hx hb dX1_defect_66 (by decide) ?_
            exact W.iret (v := 6) hx hb hr (fun t ht hW => ⟨⟨6, ((nI c0), fO, fG, fH, fM, fN, fT, fR2, fF2, fK, fV, fE, 0), rfl, (Or.inl ⟨fR2, fF2, dk, nI k, hdf, Or.inl ⟨rfl, by rcases hcase with ⟨q, _⟩ | ⟨_, q⟩; exact absurd (hq.symm.trans caaaa_7) q; exact q.symm⟩, rfl⟩), (by rw [ht]; exact hP), va_K.moved hW.alike hK, hD⟩, hS.F ht⟩) hS.2.2 dX1_defect_68
          · have hq0 := hq
            refine lv_aload_n hx hb dX1_defect_58 rfl (lv_at hl 1 rfl) ?_
            refine lv_iload_n hx hb dX1_defect_59 rfl (lv_at hl 0 rfl) ?_
            refine g_calli ⟨hx, hb, hml, hown, hw⟩ (c_X1_own l dC dI ad cz ci cj H.size (nI c0) fO fG fH fM fN fT fR2 fF2 fK fV fE 0 k sO sA sB sT c0 hg hm hk) (cwV 1 hw gv_X1_X1_own rfl rfl rfl (by decide +kernel) ⟨Nat.le_of_ble_eq_true rfl, Nat.le_of_ble_eq_true rfl⟩) hK hP hD hS hA (ci := 1) (q0 := 0) rfl rfl rfl hl.1 rfl (Nat.le_of_ble_eq_true rfl) dX1_defect_60 ⟨Nat.zero_le _, Nat.zero_le _⟩ (fun raaaab_8 un H locs hq hP hD hS => ?_)
            obtain ⟨rfl, hq⟩ := hq
            have hP : va_P (dC, dI) vwCl (mw ad cz ci cj ((nI c0), fO, fG, fH, fM, fN, fT, fR2, fF2, fK, fV, fE, 0)) H := hP
            have hD : va_D Ar (mw ad cz ci cj ((nI c0), fO, fG, fH, fM, fN, fT, fR2, fF2, fK, fV, fE, 0)) := hD
            refine lv_goto (tgt := 68) hx hb dX1_defect_63 (by decide) ?_
            exact W.iret (v := raaaab_8) hx hb hr (fun t ht hW => ⟨⟨raaaab_8, ((nI c0), fO, fG, fH, fM, fN, fT, fR2, fF2, fK, fV, fE, 0), rfl, (Or.inl ⟨fR2, fF2, dk, nI k, hdf, Or.inl ⟨rfl, by rcases hcase with ⟨_, q⟩ | ⟨q, _⟩; exact hq.trans q.symm; exact absurd (hq0.trans q) caaaa_7⟩, rfl⟩), (by rw [ht]; exact hP), va_K.moved hW.alike hK, hD⟩, hS.F ht⟩) hS.2.2 dX1_defect_68
        · refine lv_iconst (v := 0) hx hb dX1_defect_46 (by decide) ?_
          refine lv_goto (tgt := 68) hx hb dX1_defect_47 (by decide) ?_
          exact W.iret (v := 0) hx hb hr (fun t ht hW => ⟨⟨0, ((nI c0), fO, fG, fH, fM, fN, fT, fR2, fF2, fK, fV, fE, 0), rfl, (Or.inl ⟨fR2, fF2, dk, raa_3, hdf, Or.inl ⟨rfl, (m_df_0 hg.2.1 hdf caaa_5).symm⟩, rfl⟩), (by rw [ht]; exact hP), va_K.moved hW.alike hK, hD⟩, hS.F ht⟩) hS.2.2 dX1_defect_68
      · exact absurd caa_4 (by decide)
    · exact absurd rfl ca_2
  · refine lv_iload_n hx hb dX1_defect_5 rfl (lv_at hl 1 rfl) ?_
    refine lv_iconst (v := 1) hx hb dX1_defect_6 (by decide) ?_
    refine lv_icmp_ne (tgt := 14) hx hb dX1_defect_7 (by decide) (fun cb_2 => ?_) (fun cb_2 => ?_)
    · refine lv_iconst (v := 1) hx hb dX1_defect_14 (by decide) ?_
      refine va_put (D := (dC, dI)) (ci := 1) (v := .int 1) (ty := .int) (C := RX1) (T := TX1) (N := 13) hx hb hw in_X1 tyX1 tyX1_ok nmX1 hown hK hP hD hS 0 rfl rfl 12 (by decide) (hw _ m_8_36) (fun _ h9 => h9) rfl (by decide +kernel) rfl rfl (Nat.le_of_ble_eq_true rfl) dX1_defect_15 (fun H locs hP hD hS => ?_)
      have hP : va_P (dC, dI) vwCl (mw ad cz ci cj ((nI c0), fO, fG, fH, fM, fN, fT, fR, fF, fK, fV, fE, 1)) H := hP
      have hD : va_D Ar (mw ad cz ci cj ((nI c0), fO, fG, fH, fM, fN, fT, fR, fF, fK, fV, fE, 1)) := hD
      refine lv_aload_n hx hb dX1_defect_18 rfl (lv_at hl 0 rfl) ?_
      refine va_get (D := (dC, dI)) (ci := 1) (v := .int 1) (C := RX1) (T := TX1) (N := 13) hx hb hw in_X1 hown hK hP 0 rfl rfl 12 (by decide) (hw _ m_8_36) (fun _ h9 => h9) rfl dX1_defect_19 ?_
      refine lv_if_eq (tgt := 27) hx hb dX1_defect_22 (by decide) (fun cba_3 => ?_) (fun cba_3 => ?_)
      · exact absurd cba_3 (by decide)
      · refine lv_iconst (v := 0) hx hb dX1_defect_25 (by decide) ?_
        exact W.iret (v := 0) hx hb hr (fun t ht hW => ⟨⟨0, ((nI c0), fO, fG, fH, fM, fN, fT, fR, fF, fK, fV, fE, 1), rfl, (Or.inr ⟨c_1, cb_2, rfl⟩), (by rw [ht]; exact hP), va_K.moved hW.alike hK, hD⟩, hS.F ht⟩) hS.2.2 dX1_defect_26
    · subst cb_2
      refine lv_iconst (v := 0) hx hb dX1_defect_10 (by decide) ?_
      refine lv_goto (tgt := 15) hx hb dX1_defect_11 (by decide) ?_
      refine va_put (D := (dC, dI)) (ci := 1) (v := .int 0) (ty := .int) (C := RX1) (T := TX1) (N := 13) hx hb hw in_X1 tyX1 tyX1_ok nmX1 hown hK hP hD hS 0 rfl rfl 12 (by decide) (hw _ m_8_36) (fun _ h9 => h9) rfl (by decide +kernel) rfl rfl (Nat.le_of_ble_eq_true rfl) dX1_defect_15 (fun H locs hP hD hS => ?_)
      have hP : va_P (dC, dI) vwCl (mw ad cz ci cj ((nI c0), fO, fG, fH, fM, fN, fT, fR, fF, fK, fV, fE, 0)) H := hP
      have hD : va_D Ar (mw ad cz ci cj ((nI c0), fO, fG, fH, fM, fN, fT, fR, fF, fK, fV, fE, 0)) := hD
      refine lv_aload_n hx hb dX1_defect_18 rfl (lv_at hl 0 rfl) ?_
      refine va_get (D := (dC, dI)) (ci := 1) (v := .int 0) (C := RX1) (T := TX1) (N := 13) hx hb hw in_X1 hown hK hP 0 rfl rfl 12 (by decide) (hw _ m_8_36) (fun _ h9 => h9) rfl dX1_defect_19 ?_
      refine lv_if_eq (tgt := 27) hx hb dX1_defect_22 (by decide) (fun cbb_3 => ?_) (fun cbb_3 => ?_)
      · refine lv_aload_n hx hb dX1_defect_27 rfl (lv_at hl 0 rfl) ?_
        refine g_calli ⟨hx, hb, hml, hown, hw⟩ (c_X1_defective l dC dI ad cz ci cj H.size (nI c0) fO fG fH fM fN fT fR fF fK fV fE 0  sO sA sB sT c0 hg hm) (cwV 0 hw gv_X1_X1_defective rfl rfl rfl (by decide +kernel) ⟨Nat.le_of_ble_eq_true rfl, Nat.le_of_ble_eq_true rfl⟩) hK hP hD hS hA (ci := 1) (q0 := 0) rfl rfl rfl hl.1 rfl (Nat.le_of_ble_eq_true rfl) dX1_defect_28 ⟨Nat.zero_le _, Nat.zero_le _⟩ (fun rbba_4 un H locs hq hP hD hS => ?_)
        obtain ⟨fR2, fF2, hR, ⟨dk, hdf⟩, rfl⟩ := hq
        have hP : va_P (dC, dI) vwCl (mw ad cz ci cj ((nI c0), fO, fG, fH, fM, fN, fT, fR2, fF2, fK, fV, fE, 0)) H := hP
        have hD : va_D Ar (mw ad cz ci cj ((nI c0), fO, fG, fH, fM, fN, fT, fR2, fF2, fK, fV, fE, 0)) := hD
        refine lv_istore_n (lv' := [(2, .int rbba_4), (0, .ref (ad 0)), (1, .int 1)]) hx hb dX1_defect_31 rfl hl (by decide) rfl (fun ls hl => ?_)
        refine lv_iload_n hx hb dX1_defect_32 rfl (lv_at hl 2 rfl) ?_
        refine lv_iconst (v := 1) hx hb dX1_defect_33 (by decide) ?_
        refine lv_icmp_ne (tgt := 41) hx hb dX1_defect_34 (by decide) (fun cbba_5 => ?_) (fun cbba_5 => ?_)
        · exact absurd rfl cbba_5
        · refine lv_iload_n hx hb dX1_defect_37 rfl (lv_at hl 0 rfl) ?_
          refine lv_goto (tgt := 68) hx hb dX1_defect_38 (by decide) ?_
          exact W.iret (v := rbba_4) hx hb hr (fun t ht hW => ⟨⟨rbba_4, ((nI c0), fO, fG, fH, fM, fN, fT, fR2, fF2, fK, fV, fE, 0), rfl, (Or.inl ⟨fR2, fF2, dk, rbba_4, hdf, Or.inr ⟨rfl, rfl⟩, rfl⟩), (by rw [ht]; exact hP), va_K.moved hW.alike hK, hD⟩, hS.F ht⟩) hS.2.2 dX1_defect_68
      · exact absurd rfl cbb_3
