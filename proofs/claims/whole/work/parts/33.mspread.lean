/-! The reference: reaching (by tool/mspread.py). -/
set_option maxHeartbeats 4000000 in
set_option maxRecDepth 100000 in
theorem lm_spj_r {p : Program} {l : Launch} {e : Env} {R : Room} {s : State} {m : MethodId} {args : Array Value} {below : List Frame} {meth : Method} {c : Code} {Q : State → Prop} {dC : Nat → ClassId} {dI : Nat → Nat → Nat} {ad : Nat → Nat} {cz ci cj : ClassId} {Ar : Nat → Prop}  (hx : p.tables.exec = Jvm.exec) (hb : c.code = cX1_spread) (hml : c.maxLocals = 5) (hown : s.vm.findClass "GameGraphModel" = some m.cls) (hw : ∀ w ∈ wAll, w.before args s = true) (hK : va_K (dC, dI) vwCl (gty cz ci cj) s) (hA : ∀ q, s.heap.size ≤ q → Ar q) (hR1 : 1 ≤ R.frames) (hR2 : 21 ≤ R.locals) (fO fG fH fM fN fT fF fK fV fE : Nat → Int32) (th : Int32) (sO sA sB sT : Nat → Int32) (c0 : Nat) (hg : g_ok c0 sO sA sB sT) (hm : m_rel c0 sO sA sB sT fO fG fH fM fN fT) (fX0 : Nat → Int32) (rd n : Nat) (hn : n < c0) (fX2 : Nat → Int32)
    (kx : ∀ (fX3 : Nat → Int32), (∀ m, m < c0 → ¬ fX2 m = 0 → ¬ fX3 m = 0) → (∀ m, m < c0 → ¬ fX3 m = 0 → m_cl c0 (gmv sO sA sB) (gtg sT) (fun m => ¬ fX0 m = 0) m) → (¬ fX2 n = 0 → ∀ i, i < gmv sO sA sB n → ¬ fX3 (gtg sT n i) = 0) → (m_bo c0 fX3) → ∀ (H : Heap) (locs : List Loc), va_P (dC, dI) vwCl (mw ad cz ci cj ((nI c0), fO, fG, fH, fM, fN, fT, fX3, fF, fK, fV, fE, th)) H → va_D Ar (mw ad cz ci cj ((nI c0), fO, fG, fH, fM, fN, fT, fX3, fF, fK, fV, fE, th)) → va_S Ar s.heap H locs → ∀ (ls : Array Slot), lv_has ls 5 [(0, .ref (ad 0)), (1, .ref (ad 7)), (2, .int (nI rd)), (3, .int (nI n))] → W p l e R s m args below meth c H locs 0 0 Q (F0 m 60 ls [])) :
    ∀ (fuel : Nat) (j : Nat) (fX3 : Nat → Int32), gmv sO sA sB n + 1 ≤ j + fuel → j ≤ gmv sO sA sB n → (∀ m, m < c0 → ¬ fX2 m = 0 → ¬ fX3 m = 0) → (∀ m, m < c0 → ¬ fX3 m = 0 → m_cl c0 (gmv sO sA sB) (gtg sT) (fun m => ¬ fX0 m = 0) m) → (¬ fX2 n = 0 → ∀ i, i < j → ¬ fX3 (gtg sT n i) = 0) → (m_bo c0 fX3) → ∀ (H : Heap) (locs : List Loc), va_P (dC, dI) vwCl (mw ad cz ci cj ((nI c0), fO, fG, fH, fM, fN, fT, fX3, fF, fK, fV, fE, th)) H → va_D Ar (mw ad cz ci cj ((nI c0), fO, fG, fH, fM, fN, fT, fX3, fF, fK, fV, fE, th)) → va_S Ar s.heap H locs → ∀ (ls : Array Slot), lv_has ls 5 [(0, .ref (ad 0)), (1, .ref (ad 7)), (2, .int (nI rd)), (3, .int (nI n)), (4, .int (nI j))] → W p l e R s m args below meth c H locs 0 0 Q (F0 m 23 ls []) := by
  intro fuel
  induction fuel with
  | zero => intro j fX3 hfu hj hmo hso hdn hbo; exact absurd hfu (by omega)
  | succ fuel ih =>
    intro j fX3 hfu hj hmo hso hdn hbo H locs hP hD hS ls hl
    have h60 := hg.2.1
    have h12 := (m_mv hg hm hn).2
    refine lv_iload hx hb dX1_spread_23 (lv_at hl 4 rfl) ?_
    refine lv_aload_n hx hb dX1_spread_25 rfl (lv_at hl 0 rfl) ?_
    refine lv_iload_n hx hb dX1_spread_26 rfl (lv_at hl 3 rfl) ?_
    refine g_calli ⟨hx, hb, hml, hown, hw⟩ (c_X1_joint l dC dI ad cz ci cj H.size (nI c0) fO fG fH fM fN fT fX3 fF fK fV fE th n (by omega)) (cwV 1 hw gv_X1_X1_joint rfl rfl rfl (by decide +kernel) ⟨Nat.le_trans (Nat.le_of_ble_eq_true rfl) hR1, Nat.le_trans (Nat.le_of_ble_eq_true rfl) hR2⟩) hK hP hD hS hA (ci := 1) (q0 := 0) rfl rfl rfl hl.1 rfl (Nat.le_of_ble_eq_true rfl) dX1_spread_27 ⟨Nat.zero_le _, Nat.zero_le _⟩ (fun r_1 un H locs hq hP hD hS => ?_)
    obtain ⟨rfl, hq⟩ := hq
    have hP : va_P (dC, dI) vwCl (mw ad cz ci cj ((nI c0), fO, fG, fH, fM, fN, fT, fX3, fF, fK, fV, fE, th)) H := hP
    have hD : va_D Ar (mw ad cz ci cj ((nI c0), fO, fG, fH, fM, fN, fT, fX3, fF, fK, fV, fE, th)) := hD
    refine x_topi (y := nI (gmv sO sA sB n)) (by rw [hq]; exact (m_mv hg hm hn).1) ?_
    refine lv_icmp_ge (tgt := 60) hx hb dX1_spread_30 (by decide) (fun c_2 => ?_) (fun c_2 => ?_)
    · exact kx fX3 hmo hso (fun h i hi => hdn h i (by have := k_eq hj c_2 (by omega); omega)) hbo _ _ hP hD hS _ (lv_sub hl [0, 1, 2, 3] rfl)
    · have hlt : j < gmv sO sA sB n := k_lt c_2 (by omega)
      refine lv_aload_n hx hb dX1_spread_33 rfl (lv_at hl 1 rfl) ?_
      refine lv_iload_n hx hb dX1_spread_34 rfl (lv_at hl 3 rfl) ?_
      refine va_zald hx hb hK hP 7 0 rfl rfl (vp_in_nI (by omega) (by decide)) dX1_spread_35 ?_
      refine x_topi (y := fX3 n) (by rw [nI_clamp (by omega)]) ?_
      refine lv_if_eq (tgt := 60) hx hb dX1_spread_36 (by decide) (fun cb_3 => ?_) (fun cb_3 => ?_)
      · exact kx fX3 hmo hso (fun h => absurd cb_3 (hmo n hn h)) hbo _ _ hP hD hS _ (lv_sub hl [0, 1, 2, 3] rfl)
      · refine lv_aload_n hx hb dX1_spread_39 rfl (lv_at hl 1 rfl) ?_
        refine lv_aload_n hx hb dX1_spread_40 rfl (lv_at hl 0 rfl) ?_
        refine va_get (D := (dC, dI)) (ci := 1) (v := .ref (ad 6)) (C := RX1) (T := TX1) (N := 13) hx hb hw in_X1 hown hK hP 0 rfl rfl 6 (by decide) (hw _ m_8_30) (fun _ h9 => h9) rfl dX1_spread_41 ?_
        refine lv_bipush (v := 12) hx hb dX1_spread_44 (by decide) ?_
        refine lv_iload_n hx hb dX1_spread_46 rfl (lv_at hl 3 rfl) ?_
        refine lv_imul hx hb dX1_spread_47 ?_
        refine x_topi (y := nI (n * 12)) ((pk_mul 12 n).trans (by rw [Nat.mul_comm])) ?_
        refine lv_iload hx hb dX1_spread_48 (lv_at hl 4 rfl) ?_
        refine lv_iadd hx hb dX1_spread_50 ?_
        refine x_topi (y := nI (n * 12 + j)) (nI_add _ _) ?_
        have ht := m_tg hg hm hn hlt
        refine va_iald hx hb hK hP 6 1 rfl rfl (vp_in_nI (by omega) (by decide)) dX1_spread_51 ?_
        refine x_topi (y := fT (n * 12 + j)) (by rw [nI_clamp (by omega)]) ?_
        refine x_topi (y := nI (gtg sT n j)) (ht.1) ?_
        refine lv_iconst (v := 1) hx hb dX1_spread_52 (by decide) ?_
        refine va_zast hx hb hK hP hD hS 7 0 rfl rfl (vp_in_nI (by omega) (by decide)) dX1_spread_53 (fun H locs hP hD hS => ?_)
        rw [nI_clamp (by omega)] at hP hD
        rw [show vp_nar .boolean 1 = 1 by decide] at hP hD
        have hP : va_P (dC, dI) vwCl (mw ad cz ci cj ((nI c0), fO, fG, fH, fM, fN, fT, (upd fX3 (gtg sT n j) 1), fF, fK, fV, fE, th)) H := hP
        have hD : va_D Ar (mw ad cz ci cj ((nI c0), fO, fG, fH, fM, fN, fT, (upd fX3 (gtg sT n j) 1), fF, fK, fV, fE, th)) := hD
        refine lv_iinc (v := (nI (j + 1))) (lv' := [(4, .int (nI (j + 1))), (0, .ref (ad 0)), (1, .ref (ad 7)), (2, .int (nI rd)), (3, .int (nI n))]) hx hb dX1_spread_54 hl (k := 4) rfl (nI_1 j) (by decide) rfl (fun ls hl => ?_)
        refine lv_goto (tgt := 23) hx hb dX1_spread_57 (by decide) ?_
        exact ih (j + 1) (upd fX3 (gtg sT n j) 1) (by omega) (by omega) (fun m hm2 h => m_up (hmo m hm2 h)) (fun m hm2 h => m_ups (P := fun m => m_cl c0 (gmv sO sA sB) (gtg sT) (fun m => ¬ fX0 m = 0) m) (hso m hm2) (m_cl_st (g_sok hg) (hso n hn cb_3) hn hlt) h) (fun h i hi => by rcases Nat.lt_or_ge i j with q | q; exact m_up (hdn h i q); have e : i = j := (by omega); rw [e]; exact m_up1) (m_bo_u hbo _ (Or.inr rfl)) _ _ hP hD hS _ (lv_sub hl [1, 2, 3, 4, 0] rfl)
set_option maxHeartbeats 4000000 in
set_option maxRecDepth 100000 in
theorem lm_spn_r {p : Program} {l : Launch} {e : Env} {R : Room} {s : State} {m : MethodId} {args : Array Value} {below : List Frame} {meth : Method} {c : Code} {Q : State → Prop} {dC : Nat → ClassId} {dI : Nat → Nat → Nat} {ad : Nat → Nat} {cz ci cj : ClassId} {Ar : Nat → Prop}  (hx : p.tables.exec = Jvm.exec) (hb : c.code = cX1_spread) (hml : c.maxLocals = 5) (hown : s.vm.findClass "GameGraphModel" = some m.cls) (hw : ∀ w ∈ wAll, w.before args s = true) (hK : va_K (dC, dI) vwCl (gty cz ci cj) s) (hA : ∀ q, s.heap.size ≤ q → Ar q) (hR1 : 1 ≤ R.frames) (hR2 : 21 ≤ R.locals) (fO fG fH fM fN fT fF fK fV fE : Nat → Int32) (th : Int32) (sO sA sB sT : Nat → Int32) (c0 : Nat) (hg : g_ok c0 sO sA sB sT) (hm : m_rel c0 sO sA sB sT fO fG fH fM fN fT) (fX0 : Nat → Int32) (rd : Nat) (fX1 : Nat → Int32)
    (kx : ∀ (fX2 : Nat → Int32), (∀ m, m < c0 → ¬ fX1 m = 0 → ¬ fX2 m = 0) → (∀ m, m < c0 → ¬ fX2 m = 0 → m_cl c0 (gmv sO sA sB) (gtg sT) (fun m => ¬ fX0 m = 0) m) → (∀ k, k < c0 → ¬ fX1 k = 0 → ∀ i, i < gmv sO sA sB k → ¬ fX2 (gtg sT k i) = 0) → (m_bo c0 fX2) → ∀ (H : Heap) (locs : List Loc), va_P (dC, dI) vwCl (mw ad cz ci cj ((nI c0), fO, fG, fH, fM, fN, fT, fX2, fF, fK, fV, fE, th)) H → va_D Ar (mw ad cz ci cj ((nI c0), fO, fG, fH, fM, fN, fT, fX2, fF, fK, fV, fE, th)) → va_S Ar s.heap H locs → ∀ (ls : Array Slot), lv_has ls 5 [(0, .ref (ad 0)), (1, .ref (ad 7)), (2, .int (nI rd))] → W p l e R s m args below meth c H locs 0 0 Q (F0 m 66 ls [])) :
    ∀ (fuel : Nat) (n : Nat) (fX2 : Nat → Int32), c0 + 1 ≤ n + fuel → n ≤ c0 → (∀ m, m < c0 → ¬ fX1 m = 0 → ¬ fX2 m = 0) → (∀ m, m < c0 → ¬ fX2 m = 0 → m_cl c0 (gmv sO sA sB) (gtg sT) (fun m => ¬ fX0 m = 0) m) → (∀ k, k < n → ¬ fX1 k = 0 → ∀ i, i < gmv sO sA sB k → ¬ fX2 (gtg sT k i) = 0) → (m_bo c0 fX2) → ∀ (H : Heap) (locs : List Loc), va_P (dC, dI) vwCl (mw ad cz ci cj ((nI c0), fO, fG, fH, fM, fN, fT, fX2, fF, fK, fV, fE, th)) H → va_D Ar (mw ad cz ci cj ((nI c0), fO, fG, fH, fM, fN, fT, fX2, fF, fK, fV, fE, th)) → va_S Ar s.heap H locs → ∀ (ls : Array Slot), lv_has ls 5 [(0, .ref (ad 0)), (1, .ref (ad 7)), (2, .int (nI rd)), (3, .int (nI n))] → W p l e R s m args below meth c H locs 0 0 Q (F0 m 12 ls []) := by
  intro fuel
  induction fuel with
  | zero => intro n fX2 hfu hn hmo hso hdn hbo; exact absurd hfu (by omega)
  | succ fuel ih =>
    intro n fX2 hfu hn hmo hso hdn hbo H locs hP hD hS ls hl
    have h60 := hg.2.1
    refine lv_iload_n hx hb dX1_spread_12 rfl (lv_at hl 3 rfl) ?_
    refine lv_aload_n hx hb dX1_spread_13 rfl (lv_at hl 0 rfl) ?_
    refine va_get (D := (dC, dI)) (ci := 1) (v := .int (nI c0)) (C := RX1) (T := TX1) (N := 13) hx hb hw in_X1 hown hK hP 0 rfl rfl 0 (by decide) (hw _ m_8_24) (fun _ h9 => h9) rfl dX1_spread_14 ?_
    refine lv_icmp_ge (tgt := 66) hx hb dX1_spread_17 (by decide) (fun c_1 => ?_) (fun c_1 => ?_)
    · exact kx fX2 hmo hso (fun k hk h i hi => hdn k (by have := k_eq hn c_1 (by omega); omega) h i hi) hbo _ _ hP hD hS _ (lv_sub hl [0, 1, 2] rfl)
    · have hlt : n < c0 := k_lt c_1 (by omega)
      refine lv_iconst (v := 0) hx hb dX1_spread_20 (by decide) ?_
      refine x_topi (y := nI 0) (rfl) ?_
      refine lv_istore (lv' := [(4, .int (nI 0)), (0, .ref (ad 0)), (1, .ref (ad 7)), (2, .int (nI rd)), (3, .int (nI n))]) hx hb dX1_spread_21 hl (by decide) rfl (fun ls hl => ?_)
      refine lm_spj_r (dC := dC) (dI := dI) (ad := ad) (cz := cz) (ci := ci) (cj := cj) (Ar := Ar) hx hb hml hown hw hK hA (Nat.le_trans (Nat.le_of_ble_eq_true rfl) hR1) (Nat.le_trans (Nat.le_of_ble_eq_true rfl) hR2) fO fG fH fM fN fT fF fK fV fE th sO sA sB sT c0 hg hm fX0 rd n hlt fX2 ?_  (gmv sO sA sB n + 1) 0 fX2 (by omega) (by omega) (fun _ _ h => h) hso (fun _ i hi => absurd hi (Nat.not_lt_zero _)) hbo _ _ hP hD hS _ (lv_sub hl [1, 2, 3, 4, 0] rfl)
      intro fX3 hmo2 hso2 hdn2 hbo2 H locs hP hD hS ls hl
      refine lv_iinc (v := (nI (n + 1))) (lv' := [(3, .int (nI (n + 1))), (0, .ref (ad 0)), (1, .ref (ad 7)), (2, .int (nI rd))]) hx hb dX1_spread_60 hl (k := 3) rfl (nI_1 n) (by decide) rfl (fun ls hl => ?_)
      refine lv_goto (tgt := 12) hx hb dX1_spread_63 (by decide) ?_
      exact ih (n + 1) fX3 (by omega) (by omega) (fun m hm2 h => hmo2 m hm2 (hmo m hm2 h)) hso2 (fun k hk h i hi => by rcases Nat.lt_or_ge k n with q | q; exact hmo2 _ ((g_sok hg).2 k (by omega) i hi) (hdn k q h i hi); have e : k = n := (by omega); subst e; exact hdn2 (hmo k hlt h) i hi) hbo2 _ _ hP hD hS _ (lv_sub hl [1, 2, 3, 0] rfl)
set_option maxHeartbeats 4000000 in
set_option maxRecDepth 100000 in
theorem lm_spr_r {p : Program} {l : Launch} {e : Env} {R : Room} {s : State} {m : MethodId} {args : Array Value} {below : List Frame} {meth : Method} {c : Code} {Q : State → Prop} {dC : Nat → ClassId} {dI : Nat → Nat → Nat} {ad : Nat → Nat} {cz ci cj : ClassId} {Ar : Nat → Prop}  (hx : p.tables.exec = Jvm.exec) (hb : c.code = cX1_spread) (hml : c.maxLocals = 5) (hown : s.vm.findClass "GameGraphModel" = some m.cls) (hw : ∀ w ∈ wAll, w.before args s = true) (hK : va_K (dC, dI) vwCl (gty cz ci cj) s) (hA : ∀ q, s.heap.size ≤ q → Ar q) (hR1 : 1 ≤ R.frames) (hR2 : 21 ≤ R.locals) (fO fG fH fM fN fT fF fK fV fE : Nat → Int32) (th : Int32) (sO sA sB sT : Nat → Int32) (c0 : Nat) (hg : g_ok c0 sO sA sB sT) (hm : m_rel c0 sO sA sB sT fO fG fH fM fN fT) (fX0 : Nat → Int32)
    (kx : ∀ (fX1 : Nat → Int32), (∀ m, m < c0 → ((¬ fX1 m = 0) ↔ m_cl c0 (gmv sO sA sB) (gtg sT) (fun m => ¬ fX0 m = 0) m)) → (m_bo c0 fX1) → ∀ (H : Heap) (locs : List Loc), va_P (dC, dI) vwCl (mw ad cz ci cj ((nI c0), fO, fG, fH, fM, fN, fT, fX1, fF, fK, fV, fE, th)) H → va_D Ar (mw ad cz ci cj ((nI c0), fO, fG, fH, fM, fN, fT, fX1, fF, fK, fV, fE, th)) → va_S Ar s.heap H locs → ∀ (ls : Array Slot), lv_has ls 5 [(0, .ref (ad 0))] → W p l e R s m args below meth c H locs 0 0 Q (F0 m 72 ls [])) :
    ∀ (fuel : Nat) (rd : Nat) (fX1 : Nat → Int32), c0 + 1 ≤ rd + fuel → rd ≤ c0 → (∀ m, m < c0 → ¬ fX0 m = 0 → ¬ fX1 m = 0) → (∀ m, m < c0 → ¬ fX1 m = 0 → m_cl c0 (gmv sO sA sB) (gtg sT) (fun m => ¬ fX0 m = 0) m) → (m_cd c0 (gmv sO sA sB) (gtg sT) (fun m => ¬ fX1 m = 0) ∨ rd ≤ w_ct (fun m => ¬ fX1 m = 0) c0) → (m_bo c0 fX1) → ∀ (H : Heap) (locs : List Loc), va_P (dC, dI) vwCl (mw ad cz ci cj ((nI c0), fO, fG, fH, fM, fN, fT, fX1, fF, fK, fV, fE, th)) H → va_D Ar (mw ad cz ci cj ((nI c0), fO, fG, fH, fM, fN, fT, fX1, fF, fK, fV, fE, th)) → va_S Ar s.heap H locs → ∀ (ls : Array Slot), lv_has ls 5 [(0, .ref (ad 0)), (1, .ref (ad 7)), (2, .int (nI rd))] → W p l e R s m args below meth c H locs 0 0 Q (F0 m 2 ls []) := by
  intro fuel
  induction fuel with
  | zero => intro rd fX1 hfu hrd hmo hso hI hbo; exact absurd hfu (by omega)
  | succ fuel ih =>
    intro rd fX1 hfu hrd hmo hso hI hbo H locs hP hD hS ls hl
    have h60 := hg.2.1
    refine lv_iload_n hx hb dX1_spread_2 rfl (lv_at hl 2 rfl) ?_
    refine lv_aload_n hx hb dX1_spread_3 rfl (lv_at hl 0 rfl) ?_
    refine va_get (D := (dC, dI)) (ci := 1) (v := .int (nI c0)) (C := RX1) (T := TX1) (N := 13) hx hb hw in_X1 hown hK hP 0 rfl rfl 0 (by decide) (hw _ m_8_24) (fun _ h9 => h9) rfl dX1_spread_4 ?_
    refine lv_icmp_ge (tgt := 72) hx hb dX1_spread_7 (by decide) (fun c_1 => ?_) (fun c_1 => ?_)
    · exact kx fX1 (m_end (X0 := (fun m => ¬ fX0 m = 0)) (X1 := (fun m => ¬ fX1 m = 0)) (g_sok hg) (by rw [show rd = c0 from (k_eq hrd c_1 (by omega)).symm] at hI; exact hI) hmo hso) hbo _ _ hP hD hS _ (lv_sub hl [0] rfl)
    · have hlt : rd < c0 := k_lt c_1 (by omega)
      refine lv_iconst (v := 0) hx hb dX1_spread_10 (by decide) ?_
      refine x_topi (y := nI 0) (rfl) ?_
      refine lv_istore_n (lv' := [(3, .int (nI 0)), (0, .ref (ad 0)), (1, .ref (ad 7)), (2, .int (nI rd))]) hx hb dX1_spread_11 rfl hl (by decide) rfl (fun ls hl => ?_)
      refine lm_spn_r (dC := dC) (dI := dI) (ad := ad) (cz := cz) (ci := ci) (cj := cj) (Ar := Ar) hx hb hml hown hw hK hA (Nat.le_trans (Nat.le_of_ble_eq_true rfl) hR1) (Nat.le_trans (Nat.le_of_ble_eq_true rfl) hR2) fO fG fH fM fN fT fF fK fV fE th sO sA sB sT c0 hg hm fX0 rd fX1 ?_  (c0 + 1) 0 fX1 (by omega) (by omega) (fun _ _ h => h) hso (fun k hk => absurd hk (Nat.not_lt_zero _)) hbo _ _ hP hD hS _ (lv_sub hl [1, 2, 3, 0] rfl)
      intro fX2 hmo2 hso2 hdn2 hbo2 H locs hP hD hS ls hl
      refine lv_iinc (v := (nI (rd + 1))) (lv' := [(2, .int (nI (rd + 1))), (0, .ref (ad 0)), (1, .ref (ad 7))]) hx hb dX1_spread_66 hl (k := 2) rfl (nI_1 rd) (by decide) rfl (fun ls hl => ?_)
      refine lv_goto (tgt := 2) hx hb dX1_spread_69 (by decide) ?_
      exact ih (rd + 1) fX2 (by omega) (by omega) (fun m hm2 h => hmo2 m hm2 (hmo m hm2 h)) hso2 (m_round (X0 := (fun m => ¬ fX0 m = 0)) (X1 := (fun m => ¬ fX1 m = 0)) (X2 := (fun m => ¬ fX2 m = 0)) (g_sok hg) hI hmo hmo2 hdn2 hso2) hbo2 _ _ hP hD hS _ (lv_sub hl [1, 2, 0] rfl)
set_option maxHeartbeats 4000000 in
set_option maxRecDepth 100000 in
theorem c_X1_spread_r (l : Launch) (dC : Nat → ClassId) (dI : Nat → Nat → Nat) (ad : Nat → Nat) (cz ci cj : ClassId) (sz : Nat) (st : Int32) (fO : Nat → Int32) (fG : Nat → Int32) (fH : Nat → Int32) (fM : Nat → Int32) (fN : Nat → Int32) (fT : Nat → Int32) (fR : Nat → Int32) (fF : Nat → Int32) (fK : Nat → Int32) (fV : Nat → Int32) (fE : Nat → Int32) (th : Int32)  (sO sA sB sT : Nat → Int32) (c0 : Nat) (hg : g_ok c0 sO sA sB sT) (hm : m_rel c0 sO sA sB sT fO fG fH fM fN fT) (hb0 : m_bo c0 fR) : Met l yX1_spread wX1_spread ({ frames := 1, cells := 0, slots := 0, locals := 21 }) (va_Pc [.ref (ad 0), .ref (ad 7)] (g_Pre (dC, dI) vwCl (gty cz ci cj) (mw ad cz ci cj ((nI c0), fO, fG, fH, fM, fN, fT, fR, fF, fK, fV, fE, th)) sz)) (va_Qv (fun (u : MS) => ∃ fX1 : Nat → Int32, (∀ m, m < c0 → ((¬ fX1 m = 0) ↔ m_cl c0 (gmv sO sA sB) (gtg sT) (fun m => ¬ fR m = 0) m)) ∧ m_bo c0 fX1 ∧ u = ((nI c0), fO, fG, fH, fM, fN, fT, fX1, fF, fK, fV, fE, th)) (g_At (dC, dI) vwCl (gty cz ci cj) (va_A (mw ad cz ci cj ((nI c0), fO, fG, fH, fM, fN, fT, fR, fF, fK, fV, fE, th)) sz) (mw ad cz ci cj)) (va_A (mw ad cz ci cj ((nI c0), fO, fG, fH, fM, fN, fT, fR, fF, fK, fV, fE, th)) sz)) 0 0 (va_A (mw ad cz ci cj ((nI c0), fO, fG, fH, fM, fN, fT, fR, fF, fK, fV, fE, th)) sz) := by
  refine Met.ofW (cc := cX1_spread) (maxL := 5) (ret := none) (by decide) rfl ?_
  intro p e s m args below meth c s₁ Bd hml hv
  obtain ⟨rfl, hsz, hP, hK, hD0⟩ := hv
  have hx := Bd.exec
  have hb := Bd.bytes
  have hr := Bd.returns
  have hts := atoms_spec (ws := wX1_spread) Bd.pre
  have hw : ∀ w ∈ wAll, w.before _ s = true := fun w h => hts w (List.mem_cons_of_mem _ h)
  have hown : s.vm.findClass "GameGraphModel" = some m.cls := findClass_of_methodNamed Bd.named
  have hlocks := Bd.notSynchronized
  subst hsz
  have hD := hD0.self (sz := s.heap.size)
  generalize hAe : va_A (mw ad cz ci cj ((nI c0), fO, fG, fH, fM, fN, fT, fR, fF, fK, fV, fE, th)) s.heap.size = Ar at hD ⊢
  have hA : ∀ q : Nat, s.heap.size ≤ q → Ar q := fun q h => by rw [← hAe]; exact Or.inr h
  obtain ⟨H, hH⟩ : ∃ H : Heap, H = s.heap := ⟨_, rfl⟩
  have hS : va_S Ar s.heap H [] := by rw [hH]; exact va_S.rf
  have hP : va_P (dC, dI) vwCl (mw ad cz ci cj ((nI c0), fO, fG, fH, fM, fN, fT, fR, fF, fK, fV, fE, th)) H := by rw [hH]; exact hP
  rw [← hH]
  have hl := lv_entry ([.ref (ad 0), .ref (ad 7)]) (n := 5) (Nat.le_of_ble_eq_true rfl)
  rw [lg_entry_eq]
  generalize (lg_sl ([.ref (ad 0), .ref (ad 7)]) ++ List.replicate (5 - (lg_sl ([.ref (ad 0), .ref (ad 7)])).length) Slot.unset).toArray = ls at hl ⊢
  have hl : lv_has ls 5 [(0, .ref (ad 0)), (1, .ref (ad 7))] := hl
  refine lv_iconst (v := 0) hx hb dX1_spread_0 (by decide) ?_
  refine x_topi (y := nI 0) (rfl) ?_
  refine lv_istore_n (lv' := [(2, .int (nI 0)), (0, .ref (ad 0)), (1, .ref (ad 7))]) hx hb dX1_spread_1 rfl hl (by decide) rfl (fun ls hl => ?_)
  refine lm_spr_r (dC := dC) (dI := dI) (ad := ad) (cz := cz) (ci := ci) (cj := cj) (Ar := Ar) hx hb hml hown hw hK hA (Nat.le_of_ble_eq_true rfl) (Nat.le_of_ble_eq_true rfl) fO fG fH fM fN fT fF fK fV fE th sO sA sB sT c0 hg hm fR ?_  (c0 + 1) 0 fR (by omega) (by omega) (fun _ _ h => h) (fun m hm2 h => ⟨m, hm2, h, Or.inl rfl⟩) (Or.inr (Nat.zero_le _)) hb0 _ _ hP hD hS _ (lv_sub hl [1, 2, 0] rfl)
  intro fX1 hEQ hbo H locs hP hD hS ls hl
  exact W.vret hx hb hr (fun t ht hW => ⟨⟨((nI c0), fO, fG, fH, fM, fN, fT, fX1, fF, fK, fV, fE, th), rfl, (⟨fX1, hEQ, hbo, rfl⟩), (by rw [ht]; exact hP), va_K.moved hW.alike hK, hD⟩, hS.F ht⟩) hS.2.2 dX1_spread_72
set_option maxHeartbeats 4000000 in
set_option maxRecDepth 100000 in
theorem lm_spj_f {p : Program} {l : Launch} {e : Env} {R : Room} {s : State} {m : MethodId} {args : Array Value} {below : List Frame} {meth : Method} {c : Code} {Q : State → Prop} {dC : Nat → ClassId} {dI : Nat → Nat → Nat} {ad : Nat → Nat} {cz ci cj : ClassId} {Ar : Nat → Prop}  (hx : p.tables.exec = Jvm.exec) (hb : c.code = cX1_spread) (hml : c.maxLocals = 5) (hown : s.vm.findClass "GameGraphModel" = some m.cls) (hw : ∀ w ∈ wAll, w.before args s = true) (hK : va_K (dC, dI) vwCl (gty cz ci cj) s) (hA : ∀ q, s.heap.size ≤ q → Ar q) (hR1 : 1 ≤ R.frames) (hR2 : 21 ≤ R.locals) (fO fG fH fM fN fT fR fK fV fE : Nat → Int32) (th : Int32) (sO sA sB sT : Nat → Int32) (c0 : Nat) (hg : g_ok c0 sO sA sB sT) (hm : m_rel c0 sO sA sB sT fO fG fH fM fN fT) (fX0 : Nat → Int32) (rd n : Nat) (hn : n < c0) (fX2 : Nat → Int32)
    (kx : ∀ (fX3 : Nat → Int32), (∀ m, m < c0 → ¬ fX2 m = 0 → ¬ fX3 m = 0) → (∀ m, m < c0 → ¬ fX3 m = 0 → m_cl c0 (gmv sO sA sB) (gtg sT) (fun m => ¬ fX0 m = 0) m) → (¬ fX2 n = 0 → ∀ i, i < gmv sO sA sB n → ¬ fX3 (gtg sT n i) = 0) → (m_bo c0 fX3) → ∀ (H : Heap) (locs : List Loc), va_P (dC, dI) vwCl (mw ad cz ci cj ((nI c0), fO, fG, fH, fM, fN, fT, fR, fX3, fK, fV, fE, th)) H → va_D Ar (mw ad cz ci cj ((nI c0), fO, fG, fH, fM, fN, fT, fR, fX3, fK, fV, fE, th)) → va_S Ar s.heap H locs → ∀ (ls : Array Slot), lv_has ls 5 [(0, .ref (ad 0)), (1, .ref (ad 8)), (2, .int (nI rd)), (3, .int (nI n))] → W p l e R s m args below meth c H locs 0 0 Q (F0 m 60 ls [])) :
    ∀ (fuel : Nat) (j : Nat) (fX3 : Nat → Int32), gmv sO sA sB n + 1 ≤ j + fuel → j ≤ gmv sO sA sB n → (∀ m, m < c0 → ¬ fX2 m = 0 → ¬ fX3 m = 0) → (∀ m, m < c0 → ¬ fX3 m = 0 → m_cl c0 (gmv sO sA sB) (gtg sT) (fun m => ¬ fX0 m = 0) m) → (¬ fX2 n = 0 → ∀ i, i < j → ¬ fX3 (gtg sT n i) = 0) → (m_bo c0 fX3) → ∀ (H : Heap) (locs : List Loc), va_P (dC, dI) vwCl (mw ad cz ci cj ((nI c0), fO, fG, fH, fM, fN, fT, fR, fX3, fK, fV, fE, th)) H → va_D Ar (mw ad cz ci cj ((nI c0), fO, fG, fH, fM, fN, fT, fR, fX3, fK, fV, fE, th)) → va_S Ar s.heap H locs → ∀ (ls : Array Slot), lv_has ls 5 [(0, .ref (ad 0)), (1, .ref (ad 8)), (2, .int (nI rd)), (3, .int (nI n)), (4, .int (nI j))] → W p l e R s m args below meth c H locs 0 0 Q (F0 m 23 ls []) := by
  intro fuel
  induction fuel with
  | zero => intro j fX3 hfu hj hmo hso hdn hbo; exact absurd hfu (by omega)
  | succ fuel ih =>
    intro j fX3 hfu hj hmo hso hdn hbo H locs hP hD hS ls hl
    have h60 := hg.2.1
    have h12 := (m_mv hg hm hn).2
    refine lv_iload hx hb dX1_spread_23 (lv_at hl 4 rfl) ?_
    refine lv_aload_n hx hb dX1_spread_25 rfl (lv_at hl 0 rfl) ?_
    refine lv_iload_n hx hb dX1_spread_26 rfl (lv_at hl 3 rfl) ?_
    refine g_calli ⟨hx, hb, hml, hown, hw⟩ (c_X1_joint l dC dI ad cz ci cj H.size (nI c0) fO fG fH fM fN fT fR fX3 fK fV fE th n (by omega)) (cwV 1 hw gv_X1_X1_joint rfl rfl rfl (by decide +kernel) ⟨Nat.le_trans (Nat.le_of_ble_eq_true rfl) hR1, Nat.le_trans (Nat.le_of_ble_eq_true rfl) hR2⟩) hK hP hD hS hA (ci := 1) (q0 := 0) rfl rfl rfl hl.1 rfl (Nat.le_of_ble_eq_true rfl) dX1_spread_27 ⟨Nat.zero_le _, Nat.zero_le _⟩ (fun r_1 un H locs hq hP hD hS => ?_)
    obtain ⟨rfl, hq⟩ := hq
    have hP : va_P (dC, dI) vwCl (mw ad cz ci cj ((nI c0), fO, fG, fH, fM, fN, fT, fR, fX3, fK, fV, fE, th)) H := hP
    have hD : va_D Ar (mw ad cz ci cj ((nI c0), fO, fG, fH, fM, fN, fT, fR, fX3, fK, fV, fE, th)) := hD
    refine x_topi (y := nI (gmv sO sA sB n)) (by rw [hq]; exact (m_mv hg hm hn).1) ?_
    refine lv_icmp_ge (tgt := 60) hx hb dX1_spread_30 (by decide) (fun c_2 => ?_) (fun c_2 => ?_)
    · exact kx fX3 hmo hso (fun h i hi => hdn h i (by have := k_eq hj c_2 (by omega); omega)) hbo _ _ hP hD hS _ (lv_sub hl [0, 1, 2, 3] rfl)
    · have hlt : j < gmv sO sA sB n := k_lt c_2 (by omega)
      refine lv_aload_n hx hb dX1_spread_33 rfl (lv_at hl 1 rfl) ?_
      refine lv_iload_n hx hb dX1_spread_34 rfl (lv_at hl 3 rfl) ?_
      refine va_zald hx hb hK hP 8 0 rfl rfl (vp_in_nI (by omega) (by decide)) dX1_spread_35 ?_
      refine x_topi (y := fX3 n) (by rw [nI_clamp (by omega)]) ?_
      refine lv_if_eq (tgt := 60) hx hb dX1_spread_36 (by decide) (fun cb_3 => ?_) (fun cb_3 => ?_)
      · exact kx fX3 hmo hso (fun h => absurd cb_3 (hmo n hn h)) hbo _ _ hP hD hS _ (lv_sub hl [0, 1, 2, 3] rfl)
      · refine lv_aload_n hx hb dX1_spread_39 rfl (lv_at hl 1 rfl) ?_
        refine lv_aload_n hx hb dX1_spread_40 rfl (lv_at hl 0 rfl) ?_
        refine va_get (D := (dC, dI)) (ci := 1) (v := .ref (ad 6)) (C := RX1) (T := TX1) (N := 13) hx hb hw in_X1 hown hK hP 0 rfl rfl 6 (by decide) (hw _ m_8_30) (fun _ h9 => h9) rfl dX1_spread_41 ?_
        refine lv_bipush (v := 12) hx hb dX1_spread_44 (by decide) ?_
        refine lv_iload_n hx hb dX1_spread_46 rfl (lv_at hl 3 rfl) ?_
        refine lv_imul hx hb dX1_spread_47 ?_
        refine x_topi (y := nI (n * 12)) ((pk_mul 12 n).trans (by rw [Nat.mul_comm])) ?_
        refine lv_iload hx hb dX1_spread_48 (lv_at hl 4 rfl) ?_
        refine lv_iadd hx hb dX1_spread_50 ?_
        refine x_topi (y := nI (n * 12 + j)) (nI_add _ _) ?_
        have ht := m_tg hg hm hn hlt
        refine va_iald hx hb hK hP 6 1 rfl rfl (vp_in_nI (by omega) (by decide)) dX1_spread_51 ?_
        refine x_topi (y := fT (n * 12 + j)) (by rw [nI_clamp (by omega)]) ?_
        refine x_topi (y := nI (gtg sT n j)) (ht.1) ?_
        refine lv_iconst (v := 1) hx hb dX1_spread_52 (by decide) ?_
        refine va_zast hx hb hK hP hD hS 8 0 rfl rfl (vp_in_nI (by omega) (by decide)) dX1_spread_53 (fun H locs hP hD hS => ?_)
        rw [nI_clamp (by omega)] at hP hD
        rw [show vp_nar .boolean 1 = 1 by decide] at hP hD
        have hP : va_P (dC, dI) vwCl (mw ad cz ci cj ((nI c0), fO, fG, fH, fM, fN, fT, fR, (upd fX3 (gtg sT n j) 1), fK, fV, fE, th)) H := hP
        have hD : va_D Ar (mw ad cz ci cj ((nI c0), fO, fG, fH, fM, fN, fT, fR, (upd fX3 (gtg sT n j) 1), fK, fV, fE, th)) := hD
        refine lv_iinc (v := (nI (j + 1))) (lv' := [(4, .int (nI (j + 1))), (0, .ref (ad 0)), (1, .ref (ad 8)), (2, .int (nI rd)), (3, .int (nI n))]) hx hb dX1_spread_54 hl (k := 4) rfl (nI_1 j) (by decide) rfl (fun ls hl => ?_)
        refine lv_goto (tgt := 23) hx hb dX1_spread_57 (by decide) ?_
        exact ih (j + 1) (upd fX3 (gtg sT n j) 1) (by omega) (by omega) (fun m hm2 h => m_up (hmo m hm2 h)) (fun m hm2 h => m_ups (P := fun m => m_cl c0 (gmv sO sA sB) (gtg sT) (fun m => ¬ fX0 m = 0) m) (hso m hm2) (m_cl_st (g_sok hg) (hso n hn cb_3) hn hlt) h) (fun h i hi => by rcases Nat.lt_or_ge i j with q | q; exact m_up (hdn h i q); have e : i = j := (by omega); rw [e]; exact m_up1) (m_bo_u hbo _ (Or.inr rfl)) _ _ hP hD hS _ (lv_sub hl [1, 2, 3, 4, 0] rfl)
set_option maxHeartbeats 4000000 in
set_option maxRecDepth 100000 in
theorem lm_spn_f {p : Program} {l : Launch} {e : Env} {R : Room} {s : State} {m : MethodId} {args : Array Value} {below : List Frame} {meth : Method} {c : Code} {Q : State → Prop} {dC : Nat → ClassId} {dI : Nat → Nat → Nat} {ad : Nat → Nat} {cz ci cj : ClassId} {Ar : Nat → Prop}  (hx : p.tables.exec = Jvm.exec) (hb : c.code = cX1_spread) (hml : c.maxLocals = 5) (hown : s.vm.findClass "GameGraphModel" = some m.cls) (hw : ∀ w ∈ wAll, w.before args s = true) (hK : va_K (dC, dI) vwCl (gty cz ci cj) s) (hA : ∀ q, s.heap.size ≤ q → Ar q) (hR1 : 1 ≤ R.frames) (hR2 : 21 ≤ R.locals) (fO fG fH fM fN fT fR fK fV fE : Nat → Int32) (th : Int32) (sO sA sB sT : Nat → Int32) (c0 : Nat) (hg : g_ok c0 sO sA sB sT) (hm : m_rel c0 sO sA sB sT fO fG fH fM fN fT) (fX0 : Nat → Int32) (rd : Nat) (fX1 : Nat → Int32)
    (kx : ∀ (fX2 : Nat → Int32), (∀ m, m < c0 → ¬ fX1 m = 0 → ¬ fX2 m = 0) → (∀ m, m < c0 → ¬ fX2 m = 0 → m_cl c0 (gmv sO sA sB) (gtg sT) (fun m => ¬ fX0 m = 0) m) → (∀ k, k < c0 → ¬ fX1 k = 0 → ∀ i, i < gmv sO sA sB k → ¬ fX2 (gtg sT k i) = 0) → (m_bo c0 fX2) → ∀ (H : Heap) (locs : List Loc), va_P (dC, dI) vwCl (mw ad cz ci cj ((nI c0), fO, fG, fH, fM, fN, fT, fR, fX2, fK, fV, fE, th)) H → va_D Ar (mw ad cz ci cj ((nI c0), fO, fG, fH, fM, fN, fT, fR, fX2, fK, fV, fE, th)) → va_S Ar s.heap H locs → ∀ (ls : Array Slot), lv_has ls 5 [(0, .ref (ad 0)), (1, .ref (ad 8)), (2, .int (nI rd))] → W p l e R s m args below meth c H locs 0 0 Q (F0 m 66 ls [])) :
    ∀ (fuel : Nat) (n : Nat) (fX2 : Nat → Int32), c0 + 1 ≤ n + fuel → n ≤ c0 → (∀ m, m < c0 → ¬ fX1 m = 0 → ¬ fX2 m = 0) → (∀ m, m < c0 → ¬ fX2 m = 0 → m_cl c0 (gmv sO sA sB) (gtg sT) (fun m => ¬ fX0 m = 0) m) → (∀ k, k < n → ¬ fX1 k = 0 → ∀ i, i < gmv sO sA sB k → ¬ fX2 (gtg sT k i) = 0) → (m_bo c0 fX2) → ∀ (H : Heap) (locs : List Loc), va_P (dC, dI) vwCl (mw ad cz ci cj ((nI c0), fO, fG, fH, fM, fN, fT, fR, fX2, fK, fV, fE, th)) H → va_D Ar (mw ad cz ci cj ((nI c0), fO, fG, fH, fM, fN, fT, fR, fX2, fK, fV, fE, th)) → va_S Ar s.heap H locs → ∀ (ls : Array Slot), lv_has ls 5 [(0, .ref (ad 0)), (1, .ref (ad 8)), (2, .int (nI rd)), (3, .int (nI n))] → W p l e R s m args below meth c H locs 0 0 Q (F0 m 12 ls []) := by
  intro fuel
  induction fuel with
  | zero => intro n fX2 hfu hn hmo hso hdn hbo; exact absurd hfu (by omega)
  | succ fuel ih =>
    intro n fX2 hfu hn hmo hso hdn hbo H locs hP hD hS ls hl
    have h60 := hg.2.1
    refine lv_iload_n hx hb dX1_spread_12 rfl (lv_at hl 3 rfl) ?_
    refine lv_aload_n hx hb dX1_spread_13 rfl (lv_at hl 0 rfl) ?_
    refine va_get (D := (dC, dI)) (ci := 1) (v := .int (nI c0)) (C := RX1) (T := TX1) (N := 13) hx hb hw in_X1 hown hK hP 0 rfl rfl 0 (by decide) (hw _ m_8_24) (fun _ h9 => h9) rfl dX1_spread_14 ?_
    refine lv_icmp_ge (tgt := 66) hx hb dX1_spread_17 (by decide) (fun c_1 => ?_) (fun c_1 => ?_)
    · exact kx fX2 hmo hso (fun k hk h i hi => hdn k (by have := k_eq hn c_1 (by omega); omega) h i hi) hbo _ _ hP hD hS _ (lv_sub hl [0, 1, 2] rfl)
    · have hlt : n < c0 := k_lt c_1 (by omega)
      refine lv_iconst (v := 0) hx hb dX1_spread_20 (by decide) ?_
      refine x_topi (y := nI 0) (rfl) ?_
      refine lv_istore (lv' := [(4, .int (nI 0)), (0, .ref (ad 0)), (1, .ref (ad 8)), (2, .int (nI rd)), (3, .int (nI n))]) hx hb dX1_spread_21 hl (by decide) rfl (fun ls hl => ?_)
      refine lm_spj_f (dC := dC) (dI := dI) (ad := ad) (cz := cz) (ci := ci) (cj := cj) (Ar := Ar) hx hb hml hown hw hK hA (Nat.le_trans (Nat.le_of_ble_eq_true rfl) hR1) (Nat.le_trans (Nat.le_of_ble_eq_true rfl) hR2) fO fG fH fM fN fT fR fK fV fE th sO sA sB sT c0 hg hm fX0 rd n hlt fX2 ?_  (gmv sO sA sB n + 1) 0 fX2 (by omega) (by omega) (fun _ _ h => h) hso (fun _ i hi => absurd hi (Nat.not_lt_zero _)) hbo _ _ hP hD hS _ (lv_sub hl [1, 2, 3, 4, 0] rfl)
      intro fX3 hmo2 hso2 hdn2 hbo2 H locs hP hD hS ls hl
      refine lv_iinc (v := (nI (n + 1))) (lv' := [(3, .int (nI (n + 1))), (0, .ref (ad 0)), (1, .ref (ad 8)), (2, .int (nI rd))]) hx hb dX1_spread_60 hl (k := 3) rfl (nI_1 n) (by decide) rfl (fun ls hl => ?_)
      refine lv_goto (tgt := 12) hx hb dX1_spread_63 (by decide) ?_
      exact ih (n + 1) fX3 (by omega) (by omega) (fun m hm2 h => hmo2 m hm2 (hmo m hm2 h)) hso2 (fun k hk h i hi => by rcases Nat.lt_or_ge k n with q | q; exact hmo2 _ ((g_sok hg).2 k (by omega) i hi) (hdn k q h i hi); have e : k = n := (by omega); subst e; exact hdn2 (hmo k hlt h) i hi) hbo2 _ _ hP hD hS _ (lv_sub hl [1, 2, 3, 0] rfl)
set_option maxHeartbeats 4000000 in
set_option maxRecDepth 100000 in
theorem lm_spr_f {p : Program} {l : Launch} {e : Env} {R : Room} {s : State} {m : MethodId} {args : Array Value} {below : List Frame} {meth : Method} {c : Code} {Q : State → Prop} {dC : Nat → ClassId} {dI : Nat → Nat → Nat} {ad : Nat → Nat} {cz ci cj : ClassId} {Ar : Nat → Prop}  (hx : p.tables.exec = Jvm.exec) (hb : c.code = cX1_spread) (hml : c.maxLocals = 5) (hown : s.vm.findClass "GameGraphModel" = some m.cls) (hw : ∀ w ∈ wAll, w.before args s = true) (hK : va_K (dC, dI) vwCl (gty cz ci cj) s) (hA : ∀ q, s.heap.size ≤ q → Ar q) (hR1 : 1 ≤ R.frames) (hR2 : 21 ≤ R.locals) (fO fG fH fM fN fT fR fK fV fE : Nat → Int32) (th : Int32) (sO sA sB sT : Nat → Int32) (c0 : Nat) (hg : g_ok c0 sO sA sB sT) (hm : m_rel c0 sO sA sB sT fO fG fH fM fN fT) (fX0 : Nat → Int32)
    (kx : ∀ (fX1 : Nat → Int32), (∀ m, m < c0 → ((¬ fX1 m = 0) ↔ m_cl c0 (gmv sO sA sB) (gtg sT) (fun m => ¬ fX0 m = 0) m)) → (m_bo c0 fX1) → ∀ (H : Heap) (locs : List Loc), va_P (dC, dI) vwCl (mw ad cz ci cj ((nI c0), fO, fG, fH, fM, fN, fT, fR, fX1, fK, fV, fE, th)) H → va_D Ar (mw ad cz ci cj ((nI c0), fO, fG, fH, fM, fN, fT, fR, fX1, fK, fV, fE, th)) → va_S Ar s.heap H locs → ∀ (ls : Array Slot), lv_has ls 5 [(0, .ref (ad 0))] → W p l e R s m args below meth c H locs 0 0 Q (F0 m 72 ls [])) :
    ∀ (fuel : Nat) (rd : Nat) (fX1 : Nat → Int32), c0 + 1 ≤ rd + fuel → rd ≤ c0 → (∀ m, m < c0 → ¬ fX0 m = 0 → ¬ fX1 m = 0) → (∀ m, m < c0 → ¬ fX1 m = 0 → m_cl c0 (gmv sO sA sB) (gtg sT) (fun m => ¬ fX0 m = 0) m) → (m_cd c0 (gmv sO sA sB) (gtg sT) (fun m => ¬ fX1 m = 0) ∨ rd ≤ w_ct (fun m => ¬ fX1 m = 0) c0) → (m_bo c0 fX1) → ∀ (H : Heap) (locs : List Loc), va_P (dC, dI) vwCl (mw ad cz ci cj ((nI c0), fO, fG, fH, fM, fN, fT, fR, fX1, fK, fV, fE, th)) H → va_D Ar (mw ad cz ci cj ((nI c0), fO, fG, fH, fM, fN, fT, fR, fX1, fK, fV, fE, th)) → va_S Ar s.heap H locs → ∀ (ls : Array Slot), lv_has ls 5 [(0, .ref (ad 0)), (1, .ref (ad 8)), (2, .int (nI rd))] → W p l e R s m args below meth c H locs 0 0 Q (F0 m 2 ls []) := by
  intro fuel
  induction fuel with
  | zero => intro rd fX1 hfu hrd hmo hso hI hbo; exact absurd hfu (by omega)
  | succ fuel ih =>
    intro rd fX1 hfu hrd hmo hso hI hbo H locs hP hD hS ls hl
    have h60 := hg.2.1
    refine lv_iload_n hx hb dX1_spread_2 rfl (lv_at hl 2 rfl) ?_
    refine lv_aload_n hx hb dX1_spread_3 rfl (lv_at hl 0 rfl) ?_
    refine va_get (D := (dC, dI)) (ci := 1) (v := .int (nI c0)) (C := RX1) (T := TX1) (N := 13) hx hb hw in_X1 hown hK hP 0 rfl rfl 0 (by decide) (hw _ m_8_24) (fun _ h9 => h9) rfl dX1_spread_4 ?_
    refine lv_icmp_ge (tgt := 72) hx hb dX1_spread_7 (by decide) (fun c_1 => ?_) (fun c_1 => ?_)
    · exact kx fX1 (m_end (X0 := (fun m => ¬ fX0 m = 0)) (X1 := (fun m => ¬ fX1 m = 0)) (g_sok hg) (by rw [show rd = c0 from (k_eq hrd c_1 (by omega)).symm] at hI; exact hI) hmo hso) hbo _ _ hP hD hS _ (lv_sub hl [0] rfl)
    · have hlt : rd < c0 := k_lt c_1 (by omega)
      refine lv_iconst (v := 0) hx hb dX1_spread_10 (by decide) ?_
      refine x_topi (y := nI 0) (rfl) ?_
      refine lv_istore_n (lv' := [(3, .int (nI 0)), (0, .ref (ad 0)), (1, .ref (ad 8)), (2, .int (nI rd))]) hx hb dX1_spread_11 rfl hl (by decide) rfl (fun ls hl => ?_)
      refine lm_spn_f (dC := dC) (dI := dI) (ad := ad) (cz := cz) (ci := ci) (cj := cj) (Ar := Ar) hx hb hml hown hw hK hA (Nat.le_trans (Nat.le_of_ble_eq_true rfl) hR1) (Nat.le_trans (Nat.le_of_ble_eq_true rfl) hR2) fO fG fH fM fN fT fR fK fV fE th sO sA sB sT c0 hg hm fX0 rd fX1 ?_  (c0 + 1) 0 fX1 (by omega) (by omega) (fun _ _ h => h) hso (fun k hk => absurd hk (Nat.not_lt_zero _)) hbo _ _ hP hD hS _ (lv_sub hl [1, 2, 3, 0] rfl)
      intro fX2 hmo2 hso2 hdn2 hbo2 H locs hP hD hS ls hl
      refine lv_iinc (v := (nI (rd + 1))) (lv' := [(2, .int (nI (rd + 1))), (0, .ref (ad 0)), (1, .ref (ad 8))]) hx hb dX1_spread_66 hl (k := 2) rfl (nI_1 rd) (by decide) rfl (fun ls hl => ?_)
      refine lv_goto (tgt := 2) hx hb dX1_spread_69 (by decide) ?_
      exact ih (rd + 1) fX2 (by omega) (by omega) (fun m hm2 h => hmo2 m hm2 (hmo m hm2 h)) hso2 (m_round (X0 := (fun m => ¬ fX0 m = 0)) (X1 := (fun m => ¬ fX1 m = 0)) (X2 := (fun m => ¬ fX2 m = 0)) (g_sok hg) hI hmo hmo2 hdn2 hso2) hbo2 _ _ hP hD hS _ (lv_sub hl [1, 2, 0] rfl)
set_option maxHeartbeats 4000000 in
set_option maxRecDepth 100000 in
theorem c_X1_spread_f (l : Launch) (dC : Nat → ClassId) (dI : Nat → Nat → Nat) (ad : Nat → Nat) (cz ci cj : ClassId) (sz : Nat) (st : Int32) (fO : Nat → Int32) (fG : Nat → Int32) (fH : Nat → Int32) (fM : Nat → Int32) (fN : Nat → Int32) (fT : Nat → Int32) (fR : Nat → Int32) (fF : Nat → Int32) (fK : Nat → Int32) (fV : Nat → Int32) (fE : Nat → Int32) (th : Int32)  (sO sA sB sT : Nat → Int32) (c0 : Nat) (hg : g_ok c0 sO sA sB sT) (hm : m_rel c0 sO sA sB sT fO fG fH fM fN fT) (hb0 : m_bo c0 fF) : Met l yX1_spread wX1_spread ({ frames := 1, cells := 0, slots := 0, locals := 21 }) (va_Pc [.ref (ad 0), .ref (ad 8)] (g_Pre (dC, dI) vwCl (gty cz ci cj) (mw ad cz ci cj ((nI c0), fO, fG, fH, fM, fN, fT, fR, fF, fK, fV, fE, th)) sz)) (va_Qv (fun (u : MS) => ∃ fX1 : Nat → Int32, (∀ m, m < c0 → ((¬ fX1 m = 0) ↔ m_cl c0 (gmv sO sA sB) (gtg sT) (fun m => ¬ fF m = 0) m)) ∧ m_bo c0 fX1 ∧ u = ((nI c0), fO, fG, fH, fM, fN, fT, fR, fX1, fK, fV, fE, th)) (g_At (dC, dI) vwCl (gty cz ci cj) (va_A (mw ad cz ci cj ((nI c0), fO, fG, fH, fM, fN, fT, fR, fF, fK, fV, fE, th)) sz) (mw ad cz ci cj)) (va_A (mw ad cz ci cj ((nI c0), fO, fG, fH, fM, fN, fT, fR, fF, fK, fV, fE, th)) sz)) 0 0 (va_A (mw ad cz ci cj ((nI c0), fO, fG, fH, fM, fN, fT, fR, fF, fK, fV, fE, th)) sz) := by
  refine Met.ofW (cc := cX1_spread) (maxL := 5) (ret := none) (by decide) rfl ?_
  intro p e s m args below meth c s₁ Bd hml hv
  obtain ⟨rfl, hsz, hP, hK, hD0⟩ := hv
  have hx := Bd.exec
  have hb := Bd.bytes
  have hr := Bd.returns
  have hts := atoms_spec (ws := wX1_spread) Bd.pre
  have hw : ∀ w ∈ wAll, w.before _ s = true := fun w h => hts w (List.mem_cons_of_mem _ h)
  have hown : s.vm.findClass "GameGraphModel" = some m.cls := findClass_of_methodNamed Bd.named
  have hlocks := Bd.notSynchronized
  subst hsz
  have hD := hD0.self (sz := s.heap.size)
  generalize hAe : va_A (mw ad cz ci cj ((nI c0), fO, fG, fH, fM, fN, fT, fR, fF, fK, fV, fE, th)) s.heap.size = Ar at hD ⊢
  have hA : ∀ q : Nat, s.heap.size ≤ q → Ar q := fun q h => by rw [← hAe]; exact Or.inr h
  obtain ⟨H, hH⟩ : ∃ H : Heap, H = s.heap := ⟨_, rfl⟩
  have hS : va_S Ar s.heap H [] := by rw [hH]; exact va_S.rf
  have hP : va_P (dC, dI) vwCl (mw ad cz ci cj ((nI c0), fO, fG, fH, fM, fN, fT, fR, fF, fK, fV, fE, th)) H := by rw [hH]; exact hP
  rw [← hH]
  have hl := lv_entry ([.ref (ad 0), .ref (ad 8)]) (n := 5) (Nat.le_of_ble_eq_true rfl)
  rw [lg_entry_eq]
  generalize (lg_sl ([.ref (ad 0), .ref (ad 8)]) ++ List.replicate (5 - (lg_sl ([.ref (ad 0), .ref (ad 8)])).length) Slot.unset).toArray = ls at hl ⊢
  have hl : lv_has ls 5 [(0, .ref (ad 0)), (1, .ref (ad 8))] := hl
  refine lv_iconst (v := 0) hx hb dX1_spread_0 (by decide) ?_
  refine x_topi (y := nI 0) (rfl) ?_
  refine lv_istore_n (lv' := [(2, .int (nI 0)), (0, .ref (ad 0)), (1, .ref (ad 8))]) hx hb dX1_spread_1 rfl hl (by decide) rfl (fun ls hl => ?_)
  refine lm_spr_f (dC := dC) (dI := dI) (ad := ad) (cz := cz) (ci := ci) (cj := cj) (Ar := Ar) hx hb hml hown hw hK hA (Nat.le_of_ble_eq_true rfl) (Nat.le_of_ble_eq_true rfl) fO fG fH fM fN fT fR fK fV fE th sO sA sB sT c0 hg hm fF ?_  (c0 + 1) 0 fF (by omega) (by omega) (fun _ _ h => h) (fun m hm2 h => ⟨m, hm2, h, Or.inl rfl⟩) (Or.inr (Nat.zero_le _)) hb0 _ _ hP hD hS _ (lv_sub hl [1, 2, 0] rfl)
  intro fX1 hEQ hbo H locs hP hD hS ls hl
  exact W.vret hx hb hr (fun t ht hW => ⟨⟨((nI c0), fO, fG, fH, fM, fN, fT, fR, fX1, fK, fV, fE, th), rfl, (⟨fX1, hEQ, hbo, rfl⟩), (by rw [ht]; exact hP), va_K.moved hW.alike hK, hD⟩, hS.F ht⟩) hS.2.2 dX1_spread_72
theorem k_r01 {f g : Nat → Int32} {i : Nat} {x : Int32} (h : ∀ k, k < i → f k = g k) (hx : x = g i) : ∀ k, k < i + 1 → upd f i x k = g k := by
  intro k hk
  by_cases e : k = i
  · subst e; rw [pk_us]; exact hx
  · rw [pk_un e]; exact h k (by omega)
set_option maxHeartbeats 4000000 in
set_option maxRecDepth 100000 in
theorem lm_reach {p : Program} {l : Launch} {e : Env} {R : Room} {s : State} {m : MethodId} {args : Array Value} {below : List Frame} {meth : Method} {c : Code} {Q : State → Prop} {dC : Nat → ClassId} {dI : Nat → Nat → Nat} {ad : Nat → Nat} {cz ci cj : ClassId} {Ar : Nat → Prop}  (hx : p.tables.exec = Jvm.exec) (hb : c.code = cX1_reach) (hml : c.maxLocals = 2) (hown : s.vm.findClass "GameGraphModel" = some m.cls) (hw : ∀ w ∈ wAll, w.before args s = true) (hK : va_K (dC, dI) vwCl (gty cz ci cj) s) (hA : ∀ q, s.heap.size ≤ q → Ar q) (hR1 : 0 ≤ R.frames) (hR2 : 0 ≤ R.locals) (st : Int32) (fO fG fH fM fN fT fF fK fV fE : Nat → Int32) (th : Int32)
    (kx : ∀ (fR2 : Nat → Int32), (∀ k, k < 60 → fR2 k = if k = 0 then 1 else 0) → ∀ (H : Heap) (locs : List Loc), va_P (dC, dI) vwCl (mw ad cz ci cj (st, fO, fG, fH, fM, fN, fT, fR2, fF, fK, fV, fE, th)) H → va_D Ar (mw ad cz ci cj (st, fO, fG, fH, fM, fN, fT, fR2, fF, fK, fV, fE, th)) → va_S Ar s.heap H locs → ∀ (ls : Array Slot), lv_has ls 2 [(0, .ref (ad 0))] → W p l e R s m args below meth c H locs 0 0 Q (F0 m 29 ls [])) :
    ∀ (fuel : Nat) (i : Nat) (fR2 : Nat → Int32), 61 ≤ i + fuel → i ≤ 60 → (∀ k, k < i → fR2 k = if k = 0 then 1 else 0) → ∀ (H : Heap) (locs : List Loc), va_P (dC, dI) vwCl (mw ad cz ci cj (st, fO, fG, fH, fM, fN, fT, fR2, fF, fK, fV, fE, th)) H → va_D Ar (mw ad cz ci cj (st, fO, fG, fH, fM, fN, fT, fR2, fF, fK, fV, fE, th)) → va_S Ar s.heap H locs → ∀ (ls : Array Slot), lv_has ls 2 [(0, .ref (ad 0)), (1, .int (nI i))] → W p l e R s m args below meth c H locs 0 0 Q (F0 m 2 ls []) := by
  intro fuel
  induction fuel with
  | zero => intro i fR2 hfu hi hI; exact absurd hfu (by omega)
  | succ fuel ih =>
    intro i fR2 hfu hi hI H locs hP hD hS ls hl
    refine lv_iload_n hx hb dX1_reach_2 rfl (lv_at hl 1 rfl) ?_
    refine lv_bipush (v := 60) hx hb dX1_reach_3 (by decide) ?_
    refine lv_icmp_ge (tgt := 29) hx hb dX1_reach_5 (by decide) (fun c_1 => ?_) (fun c_1 => ?_)
    · exact kx fR2 (by rw [show i = 60 from (k_eq (n := 60) hi c_1 (by decide)).symm] at hI; exact hI) _ _ hP hD hS _ (lv_sub hl [0] rfl)
    · have hlt : i < 60 := k_lt (n := 60) c_1 (by omega)
      refine lv_aload_n hx hb dX1_reach_8 rfl (lv_at hl 0 rfl) ?_
      refine va_get (D := (dC, dI)) (ci := 1) (v := .ref (ad 7)) (C := RX1) (T := TX1) (N := 13) hx hb hw in_X1 hown hK hP 0 rfl rfl 7 (by decide) (hw _ m_8_31) (fun _ h9 => h9) rfl dX1_reach_9 ?_
      refine lv_iload_n hx hb dX1_reach_12 rfl (lv_at hl 1 rfl) ?_
      refine lv_iload_n hx hb dX1_reach_13 rfl (lv_at hl 1 rfl) ?_
      refine lv_if_ne (tgt := 21) hx hb dX1_reach_14 (by decide) (fun cb_2 => ?_) (fun cb_2 => ?_)
      · refine lv_iconst (v := 0) hx hb dX1_reach_21 (by decide) ?_
        refine va_zast hx hb hK hP hD hS 7 0 rfl rfl (vp_in_nI (by omega) (by decide)) dX1_reach_22 (fun H locs hP hD hS => ?_)
        rw [nI_clamp (by omega)] at hP hD
        rw [show vp_nar .boolean 0 = 0 by decide] at hP hD
        have hP : va_P (dC, dI) vwCl (mw ad cz ci cj (st, fO, fG, fH, fM, fN, fT, (upd fR2 i 0), fF, fK, fV, fE, th)) H := hP
        have hD : va_D Ar (mw ad cz ci cj (st, fO, fG, fH, fM, fN, fT, (upd fR2 i 0), fF, fK, fV, fE, th)) := hD
        refine lv_iinc (v := (nI (i + 1))) (lv' := [(1, .int (nI (i + 1))), (0, .ref (ad 0))]) hx hb dX1_reach_23 hl (k := 1) rfl (nI_1 i) (by decide) rfl (fun ls hl => ?_)
        refine lv_goto (tgt := 2) hx hb dX1_reach_26 (by decide) ?_
        exact ih (i + 1) (upd fR2 i 0) (by omega) (by omega) (k_r01 hI (by rw [if_neg (k_n0 cb_2)])) _ _ hP hD hS _ (lv_sub hl [1, 0] rfl)
      · refine lv_iconst (v := 1) hx hb dX1_reach_17 (by decide) ?_
        refine lv_goto (tgt := 22) hx hb dX1_reach_18 (by decide) ?_
        refine va_zast hx hb hK hP hD hS 7 0 rfl rfl (vp_in_nI (by omega) (by decide)) dX1_reach_22 (fun H locs hP hD hS => ?_)
        rw [nI_clamp (by omega)] at hP hD
        rw [show vp_nar .boolean 1 = 1 by decide] at hP hD
        have hP : va_P (dC, dI) vwCl (mw ad cz ci cj (st, fO, fG, fH, fM, fN, fT, (upd fR2 i 1), fF, fK, fV, fE, th)) H := hP
        have hD : va_D Ar (mw ad cz ci cj (st, fO, fG, fH, fM, fN, fT, (upd fR2 i 1), fF, fK, fV, fE, th)) := hD
        refine lv_iinc (v := (nI (i + 1))) (lv' := [(1, .int (nI (i + 1))), (0, .ref (ad 0))]) hx hb dX1_reach_23 hl (k := 1) rfl (nI_1 i) (by decide) rfl (fun ls hl => ?_)
        refine lv_goto (tgt := 2) hx hb dX1_reach_26 (by decide) ?_
        exact ih (i + 1) (upd fR2 i 1) (by omega) (by omega) (k_r01 hI (by rw [if_pos (k_e0 (by omega) cb_2)])) _ _ hP hD hS _ (lv_sub hl [1, 0] rfl)
set_option maxHeartbeats 4000000 in
set_option maxRecDepth 100000 in
theorem c_X1_reach (l : Launch) (dC : Nat → ClassId) (dI : Nat → Nat → Nat) (ad : Nat → Nat) (cz ci cj : ClassId) (sz : Nat) (st : Int32) (fO : Nat → Int32) (fG : Nat → Int32) (fH : Nat → Int32) (fM : Nat → Int32) (fN : Nat → Int32) (fT : Nat → Int32) (fR : Nat → Int32) (fF : Nat → Int32) (fK : Nat → Int32) (fV : Nat → Int32) (fE : Nat → Int32) (th : Int32)  (sO sA sB sT : Nat → Int32) (c0 : Nat) (hg : g_ok c0 sO sA sB sT) (hm : m_rel c0 sO sA sB sT fO fG fH fM fN fT) : Met l yX1_reach wX1_reach ({ frames := 2, cells := 0, slots := 0, locals := 45 }) (va_Pc [.ref (ad 0)] (g_Pre (dC, dI) vwCl (gty cz ci cj) (mw ad cz ci cj ((nI c0), fO, fG, fH, fM, fN, fT, fR, fF, fK, fV, fE, th)) sz)) (va_Qv (fun (u : MS) => ∃ fR2 : Nat → Int32, ((∀ m, m < c0 → ((¬ fR2 m = 0) ↔ gre c0 sO sA sB sT m)) ∧ m_bo c0 fR2) ∧ u = ((nI c0), fO, fG, fH, fM, fN, fT, fR2, fF, fK, fV, fE, th)) (g_At (dC, dI) vwCl (gty cz ci cj) (va_A (mw ad cz ci cj ((nI c0), fO, fG, fH, fM, fN, fT, fR, fF, fK, fV, fE, th)) sz) (mw ad cz ci cj)) (va_A (mw ad cz ci cj ((nI c0), fO, fG, fH, fM, fN, fT, fR, fF, fK, fV, fE, th)) sz)) 0 0 (va_A (mw ad cz ci cj ((nI c0), fO, fG, fH, fM, fN, fT, fR, fF, fK, fV, fE, th)) sz) := by
  refine Met.ofW (cc := cX1_reach) (maxL := 2) (ret := none) (by decide) rfl ?_
  intro p e s m args below meth c s₁ Bd hml hv
  obtain ⟨rfl, hsz, hP, hK, hD0⟩ := hv
  have hx := Bd.exec
  have hb := Bd.bytes
  have hr := Bd.returns
  have hts := atoms_spec (ws := wX1_reach) Bd.pre
  have hw : ∀ w ∈ wAll, w.before _ s = true := fun w h => hts w (List.mem_cons_of_mem _ h)
  have hown : s.vm.findClass "GameGraphModel" = some m.cls := findClass_of_methodNamed Bd.named
  have hlocks := Bd.notSynchronized
  subst hsz
  have hD := hD0.self (sz := s.heap.size)
  generalize hAe : va_A (mw ad cz ci cj ((nI c0), fO, fG, fH, fM, fN, fT, fR, fF, fK, fV, fE, th)) s.heap.size = Ar at hD ⊢
  have hA : ∀ q : Nat, s.heap.size ≤ q → Ar q := fun q h => by rw [← hAe]; exact Or.inr h
  obtain ⟨H, hH⟩ : ∃ H : Heap, H = s.heap := ⟨_, rfl⟩
  have hS : va_S Ar s.heap H [] := by rw [hH]; exact va_S.rf
  have hP : va_P (dC, dI) vwCl (mw ad cz ci cj ((nI c0), fO, fG, fH, fM, fN, fT, fR, fF, fK, fV, fE, th)) H := by rw [hH]; exact hP
  rw [← hH]
  have hl := lv_entry ([.ref (ad 0)]) (n := 2) (Nat.le_of_ble_eq_true rfl)
  rw [lg_entry_eq]
  generalize (lg_sl ([.ref (ad 0)]) ++ List.replicate (2 - (lg_sl ([.ref (ad 0)])).length) Slot.unset).toArray = ls at hl ⊢
  have hl : lv_has ls 2 [(0, .ref (ad 0))] := hl
  have h60 := hg.2.1
  refine lv_iconst (v := 0) hx hb dX1_reach_0 (by decide) ?_
  refine x_topi (y := nI 0) (rfl) ?_
  refine lv_istore_n (lv' := [(1, .int (nI 0)), (0, .ref (ad 0))]) hx hb dX1_reach_1 rfl hl (by decide) rfl (fun ls hl => ?_)
  refine lm_reach (dC := dC) (dI := dI) (ad := ad) (cz := cz) (ci := ci) (cj := cj) (Ar := Ar) hx hb hml hown hw hK hA (Nat.le_of_ble_eq_true rfl) (Nat.le_of_ble_eq_true rfl) (nI c0) fO fG fH fM fN fT fF fK fV fE th ?_  61 0 fR (by omega) (by omega) (fun k hk => absurd hk (Nat.not_lt_zero _)) _ _ hP hD hS _ (lv_sub hl [1, 0] rfl)
  intro fR2 hI H locs hP hD hS ls hl
  refine lv_aload_n hx hb dX1_reach_29 rfl (lv_at hl 0 rfl) ?_
  refine lv_aload_n hx hb dX1_reach_30 rfl (lv_at hl 0 rfl) ?_
  refine va_get (D := (dC, dI)) (ci := 1) (v := .ref (ad 7)) (C := RX1) (T := TX1) (N := 13) hx hb hw in_X1 hown hK hP 0 rfl rfl 7 (by decide) (hw _ m_8_31) (fun _ h9 => h9) rfl dX1_reach_31 ?_
  refine g_callv ⟨hx, hb, hml, hown, hw⟩ (c_X1_spread_r l dC dI ad cz ci cj H.size (nI c0) fO fG fH fM fN fT fR2 fF fK fV fE th sO sA sB sT c0 hg hm (fun m hm2 => by rw [hI m (by omega)]; by_cases q : m = 0; exact Or.inr (if_pos q); exact Or.inl (if_neg q))) (cwV 1 hw gv_X1_X1_spread rfl rfl rfl (by decide +kernel) ⟨Nat.le_of_ble_eq_true rfl, Nat.le_of_ble_eq_true rfl⟩) hK hP hD hS hA (ci := 1) (q0 := 0) rfl rfl rfl hl.1 rfl (Nat.le_of_ble_eq_true rfl) dX1_reach_34 ⟨Nat.zero_le _, Nat.zero_le _⟩ (fun  un H locs hq hP hD hS => ?_)
  obtain ⟨fX1, hEQ, hbo, rfl⟩ := hq
  have hP : va_P (dC, dI) vwCl (mw ad cz ci cj ((nI c0), fO, fG, fH, fM, fN, fT, fX1, fF, fK, fV, fE, th)) H := hP
  have hD : va_D Ar (mw ad cz ci cj ((nI c0), fO, fG, fH, fM, fN, fT, fX1, fF, fK, fV, fE, th)) := hD
  exact W.vret hx hb hr (fun t ht hW => ⟨⟨((nI c0), fO, fG, fH, fM, fN, fT, fX1, fF, fK, fV, fE, th), rfl, (⟨fX1, ⟨fun m hm2 => (hEQ m hm2).trans (m_cl_0 hg.1 (fun s hs => by rw [hI s (by omega)]; by_cases q : s = 0; rw [if_pos q]; exact ⟨fun _ => q, fun _ => by decide⟩; rw [if_neg q]; exact ⟨fun z => absurd rfl z, fun z => absurd z q⟩)), hbo⟩, rfl⟩), (by rw [ht]; exact hP), va_K.moved hW.alike hK, hD⟩, hS.F ht⟩) hS.2.2 dX1_reach_37
set_option maxHeartbeats 4000000 in
set_option maxRecDepth 100000 in
theorem lm_reached {p : Program} {l : Launch} {e : Env} {R : Room} {s : State} {m : MethodId} {args : Array Value} {below : List Frame} {meth : Method} {c : Code} {Q : State → Prop} {dC : Nat → ClassId} {dI : Nat → Nat → Nat} {ad : Nat → Nat} {cz ci cj : ClassId} {Ar : Nat → Prop}  (hx : p.tables.exec = Jvm.exec) (hb : c.code = cX1_reached) (hml : c.maxLocals = 3) (hown : s.vm.findClass "GameGraphModel" = some m.cls) (hw : ∀ w ∈ wAll, w.before args s = true) (hK : va_K (dC, dI) vwCl (gty cz ci cj) s) (hA : ∀ q, s.heap.size ≤ q → Ar q) (hR1 : 0 ≤ R.frames) (hR2 : 0 ≤ R.locals) (fO fG fH fM fN fT fR fF fK fV fE : Nat → Int32) (th : Int32) (c0 : Nat) (h60 : c0 ≤ 60)
    (kx : ∀ (cn : Nat), cn = b_ct (fun m => decide (¬ fR m = 0)) c0 → ∀ (H : Heap) (locs : List Loc), va_P (dC, dI) vwCl (mw ad cz ci cj ((nI c0), fO, fG, fH, fM, fN, fT, fR, fF, fK, fV, fE, th)) H → va_D Ar (mw ad cz ci cj ((nI c0), fO, fG, fH, fM, fN, fT, fR, fF, fK, fV, fE, th)) → va_S Ar s.heap H locs → ∀ (ls : Array Slot), lv_has ls 3 [(1, .int (nI cn))] → W p l e R s m args below meth c H locs 0 0 Q (F0 m 39 ls [])) :
    ∀ (fuel : Nat) (i : Nat) (cn : Nat), c0 + 1 ≤ i + fuel → i ≤ c0 → cn = b_ct (fun m => decide (¬ fR m = 0)) i → ∀ (H : Heap) (locs : List Loc), va_P (dC, dI) vwCl (mw ad cz ci cj ((nI c0), fO, fG, fH, fM, fN, fT, fR, fF, fK, fV, fE, th)) H → va_D Ar (mw ad cz ci cj ((nI c0), fO, fG, fH, fM, fN, fT, fR, fF, fK, fV, fE, th)) → va_S Ar s.heap H locs → ∀ (ls : Array Slot), lv_has ls 3 [(0, .ref (ad 0)), (1, .int (nI cn)), (2, .int (nI i))] → W p l e R s m args below meth c H locs 0 0 Q (F0 m 13 ls []) := by
  intro fuel
  induction fuel with
  | zero => intro i cn hfu hi hI; exact absurd hfu (by omega)
  | succ fuel ih =>
    intro i cn hfu hi hI H locs hP hD hS ls hl
    refine lv_iload_n hx hb dX1_reached_13 rfl (lv_at hl 2 rfl) ?_
    refine lv_aload_n hx hb dX1_reached_14 rfl (lv_at hl 0 rfl) ?_
    refine va_get (D := (dC, dI)) (ci := 1) (v := .int (nI c0)) (C := RX1) (T := TX1) (N := 13) hx hb hw in_X1 hown hK hP 0 rfl rfl 0 (by decide) (hw _ m_8_24) (fun _ h9 => h9) rfl dX1_reached_15 ?_
    refine lv_icmp_ge (tgt := 39) hx hb dX1_reached_18 (by decide) (fun c_1 => ?_) (fun c_1 => ?_)
    · exact kx cn (by rw [show i = c0 from (k_eq hi c_1 (by omega)).symm] at hI; exact hI) _ _ hP hD hS _ (lv_sub hl [1] rfl)
    · have hlt : i < c0 := k_lt c_1 (by omega)
      have hle := b_ct_le (fun m => decide (¬ fR m = 0)) i
      refine lv_aload_n hx hb dX1_reached_21 rfl (lv_at hl 0 rfl) ?_
      refine va_get (D := (dC, dI)) (ci := 1) (v := .ref (ad 7)) (C := RX1) (T := TX1) (N := 13) hx hb hw in_X1 hown hK hP 0 rfl rfl 7 (by decide) (hw _ m_8_31) (fun _ h9 => h9) rfl dX1_reached_22 ?_
      refine lv_iload_n hx hb dX1_reached_25 rfl (lv_at hl 2 rfl) ?_
      refine va_zald hx hb hK hP 7 0 rfl rfl (vp_in_nI (by omega) (by decide)) dX1_reached_26 ?_
      refine x_topi (y := fR i) (by rw [nI_clamp (by omega)]) ?_
      refine lv_if_eq (tgt := 33) hx hb dX1_reached_27 (by decide) (fun cb_2 => ?_) (fun cb_2 => ?_)
      · refine lv_iinc (v := (nI (i + 1))) (lv' := [(2, .int (nI (i + 1))), (0, .ref (ad 0)), (1, .int (nI cn))]) hx hb dX1_reached_33 hl (k := 2) rfl (nI_1 i) (by decide) rfl (fun ls hl => ?_)
        refine lv_goto (tgt := 13) hx hb dX1_reached_36 (by decide) ?_
        exact ih (i + 1) cn (by omega) (by omega) (by show cn = b_ct _ i + (decide (¬ fR i = 0)).toNat; rw [hI]; simp [cb_2]) _ _ hP hD hS _ (lv_sub hl [1, 2, 0] rfl)
      · refine lv_iinc (v := (nI (cn + 1))) (lv' := [(1, .int (nI (cn + 1))), (0, .ref (ad 0)), (2, .int (nI i))]) hx hb dX1_reached_30 hl (k := 1) rfl (nI_1 cn) (by decide) rfl (fun ls hl => ?_)
        refine lv_iinc (v := (nI (i + 1))) (lv' := [(2, .int (nI (i + 1))), (1, .int (nI (cn + 1))), (0, .ref (ad 0))]) hx hb dX1_reached_33 hl (k := 2) rfl (nI_1 i) (by decide) rfl (fun ls hl => ?_)
        refine lv_goto (tgt := 13) hx hb dX1_reached_36 (by decide) ?_
        exact ih (i + 1) (cn + 1) (by omega) (by omega) (by show cn + 1 = b_ct _ i + (decide (¬ fR i = 0)).toNat; rw [hI]; simp [cb_2]) _ _ hP hD hS _ (lv_sub hl [2, 1, 0] rfl)
set_option maxHeartbeats 4000000 in
set_option maxRecDepth 100000 in
theorem c_X1_reached (l : Launch) (dC : Nat → ClassId) (dI : Nat → Nat → Nat) (ad : Nat → Nat) (cz ci cj : ClassId) (sz : Nat) (st : Int32) (fO : Nat → Int32) (fG : Nat → Int32) (fH : Nat → Int32) (fM : Nat → Int32) (fN : Nat → Int32) (fT : Nat → Int32) (fR : Nat → Int32) (fF : Nat → Int32) (fK : Nat → Int32) (fV : Nat → Int32) (fE : Nat → Int32) (th : Int32)  (sO sA sB sT : Nat → Int32) (c0 : Nat) (hg : g_ok c0 sO sA sB sT) (hm : m_rel c0 sO sA sB sT fO fG fH fM fN fT) : Met l yX1_reached wX1_reached ({ frames := 3, cells := 0, slots := 0, locals := 66 }) (va_Pc [.ref (ad 0)] (g_Pre (dC, dI) vwCl (gty cz ci cj) (mw ad cz ci cj ((nI c0), fO, fG, fH, fM, fN, fT, fR, fF, fK, fV, fE, th)) sz)) (va_Qi (fun (r : Int32) (u : MS) => ∃ fR2 : Nat → Int32, ((∀ m, m < c0 → ((¬ fR2 m = 0) ↔ gre c0 sO sA sB sT m)) ∧ m_bo c0 fR2) ∧ r = nI (b_ct (fun m => decide (¬ fR2 m = 0)) c0) ∧ u = ((nI c0), fO, fG, fH, fM, fN, fT, fR2, fF, fK, fV, fE, 0)) (g_At (dC, dI) vwCl (gty cz ci cj) (va_A (mw ad cz ci cj ((nI c0), fO, fG, fH, fM, fN, fT, fR, fF, fK, fV, fE, th)) sz) (mw ad cz ci cj)) (va_A (mw ad cz ci cj ((nI c0), fO, fG, fH, fM, fN, fT, fR, fF, fK, fV, fE, th)) sz)) 0 0 (va_A (mw ad cz ci cj ((nI c0), fO, fG, fH, fM, fN, fT, fR, fF, fK, fV, fE, th)) sz) := by
  refine Met.ofW (cc := cX1_reached) (maxL := 3) (ret := some .int) (by decide) rfl ?_
  intro p e s m args below meth c s₁ Bd hml hv
  obtain ⟨rfl, hsz, hP, hK, hD0⟩ := hv
  have hx := Bd.exec
  have hb := Bd.bytes
  have hr := Bd.returns
  have hts := atoms_spec (ws := wX1_reached) Bd.pre
  have hw : ∀ w ∈ wAll, w.before _ s = true := fun w h => hts w (List.mem_cons_of_mem _ h)
  have hown : s.vm.findClass "GameGraphModel" = some m.cls := findClass_of_methodNamed Bd.named
  have hlocks := Bd.notSynchronized
  subst hsz
  have hD := hD0.self (sz := s.heap.size)
  generalize hAe : va_A (mw ad cz ci cj ((nI c0), fO, fG, fH, fM, fN, fT, fR, fF, fK, fV, fE, th)) s.heap.size = Ar at hD ⊢
  have hA : ∀ q : Nat, s.heap.size ≤ q → Ar q := fun q h => by rw [← hAe]; exact Or.inr h
  obtain ⟨H, hH⟩ : ∃ H : Heap, H = s.heap := ⟨_, rfl⟩
  have hS : va_S Ar s.heap H [] := by rw [hH]; exact va_S.rf
  have hP : va_P (dC, dI) vwCl (mw ad cz ci cj ((nI c0), fO, fG, fH, fM, fN, fT, fR, fF, fK, fV, fE, th)) H := by rw [hH]; exact hP
  rw [← hH]
  have hl := lv_entry ([.ref (ad 0)]) (n := 3) (Nat.le_of_ble_eq_true rfl)
  rw [lg_entry_eq]
  generalize (lg_sl ([.ref (ad 0)]) ++ List.replicate (3 - (lg_sl ([.ref (ad 0)])).length) Slot.unset).toArray = ls at hl ⊢
  have hl : lv_has ls 3 [(0, .ref (ad 0))] := hl
  refine lv_aload_n hx hb dX1_reached_0 rfl (lv_at hl 0 rfl) ?_
  refine lv_iconst (v := 0) hx hb dX1_reached_1 (by decide) ?_
  refine va_put (D := (dC, dI)) (ci := 1) (v := .int 0) (ty := .int) (C := RX1) (T := TX1) (N := 13) hx hb hw in_X1 tyX1 tyX1_ok nmX1 hown hK hP hD hS 0 rfl rfl 12 (by decide) (hw _ m_8_36) (fun _ h9 => h9) rfl (by decide +kernel) rfl rfl (Nat.le_of_ble_eq_true rfl) dX1_reached_2 (fun H locs hP hD hS => ?_)
  have hP : va_P (dC, dI) vwCl (mw ad cz ci cj ((nI c0), fO, fG, fH, fM, fN, fT, fR, fF, fK, fV, fE, 0)) H := hP
  have hD : va_D Ar (mw ad cz ci cj ((nI c0), fO, fG, fH, fM, fN, fT, fR, fF, fK, fV, fE, 0)) := hD
  refine lv_aload_n hx hb dX1_reached_5 rfl (lv_at hl 0 rfl) ?_
  refine g_callv ⟨hx, hb, hml, hown, hw⟩ (c_X1_reach l dC dI ad cz ci cj H.size (nI c0) fO fG fH fM fN fT fR fF fK fV fE 0  sO sA sB sT c0 hg hm) (cwV 0 hw gv_X1_X1_reach rfl rfl rfl (by decide +kernel) ⟨Nat.le_of_ble_eq_true rfl, Nat.le_of_ble_eq_true rfl⟩) hK hP hD hS hA (ci := 1) (q0 := 0) rfl rfl rfl hl.1 rfl (Nat.le_of_ble_eq_true rfl) dX1_reached_6 ⟨Nat.zero_le _, Nat.zero_le _⟩ (fun  un H locs hq hP hD hS => ?_)
  obtain ⟨fR2, hR, rfl⟩ := hq
  have hP : va_P (dC, dI) vwCl (mw ad cz ci cj ((nI c0), fO, fG, fH, fM, fN, fT, fR2, fF, fK, fV, fE, 0)) H := hP
  have hD : va_D Ar (mw ad cz ci cj ((nI c0), fO, fG, fH, fM, fN, fT, fR2, fF, fK, fV, fE, 0)) := hD
  refine lv_iconst (v := 0) hx hb dX1_reached_9 (by decide) ?_
  refine x_topi (y := nI 0) (rfl) ?_
  refine lv_istore_n (lv' := [(1, .int (nI 0)), (0, .ref (ad 0))]) hx hb dX1_reached_10 rfl hl (by decide) rfl (fun ls hl => ?_)
  refine lv_iconst (v := 0) hx hb dX1_reached_11 (by decide) ?_
  refine x_topi (y := nI 0) (rfl) ?_
  refine lv_istore_n (lv' := [(2, .int (nI 0)), (1, .int (nI 0)), (0, .ref (ad 0))]) hx hb dX1_reached_12 rfl hl (by decide) rfl (fun ls hl => ?_)
  refine lm_reached (dC := dC) (dI := dI) (ad := ad) (cz := cz) (ci := ci) (cj := cj) (Ar := Ar) hx hb hml hown hw hK hA (Nat.le_of_ble_eq_true rfl) (Nat.le_of_ble_eq_true rfl) fO fG fH fM fN fT fR2 fF fK fV fE 0 c0 hg.2.1 ?_  (c0 + 1) 0 0 (by omega) (by omega) rfl _ _ hP hD hS _ (lv_sub hl [2, 1, 0] rfl)
  intro cn hI H locs hP hD hS ls hl
  refine lv_iload_n hx hb dX1_reached_39 rfl (lv_at hl 0 rfl) ?_
  exact W.iret (v := (nI cn)) hx hb hr (fun t ht hW => ⟨⟨(nI cn), ((nI c0), fO, fG, fH, fM, fN, fT, fR2, fF, fK, fV, fE, 0), rfl, (⟨fR2, hR, by rw [hI], rfl⟩), (by rw [ht]; exact hP), va_K.moved hW.alike hK, hD⟩, hS.F ht⟩) hS.2.2 dX1_reached_40
set_option maxHeartbeats 4000000 in
set_option maxRecDepth 100000 in
theorem c_X1_own (l : Launch) (dC : Nat → ClassId) (dI : Nat → Nat → Nat) (ad : Nat → Nat) (cz ci cj : ClassId) (sz : Nat) (st : Int32) (fO : Nat → Int32) (fG : Nat → Int32) (fH : Nat → Int32) (fM : Nat → Int32) (fN : Nat → Int32) (fT : Nat → Int32) (fR : Nat → Int32) (fF : Nat → Int32) (fK : Nat → Int32) (fV : Nat → Int32) (fE : Nat → Int32) (th : Int32) (n : Nat) (sO sA sB sT : Nat → Int32) (c0 : Nat) (hg : g_ok c0 sO sA sB sT) (hm : m_rel c0 sO sA sB sT fO fG fH fM fN fT) (hn : n < c0) : Met l yX1_own wX1_own ({ frames := 0, cells := 0, slots := 0, locals := 0 }) (va_Pc [.ref (ad 0), .int (nI n)] (g_Pre (dC, dI) vwCl (gty cz ci cj) (mw ad cz ci cj ((nI c0), fO, fG, fH, fM, fN, fT, fR, fF, fK, fV, fE, th)) sz)) (va_Qi (fun (r : Int32) (u : MS) => u = ((nI c0), fO, fG, fH, fM, fN, fT, fR, fF, fK, fV, fE, th) ∧ r = g_dn sO sA sB n) (g_At (dC, dI) vwCl (gty cz ci cj) (va_A (mw ad cz ci cj ((nI c0), fO, fG, fH, fM, fN, fT, fR, fF, fK, fV, fE, th)) sz) (mw ad cz ci cj)) (va_A (mw ad cz ci cj ((nI c0), fO, fG, fH, fM, fN, fT, fR, fF, fK, fV, fE, th)) sz)) 0 0 (va_A (mw ad cz ci cj ((nI c0), fO, fG, fH, fM, fN, fT, fR, fF, fK, fV, fE, th)) sz) := by
  refine Met.ofW (cc := cX1_own) (maxL := 2) (ret := some .int) (by decide) rfl ?_
  intro p e s m args below meth c s₁ Bd hml hv
  obtain ⟨rfl, hsz, hP, hK, hD0⟩ := hv
  have hx := Bd.exec
  have hb := Bd.bytes
  have hr := Bd.returns
  have hts := atoms_spec (ws := wX1_own) Bd.pre
  have hw : ∀ w ∈ wAll, w.before _ s = true := fun w h => hts w (List.mem_cons_of_mem _ h)
  have hown : s.vm.findClass "GameGraphModel" = some m.cls := findClass_of_methodNamed Bd.named
  have hlocks := Bd.notSynchronized
  subst hsz
  have hD := hD0.self (sz := s.heap.size)
  generalize hAe : va_A (mw ad cz ci cj ((nI c0), fO, fG, fH, fM, fN, fT, fR, fF, fK, fV, fE, th)) s.heap.size = Ar at hD ⊢
  have hA : ∀ q : Nat, s.heap.size ≤ q → Ar q := fun q h => by rw [← hAe]; exact Or.inr h
  obtain ⟨H, hH⟩ : ∃ H : Heap, H = s.heap := ⟨_, rfl⟩
  have hS : va_S Ar s.heap H [] := by rw [hH]; exact va_S.rf
  have hP : va_P (dC, dI) vwCl (mw ad cz ci cj ((nI c0), fO, fG, fH, fM, fN, fT, fR, fF, fK, fV, fE, th)) H := by rw [hH]; exact hP
  rw [← hH]
  have hl := lv_entry ([.ref (ad 0), .int (nI n)]) (n := 2) (Nat.le_of_ble_eq_true rfl)
  rw [lg_entry_eq]
  generalize (lg_sl ([.ref (ad 0), .int (nI n)]) ++ List.replicate (2 - (lg_sl ([.ref (ad 0), .int (nI n)])).length) Slot.unset).toArray = ls at hl ⊢
  have hl : lv_has ls 2 [(0, .ref (ad 0)), (1, .int (nI n))] := hl
  have h60 := hg.2.1
  refine lv_aload_n hx hb dX1_own_0 rfl (lv_at hl 0 rfl) ?_
  refine va_get (D := (dC, dI)) (ci := 1) (v := .ref (ad 1)) (C := RX1) (T := TX1) (N := 13) hx hb hw in_X1 hown hK hP 0 rfl rfl 1 (by decide) (hw _ m_8_25) (fun _ h9 => h9) rfl dX1_own_1 ?_
  refine lv_iload_n hx hb dX1_own_4 rfl (lv_at hl 1 rfl) ?_
  refine va_zald hx hb hK hP 1 0 rfl rfl (vp_in_nI (by omega) (by decide)) dX1_own_5 ?_
  refine x_topi (y := fO n) (by rw [nI_clamp (by omega)]) ?_
  refine lv_if_eq (tgt := 57) hx hb dX1_own_6 (by decide) (fun c_1 => ?_) (fun c_1 => ?_)
  · obtain ⟨h0, hA, hB⟩ := m_en hm hn c_1
    refine lv_aload_n hx hb dX1_own_57 rfl (lv_at hl 0 rfl) ?_
    refine va_get (D := (dC, dI)) (ci := 1) (v := .ref (ad 2)) (C := RX1) (T := TX1) (N := 13) hx hb hw in_X1 hown hK hP 0 rfl rfl 2 (by decide) (hw _ m_8_26) (fun _ h9 => h9) rfl dX1_own_58 ?_
    refine lv_iload_n hx hb dX1_own_61 rfl (lv_at hl 1 rfl) ?_
    refine va_iald hx hb hK hP 2 1 rfl rfl (vp_in_nI (by omega) (by decide)) dX1_own_62 ?_
    refine x_topi (y := fG n) (by rw [nI_clamp (by omega)]) ?_
    refine lv_if_lt (tgt := 75) hx hb dX1_own_63 (by decide) (fun ca_2 => ?_) (fun ca_2 => ?_)
    · refine lv_iconst (v := 4) hx hb dX1_own_75 (by decide) ?_
      refine lv_goto (tgt := 102) hx hb dX1_own_76 (by decide) ?_
      exact W.iret (v := 4) hx hb hr (fun t ht hW => ⟨⟨4, ((nI c0), fO, fG, fH, fM, fN, fT, fR, fF, fK, fV, fE, th), rfl, (⟨rfl, k_dn4 h0 (Or.inl (by rw [← hA]; exact ca_2))⟩), (by rw [ht]; exact hP), va_K.moved hW.alike hK, hD⟩, hS.F ht⟩) hS.2.2 dX1_own_102
    · refine lv_aload_n hx hb dX1_own_66 rfl (lv_at hl 0 rfl) ?_
      refine va_get (D := (dC, dI)) (ci := 1) (v := .ref (ad 3)) (C := RX1) (T := TX1) (N := 13) hx hb hw in_X1 hown hK hP 0 rfl rfl 3 (by decide) (hw _ m_8_27) (fun _ h9 => h9) rfl dX1_own_67 ?_
      refine lv_iload_n hx hb dX1_own_70 rfl (lv_at hl 1 rfl) ?_
      refine va_iald hx hb hK hP 3 1 rfl rfl (vp_in_nI (by omega) (by decide)) dX1_own_71 ?_
      refine x_topi (y := fH n) (by rw [nI_clamp (by omega)]) ?_
      refine lv_if_ge (tgt := 79) hx hb dX1_own_72 (by decide) (fun cab_3 => ?_) (fun cab_3 => ?_)
      · refine lv_aload_n hx hb dX1_own_79 rfl (lv_at hl 0 rfl) ?_
        refine va_get (D := (dC, dI)) (ci := 1) (v := .ref (ad 2)) (C := RX1) (T := TX1) (N := 13) hx hb hw in_X1 hown hK hP 0 rfl rfl 2 (by decide) (hw _ m_8_26) (fun _ h9 => h9) rfl dX1_own_80 ?_
        refine lv_iload_n hx hb dX1_own_83 rfl (lv_at hl 1 rfl) ?_
        refine va_iald hx hb hK hP 2 1 rfl rfl (vp_in_nI (by omega) (by decide)) dX1_own_84 ?_
        refine x_topi (y := fG n) (by rw [nI_clamp (by omega)]) ?_
        refine lv_aload_n hx hb dX1_own_85 rfl (lv_at hl 0 rfl) ?_
        refine va_get (D := (dC, dI)) (ci := 1) (v := .ref (ad 3)) (C := RX1) (T := TX1) (N := 13) hx hb hw in_X1 hown hK hP 0 rfl rfl 3 (by decide) (hw _ m_8_27) (fun _ h9 => h9) rfl dX1_own_86 ?_
        refine lv_iload_n hx hb dX1_own_89 rfl (lv_at hl 1 rfl) ?_
        refine va_iald hx hb hK hP 3 1 rfl rfl (vp_in_nI (by omega) (by decide)) dX1_own_90 ?_
        refine x_topi (y := fH n) (by rw [nI_clamp (by omega)]) ?_
        refine lv_iadd hx hb dX1_own_91 ?_
        refine lv_bipush (v := 100) hx hb dX1_own_92 (by decide) ?_
        refine lv_icmp_eq (tgt := 101) hx hb dX1_own_94 (by decide) (fun caba_4 => ?_) (fun caba_4 => ?_)
        · refine lv_iconst (v := 0) hx hb dX1_own_101 (by decide) ?_
          exact W.iret (v := 0) hx hb hr (fun t ht hW => ⟨⟨0, ((nI c0), fO, fG, fH, fM, fN, fT, fR, fF, fK, fV, fE, th), rfl, (⟨rfl, k_dn6 h0 (by rw [← hA, ← hB]; exact k_or2 ca_2 cab_3) (by rw [← hA, ← hB]; exact caba_4)⟩), (by rw [ht]; exact hP), va_K.moved hW.alike hK, hD⟩, hS.F ht⟩) hS.2.2 dX1_own_102
        · refine lv_iconst (v := 5) hx hb dX1_own_97 (by decide) ?_
          refine lv_goto (tgt := 102) hx hb dX1_own_98 (by decide) ?_
          exact W.iret (v := 5) hx hb hr (fun t ht hW => ⟨⟨5, ((nI c0), fO, fG, fH, fM, fN, fT, fR, fF, fK, fV, fE, th), rfl, (⟨rfl, k_dn5 h0 (by rw [← hA, ← hB]; exact k_or2 ca_2 cab_3) (by rw [← hA, ← hB]; exact caba_4)⟩), (by rw [ht]; exact hP), va_K.moved hW.alike hK, hD⟩, hS.F ht⟩) hS.2.2 dX1_own_102
      · refine lv_iconst (v := 4) hx hb dX1_own_75 (by decide) ?_
        refine lv_goto (tgt := 102) hx hb dX1_own_76 (by decide) ?_
        exact W.iret (v := 4) hx hb hr (fun t ht hW => ⟨⟨4, ((nI c0), fO, fG, fH, fM, fN, fT, fR, fF, fK, fV, fE, th), rfl, (⟨rfl, k_dn4 h0 (Or.inr (by rw [← hB]; exact k_nge cab_3))⟩), (by rw [ht]; exact hP), va_K.moved hW.alike hK, hD⟩, hS.F ht⟩) hS.2.2 dX1_own_102
  · obtain ⟨h0, hA, hB⟩ := m_op hm hn c_1
    refine lv_aload_n hx hb dX1_own_9 rfl (lv_at hl 0 rfl) ?_
    refine va_get (D := (dC, dI)) (ci := 1) (v := .ref (ad 4)) (C := RX1) (T := TX1) (N := 13) hx hb hw in_X1 hown hK hP 0 rfl rfl 4 (by decide) (hw _ m_8_28) (fun _ h9 => h9) rfl dX1_own_10 ?_
    refine lv_iload_n hx hb dX1_own_13 rfl (lv_at hl 1 rfl) ?_
    refine va_iald hx hb hK hP 4 1 rfl rfl (vp_in_nI (by omega) (by decide)) dX1_own_14 ?_
    refine x_topi (y := fM n) (by rw [nI_clamp (by omega)]) ?_
    refine lv_if_eq (tgt := 27) hx hb dX1_own_15 (by decide) (fun cb_2 => ?_) (fun cb_2 => ?_)
    · refine lv_iconst (v := 2) hx hb dX1_own_27 (by decide) ?_
      refine lv_goto (tgt := 56) hx hb dX1_own_28 (by decide) ?_
      exact W.iret (v := 2) hx hb hr (fun t ht hW => ⟨⟨2, ((nI c0), fO, fG, fH, fM, fN, fT, fR, fF, fK, fV, fE, th), rfl, (⟨rfl, k_dn2 h0 (m_g0 hg hn h0 (Or.inl (by rw [← hA]; exact cb_2)))⟩), (by rw [ht]; exact hP), va_K.moved hW.alike hK, hD⟩, hS.F ht⟩) hS.2.2 dX1_own_56
    · refine lv_aload_n hx hb dX1_own_18 rfl (lv_at hl 0 rfl) ?_
      refine va_get (D := (dC, dI)) (ci := 1) (v := .ref (ad 5)) (C := RX1) (T := TX1) (N := 13) hx hb hw in_X1 hown hK hP 0 rfl rfl 5 (by decide) (hw _ m_8_29) (fun _ h9 => h9) rfl dX1_own_19 ?_
      refine lv_iload_n hx hb dX1_own_22 rfl (lv_at hl 1 rfl) ?_
      refine va_iald hx hb hK hP 5 1 rfl rfl (vp_in_nI (by omega) (by decide)) dX1_own_23 ?_
      refine x_topi (y := fN n) (by rw [nI_clamp (by omega)]) ?_
      refine lv_if_ne (tgt := 31) hx hb dX1_own_24 (by decide) (fun cbb_3 => ?_) (fun cbb_3 => ?_)
      · have hg1 := m_g1 hg hn h0 (by rw [← hA]; exact cb_2) (by rw [← hB]; exact cbb_3)
        refine lv_aload_n hx hb dX1_own_31 rfl (lv_at hl 0 rfl) ?_
        refine va_get (D := (dC, dI)) (ci := 1) (v := .ref (ad 4)) (C := RX1) (T := TX1) (N := 13) hx hb hw in_X1 hown hK hP 0 rfl rfl 4 (by decide) (hw _ m_8_28) (fun _ h9 => h9) rfl dX1_own_32 ?_
        refine lv_iload_n hx hb dX1_own_35 rfl (lv_at hl 1 rfl) ?_
        refine va_iald hx hb hK hP 4 1 rfl rfl (vp_in_nI (by omega) (by decide)) dX1_own_36 ?_
        refine x_topi (y := fM n) (by rw [nI_clamp (by omega)]) ?_
        refine lv_iconst (v := 1) hx hb dX1_own_37 (by decide) ?_
        refine lv_icmp_le (tgt := 55) hx hb dX1_own_38 (by decide) (fun cbba_4 => ?_) (fun cbba_4 => ?_)
        · refine lv_iconst (v := 0) hx hb dX1_own_55 (by decide) ?_
          exact W.iret (v := 0) hx hb hr (fun t ht hW => ⟨⟨0, ((nI c0), fO, fG, fH, fM, fN, fT, fR, fF, fK, fV, fE, th), rfl, (⟨rfl, k_dn0 h0 hg1 (Or.inl (by rw [← hA]; exact cbba_4))⟩), (by rw [ht]; exact hP), va_K.moved hW.alike hK, hD⟩, hS.F ht⟩) hS.2.2 dX1_own_56
        · refine lv_aload_n hx hb dX1_own_41 rfl (lv_at hl 0 rfl) ?_
          refine va_get (D := (dC, dI)) (ci := 1) (v := .ref (ad 5)) (C := RX1) (T := TX1) (N := 13) hx hb hw in_X1 hown hK hP 0 rfl rfl 5 (by decide) (hw _ m_8_29) (fun _ h9 => h9) rfl dX1_own_42 ?_
          refine lv_iload_n hx hb dX1_own_45 rfl (lv_at hl 1 rfl) ?_
          refine va_iald hx hb hK hP 5 1 rfl rfl (vp_in_nI (by omega) (by decide)) dX1_own_46 ?_
          refine x_topi (y := fN n) (by rw [nI_clamp (by omega)]) ?_
          refine lv_iconst (v := 1) hx hb dX1_own_47 (by decide) ?_
          refine lv_icmp_le (tgt := 55) hx hb dX1_own_48 (by decide) (fun cbbab_5 => ?_) (fun cbbab_5 => ?_)
          · refine lv_iconst (v := 0) hx hb dX1_own_55 (by decide) ?_
            exact W.iret (v := 0) hx hb hr (fun t ht hW => ⟨⟨0, ((nI c0), fO, fG, fH, fM, fN, fT, fR, fF, fK, fV, fE, th), rfl, (⟨rfl, k_dn0 h0 hg1 (Or.inr (by rw [← hB]; exact cbbab_5))⟩), (by rw [ht]; exact hP), va_K.moved hW.alike hK, hD⟩, hS.F ht⟩) hS.2.2 dX1_own_56
          · refine lv_iconst (v := 3) hx hb dX1_own_51 (by decide) ?_
            refine lv_goto (tgt := 56) hx hb dX1_own_52 (by decide) ?_
            exact W.iret (v := 3) hx hb hr (fun t ht hW => ⟨⟨3, ((nI c0), fO, fG, fH, fM, fN, fT, fR, fF, fK, fV, fE, th), rfl, (⟨rfl, k_dn3 h0 hg1 (by rw [← hA]; exact cbba_4) (by rw [← hB]; exact cbbab_5)⟩), (by rw [ht]; exact hP), va_K.moved hW.alike hK, hD⟩, hS.F ht⟩) hS.2.2 dX1_own_56
      · refine lv_iconst (v := 2) hx hb dX1_own_27 (by decide) ?_
        refine lv_goto (tgt := 56) hx hb dX1_own_28 (by decide) ?_
        exact W.iret (v := 2) hx hb hr (fun t ht hW => ⟨⟨2, ((nI c0), fO, fG, fH, fM, fN, fT, fR, fF, fK, fV, fE, th), rfl, (⟨rfl, k_dn2 h0 (m_g0 hg hn h0 (Or.inr (by rw [← hB]; exact cbb_3)))⟩), (by rw [ht]; exact hP), va_K.moved hW.alike hK, hD⟩, hS.F ht⟩) hS.2.2 dX1_own_56
set_option maxHeartbeats 4000000 in
set_option maxRecDepth 100000 in
theorem lm_ca1 {p : Program} {l : Launch} {e : Env} {R : Room} {s : State} {m : MethodId} {args : Array Value} {below : List Frame} {meth : Method} {c : Code} {Q : State → Prop} {dC : Nat → ClassId} {dI : Nat → Nat → Nat} {ad : Nat → Nat} {cz ci cj : ClassId} {Ar : Nat → Prop}  (hx : p.tables.exec = Jvm.exec) (hb : c.code = cX1_comesAgain) (hml : c.maxLocals = 3) (hown : s.vm.findClass "GameGraphModel" = some m.cls) (hw : ∀ w ∈ wAll, w.before args s = true) (hK : va_K (dC, dI) vwCl (gty cz ci cj) s) (hA : ∀ q, s.heap.size ≤ q → Ar q) (hR1 : 0 ≤ R.frames) (hR2 : 0 ≤ R.locals) (st : Int32) (fO fG fH fM fN fT fR fK fV fE : Nat → Int32) (th : Int32) (n : Nat)
    (kx : ∀ (fF2 : Nat → Int32), (∀ k, k < 60 → fF2 k = 0) → ∀ (H : Heap) (locs : List Loc), va_P (dC, dI) vwCl (mw ad cz ci cj (st, fO, fG, fH, fM, fN, fT, fR, fF2, fK, fV, fE, th)) H → va_D Ar (mw ad cz ci cj (st, fO, fG, fH, fM, fN, fT, fR, fF2, fK, fV, fE, th)) → va_S Ar s.heap H locs → ∀ (ls : Array Slot), lv_has ls 3 [(0, .ref (ad 0)), (1, .int (nI n))] → W p l e R s m args below meth c H locs 0 0 Q (F0 m 21 ls [])) :
    ∀ (fuel : Nat) (i : Nat) (fF2 : Nat → Int32), 61 ≤ i + fuel → i ≤ 60 → (∀ k, k < i → fF2 k = 0) → ∀ (H : Heap) (locs : List Loc), va_P (dC, dI) vwCl (mw ad cz ci cj (st, fO, fG, fH, fM, fN, fT, fR, fF2, fK, fV, fE, th)) H → va_D Ar (mw ad cz ci cj (st, fO, fG, fH, fM, fN, fT, fR, fF2, fK, fV, fE, th)) → va_S Ar s.heap H locs → ∀ (ls : Array Slot), lv_has ls 3 [(0, .ref (ad 0)), (1, .int (nI n)), (2, .int (nI i))] → W p l e R s m args below meth c H locs 0 0 Q (F0 m 2 ls []) := by
  intro fuel
  induction fuel with
  | zero => intro i fF2 hfu hi hI; exact absurd hfu (by omega)
  | succ fuel ih =>
    intro i fF2 hfu hi hI H locs hP hD hS ls hl
    refine lv_iload_n hx hb dX1_comesAgain_2 rfl (lv_at hl 2 rfl) ?_
    refine lv_bipush (v := 60) hx hb dX1_comesAgain_3 (by decide) ?_
    refine lv_icmp_ge (tgt := 21) hx hb dX1_comesAgain_5 (by decide) (fun c_1 => ?_) (fun c_1 => ?_)
    · exact kx fF2 (by rw [show i = 60 from (k_eq (n := 60) hi c_1 (by decide)).symm] at hI; exact hI) _ _ hP hD hS _ (lv_sub hl [0, 1] rfl)
    · have hlt : i < 60 := k_lt (n := 60) c_1 (by omega)
      refine lv_aload_n hx hb dX1_comesAgain_8 rfl (lv_at hl 0 rfl) ?_
      refine va_get (D := (dC, dI)) (ci := 1) (v := .ref (ad 8)) (C := RX1) (T := TX1) (N := 13) hx hb hw in_X1 hown hK hP 0 rfl rfl 8 (by decide) (hw _ m_8_32) (fun _ h9 => h9) rfl dX1_comesAgain_9 ?_
      refine lv_iload_n hx hb dX1_comesAgain_12 rfl (lv_at hl 2 rfl) ?_
      refine lv_iconst (v := 0) hx hb dX1_comesAgain_13 (by decide) ?_
      refine va_zast hx hb hK hP hD hS 8 0 rfl rfl (vp_in_nI (by omega) (by decide)) dX1_comesAgain_14 (fun H locs hP hD hS => ?_)
      rw [nI_clamp (by omega)] at hP hD
      rw [show vp_nar .boolean 0 = 0 by decide] at hP hD
      have hP : va_P (dC, dI) vwCl (mw ad cz ci cj (st, fO, fG, fH, fM, fN, fT, fR, (upd fF2 i 0), fK, fV, fE, th)) H := hP
      have hD : va_D Ar (mw ad cz ci cj (st, fO, fG, fH, fM, fN, fT, fR, (upd fF2 i 0), fK, fV, fE, th)) := hD
      refine lv_iinc (v := (nI (i + 1))) (lv' := [(2, .int (nI (i + 1))), (0, .ref (ad 0)), (1, .int (nI n))]) hx hb dX1_comesAgain_15 hl (k := 2) rfl (nI_1 i) (by decide) rfl (fun ls hl => ?_)
      refine lv_goto (tgt := 2) hx hb dX1_comesAgain_18 (by decide) ?_
      exact ih (i + 1) (upd fF2 i 0) (by omega) (by omega) (k_r01 (g := fun _ => 0) hI rfl) _ _ hP hD hS _ (lv_sub hl [1, 2, 0] rfl)
set_option maxHeartbeats 4000000 in
set_option maxRecDepth 100000 in
theorem lm_ca2 {p : Program} {l : Launch} {e : Env} {R : Room} {s : State} {m : MethodId} {args : Array Value} {below : List Frame} {meth : Method} {c : Code} {Q : State → Prop} {dC : Nat → ClassId} {dI : Nat → Nat → Nat} {ad : Nat → Nat} {cz ci cj : ClassId} {Ar : Nat → Prop}  (hx : p.tables.exec = Jvm.exec) (hb : c.code = cX1_comesAgain) (hml : c.maxLocals = 3) (hown : s.vm.findClass "GameGraphModel" = some m.cls) (hw : ∀ w ∈ wAll, w.before args s = true) (hK : va_K (dC, dI) vwCl (gty cz ci cj) s) (hA : ∀ q, s.heap.size ≤ q → Ar q) (hR1 : 1 ≤ R.frames) (hR2 : 21 ≤ R.locals) (fO fG fH fM fN fT fR fK fV fE : Nat → Int32) (th : Int32) (n : Nat) (sO sA sB sT : Nat → Int32) (c0 : Nat) (hg : g_ok c0 sO sA sB sT) (hm : m_rel c0 sO sA sB sT fO fG fH fM fN fT) (hn : n < c0)
    (kx : ∀ (fF2 : Nat → Int32), (∀ s, s < c0 → ((¬ fF2 s = 0) ↔ ∃ i, i < gmv sO sA sB n ∧ gtg sT n i = s)) → (m_bo c0 fF2) → ∀ (H : Heap) (locs : List Loc), va_P (dC, dI) vwCl (mw ad cz ci cj ((nI c0), fO, fG, fH, fM, fN, fT, fR, fF2, fK, fV, fE, th)) H → va_D Ar (mw ad cz ci cj ((nI c0), fO, fG, fH, fM, fN, fT, fR, fF2, fK, fV, fE, th)) → va_S Ar s.heap H locs → ∀ (ls : Array Slot), lv_has ls 3 [(0, .ref (ad 0)), (1, .int (nI n))] → W p l e R s m args below meth c H locs 0 0 Q (F0 m 55 ls [])) :
    ∀ (fuel : Nat) (j : Nat) (fF2 : Nat → Int32), gmv sO sA sB n + 1 ≤ j + fuel → j ≤ gmv sO sA sB n → (∀ s, s < c0 → ((¬ fF2 s = 0) ↔ ∃ i, i < j ∧ gtg sT n i = s)) → (m_bo c0 fF2) → ∀ (H : Heap) (locs : List Loc), va_P (dC, dI) vwCl (mw ad cz ci cj ((nI c0), fO, fG, fH, fM, fN, fT, fR, fF2, fK, fV, fE, th)) H → va_D Ar (mw ad cz ci cj ((nI c0), fO, fG, fH, fM, fN, fT, fR, fF2, fK, fV, fE, th)) → va_S Ar s.heap H locs → ∀ (ls : Array Slot), lv_has ls 3 [(0, .ref (ad 0)), (1, .int (nI n)), (2, .int (nI j))] → W p l e R s m args below meth c H locs 0 0 Q (F0 m 23 ls []) := by
  intro fuel
  induction fuel with
  | zero => intro j fF2 hfu hj hI hbo; exact absurd hfu (by omega)
  | succ fuel ih =>
    intro j fF2 hfu hj hI hbo H locs hP hD hS ls hl
    have h60 := hg.2.1
    have h12 := (m_mv hg hm hn).2
    refine lv_iload_n hx hb dX1_comesAgain_23 rfl (lv_at hl 2 rfl) ?_
    refine lv_aload_n hx hb dX1_comesAgain_24 rfl (lv_at hl 0 rfl) ?_
    refine lv_iload_n hx hb dX1_comesAgain_25 rfl (lv_at hl 1 rfl) ?_
    refine g_calli ⟨hx, hb, hml, hown, hw⟩ (c_X1_joint l dC dI ad cz ci cj H.size (nI c0) fO fG fH fM fN fT fR fF2 fK fV fE th n (by omega)) (cwV 1 hw gv_X1_X1_joint rfl rfl rfl (by decide +kernel) ⟨Nat.le_trans (Nat.le_of_ble_eq_true rfl) hR1, Nat.le_trans (Nat.le_of_ble_eq_true rfl) hR2⟩) hK hP hD hS hA (ci := 1) (q0 := 0) rfl rfl rfl hl.1 rfl (Nat.le_of_ble_eq_true rfl) dX1_comesAgain_26 ⟨Nat.zero_le _, Nat.zero_le _⟩ (fun r_1 un H locs hq hP hD hS => ?_)
    obtain ⟨rfl, hq⟩ := hq
    have hP : va_P (dC, dI) vwCl (mw ad cz ci cj ((nI c0), fO, fG, fH, fM, fN, fT, fR, fF2, fK, fV, fE, th)) H := hP
    have hD : va_D Ar (mw ad cz ci cj ((nI c0), fO, fG, fH, fM, fN, fT, fR, fF2, fK, fV, fE, th)) := hD
    refine x_topi (y := nI (gmv sO sA sB n)) (by rw [hq]; exact (m_mv hg hm hn).1) ?_
    refine lv_icmp_ge (tgt := 55) hx hb dX1_comesAgain_29 (by decide) (fun c_2 => ?_) (fun c_2 => ?_)
    · exact kx fF2 (by rw [show j = gmv sO sA sB n from (k_eq hj c_2 (by omega)).symm] at hI; exact hI) hbo _ _ hP hD hS _ (lv_sub hl [0, 1] rfl)
    · have hlt : j < gmv sO sA sB n := k_lt c_2 (by omega)
      refine lv_aload_n hx hb dX1_comesAgain_32 rfl (lv_at hl 0 rfl) ?_
      refine va_get (D := (dC, dI)) (ci := 1) (v := .ref (ad 8)) (C := RX1) (T := TX1) (N := 13) hx hb hw in_X1 hown hK hP 0 rfl rfl 8 (by decide) (hw _ m_8_32) (fun _ h9 => h9) rfl dX1_comesAgain_33 ?_
      refine lv_aload_n hx hb dX1_comesAgain_36 rfl (lv_at hl 0 rfl) ?_
      refine va_get (D := (dC, dI)) (ci := 1) (v := .ref (ad 6)) (C := RX1) (T := TX1) (N := 13) hx hb hw in_X1 hown hK hP 0 rfl rfl 6 (by decide) (hw _ m_8_30) (fun _ h9 => h9) rfl dX1_comesAgain_37 ?_
      refine lv_bipush (v := 12) hx hb dX1_comesAgain_40 (by decide) ?_
      refine lv_iload_n hx hb dX1_comesAgain_42 rfl (lv_at hl 1 rfl) ?_
      refine lv_imul hx hb dX1_comesAgain_43 ?_
      refine x_topi (y := nI (n * 12)) ((pk_mul 12 n).trans (by rw [Nat.mul_comm])) ?_
      refine lv_iload_n hx hb dX1_comesAgain_44 rfl (lv_at hl 2 rfl) ?_
      refine lv_iadd hx hb dX1_comesAgain_45 ?_
      refine x_topi (y := nI (n * 12 + j)) (nI_add _ _) ?_
      have ht := m_tg hg hm hn hlt
      refine va_iald hx hb hK hP 6 1 rfl rfl (vp_in_nI (by omega) (by decide)) dX1_comesAgain_46 ?_
      refine x_topi (y := fT (n * 12 + j)) (by rw [nI_clamp (by omega)]) ?_
      refine x_topi (y := nI (gtg sT n j)) (ht.1) ?_
      refine lv_iconst (v := 1) hx hb dX1_comesAgain_47 (by decide) ?_
      refine va_zast hx hb hK hP hD hS 8 0 rfl rfl (vp_in_nI (by omega) (by decide)) dX1_comesAgain_48 (fun H locs hP hD hS => ?_)
      rw [nI_clamp (by omega)] at hP hD
      rw [show vp_nar .boolean 1 = 1 by decide] at hP hD
      have hP : va_P (dC, dI) vwCl (mw ad cz ci cj ((nI c0), fO, fG, fH, fM, fN, fT, fR, (upd fF2 (gtg sT n j) 1), fK, fV, fE, th)) H := hP
      have hD : va_D Ar (mw ad cz ci cj ((nI c0), fO, fG, fH, fM, fN, fT, fR, (upd fF2 (gtg sT n j) 1), fK, fV, fE, th)) := hD
      refine lv_iinc (v := (nI (j + 1))) (lv' := [(2, .int (nI (j + 1))), (0, .ref (ad 0)), (1, .int (nI n))]) hx hb dX1_comesAgain_49 hl (k := 2) rfl (nI_1 j) (by decide) rfl (fun ls hl => ?_)
      refine lv_goto (tgt := 23) hx hb dX1_comesAgain_52 (by decide) ?_
      exact ih (j + 1) (upd fF2 (gtg sT n j) 1) (by omega) (by omega) (fun s hs => ⟨fun h => m_ups (P := fun s => ∃ i, i < j + 1 ∧ gtg sT n i = s) (fun h => by obtain ⟨i, hi, e⟩ := (hI s hs).mp h; exact ⟨i, by omega, e⟩) ⟨j, by omega, rfl⟩ h, fun ⟨i, hi, e⟩ => by rcases Nat.lt_or_ge i j with q | q; exact m_up ((hI s hs).mpr ⟨i, q, e⟩); have e2 : i = j := (by omega); rw [← e, e2]; exact m_up1⟩) (m_bo_u hbo _ (Or.inr rfl)) _ _ hP hD hS _ (lv_sub hl [1, 2, 0] rfl)
theorem k_nb {x : Int32} (h : x = 0 ∨ x = 1) : narrow .boolean (.int x) = .int x := by
  rcases h with h | h
  · rw [h]; decide
  · rw [h]; decide
set_option maxHeartbeats 4000000 in
set_option maxRecDepth 100000 in
theorem c_X1_comesAgain (l : Launch) (dC : Nat → ClassId) (dI : Nat → Nat → Nat) (ad : Nat → Nat) (cz ci cj : ClassId) (sz : Nat) (st : Int32) (fO : Nat → Int32) (fG : Nat → Int32) (fH : Nat → Int32) (fM : Nat → Int32) (fN : Nat → Int32) (fT : Nat → Int32) (fR : Nat → Int32) (fF : Nat → Int32) (fK : Nat → Int32) (fV : Nat → Int32) (fE : Nat → Int32) (th : Int32) (n : Nat) (sO sA sB sT : Nat → Int32) (c0 : Nat) (hg : g_ok c0 sO sA sB sT) (hm : m_rel c0 sO sA sB sT fO fG fH fM fN fT) (hn : n < c0) : Met l yX1_comesAgain wX1_comesAgain ({ frames := 2, cells := 0, slots := 0, locals := 45 }) (va_Pc [.ref (ad 0), .int (nI n)] (g_Pre (dC, dI) vwCl (gty cz ci cj) (mw ad cz ci cj ((nI c0), fO, fG, fH, fM, fN, fT, fR, fF, fK, fV, fE, th)) sz)) (va_Qi (fun (r : Int32) (u : MS) => ∃ fF2 : Nat → Int32, (r = 0 ∨ r = 1) ∧ ((¬ r = 0) ↔ gto c0 sO sA sB sT n n) ∧ u = ((nI c0), fO, fG, fH, fM, fN, fT, fR, fF2, fK, fV, fE, th)) (g_At (dC, dI) vwCl (gty cz ci cj) (va_A (mw ad cz ci cj ((nI c0), fO, fG, fH, fM, fN, fT, fR, fF, fK, fV, fE, th)) sz) (mw ad cz ci cj)) (va_A (mw ad cz ci cj ((nI c0), fO, fG, fH, fM, fN, fT, fR, fF, fK, fV, fE, th)) sz)) 0 0 (va_A (mw ad cz ci cj ((nI c0), fO, fG, fH, fM, fN, fT, fR, fF, fK, fV, fE, th)) sz) := by
  refine Met.ofW (cc := cX1_comesAgain) (maxL := 3) (ret := some .boolean) (by decide) rfl ?_
  intro p e s m args below meth c s₁ Bd hml hv
  obtain ⟨rfl, hsz, hP, hK, hD0⟩ := hv
  have hx := Bd.exec
  have hb := Bd.bytes
  have hr := Bd.returns
  have hts := atoms_spec (ws := wX1_comesAgain) Bd.pre
  have hw : ∀ w ∈ wAll, w.before _ s = true := fun w h => hts w (List.mem_cons_of_mem _ h)
  have hown : s.vm.findClass "GameGraphModel" = some m.cls := findClass_of_methodNamed Bd.named
  have hlocks := Bd.notSynchronized
  subst hsz
  have hD := hD0.self (sz := s.heap.size)
  generalize hAe : va_A (mw ad cz ci cj ((nI c0), fO, fG, fH, fM, fN, fT, fR, fF, fK, fV, fE, th)) s.heap.size = Ar at hD ⊢
  have hA : ∀ q : Nat, s.heap.size ≤ q → Ar q := fun q h => by rw [← hAe]; exact Or.inr h
  obtain ⟨H, hH⟩ : ∃ H : Heap, H = s.heap := ⟨_, rfl⟩
  have hS : va_S Ar s.heap H [] := by rw [hH]; exact va_S.rf
  have hP : va_P (dC, dI) vwCl (mw ad cz ci cj ((nI c0), fO, fG, fH, fM, fN, fT, fR, fF, fK, fV, fE, th)) H := by rw [hH]; exact hP
  rw [← hH]
  have hl := lv_entry ([.ref (ad 0), .int (nI n)]) (n := 3) (Nat.le_of_ble_eq_true rfl)
  rw [lg_entry_eq]
  generalize (lg_sl ([.ref (ad 0), .int (nI n)]) ++ List.replicate (3 - (lg_sl ([.ref (ad 0), .int (nI n)])).length) Slot.unset).toArray = ls at hl ⊢
  have hl : lv_has ls 3 [(0, .ref (ad 0)), (1, .int (nI n))] := hl
  have h60 := hg.2.1
  refine lv_iconst (v := 0) hx hb dX1_comesAgain_0 (by decide) ?_
  refine x_topi (y := nI 0) (rfl) ?_
  refine lv_istore_n (lv' := [(2, .int (nI 0)), (0, .ref (ad 0)), (1, .int (nI n))]) hx hb dX1_comesAgain_1 rfl hl (by decide) rfl (fun ls hl => ?_)
  refine lm_ca1 (dC := dC) (dI := dI) (ad := ad) (cz := cz) (ci := ci) (cj := cj) (Ar := Ar) hx hb hml hown hw hK hA (Nat.le_of_ble_eq_true rfl) (Nat.le_of_ble_eq_true rfl) (nI c0) fO fG fH fM fN fT fR fK fV fE th n ?_  61 0 fF (by omega) (by omega) (fun k hk => absurd hk (Nat.not_lt_zero _)) _ _ hP hD hS _ (lv_sub hl [1, 2, 0] rfl)
  intro fF1 hI1 H locs hP hD hS ls hl
  refine lv_iconst (v := 0) hx hb dX1_comesAgain_21 (by decide) ?_
  refine x_topi (y := nI 0) (rfl) ?_
  refine lv_istore_n (lv' := [(2, .int (nI 0)), (0, .ref (ad 0)), (1, .int (nI n))]) hx hb dX1_comesAgain_22 rfl hl (by decide) rfl (fun ls hl => ?_)
  refine lm_ca2 (dC := dC) (dI := dI) (ad := ad) (cz := cz) (ci := ci) (cj := cj) (Ar := Ar) hx hb hml hown hw hK hA (Nat.le_of_ble_eq_true rfl) (Nat.le_of_ble_eq_true rfl) fO fG fH fM fN fT fR fK fV fE th n sO sA sB sT c0 hg hm hn ?_  (gmv sO sA sB n + 1) 0 fF1 (by omega) (by omega) (fun s hs => ⟨fun h => absurd (hI1 s (by omega)) h, fun ⟨i, hi, _⟩ => absurd hi (Nat.not_lt_zero _)⟩) (fun s hs => Or.inl (hI1 s (by omega))) _ _ hP hD hS _ (lv_sub hl [1, 2, 0] rfl)
  intro fF2 hI hbo H locs hP hD hS ls hl
  refine lv_aload_n hx hb dX1_comesAgain_55 rfl (lv_at hl 0 rfl) ?_
  refine lv_aload_n hx hb dX1_comesAgain_56 rfl (lv_at hl 0 rfl) ?_
  refine va_get (D := (dC, dI)) (ci := 1) (v := .ref (ad 8)) (C := RX1) (T := TX1) (N := 13) hx hb hw in_X1 hown hK hP 0 rfl rfl 8 (by decide) (hw _ m_8_32) (fun _ h9 => h9) rfl dX1_comesAgain_57 ?_
  refine g_callv ⟨hx, hb, hml, hown, hw⟩ (c_X1_spread_f l dC dI ad cz ci cj H.size (nI c0) fO fG fH fM fN fT fR fF2 fK fV fE th sO sA sB sT c0 hg hm hbo) (cwV 1 hw gv_X1_X1_spread rfl rfl rfl (by decide +kernel) ⟨Nat.le_of_ble_eq_true rfl, Nat.le_of_ble_eq_true rfl⟩) hK hP hD hS hA (ci := 1) (q0 := 0) rfl rfl rfl hl.1 rfl (Nat.le_of_ble_eq_true rfl) dX1_comesAgain_60 ⟨Nat.zero_le _, Nat.zero_le _⟩ (fun  un H locs hq hP hD hS => ?_)
  obtain ⟨fX1, hEQ, hb1, rfl⟩ := hq
  have hP : va_P (dC, dI) vwCl (mw ad cz ci cj ((nI c0), fO, fG, fH, fM, fN, fT, fR, fX1, fK, fV, fE, th)) H := hP
  have hD : va_D Ar (mw ad cz ci cj ((nI c0), fO, fG, fH, fM, fN, fT, fR, fX1, fK, fV, fE, th)) := hD
  refine lv_aload_n hx hb dX1_comesAgain_63 rfl (lv_at hl 0 rfl) ?_
  refine va_get (D := (dC, dI)) (ci := 1) (v := .ref (ad 8)) (C := RX1) (T := TX1) (N := 13) hx hb hw in_X1 hown hK hP 0 rfl rfl 8 (by decide) (hw _ m_8_32) (fun _ h9 => h9) rfl dX1_comesAgain_64 ?_
  refine lv_iload_n hx hb dX1_comesAgain_67 rfl (lv_at hl 1 rfl) ?_
  refine va_zald hx hb hK hP 8 0 rfl rfl (vp_in_nI (by omega) (by decide)) dX1_comesAgain_68 ?_
  refine x_topi (y := fX1 n) (by rw [nI_clamp (by omega)]) ?_
  exact W.zret (v := fX1 n) hx hb hr (k_nb (hb1 n hn)) (fun t ht hW => ⟨⟨fX1 n, ((nI c0), fO, fG, fH, fM, fN, fT, fR, fX1, fK, fV, fE, th), rfl, ⟨fX1, hb1 n hn, (hEQ n hn).trans (m_cl_n (g_sok hg) hn hI), rfl⟩, (by rw [ht]; exact hP), va_K.moved hW.alike hK, hD⟩, hS.F ht⟩) hS.2.2 dX1_comesAgain_69
