/-! The law's cases (by tool/law.py). -/
section DD
variable {A : Nat → Prop} {g o m : va_W}
theorem x_D1 (h : va_D A (g ++ (o ++ m))) : va_D A ((g ++ o) ++ m) := by rw [List.append_assoc]; exact h
theorem x_D2 (h : va_D A ((g ++ o) ++ m)) : va_D A (g ++ (o ++ m)) := by rw [← List.append_assoc]; exact h
theorem x_D3 (h : va_D A (g ++ (o ++ m))) : va_D A (m ++ (g ++ o)) := x_Ds (x_D1 h)
theorem x_D4 (h : va_D A (m ++ (g ++ o))) : va_D A (g ++ (o ++ m)) := x_D2 (x_Ds h)
end DD
theorem l_cmp (x : Int64) : lg_cmp x x = 0 := by unfold lg_cmp; simp
abbrev L_A (s : State) : Nat → Prop := fun q => s.heap.size ≤ q
/-- between two calls of the script: at pc, with C cells and S slots made -/
def L_W (p : Program) (l : Launch) (e : Env) (s : State) (m : MethodId) (b : Nat) (below : List Frame) (meth : Method) (c : Code) (Q : State → Prop) (dC : Nat → ClassId) (dI : Nat → Nat → Nat) (cz ci cj : ClassId) (ax am : Nat → Nat) (qo i pc C S : Nat) : Prop :=
  ∀ (u : GS) (v : MS), L_I u v → ∀ (fo : Nat → Int64) (H : Heap) (locs : List Loc), va_P (dC, dI) vwCl (gw ax cz ci cj u) H → va_P (dC, dI) vwCl [(qo, .inl (cj, 1, .inr (.inl fo)))] H → va_P (dC, dI) vwCl (mw am cz ci cj v) H →
    va_D (L_A s) (gw ax cz ci cj u ++ ([(qo, .inl (cj, 1, .inr (.inl fo)))] ++ mw am cz ci cj v)) → va_S (L_A s) s.heap H locs → ∀ (ls : Array Slot), lv_has ls 7 [(0, .ref b), (1, .ref (ax 0)), (2, .ref (am 0)), (3, .ref qo), (4, .int (nI i))] →
      W p l e room_1 s m #[Value.ref b] below meth c H locs C S Q (F0 m pc ls [])
section LC
variable {p : Program} {l : Launch} {e : Env} {s : State} {m : MethodId} {b : Nat} {below : List Frame} {meth : Method} {c : Code} {Q : State → Prop} {dC : Nat → ClassId} {dI : Nat → Nat → Nat} {cz ci cj : ClassId} {ax am : Nat → Nat} {qo i L C S : Nat} {xs : Nat → Int32}
set_option maxHeartbeats 4000000 in
set_option maxRecDepth 100000 in
theorem lw_c0 (hl0 : l.stackTraces = false) (hx : p.tables.exec = Jvm.exec) (hb : c.code = code) (hml : c.maxLocals = 7) (hown : s.vm.findClass "GameGraphLaw" = some m.cls) (hw : ∀ w ∈ wAll, w.before #[Value.ref b] s = true) (hX : va_X b L xs s s.heap) (hbl : b < s.heap.size) (hK : va_K (dC, dI) vwCl (gty cz ci cj) s) (hE : x_En (L_A s) s s.heap) (hN : x_N s) (hL : L ≤ 2048) (hi : i + 4 ≤ L) (hC : C + 3 ≤ 601024) (hS0 : S + 18 ≤ 7293034)
    (K : L_W p l e s m b below meth c Q dC dI cz ci cj ax am qo i 613 (C + 3) (S + 18)) : L_W p l e s m b below meth c Q dC dI cz ci cj ax am qo i 92 C S := by
  intro u v hI fo H locs hPG hPO hPM hD hS ls hl
  have hA : ∀ q : Nat, s.heap.size ≤ q → L_A s q := fun _ h => h
  obtain ⟨cnt, fO, fA, fB, fT, sv, fC, rs, dk, ds, fL, fl, fh⟩ := u
  obtain ⟨st, mO, mG, mH, mM, mN, mT, mR, mF, mK, mV, mE, th⟩ := v
  obtain ⟨c0, h1, h2, hg, hsv, hm⟩ := hI
  dsimp only at h1 h2 hg hsv hm
  subst h1 h2
  have h60 := hg.2.1
  refine lv_aload_n hx hb dL_law_92 rfl (lv_at hl 1 rfl) ?_
  refine lv_aload_n hx hb dL_law_93 rfl (lv_at hl 0 rfl) ?_
  refine lv_iload hx hb dL_law_94 (lv_at hl 4 rfl) ?_
  refine lv_iconst (v := 1) hx hb dL_law_96 (by decide) ?_
  refine lv_iadd hx hb dL_law_97 ?_
  refine x_topi (y := nI (i + 1)) (nI_add i 1) ?_
  refine va_sld hx hb hX hbl (Nat.not_le.mpr hbl) hS (vp_in_nI (by omega) (by omega)) dL_law_98 ?_
  refine x_topi (y := xs (i + 1)) (by rw [nI_clamp (by omega)]) ?_
  refine g_callSR (w := gw ax cz ci cj ((nI c0), fO, fA, fB, fT, sv, fC, rs, dk, ds, fL, fl, fh)) (wr := [(qo, .inl (cj, 1, .inr (.inl fo)))] ++ mw am cz ci cj ((nI c0), mO, mG, mH, mM, mN, mT, mR, mF, mK, mV, mE, th)) ⟨hx, hb, hml, hown, hw⟩ (c_L_states l hl0 dC dI ax cz ci cj H.size (nI c0) fO fA fB fT sv fC rs dk ds fL fl fh (xs (i + 1)) ) (vx_cwSW 2 hw gs_L_L_states rfl rfl rfl (by decide +kernel) ⟨Nat.le_of_ble_eq_true rfl, Nat.le_of_ble_eq_true rfl⟩) hK hPG (hPO.app hPM) hD hS hA hE hN rfl hl.1 rfl (Nat.le_of_ble_eq_true rfl) dL_law_99 ⟨by show C + 1 ≤ 601024; omega, by show S + 6 ≤ 7293034; omega⟩ (fun r9 u2 H locs hq9 hPG hPr hD hS => ?_)
  have hPO := x_Pl hPr
  have hPM := x_Pr hPr
  refine W.widen (k := C + 3) (n := S + 18) (by show C + 1 ≤ C + 3; omega) (by show S + 6 ≤ S + 18; omega) ?_
  refine lv_istore (lv' := [(5, .int r9), (0, .ref b), (1, .ref (ax 0)), (2, .ref (am 0)), (3, .ref qo), (4, .int (nI i))]) hx hb dL_law_102 hl (by decide) rfl (fun ls hl => ?_)
  refine lv_aload_n hx hb dL_law_104 rfl (lv_at hl 3 rfl) ?_
  refine lv_aload_n hx hb dL_law_105 rfl (lv_at hl 1 rfl) ?_
  refine lv_iload hx hb dL_law_106 (lv_at hl 5 rfl) ?_
  refine lv_iconst (v := 1) hx hb dL_law_108 (by decide) ?_
  refine lv_iadd hx hb dL_law_109 ?_
  refine x_topi (y := nI (i + 1)) (nI_add i 1) ?_
  refine va_sld hx hb hX hbl (Nat.not_le.mpr hbl) hS (vp_in_nI (by omega) (by omega)) dL_law_110 ?_
  refine x_topi (y := xs (i + 1)) (by rw [nI_clamp (by omega)]) ?_
  refine g_callvR (wr := gw ax cz ci cj u2 ++ [(qo, .inl (cj, 1, .inr (.inl fo)))]) ⟨hx, hb, hml, hown, hw⟩ (c_X1_states l dC dI am cz ci cj H.size (nI c0) mO mG mH mM mN mT mR mF mK mV mE th (xs (i + 1))) (cwV 1 hw gv_L_X1_states rfl rfl rfl (by decide +kernel) ⟨Nat.le_of_ble_eq_true rfl, Nat.le_of_ble_eq_true rfl⟩) hK hPM (hPG.app hPO) (x_D3 hD) hS hA (ci := 1) (q0 := 0) rfl rfl rfl hl.1 rfl (Nat.le_of_ble_eq_true rfl) dL_law_111 ⟨by show C + 3 + 0 ≤ 601024; omega, by show S + 18 + 0 ≤ 7293034; omega⟩ (fun v2 H locs hq hPM hPr hD hS => ?_)
  have hPG := x_Pl hPr
  have hPO := x_Pr hPr
  have hD : va_D (L_A s) (gw ax cz ci cj u2 ++ ([(qo, .inl (cj, 1, .inr (.inl fo)))] ++ mw am cz ci cj v2)) := x_D4 hD
  obtain ⟨hth, hI2⟩ := p_states (b9 := 0) hg hsv hm hq9 hq
  obtain ⟨st2, nO, nG, nH, nM, nN, nT, nR, nF, nK, nV, nE, th2⟩ := v2
  have hth : th2 = r9 := hth
  refine lv_aload_n hx hb dL_law_114 rfl (lv_at hl 3 rfl) ?_
  refine g_calliR (wr := gw ax cz ci cj u2 ++ [(qo, .inl (cj, 1, .inr (.inl fo)))]) ⟨hx, hb, hml, hown, hw⟩ (c_X1_thrown l dC dI am cz ci cj H.size st2 nO nG nH nM nN nT nR nF nK nV nE th2) (cwV 0 hw gv_L_X1_thrown rfl rfl rfl (by decide +kernel) ⟨Nat.le_of_ble_eq_true rfl, Nat.le_of_ble_eq_true rfl⟩) hK hPM (hPG.app hPO) (x_D3 hD) hS hA (ci := 1) (q0 := 0) rfl rfl rfl hl.1 rfl (Nat.le_of_ble_eq_true rfl) dL_law_115 ⟨by show C + 3 + 0 ≤ 601024; omega, by show S + 18 + 0 ≤ 7293034; omega⟩ (fun t9 v3 H locs hq hPM hPr hD hS => ?_)
  have hPG := x_Pl hPr
  have hPO := x_Pr hPr
  have hD : va_D (L_A s) (gw ax cz ci cj u2 ++ ([(qo, .inl (cj, 1, .inr (.inl fo)))] ++ mw am cz ci cj v3)) := x_D4 hD
  obtain ⟨rfl, e9⟩ := hq
  refine x_topi (y := th2) (e9) ?_
  refine lv_iload hx hb dL_law_118 (lv_at hl 0 rfl) ?_
  refine lv_icmp_eq (tgt := 125) hx hb dL_law_120 (by decide) (fun c_1 => ?_) (fun c_1 => ?_)
  · refine lv_goto (tgt := 613) hx hb dL_law_125 (by decide) ?_
    exact K u2 (st2, nO, nG, nH, nM, nN, nT, nR, nF, nK, nV, nE, th2) hI2 fo _ _ hPG hPO hPM hD hS _ (lv_sub hl [1, 2, 3, 4, 5] rfl)
  · exact absurd hth c_1
set_option maxHeartbeats 4000000 in
set_option maxRecDepth 100000 in
theorem lw_c1 (hl0 : l.stackTraces = false) (hx : p.tables.exec = Jvm.exec) (hb : c.code = code) (hml : c.maxLocals = 7) (hown : s.vm.findClass "GameGraphLaw" = some m.cls) (hw : ∀ w ∈ wAll, w.before #[Value.ref b] s = true) (hX : va_X b L xs s s.heap) (hbl : b < s.heap.size) (hK : va_K (dC, dI) vwCl (gty cz ci cj) s) (hE : x_En (L_A s) s s.heap) (hN : x_N s) (hL : L ≤ 2048) (hi : i + 4 ≤ L) (hC : C + 3 ≤ 601024) (hS0 : S + 18 ≤ 7293034)
    (K : L_W p l e s m b below meth c Q dC dI cz ci cj ax am qo i 613 (C + 3) (S + 18)) : L_W p l e s m b below meth c Q dC dI cz ci cj ax am qo i 128 C S := by
  intro u v hI fo H locs hPG hPO hPM hD hS ls hl
  have hA : ∀ q : Nat, s.heap.size ≤ q → L_A s q := fun _ h => h
  obtain ⟨cnt, fO, fA, fB, fT, sv, fC, rs, dk, ds, fL, fl, fh⟩ := u
  obtain ⟨st, mO, mG, mH, mM, mN, mT, mR, mF, mK, mV, mE, th⟩ := v
  obtain ⟨c0, h1, h2, hg, hsv, hm⟩ := hI
  dsimp only at h1 h2 hg hsv hm
  subst h1 h2
  have h60 := hg.2.1
  refine lv_aload_n hx hb dL_law_128 rfl (lv_at hl 1 rfl) ?_
  refine lv_aload_n hx hb dL_law_129 rfl (lv_at hl 0 rfl) ?_
  refine lv_iload hx hb dL_law_130 (lv_at hl 4 rfl) ?_
  refine lv_iconst (v := 1) hx hb dL_law_132 (by decide) ?_
  refine lv_iadd hx hb dL_law_133 ?_
  refine x_topi (y := nI (i + 1)) (nI_add i 1) ?_
  refine va_sld hx hb hX hbl (Nat.not_le.mpr hbl) hS (vp_in_nI (by omega) (by omega)) dL_law_134 ?_
  refine x_topi (y := xs (i + 1)) (by rw [nI_clamp (by omega)]) ?_
  refine lv_aload_n hx hb dL_law_135 rfl (lv_at hl 0 rfl) ?_
  refine lv_iload hx hb dL_law_136 (lv_at hl 4 rfl) ?_
  refine lv_iconst (v := 2) hx hb dL_law_138 (by decide) ?_
  refine lv_iadd hx hb dL_law_139 ?_
  refine x_topi (y := nI (i + 2)) (nI_add i 2) ?_
  refine va_sld hx hb hX hbl (Nat.not_le.mpr hbl) hS (vp_in_nI (by omega) (by omega)) dL_law_140 ?_
  refine x_topi (y := xs (i + 2)) (by rw [nI_clamp (by omega)]) ?_
  refine lv_aload_n hx hb dL_law_141 rfl (lv_at hl 0 rfl) ?_
  refine lv_iload hx hb dL_law_142 (lv_at hl 4 rfl) ?_
  refine lv_iconst (v := 3) hx hb dL_law_144 (by decide) ?_
  refine lv_iadd hx hb dL_law_145 ?_
  refine x_topi (y := nI (i + 3)) (nI_add i 3) ?_
  refine va_sld hx hb hX hbl (Nat.not_le.mpr hbl) hS (vp_in_nI (by omega) (by omega)) dL_law_146 ?_
  refine x_topi (y := xs (i + 3)) (by rw [nI_clamp (by omega)]) ?_
  refine g_callSR (w := gw ax cz ci cj ((nI c0), fO, fA, fB, fT, sv, fC, rs, dk, ds, fL, fl, fh)) (wr := [(qo, .inl (cj, 1, .inr (.inl fo)))] ++ mw am cz ci cj ((nI c0), mO, mG, mH, mM, mN, mT, mR, mF, mK, mV, mE, th)) ⟨hx, hb, hml, hown, hw⟩ (c_L_end l hl0 dC dI ax cz ci cj H.size (nI c0) fO fA fB fT sv fC rs dk ds fL fl fh (xs (i + 1)) (xs (i + 2)) (xs (i + 3)) c0 hg) (vx_cwSW 4 hw gs_L_L_end rfl rfl rfl (by decide +kernel) ⟨Nat.le_of_ble_eq_true rfl, Nat.le_of_ble_eq_true rfl⟩) hK hPG (hPO.app hPM) hD hS hA hE hN rfl hl.1 rfl (Nat.le_of_ble_eq_true rfl) dL_law_147 ⟨by show C + 2 ≤ 601024; omega, by show S + 12 ≤ 7293034; omega⟩ (fun r9 u2 H locs hq9 hPG hPr hD hS => ?_)
  have hPO := x_Pl hPr
  have hPM := x_Pr hPr
  refine W.widen (k := C + 3) (n := S + 18) (by show C + 2 ≤ C + 3; omega) (by show S + 12 ≤ S + 18; omega) ?_
  refine lv_istore (lv' := [(5, .int r9), (0, .ref b), (1, .ref (ax 0)), (2, .ref (am 0)), (3, .ref qo), (4, .int (nI i))]) hx hb dL_law_150 hl (by decide) rfl (fun ls hl => ?_)
  refine lv_aload_n hx hb dL_law_152 rfl (lv_at hl 3 rfl) ?_
  refine lv_aload_n hx hb dL_law_153 rfl (lv_at hl 1 rfl) ?_
  refine lv_iload hx hb dL_law_154 (lv_at hl 5 rfl) ?_
  refine lv_iconst (v := 1) hx hb dL_law_156 (by decide) ?_
  refine lv_iadd hx hb dL_law_157 ?_
  refine x_topi (y := nI (i + 1)) (nI_add i 1) ?_
  refine va_sld hx hb hX hbl (Nat.not_le.mpr hbl) hS (vp_in_nI (by omega) (by omega)) dL_law_158 ?_
  refine x_topi (y := xs (i + 1)) (by rw [nI_clamp (by omega)]) ?_
  refine lv_aload_n hx hb dL_law_159 rfl (lv_at hl 1 rfl) ?_
  refine lv_iload hx hb dL_law_160 (lv_at hl 5 rfl) ?_
  refine lv_iconst (v := 2) hx hb dL_law_162 (by decide) ?_
  refine lv_iadd hx hb dL_law_163 ?_
  refine x_topi (y := nI (i + 2)) (nI_add i 2) ?_
  refine va_sld hx hb hX hbl (Nat.not_le.mpr hbl) hS (vp_in_nI (by omega) (by omega)) dL_law_164 ?_
  refine x_topi (y := xs (i + 2)) (by rw [nI_clamp (by omega)]) ?_
  refine lv_aload_n hx hb dL_law_165 rfl (lv_at hl 1 rfl) ?_
  refine lv_iload hx hb dL_law_166 (lv_at hl 5 rfl) ?_
  refine lv_iconst (v := 3) hx hb dL_law_168 (by decide) ?_
  refine lv_iadd hx hb dL_law_169 ?_
  refine x_topi (y := nI (i + 3)) (nI_add i 3) ?_
  refine va_sld hx hb hX hbl (Nat.not_le.mpr hbl) hS (vp_in_nI (by omega) (by omega)) dL_law_170 ?_
  refine x_topi (y := xs (i + 3)) (by rw [nI_clamp (by omega)]) ?_
  refine g_callvR (wr := gw ax cz ci cj u2 ++ [(qo, .inl (cj, 1, .inr (.inl fo)))]) ⟨hx, hb, hml, hown, hw⟩ (c_X1_end l dC dI am cz ci cj H.size (nI c0) mO mG mH mM mN mT mR mF mK mV mE th (xs (i + 1)) (xs (i + 2)) (xs (i + 3)) c0 h60) (cwV 3 hw gv_L_X1_end rfl rfl rfl (by decide +kernel) ⟨Nat.le_of_ble_eq_true rfl, Nat.le_of_ble_eq_true rfl⟩) hK hPM (hPG.app hPO) (x_D3 hD) hS hA (ci := 1) (q0 := 0) rfl rfl rfl hl.1 rfl (Nat.le_of_ble_eq_true rfl) dL_law_171 ⟨by show C + 3 + 0 ≤ 601024; omega, by show S + 18 + 0 ≤ 7293034; omega⟩ (fun v2 H locs hq hPM hPr hD hS => ?_)
  have hPG := x_Pl hPr
  have hPO := x_Pr hPr
  have hD : va_D (L_A s) (gw ax cz ci cj u2 ++ ([(qo, .inl (cj, 1, .inr (.inl fo)))] ++ mw am cz ci cj v2)) := x_D4 hD
  obtain ⟨hth, hI2⟩ := p_end (b9 := 0) hg hsv hm hq9 hq
  obtain ⟨st2, nO, nG, nH, nM, nN, nT, nR, nF, nK, nV, nE, th2⟩ := v2
  have hth : th2 = r9 := hth
  refine lv_aload_n hx hb dL_law_174 rfl (lv_at hl 3 rfl) ?_
  refine g_calliR (wr := gw ax cz ci cj u2 ++ [(qo, .inl (cj, 1, .inr (.inl fo)))]) ⟨hx, hb, hml, hown, hw⟩ (c_X1_thrown l dC dI am cz ci cj H.size st2 nO nG nH nM nN nT nR nF nK nV nE th2) (cwV 0 hw gv_L_X1_thrown rfl rfl rfl (by decide +kernel) ⟨Nat.le_of_ble_eq_true rfl, Nat.le_of_ble_eq_true rfl⟩) hK hPM (hPG.app hPO) (x_D3 hD) hS hA (ci := 1) (q0 := 0) rfl rfl rfl hl.1 rfl (Nat.le_of_ble_eq_true rfl) dL_law_175 ⟨by show C + 3 + 0 ≤ 601024; omega, by show S + 18 + 0 ≤ 7293034; omega⟩ (fun t9 v3 H locs hq hPM hPr hD hS => ?_)
  have hPG := x_Pl hPr
  have hPO := x_Pr hPr
  have hD : va_D (L_A s) (gw ax cz ci cj u2 ++ ([(qo, .inl (cj, 1, .inr (.inl fo)))] ++ mw am cz ci cj v3)) := x_D4 hD
  obtain ⟨rfl, e9⟩ := hq
  refine x_topi (y := th2) (e9) ?_
  refine lv_iload hx hb dL_law_178 (lv_at hl 0 rfl) ?_
  refine lv_icmp_eq (tgt := 185) hx hb dL_law_180 (by decide) (fun c_1 => ?_) (fun c_1 => ?_)
  · refine lv_goto (tgt := 613) hx hb dL_law_185 (by decide) ?_
    exact K u2 (st2, nO, nG, nH, nM, nN, nT, nR, nF, nK, nV, nE, th2) hI2 fo _ _ hPG hPO hPM hD hS _ (lv_sub hl [1, 2, 3, 4, 5] rfl)
  · exact absurd hth c_1
set_option maxHeartbeats 4000000 in
set_option maxRecDepth 100000 in
theorem lw_c2 (hl0 : l.stackTraces = false) (hx : p.tables.exec = Jvm.exec) (hb : c.code = code) (hml : c.maxLocals = 7) (hown : s.vm.findClass "GameGraphLaw" = some m.cls) (hw : ∀ w ∈ wAll, w.before #[Value.ref b] s = true) (hX : va_X b L xs s s.heap) (hbl : b < s.heap.size) (hK : va_K (dC, dI) vwCl (gty cz ci cj) s) (hE : x_En (L_A s) s s.heap) (hN : x_N s) (hL : L ≤ 2048) (hi : i + 4 ≤ L) (hC : C + 3 ≤ 601024) (hS0 : S + 18 ≤ 7293034)
    (K : L_W p l e s m b below meth c Q dC dI cz ci cj ax am qo i 613 (C + 3) (S + 18)) : L_W p l e s m b below meth c Q dC dI cz ci cj ax am qo i 188 C S := by
  intro u v hI fo H locs hPG hPO hPM hD hS ls hl
  have hA : ∀ q : Nat, s.heap.size ≤ q → L_A s q := fun _ h => h
  obtain ⟨cnt, fO, fA, fB, fT, sv, fC, rs, dk, ds, fL, fl, fh⟩ := u
  obtain ⟨st, mO, mG, mH, mM, mN, mT, mR, mF, mK, mV, mE, th⟩ := v
  obtain ⟨c0, h1, h2, hg, hsv, hm⟩ := hI
  dsimp only at h1 h2 hg hsv hm
  subst h1 h2
  have h60 := hg.2.1
  refine lv_aload_n hx hb dL_law_188 rfl (lv_at hl 1 rfl) ?_
  refine lv_aload_n hx hb dL_law_189 rfl (lv_at hl 0 rfl) ?_
  refine lv_iload hx hb dL_law_190 (lv_at hl 4 rfl) ?_
  refine lv_iconst (v := 1) hx hb dL_law_192 (by decide) ?_
  refine lv_iadd hx hb dL_law_193 ?_
  refine x_topi (y := nI (i + 1)) (nI_add i 1) ?_
  refine va_sld hx hb hX hbl (Nat.not_le.mpr hbl) hS (vp_in_nI (by omega) (by omega)) dL_law_194 ?_
  refine x_topi (y := xs (i + 1)) (by rw [nI_clamp (by omega)]) ?_
  refine lv_aload_n hx hb dL_law_195 rfl (lv_at hl 0 rfl) ?_
  refine lv_iload hx hb dL_law_196 (lv_at hl 4 rfl) ?_
  refine lv_iconst (v := 2) hx hb dL_law_198 (by decide) ?_
  refine lv_iadd hx hb dL_law_199 ?_
  refine x_topi (y := nI (i + 2)) (nI_add i 2) ?_
  refine va_sld hx hb hX hbl (Nat.not_le.mpr hbl) hS (vp_in_nI (by omega) (by omega)) dL_law_200 ?_
  refine x_topi (y := xs (i + 2)) (by rw [nI_clamp (by omega)]) ?_
  refine lv_aload_n hx hb dL_law_201 rfl (lv_at hl 0 rfl) ?_
  refine lv_iload hx hb dL_law_202 (lv_at hl 4 rfl) ?_
  refine lv_iconst (v := 3) hx hb dL_law_204 (by decide) ?_
  refine lv_iadd hx hb dL_law_205 ?_
  refine x_topi (y := nI (i + 3)) (nI_add i 3) ?_
  refine va_sld hx hb hX hbl (Nat.not_le.mpr hbl) hS (vp_in_nI (by omega) (by omega)) dL_law_206 ?_
  refine x_topi (y := xs (i + 3)) (by rw [nI_clamp (by omega)]) ?_
  refine g_callSR (w := gw ax cz ci cj ((nI c0), fO, fA, fB, fT, sv, fC, rs, dk, ds, fL, fl, fh)) (wr := [(qo, .inl (cj, 1, .inr (.inl fo)))] ++ mw am cz ci cj ((nI c0), mO, mG, mH, mM, mN, mT, mR, mF, mK, mV, mE, th)) ⟨hx, hb, hml, hown, hw⟩ (c_L_open l hl0 dC dI ax cz ci cj H.size (nI c0) fO fA fB fT sv fC rs dk ds fL fl fh (xs (i + 1)) (xs (i + 2)) (xs (i + 3)) c0 hg) (vx_cwSW 4 hw gs_L_L_open rfl rfl rfl (by decide +kernel) ⟨Nat.le_of_ble_eq_true rfl, Nat.le_of_ble_eq_true rfl⟩) hK hPG (hPO.app hPM) hD hS hA hE hN rfl hl.1 rfl (Nat.le_of_ble_eq_true rfl) dL_law_207 ⟨by show C + 2 ≤ 601024; omega, by show S + 12 ≤ 7293034; omega⟩ (fun r9 u2 H locs hq9 hPG hPr hD hS => ?_)
  have hPO := x_Pl hPr
  have hPM := x_Pr hPr
  refine W.widen (k := C + 3) (n := S + 18) (by show C + 2 ≤ C + 3; omega) (by show S + 12 ≤ S + 18; omega) ?_
  refine lv_istore (lv' := [(5, .int r9), (0, .ref b), (1, .ref (ax 0)), (2, .ref (am 0)), (3, .ref qo), (4, .int (nI i))]) hx hb dL_law_210 hl (by decide) rfl (fun ls hl => ?_)
  refine lv_aload_n hx hb dL_law_212 rfl (lv_at hl 3 rfl) ?_
  refine lv_aload_n hx hb dL_law_213 rfl (lv_at hl 1 rfl) ?_
  refine lv_iload hx hb dL_law_214 (lv_at hl 5 rfl) ?_
  refine lv_iconst (v := 1) hx hb dL_law_216 (by decide) ?_
  refine lv_iadd hx hb dL_law_217 ?_
  refine x_topi (y := nI (i + 1)) (nI_add i 1) ?_
  refine va_sld hx hb hX hbl (Nat.not_le.mpr hbl) hS (vp_in_nI (by omega) (by omega)) dL_law_218 ?_
  refine x_topi (y := xs (i + 1)) (by rw [nI_clamp (by omega)]) ?_
  refine lv_aload_n hx hb dL_law_219 rfl (lv_at hl 1 rfl) ?_
  refine lv_iload hx hb dL_law_220 (lv_at hl 5 rfl) ?_
  refine lv_iconst (v := 2) hx hb dL_law_222 (by decide) ?_
  refine lv_iadd hx hb dL_law_223 ?_
  refine x_topi (y := nI (i + 2)) (nI_add i 2) ?_
  refine va_sld hx hb hX hbl (Nat.not_le.mpr hbl) hS (vp_in_nI (by omega) (by omega)) dL_law_224 ?_
  refine x_topi (y := xs (i + 2)) (by rw [nI_clamp (by omega)]) ?_
  refine lv_aload_n hx hb dL_law_225 rfl (lv_at hl 1 rfl) ?_
  refine lv_iload hx hb dL_law_226 (lv_at hl 5 rfl) ?_
  refine lv_iconst (v := 3) hx hb dL_law_228 (by decide) ?_
  refine lv_iadd hx hb dL_law_229 ?_
  refine x_topi (y := nI (i + 3)) (nI_add i 3) ?_
  refine va_sld hx hb hX hbl (Nat.not_le.mpr hbl) hS (vp_in_nI (by omega) (by omega)) dL_law_230 ?_
  refine x_topi (y := xs (i + 3)) (by rw [nI_clamp (by omega)]) ?_
  refine g_callvR (wr := gw ax cz ci cj u2 ++ [(qo, .inl (cj, 1, .inr (.inl fo)))]) ⟨hx, hb, hml, hown, hw⟩ (c_X1_open l dC dI am cz ci cj H.size (nI c0) mO mG mH mM mN mT mR mF mK mV mE th (xs (i + 1)) (xs (i + 2)) (xs (i + 3)) c0 h60) (cwV 3 hw gv_L_X1_open rfl rfl rfl (by decide +kernel) ⟨Nat.le_of_ble_eq_true rfl, Nat.le_of_ble_eq_true rfl⟩) hK hPM (hPG.app hPO) (x_D3 hD) hS hA (ci := 1) (q0 := 0) rfl rfl rfl hl.1 rfl (Nat.le_of_ble_eq_true rfl) dL_law_231 ⟨by show C + 3 + 0 ≤ 601024; omega, by show S + 18 + 0 ≤ 7293034; omega⟩ (fun v2 H locs hq hPM hPr hD hS => ?_)
  have hPG := x_Pl hPr
  have hPO := x_Pr hPr
  have hD : va_D (L_A s) (gw ax cz ci cj u2 ++ ([(qo, .inl (cj, 1, .inr (.inl fo)))] ++ mw am cz ci cj v2)) := x_D4 hD
  obtain ⟨hth, hI2⟩ := p_open (b9 := 0) hg hsv hm hq9 hq
  obtain ⟨st2, nO, nG, nH, nM, nN, nT, nR, nF, nK, nV, nE, th2⟩ := v2
  have hth : th2 = r9 := hth
  refine lv_aload_n hx hb dL_law_234 rfl (lv_at hl 3 rfl) ?_
  refine g_calliR (wr := gw ax cz ci cj u2 ++ [(qo, .inl (cj, 1, .inr (.inl fo)))]) ⟨hx, hb, hml, hown, hw⟩ (c_X1_thrown l dC dI am cz ci cj H.size st2 nO nG nH nM nN nT nR nF nK nV nE th2) (cwV 0 hw gv_L_X1_thrown rfl rfl rfl (by decide +kernel) ⟨Nat.le_of_ble_eq_true rfl, Nat.le_of_ble_eq_true rfl⟩) hK hPM (hPG.app hPO) (x_D3 hD) hS hA (ci := 1) (q0 := 0) rfl rfl rfl hl.1 rfl (Nat.le_of_ble_eq_true rfl) dL_law_235 ⟨by show C + 3 + 0 ≤ 601024; omega, by show S + 18 + 0 ≤ 7293034; omega⟩ (fun t9 v3 H locs hq hPM hPr hD hS => ?_)
  have hPG := x_Pl hPr
  have hPO := x_Pr hPr
  have hD : va_D (L_A s) (gw ax cz ci cj u2 ++ ([(qo, .inl (cj, 1, .inr (.inl fo)))] ++ mw am cz ci cj v3)) := x_D4 hD
  obtain ⟨rfl, e9⟩ := hq
  refine x_topi (y := th2) (e9) ?_
  refine lv_iload hx hb dL_law_238 (lv_at hl 0 rfl) ?_
  refine lv_icmp_eq (tgt := 245) hx hb dL_law_240 (by decide) (fun c_1 => ?_) (fun c_1 => ?_)
  · refine lv_goto (tgt := 613) hx hb dL_law_245 (by decide) ?_
    exact K u2 (st2, nO, nG, nH, nM, nN, nT, nR, nF, nK, nV, nE, th2) hI2 fo _ _ hPG hPO hPM hD hS _ (lv_sub hl [1, 2, 3, 4, 5] rfl)
  · exact absurd hth c_1
set_option maxHeartbeats 4000000 in
set_option maxRecDepth 100000 in
theorem lw_c3 (hl0 : l.stackTraces = false) (hx : p.tables.exec = Jvm.exec) (hb : c.code = code) (hml : c.maxLocals = 7) (hown : s.vm.findClass "GameGraphLaw" = some m.cls) (hw : ∀ w ∈ wAll, w.before #[Value.ref b] s = true) (hX : va_X b L xs s s.heap) (hbl : b < s.heap.size) (hK : va_K (dC, dI) vwCl (gty cz ci cj) s) (hE : x_En (L_A s) s s.heap) (hN : x_N s) (hL : L ≤ 2048) (hi : i + 4 ≤ L) (hC : C + 3 ≤ 601024) (hS0 : S + 18 ≤ 7293034)
    (K : L_W p l e s m b below meth c Q dC dI cz ci cj ax am qo i 613 (C + 3) (S + 18)) : L_W p l e s m b below meth c Q dC dI cz ci cj ax am qo i 248 C S := by
  intro u v hI fo H locs hPG hPO hPM hD hS ls hl
  have hA : ∀ q : Nat, s.heap.size ≤ q → L_A s q := fun _ h => h
  obtain ⟨cnt, fO, fA, fB, fT, sv, fC, rs, dk, ds, fL, fl, fh⟩ := u
  obtain ⟨st, mO, mG, mH, mM, mN, mT, mR, mF, mK, mV, mE, th⟩ := v
  obtain ⟨c0, h1, h2, hg, hsv, hm⟩ := hI
  dsimp only at h1 h2 hg hsv hm
  subst h1 h2
  have h60 := hg.2.1
  refine lv_aload_n hx hb dL_law_248 rfl (lv_at hl 1 rfl) ?_
  refine lv_aload_n hx hb dL_law_249 rfl (lv_at hl 0 rfl) ?_
  refine lv_iload hx hb dL_law_250 (lv_at hl 4 rfl) ?_
  refine lv_iconst (v := 1) hx hb dL_law_252 (by decide) ?_
  refine lv_iadd hx hb dL_law_253 ?_
  refine x_topi (y := nI (i + 1)) (nI_add i 1) ?_
  refine va_sld hx hb hX hbl (Nat.not_le.mpr hbl) hS (vp_in_nI (by omega) (by omega)) dL_law_254 ?_
  refine x_topi (y := xs (i + 1)) (by rw [nI_clamp (by omega)]) ?_
  refine lv_aload_n hx hb dL_law_255 rfl (lv_at hl 0 rfl) ?_
  refine lv_iload hx hb dL_law_256 (lv_at hl 4 rfl) ?_
  refine lv_iconst (v := 2) hx hb dL_law_258 (by decide) ?_
  refine lv_iadd hx hb dL_law_259 ?_
  refine x_topi (y := nI (i + 2)) (nI_add i 2) ?_
  refine va_sld hx hb hX hbl (Nat.not_le.mpr hbl) hS (vp_in_nI (by omega) (by omega)) dL_law_260 ?_
  refine x_topi (y := xs (i + 2)) (by rw [nI_clamp (by omega)]) ?_
  refine lv_aload_n hx hb dL_law_261 rfl (lv_at hl 0 rfl) ?_
  refine lv_iload hx hb dL_law_262 (lv_at hl 4 rfl) ?_
  refine lv_iconst (v := 3) hx hb dL_law_264 (by decide) ?_
  refine lv_iadd hx hb dL_law_265 ?_
  refine x_topi (y := nI (i + 3)) (nI_add i 3) ?_
  refine va_sld hx hb hX hbl (Nat.not_le.mpr hbl) hS (vp_in_nI (by omega) (by omega)) dL_law_266 ?_
  refine x_topi (y := xs (i + 3)) (by rw [nI_clamp (by omega)]) ?_
  refine g_callSR (w := gw ax cz ci cj ((nI c0), fO, fA, fB, fT, sv, fC, rs, dk, ds, fL, fl, fh)) (wr := [(qo, .inl (cj, 1, .inr (.inl fo)))] ++ mw am cz ci cj ((nI c0), mO, mG, mH, mM, mN, mT, mR, mF, mK, mV, mE, th)) ⟨hx, hb, hml, hown, hw⟩ (c_L_link l hl0 dC dI ax cz ci cj H.size (nI c0) fO fA fB fT sv fC rs dk ds fL fl fh (xs (i + 1)) (xs (i + 2)) (xs (i + 3)) c0 hg) (vx_cwSW 4 hw gs_L_L_link rfl rfl rfl (by decide +kernel) ⟨Nat.le_of_ble_eq_true rfl, Nat.le_of_ble_eq_true rfl⟩) hK hPG (hPO.app hPM) hD hS hA hE hN rfl hl.1 rfl (Nat.le_of_ble_eq_true rfl) dL_law_267 ⟨by show C + 3 ≤ 601024; omega, by show S + 18 ≤ 7293034; omega⟩ (fun r9 u2 H locs hq9 hPG hPr hD hS => ?_)
  have hPO := x_Pl hPr
  have hPM := x_Pr hPr
  refine W.widen (k := C + 3) (n := S + 18) (by show C + 3 ≤ C + 3; omega) (by show S + 18 ≤ S + 18; omega) ?_
  refine lv_istore (lv' := [(5, .int r9), (0, .ref b), (1, .ref (ax 0)), (2, .ref (am 0)), (3, .ref qo), (4, .int (nI i))]) hx hb dL_law_270 hl (by decide) rfl (fun ls hl => ?_)
  refine lv_aload_n hx hb dL_law_272 rfl (lv_at hl 3 rfl) ?_
  refine lv_aload_n hx hb dL_law_273 rfl (lv_at hl 1 rfl) ?_
  refine lv_iload hx hb dL_law_274 (lv_at hl 5 rfl) ?_
  refine lv_iconst (v := 1) hx hb dL_law_276 (by decide) ?_
  refine lv_iadd hx hb dL_law_277 ?_
  refine x_topi (y := nI (i + 1)) (nI_add i 1) ?_
  refine va_sld hx hb hX hbl (Nat.not_le.mpr hbl) hS (vp_in_nI (by omega) (by omega)) dL_law_278 ?_
  refine x_topi (y := xs (i + 1)) (by rw [nI_clamp (by omega)]) ?_
  refine lv_aload_n hx hb dL_law_279 rfl (lv_at hl 1 rfl) ?_
  refine lv_iload hx hb dL_law_280 (lv_at hl 5 rfl) ?_
  refine lv_iconst (v := 2) hx hb dL_law_282 (by decide) ?_
  refine lv_iadd hx hb dL_law_283 ?_
  refine x_topi (y := nI (i + 2)) (nI_add i 2) ?_
  refine va_sld hx hb hX hbl (Nat.not_le.mpr hbl) hS (vp_in_nI (by omega) (by omega)) dL_law_284 ?_
  refine x_topi (y := xs (i + 2)) (by rw [nI_clamp (by omega)]) ?_
  refine lv_aload_n hx hb dL_law_285 rfl (lv_at hl 1 rfl) ?_
  refine lv_iload hx hb dL_law_286 (lv_at hl 5 rfl) ?_
  refine lv_iconst (v := 3) hx hb dL_law_288 (by decide) ?_
  refine lv_iadd hx hb dL_law_289 ?_
  refine x_topi (y := nI (i + 3)) (nI_add i 3) ?_
  refine va_sld hx hb hX hbl (Nat.not_le.mpr hbl) hS (vp_in_nI (by omega) (by omega)) dL_law_290 ?_
  refine x_topi (y := xs (i + 3)) (by rw [nI_clamp (by omega)]) ?_
  refine g_callvR (wr := gw ax cz ci cj u2 ++ [(qo, .inl (cj, 1, .inr (.inl fo)))]) ⟨hx, hb, hml, hown, hw⟩ (c_X1_link l dC dI am cz ci cj H.size (nI c0) mO mG mH mM mN mT mR mF mK mV mE th (xs (i + 1)) (xs (i + 2)) (xs (i + 3)) fO fA fB fT c0 hg hm) (cwV 3 hw gv_L_X1_link rfl rfl rfl (by decide +kernel) ⟨Nat.le_of_ble_eq_true rfl, Nat.le_of_ble_eq_true rfl⟩) hK hPM (hPG.app hPO) (x_D3 hD) hS hA (ci := 1) (q0 := 0) rfl rfl rfl hl.1 rfl (Nat.le_of_ble_eq_true rfl) dL_law_291 ⟨by show C + 3 + 0 ≤ 601024; omega, by show S + 18 + 0 ≤ 7293034; omega⟩ (fun v2 H locs hq hPM hPr hD hS => ?_)
  have hPG := x_Pl hPr
  have hPO := x_Pr hPr
  have hD : va_D (L_A s) (gw ax cz ci cj u2 ++ ([(qo, .inl (cj, 1, .inr (.inl fo)))] ++ mw am cz ci cj v2)) := x_D4 hD
  obtain ⟨hth, hI2⟩ := p_link (b9 := 0) hg hsv hm hq9 hq
  obtain ⟨st2, nO, nG, nH, nM, nN, nT, nR, nF, nK, nV, nE, th2⟩ := v2
  have hth : th2 = r9 := hth
  refine lv_aload_n hx hb dL_law_294 rfl (lv_at hl 3 rfl) ?_
  refine g_calliR (wr := gw ax cz ci cj u2 ++ [(qo, .inl (cj, 1, .inr (.inl fo)))]) ⟨hx, hb, hml, hown, hw⟩ (c_X1_thrown l dC dI am cz ci cj H.size st2 nO nG nH nM nN nT nR nF nK nV nE th2) (cwV 0 hw gv_L_X1_thrown rfl rfl rfl (by decide +kernel) ⟨Nat.le_of_ble_eq_true rfl, Nat.le_of_ble_eq_true rfl⟩) hK hPM (hPG.app hPO) (x_D3 hD) hS hA (ci := 1) (q0 := 0) rfl rfl rfl hl.1 rfl (Nat.le_of_ble_eq_true rfl) dL_law_295 ⟨by show C + 3 + 0 ≤ 601024; omega, by show S + 18 + 0 ≤ 7293034; omega⟩ (fun t9 v3 H locs hq hPM hPr hD hS => ?_)
  have hPG := x_Pl hPr
  have hPO := x_Pr hPr
  have hD : va_D (L_A s) (gw ax cz ci cj u2 ++ ([(qo, .inl (cj, 1, .inr (.inl fo)))] ++ mw am cz ci cj v3)) := x_D4 hD
  obtain ⟨rfl, e9⟩ := hq
  refine x_topi (y := th2) (e9) ?_
  refine lv_iload hx hb dL_law_298 (lv_at hl 0 rfl) ?_
  refine lv_icmp_eq (tgt := 305) hx hb dL_law_300 (by decide) (fun c_1 => ?_) (fun c_1 => ?_)
  · refine lv_goto (tgt := 613) hx hb dL_law_305 (by decide) ?_
    exact K u2 (st2, nO, nG, nH, nM, nN, nT, nR, nF, nK, nV, nE, th2) hI2 fo _ _ hPG hPO hPM hD hS _ (lv_sub hl [1, 2, 3, 4, 5] rfl)
  · exact absurd hth c_1
set_option maxHeartbeats 4000000 in
set_option maxRecDepth 100000 in
theorem lw_c4 (hl0 : l.stackTraces = false) (hx : p.tables.exec = Jvm.exec) (hb : c.code = code) (hml : c.maxLocals = 7) (hown : s.vm.findClass "GameGraphLaw" = some m.cls) (hw : ∀ w ∈ wAll, w.before #[Value.ref b] s = true) (hX : va_X b L xs s s.heap) (hbl : b < s.heap.size) (hK : va_K (dC, dI) vwCl (gty cz ci cj) s) (hE : x_En (L_A s) s s.heap) (hN : x_N s) (hL : L ≤ 2048) (hi : i + 4 ≤ L) (hC : C + 3 ≤ 601024) (hS0 : S + 18 ≤ 7293034)
    (K : L_W p l e s m b below meth c Q dC dI cz ci cj ax am qo i 613 (C + 3) (S + 18)) : L_W p l e s m b below meth c Q dC dI cz ci cj ax am qo i 308 C S := by
  intro u v hI fo H locs hPG hPO hPM hD hS ls hl
  have hA : ∀ q : Nat, s.heap.size ≤ q → L_A s q := fun _ h => h
  obtain ⟨cnt, fO, fA, fB, fT, sv, fC, rs, dk, ds, fL, fl, fh⟩ := u
  obtain ⟨st, mO, mG, mH, mM, mN, mT, mR, mF, mK, mV, mE, th⟩ := v
  obtain ⟨c0, h1, h2, hg, hsv, hm⟩ := hI
  dsimp only at h1 h2 hg hsv hm
  subst h1 h2
  have h60 := hg.2.1
  refine lv_aload_n hx hb dL_law_308 rfl (lv_at hl 1 rfl) ?_
  refine lv_aload_n hx hb dL_law_309 rfl (lv_at hl 0 rfl) ?_
  refine lv_iload hx hb dL_law_310 (lv_at hl 4 rfl) ?_
  refine lv_iconst (v := 1) hx hb dL_law_312 (by decide) ?_
  refine lv_iadd hx hb dL_law_313 ?_
  refine x_topi (y := nI (i + 1)) (nI_add i 1) ?_
  refine va_sld hx hb hX hbl (Nat.not_le.mpr hbl) hS (vp_in_nI (by omega) (by omega)) dL_law_314 ?_
  refine x_topi (y := xs (i + 1)) (by rw [nI_clamp (by omega)]) ?_
  refine lv_aload_n hx hb dL_law_315 rfl (lv_at hl 0 rfl) ?_
  refine lv_iload hx hb dL_law_316 (lv_at hl 4 rfl) ?_
  refine lv_iconst (v := 2) hx hb dL_law_318 (by decide) ?_
  refine lv_iadd hx hb dL_law_319 ?_
  refine x_topi (y := nI (i + 2)) (nI_add i 2) ?_
  refine va_sld hx hb hX hbl (Nat.not_le.mpr hbl) hS (vp_in_nI (by omega) (by omega)) dL_law_320 ?_
  refine x_topi (y := xs (i + 2)) (by rw [nI_clamp (by omega)]) ?_
  refine lv_aload_n hx hb dL_law_321 rfl (lv_at hl 3 rfl) ?_
  refine g_callSR (w := gw ax cz ci cj ((nI c0), fO, fA, fB, fT, sv, fC, rs, dk, ds, fL, fl, fh) ++ [(qo, .inl (cj, 1, .inr (.inl fo)))]) (wr := mw am cz ci cj ((nI c0), mO, mG, mH, mM, mN, mT, mR, mF, mK, mV, mE, th)) ⟨hx, hb, hml, hown, hw⟩ (c_L_next l hl0 dC dI ax cz ci cj qo fo H.size (nI c0) fO fA fB fT sv fC rs dk ds fL fl fh (xs (i + 1)) (xs (i + 2)) c0 hg) (vx_cwSW 4 hw gs_L_L_next rfl rfl rfl (by decide +kernel) ⟨Nat.le_of_ble_eq_true rfl, Nat.le_of_ble_eq_true rfl⟩) hK (hPG.app hPO) hPM (x_D1 hD) hS hA hE hN rfl hl.1 rfl (Nat.le_of_ble_eq_true rfl) dL_law_322 ⟨by show C + 2 ≤ 601024; omega, by show S + 12 ≤ 7293034; omega⟩ (fun r9 u2 H locs hq9 hPr hPM hD hS => ?_)
  have hPr : va_P (dC, dI) vwCl (gw ax cz ci cj u2.1 ++ [(qo, .inl (cj, 1, .inr (.inl u2.2)))]) H := hPr
  have hPG := x_Pl hPr
  have hPO := x_Pr hPr
  have hD : va_D (L_A s) (gw ax cz ci cj u2.1 ++ ([(qo, .inl (cj, 1, .inr (.inl u2.2)))] ++ mw am cz ci cj ((nI c0), mO, mG, mH, mM, mN, mT, mR, mF, mK, mV, mE, th))) := x_D2 hD
  refine W.widen (k := C + 3) (n := S + 18) (by show C + 2 ≤ C + 3; omega) (by show S + 12 ≤ S + 18; omega) ?_
  refine lv_istore (lv' := [(5, .int r9), (0, .ref b), (1, .ref (ax 0)), (2, .ref (am 0)), (3, .ref qo), (4, .int (nI i))]) hx hb dL_law_325 hl (by decide) rfl (fun ls hl => ?_)
  refine lv_aload_n hx hb dL_law_327 rfl (lv_at hl 3 rfl) ?_
  refine lv_aload_n hx hb dL_law_328 rfl (lv_at hl 1 rfl) ?_
  refine lv_iload hx hb dL_law_329 (lv_at hl 5 rfl) ?_
  refine lv_iconst (v := 1) hx hb dL_law_331 (by decide) ?_
  refine lv_iadd hx hb dL_law_332 ?_
  refine x_topi (y := nI (i + 1)) (nI_add i 1) ?_
  refine va_sld hx hb hX hbl (Nat.not_le.mpr hbl) hS (vp_in_nI (by omega) (by omega)) dL_law_333 ?_
  refine x_topi (y := xs (i + 1)) (by rw [nI_clamp (by omega)]) ?_
  refine lv_aload_n hx hb dL_law_334 rfl (lv_at hl 1 rfl) ?_
  refine lv_iload hx hb dL_law_335 (lv_at hl 5 rfl) ?_
  refine lv_iconst (v := 2) hx hb dL_law_337 (by decide) ?_
  refine lv_iadd hx hb dL_law_338 ?_
  refine x_topi (y := nI (i + 2)) (nI_add i 2) ?_
  refine va_sld hx hb hX hbl (Nat.not_le.mpr hbl) hS (vp_in_nI (by omega) (by omega)) dL_law_339 ?_
  refine x_topi (y := xs (i + 2)) (by rw [nI_clamp (by omega)]) ?_
  refine g_calliR (wr := gw ax cz ci cj u2.1 ++ [(qo, .inl (cj, 1, .inr (.inl u2.2)))]) ⟨hx, hb, hml, hown, hw⟩ (c_X1_next l dC dI am cz ci cj H.size (nI c0) mO mG mH mM mN mT mR mF mK mV mE th (xs (i + 1)) (xs (i + 2)) fO fA fB fT c0 hg hm) (cwV 2 hw gv_L_X1_next rfl rfl rfl (by decide +kernel) ⟨Nat.le_of_ble_eq_true rfl, Nat.le_of_ble_eq_true rfl⟩) hK hPM (hPG.app hPO) (x_D3 hD) hS hA (ci := 1) (q0 := 0) rfl rfl rfl hl.1 rfl (Nat.le_of_ble_eq_true rfl) dL_law_340 ⟨by show C + 3 + 0 ≤ 601024; omega, by show S + 18 + 0 ≤ 7293034; omega⟩ (fun b9 v2 H locs hq hPM hPr hD hS => ?_)
  have hPG := x_Pl hPr
  have hPO := x_Pr hPr
  have hD : va_D (L_A s) (gw ax cz ci cj u2.1 ++ ([(qo, .inl (cj, 1, .inr (.inl u2.2)))] ++ mw am cz ci cj v2)) := x_D4 hD
  obtain ⟨hth, hI2, hans⟩ := p_next hg hsv hm hq9 hq
  obtain ⟨st2, nO, nG, nH, nM, nN, nT, nR, nF, nK, nV, nE, th2⟩ := v2
  have hth : th2 = r9 := hth
  refine lv_istore (lv' := [(6, .int b9), (5, .int r9), (0, .ref b), (1, .ref (ax 0)), (2, .ref (am 0)), (3, .ref qo), (4, .int (nI i))]) hx hb dL_law_343 hl (by decide) rfl (fun ls hl => ?_)
  refine lv_aload_n hx hb dL_law_345 rfl (lv_at hl 4 rfl) ?_
  refine g_calliR (wr := gw ax cz ci cj u2.1 ++ [(qo, .inl (cj, 1, .inr (.inl u2.2)))]) ⟨hx, hb, hml, hown, hw⟩ (c_X1_thrown l dC dI am cz ci cj H.size st2 nO nG nH nM nN nT nR nF nK nV nE th2) (cwV 0 hw gv_L_X1_thrown rfl rfl rfl (by decide +kernel) ⟨Nat.le_of_ble_eq_true rfl, Nat.le_of_ble_eq_true rfl⟩) hK hPM (hPG.app hPO) (x_D3 hD) hS hA (ci := 1) (q0 := 0) rfl rfl rfl hl.1 rfl (Nat.le_of_ble_eq_true rfl) dL_law_346 ⟨by show C + 3 + 0 ≤ 601024; omega, by show S + 18 + 0 ≤ 7293034; omega⟩ (fun t9 v3 H locs hq hPM hPr hD hS => ?_)
  have hPG := x_Pl hPr
  have hPO := x_Pr hPr
  have hD : va_D (L_A s) (gw ax cz ci cj u2.1 ++ ([(qo, .inl (cj, 1, .inr (.inl u2.2)))] ++ mw am cz ci cj v3)) := x_D4 hD
  obtain ⟨rfl, e9⟩ := hq
  refine x_topi (y := th2) (e9) ?_
  refine lv_iload hx hb dL_law_349 (lv_at hl 1 rfl) ?_
  refine lv_icmp_eq (tgt := 356) hx hb dL_law_351 (by decide) (fun c_1 => ?_) (fun c_1 => ?_)
  · refine lv_iload hx hb dL_law_356 (lv_at hl 1 rfl) ?_
    refine lv_if_ne (tgt := 373) hx hb dL_law_358 (by decide) (fun ca_2 => ?_) (fun ca_2 => ?_)
    · refine lv_goto (tgt := 613) hx hb dL_law_373 (by decide) ?_
      exact K u2.1 (st2, nO, nG, nH, nM, nN, nT, nR, nF, nK, nV, nE, th2) hI2 u2.2 _ _ hPG hPO hPM hD hS _ (lv_sub hl [2, 3, 4, 5, 6] rfl)
    · refine lv_aload_n hx hb dL_law_361 rfl (lv_at hl 5 rfl) ?_
      refine lv_iconst (v := 0) hx hb dL_law_362 (by decide) ?_
      refine va_lald hx hb hK hPO 0 2 rfl rfl (by unfold vp_in; decide) dL_law_363 ?_
      refine lv_iload hx hb dL_law_364 (lv_at hl 0 rfl) ?_
      refine lv_i2l hx hb dL_law_366 rfl ?_
      refine W.lcmp hx hb dL_law_367 ?_
      refine lv_if_eq (tgt := 373) hx hb dL_law_368 (by decide) (fun cab_3 => ?_) (fun cab_3 => ?_)
      · refine lv_goto (tgt := 613) hx hb dL_law_373 (by decide) ?_
        exact K u2.1 (st2, nO, nG, nH, nM, nN, nT, nR, nF, nK, nV, nE, th2) hI2 u2.2 _ _ hPG hPO hPM hD hS _ (lv_sub hl [2, 3, 4, 5, 6] rfl)
      · exact absurd (by rw [hans ca_2]; exact l_cmp _) cab_3
  · exact absurd hth c_1
set_option maxHeartbeats 4000000 in
set_option maxRecDepth 100000 in
theorem lw_c5 (hl0 : l.stackTraces = false) (hx : p.tables.exec = Jvm.exec) (hb : c.code = code) (hml : c.maxLocals = 7) (hown : s.vm.findClass "GameGraphLaw" = some m.cls) (hw : ∀ w ∈ wAll, w.before #[Value.ref b] s = true) (hX : va_X b L xs s s.heap) (hbl : b < s.heap.size) (hK : va_K (dC, dI) vwCl (gty cz ci cj) s) (hE : x_En (L_A s) s s.heap) (hN : x_N s) (hL : L ≤ 2048) (hi : i + 4 ≤ L) (hC : C + 3 ≤ 601024) (hS0 : S + 18 ≤ 7293034)
    (K : L_W p l e s m b below meth c Q dC dI cz ci cj ax am qo i 613 (C + 3) (S + 18)) : L_W p l e s m b below meth c Q dC dI cz ci cj ax am qo i 376 C S := by
  intro u v hI fo H locs hPG hPO hPM hD hS ls hl
  have hA : ∀ q : Nat, s.heap.size ≤ q → L_A s q := fun _ h => h
  obtain ⟨cnt, fO, fA, fB, fT, sv, fC, rs, dk, ds, fL, fl, fh⟩ := u
  obtain ⟨st, mO, mG, mH, mM, mN, mT, mR, mF, mK, mV, mE, th⟩ := v
  obtain ⟨c0, h1, h2, hg, hsv, hm⟩ := hI
  dsimp only at h1 h2 hg hsv hm
  subst h1 h2
  have h60 := hg.2.1
  refine lv_aload_n hx hb dL_law_376 rfl (lv_at hl 1 rfl) ?_
  refine g_calliR (wr := [(qo, .inl (cj, 1, .inr (.inl fo)))] ++ mw am cz ci cj ((nI c0), mO, mG, mH, mM, mN, mT, mR, mF, mK, mV, mE, th)) ⟨hx, hb, hml, hown, hw⟩ (c_X0_reached l dC dI ax cz ci cj H.size (nI c0) fO fA fB fT sv fC rs dk ds fL fl fh c0 hg hsv) (cwV 0 hw gv_L_X0_reached rfl rfl rfl (by decide +kernel) ⟨Nat.le_of_ble_eq_true rfl, Nat.le_of_ble_eq_true rfl⟩) hK hPG (hPO.app hPM) hD hS hA (ci := 0) (q0 := 0) rfl rfl rfl hl.1 rfl (Nat.le_of_ble_eq_true rfl) dL_law_377 ⟨by show C + 0 ≤ 601024; omega, by show S + 0 ≤ 7293034; omega⟩ (fun r9 u2 H locs hq9 hPG hPr hD hS => ?_)
  have hPO := x_Pl hPr
  have hPM := x_Pr hPr
  refine W.widen (k := C + 3) (n := S + 18) (by omega) (by omega) ?_
  refine lv_aload_n hx hb dL_law_380 rfl (lv_at hl 2 rfl) ?_
  refine g_calliR (wr := gw ax cz ci cj u2 ++ [(qo, .inl (cj, 1, .inr (.inl fo)))]) ⟨hx, hb, hml, hown, hw⟩ (c_X1_reached l dC dI am cz ci cj H.size (nI c0) mO mG mH mM mN mT mR mF mK mV mE th  fO fA fB fT c0 hg hm) (cwV 0 hw gv_L_X1_reached rfl rfl rfl (by decide +kernel) ⟨Nat.le_of_ble_eq_true rfl, Nat.le_of_ble_eq_true rfl⟩) hK hPM (hPG.app hPO) (x_D3 hD) hS hA (ci := 1) (q0 := 0) rfl rfl rfl hl.1 rfl (Nat.le_of_ble_eq_true rfl) dL_law_381 ⟨by show C + 3 + 0 ≤ 601024; omega, by show S + 18 + 0 ≤ 7293034; omega⟩ (fun b9 v2 H locs hq hPM hPr hD hS => ?_)
  have hPG := x_Pl hPr
  have hPO := x_Pr hPr
  have hD : va_D (L_A s) (gw ax cz ci cj u2 ++ ([(qo, .inl (cj, 1, .inr (.inl fo)))] ++ mw am cz ci cj v2)) := x_D4 hD
  obtain ⟨heq, hI2⟩ := p_reached hg hsv hm hq9 hq
  refine lv_icmp_eq (tgt := 613) hx hb dL_law_384 (by decide) (fun c_1 => ?_) (fun c_1 => ?_)
  · exact K u2 v2 hI2 fo _ _ hPG hPO hPM hD hS _ (lv_sub hl [0, 1, 2, 3, 4] rfl)
  · exact absurd heq c_1
set_option maxHeartbeats 4000000 in
set_option maxRecDepth 100000 in
theorem lw_c6 (hl0 : l.stackTraces = false) (hx : p.tables.exec = Jvm.exec) (hb : c.code = code) (hml : c.maxLocals = 7) (hown : s.vm.findClass "GameGraphLaw" = some m.cls) (hw : ∀ w ∈ wAll, w.before #[Value.ref b] s = true) (hX : va_X b L xs s s.heap) (hbl : b < s.heap.size) (hK : va_K (dC, dI) vwCl (gty cz ci cj) s) (hE : x_En (L_A s) s s.heap) (hN : x_N s) (hL : L ≤ 2048) (hi : i + 4 ≤ L) (hC : C + 3 ≤ 601024) (hS0 : S + 18 ≤ 7293034)
    (K : L_W p l e s m b below meth c Q dC dI cz ci cj ax am qo i 613 (C + 3) (S + 18)) : L_W p l e s m b below meth c Q dC dI cz ci cj ax am qo i 389 C S := by
  intro u v hI fo H locs hPG hPO hPM hD hS ls hl
  have hA : ∀ q : Nat, s.heap.size ≤ q → L_A s q := fun _ h => h
  obtain ⟨cnt, fO, fA, fB, fT, sv, fC, rs, dk, ds, fL, fl, fh⟩ := u
  obtain ⟨st, mO, mG, mH, mM, mN, mT, mR, mF, mK, mV, mE, th⟩ := v
  obtain ⟨c0, h1, h2, hg, hsv, hm⟩ := hI
  dsimp only at h1 h2 hg hsv hm
  subst h1 h2
  have h60 := hg.2.1
  refine lv_aload_n hx hb dL_law_389 rfl (lv_at hl 1 rfl) ?_
  refine lv_aload_n hx hb dL_law_390 rfl (lv_at hl 0 rfl) ?_
  refine lv_iload hx hb dL_law_391 (lv_at hl 4 rfl) ?_
  refine lv_iconst (v := 1) hx hb dL_law_393 (by decide) ?_
  refine lv_iadd hx hb dL_law_394 ?_
  refine x_topi (y := nI (i + 1)) (nI_add i 1) ?_
  refine va_sld hx hb hX hbl (Nat.not_le.mpr hbl) hS (vp_in_nI (by omega) (by omega)) dL_law_395 ?_
  refine x_topi (y := xs (i + 1)) (by rw [nI_clamp (by omega)]) ?_
  refine lv_aload_n hx hb dL_law_396 rfl (lv_at hl 3 rfl) ?_
  refine g_callSR (w := gw ax cz ci cj ((nI c0), fO, fA, fB, fT, sv, fC, rs, dk, ds, fL, fl, fh) ++ [(qo, .inl (cj, 1, .inr (.inl fo)))]) (wr := mw am cz ci cj ((nI c0), mO, mG, mH, mM, mN, mT, mR, mF, mK, mV, mE, th)) ⟨hx, hb, hml, hown, hw⟩ (c_L_defect l hl0 dC dI ax cz ci cj qo fo H.size (nI c0) fO fA fB fT sv fC rs dk ds fL fl fh (xs (i + 1)) c0 hg hsv) (vx_cwSW 3 hw gs_L_L_defect rfl rfl rfl (by decide +kernel) ⟨Nat.le_of_ble_eq_true rfl, Nat.le_of_ble_eq_true rfl⟩) hK (hPG.app hPO) hPM (x_D1 hD) hS hA hE hN rfl hl.1 rfl (Nat.le_of_ble_eq_true rfl) dL_law_397 ⟨by show C + 1 ≤ 601024; omega, by show S + 6 ≤ 7293034; omega⟩ (fun r9 u2 H locs hq9 hPr hPM hD hS => ?_)
  have hPr : va_P (dC, dI) vwCl (gw ax cz ci cj u2.1 ++ [(qo, .inl (cj, 1, .inr (.inl u2.2)))]) H := hPr
  have hPG := x_Pl hPr
  have hPO := x_Pr hPr
  have hD : va_D (L_A s) (gw ax cz ci cj u2.1 ++ ([(qo, .inl (cj, 1, .inr (.inl u2.2)))] ++ mw am cz ci cj ((nI c0), mO, mG, mH, mM, mN, mT, mR, mF, mK, mV, mE, th))) := x_D2 hD
  refine W.widen (k := C + 3) (n := S + 18) (by show C + 1 ≤ C + 3; omega) (by show S + 6 ≤ S + 18; omega) ?_
  refine lv_istore (lv' := [(5, .int r9), (0, .ref b), (1, .ref (ax 0)), (2, .ref (am 0)), (3, .ref qo), (4, .int (nI i))]) hx hb dL_law_400 hl (by decide) rfl (fun ls hl => ?_)
  refine lv_aload_n hx hb dL_law_402 rfl (lv_at hl 3 rfl) ?_
  refine lv_aload_n hx hb dL_law_403 rfl (lv_at hl 1 rfl) ?_
  refine lv_iload hx hb dL_law_404 (lv_at hl 5 rfl) ?_
  refine lv_iconst (v := 1) hx hb dL_law_406 (by decide) ?_
  refine lv_iadd hx hb dL_law_407 ?_
  refine x_topi (y := nI (i + 1)) (nI_add i 1) ?_
  refine va_sld hx hb hX hbl (Nat.not_le.mpr hbl) hS (vp_in_nI (by omega) (by omega)) dL_law_408 ?_
  refine x_topi (y := xs (i + 1)) (by rw [nI_clamp (by omega)]) ?_
  refine g_calliR (wr := gw ax cz ci cj u2.1 ++ [(qo, .inl (cj, 1, .inr (.inl u2.2)))]) ⟨hx, hb, hml, hown, hw⟩ (c_X1_defect l dC dI am cz ci cj H.size (nI c0) mO mG mH mM mN mT mR mF mK mV mE th (xs (i + 1)) fO fA fB fT c0 hg hm) (cwV 1 hw gv_L_X1_defect rfl rfl rfl (by decide +kernel) ⟨Nat.le_of_ble_eq_true rfl, Nat.le_of_ble_eq_true rfl⟩) hK hPM (hPG.app hPO) (x_D3 hD) hS hA (ci := 1) (q0 := 0) rfl rfl rfl hl.1 rfl (Nat.le_of_ble_eq_true rfl) dL_law_409 ⟨by show C + 3 + 0 ≤ 601024; omega, by show S + 18 + 0 ≤ 7293034; omega⟩ (fun b9 v2 H locs hq hPM hPr hD hS => ?_)
  have hPG := x_Pl hPr
  have hPO := x_Pr hPr
  have hD : va_D (L_A s) (gw ax cz ci cj u2.1 ++ ([(qo, .inl (cj, 1, .inr (.inl u2.2)))] ++ mw am cz ci cj v2)) := x_D4 hD
  obtain ⟨hth, hI2, hans⟩ := p_defect hg hsv hm hq9 hq
  obtain ⟨st2, nO, nG, nH, nM, nN, nT, nR, nF, nK, nV, nE, th2⟩ := v2
  have hth : th2 = r9 := hth
  refine lv_istore (lv' := [(6, .int b9), (5, .int r9), (0, .ref b), (1, .ref (ax 0)), (2, .ref (am 0)), (3, .ref qo), (4, .int (nI i))]) hx hb dL_law_412 hl (by decide) rfl (fun ls hl => ?_)
  refine lv_aload_n hx hb dL_law_414 rfl (lv_at hl 4 rfl) ?_
  refine g_calliR (wr := gw ax cz ci cj u2.1 ++ [(qo, .inl (cj, 1, .inr (.inl u2.2)))]) ⟨hx, hb, hml, hown, hw⟩ (c_X1_thrown l dC dI am cz ci cj H.size st2 nO nG nH nM nN nT nR nF nK nV nE th2) (cwV 0 hw gv_L_X1_thrown rfl rfl rfl (by decide +kernel) ⟨Nat.le_of_ble_eq_true rfl, Nat.le_of_ble_eq_true rfl⟩) hK hPM (hPG.app hPO) (x_D3 hD) hS hA (ci := 1) (q0 := 0) rfl rfl rfl hl.1 rfl (Nat.le_of_ble_eq_true rfl) dL_law_415 ⟨by show C + 3 + 0 ≤ 601024; omega, by show S + 18 + 0 ≤ 7293034; omega⟩ (fun t9 v3 H locs hq hPM hPr hD hS => ?_)
  have hPG := x_Pl hPr
  have hPO := x_Pr hPr
  have hD : va_D (L_A s) (gw ax cz ci cj u2.1 ++ ([(qo, .inl (cj, 1, .inr (.inl u2.2)))] ++ mw am cz ci cj v3)) := x_D4 hD
  obtain ⟨rfl, e9⟩ := hq
  refine x_topi (y := th2) (e9) ?_
  refine lv_iload hx hb dL_law_418 (lv_at hl 1 rfl) ?_
  refine lv_icmp_eq (tgt := 425) hx hb dL_law_420 (by decide) (fun c_1 => ?_) (fun c_1 => ?_)
  · refine lv_iload hx hb dL_law_425 (lv_at hl 1 rfl) ?_
    refine lv_if_ne (tgt := 442) hx hb dL_law_427 (by decide) (fun ca_2 => ?_) (fun ca_2 => ?_)
    · refine lv_goto (tgt := 613) hx hb dL_law_442 (by decide) ?_
      exact K u2.1 (st2, nO, nG, nH, nM, nN, nT, nR, nF, nK, nV, nE, th2) hI2 u2.2 _ _ hPG hPO hPM hD hS _ (lv_sub hl [2, 3, 4, 5, 6] rfl)
    · refine lv_aload_n hx hb dL_law_430 rfl (lv_at hl 5 rfl) ?_
      refine lv_iconst (v := 0) hx hb dL_law_431 (by decide) ?_
      refine va_lald hx hb hK hPO 0 2 rfl rfl (by unfold vp_in; decide) dL_law_432 ?_
      refine lv_iload hx hb dL_law_433 (lv_at hl 0 rfl) ?_
      refine lv_i2l hx hb dL_law_435 rfl ?_
      refine W.lcmp hx hb dL_law_436 ?_
      refine lv_if_eq (tgt := 442) hx hb dL_law_437 (by decide) (fun cab_3 => ?_) (fun cab_3 => ?_)
      · refine lv_goto (tgt := 613) hx hb dL_law_442 (by decide) ?_
        exact K u2.1 (st2, nO, nG, nH, nM, nN, nT, nR, nF, nK, nV, nE, th2) hI2 u2.2 _ _ hPG hPO hPM hD hS _ (lv_sub hl [2, 3, 4, 5, 6] rfl)
      · exact absurd (by rw [hans ca_2]; exact l_cmp _) cab_3
  · exact absurd hth c_1
set_option maxHeartbeats 4000000 in
set_option maxRecDepth 100000 in
theorem lw_c7 (hl0 : l.stackTraces = false) (hx : p.tables.exec = Jvm.exec) (hb : c.code = code) (hml : c.maxLocals = 7) (hown : s.vm.findClass "GameGraphLaw" = some m.cls) (hw : ∀ w ∈ wAll, w.before #[Value.ref b] s = true) (hX : va_X b L xs s s.heap) (hbl : b < s.heap.size) (hK : va_K (dC, dI) vwCl (gty cz ci cj) s) (hE : x_En (L_A s) s s.heap) (hN : x_N s) (hL : L ≤ 2048) (hi : i + 4 ≤ L) (hC : C + 3 ≤ 601024) (hS0 : S + 18 ≤ 7293034)
    (K : L_W p l e s m b below meth c Q dC dI cz ci cj ax am qo i 613 (C + 3) (S + 18)) : L_W p l e s m b below meth c Q dC dI cz ci cj ax am qo i 445 C S := by
  intro u v hI fo H locs hPG hPO hPM hD hS ls hl
  have hA : ∀ q : Nat, s.heap.size ≤ q → L_A s q := fun _ h => h
  obtain ⟨cnt, fO, fA, fB, fT, sv, fC, rs, dk, ds, fL, fl, fh⟩ := u
  obtain ⟨st, mO, mG, mH, mM, mN, mT, mR, mF, mK, mV, mE, th⟩ := v
  obtain ⟨c0, h1, h2, hg, hsv, hm⟩ := hI
  dsimp only at h1 h2 hg hsv hm
  subst h1 h2
  have h60 := hg.2.1
  refine lv_aload_n hx hb dL_law_445 rfl (lv_at hl 1 rfl) ?_
  refine lv_aload_n hx hb dL_law_446 rfl (lv_at hl 0 rfl) ?_
  refine lv_iload hx hb dL_law_447 (lv_at hl 4 rfl) ?_
  refine lv_iconst (v := 1) hx hb dL_law_449 (by decide) ?_
  refine lv_iadd hx hb dL_law_450 ?_
  refine x_topi (y := nI (i + 1)) (nI_add i 1) ?_
  refine va_sld hx hb hX hbl (Nat.not_le.mpr hbl) hS (vp_in_nI (by omega) (by omega)) dL_law_451 ?_
  refine x_topi (y := xs (i + 1)) (by rw [nI_clamp (by omega)]) ?_
  refine lv_aload_n hx hb dL_law_452 rfl (lv_at hl 3 rfl) ?_
  refine g_callSR (w := gw ax cz ci cj ((nI c0), fO, fA, fB, fT, sv, fC, rs, dk, ds, fL, fl, fh) ++ [(qo, .inl (cj, 1, .inr (.inl fo)))]) (wr := mw am cz ci cj ((nI c0), mO, mG, mH, mM, mN, mT, mR, mF, mK, mV, mE, th)) ⟨hx, hb, hml, hown, hw⟩ (c_L_value l hl0 dC dI ax cz ci cj qo fo H.size (nI c0) fO fA fB fT sv fC rs dk ds fL fl fh (xs (i + 1)) c0 hg hsv) (vx_cwSW 3 hw gs_L_L_value rfl rfl rfl (by decide +kernel) ⟨Nat.le_of_ble_eq_true rfl, Nat.le_of_ble_eq_true rfl⟩) hK (hPG.app hPO) hPM (x_D1 hD) hS hA hE hN rfl hl.1 rfl (Nat.le_of_ble_eq_true rfl) dL_law_453 ⟨by show C + 1 ≤ 601024; omega, by show S + 6 ≤ 7293034; omega⟩ (fun r9 u2 H locs hq9 hPr hPM hD hS => ?_)
  have hPr : va_P (dC, dI) vwCl (gw ax cz ci cj u2.1 ++ [(qo, .inl (cj, 1, .inr (.inl u2.2)))]) H := hPr
  have hPG := x_Pl hPr
  have hPO := x_Pr hPr
  have hD : va_D (L_A s) (gw ax cz ci cj u2.1 ++ ([(qo, .inl (cj, 1, .inr (.inl u2.2)))] ++ mw am cz ci cj ((nI c0), mO, mG, mH, mM, mN, mT, mR, mF, mK, mV, mE, th))) := x_D2 hD
  refine W.widen (k := C + 3) (n := S + 18) (by show C + 1 ≤ C + 3; omega) (by show S + 6 ≤ S + 18; omega) ?_
  refine lv_istore (lv' := [(5, .int r9), (0, .ref b), (1, .ref (ax 0)), (2, .ref (am 0)), (3, .ref qo), (4, .int (nI i))]) hx hb dL_law_456 hl (by decide) rfl (fun ls hl => ?_)
  refine lv_aload_n hx hb dL_law_458 rfl (lv_at hl 3 rfl) ?_
  refine lv_aload_n hx hb dL_law_459 rfl (lv_at hl 1 rfl) ?_
  refine lv_iload hx hb dL_law_460 (lv_at hl 5 rfl) ?_
  refine lv_iconst (v := 1) hx hb dL_law_462 (by decide) ?_
  refine lv_iadd hx hb dL_law_463 ?_
  refine x_topi (y := nI (i + 1)) (nI_add i 1) ?_
  refine va_sld hx hb hX hbl (Nat.not_le.mpr hbl) hS (vp_in_nI (by omega) (by omega)) dL_law_464 ?_
  refine x_topi (y := xs (i + 1)) (by rw [nI_clamp (by omega)]) ?_
  refine g_calliR (wr := gw ax cz ci cj u2.1 ++ [(qo, .inl (cj, 1, .inr (.inl u2.2)))]) ⟨hx, hb, hml, hown, hw⟩ (c_X1_value l dC dI am cz ci cj H.size (nI c0) mO mG mH mM mN mT mR mF mK mV mE th (xs (i + 1)) fO fA fB fT c0 hg hm) (cwV 1 hw gv_L_X1_value rfl rfl rfl (by decide +kernel) ⟨Nat.le_of_ble_eq_true rfl, Nat.le_of_ble_eq_true rfl⟩) hK hPM (hPG.app hPO) (x_D3 hD) hS hA (ci := 1) (q0 := 0) rfl rfl rfl hl.1 rfl (Nat.le_of_ble_eq_true rfl) dL_law_465 ⟨by show C + 3 + 0 ≤ 601024; omega, by show S + 18 + 0 ≤ 7293034; omega⟩ (fun b9 v2 H locs hq hPM hPr hD hS => ?_)
  have hPG := x_Pl hPr
  have hPO := x_Pr hPr
  have hD : va_D (L_A s) (gw ax cz ci cj u2.1 ++ ([(qo, .inl (cj, 1, .inr (.inl u2.2)))] ++ mw am cz ci cj v2)) := x_D4 hD
  obtain ⟨hth, hI2, hans⟩ := p_value hg hsv hm hq9 hq
  obtain ⟨st2, nO, nG, nH, nM, nN, nT, nR, nF, nK, nV, nE, th2⟩ := v2
  have hth : th2 = r9 := hth
  refine lv_istore (lv' := [(6, .int b9), (5, .int r9), (0, .ref b), (1, .ref (ax 0)), (2, .ref (am 0)), (3, .ref qo), (4, .int (nI i))]) hx hb dL_law_468 hl (by decide) rfl (fun ls hl => ?_)
  refine lv_aload_n hx hb dL_law_470 rfl (lv_at hl 4 rfl) ?_
  refine g_calliR (wr := gw ax cz ci cj u2.1 ++ [(qo, .inl (cj, 1, .inr (.inl u2.2)))]) ⟨hx, hb, hml, hown, hw⟩ (c_X1_thrown l dC dI am cz ci cj H.size st2 nO nG nH nM nN nT nR nF nK nV nE th2) (cwV 0 hw gv_L_X1_thrown rfl rfl rfl (by decide +kernel) ⟨Nat.le_of_ble_eq_true rfl, Nat.le_of_ble_eq_true rfl⟩) hK hPM (hPG.app hPO) (x_D3 hD) hS hA (ci := 1) (q0 := 0) rfl rfl rfl hl.1 rfl (Nat.le_of_ble_eq_true rfl) dL_law_471 ⟨by show C + 3 + 0 ≤ 601024; omega, by show S + 18 + 0 ≤ 7293034; omega⟩ (fun t9 v3 H locs hq hPM hPr hD hS => ?_)
  have hPG := x_Pl hPr
  have hPO := x_Pr hPr
  have hD : va_D (L_A s) (gw ax cz ci cj u2.1 ++ ([(qo, .inl (cj, 1, .inr (.inl u2.2)))] ++ mw am cz ci cj v3)) := x_D4 hD
  obtain ⟨rfl, e9⟩ := hq
  refine x_topi (y := th2) (e9) ?_
  refine lv_iload hx hb dL_law_474 (lv_at hl 1 rfl) ?_
  refine lv_icmp_eq (tgt := 481) hx hb dL_law_476 (by decide) (fun c_1 => ?_) (fun c_1 => ?_)
  · refine lv_iload hx hb dL_law_481 (lv_at hl 1 rfl) ?_
    refine lv_if_ne (tgt := 498) hx hb dL_law_483 (by decide) (fun ca_2 => ?_) (fun ca_2 => ?_)
    · refine lv_goto (tgt := 613) hx hb dL_law_498 (by decide) ?_
      exact K u2.1 (st2, nO, nG, nH, nM, nN, nT, nR, nF, nK, nV, nE, th2) hI2 u2.2 _ _ hPG hPO hPM hD hS _ (lv_sub hl [2, 3, 4, 5, 6] rfl)
    · refine lv_aload_n hx hb dL_law_486 rfl (lv_at hl 5 rfl) ?_
      refine lv_iconst (v := 0) hx hb dL_law_487 (by decide) ?_
      refine va_lald hx hb hK hPO 0 2 rfl rfl (by unfold vp_in; decide) dL_law_488 ?_
      refine lv_iload hx hb dL_law_489 (lv_at hl 0 rfl) ?_
      refine lv_i2l hx hb dL_law_491 rfl ?_
      refine W.lcmp hx hb dL_law_492 ?_
      refine lv_if_eq (tgt := 498) hx hb dL_law_493 (by decide) (fun cab_3 => ?_) (fun cab_3 => ?_)
      · refine lv_goto (tgt := 613) hx hb dL_law_498 (by decide) ?_
        exact K u2.1 (st2, nO, nG, nH, nM, nN, nT, nR, nF, nK, nV, nE, th2) hI2 u2.2 _ _ hPG hPO hPM hD hS _ (lv_sub hl [2, 3, 4, 5, 6] rfl)
      · exact absurd (by rw [hans ca_2]; exact l_cmp _) cab_3
  · exact absurd hth c_1
set_option maxHeartbeats 4000000 in
set_option maxRecDepth 100000 in
theorem lw_c8 (hl0 : l.stackTraces = false) (hx : p.tables.exec = Jvm.exec) (hb : c.code = code) (hml : c.maxLocals = 7) (hown : s.vm.findClass "GameGraphLaw" = some m.cls) (hw : ∀ w ∈ wAll, w.before #[Value.ref b] s = true) (hX : va_X b L xs s s.heap) (hbl : b < s.heap.size) (hK : va_K (dC, dI) vwCl (gty cz ci cj) s) (hE : x_En (L_A s) s s.heap) (hN : x_N s) (hL : L ≤ 2048) (hi : i + 4 ≤ L) (hC : C + 3 ≤ 601024) (hS0 : S + 18 ≤ 7293034)
    (K : L_W p l e s m b below meth c Q dC dI cz ci cj ax am qo i 613 (C + 3) (S + 18)) : L_W p l e s m b below meth c Q dC dI cz ci cj ax am qo i 501 C S := by
  intro u v hI fo H locs hPG hPO hPM hD hS ls hl
  have hA : ∀ q : Nat, s.heap.size ≤ q → L_A s q := fun _ h => h
  obtain ⟨cnt, fO, fA, fB, fT, sv, fC, rs, dk, ds, fL, fl, fh⟩ := u
  obtain ⟨st, mO, mG, mH, mM, mN, mT, mR, mF, mK, mV, mE, th⟩ := v
  obtain ⟨c0, h1, h2, hg, hsv, hm⟩ := hI
  dsimp only at h1 h2 hg hsv hm
  subst h1 h2
  have h60 := hg.2.1
  refine lv_aload_n hx hb dL_law_501 rfl (lv_at hl 1 rfl) ?_
  refine lv_aload_n hx hb dL_law_502 rfl (lv_at hl 0 rfl) ?_
  refine lv_iload hx hb dL_law_503 (lv_at hl 4 rfl) ?_
  refine lv_iconst (v := 1) hx hb dL_law_505 (by decide) ?_
  refine lv_iadd hx hb dL_law_506 ?_
  refine x_topi (y := nI (i + 1)) (nI_add i 1) ?_
  refine va_sld hx hb hX hbl (Nat.not_le.mpr hbl) hS (vp_in_nI (by omega) (by omega)) dL_law_507 ?_
  refine x_topi (y := xs (i + 1)) (by rw [nI_clamp (by omega)]) ?_
  refine lv_aload_n hx hb dL_law_508 rfl (lv_at hl 3 rfl) ?_
  refine g_callSR (w := gw ax cz ci cj ((nI c0), fO, fA, fB, fT, sv, fC, rs, dk, ds, fL, fl, fh) ++ [(qo, .inl (cj, 1, .inr (.inl fo)))]) (wr := mw am cz ci cj ((nI c0), mO, mG, mH, mM, mN, mT, mR, mF, mK, mV, mE, th)) ⟨hx, hb, hml, hown, hw⟩ (c_L_best l hl0 dC dI ax cz ci cj qo fo H.size (nI c0) fO fA fB fT sv fC rs dk ds fL fl fh (xs (i + 1)) c0 hg hsv) (vx_cwSW 3 hw gs_L_L_best rfl rfl rfl (by decide +kernel) ⟨Nat.le_of_ble_eq_true rfl, Nat.le_of_ble_eq_true rfl⟩) hK (hPG.app hPO) hPM (x_D1 hD) hS hA hE hN rfl hl.1 rfl (Nat.le_of_ble_eq_true rfl) dL_law_509 ⟨by show C + 1 ≤ 601024; omega, by show S + 6 ≤ 7293034; omega⟩ (fun r9 u2 H locs hq9 hPr hPM hD hS => ?_)
  have hPr : va_P (dC, dI) vwCl (gw ax cz ci cj u2.1 ++ [(qo, .inl (cj, 1, .inr (.inl u2.2)))]) H := hPr
  have hPG := x_Pl hPr
  have hPO := x_Pr hPr
  have hD : va_D (L_A s) (gw ax cz ci cj u2.1 ++ ([(qo, .inl (cj, 1, .inr (.inl u2.2)))] ++ mw am cz ci cj ((nI c0), mO, mG, mH, mM, mN, mT, mR, mF, mK, mV, mE, th))) := x_D2 hD
  refine W.widen (k := C + 3) (n := S + 18) (by show C + 1 ≤ C + 3; omega) (by show S + 6 ≤ S + 18; omega) ?_
  refine lv_istore (lv' := [(5, .int r9), (0, .ref b), (1, .ref (ax 0)), (2, .ref (am 0)), (3, .ref qo), (4, .int (nI i))]) hx hb dL_law_512 hl (by decide) rfl (fun ls hl => ?_)
  refine lv_aload_n hx hb dL_law_514 rfl (lv_at hl 3 rfl) ?_
  refine lv_aload_n hx hb dL_law_515 rfl (lv_at hl 1 rfl) ?_
  refine lv_iload hx hb dL_law_516 (lv_at hl 5 rfl) ?_
  refine lv_iconst (v := 1) hx hb dL_law_518 (by decide) ?_
  refine lv_iadd hx hb dL_law_519 ?_
  refine x_topi (y := nI (i + 1)) (nI_add i 1) ?_
  refine va_sld hx hb hX hbl (Nat.not_le.mpr hbl) hS (vp_in_nI (by omega) (by omega)) dL_law_520 ?_
  refine x_topi (y := xs (i + 1)) (by rw [nI_clamp (by omega)]) ?_
  refine g_calliR (wr := gw ax cz ci cj u2.1 ++ [(qo, .inl (cj, 1, .inr (.inl u2.2)))]) ⟨hx, hb, hml, hown, hw⟩ (c_X1_best l dC dI am cz ci cj H.size (nI c0) mO mG mH mM mN mT mR mF mK mV mE th (xs (i + 1)) fO fA fB fT c0 hg hm) (cwV 1 hw gv_L_X1_best rfl rfl rfl (by decide +kernel) ⟨Nat.le_of_ble_eq_true rfl, Nat.le_of_ble_eq_true rfl⟩) hK hPM (hPG.app hPO) (x_D3 hD) hS hA (ci := 1) (q0 := 0) rfl rfl rfl hl.1 rfl (Nat.le_of_ble_eq_true rfl) dL_law_521 ⟨by show C + 3 + 0 ≤ 601024; omega, by show S + 18 + 0 ≤ 7293034; omega⟩ (fun b9 v2 H locs hq hPM hPr hD hS => ?_)
  have hPG := x_Pl hPr
  have hPO := x_Pr hPr
  have hD : va_D (L_A s) (gw ax cz ci cj u2.1 ++ ([(qo, .inl (cj, 1, .inr (.inl u2.2)))] ++ mw am cz ci cj v2)) := x_D4 hD
  obtain ⟨hth, hI2, hans⟩ := p_best hg hsv hm hq9 hq
  obtain ⟨st2, nO, nG, nH, nM, nN, nT, nR, nF, nK, nV, nE, th2⟩ := v2
  have hth : th2 = r9 := hth
  refine lv_istore (lv' := [(6, .int b9), (5, .int r9), (0, .ref b), (1, .ref (ax 0)), (2, .ref (am 0)), (3, .ref qo), (4, .int (nI i))]) hx hb dL_law_524 hl (by decide) rfl (fun ls hl => ?_)
  refine lv_aload_n hx hb dL_law_526 rfl (lv_at hl 4 rfl) ?_
  refine g_calliR (wr := gw ax cz ci cj u2.1 ++ [(qo, .inl (cj, 1, .inr (.inl u2.2)))]) ⟨hx, hb, hml, hown, hw⟩ (c_X1_thrown l dC dI am cz ci cj H.size st2 nO nG nH nM nN nT nR nF nK nV nE th2) (cwV 0 hw gv_L_X1_thrown rfl rfl rfl (by decide +kernel) ⟨Nat.le_of_ble_eq_true rfl, Nat.le_of_ble_eq_true rfl⟩) hK hPM (hPG.app hPO) (x_D3 hD) hS hA (ci := 1) (q0 := 0) rfl rfl rfl hl.1 rfl (Nat.le_of_ble_eq_true rfl) dL_law_527 ⟨by show C + 3 + 0 ≤ 601024; omega, by show S + 18 + 0 ≤ 7293034; omega⟩ (fun t9 v3 H locs hq hPM hPr hD hS => ?_)
  have hPG := x_Pl hPr
  have hPO := x_Pr hPr
  have hD : va_D (L_A s) (gw ax cz ci cj u2.1 ++ ([(qo, .inl (cj, 1, .inr (.inl u2.2)))] ++ mw am cz ci cj v3)) := x_D4 hD
  obtain ⟨rfl, e9⟩ := hq
  refine x_topi (y := th2) (e9) ?_
  refine lv_iload hx hb dL_law_530 (lv_at hl 1 rfl) ?_
  refine lv_icmp_eq (tgt := 537) hx hb dL_law_532 (by decide) (fun c_1 => ?_) (fun c_1 => ?_)
  · refine lv_iload hx hb dL_law_537 (lv_at hl 1 rfl) ?_
    refine lv_if_ne (tgt := 554) hx hb dL_law_539 (by decide) (fun ca_2 => ?_) (fun ca_2 => ?_)
    · refine lv_goto (tgt := 613) hx hb dL_law_554 (by decide) ?_
      exact K u2.1 (st2, nO, nG, nH, nM, nN, nT, nR, nF, nK, nV, nE, th2) hI2 u2.2 _ _ hPG hPO hPM hD hS _ (lv_sub hl [2, 3, 4, 5, 6] rfl)
    · refine lv_aload_n hx hb dL_law_542 rfl (lv_at hl 5 rfl) ?_
      refine lv_iconst (v := 0) hx hb dL_law_543 (by decide) ?_
      refine va_lald hx hb hK hPO 0 2 rfl rfl (by unfold vp_in; decide) dL_law_544 ?_
      refine lv_iload hx hb dL_law_545 (lv_at hl 0 rfl) ?_
      refine lv_i2l hx hb dL_law_547 rfl ?_
      refine W.lcmp hx hb dL_law_548 ?_
      refine lv_if_eq (tgt := 554) hx hb dL_law_549 (by decide) (fun cab_3 => ?_) (fun cab_3 => ?_)
      · refine lv_goto (tgt := 613) hx hb dL_law_554 (by decide) ?_
        exact K u2.1 (st2, nO, nG, nH, nM, nN, nT, nR, nF, nK, nV, nE, th2) hI2 u2.2 _ _ hPG hPO hPM hD hS _ (lv_sub hl [2, 3, 4, 5, 6] rfl)
      · exact absurd (by rw [hans ca_2]; exact l_cmp _) cab_3
  · exact absurd hth c_1
set_option maxHeartbeats 4000000 in
set_option maxRecDepth 100000 in
theorem lw_c9 (hl0 : l.stackTraces = false) (hx : p.tables.exec = Jvm.exec) (hb : c.code = code) (hml : c.maxLocals = 7) (hown : s.vm.findClass "GameGraphLaw" = some m.cls) (hw : ∀ w ∈ wAll, w.before #[Value.ref b] s = true) (hX : va_X b L xs s s.heap) (hbl : b < s.heap.size) (hK : va_K (dC, dI) vwCl (gty cz ci cj) s) (hE : x_En (L_A s) s s.heap) (hN : x_N s) (hL : L ≤ 2048) (hi : i + 4 ≤ L) (hC : C + 3 ≤ 601024) (hS0 : S + 18 ≤ 7293034)
    (K : L_W p l e s m b below meth c Q dC dI cz ci cj ax am qo i 613 (C + 3) (S + 18)) : L_W p l e s m b below meth c Q dC dI cz ci cj ax am qo i 557 C S := by
  intro u v hI fo H locs hPG hPO hPM hD hS ls hl
  have hA : ∀ q : Nat, s.heap.size ≤ q → L_A s q := fun _ h => h
  obtain ⟨cnt, fO, fA, fB, fT, sv, fC, rs, dk, ds, fL, fl, fh⟩ := u
  obtain ⟨st, mO, mG, mH, mM, mN, mT, mR, mF, mK, mV, mE, th⟩ := v
  obtain ⟨c0, h1, h2, hg, hsv, hm⟩ := hI
  dsimp only at h1 h2 hg hsv hm
  subst h1 h2
  have h60 := hg.2.1
  refine lv_aload_n hx hb dL_law_557 rfl (lv_at hl 1 rfl) ?_
  refine lv_aload_n hx hb dL_law_558 rfl (lv_at hl 0 rfl) ?_
  refine lv_iload hx hb dL_law_559 (lv_at hl 4 rfl) ?_
  refine lv_iconst (v := 1) hx hb dL_law_561 (by decide) ?_
  refine lv_iadd hx hb dL_law_562 ?_
  refine x_topi (y := nI (i + 1)) (nI_add i 1) ?_
  refine va_sld hx hb hX hbl (Nat.not_le.mpr hbl) hS (vp_in_nI (by omega) (by omega)) dL_law_563 ?_
  refine x_topi (y := xs (i + 1)) (by rw [nI_clamp (by omega)]) ?_
  refine lv_aload_n hx hb dL_law_564 rfl (lv_at hl 3 rfl) ?_
  refine g_callSR (w := gw ax cz ci cj ((nI c0), fO, fA, fB, fT, sv, fC, rs, dk, ds, fL, fl, fh) ++ [(qo, .inl (cj, 1, .inr (.inl fo)))]) (wr := mw am cz ci cj ((nI c0), mO, mG, mH, mM, mN, mT, mR, mF, mK, mV, mE, th)) ⟨hx, hb, hml, hown, hw⟩ (c_L_length l hl0 dC dI ax cz ci cj qo fo H.size (nI c0) fO fA fB fT sv fC rs dk ds fL fl fh (xs (i + 1)) c0 hg hsv) (vx_cwSW 3 hw gs_L_L_length rfl rfl rfl (by decide +kernel) ⟨Nat.le_of_ble_eq_true rfl, Nat.le_of_ble_eq_true rfl⟩) hK (hPG.app hPO) hPM (x_D1 hD) hS hA hE hN rfl hl.1 rfl (Nat.le_of_ble_eq_true rfl) dL_law_565 ⟨by show C + 1 ≤ 601024; omega, by show S + 6 ≤ 7293034; omega⟩ (fun r9 u2 H locs hq9 hPr hPM hD hS => ?_)
  have hPr : va_P (dC, dI) vwCl (gw ax cz ci cj u2.1 ++ [(qo, .inl (cj, 1, .inr (.inl u2.2)))]) H := hPr
  have hPG := x_Pl hPr
  have hPO := x_Pr hPr
  have hD : va_D (L_A s) (gw ax cz ci cj u2.1 ++ ([(qo, .inl (cj, 1, .inr (.inl u2.2)))] ++ mw am cz ci cj ((nI c0), mO, mG, mH, mM, mN, mT, mR, mF, mK, mV, mE, th))) := x_D2 hD
  refine W.widen (k := C + 3) (n := S + 18) (by show C + 1 ≤ C + 3; omega) (by show S + 6 ≤ S + 18; omega) ?_
  refine lv_istore (lv' := [(5, .int r9), (0, .ref b), (1, .ref (ax 0)), (2, .ref (am 0)), (3, .ref qo), (4, .int (nI i))]) hx hb dL_law_568 hl (by decide) rfl (fun ls hl => ?_)
  refine lv_aload_n hx hb dL_law_570 rfl (lv_at hl 3 rfl) ?_
  refine lv_aload_n hx hb dL_law_571 rfl (lv_at hl 1 rfl) ?_
  refine lv_iload hx hb dL_law_572 (lv_at hl 5 rfl) ?_
  refine lv_iconst (v := 1) hx hb dL_law_574 (by decide) ?_
  refine lv_iadd hx hb dL_law_575 ?_
  refine x_topi (y := nI (i + 1)) (nI_add i 1) ?_
  refine va_sld hx hb hX hbl (Nat.not_le.mpr hbl) hS (vp_in_nI (by omega) (by omega)) dL_law_576 ?_
  refine x_topi (y := xs (i + 1)) (by rw [nI_clamp (by omega)]) ?_
  refine g_calliR (wr := gw ax cz ci cj u2.1 ++ [(qo, .inl (cj, 1, .inr (.inl u2.2)))]) ⟨hx, hb, hml, hown, hw⟩ (c_X1_length l dC dI am cz ci cj H.size (nI c0) mO mG mH mM mN mT mR mF mK mV mE th (xs (i + 1)) fO fA fB fT c0 hg hm) (cwV 1 hw gv_L_X1_length rfl rfl rfl (by decide +kernel) ⟨Nat.le_of_ble_eq_true rfl, Nat.le_of_ble_eq_true rfl⟩) hK hPM (hPG.app hPO) (x_D3 hD) hS hA (ci := 1) (q0 := 0) rfl rfl rfl hl.1 rfl (Nat.le_of_ble_eq_true rfl) dL_law_577 ⟨by show C + 3 + 0 ≤ 601024; omega, by show S + 18 + 0 ≤ 7293034; omega⟩ (fun b9 v2 H locs hq hPM hPr hD hS => ?_)
  have hPG := x_Pl hPr
  have hPO := x_Pr hPr
  have hD : va_D (L_A s) (gw ax cz ci cj u2.1 ++ ([(qo, .inl (cj, 1, .inr (.inl u2.2)))] ++ mw am cz ci cj v2)) := x_D4 hD
  obtain ⟨hth, hI2, hans⟩ := p_length hg hsv hm hq9 hq
  obtain ⟨st2, nO, nG, nH, nM, nN, nT, nR, nF, nK, nV, nE, th2⟩ := v2
  have hth : th2 = r9 := hth
  refine lv_istore (lv' := [(6, .int b9), (5, .int r9), (0, .ref b), (1, .ref (ax 0)), (2, .ref (am 0)), (3, .ref qo), (4, .int (nI i))]) hx hb dL_law_580 hl (by decide) rfl (fun ls hl => ?_)
  refine lv_aload_n hx hb dL_law_582 rfl (lv_at hl 4 rfl) ?_
  refine g_calliR (wr := gw ax cz ci cj u2.1 ++ [(qo, .inl (cj, 1, .inr (.inl u2.2)))]) ⟨hx, hb, hml, hown, hw⟩ (c_X1_thrown l dC dI am cz ci cj H.size st2 nO nG nH nM nN nT nR nF nK nV nE th2) (cwV 0 hw gv_L_X1_thrown rfl rfl rfl (by decide +kernel) ⟨Nat.le_of_ble_eq_true rfl, Nat.le_of_ble_eq_true rfl⟩) hK hPM (hPG.app hPO) (x_D3 hD) hS hA (ci := 1) (q0 := 0) rfl rfl rfl hl.1 rfl (Nat.le_of_ble_eq_true rfl) dL_law_583 ⟨by show C + 3 + 0 ≤ 601024; omega, by show S + 18 + 0 ≤ 7293034; omega⟩ (fun t9 v3 H locs hq hPM hPr hD hS => ?_)
  have hPG := x_Pl hPr
  have hPO := x_Pr hPr
  have hD : va_D (L_A s) (gw ax cz ci cj u2.1 ++ ([(qo, .inl (cj, 1, .inr (.inl u2.2)))] ++ mw am cz ci cj v3)) := x_D4 hD
  obtain ⟨rfl, e9⟩ := hq
  refine x_topi (y := th2) (e9) ?_
  refine lv_iload hx hb dL_law_586 (lv_at hl 1 rfl) ?_
  refine lv_icmp_eq (tgt := 593) hx hb dL_law_588 (by decide) (fun c_1 => ?_) (fun c_1 => ?_)
  · refine lv_iload hx hb dL_law_593 (lv_at hl 1 rfl) ?_
    refine lv_if_ne (tgt := 610) hx hb dL_law_595 (by decide) (fun ca_2 => ?_) (fun ca_2 => ?_)
    · refine lv_goto (tgt := 613) hx hb dL_law_610 (by decide) ?_
      exact K u2.1 (st2, nO, nG, nH, nM, nN, nT, nR, nF, nK, nV, nE, th2) hI2 u2.2 _ _ hPG hPO hPM hD hS _ (lv_sub hl [2, 3, 4, 5, 6] rfl)
    · refine lv_aload_n hx hb dL_law_598 rfl (lv_at hl 5 rfl) ?_
      refine lv_iconst (v := 0) hx hb dL_law_599 (by decide) ?_
      refine va_lald hx hb hK hPO 0 2 rfl rfl (by unfold vp_in; decide) dL_law_600 ?_
      refine lv_iload hx hb dL_law_601 (lv_at hl 0 rfl) ?_
      refine lv_i2l hx hb dL_law_603 rfl ?_
      refine W.lcmp hx hb dL_law_604 ?_
      refine lv_if_eq (tgt := 610) hx hb dL_law_605 (by decide) (fun cab_3 => ?_) (fun cab_3 => ?_)
      · refine lv_goto (tgt := 613) hx hb dL_law_610 (by decide) ?_
        exact K u2.1 (st2, nO, nG, nH, nM, nN, nT, nR, nF, nK, nV, nE, th2) hI2 u2.2 _ _ hPG hPO hPM hD hS _ (lv_sub hl [2, 3, 4, 5, 6] rfl)
      · exact absurd (by rw [hans ca_2]; exact l_cmp _) cab_3
  · exact absurd hth c_1
end LC
