/-! Making states (by tool/makes.py). -/
theorem k_lt {i n : Nat} (h : ¬ nI n ≤ nI i) (hi : i < 2 ^ 31) : i < n := by
  rcases Nat.lt_or_ge i n with q | q
  · exact q
  · exact absurd (nI_le q hi) h
theorem k_eq {i n : Nat} (hi : i ≤ n) (h : nI n ≤ nI i) (hn : n < 2 ^ 31) : n = i := by
  rcases Nat.lt_or_ge i n with q | q
  · exact absurd h (nI_ge q hn)
  · omega
theorem k_lt12 {j : Nat} (hj : j ≤ 12) (h : ¬ (12 : Int32) ≤ nI j) : j < 12 := k_lt (n := 12) h (by omega)
theorem k_ge12 {j : Nat} (hj : j ≤ 12) (h : (12 : Int32) ≤ nI j) : j = 12 := (k_eq (n := 12) hj h (by decide)).symm
theorem k_zero {f g : Nat → Int32} {n j : Nat} (h : ∀ i, f i = if n * 12 ≤ i ∧ i < n * 12 + j then 0 else g i) : ∀ i, upd f (n * 12 + j) 0 i = if n * 12 ≤ i ∧ i < n * 12 + (j + 1) then 0 else g i := by
  intro i
  by_cases e : i = n * 12 + j
  · subst e
    rw [pk_us, if_pos (by omega)]
  · rw [pk_un e, h i]
    by_cases q : n * 12 ≤ i ∧ i < n * 12 + j
    · rw [if_pos q, if_pos (by omega)]
    · rw [if_neg q, if_neg (by omega)]
set_option maxHeartbeats 4000000 in
set_option maxRecDepth 100000 in
/-- makeState: the moves go to state 0 -/
theorem lp_makeState {p : Program} {l : Launch} {e : Env} {R : Room} {s : State} {m : MethodId} {args : Array Value} {below : List Frame} {meth : Method} {c : Code} {Q : State → Prop} {dC : Nat → ClassId} {dI : Nat → Nat → Nat} {ad : Nat → Nat} {cz ci cj : ClassId} {Ar : Nat → Prop} (hx : p.tables.exec = Jvm.exec) (hb : c.code = cX0_makeState) (hml : c.maxLocals = 6) (hown : s.vm.findClass "GameGraph" = some m.cls) (hw : ∀ w ∈ wAll, w.before args s = true) (hK : va_K (dC, dI) vwCl (gty cz ci cj) s) (hA : ∀ q, s.heap.size ≤ q → Ar q) (hR1 : 0 ≤ R.frames) (hR2 : 0 ≤ R.locals) (cnt : Int32) (fO fA fB fT : Nat → Int32) (sv : Int32) (fC : Nat → Int64) (rs : Int64) (dk ds : Int32) (fL fl fh : Nat → Int32) (n : Nat) (hn : n < 60)
    (kx : ∀ (fT2 : Nat → Int32), (∀ i, fT2 i = if n * 12 ≤ i ∧ i < n * 12 + 12 then 0 else fT i) → ∀ (H : Heap) (locs : List Loc), va_P (dC, dI) vwCl (gw ad cz ci cj (cnt, fO, fA, fB, fT2, sv, fC, rs, dk, ds, fL, fl, fh)) H → va_D Ar (gw ad cz ci cj (cnt, fO, fA, fB, fT2, sv, fC, rs, dk, ds, fL, fl, fh)) → va_S Ar s.heap H locs → ∀ (ls : Array Slot), lv_has ls 6 [(0, .ref (ad 0))] → W p l e R s m args below meth c H locs 0 0 Q (F0 m 51 ls [])) :
    ∀ (fuel : Nat) (j : Nat) (fT2 : Nat → Int32), 13 ≤ j + fuel → j ≤ 12 → (∀ i, fT2 i = if n * 12 ≤ i ∧ i < n * 12 + j then 0 else fT i) → ∀ (H : Heap) (locs : List Loc), va_P (dC, dI) vwCl (gw ad cz ci cj (cnt, fO, fA, fB, fT2, sv, fC, rs, dk, ds, fL, fl, fh)) H → va_D Ar (gw ad cz ci cj (cnt, fO, fA, fB, fT2, sv, fC, rs, dk, ds, fL, fl, fh)) → va_S Ar s.heap H locs → ∀ (ls : Array Slot), lv_has ls 6 [(0, .ref (ad 0)), (1, .int (nI n)), (5, .int (nI j))] → W p l e R s m args below meth c H locs 0 0 Q (F0 m 25 ls []) := by
  intro fuel
  induction fuel with
  | zero => intro j fT2 hfu hj0 hT; exact absurd hfu (by omega)
  | succ fuel ih =>
    intro j fT2 hfu hj0 hT H locs hP hD hS ls hl
    refine lv_iload hx hb dX0_makeState_25 (lv_at hl 2 rfl) ?_
    refine lv_bipush (v := 12) hx hb dX0_makeState_27 (by decide) ?_
    refine lv_icmp_ge (tgt := 51) hx hb dX0_makeState_29 (by decide) (fun c_1 => ?_) (fun c_1 => ?_)
    · exact kx fT2 (fun i => by rw [hT i, k_ge12 hj0 c_1]) _ _ hP hD hS _ (lv_sub hl [0] rfl)
    · have hj : j < 12 := k_lt12 hj0 c_1
      refine lv_aload_n hx hb dX0_makeState_32 rfl (lv_at hl 0 rfl) ?_
      refine va_get (D := (dC, dI)) (ci := 0) (v := .ref (ad 4)) (C := RX0) (T := TX0) (N := 13) hx hb hw in_X0 hown hK hP 0 rfl rfl 4 (by decide) (hw _ m_1_22) (fun _ h9 => h9) rfl dX0_makeState_33 ?_
      refine lv_iload_n hx hb dX0_makeState_36 rfl (lv_at hl 1 rfl) ?_
      refine lv_bipush (v := 12) hx hb dX0_makeState_37 (by decide) ?_
      refine lv_imul hx hb dX0_makeState_39 ?_
      refine x_topi (y := nI (n * 12)) (pk_mul n 12) ?_
      refine lv_iload hx hb dX0_makeState_40 (lv_at hl 2 rfl) ?_
      refine lv_iadd hx hb dX0_makeState_42 ?_
      refine x_topi (y := nI (n * 12 + j)) (nI_add _ _) ?_
      refine lv_iconst (v := 0) hx hb dX0_makeState_43 (by decide) ?_
      refine va_iast hx hb hK hP hD hS 4 1 rfl rfl (vp_in_nI (by omega) (by decide)) dX0_makeState_44 (fun H locs hP hD hS => ?_)
      rw [nI_clamp (by omega)] at hP hD
      have hP : va_P (dC, dI) vwCl (gw ad cz ci cj (cnt, fO, fA, fB, (upd fT2 (n * 12 + j) 0), sv, fC, rs, dk, ds, fL, fl, fh)) H := hP
      have hD : va_D Ar (gw ad cz ci cj (cnt, fO, fA, fB, (upd fT2 (n * 12 + j) 0), sv, fC, rs, dk, ds, fL, fl, fh)) := hD
      refine lv_iinc (v := (nI (j + 1))) (lv' := [(5, .int (nI (j + 1))), (0, .ref (ad 0)), (1, .int (nI n))]) hx hb dX0_makeState_45 hl (k := 2) rfl (nI_1 j) (by decide) rfl (fun ls hl => ?_)
      refine lv_goto (tgt := 25) hx hb dX0_makeState_48 (by decide) ?_
      exact ih (j + 1) (upd fT2 (n * 12 + j) 0) (by omega) (by omega) (k_zero hT) _ _ hP hD hS _ (lv_sub hl [1, 2, 0] rfl)
set_option maxHeartbeats 4000000 in
set_option maxRecDepth 100000 in
/-- makeState(n, asOpen, first, second) -/
theorem c_X0_makeState (l : Launch) (dC : Nat → ClassId) (dI : Nat → Nat → Nat) (ad : Nat → Nat) (cz ci cj : ClassId) (sz : Nat) (cnt : Int32) (fO : Nat → Int32) (fA : Nat → Int32) (fB : Nat → Int32) (fT : Nat → Int32) (sv : Int32) (fC : Nat → Int64) (rs : Int64) (dk : Int32) (ds : Int32) (fL : Nat → Int32) (fl : Nat → Int32) (fh : Nat → Int32) (n : Nat) (ao : Int32) (x : Int32) (y : Int32) (hn : n < 60) (hao : vp_nar .boolean ao = ao) : Met l yX0_makeState wX0_makeState ({ frames := 0, cells := 0, slots := 0, locals := 0 }) (va_Pc [.ref (ad 0), .int (nI n), .int ao, .int x, .int y] (g_Pre (dC, dI) vwCl (gty cz ci cj) (gw ad cz ci cj (cnt, fO, fA, fB, fT, sv, fC, rs, dk, ds, fL, fl, fh)) sz)) (va_Qv (fun (u : GS) => ∃ fT2 : Nat → Int32, (∀ i, fT2 i = if n * 12 ≤ i ∧ i < n * 12 + 12 then 0 else fT i) ∧ u = (cnt, upd fO n ao, upd fA n x, upd fB n y, fT2, 0, fC, rs, dk, ds, fL, fl, fh)) (g_At (dC, dI) vwCl (gty cz ci cj) (va_A (gw ad cz ci cj (cnt, fO, fA, fB, fT, sv, fC, rs, dk, ds, fL, fl, fh)) sz) (gw ad cz ci cj)) (va_A (gw ad cz ci cj (cnt, fO, fA, fB, fT, sv, fC, rs, dk, ds, fL, fl, fh)) sz)) 0 0 (va_A (gw ad cz ci cj (cnt, fO, fA, fB, fT, sv, fC, rs, dk, ds, fL, fl, fh)) sz) := by
  refine Met.ofW (cc := cX0_makeState) (maxL := 6) (ret := none) (by decide) rfl ?_
  intro p e s m args below meth c s₁ Bd hml hv
  obtain ⟨rfl, hsz, hP, hK, hD0⟩ := hv
  have hx := Bd.exec
  have hb := Bd.bytes
  have hr := Bd.returns
  have hts := atoms_spec (ws := wX0_makeState) Bd.pre
  have hw : ∀ w ∈ wAll, w.before _ s = true := fun w h => hts w (List.mem_cons_of_mem _ h)
  have hown : s.vm.findClass "GameGraph" = some m.cls := findClass_of_methodNamed Bd.named
  have hlocks := Bd.notSynchronized
  subst hsz
  have hD := hD0.self (sz := s.heap.size)
  generalize hAe : va_A (gw ad cz ci cj (cnt, fO, fA, fB, fT, sv, fC, rs, dk, ds, fL, fl, fh)) s.heap.size = Ar at hD ⊢
  have hA : ∀ q : Nat, s.heap.size ≤ q → Ar q := fun q h => by rw [← hAe]; exact Or.inr h
  obtain ⟨H, hH⟩ : ∃ H : Heap, H = s.heap := ⟨_, rfl⟩
  have hS : va_S Ar s.heap H [] := by rw [hH]; exact va_S.rf
  have hP : va_P (dC, dI) vwCl (gw ad cz ci cj (cnt, fO, fA, fB, fT, sv, fC, rs, dk, ds, fL, fl, fh)) H := by rw [hH]; exact hP
  rw [← hH]
  have hl := lv_entry ([.ref (ad 0), .int (nI n), .int ao, .int x, .int y]) (n := 6) (Nat.le_of_ble_eq_true rfl)
  rw [lg_entry_eq]
  generalize (lg_sl ([.ref (ad 0), .int (nI n), .int ao, .int x, .int y]) ++ List.replicate (6 - (lg_sl ([.ref (ad 0), .int (nI n), .int ao, .int x, .int y])).length) Slot.unset).toArray = ls at hl ⊢
  have hl : lv_has ls 6 [(0, .ref (ad 0)), (1, .int (nI n)), (2, .int ao), (3, .int x), (4, .int y)] := hl
  refine lv_aload_n hx hb dX0_makeState_0 rfl (lv_at hl 0 rfl) ?_
  refine va_get (D := (dC, dI)) (ci := 0) (v := .ref (ad 1)) (C := RX0) (T := TX0) (N := 13) hx hb hw in_X0 hown hK hP 0 rfl rfl 1 (by decide) (hw _ m_1_19) (fun _ h9 => h9) rfl dX0_makeState_1 ?_
  refine lv_iload_n hx hb dX0_makeState_4 rfl (lv_at hl 1 rfl) ?_
  refine lv_iload_n hx hb dX0_makeState_5 rfl (lv_at hl 2 rfl) ?_
  refine va_zast hx hb hK hP hD hS 1 0 rfl rfl (vp_in_nI (by omega) (by decide)) dX0_makeState_6 (fun H locs hP hD hS => ?_)
  rw [nI_clamp (by omega)] at hP hD
  rw [hao] at hP hD
  have hP : va_P (dC, dI) vwCl (gw ad cz ci cj (cnt, (upd fO n ao), fA, fB, fT, sv, fC, rs, dk, ds, fL, fl, fh)) H := hP
  have hD : va_D Ar (gw ad cz ci cj (cnt, (upd fO n ao), fA, fB, fT, sv, fC, rs, dk, ds, fL, fl, fh)) := hD
  refine lv_aload_n hx hb dX0_makeState_7 rfl (lv_at hl 0 rfl) ?_
  refine va_get (D := (dC, dI)) (ci := 0) (v := .ref (ad 2)) (C := RX0) (T := TX0) (N := 13) hx hb hw in_X0 hown hK hP 0 rfl rfl 2 (by decide) (hw _ m_1_20) (fun _ h9 => h9) rfl dX0_makeState_8 ?_
  refine lv_iload_n hx hb dX0_makeState_11 rfl (lv_at hl 1 rfl) ?_
  refine lv_iload_n hx hb dX0_makeState_12 rfl (lv_at hl 3 rfl) ?_
  refine va_iast hx hb hK hP hD hS 2 1 rfl rfl (vp_in_nI (by omega) (by decide)) dX0_makeState_13 (fun H locs hP hD hS => ?_)
  rw [nI_clamp (by omega)] at hP hD
  have hP : va_P (dC, dI) vwCl (gw ad cz ci cj (cnt, (upd fO n ao), (upd fA n x), fB, fT, sv, fC, rs, dk, ds, fL, fl, fh)) H := hP
  have hD : va_D Ar (gw ad cz ci cj (cnt, (upd fO n ao), (upd fA n x), fB, fT, sv, fC, rs, dk, ds, fL, fl, fh)) := hD
  refine lv_aload_n hx hb dX0_makeState_14 rfl (lv_at hl 0 rfl) ?_
  refine va_get (D := (dC, dI)) (ci := 0) (v := .ref (ad 3)) (C := RX0) (T := TX0) (N := 13) hx hb hw in_X0 hown hK hP 0 rfl rfl 3 (by decide) (hw _ m_1_21) (fun _ h9 => h9) rfl dX0_makeState_15 ?_
  refine lv_iload_n hx hb dX0_makeState_18 rfl (lv_at hl 1 rfl) ?_
  refine lv_iload hx hb dX0_makeState_19 (lv_at hl 4 rfl) ?_
  refine va_iast hx hb hK hP hD hS 3 1 rfl rfl (vp_in_nI (by omega) (by decide)) dX0_makeState_21 (fun H locs hP hD hS => ?_)
  rw [nI_clamp (by omega)] at hP hD
  have hP : va_P (dC, dI) vwCl (gw ad cz ci cj (cnt, (upd fO n ao), (upd fA n x), (upd fB n y), fT, sv, fC, rs, dk, ds, fL, fl, fh)) H := hP
  have hD : va_D Ar (gw ad cz ci cj (cnt, (upd fO n ao), (upd fA n x), (upd fB n y), fT, sv, fC, rs, dk, ds, fL, fl, fh)) := hD
  refine lv_iconst (v := 0) hx hb dX0_makeState_22 (by decide) ?_
  refine lv_istore (lv' := [(5, .int 0), (0, .ref (ad 0)), (1, .int (nI n)), (2, .int ao), (3, .int x), (4, .int y)]) hx hb dX0_makeState_23 hl (by decide) rfl (fun ls hl => ?_)
  refine lp_makeState (dC := dC) (dI := dI) (ad := ad) (cz := cz) (ci := ci) (cj := cj) (Ar := Ar) hx hb hml hown hw hK hA (Nat.le_of_ble_eq_true rfl) (Nat.le_of_ble_eq_true rfl) cnt (upd fO n ao) (upd fA n x) (upd fB n y) fT sv fC rs dk ds fL fl fh n hn ?_ 13 0 fT (by omega) (by omega) (fun i => by rw [if_neg (by omega)]) _ _ hP hD hS _ (lv_sub hl [1, 2, 0] rfl)
  intro fT2 hT H locs hP hD hS ls hl
  refine lv_aload_n hx hb dX0_makeState_51 rfl (lv_at hl 0 rfl) ?_
  refine lv_iconst (v := 0) hx hb dX0_makeState_52 (by decide) ?_
  refine va_put (D := (dC, dI)) (ci := 0) (v := .int 0) (ty := .boolean) (C := RX0) (T := TX0) (N := 13) hx hb hw in_X0 tyX0 tyX0_ok nmX0 hown hK hP hD hS 0 rfl rfl 5 (by decide) (hw _ m_1_23) (fun _ h9 => h9) rfl (by decide +kernel) rfl rfl (Nat.le_of_ble_eq_true rfl) dX0_makeState_53 (fun H locs hP hD hS => ?_)
  have hP : va_P (dC, dI) vwCl (gw ad cz ci cj (cnt, (upd fO n ao), (upd fA n x), (upd fB n y), fT2, 0, fC, rs, dk, ds, fL, fl, fh)) H := hP
  have hD : va_D Ar (gw ad cz ci cj (cnt, (upd fO n ao), (upd fA n x), (upd fB n y), fT2, 0, fC, rs, dk, ds, fL, fl, fh)) := hD
  exact W.vret hx hb hr (fun t ht hW => ⟨⟨(cnt, (upd fO n ao), (upd fA n x), (upd fB n y), fT2, 0, fC, rs, dk, ds, fL, fl, fh), rfl, (⟨fT2, hT, rfl⟩), (by rw [ht]; exact hP), va_K.moved hW.alike hK, hD⟩, hS.F ht⟩) hS.2.2 dX0_makeState_56
theorem k_even {fO2 fA2 fB2 fT2 fT3 : Nat → Int32} {i : Nat} (hI : ∀ k, k < i → fO2 k = 0 ∧ fA2 k = 50 ∧ fB2 k = 50 ∧ ∀ j, j < 12 → fT2 (k * 12 + j) = 0) (hT3 : ∀ q, fT3 q = if i * 12 ≤ q ∧ q < i * 12 + 12 then 0 else fT2 q) :
    ∀ k, k < i + 1 → upd fO2 i 0 k = 0 ∧ upd fA2 i 50 k = 50 ∧ upd fB2 i 50 k = 50 ∧ ∀ j, j < 12 → fT3 (k * 12 + j) = 0 := by
  intro k hk
  rcases Nat.lt_or_ge k i with q | q
  · obtain ⟨a, b, c, d⟩ := hI k q
    refine ⟨by rw [pk_un (by omega)]; exact a, by rw [pk_un (by omega)]; exact b, by rw [pk_un (by omega)]; exact c, fun j hj => ?_⟩
    rw [hT3, if_neg (by omega)]
    exact d j hj
  · have e : k = i := by omega
    subst e
    exact ⟨pk_us, pk_us, pk_us, fun j hj => by rw [hT3, if_pos (by omega)]⟩
set_option maxHeartbeats 4000000 in
set_option maxRecDepth 100000 in
/-- makeEvenEnds: its loop -/
theorem lp_makeEvenEnds {p : Program} {l : Launch} {e : Env} {R : Room} {s : State} {m : MethodId} {args : Array Value} {below : List Frame} {meth : Method} {c : Code} {Q : State → Prop} {dC : Nat → ClassId} {dI : Nat → Nat → Nat} {ad : Nat → Nat} {cz ci cj : ClassId} {Ar : Nat → Prop} (hx : p.tables.exec = Jvm.exec) (hb : c.code = cX0_makeEvenEnds) (hml : c.maxLocals = 3) (hown : s.vm.findClass "GameGraph" = some m.cls) (hw : ∀ w ∈ wAll, w.before args s = true) (hK : va_K (dC, dI) vwCl (gty cz ci cj) s) (hA : ∀ q, s.heap.size ≤ q → Ar q) (hR1 : 1 ≤ R.frames) (hR2 : 25 ≤ R.locals) (fC : Nat → Int64) (rs : Int64) (dk ds : Int32) (fL fl fh : Nat → Int32) (num : Nat) (hn1 : 1 ≤ num) (hn : num ≤ 60)
    (kx : ∀ (fO2 : Nat → Int32) (fA2 : Nat → Int32) (fB2 : Nat → Int32) (fT2 : Nat → Int32) (sv2 : Int32), (∀ k, k < num → fO2 k = 0 ∧ fA2 k = 50 ∧ fB2 k = 50 ∧ ∀ j, j < 12 → fT2 (k * 12 + j) = 0) → sv2 = 0 → ∀ (H : Heap) (locs : List Loc), va_P (dC, dI) vwCl (gw ad cz ci cj ((nI num), fO2, fA2, fB2, fT2, sv2, fC, rs, dk, ds, fL, fl, fh)) H → va_D Ar (gw ad cz ci cj ((nI num), fO2, fA2, fB2, fT2, sv2, fC, rs, dk, ds, fL, fl, fh)) → va_S Ar s.heap H locs → ∀ (ls : Array Slot), lv_has ls 3 [(0, .ref (ad 0))] → W p l e R s m args below meth c H locs 0 0 Q (F0 m 28 ls [])) :
    ∀ (fuel : Nat) (i : Nat) (fO2 : Nat → Int32) (fA2 : Nat → Int32) (fB2 : Nat → Int32) (fT2 : Nat → Int32) (sv2 : Int32), num + 1 ≤ i + fuel → i ≤ num → (∀ k, k < i → fO2 k = 0 ∧ fA2 k = 50 ∧ fB2 k = 50 ∧ ∀ j, j < 12 → fT2 (k * 12 + j) = 0) → (0 < i → sv2 = 0) → ∀ (H : Heap) (locs : List Loc), va_P (dC, dI) vwCl (gw ad cz ci cj ((nI num), fO2, fA2, fB2, fT2, sv2, fC, rs, dk, ds, fL, fl, fh)) H → va_D Ar (gw ad cz ci cj ((nI num), fO2, fA2, fB2, fT2, sv2, fC, rs, dk, ds, fL, fl, fh)) → va_S Ar s.heap H locs → ∀ (ls : Array Slot), lv_has ls 3 [(0, .ref (ad 0)), (1, .int (nI num)), (2, .int (nI i))] → W p l e R s m args below meth c H locs 0 0 Q (F0 m 7 ls []) := by
  intro fuel
  induction fuel with
  | zero => intro i fO2 fA2 fB2 fT2 sv2 hfu hi hI hs; exact absurd hfu (by omega)
  | succ fuel ih =>
    intro i fO2 fA2 fB2 fT2 sv2 hfu hi hI hs H locs hP hD hS ls hl
    refine lv_iload_n hx hb dX0_makeEvenEnds_7 rfl (lv_at hl 2 rfl) ?_
    refine lv_iload_n hx hb dX0_makeEvenEnds_8 rfl (lv_at hl 1 rfl) ?_
    refine lv_icmp_ge (tgt := 28) hx hb dX0_makeEvenEnds_9 (by decide) (fun c_1 => ?_) (fun c_1 => ?_)
    · exact kx fO2 fA2 fB2 fT2 sv2 (by rw [show num = i from k_eq hi c_1 (by omega)]; exact hI) (hs (by have := k_eq hi c_1 (by omega); omega)) _ _ hP hD hS _ (lv_sub hl [0] rfl)
    · have hlt : i < num := k_lt c_1 (by omega)
      refine lv_aload_n hx hb dX0_makeEvenEnds_12 rfl (lv_at hl 0 rfl) ?_
      refine lv_iload_n hx hb dX0_makeEvenEnds_13 rfl (lv_at hl 2 rfl) ?_
      refine lv_iconst (v := 0) hx hb dX0_makeEvenEnds_14 (by decide) ?_
      refine lv_bipush (v := 50) hx hb dX0_makeEvenEnds_15 (by decide) ?_
      refine lv_bipush (v := 50) hx hb dX0_makeEvenEnds_17 (by decide) ?_
      refine g_callv ⟨hx, hb, hml, hown, hw⟩ (c_X0_makeState l dC dI ad cz ci cj H.size (nI num) fO2 fA2 fB2 fT2 sv2 fC rs dk ds fL fl fh i 0 50 50 (by omega) (by decide)) (cwV 4 hw gv_X0_X0_makeState rfl rfl rfl (by decide +kernel) ⟨Nat.le_trans (Nat.le_of_ble_eq_true rfl) hR1, Nat.le_trans (Nat.le_of_ble_eq_true rfl) hR2⟩) hK hP hD hS hA (ci := 0) (q0 := 0) rfl rfl rfl hl.1 rfl (Nat.le_of_ble_eq_true rfl) dX0_makeEvenEnds_19 ⟨Nat.zero_le _, Nat.zero_le _⟩ (fun  un H locs hq hP hD hS => ?_)
      obtain ⟨fT3, hT3, rfl⟩ := hq
      have hP : va_P (dC, dI) vwCl (gw ad cz ci cj ((nI num), (upd fO2 i 0), (upd fA2 i 50), (upd fB2 i 50), fT3, 0, fC, rs, dk, ds, fL, fl, fh)) H := hP
      have hD : va_D Ar (gw ad cz ci cj ((nI num), (upd fO2 i 0), (upd fA2 i 50), (upd fB2 i 50), fT3, 0, fC, rs, dk, ds, fL, fl, fh)) := hD
      refine lv_iinc (v := (nI (i + 1))) (lv' := [(2, .int (nI (i + 1))), (0, .ref (ad 0)), (1, .int (nI num))]) hx hb dX0_makeEvenEnds_22 hl (k := 2) rfl (nI_1 i) (by decide) rfl (fun ls hl => ?_)
      refine lv_goto (tgt := 7) hx hb dX0_makeEvenEnds_25 (by decide) ?_
      exact ih (i + 1) (upd fO2 i 0) (upd fA2 i 50) (upd fB2 i 50) fT3 0 (by omega) (by omega) (k_even hI hT3) (fun _ => rfl) _ _ hP hD hS _ (lv_sub hl [1, 2, 0] rfl)
set_option maxHeartbeats 4000000 in
set_option maxRecDepth 100000 in
/-- makeEvenEnds(num) -/
theorem c_X0_makeEvenEnds (l : Launch) (dC : Nat → ClassId) (dI : Nat → Nat → Nat) (ad : Nat → Nat) (cz ci cj : ClassId) (sz : Nat) (cnt : Int32) (fO : Nat → Int32) (fA : Nat → Int32) (fB : Nat → Int32) (fT : Nat → Int32) (sv : Int32) (fC : Nat → Int64) (rs : Int64) (dk : Int32) (ds : Int32) (fL : Nat → Int32) (fl : Nat → Int32) (fh : Nat → Int32) (num : Nat) (hn1 : 1 ≤ num) (hn : num ≤ 60) : Met l yX0_makeEvenEnds wX0_makeEvenEnds ({ frames := 1, cells := 0, slots := 0, locals := 25 }) (va_Pc [.ref (ad 0), .int (nI num)] (g_Pre (dC, dI) vwCl (gty cz ci cj) (gw ad cz ci cj (cnt, fO, fA, fB, fT, sv, fC, rs, dk, ds, fL, fl, fh)) sz)) (va_Qv (fun (u : GS) => ∃ fO2 fA2 fB2 fT2 : Nat → Int32, (∀ k, k < num → fO2 k = 0 ∧ fA2 k = 50 ∧ fB2 k = 50 ∧ ∀ j, j < 12 → fT2 (k * 12 + j) = 0) ∧ u = (nI num, fO2, fA2, fB2, fT2, 0, fC, rs, dk, ds, fL, fl, fh)) (g_At (dC, dI) vwCl (gty cz ci cj) (va_A (gw ad cz ci cj (cnt, fO, fA, fB, fT, sv, fC, rs, dk, ds, fL, fl, fh)) sz) (gw ad cz ci cj)) (va_A (gw ad cz ci cj (cnt, fO, fA, fB, fT, sv, fC, rs, dk, ds, fL, fl, fh)) sz)) 0 0 (va_A (gw ad cz ci cj (cnt, fO, fA, fB, fT, sv, fC, rs, dk, ds, fL, fl, fh)) sz) := by
  refine Met.ofW (cc := cX0_makeEvenEnds) (maxL := 3) (ret := none) (by decide) rfl ?_
  intro p e s m args below meth c s₁ Bd hml hv
  obtain ⟨rfl, hsz, hP, hK, hD0⟩ := hv
  have hx := Bd.exec
  have hb := Bd.bytes
  have hr := Bd.returns
  have hts := atoms_spec (ws := wX0_makeEvenEnds) Bd.pre
  have hw : ∀ w ∈ wAll, w.before _ s = true := fun w h => hts w (List.mem_cons_of_mem _ h)
  have hown : s.vm.findClass "GameGraph" = some m.cls := findClass_of_methodNamed Bd.named
  have hlocks := Bd.notSynchronized
  subst hsz
  have hD := hD0.self (sz := s.heap.size)
  generalize hAe : va_A (gw ad cz ci cj (cnt, fO, fA, fB, fT, sv, fC, rs, dk, ds, fL, fl, fh)) s.heap.size = Ar at hD ⊢
  have hA : ∀ q : Nat, s.heap.size ≤ q → Ar q := fun q h => by rw [← hAe]; exact Or.inr h
  obtain ⟨H, hH⟩ : ∃ H : Heap, H = s.heap := ⟨_, rfl⟩
  have hS : va_S Ar s.heap H [] := by rw [hH]; exact va_S.rf
  have hP : va_P (dC, dI) vwCl (gw ad cz ci cj (cnt, fO, fA, fB, fT, sv, fC, rs, dk, ds, fL, fl, fh)) H := by rw [hH]; exact hP
  rw [← hH]
  have hl := lv_entry ([.ref (ad 0), .int (nI num)]) (n := 3) (Nat.le_of_ble_eq_true rfl)
  rw [lg_entry_eq]
  generalize (lg_sl ([.ref (ad 0), .int (nI num)]) ++ List.replicate (3 - (lg_sl ([.ref (ad 0), .int (nI num)])).length) Slot.unset).toArray = ls at hl ⊢
  have hl : lv_has ls 3 [(0, .ref (ad 0)), (1, .int (nI num))] := hl
  refine lv_aload_n hx hb dX0_makeEvenEnds_0 rfl (lv_at hl 0 rfl) ?_
  refine lv_iload_n hx hb dX0_makeEvenEnds_1 rfl (lv_at hl 1 rfl) ?_
  refine va_put (D := (dC, dI)) (ci := 0) (v := .int (nI num)) (ty := .int) (C := RX0) (T := TX0) (N := 13) hx hb hw in_X0 tyX0 tyX0_ok nmX0 hown hK hP hD hS 0 rfl rfl 0 (by decide) (hw _ m_1_18) (fun _ h9 => h9) rfl (by decide +kernel) rfl rfl (Nat.le_of_ble_eq_true rfl) dX0_makeEvenEnds_2 (fun H locs hP hD hS => ?_)
  have hP : va_P (dC, dI) vwCl (gw ad cz ci cj ((nI num), fO, fA, fB, fT, sv, fC, rs, dk, ds, fL, fl, fh)) H := hP
  have hD : va_D Ar (gw ad cz ci cj ((nI num), fO, fA, fB, fT, sv, fC, rs, dk, ds, fL, fl, fh)) := hD
  refine lv_iconst (v := 0) hx hb dX0_makeEvenEnds_5 (by decide) ?_
  refine x_topi (y := nI 0) (rfl) ?_
  refine lv_istore_n (lv' := [(2, .int (nI 0)), (0, .ref (ad 0)), (1, .int (nI num))]) hx hb dX0_makeEvenEnds_6 rfl hl (by decide) rfl (fun ls hl => ?_)
  refine lp_makeEvenEnds (dC := dC) (dI := dI) (ad := ad) (cz := cz) (ci := ci) (cj := cj) (Ar := Ar) hx hb hml hown hw hK hA (Nat.le_of_ble_eq_true rfl) (Nat.le_of_ble_eq_true rfl) fC rs dk ds fL fl fh num hn1 hn ?_ (num + 1) 0 fO fA fB fT sv (by omega) (by omega) (fun k hk => absurd hk (Nat.not_lt_zero _)) (fun h => absurd h (Nat.lt_irrefl _)) _ _ hP hD hS _ (lv_sub hl [1, 2, 0] rfl)
  intro fO2 fA2 fB2 fT2 sv2 hI hs H locs hP hD hS ls hl
  subst hs
  exact W.vret hx hb hr (fun t ht hW => ⟨⟨((nI num), fO2, fA2, fB2, fT2, 0, fC, rs, dk, ds, fL, fl, fh), rfl, (⟨fO2, fA2, fB2, fT2, hI, rfl⟩), (by rw [ht]; exact hP), va_K.moved hW.alike hK, hD⟩, hS.F ht⟩) hS.2.2 dX0_makeEvenEnds_28
