/-! What states come to (by tool/come.py). -/
theorem k_ex {f : Nat → Nat} {j m : Nat} : (∃ i, i < j + 1 ∧ f i = m) ↔ (∃ i, i < j ∧ f i = m) ∨ m = f j := by
  constructor
  · rintro ⟨i, hi, e⟩
    rcases Nat.lt_or_ge i j with q | q
    · exact Or.inl ⟨i, q, e⟩
    · have : i = j := by omega
      subst this
      exact Or.inr e.symm
  · rintro (⟨i, hi, e⟩ | e)
    · exact ⟨i, by omega, e⟩
    · exact ⟨j, by omega, e.symm⟩
set_option maxHeartbeats 4000000 in
set_option maxRecDepth 100000 in
theorem lp_goesTo {p : Program} {l : Launch} {e : Env} {R : Room} {s : State} {m : MethodId} {args : Array Value} {below : List Frame} {meth : Method} {c : Code} {Q : State → Prop} {dC : Nat → ClassId} {dI : Nat → Nat → Nat} {ad : Nat → Nat} {cz ci cj : ClassId} {Ar : Nat → Prop} (hx : p.tables.exec = Jvm.exec) (hb : c.code = cX0_goesTo) (hml : c.maxLocals = 6) (hown : s.vm.findClass "GameGraph" = some m.cls) (hw : ∀ w ∈ wAll, w.before args s = true) (hK : va_K (dC, dI) vwCl (gty cz ci cj) s) (hA : ∀ q, s.heap.size ≤ q → Ar q) (hR1 : 1 ≤ R.frames) (hR2 : 22 ≤ R.locals) (cnt : Int32) (fO fA fB fT : Nat → Int32) (sv : Int32) (fC : Nat → Int64) (rs : Int64) (dk ds : Int32) (fL fl fh : Nat → Int32) (n : Nat) (c0 : Nat) (hg : g_ok c0 fO fA fB fT) (hn : n < c0)
    (kx : ∀ (set : Int64), (∀ m, b_t set m = true ↔ ∃ i, i < (gmv fO fA fB n) ∧ gtg fT n i = m) → ∀ (H : Heap) (locs : List Loc), va_P (dC, dI) vwCl (gw ad cz ci cj (cnt, fO, fA, fB, fT, sv, fC, rs, dk, ds, fL, fl, fh)) H → va_D Ar (gw ad cz ci cj (cnt, fO, fA, fB, fT, sv, fC, rs, dk, ds, fL, fl, fh)) → va_S Ar s.heap H locs → ∀ (ls : Array Slot), lv_has ls 6 [(0, .ref (ad 0)), (2, .long set)] → W p l e R s m args below meth c H locs 0 0 Q (F0 m 37 ls [])) :
    ∀ (fuel : Nat) (j : Nat) (set : Int64), gmv fO fA fB n + 1 ≤ j + fuel → j ≤ gmv fO fA fB n → (∀ m, b_t set m = true ↔ ∃ i, i < j ∧ gtg fT n i = m) → ∀ (H : Heap) (locs : List Loc), va_P (dC, dI) vwCl (gw ad cz ci cj (cnt, fO, fA, fB, fT, sv, fC, rs, dk, ds, fL, fl, fh)) H → va_D Ar (gw ad cz ci cj (cnt, fO, fA, fB, fT, sv, fC, rs, dk, ds, fL, fl, fh)) → va_S Ar s.heap H locs → ∀ (ls : Array Slot), lv_has ls 6 [(0, .ref (ad 0)), (1, .int (nI n)), (2, .long set), (4, .int (nI (gmv fO fA fB n))), (5, .int (nI j))] → W p l e R s m args below meth c H locs 0 0 Q (F0 m 12 ls []) := by
  intro fuel
  induction fuel with
  | zero => intro j set hfu hj hI; exact absurd hfu (by omega)
  | succ fuel ih =>
    intro j set hfu hj hI H locs hP hD hS ls hl
    refine lv_iload hx hb dX0_goesTo_12 (lv_at hl 4 rfl) ?_
    refine lv_iload hx hb dX0_goesTo_14 (lv_at hl 3 rfl) ?_
    refine lv_icmp_ge (tgt := 37) hx hb dX0_goesTo_16 (by decide) (fun c_1 => ?_) (fun c_1 => ?_)
    · exact kx set (fun m => by rw [hI m, k_eq hj c_1 (by have := (g_mvI hg hn).2; omega)]) _ _ hP hD hS _ (lv_sub hl [0, 2] rfl)
    · have h12 := (g_mvI hg hn).2
      have h60 := hg.2.1
      have hlt : j < gmv fO fA fB n := k_lt c_1 (by omega)
      refine lv_lload_n hx hb dX0_goesTo_19 rfl (lv_at hl 2 rfl) ?_
      refine lv_lconst (v := 1) hx hb dX0_goesTo_20 (by decide) ?_
      refine lv_aload_n hx hb dX0_goesTo_21 rfl (lv_at hl 0 rfl) ?_
      refine lv_iload_n hx hb dX0_goesTo_22 rfl (lv_at hl 1 rfl) ?_
      refine lv_iload hx hb dX0_goesTo_23 (lv_at hl 4 rfl) ?_
      refine g_calli ⟨hx, hb, hml, hown, hw⟩ (c_X0_target l dC dI ad cz ci cj H.size cnt fO fA fB fT sv fC rs dk ds fL fl fh n j (by omega) (by omega)) (cwV 2 hw gv_X0_X0_target rfl rfl rfl (by decide +kernel) ⟨Nat.le_trans (Nat.le_of_ble_eq_true rfl) hR1, Nat.le_trans (Nat.le_of_ble_eq_true rfl) hR2⟩) hK hP hD hS hA (ci := 0) (q0 := 0) rfl rfl rfl hl.1 rfl (Nat.le_of_ble_eq_true rfl) dX0_goesTo_25 ⟨Nat.zero_le _, Nat.zero_le _⟩ (fun rb_2 un H locs hq hP hD hS => ?_)
      obtain ⟨rfl, hq⟩ := hq
      have hP : va_P (dC, dI) vwCl (gw ad cz ci cj (cnt, fO, fA, fB, fT, sv, fC, rs, dk, ds, fL, fl, fh)) H := hP
      have hD : va_D Ar (gw ad cz ci cj (cnt, fO, fA, fB, fT, sv, fC, rs, dk, ds, fL, fl, fh)) := hD
      have ht := g_tgI hg hn (j := j) (by omega)
      refine x_topi (y := nI (gtg fT n j)) (by rw [hq]; exact ht.1) ?_
      refine lv_lshl hx hb dX0_goesTo_28 rfl ?_
      refine lv_lor hx hb dX0_goesTo_29 ?_
      refine lv_lstore_n (lv' := [(2, .long (set ||| (1 <<< ((nI (gtg fT n j)).toInt64 &&& 63)))), (0, .ref (ad 0)), (1, .int (nI n)), (4, .int (nI (gmv fO fA fB n))), (5, .int (nI j))]) hx hb dX0_goesTo_30 rfl hl (by decide) rfl (fun ls hl => ?_)
      refine lv_iinc (v := (nI (j + 1))) (lv' := [(5, .int (nI (j + 1))), (2, .long (set ||| (1 <<< ((nI (gtg fT n j)).toInt64 &&& 63)))), (0, .ref (ad 0)), (1, .int (nI n)), (4, .int (nI (gmv fO fA fB n)))]) hx hb dX0_goesTo_31 hl (k := 4) rfl (nI_1 j) (by decide) rfl (fun ls hl => ?_)
      refine lv_goto (tgt := 12) hx hb dX0_goesTo_34 (by decide) ?_
      exact ih (j + 1) (set ||| (1 <<< ((nI (gtg fT n j)).toInt64 &&& 63))) (by omega) (by omega) (k_or (by omega) hI (fun m => k_ex)) _ _ hP hD hS _ (lv_sub hl [2, 3, 1, 4, 0] rfl)
set_option maxHeartbeats 4000000 in
set_option maxRecDepth 100000 in
/-- goesTo(n): the states that n goes to -/
theorem c_X0_goesTo (l : Launch) (dC : Nat → ClassId) (dI : Nat → Nat → Nat) (ad : Nat → Nat) (cz ci cj : ClassId) (sz : Nat) (cnt : Int32) (fO : Nat → Int32) (fA : Nat → Int32) (fB : Nat → Int32) (fT : Nat → Int32) (sv : Int32) (fC : Nat → Int64) (rs : Int64) (dk : Int32) (ds : Int32) (fL : Nat → Int32) (fl : Nat → Int32) (fh : Nat → Int32) (n : Nat) (c0 : Nat) (hg : g_ok c0 fO fA fB fT) (hn : n < c0) : Met l yX0_goesTo wX0_goesTo ({ frames := 1, cells := 0, slots := 0, locals := 22 }) (va_Pc [.ref (ad 0), .int (nI n)] (g_Pre (dC, dI) vwCl (gty cz ci cj) (gw ad cz ci cj (cnt, fO, fA, fB, fT, sv, fC, rs, dk, ds, fL, fl, fh)) sz)) (va_Ql (fun (r : Int64) (u : GS) => u = (cnt, fO, fA, fB, fT, sv, fC, rs, dk, ds, fL, fl, fh) ∧ ∀ m, b_t r m = true ↔ (s_ed (gmv fO fA fB) (gtg fT)) n m) (g_At (dC, dI) vwCl (gty cz ci cj) (va_A (gw ad cz ci cj (cnt, fO, fA, fB, fT, sv, fC, rs, dk, ds, fL, fl, fh)) sz) (gw ad cz ci cj)) (va_A (gw ad cz ci cj (cnt, fO, fA, fB, fT, sv, fC, rs, dk, ds, fL, fl, fh)) sz)) 0 0 (va_A (gw ad cz ci cj (cnt, fO, fA, fB, fT, sv, fC, rs, dk, ds, fL, fl, fh)) sz) := by
  refine Met.ofW (cc := cX0_goesTo) (maxL := 6) (ret := some .long) (by decide) rfl ?_
  intro p e s m args below meth c s₁ Bd hml hv
  obtain ⟨rfl, hsz, hP, hK, hD0⟩ := hv
  have hx := Bd.exec
  have hb := Bd.bytes
  have hr := Bd.returns
  have hts := atoms_spec (ws := wX0_goesTo) Bd.pre
  have hw : ∀ w ∈ wAll, w.before _ s = true := fun w h => hts w (List.mem_cons_of_mem _ h)
  have hown : s.vm.findClass "GameGraph" = some m.cls := findClass_of_methodNamed Bd.named
  have hlocks := Bd.notSynchronized
  subst hsz
  have hD := hD0.self (sz := s.heap.size)
  generalize hAe : va_A (gw ad cz ci cj (cnt, fO, fA, fB, fT, sv, fC, rs, dk, ds, fL, fl, fh)) s.heap.size = Ar at hD ⊢
  have hA : ∀ q : Nat, s.heap.size ≤ q → Ar q := fun q h => by rw [← hAe]; exact Or.inr h
  obtain ⟨H, hH⟩ : ∃ H : Heap, H = s.heap := ⟨_, rfl⟩
  have hS : va_S Ar s.heap H [] := by rw [hH]; exact va_S.rf
  have hP : va_P (dC, dI) vwCl (gw ad cz ci cj (cnt, fO, fA, fB, fT, sv, fC, rs, dk, ds, fL, fl, fh)) H := by rw [hH]; exact hP
  rw [← hH]
  have hl := lv_entry ([.ref (ad 0), .int (nI n)]) (n := 6) (Nat.le_of_ble_eq_true rfl)
  rw [lg_entry_eq]
  generalize (lg_sl ([.ref (ad 0), .int (nI n)]) ++ List.replicate (6 - (lg_sl ([.ref (ad 0), .int (nI n)])).length) Slot.unset).toArray = ls at hl ⊢
  have hl : lv_has ls 6 [(0, .ref (ad 0)), (1, .int (nI n))] := hl
  have h60 := hg.2.1
  refine lv_lconst (v := 0) hx hb dX0_goesTo_0 (by decide) ?_
  refine lv_lstore_n (lv' := [(2, .long 0), (0, .ref (ad 0)), (1, .int (nI n))]) hx hb dX0_goesTo_1 rfl hl (by decide) rfl (fun ls hl => ?_)
  refine lv_aload_n hx hb dX0_goesTo_2 rfl (lv_at hl 1 rfl) ?_
  refine lv_iload_n hx hb dX0_goesTo_3 rfl (lv_at hl 2 rfl) ?_
  refine g_calli ⟨hx, hb, hml, hown, hw⟩ (c_X0_jointMoves l dC dI ad cz ci cj H.size cnt fO fA fB fT sv fC rs dk ds fL fl fh n (by omega)) (cwV 1 hw gv_X0_X0_jointMoves rfl rfl rfl (by decide +kernel) ⟨Nat.le_of_ble_eq_true rfl, Nat.le_of_ble_eq_true rfl⟩) hK hP hD hS hA (ci := 0) (q0 := 0) rfl rfl rfl hl.1 rfl (Nat.le_of_ble_eq_true rfl) dX0_goesTo_4 ⟨Nat.zero_le _, Nat.zero_le _⟩ (fun r_1 un H locs hq hP hD hS => ?_)
  obtain ⟨rfl, hq⟩ := hq
  have hP : va_P (dC, dI) vwCl (gw ad cz ci cj (cnt, fO, fA, fB, fT, sv, fC, rs, dk, ds, fL, fl, fh)) H := hP
  have hD : va_D Ar (gw ad cz ci cj (cnt, fO, fA, fB, fT, sv, fC, rs, dk, ds, fL, fl, fh)) := hD
  refine x_topi (y := nI (gmv fO fA fB n)) (by rw [hq]; exact (g_mvI hg hn).1) ?_
  refine lv_istore (lv' := [(4, .int (nI (gmv fO fA fB n))), (2, .long 0), (0, .ref (ad 0)), (1, .int (nI n))]) hx hb dX0_goesTo_7 hl (by decide) rfl (fun ls hl => ?_)
  refine lv_iconst (v := 0) hx hb dX0_goesTo_9 (by decide) ?_
  refine lv_istore (lv' := [(5, .int 0), (4, .int (nI (gmv fO fA fB n))), (2, .long 0), (0, .ref (ad 0)), (1, .int (nI n))]) hx hb dX0_goesTo_10 hl (by decide) rfl (fun ls hl => ?_)
  refine lp_goesTo (dC := dC) (dI := dI) (ad := ad) (cz := cz) (ci := ci) (cj := cj) (Ar := Ar) hx hb hml hown hw hK hA (Nat.le_of_ble_eq_true rfl) (Nat.le_of_ble_eq_true rfl) cnt fO fA fB fT sv fC rs dk ds fL fl fh n c0 hg hn ?_ (gmv fO fA fB n + 1) 0 0 (by omega) (by omega) (fun m => by rw [b_t_0]; exact ⟨fun h => (by cases h), fun ⟨i, hi, _⟩ => absurd hi (Nat.not_lt_zero _)⟩) _ _ hP hD hS _ (lv_sub hl [3, 4, 2, 1, 0] rfl)
  intro set hI H locs hP hD hS ls hl
  refine lv_lload_n hx hb dX0_goesTo_37 rfl (lv_at hl 1 rfl) ?_
  exact W.lret (v := set) hx hb hr (fun t ht hW => ⟨⟨set, (cnt, fO, fA, fB, fT, sv, fC, rs, dk, ds, fL, fl, fh), rfl, (⟨rfl, hI⟩), (by rw [ht]; exact hP), va_K.moved hW.alike hK, hD⟩, hS.F ht⟩) hS.2.2 dX0_goesTo_38
theorem k_row {E : Nat → Nat → Prop} {C : Nat → Int64} {i : Nat} {r : Int64} (hI : ∀ a, a < i → ∀ m, b_t (C a) m = true ↔ E a m) (hq : ∀ m, b_t r m = true ↔ E i m) : ∀ a, a < i + 1 → ∀ m, b_t (vp_updL C i r a) m = true ↔ E a m := by
  intro a ha m
  by_cases e : a = i
  · subst e; rw [pk_uLs]; exact hq m
  · rw [pk_uLn e]; exact hI a (by omega) m
set_option maxHeartbeats 4000000 in
set_option maxRecDepth 100000 in
theorem lp_come1 {p : Program} {l : Launch} {e : Env} {R : Room} {s : State} {m : MethodId} {args : Array Value} {below : List Frame} {meth : Method} {c : Code} {Q : State → Prop} {dC : Nat → ClassId} {dI : Nat → Nat → Nat} {ad : Nat → Nat} {cz ci cj : ClassId} {Ar : Nat → Prop} (hx : p.tables.exec = Jvm.exec) (hb : c.code = cX0_findWhatStatesComeTo) (hml : c.maxLocals = 3) (hown : s.vm.findClass "GameGraph" = some m.cls) (hw : ∀ w ∈ wAll, w.before args s = true) (hK : va_K (dC, dI) vwCl (gty cz ci cj) s) (hA : ∀ q, s.heap.size ≤ q → Ar q) (hR1 : 2 ≤ R.frames) (hR2 : 47 ≤ R.locals) (fO fA fB fT : Nat → Int32) (sv : Int32) (rs : Int64) (dk ds : Int32) (fL fl fh : Nat → Int32) (c0 : Nat) (hg : g_ok c0 fO fA fB fT)
    (kx : ∀ (fC2 : Nat → Int64), (g_cr (s_ed (gmv fO fA fB) (gtg fT)) c0 0 0 fC2) → ∀ (H : Heap) (locs : List Loc), va_P (dC, dI) vwCl (gw ad cz ci cj ((nI c0), fO, fA, fB, fT, sv, fC2, rs, dk, ds, fL, fl, fh)) H → va_D Ar (gw ad cz ci cj ((nI c0), fO, fA, fB, fT, sv, fC2, rs, dk, ds, fL, fl, fh)) → va_S Ar s.heap H locs → ∀ (ls : Array Slot), lv_has ls 3 [(0, .ref (ad 0))] → W p l e R s m args below meth c H locs 0 0 Q (F0 m 27 ls [])) :
    ∀ (fuel : Nat) (i : Nat) (fC2 : Nat → Int64), c0 + 1 ≤ i + fuel → i ≤ c0 → (∀ a, a < i → ∀ m, b_t (fC2 a) m = true ↔ (s_ed (gmv fO fA fB) (gtg fT)) a m) → ∀ (H : Heap) (locs : List Loc), va_P (dC, dI) vwCl (gw ad cz ci cj ((nI c0), fO, fA, fB, fT, sv, fC2, rs, dk, ds, fL, fl, fh)) H → va_D Ar (gw ad cz ci cj ((nI c0), fO, fA, fB, fT, sv, fC2, rs, dk, ds, fL, fl, fh)) → va_S Ar s.heap H locs → ∀ (ls : Array Slot), lv_has ls 3 [(0, .ref (ad 0)), (1, .int (nI i))] → W p l e R s m args below meth c H locs 0 0 Q (F0 m 2 ls []) := by
  intro fuel
  induction fuel with
  | zero => intro i fC2 hfu hi hI; exact absurd hfu (by omega)
  | succ fuel ih =>
    intro i fC2 hfu hi hI H locs hP hD hS ls hl
    have h60 := hg.2.1
    refine lv_iload_n hx hb dX0_findWhatStatesComeTo_2 rfl (lv_at hl 1 rfl) ?_
    refine lv_aload_n hx hb dX0_findWhatStatesComeTo_3 rfl (lv_at hl 0 rfl) ?_
    refine va_get (D := (dC, dI)) (ci := 0) (v := .int (nI c0)) (C := RX0) (T := TX0) (N := 13) hx hb hw in_X0 hown hK hP 0 rfl rfl 0 (by decide) (hw _ m_1_18) (fun _ h9 => h9) rfl dX0_findWhatStatesComeTo_4 ?_
    refine lv_icmp_ge (tgt := 27) hx hb dX0_findWhatStatesComeTo_7 (by decide) (fun c_1 => ?_) (fun c_1 => ?_)
    · exact kx fC2 (fun a ha m => by rw [if_neg (Nat.not_lt_zero _)]; exact hI a (by have := k_eq hi c_1 (by omega); omega) m) _ _ hP hD hS _ (lv_sub hl [0] rfl)
    · have hlt : i < c0 := k_lt c_1 (by omega)
      refine lv_aload_n hx hb dX0_findWhatStatesComeTo_10 rfl (lv_at hl 0 rfl) ?_
      refine va_get (D := (dC, dI)) (ci := 0) (v := .ref (ad 5)) (C := RX0) (T := TX0) (N := 13) hx hb hw in_X0 hown hK hP 0 rfl rfl 6 (by decide) (hw _ m_1_24) (fun _ h9 => h9) rfl dX0_findWhatStatesComeTo_11 ?_
      refine lv_iload_n hx hb dX0_findWhatStatesComeTo_14 rfl (lv_at hl 1 rfl) ?_
      refine lv_aload_n hx hb dX0_findWhatStatesComeTo_15 rfl (lv_at hl 0 rfl) ?_
      refine lv_iload_n hx hb dX0_findWhatStatesComeTo_16 rfl (lv_at hl 1 rfl) ?_
      refine g_calll ⟨hx, hb, hml, hown, hw⟩ (c_X0_goesTo l dC dI ad cz ci cj H.size (nI c0) fO fA fB fT sv fC2 rs dk ds fL fl fh i c0 hg hlt) (cwV 1 hw gv_X0_X0_goesTo rfl rfl rfl (by decide +kernel) ⟨Nat.le_trans (Nat.le_of_ble_eq_true rfl) hR1, Nat.le_trans (Nat.le_of_ble_eq_true rfl) hR2⟩) hK hP hD hS hA (ci := 0) (q0 := 0) rfl rfl rfl hl.1 rfl (Nat.le_of_ble_eq_true rfl) dX0_findWhatStatesComeTo_17 ⟨Nat.zero_le _, Nat.zero_le _⟩ (fun rb_2 un H locs hq hP hD hS => ?_)
      obtain ⟨rfl, hq⟩ := hq
      have hP : va_P (dC, dI) vwCl (gw ad cz ci cj ((nI c0), fO, fA, fB, fT, sv, fC2, rs, dk, ds, fL, fl, fh)) H := hP
      have hD : va_D Ar (gw ad cz ci cj ((nI c0), fO, fA, fB, fT, sv, fC2, rs, dk, ds, fL, fl, fh)) := hD
      refine va_last hx hb hK hP hD hS 5 2 rfl rfl (vp_in_nI (by omega) (by decide)) dX0_findWhatStatesComeTo_20 (fun H locs hP hD hS => ?_)
      rw [nI_clamp (by omega)] at hP hD
      have hP : va_P (dC, dI) vwCl (gw ad cz ci cj ((nI c0), fO, fA, fB, fT, sv, (vp_updL fC2 i rb_2), rs, dk, ds, fL, fl, fh)) H := hP
      have hD : va_D Ar (gw ad cz ci cj ((nI c0), fO, fA, fB, fT, sv, (vp_updL fC2 i rb_2), rs, dk, ds, fL, fl, fh)) := hD
      refine lv_iinc (v := (nI (i + 1))) (lv' := [(1, .int (nI (i + 1))), (0, .ref (ad 0))]) hx hb dX0_findWhatStatesComeTo_21 hl (k := 1) rfl (nI_1 i) (by decide) rfl (fun ls hl => ?_)
      refine lv_goto (tgt := 2) hx hb dX0_findWhatStatesComeTo_24 (by decide) ?_
      exact ih (i + 1) (vp_updL fC2 i rb_2) (by omega) (by omega) (k_row hI hq) _ _ hP hD hS _ (lv_sub hl [1, 0] rfl)
set_option maxHeartbeats 4000000 in
set_option maxRecDepth 100000 in
theorem lp_come2 {p : Program} {l : Launch} {e : Env} {R : Room} {s : State} {m : MethodId} {args : Array Value} {below : List Frame} {meth : Method} {c : Code} {Q : State → Prop} {dC : Nat → ClassId} {dI : Nat → Nat → Nat} {ad : Nat → Nat} {cz ci cj : ClassId} {Ar : Nat → Prop} (hx : p.tables.exec = Jvm.exec) (hb : c.code = cX0_findWhatStatesComeTo) (hml : c.maxLocals = 3) (hown : s.vm.findClass "GameGraph" = some m.cls) (hw : ∀ w ∈ wAll, w.before args s = true) (hK : va_K (dC, dI) vwCl (gty cz ci cj) s) (hA : ∀ q, s.heap.size ≤ q → Ar q) (hR1 : 1 ≤ R.frames) (hR2 : 22 ≤ R.locals) (fO fA fB fT : Nat → Int32) (sv : Int32) (rs : Int64) (dk ds : Int32) (fL fl fh : Nat → Int32) (c0 : Nat) (hg : g_ok c0 fO fA fB fT) (k : Nat) (hk : k < c0)
    (kx : ∀ (fC3 : Nat → Int64), (g_cr (s_ed (gmv fO fA fB) (gtg fT)) c0 k c0 fC3) → ∀ (H : Heap) (locs : List Loc), va_P (dC, dI) vwCl (gw ad cz ci cj ((nI c0), fO, fA, fB, fT, sv, fC3, rs, dk, ds, fL, fl, fh)) H → va_D Ar (gw ad cz ci cj ((nI c0), fO, fA, fB, fT, sv, fC3, rs, dk, ds, fL, fl, fh)) → va_S Ar s.heap H locs → ∀ (ls : Array Slot), lv_has ls 3 [(0, .ref (ad 0)), (1, .int (nI k))] → W p l e R s m args below meth c H locs 0 0 Q (F0 m 81 ls [])) :
    ∀ (fuel : Nat) (n : Nat) (fC3 : Nat → Int64), c0 + 1 ≤ n + fuel → n ≤ c0 → (g_cr (s_ed (gmv fO fA fB) (gtg fT)) c0 k n fC3) → ∀ (H : Heap) (locs : List Loc), va_P (dC, dI) vwCl (gw ad cz ci cj ((nI c0), fO, fA, fB, fT, sv, fC3, rs, dk, ds, fL, fl, fh)) H → va_D Ar (gw ad cz ci cj ((nI c0), fO, fA, fB, fT, sv, fC3, rs, dk, ds, fL, fl, fh)) → va_S Ar s.heap H locs → ∀ (ls : Array Slot), lv_has ls 3 [(0, .ref (ad 0)), (1, .int (nI k)), (2, .int (nI n))] → W p l e R s m args below meth c H locs 0 0 Q (F0 m 39 ls []) := by
  intro fuel
  induction fuel with
  | zero => intro n fC3 hfu hn hI; exact absurd hfu (by omega)
  | succ fuel ih =>
    intro n fC3 hfu hn hI H locs hP hD hS ls hl
    have h60 := hg.2.1
    refine lv_iload_n hx hb dX0_findWhatStatesComeTo_39 rfl (lv_at hl 2 rfl) ?_
    refine lv_aload_n hx hb dX0_findWhatStatesComeTo_40 rfl (lv_at hl 0 rfl) ?_
    refine va_get (D := (dC, dI)) (ci := 0) (v := .int (nI c0)) (C := RX0) (T := TX0) (N := 13) hx hb hw in_X0 hown hK hP 0 rfl rfl 0 (by decide) (hw _ m_1_18) (fun _ h9 => h9) rfl dX0_findWhatStatesComeTo_41 ?_
    refine lv_icmp_ge (tgt := 81) hx hb dX0_findWhatStatesComeTo_44 (by decide) (fun c_1 => ?_) (fun c_1 => ?_)
    · exact kx fC3 (by rw [show n = c0 from (k_eq hn c_1 (by omega)).symm] at hI; exact hI) _ _ hP hD hS _ (lv_sub hl [0, 1] rfl)
    · have hlt : n < c0 := k_lt c_1 (by omega)
      refine lv_aload_n hx hb dX0_findWhatStatesComeTo_47 rfl (lv_at hl 0 rfl) ?_
      refine va_get (D := (dC, dI)) (ci := 0) (v := .ref (ad 5)) (C := RX0) (T := TX0) (N := 13) hx hb hw in_X0 hown hK hP 0 rfl rfl 6 (by decide) (hw _ m_1_24) (fun _ h9 => h9) rfl dX0_findWhatStatesComeTo_48 ?_
      refine lv_iload_n hx hb dX0_findWhatStatesComeTo_51 rfl (lv_at hl 2 rfl) ?_
      refine va_lald hx hb hK hP 5 2 rfl rfl (vp_in_nI (by omega) (by decide)) dX0_findWhatStatesComeTo_52 ?_
      refine x_topl (y := fC3 n) (by rw [nI_clamp (by omega)]) ?_
      refine lv_iload_n hx hb dX0_findWhatStatesComeTo_53 rfl (lv_at hl 1 rfl) ?_
      refine g_calls ⟨hx, hb, hml, hown, hw⟩ (c_X0_contains l (fC3 n) k (by omega)) (va_cwS 2 hw gs_X0_X0_contains rfl rfl rfl (by decide +kernel) ⟨Nat.le_trans (Nat.le_of_ble_eq_true rfl) hR1, Nat.le_trans (Nat.le_of_ble_eq_true rfl) hR2⟩) hP hS rfl hl.1 rfl (Nat.le_of_ble_eq_true rfl) dX0_findWhatStatesComeTo_54 ⟨Nat.zero_le _, Nat.zero_le _⟩ (fun rb_2 H locs hq hP hS => ?_)
      have hP : va_P (dC, dI) vwCl (gw ad cz ci cj ((nI c0), fO, fA, fB, fT, sv, fC3, rs, dk, ds, fL, fl, fh)) H := hP
      have hD : va_D Ar (gw ad cz ci cj ((nI c0), fO, fA, fB, fT, sv, fC3, rs, dk, ds, fL, fl, fh)) := hD
      refine lv_if_eq (tgt := 75) hx hb dX0_findWhatStatesComeTo_57 (by decide) (fun cb_3 => ?_) (fun cb_3 => ?_)
      · refine lv_iinc (v := (nI (n + 1))) (lv' := [(2, .int (nI (n + 1))), (0, .ref (ad 0)), (1, .int (nI k))]) hx hb dX0_findWhatStatesComeTo_75 hl (k := 2) rfl (nI_1 n) (by decide) rfl (fun ls hl => ?_)
        refine lv_goto (tgt := 39) hx hb dX0_findWhatStatesComeTo_78 (by decide) ?_
        exact ih (n + 1) fC3 (by omega) (by omega) (g_cr_no hI hlt (k_b0 hq cb_3)) _ _ hP hD hS _ (lv_sub hl [1, 2, 0] rfl)
      · refine lv_aload_n hx hb dX0_findWhatStatesComeTo_60 rfl (lv_at hl 0 rfl) ?_
        refine va_get (D := (dC, dI)) (ci := 0) (v := .ref (ad 5)) (C := RX0) (T := TX0) (N := 13) hx hb hw in_X0 hown hK hP 0 rfl rfl 6 (by decide) (hw _ m_1_24) (fun _ h9 => h9) rfl dX0_findWhatStatesComeTo_61 ?_
        refine lv_iload_n hx hb dX0_findWhatStatesComeTo_64 rfl (lv_at hl 2 rfl) ?_
        refine lv_dup2_11 hx hb dX0_findWhatStatesComeTo_65 rfl rfl ?_
        refine va_lald hx hb hK hP 5 2 rfl rfl (vp_in_nI (by omega) (by decide)) dX0_findWhatStatesComeTo_66 ?_
        refine x_topl (y := fC3 n) (by rw [nI_clamp (by omega)]) ?_
        refine lv_aload_n hx hb dX0_findWhatStatesComeTo_67 rfl (lv_at hl 0 rfl) ?_
        refine va_get (D := (dC, dI)) (ci := 0) (v := .ref (ad 5)) (C := RX0) (T := TX0) (N := 13) hx hb hw in_X0 hown hK hP 0 rfl rfl 6 (by decide) (hw _ m_1_24) (fun _ h9 => h9) rfl dX0_findWhatStatesComeTo_68 ?_
        refine lv_iload_n hx hb dX0_findWhatStatesComeTo_71 rfl (lv_at hl 1 rfl) ?_
        refine va_lald hx hb hK hP 5 2 rfl rfl (vp_in_nI (by omega) (by decide)) dX0_findWhatStatesComeTo_72 ?_
        refine x_topl (y := fC3 k) (by rw [nI_clamp (by omega)]) ?_
        refine lv_lor hx hb dX0_findWhatStatesComeTo_73 ?_
        refine va_last hx hb hK hP hD hS 5 2 rfl rfl (vp_in_nI (by omega) (by decide)) dX0_findWhatStatesComeTo_74 (fun H locs hP hD hS => ?_)
        rw [nI_clamp (by omega)] at hP hD
        have hP : va_P (dC, dI) vwCl (gw ad cz ci cj ((nI c0), fO, fA, fB, fT, sv, (vp_updL fC3 n ((fC3 n) ||| (fC3 k))), rs, dk, ds, fL, fl, fh)) H := hP
        have hD : va_D Ar (gw ad cz ci cj ((nI c0), fO, fA, fB, fT, sv, (vp_updL fC3 n ((fC3 n) ||| (fC3 k))), rs, dk, ds, fL, fl, fh)) := hD
        refine lv_iinc (v := (nI (n + 1))) (lv' := [(2, .int (nI (n + 1))), (0, .ref (ad 0)), (1, .int (nI k))]) hx hb dX0_findWhatStatesComeTo_75 hl (k := 2) rfl (nI_1 n) (by decide) rfl (fun ls hl => ?_)
        refine lv_goto (tgt := 39) hx hb dX0_findWhatStatesComeTo_78 (by decide) ?_
        exact ih (n + 1) (vp_updL fC3 n ((fC3 n) ||| (fC3 k))) (by omega) (by omega) (g_cr_yes hI hlt hk (k_b1 hq cb_3)) _ _ hP hD hS _ (lv_sub hl [1, 2, 0] rfl)
set_option maxHeartbeats 4000000 in
set_option maxRecDepth 100000 in
theorem lp_come3 {p : Program} {l : Launch} {e : Env} {R : Room} {s : State} {m : MethodId} {args : Array Value} {below : List Frame} {meth : Method} {c : Code} {Q : State → Prop} {dC : Nat → ClassId} {dI : Nat → Nat → Nat} {ad : Nat → Nat} {cz ci cj : ClassId} {Ar : Nat → Prop} (hx : p.tables.exec = Jvm.exec) (hb : c.code = cX0_findWhatStatesComeTo) (hml : c.maxLocals = 3) (hown : s.vm.findClass "GameGraph" = some m.cls) (hw : ∀ w ∈ wAll, w.before args s = true) (hK : va_K (dC, dI) vwCl (gty cz ci cj) s) (hA : ∀ q, s.heap.size ≤ q → Ar q) (hR1 : 1 ≤ R.frames) (hR2 : 22 ≤ R.locals) (fO fA fB fT : Nat → Int32) (sv : Int32) (rs : Int64) (dk ds : Int32) (fL fl fh : Nat → Int32) (c0 : Nat) (hg : g_ok c0 fO fA fB fT)
    (kx : ∀ (fC2 : Nat → Int64), (g_cr (s_ed (gmv fO fA fB) (gtg fT)) c0 c0 0 fC2) → ∀ (H : Heap) (locs : List Loc), va_P (dC, dI) vwCl (gw ad cz ci cj ((nI c0), fO, fA, fB, fT, sv, fC2, rs, dk, ds, fL, fl, fh)) H → va_D Ar (gw ad cz ci cj ((nI c0), fO, fA, fB, fT, sv, fC2, rs, dk, ds, fL, fl, fh)) → va_S Ar s.heap H locs → ∀ (ls : Array Slot), lv_has ls 3 [(0, .ref (ad 0))] → W p l e R s m args below meth c H locs 0 0 Q (F0 m 87 ls [])) :
    ∀ (fuel : Nat) (k : Nat) (fC2 : Nat → Int64), c0 + 1 ≤ k + fuel → k ≤ c0 → (g_cr (s_ed (gmv fO fA fB) (gtg fT)) c0 k 0 fC2) → ∀ (H : Heap) (locs : List Loc), va_P (dC, dI) vwCl (gw ad cz ci cj ((nI c0), fO, fA, fB, fT, sv, fC2, rs, dk, ds, fL, fl, fh)) H → va_D Ar (gw ad cz ci cj ((nI c0), fO, fA, fB, fT, sv, fC2, rs, dk, ds, fL, fl, fh)) → va_S Ar s.heap H locs → ∀ (ls : Array Slot), lv_has ls 3 [(0, .ref (ad 0)), (1, .int (nI k))] → W p l e R s m args below meth c H locs 0 0 Q (F0 m 29 ls []) := by
  intro fuel
  induction fuel with
  | zero => intro k fC2 hfu hk hI; exact absurd hfu (by omega)
  | succ fuel ih =>
    intro k fC2 hfu hk hI H locs hP hD hS ls hl
    have h60 := hg.2.1
    refine lv_iload_n hx hb dX0_findWhatStatesComeTo_29 rfl (lv_at hl 1 rfl) ?_
    refine lv_aload_n hx hb dX0_findWhatStatesComeTo_30 rfl (lv_at hl 0 rfl) ?_
    refine va_get (D := (dC, dI)) (ci := 0) (v := .int (nI c0)) (C := RX0) (T := TX0) (N := 13) hx hb hw in_X0 hown hK hP 0 rfl rfl 0 (by decide) (hw _ m_1_18) (fun _ h9 => h9) rfl dX0_findWhatStatesComeTo_31 ?_
    refine lv_icmp_ge (tgt := 87) hx hb dX0_findWhatStatesComeTo_34 (by decide) (fun c_1 => ?_) (fun c_1 => ?_)
    · exact kx fC2 (by rw [show k = c0 from (k_eq hk c_1 (by omega)).symm] at hI; exact hI) _ _ hP hD hS _ (lv_sub hl [0] rfl)
    · have hlt : k < c0 := k_lt c_1 (by omega)
      refine lv_iconst (v := 0) hx hb dX0_findWhatStatesComeTo_37 (by decide) ?_
      refine x_topi (y := nI 0) (rfl) ?_
      refine lv_istore_n (lv' := [(2, .int (nI 0)), (0, .ref (ad 0)), (1, .int (nI k))]) hx hb dX0_findWhatStatesComeTo_38 rfl hl (by decide) rfl (fun ls hl => ?_)
      refine lp_come2 (dC := dC) (dI := dI) (ad := ad) (cz := cz) (ci := ci) (cj := cj) (Ar := Ar) hx hb hml hown hw hK hA (Nat.le_trans (Nat.le_of_ble_eq_true rfl) hR1) (Nat.le_trans (Nat.le_of_ble_eq_true rfl) hR2) fO fA fB fT sv rs dk ds fL fl fh c0 hg k hlt ?_ (c0 + 1) 0 fC2 (by omega) (by omega) hI _ _ hP hD hS _ (lv_sub hl [1, 2, 0] rfl)
      intro fC3 hI H locs hP hD hS ls hl
      refine lv_iinc (v := (nI (k + 1))) (lv' := [(1, .int (nI (k + 1))), (0, .ref (ad 0))]) hx hb dX0_findWhatStatesComeTo_81 hl (k := 1) rfl (nI_1 k) (by decide) rfl (fun ls hl => ?_)
      refine lv_goto (tgt := 29) hx hb dX0_findWhatStatesComeTo_84 (by decide) ?_
      exact ih (k + 1) fC3 (by omega) (by omega) (g_cr_next (by assumption)) _ _ hP hD hS _ (lv_sub hl [1, 0] rfl)
set_option maxHeartbeats 4000000 in
set_option maxRecDepth 100000 in
/-- findWhatStatesComeTo() -/
theorem c_X0_findWhatStatesComeTo (l : Launch) (dC : Nat → ClassId) (dI : Nat → Nat → Nat) (ad : Nat → Nat) (cz ci cj : ClassId) (sz : Nat) (cnt : Int32) (fO : Nat → Int32) (fA : Nat → Int32) (fB : Nat → Int32) (fT : Nat → Int32) (sv : Int32) (fC : Nat → Int64) (rs : Int64) (dk : Int32) (ds : Int32) (fL : Nat → Int32) (fl : Nat → Int32) (fh : Nat → Int32)  (c0 : Nat) (hg : g_ok c0 fO fA fB fT) : Met l yX0_findWhatStatesComeTo wX0_findWhatStatesComeTo ({ frames := 2, cells := 0, slots := 0, locals := 47 }) (va_Pc [.ref (ad 0)] (g_Pre (dC, dI) vwCl (gty cz ci cj) (gw ad cz ci cj ((nI c0), fO, fA, fB, fT, sv, fC, rs, dk, ds, fL, fl, fh)) sz)) (va_Qv (fun (u : GS) => ∃ fC2 : Nat → Int64, (∀ a, a < c0 → ∀ m, b_t (fC2 a) m = true ↔ s_to c0 (gmv fO fA fB) (gtg fT) a m) ∧ u = ((nI c0), fO, fA, fB, fT, sv, fC2, rs, dk, ds, fL, fl, fh)) (g_At (dC, dI) vwCl (gty cz ci cj) (va_A (gw ad cz ci cj ((nI c0), fO, fA, fB, fT, sv, fC, rs, dk, ds, fL, fl, fh)) sz) (gw ad cz ci cj)) (va_A (gw ad cz ci cj ((nI c0), fO, fA, fB, fT, sv, fC, rs, dk, ds, fL, fl, fh)) sz)) 0 0 (va_A (gw ad cz ci cj ((nI c0), fO, fA, fB, fT, sv, fC, rs, dk, ds, fL, fl, fh)) sz) := by
  refine Met.ofW (cc := cX0_findWhatStatesComeTo) (maxL := 3) (ret := none) (by decide) rfl ?_
  intro p e s m args below meth c s₁ Bd hml hv
  obtain ⟨rfl, hsz, hP, hK, hD0⟩ := hv
  have hx := Bd.exec
  have hb := Bd.bytes
  have hr := Bd.returns
  have hts := atoms_spec (ws := wX0_findWhatStatesComeTo) Bd.pre
  have hw : ∀ w ∈ wAll, w.before _ s = true := fun w h => hts w (List.mem_cons_of_mem _ h)
  have hown : s.vm.findClass "GameGraph" = some m.cls := findClass_of_methodNamed Bd.named
  have hlocks := Bd.notSynchronized
  subst hsz
  have hD := hD0.self (sz := s.heap.size)
  generalize hAe : va_A (gw ad cz ci cj ((nI c0), fO, fA, fB, fT, sv, fC, rs, dk, ds, fL, fl, fh)) s.heap.size = Ar at hD ⊢
  have hA : ∀ q : Nat, s.heap.size ≤ q → Ar q := fun q h => by rw [← hAe]; exact Or.inr h
  obtain ⟨H, hH⟩ : ∃ H : Heap, H = s.heap := ⟨_, rfl⟩
  have hS : va_S Ar s.heap H [] := by rw [hH]; exact va_S.rf
  have hP : va_P (dC, dI) vwCl (gw ad cz ci cj ((nI c0), fO, fA, fB, fT, sv, fC, rs, dk, ds, fL, fl, fh)) H := by rw [hH]; exact hP
  rw [← hH]
  have hl := lv_entry ([.ref (ad 0)]) (n := 3) (Nat.le_of_ble_eq_true rfl)
  rw [lg_entry_eq]
  generalize (lg_sl ([.ref (ad 0)]) ++ List.replicate (3 - (lg_sl ([.ref (ad 0)])).length) Slot.unset).toArray = ls at hl ⊢
  have hl : lv_has ls 3 [(0, .ref (ad 0))] := hl
  refine lv_iconst (v := 0) hx hb dX0_findWhatStatesComeTo_0 (by decide) ?_
  refine x_topi (y := nI 0) (rfl) ?_
  refine lv_istore_n (lv' := [(1, .int (nI 0)), (0, .ref (ad 0))]) hx hb dX0_findWhatStatesComeTo_1 rfl hl (by decide) rfl (fun ls hl => ?_)
  refine lp_come1 (dC := dC) (dI := dI) (ad := ad) (cz := cz) (ci := ci) (cj := cj) (Ar := Ar) hx hb hml hown hw hK hA (Nat.le_of_ble_eq_true rfl) (Nat.le_of_ble_eq_true rfl) fO fA fB fT sv rs dk ds fL fl fh c0 hg ?_ (c0 + 1) 0 fC (by omega) (by omega) (fun a ha => absurd ha (Nat.not_lt_zero _)) _ _ hP hD hS _ (lv_sub hl [1, 0] rfl)
  intro fC2 hI H locs hP hD hS ls hl
  refine lv_iconst (v := 0) hx hb dX0_findWhatStatesComeTo_27 (by decide) ?_
  refine x_topi (y := nI 0) (rfl) ?_
  refine lv_istore_n (lv' := [(1, .int (nI 0)), (0, .ref (ad 0))]) hx hb dX0_findWhatStatesComeTo_28 rfl hl (by decide) rfl (fun ls hl => ?_)
  refine lp_come3 (dC := dC) (dI := dI) (ad := ad) (cz := cz) (ci := ci) (cj := cj) (Ar := Ar) hx hb hml hown hw hK hA (Nat.le_of_ble_eq_true rfl) (Nat.le_of_ble_eq_true rfl) fO fA fB fT sv rs dk ds fL fl fh c0 hg ?_ (c0 + 1) 0 fC2 (by omega) (by omega) hI _ _ hP hD hS _ (lv_sub hl [1, 0] rfl)
  intro fC2 hI H locs hP hD hS ls hl
  exact W.vret hx hb hr (fun t ht hW => ⟨⟨((nI c0), fO, fA, fB, fT, sv, fC2, rs, dk, ds, fL, fl, fh), rfl, (⟨fC2, fun a ha m => by rw [hI a ha m, if_neg (Nat.not_lt_zero _)]; exact Iff.rfl, rfl⟩), (by rw [ht]; exact hP), va_K.moved hW.alike hK, hD⟩, hS.F ht⟩) hS.2.2 dX0_findWhatStatesComeTo_87
